-- acts
def mRa (M : mz_M) (m : Nat) (F : Nat → Int32) (A : Nat → Nat → Int32) (B : Nat → Int32) (r : Int32) (x : Int32) (M' : mz_M) : Prop := x = r ∧ ∃ F' A', M' = moF M m F' A' ∧ (∀ k, k < 6 → F' k = F k) ∧ A' 1 = B ∧ ∀ j, (j = 3 ∨ j = 13 ∨ j = 14) → A' j = A j
theorem acA_c {A A' : Nat → Nat → Int32} {D : Nat} {k v a b n : Int32} (h : A' 1 = A 1) : acA A' D k v a b n 1 = acA A D k v a b n 1 := by
  unfold acA lyA
  rw [up_s, up_s, up_s, up_s, h]
theorem t_Mo_actX {sc : Option (Nat × Nat × (Nat → Int32))} {sa : Nat → Nat} {d : Nat} {M : mz_M} {z : Nat × Nat} {m : Nat} (w : g_Mo M.2.2 m) {F : Nat → Int32} {A : Nat → Nat → Int32} {c N D : Nat} {l t : Int32} {K P1 P2 P3 : Nat → Nat} {q : sQ} (hX : mX c N D l t K P1 P2 P3 q A) (hD : D < 60) {u : Nat} (h6 : A 1 6 = nI u) {k a b e : Nat} {R : Int32} (hW : ∀ p q0, plW l t c N (va_up K D k) (va_up P1 D a) (va_up P2 D b) (va_up P3 D e) (qS p (bgQ (ownR c) q0)) (D + 1)) (hAn : ∀ p q0, (caQ (nI c) l t c k a b e (fo (plG (nI c) l t c (va_up K D k) (va_up P1 D a) (va_up P2 D b) (va_up P3 D e) (-1)) (qS p (bgQ (ownR c) q0)) D)).1 = R) : zi sc sa (d + 9) 244 [.ref m, .int (nI (kmN k)), .int (nI a), .int (nI b), .int (nI e)] (moF M m F A) z (mRa M m F A (acA A D (nI (kmN k)) (nI a) (nI b) (nI e) (nI u + 1) 1) R) := by
  obtain ⟨⟨c1, c2, c3, c4, c5⟩, ⟨k1, k2, k3, k4, ln, k5, k6, k7⟩, hd, hv, he, hI, hV, hn⟩ := id hX
  have hd2 : ∀ i, i < D → A 1 (19 + 4 * i + 0) = nI (kmN (va_up K D k i)) ∧ A 1 (19 + 4 * i + 1) = nI (va_up P1 D a i) ∧ A 1 (19 + 4 * i + 2) = nI (va_up P2 D b i) ∧ A 1 (19 + 4 * i + 3) = nI (va_up P3 D e i) := by
    intro i hi
    rw [up_n (Nat.ne_of_lt hi), up_n (Nat.ne_of_lt hi), up_n (Nat.ne_of_lt hi), up_n (Nat.ne_of_lt hi)]
    exact hd i hi
  have g := q_Mo_acts (sc := sc) (sa := sa) (d := d) (z := z) (F := F) w c1 (show N ≤ 200 by omega) c4 k1 k2 k3 k4 hD h6 hd2 hW
  simp only [up_s] at g
  refine zi_m ?_ g
  intro x M1 ⟨p, q0, F', A', e1, e2, e3, e4, e5⟩
  exact ⟨e1.trans (hAn p q0), F', A', e2, fun k hk => e3 k (by omega), e4, fun j hj => e5 j (by omega)⟩
theorem s_Mo_isFull {sc : Option (Nat × Nat × (Nat → Int32))} {sa : Nat → Nat} {d : Nat} {M : mz_M} {z : Nat × Nat} {m : Nat} (w : g_Mo M.2.2 m) {F : Nat → Int32} {A : Nat → Nat → Int32} {u : Nat} (h6 : A 1 6 = nI u) (hu : u ≤ 30) : zx sc sa (d + 1) 245 [.ref m] (moF M m F A) z z (some (.int (bz (u = 30)))) (moF M m F A) := by
  refine zxin ym_Mo_isFull [.ref m] rfl rfl rfl rfl ?_
  refine z_aload_n (q := 1) rfl rfl rfl ?_
  refine z_getR (q := 4) rfl rfl rfl (Mo_k w) (Mo_r0 w) ?_
  refine z_bipush (q := 6) (v := 6) rfl rfl rfl ?_
  refine z_iald (q := 7) rfl rfl (Mo_a0 w) (vp_in_nI (n := 6) (by omega) (by omega)) ?_
  rw [moF_a0]
  try rw [nI_clamp (by omega)]
  rw [show A 1 (6 : Int32).toNatClampNeg = nI u from h6]
  refine z_bipush (q := 9) (v := 30) rfl rfl rfl ?_
  refine z_ic_ne (q := 12) rfl rfl (fun h9 => ?_) (fun h9 => ?_)
  · refine z_iconst (q := 17) (v := 0) rfl rfl rfl ?_
    refine z_iretz rfl rfl (rfl) ?_
    first
      | exact bzr_t ((nI_eq (show u < 2 ^ 31 by omega) (show 30 < 2 ^ 31 by omega)).mp h9)
      | exact bzr_f (fun h => h9 ((nI_eq (show u < 2 ^ 31 by omega) (show 30 < 2 ^ 31 by omega)).mpr h))
      | fail "none"
  · refine z_iconst (q := 13) (v := 1) rfl rfl rfl ?_
    refine z_goto rfl ?_
    refine z_iretz rfl rfl (rfl) ?_
    first
      | exact bzr_t ((nI_eq (show u < 2 ^ 31 by omega) (show 30 < 2 ^ 31 by omega)).mp h9)
      | exact bzr_f (fun h => h9 ((nI_eq (show u < 2 ^ 31 by omega) (show 30 < 2 ^ 31 by omega)).mpr h))
      | fail "none"
theorem mRa_w {M : mz_M} {m : Nat} {c D : Nat} {l t : Int32} {K P1 P2 P3 : Nat → Nat} {q : sQ} {F FF : Nat → Int32} {A AA : Nat → Nat → Int32} {k v a b n R : Int32} {x : Int32} {M' : mz_M} (ww : mW c D l t K P1 P2 P3 q F A FF AA) (h : mRa M m FF AA (acA AA D k v a b n 1) R x M') : mRa M m F A (acA A D k v a b n 1) R x M' := by
  obtain ⟨e1, F', A', e2, e3, e4, e5⟩ := h
  have g := mPe_w ww
  exact ⟨e1, F', A', e2, fun k hk => (e3 k hk).trans (g.1 k hk), e4.trans (acA_c (g.2 1 (Or.inl rfl))), fun j hj => (e5 j hj).trans (g.2 j (by omega))⟩
theorem t_full0 {sc : Option (Nat × Nat × (Nat → Int32))} {sa : Nat → Nat} {d : Nat} {M : mz_M} {z : Nat × Nat} {m : Nat} (w : g_Mo M.2.2 m) {F : Nat → Int32} {A : Nat → Nat → Int32} {u : Nat} (h6 : A 1 6 = nI u) (hu : u < 30) : zx sc sa (d + 1) 245 [.ref m] (moF M m F A) z z (some (.int 0)) (moF M m F A) := by
  have e := @s_Mo_isFull sc sa d M z m w F A u h6 (by omega)
  rw [bz_f (by omega)] at e
  exact e
theorem t_cell1 {sc : Option (Nat × Nat × (Nat → Int32))} {sa : Nat → Nat} {d : Nat} {M : mz_M} {z : Nat × Nat} {m : Nat} (w : g_Mo M.2.2 m) {F : Nat → Int32} {A : Nat → Nat → Int32} {c : Nat} (hs : A 1 0 = nI c) (h0 : 0 < c) (hC : c ≤ 12) {i : Nat} (hi : i < c) : zx sc sa (d + 2) 209 [.ref m, .int (nI i)] (moF M m F A) z z (some (.int 1)) (moF M m F A) := by
  have e := @s_Mo_isCell sc sa d M z m w F A c hs h0 hC (nI i)
  rw [bz_t (vI_of (by omega) hi)] at e
  exact e
theorem q_Mo_reads {sc : Option (Nat × Nat × (Nat → Int32))} {sa : Nat → Nat} {d : Nat} {M : mz_M} {z : Nat × Nat} {m : Nat} (w : g_Mo M.2.2 m) {F : Nat → Int32} {A : Nat → Nat → Int32} {c N D : Nat} {l t : Int32} {K P1 P2 P3 : Nat → Nat} {q : sQ} (hX : mX c N D l t K P1 P2 P3 q A) {u : Nat} (hu6 : A 1 6 = nI u) (hu : u ≤ 30) {j i : Nat} (hj : j < q.1) (hi : i < c) (hD : D < 60) (hu2 : u < 30) {R : Int32} (hW : ∀ p q0, plW l t c N (va_up K D 1) (va_up P1 D j) (va_up P2 D i) (va_up P3 D 0) (qS p (bgQ (ownR c) q0)) (D + 1)) (hAn : ∀ p q0, (caQ (nI c) l t c 1 j i 0 (fo (plG (nI c) l t c (va_up K D 1) (va_up P1 D j) (va_up P2 D i) (va_up P3 D 0) (-1)) (qS p (bgQ (ownR c) q0)) D)).1 = R)  : zi sc sa (d + 12) 246 [.ref m, .int (nI j), .int (nI i)] (moF M m F A) z (mRa M m F A (acA A D (nI (kmN 1)) (nI j) (nI i) (nI 0) (nI u + 1) 1) R) := by
  obtain ⟨⟨c1, c2, c3, c4, c5⟩, ⟨k1, k2, k3, k4, ln, k5, k6, k7⟩, hd, hv, he, hI, hV, hn⟩ := id hX
  have b1 := hI.1
  have b2 := hI.2.1
  refine zin ym_Mo_reads [.ref m, .int (nI j), .int (nI i)] rfl rfl rfl rfl ?_
  refine z_aload_n (q := 1) rfl rfl rfl ?_
  refine z_iload_n (q := 2) rfl rfl rfl ?_
  refine z_cv1qi (q := 5) rfl rfl rfl (Mo_k w) (q_Mo_isVersion w hX) (fun x9 M9 h9 => ?_)
  obtain ⟨rfl, FF, AA, rfl, ww⟩ := h9
  rw [bz_t (vI_of (by omega) hj)]
  refine z_if_eq (q := 8) rfl rfl (fun h5 => ?_) (fun h5 => ?_)
  · exact absurd h5 (by decide)
  · refine z_aload_n (q := 9) rfl rfl rfl ?_
    refine z_iload_n (q := 10) rfl rfl rfl ?_
    refine z_cv1i (q := 13) rfl rfl rfl (Mo_k w) (t_cell1 w ((congrFun (ww.2.1.2.2.2 1 (by omega)) 0).trans k1) c2 c1 hi) ?_
    refine z_if_ne (q := 16) rfl rfl (fun h13 => ?_) (fun h13 => ?_)
    · refine z_aload_n (q := 20) rfl rfl rfl ?_
      refine z_cv0i (q := 23) rfl rfl rfl (Mo_k w) (t_full0 w ((congrFun (ww.2.1.2.2.2 1 (by omega)) 6).trans hu6) hu2) ?_
      refine z_if_eq (q := 26) rfl rfl (fun h23 => ?_) (fun h23 => ?_)
      · refine z_aload_n (q := 32) rfl rfl rfl ?_
        refine z_iconst (q := 33) (v := 2) rfl rfl rfl ?_
        refine z_iload_n (q := 34) rfl rfl rfl ?_
        refine z_iload_n (q := 35) rfl rfl rfl ?_
        refine z_iconst (q := 36) (v := 0) rfl rfl rfl ?_
        refine z_cv4qi (q := 39) rfl rfl rfl (Mo_k w) (t_Mo_actX (k := 1) (a := j) (b := i) (e := 0) w (mX_c (ww.2.1.2.2.2 1 (by omega)) hX) hD ((congrFun (ww.2.1.2.2.2 1 (by omega)) 6).trans hu6) hW hAn) (fun x9 M9 h9 => ?_)
        have hra := mRa_w ww h9
        refine z_ireti rfl rfl ?_
        exact ⟨_, rfl, hra⟩
      · exact absurd h23 (by decide)
    · exact absurd h13 (by decide)
theorem n_Mo_reads {sc : Option (Nat × Nat × (Nat → Int32))} {sa : Nat → Nat} {d : Nat} {M : mz_M} {z : Nat × Nat} {m : Nat} (w : g_Mo M.2.2 m) {F : Nat → Int32} {A : Nat → Nat → Int32} {c N D : Nat} {l t : Int32} {K P1 P2 P3 : Nat → Nat} {q : sQ} (hX : mX c N D l t K P1 P2 P3 q A) {u : Nat} (hu6 : A 1 6 = nI u) (hu : u ≤ 30) {a b : Int32} (hno : ¬ ((vI q.1 a ∧ vI c b) ∧ u < 30))  : zi sc sa (d + 12) 246 [.ref m, .int a, .int b] (moF M m F A) z (mR M m F A (if vI q.1 a ∧ vI c b then -5 else -2)) := by
  obtain ⟨⟨c1, c2, c3, c4, c5⟩, ⟨k1, k2, k3, k4, ln, k5, k6, k7⟩, hd, hv, he, hI, hV, hn⟩ := id hX
  have b1 := hI.1
  have b2 := hI.2.1
  refine zin ym_Mo_reads [.ref m, .int a, .int b] rfl rfl rfl rfl ?_
  refine z_aload_n (q := 1) rfl rfl rfl ?_
  refine z_iload_n (q := 2) rfl rfl rfl ?_
  refine z_cv1qi (q := 5) rfl rfl rfl (Mo_k w) (q_Mo_isVersion w hX) (fun x9 M9 h9 => ?_)
  obtain ⟨rfl, FF, AA, rfl, ww⟩ := h9
  refine z_if_eq (q := 8) rfl rfl (fun h5 => ?_) (fun h5 => ?_)
  · refine z_bipush (q := 18) (v := -2) rfl rfl rfl ?_
    refine z_ireti rfl rfl ?_
    first
      | exact qz_t ⟨bz_n.mp h5, bz_n.mp h13⟩ rfl ⟨FF, AA, rfl, mPe_w ww⟩
      | exact qz_f (fun h => bz_0.mp h13 h.2) ⟨FF, AA, rfl, mPe_w ww⟩
      | exact qz_f (fun h => bz_0.mp h5 h.1) ⟨FF, AA, rfl, mPe_w ww⟩
      | fail "none"
  · refine z_aload_n (q := 9) rfl rfl rfl ?_
    refine z_iload_n (q := 10) rfl rfl rfl ?_
    refine z_cv1i (q := 13) rfl rfl rfl (Mo_k w) (s_Mo_isCell w ((congrFun (ww.2.1.2.2.2 1 (by omega)) 0).trans k1) c2 c1) ?_
    refine z_if_ne (q := 16) rfl rfl (fun h13 => ?_) (fun h13 => ?_)
    · refine z_aload_n (q := 20) rfl rfl rfl ?_
      refine z_cv0i (q := 23) rfl rfl rfl (Mo_k w) (s_Mo_isFull w ((congrFun (ww.2.1.2.2.2 1 (by omega)) 6).trans hu6) hu) ?_
      refine z_if_eq (q := 26) rfl rfl (fun h23 => ?_) (fun h23 => ?_)
      · exact absurd ⟨⟨bz_n.mp h5, bz_n.mp h13⟩, by have := bz_0.mp h23; omega⟩ hno
      · refine z_bipush (q := 28) (v := -5) rfl rfl rfl ?_
        refine z_goto rfl ?_
        refine z_ireti rfl rfl ?_
        first
          | exact qz_t ⟨bz_n.mp h5, bz_n.mp h13⟩ rfl ⟨FF, AA, rfl, mPe_w ww⟩
          | exact qz_f (fun h => bz_0.mp h13 h.2) ⟨FF, AA, rfl, mPe_w ww⟩
          | exact qz_f (fun h => bz_0.mp h5 h.1) ⟨FF, AA, rfl, mPe_w ww⟩
          | fail "none"
    · refine z_bipush (q := 18) (v := -2) rfl rfl rfl ?_
      refine z_ireti rfl rfl ?_
      first
        | exact qz_t ⟨bz_n.mp h5, bz_n.mp h13⟩ rfl ⟨FF, AA, rfl, mPe_w ww⟩
        | exact qz_f (fun h => bz_0.mp h13 h.2) ⟨FF, AA, rfl, mPe_w ww⟩
        | exact qz_f (fun h => bz_0.mp h5 h.1) ⟨FF, AA, rfl, mPe_w ww⟩
        | fail "none"
theorem q_Mo_finds {sc : Option (Nat × Nat × (Nat → Int32))} {sa : Nat → Nat} {d : Nat} {M : mz_M} {z : Nat × Nat} {m : Nat} (w : g_Mo M.2.2 m) {F : Nat → Int32} {A : Nat → Nat → Int32} {c N D : Nat} {l t : Int32} {K P1 P2 P3 : Nat → Nat} {q : sQ} (hX : mX c N D l t K P1 P2 P3 q A) {u : Nat} (hu6 : A 1 6 = nI u) (hu : u ≤ 30) {j i : Nat} (hj : j < q.1) (hi : i < c) (hD : D < 60) (hu2 : u < 30) {R : Int32} (hW : ∀ p q0, plW l t c N (va_up K D 4) (va_up P1 D j) (va_up P2 D i) (va_up P3 D 0) (qS p (bgQ (ownR c) q0)) (D + 1)) (hAn : ∀ p q0, (caQ (nI c) l t c 4 j i 0 (fo (plG (nI c) l t c (va_up K D 4) (va_up P1 D j) (va_up P2 D i) (va_up P3 D 0) (-1)) (qS p (bgQ (ownR c) q0)) D)).1 = R)  : zi sc sa (d + 12) 249 [.ref m, .int (nI j), .int (nI i)] (moF M m F A) z (mRa M m F A (acA A D (nI (kmN 4)) (nI j) (nI i) (nI 0) (nI u + 1) 1) R) := by
  obtain ⟨⟨c1, c2, c3, c4, c5⟩, ⟨k1, k2, k3, k4, ln, k5, k6, k7⟩, hd, hv, he, hI, hV, hn⟩ := id hX
  have b1 := hI.1
  have b2 := hI.2.1
  refine zin ym_Mo_finds [.ref m, .int (nI j), .int (nI i)] rfl rfl rfl rfl ?_
  refine z_aload_n (q := 1) rfl rfl rfl ?_
  refine z_iload_n (q := 2) rfl rfl rfl ?_
  refine z_cv1qi (q := 5) rfl rfl rfl (Mo_k w) (q_Mo_isVersion w hX) (fun x9 M9 h9 => ?_)
  obtain ⟨rfl, FF, AA, rfl, ww⟩ := h9
  rw [bz_t (vI_of (by omega) hj)]
  refine z_if_eq (q := 8) rfl rfl (fun h5 => ?_) (fun h5 => ?_)
  · exact absurd h5 (by decide)
  · refine z_aload_n (q := 9) rfl rfl rfl ?_
    refine z_iload_n (q := 10) rfl rfl rfl ?_
    refine z_cv1i (q := 13) rfl rfl rfl (Mo_k w) (t_cell1 w ((congrFun (ww.2.1.2.2.2 1 (by omega)) 0).trans k1) c2 c1 hi) ?_
    refine z_if_ne (q := 16) rfl rfl (fun h13 => ?_) (fun h13 => ?_)
    · refine z_aload_n (q := 20) rfl rfl rfl ?_
      refine z_cv0i (q := 23) rfl rfl rfl (Mo_k w) (t_full0 w ((congrFun (ww.2.1.2.2.2 1 (by omega)) 6).trans hu6) hu2) ?_
      refine z_if_eq (q := 26) rfl rfl (fun h23 => ?_) (fun h23 => ?_)
      · refine z_aload_n (q := 32) rfl rfl rfl ?_
        refine z_iconst (q := 33) (v := 3) rfl rfl rfl ?_
        refine z_iload_n (q := 34) rfl rfl rfl ?_
        refine z_iload_n (q := 35) rfl rfl rfl ?_
        refine z_iconst (q := 36) (v := 0) rfl rfl rfl ?_
        refine z_cv4qi (q := 39) rfl rfl rfl (Mo_k w) (t_Mo_actX (k := 4) (a := j) (b := i) (e := 0) w (mX_c (ww.2.1.2.2.2 1 (by omega)) hX) hD ((congrFun (ww.2.1.2.2.2 1 (by omega)) 6).trans hu6) hW hAn) (fun x9 M9 h9 => ?_)
        have hra := mRa_w ww h9
        refine z_ireti rfl rfl ?_
        exact ⟨_, rfl, hra⟩
      · exact absurd h23 (by decide)
    · exact absurd h13 (by decide)
theorem n_Mo_finds {sc : Option (Nat × Nat × (Nat → Int32))} {sa : Nat → Nat} {d : Nat} {M : mz_M} {z : Nat × Nat} {m : Nat} (w : g_Mo M.2.2 m) {F : Nat → Int32} {A : Nat → Nat → Int32} {c N D : Nat} {l t : Int32} {K P1 P2 P3 : Nat → Nat} {q : sQ} (hX : mX c N D l t K P1 P2 P3 q A) {u : Nat} (hu6 : A 1 6 = nI u) (hu : u ≤ 30) {a b : Int32} (hno : ¬ ((vI q.1 a ∧ vI c b) ∧ u < 30))  : zi sc sa (d + 12) 249 [.ref m, .int a, .int b] (moF M m F A) z (mR M m F A (if vI q.1 a ∧ vI c b then -5 else -2)) := by
  obtain ⟨⟨c1, c2, c3, c4, c5⟩, ⟨k1, k2, k3, k4, ln, k5, k6, k7⟩, hd, hv, he, hI, hV, hn⟩ := id hX
  have b1 := hI.1
  have b2 := hI.2.1
  refine zin ym_Mo_finds [.ref m, .int a, .int b] rfl rfl rfl rfl ?_
  refine z_aload_n (q := 1) rfl rfl rfl ?_
  refine z_iload_n (q := 2) rfl rfl rfl ?_
  refine z_cv1qi (q := 5) rfl rfl rfl (Mo_k w) (q_Mo_isVersion w hX) (fun x9 M9 h9 => ?_)
  obtain ⟨rfl, FF, AA, rfl, ww⟩ := h9
  refine z_if_eq (q := 8) rfl rfl (fun h5 => ?_) (fun h5 => ?_)
  · refine z_bipush (q := 18) (v := -2) rfl rfl rfl ?_
    refine z_ireti rfl rfl ?_
    first
      | exact qz_t ⟨bz_n.mp h5, bz_n.mp h13⟩ rfl ⟨FF, AA, rfl, mPe_w ww⟩
      | exact qz_f (fun h => bz_0.mp h13 h.2) ⟨FF, AA, rfl, mPe_w ww⟩
      | exact qz_f (fun h => bz_0.mp h5 h.1) ⟨FF, AA, rfl, mPe_w ww⟩
      | fail "none"
  · refine z_aload_n (q := 9) rfl rfl rfl ?_
    refine z_iload_n (q := 10) rfl rfl rfl ?_
    refine z_cv1i (q := 13) rfl rfl rfl (Mo_k w) (s_Mo_isCell w ((congrFun (ww.2.1.2.2.2 1 (by omega)) 0).trans k1) c2 c1) ?_
    refine z_if_ne (q := 16) rfl rfl (fun h13 => ?_) (fun h13 => ?_)
    · refine z_aload_n (q := 20) rfl rfl rfl ?_
      refine z_cv0i (q := 23) rfl rfl rfl (Mo_k w) (s_Mo_isFull w ((congrFun (ww.2.1.2.2.2 1 (by omega)) 6).trans hu6) hu) ?_
      refine z_if_eq (q := 26) rfl rfl (fun h23 => ?_) (fun h23 => ?_)
      · exact absurd ⟨⟨bz_n.mp h5, bz_n.mp h13⟩, by have := bz_0.mp h23; omega⟩ hno
      · refine z_bipush (q := 28) (v := -5) rfl rfl rfl ?_
        refine z_goto rfl ?_
        refine z_ireti rfl rfl ?_
        first
          | exact qz_t ⟨bz_n.mp h5, bz_n.mp h13⟩ rfl ⟨FF, AA, rfl, mPe_w ww⟩
          | exact qz_f (fun h => bz_0.mp h13 h.2) ⟨FF, AA, rfl, mPe_w ww⟩
          | exact qz_f (fun h => bz_0.mp h5 h.1) ⟨FF, AA, rfl, mPe_w ww⟩
          | fail "none"
    · refine z_bipush (q := 18) (v := -2) rfl rfl rfl ?_
      refine z_ireti rfl rfl ?_
      first
        | exact qz_t ⟨bz_n.mp h5, bz_n.mp h13⟩ rfl ⟨FF, AA, rfl, mPe_w ww⟩
        | exact qz_f (fun h => bz_0.mp h13 h.2) ⟨FF, AA, rfl, mPe_w ww⟩
        | exact qz_f (fun h => bz_0.mp h5 h.1) ⟨FF, AA, rfl, mPe_w ww⟩
        | fail "none"
theorem ne40 {n : Nat} (h : n + 1 ≤ 40) : ¬ nI n = 40 := fun e => by
  have g := (nI_eq (show n < 2 ^ 31 by omega) (show 40 < 2 ^ 31 by omega)).mp e
  omega
theorem q_Mo_sets {sc : Option (Nat × Nat × (Nat → Int32))} {sa : Nat → Nat} {d : Nat} {M : mz_M} {z : Nat × Nat} {m : Nat} (w : g_Mo M.2.2 m) {F : Nat → Int32} {A : Nat → Nat → Int32} {c N D : Nat} {l t : Int32} {K P1 P2 P3 : Nat → Nat} {q : sQ} (hX : mX c N D l t K P1 P2 P3 q A) {u : Nat} (hu6 : A 1 6 = nI u) (hu : u ≤ 30) {j i k : Nat} (hj : j < q.1) (hi : i < c) (hk : k < c) (hr : q.1 + 1 ≤ 40) (hD : D < 60) (hu2 : u < 30) {R : Int32} (hW : ∀ p q0, plW l t c N (va_up K D 2) (va_up P1 D j) (va_up P2 D i) (va_up P3 D k) (qS p (bgQ (ownR c) q0)) (D + 1)) (hAn : ∀ p q0, (caQ (nI c) l t c 2 j i k (fo (plG (nI c) l t c (va_up K D 2) (va_up P1 D j) (va_up P2 D i) (va_up P3 D k) (-1)) (qS p (bgQ (ownR c) q0)) D)).1 = R)  : zi sc sa (d + 12) 247 [.ref m, .int (nI j), .int (nI i), .int (nI k)] (moF M m F A) z (mRa M m F A (acA A D (nI (kmN 2)) (nI j) (nI i) (nI k) (nI u + 1) 1) R) := by
  obtain ⟨⟨c1, c2, c3, c4, c5⟩, ⟨k1, k2, k3, k4, ln, k5, k6, k7⟩, hd, hv, he, hI, hV, hn⟩ := id hX
  have b1 := hI.1
  have b2 := hI.2.1
  refine zin ym_Mo_sets [.ref m, .int (nI j), .int (nI i), .int (nI k)] rfl rfl rfl rfl ?_
  refine z_aload_n (q := 1) rfl rfl rfl ?_
  refine z_iload_n (q := 2) rfl rfl rfl ?_
  refine z_cv1qi (q := 5) rfl rfl rfl (Mo_k w) (q_Mo_isVersion w hX) (fun x9 M9 h9 => ?_)
  obtain ⟨rfl, FF, AA, rfl, ww⟩ := h9
  rw [bz_t (vI_of (by omega) hj)]
  refine z_if_eq (q := 8) rfl rfl (fun h5 => ?_) (fun h5 => ?_)
  · exact absurd h5 (by decide)
  · refine z_aload_n (q := 9) rfl rfl rfl ?_
    refine z_iload_n (q := 10) rfl rfl rfl ?_
    refine z_cv1i (q := 13) rfl rfl rfl (Mo_k w) (t_cell1 w ((congrFun (ww.2.1.2.2.2 1 (by omega)) 0).trans k1) c2 c1 hi) ?_
    refine z_if_eq (q := 16) rfl rfl (fun h13 => ?_) (fun h13 => ?_)
    · exact absurd h13 (by decide)
    · refine z_aload_n (q := 17) rfl rfl rfl ?_
      refine z_iload_n (q := 18) rfl rfl rfl ?_
      refine z_cv1i (q := 21) rfl rfl rfl (Mo_k w) (t_cell1 w ((congrFun (ww.2.1.2.2.2 1 (by omega)) 0).trans k1) c2 c1 hk) ?_
      refine z_if_ne (q := 24) rfl rfl (fun h21 => ?_) (fun h21 => ?_)
      · refine z_aload_n (q := 28) rfl rfl rfl ?_
        refine z_getI (q := 31) rfl rfl rfl (Mo_k w) ?_
        rw [moF_g14]
        rw [ww.1]
        refine z_bipush (q := 33) (v := 40) rfl rfl rfl ?_
        refine z_ic_eq (q := 36) rfl rfl (fun h33 => ?_) (fun h33 => ?_)
        · exact absurd h33 (ne40 hr)
        · refine z_aload_n (q := 37) rfl rfl rfl ?_
          refine z_cv0i (q := 40) rfl rfl rfl (Mo_k w) (t_full0 w ((congrFun (ww.2.1.2.2.2 1 (by omega)) 6).trans hu6) hu2) ?_
          refine z_if_eq (q := 43) rfl rfl (fun h40 => ?_) (fun h40 => ?_)
          · refine z_aload_n (q := 49) rfl rfl rfl ?_
            refine z_iconst (q := 50) (v := 0) rfl rfl rfl ?_
            refine z_iload_n (q := 51) rfl rfl rfl ?_
            refine z_iload_n (q := 52) rfl rfl rfl ?_
            refine z_iload_n (q := 53) rfl rfl rfl ?_
            refine z_cv4qi (q := 56) rfl rfl rfl (Mo_k w) (t_Mo_actX (k := 2) (a := j) (b := i) (e := k) w (mX_c (ww.2.1.2.2.2 1 (by omega)) hX) hD ((congrFun (ww.2.1.2.2.2 1 (by omega)) 6).trans hu6) hW hAn) (fun x9 M9 h9 => ?_)
            have hra := mRa_w ww h9
            refine z_ireti rfl rfl ?_
            exact ⟨_, rfl, hra⟩
          · exact absurd h40 (by decide)
      · exact absurd h21 (by decide)
theorem n_Mo_sets {sc : Option (Nat × Nat × (Nat → Int32))} {sa : Nat → Nat} {d : Nat} {M : mz_M} {z : Nat × Nat} {m : Nat} (w : g_Mo M.2.2 m) {F : Nat → Int32} {A : Nat → Nat → Int32} {c N D : Nat} {l t : Int32} {K P1 P2 P3 : Nat → Nat} {q : sQ} (hX : mX c N D l t K P1 P2 P3 q A) {u : Nat} (hu6 : A 1 6 = nI u) (hu : u ≤ 30) {a b e : Int32} (hno : ¬ (((vI q.1 a ∧ vI c b) ∧ vI c e) ∧ (u < 30 ∧ q.1 + 1 ≤ 40)))  : zi sc sa (d + 12) 247 [.ref m, .int a, .int b, .int e] (moF M m F A) z (mR M m F A (if (vI q.1 a ∧ vI c b) ∧ vI c e then -5 else -2)) := by
  obtain ⟨⟨c1, c2, c3, c4, c5⟩, ⟨k1, k2, k3, k4, ln, k5, k6, k7⟩, hd, hv, he, hI, hV, hn⟩ := id hX
  have b1 := hI.1
  have b2 := hI.2.1
  refine zin ym_Mo_sets [.ref m, .int a, .int b, .int e] rfl rfl rfl rfl ?_
  refine z_aload_n (q := 1) rfl rfl rfl ?_
  refine z_iload_n (q := 2) rfl rfl rfl ?_
  refine z_cv1qi (q := 5) rfl rfl rfl (Mo_k w) (q_Mo_isVersion w hX) (fun x9 M9 h9 => ?_)
  obtain ⟨rfl, FF, AA, rfl, ww⟩ := h9
  refine z_if_eq (q := 8) rfl rfl (fun h5 => ?_) (fun h5 => ?_)
  · refine z_bipush (q := 26) (v := -2) rfl rfl rfl ?_
    refine z_ireti rfl rfl ?_
    first
      | exact qz_t ⟨⟨bz_n.mp h5, bz_n.mp h13⟩, bz_n.mp h21⟩ rfl ⟨FF, AA, rfl, mPe_w ww⟩
      | exact qz_f (fun h => bz_0.mp h21 h.2) ⟨FF, AA, rfl, mPe_w ww⟩
      | exact qz_f (fun h => bz_0.mp h13 h.1.2) ⟨FF, AA, rfl, mPe_w ww⟩
      | exact qz_f (fun h => bz_0.mp h5 h.1.1) ⟨FF, AA, rfl, mPe_w ww⟩
      | fail "none"
  · refine z_aload_n (q := 9) rfl rfl rfl ?_
    refine z_iload_n (q := 10) rfl rfl rfl ?_
    refine z_cv1i (q := 13) rfl rfl rfl (Mo_k w) (s_Mo_isCell w ((congrFun (ww.2.1.2.2.2 1 (by omega)) 0).trans k1) c2 c1) ?_
    refine z_if_eq (q := 16) rfl rfl (fun h13 => ?_) (fun h13 => ?_)
    · refine z_bipush (q := 26) (v := -2) rfl rfl rfl ?_
      refine z_ireti rfl rfl ?_
      first
        | exact qz_t ⟨⟨bz_n.mp h5, bz_n.mp h13⟩, bz_n.mp h21⟩ rfl ⟨FF, AA, rfl, mPe_w ww⟩
        | exact qz_f (fun h => bz_0.mp h21 h.2) ⟨FF, AA, rfl, mPe_w ww⟩
        | exact qz_f (fun h => bz_0.mp h13 h.1.2) ⟨FF, AA, rfl, mPe_w ww⟩
        | exact qz_f (fun h => bz_0.mp h5 h.1.1) ⟨FF, AA, rfl, mPe_w ww⟩
        | fail "none"
    · refine z_aload_n (q := 17) rfl rfl rfl ?_
      refine z_iload_n (q := 18) rfl rfl rfl ?_
      refine z_cv1i (q := 21) rfl rfl rfl (Mo_k w) (s_Mo_isCell w ((congrFun (ww.2.1.2.2.2 1 (by omega)) 0).trans k1) c2 c1) ?_
      refine z_if_ne (q := 24) rfl rfl (fun h21 => ?_) (fun h21 => ?_)
      · refine z_aload_n (q := 28) rfl rfl rfl ?_
        refine z_getI (q := 31) rfl rfl rfl (Mo_k w) ?_
        rw [moF_g14]
        rw [ww.1]
        refine z_bipush (q := 33) (v := 40) rfl rfl rfl ?_
        refine z_ic_eq (q := 36) rfl rfl (fun h33 => ?_) (fun h33 => ?_)
        · refine z_bipush (q := 45) (v := -5) rfl rfl rfl ?_
          refine z_goto rfl ?_
          refine z_ireti rfl rfl ?_
          first
            | exact qz_t ⟨⟨bz_n.mp h5, bz_n.mp h13⟩, bz_n.mp h21⟩ rfl ⟨FF, AA, rfl, mPe_w ww⟩
            | exact qz_f (fun h => bz_0.mp h21 h.2) ⟨FF, AA, rfl, mPe_w ww⟩
            | exact qz_f (fun h => bz_0.mp h13 h.1.2) ⟨FF, AA, rfl, mPe_w ww⟩
            | exact qz_f (fun h => bz_0.mp h5 h.1.1) ⟨FF, AA, rfl, mPe_w ww⟩
            | fail "none"
        · refine z_aload_n (q := 37) rfl rfl rfl ?_
          refine z_cv0i (q := 40) rfl rfl rfl (Mo_k w) (s_Mo_isFull w ((congrFun (ww.2.1.2.2.2 1 (by omega)) 6).trans hu6) hu) ?_
          refine z_if_eq (q := 43) rfl rfl (fun h40 => ?_) (fun h40 => ?_)
          · exact absurd ⟨⟨⟨bz_n.mp h5, bz_n.mp h13⟩, bz_n.mp h21⟩, by have := bz_0.mp h40; omega, by have g : ¬ q.1 = 40 := fun e => h33 ((nI_eq (show q.1 < 2 ^ 31 by omega) (show 40 < 2 ^ 31 by omega)).mpr e); omega⟩ hno
          · refine z_bipush (q := 45) (v := -5) rfl rfl rfl ?_
            refine z_goto rfl ?_
            refine z_ireti rfl rfl ?_
            first
              | exact qz_t ⟨⟨bz_n.mp h5, bz_n.mp h13⟩, bz_n.mp h21⟩ rfl ⟨FF, AA, rfl, mPe_w ww⟩
              | exact qz_f (fun h => bz_0.mp h21 h.2) ⟨FF, AA, rfl, mPe_w ww⟩
              | exact qz_f (fun h => bz_0.mp h13 h.1.2) ⟨FF, AA, rfl, mPe_w ww⟩
              | exact qz_f (fun h => bz_0.mp h5 h.1.1) ⟨FF, AA, rfl, mPe_w ww⟩
              | fail "none"
      · refine z_bipush (q := 26) (v := -2) rfl rfl rfl ?_
        refine z_ireti rfl rfl ?_
        first
          | exact qz_t ⟨⟨bz_n.mp h5, bz_n.mp h13⟩, bz_n.mp h21⟩ rfl ⟨FF, AA, rfl, mPe_w ww⟩
          | exact qz_f (fun h => bz_0.mp h21 h.2) ⟨FF, AA, rfl, mPe_w ww⟩
          | exact qz_f (fun h => bz_0.mp h13 h.1.2) ⟨FF, AA, rfl, mPe_w ww⟩
          | exact qz_f (fun h => bz_0.mp h5 h.1.1) ⟨FF, AA, rfl, mPe_w ww⟩
          | fail "none"
theorem q_Mo_joins {sc : Option (Nat × Nat × (Nat → Int32))} {sa : Nat → Nat} {d : Nat} {M : mz_M} {z : Nat × Nat} {m : Nat} (w : g_Mo M.2.2 m) {F : Nat → Int32} {A : Nat → Nat → Int32} {c N D : Nat} {l t : Int32} {K P1 P2 P3 : Nat → Nat} {q : sQ} (hX : mX c N D l t K P1 P2 P3 q A) {u : Nat} (hu6 : A 1 6 = nI u) (hu : u ≤ 30) {j i k : Nat} (hj : j < q.1) (hi : i < c) (hk : k < c) (hr : q.1 + 1 ≤ 40) (hne : ¬ rt (q.2.1 j) c (nI i) = rt (q.2.1 j) c (nI k)) (hD : D < 60) (hu2 : u < 30) {R : Int32} (hW : ∀ p q0, plW l t c N (va_up K D 3) (va_up P1 D j) (va_up P2 D i) (va_up P3 D k) (qS p (bgQ (ownR c) q0)) (D + 1)) (hAn : ∀ p q0, (caQ (nI c) l t c 3 j i k (fo (plG (nI c) l t c (va_up K D 3) (va_up P1 D j) (va_up P2 D i) (va_up P3 D k) (-1)) (qS p (bgQ (ownR c) q0)) D)).1 = R)  : zi sc sa (d + 12) 248 [.ref m, .int (nI j), .int (nI i), .int (nI k)] (moF M m F A) z (mRa M m F A (acA A D (nI (kmN 3)) (nI j) (nI i) (nI k) (nI u + 1) 1) R) := by
  obtain ⟨⟨c1, c2, c3, c4, c5⟩, ⟨k1, k2, k3, k4, ln, k5, k6, k7⟩, hd, hv, he, hI, hV, hn⟩ := id hX
  have b1 := hI.1
  have b2 := hI.2.1
  refine zin ym_Mo_joins [.ref m, .int (nI j), .int (nI i), .int (nI k)] rfl rfl rfl rfl ?_
  refine z_aload_n (q := 1) rfl rfl rfl ?_
  refine z_iload_n (q := 2) rfl rfl rfl ?_
  refine z_cv1qi (q := 5) rfl rfl rfl (Mo_k w) (q_Mo_isVersion w hX) (fun x9 M9 h9 => ?_)
  obtain ⟨rfl, FF, AA, rfl, ww⟩ := h9
  rw [bz_t (vI_of (by omega) hj)]
  refine z_if_eq (q := 8) rfl rfl (fun h5 => ?_) (fun h5 => ?_)
  · exact absurd h5 (by decide)
  · refine z_aload_n (q := 9) rfl rfl rfl ?_
    refine z_iload_n (q := 10) rfl rfl rfl ?_
    refine z_cv1i (q := 13) rfl rfl rfl (Mo_k w) (t_cell1 w ((congrFun (ww.2.1.2.2.2 1 (by omega)) 0).trans k1) c2 c1 hi) ?_
    refine z_if_eq (q := 16) rfl rfl (fun h13 => ?_) (fun h13 => ?_)
    · exact absurd h13 (by decide)
    · refine z_aload_n (q := 17) rfl rfl rfl ?_
      refine z_iload_n (q := 18) rfl rfl rfl ?_
      refine z_cv1i (q := 21) rfl rfl rfl (Mo_k w) (t_cell1 w ((congrFun (ww.2.1.2.2.2 1 (by omega)) 0).trans k1) c2 c1 hk) ?_
      refine z_if_ne (q := 24) rfl rfl (fun h21 => ?_) (fun h21 => ?_)
      · refine z_aload_n (q := 28) rfl rfl rfl ?_
        refine z_getI (q := 31) rfl rfl rfl (Mo_k w) ?_
        rw [moF_g14]
        rw [ww.1]
        refine z_bipush (q := 33) (v := 40) rfl rfl rfl ?_
        refine z_ic_eq (q := 36) rfl rfl (fun h33 => ?_) (fun h33 => ?_)
        · exact absurd h33 (ne40 hr)
        · refine z_aload_n (q := 37) rfl rfl rfl ?_
          refine z_cv0i (q := 40) rfl rfl rfl (Mo_k w) (t_full0 w ((congrFun (ww.2.1.2.2.2 1 (by omega)) 6).trans hu6) hu2) ?_
          refine z_if_ne (q := 43) rfl rfl (fun h40 => ?_) (fun h40 => ?_)
          · exact absurd h40 (by decide)
          · refine z_aload_n (q := 44) rfl rfl rfl ?_
            refine z_iload_n (q := 45) rfl rfl rfl ?_
            refine z_iload_n (q := 46) rfl rfl rfl ?_
            refine z_cv2i (q := 49) rfl rfl rfl (Mo_k w) (s_Mo_rootOf w ww.2.2.1 hI c1 ((congrFun (ww.2.1.2.2.2 1 (by omega)) 0).trans k1) hV hj hi) ?_
            refine z_aload_n (q := 50) rfl rfl rfl ?_
            refine z_iload_n (q := 51) rfl rfl rfl ?_
            refine z_iload_n (q := 52) rfl rfl rfl ?_
            refine z_cv2i (q := 55) rfl rfl rfl (Mo_k w) (s_Mo_rootOf w ww.2.2.1 hI c1 ((congrFun (ww.2.1.2.2.2 1 (by omega)) 0).trans k1) hV hj hk) ?_
            refine z_ic_ne (q := 58) rfl rfl (fun h55 => ?_) (fun h55 => ?_)
            · refine z_aload_n (q := 64) rfl rfl rfl ?_
              refine z_iconst (q := 65) (v := 1) rfl rfl rfl ?_
              refine z_iload_n (q := 66) rfl rfl rfl ?_
              refine z_iload_n (q := 67) rfl rfl rfl ?_
              refine z_iload_n (q := 68) rfl rfl rfl ?_
              refine z_cv4qi (q := 71) rfl rfl rfl (Mo_k w) (t_Mo_actX (k := 3) (a := j) (b := i) (e := k) w (mX_c (ww.2.1.2.2.2 1 (by omega)) hX) hD ((congrFun (ww.2.1.2.2.2 1 (by omega)) 6).trans hu6) hW hAn) (fun x9 M9 h9 => ?_)
              have hra := mRa_w ww h9
              refine z_ireti rfl rfl ?_
              exact ⟨_, rfl, hra⟩
            · exact absurd h55 hne
      · exact absurd h21 (by decide)
theorem n_Mo_joins {sc : Option (Nat × Nat × (Nat → Int32))} {sa : Nat → Nat} {d : Nat} {M : mz_M} {z : Nat × Nat} {m : Nat} (w : g_Mo M.2.2 m) {F : Nat → Int32} {A : Nat → Nat → Int32} {c N D : Nat} {l t : Int32} {K P1 P2 P3 : Nat → Nat} {q : sQ} (hX : mX c N D l t K P1 P2 P3 q A) {u : Nat} (hu6 : A 1 6 = nI u) (hu : u ≤ 30) {a b e : Int32} (hno : ¬ (((vI q.1 a ∧ vI c b) ∧ vI c e) ∧ (u < 30 ∧ q.1 + 1 ≤ 40 ∧ ¬ rt (q.2.1 a.toNatClampNeg) c b = rt (q.2.1 a.toNatClampNeg) c e)))  : zi sc sa (d + 12) 248 [.ref m, .int a, .int b, .int e] (moF M m F A) z (mR M m F A (if (vI q.1 a ∧ vI c b) ∧ vI c e then -5 else -2)) := by
  obtain ⟨⟨c1, c2, c3, c4, c5⟩, ⟨k1, k2, k3, k4, ln, k5, k6, k7⟩, hd, hv, he, hI, hV, hn⟩ := id hX
  have b1 := hI.1
  have b2 := hI.2.1
  refine zin ym_Mo_joins [.ref m, .int a, .int b, .int e] rfl rfl rfl rfl ?_
  refine z_aload_n (q := 1) rfl rfl rfl ?_
  refine z_iload_n (q := 2) rfl rfl rfl ?_
  refine z_cv1qi (q := 5) rfl rfl rfl (Mo_k w) (q_Mo_isVersion w hX) (fun x9 M9 h9 => ?_)
  obtain ⟨rfl, FF, AA, rfl, ww⟩ := h9
  refine z_if_eq (q := 8) rfl rfl (fun h5 => ?_) (fun h5 => ?_)
  · refine z_bipush (q := 26) (v := -2) rfl rfl rfl ?_
    refine z_ireti rfl rfl ?_
    first
      | exact qz_t ⟨⟨bz_n.mp h5, bz_n.mp h13⟩, bz_n.mp h21⟩ rfl ⟨FF, AA, rfl, mPe_w ww⟩
      | exact qz_f (fun h => bz_0.mp h21 h.2) ⟨FF, AA, rfl, mPe_w ww⟩
      | exact qz_f (fun h => bz_0.mp h13 h.1.2) ⟨FF, AA, rfl, mPe_w ww⟩
      | exact qz_f (fun h => bz_0.mp h5 h.1.1) ⟨FF, AA, rfl, mPe_w ww⟩
      | fail "none"
  · refine z_aload_n (q := 9) rfl rfl rfl ?_
    refine z_iload_n (q := 10) rfl rfl rfl ?_
    refine z_cv1i (q := 13) rfl rfl rfl (Mo_k w) (s_Mo_isCell w ((congrFun (ww.2.1.2.2.2 1 (by omega)) 0).trans k1) c2 c1) ?_
    refine z_if_eq (q := 16) rfl rfl (fun h13 => ?_) (fun h13 => ?_)
    · refine z_bipush (q := 26) (v := -2) rfl rfl rfl ?_
      refine z_ireti rfl rfl ?_
      first
        | exact qz_t ⟨⟨bz_n.mp h5, bz_n.mp h13⟩, bz_n.mp h21⟩ rfl ⟨FF, AA, rfl, mPe_w ww⟩
        | exact qz_f (fun h => bz_0.mp h21 h.2) ⟨FF, AA, rfl, mPe_w ww⟩
        | exact qz_f (fun h => bz_0.mp h13 h.1.2) ⟨FF, AA, rfl, mPe_w ww⟩
        | exact qz_f (fun h => bz_0.mp h5 h.1.1) ⟨FF, AA, rfl, mPe_w ww⟩
        | fail "none"
    · refine z_aload_n (q := 17) rfl rfl rfl ?_
      refine z_iload_n (q := 18) rfl rfl rfl ?_
      refine z_cv1i (q := 21) rfl rfl rfl (Mo_k w) (s_Mo_isCell w ((congrFun (ww.2.1.2.2.2 1 (by omega)) 0).trans k1) c2 c1) ?_
      refine z_if_ne (q := 24) rfl rfl (fun h21 => ?_) (fun h21 => ?_)
      · refine z_aload_n (q := 28) rfl rfl rfl ?_
        refine z_getI (q := 31) rfl rfl rfl (Mo_k w) ?_
        rw [moF_g14]
        rw [ww.1]
        refine z_bipush (q := 33) (v := 40) rfl rfl rfl ?_
        refine z_ic_eq (q := 36) rfl rfl (fun h33 => ?_) (fun h33 => ?_)
        · refine z_bipush (q := 60) (v := -5) rfl rfl rfl ?_
          refine z_goto rfl ?_
          refine z_ireti rfl rfl ?_
          first
            | exact qz_t ⟨⟨bz_n.mp h5, bz_n.mp h13⟩, bz_n.mp h21⟩ rfl ⟨FF, AA, rfl, mPe_w ww⟩
            | exact qz_f (fun h => bz_0.mp h21 h.2) ⟨FF, AA, rfl, mPe_w ww⟩
            | exact qz_f (fun h => bz_0.mp h13 h.1.2) ⟨FF, AA, rfl, mPe_w ww⟩
            | exact qz_f (fun h => bz_0.mp h5 h.1.1) ⟨FF, AA, rfl, mPe_w ww⟩
            | fail "none"
        · refine z_aload_n (q := 37) rfl rfl rfl ?_
          refine z_cv0i (q := 40) rfl rfl rfl (Mo_k w) (s_Mo_isFull w ((congrFun (ww.2.1.2.2.2 1 (by omega)) 6).trans hu6) hu) ?_
          refine z_if_ne (q := 43) rfl rfl (fun h40 => ?_) (fun h40 => ?_)
          · refine z_bipush (q := 60) (v := -5) rfl rfl rfl ?_
            refine z_goto rfl ?_
            refine z_ireti rfl rfl ?_
            first
              | exact qz_t ⟨⟨bz_n.mp h5, bz_n.mp h13⟩, bz_n.mp h21⟩ rfl ⟨FF, AA, rfl, mPe_w ww⟩
              | exact qz_f (fun h => bz_0.mp h21 h.2) ⟨FF, AA, rfl, mPe_w ww⟩
              | exact qz_f (fun h => bz_0.mp h13 h.1.2) ⟨FF, AA, rfl, mPe_w ww⟩
              | exact qz_f (fun h => bz_0.mp h5 h.1.1) ⟨FF, AA, rfl, mPe_w ww⟩
              | fail "none"
          · refine z_aload_n (q := 44) rfl rfl rfl ?_
            obtain ⟨j, hj, rfl⟩ := vI_nat (by omega) (bz_n.mp h5)
            obtain ⟨i, hi, rfl⟩ := vI_nat (by omega) (bz_n.mp h13)
            obtain ⟨k, hk, rfl⟩ := vI_nat (by omega) (bz_n.mp h21)
            refine z_iload_n (q := 45) rfl rfl rfl ?_
            refine z_iload_n (q := 46) rfl rfl rfl ?_
            refine z_cv2i (q := 49) rfl rfl rfl (Mo_k w) (s_Mo_rootOf w ww.2.2.1 hI c1 ((congrFun (ww.2.1.2.2.2 1 (by omega)) 0).trans k1) hV hj hi) ?_
            refine z_aload_n (q := 50) rfl rfl rfl ?_
            refine z_iload_n (q := 51) rfl rfl rfl ?_
            refine z_iload_n (q := 52) rfl rfl rfl ?_
            refine z_cv2i (q := 55) rfl rfl rfl (Mo_k w) (s_Mo_rootOf w ww.2.2.1 hI c1 ((congrFun (ww.2.1.2.2.2 1 (by omega)) 0).trans k1) hV hj hk) ?_
            refine z_ic_ne (q := 58) rfl rfl (fun h55 => ?_) (fun h55 => ?_)
            · exact absurd ⟨⟨⟨bz_n.mp h5, bz_n.mp h13⟩, bz_n.mp h21⟩, by have := bz_0.mp h40; omega, by have g : ¬ q.1 = 40 := fun e => h33 ((nI_eq (show q.1 < 2 ^ 31 by omega) (show 40 < 2 ^ 31 by omega)).mpr e); omega, by rw [nI_clamp (show j < 2 ^ 31 by omega)]; exact h55⟩ hno
            · refine z_bipush (q := 60) (v := -5) rfl rfl rfl ?_
              refine z_goto rfl ?_
              refine z_ireti rfl rfl ?_
              first
                | exact qz_t ⟨⟨bz_n.mp h5, bz_n.mp h13⟩, bz_n.mp h21⟩ rfl ⟨FF, AA, rfl, mPe_w ww⟩
                | exact qz_f (fun h => bz_0.mp h21 h.2) ⟨FF, AA, rfl, mPe_w ww⟩
                | exact qz_f (fun h => bz_0.mp h13 h.1.2) ⟨FF, AA, rfl, mPe_w ww⟩
                | exact qz_f (fun h => bz_0.mp h5 h.1.1) ⟨FF, AA, rfl, mPe_w ww⟩
                | fail "none"
      · refine z_bipush (q := 26) (v := -2) rfl rfl rfl ?_
        refine z_ireti rfl rfl ?_
        first
          | exact qz_t ⟨⟨bz_n.mp h5, bz_n.mp h13⟩, bz_n.mp h21⟩ rfl ⟨FF, AA, rfl, mPe_w ww⟩
          | exact qz_f (fun h => bz_0.mp h21 h.2) ⟨FF, AA, rfl, mPe_w ww⟩
          | exact qz_f (fun h => bz_0.mp h13 h.1.2) ⟨FF, AA, rfl, mPe_w ww⟩
          | exact qz_f (fun h => bz_0.mp h5 h.1.1) ⟨FF, AA, rfl, mPe_w ww⟩
          | fail "none"
theorem q_Mo_snaps {sc : Option (Nat × Nat × (Nat → Int32))} {sa : Nat → Nat} {d : Nat} {M : mz_M} {z : Nat × Nat} {m : Nat} (w : g_Mo M.2.2 m) {F : Nat → Int32} {A : Nat → Nat → Int32} {c N D : Nat} {l t : Int32} {K P1 P2 P3 : Nat → Nat} {q : sQ} (hX : mX c N D l t K P1 P2 P3 q A) {u : Nat} (hu6 : A 1 6 = nI u) (hu : u ≤ 30) {j : Nat} (hj : j < q.1) (hne : ¬ q.2.2.1 j = -1) (hD : D < 60) (hu2 : u < 30) {R : Int32} (hW : ∀ p q0, plW l t c N (va_up K D 5) (va_up P1 D j) (va_up P2 D 0) (va_up P3 D 0) (qS p (bgQ (ownR c) q0)) (D + 1)) (hAn : ∀ p q0, (caQ (nI c) l t c 5 j 0 0 (fo (plG (nI c) l t c (va_up K D 5) (va_up P1 D j) (va_up P2 D 0) (va_up P3 D 0) (-1)) (qS p (bgQ (ownR c) q0)) D)).1 = R)  : zi sc sa (d + 12) 250 [.ref m, .int (nI j)] (moF M m F A) z (mRa M m F A (acA A D (nI (kmN 5)) (nI j) (nI 0) (nI 0) (nI u + 1) 1) R) := by
  obtain ⟨⟨c1, c2, c3, c4, c5⟩, ⟨k1, k2, k3, k4, ln, k5, k6, k7⟩, hd, hv, he, hI, hV, hn⟩ := id hX
  have b1 := hI.1
  have b2 := hI.2.1
  refine zin ym_Mo_snaps [.ref m, .int (nI j)] rfl rfl rfl rfl ?_
  refine z_aload_n (q := 1) rfl rfl rfl ?_
  refine z_iload_n (q := 2) rfl rfl rfl ?_
  refine z_cv1qi (q := 5) rfl rfl rfl (Mo_k w) (q_Mo_isVersion w hX) (fun x9 M9 h9 => ?_)
  obtain ⟨rfl, FF, AA, rfl, ww⟩ := h9
  rw [bz_t (vI_of (by omega) hj)]
  refine z_if_ne (q := 8) rfl rfl (fun h5 => ?_) (fun h5 => ?_)
  · refine z_aload_n (q := 12) rfl rfl rfl ?_
    refine z_getR (q := 15) rfl rfl rfl (Mo_k w) (Mo_r10 w) ?_
    refine z_iload_n (q := 16) rfl rfl rfl ?_
    refine z_iald (q := 17) rfl rfl (Mo_a10 w) (by first | assumption | exact vp_in_nI (by omega) (by omega)) ?_
    rw [moF_a10]
    try rw [nI_clamp (by omega)]
    rw [(ww.2.2.2.1 j hj).1]
    refine z_iconst (q := 18) (v := -1) rfl rfl rfl ?_
    refine z_ic_eq (q := 21) rfl rfl (fun h18 => ?_) (fun h18 => ?_)
    · exact absurd h18 hne
    · refine z_aload_n (q := 22) rfl rfl rfl ?_
      refine z_cv0i (q := 25) rfl rfl rfl (Mo_k w) (t_full0 w ((congrFun (ww.2.1.2.2.2 1 (by omega)) 6).trans hu6) hu2) ?_
      refine z_if_eq (q := 28) rfl rfl (fun h25 => ?_) (fun h25 => ?_)
      · refine z_aload_n (q := 34) rfl rfl rfl ?_
        refine z_iconst (q := 35) (v := 4) rfl rfl rfl ?_
        refine z_iload_n (q := 36) rfl rfl rfl ?_
        refine z_iconst (q := 37) (v := 0) rfl rfl rfl ?_
        refine z_iconst (q := 38) (v := 0) rfl rfl rfl ?_
        refine z_cv4qi (q := 41) rfl rfl rfl (Mo_k w) (t_Mo_actX (k := 5) (a := j) (b := 0) (e := 0) w (mX_c (ww.2.1.2.2.2 1 (by omega)) hX) hD ((congrFun (ww.2.1.2.2.2 1 (by omega)) 6).trans hu6) hW hAn) (fun x9 M9 h9 => ?_)
        have hra := mRa_w ww h9
        refine z_ireti rfl rfl ?_
        exact ⟨_, rfl, hra⟩
      · exact absurd h25 (by decide)
  · exact absurd h5 (by decide)
theorem n_Mo_snaps {sc : Option (Nat × Nat × (Nat → Int32))} {sa : Nat → Nat} {d : Nat} {M : mz_M} {z : Nat × Nat} {m : Nat} (w : g_Mo M.2.2 m) {F : Nat → Int32} {A : Nat → Nat → Int32} {c N D : Nat} {l t : Int32} {K P1 P2 P3 : Nat → Nat} {q : sQ} (hX : mX c N D l t K P1 P2 P3 q A) {u : Nat} (hu6 : A 1 6 = nI u) (hu : u ≤ 30) {a : Int32} (hno : ¬ (vI q.1 a ∧ (u < 30 ∧ ¬ q.2.2.1 a.toNatClampNeg = -1)))  : zi sc sa (d + 12) 250 [.ref m, .int a] (moF M m F A) z (mR M m F A (if vI q.1 a then -5 else -2)) := by
  obtain ⟨⟨c1, c2, c3, c4, c5⟩, ⟨k1, k2, k3, k4, ln, k5, k6, k7⟩, hd, hv, he, hI, hV, hn⟩ := id hX
  have b1 := hI.1
  have b2 := hI.2.1
  refine zin ym_Mo_snaps [.ref m, .int a] rfl rfl rfl rfl ?_
  refine z_aload_n (q := 1) rfl rfl rfl ?_
  refine z_iload_n (q := 2) rfl rfl rfl ?_
  refine z_cv1qi (q := 5) rfl rfl rfl (Mo_k w) (q_Mo_isVersion w hX) (fun x9 M9 h9 => ?_)
  obtain ⟨rfl, FF, AA, rfl, ww⟩ := h9
  refine z_if_ne (q := 8) rfl rfl (fun h5 => ?_) (fun h5 => ?_)
  · refine z_aload_n (q := 12) rfl rfl rfl ?_
    obtain ⟨j, hj, rfl⟩ := vI_nat (by omega) (bz_n.mp h5)
    refine z_getR (q := 15) rfl rfl rfl (Mo_k w) (Mo_r10 w) ?_
    refine z_iload_n (q := 16) rfl rfl rfl ?_
    refine z_iald (q := 17) rfl rfl (Mo_a10 w) (by first | assumption | exact vp_in_nI (by omega) (by omega)) ?_
    rw [moF_a10]
    try rw [nI_clamp (by omega)]
    rw [(ww.2.2.2.1 j hj).1]
    refine z_iconst (q := 18) (v := -1) rfl rfl rfl ?_
    refine z_ic_eq (q := 21) rfl rfl (fun h18 => ?_) (fun h18 => ?_)
    · refine z_bipush (q := 30) (v := -5) rfl rfl rfl ?_
      refine z_goto rfl ?_
      refine z_ireti rfl rfl ?_
      first
        | exact qz_t (bz_n.mp h5) rfl ⟨FF, AA, rfl, mPe_w ww⟩
        | exact qz_f (bz_0.mp h5) ⟨FF, AA, rfl, mPe_w ww⟩
        | fail "none"
    · refine z_aload_n (q := 22) rfl rfl rfl ?_
      refine z_cv0i (q := 25) rfl rfl rfl (Mo_k w) (s_Mo_isFull w ((congrFun (ww.2.1.2.2.2 1 (by omega)) 6).trans hu6) hu) ?_
      refine z_if_eq (q := 28) rfl rfl (fun h25 => ?_) (fun h25 => ?_)
      · refine absurd ⟨bz_n.mp h5, by have := bz_0.mp h25; omega, ?_⟩ hno
        first
          | exact h18
          | (rw [nI_clamp (show j < 2 ^ 31 by omega)]; exact h18)
          | fail "none"
      · refine z_bipush (q := 30) (v := -5) rfl rfl rfl ?_
        refine z_goto rfl ?_
        refine z_ireti rfl rfl ?_
        first
          | exact qz_t (bz_n.mp h5) rfl ⟨FF, AA, rfl, mPe_w ww⟩
          | exact qz_f (bz_0.mp h5) ⟨FF, AA, rfl, mPe_w ww⟩
          | fail "none"
  · refine z_bipush (q := 10) (v := -2) rfl rfl rfl ?_
    refine z_ireti rfl rfl ?_
    first
      | exact qz_t (bz_n.mp h5) rfl ⟨FF, AA, rfl, mPe_w ww⟩
      | exact qz_f (bz_0.mp h5) ⟨FF, AA, rfl, mPe_w ww⟩
      | fail "none"
theorem gt40 {n d : Nat} (hn : n ≤ 40) (hd : d ≤ 12) : (40 : Int32) < nI n + nI d ↔ 40 < n + d := by
  rw [nI_add, show (40 : Int32) = nI 40 from rfl, nI_ltI (by omega) (by omega)]
theorem q_Mo_merges {sc : Option (Nat × Nat × (Nat → Int32))} {sa : Nat → Nat} {d : Nat} {M : mz_M} {z : Nat × Nat} {m : Nat} (w : g_Mo M.2.2 m) {F : Nat → Int32} {A : Nat → Nat → Int32} {c N D : Nat} {l t : Int32} {K P1 P2 P3 : Nat → Nat} {q : sQ} (hX : mX c N D l t K P1 P2 P3 q A) {u : Nat} (hu6 : A 1 6 = nI u) (hu : u ≤ 30) {j i : Nat} (hj : j < q.1) (hi : i < q.1) (hr : q.1 + dfN (q.2.1 j) (mgR c j i q) c ≤ 40) (hD : D < 60) (hu2 : u < 30) {R : Int32} (hW : ∀ p q0, plW l t c N (va_up K D 6) (va_up P1 D j) (va_up P2 D i) (va_up P3 D 0) (qS p (bgQ (ownR c) q0)) (D + 1)) (hAn : ∀ p q0, (caQ (nI c) l t c 6 j i 0 (fo (plG (nI c) l t c (va_up K D 6) (va_up P1 D j) (va_up P2 D i) (va_up P3 D 0) (-1)) (qS p (bgQ (ownR c) q0)) D)).1 = R)  : zi sc sa (d + 13) 251 [.ref m, .int (nI j), .int (nI i)] (moF M m F A) z (mRa M m F A (acA A D (nI (kmN 6)) (nI j) (nI i) (nI 0) (nI u + 1) 1) R) := by
  obtain ⟨⟨c1, c2, c3, c4, c5⟩, ⟨k1, k2, k3, k4, ln, k5, k6, k7⟩, hd, hv, he, hI, hV, hn⟩ := id hX
  have b1 := hI.1
  have b2 := hI.2.1
  refine zin ym_Mo_merges [.ref m, .int (nI j), .int (nI i)] rfl rfl rfl rfl ?_
  refine z_aload_n (q := 1) rfl rfl rfl ?_
  refine z_iload_n (q := 2) rfl rfl rfl ?_
  refine z_iload_n (q := 3) rfl rfl rfl ?_
  refine z_cv2qi (q := 6) rfl rfl rfl (Mo_k w) (q_Mo_areVersions w hX) (fun x9 M9 h9 => ?_)
  obtain ⟨rfl, FF, AA, rfl, ww⟩ := h9
  rw [bz_t ⟨vI_of (by omega) hj, vI_of (by omega) hi⟩]
  refine z_if_ne (q := 9) rfl rfl (fun h6 => ?_) (fun h6 => ?_)
  · refine z_aload_n (q := 13) rfl rfl rfl ?_
    refine z_getI (q := 16) rfl rfl rfl (Mo_k w) ?_
    rw [moF_g14]
    rw [ww.1]
    refine z_aload_n (q := 17) rfl rfl rfl ?_
    refine z_iload_n (q := 18) rfl rfl rfl ?_
    refine z_iload_n (q := 19) rfl rfl rfl ?_
    refine z_cv2i (q := 22) rfl rfl rfl (Mo_k w) (s_Mo_mergeMany w ww.2.2.1 hI c1 ((congrFun (ww.2.1.2.2.2 1 (by omega)) 0).trans k1) hj hi) ?_
    rw [mergeMany_eq, df_fo]
    refine z_iadd (q := 23) rfl rfl ?_
    refine z_bipush (q := 25) (v := 40) rfl rfl rfl ?_
    refine z_ic_gt (q := 28) rfl rfl (fun h25 => ?_) (fun h25 => ?_)
    · rw [gt40 hn (Nat.le_trans (df_b c) c1)] at h25
      omega
    · refine z_aload_n (q := 29) rfl rfl rfl ?_
      refine z_cv0i (q := 32) rfl rfl rfl (Mo_k w) (t_full0 w ((congrFun (ww.2.1.2.2.2 1 (by omega)) 6).trans hu6) hu2) ?_
      refine z_if_eq (q := 35) rfl rfl (fun h32 => ?_) (fun h32 => ?_)
      · refine z_aload_n (q := 41) rfl rfl rfl ?_
        refine z_iconst (q := 42) (v := 5) rfl rfl rfl ?_
        refine z_iload_n (q := 43) rfl rfl rfl ?_
        refine z_iload_n (q := 44) rfl rfl rfl ?_
        refine z_iconst (q := 45) (v := 0) rfl rfl rfl ?_
        refine z_cv4qi (q := 48) rfl rfl rfl (Mo_k w) (t_Mo_actX (k := 6) (a := j) (b := i) (e := 0) w (mX_c (ww.2.1.2.2.2 1 (by omega)) hX) hD ((congrFun (ww.2.1.2.2.2 1 (by omega)) 6).trans hu6) hW hAn) (fun x9 M9 h9 => ?_)
        have hra := mRa_w ww h9
        refine z_ireti rfl rfl ?_
        exact ⟨_, rfl, hra⟩
      · exact absurd h32 (by decide)
  · exact absurd h6 (by decide)
theorem n_Mo_merges {sc : Option (Nat × Nat × (Nat → Int32))} {sa : Nat → Nat} {d : Nat} {M : mz_M} {z : Nat × Nat} {m : Nat} (w : g_Mo M.2.2 m) {F : Nat → Int32} {A : Nat → Nat → Int32} {c N D : Nat} {l t : Int32} {K P1 P2 P3 : Nat → Nat} {q : sQ} (hX : mX c N D l t K P1 P2 P3 q A) {u : Nat} (hu6 : A 1 6 = nI u) (hu : u ≤ 30) {a b : Int32} (hno : ¬ ((vI q.1 a ∧ vI q.1 b) ∧ (u < 30 ∧ q.1 + dfN (q.2.1 a.toNatClampNeg) (mgR c a.toNatClampNeg b.toNatClampNeg q) c ≤ 40)))  : zi sc sa (d + 13) 251 [.ref m, .int a, .int b] (moF M m F A) z (mR M m F A (if vI q.1 a ∧ vI q.1 b then -5 else -2)) := by
  obtain ⟨⟨c1, c2, c3, c4, c5⟩, ⟨k1, k2, k3, k4, ln, k5, k6, k7⟩, hd, hv, he, hI, hV, hn⟩ := id hX
  have b1 := hI.1
  have b2 := hI.2.1
  refine zin ym_Mo_merges [.ref m, .int a, .int b] rfl rfl rfl rfl ?_
  refine z_aload_n (q := 1) rfl rfl rfl ?_
  refine z_iload_n (q := 2) rfl rfl rfl ?_
  refine z_iload_n (q := 3) rfl rfl rfl ?_
  refine z_cv2qi (q := 6) rfl rfl rfl (Mo_k w) (q_Mo_areVersions w hX) (fun x9 M9 h9 => ?_)
  obtain ⟨rfl, FF, AA, rfl, ww⟩ := h9
  refine z_if_ne (q := 9) rfl rfl (fun h6 => ?_) (fun h6 => ?_)
  · refine z_aload_n (q := 13) rfl rfl rfl ?_
    obtain ⟨j, hj, rfl⟩ := vI_nat (by omega) (bz_n.mp h6).1
    obtain ⟨i, hi, rfl⟩ := vI_nat (by omega) (bz_n.mp h6).2
    refine z_getI (q := 16) rfl rfl rfl (Mo_k w) ?_
    rw [moF_g14]
    rw [ww.1]
    refine z_aload_n (q := 17) rfl rfl rfl ?_
    refine z_iload_n (q := 18) rfl rfl rfl ?_
    refine z_iload_n (q := 19) rfl rfl rfl ?_
    refine z_cv2i (q := 22) rfl rfl rfl (Mo_k w) (s_Mo_mergeMany w ww.2.2.1 hI c1 ((congrFun (ww.2.1.2.2.2 1 (by omega)) 0).trans k1) hj hi) ?_
    rw [mergeMany_eq, df_fo]
    refine z_iadd (q := 23) rfl rfl ?_
    refine z_bipush (q := 25) (v := 40) rfl rfl rfl ?_
    refine z_ic_gt (q := 28) rfl rfl (fun h25 => ?_) (fun h25 => ?_)
    · refine z_bipush (q := 37) (v := -5) rfl rfl rfl ?_
      refine z_goto rfl ?_
      refine z_ireti rfl rfl ?_
      first
        | exact qz_t (bz_n.mp h6) rfl ⟨FF, AA, rfl, mPe_w ww⟩
        | exact qz_f (bz_0.mp h6) ⟨FF, AA, rfl, mPe_w ww⟩
        | fail "none"
    · refine z_aload_n (q := 29) rfl rfl rfl ?_
      refine z_cv0i (q := 32) rfl rfl rfl (Mo_k w) (s_Mo_isFull w ((congrFun (ww.2.1.2.2.2 1 (by omega)) 6).trans hu6) hu) ?_
      refine z_if_eq (q := 35) rfl rfl (fun h32 => ?_) (fun h32 => ?_)
      · rw [gt40 hn (Nat.le_trans (df_b c) c1)] at h25
        exact absurd ⟨bz_n.mp h6, by have := bz_0.mp h32; omega, by rw [nI_clamp (show j < 2 ^ 31 by omega), nI_clamp (show i < 2 ^ 31 by omega)]; omega⟩ hno
      · refine z_bipush (q := 37) (v := -5) rfl rfl rfl ?_
        refine z_goto rfl ?_
        refine z_ireti rfl rfl ?_
        first
          | exact qz_t (bz_n.mp h6) rfl ⟨FF, AA, rfl, mPe_w ww⟩
          | exact qz_f (bz_0.mp h6) ⟨FF, AA, rfl, mPe_w ww⟩
          | fail "none"
  · refine z_bipush (q := 11) (v := -2) rfl rfl rfl ?_
    refine z_ireti rfl rfl ?_
    first
      | exact qz_t (bz_n.mp h6) rfl ⟨FF, AA, rfl, mPe_w ww⟩
      | exact qz_f (bz_0.mp h6) ⟨FF, AA, rfl, mPe_w ww⟩
      | fail "none"
theorem q_Mo_patches {sc : Option (Nat × Nat × (Nat → Int32))} {sa : Nat → Nat} {d : Nat} {M : mz_M} {z : Nat × Nat} {m : Nat} (w : g_Mo M.2.2 m) {F : Nat → Int32} {A : Nat → Nat → Int32} {c N D : Nat} {l t : Int32} {K P1 P2 P3 : Nat → Nat} {q : sQ} (hX : mX c N D l t K P1 P2 P3 q A) {u : Nat} (hu6 : A 1 6 = nI u) (hu : u ≤ 30) {j i k : Nat} (hj : j < q.1) (hi : i < q.1) (hk : k < q.1) (hr : q.1 + dfN (q.2.1 k) (paR c j i k q) c ≤ 40) (hD : D < 60) (hu2 : u < 30) {R : Int32} (hW : ∀ p q0, plW l t c N (va_up K D 7) (va_up P1 D j) (va_up P2 D i) (va_up P3 D k) (qS p (bgQ (ownR c) q0)) (D + 1)) (hAn : ∀ p q0, (caQ (nI c) l t c 7 j i k (fo (plG (nI c) l t c (va_up K D 7) (va_up P1 D j) (va_up P2 D i) (va_up P3 D k) (-1)) (qS p (bgQ (ownR c) q0)) D)).1 = R)  : zi sc sa (d + 14) 253 [.ref m, .int (nI j), .int (nI i), .int (nI k)] (moF M m F A) z (mRa M m F A (acA A D (nI (kmN 7)) (nI j) (nI i) (nI k) (nI u + 1) 1) R) := by
  obtain ⟨⟨c1, c2, c3, c4, c5⟩, ⟨k1, k2, k3, k4, ln, k5, k6, k7⟩, hd, hv, he, hI, hV, hn⟩ := id hX
  have b1 := hI.1
  have b2 := hI.2.1
  refine zin ym_Mo_patches [.ref m, .int (nI j), .int (nI i), .int (nI k)] rfl rfl rfl rfl ?_
  refine z_aload_n (q := 1) rfl rfl rfl ?_
  refine z_iload_n (q := 2) rfl rfl rfl ?_
  refine z_iload_n (q := 3) rfl rfl rfl ?_
  refine z_iload_n (q := 4) rfl rfl rfl ?_
  refine z_cv3qi (q := 7) rfl rfl rfl (Mo_k w) (q_Mo_areThree w hX) (fun x9 M9 h9 => ?_)
  obtain ⟨rfl, FF, AA, rfl, ww⟩ := h9
  rw [bz_t ⟨⟨vI_of (by omega) hj, vI_of (by omega) hi⟩, vI_of (by omega) hk⟩]
  refine z_if_ne (q := 10) rfl rfl (fun h7 => ?_) (fun h7 => ?_)
  · refine z_aload_n (q := 14) rfl rfl rfl ?_
    refine z_getI (q := 17) rfl rfl rfl (Mo_k w) ?_
    rw [moF_g14]
    rw [ww.1]
    refine z_aload_n (q := 18) rfl rfl rfl ?_
    refine z_iload_n (q := 19) rfl rfl rfl ?_
    refine z_iload_n (q := 20) rfl rfl rfl ?_
    refine z_iload_n (q := 21) rfl rfl rfl ?_
    refine z_cv3i (q := 24) rfl rfl rfl (Mo_k w) (s_Mo_patchMany w ww.2.2.1 hI c1 ((congrFun (ww.2.1.2.2.2 1 (by omega)) 0).trans k1) hj hi hk) ?_
    rw [patchMany_eq c1, df_fo]
    refine z_iadd (q := 25) rfl rfl ?_
    refine z_bipush (q := 27) (v := 40) rfl rfl rfl ?_
    refine z_ic_gt (q := 30) rfl rfl (fun h27 => ?_) (fun h27 => ?_)
    · rw [gt40 hn (Nat.le_trans (df_b c) c1)] at h27
      omega
    · refine z_aload_n (q := 31) rfl rfl rfl ?_
      refine z_cv0i (q := 34) rfl rfl rfl (Mo_k w) (t_full0 w ((congrFun (ww.2.1.2.2.2 1 (by omega)) 6).trans hu6) hu2) ?_
      refine z_if_eq (q := 37) rfl rfl (fun h34 => ?_) (fun h34 => ?_)
      · refine z_aload_n (q := 43) rfl rfl rfl ?_
        refine z_bipush (q := 45) (v := 6) rfl rfl rfl ?_
        refine z_iload_n (q := 46) rfl rfl rfl ?_
        refine z_iload_n (q := 47) rfl rfl rfl ?_
        refine z_iload_n (q := 48) rfl rfl rfl ?_
        refine z_cv4qi (q := 51) rfl rfl rfl (Mo_k w) (t_Mo_actX (k := 7) (a := j) (b := i) (e := k) w (mX_c (ww.2.1.2.2.2 1 (by omega)) hX) hD ((congrFun (ww.2.1.2.2.2 1 (by omega)) 6).trans hu6) hW hAn) (fun x9 M9 h9 => ?_)
        have hra := mRa_w ww h9
        refine z_ireti rfl rfl ?_
        exact ⟨_, rfl, hra⟩
      · exact absurd h34 (by decide)
  · exact absurd h7 (by decide)
theorem n_Mo_patches {sc : Option (Nat × Nat × (Nat → Int32))} {sa : Nat → Nat} {d : Nat} {M : mz_M} {z : Nat × Nat} {m : Nat} (w : g_Mo M.2.2 m) {F : Nat → Int32} {A : Nat → Nat → Int32} {c N D : Nat} {l t : Int32} {K P1 P2 P3 : Nat → Nat} {q : sQ} (hX : mX c N D l t K P1 P2 P3 q A) {u : Nat} (hu6 : A 1 6 = nI u) (hu : u ≤ 30) {a b e : Int32} (hno : ¬ (((vI q.1 a ∧ vI q.1 b) ∧ vI q.1 e) ∧ (u < 30 ∧ q.1 + dfN (q.2.1 e.toNatClampNeg) (paR c a.toNatClampNeg b.toNatClampNeg e.toNatClampNeg q) c ≤ 40)))  : zi sc sa (d + 14) 253 [.ref m, .int a, .int b, .int e] (moF M m F A) z (mR M m F A (if (vI q.1 a ∧ vI q.1 b) ∧ vI q.1 e then -5 else -2)) := by
  obtain ⟨⟨c1, c2, c3, c4, c5⟩, ⟨k1, k2, k3, k4, ln, k5, k6, k7⟩, hd, hv, he, hI, hV, hn⟩ := id hX
  have b1 := hI.1
  have b2 := hI.2.1
  refine zin ym_Mo_patches [.ref m, .int a, .int b, .int e] rfl rfl rfl rfl ?_
  refine z_aload_n (q := 1) rfl rfl rfl ?_
  refine z_iload_n (q := 2) rfl rfl rfl ?_
  refine z_iload_n (q := 3) rfl rfl rfl ?_
  refine z_iload_n (q := 4) rfl rfl rfl ?_
  refine z_cv3qi (q := 7) rfl rfl rfl (Mo_k w) (q_Mo_areThree w hX) (fun x9 M9 h9 => ?_)
  obtain ⟨rfl, FF, AA, rfl, ww⟩ := h9
  refine z_if_ne (q := 10) rfl rfl (fun h7 => ?_) (fun h7 => ?_)
  · refine z_aload_n (q := 14) rfl rfl rfl ?_
    obtain ⟨j, hj, rfl⟩ := vI_nat (by omega) (bz_n.mp h7).1.1
    obtain ⟨i, hi, rfl⟩ := vI_nat (by omega) (bz_n.mp h7).1.2
    obtain ⟨k, hk, rfl⟩ := vI_nat (by omega) (bz_n.mp h7).2
    refine z_getI (q := 17) rfl rfl rfl (Mo_k w) ?_
    rw [moF_g14]
    rw [ww.1]
    refine z_aload_n (q := 18) rfl rfl rfl ?_
    refine z_iload_n (q := 19) rfl rfl rfl ?_
    refine z_iload_n (q := 20) rfl rfl rfl ?_
    refine z_iload_n (q := 21) rfl rfl rfl ?_
    refine z_cv3i (q := 24) rfl rfl rfl (Mo_k w) (s_Mo_patchMany w ww.2.2.1 hI c1 ((congrFun (ww.2.1.2.2.2 1 (by omega)) 0).trans k1) hj hi hk) ?_
    rw [patchMany_eq c1, df_fo]
    refine z_iadd (q := 25) rfl rfl ?_
    refine z_bipush (q := 27) (v := 40) rfl rfl rfl ?_
    refine z_ic_gt (q := 30) rfl rfl (fun h27 => ?_) (fun h27 => ?_)
    · refine z_bipush (q := 39) (v := -5) rfl rfl rfl ?_
      refine z_goto rfl ?_
      refine z_ireti rfl rfl ?_
      first
        | exact qz_t (bz_n.mp h7) rfl ⟨FF, AA, rfl, mPe_w ww⟩
        | exact qz_f (bz_0.mp h7) ⟨FF, AA, rfl, mPe_w ww⟩
        | fail "none"
    · refine z_aload_n (q := 31) rfl rfl rfl ?_
      refine z_cv0i (q := 34) rfl rfl rfl (Mo_k w) (s_Mo_isFull w ((congrFun (ww.2.1.2.2.2 1 (by omega)) 6).trans hu6) hu) ?_
      refine z_if_eq (q := 37) rfl rfl (fun h34 => ?_) (fun h34 => ?_)
      · rw [gt40 hn (Nat.le_trans (df_b c) c1)] at h27
        exact absurd ⟨bz_n.mp h7, by have := bz_0.mp h34; omega, by rw [nI_clamp (show j < 2 ^ 31 by omega), nI_clamp (show i < 2 ^ 31 by omega), nI_clamp (show k < 2 ^ 31 by omega)]; omega⟩ hno
      · refine z_bipush (q := 39) (v := -5) rfl rfl rfl ?_
        refine z_goto rfl ?_
        refine z_ireti rfl rfl ?_
        first
          | exact qz_t (bz_n.mp h7) rfl ⟨FF, AA, rfl, mPe_w ww⟩
          | exact qz_f (bz_0.mp h7) ⟨FF, AA, rfl, mPe_w ww⟩
          | fail "none"
  · refine z_bipush (q := 12) (v := -2) rfl rfl rfl ?_
    refine z_ireti rfl rfl ?_
    first
      | exact qz_t (bz_n.mp h7) rfl ⟨FF, AA, rfl, mPe_w ww⟩
      | exact qz_f (bz_0.mp h7) ⟨FF, AA, rfl, mPe_w ww⟩
      | fail "none"
