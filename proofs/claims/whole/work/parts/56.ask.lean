-- the reference behind its plays, as questions see it
def stE (q q' : sQ) : Prop := q'.1 = q.1 ∧ ∀ v, v < q.1 → q'.2.1 v = q.2.1 v ∧ q'.2.2.1 v = q.2.2.1 v ∧ q'.2.2.2.1 v = q.2.2.2.1 v ∧ q'.2.2.2.2.1 v = q.2.2.2.2.1 v ∧ q'.2.2.2.2.2.1 v = q.2.2.2.2.2.1 v
theorem mAv_s {c : Nat} {A : Nat → Nat → Int32} {q q' : sQ} (h : mAv c A q') (e : stE q q') : mAv c A q := by
  intro v hv
  obtain ⟨e1, e2, e3, e4, e5⟩ := e.2 v hv
  have g := h v (by rw [e.1]; exact hv)
  rw [e1, e4, e5] at g
  exact g
theorem mAl_s {A : Nat → Nat → Int32} {q q' : sQ} (h : mAl A q') (e : stE q q') : mAl A q := by
  intro v hv
  obtain ⟨e1, e2, e3, e4, e5⟩ := e.2 v hv
  have g := h v (by rw [e.1]; exact hv)
  rw [e1, e2, e3] at g
  exact g
def mX (c N D : Nat) (l t : Int32) (K P1 P2 P3 : Nat → Nat) (q : sQ) (A : Nat → Nat → Int32) : Prop := (c ≤ 12 ∧ 0 < c ∧ N ≤ 40 ∧ 1 ≤ N ∧ D ≤ 60) ∧ (A 1 0 = nI c ∧ A 1 1 = l ∧ A 1 2 = t ∧ A 1 4 = nI D ∧ ∃ ln, 0 < ln ∧ ln < 1000 ∧ A 1 5 = nI ln) ∧ (∀ i, i < D → A 1 (19 + 4 * i + 0) = nI (kmN (K i)) ∧ A 1 (19 + 4 * i + 1) = nI (P1 i) ∧ A 1 (19 + 4 * i + 2) = nI (P2 i) ∧ A 1 (19 + 4 * i + 3) = nI (P3 i)) ∧ (∀ p q0, pmV l t c N K P1 P2 P3 (-1) (qS p (bgQ (ownR c) q0)) D) ∧ (∀ p q0, stE q (fo (pmG (nI c) l t c K P1 P2 P3 (-1)) (qS p (bgQ (ownR c) q0)) D)) ∧ qI c q ∧ qV c q ∧ q.1 ≤ 40
def mW (c D : Nat) (l t : Int32) (K P1 P2 P3 : Nat → Nat) (q : sQ) (F : Nat → Int32) (A : Nat → Nat → Int32) (F' : Nat → Int32) (A' : Nat → Nat → Int32) : Prop := F' 14 = nI q.1 ∧ (F' 15 = l ∧ F' 16 = t ∧ (∀ k, (k < 14 ∨ 17 < k) → F' k = F k) ∧ ∀ j, (j < 4 ∨ 12 < j) → A' j = A j) ∧ mAv c A' q ∧ mAl A' q ∧ ∃ p q0, mAg c F' A' (fo (pmG (nI c) l t c K P1 P2 P3 (-1)) (qS p (bgQ (ownR c) q0)) D) ∧ ∀ j, j < D → A' 12 j = (fo (pmG (nI c) l t c K P1 P2 P3 (-1)) (qS p (bgQ (ownR c) q0)) (j + 1)).2.2.2.2.2.2
def mPe (F : Nat → Int32) (A : Nat → Nat → Int32) (F' : Nat → Int32) (A' : Nat → Nat → Int32) : Prop := (∀ k, k < 6 → F' k = F k) ∧ ∀ j, (j = 1 ∨ j = 3 ∨ j = 13 ∨ j = 14) → A' j = A j
theorem mPe_r {F : Nat → Int32} {A : Nat → Nat → Int32} : mPe F A F A := ⟨fun _ _ => rfl, fun _ _ => rfl⟩
theorem mPe_w {c D : Nat} {l t : Int32} {K P1 P2 P3 : Nat → Nat} {q : sQ} {F : Nat → Int32} {A : Nat → Nat → Int32} {F' : Nat → Int32} {A' : Nat → Nat → Int32} (h : mW c D l t K P1 P2 P3 q F A F' A') : mPe F A F' A' := ⟨fun k hk => h.2.1.2.2.1 k (by omega), fun j hj => h.2.1.2.2.2 j (by omega)⟩
def mR (M : mz_M) (m : Nat) (F : Nat → Int32) (A : Nat → Nat → Int32) (r : Int32) (x : Int32) (M' : mz_M) : Prop := x = r ∧ ∃ F' A', M' = moF M m F' A' ∧ mPe F A F' A'
theorem qz_t {P : Prop} [Decidable P] {x e e2 : Int32} {R : Prop} (h : P) (he : x = e) (hr : R) : ∃ v, some (Value.int x) = some (Value.int v) ∧ (v = (if P then e else e2) ∧ R) := ⟨x, rfl, by rw [if_pos h]; exact he, hr⟩
theorem qz_f {P : Prop} [Decidable P] {e e2 : Int32} {R : Prop} (h : ¬ P) (hr : R) : ∃ v, some (Value.int e2) = some (Value.int v) ∧ (v = (if P then e else e2) ∧ R) := ⟨e2, rfl, by rw [if_neg h], hr⟩
theorem qz_r {x e : Int32} {R : Prop} (he : x = e) (hr : R) : ∃ v, some (Value.int x) = some (Value.int v) ∧ (v = e ∧ R) := ⟨x, rfl, he, hr⟩
theorem le_pr {n : Nat} {v : Int32} (h : 0 < n) (hn : n < 1000) : (0 ≤ v ∧ v ≤ nI n - 1) ↔ vI n v := by
  have e : nI n - 1 = nI (n - 1) := by
    have g := nI_pred (n - 1)
    rw [show n - 1 + 1 = n by omega] at g
    exact g
  unfold vI
  rw [e]
  constructor
  · intro ⟨a, b⟩
    refine ⟨a, ?_⟩
    rw [Int32.le_iff_toInt_le, nI_toInt (by omega)] at b
    rw [Int32.lt_iff_toInt_lt, nI_toInt (by omega)]
    omega
  · intro ⟨a, b⟩
    refine ⟨a, ?_⟩
    rw [Int32.lt_iff_toInt_lt, nI_toInt (by omega)] at b
    rw [Int32.le_iff_toInt_le, nI_toInt (by omega)]
    omega
theorem t_Mo_inV {sc : Option (Nat × Nat × (Nat → Int32))} {sa : Nat → Nat} {d : Nat} {M : mz_M} {z : Nat × Nat} {a : Int32} {n : Nat} (h : 0 < n) (hn : n < 1000) : zx sc sa (d + 1) 168 [.long a.toInt64, .long 0, .long (nI n - 1).toInt64] M z z (some (.int (bz (vI n a)))) M := by
  have e := @t_Mo_in sc sa d M z a 0 (nI n - 1)
  rw [show bz ((0 : Int32) ≤ a ∧ a ≤ nI n - 1) = bz (vI n a) by
    unfold bz
    by_cases g : vI n a
    · rw [if_pos g, if_pos ((le_pr h hn).mpr g)]
    · rw [if_neg g, if_neg (fun k => g ((le_pr h hn).mp k))]] at e
  exact e
theorem s_Mo_is {sc : Option (Nat × Nat × (Nat → Int32))} {sa : Nat → Nat} {d : Nat} {M : mz_M} {z : Nat × Nat} {m : Nat} (w : g_Mo M.2.2 m) {F : Nat → Int32} {A : Nat → Nat → Int32} {ln : Nat} (h5 : A 1 5 = nI ln) (h0 : 0 < ln) (h1 : ln < 1000) : zx sc sa (d + 1) 217 [.ref m] (moF M m F A) z z (some (.int 1)) (moF M m F A) := by
  refine zxin ym_Mo_is [.ref m] rfl rfl rfl rfl ?_
  refine z_aload_n (q := 1) rfl rfl rfl ?_
  refine z_getR (q := 4) rfl rfl rfl (Mo_k w) (Mo_r0 w) ?_
  refine z_iconst (q := 5) (v := 5) rfl rfl rfl ?_
  refine z_iald (q := 6) rfl rfl (Mo_a0 w) (vp_in_nI (n := 5) (by omega) (by omega)) ?_
  rw [moF_a0]
  try rw [nI_clamp (by omega)]
  rw [show A 1 (5 : Int32).toNatClampNeg = nI ln from h5]
  refine z_if_le (q := 9) rfl rfl (fun h6 => ?_) (fun h6 => ?_)
  · exact absurd h6 (nI_nle h0 (by omega))
  · refine z_iconst (q := 10) (v := 1) rfl rfl rfl ?_
    refine z_goto rfl ?_
    refine z_iretz rfl rfl (rfl) ?_
    exact ⟨rfl, rfl⟩
theorem n_Mo_is {sc : Option (Nat × Nat × (Nat → Int32))} {sa : Nat → Nat} {d : Nat} {M : mz_M} {z : Nat × Nat} {m : Nat} (w : g_Mo M.2.2 m) {F : Nat → Int32} {A : Nat → Nat → Int32} (h5 : A 1 5 = 0) : zx sc sa (d + 1) 217 [.ref m] (moF M m F A) z z (some (.int 0)) (moF M m F A) := by
  refine zxin ym_Mo_is [.ref m] rfl rfl rfl rfl ?_
  refine z_aload_n (q := 1) rfl rfl rfl ?_
  refine z_getR (q := 4) rfl rfl rfl (Mo_k w) (Mo_r0 w) ?_
  refine z_iconst (q := 5) (v := 5) rfl rfl rfl ?_
  refine z_iald (q := 6) rfl rfl (Mo_a0 w) (vp_in_nI (n := 5) (by omega) (by omega)) ?_
  rw [moF_a0]
  try rw [nI_clamp (by omega)]
  rw [show A 1 (5 : Int32).toNatClampNeg = 0 from h5]
  refine z_if_le (q := 9) rfl rfl (fun h6 => ?_) (fun h6 => ?_)
  · refine z_iconst (q := 14) (v := 0) rfl rfl rfl ?_
    refine z_iretz rfl rfl (rfl) ?_
    exact ⟨rfl, rfl⟩
  · exact absurd (by decide) h6
theorem s_Mo_isCell {sc : Option (Nat × Nat × (Nat → Int32))} {sa : Nat → Nat} {d : Nat} {M : mz_M} {z : Nat × Nat} {m : Nat} (w : g_Mo M.2.2 m) {F : Nat → Int32} {A : Nat → Nat → Int32} {c : Nat} (hs : A 1 0 = nI c) (h0 : 0 < c) (hC : c ≤ 12) {a : Int32} : zx sc sa (d + 2) 209 [.ref m, .int a] (moF M m F A) z z (some (.int (bz (vI c a)))) (moF M m F A) := by
  refine zxin ym_Mo_isCell [.ref m, .int a] rfl rfl rfl rfl ?_
  refine z_iload_n (q := 1) rfl rfl rfl ?_
  refine z_i2l (q := 2) rfl rfl ?_
  refine z_lconst (q := 3) (v := 0) rfl rfl rfl ?_
  refine z_aload_n (q := 4) rfl rfl rfl ?_
  refine z_getR (q := 7) rfl rfl rfl (Mo_k w) (Mo_r0 w) ?_
  refine z_iconst (q := 8) (v := 0) rfl rfl rfl ?_
  refine z_iald (q := 9) rfl rfl (Mo_a0 w) (vp0 (by decide) (by decide)) ?_
  rw [moF_a0]
  try rw [nI_clamp (by omega)]
  rw [show A 1 (0 : Int32).toNatClampNeg = nI c from hs]
  refine z_iconst (q := 10) (v := 1) rfl rfl rfl ?_
  refine z_isub (q := 11) rfl rfl ?_
  refine z_i2l (q := 12) rfl rfl ?_
  refine z_cs3i (q := 15) rfl rfl rfl (t_Mo_inV h0 (by omega)) ?_
  refine z_iretz rfl rfl (bz_nar) ?_
  exact ⟨rfl, rfl⟩
theorem q_Mo_playsX {sc : Option (Nat × Nat × (Nat → Int32))} {sa : Nat → Nat} {d : Nat} {M : mz_M} {z : Nat × Nat} {m : Nat} (w : g_Mo M.2.2 m) {F : Nat → Int32} {A : Nat → Nat → Int32} {c N D : Nat} {l t : Int32} {K P1 P2 P3 : Nat → Nat} {q : sQ} (hX : mX c N D l t K P1 P2 P3 q A) : zi sc sa (d + 10) 199 [.ref m] (moF M m F A) z (fun x M' => ∃ p q0, x = pmS l t c K P1 P2 P3 (-1) (qS p (bgQ (ownR c) q0)) D ∧ ∃ F' A', M' = moF M m F' A' ∧ mW c D l t K P1 P2 P3 q F A F' A') := by
  obtain ⟨⟨c1, c2, c3, c4, c5⟩, ⟨k1, k2, k3, k4, k5⟩, hd, hv, he, hI, hV, hn⟩ := hX
  refine zi_m ?_ (q_Mo_plays2 w c1 (by omega) c4 k1 k4 c5 hd hv k2 k3)
  intro x M1 ⟨p, q0, F', A', e1, e2, e3, e4, e5⟩
  have i1 := (pm_ok (q0 := qS p (bgQ (ownR c) q0)) c1 (show N ≤ 200 by omega) (qI_bg (row := ownR c) (q := q0)) (qV_bg (q := q0) c1) c4 (hv p q0) D (Nat.le_refl _)).1
  refine ⟨p, q0, e1, F', A', e2, ?_, e3, mAv_s (mAv_of e4) (he p q0), mAl_s (mAl_of e4 i1 c1) (he p q0), p, q0, e4, e5⟩
  rw [e4.1, (he p q0).1]
theorem q_Mo_isVersion {sc : Option (Nat × Nat × (Nat → Int32))} {sa : Nat → Nat} {d : Nat} {M : mz_M} {z : Nat × Nat} {m : Nat} (w : g_Mo M.2.2 m) {F : Nat → Int32} {A : Nat → Nat → Int32} {c N D : Nat} {l t : Int32} {K P1 P2 P3 : Nat → Nat} {q : sQ} (hX : mX c N D l t K P1 P2 P3 q A) {a : Int32} : zi sc sa (d + 11) 218 [.ref m, .int a] (moF M m F A) z (fun x M' => x = bz (vI q.1 a) ∧ ∃ F' A', M' = moF M m F' A' ∧ mW c D l t K P1 P2 P3 q F A F' A') := by
  obtain ⟨⟨c1, c2, c3, c4, c5⟩, ⟨k1, k2, k3, k4, ln, k5, k6, k7⟩, hd, hv, he, hI, hV, hn⟩ := id hX
  have b1 := hI.1
  have b2 := hI.2.1
  refine zin ym_Mo_isVersion [.ref m, .int a] rfl rfl rfl rfl ?_
  refine z_aload_n (q := 1) rfl rfl rfl ?_
  refine z_cv0i (q := 4) rfl rfl rfl (Mo_k w) (s_Mo_is w k7 k5 k6) ?_
  refine z_if_ne (q := 7) rfl rfl (fun h4 => ?_) (fun h4 => ?_)
  · refine z_aload_n (q := 10) rfl rfl rfl ?_
    refine z_cv0qi (q := 13) rfl rfl rfl (Mo_k w) (q_Mo_playsX w hX) (fun x9 M9 h9 => ?_)
    obtain ⟨p9, q9, rfl, FF, AA, rfl, ww⟩ := h9
    refine z_pop (q := 14) rfl rfl rfl ?_
    refine z_iload_n (q := 15) rfl rfl rfl ?_
    refine z_i2l (q := 16) rfl rfl ?_
    refine z_lconst (q := 17) (v := 0) rfl rfl rfl ?_
    refine z_aload_n (q := 18) rfl rfl rfl ?_
    refine z_getI (q := 21) rfl rfl rfl (Mo_k w) ?_
    rw [moF_g14]
    rw [ww.1]
    refine z_iconst (q := 22) (v := 1) rfl rfl rfl ?_
    refine z_isub (q := 23) rfl rfl ?_
    refine z_i2l (q := 24) rfl rfl ?_
    refine z_cs3i (q := 27) rfl rfl rfl (t_Mo_inV b1 (by omega)) ?_
    refine z_iretz rfl rfl (bz_nar) ?_
    exact ⟨_, rfl, rfl, FF, AA, rfl, ww⟩
  · exact absurd h4 (by decide)
theorem q_Mo_areVersions {sc : Option (Nat × Nat × (Nat → Int32))} {sa : Nat → Nat} {d : Nat} {M : mz_M} {z : Nat × Nat} {m : Nat} (w : g_Mo M.2.2 m) {F : Nat → Int32} {A : Nat → Nat → Int32} {c N D : Nat} {l t : Int32} {K P1 P2 P3 : Nat → Nat} {q : sQ} (hX : mX c N D l t K P1 P2 P3 q A) {a b : Int32} : zi sc sa (d + 12) 223 [.ref m, .int a, .int b] (moF M m F A) z (fun x M' => x = bz (vI q.1 a ∧ vI q.1 b) ∧ ∃ F' A', M' = moF M m F' A' ∧ mW c D l t K P1 P2 P3 q F A F' A') := by
  obtain ⟨⟨c1, c2, c3, c4, c5⟩, ⟨k1, k2, k3, k4, ln, k5, k6, k7⟩, hd, hv, he, hI, hV, hn⟩ := id hX
  have b1 := hI.1
  have b2 := hI.2.1
  refine zin ym_Mo_areVersions [.ref m, .int a, .int b] rfl rfl rfl rfl ?_
  refine z_aload_n (q := 1) rfl rfl rfl ?_
  refine z_iload_n (q := 2) rfl rfl rfl ?_
  refine z_cv1qi (q := 5) rfl rfl rfl (Mo_k w) (q_Mo_isVersion w hX) (fun x9 M9 h9 => ?_)
  obtain ⟨rfl, FF, AA, rfl, ww⟩ := h9
  refine z_if_eq (q := 8) rfl rfl (fun h5 => ?_) (fun h5 => ?_)
  · refine z_iconst (q := 29) (v := 0) rfl rfl rfl ?_
    refine z_iretz rfl rfl (rfl) ?_
    first
      | exact qz_r (bz_t ⟨bz_n.mp h5, bz_n.mp h21⟩).symm ⟨FF, AA, rfl, ww⟩
      | exact qz_r (bz_f (fun h => bz_0.mp h21 h.2)).symm ⟨FF, AA, rfl, ww⟩
      | exact qz_r (bz_f (fun h => bz_0.mp h5 h.1)).symm ⟨FF, AA, rfl, ww⟩
      | fail "none"
  · refine z_iload_n (q := 9) rfl rfl rfl ?_
    refine z_i2l (q := 10) rfl rfl ?_
    refine z_lconst (q := 11) (v := 0) rfl rfl rfl ?_
    refine z_aload_n (q := 12) rfl rfl rfl ?_
    refine z_getI (q := 15) rfl rfl rfl (Mo_k w) ?_
    rw [moF_g14]
    rw [ww.1]
    refine z_iconst (q := 16) (v := 1) rfl rfl rfl ?_
    refine z_isub (q := 17) rfl rfl ?_
    refine z_i2l (q := 18) rfl rfl ?_
    refine z_cs3i (q := 21) rfl rfl rfl (t_Mo_inV b1 (by omega)) ?_
    refine z_if_eq (q := 24) rfl rfl (fun h21 => ?_) (fun h21 => ?_)
    · refine z_iconst (q := 29) (v := 0) rfl rfl rfl ?_
      refine z_iretz rfl rfl (rfl) ?_
      first
        | exact qz_r (bz_t ⟨bz_n.mp h5, bz_n.mp h21⟩).symm ⟨FF, AA, rfl, ww⟩
        | exact qz_r (bz_f (fun h => bz_0.mp h21 h.2)).symm ⟨FF, AA, rfl, ww⟩
        | exact qz_r (bz_f (fun h => bz_0.mp h5 h.1)).symm ⟨FF, AA, rfl, ww⟩
        | fail "none"
    · refine z_iconst (q := 25) (v := 1) rfl rfl rfl ?_
      refine z_goto rfl ?_
      refine z_iretz rfl rfl (rfl) ?_
      first
        | exact qz_r (bz_t ⟨bz_n.mp h5, bz_n.mp h21⟩).symm ⟨FF, AA, rfl, ww⟩
        | exact qz_r (bz_f (fun h => bz_0.mp h21 h.2)).symm ⟨FF, AA, rfl, ww⟩
        | exact qz_r (bz_f (fun h => bz_0.mp h5 h.1)).symm ⟨FF, AA, rfl, ww⟩
        | fail "none"
theorem q_Mo_areThree {sc : Option (Nat × Nat × (Nat → Int32))} {sa : Nat → Nat} {d : Nat} {M : mz_M} {z : Nat × Nat} {m : Nat} (w : g_Mo M.2.2 m) {F : Nat → Int32} {A : Nat → Nat → Int32} {c N D : Nat} {l t : Int32} {K P1 P2 P3 : Nat → Nat} {q : sQ} (hX : mX c N D l t K P1 P2 P3 q A) {a b e : Int32} : zi sc sa (d + 13) 252 [.ref m, .int a, .int b, .int e] (moF M m F A) z (fun x M' => x = bz ((vI q.1 a ∧ vI q.1 b) ∧ vI q.1 e) ∧ ∃ F' A', M' = moF M m F' A' ∧ mW c D l t K P1 P2 P3 q F A F' A') := by
  obtain ⟨⟨c1, c2, c3, c4, c5⟩, ⟨k1, k2, k3, k4, ln, k5, k6, k7⟩, hd, hv, he, hI, hV, hn⟩ := id hX
  have b1 := hI.1
  have b2 := hI.2.1
  refine zin ym_Mo_areThree [.ref m, .int a, .int b, .int e] rfl rfl rfl rfl ?_
  refine z_aload_n (q := 1) rfl rfl rfl ?_
  refine z_iload_n (q := 2) rfl rfl rfl ?_
  refine z_iload_n (q := 3) rfl rfl rfl ?_
  refine z_cv2qi (q := 6) rfl rfl rfl (Mo_k w) (q_Mo_areVersions w hX) (fun x9 M9 h9 => ?_)
  obtain ⟨rfl, FF, AA, rfl, ww⟩ := h9
  refine z_if_eq (q := 9) rfl rfl (fun h6 => ?_) (fun h6 => ?_)
  · refine z_iconst (q := 30) (v := 0) rfl rfl rfl ?_
    refine z_iretz rfl rfl (rfl) ?_
    first
      | exact qz_r (bz_t ⟨bz_n.mp h6, bz_n.mp h22⟩).symm ⟨FF, AA, rfl, ww⟩
      | exact qz_r (bz_f (fun h => bz_0.mp h22 h.2)).symm ⟨FF, AA, rfl, ww⟩
      | exact qz_r (bz_f (fun h => bz_0.mp h6 h.1)).symm ⟨FF, AA, rfl, ww⟩
      | fail "none"
  · refine z_iload_n (q := 10) rfl rfl rfl ?_
    refine z_i2l (q := 11) rfl rfl ?_
    refine z_lconst (q := 12) (v := 0) rfl rfl rfl ?_
    refine z_aload_n (q := 13) rfl rfl rfl ?_
    refine z_getI (q := 16) rfl rfl rfl (Mo_k w) ?_
    rw [moF_g14]
    rw [ww.1]
    refine z_iconst (q := 17) (v := 1) rfl rfl rfl ?_
    refine z_isub (q := 18) rfl rfl ?_
    refine z_i2l (q := 19) rfl rfl ?_
    refine z_cs3i (q := 22) rfl rfl rfl (t_Mo_inV b1 (by omega)) ?_
    refine z_if_eq (q := 25) rfl rfl (fun h22 => ?_) (fun h22 => ?_)
    · refine z_iconst (q := 30) (v := 0) rfl rfl rfl ?_
      refine z_iretz rfl rfl (rfl) ?_
      first
        | exact qz_r (bz_t ⟨bz_n.mp h6, bz_n.mp h22⟩).symm ⟨FF, AA, rfl, ww⟩
        | exact qz_r (bz_f (fun h => bz_0.mp h22 h.2)).symm ⟨FF, AA, rfl, ww⟩
        | exact qz_r (bz_f (fun h => bz_0.mp h6 h.1)).symm ⟨FF, AA, rfl, ww⟩
        | fail "none"
    · refine z_iconst (q := 26) (v := 1) rfl rfl rfl ?_
      refine z_goto rfl ?_
      refine z_iretz rfl rfl (rfl) ?_
      first
        | exact qz_r (bz_t ⟨bz_n.mp h6, bz_n.mp h22⟩).symm ⟨FF, AA, rfl, ww⟩
        | exact qz_r (bz_f (fun h => bz_0.mp h22 h.2)).symm ⟨FF, AA, rfl, ww⟩
        | exact qz_r (bz_f (fun h => bz_0.mp h6 h.1)).symm ⟨FF, AA, rfl, ww⟩
        | fail "none"
theorem q_Mo_cell {sc : Option (Nat × Nat × (Nat → Int32))} {sa : Nat → Nat} {d : Nat} {M : mz_M} {z : Nat × Nat} {m : Nat} (w : g_Mo M.2.2 m) {F : Nat → Int32} {A : Nat → Nat → Int32} {c N D : Nat} {l t : Int32} {K P1 P2 P3 : Nat → Nat} {q : sQ} (hX : mX c N D l t K P1 P2 P3 q A) {a b : Int32} : zi sc sa (d + 12) 220 [.ref m, .int a, .int b] (moF M m F A) z (mR M m F A (if vI q.1 a ∧ vI c b then nmI (q.2.1 a.toNatClampNeg) b else -2)) := by
  obtain ⟨⟨c1, c2, c3, c4, c5⟩, ⟨k1, k2, k3, k4, ln, k5, k6, k7⟩, hd, hv, he, hI, hV, hn⟩ := id hX
  have b1 := hI.1
  have b2 := hI.2.1
  refine zin ym_Mo_cell [.ref m, .int a, .int b] rfl rfl rfl rfl ?_
  refine z_aload_n (q := 1) rfl rfl rfl ?_
  refine z_iload_n (q := 2) rfl rfl rfl ?_
  refine z_cv1qi (q := 5) rfl rfl rfl (Mo_k w) (q_Mo_isVersion w hX) (fun x9 M9 h9 => ?_)
  obtain ⟨rfl, FF, AA, rfl, ww⟩ := h9
  refine z_if_eq (q := 8) rfl rfl (fun h5 => ?_) (fun h5 => ?_)
  · refine z_bipush (q := 27) (v := -2) rfl rfl rfl ?_
    refine z_ireti rfl rfl ?_
    first
      | exact qz_t ⟨bz_n.mp h5, bz_n.mp h13⟩ (by rw [nI_clamp (show j < 2 ^ 31 by omega)]; exact (ww.2.2.1 j hj).2.2.1 i hi) ⟨FF, AA, rfl, mPe_w ww⟩
      | exact qz_f (fun h => bz_0.mp h13 h.2) ⟨FF, AA, rfl, mPe_w ww⟩
      | exact qz_f (fun h => bz_0.mp h5 h.1) ⟨FF, AA, rfl, mPe_w ww⟩
      | fail "none"
  · refine z_aload_n (q := 9) rfl rfl rfl ?_
    obtain ⟨j, hj, rfl⟩ := vI_nat (by omega) (bz_n.mp h5)
    refine z_iload_n (q := 10) rfl rfl rfl ?_
    refine z_cv1i (q := 13) rfl rfl rfl (Mo_k w) (s_Mo_isCell w ((congrFun (ww.2.1.2.2.2 1 (by omega)) 0).trans k1) c2 c1) ?_
    refine z_if_eq (q := 16) rfl rfl (fun h13 => ?_) (fun h13 => ?_)
    · refine z_bipush (q := 27) (v := -2) rfl rfl rfl ?_
      refine z_ireti rfl rfl ?_
      first
        | exact qz_t ⟨bz_n.mp h5, bz_n.mp h13⟩ (by rw [nI_clamp (show j < 2 ^ 31 by omega)]; exact (ww.2.2.1 j hj).2.2.1 i hi) ⟨FF, AA, rfl, mPe_w ww⟩
        | exact qz_f (fun h => bz_0.mp h13 h.2) ⟨FF, AA, rfl, mPe_w ww⟩
        | exact qz_f (fun h => bz_0.mp h5 h.1) ⟨FF, AA, rfl, mPe_w ww⟩
        | fail "none"
    · refine z_aload_n (q := 17) rfl rfl rfl ?_
      obtain ⟨i, hi, rfl⟩ := vI_nat (by omega) (bz_n.mp h13)
      refine z_iload_n (q := 18) rfl rfl rfl ?_
      refine z_iload_n (q := 19) rfl rfl rfl ?_
      refine z_cv2i (q := 22) rfl rfl rfl (Mo_k w) (s_Mo_at w (by omega) (by omega)) ?_
      refine z_goto rfl ?_
      refine z_ireti rfl rfl ?_
      first
        | exact qz_t ⟨bz_n.mp h5, bz_n.mp h13⟩ (by rw [nI_clamp (show j < 2 ^ 31 by omega)]; exact (ww.2.2.1 j hj).2.2.1 i hi) ⟨FF, AA, rfl, mPe_w ww⟩
        | exact qz_f (fun h => bz_0.mp h13 h.2) ⟨FF, AA, rfl, mPe_w ww⟩
        | exact qz_f (fun h => bz_0.mp h5 h.1) ⟨FF, AA, rfl, mPe_w ww⟩
        | fail "none"
theorem q_Mo_root {sc : Option (Nat × Nat × (Nat → Int32))} {sa : Nat → Nat} {d : Nat} {M : mz_M} {z : Nat × Nat} {m : Nat} (w : g_Mo M.2.2 m) {F : Nat → Int32} {A : Nat → Nat → Int32} {c N D : Nat} {l t : Int32} {K P1 P2 P3 : Nat → Nat} {q : sQ} (hX : mX c N D l t K P1 P2 P3 q A) {a b : Int32} : zi sc sa (d + 12) 229 [.ref m, .int a, .int b] (moF M m F A) z (mR M m F A (if vI q.1 a ∧ vI c b then rt (q.2.1 a.toNatClampNeg) c b else -2)) := by
  obtain ⟨⟨c1, c2, c3, c4, c5⟩, ⟨k1, k2, k3, k4, ln, k5, k6, k7⟩, hd, hv, he, hI, hV, hn⟩ := id hX
  have b1 := hI.1
  have b2 := hI.2.1
  refine zin ym_Mo_root [.ref m, .int a, .int b] rfl rfl rfl rfl ?_
  refine z_aload_n (q := 1) rfl rfl rfl ?_
  refine z_iload_n (q := 2) rfl rfl rfl ?_
  refine z_cv1qi (q := 5) rfl rfl rfl (Mo_k w) (q_Mo_isVersion w hX) (fun x9 M9 h9 => ?_)
  obtain ⟨rfl, FF, AA, rfl, ww⟩ := h9
  refine z_if_eq (q := 8) rfl rfl (fun h5 => ?_) (fun h5 => ?_)
  · refine z_bipush (q := 27) (v := -2) rfl rfl rfl ?_
    refine z_ireti rfl rfl ?_
    first
      | exact qz_t ⟨bz_n.mp h5, bz_n.mp h13⟩ (by rw [nI_clamp (show j < 2 ^ 31 by omega)]) ⟨FF, AA, rfl, mPe_w ww⟩
      | exact qz_f (fun h => bz_0.mp h13 h.2) ⟨FF, AA, rfl, mPe_w ww⟩
      | exact qz_f (fun h => bz_0.mp h5 h.1) ⟨FF, AA, rfl, mPe_w ww⟩
      | fail "none"
  · refine z_aload_n (q := 9) rfl rfl rfl ?_
    obtain ⟨j, hj, rfl⟩ := vI_nat (by omega) (bz_n.mp h5)
    refine z_iload_n (q := 10) rfl rfl rfl ?_
    refine z_cv1i (q := 13) rfl rfl rfl (Mo_k w) (s_Mo_isCell w ((congrFun (ww.2.1.2.2.2 1 (by omega)) 0).trans k1) c2 c1) ?_
    refine z_if_eq (q := 16) rfl rfl (fun h13 => ?_) (fun h13 => ?_)
    · refine z_bipush (q := 27) (v := -2) rfl rfl rfl ?_
      refine z_ireti rfl rfl ?_
      first
        | exact qz_t ⟨bz_n.mp h5, bz_n.mp h13⟩ (by rw [nI_clamp (show j < 2 ^ 31 by omega)]) ⟨FF, AA, rfl, mPe_w ww⟩
        | exact qz_f (fun h => bz_0.mp h13 h.2) ⟨FF, AA, rfl, mPe_w ww⟩
        | exact qz_f (fun h => bz_0.mp h5 h.1) ⟨FF, AA, rfl, mPe_w ww⟩
        | fail "none"
    · refine z_aload_n (q := 17) rfl rfl rfl ?_
      obtain ⟨i, hi, rfl⟩ := vI_nat (by omega) (bz_n.mp h13)
      refine z_iload_n (q := 18) rfl rfl rfl ?_
      refine z_iload_n (q := 19) rfl rfl rfl ?_
      refine z_cv2i (q := 22) rfl rfl rfl (Mo_k w) (s_Mo_rootOf w ww.2.2.1 hI c1 ((congrFun (ww.2.1.2.2.2 1 (by omega)) 0).trans k1) hV hj hi) ?_
      refine z_goto rfl ?_
      refine z_ireti rfl rfl ?_
      first
        | exact qz_t ⟨bz_n.mp h5, bz_n.mp h13⟩ (by rw [nI_clamp (show j < 2 ^ 31 by omega)]) ⟨FF, AA, rfl, mPe_w ww⟩
        | exact qz_f (fun h => bz_0.mp h13 h.2) ⟨FF, AA, rfl, mPe_w ww⟩
        | exact qz_f (fun h => bz_0.mp h5 h.1) ⟨FF, AA, rfl, mPe_w ww⟩
        | fail "none"
theorem q_Mo_unlike {sc : Option (Nat × Nat × (Nat → Int32))} {sa : Nat → Nat} {d : Nat} {M : mz_M} {z : Nat × Nat} {m : Nat} (w : g_Mo M.2.2 m) {F : Nat → Int32} {A : Nat → Nat → Int32} {c N D : Nat} {l t : Int32} {K P1 P2 P3 : Nat → Nat} {q : sQ} (hX : mX c N D l t K P1 P2 P3 q A) {a b : Int32} : zi sc sa (d + 13) 224 [.ref m, .int a, .int b] (moF M m F A) z (mR M m F A (if vI q.1 a ∧ vI q.1 b then (fo (fun c acc => if nmI (q.2.1 a.toNatClampNeg) (nI c) = nmI (q.2.1 b.toNatClampNeg) (nI c) then acc else acc + Int32.ofInt 1) 0 c) else -2)) := by
  obtain ⟨⟨c1, c2, c3, c4, c5⟩, ⟨k1, k2, k3, k4, ln, k5, k6, k7⟩, hd, hv, he, hI, hV, hn⟩ := id hX
  have b1 := hI.1
  have b2 := hI.2.1
  refine zin ym_Mo_unlike [.ref m, .int a, .int b] rfl rfl rfl rfl ?_
  refine z_aload_n (q := 1) rfl rfl rfl ?_
  refine z_iload_n (q := 2) rfl rfl rfl ?_
  refine z_iload_n (q := 3) rfl rfl rfl ?_
  refine z_cv2qi (q := 6) rfl rfl rfl (Mo_k w) (q_Mo_areVersions w hX) (fun x9 M9 h9 => ?_)
  obtain ⟨rfl, FF, AA, rfl, ww⟩ := h9
  refine z_if_eq (q := 9) rfl rfl (fun h6 => ?_) (fun h6 => ?_)
  · refine z_bipush (q := 20) (v := -2) rfl rfl rfl ?_
    refine z_ireti rfl rfl ?_
    first
      | exact qz_t (bz_n.mp h6) (by rw [nI_clamp (show j < 2 ^ 31 by omega), nI_clamp (show i < 2 ^ 31 by omega)]) ⟨FF, AA, rfl, mPe_w ww⟩
      | exact qz_f (bz_0.mp h6) ⟨FF, AA, rfl, mPe_w ww⟩
      | fail "none"
  · refine z_aload_n (q := 10) rfl rfl rfl ?_
    obtain ⟨j, hj, rfl⟩ := vI_nat (by omega) (bz_n.mp h6).1
    obtain ⟨i, hi, rfl⟩ := vI_nat (by omega) (bz_n.mp h6).2
    refine z_iload_n (q := 11) rfl rfl rfl ?_
    refine z_iload_n (q := 12) rfl rfl rfl ?_
    refine z_cv2i (q := 15) rfl rfl rfl (Mo_k w) (s_Mo_unlikeOf w ww.2.2.1 hI c1 ((congrFun (ww.2.1.2.2.2 1 (by omega)) 0).trans k1) hj hi) ?_
    refine z_goto rfl ?_
    refine z_ireti rfl rfl ?_
    first
      | exact qz_t (bz_n.mp h6) (by rw [nI_clamp (show j < 2 ^ 31 by omega), nI_clamp (show i < 2 ^ 31 by omega)]) ⟨FF, AA, rfl, mPe_w ww⟩
      | exact qz_f (bz_0.mp h6) ⟨FF, AA, rfl, mPe_w ww⟩
      | fail "none"
theorem q_Mo_meet {sc : Option (Nat × Nat × (Nat → Int32))} {sa : Nat → Nat} {d : Nat} {M : mz_M} {z : Nat × Nat} {m : Nat} (w : g_Mo M.2.2 m) {F : Nat → Int32} {A : Nat → Nat → Int32} {c N D : Nat} {l t : Int32} {K P1 P2 P3 : Nat → Nat} {q : sQ} (hX : mX c N D l t K P1 P2 P3 q A) {a b : Int32} : zi sc sa (d + 13) 227 [.ref m, .int a, .int b] (moF M m F A) z (mR M m F A (if vI q.1 a ∧ vI q.1 b then nI (mtN q.2.2.2.2.1 (2 * q.1) a.toNatClampNeg b.toNatClampNeg) else -2)) := by
  obtain ⟨⟨c1, c2, c3, c4, c5⟩, ⟨k1, k2, k3, k4, ln, k5, k6, k7⟩, hd, hv, he, hI, hV, hn⟩ := id hX
  have b1 := hI.1
  have b2 := hI.2.1
  refine zin ym_Mo_meet [.ref m, .int a, .int b] rfl rfl rfl rfl ?_
  refine z_aload_n (q := 1) rfl rfl rfl ?_
  refine z_iload_n (q := 2) rfl rfl rfl ?_
  refine z_iload_n (q := 3) rfl rfl rfl ?_
  refine z_cv2qi (q := 6) rfl rfl rfl (Mo_k w) (q_Mo_areVersions w hX) (fun x9 M9 h9 => ?_)
  obtain ⟨rfl, FF, AA, rfl, ww⟩ := h9
  refine z_if_eq (q := 9) rfl rfl (fun h6 => ?_) (fun h6 => ?_)
  · refine z_bipush (q := 20) (v := -2) rfl rfl rfl ?_
    refine z_ireti rfl rfl ?_
    first
      | exact qz_t (bz_n.mp h6) (by rw [nI_clamp (show j < 2 ^ 31 by omega), nI_clamp (show i < 2 ^ 31 by omega)]) ⟨FF, AA, rfl, mPe_w ww⟩
      | exact qz_f (bz_0.mp h6) ⟨FF, AA, rfl, mPe_w ww⟩
      | fail "none"
  · refine z_aload_n (q := 10) rfl rfl rfl ?_
    obtain ⟨j, hj, rfl⟩ := vI_nat (by omega) (bz_n.mp h6).1
    obtain ⟨i, hi, rfl⟩ := vI_nat (by omega) (bz_n.mp h6).2
    refine z_iload_n (q := 11) rfl rfl rfl ?_
    refine z_iload_n (q := 12) rfl rfl rfl ?_
    refine z_cv2i (q := 15) rfl rfl rfl (Mo_k w) (s_Mo_meetOf w ww.2.2.1 hI c1 hj hi) ?_
    refine z_goto rfl ?_
    refine z_ireti rfl rfl ?_
    first
      | exact qz_t (bz_n.mp h6) (by rw [nI_clamp (show j < 2 ^ 31 by omega), nI_clamp (show i < 2 ^ 31 by omega)]) ⟨FF, AA, rfl, mPe_w ww⟩
      | exact qz_f (bz_0.mp h6) ⟨FF, AA, rfl, mPe_w ww⟩
      | fail "none"
theorem wl_c {f g : Nat → Int32} {n : Nat} (h : ∀ v, v < n → f v = g v) (ho : okl f n) (hn : n < 2 ^ 31) : ∀ k v, v < n → wl f k v = wl g k v := by
  intro k
  induction k with
  | zero => intro v _; rfl
  | succ k ih =>
    intro v hv
    unfold wl
    rw [← h v hv]
    by_cases e : f v = -1
    · rw [if_pos e, if_pos e]
    · rw [if_neg e, if_neg e, ih _ (okl_nx ho hn hv e).1]
theorem acy_c {f g : Nat → Int32} {n : Nat} (h : ∀ v, v < n → g v = f v) (hf : acy f n) : acy g n := by
  obtain ⟨h1, rk, hr⟩ := hf
  refine ⟨fun v hv => by rw [h v hv]; exact h1 v hv, rk, fun v hv hne => ?_⟩
  rw [h v hv] at hne ⊢
  exact hr v hv hne
theorem acy_w {A : Nat → Nat → Int32} {c : Nat} {q : sQ} (h : mAl A q) (hI : qI c q) : acy (A 8) q.1 := acy_c (fun v hv => (h v hv).1) hI.2.2.1
theorem wl_w {A : Nat → Nat → Int32} {c : Nat} {q : sQ} (h : mAl A q) (hI : qI c q) {v : Nat} (hv : v < q.1) : wl (A 8) q.1 v = wl q.2.2.1 q.1 v := (wl_c (fun u hu => ((h u hu).1).symm) hI.2.2.1.1 (by have := hI.2.1; omega) q.1 v hv).symm
theorem q_Mo_length {sc : Option (Nat × Nat × (Nat → Int32))} {sa : Nat → Nat} {d : Nat} {M : mz_M} {z : Nat × Nat} {m : Nat} (w : g_Mo M.2.2 m) {F : Nat → Int32} {A : Nat → Nat → Int32} {c N D : Nat} {l t : Int32} {K P1 P2 P3 : Nat → Nat} {q : sQ} (hX : mX c N D l t K P1 P2 P3 q A) {a : Int32} : zi sc sa (d + 12) 233 [.ref m, .int a] (moF M m F A) z (mR M m F A (if vI q.1 a then nI (wl q.2.2.1 q.1 a.toNatClampNeg) else -2)) := by
  obtain ⟨⟨c1, c2, c3, c4, c5⟩, ⟨k1, k2, k3, k4, ln, k5, k6, k7⟩, hd, hv, he, hI, hV, hn⟩ := id hX
  have b1 := hI.1
  have b2 := hI.2.1
  refine zin ym_Mo_length [.ref m, .int a] rfl rfl rfl rfl ?_
  refine z_aload_n (q := 1) rfl rfl rfl ?_
  refine z_iload_n (q := 2) rfl rfl rfl ?_
  refine z_cv1qi (q := 5) rfl rfl rfl (Mo_k w) (q_Mo_isVersion w hX) (fun x9 M9 h9 => ?_)
  obtain ⟨rfl, FF, AA, rfl, ww⟩ := h9
  refine z_if_eq (q := 8) rfl rfl (fun h5 => ?_) (fun h5 => ?_)
  · refine z_bipush (q := 18) (v := -2) rfl rfl rfl ?_
    refine z_ireti rfl rfl ?_
    first
      | exact qz_t (bz_n.mp h5) (by rw [nI_clamp (show j < 2 ^ 31 by omega), wl_w ww.2.2.2.1 hI hj]) ⟨FF, AA, rfl, mPe_w ww⟩
      | exact qz_f (bz_0.mp h5) ⟨FF, AA, rfl, mPe_w ww⟩
      | fail "none"
  · refine z_aload_n (q := 9) rfl rfl rfl ?_
    obtain ⟨j, hj, rfl⟩ := vI_nat (by omega) (bz_n.mp h5)
    refine z_iload_n (q := 10) rfl rfl rfl ?_
    refine z_cv1i (q := 13) rfl rfl rfl (Mo_k w) (s_Mo_lengthOf w (acy_w ww.2.2.2.1 hI) b2 hj) ?_
    refine z_goto rfl ?_
    refine z_ireti rfl rfl ?_
    first
      | exact qz_t (bz_n.mp h5) (by rw [nI_clamp (show j < 2 ^ 31 by omega), wl_w ww.2.2.2.1 hI hj]) ⟨FF, AA, rfl, mPe_w ww⟩
      | exact qz_f (bz_0.mp h5) ⟨FF, AA, rfl, mPe_w ww⟩
      | fail "none"
theorem t_Mo_inB {sc : Option (Nat × Nat × (Nat → Int32))} {sa : Nat → Nat} {d : Nat} {M : mz_M} {z : Nat × Nat} {a hi : Int32} : zx sc sa (d + 1) 168 [.long a.toInt64, .long 0, .long hi.toInt64] M z z (some (.int (bz (¬ a < 0 ∧ a ≤ hi)))) M := by
  have e := @t_Mo_in sc sa d M z a 0 hi
  rw [show bz ((0 : Int32) ≤ a ∧ a ≤ hi) = bz (¬ a < 0 ∧ a ≤ hi) by
    unfold bz
    by_cases g : ¬ a < 0 ∧ a ≤ hi
    · rw [if_pos g, if_pos ⟨Int32.not_lt.mp g.1, g.2⟩]
    · rw [if_neg g, if_neg (fun k => g ⟨Int32.not_lt.mpr k.1, k.2⟩)]] at e
  exact e
theorem ver0 {x : Int32} : x = if x = -1 then -1 else x := by
  by_cases h : x = -1
  · rw [if_pos h, h]
  · rw [if_neg h]
theorem ver1 {x y : Int32} (h : x = -1 → y = -1) : y = if x = -1 then -1 else y := by
  by_cases g : x = -1
  · rw [if_pos g, h g]
  · rw [if_neg g]
theorem q_Mo_version {sc : Option (Nat × Nat × (Nat → Int32))} {sa : Nat → Nat} {d : Nat} {M : mz_M} {z : Nat × Nat} {m : Nat} (w : g_Mo M.2.2 m) {F : Nat → Int32} {A : Nat → Nat → Int32} {c N D : Nat} {l t : Int32} {K P1 P2 P3 : Nat → Nat} {q : sQ} (hX : mX c N D l t K P1 P2 P3 q A) {a b : Int32} : zi sc sa (d + 12) 221 [.ref m, .int a, .int b] (moF M m F A) z (mR M m F A (if vI q.1 a ∧ ¬ b < 0 ∧ b ≤ 2 then if (q.2.2.2.2.1 a.toNatClampNeg) = -1 then -1 else if b = 0 then (q.2.2.2.2.1 a.toNatClampNeg) else if b = 1 then (q.2.2.2.2.2.1 a.toNatClampNeg) else nmI (q.2.1 a.toNatClampNeg) (q.2.2.2.2.2.1 a.toNatClampNeg) else -2)) := by
  obtain ⟨⟨c1, c2, c3, c4, c5⟩, ⟨k1, k2, k3, k4, ln, k5, k6, k7⟩, hd, hv, he, hI, hV, hn⟩ := id hX
  have b1 := hI.1
  have b2 := hI.2.1
  refine zin ym_Mo_version [.ref m, .int a, .int b] rfl rfl rfl rfl ?_
  refine z_aload_n (q := 1) rfl rfl rfl ?_
  refine z_iload_n (q := 2) rfl rfl rfl ?_
  refine z_cv1qi (q := 5) rfl rfl rfl (Mo_k w) (q_Mo_isVersion w hX) (fun x9 M9 h9 => ?_)
  obtain ⟨rfl, FF, AA, rfl, ww⟩ := h9
  refine z_if_eq (q := 8) rfl rfl (fun h5 => ?_) (fun h5 => ?_)
  · refine z_bipush (q := 22) (v := -2) rfl rfl rfl ?_
    refine z_ireti rfl rfl ?_
    first
      | (have hzz : b = 0 := h24
         refine qz_t ⟨bz_n.mp h5, bz_n.mp h17⟩ ?_ ⟨FF, AA, rfl, mPe_w ww⟩
         try rw [nI_clamp (show j < 2 ^ 31 by omega)]
         rw [if_pos hzz]
         exact ver0)
      | (have hzz : b = 1 := h38
         refine qz_t ⟨bz_n.mp h5, bz_n.mp h17⟩ ?_ ⟨FF, AA, rfl, mPe_w ww⟩
         try rw [nI_clamp (show j < 2 ^ 31 by omega)]
         rw [if_neg h24, if_pos hzz]
         exact ver1 (fun e => (hI.2.2.2.2.2 j hj).1 e))
      | (have hzz : ¬ b = 1 := h38
         refine qz_t ⟨bz_n.mp h5, bz_n.mp h17⟩ ?_ ⟨FF, AA, rfl, mPe_w ww⟩
         try rw [nI_clamp (show j < 2 ^ 31 by omega)]
         rw [if_neg h24, if_neg hzz])
      | exact qz_f (fun h => bz_0.mp h17 h.2) ⟨FF, AA, rfl, mPe_w ww⟩
      | exact qz_f (fun h => bz_0.mp h5 h.1) ⟨FF, AA, rfl, mPe_w ww⟩
      | fail "none"
  · refine z_iload_n (q := 9) rfl rfl rfl ?_
    obtain ⟨j, hj, rfl⟩ := vI_nat (by omega) (bz_n.mp h5)
    refine z_i2l (q := 10) rfl rfl ?_
    refine z_lconst (q := 11) (v := 0) rfl rfl rfl ?_
    refine z_ldc2 (q := 14) (v := 2) rfl rfl rfl ?_
    refine z_cs3i (q := 17) rfl rfl rfl (t_Mo_inB (hi := 2)) ?_
    refine z_if_ne (q := 20) rfl rfl (fun h17 => ?_) (fun h17 => ?_)
    · refine z_iload_n (q := 24) rfl rfl rfl ?_
      refine z_if_ne (q := 27) rfl rfl (fun h24 => ?_) (fun h24 => ?_)
      · refine z_iload_n (q := 37) rfl rfl rfl ?_
        refine z_iconst (q := 38) (v := 1) rfl rfl rfl ?_
        refine z_ic_ne (q := 41) rfl rfl (fun h38 => ?_) (fun h38 => ?_)
        · refine z_aload_n (q := 51) rfl rfl rfl ?_
          refine z_getR (q := 54) rfl rfl rfl (Mo_k w) (Mo_r9 w) ?_
          refine z_iload_n (q := 55) rfl rfl rfl ?_
          refine z_iald (q := 56) rfl rfl (Mo_a9 w) (by first | assumption | exact vp_in_nI (by omega) (by omega)) ?_
          rw [moF_a9]
          try rw [nI_clamp (by omega)]
          rw [(ww.2.2.1 j hj).2.2.2]
          refine z_ireti rfl rfl ?_
          first
            | (have hzz : b = 0 := h24
               refine qz_t ⟨bz_n.mp h5, bz_n.mp h17⟩ ?_ ⟨FF, AA, rfl, mPe_w ww⟩
               try rw [nI_clamp (show j < 2 ^ 31 by omega)]
               rw [if_pos hzz]
               exact ver0)
            | (have hzz : b = 1 := h38
               refine qz_t ⟨bz_n.mp h5, bz_n.mp h17⟩ ?_ ⟨FF, AA, rfl, mPe_w ww⟩
               try rw [nI_clamp (show j < 2 ^ 31 by omega)]
               rw [if_neg h24, if_pos hzz]
               exact ver1 (fun e => (hI.2.2.2.2.2 j hj).1 e))
            | (have hzz : ¬ b = 1 := h38
               refine qz_t ⟨bz_n.mp h5, bz_n.mp h17⟩ ?_ ⟨FF, AA, rfl, mPe_w ww⟩
               try rw [nI_clamp (show j < 2 ^ 31 by omega)]
               rw [if_neg h24, if_neg hzz])
            | exact qz_f (fun h => bz_0.mp h17 h.2) ⟨FF, AA, rfl, mPe_w ww⟩
            | exact qz_f (fun h => bz_0.mp h5 h.1) ⟨FF, AA, rfl, mPe_w ww⟩
            | fail "none"
        · refine z_aload_n (q := 42) rfl rfl rfl ?_
          refine z_getR (q := 45) rfl rfl rfl (Mo_k w) (Mo_r8 w) ?_
          refine z_iload_n (q := 46) rfl rfl rfl ?_
          refine z_iald (q := 47) rfl rfl (Mo_a8 w) (by first | assumption | exact vp_in_nI (by omega) (by omega)) ?_
          rw [moF_a8]
          try rw [nI_clamp (by omega)]
          rw [(ww.2.2.1 j hj).2.1]
          refine z_goto rfl ?_
          refine z_ireti rfl rfl ?_
          first
            | (have hzz : b = 0 := h24
               refine qz_t ⟨bz_n.mp h5, bz_n.mp h17⟩ ?_ ⟨FF, AA, rfl, mPe_w ww⟩
               try rw [nI_clamp (show j < 2 ^ 31 by omega)]
               rw [if_pos hzz]
               exact ver0)
            | (have hzz : b = 1 := h38
               refine qz_t ⟨bz_n.mp h5, bz_n.mp h17⟩ ?_ ⟨FF, AA, rfl, mPe_w ww⟩
               try rw [nI_clamp (show j < 2 ^ 31 by omega)]
               rw [if_neg h24, if_pos hzz]
               exact ver1 (fun e => (hI.2.2.2.2.2 j hj).1 e))
            | (have hzz : ¬ b = 1 := h38
               refine qz_t ⟨bz_n.mp h5, bz_n.mp h17⟩ ?_ ⟨FF, AA, rfl, mPe_w ww⟩
               try rw [nI_clamp (show j < 2 ^ 31 by omega)]
               rw [if_neg h24, if_neg hzz])
            | exact qz_f (fun h => bz_0.mp h17 h.2) ⟨FF, AA, rfl, mPe_w ww⟩
            | exact qz_f (fun h => bz_0.mp h5 h.1) ⟨FF, AA, rfl, mPe_w ww⟩
            | fail "none"
      · refine z_aload_n (q := 28) rfl rfl rfl ?_
        refine z_getR (q := 31) rfl rfl rfl (Mo_k w) (Mo_r7 w) ?_
        refine z_iload_n (q := 32) rfl rfl rfl ?_
        refine z_iald (q := 33) rfl rfl (Mo_a7 w) (by first | assumption | exact vp_in_nI (by omega) (by omega)) ?_
        rw [moF_a7]
        try rw [nI_clamp (by omega)]
        rw [(ww.2.2.1 j hj).1]
        refine z_goto rfl ?_
        refine z_ireti rfl rfl ?_
        first
          | (have hzz : b = 0 := h24
             refine qz_t ⟨bz_n.mp h5, bz_n.mp h17⟩ ?_ ⟨FF, AA, rfl, mPe_w ww⟩
             try rw [nI_clamp (show j < 2 ^ 31 by omega)]
             rw [if_pos hzz]
             exact ver0)
          | (have hzz : b = 1 := h38
             refine qz_t ⟨bz_n.mp h5, bz_n.mp h17⟩ ?_ ⟨FF, AA, rfl, mPe_w ww⟩
             try rw [nI_clamp (show j < 2 ^ 31 by omega)]
             rw [if_neg h24, if_pos hzz]
             exact ver1 (fun e => (hI.2.2.2.2.2 j hj).1 e))
          | (have hzz : ¬ b = 1 := h38
             refine qz_t ⟨bz_n.mp h5, bz_n.mp h17⟩ ?_ ⟨FF, AA, rfl, mPe_w ww⟩
             try rw [nI_clamp (show j < 2 ^ 31 by omega)]
             rw [if_neg h24, if_neg hzz])
          | exact qz_f (fun h => bz_0.mp h17 h.2) ⟨FF, AA, rfl, mPe_w ww⟩
          | exact qz_f (fun h => bz_0.mp h5 h.1) ⟨FF, AA, rfl, mPe_w ww⟩
          | fail "none"
    · refine z_bipush (q := 22) (v := -2) rfl rfl rfl ?_
      refine z_ireti rfl rfl ?_
      first
        | (have hzz : b = 0 := h24
           refine qz_t ⟨bz_n.mp h5, bz_n.mp h17⟩ ?_ ⟨FF, AA, rfl, mPe_w ww⟩
           try rw [nI_clamp (show j < 2 ^ 31 by omega)]
           rw [if_pos hzz]
           exact ver0)
        | (have hzz : b = 1 := h38
           refine qz_t ⟨bz_n.mp h5, bz_n.mp h17⟩ ?_ ⟨FF, AA, rfl, mPe_w ww⟩
           try rw [nI_clamp (show j < 2 ^ 31 by omega)]
           rw [if_neg h24, if_pos hzz]
           exact ver1 (fun e => (hI.2.2.2.2.2 j hj).1 e))
        | (have hzz : ¬ b = 1 := h38
           refine qz_t ⟨bz_n.mp h5, bz_n.mp h17⟩ ?_ ⟨FF, AA, rfl, mPe_w ww⟩
           try rw [nI_clamp (show j < 2 ^ 31 by omega)]
           rw [if_neg h24, if_neg hzz])
        | exact qz_f (fun h => bz_0.mp h17 h.2) ⟨FF, AA, rfl, mPe_w ww⟩
        | exact qz_f (fun h => bz_0.mp h5 h.1) ⟨FF, AA, rfl, mPe_w ww⟩
        | fail "none"
