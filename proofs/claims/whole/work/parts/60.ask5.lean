theorem la_c {f g f' g' : Nat → Int32} {cell : Int32} {n : Nat} (h : ∀ v, v < n → f v = f' v) (h2 : ∀ v, v < n → g v = g' v) (ho : okl f n) (hn : n < 2 ^ 31) : ∀ k v, v < n → la f g cell k v = la f' g' cell k v := by
  intro k
  induction k with
  | zero => intro v _; rfl
  | succ k ih =>
    intro v hv
    unfold la
    rw [← h v hv, ← h2 v hv]
    by_cases e : f v = -1
    · rw [if_pos e, if_pos e]
    · rw [if_neg e, if_neg e, ih _ (okl_nx ho hn hv e).1]
theorem rd_cost {s l t : Int32} {j : Nat} {cell : Int32} {q : sQ} : (rdQ s l t j cell (qS 0 q)).2.2.2.2.2.2 = if l = 1 then nI (la q.2.2.1 q.2.2.2.1 cell q.1 j) else if l = 2 ∧ ¬ nI (wl q.2.2.1 q.1 j) ≤ t then nI (wl q.2.2.1 q.1 j) + s else nI (wl q.2.2.1 q.1 j) := by
  show (rdF s l t q.1 j cell q.2.2.1 q.2.2.2.1 0).2.2 = _
  by_cases h : l = 1
  · rw [if_pos h, rd_1 h]
    exact Int32.zero_add _
  · rw [if_neg h, rd_0 h]
    by_cases h2 : l = 2 ∧ ¬ nI (wl q.2.2.1 q.1 j) ≤ t
    · rw [if_pos h2, rc_s h2]
      exact Int32.zero_add _
    · rw [if_neg h2, rc_t h2]
      exact Int32.zero_add _
theorem cost_c {c : Nat} {l t s : Int32} {q q' : sQ} {j : Nat} {cell : Int32} (e : stE q q') (hI : qI c q) (hj : j < q.1) : (rdQ s l t j cell (qS 0 q')).2.2.2.2.2.2 = if l = 1 then nI (la q.2.2.1 q.2.2.2.1 cell q.1 j) else if l = 2 ∧ ¬ nI (wl q.2.2.1 q.1 j) ≤ t then nI (wl q.2.2.1 q.1 j) + s else nI (wl q.2.2.1 q.1 j) := by
  have b := hI.2.1
  rw [rd_cost, e.1, ← la_c (fun v hv => ((e.2 v hv).2.1).symm) (fun v hv => ((e.2 v hv).2.2.1).symm) hI.2.2.1.1 (by omega) q.1 j hj, ← wl_c (fun v hv => ((e.2 v hv).2.1).symm) hI.2.2.1.1 (by omega) q.1 j hj]
theorem mX_c {c N D : Nat} {l t : Int32} {K P1 P2 P3 : Nat → Nat} {q : sQ} {A A' : Nat → Nat → Int32} (h : A' 1 = A 1) (hX : mX c N D l t K P1 P2 P3 q A) : mX c N D l t K P1 P2 P3 q A' := by
  obtain ⟨a1, a2, a3, a4⟩ := hX
  exact ⟨a1, by rw [h]; exact a2, by rw [h]; exact a3, a4⟩
theorem mPe_t {F F1 F2 : Nat → Int32} {A A1 A2 : Nat → Nat → Int32} (h : mPe F A F1 A1) (g : mPe F1 A1 F2 A2) : mPe F A F2 A2 := ⟨fun k hk => (g.1 k hk).trans (h.1 k hk), fun j hj => (g.2 j hj).trans (h.2 j hj)⟩
theorem q_Mo_cost {sc : Option (Nat × Nat × (Nat → Int32))} {sa : Nat → Nat} {d : Nat} {M : mz_M} {z : Nat × Nat} {m : Nat} (w : g_Mo M.2.2 m) {F : Nat → Int32} {A : Nat → Nat → Int32} {c N D : Nat} {l t : Int32} {K P1 P2 P3 : Nat → Nat} {q : sQ} (hX : mX c N D l t K P1 P2 P3 q A) {a b : Int32} : zi sc sa (d + 12) 239 [.ref m, .int a, .int b] (moF M m F A) z (mR M m F A (if vI q.1 a ∧ vI c b then (if l = 1 then nI (la q.2.2.1 q.2.2.2.1 b q.1 a.toNatClampNeg) else if l = 2 ∧ ¬ nI (wl q.2.2.1 q.1 a.toNatClampNeg) ≤ t then nI (wl q.2.2.1 q.1 a.toNatClampNeg) + nI c else nI (wl q.2.2.1 q.1 a.toNatClampNeg)) else -2)) := by
  obtain ⟨⟨c1, c2, c3, c4, c5⟩, ⟨k1, k2, k3, k4, ln, k5, k6, k7⟩, hd, hv, he, hI, hV, hn⟩ := id hX
  have b1 := hI.1
  have b2 := hI.2.1
  refine zin ym_Mo_cost [.ref m, .int a, .int b] rfl rfl rfl rfl ?_
  refine z_aload_n (q := 1) rfl rfl rfl ?_
  refine z_iload_n (q := 2) rfl rfl rfl ?_
  refine z_cv1qi (q := 5) rfl rfl rfl (Mo_k w) (q_Mo_isVersion w hX) (fun x9 M9 h9 => ?_)
  obtain ⟨rfl, FF, AA, rfl, ww⟩ := h9
  refine z_if_eq (q := 8) rfl rfl (fun h5 => ?_) (fun h5 => ?_)
  · refine z_bipush (q := 18) (v := -2) rfl rfl rfl ?_
    refine z_ireti rfl rfl ?_
    first
      | exact qz_t ⟨bz_n.mp h5, bz_n.mp h13⟩ (by rw [nI_clamp (show j < 2 ^ 31 by omega)]; exact gc1.2.1.trans (cost_c (he p8 q8) hI hj)) ⟨Fc, Ac, rfl, fun k hk => (rc1.1 k (by omega) (by omega)).trans ((up_n (by omega)).trans ((mPe_w ww).1 k hk)), fun j hj => (rc1.2 j (by omega)).trans ((mPe_w ww).2 j hj)⟩
      | exact qz_f (fun h => bz_0.mp h13 h.2) ⟨FF, AA, rfl, mPe_w ww⟩
      | exact qz_f (fun h => bz_0.mp h5 h.1) ⟨FF, AA, rfl, mPe_w ww⟩
      | fail "none"
  · refine z_aload_n (q := 9) rfl rfl rfl ?_
    obtain ⟨j, hj, rfl⟩ := vI_nat (by omega) (bz_n.mp h5)
    refine z_iload_n (q := 10) rfl rfl rfl ?_
    refine z_cv1i (q := 13) rfl rfl rfl (Mo_k w) (s_Mo_isCell w ((congrFun (ww.2.1.2.2.2 1 (by omega)) 0).trans k1) c2 c1) ?_
    refine z_if_ne (q := 16) rfl rfl (fun h13 => ?_) (fun h13 => ?_)
    · refine z_aload_n (q := 20) rfl rfl rfl ?_
      obtain ⟨i, hi, rfl⟩ := vI_nat (by omega) (bz_n.mp h13)
      refine z_iconst (q := 21) (v := 0) rfl rfl rfl ?_
      refine z_putI (q := 24) rfl rfl rfl (by decide) rfl rfl (Mo_k w) ?_
      rw [moF_u17]
      refine z_aload_n (q := 25) rfl rfl rfl ?_
      refine z_iload_n (q := 26) rfl rfl rfl ?_
      refine z_iload_n (q := 27) rfl rfl rfl ?_
      obtain ⟨p8, q8, g8, s8⟩ := id ww.2.2.2.2
      have i8 := (pm_ok (q0 := qS p8 (bgQ (ownR c) q8)) c1 (show N ≤ 200 by omega) (qI_bg (row := ownR c) (q := q8)) (qV_bg (q := q8) c1) c4 (hv p8 q8) D (Nat.le_refl _)).1
      have g7 : mAg c (va_up FF 17 0) AA (qS 0 (fo (pmG (nI c) l t c K P1 P2 P3 (-1)) (qS p8 (bgQ (ownR c) q8)) D)) := ⟨g8.1, rfl, g8.2.2⟩
      have j8 : j < (qS 0 (fo (pmG (nI c) l t c K P1 P2 P3 (-1)) (qS p8 (bgQ (ownR c) q8)) D)).1 := by
        have e8 := (he p8 q8).1
        show j < (fo (pmG (nI c) l t c K P1 P2 P3 (-1)) (qS p8 (bgQ (ownR c) q8)) D).1
        omega
      refine z_cv2qi (q := 30) rfl rfl rfl (Mo_k w) (q_Mo_read w g7 i8 c1 ((congrFun (ww.2.1.2.2.2 1 (by omega)) 0).trans k1) ww.2.1.1 ww.2.1.2.1 j8 hi) (fun x9 M9 h9 => ?_)
      obtain ⟨rfl, Fc, Ac, rfl, rc1, gc1⟩ := h9
      refine z_pop (q := 31) rfl rfl rfl ?_
      refine z_aload_n (q := 32) rfl rfl rfl ?_
      refine z_getI (q := 35) rfl rfl rfl (Mo_k w) ?_
      rw [moF_g17]
      refine z_ireti rfl rfl ?_
      first
        | exact qz_t ⟨bz_n.mp h5, bz_n.mp h13⟩ (by rw [nI_clamp (show j < 2 ^ 31 by omega)]; exact gc1.2.1.trans (cost_c (he p8 q8) hI hj)) ⟨Fc, Ac, rfl, fun k hk => (rc1.1 k (by omega) (by omega)).trans ((up_n (by omega)).trans ((mPe_w ww).1 k hk)), fun j hj => (rc1.2 j (by omega)).trans ((mPe_w ww).2 j hj)⟩
        | exact qz_f (fun h => bz_0.mp h13 h.2) ⟨FF, AA, rfl, mPe_w ww⟩
        | exact qz_f (fun h => bz_0.mp h5 h.1) ⟨FF, AA, rfl, mPe_w ww⟩
        | fail "none"
    · refine z_bipush (q := 18) (v := -2) rfl rfl rfl ?_
      refine z_ireti rfl rfl ?_
      first
        | exact qz_t ⟨bz_n.mp h5, bz_n.mp h13⟩ (by rw [nI_clamp (show j < 2 ^ 31 by omega)]; exact gc1.2.1.trans (cost_c (he p8 q8) hI hj)) ⟨Fc, Ac, rfl, fun k hk => (rc1.1 k (by omega) (by omega)).trans ((up_n (by omega)).trans ((mPe_w ww).1 k hk)), fun j hj => (rc1.2 j (by omega)).trans ((mPe_w ww).2 j hj)⟩
        | exact qz_f (fun h => bz_0.mp h13 h.2) ⟨FF, AA, rfl, mPe_w ww⟩
        | exact qz_f (fun h => bz_0.mp h5 h.1) ⟨FF, AA, rfl, mPe_w ww⟩
        | fail "none"
def cbI (T : Nat → Int32) : Nat → Nat
  | 0 => 0
  | k + 1 => if T (k + 1) < T (cbI T k) then k + 1 else cbI T k
theorem cb_le (T : Nat → Int32) : ∀ k, cbI T k ≤ k := by
  intro k
  induction k with
  | zero => exact Nat.le_refl _
  | succ k ih =>
    unfold cbI
    by_cases h : T (k + 1) < T (cbI T k)
    · rw [if_pos h]; exact Nat.le_refl _
    · rw [if_neg h]; omega
theorem l_Mo_cut {sc : Option (Nat × Nat × (Nat → Int32))} {sa : Nat → Nat} {d : Nat} {M : mz_M} {z : Nat × Nat} {m : Nat} (w : g_Mo M.2.2 m) {F : Nat → Int32} {A : Nat → Nat → Int32} {c N D : Nat} {l t : Int32} {K P1 P2 P3 : Nat → Nat} {q : sQ} {T : Nat → Int32} (hva : ∀ k, k ≤ 20 → ∀ p q0, pmV 2 (nI k) c N K P1 P2 P3 (-1) (qS p (bgQ (ownR c) q0)) D) (hT : ∀ k, k ≤ 20 → ∀ p q0, pmS 2 (nI k) c K P1 P2 P3 (-1) (qS p (bgQ (ownR c) q0)) D = T k)  : ∀ (k : Nat) (i : Nat) (F1 : Nat → Int32) (A1 : Nat → Nat → Int32), i + k = 20 → mPe F A F1 A1 → mX c N D l t K P1 P2 P3 q A1 → zw sc sa (d + 9) ym_Mo_cut z (fun r' M' => ∃ v, r' = some (.int v) ∧ mR M m F A (nI (cbI T 20)) v M') 14 [.ref m, .int (nI (cbI T i)), .int (nI (i + 1))] [] (moF M m F1 A1) z := by
  intro k
  induction k with
  | zero =>
    intro i F1 A1 hi hp hX
    have e1 : i = 20 := by omega
    subst e1
    refine z_iload_n (q := 15) rfl rfl rfl ?_
    refine z_bipush (q := 17) (v := 20) rfl rfl rfl ?_
    refine z_ic_gt (q := 20) rfl rfl (fun h17 => ?_) (fun h17 => ?_)
    · refine z_iload_n (q := 50) rfl rfl rfl ?_
      refine z_ireti rfl rfl ?_
      exact qz_r rfl ⟨F1, A1, rfl, hp⟩
    · exact absurd (by decide) h17
  | succ k ih =>
    intro i F1 A1 hi hp hX
    obtain ⟨⟨c1, c2, c3, c4, c5⟩, ⟨k1, k2, k3, k4, ln, k5, k6, k7⟩, hd, hv, he, hI, hV, hn⟩ := id hX
    have b1 := hI.1
    refine z_iload_n (q := 15) rfl rfl rfl ?_
    refine z_bipush (q := 17) (v := 20) rfl rfl rfl ?_
    refine z_ic_gt (q := 20) rfl rfl (fun h17 => ?_) (fun h17 => ?_)
    · exact absurd (show nI 20 < nI (i + 1) from h17) (nI_nlt (by omega) (by omega))
    · refine z_aload_n (q := 21) rfl rfl rfl ?_
      refine z_iconst (q := 22) (v := 2) rfl rfl rfl ?_
      refine z_iload_n (q := 23) rfl rfl rfl ?_
      refine z_iconst (q := 24) (v := -1) rfl rfl rfl ?_
      refine z_cv3qi (q := 27) rfl rfl rfl (Mo_k w) (q_Mo_plays w c1 (show N ≤ 200 by omega) c4 k1 k4 c5 hd (hva (i + 1) (by omega))) (fun x9 M9 h9 => ?_)
      obtain ⟨pza, qza, Fza, Aza, rfl, rfl, wza, wga, wsa⟩ := h9
      refine z_aload_n (q := 28) rfl rfl rfl ?_
      refine z_iconst (q := 29) (v := 2) rfl rfl rfl ?_
      refine z_iload_n (q := 30) rfl rfl rfl ?_
      refine z_iconst (q := 31) (v := -1) rfl rfl rfl ?_
      refine z_cv3qi (q := 34) rfl rfl rfl (Mo_k w) (q_Mo_plays w c1 (show N ≤ 200 by omega) c4 ((congrFun (wza.2.2.2 1 (by omega)) 0).trans k1) ((congrFun (wza.2.2.2 1 (by omega)) 4).trans k4) c5 (fun i hi => by rw [wza.2.2.2 1 (by omega)]; exact hd i hi) (hva (cbI T i) (by have := cb_le T i; omega))) (fun x9 M9 h9 => ?_)
      obtain ⟨pzb, qzb, Fzb, Azb, rfl, rfl, wzb, wgb, wsb⟩ := h9
      rw [hT (i + 1) (by omega), hT (cbI T i) (by have := cb_le T i; omega)]
      refine z_ic_ge (q := 37) rfl rfl (fun h34 => ?_) (fun h34 => ?_)
      · refine z_iload_n (q := 42) rfl rfl rfl ?_
        refine z_istore_n (q := 43) (L2 := [_, _, _]) rfl rfl rfl rfl ?_
        refine z_iinc (q := 46) (L2 := [_, _, _]) rfl rfl rfl rfl ?_
        refine z_goto rfl ?_
        rw [show nI (i + 1) + Int32.ofInt 1 = nI (i + 1 + 1) from (nI_succ (i + 1)).symm]
        have e9 := ih (i + 1) Fzb Azb (by omega) ⟨fun k hk => (wzb.2.2.1 k (by omega)).trans ((wza.2.2.1 k (by omega)).trans (hp.1 k hk)), fun j hj => (wzb.2.2.2 j (by omega)).trans ((wza.2.2.2 j (by omega)).trans (hp.2 j hj))⟩ (mX_c ((wzb.2.2.2 1 (by omega)).trans (wza.2.2.2 1 (by omega))) hX)
        first
          | (have hzz : ¬ T (cbI T i) ≤ T (i + 1) := h34
             rw [show cbI T (i + 1) = i + 1 from if_pos (Int32.not_le.mp hzz)] at e9
             exact e9)
          | (have hzz : T (cbI T i) ≤ T (i + 1) := h34
             rw [show cbI T (i + 1) = cbI T i from if_neg (Int32.not_lt.mpr hzz)] at e9
             exact e9)
          | fail "none"
      · refine z_iload_n (q := 38) rfl rfl rfl ?_
        refine z_goto rfl ?_
        refine z_istore_n (q := 43) (L2 := [_, _, _]) rfl rfl rfl rfl ?_
        refine z_iinc (q := 46) (L2 := [_, _, _]) rfl rfl rfl rfl ?_
        refine z_goto rfl ?_
        rw [show nI (i + 1) + Int32.ofInt 1 = nI (i + 1 + 1) from (nI_succ (i + 1)).symm]
        have e9 := ih (i + 1) Fzb Azb (by omega) ⟨fun k hk => (wzb.2.2.1 k (by omega)).trans ((wza.2.2.1 k (by omega)).trans (hp.1 k hk)), fun j hj => (wzb.2.2.2 j (by omega)).trans ((wza.2.2.2 j (by omega)).trans (hp.2 j hj))⟩ (mX_c ((wzb.2.2.2 1 (by omega)).trans (wza.2.2.2 1 (by omega))) hX)
        first
          | (have hzz : ¬ T (cbI T i) ≤ T (i + 1) := h34
             rw [show cbI T (i + 1) = i + 1 from if_pos (Int32.not_le.mp hzz)] at e9
             exact e9)
          | (have hzz : T (cbI T i) ≤ T (i + 1) := h34
             rw [show cbI T (i + 1) = cbI T i from if_neg (Int32.not_lt.mpr hzz)] at e9
             exact e9)
          | fail "none"
theorem q_Mo_cut {sc : Option (Nat × Nat × (Nat → Int32))} {sa : Nat → Nat} {d : Nat} {M : mz_M} {z : Nat × Nat} {m : Nat} (w : g_Mo M.2.2 m) {F : Nat → Int32} {A : Nat → Nat → Int32} {c N D : Nat} {l t : Int32} {K P1 P2 P3 : Nat → Nat} {q : sQ} (hX : mX c N D l t K P1 P2 P3 q A) {T : Nat → Int32} (hva : ∀ k, k ≤ 20 → ∀ p q0, pmV 2 (nI k) c N K P1 P2 P3 (-1) (qS p (bgQ (ownR c) q0)) D) (hT : ∀ k, k ≤ 20 → ∀ p q0, pmS 2 (nI k) c K P1 P2 P3 (-1) (qS p (bgQ (ownR c) q0)) D = T k)  : zi sc sa (d + 10) 242 [.ref m] (moF M m F A) z (mR M m F A (nI (cbI T 20))) := by
  obtain ⟨⟨c1, c2, c3, c4, c5⟩, ⟨k1, k2, k3, k4, ln, k5, k6, k7⟩, hd, hv, he, hI, hV, hn⟩ := id hX
  have b1 := hI.1
  have b2 := hI.2.1
  refine zin ym_Mo_cut [.ref m, .retAddr 0, .retAddr 0] rfl rfl rfl rfl ?_
  refine z_aload_n (q := 1) rfl rfl rfl ?_
  refine z_cv0i (q := 4) rfl rfl rfl (Mo_k w) (s_Mo_is w k7 k5 k6) ?_
  refine z_if_ne (q := 7) rfl rfl (fun h4 => ?_) (fun h4 => ?_)
  · refine z_iconst (q := 11) (v := 0) rfl rfl rfl ?_
    refine z_istore_n (q := 12) (L2 := [_, _, _]) rfl rfl rfl rfl ?_
    refine z_iconst (q := 13) (v := 1) rfl rfl rfl ?_
    refine z_istore_n (q := 14) (L2 := [_, _, _]) rfl rfl rfl rfl ?_
    exact l_Mo_cut w hva hT 20 0 F A (by omega) mPe_r hX
  · exact absurd h4 (by decide)
theorem km_r {k : Nat} (h : k = 1 ∨ k = 4 ∨ k = 5) : (2 : Int32) ≤ nI (kmN k) ∧ nI (kmN k) ≤ 4 := by
  rcases h with rfl | rfl | rfl <;> decide
theorem km_n {k : Nat} (h : ¬ (k = 1 ∨ k = 4 ∨ k = 5)) : ¬ ((2 : Int32) ≤ nI (kmN k) ∧ nI (kmN k) ≤ 4) := by
  match k, h with
  | 0, _ => decide
  | 1, h => exact absurd (Or.inl rfl) h
  | 2, _ => decide
  | 3, _ => decide
  | 4, h => exact absurd (Or.inr (Or.inl rfl)) h
  | 5, h => exact absurd (Or.inr (Or.inr rfl)) h
  | 6, _ => decide
  | 7, _ => decide
  | k + 8, _ =>
    show ¬ ((2 : Int32) ≤ nI 6 ∧ nI 6 ≤ 4)
    decide
theorem t_Mo_in1 {sc : Option (Nat × Nat × (Nat → Int32))} {sa : Nat → Nat} {d : Nat} {M : mz_M} {z : Nat × Nat} {a lo hi : Int32} (h : lo ≤ a ∧ a ≤ hi) : zx sc sa (d + 1) 168 [.long a.toInt64, .long lo.toInt64, .long hi.toInt64] M z z (some (.int 1)) M := by
  have e := @t_Mo_in sc sa d M z a lo hi
  rw [bz_t h] at e
  exact e
theorem t_Mo_in0 {sc : Option (Nat × Nat × (Nat → Int32))} {sa : Nat → Nat} {d : Nat} {M : mz_M} {z : Nat × Nat} {a lo hi : Int32} (h : ¬ (lo ≤ a ∧ a ≤ hi)) : zx sc sa (d + 1) 168 [.long a.toInt64, .long lo.toInt64, .long hi.toInt64] M z z (some (.int 0)) M := by
  have e := @t_Mo_in sc sa d M z a lo hi
  rw [bz_f h] at e
  exact e
theorem t_Mo_inZ1 {sc : Option (Nat × Nat × (Nat → Int32))} {sa : Nat → Nat} {d : Nat} {M : mz_M} {z : Nat × Nat} {a : Int32} {n : Nat} (hn : n < 1000) (h : vI n a) : zx sc sa (d + 1) 168 [.long a.toInt64, .long 0, .long (nI n - 1).toInt64] M z z (some (.int 1)) M := by
  have e := @t_Mo_inZ sc sa d M z a n hn
  rw [bz_t h] at e
  exact e
theorem t_Mo_inZ0 {sc : Option (Nat × Nat × (Nat → Int32))} {sa : Nat → Nat} {d : Nat} {M : mz_M} {z : Nat × Nat} {a : Int32} {n : Nat} (hn : n < 1000) (h : ¬ vI n a) : zx sc sa (d + 1) 168 [.long a.toInt64, .long 0, .long (nI n - 1).toInt64] M z z (some (.int 0)) M := by
  have e := @t_Mo_inZ sc sa d M z a n hn
  rw [bz_f h] at e
  exact e
theorem q_Mo_without {sc : Option (Nat × Nat × (Nat → Int32))} {sa : Nat → Nat} {d : Nat} {M : mz_M} {z : Nat × Nat} {m : Nat} (w : g_Mo M.2.2 m) {F : Nat → Int32} {A : Nat → Nat → Int32} {c N D : Nat} {l t : Int32} {K P1 P2 P3 : Nat → Nat} {q : sQ} (hX : mX c N D l t K P1 P2 P3 q A) {j : Nat} (hj : j < D) (hk : K j = 1 ∨ K j = 4 ∨ K j = 5) (hva : ∀ p q0, pmV l t c N K P1 P2 P3 (nI j) (qS p (bgQ (ownR c) q0)) D) {T : Int32} (hT : (∀ p q0, pmS l t c K P1 P2 P3 (nI j) (qS p (bgQ (ownR c) q0)) D = T))  : zi sc sa (d + 10) 243 [.ref m, .int (nI j)] (moF M m F A) z (mR M m F A (T)) := by
  obtain ⟨⟨c1, c2, c3, c4, c5⟩, ⟨k1, k2, k3, k4, ln, k5, k6, k7⟩, hd, hv, he, hI, hV, hn⟩ := id hX
  have b1 := hI.1
  have b2 := hI.2.1
  refine zin ym_Mo_without [.ref m, .int (nI j)] rfl rfl rfl rfl ?_
  refine z_iload_n (q := 1) rfl rfl rfl ?_
  refine z_i2l (q := 2) rfl rfl ?_
  refine z_lconst (q := 3) (v := 0) rfl rfl rfl ?_
  refine z_aload_n (q := 4) rfl rfl rfl ?_
  refine z_getR (q := 7) rfl rfl rfl (Mo_k w) (Mo_r0 w) ?_
  refine z_iconst (q := 8) (v := 4) rfl rfl rfl ?_
  refine z_iald (q := 9) rfl rfl (Mo_a0 w) (vp_in_nI (n := 4) (by omega) (by omega)) ?_
  rw [moF_a0]
  try rw [nI_clamp (by omega)]
  rw [show A 1 (4 : Int32).toNatClampNeg = nI D from k4]
  refine z_iconst (q := 10) (v := 1) rfl rfl rfl ?_
  refine z_isub (q := 11) rfl rfl ?_
  refine z_i2l (q := 12) rfl rfl ?_
  refine z_cs3i (q := 15) rfl rfl rfl (t_Mo_inZ1 (by omega) (vI_of (by omega) hj)) ?_
  refine z_if_eq (q := 18) rfl rfl (fun h15 => ?_) (fun h15 => ?_)
  · exact absurd h15 (by decide)
  · refine z_aload_n (q := 19) rfl rfl rfl ?_
    refine z_iload_n (q := 20) rfl rfl rfl ?_
    refine z_iconst (q := 21) (v := 0) rfl rfl rfl ?_
    refine z_cv2i (q := 24) rfl rfl rfl (Mo_k w) (s_Mo_deed (i := 0) w (show j < 60 by omega) (by omega)) ?_
    rw [(hd j hj).1]
    refine z_i2l (q := 25) rfl rfl ?_
    refine z_ldc2 (q := 28) (v := 2) rfl rfl rfl ?_
    refine z_ldc2 (q := 31) (v := 4) rfl rfl rfl ?_
    refine z_cs3i (q := 34) rfl rfl rfl (t_Mo_in1 (lo := 2) (hi := 4) (km_r hk)) ?_
    refine z_if_ne (q := 37) rfl rfl (fun h34 => ?_) (fun h34 => ?_)
    · refine z_aload_n (q := 41) rfl rfl rfl ?_
      refine z_aload_n (q := 42) rfl rfl rfl ?_
      refine z_getR (q := 45) rfl rfl rfl (Mo_k w) (Mo_r0 w) ?_
      refine z_iconst (q := 46) (v := 1) rfl rfl rfl ?_
      refine z_iald (q := 47) rfl rfl (Mo_a0 w) (vp_in_nI (n := 1) (by omega) (by omega)) ?_
      rw [moF_a0]
      try rw [nI_clamp (by omega)]
      rw [show A 1 (1 : Int32).toNatClampNeg = l from k2]
      refine z_aload_n (q := 48) rfl rfl rfl ?_
      refine z_getR (q := 51) rfl rfl rfl (Mo_k w) (Mo_r0 w) ?_
      refine z_iconst (q := 52) (v := 2) rfl rfl rfl ?_
      refine z_iald (q := 53) rfl rfl (Mo_a0 w) (vp_in_nI (n := 2) (by omega) (by omega)) ?_
      rw [moF_a0]
      try rw [nI_clamp (by omega)]
      rw [show A 1 (2 : Int32).toNatClampNeg = t from k3]
      refine z_iload_n (q := 54) rfl rfl rfl ?_
      refine z_cv3qi (q := 57) rfl rfl rfl (Mo_k w) (q_Mo_plays w c1 (show N ≤ 200 by omega) c4 k1 k4 c5 hd hva) (fun x9 M9 h9 => ?_)
      obtain ⟨p9, q9, FF, AA, rfl, rfl, wt, wg, wsp⟩ := h9
      refine z_ireti rfl rfl ?_
      exact qz_r (hT _ _) ⟨FF, AA, rfl, fun k hk => wt.2.2.1 k (by omega), fun j hj => wt.2.2.2 j (by omega)⟩
    · exact absurd h34 (by decide)
theorem n_Mo_without1 {sc : Option (Nat × Nat × (Nat → Int32))} {sa : Nat → Nat} {d : Nat} {M : mz_M} {z : Nat × Nat} {m : Nat} (w : g_Mo M.2.2 m) {F : Nat → Int32} {A : Nat → Nat → Int32} {c N D : Nat} {l t : Int32} {K P1 P2 P3 : Nat → Nat} {q : sQ} (hX : mX c N D l t K P1 P2 P3 q A) {j : Nat} (hj : j < D) (hk : ¬ (K j = 1 ∨ K j = 4 ∨ K j = 5))  : zi sc sa (d + 10) 243 [.ref m, .int (nI j)] (moF M m F A) z (mR M m F A (-2)) := by
  obtain ⟨⟨c1, c2, c3, c4, c5⟩, ⟨k1, k2, k3, k4, ln, k5, k6, k7⟩, hd, hv, he, hI, hV, hn⟩ := id hX
  have b1 := hI.1
  have b2 := hI.2.1
  refine zin ym_Mo_without [.ref m, .int (nI j)] rfl rfl rfl rfl ?_
  refine z_iload_n (q := 1) rfl rfl rfl ?_
  refine z_i2l (q := 2) rfl rfl ?_
  refine z_lconst (q := 3) (v := 0) rfl rfl rfl ?_
  refine z_aload_n (q := 4) rfl rfl rfl ?_
  refine z_getR (q := 7) rfl rfl rfl (Mo_k w) (Mo_r0 w) ?_
  refine z_iconst (q := 8) (v := 4) rfl rfl rfl ?_
  refine z_iald (q := 9) rfl rfl (Mo_a0 w) (vp_in_nI (n := 4) (by omega) (by omega)) ?_
  rw [moF_a0]
  try rw [nI_clamp (by omega)]
  rw [show A 1 (4 : Int32).toNatClampNeg = nI D from k4]
  refine z_iconst (q := 10) (v := 1) rfl rfl rfl ?_
  refine z_isub (q := 11) rfl rfl ?_
  refine z_i2l (q := 12) rfl rfl ?_
  refine z_cs3i (q := 15) rfl rfl rfl (t_Mo_inZ1 (by omega) (vI_of (by omega) hj)) ?_
  refine z_if_eq (q := 18) rfl rfl (fun h15 => ?_) (fun h15 => ?_)
  · exact absurd h15 (by decide)
  · refine z_aload_n (q := 19) rfl rfl rfl ?_
    refine z_iload_n (q := 20) rfl rfl rfl ?_
    refine z_iconst (q := 21) (v := 0) rfl rfl rfl ?_
    refine z_cv2i (q := 24) rfl rfl rfl (Mo_k w) (s_Mo_deed (i := 0) w (show j < 60 by omega) (by omega)) ?_
    rw [(hd j hj).1]
    refine z_i2l (q := 25) rfl rfl ?_
    refine z_ldc2 (q := 28) (v := 2) rfl rfl rfl ?_
    refine z_ldc2 (q := 31) (v := 4) rfl rfl rfl ?_
    refine z_cs3i (q := 34) rfl rfl rfl (t_Mo_in0 (lo := 2) (hi := 4) (km_n hk)) ?_
    refine z_if_ne (q := 37) rfl rfl (fun h34 => ?_) (fun h34 => ?_)
    · exact absurd h34 (by decide)
    · refine z_bipush (q := 39) (v := -2) rfl rfl rfl ?_
      refine z_ireti rfl rfl ?_
      exact qz_r rfl ⟨F, A, rfl, mPe_r⟩
theorem n_Mo_without {sc : Option (Nat × Nat × (Nat → Int32))} {sa : Nat → Nat} {d : Nat} {M : mz_M} {z : Nat × Nat} {m : Nat} (w : g_Mo M.2.2 m) {F : Nat → Int32} {A : Nat → Nat → Int32} {D : Nat} (k4 : A 1 4 = nI D) (hD : D ≤ 60) {a : Int32} (ha : ¬ vI D a)  : zi sc sa (d + 10) 243 [.ref m, .int a] (moF M m F A) z (mR M m F A (-2)) := by
  refine zin ym_Mo_without [.ref m, .int a] rfl rfl rfl rfl ?_
  refine z_iload_n (q := 1) rfl rfl rfl ?_
  refine z_i2l (q := 2) rfl rfl ?_
  refine z_lconst (q := 3) (v := 0) rfl rfl rfl ?_
  refine z_aload_n (q := 4) rfl rfl rfl ?_
  refine z_getR (q := 7) rfl rfl rfl (Mo_k w) (Mo_r0 w) ?_
  refine z_iconst (q := 8) (v := 4) rfl rfl rfl ?_
  refine z_iald (q := 9) rfl rfl (Mo_a0 w) (vp_in_nI (n := 4) (by omega) (by omega)) ?_
  rw [moF_a0]
  try rw [nI_clamp (by omega)]
  rw [show A 1 (4 : Int32).toNatClampNeg = nI D from k4]
  refine z_iconst (q := 10) (v := 1) rfl rfl rfl ?_
  refine z_isub (q := 11) rfl rfl ?_
  refine z_i2l (q := 12) rfl rfl ?_
  refine z_cs3i (q := 15) rfl rfl rfl (t_Mo_inZ0 (by omega) ha) ?_
  refine z_if_eq (q := 18) rfl rfl (fun h15 => ?_) (fun h15 => ?_)
  · refine z_bipush (q := 39) (v := -2) rfl rfl rfl ?_
    refine z_ireti rfl rfl ?_
    exact qz_r rfl ⟨F, A, rfl, mPe_r⟩
  · exact absurd h15 (by decide)
def cuQ (j : Nat) (q : sQ) : sQ := (q.1, q.2.1, va_up q.2.2.1 j (-1), va_up q.2.2.2.1 j (-1), q.2.2.2.2.1, q.2.2.2.2.2.1, q.2.2.2.2.2.2)
theorem qI_cu {c j : Nat} {q : sQ} (h : qI c q) : qI c (cuQ j q) := ⟨h.1, h.2.1, acy_cut h.2.2.1, lcA_cut h.2.2.2.1, h.2.2.2.2.1, h.2.2.2.2.2⟩
theorem mAl_cu {A : Nat → Nat → Int32} {j : Nat} {q : sQ} (h : mAl A q) : mAl (stA A j) (cuQ j q) := by
  intro v hv
  show va_up (A 8) j (-1) v = va_up q.2.2.1 j (-1) v ∧ va_up (A 9) j (-1) v = va_up q.2.2.2.1 j (-1) v ∧ va_up (A 10) j (-1) v = if va_up q.2.2.1 j (-1) v = -1 then -1 else nmI (q.2.1 v) (va_up q.2.2.2.1 j (-1) v)
  by_cases e : v = j
  · rw [e, up_s, up_s, up_s, up_s, up_s, if_pos rfl]
    exact ⟨rfl, rfl, rfl⟩
  · rw [up_n e, up_n e, up_n e, up_n e, up_n e]
    exact h v hv
theorem q_Mo_snapping {sc : Option (Nat × Nat × (Nat → Int32))} {sa : Nat → Nat} {d : Nat} {M : mz_M} {z : Nat × Nat} {m : Nat} (w : g_Mo M.2.2 m) {F : Nat → Int32} {A : Nat → Nat → Int32} {c N D : Nat} {l t : Int32} {K P1 P2 P3 : Nat → Nat} {q : sQ} (hX : mX c N D l t K P1 P2 P3 q A) {a : Int32} : zi sc sa (d + 12) 267 [.ref m, .int a] (moF M m F A) z (mR M m F A (if vI q.1 a then fo (fun v acc => acc + nI (wl (va_up q.2.2.1 a.toNatClampNeg (-1)) q.1 v)) 0 q.1 else -2)) := by
  obtain ⟨⟨c1, c2, c3, c4, c5⟩, ⟨k1, k2, k3, k4, ln, k5, k6, k7⟩, hd, hv, he, hI, hV, hn⟩ := id hX
  have b1 := hI.1
  have b2 := hI.2.1
  refine zin ym_Mo_snapping [.ref m, .int a] rfl rfl rfl rfl ?_
  refine z_aload_n (q := 1) rfl rfl rfl ?_
  refine z_iload_n (q := 2) rfl rfl rfl ?_
  refine z_cv1qi (q := 5) rfl rfl rfl (Mo_k w) (q_Mo_isVersion w hX) (fun x9 M9 h9 => ?_)
  obtain ⟨rfl, FF, AA, rfl, ww⟩ := h9
  refine z_if_ne (q := 8) rfl rfl (fun h5 => ?_) (fun h5 => ?_)
  · refine z_aload_n (q := 12) rfl rfl rfl ?_
    obtain ⟨j, hj, rfl⟩ := vI_nat (by omega) (bz_n.mp h5)
    refine z_iload_n (q := 13) rfl rfl rfl ?_
    refine z_cv1v (q := 16) rfl rfl rfl (Mo_k w) (s_Mo_straight w (by omega)) ?_
    refine z_aload_n (q := 17) rfl rfl rfl ?_
    refine z_cv0i (q := 20) rfl rfl rfl (Mo_k w) (s_Mo_waysOf w (mAl_cu ww.2.2.2.1) (qI_cu hI) ww.1) ?_
    refine z_ireti rfl rfl ?_
    first
      | exact qz_t (bz_n.mp h5) (by rw [nI_clamp (show j < 2 ^ 31 by omega)]; rfl) ⟨FF, _, rfl, (mPe_w ww).1, fun j hj => (fr8_x (by omega)).trans ((mPe_w ww).2 j hj)⟩
      | exact qz_f (bz_0.mp h5) ⟨FF, AA, rfl, mPe_w ww⟩
      | fail "none"
  · refine z_bipush (q := 10) (v := -2) rfl rfl rfl ?_
    refine z_ireti rfl rfl ?_
    first
      | exact qz_t (bz_n.mp h5) (by rw [nI_clamp (show j < 2 ^ 31 by omega)]; rfl) ⟨FF, _, rfl, (mPe_w ww).1, fun j hj => (fr8_x (by omega)).trans ((mPe_w ww).2 j hj)⟩
      | exact qz_f (bz_0.mp h5) ⟨FF, AA, rfl, mPe_w ww⟩
      | fail "none"
def snI (W : Nat → Int32) (w0 : Int32) : Nat → Int32 × Int32
  | 0 => (w0, -1)
  | k + 1 => if W k < (snI W w0 k).1 then (W k, nI k) else snI W w0 k
theorem l_Mo_snap2 {sc : Option (Nat × Nat × (Nat → Int32))} {sa : Nat → Nat} {d : Nat} {M : mz_M} {z : Nat × Nat} {m : Nat} (w : g_Mo M.2.2 m) {F : Nat → Int32} {A : Nat → Nat → Int32} {c N D : Nat} {l t : Int32} {K P1 P2 P3 : Nat → Nat} {q : sQ}  : ∀ (k : Nat) (i : Nat) (F1 : Nat → Int32) (A1 : Nat → Nat → Int32) (x5 : Value), i + k = q.1 → mPe F A F1 A1 → mX c N D l t K P1 P2 P3 q A1 → zw sc sa (d + 12) ym_Mo_snap2 z (fun r' M' => ∃ v, r' = some (.int v) ∧ mR M m F A ((snI (fun j => fo (fun v acc => acc + nI (wl (va_up q.2.2.1 j (-1)) q.1 v)) 0 q.1) (fo (fun v acc => acc + nI (wl q.2.2.1 q.1 v)) 0 q.1) q.1).2) v M') 25 [.ref m, .int (snI (fun j => fo (fun v acc => acc + nI (wl (va_up q.2.2.1 j (-1)) q.1 v)) 0 q.1) (fo (fun v acc => acc + nI (wl q.2.2.1 q.1 v)) 0 q.1) i).1, .int (snI (fun j => fo (fun v acc => acc + nI (wl (va_up q.2.2.1 j (-1)) q.1 v)) 0 q.1) (fo (fun v acc => acc + nI (wl q.2.2.1 q.1 v)) 0 q.1) i).2, .int (nI q.1), .int (nI i), x5] [] (moF M m F1 A1) z := by
  intro k
  induction k with
  | zero =>
    intro i F1 A1 x5 hi hp hX
    have e1 : i = q.1 := by omega
    subst e1
    refine z_iload (q := 27) rfl rfl rfl ?_
    refine z_iload_n (q := 28) rfl rfl rfl ?_
    refine z_ic_ge (q := 31) rfl rfl (fun h28 => ?_) (fun h28 => ?_)
    · refine z_iload_n (q := 58) rfl rfl rfl ?_
      refine z_ireti rfl rfl ?_
      exact qz_r rfl ⟨F1, A1, rfl, hp⟩
    · exact absurd (Int32.le_refl _) h28
  | succ k ih =>
    intro i F1 A1 x5 hi hp hX
    obtain ⟨⟨c1, c2, c3, c4, c5⟩, ⟨k1, k2, k3, k4, ln, k5, k6, k7⟩, hd, hv, he, hI, hV, hn⟩ := id hX
    have b2 := hI.2.1
    have gs := q_Mo_snapping (sc := sc) (sa := sa) (d := d) (z := z) (F := F1) (a := nI i) w hX
    rw [if_pos (vI_of (by omega) (show i < q.1 by omega)), nI_clamp (by omega)] at gs
    refine z_iload (q := 27) rfl rfl rfl ?_
    refine z_iload_n (q := 28) rfl rfl rfl ?_
    refine z_ic_ge (q := 31) rfl rfl (fun h28 => ?_) (fun h28 => ?_)
    · exact absurd h28 (nI_ge (by omega) (by omega))
    · refine z_aload_n (q := 32) rfl rfl rfl ?_
      refine z_iload (q := 34) rfl rfl rfl ?_
      refine z_cv1qi (q := 37) rfl rfl rfl (Mo_k w) (gs) (fun x9 M9 h9 => ?_)
      obtain ⟨rfl, Fz, Az, rfl, wz⟩ := h9
      refine z_istore (q := 39) (L2 := [_, _, _, _, _, _]) rfl rfl rfl rfl ?_
      refine z_iload (q := 41) rfl rfl rfl ?_
      refine z_iload_n (q := 42) rfl rfl rfl ?_
      refine z_ic_ge (q := 45) rfl rfl (fun h42 => ?_) (fun h42 => ?_)
      · refine z_iinc (q := 54) (L2 := [_, _, _, _, _, _]) rfl rfl rfl rfl ?_
        refine z_goto rfl ?_
        rw [show nI i + Int32.ofInt 1 = nI (i + 1) from (nI_succ i).symm]
        have e9 := fun u => ih (i + 1) Fz Az u (by omega) (mPe_t hp wz) (mX_c (wz.2 1 (by omega)) hX)
        first
          | (have hzz : ¬ (snI (fun j => fo (fun v acc => acc + nI (wl (va_up q.2.2.1 j (-1)) q.1 v)) 0 q.1) (fo (fun v acc => acc + nI (wl q.2.2.1 q.1 v)) 0 q.1) i).1 ≤ fo (fun v acc => acc + nI (wl (va_up q.2.2.1 i (-1)) q.1 v)) 0 q.1 := h42
             rw [show (snI (fun j => fo (fun v acc => acc + nI (wl (va_up q.2.2.1 j (-1)) q.1 v)) 0 q.1) (fo (fun v acc => acc + nI (wl q.2.2.1 q.1 v)) 0 q.1) (i + 1)) = (fo (fun v acc => acc + nI (wl (va_up q.2.2.1 i (-1)) q.1 v)) 0 q.1, nI i) from if_pos (Int32.not_le.mp hzz)] at e9
             exact e9 _)
          | (have hzz : (snI (fun j => fo (fun v acc => acc + nI (wl (va_up q.2.2.1 j (-1)) q.1 v)) 0 q.1) (fo (fun v acc => acc + nI (wl q.2.2.1 q.1 v)) 0 q.1) i).1 ≤ fo (fun v acc => acc + nI (wl (va_up q.2.2.1 i (-1)) q.1 v)) 0 q.1 := h42
             rw [show (snI (fun j => fo (fun v acc => acc + nI (wl (va_up q.2.2.1 j (-1)) q.1 v)) 0 q.1) (fo (fun v acc => acc + nI (wl q.2.2.1 q.1 v)) 0 q.1) (i + 1)) = (snI (fun j => fo (fun v acc => acc + nI (wl (va_up q.2.2.1 j (-1)) q.1 v)) 0 q.1) (fo (fun v acc => acc + nI (wl q.2.2.1 q.1 v)) 0 q.1) i) from if_neg (Int32.not_lt.mpr hzz)] at e9
             exact e9 _)
          | fail "none"
      · refine z_iload (q := 47) rfl rfl rfl ?_
        refine z_istore_n (q := 48) (L2 := [_, _, _, _, _, _]) rfl rfl rfl rfl ?_
        refine z_iload (q := 50) rfl rfl rfl ?_
        refine z_istore_n (q := 51) (L2 := [_, _, _, _, _, _]) rfl rfl rfl rfl ?_
        refine z_iinc (q := 54) (L2 := [_, _, _, _, _, _]) rfl rfl rfl rfl ?_
        refine z_goto rfl ?_
        rw [show nI i + Int32.ofInt 1 = nI (i + 1) from (nI_succ i).symm]
        have e9 := fun u => ih (i + 1) Fz Az u (by omega) (mPe_t hp wz) (mX_c (wz.2 1 (by omega)) hX)
        first
          | (have hzz : ¬ (snI (fun j => fo (fun v acc => acc + nI (wl (va_up q.2.2.1 j (-1)) q.1 v)) 0 q.1) (fo (fun v acc => acc + nI (wl q.2.2.1 q.1 v)) 0 q.1) i).1 ≤ fo (fun v acc => acc + nI (wl (va_up q.2.2.1 i (-1)) q.1 v)) 0 q.1 := h42
             rw [show (snI (fun j => fo (fun v acc => acc + nI (wl (va_up q.2.2.1 j (-1)) q.1 v)) 0 q.1) (fo (fun v acc => acc + nI (wl q.2.2.1 q.1 v)) 0 q.1) (i + 1)) = (fo (fun v acc => acc + nI (wl (va_up q.2.2.1 i (-1)) q.1 v)) 0 q.1, nI i) from if_pos (Int32.not_le.mp hzz)] at e9
             exact e9 _)
          | (have hzz : (snI (fun j => fo (fun v acc => acc + nI (wl (va_up q.2.2.1 j (-1)) q.1 v)) 0 q.1) (fo (fun v acc => acc + nI (wl q.2.2.1 q.1 v)) 0 q.1) i).1 ≤ fo (fun v acc => acc + nI (wl (va_up q.2.2.1 i (-1)) q.1 v)) 0 q.1 := h42
             rw [show (snI (fun j => fo (fun v acc => acc + nI (wl (va_up q.2.2.1 j (-1)) q.1 v)) 0 q.1) (fo (fun v acc => acc + nI (wl q.2.2.1 q.1 v)) 0 q.1) (i + 1)) = (snI (fun j => fo (fun v acc => acc + nI (wl (va_up q.2.2.1 j (-1)) q.1 v)) 0 q.1) (fo (fun v acc => acc + nI (wl q.2.2.1 q.1 v)) 0 q.1) i) from if_neg (Int32.not_lt.mpr hzz)] at e9
             exact e9 _)
          | fail "none"
theorem q_Mo_waysN {sc : Option (Nat × Nat × (Nat → Int32))} {sa : Nat → Nat} {d : Nat} {M : mz_M} {z : Nat × Nat} {m : Nat} (w : g_Mo M.2.2 m) {F : Nat → Int32} {A : Nat → Nat → Int32} {c N D : Nat} {l t : Int32} {K P1 P2 P3 : Nat → Nat} {q : sQ} (hX : mX c N D l t K P1 P2 P3 q A) : zi sc sa (d + 12) 266 [.ref m] (moF M m F A) z (fun x M' => x = fo (fun v acc => acc + nI (wl q.2.2.1 q.1 v)) 0 q.1 ∧ ∃ F' A', M' = moF M m F' A' ∧ mPe F A F' A' ∧ F' 14 = nI q.1) := by
  obtain ⟨⟨c1, c2, c3, c4, c5⟩, ⟨k1, k2, k3, k4, ln, k5, k6, k7⟩, hd, hv, he, hI, hV, hn⟩ := id hX
  have b1 := hI.1
  have b2 := hI.2.1
  refine zin ym_Mo_ways [.ref m] rfl rfl rfl rfl ?_
  refine z_aload_n (q := 1) rfl rfl rfl ?_
  refine z_cv0i (q := 4) rfl rfl rfl (Mo_k w) (s_Mo_is w k7 k5 k6) ?_
  refine z_if_ne (q := 7) rfl rfl (fun h4 => ?_) (fun h4 => ?_)
  · refine z_aload_n (q := 11) rfl rfl rfl ?_
    refine z_cv0qi (q := 14) rfl rfl rfl (Mo_k w) (q_Mo_playsX w hX) (fun x9 M9 h9 => ?_)
    obtain ⟨p9, q9, rfl, FF, AA, rfl, ww⟩ := h9
    refine z_pop (q := 15) rfl rfl rfl ?_
    refine z_aload_n (q := 16) rfl rfl rfl ?_
    refine z_cv0i (q := 19) rfl rfl rfl (Mo_k w) (s_Mo_waysOf w ww.2.2.2.1 hI ww.1) ?_
    refine z_ireti rfl rfl ?_
    exact qz_r rfl ⟨FF, AA, rfl, mPe_w ww, ww.1⟩
  · exact absurd h4 (by decide)
theorem q_Mo_snap2 {sc : Option (Nat × Nat × (Nat → Int32))} {sa : Nat → Nat} {d : Nat} {M : mz_M} {z : Nat × Nat} {m : Nat} (w : g_Mo M.2.2 m) {F : Nat → Int32} {A : Nat → Nat → Int32} {c N D : Nat} {l t : Int32} {K P1 P2 P3 : Nat → Nat} {q : sQ} (hX : mX c N D l t K P1 P2 P3 q A)  : zi sc sa (d + 13) 268 [.ref m] (moF M m F A) z (mR M m F A ((snI (fun j => fo (fun v acc => acc + nI (wl (va_up q.2.2.1 j (-1)) q.1 v)) 0 q.1) (fo (fun v acc => acc + nI (wl q.2.2.1 q.1 v)) 0 q.1) q.1).2)) := by
  obtain ⟨⟨c1, c2, c3, c4, c5⟩, ⟨k1, k2, k3, k4, ln, k5, k6, k7⟩, hd, hv, he, hI, hV, hn⟩ := id hX
  have b1 := hI.1
  have b2 := hI.2.1
  refine zin ym_Mo_snap2 [.ref m, .retAddr 0, .retAddr 0, .retAddr 0, .retAddr 0, .retAddr 0] rfl rfl rfl rfl ?_
  refine z_aload_n (q := 1) rfl rfl rfl ?_
  refine z_cv0i (q := 4) rfl rfl rfl (Mo_k w) (s_Mo_is w k7 k5 k6) ?_
  refine z_if_ne (q := 7) rfl rfl (fun h4 => ?_) (fun h4 => ?_)
  · refine z_aload_n (q := 11) rfl rfl rfl ?_
    refine z_cv0qi (q := 14) rfl rfl rfl (Mo_k w) (q_Mo_waysN w hX) (fun x9 M9 h9 => ?_)
    obtain ⟨rfl, FF, AA, rfl, wp, w14⟩ := h9
    refine z_istore_n (q := 15) (L2 := [_, _, _, _, _, _]) rfl rfl rfl rfl ?_
    refine z_iconst (q := 16) (v := -1) rfl rfl rfl ?_
    refine z_istore_n (q := 17) (L2 := [_, _, _, _, _, _]) rfl rfl rfl rfl ?_
    refine z_aload_n (q := 18) rfl rfl rfl ?_
    refine z_getI (q := 21) rfl rfl rfl (Mo_k w) ?_
    rw [moF_g14]
    rw [w14]
    refine z_istore_n (q := 22) (L2 := [_, _, _, _, _, _]) rfl rfl rfl rfl ?_
    refine z_iconst (q := 23) (v := 0) rfl rfl rfl ?_
    refine z_istore (q := 25) (L2 := [_, _, _, _, _, _]) rfl rfl rfl rfl ?_
    exact mz_wp_m (mz_Kd_m sc sa _) (fun r9 M9 h => by
      obtain ⟨v9, e1, e2, F2, A2, e3, e4⟩ := h
      exact ⟨v9, e1, e2, F2, A2, e3, mPe_t wp e4⟩) (l_Mo_snap2 (F := FF) (A := AA) w q.1 0 FF AA _ (by omega) mPe_r (mX_c (wp.2 1 (by omega)) hX))
  · exact absurd h4 (by decide)
