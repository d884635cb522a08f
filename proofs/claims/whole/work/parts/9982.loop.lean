theorem l58_bad {sc : Option (Nat × Nat × (Nat → Int32))} {sa : Nat → Nat} {d : Nat} {M : mz_M} {z : Nat × Nat} {m : Nat} (w : g_Mo M.2.2 m) {F : Nat → Int32} {A : Nat → Nat → Int32} {e : rS} {Q : mz_P} (hb : ¬ e.2.2.2.2.1 = 0) (h : zw sc sa (d + 11) ym_Mo_store z Q 150 [.ref m, .int (nI 259)] [] (rq M m F A e) z) : zw sc sa (d + 11) ym_Mo_store z Q 58 [.ref m, .int (nI 259)] [] (rq M m F A e) z := by
  refine z_aload_n (q := 59) rfl rfl rfl ?_
  refine z_getI (q := 62) rfl rfl rfl (Mo_k w) ?_
  rw [rq_g23]
  refine z_if_ne (q := 65) rfl rfl (fun h62 => ?_) (fun h62 => ?_)
  · exact h
  · exact absurd h62 hb
theorem l58_end {sc : Option (Nat × Nat × (Nat → Int32))} {sa : Nat → Nat} {d : Nat} {M : mz_M} {z : Nat × Nat} {m : Nat} (w : g_Mo M.2.2 m) {F : Nat → Int32} {A : Nat → Nat → Int32} {e : rS} {Q : mz_P} (hb : e.2.2.2.2.1 = 0) (h0 : e.1 = 0) (h : zw sc sa (d + 11) ym_Mo_store z Q 150 [.ref m, .int (nI 259)] [] (rq M m F A e) z) : zw sc sa (d + 11) ym_Mo_store z Q 58 [.ref m, .int (nI 259)] [] (rq M m F A e) z := by
  refine z_aload_n (q := 59) rfl rfl rfl ?_
  refine z_getI (q := 62) rfl rfl rfl (Mo_k w) ?_
  rw [rq_g23]
  refine z_if_ne (q := 65) rfl rfl (fun h62 => ?_) (fun h62 => ?_)
  · exact absurd hb h62
  · refine z_aload_n (q := 66) rfl rfl rfl ?_
    refine z_getI (q := 69) rfl rfl rfl (Mo_k w) ?_
    rw [rq_g21]
    refine z_if_eq (q := 72) rfl rfl (fun h69 => ?_) (fun h69 => ?_)
    · exact h
    · exact absurd h0 h69
theorem l58_go {sc : Option (Nat × Nat × (Nat → Int32))} {sa : Nat → Nat} {d : Nat} {M : mz_M} {z : Nat × Nat} {m : Nat} (w : g_Mo M.2.2 m) {F : Nat → Int32} {A : Nat → Nat → Int32} {e : rS} {Q : mz_P} (hb : e.2.2.2.2.1 = 0) (h0 : ¬ e.1 = 0) (h : zw sc sa (d + 11) ym_Mo_store z Q 72 [.ref m, .int (nI 259)] [] (rq M m F A e) z) : zw sc sa (d + 11) ym_Mo_store z Q 58 [.ref m, .int (nI 259)] [] (rq M m F A e) z := by
  refine z_aload_n (q := 59) rfl rfl rfl ?_
  refine z_getI (q := 62) rfl rfl rfl (Mo_k w) ?_
  rw [rq_g23]
  refine z_if_ne (q := 65) rfl rfl (fun h62 => ?_) (fun h62 => ?_)
  · exact absurd hb h62
  · refine z_aload_n (q := 66) rfl rfl rfl ?_
    refine z_getI (q := 69) rfl rfl rfl (Mo_k w) ?_
    rw [rq_g21]
    refine z_if_eq (q := 72) rfl rfl (fun h69 => ?_) (fun h69 => ?_)
    · exact absurd h69 h0
    · exact h
theorem l_Mo_body {sc : Option (Nat × Nat × (Nat → Int32))} {sa : Nat → Nat} {d : Nat} {M : mz_M} {z : Nat × Nat} {m : Nat} (w : g_Mo M.2.2 m) {F : Nat → Int32} {A : Nat → Nat → Int32} {sg : Nat → Int32} {T : Nat} (ht : T ≤ 500) (h3 : F 3 = nI T) (hA : ∀ i, i < T → A 3 i = bt sg T i) {e : rS} (hk : okr T e) (hgd : gd e) {Q : mz_P} {y : oS} (hV : oV T y) (hl : y.2.2.1.2.1 ≤ 499) (hs0 : y.1.2.2.2.2.1 = 0) (hR : tR y.1 e) (hB : oB y (A 1)) (hk2 : ∀ F' A' e', oFr F A F' A' → tR (oL sg T y).2.2.2.2 e' → okg T e' → ((oL sg T y).2.2.2.2.2.2.2.2.1 = 0 → oB (oT (oA y (oL sg T y))) (A' 1)) → zw sc sa (d + 11) ym_Mo_store z Q 58 [.ref m, .int (nI 259)] [] (rq M m F' A' e') z) : zw sc sa (d + 11) ym_Mo_store z Q 72 [.ref m, .int (nI 259)] [] (rq M m F A e) z := by
  obtain ⟨s, ⟨a6, a7, a8, a9⟩, ⟨pr, ln, td, de⟩, ⟨pa, ks, os, ts, hs, cs⟩, ⟨c, l, t⟩, q⟩ := y
  have hs0' : s.2.2.2.2.1 = 0 := hs0
  have kh := R_kh (sg := sg) (t := T) (show tR s e from hR) hs0'
  by_cases l0 : ln = 0
  · exact l_Mo_bodyS w ht h3 hA hk hgd hV hl hs0 hR hB l0 hk2
  by_cases w0 : wq sg T s 0 = true
  · refine l_Mo_bodyN w ht h3 hA hk hgd hV hl hs0 hR hB l0 (wq_x w0 (by omega) (by omega)) ?_ (Or.inr ?_) hk2
    · rw [kh, if_neg (wq_x w0 (by omega) (by omega)), if_neg (wq_x w0 (by omega) (by omega)), if_neg (wq_x w0 (by omega) (by omega)), if_neg (wq_x w0 (by omega) (by omega)), if_neg (wq_x w0 (by omega) (by omega))]
    · unfold wkS
      rw [if_pos w0]
  by_cases w1 : wq sg T s 1 = true
  · exact l_Mo_bodyP w ht h3 hA hk hgd hV hl hs0 hR hB l0 w0 w1 hk2
  by_cases w2 : wq sg T s 2 = true
  · exact l_Mo_bodyD2 w ht h3 hA hk hgd hV hl hs0 hR hB l0 w1 (by rw [kh, if_pos w2]) (by unfold wkS; rw [if_neg w0, if_neg w1, if_pos w2]) hk2
  by_cases w3 : wq sg T s 3 = true
  · exact l_Mo_bodyD3 w ht h3 hA hk hgd hV hl hs0 hR hB l0 w1 (by rw [kh, if_neg w2, if_pos w3]) (by unfold wkS; rw [if_neg w0, if_neg w1, if_neg w2, if_pos w3]) hk2
  by_cases w4 : wq sg T s 4 = true
  · exact l_Mo_bodyD1 w ht h3 hA hk hgd hV hl hs0 hR hB l0 w1 (by rw [kh, if_neg w2, if_neg w3, if_pos w4]) (by unfold wkS; rw [if_neg w0, if_neg w1, if_neg w2, if_neg w3, if_pos w4]) hk2
  by_cases w5 : wq sg T s 5 = true
  · exact l_Mo_bodyD4 w ht h3 hA hk hgd hV hl hs0 hR hB l0 w1 (by rw [kh, if_neg w2, if_neg w3, if_neg w4, if_pos w5]) (by unfold wkS; rw [if_neg w0, if_neg w1, if_neg w2, if_neg w3, if_neg w4, if_pos w5]) hk2
  by_cases w6 : wq sg T s 6 = true
  · exact l_Mo_bodyD5 w ht h3 hA hk hgd hV hl hs0 hR hB l0 w1 (by rw [kh, if_neg w2, if_neg w3, if_neg w4, if_neg w5, if_pos w6]) (by unfold wkS; rw [if_neg w0, if_neg w1, if_neg w2, if_neg w3, if_neg w4, if_neg w5, if_pos w6]) hk2
  · exact l_Mo_bodyN w ht h3 hA hk hgd hV hl hs0 hR hB l0 w1 (by rw [kh, if_neg w2, if_neg w3, if_neg w4, if_neg w5, if_neg w6]) (Or.inl (by unfold wkS; rw [if_neg w0, if_neg w1, if_neg w2, if_neg w3, if_neg w4, if_neg w5, if_neg w6])) hk2
theorem oT_1 {y : oS} : (oT y).1 = y.1 := by
  unfold oT
  split
  · rfl
  · split
    · rfl
    · rfl
theorem l_Mo_loop {sc : Option (Nat × Nat × (Nat → Int32))} {sa : Nat → Nat} {d : Nat} {M : mz_M} {z : Nat × Nat} {m : Nat} (w : g_Mo M.2.2 m) {F : Nat → Int32} {A : Nat → Nat → Int32} {sg : Nat → Int32} {T : Nat} (ht : T ≤ 500) (h3 : F 3 = nI T) (hA : ∀ i, i < T → A 3 i = bt sg T i) {Q : mz_P} {Y : oS} (hk : ∀ F' A' e', oFr F A F' A' → tR Y.1 e' → gd e' → (Y.1.2.2.2.2.1 = 0 → Y.1.2.2.2.2.2 = -1 ∧ oB Y (A' 1) ∧ oV T Y ∧ Y.2.2.1.2.1 ≤ 500) → zw sc sa (d + 11) ym_Mo_store z Q 150 [.ref m, .int (nI 259)] [] (rq M m F' A' e') z) : ∀ (k : Nat) (y : oS) (F1 : Nat → Int32) (A1 : Nat → Nat → Int32) (e : rS), oFr F A F1 A1 → oV T y → y.2.2.1.2.1 + k ≤ 500 → okr T e → gd e → tR y.1 e → (y.1.2.2.2.2.1 = 0 → y.1.2.2.2.2.2 = -1) → (y.1.2.2.2.2.1 = 0 → ¬ y.1.1 = 4 → T - y.1.2.2.1 < k) → (y.1.2.2.2.2.1 = 0 → oB y (A1 1)) → oF sg T k y = Y → zw sc sa (d + 11) ym_Mo_store z Q 58 [.ref m, .int (nI 259)] [] (rq M m F1 A1 e) z := by
  have fin : ∀ (k : Nat) (y : oS) (F1 : Nat → Int32) (A1 : Nat → Nat → Int32) (e : rS), oFr F A F1 A1 → oV T y → y.2.2.1.2.1 + k ≤ 500 → gd e → tR y.1 e → (y.1.2.2.2.2.1 = 0 → y.1.2.2.2.2.2 = -1) → (y.1.2.2.2.2.1 = 0 → oB y (A1 1)) → oF sg T k y = Y → ¬ (y.1.2.2.2.2.1 = 0 ∧ ¬ y.1.1 = 4) → zw sc sa (d + 11) ym_Mo_store z Q 58 [.ref m, .int (nI 259)] [] (rq M m F1 A1 e) z := by
    intro k y F1 A1 e hf hV hl hg hR hm hB hy hc
    rw [oF_e hc] at hy
    subst hy
    have go := hk F1 A1 e hf hR hg (fun h0 => ⟨hm h0, hB h0, hV, by omega⟩)
    by_cases h0 : y.1.2.2.2.2.1 = 0
    · have h4 : y.1.1 = 4 := by
        by_cases h4 : y.1.1 = 4
        · exact h4
        · exact absurd ⟨h0, h4⟩ hc
      obtain ⟨g1, g2⟩ := tR_g hR h0
      exact l58_end w g1 (g2.2.2.1.2.2.2.mpr h4) go
    · exact l58_bad w (tR_b hR h0).1 go
  intro k
  induction k with
  | zero =>
    intro y F1 A1 e hf hV hl ho hg hR hm hme hB hy
    exact fin 0 y F1 A1 e hf hV hl hg hR hm hB hy (fun hc => absurd (hme hc.1 hc.2) (Nat.not_lt_zero _))
  | succ k ih =>
    intro y F1 A1 e hf hV hl ho hg hR hm hme hB hy
    by_cases hc : y.1.2.2.2.2.1 = 0 ∧ ¬ y.1.1 = 4
    · obtain ⟨g1, g2⟩ := tR_g hR hc.1
      refine l58_go w g1 (fun h => hc.2 (g2.2.2.1.2.2.2.mp h)) ?_
      refine l_Mo_body w ht ((hf.1 3 (by omega)).trans h3) (fun i hi => by rw [hf.2 3 (by omega)]; exact hA i hi) ho hg hV (by omega) hc.1 hR (hB hc.1) (fun F' A' e' f1 f2 f3 f4 => ?_)
      by_cases hL : (oL sg T y).2.2.2.2.2.2.2.2.1 = 0
      · have lv := oV_line hV (by omega) hL
        rw [oF_g hc hL] at hy
        have e1 : (oT (oA y (oL sg T y))).1 = (oL sg T y).2.2.2.2 := oT_1
        have la := ln_adv (sg := sg) hV.1 hL
        have lo := lv.2.1.1
        rw [e1] at lo
        have lo2 := lo.2
        have h5 := hme hc.1 hc.2
        refine ih (oT (oA y (oL sg T y))) F' A' e' (oFr_t hf f1) lv.2.1 (by rw [lv.2.2]; omega) f3.1 f3.2 (by rw [e1]; exact f2) (fun _ => ?_) (fun _ _ => ?_) (fun _ => f4 hL) hy
        · rw [e1]
          exact la.2.trans (hm hc.1)
        · rw [e1]
          have l1 : y.1.2.2.1 < (oL sg T y).2.2.2.2.2.2.1 := la.1
          omega
      · rw [oF_f hc hL] at hy
        subst hy
        exact l58_bad w (tR_b f2 hL).1 (hk F' A' e' (oFr_t hf f1) f2 f3.2 (fun h => absurd h hL))
    · exact fin (k + 1) y F1 A1 e hf hV hl hg hR hm hB hy hc
