theorem yZ_m {c mm mu mu' : Nat} {y : yS} (h : yZ c mm mu y) (g : mu ≤ mu') : yZ c mm mu' y := by
  obtain ⟨oc, tb, lv, g0, fr, tk, ch, co, q⟩ := y
  obtain ⟨h1, h2, h3, h4, h5⟩ := h
  exact ⟨h1, h2, h3, h4, fun e => Nat.lt_of_lt_of_le (h5 e) g⟩
theorem l_Mo_ah {sc : Option (Nat × Nat × (Nat → Int32))} {sa : Nat → Nat} {d : Nat} {M : mz_M} {z : Nat × Nat} {m : Nat} (w : g_Mo M.2.2 m) {c : Nat} {l t : Int32} (hC : c ≤ 12) {F0 : Nat → Int32} {A0 : Nat → Nat → Int32} (hs : A0 1 0 = nI c) (hl : F0 15 = l) (ht : F0 16 = t) {P : Nat → Int32} (hP : ∀ i, i < c → A0 1 (7 + i) = P i) {mm : Nat} (hm : mm ≤ 4) {Q : mz_P} {lw : Int32} : ∀ (Tn : Nat) (x : yS) (F : Nat → Int32) (A : Nat → Nat → Int32) (x3 : Value), yR c mm x F A → yZ c mm Tn x → aF F0 A0 F A → (∀ F' A' (y3 : Value), aF F0 A0 F' A' → yR c mm (yG (nI c) l t c P Tn x) F' A' → ¬ (yG (nI c) l t c P Tn x).1 = 3 → zw sc sa (d + 7) ym_Mo_looksAhead z Q 173 [.ref m, .int lw, .int (nI mm), y3] [] (moF M m F' A') z) → zw sc sa (d + 7) ym_Mo_looksAhead z Q 41 [.ref m, .int lw, .int (nI mm), x3] [] (moF M m F A) z := by
  intro Tn
  induction Tn with
  | zero =>
    intro x F A x3 hR hZ hF hk
    obtain ⟨oc, tb, lv, g, fr, tk, ch, co, q⟩ := x
    have hne : ¬ oc = 3 := fun e => absurd (hZ.2.2.2.2 e) (Nat.not_lt_zero _)
    refine z_aload_n (q := 42) rfl rfl rfl ?_
    refine z_getI (q := 45) rfl rfl rfl (Mo_k w) ?_
    rw [moF_g30]
    refine z_iconst (q := 46) (v := -1) rfl rfl rfl ?_
    refine z_ic_ne (q := 49) rfl rfl (fun h46 => ?_) (fun h46 => ?_)
    · exact hk F A x3 hF hR hne
    · have g9 : F 30 = oc := by
        have g8 := hR.2.2.1
        rw [if_neg hne] at g8
        exact g8
      rw [g9] at h46
      rcases hZ.2.2.2.1 with g | g | g | g
      · rw [g] at h46; exact absurd h46 (by decide)
      · rw [g] at h46; exact absurd h46 (by decide)
      · rw [g] at h46; exact absurd h46 (by decide)
      · exact absurd g hne
  | succ Tn ih =>
    intro x F A x3 hR hZ hF hk
    obtain ⟨oc, tb, lv, g, fr, tk, ch, co, q⟩ := x
    by_cases h3 : oc = 3
    · subst h3
      obtain ⟨r1, r2, r3, r4, r5⟩ := hR
      obtain ⟨z1, z2, z3, z4, z5⟩ := hZ
      obtain ⟨q37, qg, qY⟩ := r4 rfl
      obtain ⟨xx, T, h, f, e1, e2, e3, e4, e5, e6, e7, e8, e9, e10, e11⟩ := qY.1 g (Nat.le_refl _)
      have m16 := w16 _ hm
      have zq : q.1 ≤ 200 := z3
      have hst : yG (nI c) l t c P (Tn + 1) ((3, tb, lv, g, fr, tk, ch, co, q) : yS) = yG (nI c) l t c P Tn (yU (nI c) l t c ((3, tb, lv, g, fr, tk, ch, co, q) : yS) (paF (nI c) l t c f (nI xx) (P xx &&& (co (g + 1) ^^^ -1)) (4 - h) (-1) (chB T h) 3 q)) := by
        show yG (nI c) l t c P Tn (yU (nI c) l t c ((3, tb, lv, g, fr, tk, ch, co, q) : yS) (paF (nI c) l t c (fr g).toNatClampNeg (tk g) (P (tk g).toNatClampNeg &&& (co (g + 1) ^^^ -1)) 4 (-1) (ch g) 3 q)) = _
        rw [e5, e1, e11, nI_clamp (by omega), nI_clamp (by omega), paF_k (by omega) (by omega) h (Nat.le_refl _)]
      rw [hst] at hk
      have hch : yC c mm g fr tk (va_up ch g (chB T h)) co q A := by
        rw [← e11, up_e]
        exact qY
      have z5' := z5 rfl
      exact l_Mo_ah1 w hC hs hl ht hP hm qg e1 e2 e5 e8 (q0 := q) (mm - h) h q F A x3 (by omega) hF r1 r2 r3 q37 hch e7 e9 z1 z2 z3 e6 (Nat.le_refl _) (fun F' A' y3 s1 s2 s3 => ih _ F' A' y3 s2 (yZ_m s3 (by omega)) s1 hk)
    · have hne : ¬ oc = 3 := h3
      rw [show yG (nI c) l t c P (Tn + 1) ((oc, tb, lv, g, fr, tk, ch, co, q) : yS) = (oc, tb, lv, g, fr, tk, ch, co, q) from if_neg hne] at hk
      refine z_aload_n (q := 42) rfl rfl rfl ?_
      refine z_getI (q := 45) rfl rfl rfl (Mo_k w) ?_
      rw [moF_g30]
      refine z_iconst (q := 46) (v := -1) rfl rfl rfl ?_
      refine z_ic_ne (q := 49) rfl rfl (fun h46 => ?_) (fun h46 => ?_)
      · exact hk F A x3 hF hR hne
      · have g9 : F 30 = oc := by
          have g8 := hR.2.2.1
          rw [if_neg hne] at g8
          exact g8
        rw [g9] at h46
        rcases hZ.2.2.2.1 with g | g | g | g
        · rw [g] at h46; exact absurd h46 (by decide)
        · rw [g] at h46; exact absurd h46 (by decide)
        · rw [g] at h46; exact absurd h46 (by decide)
        · exact absurd g hne
theorem sh_m : ∀ m, m ≤ 4 → (1 : Int32) <<< (nI m &&& 31) - 1 = nI (2 ^ m - 1) := by decide
theorem fu_v {x : Nat} (hx : x < 16) : ∀ (k i : Nat) (r : Int64), i + k ≤ 12 → ∀ j, j < 12 → nmI (fuR (nI x) k i r) (nI j) = if i ≤ j ∧ j < i + k then nI x else nmI r (nI j) := by
  intro k
  induction k with
  | zero => intro i r _ j hj; rw [if_neg (by omega)]; rfl
  | succ k ih =>
    intro i r hi j hj
    show nmI (fuR (nI x) k (i + 1) (wnI r (nI i) (nI x))) (nI j) = _
    rw [ih (i + 1) _ (by omega) j hj, nm_wn (by omega) hj hx]
    by_cases c1 : i + 1 ≤ j ∧ j < i + 1 + k
    · rw [if_pos c1, if_pos (by omega)]
    · rw [if_neg c1]
      by_cases c2 : j = i
      · rw [if_pos c2, if_pos (by omega)]
      · rw [if_neg c2, if_neg (by omega)]
theorem fu_c {c mm i : Nat} (hC : c ≤ 12) (hm : mm ≤ 4) (hi : i < c) : nmI (fuR (1 <<< (nI mm &&& 31) - 1) c 0 0) (nI i) = nI (2 ^ mm - 1) := by
  have h16 := w16 mm hm
  rw [sh_m mm hm, fu_v (by omega) c 0 0 (by omega) i (by omega), if_pos (by omega)]
theorem qW_bg {c mm : Nat} {q : sQ} (hC : c ≤ 12) (hm : mm ≤ 4) : qW c mm (bgQ (fuR (1 <<< (nI mm &&& 31) - 1) c 0 0) q) := by
  intro v hv i hi
  have e : v = 0 := Nat.lt_one_iff.mp hv
  subst e
  have h0 := Nat.two_pow_pos mm
  exact ⟨2 ^ mm - 1, by omega, fu_c hC hm hi⟩
theorem m1_n : ∀ m, m ≤ 4 → ¬ nI (2 ^ m - 1) = -1 := by decide
theorem yR_u28 {c mm : Nat} {x : yS} {F : Nat → Int32} {A : Nat → Nat → Int32} {v : Int32} (h : yR c mm x F A) : yR c mm x (va_up F 28 v) A := by
  obtain ⟨oc, tb, lv, g, fr, tk, ch, co, q⟩ := x
  obtain ⟨h1, h2, h3, h4, h5⟩ := h
  exact ⟨mAd_c h1 rfl rfl (fun _ _ _ => rfl), h2, h3, h4, h5⟩
theorem yR_14 {c mm : Nat} {x : yS} {F : Nat → Int32} {A : Nat → Nat → Int32} (h : yR c mm x F A) : F 14 = nI x.2.2.2.2.2.2.2.2.1 := by
  obtain ⟨oc, tb, lv, g, fr, tk, ch, co, q⟩ := x
  obtain ⟨q9, g9, d9⟩ := h.1
  rw [g9.1, d9.1.1]
theorem co_0 {tk : Nat → Int32} : coB tk 0 0 := by
  intro x hx
  constructor
  · intro _ j hj
    exact absurd hj (Nat.not_lt_zero _)
  · intro _
    have g : ∀ y, y < 12 → bi1 0 y = 0 := by decide
    exact g x hx
theorem d_Mo_looksAhead {sc : Option (Nat × Nat × (Nat → Int32))} {sa : Nat → Nat} {d : Nat} {M : mz_M} {z : Nat × Nat} {m : Nat} (w : g_Mo M.2.2 m) {F : Nat → Int32} {A : Nat → Nat → Int32} {c : Nat} {l t : Int32} (hC : c ≤ 12) (h0 : 0 < c) (hs : A 1 0 = nI c) (ht : A 1 2 = t) {P : Nat → Int32} (hP : ∀ i, i < c → A 1 (7 + i) = P i) {mm : Nat} (hm : mm ≤ 4) {fr tk ch co : Nat → Int32} {qc : sQ}  : zv sc sa (d + 8) 283 [.ref m, .int l, .int (nI mm)] (moF M m F A) z (fun M' => ∃ F' A', M' = moF M m F' A' ∧ (∀ k, k < 14 → F' k = F k) ∧ (∀ j, (j < 4 ∨ 12 < j ∧ j < 17 ∨ 20 < j) → A' j = A j) ∧ yR c mm (yG (nI c) l t c P 1000000 (yT (nI c) l t c (nI 0) 0 0 ((3, 0, 0, 0, fr, tk, ch, va_up co 0 0, bgQ (fuR (1 <<< (nI mm &&& 31) - 1) c 0 0) qc) : yS))) F' A' ∧ F' 28 = nI (yG (nI c) l t c P 1000000 (yT (nI c) l t c (nI 0) 0 0 ((3, 0, 0, 0, fr, tk, ch, va_up co 0 0, bgQ (fuR (1 <<< (nI mm &&& 31) - 1) c 0 0) qc) : yS))).2.2.2.2.2.2.2.2.1 - 1 ∧ ¬ (yG (nI c) l t c P 1000000 (yT (nI c) l t c (nI 0) 0 0 ((3, 0, 0, 0, fr, tk, ch, va_up co 0 0, bgQ (fuR (1 <<< (nI mm &&& 31) - 1) c 0 0) qc) : yS))).1 = 3) := by
  refine zin ym_Mo_looksAhead [.ref m, .int l, .int (nI mm), .retAddr 0] rfl rfl rfl rfl ?_
  refine z_aload_n (q := 1) rfl rfl rfl ?_
  refine z_iload_n (q := 2) rfl rfl rfl ?_
  refine z_aload_n (q := 3) rfl rfl rfl ?_
  refine z_getR (q := 6) rfl rfl rfl (Mo_k w) (Mo_r0 w) ?_
  refine z_iconst (q := 7) (v := 2) rfl rfl rfl ?_
  refine z_iald (q := 8) rfl rfl (Mo_a0 w) (vp_in_nI (n := 2) (by omega) (by omega)) ?_
  rw [moF_a0]
  try rw [nI_clamp (by omega)]
  rw [show A 1 (2 : Int32).toNatClampNeg = t from ht]
  refine z_iconst (q := 9) (v := 1) rfl rfl rfl ?_
  refine z_iload_n (q := 10) rfl rfl rfl ?_
  refine z_ishl (q := 11) rfl rfl ?_
  refine z_iconst (q := 12) (v := 1) rfl rfl rfl ?_
  refine z_isub (q := 13) rfl rfl ?_
  refine z_cv3qv (q := 16) rfl rfl rfl (Mo_k w) (q_Mo_begins (c := c) (row := (fuR (1 <<< (nI mm &&& 31) - 1) c 0 0)) w hC (fun i hi => by rw [sh_m mm hm, if_neg (m1_n mm hm), ← sh_m mm hm]; exact (fu_c hC hm hi).trans (sh_m mm hm).symm)) (fun M9 h9 => ?_)
  obtain ⟨FF, AA, q0, rfl, rb, gb⟩ := h9
  refine z_aload_n (q := 17) rfl rfl rfl ?_
  refine z_iconst (q := 18) (v := 0) rfl rfl rfl ?_
  refine z_putI (q := 21) rfl rfl rfl (by decide) rfl rfl (Mo_k w) ?_
  rw [moF_u17]
  refine z_aload_n (q := 22) rfl rfl rfl ?_
  refine z_iconst (q := 23) (v := 0) rfl rfl rfl ?_
  refine z_putI (q := 26) rfl rfl rfl (by decide) rfl rfl (Mo_k w) ?_
  rw [moF_u29]
  refine z_aload_n (q := 27) rfl rfl rfl ?_
  refine z_iconst (q := 28) (v := -1) rfl rfl rfl ?_
  refine z_putI (q := 31) rfl rfl rfl (by decide) rfl rfl (Mo_k w) ?_
  rw [moF_u30]
  refine z_aload_n (q := 32) rfl rfl rfl ?_
  refine z_iconst (q := 33) (v := 0) rfl rfl rfl ?_
  refine z_putI (q := 36) rfl rfl rfl (by decide) rfl rfl (Mo_k w) ?_
  rw [moF_u37]
  refine z_aload_n (q := 37) rfl rfl rfl ?_
  refine z_iconst (q := 38) (v := 0) rfl rfl rfl ?_
  have m1 : AA 1 = A 1 := rb.2.2.2 1 (by omega)
  have gm : mAd c (va_up (va_up (va_up (va_up FF 17 0) 29 0) 30 (-1)) 37 0) AA (bgQ (fuR (1 <<< (nI mm &&& 31) - 1) c 0 0) qc) := ⟨qS 0 (bgQ (fuR (1 <<< (nI mm &&& 31) - 1) c 0 0) q0), ⟨gb.1, rfl, gb.2.2⟩, st_bg, rfl⟩
  have iq : qI c (bgQ (fuR (1 <<< (nI mm &&& 31) - 1) c 0 0) qc) := qI_bg
  have wq : qW c mm (bgQ (fuR (1 <<< (nI mm &&& 31) - 1) c 0 0) qc) := qW_bg hC hm
  have u0 : 0 < (bgQ (fuR (1 <<< (nI mm &&& 31) - 1) c 0 0) qc).1 := Nat.one_pos
  have hex := pig (c := c) (n := 0) (tk := tk) co_0 hC h0
  have gs := d_Mo_takes (sc := sc) (sa := sa) (d := d + 1) (z := z) (F := (va_up (va_up (va_up (va_up FF 17 0) 29 0) 30 (-1)) 37 0)) (n := 0) (tk := tk) (co := 0) (a := tk 0) (b := ch 0) w hC ((congrFun m1 0).trans hs) rb.1 rb.2.1 rfl (by omega) (fun j hj => absurd hj (Nat.not_lt_zero _)) co_0 gm iq u0 hex
  refine z_cv1qv (q := 41) rfl rfl rfl (Mo_k w) (gs) (fun M9 h9 => ?_)
  obtain ⟨Fk, Ak, x, y, rfl, wk, wj, gd, w37, w17, w18, w19, w20, e1, e2, x1, y1, bx⟩ := h9
  obtain ⟨t1, t2, t3⟩ := tc_q (c := c) (s := nI c) (l := l) (t := t) (cm := 0) c 0 5 (tk 0) (ch 0) (bgQ (fuR (1 <<< (nI mm &&& 31) - 1) c 0 0) qc) iq u0
  obtain ⟨y', y1', y2'⟩ := tc_w (c := c) (mm := mm) (s := nI c) (l := l) (t := t) (cm := 0) hC hm c 0 5 (tk 0) (ch 0) (bgQ (fuR (1 <<< (nI mm &&& 31) - 1) c 0 0) qc) (by omega) wq u0 (Or.inr ⟨rfl, by obtain ⟨x9, g1, g2⟩ := hex; exact ⟨x9, Nat.zero_le _, g1, g2⟩⟩)
  have hm16 := w16 mm hm
  have eyy : y = y' := (nI_eq (by omega) (by omega)).mp (e2.symm.trans y2')
  subst eyy
  have hy0 : (yT (nI c) l t c (nI 0) 0 0 ((3, 0, 0, 0, fr, tk, ch, va_up co 0 0, bgQ (fuR (1 <<< (nI mm &&& 31) - 1) c 0 0) qc) : yS)) = ((3, 0, 0, 0, va_up fr 0 (nI 0), va_up tk 0 (nI x), va_up ch 0 (nI y), va_up (va_up co 0 0) 1 ((0 : Int32) ||| ((1 : Int32) <<< (nI x &&& 31))), (tcF (nI c) l t 0 0 c 0 5 (tk 0) (ch 0) (bgQ (fuR (1 <<< (nI mm &&& 31) - 1) c 0 0) qc)).2.2) : yS) := by
    rw [yT_g (show ¬ c ≤ 0 by omega), show va_up co 0 0 0 = 0 from up_s, e1, e2]
  have mk : Ak 1 = A 1 := (wj 1 (by omega)).trans m1
  refine l_Mo_ah (d := d) (F0 := Fk) (A0 := Ak) w hC ((congrFun mk 0).trans hs) ((wk 15 (by omega) (by omega) (by omega)).trans rb.1) ((wk 16 (by omega) (by omega) (by omega)).trans rb.2.1) (fun i hi => (congrFun mk _).trans (hP i hi)) hm 1000000 (yT (nI c) l t c (nI 0) 0 0 ((3, 0, 0, 0, fr, tk, ch, va_up co 0 0, bgQ (fuR (1 <<< (nI mm &&& 31) - 1) c 0 0) qc) : yS)) Fk Ak _ ?_ ?_ aF_r (fun Fz Az y3 sz rz nz => ?_)
  · rw [hy0]
    refine ⟨gd, (wk 29 (by omega) (by omega) (by omega)), (wk 30 (by omega) (by omega) (by omega)), fun _ => ⟨w37, h0, fun i hi => ?_, fun i j hij hj => absurd hij (by omega), fun i hi => ?_, fun j hj i hij => absurd hij (by omega)⟩, fun h => absurd h (by decide)⟩
    · have ei : i = 0 := by omega
      subst ei
      rw [w17, w18, w19, w20, t2]
      refine ⟨x, y, 0, 0, up_s, x1, up_s, up_s, up_s, u0, up_s, y1', up_s, Nat.zero_le _, ?_⟩
      rw [up_s, ch_0 y (by omega)]
    · intro xx hxx
      have hx12 : x < 12 := by omega
      by_cases ei : i = 0
      · subst ei
        rw [up_n (by omega), up_s]
        exact co_0 xx hxx
      · have ei1 : i = 1 := by omega
        subst ei1
        rw [up_s, bi_or hx12 hxx]
        constructor
        · intro ⟨_, k2⟩ j hj
          have ej : j = 0 := by omega
          rw [ej, up_s, nI_eq (by omega) (by omega)]
          exact fun k => k2 k.symm
        · intro k1
          refine ⟨(co_0 (tk := tk) xx hxx).mpr (fun j hj => absurd hj (Nat.not_lt_zero _)), fun k2 => ?_⟩
          have k3 := k1 0 (by omega)
          rw [up_s, k2] at k3
          exact k3 rfl
  · rw [hy0]
    refine ⟨t1, ?_, by rw [t2]; show 1 ≤ 200; omega, Or.inr (Or.inr (Or.inr rfl)), fun _ => by rw [t2]; show 2 * (200 - 1) + 0 < 1000000; omega⟩
    intro v hv
    rw [t2] at hv
    rw [t3]
    exact wq v hv
  have f14z := yR_14 rz
  refine z_aload_n (q := 174) rfl rfl rfl ?_
  refine z_aload_n (q := 175) rfl rfl rfl ?_
  refine z_getI (q := 178) rfl rfl rfl (Mo_k w) ?_
  rw [moF_g14]
  rw [f14z]
  refine z_iconst (q := 179) (v := 1) rfl rfl rfl ?_
  refine z_isub (q := 180) rfl rfl ?_
  refine z_putI (q := 183) rfl rfl rfl (by decide) rfl rfl (Mo_k w) ?_
  rw [moF_u28]
  refine z_ret rfl rfl ?_
  refine ⟨rfl, _, Az, rfl, fun k hk => (up_n (by omega)).trans ((sz.1 k (by omega)).trans ((wk k (by omega) (by omega) (by omega)).trans ((up_n (by omega)).trans ((up_n (by omega)).trans ((up_n (by omega)).trans ((up_n (by omega)).trans (rb.2.2.1 k (by omega)))))))), fun j hj => (sz.2 j (by omega)).trans ((wj j (by omega)).trans (rb.2.2.2 j (by omega))), ?_, rfl, nz⟩
  exact yR_u28 rz
