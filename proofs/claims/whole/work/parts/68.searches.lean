theorem l_Mo_srch {sc : Option (Nat × Nat × (Nat → Int32))} {sa : Nat → Nat} {d : Nat} {M : mz_M} {z : Nat × Nat} {m : Nat} (w : g_Mo M.2.2 m) {c : Nat} {l t : Int32} (hC : c ≤ 12) {F0 : Nat → Int32} {A0 : Nat → Nat → Int32} (hs : A0 1 0 = nI c) (hl : F0 15 = l) (ht : F0 16 = t) {P : Nat → Int32} (hP : ∀ i, i < c → A0 1 (7 + i) = P i) {mm : Nat} (hm : mm ≤ 4) {Q : mz_P} {lw : Int32} : ∀ (T : Nat) (x : kS) (F : Nat → Int32) (A : Nat → Nat → Int32) (y : Int32), kI c mm x → qI c x.2.2.2.2.2.2 → kO x → sF F0 A0 F A → sR c x F A → (x.1 = 3 → y = nI x.2.2.2.1) → (kG (nI c) l t c mm P T x).1 ≠ 3 → (∀ F' A' (y' : Int32), sF F0 A0 F' A' → sR c (kG (nI c) l t c mm P T x) F' A' → zw sc sa (d + 6) ym_Mo_searches z Q 131 [.ref m, .int lw, .int (nI mm), .int y'] [] (moF M m F' A') z) → zw sc sa (d + 6) ym_Mo_searches z Q 43 [.ref m, .int lw, .int (nI mm), .int y] [] (moF M m F A) z := by
  intro T
  induction T with
  | zero =>
    intro x F A y hK hI hO hF hR hy hne hk
    have hne : ¬ x.1 = 3 := hne
    refine z_aload_n (q := 44) rfl rfl rfl ?_
    refine z_getI (q := 47) rfl rfl rfl (Mo_k w) ?_
    rw [moF_g30]
    refine z_iconst (q := 48) (v := -1) rfl rfl rfl ?_
    refine z_ic_ne (q := 51) rfl rfl (fun h48 => ?_) (fun h48 => ?_)
    · exact hk F A y hF hR
    · have g9 : F 30 = x.1 := by
        have g8 := hR.2.2.1
        rw [if_neg hne] at g8
        exact g8
      rw [g9] at h48
      rcases hO with g | g | g | g
      · rw [g] at h48; exact absurd h48 (by decide)
      · rw [g] at h48; exact absurd h48 (by decide)
      · rw [g] at h48; exact absurd h48 (by decide)
      · exact absurd g hne
  | succ T ih =>
    intro x F A y hK hI hO hF hR hy hnT hk
    by_cases h3 : x.1 = 3
    · rw [kG_s, if_pos h3] at hnT hk
      obtain ⟨g1, g2, g3⟩ := kU_all (s := nI c) (l := l) (t := t) (P := P) (show mm ≤ 20 by omega) hK h3 hI
      have g4 := kU_ok (s := nI c) (l := l) (t := t) (P := P) (show mm ≤ 20 by omega) hK h3
      have hy3 := hy h3
      subst hy3
      obtain ⟨oc, tb, lv, e, fr, tr, q⟩ := x
      have e3 : oc = 3 := h3
      subst e3
      obtain ⟨k1, k2, k3, k4, k5⟩ := hK
      have he : e < c := k4 rfl
      obtain ⟨⟨f, f1, f2⟩, a, a1, a2⟩ := k5 e (Nat.le_refl _) he
      have hN : q.1 ≤ 200 := k1
      have f1' : f < q.1 := f1
      have f2' : fr e = nI f := f2
      have a2' : tr e = nI a := a2
      have hkn : kN (nI c) l t mm P ((3, tb, lv, e, fr, tr, q) : kS) = pnF (nI c) l t f e (P e) 3 (mm - a) a q := by
        unfold kN
        show pnF (nI c) l t (fr e).toNatClampNeg e (P e) 3 (mm - (tr e).toNatClampNeg) (tr e).toNatClampNeg q = _
        rw [f2', a2', nI_clamp (by omega), nI_clamp (by omega)]
      rw [hkn] at g1 g2 g3 g4 hnT hk
      have hR2 : sR c ((3, tb, lv, e, fr, va_up tr e (nI a), q) : kS) F A := by
        rw [← a2', up_e]
        exact hR
      exact l_Mo_srch1 w hC hs hl ht hP hm he (q0 := q) f2' (mm - a) a q F A (by omega) hF hR2 hI hN f1' (fun F' A' y' s1 s2 s3 => ih _ F' A' y' g4 g2 g1 s1 s2 s3 hnT hk)
    · have hne : ¬ x.1 = 3 := h3
      rw [kG_n (T + 1) x h3] at hk
      refine z_aload_n (q := 44) rfl rfl rfl ?_
      refine z_getI (q := 47) rfl rfl rfl (Mo_k w) ?_
      rw [moF_g30]
      refine z_iconst (q := 48) (v := -1) rfl rfl rfl ?_
      refine z_ic_ne (q := 51) rfl rfl (fun h48 => ?_) (fun h48 => ?_)
      · exact hk F A y hF hR
      · have g9 : F 30 = x.1 := by
          have g8 := hR.2.2.1
          rw [if_neg hne] at g8
          exact g8
        rw [g9] at h48
        rcases hO with g | g | g | g
        · rw [g] at h48; exact absurd h48 (by decide)
        · rw [g] at h48; exact absurd h48 (by decide)
        · rw [g] at h48; exact absurd h48 (by decide)
        · exact absurd g hne
theorem nm_z {i : Nat} (hi : i < 12) : nmI 0 (nI i) = 0 := by
  revert i
  decide
theorem st_bg {row : Int64} {p : Int32} {q q' : sQ} : stE (bgQ row q) (qS p (bgQ row q')) := by
  refine ⟨rfl, fun v hv => ?_⟩
  have e : v = 0 := Nat.lt_one_iff.mp hv
  subst e
  exact ⟨rfl, rfl, rfl, rfl, rfl⟩
theorem kI_0 {c mm : Nat} {fr tr : Nat → Int32} {qc : sQ} {row : Int64} (h : 0 < c) : kI c mm ((3, 0, 0, 0, va_up fr 0 0, va_up tr 0 0, bgQ row qc) : kS) := by
  refine ⟨by show 1 ≤ 200; omega, (qI_bg (c := c) (row := row) (q := qc)).2.2.1.1, Nat.zero_le _, fun _ => h, fun i hi _ => ?_⟩
  have e : i = 0 := Nat.le_zero.mp hi
  subst e
  exact ⟨⟨0, Nat.one_pos, rfl⟩, 0, Nat.zero_le _, rfl⟩
theorem d_Mo_searches {sc : Option (Nat × Nat × (Nat → Int32))} {sa : Nat → Nat} {d : Nat} {M : mz_M} {z : Nat × Nat} {m : Nat} (w : g_Mo M.2.2 m) {F : Nat → Int32} {A : Nat → Nat → Int32} {c : Nat} {l t : Int32} (hC : c ≤ 12) (h0 : 0 < c) (hs : A 1 0 = nI c) (ht : A 1 2 = t) {P : Nat → Int32} (hP : ∀ i, i < c → A 1 (7 + i) = P i) {mm : Nat} (hm : mm ≤ 4) {fr tr : Nat → Int32} {qc : sQ}  : zv sc sa (d + 7) 272 [.ref m, .int l, .int (nI mm)] (moF M m F A) z (fun M' => ∃ F' A', M' = moF M m F' A' ∧ (∀ k, k < 14 → F' k = F k) ∧ (∀ j, (j < 4 ∨ 11 < j ∧ j < 15 ∨ 16 < j) → A' j = A j) ∧ sR c (kG (nI c) l t c mm P 1000000 ((3, 0, 0, 0, va_up fr 0 0, va_up tr 0 0, bgQ 0 qc) : kS)) F' A' ∧ F' 28 = nI (kG (nI c) l t c mm P 1000000 ((3, 0, 0, 0, va_up fr 0 0, va_up tr 0 0, bgQ 0 qc) : kS)).2.2.2.2.2.2.1 - 1 ∧ (kG (nI c) l t c mm P 1000000 ((3, 0, 0, 0, va_up fr 0 0, va_up tr 0 0, bgQ 0 qc) : kS)).1 ≠ 3) := by
  refine zin ym_Mo_searches [.ref m, .int l, .int (nI mm), .retAddr 0] rfl rfl rfl rfl ?_
  refine z_aload_n (q := 1) rfl rfl rfl ?_
  refine z_iload_n (q := 2) rfl rfl rfl ?_
  refine z_aload_n (q := 3) rfl rfl rfl ?_
  refine z_getR (q := 6) rfl rfl rfl (Mo_k w) (Mo_r0 w) ?_
  refine z_iconst (q := 7) (v := 2) rfl rfl rfl ?_
  refine z_iald (q := 8) rfl rfl (Mo_a0 w) (vp_in_nI (n := 2) (by omega) (by omega)) ?_
  rw [moF_a0]
  try rw [nI_clamp (by omega)]
  rw [show A 1 (2 : Int32).toNatClampNeg = t from ht]
  refine z_iconst (q := 9) (v := 0) rfl rfl rfl ?_
  refine z_cv3qv (q := 12) rfl rfl rfl (Mo_k w) (q_Mo_begins (c := c) (row := 0) (al := 0) w hC (fun i hi => by rw [if_neg (by decide)]; exact nm_z (by omega))) (fun M9 h9 => ?_)
  obtain ⟨FF, AA, q0, rfl, rb, gb⟩ := h9
  refine z_aload_n (q := 13) rfl rfl rfl ?_
  refine z_iconst (q := 14) (v := 0) rfl rfl rfl ?_
  refine z_putI (q := 17) rfl rfl rfl (by decide) rfl rfl (Mo_k w) ?_
  rw [moF_u17]
  refine z_aload_n (q := 18) rfl rfl rfl ?_
  refine z_iconst (q := 19) (v := 0) rfl rfl rfl ?_
  refine z_putI (q := 22) rfl rfl rfl (by decide) rfl rfl (Mo_k w) ?_
  rw [moF_u29]
  refine z_aload_n (q := 23) rfl rfl rfl ?_
  refine z_iconst (q := 24) (v := -1) rfl rfl rfl ?_
  refine z_putI (q := 27) rfl rfl rfl (by decide) rfl rfl (Mo_k w) ?_
  rw [moF_u30]
  refine z_iconst (q := 28) (v := 0) rfl rfl rfl ?_
  refine z_istore_n (q := 29) (L2 := [_, _, _, _]) rfl rfl rfl rfl ?_
  refine z_aload_n (q := 30) rfl rfl rfl ?_
  refine z_getR (q := 33) rfl rfl rfl (Mo_k w) (Mo_r32 w) ?_
  refine z_iconst (q := 34) (v := 0) rfl rfl rfl ?_
  refine z_iconst (q := 35) (v := 0) rfl rfl rfl ?_
  refine z_iast (q := 36) rfl rfl (Mo_a32 w) (vp0 (by decide) (by decide)) ?_
  rw [moF_w32]
  try rw [nI_clamp (by omega)]
  refine z_aload_n (q := 37) rfl rfl rfl ?_
  refine z_getR (q := 40) rfl rfl rfl (Mo_k w) (Mo_r31 w) ?_
  refine z_iconst (q := 41) (v := 0) rfl rfl rfl ?_
  refine z_iconst (q := 42) (v := 0) rfl rfl rfl ?_
  refine z_iast (q := 43) rfl rfl (Mo_a31 w) (vp0 (by decide) (by decide)) ?_
  rw [moF_w31]
  try rw [nI_clamp (by omega)]
  have m1 : (va_up (va_up AA 16 (va_up (AA 16) 0 0)) 15 (va_up (AA 15) 0 0)) 1 = A 1 := rb.2.2.2 1 (by omega)
  have hend := kG_end (c := c) (s := nI c) (l := l) (t := t) (m := mm) (P := P) (show mm ≤ 20 by omega) 1000000 ((3, 0, 0, 0, va_up fr 0 0, va_up tr 0 0, bgQ 0 qc) : kS) (kI_0 h0) (qI_bg (row := 0) (q := qc)) (by show 2 * (200 - 1) + 0 < 1000000; omega)
  refine l_Mo_srch (d := d) (F0 := (va_up (va_up (va_up FF 17 0) 29 0) 30 (-1))) (A0 := (va_up (va_up AA 16 (va_up (AA 16) 0 0)) 15 (va_up (AA 15) 0 0))) w hC ((congrFun m1 0).trans hs) rb.1 rb.2.1 (fun i hi => (congrFun m1 _).trans (hP i hi)) hm 1000000 ((3, 0, 0, 0, va_up fr 0 0, va_up tr 0 0, bgQ 0 qc) : kS) (va_up (va_up (va_up FF 17 0) 29 0) 30 (-1)) (va_up (va_up AA 16 (va_up (AA 16) 0 0)) 15 (va_up (AA 15) 0 0)) 0 (kI_0 h0) (qI_bg (row := 0) (q := qc)) (Or.inr (Or.inr (Or.inr rfl))) sF_r ?_ (fun _ => rfl) hend (fun Fz Az y' sz rz => ?_)
  · refine ⟨⟨qS 0 (bgQ 0 q0), ⟨gb.1, rfl, gb.2.2.1, gb.2.2.2.1, gb.2.2.2.2.1, gb.2.2.2.2.2.1, gb.2.2.2.2.2.2.1, gb.2.2.2.2.2.2.2.1, gb.2.2.2.2.2.2.2.2⟩, st_bg, rfl⟩, rfl, rfl, fun i _ hi _ => ?_⟩
    have e : i = 0 := Nat.le_zero.mp hi
    subst e
    exact ⟨rfl, rfl⟩
  refine z_aload_n (q := 132) rfl rfl rfl ?_
  refine z_aload_n (q := 133) rfl rfl rfl ?_
  refine z_getI (q := 136) rfl rfl rfl (Mo_k w) ?_
  rw [moF_g14]
  rw [show Fz 14 = nI (kG (nI c) l t c mm P 1000000 ((3, 0, 0, 0, va_up fr 0 0, va_up tr 0 0, bgQ 0 qc) : kS)).2.2.2.2.2.2.1 from by obtain ⟨q9, g9, d9⟩ := rz.1; rw [g9.1, d9.1.1]]
  refine z_iconst (q := 137) (v := 1) rfl rfl rfl ?_
  refine z_isub (q := 138) rfl rfl ?_
  refine z_putI (q := 141) rfl rfl rfl (by decide) rfl rfl (Mo_k w) ?_
  rw [moF_u28]
  refine z_ret rfl rfl ?_
  refine ⟨rfl, _, Az, rfl, fun k hk => (up_n (by omega)).trans ((sz.1 k (by omega)).trans ((up_n (by omega)).trans ((up_n (by omega)).trans ((up_n (by omega)).trans (rb.2.2.1 k (by omega)))))), fun j hj => (sz.2 j (by omega)).trans ((up_n (by omega)).trans ((up_n (by omega)).trans (rb.2.2.2 j (by omega)))), ⟨mAd_c rz.1 rfl rfl (fun _ _ _ => rfl), rz.2.1, rz.2.2.1, rz.2.2.2⟩, rfl, hend⟩
