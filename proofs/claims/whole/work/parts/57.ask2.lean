theorem t_Mo_inY {sc : Option (Nat × Nat × (Nat → Int32))} {sa : Nat → Nat} {d : Nat} {M : mz_M} {z : Nat × Nat} {a hi : Int32} (h : ¬ a < 0 ∧ a ≤ hi) : zx sc sa (d + 1) 168 [.long a.toInt64, .long 0, .long hi.toInt64] M z z (some (.int 1)) M := by
  have e := @t_Mo_inB sc sa d M z a hi
  rw [bz_t h] at e
  exact e
theorem t_Mo_inN {sc : Option (Nat × Nat × (Nat → Int32))} {sa : Nat → Nat} {d : Nat} {M : mz_M} {z : Nat × Nat} {a hi : Int32} (h : ¬ (¬ a < 0 ∧ a ≤ hi)) : zx sc sa (d + 1) 168 [.long a.toInt64, .long 0, .long hi.toInt64] M z z (some (.int 0)) M := by
  have e := @t_Mo_inB sc sa d M z a hi
  rw [bz_f h] at e
  exact e
theorem q_Mo_state0 {sc : Option (Nat × Nat × (Nat → Int32))} {sa : Nat → Nat} {d : Nat} {M : mz_M} {z : Nat × Nat} {m : Nat} (w : g_Mo M.2.2 m) {F : Nat → Int32} {A : Nat → Nat → Int32} {c N D : Nat} {l t : Int32} {K P1 P2 P3 : Nat → Nat} {q : sQ} (hX : mX c N D l t K P1 P2 P3 q A) {a : Int32} : zi sc sa (d + 12) 232 [.ref m, .int a, .int 0] (moF M m F A) z (mR M m F A (if vI q.1 a then bz ((q.2.2.1 a.toNatClampNeg) = -1) else -2)) := by
  obtain ⟨⟨c1, c2, c3, c4, c5⟩, ⟨k1, k2, k3, k4, ln, k5, k6, k7⟩, hd, hv, he, hI, hV, hn⟩ := id hX
  have b1 := hI.1
  have b2 := hI.2.1
  refine zin ym_Mo_state [.ref m, .int a, .int 0] rfl rfl rfl rfl ?_
  refine z_aload_n (q := 1) rfl rfl rfl ?_
  refine z_iload_n (q := 2) rfl rfl rfl ?_
  refine z_cv1qi (q := 5) rfl rfl rfl (Mo_k w) (q_Mo_isVersion w hX) (fun x9 M9 h9 => ?_)
  obtain ⟨rfl, FF, AA, rfl, ww⟩ := h9
  refine z_if_eq (q := 8) rfl rfl (fun h5 => ?_) (fun h5 => ?_)
  · refine z_bipush (q := 22) (v := -2) rfl rfl rfl ?_
    refine z_ireti rfl rfl ?_
    first
      | exact qz_t (bz_n.mp h5) (by try rw [nI_clamp (show j < 2 ^ 31 by omega)]
                                    exact (bz_t h59).symm) ⟨FF, AA, rfl, mPe_w ww⟩
      | exact qz_t (bz_n.mp h5) (by try rw [nI_clamp (show j < 2 ^ 31 by omega)]
                                    exact (bz_f h59).symm) ⟨FF, AA, rfl, mPe_w ww⟩
      | exact qz_f (bz_0.mp h5) ⟨FF, AA, rfl, mPe_w ww⟩
      | fail "none"
  · refine z_iload_n (q := 9) rfl rfl rfl ?_
    obtain ⟨j, hj, rfl⟩ := vI_nat (by omega) (bz_n.mp h5)
    refine z_i2l (q := 10) rfl rfl ?_
    refine z_lconst (q := 11) (v := 0) rfl rfl rfl ?_
    refine z_ldc2 (q := 14) (v := 3) rfl rfl rfl ?_
    refine z_cs3i (q := 17) rfl rfl rfl (t_Mo_inY (a := 0) (hi := 3) (by decide)) ?_
    refine z_if_ne (q := 20) rfl rfl (fun h17 => ?_) (fun h17 => ?_)
    · refine z_iload_n (q := 24) rfl rfl rfl ?_
      refine z_sw rfl ⟨fun h => absurd h (by decide), fun _ _ => ?_⟩
      show zw _ _ _ _ _ _ 52 _ _ _ _
      refine z_aload_n (q := 53) rfl rfl rfl ?_
      refine z_getR (q := 56) rfl rfl rfl (Mo_k w) (Mo_r10 w) ?_
      refine z_iload_n (q := 57) rfl rfl rfl ?_
      refine z_iald (q := 58) rfl rfl (Mo_a10 w) (by first | assumption | exact vp_in_nI (by omega) (by omega)) ?_
      rw [moF_a10]
      try rw [nI_clamp (by omega)]
      rw [(ww.2.2.2.1 j hj).1]
      refine z_iconst (q := 59) (v := -1) rfl rfl rfl ?_
      refine z_ic_ne (q := 62) rfl rfl (fun h59 => ?_) (fun h59 => ?_)
      · refine z_iconst (q := 67) (v := 0) rfl rfl rfl ?_
        refine z_ireti rfl rfl ?_
        first
          | exact qz_t (bz_n.mp h5) (by try rw [nI_clamp (show j < 2 ^ 31 by omega)]
                                        exact (bz_t h59).symm) ⟨FF, AA, rfl, mPe_w ww⟩
          | exact qz_t (bz_n.mp h5) (by try rw [nI_clamp (show j < 2 ^ 31 by omega)]
                                        exact (bz_f h59).symm) ⟨FF, AA, rfl, mPe_w ww⟩
          | exact qz_f (bz_0.mp h5) ⟨FF, AA, rfl, mPe_w ww⟩
          | fail "none"
      · refine z_iconst (q := 63) (v := 1) rfl rfl rfl ?_
        refine z_goto rfl ?_
        refine z_ireti rfl rfl ?_
        first
          | exact qz_t (bz_n.mp h5) (by try rw [nI_clamp (show j < 2 ^ 31 by omega)]
                                        exact (bz_t h59).symm) ⟨FF, AA, rfl, mPe_w ww⟩
          | exact qz_t (bz_n.mp h5) (by try rw [nI_clamp (show j < 2 ^ 31 by omega)]
                                        exact (bz_f h59).symm) ⟨FF, AA, rfl, mPe_w ww⟩
          | exact qz_f (bz_0.mp h5) ⟨FF, AA, rfl, mPe_w ww⟩
          | fail "none"
    · exact absurd h17 (by decide)
theorem q_Mo_state1 {sc : Option (Nat × Nat × (Nat → Int32))} {sa : Nat → Nat} {d : Nat} {M : mz_M} {z : Nat × Nat} {m : Nat} (w : g_Mo M.2.2 m) {F : Nat → Int32} {A : Nat → Nat → Int32} {c N D : Nat} {l t : Int32} {K P1 P2 P3 : Nat → Nat} {q : sQ} (hX : mX c N D l t K P1 P2 P3 q A) {a : Int32} : zi sc sa (d + 12) 232 [.ref m, .int a, .int 1] (moF M m F A) z (mR M m F A (if vI q.1 a then (if (q.2.2.1 a.toNatClampNeg) = -1 then -1 else (q.2.2.1 a.toNatClampNeg)) else -2)) := by
  obtain ⟨⟨c1, c2, c3, c4, c5⟩, ⟨k1, k2, k3, k4, ln, k5, k6, k7⟩, hd, hv, he, hI, hV, hn⟩ := id hX
  have b1 := hI.1
  have b2 := hI.2.1
  refine zin ym_Mo_state [.ref m, .int a, .int 1] rfl rfl rfl rfl ?_
  refine z_aload_n (q := 1) rfl rfl rfl ?_
  refine z_iload_n (q := 2) rfl rfl rfl ?_
  refine z_cv1qi (q := 5) rfl rfl rfl (Mo_k w) (q_Mo_isVersion w hX) (fun x9 M9 h9 => ?_)
  obtain ⟨rfl, FF, AA, rfl, ww⟩ := h9
  refine z_if_eq (q := 8) rfl rfl (fun h5 => ?_) (fun h5 => ?_)
  · refine z_bipush (q := 22) (v := -2) rfl rfl rfl ?_
    refine z_ireti rfl rfl ?_
    first
      | exact qz_t (bz_n.mp h5) (by try rw [nI_clamp (show j < 2 ^ 31 by omega)]
                                    exact ver0) ⟨FF, AA, rfl, mPe_w ww⟩
      | exact qz_f (bz_0.mp h5) ⟨FF, AA, rfl, mPe_w ww⟩
      | fail "none"
  · refine z_iload_n (q := 9) rfl rfl rfl ?_
    obtain ⟨j, hj, rfl⟩ := vI_nat (by omega) (bz_n.mp h5)
    refine z_i2l (q := 10) rfl rfl ?_
    refine z_lconst (q := 11) (v := 0) rfl rfl rfl ?_
    refine z_ldc2 (q := 14) (v := 3) rfl rfl rfl ?_
    refine z_cs3i (q := 17) rfl rfl rfl (t_Mo_inY (a := 1) (hi := 3) (by decide)) ?_
    refine z_if_ne (q := 20) rfl rfl (fun h17 => ?_) (fun h17 => ?_)
    · refine z_iload_n (q := 24) rfl rfl rfl ?_
      refine z_sw rfl ⟨fun h => absurd h (by decide), fun _ _ => ?_⟩
      show zw _ _ _ _ _ _ 68 _ _ _ _
      refine z_aload_n (q := 69) rfl rfl rfl ?_
      refine z_getR (q := 72) rfl rfl rfl (Mo_k w) (Mo_r10 w) ?_
      refine z_iload_n (q := 73) rfl rfl rfl ?_
      refine z_iald (q := 74) rfl rfl (Mo_a10 w) (by first | assumption | exact vp_in_nI (by omega) (by omega)) ?_
      rw [moF_a10]
      try rw [nI_clamp (by omega)]
      rw [(ww.2.2.2.1 j hj).1]
      refine z_ireti rfl rfl ?_
      first
        | exact qz_t (bz_n.mp h5) (by try rw [nI_clamp (show j < 2 ^ 31 by omega)]
                                      exact ver0) ⟨FF, AA, rfl, mPe_w ww⟩
        | exact qz_f (bz_0.mp h5) ⟨FF, AA, rfl, mPe_w ww⟩
        | fail "none"
    · exact absurd h17 (by decide)
theorem q_Mo_state2 {sc : Option (Nat × Nat × (Nat → Int32))} {sa : Nat → Nat} {d : Nat} {M : mz_M} {z : Nat × Nat} {m : Nat} (w : g_Mo M.2.2 m) {F : Nat → Int32} {A : Nat → Nat → Int32} {c N D : Nat} {l t : Int32} {K P1 P2 P3 : Nat → Nat} {q : sQ} (hX : mX c N D l t K P1 P2 P3 q A) {a : Int32} : zi sc sa (d + 12) 232 [.ref m, .int a, .int 2] (moF M m F A) z (mR M m F A (if vI q.1 a then (if (q.2.2.1 a.toNatClampNeg) = -1 then -1 else (q.2.2.2.1 a.toNatClampNeg)) else -2)) := by
  obtain ⟨⟨c1, c2, c3, c4, c5⟩, ⟨k1, k2, k3, k4, ln, k5, k6, k7⟩, hd, hv, he, hI, hV, hn⟩ := id hX
  have b1 := hI.1
  have b2 := hI.2.1
  refine zin ym_Mo_state [.ref m, .int a, .int 2] rfl rfl rfl rfl ?_
  refine z_aload_n (q := 1) rfl rfl rfl ?_
  refine z_iload_n (q := 2) rfl rfl rfl ?_
  refine z_cv1qi (q := 5) rfl rfl rfl (Mo_k w) (q_Mo_isVersion w hX) (fun x9 M9 h9 => ?_)
  obtain ⟨rfl, FF, AA, rfl, ww⟩ := h9
  refine z_if_eq (q := 8) rfl rfl (fun h5 => ?_) (fun h5 => ?_)
  · refine z_bipush (q := 22) (v := -2) rfl rfl rfl ?_
    refine z_ireti rfl rfl ?_
    first
      | exact qz_t (bz_n.mp h5) (by try rw [nI_clamp (show j < 2 ^ 31 by omega)]
                                    exact ver1 (fun e => (hI.2.2.2.1 j hj).1 e)) ⟨FF, AA, rfl, mPe_w ww⟩
      | exact qz_f (bz_0.mp h5) ⟨FF, AA, rfl, mPe_w ww⟩
      | fail "none"
  · refine z_iload_n (q := 9) rfl rfl rfl ?_
    obtain ⟨j, hj, rfl⟩ := vI_nat (by omega) (bz_n.mp h5)
    refine z_i2l (q := 10) rfl rfl ?_
    refine z_lconst (q := 11) (v := 0) rfl rfl rfl ?_
    refine z_ldc2 (q := 14) (v := 3) rfl rfl rfl ?_
    refine z_cs3i (q := 17) rfl rfl rfl (t_Mo_inY (a := 2) (hi := 3) (by decide)) ?_
    refine z_if_ne (q := 20) rfl rfl (fun h17 => ?_) (fun h17 => ?_)
    · refine z_iload_n (q := 24) rfl rfl rfl ?_
      refine z_sw rfl ⟨fun h => absurd h (by decide), fun _ _ => ?_⟩
      show zw _ _ _ _ _ _ 75 _ _ _ _
      refine z_aload_n (q := 76) rfl rfl rfl ?_
      refine z_getR (q := 79) rfl rfl rfl (Mo_k w) (Mo_r11 w) ?_
      refine z_iload_n (q := 80) rfl rfl rfl ?_
      refine z_iald (q := 81) rfl rfl (Mo_a11 w) (by first | assumption | exact vp_in_nI (by omega) (by omega)) ?_
      rw [moF_a11]
      try rw [nI_clamp (by omega)]
      rw [(ww.2.2.2.1 j hj).2.1]
      refine z_ireti rfl rfl ?_
      first
        | exact qz_t (bz_n.mp h5) (by try rw [nI_clamp (show j < 2 ^ 31 by omega)]
                                      exact ver1 (fun e => (hI.2.2.2.1 j hj).1 e)) ⟨FF, AA, rfl, mPe_w ww⟩
        | exact qz_f (bz_0.mp h5) ⟨FF, AA, rfl, mPe_w ww⟩
        | fail "none"
    · exact absurd h17 (by decide)
theorem q_Mo_state3 {sc : Option (Nat × Nat × (Nat → Int32))} {sa : Nat → Nat} {d : Nat} {M : mz_M} {z : Nat × Nat} {m : Nat} (w : g_Mo M.2.2 m) {F : Nat → Int32} {A : Nat → Nat → Int32} {c N D : Nat} {l t : Int32} {K P1 P2 P3 : Nat → Nat} {q : sQ} (hX : mX c N D l t K P1 P2 P3 q A) {a : Int32} : zi sc sa (d + 12) 232 [.ref m, .int a, .int 3] (moF M m F A) z (mR M m F A (if vI q.1 a then (if (q.2.2.1 a.toNatClampNeg) = -1 then -1 else nmI (q.2.1 a.toNatClampNeg) (q.2.2.2.1 a.toNatClampNeg)) else -2)) := by
  obtain ⟨⟨c1, c2, c3, c4, c5⟩, ⟨k1, k2, k3, k4, ln, k5, k6, k7⟩, hd, hv, he, hI, hV, hn⟩ := id hX
  have b1 := hI.1
  have b2 := hI.2.1
  refine zin ym_Mo_state [.ref m, .int a, .int 3] rfl rfl rfl rfl ?_
  refine z_aload_n (q := 1) rfl rfl rfl ?_
  refine z_iload_n (q := 2) rfl rfl rfl ?_
  refine z_cv1qi (q := 5) rfl rfl rfl (Mo_k w) (q_Mo_isVersion w hX) (fun x9 M9 h9 => ?_)
  obtain ⟨rfl, FF, AA, rfl, ww⟩ := h9
  refine z_if_eq (q := 8) rfl rfl (fun h5 => ?_) (fun h5 => ?_)
  · refine z_bipush (q := 22) (v := -2) rfl rfl rfl ?_
    refine z_ireti rfl rfl ?_
    first
      | exact qz_t (bz_n.mp h5) (by first | rfl | rw [nI_clamp (show j < 2 ^ 31 by omega)]) ⟨FF, AA, rfl, mPe_w ww⟩
      | exact qz_f (bz_0.mp h5) ⟨FF, AA, rfl, mPe_w ww⟩
      | fail "none"
  · refine z_iload_n (q := 9) rfl rfl rfl ?_
    obtain ⟨j, hj, rfl⟩ := vI_nat (by omega) (bz_n.mp h5)
    refine z_i2l (q := 10) rfl rfl ?_
    refine z_lconst (q := 11) (v := 0) rfl rfl rfl ?_
    refine z_ldc2 (q := 14) (v := 3) rfl rfl rfl ?_
    refine z_cs3i (q := 17) rfl rfl rfl (t_Mo_inY (a := 3) (hi := 3) (by decide)) ?_
    refine z_if_ne (q := 20) rfl rfl (fun h17 => ?_) (fun h17 => ?_)
    · refine z_iload_n (q := 24) rfl rfl rfl ?_
      refine z_sw rfl ⟨fun _ => ?_, fun h1 h2 => absurd h2 (by decide)⟩
      show zw _ _ _ _ _ _ 82 _ _ _ _
      refine z_aload_n (q := 83) rfl rfl rfl ?_
      refine z_getR (q := 86) rfl rfl rfl (Mo_k w) (Mo_r12 w) ?_
      refine z_iload_n (q := 87) rfl rfl rfl ?_
      refine z_iald (q := 88) rfl rfl (Mo_a12 w) (by first | assumption | exact vp_in_nI (by omega) (by omega)) ?_
      rw [moF_a12]
      try rw [nI_clamp (by omega)]
      rw [(ww.2.2.2.1 j hj).2.2]
      refine z_ireti rfl rfl ?_
      first
        | exact qz_t (bz_n.mp h5) (by first | rfl | rw [nI_clamp (show j < 2 ^ 31 by omega)]) ⟨FF, AA, rfl, mPe_w ww⟩
        | exact qz_f (bz_0.mp h5) ⟨FF, AA, rfl, mPe_w ww⟩
        | fail "none"
    · exact absurd h17 (by decide)
theorem q_Mo_stateN {sc : Option (Nat × Nat × (Nat → Int32))} {sa : Nat → Nat} {d : Nat} {M : mz_M} {z : Nat × Nat} {m : Nat} (w : g_Mo M.2.2 m) {F : Nat → Int32} {A : Nat → Nat → Int32} {c N D : Nat} {l t : Int32} {K P1 P2 P3 : Nat → Nat} {q : sQ} (hX : mX c N D l t K P1 P2 P3 q A) {a b : Int32} (hno : ¬ (¬ b < 0 ∧ b ≤ 3)) : zi sc sa (d + 12) 232 [.ref m, .int a, .int b] (moF M m F A) z (mR M m F A (-2)) := by
  obtain ⟨⟨c1, c2, c3, c4, c5⟩, ⟨k1, k2, k3, k4, ln, k5, k6, k7⟩, hd, hv, he, hI, hV, hn⟩ := id hX
  have b1 := hI.1
  have b2 := hI.2.1
  refine zin ym_Mo_state [.ref m, .int a, .int b] rfl rfl rfl rfl ?_
  refine z_aload_n (q := 1) rfl rfl rfl ?_
  refine z_iload_n (q := 2) rfl rfl rfl ?_
  refine z_cv1qi (q := 5) rfl rfl rfl (Mo_k w) (q_Mo_isVersion w hX) (fun x9 M9 h9 => ?_)
  obtain ⟨rfl, FF, AA, rfl, ww⟩ := h9
  refine z_if_eq (q := 8) rfl rfl (fun h5 => ?_) (fun h5 => ?_)
  · refine z_bipush (q := 22) (v := -2) rfl rfl rfl ?_
    refine z_ireti rfl rfl ?_
    exact qz_r rfl ⟨FF, AA, rfl, mPe_w ww⟩
  · refine z_iload_n (q := 9) rfl rfl rfl ?_
    refine z_i2l (q := 10) rfl rfl ?_
    refine z_lconst (q := 11) (v := 0) rfl rfl rfl ?_
    refine z_ldc2 (q := 14) (v := 3) rfl rfl rfl ?_
    refine z_cs3i (q := 17) rfl rfl rfl (t_Mo_inN (hi := 3) hno) ?_
    refine z_if_ne (q := 20) rfl rfl (fun h17 => ?_) (fun h17 => ?_)
    · exact absurd h17 (by decide)
    · refine z_bipush (q := 22) (v := -2) rfl rfl rfl ?_
      refine z_ireti rfl rfl ?_
      exact qz_r rfl ⟨FF, AA, rfl, mPe_w ww⟩
theorem b4 {b : Int32} {n : Nat} {h : Int32} (e : h.toInt = n) (h1 : ¬ b < 0 ∧ b ≤ h) : ∃ j : Nat, j ≤ n ∧ b = nI j := nI_of2 e h1.1 h1.2
theorem q_Mo_state {sc : Option (Nat × Nat × (Nat → Int32))} {sa : Nat → Nat} {d : Nat} {M : mz_M} {z : Nat × Nat} {m : Nat} (w : g_Mo M.2.2 m) {F : Nat → Int32} {A : Nat → Nat → Int32} {c N D : Nat} {l t : Int32} {K P1 P2 P3 : Nat → Nat} {q : sQ} (hX : mX c N D l t K P1 P2 P3 q A) {a b : Int32} : zi sc sa (d + 12) 232 [.ref m, .int a, .int b] (moF M m F A) z (mR M m F A (if vI q.1 a ∧ ¬ b < 0 ∧ b ≤ 3 then if b = 0 then bz ((q.2.2.1 a.toNatClampNeg) = -1) else if (q.2.2.1 a.toNatClampNeg) = -1 then -1 else if b = 1 then (q.2.2.1 a.toNatClampNeg) else if b = 2 then (q.2.2.2.1 a.toNatClampNeg) else nmI (q.2.1 a.toNatClampNeg) (q.2.2.2.1 a.toNatClampNeg) else -2)) := by
  by_cases h : ¬ b < 0 ∧ b ≤ 3
  · obtain ⟨j, hj, e⟩ := b4 (n := 3) rfl h
    have ej : j = 0 ∨ j = 1 ∨ j = 2 ∨ j = 3 := by omega
    have key : ∀ {E : Int32}, (if vI q.1 a ∧ ¬ b < 0 ∧ b ≤ 3 then E else -2) = (if vI q.1 a then E else -2) := by
      intro E
      by_cases g : vI q.1 a
      · rw [if_pos g, if_pos ⟨g, h⟩]
      · rw [if_neg g, if_neg (fun k => g k.1)]
    rw [key]
    rcases ej with rfl | rfl | rfl | rfl
    · subst e
      rw [if_pos (show nI 0 = 0 from rfl)]
      exact q_Mo_state0 w hX
    · subst e
      rw [if_neg (show ¬ nI 1 = 0 by decide), if_pos (show nI 1 = 1 from rfl)]
      exact q_Mo_state1 w hX
    · subst e
      rw [if_neg (show ¬ nI 2 = 0 by decide), if_neg (show ¬ nI 2 = 1 by decide), if_pos (show nI 2 = 2 from rfl)]
      exact q_Mo_state2 w hX
    · subst e
      rw [if_neg (show ¬ nI 3 = 0 by decide), if_neg (show ¬ nI 3 = 1 by decide), if_neg (show ¬ nI 3 = 2 by decide)]
      exact q_Mo_state3 w hX
  · rw [if_neg (fun k => h k.2)]
    exact q_Mo_stateN w hX h
theorem q_Mo_merged {sc : Option (Nat × Nat × (Nat → Int32))} {sa : Nat → Nat} {d : Nat} {M : mz_M} {z : Nat × Nat} {m : Nat} (w : g_Mo M.2.2 m) {F : Nat → Int32} {A : Nat → Nat → Int32} {c N D : Nat} {l t : Int32} {K P1 P2 P3 : Nat → Nat} {q : sQ} (hX : mX c N D l t K P1 P2 P3 q A) {a b e : Int32} : zi sc sa (d + 13) 256 [.ref m, .int a, .int b, .int e] (moF M m F A) z (mR M m F A (if (vI q.1 a ∧ vI q.1 b) ∧ vI c e then nmI (mgR c a.toNatClampNeg b.toNatClampNeg q) e else -2)) := by
  obtain ⟨⟨c1, c2, c3, c4, c5⟩, ⟨k1, k2, k3, k4, ln, k5, k6, k7⟩, hd, hv, he, hI, hV, hn⟩ := id hX
  have b1 := hI.1
  have b2 := hI.2.1
  refine zin ym_Mo_merged [.ref m, .int a, .int b, .int e] rfl rfl rfl rfl ?_
  refine z_aload_n (q := 1) rfl rfl rfl ?_
  refine z_iload_n (q := 2) rfl rfl rfl ?_
  refine z_iload_n (q := 3) rfl rfl rfl ?_
  refine z_cv2qi (q := 6) rfl rfl rfl (Mo_k w) (q_Mo_areVersions w hX) (fun x9 M9 h9 => ?_)
  obtain ⟨rfl, FF, AA, rfl, ww⟩ := h9
  refine z_if_eq (q := 9) rfl rfl (fun h6 => ?_) (fun h6 => ?_)
  · refine z_bipush (q := 29) (v := -2) rfl rfl rfl ?_
    refine z_ireti rfl rfl ?_
    first
      | exact qz_t ⟨bz_n.mp h6, bz_n.mp h14⟩ (by rw [nI_clamp (show j < 2 ^ 31 by omega), nI_clamp (show i < 2 ^ 31 by omega)]) ⟨FF, AA, rfl, mPe_w ww⟩
      | exact qz_f (fun h => bz_0.mp h14 h.2) ⟨FF, AA, rfl, mPe_w ww⟩
      | exact qz_f (fun h => bz_0.mp h6 h.1) ⟨FF, AA, rfl, mPe_w ww⟩
      | fail "none"
  · refine z_aload_n (q := 10) rfl rfl rfl ?_
    obtain ⟨j, hj, rfl⟩ := vI_nat (by omega) (bz_n.mp h6).1
    obtain ⟨i, hi, rfl⟩ := vI_nat (by omega) (bz_n.mp h6).2
    refine z_iload_n (q := 11) rfl rfl rfl ?_
    refine z_cv1i (q := 14) rfl rfl rfl (Mo_k w) (s_Mo_isCell w ((congrFun (ww.2.1.2.2.2 1 (by omega)) 0).trans k1) c2 c1) ?_
    refine z_if_eq (q := 17) rfl rfl (fun h14 => ?_) (fun h14 => ?_)
    · refine z_bipush (q := 29) (v := -2) rfl rfl rfl ?_
      refine z_ireti rfl rfl ?_
      first
        | exact qz_t ⟨bz_n.mp h6, bz_n.mp h14⟩ (by rw [nI_clamp (show j < 2 ^ 31 by omega), nI_clamp (show i < 2 ^ 31 by omega)]) ⟨FF, AA, rfl, mPe_w ww⟩
        | exact qz_f (fun h => bz_0.mp h14 h.2) ⟨FF, AA, rfl, mPe_w ww⟩
        | exact qz_f (fun h => bz_0.mp h6 h.1) ⟨FF, AA, rfl, mPe_w ww⟩
        | fail "none"
    · refine z_aload_n (q := 18) rfl rfl rfl ?_
      obtain ⟨k, hk, rfl⟩ := vI_nat (by omega) (bz_n.mp h14)
      refine z_iload_n (q := 19) rfl rfl rfl ?_
      refine z_iload_n (q := 20) rfl rfl rfl ?_
      refine z_iload_n (q := 21) rfl rfl rfl ?_
      refine z_cv3i (q := 24) rfl rfl rfl (Mo_k w) (t_Mo_mergedOf w ww.2.2.1 hI c1 hj hi hk) ?_
      refine z_goto rfl ?_
      refine z_ireti rfl rfl ?_
      first
        | exact qz_t ⟨bz_n.mp h6, bz_n.mp h14⟩ (by rw [nI_clamp (show j < 2 ^ 31 by omega), nI_clamp (show i < 2 ^ 31 by omega)]) ⟨FF, AA, rfl, mPe_w ww⟩
        | exact qz_f (fun h => bz_0.mp h14 h.2) ⟨FF, AA, rfl, mPe_w ww⟩
        | exact qz_f (fun h => bz_0.mp h6 h.1) ⟨FF, AA, rfl, mPe_w ww⟩
        | fail "none"
theorem q_Mo_patching {sc : Option (Nat × Nat × (Nat → Int32))} {sa : Nat → Nat} {d : Nat} {M : mz_M} {z : Nat × Nat} {m : Nat} (w : g_Mo M.2.2 m) {F : Nat → Int32} {A : Nat → Nat → Int32} {c N D : Nat} {l t : Int32} {K P1 P2 P3 : Nat → Nat} {q : sQ} (hX : mX c N D l t K P1 P2 P3 q A) {a b e : Int32} : zi sc sa (d + 14) 254 [.ref m, .int a, .int b, .int e] (moF M m F A) z (mR M m F A (if (vI q.1 a ∧ vI q.1 b) ∧ vI q.1 e then (fo (fun y acc => if nmI (q.2.1 e.toNatClampNeg) (nI y) = nmI (paR c a.toNatClampNeg b.toNatClampNeg e.toNatClampNeg q) (nI y) then acc else acc + Int32.ofInt 1) 0 c) else -2)) := by
  obtain ⟨⟨c1, c2, c3, c4, c5⟩, ⟨k1, k2, k3, k4, ln, k5, k6, k7⟩, hd, hv, he, hI, hV, hn⟩ := id hX
  have b1 := hI.1
  have b2 := hI.2.1
  refine zin ym_Mo_patching [.ref m, .int a, .int b, .int e] rfl rfl rfl rfl ?_
  refine z_aload_n (q := 1) rfl rfl rfl ?_
  refine z_iload_n (q := 2) rfl rfl rfl ?_
  refine z_iload_n (q := 3) rfl rfl rfl ?_
  refine z_iload_n (q := 4) rfl rfl rfl ?_
  refine z_cv3qi (q := 7) rfl rfl rfl (Mo_k w) (q_Mo_areThree w hX) (fun x9 M9 h9 => ?_)
  obtain ⟨rfl, FF, AA, rfl, ww⟩ := h9
  refine z_if_eq (q := 10) rfl rfl (fun h7 => ?_) (fun h7 => ?_)
  · refine z_bipush (q := 22) (v := -2) rfl rfl rfl ?_
    refine z_ireti rfl rfl ?_
    first
      | exact qz_t (bz_n.mp h7) (by rw [nI_clamp (show j < 2 ^ 31 by omega), nI_clamp (show i < 2 ^ 31 by omega), nI_clamp (show k < 2 ^ 31 by omega)]; exact patchMany_eq c1) ⟨FF, AA, rfl, mPe_w ww⟩
      | exact qz_f (bz_0.mp h7) ⟨FF, AA, rfl, mPe_w ww⟩
      | fail "none"
  · refine z_aload_n (q := 11) rfl rfl rfl ?_
    obtain ⟨j, hj, rfl⟩ := vI_nat (by omega) (bz_n.mp h7).1.1
    obtain ⟨i, hi, rfl⟩ := vI_nat (by omega) (bz_n.mp h7).1.2
    obtain ⟨k, hk, rfl⟩ := vI_nat (by omega) (bz_n.mp h7).2
    refine z_iload_n (q := 12) rfl rfl rfl ?_
    refine z_iload_n (q := 13) rfl rfl rfl ?_
    refine z_iload_n (q := 14) rfl rfl rfl ?_
    refine z_cv3i (q := 17) rfl rfl rfl (Mo_k w) (s_Mo_patchMany w ww.2.2.1 hI c1 ((congrFun (ww.2.1.2.2.2 1 (by omega)) 0).trans k1) hj hi hk) ?_
    refine z_goto rfl ?_
    refine z_ireti rfl rfl ?_
    first
      | exact qz_t (bz_n.mp h7) (by rw [nI_clamp (show j < 2 ^ 31 by omega), nI_clamp (show i < 2 ^ 31 by omega), nI_clamp (show k < 2 ^ 31 by omega)]; exact patchMany_eq c1) ⟨FF, AA, rfl, mPe_w ww⟩
      | exact qz_f (bz_0.mp h7) ⟨FF, AA, rfl, mPe_w ww⟩
      | fail "none"
theorem l_Mo_waysOf {sc : Option (Nat × Nat × (Nat → Int32))} {sa : Nat → Nat} {d : Nat} {M : mz_M} {z : Nat × Nat} {m : Nat} (w : g_Mo M.2.2 m) {F : Nat → Int32} {A : Nat → Nat → Int32} {c : Nat} {q : sQ} (hl : mAl A q) (hI : qI c q) (h14 : F 14 = nI q.1)  : ∀ (k : Nat) (i : Nat), i + k = q.1 → zw sc sa (d + 1) ym_Mo_waysOf z (fun r' M' => r' = some (.int (fo (fun v acc => acc + nI (wl q.2.2.1 q.1 v)) 0 q.1)) ∧ M' = (moF M m F A)) 4 [.ref m, .int (fo (fun v acc => acc + nI (wl q.2.2.1 q.1 v)) 0 i), .int (nI i)] [] (moF M m F A) z := by
  intro k
  induction k with
  | zero =>
    intro i hi
    have e1 : i = q.1 := by omega
    subst e1
    refine z_iload_n (q := 5) rfl rfl rfl ?_
    refine z_aload_n (q := 6) rfl rfl rfl ?_
    refine z_getI (q := 9) rfl rfl rfl (Mo_k w) ?_
    rw [moF_g14]
    rw [h14]
    refine z_ic_ge (q := 12) rfl rfl (fun h9 => ?_) (fun h9 => ?_)
    · refine z_iload_n (q := 27) rfl rfl rfl ?_
      refine z_ireti rfl rfl ?_
      exact ⟨rfl, rfl⟩
    · exact absurd (Int32.le_refl _) h9
  | succ k ih =>
    intro i hi
    have b2 := hI.2.1
    have hi2 : i < q.1 := by omega
    refine z_iload_n (q := 5) rfl rfl rfl ?_
    refine z_aload_n (q := 6) rfl rfl rfl ?_
    refine z_getI (q := 9) rfl rfl rfl (Mo_k w) ?_
    rw [moF_g14]
    rw [h14]
    refine z_ic_ge (q := 12) rfl rfl (fun h9 => ?_) (fun h9 => ?_)
    · exact absurd h9 (nI_ge (by omega) (by omega))
    · refine z_iload_n (q := 13) rfl rfl rfl ?_
      refine z_aload_n (q := 14) rfl rfl rfl ?_
      refine z_iload_n (q := 15) rfl rfl rfl ?_
      refine z_cv1i (q := 18) rfl rfl rfl (Mo_k w) (s_Mo_lengthOf w (acy_w hl hI) hI.2.1 hi2) ?_
      rw [wl_w hl hI hi2]
      refine z_iadd (q := 19) rfl rfl ?_
      refine z_istore_n (q := 20) (L2 := [_, _, _]) rfl rfl rfl rfl ?_
      refine z_iinc (q := 23) (L2 := [_, _, _]) rfl rfl rfl rfl ?_
      refine z_goto rfl ?_
      rw [show nI i + Int32.ofInt 1 = nI (i + 1) from (nI_succ i).symm]
      have e9 := ih (i + 1) (by omega)
      first
        | exact e9
        | fail "none"
theorem s_Mo_waysOf {sc : Option (Nat × Nat × (Nat → Int32))} {sa : Nat → Nat} {d : Nat} {M : mz_M} {z : Nat × Nat} {m : Nat} (w : g_Mo M.2.2 m) {F : Nat → Int32} {A : Nat → Nat → Int32} {c : Nat} {q : sQ} (hl : mAl A q) (hI : qI c q) (h14 : F 14 = nI q.1)  : zx sc sa (d + 2) 265 [.ref m] (moF M m F A) z z (some (.int (fo (fun v acc => acc + nI (wl q.2.2.1 q.1 v)) 0 q.1))) (moF M m F A) := by
  refine zxin ym_Mo_waysOf [.ref m, .retAddr 0, .retAddr 0] rfl rfl rfl rfl ?_
  refine z_iconst (q := 1) (v := 0) rfl rfl rfl ?_
  refine z_istore_n (q := 2) (L2 := [_, _, _]) rfl rfl rfl rfl ?_
  refine z_iconst (q := 3) (v := 0) rfl rfl rfl ?_
  refine z_istore_n (q := 4) (L2 := [_, _, _]) rfl rfl rfl rfl ?_
  exact l_Mo_waysOf w hl hI h14 q.1 0 (by omega)
theorem q_Mo_ways {sc : Option (Nat × Nat × (Nat → Int32))} {sa : Nat → Nat} {d : Nat} {M : mz_M} {z : Nat × Nat} {m : Nat} (w : g_Mo M.2.2 m) {F : Nat → Int32} {A : Nat → Nat → Int32} {c N D : Nat} {l t : Int32} {K P1 P2 P3 : Nat → Nat} {q : sQ} (hX : mX c N D l t K P1 P2 P3 q A)  : zi sc sa (d + 12) 266 [.ref m] (moF M m F A) z (mR M m F A (fo (fun v acc => acc + nI (wl q.2.2.1 q.1 v)) 0 q.1)) := by
  obtain ⟨⟨c1, c2, c3, c4, c5⟩, ⟨k1, k2, k3, k4, ln, k5, k6, k7⟩, hd, hv, he, hI, hV, hn⟩ := id hX
  have b1 := hI.1
  have b2 := hI.2.1
  refine zin ym_Mo_ways [.ref m] rfl rfl rfl rfl ?_
  refine z_aload_n (q := 1) rfl rfl rfl ?_
  refine z_cv0i (q := 4) rfl rfl rfl (Mo_k w) (s_Mo_is w k7 k5 k6) ?_
  refine z_if_ne (q := 7) rfl rfl (fun h4 => ?_) (fun h4 => ?_)
  · refine z_aload_n (q := 11) rfl rfl rfl ?_
    refine z_cv0qi (q := 14) rfl rfl rfl (Mo_k w) (q_Mo_playsX w hX) (fun x9 M9 h9 => ?_)
    obtain ⟨p9, q9, rfl, FF, AA, rfl, ww⟩ := h9
    refine z_pop (q := 15) rfl rfl rfl ?_
    refine z_aload_n (q := 16) rfl rfl rfl ?_
    refine z_cv0i (q := 19) rfl rfl rfl (Mo_k w) (s_Mo_waysOf w ww.2.2.2.1 hI ww.1) ?_
    refine z_ireti rfl rfl ?_
    exact qz_r rfl ⟨FF, AA, rfl, mPe_w ww⟩
  · exact absurd h4 (by decide)
theorem l_Mo_longest {sc : Option (Nat × Nat × (Nat → Int32))} {sa : Nat → Nat} {d : Nat} {M : mz_M} {z : Nat × Nat} {m : Nat} (w : g_Mo M.2.2 m) {F : Nat → Int32} {A : Nat → Nat → Int32} {c : Nat} {q : sQ} (hl : mAl A q) (hI : qI c q) (h14 : F 14 = nI q.1)  : ∀ (k : Nat) (i : Nat), i + k = q.1 → zw sc sa (d + 1) ym_Mo_longest z (fun r' M' => r' = some (.int (fo (fun v acc => if acc < nI (wl q.2.2.1 q.1 v) then nI (wl q.2.2.1 q.1 v) else acc) 0 q.1)) ∧ M' = (moF M m F A)) 19 [.ref m, .int (fo (fun v acc => if acc < nI (wl q.2.2.1 q.1 v) then nI (wl q.2.2.1 q.1 v) else acc) 0 i), .int (nI i)] [] (moF M m F A) z := by
  intro k
  induction k with
  | zero =>
    intro i hi
    have e1 : i = q.1 := by omega
    subst e1
    refine z_iload_n (q := 20) rfl rfl rfl ?_
    refine z_aload_n (q := 21) rfl rfl rfl ?_
    refine z_getI (q := 24) rfl rfl rfl (Mo_k w) ?_
    rw [moF_g14]
    rw [h14]
    refine z_ic_ge (q := 27) rfl rfl (fun h24 => ?_) (fun h24 => ?_)
    · refine z_iload_n (q := 44) rfl rfl rfl ?_
      refine z_ireti rfl rfl ?_
      exact ⟨rfl, rfl⟩
    · exact absurd (Int32.le_refl _) h24
  | succ k ih =>
    intro i hi
    have b2 := hI.2.1
    have hi2 : i < q.1 := by omega
    refine z_iload_n (q := 20) rfl rfl rfl ?_
    refine z_aload_n (q := 21) rfl rfl rfl ?_
    refine z_getI (q := 24) rfl rfl rfl (Mo_k w) ?_
    rw [moF_g14]
    rw [h14]
    refine z_ic_ge (q := 27) rfl rfl (fun h24 => ?_) (fun h24 => ?_)
    · exact absurd h24 (nI_ge (by omega) (by omega))
    · refine z_iload_n (q := 28) rfl rfl rfl ?_
      refine z_aload_n (q := 29) rfl rfl rfl ?_
      refine z_iload_n (q := 30) rfl rfl rfl ?_
      refine z_cv1i (q := 33) rfl rfl rfl (Mo_k w) (s_Mo_lengthOf w (acy_w hl hI) hI.2.1 hi2) ?_
      rw [wl_w hl hI hi2]
      refine z_max (q := 36) rfl rfl (by omega) rfl ?_
      refine z_istore_n (q := 37) (L2 := [_, _, _]) rfl rfl rfl rfl ?_
      refine z_iinc (q := 40) (L2 := [_, _, _]) rfl rfl rfl rfl ?_
      refine z_goto rfl ?_
      rw [show nI i + Int32.ofInt 1 = nI (i + 1) from (nI_succ i).symm]
      have e9 := ih (i + 1) (by omega)
      first
        | exact e9
        | fail "none"
theorem q_Mo_longest {sc : Option (Nat × Nat × (Nat → Int32))} {sa : Nat → Nat} {d : Nat} {M : mz_M} {z : Nat × Nat} {m : Nat} (w : g_Mo M.2.2 m) {F : Nat → Int32} {A : Nat → Nat → Int32} {c N D : Nat} {l t : Int32} {K P1 P2 P3 : Nat → Nat} {q : sQ} (hX : mX c N D l t K P1 P2 P3 q A)  : zi sc sa (d + 11) 234 [.ref m] (moF M m F A) z (mR M m F A (fo (fun v acc => if acc < nI (wl q.2.2.1 q.1 v) then nI (wl q.2.2.1 q.1 v) else acc) 0 q.1)) := by
  obtain ⟨⟨c1, c2, c3, c4, c5⟩, ⟨k1, k2, k3, k4, ln, k5, k6, k7⟩, hd, hv, he, hI, hV, hn⟩ := id hX
  have b1 := hI.1
  have b2 := hI.2.1
  refine zin ym_Mo_longest [.ref m, .retAddr 0, .retAddr 0] rfl rfl rfl rfl ?_
  refine z_aload_n (q := 1) rfl rfl rfl ?_
  refine z_cv0i (q := 4) rfl rfl rfl (Mo_k w) (s_Mo_is w k7 k5 k6) ?_
  refine z_if_ne (q := 7) rfl rfl (fun h4 => ?_) (fun h4 => ?_)
  · refine z_aload_n (q := 11) rfl rfl rfl ?_
    refine z_cv0qi (q := 14) rfl rfl rfl (Mo_k w) (q_Mo_playsX w hX) (fun x9 M9 h9 => ?_)
    obtain ⟨p9, q9, rfl, FF, AA, rfl, ww⟩ := h9
    refine z_pop (q := 15) rfl rfl rfl ?_
    refine z_iconst (q := 16) (v := 0) rfl rfl rfl ?_
    refine z_istore_n (q := 17) (L2 := [_, _, _]) rfl rfl rfl rfl ?_
    refine z_iconst (q := 18) (v := 0) rfl rfl rfl ?_
    refine z_istore_n (q := 19) (L2 := [_, _, _]) rfl rfl rfl rfl ?_
    refine mz_wp_m (mz_Kd_m sc sa _) ?_ (l_Mo_longest (d := d + 9) w ww.2.2.2.1 hI ww.1 q.1 0 (by omega))
    intro r9 M9 h
    rw [h.1, h.2]
    exact qz_r rfl ⟨FF, AA, rfl, mPe_w ww⟩
  · exact absurd h4 (by decide)
theorem l_Mo_direct {sc : Option (Nat × Nat × (Nat → Int32))} {sa : Nat → Nat} {d : Nat} {M : mz_M} {z : Nat × Nat} {m : Nat} (w : g_Mo M.2.2 m) {F : Nat → Int32} {A : Nat → Nat → Int32} {c : Nat} {q : sQ} (hl : mAl A q) (hI : qI c q) (h14 : F 14 = nI q.1)  : ∀ (k : Nat) (i : Nat), i + k = q.1 → zw sc sa d ym_Mo_direct z (fun r' M' => r' = some (.int (fo (fun v acc => if q.2.2.1 v = -1 then acc + Int32.ofInt 1 else acc) 0 q.1)) ∧ M' = (moF M m F A)) 19 [.ref m, .int (fo (fun v acc => if q.2.2.1 v = -1 then acc + Int32.ofInt 1 else acc) 0 i), .int (nI i)] [] (moF M m F A) z := by
  intro k
  induction k with
  | zero =>
    intro i hi
    have e1 : i = q.1 := by omega
    subst e1
    refine z_iload_n (q := 20) rfl rfl rfl ?_
    refine z_aload_n (q := 21) rfl rfl rfl ?_
    refine z_getI (q := 24) rfl rfl rfl (Mo_k w) ?_
    rw [moF_g14]
    rw [h14]
    refine z_ic_ge (q := 27) rfl rfl (fun h24 => ?_) (fun h24 => ?_)
    · refine z_iload_n (q := 52) rfl rfl rfl ?_
      refine z_ireti rfl rfl ?_
      exact ⟨rfl, rfl⟩
    · exact absurd (Int32.le_refl _) h24
  | succ k ih =>
    intro i hi
    have b2 := hI.2.1
    have hi2 : i < q.1 := by omega
    refine z_iload_n (q := 20) rfl rfl rfl ?_
    refine z_aload_n (q := 21) rfl rfl rfl ?_
    refine z_getI (q := 24) rfl rfl rfl (Mo_k w) ?_
    rw [moF_g14]
    rw [h14]
    refine z_ic_ge (q := 27) rfl rfl (fun h24 => ?_) (fun h24 => ?_)
    · exact absurd h24 (nI_ge (by omega) (by omega))
    · refine z_iload_n (q := 28) rfl rfl rfl ?_
      refine z_aload_n (q := 29) rfl rfl rfl ?_
      refine z_getR (q := 32) rfl rfl rfl (Mo_k w) (Mo_r10 w) ?_
      refine z_iload_n (q := 33) rfl rfl rfl ?_
      refine z_iald (q := 34) rfl rfl (Mo_a10 w) (by first | assumption | exact vp_in_nI (by omega) (by omega)) ?_
      rw [moF_a10]
      try rw [nI_clamp (by omega)]
      rw [(hl i hi2).1]
      refine z_iconst (q := 35) (v := -1) rfl rfl rfl ?_
      refine z_ic_ne (q := 38) rfl rfl (fun h35 => ?_) (fun h35 => ?_)
      · refine z_iconst (q := 43) (v := 0) rfl rfl rfl ?_
        refine z_iadd (q := 44) rfl rfl ?_
        refine z_istore_n (q := 45) (L2 := [_, _, _]) rfl rfl rfl rfl ?_
        refine z_iinc (q := 48) (L2 := [_, _, _]) rfl rfl rfl rfl ?_
        refine z_goto rfl ?_
        rw [show nI i + Int32.ofInt 1 = nI (i + 1) from (nI_succ i).symm]
        have e9 := ih (i + 1) (by omega)
        first
          | (have hzz : q.2.2.1 i = -1 := h35; simp only [fo, if_pos hzz] at e9; exact e9)
          | (have hzz : ¬ q.2.2.1 i = -1 := h35; simp only [fo, if_neg hzz] at e9; rw [Int32.add_zero]; exact e9)
          | fail "none"
      · refine z_iconst (q := 39) (v := 1) rfl rfl rfl ?_
        refine z_goto rfl ?_
        refine z_iadd (q := 44) rfl rfl ?_
        refine z_istore_n (q := 45) (L2 := [_, _, _]) rfl rfl rfl rfl ?_
        refine z_iinc (q := 48) (L2 := [_, _, _]) rfl rfl rfl rfl ?_
        refine z_goto rfl ?_
        rw [show nI i + Int32.ofInt 1 = nI (i + 1) from (nI_succ i).symm]
        have e9 := ih (i + 1) (by omega)
        first
          | (have hzz : q.2.2.1 i = -1 := h35; simp only [fo, if_pos hzz] at e9; exact e9)
          | (have hzz : ¬ q.2.2.1 i = -1 := h35; simp only [fo, if_neg hzz] at e9; rw [Int32.add_zero]; exact e9)
          | fail "none"
theorem q_Mo_direct {sc : Option (Nat × Nat × (Nat → Int32))} {sa : Nat → Nat} {d : Nat} {M : mz_M} {z : Nat × Nat} {m : Nat} (w : g_Mo M.2.2 m) {F : Nat → Int32} {A : Nat → Nat → Int32} {c N D : Nat} {l t : Int32} {K P1 P2 P3 : Nat → Nat} {q : sQ} (hX : mX c N D l t K P1 P2 P3 q A)  : zi sc sa (d + 11) 235 [.ref m] (moF M m F A) z (mR M m F A (fo (fun v acc => if q.2.2.1 v = -1 then acc + Int32.ofInt 1 else acc) 0 q.1)) := by
  obtain ⟨⟨c1, c2, c3, c4, c5⟩, ⟨k1, k2, k3, k4, ln, k5, k6, k7⟩, hd, hv, he, hI, hV, hn⟩ := id hX
  have b1 := hI.1
  have b2 := hI.2.1
  refine zin ym_Mo_direct [.ref m, .retAddr 0, .retAddr 0] rfl rfl rfl rfl ?_
  refine z_aload_n (q := 1) rfl rfl rfl ?_
  refine z_cv0i (q := 4) rfl rfl rfl (Mo_k w) (s_Mo_is w k7 k5 k6) ?_
  refine z_if_ne (q := 7) rfl rfl (fun h4 => ?_) (fun h4 => ?_)
  · refine z_aload_n (q := 11) rfl rfl rfl ?_
    refine z_cv0qi (q := 14) rfl rfl rfl (Mo_k w) (q_Mo_playsX w hX) (fun x9 M9 h9 => ?_)
    obtain ⟨p9, q9, rfl, FF, AA, rfl, ww⟩ := h9
    refine z_pop (q := 15) rfl rfl rfl ?_
    refine z_iconst (q := 16) (v := 0) rfl rfl rfl ?_
    refine z_istore_n (q := 17) (L2 := [_, _, _]) rfl rfl rfl rfl ?_
    refine z_iconst (q := 18) (v := 0) rfl rfl rfl ?_
    refine z_istore_n (q := 19) (L2 := [_, _, _]) rfl rfl rfl rfl ?_
    refine mz_wp_m (mz_Kd_m sc sa _) ?_ (l_Mo_direct (d := d + 10) w ww.2.2.2.1 hI ww.1 q.1 0 (by omega))
    intro r9 M9 h
    rw [h.1, h.2]
    exact qz_r rfl ⟨FF, AA, rfl, mPe_w ww⟩
  · exact absurd h4 (by decide)
