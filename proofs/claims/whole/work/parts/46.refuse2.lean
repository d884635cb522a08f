theorem n_X_anew {sc : Option (Nat × Nat × (Nat → Int32))} {sa : Nat → Nat} {d : Nat} {M : mz_M} {z : Nat × Nat} {x p q : Nat} (w : g_X M.2.2 x p q) {c : Nat} (hc : M.1 (p + 1) 5 = nI c) (hC : c ≤ 12) (hno : ¬ 0 < c) : zx sc sa (d + 7) 167 [.ref x] M z z (some (.int (-2))) M := by
  refine zxin ym_X_anew [.ref x, .retAddr 0] rfl rfl rfl rfl ?_
  refine z_aload_n (q := 1) rfl rfl rfl ?_
  refine z_cv0i (q := 4) rfl rfl rfl (X_k w) (s_X_isThere w hc hC) ?_
  refine z_if_ne (q := 7) rfl rfl (fun h4 => ?_) (fun h4 => ?_)
  · exact absurd (bz_n.mp h4) hno
  · refine z_bipush (q := 9) (v := -2) rfl rfl rfl ?_
    refine z_ireti rfl rfl ?_
    exact ⟨rfl, rfl⟩
theorem n_X_undo {sc : Option (Nat × Nat × (Nat → Int32))} {sa : Nat → Nat} {d : Nat} {M : mz_M} {z : Nat × Nat} {x p q : Nat} (w : g_X M.2.2 x p q) {c : Nat} (hc : M.1 (p + 1) 5 = nI c) (hC : c ≤ 12) (hno : ¬ (0 < c ∧ ¬ M.1 p 10 - M.1 p 9 = 0)) : zx sc sa (d + 7) 166 [.ref x] M z z (some (.int (if 0 < c then -5 else -2))) M := by
  refine zxin ym_X_undo [.ref x] rfl rfl rfl rfl ?_
  refine z_aload_n (q := 1) rfl rfl rfl ?_
  refine z_cv0i (q := 4) rfl rfl rfl (X_k w) (s_X_isThere w hc hC) ?_
  refine z_if_ne (q := 7) rfl rfl (fun h4 => ?_) (fun h4 => ?_)
  · refine z_aload_n (q := 11) rfl rfl rfl ?_
    refine z_getR (q := 14) rfl rfl rfl (X_k w) (X_r4 w) ?_
    refine z_cv0i (q := 17) rfl rfl rfl (St_k (X_w4 w)) (s_St_acts (X_w4 w)) ?_
    refine z_if_ne (q := 20) rfl rfl (fun h17 => ?_) (fun h17 => ?_)
    · exact absurd ⟨bz_n.mp h4, h17⟩ hno
    · refine z_bipush (q := 22) (v := -5) rfl rfl rfl ?_
      refine z_ireti rfl rfl ?_
      rw [if_pos (bz_n.mp h4)]
      exact ⟨rfl, rfl⟩
  · refine z_bipush (q := 9) (v := -2) rfl rfl rfl ?_
    refine z_ireti rfl rfl ?_
    rw [if_neg (bz_0.mp h4)]
    exact ⟨rfl, rfl⟩
theorem n_X_without {sc : Option (Nat × Nat × (Nat → Int32))} {sa : Nat → Nat} {d : Nat} {M : mz_M} {z : Nat × Nat} {x p q : Nat} (w : g_X M.2.2 x p q) {c : Nat} (hc : M.1 (p + 1) 5 = nI c) (hC : c ≤ 12) {D : Nat} (hD : M.1 p 10 = nI D) (h60 : D ≤ 60) {a : Int32} (hno : ¬ (vI D a ∧ (M.1 (p + 8) a.toNatClampNeg = 1 ∨ M.1 (p + 8) a.toNatClampNeg = 4 ∨ M.1 (p + 8) a.toNatClampNeg = 5))) : zx sc sa (d + 7) 142 [.ref x, .int a] M z z (some (.int (-2))) M := by
  refine zxin ym_X_without [.ref x, .int a] rfl rfl rfl rfl ?_
  refine z_aload_n (q := 1) rfl rfl rfl ?_
  refine z_getR (q := 4) rfl rfl rfl (X_k w) (X_r4 w) ?_
  refine z_iload_n (q := 5) rfl rfl rfl ?_
  refine z_cv1i (q := 8) rfl rfl rfl (St_k (X_w4 w)) (s_St_hasDeed (X_w4 w)) ?_
  refine z_if_eq (q := 11) rfl rfl (fun h8 => ?_) (fun h8 => ?_)
  · refine z_bipush (q := 24) (v := -2) rfl rfl rfl ?_
    refine z_ireti rfl rfl ?_
    exact ⟨rfl, rfl⟩
  · refine z_aload_n (q := 12) rfl rfl rfl ?_
    have g9 := bz_n.mp h8
    rw [hD] at g9
    obtain ⟨j, hj, rfl⟩ := vI_nat (by omega) g9
    rw [nI_clamp (show j < 2 ^ 31 by omega)] at hno
    refine z_getR (q := 15) rfl rfl rfl (X_k w) (X_r4 w) ?_
    refine z_iload_n (q := 16) rfl rfl rfl ?_
    refine z_cv1i (q := 19) rfl rfl rfl (St_k (X_w4 w)) (s_St_makesNone (X_w4 w) hD h60 hj) ?_
    refine z_if_ne (q := 22) rfl rfl (fun h19 => ?_) (fun h19 => ?_)
    · exact absurd ⟨g9, bz_n.mp h19⟩ hno
    · refine z_bipush (q := 24) (v := -2) rfl rfl rfl ?_
      refine z_ireti rfl rfl ?_
      exact ⟨rfl, rfl⟩
