theorem e_X_meet {sc : Option (Nat × Nat × (Nat → Int32))} {sa : Nat → Nat} {d : Nat} {M : mz_M} {z : Nat × Nat} {x p q : Nat} (w : g_X M.2.2 x p q) {n : Nat} (hn : M.1 (p + 1) 8 = nI n) (hN : n ≤ 40) {a b : Int32} (hno : ¬ (vI n a ∧ vI n b)) : zx sc sa (d + 4) 117 [.ref x, .int a, .int b] M z z (some (.int (-2))) M := by
  refine zxin ym_X_meet [.ref x, .int a, .int b] rfl rfl rfl rfl ?_
  refine z_aload_n (q := 1) rfl rfl rfl ?_
  refine z_iload_n (q := 2) rfl rfl rfl ?_
  refine z_iload_n (q := 3) rfl rfl rfl ?_
  refine z_cv2i (q := 6) rfl rfl rfl (X_k w) (s_X_hasVersions w hn hN) ?_
  refine z_if_eq (q := 9) rfl rfl (fun h6 => ?_) (fun h6 => ?_)
  · refine z_bipush (q := 26) (v := -2) rfl rfl rfl ?_
    refine z_ireti rfl rfl ?_
    exact ⟨rfl, rfl⟩
  · exact absurd (bz_n.mp h6) hno
theorem e_X_apart {sc : Option (Nat × Nat × (Nat → Int32))} {sa : Nat → Nat} {d : Nat} {M : mz_M} {z : Nat × Nat} {x p q : Nat} (w : g_X M.2.2 x p q) {n : Nat} (hn : M.1 (p + 1) 8 = nI n) (hN : n ≤ 40) {a b : Int32} (hno : ¬ (vI n a ∧ vI n b)) : zx sc sa (d + 4) 118 [.ref x, .int a, .int b] M z z (some (.int (-2))) M := by
  refine zxin ym_X_apart [.ref x, .int a, .int b, .retAddr 0] rfl rfl rfl rfl ?_
  refine z_aload_n (q := 1) rfl rfl rfl ?_
  refine z_iload_n (q := 2) rfl rfl rfl ?_
  refine z_iload_n (q := 3) rfl rfl rfl ?_
  refine z_cv2i (q := 6) rfl rfl rfl (X_k w) (s_X_hasVersions w hn hN) ?_
  refine z_if_ne (q := 9) rfl rfl (fun h6 => ?_) (fun h6 => ?_)
  · exact absurd (bz_n.mp h6) hno
  · refine z_bipush (q := 11) (v := -2) rfl rfl rfl ?_
    refine z_ireti rfl rfl ?_
    exact ⟨rfl, rfl⟩
theorem e_X_merging {sc : Option (Nat × Nat × (Nat → Int32))} {sa : Nat → Nat} {d : Nat} {M : mz_M} {z : Nat × Nat} {x p q : Nat} (w : g_X M.2.2 x p q) {n : Nat} (hn : M.1 (p + 1) 8 = nI n) (hN : n ≤ 40) {a b e : Int32} (hno : ¬ (vI n a ∧ vI n b)) : zx sc sa (d + 4) 150 [.ref x, .int a, .int b, .int e] M z z (some (.int (-2))) M := by
  refine zxin ym_X_merging [.ref x, .int a, .int b, .int e] rfl rfl rfl rfl ?_
  refine z_aload_n (q := 1) rfl rfl rfl ?_
  refine z_iload_n (q := 2) rfl rfl rfl ?_
  refine z_iload_n (q := 3) rfl rfl rfl ?_
  refine z_cv2i (q := 6) rfl rfl rfl (X_k w) (s_X_hasVersions w hn hN) ?_
  refine z_if_eq (q := 9) rfl rfl (fun h6 => ?_) (fun h6 => ?_)
  · refine z_bipush (q := 20) (v := -2) rfl rfl rfl ?_
    refine z_ireti rfl rfl ?_
    exact ⟨rfl, rfl⟩
  · exact absurd (bz_n.mp h6) hno
theorem e_X_merged {sc : Option (Nat × Nat × (Nat → Int32))} {sa : Nat → Nat} {d : Nat} {M : mz_M} {z : Nat × Nat} {x p q : Nat} (w : g_X M.2.2 x p q) {n : Nat} (hn : M.1 (p + 1) 8 = nI n) (hN : n ≤ 40) {a b e : Int32} (hno : ¬ (vI n a ∧ vI n b)) : zx sc sa (d + 4) 151 [.ref x, .int a, .int b, .int e] M z z (some (.int (-2))) M := by
  refine zxin ym_X_merged [.ref x, .int a, .int b, .int e] rfl rfl rfl rfl ?_
  refine z_aload_n (q := 1) rfl rfl rfl ?_
  refine z_iload_n (q := 2) rfl rfl rfl ?_
  refine z_iload_n (q := 3) rfl rfl rfl ?_
  refine z_cv2i (q := 6) rfl rfl rfl (X_k w) (s_X_hasVersions w hn hN) ?_
  refine z_if_eq (q := 9) rfl rfl (fun h6 => ?_) (fun h6 => ?_)
  · refine z_bipush (q := 25) (v := -2) rfl rfl rfl ?_
    refine z_ireti rfl rfl ?_
    exact ⟨rfl, rfl⟩
  · exact absurd (bz_n.mp h6) hno
theorem e_X_merges {sc : Option (Nat × Nat × (Nat → Int32))} {sa : Nat → Nat} {d : Nat} {M : mz_M} {z : Nat × Nat} {x p q : Nat} (w : g_X M.2.2 x p q) {n : Nat} (hn : M.1 (p + 1) 8 = nI n) (hN : n ≤ 40) {a b : Int32} (hno : ¬ (vI n a ∧ vI n b)) : zx sc sa (d + 4) 152 [.ref x, .int a, .int b] M z z (some (.int (-2))) M := by
  refine zxin ym_X_merges [.ref x, .int a, .int b] rfl rfl rfl rfl ?_
  refine z_aload_n (q := 1) rfl rfl rfl ?_
  refine z_iload_n (q := 2) rfl rfl rfl ?_
  refine z_iload_n (q := 3) rfl rfl rfl ?_
  refine z_cv2i (q := 6) rfl rfl rfl (X_k w) (s_X_hasVersions w hn hN) ?_
  refine z_if_ne (q := 9) rfl rfl (fun h6 => ?_) (fun h6 => ?_)
  · exact absurd (bz_n.mp h6) hno
  · refine z_bipush (q := 11) (v := -2) rfl rfl rfl ?_
    refine z_ireti rfl rfl ?_
    exact ⟨rfl, rfl⟩
theorem n_Mo_spent {sc : Option (Nat × Nat × (Nat → Int32))} {sa : Nat → Nat} {d : Nat} {M : mz_M} {z : Nat × Nat} {m : Nat} (w : g_Mo M.2.2 m) {F : Nat → Int32} {A : Nat → Nat → Int32} {D : Nat} (k4 : A 1 4 = nI D) (hD : D ≤ 60) {a : Int32} (ha : ¬ vI D a)  : zi sc sa (d + 10) 237 [.ref m, .int a] (moF M m F A) z (mR M m F A (-2)) := by
  refine zin ym_Mo_spent [.ref m, .int a] rfl rfl rfl rfl ?_
  refine z_iload_n (q := 1) rfl rfl rfl ?_
  refine z_i2l (q := 2) rfl rfl ?_
  refine z_lconst (q := 3) (v := 0) rfl rfl rfl ?_
  refine z_aload_n (q := 4) rfl rfl rfl ?_
  refine z_getR (q := 7) rfl rfl rfl (Mo_k w) (Mo_r0 w) ?_
  refine z_iconst (q := 8) (v := 4) rfl rfl rfl ?_
  refine z_iald (q := 9) rfl rfl (Mo_a0 w) (vp_in_nI (n := 4) (by omega) (by omega)) ?_
  rw [moF_a0]
  try rw [nI_clamp (by omega)]
  rw [show A 1 (4 : Int32).toNatClampNeg = nI D from k4]
  refine z_iconst (q := 10) (v := 1) rfl rfl rfl ?_
  refine z_isub (q := 11) rfl rfl ?_
  refine z_i2l (q := 12) rfl rfl ?_
  refine z_cs3i (q := 15) rfl rfl rfl (t_Mo_inZ0 (by omega) ha) ?_
  refine z_if_ne (q := 18) rfl rfl (fun h15 => ?_) (fun h15 => ?_)
  · exact absurd h15 (by decide)
  · refine z_bipush (q := 20) (v := -2) rfl rfl rfl ?_
    refine z_ireti rfl rfl ?_
    exact qz_r rfl ⟨F, A, rfl, mPe_r⟩
