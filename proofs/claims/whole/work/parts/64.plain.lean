-- without a store
theorem n0_Mo_isVersion {sc : Option (Nat × Nat × (Nat → Int32))} {sa : Nat → Nat} {d : Nat} {M : mz_M} {z : Nat × Nat} {m : Nat} (w : g_Mo M.2.2 m) {F : Nat → Int32} {A : Nat → Nat → Int32} (h5 : A 1 5 = 0) {a : Int32} : zx sc sa (d + 2) 218 [.ref m, .int a] (moF M m F A) z z (some (.int 0)) (moF M m F A) := by
  refine zxin ym_Mo_isVersion [.ref m, .int a] rfl rfl rfl rfl ?_
  refine z_aload_n (q := 1) rfl rfl rfl ?_
  refine z_cv0i (q := 4) rfl rfl rfl (Mo_k w) (n_Mo_is w h5) ?_
  refine z_if_ne (q := 7) rfl rfl (fun h4 => ?_) (fun h4 => ?_)
  · exact absurd h4 (by decide)
  · refine z_iconst (q := 8) (v := 0) rfl rfl rfl ?_
    refine z_iretz rfl rfl (rfl) ?_
    exact ⟨rfl, rfl⟩
theorem n0_Mo_areVersions {sc : Option (Nat × Nat × (Nat → Int32))} {sa : Nat → Nat} {d : Nat} {M : mz_M} {z : Nat × Nat} {m : Nat} (w : g_Mo M.2.2 m) {F : Nat → Int32} {A : Nat → Nat → Int32} (h5 : A 1 5 = 0) {a b : Int32} : zx sc sa (d + 3) 223 [.ref m, .int a, .int b] (moF M m F A) z z (some (.int 0)) (moF M m F A) := by
  refine zxin ym_Mo_areVersions [.ref m, .int a, .int b] rfl rfl rfl rfl ?_
  refine z_aload_n (q := 1) rfl rfl rfl ?_
  refine z_iload_n (q := 2) rfl rfl rfl ?_
  refine z_cv1i (q := 5) rfl rfl rfl (Mo_k w) (n0_Mo_isVersion w h5) ?_
  refine z_if_eq (q := 8) rfl rfl (fun h5 => ?_) (fun h5 => ?_)
  · refine z_iconst (q := 29) (v := 0) rfl rfl rfl ?_
    refine z_iretz rfl rfl (rfl) ?_
    exact ⟨rfl, rfl⟩
  · exact absurd h5 (by decide)
theorem n0_Mo_areThree {sc : Option (Nat × Nat × (Nat → Int32))} {sa : Nat → Nat} {d : Nat} {M : mz_M} {z : Nat × Nat} {m : Nat} (w : g_Mo M.2.2 m) {F : Nat → Int32} {A : Nat → Nat → Int32} (h5 : A 1 5 = 0) {a b e : Int32} : zx sc sa (d + 4) 252 [.ref m, .int a, .int b, .int e] (moF M m F A) z z (some (.int 0)) (moF M m F A) := by
  refine zxin ym_Mo_areThree [.ref m, .int a, .int b, .int e] rfl rfl rfl rfl ?_
  refine z_aload_n (q := 1) rfl rfl rfl ?_
  refine z_iload_n (q := 2) rfl rfl rfl ?_
  refine z_iload_n (q := 3) rfl rfl rfl ?_
  refine z_cv2i (q := 6) rfl rfl rfl (Mo_k w) (n0_Mo_areVersions w h5) ?_
  refine z_if_eq (q := 9) rfl rfl (fun h6 => ?_) (fun h6 => ?_)
  · refine z_iconst (q := 30) (v := 0) rfl rfl rfl ?_
    refine z_iretz rfl rfl (rfl) ?_
    exact ⟨rfl, rfl⟩
  · exact absurd h6 (by decide)
theorem n0_Mo_isSet {sc : Option (Nat × Nat × (Nat → Int32))} {sa : Nat → Nat} {d : Nat} {M : mz_M} {z : Nat × Nat} {m : Nat} (w : g_Mo M.2.2 m) {F : Nat → Int32} {A : Nat → Nat → Int32} (h5 : A 1 5 = 0) {set : Int64} : zx sc sa (d + 2) 259 [.ref m, .long set] (moF M m F A) z z (some (.int 0)) (moF M m F A) := by
  refine zxin ym_Mo_isSet [.ref m, .long set, .retAddr 0] rfl rfl rfl rfl ?_
  refine z_aload_n (q := 1) rfl rfl rfl ?_
  refine z_cv0i (q := 4) rfl rfl rfl (Mo_k w) (n_Mo_is w h5) ?_
  refine z_if_eq (q := 7) rfl rfl (fun h4 => ?_) (fun h4 => ?_)
  · refine z_iconst (q := 14) (v := 0) rfl rfl rfl ?_
    refine z_iretz rfl rfl (rfl) ?_
    exact ⟨rfl, rfl⟩
  · exact absurd h4 (by decide)
theorem n0_Mo_areColours {sc : Option (Nat × Nat × (Nat → Int32))} {sa : Nat → Nat} {d : Nat} {M : mz_M} {z : Nat × Nat} {m : Nat} (w : g_Mo M.2.2 m) {F : Nat → Int32} {A : Nat → Nat → Int32} (h5 : A 1 5 = 0) {a : Int32} : zx sc sa (d + 2) 274 [.ref m, .int a] (moF M m F A) z z (some (.int 0)) (moF M m F A) := by
  refine zxin ym_Mo_areColours [.ref m, .int a] rfl rfl rfl rfl ?_
  refine z_aload_n (q := 1) rfl rfl rfl ?_
  refine z_cv0i (q := 4) rfl rfl rfl (Mo_k w) (n_Mo_is w h5) ?_
  refine z_if_eq (q := 7) rfl rfl (fun h4 => ?_) (fun h4 => ?_)
  · refine z_iconst (q := 24) (v := 0) rfl rfl rfl ?_
    refine z_iretz rfl rfl (rfl) ?_
    exact ⟨rfl, rfl⟩
  · exact absurd h4 (by decide)
theorem n0_Mo_cell {sc : Option (Nat × Nat × (Nat → Int32))} {sa : Nat → Nat} {d : Nat} {M : mz_M} {z : Nat × Nat} {m : Nat} (w : g_Mo M.2.2 m) {F : Nat → Int32} {A : Nat → Nat → Int32} (h5 : A 1 5 = 0) {a b : Int32} : zx sc sa (d + 5) 220 [.ref m, .int a, .int b] (moF M m F A) z z (some (.int (-2))) (moF M m F A) := by
  refine zxin ym_Mo_cell [.ref m, .int a, .int b] rfl rfl rfl rfl ?_
  refine z_aload_n (q := 1) rfl rfl rfl ?_
  refine z_iload_n (q := 2) rfl rfl rfl ?_
  refine z_cv1i (q := 5) rfl rfl rfl (Mo_k w) (n0_Mo_isVersion w h5) ?_
  refine z_if_eq (q := 8) rfl rfl (fun h5 => ?_) (fun h5 => ?_)
  · refine z_bipush (q := 27) (v := -2) rfl rfl rfl ?_
    refine z_ireti rfl rfl ?_
    exact ⟨rfl, rfl⟩
  · exact absurd h5 (by decide)
theorem n0_Mo_version {sc : Option (Nat × Nat × (Nat → Int32))} {sa : Nat → Nat} {d : Nat} {M : mz_M} {z : Nat × Nat} {m : Nat} (w : g_Mo M.2.2 m) {F : Nat → Int32} {A : Nat → Nat → Int32} (h5 : A 1 5 = 0) {a b : Int32} : zx sc sa (d + 5) 221 [.ref m, .int a, .int b] (moF M m F A) z z (some (.int (-2))) (moF M m F A) := by
  refine zxin ym_Mo_version [.ref m, .int a, .int b] rfl rfl rfl rfl ?_
  refine z_aload_n (q := 1) rfl rfl rfl ?_
  refine z_iload_n (q := 2) rfl rfl rfl ?_
  refine z_cv1i (q := 5) rfl rfl rfl (Mo_k w) (n0_Mo_isVersion w h5) ?_
  refine z_if_eq (q := 8) rfl rfl (fun h5 => ?_) (fun h5 => ?_)
  · refine z_bipush (q := 22) (v := -2) rfl rfl rfl ?_
    refine z_ireti rfl rfl ?_
    exact ⟨rfl, rfl⟩
  · exact absurd h5 (by decide)
theorem n0_Mo_unlike {sc : Option (Nat × Nat × (Nat → Int32))} {sa : Nat → Nat} {d : Nat} {M : mz_M} {z : Nat × Nat} {m : Nat} (w : g_Mo M.2.2 m) {F : Nat → Int32} {A : Nat → Nat → Int32} (h5 : A 1 5 = 0) {a b : Int32} : zx sc sa (d + 5) 224 [.ref m, .int a, .int b] (moF M m F A) z z (some (.int (-2))) (moF M m F A) := by
  refine zxin ym_Mo_unlike [.ref m, .int a, .int b] rfl rfl rfl rfl ?_
  refine z_aload_n (q := 1) rfl rfl rfl ?_
  refine z_iload_n (q := 2) rfl rfl rfl ?_
  refine z_iload_n (q := 3) rfl rfl rfl ?_
  refine z_cv2i (q := 6) rfl rfl rfl (Mo_k w) (n0_Mo_areVersions w h5) ?_
  refine z_if_eq (q := 9) rfl rfl (fun h6 => ?_) (fun h6 => ?_)
  · refine z_bipush (q := 20) (v := -2) rfl rfl rfl ?_
    refine z_ireti rfl rfl ?_
    exact ⟨rfl, rfl⟩
  · exact absurd h6 (by decide)
theorem n0_Mo_first {sc : Option (Nat × Nat × (Nat → Int32))} {sa : Nat → Nat} {d : Nat} {M : mz_M} {z : Nat × Nat} {m : Nat} (w : g_Mo M.2.2 m) {F : Nat → Int32} {A : Nat → Nat → Int32} (h5 : A 1 5 = 0) {a : Int32} : zx sc sa (d + 5) 225 [.ref m, .int a] (moF M m F A) z z (some (.int (-2))) (moF M m F A) := by
  refine zxin ym_Mo_first [.ref m, .int a, .retAddr 0] rfl rfl rfl rfl ?_
  refine z_aload_n (q := 1) rfl rfl rfl ?_
  refine z_iload_n (q := 2) rfl rfl rfl ?_
  refine z_cv1i (q := 5) rfl rfl rfl (Mo_k w) (n0_Mo_isVersion w h5) ?_
  refine z_if_ne (q := 8) rfl rfl (fun h5 => ?_) (fun h5 => ?_)
  · exact absurd h5 (by decide)
  · refine z_bipush (q := 10) (v := -2) rfl rfl rfl ?_
    refine z_ireti rfl rfl ?_
    exact ⟨rfl, rfl⟩
theorem n0_Mo_meet {sc : Option (Nat × Nat × (Nat → Int32))} {sa : Nat → Nat} {d : Nat} {M : mz_M} {z : Nat × Nat} {m : Nat} (w : g_Mo M.2.2 m) {F : Nat → Int32} {A : Nat → Nat → Int32} (h5 : A 1 5 = 0) {a b : Int32} : zx sc sa (d + 5) 227 [.ref m, .int a, .int b] (moF M m F A) z z (some (.int (-2))) (moF M m F A) := by
  refine zxin ym_Mo_meet [.ref m, .int a, .int b] rfl rfl rfl rfl ?_
  refine z_aload_n (q := 1) rfl rfl rfl ?_
  refine z_iload_n (q := 2) rfl rfl rfl ?_
  refine z_iload_n (q := 3) rfl rfl rfl ?_
  refine z_cv2i (q := 6) rfl rfl rfl (Mo_k w) (n0_Mo_areVersions w h5) ?_
  refine z_if_eq (q := 9) rfl rfl (fun h6 => ?_) (fun h6 => ?_)
  · refine z_bipush (q := 20) (v := -2) rfl rfl rfl ?_
    refine z_ireti rfl rfl ?_
    exact ⟨rfl, rfl⟩
  · exact absurd h6 (by decide)
theorem n0_Mo_apart {sc : Option (Nat × Nat × (Nat → Int32))} {sa : Nat → Nat} {d : Nat} {M : mz_M} {z : Nat × Nat} {m : Nat} (w : g_Mo M.2.2 m) {F : Nat → Int32} {A : Nat → Nat → Int32} (h5 : A 1 5 = 0) {a b : Int32} : zx sc sa (d + 5) 228 [.ref m, .int a, .int b] (moF M m F A) z z (some (.int (-2))) (moF M m F A) := by
  refine zxin ym_Mo_apart [.ref m, .int a, .int b, .retAddr 0] rfl rfl rfl rfl ?_
  refine z_aload_n (q := 1) rfl rfl rfl ?_
  refine z_iload_n (q := 2) rfl rfl rfl ?_
  refine z_iload_n (q := 3) rfl rfl rfl ?_
  refine z_cv2i (q := 6) rfl rfl rfl (Mo_k w) (n0_Mo_areVersions w h5) ?_
  refine z_if_ne (q := 9) rfl rfl (fun h6 => ?_) (fun h6 => ?_)
  · exact absurd h6 (by decide)
  · refine z_bipush (q := 11) (v := -2) rfl rfl rfl ?_
    refine z_ireti rfl rfl ?_
    exact ⟨rfl, rfl⟩
theorem n0_Mo_root {sc : Option (Nat × Nat × (Nat → Int32))} {sa : Nat → Nat} {d : Nat} {M : mz_M} {z : Nat × Nat} {m : Nat} (w : g_Mo M.2.2 m) {F : Nat → Int32} {A : Nat → Nat → Int32} (h5 : A 1 5 = 0) {a b : Int32} : zx sc sa (d + 5) 229 [.ref m, .int a, .int b] (moF M m F A) z z (some (.int (-2))) (moF M m F A) := by
  refine zxin ym_Mo_root [.ref m, .int a, .int b] rfl rfl rfl rfl ?_
  refine z_aload_n (q := 1) rfl rfl rfl ?_
  refine z_iload_n (q := 2) rfl rfl rfl ?_
  refine z_cv1i (q := 5) rfl rfl rfl (Mo_k w) (n0_Mo_isVersion w h5) ?_
  refine z_if_eq (q := 8) rfl rfl (fun h5 => ?_) (fun h5 => ?_)
  · refine z_bipush (q := 27) (v := -2) rfl rfl rfl ?_
    refine z_ireti rfl rfl ?_
    exact ⟨rfl, rfl⟩
  · exact absurd h5 (by decide)
theorem n0_Mo_roots {sc : Option (Nat × Nat × (Nat → Int32))} {sa : Nat → Nat} {d : Nat} {M : mz_M} {z : Nat × Nat} {m : Nat} (w : g_Mo M.2.2 m) {F : Nat → Int32} {A : Nat → Nat → Int32} (h5 : A 1 5 = 0) {a : Int32} : zx sc sa (d + 5) 230 [.ref m, .int a] (moF M m F A) z z (some (.int (-2))) (moF M m F A) := by
  refine zxin ym_Mo_roots [.ref m, .int a, .retAddr 0, .retAddr 0] rfl rfl rfl rfl ?_
  refine z_aload_n (q := 1) rfl rfl rfl ?_
  refine z_iload_n (q := 2) rfl rfl rfl ?_
  refine z_cv1i (q := 5) rfl rfl rfl (Mo_k w) (n0_Mo_isVersion w h5) ?_
  refine z_if_ne (q := 8) rfl rfl (fun h5 => ?_) (fun h5 => ?_)
  · exact absurd h5 (by decide)
  · refine z_bipush (q := 10) (v := -2) rfl rfl rfl ?_
    refine z_ireti rfl rfl ?_
    exact ⟨rfl, rfl⟩
theorem n0_Mo_together {sc : Option (Nat × Nat × (Nat → Int32))} {sa : Nat → Nat} {d : Nat} {M : mz_M} {z : Nat × Nat} {m : Nat} (w : g_Mo M.2.2 m) {F : Nat → Int32} {A : Nat → Nat → Int32} (h5 : A 1 5 = 0) {a b : Int32} : zx sc sa (d + 5) 231 [.ref m, .int a, .int b] (moF M m F A) z z (some (.int (-2))) (moF M m F A) := by
  refine zxin ym_Mo_together [.ref m, .int a, .int b, .retAddr 0, .retAddr 0] rfl rfl rfl rfl ?_
  refine z_aload_n (q := 1) rfl rfl rfl ?_
  refine z_iload_n (q := 2) rfl rfl rfl ?_
  refine z_cv1i (q := 5) rfl rfl rfl (Mo_k w) (n0_Mo_isVersion w h5) ?_
  refine z_if_eq (q := 8) rfl rfl (fun h5 => ?_) (fun h5 => ?_)
  · refine z_bipush (q := 18) (v := -2) rfl rfl rfl ?_
    refine z_ireti rfl rfl ?_
    exact ⟨rfl, rfl⟩
  · exact absurd h5 (by decide)
theorem n0_Mo_state {sc : Option (Nat × Nat × (Nat → Int32))} {sa : Nat → Nat} {d : Nat} {M : mz_M} {z : Nat × Nat} {m : Nat} (w : g_Mo M.2.2 m) {F : Nat → Int32} {A : Nat → Nat → Int32} (h5 : A 1 5 = 0) {a b : Int32} : zx sc sa (d + 5) 232 [.ref m, .int a, .int b] (moF M m F A) z z (some (.int (-2))) (moF M m F A) := by
  refine zxin ym_Mo_state [.ref m, .int a, .int b] rfl rfl rfl rfl ?_
  refine z_aload_n (q := 1) rfl rfl rfl ?_
  refine z_iload_n (q := 2) rfl rfl rfl ?_
  refine z_cv1i (q := 5) rfl rfl rfl (Mo_k w) (n0_Mo_isVersion w h5) ?_
  refine z_if_eq (q := 8) rfl rfl (fun h5 => ?_) (fun h5 => ?_)
  · refine z_bipush (q := 22) (v := -2) rfl rfl rfl ?_
    refine z_ireti rfl rfl ?_
    exact ⟨rfl, rfl⟩
  · exact absurd h5 (by decide)
theorem n0_Mo_length {sc : Option (Nat × Nat × (Nat → Int32))} {sa : Nat → Nat} {d : Nat} {M : mz_M} {z : Nat × Nat} {m : Nat} (w : g_Mo M.2.2 m) {F : Nat → Int32} {A : Nat → Nat → Int32} (h5 : A 1 5 = 0) {a : Int32} : zx sc sa (d + 5) 233 [.ref m, .int a] (moF M m F A) z z (some (.int (-2))) (moF M m F A) := by
  refine zxin ym_Mo_length [.ref m, .int a] rfl rfl rfl rfl ?_
  refine z_aload_n (q := 1) rfl rfl rfl ?_
  refine z_iload_n (q := 2) rfl rfl rfl ?_
  refine z_cv1i (q := 5) rfl rfl rfl (Mo_k w) (n0_Mo_isVersion w h5) ?_
  refine z_if_eq (q := 8) rfl rfl (fun h5 => ?_) (fun h5 => ?_)
  · refine z_bipush (q := 18) (v := -2) rfl rfl rfl ?_
    refine z_ireti rfl rfl ?_
    exact ⟨rfl, rfl⟩
  · exact absurd h5 (by decide)
theorem n0_Mo_longest {sc : Option (Nat × Nat × (Nat → Int32))} {sa : Nat → Nat} {d : Nat} {M : mz_M} {z : Nat × Nat} {m : Nat} (w : g_Mo M.2.2 m) {F : Nat → Int32} {A : Nat → Nat → Int32} (h5 : A 1 5 = 0)  : zx sc sa (d + 5) 234 [.ref m] (moF M m F A) z z (some (.int (-2))) (moF M m F A) := by
  refine zxin ym_Mo_longest [.ref m, .retAddr 0, .retAddr 0] rfl rfl rfl rfl ?_
  refine z_aload_n (q := 1) rfl rfl rfl ?_
  refine z_cv0i (q := 4) rfl rfl rfl (Mo_k w) (n_Mo_is w h5) ?_
  refine z_if_ne (q := 7) rfl rfl (fun h4 => ?_) (fun h4 => ?_)
  · exact absurd h4 (by decide)
  · refine z_bipush (q := 9) (v := -2) rfl rfl rfl ?_
    refine z_ireti rfl rfl ?_
    exact ⟨rfl, rfl⟩
theorem n0_Mo_direct {sc : Option (Nat × Nat × (Nat → Int32))} {sa : Nat → Nat} {d : Nat} {M : mz_M} {z : Nat × Nat} {m : Nat} (w : g_Mo M.2.2 m) {F : Nat → Int32} {A : Nat → Nat → Int32} (h5 : A 1 5 = 0)  : zx sc sa (d + 5) 235 [.ref m] (moF M m F A) z z (some (.int (-2))) (moF M m F A) := by
  refine zxin ym_Mo_direct [.ref m, .retAddr 0, .retAddr 0] rfl rfl rfl rfl ?_
  refine z_aload_n (q := 1) rfl rfl rfl ?_
  refine z_cv0i (q := 4) rfl rfl rfl (Mo_k w) (n_Mo_is w h5) ?_
  refine z_if_ne (q := 7) rfl rfl (fun h4 => ?_) (fun h4 => ?_)
  · exact absurd h4 (by decide)
  · refine z_bipush (q := 9) (v := -2) rfl rfl rfl ?_
    refine z_ireti rfl rfl ?_
    exact ⟨rfl, rfl⟩
theorem n0_Mo_ledger {sc : Option (Nat × Nat × (Nat → Int32))} {sa : Nat → Nat} {d : Nat} {M : mz_M} {z : Nat × Nat} {m : Nat} (w : g_Mo M.2.2 m) {F : Nat → Int32} {A : Nat → Nat → Int32} (h5 : A 1 5 = 0)  : zx sc sa (d + 5) 236 [.ref m] (moF M m F A) z z (some (.int (-2))) (moF M m F A) := by
  refine zxin ym_Mo_ledger [.ref m] rfl rfl rfl rfl ?_
  refine z_aload_n (q := 1) rfl rfl rfl ?_
  refine z_cv0i (q := 4) rfl rfl rfl (Mo_k w) (n_Mo_is w h5) ?_
  refine z_if_eq (q := 7) rfl rfl (fun h4 => ?_) (fun h4 => ?_)
  · refine z_bipush (q := 16) (v := -2) rfl rfl rfl ?_
    refine z_ireti rfl rfl ?_
    exact ⟨rfl, rfl⟩
  · exact absurd h4 (by decide)
theorem n0_Mo_dearest {sc : Option (Nat × Nat × (Nat → Int32))} {sa : Nat → Nat} {d : Nat} {M : mz_M} {z : Nat × Nat} {m : Nat} (w : g_Mo M.2.2 m) {F : Nat → Int32} {A : Nat → Nat → Int32} (h5 : A 1 5 = 0)  : zx sc sa (d + 5) 238 [.ref m] (moF M m F A) z z (some (.int (-2))) (moF M m F A) := by
  refine zxin ym_Mo_dearest [.ref m, .retAddr 0, .retAddr 0] rfl rfl rfl rfl ?_
  refine z_aload_n (q := 1) rfl rfl rfl ?_
  refine z_cv0i (q := 4) rfl rfl rfl (Mo_k w) (n_Mo_is w h5) ?_
  refine z_if_ne (q := 7) rfl rfl (fun h4 => ?_) (fun h4 => ?_)
  · exact absurd h4 (by decide)
  · refine z_bipush (q := 9) (v := -2) rfl rfl rfl ?_
    refine z_ireti rfl rfl ?_
    exact ⟨rfl, rfl⟩
theorem n0_Mo_cost {sc : Option (Nat × Nat × (Nat → Int32))} {sa : Nat → Nat} {d : Nat} {M : mz_M} {z : Nat × Nat} {m : Nat} (w : g_Mo M.2.2 m) {F : Nat → Int32} {A : Nat → Nat → Int32} (h5 : A 1 5 = 0) {a b : Int32} : zx sc sa (d + 5) 239 [.ref m, .int a, .int b] (moF M m F A) z z (some (.int (-2))) (moF M m F A) := by
  refine zxin ym_Mo_cost [.ref m, .int a, .int b] rfl rfl rfl rfl ?_
  refine z_aload_n (q := 1) rfl rfl rfl ?_
  refine z_iload_n (q := 2) rfl rfl rfl ?_
  refine z_cv1i (q := 5) rfl rfl rfl (Mo_k w) (n0_Mo_isVersion w h5) ?_
  refine z_if_eq (q := 8) rfl rfl (fun h5 => ?_) (fun h5 => ?_)
  · refine z_bipush (q := 18) (v := -2) rfl rfl rfl ?_
    refine z_ireti rfl rfl ?_
    exact ⟨rfl, rfl⟩
  · exact absurd h5 (by decide)
theorem n0_Mo_by {sc : Option (Nat × Nat × (Nat → Int32))} {sa : Nat → Nat} {d : Nat} {M : mz_M} {z : Nat × Nat} {m : Nat} (w : g_Mo M.2.2 m) {F : Nat → Int32} {A : Nat → Nat → Int32} (h5 : A 1 5 = 0) {a : Int32} : zx sc sa (d + 5) 240 [.ref m, .int a] (moF M m F A) z z (some (.int (-2))) (moF M m F A) := by
  refine zxin ym_Mo_by [.ref m, .int a] rfl rfl rfl rfl ?_
  refine z_aload_n (q := 1) rfl rfl rfl ?_
  refine z_cv0i (q := 4) rfl rfl rfl (Mo_k w) (n_Mo_is w h5) ?_
  refine z_if_eq (q := 7) rfl rfl (fun h4 => ?_) (fun h4 => ?_)
  · refine z_bipush (q := 36) (v := -2) rfl rfl rfl ?_
    refine z_ireti rfl rfl ?_
    exact ⟨rfl, rfl⟩
  · exact absurd h4 (by decide)
theorem n0_Mo_cutting {sc : Option (Nat × Nat × (Nat → Int32))} {sa : Nat → Nat} {d : Nat} {M : mz_M} {z : Nat × Nat} {m : Nat} (w : g_Mo M.2.2 m) {F : Nat → Int32} {A : Nat → Nat → Int32} (h5 : A 1 5 = 0) {a : Int32} : zx sc sa (d + 5) 241 [.ref m, .int a] (moF M m F A) z z (some (.int (-2))) (moF M m F A) := by
  refine zxin ym_Mo_cutting [.ref m, .int a] rfl rfl rfl rfl ?_
  refine z_aload_n (q := 1) rfl rfl rfl ?_
  refine z_cv0i (q := 4) rfl rfl rfl (Mo_k w) (n_Mo_is w h5) ?_
  refine z_if_eq (q := 7) rfl rfl (fun h4 => ?_) (fun h4 => ?_)
  · refine z_bipush (q := 31) (v := -2) rfl rfl rfl ?_
    refine z_ireti rfl rfl ?_
    exact ⟨rfl, rfl⟩
  · exact absurd h4 (by decide)
theorem n0_Mo_cut {sc : Option (Nat × Nat × (Nat → Int32))} {sa : Nat → Nat} {d : Nat} {M : mz_M} {z : Nat × Nat} {m : Nat} (w : g_Mo M.2.2 m) {F : Nat → Int32} {A : Nat → Nat → Int32} (h5 : A 1 5 = 0)  : zx sc sa (d + 5) 242 [.ref m] (moF M m F A) z z (some (.int (-2))) (moF M m F A) := by
  refine zxin ym_Mo_cut [.ref m, .retAddr 0, .retAddr 0] rfl rfl rfl rfl ?_
  refine z_aload_n (q := 1) rfl rfl rfl ?_
  refine z_cv0i (q := 4) rfl rfl rfl (Mo_k w) (n_Mo_is w h5) ?_
  refine z_if_ne (q := 7) rfl rfl (fun h4 => ?_) (fun h4 => ?_)
  · exact absurd h4 (by decide)
  · refine z_bipush (q := 9) (v := -2) rfl rfl rfl ?_
    refine z_ireti rfl rfl ?_
    exact ⟨rfl, rfl⟩
theorem n0_Mo_reads {sc : Option (Nat × Nat × (Nat → Int32))} {sa : Nat → Nat} {d : Nat} {M : mz_M} {z : Nat × Nat} {m : Nat} (w : g_Mo M.2.2 m) {F : Nat → Int32} {A : Nat → Nat → Int32} (h5 : A 1 5 = 0) {a b : Int32} : zx sc sa (d + 5) 246 [.ref m, .int a, .int b] (moF M m F A) z z (some (.int (-2))) (moF M m F A) := by
  refine zxin ym_Mo_reads [.ref m, .int a, .int b] rfl rfl rfl rfl ?_
  refine z_aload_n (q := 1) rfl rfl rfl ?_
  refine z_iload_n (q := 2) rfl rfl rfl ?_
  refine z_cv1i (q := 5) rfl rfl rfl (Mo_k w) (n0_Mo_isVersion w h5) ?_
  refine z_if_eq (q := 8) rfl rfl (fun h5 => ?_) (fun h5 => ?_)
  · refine z_bipush (q := 18) (v := -2) rfl rfl rfl ?_
    refine z_ireti rfl rfl ?_
    exact ⟨rfl, rfl⟩
  · exact absurd h5 (by decide)
theorem n0_Mo_sets {sc : Option (Nat × Nat × (Nat → Int32))} {sa : Nat → Nat} {d : Nat} {M : mz_M} {z : Nat × Nat} {m : Nat} (w : g_Mo M.2.2 m) {F : Nat → Int32} {A : Nat → Nat → Int32} (h5 : A 1 5 = 0) {a b e : Int32} : zx sc sa (d + 5) 247 [.ref m, .int a, .int b, .int e] (moF M m F A) z z (some (.int (-2))) (moF M m F A) := by
  refine zxin ym_Mo_sets [.ref m, .int a, .int b, .int e] rfl rfl rfl rfl ?_
  refine z_aload_n (q := 1) rfl rfl rfl ?_
  refine z_iload_n (q := 2) rfl rfl rfl ?_
  refine z_cv1i (q := 5) rfl rfl rfl (Mo_k w) (n0_Mo_isVersion w h5) ?_
  refine z_if_eq (q := 8) rfl rfl (fun h5 => ?_) (fun h5 => ?_)
  · refine z_bipush (q := 26) (v := -2) rfl rfl rfl ?_
    refine z_ireti rfl rfl ?_
    exact ⟨rfl, rfl⟩
  · exact absurd h5 (by decide)
theorem n0_Mo_joins {sc : Option (Nat × Nat × (Nat → Int32))} {sa : Nat → Nat} {d : Nat} {M : mz_M} {z : Nat × Nat} {m : Nat} (w : g_Mo M.2.2 m) {F : Nat → Int32} {A : Nat → Nat → Int32} (h5 : A 1 5 = 0) {a b e : Int32} : zx sc sa (d + 5) 248 [.ref m, .int a, .int b, .int e] (moF M m F A) z z (some (.int (-2))) (moF M m F A) := by
  refine zxin ym_Mo_joins [.ref m, .int a, .int b, .int e] rfl rfl rfl rfl ?_
  refine z_aload_n (q := 1) rfl rfl rfl ?_
  refine z_iload_n (q := 2) rfl rfl rfl ?_
  refine z_cv1i (q := 5) rfl rfl rfl (Mo_k w) (n0_Mo_isVersion w h5) ?_
  refine z_if_eq (q := 8) rfl rfl (fun h5 => ?_) (fun h5 => ?_)
  · refine z_bipush (q := 26) (v := -2) rfl rfl rfl ?_
    refine z_ireti rfl rfl ?_
    exact ⟨rfl, rfl⟩
  · exact absurd h5 (by decide)
theorem n0_Mo_finds {sc : Option (Nat × Nat × (Nat → Int32))} {sa : Nat → Nat} {d : Nat} {M : mz_M} {z : Nat × Nat} {m : Nat} (w : g_Mo M.2.2 m) {F : Nat → Int32} {A : Nat → Nat → Int32} (h5 : A 1 5 = 0) {a b : Int32} : zx sc sa (d + 5) 249 [.ref m, .int a, .int b] (moF M m F A) z z (some (.int (-2))) (moF M m F A) := by
  refine zxin ym_Mo_finds [.ref m, .int a, .int b] rfl rfl rfl rfl ?_
  refine z_aload_n (q := 1) rfl rfl rfl ?_
  refine z_iload_n (q := 2) rfl rfl rfl ?_
  refine z_cv1i (q := 5) rfl rfl rfl (Mo_k w) (n0_Mo_isVersion w h5) ?_
  refine z_if_eq (q := 8) rfl rfl (fun h5 => ?_) (fun h5 => ?_)
  · refine z_bipush (q := 18) (v := -2) rfl rfl rfl ?_
    refine z_ireti rfl rfl ?_
    exact ⟨rfl, rfl⟩
  · exact absurd h5 (by decide)
theorem n0_Mo_snaps {sc : Option (Nat × Nat × (Nat → Int32))} {sa : Nat → Nat} {d : Nat} {M : mz_M} {z : Nat × Nat} {m : Nat} (w : g_Mo M.2.2 m) {F : Nat → Int32} {A : Nat → Nat → Int32} (h5 : A 1 5 = 0) {a : Int32} : zx sc sa (d + 5) 250 [.ref m, .int a] (moF M m F A) z z (some (.int (-2))) (moF M m F A) := by
  refine zxin ym_Mo_snaps [.ref m, .int a] rfl rfl rfl rfl ?_
  refine z_aload_n (q := 1) rfl rfl rfl ?_
  refine z_iload_n (q := 2) rfl rfl rfl ?_
  refine z_cv1i (q := 5) rfl rfl rfl (Mo_k w) (n0_Mo_isVersion w h5) ?_
  refine z_if_ne (q := 8) rfl rfl (fun h5 => ?_) (fun h5 => ?_)
  · exact absurd h5 (by decide)
  · refine z_bipush (q := 10) (v := -2) rfl rfl rfl ?_
    refine z_ireti rfl rfl ?_
    exact ⟨rfl, rfl⟩
theorem n0_Mo_merges {sc : Option (Nat × Nat × (Nat → Int32))} {sa : Nat → Nat} {d : Nat} {M : mz_M} {z : Nat × Nat} {m : Nat} (w : g_Mo M.2.2 m) {F : Nat → Int32} {A : Nat → Nat → Int32} (h5 : A 1 5 = 0) {a b : Int32} : zx sc sa (d + 5) 251 [.ref m, .int a, .int b] (moF M m F A) z z (some (.int (-2))) (moF M m F A) := by
  refine zxin ym_Mo_merges [.ref m, .int a, .int b] rfl rfl rfl rfl ?_
  refine z_aload_n (q := 1) rfl rfl rfl ?_
  refine z_iload_n (q := 2) rfl rfl rfl ?_
  refine z_iload_n (q := 3) rfl rfl rfl ?_
  refine z_cv2i (q := 6) rfl rfl rfl (Mo_k w) (n0_Mo_areVersions w h5) ?_
  refine z_if_ne (q := 9) rfl rfl (fun h6 => ?_) (fun h6 => ?_)
  · exact absurd h6 (by decide)
  · refine z_bipush (q := 11) (v := -2) rfl rfl rfl ?_
    refine z_ireti rfl rfl ?_
    exact ⟨rfl, rfl⟩
theorem n0_Mo_patches {sc : Option (Nat × Nat × (Nat → Int32))} {sa : Nat → Nat} {d : Nat} {M : mz_M} {z : Nat × Nat} {m : Nat} (w : g_Mo M.2.2 m) {F : Nat → Int32} {A : Nat → Nat → Int32} (h5 : A 1 5 = 0) {a b e : Int32} : zx sc sa (d + 5) 253 [.ref m, .int a, .int b, .int e] (moF M m F A) z z (some (.int (-2))) (moF M m F A) := by
  refine zxin ym_Mo_patches [.ref m, .int a, .int b, .int e] rfl rfl rfl rfl ?_
  refine z_aload_n (q := 1) rfl rfl rfl ?_
  refine z_iload_n (q := 2) rfl rfl rfl ?_
  refine z_iload_n (q := 3) rfl rfl rfl ?_
  refine z_iload_n (q := 4) rfl rfl rfl ?_
  refine z_cv3i (q := 7) rfl rfl rfl (Mo_k w) (n0_Mo_areThree w h5) ?_
  refine z_if_ne (q := 10) rfl rfl (fun h7 => ?_) (fun h7 => ?_)
  · exact absurd h7 (by decide)
  · refine z_bipush (q := 12) (v := -2) rfl rfl rfl ?_
    refine z_ireti rfl rfl ?_
    exact ⟨rfl, rfl⟩
theorem n0_Mo_patching {sc : Option (Nat × Nat × (Nat → Int32))} {sa : Nat → Nat} {d : Nat} {M : mz_M} {z : Nat × Nat} {m : Nat} (w : g_Mo M.2.2 m) {F : Nat → Int32} {A : Nat → Nat → Int32} (h5 : A 1 5 = 0) {a b e : Int32} : zx sc sa (d + 5) 254 [.ref m, .int a, .int b, .int e] (moF M m F A) z z (some (.int (-2))) (moF M m F A) := by
  refine zxin ym_Mo_patching [.ref m, .int a, .int b, .int e] rfl rfl rfl rfl ?_
  refine z_aload_n (q := 1) rfl rfl rfl ?_
  refine z_iload_n (q := 2) rfl rfl rfl ?_
  refine z_iload_n (q := 3) rfl rfl rfl ?_
  refine z_iload_n (q := 4) rfl rfl rfl ?_
  refine z_cv3i (q := 7) rfl rfl rfl (Mo_k w) (n0_Mo_areThree w h5) ?_
  refine z_if_eq (q := 10) rfl rfl (fun h7 => ?_) (fun h7 => ?_)
  · refine z_bipush (q := 22) (v := -2) rfl rfl rfl ?_
    refine z_ireti rfl rfl ?_
    exact ⟨rfl, rfl⟩
  · exact absurd h7 (by decide)
theorem n0_Mo_merging {sc : Option (Nat × Nat × (Nat → Int32))} {sa : Nat → Nat} {d : Nat} {M : mz_M} {z : Nat × Nat} {m : Nat} (w : g_Mo M.2.2 m) {F : Nat → Int32} {A : Nat → Nat → Int32} (h5 : A 1 5 = 0) {a b e : Int32} : zx sc sa (d + 5) 255 [.ref m, .int a, .int b, .int e] (moF M m F A) z z (some (.int (-2))) (moF M m F A) := by
  refine zxin ym_Mo_merging [.ref m, .int a, .int b, .int e, .retAddr 0, .retAddr 0] rfl rfl rfl rfl ?_
  refine z_aload_n (q := 1) rfl rfl rfl ?_
  refine z_iload_n (q := 2) rfl rfl rfl ?_
  refine z_iload_n (q := 3) rfl rfl rfl ?_
  refine z_cv2i (q := 6) rfl rfl rfl (Mo_k w) (n0_Mo_areVersions w h5) ?_
  refine z_if_eq (q := 9) rfl rfl (fun h6 => ?_) (fun h6 => ?_)
  · refine z_bipush (q := 21) (v := -2) rfl rfl rfl ?_
    refine z_ireti rfl rfl ?_
    exact ⟨rfl, rfl⟩
  · exact absurd h6 (by decide)
theorem n0_Mo_merged {sc : Option (Nat × Nat × (Nat → Int32))} {sa : Nat → Nat} {d : Nat} {M : mz_M} {z : Nat × Nat} {m : Nat} (w : g_Mo M.2.2 m) {F : Nat → Int32} {A : Nat → Nat → Int32} (h5 : A 1 5 = 0) {a b e : Int32} : zx sc sa (d + 5) 256 [.ref m, .int a, .int b, .int e] (moF M m F A) z z (some (.int (-2))) (moF M m F A) := by
  refine zxin ym_Mo_merged [.ref m, .int a, .int b, .int e] rfl rfl rfl rfl ?_
  refine z_aload_n (q := 1) rfl rfl rfl ?_
  refine z_iload_n (q := 2) rfl rfl rfl ?_
  refine z_iload_n (q := 3) rfl rfl rfl ?_
  refine z_cv2i (q := 6) rfl rfl rfl (Mo_k w) (n0_Mo_areVersions w h5) ?_
  refine z_if_eq (q := 9) rfl rfl (fun h6 => ?_) (fun h6 => ?_)
  · refine z_bipush (q := 29) (v := -2) rfl rfl rfl ?_
    refine z_ireti rfl rfl ?_
    exact ⟨rfl, rfl⟩
  · exact absurd h6 (by decide)
theorem n0_Mo_blame {sc : Option (Nat × Nat × (Nat → Int32))} {sa : Nat → Nat} {d : Nat} {M : mz_M} {z : Nat × Nat} {m : Nat} (w : g_Mo M.2.2 m) {F : Nat → Int32} {A : Nat → Nat → Int32} (h5 : A 1 5 = 0) {a b : Int32} : zx sc sa (d + 5) 257 [.ref m, .int a, .int b] (moF M m F A) z z (some (.int (-2))) (moF M m F A) := by
  refine zxin ym_Mo_blame [.ref m, .int a, .int b, .retAddr 0] rfl rfl rfl rfl ?_
  refine z_aload_n (q := 1) rfl rfl rfl ?_
  refine z_iload_n (q := 2) rfl rfl rfl ?_
  refine z_cv1i (q := 5) rfl rfl rfl (Mo_k w) (n0_Mo_isVersion w h5) ?_
  refine z_if_eq (q := 8) rfl rfl (fun h5 => ?_) (fun h5 => ?_)
  · refine z_bipush (q := 18) (v := -2) rfl rfl rfl ?_
    refine z_ireti rfl rfl ?_
    exact ⟨rfl, rfl⟩
  · exact absurd h5 (by decide)
theorem n0_Mo_often {sc : Option (Nat × Nat × (Nat → Int32))} {sa : Nat → Nat} {d : Nat} {M : mz_M} {z : Nat × Nat} {m : Nat} (w : g_Mo M.2.2 m) {F : Nat → Int32} {A : Nat → Nat → Int32} (h5 : A 1 5 = 0) {a b : Int32} : zx sc sa (d + 5) 258 [.ref m, .int a, .int b] (moF M m F A) z z (some (.int (-2))) (moF M m F A) := by
  refine zxin ym_Mo_often [.ref m, .int a, .int b, .retAddr 0, .retAddr 0] rfl rfl rfl rfl ?_
  refine z_aload_n (q := 1) rfl rfl rfl ?_
  refine z_iload_n (q := 2) rfl rfl rfl ?_
  refine z_cv1i (q := 5) rfl rfl rfl (Mo_k w) (n0_Mo_isVersion w h5) ?_
  refine z_if_eq (q := 8) rfl rfl (fun h5 => ?_) (fun h5 => ?_)
  · refine z_bipush (q := 18) (v := -2) rfl rfl rfl ?_
    refine z_ireti rfl rfl ?_
    exact ⟨rfl, rfl⟩
  · exact absurd h5 (by decide)
theorem n0_Mo_busiest {sc : Option (Nat × Nat × (Nat → Int32))} {sa : Nat → Nat} {d : Nat} {M : mz_M} {z : Nat × Nat} {m : Nat} (w : g_Mo M.2.2 m) {F : Nat → Int32} {A : Nat → Nat → Int32} (h5 : A 1 5 = 0)  : zx sc sa (d + 5) 263 [.ref m] (moF M m F A) z z (some (.int (-2))) (moF M m F A) := by
  refine zxin ym_Mo_busiest [.ref m, .retAddr 0, .retAddr 0, .retAddr 0, .retAddr 0, .retAddr 0] rfl rfl rfl rfl ?_
  refine z_aload_n (q := 1) rfl rfl rfl ?_
  refine z_cv0i (q := 4) rfl rfl rfl (Mo_k w) (n_Mo_is w h5) ?_
  refine z_if_ne (q := 7) rfl rfl (fun h4 => ?_) (fun h4 => ?_)
  · exact absurd h4 (by decide)
  · refine z_bipush (q := 9) (v := -2) rfl rfl rfl ?_
    refine z_ireti rfl rfl ?_
    exact ⟨rfl, rfl⟩
theorem n0_Mo_ways {sc : Option (Nat × Nat × (Nat → Int32))} {sa : Nat → Nat} {d : Nat} {M : mz_M} {z : Nat × Nat} {m : Nat} (w : g_Mo M.2.2 m) {F : Nat → Int32} {A : Nat → Nat → Int32} (h5 : A 1 5 = 0)  : zx sc sa (d + 5) 266 [.ref m] (moF M m F A) z z (some (.int (-2))) (moF M m F A) := by
  refine zxin ym_Mo_ways [.ref m] rfl rfl rfl rfl ?_
  refine z_aload_n (q := 1) rfl rfl rfl ?_
  refine z_cv0i (q := 4) rfl rfl rfl (Mo_k w) (n_Mo_is w h5) ?_
  refine z_if_ne (q := 7) rfl rfl (fun h4 => ?_) (fun h4 => ?_)
  · exact absurd h4 (by decide)
  · refine z_bipush (q := 9) (v := -2) rfl rfl rfl ?_
    refine z_ireti rfl rfl ?_
    exact ⟨rfl, rfl⟩
theorem n0_Mo_snapping {sc : Option (Nat × Nat × (Nat → Int32))} {sa : Nat → Nat} {d : Nat} {M : mz_M} {z : Nat × Nat} {m : Nat} (w : g_Mo M.2.2 m) {F : Nat → Int32} {A : Nat → Nat → Int32} (h5 : A 1 5 = 0) {a : Int32} : zx sc sa (d + 5) 267 [.ref m, .int a] (moF M m F A) z z (some (.int (-2))) (moF M m F A) := by
  refine zxin ym_Mo_snapping [.ref m, .int a] rfl rfl rfl rfl ?_
  refine z_aload_n (q := 1) rfl rfl rfl ?_
  refine z_iload_n (q := 2) rfl rfl rfl ?_
  refine z_cv1i (q := 5) rfl rfl rfl (Mo_k w) (n0_Mo_isVersion w h5) ?_
  refine z_if_ne (q := 8) rfl rfl (fun h5 => ?_) (fun h5 => ?_)
  · exact absurd h5 (by decide)
  · refine z_bipush (q := 10) (v := -2) rfl rfl rfl ?_
    refine z_ireti rfl rfl ?_
    exact ⟨rfl, rfl⟩
theorem n0_Mo_snap2 {sc : Option (Nat × Nat × (Nat → Int32))} {sa : Nat → Nat} {d : Nat} {M : mz_M} {z : Nat × Nat} {m : Nat} (w : g_Mo M.2.2 m) {F : Nat → Int32} {A : Nat → Nat → Int32} (h5 : A 1 5 = 0)  : zx sc sa (d + 5) 268 [.ref m] (moF M m F A) z z (some (.int (-2))) (moF M m F A) := by
  refine zxin ym_Mo_snap2 [.ref m, .retAddr 0, .retAddr 0, .retAddr 0, .retAddr 0, .retAddr 0] rfl rfl rfl rfl ?_
  refine z_aload_n (q := 1) rfl rfl rfl ?_
  refine z_cv0i (q := 4) rfl rfl rfl (Mo_k w) (n_Mo_is w h5) ?_
  refine z_if_ne (q := 7) rfl rfl (fun h4 => ?_) (fun h4 => ?_)
  · exact absurd h4 (by decide)
  · refine z_bipush (q := 9) (v := -2) rfl rfl rfl ?_
    refine z_ireti rfl rfl ?_
    exact ⟨rfl, rfl⟩
theorem n0_Mo_image {sc : Option (Nat × Nat × (Nat → Int32))} {sa : Nat → Nat} {d : Nat} {M : mz_M} {z : Nat × Nat} {m : Nat} (w : g_Mo M.2.2 m) {F : Nat → Int32} {A : Nat → Nat → Int32} (h5 : A 1 5 = 0) {a : Int32} : zx sc sa (d + 5) 269 [.ref m, .int a] (moF M m F A) z z (some (.int (-2))) (moF M m F A) := by
  refine zxin ym_Mo_image [.ref m, .int a, .retAddr 0] rfl rfl rfl rfl ?_
  refine z_aload_n (q := 1) rfl rfl rfl ?_
  refine z_cv0i (q := 4) rfl rfl rfl (Mo_k w) (n_Mo_is w h5) ?_
  refine z_if_eq (q := 7) rfl rfl (fun h4 => ?_) (fun h4 => ?_)
  · refine z_bipush (q := 21) (v := -2) rfl rfl rfl ?_
    refine z_ireti rfl rfl ?_
    exact ⟨rfl, rfl⟩
  · exact absurd h4 (by decide)
theorem n0_Mo_undo {sc : Option (Nat × Nat × (Nat → Int32))} {sa : Nat → Nat} {d : Nat} {M : mz_M} {z : Nat × Nat} {m : Nat} (w : g_Mo M.2.2 m) {F : Nat → Int32} {A : Nat → Nat → Int32} (h5 : A 1 5 = 0)  : zx sc sa (d + 5) 288 [.ref m] (moF M m F A) z z (some (.int (-2))) (moF M m F A) := by
  refine zxin ym_Mo_undo [.ref m] rfl rfl rfl rfl ?_
  refine z_aload_n (q := 1) rfl rfl rfl ?_
  refine z_cv0i (q := 4) rfl rfl rfl (Mo_k w) (n_Mo_is w h5) ?_
  refine z_if_ne (q := 7) rfl rfl (fun h4 => ?_) (fun h4 => ?_)
  · exact absurd h4 (by decide)
  · refine z_bipush (q := 9) (v := -2) rfl rfl rfl ?_
    refine z_ireti rfl rfl ?_
    exact ⟨rfl, rfl⟩
theorem n0_Mo_anew {sc : Option (Nat × Nat × (Nat → Int32))} {sa : Nat → Nat} {d : Nat} {M : mz_M} {z : Nat × Nat} {m : Nat} (w : g_Mo M.2.2 m) {F : Nat → Int32} {A : Nat → Nat → Int32} (h5 : A 1 5 = 0)  : zx sc sa (d + 5) 289 [.ref m] (moF M m F A) z z (some (.int (-2))) (moF M m F A) := by
  refine zxin ym_Mo_anew [.ref m, .retAddr 0] rfl rfl rfl rfl ?_
  refine z_aload_n (q := 1) rfl rfl rfl ?_
  refine z_cv0i (q := 4) rfl rfl rfl (Mo_k w) (n_Mo_is w h5) ?_
  refine z_if_ne (q := 7) rfl rfl (fun h4 => ?_) (fun h4 => ?_)
  · exact absurd h4 (by decide)
  · refine z_bipush (q := 9) (v := -2) rfl rfl rfl ?_
    refine z_ireti rfl rfl ?_
    exact ⟨rfl, rfl⟩
theorem n0_Mo_search {sc : Option (Nat × Nat × (Nat → Int32))} {sa : Nat → Nat} {d : Nat} {M : mz_M} {z : Nat × Nat} {m : Nat} (w : g_Mo M.2.2 m) {F : Nat → Int32} {A : Nat → Nat → Int32} (h5 : A 1 5 = 0) {a b : Int32} : zx sc sa (d + 5) 275 [.ref m, .int a, .int b] (moF M m F A) z z (some (.int (-2))) (moF M m F A) := by
  refine zxin ym_Mo_search [.ref m, .int a, .int b] rfl rfl rfl rfl ?_
  refine z_aload_n (q := 1) rfl rfl rfl ?_
  refine z_iload_n (q := 2) rfl rfl rfl ?_
  refine z_cv1i (q := 5) rfl rfl rfl (Mo_k w) (n0_Mo_areColours w h5) ?_
  refine z_if_eq (q := 8) rfl rfl (fun h5 => ?_) (fun h5 => ?_)
  · refine z_bipush (q := 22) (v := -2) rfl rfl rfl ?_
    refine z_ireti rfl rfl ?_
    exact ⟨rfl, rfl⟩
  · exact absurd h5 (by decide)
theorem n0_Mo_searchBy {sc : Option (Nat × Nat × (Nat → Int32))} {sa : Nat → Nat} {d : Nat} {M : mz_M} {z : Nat × Nat} {m : Nat} (w : g_Mo M.2.2 m) {F : Nat → Int32} {A : Nat → Nat → Int32} (h5 : A 1 5 = 0) {a b : Int32} : zx sc sa (d + 5) 276 [.ref m, .int a, .int b] (moF M m F A) z z (some (.int (-2))) (moF M m F A) := by
  refine zxin ym_Mo_searchBy [.ref m, .int a, .int b] rfl rfl rfl rfl ?_
  refine z_aload_n (q := 1) rfl rfl rfl ?_
  refine z_iload_n (q := 2) rfl rfl rfl ?_
  refine z_cv1i (q := 5) rfl rfl rfl (Mo_k w) (n0_Mo_areColours w h5) ?_
  refine z_if_eq (q := 8) rfl rfl (fun h5 => ?_) (fun h5 => ?_)
  · refine z_bipush (q := 22) (v := -2) rfl rfl rfl ?_
    refine z_ireti rfl rfl ?_
    exact ⟨rfl, rfl⟩
  · exact absurd h5 (by decide)
theorem n0_Mo_colour {sc : Option (Nat × Nat × (Nat → Int32))} {sa : Nat → Nat} {d : Nat} {M : mz_M} {z : Nat × Nat} {m : Nat} (w : g_Mo M.2.2 m) {F : Nat → Int32} {A : Nat → Nat → Int32} (h5 : A 1 5 = 0) {a b : Int32} : zx sc sa (d + 5) 277 [.ref m, .int a, .int b] (moF M m F A) z z (some (.int (-2))) (moF M m F A) := by
  refine zxin ym_Mo_colour [.ref m, .int a, .int b] rfl rfl rfl rfl ?_
  refine z_aload_n (q := 1) rfl rfl rfl ?_
  refine z_iload_n (q := 2) rfl rfl rfl ?_
  refine z_cv1i (q := 5) rfl rfl rfl (Mo_k w) (n0_Mo_areColours w h5) ?_
  refine z_if_eq (q := 8) rfl rfl (fun h5 => ?_) (fun h5 => ?_)
  · refine z_bipush (q := 18) (v := -2) rfl rfl rfl ?_
    refine z_ireti rfl rfl ?_
    exact ⟨rfl, rfl⟩
  · exact absurd h5 (by decide)
theorem n0_Mo_colours {sc : Option (Nat × Nat × (Nat → Int32))} {sa : Nat → Nat} {d : Nat} {M : mz_M} {z : Nat × Nat} {m : Nat} (w : g_Mo M.2.2 m) {F : Nat → Int32} {A : Nat → Nat → Int32} (h5 : A 1 5 = 0)  : zx sc sa (d + 5) 278 [.ref m] (moF M m F A) z z (some (.int (-2))) (moF M m F A) := by
  refine zxin ym_Mo_colours [.ref m, .retAddr 0] rfl rfl rfl rfl ?_
  refine z_aload_n (q := 1) rfl rfl rfl ?_
  refine z_cv0i (q := 4) rfl rfl rfl (Mo_k w) (n_Mo_is w h5) ?_
  refine z_if_ne (q := 7) rfl rfl (fun h4 => ?_) (fun h4 => ?_)
  · exact absurd h4 (by decide)
  · refine z_bipush (q := 9) (v := -2) rfl rfl rfl ?_
    refine z_ireti rfl rfl ?_
    exact ⟨rfl, rfl⟩
theorem n0_Mo_forward {sc : Option (Nat × Nat × (Nat → Int32))} {sa : Nat → Nat} {d : Nat} {M : mz_M} {z : Nat × Nat} {m : Nat} (w : g_Mo M.2.2 m) {F : Nat → Int32} {A : Nat → Nat → Int32} (h5 : A 1 5 = 0) {a b : Int32} : zx sc sa (d + 5) 285 [.ref m, .int a, .int b] (moF M m F A) z z (some (.int (-2))) (moF M m F A) := by
  refine zxin ym_Mo_forward [.ref m, .int a, .int b] rfl rfl rfl rfl ?_
  refine z_aload_n (q := 1) rfl rfl rfl ?_
  refine z_iload_n (q := 2) rfl rfl rfl ?_
  refine z_cv1i (q := 5) rfl rfl rfl (Mo_k w) (n0_Mo_areColours w h5) ?_
  refine z_if_eq (q := 8) rfl rfl (fun h5 => ?_) (fun h5 => ?_)
  · refine z_bipush (q := 22) (v := -2) rfl rfl rfl ?_
    refine z_ireti rfl rfl ?_
    exact ⟨rfl, rfl⟩
  · exact absurd h5 (by decide)
theorem n0_Mo_forwardBy {sc : Option (Nat × Nat × (Nat → Int32))} {sa : Nat → Nat} {d : Nat} {M : mz_M} {z : Nat × Nat} {m : Nat} (w : g_Mo M.2.2 m) {F : Nat → Int32} {A : Nat → Nat → Int32} (h5 : A 1 5 = 0) {a b : Int32} : zx sc sa (d + 5) 286 [.ref m, .int a, .int b] (moF M m F A) z z (some (.int (-2))) (moF M m F A) := by
  refine zxin ym_Mo_forwardBy [.ref m, .int a, .int b] rfl rfl rfl rfl ?_
  refine z_aload_n (q := 1) rfl rfl rfl ?_
  refine z_iload_n (q := 2) rfl rfl rfl ?_
  refine z_cv1i (q := 5) rfl rfl rfl (Mo_k w) (n0_Mo_areColours w h5) ?_
  refine z_if_eq (q := 8) rfl rfl (fun h5 => ?_) (fun h5 => ?_)
  · refine z_bipush (q := 22) (v := -2) rfl rfl rfl ?_
    refine z_ireti rfl rfl ?_
    exact ⟨rfl, rfl⟩
  · exact absurd h5 (by decide)
theorem n0_Mo_hue {sc : Option (Nat × Nat × (Nat → Int32))} {sa : Nat → Nat} {d : Nat} {M : mz_M} {z : Nat × Nat} {m : Nat} (w : g_Mo M.2.2 m) {F : Nat → Int32} {A : Nat → Nat → Int32} (h5 : A 1 5 = 0) {a b : Int32} : zx sc sa (d + 5) 287 [.ref m, .int a, .int b] (moF M m F A) z z (some (.int (-2))) (moF M m F A) := by
  refine zxin ym_Mo_hue [.ref m, .int a, .int b] rfl rfl rfl rfl ?_
  refine z_aload_n (q := 1) rfl rfl rfl ?_
  refine z_iload_n (q := 2) rfl rfl rfl ?_
  refine z_cv1i (q := 5) rfl rfl rfl (Mo_k w) (n0_Mo_areColours w h5) ?_
  refine z_if_eq (q := 8) rfl rfl (fun h5 => ?_) (fun h5 => ?_)
  · refine z_bipush (q := 18) (v := -2) rfl rfl rfl ?_
    refine z_ireti rfl rfl ?_
    exact ⟨rfl, rfl⟩
  · exact absurd h5 (by decide)
theorem n0_Mo_room {sc : Option (Nat × Nat × (Nat → Int32))} {sa : Nat → Nat} {d : Nat} {M : mz_M} {z : Nat × Nat} {m : Nat} (w : g_Mo M.2.2 m) {F : Nat → Int32} {A : Nat → Nat → Int32} (h5 : A 1 5 = 0) {set : Int64} : zx sc sa (d + 5) 262 [.ref m, .long set] (moF M m F A) z z (some (.int (-2))) (moF M m F A) := by
  refine zxin ym_Mo_room [.ref m, .long set, .retAddr 0, .retAddr 0, .retAddr 0, .retAddr 0, .retAddr 0] rfl rfl rfl rfl ?_
  refine z_aload_n (q := 1) rfl rfl rfl ?_
  refine z_lload_n (q := 2) rfl rfl rfl ?_
  refine z_cv1i (q := 5) rfl rfl rfl (Mo_k w) (n0_Mo_isSet w h5) ?_
  refine z_if_ne (q := 8) rfl rfl (fun h5 => ?_) (fun h5 => ?_)
  · exact absurd h5 (by decide)
  · refine z_bipush (q := 10) (v := -2) rfl rfl rfl ?_
    refine z_ireti rfl rfl ?_
    exact ⟨rfl, rfl⟩
theorem n0_Mo_keeps {sc : Option (Nat × Nat × (Nat → Int32))} {sa : Nat → Nat} {d : Nat} {M : mz_M} {z : Nat × Nat} {m : Nat} (w : g_Mo M.2.2 m) {F : Nat → Int32} {A : Nat → Nat → Int32} (h5 : A 1 5 = 0) {set : Int64} : zx sc sa (d + 5) 261 [.ref m, .long set] (moF M m F A) z z (some (.long (-2))) (moF M m F A) := by
  refine zxin ym_Mo_keeps [.ref m, .long set, .retAddr 0] rfl rfl rfl rfl ?_
  refine z_aload_n (q := 1) rfl rfl rfl ?_
  refine z_lload_n (q := 2) rfl rfl rfl ?_
  refine z_cv1i (q := 5) rfl rfl rfl (Mo_k w) (n0_Mo_isSet w h5) ?_
  refine z_if_eq (q := 8) rfl rfl (fun h5 => ?_) (fun h5 => ?_)
  · refine z_ldc2 (q := 19) (v := -2) rfl rfl rfl ?_
    refine z_lret rfl rfl ?_
    exact ⟨rfl, rfl⟩
  · exact absurd h5 (by decide)
theorem q_Mo_end {sc : Option (Nat × Nat × (Nat → Int32))} {sa : Nat → Nat} {d : Nat} {M : mz_M} {z : Nat × Nat} {m : Nat} (w : g_Mo M.2.2 m) {F : Nat → Int32} {A : Nat → Nat → Int32} {t : Nat} (ht : F 3 = nI t) (h5 : t ≤ 500) {a : Int32} : zi sc sa (d + 2) 173 [.ref m, .int a] (moF M m F A) z (fun x M' => (¬ a < 0 ∧ a ≤ nI t → x = a ∧ M' = moF M m (va_up F 3 a) A) ∧ (¬ (¬ a < 0 ∧ a ≤ nI t) → x = -1 ∧ M' = moF M m F A)) := by
  refine zin ym_Mo_end [.ref m, .int a] rfl rfl rfl rfl ?_
  refine z_iload_n (q := 1) rfl rfl rfl ?_
  refine z_i2l (q := 2) rfl rfl ?_
  refine z_lconst (q := 3) (v := 0) rfl rfl rfl ?_
  refine z_aload_n (q := 4) rfl rfl rfl ?_
  refine z_getI (q := 7) rfl rfl rfl (Mo_k w) ?_
  rw [moF_g3]
  rw [ht]
  refine z_i2l (q := 8) rfl rfl ?_
  refine z_cs3i (q := 11) rfl rfl rfl (t_Mo_inB) ?_
  refine z_if_ne (q := 14) rfl rfl (fun h11 => ?_) (fun h11 => ?_)
  · refine z_aload_n (q := 17) rfl rfl rfl ?_
    refine z_iload_n (q := 18) rfl rfl rfl ?_
    refine z_putI (q := 21) rfl rfl rfl (by decide) rfl rfl (Mo_k w) ?_
    rw [moF_u3]
    refine z_iload_n (q := 22) rfl rfl rfl ?_
    refine z_ireti rfl rfl ?_
    first
      | exact ⟨_, rfl, fun _ => ⟨rfl, rfl⟩, fun h => absurd (bz_n.mp h11) h⟩
      | exact ⟨_, rfl, fun h => absurd h (bz_0.mp h11), fun _ => ⟨rfl, rfl⟩⟩
      | fail "none"
  · refine z_iconst (q := 15) (v := -1) rfl rfl rfl ?_
    refine z_ireti rfl rfl ?_
    first
      | exact ⟨_, rfl, fun _ => ⟨rfl, rfl⟩, fun h => absurd (bz_n.mp h11) h⟩
      | exact ⟨_, rfl, fun h => absurd h (bz_0.mp h11), fun _ => ⟨rfl, rfl⟩⟩
      | fail "none"
theorem s_Mo_fault {sc : Option (Nat × Nat × (Nat → Int32))} {sa : Nat → Nat} {d : Nat} {M : mz_M} {z : Nat × Nat} {m : Nat} (w : g_Mo M.2.2 m) {F : Nat → Int32} {A : Nat → Nat → Int32} {a : Int32} : zx sc sa (d + 1) 216 [.ref m, .int a] (moF M m F A) z z (some (.int (if a = 0 then F 4 else if a = 1 then F 5 else -1))) (moF M m F A) := by
  refine zxin ym_Mo_fault [.ref m, .int a] rfl rfl rfl rfl ?_
  refine z_iload_n (q := 1) rfl rfl rfl ?_
  refine z_if_ne (q := 4) rfl rfl (fun h1 => ?_) (fun h1 => ?_)
  · refine z_iload_n (q := 12) rfl rfl rfl ?_
    refine z_iconst (q := 13) (v := 1) rfl rfl rfl ?_
    refine z_ic_ne (q := 16) rfl rfl (fun h13 => ?_) (fun h13 => ?_)
    · refine z_iconst (q := 24) (v := -1) rfl rfl rfl ?_
      refine z_ireti rfl rfl ?_
      refine ⟨?_, rfl⟩
      first
        | (have hzz : a = 0 := h1
           rw [if_pos hzz])
        | (have hzz : a = 1 := h13
           rw [if_neg h1, if_pos hzz])
        | (have hzz : ¬ a = 1 := h13
           rw [if_neg h1, if_neg hzz])
        | fail "none"
    · refine z_aload_n (q := 17) rfl rfl rfl ?_
      refine z_getI (q := 20) rfl rfl rfl (Mo_k w) ?_
      rw [moF_g5]
      refine z_goto rfl ?_
      refine z_ireti rfl rfl ?_
      refine ⟨?_, rfl⟩
      first
        | (have hzz : a = 0 := h1
           rw [if_pos hzz])
        | (have hzz : a = 1 := h13
           rw [if_neg h1, if_pos hzz])
        | (have hzz : ¬ a = 1 := h13
           rw [if_neg h1, if_neg hzz])
        | fail "none"
  · refine z_aload_n (q := 5) rfl rfl rfl ?_
    refine z_getI (q := 8) rfl rfl rfl (Mo_k w) ?_
    rw [moF_g4]
    refine z_goto rfl ?_
    refine z_ireti rfl rfl ?_
    refine ⟨?_, rfl⟩
    first
      | (have hzz : a = 0 := h1
         rw [if_pos hzz])
      | (have hzz : a = 1 := h13
         rw [if_neg h1, if_pos hzz])
      | (have hzz : ¬ a = 1 := h13
         rw [if_neg h1, if_neg hzz])
      | fail "none"
theorem s_Mo_count0 {sc : Option (Nat × Nat × (Nat → Int32))} {sa : Nat → Nat} {d : Nat} {M : mz_M} {z : Nat × Nat} {m : Nat} (w : g_Mo M.2.2 m) {F : Nat → Int32} {A : Nat → Nat → Int32}  : zx sc sa (d + 1) 219 [.ref m, .int 0] (moF M m F A) z z (some (.int (A 1 0))) (moF M m F A) := by
  refine zxin ym_Mo_count [.ref m, .int 0] rfl rfl rfl rfl ?_
  refine z_iload_n (q := 1) rfl rfl rfl ?_
  refine z_sw rfl ⟨fun h => absurd h (by decide), fun _ _ => ?_⟩
  show zw _ _ _ _ _ _ 52 _ _ _ _
  refine z_aload_n (q := 53) rfl rfl rfl ?_
  refine z_getR (q := 56) rfl rfl rfl (Mo_k w) (Mo_r0 w) ?_
  refine z_iload_n (q := 57) rfl rfl rfl ?_
  refine z_iald (q := 58) rfl rfl (Mo_a0 w) (vp_in_nI (n := 0) (by omega) (by omega)) ?_
  rw [moF_a0]
  try rw [nI_clamp (by omega)]
  refine z_ireti rfl rfl ?_
  exact ⟨rfl, rfl⟩
theorem s_Mo_count1 {sc : Option (Nat × Nat × (Nat → Int32))} {sa : Nat → Nat} {d : Nat} {M : mz_M} {z : Nat × Nat} {m : Nat} (w : g_Mo M.2.2 m) {F : Nat → Int32} {A : Nat → Nat → Int32}  : zx sc sa (d + 1) 219 [.ref m, .int 1] (moF M m F A) z z (some (.int (A 1 1))) (moF M m F A) := by
  refine zxin ym_Mo_count [.ref m, .int 1] rfl rfl rfl rfl ?_
  refine z_iload_n (q := 1) rfl rfl rfl ?_
  refine z_sw rfl ⟨fun h => absurd h (by decide), fun _ _ => ?_⟩
  show zw _ _ _ _ _ _ 52 _ _ _ _
  refine z_aload_n (q := 53) rfl rfl rfl ?_
  refine z_getR (q := 56) rfl rfl rfl (Mo_k w) (Mo_r0 w) ?_
  refine z_iload_n (q := 57) rfl rfl rfl ?_
  refine z_iald (q := 58) rfl rfl (Mo_a0 w) (vp_in_nI (n := 1) (by omega) (by omega)) ?_
  rw [moF_a0]
  try rw [nI_clamp (by omega)]
  refine z_ireti rfl rfl ?_
  exact ⟨rfl, rfl⟩
theorem s_Mo_count2 {sc : Option (Nat × Nat × (Nat → Int32))} {sa : Nat → Nat} {d : Nat} {M : mz_M} {z : Nat × Nat} {m : Nat} (w : g_Mo M.2.2 m) {F : Nat → Int32} {A : Nat → Nat → Int32}  : zx sc sa (d + 1) 219 [.ref m, .int 2] (moF M m F A) z z (some (.int (A 1 2))) (moF M m F A) := by
  refine zxin ym_Mo_count [.ref m, .int 2] rfl rfl rfl rfl ?_
  refine z_iload_n (q := 1) rfl rfl rfl ?_
  refine z_sw rfl ⟨fun h => absurd h (by decide), fun _ _ => ?_⟩
  show zw _ _ _ _ _ _ 52 _ _ _ _
  refine z_aload_n (q := 53) rfl rfl rfl ?_
  refine z_getR (q := 56) rfl rfl rfl (Mo_k w) (Mo_r0 w) ?_
  refine z_iload_n (q := 57) rfl rfl rfl ?_
  refine z_iald (q := 58) rfl rfl (Mo_a0 w) (vp_in_nI (n := 2) (by omega) (by omega)) ?_
  rw [moF_a0]
  try rw [nI_clamp (by omega)]
  refine z_ireti rfl rfl ?_
  exact ⟨rfl, rfl⟩
theorem s_Mo_count4 {sc : Option (Nat × Nat × (Nat → Int32))} {sa : Nat → Nat} {d : Nat} {M : mz_M} {z : Nat × Nat} {m : Nat} (w : g_Mo M.2.2 m) {F : Nat → Int32} {A : Nat → Nat → Int32}  : zx sc sa (d + 1) 219 [.ref m, .int 4] (moF M m F A) z z (some (.int (A 1 3))) (moF M m F A) := by
  refine zxin ym_Mo_count [.ref m, .int 4] rfl rfl rfl rfl ?_
  refine z_iload_n (q := 1) rfl rfl rfl ?_
  refine z_sw rfl ⟨fun h => absurd h (by decide), fun _ _ => ?_⟩
  show zw _ _ _ _ _ _ 78 _ _ _ _
  refine z_aload_n (q := 79) rfl rfl rfl ?_
  refine z_getR (q := 82) rfl rfl rfl (Mo_k w) (Mo_r0 w) ?_
  refine z_iconst (q := 83) (v := 3) rfl rfl rfl ?_
  refine z_iald (q := 84) rfl rfl (Mo_a0 w) (vp_in_nI (n := 3) (by omega) (by omega)) ?_
  rw [moF_a0]
  try rw [nI_clamp (by omega)]
  refine z_ireti rfl rfl ?_
  exact ⟨rfl, rfl⟩
theorem s_Mo_count5 {sc : Option (Nat × Nat × (Nat → Int32))} {sa : Nat → Nat} {d : Nat} {M : mz_M} {z : Nat × Nat} {m : Nat} (w : g_Mo M.2.2 m) {F : Nat → Int32} {A : Nat → Nat → Int32}  : zx sc sa (d + 1) 219 [.ref m, .int 5] (moF M m F A) z z (some (.int (A 1 4))) (moF M m F A) := by
  refine zxin ym_Mo_count [.ref m, .int 5] rfl rfl rfl rfl ?_
  refine z_iload_n (q := 1) rfl rfl rfl ?_
  refine z_sw rfl ⟨fun h => absurd h (by decide), fun _ _ => ?_⟩
  show zw _ _ _ _ _ _ 85 _ _ _ _
  refine z_aload_n (q := 86) rfl rfl rfl ?_
  refine z_getR (q := 89) rfl rfl rfl (Mo_k w) (Mo_r0 w) ?_
  refine z_iconst (q := 90) (v := 4) rfl rfl rfl ?_
  refine z_iald (q := 91) rfl rfl (Mo_a0 w) (vp_in_nI (n := 4) (by omega) (by omega)) ?_
  rw [moF_a0]
  try rw [nI_clamp (by omega)]
  refine z_ireti rfl rfl ?_
  exact ⟨rfl, rfl⟩
theorem s_Mo_count6 {sc : Option (Nat × Nat × (Nat → Int32))} {sa : Nat → Nat} {d : Nat} {M : mz_M} {z : Nat × Nat} {m : Nat} (w : g_Mo M.2.2 m) {F : Nat → Int32} {A : Nat → Nat → Int32}  : zx sc sa (d + 1) 219 [.ref m, .int 6] (moF M m F A) z z (some (.int (A 1 6))) (moF M m F A) := by
  refine zxin ym_Mo_count [.ref m, .int 6] rfl rfl rfl rfl ?_
  refine z_iload_n (q := 1) rfl rfl rfl ?_
  refine z_sw rfl ⟨fun h => absurd h (by decide), fun _ _ => ?_⟩
  show zw _ _ _ _ _ _ 92 _ _ _ _
  refine z_aload_n (q := 93) rfl rfl rfl ?_
  refine z_getR (q := 96) rfl rfl rfl (Mo_k w) (Mo_r0 w) ?_
  refine z_bipush (q := 98) (v := 6) rfl rfl rfl ?_
  refine z_iald (q := 99) rfl rfl (Mo_a0 w) (vp_in_nI (n := 6) (by omega) (by omega)) ?_
  rw [moF_a0]
  try rw [nI_clamp (by omega)]
  refine z_ireti rfl rfl ?_
  exact ⟨rfl, rfl⟩
theorem s_Mo_count7 {sc : Option (Nat × Nat × (Nat → Int32))} {sa : Nat → Nat} {d : Nat} {M : mz_M} {z : Nat × Nat} {m : Nat} (w : g_Mo M.2.2 m) {F : Nat → Int32} {A : Nat → Nat → Int32}  : zx sc sa (d + 1) 219 [.ref m, .int 7] (moF M m F A) z z (some (.int (A 1 5))) (moF M m F A) := by
  refine zxin ym_Mo_count [.ref m, .int 7] rfl rfl rfl rfl ?_
  refine z_iload_n (q := 1) rfl rfl rfl ?_
  refine z_sw rfl ⟨fun h => absurd h (by decide), fun _ _ => ?_⟩
  show zw _ _ _ _ _ _ 100 _ _ _ _
  refine z_aload_n (q := 101) rfl rfl rfl ?_
  refine z_getR (q := 104) rfl rfl rfl (Mo_k w) (Mo_r0 w) ?_
  refine z_iconst (q := 105) (v := 5) rfl rfl rfl ?_
  refine z_iald (q := 106) rfl rfl (Mo_a0 w) (vp_in_nI (n := 5) (by omega) (by omega)) ?_
  rw [moF_a0]
  try rw [nI_clamp (by omega)]
  refine z_ireti rfl rfl ?_
  exact ⟨rfl, rfl⟩
theorem s_Mo_count8 {sc : Option (Nat × Nat × (Nat → Int32))} {sa : Nat → Nat} {d : Nat} {M : mz_M} {z : Nat × Nat} {m : Nat} (w : g_Mo M.2.2 m) {F : Nat → Int32} {A : Nat → Nat → Int32}  : zx sc sa (d + 1) 219 [.ref m, .int 8] (moF M m F A) z z (some (.int (F 3))) (moF M m F A) := by
  refine zxin ym_Mo_count [.ref m, .int 8] rfl rfl rfl rfl ?_
  refine z_iload_n (q := 1) rfl rfl rfl ?_
  refine z_sw rfl ⟨fun h => absurd h (by decide), fun _ _ => ?_⟩
  show zw _ _ _ _ _ _ 107 _ _ _ _
  refine z_aload_n (q := 108) rfl rfl rfl ?_
  refine z_getI (q := 111) rfl rfl rfl (Mo_k w) ?_
  rw [moF_g3]
  refine z_ireti rfl rfl ?_
  exact ⟨rfl, rfl⟩
theorem q_Mo_count3 {sc : Option (Nat × Nat × (Nat → Int32))} {sa : Nat → Nat} {d : Nat} {M : mz_M} {z : Nat × Nat} {m : Nat} (w : g_Mo M.2.2 m) {F : Nat → Int32} {A : Nat → Nat → Int32} {c N D : Nat} {l t : Int32} {K P1 P2 P3 : Nat → Nat} {q : sQ} (hX : mX c N D l t K P1 P2 P3 q A)  : zi sc sa (d + 11) 219 [.ref m, .int 3] (moF M m F A) z (mR M m F A (nI q.1)) := by
  obtain ⟨⟨c1, c2, c3, c4, c5⟩, ⟨k1, k2, k3, k4, ln, k5, k6, k7⟩, hd, hv, he, hI, hV, hn⟩ := id hX
  have b1 := hI.1
  have b2 := hI.2.1
  refine zin ym_Mo_count [.ref m, .int 3] rfl rfl rfl rfl ?_
  refine z_iload_n (q := 1) rfl rfl rfl ?_
  refine z_sw rfl ⟨fun h => absurd h (by decide), fun _ _ => ?_⟩
  show zw _ _ _ _ _ _ 59 _ _ _ _
  refine z_aload_n (q := 60) rfl rfl rfl ?_
  refine z_cv0i (q := 63) rfl rfl rfl (Mo_k w) (s_Mo_is w k7 k5 k6) ?_
  refine z_if_ne (q := 66) rfl rfl (fun h63 => ?_) (fun h63 => ?_)
  · refine z_aload_n (q := 69) rfl rfl rfl ?_
    refine z_cv0qi (q := 72) rfl rfl rfl (Mo_k w) (q_Mo_playsX w hX) (fun x9 M9 h9 => ?_)
    obtain ⟨p9, q9, rfl, FF, AA, rfl, ww⟩ := h9
    refine z_pop (q := 73) rfl rfl rfl ?_
    refine z_aload_n (q := 74) rfl rfl rfl ?_
    refine z_getI (q := 77) rfl rfl rfl (Mo_k w) ?_
    rw [moF_g14]
    refine z_ireti rfl rfl ?_
    exact qz_r ww.1 ⟨FF, AA, rfl, mPe_w ww⟩
  · exact absurd h63 (by decide)
theorem n0_Mo_count3 {sc : Option (Nat × Nat × (Nat → Int32))} {sa : Nat → Nat} {d : Nat} {M : mz_M} {z : Nat × Nat} {m : Nat} (w : g_Mo M.2.2 m) {F : Nat → Int32} {A : Nat → Nat → Int32} (h5 : A 1 5 = 0)  : zx sc sa (d + 2) 219 [.ref m, .int 3] (moF M m F A) z z (some (.int 0)) (moF M m F A) := by
  refine zxin ym_Mo_count [.ref m, .int 3] rfl rfl rfl rfl ?_
  refine z_iload_n (q := 1) rfl rfl rfl ?_
  refine z_sw rfl ⟨fun h => absurd h (by decide), fun _ _ => ?_⟩
  show zw _ _ _ _ _ _ 59 _ _ _ _
  refine z_aload_n (q := 60) rfl rfl rfl ?_
  refine z_cv0i (q := 63) rfl rfl rfl (Mo_k w) (n_Mo_is w h5) ?_
  refine z_if_ne (q := 66) rfl rfl (fun h63 => ?_) (fun h63 => ?_)
  · exact absurd h63 (by decide)
  · refine z_iconst (q := 67) (v := 0) rfl rfl rfl ?_
    refine z_ireti rfl rfl ?_
    exact ⟨rfl, rfl⟩
theorem s_Mo_countN {sc : Option (Nat × Nat × (Nat → Int32))} {sa : Nat → Nat} {d : Nat} {M : mz_M} {z : Nat × Nat} {m : Nat} (w : g_Mo M.2.2 m) {F : Nat → Int32} {A : Nat → Nat → Int32} {a : Int32} (ha : a.toInt < 0 ∨ 8 < a.toInt) : zx sc sa (d + 1) 219 [.ref m, .int a] (moF M m F A) z z (some (.int (-1))) (moF M m F A) := by
  refine zxin ym_Mo_count [.ref m, .int a] rfl rfl rfl rfl ?_
  refine z_iload_n (q := 1) rfl rfl rfl ?_
  refine z_sw rfl ?_
  refine ⟨fun _ => ?_, fun h1 h2 => absurd ha (by omega)⟩
  show zw _ _ _ _ _ _ 112 _ _ _ _
  refine z_iconst (q := 113) (v := -1) rfl rfl rfl ?_
  refine z_ireti rfl rfl ?_
  exact ⟨rfl, rfl⟩
theorem q_Mo_undo {sc : Option (Nat × Nat × (Nat → Int32))} {sa : Nat → Nat} {d : Nat} {M : mz_M} {z : Nat × Nat} {m : Nat} (w : g_Mo M.2.2 m) {F : Nat → Int32} {A : Nat → Nat → Int32} {u D : Nat} (hu6 : A 1 6 = nI u) (k4 : A 1 4 = nI D) {ln : Nat} (k7 : A 1 5 = nI ln) (k5 : 0 < ln) (k6 : ln < 1000) (hu : 0 < u) (hu2 : u ≤ 30) : zi sc sa (d + 2) 288 [.ref m] (moF M m F A) z (mRa M m F A (va_up (va_up (A 1) 6 (nI u - 1)) 4 (nI D - 1)) (nI u - 1)) := by
  refine zin ym_Mo_undo [.ref m] rfl rfl rfl rfl ?_
  refine z_aload_n (q := 1) rfl rfl rfl ?_
  refine z_cv0i (q := 4) rfl rfl rfl (Mo_k w) (s_Mo_is w k7 k5 k6) ?_
  refine z_if_ne (q := 7) rfl rfl (fun h4 => ?_) (fun h4 => ?_)
  · refine z_aload_n (q := 11) rfl rfl rfl ?_
    refine z_getR (q := 14) rfl rfl rfl (Mo_k w) (Mo_r0 w) ?_
    refine z_bipush (q := 16) (v := 6) rfl rfl rfl ?_
    refine z_iald (q := 17) rfl rfl (Mo_a0 w) (vp_in_nI (n := 6) (by omega) (by omega)) ?_
    rw [moF_a0]
    try rw [nI_clamp (by omega)]
    rw [show A 1 (6 : Int32).toNatClampNeg = nI u from hu6]
    refine z_if_ne (q := 20) rfl rfl (fun h17 => ?_) (fun h17 => ?_)
    · refine z_aload_n (q := 24) rfl rfl rfl ?_
      refine z_getR (q := 27) rfl rfl rfl (Mo_k w) (Mo_r0 w) ?_
      refine z_bipush (q := 29) (v := 6) rfl rfl rfl ?_
      refine z_dup2 (q := 30) rfl rfl rfl rfl ?_
      refine z_iald (q := 31) rfl rfl (Mo_a0 w) (vp_in_nI (n := 6) (by omega) (by omega)) ?_
      rw [moF_a0]
      try rw [nI_clamp (by omega)]
      rw [show A 1 (6 : Int32).toNatClampNeg = nI u from hu6]
      refine z_iconst (q := 32) (v := 1) rfl rfl rfl ?_
      refine z_isub (q := 33) rfl rfl ?_
      refine z_iast (q := 34) rfl rfl (Mo_a0 w) (vp_in_nI (n := 6) (by omega) (by omega)) ?_
      rw [moF_w0]
      try rw [nI_clamp (by omega)]
      refine z_aload_n (q := 35) rfl rfl rfl ?_
      refine z_getR (q := 38) rfl rfl rfl (Mo_k w) (Mo_r0 w) ?_
      refine z_iconst (q := 39) (v := 4) rfl rfl rfl ?_
      refine z_dup2 (q := 40) rfl rfl rfl rfl ?_
      refine z_iald (q := 41) rfl rfl (Mo_a0 w) (vp_in_nI (n := 4) (by omega) (by omega)) ?_
      rw [moF_a0]
      try rw [nI_clamp (by omega)]
      rw [show va_up A 1 (va_up (A 1) (6 : Int32).toNatClampNeg (nI u - 1)) 1 (4 : Int32).toNatClampNeg = nI D from k4]
      refine z_iconst (q := 42) (v := 1) rfl rfl rfl ?_
      refine z_isub (q := 43) rfl rfl ?_
      refine z_iast (q := 44) rfl rfl (Mo_a0 w) (vp_in_nI (n := 4) (by omega) (by omega)) ?_
      rw [moF_w0]
      try rw [nI_clamp (by omega)]
      refine z_aload_n (q := 45) rfl rfl rfl ?_
      refine z_getR (q := 48) rfl rfl rfl (Mo_k w) (Mo_r0 w) ?_
      refine z_bipush (q := 50) (v := 6) rfl rfl rfl ?_
      refine z_iald (q := 51) rfl rfl (Mo_a0 w) (vp_in_nI (n := 6) (by omega) (by omega)) ?_
      rw [moF_a0]
      try rw [nI_clamp (by omega)]
      refine z_ireti rfl rfl ?_
      exact qz_r rfl ⟨F, _, rfl, fun _ _ => rfl, rfl, fun j hj => (up_n (by omega)).trans (up_n (by omega))⟩
    · exact absurd h17 (nI_ne0 hu (by omega))
  · exact absurd h4 (by decide)
theorem n_Mo_undo {sc : Option (Nat × Nat × (Nat → Int32))} {sa : Nat → Nat} {d : Nat} {M : mz_M} {z : Nat × Nat} {m : Nat} (w : g_Mo M.2.2 m) {F : Nat → Int32} {A : Nat → Nat → Int32} {u D : Nat} (hu6 : A 1 6 = nI u) (k4 : A 1 4 = nI D) {ln : Nat} (k7 : A 1 5 = nI ln) (k5 : 0 < ln) (k6 : ln < 1000) (hu : u = 0) : zi sc sa (d + 2) 288 [.ref m] (moF M m F A) z (mR M m F A (-5)) := by
  refine zin ym_Mo_undo [.ref m] rfl rfl rfl rfl ?_
  refine z_aload_n (q := 1) rfl rfl rfl ?_
  refine z_cv0i (q := 4) rfl rfl rfl (Mo_k w) (s_Mo_is w k7 k5 k6) ?_
  refine z_if_ne (q := 7) rfl rfl (fun h4 => ?_) (fun h4 => ?_)
  · refine z_aload_n (q := 11) rfl rfl rfl ?_
    refine z_getR (q := 14) rfl rfl rfl (Mo_k w) (Mo_r0 w) ?_
    refine z_bipush (q := 16) (v := 6) rfl rfl rfl ?_
    refine z_iald (q := 17) rfl rfl (Mo_a0 w) (vp_in_nI (n := 6) (by omega) (by omega)) ?_
    rw [moF_a0]
    try rw [nI_clamp (by omega)]
    rw [show A 1 (6 : Int32).toNatClampNeg = nI u from hu6]
    rw [hu]
    refine z_if_ne (q := 20) rfl rfl (fun h17 => ?_) (fun h17 => ?_)
    · exact absurd (by decide) h17
    · refine z_bipush (q := 22) (v := -5) rfl rfl rfl ?_
      refine z_ireti rfl rfl ?_
      exact qz_r rfl ⟨F, A, rfl, mPe_r⟩
  · exact absurd h4 (by decide)
theorem q_Mo_anew {sc : Option (Nat × Nat × (Nat → Int32))} {sa : Nat → Nat} {d : Nat} {M : mz_M} {z : Nat × Nat} {m : Nat} (w : g_Mo M.2.2 m) {F : Nat → Int32} {A : Nat → Nat → Int32} {u D : Nat} (hu6 : A 1 6 = nI u) (k4 : A 1 4 = nI D) {ln : Nat} (k7 : A 1 5 = nI ln) (k5 : 0 < ln) (k6 : ln < 1000)  : zi sc sa (d + 2) 289 [.ref m] (moF M m F A) z (mRa M m F A (va_up (va_up (A 1) 4 (nI D - nI u)) 6 0) (nI u)) := by
  refine zin ym_Mo_anew [.ref m, .retAddr 0] rfl rfl rfl rfl ?_
  refine z_aload_n (q := 1) rfl rfl rfl ?_
  refine z_cv0i (q := 4) rfl rfl rfl (Mo_k w) (s_Mo_is w k7 k5 k6) ?_
  refine z_if_ne (q := 7) rfl rfl (fun h4 => ?_) (fun h4 => ?_)
  · refine z_aload_n (q := 11) rfl rfl rfl ?_
    refine z_getR (q := 14) rfl rfl rfl (Mo_k w) (Mo_r0 w) ?_
    refine z_bipush (q := 16) (v := 6) rfl rfl rfl ?_
    refine z_iald (q := 17) rfl rfl (Mo_a0 w) (vp_in_nI (n := 6) (by omega) (by omega)) ?_
    rw [moF_a0]
    try rw [nI_clamp (by omega)]
    rw [show A 1 (6 : Int32).toNatClampNeg = nI u from hu6]
    refine z_istore_n (q := 18) (L2 := [_, _]) rfl rfl rfl rfl ?_
    refine z_aload_n (q := 19) rfl rfl rfl ?_
    refine z_getR (q := 22) rfl rfl rfl (Mo_k w) (Mo_r0 w) ?_
    refine z_iconst (q := 23) (v := 4) rfl rfl rfl ?_
    refine z_dup2 (q := 24) rfl rfl rfl rfl ?_
    refine z_iald (q := 25) rfl rfl (Mo_a0 w) (vp_in_nI (n := 4) (by omega) (by omega)) ?_
    rw [moF_a0]
    try rw [nI_clamp (by omega)]
    rw [show A 1 (4 : Int32).toNatClampNeg = nI D from k4]
    refine z_iload_n (q := 26) rfl rfl rfl ?_
    refine z_isub (q := 27) rfl rfl ?_
    refine z_iast (q := 28) rfl rfl (Mo_a0 w) (vp_in_nI (n := 4) (by omega) (by omega)) ?_
    rw [moF_w0]
    try rw [nI_clamp (by omega)]
    refine z_aload_n (q := 29) rfl rfl rfl ?_
    refine z_getR (q := 32) rfl rfl rfl (Mo_k w) (Mo_r0 w) ?_
    refine z_bipush (q := 34) (v := 6) rfl rfl rfl ?_
    refine z_iconst (q := 35) (v := 0) rfl rfl rfl ?_
    refine z_iast (q := 36) rfl rfl (Mo_a0 w) (vp_in_nI (n := 6) (by omega) (by omega)) ?_
    rw [moF_w0]
    try rw [nI_clamp (by omega)]
    refine z_iload_n (q := 37) rfl rfl rfl ?_
    refine z_ireti rfl rfl ?_
    exact qz_r rfl ⟨F, _, rfl, fun _ _ => rfl, rfl, fun j hj => (up_n (by omega)).trans (up_n (by omega))⟩
  · exact absurd h4 (by decide)
theorem ix9 {k i : Nat} : (259 : Int32) * nI k + nI i = nI (259 * k + i) := by
  rw [show (259 : Int32) = nI 259 from rfl]
  unfold nI
  rw [← Int32.ofNat_mul, ← Int32.ofNat_add]
theorem l_Mo_image {sc : Option (Nat × Nat × (Nat → Int32))} {sa : Nat → Nat} {d : Nat} {M : mz_M} {z : Nat × Nat} {m : Nat} (w : g_Mo M.2.2 m) {F : Nat → Int32} {A : Nat → Nat → Int32} {v : Nat} (hv : v < 3) {Q : mz_P} (hk : ∀ R, (∀ j, j < 259 → R (259 * v + j) = A 1 j) → (∀ x, (x < 259 * v ∨ 259 * v + 259 ≤ x) → R x = A 13 x) → zw sc sa d ym_Mo_image z Q 55 [.ref m, .int (nI v), .int (nI 259)] [] (moF M m F (va_up A 13 R)) z) : ∀ (k : Nat) (i : Nat) (R : Nat → Int32), i + k = 259 → (∀ j, j < i → R (259 * v + j) = A 1 j) → (∀ x, (x < 259 * v ∨ 259 * v + 259 ≤ x) → R x = A 13 x) → zw sc sa d ym_Mo_image z Q 24 [.ref m, .int (nI v), .int (nI i)] [] (moF M m F (va_up A 13 R)) z := by
  intro k
  induction k with
  | zero =>
    intro i R hi h1 h2
    have e1 : i = 259 := by omega
    subst e1
    refine z_iload_n (q := 25) rfl rfl rfl ?_
    refine z_sipush (q := 28) (v := 259) rfl rfl rfl ?_
    refine z_ic_ge (q := 31) rfl rfl (fun h28 => ?_) (fun h28 => ?_)
    · exact hk R h1 h2
    · exact absurd (show (259 : Int32) ≤ nI 259 from Int32.le_refl _) h28
  | succ k ih =>
    intro i R hi h1 h2
    refine z_iload_n (q := 25) rfl rfl rfl ?_
    refine z_sipush (q := 28) (v := 259) rfl rfl rfl ?_
    refine z_ic_ge (q := 31) rfl rfl (fun h28 => ?_) (fun h28 => ?_)
    · exact absurd h28 (show ¬ nI 259 ≤ nI i from nI_ge (by omega) (by omega))
    · refine z_aload_n (q := 32) rfl rfl rfl ?_
      refine z_getR (q := 35) rfl rfl rfl (Mo_k w) (Mo_r26 w) ?_
      refine z_sipush (q := 38) (v := 259) rfl rfl rfl ?_
      refine z_iload_n (q := 39) rfl rfl rfl ?_
      refine z_imul (q := 40) rfl rfl ?_
      refine z_iload_n (q := 41) rfl rfl rfl ?_
      refine z_iadd (q := 42) rfl rfl ?_
      rw [ix9]
      refine z_aload_n (q := 43) rfl rfl rfl ?_
      refine z_getR (q := 46) rfl rfl rfl (Mo_k w) (Mo_r0 w) ?_
      refine z_iload_n (q := 47) rfl rfl rfl ?_
      refine z_iald (q := 48) rfl rfl (Mo_a0 w) (by first | assumption | exact vp_in_nI (by omega) (by omega)) ?_
      rw [moF_a0]
      try rw [nI_clamp (by omega)]
      refine z_iast (q := 49) rfl rfl (Mo_a26 w) (by first | assumption | exact vp_in_nI (by omega) (by omega)) ?_
      rw [moF_w26]
      try rw [nI_clamp (by omega)]
      refine z_iinc (q := 52) (L2 := [_, _, _]) rfl rfl rfl rfl ?_
      refine z_goto rfl ?_
      rw [show nI i + Int32.ofInt 1 = nI (i + 1) from (nI_succ i).symm]
      rw [show va_up (va_up A 13 R) 13 (va_up (va_up A 13 R 13) (259 * v + i) (va_up A 13 R 1 i)) = va_up A 13 (va_up R (259 * v + i) (A 1 i)) from up_u]
      refine ih (i + 1) _ (by omega) (fun j hj => ?_) (fun x hx => ?_)
      · by_cases e : j = i
        · rw [e, up_s]
        · rw [up_n (by omega)]
          exact h1 j (by omega)
      · rw [up_n (by omega)]
        exact h2 x hx
theorem in3 {v : Nat} (h : v < 3) : ¬ nI v < 0 ∧ nI v ≤ 2 := ⟨nI_pos (by omega), by rw [show (2 : Int32) = nI 2 from rfl]; exact nI_le (by omega) (by omega)⟩
theorem q_Mo_image {sc : Option (Nat × Nat × (Nat → Int32))} {sa : Nat → Nat} {d : Nat} {M : mz_M} {z : Nat × Nat} {m : Nat} (w : g_Mo M.2.2 m) {F : Nat → Int32} {A : Nat → Nat → Int32} {ln : Nat} (k7 : A 1 5 = nI ln) (k5 : 0 < ln) (k6 : ln < 1000) {v : Nat} (hv : v < 3) : zi sc sa (d + 2) 269 [.ref m, .int (nI v)] (moF M m F A) z (fun x M' => x = 0 ∧ ∃ A', M' = moF M m F A' ∧ (∀ j, j < 13 → A' j = A j) ∧ (∀ j, j < 259 → A' 13 (259 * v + j) = A 1 j) ∧ (∀ x, (x < 259 * v ∨ 259 * v + 259 ≤ x) → A' 13 x = A 13 x) ∧ A' 14 = va_up (A 14) v 1) := by
  refine zin ym_Mo_image [.ref m, .int (nI v), .retAddr 0] rfl rfl rfl rfl ?_
  refine z_aload_n (q := 1) rfl rfl rfl ?_
  refine z_cv0i (q := 4) rfl rfl rfl (Mo_k w) (s_Mo_is w k7 k5 k6) ?_
  refine z_if_eq (q := 7) rfl rfl (fun h4 => ?_) (fun h4 => ?_)
  · exact absurd h4 (by decide)
  · refine z_iload_n (q := 8) rfl rfl rfl ?_
    refine z_i2l (q := 9) rfl rfl ?_
    refine z_lconst (q := 10) (v := 0) rfl rfl rfl ?_
    refine z_ldc2 (q := 13) (v := 2) rfl rfl rfl ?_
    refine z_cs3i (q := 16) rfl rfl rfl (t_Mo_inY (hi := 2) (in3 hv)) ?_
    refine z_if_ne (q := 19) rfl rfl (fun h16 => ?_) (fun h16 => ?_)
    · refine z_iconst (q := 23) (v := 0) rfl rfl rfl ?_
      refine z_istore_n (q := 24) (L2 := [_, _, _]) rfl rfl rfl rfl ?_
      refine Eq.mp (congrArg (fun B => zw sc sa (d + 1) ym_Mo_image z _ 24 [.ref m, .int (nI v), .int 0] [] (moF M m F B) z) (up_e (f := A) (k := 13))) ?_
      refine l_Mo_image w hv (fun R hR hR2 => ?_) 259 0 (A 13) rfl (fun j hj => absurd hj (Nat.not_lt_zero _)) (fun x _ => rfl)
      refine z_aload_n (q := 56) rfl rfl rfl ?_
      refine z_getR (q := 59) rfl rfl rfl (Mo_k w) (Mo_r27 w) ?_
      refine z_iload_n (q := 60) rfl rfl rfl ?_
      refine z_iconst (q := 61) (v := 1) rfl rfl rfl ?_
      refine z_zast (q := 62) rfl rfl (Mo_a27 w) (by first | assumption | exact vp_in_nI (by omega) (by omega)) ?_
      rw [moF_w27]
      try rw [nI_clamp (by omega)]
      refine z_iconst (q := 63) (v := 0) rfl rfl rfl ?_
      refine z_ireti rfl rfl ?_
      refine ⟨_, rfl, rfl, _, rfl, fun j hj => (up_n (by omega)).trans (up_n (by omega)), hR, hR2, ?_⟩
      rfl
    · exact absurd h16 (by decide)
theorem n_Mo_image {sc : Option (Nat × Nat × (Nat → Int32))} {sa : Nat → Nat} {d : Nat} {M : mz_M} {z : Nat × Nat} {m : Nat} (w : g_Mo M.2.2 m) {F : Nat → Int32} {A : Nat → Nat → Int32} {ln : Nat} (k7 : A 1 5 = nI ln) (k5 : 0 < ln) (k6 : ln < 1000) {a : Int32} (ha : ¬ (¬ a < 0 ∧ a ≤ 2)) : zi sc sa (d + 2) 269 [.ref m, .int a] (moF M m F A) z (mR M m F A (-2)) := by
  refine zin ym_Mo_image [.ref m, .int a, .retAddr 0] rfl rfl rfl rfl ?_
  refine z_aload_n (q := 1) rfl rfl rfl ?_
  refine z_cv0i (q := 4) rfl rfl rfl (Mo_k w) (s_Mo_is w k7 k5 k6) ?_
  refine z_if_eq (q := 7) rfl rfl (fun h4 => ?_) (fun h4 => ?_)
  · exact absurd h4 (by decide)
  · refine z_iload_n (q := 8) rfl rfl rfl ?_
    refine z_i2l (q := 9) rfl rfl ?_
    refine z_lconst (q := 10) (v := 0) rfl rfl rfl ?_
    refine z_ldc2 (q := 13) (v := 2) rfl rfl rfl ?_
    refine z_cs3i (q := 16) rfl rfl rfl (t_Mo_inN (hi := 2) ha) ?_
    refine z_if_ne (q := 19) rfl rfl (fun h16 => ?_) (fun h16 => ?_)
    · exact absurd h16 (by decide)
    · refine z_bipush (q := 21) (v := -2) rfl rfl rfl ?_
      refine z_ireti rfl rfl ?_
      exact qz_r rfl ⟨F, A, rfl, mPe_r⟩
theorem l_Mo_back {sc : Option (Nat × Nat × (Nat → Int32))} {sa : Nat → Nat} {d : Nat} {M : mz_M} {z : Nat × Nat} {m : Nat} (w : g_Mo M.2.2 m) {F : Nat → Int32} {A : Nat → Nat → Int32} {v : Nat} (hv : v < 3) {Q : mz_P} (hk : ∀ R, (∀ j, j < 259 → R j = A 13 (259 * v + j)) → Q (some (.int 0)) (moF M m F (va_up A 1 R)))  : ∀ (k : Nat) (i : Nat) (R : Nat → Int32), i + k = 259 → (∀ j, j < i → R j = A 13 (259 * v + j)) → zw sc sa d ym_Mo_back z Q 29 [.ref m, .int (nI v), .int (nI i)] [] (moF M m F (va_up A 1 R)) z := by
  intro k
  induction k with
  | zero =>
    intro i R hi h1
    have e1 : i = 259 := by omega
    subst e1
    refine z_iload_n (q := 30) rfl rfl rfl ?_
    refine z_sipush (q := 33) (v := 259) rfl rfl rfl ?_
    refine z_ic_ge (q := 36) rfl rfl (fun h33 => ?_) (fun h33 => ?_)
    · refine z_iconst (q := 61) (v := 0) rfl rfl rfl ?_
      refine z_ireti rfl rfl ?_
      exact hk R h1
    · exact absurd (show (259 : Int32) ≤ nI 259 from Int32.le_refl _) h33
  | succ k ih =>
    intro i R hi h1
    refine z_iload_n (q := 30) rfl rfl rfl ?_
    refine z_sipush (q := 33) (v := 259) rfl rfl rfl ?_
    refine z_ic_ge (q := 36) rfl rfl (fun h33 => ?_) (fun h33 => ?_)
    · exact absurd h33 (show ¬ nI 259 ≤ nI i from nI_ge (by omega) (by omega))
    · refine z_aload_n (q := 37) rfl rfl rfl ?_
      refine z_getR (q := 40) rfl rfl rfl (Mo_k w) (Mo_r0 w) ?_
      refine z_iload_n (q := 41) rfl rfl rfl ?_
      refine z_aload_n (q := 42) rfl rfl rfl ?_
      refine z_getR (q := 45) rfl rfl rfl (Mo_k w) (Mo_r26 w) ?_
      refine z_sipush (q := 48) (v := 259) rfl rfl rfl ?_
      refine z_iload_n (q := 49) rfl rfl rfl ?_
      refine z_imul (q := 50) rfl rfl ?_
      refine z_iload_n (q := 51) rfl rfl rfl ?_
      refine z_iadd (q := 52) rfl rfl ?_
      rw [ix9]
      refine z_iald (q := 53) rfl rfl (Mo_a26 w) (by first | assumption | exact vp_in_nI (by omega) (by omega)) ?_
      rw [moF_a26]
      try rw [nI_clamp (by omega)]
      refine z_iast (q := 54) rfl rfl (Mo_a0 w) (by first | assumption | exact vp_in_nI (by omega) (by omega)) ?_
      rw [moF_w0]
      try rw [nI_clamp (by omega)]
      refine z_iinc (q := 57) (L2 := [_, _, _]) rfl rfl rfl rfl ?_
      refine z_goto rfl ?_
      rw [show nI i + Int32.ofInt 1 = nI (i + 1) from (nI_succ i).symm]
      rw [show va_up (va_up A 1 R) 1 (va_up (va_up A 1 R 1) i (va_up A 1 R 13 (259 * v + i))) = va_up A 1 (va_up R i (A 13 (259 * v + i))) from up_u]
      refine ih (i + 1) _ (by omega) (fun j hj => ?_)
      by_cases e : j = i
      · rw [e, up_s]
      · rw [up_n (by omega)]
        exact h1 j (by omega)
theorem q_Mo_back {sc : Option (Nat × Nat × (Nat → Int32))} {sa : Nat → Nat} {d : Nat} {M : mz_M} {z : Nat × Nat} {m : Nat} (w : g_Mo M.2.2 m) {F : Nat → Int32} {A : Nat → Nat → Int32} {v : Nat} (hv : v < 3) (h14 : ¬ A 14 v = 0) : zi sc sa (d + 2) 270 [.ref m, .int (nI v)] (moF M m F A) z (fun x M' => x = 0 ∧ ∃ R, M' = moF M m F (va_up A 1 R) ∧ ∀ j, j < 259 → R j = A 13 (259 * v + j)) := by
  refine zin ym_Mo_back [.ref m, .int (nI v), .retAddr 0] rfl rfl rfl rfl ?_
  refine z_iload_n (q := 1) rfl rfl rfl ?_
  refine z_i2l (q := 2) rfl rfl ?_
  refine z_lconst (q := 3) (v := 0) rfl rfl rfl ?_
  refine z_ldc2 (q := 6) (v := 2) rfl rfl rfl ?_
  refine z_cs3i (q := 9) rfl rfl rfl (t_Mo_inY (hi := 2) (in3 hv)) ?_
  refine z_if_ne (q := 12) rfl rfl (fun h9 => ?_) (fun h9 => ?_)
  · refine z_aload_n (q := 16) rfl rfl rfl ?_
    refine z_getR (q := 19) rfl rfl rfl (Mo_k w) (Mo_r27 w) ?_
    refine z_iload_n (q := 20) rfl rfl rfl ?_
    refine z_zald (q := 21) rfl rfl (Mo_a27 w) (by first | assumption | exact vp_in_nI (by omega) (by omega)) ?_
    rw [moF_a27]
    try rw [nI_clamp (by omega)]
    refine z_if_ne (q := 24) rfl rfl (fun h21 => ?_) (fun h21 => ?_)
    · refine z_iconst (q := 28) (v := 0) rfl rfl rfl ?_
      refine z_istore_n (q := 29) (L2 := [_, _, _]) rfl rfl rfl rfl ?_
      refine Eq.mp (congrArg (fun B => zw sc sa (d + 1) ym_Mo_back z _ 29 [.ref m, .int (nI v), .int 0] [] (moF M m F B) z) (up_e (f := A) (k := 1))) ?_
      exact l_Mo_back w hv (fun R hR => ⟨_, rfl, rfl, R, rfl, hR⟩) 259 0 (A 1) rfl (fun j hj => absurd hj (Nat.not_lt_zero _))
    · exact absurd h21 h14
  · exact absurd h9 (by decide)
theorem n_Mo_back6 {sc : Option (Nat × Nat × (Nat → Int32))} {sa : Nat → Nat} {d : Nat} {M : mz_M} {z : Nat × Nat} {m : Nat} (w : g_Mo M.2.2 m) {F : Nat → Int32} {A : Nat → Nat → Int32} {v : Nat} (hv : v < 3) (h14 : A 14 v = 0) : zi sc sa (d + 2) 270 [.ref m, .int (nI v)] (moF M m F A) z (mR M m F A (-6)) := by
  refine zin ym_Mo_back [.ref m, .int (nI v), .retAddr 0] rfl rfl rfl rfl ?_
  refine z_iload_n (q := 1) rfl rfl rfl ?_
  refine z_i2l (q := 2) rfl rfl ?_
  refine z_lconst (q := 3) (v := 0) rfl rfl rfl ?_
  refine z_ldc2 (q := 6) (v := 2) rfl rfl rfl ?_
  refine z_cs3i (q := 9) rfl rfl rfl (t_Mo_inY (hi := 2) (in3 hv)) ?_
  refine z_if_ne (q := 12) rfl rfl (fun h9 => ?_) (fun h9 => ?_)
  · refine z_aload_n (q := 16) rfl rfl rfl ?_
    refine z_getR (q := 19) rfl rfl rfl (Mo_k w) (Mo_r27 w) ?_
    refine z_iload_n (q := 20) rfl rfl rfl ?_
    refine z_zald (q := 21) rfl rfl (Mo_a27 w) (by first | assumption | exact vp_in_nI (by omega) (by omega)) ?_
    rw [moF_a27]
    try rw [nI_clamp (by omega)]
    refine z_if_ne (q := 24) rfl rfl (fun h21 => ?_) (fun h21 => ?_)
    · exact absurd h14 h21
    · refine z_bipush (q := 26) (v := -6) rfl rfl rfl ?_
      refine z_ireti rfl rfl ?_
      exact qz_r rfl ⟨F, A, rfl, mPe_r⟩
  · exact absurd h9 (by decide)
theorem n_Mo_back {sc : Option (Nat × Nat × (Nat → Int32))} {sa : Nat → Nat} {d : Nat} {M : mz_M} {z : Nat × Nat} {m : Nat} (w : g_Mo M.2.2 m) {F : Nat → Int32} {A : Nat → Nat → Int32} {a : Int32} (ha : ¬ (¬ a < 0 ∧ a ≤ 2)) : zi sc sa (d + 2) 270 [.ref m, .int a] (moF M m F A) z (mR M m F A (-2)) := by
  refine zin ym_Mo_back [.ref m, .int a, .retAddr 0] rfl rfl rfl rfl ?_
  refine z_iload_n (q := 1) rfl rfl rfl ?_
  refine z_i2l (q := 2) rfl rfl ?_
  refine z_lconst (q := 3) (v := 0) rfl rfl rfl ?_
  refine z_ldc2 (q := 6) (v := 2) rfl rfl rfl ?_
  refine z_cs3i (q := 9) rfl rfl rfl (t_Mo_inN (hi := 2) ha) ?_
  refine z_if_ne (q := 12) rfl rfl (fun h9 => ?_) (fun h9 => ?_)
  · exact absurd h9 (by decide)
  · refine z_bipush (q := 14) (v := -2) rfl rfl rfl ?_
    refine z_ireti rfl rfl ?_
    exact qz_r rfl ⟨F, A, rfl, mPe_r⟩
