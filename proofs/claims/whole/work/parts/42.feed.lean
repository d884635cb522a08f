theorem pu1_le {x c : Int32} {s : (Nat → Int32) × Nat} (h : s.2 ≤ 500) : (pu1 x c s).2 ≤ 500 ∧ s.2 ≤ (pu1 x c s).2 := by
  unfold pu1
  by_cases c1 : s.2 < 500
  · rw [if_pos c1]
    dsimp only
    omega
  · rw [if_neg c1]
    omega
theorem puG_le {x : Int32} {s : (Nat → Int32) × Nat} (h : s.2 ≤ 500) : (puG x s).2 ≤ 500 := (pu1_le (pu1_le (pu1_le (pu1_le h).1).1).1).1
theorem q_X_feed {sc : Option (Nat × Nat × (Nat → Int32))} {sa : Nat → Nat} {d : Nat} {M : mz_M} {z : Nat × Nat} {x p q : Nat} (w : g_X M.2.2 x p q) {sg : Nat → Int32} {e1 e2 e3 e4 e6 e7 e8 e9 e10 e11 : Int32} {t : Nat} (ht : t ≤ 500) (h20 : t + 20 ≤ 500) {a b g k e : Int32} {s1 : Nat → Int32} {t1 : Nat} (g1 : puG a (sg, t) = (s1, t1)) {s2 : Nat → Int32} {t2 : Nat} (g2 : puG b (s1, t1) = (s2, t2)) {s3 : Nat → Int32} {t3 : Nat} (g3 : puG g (s2, t2) = (s3, t3)) {s4 : Nat → Int32} {t4 : Nat} (g4 : puG k (s3, t3) = (s4, t4)) {s5 : Nat → Int32} {t5 : Nat} (g5 : puG e (s4, t4) = (s5, t5))  : zx sc sa (d + 2) 104 [.ref x, .int a, .int b, .int g, .int k, .int e] (taP M (x + 1) sg e1 e2 e3 e4 (nI t) e6 e7 e8 e9 e10 e11) z z (some (.int (nI t5))) (taP M (x + 1) s5 e1 e2 e3 e4 (nI t5) e6 e7 e8 e9 e10 e11) := by
  have u1 : t1 ≤ 500 := by
    have h9 := @puG_le a (sg, t) ht
    rw [g1] at h9
    exact h9
  have u2 : t2 ≤ 500 := by
    have h9 := @puG_le b (s1, t1) u1
    rw [g2] at h9
    exact h9
  have u3 : t3 ≤ 500 := by
    have h9 := @puG_le g (s2, t2) u2
    rw [g3] at h9
    exact h9
  have u4 : t4 ≤ 500 := by
    have h9 := @puG_le k (s3, t3) u3
    rw [g4] at h9
    exact h9
  have u5 : t5 ≤ 500 := by
    have h9 := @puG_le e (s4, t4) u4
    rw [g5] at h9
    exact h9
  refine zxin ym_X_feed [.ref x, .int a, .int b, .int g, .int k, .int e] rfl rfl rfl rfl ?_
  refine z_aload_n (q := 1) rfl rfl rfl ?_
  refine z_getR (q := 4) rfl rfl rfl (X_k w) (X_r0 w) ?_
  refine z_getI (q := 7) rfl rfl rfl (Ta_k (X_w0 w)) ?_
  rw [taP_g5]
  refine z_bipush (q := 9) (v := 20) rfl rfl rfl ?_
  refine z_iadd (q := 10) rfl rfl ?_
  rw [show nI t + (20 : Int32) = nI (t + 20) from nI_add t 20]
  refine z_sipush (q := 13) (v := 500) rfl rfl rfl ?_
  refine z_ic_le (q := 16) rfl rfl (fun h13 => ?_) (fun h13 => ?_)
  · refine z_aload_n (q := 19) rfl rfl rfl ?_
    refine z_getR (q := 22) rfl rfl rfl (X_k w) (X_r0 w) ?_
    refine z_iload_n (q := 23) rfl rfl rfl ?_
    refine z_cv1v (q := 26) rfl rfl rfl (Ta_k (X_w0 w)) (q_Ta_put (X_w0 w) ht g1) ?_
    refine z_aload_n (q := 27) rfl rfl rfl ?_
    refine z_getR (q := 30) rfl rfl rfl (X_k w) (X_r0 w) ?_
    refine z_iload_n (q := 31) rfl rfl rfl ?_
    refine z_cv1v (q := 34) rfl rfl rfl (Ta_k (X_w0 w)) (q_Ta_put (X_w0 w) u1 g2) ?_
    refine z_aload_n (q := 35) rfl rfl rfl ?_
    refine z_getR (q := 38) rfl rfl rfl (X_k w) (X_r0 w) ?_
    refine z_iload_n (q := 39) rfl rfl rfl ?_
    refine z_cv1v (q := 42) rfl rfl rfl (Ta_k (X_w0 w)) (q_Ta_put (X_w0 w) u2 g3) ?_
    refine z_aload_n (q := 43) rfl rfl rfl ?_
    refine z_getR (q := 46) rfl rfl rfl (X_k w) (X_r0 w) ?_
    refine z_iload (q := 48) rfl rfl rfl ?_
    refine z_cv1v (q := 51) rfl rfl rfl (Ta_k (X_w0 w)) (q_Ta_put (X_w0 w) u3 g4) ?_
    refine z_aload_n (q := 52) rfl rfl rfl ?_
    refine z_getR (q := 55) rfl rfl rfl (X_k w) (X_r0 w) ?_
    refine z_iload (q := 57) rfl rfl rfl ?_
    refine z_cv1v (q := 60) rfl rfl rfl (Ta_k (X_w0 w)) (q_Ta_put (X_w0 w) u4 g5) ?_
    refine z_aload_n (q := 61) rfl rfl rfl ?_
    refine z_getR (q := 64) rfl rfl rfl (X_k w) (X_r0 w) ?_
    refine z_getI (q := 67) rfl rfl rfl (Ta_k (X_w0 w)) ?_
    rw [taP_g5]
    refine z_ireti rfl rfl ?_
    exact ⟨rfl, rfl⟩
  · exact absurd (show nI (t + 20) ≤ nI 500 from nI_le h20 (by omega)) h13
theorem n_X_feed {sc : Option (Nat × Nat × (Nat → Int32))} {sa : Nat → Nat} {d : Nat} {M : mz_M} {z : Nat × Nat} {x p q : Nat} (w : g_X M.2.2 x p q) {sg : Nat → Int32} {e1 e2 e3 e4 e6 e7 e8 e9 e10 e11 : Int32} {t : Nat} (ht : t ≤ 500) (h20 : ¬ t + 20 ≤ 500) {a b g k e : Int32} : zx sc sa (d + 2) 104 [.ref x, .int a, .int b, .int g, .int k, .int e] (taP M (x + 1) sg e1 e2 e3 e4 (nI t) e6 e7 e8 e9 e10 e11) z z (some (.int (-1))) (taP M (x + 1) sg e1 e2 e3 e4 (nI t) e6 e7 e8 e9 e10 e11) := by
  refine zxin ym_X_feed [.ref x, .int a, .int b, .int g, .int k, .int e] rfl rfl rfl rfl ?_
  refine z_aload_n (q := 1) rfl rfl rfl ?_
  refine z_getR (q := 4) rfl rfl rfl (X_k w) (X_r0 w) ?_
  refine z_getI (q := 7) rfl rfl rfl (Ta_k (X_w0 w)) ?_
  rw [taP_g5]
  refine z_bipush (q := 9) (v := 20) rfl rfl rfl ?_
  refine z_iadd (q := 10) rfl rfl ?_
  rw [show nI t + (20 : Int32) = nI (t + 20) from nI_add t 20]
  refine z_sipush (q := 13) (v := 500) rfl rfl rfl ?_
  refine z_ic_le (q := 16) rfl rfl (fun h13 => ?_) (fun h13 => ?_)
  · exact absurd (show nI (t + 20) ≤ nI 500 from h13) (nI_ge (by omega) (by omega))
  · refine z_iconst (q := 17) (v := -1) rfl rfl rfl ?_
    refine z_ireti rfl rfl ?_
    exact ⟨rfl, rfl⟩
theorem q_X_end {sc : Option (Nat × Nat × (Nat → Int32))} {sa : Nat → Nat} {d : Nat} {M : mz_M} {z : Nat × Nat} {x p q : Nat} (w : g_X M.2.2 x p q) {sg : Nat → Int32} {e1 e2 e3 e4 e6 e7 e8 e9 e10 e11 : Int32} {t : Nat} (ht : t ≤ 500) {k : Nat} (hk : k ≤ t) : zx sc sa (d + 1) 105 [.ref x, .int (nI k)] (taP M (x + 1) sg e1 e2 e3 e4 (nI t) e6 e7 e8 e9 e10 e11) z z (some (.int (nI k))) (taP M (x + 1) sg e1 e2 e3 e4 (nI k) e6 e7 e8 e9 e10 e11) := by
  refine zxin ym_X_end [.ref x, .int (nI k)] rfl rfl rfl rfl ?_
  refine z_iload_n (q := 1) rfl rfl rfl ?_
  refine z_if_lt (q := 4) rfl rfl (fun h1 => ?_) (fun h1 => ?_)
  · exact absurd h1 (nI_pos (by omega))
  · refine z_iload_n (q := 5) rfl rfl rfl ?_
    refine z_aload_n (q := 6) rfl rfl rfl ?_
    refine z_getR (q := 9) rfl rfl rfl (X_k w) (X_r0 w) ?_
    refine z_getI (q := 12) rfl rfl rfl (Ta_k (X_w0 w)) ?_
    rw [taP_g5]
    refine z_ic_le (q := 15) rfl rfl (fun h12 => ?_) (fun h12 => ?_)
    · refine z_aload_n (q := 18) rfl rfl rfl ?_
      refine z_getR (q := 21) rfl rfl rfl (X_k w) (X_r0 w) ?_
      refine z_iload_n (q := 22) rfl rfl rfl ?_
      refine z_putI (q := 25) rfl rfl rfl (by decide) rfl rfl (Ta_k (X_w0 w)) ?_
      rw [taP_u5]
      refine z_iload_n (q := 26) rfl rfl rfl ?_
      refine z_ireti rfl rfl ?_
      exact ⟨rfl, rfl⟩
    · exact absurd (nI_le hk (by omega)) h12
theorem n_X_end {sc : Option (Nat × Nat × (Nat → Int32))} {sa : Nat → Nat} {d : Nat} {M : mz_M} {z : Nat × Nat} {x p q : Nat} (w : g_X M.2.2 x p q) {sg : Nat → Int32} {e1 e2 e3 e4 e6 e7 e8 e9 e10 e11 : Int32} {t : Nat} (ht : t ≤ 500) {a : Int32} (ha : a < 0 ∨ ¬ a ≤ nI t) : zx sc sa (d + 1) 105 [.ref x, .int a] (taP M (x + 1) sg e1 e2 e3 e4 (nI t) e6 e7 e8 e9 e10 e11) z z (some (.int (-1))) (taP M (x + 1) sg e1 e2 e3 e4 (nI t) e6 e7 e8 e9 e10 e11) := by
  refine zxin ym_X_end [.ref x, .int a] rfl rfl rfl rfl ?_
  refine z_iload_n (q := 1) rfl rfl rfl ?_
  refine z_if_lt (q := 4) rfl rfl (fun h1 => ?_) (fun h1 => ?_)
  · refine z_iconst (q := 16) (v := -1) rfl rfl rfl ?_
    refine z_ireti rfl rfl ?_
    exact ⟨rfl, rfl⟩
  · refine z_iload_n (q := 5) rfl rfl rfl ?_
    refine z_aload_n (q := 6) rfl rfl rfl ?_
    refine z_getR (q := 9) rfl rfl rfl (X_k w) (X_r0 w) ?_
    refine z_getI (q := 12) rfl rfl rfl (Ta_k (X_w0 w)) ?_
    rw [taP_g5]
    refine z_ic_le (q := 15) rfl rfl (fun h12 => ?_) (fun h12 => ?_)
    · exact absurd ha (fun h => h.elim h1 (fun h2 => h2 h12))
    · refine z_iconst (q := 16) (v := -1) rfl rfl rfl ?_
      refine z_ireti rfl rfl ?_
      exact ⟨rfl, rfl⟩
