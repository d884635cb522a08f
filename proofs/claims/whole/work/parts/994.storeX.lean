theorem oM_g6 {M : mz_M} {tp st : Nat} (hf : tp + 1 < st) {sg : Nat → Int32} {T : Nat} {y : oS} : (oM M tp st sg T y).1 tp 6 = y.2.1.1 := by
  rw [oM_t hf]
  exact taP_g6
theorem oM_g7 {M : mz_M} {tp st : Nat} (hf : tp + 1 < st) {sg : Nat → Int32} {T : Nat} {y : oS} : (oM M tp st sg T y).1 tp 7 = y.2.1.2.1 := by
  rw [oM_t hf]
  exact taP_g7
theorem oM_g8 {M : mz_M} {tp st : Nat} (hf : tp + 1 < st) {sg : Nat → Int32} {T : Nat} {y : oS} : (oM M tp st sg T y).1 tp 8 = y.2.1.2.2.1 := by
  rw [oM_t hf]
  exact taP_g8
theorem oM_g9 {M : mz_M} {tp st : Nat} (hf : tp + 1 < st) {sg : Nat → Int32} {T : Nat} {y : oS} : (oM M tp st sg T y).1 tp 9 = y.2.1.2.2.2 := by
  rw [oM_t hf]
  exact taP_g9
theorem oF_e {sg : Nat → Int32} {T k : Nat} {y : oS} (h : ¬ (y.1.2.2.2.2.1 = 0 ∧ ¬ y.1.1 = 4)) : oF sg T k y = y := by
  cases k with
  | zero => rfl
  | succ k => exact if_neg h
theorem oF_f {sg : Nat → Int32} {T k : Nat} {y : oS} (h : y.1.2.2.2.2.1 = 0 ∧ ¬ y.1.1 = 4) (g : ¬ (oL sg T y).2.2.2.2.2.2.2.2.1 = 0) : oF sg T (k + 1) y = oA y (oL sg T y) := by
  show (if _ then _ else _) = _
  rw [if_pos h, if_neg g]
theorem oF_g {sg : Nat → Int32} {T k : Nat} {y : oS} (h : y.1.2.2.2.2.1 = 0 ∧ ¬ y.1.1 = 4) (g : (oL sg T y).2.2.2.2.2.2.2.2.1 = 0) : oF sg T (k + 1) y = oF sg T k (oT (oA y (oL sg T y))) := by
  show (if _ then _ else _) = _
  rw [if_pos h, if_pos g]
theorem l_X_store {sc : Option (Nat × Nat × (Nat → Int32))} {sa : Nat → Nat} {d : Nat} {M : mz_M} {z : Nat × Nat} {x p r : Nat} (w : g_X M.2.2 x p r) {sg : Nat → Int32} {T : Nat} (hT : T ≤ 500) {B : Nat × Nat} {Q : mz_P} {Y : oS} (hk : ∀ i, zw sc sa (d + 9) ym_X_store B Q 78 [.ref x, .int (nI i)] [] (oM M (x + 1) r sg T Y) z) : ∀ (k : Nat) (i : Nat) (y : oS), i + k = 500 → oV T y → y.2.2.1.2.1 = i → oF sg T k y = Y → zw sc sa (d + 9) ym_X_store B Q 16 [.ref x, .int (nI i)] [] (oM M (x + 1) r sg T y) z := by
  have oMx_g6 : ∀ {y : oS}, (oM M (x + 1) r sg T y).1 (x + 1) 6 = y.2.1.1 := oM_g6 (by have := X_pq w; omega)
  have oMx_g7 : ∀ {y : oS}, (oM M (x + 1) r sg T y).1 (x + 1) 7 = y.2.1.2.1 := oM_g7 (by have := X_pq w; omega)
  have oMx_g8 : ∀ {y : oS}, (oM M (x + 1) r sg T y).1 (x + 1) 8 = y.2.1.2.2.1 := oM_g8 (by have := X_pq w; omega)
  have oMx_g9 : ∀ {y : oS}, (oM M (x + 1) r sg T y).1 (x + 1) 9 = y.2.1.2.2.2 := oM_g9 (by have := X_pq w; omega)
  intro k
  induction k with
  | zero =>
    intro i y hi hV hli hy
    have hY : y = Y := hy
    subst hY
    refine z_iload_n (q := 17) rfl rfl rfl ?_
    refine z_sipush (q := 20) (v := 500) rfl rfl rfl ?_
    refine z_ic_ge (q := 23) rfl rfl (fun h20 => ?_) (fun h20 => ?_)
    · exact hk i
    · exact absurd (nI_le (a := 500) (by omega) (by omega)) h20
  | succ k ih =>
    intro i y hi hV hli hy
    by_cases hc : y.1.2.2.2.2.1 = 0 ∧ ¬ y.1.1 = 4
    · by_cases hg : (oL sg T y).2.2.2.2.2.2.2.2.1 = 0
      · have lv := oV_line hV (by omega) hg
        rw [oF_g hc hg] at hy
        refine z_iload_n (q := 17) rfl rfl rfl ?_
        refine z_sipush (q := 20) (v := 500) rfl rfl rfl ?_
        refine z_ic_ge (q := 23) rfl rfl (fun h20 => ?_) (fun h20 => ?_)
        · exact absurd h20 (nI_ge (b := 500) (by omega) (by omega))
        · refine z_aload_n (q := 24) rfl rfl rfl ?_
          refine z_getR (q := 27) rfl rfl rfl (X_k w) (X_r0 w) ?_
          refine z_aload_n (q := 28) rfl rfl rfl ?_
          refine z_getR (q := 31) rfl rfl rfl (X_k w) (X_r5 w) ?_
          refine z_cv1i (q := 34) rfl rfl rfl (Ta_k (X_w0 w)) (t_takes (X_w0 w) (X_w5 w) (by have := X_pq w; omega) hT (oV_I hV (by omega)) hc.1 hc.2) ?_
          refine z_if_eq (q := 37) rfl rfl (fun h34 => ?_) (fun h34 => ?_)
          · exact absurd h34 (bz_n.mpr hg)
          · refine z_aload_n (q := 38) rfl rfl rfl ?_
            refine z_getR (q := 41) rfl rfl rfl (X_k w) (X_r5 w) ?_
            refine z_aload_n (q := 42) rfl rfl rfl ?_
            refine z_getR (q := 45) rfl rfl rfl (X_k w) (X_r0 w) ?_
            refine z_getI (q := 48) rfl rfl rfl (Ta_k (X_w0 w)) ?_
            rw [oMx_g6]
            refine z_aload_n (q := 49) rfl rfl rfl ?_
            refine z_getR (q := 52) rfl rfl rfl (X_k w) (X_r0 w) ?_
            refine z_getI (q := 55) rfl rfl rfl (Ta_k (X_w0 w)) ?_
            rw [oMx_g7]
            refine z_aload_n (q := 56) rfl rfl rfl ?_
            refine z_getR (q := 59) rfl rfl rfl (X_k w) (X_r0 w) ?_
            refine z_getI (q := 62) rfl rfl rfl (Ta_k (X_w0 w)) ?_
            rw [oMx_g8]
            refine z_aload_n (q := 63) rfl rfl rfl ?_
            refine z_getR (q := 66) rfl rfl rfl (X_k w) (X_r0 w) ?_
            refine z_getI (q := 69) rfl rfl rfl (Ta_k (X_w0 w)) ?_
            rw [oMx_g9]
            refine z_cv4v (q := 72) rfl rfl rfl (St_k (X_w5 w)) (t_tell (X_w5 w) (oV_I hV (by omega)).2.1 (oV_I hV (by omega)).2.2.1 lv.1) ?_
            refine z_iinc (q := 75) (L2 := [_, _]) rfl rfl rfl rfl ?_
            refine z_goto rfl ?_
            rw [show nI i + Int32.ofInt 1 = nI (i + 1) from (nI_succ i).symm]
            exact ih (i + 1) _ (by omega) lv.2.1 (by rw [lv.2.2]; omega) hy
      · rw [oF_f hc hg] at hy
        subst hy
        refine z_iload_n (q := 17) rfl rfl rfl ?_
        refine z_sipush (q := 20) (v := 500) rfl rfl rfl ?_
        refine z_ic_ge (q := 23) rfl rfl (fun h20 => ?_) (fun h20 => ?_)
        · exact absurd h20 (nI_ge (b := 500) (by omega) (by omega))
        · refine z_aload_n (q := 24) rfl rfl rfl ?_
          refine z_getR (q := 27) rfl rfl rfl (X_k w) (X_r0 w) ?_
          refine z_aload_n (q := 28) rfl rfl rfl ?_
          refine z_getR (q := 31) rfl rfl rfl (X_k w) (X_r5 w) ?_
          refine z_cv1i (q := 34) rfl rfl rfl (Ta_k (X_w0 w)) (t_takes (X_w0 w) (X_w5 w) (by have := X_pq w; omega) hT (oV_I hV (by omega)) hc.1 hc.2) ?_
          refine z_if_eq (q := 37) rfl rfl (fun h34 => ?_) (fun h34 => ?_)
          · exact hk i
          · exact absurd (bz_n.mp h34) hg
    · rw [oF_e hc] at hy
      subst hy
      refine z_iload_n (q := 17) rfl rfl rfl ?_
      refine z_sipush (q := 20) (v := 500) rfl rfl rfl ?_
      refine z_ic_ge (q := 23) rfl rfl (fun h20 => ?_) (fun h20 => ?_)
      · exact absurd h20 (nI_ge (b := 500) (by omega) (by omega))
      · refine z_aload_n (q := 24) rfl rfl rfl ?_
        refine z_getR (q := 27) rfl rfl rfl (X_k w) (X_r0 w) ?_
        refine z_aload_n (q := 28) rfl rfl rfl ?_
        refine z_getR (q := 31) rfl rfl rfl (X_k w) (X_r5 w) ?_
        refine z_cv1i (q := 34) rfl rfl rfl (Ta_k (X_w0 w)) (t_takesN (X_w0 w) (X_w5 w) (by have := X_pq w; omega) hT (oV_I hV (by omega)) hc) ?_
        refine z_if_eq (q := 37) rfl rfl (fun h34 => ?_) (fun h34 => ?_)
        · exact hk i
        · exact absurd h34 (by decide)
