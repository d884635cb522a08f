theorem s_X_unlike {sc : Option (Nat × Nat × (Nat → Int32))} {sa : Nat → Nat} {d : Nat} {M : mz_M} {z : Nat × Nat} {x p q : Nat} (w : g_X M.2.2 x p q) {n : Nat} (hn : M.1 (p + 1) 8 = nI n) (hN : n ≤ 40) {c : Nat} (hc : M.1 (p + 1) 5 = nI c) (hC : c ≤ 12) {a b : Int32} : zx sc sa (d + 4) 115 [.ref x, .int a, .int b] M z z (some (.int (if vI n a ∧ vI n b then (fo (fun c acc => if nmI (M.2.1 (p + 2) a.toNatClampNeg) (nI c) = nmI (M.2.1 (p + 2) b.toNatClampNeg) (nI c) then acc else acc + Int32.ofInt 1) 0 c) else -2))) M := by
  refine zxin ym_X_unlike [.ref x, .int a, .int b] rfl rfl rfl rfl ?_
  refine z_aload_n (q := 1) rfl rfl rfl ?_
  refine z_iload_n (q := 2) rfl rfl rfl ?_
  refine z_iload_n (q := 3) rfl rfl rfl ?_
  refine z_cv2i (q := 6) rfl rfl rfl (X_k w) (s_X_hasVersions w hn hN) ?_
  refine z_if_ne (q := 9) rfl rfl (fun h6 => ?_) (fun h6 => ?_)
  · refine z_aload_n (q := 13) rfl rfl rfl ?_
    obtain ⟨j, hj, rfl⟩ := vI_nat (by omega) (bz_n.mp h6).1
    obtain ⟨i, hi, rfl⟩ := vI_nat (by omega) (bz_n.mp h6).2
    refine z_getR (q := 16) rfl rfl rfl (X_k w) (X_r4 w) ?_
    refine z_getR (q := 19) rfl rfl rfl (St_k (X_w4 w)) (St_r0 (X_w4 w)) ?_
    refine z_aload_n (q := 20) rfl rfl rfl ?_
    refine z_getR (q := 23) rfl rfl rfl (X_k w) (X_r4 w) ?_
    refine z_getR (q := 26) rfl rfl rfl (St_k (X_w4 w)) (St_r0 (X_w4 w)) ?_
    refine z_iload_n (q := 27) rfl rfl rfl ?_
    refine z_cv1l (q := 30) rfl rfl rfl (Sh_k (St_w0 (X_w4 w))) (s_Sh_rowOf (St_w0 (X_w4 w)) hn hN (by omega) hj) ?_
    refine z_aload_n (q := 31) rfl rfl rfl ?_
    refine z_getR (q := 34) rfl rfl rfl (X_k w) (X_r4 w) ?_
    refine z_getR (q := 37) rfl rfl rfl (St_k (X_w4 w)) (St_r0 (X_w4 w)) ?_
    refine z_iload_n (q := 38) rfl rfl rfl ?_
    refine z_cv1l (q := 41) rfl rfl rfl (Sh_k (St_w0 (X_w4 w))) (s_Sh_rowOf (St_w0 (X_w4 w)) hn hN (by omega) hi) ?_
    refine z_cv2i (q := 44) rfl rfl rfl (Sh_k (St_w0 (X_w4 w))) (s_Sh_unlikeCells (St_w0 (X_w4 w)) hc hC) ?_
    refine z_ireti rfl rfl ?_
    first
      | (have g0 := bz_n.mp h6
         rw [if_pos g0]
         try rw [nI_clamp (show j < 2 ^ 31 by omega)]
         try rw [nI_clamp (show i < 2 ^ 31 by omega)]
         exact ⟨rfl, rfl⟩)
      | (rw [if_neg (bz_0.mp h6)]
         exact ⟨rfl, rfl⟩)
  · refine z_bipush (q := 11) (v := -2) rfl rfl rfl ?_
    refine z_ireti rfl rfl ?_
    first
      | (have g0 := bz_n.mp h6
         rw [if_pos g0]
         try rw [nI_clamp (show j < 2 ^ 31 by omega)]
         try rw [nI_clamp (show i < 2 ^ 31 by omega)]
         exact ⟨rfl, rfl⟩)
      | (rw [if_neg (bz_0.mp h6)]
         exact ⟨rfl, rfl⟩)
theorem s_X_apart {sc : Option (Nat × Nat × (Nat → Int32))} {sa : Nat → Nat} {d : Nat} {M : mz_M} {z : Nat × Nat} {x p q : Nat} (w : g_X M.2.2 x p q) {n : Nat} (hn : M.1 (p + 1) 8 = nI n) (hN : n ≤ 40) (ho : okm (M.1 (p + 5)) n) (ho2 : okl (M.1 (p + 5)) n) (hmt : ∀ j i, j < n → i < n → mtN (M.1 (p + 5)) (2 * n) j i < n) {a b : Int32} : zx sc sa (d + 4) 118 [.ref x, .int a, .int b] M z z (some (.int (if vI n a ∧ vI n b then nI (dp (M.1 (p + 5)) n (M.1 (p + 5) a.toNatClampNeg)) + nI (dp (M.1 (p + 5)) n (M.1 (p + 5) b.toNatClampNeg)) - 2 * nI (dp (M.1 (p + 5)) n (M.1 (p + 5) (mtN (M.1 (p + 5)) (2 * n) a.toNatClampNeg b.toNatClampNeg))) else -2))) M := by
  refine zxin ym_X_apart [.ref x, .int a, .int b, .retAddr 0] rfl rfl rfl rfl ?_
  refine z_aload_n (q := 1) rfl rfl rfl ?_
  refine z_iload_n (q := 2) rfl rfl rfl ?_
  refine z_iload_n (q := 3) rfl rfl rfl ?_
  refine z_cv2i (q := 6) rfl rfl rfl (X_k w) (s_X_hasVersions w hn hN) ?_
  refine z_if_ne (q := 9) rfl rfl (fun h6 => ?_) (fun h6 => ?_)
  · refine z_aload_n (q := 13) rfl rfl rfl ?_
    obtain ⟨j, hj, rfl⟩ := vI_nat (by omega) (bz_n.mp h6).1
    obtain ⟨i, hi, rfl⟩ := vI_nat (by omega) (bz_n.mp h6).2
    refine z_getR (q := 16) rfl rfl rfl (X_k w) (X_r4 w) ?_
    refine z_getR (q := 19) rfl rfl rfl (St_k (X_w4 w)) (St_r0 (X_w4 w)) ?_
    refine z_iload_n (q := 20) rfl rfl rfl ?_
    refine z_iload_n (q := 21) rfl rfl rfl ?_
    refine z_cv2i (q := 24) rfl rfl rfl (Sh_k (St_w0 (X_w4 w))) (s_Sh_meeting (St_w0 (X_w4 w)) hn hN (by omega) hj hi ho) ?_
    refine z_istore_n (q := 25) (L2 := [_, _, _, _]) rfl rfl rfl rfl ?_
    refine z_aload_n (q := 26) rfl rfl rfl ?_
    refine z_getR (q := 29) rfl rfl rfl (X_k w) (X_r4 w) ?_
    refine z_getR (q := 32) rfl rfl rfl (St_k (X_w4 w)) (St_r0 (X_w4 w)) ?_
    refine z_iload_n (q := 33) rfl rfl rfl ?_
    refine z_cv1i (q := 36) rfl rfl rfl (Sh_k (St_w0 (X_w4 w))) (s_Sh_depthOf (St_w0 (X_w4 w)) hn hN (by omega) hj ho2) ?_
    refine z_aload_n (q := 37) rfl rfl rfl ?_
    refine z_getR (q := 40) rfl rfl rfl (X_k w) (X_r4 w) ?_
    refine z_getR (q := 43) rfl rfl rfl (St_k (X_w4 w)) (St_r0 (X_w4 w)) ?_
    refine z_iload_n (q := 44) rfl rfl rfl ?_
    refine z_cv1i (q := 47) rfl rfl rfl (Sh_k (St_w0 (X_w4 w))) (s_Sh_depthOf (St_w0 (X_w4 w)) hn hN (by omega) hi ho2) ?_
    refine z_iadd (q := 48) rfl rfl ?_
    refine z_iconst (q := 49) (v := 2) rfl rfl rfl ?_
    refine z_aload_n (q := 50) rfl rfl rfl ?_
    refine z_getR (q := 53) rfl rfl rfl (X_k w) (X_r4 w) ?_
    refine z_getR (q := 56) rfl rfl rfl (St_k (X_w4 w)) (St_r0 (X_w4 w)) ?_
    refine z_iload_n (q := 57) rfl rfl rfl ?_
    refine z_cv1i (q := 60) rfl rfl rfl (Sh_k (St_w0 (X_w4 w))) (s_Sh_depthOf (St_w0 (X_w4 w)) hn hN (by omega) (hmt _ _ hj hi) ho2) ?_
    refine z_imul (q := 61) rfl rfl ?_
    refine z_isub (q := 62) rfl rfl ?_
    refine z_ireti rfl rfl ?_
    first
      | (have g0 := bz_n.mp h6
         rw [if_pos g0]
         try rw [nI_clamp (show j < 2 ^ 31 by omega)]
         try rw [nI_clamp (show i < 2 ^ 31 by omega)]
         exact ⟨rfl, rfl⟩)
      | (rw [if_neg (bz_0.mp h6)]
         exact ⟨rfl, rfl⟩)
  · refine z_bipush (q := 11) (v := -2) rfl rfl rfl ?_
    refine z_ireti rfl rfl ?_
    first
      | (have g0 := bz_n.mp h6
         rw [if_pos g0]
         try rw [nI_clamp (show j < 2 ^ 31 by omega)]
         try rw [nI_clamp (show i < 2 ^ 31 by omega)]
         exact ⟨rfl, rfl⟩)
      | (rw [if_neg (bz_0.mp h6)]
         exact ⟨rfl, rfl⟩)
theorem s_X_spent {sc : Option (Nat × Nat × (Nat → Int32))} {sa : Nat → Nat} {d : Nat} {M : mz_M} {z : Nat × Nat} {x p q : Nat} (w : g_X M.2.2 x p q) {D : Nat} (hD : M.1 p 10 = nI D) (h60 : D ≤ 60) {a : Int32} : zx sc sa (d + 2) 136 [.ref x, .int a] M z z (some (.int (if vI D a then M.1 (p + 12) a.toNatClampNeg else -2))) M := by
  refine zxin ym_X_spent [.ref x, .int a] rfl rfl rfl rfl ?_
  refine z_aload_n (q := 1) rfl rfl rfl ?_
  refine z_getR (q := 4) rfl rfl rfl (X_k w) (X_r4 w) ?_
  refine z_iload_n (q := 5) rfl rfl rfl ?_
  refine z_cv1i (q := 8) rfl rfl rfl (St_k (X_w4 w)) (s_St_hasDeed (X_w4 w)) ?_
  refine z_if_eq (q := 11) rfl rfl (fun h8 => ?_) (fun h8 => ?_)
  · refine z_bipush (q := 25) (v := -2) rfl rfl rfl ?_
    refine z_ireti rfl rfl ?_
    first
      | (have g0 : vI D (nI j) := g9
         rw [if_pos g0]
         exact ⟨rfl, rfl⟩)
      | (have g0 := bz_0.mp h8
         rw [hD] at g0
         rw [if_neg g0]
         exact ⟨rfl, rfl⟩)
  · refine z_aload_n (q := 12) rfl rfl rfl ?_
    have g9 := bz_n.mp h8
    rw [hD] at g9
    obtain ⟨j, hj, rfl⟩ := vI_nat (by omega) g9
    refine z_getR (q := 15) rfl rfl rfl (X_k w) (X_r4 w) ?_
    refine z_getR (q := 18) rfl rfl rfl (St_k (X_w4 w)) (St_r6 (X_w4 w)) ?_
    refine z_iload_n (q := 19) rfl rfl rfl ?_
    refine z_iald (q := 20) rfl rfl (St_a6 (X_w4 w)) (by first | assumption | exact vp_in_nI (by omega) (by omega)) ?_
    refine z_goto rfl ?_
    refine z_ireti rfl rfl ?_
    first
      | (have g0 : vI D (nI j) := g9
         rw [if_pos g0]
         exact ⟨rfl, rfl⟩)
      | (have g0 := bz_0.mp h8
         rw [hD] at g0
         rw [if_neg g0]
         exact ⟨rfl, rfl⟩)
theorem s_X_dearest {sc : Option (Nat × Nat × (Nat → Int32))} {sa : Nat → Nat} {d : Nat} {M : mz_M} {z : Nat × Nat} {x p q : Nat} (w : g_X M.2.2 x p q) {c : Nat} (hc : M.1 (p + 1) 5 = nI c) (hC : c ≤ 12) {D : Nat} (hD : M.1 p 10 = nI D) (h60 : D ≤ 60)  : zx sc sa (d + 2) 137 [.ref x] M z z (some (.int (if 0 < c then (fo (ddG (M.1 (p + 12))) (-1, 0) D).1 else -2))) M := by
  refine zxin ym_X_dearest [.ref x] rfl rfl rfl rfl ?_
  refine z_aload_n (q := 1) rfl rfl rfl ?_
  refine z_cv0i (q := 4) rfl rfl rfl (X_k w) (s_X_isThere w hc hC) ?_
  refine z_if_eq (q := 7) rfl rfl (fun h4 => ?_) (fun h4 => ?_)
  · refine z_bipush (q := 19) (v := -2) rfl rfl rfl ?_
    refine z_ireti rfl rfl ?_
    first
      | (have g0 := bz_n.mp h4
         rw [if_pos g0]
         exact ⟨rfl, rfl⟩)
      | (rw [if_neg (bz_0.mp h4)]
         exact ⟨rfl, rfl⟩)
  · refine z_aload_n (q := 8) rfl rfl rfl ?_
    refine z_getR (q := 11) rfl rfl rfl (X_k w) (X_r4 w) ?_
    refine z_cv0i (q := 14) rfl rfl rfl (St_k (X_w4 w)) (s_St_dearestDeed (X_w4 w) hD h60) ?_
    refine z_goto rfl ?_
    refine z_ireti rfl rfl ?_
    first
      | (have g0 := bz_n.mp h4
         rw [if_pos g0]
         exact ⟨rfl, rfl⟩)
      | (rw [if_neg (bz_0.mp h4)]
         exact ⟨rfl, rfl⟩)
theorem s_X_busiest {sc : Option (Nat × Nat × (Nat → Int32))} {sa : Nat → Nat} {d : Nat} {M : mz_M} {z : Nat × Nat} {x p q : Nat} (w : g_X M.2.2 x p q) {n : Nat} (hn : M.1 (p + 1) 8 = nI n) (hN : n ≤ 40) {c : Nat} (hc : M.1 (p + 1) 5 = nI c) (hC : c ≤ 12) (hf : okl (M.1 (p + 3)) n)  : zx sc sa (d + 5) 131 [.ref x] M z z (some (.int (if 0 < c then (fo (mpG (M.1 (p + 3)) n) (-1, 0) n).1 else -2))) M := by
  refine zxin ym_X_busiest [.ref x] rfl rfl rfl rfl ?_
  refine z_aload_n (q := 1) rfl rfl rfl ?_
  refine z_cv0i (q := 4) rfl rfl rfl (X_k w) (s_X_isThere w hc hC) ?_
  refine z_if_eq (q := 7) rfl rfl (fun h4 => ?_) (fun h4 => ?_)
  · refine z_bipush (q := 22) (v := -2) rfl rfl rfl ?_
    refine z_ireti rfl rfl ?_
    first
      | (have g0 := bz_n.mp h4
         rw [if_pos g0]
         exact ⟨rfl, rfl⟩)
      | (rw [if_neg (bz_0.mp h4)]
         exact ⟨rfl, rfl⟩)
  · refine z_aload_n (q := 8) rfl rfl rfl ?_
    refine z_getR (q := 11) rfl rfl rfl (X_k w) (X_r4 w) ?_
    refine z_getR (q := 14) rfl rfl rfl (St_k (X_w4 w)) (St_r0 (X_w4 w)) ?_
    refine z_cv0i (q := 17) rfl rfl rfl (Sh_k (St_w0 (X_w4 w))) (s_Sh_mostPassed (St_w0 (X_w4 w)) hn hN (by omega) hf) ?_
    refine z_goto rfl ?_
    refine z_ireti rfl rfl ?_
    first
      | (have g0 := bz_n.mp h4
         rw [if_pos g0]
         exact ⟨rfl, rfl⟩)
      | (rw [if_neg (bz_0.mp h4)]
         exact ⟨rfl, rfl⟩)
theorem s_X_hasAllOf {sc : Option (Nat × Nat × (Nat → Int32))} {sa : Nat → Nat} {d : Nat} {M : mz_M} {z : Nat × Nat} {x p q : Nat} (w : g_X M.2.2 x p q) {n : Nat} (hn : M.1 (p + 1) 8 = nI n) (hN : n ≤ 40) {c : Nat} (hc : M.1 (p + 1) 5 = nI c) (hC : c ≤ 12) {set : Int64} : zx sc sa (d + 2) 132 [.ref x, .long set] M z z (some (.int (bz (0 < c ∧ lg_cmp (Int64.toUInt64 set >>> ((nI n).toInt64.toUInt64 &&& Int64.toUInt64 63)).toInt64 0 = 0)))) M := by
  refine zxin ym_X_hasAllOf [.ref x, .long set, .retAddr 0] rfl rfl rfl rfl ?_
  refine z_aload_n (q := 1) rfl rfl rfl ?_
  refine z_cv0i (q := 4) rfl rfl rfl (X_k w) (s_X_isThere w hc hC) ?_
  refine z_if_eq (q := 7) rfl rfl (fun h4 => ?_) (fun h4 => ?_)
  · refine z_iconst (q := 29) (v := 0) rfl rfl rfl ?_
    refine z_iretz rfl rfl (rfl) ?_
    refine ⟨?_, rfl⟩
    first
      | (have g1 := bz_0.mp h4
         rw [bz_f (fun h => g1 h.1)])
      | (have g1 := bz_n.mp h4
         first
           | (have g2 : ¬ lg_cmp (Int64.toUInt64 set >>> ((nI n).toInt64.toUInt64 &&& Int64.toUInt64 63)).toInt64 0 = 0 := h21
              rw [bz_f (fun h => g2 h.2)])
           | (have g2 : lg_cmp (Int64.toUInt64 set >>> ((nI n).toInt64.toUInt64 &&& Int64.toUInt64 63)).toInt64 0 = 0 := h21
              rw [bz_t ⟨g1, g2⟩]))
  · refine z_lload_n (q := 8) rfl rfl rfl ?_
    refine z_aload_n (q := 9) rfl rfl rfl ?_
    refine z_getR (q := 12) rfl rfl rfl (X_k w) (X_r4 w) ?_
    refine z_getR (q := 15) rfl rfl rfl (St_k (X_w4 w)) (St_r0 (X_w4 w)) ?_
    refine z_getI (q := 18) rfl rfl rfl (Sh_k (St_w0 (X_w4 w))) ?_
    rw [hn]
    refine z_lushr (q := 19) rfl rfl ?_
    refine z_lconst (q := 20) (v := 0) rfl rfl rfl ?_
    refine z_lcmp (q := 21) rfl rfl ?_
    refine z_if_ne (q := 24) rfl rfl (fun h21 => ?_) (fun h21 => ?_)
    · refine z_iconst (q := 29) (v := 0) rfl rfl rfl ?_
      refine z_iretz rfl rfl (rfl) ?_
      refine ⟨?_, rfl⟩
      first
        | (have g1 := bz_0.mp h4
           rw [bz_f (fun h => g1 h.1)])
        | (have g1 := bz_n.mp h4
           first
             | (have g2 : ¬ lg_cmp (Int64.toUInt64 set >>> ((nI n).toInt64.toUInt64 &&& Int64.toUInt64 63)).toInt64 0 = 0 := h21
                rw [bz_f (fun h => g2 h.2)])
             | (have g2 : lg_cmp (Int64.toUInt64 set >>> ((nI n).toInt64.toUInt64 &&& Int64.toUInt64 63)).toInt64 0 = 0 := h21
                rw [bz_t ⟨g1, g2⟩]))
    · refine z_iconst (q := 25) (v := 1) rfl rfl rfl ?_
      refine z_goto rfl ?_
      refine z_iretz rfl rfl (rfl) ?_
      refine ⟨?_, rfl⟩
      first
        | (have g1 := bz_0.mp h4
           rw [bz_f (fun h => g1 h.1)])
        | (have g1 := bz_n.mp h4
           first
             | (have g2 : ¬ lg_cmp (Int64.toUInt64 set >>> ((nI n).toInt64.toUInt64 &&& Int64.toUInt64 63)).toInt64 0 = 0 := h21
                rw [bz_f (fun h => g2 h.2)])
             | (have g2 : lg_cmp (Int64.toUInt64 set >>> ((nI n).toInt64.toUInt64 &&& Int64.toUInt64 63)).toInt64 0 = 0 := h21
                rw [bz_t ⟨g1, g2⟩]))
theorem s_X_keeps {sc : Option (Nat × Nat × (Nat → Int32))} {sa : Nat → Nat} {d : Nat} {M : mz_M} {z : Nat × Nat} {x p q : Nat} (w : g_X M.2.2 x p q) {n : Nat} (hn : M.1 (p + 1) 8 = nI n) (hN : n ≤ 40) {c : Nat} (hc : M.1 (p + 1) 5 = nI c) (hC : c ≤ 12) (hf : okl (M.1 (p + 3)) n) {set : Int64} : zx sc sa (d + 4) 133 [.ref x, .long set] M z z (some (.long (if 0 < c ∧ lg_cmp (Int64.toUInt64 set >>> ((nI n).toInt64.toUInt64 &&& Int64.toUInt64 63)).toInt64 0 = 0 then (fo (fun v acc => if lg_cmp ((Int64.toUInt64 (set) >>> ((nI v).toInt64.toUInt64 &&& Int64.toUInt64 63)).toInt64 &&& 1) 0 = 0 then acc else acc ||| wbI (M.1 (p + 3)) n (nI v) 0) set n) else -2))) M := by
  refine zxin ym_X_keeps [.ref x, .long set, .retAddr 0] rfl rfl rfl rfl ?_
  refine z_aload_n (q := 1) rfl rfl rfl ?_
  refine z_lload_n (q := 2) rfl rfl rfl ?_
  refine z_cv1i (q := 5) rfl rfl rfl (X_k w) (s_X_hasAllOf w hn hN hc hC) ?_
  refine z_if_eq (q := 8) rfl rfl (fun h5 => ?_) (fun h5 => ?_)
  · refine z_ldc2 (q := 25) (v := -2) rfl rfl rfl ?_
    refine z_lret rfl rfl ?_
    first
      | (have g0 := bz_n.mp h5
         rw [if_pos g0]
         exact ⟨rfl, rfl⟩)
      | (rw [if_neg (bz_0.mp h5)]
         exact ⟨rfl, rfl⟩)
  · refine z_aload_n (q := 9) rfl rfl rfl ?_
    refine z_getR (q := 12) rfl rfl rfl (X_k w) (X_r4 w) ?_
    refine z_getR (q := 15) rfl rfl rfl (St_k (X_w4 w)) (St_r0 (X_w4 w)) ?_
    refine z_lload_n (q := 16) rfl rfl rfl ?_
    refine z_cv1l (q := 19) rfl rfl rfl (Sh_k (St_w0 (X_w4 w))) (s_Sh_withWays (St_w0 (X_w4 w)) hn hN (by omega) hf) ?_
    refine z_goto rfl ?_
    refine z_lret rfl rfl ?_
    first
      | (have g0 := bz_n.mp h5
         rw [if_pos g0]
         exact ⟨rfl, rfl⟩)
      | (rw [if_neg (bz_0.mp h5)]
         exact ⟨rfl, rfl⟩)
theorem s_X_room {sc : Option (Nat × Nat × (Nat → Int32))} {sa : Nat → Nat} {d : Nat} {M : mz_M} {z : Nat × Nat} {x p q : Nat} (w : g_X M.2.2 x p q) {n : Nat} (hn : M.1 (p + 1) 8 = nI n) (hN : n ≤ 40) {c : Nat} (hc : M.1 (p + 1) 5 = nI c) (hC : c ≤ 12) (hf : okl (M.1 (p + 3)) n) {set : Int64} : zx sc sa (d + 4) 134 [.ref x, .long set] M z z (some (.int (if 0 < c ∧ lg_cmp (Int64.toUInt64 set >>> ((nI n).toInt64.toUInt64 &&& Int64.toUInt64 63)).toInt64 0 = 0 then fo (fun v acc => if lg_cmp ((Int64.toUInt64 (fo (fun v acc => if lg_cmp ((Int64.toUInt64 (set) >>> ((nI v).toInt64.toUInt64 &&& Int64.toUInt64 63)).toInt64 &&& 1) 0 = 0 then acc else acc ||| wbI (M.1 (p + 3)) n (nI v) 0) set n) >>> ((nI v).toInt64.toUInt64 &&& Int64.toUInt64 63)).toInt64 &&& 1) 0 = 0 then acc else acc + (if M.1 (p + 3) v = -1 then M.1 (p + 1) 5 else 3)) 0 n else -2))) M := by
  refine zxin ym_X_room [.ref x, .long set, .retAddr 0] rfl rfl rfl rfl ?_
  refine z_aload_n (q := 1) rfl rfl rfl ?_
  refine z_lload_n (q := 2) rfl rfl rfl ?_
  refine z_cv1i (q := 5) rfl rfl rfl (X_k w) (s_X_hasAllOf w hn hN hc hC) ?_
  refine z_if_eq (q := 8) rfl rfl (fun h5 => ?_) (fun h5 => ?_)
  · refine z_bipush (q := 34) (v := -2) rfl rfl rfl ?_
    refine z_ireti rfl rfl ?_
    first
      | (have g0 := bz_n.mp h5
         rw [if_pos g0]
         exact ⟨rfl, rfl⟩)
      | (rw [if_neg (bz_0.mp h5)]
         exact ⟨rfl, rfl⟩)
  · refine z_aload_n (q := 9) rfl rfl rfl ?_
    refine z_getR (q := 12) rfl rfl rfl (X_k w) (X_r4 w) ?_
    refine z_getR (q := 15) rfl rfl rfl (St_k (X_w4 w)) (St_r0 (X_w4 w)) ?_
    refine z_aload_n (q := 16) rfl rfl rfl ?_
    refine z_getR (q := 19) rfl rfl rfl (X_k w) (X_r4 w) ?_
    refine z_getR (q := 22) rfl rfl rfl (St_k (X_w4 w)) (St_r0 (X_w4 w)) ?_
    refine z_lload_n (q := 23) rfl rfl rfl ?_
    refine z_cv1l (q := 26) rfl rfl rfl (Sh_k (St_w0 (X_w4 w))) (s_Sh_withWays (St_w0 (X_w4 w)) hn hN (by omega) hf) ?_
    refine z_cv1i (q := 29) rfl rfl rfl (Sh_k (St_w0 (X_w4 w))) (s_Sh_numbersIn (St_w0 (X_w4 w)) hn hN (by omega)) ?_
    refine z_goto rfl ?_
    refine z_ireti rfl rfl ?_
    first
      | (have g0 := bz_n.mp h5
         rw [if_pos g0]
         exact ⟨rfl, rfl⟩)
      | (rw [if_neg (bz_0.mp h5)]
         exact ⟨rfl, rfl⟩)
theorem s_X_hasActLeft {sc : Option (Nat × Nat × (Nat → Int32))} {sa : Nat → Nat} {d : Nat} {M : mz_M} {z : Nat × Nat} {x p q : Nat} (w : g_X M.2.2 x p q)  : zx sc sa (d + 2) 143 [.ref x] M z z (some (.int (bz (M.1 p 10 - M.1 p 9 < 30)))) M := by
  refine zxin ym_X_hasActLeft [.ref x] rfl rfl rfl rfl ?_
  refine z_aload_n (q := 1) rfl rfl rfl ?_
  refine z_getR (q := 4) rfl rfl rfl (X_k w) (X_r4 w) ?_
  refine z_cv0i (q := 7) rfl rfl rfl (St_k (X_w4 w)) (s_St_acts (X_w4 w)) ?_
  refine z_bipush (q := 9) (v := 30) rfl rfl rfl ?_
  refine z_ic_ge (q := 12) rfl rfl (fun h9 => ?_) (fun h9 => ?_)
  · refine z_iconst (q := 17) (v := 0) rfl rfl rfl ?_
    refine z_iretz rfl rfl (rfl) ?_
    refine ⟨?_, rfl⟩
    first
      | (have g1 : 30 ≤ M.1 p 10 - M.1 p 9 := h9
         rw [bz_f (Int32.not_lt.mpr g1)])
      | (have g1 : ¬ 30 ≤ M.1 p 10 - M.1 p 9 := h9
         rw [bz_t (Int32.not_le.mp g1)])
  · refine z_iconst (q := 13) (v := 1) rfl rfl rfl ?_
    refine z_goto rfl ?_
    refine z_iretz rfl rfl (rfl) ?_
    refine ⟨?_, rfl⟩
    first
      | (have g1 : 30 ≤ M.1 p 10 - M.1 p 9 := h9
         rw [bz_f (Int32.not_lt.mpr g1)])
      | (have g1 : ¬ 30 ≤ M.1 p 10 - M.1 p 9 := h9
         rw [bz_t (Int32.not_le.mp g1)])
theorem s_X_hasRoomFor {sc : Option (Nat × Nat × (Nat → Int32))} {sa : Nat → Nat} {d : Nat} {M : mz_M} {z : Nat × Nat} {x p q : Nat} (w : g_X M.2.2 x p q) {n : Nat} (hn : M.1 (p + 1) 8 = nI n) (hN : n ≤ 40) {k : Nat} (hk : k ≤ 100) : zx sc sa (d + 1) 144 [.ref x, .int (nI k)] M z z (some (.int (bz (n + k ≤ 40)))) M := by
  refine zxin ym_X_hasRoomFor [.ref x, .int (nI k)] rfl rfl rfl rfl ?_
  refine z_aload_n (q := 1) rfl rfl rfl ?_
  refine z_getR (q := 4) rfl rfl rfl (X_k w) (X_r4 w) ?_
  refine z_getR (q := 7) rfl rfl rfl (St_k (X_w4 w)) (St_r0 (X_w4 w)) ?_
  refine z_getI (q := 10) rfl rfl rfl (Sh_k (St_w0 (X_w4 w))) ?_
  rw [hn]
  refine z_iload_n (q := 11) rfl rfl rfl ?_
  refine z_iadd (q := 12) rfl rfl ?_
  rw [nI_add]
  refine z_bipush (q := 14) (v := 40) rfl rfl rfl ?_
  refine z_ic_gt (q := 17) rfl rfl (fun h14 => ?_) (fun h14 => ?_)
  · refine z_iconst (q := 22) (v := 0) rfl rfl rfl ?_
    refine z_iretz rfl rfl (rfl) ?_
    refine ⟨?_, rfl⟩
    rw [show (40 : Int32) = nI 40 from rfl, nI_ltI (by omega) (by omega)] at h14
    first | rw [bz_f (by omega)] | rw [bz_t (by omega)]
  · refine z_iconst (q := 18) (v := 1) rfl rfl rfl ?_
    refine z_goto rfl ?_
    refine z_iretz rfl rfl (rfl) ?_
    refine ⟨?_, rfl⟩
    rw [show (40 : Int32) = nI 40 from rfl, nI_ltI (by omega) (by omega)] at h14
    first | rw [bz_f (by omega)] | rw [bz_t (by omega)]
