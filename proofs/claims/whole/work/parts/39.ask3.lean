theorem s_X_merging {sc : Option (Nat × Nat × (Nat → Int32))} {sa : Nat → Nat} {d : Nat} {M : mz_M} {z : Nat × Nat} {x p q : Nat} (w : g_X M.2.2 x p q) {n : Nat} (hn : M.1 (p + 1) 8 = nI n) (hN : n ≤ 40) {m : Nat} (hc : M.1 (p + 1) 5 = nI m) (hC : m ≤ 12) (ho : okm (M.1 (p + 5)) n) {a b c : Int32} : zx sc sa (d + 5) 150 [.ref x, .int a, .int b, .int c] M z z (some (.int (if vI n a ∧ vI n b ∧ ¬ c < 0 ∧ c ≤ 1 then (if c = 1 then (fo (cfG (M.2.1 (p + 2) (mtN (M.1 (p + 5)) (2 * n) a.toNatClampNeg b.toNatClampNeg)) (M.2.1 (p + 2) a.toNatClampNeg) (M.2.1 (p + 2) b.toNatClampNeg)) 0 m) else (fo (fun y acc => if nmI (M.2.1 (p + 2) a.toNatClampNeg) (nI y) = nmI (fo (mgG (M.2.1 (p + 2) (mtN (M.1 (p + 5)) (2 * n) a.toNatClampNeg b.toNatClampNeg)) (M.2.1 (p + 2) a.toNatClampNeg) (M.2.1 (p + 2) b.toNatClampNeg)) (M.2.1 (p + 2) a.toNatClampNeg) m) (nI y) then acc else acc + Int32.ofInt 1) 0 m)) else -2))) M := by
  refine zxin ym_X_merging [.ref x, .int a, .int b, .int c] rfl rfl rfl rfl ?_
  refine z_aload_n (q := 1) rfl rfl rfl ?_
  refine z_iload_n (q := 2) rfl rfl rfl ?_
  refine z_iload_n (q := 3) rfl rfl rfl ?_
  refine z_cv2i (q := 6) rfl rfl rfl (X_k w) (s_X_hasVersions w hn hN) ?_
  refine z_if_eq (q := 9) rfl rfl (fun h6 => ?_) (fun h6 => ?_)
  · refine z_bipush (q := 20) (v := -2) rfl rfl rfl ?_
    refine z_ireti rfl rfl ?_
    first
      | (have g1 : ¬ c ≤ 1 := h15
         rw [if_neg (fun h => g1 h.2.2.2)]
         exact ⟨rfl, rfl⟩)
      | (have g1 : c < 0 := h10
         rw [if_neg (fun h => h.2.2.1 g1)]
         exact ⟨rfl, rfl⟩)
      | (have g1 := bz_0.mp h6
         rw [if_neg (fun h => g1 ⟨h.1, h.2.1⟩)]
         exact ⟨rfl, rfl⟩)
  · refine z_iload_n (q := 10) rfl rfl rfl ?_
    refine z_if_lt (q := 13) rfl rfl (fun h10 => ?_) (fun h10 => ?_)
    · refine z_bipush (q := 20) (v := -2) rfl rfl rfl ?_
      refine z_ireti rfl rfl ?_
      first
        | (have g1 : ¬ c ≤ 1 := h15
           rw [if_neg (fun h => g1 h.2.2.2)]
           exact ⟨rfl, rfl⟩)
        | (have g1 : c < 0 := h10
           rw [if_neg (fun h => h.2.2.1 g1)]
           exact ⟨rfl, rfl⟩)
        | (have g1 := bz_0.mp h6
           rw [if_neg (fun h => g1 ⟨h.1, h.2.1⟩)]
           exact ⟨rfl, rfl⟩)
    · refine z_iload_n (q := 14) rfl rfl rfl ?_
      refine z_iconst (q := 15) (v := 1) rfl rfl rfl ?_
      refine z_ic_le (q := 18) rfl rfl (fun h15 => ?_) (fun h15 => ?_)
      · refine z_iload_n (q := 22) rfl rfl rfl ?_
        obtain ⟨j, hj, rfl⟩ := vI_nat (by omega) (bz_n.mp h6).1
        obtain ⟨i, hi, rfl⟩ := vI_nat (by omega) (bz_n.mp h6).2
        refine z_iconst (q := 23) (v := 1) rfl rfl rfl ?_
        refine z_ic_ne (q := 26) rfl rfl (fun h23 => ?_) (fun h23 => ?_)
        · refine z_aload_n (q := 40) rfl rfl rfl ?_
          refine z_getR (q := 43) rfl rfl rfl (X_k w) (X_r4 w) ?_
          refine z_getR (q := 46) rfl rfl rfl (St_k (X_w4 w)) (St_r0 (X_w4 w)) ?_
          refine z_aload_n (q := 47) rfl rfl rfl ?_
          refine z_getR (q := 50) rfl rfl rfl (X_k w) (X_r4 w) ?_
          refine z_getR (q := 53) rfl rfl rfl (St_k (X_w4 w)) (St_r0 (X_w4 w)) ?_
          refine z_iload_n (q := 54) rfl rfl rfl ?_
          refine z_cv1l (q := 57) rfl rfl rfl (Sh_k (St_w0 (X_w4 w))) (s_Sh_rowOf (St_w0 (X_w4 w)) hn hN (by omega) hj) ?_
          refine z_aload_n (q := 58) rfl rfl rfl ?_
          refine z_getR (q := 61) rfl rfl rfl (X_k w) (X_r4 w) ?_
          refine z_getR (q := 64) rfl rfl rfl (St_k (X_w4 w)) (St_r0 (X_w4 w)) ?_
          refine z_iload_n (q := 65) rfl rfl rfl ?_
          refine z_iload_n (q := 66) rfl rfl rfl ?_
          refine z_cv2l (q := 69) rfl rfl rfl (Sh_k (St_w0 (X_w4 w))) (s_Sh_mergedRow (St_w0 (X_w4 w)) hn hN (by omega) hj hi ho hc hC) ?_
          refine z_cv2i (q := 72) rfl rfl rfl (Sh_k (St_w0 (X_w4 w))) (s_Sh_unlikeCells (St_w0 (X_w4 w)) hc hC) ?_
          refine z_ireti rfl rfl ?_
          have g0 : vI n (nI j) ∧ vI n (nI i) ∧ ¬ c < 0 ∧ c ≤ 1 := ⟨(bz_n.mp h6).1, (bz_n.mp h6).2, h10, h15⟩
          rw [if_pos g0, if_neg h23, nI_clamp (show j < 2 ^ 31 by omega), nI_clamp (show i < 2 ^ 31 by omega)]
          exact ⟨rfl, rfl⟩
        · refine z_aload_n (q := 27) rfl rfl rfl ?_
          refine z_getR (q := 30) rfl rfl rfl (X_k w) (X_r4 w) ?_
          refine z_getR (q := 33) rfl rfl rfl (St_k (X_w4 w)) (St_r0 (X_w4 w)) ?_
          refine z_iload_n (q := 34) rfl rfl rfl ?_
          refine z_iload_n (q := 35) rfl rfl rfl ?_
          refine z_cv2i (q := 38) rfl rfl rfl (Sh_k (St_w0 (X_w4 w))) (s_Sh_conflicts (St_w0 (X_w4 w)) hn hN (by omega) hj hi ho hc hC) ?_
          refine z_ireti rfl rfl ?_
          have g0 : vI n (nI j) ∧ vI n (nI i) ∧ ¬ c < 0 ∧ c ≤ 1 := ⟨(bz_n.mp h6).1, (bz_n.mp h6).2, h10, h15⟩
          rw [if_pos g0, if_pos h23, nI_clamp (show j < 2 ^ 31 by omega), nI_clamp (show i < 2 ^ 31 by omega)]
          exact ⟨rfl, rfl⟩
      · refine z_bipush (q := 20) (v := -2) rfl rfl rfl ?_
        refine z_ireti rfl rfl ?_
        first
          | (have g1 : ¬ c ≤ 1 := h15
             rw [if_neg (fun h => g1 h.2.2.2)]
             exact ⟨rfl, rfl⟩)
          | (have g1 : c < 0 := h10
             rw [if_neg (fun h => h.2.2.1 g1)]
             exact ⟨rfl, rfl⟩)
          | (have g1 := bz_0.mp h6
             rw [if_neg (fun h => g1 ⟨h.1, h.2.1⟩)]
             exact ⟨rfl, rfl⟩)
theorem s_X_patching {sc : Option (Nat × Nat × (Nat → Int32))} {sa : Nat → Nat} {d : Nat} {M : mz_M} {z : Nat × Nat} {x p q : Nat} (w : g_X M.2.2 x p q) {n : Nat} (hn : M.1 (p + 1) 8 = nI n) (hN : n ≤ 40) {m : Nat} (hc : M.1 (p + 1) 5 = nI m) (hC : m ≤ 12) {a b c : Int32} : zx sc sa (d + 4) 153 [.ref x, .int a, .int b, .int c] M z z (some (.int (if vI n a ∧ vI n b ∧ vI n c then (fo (fun y acc => if nmI (M.2.1 (p + 2) c.toNatClampNeg) (nI y) = nmI (fo (paG (M.2.1 (p + 2) a.toNatClampNeg) (M.2.1 (p + 2) b.toNatClampNeg)) (M.2.1 (p + 2) c.toNatClampNeg) m) (nI y) then acc else acc + Int32.ofInt 1) 0 m) else -2))) M := by
  refine zxin ym_X_patching [.ref x, .int a, .int b, .int c] rfl rfl rfl rfl ?_
  refine z_aload_n (q := 1) rfl rfl rfl ?_
  refine z_iload_n (q := 2) rfl rfl rfl ?_
  refine z_iload_n (q := 3) rfl rfl rfl ?_
  refine z_cv2i (q := 6) rfl rfl rfl (X_k w) (s_X_hasVersions w hn hN) ?_
  refine z_if_eq (q := 9) rfl rfl (fun h6 => ?_) (fun h6 => ?_)
  · refine z_bipush (q := 19) (v := -2) rfl rfl rfl ?_
    refine z_ireti rfl rfl ?_
    first
      | (have g1 := bz_0.mp h14
         rw [if_neg (fun h => g1 h.2.2)]
         exact ⟨rfl, rfl⟩)
      | (have g1 := bz_0.mp h6
         rw [if_neg (fun h => g1 ⟨h.1, h.2.1⟩)]
         exact ⟨rfl, rfl⟩)
  · refine z_aload_n (q := 10) rfl rfl rfl ?_
    refine z_iload_n (q := 11) rfl rfl rfl ?_
    refine z_cv1i (q := 14) rfl rfl rfl (X_k w) (s_X_hasVersion w hn hN) ?_
    refine z_if_ne (q := 17) rfl rfl (fun h14 => ?_) (fun h14 => ?_)
    · refine z_aload_n (q := 21) rfl rfl rfl ?_
      obtain ⟨j, hj, rfl⟩ := vI_nat (by omega) (bz_n.mp h6).1
      obtain ⟨i, hi, rfl⟩ := vI_nat (by omega) (bz_n.mp h6).2
      obtain ⟨k, hk, rfl⟩ := vI_nat (by omega) (bz_n.mp h14)
      refine z_getR (q := 24) rfl rfl rfl (X_k w) (X_r4 w) ?_
      refine z_getR (q := 27) rfl rfl rfl (St_k (X_w4 w)) (St_r0 (X_w4 w)) ?_
      refine z_aload_n (q := 28) rfl rfl rfl ?_
      refine z_getR (q := 31) rfl rfl rfl (X_k w) (X_r4 w) ?_
      refine z_getR (q := 34) rfl rfl rfl (St_k (X_w4 w)) (St_r0 (X_w4 w)) ?_
      refine z_iload_n (q := 35) rfl rfl rfl ?_
      refine z_cv1l (q := 38) rfl rfl rfl (Sh_k (St_w0 (X_w4 w))) (s_Sh_rowOf (St_w0 (X_w4 w)) hn hN (by omega) hk) ?_
      refine z_aload_n (q := 39) rfl rfl rfl ?_
      refine z_getR (q := 42) rfl rfl rfl (X_k w) (X_r4 w) ?_
      refine z_getR (q := 45) rfl rfl rfl (St_k (X_w4 w)) (St_r0 (X_w4 w)) ?_
      refine z_iload_n (q := 46) rfl rfl rfl ?_
      refine z_iload_n (q := 47) rfl rfl rfl ?_
      refine z_iload_n (q := 48) rfl rfl rfl ?_
      refine z_cv3l (q := 51) rfl rfl rfl (Sh_k (St_w0 (X_w4 w))) (s_Sh_patchedRow (St_w0 (X_w4 w)) hn hN (by omega) hj hi hk hc hC) ?_
      refine z_cv2i (q := 54) rfl rfl rfl (Sh_k (St_w0 (X_w4 w))) (s_Sh_unlikeCells (St_w0 (X_w4 w)) hc hC) ?_
      refine z_ireti rfl rfl ?_
      have g0 : vI n (nI j) ∧ vI n (nI i) ∧ vI n (nI k) := ⟨(bz_n.mp h6).1, (bz_n.mp h6).2, bz_n.mp h14⟩
      rw [if_pos g0, nI_clamp (show j < 2 ^ 31 by omega), nI_clamp (show i < 2 ^ 31 by omega), nI_clamp (show k < 2 ^ 31 by omega)]
      exact ⟨rfl, rfl⟩
    · refine z_bipush (q := 19) (v := -2) rfl rfl rfl ?_
      refine z_ireti rfl rfl ?_
      first
        | (have g1 := bz_0.mp h14
           rw [if_neg (fun h => g1 h.2.2)]
           exact ⟨rfl, rfl⟩)
        | (have g1 := bz_0.mp h6
           rw [if_neg (fun h => g1 ⟨h.1, h.2.1⟩)]
           exact ⟨rfl, rfl⟩)
theorem s_X_mayColour {sc : Option (Nat × Nat × (Nat → Int32))} {sa : Nat → Nat} {d : Nat} {M : mz_M} {z : Nat × Nat} {x p q : Nat} (w : g_X M.2.2 x p q) {c : Nat} (hc : M.1 (p + 1) 5 = nI c) (hC : c ≤ 12) {a b : Int32} : zx sc sa (d + 2) 155 [.ref x, .int a, .int b] M z z (some (.int (bz (0 < c ∧ ¬ a < 0 ∧ ¬ 2 < a ∧ ¬ b < 1 ∧ ¬ 4 < b)))) M := by
  refine zxin ym_X_mayColour [.ref x, .int a, .int b] rfl rfl rfl rfl ?_
  refine z_aload_n (q := 1) rfl rfl rfl ?_
  refine z_cv0i (q := 4) rfl rfl rfl (X_k w) (s_X_isThere w hc hC) ?_
  refine z_if_eq (q := 7) rfl rfl (fun h4 => ?_) (fun h4 => ?_)
  · refine z_iconst (q := 31) (v := 0) rfl rfl rfl ?_
    refine z_iretz rfl rfl (rfl) ?_
    refine ⟨?_, rfl⟩
    first
      | (have g1 : 4 < b := h23
         rw [bz_f (fun h => h.2.2.2.2 g1)])
      | (have g1 : ¬ 4 < b := h23
         have g0 := bz_n.mp h4
         rw [bz_t ⟨g0, h8, h13, h18, g1⟩])
      | (have g1 : b < 1 := h18
         rw [bz_f (fun h => h.2.2.2.1 g1)])
      | (have g1 : 2 < a := h13
         rw [bz_f (fun h => h.2.2.1 g1)])
      | (have g1 : a < 0 := h8
         rw [bz_f (fun h => h.2.1 g1)])
      | (have g1 := bz_0.mp h4
         rw [bz_f (fun h => g1 h.1)])
  · refine z_iload_n (q := 8) rfl rfl rfl ?_
    refine z_if_lt (q := 11) rfl rfl (fun h8 => ?_) (fun h8 => ?_)
    · refine z_iconst (q := 31) (v := 0) rfl rfl rfl ?_
      refine z_iretz rfl rfl (rfl) ?_
      refine ⟨?_, rfl⟩
      first
        | (have g1 : 4 < b := h23
           rw [bz_f (fun h => h.2.2.2.2 g1)])
        | (have g1 : ¬ 4 < b := h23
           have g0 := bz_n.mp h4
           rw [bz_t ⟨g0, h8, h13, h18, g1⟩])
        | (have g1 : b < 1 := h18
           rw [bz_f (fun h => h.2.2.2.1 g1)])
        | (have g1 : 2 < a := h13
           rw [bz_f (fun h => h.2.2.1 g1)])
        | (have g1 : a < 0 := h8
           rw [bz_f (fun h => h.2.1 g1)])
        | (have g1 := bz_0.mp h4
           rw [bz_f (fun h => g1 h.1)])
    · refine z_iload_n (q := 12) rfl rfl rfl ?_
      refine z_iconst (q := 13) (v := 2) rfl rfl rfl ?_
      refine z_ic_gt (q := 16) rfl rfl (fun h13 => ?_) (fun h13 => ?_)
      · refine z_iconst (q := 31) (v := 0) rfl rfl rfl ?_
        refine z_iretz rfl rfl (rfl) ?_
        refine ⟨?_, rfl⟩
        first
          | (have g1 : 4 < b := h23
             rw [bz_f (fun h => h.2.2.2.2 g1)])
          | (have g1 : ¬ 4 < b := h23
             have g0 := bz_n.mp h4
             rw [bz_t ⟨g0, h8, h13, h18, g1⟩])
          | (have g1 : b < 1 := h18
             rw [bz_f (fun h => h.2.2.2.1 g1)])
          | (have g1 : 2 < a := h13
             rw [bz_f (fun h => h.2.2.1 g1)])
          | (have g1 : a < 0 := h8
             rw [bz_f (fun h => h.2.1 g1)])
          | (have g1 := bz_0.mp h4
             rw [bz_f (fun h => g1 h.1)])
      · refine z_iload_n (q := 17) rfl rfl rfl ?_
        refine z_iconst (q := 18) (v := 1) rfl rfl rfl ?_
        refine z_ic_lt (q := 21) rfl rfl (fun h18 => ?_) (fun h18 => ?_)
        · refine z_iconst (q := 31) (v := 0) rfl rfl rfl ?_
          refine z_iretz rfl rfl (rfl) ?_
          refine ⟨?_, rfl⟩
          first
            | (have g1 : 4 < b := h23
               rw [bz_f (fun h => h.2.2.2.2 g1)])
            | (have g1 : ¬ 4 < b := h23
               have g0 := bz_n.mp h4
               rw [bz_t ⟨g0, h8, h13, h18, g1⟩])
            | (have g1 : b < 1 := h18
               rw [bz_f (fun h => h.2.2.2.1 g1)])
            | (have g1 : 2 < a := h13
               rw [bz_f (fun h => h.2.2.1 g1)])
            | (have g1 : a < 0 := h8
               rw [bz_f (fun h => h.2.1 g1)])
            | (have g1 := bz_0.mp h4
               rw [bz_f (fun h => g1 h.1)])
        · refine z_iload_n (q := 22) rfl rfl rfl ?_
          refine z_iconst (q := 23) (v := 4) rfl rfl rfl ?_
          refine z_ic_gt (q := 26) rfl rfl (fun h23 => ?_) (fun h23 => ?_)
          · refine z_iconst (q := 31) (v := 0) rfl rfl rfl ?_
            refine z_iretz rfl rfl (rfl) ?_
            refine ⟨?_, rfl⟩
            first
              | (have g1 : 4 < b := h23
                 rw [bz_f (fun h => h.2.2.2.2 g1)])
              | (have g1 : ¬ 4 < b := h23
                 have g0 := bz_n.mp h4
                 rw [bz_t ⟨g0, h8, h13, h18, g1⟩])
              | (have g1 : b < 1 := h18
                 rw [bz_f (fun h => h.2.2.2.1 g1)])
              | (have g1 : 2 < a := h13
                 rw [bz_f (fun h => h.2.2.1 g1)])
              | (have g1 : a < 0 := h8
                 rw [bz_f (fun h => h.2.1 g1)])
              | (have g1 := bz_0.mp h4
                 rw [bz_f (fun h => g1 h.1)])
          · refine z_iconst (q := 27) (v := 1) rfl rfl rfl ?_
            refine z_goto rfl ?_
            refine z_iretz rfl rfl (rfl) ?_
            refine ⟨?_, rfl⟩
            first
              | (have g1 : 4 < b := h23
                 rw [bz_f (fun h => h.2.2.2.2 g1)])
              | (have g1 : ¬ 4 < b := h23
                 have g0 := bz_n.mp h4
                 rw [bz_t ⟨g0, h8, h13, h18, g1⟩])
              | (have g1 : b < 1 := h18
                 rw [bz_f (fun h => h.2.2.2.1 g1)])
              | (have g1 : 2 < a := h13
                 rw [bz_f (fun h => h.2.2.1 g1)])
              | (have g1 : a < 0 := h8
                 rw [bz_f (fun h => h.2.1 g1)])
              | (have g1 := bz_0.mp h4
                 rw [bz_f (fun h => g1 h.1)])
theorem s_X_fault {sc : Option (Nat × Nat × (Nat → Int32))} {sa : Nat → Nat} {d : Nat} {M : mz_M} {z : Nat × Nat} {x p q : Nat} (w : g_X M.2.2 x p q) {a : Int32} : zx sc sa (d + 1) 107 [.ref x, .int a] M z z (some (.int (if a = 0 then M.1 (x + 1) 10 else if a = 1 then M.1 (x + 1) 11 else -1))) M := by
  refine zxin ym_X_fault [.ref x, .int a] rfl rfl rfl rfl ?_
  refine z_iload_n (q := 1) rfl rfl rfl ?_
  refine z_if_ne (q := 4) rfl rfl (fun h1 => ?_) (fun h1 => ?_)
  · refine z_iload_n (q := 13) rfl rfl rfl ?_
    refine z_iconst (q := 14) (v := 1) rfl rfl rfl ?_
    refine z_ic_ne (q := 17) rfl rfl (fun h14 => ?_) (fun h14 => ?_)
    · refine z_iconst (q := 28) (v := -1) rfl rfl rfl ?_
      refine z_ireti rfl rfl ?_
      first
        | (have g1 : a = 0 := h1
           rw [if_pos g1]
           exact ⟨rfl, rfl⟩)
        | (have g1 : ¬ a = 0 := h1
           first
             | (have g2 : a = 1 := h14
                rw [if_neg g1, if_pos g2]
                exact ⟨rfl, rfl⟩)
             | (have g2 : ¬ a = 1 := h14
                rw [if_neg g1, if_neg g2]
                exact ⟨rfl, rfl⟩))
    · refine z_aload_n (q := 18) rfl rfl rfl ?_
      refine z_getR (q := 21) rfl rfl rfl (X_k w) (X_r0 w) ?_
      refine z_getI (q := 24) rfl rfl rfl (Ta_k (X_w0 w)) ?_
      refine z_goto rfl ?_
      refine z_ireti rfl rfl ?_
      first
        | (have g1 : a = 0 := h1
           rw [if_pos g1]
           exact ⟨rfl, rfl⟩)
        | (have g1 : ¬ a = 0 := h1
           first
             | (have g2 : a = 1 := h14
                rw [if_neg g1, if_pos g2]
                exact ⟨rfl, rfl⟩)
             | (have g2 : ¬ a = 1 := h14
                rw [if_neg g1, if_neg g2]
                exact ⟨rfl, rfl⟩))
  · refine z_aload_n (q := 5) rfl rfl rfl ?_
    refine z_getR (q := 8) rfl rfl rfl (X_k w) (X_r0 w) ?_
    refine z_getI (q := 11) rfl rfl rfl (Ta_k (X_w0 w)) ?_
    refine z_ireti rfl rfl ?_
    first
      | (have g1 : a = 0 := h1
         rw [if_pos g1]
         exact ⟨rfl, rfl⟩)
      | (have g1 : ¬ a = 0 := h1
         first
           | (have g2 : a = 1 := h14
              rw [if_neg g1, if_pos g2]
              exact ⟨rfl, rfl⟩)
           | (have g2 : ¬ a = 1 := h14
              rw [if_neg g1, if_neg g2]
              exact ⟨rfl, rfl⟩))
theorem s_X_count0 {sc : Option (Nat × Nat × (Nat → Int32))} {sa : Nat → Nat} {d : Nat} {M : mz_M} {z : Nat × Nat} {x p q : Nat} (w : g_X M.2.2 x p q)  : zx sc sa (d + 2) 108 [.ref x, .int 0] M z z (some (.int (M.1 (p + 1) 5))) M := by
  refine zxin ym_X_count [.ref x, .int 0] rfl rfl rfl rfl ?_
  refine z_iload_n (q := 1) rfl rfl rfl ?_
  refine z_sw rfl ⟨fun h => absurd h (by decide), fun _ _ => ?_⟩
  show zw _ _ _ _ _ _ 52 _ _ _ _
  refine z_aload_n (q := 53) rfl rfl rfl ?_
  refine z_getR (q := 56) rfl rfl rfl (X_k w) (X_r4 w) ?_
  refine z_getR (q := 59) rfl rfl rfl (St_k (X_w4 w)) (St_r0 (X_w4 w)) ?_
  refine z_getI (q := 62) rfl rfl rfl (Sh_k (St_w0 (X_w4 w))) ?_
  refine z_ireti rfl rfl ?_
  exact ⟨rfl, rfl⟩
theorem s_X_count1 {sc : Option (Nat × Nat × (Nat → Int32))} {sa : Nat → Nat} {d : Nat} {M : mz_M} {z : Nat × Nat} {x p q : Nat} (w : g_X M.2.2 x p q)  : zx sc sa (d + 2) 108 [.ref x, .int 1] M z z (some (.int (M.1 (p + 1) 6))) M := by
  refine zxin ym_X_count [.ref x, .int 1] rfl rfl rfl rfl ?_
  refine z_iload_n (q := 1) rfl rfl rfl ?_
  refine z_sw rfl ⟨fun h => absurd h (by decide), fun _ _ => ?_⟩
  show zw _ _ _ _ _ _ 63 _ _ _ _
  refine z_aload_n (q := 64) rfl rfl rfl ?_
  refine z_getR (q := 67) rfl rfl rfl (X_k w) (X_r4 w) ?_
  refine z_getR (q := 70) rfl rfl rfl (St_k (X_w4 w)) (St_r0 (X_w4 w)) ?_
  refine z_getI (q := 73) rfl rfl rfl (Sh_k (St_w0 (X_w4 w))) ?_
  refine z_ireti rfl rfl ?_
  exact ⟨rfl, rfl⟩
theorem s_X_count2 {sc : Option (Nat × Nat × (Nat → Int32))} {sa : Nat → Nat} {d : Nat} {M : mz_M} {z : Nat × Nat} {x p q : Nat} (w : g_X M.2.2 x p q)  : zx sc sa (d + 2) 108 [.ref x, .int 2] M z z (some (.int (M.1 (p + 1) 7))) M := by
  refine zxin ym_X_count [.ref x, .int 2] rfl rfl rfl rfl ?_
  refine z_iload_n (q := 1) rfl rfl rfl ?_
  refine z_sw rfl ⟨fun h => absurd h (by decide), fun _ _ => ?_⟩
  show zw _ _ _ _ _ _ 74 _ _ _ _
  refine z_aload_n (q := 75) rfl rfl rfl ?_
  refine z_getR (q := 78) rfl rfl rfl (X_k w) (X_r4 w) ?_
  refine z_getR (q := 81) rfl rfl rfl (St_k (X_w4 w)) (St_r0 (X_w4 w)) ?_
  refine z_getI (q := 84) rfl rfl rfl (Sh_k (St_w0 (X_w4 w))) ?_
  refine z_ireti rfl rfl ?_
  exact ⟨rfl, rfl⟩
theorem s_X_count3 {sc : Option (Nat × Nat × (Nat → Int32))} {sa : Nat → Nat} {d : Nat} {M : mz_M} {z : Nat × Nat} {x p q : Nat} (w : g_X M.2.2 x p q)  : zx sc sa (d + 2) 108 [.ref x, .int 3] M z z (some (.int (M.1 (p + 1) 8))) M := by
  refine zxin ym_X_count [.ref x, .int 3] rfl rfl rfl rfl ?_
  refine z_iload_n (q := 1) rfl rfl rfl ?_
  refine z_sw rfl ⟨fun h => absurd h (by decide), fun _ _ => ?_⟩
  show zw _ _ _ _ _ _ 85 _ _ _ _
  refine z_aload_n (q := 86) rfl rfl rfl ?_
  refine z_getR (q := 89) rfl rfl rfl (X_k w) (X_r4 w) ?_
  refine z_getR (q := 92) rfl rfl rfl (St_k (X_w4 w)) (St_r0 (X_w4 w)) ?_
  refine z_getI (q := 95) rfl rfl rfl (Sh_k (St_w0 (X_w4 w))) ?_
  refine z_ireti rfl rfl ?_
  exact ⟨rfl, rfl⟩
theorem s_X_count4 {sc : Option (Nat × Nat × (Nat → Int32))} {sa : Nat → Nat} {d : Nat} {M : mz_M} {z : Nat × Nat} {x p q : Nat} (w : g_X M.2.2 x p q)  : zx sc sa (d + 2) 108 [.ref x, .int 4] M z z (some (.int (M.1 p 7))) M := by
  refine zxin ym_X_count [.ref x, .int 4] rfl rfl rfl rfl ?_
  refine z_iload_n (q := 1) rfl rfl rfl ?_
  refine z_sw rfl ⟨fun h => absurd h (by decide), fun _ _ => ?_⟩
  show zw _ _ _ _ _ _ 96 _ _ _ _
  refine z_aload_n (q := 97) rfl rfl rfl ?_
  refine z_getR (q := 100) rfl rfl rfl (X_k w) (X_r4 w) ?_
  refine z_getI (q := 103) rfl rfl rfl (St_k (X_w4 w)) ?_
  refine z_ireti rfl rfl ?_
  exact ⟨rfl, rfl⟩
theorem s_X_count5 {sc : Option (Nat × Nat × (Nat → Int32))} {sa : Nat → Nat} {d : Nat} {M : mz_M} {z : Nat × Nat} {x p q : Nat} (w : g_X M.2.2 x p q)  : zx sc sa (d + 2) 108 [.ref x, .int 5] M z z (some (.int (M.1 p 10))) M := by
  refine zxin ym_X_count [.ref x, .int 5] rfl rfl rfl rfl ?_
  refine z_iload_n (q := 1) rfl rfl rfl ?_
  refine z_sw rfl ⟨fun h => absurd h (by decide), fun _ _ => ?_⟩
  show zw _ _ _ _ _ _ 104 _ _ _ _
  refine z_aload_n (q := 105) rfl rfl rfl ?_
  refine z_getR (q := 108) rfl rfl rfl (X_k w) (X_r4 w) ?_
  refine z_getI (q := 111) rfl rfl rfl (St_k (X_w4 w)) ?_
  refine z_ireti rfl rfl ?_
  exact ⟨rfl, rfl⟩
theorem s_X_count6 {sc : Option (Nat × Nat × (Nat → Int32))} {sa : Nat → Nat} {d : Nat} {M : mz_M} {z : Nat × Nat} {x p q : Nat} (w : g_X M.2.2 x p q)  : zx sc sa (d + 2) 108 [.ref x, .int 6] M z z (some (.int (M.1 p 10 - M.1 p 9))) M := by
  refine zxin ym_X_count [.ref x, .int 6] rfl rfl rfl rfl ?_
  refine z_iload_n (q := 1) rfl rfl rfl ?_
  refine z_sw rfl ⟨fun h => absurd h (by decide), fun _ _ => ?_⟩
  show zw _ _ _ _ _ _ 112 _ _ _ _
  refine z_aload_n (q := 113) rfl rfl rfl ?_
  refine z_getR (q := 116) rfl rfl rfl (X_k w) (X_r4 w) ?_
  refine z_cv0i (q := 119) rfl rfl rfl (St_k (X_w4 w)) (s_St_acts (X_w4 w)) ?_
  refine z_ireti rfl rfl ?_
  exact ⟨rfl, rfl⟩
theorem s_X_count7 {sc : Option (Nat × Nat × (Nat → Int32))} {sa : Nat → Nat} {d : Nat} {M : mz_M} {z : Nat × Nat} {x p q : Nat} (w : g_X M.2.2 x p q)  : zx sc sa (d + 2) 108 [.ref x, .int 7] M z z (some (.int (M.1 p 8))) M := by
  refine zxin ym_X_count [.ref x, .int 7] rfl rfl rfl rfl ?_
  refine z_iload_n (q := 1) rfl rfl rfl ?_
  refine z_sw rfl ⟨fun h => absurd h (by decide), fun _ _ => ?_⟩
  show zw _ _ _ _ _ _ 120 _ _ _ _
  refine z_aload_n (q := 121) rfl rfl rfl ?_
  refine z_getR (q := 124) rfl rfl rfl (X_k w) (X_r4 w) ?_
  refine z_getI (q := 127) rfl rfl rfl (St_k (X_w4 w)) ?_
  refine z_ireti rfl rfl ?_
  exact ⟨rfl, rfl⟩
theorem s_X_count8 {sc : Option (Nat × Nat × (Nat → Int32))} {sa : Nat → Nat} {d : Nat} {M : mz_M} {z : Nat × Nat} {x p q : Nat} (w : g_X M.2.2 x p q)  : zx sc sa (d + 2) 108 [.ref x, .int 8] M z z (some (.int (M.1 (x + 1) 5))) M := by
  refine zxin ym_X_count [.ref x, .int 8] rfl rfl rfl rfl ?_
  refine z_iload_n (q := 1) rfl rfl rfl ?_
  refine z_sw rfl ⟨fun h => absurd h (by decide), fun _ _ => ?_⟩
  show zw _ _ _ _ _ _ 128 _ _ _ _
  refine z_aload_n (q := 129) rfl rfl rfl ?_
  refine z_getR (q := 132) rfl rfl rfl (X_k w) (X_r0 w) ?_
  refine z_getI (q := 135) rfl rfl rfl (Ta_k (X_w0 w)) ?_
  refine z_ireti rfl rfl ?_
  exact ⟨rfl, rfl⟩
theorem s_X_countN {sc : Option (Nat × Nat × (Nat → Int32))} {sa : Nat → Nat} {d : Nat} {M : mz_M} {z : Nat × Nat} {x p q : Nat} (w : g_X M.2.2 x p q) {a : Int32} (ha : a.toInt < 0 ∨ 8 < a.toInt) : zx sc sa (d + 2) 108 [.ref x, .int a] M z z (some (.int (-1))) M := by
  refine zxin ym_X_count [.ref x, .int a] rfl rfl rfl rfl ?_
  refine z_iload_n (q := 1) rfl rfl rfl ?_
  refine z_sw rfl ?_
  refine ⟨fun _ => ?_, fun h1 h2 => absurd ha (fun h => h.elim h1 h2)⟩
  show zw _ _ _ _ _ _ 136 _ _ _ _
  refine z_iconst (q := 137) (v := -1) rfl rfl rfl ?_
  refine z_ireti rfl rfl ?_
  exact ⟨rfl, rfl⟩
