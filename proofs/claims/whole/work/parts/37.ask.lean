-- the class's questions
abbrev vI (n : Nat) (v : Int32) : Prop := 0 ≤ v ∧ v < nI n
theorem vI_nat {n : Nat} (hn : n ≤ 200) {v : Int32} (h : vI n v) : ∃ j, j < n ∧ v = nI j := by
  obtain ⟨j, hj, e⟩ := nI_of (Int32.not_lt.mpr h.1)
  refine ⟨j, ?_, e⟩
  have h2 := h.2
  rw [e, nI_ltI hj (by omega)] at h2
  exact h2
theorem s_X_isThere {sc : Option (Nat × Nat × (Nat → Int32))} {sa : Nat → Nat} {d : Nat} {M : mz_M} {z : Nat × Nat} {x p q : Nat} (w : g_X M.2.2 x p q) {c : Nat} (hc : M.1 (p + 1) 5 = nI c) (hC : c ≤ 12)  : zx sc sa (d + 1) 109 [.ref x] M z z (some (.int (bz (0 < c)))) M := by
  refine zxin ym_X_isThere [.ref x] rfl rfl rfl rfl ?_
  refine z_aload_n (q := 1) rfl rfl rfl ?_
  refine z_getR (q := 4) rfl rfl rfl (X_k w) (X_r4 w) ?_
  refine z_getR (q := 7) rfl rfl rfl (St_k (X_w4 w)) (St_r0 (X_w4 w)) ?_
  refine z_getI (q := 10) rfl rfl rfl (Sh_k (St_w0 (X_w4 w))) ?_
  rw [hc]
  refine z_if_le (q := 13) rfl rfl (fun h10 => ?_) (fun h10 => ?_)
  · refine z_iconst (q := 18) (v := 0) rfl rfl rfl ?_
    refine z_iretz rfl rfl (rfl) ?_
    refine ⟨?_, rfl⟩
    unfold bz
    rw [show (0 : Int32) = nI 0 from rfl, nI_leI (by omega) (by omega)] at h10
    first | rw [if_pos (by omega)] | rw [if_neg (by omega)]
  · refine z_iconst (q := 14) (v := 1) rfl rfl rfl ?_
    refine z_goto rfl ?_
    refine z_iretz rfl rfl (rfl) ?_
    refine ⟨?_, rfl⟩
    unfold bz
    rw [show (0 : Int32) = nI 0 from rfl, nI_leI (by omega) (by omega)] at h10
    first | rw [if_pos (by omega)] | rw [if_neg (by omega)]
theorem s_X_hasVersion {sc : Option (Nat × Nat × (Nat → Int32))} {sa : Nat → Nat} {d : Nat} {M : mz_M} {z : Nat × Nat} {x p q : Nat} (w : g_X M.2.2 x p q) {n : Nat} (hn : M.1 (p + 1) 8 = nI n) (hN : n ≤ 40) {a : Int32} : zx sc sa (d + 2) 110 [.ref x, .int a] M z z (some (.int (bz (vI n a)))) M := by
  refine zxin ym_X_hasVersion [.ref x, .int a] rfl rfl rfl rfl ?_
  refine z_aload_n (q := 1) rfl rfl rfl ?_
  refine z_getR (q := 4) rfl rfl rfl (X_k w) (X_r4 w) ?_
  refine z_getR (q := 7) rfl rfl rfl (St_k (X_w4 w)) (St_r0 (X_w4 w)) ?_
  refine z_iload_n (q := 8) rfl rfl rfl ?_
  refine z_cv1i (q := 11) rfl rfl rfl (Sh_k (St_w0 (X_w4 w))) (s_Sh_has (St_w0 (X_w4 w))) ?_
  refine z_iretz rfl rfl (by unfold bz; split <;> rfl) ?_
  rw [hn]
  exact ⟨rfl, rfl⟩
theorem s_X_hasVersions {sc : Option (Nat × Nat × (Nat → Int32))} {sa : Nat → Nat} {d : Nat} {M : mz_M} {z : Nat × Nat} {x p q : Nat} (w : g_X M.2.2 x p q) {n : Nat} (hn : M.1 (p + 1) 8 = nI n) (hN : n ≤ 40) {a b : Int32} : zx sc sa (d + 2) 111 [.ref x, .int a, .int b] M z z (some (.int (bz (vI n a ∧ vI n b)))) M := by
  refine zxin ym_X_hasVersions [.ref x, .int a, .int b] rfl rfl rfl rfl ?_
  refine z_aload_n (q := 1) rfl rfl rfl ?_
  refine z_getR (q := 4) rfl rfl rfl (X_k w) (X_r4 w) ?_
  refine z_getR (q := 7) rfl rfl rfl (St_k (X_w4 w)) (St_r0 (X_w4 w)) ?_
  refine z_iload_n (q := 8) rfl rfl rfl ?_
  refine z_cv1i (q := 11) rfl rfl rfl (Sh_k (St_w0 (X_w4 w))) (s_Sh_has (St_w0 (X_w4 w))) ?_
  refine z_if_eq (q := 14) rfl rfl (fun h11 => ?_) (fun h11 => ?_)
  · refine z_iconst (q := 33) (v := 0) rfl rfl rfl ?_
    refine z_iretz rfl rfl (rfl) ?_
    refine ⟨?_, rfl⟩
    first
      | (have g1 := bz_n.mp h11
         have g2 := bz_n.mp h25
         rw [hn] at g1
         rw [hn] at g2
         unfold bz
         rw [if_pos ⟨g1, g2⟩])
      | (have g2 := bz_0.mp h25
         rw [hn] at g2
         unfold bz
         rw [if_neg (fun h => g2 h.2)])
      | (have g1 := bz_0.mp h11
         rw [hn] at g1
         unfold bz
         rw [if_neg (fun h => g1 h.1)])
  · refine z_aload_n (q := 15) rfl rfl rfl ?_
    refine z_getR (q := 18) rfl rfl rfl (X_k w) (X_r4 w) ?_
    refine z_getR (q := 21) rfl rfl rfl (St_k (X_w4 w)) (St_r0 (X_w4 w)) ?_
    refine z_iload_n (q := 22) rfl rfl rfl ?_
    refine z_cv1i (q := 25) rfl rfl rfl (Sh_k (St_w0 (X_w4 w))) (s_Sh_has (St_w0 (X_w4 w))) ?_
    refine z_if_eq (q := 28) rfl rfl (fun h25 => ?_) (fun h25 => ?_)
    · refine z_iconst (q := 33) (v := 0) rfl rfl rfl ?_
      refine z_iretz rfl rfl (rfl) ?_
      refine ⟨?_, rfl⟩
      first
        | (have g1 := bz_n.mp h11
           have g2 := bz_n.mp h25
           rw [hn] at g1
           rw [hn] at g2
           unfold bz
           rw [if_pos ⟨g1, g2⟩])
        | (have g2 := bz_0.mp h25
           rw [hn] at g2
           unfold bz
           rw [if_neg (fun h => g2 h.2)])
        | (have g1 := bz_0.mp h11
           rw [hn] at g1
           unfold bz
           rw [if_neg (fun h => g1 h.1)])
    · refine z_iconst (q := 29) (v := 1) rfl rfl rfl ?_
      refine z_goto rfl ?_
      refine z_iretz rfl rfl (rfl) ?_
      refine ⟨?_, rfl⟩
      first
        | (have g1 := bz_n.mp h11
           have g2 := bz_n.mp h25
           rw [hn] at g1
           rw [hn] at g2
           unfold bz
           rw [if_pos ⟨g1, g2⟩])
        | (have g2 := bz_0.mp h25
           rw [hn] at g2
           unfold bz
           rw [if_neg (fun h => g2 h.2)])
        | (have g1 := bz_0.mp h11
           rw [hn] at g1
           unfold bz
           rw [if_neg (fun h => g1 h.1)])
theorem s_X_hasSpot {sc : Option (Nat × Nat × (Nat → Int32))} {sa : Nat → Nat} {d : Nat} {M : mz_M} {z : Nat × Nat} {x p q : Nat} (w : g_X M.2.2 x p q) {n : Nat} (hn : M.1 (p + 1) 8 = nI n) (hN : n ≤ 40) {c : Nat} (hc : M.1 (p + 1) 5 = nI c) (hC : c ≤ 12) {a b : Int32} : zx sc sa (d + 2) 112 [.ref x, .int a, .int b] M z z (some (.int (bz (vI n a ∧ vI c b)))) M := by
  refine zxin ym_X_hasSpot [.ref x, .int a, .int b] rfl rfl rfl rfl ?_
  refine z_aload_n (q := 1) rfl rfl rfl ?_
  refine z_getR (q := 4) rfl rfl rfl (X_k w) (X_r4 w) ?_
  refine z_getR (q := 7) rfl rfl rfl (St_k (X_w4 w)) (St_r0 (X_w4 w)) ?_
  refine z_iload_n (q := 8) rfl rfl rfl ?_
  refine z_cv1i (q := 11) rfl rfl rfl (Sh_k (St_w0 (X_w4 w))) (s_Sh_has (St_w0 (X_w4 w))) ?_
  refine z_if_eq (q := 14) rfl rfl (fun h11 => ?_) (fun h11 => ?_)
  · refine z_iconst (q := 33) (v := 0) rfl rfl rfl ?_
    refine z_iretz rfl rfl (rfl) ?_
    refine ⟨?_, rfl⟩
    first
      | (have g1 := bz_n.mp h11
         have g2 := bz_n.mp h25
         rw [hn] at g1
         rw [hc] at g2
         unfold bz
         rw [if_pos ⟨g1, g2⟩])
      | (have g2 := bz_0.mp h25
         rw [hc] at g2
         unfold bz
         rw [if_neg (fun h => g2 h.2)])
      | (have g1 := bz_0.mp h11
         rw [hn] at g1
         unfold bz
         rw [if_neg (fun h => g1 h.1)])
  · refine z_aload_n (q := 15) rfl rfl rfl ?_
    refine z_getR (q := 18) rfl rfl rfl (X_k w) (X_r4 w) ?_
    refine z_getR (q := 21) rfl rfl rfl (St_k (X_w4 w)) (St_r0 (X_w4 w)) ?_
    refine z_iload_n (q := 22) rfl rfl rfl ?_
    refine z_cv1i (q := 25) rfl rfl rfl (Sh_k (St_w0 (X_w4 w))) (s_Sh_hasCell (St_w0 (X_w4 w))) ?_
    refine z_if_eq (q := 28) rfl rfl (fun h25 => ?_) (fun h25 => ?_)
    · refine z_iconst (q := 33) (v := 0) rfl rfl rfl ?_
      refine z_iretz rfl rfl (rfl) ?_
      refine ⟨?_, rfl⟩
      first
        | (have g1 := bz_n.mp h11
           have g2 := bz_n.mp h25
           rw [hn] at g1
           rw [hc] at g2
           unfold bz
           rw [if_pos ⟨g1, g2⟩])
        | (have g2 := bz_0.mp h25
           rw [hc] at g2
           unfold bz
           rw [if_neg (fun h => g2 h.2)])
        | (have g1 := bz_0.mp h11
           rw [hn] at g1
           unfold bz
           rw [if_neg (fun h => g1 h.1)])
    · refine z_iconst (q := 29) (v := 1) rfl rfl rfl ?_
      refine z_goto rfl ?_
      refine z_iretz rfl rfl (rfl) ?_
      refine ⟨?_, rfl⟩
      first
        | (have g1 := bz_n.mp h11
           have g2 := bz_n.mp h25
           rw [hn] at g1
           rw [hc] at g2
           unfold bz
           rw [if_pos ⟨g1, g2⟩])
        | (have g2 := bz_0.mp h25
           rw [hc] at g2
           unfold bz
           rw [if_neg (fun h => g2 h.2)])
        | (have g1 := bz_0.mp h11
           rw [hn] at g1
           unfold bz
           rw [if_neg (fun h => g1 h.1)])
theorem s_X_cell {sc : Option (Nat × Nat × (Nat → Int32))} {sa : Nat → Nat} {d : Nat} {M : mz_M} {z : Nat × Nat} {x p q : Nat} (w : g_X M.2.2 x p q) {n : Nat} (hn : M.1 (p + 1) 8 = nI n) (hN : n ≤ 40) {c : Nat} (hc : M.1 (p + 1) 5 = nI c) (hC : c ≤ 12) {a b : Int32} : zx sc sa (d + 4) 113 [.ref x, .int a, .int b] M z z (some (.int (if vI n a ∧ vI c b then nmI (M.2.1 (p + 2) a.toNatClampNeg) b else -2))) M := by
  refine zxin ym_X_cell [.ref x, .int a, .int b] rfl rfl rfl rfl ?_
  refine z_aload_n (q := 1) rfl rfl rfl ?_
  refine z_iload_n (q := 2) rfl rfl rfl ?_
  refine z_iload_n (q := 3) rfl rfl rfl ?_
  refine z_cv2i (q := 6) rfl rfl rfl (X_k w) (s_X_hasSpot w hn hN hc hC) ?_
  refine z_if_eq (q := 9) rfl rfl (fun h6 => ?_) (fun h6 => ?_)
  · refine z_bipush (q := 26) (v := -2) rfl rfl rfl ?_
    refine z_ireti rfl rfl ?_
    first
      | (rw [if_neg (bz_0.mp h6)]
         exact ⟨rfl, rfl⟩)
      | (rw [if_pos (bz_n.mp h6)]
         try rw [nI_clamp (show j < 2 ^ 31 by omega)]
         try rw [nI_clamp (show i < 2 ^ 31 by omega)]
         exact ⟨rfl, rfl⟩)
  · refine z_aload_n (q := 10) rfl rfl rfl ?_
    obtain ⟨j, hj, rfl⟩ := vI_nat (by omega) (bz_n.mp h6).1
    refine z_getR (q := 13) rfl rfl rfl (X_k w) (X_r4 w) ?_
    refine z_getR (q := 16) rfl rfl rfl (St_k (X_w4 w)) (St_r0 (X_w4 w)) ?_
    refine z_iload_n (q := 17) rfl rfl rfl ?_
    refine z_iload_n (q := 18) rfl rfl rfl ?_
    refine z_cv2i (q := 21) rfl rfl rfl (Sh_k (St_w0 (X_w4 w))) (s_Sh_numberAt (St_w0 (X_w4 w)) hn hN (by omega) hj) ?_
    refine z_goto rfl ?_
    refine z_ireti rfl rfl ?_
    first
      | (rw [if_neg (bz_0.mp h6)]
         exact ⟨rfl, rfl⟩)
      | (rw [if_pos (bz_n.mp h6)]
         try rw [nI_clamp (show j < 2 ^ 31 by omega)]
         try rw [nI_clamp (show i < 2 ^ 31 by omega)]
         exact ⟨rfl, rfl⟩)
theorem s_X_root {sc : Option (Nat × Nat × (Nat → Int32))} {sa : Nat → Nat} {d : Nat} {M : mz_M} {z : Nat × Nat} {x p q : Nat} (w : g_X M.2.2 x p q) {n : Nat} (hn : M.1 (p + 1) 8 = nI n) (hN : n ≤ 40) {c : Nat} (hc : M.1 (p + 1) 5 = nI c) (hC : c ≤ 12) {a b : Int32} : zx sc sa (d + 4) 119 [.ref x, .int a, .int b] M z z (some (.int (if vI n a ∧ vI c b then rt (M.2.1 (p + 2) a.toNatClampNeg) c b else -2))) M := by
  refine zxin ym_X_root [.ref x, .int a, .int b] rfl rfl rfl rfl ?_
  refine z_aload_n (q := 1) rfl rfl rfl ?_
  refine z_iload_n (q := 2) rfl rfl rfl ?_
  refine z_iload_n (q := 3) rfl rfl rfl ?_
  refine z_cv2i (q := 6) rfl rfl rfl (X_k w) (s_X_hasSpot w hn hN hc hC) ?_
  refine z_if_eq (q := 9) rfl rfl (fun h6 => ?_) (fun h6 => ?_)
  · refine z_bipush (q := 26) (v := -2) rfl rfl rfl ?_
    refine z_ireti rfl rfl ?_
    first
      | (rw [if_neg (bz_0.mp h6)]
         exact ⟨rfl, rfl⟩)
      | (rw [if_pos (bz_n.mp h6)]
         try rw [nI_clamp (show j < 2 ^ 31 by omega)]
         try rw [nI_clamp (show i < 2 ^ 31 by omega)]
         exact ⟨rfl, rfl⟩)
  · refine z_aload_n (q := 10) rfl rfl rfl ?_
    obtain ⟨j, hj, rfl⟩ := vI_nat (by omega) (bz_n.mp h6).1
    refine z_getR (q := 13) rfl rfl rfl (X_k w) (X_r4 w) ?_
    refine z_getR (q := 16) rfl rfl rfl (St_k (X_w4 w)) (St_r0 (X_w4 w)) ?_
    refine z_iload_n (q := 17) rfl rfl rfl ?_
    refine z_iload_n (q := 18) rfl rfl rfl ?_
    refine z_cv2i (q := 21) rfl rfl rfl (Sh_k (St_w0 (X_w4 w))) (s_Sh_rootOf (St_w0 (X_w4 w)) hn hN (by omega) hj hc hC) ?_
    refine z_goto rfl ?_
    refine z_ireti rfl rfl ?_
    first
      | (rw [if_neg (bz_0.mp h6)]
         exact ⟨rfl, rfl⟩)
      | (rw [if_pos (bz_n.mp h6)]
         try rw [nI_clamp (show j < 2 ^ 31 by omega)]
         try rw [nI_clamp (show i < 2 ^ 31 by omega)]
         exact ⟨rfl, rfl⟩)
theorem s_X_together {sc : Option (Nat × Nat × (Nat → Int32))} {sa : Nat → Nat} {d : Nat} {M : mz_M} {z : Nat × Nat} {x p q : Nat} (w : g_X M.2.2 x p q) {n : Nat} (hn : M.1 (p + 1) 8 = nI n) (hN : n ≤ 40) {c : Nat} (hc : M.1 (p + 1) 5 = nI c) (hC : c ≤ 12) {a b : Int32} : zx sc sa (d + 5) 121 [.ref x, .int a, .int b] M z z (some (.int (if vI n a ∧ vI c b then fo (fun v acc => if rt (M.2.1 (p + 2) a.toNatClampNeg) c (nI v) = rt (M.2.1 (p + 2) a.toNatClampNeg) c b then acc ||| (1 : Int32) <<< (nI v &&& 31) else acc) 0 c else -2))) M := by
  refine zxin ym_X_together [.ref x, .int a, .int b] rfl rfl rfl rfl ?_
  refine z_aload_n (q := 1) rfl rfl rfl ?_
  refine z_iload_n (q := 2) rfl rfl rfl ?_
  refine z_iload_n (q := 3) rfl rfl rfl ?_
  refine z_cv2i (q := 6) rfl rfl rfl (X_k w) (s_X_hasSpot w hn hN hc hC) ?_
  refine z_if_eq (q := 9) rfl rfl (fun h6 => ?_) (fun h6 => ?_)
  · refine z_bipush (q := 26) (v := -2) rfl rfl rfl ?_
    refine z_ireti rfl rfl ?_
    first
      | (rw [if_neg (bz_0.mp h6)]
         exact ⟨rfl, rfl⟩)
      | (rw [if_pos (bz_n.mp h6)]
         try rw [nI_clamp (show j < 2 ^ 31 by omega)]
         try rw [nI_clamp (show i < 2 ^ 31 by omega)]
         exact ⟨rfl, rfl⟩)
  · refine z_aload_n (q := 10) rfl rfl rfl ?_
    obtain ⟨j, hj, rfl⟩ := vI_nat (by omega) (bz_n.mp h6).1
    refine z_getR (q := 13) rfl rfl rfl (X_k w) (X_r4 w) ?_
    refine z_getR (q := 16) rfl rfl rfl (St_k (X_w4 w)) (St_r0 (X_w4 w)) ?_
    refine z_iload_n (q := 17) rfl rfl rfl ?_
    refine z_iload_n (q := 18) rfl rfl rfl ?_
    refine z_cv2i (q := 21) rfl rfl rfl (Sh_k (St_w0 (X_w4 w))) (s_Sh_cellsRootedAs (St_w0 (X_w4 w)) hn hN (by omega) hj hc hC) ?_
    refine z_goto rfl ?_
    refine z_ireti rfl rfl ?_
    first
      | (rw [if_neg (bz_0.mp h6)]
         exact ⟨rfl, rfl⟩)
      | (rw [if_pos (bz_n.mp h6)]
         try rw [nI_clamp (show j < 2 ^ 31 by omega)]
         try rw [nI_clamp (show i < 2 ^ 31 by omega)]
         exact ⟨rfl, rfl⟩)
theorem s_X_blame {sc : Option (Nat × Nat × (Nat → Int32))} {sa : Nat → Nat} {d : Nat} {M : mz_M} {z : Nat × Nat} {x p q : Nat} (w : g_X M.2.2 x p q) {n : Nat} (hn : M.1 (p + 1) 8 = nI n) (hN : n ≤ 40) {c : Nat} (hc : M.1 (p + 1) 5 = nI c) (hC : c ≤ 12) (ho : okl (M.1 (p + 5)) n) {a b : Int32} : zx sc sa (d + 4) 122 [.ref x, .int a, .int b] M z z (some (.int (if vI n a ∧ vI c b then lsI (M.1 (p + 5)) (M.1 (p + 6)) b n a else -2))) M := by
  refine zxin ym_X_blame [.ref x, .int a, .int b] rfl rfl rfl rfl ?_
  refine z_aload_n (q := 1) rfl rfl rfl ?_
  refine z_iload_n (q := 2) rfl rfl rfl ?_
  refine z_iload_n (q := 3) rfl rfl rfl ?_
  refine z_cv2i (q := 6) rfl rfl rfl (X_k w) (s_X_hasSpot w hn hN hc hC) ?_
  refine z_if_eq (q := 9) rfl rfl (fun h6 => ?_) (fun h6 => ?_)
  · refine z_bipush (q := 26) (v := -2) rfl rfl rfl ?_
    refine z_ireti rfl rfl ?_
    first
      | (rw [if_neg (bz_0.mp h6)]
         exact ⟨rfl, rfl⟩)
      | (rw [if_pos (bz_n.mp h6)]
         try rw [nI_clamp (show j < 2 ^ 31 by omega)]
         try rw [nI_clamp (show i < 2 ^ 31 by omega)]
         exact ⟨rfl, rfl⟩)
  · refine z_aload_n (q := 10) rfl rfl rfl ?_
    obtain ⟨j, hj, rfl⟩ := vI_nat (by omega) (bz_n.mp h6).1
    refine z_getR (q := 13) rfl rfl rfl (X_k w) (X_r4 w) ?_
    refine z_getR (q := 16) rfl rfl rfl (St_k (X_w4 w)) (St_r0 (X_w4 w)) ?_
    refine z_iload_n (q := 17) rfl rfl rfl ?_
    refine z_iload_n (q := 18) rfl rfl rfl ?_
    refine z_cv2i (q := 21) rfl rfl rfl (Sh_k (St_w0 (X_w4 w))) (s_Sh_lastSetter (St_w0 (X_w4 w)) hn hN (by omega) hj ho) ?_
    refine z_goto rfl ?_
    refine z_ireti rfl rfl ?_
    first
      | (rw [if_neg (bz_0.mp h6)]
         exact ⟨rfl, rfl⟩)
      | (rw [if_pos (bz_n.mp h6)]
         try rw [nI_clamp (show j < 2 ^ 31 by omega)]
         try rw [nI_clamp (show i < 2 ^ 31 by omega)]
         exact ⟨rfl, rfl⟩)
theorem s_X_often {sc : Option (Nat × Nat × (Nat → Int32))} {sa : Nat → Nat} {d : Nat} {M : mz_M} {z : Nat × Nat} {x p q : Nat} (w : g_X M.2.2 x p q) {n : Nat} (hn : M.1 (p + 1) 8 = nI n) (hN : n ≤ 40) {c : Nat} (hc : M.1 (p + 1) 5 = nI c) (hC : c ≤ 12) (ho : okl (M.1 (p + 5)) n) {a b : Int32} : zx sc sa (d + 4) 123 [.ref x, .int a, .int b] M z z (some (.int (if vI n a ∧ vI c b then tsI (M.1 (p + 5)) (M.1 (p + 6)) b n a 0 else -2))) M := by
  refine zxin ym_X_often [.ref x, .int a, .int b] rfl rfl rfl rfl ?_
  refine z_aload_n (q := 1) rfl rfl rfl ?_
  refine z_iload_n (q := 2) rfl rfl rfl ?_
  refine z_iload_n (q := 3) rfl rfl rfl ?_
  refine z_cv2i (q := 6) rfl rfl rfl (X_k w) (s_X_hasSpot w hn hN hc hC) ?_
  refine z_if_eq (q := 9) rfl rfl (fun h6 => ?_) (fun h6 => ?_)
  · refine z_bipush (q := 26) (v := -2) rfl rfl rfl ?_
    refine z_ireti rfl rfl ?_
    first
      | (rw [if_neg (bz_0.mp h6)]
         exact ⟨rfl, rfl⟩)
      | (rw [if_pos (bz_n.mp h6)]
         try rw [nI_clamp (show j < 2 ^ 31 by omega)]
         try rw [nI_clamp (show i < 2 ^ 31 by omega)]
         exact ⟨rfl, rfl⟩)
  · refine z_aload_n (q := 10) rfl rfl rfl ?_
    obtain ⟨j, hj, rfl⟩ := vI_nat (by omega) (bz_n.mp h6).1
    refine z_getR (q := 13) rfl rfl rfl (X_k w) (X_r4 w) ?_
    refine z_getR (q := 16) rfl rfl rfl (St_k (X_w4 w)) (St_r0 (X_w4 w)) ?_
    refine z_iload_n (q := 17) rfl rfl rfl ?_
    refine z_iload_n (q := 18) rfl rfl rfl ?_
    refine z_cv2i (q := 21) rfl rfl rfl (Sh_k (St_w0 (X_w4 w))) (s_Sh_timesSet (St_w0 (X_w4 w)) hn hN (by omega) hj ho) ?_
    refine z_goto rfl ?_
    refine z_ireti rfl rfl ?_
    first
      | (rw [if_neg (bz_0.mp h6)]
         exact ⟨rfl, rfl⟩)
      | (rw [if_pos (bz_n.mp h6)]
         try rw [nI_clamp (show j < 2 ^ 31 by omega)]
         try rw [nI_clamp (show i < 2 ^ 31 by omega)]
         exact ⟨rfl, rfl⟩)
theorem s_X_cost {sc : Option (Nat × Nat × (Nat → Int32))} {sa : Nat → Nat} {d : Nat} {M : mz_M} {z : Nat × Nat} {x p q : Nat} (w : g_X M.2.2 x p q) {n : Nat} (hn : M.1 (p + 1) 8 = nI n) (hN : n ≤ 40) {c : Nat} (hc : M.1 (p + 1) 5 = nI c) (hC : c ≤ 12) (hf : okl (M.1 (p + 3)) n) {a b : Int32} : zx sc sa (d + 4) 138 [.ref x, .int a, .int b] M z z (some (.int (if vI n a ∧ vI c b then if M.1 (p + 1) 6 = 1 then nI (la (M.1 (p + 3)) (M.1 (p + 4)) b n a.toNatClampNeg) else if M.1 (p + 1) 6 = 2 ∧ ¬ nI (wl (M.1 (p + 3)) n a.toNatClampNeg) ≤ M.1 (p + 1) 7 then nI (wl (M.1 (p + 3)) n a.toNatClampNeg) + M.1 (p + 1) 5 else nI (wl (M.1 (p + 3)) n a.toNatClampNeg) else -2))) M := by
  refine zxin ym_X_cost [.ref x, .int a, .int b] rfl rfl rfl rfl ?_
  refine z_aload_n (q := 1) rfl rfl rfl ?_
  refine z_iload_n (q := 2) rfl rfl rfl ?_
  refine z_iload_n (q := 3) rfl rfl rfl ?_
  refine z_cv2i (q := 6) rfl rfl rfl (X_k w) (s_X_hasSpot w hn hN hc hC) ?_
  refine z_if_eq (q := 9) rfl rfl (fun h6 => ?_) (fun h6 => ?_)
  · refine z_bipush (q := 26) (v := -2) rfl rfl rfl ?_
    refine z_ireti rfl rfl ?_
    first
      | (rw [if_neg (bz_0.mp h6)]
         exact ⟨rfl, rfl⟩)
      | (rw [if_pos (bz_n.mp h6)]
         try rw [nI_clamp (show j < 2 ^ 31 by omega)]
         try rw [nI_clamp (show i < 2 ^ 31 by omega)]
         exact ⟨rfl, rfl⟩)
  · refine z_aload_n (q := 10) rfl rfl rfl ?_
    obtain ⟨j, hj, rfl⟩ := vI_nat (by omega) (bz_n.mp h6).1
    refine z_getR (q := 13) rfl rfl rfl (X_k w) (X_r4 w) ?_
    refine z_getR (q := 16) rfl rfl rfl (St_k (X_w4 w)) (St_r0 (X_w4 w)) ?_
    refine z_iload_n (q := 17) rfl rfl rfl ?_
    refine z_iload_n (q := 18) rfl rfl rfl ?_
    refine z_cv2i (q := 21) rfl rfl rfl (Sh_k (St_w0 (X_w4 w))) (s_Sh_readingCost (St_w0 (X_w4 w)) hn hN (by omega) hj hf) ?_
    refine z_goto rfl ?_
    refine z_ireti rfl rfl ?_
    first
      | (rw [if_neg (bz_0.mp h6)]
         exact ⟨rfl, rfl⟩)
      | (rw [if_pos (bz_n.mp h6)]
         try rw [nI_clamp (show j < 2 ^ 31 by omega)]
         try rw [nI_clamp (show i < 2 ^ 31 by omega)]
         exact ⟨rfl, rfl⟩)
theorem s_X_meet {sc : Option (Nat × Nat × (Nat → Int32))} {sa : Nat → Nat} {d : Nat} {M : mz_M} {z : Nat × Nat} {x p q : Nat} (w : g_X M.2.2 x p q) {n : Nat} (hn : M.1 (p + 1) 8 = nI n) (hN : n ≤ 40) (ho : okm (M.1 (p + 5)) n) {a b : Int32} : zx sc sa (d + 4) 117 [.ref x, .int a, .int b] M z z (some (.int (if vI n a ∧ vI n b then nI (mtN (M.1 (p + 5)) (2 * n) a.toNatClampNeg b.toNatClampNeg) else -2))) M := by
  refine zxin ym_X_meet [.ref x, .int a, .int b] rfl rfl rfl rfl ?_
  refine z_aload_n (q := 1) rfl rfl rfl ?_
  refine z_iload_n (q := 2) rfl rfl rfl ?_
  refine z_iload_n (q := 3) rfl rfl rfl ?_
  refine z_cv2i (q := 6) rfl rfl rfl (X_k w) (s_X_hasVersions w hn hN) ?_
  refine z_if_eq (q := 9) rfl rfl (fun h6 => ?_) (fun h6 => ?_)
  · refine z_bipush (q := 26) (v := -2) rfl rfl rfl ?_
    refine z_ireti rfl rfl ?_
    first
      | (rw [if_neg (bz_0.mp h6)]
         exact ⟨rfl, rfl⟩)
      | (rw [if_pos (bz_n.mp h6)]
         try rw [nI_clamp (show j < 2 ^ 31 by omega)]
         try rw [nI_clamp (show i < 2 ^ 31 by omega)]
         exact ⟨rfl, rfl⟩)
  · refine z_aload_n (q := 10) rfl rfl rfl ?_
    obtain ⟨j, hj, rfl⟩ := vI_nat (by omega) (bz_n.mp h6).1
    obtain ⟨i, hi, rfl⟩ := vI_nat (by omega) (bz_n.mp h6).2
    refine z_getR (q := 13) rfl rfl rfl (X_k w) (X_r4 w) ?_
    refine z_getR (q := 16) rfl rfl rfl (St_k (X_w4 w)) (St_r0 (X_w4 w)) ?_
    refine z_iload_n (q := 17) rfl rfl rfl ?_
    refine z_iload_n (q := 18) rfl rfl rfl ?_
    refine z_cv2i (q := 21) rfl rfl rfl (Sh_k (St_w0 (X_w4 w))) (s_Sh_meeting (St_w0 (X_w4 w)) hn hN (by omega) hj hi ho) ?_
    refine z_goto rfl ?_
    refine z_ireti rfl rfl ?_
    first
      | (rw [if_neg (bz_0.mp h6)]
         exact ⟨rfl, rfl⟩)
      | (rw [if_pos (bz_n.mp h6)]
         try rw [nI_clamp (show j < 2 ^ 31 by omega)]
         try rw [nI_clamp (show i < 2 ^ 31 by omega)]
         exact ⟨rfl, rfl⟩)
theorem s_X_first {sc : Option (Nat × Nat × (Nat → Int32))} {sa : Nat → Nat} {d : Nat} {M : mz_M} {z : Nat × Nat} {x p q : Nat} (w : g_X M.2.2 x p q) {n : Nat} (hn : M.1 (p + 1) 8 = nI n) (hN : n ≤ 40) {a : Int32} : zx sc sa (d + 4) 116 [.ref x, .int a] M z z (some (.int (if vI n a then nI (fi (M.2.1 (p + 2)) (M.2.1 (p + 2) a.toNatClampNeg) a.toNatClampNeg 0) else -2))) M := by
  refine zxin ym_X_first [.ref x, .int a] rfl rfl rfl rfl ?_
  refine z_aload_n (q := 1) rfl rfl rfl ?_
  refine z_iload_n (q := 2) rfl rfl rfl ?_
  refine z_cv1i (q := 5) rfl rfl rfl (X_k w) (s_X_hasVersion w hn hN) ?_
  refine z_if_eq (q := 8) rfl rfl (fun h5 => ?_) (fun h5 => ?_)
  · refine z_bipush (q := 24) (v := -2) rfl rfl rfl ?_
    refine z_ireti rfl rfl ?_
    first
      | (rw [if_neg (bz_0.mp h5)]
         exact ⟨rfl, rfl⟩)
      | (rw [if_pos (bz_n.mp h5)]
         try rw [nI_clamp (show j < 2 ^ 31 by omega)]
         exact ⟨rfl, rfl⟩)
  · refine z_aload_n (q := 9) rfl rfl rfl ?_
    obtain ⟨j, hj, rfl⟩ := vI_nat (by omega) (bz_n.mp h5)
    refine z_getR (q := 12) rfl rfl rfl (X_k w) (X_r4 w) ?_
    refine z_getR (q := 15) rfl rfl rfl (St_k (X_w4 w)) (St_r0 (X_w4 w)) ?_
    refine z_iload_n (q := 16) rfl rfl rfl ?_
    refine z_cv1i (q := 19) rfl rfl rfl (Sh_k (St_w0 (X_w4 w))) (s_Sh_firstLike (St_w0 (X_w4 w)) hn hN (by omega) hj) ?_
    refine z_goto rfl ?_
    refine z_ireti rfl rfl ?_
    first
      | (rw [if_neg (bz_0.mp h5)]
         exact ⟨rfl, rfl⟩)
      | (rw [if_pos (bz_n.mp h5)]
         try rw [nI_clamp (show j < 2 ^ 31 by omega)]
         exact ⟨rfl, rfl⟩)
theorem s_X_length {sc : Option (Nat × Nat × (Nat → Int32))} {sa : Nat → Nat} {d : Nat} {M : mz_M} {z : Nat × Nat} {x p q : Nat} (w : g_X M.2.2 x p q) {n : Nat} (hn : M.1 (p + 1) 8 = nI n) (hN : n ≤ 40) (hf : okl (M.1 (p + 3)) n) {a : Int32} : zx sc sa (d + 4) 125 [.ref x, .int a] M z z (some (.int (if vI n a then nI (wl (M.1 (p + 3)) n a.toNatClampNeg) else -2))) M := by
  refine zxin ym_X_length [.ref x, .int a] rfl rfl rfl rfl ?_
  refine z_aload_n (q := 1) rfl rfl rfl ?_
  refine z_iload_n (q := 2) rfl rfl rfl ?_
  refine z_cv1i (q := 5) rfl rfl rfl (X_k w) (s_X_hasVersion w hn hN) ?_
  refine z_if_eq (q := 8) rfl rfl (fun h5 => ?_) (fun h5 => ?_)
  · refine z_bipush (q := 24) (v := -2) rfl rfl rfl ?_
    refine z_ireti rfl rfl ?_
    first
      | (rw [if_neg (bz_0.mp h5)]
         exact ⟨rfl, rfl⟩)
      | (rw [if_pos (bz_n.mp h5)]
         try rw [nI_clamp (show j < 2 ^ 31 by omega)]
         exact ⟨rfl, rfl⟩)
  · refine z_aload_n (q := 9) rfl rfl rfl ?_
    obtain ⟨j, hj, rfl⟩ := vI_nat (by omega) (bz_n.mp h5)
    refine z_getR (q := 12) rfl rfl rfl (X_k w) (X_r4 w) ?_
    refine z_getR (q := 15) rfl rfl rfl (St_k (X_w4 w)) (St_r0 (X_w4 w)) ?_
    refine z_iload_n (q := 16) rfl rfl rfl ?_
    refine z_cv1i (q := 19) rfl rfl rfl (Sh_k (St_w0 (X_w4 w))) (s_Sh_wayFrom (St_w0 (X_w4 w)) hn hN (by omega) hj hf) ?_
    refine z_goto rfl ?_
    refine z_ireti rfl rfl ?_
    first
      | (rw [if_neg (bz_0.mp h5)]
         exact ⟨rfl, rfl⟩)
      | (rw [if_pos (bz_n.mp h5)]
         try rw [nI_clamp (show j < 2 ^ 31 by omega)]
         exact ⟨rfl, rfl⟩)
theorem s_X_roots {sc : Option (Nat × Nat × (Nat → Int32))} {sa : Nat → Nat} {d : Nat} {M : mz_M} {z : Nat × Nat} {x p q : Nat} (w : g_X M.2.2 x p q) {n : Nat} (hn : M.1 (p + 1) 8 = nI n) (hN : n ≤ 40) {c : Nat} (hc : M.1 (p + 1) 5 = nI c) (hC : c ≤ 12) {a : Int32} : zx sc sa (d + 5) 120 [.ref x, .int a] M z z (some (.int (if vI n a then bcI (fo (fun v acc => acc ||| (1 : Int32) <<< (rt (M.2.1 (p + 2) a.toNatClampNeg) c (nI v) &&& 31)) 0 c) else -2))) M := by
  refine zxin ym_X_roots [.ref x, .int a] rfl rfl rfl rfl ?_
  refine z_aload_n (q := 1) rfl rfl rfl ?_
  refine z_iload_n (q := 2) rfl rfl rfl ?_
  refine z_cv1i (q := 5) rfl rfl rfl (X_k w) (s_X_hasVersion w hn hN) ?_
  refine z_if_eq (q := 8) rfl rfl (fun h5 => ?_) (fun h5 => ?_)
  · refine z_bipush (q := 27) (v := -2) rfl rfl rfl ?_
    refine z_ireti rfl rfl ?_
    first
      | (rw [if_neg (bz_0.mp h5)]
         exact ⟨rfl, rfl⟩)
      | (rw [if_pos (bz_n.mp h5)]
         try rw [nI_clamp (show j < 2 ^ 31 by omega)]
         exact ⟨rfl, rfl⟩)
  · refine z_aload_n (q := 9) rfl rfl rfl ?_
    obtain ⟨j, hj, rfl⟩ := vI_nat (by omega) (bz_n.mp h5)
    refine z_getR (q := 12) rfl rfl rfl (X_k w) (X_r4 w) ?_
    refine z_getR (q := 15) rfl rfl rfl (St_k (X_w4 w)) (St_r0 (X_w4 w)) ?_
    refine z_iload_n (q := 16) rfl rfl rfl ?_
    refine z_cv1i (q := 19) rfl rfl rfl (Sh_k (St_w0 (X_w4 w))) (s_Sh_rootBits (St_w0 (X_w4 w)) hn hN (by omega) hj hc hC) ?_
    refine z_cs1i (q := 22) rfl rfl rfl (s_In_bitCount) ?_
    refine z_goto rfl ?_
    refine z_ireti rfl rfl ?_
    first
      | (rw [if_neg (bz_0.mp h5)]
         exact ⟨rfl, rfl⟩)
      | (rw [if_pos (bz_n.mp h5)]
         try rw [nI_clamp (show j < 2 ^ 31 by omega)]
         exact ⟨rfl, rfl⟩)
theorem s_X_longest {sc : Option (Nat × Nat × (Nat → Int32))} {sa : Nat → Nat} {d : Nat} {M : mz_M} {z : Nat × Nat} {x p q : Nat} (w : g_X M.2.2 x p q) {n : Nat} (hn : M.1 (p + 1) 8 = nI n) (hN : n ≤ 40) {c : Nat} (hc : M.1 (p + 1) 5 = nI c) (hC : c ≤ 12) (hf : okl (M.1 (p + 3)) n)  : zx sc sa (d + 4) 126 [.ref x] M z z (some (.int (if 0 < c then fo (fun v acc => if acc < nI (wl (M.1 (p + 3)) n v) then nI (wl (M.1 (p + 3)) n v) else acc) 0 n else -2))) M := by
  refine zxin ym_X_longest [.ref x] rfl rfl rfl rfl ?_
  refine z_aload_n (q := 1) rfl rfl rfl ?_
  refine z_cv0i (q := 4) rfl rfl rfl (X_k w) (s_X_isThere w hc hC) ?_
  refine z_if_eq (q := 7) rfl rfl (fun h4 => ?_) (fun h4 => ?_)
  · refine z_bipush (q := 22) (v := -2) rfl rfl rfl ?_
    refine z_ireti rfl rfl ?_
    first
      | (rw [if_neg (bz_0.mp h4)]
         exact ⟨rfl, rfl⟩)
      | (rw [if_pos (bz_n.mp h4)]
         exact ⟨rfl, rfl⟩)
  · refine z_aload_n (q := 8) rfl rfl rfl ?_
    refine z_getR (q := 11) rfl rfl rfl (X_k w) (X_r4 w) ?_
    refine z_getR (q := 14) rfl rfl rfl (St_k (X_w4 w)) (St_r0 (X_w4 w)) ?_
    refine z_cv0i (q := 17) rfl rfl rfl (Sh_k (St_w0 (X_w4 w))) (s_Sh_longestWay (St_w0 (X_w4 w)) hn hN (by omega) hf) ?_
    refine z_goto rfl ?_
    refine z_ireti rfl rfl ?_
    first
      | (rw [if_neg (bz_0.mp h4)]
         exact ⟨rfl, rfl⟩)
      | (rw [if_pos (bz_n.mp h4)]
         exact ⟨rfl, rfl⟩)
theorem s_X_direct {sc : Option (Nat × Nat × (Nat → Int32))} {sa : Nat → Nat} {d : Nat} {M : mz_M} {z : Nat × Nat} {x p q : Nat} (w : g_X M.2.2 x p q) {n : Nat} (hn : M.1 (p + 1) 8 = nI n) (hN : n ≤ 40) {c : Nat} (hc : M.1 (p + 1) 5 = nI c) (hC : c ≤ 12)  : zx sc sa (d + 4) 127 [.ref x] M z z (some (.int (if 0 < c then fo (fun v acc => if M.1 (p + 3) v = -1 then acc + Int32.ofInt 1 else acc) 0 n else -2))) M := by
  refine zxin ym_X_direct [.ref x] rfl rfl rfl rfl ?_
  refine z_aload_n (q := 1) rfl rfl rfl ?_
  refine z_cv0i (q := 4) rfl rfl rfl (X_k w) (s_X_isThere w hc hC) ?_
  refine z_if_eq (q := 7) rfl rfl (fun h4 => ?_) (fun h4 => ?_)
  · refine z_bipush (q := 22) (v := -2) rfl rfl rfl ?_
    refine z_ireti rfl rfl ?_
    first
      | (rw [if_neg (bz_0.mp h4)]
         exact ⟨rfl, rfl⟩)
      | (rw [if_pos (bz_n.mp h4)]
         exact ⟨rfl, rfl⟩)
  · refine z_aload_n (q := 8) rfl rfl rfl ?_
    refine z_getR (q := 11) rfl rfl rfl (X_k w) (X_r4 w) ?_
    refine z_getR (q := 14) rfl rfl rfl (St_k (X_w4 w)) (St_r0 (X_w4 w)) ?_
    refine z_cv0i (q := 17) rfl rfl rfl (Sh_k (St_w0 (X_w4 w))) (s_Sh_directOnes (St_w0 (X_w4 w)) hn hN (by omega)) ?_
    refine z_goto rfl ?_
    refine z_ireti rfl rfl ?_
    first
      | (rw [if_neg (bz_0.mp h4)]
         exact ⟨rfl, rfl⟩)
      | (rw [if_pos (bz_n.mp h4)]
         exact ⟨rfl, rfl⟩)
theorem s_X_ways {sc : Option (Nat × Nat × (Nat → Int32))} {sa : Nat → Nat} {d : Nat} {M : mz_M} {z : Nat × Nat} {x p q : Nat} (w : g_X M.2.2 x p q) {n : Nat} (hn : M.1 (p + 1) 8 = nI n) (hN : n ≤ 40) {c : Nat} (hc : M.1 (p + 1) 5 = nI c) (hC : c ≤ 12) (hf : okl (M.1 (p + 3)) n)  : zx sc sa (d + 4) 128 [.ref x] M z z (some (.int (if 0 < c then fo (fun v acc => acc + nI (wl (M.1 (p + 3)) n v)) 0 n else -2))) M := by
  refine zxin ym_X_ways [.ref x] rfl rfl rfl rfl ?_
  refine z_aload_n (q := 1) rfl rfl rfl ?_
  refine z_cv0i (q := 4) rfl rfl rfl (X_k w) (s_X_isThere w hc hC) ?_
  refine z_if_eq (q := 7) rfl rfl (fun h4 => ?_) (fun h4 => ?_)
  · refine z_bipush (q := 22) (v := -2) rfl rfl rfl ?_
    refine z_ireti rfl rfl ?_
    first
      | (rw [if_neg (bz_0.mp h4)]
         exact ⟨rfl, rfl⟩)
      | (rw [if_pos (bz_n.mp h4)]
         exact ⟨rfl, rfl⟩)
  · refine z_aload_n (q := 8) rfl rfl rfl ?_
    refine z_getR (q := 11) rfl rfl rfl (X_k w) (X_r4 w) ?_
    refine z_getR (q := 14) rfl rfl rfl (St_k (X_w4 w)) (St_r0 (X_w4 w)) ?_
    refine z_cv0i (q := 17) rfl rfl rfl (Sh_k (St_w0 (X_w4 w))) (s_Sh_allWays (St_w0 (X_w4 w)) hn hN (by omega) hf) ?_
    refine z_goto rfl ?_
    refine z_ireti rfl rfl ?_
    first
      | (rw [if_neg (bz_0.mp h4)]
         exact ⟨rfl, rfl⟩)
      | (rw [if_pos (bz_n.mp h4)]
         exact ⟨rfl, rfl⟩)
theorem s_X_ledger {sc : Option (Nat × Nat × (Nat → Int32))} {sa : Nat → Nat} {d : Nat} {M : mz_M} {z : Nat × Nat} {x p q : Nat} (w : g_X M.2.2 x p q) {n : Nat} (hn : M.1 (p + 1) 8 = nI n) (hN : n ≤ 40) {c : Nat} (hc : M.1 (p + 1) 5 = nI c) (hC : c ≤ 12)  : zx sc sa (d + 4) 135 [.ref x] M z z (some (.int (if 0 < c then M.1 (p + 1) 9 else -2))) M := by
  refine zxin ym_X_ledger [.ref x] rfl rfl rfl rfl ?_
  refine z_aload_n (q := 1) rfl rfl rfl ?_
  refine z_cv0i (q := 4) rfl rfl rfl (X_k w) (s_X_isThere w hc hC) ?_
  refine z_if_eq (q := 7) rfl rfl (fun h4 => ?_) (fun h4 => ?_)
  · refine z_bipush (q := 22) (v := -2) rfl rfl rfl ?_
    refine z_ireti rfl rfl ?_
    first
      | (rw [if_neg (bz_0.mp h4)]
         exact ⟨rfl, rfl⟩)
      | (rw [if_pos (bz_n.mp h4)]
         exact ⟨rfl, rfl⟩)
  · refine z_aload_n (q := 8) rfl rfl rfl ?_
    refine z_getR (q := 11) rfl rfl rfl (X_k w) (X_r4 w) ?_
    refine z_getR (q := 14) rfl rfl rfl (St_k (X_w4 w)) (St_r0 (X_w4 w)) ?_
    refine z_getI (q := 17) rfl rfl rfl (Sh_k (St_w0 (X_w4 w))) ?_
    refine z_goto rfl ?_
    refine z_ireti rfl rfl ?_
    first
      | (rw [if_neg (bz_0.mp h4)]
         exact ⟨rfl, rfl⟩)
      | (rw [if_pos (bz_n.mp h4)]
         exact ⟨rfl, rfl⟩)
theorem s_X_version {sc : Option (Nat × Nat × (Nat → Int32))} {sa : Nat → Nat} {d : Nat} {M : mz_M} {z : Nat × Nat} {x p q : Nat} (w : g_X M.2.2 x p q) {n : Nat} (hn : M.1 (p + 1) 8 = nI n) (hN : n ≤ 40) {a b : Int32} : zx sc sa (d + 4) 114 [.ref x, .int a, .int b] M z z (some (.int (if vI n a ∧ ¬ b < 0 ∧ b ≤ 2 then if M.1 (p + 5) a.toNatClampNeg = -1 then -1 else if b = 0 then M.1 (p + 5) a.toNatClampNeg else if b = 1 then M.1 (p + 6) a.toNatClampNeg else nmI (M.2.1 (p + 2) a.toNatClampNeg) (M.1 (p + 6) a.toNatClampNeg) else -2))) M := by
  refine zxin ym_X_version [.ref x, .int a, .int b] rfl rfl rfl rfl ?_
  refine z_aload_n (q := 1) rfl rfl rfl ?_
  refine z_iload_n (q := 2) rfl rfl rfl ?_
  refine z_cv1i (q := 5) rfl rfl rfl (X_k w) (s_X_hasVersion w hn hN) ?_
  refine z_if_eq (q := 8) rfl rfl (fun h5 => ?_) (fun h5 => ?_)
  · refine z_bipush (q := 19) (v := -2) rfl rfl rfl ?_
    refine z_ireti rfl rfl ?_
    first
      | (have g1 : ¬ b ≤ 2 := h14
         rw [if_neg (fun h => g1 h.2.2)]
         exact ⟨rfl, rfl⟩)
      | (have g1 : b < 0 := h9
         rw [if_neg (fun h => h.2.1 g1)]
         exact ⟨rfl, rfl⟩)
      | (rw [if_neg (fun h => (bz_0.mp h5) h.1)]
         exact ⟨rfl, rfl⟩)
  · refine z_iload_n (q := 9) rfl rfl rfl ?_
    refine z_if_lt (q := 12) rfl rfl (fun h9 => ?_) (fun h9 => ?_)
    · refine z_bipush (q := 19) (v := -2) rfl rfl rfl ?_
      refine z_ireti rfl rfl ?_
      first
        | (have g1 : ¬ b ≤ 2 := h14
           rw [if_neg (fun h => g1 h.2.2)]
           exact ⟨rfl, rfl⟩)
        | (have g1 : b < 0 := h9
           rw [if_neg (fun h => h.2.1 g1)]
           exact ⟨rfl, rfl⟩)
        | (rw [if_neg (fun h => (bz_0.mp h5) h.1)]
           exact ⟨rfl, rfl⟩)
    · refine z_iload_n (q := 13) rfl rfl rfl ?_
      refine z_iconst (q := 14) (v := 2) rfl rfl rfl ?_
      refine z_ic_le (q := 17) rfl rfl (fun h14 => ?_) (fun h14 => ?_)
      · refine z_aload_n (q := 21) rfl rfl rfl ?_
        obtain ⟨j, hj, rfl⟩ := vI_nat (by omega) (bz_n.mp h5)
        refine z_getR (q := 24) rfl rfl rfl (X_k w) (X_r4 w) ?_
        refine z_getR (q := 27) rfl rfl rfl (St_k (X_w4 w)) (St_r0 (X_w4 w)) ?_
        refine z_iload_n (q := 28) rfl rfl rfl ?_
        refine z_iload_n (q := 29) rfl rfl rfl ?_
        refine z_cv2i (q := 32) rfl rfl rfl (Sh_k (St_w0 (X_w4 w))) (s_Sh_makingOf (St_w0 (X_w4 w)) hn hN (by omega) hj) ?_
        refine z_ireti rfl rfl ?_
        have g0 : vI n (nI j) ∧ ¬ b < 0 ∧ b ≤ 2 := ⟨bz_n.mp h5, h9, h14⟩
        rw [if_pos g0, nI_clamp (show j < 2 ^ 31 by omega)]
        exact ⟨rfl, rfl⟩
      · refine z_bipush (q := 19) (v := -2) rfl rfl rfl ?_
        refine z_ireti rfl rfl ?_
        first
          | (have g1 : ¬ b ≤ 2 := h14
             rw [if_neg (fun h => g1 h.2.2)]
             exact ⟨rfl, rfl⟩)
          | (have g1 : b < 0 := h9
             rw [if_neg (fun h => h.2.1 g1)]
             exact ⟨rfl, rfl⟩)
          | (rw [if_neg (fun h => (bz_0.mp h5) h.1)]
             exact ⟨rfl, rfl⟩)
theorem s_X_state {sc : Option (Nat × Nat × (Nat → Int32))} {sa : Nat → Nat} {d : Nat} {M : mz_M} {z : Nat × Nat} {x p q : Nat} (w : g_X M.2.2 x p q) {n : Nat} (hn : M.1 (p + 1) 8 = nI n) (hN : n ≤ 40) {a b : Int32} : zx sc sa (d + 4) 124 [.ref x, .int a, .int b] M z z (some (.int (if vI n a ∧ ¬ b < 0 ∧ b ≤ 3 then if b = 0 then bz (M.1 (p + 3) a.toNatClampNeg = -1) else if M.1 (p + 3) a.toNatClampNeg = -1 then -1 else if b = 1 then M.1 (p + 3) a.toNatClampNeg else if b = 2 then M.1 (p + 4) a.toNatClampNeg else nmI (M.2.1 (p + 2) a.toNatClampNeg) (M.1 (p + 4) a.toNatClampNeg) else -2))) M := by
  refine zxin ym_X_state [.ref x, .int a, .int b] rfl rfl rfl rfl ?_
  refine z_aload_n (q := 1) rfl rfl rfl ?_
  refine z_iload_n (q := 2) rfl rfl rfl ?_
  refine z_cv1i (q := 5) rfl rfl rfl (X_k w) (s_X_hasVersion w hn hN) ?_
  refine z_if_eq (q := 8) rfl rfl (fun h5 => ?_) (fun h5 => ?_)
  · refine z_bipush (q := 19) (v := -2) rfl rfl rfl ?_
    refine z_ireti rfl rfl ?_
    first
      | (have g1 : ¬ b ≤ 3 := h14
         rw [if_neg (fun h => g1 h.2.2)]
         exact ⟨rfl, rfl⟩)
      | (have g1 : b < 0 := h9
         rw [if_neg (fun h => h.2.1 g1)]
         exact ⟨rfl, rfl⟩)
      | (rw [if_neg (fun h => (bz_0.mp h5) h.1)]
         exact ⟨rfl, rfl⟩)
  · refine z_iload_n (q := 9) rfl rfl rfl ?_
    refine z_if_lt (q := 12) rfl rfl (fun h9 => ?_) (fun h9 => ?_)
    · refine z_bipush (q := 19) (v := -2) rfl rfl rfl ?_
      refine z_ireti rfl rfl ?_
      first
        | (have g1 : ¬ b ≤ 3 := h14
           rw [if_neg (fun h => g1 h.2.2)]
           exact ⟨rfl, rfl⟩)
        | (have g1 : b < 0 := h9
           rw [if_neg (fun h => h.2.1 g1)]
           exact ⟨rfl, rfl⟩)
        | (rw [if_neg (fun h => (bz_0.mp h5) h.1)]
           exact ⟨rfl, rfl⟩)
    · refine z_iload_n (q := 13) rfl rfl rfl ?_
      refine z_iconst (q := 14) (v := 3) rfl rfl rfl ?_
      refine z_ic_le (q := 17) rfl rfl (fun h14 => ?_) (fun h14 => ?_)
      · refine z_aload_n (q := 21) rfl rfl rfl ?_
        obtain ⟨j, hj, rfl⟩ := vI_nat (by omega) (bz_n.mp h5)
        refine z_getR (q := 24) rfl rfl rfl (X_k w) (X_r4 w) ?_
        refine z_getR (q := 27) rfl rfl rfl (St_k (X_w4 w)) (St_r0 (X_w4 w)) ?_
        refine z_iload_n (q := 28) rfl rfl rfl ?_
        refine z_iload_n (q := 29) rfl rfl rfl ?_
        refine z_cv2i (q := 32) rfl rfl rfl (Sh_k (St_w0 (X_w4 w))) (s_Sh_linkOf (St_w0 (X_w4 w)) hn hN (by omega) hj) ?_
        refine z_ireti rfl rfl ?_
        have g0 : vI n (nI j) ∧ ¬ b < 0 ∧ b ≤ 3 := ⟨bz_n.mp h5, h9, h14⟩
        rw [if_pos g0, nI_clamp (show j < 2 ^ 31 by omega)]
        exact ⟨rfl, rfl⟩
      · refine z_bipush (q := 19) (v := -2) rfl rfl rfl ?_
        refine z_ireti rfl rfl ?_
        first
          | (have g1 : ¬ b ≤ 3 := h14
             rw [if_neg (fun h => g1 h.2.2)]
             exact ⟨rfl, rfl⟩)
          | (have g1 : b < 0 := h9
             rw [if_neg (fun h => h.2.1 g1)]
             exact ⟨rfl, rfl⟩)
          | (rw [if_neg (fun h => (bz_0.mp h5) h.1)]
             exact ⟨rfl, rfl⟩)
