theorem n_X_reads {sc : Option (Nat × Nat × (Nat → Int32))} {sa : Nat → Nat} {d : Nat} {M : mz_M} {z : Nat × Nat} {x p q : Nat} (w : g_X M.2.2 x p q) {n : Nat} (hn : M.1 (p + 1) 8 = nI n) (hN : n ≤ 40) {c : Nat} (hc : M.1 (p + 1) 5 = nI c) (hC : c ≤ 12) {a b : Int32} (hno : ¬ ((vI n a ∧ vI c b) ∧ (M.1 p 10 - M.1 p 9 < 30))) : zx sc sa (d + 4) 145 [.ref x, .int a, .int b] M z z (some (.int (if vI n a ∧ vI c b then -5 else -2))) M := by
  refine zxin ym_X_reads [.ref x, .int a, .int b] rfl rfl rfl rfl ?_
  refine z_aload_n (q := 1) rfl rfl rfl ?_
  refine z_iload_n (q := 2) rfl rfl rfl ?_
  refine z_iload_n (q := 3) rfl rfl rfl ?_
  refine z_cv2i (q := 6) rfl rfl rfl (X_k w) (s_X_hasSpot w hn hN hc hC) ?_
  refine z_if_ne (q := 9) rfl rfl (fun h6 => ?_) (fun h6 => ?_)
  · refine z_aload_n (q := 13) rfl rfl rfl ?_
    refine z_cv0i (q := 16) rfl rfl rfl (X_k w) (s_X_hasActLeft w) ?_
    refine z_if_eq (q := 19) rfl rfl (fun h16 => ?_) (fun h16 => ?_)
    · refine z_bipush (q := 35) (v := -5) rfl rfl rfl ?_
      refine z_ireti rfl rfl ?_
      rw [if_pos (bz_n.mp h6)]
      exact ⟨rfl, rfl⟩
    · exact absurd ⟨bz_n.mp h6, bz_n.mp h16⟩ hno
  · refine z_bipush (q := 11) (v := -2) rfl rfl rfl ?_
    refine z_ireti rfl rfl ?_
    rw [if_neg (bz_0.mp h6)]
    exact ⟨rfl, rfl⟩
theorem n_X_finds {sc : Option (Nat × Nat × (Nat → Int32))} {sa : Nat → Nat} {d : Nat} {M : mz_M} {z : Nat × Nat} {x p q : Nat} (w : g_X M.2.2 x p q) {n : Nat} (hn : M.1 (p + 1) 8 = nI n) (hN : n ≤ 40) {c : Nat} (hc : M.1 (p + 1) 5 = nI c) (hC : c ≤ 12) {a b : Int32} (hno : ¬ ((vI n a ∧ vI c b) ∧ (M.1 p 10 - M.1 p 9 < 30))) : zx sc sa (d + 4) 148 [.ref x, .int a, .int b] M z z (some (.int (if vI n a ∧ vI c b then -5 else -2))) M := by
  refine zxin ym_X_finds [.ref x, .int a, .int b] rfl rfl rfl rfl ?_
  refine z_aload_n (q := 1) rfl rfl rfl ?_
  refine z_iload_n (q := 2) rfl rfl rfl ?_
  refine z_iload_n (q := 3) rfl rfl rfl ?_
  refine z_cv2i (q := 6) rfl rfl rfl (X_k w) (s_X_hasSpot w hn hN hc hC) ?_
  refine z_if_ne (q := 9) rfl rfl (fun h6 => ?_) (fun h6 => ?_)
  · refine z_aload_n (q := 13) rfl rfl rfl ?_
    refine z_cv0i (q := 16) rfl rfl rfl (X_k w) (s_X_hasActLeft w) ?_
    refine z_if_eq (q := 19) rfl rfl (fun h16 => ?_) (fun h16 => ?_)
    · refine z_bipush (q := 35) (v := -5) rfl rfl rfl ?_
      refine z_ireti rfl rfl ?_
      rw [if_pos (bz_n.mp h6)]
      exact ⟨rfl, rfl⟩
    · exact absurd ⟨bz_n.mp h6, bz_n.mp h16⟩ hno
  · refine z_bipush (q := 11) (v := -2) rfl rfl rfl ?_
    refine z_ireti rfl rfl ?_
    rw [if_neg (bz_0.mp h6)]
    exact ⟨rfl, rfl⟩
theorem n_X_sets {sc : Option (Nat × Nat × (Nat → Int32))} {sa : Nat → Nat} {d : Nat} {M : mz_M} {z : Nat × Nat} {x p q : Nat} (w : g_X M.2.2 x p q) {n : Nat} (hn : M.1 (p + 1) 8 = nI n) (hN : n ≤ 40) {c : Nat} (hc : M.1 (p + 1) 5 = nI c) (hC : c ≤ 12) {a b e : Int32} (hno : ¬ (((vI n a ∧ vI c b) ∧ vI c e) ∧ (M.1 p 10 - M.1 p 9 < 30 ∧ n + 1 ≤ 40))) : zx sc sa (d + 4) 146 [.ref x, .int a, .int b, .int e] M z z (some (.int (if (vI n a ∧ vI c b) ∧ vI c e then -5 else -2))) M := by
  refine zxin ym_X_sets [.ref x, .int a, .int b, .int e] rfl rfl rfl rfl ?_
  refine z_aload_n (q := 1) rfl rfl rfl ?_
  refine z_iload_n (q := 2) rfl rfl rfl ?_
  refine z_iload_n (q := 3) rfl rfl rfl ?_
  refine z_cv2i (q := 6) rfl rfl rfl (X_k w) (s_X_hasSpot w hn hN hc hC) ?_
  refine z_if_eq (q := 9) rfl rfl (fun h6 => ?_) (fun h6 => ?_)
  · refine z_bipush (q := 25) (v := -2) rfl rfl rfl ?_
    refine z_ireti rfl rfl ?_
    first
      | (have g1 := bz_0.mp h20
         rw [hc] at g1
         rw [if_neg (fun h => g1 h.2)]
         exact ⟨rfl, rfl⟩)
      | (have g1 := bz_0.mp h6
         rw [if_neg (fun h => g1 h.1)]
         exact ⟨rfl, rfl⟩)
  · refine z_aload_n (q := 10) rfl rfl rfl ?_
    refine z_getR (q := 13) rfl rfl rfl (X_k w) (X_r4 w) ?_
    refine z_getR (q := 16) rfl rfl rfl (St_k (X_w4 w)) (St_r0 (X_w4 w)) ?_
    refine z_iload_n (q := 17) rfl rfl rfl ?_
    refine z_cv1i (q := 20) rfl rfl rfl (Sh_k (St_w0 (X_w4 w))) (s_Sh_hasCell (St_w0 (X_w4 w))) ?_
    refine z_if_ne (q := 23) rfl rfl (fun h20 => ?_) (fun h20 => ?_)
    · refine z_aload_n (q := 27) rfl rfl rfl ?_
      refine z_cv0i (q := 30) rfl rfl rfl (X_k w) (s_X_hasActLeft w) ?_
      refine z_if_eq (q := 33) rfl rfl (fun h30 => ?_) (fun h30 => ?_)
      · refine z_bipush (q := 43) (v := -5) rfl rfl rfl ?_
        refine z_ireti rfl rfl ?_
        have g20 := bz_n.mp h20
        rw [hc] at g20
        rw [if_pos ⟨bz_n.mp h6, g20⟩]
        exact ⟨rfl, rfl⟩
      · refine z_aload_n (q := 34) rfl rfl rfl ?_
        refine z_iconst (q := 35) (v := 1) rfl rfl rfl ?_
        refine z_cv1i (q := 38) rfl rfl rfl (X_k w) (s_X_hasRoomFor (k := 1) w hn hN (by omega)) ?_
        refine z_if_ne (q := 41) rfl rfl (fun h38 => ?_) (fun h38 => ?_)
        · have g20 := bz_n.mp h20
          rw [hc] at g20
          exact absurd ⟨⟨bz_n.mp h6, g20⟩, bz_n.mp h30, bz_n.mp h38⟩ hno
        · refine z_bipush (q := 43) (v := -5) rfl rfl rfl ?_
          refine z_ireti rfl rfl ?_
          have g20 := bz_n.mp h20
          rw [hc] at g20
          rw [if_pos ⟨bz_n.mp h6, g20⟩]
          exact ⟨rfl, rfl⟩
    · refine z_bipush (q := 25) (v := -2) rfl rfl rfl ?_
      refine z_ireti rfl rfl ?_
      first
        | (have g1 := bz_0.mp h20
           rw [hc] at g1
           rw [if_neg (fun h => g1 h.2)]
           exact ⟨rfl, rfl⟩)
        | (have g1 := bz_0.mp h6
           rw [if_neg (fun h => g1 h.1)]
           exact ⟨rfl, rfl⟩)
theorem n_X_joins {sc : Option (Nat × Nat × (Nat → Int32))} {sa : Nat → Nat} {d : Nat} {M : mz_M} {z : Nat × Nat} {x p q : Nat} (w : g_X M.2.2 x p q) {n : Nat} (hn : M.1 (p + 1) 8 = nI n) (hN : n ≤ 40) {c : Nat} (hc : M.1 (p + 1) 5 = nI c) (hC : c ≤ 12) {a b e : Int32} (hno : ¬ (((vI n a ∧ vI c b) ∧ vI c e) ∧ (M.1 p 10 - M.1 p 9 < 30 ∧ n + 1 ≤ 40 ∧ ¬ rt (M.2.1 (p + 2) a.toNatClampNeg) c b = rt (M.2.1 (p + 2) a.toNatClampNeg) c e))) : zx sc sa (d + 6) 147 [.ref x, .int a, .int b, .int e] M z z (some (.int (if (vI n a ∧ vI c b) ∧ vI c e then -5 else -2))) M := by
  refine zxin ym_X_joins [.ref x, .int a, .int b, .int e] rfl rfl rfl rfl ?_
  refine z_aload_n (q := 1) rfl rfl rfl ?_
  refine z_iload_n (q := 2) rfl rfl rfl ?_
  refine z_iload_n (q := 3) rfl rfl rfl ?_
  refine z_cv2i (q := 6) rfl rfl rfl (X_k w) (s_X_hasSpot w hn hN hc hC) ?_
  refine z_if_eq (q := 9) rfl rfl (fun h6 => ?_) (fun h6 => ?_)
  · refine z_bipush (q := 25) (v := -2) rfl rfl rfl ?_
    refine z_ireti rfl rfl ?_
    first
      | (have g1 := bz_0.mp h20
         rw [hc] at g1
         rw [if_neg (fun h => g1 h.2)]
         exact ⟨rfl, rfl⟩)
      | (have g1 := bz_0.mp h6
         rw [if_neg (fun h => g1 h.1)]
         exact ⟨rfl, rfl⟩)
  · refine z_aload_n (q := 10) rfl rfl rfl ?_
    refine z_getR (q := 13) rfl rfl rfl (X_k w) (X_r4 w) ?_
    refine z_getR (q := 16) rfl rfl rfl (St_k (X_w4 w)) (St_r0 (X_w4 w)) ?_
    refine z_iload_n (q := 17) rfl rfl rfl ?_
    refine z_cv1i (q := 20) rfl rfl rfl (Sh_k (St_w0 (X_w4 w))) (s_Sh_hasCell (St_w0 (X_w4 w))) ?_
    refine z_if_ne (q := 23) rfl rfl (fun h20 => ?_) (fun h20 => ?_)
    · refine z_aload_n (q := 27) rfl rfl rfl ?_
      refine z_cv0i (q := 30) rfl rfl rfl (X_k w) (s_X_hasActLeft w) ?_
      refine z_if_eq (q := 33) rfl rfl (fun h30 => ?_) (fun h30 => ?_)
      · refine z_bipush (q := 59) (v := -5) rfl rfl rfl ?_
        refine z_ireti rfl rfl ?_
        have g20 := bz_n.mp h20
        rw [hc] at g20
        rw [if_pos ⟨bz_n.mp h6, g20⟩]
        exact ⟨rfl, rfl⟩
      · refine z_aload_n (q := 34) rfl rfl rfl ?_
        refine z_iconst (q := 35) (v := 1) rfl rfl rfl ?_
        refine z_cv1i (q := 38) rfl rfl rfl (X_k w) (s_X_hasRoomFor (k := 1) w hn hN (by omega)) ?_
        refine z_if_eq (q := 41) rfl rfl (fun h38 => ?_) (fun h38 => ?_)
        · refine z_bipush (q := 59) (v := -5) rfl rfl rfl ?_
          refine z_ireti rfl rfl ?_
          have g20 := bz_n.mp h20
          rw [hc] at g20
          rw [if_pos ⟨bz_n.mp h6, g20⟩]
          exact ⟨rfl, rfl⟩
        · refine z_aload_n (q := 42) rfl rfl rfl ?_
          obtain ⟨j, hj, rfl⟩ := vI_nat (by omega) (bz_n.mp h6).1
          rw [nI_clamp (show j < 2 ^ 31 by omega)] at hno
          refine z_getR (q := 45) rfl rfl rfl (X_k w) (X_r4 w) ?_
          refine z_getR (q := 48) rfl rfl rfl (St_k (X_w4 w)) (St_r0 (X_w4 w)) ?_
          refine z_iload_n (q := 49) rfl rfl rfl ?_
          refine z_iload_n (q := 50) rfl rfl rfl ?_
          refine z_iload_n (q := 51) rfl rfl rfl ?_
          refine z_cv3i (q := 54) rfl rfl rfl (Sh_k (St_w0 (X_w4 w))) (s_Sh_areJoined (St_w0 (X_w4 w)) hn hN (by omega) hj hc hC) ?_
          refine z_if_eq (q := 57) rfl rfl (fun h54 => ?_) (fun h54 => ?_)
          · have g20 := bz_n.mp h20
            rw [hc] at g20
            exact absurd ⟨⟨bz_n.mp h6, g20⟩, bz_n.mp h30, bz_n.mp h38, bz_0.mp h54⟩ hno
          · refine z_bipush (q := 59) (v := -5) rfl rfl rfl ?_
            refine z_ireti rfl rfl ?_
            have g20 := bz_n.mp h20
            rw [hc] at g20
            rw [if_pos ⟨bz_n.mp h6, g20⟩]
            exact ⟨rfl, rfl⟩
    · refine z_bipush (q := 25) (v := -2) rfl rfl rfl ?_
      refine z_ireti rfl rfl ?_
      first
        | (have g1 := bz_0.mp h20
           rw [hc] at g1
           rw [if_neg (fun h => g1 h.2)]
           exact ⟨rfl, rfl⟩)
        | (have g1 := bz_0.mp h6
           rw [if_neg (fun h => g1 h.1)]
           exact ⟨rfl, rfl⟩)
theorem n_X_snaps {sc : Option (Nat × Nat × (Nat → Int32))} {sa : Nat → Nat} {d : Nat} {M : mz_M} {z : Nat × Nat} {x p q : Nat} (w : g_X M.2.2 x p q) {n : Nat} (hn : M.1 (p + 1) 8 = nI n) (hN : n ≤ 40) {c : Nat} (hc : M.1 (p + 1) 5 = nI c) (hC : c ≤ 12) {a : Int32} (hno : ¬ ((vI n a) ∧ (M.1 p 10 - M.1 p 9 < 30 ∧ ¬ M.1 (p + 3) a.toNatClampNeg = -1))) : zx sc sa (d + 4) 149 [.ref x, .int a] M z z (some (.int (if vI n a then -5 else -2))) M := by
  refine zxin ym_X_snaps [.ref x, .int a] rfl rfl rfl rfl ?_
  refine z_aload_n (q := 1) rfl rfl rfl ?_
  refine z_iload_n (q := 2) rfl rfl rfl ?_
  refine z_cv1i (q := 5) rfl rfl rfl (X_k w) (s_X_hasVersion w hn hN) ?_
  refine z_if_ne (q := 8) rfl rfl (fun h5 => ?_) (fun h5 => ?_)
  · refine z_aload_n (q := 12) rfl rfl rfl ?_
    refine z_cv0i (q := 15) rfl rfl rfl (X_k w) (s_X_hasActLeft w) ?_
    refine z_if_eq (q := 18) rfl rfl (fun h15 => ?_) (fun h15 => ?_)
    · refine z_bipush (q := 34) (v := -5) rfl rfl rfl ?_
      refine z_ireti rfl rfl ?_
      rw [if_pos (bz_n.mp h5)]
      exact ⟨rfl, rfl⟩
    · refine z_aload_n (q := 19) rfl rfl rfl ?_
      obtain ⟨j, hj, rfl⟩ := vI_nat (by omega) (bz_n.mp h5)
      rw [nI_clamp (show j < 2 ^ 31 by omega)] at hno
      refine z_getR (q := 22) rfl rfl rfl (X_k w) (X_r4 w) ?_
      refine z_getR (q := 25) rfl rfl rfl (St_k (X_w4 w)) (St_r0 (X_w4 w)) ?_
      refine z_iload_n (q := 26) rfl rfl rfl ?_
      refine z_cv1i (q := 29) rfl rfl rfl (Sh_k (St_w0 (X_w4 w))) (s_Sh_isDirect (St_w0 (X_w4 w)) hn hN (by omega) hj) ?_
      refine z_if_eq (q := 32) rfl rfl (fun h29 => ?_) (fun h29 => ?_)
      · exact absurd ⟨bz_n.mp h5, bz_n.mp h15, bz_0.mp h29⟩ hno
      · refine z_bipush (q := 34) (v := -5) rfl rfl rfl ?_
        refine z_ireti rfl rfl ?_
        rw [if_pos (bz_n.mp h5)]
        exact ⟨rfl, rfl⟩
  · refine z_bipush (q := 10) (v := -2) rfl rfl rfl ?_
    refine z_ireti rfl rfl ?_
    rw [if_neg (bz_0.mp h5)]
    exact ⟨rfl, rfl⟩
