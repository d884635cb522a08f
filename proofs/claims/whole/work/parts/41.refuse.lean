theorem n_X_reads {sc : Option (Nat × Nat × (Nat → Int32))} {sa : Nat → Nat} {d : Nat} {M : mz_M} {z : Nat × Nat} {x p q : Nat} (w : g_X M.2.2 x p q) {n : Nat} (hn : M.1 (p + 1) 8 = nI n) (hN : n ≤ 40) {c : Nat} (hc : M.1 (p + 1) 5 = nI c) (hC : c ≤ 12) {a b : Int32} (hno : ¬ ((vI n a ∧ vI c b) ∧ (M.1 p 10 - M.1 p 9 < 30))) : zx sc sa (d + 4) 145 [.ref x, .int a, .int b] M z z (some (.int (if vI n a ∧ vI c b then -5 else -2))) M := by
  refine zxin ym_X_reads [.ref x, .int a, .int b] rfl rfl rfl rfl ?_
  refine z_aload_n (q := 1) rfl rfl rfl ?_
  refine z_iload_n (q := 2) rfl rfl rfl ?_
  refine z_iload_n (q := 3) rfl rfl rfl ?_
  refine z_cv2i (q := 6) rfl rfl rfl (X_k w) (s_X_hasSpot w hn hN hc hC) ?_
  refine z_if_ne (q := 9) rfl rfl (fun h6 => ?_) (fun h6 => ?_)
  · refine z_aload_n (q := 13) rfl rfl rfl ?_
    refine z_cv0i (q := 16) rfl rfl rfl (X_k w) (s_X_hasActLeft w) ?_
    refine z_if_eq (q := 19) rfl rfl (fun h16 => ?_) (fun h16 => ?_)
    · refine z_bipush (q := 35) (v := -5) rfl rfl rfl ?_
      refine z_ireti rfl rfl ?_
      rw [if_pos (bz_n.mp h6)]
      exact ⟨rfl, rfl⟩
    · exact absurd ⟨bz_n.mp h6, bz_n.mp h16⟩ hno
  · refine z_bipush (q := 11) (v := -2) rfl rfl rfl ?_
    refine z_ireti rfl rfl ?_
    rw [if_neg (bz_0.mp h6)]
    exact ⟨rfl, rfl⟩
theorem n_X_finds {sc : Option (Nat × Nat × (Nat → Int32))} {sa : Nat → Nat} {d : Nat} {M : mz_M} {z : Nat × Nat} {x p q : Nat} (w : g_X M.2.2 x p q) {n : Nat} (hn : M.1 (p + 1) 8 = nI n) (hN : n ≤ 40) {c : Nat} (hc : M.1 (p + 1) 5 = nI c) (hC : c ≤ 12) {a b : Int32} (hno : ¬ ((vI n a ∧ vI c b) ∧ (M.1 p 10 - M.1 p 9 < 30))) : zx sc sa (d + 4) 148 [.ref x, .int a, .int b] M z z (some (.int (if vI n a ∧ vI c b then -5 else -2))) M := by
  refine zxin ym_X_finds [.ref x, .int a, .int b] rfl rfl rfl rfl ?_
  refine z_aload_n (q := 1) rfl rfl rfl ?_
  refine z_iload_n (q := 2) rfl rfl rfl ?_
  refine z_iload_n (q := 3) rfl rfl rfl ?_
  refine z_cv2i (q := 6) rfl rfl rfl (X_k w) (s_X_hasSpot w hn hN hc hC) ?_
  refine z_if_ne (q := 9) rfl rfl (fun h6 => ?_) (fun h6 => ?_)
  · refine z_aload_n (q := 13) rfl rfl rfl ?_
    refine z_cv0i (q := 16) rfl rfl rfl (X_k w) (s_X_hasActLeft w) ?_
    refine z_if_eq (q := 19) rfl rfl (fun h16 => ?_) (fun h16 => ?_)
    · refine z_bipush (q := 35) (v := -5) rfl rfl rfl ?_
      refine z_ireti rfl rfl ?_
      rw [if_pos (bz_n.mp h6)]
      exact ⟨rfl, rfl⟩
    · exact absurd ⟨bz_n.mp h6, bz_n.mp h16⟩ hno
  · refine z_bipush (q := 11) (v := -2) rfl rfl rfl ?_
    refine z_ireti rfl rfl ?_
    rw [if_neg (bz_0.mp h6)]
    exact ⟨rfl, rfl⟩
theorem n_X_sets {sc : Option (Nat × Nat × (Nat → Int32))} {sa : Nat → Nat} {d : Nat} {M : mz_M} {z : Nat × Nat} {x p q : Nat} (w : g_X M.2.2 x p q) {n : Nat} (hn : M.1 (p + 1) 8 = nI n) (hN : n ≤ 40) {c : Nat} (hc : M.1 (p + 1) 5 = nI c) (hC : c ≤ 12) {a b e : Int32} (hno : ¬ (((vI n a ∧ vI c b) ∧ vI c e) ∧ (M.1 p 10 - M.1 p 9 < 30 ∧ n + 1 ≤ 40))) : zx sc sa (d + 4) 146 [.ref x, .int a, .int b, .int e] M z z (some (.int (if (vI n a ∧ vI c b) ∧ vI c e then -5 else -2))) M := by
  refine zxin ym_X_sets [.ref x, .int a, .int b, .int e] rfl rfl rfl rfl ?_
  refine z_aload_n (q := 1) rfl rfl rfl ?_
  refine z_iload_n (q := 2) rfl rfl rfl ?_
  refine z_iload_n (q := 3) rfl rfl rfl ?_
  refine z_cv2i (q := 6) rfl rfl rfl (X_k w) (s_X_hasSpot w hn hN hc hC) ?_
  refine z_if_eq (q := 9) rfl rfl (fun h6 => ?_) (fun h6 => ?_)
  · refine z_bipush (q := 25) (v := -2) rfl rfl rfl ?_
    refine z_ireti rfl rfl ?_
    first
      | (have g1 := bz_0.mp h20
         rw [hc] at g1
         rw [if_neg (fun h => g1 h.2)]
         exact ⟨rfl, rfl⟩)
      | (have g1 := bz_0.mp h6
         rw [if_neg (fun h => g1 h.1)]
         exact ⟨rfl, rfl⟩)
  · refine z_aload_n (q := 10) rfl rfl rfl ?_
    refine z_getR (q := 13) rfl rfl rfl (X_k w) (X_r4 w) ?_
    refine z_getR (q := 16) rfl rfl rfl (St_k (X_w4 w)) (St_r0 (X_w4 w)) ?_
    refine z_iload_n (q := 17) rfl rfl rfl ?_
    refine z_cv1i (q := 20) rfl rfl rfl (Sh_k (St_w0 (X_w4 w))) (s_Sh_hasCell (St_w0 (X_w4 w))) ?_
    refine z_if_ne (q := 23) rfl rfl (fun h20 => ?_) (fun h20 => ?_)
    · refine z_aload_n (q := 27) rfl rfl rfl ?_
      refine z_cv0i (q := 30) rfl rfl rfl (X_k w) (s_X_hasActLeft w) ?_
      refine z_if_eq (q := 33) rfl rfl (fun h30 => ?_) (fun h30 => ?_)
      · refine z_bipush (q := 43) (v := -5) rfl rfl rfl ?_
        refine z_ireti rfl rfl ?_
        have g20 := bz_n.mp h20
        rw [hc] at g20
        rw [if_pos ⟨bz_n.mp h6, g20⟩]
        exact ⟨rfl, rfl⟩
      · refine z_aload_n (q := 34) rfl rfl rfl ?_
        refine z_iconst (q := 35) (v := 1) rfl rfl rfl ?_
        refine z_cv1i (q := 38) rfl rfl rfl (X_k w) (s_X_hasRoomFor (k := 1) w hn hN (by omega)) ?_
        refine z_if_ne (q := 41) rfl rfl (fun h38 => ?_) (fun h38 => ?_)
        · have g20 := bz_n.mp h20
          rw [hc] at g20
          exact absurd ⟨⟨bz_n.mp h6, g20⟩, bz_n.mp h30, bz_n.mp h38⟩ hno
        · refine z_bipush (q := 43) (v := -5) rfl rfl rfl ?_
          refine z_ireti rfl rfl ?_
          have g20 := bz_n.mp h20
          rw [hc] at g20
          rw [if_pos ⟨bz_n.mp h6, g20⟩]
          exact ⟨rfl, rfl⟩
    · refine z_bipush (q := 25) (v := -2) rfl rfl rfl ?_
      refine z_ireti rfl rfl ?_
      first
        | (have g1 := bz_0.mp h20
           rw [hc] at g1
           rw [if_neg (fun h => g1 h.2)]
           exact ⟨rfl, rfl⟩)
        | (have g1 := bz_0.mp h6
           rw [if_neg (fun h => g1 h.1)]
           exact ⟨rfl, rfl⟩)
theorem n_X_joins {sc : Option (Nat × Nat × (Nat → Int32))} {sa : Nat → Nat} {d : Nat} {M : mz_M} {z : Nat × Nat} {x p q : Nat} (w : g_X M.2.2 x p q) {n : Nat} (hn : M.1 (p + 1) 8 = nI n) (hN : n ≤ 40) {c : Nat} (hc : M.1 (p + 1) 5 = nI c) (hC : c ≤ 12) {a b e : Int32} (hno : ¬ (((vI n a ∧ vI c b) ∧ vI c e) ∧ (M.1 p 10 - M.1 p 9 < 30 ∧ n + 1 ≤ 40 ∧ ¬ rt (M.2.1 (p + 2) a.toNatClampNeg) c b = rt (M.2.1 (p + 2) a.toNatClampNeg) c e))) : zx sc sa (d + 6) 147 [.ref x, .int a, .int b, .int e] M z z (some (.int (if (vI n a ∧ vI c b) ∧ vI c e then -5 else -2))) M := by
  refine zxin ym_X_joins [.ref x, .int a, .int b, .int e] rfl rfl rfl rfl ?_
  refine z_aload_n (q := 1) rfl rfl rfl ?_
  refine z_iload_n (q := 2) rfl rfl rfl ?_
  refine z_iload_n (q := 3) rfl rfl rfl ?_
  refine z_cv2i (q := 6) rfl rfl rfl (X_k w) (s_X_hasSpot w hn hN hc hC) ?_
  refine z_if_eq (q := 9) rfl rfl (fun h6 => ?_) (fun h6 => ?_)
  · refine z_bipush (q := 25) (v := -2) rfl rfl rfl ?_
    refine z_ireti rfl rfl ?_
    first
      | (have g1 := bz_0.mp h20
         rw [hc] at g1
         rw [if_neg (fun h => g1 h.2)]
         exact ⟨rfl, rfl⟩)
      | (have g1 := bz_0.mp h6
         rw [if_neg (fun h => g1 h.1)]
         exact ⟨rfl, rfl⟩)
  · refine z_aload_n (q := 10) rfl rfl rfl ?_
    refine z_getR (q := 13) rfl rfl rfl (X_k w) (X_r4 w) ?_
    refine z_getR (q := 16) rfl rfl rfl (St_k (X_w4 w)) (St_r0 (X_w4 w)) ?_
    refine z_iload_n (q := 17) rfl rfl rfl ?_
    refine z_cv1i (q := 20) rfl rfl rfl (Sh_k (St_w0 (X_w4 w))) (s_Sh_hasCell (St_w0 (X_w4 w))) ?_
    refine z_if_ne (q := 23) rfl rfl (fun h20 => ?_) (fun h20 => ?_)
    · refine z_aload_n (q := 27) rfl rfl rfl ?_
      refine z_cv0i (q := 30) rfl rfl rfl (X_k w) (s_X_hasActLeft w) ?_
      refine z_if_eq (q := 33) rfl rfl (fun h30 => ?_) (fun h30 => ?_)
      · refine z_bipush (q := 59) (v := -5) rfl rfl rfl ?_
        refine z_ireti rfl rfl ?_
        have g20 := bz_n.mp h20
        rw [hc] at g20
        rw [if_pos ⟨bz_n.mp h6, g20⟩]
        exact ⟨rfl, rfl⟩
      · refine z_aload_n (q := 34) rfl rfl rfl ?_
        refine z_iconst (q := 35) (v := 1) rfl rfl rfl ?_
        refine z_cv1i (q := 38) rfl rfl rfl (X_k w) (s_X_hasRoomFor (k := 1) w hn hN (by omega)) ?_
        refine z_if_eq (q := 41) rfl rfl (fun h38 => ?_) (fun h38 => ?_)
        · refine z_bipush (q := 59) (v := -5) rfl rfl rfl ?_
          refine z_ireti rfl rfl ?_
          have g20 := bz_n.mp h20
          rw [hc] at g20
          rw [if_pos ⟨bz_n.mp h6, g20⟩]
          exact ⟨rfl, rfl⟩
        · refine z_aload_n (q := 42) rfl rfl rfl ?_
          obtain ⟨j, hj, rfl⟩ := vI_nat (by omega) (bz_n.mp h6).1
          rw [nI_clamp (show j < 2 ^ 31 by omega)] at hno
          refine z_getR (q := 45) rfl rfl rfl (X_k w) (X_r4 w) ?_
          refine z_getR (q := 48) rfl rfl rfl (St_k (X_w4 w)) (St_r0 (X_w4 w)) ?_
          refine z_iload_n (q := 49) rfl rfl rfl ?_
          refine z_iload_n (q := 50) rfl rfl rfl ?_
          refine z_iload_n (q := 51) rfl rfl rfl ?_
          refine z_cv3i (q := 54) rfl rfl rfl (Sh_k (St_w0 (X_w4 w))) (s_Sh_areJoined (St_w0 (X_w4 w)) hn hN (by omega) hj hc hC) ?_
          refine z_if_eq (q := 57) rfl rfl (fun h54 => ?_) (fun h54 => ?_)
          · have g20 := bz_n.mp h20
            rw [hc] at g20
            exact absurd ⟨⟨bz_n.mp h6, g20⟩, bz_n.mp h30, bz_n.mp h38, bz_0.mp h54⟩ hno
          · refine z_bipush (q := 59) (v := -5) rfl rfl rfl ?_
            refine z_ireti rfl rfl ?_
            have g20 := bz_n.mp h20
            rw [hc] at g20
            rw [if_pos ⟨bz_n.mp h6, g20⟩]
            exact ⟨rfl, rfl⟩
    · refine z_bipush (q := 25) (v := -2) rfl rfl rfl ?_
      refine z_ireti rfl rfl ?_
      first
        | (have g1 := bz_0.mp h20
           rw [hc] at g1
           rw [if_neg (fun h => g1 h.2)]
           exact ⟨rfl, rfl⟩)
        | (have g1 := bz_0.mp h6
           rw [if_neg (fun h => g1 h.1)]
           exact ⟨rfl, rfl⟩)
theorem n_X_snaps {sc : Option (Nat × Nat × (Nat → Int32))} {sa : Nat → Nat} {d : Nat} {M : mz_M} {z : Nat × Nat} {x p q : Nat} (w : g_X M.2.2 x p q) {n : Nat} (hn : M.1 (p + 1) 8 = nI n) (hN : n ≤ 40) {c : Nat} (hc : M.1 (p + 1) 5 = nI c) (hC : c ≤ 12) {a : Int32} (hno : ¬ ((vI n a) ∧ (M.1 p 10 - M.1 p 9 < 30 ∧ ¬ M.1 (p + 3) a.toNatClampNeg = -1))) : zx sc sa (d + 4) 149 [.ref x, .int a] M z z (some (.int (if vI n a then -5 else -2))) M := by
  refine zxin ym_X_snaps [.ref x, .int a] rfl rfl rfl rfl ?_
  refine z_aload_n (q := 1) rfl rfl rfl ?_
  refine z_iload_n (q := 2) rfl rfl rfl ?_
  refine z_cv1i (q := 5) rfl rfl rfl (X_k w) (s_X_hasVersion w hn hN) ?_
  refine z_if_ne (q := 8) rfl rfl (fun h5 => ?_) (fun h5 => ?_)
  · refine z_aload_n (q := 12) rfl rfl rfl ?_
    refine z_cv0i (q := 15) rfl rfl rfl (X_k w) (s_X_hasActLeft w) ?_
    refine z_if_eq (q := 18) rfl rfl (fun h15 => ?_) (fun h15 => ?_)
    · refine z_bipush (q := 34) (v := -5) rfl rfl rfl ?_
      refine z_ireti rfl rfl ?_
      rw [if_pos (bz_n.mp h5)]
      exact ⟨rfl, rfl⟩
    · refine z_aload_n (q := 19) rfl rfl rfl ?_
      obtain ⟨j, hj, rfl⟩ := vI_nat (by omega) (bz_n.mp h5)
      rw [nI_clamp (show j < 2 ^ 31 by omega)] at hno
      refine z_getR (q := 22) rfl rfl rfl (X_k w) (X_r4 w) ?_
      refine z_getR (q := 25) rfl rfl rfl (St_k (X_w4 w)) (St_r0 (X_w4 w)) ?_
      refine z_iload_n (q := 26) rfl rfl rfl ?_
      refine z_cv1i (q := 29) rfl rfl rfl (Sh_k (St_w0 (X_w4 w))) (s_Sh_isDirect (St_w0 (X_w4 w)) hn hN (by omega) hj) ?_
      refine z_if_eq (q := 32) rfl rfl (fun h29 => ?_) (fun h29 => ?_)
      · exact absurd ⟨bz_n.mp h5, bz_n.mp h15, bz_0.mp h29⟩ hno
      · refine z_bipush (q := 34) (v := -5) rfl rfl rfl ?_
        refine z_ireti rfl rfl ?_
        rw [if_pos (bz_n.mp h5)]
        exact ⟨rfl, rfl⟩
  · refine z_bipush (q := 10) (v := -2) rfl rfl rfl ?_
    refine z_ireti rfl rfl ?_
    rw [if_neg (bz_0.mp h5)]
    exact ⟨rfl, rfl⟩
theorem m_X_merging0 {sc : Option (Nat × Nat × (Nat → Int32))} {sa : Nat → Nat} {d : Nat} {M : mz_M} {z : Nat × Nat} {x p q : Nat} (w : g_X M.2.2 x p q) {n : Nat} (hn : M.1 (p + 1) 8 = nI n) (hN : n ≤ 40) {c : Nat} (hc : M.1 (p + 1) 5 = nI c) (hC : c ≤ 12) (ho : okm (M.1 (p + 5)) n) {j i : Nat} (hj : j < n) (hi : i < n) {u : Nat} (hu : ulN (M.2.1 (p + 2) j) (fo (mgG (M.2.1 (p + 2) (mtN (M.1 (p + 5)) (2 * n) j i)) (M.2.1 (p + 2) j) (M.2.1 (p + 2) i)) (M.2.1 (p + 2) j) c) c = nI u) : zx sc sa (d + 5) 150 [.ref x, .int (nI j), .int (nI i), .int 0] M z z (some (.int (nI u))) M := by
  have e := @s_X_merging sc sa d M z x p q w n hn hN c hc hC ho (nI j) (nI i) 0
  rw [if_pos ⟨vI_of (by omega) hj, vI_of (by omega) hi, by decide, by decide⟩, if_neg (by decide), nI_clamp (show j < 2 ^ 31 by omega), nI_clamp (show i < 2 ^ 31 by omega)] at e
  rw [← hu]
  exact e
theorem m_X_patching {sc : Option (Nat × Nat × (Nat → Int32))} {sa : Nat → Nat} {d : Nat} {M : mz_M} {z : Nat × Nat} {x p q : Nat} (w : g_X M.2.2 x p q) {n : Nat} (hn : M.1 (p + 1) 8 = nI n) (hN : n ≤ 40) {c : Nat} (hc : M.1 (p + 1) 5 = nI c) (hC : c ≤ 12) {j i k : Nat} (hj : j < n) (hi : i < n) (hk : k < n) {u : Nat} (hu : ulN (M.2.1 (p + 2) k) (fo (paG (M.2.1 (p + 2) j) (M.2.1 (p + 2) i)) (M.2.1 (p + 2) k) c) c = nI u) : zx sc sa (d + 4) 153 [.ref x, .int (nI j), .int (nI i), .int (nI k)] M z z (some (.int (nI u))) M := by
  have e := @s_X_patching sc sa d M z x p q w n hn hN c hc hC (nI j) (nI i) (nI k)
  rw [if_pos ⟨vI_of (by omega) hj, vI_of (by omega) hi, vI_of (by omega) hk⟩, nI_clamp (show j < 2 ^ 31 by omega), nI_clamp (show i < 2 ^ 31 by omega), nI_clamp (show k < 2 ^ 31 by omega)] at e
  rw [← hu]
  exact e
theorem n_X_merges {sc : Option (Nat × Nat × (Nat → Int32))} {sa : Nat → Nat} {d : Nat} {M : mz_M} {z : Nat × Nat} {x p q : Nat} (w : g_X M.2.2 x p q) {n : Nat} (hn : M.1 (p + 1) 8 = nI n) (hN : n ≤ 40) {c : Nat} (hc : M.1 (p + 1) 5 = nI c) (hC : c ≤ 12) (ho : okm (M.1 (p + 5)) n) {V : Nat → Nat → Nat} (hV : ∀ j i, j < n → i < n → ulN (M.2.1 (p + 2) j) (fo (mgG (M.2.1 (p + 2) (mtN (M.1 (p + 5)) (2 * n) j i)) (M.2.1 (p + 2) j) (M.2.1 (p + 2) i)) (M.2.1 (p + 2) j) c) c = nI (V j i) ∧ V j i ≤ 100) {a b : Int32} (hno : ¬ ((vI n a ∧ vI n b) ∧ (M.1 p 10 - M.1 p 9 < 30 ∧ n + V a.toNatClampNeg b.toNatClampNeg ≤ 40))) : zx sc sa (d + 6) 152 [.ref x, .int a, .int b] M z z (some (.int (if vI n a ∧ vI n b then -5 else -2))) M := by
  refine zxin ym_X_merges [.ref x, .int a, .int b] rfl rfl rfl rfl ?_
  refine z_aload_n (q := 1) rfl rfl rfl ?_
  refine z_iload_n (q := 2) rfl rfl rfl ?_
  refine z_iload_n (q := 3) rfl rfl rfl ?_
  refine z_cv2i (q := 6) rfl rfl rfl (X_k w) (s_X_hasVersions w hn hN) ?_
  refine z_if_ne (q := 9) rfl rfl (fun h6 => ?_) (fun h6 => ?_)
  · refine z_aload_n (q := 13) rfl rfl rfl ?_
    refine z_cv0i (q := 16) rfl rfl rfl (X_k w) (s_X_hasActLeft w) ?_
    refine z_if_eq (q := 19) rfl rfl (fun h16 => ?_) (fun h16 => ?_)
    · refine z_bipush (q := 35) (v := -5) rfl rfl rfl ?_
      refine z_ireti rfl rfl ?_
      rw [if_pos (bz_n.mp h6)]
      exact ⟨rfl, rfl⟩
    · refine z_aload_n (q := 20) rfl rfl rfl ?_
      obtain ⟨j, hj, rfl⟩ := vI_nat (n := n) (by omega) (bz_n.mp h6).1
      obtain ⟨i, hi, rfl⟩ := vI_nat (n := n) (by omega) (bz_n.mp h6).2
      rw [nI_clamp (show j < 2 ^ 31 by omega), nI_clamp (show i < 2 ^ 31 by omega)] at hno
      refine z_aload_n (q := 21) rfl rfl rfl ?_
      refine z_iload_n (q := 22) rfl rfl rfl ?_
      refine z_iload_n (q := 23) rfl rfl rfl ?_
      refine z_iconst (q := 24) (v := 0) rfl rfl rfl ?_
      refine z_cv3i (q := 27) rfl rfl rfl (X_k w) (m_X_merging0 w hn hN hc hC ho hj hi (hV j i hj hi).1) ?_
      refine z_cv1i (q := 30) rfl rfl rfl (X_k w) (s_X_hasRoomFor w hn hN (hV j i hj hi).2) ?_
      refine z_if_ne (q := 33) rfl rfl (fun h30 => ?_) (fun h30 => ?_)
      · exact absurd ⟨bz_n.mp h6, bz_n.mp h16, bz_n.mp h30⟩ hno
      · refine z_bipush (q := 35) (v := -5) rfl rfl rfl ?_
        refine z_ireti rfl rfl ?_
        rw [if_pos (bz_n.mp h6)]
        exact ⟨rfl, rfl⟩
  · refine z_bipush (q := 11) (v := -2) rfl rfl rfl ?_
    refine z_ireti rfl rfl ?_
    rw [if_neg (bz_0.mp h6)]
    exact ⟨rfl, rfl⟩
theorem n_X_patches {sc : Option (Nat × Nat × (Nat → Int32))} {sa : Nat → Nat} {d : Nat} {M : mz_M} {z : Nat × Nat} {x p q : Nat} (w : g_X M.2.2 x p q) {n : Nat} (hn : M.1 (p + 1) 8 = nI n) (hN : n ≤ 40) {c : Nat} (hc : M.1 (p + 1) 5 = nI c) (hC : c ≤ 12) {V : Nat → Nat → Nat → Nat} (hV : ∀ j i k, j < n → i < n → k < n → ulN (M.2.1 (p + 2) k) (fo (paG (M.2.1 (p + 2) j) (M.2.1 (p + 2) i)) (M.2.1 (p + 2) k) c) c = nI (V j i k) ∧ V j i k ≤ 100) {a b e : Int32} (hno : ¬ (((vI n a ∧ vI n b) ∧ vI n e) ∧ (M.1 p 10 - M.1 p 9 < 30 ∧ n + V a.toNatClampNeg b.toNatClampNeg e.toNatClampNeg ≤ 40))) : zx sc sa (d + 6) 154 [.ref x, .int a, .int b, .int e] M z z (some (.int (if (vI n a ∧ vI n b) ∧ vI n e then -5 else -2))) M := by
  refine zxin ym_X_patches [.ref x, .int a, .int b, .int e] rfl rfl rfl rfl ?_
  refine z_aload_n (q := 1) rfl rfl rfl ?_
  refine z_iload_n (q := 2) rfl rfl rfl ?_
  refine z_iload_n (q := 3) rfl rfl rfl ?_
  refine z_cv2i (q := 6) rfl rfl rfl (X_k w) (s_X_hasVersions w hn hN) ?_
  refine z_if_eq (q := 9) rfl rfl (fun h6 => ?_) (fun h6 => ?_)
  · refine z_bipush (q := 19) (v := -2) rfl rfl rfl ?_
    refine z_ireti rfl rfl ?_
    first
      | (have g1 := bz_0.mp h14
         rw [if_neg (fun h => g1 h.2)]
         exact ⟨rfl, rfl⟩)
      | (have g1 := bz_0.mp h6
         rw [if_neg (fun h => g1 h.1)]
         exact ⟨rfl, rfl⟩)
  · refine z_aload_n (q := 10) rfl rfl rfl ?_
    refine z_iload_n (q := 11) rfl rfl rfl ?_
    refine z_cv1i (q := 14) rfl rfl rfl (X_k w) (s_X_hasVersion w hn hN) ?_
    refine z_if_ne (q := 17) rfl rfl (fun h14 => ?_) (fun h14 => ?_)
    · refine z_aload_n (q := 21) rfl rfl rfl ?_
      refine z_cv0i (q := 24) rfl rfl rfl (X_k w) (s_X_hasActLeft w) ?_
      refine z_if_eq (q := 27) rfl rfl (fun h24 => ?_) (fun h24 => ?_)
      · refine z_bipush (q := 43) (v := -5) rfl rfl rfl ?_
        refine z_ireti rfl rfl ?_
        rw [if_pos ⟨bz_n.mp h6, bz_n.mp h14⟩]
        exact ⟨rfl, rfl⟩
      · refine z_aload_n (q := 28) rfl rfl rfl ?_
        obtain ⟨j, hj, rfl⟩ := vI_nat (n := n) (by omega) (bz_n.mp h6).1
        obtain ⟨i, hi, rfl⟩ := vI_nat (n := n) (by omega) (bz_n.mp h6).2
        obtain ⟨k, hk, rfl⟩ := vI_nat (n := n) (by omega) (bz_n.mp h14)
        rw [nI_clamp (show j < 2 ^ 31 by omega), nI_clamp (show i < 2 ^ 31 by omega), nI_clamp (show k < 2 ^ 31 by omega)] at hno
        refine z_aload_n (q := 29) rfl rfl rfl ?_
        refine z_iload_n (q := 30) rfl rfl rfl ?_
        refine z_iload_n (q := 31) rfl rfl rfl ?_
        refine z_iload_n (q := 32) rfl rfl rfl ?_
        refine z_cv3i (q := 35) rfl rfl rfl (X_k w) (m_X_patching w hn hN hc hC hj hi hk (hV j i k hj hi hk).1) ?_
        refine z_cv1i (q := 38) rfl rfl rfl (X_k w) (s_X_hasRoomFor w hn hN (hV j i k hj hi hk).2) ?_
        refine z_if_ne (q := 41) rfl rfl (fun h38 => ?_) (fun h38 => ?_)
        · exact absurd ⟨⟨bz_n.mp h6, bz_n.mp h14⟩, bz_n.mp h24, bz_n.mp h38⟩ hno
        · refine z_bipush (q := 43) (v := -5) rfl rfl rfl ?_
          refine z_ireti rfl rfl ?_
          rw [if_pos ⟨bz_n.mp h6, bz_n.mp h14⟩]
          exact ⟨rfl, rfl⟩
    · refine z_bipush (q := 19) (v := -2) rfl rfl rfl ?_
      refine z_ireti rfl rfl ?_
      first
        | (have g1 := bz_0.mp h14
           rw [if_neg (fun h => g1 h.2)]
           exact ⟨rfl, rfl⟩)
        | (have g1 := bz_0.mp h6
           rw [if_neg (fun h => g1 h.1)]
           exact ⟨rfl, rfl⟩)
