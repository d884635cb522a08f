theorem s_Sh_has {sc : Option (Nat × Nat × (Nat → Int32))} {sa : Nat → Nat} {d : Nat} {M : mz_M} {z : Nat × Nat} {sh N : Nat} (w : g_Sh M.2.2 sh N) {v : Int32} : zx sc sa (d + 1) 19 [.ref sh, .int v] M z z (some (.int (bz (0 ≤ v ∧ v < M.1 sh 8)))) M := by
  refine zxin ym_Sh_has [.ref sh, .int v] rfl rfl rfl rfl ?_
  refine z_iload_n (q := 1) rfl rfl rfl ?_
  refine z_if_lt (q := 4) rfl rfl (fun h1 => ?_) (fun h1 => ?_)
  · refine z_iconst (q := 17) (v := 0) rfl rfl rfl ?_
    refine z_iretz rfl rfl (rfl) ?_
    refine ⟨?_, rfl⟩
    unfold bz
    simp_all [Int32.not_lt, Int32.not_le, Int32.le_iff_toInt_le, Int32.lt_iff_toInt_lt]
    try omega
  · refine z_iload_n (q := 5) rfl rfl rfl ?_
    refine z_aload_n (q := 6) rfl rfl rfl ?_
    refine z_getI (q := 9) rfl rfl rfl (Sh_k w) ?_
    refine z_ic_ge (q := 12) rfl rfl (fun h9 => ?_) (fun h9 => ?_)
    · refine z_iconst (q := 17) (v := 0) rfl rfl rfl ?_
      refine z_iretz rfl rfl (rfl) ?_
      refine ⟨?_, rfl⟩
      unfold bz
      simp_all [Int32.not_lt, Int32.not_le, Int32.le_iff_toInt_le, Int32.lt_iff_toInt_lt]
      try omega
    · refine z_iconst (q := 13) (v := 1) rfl rfl rfl ?_
      refine z_goto rfl ?_
      refine z_iretz rfl rfl (rfl) ?_
      refine ⟨?_, rfl⟩
      unfold bz
      simp_all [Int32.not_lt, Int32.not_le, Int32.le_iff_toInt_le, Int32.lt_iff_toInt_lt]
      try omega
theorem s_Sh_hasCell {sc : Option (Nat × Nat × (Nat → Int32))} {sa : Nat → Nat} {d : Nat} {M : mz_M} {z : Nat × Nat} {sh N : Nat} (w : g_Sh M.2.2 sh N) {v : Int32} : zx sc sa (d + 1) 20 [.ref sh, .int v] M z z (some (.int (bz (0 ≤ v ∧ v < M.1 sh 5)))) M := by
  refine zxin ym_Sh_hasCell [.ref sh, .int v] rfl rfl rfl rfl ?_
  refine z_iload_n (q := 1) rfl rfl rfl ?_
  refine z_if_lt (q := 4) rfl rfl (fun h1 => ?_) (fun h1 => ?_)
  · refine z_iconst (q := 17) (v := 0) rfl rfl rfl ?_
    refine z_iretz rfl rfl (rfl) ?_
    refine ⟨?_, rfl⟩
    unfold bz
    simp_all [Int32.not_lt, Int32.not_le, Int32.le_iff_toInt_le, Int32.lt_iff_toInt_lt]
    try omega
  · refine z_iload_n (q := 5) rfl rfl rfl ?_
    refine z_aload_n (q := 6) rfl rfl rfl ?_
    refine z_getI (q := 9) rfl rfl rfl (Sh_k w) ?_
    refine z_ic_ge (q := 12) rfl rfl (fun h9 => ?_) (fun h9 => ?_)
    · refine z_iconst (q := 17) (v := 0) rfl rfl rfl ?_
      refine z_iretz rfl rfl (rfl) ?_
      refine ⟨?_, rfl⟩
      unfold bz
      simp_all [Int32.not_lt, Int32.not_le, Int32.le_iff_toInt_le, Int32.lt_iff_toInt_lt]
      try omega
    · refine z_iconst (q := 13) (v := 1) rfl rfl rfl ?_
      refine z_goto rfl ?_
      refine z_iretz rfl rfl (rfl) ?_
      refine ⟨?_, rfl⟩
      unfold bz
      simp_all [Int32.not_lt, Int32.not_le, Int32.le_iff_toInt_le, Int32.lt_iff_toInt_lt]
      try omega
theorem s_Sh_has1 {sc : Option (Nat × Nat × (Nat → Int32))} {sa : Nat → Nat} {d : Nat} {M : mz_M} {z : Nat × Nat} {sh N : Nat} (w : g_Sh M.2.2 sh N) {n : Nat} (hn : M.1 sh 8 = nI n) (hN : n ≤ N) (hM : N ≤ 200) {j : Nat} (hj : j < n) : zx sc sa (d + 1) 19 [.ref sh, .int (nI j)] M z z (some (.int 1)) M := by
  have h := s_Sh_has (sc := sc) (sa := sa) (d := d) (z := z) w (v := nI j)
  rw [hn, bz_t ⟨nI_pos' (by omega), nI_lt hj (by omega)⟩] at h
  exact h
theorem s_Sh_hasM {sc : Option (Nat × Nat × (Nat → Int32))} {sa : Nat → Nat} {d : Nat} {M : mz_M} {z : Nat × Nat} {sh N : Nat} (w : g_Sh M.2.2 sh N)  : zx sc sa (d + 1) 19 [.ref sh, .int (-1)] M z z (some (.int 0)) M := by
  have h := s_Sh_has (sc := sc) (sa := sa) (d := d) (z := z) w (v := -1)
  rw [bz_f (fun e => absurd e.1 (by decide))] at h
  exact h
theorem s_Sh_numberIn {sc : Option (Nat × Nat × (Nat → Int32))} {sa : Nat → Nat} {d : Nat} {M : mz_M} {z : Nat × Nat} {row : Int64} {cell : Int32} : zx sc sa (d + 1) 21 [.long row, .int cell] M z z (some (.int (nmI row cell))) M := by
  refine zxin ym_Sh_numberIn [.long row, .retAddr 0, .int cell] rfl rfl rfl rfl ?_
  refine z_lload_n (q := 1) rfl rfl rfl ?_
  refine z_iconst (q := 2) (v := 4) rfl rfl rfl ?_
  refine z_iload_n (q := 3) rfl rfl rfl ?_
  refine z_imul (q := 4) rfl rfl ?_
  refine z_lushr (q := 5) rfl rfl ?_
  refine z_l2i (q := 6) rfl rfl ?_
  refine z_bipush (q := 8) (v := 15) rfl rfl rfl ?_
  refine z_iand (q := 9) rfl rfl ?_
  refine z_ireti rfl rfl ?_
  exact ⟨rfl, rfl⟩
theorem s_Sh_withNumber {sc : Option (Nat × Nat × (Nat → Int32))} {sa : Nat → Nat} {d : Nat} {M : mz_M} {z : Nat × Nat} {row : Int64} {cell number : Int32} : zx sc sa (d + 1) 22 [.long row, .int cell, .int number] M z z (some (.long (wnI row cell number))) M := by
  refine zxin ym_Sh_withNumber [.long row, .retAddr 0, .int cell, .int number, .retAddr 0, .retAddr 0] rfl rfl rfl rfl ?_
  refine z_lload_n (q := 1) rfl rfl rfl ?_
  refine z_ldc2 (q := 4) (v := 15) rfl rfl rfl ?_
  refine z_iconst (q := 5) (v := 4) rfl rfl rfl ?_
  refine z_iload_n (q := 6) rfl rfl rfl ?_
  refine z_imul (q := 7) rfl rfl ?_
  refine z_lshl (q := 8) rfl rfl ?_
  refine z_ldc2 (q := 11) (v := -1) rfl rfl rfl ?_
  refine z_lxor (q := 12) rfl rfl ?_
  refine z_land (q := 13) rfl rfl ?_
  refine z_lstore (q := 15) (L2 := [_, _, _, _, _, _]) rfl rfl rfl rfl ?_
  refine z_lload (q := 17) rfl rfl rfl ?_
  refine z_iload_n (q := 18) rfl rfl rfl ?_
  refine z_bipush (q := 20) (v := 15) rfl rfl rfl ?_
  refine z_iand (q := 21) rfl rfl ?_
  refine z_i2l (q := 22) rfl rfl ?_
  refine z_iconst (q := 23) (v := 4) rfl rfl rfl ?_
  refine z_iload_n (q := 24) rfl rfl rfl ?_
  refine z_imul (q := 25) rfl rfl ?_
  refine z_lshl (q := 26) rfl rfl ?_
  refine z_lor (q := 27) rfl rfl ?_
  refine z_lret rfl rfl ?_
  exact ⟨rfl, rfl⟩
theorem s_Sh_rowOf {sc : Option (Nat × Nat × (Nat → Int32))} {sa : Nat → Nat} {d : Nat} {M : mz_M} {z : Nat × Nat} {sh N : Nat} (w : g_Sh M.2.2 sh N) {n : Nat} (hn : M.1 sh 8 = nI n) (hN : n ≤ N) (hM : N ≤ 200) {j : Nat} (hj : j < n)  : zx sc sa (d + 2) 23 [.ref sh, .int (nI j)] M z z (some (.long (M.2.1 (sh + 1) j))) M := by
  refine zxin ym_Sh_rowOf [.ref sh, .int (nI j)] rfl rfl rfl rfl ?_
  refine z_aload_n (q := 1) rfl rfl rfl ?_
  refine z_iload_n (q := 2) rfl rfl rfl ?_
  refine z_cv1i (q := 5) rfl rfl rfl (Sh_k w) (s_Sh_has1 w hn hN hM hj) ?_
  refine z_if_eq (q := 8) rfl rfl (fun h5 => ?_) (fun h5 => ?_)
  · exact absurd h5 (by decide)
  · refine z_aload_n (q := 9) rfl rfl rfl ?_
    refine z_getR (q := 12) rfl rfl rfl (Sh_k w) (Sh_r0 w) ?_
    refine z_iload_n (q := 13) rfl rfl rfl ?_
    refine z_lald (q := 14) rfl rfl (Sh_a0 w) (by first | assumption | exact vp_in_nI (by omega) (by omega)) ?_
    refine z_goto rfl ?_
    refine z_lret rfl rfl ?_
    rw [nI_clamp (by omega)]
    exact ⟨rfl, rfl⟩
theorem s_Sh_numberAt {sc : Option (Nat × Nat × (Nat → Int32))} {sa : Nat → Nat} {d : Nat} {M : mz_M} {z : Nat × Nat} {sh N : Nat} (w : g_Sh M.2.2 sh N) {n : Nat} (hn : M.1 sh 8 = nI n) (hN : n ≤ N) (hM : N ≤ 200) {j : Nat} (hj : j < n) {cell : Int32} : zx sc sa (d + 2) 24 [.ref sh, .int (nI j), .int cell] M z z (some (.int (nmI (M.2.1 (sh + 1) j) cell))) M := by
  refine zxin ym_Sh_numberAt [.ref sh, .int (nI j), .int cell] rfl rfl rfl rfl ?_
  refine z_aload_n (q := 1) rfl rfl rfl ?_
  refine z_iload_n (q := 2) rfl rfl rfl ?_
  refine z_cv1i (q := 5) rfl rfl rfl (Sh_k w) (s_Sh_has1 w hn hN hM hj) ?_
  refine z_if_eq (q := 8) rfl rfl (fun h5 => ?_) (fun h5 => ?_)
  · exact absurd h5 (by decide)
  · refine z_aload_n (q := 9) rfl rfl rfl ?_
    refine z_getR (q := 12) rfl rfl rfl (Sh_k w) (Sh_r0 w) ?_
    refine z_iload_n (q := 13) rfl rfl rfl ?_
    refine z_lald (q := 14) rfl rfl (Sh_a0 w) (by first | assumption | exact vp_in_nI (by omega) (by omega)) ?_
    refine z_iload_n (q := 15) rfl rfl rfl ?_
    refine z_cs2i (q := 18) rfl rfl rfl (s_Sh_numberIn) ?_
    refine z_goto rfl ?_
    refine z_ireti rfl rfl ?_
    rw [nI_clamp (by omega)]
    exact ⟨rfl, rfl⟩
theorem s_Sh_parentOf {sc : Option (Nat × Nat × (Nat → Int32))} {sa : Nat → Nat} {d : Nat} {M : mz_M} {z : Nat × Nat} {sh N : Nat} (w : g_Sh M.2.2 sh N) {n : Nat} (hn : M.1 sh 8 = nI n) (hN : n ≤ N) (hM : N ≤ 200) {j : Nat} (hj : j < n)  : zx sc sa (d + 2) 28 [.ref sh, .int (nI j)] M z z (some (.int (M.1 (sh + 4) j))) M := by
  refine zxin ym_Sh_parentOf [.ref sh, .int (nI j)] rfl rfl rfl rfl ?_
  refine z_aload_n (q := 1) rfl rfl rfl ?_
  refine z_iload_n (q := 2) rfl rfl rfl ?_
  refine z_cv1i (q := 5) rfl rfl rfl (Sh_k w) (s_Sh_has1 w hn hN hM hj) ?_
  refine z_if_eq (q := 8) rfl rfl (fun h5 => ?_) (fun h5 => ?_)
  · exact absurd h5 (by decide)
  · refine z_aload_n (q := 9) rfl rfl rfl ?_
    refine z_getR (q := 12) rfl rfl rfl (Sh_k w) (Sh_r3 w) ?_
    refine z_iload_n (q := 13) rfl rfl rfl ?_
    refine z_iald (q := 14) rfl rfl (Sh_a3 w) (by first | assumption | exact vp_in_nI (by omega) (by omega)) ?_
    refine z_goto rfl ?_
    refine z_ireti rfl rfl ?_
    rw [nI_clamp (by omega)]
    exact ⟨rfl, rfl⟩
theorem s_Sh_isDirect {sc : Option (Nat × Nat × (Nat → Int32))} {sa : Nat → Nat} {d : Nat} {M : mz_M} {z : Nat × Nat} {sh N : Nat} (w : g_Sh M.2.2 sh N) {n : Nat} (hn : M.1 sh 8 = nI n) (hN : n ≤ N) (hM : N ≤ 200) {j : Nat} (hj : j < n)  : zx sc sa (d + 2) 37 [.ref sh, .int (nI j)] M z z (some (.int (bz (M.1 (sh + 2) j = -1)))) M := by
  refine zxin ym_Sh_isDirect [.ref sh, .int (nI j)] rfl rfl rfl rfl ?_
  refine z_aload_n (q := 1) rfl rfl rfl ?_
  refine z_iload_n (q := 2) rfl rfl rfl ?_
  refine z_cv1i (q := 5) rfl rfl rfl (Sh_k w) (s_Sh_has1 w hn hN hM hj) ?_
  refine z_if_eq (q := 8) rfl rfl (fun h5 => ?_) (fun h5 => ?_)
  · exact absurd h5 (by decide)
  · refine z_aload_n (q := 9) rfl rfl rfl ?_
    refine z_getR (q := 12) rfl rfl rfl (Sh_k w) (Sh_r1 w) ?_
    refine z_iload_n (q := 13) rfl rfl rfl ?_
    refine z_iald (q := 14) rfl rfl (Sh_a1 w) (by first | assumption | exact vp_in_nI (by omega) (by omega)) ?_
    refine z_iconst (q := 15) (v := -1) rfl rfl rfl ?_
    refine z_ic_ne (q := 18) rfl rfl (fun h15 => ?_) (fun h15 => ?_)
    · refine z_iconst (q := 23) (v := 0) rfl rfl rfl ?_
      refine z_iretz rfl rfl (rfl) ?_
      rw [nI_clamp (by omega)] at h15
      refine ⟨?_, rfl⟩
      unfold bz
      simp_all
    · refine z_iconst (q := 19) (v := 1) rfl rfl rfl ?_
      refine z_goto rfl ?_
      refine z_iretz rfl rfl (rfl) ?_
      rw [nI_clamp (by omega)] at h15
      refine ⟨?_, rfl⟩
      unfold bz
      simp_all
theorem l_Sh_wayFrom {sc : Option (Nat × Nat × (Nat → Int32))} {sa : Nat → Nat} {d : Nat} {M : mz_M} {z : Nat × Nat} {sh N : Nat} (w : g_Sh M.2.2 sh N) {n : Nat} (hn : M.1 sh 8 = nI n) (hN : n ≤ N) (hM : N ≤ 200) (hf : okl (M.1 (sh + 2)) n) {v0 : Int32} {m : Nat} : ∀ (k : Nat) (i u : Nat), i + k = n → u < n → i + wl (M.1 (sh + 2)) k u = m → zw sc sa d ym_Sh_wayFrom z (fun r' M' => r' = some (.int (nI m)) ∧ M' = M) 4 [.ref sh, .int v0, .int (nI i), .int (nI u)] [] M z := by
  intro k
  induction k with
  | zero =>
    intro i u hi hu hm
    have e1 : i = n := by omega
    have e2 : i = m := hm
    subst e2
    refine z_iload_n (q := 5) rfl rfl rfl ?_
    refine z_aload_n (q := 6) rfl rfl rfl ?_
    refine z_getI (q := 9) rfl rfl rfl (Sh_k w) ?_
    refine z_ic_ge (q := 12) rfl rfl (fun h9 => ?_) (fun h9 => ?_)
    · refine z_iload_n (q := 48) rfl rfl rfl ?_
      refine z_ireti rfl rfl ?_
      exact ⟨rfl, rfl⟩
    · rw [hn, e1] at h9
      exact absurd (nI_le (Nat.le_refl n) (by omega)) h9
  | succ k ih =>
    intro i u hi hu hm
    refine z_iload_n (q := 5) rfl rfl rfl ?_
    refine z_aload_n (q := 6) rfl rfl rfl ?_
    refine z_getI (q := 9) rfl rfl rfl (Sh_k w) ?_
    refine z_ic_ge (q := 12) rfl rfl (fun h9 => ?_) (fun h9 => ?_)
    · rw [hn] at h9
      exact absurd h9 (nI_ge (by omega) (by omega))
    · refine z_iload_n (q := 13) rfl rfl rfl ?_
      refine z_if_lt (q := 16) rfl rfl (fun h13 => ?_) (fun h13 => ?_)
      · exact absurd h13 (nI_pos (by omega))
      · refine z_iload_n (q := 17) rfl rfl rfl ?_
        refine z_aload_n (q := 18) rfl rfl rfl ?_
        refine z_getI (q := 21) rfl rfl rfl (Sh_k w) ?_
        refine z_ic_ge (q := 24) rfl rfl (fun h21 => ?_) (fun h21 => ?_)
        · rw [hn] at h21
          exact absurd h21 (nI_ge (by omega) (by omega))
        · refine z_aload_n (q := 25) rfl rfl rfl ?_
          refine z_getR (q := 28) rfl rfl rfl (Sh_k w) (Sh_r1 w) ?_
          refine z_iload_n (q := 29) rfl rfl rfl ?_
          refine z_iald (q := 30) rfl rfl (Sh_a1 w) (by first | assumption | exact vp_in_nI (by omega) (by omega)) ?_
          refine z_iconst (q := 31) (v := -1) rfl rfl rfl ?_
          refine z_ic_eq (q := 34) rfl rfl (fun h31 => ?_) (fun h31 => ?_)
          · refine z_iload_n (q := 48) rfl rfl rfl ?_
            refine z_ireti rfl rfl ?_
            rw [nI_clamp (by omega)] at h31
            unfold wl at hm
            rw [if_pos h31] at hm
            have e2 : i = m := hm
            subst e2
            exact ⟨rfl, rfl⟩
          · refine z_aload_n (q := 35) rfl rfl rfl ?_
            refine z_getR (q := 38) rfl rfl rfl (Sh_k w) (Sh_r1 w) ?_
            refine z_iload_n (q := 39) rfl rfl rfl ?_
            refine z_iald (q := 40) rfl rfl (Sh_a1 w) (by first | assumption | exact vp_in_nI (by omega) (by omega)) ?_
            refine z_istore_n (q := 41) (L2 := [_, _, _, _]) rfl rfl rfl rfl ?_
            refine z_iinc (q := 44) (L2 := [_, _, _, _]) rfl rfl rfl rfl ?_
            refine z_goto rfl ?_
            rw [show nI i + Int32.ofInt 1 = nI (i + 1) from (nI_succ i).symm]
            rw [nI_clamp (by omega)] at h31 ⊢
            rcases hf u hu with e | ⟨x, hx, e⟩
            · exact absurd e h31
            · rw [e]
              refine ih (i + 1) x (by omega) hx ?_
              have e2 := hm
              unfold wl at e2
              rw [if_neg h31, e, nI_clamp (by omega)] at e2
              omega
theorem s_Sh_wayFrom {sc : Option (Nat × Nat × (Nat → Int32))} {sa : Nat → Nat} {d : Nat} {M : mz_M} {z : Nat × Nat} {sh N : Nat} (w : g_Sh M.2.2 sh N) {n : Nat} (hn : M.1 sh 8 = nI n) (hN : n ≤ N) (hM : N ≤ 200) {j : Nat} (hj : j < n) (hf : okl (M.1 (sh + 2)) n) : zx sc sa (d + 1) 39 [.ref sh, .int (nI j)] M z z (some (.int (nI (wl (M.1 (sh + 2)) n j)))) M := by
  refine zxin ym_Sh_wayFrom [.ref sh, .int (nI j), .retAddr 0, .retAddr 0] rfl rfl rfl rfl ?_
  refine z_iconst (q := 1) (v := 0) rfl rfl rfl ?_
  refine z_istore_n (q := 2) (L2 := [_, _, _, _]) rfl rfl rfl rfl ?_
  refine z_iload_n (q := 3) rfl rfl rfl ?_
  refine z_istore_n (q := 4) (L2 := [_, _, _, _]) rfl rfl rfl rfl ?_
  exact l_Sh_wayFrom w hn hN hM hf n 0 j (by omega) hj (by omega)
