theorem mtN_lt {f : Nat → Int32} {n : Nat} (h : okm f n) (hn : n < 2 ^ 31) : ∀ (k a b : Nat), a < n → b < n → mtN f k a b < n := by
  intro k
  induction k with
  | zero => intro a b ha _; exact ha
  | succ k ih =>
    intro a b ha hb
    unfold mtN
    by_cases h1 : a = b
    · rw [if_pos h1]; exact ha
    · rw [if_neg h1]
      by_cases h2 : b < a
      · rw [if_pos h2]
        obtain ⟨u, hu, e⟩ := h.2 a (by omega) ha
        rw [e, nI_clamp (by omega)]
        exact ih u b (by omega) hb
      · rw [if_neg h2]
        obtain ⟨u, hu, e⟩ := h.2 b (by omega) hb
        rw [e, nI_clamp (by omega)]
        exact ih a u ha (by omega)
def mgG (B R O : Int64) : Nat → Int64 → Int64 := fun c acc => if nmI R (nI c) = nmI B (nI c) then wnI acc (nI c) (nmI O (nI c)) else if ¬ nmI R (nI c) = nmI B (nI c) ∧ ¬ nmI O (nI c) = nmI B (nI c) ∧ ¬ nmI O (nI c) = nmI R (nI c) then wnI acc (nI c) (if nmI O (nI c) < nmI R (nI c) then nmI O (nI c) else nmI R (nI c)) else acc
def cfG (B R O : Int64) : Nat → Int32 → Int32 := fun c acc => if ¬ nmI R (nI c) = nmI B (nI c) ∧ ¬ nmI O (nI c) = nmI B (nI c) ∧ ¬ nmI O (nI c) = nmI R (nI c) then acc + Int32.ofInt 1 else acc
def paG (F T : Int64) : Nat → Int64 → Int64 := fun c acc => if nmI F (nI c) = nmI T (nI c) then acc else wnI acc (nI c) (nmI T (nI c))
theorem l_Sh_mergedRow {sc : Option (Nat × Nat × (Nat → Int32))} {sa : Nat → Nat} {d : Nat} {M : mz_M} {z : Nat × Nat} {sh N : Nat} (w : g_Sh M.2.2 sh N) {c : Nat} (hc : M.1 sh 5 = nI c) (hC : c ≤ 12) {v0 v1 : Int32} {B R O : Int64} : ∀ (k : Nat) (i : Nat) (x12 x13 : Value), i + k = c → zw sc sa (d + 1) ym_Sh_mergedRow z (fun r' M' => r' = some (.long (fo (mgG B R O) R c)) ∧ M' = M) 32 [.ref sh, .int v0, .int v1, .long B, .retAddr 0, .long R, .retAddr 0, .long O, .retAddr 0, .long (fo (mgG B R O) R i), .retAddr 0, .int (nI i), x12, x13] [] M z := by
  intro k
  induction k with
  | zero =>
    intro i x12 x13 hi
    have e1 : i = c := by omega
    subst e1
    refine z_iload (q := 34) rfl rfl rfl ?_
    refine z_aload_n (q := 35) rfl rfl rfl ?_
    refine z_getI (q := 38) rfl rfl rfl (Sh_k w) ?_
    refine z_ic_ge (q := 41) rfl rfl (fun h38 => ?_) (fun h38 => ?_)
    · refine z_lload (q := 125) rfl rfl rfl ?_
      refine z_lret rfl rfl ?_
      exact ⟨rfl, rfl⟩
    · exact absurd (by rw [hc]; exact nI_le (Nat.le_refl _) (by omega)) h38
  | succ k ih =>
    intro i x12 x13 hi
    refine z_iload (q := 34) rfl rfl rfl ?_
    refine z_aload_n (q := 35) rfl rfl rfl ?_
    refine z_getI (q := 38) rfl rfl rfl (Sh_k w) ?_
    refine z_ic_ge (q := 41) rfl rfl (fun h38 => ?_) (fun h38 => ?_)
    · rw [hc] at h38
      exact absurd h38 (nI_ge (by omega) (by omega))
    · refine z_lload (q := 43) rfl rfl rfl ?_
      refine z_iload (q := 45) rfl rfl rfl ?_
      refine z_cs2i (q := 48) rfl rfl rfl (s_Sh_numberIn) ?_
      refine z_istore (q := 50) (L2 := [_, _, _, _, _, _, _, _, _, _, _, _, _, _]) rfl rfl rfl rfl ?_
      refine z_lload (q := 52) rfl rfl rfl ?_
      refine z_iload (q := 54) rfl rfl rfl ?_
      refine z_cs2i (q := 57) rfl rfl rfl (s_Sh_numberIn) ?_
      refine z_istore (q := 59) (L2 := [_, _, _, _, _, _, _, _, _, _, _, _, _, _]) rfl rfl rfl rfl ?_
      refine z_iload (q := 61) rfl rfl rfl ?_
      refine z_lload_n (q := 62) rfl rfl rfl ?_
      refine z_iload (q := 64) rfl rfl rfl ?_
      refine z_cs2i (q := 67) rfl rfl rfl (s_Sh_numberIn) ?_
      refine z_ic_ne (q := 70) rfl rfl (fun h67 => ?_) (fun h67 => ?_)
      · refine z_aload_n (q := 85) rfl rfl rfl ?_
        refine z_lload_n (q := 86) rfl rfl rfl ?_
        refine z_iload (q := 88) rfl rfl rfl ?_
        refine z_cs2i (q := 91) rfl rfl rfl (s_Sh_numberIn) ?_
        refine z_iload (q := 93) rfl rfl rfl ?_
        refine z_iload (q := 95) rfl rfl rfl ?_
        refine z_cv3i (q := 98) rfl rfl rfl (Sh_k w) (s_Sh_inConflict w) ?_
        refine z_if_eq (q := 101) rfl rfl (fun h98 => ?_) (fun h98 => ?_)
        · refine z_iinc (q := 120) (L2 := [_, _, _, _, _, _, _, _, _, _, _, _, _, _]) rfl rfl rfl rfl ?_
          refine z_goto rfl ?_
          rw [show nI i + Int32.ofInt 1 = nI (i + 1) from (nI_succ i).symm]
          refine cast ?_ (ih (i + 1) (.int (nmI R (nI i))) (.int (nmI O (nI i))) (by omega))
          have e8 : fo (mgG B R O) R (i + 1) = mgG B R O i (fo (mgG B R O) R i) := rfl
          rw [e8]
          unfold mgG
          first
            | (rw [if_pos h67])
            | (rw [bz_n] at h98; rw [if_neg h67, if_pos h98])
            | (rw [bz_0] at h98; rw [if_neg h67, if_neg h98])
        · refine z_lload (q := 103) rfl rfl rfl ?_
          refine z_iload (q := 105) rfl rfl rfl ?_
          refine z_iload (q := 107) rfl rfl rfl ?_
          refine z_iload (q := 109) rfl rfl rfl ?_
          refine z_min (q := 112) rfl rfl (by omega) rfl ?_
          refine z_cs3l (q := 115) rfl rfl rfl (s_Sh_withNumber) ?_
          refine z_lstore (q := 117) (L2 := [_, _, _, _, _, _, _, _, _, _, _, _, _, _]) rfl rfl rfl rfl ?_
          refine z_iinc (q := 120) (L2 := [_, _, _, _, _, _, _, _, _, _, _, _, _, _]) rfl rfl rfl rfl ?_
          refine z_goto rfl ?_
          rw [show nI i + Int32.ofInt 1 = nI (i + 1) from (nI_succ i).symm]
          refine cast ?_ (ih (i + 1) (.int (nmI R (nI i))) (.int (nmI O (nI i))) (by omega))
          have e8 : fo (mgG B R O) R (i + 1) = mgG B R O i (fo (mgG B R O) R i) := rfl
          rw [e8]
          unfold mgG
          first
            | (rw [if_pos h67])
            | (rw [bz_n] at h98; rw [if_neg h67, if_pos h98])
            | (rw [bz_0] at h98; rw [if_neg h67, if_neg h98])
      · refine z_lload (q := 72) rfl rfl rfl ?_
        refine z_iload (q := 74) rfl rfl rfl ?_
        refine z_iload (q := 76) rfl rfl rfl ?_
        refine z_cs3l (q := 79) rfl rfl rfl (s_Sh_withNumber) ?_
        refine z_lstore (q := 81) (L2 := [_, _, _, _, _, _, _, _, _, _, _, _, _, _]) rfl rfl rfl rfl ?_
        refine z_goto rfl ?_
        refine z_iinc (q := 120) (L2 := [_, _, _, _, _, _, _, _, _, _, _, _, _, _]) rfl rfl rfl rfl ?_
        refine z_goto rfl ?_
        rw [show nI i + Int32.ofInt 1 = nI (i + 1) from (nI_succ i).symm]
        refine cast ?_ (ih (i + 1) (.int (nmI R (nI i))) (.int (nmI O (nI i))) (by omega))
        have e8 : fo (mgG B R O) R (i + 1) = mgG B R O i (fo (mgG B R O) R i) := rfl
        rw [e8]
        unfold mgG
        first
          | (rw [if_pos h67])
          | (rw [bz_n] at h98; rw [if_neg h67, if_pos h98])
          | (rw [bz_0] at h98; rw [if_neg h67, if_neg h98])
theorem s_Sh_mergedRow {sc : Option (Nat × Nat × (Nat → Int32))} {sa : Nat → Nat} {d : Nat} {M : mz_M} {z : Nat × Nat} {sh N : Nat} (w : g_Sh M.2.2 sh N) {n : Nat} (hn : M.1 sh 8 = nI n) (hN : n ≤ N) (hM : N ≤ 200) {j : Nat} (hj : j < n) {u : Nat} (hu : u < n) (ho : okm (M.1 (sh + 4)) n) {c : Nat} (hc : M.1 sh 5 = nI c) (hC : c ≤ 12)  : zx sc sa (d + 4) 61 [.ref sh, .int (nI j), .int (nI u)] M z z (some (.long (fo (mgG (M.2.1 (sh + 1) (mtN (M.1 (sh + 4)) (2 * n) j u)) (M.2.1 (sh + 1) j) (M.2.1 (sh + 1) u)) (M.2.1 (sh + 1) j) c))) M := by
  refine zxin ym_Sh_mergedRow [.ref sh, .int (nI j), .int (nI u), .retAddr 0, .retAddr 0, .retAddr 0, .retAddr 0, .retAddr 0, .retAddr 0, .retAddr 0, .retAddr 0, .retAddr 0, .retAddr 0, .retAddr 0] rfl rfl rfl rfl ?_
  refine z_aload_n (q := 1) rfl rfl rfl ?_
  refine z_aload_n (q := 2) rfl rfl rfl ?_
  refine z_iload_n (q := 3) rfl rfl rfl ?_
  refine z_iload_n (q := 4) rfl rfl rfl ?_
  refine z_cv2i (q := 7) rfl rfl rfl (Sh_k w) (s_Sh_meeting w hn hN hM hj hu ho) ?_
  refine z_cv1l (q := 10) rfl rfl rfl (Sh_k w) (s_Sh_rowOf w hn hN hM (mtN_lt ho (by omega) _ _ _ hj hu)) ?_
  refine z_lstore_n (q := 11) (L2 := [_, _, _, _, _, _, _, _, _, _, _, _, _, _]) rfl rfl rfl rfl ?_
  refine z_aload_n (q := 12) rfl rfl rfl ?_
  refine z_iload_n (q := 13) rfl rfl rfl ?_
  refine z_cv1l (q := 16) rfl rfl rfl (Sh_k w) (s_Sh_rowOf w hn hN hM hj) ?_
  refine z_lstore (q := 18) (L2 := [_, _, _, _, _, _, _, _, _, _, _, _, _, _]) rfl rfl rfl rfl ?_
  refine z_aload_n (q := 19) rfl rfl rfl ?_
  refine z_iload_n (q := 20) rfl rfl rfl ?_
  refine z_cv1l (q := 23) rfl rfl rfl (Sh_k w) (s_Sh_rowOf w hn hN hM hu) ?_
  refine z_lstore (q := 25) (L2 := [_, _, _, _, _, _, _, _, _, _, _, _, _, _]) rfl rfl rfl rfl ?_
  refine z_lload (q := 27) rfl rfl rfl ?_
  refine z_lstore (q := 29) (L2 := [_, _, _, _, _, _, _, _, _, _, _, _, _, _]) rfl rfl rfl rfl ?_
  refine z_iconst (q := 30) (v := 0) rfl rfl rfl ?_
  refine z_istore (q := 32) (L2 := [_, _, _, _, _, _, _, _, _, _, _, _, _, _]) rfl rfl rfl rfl ?_
  exact l_Sh_mergedRow w hc hC c 0 _ _ (by omega)
theorem l_Sh_conflicts {sc : Option (Nat × Nat × (Nat → Int32))} {sa : Nat → Nat} {d : Nat} {M : mz_M} {z : Nat × Nat} {sh N : Nat} (w : g_Sh M.2.2 sh N) {n : Nat} (hn : M.1 sh 8 = nI n) (hN : n ≤ N) (hM : N ≤ 200) {j : Nat} (hj : j < n) {u : Nat} (hu : u < n) {c : Nat} (hc : M.1 sh 5 = nI c) (hC : c ≤ 12) {B : Int64} : ∀ (k : Nat) (i : Nat), i + k = c → zw sc sa (d + 2) ym_Sh_conflicts z (fun r' M' => r' = some (.int (fo (cfG B (M.2.1 (sh + 1) j) (M.2.1 (sh + 1) u)) 0 c)) ∧ M' = M) 17 [.ref sh, .int (nI j), .int (nI u), .long B, .retAddr 0, .int (fo (cfG B (M.2.1 (sh + 1) j) (M.2.1 (sh + 1) u)) 0 i), .int (nI i)] [] M z := by
  intro k
  induction k with
  | zero =>
    intro i hi
    have e1 : i = c := by omega
    subst e1
    refine z_iload (q := 19) rfl rfl rfl ?_
    refine z_aload_n (q := 20) rfl rfl rfl ?_
    refine z_getI (q := 23) rfl rfl rfl (Sh_k w) ?_
    refine z_ic_ge (q := 26) rfl rfl (fun h23 => ?_) (fun h23 => ?_)
    · refine z_iload (q := 64) rfl rfl rfl ?_
      refine z_ireti rfl rfl ?_
      exact ⟨rfl, rfl⟩
    · exact absurd (by rw [hc]; exact nI_le (Nat.le_refl _) (by omega)) h23
  | succ k ih =>
    intro i hi
    refine z_iload (q := 19) rfl rfl rfl ?_
    refine z_aload_n (q := 20) rfl rfl rfl ?_
    refine z_getI (q := 23) rfl rfl rfl (Sh_k w) ?_
    refine z_ic_ge (q := 26) rfl rfl (fun h23 => ?_) (fun h23 => ?_)
    · rw [hc] at h23
      exact absurd h23 (nI_ge (by omega) (by omega))
    · refine z_aload_n (q := 27) rfl rfl rfl ?_
      refine z_lload_n (q := 28) rfl rfl rfl ?_
      refine z_iload (q := 30) rfl rfl rfl ?_
      refine z_cs2i (q := 33) rfl rfl rfl (s_Sh_numberIn) ?_
      refine z_aload_n (q := 34) rfl rfl rfl ?_
      refine z_iload_n (q := 35) rfl rfl rfl ?_
      refine z_iload (q := 37) rfl rfl rfl ?_
      refine z_cv2i (q := 40) rfl rfl rfl (Sh_k w) (s_Sh_numberAt w hn hN hM hj) ?_
      refine z_aload_n (q := 41) rfl rfl rfl ?_
      refine z_iload_n (q := 42) rfl rfl rfl ?_
      refine z_iload (q := 44) rfl rfl rfl ?_
      refine z_cv2i (q := 47) rfl rfl rfl (Sh_k w) (s_Sh_numberAt w hn hN hM hu) ?_
      refine z_cv3i (q := 50) rfl rfl rfl (Sh_k w) (s_Sh_inConflict w) ?_
      refine z_if_eq (q := 53) rfl rfl (fun h50 => ?_) (fun h50 => ?_)
      · refine z_iinc (q := 59) (L2 := [_, _, _, _, _, _, _]) rfl rfl rfl rfl ?_
        refine z_goto rfl ?_
        rw [show nI i + Int32.ofInt 1 = nI (i + 1) from (nI_succ i).symm]
        refine cast ?_ (ih (i + 1) (by omega))
        have e8 : fo (cfG B (M.2.1 (sh + 1) j) (M.2.1 (sh + 1) u)) 0 (i + 1) = cfG B (M.2.1 (sh + 1) j) (M.2.1 (sh + 1) u) i (fo (cfG B (M.2.1 (sh + 1) j) (M.2.1 (sh + 1) u)) 0 i) := rfl
        rw [e8]
        unfold cfG
        first
          | (rw [bz_n] at h50; rw [if_pos h50])
          | (rw [bz_0] at h50; rw [if_neg h50])
      · refine z_iinc (q := 56) (L2 := [_, _, _, _, _, _, _]) rfl rfl rfl rfl ?_
        refine z_iinc (q := 59) (L2 := [_, _, _, _, _, _, _]) rfl rfl rfl rfl ?_
        refine z_goto rfl ?_
        rw [show nI i + Int32.ofInt 1 = nI (i + 1) from (nI_succ i).symm]
        refine cast ?_ (ih (i + 1) (by omega))
        have e8 : fo (cfG B (M.2.1 (sh + 1) j) (M.2.1 (sh + 1) u)) 0 (i + 1) = cfG B (M.2.1 (sh + 1) j) (M.2.1 (sh + 1) u) i (fo (cfG B (M.2.1 (sh + 1) j) (M.2.1 (sh + 1) u)) 0 i) := rfl
        rw [e8]
        unfold cfG
        first
          | (rw [bz_n] at h50; rw [if_pos h50])
          | (rw [bz_0] at h50; rw [if_neg h50])
theorem s_Sh_conflicts {sc : Option (Nat × Nat × (Nat → Int32))} {sa : Nat → Nat} {d : Nat} {M : mz_M} {z : Nat × Nat} {sh N : Nat} (w : g_Sh M.2.2 sh N) {n : Nat} (hn : M.1 sh 8 = nI n) (hN : n ≤ N) (hM : N ≤ 200) {j : Nat} (hj : j < n) {u : Nat} (hu : u < n) (ho : okm (M.1 (sh + 4)) n) {c : Nat} (hc : M.1 sh 5 = nI c) (hC : c ≤ 12)  : zx sc sa (d + 4) 62 [.ref sh, .int (nI j), .int (nI u)] M z z (some (.int (fo (cfG (M.2.1 (sh + 1) (mtN (M.1 (sh + 4)) (2 * n) j u)) (M.2.1 (sh + 1) j) (M.2.1 (sh + 1) u)) 0 c))) M := by
  refine zxin ym_Sh_conflicts [.ref sh, .int (nI j), .int (nI u), .retAddr 0, .retAddr 0, .retAddr 0, .retAddr 0] rfl rfl rfl rfl ?_
  refine z_aload_n (q := 1) rfl rfl rfl ?_
  refine z_aload_n (q := 2) rfl rfl rfl ?_
  refine z_iload_n (q := 3) rfl rfl rfl ?_
  refine z_iload_n (q := 4) rfl rfl rfl ?_
  refine z_cv2i (q := 7) rfl rfl rfl (Sh_k w) (s_Sh_meeting w hn hN hM hj hu ho) ?_
  refine z_cv1l (q := 10) rfl rfl rfl (Sh_k w) (s_Sh_rowOf w hn hN hM (mtN_lt ho (by omega) _ _ _ hj hu)) ?_
  refine z_lstore_n (q := 11) (L2 := [_, _, _, _, _, _, _]) rfl rfl rfl rfl ?_
  refine z_iconst (q := 12) (v := 0) rfl rfl rfl ?_
  refine z_istore (q := 14) (L2 := [_, _, _, _, _, _, _]) rfl rfl rfl rfl ?_
  refine z_iconst (q := 15) (v := 0) rfl rfl rfl ?_
  refine z_istore (q := 17) (L2 := [_, _, _, _, _, _, _]) rfl rfl rfl rfl ?_
  exact l_Sh_conflicts w hn hN hM hj hu hc hC c 0 (by omega)
theorem l_Sh_patchedRow {sc : Option (Nat × Nat × (Nat → Int32))} {sa : Nat → Nat} {d : Nat} {M : mz_M} {z : Nat × Nat} {sh N : Nat} (w : g_Sh M.2.2 sh N) {n : Nat} (hn : M.1 sh 8 = nI n) (hN : n ≤ N) (hM : N ≤ 200) {j : Nat} (hj : j < n) {u : Nat} (hu : u < n) {c : Nat} (hc : M.1 sh 5 = nI c) (hC : c ≤ 12) {v3 : Int32} {A0 : Int64} : ∀ (k : Nat) (i : Nat) (x7 : Value), i + k = c → zw sc sa (d + 2) ym_Sh_patchedRow z (fun r' M' => r' = some (.long (fo (paG (M.2.1 (sh + 1) j) (M.2.1 (sh + 1) u)) A0 c)) ∧ M' = M) 10 [.ref sh, .int (nI j), .int (nI u), .int v3, .long (fo (paG (M.2.1 (sh + 1) j) (M.2.1 (sh + 1) u)) A0 i), .retAddr 0, .int (nI i), x7] [] M z := by
  intro k
  induction k with
  | zero =>
    intro i x7 hi
    have e1 : i = c := by omega
    subst e1
    refine z_iload (q := 12) rfl rfl rfl ?_
    refine z_aload_n (q := 13) rfl rfl rfl ?_
    refine z_getI (q := 16) rfl rfl rfl (Sh_k w) ?_
    refine z_ic_ge (q := 19) rfl rfl (fun h16 => ?_) (fun h16 => ?_)
    · refine z_lload (q := 59) rfl rfl rfl ?_
      refine z_lret rfl rfl ?_
      exact ⟨rfl, rfl⟩
    · exact absurd (by rw [hc]; exact nI_le (Nat.le_refl _) (by omega)) h16
  | succ k ih =>
    intro i x7 hi
    refine z_iload (q := 12) rfl rfl rfl ?_
    refine z_aload_n (q := 13) rfl rfl rfl ?_
    refine z_getI (q := 16) rfl rfl rfl (Sh_k w) ?_
    refine z_ic_ge (q := 19) rfl rfl (fun h16 => ?_) (fun h16 => ?_)
    · rw [hc] at h16
      exact absurd h16 (nI_ge (by omega) (by omega))
    · refine z_aload_n (q := 20) rfl rfl rfl ?_
      refine z_iload_n (q := 21) rfl rfl rfl ?_
      refine z_iload (q := 23) rfl rfl rfl ?_
      refine z_cv2i (q := 26) rfl rfl rfl (Sh_k w) (s_Sh_numberAt w hn hN hM hu) ?_
      refine z_istore (q := 28) (L2 := [_, _, _, _, _, _, _, _]) rfl rfl rfl rfl ?_
      refine z_aload_n (q := 29) rfl rfl rfl ?_
      refine z_iload_n (q := 30) rfl rfl rfl ?_
      refine z_iload (q := 32) rfl rfl rfl ?_
      refine z_cv2i (q := 35) rfl rfl rfl (Sh_k w) (s_Sh_numberAt w hn hN hM hj) ?_
      refine z_iload (q := 37) rfl rfl rfl ?_
      refine z_ic_eq (q := 40) rfl rfl (fun h37 => ?_) (fun h37 => ?_)
      · refine z_iinc (q := 54) (L2 := [_, _, _, _, _, _, _, _]) rfl rfl rfl rfl ?_
        refine z_goto rfl ?_
        rw [show nI i + Int32.ofInt 1 = nI (i + 1) from (nI_succ i).symm]
        refine cast ?_ (ih (i + 1) (.int (nmI (M.2.1 (sh + 1) u) (nI i))) (by omega))
        have e8 : fo (paG (M.2.1 (sh + 1) j) (M.2.1 (sh + 1) u)) A0 (i + 1) = paG (M.2.1 (sh + 1) j) (M.2.1 (sh + 1) u) i (fo (paG (M.2.1 (sh + 1) j) (M.2.1 (sh + 1) u)) A0 i) := rfl
        rw [e8]
        unfold paG
        first
          | rw [if_pos h37]
          | rw [if_neg h37]
      · refine z_lload (q := 42) rfl rfl rfl ?_
        refine z_iload (q := 44) rfl rfl rfl ?_
        refine z_iload (q := 46) rfl rfl rfl ?_
        refine z_cs3l (q := 49) rfl rfl rfl (s_Sh_withNumber) ?_
        refine z_lstore (q := 51) (L2 := [_, _, _, _, _, _, _, _]) rfl rfl rfl rfl ?_
        refine z_iinc (q := 54) (L2 := [_, _, _, _, _, _, _, _]) rfl rfl rfl rfl ?_
        refine z_goto rfl ?_
        rw [show nI i + Int32.ofInt 1 = nI (i + 1) from (nI_succ i).symm]
        refine cast ?_ (ih (i + 1) (.int (nmI (M.2.1 (sh + 1) u) (nI i))) (by omega))
        have e8 : fo (paG (M.2.1 (sh + 1) j) (M.2.1 (sh + 1) u)) A0 (i + 1) = paG (M.2.1 (sh + 1) j) (M.2.1 (sh + 1) u) i (fo (paG (M.2.1 (sh + 1) j) (M.2.1 (sh + 1) u)) A0 i) := rfl
        rw [e8]
        unfold paG
        first
          | rw [if_pos h37]
          | rw [if_neg h37]
theorem s_Sh_patchedRow {sc : Option (Nat × Nat × (Nat → Int32))} {sa : Nat → Nat} {d : Nat} {M : mz_M} {z : Nat × Nat} {sh N : Nat} (w : g_Sh M.2.2 sh N) {n : Nat} (hn : M.1 sh 8 = nI n) (hN : n ≤ N) (hM : N ≤ 200) {j : Nat} (hj : j < n) {u : Nat} (hu : u < n) {e : Nat} (he : e < n) {c : Nat} (hc : M.1 sh 5 = nI c) (hC : c ≤ 12)  : zx sc sa (d + 3) 63 [.ref sh, .int (nI j), .int (nI u), .int (nI e)] M z z (some (.long (fo (paG (M.2.1 (sh + 1) j) (M.2.1 (sh + 1) u)) (M.2.1 (sh + 1) e) c))) M := by
  refine zxin ym_Sh_patchedRow [.ref sh, .int (nI j), .int (nI u), .int (nI e), .retAddr 0, .retAddr 0, .retAddr 0, .retAddr 0] rfl rfl rfl rfl ?_
  refine z_aload_n (q := 1) rfl rfl rfl ?_
  refine z_iload_n (q := 2) rfl rfl rfl ?_
  refine z_cv1l (q := 5) rfl rfl rfl (Sh_k w) (s_Sh_rowOf w hn hN hM he) ?_
  refine z_lstore (q := 7) (L2 := [_, _, _, _, _, _, _, _]) rfl rfl rfl rfl ?_
  refine z_iconst (q := 8) (v := 0) rfl rfl rfl ?_
  refine z_istore (q := 10) (L2 := [_, _, _, _, _, _, _, _]) rfl rfl rfl rfl ?_
  exact l_Sh_patchedRow w hn hN hM hj hu hc hC c 0 _ (by omega)
def wtG (f : Nat → Int32) (n : Nat) (v0 : Int32) : Nat → Int32 → Int32 := fun v acc => if nI v = v0 then acc else if lg_cmp ((Int64.toUInt64 (wbI f n (nI v) 0) >>> ((v0).toInt64.toUInt64 &&& Int64.toUInt64 63)).toInt64 &&& 1) 0 = 0 then acc else acc + Int32.ofInt 1
def mpG (f : Nat → Int32) (n : Nat) : Nat → Int32 × Int32 → Int32 × Int32 := fun v q => if (if f v = -1 then 0 else fo (wtG f n (nI v)) 0 n) ≤ q.2 then q else (nI v, if f v = -1 then 0 else fo (wtG f n (nI v)) 0 n)
theorem mpG_d {f : Nat → Int32} {n v : Nat} {q : Int32 × Int32} (h : f v = -1) : mpG f n v q = if 0 ≤ q.2 then q else (nI v, 0) := by
  unfold mpG
  rw [if_pos h]
theorem mpG_n {f : Nat → Int32} {n v : Nat} {q : Int32 × Int32} (h : ¬ f v = -1) : mpG f n v q = if fo (wtG f n (nI v)) 0 n ≤ q.2 then q else (nI v, fo (wtG f n (nI v)) 0 n) := by
  unfold mpG
  rw [if_neg h]
theorem s_Sh_waysThroughG {sc : Option (Nat × Nat × (Nat → Int32))} {sa : Nat → Nat} {d : Nat} {M : mz_M} {z : Nat × Nat} {sh N : Nat} (w : g_Sh M.2.2 sh N) {n : Nat} (hn : M.1 sh 8 = nI n) (hN : n ≤ N) (hM : N ≤ 200) (hf : okl (M.1 (sh + 2)) n) {v0 : Int32} : zx sc sa (d + 3) 48 [.ref sh, .int v0] M z z (some (.int (fo (wtG (M.1 (sh + 2)) n v0) 0 n))) M := s_Sh_waysThrough w hn hN hM hf
theorem l_Sh_mostPassed {sc : Option (Nat × Nat × (Nat → Int32))} {sa : Nat → Nat} {d : Nat} {M : mz_M} {z : Nat × Nat} {sh N : Nat} (w : g_Sh M.2.2 sh N) {n : Nat} (hn : M.1 sh 8 = nI n) (hN : n ≤ N) (hM : N ≤ 200) (hf : okl (M.1 (sh + 2)) n)  : ∀ (k : Nat) (i : Nat) (x4 : Value), i + k = n → zw sc sa (d + 3) ym_Sh_mostPassed z (fun r' M' => r' = some (.int (fo (mpG (M.1 (sh + 2)) n) (-1, 0) n).1) ∧ M' = M) 6 [.ref sh, .int (fo (mpG (M.1 (sh + 2)) n) (-1, 0) i).1, .int (fo (mpG (M.1 (sh + 2)) n) (-1, 0) i).2, .int (nI i), x4] [] M z := by
  intro k
  induction k with
  | zero =>
    intro i x4 hi
    have e1 : i = n := by omega
    subst e1
    refine z_iload_n (q := 7) rfl rfl rfl ?_
    refine z_aload_n (q := 8) rfl rfl rfl ?_
    refine z_getI (q := 11) rfl rfl rfl (Sh_k w) ?_
    refine z_ic_ge (q := 14) rfl rfl (fun h11 => ?_) (fun h11 => ?_)
    · refine z_iload_n (q := 51) rfl rfl rfl ?_
      refine z_ireti rfl rfl ?_
      exact ⟨rfl, rfl⟩
    · exact absurd (by rw [hn]; exact nI_le (Nat.le_refl _) (by omega)) h11
  | succ k ih =>
    intro i x4 hi
    refine z_iload_n (q := 7) rfl rfl rfl ?_
    refine z_aload_n (q := 8) rfl rfl rfl ?_
    refine z_getI (q := 11) rfl rfl rfl (Sh_k w) ?_
    refine z_ic_ge (q := 14) rfl rfl (fun h11 => ?_) (fun h11 => ?_)
    · rw [hn] at h11
      exact absurd h11 (nI_ge (by omega) (by omega))
    · refine z_aload_n (q := 15) rfl rfl rfl ?_
      refine z_iload_n (q := 16) rfl rfl rfl ?_
      refine z_cv1i (q := 19) rfl rfl rfl (Sh_k w) (s_Sh_isDirect w hn hN hM (by omega)) ?_
      refine z_if_eq (q := 22) rfl rfl (fun h19 => ?_) (fun h19 => ?_)
      · refine z_aload_n (q := 27) rfl rfl rfl ?_
        refine z_iload_n (q := 28) rfl rfl rfl ?_
        refine z_cv1i (q := 31) rfl rfl rfl (Sh_k w) (s_Sh_waysThroughG w hn hN hM hf) ?_
        refine z_istore (q := 33) (L2 := [_, _, _, _, _]) rfl rfl rfl rfl ?_
        refine z_iload (q := 35) rfl rfl rfl ?_
        refine z_iload_n (q := 36) rfl rfl rfl ?_
        refine z_ic_le (q := 39) rfl rfl (fun h36 => ?_) (fun h36 => ?_)
        · refine z_iinc (q := 47) (L2 := [_, _, _, _, _]) rfl rfl rfl rfl ?_
          refine z_goto rfl ?_
          rw [show nI i + Int32.ofInt 1 = nI (i + 1) from (nI_succ i).symm]
          have e8 : fo (mpG (M.1 (sh + 2)) n) (-1, 0) (i + 1) = mpG (M.1 (sh + 2)) n i (fo (mpG (M.1 (sh + 2)) n) (-1, 0) i) := rfl
          first
            | (have h9 := bz_n.mp h19
               rw [mpG_d h9] at e8
               first
                 | (rw [if_pos h36] at e8
                    have e9 := ih (i + 1) (.int 0) (by omega)
                    rw [e8] at e9
                    exact e9)
                 | (rw [if_neg h36] at e8
                    have e9 := ih (i + 1) (.int 0) (by omega)
                    rw [e8] at e9
                    exact e9))
            | (have h9 := bz_0.mp h19
               rw [mpG_n h9] at e8
               first
                 | (rw [if_pos h36] at e8
                    have e9 := ih (i + 1) (.int (fo (wtG (M.1 (sh + 2)) n (nI i)) 0 n)) (by omega)
                    rw [e8] at e9
                    exact e9)
                 | (rw [if_neg h36] at e8
                    have e9 := ih (i + 1) (.int (fo (wtG (M.1 (sh + 2)) n (nI i)) 0 n)) (by omega)
                    rw [e8] at e9
                    exact e9))
        · refine z_iload (q := 41) rfl rfl rfl ?_
          refine z_istore_n (q := 42) (L2 := [_, _, _, _, _]) rfl rfl rfl rfl ?_
          refine z_iload_n (q := 43) rfl rfl rfl ?_
          refine z_istore_n (q := 44) (L2 := [_, _, _, _, _]) rfl rfl rfl rfl ?_
          refine z_iinc (q := 47) (L2 := [_, _, _, _, _]) rfl rfl rfl rfl ?_
          refine z_goto rfl ?_
          rw [show nI i + Int32.ofInt 1 = nI (i + 1) from (nI_succ i).symm]
          have e8 : fo (mpG (M.1 (sh + 2)) n) (-1, 0) (i + 1) = mpG (M.1 (sh + 2)) n i (fo (mpG (M.1 (sh + 2)) n) (-1, 0) i) := rfl
          first
            | (have h9 := bz_n.mp h19
               rw [mpG_d h9] at e8
               first
                 | (rw [if_pos h36] at e8
                    have e9 := ih (i + 1) (.int 0) (by omega)
                    rw [e8] at e9
                    exact e9)
                 | (rw [if_neg h36] at e8
                    have e9 := ih (i + 1) (.int 0) (by omega)
                    rw [e8] at e9
                    exact e9))
            | (have h9 := bz_0.mp h19
               rw [mpG_n h9] at e8
               first
                 | (rw [if_pos h36] at e8
                    have e9 := ih (i + 1) (.int (fo (wtG (M.1 (sh + 2)) n (nI i)) 0 n)) (by omega)
                    rw [e8] at e9
                    exact e9)
                 | (rw [if_neg h36] at e8
                    have e9 := ih (i + 1) (.int (fo (wtG (M.1 (sh + 2)) n (nI i)) 0 n)) (by omega)
                    rw [e8] at e9
                    exact e9))
      · refine z_iconst (q := 23) (v := 0) rfl rfl rfl ?_
        refine z_goto rfl ?_
        refine z_istore (q := 33) (L2 := [_, _, _, _, _]) rfl rfl rfl rfl ?_
        refine z_iload (q := 35) rfl rfl rfl ?_
        refine z_iload_n (q := 36) rfl rfl rfl ?_
        refine z_ic_le (q := 39) rfl rfl (fun h36 => ?_) (fun h36 => ?_)
        · refine z_iinc (q := 47) (L2 := [_, _, _, _, _]) rfl rfl rfl rfl ?_
          refine z_goto rfl ?_
          rw [show nI i + Int32.ofInt 1 = nI (i + 1) from (nI_succ i).symm]
          have e8 : fo (mpG (M.1 (sh + 2)) n) (-1, 0) (i + 1) = mpG (M.1 (sh + 2)) n i (fo (mpG (M.1 (sh + 2)) n) (-1, 0) i) := rfl
          first
            | (have h9 := bz_n.mp h19
               rw [mpG_d h9] at e8
               first
                 | (rw [if_pos h36] at e8
                    have e9 := ih (i + 1) (.int 0) (by omega)
                    rw [e8] at e9
                    exact e9)
                 | (rw [if_neg h36] at e8
                    have e9 := ih (i + 1) (.int 0) (by omega)
                    rw [e8] at e9
                    exact e9))
            | (have h9 := bz_0.mp h19
               rw [mpG_n h9] at e8
               first
                 | (rw [if_pos h36] at e8
                    have e9 := ih (i + 1) (.int (fo (wtG (M.1 (sh + 2)) n (nI i)) 0 n)) (by omega)
                    rw [e8] at e9
                    exact e9)
                 | (rw [if_neg h36] at e8
                    have e9 := ih (i + 1) (.int (fo (wtG (M.1 (sh + 2)) n (nI i)) 0 n)) (by omega)
                    rw [e8] at e9
                    exact e9))
        · refine z_iload (q := 41) rfl rfl rfl ?_
          refine z_istore_n (q := 42) (L2 := [_, _, _, _, _]) rfl rfl rfl rfl ?_
          refine z_iload_n (q := 43) rfl rfl rfl ?_
          refine z_istore_n (q := 44) (L2 := [_, _, _, _, _]) rfl rfl rfl rfl ?_
          refine z_iinc (q := 47) (L2 := [_, _, _, _, _]) rfl rfl rfl rfl ?_
          refine z_goto rfl ?_
          rw [show nI i + Int32.ofInt 1 = nI (i + 1) from (nI_succ i).symm]
          have e8 : fo (mpG (M.1 (sh + 2)) n) (-1, 0) (i + 1) = mpG (M.1 (sh + 2)) n i (fo (mpG (M.1 (sh + 2)) n) (-1, 0) i) := rfl
          first
            | (have h9 := bz_n.mp h19
               rw [mpG_d h9] at e8
               first
                 | (rw [if_pos h36] at e8
                    have e9 := ih (i + 1) (.int 0) (by omega)
                    rw [e8] at e9
                    exact e9)
                 | (rw [if_neg h36] at e8
                    have e9 := ih (i + 1) (.int 0) (by omega)
                    rw [e8] at e9
                    exact e9))
            | (have h9 := bz_0.mp h19
               rw [mpG_n h9] at e8
               first
                 | (rw [if_pos h36] at e8
                    have e9 := ih (i + 1) (.int (fo (wtG (M.1 (sh + 2)) n (nI i)) 0 n)) (by omega)
                    rw [e8] at e9
                    exact e9)
                 | (rw [if_neg h36] at e8
                    have e9 := ih (i + 1) (.int (fo (wtG (M.1 (sh + 2)) n (nI i)) 0 n)) (by omega)
                    rw [e8] at e9
                    exact e9))
theorem s_Sh_mostPassed {sc : Option (Nat × Nat × (Nat → Int32))} {sa : Nat → Nat} {d : Nat} {M : mz_M} {z : Nat × Nat} {sh N : Nat} (w : g_Sh M.2.2 sh N) {n : Nat} (hn : M.1 sh 8 = nI n) (hN : n ≤ N) (hM : N ≤ 200) (hf : okl (M.1 (sh + 2)) n)  : zx sc sa (d + 4) 47 [.ref sh] M z z (some (.int (fo (mpG (M.1 (sh + 2)) n) (-1, 0) n).1)) M := by
  refine zxin ym_Sh_mostPassed [.ref sh, .retAddr 0, .retAddr 0, .retAddr 0, .retAddr 0] rfl rfl rfl rfl ?_
  refine z_iconst (q := 1) (v := -1) rfl rfl rfl ?_
  refine z_istore_n (q := 2) (L2 := [_, _, _, _, _]) rfl rfl rfl rfl ?_
  refine z_iconst (q := 3) (v := 0) rfl rfl rfl ?_
  refine z_istore_n (q := 4) (L2 := [_, _, _, _, _]) rfl rfl rfl rfl ?_
  refine z_iconst (q := 5) (v := 0) rfl rfl rfl ?_
  refine z_istore_n (q := 6) (L2 := [_, _, _, _, _]) rfl rfl rfl rfl ?_
  exact l_Sh_mostPassed w hn hN hM hf n 0 _ (by omega)
