theorem okv_in {n N : Nat} {a : Int32} (h : okv n a) (h1 : ¬ a = -1) (hN : n ≤ N) (hM : N < 2 ^ 31) : vp_in a N := by
  rcases h with h | ⟨u, hu, rfl⟩
  · exact absurd h h1
  · exact vp_in_nI (by omega) hM
theorem okv_f {f : Nat → Int32} {n : Nat} {a : Int32} (hf : okl f n) (h : okv n a) (h1 : ¬ a = -1) (hM : n < 2 ^ 31) : okv n (f a.toNatClampNeg) := by
  rcases h with h | ⟨u, hu, rfl⟩
  · exact absurd h h1
  · rw [nI_clamp (by omega)]
    exact hf u hu
theorem s_Sh_hasV {sc : Option (Nat × Nat × (Nat → Int32))} {sa : Nat → Nat} {d : Nat} {M : mz_M} {z : Nat × Nat} {sh N : Nat} (w : g_Sh M.2.2 sh N) {n : Nat} (hn : M.1 sh 8 = nI n) (hN : n ≤ N) (hM : N ≤ 200) {a : Int32} (ha : okv n a) : zx sc sa (d + 1) 19 [.ref sh, .int a] M z z (some (.int (bz (¬ a = -1)))) M := by
  rcases ha with rfl | ⟨u, hu, rfl⟩
  · rw [bz_f (by decide)]
    exact s_Sh_hasM w
  · rw [bz_t (nI_m1 (by omega))]
    exact s_Sh_has1 w hn hN hM hu
theorem s_Sh_parentV {sc : Option (Nat × Nat × (Nat → Int32))} {sa : Nat → Nat} {d : Nat} {M : mz_M} {z : Nat × Nat} {sh N : Nat} (w : g_Sh M.2.2 sh N) {n : Nat} (hn : M.1 sh 8 = nI n) (hN : n ≤ N) (hM : N ≤ 200) {a : Int32} (ha : okv n a) (h1 : ¬ a = -1) : zx sc sa (d + 2) 28 [.ref sh, .int a] M z z (some (.int (M.1 (sh + 4) a.toNatClampNeg))) M := by
  rcases ha with rfl | ⟨u, hu, rfl⟩
  · exact absurd rfl h1
  · rw [nI_clamp (by omega)]
    exact s_Sh_parentOf w hn hN hM hu
theorem lg_0 (x y : Int64) : lg_cmp x y = 0 ↔ x = y := by
  unfold lg_cmp
  by_cases h : x = y
  · subst h
    simp
  · by_cases h2 : x > y
    · simp [h, h2]
    · simp [h, h2]
def dp (f : Nat → Int32) : Nat → Int32 → Nat
  | 0, _ => 0
  | k + 1, a => if a = -1 then 0 else dp f k (f a.toNatClampNeg) + 1
def fi (r : Nat → Int64) (row : Int64) : Nat → Nat → Nat
  | 0, i => i
  | k + 1, i => if r i = row then i else fi r row k (i + 1)
def wbI (f : Nat → Int32) : Nat → Int32 → Int64 → Int64
  | 0, _, b => b
  | k + 1, a, b => if a = -1 then b else wbI f k (f a.toNatClampNeg) (b ||| 1 <<< (a.toInt64 &&& 63))
def la (f g : Nat → Int32) (cell : Int32) : Nat → Nat → Nat
  | 0, _ => 0
  | k + 1, u => if f u = -1 then 0 else if g u = cell then 0 else la f g cell k (f u).toNatClampNeg + 1
theorem uI_ne {M : mz_M} {a b k : Nat} {x : Int32} (h : b ≠ a) : (mz_uI M a k x).1 b = M.1 b := by
  simp [mz_uI, va_up, h]
theorem uI_bk {M : mz_M} {a k : Nat} {x : Int32} : mz_uI (mz_uI M a k x) a k (M.1 a k) = M := by
  obtain ⟨A, B⟩ := M
  unfold mz_uI
  simp only [Prod.mk.injEq, and_true]
  funext b
  by_cases h : b = a
  · subst h
    simp only [va_up, if_true]
    funext c
    by_cases h2 : c = k
    · simp [va_up, h2]
    · simp [va_up, h2]
  · simp [va_up, h]
theorem l_Sh_depthOf {sc : Option (Nat × Nat × (Nat → Int32))} {sa : Nat → Nat} {d : Nat} {M : mz_M} {z : Nat × Nat} {sh N : Nat} (w : g_Sh M.2.2 sh N) {n : Nat} (hn : M.1 sh 8 = nI n) (hN : n ≤ N) (hM : N ≤ 200) (ho : okl (M.1 (sh + 4)) n) {v0 : Int32} {m : Nat} : ∀ (k : Nat) (i : Nat) (a : Int32), i + k = n → okv n a → i + dp (M.1 (sh + 4)) k a = m → zw sc sa (d + 2) ym_Sh_depthOf z (fun r' M' => r' = some (.int (nI m)) ∧ M' = M) 8 [.ref sh, .int v0, .int (nI i), .int a] [] M z := by
  intro k
  induction k with
  | zero =>
    intro i a hi ha hm
    have e1 : i = n := by omega
    subst e1
    have e2 : i = m := hm
    subst e2
    refine z_iload_n (q := 9) rfl rfl rfl ?_
    refine z_iconst (q := 10) (v := -1) rfl rfl rfl ?_
    refine z_ic_eq (q := 13) rfl rfl (fun h10 => ?_) (fun h10 => ?_)
    · refine z_iload_n (q := 34) rfl rfl rfl ?_
      refine z_ireti rfl rfl ?_
      exact ⟨rfl, rfl⟩
    · refine z_iload_n (q := 14) rfl rfl rfl ?_
      refine z_aload_n (q := 15) rfl rfl rfl ?_
      refine z_getI (q := 18) rfl rfl rfl (Sh_k w) ?_
      refine z_ic_ge (q := 21) rfl rfl (fun h18 => ?_) (fun h18 => ?_)
      · refine z_iload_n (q := 34) rfl rfl rfl ?_
        refine z_ireti rfl rfl ?_
        exact ⟨rfl, rfl⟩
      · exact absurd (by rw [hn]; exact nI_le (Nat.le_refl _) (by omega)) h18
  | succ k ih =>
    intro i a hi ha hm
    refine z_iload_n (q := 9) rfl rfl rfl ?_
    refine z_iconst (q := 10) (v := -1) rfl rfl rfl ?_
    refine z_ic_eq (q := 13) rfl rfl (fun h10 => ?_) (fun h10 => ?_)
    · refine z_iload_n (q := 34) rfl rfl rfl ?_
      refine z_ireti rfl rfl ?_
      unfold dp at hm
      rw [if_pos h10] at hm
      have e2 : i = m := hm
      subst e2
      exact ⟨rfl, rfl⟩
    · refine z_iload_n (q := 14) rfl rfl rfl ?_
      refine z_aload_n (q := 15) rfl rfl rfl ?_
      refine z_getI (q := 18) rfl rfl rfl (Sh_k w) ?_
      refine z_ic_ge (q := 21) rfl rfl (fun h18 => ?_) (fun h18 => ?_)
      · rw [hn] at h18
        exact absurd h18 (nI_ge (by omega) (by omega))
      · refine z_iinc (q := 24) (L2 := [_, _, _, _]) rfl rfl rfl rfl ?_
        refine z_aload_n (q := 25) rfl rfl rfl ?_
        refine z_iload_n (q := 26) rfl rfl rfl ?_
        refine z_cv1i (q := 29) rfl rfl rfl (Sh_k w) (s_Sh_parentV w hn hN hM ha h10) ?_
        refine z_istore_n (q := 30) (L2 := [_, _, _, _]) rfl rfl rfl rfl ?_
        refine z_goto rfl ?_
        rw [show nI i + Int32.ofInt 1 = nI (i + 1) from (nI_succ i).symm]
        refine ih (i + 1) _ (by omega) (okv_f ho ha h10 (by omega)) ?_
        unfold dp at hm
        rw [if_neg h10] at hm
        omega
theorem s_Sh_depthOf {sc : Option (Nat × Nat × (Nat → Int32))} {sa : Nat → Nat} {d : Nat} {M : mz_M} {z : Nat × Nat} {sh N : Nat} (w : g_Sh M.2.2 sh N) {n : Nat} (hn : M.1 sh 8 = nI n) (hN : n ≤ N) (hM : N ≤ 200) {j : Nat} (hj : j < n) (ho : okl (M.1 (sh + 4)) n)  : zx sc sa (d + 3) 29 [.ref sh, .int (nI j)] M z z (some (.int (nI (dp (M.1 (sh + 4)) n (M.1 (sh + 4) j))))) M := by
  refine zxin ym_Sh_depthOf [.ref sh, .int (nI j), .retAddr 0, .retAddr 0] rfl rfl rfl rfl ?_
  refine z_iconst (q := 1) (v := 0) rfl rfl rfl ?_
  refine z_istore_n (q := 2) (L2 := [_, _, _, _]) rfl rfl rfl rfl ?_
  refine z_aload_n (q := 3) rfl rfl rfl ?_
  refine z_iload_n (q := 4) rfl rfl rfl ?_
  refine z_cv1i (q := 7) rfl rfl rfl (Sh_k w) (s_Sh_parentOf w hn hN hM hj) ?_
  refine z_istore_n (q := 8) (L2 := [_, _, _, _]) rfl rfl rfl rfl ?_
  exact l_Sh_depthOf w hn hN hM ho n 0 _ (by omega) (ho j hj) (by omega)
theorem l_Sh_meeting {sc : Option (Nat × Nat × (Nat → Int32))} {sa : Nat → Nat} {d : Nat} {M : mz_M} {z : Nat × Nat} {sh N : Nat} (w : g_Sh M.2.2 sh N) {n : Nat} (hn : M.1 sh 8 = nI n) (hN : n ≤ N) (hM : N ≤ 200) (ho : okm (M.1 (sh + 4)) n) {v0 v1 : Int32} {m : Nat} : ∀ (k : Nat) (i a b : Nat), i + k = 2 * n → a < n → b < n → mtN (M.1 (sh + 4)) k a b = m → zw sc sa (d + 2) ym_Sh_meeting z (fun r' M' => r' = some (.int (nI m)) ∧ M' = M) 8 [.ref sh, .int v0, .int v1, .int (nI a), .int (nI b), .int (nI i)] [] M z := by
  intro k
  induction k with
  | zero =>
    intro i a b hi ha hb hm
    have e1 : i = 2 * n := by omega
    subst e1
    have e2 : a = m := hm
    subst e2
    have e3 : (2 : Int32) * nI n = nI (2 * n) := pk_mul 2 n
    refine z_iload (q := 10) rfl rfl rfl ?_
    refine z_iconst (q := 11) (v := 2) rfl rfl rfl ?_
    refine z_aload_n (q := 12) rfl rfl rfl ?_
    refine z_getI (q := 15) rfl rfl rfl (Sh_k w) ?_
    refine z_imul (q := 16) rfl rfl ?_
    refine z_ic_ge (q := 19) rfl rfl (fun h16 => ?_) (fun h16 => ?_)
    · refine z_iload_n (q := 55) rfl rfl rfl ?_
      refine z_ireti rfl rfl ?_
      exact ⟨rfl, rfl⟩
    · exact absurd (by rw [hn, e3]; exact nI_le (Nat.le_refl _) (by omega)) h16
  | succ k ih =>
    intro i a b hi ha hb hm
    have e3 : (2 : Int32) * nI n = nI (2 * n) := pk_mul 2 n
    refine z_iload (q := 10) rfl rfl rfl ?_
    refine z_iconst (q := 11) (v := 2) rfl rfl rfl ?_
    refine z_aload_n (q := 12) rfl rfl rfl ?_
    refine z_getI (q := 15) rfl rfl rfl (Sh_k w) ?_
    refine z_imul (q := 16) rfl rfl ?_
    refine z_ic_ge (q := 19) rfl rfl (fun h16 => ?_) (fun h16 => ?_)
    · rw [hn, e3] at h16
      exact absurd h16 (nI_ge (by omega) (by omega))
    · refine z_iload_n (q := 20) rfl rfl rfl ?_
      refine z_iload (q := 22) rfl rfl rfl ?_
      refine z_ic_eq (q := 25) rfl rfl (fun h22 => ?_) (fun h22 => ?_)
      · refine z_iload_n (q := 55) rfl rfl rfl ?_
        refine z_ireti rfl rfl ?_
        rw [nI_eq (by omega) (by omega)] at h22
        unfold mtN at hm
        rw [if_pos h22] at hm
        subst hm
        exact ⟨rfl, rfl⟩
      · refine z_iload_n (q := 26) rfl rfl rfl ?_
        refine z_iload (q := 28) rfl rfl rfl ?_
        refine z_ic_le (q := 31) rfl rfl (fun h28 => ?_) (fun h28 => ?_)
        · refine z_aload_n (q := 41) rfl rfl rfl ?_
          refine z_iload (q := 43) rfl rfl rfl ?_
          refine z_cv1i (q := 46) rfl rfl rfl (Sh_k w) (s_Sh_parentOf w hn hN hM hb) ?_
          refine z_istore (q := 48) (L2 := [_, _, _, _, _, _]) rfl rfl rfl rfl ?_
          refine z_iinc (q := 51) (L2 := [_, _, _, _, _, _]) rfl rfl rfl rfl ?_
          refine z_goto rfl ?_
          rw [show nI i + Int32.ofInt 1 = nI (i + 1) from (nI_succ i).symm]
          rw [nI_eq (by omega) (by omega)] at h22
          rw [nI_leI (by omega) (by omega)] at h28
          unfold mtN at hm
          rw [if_neg h22] at hm
          first
            | (obtain ⟨u, hu, e⟩ := ho.2 a (by omega) ha
               rw [if_pos (by omega), e, nI_clamp (by omega)] at hm
               rw [e]
               exact ih (i + 1) u b (by omega) (by omega) hb hm)
            | (obtain ⟨u, hu, e⟩ := ho.2 b (by omega) hb
               rw [if_neg (by omega), e, nI_clamp (by omega)] at hm
               rw [e]
               exact ih (i + 1) a u (by omega) ha (by omega) hm)
        · refine z_aload_n (q := 32) rfl rfl rfl ?_
          refine z_iload_n (q := 33) rfl rfl rfl ?_
          refine z_cv1i (q := 36) rfl rfl rfl (Sh_k w) (s_Sh_parentOf w hn hN hM ha) ?_
          refine z_istore_n (q := 37) (L2 := [_, _, _, _, _, _]) rfl rfl rfl rfl ?_
          refine z_goto rfl ?_
          refine z_iinc (q := 51) (L2 := [_, _, _, _, _, _]) rfl rfl rfl rfl ?_
          refine z_goto rfl ?_
          rw [show nI i + Int32.ofInt 1 = nI (i + 1) from (nI_succ i).symm]
          rw [nI_eq (by omega) (by omega)] at h22
          rw [nI_leI (by omega) (by omega)] at h28
          unfold mtN at hm
          rw [if_neg h22] at hm
          first
            | (obtain ⟨u, hu, e⟩ := ho.2 a (by omega) ha
               rw [if_pos (by omega), e, nI_clamp (by omega)] at hm
               rw [e]
               exact ih (i + 1) u b (by omega) (by omega) hb hm)
            | (obtain ⟨u, hu, e⟩ := ho.2 b (by omega) hb
               rw [if_neg (by omega), e, nI_clamp (by omega)] at hm
               rw [e]
               exact ih (i + 1) a u (by omega) ha (by omega) hm)
theorem s_Sh_meeting {sc : Option (Nat × Nat × (Nat → Int32))} {sa : Nat → Nat} {d : Nat} {M : mz_M} {z : Nat × Nat} {sh N : Nat} (w : g_Sh M.2.2 sh N) {n : Nat} (hn : M.1 sh 8 = nI n) (hN : n ≤ N) (hM : N ≤ 200) {j : Nat} (hj : j < n) {l : Nat} (hl : l < n) (ho : okm (M.1 (sh + 4)) n) : zx sc sa (d + 3) 30 [.ref sh, .int (nI j), .int (nI l)] M z z (some (.int (nI (mtN (M.1 (sh + 4)) (2 * n) j l)))) M := by
  refine zxin ym_Sh_meeting [.ref sh, .int (nI j), .int (nI l), .retAddr 0, .retAddr 0, .retAddr 0] rfl rfl rfl rfl ?_
  refine z_iload_n (q := 1) rfl rfl rfl ?_
  refine z_istore_n (q := 2) (L2 := [_, _, _, _, _, _]) rfl rfl rfl rfl ?_
  refine z_iload_n (q := 3) rfl rfl rfl ?_
  refine z_istore (q := 5) (L2 := [_, _, _, _, _, _]) rfl rfl rfl rfl ?_
  refine z_iconst (q := 6) (v := 0) rfl rfl rfl ?_
  refine z_istore (q := 8) (L2 := [_, _, _, _, _, _]) rfl rfl rfl rfl ?_
  exact l_Sh_meeting w hn hN hM ho (2 * n) 0 j l (by omega) hj hl rfl
theorem l_Sh_lastSetter {sc : Option (Nat × Nat × (Nat → Int32))} {sa : Nat → Nat} {d : Nat} {M : mz_M} {z : Nat × Nat} {sh N : Nat} (w : g_Sh M.2.2 sh N) {n : Nat} (hn : M.1 sh 8 = nI n) (hN : n ≤ N) (hM : N ≤ 200) (ho : okl (M.1 (sh + 4)) n) {v0 cell m : Int32} : ∀ (k : Nat) (i : Nat) (a : Int32), i + k = n → okv n a → lsI (M.1 (sh + 4)) (M.1 (sh + 5)) cell k a = m → zw sc sa (d + 1) ym_Sh_lastSetter z (fun r' M' => r' = some (.int m) ∧ M' = M) 5 [.ref sh, .int v0, .int cell, .int a, .int (nI i)] [] M z := by
  intro k
  induction k with
  | zero =>
    intro i a hi ha hm
    have e1 : i = n := by omega
    subst e1
    have e2 : 0 = m := hm
    subst e2
    refine z_iload (q := 7) rfl rfl rfl ?_
    refine z_aload_n (q := 8) rfl rfl rfl ?_
    refine z_getI (q := 11) rfl rfl rfl (Sh_k w) ?_
    refine z_ic_ge (q := 14) rfl rfl (fun h11 => ?_) (fun h11 => ?_)
    · refine z_iconst (q := 48) (v := 0) rfl rfl rfl ?_
      refine z_ireti rfl rfl ?_
      exact ⟨rfl, rfl⟩
    · exact absurd (by rw [hn]; exact nI_le (Nat.le_refl _) (by omega)) h11
  | succ k ih =>
    intro i a hi ha hm
    refine z_iload (q := 7) rfl rfl rfl ?_
    refine z_aload_n (q := 8) rfl rfl rfl ?_
    refine z_getI (q := 11) rfl rfl rfl (Sh_k w) ?_
    refine z_ic_ge (q := 14) rfl rfl (fun h11 => ?_) (fun h11 => ?_)
    · rw [hn] at h11
      exact absurd h11 (nI_ge (by omega) (by omega))
    · refine z_aload_n (q := 15) rfl rfl rfl ?_
      refine z_iload_n (q := 16) rfl rfl rfl ?_
      refine z_cv1i (q := 19) rfl rfl rfl (Sh_k w) (s_Sh_hasV w hn hN hM ha) ?_
      refine z_if_eq (q := 22) rfl rfl (fun h19 => ?_) (fun h19 => ?_)
      · refine z_iconst (q := 48) (v := 0) rfl rfl rfl ?_
        refine z_ireti rfl rfl ?_
        have h9 : a = -1 := Decidable.not_not.mp (bz_0.mp h19)
        unfold lsI at hm
        rw [if_pos h9] at hm
        rw [← hm]
        exact ⟨rfl, rfl⟩
      · refine z_aload_n (q := 23) rfl rfl rfl ?_
        refine z_getR (q := 26) rfl rfl rfl (Sh_k w) (Sh_r4 w) ?_
        refine z_iload_n (q := 27) rfl rfl rfl ?_
        refine z_iald (q := 28) rfl rfl (Sh_a4 w) (okv_in ha (bz_n.mp h19) hN (by omega)) ?_
        refine z_iload_n (q := 29) rfl rfl rfl ?_
        refine z_ic_ne (q := 32) rfl rfl (fun h29 => ?_) (fun h29 => ?_)
        · refine z_aload_n (q := 35) rfl rfl rfl ?_
          refine z_getR (q := 38) rfl rfl rfl (Sh_k w) (Sh_r3 w) ?_
          refine z_iload_n (q := 39) rfl rfl rfl ?_
          refine z_iald (q := 40) rfl rfl (Sh_a3 w) (okv_in ha (bz_n.mp h19) hN (by omega)) ?_
          refine z_istore_n (q := 41) (L2 := [_, _, _, _, _]) rfl rfl rfl rfl ?_
          refine z_iinc (q := 44) (L2 := [_, _, _, _, _]) rfl rfl rfl rfl ?_
          refine z_goto rfl ?_
          rw [show nI i + Int32.ofInt 1 = nI (i + 1) from (nI_succ i).symm]
          have h9 := bz_n.mp h19
          refine ih (i + 1) _ (by omega) (okv_f ho ha h9 (by omega)) ?_
          unfold lsI at hm
          rw [if_neg h9, if_neg h29] at hm
          exact hm
        · refine z_iload_n (q := 33) rfl rfl rfl ?_
          refine z_ireti rfl rfl ?_
          have h9 := bz_n.mp h19
          unfold lsI at hm
          rw [if_neg h9, if_pos h29] at hm
          rw [hm]
          exact ⟨rfl, rfl⟩
theorem s_Sh_lastSetter {sc : Option (Nat × Nat × (Nat → Int32))} {sa : Nat → Nat} {d : Nat} {M : mz_M} {z : Nat × Nat} {sh N : Nat} (w : g_Sh M.2.2 sh N) {n : Nat} (hn : M.1 sh 8 = nI n) (hN : n ≤ N) (hM : N ≤ 200) {j : Nat} (hj : j < n) (ho : okl (M.1 (sh + 4)) n) {cell : Int32} : zx sc sa (d + 2) 31 [.ref sh, .int (nI j), .int cell] M z z (some (.int (lsI (M.1 (sh + 4)) (M.1 (sh + 5)) cell n (nI j)))) M := by
  refine zxin ym_Sh_lastSetter [.ref sh, .int (nI j), .int cell, .retAddr 0, .retAddr 0] rfl rfl rfl rfl ?_
  refine z_iload_n (q := 1) rfl rfl rfl ?_
  refine z_istore_n (q := 2) (L2 := [_, _, _, _, _]) rfl rfl rfl rfl ?_
  refine z_iconst (q := 3) (v := 0) rfl rfl rfl ?_
  refine z_istore (q := 5) (L2 := [_, _, _, _, _]) rfl rfl rfl rfl ?_
  exact l_Sh_lastSetter w hn hN hM ho n 0 _ (by omega) (Or.inr ⟨j, hj, rfl⟩) rfl
theorem l_Sh_timesSet {sc : Option (Nat × Nat × (Nat → Int32))} {sa : Nat → Nat} {d : Nat} {M : mz_M} {z : Nat × Nat} {sh N : Nat} (w : g_Sh M.2.2 sh N) {n : Nat} (hn : M.1 sh 8 = nI n) (hN : n ≤ N) (hM : N ≤ 200) (ho : okl (M.1 (sh + 4)) n) {v0 cell m : Int32} : ∀ (k : Nat) (i : Nat) (a t : Int32), i + k = n → okv n a → tsI (M.1 (sh + 4)) (M.1 (sh + 5)) cell k a t = m → zw sc sa (d + 1) ym_Sh_timesSet z (fun r' M' => r' = some (.int m) ∧ M' = M) 8 [.ref sh, .int v0, .int cell, .int t, .int a, .int (nI i)] [] M z := by
  intro k
  induction k with
  | zero =>
    intro i a t hi ha hm
    have e1 : i = n := by omega
    subst e1
    have e2 : t = m := hm
    subst e2
    refine z_iload (q := 10) rfl rfl rfl ?_
    refine z_aload_n (q := 11) rfl rfl rfl ?_
    refine z_getI (q := 14) rfl rfl rfl (Sh_k w) ?_
    refine z_ic_ge (q := 17) rfl rfl (fun h14 => ?_) (fun h14 => ?_)
    · refine z_iload_n (q := 56) rfl rfl rfl ?_
      refine z_ireti rfl rfl ?_
      exact ⟨rfl, rfl⟩
    · exact absurd (by rw [hn]; exact nI_le (Nat.le_refl _) (by omega)) h14
  | succ k ih =>
    intro i a t hi ha hm
    refine z_iload (q := 10) rfl rfl rfl ?_
    refine z_aload_n (q := 11) rfl rfl rfl ?_
    refine z_getI (q := 14) rfl rfl rfl (Sh_k w) ?_
    refine z_ic_ge (q := 17) rfl rfl (fun h14 => ?_) (fun h14 => ?_)
    · rw [hn] at h14
      exact absurd h14 (nI_ge (by omega) (by omega))
    · refine z_aload_n (q := 18) rfl rfl rfl ?_
      refine z_iload (q := 20) rfl rfl rfl ?_
      refine z_cv1i (q := 23) rfl rfl rfl (Sh_k w) (s_Sh_hasV w hn hN hM ha) ?_
      refine z_if_eq (q := 26) rfl rfl (fun h23 => ?_) (fun h23 => ?_)
      · refine z_iload_n (q := 56) rfl rfl rfl ?_
        refine z_ireti rfl rfl ?_
        have h9 : a = -1 := Decidable.not_not.mp (bz_0.mp h23)
        unfold tsI at hm
        rw [if_pos h9] at hm
        rw [← hm]
        exact ⟨rfl, rfl⟩
      · refine z_aload_n (q := 27) rfl rfl rfl ?_
        refine z_getR (q := 30) rfl rfl rfl (Sh_k w) (Sh_r4 w) ?_
        refine z_iload (q := 32) rfl rfl rfl ?_
        refine z_iald (q := 33) rfl rfl (Sh_a4 w) (okv_in ha (bz_n.mp h23) hN (by omega)) ?_
        refine z_iload_n (q := 34) rfl rfl rfl ?_
        refine z_ic_ne (q := 37) rfl rfl (fun h34 => ?_) (fun h34 => ?_)
        · refine z_aload_n (q := 41) rfl rfl rfl ?_
          refine z_getR (q := 44) rfl rfl rfl (Sh_k w) (Sh_r3 w) ?_
          refine z_iload (q := 46) rfl rfl rfl ?_
          refine z_iald (q := 47) rfl rfl (Sh_a3 w) (okv_in ha (bz_n.mp h23) hN (by omega)) ?_
          refine z_istore (q := 49) (L2 := [_, _, _, _, _, _]) rfl rfl rfl rfl ?_
          refine z_iinc (q := 52) (L2 := [_, _, _, _, _, _]) rfl rfl rfl rfl ?_
          refine z_goto rfl ?_
          rw [show nI i + Int32.ofInt 1 = nI (i + 1) from (nI_succ i).symm]
          have h9 := bz_n.mp h23
          refine ih (i + 1) _ _ (by omega) (okv_f ho ha h9 (by omega)) ?_
          unfold tsI at hm
          first | (rw [if_neg h9, if_neg h34] at hm; exact hm) | (rw [if_neg h9, if_pos h34] at hm; exact hm)
        · refine z_iinc (q := 40) (L2 := [_, _, _, _, _, _]) rfl rfl rfl rfl ?_
          refine z_aload_n (q := 41) rfl rfl rfl ?_
          refine z_getR (q := 44) rfl rfl rfl (Sh_k w) (Sh_r3 w) ?_
          refine z_iload (q := 46) rfl rfl rfl ?_
          refine z_iald (q := 47) rfl rfl (Sh_a3 w) (okv_in ha (bz_n.mp h23) hN (by omega)) ?_
          refine z_istore (q := 49) (L2 := [_, _, _, _, _, _]) rfl rfl rfl rfl ?_
          refine z_iinc (q := 52) (L2 := [_, _, _, _, _, _]) rfl rfl rfl rfl ?_
          refine z_goto rfl ?_
          rw [show nI i + Int32.ofInt 1 = nI (i + 1) from (nI_succ i).symm]
          have h9 := bz_n.mp h23
          refine ih (i + 1) _ _ (by omega) (okv_f ho ha h9 (by omega)) ?_
          unfold tsI at hm
          first | (rw [if_neg h9, if_neg h34] at hm; exact hm) | (rw [if_neg h9, if_pos h34] at hm; exact hm)
theorem s_Sh_timesSet {sc : Option (Nat × Nat × (Nat → Int32))} {sa : Nat → Nat} {d : Nat} {M : mz_M} {z : Nat × Nat} {sh N : Nat} (w : g_Sh M.2.2 sh N) {n : Nat} (hn : M.1 sh 8 = nI n) (hN : n ≤ N) (hM : N ≤ 200) {j : Nat} (hj : j < n) (ho : okl (M.1 (sh + 4)) n) {cell : Int32} : zx sc sa (d + 2) 32 [.ref sh, .int (nI j), .int cell] M z z (some (.int (tsI (M.1 (sh + 4)) (M.1 (sh + 5)) cell n (nI j) 0))) M := by
  refine zxin ym_Sh_timesSet [.ref sh, .int (nI j), .int cell, .retAddr 0, .retAddr 0, .retAddr 0] rfl rfl rfl rfl ?_
  refine z_iconst (q := 1) (v := 0) rfl rfl rfl ?_
  refine z_istore_n (q := 2) (L2 := [_, _, _, _, _, _]) rfl rfl rfl rfl ?_
  refine z_iload_n (q := 3) rfl rfl rfl ?_
  refine z_istore (q := 5) (L2 := [_, _, _, _, _, _]) rfl rfl rfl rfl ?_
  refine z_iconst (q := 6) (v := 0) rfl rfl rfl ?_
  refine z_istore (q := 8) (L2 := [_, _, _, _, _, _]) rfl rfl rfl rfl ?_
  exact l_Sh_timesSet w hn hN hM ho n 0 _ _ (by omega) (Or.inr ⟨j, hj, rfl⟩) rfl
theorem l_Sh_firstLike {sc : Option (Nat × Nat × (Nat → Int32))} {sa : Nat → Nat} {d : Nat} {M : mz_M} {z : Nat × Nat} {sh N : Nat} (w : g_Sh M.2.2 sh N) {n : Nat} (hn : M.1 sh 8 = nI n) (hN : n ≤ N) (hM : N ≤ 200) {j : Nat} (hj : j < n) {row : Int64} {m : Nat} : ∀ (k : Nat) (i : Nat), i + k = j → fi (M.2.1 (sh + 1)) row k i = m → zw sc sa (d + 1) ym_Sh_firstLike z (fun r' M' => r' = some (.int (nI m)) ∧ M' = M) 9 [.ref sh, .int (nI j), .long row, .retAddr 0, .int (nI i)] [] M z := by
  intro k
  induction k with
  | zero =>
    intro i hi hm
    have e1 : i = j := by omega
    subst e1
    have e2 : i = m := hm
    subst e2
    refine z_iload (q := 11) rfl rfl rfl ?_
    refine z_iload_n (q := 12) rfl rfl rfl ?_
    refine z_ic_ge (q := 15) rfl rfl (fun h12 => ?_) (fun h12 => ?_)
    · refine z_iload_n (q := 46) rfl rfl rfl ?_
      refine z_ireti rfl rfl ?_
      exact ⟨rfl, rfl⟩
    · exact absurd (nI_le (Nat.le_refl _) (by omega)) h12
  | succ k ih =>
    intro i hi hm
    refine z_iload (q := 11) rfl rfl rfl ?_
    refine z_iload_n (q := 12) rfl rfl rfl ?_
    refine z_ic_ge (q := 15) rfl rfl (fun h12 => ?_) (fun h12 => ?_)
    · exact absurd h12 (nI_ge (by omega) (by omega))
    · refine z_iload (q := 17) rfl rfl rfl ?_
      refine z_aload_n (q := 18) rfl rfl rfl ?_
      refine z_getI (q := 21) rfl rfl rfl (Sh_k w) ?_
      refine z_ic_ge (q := 24) rfl rfl (fun h21 => ?_) (fun h21 => ?_)
      · rw [hn] at h21
        exact absurd h21 (nI_ge (by omega) (by omega))
      · refine z_aload_n (q := 25) rfl rfl rfl ?_
        refine z_getR (q := 28) rfl rfl rfl (Sh_k w) (Sh_r0 w) ?_
        refine z_iload (q := 30) rfl rfl rfl ?_
        refine z_lald (q := 31) rfl rfl (Sh_a0 w) (by first | assumption | exact vp_in_nI (by omega) (by omega)) ?_
        refine z_lload_n (q := 32) rfl rfl rfl ?_
        refine z_lcmp (q := 33) rfl rfl ?_
        refine z_if_ne (q := 36) rfl rfl (fun h33 => ?_) (fun h33 => ?_)
        · refine z_iinc (q := 42) (L2 := [_, _, _, _, _]) rfl rfl rfl rfl ?_
          refine z_goto rfl ?_
          rw [show nI i + Int32.ofInt 1 = nI (i + 1) from (nI_succ i).symm]
          rw [nI_clamp (by omega), lg_0] at h33
          unfold fi at hm
          rw [if_neg h33] at hm
          exact ih (i + 1) (by omega) hm
        · refine z_iload (q := 38) rfl rfl rfl ?_
          refine z_ireti rfl rfl ?_
          rw [nI_clamp (by omega), lg_0] at h33
          unfold fi at hm
          rw [if_pos h33] at hm
          subst hm
          exact ⟨rfl, rfl⟩
theorem s_Sh_firstLike {sc : Option (Nat × Nat × (Nat → Int32))} {sa : Nat → Nat} {d : Nat} {M : mz_M} {z : Nat × Nat} {sh N : Nat} (w : g_Sh M.2.2 sh N) {n : Nat} (hn : M.1 sh 8 = nI n) (hN : n ≤ N) (hM : N ≤ 200) {j : Nat} (hj : j < n)  : zx sc sa (d + 3) 26 [.ref sh, .int (nI j)] M z z (some (.int (nI (fi (M.2.1 (sh + 1)) (M.2.1 (sh + 1) j) j 0)))) M := by
  refine zxin ym_Sh_firstLike [.ref sh, .int (nI j), .retAddr 0, .retAddr 0, .retAddr 0] rfl rfl rfl rfl ?_
  refine z_aload_n (q := 1) rfl rfl rfl ?_
  refine z_iload_n (q := 2) rfl rfl rfl ?_
  refine z_cv1l (q := 5) rfl rfl rfl (Sh_k w) (s_Sh_rowOf w hn hN hM hj) ?_
  refine z_lstore_n (q := 6) (L2 := [_, _, _, _, _]) rfl rfl rfl rfl ?_
  refine z_iconst (q := 7) (v := 0) rfl rfl rfl ?_
  refine z_istore (q := 9) (L2 := [_, _, _, _, _]) rfl rfl rfl rfl ?_
  exact l_Sh_firstLike w hn hN hM hj j 0 (by omega) rfl
theorem l_Sh_wayBits {sc : Option (Nat × Nat × (Nat → Int32))} {sa : Nat → Nat} {d : Nat} {M : mz_M} {z : Nat × Nat} {sh N : Nat} (w : g_Sh M.2.2 sh N) {n : Nat} (hn : M.1 sh 8 = nI n) (hN : n ≤ N) (hM : N ≤ 200) (hf : okl (M.1 (sh + 2)) n) {v0 : Int32} {m : Int64} : ∀ (k : Nat) (i : Nat) (a : Int32) (b : Int64), i + k = n → okv n a → wbI (M.1 (sh + 2)) k a b = m → zw sc sa (d + 1) ym_Sh_wayBits z (fun r' M' => r' = some (.long m) ∧ M' = M) 8 [.ref sh, .int v0, .long b, .retAddr 0, .int a, .int (nI i)] [] M z := by
  intro k
  induction k with
  | zero =>
    intro i a b hi ha hm
    have e1 : i = n := by omega
    subst e1
    have e2 : b = m := hm
    subst e2
    refine z_iload (q := 10) rfl rfl rfl ?_
    refine z_aload_n (q := 11) rfl rfl rfl ?_
    refine z_getI (q := 14) rfl rfl rfl (Sh_k w) ?_
    refine z_ic_ge (q := 17) rfl rfl (fun h14 => ?_) (fun h14 => ?_)
    · refine z_lload_n (q := 49) rfl rfl rfl ?_
      refine z_lret rfl rfl ?_
      exact ⟨rfl, rfl⟩
    · exact absurd (by rw [hn]; exact nI_le (Nat.le_refl _) (by omega)) h14
  | succ k ih =>
    intro i a b hi ha hm
    refine z_iload (q := 10) rfl rfl rfl ?_
    refine z_aload_n (q := 11) rfl rfl rfl ?_
    refine z_getI (q := 14) rfl rfl rfl (Sh_k w) ?_
    refine z_ic_ge (q := 17) rfl rfl (fun h14 => ?_) (fun h14 => ?_)
    · rw [hn] at h14
      exact absurd h14 (nI_ge (by omega) (by omega))
    · refine z_aload_n (q := 18) rfl rfl rfl ?_
      refine z_iload (q := 20) rfl rfl rfl ?_
      refine z_cv1i (q := 23) rfl rfl rfl (Sh_k w) (s_Sh_hasV w hn hN hM ha) ?_
      refine z_if_eq (q := 26) rfl rfl (fun h23 => ?_) (fun h23 => ?_)
      · refine z_lload_n (q := 49) rfl rfl rfl ?_
        refine z_lret rfl rfl ?_
        have h9 : a = -1 := Decidable.not_not.mp (bz_0.mp h23)
        unfold wbI at hm
        rw [if_pos h9] at hm
        rw [← hm]
        exact ⟨rfl, rfl⟩
      · refine z_lload_n (q := 27) rfl rfl rfl ?_
        refine z_lconst (q := 28) (v := 1) rfl rfl rfl ?_
        refine z_iload (q := 30) rfl rfl rfl ?_
        refine z_lshl (q := 31) rfl rfl ?_
        refine z_lor (q := 32) rfl rfl ?_
        refine z_lstore_n (q := 33) (L2 := [_, _, _, _, _, _]) rfl rfl rfl rfl ?_
        refine z_aload_n (q := 34) rfl rfl rfl ?_
        refine z_getR (q := 37) rfl rfl rfl (Sh_k w) (Sh_r1 w) ?_
        refine z_iload (q := 39) rfl rfl rfl ?_
        refine z_iald (q := 40) rfl rfl (Sh_a1 w) (okv_in ha (bz_n.mp h23) hN (by omega)) ?_
        refine z_istore (q := 42) (L2 := [_, _, _, _, _, _]) rfl rfl rfl rfl ?_
        refine z_iinc (q := 45) (L2 := [_, _, _, _, _, _]) rfl rfl rfl rfl ?_
        refine z_goto rfl ?_
        rw [show nI i + Int32.ofInt 1 = nI (i + 1) from (nI_succ i).symm]
        have h9 := bz_n.mp h23
        refine ih (i + 1) _ _ (by omega) (okv_f hf ha h9 (by omega)) ?_
        unfold wbI at hm
        rw [if_neg h9] at hm
        exact hm
theorem s_Sh_wayBits {sc : Option (Nat × Nat × (Nat → Int32))} {sa : Nat → Nat} {d : Nat} {M : mz_M} {z : Nat × Nat} {sh N : Nat} (w : g_Sh M.2.2 sh N) {n : Nat} (hn : M.1 sh 8 = nI n) (hN : n ≤ N) (hM : N ≤ 200) {j : Nat} (hj : j < n) (hf : okl (M.1 (sh + 2)) n)  : zx sc sa (d + 2) 45 [.ref sh, .int (nI j)] M z z (some (.long (wbI (M.1 (sh + 2)) n (nI j) 0))) M := by
  refine zxin ym_Sh_wayBits [.ref sh, .int (nI j), .retAddr 0, .retAddr 0, .retAddr 0, .retAddr 0] rfl rfl rfl rfl ?_
  refine z_lconst (q := 1) (v := 0) rfl rfl rfl ?_
  refine z_lstore_n (q := 2) (L2 := [_, _, _, _, _, _]) rfl rfl rfl rfl ?_
  refine z_iload_n (q := 3) rfl rfl rfl ?_
  refine z_istore (q := 5) (L2 := [_, _, _, _, _, _]) rfl rfl rfl rfl ?_
  refine z_iconst (q := 6) (v := 0) rfl rfl rfl ?_
  refine z_istore (q := 8) (L2 := [_, _, _, _, _, _]) rfl rfl rfl rfl ?_
  exact l_Sh_wayBits w hn hN hM hf n 0 _ _ (by omega) (Or.inr ⟨j, hj, rfl⟩) rfl
theorem l_Sh_withWays {sc : Option (Nat × Nat × (Nat → Int32))} {sa : Nat → Nat} {d : Nat} {M : mz_M} {z : Nat × Nat} {sh N : Nat} (w : g_Sh M.2.2 sh N) {n : Nat} (hn : M.1 sh 8 = nI n) (hN : n ≤ N) (hM : N ≤ 200) (hf : okl (M.1 (sh + 2)) n) {set : Int64} : ∀ (k : Nat) (i : Nat), i + k = n → zw sc sa (d + 2) ym_Sh_withWays z (fun r' M' => r' = some (.long (fo (fun v acc => if lg_cmp ((Int64.toUInt64 (set) >>> ((nI v).toInt64.toUInt64 &&& Int64.toUInt64 63)).toInt64 &&& 1) 0 = 0 then acc else acc ||| wbI (M.1 (sh + 2)) n (nI v) 0) set n)) ∧ M' = M) 5 [.ref sh, .long set, .retAddr 0, .long (fo (fun v acc => if lg_cmp ((Int64.toUInt64 (set) >>> ((nI v).toInt64.toUInt64 &&& Int64.toUInt64 63)).toInt64 &&& 1) 0 = 0 then acc else acc ||| wbI (M.1 (sh + 2)) n (nI v) 0) set i), .retAddr 0, .int (nI i)] [] M z := by
  intro k
  induction k with
  | zero =>
    intro i hi
    have e1 : i = n := by omega
    subst e1
    refine z_iload (q := 7) rfl rfl rfl ?_
    refine z_aload_n (q := 8) rfl rfl rfl ?_
    refine z_getI (q := 11) rfl rfl rfl (Sh_k w) ?_
    refine z_ic_ge (q := 14) rfl rfl (fun h11 => ?_) (fun h11 => ?_)
    · refine z_lload_n (q := 41) rfl rfl rfl ?_
      refine z_lret rfl rfl ?_
      exact ⟨rfl, rfl⟩
    · exact absurd (by rw [hn]; exact nI_le (Nat.le_refl _) (by omega)) h11
  | succ k ih =>
    intro i hi
    refine z_iload (q := 7) rfl rfl rfl ?_
    refine z_aload_n (q := 8) rfl rfl rfl ?_
    refine z_getI (q := 11) rfl rfl rfl (Sh_k w) ?_
    refine z_ic_ge (q := 14) rfl rfl (fun h11 => ?_) (fun h11 => ?_)
    · rw [hn] at h11
      exact absurd h11 (nI_ge (by omega) (by omega))
    · refine z_lload_n (q := 15) rfl rfl rfl ?_
      refine z_iload (q := 17) rfl rfl rfl ?_
      refine z_lushr (q := 18) rfl rfl ?_
      refine z_lconst (q := 19) (v := 1) rfl rfl rfl ?_
      refine z_land (q := 20) rfl rfl ?_
      refine z_lconst (q := 21) (v := 0) rfl rfl rfl ?_
      refine z_lcmp (q := 22) rfl rfl ?_
      refine z_if_eq (q := 25) rfl rfl (fun h22 => ?_) (fun h22 => ?_)
      · refine z_iinc (q := 37) (L2 := [_, _, _, _, _, _]) rfl rfl rfl rfl ?_
        refine z_goto rfl ?_
        rw [show nI i + Int32.ofInt 1 = nI (i + 1) from (nI_succ i).symm]
        have e9 := ih (i + 1) (by omega)
        first | exact e9 | (simp only [fo, if_pos h22] at e9; exact e9) | (simp only [fo, if_neg h22] at e9; exact e9)
      · refine z_lload_n (q := 26) rfl rfl rfl ?_
        refine z_aload_n (q := 27) rfl rfl rfl ?_
        refine z_iload (q := 29) rfl rfl rfl ?_
        refine z_cv1l (q := 32) rfl rfl rfl (Sh_k w) (s_Sh_wayBits w hn hN hM (by omega) hf) ?_
        refine z_lor (q := 33) rfl rfl ?_
        refine z_lstore_n (q := 34) (L2 := [_, _, _, _, _, _]) rfl rfl rfl rfl ?_
        refine z_iinc (q := 37) (L2 := [_, _, _, _, _, _]) rfl rfl rfl rfl ?_
        refine z_goto rfl ?_
        rw [show nI i + Int32.ofInt 1 = nI (i + 1) from (nI_succ i).symm]
        have e9 := ih (i + 1) (by omega)
        first | exact e9 | (simp only [fo, if_pos h22] at e9; exact e9) | (simp only [fo, if_neg h22] at e9; exact e9)
theorem s_Sh_withWays {sc : Option (Nat × Nat × (Nat → Int32))} {sa : Nat → Nat} {d : Nat} {M : mz_M} {z : Nat × Nat} {sh N : Nat} (w : g_Sh M.2.2 sh N) {n : Nat} (hn : M.1 sh 8 = nI n) (hN : n ≤ N) (hM : N ≤ 200) (hf : okl (M.1 (sh + 2)) n) {set : Int64} : zx sc sa (d + 3) 44 [.ref sh, .long set] M z z (some (.long (fo (fun v acc => if lg_cmp ((Int64.toUInt64 (set) >>> ((nI v).toInt64.toUInt64 &&& Int64.toUInt64 63)).toInt64 &&& 1) 0 = 0 then acc else acc ||| wbI (M.1 (sh + 2)) n (nI v) 0) set n))) M := by
  refine zxin ym_Sh_withWays [.ref sh, .long set, .retAddr 0, .retAddr 0, .retAddr 0, .retAddr 0] rfl rfl rfl rfl ?_
  refine z_lload_n (q := 1) rfl rfl rfl ?_
  refine z_lstore_n (q := 2) (L2 := [_, _, _, _, _, _]) rfl rfl rfl rfl ?_
  refine z_iconst (q := 3) (v := 0) rfl rfl rfl ?_
  refine z_istore (q := 5) (L2 := [_, _, _, _, _, _]) rfl rfl rfl rfl ?_
  exact l_Sh_withWays w hn hN hM hf n 0 (by omega)
theorem l_Sh_numbersIn {sc : Option (Nat × Nat × (Nat → Int32))} {sa : Nat → Nat} {d : Nat} {M : mz_M} {z : Nat × Nat} {sh N : Nat} (w : g_Sh M.2.2 sh N) {n : Nat} (hn : M.1 sh 8 = nI n) (hN : n ≤ N) (hM : N ≤ 200) {set : Int64} : ∀ (k : Nat) (i : Nat), i + k = n → zw sc sa (d + 2) ym_Sh_numbersIn z (fun r' M' => r' = some (.int (fo (fun v acc => if lg_cmp ((Int64.toUInt64 (set) >>> ((nI v).toInt64.toUInt64 &&& Int64.toUInt64 63)).toInt64 &&& 1) 0 = 0 then acc else acc + (if M.1 (sh + 2) v = -1 then M.1 sh 5 else 3)) 0 n)) ∧ M' = M) 5 [.ref sh, .long set, .retAddr 0, .int (fo (fun v acc => if lg_cmp ((Int64.toUInt64 (set) >>> ((nI v).toInt64.toUInt64 &&& Int64.toUInt64 63)).toInt64 &&& 1) 0 = 0 then acc else acc + (if M.1 (sh + 2) v = -1 then M.1 sh 5 else 3)) 0 i), .int (nI i)] [] M z := by
  intro k
  induction k with
  | zero =>
    intro i hi
    have e1 : i = n := by omega
    subst e1
    refine z_iload (q := 7) rfl rfl rfl ?_
    refine z_aload_n (q := 8) rfl rfl rfl ?_
    refine z_getI (q := 11) rfl rfl rfl (Sh_k w) ?_
    refine z_ic_ge (q := 14) rfl rfl (fun h11 => ?_) (fun h11 => ?_)
    · refine z_iload_n (q := 52) rfl rfl rfl ?_
      refine z_ireti rfl rfl ?_
      exact ⟨rfl, rfl⟩
    · exact absurd (by rw [hn]; exact nI_le (Nat.le_refl _) (by omega)) h11
  | succ k ih =>
    intro i hi
    refine z_iload (q := 7) rfl rfl rfl ?_
    refine z_aload_n (q := 8) rfl rfl rfl ?_
    refine z_getI (q := 11) rfl rfl rfl (Sh_k w) ?_
    refine z_ic_ge (q := 14) rfl rfl (fun h11 => ?_) (fun h11 => ?_)
    · rw [hn] at h11
      exact absurd h11 (nI_ge (by omega) (by omega))
    · refine z_lload_n (q := 15) rfl rfl rfl ?_
      refine z_iload (q := 17) rfl rfl rfl ?_
      refine z_lushr (q := 18) rfl rfl ?_
      refine z_lconst (q := 19) (v := 1) rfl rfl rfl ?_
      refine z_land (q := 20) rfl rfl ?_
      refine z_lconst (q := 21) (v := 0) rfl rfl rfl ?_
      refine z_lcmp (q := 22) rfl rfl ?_
      refine z_if_eq (q := 25) rfl rfl (fun h22 => ?_) (fun h22 => ?_)
      · refine z_iinc (q := 48) (L2 := [_, _, _, _, _]) rfl rfl rfl rfl ?_
        refine z_goto rfl ?_
        rw [show nI i + Int32.ofInt 1 = nI (i + 1) from (nI_succ i).symm]
        have e9 := ih (i + 1) (by omega)
        have e8 := e9
        simp only [fo] at e8
        first
          | (rw [if_pos h22] at e8; exact e8)
          | (rw [bz_n] at h32; rw [if_neg h22, if_pos h32] at e8; exact e8)
          | (rw [bz_0] at h32; rw [if_neg h22, if_neg h32] at e8; exact e8)
      · refine z_iload_n (q := 26) rfl rfl rfl ?_
        refine z_aload_n (q := 27) rfl rfl rfl ?_
        refine z_iload (q := 29) rfl rfl rfl ?_
        refine z_cv1i (q := 32) rfl rfl rfl (Sh_k w) (s_Sh_isDirect w hn hN hM (by omega)) ?_
        refine z_if_eq (q := 35) rfl rfl (fun h32 => ?_) (fun h32 => ?_)
        · refine z_iconst (q := 43) (v := 3) rfl rfl rfl ?_
          refine z_iadd (q := 44) rfl rfl ?_
          refine z_istore_n (q := 45) (L2 := [_, _, _, _, _]) rfl rfl rfl rfl ?_
          refine z_iinc (q := 48) (L2 := [_, _, _, _, _]) rfl rfl rfl rfl ?_
          refine z_goto rfl ?_
          rw [show nI i + Int32.ofInt 1 = nI (i + 1) from (nI_succ i).symm]
          have e9 := ih (i + 1) (by omega)
          have e8 := e9
          simp only [fo] at e8
          first
            | (rw [if_pos h22] at e8; exact e8)
            | (rw [bz_n] at h32; rw [if_neg h22, if_pos h32] at e8; exact e8)
            | (rw [bz_0] at h32; rw [if_neg h22, if_neg h32] at e8; exact e8)
        · refine z_aload_n (q := 36) rfl rfl rfl ?_
          refine z_getI (q := 39) rfl rfl rfl (Sh_k w) ?_
          refine z_goto rfl ?_
          refine z_iadd (q := 44) rfl rfl ?_
          refine z_istore_n (q := 45) (L2 := [_, _, _, _, _]) rfl rfl rfl rfl ?_
          refine z_iinc (q := 48) (L2 := [_, _, _, _, _]) rfl rfl rfl rfl ?_
          refine z_goto rfl ?_
          rw [show nI i + Int32.ofInt 1 = nI (i + 1) from (nI_succ i).symm]
          have e9 := ih (i + 1) (by omega)
          have e8 := e9
          simp only [fo] at e8
          first
            | (rw [if_pos h22] at e8; exact e8)
            | (rw [bz_n] at h32; rw [if_neg h22, if_pos h32] at e8; exact e8)
            | (rw [bz_0] at h32; rw [if_neg h22, if_neg h32] at e8; exact e8)
theorem s_Sh_numbersIn {sc : Option (Nat × Nat × (Nat → Int32))} {sa : Nat → Nat} {d : Nat} {M : mz_M} {z : Nat × Nat} {sh N : Nat} (w : g_Sh M.2.2 sh N) {n : Nat} (hn : M.1 sh 8 = nI n) (hN : n ≤ N) (hM : N ≤ 200) {set : Int64} : zx sc sa (d + 3) 46 [.ref sh, .long set] M z z (some (.int (fo (fun v acc => if lg_cmp ((Int64.toUInt64 (set) >>> ((nI v).toInt64.toUInt64 &&& Int64.toUInt64 63)).toInt64 &&& 1) 0 = 0 then acc else acc + (if M.1 (sh + 2) v = -1 then M.1 sh 5 else 3)) 0 n))) M := by
  refine zxin ym_Sh_numbersIn [.ref sh, .long set, .retAddr 0, .retAddr 0, .retAddr 0] rfl rfl rfl rfl ?_
  refine z_iconst (q := 1) (v := 0) rfl rfl rfl ?_
  refine z_istore_n (q := 2) (L2 := [_, _, _, _, _]) rfl rfl rfl rfl ?_
  refine z_iconst (q := 3) (v := 0) rfl rfl rfl ?_
  refine z_istore (q := 5) (L2 := [_, _, _, _, _]) rfl rfl rfl rfl ?_
  exact l_Sh_numbersIn w hn hN hM n 0 (by omega)
theorem l_Sh_waysThrough {sc : Option (Nat × Nat × (Nat → Int32))} {sa : Nat → Nat} {d : Nat} {M : mz_M} {z : Nat × Nat} {sh N : Nat} (w : g_Sh M.2.2 sh N) {n : Nat} (hn : M.1 sh 8 = nI n) (hN : n ≤ N) (hM : N ≤ 200) (hf : okl (M.1 (sh + 2)) n) {v0 : Int32} : ∀ (k : Nat) (i : Nat), i + k = n → zw sc sa (d + 2) ym_Sh_waysThrough z (fun r' M' => r' = some (.int (fo (fun v acc => if nI v = v0 then acc else if lg_cmp ((Int64.toUInt64 (wbI (M.1 (sh + 2)) n (nI v) 0) >>> ((v0).toInt64.toUInt64 &&& Int64.toUInt64 63)).toInt64 &&& 1) 0 = 0 then acc else acc + Int32.ofInt 1) 0 n)) ∧ M' = M) 4 [.ref sh, .int v0, .int (fo (fun v acc => if nI v = v0 then acc else if lg_cmp ((Int64.toUInt64 (wbI (M.1 (sh + 2)) n (nI v) 0) >>> ((v0).toInt64.toUInt64 &&& Int64.toUInt64 63)).toInt64 &&& 1) 0 = 0 then acc else acc + Int32.ofInt 1) 0 i), .int (nI i)] [] M z := by
  intro k
  induction k with
  | zero =>
    intro i hi
    have e1 : i = n := by omega
    subst e1
    refine z_iload_n (q := 5) rfl rfl rfl ?_
    refine z_aload_n (q := 6) rfl rfl rfl ?_
    refine z_getI (q := 9) rfl rfl rfl (Sh_k w) ?_
    refine z_ic_ge (q := 12) rfl rfl (fun h9 => ?_) (fun h9 => ?_)
    · refine z_iload_n (q := 41) rfl rfl rfl ?_
      refine z_ireti rfl rfl ?_
      exact ⟨rfl, rfl⟩
    · exact absurd (by rw [hn]; exact nI_le (Nat.le_refl _) (by omega)) h9
  | succ k ih =>
    intro i hi
    refine z_iload_n (q := 5) rfl rfl rfl ?_
    refine z_aload_n (q := 6) rfl rfl rfl ?_
    refine z_getI (q := 9) rfl rfl rfl (Sh_k w) ?_
    refine z_ic_ge (q := 12) rfl rfl (fun h9 => ?_) (fun h9 => ?_)
    · rw [hn] at h9
      exact absurd h9 (nI_ge (by omega) (by omega))
    · refine z_iload_n (q := 13) rfl rfl rfl ?_
      refine z_iload_n (q := 14) rfl rfl rfl ?_
      refine z_ic_eq (q := 17) rfl rfl (fun h14 => ?_) (fun h14 => ?_)
      · refine z_iinc (q := 37) (L2 := [_, _, _, _]) rfl rfl rfl rfl ?_
        refine z_goto rfl ?_
        rw [show nI i + Int32.ofInt 1 = nI (i + 1) from (nI_succ i).symm]
        have e9 := ih (i + 1) (by omega)
        first | exact e9 | (simp only [fo, if_pos h14, if_pos h28] at e9; exact e9) | (simp only [fo, if_pos h14, if_neg h28] at e9; exact e9) | (simp only [fo, if_neg h14, if_pos h28] at e9; exact e9) | (simp only [fo, if_neg h14, if_neg h28] at e9; exact e9) | (simp only [fo, if_pos h14] at e9; exact e9) | (simp only [fo, if_neg h14] at e9; exact e9) | (simp only [fo, if_pos h28] at e9; exact e9) | (simp only [fo, if_neg h28] at e9; exact e9)
      · refine z_aload_n (q := 18) rfl rfl rfl ?_
        refine z_iload_n (q := 19) rfl rfl rfl ?_
        refine z_cv1l (q := 22) rfl rfl rfl (Sh_k w) (s_Sh_wayBits w hn hN hM (by omega) hf) ?_
        refine z_iload_n (q := 23) rfl rfl rfl ?_
        refine z_lushr (q := 24) rfl rfl ?_
        refine z_lconst (q := 25) (v := 1) rfl rfl rfl ?_
        refine z_land (q := 26) rfl rfl ?_
        refine z_lconst (q := 27) (v := 0) rfl rfl rfl ?_
        refine z_lcmp (q := 28) rfl rfl ?_
        refine z_if_eq (q := 31) rfl rfl (fun h28 => ?_) (fun h28 => ?_)
        · refine z_iinc (q := 37) (L2 := [_, _, _, _]) rfl rfl rfl rfl ?_
          refine z_goto rfl ?_
          rw [show nI i + Int32.ofInt 1 = nI (i + 1) from (nI_succ i).symm]
          have e9 := ih (i + 1) (by omega)
          first | exact e9 | (simp only [fo, if_pos h14, if_pos h28] at e9; exact e9) | (simp only [fo, if_pos h14, if_neg h28] at e9; exact e9) | (simp only [fo, if_neg h14, if_pos h28] at e9; exact e9) | (simp only [fo, if_neg h14, if_neg h28] at e9; exact e9) | (simp only [fo, if_pos h14] at e9; exact e9) | (simp only [fo, if_neg h14] at e9; exact e9) | (simp only [fo, if_pos h28] at e9; exact e9) | (simp only [fo, if_neg h28] at e9; exact e9)
        · refine z_iinc (q := 34) (L2 := [_, _, _, _]) rfl rfl rfl rfl ?_
          refine z_iinc (q := 37) (L2 := [_, _, _, _]) rfl rfl rfl rfl ?_
          refine z_goto rfl ?_
          rw [show nI i + Int32.ofInt 1 = nI (i + 1) from (nI_succ i).symm]
          have e9 := ih (i + 1) (by omega)
          first | exact e9 | (simp only [fo, if_pos h14, if_pos h28] at e9; exact e9) | (simp only [fo, if_pos h14, if_neg h28] at e9; exact e9) | (simp only [fo, if_neg h14, if_pos h28] at e9; exact e9) | (simp only [fo, if_neg h14, if_neg h28] at e9; exact e9) | (simp only [fo, if_pos h14] at e9; exact e9) | (simp only [fo, if_neg h14] at e9; exact e9) | (simp only [fo, if_pos h28] at e9; exact e9) | (simp only [fo, if_neg h28] at e9; exact e9)
theorem s_Sh_waysThrough {sc : Option (Nat × Nat × (Nat → Int32))} {sa : Nat → Nat} {d : Nat} {M : mz_M} {z : Nat × Nat} {sh N : Nat} (w : g_Sh M.2.2 sh N) {n : Nat} (hn : M.1 sh 8 = nI n) (hN : n ≤ N) (hM : N ≤ 200) (hf : okl (M.1 (sh + 2)) n) {v0 : Int32} : zx sc sa (d + 3) 48 [.ref sh, .int v0] M z z (some (.int (fo (fun v acc => if nI v = v0 then acc else if lg_cmp ((Int64.toUInt64 (wbI (M.1 (sh + 2)) n (nI v) 0) >>> ((v0).toInt64.toUInt64 &&& Int64.toUInt64 63)).toInt64 &&& 1) 0 = 0 then acc else acc + Int32.ofInt 1) 0 n))) M := by
  refine zxin ym_Sh_waysThrough [.ref sh, .int v0, .retAddr 0, .retAddr 0] rfl rfl rfl rfl ?_
  refine z_iconst (q := 1) (v := 0) rfl rfl rfl ?_
  refine z_istore_n (q := 2) (L2 := [_, _, _, _]) rfl rfl rfl rfl ?_
  refine z_iconst (q := 3) (v := 0) rfl rfl rfl ?_
  refine z_istore_n (q := 4) (L2 := [_, _, _, _]) rfl rfl rfl rfl ?_
  exact l_Sh_waysThrough w hn hN hM hf n 0 (by omega)
theorem s_Sh_isTooLong {sc : Option (Nat × Nat × (Nat → Int32))} {sa : Nat → Nat} {d : Nat} {M : mz_M} {z : Nat × Nat} {sh N : Nat} (w : g_Sh M.2.2 sh N) {x : Int32} : zx sc sa (d + 1) 49 [.ref sh, .int x] M z z (some (.int (bz (M.1 sh 6 = 2 ∧ ¬ x ≤ M.1 sh 7)))) M := by
  refine zxin ym_Sh_isTooLong [.ref sh, .int x] rfl rfl rfl rfl ?_
  refine z_aload_n (q := 1) rfl rfl rfl ?_
  refine z_getI (q := 4) rfl rfl rfl (Sh_k w) ?_
  refine z_iconst (q := 5) (v := 2) rfl rfl rfl ?_
  refine z_ic_ne (q := 8) rfl rfl (fun h5 => ?_) (fun h5 => ?_)
  · refine z_iconst (q := 21) (v := 0) rfl rfl rfl ?_
    refine z_iretz rfl rfl (rfl) ?_
    refine ⟨?_, rfl⟩
    unfold bz
    simp_all
  · refine z_iload_n (q := 9) rfl rfl rfl ?_
    refine z_aload_n (q := 10) rfl rfl rfl ?_
    refine z_getI (q := 13) rfl rfl rfl (Sh_k w) ?_
    refine z_ic_le (q := 16) rfl rfl (fun h13 => ?_) (fun h13 => ?_)
    · refine z_iconst (q := 21) (v := 0) rfl rfl rfl ?_
      refine z_iretz rfl rfl (rfl) ?_
      refine ⟨?_, rfl⟩
      unfold bz
      simp_all
    · refine z_iconst (q := 17) (v := 1) rfl rfl rfl ?_
      refine z_goto rfl ?_
      refine z_iretz rfl rfl (rfl) ?_
      refine ⟨?_, rfl⟩
      unfold bz
      simp_all
theorem l_Sh_linksBefore {sc : Option (Nat × Nat × (Nat → Int32))} {sa : Nat → Nat} {d : Nat} {M : mz_M} {z : Nat × Nat} {sh N : Nat} (w : g_Sh M.2.2 sh N) {n : Nat} (hn : M.1 sh 8 = nI n) (hN : n ≤ N) (hM : N ≤ 200) (hf : okl (M.1 (sh + 2)) n) {v0 cell : Int32} {m : Nat} : ∀ (k : Nat) (i u : Nat), i + k = n → u < n → i + la (M.1 (sh + 2)) (M.1 (sh + 3)) cell k u = m → zw sc sa d ym_Sh_linksBefore z (fun r' M' => r' = some (.int (nI m)) ∧ M' = M) 5 [.ref sh, .int v0, .int cell, .int (nI i), .int (nI u)] [] M z := by
  intro k
  induction k with
  | zero =>
    intro i u hi hu hm
    have e1 : i = n := by omega
    subst e1
    have e2 : i = m := hm
    subst e2
    refine z_iload_n (q := 6) rfl rfl rfl ?_
    refine z_aload_n (q := 7) rfl rfl rfl ?_
    refine z_getI (q := 10) rfl rfl rfl (Sh_k w) ?_
    refine z_ic_ge (q := 13) rfl rfl (fun h10 => ?_) (fun h10 => ?_)
    · refine z_iload_n (q := 65) rfl rfl rfl ?_
      refine z_ireti rfl rfl ?_
      exact ⟨rfl, rfl⟩
    · exact absurd (by rw [hn]; exact nI_le (Nat.le_refl _) (by omega)) h10
  | succ k ih =>
    intro i u hi hu hm
    refine z_iload_n (q := 6) rfl rfl rfl ?_
    refine z_aload_n (q := 7) rfl rfl rfl ?_
    refine z_getI (q := 10) rfl rfl rfl (Sh_k w) ?_
    refine z_ic_ge (q := 13) rfl rfl (fun h10 => ?_) (fun h10 => ?_)
    · rw [hn] at h10
      exact absurd h10 (nI_ge (by omega) (by omega))
    · refine z_iload (q := 15) rfl rfl rfl ?_
      refine z_if_lt (q := 18) rfl rfl (fun h15 => ?_) (fun h15 => ?_)
      · exact absurd h15 (nI_pos (by omega))
      · refine z_iload (q := 20) rfl rfl rfl ?_
        refine z_aload_n (q := 21) rfl rfl rfl ?_
        refine z_getI (q := 24) rfl rfl rfl (Sh_k w) ?_
        refine z_ic_ge (q := 27) rfl rfl (fun h24 => ?_) (fun h24 => ?_)
        · rw [hn] at h24
          exact absurd h24 (nI_ge (by omega) (by omega))
        · refine z_aload_n (q := 28) rfl rfl rfl ?_
          refine z_getR (q := 31) rfl rfl rfl (Sh_k w) (Sh_r1 w) ?_
          refine z_iload (q := 33) rfl rfl rfl ?_
          refine z_iald (q := 34) rfl rfl (Sh_a1 w) (by first | assumption | exact vp_in_nI (by omega) (by omega)) ?_
          refine z_iconst (q := 35) (v := -1) rfl rfl rfl ?_
          refine z_ic_eq (q := 38) rfl rfl (fun h35 => ?_) (fun h35 => ?_)
          · refine z_iload_n (q := 65) rfl rfl rfl ?_
            refine z_ireti rfl rfl ?_
            unfold la at hm
            first
              | (rw [nI_clamp (by omega)] at h35 h46; rw [if_neg h35, if_pos h46] at hm; have e2 : i = m := hm; subst e2; exact ⟨rfl, rfl⟩)
              | (rw [nI_clamp (by omega)] at h35; rw [if_pos h35] at hm; have e2 : i = m := hm; subst e2; exact ⟨rfl, rfl⟩)
          · refine z_aload_n (q := 39) rfl rfl rfl ?_
            refine z_getR (q := 42) rfl rfl rfl (Sh_k w) (Sh_r2 w) ?_
            refine z_iload (q := 44) rfl rfl rfl ?_
            refine z_iald (q := 45) rfl rfl (Sh_a2 w) (by first | assumption | exact vp_in_nI (by omega) (by omega)) ?_
            refine z_iload_n (q := 46) rfl rfl rfl ?_
            refine z_ic_eq (q := 49) rfl rfl (fun h46 => ?_) (fun h46 => ?_)
            · refine z_iload_n (q := 65) rfl rfl rfl ?_
              refine z_ireti rfl rfl ?_
              unfold la at hm
              first
                | (rw [nI_clamp (by omega)] at h35 h46; rw [if_neg h35, if_pos h46] at hm; have e2 : i = m := hm; subst e2; exact ⟨rfl, rfl⟩)
                | (rw [nI_clamp (by omega)] at h35; rw [if_pos h35] at hm; have e2 : i = m := hm; subst e2; exact ⟨rfl, rfl⟩)
            · refine z_aload_n (q := 50) rfl rfl rfl ?_
              refine z_getR (q := 53) rfl rfl rfl (Sh_k w) (Sh_r1 w) ?_
              refine z_iload (q := 55) rfl rfl rfl ?_
              refine z_iald (q := 56) rfl rfl (Sh_a1 w) (by first | assumption | exact vp_in_nI (by omega) (by omega)) ?_
              refine z_istore (q := 58) (L2 := [_, _, _, _, _]) rfl rfl rfl rfl ?_
              refine z_iinc (q := 61) (L2 := [_, _, _, _, _]) rfl rfl rfl rfl ?_
              refine z_goto rfl ?_
              rw [show nI i + Int32.ofInt 1 = nI (i + 1) from (nI_succ i).symm]
              rw [nI_clamp (by omega)] at h35 h46 ⊢
              rcases hf u hu with e | ⟨x, hx, e⟩
              · exact absurd e h35
              · rw [e]
                refine ih (i + 1) x (by omega) hx ?_
                have e2 := hm
                unfold la at e2
                rw [if_neg h35, if_neg h46, e, nI_clamp (by omega)] at e2
                omega
theorem s_Sh_linksBefore {sc : Option (Nat × Nat × (Nat → Int32))} {sa : Nat → Nat} {d : Nat} {M : mz_M} {z : Nat × Nat} {sh N : Nat} (w : g_Sh M.2.2 sh N) {n : Nat} (hn : M.1 sh 8 = nI n) (hN : n ≤ N) (hM : N ≤ 200) {j : Nat} (hj : j < n) (hf : okl (M.1 (sh + 2)) n) {cell : Int32} : zx sc sa (d + 1) 51 [.ref sh, .int (nI j), .int cell] M z z (some (.int (nI (la (M.1 (sh + 2)) (M.1 (sh + 3)) cell n j)))) M := by
  refine zxin ym_Sh_linksBefore [.ref sh, .int (nI j), .int cell, .retAddr 0, .retAddr 0] rfl rfl rfl rfl ?_
  refine z_iconst (q := 1) (v := 0) rfl rfl rfl ?_
  refine z_istore_n (q := 2) (L2 := [_, _, _, _, _]) rfl rfl rfl rfl ?_
  refine z_iload_n (q := 3) rfl rfl rfl ?_
  refine z_istore (q := 5) (L2 := [_, _, _, _, _]) rfl rfl rfl rfl ?_
  exact l_Sh_linksBefore w hn hN hM hf n 0 j (by omega) hj (by omega)
theorem s_Sh_readingCost {sc : Option (Nat × Nat × (Nat → Int32))} {sa : Nat → Nat} {d : Nat} {M : mz_M} {z : Nat × Nat} {sh N : Nat} (w : g_Sh M.2.2 sh N) {n : Nat} (hn : M.1 sh 8 = nI n) (hN : n ≤ N) (hM : N ≤ 200) {j : Nat} (hj : j < n) (hf : okl (M.1 (sh + 2)) n) {cell : Int32} : zx sc sa (d + 2) 50 [.ref sh, .int (nI j), .int cell] M z z (some (.int (if M.1 sh 6 = 1 then nI (la (M.1 (sh + 2)) (M.1 (sh + 3)) cell n j) else if M.1 sh 6 = 2 ∧ ¬ nI (wl (M.1 (sh + 2)) n j) ≤ M.1 sh 7 then nI (wl (M.1 (sh + 2)) n j) + M.1 sh 5 else nI (wl (M.1 (sh + 2)) n j)))) M := by
  refine zxin ym_Sh_readingCost [.ref sh, .int (nI j), .int cell, .retAddr 0] rfl rfl rfl rfl ?_
  refine z_aload_n (q := 1) rfl rfl rfl ?_
  refine z_getI (q := 4) rfl rfl rfl (Sh_k w) ?_
  refine z_iconst (q := 5) (v := 1) rfl rfl rfl ?_
  refine z_ic_ne (q := 8) rfl rfl (fun h5 => ?_) (fun h5 => ?_)
  · refine z_aload_n (q := 16) rfl rfl rfl ?_
    refine z_iload_n (q := 17) rfl rfl rfl ?_
    refine z_cv1i (q := 20) rfl rfl rfl (Sh_k w) (s_Sh_wayFrom w hn hN hM hj hf) ?_
    refine z_istore_n (q := 21) (L2 := [_, _, _, _]) rfl rfl rfl rfl ?_
    refine z_aload_n (q := 22) rfl rfl rfl ?_
    refine z_iload_n (q := 23) rfl rfl rfl ?_
    refine z_cv1i (q := 26) rfl rfl rfl (Sh_k w) (s_Sh_isTooLong w) ?_
    refine z_if_eq (q := 29) rfl rfl (fun h26 => ?_) (fun h26 => ?_)
    · refine z_iload_n (q := 39) rfl rfl rfl ?_
      refine z_ireti rfl rfl ?_
      refine ⟨?_, rfl⟩
      first | rw [bz_n] at h26 | rw [bz_0] at h26
      rw [if_neg h5]
      first | rw [if_pos h26] | rw [if_neg h26]
    · refine z_iload_n (q := 30) rfl rfl rfl ?_
      refine z_aload_n (q := 31) rfl rfl rfl ?_
      refine z_getI (q := 34) rfl rfl rfl (Sh_k w) ?_
      refine z_iadd (q := 35) rfl rfl ?_
      refine z_goto rfl ?_
      refine z_ireti rfl rfl ?_
      refine ⟨?_, rfl⟩
      first | rw [bz_n] at h26 | rw [bz_0] at h26
      rw [if_neg h5]
      first | rw [if_pos h26] | rw [if_neg h26]
  · refine z_aload_n (q := 9) rfl rfl rfl ?_
    refine z_iload_n (q := 10) rfl rfl rfl ?_
    refine z_iload_n (q := 11) rfl rfl rfl ?_
    refine z_cv2i (q := 14) rfl rfl rfl (Sh_k w) (s_Sh_linksBefore w hn hN hM hj hf) ?_
    refine z_ireti rfl rfl ?_
    refine ⟨?_, rfl⟩
    simp_all
theorem s_Sh_inConflict {sc : Option (Nat × Nat × (Nat → Int32))} {sa : Nat → Nat} {d : Nat} {M : mz_M} {z : Nat × Nat} {sh N : Nat} (w : g_Sh M.2.2 sh N) {b x y : Int32} : zx sc sa (d + 1) 60 [.ref sh, .int b, .int x, .int y] M z z (some (.int (bz (¬ x = b ∧ ¬ y = b ∧ ¬ y = x)))) M := by
  refine zxin ym_Sh_inConflict [.ref sh, .int b, .int x, .int y] rfl rfl rfl rfl ?_
  refine z_iload_n (q := 1) rfl rfl rfl ?_
  refine z_iload_n (q := 2) rfl rfl rfl ?_
  refine z_ic_eq (q := 5) rfl rfl (fun h2 => ?_) (fun h2 => ?_)
  · refine z_iconst (q := 20) (v := 0) rfl rfl rfl ?_
    refine z_iretz rfl rfl (rfl) ?_
    refine ⟨?_, rfl⟩
    unfold bz
    simp_all
  · refine z_iload_n (q := 6) rfl rfl rfl ?_
    refine z_iload_n (q := 7) rfl rfl rfl ?_
    refine z_ic_eq (q := 10) rfl rfl (fun h7 => ?_) (fun h7 => ?_)
    · refine z_iconst (q := 20) (v := 0) rfl rfl rfl ?_
      refine z_iretz rfl rfl (rfl) ?_
      refine ⟨?_, rfl⟩
      unfold bz
      simp_all
    · refine z_iload_n (q := 11) rfl rfl rfl ?_
      refine z_iload_n (q := 12) rfl rfl rfl ?_
      refine z_ic_eq (q := 15) rfl rfl (fun h12 => ?_) (fun h12 => ?_)
      · refine z_iconst (q := 20) (v := 0) rfl rfl rfl ?_
        refine z_iretz rfl rfl (rfl) ?_
        refine ⟨?_, rfl⟩
        unfold bz
        simp_all
      · refine z_iconst (q := 16) (v := 1) rfl rfl rfl ?_
        refine z_goto rfl ?_
        refine z_iretz rfl rfl (rfl) ?_
        refine ⟨?_, rfl⟩
        unfold bz
        simp_all
