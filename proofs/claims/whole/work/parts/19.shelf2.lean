def fo {α : Type} (g : Nat → α → α) (a : α) : Nat → α
  | 0 => a
  | k + 1 => g k (fo g a k)
theorem fo_c {α : Type} {g g' : Nat → α → α} {a : α} : ∀ {n : Nat}, (∀ i, i < n → ∀ x, g i x = g' i x) → fo g a n = fo g' a n := by
  intro n
  induction n with
  | zero => intro _; rfl
  | succ n ih =>
    intro h
    show g n (fo g a n) = g' n (fo g' a n)
    rw [ih (fun i hi x => h i (by omega) x), h n (by omega)]
def rt (row : Int64) : Nat → Int32 → Int32
  | 0, a => a
  | k + 1, a => if nmI row a = a then a else rt row k (nmI row a)
def lsI (f g : Nat → Int32) (cell : Int32) : Nat → Int32 → Int32
  | 0, _ => 0
  | k + 1, a => if a = -1 then 0 else if g a.toNatClampNeg = cell then a else lsI f g cell k (f a.toNatClampNeg)
def tsI (f g : Nat → Int32) (cell : Int32) : Nat → Int32 → Int32 → Int32
  | 0, _, t => t
  | k + 1, a, t => if a = -1 then t else tsI f g cell k (f a.toNatClampNeg) (if g a.toNatClampNeg = cell then t + Int32.ofInt 1 else t)
def okv (n : Nat) (a : Int32) : Prop := a = -1 ∨ ∃ u, u < n ∧ a = nI u
def okm (f : Nat → Int32) (n : Nat) : Prop := f 0 = -1 ∧ ∀ v, 0 < v → v < n → ∃ u, u < v ∧ f v = nI u
def mtN (f : Nat → Int32) : Nat → Nat → Nat → Nat
  | 0, a, _ => a
  | k + 1, a, b => if a = b then a else if b < a then mtN f k (f a).toNatClampNeg b else mtN f k a (f b).toNatClampNeg
theorem l_Sh_unlikeCells {sc : Option (Nat × Nat × (Nat → Int32))} {sa : Nat → Nat} {d : Nat} {M : mz_M} {z : Nat × Nat} {sh N : Nat} (w : g_Sh M.2.2 sh N) {c : Nat} (hc : M.1 sh 5 = nI c) (hC : c ≤ 12) {row other : Int64} : ∀ (k : Nat) (i : Nat), i + k = c → zw sc sa (d + 1) ym_Sh_unlikeCells z (fun r' M' => r' = some (.int (fo (fun c acc => if nmI row (nI c) = nmI other (nI c) then acc else acc + Int32.ofInt 1) 0 c)) ∧ M' = M) 6 [.ref sh, .long row, .retAddr 0, .long other, .retAddr 0, .int (fo (fun c acc => if nmI row (nI c) = nmI other (nI c) then acc else acc + Int32.ofInt 1) 0 i), .int (nI i)] [] M z := by
  intro k
  induction k with
  | zero =>
    intro i hi
    have e1 : i = c := by omega
    subst e1
    refine z_iload (q := 8) rfl rfl rfl ?_
    refine z_aload_n (q := 9) rfl rfl rfl ?_
    refine z_getI (q := 12) rfl rfl rfl (Sh_k w) ?_
    refine z_ic_ge (q := 15) rfl rfl (fun h12 => ?_) (fun h12 => ?_)
    · refine z_iload (q := 41) rfl rfl rfl ?_
      refine z_ireti rfl rfl ?_
      exact ⟨rfl, rfl⟩
    · exact absurd (by rw [hc]; exact nI_le (Nat.le_refl _) (by omega)) h12
  | succ k ih =>
    intro i hi
    refine z_iload (q := 8) rfl rfl rfl ?_
    refine z_aload_n (q := 9) rfl rfl rfl ?_
    refine z_getI (q := 12) rfl rfl rfl (Sh_k w) ?_
    refine z_ic_ge (q := 15) rfl rfl (fun h12 => ?_) (fun h12 => ?_)
    · rw [hc] at h12
      exact absurd h12 (nI_ge (by omega) (by omega))
    · refine z_lload_n (q := 16) rfl rfl rfl ?_
      refine z_iload (q := 18) rfl rfl rfl ?_
      refine z_cs2i (q := 21) rfl rfl rfl (s_Sh_numberIn) ?_
      refine z_lload_n (q := 22) rfl rfl rfl ?_
      refine z_iload (q := 24) rfl rfl rfl ?_
      refine z_cs2i (q := 27) rfl rfl rfl (s_Sh_numberIn) ?_
      refine z_ic_eq (q := 30) rfl rfl (fun h27 => ?_) (fun h27 => ?_)
      · refine z_iinc (q := 36) (L2 := [_, _, _, _, _, _, _]) rfl rfl rfl rfl ?_
        refine z_goto rfl ?_
        rw [show nI i + Int32.ofInt 1 = nI (i + 1) from (nI_succ i).symm]
        have e9 := ih (i + 1) (by omega)
        first | exact e9 | (simp only [fo, if_pos h27] at e9; exact e9) | (simp only [fo, if_neg h27] at e9; exact e9)
      · refine z_iinc (q := 33) (L2 := [_, _, _, _, _, _, _]) rfl rfl rfl rfl ?_
        refine z_iinc (q := 36) (L2 := [_, _, _, _, _, _, _]) rfl rfl rfl rfl ?_
        refine z_goto rfl ?_
        rw [show nI i + Int32.ofInt 1 = nI (i + 1) from (nI_succ i).symm]
        have e9 := ih (i + 1) (by omega)
        first | exact e9 | (simp only [fo, if_pos h27] at e9; exact e9) | (simp only [fo, if_neg h27] at e9; exact e9)
theorem s_Sh_unlikeCells {sc : Option (Nat × Nat × (Nat → Int32))} {sa : Nat → Nat} {d : Nat} {M : mz_M} {z : Nat × Nat} {sh N : Nat} (w : g_Sh M.2.2 sh N) {c : Nat} (hc : M.1 sh 5 = nI c) (hC : c ≤ 12) {row other : Int64} : zx sc sa (d + 2) 25 [.ref sh, .long row, .long other] M z z (some (.int (fo (fun c acc => if nmI row (nI c) = nmI other (nI c) then acc else acc + Int32.ofInt 1) 0 c))) M := by
  refine zxin ym_Sh_unlikeCells [.ref sh, .long row, .retAddr 0, .long other, .retAddr 0, .retAddr 0, .retAddr 0] rfl rfl rfl rfl ?_
  refine z_iconst (q := 1) (v := 0) rfl rfl rfl ?_
  refine z_istore (q := 3) (L2 := [_, _, _, _, _, _, _]) rfl rfl rfl rfl ?_
  refine z_iconst (q := 4) (v := 0) rfl rfl rfl ?_
  refine z_istore (q := 6) (L2 := [_, _, _, _, _, _, _]) rfl rfl rfl rfl ?_
  exact l_Sh_unlikeCells w hc hC c 0 (by omega)
theorem l_Sh_longestWay {sc : Option (Nat × Nat × (Nat → Int32))} {sa : Nat → Nat} {d : Nat} {M : mz_M} {z : Nat × Nat} {sh N : Nat} (w : g_Sh M.2.2 sh N) {n : Nat} (hn : M.1 sh 8 = nI n) (hN : n ≤ N) (hM : N ≤ 200) (hf : okl (M.1 (sh + 2)) n)  : ∀ (k : Nat) (i : Nat), i + k = n → zw sc sa (d + 1) ym_Sh_longestWay z (fun r' M' => r' = some (.int (fo (fun v acc => if acc < nI (wl (M.1 (sh + 2)) n v) then nI (wl (M.1 (sh + 2)) n v) else acc) 0 n)) ∧ M' = M) 4 [.ref sh, .int (fo (fun v acc => if acc < nI (wl (M.1 (sh + 2)) n v) then nI (wl (M.1 (sh + 2)) n v) else acc) 0 i), .int (nI i)] [] M z := by
  intro k
  induction k with
  | zero =>
    intro i hi
    have e1 : i = n := by omega
    subst e1
    refine z_iload_n (q := 5) rfl rfl rfl ?_
    refine z_aload_n (q := 6) rfl rfl rfl ?_
    refine z_getI (q := 9) rfl rfl rfl (Sh_k w) ?_
    refine z_ic_ge (q := 12) rfl rfl (fun h9 => ?_) (fun h9 => ?_)
    · refine z_iload_n (q := 29) rfl rfl rfl ?_
      refine z_ireti rfl rfl ?_
      exact ⟨rfl, rfl⟩
    · exact absurd (by rw [hn]; exact nI_le (Nat.le_refl _) (by omega)) h9
  | succ k ih =>
    intro i hi
    refine z_iload_n (q := 5) rfl rfl rfl ?_
    refine z_aload_n (q := 6) rfl rfl rfl ?_
    refine z_getI (q := 9) rfl rfl rfl (Sh_k w) ?_
    refine z_ic_ge (q := 12) rfl rfl (fun h9 => ?_) (fun h9 => ?_)
    · rw [hn] at h9
      exact absurd h9 (nI_ge (by omega) (by omega))
    · refine z_iload_n (q := 13) rfl rfl rfl ?_
      refine z_aload_n (q := 14) rfl rfl rfl ?_
      refine z_iload_n (q := 15) rfl rfl rfl ?_
      refine z_cv1i (q := 18) rfl rfl rfl (Sh_k w) (s_Sh_wayFrom w hn hN hM (by omega) hf) ?_
      refine z_max (q := 21) rfl rfl (by omega) rfl ?_
      refine z_istore_n (q := 22) (L2 := [_, _, _]) rfl rfl rfl rfl ?_
      refine z_iinc (q := 25) (L2 := [_, _, _]) rfl rfl rfl rfl ?_
      refine z_goto rfl ?_
      rw [show nI i + Int32.ofInt 1 = nI (i + 1) from (nI_succ i).symm]
      have e9 := ih (i + 1) (by omega)
      first | exact e9
theorem s_Sh_longestWay {sc : Option (Nat × Nat × (Nat → Int32))} {sa : Nat → Nat} {d : Nat} {M : mz_M} {z : Nat × Nat} {sh N : Nat} (w : g_Sh M.2.2 sh N) {n : Nat} (hn : M.1 sh 8 = nI n) (hN : n ≤ N) (hM : N ≤ 200) (hf : okl (M.1 (sh + 2)) n)  : zx sc sa (d + 2) 40 [.ref sh] M z z (some (.int (fo (fun v acc => if acc < nI (wl (M.1 (sh + 2)) n v) then nI (wl (M.1 (sh + 2)) n v) else acc) 0 n))) M := by
  refine zxin ym_Sh_longestWay [.ref sh, .retAddr 0, .retAddr 0] rfl rfl rfl rfl ?_
  refine z_iconst (q := 1) (v := 0) rfl rfl rfl ?_
  refine z_istore_n (q := 2) (L2 := [_, _, _]) rfl rfl rfl rfl ?_
  refine z_iconst (q := 3) (v := 0) rfl rfl rfl ?_
  refine z_istore_n (q := 4) (L2 := [_, _, _]) rfl rfl rfl rfl ?_
  exact l_Sh_longestWay w hn hN hM hf n 0 (by omega)
theorem l_Sh_directOnes {sc : Option (Nat × Nat × (Nat → Int32))} {sa : Nat → Nat} {d : Nat} {M : mz_M} {z : Nat × Nat} {sh N : Nat} (w : g_Sh M.2.2 sh N) {n : Nat} (hn : M.1 sh 8 = nI n) (hN : n ≤ N) (hM : N ≤ 200)  : ∀ (k : Nat) (i : Nat), i + k = n → zw sc sa (d + 2) ym_Sh_directOnes z (fun r' M' => r' = some (.int (fo (fun v acc => if M.1 (sh + 2) v = -1 then acc + Int32.ofInt 1 else acc) 0 n)) ∧ M' = M) 4 [.ref sh, .int (fo (fun v acc => if M.1 (sh + 2) v = -1 then acc + Int32.ofInt 1 else acc) 0 i), .int (nI i)] [] M z := by
  intro k
  induction k with
  | zero =>
    intro i hi
    have e1 : i = n := by omega
    subst e1
    refine z_iload_n (q := 5) rfl rfl rfl ?_
    refine z_aload_n (q := 6) rfl rfl rfl ?_
    refine z_getI (q := 9) rfl rfl rfl (Sh_k w) ?_
    refine z_ic_ge (q := 12) rfl rfl (fun h9 => ?_) (fun h9 => ?_)
    · refine z_iload_n (q := 30) rfl rfl rfl ?_
      refine z_ireti rfl rfl ?_
      exact ⟨rfl, rfl⟩
    · exact absurd (by rw [hn]; exact nI_le (Nat.le_refl _) (by omega)) h9
  | succ k ih =>
    intro i hi
    refine z_iload_n (q := 5) rfl rfl rfl ?_
    refine z_aload_n (q := 6) rfl rfl rfl ?_
    refine z_getI (q := 9) rfl rfl rfl (Sh_k w) ?_
    refine z_ic_ge (q := 12) rfl rfl (fun h9 => ?_) (fun h9 => ?_)
    · rw [hn] at h9
      exact absurd h9 (nI_ge (by omega) (by omega))
    · refine z_aload_n (q := 13) rfl rfl rfl ?_
      refine z_iload_n (q := 14) rfl rfl rfl ?_
      refine z_cv1i (q := 17) rfl rfl rfl (Sh_k w) (s_Sh_isDirect w hn hN hM (by omega)) ?_
      refine z_if_eq (q := 20) rfl rfl (fun h17 => ?_) (fun h17 => ?_)
      · refine z_iinc (q := 26) (L2 := [_, _, _]) rfl rfl rfl rfl ?_
        refine z_goto rfl ?_
        rw [show nI i + Int32.ofInt 1 = nI (i + 1) from (nI_succ i).symm]
        have e9 := ih (i + 1) (by omega)
        first | rw [bz_n] at h17 | rw [bz_0] at h17
        first | exact e9 | (simp only [fo, if_pos h17] at e9; exact e9) | (simp only [fo, if_neg h17] at e9; exact e9)
      · refine z_iinc (q := 23) (L2 := [_, _, _]) rfl rfl rfl rfl ?_
        refine z_iinc (q := 26) (L2 := [_, _, _]) rfl rfl rfl rfl ?_
        refine z_goto rfl ?_
        rw [show nI i + Int32.ofInt 1 = nI (i + 1) from (nI_succ i).symm]
        have e9 := ih (i + 1) (by omega)
        first | rw [bz_n] at h17 | rw [bz_0] at h17
        first | exact e9 | (simp only [fo, if_pos h17] at e9; exact e9) | (simp only [fo, if_neg h17] at e9; exact e9)
theorem s_Sh_directOnes {sc : Option (Nat × Nat × (Nat → Int32))} {sa : Nat → Nat} {d : Nat} {M : mz_M} {z : Nat × Nat} {sh N : Nat} (w : g_Sh M.2.2 sh N) {n : Nat} (hn : M.1 sh 8 = nI n) (hN : n ≤ N) (hM : N ≤ 200)  : zx sc sa (d + 3) 41 [.ref sh] M z z (some (.int (fo (fun v acc => if M.1 (sh + 2) v = -1 then acc + Int32.ofInt 1 else acc) 0 n))) M := by
  refine zxin ym_Sh_directOnes [.ref sh, .retAddr 0, .retAddr 0] rfl rfl rfl rfl ?_
  refine z_iconst (q := 1) (v := 0) rfl rfl rfl ?_
  refine z_istore_n (q := 2) (L2 := [_, _, _]) rfl rfl rfl rfl ?_
  refine z_iconst (q := 3) (v := 0) rfl rfl rfl ?_
  refine z_istore_n (q := 4) (L2 := [_, _, _]) rfl rfl rfl rfl ?_
  exact l_Sh_directOnes w hn hN hM n 0 (by omega)
theorem l_Sh_allWays {sc : Option (Nat × Nat × (Nat → Int32))} {sa : Nat → Nat} {d : Nat} {M : mz_M} {z : Nat × Nat} {sh N : Nat} (w : g_Sh M.2.2 sh N) {n : Nat} (hn : M.1 sh 8 = nI n) (hN : n ≤ N) (hM : N ≤ 200) (hf : okl (M.1 (sh + 2)) n)  : ∀ (k : Nat) (i : Nat), i + k = n → zw sc sa (d + 1) ym_Sh_allWays z (fun r' M' => r' = some (.int (fo (fun v acc => acc + nI (wl (M.1 (sh + 2)) n v)) 0 n)) ∧ M' = M) 4 [.ref sh, .int (fo (fun v acc => acc + nI (wl (M.1 (sh + 2)) n v)) 0 i), .int (nI i)] [] M z := by
  intro k
  induction k with
  | zero =>
    intro i hi
    have e1 : i = n := by omega
    subst e1
    refine z_iload_n (q := 5) rfl rfl rfl ?_
    refine z_aload_n (q := 6) rfl rfl rfl ?_
    refine z_getI (q := 9) rfl rfl rfl (Sh_k w) ?_
    refine z_ic_ge (q := 12) rfl rfl (fun h9 => ?_) (fun h9 => ?_)
    · refine z_iload_n (q := 27) rfl rfl rfl ?_
      refine z_ireti rfl rfl ?_
      exact ⟨rfl, rfl⟩
    · exact absurd (by rw [hn]; exact nI_le (Nat.le_refl _) (by omega)) h9
  | succ k ih =>
    intro i hi
    refine z_iload_n (q := 5) rfl rfl rfl ?_
    refine z_aload_n (q := 6) rfl rfl rfl ?_
    refine z_getI (q := 9) rfl rfl rfl (Sh_k w) ?_
    refine z_ic_ge (q := 12) rfl rfl (fun h9 => ?_) (fun h9 => ?_)
    · rw [hn] at h9
      exact absurd h9 (nI_ge (by omega) (by omega))
    · refine z_iload_n (q := 13) rfl rfl rfl ?_
      refine z_aload_n (q := 14) rfl rfl rfl ?_
      refine z_iload_n (q := 15) rfl rfl rfl ?_
      refine z_cv1i (q := 18) rfl rfl rfl (Sh_k w) (s_Sh_wayFrom w hn hN hM (by omega) hf) ?_
      refine z_iadd (q := 19) rfl rfl ?_
      refine z_istore_n (q := 20) (L2 := [_, _, _]) rfl rfl rfl rfl ?_
      refine z_iinc (q := 23) (L2 := [_, _, _]) rfl rfl rfl rfl ?_
      refine z_goto rfl ?_
      rw [show nI i + Int32.ofInt 1 = nI (i + 1) from (nI_succ i).symm]
      have e9 := ih (i + 1) (by omega)
      first | exact e9
theorem s_Sh_allWays {sc : Option (Nat × Nat × (Nat → Int32))} {sa : Nat → Nat} {d : Nat} {M : mz_M} {z : Nat × Nat} {sh N : Nat} (w : g_Sh M.2.2 sh N) {n : Nat} (hn : M.1 sh 8 = nI n) (hN : n ≤ N) (hM : N ≤ 200) (hf : okl (M.1 (sh + 2)) n)  : zx sc sa (d + 2) 42 [.ref sh] M z z (some (.int (fo (fun v acc => acc + nI (wl (M.1 (sh + 2)) n v)) 0 n))) M := by
  refine zxin ym_Sh_allWays [.ref sh, .retAddr 0, .retAddr 0] rfl rfl rfl rfl ?_
  refine z_iconst (q := 1) (v := 0) rfl rfl rfl ?_
  refine z_istore_n (q := 2) (L2 := [_, _, _]) rfl rfl rfl rfl ?_
  refine z_iconst (q := 3) (v := 0) rfl rfl rfl ?_
  refine z_istore_n (q := 4) (L2 := [_, _, _]) rfl rfl rfl rfl ?_
  exact l_Sh_allWays w hn hN hM hf n 0 (by omega)
theorem l_Sh_rootOf {sc : Option (Nat × Nat × (Nat → Int32))} {sa : Nat → Nat} {d : Nat} {M : mz_M} {z : Nat × Nat} {sh N : Nat} (w : g_Sh M.2.2 sh N) {c : Nat} (hc : M.1 sh 5 = nI c) (hC : c ≤ 12) {v0 c0 m : Int32} {row : Int64} : ∀ (k : Nat) (i : Nat) (a : Int32) (x0 : Value), i + k = c → rt row k a = m → zw sc sa (d + 1) ym_Sh_rootOf z (fun r' M' => r' = some (.int m) ∧ M' = M) 12 [.ref sh, .int v0, .int c0, .long row, .retAddr 0, .int a, .int (nI i), x0] [] M z := by
  intro k
  induction k with
  | zero =>
    intro i a x0 hi hm
    have e1 : i = c := by omega
    subst e1
    have e2 : a = m := hm
    subst e2
    refine z_iload (q := 14) rfl rfl rfl ?_
    refine z_aload_n (q := 15) rfl rfl rfl ?_
    refine z_getI (q := 18) rfl rfl rfl (Sh_k w) ?_
    refine z_ic_ge (q := 21) rfl rfl (fun h18 => ?_) (fun h18 => ?_)
    · refine z_iload (q := 51) rfl rfl rfl ?_
      refine z_ireti rfl rfl ?_
      exact ⟨rfl, rfl⟩
    · exact absurd (by rw [hc]; exact nI_le (Nat.le_refl _) (by omega)) h18
  | succ k ih =>
    intro i a x0 hi hm
    refine z_iload (q := 14) rfl rfl rfl ?_
    refine z_aload_n (q := 15) rfl rfl rfl ?_
    refine z_getI (q := 18) rfl rfl rfl (Sh_k w) ?_
    refine z_ic_ge (q := 21) rfl rfl (fun h18 => ?_) (fun h18 => ?_)
    · rw [hc] at h18
      exact absurd h18 (nI_ge (by omega) (by omega))
    · refine z_lload_n (q := 22) rfl rfl rfl ?_
      refine z_iload (q := 24) rfl rfl rfl ?_
      refine z_cs2i (q := 27) rfl rfl rfl (s_Sh_numberIn) ?_
      refine z_istore (q := 29) (L2 := [_, _, _, _, _, _, _, _]) rfl rfl rfl rfl ?_
      refine z_iload (q := 31) rfl rfl rfl ?_
      refine z_iload (q := 33) rfl rfl rfl ?_
      refine z_ic_ne (q := 36) rfl rfl (fun h33 => ?_) (fun h33 => ?_)
      · refine z_iload (q := 41) rfl rfl rfl ?_
        refine z_istore (q := 43) (L2 := [_, _, _, _, _, _, _, _]) rfl rfl rfl rfl ?_
        refine z_iinc (q := 46) (L2 := [_, _, _, _, _, _, _, _]) rfl rfl rfl rfl ?_
        refine z_goto rfl ?_
        rw [show nI i + Int32.ofInt 1 = nI (i + 1) from (nI_succ i).symm]
        unfold rt at hm
        rw [if_neg h33] at hm
        exact ih (i + 1) _ _ (by omega) hm
      · refine z_iload (q := 38) rfl rfl rfl ?_
        refine z_ireti rfl rfl ?_
        unfold rt at hm
        rw [if_pos h33] at hm
        rw [hm]
        exact ⟨rfl, rfl⟩
theorem s_Sh_rootOf {sc : Option (Nat × Nat × (Nat → Int32))} {sa : Nat → Nat} {d : Nat} {M : mz_M} {z : Nat × Nat} {sh N : Nat} (w : g_Sh M.2.2 sh N) {n : Nat} (hn : M.1 sh 8 = nI n) (hN : n ≤ N) (hM : N ≤ 200) {j : Nat} (hj : j < n) {c : Nat} (hc : M.1 sh 5 = nI c) (hC : c ≤ 12) {a : Int32} : zx sc sa (d + 3) 33 [.ref sh, .int (nI j), .int a] M z z (some (.int (rt (M.2.1 (sh + 1) j) c a))) M := by
  refine zxin ym_Sh_rootOf [.ref sh, .int (nI j), .int a, .retAddr 0, .retAddr 0, .retAddr 0, .retAddr 0, .retAddr 0] rfl rfl rfl rfl ?_
  refine z_aload_n (q := 1) rfl rfl rfl ?_
  refine z_iload_n (q := 2) rfl rfl rfl ?_
  refine z_cv1l (q := 5) rfl rfl rfl (Sh_k w) (s_Sh_rowOf w hn hN hM hj) ?_
  refine z_lstore_n (q := 6) (L2 := [_, _, _, _, _, _, _, _]) rfl rfl rfl rfl ?_
  refine z_iload_n (q := 7) rfl rfl rfl ?_
  refine z_istore (q := 9) (L2 := [_, _, _, _, _, _, _, _]) rfl rfl rfl rfl ?_
  refine z_iconst (q := 10) (v := 0) rfl rfl rfl ?_
  refine z_istore (q := 12) (L2 := [_, _, _, _, _, _, _, _]) rfl rfl rfl rfl ?_
  exact l_Sh_rootOf w hc hC c 0 a _ (by omega) rfl
theorem s_Sh_areJoined {sc : Option (Nat × Nat × (Nat → Int32))} {sa : Nat → Nat} {d : Nat} {M : mz_M} {z : Nat × Nat} {sh N : Nat} (w : g_Sh M.2.2 sh N) {n : Nat} (hn : M.1 sh 8 = nI n) (hN : n ≤ N) (hM : N ≤ 200) {j : Nat} (hj : j < n) {c : Nat} (hc : M.1 sh 5 = nI c) (hC : c ≤ 12) {a b : Int32} : zx sc sa (d + 4) 34 [.ref sh, .int (nI j), .int a, .int b] M z z (some (.int (bz (rt (M.2.1 (sh + 1) j) c a = rt (M.2.1 (sh + 1) j) c b)))) M := by
  refine zxin ym_Sh_areJoined [.ref sh, .int (nI j), .int a, .int b] rfl rfl rfl rfl ?_
  refine z_aload_n (q := 1) rfl rfl rfl ?_
  refine z_iload_n (q := 2) rfl rfl rfl ?_
  refine z_iload_n (q := 3) rfl rfl rfl ?_
  refine z_cv2i (q := 6) rfl rfl rfl (Sh_k w) (s_Sh_rootOf w hn hN hM hj hc hC) ?_
  refine z_aload_n (q := 7) rfl rfl rfl ?_
  refine z_iload_n (q := 8) rfl rfl rfl ?_
  refine z_iload_n (q := 9) rfl rfl rfl ?_
  refine z_cv2i (q := 12) rfl rfl rfl (Sh_k w) (s_Sh_rootOf w hn hN hM hj hc hC) ?_
  refine z_ic_ne (q := 15) rfl rfl (fun h12 => ?_) (fun h12 => ?_)
  · refine z_iconst (q := 20) (v := 0) rfl rfl rfl ?_
    refine z_iretz rfl rfl (rfl) ?_
    refine ⟨?_, rfl⟩
    unfold bz
    simp_all
  · refine z_iconst (q := 16) (v := 1) rfl rfl rfl ?_
    refine z_goto rfl ?_
    refine z_iretz rfl rfl (rfl) ?_
    refine ⟨?_, rfl⟩
    unfold bz
    simp_all
theorem l_Sh_rootBits {sc : Option (Nat × Nat × (Nat → Int32))} {sa : Nat → Nat} {d : Nat} {M : mz_M} {z : Nat × Nat} {sh N : Nat} (w : g_Sh M.2.2 sh N) {n : Nat} (hn : M.1 sh 8 = nI n) (hN : n ≤ N) (hM : N ≤ 200) {j : Nat} (hj : j < n) {c : Nat} (hc : M.1 sh 5 = nI c) (hC : c ≤ 12)  : ∀ (k : Nat) (i : Nat), i + k = c → zw sc sa (d + 3) ym_Sh_rootBits z (fun r' M' => r' = some (.int (fo (fun v acc => acc ||| (1 : Int32) <<< (rt (M.2.1 (sh + 1) j) c (nI v) &&& 31)) 0 c)) ∧ M' = M) 4 [.ref sh, .int (nI j), .int (fo (fun v acc => acc ||| (1 : Int32) <<< (rt (M.2.1 (sh + 1) j) c (nI v) &&& 31)) 0 i), .int (nI i)] [] M z := by
  intro k
  induction k with
  | zero =>
    intro i hi
    have e1 : i = c := by omega
    subst e1
    refine z_iload_n (q := 5) rfl rfl rfl ?_
    refine z_aload_n (q := 6) rfl rfl rfl ?_
    refine z_getI (q := 9) rfl rfl rfl (Sh_k w) ?_
    refine z_ic_ge (q := 12) rfl rfl (fun h9 => ?_) (fun h9 => ?_)
    · refine z_iload_n (q := 30) rfl rfl rfl ?_
      refine z_ireti rfl rfl ?_
      exact ⟨rfl, rfl⟩
    · exact absurd (by rw [hc]; exact nI_le (Nat.le_refl _) (by omega)) h9
  | succ k ih =>
    intro i hi
    refine z_iload_n (q := 5) rfl rfl rfl ?_
    refine z_aload_n (q := 6) rfl rfl rfl ?_
    refine z_getI (q := 9) rfl rfl rfl (Sh_k w) ?_
    refine z_ic_ge (q := 12) rfl rfl (fun h9 => ?_) (fun h9 => ?_)
    · rw [hc] at h9
      exact absurd h9 (nI_ge (by omega) (by omega))
    · refine z_iload_n (q := 13) rfl rfl rfl ?_
      refine z_iconst (q := 14) (v := 1) rfl rfl rfl ?_
      refine z_aload_n (q := 15) rfl rfl rfl ?_
      refine z_iload_n (q := 16) rfl rfl rfl ?_
      refine z_iload_n (q := 17) rfl rfl rfl ?_
      refine z_cv2i (q := 20) rfl rfl rfl (Sh_k w) (s_Sh_rootOf w hn hN hM hj hc hC) ?_
      refine z_ishl (q := 21) rfl rfl ?_
      refine z_ior (q := 22) rfl rfl ?_
      refine z_istore_n (q := 23) (L2 := [_, _, _, _]) rfl rfl rfl rfl ?_
      refine z_iinc (q := 26) (L2 := [_, _, _, _]) rfl rfl rfl rfl ?_
      refine z_goto rfl ?_
      rw [show nI i + Int32.ofInt 1 = nI (i + 1) from (nI_succ i).symm]
      have e9 := ih (i + 1) (by omega)
      first | exact e9
theorem s_Sh_rootBits {sc : Option (Nat × Nat × (Nat → Int32))} {sa : Nat → Nat} {d : Nat} {M : mz_M} {z : Nat × Nat} {sh N : Nat} (w : g_Sh M.2.2 sh N) {n : Nat} (hn : M.1 sh 8 = nI n) (hN : n ≤ N) (hM : N ≤ 200) {j : Nat} (hj : j < n) {c : Nat} (hc : M.1 sh 5 = nI c) (hC : c ≤ 12)  : zx sc sa (d + 4) 35 [.ref sh, .int (nI j)] M z z (some (.int (fo (fun v acc => acc ||| (1 : Int32) <<< (rt (M.2.1 (sh + 1) j) c (nI v) &&& 31)) 0 c))) M := by
  refine zxin ym_Sh_rootBits [.ref sh, .int (nI j), .retAddr 0, .retAddr 0] rfl rfl rfl rfl ?_
  refine z_iconst (q := 1) (v := 0) rfl rfl rfl ?_
  refine z_istore_n (q := 2) (L2 := [_, _, _, _]) rfl rfl rfl rfl ?_
  refine z_iconst (q := 3) (v := 0) rfl rfl rfl ?_
  refine z_istore_n (q := 4) (L2 := [_, _, _, _]) rfl rfl rfl rfl ?_
  exact l_Sh_rootBits w hn hN hM hj hc hC c 0 (by omega)
theorem l_Sh_cellsRootedAs {sc : Option (Nat × Nat × (Nat → Int32))} {sa : Nat → Nat} {d : Nat} {M : mz_M} {z : Nat × Nat} {sh N : Nat} (w : g_Sh M.2.2 sh N) {n : Nat} (hn : M.1 sh 8 = nI n) (hN : n ≤ N) (hM : N ≤ 200) {j : Nat} (hj : j < n) {c : Nat} (hc : M.1 sh 5 = nI c) (hC : c ≤ 12) {c0 r0 : Int32} : ∀ (k : Nat) (i : Nat), i + k = c → zw sc sa (d + 3) ym_Sh_cellsRootedAs z (fun r' M' => r' = some (.int (fo (fun v acc => if rt (M.2.1 (sh + 1) j) c (nI v) = r0 then acc ||| (1 : Int32) <<< (nI v &&& 31) else acc) 0 c)) ∧ M' = M) 13 [.ref sh, .int (nI j), .int c0, .int r0, .int (fo (fun v acc => if rt (M.2.1 (sh + 1) j) c (nI v) = r0 then acc ||| (1 : Int32) <<< (nI v &&& 31) else acc) 0 i), .int (nI i)] [] M z := by
  intro k
  induction k with
  | zero =>
    intro i hi
    have e1 : i = c := by omega
    subst e1
    refine z_iload (q := 15) rfl rfl rfl ?_
    refine z_aload_n (q := 16) rfl rfl rfl ?_
    refine z_getI (q := 19) rfl rfl rfl (Sh_k w) ?_
    refine z_ic_ge (q := 22) rfl rfl (fun h19 => ?_) (fun h19 => ?_)
    · refine z_iload (q := 50) rfl rfl rfl ?_
      refine z_ireti rfl rfl ?_
      exact ⟨rfl, rfl⟩
    · exact absurd (by rw [hc]; exact nI_le (Nat.le_refl _) (by omega)) h19
  | succ k ih =>
    intro i hi
    refine z_iload (q := 15) rfl rfl rfl ?_
    refine z_aload_n (q := 16) rfl rfl rfl ?_
    refine z_getI (q := 19) rfl rfl rfl (Sh_k w) ?_
    refine z_ic_ge (q := 22) rfl rfl (fun h19 => ?_) (fun h19 => ?_)
    · rw [hc] at h19
      exact absurd h19 (nI_ge (by omega) (by omega))
    · refine z_aload_n (q := 23) rfl rfl rfl ?_
      refine z_iload_n (q := 24) rfl rfl rfl ?_
      refine z_iload (q := 26) rfl rfl rfl ?_
      refine z_cv2i (q := 29) rfl rfl rfl (Sh_k w) (s_Sh_rootOf w hn hN hM hj hc hC) ?_
      refine z_iload_n (q := 30) rfl rfl rfl ?_
      refine z_ic_ne (q := 33) rfl rfl (fun h30 => ?_) (fun h30 => ?_)
      · refine z_iinc (q := 45) (L2 := [_, _, _, _, _, _]) rfl rfl rfl rfl ?_
        refine z_goto rfl ?_
        rw [show nI i + Int32.ofInt 1 = nI (i + 1) from (nI_succ i).symm]
        have e9 := ih (i + 1) (by omega)
        first | exact e9 | (simp only [fo, if_pos h30] at e9; exact e9) | (simp only [fo, if_neg h30] at e9; exact e9)
      · refine z_iload (q := 35) rfl rfl rfl ?_
        refine z_iconst (q := 36) (v := 1) rfl rfl rfl ?_
        refine z_iload (q := 38) rfl rfl rfl ?_
        refine z_ishl (q := 39) rfl rfl ?_
        refine z_ior (q := 40) rfl rfl ?_
        refine z_istore (q := 42) (L2 := [_, _, _, _, _, _]) rfl rfl rfl rfl ?_
        refine z_iinc (q := 45) (L2 := [_, _, _, _, _, _]) rfl rfl rfl rfl ?_
        refine z_goto rfl ?_
        rw [show nI i + Int32.ofInt 1 = nI (i + 1) from (nI_succ i).symm]
        have e9 := ih (i + 1) (by omega)
        first | exact e9 | (simp only [fo, if_pos h30] at e9; exact e9) | (simp only [fo, if_neg h30] at e9; exact e9)
theorem s_Sh_cellsRootedAs {sc : Option (Nat × Nat × (Nat → Int32))} {sa : Nat → Nat} {d : Nat} {M : mz_M} {z : Nat × Nat} {sh N : Nat} (w : g_Sh M.2.2 sh N) {n : Nat} (hn : M.1 sh 8 = nI n) (hN : n ≤ N) (hM : N ≤ 200) {j : Nat} (hj : j < n) {c : Nat} (hc : M.1 sh 5 = nI c) (hC : c ≤ 12) {a : Int32} : zx sc sa (d + 4) 36 [.ref sh, .int (nI j), .int a] M z z (some (.int (fo (fun v acc => if rt (M.2.1 (sh + 1) j) c (nI v) = rt (M.2.1 (sh + 1) j) c a then acc ||| (1 : Int32) <<< (nI v &&& 31) else acc) 0 c))) M := by
  refine zxin ym_Sh_cellsRootedAs [.ref sh, .int (nI j), .int a, .retAddr 0, .retAddr 0, .retAddr 0] rfl rfl rfl rfl ?_
  refine z_aload_n (q := 1) rfl rfl rfl ?_
  refine z_iload_n (q := 2) rfl rfl rfl ?_
  refine z_iload_n (q := 3) rfl rfl rfl ?_
  refine z_cv2i (q := 6) rfl rfl rfl (Sh_k w) (s_Sh_rootOf w hn hN hM hj hc hC) ?_
  refine z_istore_n (q := 7) (L2 := [_, _, _, _, _, _]) rfl rfl rfl rfl ?_
  refine z_iconst (q := 8) (v := 0) rfl rfl rfl ?_
  refine z_istore (q := 10) (L2 := [_, _, _, _, _, _]) rfl rfl rfl rfl ?_
  refine z_iconst (q := 11) (v := 0) rfl rfl rfl ?_
  refine z_istore (q := 13) (L2 := [_, _, _, _, _, _]) rfl rfl rfl rfl ?_
  exact l_Sh_cellsRootedAs w hn hN hM hj hc hC c 0 (by omega)
theorem s_Sh_makingOf {sc : Option (Nat × Nat × (Nat → Int32))} {sa : Nat → Nat} {d : Nat} {M : mz_M} {z : Nat × Nat} {sh N : Nat} (w : g_Sh M.2.2 sh N) {n : Nat} (hn : M.1 sh 8 = nI n) (hN : n ≤ N) (hM : N ≤ 200) {j : Nat} (hj : j < n) {q : Int32} : zx sc sa (d + 3) 27 [.ref sh, .int (nI j), .int q] M z z (some (.int (if M.1 (sh + 4) j = -1 then -1 else if q = 0 then M.1 (sh + 4) j else if q = 1 then M.1 (sh + 5) j else nmI (M.2.1 (sh + 1) j) (M.1 (sh + 5) j)))) M := by
  refine zxin ym_Sh_makingOf [.ref sh, .int (nI j), .int q] rfl rfl rfl rfl ?_
  refine z_aload_n (q := 1) rfl rfl rfl ?_
  refine z_iload_n (q := 2) rfl rfl rfl ?_
  refine z_cv1i (q := 5) rfl rfl rfl (Sh_k w) (s_Sh_has1 w hn hN hM hj) ?_
  refine z_if_eq (q := 8) rfl rfl (fun h5 => ?_) (fun h5 => ?_)
  · exact absurd h5 (by decide)
  · refine z_aload_n (q := 9) rfl rfl rfl ?_
    refine z_getR (q := 12) rfl rfl rfl (Sh_k w) (Sh_r3 w) ?_
    refine z_iload_n (q := 13) rfl rfl rfl ?_
    refine z_iald (q := 14) rfl rfl (Sh_a3 w) (by first | assumption | exact vp_in_nI (by omega) (by omega)) ?_
    refine z_iconst (q := 15) (v := -1) rfl rfl rfl ?_
    refine z_ic_ne (q := 18) rfl rfl (fun h15 => ?_) (fun h15 => ?_)
    · refine z_iload_n (q := 21) rfl rfl rfl ?_
      refine z_if_ne (q := 24) rfl rfl (fun h21 => ?_) (fun h21 => ?_)
      · refine z_iload_n (q := 32) rfl rfl rfl ?_
        refine z_iconst (q := 33) (v := 1) rfl rfl rfl ?_
        refine z_ic_ne (q := 36) rfl rfl (fun h33 => ?_) (fun h33 => ?_)
        · refine z_aload_n (q := 46) rfl rfl rfl ?_
          refine z_iload_n (q := 47) rfl rfl rfl ?_
          refine z_aload_n (q := 48) rfl rfl rfl ?_
          refine z_getR (q := 51) rfl rfl rfl (Sh_k w) (Sh_r4 w) ?_
          refine z_iload_n (q := 52) rfl rfl rfl ?_
          refine z_iald (q := 53) rfl rfl (Sh_a4 w) (by first | assumption | exact vp_in_nI (by omega) (by omega)) ?_
          refine z_cv2i (q := 56) rfl rfl rfl (Sh_k w) (s_Sh_numberAt w hn hN hM hj) ?_
          refine z_ireti rfl rfl ?_
          rw [nI_clamp (by omega)] at h15
          refine ⟨?_, rfl⟩
          simp_all [nI_clamp (show j < 2 ^ 31 by omega)]
        · refine z_aload_n (q := 37) rfl rfl rfl ?_
          refine z_getR (q := 40) rfl rfl rfl (Sh_k w) (Sh_r4 w) ?_
          refine z_iload_n (q := 41) rfl rfl rfl ?_
          refine z_iald (q := 42) rfl rfl (Sh_a4 w) (by first | assumption | exact vp_in_nI (by omega) (by omega)) ?_
          refine z_goto rfl ?_
          refine z_ireti rfl rfl ?_
          rw [nI_clamp (by omega)] at h15
          refine ⟨?_, rfl⟩
          simp_all [nI_clamp (show j < 2 ^ 31 by omega)]
      · refine z_aload_n (q := 25) rfl rfl rfl ?_
        refine z_getR (q := 28) rfl rfl rfl (Sh_k w) (Sh_r3 w) ?_
        refine z_iload_n (q := 29) rfl rfl rfl ?_
        refine z_iald (q := 30) rfl rfl (Sh_a3 w) (by first | assumption | exact vp_in_nI (by omega) (by omega)) ?_
        refine z_ireti rfl rfl ?_
        rw [nI_clamp (by omega)] at h15
        refine ⟨?_, rfl⟩
        simp_all [nI_clamp (show j < 2 ^ 31 by omega)]
    · refine z_iconst (q := 19) (v := -1) rfl rfl rfl ?_
      refine z_ireti rfl rfl ?_
      rw [nI_clamp (by omega)] at h15
      refine ⟨?_, rfl⟩
      simp_all [nI_clamp (show j < 2 ^ 31 by omega)]
theorem s_Sh_linkOf {sc : Option (Nat × Nat × (Nat → Int32))} {sa : Nat → Nat} {d : Nat} {M : mz_M} {z : Nat × Nat} {sh N : Nat} (w : g_Sh M.2.2 sh N) {n : Nat} (hn : M.1 sh 8 = nI n) (hN : n ≤ N) (hM : N ≤ 200) {j : Nat} (hj : j < n) {q : Int32} : zx sc sa (d + 3) 38 [.ref sh, .int (nI j), .int q] M z z (some (.int (if q = 0 then bz (M.1 (sh + 2) j = -1) else if M.1 (sh + 2) j = -1 then -1 else if q = 1 then M.1 (sh + 2) j else if q = 2 then M.1 (sh + 3) j else nmI (M.2.1 (sh + 1) j) (M.1 (sh + 3) j)))) M := by
  refine zxin ym_Sh_linkOf [.ref sh, .int (nI j), .int q] rfl rfl rfl rfl ?_
  refine z_iload_n (q := 1) rfl rfl rfl ?_
  refine z_if_ne (q := 4) rfl rfl (fun h1 => ?_) (fun h1 => ?_)
  · refine z_aload_n (q := 19) rfl rfl rfl ?_
    refine z_iload_n (q := 20) rfl rfl rfl ?_
    refine z_cv1i (q := 23) rfl rfl rfl (Sh_k w) (s_Sh_has1 w hn hN hM hj) ?_
    refine z_if_eq (q := 26) rfl rfl (fun h23 => ?_) (fun h23 => ?_)
    · exact absurd h23 (by decide)
    · refine z_aload_n (q := 27) rfl rfl rfl ?_
      refine z_iload_n (q := 28) rfl rfl rfl ?_
      refine z_cv1i (q := 31) rfl rfl rfl (Sh_k w) (s_Sh_isDirect w hn hN hM hj) ?_
      refine z_if_eq (q := 34) rfl rfl (fun h31 => ?_) (fun h31 => ?_)
      · refine z_iload_n (q := 37) rfl rfl rfl ?_
        refine z_iconst (q := 38) (v := 1) rfl rfl rfl ?_
        refine z_ic_ne (q := 41) rfl rfl (fun h38 => ?_) (fun h38 => ?_)
        · refine z_iload_n (q := 49) rfl rfl rfl ?_
          refine z_iconst (q := 50) (v := 2) rfl rfl rfl ?_
          refine z_ic_ne (q := 53) rfl rfl (fun h50 => ?_) (fun h50 => ?_)
          · refine z_aload_n (q := 63) rfl rfl rfl ?_
            refine z_iload_n (q := 64) rfl rfl rfl ?_
            refine z_aload_n (q := 65) rfl rfl rfl ?_
            refine z_getR (q := 68) rfl rfl rfl (Sh_k w) (Sh_r2 w) ?_
            refine z_iload_n (q := 69) rfl rfl rfl ?_
            refine z_iald (q := 70) rfl rfl (Sh_a2 w) (by first | assumption | exact vp_in_nI (by omega) (by omega)) ?_
            refine z_cv2i (q := 73) rfl rfl rfl (Sh_k w) (s_Sh_numberAt w hn hN hM hj) ?_
            refine z_ireti rfl rfl ?_
            refine ⟨?_, rfl⟩
            simp_all [nI_clamp (show j < 2 ^ 31 by omega), bz]
          · refine z_aload_n (q := 54) rfl rfl rfl ?_
            refine z_getR (q := 57) rfl rfl rfl (Sh_k w) (Sh_r2 w) ?_
            refine z_iload_n (q := 58) rfl rfl rfl ?_
            refine z_iald (q := 59) rfl rfl (Sh_a2 w) (by first | assumption | exact vp_in_nI (by omega) (by omega)) ?_
            refine z_goto rfl ?_
            refine z_ireti rfl rfl ?_
            refine ⟨?_, rfl⟩
            simp_all [nI_clamp (show j < 2 ^ 31 by omega), bz]
        · refine z_aload_n (q := 42) rfl rfl rfl ?_
          refine z_getR (q := 45) rfl rfl rfl (Sh_k w) (Sh_r1 w) ?_
          refine z_iload_n (q := 46) rfl rfl rfl ?_
          refine z_iald (q := 47) rfl rfl (Sh_a1 w) (by first | assumption | exact vp_in_nI (by omega) (by omega)) ?_
          refine z_ireti rfl rfl ?_
          refine ⟨?_, rfl⟩
          simp_all [nI_clamp (show j < 2 ^ 31 by omega), bz]
      · refine z_iconst (q := 35) (v := -1) rfl rfl rfl ?_
        refine z_ireti rfl rfl ?_
        refine ⟨?_, rfl⟩
        simp_all [nI_clamp (show j < 2 ^ 31 by omega), bz]
  · refine z_aload_n (q := 5) rfl rfl rfl ?_
    refine z_iload_n (q := 6) rfl rfl rfl ?_
    refine z_cv1i (q := 9) rfl rfl rfl (Sh_k w) (s_Sh_isDirect w hn hN hM hj) ?_
    refine z_if_eq (q := 12) rfl rfl (fun h9 => ?_) (fun h9 => ?_)
    · refine z_iconst (q := 17) (v := 0) rfl rfl rfl ?_
      refine z_ireti rfl rfl ?_
      refine ⟨?_, rfl⟩
      simp_all [nI_clamp (show j < 2 ^ 31 by omega), bz]
    · refine z_iconst (q := 13) (v := 1) rfl rfl rfl ?_
      refine z_goto rfl ?_
      refine z_ireti rfl rfl ?_
      refine ⟨?_, rfl⟩
      simp_all [nI_clamp (show j < 2 ^ 31 by omega), bz]
