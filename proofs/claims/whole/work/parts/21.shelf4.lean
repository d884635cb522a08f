-- a shelf's cells as one state
def shF (M : mz_M) (sh : Nat) (s l t m p : Int32) : Nat → Int32 := fun k => match k with
  | 5 => s
  | 6 => l
  | 7 => t
  | 8 => m
  | 9 => p
  | k => M.1 sh k
def shP (M : mz_M) (sh : Nat) (s l t m p : Int32) (J : Nat → Int64) (lt lc mo mc : Nat → Int32) : mz_M := (fun a => if a = sh then shF M sh s l t m p else if a = sh + 2 then lt else if a = sh + 3 then lc else if a = sh + 4 then mo else if a = sh + 5 then mc else M.1 a, fun a => if a = sh + 1 then J else M.2.1 a, M.2.2)
theorem shP_g5 {M : mz_M} {sh : Nat} {s l t m p : Int32} {J : Nat → Int64} {lt lc mo mc : Nat → Int32} : (shP M sh s l t m p J lt lc mo mc).1 sh 5 = s := by simp [shP, shF]
theorem shP_g6 {M : mz_M} {sh : Nat} {s l t m p : Int32} {J : Nat → Int64} {lt lc mo mc : Nat → Int32} : (shP M sh s l t m p J lt lc mo mc).1 sh 6 = l := by simp [shP, shF]
theorem shP_g7 {M : mz_M} {sh : Nat} {s l t m p : Int32} {J : Nat → Int64} {lt lc mo mc : Nat → Int32} : (shP M sh s l t m p J lt lc mo mc).1 sh 7 = t := by simp [shP, shF]
theorem shP_g8 {M : mz_M} {sh : Nat} {s l t m p : Int32} {J : Nat → Int64} {lt lc mo mc : Nat → Int32} : (shP M sh s l t m p J lt lc mo mc).1 sh 8 = m := by simp [shP, shF]
theorem shP_g9 {M : mz_M} {sh : Nat} {s l t m p : Int32} {J : Nat → Int64} {lt lc mo mc : Nat → Int32} : (shP M sh s l t m p J lt lc mo mc).1 sh 9 = p := by simp [shP, shF]
theorem shP_a1 {M : mz_M} {sh : Nat} {s l t m p : Int32} {J : Nat → Int64} {lt lc mo mc : Nat → Int32} : (shP M sh s l t m p J lt lc mo mc).1 (sh + 2) = lt := by simp [shP]
theorem shP_a2 {M : mz_M} {sh : Nat} {s l t m p : Int32} {J : Nat → Int64} {lt lc mo mc : Nat → Int32} : (shP M sh s l t m p J lt lc mo mc).1 (sh + 3) = lc := by simp [shP]
theorem shP_a3 {M : mz_M} {sh : Nat} {s l t m p : Int32} {J : Nat → Int64} {lt lc mo mc : Nat → Int32} : (shP M sh s l t m p J lt lc mo mc).1 (sh + 4) = mo := by simp [shP]
theorem shP_a4 {M : mz_M} {sh : Nat} {s l t m p : Int32} {J : Nat → Int64} {lt lc mo mc : Nat → Int32} : (shP M sh s l t m p J lt lc mo mc).1 (sh + 5) = mc := by simp [shP]
theorem shP_a0 {M : mz_M} {sh : Nat} {s l t m p : Int32} {J : Nat → Int64} {lt lc mo mc : Nat → Int32} : (shP M sh s l t m p J lt lc mo mc).2.1 (sh + 1) = J := by simp [shP]
theorem shP_u5 {M : mz_M} {sh : Nat} {s l t m p : Int32} {J : Nat → Int64} {lt lc mo mc : Nat → Int32} {x : Int32} : mz_uI (shP M sh s l t m p J lt lc mo mc) sh 5 x = shP M sh x l t m p J lt lc mo mc := by
  unfold mz_uI shP
  refine Prod.ext ?_ rfl
  funext a
  by_cases h : a = sh
  · subst h
    funext k
    rcases k with _ | _ | _ | _ | _ | _ | _ | _ | _ | _ | k <;> simp [va_up, shF]
  · simp [va_up, h]
theorem shP_u6 {M : mz_M} {sh : Nat} {s l t m p : Int32} {J : Nat → Int64} {lt lc mo mc : Nat → Int32} {x : Int32} : mz_uI (shP M sh s l t m p J lt lc mo mc) sh 6 x = shP M sh s x t m p J lt lc mo mc := by
  unfold mz_uI shP
  refine Prod.ext ?_ rfl
  funext a
  by_cases h : a = sh
  · subst h
    funext k
    rcases k with _ | _ | _ | _ | _ | _ | _ | _ | _ | _ | k <;> simp [va_up, shF]
  · simp [va_up, h]
theorem shP_u7 {M : mz_M} {sh : Nat} {s l t m p : Int32} {J : Nat → Int64} {lt lc mo mc : Nat → Int32} {x : Int32} : mz_uI (shP M sh s l t m p J lt lc mo mc) sh 7 x = shP M sh s l x m p J lt lc mo mc := by
  unfold mz_uI shP
  refine Prod.ext ?_ rfl
  funext a
  by_cases h : a = sh
  · subst h
    funext k
    rcases k with _ | _ | _ | _ | _ | _ | _ | _ | _ | _ | k <;> simp [va_up, shF]
  · simp [va_up, h]
theorem shP_u8 {M : mz_M} {sh : Nat} {s l t m p : Int32} {J : Nat → Int64} {lt lc mo mc : Nat → Int32} {x : Int32} : mz_uI (shP M sh s l t m p J lt lc mo mc) sh 8 x = shP M sh s l t x p J lt lc mo mc := by
  unfold mz_uI shP
  refine Prod.ext ?_ rfl
  funext a
  by_cases h : a = sh
  · subst h
    funext k
    rcases k with _ | _ | _ | _ | _ | _ | _ | _ | _ | _ | k <;> simp [va_up, shF]
  · simp [va_up, h]
theorem shP_u9 {M : mz_M} {sh : Nat} {s l t m p : Int32} {J : Nat → Int64} {lt lc mo mc : Nat → Int32} {x : Int32} : mz_uI (shP M sh s l t m p J lt lc mo mc) sh 9 x = shP M sh s l t m x J lt lc mo mc := by
  unfold mz_uI shP
  refine Prod.ext ?_ rfl
  funext a
  by_cases h : a = sh
  · subst h
    funext k
    rcases k with _ | _ | _ | _ | _ | _ | _ | _ | _ | _ | k <;> simp [va_up, shF]
  · simp [va_up, h]
theorem shP_w1 {M : mz_M} {sh : Nat} {s l t m p : Int32} {J : Nat → Int64} {lt lc mo mc : Nat → Int32} {k : Nat} {x : Int32} : mz_uI (shP M sh s l t m p J lt lc mo mc) (sh + 2) k x = shP M sh s l t m p J (va_up lt k x) lc mo mc := by
  unfold mz_uI shP
  refine Prod.ext ?_ rfl
  funext a
  by_cases h : a = sh + 2
  · subst h
    simp [va_up]
  · simp [va_up, h]
theorem shP_w2 {M : mz_M} {sh : Nat} {s l t m p : Int32} {J : Nat → Int64} {lt lc mo mc : Nat → Int32} {k : Nat} {x : Int32} : mz_uI (shP M sh s l t m p J lt lc mo mc) (sh + 3) k x = shP M sh s l t m p J lt (va_up lc k x) mo mc := by
  unfold mz_uI shP
  refine Prod.ext ?_ rfl
  funext a
  by_cases h : a = sh + 3
  · subst h
    simp [va_up]
  · simp [va_up, h]
theorem shP_w3 {M : mz_M} {sh : Nat} {s l t m p : Int32} {J : Nat → Int64} {lt lc mo mc : Nat → Int32} {k : Nat} {x : Int32} : mz_uI (shP M sh s l t m p J lt lc mo mc) (sh + 4) k x = shP M sh s l t m p J lt lc (va_up mo k x) mc := by
  unfold mz_uI shP
  refine Prod.ext ?_ rfl
  funext a
  by_cases h : a = sh + 4
  · subst h
    simp [va_up]
  · simp [va_up, h]
theorem shP_w4 {M : mz_M} {sh : Nat} {s l t m p : Int32} {J : Nat → Int64} {lt lc mo mc : Nat → Int32} {k : Nat} {x : Int32} : mz_uI (shP M sh s l t m p J lt lc mo mc) (sh + 5) k x = shP M sh s l t m p J lt lc mo (va_up mc k x) := by
  unfold mz_uI shP
  refine Prod.ext ?_ rfl
  funext a
  by_cases h : a = sh + 5
  · subst h
    simp [va_up]
  · simp [va_up, h]
theorem shP_w0 {M : mz_M} {sh : Nat} {s l t m p : Int32} {J : Nat → Int64} {lt lc mo mc : Nat → Int32} {k : Nat} {x : Int64} : mz_uJ (shP M sh s l t m p J lt lc mo mc) (sh + 1) k x = shP M sh s l t m p (va_up J k x) lt lc mo mc := by
  unfold mz_uJ shP
  refine Prod.ext rfl (Prod.ext ?_ rfl)
  funext a
  by_cases h : a = sh + 1
  · subst h
    simp [va_up]
  · simp [va_up, h]
theorem shP_eta {M : mz_M} {sh : Nat} : shP M sh (M.1 sh 5) (M.1 sh 6) (M.1 sh 7) (M.1 sh 8) (M.1 sh 9) (M.2.1 (sh + 1)) (M.1 (sh + 2)) (M.1 (sh + 3)) (M.1 (sh + 4)) (M.1 (sh + 5)) = M := by
  obtain ⟨A, B, G⟩ := M
  unfold shP
  refine Prod.ext ?_ (Prod.ext ?_ rfl)
  · funext a
    by_cases h : a = sh
    · subst h
      funext k
      rcases k with _ | _ | _ | _ | _ | _ | _ | _ | _ | _ | k <;> simp [shF]
    · by_cases h2 : a = sh + 2
      · subst h2; simp
      · by_cases h3 : a = sh + 3
        · subst h3; simp
        · by_cases h4 : a = sh + 4
          · subst h4; simp
          · by_cases h5 : a = sh + 5
            · subst h5; simp
            · simp [h, h2, h3, h4, h5]
  · funext a
    by_cases h : a = sh + 1
    · subst h; simp
    · simp [h]
theorem shP_o {M : mz_M} {sh : Nat} {s l t m p : Int32} {J : Nat → Int64} {lt lc mo mc : Nat → Int32} {a : Nat} (h0 : a ≠ sh) (h2 : a ≠ sh + 2) (h3 : a ≠ sh + 3) (h4 : a ≠ sh + 4) (h5 : a ≠ sh + 5) : (shP M sh s l t m p J lt lc mo mc).1 a = M.1 a := by simp [shP, h0, h2, h3, h4, h5]
theorem shP_oJ {M : mz_M} {sh : Nat} {s l t m p : Int32} {J : Nat → Int64} {lt lc mo mc : Nat → Int32} {a : Nat} (h : a ≠ sh + 1) : (shP M sh s l t m p J lt lc mo mc).2.1 a = M.2.1 a := by simp [shP, h]
theorem p_Sh_has {M : mz_M} {sc : Option (Nat × Nat × (Nat → Int32))} {sa : Nat → Nat} {d : Nat} {z : Nat × Nat} {sh N : Nat} {s l t m p : Int32} {J : Nat → Int64} {lt lc mo mc : Nat → Int32} (w : g_Sh M.2.2 sh N) {n : Nat} (hn : m = nI n) (hN : n ≤ N) (hM : N ≤ 200) {j : Nat} (hj : j < n)  : zx sc sa (d + 1) 19 [.ref sh, .int (nI j)] (shP M sh s l t m p J lt lc mo mc) z z (some (.int 1)) (shP M sh s l t m p J lt lc mo mc) := by
  have h := s_Sh_has1 (sc := sc) (sa := sa) (d := d) (z := z) (M := shP M sh s l t m p J lt lc mo mc) w (by rw [shP_g8]; exact hn) hN hM hj
  exact h
theorem p_Sh_wayFrom {M : mz_M} {sc : Option (Nat × Nat × (Nat → Int32))} {sa : Nat → Nat} {d : Nat} {z : Nat × Nat} {sh N : Nat} {s l t m p : Int32} {J : Nat → Int64} {lt lc mo mc : Nat → Int32} (w : g_Sh M.2.2 sh N) {n : Nat} (hn : m = nI n) (hN : n ≤ N) (hM : N ≤ 200) {j : Nat} (hj : j < n) (hf : okl lt n)  : zx sc sa (d + 1) 39 [.ref sh, .int (nI j)] (shP M sh s l t m p J lt lc mo mc) z z (some (.int (nI (wl lt n j)))) (shP M sh s l t m p J lt lc mo mc) := by
  have h := s_Sh_wayFrom (sc := sc) (sa := sa) (d := d) (z := z) (M := shP M sh s l t m p J lt lc mo mc) w (by rw [shP_g8]; exact hn) hN hM hj (by rw [shP_a1]; exact hf)
  rw [shP_a1] at h
  exact h
theorem p_Sh_isTooLong {M : mz_M} {sc : Option (Nat × Nat × (Nat → Int32))} {sa : Nat → Nat} {d : Nat} {z : Nat × Nat} {sh N : Nat} {s l t m p : Int32} {J : Nat → Int64} {lt lc mo mc : Nat → Int32} (w : g_Sh M.2.2 sh N) {x : Int32} : zx sc sa (d + 1) 49 [.ref sh, .int x] (shP M sh s l t m p J lt lc mo mc) z z (some (.int (bz (l = 2 ∧ ¬ x ≤ t)))) (shP M sh s l t m p J lt lc mo mc) := by
  have h := s_Sh_isTooLong (sc := sc) (sa := sa) (d := d) (z := z) (M := shP M sh s l t m p J lt lc mo mc) w (x := x)
  simp only [shP_g6, shP_g7] at h
  exact h
theorem p_Sh_linksBefore {M : mz_M} {sc : Option (Nat × Nat × (Nat → Int32))} {sa : Nat → Nat} {d : Nat} {z : Nat × Nat} {sh N : Nat} {s l t m p : Int32} {J : Nat → Int64} {lt lc mo mc : Nat → Int32} (w : g_Sh M.2.2 sh N) {n : Nat} (hn : m = nI n) (hN : n ≤ N) (hM : N ≤ 200) {j : Nat} (hj : j < n) (hf : okl lt n) {cell : Int32} : zx sc sa (d + 1) 51 [.ref sh, .int (nI j), .int cell] (shP M sh s l t m p J lt lc mo mc) z z (some (.int (nI (la lt lc cell n j)))) (shP M sh s l t m p J lt lc mo mc) := by
  have h := s_Sh_linksBefore (sc := sc) (sa := sa) (d := d) (z := z) (M := shP M sh s l t m p J lt lc mo mc) w (by rw [shP_g8]; exact hn) hN hM hj (by rw [shP_a1]; exact hf) (cell := cell)
  rw [shP_a1, shP_a2] at h
  exact h
theorem p_Sh_numberAt {M : mz_M} {sc : Option (Nat × Nat × (Nat → Int32))} {sa : Nat → Nat} {d : Nat} {z : Nat × Nat} {sh N : Nat} {s l t m p : Int32} {J : Nat → Int64} {lt lc mo mc : Nat → Int32} (w : g_Sh M.2.2 sh N) {n : Nat} (hn : m = nI n) (hN : n ≤ N) (hM : N ≤ 200) {j : Nat} (hj : j < n) {cell : Int32} : zx sc sa (d + 2) 24 [.ref sh, .int (nI j), .int cell] (shP M sh s l t m p J lt lc mo mc) z z (some (.int (nmI (J j) cell))) (shP M sh s l t m p J lt lc mo mc) := by
  have h := s_Sh_numberAt (sc := sc) (sa := sa) (d := d) (z := z) (M := shP M sh s l t m p J lt lc mo mc) w (by rw [shP_g8]; exact hn) hN hM hj (cell := cell)
  rw [shP_a0] at h
  exact h
theorem p_Sh_rowOf {M : mz_M} {sc : Option (Nat × Nat × (Nat → Int32))} {sa : Nat → Nat} {d : Nat} {z : Nat × Nat} {sh N : Nat} {s l t m p : Int32} {J : Nat → Int64} {lt lc mo mc : Nat → Int32} (w : g_Sh M.2.2 sh N) {n : Nat} (hn : m = nI n) (hN : n ≤ N) (hM : N ≤ 200) {j : Nat} (hj : j < n)  : zx sc sa (d + 2) 23 [.ref sh, .int (nI j)] (shP M sh s l t m p J lt lc mo mc) z z (some (.long (J j))) (shP M sh s l t m p J lt lc mo mc) := by
  have h := s_Sh_rowOf (sc := sc) (sa := sa) (d := d) (z := z) (M := shP M sh s l t m p J lt lc mo mc) w (by rw [shP_g8]; exact hn) hN hM hj
  rw [shP_a0] at h
  exact h
theorem p_Sh_isDirect {M : mz_M} {sc : Option (Nat × Nat × (Nat → Int32))} {sa : Nat → Nat} {d : Nat} {z : Nat × Nat} {sh N : Nat} {s l t m p : Int32} {J : Nat → Int64} {lt lc mo mc : Nat → Int32} (w : g_Sh M.2.2 sh N) {n : Nat} (hn : m = nI n) (hN : n ≤ N) (hM : N ≤ 200) {j : Nat} (hj : j < n)  : zx sc sa (d + 2) 37 [.ref sh, .int (nI j)] (shP M sh s l t m p J lt lc mo mc) z z (some (.int (bz (lt j = -1)))) (shP M sh s l t m p J lt lc mo mc) := by
  have h := s_Sh_isDirect (sc := sc) (sa := sa) (d := d) (z := z) (M := shP M sh s l t m p J lt lc mo mc) w (by rw [shP_g8]; exact hn) hN hM hj
  rw [shP_a1] at h
  exact h
theorem p_Sh_forget {sc : Option (Nat × Nat × (Nat → Int32))} {sa : Nat → Nat} {d : Nat} {M : mz_M} {z : Nat × Nat} {sh N : Nat} {s l t m p : Int32} {J : Nat → Int64} {lt lc mo mc : Nat → Int32} (w : g_Sh M.2.2 sh N)  : zx sc sa (d + 1) 16 [.ref sh] (shP M sh s l t m p J lt lc mo mc) z z none (shP M sh 0 0 0 0 0 J lt lc mo mc) := by
  refine zxin ym_Sh_forget [.ref sh] rfl rfl rfl rfl ?_
  refine z_aload_n (q := 1) rfl rfl rfl ?_
  refine z_iconst (q := 2) (v := 0) rfl rfl rfl ?_
  refine z_putI (q := 5) rfl rfl rfl (by decide) rfl rfl (Sh_k w) ?_
  rw [shP_u5]
  refine z_aload_n (q := 6) rfl rfl rfl ?_
  refine z_iconst (q := 7) (v := 0) rfl rfl rfl ?_
  refine z_putI (q := 10) rfl rfl rfl (by decide) rfl rfl (Sh_k w) ?_
  rw [shP_u6]
  refine z_aload_n (q := 11) rfl rfl rfl ?_
  refine z_iconst (q := 12) (v := 0) rfl rfl rfl ?_
  refine z_putI (q := 15) rfl rfl rfl (by decide) rfl rfl (Sh_k w) ?_
  rw [shP_u7]
  refine z_aload_n (q := 16) rfl rfl rfl ?_
  refine z_iconst (q := 17) (v := 0) rfl rfl rfl ?_
  refine z_putI (q := 20) rfl rfl rfl (by decide) rfl rfl (Sh_k w) ?_
  rw [shP_u8]
  refine z_aload_n (q := 21) rfl rfl rfl ?_
  refine z_iconst (q := 22) (v := 0) rfl rfl rfl ?_
  refine z_putI (q := 25) rfl rfl rfl (by decide) rfl rfl (Sh_k w) ?_
  rw [shP_u9]
  refine z_ret rfl rfl ?_
  exact ⟨rfl, rfl⟩
theorem p_Sh_begin {sc : Option (Nat × Nat × (Nat → Int32))} {sa : Nat → Nat} {d : Nat} {M : mz_M} {z : Nat × Nat} {sh N : Nat} {s l t m p : Int32} {J : Nat → Int64} {lt lc mo mc : Nat → Int32} (w : g_Sh M.2.2 sh N) (hN : 0 < N) (hM : N ≤ 200) {a b e : Int32} {row : Int64} : zx sc sa (d + 1) 17 [.ref sh, .int a, .int b, .int e, .long row] (shP M sh s l t m p J lt lc mo mc) z z none (shP M sh a b e 1 0 (va_up J 0 row) (va_up lt 0 (-1)) (va_up lc 0 (-1)) (va_up mo 0 (-1)) (va_up mc 0 (-1))) := by
  refine zxin ym_Sh_begin [.ref sh, .int a, .int b, .int e, .long row, .retAddr 0] rfl rfl rfl rfl ?_
  refine z_aload_n (q := 1) rfl rfl rfl ?_
  refine z_iload_n (q := 2) rfl rfl rfl ?_
  refine z_putI (q := 5) rfl rfl rfl (by decide) rfl rfl (Sh_k w) ?_
  rw [shP_u5]
  refine z_aload_n (q := 6) rfl rfl rfl ?_
  refine z_iload_n (q := 7) rfl rfl rfl ?_
  refine z_putI (q := 10) rfl rfl rfl (by decide) rfl rfl (Sh_k w) ?_
  rw [shP_u6]
  refine z_aload_n (q := 11) rfl rfl rfl ?_
  refine z_iload_n (q := 12) rfl rfl rfl ?_
  refine z_putI (q := 15) rfl rfl rfl (by decide) rfl rfl (Sh_k w) ?_
  rw [shP_u7]
  refine z_aload_n (q := 16) rfl rfl rfl ?_
  refine z_iconst (q := 17) (v := 0) rfl rfl rfl ?_
  refine z_putI (q := 20) rfl rfl rfl (by decide) rfl rfl (Sh_k w) ?_
  rw [shP_u9]
  refine z_aload_n (q := 21) rfl rfl rfl ?_
  refine z_iconst (q := 22) (v := 1) rfl rfl rfl ?_
  refine z_putI (q := 25) rfl rfl rfl (by decide) rfl rfl (Sh_k w) ?_
  rw [shP_u8]
  refine z_aload_n (q := 26) rfl rfl rfl ?_
  refine z_getR (q := 29) rfl rfl rfl (Sh_k w) (Sh_r0 w) ?_
  refine z_iconst (q := 30) (v := 0) rfl rfl rfl ?_
  refine z_lload (q := 32) rfl rfl rfl ?_
  refine z_last (q := 33) rfl rfl (Sh_a0 w) (vp_in_nI (n := 0) (by omega) (by omega)) ?_
  rw [shP_w0]
  try rw [nI_clamp (by omega)]
  refine z_aload_n (q := 34) rfl rfl rfl ?_
  refine z_getR (q := 37) rfl rfl rfl (Sh_k w) (Sh_r1 w) ?_
  refine z_iconst (q := 38) (v := 0) rfl rfl rfl ?_
  refine z_iconst (q := 39) (v := -1) rfl rfl rfl ?_
  refine z_iast (q := 40) rfl rfl (Sh_a1 w) (vp_in_nI (n := 0) (by omega) (by omega)) ?_
  rw [shP_w1]
  try rw [nI_clamp (by omega)]
  refine z_aload_n (q := 41) rfl rfl rfl ?_
  refine z_getR (q := 44) rfl rfl rfl (Sh_k w) (Sh_r2 w) ?_
  refine z_iconst (q := 45) (v := 0) rfl rfl rfl ?_
  refine z_iconst (q := 46) (v := -1) rfl rfl rfl ?_
  refine z_iast (q := 47) rfl rfl (Sh_a2 w) (vp_in_nI (n := 0) (by omega) (by omega)) ?_
  rw [shP_w2]
  try rw [nI_clamp (by omega)]
  refine z_aload_n (q := 48) rfl rfl rfl ?_
  refine z_getR (q := 51) rfl rfl rfl (Sh_k w) (Sh_r3 w) ?_
  refine z_iconst (q := 52) (v := 0) rfl rfl rfl ?_
  refine z_iconst (q := 53) (v := -1) rfl rfl rfl ?_
  refine z_iast (q := 54) rfl rfl (Sh_a3 w) (vp_in_nI (n := 0) (by omega) (by omega)) ?_
  rw [shP_w3]
  try rw [nI_clamp (by omega)]
  refine z_aload_n (q := 55) rfl rfl rfl ?_
  refine z_getR (q := 58) rfl rfl rfl (Sh_k w) (Sh_r4 w) ?_
  refine z_iconst (q := 59) (v := 0) rfl rfl rfl ?_
  refine z_iconst (q := 60) (v := -1) rfl rfl rfl ?_
  refine z_iast (q := 61) rfl rfl (Sh_a4 w) (vp_in_nI (n := 0) (by omega) (by omega)) ?_
  rw [shP_w4]
  try rw [nI_clamp (by omega)]
  refine z_ret rfl rfl ?_
  exact ⟨rfl, rfl⟩
theorem p_Sh_giveRow {sc : Option (Nat × Nat × (Nat → Int32))} {sa : Nat → Nat} {d : Nat} {M : mz_M} {z : Nat × Nat} {sh N : Nat} {s l t m p : Int32} {J : Nat → Int64} {lt lc mo mc : Nat → Int32} (w : g_Sh M.2.2 sh N) {n : Nat} (hn : m = nI n) (hN : n ≤ N) (hM : N ≤ 200) {j : Nat} (hj : j < n) {x : Int32} : zx sc sa (d + 1) 54 [.ref sh, .int (nI j), .int x] (shP M sh s l t m p J lt lc mo mc) z z none (shP M sh s l t m (p + (x + s)) J (va_up lt j (-1)) (va_up lc j (-1)) mo mc) := by
  refine zxin ym_Sh_giveRow [.ref sh, .int (nI j), .int x] rfl rfl rfl rfl ?_
  refine z_iload_n (q := 1) rfl rfl rfl ?_
  refine z_if_lt (q := 4) rfl rfl (fun h1 => ?_) (fun h1 => ?_)
  · exact absurd h1 (nI_pos (by omega))
  · refine z_iload_n (q := 5) rfl rfl rfl ?_
    refine z_aload_n (q := 6) rfl rfl rfl ?_
    refine z_getI (q := 9) rfl rfl rfl (Sh_k w) ?_
    rw [shP_g8]
    refine z_ic_ge (q := 12) rfl rfl (fun h9 => ?_) (fun h9 => ?_)
    · rw [hn] at h9
      exact absurd h9 (nI_ge (by omega) (by omega))
    · refine z_aload_n (q := 13) rfl rfl rfl ?_
      refine z_getR (q := 16) rfl rfl rfl (Sh_k w) (Sh_r1 w) ?_
      refine z_iload_n (q := 17) rfl rfl rfl ?_
      refine z_iconst (q := 18) (v := -1) rfl rfl rfl ?_
      refine z_iast (q := 19) rfl rfl (Sh_a1 w) (by first | assumption | exact vp_in_nI (by omega) (by omega)) ?_
      rw [shP_w1]
      try rw [nI_clamp (by omega)]
      refine z_aload_n (q := 20) rfl rfl rfl ?_
      refine z_getR (q := 23) rfl rfl rfl (Sh_k w) (Sh_r2 w) ?_
      refine z_iload_n (q := 24) rfl rfl rfl ?_
      refine z_iconst (q := 25) (v := -1) rfl rfl rfl ?_
      refine z_iast (q := 26) rfl rfl (Sh_a2 w) (by first | assumption | exact vp_in_nI (by omega) (by omega)) ?_
      rw [shP_w2]
      try rw [nI_clamp (by omega)]
      refine z_aload_n (q := 27) rfl rfl rfl ?_
      refine z_dup (q := 28) rfl rfl rfl ?_
      refine z_getI (q := 31) rfl rfl rfl (Sh_k w) ?_
      rw [shP_g9]
      refine z_iload_n (q := 32) rfl rfl rfl ?_
      refine z_aload_n (q := 33) rfl rfl rfl ?_
      refine z_getI (q := 36) rfl rfl rfl (Sh_k w) ?_
      rw [shP_g5]
      refine z_iadd (q := 37) rfl rfl ?_
      refine z_iadd (q := 38) rfl rfl ?_
      refine z_putI (q := 41) rfl rfl rfl (by decide) rfl rfl (Sh_k w) ?_
      rw [shP_u9]
      refine z_ret rfl rfl ?_
      exact ⟨rfl, rfl⟩
def twF : Nat → Int32 → Int32 → Int32 → (Nat → Int32) → (Nat → Int32) → (Nat → Int32) × (Nat → Int32)
  | 0, _, _, _, lt, lc => (lt, lc)
  | k + 1, a, b, bc, lt, lc => if a = -1 then (lt, lc) else twF k (lt a.toNatClampNeg) a (lc a.toNatClampNeg) (va_up lt a.toNatClampNeg b) (va_up lc a.toNatClampNeg bc)
theorem okl_up {f : Nat → Int32} {n k : Nat} {b : Int32} (h : okl f n) (hb : okv n b) : okl (va_up f k b) n := by
  intro v hv
  by_cases e : v = k
  · have : va_up f k b v = b := by simp [va_up, e]
    rw [this]
    exact hb
  · have : va_up f k b v = f v := by simp [va_up, e]
    rw [this]
    exact h v hv
theorem okv_p {n : Nat} {a : Int32} (h : okv n a) (h1 : ¬ a = -1) (hn : n < 2 ^ 31) : ¬ a < 0 ∧ ¬ nI n ≤ a := by
  rcases h with h | ⟨u, hu, rfl⟩
  · exact absurd h h1
  · exact ⟨nI_pos (by omega), nI_ge hu hn⟩
theorem okv_q {n : Nat} {a : Int32} (h : okv n a) (h1 : a < 0) (hn : n < 2 ^ 31) : a = -1 := by
  rcases h with h | ⟨u, hu, rfl⟩
  · exact h
  · exact absurd h1 (nI_pos (by omega))
theorem l_Sh_turnWay {sc : Option (Nat × Nat × (Nat → Int32))} {sa : Nat → Nat} {d : Nat} {M : mz_M} {z : Nat × Nat} {sh N : Nat} {s l t m p : Int32} {J : Nat → Int64} {mo mc : Nat → Int32} (w : g_Sh M.2.2 sh N) {n : Nat} (hn : m = nI n) (hN : n ≤ N) (hM : N ≤ 200) {v0 : Int32} {lf cf : Nat → Int32} : ∀ (k : Nat) (i : Nat) (a b bc : Int32) (lt lc : Nat → Int32) (x0 x1 : Value), i + k = n → okv n a → okv n b → okl lt n → twF k a b bc lt lc = (lf, cf) → zw sc sa d ym_Sh_turnWay z (fun r' M' => r' = none ∧ M' = (shP M sh s l t m p J lf cf mo mc)) 10 [.ref sh, .int v0, .int a, .int b, .int bc, .int (nI i), x0, x1] [] (shP M sh s l t m p J lt lc mo mc) z := by
  intro k
  induction k with
  | zero =>
    intro i a b bc lt lc x0 x1 hi ha hb hf hm
    have e1 : i = n := by omega
    subst e1
    have e2 : (lt, lc) = (lf, cf) := hm
    obtain ⟨rfl, rfl⟩ := Prod.mk.inj e2
    refine z_iload (q := 12) rfl rfl rfl ?_
    refine z_aload_n (q := 13) rfl rfl rfl ?_
    refine z_getI (q := 16) rfl rfl rfl (Sh_k w) ?_
    rw [shP_g8]
    refine z_ic_ge (q := 19) rfl rfl (fun h16 => ?_) (fun h16 => ?_)
    · refine z_ret rfl rfl ?_
      exact ⟨rfl, rfl⟩
    · exact absurd (by rw [hn]; exact nI_le (Nat.le_refl _) (by omega)) h16
  | succ k ih =>
    intro i a b bc lt lc x0 x1 hi ha hb hf hm
    refine z_iload (q := 12) rfl rfl rfl ?_
    refine z_aload_n (q := 13) rfl rfl rfl ?_
    refine z_getI (q := 16) rfl rfl rfl (Sh_k w) ?_
    rw [shP_g8]
    refine z_ic_ge (q := 19) rfl rfl (fun h16 => ?_) (fun h16 => ?_)
    · rw [hn] at h16
      exact absurd h16 (nI_ge (by omega) (by omega))
    · refine z_iload_n (q := 20) rfl rfl rfl ?_
      refine z_if_lt (q := 23) rfl rfl (fun h20 => ?_) (fun h20 => ?_)
      · refine z_ret rfl rfl ?_
        have h9 : a = -1 := okv_q ha h20 (by omega)
        unfold twF at hm
        rw [if_pos h9] at hm
        obtain ⟨rfl, rfl⟩ := Prod.mk.inj hm
        exact ⟨rfl, rfl⟩
      · refine z_iload_n (q := 24) rfl rfl rfl ?_
        refine z_aload_n (q := 25) rfl rfl rfl ?_
        refine z_getI (q := 28) rfl rfl rfl (Sh_k w) ?_
        rw [shP_g8]
        refine z_ic_ge (q := 31) rfl rfl (fun h28 => ?_) (fun h28 => ?_)
        · rw [hn] at h28
          exact absurd h28 (okv_p ha (fun e => absurd h20 (by rw [e]; decide)) (by omega)).2
        · refine z_aload_n (q := 32) rfl rfl rfl ?_
          refine z_getR (q := 35) rfl rfl rfl (Sh_k w) (Sh_r1 w) ?_
          refine z_iload_n (q := 36) rfl rfl rfl ?_
          refine z_iald (q := 37) rfl rfl (Sh_a1 w) (okv_in ha (fun e => absurd h20 (by rw [e]; decide)) hN (by omega)) ?_
          rw [shP_a1]
          try rw [nI_clamp (by omega)]
          refine z_istore (q := 39) (L2 := [_, _, _, _, _, _, _, _]) rfl rfl rfl rfl ?_
          refine z_aload_n (q := 40) rfl rfl rfl ?_
          refine z_getR (q := 43) rfl rfl rfl (Sh_k w) (Sh_r2 w) ?_
          refine z_iload_n (q := 44) rfl rfl rfl ?_
          refine z_iald (q := 45) rfl rfl (Sh_a2 w) (okv_in ha (fun e => absurd h20 (by rw [e]; decide)) hN (by omega)) ?_
          rw [shP_a2]
          try rw [nI_clamp (by omega)]
          refine z_istore (q := 47) (L2 := [_, _, _, _, _, _, _, _]) rfl rfl rfl rfl ?_
          refine z_aload_n (q := 48) rfl rfl rfl ?_
          refine z_getR (q := 51) rfl rfl rfl (Sh_k w) (Sh_r1 w) ?_
          refine z_iload_n (q := 52) rfl rfl rfl ?_
          refine z_iload_n (q := 53) rfl rfl rfl ?_
          refine z_iast (q := 54) rfl rfl (Sh_a1 w) (okv_in ha (fun e => absurd h20 (by rw [e]; decide)) hN (by omega)) ?_
          rw [shP_w1]
          try rw [nI_clamp (by omega)]
          refine z_aload_n (q := 55) rfl rfl rfl ?_
          refine z_getR (q := 58) rfl rfl rfl (Sh_k w) (Sh_r2 w) ?_
          refine z_iload_n (q := 59) rfl rfl rfl ?_
          refine z_iload (q := 61) rfl rfl rfl ?_
          refine z_iast (q := 62) rfl rfl (Sh_a2 w) (okv_in ha (fun e => absurd h20 (by rw [e]; decide)) hN (by omega)) ?_
          rw [shP_w2]
          try rw [nI_clamp (by omega)]
          refine z_iload_n (q := 63) rfl rfl rfl ?_
          refine z_istore_n (q := 64) (L2 := [_, _, _, _, _, _, _, _]) rfl rfl rfl rfl ?_
          refine z_iload (q := 66) rfl rfl rfl ?_
          refine z_istore (q := 68) (L2 := [_, _, _, _, _, _, _, _]) rfl rfl rfl rfl ?_
          refine z_iload (q := 70) rfl rfl rfl ?_
          refine z_istore_n (q := 71) (L2 := [_, _, _, _, _, _, _, _]) rfl rfl rfl rfl ?_
          refine z_iinc (q := 74) (L2 := [_, _, _, _, _, _, _, _]) rfl rfl rfl rfl ?_
          refine z_goto rfl ?_
          rw [show nI i + Int32.ofInt 1 = nI (i + 1) from (nI_succ i).symm]
          have h9 : ¬ a = -1 := (fun e => absurd h20 (by rw [e]; decide))
          unfold twF at hm
          rw [if_neg h9] at hm
          exact ih (i + 1) _ _ _ _ _ _ _ (by omega) (okv_f hf ha h9 (by omega)) ha (okl_up hf hb) hm
theorem p_Sh_turnWay {sc : Option (Nat × Nat × (Nat → Int32))} {sa : Nat → Nat} {d : Nat} {M : mz_M} {z : Nat × Nat} {sh N : Nat} {s l t m p : Int32} {J : Nat → Int64} {lt lc mo mc : Nat → Int32} (w : g_Sh M.2.2 sh N) {n : Nat} (hn : m = nI n) (hN : n ≤ N) (hM : N ≤ 200) {j : Nat} (hj : j < n) (hf : okl lt n)  : zx sc sa (d + 1) 55 [.ref sh, .int (nI j)] (shP M sh s l t m p J lt lc mo mc) z z none (shP M sh s l t m p J (twF n (nI j) (-1) (-1) lt lc).1 (twF n (nI j) (-1) (-1) lt lc).2 mo mc) := by
  refine zxin ym_Sh_turnWay [.ref sh, .int (nI j), .retAddr 0, .retAddr 0, .retAddr 0, .retAddr 0, .retAddr 0, .retAddr 0] rfl rfl rfl rfl ?_
  refine z_iload_n (q := 1) rfl rfl rfl ?_
  refine z_istore_n (q := 2) (L2 := [_, _, _, _, _, _, _, _]) rfl rfl rfl rfl ?_
  refine z_iconst (q := 3) (v := -1) rfl rfl rfl ?_
  refine z_istore_n (q := 4) (L2 := [_, _, _, _, _, _, _, _]) rfl rfl rfl rfl ?_
  refine z_iconst (q := 5) (v := -1) rfl rfl rfl ?_
  refine z_istore (q := 7) (L2 := [_, _, _, _, _, _, _, _]) rfl rfl rfl rfl ?_
  refine z_iconst (q := 8) (v := 0) rfl rfl rfl ?_
  refine z_istore (q := 10) (L2 := [_, _, _, _, _, _, _, _]) rfl rfl rfl rfl ?_
  exact l_Sh_turnWay w hn hN hM n 0 _ _ _ _ _ _ _ (by omega) (Or.inr ⟨j, hj, rfl⟩) (Or.inl rfl) hf rfl
