theorem shP_c1 {M : mz_M} {sh : Nat} {s l t m p : Int32} {J : Nat → Int64} {lt lc mo mc : Nat → Int32} {g : Nat → Int32} : mz_cI (shP M sh s l t m p J lt lc mo mc) (sh + 2) g = shP M sh s l t m p J g lc mo mc := by
  unfold mz_cI shP
  refine Prod.ext ?_ rfl
  funext a
  by_cases h : a = sh + 2
  · subst h
    simp [va_up]
  · simp [va_up, h]
theorem shP_c2 {M : mz_M} {sh : Nat} {s l t m p : Int32} {J : Nat → Int64} {lt lc mo mc : Nat → Int32} {g : Nat → Int32} : mz_cI (shP M sh s l t m p J lt lc mo mc) (sh + 3) g = shP M sh s l t m p J lt g mo mc := by
  unfold mz_cI shP
  refine Prod.ext ?_ rfl
  funext a
  by_cases h : a = sh + 3
  · subst h
    simp [va_up]
  · simp [va_up, h]
theorem shP_c3 {M : mz_M} {sh : Nat} {s l t m p : Int32} {J : Nat → Int64} {lt lc mo mc : Nat → Int32} {g : Nat → Int32} : mz_cI (shP M sh s l t m p J lt lc mo mc) (sh + 4) g = shP M sh s l t m p J lt lc g mc := by
  unfold mz_cI shP
  refine Prod.ext ?_ rfl
  funext a
  by_cases h : a = sh + 4
  · subst h
    simp [va_up]
  · simp [va_up, h]
theorem shP_c4 {M : mz_M} {sh : Nat} {s l t m p : Int32} {J : Nat → Int64} {lt lc mo mc : Nat → Int32} {g : Nat → Int32} : mz_cI (shP M sh s l t m p J lt lc mo mc) (sh + 5) g = shP M sh s l t m p J lt lc mo g := by
  unfold mz_cI shP
  refine Prod.ext ?_ rfl
  funext a
  by_cases h : a = sh + 5
  · subst h
    simp [va_up]
  · simp [va_up, h]
theorem shP_c0 {M : mz_M} {sh : Nat} {s l t m p : Int32} {J : Nat → Int64} {lt lc mo mc : Nat → Int32} {g : Nat → Int64} : mz_cJ (shP M sh s l t m p J lt lc mo mc) (sh + 1) g = shP M sh s l t m p g lt lc mo mc := by
  unfold mz_cJ shP
  refine Prod.ext rfl (Prod.ext ?_ rfl)
  funext a
  by_cases h : a = sh + 1
  · subst h
    simp [va_up]
  · simp [va_up, h]
theorem p_Sh_become {sc : Option (Nat × Nat × (Nat → Int32))} {sa : Nat → Nat} {d : Nat} {M : mz_M} {z : Nat × Nat} {sh so : Nat} {s l t m p : Int32} {J : Nat → Int64} {lt lc mo mc : Nat → Int32} (w : g_Sh M.2.2 sh 40) (wo : g_Sh M.2.2 so 40) (hfar : so + 6 ≤ sh ∨ sh + 6 ≤ so) {n : Nat} (hn : M.1 so 8 = nI n) (hn40 : n ≤ 40) : zx sc sa (d + 2) 18 [.ref sh, .ref so] (shP M sh s l t m p J lt lc mo mc) z z none (shP M sh (M.1 so 5) (M.1 so 6) (M.1 so 7) (nI n) (M.1 so 9) (va_cpy (M.2.1 (so + 1)) J 0 0 n) (va_cpy (M.1 (so + 2)) lt 0 0 n) (va_cpy (M.1 (so + 3)) lc 0 0 n) (va_cpy (M.1 (so + 4)) mo 0 0 n) (va_cpy (M.1 (so + 5)) mc 0 0 n)) := by
  have far : so + 6 ≤ sh ∨ sh + 6 ≤ so := hfar
  have oth_g5 : ∀ {s l t m p : Int32} {J : Nat → Int64} {lt lc mo mc : Nat → Int32}, (shP M sh s l t m p J lt lc mo mc).1 so 5 = M.1 so 5 := fun {s l t m p J lt lc mo mc} => congrFun (shP_o (by omega) (by omega) (by omega) (by omega) (by omega)) 5
  have oth_g6 : ∀ {s l t m p : Int32} {J : Nat → Int64} {lt lc mo mc : Nat → Int32}, (shP M sh s l t m p J lt lc mo mc).1 so 6 = M.1 so 6 := fun {s l t m p J lt lc mo mc} => congrFun (shP_o (by omega) (by omega) (by omega) (by omega) (by omega)) 6
  have oth_g7 : ∀ {s l t m p : Int32} {J : Nat → Int64} {lt lc mo mc : Nat → Int32}, (shP M sh s l t m p J lt lc mo mc).1 so 7 = M.1 so 7 := fun {s l t m p J lt lc mo mc} => congrFun (shP_o (by omega) (by omega) (by omega) (by omega) (by omega)) 7
  have oth_g8 : ∀ {s l t m p : Int32} {J : Nat → Int64} {lt lc mo mc : Nat → Int32}, (shP M sh s l t m p J lt lc mo mc).1 so 8 = M.1 so 8 := fun {s l t m p J lt lc mo mc} => congrFun (shP_o (by omega) (by omega) (by omega) (by omega) (by omega)) 8
  have oth_g9 : ∀ {s l t m p : Int32} {J : Nat → Int64} {lt lc mo mc : Nat → Int32}, (shP M sh s l t m p J lt lc mo mc).1 so 9 = M.1 so 9 := fun {s l t m p J lt lc mo mc} => congrFun (shP_o (by omega) (by omega) (by omega) (by omega) (by omega)) 9
  have oth_a1 : ∀ {s l t m p : Int32} {J : Nat → Int64} {lt lc mo mc : Nat → Int32}, (shP M sh s l t m p J lt lc mo mc).1 (so + 2) = M.1 (so + 2) := fun {s l t m p J lt lc mo mc} => shP_o (by omega) (by omega) (by omega) (by omega) (by omega)
  have oth_a2 : ∀ {s l t m p : Int32} {J : Nat → Int64} {lt lc mo mc : Nat → Int32}, (shP M sh s l t m p J lt lc mo mc).1 (so + 3) = M.1 (so + 3) := fun {s l t m p J lt lc mo mc} => shP_o (by omega) (by omega) (by omega) (by omega) (by omega)
  have oth_a3 : ∀ {s l t m p : Int32} {J : Nat → Int64} {lt lc mo mc : Nat → Int32}, (shP M sh s l t m p J lt lc mo mc).1 (so + 4) = M.1 (so + 4) := fun {s l t m p J lt lc mo mc} => shP_o (by omega) (by omega) (by omega) (by omega) (by omega)
  have oth_a4 : ∀ {s l t m p : Int32} {J : Nat → Int64} {lt lc mo mc : Nat → Int32}, (shP M sh s l t m p J lt lc mo mc).1 (so + 5) = M.1 (so + 5) := fun {s l t m p J lt lc mo mc} => shP_o (by omega) (by omega) (by omega) (by omega) (by omega)
  have oth_a0 : ∀ {s l t m p : Int32} {J : Nat → Int64} {lt lc mo mc : Nat → Int32}, (shP M sh s l t m p J lt lc mo mc).2.1 (so + 1) = M.2.1 (so + 1) := fun {s l t m p J lt lc mo mc} => shP_oJ (by omega)
  refine zxin ym_Sh_become [.ref sh, .ref so, .retAddr 0] rfl rfl rfl rfl ?_
  refine z_aload_n (q := 1) rfl rfl rfl ?_
  refine z_getI (q := 4) rfl rfl rfl (Sh_k wo) ?_
  rw [oth_g8]
  refine z_aload_n (q := 5) rfl rfl rfl ?_
  refine z_getR (q := 8) rfl rfl rfl (Sh_k w) (Sh_r0 w) ?_
  refine z_alen (q := 9) rfl rfl (Sh_a0 w) rfl rfl ?_
  refine z_min (q := 12) rfl rfl (by omega) rfl ?_
  rw [hn, show (if nI 40 < nI n then nI 40 else nI n) = nI n from if_neg (nI_nlt hn40 (by omega))]
  refine z_istore_n (q := 13) (L2 := [_, _, _]) rfl rfl rfl rfl ?_
  refine z_aload_n (q := 14) rfl rfl rfl ?_
  refine z_getR (q := 17) rfl rfl rfl (Sh_k wo) (Sh_r0 wo) ?_
  refine z_iconst (q := 18) (v := 0) rfl rfl rfl ?_
  refine z_aload_n (q := 19) rfl rfl rfl ?_
  refine z_getR (q := 22) rfl rfl rfl (Sh_k w) (Sh_r0 w) ?_
  refine z_iconst (q := 23) (v := 0) rfl rfl rfl ?_
  refine z_iload_n (q := 24) rfl rfl rfl ?_
  refine z_cpl (q := 27) rfl rfl (by omega) rfl (Sh_a0 wo) (Sh_a0 w) (by rw [sb_cl0, nI_clamp (by omega)]; exact ⟨by decide, by decide, nI_pos (by omega), by omega, by omega⟩) ?_
  rw [shP_c0, oth_a0, shP_a0, sb_cl0, nI_clamp (by omega)]
  refine z_aload_n (q := 28) rfl rfl rfl ?_
  refine z_getR (q := 31) rfl rfl rfl (Sh_k wo) (Sh_r1 wo) ?_
  refine z_iconst (q := 32) (v := 0) rfl rfl rfl ?_
  refine z_aload_n (q := 33) rfl rfl rfl ?_
  refine z_getR (q := 36) rfl rfl rfl (Sh_k w) (Sh_r1 w) ?_
  refine z_iconst (q := 37) (v := 0) rfl rfl rfl ?_
  refine z_iload_n (q := 38) rfl rfl rfl ?_
  refine z_cpi (q := 41) rfl rfl (by omega) rfl (Sh_a1 wo) (Sh_a1 w) (by rw [sb_cl0, nI_clamp (by omega)]; exact ⟨by decide, by decide, nI_pos (by omega), by omega, by omega⟩) ?_
  rw [shP_c1, oth_a1, shP_a1, sb_cl0, nI_clamp (by omega)]
  refine z_aload_n (q := 42) rfl rfl rfl ?_
  refine z_getR (q := 45) rfl rfl rfl (Sh_k wo) (Sh_r2 wo) ?_
  refine z_iconst (q := 46) (v := 0) rfl rfl rfl ?_
  refine z_aload_n (q := 47) rfl rfl rfl ?_
  refine z_getR (q := 50) rfl rfl rfl (Sh_k w) (Sh_r2 w) ?_
  refine z_iconst (q := 51) (v := 0) rfl rfl rfl ?_
  refine z_iload_n (q := 52) rfl rfl rfl ?_
  refine z_cpi (q := 55) rfl rfl (by omega) rfl (Sh_a2 wo) (Sh_a2 w) (by rw [sb_cl0, nI_clamp (by omega)]; exact ⟨by decide, by decide, nI_pos (by omega), by omega, by omega⟩) ?_
  rw [shP_c2, oth_a2, shP_a2, sb_cl0, nI_clamp (by omega)]
  refine z_aload_n (q := 56) rfl rfl rfl ?_
  refine z_getR (q := 59) rfl rfl rfl (Sh_k wo) (Sh_r3 wo) ?_
  refine z_iconst (q := 60) (v := 0) rfl rfl rfl ?_
  refine z_aload_n (q := 61) rfl rfl rfl ?_
  refine z_getR (q := 64) rfl rfl rfl (Sh_k w) (Sh_r3 w) ?_
  refine z_iconst (q := 65) (v := 0) rfl rfl rfl ?_
  refine z_iload_n (q := 66) rfl rfl rfl ?_
  refine z_cpi (q := 69) rfl rfl (by omega) rfl (Sh_a3 wo) (Sh_a3 w) (by rw [sb_cl0, nI_clamp (by omega)]; exact ⟨by decide, by decide, nI_pos (by omega), by omega, by omega⟩) ?_
  rw [shP_c3, oth_a3, shP_a3, sb_cl0, nI_clamp (by omega)]
  refine z_aload_n (q := 70) rfl rfl rfl ?_
  refine z_getR (q := 73) rfl rfl rfl (Sh_k wo) (Sh_r4 wo) ?_
  refine z_iconst (q := 74) (v := 0) rfl rfl rfl ?_
  refine z_aload_n (q := 75) rfl rfl rfl ?_
  refine z_getR (q := 78) rfl rfl rfl (Sh_k w) (Sh_r4 w) ?_
  refine z_iconst (q := 79) (v := 0) rfl rfl rfl ?_
  refine z_iload_n (q := 80) rfl rfl rfl ?_
  refine z_cpi (q := 83) rfl rfl (by omega) rfl (Sh_a4 wo) (Sh_a4 w) (by rw [sb_cl0, nI_clamp (by omega)]; exact ⟨by decide, by decide, nI_pos (by omega), by omega, by omega⟩) ?_
  rw [shP_c4, oth_a4, shP_a4, sb_cl0, nI_clamp (by omega)]
  refine z_aload_n (q := 84) rfl rfl rfl ?_
  refine z_aload_n (q := 85) rfl rfl rfl ?_
  refine z_getI (q := 88) rfl rfl rfl (Sh_k wo) ?_
  rw [oth_g5]
  refine z_putI (q := 91) rfl rfl rfl (by decide) rfl rfl (Sh_k w) ?_
  rw [shP_u5]
  refine z_aload_n (q := 92) rfl rfl rfl ?_
  refine z_aload_n (q := 93) rfl rfl rfl ?_
  refine z_getI (q := 96) rfl rfl rfl (Sh_k wo) ?_
  rw [oth_g6]
  refine z_putI (q := 99) rfl rfl rfl (by decide) rfl rfl (Sh_k w) ?_
  rw [shP_u6]
  refine z_aload_n (q := 100) rfl rfl rfl ?_
  refine z_aload_n (q := 101) rfl rfl rfl ?_
  refine z_getI (q := 104) rfl rfl rfl (Sh_k wo) ?_
  rw [oth_g7]
  refine z_putI (q := 107) rfl rfl rfl (by decide) rfl rfl (Sh_k w) ?_
  rw [shP_u7]
  refine z_aload_n (q := 108) rfl rfl rfl ?_
  refine z_iload_n (q := 109) rfl rfl rfl ?_
  refine z_putI (q := 112) rfl rfl rfl (by decide) rfl rfl (Sh_k w) ?_
  rw [shP_u8]
  refine z_aload_n (q := 113) rfl rfl rfl ?_
  refine z_aload_n (q := 114) rfl rfl rfl ?_
  refine z_getI (q := 117) rfl rfl rfl (Sh_k wo) ?_
  rw [oth_g9]
  refine z_putI (q := 120) rfl rfl rfl (by decide) rfl rfl (Sh_k w) ?_
  rw [shP_u9]
  refine z_ret rfl rfl ?_
  exact ⟨rfl, rfl⟩
def fgQ (q : sQ) : sQ := (0, q.2.1, q.2.2.1, q.2.2.2.1, q.2.2.2.2.1, q.2.2.2.2.2.1, 0)
theorem q_St_shForget {sc : Option (Nat × Nat × (Nat → Int32))} {sa : Nat → Nat} {d : Nat} {M : mz_M} {z : Nat × Nat} {st : Nat} {pr ln td de : Int32} {pa ks os ts hs cs : Nat → Int32} {s l t : Int32} {q : sQ} (w : g_St M.2.2 st) : zx sc sa (d + 1) 16 [.ref (st + 1)] (stQ M st pr ln td de pa ks os ts hs cs s l t q) z z none (stQ M st pr ln td de pa ks os ts hs cs 0 0 0 (fgQ q)) := p_Sh_forget (M := stB M st pr ln td de pa ks os ts hs cs) (St_w0 w)
def zr (k : Nat) (f : Nat → Int32) : Nat → Int32 := fun j => if j < k then 0 else f j
theorem zr_s {k : Nat} {f : Nat → Int32} : va_up (zr k f) k 0 = zr (k + 1) f := by
  funext j
  unfold va_up zr
  by_cases h : j = k
  · subst h
    simp
  · by_cases h2 : j < k
    · rw [if_neg h, if_pos h2, if_pos (by omega)]
    · rw [if_neg h, if_neg h2, if_neg (by omega)]
theorem zr_0 {f : Nat → Int32} : zr 0 f = f := by
  funext j
  simp [zr]
theorem l_St_forget {sc : Option (Nat × Nat × (Nat → Int32))} {sa : Nat → Nat} {d : Nat} {M : mz_M} {z : Nat × Nat} {st : Nat} {pr ln td de : Int32} {pa ks os ts hs cs : Nat → Int32} {s l t : Int32} {q : sQ} (w : g_St M.2.2 st)  : ∀ (k : Nat) (i : Nat), i + k = 12 → zw sc sa d ym_St_forget z (fun r' M' => r' = none ∧ M' = (stQ M st 0 0 0 0 (zr 12 pa) ks os ts hs cs s l t q)) 9 [.ref st, .int (nI i)] [] (stQ M st pr ln td de (zr i pa) ks os ts hs cs s l t q) z := by
  intro k
  induction k with
  | zero =>
    intro i hi
    have e1 : i = 12 := by omega
    subst e1
    refine z_iload_n (q := 10) rfl rfl rfl ?_
    refine z_aload_n (q := 11) rfl rfl rfl ?_
    refine z_getR (q := 14) rfl rfl rfl (St_k w) (St_r1 w) ?_
    refine z_alen (q := 15) rfl rfl (St_a1 w) rfl rfl ?_
    refine z_ic_ge (q := 18) rfl rfl (fun h15 => ?_) (fun h15 => ?_)
    · refine z_aload_n (q := 32) rfl rfl rfl ?_
      refine z_iconst (q := 33) (v := 0) rfl rfl rfl ?_
      refine z_putI (q := 36) rfl rfl rfl (by decide) rfl rfl (St_k w) ?_
      rw [stQ_u7]
      refine z_aload_n (q := 37) rfl rfl rfl ?_
      refine z_iconst (q := 38) (v := 0) rfl rfl rfl ?_
      refine z_putI (q := 41) rfl rfl rfl (by decide) rfl rfl (St_k w) ?_
      rw [stQ_u8]
      refine z_aload_n (q := 42) rfl rfl rfl ?_
      refine z_iconst (q := 43) (v := 0) rfl rfl rfl ?_
      refine z_putI (q := 46) rfl rfl rfl (by decide) rfl rfl (St_k w) ?_
      rw [stQ_u9]
      refine z_aload_n (q := 47) rfl rfl rfl ?_
      refine z_iconst (q := 48) (v := 0) rfl rfl rfl ?_
      refine z_putI (q := 51) rfl rfl rfl (by decide) rfl rfl (St_k w) ?_
      rw [stQ_u10]
      refine z_ret rfl rfl ?_
      exact ⟨rfl, rfl⟩
    · exact absurd (nI_le (Nat.le_refl 12) (by omega)) h15
  | succ k ih =>
    intro i hi
    refine z_iload_n (q := 10) rfl rfl rfl ?_
    refine z_aload_n (q := 11) rfl rfl rfl ?_
    refine z_getR (q := 14) rfl rfl rfl (St_k w) (St_r1 w) ?_
    refine z_alen (q := 15) rfl rfl (St_a1 w) rfl rfl ?_
    refine z_ic_ge (q := 18) rfl rfl (fun h15 => ?_) (fun h15 => ?_)
    · exact absurd h15 (nI_ge (b := 12) (by omega) (by omega))
    · refine z_aload_n (q := 19) rfl rfl rfl ?_
      refine z_getR (q := 22) rfl rfl rfl (St_k w) (St_r1 w) ?_
      refine z_iload_n (q := 23) rfl rfl rfl ?_
      refine z_iconst (q := 24) (v := 0) rfl rfl rfl ?_
      refine z_iast (q := 25) rfl rfl (St_a1 w) (by first | assumption | exact vp_in_nI (by omega) (by omega)) ?_
      rw [stQ_w1]
      try rw [nI_clamp (by omega)]
      refine z_iinc (q := 28) (L2 := [_, _]) rfl rfl rfl rfl ?_
      refine z_goto rfl ?_
      rw [show nI i + Int32.ofInt 1 = nI (i + 1) from (nI_succ i).symm]
      rw [zr_s]
      exact ih (i + 1) (by omega)
theorem q_St_forget {sc : Option (Nat × Nat × (Nat → Int32))} {sa : Nat → Nat} {d : Nat} {M : mz_M} {z : Nat × Nat} {st : Nat} {pr ln td de : Int32} {pa ks os ts hs cs : Nat → Int32} {s l t : Int32} {q : sQ} (w : g_St M.2.2 st)  : zx sc sa (d + 2) 67 [.ref st] (stQ M st pr ln td de pa ks os ts hs cs s l t q) z z none (stQ M st 0 0 0 0 (zr 12 pa) ks os ts hs cs 0 0 0 (fgQ q)) := by
  refine zxin ym_St_forget [.ref st, .retAddr 0] rfl rfl rfl rfl ?_
  refine z_aload_n (q := 1) rfl rfl rfl ?_
  refine z_getR (q := 4) rfl rfl rfl (St_k w) (St_r0 w) ?_
  refine z_cv0v (q := 7) rfl rfl rfl (Sh_k (St_w0 w)) (q_St_shForget w) ?_
  refine z_iconst (q := 8) (v := 0) rfl rfl rfl ?_
  refine z_istore_n (q := 9) (L2 := [_, _]) rfl rfl rfl rfl ?_
  have e9 := l_St_forget (sc := sc) (sa := sa) (d := d + 1) (z := z) (M := M) (pr := pr) (ln := ln) (td := td) (de := de) (pa := pa) (ks := ks) (os := os) (ts := ts) (hs := hs) (cs := cs) (s := 0) (l := 0) (t := 0) (q := fgQ q) w 12 0 (by omega)
  rw [zr_0] at e9
  exact e9
