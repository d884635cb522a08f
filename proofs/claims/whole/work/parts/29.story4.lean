theorem stQ_c1 {M : mz_M} {st : Nat} {pr ln td de : Int32} {pa ks os ts hs cs : Nat → Int32} {s l t : Int32} {q : sQ} {g : Nat → Int32} : mz_cI (stQ M st pr ln td de pa ks os ts hs cs s l t q) (st + 7) g = stQ M st pr ln td de g ks os ts hs cs s l t q := by
  unfold mz_cI stQ shQ shP
  refine Prod.ext ?_ rfl
  funext a
  by_cases h : a = st + 7
  · subst h
    simp [va_up, stB]
  · by_cases h1 : a = st + 1
    · subst h1
      funext j
      rcases j with _ | _ | _ | _ | _ | _ | _ | _ | _ | _ | j <;> simp [va_up, shF, stB]
    · simp [va_up, h, h1, stB]
theorem stQ_c2 {M : mz_M} {st : Nat} {pr ln td de : Int32} {pa ks os ts hs cs : Nat → Int32} {s l t : Int32} {q : sQ} {g : Nat → Int32} : mz_cI (stQ M st pr ln td de pa ks os ts hs cs s l t q) (st + 8) g = stQ M st pr ln td de pa g os ts hs cs s l t q := by
  unfold mz_cI stQ shQ shP
  refine Prod.ext ?_ rfl
  funext a
  by_cases h : a = st + 8
  · subst h
    simp [va_up, stB]
  · by_cases h1 : a = st + 1
    · subst h1
      funext j
      rcases j with _ | _ | _ | _ | _ | _ | _ | _ | _ | _ | j <;> simp [va_up, shF, stB]
    · simp [va_up, h, h1, stB]
theorem stQ_c3 {M : mz_M} {st : Nat} {pr ln td de : Int32} {pa ks os ts hs cs : Nat → Int32} {s l t : Int32} {q : sQ} {g : Nat → Int32} : mz_cI (stQ M st pr ln td de pa ks os ts hs cs s l t q) (st + 9) g = stQ M st pr ln td de pa ks g ts hs cs s l t q := by
  unfold mz_cI stQ shQ shP
  refine Prod.ext ?_ rfl
  funext a
  by_cases h : a = st + 9
  · subst h
    simp [va_up, stB]
  · by_cases h1 : a = st + 1
    · subst h1
      funext j
      rcases j with _ | _ | _ | _ | _ | _ | _ | _ | _ | _ | j <;> simp [va_up, shF, stB]
    · simp [va_up, h, h1, stB]
theorem stQ_c4 {M : mz_M} {st : Nat} {pr ln td de : Int32} {pa ks os ts hs cs : Nat → Int32} {s l t : Int32} {q : sQ} {g : Nat → Int32} : mz_cI (stQ M st pr ln td de pa ks os ts hs cs s l t q) (st + 10) g = stQ M st pr ln td de pa ks os g hs cs s l t q := by
  unfold mz_cI stQ shQ shP
  refine Prod.ext ?_ rfl
  funext a
  by_cases h : a = st + 10
  · subst h
    simp [va_up, stB]
  · by_cases h1 : a = st + 1
    · subst h1
      funext j
      rcases j with _ | _ | _ | _ | _ | _ | _ | _ | _ | _ | j <;> simp [va_up, shF, stB]
    · simp [va_up, h, h1, stB]
theorem stQ_c5 {M : mz_M} {st : Nat} {pr ln td de : Int32} {pa ks os ts hs cs : Nat → Int32} {s l t : Int32} {q : sQ} {g : Nat → Int32} : mz_cI (stQ M st pr ln td de pa ks os ts hs cs s l t q) (st + 11) g = stQ M st pr ln td de pa ks os ts g cs s l t q := by
  unfold mz_cI stQ shQ shP
  refine Prod.ext ?_ rfl
  funext a
  by_cases h : a = st + 11
  · subst h
    simp [va_up, stB]
  · by_cases h1 : a = st + 1
    · subst h1
      funext j
      rcases j with _ | _ | _ | _ | _ | _ | _ | _ | _ | _ | j <;> simp [va_up, shF, stB]
    · simp [va_up, h, h1, stB]
theorem stQ_c6 {M : mz_M} {st : Nat} {pr ln td de : Int32} {pa ks os ts hs cs : Nat → Int32} {s l t : Int32} {q : sQ} {g : Nat → Int32} : mz_cI (stQ M st pr ln td de pa ks os ts hs cs s l t q) (st + 12) g = stQ M st pr ln td de pa ks os ts hs g s l t q := by
  unfold mz_cI stQ shQ shP
  refine Prod.ext ?_ rfl
  funext a
  by_cases h : a = st + 12
  · subst h
    simp [va_up, stB]
  · by_cases h1 : a = st + 1
    · subst h1
      funext j
      rcases j with _ | _ | _ | _ | _ | _ | _ | _ | _ | _ | j <;> simp [va_up, shF, stB]
    · simp [va_up, h, h1, stB]
theorem stB_o {M : mz_M} {st : Nat} {pr ln td de : Int32} {pa ks os ts hs cs : Nat → Int32} {a : Nat} (h : a < st ∨ st + 13 ≤ a) : (stB M st pr ln td de pa ks os ts hs cs).1 a = M.1 a := by
  have h0 : a ≠ st := by omega
  have h1 : a ≠ st + 7 := by omega
  have h2 : a ≠ st + 8 := by omega
  have h3 : a ≠ st + 9 := by omega
  have h4 : a ≠ st + 10 := by omega
  have h5 : a ≠ st + 11 := by omega
  have h6 : a ≠ st + 12 := by omega
  simp [stB, h0, h1, h2, h3, h4, h5, h6]
theorem stQ_o {M : mz_M} {st : Nat} {pr ln td de : Int32} {pa ks os ts hs cs : Nat → Int32} {s l t : Int32} {q : sQ} {a : Nat} (h : a < st ∨ st + 13 ≤ a) : (stQ M st pr ln td de pa ks os ts hs cs s l t q).1 a = M.1 a := by
  unfold stQ shQ
  rw [shP_o (by omega) (by omega) (by omega) (by omega) (by omega)]
  exact stB_o h
def bcQ (M : mz_M) (so n : Nat) (q : sQ) : sQ := (n, va_cpy (M.2.1 (so + 1)) q.2.1 0 0 n, va_cpy (M.1 (so + 2)) q.2.2.1 0 0 n, va_cpy (M.1 (so + 3)) q.2.2.2.1 0 0 n, va_cpy (M.1 (so + 4)) q.2.2.2.2.1 0 0 n, va_cpy (M.1 (so + 5)) q.2.2.2.2.2.1 0 0 n, M.1 so 9)
theorem q_St_shBecome {sc : Option (Nat × Nat × (Nat → Int32))} {sa : Nat → Nat} {d : Nat} {M : mz_M} {z : Nat × Nat} {st : Nat} {pr ln td de : Int32} {pa ks os ts hs cs : Nat → Int32} {s l t : Int32} {q : sQ} (w : g_St M.2.2 st) {so : Nat} (wo : g_St M.2.2 so) (hfar : so + 13 ≤ st ∨ st + 13 ≤ so) {n : Nat} (hn : M.1 (so + 1) 8 = nI n) (hn40 : n ≤ 40) : zx sc sa (d + 2) 18 [.ref (st + 1), .ref (so + 1)] (stQ M st pr ln td de pa ks os ts hs cs s l t q) z z none (stQ M st pr ln td de pa ks os ts hs cs (M.1 (so + 1) 5) (M.1 (so + 1) 6) (M.1 (so + 1) 7) (bcQ M (so + 1) n q)) := by
  have o1 : ∀ k, k < 13 → (stB M st pr ln td de pa ks os ts hs cs).1 (so + k) = M.1 (so + k) := fun k hk => stB_o (by omega)
  have h := p_Sh_become (sc := sc) (sa := sa) (d := d) (z := z) (M := stB M st pr ln td de pa ks os ts hs cs) (sh := st + 1) (so := so + 1) (s := s) (l := l) (t := t) (m := nI q.1) (p := q.2.2.2.2.2.2) (J := q.2.1) (lt := q.2.2.1) (lc := q.2.2.2.1) (mo := q.2.2.2.2.1) (mc := q.2.2.2.2.2.1) (St_w0 w) (St_w0 wo) (by omega) (n := n) (by rw [o1 1 (by omega)]; exact hn) hn40
  rw [o1 1 (by omega), show so + 1 + 2 = so + 3 from rfl, show so + 1 + 3 = so + 4 from rfl, show so + 1 + 4 = so + 5 from rfl, show so + 1 + 5 = so + 6 from rfl, o1 3 (by omega), o1 4 (by omega), o1 5 (by omega), o1 6 (by omega)] at h
  exact h
theorem q_St_become {sc : Option (Nat × Nat × (Nat → Int32))} {sa : Nat → Nat} {d : Nat} {M : mz_M} {z : Nat × Nat} {st : Nat} {pr ln td de : Int32} {pa ks os ts hs cs : Nat → Int32} {s l t : Int32} {q : sQ} (w : g_St M.2.2 st) {so : Nat} (wo : g_St M.2.2 so) (hfar : so + 13 ≤ st ∨ st + 13 ≤ so) {n : Nat} (hn : M.1 (so + 1) 8 = nI n) (hn40 : n ≤ 40) : zx sc sa (d + 3) 68 [.ref st, .ref so] (stQ M st pr ln td de pa ks os ts hs cs s l t q) z z none (stQ M st (M.1 so 7) (M.1 so 8) (M.1 so 9) (M.1 so 10) (va_cpy (M.1 (so + 7)) pa 0 0 12) (va_cpy (M.1 (so + 8)) ks 0 0 60) (va_cpy (M.1 (so + 9)) os 0 0 60) (va_cpy (M.1 (so + 10)) ts 0 0 60) (va_cpy (M.1 (so + 11)) hs 0 0 60) (va_cpy (M.1 (so + 12)) cs 0 0 60) (M.1 (so + 1) 5) (M.1 (so + 1) 6) (M.1 (so + 1) 7) (bcQ M (so + 1) n q)) := by
  have oth_g7 : ∀ {pr ln td de : Int32} {pa ks os ts hs cs : Nat → Int32} {s l t : Int32} {q : sQ}, (stQ M st pr ln td de pa ks os ts hs cs s l t q).1 so 7 = M.1 so 7 := fun {pr ln td de pa ks os ts hs cs s l t q} => congrFun (stQ_o (by omega)) 7
  have oth_g8 : ∀ {pr ln td de : Int32} {pa ks os ts hs cs : Nat → Int32} {s l t : Int32} {q : sQ}, (stQ M st pr ln td de pa ks os ts hs cs s l t q).1 so 8 = M.1 so 8 := fun {pr ln td de pa ks os ts hs cs s l t q} => congrFun (stQ_o (by omega)) 8
  have oth_g9 : ∀ {pr ln td de : Int32} {pa ks os ts hs cs : Nat → Int32} {s l t : Int32} {q : sQ}, (stQ M st pr ln td de pa ks os ts hs cs s l t q).1 so 9 = M.1 so 9 := fun {pr ln td de pa ks os ts hs cs s l t q} => congrFun (stQ_o (by omega)) 9
  have oth_g10 : ∀ {pr ln td de : Int32} {pa ks os ts hs cs : Nat → Int32} {s l t : Int32} {q : sQ}, (stQ M st pr ln td de pa ks os ts hs cs s l t q).1 so 10 = M.1 so 10 := fun {pr ln td de pa ks os ts hs cs s l t q} => congrFun (stQ_o (by omega)) 10
  have oth_a1 : ∀ {pr ln td de : Int32} {pa ks os ts hs cs : Nat → Int32} {s l t : Int32} {q : sQ}, (stQ M st pr ln td de pa ks os ts hs cs s l t q).1 (so + 7) = M.1 (so + 7) := fun {pr ln td de pa ks os ts hs cs s l t q} => stQ_o (by omega)
  have oth_a2 : ∀ {pr ln td de : Int32} {pa ks os ts hs cs : Nat → Int32} {s l t : Int32} {q : sQ}, (stQ M st pr ln td de pa ks os ts hs cs s l t q).1 (so + 8) = M.1 (so + 8) := fun {pr ln td de pa ks os ts hs cs s l t q} => stQ_o (by omega)
  have oth_a3 : ∀ {pr ln td de : Int32} {pa ks os ts hs cs : Nat → Int32} {s l t : Int32} {q : sQ}, (stQ M st pr ln td de pa ks os ts hs cs s l t q).1 (so + 9) = M.1 (so + 9) := fun {pr ln td de pa ks os ts hs cs s l t q} => stQ_o (by omega)
  have oth_a4 : ∀ {pr ln td de : Int32} {pa ks os ts hs cs : Nat → Int32} {s l t : Int32} {q : sQ}, (stQ M st pr ln td de pa ks os ts hs cs s l t q).1 (so + 10) = M.1 (so + 10) := fun {pr ln td de pa ks os ts hs cs s l t q} => stQ_o (by omega)
  have oth_a5 : ∀ {pr ln td de : Int32} {pa ks os ts hs cs : Nat → Int32} {s l t : Int32} {q : sQ}, (stQ M st pr ln td de pa ks os ts hs cs s l t q).1 (so + 11) = M.1 (so + 11) := fun {pr ln td de pa ks os ts hs cs s l t q} => stQ_o (by omega)
  have oth_a6 : ∀ {pr ln td de : Int32} {pa ks os ts hs cs : Nat → Int32} {s l t : Int32} {q : sQ}, (stQ M st pr ln td de pa ks os ts hs cs s l t q).1 (so + 12) = M.1 (so + 12) := fun {pr ln td de pa ks os ts hs cs s l t q} => stQ_o (by omega)
  refine zxin ym_St_become [.ref st, .ref so] rfl rfl rfl rfl ?_
  refine z_aload_n (q := 1) rfl rfl rfl ?_
  refine z_getR (q := 4) rfl rfl rfl (St_k w) (St_r0 w) ?_
  refine z_aload_n (q := 5) rfl rfl rfl ?_
  refine z_getR (q := 8) rfl rfl rfl (St_k wo) (St_r0 wo) ?_
  refine z_cv1v (q := 11) rfl rfl rfl (Sh_k (St_w0 w)) (q_St_shBecome w wo hfar hn hn40) ?_
  refine z_aload_n (q := 12) rfl rfl rfl ?_
  refine z_getR (q := 15) rfl rfl rfl (St_k wo) (St_r1 wo) ?_
  refine z_iconst (q := 16) (v := 0) rfl rfl rfl ?_
  refine z_aload_n (q := 17) rfl rfl rfl ?_
  refine z_getR (q := 20) rfl rfl rfl (St_k w) (St_r1 w) ?_
  refine z_iconst (q := 21) (v := 0) rfl rfl rfl ?_
  refine z_aload_n (q := 22) rfl rfl rfl ?_
  refine z_getR (q := 25) rfl rfl rfl (St_k w) (St_r1 w) ?_
  refine z_alen (q := 26) rfl rfl (St_a1 w) rfl rfl ?_
  refine z_cpi (q := 29) rfl rfl (by omega) rfl (St_a1 wo) (St_a1 w) (by rw [sb_cl0, nI_clamp (by omega)]; exact ⟨by decide, by decide, nI_pos (by omega), by omega, by omega⟩) ?_
  rw [stQ_c1, oth_a1, stQ_a1, sb_cl0, nI_clamp (by omega)]
  refine z_aload_n (q := 30) rfl rfl rfl ?_
  refine z_getR (q := 33) rfl rfl rfl (St_k wo) (St_r2 wo) ?_
  refine z_iconst (q := 34) (v := 0) rfl rfl rfl ?_
  refine z_aload_n (q := 35) rfl rfl rfl ?_
  refine z_getR (q := 38) rfl rfl rfl (St_k w) (St_r2 w) ?_
  refine z_iconst (q := 39) (v := 0) rfl rfl rfl ?_
  refine z_aload_n (q := 40) rfl rfl rfl ?_
  refine z_getR (q := 43) rfl rfl rfl (St_k w) (St_r2 w) ?_
  refine z_alen (q := 44) rfl rfl (St_a2 w) rfl rfl ?_
  refine z_cpi (q := 47) rfl rfl (by omega) rfl (St_a2 wo) (St_a2 w) (by rw [sb_cl0, nI_clamp (by omega)]; exact ⟨by decide, by decide, nI_pos (by omega), by omega, by omega⟩) ?_
  rw [stQ_c2, oth_a2, stQ_a2, sb_cl0, nI_clamp (by omega)]
  refine z_aload_n (q := 48) rfl rfl rfl ?_
  refine z_getR (q := 51) rfl rfl rfl (St_k wo) (St_r3 wo) ?_
  refine z_iconst (q := 52) (v := 0) rfl rfl rfl ?_
  refine z_aload_n (q := 53) rfl rfl rfl ?_
  refine z_getR (q := 56) rfl rfl rfl (St_k w) (St_r3 w) ?_
  refine z_iconst (q := 57) (v := 0) rfl rfl rfl ?_
  refine z_aload_n (q := 58) rfl rfl rfl ?_
  refine z_getR (q := 61) rfl rfl rfl (St_k w) (St_r3 w) ?_
  refine z_alen (q := 62) rfl rfl (St_a3 w) rfl rfl ?_
  refine z_cpi (q := 65) rfl rfl (by omega) rfl (St_a3 wo) (St_a3 w) (by rw [sb_cl0, nI_clamp (by omega)]; exact ⟨by decide, by decide, nI_pos (by omega), by omega, by omega⟩) ?_
  rw [stQ_c3, oth_a3, stQ_a3, sb_cl0, nI_clamp (by omega)]
  refine z_aload_n (q := 66) rfl rfl rfl ?_
  refine z_getR (q := 69) rfl rfl rfl (St_k wo) (St_r4 wo) ?_
  refine z_iconst (q := 70) (v := 0) rfl rfl rfl ?_
  refine z_aload_n (q := 71) rfl rfl rfl ?_
  refine z_getR (q := 74) rfl rfl rfl (St_k w) (St_r4 w) ?_
  refine z_iconst (q := 75) (v := 0) rfl rfl rfl ?_
  refine z_aload_n (q := 76) rfl rfl rfl ?_
  refine z_getR (q := 79) rfl rfl rfl (St_k w) (St_r4 w) ?_
  refine z_alen (q := 80) rfl rfl (St_a4 w) rfl rfl ?_
  refine z_cpi (q := 83) rfl rfl (by omega) rfl (St_a4 wo) (St_a4 w) (by rw [sb_cl0, nI_clamp (by omega)]; exact ⟨by decide, by decide, nI_pos (by omega), by omega, by omega⟩) ?_
  rw [stQ_c4, oth_a4, stQ_a4, sb_cl0, nI_clamp (by omega)]
  refine z_aload_n (q := 84) rfl rfl rfl ?_
  refine z_getR (q := 87) rfl rfl rfl (St_k wo) (St_r5 wo) ?_
  refine z_iconst (q := 88) (v := 0) rfl rfl rfl ?_
  refine z_aload_n (q := 89) rfl rfl rfl ?_
  refine z_getR (q := 92) rfl rfl rfl (St_k w) (St_r5 w) ?_
  refine z_iconst (q := 93) (v := 0) rfl rfl rfl ?_
  refine z_aload_n (q := 94) rfl rfl rfl ?_
  refine z_getR (q := 97) rfl rfl rfl (St_k w) (St_r5 w) ?_
  refine z_alen (q := 98) rfl rfl (St_a5 w) rfl rfl ?_
  refine z_cpi (q := 101) rfl rfl (by omega) rfl (St_a5 wo) (St_a5 w) (by rw [sb_cl0, nI_clamp (by omega)]; exact ⟨by decide, by decide, nI_pos (by omega), by omega, by omega⟩) ?_
  rw [stQ_c5, oth_a5, stQ_a5, sb_cl0, nI_clamp (by omega)]
  refine z_aload_n (q := 102) rfl rfl rfl ?_
  refine z_getR (q := 105) rfl rfl rfl (St_k wo) (St_r6 wo) ?_
  refine z_iconst (q := 106) (v := 0) rfl rfl rfl ?_
  refine z_aload_n (q := 107) rfl rfl rfl ?_
  refine z_getR (q := 110) rfl rfl rfl (St_k w) (St_r6 w) ?_
  refine z_iconst (q := 111) (v := 0) rfl rfl rfl ?_
  refine z_aload_n (q := 112) rfl rfl rfl ?_
  refine z_getR (q := 115) rfl rfl rfl (St_k w) (St_r6 w) ?_
  refine z_alen (q := 116) rfl rfl (St_a6 w) rfl rfl ?_
  refine z_cpi (q := 119) rfl rfl (by omega) rfl (St_a6 wo) (St_a6 w) (by rw [sb_cl0, nI_clamp (by omega)]; exact ⟨by decide, by decide, nI_pos (by omega), by omega, by omega⟩) ?_
  rw [stQ_c6, oth_a6, stQ_a6, sb_cl0, nI_clamp (by omega)]
  refine z_aload_n (q := 120) rfl rfl rfl ?_
  refine z_aload_n (q := 121) rfl rfl rfl ?_
  refine z_getI (q := 124) rfl rfl rfl (St_k wo) ?_
  rw [oth_g7]
  refine z_putI (q := 127) rfl rfl rfl (by decide) rfl rfl (St_k w) ?_
  rw [stQ_u7]
  refine z_aload_n (q := 128) rfl rfl rfl ?_
  refine z_aload_n (q := 129) rfl rfl rfl ?_
  refine z_getI (q := 132) rfl rfl rfl (St_k wo) ?_
  rw [oth_g8]
  refine z_putI (q := 135) rfl rfl rfl (by decide) rfl rfl (St_k w) ?_
  rw [stQ_u8]
  refine z_aload_n (q := 136) rfl rfl rfl ?_
  refine z_aload_n (q := 137) rfl rfl rfl ?_
  refine z_getI (q := 140) rfl rfl rfl (St_k wo) ?_
  rw [oth_g9]
  refine z_putI (q := 143) rfl rfl rfl (by decide) rfl rfl (St_k w) ?_
  rw [stQ_u9]
  refine z_aload_n (q := 144) rfl rfl rfl ?_
  refine z_aload_n (q := 145) rfl rfl rfl ?_
  refine z_getI (q := 148) rfl rfl rfl (St_k wo) ?_
  rw [oth_g10]
  refine z_putI (q := 151) rfl rfl rfl (by decide) rfl rfl (St_k w) ?_
  rw [stQ_u10]
  refine z_ret rfl rfl ?_
  exact ⟨rfl, rfl⟩
theorem l_St_stepsOnT {sc : Option (Nat × Nat × (Nat → Int32))} {sa : Nat → Nat} {d : Nat} {M : mz_M} {z : Nat × Nat} {st so : Nat} {D : Nat} {s l t : Int32} (w : g_St M.2.2 st) (wo : g_Sh M.2.2 so 40) (hfar : so + 6 ≤ st ∨ st + 13 ≤ so) (hDe : M.1 st 10 = nI D) (hD : D ≤ 60) {c : Nat} (hc : s = nI c) (hC : c ≤ 12) {K A B E : Nat → Nat} (hd : ∀ i, i < D → M.1 (st + 8) i = nI (K i) ∧ M.1 (st + 9) i = nI (A i) ∧ M.1 (st + 10) i = nI (B i) ∧ M.1 (st + 11) i = nI (E i)) {x2 x3 sk : Int32} {q0 : sQ} (hv : plV s l t c 40 K A B E sk q0 D) : ∀ (k : Nat) (i : Nat), i + k = D → zw sc sa (d + 5) ym_St_stepsOn z (fun r' M' => r' = some (.int (fo (plG s l t c K A B E sk) q0 D).2.2.2.2.2.2) ∧ M' = (shQ M so s l t (fo (plG s l t c K A B E sk) q0 D))) 27 [.ref st, .ref so, .int x2, .int x3, .int sk, .int (nI i)] [] (shQ M so s l t (fo (plG s l t c K A B E sk) q0 i)) z := by
  intro k
  induction k with
  | zero =>
    intro i hi
    have far_g10 : ∀ q, (shQ M so s l t q).1 st 10 = nI D := fun q => (congrFun (shP_o (by omega) (by omega) (by omega) (by omega) (by omega)) 10).trans hDe
    have far_a2 : ∀ q, (shQ M so s l t q).1 (st + 8) = M.1 (st + 8) := fun q => shP_o (by omega) (by omega) (by omega) (by omega) (by omega)
    have far_a3 : ∀ q, (shQ M so s l t q).1 (st + 9) = M.1 (st + 9) := fun q => shP_o (by omega) (by omega) (by omega) (by omega) (by omega)
    have far_a4 : ∀ q, (shQ M so s l t q).1 (st + 10) = M.1 (st + 10) := fun q => shP_o (by omega) (by omega) (by omega) (by omega) (by omega)
    have far_a5 : ∀ q, (shQ M so s l t q).1 (st + 11) = M.1 (st + 11) := fun q => shP_o (by omega) (by omega) (by omega) (by omega) (by omega)
    have own_g9 : ∀ q, (shQ M so s l t q).1 so 9 = q.2.2.2.2.2.2 := fun q => shP_g9
    have e1 : i = D := by omega
    subst e1
    refine z_iload (q := 29) rfl rfl rfl ?_
    refine z_aload_n (q := 30) rfl rfl rfl ?_
    refine z_getI (q := 33) rfl rfl rfl (St_k w) ?_
    rw [far_g10]
    refine z_ic_ge (q := 36) rfl rfl (fun h33 => ?_) (fun h33 => ?_)
    · refine z_aload_n (q := 93) rfl rfl rfl ?_
      refine z_getI (q := 96) rfl rfl rfl (Sh_k wo) ?_
      rw [own_g9]
      refine z_ireti rfl rfl ?_
      exact ⟨rfl, rfl⟩
    · exact absurd (nI_le (Nat.le_refl _) (by omega)) h33
  | succ k ih =>
    intro i hi
    have far_g10 : ∀ q, (shQ M so s l t q).1 st 10 = nI D := fun q => (congrFun (shP_o (by omega) (by omega) (by omega) (by omega) (by omega)) 10).trans hDe
    have far_a2 : ∀ q, (shQ M so s l t q).1 (st + 8) = M.1 (st + 8) := fun q => shP_o (by omega) (by omega) (by omega) (by omega) (by omega)
    have far_a3 : ∀ q, (shQ M so s l t q).1 (st + 9) = M.1 (st + 9) := fun q => shP_o (by omega) (by omega) (by omega) (by omega) (by omega)
    have far_a4 : ∀ q, (shQ M so s l t q).1 (st + 10) = M.1 (st + 10) := fun q => shP_o (by omega) (by omega) (by omega) (by omega) (by omega)
    have far_a5 : ∀ q, (shQ M so s l t q).1 (st + 11) = M.1 (st + 11) := fun q => shP_o (by omega) (by omega) (by omega) (by omega) (by omega)
    have own_g9 : ∀ q, (shQ M so s l t q).1 so 9 = q.2.2.2.2.2.2 := fun q => shP_g9
    have e8 : fo (plG s l t c K A B E sk) q0 (i + 1) = plG s l t c K A B E sk i (fo (plG s l t c K A B E sk) q0 i) := rfl
    refine z_iload (q := 29) rfl rfl rfl ?_
    refine z_aload_n (q := 30) rfl rfl rfl ?_
    refine z_getI (q := 33) rfl rfl rfl (St_k w) ?_
    rw [far_g10]
    refine z_ic_ge (q := 36) rfl rfl (fun h33 => ?_) (fun h33 => ?_)
    · exact absurd h33 (nI_ge (by omega) (by omega))
    · refine z_iload (q := 38) rfl rfl rfl ?_
      refine z_aload_n (q := 39) rfl rfl rfl ?_
      refine z_getR (q := 42) rfl rfl rfl (St_k w) (St_r2 w) ?_
      refine z_alen (q := 43) rfl rfl (St_a2 w) rfl rfl ?_
      refine z_ic_ge (q := 46) rfl rfl (fun h43 => ?_) (fun h43 => ?_)
      · exact absurd h43 (nI_ge (by omega) (by omega))
      · refine z_iload (q := 48) rfl rfl rfl ?_
        refine z_iload (q := 50) rfl rfl rfl ?_
        refine z_ic_eq (q := 53) rfl rfl (fun h50 => ?_) (fun h50 => ?_)
        · refine z_iinc (q := 89) (L2 := [_, _, _, _, _, _]) rfl rfl rfl rfl ?_
          refine z_goto rfl ?_
          rw [show nI i + Int32.ofInt 1 = nI (i + 1) from (nI_succ i).symm]
          have e9 := ih (i + 1) (by omega)
          first
            | (rw [e8, plG_e h50] at e9; exact e9)
            | (rw [e8, plG_n h50] at e9; exact e9)
        · refine z_aload_n (q := 54) rfl rfl rfl ?_
          refine z_aload_n (q := 55) rfl rfl rfl ?_
          refine z_getR (q := 58) rfl rfl rfl (St_k w) (St_r2 w) ?_
          refine z_iload (q := 60) rfl rfl rfl ?_
          refine z_iald (q := 61) rfl rfl (St_a2 w) (by first | assumption | exact vp_in_nI (by omega) (by omega)) ?_
          rw [far_a2]
          try rw [nI_clamp (by omega)]
          rw [(hd i (by omega)).1]
          refine z_aload_n (q := 62) rfl rfl rfl ?_
          refine z_getR (q := 65) rfl rfl rfl (St_k w) (St_r3 w) ?_
          refine z_iload (q := 67) rfl rfl rfl ?_
          refine z_iald (q := 68) rfl rfl (St_a3 w) (by first | assumption | exact vp_in_nI (by omega) (by omega)) ?_
          rw [far_a3]
          try rw [nI_clamp (by omega)]
          rw [(hd i (by omega)).2.1]
          refine z_aload_n (q := 69) rfl rfl rfl ?_
          refine z_getR (q := 72) rfl rfl rfl (St_k w) (St_r4 w) ?_
          refine z_iload (q := 74) rfl rfl rfl ?_
          refine z_iald (q := 75) rfl rfl (St_a4 w) (by first | assumption | exact vp_in_nI (by omega) (by omega)) ?_
          rw [far_a4]
          try rw [nI_clamp (by omega)]
          rw [(hd i (by omega)).2.2.1]
          refine z_aload_n (q := 76) rfl rfl rfl ?_
          refine z_getR (q := 79) rfl rfl rfl (St_k w) (St_r5 w) ?_
          refine z_iload (q := 81) rfl rfl rfl ?_
          refine z_iald (q := 82) rfl rfl (St_a5 w) (by first | assumption | exact vp_in_nI (by omega) (by omega)) ?_
          rw [far_a5]
          try rw [nI_clamp (by omega)]
          rw [(hd i (by omega)).2.2.2]
          refine z_cv4i (q := 85) rfl rfl rfl (Sh_k wo) (q_Sh_carryOut wo (hv i (by omega)).1 (by omega) (hv i (by omega)).2.1 hc hC ((hv i (by omega)).2.2 h50)) ?_
          refine z_pop (q := 86) rfl rfl rfl ?_
          refine z_iinc (q := 89) (L2 := [_, _, _, _, _, _]) rfl rfl rfl rfl ?_
          refine z_goto rfl ?_
          rw [show nI i + Int32.ofInt 1 = nI (i + 1) from (nI_succ i).symm]
          have e9 := ih (i + 1) (by omega)
          first
            | (rw [e8, plG_e h50] at e9; exact e9)
            | (rw [e8, plG_n h50] at e9; exact e9)
theorem q_St_stepsOnT {sc : Option (Nat × Nat × (Nat → Int32))} {sa : Nat → Nat} {d : Nat} {M : mz_M} {z : Nat × Nat} {st so : Nat} {D : Nat} {s l t s0 l0 t0 : Int32} {q : sQ} (w : g_St M.2.2 st) (wo : g_Sh M.2.2 so 40) (hfar : so + 6 ≤ st ∨ st + 13 ≤ so) (hDe : M.1 st 10 = nI D) (hD : D ≤ 60) {c : Nat} (hc : s = nI c) (hC : c ≤ 12) {K A B E : Nat → Nat} (hd : ∀ i, i < D → M.1 (st + 8) i = nI (K i) ∧ M.1 (st + 9) i = nI (A i) ∧ M.1 (st + 10) i = nI (B i) ∧ M.1 (st + 11) i = nI (E i)) (hs5 : M.1 (st + 1) 5 = s) {sk : Int32} (hv : plV s l t c 40 K A B E sk (bgQ (ownR c) q) D) : zx sc sa (d + 6) 79 [.ref st, .ref so, .int l, .int t, .int sk] (shQ M so s0 l0 t0 q) z z (some (.int (fo (plG s l t c K A B E sk) (bgQ (ownR c) q) D).2.2.2.2.2.2)) (shQ M so s l t (fo (plG s l t c K A B E sk) (bgQ (ownR c) q) D)) := by
  have sfr_g5 {s1 l1 t1 : Int32} {q1 : sQ} : (shQ M so s1 l1 t1 q1).1 (st + 1) 5 = s := (congrFun (shP_o (by omega) (by omega) (by omega) (by omega) (by omega)) 5).trans hs5
  refine zxin ym_St_stepsOn [.ref st, .ref so, .int l, .int t, .int sk, .retAddr 0] rfl rfl rfl rfl ?_
  refine z_aload_n (q := 1) rfl rfl rfl ?_
  refine z_aload_n (q := 2) rfl rfl rfl ?_
  refine z_getR (q := 5) rfl rfl rfl (St_k w) (St_r0 w) ?_
  refine z_getI (q := 8) rfl rfl rfl (Sh_k (St_w0 w)) ?_
  rw [sfr_g5]
  refine z_iload_n (q := 9) rfl rfl rfl ?_
  refine z_iload_n (q := 10) rfl rfl rfl ?_
  refine z_aload_n (q := 11) rfl rfl rfl ?_
  refine z_aload_n (q := 12) rfl rfl rfl ?_
  refine z_getR (q := 15) rfl rfl rfl (St_k w) (St_r0 w) ?_
  refine z_getI (q := 18) rfl rfl rfl (Sh_k (St_w0 w)) ?_
  rw [sfr_g5]
  rw [hc]
  refine z_cv1l (q := 21) rfl rfl rfl (St_k w) (s_St_ownNumbers hC) ?_
  refine z_cv4v (q := 24) rfl rfl rfl (Sh_k wo) (q_Sh_begin wo (by omega) (by omega)) ?_
  refine z_iconst (q := 25) (v := 0) rfl rfl rfl ?_
  refine z_istore (q := 27) (L2 := [_, _, _, _, _, _]) rfl rfl rfl rfl ?_
  rw [← hc]
  exact l_St_stepsOnT w wo hfar hDe hD hc hC hd hv D 0 (by omega)
