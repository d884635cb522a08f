-- a story's cells as one state
def stH (M : mz_M) (st : Nat) (pr ln td de : Int32) : Nat → Int32 := fun k => match k with
  | 7 => pr
  | 8 => ln
  | 9 => td
  | 10 => de
  | k => M.1 st k
def stB (M : mz_M) (st : Nat) (pr ln td de : Int32) (pa ks os ts hs cs : Nat → Int32) : mz_M := (fun a => if a = st then stH M st pr ln td de else if a = st + 7 then pa else if a = st + 8 then ks else if a = st + 9 then os else if a = st + 10 then ts else if a = st + 11 then hs else if a = st + 12 then cs else M.1 a, M.2)
def stQ (M : mz_M) (st : Nat) (pr ln td de : Int32) (pa ks os ts hs cs : Nat → Int32) (s l t : Int32) (q : sQ) : mz_M := shQ (stB M st pr ln td de pa ks os ts hs cs) (st + 1) s l t q
theorem stQ_g7 {M : mz_M} {st : Nat} {pr ln td de : Int32} {pa ks os ts hs cs : Nat → Int32} {s l t : Int32} {q : sQ} : (stQ M st pr ln td de pa ks os ts hs cs s l t q).1 st 7 = pr := by simp [stQ, shQ, shP, stB, stH, Nat.add_assoc]
theorem stQ_g8 {M : mz_M} {st : Nat} {pr ln td de : Int32} {pa ks os ts hs cs : Nat → Int32} {s l t : Int32} {q : sQ} : (stQ M st pr ln td de pa ks os ts hs cs s l t q).1 st 8 = ln := by simp [stQ, shQ, shP, stB, stH, Nat.add_assoc]
theorem stQ_g9 {M : mz_M} {st : Nat} {pr ln td de : Int32} {pa ks os ts hs cs : Nat → Int32} {s l t : Int32} {q : sQ} : (stQ M st pr ln td de pa ks os ts hs cs s l t q).1 st 9 = td := by simp [stQ, shQ, shP, stB, stH, Nat.add_assoc]
theorem stQ_g10 {M : mz_M} {st : Nat} {pr ln td de : Int32} {pa ks os ts hs cs : Nat → Int32} {s l t : Int32} {q : sQ} : (stQ M st pr ln td de pa ks os ts hs cs s l t q).1 st 10 = de := by simp [stQ, shQ, shP, stB, stH, Nat.add_assoc]
theorem stQ_a1 {M : mz_M} {st : Nat} {pr ln td de : Int32} {pa ks os ts hs cs : Nat → Int32} {s l t : Int32} {q : sQ} : (stQ M st pr ln td de pa ks os ts hs cs s l t q).1 (st + 7) = pa := by simp [stQ, shQ, shP, stB]
theorem stQ_a2 {M : mz_M} {st : Nat} {pr ln td de : Int32} {pa ks os ts hs cs : Nat → Int32} {s l t : Int32} {q : sQ} : (stQ M st pr ln td de pa ks os ts hs cs s l t q).1 (st + 8) = ks := by simp [stQ, shQ, shP, stB]
theorem stQ_a3 {M : mz_M} {st : Nat} {pr ln td de : Int32} {pa ks os ts hs cs : Nat → Int32} {s l t : Int32} {q : sQ} : (stQ M st pr ln td de pa ks os ts hs cs s l t q).1 (st + 9) = os := by simp [stQ, shQ, shP, stB]
theorem stQ_a4 {M : mz_M} {st : Nat} {pr ln td de : Int32} {pa ks os ts hs cs : Nat → Int32} {s l t : Int32} {q : sQ} : (stQ M st pr ln td de pa ks os ts hs cs s l t q).1 (st + 10) = ts := by simp [stQ, shQ, shP, stB]
theorem stQ_a5 {M : mz_M} {st : Nat} {pr ln td de : Int32} {pa ks os ts hs cs : Nat → Int32} {s l t : Int32} {q : sQ} : (stQ M st pr ln td de pa ks os ts hs cs s l t q).1 (st + 11) = hs := by simp [stQ, shQ, shP, stB]
theorem stQ_a6 {M : mz_M} {st : Nat} {pr ln td de : Int32} {pa ks os ts hs cs : Nat → Int32} {s l t : Int32} {q : sQ} : (stQ M st pr ln td de pa ks os ts hs cs s l t q).1 (st + 12) = cs := by simp [stQ, shQ, shP, stB]
theorem stS_g5 {M : mz_M} {st : Nat} {pr ln td de : Int32} {pa ks os ts hs cs : Nat → Int32} {s l t : Int32} {q : sQ} : (stQ M st pr ln td de pa ks os ts hs cs s l t q).1 (st + 1) 5 = s := shP_g5
theorem stS_g6 {M : mz_M} {st : Nat} {pr ln td de : Int32} {pa ks os ts hs cs : Nat → Int32} {s l t : Int32} {q : sQ} : (stQ M st pr ln td de pa ks os ts hs cs s l t q).1 (st + 1) 6 = l := shP_g6
theorem stS_g7 {M : mz_M} {st : Nat} {pr ln td de : Int32} {pa ks os ts hs cs : Nat → Int32} {s l t : Int32} {q : sQ} : (stQ M st pr ln td de pa ks os ts hs cs s l t q).1 (st + 1) 7 = t := shP_g7
theorem stS_g8 {M : mz_M} {st : Nat} {pr ln td de : Int32} {pa ks os ts hs cs : Nat → Int32} {s l t : Int32} {q : sQ} : (stQ M st pr ln td de pa ks os ts hs cs s l t q).1 (st + 1) 8 = nI q.1 := shP_g8
theorem stS_g9 {M : mz_M} {st : Nat} {pr ln td de : Int32} {pa ks os ts hs cs : Nat → Int32} {s l t : Int32} {q : sQ} : (stQ M st pr ln td de pa ks os ts hs cs s l t q).1 (st + 1) 9 = q.2.2.2.2.2.2 := shP_g9
theorem stQ_u7 {M : mz_M} {st : Nat} {pr ln td de : Int32} {pa ks os ts hs cs : Nat → Int32} {s l t : Int32} {q : sQ} {x : Int32} : mz_uI (stQ M st pr ln td de pa ks os ts hs cs s l t q) st 7 x = stQ M st x ln td de pa ks os ts hs cs s l t q := by
  unfold mz_uI stQ shQ shP
  refine Prod.ext ?_ rfl
  funext a
  by_cases h : a = st
  · subst h
    funext k
    rcases k with _ | _ | _ | _ | _ | _ | _ | _ | _ | _ | _ | k <;> simp [va_up, stB, stH, Nat.add_assoc]
  · by_cases h1 : a = st + 1
    · subst h1
      funext k
      rcases k with _ | _ | _ | _ | _ | _ | _ | _ | _ | _ | k <;> simp [va_up, shF, stB]
    · simp [va_up, h, h1, stB]
theorem stQ_u8 {M : mz_M} {st : Nat} {pr ln td de : Int32} {pa ks os ts hs cs : Nat → Int32} {s l t : Int32} {q : sQ} {x : Int32} : mz_uI (stQ M st pr ln td de pa ks os ts hs cs s l t q) st 8 x = stQ M st pr x td de pa ks os ts hs cs s l t q := by
  unfold mz_uI stQ shQ shP
  refine Prod.ext ?_ rfl
  funext a
  by_cases h : a = st
  · subst h
    funext k
    rcases k with _ | _ | _ | _ | _ | _ | _ | _ | _ | _ | _ | k <;> simp [va_up, stB, stH, Nat.add_assoc]
  · by_cases h1 : a = st + 1
    · subst h1
      funext k
      rcases k with _ | _ | _ | _ | _ | _ | _ | _ | _ | _ | k <;> simp [va_up, shF, stB]
    · simp [va_up, h, h1, stB]
theorem stQ_u9 {M : mz_M} {st : Nat} {pr ln td de : Int32} {pa ks os ts hs cs : Nat → Int32} {s l t : Int32} {q : sQ} {x : Int32} : mz_uI (stQ M st pr ln td de pa ks os ts hs cs s l t q) st 9 x = stQ M st pr ln x de pa ks os ts hs cs s l t q := by
  unfold mz_uI stQ shQ shP
  refine Prod.ext ?_ rfl
  funext a
  by_cases h : a = st
  · subst h
    funext k
    rcases k with _ | _ | _ | _ | _ | _ | _ | _ | _ | _ | _ | k <;> simp [va_up, stB, stH, Nat.add_assoc]
  · by_cases h1 : a = st + 1
    · subst h1
      funext k
      rcases k with _ | _ | _ | _ | _ | _ | _ | _ | _ | _ | k <;> simp [va_up, shF, stB]
    · simp [va_up, h, h1, stB]
theorem stQ_u10 {M : mz_M} {st : Nat} {pr ln td de : Int32} {pa ks os ts hs cs : Nat → Int32} {s l t : Int32} {q : sQ} {x : Int32} : mz_uI (stQ M st pr ln td de pa ks os ts hs cs s l t q) st 10 x = stQ M st pr ln td x pa ks os ts hs cs s l t q := by
  unfold mz_uI stQ shQ shP
  refine Prod.ext ?_ rfl
  funext a
  by_cases h : a = st
  · subst h
    funext k
    rcases k with _ | _ | _ | _ | _ | _ | _ | _ | _ | _ | _ | k <;> simp [va_up, stB, stH, Nat.add_assoc]
  · by_cases h1 : a = st + 1
    · subst h1
      funext k
      rcases k with _ | _ | _ | _ | _ | _ | _ | _ | _ | _ | k <;> simp [va_up, shF, stB]
    · simp [va_up, h, h1, stB]
theorem stQ_w1 {M : mz_M} {st : Nat} {pr ln td de : Int32} {pa ks os ts hs cs : Nat → Int32} {s l t : Int32} {q : sQ} {k : Nat} {x : Int32} : mz_uI (stQ M st pr ln td de pa ks os ts hs cs s l t q) (st + 7) k x = stQ M st pr ln td de (va_up pa k x) ks os ts hs cs s l t q := by
  unfold mz_uI stQ shQ shP
  refine Prod.ext ?_ rfl
  funext a
  by_cases h : a = st + 7
  · subst h
    simp [va_up, stB]
  · by_cases h1 : a = st + 1
    · subst h1
      funext j
      rcases j with _ | _ | _ | _ | _ | _ | _ | _ | _ | _ | j <;> simp [va_up, shF, stB]
    · simp [va_up, h, h1, stB]
theorem stQ_w2 {M : mz_M} {st : Nat} {pr ln td de : Int32} {pa ks os ts hs cs : Nat → Int32} {s l t : Int32} {q : sQ} {k : Nat} {x : Int32} : mz_uI (stQ M st pr ln td de pa ks os ts hs cs s l t q) (st + 8) k x = stQ M st pr ln td de pa (va_up ks k x) os ts hs cs s l t q := by
  unfold mz_uI stQ shQ shP
  refine Prod.ext ?_ rfl
  funext a
  by_cases h : a = st + 8
  · subst h
    simp [va_up, stB]
  · by_cases h1 : a = st + 1
    · subst h1
      funext j
      rcases j with _ | _ | _ | _ | _ | _ | _ | _ | _ | _ | j <;> simp [va_up, shF, stB]
    · simp [va_up, h, h1, stB]
theorem stQ_w3 {M : mz_M} {st : Nat} {pr ln td de : Int32} {pa ks os ts hs cs : Nat → Int32} {s l t : Int32} {q : sQ} {k : Nat} {x : Int32} : mz_uI (stQ M st pr ln td de pa ks os ts hs cs s l t q) (st + 9) k x = stQ M st pr ln td de pa ks (va_up os k x) ts hs cs s l t q := by
  unfold mz_uI stQ shQ shP
  refine Prod.ext ?_ rfl
  funext a
  by_cases h : a = st + 9
  · subst h
    simp [va_up, stB]
  · by_cases h1 : a = st + 1
    · subst h1
      funext j
      rcases j with _ | _ | _ | _ | _ | _ | _ | _ | _ | _ | j <;> simp [va_up, shF, stB]
    · simp [va_up, h, h1, stB]
theorem stQ_w4 {M : mz_M} {st : Nat} {pr ln td de : Int32} {pa ks os ts hs cs : Nat → Int32} {s l t : Int32} {q : sQ} {k : Nat} {x : Int32} : mz_uI (stQ M st pr ln td de pa ks os ts hs cs s l t q) (st + 10) k x = stQ M st pr ln td de pa ks os (va_up ts k x) hs cs s l t q := by
  unfold mz_uI stQ shQ shP
  refine Prod.ext ?_ rfl
  funext a
  by_cases h : a = st + 10
  · subst h
    simp [va_up, stB]
  · by_cases h1 : a = st + 1
    · subst h1
      funext j
      rcases j with _ | _ | _ | _ | _ | _ | _ | _ | _ | _ | j <;> simp [va_up, shF, stB]
    · simp [va_up, h, h1, stB]
theorem stQ_w5 {M : mz_M} {st : Nat} {pr ln td de : Int32} {pa ks os ts hs cs : Nat → Int32} {s l t : Int32} {q : sQ} {k : Nat} {x : Int32} : mz_uI (stQ M st pr ln td de pa ks os ts hs cs s l t q) (st + 11) k x = stQ M st pr ln td de pa ks os ts (va_up hs k x) cs s l t q := by
  unfold mz_uI stQ shQ shP
  refine Prod.ext ?_ rfl
  funext a
  by_cases h : a = st + 11
  · subst h
    simp [va_up, stB]
  · by_cases h1 : a = st + 1
    · subst h1
      funext j
      rcases j with _ | _ | _ | _ | _ | _ | _ | _ | _ | _ | j <;> simp [va_up, shF, stB]
    · simp [va_up, h, h1, stB]
theorem stQ_w6 {M : mz_M} {st : Nat} {pr ln td de : Int32} {pa ks os ts hs cs : Nat → Int32} {s l t : Int32} {q : sQ} {k : Nat} {x : Int32} : mz_uI (stQ M st pr ln td de pa ks os ts hs cs s l t q) (st + 12) k x = stQ M st pr ln td de pa ks os ts hs (va_up cs k x) s l t q := by
  unfold mz_uI stQ shQ shP
  refine Prod.ext ?_ rfl
  funext a
  by_cases h : a = st + 12
  · subst h
    simp [va_up, stB]
  · by_cases h1 : a = st + 1
    · subst h1
      funext j
      rcases j with _ | _ | _ | _ | _ | _ | _ | _ | _ | _ | j <;> simp [va_up, shF, stB]
    · simp [va_up, h, h1, stB]
theorem s_St_acts {sc : Option (Nat × Nat × (Nat → Int32))} {sa : Nat → Nat} {d : Nat} {M : mz_M} {z : Nat × Nat} {st : Nat} (w : g_St M.2.2 st) : zx sc sa (d + 1) 69 [.ref st] M z z (some (.int (M.1 st 10 - M.1 st 9))) M := by
  refine zxin ym_St_acts [.ref st] rfl rfl rfl rfl ?_
  refine z_aload_n (q := 1) rfl rfl rfl ?_
  refine z_getI (q := 4) rfl rfl rfl (St_k w) ?_
  refine z_aload_n (q := 5) rfl rfl rfl ?_
  refine z_getI (q := 8) rfl rfl rfl (St_k w) ?_
  refine z_isub (q := 9) rfl rfl ?_
  refine z_ireti rfl rfl ?_
  exact ⟨rfl, rfl⟩
theorem s_St_hasDeed {sc : Option (Nat × Nat × (Nat → Int32))} {sa : Nat → Nat} {d : Nat} {M : mz_M} {z : Nat × Nat} {st : Nat} (w : g_St M.2.2 st) {v : Int32} : zx sc sa (d + 1) 70 [.ref st, .int v] M z z (some (.int (bz (0 ≤ v ∧ v < M.1 st 10)))) M := by
  refine zxin ym_St_hasDeed [.ref st, .int v] rfl rfl rfl rfl ?_
  refine z_iload_n (q := 1) rfl rfl rfl ?_
  refine z_if_lt (q := 4) rfl rfl (fun h1 => ?_) (fun h1 => ?_)
  · refine z_iconst (q := 17) (v := 0) rfl rfl rfl ?_
    refine z_iretz rfl rfl (rfl) ?_
    refine ⟨?_, rfl⟩
    unfold bz
    simp_all [Int32.not_lt, Int32.not_le, Int32.le_iff_toInt_le, Int32.lt_iff_toInt_lt]
    try omega
  · refine z_iload_n (q := 5) rfl rfl rfl ?_
    refine z_aload_n (q := 6) rfl rfl rfl ?_
    refine z_getI (q := 9) rfl rfl rfl (St_k w) ?_
    refine z_ic_ge (q := 12) rfl rfl (fun h9 => ?_) (fun h9 => ?_)
    · refine z_iconst (q := 17) (v := 0) rfl rfl rfl ?_
      refine z_iretz rfl rfl (rfl) ?_
      refine ⟨?_, rfl⟩
      unfold bz
      simp_all [Int32.not_lt, Int32.not_le, Int32.le_iff_toInt_le, Int32.lt_iff_toInt_lt]
      try omega
    · refine z_iconst (q := 13) (v := 1) rfl rfl rfl ?_
      refine z_goto rfl ?_
      refine z_iretz rfl rfl (rfl) ?_
      refine ⟨?_, rfl⟩
      unfold bz
      simp_all [Int32.not_lt, Int32.not_le, Int32.le_iff_toInt_le, Int32.lt_iff_toInt_lt]
      try omega
theorem s_St_hasDeed1 {sc : Option (Nat × Nat × (Nat → Int32))} {sa : Nat → Nat} {d : Nat} {M : mz_M} {z : Nat × Nat} {st : Nat} (w : g_St M.2.2 st) {D : Nat} (hD : M.1 st 10 = nI D) (h60 : D ≤ 60) {j : Nat} (hj : j < D) : zx sc sa (d + 1) 70 [.ref st, .int (nI j)] M z z (some (.int 1)) M := by
  have h := s_St_hasDeed (sc := sc) (sa := sa) (d := d) (z := z) w (v := nI j)
  rw [hD, bz_t ⟨nI_pos' (by omega), nI_lt hj (by omega)⟩] at h
  exact h
theorem s_St_makesNone {sc : Option (Nat × Nat × (Nat → Int32))} {sa : Nat → Nat} {d : Nat} {M : mz_M} {z : Nat × Nat} {st : Nat} (w : g_St M.2.2 st) {D : Nat} (hD : M.1 st 10 = nI D) (h60 : D ≤ 60) {j : Nat} (hj : j < D) : zx sc sa (d + 2) 71 [.ref st, .int (nI j)] M z z (some (.int (bz (M.1 (st + 8) j = 1 ∨ M.1 (st + 8) j = 4 ∨ M.1 (st + 8) j = 5)))) M := by
  refine zxin ym_St_makesNone [.ref st, .int (nI j)] rfl rfl rfl rfl ?_
  refine z_aload_n (q := 1) rfl rfl rfl ?_
  refine z_iload_n (q := 2) rfl rfl rfl ?_
  refine z_cv1i (q := 5) rfl rfl rfl (St_k w) (s_St_hasDeed1 w hD h60 hj) ?_
  refine z_if_ne (q := 8) rfl rfl (fun h5 => ?_) (fun h5 => ?_)
  · refine z_aload_n (q := 11) rfl rfl rfl ?_
    refine z_getR (q := 14) rfl rfl rfl (St_k w) (St_r2 w) ?_
    refine z_iload_n (q := 15) rfl rfl rfl ?_
    refine z_iald (q := 16) rfl rfl (St_a2 w) (by first | assumption | exact vp_in_nI (by omega) (by omega)) ?_
    refine z_iconst (q := 17) (v := 1) rfl rfl rfl ?_
    refine z_ic_eq (q := 20) rfl rfl (fun h17 => ?_) (fun h17 => ?_)
    · refine z_iconst (q := 41) (v := 1) rfl rfl rfl ?_
      refine z_goto rfl ?_
      refine z_iretz rfl rfl (rfl) ?_
      refine ⟨?_, rfl⟩
      unfold bz
      simp_all [nI_clamp (show j < 2 ^ 31 by omega)]
    · refine z_aload_n (q := 21) rfl rfl rfl ?_
      refine z_getR (q := 24) rfl rfl rfl (St_k w) (St_r2 w) ?_
      refine z_iload_n (q := 25) rfl rfl rfl ?_
      refine z_iald (q := 26) rfl rfl (St_a2 w) (by first | assumption | exact vp_in_nI (by omega) (by omega)) ?_
      refine z_iconst (q := 27) (v := 4) rfl rfl rfl ?_
      refine z_ic_eq (q := 30) rfl rfl (fun h27 => ?_) (fun h27 => ?_)
      · refine z_iconst (q := 41) (v := 1) rfl rfl rfl ?_
        refine z_goto rfl ?_
        refine z_iretz rfl rfl (rfl) ?_
        refine ⟨?_, rfl⟩
        unfold bz
        simp_all [nI_clamp (show j < 2 ^ 31 by omega)]
      · refine z_aload_n (q := 31) rfl rfl rfl ?_
        refine z_getR (q := 34) rfl rfl rfl (St_k w) (St_r2 w) ?_
        refine z_iload_n (q := 35) rfl rfl rfl ?_
        refine z_iald (q := 36) rfl rfl (St_a2 w) (by first | assumption | exact vp_in_nI (by omega) (by omega)) ?_
        refine z_iconst (q := 37) (v := 5) rfl rfl rfl ?_
        refine z_ic_ne (q := 40) rfl rfl (fun h37 => ?_) (fun h37 => ?_)
        · refine z_iconst (q := 45) (v := 0) rfl rfl rfl ?_
          refine z_iretz rfl rfl (rfl) ?_
          refine ⟨?_, rfl⟩
          unfold bz
          simp_all [nI_clamp (show j < 2 ^ 31 by omega)]
        · refine z_iconst (q := 41) (v := 1) rfl rfl rfl ?_
          refine z_goto rfl ?_
          refine z_iretz rfl rfl (rfl) ?_
          refine ⟨?_, rfl⟩
          unfold bz
          simp_all [nI_clamp (show j < 2 ^ 31 by omega)]
  · exact absurd h5 (by decide)
theorem s_St_partnersOf {sc : Option (Nat × Nat × (Nat → Int32))} {sa : Nat → Nat} {d : Nat} {M : mz_M} {z : Nat × Nat} {st : Nat} (w : g_St M.2.2 st) {j : Nat} (hj : j < 12) : zx sc sa (d + 1) 72 [.ref st, .int (nI j)] M z z (some (.int (M.1 (st + 7) j))) M := by
  refine zxin ym_St_partnersOf [.ref st, .int (nI j)] rfl rfl rfl rfl ?_
  refine z_iload_n (q := 1) rfl rfl rfl ?_
  refine z_if_lt (q := 4) rfl rfl (fun h1 => ?_) (fun h1 => ?_)
  · exact absurd h1 (nI_pos (by omega))
  · refine z_iload_n (q := 5) rfl rfl rfl ?_
    refine z_aload_n (q := 6) rfl rfl rfl ?_
    refine z_getR (q := 9) rfl rfl rfl (St_k w) (St_r1 w) ?_
    refine z_alen (q := 10) rfl rfl (St_a1 w) rfl rfl ?_
    refine z_ic_ge (q := 13) rfl rfl (fun h10 => ?_) (fun h10 => ?_)
    · exact absurd h10 (nI_ge hj (by omega))
    · refine z_aload_n (q := 14) rfl rfl rfl ?_
      refine z_getR (q := 17) rfl rfl rfl (St_k w) (St_r1 w) ?_
      refine z_iload_n (q := 18) rfl rfl rfl ?_
      refine z_iald (q := 19) rfl rfl (St_a1 w) (by first | assumption | exact vp_in_nI (by omega) (by omega)) ?_
      refine z_goto rfl ?_
      refine z_ireti rfl rfl ?_
      rw [nI_clamp (by omega)]
      exact ⟨rfl, rfl⟩
theorem s_St_arePaired {sc : Option (Nat × Nat × (Nat → Int32))} {sa : Nat → Nat} {d : Nat} {M : mz_M} {z : Nat × Nat} {st : Nat} (w : g_St M.2.2 st) {j : Nat} (hj : j < 12) {x : Int32} : zx sc sa (d + 2) 73 [.ref st, .int (nI j), .int x] M z z (some (.int (bz (¬ ((M.1 (st + 7) j).toUInt32 >>> (x.toUInt32 &&& Int32.toUInt32 31)).toInt32 &&& 1 = 0)))) M := by
  refine zxin ym_St_arePaired [.ref st, .int (nI j), .int x] rfl rfl rfl rfl ?_
  refine z_aload_n (q := 1) rfl rfl rfl ?_
  refine z_iload_n (q := 2) rfl rfl rfl ?_
  refine z_cv1i (q := 5) rfl rfl rfl (St_k w) (s_St_partnersOf w hj) ?_
  refine z_iload_n (q := 6) rfl rfl rfl ?_
  refine z_iushr (q := 7) rfl rfl ?_
  refine z_iconst (q := 8) (v := 1) rfl rfl rfl ?_
  refine z_iand (q := 9) rfl rfl ?_
  refine z_if_eq (q := 12) rfl rfl (fun h9 => ?_) (fun h9 => ?_)
  · refine z_iconst (q := 17) (v := 0) rfl rfl rfl ?_
    refine z_iretz rfl rfl (rfl) ?_
    refine ⟨?_, rfl⟩
    unfold bz
    simp_all
  · refine z_iconst (q := 13) (v := 1) rfl rfl rfl ?_
    refine z_goto rfl ?_
    refine z_iretz rfl rfl (rfl) ?_
    refine ⟨?_, rfl⟩
    unfold bz
    simp_all
def ownR (c : Nat) : Int64 := fo (fun c acc => wnI acc (nI c) (nI c)) 0 c
theorem l_St_ownNumbers {sc : Option (Nat × Nat × (Nat → Int32))} {sa : Nat → Nat} {d : Nat} {M : mz_M} {z : Nat × Nat} {st c : Nat} (hC : c ≤ 12) : ∀ (k : Nat) (i : Nat), i + k = c → zw sc sa (d + 1) ym_St_ownNumbers z (fun r' M' => r' = some (.long (ownR c)) ∧ M' = M) 5 [.ref st, .int (nI c), .long (ownR i), .retAddr 0, .int (nI i)] [] M z := by
  intro k
  induction k with
  | zero =>
    intro i hi
    have e1 : i = c := by omega
    subst e1
    refine z_iload (q := 7) rfl rfl rfl ?_
    refine z_iload_n (q := 8) rfl rfl rfl ?_
    refine z_ic_ge (q := 11) rfl rfl (fun h8 => ?_) (fun h8 => ?_)
    · refine z_lload_n (q := 27) rfl rfl rfl ?_
      refine z_lret rfl rfl ?_
      exact ⟨rfl, rfl⟩
    · exact absurd (nI_le (Nat.le_refl _) (by omega)) h8
  | succ k ih =>
    intro i hi
    refine z_iload (q := 7) rfl rfl rfl ?_
    refine z_iload_n (q := 8) rfl rfl rfl ?_
    refine z_ic_ge (q := 11) rfl rfl (fun h8 => ?_) (fun h8 => ?_)
    · exact absurd h8 (nI_ge (by omega) (by omega))
    · refine z_lload_n (q := 12) rfl rfl rfl ?_
      refine z_iload (q := 14) rfl rfl rfl ?_
      refine z_iload (q := 16) rfl rfl rfl ?_
      refine z_cs3l (q := 19) rfl rfl rfl (s_Sh_withNumber) ?_
      refine z_lstore_n (q := 20) (L2 := [_, _, _, _, _]) rfl rfl rfl rfl ?_
      refine z_iinc (q := 23) (L2 := [_, _, _, _, _]) rfl rfl rfl rfl ?_
      refine z_goto rfl ?_
      rw [show nI i + Int32.ofInt 1 = nI (i + 1) from (nI_succ i).symm]
      exact ih (i + 1) (by omega)
theorem s_St_ownNumbers {sc : Option (Nat × Nat × (Nat → Int32))} {sa : Nat → Nat} {d : Nat} {M : mz_M} {z : Nat × Nat} {st c : Nat} (hC : c ≤ 12) : zx sc sa (d + 2) 75 [.ref st, .int (nI c)] M z z (some (.long (ownR c))) M := by
  refine zxin ym_St_ownNumbers [.ref st, .int (nI c), .retAddr 0, .retAddr 0, .retAddr 0] rfl rfl rfl rfl ?_
  refine z_lconst (q := 1) (v := 0) rfl rfl rfl ?_
  refine z_lstore_n (q := 2) (L2 := [_, _, _, _, _]) rfl rfl rfl rfl ?_
  refine z_iconst (q := 3) (v := 0) rfl rfl rfl ?_
  refine z_istore (q := 5) (L2 := [_, _, _, _, _]) rfl rfl rfl rfl ?_
  exact l_St_ownNumbers hC c 0 (by omega)
def ddG (f : Nat → Int32) : Nat → Int32 × Int32 → Int32 × Int32 := fun v q => if f v ≤ q.2 then q else (nI v, f v)
theorem ddG_e {f : Nat → Int32} {v : Nat} {q : Int32 × Int32} (h : f v ≤ q.2) : ddG f v q = q := if_pos h
theorem ddG_n {f : Nat → Int32} {v : Nat} {q : Int32 × Int32} (h : ¬ f v ≤ q.2) : ddG f v q = (nI v, f v) := if_neg h
theorem l_St_dearestDeed {sc : Option (Nat × Nat × (Nat → Int32))} {sa : Nat → Nat} {d : Nat} {M : mz_M} {z : Nat × Nat} {st : Nat} (w : g_St M.2.2 st) {D : Nat} (hD : M.1 st 10 = nI D) (h60 : D ≤ 60)  : ∀ (k : Nat) (i : Nat), i + k = D → zw sc sa d ym_St_dearestDeed z (fun r' M' => r' = some (.int (fo (ddG (M.1 (st + 12))) (-1, 0) D).1) ∧ M' = M) 6 [.ref st, .int (fo (ddG (M.1 (st + 12))) (-1, 0) i).1, .int (fo (ddG (M.1 (st + 12))) (-1, 0) i).2, .int (nI i)] [] M z := by
  intro k
  induction k with
  | zero =>
    intro i hi
    have e1 : i = D := by omega
    subst e1
    refine z_iload_n (q := 7) rfl rfl rfl ?_
    refine z_aload_n (q := 8) rfl rfl rfl ?_
    refine z_getI (q := 11) rfl rfl rfl (St_k w) ?_
    refine z_ic_ge (q := 14) rfl rfl (fun h11 => ?_) (fun h11 => ?_)
    · refine z_iload_n (q := 40) rfl rfl rfl ?_
      refine z_ireti rfl rfl ?_
      exact ⟨rfl, rfl⟩
    · exact absurd (by rw [hD]; exact nI_le (Nat.le_refl _) (by omega)) h11
  | succ k ih =>
    intro i hi
    refine z_iload_n (q := 7) rfl rfl rfl ?_
    refine z_aload_n (q := 8) rfl rfl rfl ?_
    refine z_getI (q := 11) rfl rfl rfl (St_k w) ?_
    refine z_ic_ge (q := 14) rfl rfl (fun h11 => ?_) (fun h11 => ?_)
    · rw [hD] at h11
      exact absurd h11 (nI_ge (by omega) (by omega))
    · refine z_aload_n (q := 15) rfl rfl rfl ?_
      refine z_getR (q := 18) rfl rfl rfl (St_k w) (St_r6 w) ?_
      refine z_iload_n (q := 19) rfl rfl rfl ?_
      refine z_iald (q := 20) rfl rfl (St_a6 w) (by first | assumption | exact vp_in_nI (by omega) (by omega)) ?_
      refine z_iload_n (q := 21) rfl rfl rfl ?_
      refine z_ic_le (q := 24) rfl rfl (fun h21 => ?_) (fun h21 => ?_)
      · refine z_iinc (q := 36) (L2 := [_, _, _, _]) rfl rfl rfl rfl ?_
        refine z_goto rfl ?_
        rw [show nI i + Int32.ofInt 1 = nI (i + 1) from (nI_succ i).symm]
        have e8 : fo (ddG (M.1 (st + 12))) (-1, 0) (i + 1) = ddG (M.1 (st + 12)) i (fo (ddG (M.1 (st + 12))) (-1, 0) i) := rfl
        rw [nI_clamp (by omega)] at h21
        have e9 := ih (i + 1) (by omega)
        first
          | (rw [e8, ddG_e h21] at e9; exact e9)
          | (rw [e8, ddG_n h21] at e9; rw [nI_clamp (by omega)]; exact e9)
      · refine z_aload_n (q := 25) rfl rfl rfl ?_
        refine z_getR (q := 28) rfl rfl rfl (St_k w) (St_r6 w) ?_
        refine z_iload_n (q := 29) rfl rfl rfl ?_
        refine z_iald (q := 30) rfl rfl (St_a6 w) (by first | assumption | exact vp_in_nI (by omega) (by omega)) ?_
        refine z_istore_n (q := 31) (L2 := [_, _, _, _]) rfl rfl rfl rfl ?_
        refine z_iload_n (q := 32) rfl rfl rfl ?_
        refine z_istore_n (q := 33) (L2 := [_, _, _, _]) rfl rfl rfl rfl ?_
        refine z_iinc (q := 36) (L2 := [_, _, _, _]) rfl rfl rfl rfl ?_
        refine z_goto rfl ?_
        rw [show nI i + Int32.ofInt 1 = nI (i + 1) from (nI_succ i).symm]
        have e8 : fo (ddG (M.1 (st + 12))) (-1, 0) (i + 1) = ddG (M.1 (st + 12)) i (fo (ddG (M.1 (st + 12))) (-1, 0) i) := rfl
        rw [nI_clamp (by omega)] at h21
        have e9 := ih (i + 1) (by omega)
        first
          | (rw [e8, ddG_e h21] at e9; exact e9)
          | (rw [e8, ddG_n h21] at e9; rw [nI_clamp (by omega)]; exact e9)
theorem s_St_dearestDeed {sc : Option (Nat × Nat × (Nat → Int32))} {sa : Nat → Nat} {d : Nat} {M : mz_M} {z : Nat × Nat} {st : Nat} (w : g_St M.2.2 st) {D : Nat} (hD : M.1 st 10 = nI D) (h60 : D ≤ 60)  : zx sc sa (d + 1) 80 [.ref st] M z z (some (.int (fo (ddG (M.1 (st + 12))) (-1, 0) D).1)) M := by
  refine zxin ym_St_dearestDeed [.ref st, .retAddr 0, .retAddr 0, .retAddr 0] rfl rfl rfl rfl ?_
  refine z_iconst (q := 1) (v := -1) rfl rfl rfl ?_
  refine z_istore_n (q := 2) (L2 := [_, _, _, _]) rfl rfl rfl rfl ?_
  refine z_iconst (q := 3) (v := 0) rfl rfl rfl ?_
  refine z_istore_n (q := 4) (L2 := [_, _, _, _]) rfl rfl rfl rfl ?_
  refine z_iconst (q := 5) (v := 0) rfl rfl rfl ?_
  refine z_istore_n (q := 6) (L2 := [_, _, _, _]) rfl rfl rfl rfl ?_
  exact l_St_dearestDeed w hD h60 D 0 (by omega)
theorem q_St_carry {sc : Option (Nat × Nat × (Nat → Int32))} {sa : Nat → Nat} {d : Nat} {M : mz_M} {z : Nat × Nat} {st : Nat} {pr ln td de : Int32} {pa ks os ts hs cs : Nat → Int32} {s l t : Int32} {q : sQ} (w : g_St M.2.2 st) (hN : q.1 ≤ 40) (hf : okl q.2.2.1 q.1) {c : Nat} (hc : s = nI c) (hC : c ≤ 12) {k a b e : Nat} (h : vaQ s l t c 40 k a b e q) : zx sc sa (d + 5) 65 [.ref (st + 1), .int (nI k), .int (nI a), .int (nI b), .int (nI e)] (stQ M st pr ln td de pa ks os ts hs cs s l t q) z z (some (.int (caQ s l t c k a b e q).1)) (stQ M st pr ln td de pa ks os ts hs cs s l t (caQ s l t c k a b e q).2) := q_Sh_carryOut (M := stB M st pr ln td de pa ks os ts hs cs) (St_w0 w) hN (by omega) hf hc hC h
theorem q_St_perform {sc : Option (Nat × Nat × (Nat → Int32))} {sa : Nat → Nat} {d : Nat} {M : mz_M} {z : Nat × Nat} {st : Nat} {pr ln td : Int32} {D : Nat} {pa ks os ts hs cs : Nat → Int32} {s l t : Int32} {q : sQ} (w : g_St M.2.2 st) (hD : D < 60) (hN : q.1 ≤ 40) (hf : okl q.2.2.1 q.1) {c : Nat} (hc : s = nI c) (hC : c ≤ 12) {k a b e : Nat} (h : vaQ s l t c 40 k a b e q) : zx sc sa (d + 6) 77 [.ref st, .int (nI k), .int (nI a), .int (nI b), .int (nI e)] (stQ M st pr ln td (nI D) pa ks os ts hs cs s l t q) z z (some (.int (caQ s l t c k a b e q).1)) (stQ M st pr ln td (nI D + 1) pa (va_up ks D (nI k)) (va_up os D (nI a)) (va_up ts D (nI b)) (va_up hs D (nI e)) (va_up cs D ((caQ s l t c k a b e q).2.2.2.2.2.2.2 - q.2.2.2.2.2.2)) s l t (caQ s l t c k a b e q).2) := by
  refine zxin ym_St_perform [.ref st, .int (nI k), .int (nI a), .int (nI b), .int (nI e), .retAddr 0, .retAddr 0] rfl rfl rfl rfl ?_
  refine z_aload_n (q := 1) rfl rfl rfl ?_
  refine z_getI (q := 4) rfl rfl rfl (St_k w) ?_
  rw [stQ_g10]
  refine z_aload_n (q := 5) rfl rfl rfl ?_
  refine z_getR (q := 8) rfl rfl rfl (St_k w) (St_r2 w) ?_
  refine z_alen (q := 9) rfl rfl (St_a2 w) rfl rfl ?_
  refine z_ic_lt (q := 12) rfl rfl (fun h9 => ?_) (fun h9 => ?_)
  · refine z_aload_n (q := 15) rfl rfl rfl ?_
    refine z_getR (q := 18) rfl rfl rfl (St_k w) (St_r2 w) ?_
    refine z_aload_n (q := 19) rfl rfl rfl ?_
    refine z_getI (q := 22) rfl rfl rfl (St_k w) ?_
    rw [stQ_g10]
    refine z_iload_n (q := 23) rfl rfl rfl ?_
    refine z_iast (q := 24) rfl rfl (St_a2 w) (by first | assumption | exact vp_in_nI (by omega) (by omega)) ?_
    rw [stQ_w2]
    try rw [nI_clamp (by omega)]
    refine z_aload_n (q := 25) rfl rfl rfl ?_
    refine z_getR (q := 28) rfl rfl rfl (St_k w) (St_r3 w) ?_
    refine z_aload_n (q := 29) rfl rfl rfl ?_
    refine z_getI (q := 32) rfl rfl rfl (St_k w) ?_
    rw [stQ_g10]
    refine z_iload_n (q := 33) rfl rfl rfl ?_
    refine z_iast (q := 34) rfl rfl (St_a3 w) (by first | assumption | exact vp_in_nI (by omega) (by omega)) ?_
    rw [stQ_w3]
    try rw [nI_clamp (by omega)]
    refine z_aload_n (q := 35) rfl rfl rfl ?_
    refine z_getR (q := 38) rfl rfl rfl (St_k w) (St_r4 w) ?_
    refine z_aload_n (q := 39) rfl rfl rfl ?_
    refine z_getI (q := 42) rfl rfl rfl (St_k w) ?_
    rw [stQ_g10]
    refine z_iload_n (q := 43) rfl rfl rfl ?_
    refine z_iast (q := 44) rfl rfl (St_a4 w) (by first | assumption | exact vp_in_nI (by omega) (by omega)) ?_
    rw [stQ_w4]
    try rw [nI_clamp (by omega)]
    refine z_aload_n (q := 45) rfl rfl rfl ?_
    refine z_getR (q := 48) rfl rfl rfl (St_k w) (St_r5 w) ?_
    refine z_aload_n (q := 49) rfl rfl rfl ?_
    refine z_getI (q := 52) rfl rfl rfl (St_k w) ?_
    rw [stQ_g10]
    refine z_iload (q := 54) rfl rfl rfl ?_
    refine z_iast (q := 55) rfl rfl (St_a5 w) (by first | assumption | exact vp_in_nI (by omega) (by omega)) ?_
    rw [stQ_w5]
    try rw [nI_clamp (by omega)]
    refine z_aload_n (q := 56) rfl rfl rfl ?_
    refine z_getR (q := 59) rfl rfl rfl (St_k w) (St_r0 w) ?_
    refine z_getI (q := 62) rfl rfl rfl (Sh_k (St_w0 w)) ?_
    rw [stS_g9]
    refine z_istore (q := 64) (L2 := [_, _, _, _, _, _, _]) rfl rfl rfl rfl ?_
    refine z_aload_n (q := 65) rfl rfl rfl ?_
    refine z_getR (q := 68) rfl rfl rfl (St_k w) (St_r0 w) ?_
    refine z_iload_n (q := 69) rfl rfl rfl ?_
    refine z_iload_n (q := 70) rfl rfl rfl ?_
    refine z_iload_n (q := 71) rfl rfl rfl ?_
    refine z_iload (q := 73) rfl rfl rfl ?_
    refine z_cv4i (q := 76) rfl rfl rfl (Sh_k (St_w0 w)) (q_St_carry w hN hf hc hC h) ?_
    refine z_istore (q := 78) (L2 := [_, _, _, _, _, _, _]) rfl rfl rfl rfl ?_
    refine z_aload_n (q := 79) rfl rfl rfl ?_
    refine z_getR (q := 82) rfl rfl rfl (St_k w) (St_r6 w) ?_
    refine z_aload_n (q := 83) rfl rfl rfl ?_
    refine z_getI (q := 86) rfl rfl rfl (St_k w) ?_
    rw [stQ_g10]
    refine z_aload_n (q := 87) rfl rfl rfl ?_
    refine z_getR (q := 90) rfl rfl rfl (St_k w) (St_r0 w) ?_
    refine z_getI (q := 93) rfl rfl rfl (Sh_k (St_w0 w)) ?_
    rw [stS_g9]
    refine z_iload (q := 95) rfl rfl rfl ?_
    refine z_isub (q := 96) rfl rfl ?_
    refine z_iast (q := 97) rfl rfl (St_a6 w) (by first | assumption | exact vp_in_nI (by omega) (by omega)) ?_
    rw [stQ_w6]
    try rw [nI_clamp (by omega)]
    refine z_aload_n (q := 98) rfl rfl rfl ?_
    refine z_dup (q := 99) rfl rfl rfl ?_
    refine z_getI (q := 102) rfl rfl rfl (St_k w) ?_
    rw [stQ_g10]
    refine z_iconst (q := 103) (v := 1) rfl rfl rfl ?_
    refine z_iadd (q := 104) rfl rfl ?_
    refine z_putI (q := 107) rfl rfl rfl (by decide) rfl rfl (St_k w) ?_
    rw [stQ_u10]
    refine z_iload (q := 109) rfl rfl rfl ?_
    refine z_ireti rfl rfl ?_
    exact ⟨rfl, rfl⟩
  · exact absurd (nI_lt hD (by omega)) h9
