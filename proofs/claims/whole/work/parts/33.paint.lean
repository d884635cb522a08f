-- a painter's cells as one state
def paH (M : mz_M) (pb : Nat) (oc tb lv mx : Int32) : Nat → Int32 := fun k => match k with
  | 6 => oc
  | 7 => tb
  | 8 => lv
  | 9 => mx
  | k => M.1 pb k
def paB (M : mz_M) (pb : Nat) (oc tb lv mx : Int32) (fr tr tk ch co : Nat → Int32) : mz_M := (fun a => if a = pb then paH M pb oc tb lv mx else if a = pb + 7 then fr else if a = pb + 8 then tr else if a = pb + 9 then tk else if a = pb + 10 then ch else if a = pb + 11 then co else M.1 a, M.2)
def paQ (M : mz_M) (pb : Nat) (oc tb lv mx : Int32) (fr tr tk ch co : Nat → Int32) (s l t : Int32) (q : sQ) : mz_M := shQ (paB M pb oc tb lv mx fr tr tk ch co) (pb + 1) s l t q
theorem paQ_g6 {M : mz_M} {pb : Nat} {oc tb lv mx : Int32} {fr tr tk ch co : Nat → Int32} {s l t : Int32} {q : sQ} : (paQ M pb oc tb lv mx fr tr tk ch co s l t q).1 pb 6 = oc := by simp [paQ, shQ, shP, paB, paH, Nat.add_assoc]
theorem paQ_g7 {M : mz_M} {pb : Nat} {oc tb lv mx : Int32} {fr tr tk ch co : Nat → Int32} {s l t : Int32} {q : sQ} : (paQ M pb oc tb lv mx fr tr tk ch co s l t q).1 pb 7 = tb := by simp [paQ, shQ, shP, paB, paH, Nat.add_assoc]
theorem paQ_g8 {M : mz_M} {pb : Nat} {oc tb lv mx : Int32} {fr tr tk ch co : Nat → Int32} {s l t : Int32} {q : sQ} : (paQ M pb oc tb lv mx fr tr tk ch co s l t q).1 pb 8 = lv := by simp [paQ, shQ, shP, paB, paH, Nat.add_assoc]
theorem paQ_g9 {M : mz_M} {pb : Nat} {oc tb lv mx : Int32} {fr tr tk ch co : Nat → Int32} {s l t : Int32} {q : sQ} : (paQ M pb oc tb lv mx fr tr tk ch co s l t q).1 pb 9 = mx := by simp [paQ, shQ, shP, paB, paH, Nat.add_assoc]
theorem paQ_a1 {M : mz_M} {pb : Nat} {oc tb lv mx : Int32} {fr tr tk ch co : Nat → Int32} {s l t : Int32} {q : sQ} : (paQ M pb oc tb lv mx fr tr tk ch co s l t q).1 (pb + 7) = fr := by simp [paQ, shQ, shP, paB]
theorem paQ_a2 {M : mz_M} {pb : Nat} {oc tb lv mx : Int32} {fr tr tk ch co : Nat → Int32} {s l t : Int32} {q : sQ} : (paQ M pb oc tb lv mx fr tr tk ch co s l t q).1 (pb + 8) = tr := by simp [paQ, shQ, shP, paB]
theorem paQ_a3 {M : mz_M} {pb : Nat} {oc tb lv mx : Int32} {fr tr tk ch co : Nat → Int32} {s l t : Int32} {q : sQ} : (paQ M pb oc tb lv mx fr tr tk ch co s l t q).1 (pb + 9) = tk := by simp [paQ, shQ, shP, paB]
theorem paQ_a4 {M : mz_M} {pb : Nat} {oc tb lv mx : Int32} {fr tr tk ch co : Nat → Int32} {s l t : Int32} {q : sQ} : (paQ M pb oc tb lv mx fr tr tk ch co s l t q).1 (pb + 10) = ch := by simp [paQ, shQ, shP, paB]
theorem paQ_a5 {M : mz_M} {pb : Nat} {oc tb lv mx : Int32} {fr tr tk ch co : Nat → Int32} {s l t : Int32} {q : sQ} : (paQ M pb oc tb lv mx fr tr tk ch co s l t q).1 (pb + 11) = co := by simp [paQ, shQ, shP, paB]
theorem paS_g5 {M : mz_M} {pb : Nat} {oc tb lv mx : Int32} {fr tr tk ch co : Nat → Int32} {s l t : Int32} {q : sQ} : (paQ M pb oc tb lv mx fr tr tk ch co s l t q).1 (pb + 1) 5 = s := shP_g5
theorem paS_g6 {M : mz_M} {pb : Nat} {oc tb lv mx : Int32} {fr tr tk ch co : Nat → Int32} {s l t : Int32} {q : sQ} : (paQ M pb oc tb lv mx fr tr tk ch co s l t q).1 (pb + 1) 6 = l := shP_g6
theorem paS_g7 {M : mz_M} {pb : Nat} {oc tb lv mx : Int32} {fr tr tk ch co : Nat → Int32} {s l t : Int32} {q : sQ} : (paQ M pb oc tb lv mx fr tr tk ch co s l t q).1 (pb + 1) 7 = t := shP_g7
theorem paS_g8 {M : mz_M} {pb : Nat} {oc tb lv mx : Int32} {fr tr tk ch co : Nat → Int32} {s l t : Int32} {q : sQ} : (paQ M pb oc tb lv mx fr tr tk ch co s l t q).1 (pb + 1) 8 = nI q.1 := shP_g8
theorem paS_g9 {M : mz_M} {pb : Nat} {oc tb lv mx : Int32} {fr tr tk ch co : Nat → Int32} {s l t : Int32} {q : sQ} : (paQ M pb oc tb lv mx fr tr tk ch co s l t q).1 (pb + 1) 9 = q.2.2.2.2.2.2 := shP_g9
theorem paQ_u6 {M : mz_M} {pb : Nat} {oc tb lv mx : Int32} {fr tr tk ch co : Nat → Int32} {s l t : Int32} {q : sQ} {x : Int32} : mz_uI (paQ M pb oc tb lv mx fr tr tk ch co s l t q) pb 6 x = paQ M pb x tb lv mx fr tr tk ch co s l t q := by
  unfold mz_uI paQ shQ shP
  refine Prod.ext ?_ rfl
  funext a
  by_cases h : a = pb
  · subst h
    funext k
    rcases k with _ | _ | _ | _ | _ | _ | _ | _ | _ | _ | _ | k <;> simp [va_up, paB, paH, Nat.add_assoc]
  · by_cases h1 : a = pb + 1
    · subst h1
      funext k
      rcases k with _ | _ | _ | _ | _ | _ | _ | _ | _ | _ | k <;> simp [va_up, shF, paB]
    · simp [va_up, h, h1, paB]
theorem paQ_u7 {M : mz_M} {pb : Nat} {oc tb lv mx : Int32} {fr tr tk ch co : Nat → Int32} {s l t : Int32} {q : sQ} {x : Int32} : mz_uI (paQ M pb oc tb lv mx fr tr tk ch co s l t q) pb 7 x = paQ M pb oc x lv mx fr tr tk ch co s l t q := by
  unfold mz_uI paQ shQ shP
  refine Prod.ext ?_ rfl
  funext a
  by_cases h : a = pb
  · subst h
    funext k
    rcases k with _ | _ | _ | _ | _ | _ | _ | _ | _ | _ | _ | k <;> simp [va_up, paB, paH, Nat.add_assoc]
  · by_cases h1 : a = pb + 1
    · subst h1
      funext k
      rcases k with _ | _ | _ | _ | _ | _ | _ | _ | _ | _ | k <;> simp [va_up, shF, paB]
    · simp [va_up, h, h1, paB]
theorem paQ_u8 {M : mz_M} {pb : Nat} {oc tb lv mx : Int32} {fr tr tk ch co : Nat → Int32} {s l t : Int32} {q : sQ} {x : Int32} : mz_uI (paQ M pb oc tb lv mx fr tr tk ch co s l t q) pb 8 x = paQ M pb oc tb x mx fr tr tk ch co s l t q := by
  unfold mz_uI paQ shQ shP
  refine Prod.ext ?_ rfl
  funext a
  by_cases h : a = pb
  · subst h
    funext k
    rcases k with _ | _ | _ | _ | _ | _ | _ | _ | _ | _ | _ | k <;> simp [va_up, paB, paH, Nat.add_assoc]
  · by_cases h1 : a = pb + 1
    · subst h1
      funext k
      rcases k with _ | _ | _ | _ | _ | _ | _ | _ | _ | _ | k <;> simp [va_up, shF, paB]
    · simp [va_up, h, h1, paB]
theorem paQ_u9 {M : mz_M} {pb : Nat} {oc tb lv mx : Int32} {fr tr tk ch co : Nat → Int32} {s l t : Int32} {q : sQ} {x : Int32} : mz_uI (paQ M pb oc tb lv mx fr tr tk ch co s l t q) pb 9 x = paQ M pb oc tb lv x fr tr tk ch co s l t q := by
  unfold mz_uI paQ shQ shP
  refine Prod.ext ?_ rfl
  funext a
  by_cases h : a = pb
  · subst h
    funext k
    rcases k with _ | _ | _ | _ | _ | _ | _ | _ | _ | _ | _ | k <;> simp [va_up, paB, paH, Nat.add_assoc]
  · by_cases h1 : a = pb + 1
    · subst h1
      funext k
      rcases k with _ | _ | _ | _ | _ | _ | _ | _ | _ | _ | k <;> simp [va_up, shF, paB]
    · simp [va_up, h, h1, paB]
theorem paQ_w1 {M : mz_M} {pb : Nat} {oc tb lv mx : Int32} {fr tr tk ch co : Nat → Int32} {s l t : Int32} {q : sQ} {k : Nat} {x : Int32} : mz_uI (paQ M pb oc tb lv mx fr tr tk ch co s l t q) (pb + 7) k x = paQ M pb oc tb lv mx (va_up fr k x) tr tk ch co s l t q := by
  unfold mz_uI paQ shQ shP
  refine Prod.ext ?_ rfl
  funext a
  by_cases h : a = pb + 7
  · subst h
    simp [va_up, paB]
  · by_cases h1 : a = pb + 1
    · subst h1
      funext j
      rcases j with _ | _ | _ | _ | _ | _ | _ | _ | _ | _ | j <;> simp [va_up, shF, paB]
    · simp [va_up, h, h1, paB]
theorem paQ_w2 {M : mz_M} {pb : Nat} {oc tb lv mx : Int32} {fr tr tk ch co : Nat → Int32} {s l t : Int32} {q : sQ} {k : Nat} {x : Int32} : mz_uI (paQ M pb oc tb lv mx fr tr tk ch co s l t q) (pb + 8) k x = paQ M pb oc tb lv mx fr (va_up tr k x) tk ch co s l t q := by
  unfold mz_uI paQ shQ shP
  refine Prod.ext ?_ rfl
  funext a
  by_cases h : a = pb + 8
  · subst h
    simp [va_up, paB]
  · by_cases h1 : a = pb + 1
    · subst h1
      funext j
      rcases j with _ | _ | _ | _ | _ | _ | _ | _ | _ | _ | j <;> simp [va_up, shF, paB]
    · simp [va_up, h, h1, paB]
theorem paQ_w3 {M : mz_M} {pb : Nat} {oc tb lv mx : Int32} {fr tr tk ch co : Nat → Int32} {s l t : Int32} {q : sQ} {k : Nat} {x : Int32} : mz_uI (paQ M pb oc tb lv mx fr tr tk ch co s l t q) (pb + 9) k x = paQ M pb oc tb lv mx fr tr (va_up tk k x) ch co s l t q := by
  unfold mz_uI paQ shQ shP
  refine Prod.ext ?_ rfl
  funext a
  by_cases h : a = pb + 9
  · subst h
    simp [va_up, paB]
  · by_cases h1 : a = pb + 1
    · subst h1
      funext j
      rcases j with _ | _ | _ | _ | _ | _ | _ | _ | _ | _ | j <;> simp [va_up, shF, paB]
    · simp [va_up, h, h1, paB]
theorem paQ_w4 {M : mz_M} {pb : Nat} {oc tb lv mx : Int32} {fr tr tk ch co : Nat → Int32} {s l t : Int32} {q : sQ} {k : Nat} {x : Int32} : mz_uI (paQ M pb oc tb lv mx fr tr tk ch co s l t q) (pb + 10) k x = paQ M pb oc tb lv mx fr tr tk (va_up ch k x) co s l t q := by
  unfold mz_uI paQ shQ shP
  refine Prod.ext ?_ rfl
  funext a
  by_cases h : a = pb + 10
  · subst h
    simp [va_up, paB]
  · by_cases h1 : a = pb + 1
    · subst h1
      funext j
      rcases j with _ | _ | _ | _ | _ | _ | _ | _ | _ | _ | j <;> simp [va_up, shF, paB]
    · simp [va_up, h, h1, paB]
theorem paQ_w5 {M : mz_M} {pb : Nat} {oc tb lv mx : Int32} {fr tr tk ch co : Nat → Int32} {s l t : Int32} {q : sQ} {k : Nat} {x : Int32} : mz_uI (paQ M pb oc tb lv mx fr tr tk ch co s l t q) (pb + 11) k x = paQ M pb oc tb lv mx fr tr tk ch (va_up co k x) s l t q := by
  unfold mz_uI paQ shQ shP
  refine Prod.ext ?_ rfl
  funext a
  by_cases h : a = pb + 11
  · subst h
    simp [va_up, paB]
  · by_cases h1 : a = pb + 1
    · subst h1
      funext j
      rcases j with _ | _ | _ | _ | _ | _ | _ | _ | _ | _ | j <;> simp [va_up, shF, paB]
    · simp [va_up, h, h1, paB]
theorem paQ_o {M : mz_M} {pb : Nat} {oc tb lv mx : Int32} {fr tr tk ch co : Nat → Int32} {s l t : Int32} {q : sQ} {a : Nat} (h : pb + 11 < a) : (paQ M pb oc tb lv mx fr tr tk ch co s l t q).1 a = M.1 a := by
  unfold paQ shQ
  rw [shP_o (by omega) (by omega) (by omega) (by omega) (by omega)]
  show (if a = pb then _ else _) = _
  rw [if_neg (by omega), if_neg (by omega), if_neg (by omega), if_neg (by omega), if_neg (by omega), if_neg (by omega)]
theorem paQ_d {M : mz_M} {pb : Nat} {oc tb lv mx : Int32} {fr tr tk ch co : Nat → Int32} {s l t : Int32} {q : sQ} : shQ (paB M pb oc tb lv mx fr tr tk ch co) (pb + 1) s l t q = (paQ M pb oc tb lv mx fr tr tk ch co s l t q) := rfl
theorem q_Pa_begin {sc : Option (Nat × Nat × (Nat → Int32))} {sa : Nat → Nat} {d : Nat} {M : mz_M} {z : Nat × Nat} {pb : Nat} {oc tb lv mx : Int32} {fr tr tk ch co : Nat → Int32} {s l t : Int32} {q : sQ} (w : g_Pa M.2.2 pb) {st : Nat} (v : g_St M.2.2 st) (hf : pb + 11 < st) {x y : Int32} {row : Int64} : zx sc sa (d + 2) 1 [.ref pb, .ref st, .int x, .int y, .long row] (paQ M pb oc tb lv mx fr tr tk ch co s l t q) z z none (paQ M pb 3 0 0 y fr tr tk ch co (M.1 (st + 1) 5) x (M.1 (st + 1) 7) (bgQ row q)) := by
  have oH_g5 : ∀ {oc tb lv mx : Int32} {fr tr tk ch co : Nat → Int32} {s l t : Int32} {q : sQ}, (paQ M pb oc tb lv mx fr tr tk ch co s l t q).1 (st + 1) 5 = M.1 (st + 1) 5 := fun {oc tb lv mx fr tr tk ch co s l t q} => congrFun (paQ_o (by omega)) 5
  have oH_g7 : ∀ {oc tb lv mx : Int32} {fr tr tk ch co : Nat → Int32} {s l t : Int32} {q : sQ}, (paQ M pb oc tb lv mx fr tr tk ch co s l t q).1 (st + 1) 7 = M.1 (st + 1) 7 := fun {oc tb lv mx fr tr tk ch co s l t q} => congrFun (paQ_o (by omega)) 7
  refine zxin ym_Pa_begin [.ref pb, .ref st, .int x, .int y, .long row, .retAddr 0] rfl rfl rfl rfl ?_
  refine z_aload_n (q := 1) rfl rfl rfl ?_
  refine z_getR (q := 4) rfl rfl rfl (Pa_k w) (Pa_r0 w) ?_
  refine z_aload_n (q := 5) rfl rfl rfl ?_
  refine z_getR (q := 8) rfl rfl rfl (St_k v) (St_r0 v) ?_
  refine z_getI (q := 11) rfl rfl rfl (Sh_k (St_w0 v)) ?_
  rw [oH_g5]
  refine z_iload_n (q := 12) rfl rfl rfl ?_
  refine z_aload_n (q := 13) rfl rfl rfl ?_
  refine z_getR (q := 16) rfl rfl rfl (St_k v) (St_r0 v) ?_
  refine z_getI (q := 19) rfl rfl rfl (Sh_k (St_w0 v)) ?_
  rw [oH_g7]
  refine z_lload (q := 21) rfl rfl rfl ?_
  refine z_cv4v (q := 24) rfl rfl rfl (Sh_k (Pa_w0 w)) (q_Sh_begin (M := paB M pb oc tb lv mx fr tr tk ch co) (Pa_w0 w) (by omega) (by omega)) ?_
  rw [paQ_d]
  refine z_aload_n (q := 25) rfl rfl rfl ?_
  refine z_iconst (q := 26) (v := 3) rfl rfl rfl ?_
  refine z_putI (q := 29) rfl rfl rfl (by decide) rfl rfl (Pa_k w) ?_
  rw [paQ_u6]
  refine z_aload_n (q := 30) rfl rfl rfl ?_
  refine z_iconst (q := 31) (v := 0) rfl rfl rfl ?_
  refine z_putI (q := 34) rfl rfl rfl (by decide) rfl rfl (Pa_k w) ?_
  rw [paQ_u7]
  refine z_aload_n (q := 35) rfl rfl rfl ?_
  refine z_iconst (q := 36) (v := 0) rfl rfl rfl ?_
  refine z_putI (q := 39) rfl rfl rfl (by decide) rfl rfl (Pa_k w) ?_
  rw [paQ_u8]
  refine z_aload_n (q := 40) rfl rfl rfl ?_
  refine z_iload_n (q := 41) rfl rfl rfl ?_
  refine z_putI (q := 44) rfl rfl rfl (by decide) rfl rfl (Pa_k w) ?_
  rw [paQ_u9]
  refine z_ret rfl rfl ?_
  exact ⟨rfl, rfl⟩
def puQ (s l t : Int32) (j : Nat) (cell x oc : Int32) (q : sQ) : Int32 × Int32 × sQ := if q.1 < 200 then (nI q.1, oc, setQ s l t j cell x q) else (-1, 2, q)
theorem q_Pa_put1 {sc : Option (Nat × Nat × (Nat → Int32))} {sa : Nat → Nat} {d : Nat} {M : mz_M} {z : Nat × Nat} {pb : Nat} {oc tb lv mx : Int32} {fr tr tk ch co : Nat → Int32} {s l t : Int32} {q : sQ} (w : g_Pa M.2.2 pb) (hN : q.1 ≤ 200) {j : Nat} (hj : j < q.1) (ho : okl q.2.2.1 q.1) (h2 : q.1 < 200) {c x : Int32}  : zx sc sa (d + 4) 4 [.ref pb, .int (nI j), .int c, .int x] (paQ M pb oc tb lv mx fr tr tk ch co s l t q) z z (some (.int (nI q.1))) (paQ M pb oc tb lv mx fr tr tk ch co s l t (setQ s l t j c x q)) := by
  refine zxin ym_Pa_put [.ref pb, .int (nI j), .int c, .int x, .retAddr 0] rfl rfl rfl rfl ?_
  refine z_aload_n (q := 1) rfl rfl rfl ?_
  refine z_getR (q := 4) rfl rfl rfl (Pa_k w) (Pa_r0 w) ?_
  refine z_iload_n (q := 5) rfl rfl rfl ?_
  refine z_iload_n (q := 6) rfl rfl rfl ?_
  refine z_iload_n (q := 7) rfl rfl rfl ?_
  refine z_cv3i (q := 10) rfl rfl rfl (Sh_k (Pa_w0 w)) (q_Sh_setCell (M := paB M pb oc tb lv mx fr tr tk ch co) (Pa_w0 w) h2 (by omega) hj ho) ?_
  refine z_istore (q := 12) (L2 := [_, _, _, _, _]) rfl rfl rfl rfl ?_
  refine z_iload (q := 14) rfl rfl rfl ?_
  refine z_iconst (q := 15) (v := -1) rfl rfl rfl ?_
  refine z_ic_ne (q := 18) rfl rfl (fun h15 => ?_) (fun h15 => ?_)
  · refine z_iload (q := 25) rfl rfl rfl ?_
    refine z_ireti rfl rfl ?_
    exact ⟨rfl, rfl⟩
  · exact absurd h15 (nI_m1 (by omega))
theorem t_Sh_setCellF {sc : Option (Nat × Nat × (Nat → Int32))} {sa : Nat → Nat} {d : Nat} {M : mz_M} {z : Nat × Nat} {sh : Nat} {s l t : Int32} {q : sQ} (w : g_Sh M.2.2 sh 200) (h2 : q.1 = 200) {j : Nat} (hj : j < q.1) {cell x : Int32} : zx sc sa (d + 3) 56 [.ref sh, .int (nI j), .int cell, .int x] (shQ M sh s l t q) z z (some (.int (-1))) (shQ M sh s l t q) := by
  obtain ⟨n, q'⟩ := q
  have h3 : n = 200 := h2
  subst h3
  exact p_Sh_setCellF (d := d + 1) w (by omega) hj
theorem q_Pa_put0 {sc : Option (Nat × Nat × (Nat → Int32))} {sa : Nat → Nat} {d : Nat} {M : mz_M} {z : Nat × Nat} {pb : Nat} {oc tb lv mx : Int32} {fr tr tk ch co : Nat → Int32} {s l t : Int32} {q : sQ} (w : g_Pa M.2.2 pb) (hN : q.1 ≤ 200) {j : Nat} (hj : j < q.1) (ho : okl q.2.2.1 q.1) (h2 : q.1 = 200) {c x : Int32}  : zx sc sa (d + 4) 4 [.ref pb, .int (nI j), .int c, .int x] (paQ M pb oc tb lv mx fr tr tk ch co s l t q) z z (some (.int (-1))) (paQ M pb 2 tb lv mx fr tr tk ch co s l t q) := by
  refine zxin ym_Pa_put [.ref pb, .int (nI j), .int c, .int x, .retAddr 0] rfl rfl rfl rfl ?_
  refine z_aload_n (q := 1) rfl rfl rfl ?_
  refine z_getR (q := 4) rfl rfl rfl (Pa_k w) (Pa_r0 w) ?_
  refine z_iload_n (q := 5) rfl rfl rfl ?_
  refine z_iload_n (q := 6) rfl rfl rfl ?_
  refine z_iload_n (q := 7) rfl rfl rfl ?_
  refine z_cv3i (q := 10) rfl rfl rfl (Sh_k (Pa_w0 w)) (t_Sh_setCellF (M := paB M pb oc tb lv mx fr tr tk ch co) (Pa_w0 w) h2 hj) ?_
  rw [paQ_d]
  refine z_istore (q := 12) (L2 := [_, _, _, _, _]) rfl rfl rfl rfl ?_
  refine z_iload (q := 14) rfl rfl rfl ?_
  refine z_iconst (q := 15) (v := -1) rfl rfl rfl ?_
  refine z_ic_ne (q := 18) rfl rfl (fun h15 => ?_) (fun h15 => ?_)
  · exact absurd h15 (by decide)
  · refine z_aload_n (q := 19) rfl rfl rfl ?_
    refine z_iconst (q := 20) (v := 2) rfl rfl rfl ?_
    refine z_putI (q := 23) rfl rfl rfl (by decide) rfl rfl (Pa_k w) ?_
    rw [paQ_u6]
    refine z_iload (q := 25) rfl rfl rfl ?_
    refine z_ireti rfl rfl ?_
    exact ⟨rfl, rfl⟩
theorem q_Pa_put {sc : Option (Nat × Nat × (Nat → Int32))} {sa : Nat → Nat} {d : Nat} {M : mz_M} {z : Nat × Nat} {pb : Nat} {oc tb lv mx : Int32} {fr tr tk ch co : Nat → Int32} {s l t : Int32} {q : sQ} (w : g_Pa M.2.2 pb) (hN : q.1 ≤ 200) {j : Nat} (hj : j < q.1) (ho : okl q.2.2.1 q.1) {c x : Int32} : zx sc sa (d + 4) 4 [.ref pb, .int (nI j), .int c, .int x] (paQ M pb oc tb lv mx fr tr tk ch co s l t q) z z (some (.int (puQ s l t j c x oc q).1)) (paQ M pb (puQ s l t j c x oc q).2.1 tb lv mx fr tr tk ch co s l t (puQ s l t j c x oc q).2.2) := by
  unfold puQ
  by_cases h : q.1 < 200
  · rw [if_pos h]
    exact q_Pa_put1 w hN hj ho h
  · rw [if_neg h]
    exact q_Pa_put0 w hN hj ho (by omega)
theorem q_Pa_backFrom {sc : Option (Nat × Nat × (Nat → Int32))} {sa : Nat → Nat} {d : Nat} {M : mz_M} {z : Nat × Nat} {pb : Nat} {oc tb lv mx : Int32} {fr tr tk ch co : Nat → Int32} {s l t : Int32} {q : sQ} (w : g_Pa M.2.2 pb) {a : Nat} (ha : a ≤ 200) : zx sc sa (d + 1) 5 [.ref pb, .int (nI a)] (paQ M pb oc tb lv mx fr tr tk ch co s l t q) z z (some (.int (nI (a - 1)))) (paQ M pb (if a = 0 then 0 else oc) (if a = 0 then tb else tb + 1) lv mx fr tr tk ch co s l t q) := by
  refine zxin ym_Pa_backFrom [.ref pb, .int (nI a)] rfl rfl rfl rfl ?_
  refine z_iload_n (q := 1) rfl rfl rfl ?_
  refine z_if_ne (q := 4) rfl rfl (fun h1 => ?_) (fun h1 => ?_)
  · refine z_aload_n (q := 12) rfl rfl rfl ?_
    refine z_dup (q := 13) rfl rfl rfl ?_
    refine z_getI (q := 16) rfl rfl rfl (Pa_k w) ?_
    rw [paQ_g7]
    refine z_iconst (q := 17) (v := 1) rfl rfl rfl ?_
    refine z_iadd (q := 18) rfl rfl ?_
    refine z_putI (q := 21) rfl rfl rfl (by decide) rfl rfl (Pa_k w) ?_
    rw [paQ_u7]
    refine z_iload_n (q := 22) rfl rfl rfl ?_
    refine z_iconst (q := 23) (v := 1) rfl rfl rfl ?_
    refine z_isub (q := 24) rfl rfl ?_
    refine z_ireti rfl rfl ?_
    first
      | (have g1 : a = 0 := by
           rcases Nat.eq_zero_or_pos a with h | h
           · exact h
           · exact absurd h1 (nI_ne0 h (by omega))
         subst g1
         exact ⟨rfl, rfl⟩)
      | (have g1 : ¬ nI a = 0 := h1
         have g2 : ¬ a = 0 := fun h => g1 (by rw [h]; rfl)
         rw [if_neg g2, if_neg g2]
         obtain ⟨b, rfl⟩ : ∃ b, a = b + 1 := ⟨a - 1, by omega⟩
         rw [nI_pred]
         exact ⟨rfl, rfl⟩)
  · refine z_aload_n (q := 5) rfl rfl rfl ?_
    refine z_iconst (q := 6) (v := 0) rfl rfl rfl ?_
    refine z_putI (q := 9) rfl rfl rfl (by decide) rfl rfl (Pa_k w) ?_
    rw [paQ_u6]
    refine z_iconst (q := 10) (v := 0) rfl rfl rfl ?_
    refine z_ireti rfl rfl ?_
    first
      | (have g1 : a = 0 := by
           rcases Nat.eq_zero_or_pos a with h | h
           · exact h
           · exact absurd h1 (nI_ne0 h (by omega))
         subst g1
         exact ⟨rfl, rfl⟩)
      | (have g1 : ¬ nI a = 0 := h1
         have g2 : ¬ a = 0 := fun h => g1 (by rw [h]; rfl)
         rw [if_neg g2, if_neg g2]
         obtain ⟨b, rfl⟩ : ∃ b, a = b + 1 := ⟨a - 1, by omega⟩
         rw [nI_pred]
         exact ⟨rfl, rfl⟩)
theorem q_Pa_openCell {sc : Option (Nat × Nat × (Nat → Int32))} {sa : Nat → Nat} {d : Nat} {M : mz_M} {z : Nat × Nat} {pb : Nat} {oc tb lv mx : Int32} {fr tr tk ch co : Nat → Int32} {s l t : Int32} {q : sQ} (w : g_Pa M.2.2 pb) {c n : Nat} (hs : s = nI n) (hn : n ≤ 12) (hc : c ≤ n) {x : Int32} : zx sc sa (d + 1) 7 [.ref pb, .int (nI c), .int x] (paQ M pb oc tb lv mx fr tr tk ch co s l t q) z z none (paQ M pb (if c = n then 1 else oc) tb (if c = n then x else lv) mx (if c = n then fr else va_up fr c x) (if c = n then tr else va_up tr c 0) tk ch co s l t q) := by
  subst hs
  refine zxin ym_Pa_openCell [.ref pb, .int (nI c), .int x] rfl rfl rfl rfl ?_
  refine z_iload_n (q := 1) rfl rfl rfl ?_
  refine z_aload_n (q := 2) rfl rfl rfl ?_
  refine z_getR (q := 5) rfl rfl rfl (Pa_k w) (Pa_r0 w) ?_
  refine z_getI (q := 8) rfl rfl rfl (Sh_k (Pa_w0 w)) ?_
  rw [paS_g5]
  refine z_ic_ne (q := 11) rfl rfl (fun h8 => ?_) (fun h8 => ?_)
  · refine z_iload_n (q := 25) rfl rfl rfl ?_
    refine z_aload_n (q := 26) rfl rfl rfl ?_
    refine z_getR (q := 29) rfl rfl rfl (Pa_k w) (Pa_r1 w) ?_
    refine z_alen (q := 30) rfl rfl (Pa_a1 w) rfl rfl ?_
    refine z_ic_ge (q := 33) rfl rfl (fun h30 => ?_) (fun h30 => ?_)
    · exact absurd h30 (nI_ge (by omega) (by omega))
    · refine z_aload_n (q := 34) rfl rfl rfl ?_
      refine z_getR (q := 37) rfl rfl rfl (Pa_k w) (Pa_r1 w) ?_
      refine z_iload_n (q := 38) rfl rfl rfl ?_
      refine z_iload_n (q := 39) rfl rfl rfl ?_
      refine z_iast (q := 40) rfl rfl (Pa_a1 w) (by first | assumption | exact vp_in_nI (by omega) (by omega)) ?_
      rw [paQ_w1]
      try rw [nI_clamp (by omega)]
      refine z_aload_n (q := 41) rfl rfl rfl ?_
      refine z_getR (q := 44) rfl rfl rfl (Pa_k w) (Pa_r2 w) ?_
      refine z_iload_n (q := 45) rfl rfl rfl ?_
      refine z_iconst (q := 46) (v := 0) rfl rfl rfl ?_
      refine z_iast (q := 47) rfl rfl (Pa_a2 w) (by first | assumption | exact vp_in_nI (by omega) (by omega)) ?_
      rw [paQ_w2]
      try rw [nI_clamp (by omega)]
      refine z_ret rfl rfl ?_
      rw [nI_eq (by omega) (by omega)] at h8
      first
        | (have g1 : c = n := h8
           rw [if_pos g1, if_pos g1, if_pos g1, if_pos g1]
           exact ⟨rfl, rfl⟩)
        | (have g1 : ¬ c = n := h8
           rw [if_neg g1, if_neg g1, if_neg g1, if_neg g1]
           exact ⟨rfl, rfl⟩)
  · refine z_aload_n (q := 12) rfl rfl rfl ?_
    refine z_iconst (q := 13) (v := 1) rfl rfl rfl ?_
    refine z_putI (q := 16) rfl rfl rfl (by decide) rfl rfl (Pa_k w) ?_
    rw [paQ_u6]
    refine z_aload_n (q := 17) rfl rfl rfl ?_
    refine z_iload_n (q := 18) rfl rfl rfl ?_
    refine z_putI (q := 21) rfl rfl rfl (by decide) rfl rfl (Pa_k w) ?_
    rw [paQ_u8]
    refine z_goto rfl ?_
    refine z_ret rfl rfl ?_
    rw [nI_eq (by omega) (by omega)] at h8
    first
      | (have g1 : c = n := h8
         rw [if_pos g1, if_pos g1, if_pos g1, if_pos g1]
         exact ⟨rfl, rfl⟩)
      | (have g1 : ¬ c = n := h8
         rw [if_neg g1, if_neg g1, if_neg g1, if_neg g1]
         exact ⟨rfl, rfl⟩)
def bi1 (p : Int32) (i : Nat) : Int32 := (p.toUInt32 >>> ((nI i).toUInt32 &&& Int32.toUInt32 31)).toInt32 &&& 1
def isF (s l t : Int32) (f : Nat) (p x : Int32) : Nat → Nat → sQ → Bool × sQ
  | 0, _, q => (true, q)
  | k + 1, i, q => if bi1 p i = 0 then isF s l t f p x k (i + 1) q else if nmI (q.2.1 f) (nI i) = x then (false, rdQ s l t f (nI i) q) else isF s l t f p x k (i + 1) (rdQ s l t f (nI i) q)
theorem isF_s {s l t : Int32} {f : Nat} {p x : Int32} {k i : Nat} {q : sQ} : isF s l t f p x (k + 1) i q = if bi1 p i = 0 then isF s l t f p x k (i + 1) q else if nmI (q.2.1 f) (nI i) = x then (false, rdQ s l t f (nI i) q) else isF s l t f p x k (i + 1) (rdQ s l t f (nI i) q) := rfl
theorem rdQ_ok {s l t : Int32} {f : Nat} {c : Int32} {q : sQ} (hq : q.1 ≤ 200) (hf : f < q.1) (h : okl q.2.2.1 q.1) : okl (rdQ s l t f c q).2.2.1 (rdQ s l t f c q).1 := okl_rd (by omega) hf h
theorem isF_ok {s l t : Int32} {f : Nat} {p x : Int32} : ∀ k i (q : sQ), q.1 ≤ 200 → f < q.1 → okl q.2.2.1 q.1 → (isF s l t f p x k i q).2.1 = q.1 ∧ (isF s l t f p x k i q).2.2.1 = q.2.1 ∧ okl (isF s l t f p x k i q).2.2.2.1 (isF s l t f p x k i q).2.1 := by
  intro k
  induction k with
  | zero => intro i q h1 h2 h3; exact ⟨rfl, rfl, h3⟩
  | succ k ih =>
    intro i q h1 h2 h3
    rw [isF_s]
    by_cases c : bi1 p i = 0
    · rw [if_pos c]
      exact ih _ _ h1 h2 h3
    · rw [if_neg c]
      by_cases c2 : nmI (q.2.1 f) (nI i) = x
      · rw [if_pos c2]
        exact ⟨rfl, rfl, rdQ_ok h1 h2 h3⟩
      · rw [if_neg c2]
        have e := ih (i + 1) (rdQ s l t f (nI i) q) h1 h2 (rdQ_ok h1 h2 h3)
        exact e
theorem l_Pa_isFree {sc : Option (Nat × Nat × (Nat → Int32))} {sa : Nat → Nat} {d : Nat} {M : mz_M} {z : Nat × Nat} {pb : Nat} {oc tb lv mx : Int32} {fr tr tk ch co : Nat → Int32} {s l t : Int32} (w : g_Pa M.2.2 pb) {c f : Nat} (hc : c < 13) (hfr : fr c = nI f) {p x : Int32} : ∀ (k : Nat) (i : Nat) (q q1 : sQ) (b : Bool), i + k = c → q.1 ≤ 200 → f < q.1 → okl q.2.2.1 q.1 → isF s l t f p x k i q = (b, q1) → zw sc sa (d + 3) ym_Pa_isFree z (fun r' M' => r' = some (.int (bz (b = true))) ∧ M' = (paQ M pb oc tb lv mx fr tr tk ch co s l t q1)) 3 [.ref pb, .int p, .int (nI c), .int x, .int (nI i)] [] (paQ M pb oc tb lv mx fr tr tk ch co s l t q) z := by
  intro k
  induction k with
  | zero =>
    intro i q q1 b hi h1 h2 h3 hr
    obtain ⟨rfl, rfl⟩ := Prod.mk.inj hr
    have e1 : i = c := by omega
    subst e1
    refine z_iload (q := 5) rfl rfl rfl ?_
    refine z_iload_n (q := 6) rfl rfl rfl ?_
    refine z_ic_ge (q := 9) rfl rfl (fun h6 => ?_) (fun h6 => ?_)
    · refine z_iconst (q := 55) (v := 1) rfl rfl rfl ?_
      refine z_iretz rfl rfl (rfl) ?_
      exact ⟨rfl, rfl⟩
    · exact absurd (nI_le (Nat.le_refl _) (by omega)) h6
  | succ k ih =>
    intro i q q1 b hi h1 h2 h3 hr
    rw [isF_s] at hr
    refine z_iload (q := 5) rfl rfl rfl ?_
    refine z_iload_n (q := 6) rfl rfl rfl ?_
    refine z_ic_ge (q := 9) rfl rfl (fun h6 => ?_) (fun h6 => ?_)
    · exact absurd h6 (nI_ge (by omega) (by omega))
    · refine z_iload_n (q := 10) rfl rfl rfl ?_
      refine z_aload_n (q := 11) rfl rfl rfl ?_
      refine z_getR (q := 14) rfl rfl rfl (Pa_k w) (Pa_r1 w) ?_
      refine z_alen (q := 15) rfl rfl (Pa_a1 w) rfl rfl ?_
      refine z_ic_ge (q := 18) rfl rfl (fun h15 => ?_) (fun h15 => ?_)
      · exact absurd h15 (nI_ge (by omega) (by omega))
      · refine z_iload_n (q := 19) rfl rfl rfl ?_
        refine z_iload (q := 21) rfl rfl rfl ?_
        refine z_iushr (q := 22) rfl rfl ?_
        refine z_iconst (q := 23) (v := 1) rfl rfl rfl ?_
        refine z_iand (q := 24) rfl rfl ?_
        refine z_if_eq (q := 27) rfl rfl (fun h24 => ?_) (fun h24 => ?_)
        · refine z_iinc (q := 51) (L2 := [_, _, _, _, _]) rfl rfl rfl rfl ?_
          refine z_goto rfl ?_
          rw [show nI i + Int32.ofInt 1 = nI (i + 1) from (nI_succ i).symm]
          have g0 := h24
          first
            | (have g1 : bi1 p i = 0 := h24
               rw [if_pos g1] at hr
               exact ih (i + 1) q q1 b (by omega) h1 h2 h3 hr)
            | (have g1 : ¬ bi1 p i = 0 := h24
               rw [if_neg g1, if_neg h43] at hr
               exact ih (i + 1) (rdQ s l t f (nI i) q) q1 b (by omega) h1 h2 (rdQ_ok h1 h2 h3) hr)
        · refine z_aload_n (q := 28) rfl rfl rfl ?_
          refine z_getR (q := 31) rfl rfl rfl (Pa_k w) (Pa_r0 w) ?_
          refine z_aload_n (q := 32) rfl rfl rfl ?_
          refine z_getR (q := 35) rfl rfl rfl (Pa_k w) (Pa_r1 w) ?_
          refine z_iload_n (q := 36) rfl rfl rfl ?_
          refine z_iald (q := 37) rfl rfl (Pa_a1 w) (by first | assumption | exact vp_in_nI (by omega) (by omega)) ?_
          rw [paQ_a1]
          try rw [nI_clamp (by omega)]
          rw [hfr]
          refine z_iload (q := 39) rfl rfl rfl ?_
          refine z_cv2i (q := 42) rfl rfl rfl (Sh_k (Pa_w0 w)) (q_Sh_readCell (M := paB M pb oc tb lv mx fr tr tk ch co) (Pa_w0 w) h1 (by omega) h2 h3) ?_
          refine z_iload_n (q := 43) rfl rfl rfl ?_
          refine z_ic_ne (q := 46) rfl rfl (fun h43 => ?_) (fun h43 => ?_)
          · refine z_iinc (q := 51) (L2 := [_, _, _, _, _]) rfl rfl rfl rfl ?_
            refine z_goto rfl ?_
            rw [show nI i + Int32.ofInt 1 = nI (i + 1) from (nI_succ i).symm]
            have g0 := h24
            first
              | (have g1 : bi1 p i = 0 := h24
                 rw [if_pos g1] at hr
                 exact ih (i + 1) q q1 b (by omega) h1 h2 h3 hr)
              | (have g1 : ¬ bi1 p i = 0 := h24
                 rw [if_neg g1, if_neg h43] at hr
                 exact ih (i + 1) (rdQ s l t f (nI i) q) q1 b (by omega) h1 h2 (rdQ_ok h1 h2 h3) hr)
          · refine z_iconst (q := 47) (v := 0) rfl rfl rfl ?_
            refine z_iretz rfl rfl (rfl) ?_
            have g1 : ¬ bi1 p i = 0 := h24
            rw [if_neg g1, if_pos h43] at hr
            obtain ⟨rfl, rfl⟩ := Prod.mk.inj hr
            exact ⟨rfl, rfl⟩
theorem q_Pa_isFree {sc : Option (Nat × Nat × (Nat → Int32))} {sa : Nat → Nat} {d : Nat} {M : mz_M} {z : Nat × Nat} {pb : Nat} {oc tb lv mx : Int32} {fr tr tk ch co : Nat → Int32} {s l t : Int32} {q : sQ} (w : g_Pa M.2.2 pb) (hN : q.1 ≤ 200) {c f : Nat} (hc : c < 13) (hfr : fr c = nI f) (h2 : f < q.1) (h3 : okl q.2.2.1 q.1) {p x : Int32} : zx sc sa (d + 4) 9 [.ref pb, .int p, .int (nI c), .int x] (paQ M pb oc tb lv mx fr tr tk ch co s l t q) z z (some (.int (bz ((isF s l t f p x c 0 q).1 = true)))) (paQ M pb oc tb lv mx fr tr tk ch co s l t (isF s l t f p x c 0 q).2) := by
  refine zxin ym_Pa_isFree [.ref pb, .int p, .int (nI c), .int x, .retAddr 0] rfl rfl rfl rfl ?_
  refine z_iconst (q := 1) (v := 0) rfl rfl rfl ?_
  refine z_istore (q := 3) (L2 := [_, _, _, _, _]) rfl rfl rfl rfl ?_
  exact l_Pa_isFree w hc hfr c 0 q _ _ (by omega) hN h2 h3 rfl
def pnF (s l t : Int32) (f c : Nat) (p oc : Int32) : Nat → Nat → sQ → Int32 × Nat × Int32 × sQ
  | 0, a, q => (-1, a, oc, q)
  | k + 1, a, q => if (isF s l t f p (nI (a + 1)) c 0 q).1 = true then ((puQ s l t f (nI c) (nI (a + 1)) oc (isF s l t f p (nI (a + 1)) c 0 q).2).1, a + 1, (puQ s l t f (nI c) (nI (a + 1)) oc (isF s l t f p (nI (a + 1)) c 0 q).2).2) else pnF s l t f c p oc k (a + 1) (isF s l t f p (nI (a + 1)) c 0 q).2
theorem pnF_s {s l t : Int32} {f c : Nat} {p oc : Int32} {k a : Nat} {q : sQ} : pnF s l t f c p oc (k + 1) a q = if (isF s l t f p (nI (a + 1)) c 0 q).1 = true then ((puQ s l t f (nI c) (nI (a + 1)) oc (isF s l t f p (nI (a + 1)) c 0 q).2).1, a + 1, (puQ s l t f (nI c) (nI (a + 1)) oc (isF s l t f p (nI (a + 1)) c 0 q).2).2) else pnF s l t f c p oc k (a + 1) (isF s l t f p (nI (a + 1)) c 0 q).2 := rfl
theorem up_up {f : Nat → Int32} {k : Nat} {x y : Int32} : va_up (va_up f k x) k y = va_up f k y := by
  funext a
  unfold va_up
  by_cases h : a = k
  · simp [h]
  · simp [h]
theorem up_at {f : Nat → Int32} {k : Nat} {x : Int32} : va_up f k x k = x := by simp [va_up]
theorem up_id {f : Nat → Int32} {k : Nat} {x : Int32} (h : f k = x) : va_up f k x = f := by
  funext a
  unfold va_up
  by_cases h2 : a = k
  · simp [h2, h]
  · simp [h2]
theorem t_St_partners {sc : Option (Nat × Nat × (Nat → Int32))} {sa : Nat → Nat} {d : Nat} {M : mz_M} {z : Nat × Nat} {pb : Nat} {oc tb lv mx : Int32} {fr tr tk ch co : Nat → Int32} {s l t : Int32} {q : sQ} {st : Nat} (v : g_St M.2.2 st) (hf : pb + 11 < st) {c : Nat} (hc : c < 12) : zx sc sa (d + 1) 72 [.ref st, .int (nI c)] (paQ M pb oc tb lv mx fr tr tk ch co s l t q) z z (some (.int (M.1 (st + 7) c))) (paQ M pb oc tb lv mx fr tr tk ch co s l t q) := by
  have e := @s_St_partnersOf sc sa d (paQ M pb oc tb lv mx fr tr tk ch co s l t q) z st v c hc
  rw [show (paQ M pb oc tb lv mx fr tr tk ch co s l t q).1 (st + 7) = M.1 (st + 7) from paQ_o (by omega)] at e
  exact e
theorem l_Pa_paintNext {sc : Option (Nat × Nat × (Nat → Int32))} {sa : Nat → Nat} {d : Nat} {M : mz_M} {z : Nat × Nat} {pb : Nat} {oc tb lv mx : Int32} {fr tr tk ch co : Nat → Int32} {s l t : Int32} (w : g_Pa M.2.2 pb) {st : Nat} (v : g_St M.2.2 st) (hf : pb + 11 < st) {c f : Nat} (hc : c < 13) (hfr : fr c = nI f) {n m : Nat} (hs : s = nI n) (hn : n ≤ 12) (hcn : c < n) (hm : mx = nI m) (hm2 : m ≤ 20)  : ∀ (k : Nat) (a a1 : Nat) (q q1 : sQ) (r oc1 : Int32), a + k = m → q.1 ≤ 200 → f < q.1 → okl q.2.2.1 q.1 → pnF s l t f c (M.1 (st + 7) c) oc k a q = (r, a1, oc1, q1) → zw sc sa (d + 4) ym_Pa_paintNext z (fun r' M' => r' = some (.int r) ∧ M' = (paQ M pb oc1 tb lv mx fr (va_up tr c (nI a1)) tk ch co s l t q1)) 22 [.ref pb, .ref st, .int (nI c)] [] (paQ M pb oc tb lv mx fr (va_up tr c (nI a)) tk ch co s l t q) z := by
  intro k
  induction k with
  | zero =>
    intro a a1 q q1 r oc1 hi h1 h2 h3 hr
    have e1 : a = m := by omega
    subst e1
    have e2 : ((-1 : Int32), a, oc, q) = (r, a1, oc1, q1) := hr
    simp only [Prod.mk.injEq] at e2
    obtain ⟨rfl, rfl, rfl, rfl⟩ := e2
    clear hr
    refine z_aload_n (q := 23) rfl rfl rfl ?_
    refine z_getR (q := 26) rfl rfl rfl (Pa_k w) (Pa_r2 w) ?_
    refine z_iload_n (q := 27) rfl rfl rfl ?_
    refine z_iald (q := 28) rfl rfl (Pa_a2 w) (by first | assumption | exact vp_in_nI (by omega) (by omega)) ?_
    rw [paQ_a2]
    try rw [nI_clamp (by omega)]
    rw [up_at]
    refine z_aload_n (q := 29) rfl rfl rfl ?_
    refine z_getI (q := 32) rfl rfl rfl (Pa_k w) ?_
    rw [paQ_g9]
    refine z_ic_ge (q := 35) rfl rfl (fun h32 => ?_) (fun h32 => ?_)
    · refine z_iconst (q := 83) (v := -1) rfl rfl rfl ?_
      refine z_ireti rfl rfl ?_
      exact ⟨rfl, rfl⟩
    · exact absurd (by rw [hm]; exact nI_le (Nat.le_refl _) (by omega)) h32
  | succ k ih =>
    intro a a1 q q1 r oc1 hi h1 h2 h3 hr
    rw [pnF_s] at hr
    have hk := @isF_ok s l t f (M.1 (st + 7) c) (nI (a + 1)) c 0 q h1 h2 h3
    refine z_aload_n (q := 23) rfl rfl rfl ?_
    refine z_getR (q := 26) rfl rfl rfl (Pa_k w) (Pa_r2 w) ?_
    refine z_iload_n (q := 27) rfl rfl rfl ?_
    refine z_iald (q := 28) rfl rfl (Pa_a2 w) (by first | assumption | exact vp_in_nI (by omega) (by omega)) ?_
    rw [paQ_a2]
    try rw [nI_clamp (by omega)]
    rw [up_at]
    refine z_aload_n (q := 29) rfl rfl rfl ?_
    refine z_getI (q := 32) rfl rfl rfl (Pa_k w) ?_
    rw [paQ_g9]
    refine z_ic_ge (q := 35) rfl rfl (fun h32 => ?_) (fun h32 => ?_)
    · rw [hm] at h32
      exact absurd h32 (nI_ge (by omega) (by omega))
    · refine z_aload_n (q := 36) rfl rfl rfl ?_
      refine z_getR (q := 39) rfl rfl rfl (Pa_k w) (Pa_r2 w) ?_
      refine z_iload_n (q := 40) rfl rfl rfl ?_
      refine z_dup2 (q := 41) rfl rfl rfl rfl ?_
      refine z_iald (q := 42) rfl rfl (Pa_a2 w) (by first | assumption | exact vp_in_nI (by omega) (by omega)) ?_
      rw [paQ_a2]
      try rw [nI_clamp (by omega)]
      rw [up_at]
      refine z_iconst (q := 43) (v := 1) rfl rfl rfl ?_
      refine z_iadd (q := 44) rfl rfl ?_
      refine z_iast (q := 45) rfl rfl (Pa_a2 w) (by first | assumption | exact vp_in_nI (by omega) (by omega)) ?_
      rw [paQ_w2]
      try rw [nI_clamp (by omega)]
      rw [up_up, ← nI_succ]
      refine z_aload_n (q := 46) rfl rfl rfl ?_
      refine z_aload_n (q := 47) rfl rfl rfl ?_
      refine z_iload_n (q := 48) rfl rfl rfl ?_
      refine z_cv1i (q := 51) rfl rfl rfl (St_k v) (t_St_partners v hf (by omega)) ?_
      refine z_iload_n (q := 52) rfl rfl rfl ?_
      refine z_aload_n (q := 53) rfl rfl rfl ?_
      refine z_getR (q := 56) rfl rfl rfl (Pa_k w) (Pa_r2 w) ?_
      refine z_iload_n (q := 57) rfl rfl rfl ?_
      refine z_iald (q := 58) rfl rfl (Pa_a2 w) (by first | assumption | exact vp_in_nI (by omega) (by omega)) ?_
      rw [paQ_a2]
      try rw [nI_clamp (by omega)]
      rw [up_at]
      refine z_cv3i (q := 61) rfl rfl rfl (Pa_k w) (q_Pa_isFree w h1 hc hfr h2 h3) ?_
      refine z_if_eq (q := 64) rfl rfl (fun h61 => ?_) (fun h61 => ?_)
      · rw [bz_0] at h61
        rw [if_neg h61] at hr
        exact ih (a + 1) a1 _ q1 r oc1 (by omega) (by rw [hk.1]; exact h1) (by rw [hk.1]; exact h2) hk.2.2 hr
      · refine z_aload_n (q := 65) rfl rfl rfl ?_
        refine z_aload_n (q := 66) rfl rfl rfl ?_
        refine z_getR (q := 69) rfl rfl rfl (Pa_k w) (Pa_r1 w) ?_
        refine z_iload_n (q := 70) rfl rfl rfl ?_
        refine z_iald (q := 71) rfl rfl (Pa_a1 w) (by first | assumption | exact vp_in_nI (by omega) (by omega)) ?_
        rw [paQ_a1]
        try rw [nI_clamp (by omega)]
        rw [hfr]
        refine z_iload_n (q := 72) rfl rfl rfl ?_
        refine z_aload_n (q := 73) rfl rfl rfl ?_
        refine z_getR (q := 76) rfl rfl rfl (Pa_k w) (Pa_r2 w) ?_
        refine z_iload_n (q := 77) rfl rfl rfl ?_
        refine z_iald (q := 78) rfl rfl (Pa_a2 w) (by first | assumption | exact vp_in_nI (by omega) (by omega)) ?_
        rw [paQ_a2]
        try rw [nI_clamp (by omega)]
        rw [up_at]
        refine z_cv3i (q := 81) rfl rfl rfl (Pa_k w) (q_Pa_put w (by rw [hk.1]; exact h1) (by rw [hk.1]; exact h2) hk.2.2) ?_
        refine z_ireti rfl rfl ?_
        rw [bz_n] at h61
        rw [if_pos h61] at hr
        simp only [Prod.mk.injEq] at hr
        obtain ⟨rfl, rfl, hr⟩ := hr
        rw [hr]
        exact ⟨rfl, rfl⟩
theorem t_Pa_hasCell {sc : Option (Nat × Nat × (Nat → Int32))} {sa : Nat → Nat} {d : Nat} {M : mz_M} {z : Nat × Nat} {pb : Nat} {oc tb lv mx : Int32} {fr tr tk ch co : Nat → Int32} {s l t : Int32} {q : sQ} (w : g_Pa M.2.2 pb) {c n : Nat} (hs : s = nI n) (hn : n ≤ 12) (hcn : c < n) : zx sc sa (d + 1) 20 [.ref (pb + 1), .int (nI c)] (paQ M pb oc tb lv mx fr tr tk ch co s l t q) z z (some (.int 1)) (paQ M pb oc tb lv mx fr tr tk ch co s l t q) := by
  have e := @s_Sh_hasCell sc sa d (paQ M pb oc tb lv mx fr tr tk ch co s l t q) z (pb + 1) 200 (Pa_w0 w) (nI c)
  rw [paS_g5, hs, bz_t ⟨nI_pos' (by omega), nI_lt hcn (by omega)⟩] at e
  rw [hs]
  exact e
theorem q_Pa_paintNext {sc : Option (Nat × Nat × (Nat → Int32))} {sa : Nat → Nat} {d : Nat} {M : mz_M} {z : Nat × Nat} {pb : Nat} {oc tb lv mx : Int32} {fr tr tk ch co : Nat → Int32} {s l t : Int32} {q : sQ} (w : g_Pa M.2.2 pb) {st : Nat} (v : g_St M.2.2 st) (hf : pb + 11 < st) {c f : Nat} (hc : c < 13) (hfr : fr c = nI f) {n m : Nat} (hs : s = nI n) (hn : n ≤ 12) (hcn : c < n) (hm : mx = nI m) (hm2 : m ≤ 20) (hN : q.1 ≤ 200) (h2 : f < q.1) (h3 : okl q.2.2.1 q.1) {a : Nat} (ha : tr c = nI a) (ha2 : a ≤ m) : zx sc sa (d + 5) 8 [.ref pb, .ref st, .int (nI c)] (paQ M pb oc tb lv mx fr tr tk ch co s l t q) z z (some (.int (pnF s l t f c (M.1 (st + 7) c) oc (m - a) a q).1)) (paQ M pb (pnF s l t f c (M.1 (st + 7) c) oc (m - a) a q).2.2.1 tb lv mx fr (va_up tr c (nI (pnF s l t f c (M.1 (st + 7) c) oc (m - a) a q).2.1)) tk ch co s l t (pnF s l t f c (M.1 (st + 7) c) oc (m - a) a q).2.2.2) := by
  refine zxin ym_Pa_paintNext [.ref pb, .ref st, .int (nI c)] rfl rfl rfl rfl ?_
  refine z_aload_n (q := 1) rfl rfl rfl ?_
  refine z_getR (q := 4) rfl rfl rfl (Pa_k w) (Pa_r0 w) ?_
  refine z_iload_n (q := 5) rfl rfl rfl ?_
  refine z_cv1i (q := 8) rfl rfl rfl (Sh_k (Pa_w0 w)) (t_Pa_hasCell w hs hn hcn) ?_
  refine z_if_eq (q := 11) rfl rfl (fun h8 => ?_) (fun h8 => ?_)
  · exact absurd h8 (by decide)
  · refine z_iload_n (q := 12) rfl rfl rfl ?_
    refine z_aload_n (q := 13) rfl rfl rfl ?_
    refine z_getR (q := 16) rfl rfl rfl (Pa_k w) (Pa_r1 w) ?_
    refine z_alen (q := 17) rfl rfl (Pa_a1 w) rfl rfl ?_
    refine z_ic_lt (q := 20) rfl rfl (fun h17 => ?_) (fun h17 => ?_)
    · have e := l_Pa_paintNext (sc := sc) (sa := sa) (d := d) (z := z) (tb := tb) (lv := lv) (tk := tk) (ch := ch) (co := co) (oc := oc) (l := l) (t := t) (tr := tr) w v hf hc hfr hs hn hcn hm hm2 (m - a) a _ q _ _ _ (by omega) hN h2 h3 (rfl : (pnF s l t f c (M.1 (st + 7) c) oc (m - a) a q) = ((pnF s l t f c (M.1 (st + 7) c) oc (m - a) a q).1, (pnF s l t f c (M.1 (st + 7) c) oc (m - a) a q).2.1, (pnF s l t f c (M.1 (st + 7) c) oc (m - a) a q).2.2.1, (pnF s l t f c (M.1 (st + 7) c) oc (m - a) a q).2.2.2))
      rw [up_id ha] at e
      exact e
    · exact absurd (nI_lt hc (by omega)) h17
theorem puQ_ok {s l t : Int32} {j : Nat} {cell x oc : Int32} {q : sQ} (hq : q.1 ≤ 200) (hj : j < q.1) (h : okl q.2.2.1 q.1) : q.1 ≤ (puQ s l t j cell x oc q).2.2.1 ∧ (puQ s l t j cell x oc q).2.2.1 ≤ 200 ∧ okl (puQ s l t j cell x oc q).2.2.2.2.1 (puQ s l t j cell x oc q).2.2.1 ∧ ((puQ s l t j cell x oc q).1 = -1 ∨ ∃ g, g < (puQ s l t j cell x oc q).2.2.1 ∧ (puQ s l t j cell x oc q).1 = nI g) := by
  unfold puQ
  by_cases c : q.1 < 200
  · rw [if_pos c]
    exact ⟨Nat.le_succ _, c, okl_st (by omega) hj h, Or.inr ⟨q.1, Nat.lt_succ_self _, rfl⟩⟩
  · rw [if_neg c]
    exact ⟨Nat.le_refl _, hq, h, Or.inl rfl⟩
theorem pnF_ok {s l t : Int32} {f c : Nat} {p oc : Int32} : ∀ k a (q : sQ), q.1 ≤ 200 → f < q.1 → okl q.2.2.1 q.1 → q.1 ≤ (pnF s l t f c p oc k a q).2.2.2.1 ∧ (pnF s l t f c p oc k a q).2.2.2.1 ≤ 200 ∧ okl (pnF s l t f c p oc k a q).2.2.2.2.2.1 (pnF s l t f c p oc k a q).2.2.2.1 ∧ (pnF s l t f c p oc k a q).2.1 ≤ a + k ∧ ((pnF s l t f c p oc k a q).1 = -1 ∨ ∃ g, g < (pnF s l t f c p oc k a q).2.2.2.1 ∧ (pnF s l t f c p oc k a q).1 = nI g) := by
  intro k
  induction k with
  | zero => intro a q h1 h2 h3; exact ⟨Nat.le_refl _, h1, h3, Nat.le_refl _, Or.inl rfl⟩
  | succ k ih =>
    intro a q h1 h2 h3
    have hk := @isF_ok s l t f p (nI (a + 1)) c 0 q h1 h2 h3
    rw [pnF_s]
    by_cases c1 : (isF s l t f p (nI (a + 1)) c 0 q).1 = true
    · rw [if_pos c1]
      have e := @puQ_ok s l t f (nI c) (nI (a + 1)) oc (isF s l t f p (nI (a + 1)) c 0 q).2 (by rw [hk.1]; exact h1) (by rw [hk.1]; exact h2) hk.2.2
      rw [hk.1] at e
      exact ⟨e.1, e.2.1, e.2.2.1, by show a + 1 ≤ a + (k + 1); omega, e.2.2.2⟩
    · rw [if_neg c1]
      have e := ih (a + 1) (isF s l t f p (nI (a + 1)) c 0 q).2 (by rw [hk.1]; exact h1) (by rw [hk.1]; exact h2) hk.2.2
      rw [hk.1] at e
      exact ⟨e.1, e.2.1, e.2.2.1, by omega, e.2.2.2.2⟩
abbrev kS : Type := Int32 × Int32 × Int32 × Nat × (Nat → Int32) × (Nat → Int32) × sQ
def kN (s l t : Int32) (m : Nat) (P : Nat → Int32) (x : kS) : Int32 × Nat × Int32 × sQ := pnF s l t (x.2.2.2.2.1 x.2.2.2.1).toNatClampNeg x.2.2.2.1 (P x.2.2.2.1) x.1 (m - (x.2.2.2.2.2.1 x.2.2.2.1).toNatClampNeg) (x.2.2.2.2.2.1 x.2.2.2.1).toNatClampNeg x.2.2.2.2.2.2
def kU (n : Nat) (x : kS) (r : Int32 × Nat × Int32 × sQ) : kS :=
  if r.1 = -1 then (if r.2.2.1 = 3 then (if x.2.2.2.1 = 0 then 0 else r.2.2.1, if x.2.2.2.1 = 0 then x.2.1 else x.2.1 + 1, x.2.2.1, x.2.2.2.1 - 1, x.2.2.2.2.1, va_up x.2.2.2.2.2.1 x.2.2.2.1 (nI r.2.1), r.2.2.2) else (r.2.2.1, x.2.1, x.2.2.1, x.2.2.2.1, x.2.2.2.2.1, va_up x.2.2.2.2.2.1 x.2.2.2.1 (nI r.2.1), r.2.2.2))
  else (if x.2.2.2.1 + 1 = n then 1 else r.2.2.1, x.2.1, if x.2.2.2.1 + 1 = n then r.1 else x.2.2.1, x.2.2.2.1 + 1, if x.2.2.2.1 + 1 = n then x.2.2.2.2.1 else va_up x.2.2.2.2.1 (x.2.2.2.1 + 1) r.1, if x.2.2.2.1 + 1 = n then va_up x.2.2.2.2.2.1 x.2.2.2.1 (nI r.2.1) else va_up (va_up x.2.2.2.2.2.1 x.2.2.2.1 (nI r.2.1)) (x.2.2.2.1 + 1) 0, r.2.2.2)
def kG (s l t : Int32) (n m : Nat) (P : Nat → Int32) : Nat → kS → kS
  | 0, x => x
  | k + 1, x => if x.1 = 3 then kG s l t n m P k (kU n x (kN s l t m P x)) else x
theorem kG_s {s l t : Int32} {n m : Nat} {P : Nat → Int32} {k : Nat} {x : kS} : kG s l t n m P (k + 1) x = if x.1 = 3 then kG s l t n m P k (kU n x (kN s l t m P x)) else x := rfl
def kI (n m : Nat) (x : kS) : Prop := x.2.2.2.2.2.2.1 ≤ 200 ∧ okl x.2.2.2.2.2.2.2.2.1 x.2.2.2.2.2.2.1 ∧ x.2.2.2.1 ≤ n ∧ (x.1 = 3 → x.2.2.2.1 < n) ∧ ∀ i, i ≤ x.2.2.2.1 → i < n → (∃ f, f < x.2.2.2.2.2.2.1 ∧ x.2.2.2.2.1 i = nI f) ∧ ∃ a, a ≤ m ∧ x.2.2.2.2.2.1 i = nI a
theorem up_ne {f : Nat → Int32} {k i : Nat} {x : Int32} (h : ¬ i = k) : va_up f k x i = f i := by simp [va_up, h]
theorem kU_ok {s l t : Int32} {n m : Nat} {P : Nat → Int32} {x : kS} (hm : m ≤ 20) (h : kI n m x) (h3 : x.1 = 3) : kI n m (kU n x (kN s l t m P x)) := by
  obtain ⟨oc, tb, lv, c, fr, tr, q⟩ := x
  obtain ⟨h1, h2, h4, h5, h6⟩ := h
  dsimp only at h1 h2 h4 h5 h6 h3
  have hc := h5 h3
  obtain ⟨⟨f, hf, ef⟩, a, ha, ea⟩ := h6 c (Nat.le_refl _) hc
  have e := @pnF_ok s l t f c (P c) oc (m - a) a q h1 hf h2
  have er : kN s l t m P (oc, tb, lv, c, fr, tr, q) = pnF s l t f c (P c) oc (m - a) a q := by
    unfold kN
    dsimp only
    rw [ef, ea, nI_clamp (by omega), nI_clamp (by omega)]
  rw [er]
  generalize pnF s l t f c (P c) oc (m - a) a q = r at e
  obtain ⟨r0, r1, r2, q1⟩ := r
  obtain ⟨g1, g2, g3, g4, g5⟩ := e
  dsimp only at g1 g2 g3 g4 g5
  unfold kU
  dsimp only
  have hold : ∀ i, i ≤ c → i < n → (∃ f, f < q1.1 ∧ fr i = nI f) ∧ ∃ a, a ≤ m ∧ va_up tr c (nI r1) i = nI a := by
    intro i hi hi2
    obtain ⟨⟨f2, hf2, e2⟩, a2, ha2, e3⟩ := h6 i hi hi2
    refine ⟨⟨f2, by omega, e2⟩, ?_⟩
    by_cases c0 : i = c
    · subst c0
      exact ⟨r1, by omega, up_at⟩
    · exact ⟨a2, ha2, by rw [up_ne c0]; exact e3⟩
  by_cases c1 : r0 = -1
  · rw [if_pos c1]
    by_cases c2 : r2 = 3
    · rw [if_pos c2]
      refine ⟨g2, g3, ?_, fun _ => ?_, fun i hi hi2 => hold i ?_ hi2⟩
      · show c - 1 ≤ n; omega
      · show c - 1 < n; omega
      · have hi3 : i ≤ c - 1 := hi
        omega
    · rw [if_neg c2]
      exact ⟨g2, g3, h4, fun _ => hc, hold⟩
  · rw [if_neg c1]
    obtain ⟨g, hg, eg⟩ := g5.resolve_left c1
    by_cases c2 : c + 1 = n
    · simp only [if_pos c2]
      refine ⟨g2, g3, hc, fun hh => absurd hh (by show ¬ (1 : Int32) = 3; decide), fun i hi hi2 => hold i ?_ hi2⟩
      have hi3 : i ≤ c + 1 := hi
      omega
    · simp only [if_neg c2]
      refine ⟨g2, g3, hc, fun _ => by show c + 1 < n; omega, fun i hi hi2 => ?_⟩
      have hi3 : i ≤ c + 1 := hi
      dsimp only
      by_cases c3 : i = c + 1
      · subst c3
        exact ⟨⟨g, hg, by rw [up_at]; exact eg⟩, 0, Nat.zero_le _, up_at⟩
      · obtain ⟨e1, e2⟩ := hold i (by omega) hi2
        exact ⟨by rw [up_ne c3]; exact e1, by rw [up_ne c3]; exact e2⟩
