section
variable {p : Program} {l : Launch} {e : Env} {R : Room} {s : State} {m : MethodId} {args : Array Value} {below : List Frame} {meth : Method} {c : Code} {Qw : State → Prop}
variable {D : va_G} {C : Nat → ClassId} {z0 : Nat} {sc : Option (Nat × Nat × (Nat → Int32))} {sa sv : Nat → Nat}
theorem ms_cv {K : mz_K} {d : Nat} {Y : mz_Y} {zs B : Nat × Nat} {Q : mz_P} {pc : Nat} {L st : List Value} {M : mz_M} {z : Nat × Nat} (X : ms_X p l e R s m args below meth c Qw D C z0 sc sa sv K d Y zs B Q) {x y n c2 r a : Nat} {z' : Nat × Nat} (hd : decode Y.2.1 pc = .ok (.invokevirtual x, 3)) (hy : y < 292) (h6 : c2 < 6) (hc : c2 = (mz_yD y).2.2.2.2.1) (hn : n = mz_np.getD y 0) (hi : (mz_yD y).2.2.2.2.2.1 = false) (hst : mz_sts y = false) (hq : mz_LT r = some (Y.2.2.2.2.1, x, 5, y, 0)) (ha : st[n]? = some (.ref a)) (hk : mz_kd M a = 10 + c2) (hlen : n + 1 ≤ st.length) (hsum : mz_sum (st.drop (n + 1)) ≤ 8) (hz1 : z.1 ≤ z'.1) (hz2 : z.2 ≤ z'.2) (hz3 : z'.1 ≤ B.1) (hz4 : z'.2 ≤ B.2) (hK : K y (st.take (n + 1)).reverse M z z' (fun r M' => ms_Pw p l e R s m args below meth c Qw D C z0 Y.2.2.1 zs B (pc + 3) L (r.toList ++ st.drop (n + 1)) M' z')) : ms_Pw p l e R s m args below meth c Qw D C z0 Y.2.2.1 zs B pc L st M z := by
  intro H locs ls g
  obtain ⟨hx, hb, hml, hown, hts, -, hE, -, hs, hz, hR, hKs, -⟩ := X
  have u1 := g.2.2.1
  have u2 := g.2.2.2.1
  have u3 := g.S.1
  obtain ⟨r1, r2, r3, r4⟩ := hR
  obtain ⟨As, e1, e2, e3⟩ := ms_split hlen ha
  rw [e1] at hK
  obtain ⟨hd1, hM⟩ := hKs y _ M z z' _ hK hz1 hz2
  unfold mw_Met at hM
  rw [mw_y_of hy] at hM
  obtain ⟨f1, f2, f3, f4, f5, f6, f7⟩ := ms_cmf hy
  refine ms_size fun hsz0 => ?_
  have hsz := g.sz hs hz hsz0
  obtain ⟨h1, h2⟩ := mw_in g.kz hk (by omega)
  have he : (mw_w C M z0 (z.1 - z0))[a - z0]? = some (a, .inr (c2, mz_fs M c2 a)) := by rw [mw_get h1 h2, mw_ko h6 hk]
  have hcl : (mz_yD y).1.cls = mz_cN c2 := by rw [f2, hc]
  have hsel := (f7 hst).2 hi
  rw [hcl] at hsel
  refine ms_call (st0 := st) (rest := st.drop (n + 1)) (va_runV (C := mz_cN c2) ⟨hx, hb, hml, hown, hts⟩ hM ⟨callB_of (mz_np.getD y 0) hts (ms_good (ms_code hy)) rfl rfl rfl (by rw [f2]; exact hts _ (ms_ini (by omega))) (hts _ (mw_lt hq rfl)) ⟨by rw [f2]; exact (mz_pln _ f3).2.1, by rw [f2]; exact (mz_pln _ f3).2.2, f5⟩ ⟨by show d - 1 + 1 ≤ R.frames; omega, by show 8 + ((mz_yD y).2.2.1 + 11) + 39 * (d - 1) ≤ R.locals; omega⟩, hts _ (f7 hst).1, hts _ hsel⟩ ⟨mw_blind, va_recv hE.1 g.P (mz_cl_at c2 h6) he, fun U hU hW => ⟨rfl, mw_E.go hW (by rw [hU]; exact u3) (fun q a1 a2 => by rw [hU]; exact g.S.2.1 q a1 a2) hE, by rw [hU]; exact hsz, Nat.le_trans hz u1, by rw [hU]; exact g.P, g.kz⟩⟩ rfl (by rw [← hn]; exact e2) (g.1.1.trans g.2.1) e3 (lv_room hsum) hd ⟨by omega, by omega⟩) g.S (fun r M' H1 locs1 hq1 hP1 hk1 hS1 => ?_)
  refine W.cs (cells' := z'.1 - zs.1) (slots' := z'.2 - zs.2) (by omega) (by omega) ?_
  exact hq1 H1 locs1 ls ⟨g.1, g.2.1, Nat.le_trans u1 hz1, Nat.le_trans u2 hz2, hz3, hz4, hP1, hk1, hS1⟩
theorem ms_cs {K : mz_K} {d : Nat} {Y : mz_Y} {zs B : Nat × Nat} {Q : mz_P} {pc : Nat} {L st : List Value} {M : mz_M} {z : Nat × Nat} (X : ms_X p l e R s m args below meth c Qw D C z0 sc sa sv K d Y zs B Q) {x y n r : Nat} {z' : Nat × Nat} (hd : decode Y.2.1 pc = .ok (.invokestatic x, 3)) (hy : y < 292) (hn : n = mz_np.getD y 0) (hst : mz_sts y = true) (hq : mz_LT r = some (Y.2.2.2.2.1, x, 5, y, 0)) (hlen : n ≤ st.length) (hsum : mz_sum (st.drop n) ≤ 8) (hz1 : z.1 ≤ z'.1) (hz2 : z.2 ≤ z'.2) (hz3 : z'.1 ≤ B.1) (hz4 : z'.2 ≤ B.2) (hK : K y (st.take n).reverse M z z' (fun r M' => ms_Pw p l e R s m args below meth c Qw D C z0 Y.2.2.1 zs B (pc + 3) L (r.toList ++ st.drop n) M' z')) : ms_Pw p l e R s m args below meth c Qw D C z0 Y.2.2.1 zs B pc L st M z := by
  intro H locs ls g
  obtain ⟨hx, hb, hml, hown, hts, -, hE, -, hs, hz, hR, hKs, -⟩ := X
  have u1 := g.2.2.1
  have u2 := g.2.2.2.1
  have u3 := g.S.1
  obtain ⟨r1, r2, r3, r4⟩ := hR
  obtain ⟨hd1, hM⟩ := hKs y _ M z z' _ hK hz1 hz2
  unfold mw_Met at hM
  rw [mw_y_of hy] at hM
  obtain ⟨f1, f2, f3, f4, f5, f6, f7⟩ := ms_cmf hy
  refine ms_size fun hsz0 => ?_
  have hsz := g.sz hs hz hsz0
  refine ms_call (st0 := st) (rest := st.drop n) (va_runS ⟨hx, hb, hml, hown, hts⟩ hM ⟨callB_of (mz_np.getD y 0) hts (ms_good (ms_code hy)) rfl rfl rfl (by rw [f2]; exact hts _ (ms_ini (by omega))) (hts _ (mw_lt hq rfl)) ⟨by rw [f2]; exact (mz_pln _ f3).2.1, by rw [f2]; exact (mz_pln _ f3).2.2, f5⟩ ⟨by show d - 1 + 1 ≤ R.frames; omega, by show 8 + ((mz_yD y).2.2.1 + 11) + 39 * (d - 1) ≤ R.locals; omega⟩, hts _ (f6 hst)⟩ (As := (st.take n).reverse) ⟨mw_blind, fun U hU hW => ⟨rfl, mw_E.go hW (by rw [hU]; exact u3) (fun q a1 a2 => by rw [hU]; exact g.S.2.1 q a1 a2) hE, by rw [hU]; exact hsz, Nat.le_trans hz u1, by rw [hU]; exact g.P, g.kz⟩⟩ rfl (by rw [List.length_reverse, List.length_take]; omega) (g.1.1.trans g.2.1) (by rw [List.reverse_reverse]; exact (List.take_append_drop n st).symm) (lv_room hsum) hd ⟨by omega, by omega⟩) g.S (fun r M' H1 locs1 hq1 hP1 hk1 hS1 => ?_)
  refine W.cs (cells' := z'.1 - zs.1) (slots' := z'.2 - zs.2) (by omega) (by omega) ?_
  exact hq1 H1 locs1 ls ⟨g.1, g.2.1, Nat.le_trans u1 hz1, Nat.le_trans u2 hz2, hz3, hz4, hP1, hk1, hS1⟩
theorem ms_ci {K : mz_K} {d : Nat} {Y : mz_Y} {zs B : Nat × Nat} {Q : mz_P} {pc : Nat} {L st : List Value} {M : mz_M} {z : Nat × Nat} (X : ms_X p l e R s m args below meth c Qw D C z0 sc sa sv K d Y zs B Q) {x y n r a : Nat} {z' : Nat × Nat} (hd : decode Y.2.1 pc = .ok (.invokespecial x, 3)) (hy : y < 292) (hn : n = mz_np.getD y 0) (hi : (mz_yD y).2.2.2.2.2.1 = true) (hrt : (mz_yD y).2.2.2.1 = none) (hst : mz_sts y = false) (hq : mz_LT r = some (Y.2.2.2.2.1, x, 5, y, 0)) (ha : st[n]? = some (.ref a)) (hlen : n + 1 ≤ st.length) (hsum : mz_sum (st.drop (n + 1)) ≤ 8) (hz1 : z.1 ≤ z'.1) (hz2 : z.2 ≤ z'.2) (hz3 : z'.1 ≤ B.1) (hz4 : z'.2 ≤ B.2) (hK : K y (st.take (n + 1)).reverse M z z' (fun r M' => ms_Pw p l e R s m args below meth c Qw D C z0 Y.2.2.1 zs B (pc + 3) L (r.toList ++ st.drop (n + 1)) M' z')) : ms_Pw p l e R s m args below meth c Qw D C z0 Y.2.2.1 zs B pc L st M z := by
  intro H locs ls g
  obtain ⟨hx, hb, hml, hown, hts, -, hE, -, hs, hz, hR, hKs, -⟩ := X
  have u1 := g.2.2.1
  have u2 := g.2.2.2.1
  have u3 := g.S.1
  obtain ⟨r1, r2, r3, r4⟩ := hR
  obtain ⟨As, e1, e2, e3⟩ := ms_split hlen ha
  rw [e1] at hK
  obtain ⟨hd1, hM⟩ := hKs y _ M z z' _ hK hz1 hz2
  unfold mw_Met at hM
  rw [mw_y_of hy] at hM
  obtain ⟨f1, f2, f3, f4, f5, f6, f7⟩ := ms_cmf hy
  refine ms_size fun hsz0 => ?_
  have hsz := g.sz hs hz hsz0
  have hnm : (mz_yD y).1.name = "<init>" := by
    rw [hi] at f4
    exact of_decide_eq_true f4.symm
  refine ms_call (st0 := st) (rest := st.drop (n + 1)) (va_runI (bytes := (mz_yD y).2.1) (maxL := (mz_yD y).2.2.1) (n := mz_np.getD y 0) ⟨hx, hb, hml, hown, hts⟩ hM ⟨by rw [← hrt]; exact callB_of (mz_np.getD y 0) hts (ms_good (ms_code hy)) rfl rfl rfl (by rw [f2]; exact hts _ (ms_ini (by omega))) (hts _ (mw_lt hq rfl)) ⟨by rw [f2]; exact (mz_pln _ f3).2.1, by rw [f2]; exact (mz_pln _ f3).2.2, f5⟩ ⟨by show d - 1 + 1 ≤ R.frames; omega, by show 8 + ((mz_yD y).2.2.1 + 11) + 39 * (d - 1) ≤ R.locals; omega⟩, hnm, hts _ (f7 hst).1⟩ ⟨mw_blind, fun U hU hW => ⟨rfl, mw_E.go hW (by rw [hU]; exact u3) (fun q a1 a2 => by rw [hU]; exact g.S.2.1 q a1 a2) hE, by rw [hU]; exact hsz, Nat.le_trans hz u1, by rw [hU]; exact g.P, g.kz⟩⟩ rfl (by rw [← hn]; exact e2) (g.1.1.trans g.2.1) e3 (lv_room hsum) hd ⟨by omega, by omega⟩) g.S (fun r M' H1 locs1 hq1 hP1 hk1 hS1 => ?_)
  refine W.cs (cells' := z'.1 - zs.1) (slots' := z'.2 - zs.2) (by omega) (by omega) ?_
  exact hq1 H1 locs1 ls ⟨g.1, g.2.1, Nat.le_trans u1 hz1, Nat.le_trans u2 hz2, hz3, hz4, hP1, hk1, hS1⟩
theorem ms_cn {K : mz_K} {d : Nat} {Y : mz_Y} {zs B : Nat × Nat} {Q : mz_P} {pc : Nat} {L st : List Value} {M : mz_M} {z : Nat × Nat} (X : ms_X p l e R s m args below meth c Qw D C z0 sc sa sv K d Y zs B Q) {x y n r a : Nat} {z' : Nat × Nat} (hd : decode Y.2.1 pc = .ok (.invokespecial x, 3)) (hy : y < 292) (hn : n = mz_np.getD y 0) (hi : (mz_yD y).2.2.2.2.2.1 = true) (hrt : (mz_yD y).2.2.2.1 = none) (hst : mz_sts y = false) (hq : mz_LT r = some (Y.2.2.2.2.1, x, 10, y, 0)) (ha : st[n]? = some (.ref a)) (hlen : n + 1 ≤ st.length) (hsum : mz_sum (st.drop (n + 1)) ≤ 8) (hz1 : z.1 ≤ z'.1) (hz2 : z.2 ≤ z'.2) (hz3 : z'.1 ≤ B.1) (hz4 : z'.2 ≤ B.2) (hK : K y (st.take (n + 1)).reverse M z z' (fun r M' => ms_Pw p l e R s m args below meth c Qw D C z0 Y.2.2.1 zs B (pc + 3) L (r.toList ++ st.drop (n + 1)) M' z')) : ms_Pw p l e R s m args below meth c Qw D C z0 Y.2.2.1 zs B pc L st M z := by
  intro H locs ls g
  obtain ⟨hx, hb, hml, hown, hts, -, hE, -, hs, hz, hR, hKs, -⟩ := X
  have u1 := g.2.2.1
  have u2 := g.2.2.2.1
  have u3 := g.S.1
  obtain ⟨r1, r2, r3, r4⟩ := hR
  obtain ⟨As, e1, e2, e3⟩ := ms_split hlen ha
  rw [e1] at hK
  obtain ⟨hd1, hM⟩ := hKs y _ M z z' _ hK hz1 hz2
  unfold mw_Met at hM
  rw [mw_y_of hy] at hM
  obtain ⟨f1, f2, f3, f4, f5, f6, f7⟩ := ms_cmf hy
  refine ms_size fun hsz0 => ?_
  have hsz := g.sz hs hz hsz0
  have hnm : (mz_yD y).1.name = "<init>" := by
    rw [hi] at f4
    exact of_decide_eq_true f4.symm
  refine ms_call (st0 := st) (rest := st.drop (n + 1)) (va_runIN (host := "RerootStore") (bytes := (mz_yD y).2.1) (maxL := (mz_yD y).2.2.1) (n := mz_np.getD y 0) ⟨hx, hb, hml, hown, hts⟩ hM ⟨by rw [← hrt]; exact va_cnB (mz_np.getD y 0) hts (ms_good (ms_code hy)) rfl rfl rfl (hE.2.2.2.1 r (Y.2.2.2.2.1, x, 10, y, 0) hq rfl) (by rw [f2]; exact hts _ (ms_ini (by omega))) ⟨by rw [f2]; exact (mz_pln _ f3).2.1, by rw [f2]; exact (mz_pln _ f3).2.2, f5⟩ ⟨by show d - 1 + 1 ≤ R.frames; omega, by show 8 + ((mz_yD y).2.2.1 + 11) + 39 * (d - 1) ≤ R.locals; omega⟩, hnm, hts _ (f7 hst).1⟩ ⟨mw_blind, fun U hU hW => ⟨rfl, mw_E.go hW (by rw [hU]; exact u3) (fun q a1 a2 => by rw [hU]; exact g.S.2.1 q a1 a2) hE, by rw [hU]; exact hsz, Nat.le_trans hz u1, by rw [hU]; exact g.P, g.kz⟩⟩ rfl (by rw [← hn]; exact e2) (g.1.1.trans g.2.1) e3 (lv_room hsum) hd ⟨by omega, by omega⟩) g.S (fun r M' H1 locs1 hq1 hP1 hk1 hS1 => ?_)
  refine W.cs (cells' := z'.1 - zs.1) (slots' := z'.2 - zs.2) (by omega) (by omega) ?_
  exact hq1 H1 locs1 ls ⟨g.1, g.2.1, Nat.le_trans u1 hz1, Nat.le_trans u2 hz2, hz3, hz4, hP1, hk1, hS1⟩
theorem ms_sw : mz_in 117 (.initialized "java/lang/String") = true ∧ mz_in 421 (.instanceMethod ⟨"java/lang/String", "length", "()I"⟩) = true ∧ mz_in 422 (.selects "java/lang/String" ⟨"java/lang/String", "length", "()I"⟩ ⟨"java/lang/String", "length", "()I"⟩) = true ∧ mz_in 423 (.code ⟨"java/lang/String", "length", "()I"⟩ prog_10_method_54_code 1 (some .int)) = true ∧ mz_in 431 (.instanceMethod ⟨"java/lang/String", "charAt", "(I)C"⟩) = true ∧ mz_in 432 (.selects "java/lang/String" ⟨"java/lang/String", "charAt", "(I)C"⟩ ⟨"java/lang/String", "charAt", "(I)C"⟩) = true ∧ mz_in 433 (.code ⟨"java/lang/String", "charAt", "(I)C"⟩ prog_10_method_56_code 2 (some .char)) = true := by decide +kernel
theorem ms_csl {K : mz_K} {d : Nat} {Y : mz_Y} {zs B : Nat × Nat} {Q : mz_P} {pc : Nat} {L st : List Value} {M : mz_M} {z : Nat × Nat} (X : ms_X p l e R s m args below meth c Qw D C z0 sc sa sv K d Y zs B Q) {x r i : Nat} (hd : decode Y.2.1 pc = .ok (.invokevirtual x, 3)) (hq : mz_LT r = some (Y.2.2.2.2.1, x, 8, 0, 0)) (hi : i < 10) (ha : st[0]? = some (.ref (sa i))) (hlen : 0 + 1 ≤ st.length) (hsum : mz_sum (st.drop (0 + 1)) ≤ 8) (hK : K 400 (st.take (0 + 1)).reverse M z z (fun r M' => ms_Pw p l e R s m args below meth c Qw D C z0 Y.2.2.1 zs B (pc + 3) L (r.toList ++ st.drop (0 + 1)) M' z)) : ms_Pw p l e R s m args below meth c Qw D C z0 Y.2.2.1 zs B pc L st M z := by
  intro H locs ls g
  obtain ⟨hx, hb, hml, hown, hts, -, hE, -, hs, hz, hR, hKs, -⟩ := X
  have u1 := g.2.2.1
  have u2 := g.2.2.2.1
  have u3 := g.S.1
  obtain ⟨r1, r2, r3, r4⟩ := hR
  obtain ⟨As, e1, e2, e3⟩ := ms_split hlen ha
  rw [e1] at hK
  obtain ⟨hd1, hM⟩ := hKs 400 _ M z z _ hK (Nat.le_refl _) (Nat.le_refl _)
  have hM2 : Met l ⟨"java/lang/String", "length", "()I"⟩ (.code ⟨"java/lang/String", "length", "()I"⟩ _ 1 _ :: mw_Ts) _ _ _ _ _ _ := hM
  refine ms_size fun hsz0 => ?_
  have hsz := g.sz hs hz hsz0
  have w1 := g.2.2.2.2.1
  have w2 := g.2.2.2.2.2.1
  refine ms_call (st0 := st) (rest := st.drop (0 + 1)) (va_runV (C := "java/lang/String") (n := 0) (maxL := 1) ⟨hx, hb, hml, hown, hts⟩ hM2 ⟨callB_of 0 hts (ms_good (mw_mem ms_sw.2.2.2.1)) rfl rfl rfl (hts _ (mw_mem ms_sw.1)) (hts _ (mw_lt hq rfl)) ⟨by decide, by decide, by decide +kernel⟩ ⟨by show d - 1 + 1 ≤ R.frames; omega, by show 8 + (1 + 11) + 39 * (d - 1) ≤ R.locals; omega⟩, hts _ (mw_mem ms_sw.2.1), hts _ (mw_mem ms_sw.2.2.1)⟩ ⟨mw_blind, vk_recv hE.2.2.2.2.1 hi g.S, fun U hU hW => ⟨rfl, mw_E.go hW (by rw [hU]; exact u3) (fun q a1 a2 => by rw [hU]; exact g.S.2.1 q a1 a2) hE, by rw [hU]; exact hsz, Nat.le_trans hz u1, by rw [hU]; exact g.P, g.kz⟩⟩ rfl e2 (g.1.1.trans g.2.1) e3 (lv_room hsum) hd ⟨by omega, by omega⟩) g.S (fun r M' H1 locs1 hq1 hP1 hk1 hS1 => ?_)
  refine W.cs (cells' := z.1 - zs.1) (slots' := z.2 - zs.2) (by omega) (by omega) ?_
  exact hq1 H1 locs1 ls ⟨g.1, g.2.1, u1, u2, w1, w2, hP1, hk1, hS1⟩
theorem ms_csc {K : mz_K} {d : Nat} {Y : mz_Y} {zs B : Nat × Nat} {Q : mz_P} {pc : Nat} {L st : List Value} {M : mz_M} {z : Nat × Nat} (X : ms_X p l e R s m args below meth c Qw D C z0 sc sa sv K d Y zs B Q) {x r i : Nat} (hd : decode Y.2.1 pc = .ok (.invokevirtual x, 3)) (hq : mz_LT r = some (Y.2.2.2.2.1, x, 9, 0, 0)) (hi : i < 10) (ha : st[1]? = some (.ref (sa i))) (hlen : 1 + 1 ≤ st.length) (hsum : mz_sum (st.drop (1 + 1)) ≤ 8) (hK : K 401 (st.take (1 + 1)).reverse M z z (fun r M' => ms_Pw p l e R s m args below meth c Qw D C z0 Y.2.2.1 zs B (pc + 3) L (r.toList ++ st.drop (1 + 1)) M' z)) : ms_Pw p l e R s m args below meth c Qw D C z0 Y.2.2.1 zs B pc L st M z := by
  intro H locs ls g
  obtain ⟨hx, hb, hml, hown, hts, -, hE, -, hs, hz, hR, hKs, -⟩ := X
  have u1 := g.2.2.1
  have u2 := g.2.2.2.1
  have u3 := g.S.1
  obtain ⟨r1, r2, r3, r4⟩ := hR
  obtain ⟨As, e1, e2, e3⟩ := ms_split hlen ha
  rw [e1] at hK
  obtain ⟨hd1, hM⟩ := hKs 401 _ M z z _ hK (Nat.le_refl _) (Nat.le_refl _)
  have hM2 : Met l ⟨"java/lang/String", "charAt", "(I)C"⟩ (.code ⟨"java/lang/String", "charAt", "(I)C"⟩ _ 2 _ :: mw_Ts) _ _ _ _ _ _ := hM
  refine ms_size fun hsz0 => ?_
  have hsz := g.sz hs hz hsz0
  have w1 := g.2.2.2.2.1
  have w2 := g.2.2.2.2.2.1
  refine ms_call (st0 := st) (rest := st.drop (1 + 1)) (va_runV (C := "java/lang/String") (n := 1) (maxL := 2) ⟨hx, hb, hml, hown, hts⟩ hM2 ⟨callB_of 1 hts (ms_good (mw_mem ms_sw.2.2.2.2.2.2)) rfl rfl rfl (hts _ (mw_mem ms_sw.1)) (hts _ (mw_lt hq rfl)) ⟨by decide, by decide, by decide +kernel⟩ ⟨by show d - 1 + 1 ≤ R.frames; omega, by show 8 + (2 + 11) + 39 * (d - 1) ≤ R.locals; omega⟩, hts _ (mw_mem ms_sw.2.2.2.2.1), hts _ (mw_mem ms_sw.2.2.2.2.2.1)⟩ ⟨mw_blind, vk_recv hE.2.2.2.2.1 hi g.S, fun U hU hW => ⟨rfl, mw_E.go hW (by rw [hU]; exact u3) (fun q a1 a2 => by rw [hU]; exact g.S.2.1 q a1 a2) hE, by rw [hU]; exact hsz, Nat.le_trans hz u1, by rw [hU]; exact g.P, g.kz⟩⟩ rfl e2 (g.1.1.trans g.2.1) e3 (lv_room hsum) hd ⟨by omega, by omega⟩) g.S (fun r M' H1 locs1 hq1 hP1 hk1 hS1 => ?_)
  refine W.cs (cells' := z.1 - zs.1) (slots' := z.2 - zs.2) (by omega) (by omega) ?_
  exact hq1 H1 locs1 ls ⟨g.1, g.2.1, u1, u2, w1, w2, hP1, hk1, hS1⟩
theorem ms_oi {K : mz_K} {d : Nat} {Y : mz_Y} {zs B : Nat × Nat} {Q : mz_P} {pc : Nat} {L st : List Value} {M : mz_M} {z : Nat × Nat} (X : ms_X p l e R s m args below meth c Qw D C z0 sc sa sv K d Y zs B Q) {x r a : Nat} {rest : List Value} (hd : decode Y.2.1 pc = .ok (.invokespecial x, 3)) (hq : mz_LT r = some (Y.2.2.2.2.1, x, 6, 0, 0)) (h1d : 1 ≤ d) (hsum : mz_sum rest ≤ 8) (h : ms_Pw p l e R s m args below meth c Qw D C z0 Y.2.2.1 zs B (pc + 3) L rest M z) : ms_Pw p l e R s m args below meth c Qw D C z0 Y.2.2.1 zs B pc L (.ref a :: rest) M z := by
  intro H locs ls g
  obtain ⟨hx, hb, hml, hown, hts, -, hE, -, hs, hz, hR, hKs, -⟩ := X
  obtain ⟨r1, r2, r3, r4⟩ := hR
  unfold mz_sum at hsum
  exact W.objInit hx hb hown (hts _ (mw_lt hq rfl)) (hts _ (mw_mem mz_mis.2.1)) (hts _ (mw_mem mz_mis.2.2.1)) rfl (by rw [hml]; exact g.1.1.trans g.2.1) rfl hd (by omega) (by show 2 * 0 + _ + 12 ≤ _; omega) (h H locs ls g)
theorem ms_mx {K : mz_K} {d : Nat} {Y : mz_Y} {zs B : Nat × Nat} {Q : mz_P} {pc : Nat} {L st : List Value} {M : mz_M} {z : Nat × Nat} (X : ms_X p l e R s m args below meth c Qw D C z0 sc sa sv K d Y zs B Q) {ix r : Nat} {x y : Int32} {rest : List Value} (hd : decode Y.2.1 pc = .ok (.invokestatic ix, 3)) (hq : mz_LT r = some (Y.2.2.2.2.1, ix, 5, 292, 0)) (h1d : 1 ≤ d) (hsum : mz_sum rest ≤ 8) (h : ms_Pw p l e R s m args below meth c Qw D C z0 Y.2.2.1 zs B (pc + 3) L (.int (if x < y then y else x) :: rest) M z) : ms_Pw p l e R s m args below meth c Qw D C z0 Y.2.2.1 zs B pc L (.int y :: .int x :: rest) M z := by
  intro H locs ls g
  obtain ⟨hx, hb, hml, hown, hts, -, hE, -, hs, hz, hR, hKs, -⟩ := X
  obtain ⟨r1, r2, r3, r4⟩ := hR
  have u1 := g.2.2.1
  have u2 := g.2.2.2.1
  have w1 := g.2.2.2.2.1
  have w2 := g.2.2.2.2.2.1
  unfold mz_sum at hsum
  have en : (mz_yD 292).1 = Lib.Math.max.name := by decide +kernel
  have hl : Cond.methodLink (mz_cN Y.2.2.2.2.1) ix Lib.Math.max.name ∈ mw_Ts := by
    rw [← en]
    exact mw_lt hq rfl
  exact va_mmax hx hb (by rw [hml]; exact (g.1.1.trans g.2.1).symm) hown (hts _ hl) (hts _ (mw_mem mz_mis.2.2.2.2.2.2.2.2.2.2.2.1)) (hts _ (ms_ini (c := 8) (by omega))) (hts _ (mw_mem mz_mis.2.2.2.2.2.2.2.2.2.2.1)) (by omega) (by omega) (by omega) (by omega) hd (h H locs ls g)
theorem ms_mn {K : mz_K} {d : Nat} {Y : mz_Y} {zs B : Nat × Nat} {Q : mz_P} {pc : Nat} {L st : List Value} {M : mz_M} {z : Nat × Nat} (X : ms_X p l e R s m args below meth c Qw D C z0 sc sa sv K d Y zs B Q) {ix r : Nat} {x y : Int32} {rest : List Value} (hd : decode Y.2.1 pc = .ok (.invokestatic ix, 3)) (hq : mz_LT r = some (Y.2.2.2.2.1, ix, 5, 293, 0)) (h1d : 1 ≤ d) (hsum : mz_sum rest ≤ 8) (h : ms_Pw p l e R s m args below meth c Qw D C z0 Y.2.2.1 zs B (pc + 3) L (.int (if y < x then y else x) :: rest) M z) : ms_Pw p l e R s m args below meth c Qw D C z0 Y.2.2.1 zs B pc L (.int y :: .int x :: rest) M z := by
  intro H locs ls g
  obtain ⟨hx, hb, hml, hown, hts, -, hE, -, hs, hz, hR, hKs, -⟩ := X
  obtain ⟨r1, r2, r3, r4⟩ := hR
  have u1 := g.2.2.1
  have u2 := g.2.2.2.1
  have w1 := g.2.2.2.2.1
  have w2 := g.2.2.2.2.2.1
  unfold mz_sum at hsum
  have en : (mz_yD 293).1 = Lib.Math.min.name := by decide +kernel
  have hl : Cond.methodLink (mz_cN Y.2.2.2.2.1) ix Lib.Math.min.name ∈ mw_Ts := by
    rw [← en]
    exact mw_lt hq rfl
  exact va_mmin hx hb (by rw [hml]; exact (g.1.1.trans g.2.1).symm) hown (hts _ hl) (hts _ (mw_mem mz_mis.2.2.2.2.2.2.2.2.2.2.2.2.2)) (hts _ (ms_ini (c := 8) (by omega))) (hts _ (mw_mem mz_mis.2.2.2.2.2.2.2.2.2.2.2.2.1)) (by omega) (by omega) (by omega) (by omega) hd (h H locs ls g)
theorem ms_cpi {K : mz_K} {d : Nat} {Y : mz_Y} {zs B : Nat × Nat} {Q : mz_P} {pc : Nat} {L st : List Value} {M : mz_M} {z : Nat × Nat} (X : ms_X p l e R s m args below meth c Qw D C z0 sc sa sv K d Y zs B Q) {ix r a b : Nat} {x1 x2 x3 : Int32} {rest : List Value} (hd : decode Y.2.1 pc = .ok (.invokestatic ix, 3)) (hq : mz_LT r = some (Y.2.2.2.2.1, ix, 7, 0, 0)) (h1d : 1 ≤ d) (hsum : mz_sum rest ≤ 8) (hc : mz_cop M a b x1 x2 x3) (ha : mz_kd M a = 1) (hb2 : mz_kd M b = 1) (h : ms_Pw p l e R s m args below meth c Qw D C z0 Y.2.2.1 zs B (pc + 3) L rest (mz_cI M b (va_cpy (M.1 a) (M.1 b) x1.toNatClampNeg x2.toNatClampNeg x3.toNatClampNeg)) z) : ms_Pw p l e R s m args below meth c Qw D C z0 Y.2.2.1 zs B pc L (.int x3 :: .int x2 :: .ref b :: .int x1 :: .ref a :: rest) M z := by
  intro H locs ls g
  obtain ⟨hx, hb, hml, hown, hts, -, hE, -, hs, hz, hR, hKs, -⟩ := X
  obtain ⟨r1, r2, r3, r4⟩ := hR
  obtain ⟨h1, h2⟩ := mw_in g.kz ha (by omega)
  obtain ⟨h3, h4⟩ := mw_in g.kz hb2 (by omega)
  obtain ⟨c1, c2, c3, c4, c5⟩ := hc
  unfold mz_sum at hsum
  have hw : nativeFrameWords "java/lang/System" "arraycopy" 5 = 7 := by decide +kernel
  exact va_copyi (D := D) (ty := .int) hx hb (by rw [hml]; exact (g.1.1.trans g.2.1).symm) hown (hts _ (mw_lt hq rfl)) (hts _ (mw_mem mz_mis.2.2.2.2.1)) (hts _ (mw_mem mz_mis.2.2.2.1)) (hts _ (mw_mem mz_mis.1)) hE.1 g.P mw_D g.S (a - z0) (b - z0) 0 0 (by rw [mw_get h1 h2, mw_k1 ha]) (by rw [mw_get h3 h4, mw_k1 hb2]) rfl rfl rfl c1 c2 c3 c4 c5 (fun _ _ => rfl) (by omega) (by omega) hd (fun H1 locs1 hP1 _ hS1 => h H1 locs1 ls (g.mem (mw_set hP1 h3 h4 (by rw [mw_k1 (M := mz_cI M b _) hb2, mw_cI1]; rfl) mw_ocI) (fun _ => rfl) hS1))
theorem ms_cpl {K : mz_K} {d : Nat} {Y : mz_Y} {zs B : Nat × Nat} {Q : mz_P} {pc : Nat} {L st : List Value} {M : mz_M} {z : Nat × Nat} (X : ms_X p l e R s m args below meth c Qw D C z0 sc sa sv K d Y zs B Q) {ix r a b : Nat} {x1 x2 x3 : Int32} {rest : List Value} (hd : decode Y.2.1 pc = .ok (.invokestatic ix, 3)) (hq : mz_LT r = some (Y.2.2.2.2.1, ix, 7, 0, 0)) (h1d : 1 ≤ d) (hsum : mz_sum rest ≤ 8) (hc : mz_cop M a b x1 x2 x3) (ha : mz_kd M a = 4) (hb2 : mz_kd M b = 4) (h : ms_Pw p l e R s m args below meth c Qw D C z0 Y.2.2.1 zs B (pc + 3) L rest (mz_cJ M b (va_cpy (M.2.1 a) (M.2.1 b) x1.toNatClampNeg x2.toNatClampNeg x3.toNatClampNeg)) z) : ms_Pw p l e R s m args below meth c Qw D C z0 Y.2.2.1 zs B pc L (.int x3 :: .int x2 :: .ref b :: .int x1 :: .ref a :: rest) M z := by
  intro H locs ls g
  obtain ⟨hx, hb, hml, hown, hts, -, hE, -, hs, hz, hR, hKs, -⟩ := X
  obtain ⟨r1, r2, r3, r4⟩ := hR
  obtain ⟨h1, h2⟩ := mw_in g.kz ha (by omega)
  obtain ⟨h3, h4⟩ := mw_in g.kz hb2 (by omega)
  obtain ⟨c1, c2, c3, c4, c5⟩ := hc
  unfold mz_sum at hsum
  have hw : nativeFrameWords "java/lang/System" "arraycopy" 5 = 7 := by decide +kernel
  exact va_copyl (D := D) (ty := .long) hx hb (by rw [hml]; exact (g.1.1.trans g.2.1).symm) hown (hts _ (mw_lt hq rfl)) (hts _ (mw_mem mz_mis.2.2.2.2.1)) (hts _ (mw_mem mz_mis.2.2.2.1)) (hts _ (mw_mem mz_mis.1)) hE.1 g.P mw_D g.S (a - z0) (b - z0) 3 3 (by rw [mw_get h1 h2, mw_k4 ha]) (by rw [mw_get h3 h4, mw_k4 hb2]) rfl rfl rfl c1 c2 c3 c4 c5 (fun _ _ => rfl) (by omega) (by omega) hd (fun H1 locs1 hP1 _ hS1 => h H1 locs1 ls (g.mem (mw_set hP1 h3 h4 (by rw [mw_k4 (M := mz_cJ M b _) hb2, mw_cJ1]; rfl) mw_ocJ) (fun _ => rfl) hS1))
end
