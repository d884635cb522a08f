theorem yG_tk {s l t : Int32} {n : Nat} {P : Nat → Int32} {T : Nat} {fr tk ch co : Nat → Int32} {row : Int64} {q : sQ} (hn : n ≤ 12) (htk : ∀ i, ∃ c, c < 12 ∧ tk i = nI c) (hn1 : 1 ≤ n) : ∀ i, ∃ c, c < 12 ∧ (yG s l t n P T (yT s l t n (nI 0) 0 0 ((3, 0, 0, 0, fr, tk, ch, va_up co 0 0, bgQ row q) : yS))).2.2.2.2.2.1 i = nI c := by
  have h := yI_G (s := s) (l := l) (t := t) (P := P) hn T _ (y0_ok (s := s) (l := l) (t := t) (fr := fr) (ch := ch) (co := co) (row := row) (q := q) hn hn1 htk).1
  generalize yG s l t n P T (yT s l t n (nI 0) 0 0 ((3, 0, 0, 0, fr, tk, ch, va_up co 0 0, bgQ row q) : yS)) = x at h ⊢
  obtain ⟨oc, tb, lv, g, fr2, tk2, ch2, co2, q2⟩ := x
  exact h.2.2.2.2.2
theorem yG_le {s l t : Int32} {n : Nat} {P : Nat → Int32} {T : Nat} {fr tk ch co : Nat → Int32} {row : Int64} {q : sQ} (hn : n ≤ 12) (htk : ∀ i, ∃ c, c < 12 ∧ tk i = nI c) (hn1 : 1 ≤ n) : (yG s l t n P T (yT s l t n (nI 0) 0 0 ((3, 0, 0, 0, fr, tk, ch, va_up co 0 0, bgQ row q) : yS))).2.2.2.2.2.2.2.2.1 ≤ 200 := y_200 (yI_G (s := s) (l := l) (t := t) (P := P) hn T _ (y0_ok (s := s) (l := l) (t := t) (fr := fr) (ch := ch) (co := co) (row := row) (q := q) hn hn1 htk).1)
theorem kG_cl {l t : Int32} {c mm : Nat} {P : Nat → Int32} {T : Nat} {fr tr : Nat → Int32} {qc : sQ} (hC : c ≤ 12) (h0 : 0 < c) (hm : mm ≤ 4) : (kG (nI c) l t c mm P T ((3, 0, 0, 0, va_up fr 0 0, va_up tr 0 0, bgQ 0 qc) : kS)).1 = 1 → c ≤ (kG (nI c) l t c mm P T ((3, 0, 0, 0, va_up fr 0 0, va_up tr 0 0, bgQ 0 qc) : kS)).2.2.2.1 + 1 := by
  intro h1
  have hk := kJ_G (s := nI c) (l := l) (t := t) (P := P) hC (show mm ≤ 15 by omega) T ((3, 0, 0, 0, va_up fr 0 0, va_up tr 0 0, bgQ 0 qc) : kS) (kI_0 h0) kJ_0
  have h2 := (hk.2.2 h1).1
  omega
theorem c_forward {sc : Option (Nat × Nat × (Nat → Int32))} {sa : Nat → Nat} {d : Nat} {z : Nat × Nat} {x T p r : Nat} {M : mz_M} (h : iV x T p r M) {a b : Int32} : tw sc sa (d + 16) 160 285 [.ref x, .int a, .int b] [.ref (x + 87), .int a, .int b] M z (fun M2 => ∃ p r, iV x T p r M2) := by
  obtain ⟨w, wm, iT1, tk1, ⟨pr, l, t, c, ln, T1, D, pa, ks, os, ts, hs, cs, q, ⟨⟨v1, v2, v3, v4⟩, ⟨v5, v6, v7, v8, v9, v10⟩, ⟨v11, v12, v13, v14⟩, ⟨v15, v16, v17, v18, v19, v20⟩⟩, ⟨hC, hN, hln, hT1, hT2, hD2⟩, hB, hw⟩, hK⟩ := id h
  rcases hw with ⟨c0, l0, D0, q0⟩ | ⟨c0, l0, hl, ht, hI⟩
  · have h5 : M.1 (x + 87 + 1) 5 = 0 := by rw [hB.2.2.2.2.2.1, l0, nI_0]
    refine tw_q h (v := -2) ?_ (fun M1 w1 => mr0 (n0_Mo_forward w1 h5))
    exact n_X_forward (d := d + 9) w v11 hC (fun g => absurd g.1.1 (by omega))
  · obtain ⟨hq1, hq2, hq3, hq4⟩ := tI_q hC (by omega) hI
    obtain ⟨K, P1, P2, P3, e1, e2, e3, e4, hX⟩ := tI_B (A := fun j => M.1 (x + 87 + j)) hC c0 (by omega) hI hB l0 (by omega)
    obtain ⟨n9, hn9⟩ := nI_all (M.1 (x + 10 + 1) 8)
    have es := paQ_eta hn9
    have hp : x + 22 ≤ p := by
      have := X_pq w
      omega
    have hP : ∀ i, i < c → (fun j => M.1 (x + 87 + j)) 1 (7 + i) = pa i := fun i hi => hB.2.2.2.2.2.2.2.1 i (by omega)
    have hl2 := l_02 hl
    by_cases ga : (1 : Int32) ≤ a ∧ a ≤ 4
    · obtain ⟨m, hm1, hm, rfl⟩ := mm_14 ga
      by_cases gb : ¬ (¬ b < 0 ∧ b ≤ 3)
      · exact tw_q h (n_X_forward (d := d + 9) w v11 hC (fun g => gb g.2)) (fun M1 w1 => n_Mo_forward1 w1 (F := M.1 (x + 87)) (A := fun j => M.1 (x + 87 + j)) hC c0 hB.1 hB.2.1 hB.2.2.1 hB.2.2.2.2.2.1 l0 (by omega) hP hm1 hm gb)
      rcases b_03 (Decidable.not_not.mp gb) with rfl | rfl | rfl | rfl
      · have hx := q_X_forward0 (sc := sc) (sa := sa) (d := d + 8) (z := z) (M := M) (oc := M.1 (x + 10) 6) (tb := M.1 (x + 10) 7) (lv := M.1 (x + 10) 8) (mx := M.1 (x + 10) 9) (fr := M.1 (x + 10 + 7)) (tr := M.1 (x + 10 + 8)) (tk := M.1 (x + 10 + 9)) (ch := M.1 (x + 10 + 10)) (co := M.1 (x + 10 + 11)) (s := M.1 (x + 10 + 1) 5) (l := M.1 (x + 10 + 1) 6) (t := M.1 (x + 10 + 1) 7) (q := qM M (x + 10 + 1) n9) w hp v11 hC ⟨c0, by rw [v12]; exact hl2.1, by rw [v12]; exact hl2.2, (b_14.mpr ga).1, (b_14.mpr ga).2⟩ tk1
        rw [es, v5, v12, v13] at hx
        exact tw_g h (zi_x hx ⟨rfl, kP_pa (yG_tk hC tk1 (by omega))⟩) (fun M1 w1 => q_Mo_forward0 w1 (F := M.1 (x + 87)) (A := fun j => M.1 (x + 87 + j)) hC c0 hB.1 hB.2.1 hB.2.2.1 hB.2.2.2.2.2.1 l0 (by omega) hP hm1 hm (fr := M.1 (x + 10 + 7)) (tk := M.1 (x + 10 + 9)) (ch := M.1 (x + 10 + 10)) (co := M.1 (x + 10 + 11)) (qc := qM M (x + 10 + 1) n9))
      · have hx := q_X_forward1 (sc := sc) (sa := sa) (d := d + 8) (z := z) (M := M) (oc := M.1 (x + 10) 6) (tb := M.1 (x + 10) 7) (lv := M.1 (x + 10) 8) (mx := M.1 (x + 10) 9) (fr := M.1 (x + 10 + 7)) (tr := M.1 (x + 10 + 8)) (tk := M.1 (x + 10 + 9)) (ch := M.1 (x + 10 + 10)) (co := M.1 (x + 10 + 11)) (s := M.1 (x + 10 + 1) 5) (l := M.1 (x + 10 + 1) 6) (t := M.1 (x + 10 + 1) 7) (q := qM M (x + 10 + 1) n9) w hp v11 hC ⟨c0, by rw [v12]; exact hl2.1, by rw [v12]; exact hl2.2, (b_14.mpr ga).1, (b_14.mpr ga).2⟩ tk1
        rw [es, v5, v12, v13] at hx
        exact tw_g h (zi_x hx ⟨rfl, kP_pa (yG_tk hC tk1 (by omega))⟩) (fun M1 w1 => q_Mo_forward1 w1 (F := M.1 (x + 87)) (A := fun j => M.1 (x + 87 + j)) hC c0 hB.1 hB.2.1 hB.2.2.1 hB.2.2.2.2.2.1 l0 (by omega) hP hm1 hm (fr := M.1 (x + 10 + 7)) (tk := M.1 (x + 10 + 9)) (ch := M.1 (x + 10 + 10)) (co := M.1 (x + 10 + 11)) (qc := qM M (x + 10 + 1) n9))
      · have hx := q_X_forward2 (sc := sc) (sa := sa) (d := d + 8) (z := z) (M := M) (oc := M.1 (x + 10) 6) (tb := M.1 (x + 10) 7) (lv := M.1 (x + 10) 8) (mx := M.1 (x + 10) 9) (fr := M.1 (x + 10 + 7)) (tr := M.1 (x + 10 + 8)) (tk := M.1 (x + 10 + 9)) (ch := M.1 (x + 10 + 10)) (co := M.1 (x + 10 + 11)) (s := M.1 (x + 10 + 1) 5) (l := M.1 (x + 10 + 1) 6) (t := M.1 (x + 10 + 1) 7) (q := qM M (x + 10 + 1) n9) w hp v11 hC ⟨c0, by rw [v12]; exact hl2.1, by rw [v12]; exact hl2.2, (b_14.mpr ga).1, (b_14.mpr ga).2⟩ tk1
        rw [es, v5, v12, v13] at hx
        exact tw_g h (zi_x hx ⟨rfl, kP_pa (yG_tk hC tk1 (by omega))⟩) (fun M1 w1 => q_Mo_forward2 w1 (F := M.1 (x + 87)) (A := fun j => M.1 (x + 87 + j)) hC c0 hB.1 hB.2.1 hB.2.2.1 hB.2.2.2.2.2.1 l0 (by omega) hP hm1 hm (fr := M.1 (x + 10 + 7)) (tk := M.1 (x + 10 + 9)) (ch := M.1 (x + 10 + 10)) (co := M.1 (x + 10 + 11)) (qc := qM M (x + 10 + 1) n9))
      · have hx := q_X_forward3 (sc := sc) (sa := sa) (d := d + 8) (z := z) (M := M) (oc := M.1 (x + 10) 6) (tb := M.1 (x + 10) 7) (lv := M.1 (x + 10) 8) (mx := M.1 (x + 10) 9) (fr := M.1 (x + 10 + 7)) (tr := M.1 (x + 10 + 8)) (tk := M.1 (x + 10 + 9)) (ch := M.1 (x + 10 + 10)) (co := M.1 (x + 10 + 11)) (s := M.1 (x + 10 + 1) 5) (l := M.1 (x + 10 + 1) 6) (t := M.1 (x + 10 + 1) 7) (q := qM M (x + 10 + 1) n9) w hp v11 hC ⟨c0, by rw [v12]; exact hl2.1, by rw [v12]; exact hl2.2, (b_14.mpr ga).1, (b_14.mpr ga).2⟩ tk1
        rw [es, v5, v12, v13] at hx
        exact tw_g h (zi_x hx ⟨rfl, kP_pa (yG_tk hC tk1 (by omega))⟩) (fun M1 w1 => q_Mo_forward3 w1 (F := M.1 (x + 87)) (A := fun j => M.1 (x + 87 + j)) hC c0 hB.1 hB.2.1 hB.2.2.1 hB.2.2.2.2.2.1 l0 (by omega) hP hm1 hm (fr := M.1 (x + 10 + 7)) (tk := M.1 (x + 10 + 9)) (ch := M.1 (x + 10 + 10)) (co := M.1 (x + 10 + 11)) (qc := qM M (x + 10 + 1) n9))
    · exact tw_q h (n_X_forward (d := d + 9) w v11 hC (fun g => ga (b_14.mp g.1.2.2.2))) (fun M1 w1 => n_Mo_forward w1 (F := M.1 (x + 87)) (A := fun j => M.1 (x + 87 + j)) hC c0 hB.1 hB.2.1 hB.2.2.1 hB.2.2.2.2.2.1 l0 (by omega) hP ga)
theorem c_forwardBy {sc : Option (Nat × Nat × (Nat → Int32))} {sa : Nat → Nat} {d : Nat} {z : Nat × Nat} {x T p r : Nat} {M : mz_M} (h : iV x T p r M) {a b : Int32} : tw sc sa (d + 16) 161 286 [.ref x, .int a, .int b] [.ref (x + 87), .int a, .int b] M z (fun M2 => ∃ p r, iV x T p r M2) := by
  obtain ⟨w, wm, iT1, tk1, ⟨pr, l, t, c, ln, T1, D, pa, ks, os, ts, hs, cs, q, ⟨⟨v1, v2, v3, v4⟩, ⟨v5, v6, v7, v8, v9, v10⟩, ⟨v11, v12, v13, v14⟩, ⟨v15, v16, v17, v18, v19, v20⟩⟩, ⟨hC, hN, hln, hT1, hT2, hD2⟩, hB, hw⟩, hK⟩ := id h
  rcases hw with ⟨c0, l0, D0, q0⟩ | ⟨c0, l0, hl, ht, hI⟩
  · have h5 : M.1 (x + 87 + 1) 5 = 0 := by rw [hB.2.2.2.2.2.1, l0, nI_0]
    refine tw_q h (v := -2) ?_ (fun M1 w1 => mr0 (n0_Mo_forwardBy w1 h5))
    exact n_X_forwardBy (d := d + 9) w v11 hC (fun g => absurd g.1 (by omega))
  · obtain ⟨hq1, hq2, hq3, hq4⟩ := tI_q hC (by omega) hI
    obtain ⟨K, P1, P2, P3, e1, e2, e3, e4, hX⟩ := tI_B (A := fun j => M.1 (x + 87 + j)) hC c0 (by omega) hI hB l0 (by omega)
    obtain ⟨n9, hn9⟩ := nI_all (M.1 (x + 10 + 1) 8)
    have es := paQ_eta hn9
    have hp : x + 22 ≤ p := by
      have := X_pq w
      omega
    have hP : ∀ i, i < c → (fun j => M.1 (x + 87 + j)) 1 (7 + i) = pa i := fun i hi => hB.2.2.2.2.2.2.2.1 i (by omega)
    have hl2 := l_02 hl
    by_cases gb : (1 : Int32) ≤ b ∧ b ≤ 4
    · obtain ⟨m, hm1, hm, rfl⟩ := mm_14 gb
      by_cases gl : ¬ a < 0 ∧ a ≤ 2
      · have hx := q_X_forwardBy (sc := sc) (sa := sa) (d := d + 8) (z := z) (M := M) (oc := M.1 (x + 10) 6) (tb := M.1 (x + 10) 7) (lv := M.1 (x + 10) 8) (mx := M.1 (x + 10) 9) (fr := M.1 (x + 10 + 7)) (tr := M.1 (x + 10 + 8)) (tk := M.1 (x + 10 + 9)) (ch := M.1 (x + 10 + 10)) (co := M.1 (x + 10 + 11)) (s := M.1 (x + 10 + 1) 5) (l := M.1 (x + 10 + 1) 6) (t := M.1 (x + 10 + 1) 7) (q := qM M (x + 10 + 1) n9) w hp v11 hC (a := a) ⟨c0, gl.1, by rw [Int32.not_lt]; exact gl.2, (b_14.mpr gb).1, (b_14.mpr gb).2⟩ tk1
        rw [es, v5, v13] at hx
        exact tw_g h (zi_x hx ⟨rfl, kP_pa (yG_tk hC tk1 (by omega))⟩) (fun M1 w1 => q_Mo_forwardBy w1 (F := M.1 (x + 87)) (A := fun j => M.1 (x + 87 + j)) hC c0 hB.1 hB.2.1 hB.2.2.1 hB.2.2.2.2.2.1 l0 (by omega) hP hm1 hm (fr := M.1 (x + 10 + 7)) (tk := M.1 (x + 10 + 9)) (ch := M.1 (x + 10 + 10)) (co := M.1 (x + 10 + 11)) (qc := qM M (x + 10 + 1) n9) gl)
      · exact tw_q h (n_X_forwardBy (d := d + 9) w v11 hC (fun g => gl ⟨g.2.1, by rw [← Int32.not_lt]; exact g.2.2.1⟩)) (fun M1 w1 => n_Mo_forwardBy1 w1 (F := M.1 (x + 87)) (A := fun j => M.1 (x + 87 + j)) hC c0 hB.1 hB.2.1 hB.2.2.1 hB.2.2.2.2.2.1 l0 (by omega) hP hm1 hm gl)
    · exact tw_q h (n_X_forwardBy (d := d + 9) w v11 hC (fun g => gb (b_14.mp g.2.2.2))) (fun M1 w1 => n_Mo_forwardBy w1 (F := M.1 (x + 87)) (A := fun j => M.1 (x + 87 + j)) hC c0 hB.1 hB.2.1 hB.2.2.1 hB.2.2.2.2.2.1 l0 (by omega) hP gb)
theorem c_colour {sc : Option (Nat × Nat × (Nat → Int32))} {sa : Nat → Nat} {d : Nat} {z : Nat × Nat} {x T p r : Nat} {M : mz_M} (h : iV x T p r M) {a b : Int32} : tw sc sa (d + 16) 158 277 [.ref x, .int a, .int b] [.ref (x + 87), .int a, .int b] M z (fun M2 => ∃ p r, iV x T p r M2) := by
  obtain ⟨w, wm, iT1, tk1, ⟨pr, l, t, c, ln, T1, D, pa, ks, os, ts, hs, cs, q, ⟨⟨v1, v2, v3, v4⟩, ⟨v5, v6, v7, v8, v9, v10⟩, ⟨v11, v12, v13, v14⟩, ⟨v15, v16, v17, v18, v19, v20⟩⟩, ⟨hC, hN, hln, hT1, hT2, hD2⟩, hB, hw⟩, hK⟩ := id h
  rcases hw with ⟨c0, l0, D0, q0⟩ | ⟨c0, l0, hl, ht, hI⟩
  · have h5 : M.1 (x + 87 + 1) 5 = 0 := by rw [hB.2.2.2.2.2.1, l0, nI_0]
    refine tw_q h (v := -2) ?_ (fun M1 w1 => mr0 (n0_Mo_colour w1 h5))
    exact n_X_colour (d := d + 9) w v11 hC (fun g => absurd g.1.1 (by omega))
  · obtain ⟨hq1, hq2, hq3, hq4⟩ := tI_q hC (by omega) hI
    obtain ⟨K, P1, P2, P3, e1, e2, e3, e4, hX⟩ := tI_B (A := fun j => M.1 (x + 87 + j)) hC c0 (by omega) hI hB l0 (by omega)
    obtain ⟨n9, hn9⟩ := nI_all (M.1 (x + 10 + 1) 8)
    have es := paQ_eta hn9
    have hp : x + 22 ≤ p := by
      have := X_pq w
      omega
    have hP : ∀ i, i < c → (fun j => M.1 (x + 87 + j)) 1 (7 + i) = pa i := fun i hi => hB.2.2.2.2.2.2.2.1 i (by omega)
    have hl2 := l_02 hl
    by_cases ga : (1 : Int32) ≤ a ∧ a ≤ 4
    · obtain ⟨m, hm1, hm, rfl⟩ := mm_14 ga
      by_cases gb : vI c b
      · obtain ⟨i, hi, rfl⟩ := vI_nat (by omega) gb
        have hx := q_X_colour (sc := sc) (sa := sa) (d := d + 9) (z := z) (M := M) (oc := M.1 (x + 10) 6) (tb := M.1 (x + 10) 7) (lv := M.1 (x + 10) 8) (mx := M.1 (x + 10) 9) (fr := M.1 (x + 10 + 7)) (tr := M.1 (x + 10 + 8)) (tk := M.1 (x + 10 + 9)) (ch := M.1 (x + 10 + 10)) (co := M.1 (x + 10 + 11)) (s := M.1 (x + 10 + 1) 5) (l := M.1 (x + 10 + 1) 6) (t := M.1 (x + 10 + 1) 7) (q := qM M (x + 10 + 1) n9) w hp v11 hC ⟨c0, by rw [v12]; exact hl2.1, by rw [v12]; exact hl2.2, (b_14.mpr ga).1, (b_14.mpr ga).2⟩ hm hi
        rw [es, v5, v12, v13] at hx
        exact tw_g h (zi_x hx ⟨rfl, kP_pa tk1⟩) (fun M1 w1 => q_Mo_colour w1 (F := M.1 (x + 87)) (A := fun j => M.1 (x + 87 + j)) hC c0 hB.1 hB.2.1 hB.2.2.1 hB.2.2.2.2.2.1 l0 (by omega) hP hm1 hm (fr := M.1 (x + 10 + 7)) (tr := M.1 (x + 10 + 8)) (qc := qM M (x + 10 + 1) n9) hi (kG_cl hC c0 hm))
      · exact tw_q h (n_X_colour (d := d + 9) w v11 hC (fun g => gb g.2)) (fun M1 w1 => n_Mo_colour1 w1 (F := M.1 (x + 87)) (A := fun j => M.1 (x + 87 + j)) hC c0 hB.1 hB.2.1 hB.2.2.1 hB.2.2.2.2.2.1 l0 (by omega) hP hm1 hm gb)
    · exact tw_q h (n_X_colour (d := d + 9) w v11 hC (fun g => ga (b_14.mp g.1.2.2.2))) (fun M1 w1 => n_Mo_colour w1 (F := M.1 (x + 87)) (A := fun j => M.1 (x + 87 + j)) hC c0 hB.1 hB.2.1 hB.2.2.1 hB.2.2.2.2.2.1 l0 (by omega) hP ga)
theorem c_hue {sc : Option (Nat × Nat × (Nat → Int32))} {sa : Nat → Nat} {d : Nat} {z : Nat × Nat} {x T p r : Nat} {M : mz_M} (h : iV x T p r M) {a b : Int32} : tw sc sa (d + 16) 162 287 [.ref x, .int a, .int b] [.ref (x + 87), .int a, .int b] M z (fun M2 => ∃ p r, iV x T p r M2) := by
  obtain ⟨w, wm, iT1, tk1, ⟨pr, l, t, c, ln, T1, D, pa, ks, os, ts, hs, cs, q, ⟨⟨v1, v2, v3, v4⟩, ⟨v5, v6, v7, v8, v9, v10⟩, ⟨v11, v12, v13, v14⟩, ⟨v15, v16, v17, v18, v19, v20⟩⟩, ⟨hC, hN, hln, hT1, hT2, hD2⟩, hB, hw⟩, hK⟩ := id h
  rcases hw with ⟨c0, l0, D0, q0⟩ | ⟨c0, l0, hl, ht, hI⟩
  · have h5 : M.1 (x + 87 + 1) 5 = 0 := by rw [hB.2.2.2.2.2.1, l0, nI_0]
    refine tw_q h (v := -2) ?_ (fun M1 w1 => mr0 (n0_Mo_hue w1 h5))
    exact n_X_hue (d := d + 9) w v11 hC (fun g => absurd g.1.1 (by omega))
  · obtain ⟨hq1, hq2, hq3, hq4⟩ := tI_q hC (by omega) hI
    obtain ⟨K, P1, P2, P3, e1, e2, e3, e4, hX⟩ := tI_B (A := fun j => M.1 (x + 87 + j)) hC c0 (by omega) hI hB l0 (by omega)
    obtain ⟨n9, hn9⟩ := nI_all (M.1 (x + 10 + 1) 8)
    have es := paQ_eta hn9
    have hp : x + 22 ≤ p := by
      have := X_pq w
      omega
    have hP : ∀ i, i < c → (fun j => M.1 (x + 87 + j)) 1 (7 + i) = pa i := fun i hi => hB.2.2.2.2.2.2.2.1 i (by omega)
    have hl2 := l_02 hl
    by_cases ga : (1 : Int32) ≤ a ∧ a ≤ 4
    · obtain ⟨m, hm1, hm, rfl⟩ := mm_14 ga
      by_cases gb : vI c b
      · obtain ⟨i, hi, rfl⟩ := vI_nat (by omega) gb
        have hx := q_X_hue (sc := sc) (sa := sa) (d := d + 8) (z := z) (M := M) (oc := M.1 (x + 10) 6) (tb := M.1 (x + 10) 7) (lv := M.1 (x + 10) 8) (mx := M.1 (x + 10) 9) (fr := M.1 (x + 10 + 7)) (tr := M.1 (x + 10 + 8)) (tk := M.1 (x + 10 + 9)) (ch := M.1 (x + 10 + 10)) (co := M.1 (x + 10 + 11)) (s := M.1 (x + 10 + 1) 5) (l := M.1 (x + 10 + 1) 6) (t := M.1 (x + 10 + 1) 7) (q := qM M (x + 10 + 1) n9) w hp v11 hC ⟨c0, by rw [v12]; exact hl2.1, by rw [v12]; exact hl2.2, (b_14.mpr ga).1, (b_14.mpr ga).2⟩ tk1 hi
        rw [es, v5, v12, v13] at hx
        exact tw_g h (zi_x hx ⟨rfl, kP_pa (yG_tk hC tk1 (by omega))⟩) (fun M1 w1 => q_Mo_hue2 w1 (F := M.1 (x + 87)) (A := fun j => M.1 (x + 87 + j)) hC c0 hB.1 hB.2.1 hB.2.2.1 hB.2.2.2.2.2.1 l0 (by omega) hP hm1 hm (fr := M.1 (x + 10 + 7)) (tk := M.1 (x + 10 + 9)) (ch := M.1 (x + 10 + 10)) (co := M.1 (x + 10 + 11)) (qc := qM M (x + 10 + 1) n9) hi (yG_le hC tk1 (by omega)))
      · exact tw_q h (n_X_hue (d := d + 9) w v11 hC (fun g => gb g.2)) (fun M1 w1 => n_Mo_hue1 w1 (F := M.1 (x + 87)) (A := fun j => M.1 (x + 87 + j)) hC c0 hB.1 hB.2.1 hB.2.2.1 hB.2.2.2.2.2.1 l0 (by omega) hP hm1 hm gb)
    · exact tw_q h (n_X_hue (d := d + 9) w v11 hC (fun g => ga (b_14.mp g.1.2.2.2))) (fun M1 w1 => n_Mo_hue w1 (F := M.1 (x + 87)) (A := fun j => M.1 (x + 87 + j)) hC c0 hB.1 hB.2.1 hB.2.2.1 hB.2.2.2.2.2.1 l0 (by omega) hP ga)
