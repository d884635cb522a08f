theorem paB_eta {M : mz_M} {pb : Nat} : paB M pb (M.1 pb 6) (M.1 pb 7) (M.1 pb 8) (M.1 pb 9) (M.1 (pb + 7)) (M.1 (pb + 8)) (M.1 (pb + 9)) (M.1 (pb + 10)) (M.1 (pb + 11)) = M := by
  unfold paB
  refine Prod.ext (funext fun a => ?_) rfl
  dsimp only
  split
  · rename_i e
    subst e
    funext k
    unfold paH
    split <;> rfl
  · split
    · rename_i e
      rw [e]
    · split
      · rename_i e
        rw [e]
      · split
        · rename_i e
          rw [e]
        · split
          · rename_i e
            rw [e]
          · split
            · rename_i e
              rw [e]
            · rfl
theorem paQ_eta {M : mz_M} {pb n : Nat} (h : M.1 (pb + 1) 8 = nI n) : paQ M pb (M.1 pb 6) (M.1 pb 7) (M.1 pb 8) (M.1 pb 9) (M.1 (pb + 7)) (M.1 (pb + 8)) (M.1 (pb + 9)) (M.1 (pb + 10)) (M.1 (pb + 11)) (M.1 (pb + 1) 5) (M.1 (pb + 1) 6) (M.1 (pb + 1) 7) (qM M (pb + 1) n) = M := by
  unfold paQ
  rw [paB_eta]
  exact shQ_eta h
theorem paQ_o2 {M : mz_M} {pb : Nat} {oc tb lv mx : Int32} {fr tr tk ch co : Nat → Int32} {s l t : Int32} {q : sQ} {a : Nat} (h : a < pb ∨ pb + 12 ≤ a) : (paQ M pb oc tb lv mx fr tr tk ch co s l t q).1 a = M.1 a ∧ (paQ M pb oc tb lv mx fr tr tk ch co s l t q).2.1 a = M.2.1 a := by
  refine ⟨?_, shP_oJ (by omega)⟩
  refine (shP_o (by omega) (by omega) (by omega) (by omega) (by omega)).trans ?_
  show (if a = pb then _ else if a = pb + 7 then _ else if a = pb + 8 then _ else if a = pb + 9 then _ else if a = pb + 10 then _ else if a = pb + 11 then _ else M.1 a) = M.1 a
  rw [if_neg (by omega), if_neg (by omega), if_neg (by omega), if_neg (by omega), if_neg (by omega), if_neg (by omega)]
theorem kP_pa {x : Nat} {M : mz_M} {oc tb lv mx : Int32} {fr tr tk ch co : Nat → Int32} {s l t : Int32} {q : sQ} (hk : ∀ i, ∃ c, c < 12 ∧ tk i = nI c) : kP x M (paQ M (x + 10) oc tb lv mx fr tr tk ch co s l t q) := ⟨rfl, fun a ha => paQ_o2 (by omega), fun i => by rw [paQ_a3]; exact hk i⟩
theorem mm_14 {a : Int32} (h : (1 : Int32) ≤ a ∧ a ≤ 4) : ∃ m, 1 ≤ m ∧ m ≤ 4 ∧ a = nI m := by
  have h0 : ¬ a < 0 := by
    rw [Int32.lt_iff_toInt_lt]
    have := h.1
    rw [Int32.le_iff_toInt_le] at this
    have g1 : (1 : Int32).toInt = 1 := by decide
    have g2 : (0 : Int32).toInt = 0 := by decide
    omega
  obtain ⟨j, hj, rfl⟩ := nI_of2 (n := 4) (by decide) h0 h.2
  refine ⟨j, ?_, hj, rfl⟩
  have := (nI_leI (a := 1) (b := j) (by omega) (by omega)).mp h.1
  omega
theorem b_14 {a : Int32} : (¬ a < 1 ∧ ¬ 4 < a) ↔ ((1 : Int32) ≤ a ∧ a ≤ 4) := by rw [Int32.not_lt, Int32.not_lt]
theorem b_03 {b : Int32} (h : ¬ b < 0 ∧ b ≤ 3) : b = 0 ∨ b = 1 ∨ b = 2 ∨ b = 3 := by
  obtain ⟨j, hj, rfl⟩ := nI_of2 (n := 3) (by decide) h.1 h.2
  have : j = 0 ∨ j = 1 ∨ j = 2 ∨ j = 3 := by omega
  rcases this with rfl | rfl | rfl | rfl
  · exact Or.inl rfl
  · exact Or.inr (Or.inl rfl)
  · exact Or.inr (Or.inr (Or.inl rfl))
  · exact Or.inr (Or.inr (Or.inr rfl))
theorem l_02 {l : Int32} (h : ∃ b, b ≤ 2 ∧ l = nI b) : ¬ l < 0 ∧ ¬ 2 < l := by
  obtain ⟨b, hb, rfl⟩ := h
  exact ⟨nI_nn (by omega), nI_nlt (a := 2) (b := b) hb (by omega)⟩
theorem c_search {sc : Option (Nat × Nat × (Nat → Int32))} {sa : Nat → Nat} {d : Nat} {z : Nat × Nat} {x T p r : Nat} {M : mz_M} (h : iV x T p r M) {a b : Int32} : tw sc sa (d + 16) 156 275 [.ref x, .int a, .int b] [.ref (x + 87), .int a, .int b] M z (fun M2 => ∃ p r, iV x T p r M2) := by
  obtain ⟨w, wm, iT1, tk1, ⟨pr, l, t, c, ln, T1, D, pa, ks, os, ts, hs, cs, q, ⟨⟨v1, v2, v3, v4⟩, ⟨v5, v6, v7, v8, v9, v10⟩, ⟨v11, v12, v13, v14⟩, ⟨v15, v16, v17, v18, v19, v20⟩⟩, ⟨hC, hN, hln, hT1, hT2, hD2⟩, hB, hw⟩, hK⟩ := id h
  rcases hw with ⟨c0, l0, D0, q0⟩ | ⟨c0, l0, hl, ht, hI⟩
  · have h5 : M.1 (x + 87 + 1) 5 = 0 := by rw [hB.2.2.2.2.2.1, l0, nI_0]
    refine tw_q h (v := -2) ?_ (fun M1 w1 => mr0 (n0_Mo_search w1 h5))
    exact n_X_search (d := d + 9) w v11 hC (fun g => absurd g.1.1 (by omega))
  · obtain ⟨hq1, hq2, hq3, hq4⟩ := tI_q hC (by omega) hI
    obtain ⟨K, P1, P2, P3, e1, e2, e3, e4, hX⟩ := tI_B (A := fun j => M.1 (x + 87 + j)) hC c0 (by omega) hI hB l0 (by omega)
    obtain ⟨n9, hn9⟩ := nI_all (M.1 (x + 10 + 1) 8)
    have es := paQ_eta hn9
    have hp : x + 22 ≤ p := by
      have := X_pq w
      omega
    have hP : ∀ i, i < c → (fun j => M.1 (x + 87 + j)) 1 (7 + i) = pa i := fun i hi => hB.2.2.2.2.2.2.2.1 i (by omega)
    have hl2 := l_02 hl
    by_cases ga : (1 : Int32) ≤ a ∧ a ≤ 4
    · obtain ⟨m, hm1, hm, rfl⟩ := mm_14 ga
      by_cases gb : ¬ (¬ b < 0 ∧ b ≤ 3)
      · exact tw_q h (n_X_search (d := d + 9) w v11 hC (fun g => gb g.2)) (fun M1 w1 => n_Mo_search1 w1 (F := M.1 (x + 87)) (A := fun j => M.1 (x + 87 + j)) hC c0 hB.1 hB.2.1 hB.2.2.1 hB.2.2.2.2.2.1 l0 (by omega) hP hm1 hm gb)
      rcases b_03 (Decidable.not_not.mp gb) with rfl | rfl | rfl | rfl
      · have hx := q_X_search0 (sc := sc) (sa := sa) (d := d + 9) (z := z) (M := M) (oc := M.1 (x + 10) 6) (tb := M.1 (x + 10) 7) (lv := M.1 (x + 10) 8) (mx := M.1 (x + 10) 9) (fr := M.1 (x + 10 + 7)) (tr := M.1 (x + 10 + 8)) (tk := M.1 (x + 10 + 9)) (ch := M.1 (x + 10 + 10)) (co := M.1 (x + 10 + 11)) (s := M.1 (x + 10 + 1) 5) (l := M.1 (x + 10 + 1) 6) (t := M.1 (x + 10 + 1) 7) (q := qM M (x + 10 + 1) n9) w hp v11 hC ⟨c0, by rw [v12]; exact hl2.1, by rw [v12]; exact hl2.2, (b_14.mpr ga).1, (b_14.mpr ga).2⟩ hm
        rw [es, v5, v12, v13] at hx
        exact tw_g h (zi_x hx ⟨rfl, kP_pa tk1⟩) (fun M1 w1 => q_Mo_search0 w1 (F := M.1 (x + 87)) (A := fun j => M.1 (x + 87 + j)) hC c0 hB.1 hB.2.1 hB.2.2.1 hB.2.2.2.2.2.1 l0 (by omega) hP hm1 hm (fr := M.1 (x + 10 + 7)) (tr := M.1 (x + 10 + 8)) (qc := qM M (x + 10 + 1) n9))
      · have hx := q_X_search1 (sc := sc) (sa := sa) (d := d + 9) (z := z) (M := M) (oc := M.1 (x + 10) 6) (tb := M.1 (x + 10) 7) (lv := M.1 (x + 10) 8) (mx := M.1 (x + 10) 9) (fr := M.1 (x + 10 + 7)) (tr := M.1 (x + 10 + 8)) (tk := M.1 (x + 10 + 9)) (ch := M.1 (x + 10 + 10)) (co := M.1 (x + 10 + 11)) (s := M.1 (x + 10 + 1) 5) (l := M.1 (x + 10 + 1) 6) (t := M.1 (x + 10 + 1) 7) (q := qM M (x + 10 + 1) n9) w hp v11 hC ⟨c0, by rw [v12]; exact hl2.1, by rw [v12]; exact hl2.2, (b_14.mpr ga).1, (b_14.mpr ga).2⟩ hm
        rw [es, v5, v12, v13] at hx
        exact tw_g h (zi_x hx ⟨rfl, kP_pa tk1⟩) (fun M1 w1 => q_Mo_search1 w1 (F := M.1 (x + 87)) (A := fun j => M.1 (x + 87 + j)) hC c0 hB.1 hB.2.1 hB.2.2.1 hB.2.2.2.2.2.1 l0 (by omega) hP hm1 hm (fr := M.1 (x + 10 + 7)) (tr := M.1 (x + 10 + 8)) (qc := qM M (x + 10 + 1) n9))
      · have hx := q_X_search2 (sc := sc) (sa := sa) (d := d + 9) (z := z) (M := M) (oc := M.1 (x + 10) 6) (tb := M.1 (x + 10) 7) (lv := M.1 (x + 10) 8) (mx := M.1 (x + 10) 9) (fr := M.1 (x + 10 + 7)) (tr := M.1 (x + 10 + 8)) (tk := M.1 (x + 10 + 9)) (ch := M.1 (x + 10 + 10)) (co := M.1 (x + 10 + 11)) (s := M.1 (x + 10 + 1) 5) (l := M.1 (x + 10 + 1) 6) (t := M.1 (x + 10 + 1) 7) (q := qM M (x + 10 + 1) n9) w hp v11 hC ⟨c0, by rw [v12]; exact hl2.1, by rw [v12]; exact hl2.2, (b_14.mpr ga).1, (b_14.mpr ga).2⟩ hm
        rw [es, v5, v12, v13] at hx
        exact tw_g h (zi_x hx ⟨rfl, kP_pa tk1⟩) (fun M1 w1 => q_Mo_search2 w1 (F := M.1 (x + 87)) (A := fun j => M.1 (x + 87 + j)) hC c0 hB.1 hB.2.1 hB.2.2.1 hB.2.2.2.2.2.1 l0 (by omega) hP hm1 hm (fr := M.1 (x + 10 + 7)) (tr := M.1 (x + 10 + 8)) (qc := qM M (x + 10 + 1) n9))
      · have hx := q_X_search3 (sc := sc) (sa := sa) (d := d + 9) (z := z) (M := M) (oc := M.1 (x + 10) 6) (tb := M.1 (x + 10) 7) (lv := M.1 (x + 10) 8) (mx := M.1 (x + 10) 9) (fr := M.1 (x + 10 + 7)) (tr := M.1 (x + 10 + 8)) (tk := M.1 (x + 10 + 9)) (ch := M.1 (x + 10 + 10)) (co := M.1 (x + 10 + 11)) (s := M.1 (x + 10 + 1) 5) (l := M.1 (x + 10 + 1) 6) (t := M.1 (x + 10 + 1) 7) (q := qM M (x + 10 + 1) n9) w hp v11 hC ⟨c0, by rw [v12]; exact hl2.1, by rw [v12]; exact hl2.2, (b_14.mpr ga).1, (b_14.mpr ga).2⟩ hm
        rw [es, v5, v12, v13] at hx
        exact tw_g h (zi_x hx ⟨rfl, kP_pa tk1⟩) (fun M1 w1 => q_Mo_search3 w1 (F := M.1 (x + 87)) (A := fun j => M.1 (x + 87 + j)) hC c0 hB.1 hB.2.1 hB.2.2.1 hB.2.2.2.2.2.1 l0 (by omega) hP hm1 hm (fr := M.1 (x + 10 + 7)) (tr := M.1 (x + 10 + 8)) (qc := qM M (x + 10 + 1) n9))
    · exact tw_q h (n_X_search (d := d + 9) w v11 hC (fun g => ga (b_14.mp g.1.2.2.2))) (fun M1 w1 => n_Mo_search w1 (F := M.1 (x + 87)) (A := fun j => M.1 (x + 87 + j)) hC c0 hB.1 hB.2.1 hB.2.2.1 hB.2.2.2.2.2.1 l0 (by omega) hP ga)
theorem c_searchBy {sc : Option (Nat × Nat × (Nat → Int32))} {sa : Nat → Nat} {d : Nat} {z : Nat × Nat} {x T p r : Nat} {M : mz_M} (h : iV x T p r M) {a b : Int32} : tw sc sa (d + 16) 157 276 [.ref x, .int a, .int b] [.ref (x + 87), .int a, .int b] M z (fun M2 => ∃ p r, iV x T p r M2) := by
  obtain ⟨w, wm, iT1, tk1, ⟨pr, l, t, c, ln, T1, D, pa, ks, os, ts, hs, cs, q, ⟨⟨v1, v2, v3, v4⟩, ⟨v5, v6, v7, v8, v9, v10⟩, ⟨v11, v12, v13, v14⟩, ⟨v15, v16, v17, v18, v19, v20⟩⟩, ⟨hC, hN, hln, hT1, hT2, hD2⟩, hB, hw⟩, hK⟩ := id h
  rcases hw with ⟨c0, l0, D0, q0⟩ | ⟨c0, l0, hl, ht, hI⟩
  · have h5 : M.1 (x + 87 + 1) 5 = 0 := by rw [hB.2.2.2.2.2.1, l0, nI_0]
    refine tw_q h (v := -2) ?_ (fun M1 w1 => mr0 (n0_Mo_searchBy w1 h5))
    exact n_X_searchBy (d := d + 9) w v11 hC (fun g => absurd g.1 (by omega))
  · obtain ⟨hq1, hq2, hq3, hq4⟩ := tI_q hC (by omega) hI
    obtain ⟨K, P1, P2, P3, e1, e2, e3, e4, hX⟩ := tI_B (A := fun j => M.1 (x + 87 + j)) hC c0 (by omega) hI hB l0 (by omega)
    obtain ⟨n9, hn9⟩ := nI_all (M.1 (x + 10 + 1) 8)
    have es := paQ_eta hn9
    have hp : x + 22 ≤ p := by
      have := X_pq w
      omega
    have hP : ∀ i, i < c → (fun j => M.1 (x + 87 + j)) 1 (7 + i) = pa i := fun i hi => hB.2.2.2.2.2.2.2.1 i (by omega)
    have hl2 := l_02 hl
    by_cases gb : (1 : Int32) ≤ b ∧ b ≤ 4
    · obtain ⟨m, hm1, hm, rfl⟩ := mm_14 gb
      by_cases gl : ¬ a < 0 ∧ a ≤ 2
      · have hx := q_X_searchBy (sc := sc) (sa := sa) (d := d + 9) (z := z) (M := M) (oc := M.1 (x + 10) 6) (tb := M.1 (x + 10) 7) (lv := M.1 (x + 10) 8) (mx := M.1 (x + 10) 9) (fr := M.1 (x + 10 + 7)) (tr := M.1 (x + 10 + 8)) (tk := M.1 (x + 10 + 9)) (ch := M.1 (x + 10 + 10)) (co := M.1 (x + 10 + 11)) (s := M.1 (x + 10 + 1) 5) (l := M.1 (x + 10 + 1) 6) (t := M.1 (x + 10 + 1) 7) (q := qM M (x + 10 + 1) n9) w hp v11 hC (a := a) ⟨c0, gl.1, by rw [Int32.not_lt]; exact gl.2, (b_14.mpr gb).1, (b_14.mpr gb).2⟩ hm
        rw [es, v5, v13] at hx
        exact tw_g h (zi_x hx ⟨rfl, kP_pa tk1⟩) (fun M1 w1 => q_Mo_searchBy w1 (F := M.1 (x + 87)) (A := fun j => M.1 (x + 87 + j)) hC c0 hB.1 hB.2.1 hB.2.2.1 hB.2.2.2.2.2.1 l0 (by omega) hP hm1 hm (fr := M.1 (x + 10 + 7)) (tr := M.1 (x + 10 + 8)) (qc := qM M (x + 10 + 1) n9) gl)
      · exact tw_q h (n_X_searchBy (d := d + 9) w v11 hC (fun g => gl ⟨g.2.1, by rw [← Int32.not_lt]; exact g.2.2.1⟩)) (fun M1 w1 => n_Mo_searchBy1 w1 (F := M.1 (x + 87)) (A := fun j => M.1 (x + 87 + j)) hC c0 hB.1 hB.2.1 hB.2.2.1 hB.2.2.2.2.2.1 l0 (by omega) hP hm1 hm gl)
    · exact tw_q h (n_X_searchBy (d := d + 9) w v11 hC (fun g => gb (b_14.mp g.2.2.2))) (fun M1 w1 => n_Mo_searchBy w1 (F := M.1 (x + 87)) (A := fun j => M.1 (x + 87 + j)) hC c0 hB.1 hB.2.1 hB.2.2.1 hB.2.2.2.2.2.1 l0 (by omega) hP gb)
theorem c_colours {sc : Option (Nat × Nat × (Nat → Int32))} {sa : Nat → Nat} {d : Nat} {z : Nat × Nat} {x T p r : Nat} {M : mz_M} (h : iV x T p r M) : tw sc sa (d + 16) 159 278 [.ref x] [.ref (x + 87)] M z (fun M2 => ∃ p r, iV x T p r M2) := by
  obtain ⟨w, wm, iT1, tk1, ⟨pr, l, t, c, ln, T1, D, pa, ks, os, ts, hs, cs, q, ⟨⟨v1, v2, v3, v4⟩, ⟨v5, v6, v7, v8, v9, v10⟩, ⟨v11, v12, v13, v14⟩, ⟨v15, v16, v17, v18, v19, v20⟩⟩, ⟨hC, hN, hln, hT1, hT2, hD2⟩, hB, hw⟩, hK⟩ := id h
  rcases hw with ⟨c0, l0, D0, q0⟩ | ⟨c0, l0, hl, ht, hI⟩
  · have h5 : M.1 (x + 87 + 1) 5 = 0 := by rw [hB.2.2.2.2.2.1, l0, nI_0]
    refine tw_q h (v := -2) ?_ (fun M1 w1 => mr0 (n0_Mo_colours w1 h5))
    exact n_X_colours (d := d + 9) w v11 hC (by omega)
  · obtain ⟨hq1, hq2, hq3, hq4⟩ := tI_q hC (by omega) hI
    obtain ⟨K, P1, P2, P3, e1, e2, e3, e4, hX⟩ := tI_B (A := fun j => M.1 (x + 87 + j)) hC c0 (by omega) hI hB l0 (by omega)
    obtain ⟨n9, hn9⟩ := nI_all (M.1 (x + 10 + 1) 8)
    have es := paQ_eta hn9
    have hp : x + 22 ≤ p := by
      have := X_pq w
      omega
    have hP : ∀ i, i < c → (fun j => M.1 (x + 87 + j)) 1 (7 + i) = pa i := fun i hi => hB.2.2.2.2.2.2.2.1 i (by omega)
    have hl2 := l_02 hl
    have hx := q_X_colours (sc := sc) (sa := sa) (d := d + 9) (z := z) (M := M) (oc := M.1 (x + 10) 6) (tb := M.1 (x + 10) 7) (lv := M.1 (x + 10) 8) (mx := M.1 (x + 10) 9) (fr := M.1 (x + 10 + 7)) (tr := M.1 (x + 10 + 8)) (tk := M.1 (x + 10 + 9)) (ch := M.1 (x + 10 + 10)) (co := M.1 (x + 10 + 11)) (s := M.1 (x + 10 + 1) 5) (l := M.1 (x + 10 + 1) 6) (t := M.1 (x + 10 + 1) 7) (q := qM M (x + 10 + 1) n9) w hp v11 hC c0
    rw [es, v5, v12, v13] at hx
    refine tw_g h (v := coI (fun n => (cX (nI c) l t c pa (M.1 (x + 10 + 7)) (M.1 (x + 10 + 8)) (qM M (x + 10 + 1) n9) n).1) 4 1) (zi_m (fun v9 M9 g => ?_) hx) (fun M1 w1 => q_Mo_colours w1 (F := M.1 (x + 87)) (A := fun j => M.1 (x + 87 + j)) hC c0 hB.1 hB.2.1 hB.2.2.1 hB.2.2.2.2.2.1 l0 (by omega) hP (fun n n1 n4 => ?_))
    · obtain ⟨g1, o1, o2, o3, o4, f1, f2, s1, l1, t1, q1, rfl⟩ := g
      exact ⟨g1, kP_pa tk1⟩
    · obtain ⟨k, rfl⟩ : ∃ k, n = k + 1 := ⟨n - 1, by omega⟩
      exact ⟨_, _, _, rfl⟩
