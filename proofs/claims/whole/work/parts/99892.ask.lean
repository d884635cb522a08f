theorem c_roots {sc : Option (Nat × Nat × (Nat → Int32))} {sa : Nat → Nat} {d : Nat} {z : Nat × Nat} {x T p r : Nat} {M : mz_M} (h : iV x T p r M) {a : Int32} : tw sc sa (d + 16) 120 230 [.ref x, .int a] [.ref (x + 87), .int a] M z (fun M2 => ∃ p r, iV x T p r M2) := by
  obtain ⟨w, wm, iT1, tk1, ⟨pr, l, t, c, ln, T1, D, pa, ks, os, ts, hs, cs, q, ⟨⟨v1, v2, v3, v4⟩, ⟨v5, v6, v7, v8, v9, v10⟩, ⟨v11, v12, v13, v14⟩, ⟨v15, v16, v17, v18, v19, v20⟩⟩, ⟨hC, hN, hln, hT1, hT2, hD2⟩, hB, hw⟩, hK⟩ := id h
  rcases hw with ⟨c0, l0, D0, q0⟩ | ⟨c0, l0, hl, ht, hI⟩
  · have h5 : M.1 (x + 87 + 1) 5 = 0 := by rw [hB.2.2.2.2.2.1, l0, nI_0]
    refine tw_q h (v := -2) ?_ (fun M1 w1 => mr0 (n0_Mo_roots w1 h5))
    have hx := s_X_roots (sc := sc) (sa := sa) (d := d + 11) (z := z) w v14 hN v11 hC (a := a)
    rw [if_neg (fun g => vI_0 (q0 ▸ g))] at hx
    exact hx
  · obtain ⟨hq1, hq2, hq3, hq4⟩ := tI_q hC (by omega) hI
    obtain ⟨K, P1, P2, P3, e1, e2, e3, e4, hX⟩ := tI_B (A := fun j => M.1 (x + 87 + j)) hC c0 (by omega) hI hB l0 (by omega)
    by_cases g : vI q.1 a
    · obtain ⟨j, hj, rfl⟩ := vI_nat (by omega) g
      have hx := s_X_roots (sc := sc) (sa := sa) (d := d + 11) (z := z) w v14 hN v11 hC (a := nI j)
      rw [if_pos g, v15, nI_clamp (show j < 2 ^ 31 by omega)] at hx
      refine tw_q h hx (fun M1 w1 => ?_)
      have hm := q_Mo_roots (sc := sc) (sa := sa) (d := d + 3) (z := z) w1 hX (F := M.1 (x + 87)) (a := nI j)
      rw [if_pos g, nI_clamp (show j < 2 ^ 31 by omega), bc_rt hq2 hj hC] at hm
      exact hm
    · have hx := s_X_roots (sc := sc) (sa := sa) (d := d + 11) (z := z) w v14 hN v11 hC (a := a)
      rw [if_neg g] at hx
      refine tw_q h hx (fun M1 w1 => ?_)
      have hm := q_Mo_roots (sc := sc) (sa := sa) (d := d + 3) (z := z) w1 hX (F := M.1 (x + 87)) (a := a)
      rw [if_neg g] at hm
      exact hm
theorem e01 {e : Int32} (h0 : ¬ e < 0) (h1 : e ≤ 1) (h2 : ¬ e = 1) : e = 0 := by
  obtain ⟨j, hj, rfl⟩ := nI_of2 (n := 1) (by decide) h0 h1
  have : j = 0 ∨ j = 1 := by omega
  rcases this with rfl | rfl
  · rfl
  · exact absurd rfl h2
theorem c_merging {sc : Option (Nat × Nat × (Nat → Int32))} {sa : Nat → Nat} {d : Nat} {z : Nat × Nat} {x T p r : Nat} {M : mz_M} (h : iV x T p r M) {a b e : Int32} : tw sc sa (d + 16) 150 255 [.ref x, .int a, .int b, .int e] [.ref (x + 87), .int a, .int b, .int e] M z (fun M2 => ∃ p r, iV x T p r M2) := by
  obtain ⟨w, wm, iT1, tk1, ⟨pr, l, t, c, ln, T1, D, pa, ks, os, ts, hs, cs, q, ⟨⟨v1, v2, v3, v4⟩, ⟨v5, v6, v7, v8, v9, v10⟩, ⟨v11, v12, v13, v14⟩, ⟨v15, v16, v17, v18, v19, v20⟩⟩, ⟨hC, hN, hln, hT1, hT2, hD2⟩, hB, hw⟩, hK⟩ := id h
  rcases hw with ⟨c0, l0, D0, q0⟩ | ⟨c0, l0, hl, ht, hI⟩
  · have h5 : M.1 (x + 87 + 1) 5 = 0 := by rw [hB.2.2.2.2.2.1, l0, nI_0]
    refine tw_q h (v := -2) ?_ (fun M1 w1 => mr0 (n0_Mo_merging w1 h5))
    exact e_X_merging (d := d + 12) w v14 hN (fun g => vI_0 (q0 ▸ g.1))
  · obtain ⟨hq1, hq2, hq3, hq4⟩ := tI_q hC (by omega) hI
    obtain ⟨K, P1, P2, P3, e1, e2, e3, e4, hX⟩ := tI_B (A := fun j => M.1 (x + 87 + j)) hC c0 (by omega) hI hB l0 (by omega)
    have hx := s_X_merging (sc := sc) (sa := sa) (d := d + 11) (z := z) w v14 hN v11 hC (by rw [v18]; exact hq1.2.2.2.2.1) (a := a) (b := b) (c := e)
    have hm := fun (M1 : mz_M) (w1 : g_Mo M1.2.2 (x + 87)) => q_Mo_merging (sc := sc) (sa := sa) (d := d + 2) (z := z) w1 hX (F := M.1 (x + 87)) (a := a) (b := b) (e := e)
    by_cases g : (vI q.1 a ∧ vI q.1 b) ∧ ¬ e < 0 ∧ e ≤ 1
    · rw [if_pos ⟨g.1.1, g.1.2, g.2.1, g.2.2⟩, v15, v18] at hx
      by_cases g1 : e = 1
      · rw [if_pos g1] at hx
        refine tw_q h hx (fun M1 w1 => ?_)
        have hm2 := hm M1 w1
        rw [if_pos g, if_neg (by rw [g1]; decide)] at hm2
        exact hm2
      · rw [if_neg g1] at hx
        refine tw_q h hx (fun M1 w1 => ?_)
        have hm2 := hm M1 w1
        rw [if_pos g, if_pos (e01 g.2.1 g.2.2 g1)] at hm2
        exact hm2
    · rw [if_neg (fun g2 => g ⟨⟨g2.1, g2.2.1⟩, g2.2.2⟩)] at hx
      refine tw_q h hx (fun M1 w1 => ?_)
      have hm2 := hm M1 w1
      rw [if_neg g] at hm2
      exact hm2
theorem c_patching {sc : Option (Nat × Nat × (Nat → Int32))} {sa : Nat → Nat} {d : Nat} {z : Nat × Nat} {x T p r : Nat} {M : mz_M} (h : iV x T p r M) {a b e : Int32} : tw sc sa (d + 16) 153 254 [.ref x, .int a, .int b, .int e] [.ref (x + 87), .int a, .int b, .int e] M z (fun M2 => ∃ p r, iV x T p r M2) := by
  obtain ⟨w, wm, iT1, tk1, ⟨pr, l, t, c, ln, T1, D, pa, ks, os, ts, hs, cs, q, ⟨⟨v1, v2, v3, v4⟩, ⟨v5, v6, v7, v8, v9, v10⟩, ⟨v11, v12, v13, v14⟩, ⟨v15, v16, v17, v18, v19, v20⟩⟩, ⟨hC, hN, hln, hT1, hT2, hD2⟩, hB, hw⟩, hK⟩ := id h
  rcases hw with ⟨c0, l0, D0, q0⟩ | ⟨c0, l0, hl, ht, hI⟩
  · have h5 : M.1 (x + 87 + 1) 5 = 0 := by rw [hB.2.2.2.2.2.1, l0, nI_0]
    refine tw_q h (v := -2) ?_ (fun M1 w1 => mr0 (n0_Mo_patching w1 h5))
    have hx := s_X_patching (sc := sc) (sa := sa) (d := d + 12) (z := z) w v14 hN v11 hC (a := a) (b := b) (c := e)
    rw [if_neg (fun g => vI_0 (q0 ▸ g.1))] at hx
    exact hx
  · obtain ⟨hq1, hq2, hq3, hq4⟩ := tI_q hC (by omega) hI
    obtain ⟨K, P1, P2, P3, e1, e2, e3, e4, hX⟩ := tI_B (A := fun j => M.1 (x + 87 + j)) hC c0 (by omega) hI hB l0 (by omega)
    have hx := s_X_patching (sc := sc) (sa := sa) (d := d + 12) (z := z) w v14 hN v11 hC (a := a) (b := b) (c := e)
    have hm := fun (M1 : mz_M) (w1 : g_Mo M1.2.2 (x + 87)) => q_Mo_patching (sc := sc) (sa := sa) (d := d + 2) (z := z) w1 hX (F := M.1 (x + 87)) (a := a) (b := b) (e := e)
    by_cases g : (vI q.1 a ∧ vI q.1 b) ∧ vI q.1 e
    · rw [if_pos ⟨g.1.1, g.1.2, g.2⟩, v15] at hx
      refine tw_q h hx (fun M1 w1 => ?_)
      have hm2 := hm M1 w1
      rw [if_pos g] at hm2
      exact hm2
    · rw [if_neg (fun g2 => g ⟨⟨g2.1, g2.2.1⟩, g2.2.2⟩)] at hx
      refine tw_q h hx (fun M1 w1 => ?_)
      have hm2 := hm M1 w1
      rw [if_neg g] at hm2
      exact hm2
theorem c_spent {sc : Option (Nat × Nat × (Nat → Int32))} {sa : Nat → Nat} {d : Nat} {z : Nat × Nat} {x T p r : Nat} {M : mz_M} (h : iV x T p r M) {a : Int32} : tw sc sa (d + 16) 136 237 [.ref x, .int a] [.ref (x + 87), .int a] M z (fun M2 => ∃ p r, iV x T p r M2) := by
  obtain ⟨w, wm, iT1, tk1, ⟨pr, l, t, c, ln, T1, D, pa, ks, os, ts, hs, cs, q, ⟨⟨v1, v2, v3, v4⟩, ⟨v5, v6, v7, v8, v9, v10⟩, ⟨v11, v12, v13, v14⟩, ⟨v15, v16, v17, v18, v19, v20⟩⟩, ⟨hC, hN, hln, hT1, hT2, hD2⟩, hB, hw⟩, hK⟩ := id h
  rcases hw with ⟨c0, l0, D0, q0⟩ | ⟨c0, l0, hl, ht, hI⟩
  · refine tw_q h (v := -2) ?_ (fun M1 w1 => n_Mo_spent w1 (D := D) hB.2.2.2.2.1 (by omega) (fun g => vI_0 (D0 ▸ g)))
    have hx := s_X_spent (sc := sc) (sa := sa) (d := d + 14) (z := z) w v4 (by omega) (a := a)
    rw [if_neg (fun g => vI_0 (D0 ▸ g))] at hx
    exact hx
  · obtain ⟨hq1, hq2, hq3, hq4⟩ := tI_q hC (by omega) hI
    obtain ⟨K, P1, P2, P3, e1, e2, e3, e4, hX⟩ := tI_B (A := fun j => M.1 (x + 87 + j)) hC c0 (by omega) hI hB l0 (by omega)
    refine tw_q h ?_ (fun M1 w1 => q_Mo_spent w1 hX (fun p q0 j hj => tI_C hC (by omega) e2 e4 p q0 j hj))
    have hx := s_X_spent (sc := sc) (sa := sa) (d := d + 14) (z := z) w v4 (by omega) (a := a)
    rw [v10] at hx
    exact hx
theorem c_snapping {sc : Option (Nat × Nat × (Nat → Int32))} {sa : Nat → Nat} {d : Nat} {z : Nat × Nat} {x T p r : Nat} {M : mz_M} (h : iV x T p r M) {a : Int32} : tw sc sa (d + 16) 129 267 [.ref x, .int a] [.ref (x + 87), .int a] M z (fun M2 => ∃ p r, iV x T p r M2) := by
  obtain ⟨w, wm, iT1, tk1, ⟨pr, l, t, c, ln, T1, D, pa, ks, os, ts, hs, cs, q, ⟨⟨v1, v2, v3, v4⟩, ⟨v5, v6, v7, v8, v9, v10⟩, ⟨v11, v12, v13, v14⟩, ⟨v15, v16, v17, v18, v19, v20⟩⟩, ⟨hC, hN, hln, hT1, hT2, hD2⟩, hB, hw⟩, hK⟩ := id h
  rcases hw with ⟨c0, l0, D0, q0⟩ | ⟨c0, l0, hl, ht, hI⟩
  · have h5 : M.1 (x + 87 + 1) 5 = 0 := by rw [hB.2.2.2.2.2.1, l0, nI_0]
    refine tw_q h (v := -2) ?_ (fun M1 w1 => mr0 (n0_Mo_snapping w1 h5))
    exact n_X_snapping (d := d + 12) w v14 hN (fun g => vI_0 (q0 ▸ g))
  · obtain ⟨hq1, hq2, hq3, hq4⟩ := tI_q hC (by omega) hI
    obtain ⟨K, P1, P2, P3, e1, e2, e3, e4, hX⟩ := tI_B (A := fun j => M.1 (x + 87 + j)) hC c0 (by omega) hI hB l0 (by omega)
    have hv : sV M p pr (nI ln) (nI T1) (nI D) pa ks os ts hs cs (nI c) l t q := ⟨⟨v1, v2, v3, v4⟩, ⟨v5, v6, v7, v8, v9, v10⟩, ⟨v11, v12, v13, v14⟩, ⟨v15, v16, v17, v18, v19, v20⟩⟩
    have ev := sV_eta hv
    by_cases g : vI q.1 a
    · obtain ⟨j, hj, rfl⟩ := vI_nat (by omega) g
      have hx := q_X_snapping (sc := sc) (sa := sa) (d := d + 12) (z := z) (M := M) (de := nI D) (pr := pr) (ln := nI ln) (td := nI T1) (pa := pa) (ks := ks) (os := os) (ts := ts) (hs := hs) (cs := cs) (s := nI c) (l := l) (t := t) (q := q) w hN hq1.2.2.1.1 hj
      rw [ev] at hx
      refine tw_q h hx (fun M1 w1 => ?_)
      have hm := q_Mo_snapping (sc := sc) (sa := sa) (d := d + 4) (z := z) w1 hX (F := M.1 (x + 87)) (a := nI j)
      rw [if_pos g, nI_clamp (show j < 2 ^ 31 by omega)] at hm
      exact hm
    · refine tw_q h (n_X_snapping (d := d + 12) w v14 hN g) (fun M1 w1 => ?_)
      have hm := q_Mo_snapping (sc := sc) (sa := sa) (d := d + 4) (z := z) w1 hX (F := M.1 (x + 87)) (a := a)
      rw [if_neg g] at hm
      exact hm
theorem c_snap {sc : Option (Nat × Nat × (Nat → Int32))} {sa : Nat → Nat} {d : Nat} {z : Nat × Nat} {x T p r : Nat} {M : mz_M} (h : iV x T p r M) : tw sc sa (d + 16) 130 268 [.ref x] [.ref (x + 87)] M z (fun M2 => ∃ p r, iV x T p r M2) := by
  obtain ⟨w, wm, iT1, tk1, ⟨pr, l, t, c, ln, T1, D, pa, ks, os, ts, hs, cs, q, ⟨⟨v1, v2, v3, v4⟩, ⟨v5, v6, v7, v8, v9, v10⟩, ⟨v11, v12, v13, v14⟩, ⟨v15, v16, v17, v18, v19, v20⟩⟩, ⟨hC, hN, hln, hT1, hT2, hD2⟩, hB, hw⟩, hK⟩ := id h
  rcases hw with ⟨c0, l0, D0, q0⟩ | ⟨c0, l0, hl, ht, hI⟩
  · have h5 : M.1 (x + 87 + 1) 5 = 0 := by rw [hB.2.2.2.2.2.1, l0, nI_0]
    refine tw_q h (v := -2) ?_ (fun M1 w1 => mr0 (n0_Mo_snap2 w1 h5))
    exact n_X_snap (d := d + 12) w v11 hC (by omega)
  · obtain ⟨hq1, hq2, hq3, hq4⟩ := tI_q hC (by omega) hI
    obtain ⟨K, P1, P2, P3, e1, e2, e3, e4, hX⟩ := tI_B (A := fun j => M.1 (x + 87 + j)) hC c0 (by omega) hI hB l0 (by omega)
    have hv : sV M p pr (nI ln) (nI T1) (nI D) pa ks os ts hs cs (nI c) l t q := ⟨⟨v1, v2, v3, v4⟩, ⟨v5, v6, v7, v8, v9, v10⟩, ⟨v11, v12, v13, v14⟩, ⟨v15, v16, v17, v18, v19, v20⟩⟩
    have ev := sV_eta hv
    have hx := q_X_snap (sc := sc) (sa := sa) (d := d + 12) (z := z) (M := M) (de := nI D) (pr := pr) (ln := nI ln) (td := nI T1) (pa := pa) (ks := ks) (os := os) (ts := ts) (hs := hs) (cs := cs) (s := nI c) (l := l) (t := t) (q := q) w hN hq1.2.2.1.1 rfl hC c0
    rw [ev] at hx
    exact tw_q h hx (fun M1 w1 => q_Mo_snap2 w1 hX)
theorem c_fault {sc : Option (Nat × Nat × (Nat → Int32))} {sa : Nat → Nat} {d : Nat} {z : Nat × Nat} {x T p r : Nat} {M : mz_M} (h : iV x T p r M) {a : Int32} : tw sc sa (d + 16) 107 216 [.ref x, .int a] [.ref (x + 87), .int a] M z (fun M2 => ∃ p r, iV x T p r M2) := by
  obtain ⟨w, wm, ⟨t1, t2, t3, t4, t5, t6⟩, -⟩ := id h
  have hx := s_X_fault (sc := sc) (sa := sa) (d := d + 15) (z := z) w (a := a)
  rw [t5, t6] at hx
  exact tw_q h hx (fun M1 w1 => mr0 (s_Mo_fault w1))
theorem c_count {sc : Option (Nat × Nat × (Nat → Int32))} {sa : Nat → Nat} {d : Nat} {z : Nat × Nat} {x T p r : Nat} {M : mz_M} (h : iV x T p r M) {a : Int32} : tw sc sa (d + 16) 108 219 [.ref x, .int a] [.ref (x + 87), .int a] M z (fun M2 => ∃ p r, iV x T p r M2) := by
  obtain ⟨w, wm, ⟨t1, t2, t3, t4, t5, t6⟩, tk1, ⟨pr, l, t, c, ln, T1, D, pa, ks, os, ts, hs, cs, q, ⟨⟨v1, v2, v3, v4⟩, ⟨v5, v6, v7, v8, v9, v10⟩, ⟨v11, v12, v13, v14⟩, ⟨v15, v16, v17, v18, v19, v20⟩⟩, ⟨hC, hN, hln, hT1, hT2, hD2⟩, hB, hw⟩, hK⟩ := id h
  have hc : (a.toInt < 0 ∨ 8 < a.toInt) ∨ a.toInt = 0 ∨ a.toInt = 1 ∨ a.toInt = 2 ∨ a.toInt = 3 ∨ a.toInt = 4 ∨ a.toInt = 5 ∨ a.toInt = 6 ∨ a.toInt = 7 ∨ a.toInt = 8 := by omega
  have hi : ∀ k : Int32, a.toInt = k.toInt → a = k := fun k g => Int32.toInt_inj.mp g
  rcases hc with g | g | g | g | g | g | g | g | g | g
  · exact tw_q h (s_X_countN (d := d + 14) w g) (fun M1 w1 => mr0 (s_Mo_countN w1 g))
  · obtain rfl := hi 0 (g.trans (by decide))
    have hx := s_X_count0 (sc := sc) (sa := sa) (d := d + 14) (z := z) w
    rw [v11] at hx
    refine tw_q h hx (fun M1 w1 => mr0 ?_)
    have hm := s_Mo_count0 (sc := sc) (sa := sa) (d := d + 15) (z := z) w1 (F := M.1 (x + 87)) (A := fun j => M.1 (x + 87 + j))
    rw [show M.1 (x + 87 + 1) 0 = nI c from hB.1] at hm
    exact hm
  · obtain rfl := hi 1 (g.trans (by decide))
    have hx := s_X_count1 (sc := sc) (sa := sa) (d := d + 14) (z := z) w
    rw [v12] at hx
    refine tw_q h hx (fun M1 w1 => mr0 ?_)
    have hm := s_Mo_count1 (sc := sc) (sa := sa) (d := d + 15) (z := z) w1 (F := M.1 (x + 87)) (A := fun j => M.1 (x + 87 + j))
    rw [show M.1 (x + 87 + 1) 1 = l from hB.2.1] at hm
    exact hm
  · obtain rfl := hi 2 (g.trans (by decide))
    have hx := s_X_count2 (sc := sc) (sa := sa) (d := d + 14) (z := z) w
    rw [v13] at hx
    refine tw_q h hx (fun M1 w1 => mr0 ?_)
    have hm := s_Mo_count2 (sc := sc) (sa := sa) (d := d + 15) (z := z) w1 (F := M.1 (x + 87)) (A := fun j => M.1 (x + 87 + j))
    rw [show M.1 (x + 87 + 1) 2 = t from hB.2.2.1] at hm
    exact hm
  · obtain rfl := hi 3 (g.trans (by decide))
    have hx := s_X_count3 (sc := sc) (sa := sa) (d := d + 14) (z := z) w
    rw [v14] at hx
    rcases hw with ⟨c0, l0, D0, q0⟩ | ⟨c0, l0, hl, ht, hI⟩
    · have h5 : M.1 (x + 87 + 1) 5 = 0 := by rw [hB.2.2.2.2.2.1, l0, nI_0]
      rw [q0, nI_0] at hx
      exact tw_q h hx (fun M1 w1 => mr0 (n0_Mo_count3 w1 h5))
    · obtain ⟨K, P1, P2, P3, e1, e2, e3, e4, hX⟩ := tI_B (A := fun j => M.1 (x + 87 + j)) hC c0 (by omega) hI hB l0 (by omega)
      exact tw_q h hx (fun M1 w1 => q_Mo_count3 w1 hX)
  · obtain rfl := hi 4 (g.trans (by decide))
    have hx := s_X_count4 (sc := sc) (sa := sa) (d := d + 14) (z := z) w
    rw [v1] at hx
    refine tw_q h hx (fun M1 w1 => mr0 ?_)
    have hm := s_Mo_count4 (sc := sc) (sa := sa) (d := d + 15) (z := z) w1 (F := M.1 (x + 87)) (A := fun j => M.1 (x + 87 + j))
    rw [show M.1 (x + 87 + 1) 3 = pr from hB.2.2.2.1] at hm
    exact hm
  · obtain rfl := hi 5 (g.trans (by decide))
    have hx := s_X_count5 (sc := sc) (sa := sa) (d := d + 14) (z := z) w
    rw [v4] at hx
    refine tw_q h hx (fun M1 w1 => mr0 ?_)
    have hm := s_Mo_count5 (sc := sc) (sa := sa) (d := d + 15) (z := z) w1 (F := M.1 (x + 87)) (A := fun j => M.1 (x + 87 + j))
    rw [show M.1 (x + 87 + 1) 4 = nI D from hB.2.2.2.2.1] at hm
    exact hm
  · obtain rfl := hi 6 (g.trans (by decide))
    have hx := s_X_count6 (sc := sc) (sa := sa) (d := d + 14) (z := z) w
    rw [v3, v4, nI_sub' hT2] at hx
    refine tw_q h hx (fun M1 w1 => mr0 ?_)
    have hm := s_Mo_count6 (sc := sc) (sa := sa) (d := d + 15) (z := z) w1 (F := M.1 (x + 87)) (A := fun j => M.1 (x + 87 + j))
    rw [show M.1 (x + 87 + 1) 6 = nI (D - T1) from hB.2.2.2.2.2.2.1] at hm
    exact hm
  · obtain rfl := hi 7 (g.trans (by decide))
    have hx := s_X_count7 (sc := sc) (sa := sa) (d := d + 14) (z := z) w
    rw [v2] at hx
    refine tw_q h hx (fun M1 w1 => mr0 ?_)
    have hm := s_Mo_count7 (sc := sc) (sa := sa) (d := d + 15) (z := z) w1 (F := M.1 (x + 87)) (A := fun j => M.1 (x + 87 + j))
    rw [show M.1 (x + 87 + 1) 5 = nI ln from hB.2.2.2.2.2.1] at hm
    exact hm
  · obtain rfl := hi 8 (g.trans (by decide))
    have hx := s_X_count8 (sc := sc) (sa := sa) (d := d + 14) (z := z) w
    rw [t2] at hx
    refine tw_q h hx (fun M1 w1 => mr0 ?_)
    have hm := s_Mo_count8 (sc := sc) (sa := sa) (d := d + 15) (z := z) w1 (F := M.1 (x + 87)) (A := fun j => M.1 (x + 87 + j))
    rw [show M.1 (x + 87) 3 = nI T from t3] at hm
    exact hm
theorem c_room {sc : Option (Nat × Nat × (Nat → Int32))} {sa : Nat → Nat} {d : Nat} {z : Nat × Nat} {x T p r : Nat} {M : mz_M} (h : iV x T p r M) {set : Int64} : tw sc sa (d + 16) 134 262 [.ref x, .long set] [.ref (x + 87), .long set] M z (fun M2 => ∃ p r, iV x T p r M2) := by
  obtain ⟨w, wm, iT1, tk1, ⟨pr, l, t, c, ln, T1, D, pa, ks, os, ts, hs, cs, q, ⟨⟨v1, v2, v3, v4⟩, ⟨v5, v6, v7, v8, v9, v10⟩, ⟨v11, v12, v13, v14⟩, ⟨v15, v16, v17, v18, v19, v20⟩⟩, ⟨hC, hN, hln, hT1, hT2, hD2⟩, hB, hw⟩, hK⟩ := id h
  rcases hw with ⟨c0, l0, D0, q0⟩ | ⟨c0, l0, hl, ht, hI⟩
  · have h5 : M.1 (x + 87 + 1) 5 = 0 := by rw [hB.2.2.2.2.2.1, l0, nI_0]
    refine tw_q h (v := -2) ?_ (fun M1 w1 => mr0 (n0_Mo_room w1 h5))
    have hx := s_X_room (sc := sc) (sa := sa) (d := d + 12) (z := z) w v14 hN v11 hC (fun v hv => absurd hv (by omega)) (set := set)
    rw [if_neg (fun g => absurd g.1 (by omega))] at hx
    exact hx
  · obtain ⟨hq1, hq2, hq3, hq4⟩ := tI_q hC (by omega) hI
    obtain ⟨K, P1, P2, P3, e1, e2, e3, e4, hX⟩ := tI_B (A := fun j => M.1 (x + 87 + j)) hC c0 (by omega) hI hB l0 (by omega)
    have hx := s_X_room (sc := sc) (sa := sa) (d := d + 12) (z := z) w v14 hN v11 hC (by rw [v16]; exact hq1.2.2.1.1) (set := set)
    have hm := fun (M1 : mz_M) (w1 : g_Mo M1.2.2 (x + 87)) => q_Mo_room (sc := sc) (sa := sa) (d := d + 4) (z := z) w1 hX (F := M.1 (x + 87)) (set := set)
    by_cases g : (Int64.toUInt64 set >>> ((nI q.1).toInt64.toUInt64 &&& Int64.toUInt64 63)).toInt64 = 0
    · rw [if_pos ⟨c0, (lg_0 _ _).mpr g⟩, v16, v11] at hx
      refine tw_q h hx (fun M1 w1 => ?_)
      have hm2 := hm M1 w1
      rw [if_pos g] at hm2
      exact hm2
    · rw [if_neg (fun g2 => g ((lg_0 _ _).mp g2.2))] at hx
      refine tw_q h hx (fun M1 w1 => ?_)
      have hm2 := hm M1 w1
      rw [if_neg g] at hm2
      exact hm2
theorem zl_x {sc : Option (Nat × Nat × (Nat → Int32))} {sa : Nat → Nat} {d y : Nat} {args : List Value} {M M1 : mz_M} {z : Nat × Nat} {v : Int64} {Q : Int64 → mz_M → Prop} (a : zx sc sa d y args M z z (some (.long v)) M1) (h : Q v M1) : zl sc sa d y args M z Q := by
  refine mz_Kd_m sc sa d _ _ _ _ _ _ _ (fun r N g => ?_) a
  obtain ⟨rfl, rfl⟩ := g
  exact ⟨v, rfl, h⟩
theorem tl_e {sc : Option (Nat × Nat × (Nat → Int32))} {sa : Nat → Nat} {d : Nat} {M : mz_M} {z : Nat × Nat} {x T p r : Nat} (h : iV x T p r M) {ym : Nat} {am : List Value} {v : Int64} (hm : zl sc sa d ym am (moF M (x + 87) (M.1 (x + 87)) (fun j => M.1 (x + 87 + j))) z (fun v' M' => v' = v ∧ ∃ F' A', M' = moF M (x + 87) F' A' ∧ mPe (M.1 (x + 87)) (fun j => M.1 (x + 87 + j)) F' A')) : zl sc sa d ym am M z (fun v' M2 => v' = v ∧ ∃ p r, iV x T p r M2) := by
  rw [moF_eta] at hm
  refine zl_m (fun v' M2 g => ?_) hm
  obtain ⟨g1, F', A', rfl, g3, g4⟩ := g
  refine ⟨g1, p, r, iV_cg h rfl (fun a a1 a2 => ⟨moF_o (by omega), rfl⟩) (fun i => ?_) (fun k h6 => by rw [moF_g]; exact g3 k h6) (fun j hj => by rw [moF_a (by omega) (by omega)]; exact g4 j hj)⟩
  obtain ⟨c, c1, c2⟩ := h.2.2.2.1 i
  exact ⟨c, c1, by rw [moF_o (by omega)]; exact c2⟩
theorem c_keeps {sc : Option (Nat × Nat × (Nat → Int32))} {sa : Nat → Nat} {d : Nat} {z : Nat × Nat} {x T p r : Nat} {M : mz_M} (h : iV x T p r M) {set : Int64} : zl sc sa (d + 16) 133 [.ref x, .long set] M z (fun v M1 => M1.2.2.2 = M.2.2.2 ∧ zl sc sa (d + 16) 261 [.ref (x + 87), .long set] M1 z (fun v' M2 => v' = v ∧ ∃ p r, iV x T p r M2)) := by
  obtain ⟨w, wm, iT1, tk1, ⟨pr, l, t, c, ln, T1, D, pa, ks, os, ts, hs, cs, q, ⟨⟨v1, v2, v3, v4⟩, ⟨v5, v6, v7, v8, v9, v10⟩, ⟨v11, v12, v13, v14⟩, ⟨v15, v16, v17, v18, v19, v20⟩⟩, ⟨hC, hN, hln, hT1, hT2, hD2⟩, hB, hw⟩, hK⟩ := id h
  rcases hw with ⟨c0, l0, D0, q0⟩ | ⟨c0, l0, hl, ht, hI⟩
  · have h5 : M.1 (x + 87 + 1) 5 = 0 := by rw [hB.2.2.2.2.2.1, l0, nI_0]
    have hx := s_X_keeps (sc := sc) (sa := sa) (d := d + 12) (z := z) w v14 hN v11 hC (fun v hv => absurd hv (by omega)) (set := set)
    rw [if_neg (fun g => absurd g.1 (by omega))] at hx
    exact zl_x hx ⟨rfl, tl_e h (zl_x (n0_Mo_keeps wm h5) ⟨rfl, _, _, rfl, mPe_r⟩)⟩
  · obtain ⟨hq1, hq2, hq3, hq4⟩ := tI_q hC (by omega) hI
    obtain ⟨K, P1, P2, P3, e1, e2, e3, e4, hX⟩ := tI_B (A := fun j => M.1 (x + 87 + j)) hC c0 (by omega) hI hB l0 (by omega)
    have hx := s_X_keeps (sc := sc) (sa := sa) (d := d + 12) (z := z) w v14 hN v11 hC (by rw [v16]; exact hq1.2.2.1.1) (set := set)
    have hm := q_Mo_keeps (sc := sc) (sa := sa) (d := d + 4) (z := z) wm hX (F := M.1 (x + 87)) (set := set)
    by_cases g : (Int64.toUInt64 set >>> ((nI q.1).toInt64.toUInt64 &&& Int64.toUInt64 63)).toInt64 = 0
    · rw [if_pos ⟨c0, (lg_0 _ _).mpr g⟩, v16] at hx
      rw [if_pos g] at hm
      exact zl_x hx ⟨rfl, tl_e h hm⟩
    · rw [if_neg (fun g2 => g ((lg_0 _ _).mp g2.2))] at hx
      rw [if_neg g] at hm
      exact zl_x hx ⟨rfl, tl_e h hm⟩
