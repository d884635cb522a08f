theorem c_reads {sc : Option (Nat × Nat × (Nat → Int32))} {sa : Nat → Nat} {d : Nat} {z : Nat × Nat} {x T p r : Nat} {M : mz_M} (h : iV x T p r M) {a b : Int32} : tw sc sa (d + 16) 145 246 [.ref x, .int a, .int b] [.ref (x + 87), .int a, .int b] M z (fun M2 => ∃ p r, iV x T p r M2) := by
  obtain ⟨w, wm, iT1, tk1, ⟨pr, l, t, c, ln, T1, D, pa, ks, os, ts, hs, cs, q, ⟨⟨v1, v2, v3, v4⟩, ⟨v5, v6, v7, v8, v9, v10⟩, ⟨v11, v12, v13, v14⟩, ⟨v15, v16, v17, v18, v19, v20⟩⟩, ⟨hC, hN, hln, hT1, hT2, hD2⟩, hB, hw⟩, hK⟩ := id h
  rcases hw with ⟨c0, l0, D0, q0⟩ | ⟨c0, l0, hl, ht, hI⟩
  · have h5 : M.1 (x + 87 + 1) 5 = 0 := by rw [hB.2.2.2.2.2.1, l0, nI_0]
    refine tw_q h (v := -2) ?_ (fun M1 w1 => mr0 (n0_Mo_reads w1 h5))
    have hx := n_X_reads (sc := sc) (sa := sa) (d := d + 12) (z := z) w v14 hN v11 hC (a := a) (b := b) (fun g => vI_0 (q0 ▸ g.1.1))
    rw [if_neg (fun g => vI_0 (q0 ▸ g.1))] at hx
    exact hx
  · obtain ⟨hq1, hq2, hq3, hq4⟩ := tI_q hC (by omega) hI
    obtain ⟨K, P1, P2, P3, e1, e2, e3, e4, hX⟩ := tI_B (A := fun j => M.1 (x + 87 + j)) hC c0 (by omega) hI hB l0 (by omega)
    have hv : sV M p pr (nI ln) (nI T1) (nI D) pa ks os ts hs cs (nI c) l t q := ⟨⟨v1, v2, v3, v4⟩, ⟨v5, v6, v7, v8, v9, v10⟩, ⟨v11, v12, v13, v14⟩, ⟨v15, v16, v17, v18, v19, v20⟩⟩
    have ev := sV_eta hv
    have hDT := lt30 hT2 (show D ≤ 60 by omega)
    have hsub : M.1 p 10 - M.1 p 9 = nI D - nI T1 := by rw [v3, v4]
    have h6 : (fun j => M.1 (x + 87 + j)) 1 6 = nI (D - T1) := hB.2.2.2.2.2.2.1
    by_cases g : (vI q.1 a ∧ vI c b) ∧ D - T1 < 30
    · obtain ⟨j, hj, rfl⟩ := vI_nat (by omega) g.1.1
      obtain ⟨i, hi, rfl⟩ := vI_nat (by omega) g.1.2
      have hd : dV c 40 1 j i 0 q := ⟨hj, hi⟩
      have hDD : D - T1 < 30 := g.2
      have hx := q_X_reads (sc := sc) (sa := sa) (d := d + 9) (z := z) (M := M) (D := D) (pr := pr) (ln := nI ln) (td := nI T1) (pa := pa) (ks := ks) (os := os) (ts := ts) (hs := hs) (cs := cs) (s := nI c) (l := l) (t := t) (q := q) w hN rfl hC (by omega) hq1.2.2.1.1 (hDT.mpr hDD) hj hi (va_of hq1 hq2 hC (by omega) hd)
      rw [ev] at hx
      obtain ⟨hW, hA⟩ := act_W hC (by omega) e2 e3 hd
      exact tw_a h hx rfl (fun a ha => ⟨stQ_o ha, shP_oJ (by omega)⟩) (act_S (A := fun j => M.1 (x + 87 + j)) hC hN hln hT1 hT2 hDD hB c0 l0 hl ht hI hd) (fun M1 w1 => q_Mo_reads w1 hX h6 (by omega) hj hi (by omega) hDD hW hA)
    · have hx := n_X_reads (sc := sc) (sa := sa) (d := d + 12) (z := z) w v14 hN v11 hC (a := a) (b := b) (fun g2 => g ⟨g2.1, hDT.mp (hsub ▸ g2.2)⟩)
      have hm := fun (M1 : mz_M) (w1 : g_Mo M1.2.2 (x + 87)) => n_Mo_reads (sc := sc) (sa := sa) (d := d + 4) (z := z) w1 hX h6 (by omega) (F := M.1 (x + 87)) (a := a) (b := b) g
      exact tw_q h hx hm
theorem c_finds {sc : Option (Nat × Nat × (Nat → Int32))} {sa : Nat → Nat} {d : Nat} {z : Nat × Nat} {x T p r : Nat} {M : mz_M} (h : iV x T p r M) {a b : Int32} : tw sc sa (d + 16) 148 249 [.ref x, .int a, .int b] [.ref (x + 87), .int a, .int b] M z (fun M2 => ∃ p r, iV x T p r M2) := by
  obtain ⟨w, wm, iT1, tk1, ⟨pr, l, t, c, ln, T1, D, pa, ks, os, ts, hs, cs, q, ⟨⟨v1, v2, v3, v4⟩, ⟨v5, v6, v7, v8, v9, v10⟩, ⟨v11, v12, v13, v14⟩, ⟨v15, v16, v17, v18, v19, v20⟩⟩, ⟨hC, hN, hln, hT1, hT2, hD2⟩, hB, hw⟩, hK⟩ := id h
  rcases hw with ⟨c0, l0, D0, q0⟩ | ⟨c0, l0, hl, ht, hI⟩
  · have h5 : M.1 (x + 87 + 1) 5 = 0 := by rw [hB.2.2.2.2.2.1, l0, nI_0]
    refine tw_q h (v := -2) ?_ (fun M1 w1 => mr0 (n0_Mo_finds w1 h5))
    have hx := n_X_finds (sc := sc) (sa := sa) (d := d + 12) (z := z) w v14 hN v11 hC (a := a) (b := b) (fun g => vI_0 (q0 ▸ g.1.1))
    rw [if_neg (fun g => vI_0 (q0 ▸ g.1))] at hx
    exact hx
  · obtain ⟨hq1, hq2, hq3, hq4⟩ := tI_q hC (by omega) hI
    obtain ⟨K, P1, P2, P3, e1, e2, e3, e4, hX⟩ := tI_B (A := fun j => M.1 (x + 87 + j)) hC c0 (by omega) hI hB l0 (by omega)
    have hv : sV M p pr (nI ln) (nI T1) (nI D) pa ks os ts hs cs (nI c) l t q := ⟨⟨v1, v2, v3, v4⟩, ⟨v5, v6, v7, v8, v9, v10⟩, ⟨v11, v12, v13, v14⟩, ⟨v15, v16, v17, v18, v19, v20⟩⟩
    have ev := sV_eta hv
    have hDT := lt30 hT2 (show D ≤ 60 by omega)
    have hsub : M.1 p 10 - M.1 p 9 = nI D - nI T1 := by rw [v3, v4]
    have h6 : (fun j => M.1 (x + 87 + j)) 1 6 = nI (D - T1) := hB.2.2.2.2.2.2.1
    by_cases g : (vI q.1 a ∧ vI c b) ∧ D - T1 < 30
    · obtain ⟨j, hj, rfl⟩ := vI_nat (by omega) g.1.1
      obtain ⟨i, hi, rfl⟩ := vI_nat (by omega) g.1.2
      have hd : dV c 40 4 j i 0 q := ⟨hj, hi⟩
      have hDD : D - T1 < 30 := g.2
      have hx := q_X_finds (sc := sc) (sa := sa) (d := d + 9) (z := z) (M := M) (D := D) (pr := pr) (ln := nI ln) (td := nI T1) (pa := pa) (ks := ks) (os := os) (ts := ts) (hs := hs) (cs := cs) (s := nI c) (l := l) (t := t) (q := q) w hN rfl hC (by omega) hq1.2.2.1.1 (hDT.mpr hDD) hj hi (va_of hq1 hq2 hC (by omega) hd)
      rw [ev] at hx
      obtain ⟨hW, hA⟩ := act_W hC (by omega) e2 e3 hd
      exact tw_a h hx rfl (fun a ha => ⟨stQ_o ha, shP_oJ (by omega)⟩) (act_S (A := fun j => M.1 (x + 87 + j)) hC hN hln hT1 hT2 hDD hB c0 l0 hl ht hI hd) (fun M1 w1 => q_Mo_finds w1 hX h6 (by omega) hj hi (by omega) hDD hW hA)
    · have hx := n_X_finds (sc := sc) (sa := sa) (d := d + 12) (z := z) w v14 hN v11 hC (a := a) (b := b) (fun g2 => g ⟨g2.1, hDT.mp (hsub ▸ g2.2)⟩)
      have hm := fun (M1 : mz_M) (w1 : g_Mo M1.2.2 (x + 87)) => n_Mo_finds (sc := sc) (sa := sa) (d := d + 4) (z := z) w1 hX h6 (by omega) (F := M.1 (x + 87)) (a := a) (b := b) g
      exact tw_q h hx hm
theorem c_sets {sc : Option (Nat × Nat × (Nat → Int32))} {sa : Nat → Nat} {d : Nat} {z : Nat × Nat} {x T p r : Nat} {M : mz_M} (h : iV x T p r M) {a b e : Int32} : tw sc sa (d + 16) 146 247 [.ref x, .int a, .int b, .int e] [.ref (x + 87), .int a, .int b, .int e] M z (fun M2 => ∃ p r, iV x T p r M2) := by
  obtain ⟨w, wm, iT1, tk1, ⟨pr, l, t, c, ln, T1, D, pa, ks, os, ts, hs, cs, q, ⟨⟨v1, v2, v3, v4⟩, ⟨v5, v6, v7, v8, v9, v10⟩, ⟨v11, v12, v13, v14⟩, ⟨v15, v16, v17, v18, v19, v20⟩⟩, ⟨hC, hN, hln, hT1, hT2, hD2⟩, hB, hw⟩, hK⟩ := id h
  rcases hw with ⟨c0, l0, D0, q0⟩ | ⟨c0, l0, hl, ht, hI⟩
  · have h5 : M.1 (x + 87 + 1) 5 = 0 := by rw [hB.2.2.2.2.2.1, l0, nI_0]
    refine tw_q h (v := -2) ?_ (fun M1 w1 => mr0 (n0_Mo_sets w1 h5))
    have hx := n_X_sets (sc := sc) (sa := sa) (d := d + 12) (z := z) w v14 hN v11 hC (a := a) (b := b) (e := e) (fun g => vI_0 (q0 ▸ g.1.1.1))
    rw [if_neg (fun g => vI_0 (q0 ▸ g.1.1))] at hx
    exact hx
  · obtain ⟨hq1, hq2, hq3, hq4⟩ := tI_q hC (by omega) hI
    obtain ⟨K, P1, P2, P3, e1, e2, e3, e4, hX⟩ := tI_B (A := fun j => M.1 (x + 87 + j)) hC c0 (by omega) hI hB l0 (by omega)
    have hv : sV M p pr (nI ln) (nI T1) (nI D) pa ks os ts hs cs (nI c) l t q := ⟨⟨v1, v2, v3, v4⟩, ⟨v5, v6, v7, v8, v9, v10⟩, ⟨v11, v12, v13, v14⟩, ⟨v15, v16, v17, v18, v19, v20⟩⟩
    have ev := sV_eta hv
    have hDT := lt30 hT2 (show D ≤ 60 by omega)
    have hsub : M.1 p 10 - M.1 p 9 = nI D - nI T1 := by rw [v3, v4]
    have h6 : (fun j => M.1 (x + 87 + j)) 1 6 = nI (D - T1) := hB.2.2.2.2.2.2.1
    by_cases g : ((vI q.1 a ∧ vI c b) ∧ vI c e) ∧ (D - T1 < 30 ∧ q.1 + 1 ≤ 40)
    · obtain ⟨j, hj, rfl⟩ := vI_nat (by omega) g.1.1.1
      obtain ⟨i, hi, rfl⟩ := vI_nat (by omega) g.1.1.2
      obtain ⟨k, hk, rfl⟩ := vI_nat (by omega) g.1.2
      have hd : dV c 40 2 j i k q := ⟨hj, by omega, hi, hk⟩
      have hDD : D - T1 < 30 := g.2.1
      have hx := q_X_sets (sc := sc) (sa := sa) (d := d + 9) (z := z) (M := M) (D := D) (pr := pr) (ln := nI ln) (td := nI T1) (pa := pa) (ks := ks) (os := os) (ts := ts) (hs := hs) (cs := cs) (s := nI c) (l := l) (t := t) (q := q) w hN rfl hC (by omega) hq1.2.2.1.1 (hDT.mpr hDD) hj hi hk g.2.2 (va_of hq1 hq2 hC (by omega) hd)
      rw [ev] at hx
      obtain ⟨hW, hA⟩ := act_W hC (by omega) e2 e3 hd
      exact tw_a h hx rfl (fun a ha => ⟨stQ_o ha, shP_oJ (by omega)⟩) (act_S (A := fun j => M.1 (x + 87 + j)) hC hN hln hT1 hT2 hDD hB c0 l0 hl ht hI hd) (fun M1 w1 => q_Mo_sets w1 hX h6 (by omega) hj hi hk g.2.2 (by omega) hDD hW hA)
    · have hx := n_X_sets (sc := sc) (sa := sa) (d := d + 12) (z := z) w v14 hN v11 hC (a := a) (b := b) (e := e) (fun g2 => g ⟨g2.1, hDT.mp (hsub ▸ g2.2.1), g2.2.2⟩)
      have hm := fun (M1 : mz_M) (w1 : g_Mo M1.2.2 (x + 87)) => n_Mo_sets (sc := sc) (sa := sa) (d := d + 4) (z := z) w1 hX h6 (by omega) (F := M.1 (x + 87)) (a := a) (b := b) (e := e) g
      exact tw_q h hx hm
theorem c_joins {sc : Option (Nat × Nat × (Nat → Int32))} {sa : Nat → Nat} {d : Nat} {z : Nat × Nat} {x T p r : Nat} {M : mz_M} (h : iV x T p r M) {a b e : Int32} : tw sc sa (d + 16) 147 248 [.ref x, .int a, .int b, .int e] [.ref (x + 87), .int a, .int b, .int e] M z (fun M2 => ∃ p r, iV x T p r M2) := by
  obtain ⟨w, wm, iT1, tk1, ⟨pr, l, t, c, ln, T1, D, pa, ks, os, ts, hs, cs, q, ⟨⟨v1, v2, v3, v4⟩, ⟨v5, v6, v7, v8, v9, v10⟩, ⟨v11, v12, v13, v14⟩, ⟨v15, v16, v17, v18, v19, v20⟩⟩, ⟨hC, hN, hln, hT1, hT2, hD2⟩, hB, hw⟩, hK⟩ := id h
  rcases hw with ⟨c0, l0, D0, q0⟩ | ⟨c0, l0, hl, ht, hI⟩
  · have h5 : M.1 (x + 87 + 1) 5 = 0 := by rw [hB.2.2.2.2.2.1, l0, nI_0]
    refine tw_q h (v := -2) ?_ (fun M1 w1 => mr0 (n0_Mo_joins w1 h5))
    have hx := n_X_joins (sc := sc) (sa := sa) (d := d + 10) (z := z) w v14 hN v11 hC (a := a) (b := b) (e := e) (fun g => vI_0 (q0 ▸ g.1.1.1))
    rw [if_neg (fun g => vI_0 (q0 ▸ g.1.1))] at hx
    exact hx
  · obtain ⟨hq1, hq2, hq3, hq4⟩ := tI_q hC (by omega) hI
    obtain ⟨K, P1, P2, P3, e1, e2, e3, e4, hX⟩ := tI_B (A := fun j => M.1 (x + 87 + j)) hC c0 (by omega) hI hB l0 (by omega)
    have hv : sV M p pr (nI ln) (nI T1) (nI D) pa ks os ts hs cs (nI c) l t q := ⟨⟨v1, v2, v3, v4⟩, ⟨v5, v6, v7, v8, v9, v10⟩, ⟨v11, v12, v13, v14⟩, ⟨v15, v16, v17, v18, v19, v20⟩⟩
    have ev := sV_eta hv
    have hDT := lt30 hT2 (show D ≤ 60 by omega)
    have hsub : M.1 p 10 - M.1 p 9 = nI D - nI T1 := by rw [v3, v4]
    have h6 : (fun j => M.1 (x + 87 + j)) 1 6 = nI (D - T1) := hB.2.2.2.2.2.2.1
    by_cases g : ((vI q.1 a ∧ vI c b) ∧ vI c e) ∧ (D - T1 < 30 ∧ q.1 + 1 ≤ 40 ∧ ¬ rt (q.2.1 a.toNatClampNeg) c b = rt (q.2.1 a.toNatClampNeg) c e)
    · obtain ⟨j, hj, rfl⟩ := vI_nat (by omega) g.1.1.1
      obtain ⟨i, hi, rfl⟩ := vI_nat (by omega) g.1.1.2
      obtain ⟨k, hk, rfl⟩ := vI_nat (by omega) g.1.2
      have gne := g.2.2.2
      rw [nI_clamp (show j < 2 ^ 31 by omega)] at gne
      have hd : dV c 40 3 j i k q := ⟨hj, by have := g.2.2.1; omega, hi, hk⟩
      have hDD : D - T1 < 30 := g.2.1
      have hx := q_X_joins (sc := sc) (sa := sa) (d := d + 9) (z := z) (M := M) (D := D) (pr := pr) (ln := nI ln) (td := nI T1) (pa := pa) (ks := ks) (os := os) (ts := ts) (hs := hs) (cs := cs) (s := nI c) (l := l) (t := t) (q := q) w hN rfl hC (by omega) hq1.2.2.1.1 (hDT.mpr hDD) hj hi hk g.2.2.1 gne (va_of hq1 hq2 hC (by omega) hd)
      rw [ev] at hx
      obtain ⟨hW, hA⟩ := act_W hC (by omega) e2 e3 hd
      exact tw_a h hx rfl (fun a ha => ⟨stQ_o ha, shP_oJ (by omega)⟩) (act_S (A := fun j => M.1 (x + 87 + j)) hC hN hln hT1 hT2 hDD hB c0 l0 hl ht hI hd) (fun M1 w1 => q_Mo_joins w1 hX h6 (by omega) hj hi hk g.2.2.1 gne (by omega) hDD hW hA)
    · have hx := n_X_joins (sc := sc) (sa := sa) (d := d + 10) (z := z) w v14 hN v11 hC (a := a) (b := b) (e := e) (fun g2 => g ⟨g2.1, hDT.mp (hsub ▸ g2.2.1), g2.2.2.1, by rw [← v15]; exact g2.2.2.2⟩)
      have hm := fun (M1 : mz_M) (w1 : g_Mo M1.2.2 (x + 87)) => n_Mo_joins (sc := sc) (sa := sa) (d := d + 4) (z := z) w1 hX h6 (by omega) (F := M.1 (x + 87)) (a := a) (b := b) (e := e) g
      exact tw_q h hx hm
theorem c_snaps {sc : Option (Nat × Nat × (Nat → Int32))} {sa : Nat → Nat} {d : Nat} {z : Nat × Nat} {x T p r : Nat} {M : mz_M} (h : iV x T p r M) {a : Int32} : tw sc sa (d + 16) 149 250 [.ref x, .int a] [.ref (x + 87), .int a] M z (fun M2 => ∃ p r, iV x T p r M2) := by
  obtain ⟨w, wm, iT1, tk1, ⟨pr, l, t, c, ln, T1, D, pa, ks, os, ts, hs, cs, q, ⟨⟨v1, v2, v3, v4⟩, ⟨v5, v6, v7, v8, v9, v10⟩, ⟨v11, v12, v13, v14⟩, ⟨v15, v16, v17, v18, v19, v20⟩⟩, ⟨hC, hN, hln, hT1, hT2, hD2⟩, hB, hw⟩, hK⟩ := id h
  rcases hw with ⟨c0, l0, D0, q0⟩ | ⟨c0, l0, hl, ht, hI⟩
  · have h5 : M.1 (x + 87 + 1) 5 = 0 := by rw [hB.2.2.2.2.2.1, l0, nI_0]
    refine tw_q h (v := -2) ?_ (fun M1 w1 => mr0 (n0_Mo_snaps w1 h5))
    have hx := n_X_snaps (sc := sc) (sa := sa) (d := d + 12) (z := z) w v14 hN v11 hC (a := a) (fun g => vI_0 (q0 ▸ g.1))
    rw [if_neg (fun g => vI_0 (q0 ▸ g))] at hx
    exact hx
  · obtain ⟨hq1, hq2, hq3, hq4⟩ := tI_q hC (by omega) hI
    obtain ⟨K, P1, P2, P3, e1, e2, e3, e4, hX⟩ := tI_B (A := fun j => M.1 (x + 87 + j)) hC c0 (by omega) hI hB l0 (by omega)
    have hv : sV M p pr (nI ln) (nI T1) (nI D) pa ks os ts hs cs (nI c) l t q := ⟨⟨v1, v2, v3, v4⟩, ⟨v5, v6, v7, v8, v9, v10⟩, ⟨v11, v12, v13, v14⟩, ⟨v15, v16, v17, v18, v19, v20⟩⟩
    have ev := sV_eta hv
    have hDT := lt30 hT2 (show D ≤ 60 by omega)
    have hsub : M.1 p 10 - M.1 p 9 = nI D - nI T1 := by rw [v3, v4]
    have h6 : (fun j => M.1 (x + 87 + j)) 1 6 = nI (D - T1) := hB.2.2.2.2.2.2.1
    by_cases g : vI q.1 a ∧ (D - T1 < 30 ∧ ¬ q.2.2.1 a.toNatClampNeg = -1)
    · obtain ⟨j, hj, rfl⟩ := vI_nat (by omega) g.1
      have gne := g.2.2
      rw [nI_clamp (show j < 2 ^ 31 by omega)] at gne
      have hd : dV c 40 5 j 0 0 q := hj
      have hDD : D - T1 < 30 := g.2.1
      have hx := q_X_snaps (sc := sc) (sa := sa) (d := d + 9) (z := z) (M := M) (D := D) (pr := pr) (ln := nI ln) (td := nI T1) (pa := pa) (ks := ks) (os := os) (ts := ts) (hs := hs) (cs := cs) (s := nI c) (l := l) (t := t) (q := q) w hN rfl hC (by omega) hq1.2.2.1.1 (hDT.mpr hDD) hj gne (va_of hq1 hq2 hC (by omega) hd)
      rw [ev] at hx
      obtain ⟨hW, hA⟩ := act_W hC (by omega) e2 e3 hd
      exact tw_a h hx rfl (fun a ha => ⟨stQ_o ha, shP_oJ (by omega)⟩) (act_S (A := fun j => M.1 (x + 87 + j)) hC hN hln hT1 hT2 hDD hB c0 l0 hl ht hI hd) (fun M1 w1 => q_Mo_snaps w1 hX h6 (by omega) hj gne (by omega) hDD hW hA)
    · have hx := n_X_snaps (sc := sc) (sa := sa) (d := d + 12) (z := z) w v14 hN v11 hC (a := a) (fun g2 => g ⟨g2.1, hDT.mp (hsub ▸ g2.2.1), by rw [← v16]; exact g2.2.2⟩)
      have hm := fun (M1 : mz_M) (w1 : g_Mo M1.2.2 (x + 87)) => n_Mo_snaps (sc := sc) (sa := sa) (d := d + 4) (z := z) w1 hX h6 (by omega) (F := M.1 (x + 87)) (a := a) g
      exact tw_q h hx hm
theorem c_merges {sc : Option (Nat × Nat × (Nat → Int32))} {sa : Nat → Nat} {d : Nat} {z : Nat × Nat} {x T p r : Nat} {M : mz_M} (h : iV x T p r M) {a b : Int32} : tw sc sa (d + 16) 152 251 [.ref x, .int a, .int b] [.ref (x + 87), .int a, .int b] M z (fun M2 => ∃ p r, iV x T p r M2) := by
  obtain ⟨w, wm, iT1, tk1, ⟨pr, l, t, c, ln, T1, D, pa, ks, os, ts, hs, cs, q, ⟨⟨v1, v2, v3, v4⟩, ⟨v5, v6, v7, v8, v9, v10⟩, ⟨v11, v12, v13, v14⟩, ⟨v15, v16, v17, v18, v19, v20⟩⟩, ⟨hC, hN, hln, hT1, hT2, hD2⟩, hB, hw⟩, hK⟩ := id h
  rcases hw with ⟨c0, l0, D0, q0⟩ | ⟨c0, l0, hl, ht, hI⟩
  · have h5 : M.1 (x + 87 + 1) 5 = 0 := by rw [hB.2.2.2.2.2.1, l0, nI_0]
    refine tw_q h (v := -2) ?_ (fun M1 w1 => mr0 (n0_Mo_merges w1 h5))
    exact e_X_merges (d := d + 12) w v14 hN (fun g => vI_0 (q0 ▸ g.1))
  · obtain ⟨hq1, hq2, hq3, hq4⟩ := tI_q hC (by omega) hI
    obtain ⟨K, P1, P2, P3, e1, e2, e3, e4, hX⟩ := tI_B (A := fun j => M.1 (x + 87 + j)) hC c0 (by omega) hI hB l0 (by omega)
    have hv : sV M p pr (nI ln) (nI T1) (nI D) pa ks os ts hs cs (nI c) l t q := ⟨⟨v1, v2, v3, v4⟩, ⟨v5, v6, v7, v8, v9, v10⟩, ⟨v11, v12, v13, v14⟩, ⟨v15, v16, v17, v18, v19, v20⟩⟩
    have ev := sV_eta hv
    have hDT := lt30 hT2 (show D ≤ 60 by omega)
    have hsub : M.1 p 10 - M.1 p 9 = nI D - nI T1 := by rw [v3, v4]
    have h6 : (fun j => M.1 (x + 87 + j)) 1 6 = nI (D - T1) := hB.2.2.2.2.2.2.1
    by_cases g : (vI q.1 a ∧ vI q.1 b) ∧ (D - T1 < 30 ∧ q.1 + dfN (q.2.1 a.toNatClampNeg) (mgR c a.toNatClampNeg b.toNatClampNeg q) c ≤ 40)
    · obtain ⟨j, hj, rfl⟩ := vI_nat (by omega) g.1.1
      obtain ⟨i, hi, rfl⟩ := vI_nat (by omega) g.1.2
      have gr := g.2.2
      rw [nI_clamp (show j < 2 ^ 31 by omega), nI_clamp (show i < 2 ^ 31 by omega)] at gr
      have hd : dV c 40 6 j i 0 q := ⟨hj, hi, gr⟩
      have hDD : D - T1 < 30 := g.2.1
      have hx := q_X_merges (sc := sc) (sa := sa) (d := d + 9) (z := z) (M := M) (D := D) (pr := pr) (ln := nI ln) (td := nI T1) (pa := pa) (ks := ks) (os := os) (ts := ts) (hs := hs) (cs := cs) (s := nI c) (l := l) (t := t) (q := q) w hN rfl hC (by omega) hq1.2.2.1.1 (hDT.mpr hDD) hq1.2.2.2.2.1 hj hi (ul_df c) gr (va_of hq1 hq2 hC (by omega) hd)
      rw [ev] at hx
      obtain ⟨hW, hA⟩ := act_W hC (by omega) e2 e3 hd
      exact tw_a h hx rfl (fun a ha => ⟨stQ_o ha, shP_oJ (by omega)⟩) (act_S (A := fun j => M.1 (x + 87 + j)) hC hN hln hT1 hT2 hDD hB c0 l0 hl ht hI hd) (fun M1 w1 => q_Mo_merges w1 hX h6 (by omega) hj hi gr (by omega) hDD hW hA)
    · have hx := n_X_merges (sc := sc) (sa := sa) (d := d + 10) (z := z) w v14 hN v11 hC (by rw [v18]; exact hq1.2.2.2.2.1) (V := fun j i => dfN (q.2.1 j) (mgR c j i q) c) (by rw [v15, v18]; exact fun j i _ _ => ⟨ul_df c, Nat.le_trans (cn_len _ _) (by omega)⟩) (a := a) (b := b) (fun g2 => g ⟨g2.1, hDT.mp (hsub ▸ g2.2.1), g2.2.2⟩)
      have hm := fun (M1 : mz_M) (w1 : g_Mo M1.2.2 (x + 87)) => n_Mo_merges (sc := sc) (sa := sa) (d := d + 3) (z := z) w1 hX h6 (by omega) (F := M.1 (x + 87)) (a := a) (b := b) g
      exact tw_q h hx hm
theorem c_patches {sc : Option (Nat × Nat × (Nat → Int32))} {sa : Nat → Nat} {d : Nat} {z : Nat × Nat} {x T p r : Nat} {M : mz_M} (h : iV x T p r M) {a b e : Int32} : tw sc sa (d + 16) 154 253 [.ref x, .int a, .int b, .int e] [.ref (x + 87), .int a, .int b, .int e] M z (fun M2 => ∃ p r, iV x T p r M2) := by
  obtain ⟨w, wm, iT1, tk1, ⟨pr, l, t, c, ln, T1, D, pa, ks, os, ts, hs, cs, q, ⟨⟨v1, v2, v3, v4⟩, ⟨v5, v6, v7, v8, v9, v10⟩, ⟨v11, v12, v13, v14⟩, ⟨v15, v16, v17, v18, v19, v20⟩⟩, ⟨hC, hN, hln, hT1, hT2, hD2⟩, hB, hw⟩, hK⟩ := id h
  rcases hw with ⟨c0, l0, D0, q0⟩ | ⟨c0, l0, hl, ht, hI⟩
  · have h5 : M.1 (x + 87 + 1) 5 = 0 := by rw [hB.2.2.2.2.2.1, l0, nI_0]
    refine tw_q h (v := -2) ?_ (fun M1 w1 => mr0 (n0_Mo_patches w1 h5))
    have hx := n_X_patches (sc := sc) (sa := sa) (d := d + 10) (z := z) w v14 hN v11 hC (V := fun _ _ _ => 0) (fun j i k hj _ _ => absurd hj (by omega)) (a := a) (b := b) (e := e) (fun g => vI_0 (q0 ▸ g.1.1.1))
    rw [if_neg (fun g => vI_0 (q0 ▸ g.1.1))] at hx
    exact hx
  · obtain ⟨hq1, hq2, hq3, hq4⟩ := tI_q hC (by omega) hI
    obtain ⟨K, P1, P2, P3, e1, e2, e3, e4, hX⟩ := tI_B (A := fun j => M.1 (x + 87 + j)) hC c0 (by omega) hI hB l0 (by omega)
    have hv : sV M p pr (nI ln) (nI T1) (nI D) pa ks os ts hs cs (nI c) l t q := ⟨⟨v1, v2, v3, v4⟩, ⟨v5, v6, v7, v8, v9, v10⟩, ⟨v11, v12, v13, v14⟩, ⟨v15, v16, v17, v18, v19, v20⟩⟩
    have ev := sV_eta hv
    have hDT := lt30 hT2 (show D ≤ 60 by omega)
    have hsub : M.1 p 10 - M.1 p 9 = nI D - nI T1 := by rw [v3, v4]
    have h6 : (fun j => M.1 (x + 87 + j)) 1 6 = nI (D - T1) := hB.2.2.2.2.2.2.1
    by_cases g : ((vI q.1 a ∧ vI q.1 b) ∧ vI q.1 e) ∧ (D - T1 < 30 ∧ q.1 + dfN (q.2.1 e.toNatClampNeg) (paR c a.toNatClampNeg b.toNatClampNeg e.toNatClampNeg q) c ≤ 40)
    · obtain ⟨j, hj, rfl⟩ := vI_nat (by omega) g.1.1.1
      obtain ⟨i, hi, rfl⟩ := vI_nat (by omega) g.1.1.2
      obtain ⟨k, hk, rfl⟩ := vI_nat (by omega) g.1.2
      have gr := g.2.2
      rw [nI_clamp (show j < 2 ^ 31 by omega), nI_clamp (show i < 2 ^ 31 by omega), nI_clamp (show k < 2 ^ 31 by omega)] at gr
      have hd : dV c 40 7 j i k q := ⟨hj, hi, hk, gr⟩
      have hDD : D - T1 < 30 := g.2.1
      have hx := q_X_patches (sc := sc) (sa := sa) (d := d + 9) (z := z) (M := M) (D := D) (pr := pr) (ln := nI ln) (td := nI T1) (pa := pa) (ks := ks) (os := os) (ts := ts) (hs := hs) (cs := cs) (s := nI c) (l := l) (t := t) (q := q) w hN rfl hC (by omega) hq1.2.2.1.1 (hDT.mpr hDD) hj hi hk (ul_df c) gr (va_of hq1 hq2 hC (by omega) hd)
      rw [ev] at hx
      obtain ⟨hW, hA⟩ := act_W hC (by omega) e2 e3 hd
      exact tw_a h hx rfl (fun a ha => ⟨stQ_o ha, shP_oJ (by omega)⟩) (act_S (A := fun j => M.1 (x + 87 + j)) hC hN hln hT1 hT2 hDD hB c0 l0 hl ht hI hd) (fun M1 w1 => q_Mo_patches w1 hX h6 (by omega) hj hi hk gr (by omega) hDD hW hA)
    · have hx := n_X_patches (sc := sc) (sa := sa) (d := d + 10) (z := z) w v14 hN v11 hC (V := fun j i k => dfN (q.2.1 k) (paR c j i k q) c) (by rw [v15]; exact fun j i k _ _ _ => ⟨ul_df c, Nat.le_trans (cn_len _ _) (by omega)⟩) (a := a) (b := b) (e := e) (fun g2 => g ⟨g2.1, hDT.mp (hsub ▸ g2.2.1), g2.2.2⟩)
      have hm := fun (M1 : mz_M) (w1 : g_Mo M1.2.2 (x + 87)) => n_Mo_patches (sc := sc) (sa := sa) (d := d + 2) (z := z) w1 hX h6 (by omega) (F := M.1 (x + 87)) (a := a) (b := b) (e := e) g
      exact tw_q h hx hm
