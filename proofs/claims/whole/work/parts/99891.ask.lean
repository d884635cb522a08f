theorem ok_ml {f : Nat → Int32} {n : Nat} (h : okm f n) : okl f n := by
  intro v hv
  rcases Nat.eq_zero_or_pos v with e | e
  · subst e
    exact Or.inl h.1
  · obtain ⟨u, h1, h2⟩ := h.2 v e hv
    exact Or.inr ⟨u, by omega, h2⟩
theorem c_cell {sc : Option (Nat × Nat × (Nat → Int32))} {sa : Nat → Nat} {d : Nat} {z : Nat × Nat} {x T p r : Nat} {M : mz_M} (h : iV x T p r M) {a b : Int32} : tw sc sa (d + 16) 113 220 [.ref x, .int a, .int b] [.ref (x + 87), .int a, .int b] M z (fun M2 => ∃ p r, iV x T p r M2) := by
  obtain ⟨w, wm, iT1, tk1, ⟨pr, l, t, c, ln, T1, D, pa, ks, os, ts, hs, cs, q, ⟨⟨v1, v2, v3, v4⟩, ⟨v5, v6, v7, v8, v9, v10⟩, ⟨v11, v12, v13, v14⟩, ⟨v15, v16, v17, v18, v19, v20⟩⟩, ⟨hC, hN, hln, hT1, hT2, hD2⟩, hB, hw⟩, hK⟩ := id h
  rcases hw with ⟨c0, l0, D0, q0⟩ | ⟨c0, l0, hl, ht, hI⟩
  · have h5 : M.1 (x + 87 + 1) 5 = 0 := by rw [hB.2.2.2.2.2.1, l0, nI_0]
    refine tw_q h (v := -2) ?_ (fun M1 w1 => mr0 (n0_Mo_cell w1 h5))
    have hx := s_X_cell (sc := sc) (sa := sa) (d := d + 12) (z := z) w v14 hN v11 hC (a := a) (b := b)
    rw [if_neg (fun g => vI_0 (q0 ▸ g.1))] at hx
    exact hx
  · obtain ⟨hq1, hq2, hq3, hq4⟩ := tI_q hC (by omega) hI
    obtain ⟨K, P1, P2, P3, e1, e2, e3, e4, hX⟩ := tI_B (A := fun j => M.1 (x + 87 + j)) hC c0 (by omega) hI hB l0 (by omega)
    refine tw_q h ?_ (fun M1 w1 => q_Mo_cell w1 hX)
    have hx := s_X_cell (sc := sc) (sa := sa) (d := d + 12) (z := z) w v14 hN v11 hC (a := a) (b := b)
    rw [v15] at hx
    exact hx
theorem c_version {sc : Option (Nat × Nat × (Nat → Int32))} {sa : Nat → Nat} {d : Nat} {z : Nat × Nat} {x T p r : Nat} {M : mz_M} (h : iV x T p r M) {a b : Int32} : tw sc sa (d + 16) 114 221 [.ref x, .int a, .int b] [.ref (x + 87), .int a, .int b] M z (fun M2 => ∃ p r, iV x T p r M2) := by
  obtain ⟨w, wm, iT1, tk1, ⟨pr, l, t, c, ln, T1, D, pa, ks, os, ts, hs, cs, q, ⟨⟨v1, v2, v3, v4⟩, ⟨v5, v6, v7, v8, v9, v10⟩, ⟨v11, v12, v13, v14⟩, ⟨v15, v16, v17, v18, v19, v20⟩⟩, ⟨hC, hN, hln, hT1, hT2, hD2⟩, hB, hw⟩, hK⟩ := id h
  rcases hw with ⟨c0, l0, D0, q0⟩ | ⟨c0, l0, hl, ht, hI⟩
  · have h5 : M.1 (x + 87 + 1) 5 = 0 := by rw [hB.2.2.2.2.2.1, l0, nI_0]
    refine tw_q h (v := -2) ?_ (fun M1 w1 => mr0 (n0_Mo_version w1 h5))
    have hx := s_X_version (sc := sc) (sa := sa) (d := d + 12) (z := z) w v14 hN (a := a) (b := b)
    rw [if_neg (fun g => vI_0 (q0 ▸ g.1))] at hx
    exact hx
  · obtain ⟨hq1, hq2, hq3, hq4⟩ := tI_q hC (by omega) hI
    obtain ⟨K, P1, P2, P3, e1, e2, e3, e4, hX⟩ := tI_B (A := fun j => M.1 (x + 87 + j)) hC c0 (by omega) hI hB l0 (by omega)
    refine tw_q h ?_ (fun M1 w1 => q_Mo_version w1 hX)
    have hx := s_X_version (sc := sc) (sa := sa) (d := d + 12) (z := z) w v14 hN (a := a) (b := b)
    rw [v15, v18, v19] at hx
    exact hx
theorem c_unlike {sc : Option (Nat × Nat × (Nat → Int32))} {sa : Nat → Nat} {d : Nat} {z : Nat × Nat} {x T p r : Nat} {M : mz_M} (h : iV x T p r M) {a b : Int32} : tw sc sa (d + 16) 115 224 [.ref x, .int a, .int b] [.ref (x + 87), .int a, .int b] M z (fun M2 => ∃ p r, iV x T p r M2) := by
  obtain ⟨w, wm, iT1, tk1, ⟨pr, l, t, c, ln, T1, D, pa, ks, os, ts, hs, cs, q, ⟨⟨v1, v2, v3, v4⟩, ⟨v5, v6, v7, v8, v9, v10⟩, ⟨v11, v12, v13, v14⟩, ⟨v15, v16, v17, v18, v19, v20⟩⟩, ⟨hC, hN, hln, hT1, hT2, hD2⟩, hB, hw⟩, hK⟩ := id h
  rcases hw with ⟨c0, l0, D0, q0⟩ | ⟨c0, l0, hl, ht, hI⟩
  · have h5 : M.1 (x + 87 + 1) 5 = 0 := by rw [hB.2.2.2.2.2.1, l0, nI_0]
    refine tw_q h (v := -2) ?_ (fun M1 w1 => mr0 (n0_Mo_unlike w1 h5))
    have hx := s_X_unlike (sc := sc) (sa := sa) (d := d + 12) (z := z) w v14 hN v11 hC (a := a) (b := b)
    rw [if_neg (fun g => vI_0 (q0 ▸ g.1))] at hx
    exact hx
  · obtain ⟨hq1, hq2, hq3, hq4⟩ := tI_q hC (by omega) hI
    obtain ⟨K, P1, P2, P3, e1, e2, e3, e4, hX⟩ := tI_B (A := fun j => M.1 (x + 87 + j)) hC c0 (by omega) hI hB l0 (by omega)
    refine tw_q h ?_ (fun M1 w1 => q_Mo_unlike w1 hX)
    have hx := s_X_unlike (sc := sc) (sa := sa) (d := d + 12) (z := z) w v14 hN v11 hC (a := a) (b := b)
    rw [v15] at hx
    exact hx
theorem c_first {sc : Option (Nat × Nat × (Nat → Int32))} {sa : Nat → Nat} {d : Nat} {z : Nat × Nat} {x T p r : Nat} {M : mz_M} (h : iV x T p r M) {a : Int32} : tw sc sa (d + 16) 116 225 [.ref x, .int a] [.ref (x + 87), .int a] M z (fun M2 => ∃ p r, iV x T p r M2) := by
  obtain ⟨w, wm, iT1, tk1, ⟨pr, l, t, c, ln, T1, D, pa, ks, os, ts, hs, cs, q, ⟨⟨v1, v2, v3, v4⟩, ⟨v5, v6, v7, v8, v9, v10⟩, ⟨v11, v12, v13, v14⟩, ⟨v15, v16, v17, v18, v19, v20⟩⟩, ⟨hC, hN, hln, hT1, hT2, hD2⟩, hB, hw⟩, hK⟩ := id h
  rcases hw with ⟨c0, l0, D0, q0⟩ | ⟨c0, l0, hl, ht, hI⟩
  · have h5 : M.1 (x + 87 + 1) 5 = 0 := by rw [hB.2.2.2.2.2.1, l0, nI_0]
    refine tw_q h (v := -2) ?_ (fun M1 w1 => mr0 (n0_Mo_first w1 h5))
    have hx := s_X_first (sc := sc) (sa := sa) (d := d + 12) (z := z) w v14 hN (a := a)
    rw [if_neg (fun g => vI_0 (q0 ▸ g))] at hx
    exact hx
  · obtain ⟨hq1, hq2, hq3, hq4⟩ := tI_q hC (by omega) hI
    obtain ⟨K, P1, P2, P3, e1, e2, e3, e4, hX⟩ := tI_B (A := fun j => M.1 (x + 87 + j)) hC c0 (by omega) hI hB l0 (by omega)
    refine tw_q h ?_ (fun M1 w1 => q_Mo_first w1 hX hq4)
    have hx := s_X_first (sc := sc) (sa := sa) (d := d + 12) (z := z) w v14 hN (a := a)
    rw [v15] at hx
    exact hx
theorem c_meet {sc : Option (Nat × Nat × (Nat → Int32))} {sa : Nat → Nat} {d : Nat} {z : Nat × Nat} {x T p r : Nat} {M : mz_M} (h : iV x T p r M) {a b : Int32} : tw sc sa (d + 16) 117 227 [.ref x, .int a, .int b] [.ref (x + 87), .int a, .int b] M z (fun M2 => ∃ p r, iV x T p r M2) := by
  obtain ⟨w, wm, iT1, tk1, ⟨pr, l, t, c, ln, T1, D, pa, ks, os, ts, hs, cs, q, ⟨⟨v1, v2, v3, v4⟩, ⟨v5, v6, v7, v8, v9, v10⟩, ⟨v11, v12, v13, v14⟩, ⟨v15, v16, v17, v18, v19, v20⟩⟩, ⟨hC, hN, hln, hT1, hT2, hD2⟩, hB, hw⟩, hK⟩ := id h
  rcases hw with ⟨c0, l0, D0, q0⟩ | ⟨c0, l0, hl, ht, hI⟩
  · have h5 : M.1 (x + 87 + 1) 5 = 0 := by rw [hB.2.2.2.2.2.1, l0, nI_0]
    refine tw_q h (v := -2) ?_ (fun M1 w1 => mr0 (n0_Mo_meet w1 h5))
    exact e_X_meet (d := d + 12) w v14 hN (fun g => vI_0 (q0 ▸ g.1))
  · obtain ⟨hq1, hq2, hq3, hq4⟩ := tI_q hC (by omega) hI
    obtain ⟨K, P1, P2, P3, e1, e2, e3, e4, hX⟩ := tI_B (A := fun j => M.1 (x + 87 + j)) hC c0 (by omega) hI hB l0 (by omega)
    refine tw_q h ?_ (fun M1 w1 => q_Mo_meet w1 hX)
    have hx := s_X_meet (sc := sc) (sa := sa) (d := d + 12) (z := z) w v14 hN (by rw [v18]; exact hq1.2.2.2.2.1) (a := a) (b := b)
    rw [v18] at hx
    exact hx
theorem c_apart {sc : Option (Nat × Nat × (Nat → Int32))} {sa : Nat → Nat} {d : Nat} {z : Nat × Nat} {x T p r : Nat} {M : mz_M} (h : iV x T p r M) {a b : Int32} : tw sc sa (d + 16) 118 228 [.ref x, .int a, .int b] [.ref (x + 87), .int a, .int b] M z (fun M2 => ∃ p r, iV x T p r M2) := by
  obtain ⟨w, wm, iT1, tk1, ⟨pr, l, t, c, ln, T1, D, pa, ks, os, ts, hs, cs, q, ⟨⟨v1, v2, v3, v4⟩, ⟨v5, v6, v7, v8, v9, v10⟩, ⟨v11, v12, v13, v14⟩, ⟨v15, v16, v17, v18, v19, v20⟩⟩, ⟨hC, hN, hln, hT1, hT2, hD2⟩, hB, hw⟩, hK⟩ := id h
  rcases hw with ⟨c0, l0, D0, q0⟩ | ⟨c0, l0, hl, ht, hI⟩
  · have h5 : M.1 (x + 87 + 1) 5 = 0 := by rw [hB.2.2.2.2.2.1, l0, nI_0]
    refine tw_q h (v := -2) ?_ (fun M1 w1 => mr0 (n0_Mo_apart w1 h5))
    exact e_X_apart (d := d + 12) w v14 hN (fun g => vI_0 (q0 ▸ g.1))
  · obtain ⟨hq1, hq2, hq3, hq4⟩ := tI_q hC (by omega) hI
    obtain ⟨K, P1, P2, P3, e1, e2, e3, e4, hX⟩ := tI_B (A := fun j => M.1 (x + 87 + j)) hC c0 (by omega) hI hB l0 (by omega)
    refine tw_q h ?_ (fun M1 w1 => q_Mo_apart w1 hX)
    have hx := s_X_apart (sc := sc) (sa := sa) (d := d + 12) (z := z) w v14 hN (by rw [v18]; exact hq1.2.2.2.2.1) (by rw [v18]; exact ok_ml hq1.2.2.2.2.1) (by rw [v18]; exact fun j i hj hi => mtN_lt hq1.2.2.2.2.1 (by omega) _ _ _ hj hi) (a := a) (b := b)
    rw [v18] at hx
    exact hx
theorem c_root {sc : Option (Nat × Nat × (Nat → Int32))} {sa : Nat → Nat} {d : Nat} {z : Nat × Nat} {x T p r : Nat} {M : mz_M} (h : iV x T p r M) {a b : Int32} : tw sc sa (d + 16) 119 229 [.ref x, .int a, .int b] [.ref (x + 87), .int a, .int b] M z (fun M2 => ∃ p r, iV x T p r M2) := by
  obtain ⟨w, wm, iT1, tk1, ⟨pr, l, t, c, ln, T1, D, pa, ks, os, ts, hs, cs, q, ⟨⟨v1, v2, v3, v4⟩, ⟨v5, v6, v7, v8, v9, v10⟩, ⟨v11, v12, v13, v14⟩, ⟨v15, v16, v17, v18, v19, v20⟩⟩, ⟨hC, hN, hln, hT1, hT2, hD2⟩, hB, hw⟩, hK⟩ := id h
  rcases hw with ⟨c0, l0, D0, q0⟩ | ⟨c0, l0, hl, ht, hI⟩
  · have h5 : M.1 (x + 87 + 1) 5 = 0 := by rw [hB.2.2.2.2.2.1, l0, nI_0]
    refine tw_q h (v := -2) ?_ (fun M1 w1 => mr0 (n0_Mo_root w1 h5))
    have hx := s_X_root (sc := sc) (sa := sa) (d := d + 12) (z := z) w v14 hN v11 hC (a := a) (b := b)
    rw [if_neg (fun g => vI_0 (q0 ▸ g.1))] at hx
    exact hx
  · obtain ⟨hq1, hq2, hq3, hq4⟩ := tI_q hC (by omega) hI
    obtain ⟨K, P1, P2, P3, e1, e2, e3, e4, hX⟩ := tI_B (A := fun j => M.1 (x + 87 + j)) hC c0 (by omega) hI hB l0 (by omega)
    refine tw_q h ?_ (fun M1 w1 => q_Mo_root w1 hX)
    have hx := s_X_root (sc := sc) (sa := sa) (d := d + 12) (z := z) w v14 hN v11 hC (a := a) (b := b)
    rw [v15] at hx
    exact hx
theorem c_together {sc : Option (Nat × Nat × (Nat → Int32))} {sa : Nat → Nat} {d : Nat} {z : Nat × Nat} {x T p r : Nat} {M : mz_M} (h : iV x T p r M) {a b : Int32} : tw sc sa (d + 16) 121 231 [.ref x, .int a, .int b] [.ref (x + 87), .int a, .int b] M z (fun M2 => ∃ p r, iV x T p r M2) := by
  obtain ⟨w, wm, iT1, tk1, ⟨pr, l, t, c, ln, T1, D, pa, ks, os, ts, hs, cs, q, ⟨⟨v1, v2, v3, v4⟩, ⟨v5, v6, v7, v8, v9, v10⟩, ⟨v11, v12, v13, v14⟩, ⟨v15, v16, v17, v18, v19, v20⟩⟩, ⟨hC, hN, hln, hT1, hT2, hD2⟩, hB, hw⟩, hK⟩ := id h
  rcases hw with ⟨c0, l0, D0, q0⟩ | ⟨c0, l0, hl, ht, hI⟩
  · have h5 : M.1 (x + 87 + 1) 5 = 0 := by rw [hB.2.2.2.2.2.1, l0, nI_0]
    refine tw_q h (v := -2) ?_ (fun M1 w1 => mr0 (n0_Mo_together w1 h5))
    have hx := s_X_together (sc := sc) (sa := sa) (d := d + 11) (z := z) w v14 hN v11 hC (a := a) (b := b)
    rw [if_neg (fun g => vI_0 (q0 ▸ g.1))] at hx
    exact hx
  · obtain ⟨hq1, hq2, hq3, hq4⟩ := tI_q hC (by omega) hI
    obtain ⟨K, P1, P2, P3, e1, e2, e3, e4, hX⟩ := tI_B (A := fun j => M.1 (x + 87 + j)) hC c0 (by omega) hI hB l0 (by omega)
    refine tw_q h ?_ (fun M1 w1 => q_Mo_together w1 hX)
    have hx := s_X_together (sc := sc) (sa := sa) (d := d + 11) (z := z) w v14 hN v11 hC (a := a) (b := b)
    rw [v15] at hx
    exact hx
theorem c_blame {sc : Option (Nat × Nat × (Nat → Int32))} {sa : Nat → Nat} {d : Nat} {z : Nat × Nat} {x T p r : Nat} {M : mz_M} (h : iV x T p r M) {a b : Int32} : tw sc sa (d + 16) 122 257 [.ref x, .int a, .int b] [.ref (x + 87), .int a, .int b] M z (fun M2 => ∃ p r, iV x T p r M2) := by
  obtain ⟨w, wm, iT1, tk1, ⟨pr, l, t, c, ln, T1, D, pa, ks, os, ts, hs, cs, q, ⟨⟨v1, v2, v3, v4⟩, ⟨v5, v6, v7, v8, v9, v10⟩, ⟨v11, v12, v13, v14⟩, ⟨v15, v16, v17, v18, v19, v20⟩⟩, ⟨hC, hN, hln, hT1, hT2, hD2⟩, hB, hw⟩, hK⟩ := id h
  rcases hw with ⟨c0, l0, D0, q0⟩ | ⟨c0, l0, hl, ht, hI⟩
  · have h5 : M.1 (x + 87 + 1) 5 = 0 := by rw [hB.2.2.2.2.2.1, l0, nI_0]
    refine tw_q h (v := -2) ?_ (fun M1 w1 => mr0 (n0_Mo_blame w1 h5))
    have hx := s_X_blame (sc := sc) (sa := sa) (d := d + 12) (z := z) w v14 hN v11 hC (fun v hv => absurd hv (by omega)) (a := a) (b := b)
    rw [if_neg (fun g => vI_0 (q0 ▸ g.1))] at hx
    exact hx
  · obtain ⟨hq1, hq2, hq3, hq4⟩ := tI_q hC (by omega) hI
    obtain ⟨K, P1, P2, P3, e1, e2, e3, e4, hX⟩ := tI_B (A := fun j => M.1 (x + 87 + j)) hC c0 (by omega) hI hB l0 (by omega)
    refine tw_q h ?_ (fun M1 w1 => q_Mo_blame w1 hX)
    have hx := s_X_blame (sc := sc) (sa := sa) (d := d + 12) (z := z) w v14 hN v11 hC (by rw [v18]; exact ok_ml hq1.2.2.2.2.1) (a := a) (b := b)
    rw [v18, v19] at hx
    exact hx
theorem c_often {sc : Option (Nat × Nat × (Nat → Int32))} {sa : Nat → Nat} {d : Nat} {z : Nat × Nat} {x T p r : Nat} {M : mz_M} (h : iV x T p r M) {a b : Int32} : tw sc sa (d + 16) 123 258 [.ref x, .int a, .int b] [.ref (x + 87), .int a, .int b] M z (fun M2 => ∃ p r, iV x T p r M2) := by
  obtain ⟨w, wm, iT1, tk1, ⟨pr, l, t, c, ln, T1, D, pa, ks, os, ts, hs, cs, q, ⟨⟨v1, v2, v3, v4⟩, ⟨v5, v6, v7, v8, v9, v10⟩, ⟨v11, v12, v13, v14⟩, ⟨v15, v16, v17, v18, v19, v20⟩⟩, ⟨hC, hN, hln, hT1, hT2, hD2⟩, hB, hw⟩, hK⟩ := id h
  rcases hw with ⟨c0, l0, D0, q0⟩ | ⟨c0, l0, hl, ht, hI⟩
  · have h5 : M.1 (x + 87 + 1) 5 = 0 := by rw [hB.2.2.2.2.2.1, l0, nI_0]
    refine tw_q h (v := -2) ?_ (fun M1 w1 => mr0 (n0_Mo_often w1 h5))
    have hx := s_X_often (sc := sc) (sa := sa) (d := d + 12) (z := z) w v14 hN v11 hC (fun v hv => absurd hv (by omega)) (a := a) (b := b)
    rw [if_neg (fun g => vI_0 (q0 ▸ g.1))] at hx
    exact hx
  · obtain ⟨hq1, hq2, hq3, hq4⟩ := tI_q hC (by omega) hI
    obtain ⟨K, P1, P2, P3, e1, e2, e3, e4, hX⟩ := tI_B (A := fun j => M.1 (x + 87 + j)) hC c0 (by omega) hI hB l0 (by omega)
    refine tw_q h ?_ (fun M1 w1 => q_Mo_often w1 hX)
    have hx := s_X_often (sc := sc) (sa := sa) (d := d + 12) (z := z) w v14 hN v11 hC (by rw [v18]; exact ok_ml hq1.2.2.2.2.1) (a := a) (b := b)
    rw [v18, v19] at hx
    exact hx
theorem c_state {sc : Option (Nat × Nat × (Nat → Int32))} {sa : Nat → Nat} {d : Nat} {z : Nat × Nat} {x T p r : Nat} {M : mz_M} (h : iV x T p r M) {a b : Int32} : tw sc sa (d + 16) 124 232 [.ref x, .int a, .int b] [.ref (x + 87), .int a, .int b] M z (fun M2 => ∃ p r, iV x T p r M2) := by
  obtain ⟨w, wm, iT1, tk1, ⟨pr, l, t, c, ln, T1, D, pa, ks, os, ts, hs, cs, q, ⟨⟨v1, v2, v3, v4⟩, ⟨v5, v6, v7, v8, v9, v10⟩, ⟨v11, v12, v13, v14⟩, ⟨v15, v16, v17, v18, v19, v20⟩⟩, ⟨hC, hN, hln, hT1, hT2, hD2⟩, hB, hw⟩, hK⟩ := id h
  rcases hw with ⟨c0, l0, D0, q0⟩ | ⟨c0, l0, hl, ht, hI⟩
  · have h5 : M.1 (x + 87 + 1) 5 = 0 := by rw [hB.2.2.2.2.2.1, l0, nI_0]
    refine tw_q h (v := -2) ?_ (fun M1 w1 => mr0 (n0_Mo_state w1 h5))
    have hx := s_X_state (sc := sc) (sa := sa) (d := d + 12) (z := z) w v14 hN (a := a) (b := b)
    rw [if_neg (fun g => vI_0 (q0 ▸ g.1))] at hx
    exact hx
  · obtain ⟨hq1, hq2, hq3, hq4⟩ := tI_q hC (by omega) hI
    obtain ⟨K, P1, P2, P3, e1, e2, e3, e4, hX⟩ := tI_B (A := fun j => M.1 (x + 87 + j)) hC c0 (by omega) hI hB l0 (by omega)
    refine tw_q h ?_ (fun M1 w1 => q_Mo_state w1 hX)
    have hx := s_X_state (sc := sc) (sa := sa) (d := d + 12) (z := z) w v14 hN (a := a) (b := b)
    rw [v15, v16, v17] at hx
    exact hx
theorem c_length {sc : Option (Nat × Nat × (Nat → Int32))} {sa : Nat → Nat} {d : Nat} {z : Nat × Nat} {x T p r : Nat} {M : mz_M} (h : iV x T p r M) {a : Int32} : tw sc sa (d + 16) 125 233 [.ref x, .int a] [.ref (x + 87), .int a] M z (fun M2 => ∃ p r, iV x T p r M2) := by
  obtain ⟨w, wm, iT1, tk1, ⟨pr, l, t, c, ln, T1, D, pa, ks, os, ts, hs, cs, q, ⟨⟨v1, v2, v3, v4⟩, ⟨v5, v6, v7, v8, v9, v10⟩, ⟨v11, v12, v13, v14⟩, ⟨v15, v16, v17, v18, v19, v20⟩⟩, ⟨hC, hN, hln, hT1, hT2, hD2⟩, hB, hw⟩, hK⟩ := id h
  rcases hw with ⟨c0, l0, D0, q0⟩ | ⟨c0, l0, hl, ht, hI⟩
  · have h5 : M.1 (x + 87 + 1) 5 = 0 := by rw [hB.2.2.2.2.2.1, l0, nI_0]
    refine tw_q h (v := -2) ?_ (fun M1 w1 => mr0 (n0_Mo_length w1 h5))
    have hx := s_X_length (sc := sc) (sa := sa) (d := d + 12) (z := z) w v14 hN (fun v hv => absurd hv (by omega)) (a := a)
    rw [if_neg (fun g => vI_0 (q0 ▸ g))] at hx
    exact hx
  · obtain ⟨hq1, hq2, hq3, hq4⟩ := tI_q hC (by omega) hI
    obtain ⟨K, P1, P2, P3, e1, e2, e3, e4, hX⟩ := tI_B (A := fun j => M.1 (x + 87 + j)) hC c0 (by omega) hI hB l0 (by omega)
    refine tw_q h ?_ (fun M1 w1 => q_Mo_length w1 hX)
    have hx := s_X_length (sc := sc) (sa := sa) (d := d + 12) (z := z) w v14 hN (by rw [v16]; exact hq1.2.2.1.1) (a := a)
    rw [v16] at hx
    exact hx
theorem c_longest {sc : Option (Nat × Nat × (Nat → Int32))} {sa : Nat → Nat} {d : Nat} {z : Nat × Nat} {x T p r : Nat} {M : mz_M} (h : iV x T p r M) : tw sc sa (d + 16) 126 234 [.ref x] [.ref (x + 87)] M z (fun M2 => ∃ p r, iV x T p r M2) := by
  obtain ⟨w, wm, iT1, tk1, ⟨pr, l, t, c, ln, T1, D, pa, ks, os, ts, hs, cs, q, ⟨⟨v1, v2, v3, v4⟩, ⟨v5, v6, v7, v8, v9, v10⟩, ⟨v11, v12, v13, v14⟩, ⟨v15, v16, v17, v18, v19, v20⟩⟩, ⟨hC, hN, hln, hT1, hT2, hD2⟩, hB, hw⟩, hK⟩ := id h
  rcases hw with ⟨c0, l0, D0, q0⟩ | ⟨c0, l0, hl, ht, hI⟩
  · have h5 : M.1 (x + 87 + 1) 5 = 0 := by rw [hB.2.2.2.2.2.1, l0, nI_0]
    refine tw_q h (v := -2) ?_ (fun M1 w1 => mr0 (n0_Mo_longest w1 h5))
    have hx := s_X_longest (sc := sc) (sa := sa) (d := d + 12) (z := z) w v14 hN v11 hC (fun v hv => absurd hv (by omega))
    rw [if_neg (by omega)] at hx
    exact hx
  · obtain ⟨hq1, hq2, hq3, hq4⟩ := tI_q hC (by omega) hI
    obtain ⟨K, P1, P2, P3, e1, e2, e3, e4, hX⟩ := tI_B (A := fun j => M.1 (x + 87 + j)) hC c0 (by omega) hI hB l0 (by omega)
    refine tw_q h ?_ (fun M1 w1 => q_Mo_longest w1 hX)
    have hx := s_X_longest (sc := sc) (sa := sa) (d := d + 12) (z := z) w v14 hN v11 hC (by rw [v16]; exact hq1.2.2.1.1)
    rw [v16] at hx
    rw [if_pos c0] at hx
    exact hx
theorem c_direct {sc : Option (Nat × Nat × (Nat → Int32))} {sa : Nat → Nat} {d : Nat} {z : Nat × Nat} {x T p r : Nat} {M : mz_M} (h : iV x T p r M) : tw sc sa (d + 16) 127 235 [.ref x] [.ref (x + 87)] M z (fun M2 => ∃ p r, iV x T p r M2) := by
  obtain ⟨w, wm, iT1, tk1, ⟨pr, l, t, c, ln, T1, D, pa, ks, os, ts, hs, cs, q, ⟨⟨v1, v2, v3, v4⟩, ⟨v5, v6, v7, v8, v9, v10⟩, ⟨v11, v12, v13, v14⟩, ⟨v15, v16, v17, v18, v19, v20⟩⟩, ⟨hC, hN, hln, hT1, hT2, hD2⟩, hB, hw⟩, hK⟩ := id h
  rcases hw with ⟨c0, l0, D0, q0⟩ | ⟨c0, l0, hl, ht, hI⟩
  · have h5 : M.1 (x + 87 + 1) 5 = 0 := by rw [hB.2.2.2.2.2.1, l0, nI_0]
    refine tw_q h (v := -2) ?_ (fun M1 w1 => mr0 (n0_Mo_direct w1 h5))
    have hx := s_X_direct (sc := sc) (sa := sa) (d := d + 12) (z := z) w v14 hN v11 hC
    rw [if_neg (by omega)] at hx
    exact hx
  · obtain ⟨hq1, hq2, hq3, hq4⟩ := tI_q hC (by omega) hI
    obtain ⟨K, P1, P2, P3, e1, e2, e3, e4, hX⟩ := tI_B (A := fun j => M.1 (x + 87 + j)) hC c0 (by omega) hI hB l0 (by omega)
    refine tw_q h ?_ (fun M1 w1 => q_Mo_direct w1 hX)
    have hx := s_X_direct (sc := sc) (sa := sa) (d := d + 12) (z := z) w v14 hN v11 hC
    rw [v16] at hx
    rw [if_pos c0] at hx
    exact hx
theorem c_ways {sc : Option (Nat × Nat × (Nat → Int32))} {sa : Nat → Nat} {d : Nat} {z : Nat × Nat} {x T p r : Nat} {M : mz_M} (h : iV x T p r M) : tw sc sa (d + 16) 128 266 [.ref x] [.ref (x + 87)] M z (fun M2 => ∃ p r, iV x T p r M2) := by
  obtain ⟨w, wm, iT1, tk1, ⟨pr, l, t, c, ln, T1, D, pa, ks, os, ts, hs, cs, q, ⟨⟨v1, v2, v3, v4⟩, ⟨v5, v6, v7, v8, v9, v10⟩, ⟨v11, v12, v13, v14⟩, ⟨v15, v16, v17, v18, v19, v20⟩⟩, ⟨hC, hN, hln, hT1, hT2, hD2⟩, hB, hw⟩, hK⟩ := id h
  rcases hw with ⟨c0, l0, D0, q0⟩ | ⟨c0, l0, hl, ht, hI⟩
  · have h5 : M.1 (x + 87 + 1) 5 = 0 := by rw [hB.2.2.2.2.2.1, l0, nI_0]
    refine tw_q h (v := -2) ?_ (fun M1 w1 => mr0 (n0_Mo_ways w1 h5))
    have hx := s_X_ways (sc := sc) (sa := sa) (d := d + 12) (z := z) w v14 hN v11 hC (fun v hv => absurd hv (by omega))
    rw [if_neg (by omega)] at hx
    exact hx
  · obtain ⟨hq1, hq2, hq3, hq4⟩ := tI_q hC (by omega) hI
    obtain ⟨K, P1, P2, P3, e1, e2, e3, e4, hX⟩ := tI_B (A := fun j => M.1 (x + 87 + j)) hC c0 (by omega) hI hB l0 (by omega)
    refine tw_q h ?_ (fun M1 w1 => q_Mo_ways w1 hX)
    have hx := s_X_ways (sc := sc) (sa := sa) (d := d + 12) (z := z) w v14 hN v11 hC (by rw [v16]; exact hq1.2.2.1.1)
    rw [v16] at hx
    rw [if_pos c0] at hx
    exact hx
theorem c_busiest {sc : Option (Nat × Nat × (Nat → Int32))} {sa : Nat → Nat} {d : Nat} {z : Nat × Nat} {x T p r : Nat} {M : mz_M} (h : iV x T p r M) : tw sc sa (d + 16) 131 263 [.ref x] [.ref (x + 87)] M z (fun M2 => ∃ p r, iV x T p r M2) := by
  obtain ⟨w, wm, iT1, tk1, ⟨pr, l, t, c, ln, T1, D, pa, ks, os, ts, hs, cs, q, ⟨⟨v1, v2, v3, v4⟩, ⟨v5, v6, v7, v8, v9, v10⟩, ⟨v11, v12, v13, v14⟩, ⟨v15, v16, v17, v18, v19, v20⟩⟩, ⟨hC, hN, hln, hT1, hT2, hD2⟩, hB, hw⟩, hK⟩ := id h
  rcases hw with ⟨c0, l0, D0, q0⟩ | ⟨c0, l0, hl, ht, hI⟩
  · have h5 : M.1 (x + 87 + 1) 5 = 0 := by rw [hB.2.2.2.2.2.1, l0, nI_0]
    refine tw_q h (v := -2) ?_ (fun M1 w1 => mr0 (n0_Mo_busiest w1 h5))
    have hx := s_X_busiest (sc := sc) (sa := sa) (d := d + 11) (z := z) w v14 hN v11 hC (fun v hv => absurd hv (by omega))
    rw [if_neg (by omega)] at hx
    exact hx
  · obtain ⟨hq1, hq2, hq3, hq4⟩ := tI_q hC (by omega) hI
    obtain ⟨K, P1, P2, P3, e1, e2, e3, e4, hX⟩ := tI_B (A := fun j => M.1 (x + 87 + j)) hC c0 (by omega) hI hB l0 (by omega)
    refine tw_q h ?_ (fun M1 w1 => q_Mo_busiest w1 hX)
    have hx := s_X_busiest (sc := sc) (sa := sa) (d := d + 11) (z := z) w v14 hN v11 hC (by rw [v16]; exact hq1.2.2.1.1)
    rw [v16] at hx
    rw [if_pos c0] at hx
    exact hx
theorem c_ledger {sc : Option (Nat × Nat × (Nat → Int32))} {sa : Nat → Nat} {d : Nat} {z : Nat × Nat} {x T p r : Nat} {M : mz_M} (h : iV x T p r M) : tw sc sa (d + 16) 135 236 [.ref x] [.ref (x + 87)] M z (fun M2 => ∃ p r, iV x T p r M2) := by
  obtain ⟨w, wm, iT1, tk1, ⟨pr, l, t, c, ln, T1, D, pa, ks, os, ts, hs, cs, q, ⟨⟨v1, v2, v3, v4⟩, ⟨v5, v6, v7, v8, v9, v10⟩, ⟨v11, v12, v13, v14⟩, ⟨v15, v16, v17, v18, v19, v20⟩⟩, ⟨hC, hN, hln, hT1, hT2, hD2⟩, hB, hw⟩, hK⟩ := id h
  rcases hw with ⟨c0, l0, D0, q0⟩ | ⟨c0, l0, hl, ht, hI⟩
  · have h5 : M.1 (x + 87 + 1) 5 = 0 := by rw [hB.2.2.2.2.2.1, l0, nI_0]
    refine tw_q h (v := -2) ?_ (fun M1 w1 => mr0 (n0_Mo_ledger w1 h5))
    have hx := s_X_ledger (sc := sc) (sa := sa) (d := d + 12) (z := z) w v14 hN v11 hC
    rw [if_neg (by omega)] at hx
    exact hx
  · obtain ⟨hq1, hq2, hq3, hq4⟩ := tI_q hC (by omega) hI
    obtain ⟨K, P1, P2, P3, e1, e2, e3, e4, hX⟩ := tI_B (A := fun j => M.1 (x + 87 + j)) hC c0 (by omega) hI hB l0 (by omega)
    refine tw_q h ?_ (fun M1 w1 => q_Mo_ledger w1 hX (tI_L hC (by omega) e2 e3))
    have hx := s_X_ledger (sc := sc) (sa := sa) (d := d + 12) (z := z) w v14 hN v11 hC
    rw [v20] at hx
    rw [if_pos c0] at hx
    exact hx
theorem c_dearest {sc : Option (Nat × Nat × (Nat → Int32))} {sa : Nat → Nat} {d : Nat} {z : Nat × Nat} {x T p r : Nat} {M : mz_M} (h : iV x T p r M) : tw sc sa (d + 16) 137 238 [.ref x] [.ref (x + 87)] M z (fun M2 => ∃ p r, iV x T p r M2) := by
  obtain ⟨w, wm, iT1, tk1, ⟨pr, l, t, c, ln, T1, D, pa, ks, os, ts, hs, cs, q, ⟨⟨v1, v2, v3, v4⟩, ⟨v5, v6, v7, v8, v9, v10⟩, ⟨v11, v12, v13, v14⟩, ⟨v15, v16, v17, v18, v19, v20⟩⟩, ⟨hC, hN, hln, hT1, hT2, hD2⟩, hB, hw⟩, hK⟩ := id h
  rcases hw with ⟨c0, l0, D0, q0⟩ | ⟨c0, l0, hl, ht, hI⟩
  · have h5 : M.1 (x + 87 + 1) 5 = 0 := by rw [hB.2.2.2.2.2.1, l0, nI_0]
    refine tw_q h (v := -2) ?_ (fun M1 w1 => mr0 (n0_Mo_dearest w1 h5))
    have hx := s_X_dearest (sc := sc) (sa := sa) (d := d + 14) (z := z) w v11 hC v4 (by omega)
    rw [if_neg (by omega)] at hx
    exact hx
  · obtain ⟨hq1, hq2, hq3, hq4⟩ := tI_q hC (by omega) hI
    obtain ⟨K, P1, P2, P3, e1, e2, e3, e4, hX⟩ := tI_B (A := fun j => M.1 (x + 87 + j)) hC c0 (by omega) hI hB l0 (by omega)
    refine tw_q h ?_ (fun M1 w1 => q_Mo_dearest w1 hX (fun p q0 j hj => tI_C hC (by omega) e2 e4 p q0 j hj))
    have hx := s_X_dearest (sc := sc) (sa := sa) (d := d + 14) (z := z) w v11 hC v4 (by omega)
    rw [v10] at hx
    rw [if_pos c0] at hx
    exact hx
theorem c_cost {sc : Option (Nat × Nat × (Nat → Int32))} {sa : Nat → Nat} {d : Nat} {z : Nat × Nat} {x T p r : Nat} {M : mz_M} (h : iV x T p r M) {a b : Int32} : tw sc sa (d + 16) 138 239 [.ref x, .int a, .int b] [.ref (x + 87), .int a, .int b] M z (fun M2 => ∃ p r, iV x T p r M2) := by
  obtain ⟨w, wm, iT1, tk1, ⟨pr, l, t, c, ln, T1, D, pa, ks, os, ts, hs, cs, q, ⟨⟨v1, v2, v3, v4⟩, ⟨v5, v6, v7, v8, v9, v10⟩, ⟨v11, v12, v13, v14⟩, ⟨v15, v16, v17, v18, v19, v20⟩⟩, ⟨hC, hN, hln, hT1, hT2, hD2⟩, hB, hw⟩, hK⟩ := id h
  rcases hw with ⟨c0, l0, D0, q0⟩ | ⟨c0, l0, hl, ht, hI⟩
  · have h5 : M.1 (x + 87 + 1) 5 = 0 := by rw [hB.2.2.2.2.2.1, l0, nI_0]
    refine tw_q h (v := -2) ?_ (fun M1 w1 => mr0 (n0_Mo_cost w1 h5))
    have hx := s_X_cost (sc := sc) (sa := sa) (d := d + 12) (z := z) w v14 hN v11 hC (fun v hv => absurd hv (by omega)) (a := a) (b := b)
    rw [if_neg (fun g => vI_0 (q0 ▸ g.1))] at hx
    exact hx
  · obtain ⟨hq1, hq2, hq3, hq4⟩ := tI_q hC (by omega) hI
    obtain ⟨K, P1, P2, P3, e1, e2, e3, e4, hX⟩ := tI_B (A := fun j => M.1 (x + 87 + j)) hC c0 (by omega) hI hB l0 (by omega)
    refine tw_q h ?_ (fun M1 w1 => q_Mo_cost w1 hX)
    have hx := s_X_cost (sc := sc) (sa := sa) (d := d + 12) (z := z) w v14 hN v11 hC (by rw [v16]; exact hq1.2.2.1.1) (a := a) (b := b)
    rw [v11, v12, v13, v16, v17] at hx
    exact hx
theorem c_merged {sc : Option (Nat × Nat × (Nat → Int32))} {sa : Nat → Nat} {d : Nat} {z : Nat × Nat} {x T p r : Nat} {M : mz_M} (h : iV x T p r M) {a b e : Int32} : tw sc sa (d + 16) 151 256 [.ref x, .int a, .int b, .int e] [.ref (x + 87), .int a, .int b, .int e] M z (fun M2 => ∃ p r, iV x T p r M2) := by
  obtain ⟨w, wm, iT1, tk1, ⟨pr, l, t, c, ln, T1, D, pa, ks, os, ts, hs, cs, q, ⟨⟨v1, v2, v3, v4⟩, ⟨v5, v6, v7, v8, v9, v10⟩, ⟨v11, v12, v13, v14⟩, ⟨v15, v16, v17, v18, v19, v20⟩⟩, ⟨hC, hN, hln, hT1, hT2, hD2⟩, hB, hw⟩, hK⟩ := id h
  rcases hw with ⟨c0, l0, D0, q0⟩ | ⟨c0, l0, hl, ht, hI⟩
  · have h5 : M.1 (x + 87 + 1) 5 = 0 := by rw [hB.2.2.2.2.2.1, l0, nI_0]
    refine tw_q h (v := -2) ?_ (fun M1 w1 => mr0 (n0_Mo_merged w1 h5))
    exact e_X_merged (d := d + 12) w v14 hN (fun g => vI_0 (q0 ▸ g.1))
  · obtain ⟨hq1, hq2, hq3, hq4⟩ := tI_q hC (by omega) hI
    obtain ⟨K, P1, P2, P3, e1, e2, e3, e4, hX⟩ := tI_B (A := fun j => M.1 (x + 87 + j)) hC c0 (by omega) hI hB l0 (by omega)
    refine tw_q h ?_ (fun M1 w1 => q_Mo_merged w1 hX)
    have hx := s_X_merged (sc := sc) (sa := sa) (d := d + 11) (z := z) w v14 hN v11 hC (by rw [v18]; exact hq1.2.2.2.2.1) (a := a) (b := b) (c := e)
    rw [v15, v18] at hx
    exact hx
