theorem n_X_cut {sc : Option (Nat × Nat × (Nat → Int32))} {sa : Nat → Nat} {d : Nat} {M : mz_M} {z : Nat × Nat} {x p q : Nat} (w : g_X M.2.2 x p q) {c : Nat} (hc : M.1 (p + 1) 5 = nI c) (hC : c ≤ 12) (hno : ¬ 0 < c) : zx sc sa (d + 7) 141 [.ref x] M z z (some (.int (-2))) M := by
  refine zxin ym_X_cut [.ref x, .retAddr 0, .retAddr 0, .retAddr 0, .retAddr 0] rfl rfl rfl rfl ?_
  refine z_aload_n (q := 1) rfl rfl rfl ?_
  refine z_cv0i (q := 4) rfl rfl rfl (X_k w) (s_X_isThere w hc hC) ?_
  refine z_if_ne (q := 7) rfl rfl (fun h4 => ?_) (fun h4 => ?_)
  · exact absurd (bz_n.mp h4) hno
  · refine z_bipush (q := 9) (v := -2) rfl rfl rfl ?_
    refine z_ireti rfl rfl ?_
    exact ⟨rfl, rfl⟩
theorem kP_sh {x T p r : Nat} {M : mz_M} {s l t : Int32} {q : sQ} (h : iV x T p r M) : kP x M (shQ M (x + 4) s l t q) := by
  refine ⟨rfl, fun a ha => ⟨shP_o (by omega) (by omega) (by omega) (by omega) (by omega), shP_oJ (by omega)⟩, fun i => ?_⟩
  obtain ⟨c, c1, c2⟩ := h.2.2.2.1 i
  exact ⟨c, c1, by rw [show (shQ M (x + 4) s l t q).1 (x + 10 + 9) = M.1 (x + 10 + 9) from shP_o (by omega) (by omega) (by omega) (by omega) (by omega)]; exact c2⟩
theorem cu_eq {c D : Nat} {K A B E : Nat → Nat} {S : Nat → Int32} (hS : ∀ k q, (fo (plG (nI c) 2 (nI k) c K A B E (-1)) (bgQ (ownR c) q) D).2.2.2.2.2.2 = S k) : ∀ k i q, i + k = 20 → (cuF c D K A B E k (i + 1) (nI (cbI S i)) (S (cbI S i)) q).1 = nI (cbI S 20) := by
  intro k
  induction k with
  | zero =>
    intro i q hi
    have e1 : i = 20 := by omega
    subst e1
    rfl
  | succ k ih =>
    intro i q hi
    have e9 := ih (i + 1) (fo (plG (nI c) 2 (nI (i + 1)) c K A B E (-1)) (bgQ (ownR c) q) D) (by omega)
    rw [cuF_s, hS]
    by_cases g : S (cbI S i) ≤ S (i + 1)
    · rw [if_pos g]
      have e8 : cbI S (i + 1) = cbI S i := if_neg (by rw [Int32.not_lt]; exact g)
      rw [e8] at e9
      exact e9
    · rw [if_neg g]
      have e8 : cbI S (i + 1) = i + 1 := if_pos (Int32.not_le.mp g)
      rw [e8] at e9
      exact e9
theorem c_by {sc : Option (Nat × Nat × (Nat → Int32))} {sa : Nat → Nat} {d : Nat} {z : Nat × Nat} {x T p r : Nat} {M : mz_M} (h : iV x T p r M) {a : Int32} : tw sc sa (d + 16) 139 240 [.ref x, .int a] [.ref (x + 87), .int a] M z (fun M2 => ∃ p r, iV x T p r M2) := by
  obtain ⟨w, wm, iT1, tk1, ⟨pr, l, t, c, ln, T1, D, pa, ks, os, ts, hs, cs, q, ⟨⟨v1, v2, v3, v4⟩, ⟨v5, v6, v7, v8, v9, v10⟩, ⟨v11, v12, v13, v14⟩, ⟨v15, v16, v17, v18, v19, v20⟩⟩, ⟨hC, hN, hln, hT1, hT2, hD2⟩, hB, hw⟩, hK⟩ := id h
  rcases hw with ⟨c0, l0, D0, q0⟩ | ⟨c0, l0, hl, ht, hI⟩
  · have h5 : M.1 (x + 87 + 1) 5 = 0 := by rw [hB.2.2.2.2.2.1, l0, nI_0]
    refine tw_q h (v := -2) ?_ (fun M1 w1 => mr0 (n0_Mo_by w1 h5))
    exact n_X_by (d := d + 9) w v11 hC (fun g => absurd g.1 (by omega))
  · obtain ⟨hq1, hq2, hq3, hq4⟩ := tI_q hC (by omega) hI
    obtain ⟨K, P1, P2, P3, e1, e2, e3, e4, hX⟩ := tI_B (A := fun j => M.1 (x + 87 + j)) hC c0 (by omega) hI hB l0 (by omega)
    by_cases g : ¬ a < 0 ∧ a ≤ 2
    · obtain ⟨n9, hn9⟩ := nI_all (M.1 (x + 4) 8)
      have es : shQ M (x + 4) (M.1 (x + 4) 5) (M.1 (x + 4) 6) (M.1 (x + 4) 7) (qM M (x + 4) n9) = M := shQ_eta hn9
      have hp : x + 10 ≤ p := by
        have := X_pq w
        omega
      have hd : ∀ i, i < D → M.1 (p + 8) i = nI (K i) ∧ M.1 (p + 9) i = nI (P1 i) ∧ M.1 (p + 10) i = nI (P2 i) ∧ M.1 (p + 11) i = nI (P3 i) := by
        rw [v6, v7, v8, v9]
        exact e1
      have hx := q_X_by (sc := sc) (sa := sa) (d := d + 9) (z := z) (M := M) (s0 := M.1 (x + 4) 5) (l0 := M.1 (x + 4) 6) (t0 := M.1 (x + 4) 7) (q := qM M (x + 4) n9) w hp v11 hC v4 (show D ≤ 60 by omega) hd c0 g.1 g.2 (c_plV hC (by omega) (by omega) (by omega) e2 sk_n _)
      rw [es, v13] at hx
      exact tw_g h (zi_x hx ⟨rfl, kP_sh h⟩) (fun M1 w1 => q_Mo_by w1 hX g (c_pmV hC (by omega) (by omega) (by omega) e2 sk_n) (fun p9 q9 => tI_T (l := l) (t := t) hC (by omega) e2 sk_n p9 q9))
    · exact tw_q h (n_X_by (d := d + 9) w v11 hC (fun g2 => g g2.2)) (fun M1 w1 => n_Mo_by w1 hX g)
theorem c_cutting {sc : Option (Nat × Nat × (Nat → Int32))} {sa : Nat → Nat} {d : Nat} {z : Nat × Nat} {x T p r : Nat} {M : mz_M} (h : iV x T p r M) {a : Int32} : tw sc sa (d + 16) 140 241 [.ref x, .int a] [.ref (x + 87), .int a] M z (fun M2 => ∃ p r, iV x T p r M2) := by
  obtain ⟨w, wm, iT1, tk1, ⟨pr, l, t, c, ln, T1, D, pa, ks, os, ts, hs, cs, q, ⟨⟨v1, v2, v3, v4⟩, ⟨v5, v6, v7, v8, v9, v10⟩, ⟨v11, v12, v13, v14⟩, ⟨v15, v16, v17, v18, v19, v20⟩⟩, ⟨hC, hN, hln, hT1, hT2, hD2⟩, hB, hw⟩, hK⟩ := id h
  rcases hw with ⟨c0, l0, D0, q0⟩ | ⟨c0, l0, hl, ht, hI⟩
  · have h5 : M.1 (x + 87 + 1) 5 = 0 := by rw [hB.2.2.2.2.2.1, l0, nI_0]
    refine tw_q h (v := -2) ?_ (fun M1 w1 => mr0 (n0_Mo_cutting w1 h5))
    exact n_X_cutting (d := d + 9) w v11 hC (fun g => absurd g.1 (by omega))
  · obtain ⟨hq1, hq2, hq3, hq4⟩ := tI_q hC (by omega) hI
    obtain ⟨K, P1, P2, P3, e1, e2, e3, e4, hX⟩ := tI_B (A := fun j => M.1 (x + 87 + j)) hC c0 (by omega) hI hB l0 (by omega)
    by_cases g : ¬ a < 0 ∧ a ≤ 20
    · obtain ⟨n9, hn9⟩ := nI_all (M.1 (x + 4) 8)
      have es : shQ M (x + 4) (M.1 (x + 4) 5) (M.1 (x + 4) 6) (M.1 (x + 4) 7) (qM M (x + 4) n9) = M := shQ_eta hn9
      have hp : x + 10 ≤ p := by
        have := X_pq w
        omega
      have hd : ∀ i, i < D → M.1 (p + 8) i = nI (K i) ∧ M.1 (p + 9) i = nI (P1 i) ∧ M.1 (p + 10) i = nI (P2 i) ∧ M.1 (p + 11) i = nI (P3 i) := by
        rw [v6, v7, v8, v9]
        exact e1
      have hx := q_X_cutting (sc := sc) (sa := sa) (d := d + 9) (z := z) (M := M) (s0 := M.1 (x + 4) 5) (l0 := M.1 (x + 4) 6) (t0 := M.1 (x + 4) 7) (q := qM M (x + 4) n9) w hp v11 hC v4 (show D ≤ 60 by omega) hd c0 g.1 g.2 (c_plV hC (by omega) (by omega) (by omega) e2 sk_n _)
      rw [es] at hx
      exact tw_g h (zi_x hx ⟨rfl, kP_sh h⟩) (fun M1 w1 => q_Mo_cutting w1 hX g (c_pmV hC (by omega) (by omega) (by omega) e2 sk_n) (fun p9 q9 => tI_T (l := l) (t := t) hC (by omega) e2 sk_n p9 q9))
    · exact tw_q h (n_X_cutting (d := d + 9) w v11 hC (fun g2 => g g2.2)) (fun M1 w1 => n_Mo_cutting w1 hX g)
theorem c_cut {sc : Option (Nat × Nat × (Nat → Int32))} {sa : Nat → Nat} {d : Nat} {z : Nat × Nat} {x T p r : Nat} {M : mz_M} (h : iV x T p r M) : tw sc sa (d + 16) 141 242 [.ref x] [.ref (x + 87)] M z (fun M2 => ∃ p r, iV x T p r M2) := by
  obtain ⟨w, wm, iT1, tk1, ⟨pr, l, t, c, ln, T1, D, pa, ks, os, ts, hs, cs, q, ⟨⟨v1, v2, v3, v4⟩, ⟨v5, v6, v7, v8, v9, v10⟩, ⟨v11, v12, v13, v14⟩, ⟨v15, v16, v17, v18, v19, v20⟩⟩, ⟨hC, hN, hln, hT1, hT2, hD2⟩, hB, hw⟩, hK⟩ := id h
  rcases hw with ⟨c0, l0, D0, q0⟩ | ⟨c0, l0, hl, ht, hI⟩
  · have h5 : M.1 (x + 87 + 1) 5 = 0 := by rw [hB.2.2.2.2.2.1, l0, nI_0]
    refine tw_q h (v := -2) ?_ (fun M1 w1 => mr0 (n0_Mo_cut w1 h5))
    exact n_X_cut (d := d + 9) w v11 hC (by omega)
  · obtain ⟨hq1, hq2, hq3, hq4⟩ := tI_q hC (by omega) hI
    obtain ⟨K, P1, P2, P3, e1, e2, e3, e4, hX⟩ := tI_B (A := fun j => M.1 (x + 87 + j)) hC c0 (by omega) hI hB l0 (by omega)
    obtain ⟨n9, hn9⟩ := nI_all (M.1 (x + 4) 8)
    have es : shQ M (x + 4) (M.1 (x + 4) 5) (M.1 (x + 4) 6) (M.1 (x + 4) 7) (qM M (x + 4) n9) = M := shQ_eta hn9
    have hp : x + 10 ≤ p := by
      have := X_pq w
      omega
    have hd : ∀ i, i < D → M.1 (p + 8) i = nI (K i) ∧ M.1 (p + 9) i = nI (P1 i) ∧ M.1 (p + 10) i = nI (P2 i) ∧ M.1 (p + 11) i = nI (P3 i) := by
      rw [v6, v7, v8, v9]
      exact e1
    have hx := q_X_cut (sc := sc) (sa := sa) (d := d + 9) (z := z) (M := M) (s0 := M.1 (x + 4) 5) (l0 := M.1 (x + 4) 6) (t0 := M.1 (x + 4) 7) (q := qM M (x + 4) n9) w hp v11 hC v4 (show D ≤ 60 by omega) hd (fun i q9 _ => c_plV hC (by omega) (by omega) (by omega) e2 sk_n q9) c0
    rw [es] at hx
    have hS : ∀ k q9, (fo (plG (nI c) 2 (nI k) c K P1 P2 P3 (-1)) (bgQ (ownR c) q9) D).2.2.2.2.2.2 = (fo (plG (nI c) 2 (nI k) c K P1 P2 P3 (-1)) (bgQ (ownR c) qz) D).2.2.2.2.2.2 := fun k q9 => (tI_T (l := l) (t := t) (q := q9) hC (by omega) e2 sk_n 0 qz).symm.trans (tI_T (l := l) (t := t) (q := qz) hC (by omega) e2 sk_n 0 qz)
    rw [show (fo (plG (nI c) 2 (nI 0) c K P1 P2 P3 (-1)) (bgQ (ownR c) (qM M (x + 4) n9)) D).2.2.2.2.2.2 = _ from hS 0 _] at hx
    have hx2 := zi_x hx (Q := fun v' M1 => v' = nI (cbI (fun k => (fo (plG (nI c) 2 (nI k) c K P1 P2 P3 (-1)) (bgQ (ownR c) qz) D).2.2.2.2.2.2) 20) ∧ kP x M M1) ⟨cu_eq hS 20 0 _ rfl, kP_sh h⟩
    exact tw_g h hx2 (fun M1 w1 => q_Mo_cut w1 hX (fun k _ => c_pmV hC (by omega) (by omega) (by omega) e2 sk_n) (fun k _ p9 q9 => tI_T (l := l) (t := t) hC (by omega) e2 sk_n p9 q9))
theorem nI_k {k : Nat} (h : k ≤ 7) : (nI k = 1 ∨ nI k = 4 ∨ nI k = 5) ↔ (k = 1 ∨ k = 4 ∨ k = 5) := by
  have g : ∀ k, k ≤ 7 → ((nI k = 1 ∨ nI k = 4 ∨ nI k = 5) ↔ (k = 1 ∨ k = 4 ∨ k = 5)) := by decide
  exact g k h
theorem c_without {sc : Option (Nat × Nat × (Nat → Int32))} {sa : Nat → Nat} {d : Nat} {z : Nat × Nat} {x T p r : Nat} {M : mz_M} (h : iV x T p r M) {a : Int32} : tw sc sa (d + 16) 142 243 [.ref x, .int a] [.ref (x + 87), .int a] M z (fun M2 => ∃ p r, iV x T p r M2) := by
  obtain ⟨w, wm, iT1, tk1, ⟨pr, l, t, c, ln, T1, D, pa, ks, os, ts, hs, cs, q, ⟨⟨v1, v2, v3, v4⟩, ⟨v5, v6, v7, v8, v9, v10⟩, ⟨v11, v12, v13, v14⟩, ⟨v15, v16, v17, v18, v19, v20⟩⟩, ⟨hC, hN, hln, hT1, hT2, hD2⟩, hB, hw⟩, hK⟩ := id h
  rcases hw with ⟨c0, l0, D0, q0⟩ | ⟨c0, l0, hl, ht, hI⟩
  · exact tw_q h (n_X_without (d := d + 9) w v11 hC v4 (by omega) (fun g => vI_0 (D0 ▸ g.1))) (fun M1 w1 => n_Mo_without w1 (D := D) hB.2.2.2.2.1 (by omega) (fun g => vI_0 (D0 ▸ g)))
  · obtain ⟨hq1, hq2, hq3, hq4⟩ := tI_q hC (by omega) hI
    obtain ⟨K, P1, P2, P3, e1, e2, e3, e4, hX⟩ := tI_B (A := fun j => M.1 (x + 87 + j)) hC c0 (by omega) hI hB l0 (by omega)
    by_cases g : vI D a
    · obtain ⟨j, hj, rfl⟩ := vI_nat (by omega) g
      have kj : M.1 (p + 8) j = nI (K j) := by rw [v6]; exact (e1 j hj).1
      have k7 := (dV_k (e2 j hj)).2
      by_cases gk : K j = 1 ∨ K j = 4 ∨ K j = 5
      · obtain ⟨n9, hn9⟩ := nI_all (M.1 (x + 4) 8)
        have es : shQ M (x + 4) (M.1 (x + 4) 5) (M.1 (x + 4) 6) (M.1 (x + 4) 7) (qM M (x + 4) n9) = M := shQ_eta hn9
        have hp : x + 10 ≤ p := by
          have := X_pq w
          omega
        have hd : ∀ i, i < D → M.1 (p + 8) i = nI (K i) ∧ M.1 (p + 9) i = nI (P1 i) ∧ M.1 (p + 10) i = nI (P2 i) ∧ M.1 (p + 11) i = nI (P3 i) := by
          rw [v6, v7, v8, v9]
          exact e1
        have so : skO K (nI j) := fun i hi e => by
          have : i = j := nI_inj' (by omega) (by omega) e
          rw [this]
          exact gk
        have hx := q_X_without (sc := sc) (sa := sa) (d := d + 9) (z := z) (M := M) (s0 := M.1 (x + 4) 5) (l0 := M.1 (x + 4) 6) (t0 := M.1 (x + 4) 7) (q := qM M (x + 4) n9) w hp v11 hC v4 (show D ≤ 60 by omega) hd hj (by rw [kj]; exact (nI_k k7).mpr gk) (c_plV hC (by omega) (by omega) (by omega) e2 so _)
        rw [es, v12, v13] at hx
        exact tw_g h (zi_x hx ⟨rfl, kP_sh h⟩) (fun M1 w1 => q_Mo_without w1 hX hj gk (c_pmV hC (by omega) (by omega) (by omega) e2 so) (fun p9 q9 => tI_T (l := l) (t := t) hC (by omega) e2 so p9 q9))
      · exact tw_q h (n_X_without (d := d + 9) w v11 hC v4 (by omega) (fun g2 => gk (by
          have g3 := g2.2
          rw [nI_clamp (show j < 2 ^ 31 by omega), kj] at g3
          exact (nI_k k7).mp g3))) (fun M1 w1 => n_Mo_without1 w1 hX hj gk)
    · exact tw_q h (n_X_without (d := d + 9) w v11 hC v4 (by omega) (fun g2 => g g2.1)) (fun M1 w1 => n_Mo_without w1 (D := D) hB.2.2.2.2.1 (by omega) g)
