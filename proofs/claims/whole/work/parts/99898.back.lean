theorem tw_b {sc : Option (Nat × Nat × (Nat → Int32))} {sa : Nat → Nat} {d : Nat} {M : mz_M} {z : Nat × Nat} {x T p r : Nat} (h : iV x T p r M) {yx ym : Nat} {ax am : List Value} {v : Int32} {M1 : mz_M} {B : Nat → Int32} (hx : zx sc sa d yx ax M z z (some (.int v)) M1) (e1 : M1.2.2 = M.2.2) (e2 : ∀ a, (a < p ∨ p + 13 ≤ a) → M1.1 a = M.1 a ∧ M1.2.1 a = M.2.1 a) (hS : iS M1 p B) (hm : ∀ M1, g_Mo M1.2.2 (x + 87) → zi sc sa d ym am (moF M1 (x + 87) (M.1 (x + 87)) (fun j => M.1 (x + 87 + j))) z (fun v' M2 => v' = v ∧ ∃ F' A', M2 = moF M1 (x + 87) F' A' ∧ (∀ k, k < 6 → F' k = M.1 (x + 87) k) ∧ (∀ j, j < 259 → A' 1 j = B j) ∧ ∀ j, (j = 3 ∨ j = 13 ∨ j = 14) → A' j = M.1 (x + 87 + j))) : tw sc sa d yx ym ax am M z (fun M2 => ∃ p r, iV x T p r M2) := by
  obtain ⟨w, wm, a1, a2, a3, a4⟩ := h
  have pq := X_pq w
  refine zi_x hx ⟨congrArg Prod.snd e1, ?_⟩
  have e : moF M1 (x + 87) (M.1 (x + 87)) (fun j => M.1 (x + 87 + j)) = M1 := moF_e2 (e2 _ (by omega)).1 (fun j _ _ => (e2 _ (by omega)).1)
  have hm2 := hm M1 (by rw [e1]; exact wm)
  rw [e] at hm2
  refine zi_m (fun v' M2 g => ?_) hm2
  obtain ⟨g1, F', A', rfl, gF, gB, gA⟩ := g
  refine ⟨g1, p, r, ?_, ?_, ?_, fun i => ?_, ?_, fun k hk => ?_⟩
  · show g_X M1.2.2 x p r
    rw [e1]
    exact w
  · show g_Mo M1.2.2 (x + 87)
    rw [e1]
    exact wm
  · exact iT_cg a1 ((moF_o (by omega)).trans (e2 _ (by omega)).1) ((moF_o (by omega)).trans (e2 _ (by omega)).1) (fun k hk => by rw [moF_g]; exact gF k hk) (by rw [moF_a (by omega) (by omega)]; exact gA 3 (by omega))
  · obtain ⟨c, c1, c2⟩ := a2 i
    exact ⟨c, c1, by rw [moF_o (by omega), (e2 _ (by omega)).1]; exact c2⟩
  · rw [moF_a (by omega) (by omega)]
    exact iS_cg hS (fun a h1 h2 => ⟨moF_o (by omega), rfl⟩) gB
  · exact iK_cg hk (a4 k hk) (fun a h1 h2 => ⟨(moF_o (by omega)).trans (e2 _ (by omega)).1, (e2 _ (by omega)).2⟩) (fun j _ => by rw [moF_a (by omega) (by omega), gA 13 (by omega)]) (by rw [moF_a (by omega) (by omega), gA 14 (by omega)])
theorem oBB_cp {c : Nat} {l t pr : Int32} {de ln u : Nat} {pa ks os ts hs pa' ks' os' ts' hs' B : Nat → Int32} (h : oBB c l t pr de ln u pa ks os ts hs B) (ep : ∀ i, i < 12 → pa' i = pa i) (e : ∀ i, i < de → ks' i = ks i ∧ os' i = os i ∧ ts' i = ts i ∧ hs' i = hs i) : oBB c l t pr de ln u pa' ks' os' ts' hs' B := by
  obtain ⟨h0, h1, h2, h3, h4, h5, h6, h7, h8⟩ := h
  refine ⟨h0, h1, h2, h3, h4, h5, h6, fun i hi => by rw [ep i hi]; exact h7 i hi, fun i hi => ?_⟩
  obtain ⟨g0, g1, g2, g3⟩ := e i hi
  rw [g0, g1, g2, g3]
  exact h8 i hi
theorem oBB_bk {c : Nat} {l t pr : Int32} {de ln u de' u' : Nat} {pa ks os ts hs B B' : Nat → Int32} (h : oBB c l t pr de ln u pa ks os ts hs B) (hd : de' ≤ de) (e4 : B' 4 = nI de') (e6 : B' 6 = nI u') (e : ∀ j, j ≠ 4 → j ≠ 6 → B' j = B j) : oBB c l t pr de' ln u' pa ks os ts hs B' := by
  obtain ⟨h0, h1, h2, h3, h4, h5, h6, h7, h8⟩ := h
  refine ⟨(e 0 (by omega) (by omega)).trans h0, (e 1 (by omega) (by omega)).trans h1, (e 2 (by omega) (by omega)).trans h2, (e 3 (by omega) (by omega)).trans h3, e4, (e 5 (by omega) (by omega)).trans h5, e6, fun i hi => (e _ (by omega) (by omega)).trans (h7 i hi), fun i hi => ?_⟩
  obtain ⟨g0, g1, g2, g3⟩ := h8 i (by omega)
  exact ⟨(e _ (by omega) (by omega)).trans g0, (e _ (by omega) (by omega)).trans g1, (e _ (by omega) (by omega)).trans g2, (e _ (by omega) (by omega)).trans g3⟩
theorem cpy0 {α : Type} {f g : Nat → α} {n k : Nat} (h : k < n) : va_cpy f g 0 0 n k = f k := by
  unfold va_cpy
  rw [if_pos ⟨Nat.zero_le _, by omega⟩, Nat.sub_zero, Nat.zero_add]
theorem be_S {M : mz_M} {st so : Nat} {pr l t : Int32} {c ln T1 D : Nat} {pa ks os ts hs cs : Nat → Int32} {q : sQ} {B : Nat → Int32} (hv : sV M so pr (nI ln) (nI T1) (nI D) pa ks os ts hs cs (nI c) l t q) (hw : iW c l t pr ln T1 D pa ks os ts hs cs q B) : iS (beM M st so q.1) st B := by
  obtain ⟨⟨v1, v2, v3, v4⟩, ⟨v5, v6, v7, v8, v9, v10⟩, ⟨v11, v12, v13, v14⟩, ⟨v15, v16, v17, v18, v19, v20⟩⟩ := hv
  obtain ⟨⟨hC, hN, hln, hT1, hT2, hD2⟩, hB, hw⟩ := hw
  unfold beM
  rw [v1, v2, v3, v4, v5, v6, v7, v8, v9, v10, v11, v12, v13]
  have e : ∀ i, i < D → va_cpy ks (M.1 (st + 8)) 0 0 60 i = ks i ∧ va_cpy os (M.1 (st + 9)) 0 0 60 i = os i ∧ va_cpy ts (M.1 (st + 10)) 0 0 60 i = ts i ∧ va_cpy hs (M.1 (st + 11)) 0 0 60 i = hs i ∧ va_cpy cs (M.1 (st + 12)) 0 0 60 i = cs i := fun i hi => ⟨cpy0 (by omega), cpy0 (by omega), cpy0 (by omega), cpy0 (by omega), cpy0 (by omega)⟩
  refine ⟨pr, l, t, c, ln, T1, D, _, _, _, _, _, _, _, sV_st, ⟨hC, hN, hln, hT1, hT2, hD2⟩, oBB_cp hB (fun i hi => cpy0 hi) (fun i hi => ⟨(e i hi).1, (e i hi).2.1, (e i hi).2.2.1, (e i hi).2.2.2.1⟩), ?_⟩
  rcases hw with ⟨c0, l0, D0, q0⟩ | ⟨c0, l0, hl, ht, hI⟩
  · exact Or.inl ⟨c0, l0, D0, q0⟩
  · refine Or.inr ⟨c0, l0, hl, ht, tI_cg hI e ⟨⟨rfl, fun v hv => ?_⟩, ?_⟩⟩
    · refine ⟨?_, ?_, ?_, ?_, ?_⟩
      · show va_cpy (M.2.1 (so + 2)) _ 0 0 q.1 v = _
        rw [cpy0 hv, v15]
      · show va_cpy (M.1 (so + 3)) _ 0 0 q.1 v = _
        rw [cpy0 hv, v16]
      · show va_cpy (M.1 (so + 4)) _ 0 0 q.1 v = _
        rw [cpy0 hv, v17]
      · show va_cpy (M.1 (so + 5)) _ 0 0 q.1 v = _
        rw [cpy0 hv, v18]
      · show va_cpy (M.1 (so + 6)) _ 0 0 q.1 v = _
        rw [cpy0 hv, v19]
    · show M.1 (so + 1) 9 = _
      rw [v20, Int32.add_zero]
theorem beM_o {M : mz_M} {st so n a : Nat} (h : a < st ∨ st + 13 ≤ a) : (beM M st so n).1 a = M.1 a ∧ (beM M st so n).2.1 a = M.2.1 a := ⟨stQ_o h, shP_oJ (by omega)⟩
theorem i02 {a : Int32} (h : ¬ a < 0 ∧ a ≤ 2) : ∃ i, i < 3 ∧ a = nI i := by
  obtain ⟨j, hj, rfl⟩ := nI_of2 (n := 2) (by decide) h.1 h.2
  exact ⟨j, by omega, rfl⟩
theorem c_undo {sc : Option (Nat × Nat × (Nat → Int32))} {sa : Nat → Nat} {d : Nat} {z : Nat × Nat} {x T p r : Nat} {M : mz_M} (h : iV x T p r M) : tw sc sa (d + 16) 166 288 [.ref x] [.ref (x + 87)] M z (fun M2 => ∃ p r, iV x T p r M2) := by
  obtain ⟨w, wm, iT1, tk1, ⟨pr, l, t, c, ln, T1, D, pa, ks, os, ts, hs, cs, q, ⟨⟨v1, v2, v3, v4⟩, ⟨v5, v6, v7, v8, v9, v10⟩, ⟨v11, v12, v13, v14⟩, ⟨v15, v16, v17, v18, v19, v20⟩⟩, ⟨hC, hN, hln, hT1, hT2, hD2⟩, hB, hw⟩, hK⟩ := id h
  rcases hw with ⟨c0, l0, D0, q0⟩ | ⟨c0, l0, hl, ht, hI⟩
  · have h5 : M.1 (x + 87 + 1) 5 = 0 := by rw [hB.2.2.2.2.2.1, l0, nI_0]
    refine tw_q h (v := -2) ?_ (fun M1 w1 => mr0 (n0_Mo_undo w1 h5))
    have hx := n_X_undo (sc := sc) (sa := sa) (d := d + 9) (z := z) w v11 hC (fun g => absurd g.1 (by omega))
    rw [if_neg (by omega)] at hx
    exact hx
  · obtain ⟨hq1, hq2, hq3, hq4⟩ := tI_q hC (by omega) hI
    obtain ⟨K, P1, P2, P3, e1, e2, e3, e4, hX⟩ := tI_B (A := fun j => M.1 (x + 87 + j)) hC c0 (by omega) hI hB l0 (by omega)
    have h6 : (fun j => M.1 (x + 87 + j)) 1 6 = nI (D - T1) := hB.2.2.2.2.2.2.1
    by_cases g : T1 < D
    · obtain ⟨E, rfl⟩ : ∃ E, D = E + 1 := ⟨D - 1, by omega⟩
      have hv : sV M p pr (nI ln) (nI T1) (nI (E + 1)) pa ks os ts hs cs (nI c) l t q := ⟨⟨v1, v2, v3, v4⟩, ⟨v5, v6, v7, v8, v9, v10⟩, ⟨v11, v12, v13, v14⟩, ⟨v15, v16, v17, v18, v19, v20⟩⟩
      have ev := sV_eta hv
      obtain ⟨K2, Q1, Q2, Q3, f1, f2, f3⟩ := tI_back hC (by omega) (show E ≤ E + 1 by omega) hI
      have hx := q_X_undo (sc := sc) (sa := sa) (d := d + 8) (z := z) (M := M) (D := E) (T := T1) (pr := pr) (ln := nI ln) (pa := pa) (ks := ks) (os := os) (ts := ts) (hs := hs) (cs := cs) (s := nI c) (l := l) (t := t) (q := q) w rfl hC c0 (by omega) (by omega) f1 f2
      rw [ev] at hx
      have eu : nI (E + 1 - T1) - 1 = nI (E - T1) := by rw [show E + 1 - T1 = (E - T1) + 1 by omega]; exact nI_pred _
      rw [nI_sub' (show T1 ≤ E by omega)] at hx
      refine tw_a h hx rfl (fun a ha => ⟨stQ_o ha, shP_oJ (by omega)⟩) (B := va_up (va_up (M.1 (x + 87 + 1)) 6 (nI (E + 1 - T1) - 1)) 4 (nI (E + 1) - 1)) ?_ (fun M1 w1 => ?_)
      · refine ⟨pr, l, t, c, ln, T1, E, _, _, _, _, _, _, _, sV_st, ⟨hC, (tI_q hC (by omega) f3).2.2.1, hln, hT1, by omega, by omega⟩, ?_, Or.inr ⟨c0, l0, hl, ht, f3⟩⟩
        refine oBB_bk hB (by omega) ?_ ?_ (fun j j4 j6 => by rw [up_n j4, up_n j6])
        · rw [up_s]
          exact nI_pred _
        · rw [up_n (by omega), up_s, eu]
      · have hm := q_Mo_undo (sc := sc) (sa := sa) (d := d + 14) (z := z) w1 (F := M.1 (x + 87)) (A := fun j => M.1 (x + 87 + j)) h6 hB.2.2.2.2.1 hB.2.2.2.2.2.1 l0 (by omega) (by omega) (by omega)
        rw [← eu]
        exact hm
    · have e0 : D - T1 = 0 := by omega
      have hx := n_X_undo (sc := sc) (sa := sa) (d := d + 9) (z := z) w v11 hC (fun g2 => g2.2 (by rw [v3, v4, nI_sub' hT2, e0, nI_0]))
      rw [if_pos c0] at hx
      exact tw_q h hx (fun M1 w1 => n_Mo_undo w1 h6 hB.2.2.2.2.1 hB.2.2.2.2.2.1 l0 (by omega) e0)
theorem c_anew {sc : Option (Nat × Nat × (Nat → Int32))} {sa : Nat → Nat} {d : Nat} {z : Nat × Nat} {x T p r : Nat} {M : mz_M} (h : iV x T p r M) : tw sc sa (d + 16) 167 289 [.ref x] [.ref (x + 87)] M z (fun M2 => ∃ p r, iV x T p r M2) := by
  obtain ⟨w, wm, iT1, tk1, ⟨pr, l, t, c, ln, T1, D, pa, ks, os, ts, hs, cs, q, ⟨⟨v1, v2, v3, v4⟩, ⟨v5, v6, v7, v8, v9, v10⟩, ⟨v11, v12, v13, v14⟩, ⟨v15, v16, v17, v18, v19, v20⟩⟩, ⟨hC, hN, hln, hT1, hT2, hD2⟩, hB, hw⟩, hK⟩ := id h
  rcases hw with ⟨c0, l0, D0, q0⟩ | ⟨c0, l0, hl, ht, hI⟩
  · have h5 : M.1 (x + 87 + 1) 5 = 0 := by rw [hB.2.2.2.2.2.1, l0, nI_0]
    refine tw_q h (v := -2) ?_ (fun M1 w1 => mr0 (n0_Mo_anew w1 h5))
    exact n_X_anew (d := d + 9) w v11 hC (by omega)
  · obtain ⟨hq1, hq2, hq3, hq4⟩ := tI_q hC (by omega) hI
    obtain ⟨K, P1, P2, P3, e1, e2, e3, e4, hX⟩ := tI_B (A := fun j => M.1 (x + 87 + j)) hC c0 (by omega) hI hB l0 (by omega)
    have hv : sV M p pr (nI ln) (nI T1) (nI D) pa ks os ts hs cs (nI c) l t q := ⟨⟨v1, v2, v3, v4⟩, ⟨v5, v6, v7, v8, v9, v10⟩, ⟨v11, v12, v13, v14⟩, ⟨v15, v16, v17, v18, v19, v20⟩⟩
    have ev := sV_eta hv
    have h6 : (fun j => M.1 (x + 87 + j)) 1 6 = nI (D - T1) := hB.2.2.2.2.2.2.1
    obtain ⟨K2, Q1, Q2, Q3, f1, f2, f3⟩ := tI_back hC (by omega) hT2 hI
    have hx := q_X_anew (sc := sc) (sa := sa) (d := d + 8) (z := z) (M := M) (D := D) (T := T1) (pr := pr) (ln := nI ln) (pa := pa) (ks := ks) (os := os) (ts := ts) (hs := hs) (cs := cs) (s := nI c) (l := l) (t := t) (q := q) w rfl hC c0 hT2 (by omega) f1 f2
    rw [ev, nI_sub' hT2] at hx
    refine tw_a h hx rfl (fun a ha => ⟨stQ_o ha, shP_oJ (by omega)⟩) (B := va_up (va_up (M.1 (x + 87 + 1)) 4 (nI D - nI (D - T1))) 6 0) ?_ (fun M1 w1 => q_Mo_anew w1 h6 hB.2.2.2.2.1 hB.2.2.2.2.2.1 l0 (by omega))
    refine ⟨pr, l, t, c, ln, T1, T1, _, _, _, _, _, _, _, sV_st, ⟨hC, (tI_q hC (by omega) f3).2.2.1, hln, hT1, by omega, by omega⟩, ?_, Or.inr ⟨c0, l0, hl, ht, f3⟩⟩
    refine oBB_bk hB (by omega) ?_ ?_ (fun j j4 j6 => by rw [up_n j6, up_n j4])
    · rw [up_n (by omega), up_s, nI_sub' (by omega), show D - (D - T1) = T1 by omega]
    · rw [up_s, Nat.sub_self, nI_0]
theorem c_image {sc : Option (Nat × Nat × (Nat → Int32))} {sa : Nat → Nat} {d : Nat} {z : Nat × Nat} {x T p r : Nat} {M : mz_M} (h : iV x T p r M) {a : Int32} : tw sc sa (d + 16) 164 269 [.ref x, .int a] [.ref (x + 87), .int a] M z (fun M2 => ∃ p r, iV x T p r M2) := by
  obtain ⟨w, wm, iT1, tk1, ⟨pr, l, t, c, ln, T1, D, pa, ks, os, ts, hs, cs, q, ⟨⟨v1, v2, v3, v4⟩, ⟨v5, v6, v7, v8, v9, v10⟩, ⟨v11, v12, v13, v14⟩, ⟨v15, v16, v17, v18, v19, v20⟩⟩, ⟨hC, hN, hln, hT1, hT2, hD2⟩, hB, hw⟩, hK⟩ := id h
  rcases hw with ⟨c0, l0, D0, q0⟩ | ⟨c0, l0, hl, ht, hI⟩
  · have h5 : M.1 (x + 87 + 1) 5 = 0 := by rw [hB.2.2.2.2.2.1, l0, nI_0]
    refine tw_q h (v := -2) ?_ (fun M1 w1 => mr0 (n0_Mo_image w1 h5))
    by_cases g : ¬ a < 0 ∧ a ≤ 2
    · obtain ⟨i, hi, rfl⟩ := i02 g
      exact n_X_image (d := d + 12) w v11 hC (by omega) hi
    · exact n_X_image1 (d := d + 12) w g
  · obtain ⟨hq1, hq2, hq3, hq4⟩ := tI_q hC (by omega) hI
    obtain ⟨K, P1, P2, P3, e1, e2, e3, e4, hX⟩ := tI_B (A := fun j => M.1 (x + 87 + j)) hC c0 (by omega) hI hB l0 (by omega)
    have hv : sV M p pr (nI ln) (nI T1) (nI D) pa ks os ts hs cs (nI c) l t q := ⟨⟨v1, v2, v3, v4⟩, ⟨v5, v6, v7, v8, v9, v10⟩, ⟨v11, v12, v13, v14⟩, ⟨v15, v16, v17, v18, v19, v20⟩⟩
    have ev := sV_eta hv
    by_cases g : ¬ a < 0 ∧ a ≤ 2
    · obtain ⟨i, hi, rfl⟩ := i02 g
      have pq := X_pq w
      obtain ⟨n9, hn9⟩ := nI_all (M.1 (x + 48 + 13 * i + 1) 8)
      have hx := q_X_image (sc := sc) (sa := sa) (d := d + 12) (z := z) w v11 hC c0 hi hn9 v14 hN
      have hS := be_S (st := x + 48 + 13 * i) hv ⟨⟨hC, hN, hln, hT1, hT2, hD2⟩, hB, Or.inr ⟨c0, l0, hl, ht, hI⟩⟩
      have h5c : (beM M (x + 48 + 13 * i) p q.1).1 (x + 48 + 13 * i + 1) 5 = nI c := by
        unfold beM
        rw [stS_g5, v11]
      have bo := fun a (ha : a < x + 48 + 13 * i ∨ x + 48 + 13 * i + 13 ≤ a) => beM_o (M := M) (so := p) (n := q.1) ha
      have b2 : (beM M (x + 48 + 13 * i) p q.1).2.2 = M.2.2 := rfl
      generalize beM M (x + 48 + 13 * i) p q.1 = M1 at hx hS h5c bo b2
      refine zi_x hx ⟨congrArg Prod.snd b2, ?_⟩
      have e : moF M1 (x + 87) (M.1 (x + 87)) (fun j => M.1 (x + 87 + j)) = M1 := moF_e2 (bo _ (by omega)).1 (fun j _ _ => (bo _ (by omega)).1)
      have hm := q_Mo_image (sc := sc) (sa := sa) (d := d + 14) (z := z) (M := M1) (m := x + 87) (by rw [b2]; exact wm) (F := M.1 (x + 87)) (A := fun j => M.1 (x + 87 + j)) hB.2.2.2.2.2.1 l0 (by omega) hi
      rw [e] at hm
      refine zi_m (fun v' M2 g => ?_) hm
      obtain ⟨g1, A', rfl, gA, gR, gO, gI⟩ := g
      refine ⟨g1, p, r, ?_, ?_, ?_, fun j => ?_, ?_, fun k hk => ?_⟩
      · show g_X M1.2.2 x p r
        rw [b2]
        exact w
      · show g_Mo M1.2.2 (x + 87)
        rw [b2]
        exact wm
      · exact iT_cg iT1 ((moF_o (by omega)).trans (bo _ (by omega)).1) ((moF_o (by omega)).trans (bo _ (by omega)).1) (fun k hk => by rw [moF_g]) (by rw [moF_a (by omega) (by omega)]; exact gA 3 (by omega))
      · obtain ⟨c9, c1, c2⟩ := tk1 j
        exact ⟨c9, c1, by rw [moF_o (by omega), (bo _ (by omega)).1]; exact c2⟩
      · rw [moF_a (by omega) (by omega), gA 1 (by omega)]
        exact iS_cg h.2.2.2.2.1 (fun a h1 h2 => ⟨(moF_o (by omega)).trans (bo _ (by omega)).1, (bo _ (by omega)).2⟩) (fun j _ => rfl)
      · by_cases ek : k = i
        · subst ek
          refine Or.inr ⟨?_, ?_, ?_⟩
          · rw [moF_a (by omega) (by omega), gI, up_s]
            decide
          · rw [moF_o (by omega), h5c]
            exact nI_0n c0 (by omega)
          · refine iS_cg hS (fun a h1 h2 => ⟨moF_o (by omega), rfl⟩) (fun j hj => ?_)
            rw [moF_a (by omega) (by omega)]
            exact gR j hj
        · have hk9 := hK k hk
          have e13 : ∀ j, j < 259 → A' 13 (259 * k + j) = M.1 (x + 87 + 13) (259 * k + j) := fun j hj => gO _ (by omega)
          have e14 : A' 14 k = M.1 (x + 87 + 14) k := by rw [gI, up_n ek]
          have ea : ∀ a, x + 48 + 13 * k ≤ a → a ≤ x + 48 + 13 * k + 12 → (moF M1 (x + 87) (M.1 (x + 87)) A').1 a = M.1 a ∧ (moF M1 (x + 87) (M.1 (x + 87)) A').2.1 a = M.2.1 a := fun a h1 h2 => ⟨(moF_o (by omega)).trans (bo _ (by omega)).1, (bo _ (by omega)).2⟩
          rcases hk9 with hk9 | ⟨hk1, hk2, hk3⟩
          · refine Or.inl ⟨?_, ?_⟩
            · rw [moF_a (by omega) (by omega), e14]
              exact hk9.1
            · rw [(ea _ (by omega) (by omega)).1]
              exact hk9.2
          · refine Or.inr ⟨?_, ?_, iS_cg hk3 ea (fun j hj => ?_)⟩
            · rw [moF_a (by omega) (by omega), e14]
              exact hk1
            · rw [(ea _ (by omega) (by omega)).1]
              exact hk2
            · rw [moF_a (by omega) (by omega)]
              exact e13 j hj
    · exact tw_q h (n_X_image1 (d := d + 12) w g) (fun M1 w1 => n_Mo_image w1 hB.2.2.2.2.2.1 l0 (by omega) g)
theorem c_back {sc : Option (Nat × Nat × (Nat → Int32))} {sa : Nat → Nat} {d : Nat} {z : Nat × Nat} {x T p r : Nat} {M : mz_M} (h : iV x T p r M) {a : Int32} : tw sc sa (d + 16) 165 270 [.ref x, .int a] [.ref (x + 87), .int a] M z (fun M2 => ∃ p r, iV x T p r M2) := by
  obtain ⟨w, wm, iT1, tk1, hS0, hK⟩ := id h
  by_cases g : ¬ a < 0 ∧ a ≤ 2
  · obtain ⟨i, hi, rfl⟩ := i02 g
    have pq := X_pq w
    rcases hK i hi with ⟨h1, h2⟩ | ⟨h1, h2, pr, l, t, c, ln, T1, D, pa, ks, os, ts, hs, cs, q, hv, hw⟩
    · exact tw_q h (n_X_back (d := d + 12) w hi h2) (fun M1 w1 => n_Mo_back6 w1 hi h1)
    · obtain ⟨n9, hn9⟩ := nI_all (M.1 (p + 1) 8)
      have hc5 : M.1 (x + 48 + 13 * i + 1) 5 = nI c := hv.2.2.1.1
      have c0 : 0 < c := by
        rcases Nat.eq_zero_or_pos c with e | e
        · rw [hc5, e, nI_0] at h2
          exact absurd rfl h2
        · exact e
      have hx := q_X_back (sc := sc) (sa := sa) (d := d + 12) (z := z) w hi hv.2.2.1.2.2.2 hw.1.2.1 hn9 hc5 c0 hw.1.1
      have hS := be_S (st := p) hv hw
      refine tw_b h hx rfl (fun a ha => beM_o ha) hS (fun M1 w1 => ?_)
      refine zi_m (fun v' M2 g => ?_) (q_Mo_back w1 hi h1)
      obtain ⟨g1, R, g2, g3⟩ := g
      exact ⟨g1, _, _, g2, fun _ _ => rfl, fun j hj => by rw [up_s]; exact g3 j hj, fun j hj => by rw [up_n (by omega)]⟩
  · exact tw_q h (n_X_back1 (d := d + 12) w g) (fun M1 w1 => n_Mo_back w1 g)
