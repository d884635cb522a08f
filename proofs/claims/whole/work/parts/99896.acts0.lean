theorem tw_a {sc : Option (Nat × Nat × (Nat → Int32))} {sa : Nat → Nat} {d : Nat} {M : mz_M} {z : Nat × Nat} {x T p r : Nat} (h : iV x T p r M) {yx ym : Nat} {ax am : List Value} {v : Int32} {M1 : mz_M} {B : Nat → Int32} (hx : zx sc sa d yx ax M z z (some (.int v)) M1) (e1 : M1.2.2 = M.2.2) (e2 : ∀ a, (a < p ∨ p + 13 ≤ a) → M1.1 a = M.1 a ∧ M1.2.1 a = M.2.1 a) (hS : iS M1 p B) (hm : ∀ M1, g_Mo M1.2.2 (x + 87) → zi sc sa d ym am (moF M1 (x + 87) (M.1 (x + 87)) (fun j => M.1 (x + 87 + j))) z (mRa M1 (x + 87) (M.1 (x + 87)) (fun j => M.1 (x + 87 + j)) B v)) : tw sc sa d yx ym ax am M z (fun M2 => ∃ p r, iV x T p r M2) := by
  obtain ⟨w, wm, a1, a2, a3, a4⟩ := h
  have pq := X_pq w
  refine zi_x hx ⟨congrArg Prod.snd e1, ?_⟩
  have e : moF M1 (x + 87) (M.1 (x + 87)) (fun j => M.1 (x + 87 + j)) = M1 := moF_e2 (e2 _ (by omega)).1 (fun j _ _ => (e2 _ (by omega)).1)
  have hm2 := hm M1 (by rw [e1]; exact wm)
  rw [e] at hm2
  refine zi_m (fun v' M2 g => ?_) hm2
  obtain ⟨g1, F', A', rfl, gF, gB, gA⟩ := g
  refine ⟨g1, p, r, ?_, ?_, ?_, fun i => ?_, ?_, fun k hk => ?_⟩
  · show g_X M1.2.2 x p r
    rw [e1]
    exact w
  · show g_Mo M1.2.2 (x + 87)
    rw [e1]
    exact wm
  · exact iT_cg a1 ((moF_o (by omega)).trans (e2 _ (by omega)).1) ((moF_o (by omega)).trans (e2 _ (by omega)).1) (fun k hk => by rw [moF_g]; exact gF k hk) (by rw [moF_a (by omega) (by omega)]; exact gA 3 (by omega))
  · obtain ⟨c, c1, c2⟩ := a2 i
    exact ⟨c, c1, by rw [moF_o (by omega), (e2 _ (by omega)).1]; exact c2⟩
  · rw [moF_a (by omega) (by omega), gB]
    exact iS_cg hS (fun a h1 h2 => ⟨moF_o (by omega), rfl⟩) (fun j _ => rfl)
  · exact iK_cg hk (a4 k hk) (fun a h1 h2 => ⟨(moF_o (by omega)).trans (e2 _ (by omega)).1, (e2 _ (by omega)).2⟩) (fun j _ => by rw [moF_a (by omega) (by omega), gA 13 (by omega)]) (by rw [moF_a (by omega) (by omega), gA 14 (by omega)])
theorem act_S {M : mz_M} {p : Nat} {pr l t : Int32} {c ln T1 D : Nat} {pa ks os ts hs cs : Nat → Int32} {q : sQ} {A : Nat → Nat → Int32} {k a b e : Nat} (hC : c ≤ 12) (hN : q.1 ≤ 40) (hln : ln ≤ 500) (hT1 : T1 ≤ 30) (hT2 : T1 ≤ D) (hu : D - T1 < 30) (hB : oBB c l t pr D ln (D - T1) pa ks os ts hs (A 1)) (c0 : 0 < c) (l0 : 0 < ln) (hl : ∃ b, b ≤ 2 ∧ l = nI b) (ht : ∃ b, b ≤ 20 ∧ t = nI b) (hI : tI c l t D ks os ts hs cs q) (hd : dV c 40 k a b e q) : iS (stQ M p pr (nI ln) (nI T1) (nI D + 1) pa (va_up ks D (nI k)) (va_up os D (nI a)) (va_up ts D (nI b)) (va_up hs D (nI e)) (va_up cs D ((caQ (nI c) l t c k a b e q).2.2.2.2.2.2.2 - q.2.2.2.2.2.2)) (nI c) l t (caQ (nI c) l t c k a b e q).2) p (acA A D (nI (kmN k)) (nI a) (nI b) (nI e) (nI (D - T1) + 1) 1) := by
  obtain ⟨hq1, hq2, hq3, hq4⟩ := tI_q hC (by omega) hI
  have hk := dV_k hd
  have e9 : acA A D (nI (kmN k)) (nI a) (nI b) (nI e) (nI (D - T1) + 1) 1 = va_up (lyR (A 1) D (nI (kmN k)) (nI a) (nI b) (nI e)) 6 (nI (D - T1 + 1)) := by
    unfold acA
    rw [up_s, nI_1]
    unfold lyA
    rw [up_s]
    rfl
  rw [e9, nI_1]
  refine ⟨pr, l, t, c, ln, T1, D + 1, _, _, _, _, _, _, _, sV_st, ⟨hC, (ca_ok hq1 hq2 hC (by omega) hN hd).2.2, hln, hT1, by omega, by omega⟩, ?_, Or.inr ⟨c0, l0, hl, ht, tI_add hC (by omega) hI hd⟩⟩
  rw [show D + 1 - T1 = D - T1 + 1 by omega]
  refine oBB_D hB (by omega) ?_ up_s (fun j h5 h6 => up_n h6)
  rw [up_n (by omega), lyR_o (by omega) (by omega)]
  exact hB.2.2.2.2.2.1
theorem act_W {c : Nat} {l t : Int32} {D : Nat} {K P1 P2 P3 : Nat → Nat} {q : sQ} {k a b e : Nat} (hC : c ≤ 12) (hD : D < 60) (h2 : tW c 40 K P1 P2 P3 D) (h3 : qD 0 (cnQ c l t K P1 P2 P3 D) q) (hd : dV c 40 k a b e q) : (∀ p q0, plW l t c 40 (va_up K D k) (va_up P1 D a) (va_up P2 D b) (va_up P3 D e) (qS p (bgQ (ownR c) q0)) (D + 1)) ∧ ∀ p q0, (caQ (nI c) l t c k a b e (fo (plG (nI c) l t c (va_up K D k) (va_up P1 D a) (va_up P2 D b) (va_up P3 D e) (-1)) (qS p (bgQ (ownR c) q0)) D)).1 = (caQ (nI c) l t c k a b e q).1 := by
  obtain ⟨a1, a2, a3, a4⟩ := cn_P (l := l) (t := t) hC (by omega) h2 D (Nat.le_refl _)
  have cg : ∀ l t i, i ≤ D → cnQ c l t (va_up K D k) (va_up P1 D a) (va_up P2 D b) (va_up P3 D e) i = cnQ c l t K P1 P2 P3 i := fun l t i hi => cn_cg (fun j hj => ⟨up_n (by omega), up_n (by omega), up_n (by omega), up_n (by omega)⟩)
  have hdq : dV c 40 k a b e (cnQ c l t K P1 P2 P3 D) := dV_p (qP_s (qP_of h3.1)) (qI_e h3.1 a2) hd
  have g := qD_ca (l := l) (t := t) h3 a2 a3 hC (N := 40) (by omega) hdq
  have hW : tW c 40 (va_up K D k) (va_up P1 D a) (va_up P2 D b) (va_up P3 D e) (D + 1) := fun i hi => by
    by_cases ei : i = D
    · subst ei
      rw [cg 0 0 i (Nat.le_refl _), up_s, up_s, up_s, up_s]
      exact dV_p (qP_s a1) a2 hdq
    · rw [cg 0 0 i (by omega), up_n ei, up_n ei, up_n ei, up_n ei]
      exact h2 i (by omega)
  refine ⟨fun p q0 => c_plW hC (by omega) (by omega) (by omega) hW p q0, fun p q0 => ?_⟩
  have hb : qD p (bgQ (ownR c) qz) (qS p (bgQ (ownR c) q0)) := ⟨⟨(bg_D (q := qz) (q' := q0)).1.1, (bg_D (q := qz) (q' := q0)).1.2⟩, (Int32.zero_add p).symm⟩
  have hp := pl_D (l := l) (t := t) hC (by omega) (by omega) (by omega) hW sk_n hb D (by omega)
  have e5 : fo (plG (nI c) l t c (va_up K D k) (va_up P1 D a) (va_up P2 D b) (va_up P3 D e) (-1)) (bgQ (ownR c) qz) D = cnQ c l t K P1 P2 P3 D := cg l t D (Nat.le_refl _)
  rw [e5] at hp
  exact (qD_ca (l := l) (t := t) hp a2 a3 hC (N := 40) (by omega) hdq).1.trans g.1.symm
theorem cn_len (p : Nat → Bool) : ∀ n, cn p n ≤ n := by
  intro n
  induction n with
  | zero => exact Nat.le_refl _
  | succ n ih =>
    show cn p n + (bif p n then 1 else 0) ≤ n + 1
    cases p n
    · exact Nat.le_succ_of_le ih
    · exact Nat.succ_le_succ ih
theorem ul_df {x y : Int64} : ∀ c, ulN x y c = nI (dfN x y c) := by
  intro c
  induction c with
  | zero => exact nI_0.symm
  | succ k ih =>
    show (if nmI x (nI k) = nmI y (nI k) then ulN x y k else ulN x y k + Int32.ofInt 1) = nI (dfN x y k + (bif !decide (nmI x (nI k) = nmI y (nI k)) then 1 else 0))
    by_cases g : nmI x (nI k) = nmI y (nI k)
    · rw [if_pos g, decide_eq_true g, ih]
      rfl
    · rw [if_neg g, decide_eq_false g, ih]
      exact (nI_succ _).symm
theorem lt30 {D T1 : Nat} (h1 : T1 ≤ D) (h2 : D ≤ 60) : (nI D - nI T1 < 30) ↔ D - T1 < 30 := by
  rw [nI_sub' h1]
  exact nI_ltI (b := 30) (by omega) (by omega)
