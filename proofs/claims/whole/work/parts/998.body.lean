theorem wk_n8 {sg : Nat → Int32} {t : Nat} {s : tS} (h : ¬ wq sg t s 0 = true) : ¬ wkS sg t s = 8 := by
  unfold wkS
  rw [if_neg h]
  split
  · decide
  · split
    · decide
    · split
      · decide
      · split
        · decide
        · split
          · decide
          · split
            · decide
            · decide
theorem nI_inj' {a b : Nat} (ha : a < 2 ^ 31) (hb : b < 2 ^ 31) (h : nI a = nI b) : a = b := by
  have := congrArg Int32.toInt h
  rw [nI_toInt ha, nI_toInt hb] at this
  omega
theorem ot_t {k pr : Int32} {de n : Nat} (h9 : ¬ k = 9) (hd : de ≤ 30) (hn : n ≤ 20) (h : otB k pr (nI de) (nI n) = true) : nI de = 30 ∨ ((k = 2 ∨ k = 3) ∧ nI n = 20) := by
  obtain ⟨-, g⟩ := of_decide_eq_true h
  rcases g with ⟨g, -⟩ | ⟨-, g⟩
  · exact absurd g h9
  · rcases g with g | ⟨g1, g2⟩
    · left
      have e := Int32.le_iff_toInt_le.mp g
      rw [nI_toInt (by omega)] at e
      have e3 : (30 : Int32).toInt = 30 := rfl
      rw [show de = 30 by omega]
      rfl
    · right
      refine ⟨g1, ?_⟩
      have e := Int32.le_iff_toInt_le.mp (Int32.not_lt.mp g2)
      rw [nI_toInt (by omega)] at e
      have e3 : (20 : Int32).toInt = 20 := rfl
      rw [show n = 20 by omega]
      rfl
theorem h1_n {k : Int32} {ln : Nat} (hn : ¬ nI ln = 0) (h0 : ¬ k = 0) (h8 : ¬ k = 8) : ¬ (k = 0 ∨ ¬ (nI ln = 0 ↔ k = 8)) := fun h => h.elim h0 (fun g => g ⟨fun z => absurd z hn, fun z => absurd z h8⟩)
theorem l_Mo_bodyS {sc : Option (Nat × Nat × (Nat → Int32))} {sa : Nat → Nat} {d : Nat} {M : mz_M} {z : Nat × Nat} {m : Nat} (w : g_Mo M.2.2 m) {F : Nat → Int32} {A : Nat → Nat → Int32} {sg : Nat → Int32} {T : Nat} (ht : T ≤ 500) (h3 : F 3 = nI T) (hA : ∀ i, i < T → A 3 i = bt sg T i) {e : rS} (hk : okr T e) (hgd : gd e) {Q : mz_P} {s : tS} {a6 a7 a8 a9 : Int32} {pr : Int32} {ln : Nat} {td : Int32} {de : Nat} {pa ks os ts hs cs : Nat → Int32} {c : Nat} {l t : Int32} {q : sQ} (hV : oV T ((s, (a6, a7, a8, a9), (pr, ln, td, de), (pa, ks, os, ts, hs, cs), (c, l, t), q) : oS)) (hl : ln ≤ 499) (hs0 : s.2.2.2.2.1 = 0) (hR : tR s e) (hB : oBB c l t pr de ln 0 pa ks os ts hs (A 1)) (l0 : ln = 0) (hk2 : ∀ F' A' e', oFr F A F' A' → tR (lnS sg T q.1 c q.2.2.1 q.2.1 pa pr (nI ln) (nI de) s).2.2.2.2 e' → okg T e' → ((lnS sg T q.1 c q.2.2.1 q.2.1 pa pr (nI ln) (nI de) s).2.2.2.2.2.2.2.2.1 = 0 → oB (oT (oA ((s, (a6, a7, a8, a9), (pr, ln, td, de), (pa, ks, os, ts, hs, cs), (c, l, t), q) : oS) (lnS sg T q.1 c q.2.2.1 q.2.1 pa pr (nI ln) (nI de) s))) (A' 1)) → zw sc sa (d + 11) ym_Mo_store z Q 58 [.ref m, .int (nI 259)] [] (rq M m F' A' e') z) : zw sc sa (d + 11) ym_Mo_store z Q 72 [.ref m, .int (nI 259)] [] (rq M m F A e) z := by
  obtain ⟨hv1, ⟨np, hnp, hpr⟩, hv3, hv4, hv5⟩ := hV
  dsimp only at hv1 hpr hv3 hv4 hv5
  have hst : ln = 0 ∨ (0 < ln ∧ 1 ≤ c ∧ c ≤ 12 ∧ 1 ≤ q.1 ∧ q.1 ≤ 20) := by
    rcases hv5 with ⟨g1, -⟩ | ⟨g1, g2, g3, g4, g5, g6, g7⟩
    · exact Or.inl g1
    · exact Or.inr ⟨g1, g2, g3, (tI_q g3 (by omega) g7).1.1, g6⟩
  have lc := fun h => ln_cases (sg := sg) (q := q) (c := c) (pa := pa) (pr := pr) (s := s) hv1 (show ln ≤ 500 by omega) hv4 hst h
  obtain ⟨b0, b1, b2, b3, b4, b5, b6, b7, b8⟩ := id hB
  have b5' : A 1 5 = 0 := by rw [b5, l0]; rfl
  by_cases hw : wq sg T s 0 = true
  · have k8 : wkS sg T s = 8 := by unfold wkS; rw [if_pos hw]
    have h1 : ¬ (wkS sg T s = 0 ∨ ¬ (nI ln = 0 ↔ wkS sg T s = 8)) := by rw [k8, l0]; decide
    have h2 : ¬ otB (wkS sg T s) pr (nI de) (nI q.1) = true := by
      rw [k8]
      intro h
      exact absurd rfl (of_decide_eq_true h).1
    have eL : (lnS sg T q.1 c q.2.2.1 q.2.1 pa pr (nI ln) (nI de) s) = (8, (u1 sg T (tokS sg T s)).1, (u2 sg T (tokS sg T s)).1, (u3 sg T (tokS sg T s)).1, tsS sg T (u3 sg T (tokS sg T s)).2) := by
      rw [lnS_d h1 h2, nuS_s k8, k8]
    rw [eL] at hk2 lc
    dsimp only at hk2 lc
    have r1 := R_st (sg := sg) (t := T) hR hs0 hw
    refine l_Mo_lineS w ht h3 hA hk hgd b5' (R_ts r1.1) (fun A' e' f1 f2 f3 f4 => hk2 F A' e' f1 f2 f3 (fun hf => ?_))
    obtain ⟨t1, -, -⟩ := ts_in hf
    obtain ⟨x1, x2, x3⟩ := r1.2 t1
    have f5 := f4 ((tR_i f2).mpr hf)
    obtain ⟨-, k⟩ := lc hf
    rcases k with ⟨-, -, a, b, ee, a1, a2, c2, e2, g1, g2, g3⟩ | ⟨l1, -⟩ | ⟨l1, -⟩
    · rw [x1, x2, x3] at f5
      rw [g1, g2, g3] at f5 ⊢
      rw [oT8 a2, f5]
      show oBB a (nI b) (nI ee) pr de (ln + 1) 0 pa ks os ts hs _
      rcases hv5 with ⟨g1, g2, g3, g4, g5, g6, g7, g8⟩ | ⟨g1, -⟩
      · rw [l0, g5] at hB ⊢
        exact oBB_8 hB
      · omega
    · omega
    · omega
  · have k8 : ¬ wkS sg T s = 8 := wk_n8 hw
    have h1 : wkS sg T s = 0 ∨ ¬ (nI ln = 0 ↔ wkS sg T s = 8) := Or.inr (fun e => k8 (e.mp (by rw [l0]; rfl)))
    rw [lnS_r h1] at hk2
    dsimp only at hk2
    exact l_Mo_lineS w ht h3 hA hk hgd b5' (R_tsb (refS_f (by decide)) (R_sn hR hs0 hw)) (fun A' e' f1 f2 f3 _ => hk2 F A' e' f1 f2 f3 (fun hf => absurd hf (refS_f (by decide))))
theorem l_Mo_bodyP {sc : Option (Nat × Nat × (Nat → Int32))} {sa : Nat → Nat} {d : Nat} {M : mz_M} {z : Nat × Nat} {m : Nat} (w : g_Mo M.2.2 m) {F : Nat → Int32} {A : Nat → Nat → Int32} {sg : Nat → Int32} {T : Nat} (ht : T ≤ 500) (h3 : F 3 = nI T) (hA : ∀ i, i < T → A 3 i = bt sg T i) {e : rS} (hk : okr T e) (hgd : gd e) {Q : mz_P} {s : tS} {a6 a7 a8 a9 : Int32} {pr : Int32} {ln : Nat} {td : Int32} {de : Nat} {pa ks os ts hs cs : Nat → Int32} {c : Nat} {l t : Int32} {q : sQ} (hV : oV T ((s, (a6, a7, a8, a9), (pr, ln, td, de), (pa, ks, os, ts, hs, cs), (c, l, t), q) : oS)) (hl : ln ≤ 499) (hs0 : s.2.2.2.2.1 = 0) (hR : tR s e) (hB : oBB c l t pr de ln 0 pa ks os ts hs (A 1)) (l0 : ¬ ln = 0) (hw0 : ¬ wq sg T s 0 = true) (hp : wq sg T s 1 = true) (hk2 : ∀ F' A' e', oFr F A F' A' → tR (lnS sg T q.1 c q.2.2.1 q.2.1 pa pr (nI ln) (nI de) s).2.2.2.2 e' → okg T e' → ((lnS sg T q.1 c q.2.2.1 q.2.1 pa pr (nI ln) (nI de) s).2.2.2.2.2.2.2.2.1 = 0 → oB (oT (oA ((s, (a6, a7, a8, a9), (pr, ln, td, de), (pa, ks, os, ts, hs, cs), (c, l, t), q) : oS) (lnS sg T q.1 c q.2.2.1 q.2.1 pa pr (nI ln) (nI de) s))) (A' 1)) → zw sc sa (d + 11) ym_Mo_store z Q 58 [.ref m, .int (nI 259)] [] (rq M m F' A' e') z) : zw sc sa (d + 11) ym_Mo_store z Q 72 [.ref m, .int (nI 259)] [] (rq M m F A e) z := by
  obtain ⟨hv1, ⟨np, hnp, hpr⟩, hv3, hv4, hv5⟩ := hV
  dsimp only at hv1 hpr hv3 hv4 hv5
  have hst : ln = 0 ∨ (0 < ln ∧ 1 ≤ c ∧ c ≤ 12 ∧ 1 ≤ q.1 ∧ q.1 ≤ 20) := by
    rcases hv5 with ⟨g1, -⟩ | ⟨g1, g2, g3, g4, g5, g6, g7⟩
    · exact Or.inl g1
    · exact Or.inr ⟨g1, g2, g3, (tI_q g3 (by omega) g7).1.1, g6⟩
  have lc := fun h => ln_cases (sg := sg) (q := q) (c := c) (pa := pa) (pr := pr) (s := s) hv1 (show ln ≤ 500 by omega) hv4 hst h
  obtain ⟨b0, b1, b2, b3, b4, b5, b6, b7, b8⟩ := id hB
  obtain ⟨l1, c1, c2, hl3, ht3, q20, tl⟩ := hv5.resolve_left (fun g => l0 g.1)
  have hn : ¬ nI ln = 0 := nI_0n l1 (by omega)
  have hw1 : wR sg T e 1 = wq sg T s 1 := R_w hR hs0
  obtain ⟨q1, q2, q3, q4⟩ := tI_q c2 (by omega) tl
  have k9 : wkS sg T s = 9 := by unfold wkS; rw [if_neg hw0, if_pos hp]
  have h1 : ¬ (wkS sg T s = 0 ∨ ¬ (nI ln = 0 ↔ wkS sg T s = 8)) := by rw [k9]; exact h1_n hn (by decide) (by decide)
  by_cases h16 : np = 16
  · have h2 : otB (wkS sg T s) pr (nI de) (nI q.1) = true := by
      rw [k9, hpr, h16]
      exact decide_eq_true ⟨by decide, Or.inl ⟨rfl, by decide⟩⟩
    have hb := rFa_n (e := e) (k := 3)
    rw [lnS_m h1 h2] at hk2
    dsimp only at hk2
    refine l_Mo_lineP w ht h3 hA hk hgd b0 c1 c2 b5 l1 (by omega) (hw1.trans hp) (s' := refS s 3 (nI s.2.1)) ?_ (fun A' e' f1 f2 f3 _ => hk2 F A' e' f1 f2 f3 (fun hf => absurd hf (refS_f (by decide))))
    rw [if_pos (show A 1 3 = 16 by rw [b3, hpr, h16]; rfl)]
    simp only [rPa_b hb, rNu_b hb, rNe_b hb]
    exact R_tsb (refS_f (by decide)) (R_ref hR (by decide))
  · have hn16 : ¬ A 1 3 = 16 := by
      rw [b3, hpr]
      exact fun h => h16 (nI_inj' (b := 16) (by omega) (by omega) h)
    have h2 : ¬ otB (wkS sg T s) pr (nI de) (nI q.1) = true := by
      rw [k9, hpr]
      intro h
      rcases (of_decide_eq_true h).2 with ⟨-, g⟩ | ⟨g, -⟩
      · exact g ((nI_ltI (b := 16) (by omega) (by omega)).mpr (by omega))
      · exact g rfl
    have eL : (lnS sg T q.1 c q.2.2.1 q.2.1 pa pr (nI ln) (nI de) s) = (9, (w1 sg T (nI c) (tokS sg T s)).1, (w2 sg T (nI c) (tokS sg T s)).1, 0, tsS sg T (w3 sg T (nI c) pa (tokS sg T s))) := by
      rw [lnS_d h1 h2, nuS_p (by rw [k9]; decide) k9, k9]
    rw [eL] at hk2 lc
    dsimp only at hk2 lc
    have rp := R_pr (sg := sg) (t := T) (PP := pa) c1 c2 (R_hb c2 (fun i hi => b7 i (by omega))) (R_p1 (sg := sg) (t := T) hR hs0)
    have rp1 := R_ts (sg := sg) (t := T) rp.1
    refine l_Mo_lineP w ht h3 hA hk hgd b0 c1 c2 b5 l1 (by omega) (hw1.trans hp) (s' := tsS sg T (w3 sg T (nI c) pa (tokS sg T s))) (by rw [if_neg hn16]; exact rp1) (fun A' e' f1 f2 f3 f4 => hk2 F A' e' f1 f2 f3 (fun hf => ?_))
    rw [if_neg hn16] at f4
    obtain ⟨t1, -, -⟩ := ts_in hf
    obtain ⟨i, j, hi, hj, y1, y2, y3⟩ := f4 ((tR_i rp.1).mpr t1)
    have z2 := rp.2.1 t1
    have fw2 : (w2 sg T (nI c) (tokS sg T s)).2.2.2.2.2.1 = 0 := by
      unfold w3 at t1
      split at t1
      · exact absurd t1 (refS_f (by decide))
      · exact t1
    have gw2 : w2 sg T (nI c) (tokS sg T s) = tnS sg T (w1 sg T (nI c) (tokS sg T s)).2 0 (nI c - 1) := rfl
    rw [gw2] at fw2
    have z1 := rp.2.2 (tnS_in fw2).1
    obtain ⟨-, k⟩ := lc hf
    rcases k with ⟨k, -⟩ | ⟨-, -, -, a, b, ha, hb, g1, g2⟩ | ⟨-, -, kk, a, b, ee, g0, -, -, -, -, -, -, -, hk5, -⟩
    · exact absurd k l0
    · rw [z1, g1] at y1
      rw [z2, g2] at y2
      have ea := nI_inj' (by omega) (by omega) y1
      have eb := nI_inj' (by omega) (by omega) y2
      subst ea
      subst eb
      rw [g1, g2, oT9 (by omega) (by omega), y3]
      exact oBB_9 hB (by omega) (by omega)
    · have := nI_inj' (a := 9) (b := kk) (by omega) (by omega) g0
      omega
theorem l_Mo_bodyN {sc : Option (Nat × Nat × (Nat → Int32))} {sa : Nat → Nat} {d : Nat} {M : mz_M} {z : Nat × Nat} {m : Nat} (w : g_Mo M.2.2 m) {F : Nat → Int32} {A : Nat → Nat → Int32} {sg : Nat → Int32} {T : Nat} (ht : T ≤ 500) (h3 : F 3 = nI T) (hA : ∀ i, i < T → A 3 i = bt sg T i) {e : rS} (hk : okr T e) (hgd : gd e) {Q : mz_P} {s : tS} {a6 a7 a8 a9 : Int32} {pr : Int32} {ln : Nat} {td : Int32} {de : Nat} {pa ks os ts hs cs : Nat → Int32} {c : Nat} {l t : Int32} {q : sQ} (hV : oV T ((s, (a6, a7, a8, a9), (pr, ln, td, de), (pa, ks, os, ts, hs, cs), (c, l, t), q) : oS)) (hl : ln ≤ 499) (hs0 : s.2.2.2.2.1 = 0) (hR : tR s e) (hB : oBB c l t pr de ln 0 pa ks os ts hs (A 1)) (l0 : ¬ ln = 0) (hn1 : ¬ wq sg T s 1 = true) (hkh : khR sg T e = -1) (hbad : wkS sg T s = 0 ∨ wkS sg T s = 8) (hk2 : ∀ F' A' e', oFr F A F' A' → tR (lnS sg T q.1 c q.2.2.1 q.2.1 pa pr (nI ln) (nI de) s).2.2.2.2 e' → okg T e' → ((lnS sg T q.1 c q.2.2.1 q.2.1 pa pr (nI ln) (nI de) s).2.2.2.2.2.2.2.2.1 = 0 → oB (oT (oA ((s, (a6, a7, a8, a9), (pr, ln, td, de), (pa, ks, os, ts, hs, cs), (c, l, t), q) : oS) (lnS sg T q.1 c q.2.2.1 q.2.1 pa pr (nI ln) (nI de) s))) (A' 1)) → zw sc sa (d + 11) ym_Mo_store z Q 58 [.ref m, .int (nI 259)] [] (rq M m F' A' e') z) : zw sc sa (d + 11) ym_Mo_store z Q 72 [.ref m, .int (nI 259)] [] (rq M m F A e) z := by
  obtain ⟨hv1, ⟨np, hnp, hpr⟩, hv3, hv4, hv5⟩ := hV
  dsimp only at hv1 hpr hv3 hv4 hv5
  have hst : ln = 0 ∨ (0 < ln ∧ 1 ≤ c ∧ c ≤ 12 ∧ 1 ≤ q.1 ∧ q.1 ≤ 20) := by
    rcases hv5 with ⟨g1, -⟩ | ⟨g1, g2, g3, g4, g5, g6, g7⟩
    · exact Or.inl g1
    · exact Or.inr ⟨g1, g2, g3, (tI_q g3 (by omega) g7).1.1, g6⟩
  have lc := fun h => ln_cases (sg := sg) (q := q) (c := c) (pa := pa) (pr := pr) (s := s) hv1 (show ln ≤ 500 by omega) hv4 hst h
  obtain ⟨b0, b1, b2, b3, b4, b5, b6, b7, b8⟩ := id hB
  obtain ⟨l1, c1, c2, hl3, ht3, q20, tl⟩ := hv5.resolve_left (fun g => l0 g.1)
  have hn : ¬ nI ln = 0 := nI_0n l1 (by omega)
  have hw1 : wR sg T e 1 = wq sg T s 1 := R_w hR hs0
  obtain ⟨q1, q2, q3, q4⟩ := tI_q c2 (by omega) tl
  have h1 : wkS sg T s = 0 ∨ ¬ (nI ln = 0 ↔ wkS sg T s = 8) := hbad.elim Or.inl (fun g => Or.inr (fun e => hn (e.mpr g)))
  rw [lnS_r h1] at hk2
  dsimp only at hk2
  exact l_Mo_lineN w ht h3 hA hk hgd b5 l1 (by omega) (by rw [hw1]; exact hn1) hkh (R_tsb (refS_f (by decide)) (R_ref hR (by decide))) (fun A' e' f1 f2 f3 => hk2 F A' e' f1 f2 f3 (fun hf => absurd hf (refS_f (by decide))))
theorem l_Mo_bodyD1 {sc : Option (Nat × Nat × (Nat → Int32))} {sa : Nat → Nat} {d : Nat} {M : mz_M} {z : Nat × Nat} {m : Nat} (w : g_Mo M.2.2 m) {F : Nat → Int32} {A : Nat → Nat → Int32} {sg : Nat → Int32} {T : Nat} (ht : T ≤ 500) (h3 : F 3 = nI T) (hA : ∀ i, i < T → A 3 i = bt sg T i) {e : rS} (hk : okr T e) (hgd : gd e) {Q : mz_P} {s : tS} {a6 a7 a8 a9 : Int32} {pr : Int32} {ln : Nat} {td : Int32} {de : Nat} {pa ks os ts hs cs : Nat → Int32} {c : Nat} {l t : Int32} {q : sQ} (hV : oV T ((s, (a6, a7, a8, a9), (pr, ln, td, de), (pa, ks, os, ts, hs, cs), (c, l, t), q) : oS)) (hl : ln ≤ 499) (hs0 : s.2.2.2.2.1 = 0) (hR : tR s e) (hB : oBB c l t pr de ln 0 pa ks os ts hs (A 1)) (l0 : ¬ ln = 0) (hn1 : ¬ wq sg T s 1 = true) (hkh : khR sg T e = 2) (kw : wkS sg T s = 1) (hk2 : ∀ F' A' e', oFr F A F' A' → tR (lnS sg T q.1 c q.2.2.1 q.2.1 pa pr (nI ln) (nI de) s).2.2.2.2 e' → okg T e' → ((lnS sg T q.1 c q.2.2.1 q.2.1 pa pr (nI ln) (nI de) s).2.2.2.2.2.2.2.2.1 = 0 → oB (oT (oA ((s, (a6, a7, a8, a9), (pr, ln, td, de), (pa, ks, os, ts, hs, cs), (c, l, t), q) : oS) (lnS sg T q.1 c q.2.2.1 q.2.1 pa pr (nI ln) (nI de) s))) (A' 1)) → zw sc sa (d + 11) ym_Mo_store z Q 58 [.ref m, .int (nI 259)] [] (rq M m F' A' e') z) : zw sc sa (d + 11) ym_Mo_store z Q 72 [.ref m, .int (nI 259)] [] (rq M m F A e) z := by
  obtain ⟨hv1, ⟨np, hnp, hpr⟩, hv3, hv4, hv5⟩ := hV
  dsimp only at hv1 hpr hv3 hv4 hv5
  have hst : ln = 0 ∨ (0 < ln ∧ 1 ≤ c ∧ c ≤ 12 ∧ 1 ≤ q.1 ∧ q.1 ≤ 20) := by
    rcases hv5 with ⟨g1, -⟩ | ⟨g1, g2, g3, g4, g5, g6, g7⟩
    · exact Or.inl g1
    · exact Or.inr ⟨g1, g2, g3, (tI_q g3 (by omega) g7).1.1, g6⟩
  have lc := fun h => ln_cases (sg := sg) (q := q) (c := c) (pa := pa) (pr := pr) (s := s) hv1 (show ln ≤ 500 by omega) hv4 hst h
  obtain ⟨b0, b1, b2, b3, b4, b5, b6, b7, b8⟩ := id hB
  obtain ⟨l1, c1, c2, hl3, ht3, q20, tl⟩ := hv5.resolve_left (fun g => l0 g.1)
  have hn : ¬ nI ln = 0 := nI_0n l1 (by omega)
  have hw1 : wR sg T e 1 = wq sg T s 1 := R_w hR hs0
  obtain ⟨q1, q2, q3, q4⟩ := tI_q c2 (by omega) tl
  have h1 : ¬ (wkS sg T s = 0 ∨ ¬ (nI ln = 0 ↔ wkS sg T s = 8)) := by rw [kw]; exact h1_n hn (by decide) (by decide)
  obtain ⟨K, P1, P2, P3, m1, m2, m3, m4, hX⟩ := tI_B c2 c1 (by omega) tl hB l1 (by omega)
  by_cases ho : otB (wkS sg T s) pr (nI de) (nI q.1) = true
  · have ct := ot_t (by rw [kw]; decide) hv4 q20 ho
    have hc9 : nI de = 30 := ct.elim id (fun g => absurd g.1 (by rw [kw]; decide))
    have hb := rFa_n (e := e) (k := 3)
    rw [lnS_m h1 ho] at hk2
    dsimp only at hk2
    refine l_Mo_line2 w ht h3 hA hk hgd b5 l1 (by omega) (by rw [hw1]; exact hn1) hkh hX (by omega) (s' := refS s 3 (nI s.2.1)) ?_ (fun F' A' e' f1 f2 f3 _ => hk2 F' A' e' f1 f2 f3 (fun hf => absurd hf (refS_f (by decide))))
    rw [if_pos hc9]
    simp only [rPa_b hb, rNu_b hb, rNe_b hb]
    exact R_tsb (refS_f (by decide)) (R_ref hR (by decide))
  · obtain ⟨d1, d2⟩ := ot_d (by rw [kw]; decide) (by rw [kw]; decide) hv4 ho (show q.1 ≤ 1000 by omega)
    have hc9 : ¬ (nI de = 30) := fun g => by have := nI_inj' (b := 30) (by omega) (by omega) g; omega
    have eL : (lnS sg T q.1 c q.2.2.1 q.2.1 pa pr (nI ln) (nI de) s) = (1, (v1 sg T (nI q.1) (tokS sg T s)).1, (v2 sg T (nI q.1) (nI c) (tokS sg T s)).1, 0, tsS sg T (v2 sg T (nI q.1) (nI c) (tokS sg T s)).2) := by
      rw [lnS_d h1 ho, nuS_d (by rw [kw]; decide) (by rw [kw]; decide)]
      unfold vS
      rw [if_neg (by rw [kw]; decide), if_neg (by rw [kw]; decide), kw]
    rw [eL] at hk2 lc
    dsimp only at hk2 lc
    have rd := R_d2 (sg := sg) (t := T) (n := q.1) (c := c) q1.1 (by omega) c1 c2 (R_p1 (sg := sg) (t := T) hR hs0)
    have rd1 := R_ts (sg := sg) (t := T) rd.1
    refine l_Mo_line2 w ht h3 hA hk hgd b5 l1 (by omega) (by rw [hw1]; exact hn1) hkh hX (by omega) (s' := tsS sg T (v2 sg T (nI q.1) (nI c) (tokS sg T s)).2) (by rw [if_neg hc9]; exact rd1) (fun F' A' e' f1 f2 f3 f4 => hk2 F' A' e' f1 f2 f3 (fun hf => ?_))
    rw [if_neg hc9] at f4
    obtain ⟨t1, -, -⟩ := ts_in hf
    have f5 := f4 ((tR_i rd.1).mpr t1)
    obtain ⟨z1, z2⟩ := rd.2 t1
    rw [z1, z2] at f5
    obtain ⟨-, k⟩ := lc hf
    rcases k with ⟨k, -⟩ | ⟨-, k, -⟩ | ⟨-, -, k', a, b, ee, g0, g1, g2, g3, x1, x2, x3, hk4, hk5, -, -⟩
    · exact absurd k l0
    · exact absurd k (by decide)
    · have ek : 1 = k' := nI_inj' (a := 1) (by omega) (by omega) g0
      subst ek
      generalize (tsS sg T (v2 sg T (nI q.1) (nI c) (tokS sg T s)).2) = S9
      have e3 : ee = 0 := nI_inj' (b := 0) (by omega) (by omega) g3.symm
      subst e3
      rw [g1, g2] at f5 ⊢
      rw [show oT (oA ((s, (a6, a7, a8, a9), (pr, ln, td, de), (pa, ks, os, ts, hs, cs), (c, l, t), q) : oS) ((1, nI a, nI b, 0, S9) : Int32 × Int32 × Int32 × Int32 × tS)) = _ from oTD (kk := 1) (by omega) x1 x2 x3]
      refine oBB_D hB (kk := 1) (by omega) (by rw [f5, up_s, b5]; exact (nI_succ ln).symm) (by rw [f5, up_n (by omega), lyR_o (by omega) (by omega)]; exact b6) (fun j j1 j2 => by rw [f5, up_n j1]; rfl)
theorem l_Mo_bodyD2 {sc : Option (Nat × Nat × (Nat → Int32))} {sa : Nat → Nat} {d : Nat} {M : mz_M} {z : Nat × Nat} {m : Nat} (w : g_Mo M.2.2 m) {F : Nat → Int32} {A : Nat → Nat → Int32} {sg : Nat → Int32} {T : Nat} (ht : T ≤ 500) (h3 : F 3 = nI T) (hA : ∀ i, i < T → A 3 i = bt sg T i) {e : rS} (hk : okr T e) (hgd : gd e) {Q : mz_P} {s : tS} {a6 a7 a8 a9 : Int32} {pr : Int32} {ln : Nat} {td : Int32} {de : Nat} {pa ks os ts hs cs : Nat → Int32} {c : Nat} {l t : Int32} {q : sQ} (hV : oV T ((s, (a6, a7, a8, a9), (pr, ln, td, de), (pa, ks, os, ts, hs, cs), (c, l, t), q) : oS)) (hl : ln ≤ 499) (hs0 : s.2.2.2.2.1 = 0) (hR : tR s e) (hB : oBB c l t pr de ln 0 pa ks os ts hs (A 1)) (l0 : ¬ ln = 0) (hn1 : ¬ wq sg T s 1 = true) (hkh : khR sg T e = 0) (kw : wkS sg T s = 2) (hk2 : ∀ F' A' e', oFr F A F' A' → tR (lnS sg T q.1 c q.2.2.1 q.2.1 pa pr (nI ln) (nI de) s).2.2.2.2 e' → okg T e' → ((lnS sg T q.1 c q.2.2.1 q.2.1 pa pr (nI ln) (nI de) s).2.2.2.2.2.2.2.2.1 = 0 → oB (oT (oA ((s, (a6, a7, a8, a9), (pr, ln, td, de), (pa, ks, os, ts, hs, cs), (c, l, t), q) : oS) (lnS sg T q.1 c q.2.2.1 q.2.1 pa pr (nI ln) (nI de) s))) (A' 1)) → zw sc sa (d + 11) ym_Mo_store z Q 58 [.ref m, .int (nI 259)] [] (rq M m F' A' e') z) : zw sc sa (d + 11) ym_Mo_store z Q 72 [.ref m, .int (nI 259)] [] (rq M m F A e) z := by
  obtain ⟨hv1, ⟨np, hnp, hpr⟩, hv3, hv4, hv5⟩ := hV
  dsimp only at hv1 hpr hv3 hv4 hv5
  have hst : ln = 0 ∨ (0 < ln ∧ 1 ≤ c ∧ c ≤ 12 ∧ 1 ≤ q.1 ∧ q.1 ≤ 20) := by
    rcases hv5 with ⟨g1, -⟩ | ⟨g1, g2, g3, g4, g5, g6, g7⟩
    · exact Or.inl g1
    · exact Or.inr ⟨g1, g2, g3, (tI_q g3 (by omega) g7).1.1, g6⟩
  have lc := fun h => ln_cases (sg := sg) (q := q) (c := c) (pa := pa) (pr := pr) (s := s) hv1 (show ln ≤ 500 by omega) hv4 hst h
  obtain ⟨b0, b1, b2, b3, b4, b5, b6, b7, b8⟩ := id hB
  obtain ⟨l1, c1, c2, hl3, ht3, q20, tl⟩ := hv5.resolve_left (fun g => l0 g.1)
  have hn : ¬ nI ln = 0 := nI_0n l1 (by omega)
  have hw1 : wR sg T e 1 = wq sg T s 1 := R_w hR hs0
  obtain ⟨q1, q2, q3, q4⟩ := tI_q c2 (by omega) tl
  have h1 : ¬ (wkS sg T s = 0 ∨ ¬ (nI ln = 0 ↔ wkS sg T s = 8)) := by rw [kw]; exact h1_n hn (by decide) (by decide)
  obtain ⟨K, P1, P2, P3, m1, m2, m3, m4, hX⟩ := tI_B c2 c1 (by omega) tl hB l1 (by omega)
  by_cases ho : otB (wkS sg T s) pr (nI de) (nI q.1) = true
  · have ct := ot_t (by rw [kw]; decide) hv4 q20 ho
    have hc9 : nI de = 30 ∨ nI q.1 = 20 := ct.elim Or.inl (fun g => Or.inr g.2)
    have hb := rFa_n (e := e) (k := 3)
    rw [lnS_m h1 ho] at hk2
    dsimp only at hk2
    refine l_Mo_line0 w ht h3 hA hk hgd b5 l1 (by omega) (by rw [hw1]; exact hn1) hkh hX (by omega) (s' := refS s 3 (nI s.2.1)) ?_ (fun F' A' e' f1 f2 f3 _ => hk2 F' A' e' f1 f2 f3 (fun hf => absurd hf (refS_f (by decide))))
    rw [if_pos hc9]
    simp only [rPa_b hb, rNu_b hb, rNe_b hb]
    exact R_tsb (refS_f (by decide)) (R_ref hR (by decide))
  · obtain ⟨d1, d2⟩ := ot_d (by rw [kw]; decide) (by rw [kw]; decide) hv4 ho (show q.1 ≤ 1000 by omega)
    have hc9 : ¬ (nI de = 30 ∨ nI q.1 = 20) := fun h => h.elim (fun g => by have := nI_inj' (b := 30) (by omega) (by omega) g; omega) (fun g => by have := nI_inj' (b := 20) (by omega) (by omega) g; have := d2 (by rw [kw]; decide); omega)
    have eL : (lnS sg T q.1 c q.2.2.1 q.2.1 pa pr (nI ln) (nI de) s) = (2, ((v1 sg T (nI q.1) (tokS sg T s)).1), (v2 sg T (nI q.1) (nI c) (tokS sg T s)).1, (v3 sg T (nI q.1) (nI c) (tokS sg T s)).1, tsS sg T (v3 sg T (nI q.1) (nI c) (tokS sg T s)).2) := by
      rw [lnS_d h1 ho, nuS_d (by rw [kw]; decide) (by rw [kw]; decide)]
      unfold vS
      rw [if_neg (by rw [kw]; decide), if_pos (by rw [kw]; decide), if_neg (fun h => absurd h.2.1 (by rw [kw]; decide)), kw]
    rw [eL] at hk2 lc
    dsimp only at hk2 lc
    have rd := R_d3 (sg := sg) (t := T) (n := q.1) (c := c) q1.1 (by omega) c1 c2 (R_p1 (sg := sg) (t := T) hR hs0)
    have rd1 := R_ts (sg := sg) (t := T) rd.1
    refine l_Mo_line0 w ht h3 hA hk hgd b5 l1 (by omega) (by rw [hw1]; exact hn1) hkh hX (by omega) (s' := tsS sg T (v3 sg T (nI q.1) (nI c) (tokS sg T s)).2) (by rw [if_neg hc9]; exact rd1) (fun F' A' e' f1 f2 f3 f4 => hk2 F' A' e' f1 f2 f3 (fun hf => ?_))
    rw [if_neg hc9] at f4
    obtain ⟨t1, -, -⟩ := ts_in hf
    have f5 := f4 ((tR_i rd.1).mpr t1)
    obtain ⟨z1, z2, z3⟩ := rd.2 t1
    rw [z1, z2, z3] at f5
    obtain ⟨-, k⟩ := lc hf
    rcases k with ⟨k, -⟩ | ⟨-, k, -⟩ | ⟨-, -, k', a, b, ee, g0, g1, g2, g3, x1, x2, x3, hk4, hk5, -, -⟩
    · exact absurd k l0
    · exact absurd k (by decide)
    · have ek : 2 = k' := nI_inj' (a := 2) (by omega) (by omega) g0
      subst ek
      generalize (tsS sg T (v3 sg T (nI q.1) (nI c) (tokS sg T s)).2) = S9
      rw [g1, g2, g3] at f5 ⊢
      rw [show oT (oA ((s, (a6, a7, a8, a9), (pr, ln, td, de), (pa, ks, os, ts, hs, cs), (c, l, t), q) : oS) ((2, nI a, nI b, nI ee, S9) : Int32 × Int32 × Int32 × Int32 × tS)) = _ from oTD (kk := 2) (by omega) x1 x2 x3]
      refine oBB_D hB (kk := 2) (by omega) (by rw [f5, up_s, b5]; exact (nI_succ ln).symm) (by rw [f5, up_n (by omega), lyR_o (by omega) (by omega)]; exact b6) (fun j j1 j2 => by rw [f5, up_n j1]; rfl)
theorem l_Mo_bodyD3 {sc : Option (Nat × Nat × (Nat → Int32))} {sa : Nat → Nat} {d : Nat} {M : mz_M} {z : Nat × Nat} {m : Nat} (w : g_Mo M.2.2 m) {F : Nat → Int32} {A : Nat → Nat → Int32} {sg : Nat → Int32} {T : Nat} (ht : T ≤ 500) (h3 : F 3 = nI T) (hA : ∀ i, i < T → A 3 i = bt sg T i) {e : rS} (hk : okr T e) (hgd : gd e) {Q : mz_P} {s : tS} {a6 a7 a8 a9 : Int32} {pr : Int32} {ln : Nat} {td : Int32} {de : Nat} {pa ks os ts hs cs : Nat → Int32} {c : Nat} {l t : Int32} {q : sQ} (hV : oV T ((s, (a6, a7, a8, a9), (pr, ln, td, de), (pa, ks, os, ts, hs, cs), (c, l, t), q) : oS)) (hl : ln ≤ 499) (hs0 : s.2.2.2.2.1 = 0) (hR : tR s e) (hB : oBB c l t pr de ln 0 pa ks os ts hs (A 1)) (l0 : ¬ ln = 0) (hn1 : ¬ wq sg T s 1 = true) (hkh : khR sg T e = 1) (kw : wkS sg T s = 3) (hk2 : ∀ F' A' e', oFr F A F' A' → tR (lnS sg T q.1 c q.2.2.1 q.2.1 pa pr (nI ln) (nI de) s).2.2.2.2 e' → okg T e' → ((lnS sg T q.1 c q.2.2.1 q.2.1 pa pr (nI ln) (nI de) s).2.2.2.2.2.2.2.2.1 = 0 → oB (oT (oA ((s, (a6, a7, a8, a9), (pr, ln, td, de), (pa, ks, os, ts, hs, cs), (c, l, t), q) : oS) (lnS sg T q.1 c q.2.2.1 q.2.1 pa pr (nI ln) (nI de) s))) (A' 1)) → zw sc sa (d + 11) ym_Mo_store z Q 58 [.ref m, .int (nI 259)] [] (rq M m F' A' e') z) : zw sc sa (d + 11) ym_Mo_store z Q 72 [.ref m, .int (nI 259)] [] (rq M m F A e) z := by
  obtain ⟨hv1, ⟨np, hnp, hpr⟩, hv3, hv4, hv5⟩ := hV
  dsimp only at hv1 hpr hv3 hv4 hv5
  have hst : ln = 0 ∨ (0 < ln ∧ 1 ≤ c ∧ c ≤ 12 ∧ 1 ≤ q.1 ∧ q.1 ≤ 20) := by
    rcases hv5 with ⟨g1, -⟩ | ⟨g1, g2, g3, g4, g5, g6, g7⟩
    · exact Or.inl g1
    · exact Or.inr ⟨g1, g2, g3, (tI_q g3 (by omega) g7).1.1, g6⟩
  have lc := fun h => ln_cases (sg := sg) (q := q) (c := c) (pa := pa) (pr := pr) (s := s) hv1 (show ln ≤ 500 by omega) hv4 hst h
  obtain ⟨b0, b1, b2, b3, b4, b5, b6, b7, b8⟩ := id hB
  obtain ⟨l1, c1, c2, hl3, ht3, q20, tl⟩ := hv5.resolve_left (fun g => l0 g.1)
  have hn : ¬ nI ln = 0 := nI_0n l1 (by omega)
  have hw1 : wR sg T e 1 = wq sg T s 1 := R_w hR hs0
  obtain ⟨q1, q2, q3, q4⟩ := tI_q c2 (by omega) tl
  have h1 : ¬ (wkS sg T s = 0 ∨ ¬ (nI ln = 0 ↔ wkS sg T s = 8)) := by rw [kw]; exact h1_n hn (by decide) (by decide)
  obtain ⟨K, P1, P2, P3, m1, m2, m3, m4, hX⟩ := tI_B c2 c1 (by omega) tl hB l1 (by omega)
  by_cases ho : otB (wkS sg T s) pr (nI de) (nI q.1) = true
  · have ct := ot_t (by rw [kw]; decide) hv4 q20 ho
    have hc9 : nI de = 30 ∨ nI q.1 = 20 := ct.elim Or.inl (fun g => Or.inr g.2)
    have hb := rFa_n (e := e) (k := 3)
    rw [lnS_m h1 ho] at hk2
    dsimp only at hk2
    refine l_Mo_line1 w ht h3 hA hk hgd b5 l1 (by omega) (by rw [hw1]; exact hn1) hkh hX (by omega) (s' := refS s 3 (nI s.2.1)) ?_ (fun F' A' e' f1 f2 f3 _ => hk2 F' A' e' f1 f2 f3 (fun hf => absurd hf (refS_f (by decide))))
    rw [if_pos hc9]
    simp only [rPa_b hb, rNu_b hb, rNe_b hb]
    exact R_tsb (refS_f (by decide)) (R_ref hR (by decide))
  · obtain ⟨d1, d2⟩ := ot_d (by rw [kw]; decide) (by rw [kw]; decide) hv4 ho (show q.1 ≤ 1000 by omega)
    have hc9 : ¬ (nI de = 30 ∨ nI q.1 = 20) := fun h => h.elim (fun g => by have := nI_inj' (b := 30) (by omega) (by omega) g; omega) (fun g => by have := nI_inj' (b := 20) (by omega) (by omega) g; have := d2 (by rw [kw]; decide); omega)
    have eL : (lnS sg T q.1 c q.2.2.1 q.2.1 pa pr (nI ln) (nI de) s) = (3, (v1 sg T (nI q.1) (tokS sg T s)).1, (v2 sg T (nI q.1) (nI c) (tokS sg T s)).1, (v3 sg T (nI q.1) (nI c) (tokS sg T s)).1, tsS sg T (if (v3 sg T (nI q.1) (nI c) (tokS sg T s)).2.2.2.2.2.1 = 0 ∧ (rt (q.2.1 (v1 sg T (nI q.1) (tokS sg T s)).1.toNatClampNeg) c (v2 sg T (nI q.1) (nI c) (tokS sg T s)).1 = rt (q.2.1 (v1 sg T (nI q.1) (tokS sg T s)).1.toNatClampNeg) c (v3 sg T (nI q.1) (nI c) (tokS sg T s)).1) then refS (v3 sg T (nI q.1) (nI c) (tokS sg T s)).2 2 (nI (v2 sg T (nI q.1) (nI c) (tokS sg T s)).2.2.1) else (v3 sg T (nI q.1) (nI c) (tokS sg T s)).2)) := by
      rw [lnS_d h1 ho, nuS_d (by rw [kw]; decide) (by rw [kw]; decide)]
      unfold vS
      rw [if_neg (by rw [kw]; decide), if_pos (by rw [kw]; decide), kw]
      simp only [true_and]
    rw [eL] at hk2 lc
    dsimp only at hk2 lc
    have rd := R_dj (sg := sg) (t := T) (n := q.1) (c := c) (q := q) q1.1 (by omega) c1 c2 (R_p1 (sg := sg) (t := T) hR hs0)
    have rd1 := R_ts (sg := sg) (t := T) rd.1
    refine l_Mo_line1 w ht h3 hA hk hgd b5 l1 (by omega) (by rw [hw1]; exact hn1) hkh hX (by omega) (s' := tsS sg T (if (v3 sg T (nI q.1) (nI c) (tokS sg T s)).2.2.2.2.2.1 = 0 ∧ (rt (q.2.1 (v1 sg T (nI q.1) (tokS sg T s)).1.toNatClampNeg) c (v2 sg T (nI q.1) (nI c) (tokS sg T s)).1 = rt (q.2.1 (v1 sg T (nI q.1) (tokS sg T s)).1.toNatClampNeg) c (v3 sg T (nI q.1) (nI c) (tokS sg T s)).1) then refS (v3 sg T (nI q.1) (nI c) (tokS sg T s)).2 2 (nI (v2 sg T (nI q.1) (nI c) (tokS sg T s)).2.2.1) else (v3 sg T (nI q.1) (nI c) (tokS sg T s)).2)) (by rw [if_neg hc9]; exact rd1) (fun F' A' e' f1 f2 f3 f4 => hk2 F' A' e' f1 f2 f3 (fun hf => ?_))
    rw [if_neg hc9] at f4
    obtain ⟨t1, -, -⟩ := ts_in hf
    have f5 := f4 ((tR_i rd.1).mpr t1)
    have y3 : (v3 sg T (nI q.1) (nI c) (tokS sg T s)) = tnS sg T (v2 sg T (nI q.1) (nI c) (tokS sg T s)).2 0 (nI c - 1) := rfl
    have y2 : (v2 sg T (nI q.1) (nI c) (tokS sg T s)) = tnS sg T (v1 sg T (nI q.1) (tokS sg T s)).2 0 (nI c - 1) := rfl
    have z3 := rd.2 t1
    have u3 : (v3 sg T (nI q.1) (nI c) (tokS sg T s)).2.2.2.2.2.1 = 0 := by
      split at t1
      · exact absurd t1 (refS_f (by decide))
      · exact t1
    rw [y3] at u3
    obtain ⟨z1, z2⟩ := (R_d2 (sg := sg) (t := T) (n := q.1) (c := c) q1.1 (by omega) c1 c2 (R_p1 (sg := sg) (t := T) hR hs0)).2 (tnS_in u3).1
    rw [z3] at f5
    rw [z1, z2] at f5
    obtain ⟨-, k⟩ := lc hf
    rcases k with ⟨k, -⟩ | ⟨-, k, -⟩ | ⟨-, -, k', a, b, ee, g0, g1, g2, g3, x1, x2, x3, hk4, hk5, -, -⟩
    · exact absurd k l0
    · exact absurd k (by decide)
    · have ek : 3 = k' := nI_inj' (a := 3) (by omega) (by omega) g0
      subst ek
      generalize (tsS sg T (if (v3 sg T (nI q.1) (nI c) (tokS sg T s)).2.2.2.2.2.1 = 0 ∧ (rt (q.2.1 (v1 sg T (nI q.1) (tokS sg T s)).1.toNatClampNeg) c (v2 sg T (nI q.1) (nI c) (tokS sg T s)).1 = rt (q.2.1 (v1 sg T (nI q.1) (tokS sg T s)).1.toNatClampNeg) c (v3 sg T (nI q.1) (nI c) (tokS sg T s)).1) then refS (v3 sg T (nI q.1) (nI c) (tokS sg T s)).2 2 (nI (v2 sg T (nI q.1) (nI c) (tokS sg T s)).2.2.1) else (v3 sg T (nI q.1) (nI c) (tokS sg T s)).2)) = S9
      rw [g1, g2, g3] at f5 ⊢
      rw [show oT (oA ((s, (a6, a7, a8, a9), (pr, ln, td, de), (pa, ks, os, ts, hs, cs), (c, l, t), q) : oS) ((3, nI a, nI b, nI ee, S9) : Int32 × Int32 × Int32 × Int32 × tS)) = _ from oTD (kk := 3) (by omega) x1 x2 x3]
      refine oBB_D hB (kk := 3) (by omega) (by rw [f5, up_s, b5]; exact (nI_succ ln).symm) (by rw [f5, up_n (by omega), lyR_o (by omega) (by omega)]; exact b6) (fun j j1 j2 => by rw [f5, up_n j1]; rfl)
theorem l_Mo_bodyD4 {sc : Option (Nat × Nat × (Nat → Int32))} {sa : Nat → Nat} {d : Nat} {M : mz_M} {z : Nat × Nat} {m : Nat} (w : g_Mo M.2.2 m) {F : Nat → Int32} {A : Nat → Nat → Int32} {sg : Nat → Int32} {T : Nat} (ht : T ≤ 500) (h3 : F 3 = nI T) (hA : ∀ i, i < T → A 3 i = bt sg T i) {e : rS} (hk : okr T e) (hgd : gd e) {Q : mz_P} {s : tS} {a6 a7 a8 a9 : Int32} {pr : Int32} {ln : Nat} {td : Int32} {de : Nat} {pa ks os ts hs cs : Nat → Int32} {c : Nat} {l t : Int32} {q : sQ} (hV : oV T ((s, (a6, a7, a8, a9), (pr, ln, td, de), (pa, ks, os, ts, hs, cs), (c, l, t), q) : oS)) (hl : ln ≤ 499) (hs0 : s.2.2.2.2.1 = 0) (hR : tR s e) (hB : oBB c l t pr de ln 0 pa ks os ts hs (A 1)) (l0 : ¬ ln = 0) (hn1 : ¬ wq sg T s 1 = true) (hkh : khR sg T e = 3) (kw : wkS sg T s = 4) (hk2 : ∀ F' A' e', oFr F A F' A' → tR (lnS sg T q.1 c q.2.2.1 q.2.1 pa pr (nI ln) (nI de) s).2.2.2.2 e' → okg T e' → ((lnS sg T q.1 c q.2.2.1 q.2.1 pa pr (nI ln) (nI de) s).2.2.2.2.2.2.2.2.1 = 0 → oB (oT (oA ((s, (a6, a7, a8, a9), (pr, ln, td, de), (pa, ks, os, ts, hs, cs), (c, l, t), q) : oS) (lnS sg T q.1 c q.2.2.1 q.2.1 pa pr (nI ln) (nI de) s))) (A' 1)) → zw sc sa (d + 11) ym_Mo_store z Q 58 [.ref m, .int (nI 259)] [] (rq M m F' A' e') z) : zw sc sa (d + 11) ym_Mo_store z Q 72 [.ref m, .int (nI 259)] [] (rq M m F A e) z := by
  obtain ⟨hv1, ⟨np, hnp, hpr⟩, hv3, hv4, hv5⟩ := hV
  dsimp only at hv1 hpr hv3 hv4 hv5
  have hst : ln = 0 ∨ (0 < ln ∧ 1 ≤ c ∧ c ≤ 12 ∧ 1 ≤ q.1 ∧ q.1 ≤ 20) := by
    rcases hv5 with ⟨g1, -⟩ | ⟨g1, g2, g3, g4, g5, g6, g7⟩
    · exact Or.inl g1
    · exact Or.inr ⟨g1, g2, g3, (tI_q g3 (by omega) g7).1.1, g6⟩
  have lc := fun h => ln_cases (sg := sg) (q := q) (c := c) (pa := pa) (pr := pr) (s := s) hv1 (show ln ≤ 500 by omega) hv4 hst h
  obtain ⟨b0, b1, b2, b3, b4, b5, b6, b7, b8⟩ := id hB
  obtain ⟨l1, c1, c2, hl3, ht3, q20, tl⟩ := hv5.resolve_left (fun g => l0 g.1)
  have hn : ¬ nI ln = 0 := nI_0n l1 (by omega)
  have hw1 : wR sg T e 1 = wq sg T s 1 := R_w hR hs0
  obtain ⟨q1, q2, q3, q4⟩ := tI_q c2 (by omega) tl
  have h1 : ¬ (wkS sg T s = 0 ∨ ¬ (nI ln = 0 ↔ wkS sg T s = 8)) := by rw [kw]; exact h1_n hn (by decide) (by decide)
  obtain ⟨K, P1, P2, P3, m1, m2, m3, m4, hX⟩ := tI_B c2 c1 (by omega) tl hB l1 (by omega)
  by_cases ho : otB (wkS sg T s) pr (nI de) (nI q.1) = true
  · have ct := ot_t (by rw [kw]; decide) hv4 q20 ho
    have hc9 : nI de = 30 := ct.elim id (fun g => absurd g.1 (by rw [kw]; decide))
    have hb := rFa_n (e := e) (k := 3)
    rw [lnS_m h1 ho] at hk2
    dsimp only at hk2
    refine l_Mo_line3 w ht h3 hA hk hgd b5 l1 (by omega) (by rw [hw1]; exact hn1) hkh hX (by omega) (s' := refS s 3 (nI s.2.1)) ?_ (fun F' A' e' f1 f2 f3 _ => hk2 F' A' e' f1 f2 f3 (fun hf => absurd hf (refS_f (by decide))))
    rw [if_pos hc9]
    simp only [rPa_b hb, rNu_b hb, rNe_b hb]
    exact R_tsb (refS_f (by decide)) (R_ref hR (by decide))
  · obtain ⟨d1, d2⟩ := ot_d (by rw [kw]; decide) (by rw [kw]; decide) hv4 ho (show q.1 ≤ 1000 by omega)
    have hc9 : ¬ (nI de = 30) := fun g => by have := nI_inj' (b := 30) (by omega) (by omega) g; omega
    have eL : (lnS sg T q.1 c q.2.2.1 q.2.1 pa pr (nI ln) (nI de) s) = (4, (v1 sg T (nI q.1) (tokS sg T s)).1, (v2 sg T (nI q.1) (nI c) (tokS sg T s)).1, 0, tsS sg T (v2 sg T (nI q.1) (nI c) (tokS sg T s)).2) := by
      rw [lnS_d h1 ho, nuS_d (by rw [kw]; decide) (by rw [kw]; decide)]
      unfold vS
      rw [if_neg (by rw [kw]; decide), if_neg (by rw [kw]; decide), kw]
    rw [eL] at hk2 lc
    dsimp only at hk2 lc
    have rd := R_d2 (sg := sg) (t := T) (n := q.1) (c := c) q1.1 (by omega) c1 c2 (R_p1 (sg := sg) (t := T) hR hs0)
    have rd1 := R_ts (sg := sg) (t := T) rd.1
    refine l_Mo_line3 w ht h3 hA hk hgd b5 l1 (by omega) (by rw [hw1]; exact hn1) hkh hX (by omega) (s' := tsS sg T (v2 sg T (nI q.1) (nI c) (tokS sg T s)).2) (by rw [if_neg hc9]; exact rd1) (fun F' A' e' f1 f2 f3 f4 => hk2 F' A' e' f1 f2 f3 (fun hf => ?_))
    rw [if_neg hc9] at f4
    obtain ⟨t1, -, -⟩ := ts_in hf
    have f5 := f4 ((tR_i rd.1).mpr t1)
    obtain ⟨z1, z2⟩ := rd.2 t1
    rw [z1, z2] at f5
    obtain ⟨-, k⟩ := lc hf
    rcases k with ⟨k, -⟩ | ⟨-, k, -⟩ | ⟨-, -, k', a, b, ee, g0, g1, g2, g3, x1, x2, x3, hk4, hk5, -, -⟩
    · exact absurd k l0
    · exact absurd k (by decide)
    · have ek : 4 = k' := nI_inj' (a := 4) (by omega) (by omega) g0
      subst ek
      generalize (tsS sg T (v2 sg T (nI q.1) (nI c) (tokS sg T s)).2) = S9
      have e3 : ee = 0 := nI_inj' (b := 0) (by omega) (by omega) g3.symm
      subst e3
      rw [g1, g2] at f5 ⊢
      rw [show oT (oA ((s, (a6, a7, a8, a9), (pr, ln, td, de), (pa, ks, os, ts, hs, cs), (c, l, t), q) : oS) ((4, nI a, nI b, 0, S9) : Int32 × Int32 × Int32 × Int32 × tS)) = _ from oTD (kk := 4) (by omega) x1 x2 x3]
      refine oBB_D hB (kk := 4) (by omega) (by rw [f5, up_s, b5]; exact (nI_succ ln).symm) (by rw [f5, up_n (by omega), lyR_o (by omega) (by omega)]; exact b6) (fun j j1 j2 => by rw [f5, up_n j1]; rfl)
theorem l_Mo_bodyD5 {sc : Option (Nat × Nat × (Nat → Int32))} {sa : Nat → Nat} {d : Nat} {M : mz_M} {z : Nat × Nat} {m : Nat} (w : g_Mo M.2.2 m) {F : Nat → Int32} {A : Nat → Nat → Int32} {sg : Nat → Int32} {T : Nat} (ht : T ≤ 500) (h3 : F 3 = nI T) (hA : ∀ i, i < T → A 3 i = bt sg T i) {e : rS} (hk : okr T e) (hgd : gd e) {Q : mz_P} {s : tS} {a6 a7 a8 a9 : Int32} {pr : Int32} {ln : Nat} {td : Int32} {de : Nat} {pa ks os ts hs cs : Nat → Int32} {c : Nat} {l t : Int32} {q : sQ} (hV : oV T ((s, (a6, a7, a8, a9), (pr, ln, td, de), (pa, ks, os, ts, hs, cs), (c, l, t), q) : oS)) (hl : ln ≤ 499) (hs0 : s.2.2.2.2.1 = 0) (hR : tR s e) (hB : oBB c l t pr de ln 0 pa ks os ts hs (A 1)) (l0 : ¬ ln = 0) (hn1 : ¬ wq sg T s 1 = true) (hkh : khR sg T e = 4) (kw : wkS sg T s = 5) (hk2 : ∀ F' A' e', oFr F A F' A' → tR (lnS sg T q.1 c q.2.2.1 q.2.1 pa pr (nI ln) (nI de) s).2.2.2.2 e' → okg T e' → ((lnS sg T q.1 c q.2.2.1 q.2.1 pa pr (nI ln) (nI de) s).2.2.2.2.2.2.2.2.1 = 0 → oB (oT (oA ((s, (a6, a7, a8, a9), (pr, ln, td, de), (pa, ks, os, ts, hs, cs), (c, l, t), q) : oS) (lnS sg T q.1 c q.2.2.1 q.2.1 pa pr (nI ln) (nI de) s))) (A' 1)) → zw sc sa (d + 11) ym_Mo_store z Q 58 [.ref m, .int (nI 259)] [] (rq M m F' A' e') z) : zw sc sa (d + 11) ym_Mo_store z Q 72 [.ref m, .int (nI 259)] [] (rq M m F A e) z := by
  obtain ⟨hv1, ⟨np, hnp, hpr⟩, hv3, hv4, hv5⟩ := hV
  dsimp only at hv1 hpr hv3 hv4 hv5
  have hst : ln = 0 ∨ (0 < ln ∧ 1 ≤ c ∧ c ≤ 12 ∧ 1 ≤ q.1 ∧ q.1 ≤ 20) := by
    rcases hv5 with ⟨g1, -⟩ | ⟨g1, g2, g3, g4, g5, g6, g7⟩
    · exact Or.inl g1
    · exact Or.inr ⟨g1, g2, g3, (tI_q g3 (by omega) g7).1.1, g6⟩
  have lc := fun h => ln_cases (sg := sg) (q := q) (c := c) (pa := pa) (pr := pr) (s := s) hv1 (show ln ≤ 500 by omega) hv4 hst h
  obtain ⟨b0, b1, b2, b3, b4, b5, b6, b7, b8⟩ := id hB
  obtain ⟨l1, c1, c2, hl3, ht3, q20, tl⟩ := hv5.resolve_left (fun g => l0 g.1)
  have hn : ¬ nI ln = 0 := nI_0n l1 (by omega)
  have hw1 : wR sg T e 1 = wq sg T s 1 := R_w hR hs0
  obtain ⟨q1, q2, q3, q4⟩ := tI_q c2 (by omega) tl
  have h1 : ¬ (wkS sg T s = 0 ∨ ¬ (nI ln = 0 ↔ wkS sg T s = 8)) := by rw [kw]; exact h1_n hn (by decide) (by decide)
  obtain ⟨K, P1, P2, P3, m1, m2, m3, m4, hX⟩ := tI_B c2 c1 (by omega) tl hB l1 (by omega)
  by_cases ho : otB (wkS sg T s) pr (nI de) (nI q.1) = true
  · have ct := ot_t (by rw [kw]; decide) hv4 q20 ho
    have hc9 : nI de = 30 := ct.elim id (fun g => absurd g.1 (by rw [kw]; decide))
    have hb := rFa_n (e := e) (k := 3)
    rw [lnS_m h1 ho] at hk2
    dsimp only at hk2
    refine l_Mo_line4 w ht h3 hA hk hgd b5 l1 (by omega) (by rw [hw1]; exact hn1) hkh hX (by omega) (s' := refS s 3 (nI s.2.1)) ?_ (fun F' A' e' f1 f2 f3 _ => hk2 F' A' e' f1 f2 f3 (fun hf => absurd hf (refS_f (by decide))))
    rw [if_pos hc9]
    simp only [rPa_b hb, rNu_b hb, rNe_b hb]
    exact R_tsb (refS_f (by decide)) (R_ref hR (by decide))
  · obtain ⟨d1, d2⟩ := ot_d (by rw [kw]; decide) (by rw [kw]; decide) hv4 ho (show q.1 ≤ 1000 by omega)
    have hc9 : ¬ (nI de = 30) := fun g => by have := nI_inj' (b := 30) (by omega) (by omega) g; omega
    have eL : (lnS sg T q.1 c q.2.2.1 q.2.1 pa pr (nI ln) (nI de) s) = (5, (v1 sg T (nI q.1) (tokS sg T s)).1, 0, 0, tsS sg T (if (v1 sg T (nI q.1) (tokS sg T s)).2.2.2.2.2.1 = 0 ∧ q.2.2.1 (v1 sg T (nI q.1) (tokS sg T s)).1.toNatClampNeg = -1 then refS (v1 sg T (nI q.1) (tokS sg T s)).2 2 (nI (tokS sg T s).2.1) else (v1 sg T (nI q.1) (tokS sg T s)).2)) := by
      rw [lnS_d h1 ho, nuS_d (by rw [kw]; decide) (by rw [kw]; decide)]
      unfold vS
      rw [if_pos (by rw [kw]), kw]
    rw [eL] at hk2 lc
    dsimp only at hk2 lc
    have rd := R_ds (sg := sg) (t := T) (n := q.1) (c := c) (q := q) q1.1 (by omega) c1 c2 rfl (R_p1 (sg := sg) (t := T) hR hs0)
    have rd1 := R_ts (sg := sg) (t := T) rd.1
    refine l_Mo_line4 w ht h3 hA hk hgd b5 l1 (by omega) (by rw [hw1]; exact hn1) hkh hX (by omega) (s' := tsS sg T (if (v1 sg T (nI q.1) (tokS sg T s)).2.2.2.2.2.1 = 0 ∧ q.2.2.1 (v1 sg T (nI q.1) (tokS sg T s)).1.toNatClampNeg = -1 then refS (v1 sg T (nI q.1) (tokS sg T s)).2 2 (nI (tokS sg T s).2.1) else (v1 sg T (nI q.1) (tokS sg T s)).2)) (by rw [if_neg hc9]; exact rd1) (fun F' A' e' f1 f2 f3 f4 => hk2 F' A' e' f1 f2 f3 (fun hf => ?_))
    rw [if_neg hc9] at f4
    obtain ⟨t1, -, -⟩ := ts_in hf
    have f5 := f4 ((tR_i rd.1).mpr t1)
    have z1 := rd.2 t1
    rw [z1] at f5
    obtain ⟨-, k⟩ := lc hf
    rcases k with ⟨k, -⟩ | ⟨-, k, -⟩ | ⟨-, -, k', a, b, ee, g0, g1, g2, g3, x1, x2, x3, hk4, hk5, -, -⟩
    · exact absurd k l0
    · exact absurd k (by decide)
    · have ek : 5 = k' := nI_inj' (a := 5) (by omega) (by omega) g0
      subst ek
      generalize (tsS sg T (if (v1 sg T (nI q.1) (tokS sg T s)).2.2.2.2.2.1 = 0 ∧ q.2.2.1 (v1 sg T (nI q.1) (tokS sg T s)).1.toNatClampNeg = -1 then refS (v1 sg T (nI q.1) (tokS sg T s)).2 2 (nI (tokS sg T s).2.1) else (v1 sg T (nI q.1) (tokS sg T s)).2)) = S9
      have e3 : ee = 0 := nI_inj' (b := 0) (by omega) (by omega) g3.symm
      subst e3
      have e2 : b = 0 := nI_inj' (b := 0) (by omega) (by omega) g2.symm
      subst e2
      rw [g1] at f5 ⊢
      rw [show oT (oA ((s, (a6, a7, a8, a9), (pr, ln, td, de), (pa, ks, os, ts, hs, cs), (c, l, t), q) : oS) ((5, nI a, 0, 0, S9) : Int32 × Int32 × Int32 × Int32 × tS)) = _ from oTD (kk := 5) (by omega) x1 x2 x3]
      refine oBB_D hB (kk := 5) (by omega) (by rw [f5, up_s, b5]; exact (nI_succ ln).symm) (by rw [f5, up_n (by omega), lyR_o (by omega) (by omega)]; exact b6) (fun j j1 j2 => by rw [f5, up_n j1]; rfl)
