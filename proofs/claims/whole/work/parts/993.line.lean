theorem ts_in {sg : Nat → Int32} {t : Nat} {s : tS} (h : (tsS sg t s).2.2.2.2.1 = 0) : s.2.2.2.2.1 = 0 ∧ s.1 = 3 ∧ tsS sg t s = tokS sg t s := by
  unfold tsS at h ⊢
  by_cases h0 : s.2.2.2.2.1 = 0
  · rw [if_pos h0] at h ⊢
    by_cases h3 : s.1 = 3
    · rw [if_pos h3]
      exact ⟨h0, h3, rfl⟩
    · rw [if_neg h3] at h
      exact absurd h (refS_f (by decide))
  · rw [if_neg h0] at h
    exact absurd h h0
theorem tn_r {sg : Nat → Int32} {t : Nat} {s : tS} {lo hi : Int32} (a b : Nat) (hlo : nI a = lo) (hhi : nI b = hi) (hb : b < 1000) (ha : a < 1000) (h : (tnS sg t s lo hi).2.2.2.2.2.1 = 0) : ∃ j, a ≤ j ∧ j ≤ b ∧ (tnS sg t s lo hi).1 = nI j := by
  subst hlo
  subst hhi
  obtain ⟨-, h1, h2⟩ := tnS_in h
  generalize (tnS sg t s (nI a) (nI b)).1 = v at h1 h2
  have g1 := Int32.le_iff_toInt_le.mp (Int32.not_lt.mp h1)
  have g2 := Int32.le_iff_toInt_le.mp h2
  rw [nI_toInt (by omega)] at g1 g2
  have h0 : ¬ v < 0 := by
    intro e
    have e2 := Int32.lt_iff_toInt_lt.mp e
    have e3 : (0 : Int32).toInt = 0 := rfl
    omega
  obtain ⟨j, hj, rfl⟩ := nI_of h0
  rw [nI_toInt (by omega)] at g1 g2
  exact ⟨j, by omega, by omega, rfl⟩
theorem wk_r {sg : Nat → Int32} {t : Nat} {s : tS} : wkS sg t s = 8 ∨ wkS sg t s = 9 ∨ wkS sg t s = 2 ∨ wkS sg t s = 3 ∨ wkS sg t s = 1 ∨ wkS sg t s = 4 ∨ wkS sg t s = 5 ∨ wkS sg t s = 0 := by
  unfold wkS
  split
  · exact Or.inl rfl
  · split
    · exact Or.inr (Or.inl rfl)
    · split
      · exact Or.inr (Or.inr (Or.inl rfl))
      · split
        · exact Or.inr (Or.inr (Or.inr (Or.inl rfl)))
        · split
          · exact Or.inr (Or.inr (Or.inr (Or.inr (Or.inl rfl))))
          · split
            · exact Or.inr (Or.inr (Or.inr (Or.inr (Or.inr (Or.inl rfl)))))
            · split
              · exact Or.inr (Or.inr (Or.inr (Or.inr (Or.inr (Or.inr (Or.inl rfl))))))
              · exact Or.inr (Or.inr (Or.inr (Or.inr (Or.inr (Or.inr (Or.inr rfl))))))
theorem ot_d {k pr : Int32} {de n : Nat} (h8 : ¬ k = 8) (h9 : ¬ k = 9) (hd : de ≤ 30) (h : ¬ otB k pr (nI de) (nI n) = true) (hn : n ≤ 1000) : de < 30 ∧ ((k = 2 ∨ k = 3) → n < 20) := by
  have g : ¬ (30 ≤ nI de ∨ ((k = 2 ∨ k = 3) ∧ ¬ nI n < 20)) := fun g => h (decide_eq_true ⟨h8, Or.inr ⟨h9, g⟩⟩)
  refine ⟨?_, fun hk => ?_⟩
  · by_cases e : de = 30
    · exact absurd (Or.inl (by rw [e]; decide)) g
    · omega
  · by_cases e : nI n < 20
    · exact (nI_ltI (b := 20) (by omega) (by omega)).mp e
    · exact absurd (Or.inr ⟨hk, e⟩) g
theorem ot_9 {pr : Int32} {de n : Nat} (h : ¬ otB 9 pr (nI de) (nI n) = true) : pr < 16 := by
  by_cases e : pr < 16
  · exact e
  · exact absurd (decide_eq_true ⟨by decide, Or.inl ⟨rfl, e⟩⟩) h
theorem ln_cases {sg : Nat → Int32} {T : Nat} {q : sQ} {c : Nat} {pa : Nat → Int32} {pr : Int32} {ln de : Nat} {s : tS} (hk : okt T s) (hl : ln ≤ 500) (hde : de ≤ 30) (hst : ln = 0 ∨ (0 < ln ∧ 1 ≤ c ∧ c ≤ 12 ∧ 1 ≤ q.1 ∧ q.1 ≤ 20)) (h : (lnS sg T q.1 c q.2.2.1 q.2.1 pa pr (nI ln) (nI de) s).2.2.2.2.2.2.2.2.1 = 0) : okt T (lnS sg T q.1 c q.2.2.1 q.2.1 pa pr (nI ln) (nI de) s).2.2.2.2 ∧ ((ln = 0 ∧ (lnS sg T q.1 c q.2.2.1 q.2.1 pa pr (nI ln) (nI de) s).1 = 8 ∧ ∃ a b e, 1 ≤ a ∧ a ≤ 12 ∧ b ≤ 2 ∧ e ≤ 20 ∧ (lnS sg T q.1 c q.2.2.1 q.2.1 pa pr (nI ln) (nI de) s).2.1 = nI a ∧ (lnS sg T q.1 c q.2.2.1 q.2.1 pa pr (nI ln) (nI de) s).2.2.1 = nI b ∧ (lnS sg T q.1 c q.2.2.1 q.2.1 pa pr (nI ln) (nI de) s).2.2.2.1 = nI e) ∨ (0 < ln ∧ (lnS sg T q.1 c q.2.2.1 q.2.1 pa pr (nI ln) (nI de) s).1 = 9 ∧ pr < 16 ∧ ∃ a b, a < c ∧ b < c ∧ (lnS sg T q.1 c q.2.2.1 q.2.1 pa pr (nI ln) (nI de) s).2.1 = nI a ∧ (lnS sg T q.1 c q.2.2.1 q.2.1 pa pr (nI ln) (nI de) s).2.2.1 = nI b) ∨ (0 < ln ∧ de < 30 ∧ ∃ kk a b e, (lnS sg T q.1 c q.2.2.1 q.2.1 pa pr (nI ln) (nI de) s).1 = nI kk ∧ (lnS sg T q.1 c q.2.2.1 q.2.1 pa pr (nI ln) (nI de) s).2.1 = nI a ∧ (lnS sg T q.1 c q.2.2.1 q.2.1 pa pr (nI ln) (nI de) s).2.2.1 = nI b ∧ (lnS sg T q.1 c q.2.2.1 q.2.1 pa pr (nI ln) (nI de) s).2.2.2.1 = nI e ∧ a < 200 ∧ b < 200 ∧ e < 200 ∧ 1 ≤ kk ∧ kk ≤ 5 ∧ dV c 40 kk a b e q ∧ (kk = 2 ∨ kk = 3 → q.1 < 20))) := by
  by_cases h1 : wkS sg T s = 0 ∨ ¬ (nI ln = 0 ↔ wkS sg T s = 8)
  · rw [lnS_r h1] at h
    exact absurd h (refS_f (by decide))
  by_cases h2 : otB (wkS sg T s) pr (nI de) (nI q.1) = true
  · rw [lnS_m h1 h2] at h
    exact absurd h (refS_f (by decide))
  rw [lnS_d h1 h2] at h ⊢
  obtain ⟨t1, t2, t3⟩ := ts_in h
  refine ⟨tsS_ok (nuS_ok (tokS_ok hk)), ?_⟩
  dsimp only
  have hw0 : ¬ wkS sg T s = 0 := fun e => h1 (Or.inl e)
  have hw8 : nI ln = 0 ↔ wkS sg T s = 8 := by
    by_cases e : nI ln = 0 ↔ wkS sg T s = 8
    · exact e
    · exact absurd (Or.inr e) h1
  clear h h1
  by_cases k8 : wkS sg T s = 8
  · left
    have l0 : ln = 0 := by
      have e := hw8.mpr k8
      by_cases c0 : 0 < ln
      · exact absurd e (nI_0n c0 (by omega))
      · omega
    rw [nuS_s k8] at t1 ⊢
    dsimp only at t1 ⊢
    have g3 : u3 sg T (tokS sg T s) = tnS sg T (twS sg T (u2 sg T (tokS sg T s)).2 9) 0 20 := rfl
    have g2 : u2 sg T (tokS sg T s) = tnS sg T (twS sg T (u1 sg T (tokS sg T s)).2 8) 0 2 := rfl
    have g1 : u1 sg T (tokS sg T s) = tnS sg T (twS sg T (tokS sg T s) 7) 1 12 := rfl
    have f3 := t1
    rw [g3] at f3
    have f2 := twS_g (tnS_in f3).1
    rw [g2] at f2
    have f1 := twS_g (tnS_in f2).1
    rw [g1] at f1
    obtain ⟨a, a1, a2, a3⟩ := tn_r (lo := 1) (hi := 12) 1 12 (by decide) (by decide) (by omega) (by omega) f1
    obtain ⟨b, b1, b2, b3⟩ := tn_r (lo := 0) (hi := 2) 0 2 (by decide) (by decide) (by omega) (by omega) f2
    obtain ⟨e, e1, e2, e3⟩ := tn_r (lo := 0) (hi := 20) 0 20 (by decide) (by decide) (by omega) (by omega) f3
    rw [← g1] at a3
    rw [← g2] at b3
    rw [← g3] at e3
    exact ⟨l0, k8, a, b, e, a1, a2, b2, e2, a3, b3, e3⟩
  · have l1 : 0 < ln := by
      by_cases c0 : ln = 0
      · exact absurd (hw8.mp (by rw [c0]; rfl)) k8
      · omega
    obtain ⟨-, c1, c2, n1, n2⟩ := hst.resolve_left (by omega)
    right
    by_cases k9 : wkS sg T s = 9
    · left
      rw [nuS_p k8 k9] at t1 ⊢
      dsimp only at t1 ⊢
      have g2 : w2 sg T (nI c) (tokS sg T s) = tnS sg T (w1 sg T (nI c) (tokS sg T s)).2 0 (nI c - 1) := rfl
      have g1 : w1 sg T (nI c) (tokS sg T s) = tnS sg T (tokS sg T s) 0 (nI c - 1) := rfl
      have f3 : (w2 sg T (nI c) (tokS sg T s)).2.2.2.2.2.1 = 0 := by
        unfold w3 at t1
        split at t1
        · exact absurd t1 (refS_f (by decide))
        · exact t1
      rw [g2] at f3
      have f1 := (tnS_in f3).1
      rw [g1] at f1
      obtain ⟨a, a1, a2⟩ := tnS_nat c1 (by omega) f1
      obtain ⟨b, b1, b2⟩ := tnS_nat c1 (by omega) f3
      rw [← g1] at a2
      rw [← g2] at b2
      rw [k9] at h2
      exact ⟨l1, k9, ot_9 h2, a, b, a1, b1, a2, b2⟩
    · right
      obtain ⟨d1, d2⟩ := ot_d k8 k9 hde h2 (by omega)
      rw [nuS_d k8 k9] at t1 ⊢
      refine ⟨l1, d1, ?_⟩
      have y3 : v3 sg T (nI q.1) (nI c) (tokS sg T s) = tnS sg T (v2 sg T (nI q.1) (nI c) (tokS sg T s)).2 0 (nI c - 1) := rfl
      have y2 : v2 sg T (nI q.1) (nI c) (tokS sg T s) = tnS sg T (v1 sg T (nI q.1) (tokS sg T s)).2 0 (nI c - 1) := rfl
      have y1 : v1 sg T (nI q.1) (tokS sg T s) = tnS sg T (tokS sg T s) 0 (nI q.1 - 1) := rfl
      by_cases k5 : wkS sg T s = 5
      · unfold vS at t1 ⊢
        rw [if_pos k5] at t1 ⊢
        dsimp only at t1 ⊢
        have f1 : (v1 sg T (nI q.1) (tokS sg T s)).2.2.2.2.2.1 = 0 := by
          split at t1
          · exact absurd t1 (refS_f (by decide))
          · exact t1
        rw [y1] at f1
        obtain ⟨a, a1, a2⟩ := tnS_nat n1 (by omega) f1
        rw [← y1] at a2
        exact ⟨5, a, 0, 0, k5, a2, rfl, rfl, by omega, by omega, by omega, by omega, by omega, a1, fun e => absurd e (by omega)⟩
      · by_cases k23 : wkS sg T s = 2 ∨ wkS sg T s = 3
        · unfold vS at t1 ⊢
          rw [if_neg k5, if_pos k23] at t1 ⊢
          dsimp only at t1 ⊢
          have f3 : (v3 sg T (nI q.1) (nI c) (tokS sg T s)).2.2.2.2.2.1 = 0 := by
            split at t1
            · exact absurd t1 (refS_f (by decide))
            · exact t1
          rw [y3] at f3
          have f2 := (tnS_in f3).1
          rw [y2] at f2
          have f1 := (tnS_in f2).1
          rw [y1] at f1
          obtain ⟨a, a1, a2⟩ := tnS_nat n1 (by omega) f1
          obtain ⟨b, b1, b2⟩ := tnS_nat c1 (by omega) f2
          obtain ⟨e, e1, e2⟩ := tnS_nat c1 (by omega) f3
          rw [← y1] at a2
          rw [← y2] at b2
          rw [← y3] at e2
          have n20 := d2 k23
          rcases k23 with k2 | k3
          · exact ⟨2, a, b, e, k2, a2, b2, e2, by omega, by omega, by omega, by omega, by omega, ⟨a1, by omega, b1, e1⟩, fun _ => n20⟩
          · exact ⟨3, a, b, e, k3, a2, b2, e2, by omega, by omega, by omega, by omega, by omega, ⟨a1, by omega, b1, e1⟩, fun _ => n20⟩
        · unfold vS at t1 ⊢
          rw [if_neg k5, if_neg k23] at t1 ⊢
          dsimp only at t1 ⊢
          have f2 := t1
          rw [y2] at f2
          have f1 := (tnS_in f2).1
          rw [y1] at f1
          obtain ⟨a, a1, a2⟩ := tnS_nat n1 (by omega) f1
          obtain ⟨b, b1, b2⟩ := tnS_nat c1 (by omega) f2
          rw [← y1] at a2
          rw [← y2] at b2
          rcases wk_r (sg := sg) (t := T) (s := s) with e | e | e | e | e | e | e | e
          · exact absurd e k8
          · exact absurd e k9
          · exact absurd (Or.inl e) k23
          · exact absurd (Or.inr e) k23
          · exact ⟨1, a, b, 0, e, a2, b2, rfl, by omega, by omega, by omega, by omega, by omega, ⟨a1, b1⟩, fun x => absurd x (by omega)⟩
          · exact ⟨4, a, b, 0, e, a2, b2, rfl, by omega, by omega, by omega, by omega, by omega, ⟨a1, b1⟩, fun x => absurd x (by omega)⟩
          · exact absurd e k5
          · exact absurd e hw0
def oV (T : Nat) (y : oS) : Prop := okt T y.1 ∧ (∃ np, np ≤ 16 ∧ y.2.2.1.1 = nI np) ∧ y.2.2.1.2.2.1 = nI y.2.2.1.2.2.2 ∧ y.2.2.1.2.2.2 ≤ 30 ∧ ((y.2.2.1.2.1 = 0 ∧ y.2.2.2.2.1.1 = 0 ∧ y.2.2.2.2.1.2.1 = 0 ∧ y.2.2.2.2.1.2.2 = 0 ∧ y.2.2.1.2.2.2 = 0 ∧ y.2.2.2.2.2.1 = 0 ∧ y.2.2.1.1 = 0 ∧ ∀ i, i < 12 → y.2.2.2.1.1 i = 0) ∨ (0 < y.2.2.1.2.1 ∧ 1 ≤ y.2.2.2.2.1.1 ∧ y.2.2.2.2.1.1 ≤ 12 ∧ (∃ b, b ≤ 2 ∧ y.2.2.2.2.1.2.1 = nI b) ∧ (∃ b, b ≤ 20 ∧ y.2.2.2.2.1.2.2 = nI b) ∧ y.2.2.2.2.2.1 ≤ 20 ∧ tI y.2.2.2.2.1.1 y.2.2.2.2.1.2.1 y.2.2.2.2.1.2.2 y.2.2.1.2.2.2 y.2.2.2.1.2.1 y.2.2.2.1.2.2.1 y.2.2.2.1.2.2.2.1 y.2.2.2.1.2.2.2.2.1 y.2.2.2.1.2.2.2.2.2 y.2.2.2.2.2))
theorem oV_I {T : Nat} {y : oS} (h : oV T y) (hl : y.2.2.1.2.1 ≤ 500) : oI T y := by
  obtain ⟨h1, h2, h3, h4, h5⟩ := h
  rcases h5 with ⟨g1, g2, g3, g4, g5, g6, g7, g8⟩ | ⟨g1, g2, g3, g4, g5, g6, g7⟩
  · exact ⟨h1, by omega, by omega, fun e => absurd g1 e, hl, h4⟩
  · have q := tI_q g3 (by omega) g7
    exact ⟨h1, g3, by omega, fun _ => ⟨q.1.1, g2⟩, hl, h4⟩
theorem oV_line {sg : Nat → Int32} {T : Nat} {y : oS} (hV : oV T y) (hl : y.2.2.1.2.1 ≤ 500) (hL : (oL sg T y).2.2.2.2.2.2.2.2.1 = 0) : oG (oA y (oL sg T y)) ∧ oV T (oT (oA y (oL sg T y))) ∧ (oT (oA y (oL sg T y))).2.2.1.2.1 = y.2.2.1.2.1 + 1 := by
  obtain ⟨s, ⟨a6, a7, a8, a9⟩, ⟨pr, ln, td, de⟩, ⟨pa, ks, os, ts, hs, cs⟩, ⟨c, l, t⟩, q⟩ := y
  obtain ⟨h1, ⟨np, hnp, hpr⟩, h3, h4, h5⟩ := hV
  dsimp only at h1 hnp hpr h3 h4 h5 hl
  have hst : ln = 0 ∨ (0 < ln ∧ 1 ≤ c ∧ c ≤ 12 ∧ 1 ≤ q.1 ∧ q.1 ≤ 20) := by
    rcases h5 with ⟨g1, -⟩ | ⟨g1, g2, g3, g4, g5, g6, g7⟩
    · exact Or.inl g1
    · exact Or.inr ⟨g1, g2, g3, (tI_q g3 (by omega) g7).1.1, g6⟩
  have hL' : (lnS sg T q.1 c q.2.2.1 q.2.1 pa pr (nI ln) (nI de) s).2.2.2.2.2.2.2.2.1 = 0 := hL
  obtain ⟨k1, k2⟩ := ln_cases h1 hl h4 hst hL'
  have e0 : oL sg T ((s, (a6, a7, a8, a9), (pr, ln, td, de), (pa, ks, os, ts, hs, cs), (c, l, t), q) : oS) = (lnS sg T q.1 c q.2.2.1 q.2.1 pa pr (nI ln) (nI de) s) := rfl
  rw [e0]
  generalize (lnS sg T q.1 c q.2.2.1 q.2.1 pa pr (nI ln) (nI de) s) = R at k1 k2 ⊢
  obtain ⟨k, b7, b8, b9, s'⟩ := R
  dsimp only at k1 k2
  rcases k2 with ⟨l0, rfl, a, b, e, a1, a2, b2, e2, rfl, rfl, rfl⟩ | ⟨l0, rfl, p16, a, b, ha, hb, rfl, rfl⟩ | ⟨l0, d30, kk, a, b, e, rfl, rfl, rfl, rfl, x1, x2, x3, y1, y2, hd, hn⟩
  · have e9 : oT (oA ((s, (a6, a7, a8, a9), (pr, ln, td, de), (pa, ks, os, ts, hs, cs), (c, l, t), q) : oS) ((8, nI a, nI b, nI e, s') : Int32 × Int32 × Int32 × Int32 × tS)) = (s', (8, nI a, nI b, nI e), (pr, ln + 1, td, de), (pa, ks, os, ts, hs, cs), (a, nI b, nI e), bgQ (ownR a) q) := by
      unfold oT oA
      rw [if_pos rfl]
      unfold o8
      dsimp only
      rw [nI_clamp (by omega)]
    rw [e9]
    refine ⟨⟨fun _ => ⟨a, a2, rfl⟩, fun h => absurd (show (8 : Int32) = 9 from h) (by decide), fun h => absurd rfl h⟩, ⟨k1, ⟨np, hnp, hpr⟩, h3, h4, Or.inr ⟨by show 0 < ln + 1; omega, a1, a2, ⟨b, b2, rfl⟩, ⟨e, e2, rfl⟩, by show (1 : Nat) ≤ 20; omega, ?_⟩⟩, rfl⟩
    rcases h5 with ⟨g1, g2, g3, g4, g5, g6, g7, g8⟩ | ⟨g1, -⟩
    · dsimp only
      rw [g5]
      exact tI_bg
    · omega
  · have e9 : oT (oA ((s, (a6, a7, a8, a9), (pr, ln, td, de), (pa, ks, os, ts, hs, cs), (c, l, t), q) : oS) ((9, nI a, nI b, b9, s') : Int32 × Int32 × Int32 × Int32 × tS)) = (s', (9, nI a, nI b, b9), (pr + 1, ln + 1, td, de), (va_up (va_up pa a (pa a ||| (1 : Int32) <<< (nI b &&& 31))) b ((va_up pa a (pa a ||| (1 : Int32) <<< (nI b &&& 31))) b ||| (1 : Int32) <<< (nI a &&& 31)), ks, os, ts, hs, cs), (c, l, t), q) := by
      unfold oT oA
      rw [if_neg (show ¬ (9 : Int32) = 8 by decide), if_pos rfl]
      unfold o9
      dsimp only
      obtain ⟨-, -, c2, -⟩ := hst.resolve_left (by omega)
      rw [nI_clamp (by omega), nI_clamp (by omega)]
    rw [e9]
    have hp2 : np < 16 := by
      rw [hpr] at p16
      exact (nI_ltI (b := 16) (by omega) (by omega)).mp p16
    refine ⟨⟨fun h => absurd (show (9 : Int32) = 8 from h) (by decide), fun _ => ⟨a, b, ha, hb, rfl, rfl⟩, fun _ h => absurd rfl h⟩, ⟨k1, ⟨np + 1, by omega, by show pr + 1 = _; rw [hpr, nI_succ]⟩, h3, h4, Or.inr ?_⟩, rfl⟩
    rcases h5 with ⟨g1, -⟩ | ⟨g1, g2, g3, g4, g5, g6, g7⟩
    · omega
    · exact ⟨by show 0 < ln + 1; omega, g2, g3, g4, g5, g6, g7⟩
  · have hk8 : ¬ nI kk = 8 := fun h => by
      have := congrArg Int32.toInt h
      rw [nI_toInt (by omega)] at this
      have e3 : (8 : Int32).toInt = 8 := rfl
      omega
    have hk9 : ¬ nI kk = 9 := fun h => by
      have := congrArg Int32.toInt h
      rw [nI_toInt (by omega)] at this
      have e3 : (9 : Int32).toInt = 9 := rfl
      omega
    rcases h5 with ⟨g1, -⟩ | ⟨g1, g2, g3, g4, g5, g6, g7⟩
    · omega
    obtain ⟨q1, q2, q3, q4⟩ := tI_q g3 (by omega) g7
    have e9 : oT (oA ((s, (a6, a7, a8, a9), (pr, ln, td, de), (pa, ks, os, ts, hs, cs), (c, l, t), q) : oS) ((nI kk, nI a, nI b, nI e, s') : Int32 × Int32 × Int32 × Int32 × tS)) = (s', (nI kk, nI a, nI b, nI e), (pr, ln + 1, nI (de + 1), de + 1), (pa, va_up ks de (nI kk), va_up os de (nI a), va_up ts de (nI b), va_up hs de (nI e), va_up cs de ((caQ (nI c) l t c kk a b e q).2.2.2.2.2.2.2 - q.2.2.2.2.2.2)), (c, l, t), (caQ (nI c) l t c kk a b e q).2) := by
      unfold oT oA
      rw [if_neg hk8, if_neg hk9]
      unfold oD
      dsimp only
      rw [nI_clamp (by omega), nI_clamp (by omega), nI_clamp (by omega), nI_clamp (by omega)]
    rw [e9]
    refine ⟨⟨fun h => absurd h hk8, fun h => absurd h hk9, fun _ _ => ⟨kk, a, b, e, by omega, rfl, rfl, rfl, rfl, by omega, by omega, by omega, by show de < 60; omega, q1.2.2.1.1, va_of q1 q2 g3 (by omega) hd⟩⟩, ⟨k1, ⟨np, hnp, hpr⟩, rfl, by show de + 1 ≤ 30; omega, Or.inr ⟨by show 0 < ln + 1; omega, g2, g3, g4, g5, ?_, tI_add g3 (by omega) g7 hd⟩⟩, rfl⟩
    show (caQ (nI c) l t c kk a b e q).2.1 ≤ 20
    have hkk : kk = 1 ∨ kk = 2 ∨ kk = 3 ∨ kk = 4 ∨ kk = 5 := by omega
    rcases hkk with rfl | rfl | rfl | rfl | rfl
    · exact g6
    · show q.1 + 1 ≤ 20
      have := hn (Or.inl rfl)
      omega
    · show q.1 + 1 ≤ 20
      have := hn (Or.inr rfl)
      omega
    · exact g6
    · show (snQ (nI c) a q).2.1 ≤ 20
      rw [(qP_sn (s := nI c) (j := a) (q := q)).1]
      exact g6
