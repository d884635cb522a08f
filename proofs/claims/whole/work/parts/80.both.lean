-- the two readers
def tG (s : tS) (e : rS) : Prop := e.2.2.1 = s.2.2.1 ∧ e.2.1 = s.2.1 ∧ ((e.1 = 1 ↔ s.1 = 1) ∧ (e.1 = 2 ↔ s.1 = 2) ∧ (e.1 = 3 ↔ s.1 = 3) ∧ (e.1 = 0 ↔ s.1 = 4)) ∧ (s.1 = 2 → ∃ w : Nat, s.2.2.2.1 = nI (min 1000 w) ∧ e.2.2.2.1 = nI (min 99999 w)) ∧ (¬ s.1 = 2 → e.2.2.2.1 = 0)
def tR (s : tS) (e : rS) : Prop := (s.2.2.2.2.1 = 0 ∧ e.2.2.2.2.1 = 0 ∧ tG s e) ∨ (¬ s.2.2.2.2.1 = 0 ∧ ¬ e.2.2.2.2.1 = 0 ∧ e.2.2.2.2.2.1 = s.2.2.2.2.1 ∧ e.2.2.2.2.2.2 = s.2.2.2.2.2)
theorem tR_g {s : tS} {e : rS} (h : tR s e) (g : s.2.2.2.2.1 = 0) : e.2.2.2.2.1 = 0 ∧ tG s e := h.elim (fun a => a.2) (fun a => absurd g a.1)
theorem tR_b {s : tS} {e : rS} (h : tR s e) (g : ¬ s.2.2.2.2.1 = 0) : ¬ e.2.2.2.2.1 = 0 ∧ e.2.2.2.2.2.1 = s.2.2.2.2.1 ∧ e.2.2.2.2.2.2 = s.2.2.2.2.2 := h.elim (fun a => absurd a.1 g) (fun a => a.2)
theorem tR_i {s : tS} {e : rS} (h : tR s e) : e.2.2.2.2.1 = 0 ↔ s.2.2.2.2.1 = 0 := h.elim (fun a => ⟨fun _ => a.1, fun _ => a.2.1⟩) (fun a => ⟨fun g => absurd g a.2.1, fun g => absurd g a.1⟩)
theorem di_d {sg : Nat → Int32} {t i : Nat} (h : diB (bt sg t i) = true) : ∃ x : Nat, x < 10 ∧ bt sg t i = nI (48 + x) := by
  unfold diB at h
  rw [decide_eq_true_iff, Int32.not_lt, Int32.not_lt, Int32.le_iff_toInt_le, Int32.le_iff_toInt_le] at h
  obtain ⟨h1, h2⟩ := h
  have e1 : (48 : Int32).toInt = 48 := rfl
  have e2 : (57 : Int32).toInt = 57 := rfl
  rw [e1] at h1
  rw [e2] at h2
  refine ⟨((bt sg t i).toInt - 48).toNat, by omega, ?_⟩
  apply Int32.toInt_inj.mp
  rw [nI_toInt (by omega)]
  omega
theorem dg_r {sg : Nat → Int32} {t : Nat} : ∀ k i w, ∃ w', dg sg t k i (nI (min 1000 w)) = ((dg sg t k i (nI (min 1000 w))).1, nI (min 1000 w')) ∧ dgR sg t k i (nI (min 99999 w)) = ((dg sg t k i (nI (min 1000 w))).1, nI (min 99999 w')) := by
  intro k
  induction k with
  | zero => intro i w; exact ⟨w, rfl, rfl⟩
  | succ k ih =>
    intro i w
    rw [dgR_s]
    unfold dg
    by_cases h : diB (bt sg t i) = true
    · rw [if_pos h, if_pos h]
      obtain ⟨x, hx, e⟩ := di_d h
      have a1 : dgv (nI (min 1000 w)) (bt sg t i) = nI (min 1000 (10 * w + x)) := by
        unfold dgv
        rw [e]
        have a2 : nI (min 1000 w) * 10 + nI (48 + x) - 48 = nI (min 1000 w * 10 + x) := by
          rw [show (10 : Int32) = nI 10 from rfl, show (48 : Int32) = nI 48 from rfl]
          rw [show nI (min 1000 w) * nI 10 = nI (min 1000 w * 10) from (by unfold nI; rw [← Int32.ofNat_mul]), nI_add, nI_sub' (by omega)]
          exact congrArg nI (by omega)
        rw [a2, show (1000 : Int32) = nI 1000 from rfl]
        by_cases c : 1000 < min 1000 w * 10 + x
        · rw [if_pos (nI_lt (by omega) (by omega))]
          exact congrArg nI (by omega)
        · rw [if_neg (by rw [Int32.not_lt]; exact nI_le (by omega) (by omega))]
          exact congrArg nI (by omega)
      have b1 : (if 10 * nI (min 99999 w) + bt sg t i - 48 < 99999 then 10 * nI (min 99999 w) + bt sg t i - 48 else 99999) = nI (min 99999 (10 * w + x)) := by
        rw [e]
        have a2 : 10 * nI (min 99999 w) + nI (48 + x) - 48 = nI (10 * min 99999 w + x) := by
          rw [show (10 : Int32) = nI 10 from rfl, show (48 : Int32) = nI 48 from rfl]
          rw [show nI 10 * nI (min 99999 w) = nI (10 * min 99999 w) from (by unfold nI; rw [← Int32.ofNat_mul]), nI_add, nI_sub' (by omega)]
          exact congrArg nI (by omega)
        rw [a2, show (99999 : Int32) = nI 99999 from rfl]
        by_cases c : 10 * min 99999 w + x < 99999
        · rw [if_pos (nI_lt (by omega) (by omega))]
          exact congrArg nI (by omega)
        · rw [if_neg (by rw [Int32.not_lt]; exact nI_le (by omega) (by omega))]
          exact congrArg nI (by omega)
      rw [a1, b1]
      exact ih (i + 1) (10 * w + x)
    · rw [if_neg h, if_neg h]
      exact ⟨w, rfl, rfl⟩
theorem R_tok {sg : Nat → Int32} {t : Nat} {s : tS} {e : rS} (h : tR s e) (g : s.2.2.2.2.1 = 0) : tR (tokS sg t s) (rN sg t e) := by
  obtain ⟨g2, g3, g4, g5, g6⟩ := tR_g h g
  refine Or.inl ⟨g, g2, ?_⟩
  unfold tokS rN
  rw [g3]
  unfold nxR tkF tG
  generalize sk blB sg t (t - s.2.2.1) s.2.2.1 = m
  by_cases c1 : bt sg t m = -1
  · rw [if_pos c1, if_pos c1]
    refine ⟨rfl, rfl, ⟨?_, ?_, ?_, ?_⟩, fun c => ?_, fun _ => rfl⟩
    · exact ⟨fun c => absurd c (show ¬ (0 : Int32) = 1 by decide), fun c => absurd c (show ¬ (4 : Int32) = 1 by decide)⟩
    · exact ⟨fun c => absurd c (show ¬ (0 : Int32) = 2 by decide), fun c => absurd c (show ¬ (4 : Int32) = 2 by decide)⟩
    · exact ⟨fun c => absurd c (show ¬ (0 : Int32) = 3 by decide), fun c => absurd c (show ¬ (4 : Int32) = 3 by decide)⟩
    · exact ⟨fun _ => rfl, fun _ => rfl⟩
    · exact absurd c (show ¬ (4 : Int32) = 2 by decide)
  · rw [if_neg c1, if_neg c1]
    by_cases c2 : leB (bt sg t m) = true
    · rw [if_pos c2, if_pos c2]
      refine ⟨rfl, rfl, ⟨?_, ?_, ?_, ?_⟩, fun c => ?_, fun _ => rfl⟩
      · exact ⟨fun _ => rfl, fun _ => rfl⟩
      · exact ⟨fun c => absurd c (show ¬ (1 : Int32) = 2 by decide), fun c => absurd c (show ¬ (1 : Int32) = 2 by decide)⟩
      · exact ⟨fun c => absurd c (show ¬ (1 : Int32) = 3 by decide), fun c => absurd c (show ¬ (1 : Int32) = 3 by decide)⟩
      · exact ⟨fun c => absurd c (show ¬ (1 : Int32) = 0 by decide), fun c => absurd c (show ¬ (1 : Int32) = 4 by decide)⟩
      · exact absurd c (show ¬ (1 : Int32) = 2 by decide)
    · rw [if_neg c2, if_neg c2]
      by_cases c3 : diB (bt sg t m) = true
      · rw [if_pos c3, if_pos c3]
        obtain ⟨w, e1, e2⟩ := dg_r (sg := sg) (t := t) (t - m) m 0
        rw [show nI (min 1000 0) = 0 from rfl] at e1 e2
        rw [show nI (min 99999 0) = 0 from rfl] at e2
        refine ⟨?_, rfl, ⟨?_, ?_, ?_, ?_⟩, fun _ => ⟨w, ?_, ?_⟩, fun c => absurd rfl c⟩
        · show (dgR sg t (t - m) m 0).1 = (dg sg t (t - m) m 0).1
          rw [e2]
        · exact ⟨fun c => absurd c (show ¬ (2 : Int32) = 1 by decide), fun c => absurd c (show ¬ (2 : Int32) = 1 by decide)⟩
        · exact ⟨fun _ => rfl, fun _ => rfl⟩
        · exact ⟨fun c => absurd c (show ¬ (2 : Int32) = 3 by decide), fun c => absurd c (show ¬ (2 : Int32) = 3 by decide)⟩
        · exact ⟨fun c => absurd c (show ¬ (2 : Int32) = 0 by decide), fun c => absurd c (show ¬ (2 : Int32) = 4 by decide)⟩
        · show (dg sg t (t - m) m 0).2 = _
          rw [e1]
        · show (dgR sg t (t - m) m 0).2 = _
          rw [e2]
      · rw [if_neg c3, if_neg c3]
        by_cases c4 : bt sg t m = 59
        · rw [if_pos c4, if_pos c4]
          refine ⟨rfl, rfl, ⟨?_, ?_, ?_, ?_⟩, fun c => ?_, fun _ => rfl⟩
          · exact ⟨fun c => absurd c (show ¬ (3 : Int32) = 1 by decide), fun c => absurd c (show ¬ (3 : Int32) = 1 by decide)⟩
          · exact ⟨fun c => absurd c (show ¬ (3 : Int32) = 2 by decide), fun c => absurd c (show ¬ (3 : Int32) = 2 by decide)⟩
          · exact ⟨fun _ => rfl, fun _ => rfl⟩
          · exact ⟨fun c => absurd c (show ¬ (3 : Int32) = 0 by decide), fun c => absurd c (show ¬ (3 : Int32) = 4 by decide)⟩
          · exact absurd c (show ¬ (3 : Int32) = 2 by decide)
        · rw [if_neg c4, if_neg c4]
          refine ⟨rfl, rfl, ⟨?_, ?_, ?_, ?_⟩, fun c => ?_, fun _ => rfl⟩
          · exact ⟨fun c => absurd c (show ¬ (4 : Int32) = 1 by decide), fun c => absurd c (show ¬ (0 : Int32) = 1 by decide)⟩
          · exact ⟨fun c => absurd c (show ¬ (4 : Int32) = 2 by decide), fun c => absurd c (show ¬ (0 : Int32) = 2 by decide)⟩
          · exact ⟨fun c => absurd c (show ¬ (4 : Int32) = 3 by decide), fun c => absurd c (show ¬ (0 : Int32) = 3 by decide)⟩
          · exact ⟨fun c => absurd c (show ¬ (4 : Int32) = 0 by decide), fun c => absurd c (show ¬ (0 : Int32) = 4 by decide)⟩
          · exact absurd c (show ¬ (0 : Int32) = 2 by decide)
theorem R_ref {s : tS} {e : rS} {k : Int32} (h : tR s e) (hk : ¬ k = 0) : tR (refS s k (nI s.2.1)) (rFa e k) := by
  unfold refS rFa
  by_cases c : s.2.2.2.2.1 = 0
  · obtain ⟨g2, g3, g4, g5⟩ := tR_g h c
    rw [if_pos c, if_pos g2]
    exact Or.inr ⟨hk, show ¬ (1 : Int32) = 0 by decide, rfl, congrArg nI g4⟩
  · obtain ⟨g2, g3⟩ := tR_b h c
    rw [if_neg c, if_neg g2]
    exact h
theorem R_w {sg : Nat → Int32} {t : Nat} {s : tS} {e : rS} {i : Nat} (h : tR s e) (g : s.2.2.2.2.1 = 0) : wR sg t e i = wq sg t s i := by
  obtain ⟨g2, g3, g4, g5, g6⟩ := tR_g h g
  unfold wR wq
  rw [g3, g4]
  exact decide_eq_decide.mpr ⟨fun a => ⟨g5.1.mp a.1, a.2⟩, fun a => ⟨g5.1.mpr a.1, a.2⟩⟩
theorem R_tw {sg : Nat → Int32} {t : Nat} {s : tS} {e : rS} {i : Nat} (h : tR s e) : tR (twS sg t s i) (rPa sg t e (bz (¬ e.2.2.2.2.1 = 0 ∨ wR sg t e i = true))) := by
  unfold twS rPa
  by_cases c : s.2.2.2.2.1 = 0
  · obtain ⟨g2, g3⟩ := tR_g h c
    rw [if_pos c]
    by_cases c2 : wq sg t s i = true
    · rw [if_pos c2, if_neg (by rw [bz_t (Or.inr ((R_w h c).trans c2))]; decide), if_pos g2]
      exact R_tok h c
    · rw [if_neg c2, if_pos (bz_f (fun a => a.elim (fun b => b g2) (fun b => c2 ((R_w h c).symm.trans b))))]
      exact R_ref h (by decide)
  · obtain ⟨g2, g3⟩ := tR_b h c
    rw [if_neg c, if_neg (by rw [bz_t (Or.inl g2)]; decide), if_neg g2]
    exact h
theorem R_ts {sg : Nat → Int32} {t : Nat} {s : tS} {e : rS} (h : tR s e) : tR (tsS sg t s) (rPa sg t e (bz (¬ e.2.2.2.2.1 = 0 ∨ e.1 = 3))) := by
  unfold tsS rPa
  by_cases c : s.2.2.2.2.1 = 0
  · obtain ⟨g2, g3, g4, g5, g6⟩ := tR_g h c
    rw [if_pos c]
    by_cases c2 : s.1 = 3
    · rw [if_pos c2, if_neg (by rw [bz_t (Or.inr (g5.2.2.1.mpr c2))]; decide), if_pos g2]
      exact R_tok h c
    · rw [if_neg c2, if_pos (bz_f (fun a => a.elim (fun b => b g2) (fun b => c2 (g5.2.2.1.mp b))))]
      exact R_ref h (by decide)
  · obtain ⟨g2, g3⟩ := tR_b h c
    rw [if_neg c, if_neg (by rw [bz_t (Or.inl g2)]; decide), if_neg g2]
    exact h
theorem R_in {s : tS} {e : rS} {lo up : Int32} (h : tG s e) (h2 : s.1 = 2) (h5 : up.toInt < 1000) : (lo ≤ e.2.2.2.1 ∧ e.2.2.2.1 ≤ up ↔ ¬ (s.2.2.2.1 < lo ∨ ¬ s.2.2.2.1 ≤ up)) ∧ (s.2.2.2.1 ≤ up → e.2.2.2.1 = s.2.2.2.1) := by
  obtain ⟨w, e1, e2⟩ := h.2.2.2.1 h2
  have a1 : s.2.2.2.1 ≤ up → e.2.2.2.1 = s.2.2.2.1 := by
    intro g
    rw [e1, Int32.le_iff_toInt_le, nI_toInt (by omega)] at g
    rw [e1, e2]
    exact congrArg nI (by omega)
  have a2 : e.2.2.2.1 ≤ up → s.2.2.2.1 ≤ up := by
    intro g
    rw [e2, Int32.le_iff_toInt_le, nI_toInt (by omega)] at g
    rw [e1, Int32.le_iff_toInt_le, nI_toInt (by omega)]
    omega
  refine ⟨⟨fun g c => ?_, fun g => ?_⟩, a1⟩
  · have g3 := a1 (a2 g.2)
    exact c.elim (fun c1 => Int32.not_le.mpr c1 (g3 ▸ g.1)) (fun c1 => c1 (a2 g.2))
  · have g1 : s.2.2.2.1 ≤ up := Decidable.byContradiction (fun c => g (Or.inr c))
    rw [a1 g1]
    exact ⟨Int32.not_lt.mp (fun c => g (Or.inl c)), g1⟩
theorem R_nu {sg : Nat → Int32} {t : Nat} {s : tS} {e : rS} {lo up : Int32} (h : tR s e) (h5 : up.toInt < 1000) : tR (tnS sg t s lo up).2 (rNu sg t e lo up).2 ∧ ((tnS sg t s lo up).2.2.2.2.2.1 = 0 → (rNu sg t e lo up).1 = (tnS sg t s lo up).1) := by
  unfold tnS rNu
  by_cases c : s.2.2.2.2.1 = 0
  · obtain ⟨g2, g3⟩ := tR_g h c
    rw [if_pos c, if_pos g2]
    by_cases c2 : s.1 = 2
    · have c3 : e.1 = 2 := g3.2.2.1.2.1.mpr c2
      have r := R_in (lo := lo) (up := up) g3 c2 h5
      rw [if_pos c2, if_pos c3]
      by_cases c4 : s.2.2.2.1 < lo ∨ ¬ s.2.2.2.1 ≤ up
      · rw [if_pos c4, if_neg (fun a => r.1.mp a c4)]
        exact ⟨R_ref h (by decide), fun a => absurd a (refS_f (by decide))⟩
      · rw [if_neg c4, if_pos (r.1.mpr c4)]
        exact ⟨R_tok h c, fun _ => r.2 (Decidable.byContradiction (fun a => c4 (Or.inr a)))⟩
    · rw [if_neg c2, if_neg (fun a => c2 (g3.2.2.1.2.1.mp a))]
      exact ⟨R_ref h (by decide), fun a => absurd a (refS_f (by decide))⟩
  · obtain ⟨g2, g3⟩ := tR_b h c
    rw [if_neg c, if_neg g2]
    exact ⟨h, fun a => absurd a c⟩
theorem rNu_b {sg : Nat → Int32} {t : Nat} {e : rS} {lo up : Int32} (h : ¬ e.2.2.2.2.1 = 0) : rNu sg t e lo up = (lo, e) := by unfold rNu; rw [if_neg h]
theorem rNe_b {e : rS} {x : Int32} (h : ¬ e.2.2.2.2.1 = 0) : rNe e x = e := by unfold rNe; rw [if_neg (fun a => h a.1)]
theorem R_ne {sg : Nat → Int32} {t : Nat} {s : tS} {e : rS} {lo up x : Int32} {C : Prop} [Decidable C] (h : tR s e) (h5 : up.toInt < 1000) (hc : s.2.2.2.2.1 = 0 → s.1 = 2 → lo ≤ s.2.2.2.1 → s.2.2.2.1 ≤ up → e.2.2.2.1 = s.2.2.2.1 → (tnS sg t s lo up).1 = s.2.2.2.1 → (x = 0 ↔ C)) : tR (if (tnS sg t s lo up).2.2.2.2.2.1 = 0 ∧ C then refS (tnS sg t s lo up).2 2 (nI s.2.1) else (tnS sg t s lo up).2) (rNu sg t (rNe e x) lo up).2 ∧ ((if (tnS sg t s lo up).2.2.2.2.2.1 = 0 ∧ C then refS (tnS sg t s lo up).2 2 (nI s.2.1) else (tnS sg t s lo up).2).2.2.2.2.1 = 0 → (rNu sg t (rNe e x) lo up).1 = (tnS sg t s lo up).1) := by
  by_cases c : s.2.2.2.2.1 = 0
  · obtain ⟨g2, g3⟩ := tR_g h c
    by_cases c2 : s.1 = 2
    · have c3 : e.1 = 2 := g3.2.2.1.2.1.mpr c2
      have r := R_in (lo := lo) (up := up) g3 c2 h5
      have k2 : tR (refS s 2 (nI s.2.1)) (rFa e 2) := R_ref h (by decide)
      have k3 : rNu sg t (rFa e 2) lo up = (lo, rFa e 2) := rNu_b rFa_n
      by_cases c4 : s.2.2.2.1 < lo ∨ ¬ s.2.2.2.1 ≤ up
      · have k1 : tnS sg t s lo up = (-1, refS s 2 (nI s.2.1)) := by
          unfold tnS
          rw [if_pos c, if_pos c2, if_pos c4]
        rw [k1, if_neg (fun a => refS_f (show ¬ (2 : Int32) = 0 by decide) a.1)]
        refine ⟨?_, fun a => absurd a (refS_f (by decide))⟩
        by_cases cx : x = 0
        · rw [show rNe e x = rFa e 2 from if_pos ⟨g2, c3, cx⟩, k3]
          exact k2
        · rw [show rNe e x = e from if_neg (fun a => cx a.2.2)]
          unfold rNu
          rw [if_pos g2, if_pos c3, if_neg (fun a => r.1.mp a c4)]
          exact k2
      · have k1 : tnS sg t s lo up = (s.2.2.2.1, tokS sg t s) := by
          unfold tnS
          rw [if_pos c, if_pos c2, if_neg c4]
        have c5 : s.2.2.2.1 ≤ up := Decidable.byContradiction (fun a => c4 (Or.inr a))
        have hx := hc c c2 (Int32.not_lt.mp (fun a => c4 (Or.inl a))) c5 (r.2 c5) (by rw [k1])
        rw [k1]
        by_cases cx : x = 0
        · rw [if_pos ⟨c, hx.mp cx⟩, show rNe e x = rFa e 2 from if_pos ⟨g2, c3, cx⟩, k3]
          refine ⟨?_, fun a => absurd a (refS_f (by decide))⟩
          unfold refS rFa
          rw [if_pos (show (tokS sg t s).2.2.2.2.1 = 0 from c), if_pos g2]
          exact Or.inr ⟨show ¬ (2 : Int32) = 0 by decide, show ¬ (1 : Int32) = 0 by decide, rfl, congrArg nI g3.2.1⟩
        · rw [if_neg (fun a => cx (hx.mpr a.2)), show rNe e x = e from if_neg (fun a => cx a.2.2)]
          have n := R_nu (sg := sg) (t := t) (lo := lo) (up := up) h h5
          rw [k1] at n
          exact n
    · have n := R_nu (sg := sg) (t := t) (lo := lo) (up := up) h h5
      have k1 : tnS sg t s lo up = (-1, refS s 1 (nI s.2.1)) := by
        unfold tnS
        rw [if_pos c, if_neg c2]
      rw [show rNe e x = e from if_neg (fun a => c2 (g3.2.2.1.2.1.mp a.2.1))]
      rw [k1] at n
      rw [k1, if_neg (fun a => refS_f (show ¬ (1 : Int32) = 0 by decide) a.1)]
      exact n
  · obtain ⟨g2, g3⟩ := tR_b h c
    have k1 : tnS sg t s lo up = (-1, s) := by
      unfold tnS
      rw [if_neg c]
    rw [k1, if_neg (fun a => c a.1), rNe_b g2, rNu_b g2]
    exact ⟨h, fun a => absurd a c⟩
