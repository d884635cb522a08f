/-- a story as it lies at st -/
def sV (M : mz_M) (st : Nat) (pr ln td de : Int32) (pa ks os ts hs cs : Nat → Int32) (s l t : Int32) (q : sQ) : Prop := (M.1 st 7 = pr ∧ M.1 st 8 = ln ∧ M.1 st 9 = td ∧ M.1 st 10 = de) ∧ (M.1 (st + 7) = pa ∧ M.1 (st + 8) = ks ∧ M.1 (st + 9) = os ∧ M.1 (st + 10) = ts ∧ M.1 (st + 11) = hs ∧ M.1 (st + 12) = cs) ∧ (M.1 (st + 1) 5 = s ∧ M.1 (st + 1) 6 = l ∧ M.1 (st + 1) 7 = t ∧ M.1 (st + 1) 8 = nI q.1) ∧ (M.2.1 (st + 2) = q.2.1 ∧ M.1 (st + 3) = q.2.2.1 ∧ M.1 (st + 4) = q.2.2.2.1 ∧ M.1 (st + 5) = q.2.2.2.2.1 ∧ M.1 (st + 6) = q.2.2.2.2.2.1 ∧ M.1 (st + 1) 9 = q.2.2.2.2.2.2)
theorem sV_eta {M : mz_M} {st : Nat} {pr ln td de : Int32} {pa ks os ts hs cs : Nat → Int32} {s l t : Int32} {q : sQ} (h : sV M st pr ln td de pa ks os ts hs cs s l t q) : stQ M st pr ln td de pa ks os ts hs cs s l t q = M := by
  obtain ⟨⟨h1, h2, h3, h4⟩, ⟨h5, h6, h7, h8, h9, h10⟩, ⟨h11, h12, h13, h14⟩, ⟨h15, h16, h17, h18, h19, h20⟩⟩ := h
  have e : qM M (st + 1) q.1 = q := by
    show (q.1, M.2.1 (st + 2), M.1 (st + 3), M.1 (st + 4), M.1 (st + 5), M.1 (st + 6), M.1 (st + 1) 9) = q
    rw [h15, h16, h17, h18, h19, h20]
  subst h1
  subst h2
  subst h3
  subst h4
  subst h5
  subst h6
  subst h7
  subst h8
  subst h9
  subst h10
  subst h11
  subst h12
  subst h13
  exact (congrArg (fun q' => stQ M st _ _ _ _ _ _ _ _ _ _ _ _ _ q') e.symm).trans (stQ_eta h14)
theorem sV_st {M : mz_M} {st : Nat} {pr ln td de : Int32} {pa ks os ts hs cs : Nat → Int32} {s l t : Int32} {q : sQ} : sV (stQ M st pr ln td de pa ks os ts hs cs s l t q) st pr ln td de pa ks os ts hs cs s l t q := ⟨⟨stQ_g7, stQ_g8, stQ_g9, stQ_g10⟩, ⟨stQ_a1, stQ_a2, stQ_a3, stQ_a4, stQ_a5, stQ_a6⟩, ⟨stS_g5, stS_g6, stS_g7, stS_g8⟩, ⟨stQ_J, stQ_l, shP_a2 (sh := st + 1), stQ_m, shP_a4 (sh := st + 1), stS_g9⟩⟩
theorem sV_cg {M M' : mz_M} {st : Nat} {pr ln td de : Int32} {pa ks os ts hs cs : Nat → Int32} {s l t : Int32} {q : sQ} (h : sV M st pr ln td de pa ks os ts hs cs s l t q) (e : ∀ a, st ≤ a → a ≤ st + 12 → M'.1 a = M.1 a ∧ M'.2.1 a = M.2.1 a) : sV M' st pr ln td de pa ks os ts hs cs s l t q := by
  unfold sV
  rw [(e st (by omega) (by omega)).1, (e (st + 7) (by omega) (by omega)).1, (e (st + 8) (by omega) (by omega)).1, (e (st + 9) (by omega) (by omega)).1, (e (st + 10) (by omega) (by omega)).1, (e (st + 11) (by omega) (by omega)).1, (e (st + 12) (by omega) (by omega)).1, (e (st + 1) (by omega) (by omega)).1, (e (st + 2) (by omega) (by omega)).2, (e (st + 3) (by omega) (by omega)).1, (e (st + 4) (by omega) (by omega)).1, (e (st + 5) (by omega) (by omega)).1, (e (st + 6) (by omega) (by omega)).1]
  exact h
theorem oBB_cg {c : Nat} {l t pr : Int32} {de ln u : Nat} {pa ks os ts hs B B' : Nat → Int32} (h : oBB c l t pr de ln u pa ks os ts hs B) (hd : de ≤ 60) (e : ∀ j, j < 259 → B' j = B j) : oBB c l t pr de ln u pa ks os ts hs B' := by
  obtain ⟨h0, h1, h2, h3, h4, h5, h6, h7, h8⟩ := h
  refine ⟨(e 0 (by omega)).trans h0, (e 1 (by omega)).trans h1, (e 2 (by omega)).trans h2, (e 3 (by omega)).trans h3, (e 4 (by omega)).trans h4, (e 5 (by omega)).trans h5, (e 6 (by omega)).trans h6, fun i hi => (e _ (by omega)).trans (h7 i hi), fun i hi => ?_⟩
  obtain ⟨g0, g1, g2, g3⟩ := h8 i hi
  exact ⟨(e _ (by omega)).trans g0, (e _ (by omega)).trans g1, (e _ (by omega)).trans g2, (e _ (by omega)).trans g3⟩
/-- a story told, or none, and the reference's row beside it -/
def iW (c : Nat) (l t pr : Int32) (ln T D : Nat) (pa ks os ts hs cs : Nat → Int32) (q : sQ) (B : Nat → Int32) : Prop := (c ≤ 12 ∧ q.1 ≤ 40 ∧ ln ≤ 500 ∧ T ≤ 30 ∧ T ≤ D ∧ D ≤ T + 30) ∧ oBB c l t pr D ln (D - T) pa ks os ts hs B ∧ ((c = 0 ∧ ln = 0 ∧ D = 0 ∧ q.1 = 0) ∨ (0 < c ∧ 0 < ln ∧ (∃ b, b ≤ 2 ∧ l = nI b) ∧ (∃ b, b ≤ 20 ∧ t = nI b) ∧ tI c l t D ks os ts hs cs q))
def iS (M : mz_M) (st : Nat) (B : Nat → Int32) : Prop := ∃ (pr l t : Int32) (c ln T D : Nat) (pa ks os ts hs cs : Nat → Int32) (q : sQ), sV M st pr (nI ln) (nI T) (nI D) pa ks os ts hs cs (nI c) l t q ∧ iW c l t pr ln T D pa ks os ts hs cs q B
theorem iS_cg {M M' : mz_M} {st : Nat} {B B' : Nat → Int32} (h : iS M st B) (e : ∀ a, st ≤ a → a ≤ st + 12 → M'.1 a = M.1 a ∧ M'.2.1 a = M.2.1 a) (eB : ∀ j, j < 259 → B' j = B j) : iS M' st B' := by
  obtain ⟨pr, l, t, c, ln, T, D, pa, ks, os, ts, hs, cs, q, hv, h1, h2, h3⟩ := h
  exact ⟨pr, l, t, c, ln, T, D, pa, ks, os, ts, hs, cs, q, sV_cg hv e, h1, oBB_cg h2 (by omega) eB, h3⟩
def iT (x T : Nat) (M : mz_M) : Prop := T ≤ 500 ∧ M.1 (x + 1) 5 = nI T ∧ M.1 (x + 87) 3 = nI T ∧ (∀ i, i < T → M.1 (x + 87 + 3) i = bt (M.1 (x + 1 + 1)) T i) ∧ M.1 (x + 1) 10 = M.1 (x + 87) 4 ∧ M.1 (x + 1) 11 = M.1 (x + 87) 5
def iK (x : Nat) (M : mz_M) (k : Nat) : Prop := (M.1 (x + 87 + 14) k = 0 ∧ M.1 (x + 48 + 13 * k + 1) 5 = 0) ∨ (¬ M.1 (x + 87 + 14) k = 0 ∧ ¬ M.1 (x + 48 + 13 * k + 1) 5 = 0 ∧ iS M (x + 48 + 13 * k) (fun j => M.1 (x + 87 + 13) (259 * k + j)))
/-- class and reference say the same -/
def iV (x T p r : Nat) (M : mz_M) : Prop := g_X M.2.2 x p r ∧ g_Mo M.2.2 (x + 87) ∧ iT x T M ∧ (∀ i, ∃ c, c < 12 ∧ M.1 (x + 10 + 9) i = nI c) ∧ iS M p (M.1 (x + 87 + 1)) ∧ ∀ k, k < 3 → iK x M k
theorem iT_cg {x T : Nat} {M M' : mz_M} (h : iT x T M) (h1 : M'.1 (x + 1) = M.1 (x + 1)) (h2 : M'.1 (x + 1 + 1) = M.1 (x + 1 + 1)) (hF : ∀ k, k < 6 → M'.1 (x + 87) k = M.1 (x + 87) k) (h3 : M'.1 (x + 87 + 3) = M.1 (x + 87 + 3)) : iT x T M' := by
  unfold iT at h ⊢
  rw [h1, h2, h3, hF 3 (by omega), hF 4 (by omega), hF 5 (by omega)]
  exact h
theorem iK_cg {x k : Nat} {M M' : mz_M} (hk : k < 3) (h : iK x M k) (e : ∀ a, x + 48 ≤ a → a ≤ x + 86 → M'.1 a = M.1 a ∧ M'.2.1 a = M.2.1 a) (h1 : ∀ j, j < 259 → M'.1 (x + 87 + 13) (259 * k + j) = M.1 (x + 87 + 13) (259 * k + j)) (h2 : M'.1 (x + 87 + 14) k = M.1 (x + 87 + 14) k) : iK x M' k := by
  rcases h with h | ⟨h, g, i⟩
  · exact Or.inl ⟨h2.trans h.1, by rw [(e _ (by omega) (by omega)).1]; exact h.2⟩
  · exact Or.inr ⟨by rw [h2]; exact h, by rw [(e _ (by omega) (by omega)).1]; exact g, iS_cg i (fun a a1 a2 => e a (by omega) (by omega)) (fun j hj => h1 j hj)⟩
theorem iV_cg {x T p r : Nat} {M M' : mz_M} (h : iV x T p r M) (hR : M'.2.2 = M.2.2) (hA : ∀ a, (a < x + 4 ∨ x + 22 ≤ a) → a < x + 87 → M'.1 a = M.1 a ∧ M'.2.1 a = M.2.1 a) (hk : ∀ i, ∃ c, c < 12 ∧ M'.1 (x + 10 + 9) i = nI c) (hF : ∀ k, k < 6 → M'.1 (x + 87) k = M.1 (x + 87) k) (hB : ∀ j, (j = 1 ∨ j = 3 ∨ j = 13 ∨ j = 14) → M'.1 (x + 87 + j) = M.1 (x + 87 + j)) : iV x T p r M' := by
  obtain ⟨w, wm, a1, a2, a3, a4⟩ := h
  have pq := X_pq w
  refine ⟨by rw [hR]; exact w, by rw [hR]; exact wm, iT_cg a1 (hA _ (by omega) (by omega)).1 (hA _ (by omega) (by omega)).1 hF (hB 3 (by omega)), hk, ?_, fun k h3 => ?_⟩
  · rw [hB 1 (by omega)]
    exact iS_cg a3 (fun a g1 g2 => hA a (by omega) (by omega)) (fun j _ => rfl)
  · exact iK_cg h3 (a4 k h3) (fun a g1 g2 => hA a (by omega) (by omega)) (fun j _ => by rw [hB 13 (by omega)]) (by rw [hB 14 (by omega)])
/-- between the class's rows for trying and the rest -/
def kP (x : Nat) (M M1 : mz_M) : Prop := M1.2.2 = M.2.2 ∧ (∀ a, (a < x + 4 ∨ x + 22 ≤ a) → M1.1 a = M.1 a ∧ M1.2.1 a = M.2.1 a) ∧ ∀ i, ∃ c, c < 12 ∧ M1.1 (x + 10 + 9) i = nI c
theorem kP_r {x T p r : Nat} {M : mz_M} (h : iV x T p r M) : kP x M M := ⟨rfl, fun _ _ => ⟨rfl, rfl⟩, h.2.2.2.1⟩
theorem mr0 {sc : Option (Nat × Nat × (Nat → Int32))} {sa : Nat → Nat} {d : Nat} {M : mz_M} {z : Nat × Nat} {m y : Nat} {args : List Value} {F : Nat → Int32} {A : Nat → Nat → Int32} {v : Int32} (h : zx sc sa d y args (moF M m F A) z z (some (.int v)) (moF M m F A)) : zi sc sa d y args (moF M m F A) z (mR M m F A v) := zi_x h ⟨rfl, F, A, rfl, mPe_r⟩
theorem moF_e2 {M : mz_M} {m : Nat} {F : Nat → Int32} {A : Nat → Nat → Int32} (h : M.1 m = F) (h2 : ∀ j, 0 < j → j ≤ 20 → M.1 (m + j) = A j) : moF M m F A = M := by
  refine Prod.ext (funext fun a => ?_) rfl
  show (if a = m then F else if m < a ∧ a ≤ m + 20 then A (a - m) else M.1 a) = M.1 a
  by_cases c1 : a = m
  · rw [if_pos c1, c1, h]
  · rw [if_neg c1]
    by_cases c2 : m < a ∧ a ≤ m + 20
    · rw [if_pos c2, ← h2 (a - m) (by omega) (by omega), show m + (a - m) = a by omega]
    · rw [if_neg c2]
/-- a call of the class, then the reference's -/
def tw (sc : Option (Nat × Nat × (Nat → Int32))) (sa : Nat → Nat) (d yx ym : Nat) (ax am : List Value) (M : mz_M) (z : Nat × Nat) (P : mz_M → Prop) : Prop := zi sc sa d yx ax M z (fun v M1 => M1.2.2.2 = M.2.2.2 ∧ zi sc sa d ym am M1 z (fun v' M2 => v' = v ∧ P M2))
theorem tw_e {sc : Option (Nat × Nat × (Nat → Int32))} {sa : Nat → Nat} {d : Nat} {M : mz_M} {z : Nat × Nat} {x T p r : Nat} (h : iV x T p r M) {ym : Nat} {am : List Value} {v : Int32} {M1 : mz_M} (hk : kP x M M1) (hm : zi sc sa d ym am (moF M1 (x + 87) (M.1 (x + 87)) (fun j => M.1 (x + 87 + j))) z (mR M1 (x + 87) (M.1 (x + 87)) (fun j => M.1 (x + 87 + j)) v)) : zi sc sa d ym am M1 z (fun v' M2 => v' = v ∧ ∃ p r, iV x T p r M2) := by
  have e : moF M1 (x + 87) (M.1 (x + 87)) (fun j => M.1 (x + 87 + j)) = M1 := moF_e2 (hk.2.1 _ (by omega)).1 (fun j _ _ => (hk.2.1 _ (by omega)).1)
  rw [e] at hm
  refine zi_m (fun v' M2 g => ?_) hm
  obtain ⟨g1, F', A', rfl, g3, g4⟩ := g
  refine ⟨g1, p, r, iV_cg h hk.1 (fun a a1 a2 => ⟨(moF_o (by omega)).trans (hk.2.1 a a1).1, (hk.2.1 a a1).2⟩) (fun i => ?_) (fun k h6 => by rw [moF_g]; exact g3 k h6) (fun j hj => by rw [moF_a (by omega) (by omega)]; exact g4 j hj)⟩
  obtain ⟨c, c1, c2⟩ := hk.2.2 i
  exact ⟨c, c1, by rw [moF_o (by omega)]; exact c2⟩
theorem tw_g {sc : Option (Nat × Nat × (Nat → Int32))} {sa : Nat → Nat} {d : Nat} {M : mz_M} {z : Nat × Nat} {x T p r : Nat} (h : iV x T p r M) {yx ym : Nat} {ax am : List Value} {v : Int32} (hx : zi sc sa d yx ax M z (fun v' M1 => v' = v ∧ kP x M M1)) (hm : ∀ M1, g_Mo M1.2.2 (x + 87) → zi sc sa d ym am (moF M1 (x + 87) (M.1 (x + 87)) (fun j => M.1 (x + 87 + j))) z (mR M1 (x + 87) (M.1 (x + 87)) (fun j => M.1 (x + 87 + j)) v)) : tw sc sa d yx ym ax am M z (fun M2 => ∃ p r, iV x T p r M2) := by
  refine zi_m (fun v' M1 g => ?_) hx
  obtain ⟨rfl, hk⟩ := g
  exact ⟨congrArg Prod.snd hk.1, tw_e h hk (hm M1 (by rw [hk.1]; exact h.2.1))⟩
theorem tw_q {sc : Option (Nat × Nat × (Nat → Int32))} {sa : Nat → Nat} {d : Nat} {M : mz_M} {z : Nat × Nat} {x T p r : Nat} (h : iV x T p r M) {yx ym : Nat} {ax am : List Value} {v : Int32} (hx : zx sc sa d yx ax M z z (some (.int v)) M) (hm : ∀ M1, g_Mo M1.2.2 (x + 87) → zi sc sa d ym am (moF M1 (x + 87) (M.1 (x + 87)) (fun j => M.1 (x + 87 + j))) z (mR M1 (x + 87) (M.1 (x + 87)) (fun j => M.1 (x + 87 + j)) v)) : tw sc sa d yx ym ax am M z (fun M2 => ∃ p r, iV x T p r M2) := tw_g h (zi_x hx ⟨rfl, kP_r h⟩) hm
theorem vI_0 {a : Int32} : ¬ vI 0 a := fun h => absurd h.1 (by rw [Int32.not_le]; have g := h.2; rw [nI_0] at g; exact g)
theorem vI_n {n : Nat} {a : Int32} (h : vI n a) (hn : n < 2 ^ 31) : ∃ j, j < n ∧ a = nI j := by
  obtain ⟨j, h1, h2⟩ := nI_of (x := a) (fun g => absurd h.1 (by rw [Int32.not_le]; exact g))
  refine ⟨j, ?_, h2⟩
  have h3 := h.2
  rw [h2] at h3
  exact (nI_ltI h1 hn).mp h3
theorem vI_j {n j : Nat} (hj : j < n) (hn : n < 2 ^ 31) : vI n (nI j) := ⟨nI_pos' (by omega), nI_lt hj hn⟩
