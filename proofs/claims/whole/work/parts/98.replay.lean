def qP (q q' : sQ) : Prop := q'.1 = q.1 ∧ ∀ v, v < q.1 → q'.2.1 v = q.2.1 v ∧ q'.2.2.2.2.1 v = q.2.2.2.2.1 v ∧ q'.2.2.2.2.2.1 v = q.2.2.2.2.2.1 v
theorem qP_r {q : sQ} : qP q q := ⟨rfl, fun _ _ => ⟨rfl, rfl, rfl⟩⟩
theorem qP_t {q1 q2 q3 : sQ} (h : qP q1 q2) (g : qP q2 q3) : qP q1 q3 := ⟨g.1.trans h.1, fun v hv => by
  obtain ⟨a1, a2, a3⟩ := h.2 v hv
  obtain ⟨b1, b2, b3⟩ := g.2 v (by rw [h.1]; exact hv)
  exact ⟨b1.trans a1, b2.trans a2, b3.trans a3⟩⟩
theorem qP_s {q1 q2 : sQ} (h : qP q1 q2) : qP q2 q1 := ⟨h.1.symm, fun v hv => by
  obtain ⟨a1, a2, a3⟩ := h.2 v (by rw [← h.1]; exact hv)
  exact ⟨a1.symm, a2.symm, a3.symm⟩⟩
theorem qP_of {q q' : sQ} (h : stE q q') : qP q q' := ⟨h.1, fun v hv => ⟨(h.2 v hv).1, (h.2 v hv).2.2.2.1, (h.2 v hv).2.2.2.2⟩⟩
theorem qP_rd {s l t : Int32} {j : Nat} {cell : Int32} {q : sQ} : qP q (rdQ s l t j cell q) := ⟨rfl, fun _ _ => ⟨rfl, rfl, rfl⟩⟩
theorem qP_fr {s l t : Int32} {k j : Nat} {a : Int32} {q : sQ} : qP q (frQ s l t k j a q).2 := ⟨rfl, fun _ _ => ⟨rfl, rfl, rfl⟩⟩
theorem qP_sn {s : Int32} {j : Nat} {q : sQ} : qP q (snQ s j q).2 := by
  by_cases h : q.2.2.1 j = -1
  · rw [sn_d h]; exact qP_r
  · rw [sn_n h]; exact ⟨rfl, fun _ _ => ⟨rfl, rfl, rfl⟩⟩
theorem qP_set {s l t l' t' : Int32} {j : Nat} {cell x : Int32} {q q' : sQ} (h : qP q q') (hj : j < q.1) : qP (setQ s l t j cell x q) (setQ s l' t' j cell x q') := by
  obtain ⟨e1, e2⟩ := h
  unfold setQ
  rw [e1]
  refine ⟨rfl, fun v hv => ?_⟩
  have hv2 : v < q.1 + 1 := hv
  refine ⟨?_, ?_, ?_⟩
  · show va_up q'.2.1 q.1 (wnI (q'.2.1 j) cell x) v = va_up q.2.1 q.1 (wnI (q.2.1 j) cell x) v
    rw [(e2 j hj).1]
    by_cases ev : v = q.1
    · rw [ev, up_s, up_s]
    · rw [up_n ev, up_n ev]; exact (e2 v (by omega)).1
  · show va_up q'.2.2.2.2.1 q.1 (nI j) v = va_up q.2.2.2.2.1 q.1 (nI j) v
    by_cases ev : v = q.1
    · rw [ev, up_s, up_s]
    · rw [up_n ev, up_n ev]; exact (e2 v (by omega)).2.1
  · show va_up q'.2.2.2.2.2.1 q.1 cell v = va_up q.2.2.2.2.2.1 q.1 cell v
    by_cases ev : v = q.1
    · rw [ev, up_s, up_s]
    · rw [up_n ev, up_n ev]; exact (e2 v (by omega)).2.2
theorem qP_lo {c v N : Nat} {s l t l' t' : Int32} {fr row : Int64} {q q' : sQ} (h : qP q q') (hI : qI c q) (hV : qV c q) (hv : v < q.1) (hC : c ≤ 12) (hrow : ∀ i, i < c → ∃ y, y < c ∧ nmI row (nI i) = nI y) (hN : N ≤ 200) (hcap : q.1 + dfN fr row c ≤ N) : ∀ i, i ≤ c → (fo (loG s l' t' fr row) (v, q') i).1 = (fo (loG s l t fr row) (v, q) i).1 ∧ qP (fo (loG s l t fr row) (v, q) i).2 (fo (loG s l' t' fr row) (v, q') i).2 := by
  intro i
  induction i with
  | zero => intro _; exact ⟨rfl, h⟩
  | succ i ih =>
    intro hi
    obtain ⟨a1, a2⟩ := ih (by omega)
    obtain ⟨g1, g2, g3, g4, g5⟩ := lo_ok (s := s) (l := l) (t := t) hI hV hv hC hrow hN hcap i (by omega)
    have e1 : fo (loG s l t fr row) (v, q) (i + 1) = loG s l t fr row i (fo (loG s l t fr row) (v, q) i) := rfl
    have e2 : fo (loG s l' t' fr row) (v, q') (i + 1) = loG s l' t' fr row i (fo (loG s l' t' fr row) (v, q') i) := rfl
    rw [e1, e2]
    generalize fo (loG s l t fr row) (v, q) i = X at a1 a2 g1 g2 g3 g4 g5 ⊢
    generalize fo (loG s l' t' fr row) (v, q') i = Y at a1 a2 ⊢
    by_cases c1 : nmI fr (nI i) = nmI row (nI i)
    · rw [loG_e c1, loG_e c1]; exact ⟨a1, a2⟩
    · rw [loG_n c1, loG_n c1, a1]
      exact ⟨a2.1, qP_set a2 g1⟩
theorem mgR_p {c a b : Nat} {q q' : sQ} (h : qP q q') (hI : qI c q) (ha : a < q.1) (hb : b < q.1) : mgR c a b q' = mgR c a b q := by
  have b2 := hI.2.1
  have hm : mtN q.2.2.2.2.1 (2 * q.1) a b < q.1 := mtN_lt hI.2.2.2.2.1 (by omega) _ _ _ ha hb
  unfold mgR
  rw [h.1, mt_c hI.2.2.2.2.1 (by omega) (fun v hv => (h.2 v hv).2.1) _ a b ha hb, (h.2 a ha).1, (h.2 b hb).1, (h.2 _ hm).1]
theorem paR_p {c a b e : Nat} {q q' : sQ} (h : qP q q') (ha : a < q.1) (hb : b < q.1) (he : e < q.1) : paR c a b e q' = paR c a b e q := by
  unfold paR
  rw [(h.2 a ha).1, (h.2 b hb).1, (h.2 e he).1]
theorem frQ_J {s l t : Int32} {k j : Nat} {a : Int32} {q : sQ} : (frQ s l t k j a q).2.2.1 = q.2.1 := rfl
theorem qP_ca {c N k a b e : Nat} {l t l' t' : Int32} {q q' : sQ} (h : qP q q') (hI : qI c q) (hV : qV c q) (hC : c ≤ 12) (hN : N ≤ 200) (hd : dV c N k a b e q) : qP (caQ (nI c) l t c k a b e q).2 (caQ (nI c) l' t' c k a b e q').2 := by
  match k, hd with
  | 1, hd => exact qP_t (qP_s qP_rd) (qP_t h qP_rd)
  | 2, hd => exact qP_set h hd.1
  | 3, hd =>
    obtain ⟨h1, h2, h3, h4⟩ := hd
    show qP (setQ (nI c) l t a (if _ < _ then _ else _) (if _ < _ then _ else _) _) (setQ (nI c) l' t' a (if _ < _ then _ else _) (if _ < _ then _ else _) _)
    simp only [frQ_1, frQ_J]
    rw [(h.2 a h1).1]
    exact qP_set (qP_t (qP_s (qP_t qP_fr qP_fr)) (qP_t h (qP_t qP_fr qP_fr))) h1
  | 4, hd => exact qP_t (qP_s qP_fr) (qP_t h qP_fr)
  | 5, hd => exact qP_t (qP_s qP_sn) (qP_t h qP_sn)
  | 6, hd =>
    obtain ⟨h1, h2, h3⟩ := hd
    have g := qP_lo (s := nI c) (l := l) (t := t) (l' := l') (t' := t') (v := a) h hI hV h1 hC (mgR_c hV hC h1 h2) hN h3 c (Nat.le_refl _)
    show qP (fo (loG (nI c) l t (q.2.1 a) (mgR c a b q)) (a, q) c).2 (fo (loG (nI c) l' t' (q'.2.1 a) (mgR c a b q')) (a, q') c).2
    rw [mgR_p h hI h1 h2, (h.2 a h1).1]
    exact g.2
  | 7, hd =>
    obtain ⟨h1, h2, h3, h4⟩ := hd
    have g := qP_lo (s := nI c) (l := l) (t := t) (l' := l') (t' := t') (v := e) h hI hV h3 hC (paR_c hV hC h2 h3) hN h4 c (Nat.le_refl _)
    show qP (fo (loG (nI c) l t (q.2.1 e) (paR c a b e q)) (e, q) c).2 (fo (loG (nI c) l' t' (q'.2.1 e) (paR c a b e q')) (e, q') c).2
    rw [paR_p h h1 h2 h3, (h.2 e h3).1]
    exact g.2
  | 0, hd => exact hd.elim
  | k + 8, hd => exact hd.elim
theorem dV_p {c N k a b e : Nat} {q q' : sQ} (h : qP q q') (hI : qI c q) (hd : dV c N k a b e q) : dV c N k a b e q' := by
  match k, hd with
  | 1, hd => exact ⟨by rw [h.1]; exact hd.1, hd.2⟩
  | 2, hd => exact ⟨by rw [h.1]; exact hd.1, by rw [h.1]; exact hd.2.1, hd.2.2⟩
  | 3, hd => exact ⟨by rw [h.1]; exact hd.1, by rw [h.1]; exact hd.2.1, hd.2.2⟩
  | 4, hd => exact ⟨by rw [h.1]; exact hd.1, hd.2⟩
  | 5, hd => exact (show a < q'.1 by rw [h.1]; exact hd)
  | 6, hd =>
    obtain ⟨h1, h2, h3⟩ := hd
    refine ⟨by rw [h.1]; exact h1, by rw [h.1]; exact h2, ?_⟩
    show q'.1 + dfN (q'.2.1 a) (mgR c a b q') c ≤ N
    rw [h.1, mgR_p h hI h1 h2, (h.2 a h1).1]
    exact h3
  | 7, hd =>
    obtain ⟨h1, h2, h3, h4⟩ := hd
    refine ⟨by rw [h.1]; exact h1, by rw [h.1]; exact h2, by rw [h.1]; exact h3, ?_⟩
    show q'.1 + dfN (q'.2.1 e) (paR c a b e q') c ≤ N
    rw [h.1, paR_p h h1 h2 h3, (h.2 e h3).1]
    exact h4
  | 0, hd => exact hd.elim
  | k + 8, hd => exact hd.elim
theorem cn_mono (p : Nat → Bool) {a b : Nat} (h : a ≤ b) : cn p a ≤ cn p b := by
  induction b with
  | zero => rw [Nat.le_zero.mp h]; exact Nat.le_refl _
  | succ b ih =>
    by_cases e : a = b + 1
    · rw [e]; exact Nat.le_refl _
    · have := ih (by omega)
      show cn p a ≤ cn p b + (bif p b then 1 else 0)
      omega
theorem lo_cap {c v N : Nat} {s l t : Int32} {row : Int64} {q : sQ} (hI : qI c q) (hV : qV c q) (hv : v < q.1) (hC : c ≤ 12) (hrow : ∀ i, i < c → ∃ y, y < c ∧ nmI row (nI i) = nI y) (hN : N ≤ 200) (hcap : q.1 + dfN (q.2.1 v) row c ≤ N) : loC s l t c N v row q := by
  intro i hi hne
  have g := (lo_ok (s := s) (l := l) (t := t) hI hV hv hC hrow hN hcap i (by omega)).2.1
  rw [g]
  have h1 : dfN (q.2.1 v) row (i + 1) = dfN (q.2.1 v) row i + 1 := cn_t (by show (!decide _) = true; rw [decide_eq_false hne]; rfl)
  have h2 : dfN (q.2.1 v) row (i + 1) ≤ dfN (q.2.1 v) row c := cn_mono _ (by omega)
  omega
theorem va_of {c N k a b e : Nat} {l t : Int32} {q : sQ} (hI : qI c q) (hV : qV c q) (hC : c ≤ 12) (hN : N ≤ 200) (hd : dV c N k a b e q) : vaQ (nI c) l t c N k a b e q := by
  match k, hd with
  | 1, hd => exact hd.1
  | 2, hd => exact ⟨hd.1, hd.2.1⟩
  | 3, hd => exact ⟨hd.1, hd.2.1⟩
  | 4, hd => exact hd.1
  | 5, hd => exact hd
  | 6, hd => exact ⟨hd.1, hd.2.1, hI.2.2.2.2.1, lo_cap hI hV hd.1 hC (mgR_c hV hC hd.1 hd.2.1) hN hd.2.2⟩
  | 7, hd => exact ⟨hd.1, hd.2.1, hd.2.2.1, lo_cap hI hV hd.2.2.1 hC (paR_c hV hC hd.2.1 hd.2.2.1) hN hd.2.2.2⟩
  | 0, hd => exact hd.elim
  | k + 8, hd => exact hd.elim
-- replays
def qz : sQ := (0, fun _ => 0, fun _ => 0, fun _ => 0, fun _ => 0, fun _ => 0, 0)
def cnQ (c : Nat) (l t : Int32) (K P1 P2 P3 : Nat → Nat) (D : Nat) : sQ := fo (plG (nI c) l t c K P1 P2 P3 (-1)) (bgQ (ownR c) qz) D
def tW (c N : Nat) (K P1 P2 P3 : Nat → Nat) (D : Nat) : Prop := ∀ i, i < D → dV c N (K i) (P1 i) (P2 i) (P3 i) (cnQ c 0 0 K P1 P2 P3 i)
def skO (K : Nat → Nat) (sk : Int32) : Prop := ∀ i, i < 60 → nI i = sk → K i = 1 ∨ K i = 4 ∨ K i = 5
theorem sk_n {K : Nat → Nat} : skO K (-1) := fun i hi h => absurd h (nI_m1 (by omega))
theorem ca_skip {s l t : Int32} {c k a b e : Nat} {q : sQ} (h : k = 1 ∨ k = 4 ∨ k = 5) : qP q (caQ s l t c k a b e q).2 := by
  rcases h with rfl | rfl | rfl
  · exact qP_rd
  · exact qP_fr
  · exact qP_sn
theorem cn_s {c : Nat} {l t : Int32} {K P1 P2 P3 : Nat → Nat} {i : Nat} (hi : i < 2 ^ 31) : cnQ c l t K P1 P2 P3 (i + 1) = (caQ (nI c) l t c (K i) (P1 i) (P2 i) (P3 i) (cnQ c l t K P1 P2 P3 i)).2 := if_neg (nI_m1 hi)
theorem cn_ok {c N : Nat} {K P1 P2 P3 : Nat → Nat} {D : Nat} (hC : c ≤ 12) (hN : N ≤ 200) (h1N : 1 ≤ N) (hD : D ≤ 60) (hW : tW c N K P1 P2 P3 D) : ∀ i, i ≤ D → qI c (cnQ c 0 0 K P1 P2 P3 i) ∧ qV c (cnQ c 0 0 K P1 P2 P3 i) ∧ (cnQ c 0 0 K P1 P2 P3 i).1 ≤ N := pl_ok hC hN hD qI_bg (qV_bg hC) h1N hW
theorem rp_pl {c N : Nat} {K P1 P2 P3 : Nat → Nat} {D : Nat} {l t sk : Int32} {q0 : sQ} (hC : c ≤ 12) (hN : N ≤ 200) (h1N : 1 ≤ N) (hD : D ≤ 60) (hW : tW c N K P1 P2 P3 D) (hs : skO K sk) (h0 : qP (bgQ (ownR c) qz) q0) (hI0 : qI c q0) (hV0 : qV c q0) : ∀ i, i ≤ D → qP (cnQ c 0 0 K P1 P2 P3 i) (fo (plG (nI c) l t c K P1 P2 P3 sk) q0 i) ∧ qI c (fo (plG (nI c) l t c K P1 P2 P3 sk) q0 i) ∧ qV c (fo (plG (nI c) l t c K P1 P2 P3 sk) q0 i) ∧ (fo (plG (nI c) l t c K P1 P2 P3 sk) q0 i).1 ≤ N := by
  intro i
  induction i with
  | zero => intro _; exact ⟨h0, hI0, hV0, by show q0.1 ≤ N; rw [h0.1]; exact h1N⟩
  | succ i ih =>
    intro hi
    obtain ⟨a1, a2, a3, a4⟩ := ih (by omega)
    obtain ⟨b1, b2, b3⟩ := cn_ok hC hN h1N hD hW i (by omega)
    have hd := hW i (by omega)
    rw [cn_s (by omega)]
    have e1 : fo (plG (nI c) l t c K P1 P2 P3 sk) q0 (i + 1) = if nI i = sk then (fo (plG (nI c) l t c K P1 P2 P3 sk) q0 i) else (caQ (nI c) l t c (K i) (P1 i) (P2 i) (P3 i) (fo (plG (nI c) l t c K P1 P2 P3 sk) q0 i)).2 := rfl
    rw [e1]
    generalize fo (plG (nI c) l t c K P1 P2 P3 sk) q0 i = X at a1 a2 a3 a4 ⊢
    have a1' : qP (cnQ c 0 0 K P1 P2 P3 i) X := a1
    by_cases hk : nI i = sk
    · rw [if_pos hk]
      exact ⟨qP_t (qP_s (ca_skip (hs i (by omega) hk))) a1', a2, a3, a4⟩
    · rw [if_neg hk]
      exact ⟨qP_ca a1' b1 b2 hC hN hd, ca_ok (show qI c X from a2) (show qV c X from a3) hC hN a4 (dV_p a1' b1 hd)⟩
theorem rp_pm {c N : Nat} {K P1 P2 P3 : Nat → Nat} {D : Nat} {l t sk : Int32} {q0 : sQ} (hC : c ≤ 12) (hN : N ≤ 200) (h1N : 1 ≤ N) (hD : D ≤ 60) (hW : tW c N K P1 P2 P3 D) (hs : skO K sk) (h0 : qP (bgQ (ownR c) qz) q0) (hI0 : qI c q0) (hV0 : qV c q0) : ∀ i, i ≤ D → qP (cnQ c 0 0 K P1 P2 P3 i) (fo (pmG (nI c) l t c K P1 P2 P3 sk) q0 i) ∧ qI c (fo (pmG (nI c) l t c K P1 P2 P3 sk) q0 i) ∧ qV c (fo (pmG (nI c) l t c K P1 P2 P3 sk) q0 i) ∧ (fo (pmG (nI c) l t c K P1 P2 P3 sk) q0 i).1 ≤ N := by
  intro i
  induction i with
  | zero => intro _; exact ⟨h0, hI0, hV0, by show q0.1 ≤ N; rw [h0.1]; exact h1N⟩
  | succ i ih =>
    intro hi
    obtain ⟨a1, a2, a3, a4⟩ := ih (by omega)
    obtain ⟨b1, b2, b3⟩ := cn_ok hC hN h1N hD hW i (by omega)
    have hd := hW i (by omega)
    rw [cn_s (by omega)]
    have e1 : fo (pmG (nI c) l t c K P1 P2 P3 sk) q0 (i + 1) = if nI i = sk then (qS 0 (fo (pmG (nI c) l t c K P1 P2 P3 sk) q0 i)) else (caQ (nI c) l t c (K i) (P1 i) (P2 i) (P3 i) (qS 0 (fo (pmG (nI c) l t c K P1 P2 P3 sk) q0 i))).2 := rfl
    rw [e1]
    generalize fo (pmG (nI c) l t c K P1 P2 P3 sk) q0 i = X at a1 a2 a3 a4 ⊢
    have a1' : qP (cnQ c 0 0 K P1 P2 P3 i) (qS 0 X) := a1
    by_cases hk : nI i = sk
    · rw [if_pos hk]
      exact ⟨qP_t (qP_s (ca_skip (hs i (by omega) hk))) a1', a2, a3, a4⟩
    · rw [if_neg hk]
      exact ⟨qP_ca a1' b1 b2 hC hN hd, ca_ok (show qI c (qS 0 X) from a2) (show qV c (qS 0 X) from a3) hC hN a4 (dV_p a1' b1 hd)⟩
theorem bg_P {row : Int64} {q q' : sQ} : qP (bgQ row q) (bgQ row q') := ⟨rfl, fun v hv => by
  have e : v = 0 := by have : v < 1 := hv; omega
  subst e
  exact ⟨by show va_up q'.2.1 0 row 0 = va_up q.2.1 0 row 0; rw [up_s, up_s], by show va_up q'.2.2.2.2.1 0 (-1) 0 = va_up q.2.2.2.2.1 0 (-1) 0; rw [up_s, up_s], by show va_up q'.2.2.2.2.2.1 0 (-1) 0 = va_up q.2.2.2.2.2.1 0 (-1) 0; rw [up_s, up_s]⟩⟩
theorem bgS_P {p : Int32} {row : Int64} {q q' : sQ} : qP (bgQ row q) (qS p (bgQ row q')) := bg_P
section
variable {c N : Nat} {K P1 P2 P3 : Nat → Nat} {D : Nat} {l t sk : Int32} (hC : c ≤ 12) (hN : N ≤ 200) (h1N : 1 ≤ N) (hD : D ≤ 60) (hW : tW c N K P1 P2 P3 D)
theorem c_plW {c N : Nat} {K P1 P2 P3 : Nat → Nat} {D : Nat} {l t : Int32} (hC : c ≤ 12) (hN : N ≤ 200) (h1N : 1 ≤ N) (hD : D ≤ 60) (hW : tW c N K P1 P2 P3 D) (p : Int32) (q0 : sQ) : plW l t c N K P1 P2 P3 (qS p (bgQ (ownR c) q0)) D := fun i hi => dV_p (rp_pl (l := l) (t := t) (q0 := qS p (bgQ (ownR c) q0)) hC hN h1N hD hW sk_n (bgS_P (p := p) (q' := q0)) (qI_bg (row := ownR c) (q := q0)) (qV_bg (q := q0) hC) i (by omega)).1 (cn_ok hC hN h1N hD hW i (by omega)).1 (hW i hi)
theorem c_pmV {c N : Nat} {K P1 P2 P3 : Nat → Nat} {D : Nat} {l t sk : Int32} (hC : c ≤ 12) (hN : N ≤ 200) (h1N : 1 ≤ N) (hD : D ≤ 60) (hW : tW c N K P1 P2 P3 D) (hs : skO K sk) (p : Int32) (q0 : sQ) : pmV l t c N K P1 P2 P3 sk (qS p (bgQ (ownR c) q0)) D := fun i hi _ => dV_p (rp_pm (l := l) (t := t) (q0 := qS p (bgQ (ownR c) q0)) hC hN h1N hD hW hs (bgS_P (p := p) (q' := q0)) (qI_bg (row := ownR c) (q := q0)) (qV_bg (q := q0) hC) i (by omega)).1 (cn_ok hC hN h1N hD hW i (by omega)).1 (hW i hi)
theorem c_plV {c N : Nat} {K P1 P2 P3 : Nat → Nat} {D : Nat} {l t sk : Int32} (hC : c ≤ 12) (hN : N ≤ 200) (h1N : 1 ≤ N) (hD : D ≤ 60) (hW : tW c N K P1 P2 P3 D) (hs : skO K sk) (q0 : sQ) : plV (nI c) l t c N K P1 P2 P3 sk (bgQ (ownR c) q0) D := fun i hi => by
  obtain ⟨a1, a2, a3, a4⟩ := rp_pl (l := l) (t := t) hC hN h1N hD hW hs bg_P (qI_bg (row := ownR c) (q := q0)) (qV_bg (q := q0) hC) i (by omega)
  exact ⟨a4, a2.2.2.1.1, fun _ => va_of a2 a3 hC hN (dV_p a1 (cn_ok hC hN h1N hD hW i (by omega)).1 (hW i hi))⟩
end
theorem qD_r {q : sQ} : qD 0 q q := ⟨stE_r, (Int32.add_zero _).symm⟩
theorem bg_D {row : Int64} {q q' : sQ} : qD 0 (bgQ row q) (bgQ row q') := ⟨st_bg (p := 0), rfl⟩
theorem pl_D {c N : Nat} {K P1 P2 P3 : Nat → Nat} {D : Nat} {l t sk e : Int32} {q0 q1 : sQ} (hC : c ≤ 12) (hN : N ≤ 200) (h1N : 1 ≤ N) (hD : D ≤ 60) (hW : tW c N K P1 P2 P3 D) (hs : skO K sk) (h : qD e (bgQ (ownR c) q0) q1) : ∀ i, i ≤ D → qD e (fo (plG (nI c) l t c K P1 P2 P3 sk) (bgQ (ownR c) q0) i) (fo (plG (nI c) l t c K P1 P2 P3 sk) q1 i) := by
  intro i
  induction i with
  | zero => intro _; exact h
  | succ i ih =>
    intro hi
    have a0 := ih (by omega)
    obtain ⟨a1, a2, a3, a4⟩ := rp_pl (l := l) (t := t) hC hN h1N hD hW hs bg_P (qI_bg (row := ownR c) (q := q0)) (qV_bg (q := q0) hC) i (by omega)
    have hd := dV_p a1 (cn_ok hC hN h1N hD hW i (by omega)).1 (hW i (by omega))
    have e1 : ∀ X, fo (plG (nI c) l t c K P1 P2 P3 sk) X (i + 1) = if nI i = sk then (fo (plG (nI c) l t c K P1 P2 P3 sk) X i) else (caQ (nI c) l t c (K i) (P1 i) (P2 i) (P3 i) (fo (plG (nI c) l t c K P1 P2 P3 sk) X i)).2 := fun _ => rfl
    rw [e1, e1]
    by_cases hk : nI i = sk
    · rw [if_pos hk, if_pos hk]; exact a0
    · rw [if_neg hk, if_neg hk]
      exact (qD_ca a0 a2 a3 hC hN hd).2
theorem i32_ac (a b : Int32) : b = a + (b - a) := by rw [Int32.add_comm, Int32.sub_add_cancel]
theorem pm_D {c N : Nat} {K P1 P2 P3 : Nat → Nat} {D : Nat} {l t sk : Int32} {q0 q1 : sQ} (hC : c ≤ 12) (hN : N ≤ 200) (h1N : 1 ≤ N) (hD : D ≤ 60) (hW : tW c N K P1 P2 P3 D) (hs : skO K sk) (h : stE (bgQ (ownR c) q0) q1) : ∀ i, i ≤ D → stE (fo (plG (nI c) l t c K P1 P2 P3 sk) (bgQ (ownR c) q0) i) (fo (pmG (nI c) l t c K P1 P2 P3 sk) q1 i) ∧ (i < D → (fo (pmG (nI c) l t c K P1 P2 P3 sk) q1 (i + 1)).2.2.2.2.2.2 = (fo (plG (nI c) l t c K P1 P2 P3 sk) (bgQ (ownR c) q0) (i + 1)).2.2.2.2.2.2 - (fo (plG (nI c) l t c K P1 P2 P3 sk) (bgQ (ownR c) q0) i).2.2.2.2.2.2) := by
  have key : ∀ i, i < D → stE (fo (plG (nI c) l t c K P1 P2 P3 sk) (bgQ (ownR c) q0) i) (fo (pmG (nI c) l t c K P1 P2 P3 sk) q1 i) → stE (fo (plG (nI c) l t c K P1 P2 P3 sk) (bgQ (ownR c) q0) (i + 1)) (fo (pmG (nI c) l t c K P1 P2 P3 sk) q1 (i + 1)) ∧ (fo (pmG (nI c) l t c K P1 P2 P3 sk) q1 (i + 1)).2.2.2.2.2.2 = (fo (plG (nI c) l t c K P1 P2 P3 sk) (bgQ (ownR c) q0) (i + 1)).2.2.2.2.2.2 - (fo (plG (nI c) l t c K P1 P2 P3 sk) (bgQ (ownR c) q0) i).2.2.2.2.2.2 := by
    intro i hi a0
    obtain ⟨a1, a2, a3, a4⟩ := rp_pl (l := l) (t := t) hC hN h1N hD hW hs bg_P (qI_bg (row := ownR c) (q := q0)) (qV_bg (q := q0) hC) i (by omega)
    have hd := dV_p a1 (cn_ok hC hN h1N hD hW i (by omega)).1 (hW i (by omega))
    have e1 : fo (plG (nI c) l t c K P1 P2 P3 sk) (bgQ (ownR c) q0) (i + 1) = if nI i = sk then (fo (plG (nI c) l t c K P1 P2 P3 sk) (bgQ (ownR c) q0) i) else (caQ (nI c) l t c (K i) (P1 i) (P2 i) (P3 i) (fo (plG (nI c) l t c K P1 P2 P3 sk) (bgQ (ownR c) q0) i)).2 := rfl
    have e2 : fo (pmG (nI c) l t c K P1 P2 P3 sk) q1 (i + 1) = if nI i = sk then qS 0 (fo (pmG (nI c) l t c K P1 P2 P3 sk) q1 i) else (caQ (nI c) l t c (K i) (P1 i) (P2 i) (P3 i) (qS 0 (fo (pmG (nI c) l t c K P1 P2 P3 sk) q1 i))).2 := rfl
    rw [e1, e2]
    generalize fo (plG (nI c) l t c K P1 P2 P3 sk) (bgQ (ownR c) q0) i = X at a0 a1 a2 a3 a4 hd ⊢
    generalize fo (pmG (nI c) l t c K P1 P2 P3 sk) q1 i = Y at a0 ⊢
    by_cases hk : nI i = sk
    · rw [if_pos hk, if_pos hk]
      exact ⟨a0, (Int32.sub_self _).symm⟩
    · rw [if_neg hk, if_neg hk]
      have hq : qD (0 - X.2.2.2.2.2.2) X (qS 0 Y) := ⟨a0, i32_ac _ _⟩
      have g := (qD_ca (l := l) (t := t) hq a2 a3 hC hN hd).2
      refine ⟨g.1, g.2.trans ?_⟩
      rw [Int32.zero_sub, ← Int32.sub_eq_add_neg]
  intro i
  induction i with
  | zero => intro _; exact ⟨h, fun h0 => (key 0 h0 h).2⟩
  | succ i ih =>
    intro hi
    have a := (key i (by omega) (ih (by omega)).1).1
    exact ⟨a, fun h0 => (key (i + 1) h0 a).2⟩
theorem pmS_D {c N : Nat} {K P1 P2 P3 : Nat → Nat} {D : Nat} {l t sk : Int32} {q0 q1 : sQ} (hC : c ≤ 12) (hN : N ≤ 200) (h1N : 1 ≤ N) (hD : D ≤ 60) (hW : tW c N K P1 P2 P3 D) (hs : skO K sk) (h : stE (bgQ (ownR c) q0) q1) : ∀ i, i ≤ D → pmS l t c K P1 P2 P3 sk q1 i = (fo (plG (nI c) l t c K P1 P2 P3 sk) (bgQ (ownR c) q0) i).2.2.2.2.2.2 := by
  intro i
  induction i with
  | zero => intro _; rfl
  | succ i ih =>
    intro hi
    have e1 : pmS l t c K P1 P2 P3 sk q1 (i + 1) = pmS l t c K P1 P2 P3 sk q1 i + (fo (pmG (nI c) l t c K P1 P2 P3 sk) q1 (i + 1)).2.2.2.2.2.2 := rfl
    rw [e1, ih (by omega), (pm_D hC hN h1N hD hW hs h i (by omega)).2 (by omega)]
    exact (i32_ac _ _).symm
