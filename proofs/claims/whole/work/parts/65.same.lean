-- what lies beyond the versions doesn't matter, and a ledger's beginning is only added
def qD (e : Int32) (q q' : sQ) : Prop := stE q q' ∧ q'.2.2.2.2.2.2 = q.2.2.2.2.2.2 + e
theorem stE_r {q : sQ} : stE q q := ⟨rfl, fun _ _ => ⟨rfl, rfl, rfl, rfl, rfl⟩⟩
theorem stE_t {q1 q2 q3 : sQ} (h : stE q1 q2) (g : stE q2 q3) : stE q1 q3 := ⟨g.1.trans h.1, fun v hv => by
  obtain ⟨a1, a2, a3, a4, a5⟩ := h.2 v hv
  obtain ⟨b1, b2, b3, b4, b5⟩ := g.2 v (by rw [h.1]; exact hv)
  exact ⟨b1.trans a1, b2.trans a2, b3.trans a3, b4.trans a4, b5.trans a5⟩⟩
theorem stE_s {q1 q2 : sQ} (h : stE q1 q2) : stE q2 q1 := ⟨h.1.symm, fun v hv => by
  obtain ⟨a1, a2, a3, a4, a5⟩ := h.2 v (by rw [← h.1]; exact hv)
  exact ⟨a1.symm, a2.symm, a3.symm, a4.symm, a5.symm⟩⟩
theorem tw_c {n : Nat} (hn : n < 2 ^ 31) : ∀ (k : Nat) (a b bc : Int32) (f g f' g' : Nat → Int32), okv n a → okv n b → okl f n → (∀ v, v < n → f' v = f v) → (∀ v, v < n → g' v = g v) → (∀ v, v < n → (twF k a b bc f' g').1 v = (twF k a b bc f g).1 v) ∧ ∀ v, v < n → (twF k a b bc f' g').2 v = (twF k a b bc f g).2 v := by
  intro k
  induction k with
  | zero => intro a b bc f g f' g' _ _ _ h1 h2; exact ⟨h1, h2⟩
  | succ k ih =>
    intro a b bc f g f' g' ha hb ho h1 h2
    unfold twF
    by_cases e : a = -1
    · rw [if_pos e, if_pos e]; exact ⟨h1, h2⟩
    · rw [if_neg e, if_neg e]
      rcases ha with g1 | ⟨u, hu, g1⟩
      · exact absurd g1 e
      · subst g1
        rw [nI_clamp (by omega), h1 u hu, h2 u hu]
        have hfu : okv n (f u) := by
          rcases ho u hu with g2 | ⟨y, g2, g3⟩
          · exact Or.inl g2
          · exact Or.inr ⟨y, g2, g3⟩
        refine ih _ _ _ _ _ _ _ hfu (Or.inr ⟨u, hu, rfl⟩) (okl_up ho hb) (fun v hv => ?_) (fun v hv => ?_)
        · by_cases ev : v = u
          · rw [ev, up_s, up_s]
          · rw [up_n ev, up_n ev]; exact h1 v hv
        · by_cases ev : v = u
          · rw [ev, up_s, up_s]
          · rw [up_n ev, up_n ev]; exact h2 v hv
theorem rc_c {s l t : Int32} {n j : Nat} {f g f' g' : Nat → Int32} {p e : Int32} (hn : n < 2 ^ 31) (hj : j < n) (ho : okl f n) (h1 : ∀ v, v < n → f' v = f v) (h2 : ∀ v, v < n → g' v = g v) : (∀ v, v < n → (rcF s l t n j f' g' (p + e)).1 v = (rcF s l t n j f g p).1 v) ∧ (∀ v, v < n → (rcF s l t n j f' g' (p + e)).2.1 v = (rcF s l t n j f g p).2.1 v) ∧ (rcF s l t n j f' g' (p + e)).2.2 = (rcF s l t n j f g p).2.2 + e := by
  have hw : wl f' n j = wl f n j := (wl_c (fun v hv => (h1 v hv).symm) ho hn n j hj).symm
  unfold rcF
  rw [hw]
  by_cases c : l = 2 ∧ ¬ nI (wl f n j) ≤ t
  · rw [if_pos c, if_pos c]
    refine ⟨fun v hv => ?_, fun v hv => ?_, ?_⟩
    · show va_up f' j (-1) v = va_up f j (-1) v
      by_cases ev : v = j
      · rw [ev, up_s, up_s]
      · rw [up_n ev, up_n ev]; exact h1 v hv
    · show va_up g' j (-1) v = va_up g j (-1) v
      by_cases ev : v = j
      · rw [ev, up_s, up_s]
      · rw [up_n ev, up_n ev]; exact h2 v hv
    · show p + e + (nI (wl f n j) + s) = p + (nI (wl f n j) + s) + e
      rw [Int32.add_assoc, Int32.add_comm e, ← Int32.add_assoc]
  · rw [if_neg c, if_neg c]
    have k := tw_c hn n (nI j) (-1) (-1) f g f' g' (Or.inr ⟨j, hj, rfl⟩) (Or.inl rfl) ho h1 h2
    refine ⟨k.1, k.2, ?_⟩
    show p + e + nI (wl f n j) = p + nI (wl f n j) + e
    rw [Int32.add_assoc, Int32.add_comm e, ← Int32.add_assoc]
theorem rd_c {s l t : Int32} {n j : Nat} {cell : Int32} {f g f' g' : Nat → Int32} {p e : Int32} (hn : n < 2 ^ 31) (hj : j < n) (ho : okl f n) (h1 : ∀ v, v < n → f' v = f v) (h2 : ∀ v, v < n → g' v = g v) : (∀ v, v < n → (rdF s l t n j cell f' g' (p + e)).1 v = (rdF s l t n j cell f g p).1 v) ∧ (∀ v, v < n → (rdF s l t n j cell f' g' (p + e)).2.1 v = (rdF s l t n j cell f g p).2.1 v) ∧ (rdF s l t n j cell f' g' (p + e)).2.2 = (rdF s l t n j cell f g p).2.2 + e := by
  by_cases c : l = 1
  · have hw : la f' g' cell n j = la f g cell n j := (la_c (fun v hv => (h1 v hv).symm) (fun v hv => (h2 v hv).symm) ho hn n j hj).symm
    rw [rd_1 c, rd_1 c, hw]
    refine ⟨h1, h2, ?_⟩
    show p + e + nI (la f g cell n j) = p + nI (la f g cell n j) + e
    rw [Int32.add_assoc, Int32.add_comm e, ← Int32.add_assoc]
  · rw [rd_0 c, rd_0 c]
    exact rc_c hn hj ho h1 h2
theorem st_c {s l t : Int32} {n j : Nat} {cell : Int32} {f g f' g' : Nat → Int32} {p e : Int32} (hn : n < 2 ^ 31) (hj : j < n) (ho : okl f n) (h1 : ∀ v, v < n → f' v = f v) (h2 : ∀ v, v < n → g' v = g v) : (∀ v, v < n + 1 → (stF s l t n j cell f' g' (p + e)).1 v = (stF s l t n j cell f g p).1 v) ∧ (∀ v, v < n + 1 → (stF s l t n j cell f' g' (p + e)).2.1 v = (stF s l t n j cell f g p).2.1 v) ∧ (stF s l t n j cell f' g' (p + e)).2.2 = (stF s l t n j cell f g p).2.2 + e := by
  by_cases c : l = 1
  · rw [st_1 c, st_1 c]
    refine ⟨fun v hv => ?_, fun v hv => ?_, ?_⟩
    · show va_up (va_up f' n (-1)) n (nI j) v = va_up (va_up f n (-1)) n (nI j) v
      by_cases ev : v = n
      · rw [ev, up_s, up_s]
      · rw [up_n ev, up_n ev, up_n ev, up_n ev]; exact h1 v (by omega)
    · show va_up (va_up g' n (-1)) n cell v = va_up (va_up g n (-1)) n cell v
      by_cases ev : v = n
      · rw [ev, up_s, up_s]
      · rw [up_n ev, up_n ev, up_n ev, up_n ev]; exact h2 v (by omega)
    · show p + e + 1 = p + 1 + e
      rw [Int32.add_assoc, Int32.add_comm e, ← Int32.add_assoc]
  · rw [st_0 c, st_0 c]
    obtain ⟨k1, k2, k3⟩ := rc_c (s := s) (l := l) (t := t) (p := p) (e := e) hn hj ho h1 h2
    refine ⟨fun v hv => ?_, fun v hv => ?_, ?_⟩
    · show va_up (va_up _ n (-1)) j (nI n) v = va_up (va_up _ n (-1)) j (nI n) v
      by_cases ej : v = j
      · rw [ej, up_s, up_s]
      · rw [up_n ej, up_n ej]
        by_cases ev : v = n
        · rw [ev, up_s, up_s]
        · rw [up_n ev, up_n ev]; exact k1 v (by omega)
    · show va_up (va_up _ n (-1)) j cell v = va_up (va_up _ n (-1)) j cell v
      by_cases ej : v = j
      · rw [ej, up_s, up_s]
      · rw [up_n ej, up_n ej]
        by_cases ev : v = n
        · rw [ev, up_s, up_s]
        · rw [up_n ev, up_n ev]; exact k2 v (by omega)
    · show (rcF s l t n j f' g' (p + e)).2.2 + 1 = (rcF s l t n j f g p).2.2 + 1 + e
      rw [k3, Int32.add_assoc, Int32.add_comm e, ← Int32.add_assoc]
theorem qD_rd {c : Nat} {s l t e : Int32} {j : Nat} {cell : Int32} {q q' : sQ} (h : qD e q q') (hI : qI c q) (hj : j < q.1) : qD e (rdQ s l t j cell q) (rdQ s l t j cell q') := by
  obtain ⟨⟨e1, e2⟩, e3⟩ := h
  have b := hI.2.1
  obtain ⟨k1, k2, k3⟩ := rd_c (s := s) (l := l) (t := t) (cell := cell) (p := q.2.2.2.2.2.2) (e := e) (show q.1 < 2 ^ 31 by omega) hj hI.2.2.1.1 (fun v hv => (e2 v hv).2.1) (fun v hv => (e2 v hv).2.2.1)
  rw [← e3] at k1 k2 k3
  unfold rdQ
  rw [e1]
  exact ⟨⟨rfl, fun v hv => ⟨(e2 v hv).1, k1 v hv, k2 v hv, (e2 v hv).2.2.2.1, (e2 v hv).2.2.2.2⟩⟩, k3⟩
theorem qD_set {c : Nat} {s l t e : Int32} {j : Nat} {cell x : Int32} {q q' : sQ} (h : qD e q q') (hI : qI c q) (hj : j < q.1) : qD e (setQ s l t j cell x q) (setQ s l t j cell x q') := by
  obtain ⟨⟨e1, e2⟩, e3⟩ := h
  have b := hI.2.1
  obtain ⟨k1, k2, k3⟩ := st_c (s := s) (l := l) (t := t) (cell := cell) (p := q.2.2.2.2.2.2) (e := e) (show q.1 < 2 ^ 31 by omega) hj hI.2.2.1.1 (fun v hv => (e2 v hv).2.1) (fun v hv => (e2 v hv).2.2.1)
  rw [← e3] at k1 k2 k3
  unfold setQ
  rw [e1]
  refine ⟨⟨rfl, fun v hv => ?_⟩, k3⟩
  have hv2 : v < q.1 + 1 := hv
  refine ⟨?_, k1 v hv, k2 v hv, ?_, ?_⟩
  · show va_up q'.2.1 q.1 (wnI (q'.2.1 j) cell x) v = va_up q.2.1 q.1 (wnI (q.2.1 j) cell x) v
    rw [(e2 j hj).1]
    by_cases ev : v = q.1
    · rw [ev, up_s, up_s]
    · rw [up_n ev, up_n ev]; exact (e2 v (by omega)).1
  · show va_up q'.2.2.2.2.1 q.1 (nI j) v = va_up q.2.2.2.2.1 q.1 (nI j) v
    by_cases ev : v = q.1
    · rw [ev, up_s, up_s]
    · rw [up_n ev, up_n ev]; exact (e2 v (by omega)).2.2.2.1
  · show va_up q'.2.2.2.2.2.1 q.1 cell v = va_up q.2.2.2.2.2.1 q.1 cell v
    by_cases ev : v = q.1
    · rw [ev, up_s, up_s]
    · rw [up_n ev, up_n ev]; exact (e2 v (by omega)).2.2.2.2
theorem qD_fr {c : Nat} {s l t e : Int32} {j : Nat} : ∀ (k : Nat) (a : Int32) (q q' : sQ), qD e q q' → qI c q → j < q.1 → (frQ s l t k j a q').1 = (frQ s l t k j a q).1 ∧ qD e (frQ s l t k j a q).2 (frQ s l t k j a q').2 := by
  intro k
  induction k with
  | zero => intro a q q' h _ _; exact ⟨rfl, h⟩
  | succ k ih =>
    intro a q q' h hI hj
    have ej := (h.1.2 j hj).1
    have hr := qD_rd (s := s) (l := l) (t := t) (cell := a) h hI hj
    by_cases c1 : nmI (q.2.1 j) a = a
    · rw [frQ_e c1, frQ_e (by rw [ej]; exact c1)]
      exact ⟨rfl, hr⟩
    · rw [frQ_n c1, frQ_n (by rw [ej]; exact c1), ej]
      exact ih _ _ _ hr (qI_rd hI hj) hj
theorem qD_sn {c : Nat} {s e : Int32} {j : Nat} {q q' : sQ} (h : qD e q q') (hI : qI c q) (hj : j < q.1) : (snQ s j q').1 = (snQ s j q).1 ∧ qD e (snQ s j q).2 (snQ s j q').2 := by
  obtain ⟨⟨e1, e2⟩, e3⟩ := id h
  have b := hI.2.1
  by_cases c1 : q.2.2.1 j = -1
  · rw [sn_d c1, sn_d (by rw [(e2 j hj).2.1]; exact c1)]
    exact ⟨rfl, h⟩
  · have hw : wl q'.2.2.1 q.1 j = wl q.2.2.1 q.1 j := (wl_c (fun v hv => ((e2 v hv).2.1).symm) hI.2.2.1.1 (by omega) q.1 j hj).symm
    rw [sn_n c1, sn_n (by rw [(e2 j hj).2.1]; exact c1), e1, hw]
    refine ⟨?_, ⟨rfl, fun v hv => ⟨(e2 v hv).1, ?_, ?_, (e2 v hv).2.2.2.1, (e2 v hv).2.2.2.2⟩⟩, ?_⟩
    · show q'.2.2.2.2.2.2 + (nI (wl q.2.2.1 q.1 j) + s) - q'.2.2.2.2.2.2 = q.2.2.2.2.2.2 + (nI (wl q.2.2.1 q.1 j) + s) - q.2.2.2.2.2.2
      have ar : ∀ a b : Int32, a + b - a = b := fun a b => by rw [Int32.add_comm, Int32.add_sub_cancel]
      rw [ar, ar]
    · show va_up q'.2.2.1 j (-1) v = va_up q.2.2.1 j (-1) v
      by_cases ev : v = j
      · rw [ev, up_s, up_s]
      · rw [up_n ev, up_n ev]; exact (e2 v hv).2.1
    · show va_up q'.2.2.2.1 j (-1) v = va_up q.2.2.2.1 j (-1) v
      by_cases ev : v = j
      · rw [ev, up_s, up_s]
      · rw [up_n ev, up_n ev]; exact (e2 v hv).2.2.1
    · show q'.2.2.2.2.2.2 + (nI (wl q.2.2.1 q.1 j) + s) = q.2.2.2.2.2.2 + (nI (wl q.2.2.1 q.1 j) + s) + e
      rw [e3, Int32.add_assoc, Int32.add_comm e, ← Int32.add_assoc]
theorem qD_lo {c v N : Nat} {s l t e : Int32} {fr row : Int64} {q q' : sQ} (h : qD e q q') (hI : qI c q) (hV : qV c q) (hv : v < q.1) (hC : c ≤ 12) (hrow : ∀ i, i < c → ∃ y, y < c ∧ nmI row (nI i) = nI y) (hN : N ≤ 200) (hcap : q.1 + dfN fr row c ≤ N) : ∀ i, i ≤ c → (fo (loG s l t fr row) (v, q') i).1 = (fo (loG s l t fr row) (v, q) i).1 ∧ qD e (fo (loG s l t fr row) (v, q) i).2 (fo (loG s l t fr row) (v, q') i).2 := by
  intro i
  induction i with
  | zero => intro _; exact ⟨rfl, h⟩
  | succ i ih =>
    intro hi
    obtain ⟨a1, a2⟩ := ih (by omega)
    obtain ⟨g1, g2, g3, g4, g5⟩ := lo_ok (s := s) (l := l) (t := t) hI hV hv hC hrow hN hcap i (by omega)
    have e1 : fo (loG s l t fr row) (v, q) (i + 1) = loG s l t fr row i (fo (loG s l t fr row) (v, q) i) := rfl
    have e2 : fo (loG s l t fr row) (v, q') (i + 1) = loG s l t fr row i (fo (loG s l t fr row) (v, q') i) := rfl
    rw [e1, e2]
    generalize fo (loG s l t fr row) (v, q) i = X at a1 a2 g1 g2 g3 g4 g5 ⊢
    generalize fo (loG s l t fr row) (v, q') i = Y at a1 a2 ⊢
    by_cases c1 : nmI fr (nI i) = nmI row (nI i)
    · rw [loG_e c1, loG_e c1]; exact ⟨a1, a2⟩
    · rw [loG_n c1, loG_n c1, a1]
      exact ⟨a2.1.1, qD_set a2 g3 g1⟩
theorem mt_c {f g : Nat → Int32} {n : Nat} (h : okm f n) (hn : n < 2 ^ 31) (e : ∀ v, v < n → g v = f v) : ∀ k a b, a < n → b < n → mtN g k a b = mtN f k a b := by
  intro k
  induction k with
  | zero => intro a b _ _; rfl
  | succ k ih =>
    intro a b ha hb
    unfold mtN
    by_cases c1 : a = b
    · rw [if_pos c1, if_pos c1]
    · rw [if_neg c1, if_neg c1]
      by_cases c2 : b < a
      · obtain ⟨u, h1, h2⟩ := h.2 a (by omega) ha
        rw [if_pos c2, if_pos c2, e a ha, h2, nI_clamp (by omega)]
        exact ih _ _ (by omega) hb
      · obtain ⟨u, h1, h2⟩ := h.2 b (by omega) hb
        rw [if_neg c2, if_neg c2, e b hb, h2, nI_clamp (by omega)]
        exact ih _ _ ha (by omega)
theorem mgR_e {c a b : Nat} {q q' : sQ} (h : stE q q') (hI : qI c q) (ha : a < q.1) (hb : b < q.1) : mgR c a b q' = mgR c a b q := by
  have b2 := hI.2.1
  have hm : mtN q.2.2.2.2.1 (2 * q.1) a b < q.1 := mtN_lt hI.2.2.2.2.1 (by omega) _ _ _ ha hb
  unfold mgR
  rw [h.1, mt_c hI.2.2.2.2.1 (by omega) (fun v hv => (h.2 v hv).2.2.2.1) _ a b ha hb, (h.2 a ha).1, (h.2 b hb).1, (h.2 _ hm).1]
theorem paR_e {c a b e : Nat} {q q' : sQ} (h : stE q q') (ha : a < q.1) (hb : b < q.1) (he : e < q.1) : paR c a b e q' = paR c a b e q := by
  unfold paR
  rw [(h.2 a ha).1, (h.2 b hb).1, (h.2 e he).1]
theorem qD_ca {c N k a b e : Nat} {l t dl : Int32} {q q' : sQ} (h : qD dl q q') (hI : qI c q) (hV : qV c q) (hC : c ≤ 12) (hN : N ≤ 200) (hd : dV c N k a b e q) : (caQ (nI c) l t c k a b e q').1 = (caQ (nI c) l t c k a b e q).1 ∧ qD dl (caQ (nI c) l t c k a b e q).2 (caQ (nI c) l t c k a b e q').2 := by
  match k, hd with
  | 1, hd =>
    refine ⟨?_, qD_rd h hI hd.1⟩
    show nmI (q'.2.1 a) (nI b) = nmI (q.2.1 a) (nI b)
    rw [(h.1.2 a hd.1).1]
  | 2, hd =>
    refine ⟨?_, qD_set h hI hd.1⟩
    show nI q'.1 = nI q.1
    rw [h.1.1]
  | 3, hd =>
    obtain ⟨h1, h2, h3, h4⟩ := hd
    obtain ⟨a1, a2⟩ := qD_fr (s := nI c) (l := l) (t := t) c (nI b) q q' h hI h1
    obtain ⟨b1, b2⟩ := qD_fr (s := nI c) (l := l) (t := t) c (nI e) _ _ a2 (qI_fr hI h1) h1
    refine ⟨?_, ?_⟩
    · show nI q'.1 = nI q.1
      rw [h.1.1]
    · show qD dl (setQ (nI c) l t a (if _ < _ then _ else _) (if _ < _ then _ else _) _) (setQ (nI c) l t a (if _ < _ then _ else _) (if _ < _ then _ else _) _)
      rw [a1, b1]
      exact qD_set b2 (qI_fr (qI_fr hI h1) h1) h1
  | 4, hd => exact qD_fr c (nI b) q q' h hI hd.1
  | 5, hd => exact qD_sn h hI hd
  | 6, hd =>
    obtain ⟨h1, h2, h3⟩ := hd
    have g := qD_lo (s := nI c) (l := l) (t := t) (v := a) h hI hV h1 hC (mgR_c hV hC h1 h2) hN h3 c (Nat.le_refl _)
    show nI (fo (loG (nI c) l t (q'.2.1 a) (mgR c a b q')) (a, q') c).1 = nI (fo (loG (nI c) l t (q.2.1 a) (mgR c a b q)) (a, q) c).1 ∧ qD dl (fo (loG (nI c) l t (q.2.1 a) (mgR c a b q)) (a, q) c).2 (fo (loG (nI c) l t (q'.2.1 a) (mgR c a b q')) (a, q') c).2
    rw [mgR_e h.1 hI h1 h2, (h.1.2 a h1).1, g.1]
    exact ⟨rfl, g.2⟩
  | 7, hd =>
    obtain ⟨h1, h2, h3, h4⟩ := hd
    have g := qD_lo (s := nI c) (l := l) (t := t) (v := e) h hI hV h3 hC (paR_c hV hC h2 h3) hN h4 c (Nat.le_refl _)
    show nI (fo (loG (nI c) l t (q'.2.1 e) (paR c a b e q')) (e, q') c).1 = nI (fo (loG (nI c) l t (q.2.1 e) (paR c a b e q)) (e, q) c).1 ∧ qD dl (fo (loG (nI c) l t (q.2.1 e) (paR c a b e q)) (e, q) c).2 (fo (loG (nI c) l t (q'.2.1 e) (paR c a b e q')) (e, q') c).2
    rw [paR_e h.1 h1 h2 h3, (h.1.2 e h3).1, g.1]
    exact ⟨rfl, g.2⟩
  | 0, hd => exact hd.elim
  | k + 8, hd => exact hd.elim
