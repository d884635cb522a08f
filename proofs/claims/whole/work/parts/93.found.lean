theorem n03 {P : Prop} (h : (0 : Int32) = 3) : P := absurd h (by decide)
theorem n01 {P : Prop} (h : (0 : Int32) = 1) : P := absurd h (by decide)
theorem n31 {P : Prop} (h : (3 : Int32) = 1) : P := absurd h (by decide)
theorem n23 {P : Prop} (h : (2 : Int32) = 3) : P := absurd h (by decide)
theorem n21 {P : Prop} (h : (2 : Int32) = 1) : P := absurd h (by decide)
theorem n13 {P : Prop} (h : (1 : Int32) = 3) : P := absurd h (by decide)
theorem pn_w {s l t : Int32} {f e : Nat} {p : Int32} : ∀ k a (q : sQ), q.1 ≤ 200 → f < q.1 → okl q.2.2.1 q.1 → (∀ v, v < q.1 → (pnF s l t f e p 3 k a q).2.2.2.2.1 v = q.2.1 v) ∧ ((pnF s l t f e p 3 k a q).1 = -1 ∧ ((pnF s l t f e p 3 k a q).2.2.1 = 3 ∨ (pnF s l t f e p 3 k a q).2.2.1 = 2) ∨ ((pnF s l t f e p 3 k a q).1 = nI q.1 ∧ (pnF s l t f e p 3 k a q).2.2.2.1 = q.1 + 1 ∧ (pnF s l t f e p 3 k a q).2.2.2.2.1 q.1 = wnI (q.2.1 f) (nI e) (nI (pnF s l t f e p 3 k a q).2.1) ∧ q.1 < 200 ∧ (pnF s l t f e p 3 k a q).2.2.1 = 3)) := by
  intro k
  induction k with
  | zero => intro a q _ _ _; exact ⟨fun _ _ => rfl, Or.inl ⟨rfl, Or.inl rfl⟩⟩
  | succ k ih =>
    intro a q hN hf ho
    obtain ⟨i1, i2, i3⟩ := isF_ok (s := s) (l := l) (t := t) (f := f) (p := p) (x := nI (a + 1)) e 0 q hN hf ho
    rw [pnF_s]
    by_cases c1 : (isF s l t f p (nI (a + 1)) e 0 q).1 = true
    · rw [if_pos c1]
      by_cases c2 : (isF s l t f p (nI (a + 1)) e 0 q).2.1 < 200
      · rw [pu_y c2]
        refine ⟨fun v hv => ?_, Or.inr ⟨by show nI (isF s l t f p (nI (a + 1)) e 0 q).2.1 = nI q.1; rw [i1], by show (isF s l t f p (nI (a + 1)) e 0 q).2.1 + 1 = q.1 + 1; rw [i1], ?_, by rw [← i1]; exact c2, rfl⟩⟩
        · show va_up (isF s l t f p (nI (a + 1)) e 0 q).2.2.1 (isF s l t f p (nI (a + 1)) e 0 q).2.1 _ v = _
          rw [up_n (by omega), i2]
        · show va_up (isF s l t f p (nI (a + 1)) e 0 q).2.2.1 (isF s l t f p (nI (a + 1)) e 0 q).2.1 (wnI ((isF s l t f p (nI (a + 1)) e 0 q).2.2.1 f) (nI e) (nI (a + 1))) q.1 = _
          rw [i1, up_s, i2]
      · rw [pu_n c2]
        refine ⟨fun v _ => ?_, Or.inl ⟨rfl, Or.inr rfl⟩⟩
        show (isF s l t f p (nI (a + 1)) e 0 q).2.2.1 v = _
        rw [i2]
    · rw [if_neg c1]
      have g := ih (a + 1) (isF s l t f p (nI (a + 1)) e 0 q).2 (by rw [i1]; exact hN) (by rw [i1]; exact hf) i3
      rw [i1, i2] at g
      exact g
def kJ (n : Nat) (x : kS) : Prop := (x.1 = 3 → ∀ i, i ≤ x.2.2.2.1 → i < n → ∀ j, j < i → nmI (x.2.2.2.2.2.2.2.1 (x.2.2.2.2.1 i).toNatClampNeg) (nI j) = x.2.2.2.2.2.1 j) ∧ (x.1 = 1 → x.2.2.2.1 = n ∧ ∃ g, g < x.2.2.2.2.2.2.1 ∧ x.2.2.1 = nI g ∧ ∀ j, j < n → nmI (x.2.2.2.2.2.2.2.1 g) (nI j) = x.2.2.2.2.2.1 j)
theorem kJ_U {s l t : Int32} {n m : Nat} {P : Nat → Int32} {x : kS} (hn : n ≤ 12) (hm : m ≤ 15) (hI : kI n m x) (hJ : kJ n x) (h3 : x.1 = 3) : kJ n (kU n x (kN s l t m P x)) := by
  obtain ⟨oc, tb, lv, e, fr, tr, q⟩ := x
  obtain ⟨b1, b2, b3, b4, b5⟩ := hI
  dsimp only at b1 b2 b3 b4 b5 h3
  subst h3
  have he := b4 rfl
  have hJ1 := hJ.1 rfl
  dsimp only at hJ1
  obtain ⟨⟨f, hf, hfr⟩, a, ha, htr⟩ := b5 e (Nat.le_refl _) he
  have hkN : kN s l t m P ((3, tb, lv, e, fr, tr, q) : kS) = pnF s l t f e (P e) 3 (m - a) a q := by
    unfold kN
    dsimp only
    rw [hfr, htr, nI_clamp (by omega), nI_clamp (by omega)]
  rw [hkN]
  obtain ⟨r1, r2⟩ := pn_w (s := s) (l := l) (t := t) (f := f) (e := e) (p := P e) (m - a) a q b1 hf b2
  have r0 := (pnF_ok (s := s) (l := l) (t := t) (f := f) (c := e) (p := P e) (oc := 3) (m - a) a q b1 hf b2).2.2.2.1
  generalize pnF s l t f e (P e) 3 (m - a) a q = r at r0 r1 r2 ⊢
  obtain ⟨v, y, o, q'⟩ := r
  dsimp only at r0 r1 r2
  rcases r2 with ⟨rfl, rfl | rfl⟩ | ⟨rfl, g1, g2, g3, rfl⟩
  · by_cases c0 : e = 0
    · rw [ku_0 c0]
      exact ⟨fun h => n03 h, fun h => n01 h⟩
    · rw [ku_1 c0]
      refine ⟨fun _ i hi hin j hj => ?_, fun h => n31 h⟩
      dsimp only at hi ⊢
      obtain ⟨⟨f2, hf2, hfr2⟩, -⟩ := b5 i (by omega) hin
      rw [up_n (by omega), hfr2, nI_clamp (by omega), r1 f2 hf2]
      have := hJ1 i (by omega) hin j hj
      rw [hfr2, nI_clamp (by omega)] at this
      exact this
  · rw [ku_b]
    exact ⟨fun h => n23 h, fun h => n21 h⟩
  · have key : ∀ j, j ≤ e → nmI (q'.2.1 q.1) (nI j) = va_up tr e (nI y) j := by
      intro j hj
      rw [g2, nm_wn (by omega) (by omega) (by omega)]
      by_cases cj : j = e
      · rw [if_pos cj, cj, up_s]
      · rw [if_neg cj, up_n cj]
        have := hJ1 e (Nat.le_refl _) he j (by omega)
        rw [hfr, nI_clamp (by omega)] at this
        exact this
    by_cases c1 : e + 1 = n
    · rw [ku_l (by omega) c1]
      refine ⟨fun h => n13 h, fun _ => ⟨c1, q.1, ?_, rfl, fun j hj => key j (by omega)⟩⟩
      dsimp only
      omega
    · rw [ku_g (by omega) c1]
      refine ⟨fun _ i hi hin j hj => ?_, fun h => n31 h⟩
      dsimp only at hi ⊢
      by_cases ci : i = e + 1
      · subst ci
        rw [up_s, nI_clamp (by omega), up_n (by omega)]
        exact key j (by omega)
      · obtain ⟨⟨f2, hf2, hfr2⟩, -⟩ := b5 i (by omega) hin
        rw [up_n ci, up_n (by omega), up_n (by omega), hfr2, nI_clamp (by omega), r1 f2 hf2]
        have := hJ1 i (by omega) hin j hj
        rw [hfr2, nI_clamp (by omega)] at this
        exact this
theorem kJ_G {s l t : Int32} {n m : Nat} {P : Nat → Int32} (hn : n ≤ 12) (hm : m ≤ 15) : ∀ T x, kI n m x → kJ n x → kI n m (kG s l t n m P T x) ∧ kJ n (kG s l t n m P T x) := by
  intro T
  induction T with
  | zero => intro x h1 h2; exact ⟨h1, h2⟩
  | succ T ih =>
    intro x h1 h2
    rw [kG_s]
    by_cases c : x.1 = 3
    · rw [if_pos c]
      exact ih _ (kU_ok (by omega) h1 c) (kJ_U hn hm h1 h2 c)
    · rw [if_neg c]
      exact ⟨h1, h2⟩
theorem kJ_0 {n : Nat} {fr tr : Nat → Int32} {q : sQ} : kJ n ((3, 0, 0, 0, va_up fr 0 0, va_up tr 0 0, q) : kS) := ⟨fun _ i hi _ j hj => absurd hj (by dsimp only at hi; omega), fun h => n31 h⟩
theorem yI_G {s l t : Int32} {n : Nat} {P : Nat → Int32} (hn : n ≤ 12) : ∀ T x, yI n x → yI n (yG s l t n P T x) := by
  intro T
  induction T with
  | zero => intro x h; exact h
  | succ T ih =>
    intro x h
    show yI n (if x.1 = 3 then yG s l t n P T (yU s l t n x (yN s l t n P x)) else x)
    by_cases c : x.1 = 3
    · rw [if_pos c]
      exact ih _ (yU_ok hn h c)
    · rw [if_neg c]
      exact h
