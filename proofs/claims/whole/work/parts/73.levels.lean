-- levels of the look ahead
def qW (c mm : Nat) (q : sQ) : Prop := ∀ v, v < q.1 → ∀ i, i < c → ∃ y, y < 2 ^ mm ∧ nmI (q.2.1 v) (nI i) = nI y
theorem rest_w : ∀ m, m ≤ 4 → ∀ y, y < 2 ^ m → ∀ e, e < 4 → ∃ r, r < 2 ^ m ∧ nI y &&& (b2 e ^^^ -1) = nI r := by decide
theorem b2_w : ∀ m, m ≤ 4 → ∀ e, e < m → 2 ^ e < 2 ^ m := by decide
theorem w16 : ∀ m, m ≤ 4 → 2 ^ m ≤ 16 := by decide
theorem qW_pu {c mm : Nat} {s l t oc : Int32} {j i r : Nat} {q : sQ} (hm : mm ≤ 4) (hC : c ≤ 12) (h : qW c mm q) (hj : j < q.1) (hi : i < c) (hr : r < 2 ^ mm) : qW c mm (puQ s l t j (nI i) (nI r) oc q).2.2 := by
  have h16 := w16 mm hm
  by_cases h2 : q.1 < 200
  · rw [pu_y h2]
    intro v hv k hk
    show ∃ y, y < 2 ^ mm ∧ nmI (va_up q.2.1 q.1 (wnI (q.2.1 j) (nI i) (nI r)) v) (nI k) = nI y
    have hv2 : v < q.1 + 1 := hv
    by_cases e : v = q.1
    · rw [e, up_s, nm_wn (by omega) (by omega) (by omega)]
      by_cases e2 : k = i
      · rw [if_pos e2]; exact ⟨r, hr, rfl⟩
      · rw [if_neg e2]; exact h j hj k hk
    · rw [up_n e]
      exact h v (by omega) k hk
  · rw [pu_n h2]
    exact h
theorem so_w {c mm : Nat} {s l t p : Int32} {e : Nat} (hm : mm ≤ 4) (he : e < 4) : ∀ (k i : Nat) (v oc : Int32) (q : sQ), i + k = c → c ≤ 12 → q.1 ≤ 200 → (v = -1 ∨ ∃ u, u < q.1 ∧ v = nI u) → qW c mm q → qW c mm (soF s l t p (b2 e) k i v oc q).2.2 := by
  intro k
  induction k with
  | zero => intro i v oc q _ _ _ _ h; exact h
  | succ k ih =>
    intro i v oc q hi hC hN hv h
    rcases hv with g | ⟨u, u1, u2⟩
    · subst g
      rw [soF_n]
      exact h
    · subst u2
      have hu9 : ¬ nI u = -1 := nI_m1 (by omega)
      have hcl : (nI u).toNatClampNeg = u := nI_clamp (by omega)
      rw [show soF s l t p (b2 e) (k + 1) i (nI u) oc q = _ from if_neg hu9, hcl]
      obtain ⟨y, y1, y2⟩ := h u u1 i (by omega)
      have y16 := w16 mm hm
      by_cases c1 : bi1 p i = 0
      · rw [if_pos c1]
        exact ih _ _ _ _ (by omega) hC hN (Or.inr ⟨u, u1, rfl⟩) h
      · rw [if_neg c1, y2]
        by_cases c2 : nI y &&& b2 e = 0
        · rw [if_pos c2, if_neg (b2_n y (by omega) e he c2)]
          exact ih _ _ _ _ (by omega) hC hN (Or.inr ⟨u, u1, rfl⟩) (show qW c mm (rdQ s l t u (nI i) q) from h)
        · rw [if_neg c2]
          obtain ⟨r, r1, r2⟩ := rest_w mm hm y y1 e he
          rw [r2]
          have hp := qW_pu (s := s) (l := l) (t := t) (oc := oc) (r := r) hm hC (show qW c mm (rdQ s l t u (nI i) q) from h) u1 (show i < c by omega) r1
          by_cases c3 : nI y = b2 e
          · rw [if_pos c3]; exact hp
          · rw [if_neg c3]
            have hb : (puQ s l t u (nI i) (nI r) oc (rdQ s l t u (nI i) q)).2.2.1 ≤ 200 ∧ ((puQ s l t u (nI i) (nI r) oc (rdQ s l t u (nI i) q)).1 = -1 ∨ ∃ u', u' < (puQ s l t u (nI i) (nI r) oc (rdQ s l t u (nI i) q)).2.2.1 ∧ (puQ s l t u (nI i) (nI r) oc (rdQ s l t u (nI i) q)).1 = nI u') := by
              by_cases h2 : (rdQ s l t u (nI i) q).1 < 200
              · rw [pu_y h2]
                exact ⟨h2, Or.inr ⟨_, Nat.lt_succ_self _, rfl⟩⟩
              · rw [pu_n h2]
                exact ⟨hN, Or.inl rfl⟩
            exact ih _ _ _ _ (by omega) hC hb.1 hb.2 hp
theorem tc_q {c : Nat} {s l t : Int32} {j : Nat} {cm : Int32} : ∀ (k i : Nat) (fe a b : Int32) (q : sQ), qI c q → j < q.1 → qI c (tcF s l t j cm k i fe a b q).2.2 ∧ (tcF s l t j cm k i fe a b q).2.2.1 = q.1 ∧ (tcF s l t j cm k i fe a b q).2.2.2.1 = q.2.1 := by
  intro k
  induction k with
  | zero => intro i fe a b q h _; exact ⟨h, rfl, rfl⟩
  | succ k ih =>
    intro i fe a b q h hj
    rw [tcF_s]
    by_cases c1 : bi1 cm i = 0
    · rw [if_pos c1]
      by_cases c2 : bcI (nmI (q.2.1 j) (nI i)) < fe
      · rw [if_pos c2]; exact ih _ _ _ _ _ (qI_rd h hj) hj
      · rw [if_neg c2]; exact ih _ _ _ _ _ (qI_rd h hj) hj
    · rw [if_neg c1]; exact ih _ _ _ _ _ h hj
theorem bi_g : ∀ (p : Int32) (i : Nat), i < 12 → (bi1 p i = 0 ↔ p.toBitVec.getLsbD i = false) := by
  intro p i hi
  have k1 : (bi1 p i).toBitVec = (p.toBitVec >>> i) &&& 1#32 := by
    match i, hi with
    | 0, _ => rfl
    | 1, _ => rfl
    | 2, _ => rfl
    | 3, _ => rfl
    | 4, _ => rfl
    | 5, _ => rfl
    | 6, _ => rfl
    | 7, _ => rfl
    | 8, _ => rfl
    | 9, _ => rfl
    | 10, _ => rfl
    | 11, _ => rfl
    | i + 12, h => exact absurd h (by omega)
  have a1 : (p.toBitVec >>> i) &&& 1#32 = if p.toBitVec.getLsbD i then 1#32 else 0#32 := by
    apply BitVec.eq_of_getLsbD_eq
    intro k hk
    rw [BitVec.getLsbD_and, BitVec.getLsbD_one, BitVec.getLsbD_ushiftRight]
    by_cases e : k = 0
    · subst e
      rw [Nat.add_zero]
      cases h : p.toBitVec.getLsbD i <;> simp
    · cases h : p.toBitVec.getLsbD i <;> simp [e]
  rw [← Int32.toBitVec_inj, k1, a1]
  cases p.toBitVec.getLsbD i <;> decide
theorem sh32 : ∀ x, x < 12 → ((1 : Int32) <<< (nI x &&& 31)).toBitVec = 1#32 <<< x := by decide
theorem bi_or {co : Int32} {x y : Nat} (hx : x < 12) (hy : y < 12) : bi1 (co ||| (1 : Int32) <<< (nI x &&& 31)) y = 0 ↔ bi1 co y = 0 ∧ ¬ y = x := by
  rw [bi_g _ y hy, bi_g _ y hy]
  show (co.toBitVec ||| ((1 : Int32) <<< (nI x &&& 31)).toBitVec).getLsbD y = false ↔ _
  rw [sh32 x hx, BitVec.getLsbD_or, BitVec.getLsbD_shiftLeft, BitVec.getLsbD_one]
  by_cases e : y = x
  · subst e
    simp
    omega
  · by_cases e2 : y < x
    · simp [e, e2]
    · have e3 : ¬ y - x = 0 := by omega
      simp [e, e3]
theorem pig {c n : Nat} {tk : Nat → Int32} {co : Int32} (h : coB tk co n) (hC : c ≤ 12) (hn : n < c) : ∃ x, x < c ∧ bi1 co x = 0 := by
  apply Classical.byContradiction
  intro hne
  have h1 : ∀ x, x < c → ∃ j, j < n ∧ tk j = nI x := by
    intro x hx
    apply Classical.byContradiction
    intro h2
    exact hne ⟨x, hx, (h x (by omega)).mpr (fun j hj e => h2 ⟨j, hj, e⟩)⟩
  have key : ∀ k, k ≤ c → ∃ l : List Nat, l.length = k ∧ l.Nodup ∧ ∀ j ∈ l, j < n ∧ ∃ x, x < k ∧ tk j = nI x := by
    intro k
    induction k with
    | zero => intro _; exact ⟨[], rfl, List.nodup_nil, fun j hj => absurd hj List.not_mem_nil⟩
    | succ k ih =>
      intro hk
      obtain ⟨l, l1, l2, l3⟩ := ih (by omega)
      obtain ⟨j, j1, j2⟩ := h1 k (by omega)
      refine ⟨j :: l, by rw [List.length_cons, l1], List.nodup_cons.mpr ⟨fun hm => ?_, l2⟩, fun i hi => ?_⟩
      · obtain ⟨_, x, x1, x2⟩ := l3 j hm
        rw [j2, nI_eq (by omega) (by omega)] at x2
        omega
      · rcases List.mem_cons.mp hi with e | e
        · rw [e]; exact ⟨j1, k, by omega, j2⟩
        · obtain ⟨a, x, x1, x2⟩ := l3 i e
          exact ⟨a, x, by omega, x2⟩
  obtain ⟨l, l1, l2, l3⟩ := key c (Nat.le_refl _)
  have g := nodup_len n l l2 (fun x hx => (l3 x hx).1)
  omega
def yC (c mm g : Nat) (fr tk ch co : Nat → Int32) (q : sQ) (A : Nat → Nat → Int32) : Prop :=
  (∀ i, i ≤ g → ∃ xx T h f, tk i = nI xx ∧ xx < c ∧ A 17 i = nI xx ∧ A 18 i = nI f ∧ fr i = nI f ∧ f < q.1 ∧ A 19 i = nI T ∧ T < 2 ^ mm ∧ A 20 xx = nI h ∧ h ≤ mm ∧ ch i = chB T h) ∧ (∀ i j, i < j → j ≤ g → ¬ tk i = tk j) ∧ (∀ i, i ≤ g + 1 → coB tk (co i) i) ∧ (∀ j, j ≤ g → ∀ i, i < j → ∀ xx f, tk i = nI xx → xx < 12 → fr j = nI f → f < 2 ^ 31 → ∃ h, h < 4 ∧ A 20 xx = nI (h + 1) ∧ nmI (q.2.1 f) (nI xx) = b2 h)
def yR (c mm : Nat) (x : yS) (F : Nat → Int32) (A : Nat → Nat → Int32) : Prop := match x with
  | (oc, tb, lv, g, fr, tk, ch, co, q) => mAd c F A q ∧ F 29 = tb ∧ F 30 = (if oc = 3 then -1 else oc) ∧ (oc = 3 → F 37 = nI (g + 1) ∧ g < c ∧ yC c mm g fr tk ch co q A) ∧ (oc = 1 → ∃ u, lv = nI u ∧ u < q.1 ∧ ∀ xx, xx < c → ∃ h, h < 4 ∧ A 20 xx = nI (h + 1) ∧ nmI (q.2.1 u) (nI xx) = b2 h)
def aF (F0 : Nat → Int32) (A0 : Nat → Nat → Int32) (F : Nat → Int32) (A : Nat → Nat → Int32) : Prop := (∀ k, (k < 14 ∨ k = 15 ∨ k = 16 ∨ 17 < k ∧ k < 28) → F k = F0 k) ∧ ∀ j, (j < 4 ∨ 11 < j ∧ j < 17 ∨ 20 < j) → A j = A0 j
theorem aF_r {F : Nat → Int32} {A : Nat → Nat → Int32} : aF F A F A := ⟨fun _ _ => rfl, fun _ _ => rfl⟩
-- every cell is taken: all are covered
theorem cov {c : Nat} {tk : Nat → Int32} {co : Int32} (h : coB tk co c) (hd : ∀ i j, i < j → j < c → ¬ tk i = tk j) (hr : ∀ i, i < c → ∃ x, x < c ∧ tk i = nI x) (hC : c ≤ 12) : ∀ x, x < c → ∃ j, j < c ∧ tk j = nI x := by
  intro x hx
  apply Classical.byContradiction
  intro hne
  have key : ∀ k, k ≤ c → ∃ l : List Nat, l.length = k ∧ l.Nodup ∧ ∀ y ∈ l, (y < c ∧ y ≠ x) ∧ ∃ j, j < k ∧ tk j = nI y := by
    intro k
    induction k with
    | zero => intro _; exact ⟨[], rfl, List.nodup_nil, fun j hj => absurd hj List.not_mem_nil⟩
    | succ k ih =>
      intro hk
      obtain ⟨l, l1, l2, l3⟩ := ih (by omega)
      obtain ⟨y, y1, y2⟩ := hr k (by omega)
      refine ⟨y :: l, by rw [List.length_cons, l1], List.nodup_cons.mpr ⟨fun hm => ?_, l2⟩, fun i hi => ?_⟩
      · obtain ⟨_, j, j1, j2⟩ := l3 y hm
        exact hd j k (by omega) (by omega) (j2.trans y2.symm)
      · rcases List.mem_cons.mp hi with e | e
        · subst e
          exact ⟨⟨y1, fun g => hne ⟨k, by omega, by rw [← g]; exact y2⟩⟩, k, by omega, y2⟩
        · obtain ⟨a, j, j1, j2⟩ := l3 i e
          exact ⟨a, j, by omega, j2⟩
  obtain ⟨l, l1, l2, l3⟩ := key c (Nat.le_refl _)
  have g := nodup_len c (x :: l) (List.nodup_cons.mpr ⟨fun hm => (l3 x hm).1.2 rfl, l2⟩) (fun y hy => by
    rcases List.mem_cons.mp hy with e | e
    · rw [e]; exact hx
    · exact (l3 y e).1.1)
  rw [List.length_cons, l1] at g
  omega
