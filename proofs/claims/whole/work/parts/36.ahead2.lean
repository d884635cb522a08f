theorem q_Pa_paintAhead {sc : Option (Nat × Nat × (Nat → Int32))} {sa : Nat → Nat} {d : Nat} {M : mz_M} {z : Nat × Nat} {pb : Nat} {oc tb lv mx : Int32} {fr tr tk ch co : Nat → Int32} {s l t : Int32} {q : sQ} (w : g_Pa M.2.2 pb) (hN : q.1 ≤ 200) {st : Nat} (v : g_St M.2.2 st) (hf : pb + 11 < st) {n g f e : Nat} (hs : s = nI n) (hn : n ≤ 12) (hg : g < n) (hfr : fr g = nI f) (hte : tk g = nI e) (he : e < 12) (h2 : f < q.1) (h3 : okl q.2.2.1 q.1) : zx sc sa (d + 6) 13 [.ref pb, .ref st, .int (nI g)] (paQ M pb oc tb lv mx fr tr tk ch co s l t q) z z (some (.int (paF s l t n f (nI e) (M.1 (st + 7) e &&& (co (g + 1) ^^^ -1)) 4 (-1) (ch g) oc q).1)) (paQ M pb (paF s l t n f (nI e) (M.1 (st + 7) e &&& (co (g + 1) ^^^ -1)) 4 (-1) (ch g) oc q).2.2.1 tb lv mx fr tr tk (va_up ch g (paF s l t n f (nI e) (M.1 (st + 7) e &&& (co (g + 1) ^^^ -1)) 4 (-1) (ch g) oc q).2.1) co s l t (paF s l t n f (nI e) (M.1 (st + 7) e &&& (co (g + 1) ^^^ -1)) 4 (-1) (ch g) oc q).2.2.2) := by
  refine zxin ym_Pa_paintAhead [.ref pb, .ref st, .int (nI g), .retAddr 0, .retAddr 0, .retAddr 0, .retAddr 0] rfl rfl rfl rfl ?_
  refine z_iload_n (q := 1) rfl rfl rfl ?_
  refine z_if_lt (q := 4) rfl rfl (fun h1 => ?_) (fun h1 => ?_)
  · exact absurd h1 (nI_pos (by omega))
  · refine z_iload_n (q := 5) rfl rfl rfl ?_
    refine z_iconst (q := 6) (v := 1) rfl rfl rfl ?_
    refine z_iadd (q := 7) rfl rfl ?_
    rw [show nI g + 1 = nI (g + 1) from (nI_succ g).symm]
    refine z_aload_n (q := 8) rfl rfl rfl ?_
    refine z_getR (q := 11) rfl rfl rfl (Pa_k w) (Pa_r1 w) ?_
    refine z_alen (q := 12) rfl rfl (Pa_a1 w) rfl rfl ?_
    refine z_ic_lt (q := 15) rfl rfl (fun h12 => ?_) (fun h12 => ?_)
    · refine z_aload_n (q := 18) rfl rfl rfl ?_
      refine z_getR (q := 21) rfl rfl rfl (Pa_k w) (Pa_r3 w) ?_
      refine z_iload_n (q := 22) rfl rfl rfl ?_
      refine z_iald (q := 23) rfl rfl (Pa_a3 w) (by first | assumption | exact vp_in_nI (by omega) (by omega)) ?_
      rw [paQ_a3]
      try rw [nI_clamp (by omega)]
      rw [hte]
      refine z_istore_n (q := 24) (L2 := [_, _, _, _, _, _, _]) rfl rfl rfl rfl ?_
      refine z_aload_n (q := 25) rfl rfl rfl ?_
      refine z_iload_n (q := 26) rfl rfl rfl ?_
      refine z_cv1i (q := 29) rfl rfl rfl (St_k v) (t_St_partners v hf he) ?_
      refine z_aload_n (q := 30) rfl rfl rfl ?_
      refine z_getR (q := 33) rfl rfl rfl (Pa_k w) (Pa_r5 w) ?_
      refine z_iload_n (q := 34) rfl rfl rfl ?_
      refine z_iconst (q := 35) (v := 1) rfl rfl rfl ?_
      refine z_iadd (q := 36) rfl rfl ?_
      rw [show nI g + 1 = nI (g + 1) from (nI_succ g).symm]
      refine z_iald (q := 37) rfl rfl (Pa_a5 w) (by first | assumption | exact vp_in_nI (by omega) (by omega)) ?_
      rw [paQ_a5]
      try rw [nI_clamp (by omega)]
      refine z_iconst (q := 38) (v := -1) rfl rfl rfl ?_
      refine z_ixor (q := 39) rfl rfl ?_
      refine z_iand (q := 40) rfl rfl ?_
      refine z_istore (q := 42) (L2 := [_, _, _, _, _, _, _]) rfl rfl rfl rfl ?_
      refine z_iconst (q := 43) (v := -1) rfl rfl rfl ?_
      refine z_istore (q := 45) (L2 := [_, _, _, _, _, _, _]) rfl rfl rfl rfl ?_
      refine z_iconst (q := 46) (v := 1) rfl rfl rfl ?_
      refine z_istore (q := 48) (L2 := [_, _, _, _, _, _, _]) rfl rfl rfl rfl ?_
      have e9 := l_Pa_paintAhead (sc := sc) (sa := sa) (d := d) (z := z) (tb := tb) (lv := lv) (mx := mx) (tr := tr) (tk := tk) (ch := ch) (co := co) (l := l) (t := t) w v hf hs hn hg hfr (c := nI e) (p := (M.1 (st + 7) e &&& (co (g + 1) ^^^ -1))) 4 (-1) (ch g) oc q (paF s l t n f (nI e) (M.1 (st + 7) e &&& (co (g + 1) ^^^ -1)) 4 (-1) (ch g) oc q).1 (paF s l t n f (nI e) (M.1 (st + 7) e &&& (co (g + 1) ^^^ -1)) 4 (-1) (ch g) oc q).2.1 (paF s l t n f (nI e) (M.1 (st + 7) e &&& (co (g + 1) ^^^ -1)) 4 (-1) (ch g) oc q).2.2.1 (paF s l t n f (nI e) (M.1 (st + 7) e &&& (co (g + 1) ^^^ -1)) 4 (-1) (ch g) oc q).2.2.2 (by omega) hN h2 h3 rfl
      rw [up_id rfl] at e9
      exact e9
    · exact absurd (nI_lt (by omega) (by omega)) h12
theorem paF_ok {s l t : Int32} {n f : Nat} {c p : Int32} : ∀ k (x h oc : Int32) (q : sQ), q.1 ≤ 200 → f < q.1 → okl q.2.2.1 q.1 → (x = -1 ∨ ∃ j, j < q.1 ∧ x = nI j) → q.1 ≤ (paF s l t n f c p k x h oc q).2.2.2.1 ∧ (paF s l t n f c p k x h oc q).2.2.2.1 ≤ 200 ∧ okl (paF s l t n f c p k x h oc q).2.2.2.2.2.1 (paF s l t n f c p k x h oc q).2.2.2.1 ∧ ((paF s l t n f c p k x h oc q).1 = -1 ∨ ∃ j, j < (paF s l t n f c p k x h oc q).2.2.2.1 ∧ (paF s l t n f c p k x h oc q).1 = nI j) := by
  intro k
  induction k with
  | zero => intro x h oc q h1 h2 h3 h4; exact ⟨Nat.le_refl _, h1, h3, h4⟩
  | succ k ih =>
    intro x h oc q h1 h2 h3 h4
    have e1 := @puQ_ok s l t f c (bb (k + 1)) oc q h1 h2 h3
    have e2 := @soF_ok s l t p (bb (k + 1)) n 0 _ (puQ s l t f c (bb (k + 1)) oc q).2.1 _ e1.2.1 e1.2.2.2 e1.2.2.1
    rw [paF_s]
    by_cases c1 : x = -1
    · rw [if_pos c1]
      by_cases c2 : oc = 3
      · rw [if_pos c2]
        by_cases c3 : h &&& bb (k + 1) = 0
        · rw [if_pos c3]
          exact ih _ _ _ _ h1 h2 h3 h4
        · rw [if_neg c3]
          have e3 := ih _ (h &&& (bb (k + 1) ^^^ -1)) (soF s l t p (bb (k + 1)) n 0 (puQ s l t f c (bb (k + 1)) oc q).1 (puQ s l t f c (bb (k + 1)) oc q).2.1 (puQ s l t f c (bb (k + 1)) oc q).2.2).2.1 _ e2.2.1 (Nat.lt_of_lt_of_le h2 (Nat.le_trans e1.1 e2.1)) e2.2.2.1 e2.2.2.2
          exact ⟨Nat.le_trans (Nat.le_trans e1.1 e2.1) e3.1, e3.2⟩
      · rw [if_neg c2]
        exact ⟨Nat.le_refl _, h1, h3, h4⟩
    · rw [if_neg c1]
      exact ⟨Nat.le_refl _, h1, h3, h4⟩
theorem tcF_ok {s l t : Int32} {j : Nat} {cm : Int32} {n : Nat} (hn : n ≤ 12) : ∀ k i (fe a b : Int32) (q : sQ), i + k = n → q.1 ≤ 200 → j < q.1 → okl q.2.2.1 q.1 → (∃ c, c < 12 ∧ a = nI c) → (tcF s l t j cm k i fe a b q).2.2.1 = q.1 ∧ okl (tcF s l t j cm k i fe a b q).2.2.2.2.1 (tcF s l t j cm k i fe a b q).2.2.1 ∧ ∃ c, c < 12 ∧ (tcF s l t j cm k i fe a b q).1 = nI c := by
  intro k
  induction k with
  | zero => intro i fe a b q hi h1 h2 h3 h4; exact ⟨rfl, h3, h4⟩
  | succ k ih =>
    intro i fe a b q hi h1 h2 h3 h4
    rw [tcF_s]
    by_cases c1 : bi1 cm i = 0
    · rw [if_pos c1]
      by_cases c2 : bcI (nmI (q.2.1 j) (nI i)) < fe
      · rw [if_pos c2]
        exact ih (i + 1) _ _ _ (rdQ s l t j (nI i) q) (by omega) h1 h2 (rdQ_ok h1 h2 h3) ⟨i, by omega, rfl⟩
      · rw [if_neg c2]
        exact ih (i + 1) _ _ _ (rdQ s l t j (nI i) q) (by omega) h1 h2 (rdQ_ok h1 h2 h3) h4
    · rw [if_neg c1]
      exact ih (i + 1) _ _ _ _ (by omega) h1 h2 h3 h4
abbrev yS : Type := Int32 × Int32 × Int32 × Nat × (Nat → Int32) × (Nat → Int32) × (Nat → Int32) × (Nat → Int32) × sQ
def yN (s l t : Int32) (n : Nat) (P : Nat → Int32) : yS → Int32 × Int32 × Int32 × sQ := fun (oc, _, _, g, fr, tk, ch, co, q) => paF s l t n (fr g).toNatClampNeg (tk g) (P (tk g).toNatClampNeg &&& (co (g + 1) ^^^ -1)) 4 (-1) (ch g) oc q
def yT (s l t : Int32) (n : Nat) (x : Int32) (j g : Nat) : yS → yS := fun (oc, tb, lv, _, fr, tk, ch, co, q) =>
  if n ≤ g then (1, tb, x, g, fr, tk, ch, co, q) else
  (oc, tb, lv, g, va_up fr g (nI j), va_up tk g (tcF s l t j (co g) n 0 5 (tk g) (ch g) q).1, va_up ch g (tcF s l t j (co g) n 0 5 (tk g) (ch g) q).2.1, va_up co (g + 1) (co g ||| (1 <<< ((tcF s l t j (co g) n 0 5 (tk g) (ch g) q).1 &&& 31))), (tcF s l t j (co g) n 0 5 (tk g) (ch g) q).2.2)
def yU (s l t : Int32) (n : Nat) : yS → Int32 × Int32 × Int32 × sQ → yS := fun (_, tb, lv, g, fr, tk, ch, co, _) (r, h, oc, q) =>
  if r = -1 then (if oc = 3 then (if g = 0 then 0 else oc, if g = 0 then tb else tb + 1, lv, g - 1, fr, tk, va_up ch g h, co, q) else (oc, tb, lv, g, fr, tk, va_up ch g h, co, q))
  else yT s l t n r r.toNatClampNeg (g + 1) (oc, tb, lv, g, fr, tk, va_up ch g h, co, q)
def yG (s l t : Int32) (n : Nat) (P : Nat → Int32) : Nat → yS → yS
  | 0, x => x
  | k + 1, x => if x.1 = 3 then yG s l t n P k (yU s l t n x (yN s l t n P x)) else x
theorem yG_s {s l t : Int32} {n : Nat} {P : Nat → Int32} {k : Nat} {x : yS} : yG s l t n P (k + 1) x = if x.1 = 3 then yG s l t n P k (yU s l t n x (yN s l t n P x)) else x := rfl
def yI (n : Nat) : yS → Prop := fun (oc, _, _, g, fr, tk, _, _, q) => q.1 ≤ 200 ∧ okl q.2.2.1 q.1 ∧ g ≤ n ∧ (oc = 3 → g < n) ∧ (∀ i, i ≤ g → i < n → ∃ f, f < q.1 ∧ fr i = nI f) ∧ ∀ i, ∃ c, c < 12 ∧ tk i = nI c
theorem yT_ok {s l t : Int32} {n : Nat} (hn : n ≤ 12) {x : Int32} {j g g0 : Nat} {oc tb lv : Int32} {fr tk ch co : Nat → Int32} {q : sQ} (h1 : q.1 ≤ 200) (h2 : okl q.2.2.1 q.1) (hg : g ≤ n) (hj : j < q.1) (hfr : ∀ i, i < g → i < n → ∃ f, f < q.1 ∧ fr i = nI f) (htk : ∀ i, ∃ c, c < 12 ∧ tk i = nI c) : yI n (yT s l t n x j g (oc, tb, lv, g0, fr, tk, ch, co, q)) := by
  unfold yT yI
  dsimp only
  by_cases c : n ≤ g
  · rw [if_pos c]
    dsimp only
    exact ⟨h1, h2, hg, fun h => absurd h (by decide), fun i hi hi2 => hfr i (by omega) hi2, htk⟩
  · rw [if_neg c]
    dsimp only
    have e := @tcF_ok s l t j (co g) n hn n 0 5 (tk g) (ch g) q (by omega) h1 hj h2 (htk g)
    refine ⟨by rw [e.1]; exact h1, e.2.1, hg, fun _ => by omega, fun i hi hi2 => ?_, fun i => ?_⟩
    · rw [e.1]
      by_cases c0 : i = g
      · subst c0
        exact ⟨j, hj, up_at⟩
      · rw [up_ne c0]
        exact hfr i (by omega) hi2
    · by_cases c0 : i = g
      · subst c0
        rw [up_at]
        exact e.2.2
      · rw [up_ne c0]
        exact htk i
theorem yU_ok {s l t : Int32} {n : Nat} {P : Nat → Int32} {x : yS} (hn : n ≤ 12) (h : yI n x) (h3 : x.1 = 3) : yI n (yU s l t n x (yN s l t n P x)) := by
  obtain ⟨oc, tb, lv, g, fr, tk, ch, co, q⟩ := x
  obtain ⟨h1, h2, h4, h5, h6, h7⟩ := h
  dsimp only at h3
  have hg := h5 h3
  obtain ⟨f, hf, ef⟩ := h6 g (Nat.le_refl _) hg
  unfold yN
  dsimp only
  rw [ef, nI_clamp (by omega)]
  have e := @paF_ok s l t n f (tk g) (P (tk g).toNatClampNeg &&& (co (g + 1) ^^^ -1)) 4 (-1) (ch g) oc q h1 hf h2 (Or.inl rfl)
  generalize paF s l t n f (tk g) (P (tk g).toNatClampNeg &&& (co (g + 1) ^^^ -1)) 4 (-1) (ch g) oc q = r at e
  obtain ⟨r0, r1, r2, q1⟩ := r
  obtain ⟨g1, g2, g3, g5⟩ := e
  dsimp only at g1 g2 g3 g5
  have hold : ∀ i, i ≤ g → i < n → ∃ f, f < q1.1 ∧ fr i = nI f := by
    intro i hi hi2
    obtain ⟨f2, hf2, e2⟩ := h6 i hi hi2
    exact ⟨f2, by omega, e2⟩
  unfold yU
  dsimp only
  by_cases c1 : r0 = -1
  · rw [if_pos c1]
    by_cases c2 : r2 = 3
    · rw [if_pos c2]
      exact ⟨g2, g3, by omega, fun _ => by omega, fun i hi hi2 => hold i (by omega) hi2, h7⟩
    · rw [if_neg c2]
      exact ⟨g2, g3, h4, fun _ => hg, hold, h7⟩
  · rw [if_neg c1]
    obtain ⟨j, hj, ej⟩ := g5.resolve_left c1
    rw [ej, nI_clamp (by omega)]
    exact yT_ok hn g2 g3 hg hj (fun i hi hi2 => hold i (by omega) hi2) h7
theorem q_Pa_take {sc : Option (Nat × Nat × (Nat → Int32))} {sa : Nat → Nat} {d : Nat} {M : mz_M} {z : Nat × Nat} {pb : Nat} {oc tb lv mx : Int32} {fr tr tk ch co : Nat → Int32} {s l t : Int32} {q : sQ} (w : g_Pa M.2.2 pb) (hN : q.1 ≤ 200) {n g g0 j : Nat} (hs : s = nI n) (hn : n ≤ 12) (hg : g ≤ n) (h2 : j < q.1) (h3 : okl q.2.2.1 q.1) : zx sc sa (d + 5) 12 [.ref pb, .int (nI g), .int (nI j)] (paQ M pb oc tb lv mx fr tr tk ch co s l t q) z z none (paQ M pb (yT s l t n (nI j) j g (oc, tb, lv, g0, fr, tk, ch, co, q)).1 (yT s l t n (nI j) j g (oc, tb, lv, g0, fr, tk, ch, co, q)).2.1 (yT s l t n (nI j) j g (oc, tb, lv, g0, fr, tk, ch, co, q)).2.2.1 mx (yT s l t n (nI j) j g (oc, tb, lv, g0, fr, tk, ch, co, q)).2.2.2.2.1 tr (yT s l t n (nI j) j g (oc, tb, lv, g0, fr, tk, ch, co, q)).2.2.2.2.2.1 (yT s l t n (nI j) j g (oc, tb, lv, g0, fr, tk, ch, co, q)).2.2.2.2.2.2.1 (yT s l t n (nI j) j g (oc, tb, lv, g0, fr, tk, ch, co, q)).2.2.2.2.2.2.2.1 s l t (yT s l t n (nI j) j g (oc, tb, lv, g0, fr, tk, ch, co, q)).2.2.2.2.2.2.2.2) := by
  unfold yT
  dsimp only
  by_cases c : n ≤ g
  · rw [if_pos c]
    exact q_Pa_takeEnd w hs hn c (by omega)
  · rw [if_neg c]
    exact q_Pa_takeCell w hN hs hn (by omega) h2 h3
theorem o_Pa_seekAhead {sc : Option (Nat × Nat × (Nat → Int32))} {sa : Nat → Nat} {d : Nat} {M : mz_M} {z : Nat × Nat} {pb : Nat} {oc tb lv mx : Int32} {fr tr tk ch co : Nat → Int32} {s l t : Int32} {q : sQ} (w : g_Pa M.2.2 pb) {st : Nat} (v : g_St M.2.2 st) (hf : pb + 11 < st) {l2 l3 : Int32} {g i : Nat} {v6 : Value} (hi : i < 1000000) (c3 : ¬ oc = 3) : zw sc sa (d + 6) ym_Pa_seekAhead z (fun r' M' => r' = none ∧ M' = (paQ M pb oc tb lv mx fr tr tk ch co s l t q)) 42 [.ref pb, .ref st, .int l2, .int l3, .int (nI g), .int (nI i), v6] [] (paQ M pb oc tb lv mx fr tr tk ch co s l t q) z := by
  refine z_iload (q := 44) rfl rfl rfl ?_
  refine z_ldc (q := 46) (v := 1000000) rfl rfl rfl ?_
  refine z_ic_ge (q := 49) rfl rfl (fun h46 => ?_) (fun h46 => ?_)
  · exact absurd (show nI 1000000 ≤ nI i from h46) (nI_ge (by omega) (by omega))
  · refine z_aload_n (q := 50) rfl rfl rfl ?_
    refine z_getI (q := 53) rfl rfl rfl (Pa_k w) ?_
    rw [paQ_g6]
    refine z_iconst (q := 54) (v := 3) rfl rfl rfl ?_
    refine z_ic_ne (q := 57) rfl rfl (fun h54 => ?_) (fun h54 => ?_)
    · refine z_ret rfl rfl ?_
      exact ⟨rfl, rfl⟩
    · exact absurd h54 c3
theorem l_Pa_seekAhead {sc : Option (Nat × Nat × (Nat → Int32))} {sa : Nat → Nat} {d : Nat} {M : mz_M} {z : Nat × Nat} {pb : Nat} {mx : Int32} {tr : Nat → Int32} {s l t : Int32} (w : g_Pa M.2.2 pb) {st : Nat} (v : g_St M.2.2 st) (hf : pb + 11 < st) {n : Nat} (hs : s = nI n) (hn : n ≤ 12) {l2 l3 : Int32} : ∀ (k : Nat) (i : Nat) (x y : yS) (v6 : Value), i + k = 1000000 → yI n x → yG s l t n (M.1 (st + 7)) k x = y → zw sc sa (d + 6) ym_Pa_seekAhead z (fun r' M' => r' = none ∧ M' = (paQ M pb y.1 y.2.1 y.2.2.1 mx y.2.2.2.2.1 tr y.2.2.2.2.2.1 y.2.2.2.2.2.2.1 y.2.2.2.2.2.2.2.1 s l t y.2.2.2.2.2.2.2.2)) 42 [.ref pb, .ref st, .int l2, .int l3, .int (nI x.2.2.2.1), .int (nI i), v6] [] (paQ M pb x.1 x.2.1 x.2.2.1 mx x.2.2.2.2.1 tr x.2.2.2.2.2.1 x.2.2.2.2.2.2.1 x.2.2.2.2.2.2.2.1 s l t x.2.2.2.2.2.2.2.2) z := by
  intro k
  induction k with
  | zero =>
    intro i x y v6 hi hI hG
    have e1 : i = 1000000 := by omega
    subst e1
    have e2 : x = y := hG
    subst e2
    refine z_iload (q := 44) rfl rfl rfl ?_
    refine z_ldc (q := 46) (v := 1000000) rfl rfl rfl ?_
    refine z_ic_ge (q := 49) rfl rfl (fun h46 => ?_) (fun h46 => ?_)
    · refine z_ret rfl rfl ?_
      exact ⟨rfl, rfl⟩
    · exact absurd (show nI 1000000 ≤ nI 1000000 from nI_le (Nat.le_refl _) (by omega)) h46
  | succ k ih =>
    intro i x y v6 hi hI hG
    obtain ⟨oc, tb, lv, g, fr, tk, ch, co, q⟩ := x
    have hI2 := hI
    obtain ⟨h1, h2, h4, h5, h6, h7⟩ := hI2
    rw [yG_s] at hG
    dsimp only at hG
    dsimp only
    by_cases c3 : oc = 3
    case neg =>
      rw [if_neg c3] at hG
      subst hG
      exact o_Pa_seekAhead w v hf (by omega) c3
    have hg := h5 c3
    rw [if_pos c3] at hG
    obtain ⟨f, hff, ef⟩ := h6 g (Nat.le_refl _) hg
    obtain ⟨e, he, ete⟩ := h7 g
    have hK := @yU_ok s l t n (M.1 (st + 7)) (oc, tb, lv, g, fr, tk, ch, co, q) hn hI c3
    have er : yN s l t n (M.1 (st + 7)) (oc, tb, lv, g, fr, tk, ch, co, q) = paF s l t n f (nI e) (M.1 (st + 7) e &&& (co (g + 1) ^^^ -1)) 4 (-1) (ch g) oc q := by
      unfold yN
      dsimp only
      rw [ef, ete, nI_clamp (by omega), nI_clamp (by omega)]
    rw [er] at hK hG
    have hp := @q_Pa_paintAhead sc sa d M z pb oc tb lv mx fr tr tk ch co s l t q w h1 st v hf n g f e hs hn hg ef ete he hff h2
    have hq := @paF_ok s l t n f (nI e) (M.1 (st + 7) e &&& (co (g + 1) ^^^ -1)) 4 (-1) (ch g) oc q h1 hff h2 (Or.inl rfl)
    generalize paF s l t n f (nI e) (M.1 (st + 7) e &&& (co (g + 1) ^^^ -1)) 4 (-1) (ch g) oc q = r at hK hG hp hq
    obtain ⟨r0, r1, r2, q1⟩ := r
    dsimp only at hp hq
    have hT : ∀ j, r0 = nI j → j < q1.1 → zx sc sa (d + 6) 12 [.ref pb, .int (nI (g + 1)), .int r0] (paQ M pb r2 tb lv mx fr tr tk (va_up ch g r1) co s l t q1) z z none (paQ M pb (yT s l t n (nI j) j (g + 1) (r2, tb, lv, g, fr, tk, va_up ch g r1, co, q1)).1 (yT s l t n (nI j) j (g + 1) (r2, tb, lv, g, fr, tk, va_up ch g r1, co, q1)).2.1 (yT s l t n (nI j) j (g + 1) (r2, tb, lv, g, fr, tk, va_up ch g r1, co, q1)).2.2.1 mx (yT s l t n (nI j) j (g + 1) (r2, tb, lv, g, fr, tk, va_up ch g r1, co, q1)).2.2.2.2.1 tr (yT s l t n (nI j) j (g + 1) (r2, tb, lv, g, fr, tk, va_up ch g r1, co, q1)).2.2.2.2.2.1 (yT s l t n (nI j) j (g + 1) (r2, tb, lv, g, fr, tk, va_up ch g r1, co, q1)).2.2.2.2.2.2.1 (yT s l t n (nI j) j (g + 1) (r2, tb, lv, g, fr, tk, va_up ch g r1, co, q1)).2.2.2.2.2.2.2.1 s l t (yT s l t n (nI j) j (g + 1) (r2, tb, lv, g, fr, tk, va_up ch g r1, co, q1)).2.2.2.2.2.2.2.2) := by
      intro j ej hj
      rw [ej]
      exact q_Pa_take (d := d + 1) w hq.2.1 hs hn hg hj hq.2.2.1
    refine z_iload (q := 44) rfl rfl rfl ?_
    refine z_ldc (q := 46) (v := 1000000) rfl rfl rfl ?_
    refine z_ic_ge (q := 49) rfl rfl (fun h46 => ?_) (fun h46 => ?_)
    · exact absurd (show nI 1000000 ≤ nI i from h46) (nI_ge (by omega) (by omega))
    · refine z_aload_n (q := 50) rfl rfl rfl ?_
      refine z_getI (q := 53) rfl rfl rfl (Pa_k w) ?_
      rw [paQ_g6]
      refine z_iconst (q := 54) (v := 3) rfl rfl rfl ?_
      refine z_ic_ne (q := 57) rfl rfl (fun h54 => ?_) (fun h54 => ?_)
      · exact absurd c3 h54
      · refine z_aload_n (q := 58) rfl rfl rfl ?_
        refine z_aload_n (q := 59) rfl rfl rfl ?_
        refine z_iload (q := 61) rfl rfl rfl ?_
        refine z_cv2i (q := 64) rfl rfl rfl (Pa_k w) (hp) ?_
        refine z_istore (q := 66) (L2 := [_, _, _, _, _, _, _]) rfl rfl rfl rfl ?_
        refine z_iload (q := 68) rfl rfl rfl ?_
        refine z_iconst (q := 69) (v := -1) rfl rfl rfl ?_
        refine z_ic_eq (q := 72) rfl rfl (fun h69 => ?_) (fun h69 => ?_)
        · refine z_aload_n (q := 87) rfl rfl rfl ?_
          refine z_getI (q := 90) rfl rfl rfl (Pa_k w) ?_
          rw [paQ_g6]
          refine z_iconst (q := 91) (v := 3) rfl rfl rfl ?_
          refine z_ic_ne (q := 94) rfl rfl (fun h91 => ?_) (fun h91 => ?_)
          · refine z_iinc (q := 105) (L2 := [_, _, _, _, _, _, _]) rfl rfl rfl rfl ?_
            refine z_goto rfl ?_
            rw [show nI i + Int32.ofInt 1 = nI (i + 1) from (nI_succ i).symm]
            unfold yU at hK hG
            dsimp only at hK hG
            first
              | (have g1 : ¬ r0 = -1 := h69
                 rw [if_neg g1] at hK hG
                 rw [ej, nI_clamp (show j < 2 ^ 31 by omega)] at hK hG
                 have hgg : (yT s l t n (nI j) j (g + 1) (r2, tb, lv, g, fr, tk, va_up ch g r1, co, q1)).2.2.2.1 = g + 1 := by
                   unfold yT
                   dsimp only
                   split <;> rfl
                 have e9 := ih (i + 1) _ y (.int r0) (by omega) hK hG
                 rw [hgg] at e9
                 exact e9)
              | (have g1 : r0 = -1 := h69
                 have g2 : ¬ r2 = 3 := h91
                 rw [if_pos g1, if_neg g2] at hK hG
                 exact ih (i + 1) _ y (.int r0) (by omega) hK hG)
              | (have g1 : r0 = -1 := h69
                 have g2 : r2 = 3 := h91
                 rw [if_pos g1, if_pos g2] at hK hG
                 exact ih (i + 1) _ y (.int r0) (by omega) hK hG)
          · refine z_aload_n (q := 95) rfl rfl rfl ?_
            refine z_iload (q := 97) rfl rfl rfl ?_
            refine z_cv1i (q := 100) rfl rfl rfl (Pa_k w) (q_Pa_backFrom w (by omega)) ?_
            refine z_istore (q := 102) (L2 := [_, _, _, _, _, _, _]) rfl rfl rfl rfl ?_
            refine z_iinc (q := 105) (L2 := [_, _, _, _, _, _, _]) rfl rfl rfl rfl ?_
            refine z_goto rfl ?_
            rw [show nI i + Int32.ofInt 1 = nI (i + 1) from (nI_succ i).symm]
            unfold yU at hK hG
            dsimp only at hK hG
            first
              | (have g1 : ¬ r0 = -1 := h69
                 rw [if_neg g1] at hK hG
                 rw [ej, nI_clamp (show j < 2 ^ 31 by omega)] at hK hG
                 have hgg : (yT s l t n (nI j) j (g + 1) (r2, tb, lv, g, fr, tk, va_up ch g r1, co, q1)).2.2.2.1 = g + 1 := by
                   unfold yT
                   dsimp only
                   split <;> rfl
                 have e9 := ih (i + 1) _ y (.int r0) (by omega) hK hG
                 rw [hgg] at e9
                 exact e9)
              | (have g1 : r0 = -1 := h69
                 have g2 : ¬ r2 = 3 := h91
                 rw [if_pos g1, if_neg g2] at hK hG
                 exact ih (i + 1) _ y (.int r0) (by omega) hK hG)
              | (have g1 : r0 = -1 := h69
                 have g2 : r2 = 3 := h91
                 rw [if_pos g1, if_pos g2] at hK hG
                 exact ih (i + 1) _ y (.int r0) (by omega) hK hG)
        · refine z_iinc (q := 75) (L2 := [_, _, _, _, _, _, _]) rfl rfl rfl rfl ?_
          rw [show nI g + Int32.ofInt 1 = nI (g + 1) from (nI_succ g).symm]
          obtain ⟨j, hj, ej⟩ := hq.2.2.2.resolve_left h69
          refine z_aload_n (q := 76) rfl rfl rfl ?_
          refine z_iload (q := 78) rfl rfl rfl ?_
          refine z_iload (q := 80) rfl rfl rfl ?_
          refine z_cv2v (q := 83) rfl rfl rfl (Pa_k w) (hT j ej hj) ?_
          refine z_goto rfl ?_
          refine z_iinc (q := 105) (L2 := [_, _, _, _, _, _, _]) rfl rfl rfl rfl ?_
          refine z_goto rfl ?_
          rw [show nI i + Int32.ofInt 1 = nI (i + 1) from (nI_succ i).symm]
          unfold yU at hK hG
          dsimp only at hK hG
          first
            | (have g1 : ¬ r0 = -1 := h69
               rw [if_neg g1] at hK hG
               rw [ej, nI_clamp (show j < 2 ^ 31 by omega)] at hK hG
               have hgg : (yT s l t n (nI j) j (g + 1) (r2, tb, lv, g, fr, tk, va_up ch g r1, co, q1)).2.2.2.1 = g + 1 := by
                 unfold yT
                 dsimp only
                 split <;> rfl
               have e9 := ih (i + 1) _ y (.int r0) (by omega) hK hG
               rw [hgg] at e9
               exact e9)
            | (have g1 : r0 = -1 := h69
               have g2 : ¬ r2 = 3 := h91
               rw [if_pos g1, if_neg g2] at hK hG
               exact ih (i + 1) _ y (.int r0) (by omega) hK hG)
            | (have g1 : r0 = -1 := h69
               have g2 : r2 = 3 := h91
               rw [if_pos g1, if_pos g2] at hK hG
               exact ih (i + 1) _ y (.int r0) (by omega) hK hG)
theorem q_Pa_seekAhead {sc : Option (Nat × Nat × (Nat → Int32))} {sa : Nat → Nat} {d : Nat} {M : mz_M} {z : Nat × Nat} {pb : Nat} {oc tb lv mx : Int32} {fr tr tk ch co : Nat → Int32} {s l t : Int32} {q : sQ} (w : g_Pa M.2.2 pb) {st : Nat} (v : g_St M.2.2 st) (hf : pb + 11 < st) {n : Nat} (hs : M.1 (st + 1) 5 = nI n) (hn : n ≤ 12) (hn1 : 1 ≤ n) (ht : ∀ i, ∃ c, c < 12 ∧ tk i = nI c) {l2 l3 : Int32} : zx sc sa (d + 7) 10 [.ref pb, .ref st, .int l2, .int l3] (paQ M pb oc tb lv mx fr tr tk ch co s l t q) z z none (paQ M pb (yG (nI n) l2 (M.1 (st + 1) 7) n (M.1 (st + 7)) 1000000 (yT (nI n) l2 (M.1 (st + 1) 7) n (nI 0) 0 0 (3, 0, 0, 0, fr, tk, ch, va_up co 0 0, bgQ (fuR (1 <<< (l3 &&& 31) - 1) n 0 0) q))).1 (yG (nI n) l2 (M.1 (st + 1) 7) n (M.1 (st + 7)) 1000000 (yT (nI n) l2 (M.1 (st + 1) 7) n (nI 0) 0 0 (3, 0, 0, 0, fr, tk, ch, va_up co 0 0, bgQ (fuR (1 <<< (l3 &&& 31) - 1) n 0 0) q))).2.1 (yG (nI n) l2 (M.1 (st + 1) 7) n (M.1 (st + 7)) 1000000 (yT (nI n) l2 (M.1 (st + 1) 7) n (nI 0) 0 0 (3, 0, 0, 0, fr, tk, ch, va_up co 0 0, bgQ (fuR (1 <<< (l3 &&& 31) - 1) n 0 0) q))).2.2.1 l3 (yG (nI n) l2 (M.1 (st + 1) 7) n (M.1 (st + 7)) 1000000 (yT (nI n) l2 (M.1 (st + 1) 7) n (nI 0) 0 0 (3, 0, 0, 0, fr, tk, ch, va_up co 0 0, bgQ (fuR (1 <<< (l3 &&& 31) - 1) n 0 0) q))).2.2.2.2.1 tr (yG (nI n) l2 (M.1 (st + 1) 7) n (M.1 (st + 7)) 1000000 (yT (nI n) l2 (M.1 (st + 1) 7) n (nI 0) 0 0 (3, 0, 0, 0, fr, tk, ch, va_up co 0 0, bgQ (fuR (1 <<< (l3 &&& 31) - 1) n 0 0) q))).2.2.2.2.2.1 (yG (nI n) l2 (M.1 (st + 1) 7) n (M.1 (st + 7)) 1000000 (yT (nI n) l2 (M.1 (st + 1) 7) n (nI 0) 0 0 (3, 0, 0, 0, fr, tk, ch, va_up co 0 0, bgQ (fuR (1 <<< (l3 &&& 31) - 1) n 0 0) q))).2.2.2.2.2.2.1 (yG (nI n) l2 (M.1 (st + 1) 7) n (M.1 (st + 7)) 1000000 (yT (nI n) l2 (M.1 (st + 1) 7) n (nI 0) 0 0 (3, 0, 0, 0, fr, tk, ch, va_up co 0 0, bgQ (fuR (1 <<< (l3 &&& 31) - 1) n 0 0) q))).2.2.2.2.2.2.2.1 (nI n) l2 (M.1 (st + 1) 7) (yG (nI n) l2 (M.1 (st + 1) 7) n (M.1 (st + 7)) 1000000 (yT (nI n) l2 (M.1 (st + 1) 7) n (nI 0) 0 0 (3, 0, 0, 0, fr, tk, ch, va_up co 0 0, bgQ (fuR (1 <<< (l3 &&& 31) - 1) n 0 0) q))).2.2.2.2.2.2.2.2) := by
  have oH_g5 : ∀ {oc tb lv mx : Int32} {fr tr tk ch co : Nat → Int32} {s l t : Int32} {q : sQ}, (paQ M pb oc tb lv mx fr tr tk ch co s l t q).1 (st + 1) 5 = M.1 (st + 1) 5 := fun {oc tb lv mx fr tr tk ch co s l t q} => congrFun (paQ_o (by omega)) 5
  refine zxin ym_Pa_seekAhead [.ref pb, .ref st, .int l2, .int l3, .retAddr 0, .retAddr 0, .retAddr 0] rfl rfl rfl rfl ?_
  refine z_aload_n (q := 1) rfl rfl rfl ?_
  refine z_aload_n (q := 2) rfl rfl rfl ?_
  refine z_iload_n (q := 3) rfl rfl rfl ?_
  refine z_iload_n (q := 4) rfl rfl rfl ?_
  refine z_aload_n (q := 5) rfl rfl rfl ?_
  refine z_aload_n (q := 6) rfl rfl rfl ?_
  refine z_getR (q := 9) rfl rfl rfl (St_k v) (St_r0 v) ?_
  refine z_getI (q := 12) rfl rfl rfl (Sh_k (St_w0 v)) ?_
  rw [oH_g5]
  rw [hs]
  refine z_iconst (q := 13) (v := 1) rfl rfl rfl ?_
  refine z_iload_n (q := 14) rfl rfl rfl ?_
  refine z_ishl (q := 15) rfl rfl ?_
  refine z_iconst (q := 16) (v := 1) rfl rfl rfl ?_
  refine z_isub (q := 17) rfl rfl ?_
  refine z_cv2l (q := 20) rfl rfl rfl (Pa_k w) (s_Pa_fullRow hn) ?_
  refine z_cv4v (q := 23) rfl rfl rfl (Pa_k w) (q_Pa_begin w v hf) ?_
  rw [hs]
  refine z_iconst (q := 24) (v := 0) rfl rfl rfl ?_
  refine z_istore (q := 26) (L2 := [_, _, _, _, _, _, _]) rfl rfl rfl rfl ?_
  refine z_aload_n (q := 27) rfl rfl rfl ?_
  refine z_getR (q := 30) rfl rfl rfl (Pa_k w) (Pa_r5 w) ?_
  refine z_iconst (q := 31) (v := 0) rfl rfl rfl ?_
  refine z_iconst (q := 32) (v := 0) rfl rfl rfl ?_
  refine z_iast (q := 33) rfl rfl (Pa_a5 w) (show vp_in (nI 0) 13 from vp_in_nI (by omega) (by omega)) ?_
  rw [paQ_w5]
  try rw [nI_clamp (by omega)]
  rw [show (0 : Int32).toNatClampNeg = 0 from rfl]
  refine z_aload_n (q := 34) rfl rfl rfl ?_
  refine z_iconst (q := 35) (v := 0) rfl rfl rfl ?_
  refine z_iconst (q := 36) (v := 0) rfl rfl rfl ?_
  refine z_cv2v (q := 39) rfl rfl rfl (Pa_k w) (q_Pa_take (g := 0) (g0 := 0) (j := 0) w (by show 1 ≤ 200; omega) rfl hn (by omega) (Nat.zero_lt_one) okl_bg) ?_
  refine z_iconst (q := 40) (v := 0) rfl rfl rfl ?_
  refine z_istore (q := 42) (L2 := [_, _, _, _, _, _, _]) rfl rfl rfl rfl ?_
  have hI : yI n (yT (nI n) l2 (M.1 (st + 1) 7) n (nI 0) 0 0 (3, 0, 0, 0, fr, tk, ch, va_up co 0 0, bgQ (fuR (1 <<< (l3 &&& 31) - 1) n 0 0) q)) := yT_ok hn (by show 1 ≤ 200; omega) okl_bg (by omega) Nat.zero_lt_one (fun i hi _ => absurd hi (Nat.not_lt_zero _)) ht
  have hgg : (yT (nI n) l2 (M.1 (st + 1) 7) n (nI 0) 0 0 (3, 0, 0, 0, fr, tk, ch, va_up co 0 0, bgQ (fuR (1 <<< (l3 &&& 31) - 1) n 0 0) q)).2.2.2.1 = 0 := by
    unfold yT
    dsimp only
    split <;> rfl
  have e9 := l_Pa_seekAhead (sc := sc) (sa := sa) (d := d) (z := z) (mx := l3) (tr := tr) (l2 := l2) (l3 := l3) w v hf rfl hn 1000000 0 (yT (nI n) l2 (M.1 (st + 1) 7) n (nI 0) 0 0 (3, 0, 0, 0, fr, tk, ch, va_up co 0 0, bgQ (fuR (1 <<< (l3 &&& 31) - 1) n 0 0) q)) (yG (nI n) l2 (M.1 (st + 1) 7) n (M.1 (st + 7)) 1000000 (yT (nI n) l2 (M.1 (st + 1) 7) n (nI 0) 0 0 (3, 0, 0, 0, fr, tk, ch, va_up co 0 0, bgQ (fuR (1 <<< (l3 &&& 31) - 1) n 0 0) q))) (.retAddr 0) (by omega) hI rfl
  rw [hgg] at e9
  exact e9
