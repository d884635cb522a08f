theorem pu_oc {s l t : Int32} {j : Nat} {cell x oc : Int32} {q : sQ} : (puQ s l t j cell x oc q).2.1 = oc ∨ (puQ s l t j cell x oc q).2.1 = 2 := by
  by_cases h : q.1 < 200
  · rw [pu_y h]; exact Or.inl rfl
  · rw [pu_n h]; exact Or.inr rfl
theorem so_oc {s l t p b : Int32} : ∀ (k i : Nat) (v oc : Int32) (q : sQ), (soF s l t p b k i v oc q).2.1 = oc ∨ (soF s l t p b k i v oc q).2.1 = 2 := by
  intro k
  induction k with
  | zero => intro i v oc q; exact Or.inl rfl
  | succ k ih =>
    intro i v oc q
    unfold soF
    split
    · exact Or.inl rfl
    · split
      · exact ih _ _ _ _
      · split
        · split
          · exact Or.inl rfl
          · exact ih _ _ _ _
        · split
          · exact pu_oc
          · rcases ih (i + 1) (puQ s l t v.toNatClampNeg (nI i) (nmI (q.2.1 v.toNatClampNeg) (nI i) &&& (b ^^^ -1)) oc (rdQ s l t v.toNatClampNeg (nI i) q)).1 (puQ s l t v.toNatClampNeg (nI i) (nmI (q.2.1 v.toNatClampNeg) (nI i) &&& (b ^^^ -1)) oc (rdQ s l t v.toNatClampNeg (nI i) q)).2.1 (puQ s l t v.toNatClampNeg (nI i) (nmI (q.2.1 v.toNatClampNeg) (nI i) &&& (b ^^^ -1)) oc (rdQ s l t v.toNatClampNeg (nI i) q)).2.2 with h | h
            · rw [h]; exact pu_oc
            · exact Or.inr h
theorem pa_oc {s l t : Int32} {n f : Nat} {c p : Int32} : ∀ (k : Nat) (x h oc : Int32) (q : sQ), (oc = 3 ∨ oc = 2) → ((paF s l t n f c p k x h oc q).2.2.1 = 3 ∨ (paF s l t n f c p k x h oc q).2.2.1 = 2) := by
  intro k
  induction k with
  | zero => intro x h oc q ho; exact ho
  | succ k ih =>
    intro x h oc q ho
    rw [paF_s]
    split
    · split
      · split
        · exact ih _ _ _ _ ho
        · refine ih _ _ _ _ ?_
          rcases so_oc (s := s) (l := l) (t := t) (p := p) (b := bb (k + 1)) n 0 (puQ s l t f c (bb (k + 1)) oc q).1 (puQ s l t f c (bb (k + 1)) oc q).2.1 (puQ s l t f c (bb (k + 1)) oc q).2.2 with g | g
          · rw [g]
            rcases pu_oc (s := s) (l := l) (t := t) (j := f) (cell := c) (x := bb (k + 1)) (oc := oc) (q := q) with e | e
            · rw [e]; exact ho
            · exact Or.inr e
          · exact Or.inr g
      · exact ho
    · exact ho
def yL : yS → Prop := fun (oc, _, lv, _, _, _, _, _, q) => oc = 1 → ∃ g, g < q.1 ∧ lv = nI g
theorem yL_T {s l t : Int32} {n : Nat} {x : Int32} {j g : Nat} {oc tb lv : Int32} {g0 : Nat} {fr tk ch co : Nat → Int32} {q : sQ} (ho : oc = 3 ∨ oc = 2) (hx : ∃ g, g < q.1 ∧ x = nI g) : yL (yT s l t n x j g ((oc, tb, lv, g0, fr, tk, ch, co, q) : yS)) := by
  unfold yT
  dsimp only
  split
  · exact fun _ => hx
  · intro h
    have h' : oc = 1 := h
    rcases ho with e | e
    · rw [e] at h'; exact n31 h'
    · rw [e] at h'; exact n21 h'
theorem yL_U {s l t : Int32} {n : Nat} {P : Nat → Int32} {x : yS} (h : yI n x) (h3 : x.1 = 3) : yL (yU s l t n x (yN s l t n P x)) := by
  obtain ⟨oc, tb, lv, g, fr, tk, ch, co, q⟩ := x
  have h3' : oc = 3 := h3
  subst h3'
  obtain ⟨b1, b2, b3, b4, b5, b6⟩ := h
  obtain ⟨f, hf, hfr⟩ := b5 g (Nat.le_refl _) (b4 rfl)
  have e1 := pa_oc (s := s) (l := l) (t := t) (n := n) (f := (fr g).toNatClampNeg) (c := tk g) (p := P (tk g).toNatClampNeg &&& (co (g + 1) ^^^ -1)) 4 (-1) (ch g) 3 q (Or.inl rfl)
  have e2 := (paF_ok (s := s) (l := l) (t := t) (n := n) (f := (fr g).toNatClampNeg) (c := tk g) (p := P (tk g).toNatClampNeg &&& (co (g + 1) ^^^ -1)) 4 (-1) (ch g) 3 q b1 (by rw [hfr, nI_clamp (by omega)]; exact hf) b2 (Or.inl rfl)).2.2.2
  unfold yN
  dsimp only
  generalize paF s l t n (fr g).toNatClampNeg (tk g) (P (tk g).toNatClampNeg &&& (co (g + 1) ^^^ -1)) 4 (-1) (ch g) 3 q = r at e1 e2 ⊢
  obtain ⟨v, h, o, q'⟩ := r
  dsimp only at e1 e2
  unfold yU
  dsimp only
  split
  · split
    · intro h9
      have h9' : (if g = 0 then 0 else o) = 1 := h9
      split at h9'
      · exact n01 h9'
      · rcases e1 with e | e
        · rw [e] at h9'; exact n31 h9'
        · rw [e] at h9'; exact n21 h9'
    · intro h9
      have h9' : o = 1 := h9
      rcases e1 with e | e
      · rw [e] at h9'; exact n31 h9'
      · rw [e] at h9'; exact n21 h9'
  · rename_i hv
    exact yL_T e1 (e2.resolve_left hv)
theorem yL_G {s l t : Int32} {n : Nat} {P : Nat → Int32} (hn : n ≤ 12) : ∀ T x, yI n x → yL x → yL (yG s l t n P T x) := by
  intro T
  induction T with
  | zero => intro x _ h; exact h
  | succ T ih =>
    intro x hI h
    show yL (if x.1 = 3 then yG s l t n P T (yU s l t n x (yN s l t n P x)) else x)
    by_cases c : x.1 = 3
    · rw [if_pos c]
      exact ih _ (yU_ok hn hI c) (yL_U hI c)
    · rw [if_neg c]
      exact h
theorem yL_g {x : yS} (h : yL x) (h1 : x.1 = 1) : ∃ g, g < x.2.2.2.2.2.2.2.2.1 ∧ x.2.2.1 = nI g := h h1
theorem y0_ok {s l t : Int32} {n : Nat} (hn : n ≤ 12) (hn1 : 1 ≤ n) {fr tk ch co : Nat → Int32} {row : Int64} {q : sQ} (htk : ∀ i, ∃ c, c < 12 ∧ tk i = nI c) : yI n (yT s l t n (nI 0) 0 0 ((3, 0, 0, 0, fr, tk, ch, va_up co 0 0, bgQ row q) : yS)) ∧ yL (yT s l t n (nI 0) 0 0 ((3, 0, 0, 0, fr, tk, ch, va_up co 0 0, bgQ row q) : yS)) :=
  ⟨yT_ok hn (by show (1 : Nat) ≤ 200; omega) (fun v hv => by
    have hv' : v < 1 := hv
    have e : v = 0 := by omega
    subst e
    exact Or.inl (show va_up q.2.2.1 0 (-1) 0 = -1 from up_s)) (Nat.zero_le _) (by show (0 : Nat) < 1; omega) (fun i hi => absurd hi (Nat.not_lt_zero i)) htk, yL_T (Or.inl rfl) ⟨0, by show (0 : Nat) < 1; omega, rfl⟩⟩
theorem y_200 {n : Nat} {x : yS} (h : yI n x) : x.2.2.2.2.2.2.2.2.1 ≤ 200 := by
  obtain ⟨oc, tb, lv, g, fr, tk, ch, co, q⟩ := x
  exact h.1
theorem t_X_cellP {sc : Option (Nat × Nat × (Nat → Int32))} {sa : Nat → Nat} {d : Nat} {M : mz_M} {z : Nat × Nat} {x p r : Nat} {oc tb lv mx : Int32} {fr tr tk ch co : Nat → Int32} {s l t : Int32} {q : sQ} (w : g_X M.2.2 x p r) (hx : x + 22 ≤ p) {c : Nat} (hc : M.1 (p + 1) 5 = nI c) (hC : c ≤ 12) {i : Nat} (hi : i < c) : zx sc sa (d + 1) 20 [.ref (p + 1), .int (nI i)] (paQ M (x + 10) oc tb lv mx fr tr tk ch co s l t q) z z (some (.int 1)) (paQ M (x + 10) oc tb lv mx fr tr tk ch co s l t q) := by
  have e := @s_Sh_hasCell sc sa d (paQ M (x + 10) oc tb lv mx fr tr tk ch co s l t q) z (p + 1) 40 (St_w0 (X_w4 w)) (nI i)
  rw [show (paQ M (x + 10) oc tb lv mx fr tr tk ch co s l t q).1 (p + 1) 5 = nI c from (congrFun (paQ_o (by omega)) 5).trans hc, bz_t (vI_of (by omega) hi)] at e
  exact e
theorem q_X_colour {sc : Option (Nat × Nat × (Nat → Int32))} {sa : Nat → Nat} {d : Nat} {M : mz_M} {z : Nat × Nat} {x p r : Nat} {oc tb lv mx : Int32} {fr tr tk ch co : Nat → Int32} {s l t : Int32} {q : sQ} (w : g_X M.2.2 x p r) (hx : x + 22 ≤ p) {c : Nat} (hc : M.1 (p + 1) 5 = nI c) (hC : c ≤ 12) {m : Nat} (h : 0 < c ∧ ¬ (M.1 (p + 1) 6) < 0 ∧ ¬ 2 < (M.1 (p + 1) 6) ∧ ¬ nI m < 1 ∧ ¬ 4 < nI m) (hm : m ≤ 4) {i : Nat} (hi : i < c)  : zx sc sa (d + 7) 158 [.ref x, .int (nI m), .int (nI i)] (paQ M (x + 10) oc tb lv mx fr tr tk ch co s l t q) z z (some (.int (if (kG (nI c) (M.1 (p + 1) 6) (M.1 (p + 1) 7) c m (M.1 (p + 7)) 1000000 ((3, 0, 0, 0, va_up fr 0 0, va_up tr 0 0, bgQ 0 q) : kS)).1 = 1 then (kG (nI c) (M.1 (p + 1) 6) (M.1 (p + 1) 7) c m (M.1 (p + 7)) 1000000 ((3, 0, 0, 0, va_up fr 0 0, va_up tr 0 0, bgQ 0 q) : kS)).2.2.2.2.2.1 i else 0))) (paQ M (x + 10) (kG (nI c) (M.1 (p + 1) 6) (M.1 (p + 1) 7) c m (M.1 (p + 7)) 1000000 ((3, 0, 0, 0, va_up fr 0 0, va_up tr 0 0, bgQ 0 q) : kS)).1 (kG (nI c) (M.1 (p + 1) 6) (M.1 (p + 1) 7) c m (M.1 (p + 7)) 1000000 ((3, 0, 0, 0, va_up fr 0 0, va_up tr 0 0, bgQ 0 q) : kS)).2.1 (kG (nI c) (M.1 (p + 1) 6) (M.1 (p + 1) 7) c m (M.1 (p + 7)) 1000000 ((3, 0, 0, 0, va_up fr 0 0, va_up tr 0 0, bgQ 0 q) : kS)).2.2.1 (nI m) (kG (nI c) (M.1 (p + 1) 6) (M.1 (p + 1) 7) c m (M.1 (p + 7)) 1000000 ((3, 0, 0, 0, va_up fr 0 0, va_up tr 0 0, bgQ 0 q) : kS)).2.2.2.2.1 (kG (nI c) (M.1 (p + 1) 6) (M.1 (p + 1) 7) c m (M.1 (p + 7)) 1000000 ((3, 0, 0, 0, va_up fr 0 0, va_up tr 0 0, bgQ 0 q) : kS)).2.2.2.2.2.1 tk ch co (nI c) (M.1 (p + 1) 6) (M.1 (p + 1) 7) (kG (nI c) (M.1 (p + 1) 6) (M.1 (p + 1) 7) c m (M.1 (p + 7)) 1000000 ((3, 0, 0, 0, va_up fr 0 0, va_up tr 0 0, bgQ 0 q) : kS)).2.2.2.2.2.2) := by
  have oH_g6 : ∀ {oc tb lv mx : Int32} {fr tr tk ch co : Nat → Int32} {s l t : Int32} {q : sQ}, (paQ M (x + 10) oc tb lv mx fr tr tk ch co s l t q).1 (p + 1) 6 = M.1 (p + 1) 6 := fun {oc tb lv mx fr tr tk ch co s l t q} => congrFun (paQ_o (by omega)) 6
  have hk := kJ_G (s := nI c) (l := (M.1 (p + 1) 6)) (t := M.1 (p + 1) 7) (P := M.1 (p + 7)) hC (show m ≤ 15 by omega) 1000000 ((3, 0, 0, 0, va_up fr 0 0, va_up tr 0 0, bgQ 0 q) : kS) (kI_0 h.1) kJ_0
  refine zxin ym_X_colour [.ref x, .int (nI m), .int (nI i)] rfl rfl rfl rfl ?_
  refine z_aload_n (q := 1) rfl rfl rfl ?_
  refine z_aload_n (q := 2) rfl rfl rfl ?_
  refine z_getR (q := 5) rfl rfl rfl (X_k w) (X_r4 w) ?_
  refine z_getR (q := 8) rfl rfl rfl (St_k (X_w4 w)) (St_r0 (X_w4 w)) ?_
  refine z_getI (q := 11) rfl rfl rfl (Sh_k (St_w0 (X_w4 w))) ?_
  rw [oH_g6]
  refine z_iload_n (q := 12) rfl rfl rfl ?_
  refine z_cv2i (q := 15) rfl rfl rfl (X_k w) (t_X_mayP w hx hc hC h) ?_
  refine z_if_eq (q := 18) rfl rfl (fun h15 => ?_) (fun h15 => ?_)
  · exact absurd h15 (by decide)
  · refine z_aload_n (q := 19) rfl rfl rfl ?_
    refine z_getR (q := 22) rfl rfl rfl (X_k w) (X_r4 w) ?_
    refine z_getR (q := 25) rfl rfl rfl (St_k (X_w4 w)) (St_r0 (X_w4 w)) ?_
    refine z_iload_n (q := 26) rfl rfl rfl ?_
    refine z_cv1i (q := 29) rfl rfl rfl (Sh_k (St_w0 (X_w4 w))) (t_X_cellP w hx hc hC hi) ?_
    refine z_if_ne (q := 32) rfl rfl (fun h29 => ?_) (fun h29 => ?_)
    · refine z_aload_n (q := 36) rfl rfl rfl ?_
      refine z_getR (q := 39) rfl rfl rfl (X_k w) (X_r3 w) ?_
      refine z_aload_n (q := 40) rfl rfl rfl ?_
      refine z_getR (q := 43) rfl rfl rfl (X_k w) (X_r4 w) ?_
      refine z_aload_n (q := 44) rfl rfl rfl ?_
      refine z_getR (q := 47) rfl rfl rfl (X_k w) (X_r4 w) ?_
      refine z_getR (q := 50) rfl rfl rfl (St_k (X_w4 w)) (St_r0 (X_w4 w)) ?_
      refine z_getI (q := 53) rfl rfl rfl (Sh_k (St_w0 (X_w4 w))) ?_
      rw [oH_g6]
      refine z_iload_n (q := 54) rfl rfl rfl ?_
      refine z_cv3v (q := 57) rfl rfl rfl (Pa_k (X_w3 w)) (q_Pa_seek (X_w3 w) (X_w4 w) (by omega) hc hC h.1 (by omega)) ?_
      refine z_aload_n (q := 58) rfl rfl rfl ?_
      refine z_getR (q := 61) rfl rfl rfl (X_k w) (X_r3 w) ?_
      refine z_iload_n (q := 62) rfl rfl rfl ?_
      refine z_cv1i (q := 65) rfl rfl rfl (Pa_k (X_w3 w)) (q_Pa_foundAt (g := (kG (nI c) (M.1 (p + 1) 6) (M.1 (p + 1) 7) c m (M.1 (p + 7)) 1000000 ((3, 0, 0, 0, va_up fr 0 0, va_up tr 0 0, bgQ 0 q) : kS)).2.2.1.toNatClampNeg) (X_w3 w) hk.1.1 (fun e => by obtain ⟨-, g, g1, g2, -⟩ := hk.2.2 e; rw [g2, nI_clamp (by have := hk.1.1; omega)]) (fun e => by obtain ⟨-, g, g1, g2, -⟩ := hk.2.2 e; rw [g2, nI_clamp (by have := hk.1.1; omega)]; exact g1)) ?_
      refine z_ireti rfl rfl ?_
      refine ⟨?_, rfl⟩
      refine congrArg (fun y => some (Value.int y)) ?_
      by_cases e : (kG (nI c) (M.1 (p + 1) 6) (M.1 (p + 1) 7) c m (M.1 (p + 7)) 1000000 ((3, 0, 0, 0, va_up fr 0 0, va_up tr 0 0, bgQ 0 q) : kS)).1 = 1
      · rw [if_pos e, if_pos e]
        obtain ⟨-, g, g1, g2, g3⟩ := hk.2.2 e
        rw [g2, nI_clamp (by have := hk.1.1; omega)]
        exact g3 i hi
      · rw [if_neg e, if_neg e]
    · exact absurd h29 (by decide)
theorem n_X_colour {sc : Option (Nat × Nat × (Nat → Int32))} {sa : Nat → Nat} {d : Nat} {M : mz_M} {z : Nat × Nat} {x p q : Nat} (w : g_X M.2.2 x p q) {c : Nat} (hc : M.1 (p + 1) 5 = nI c) (hC : c ≤ 12) {a b : Int32} (hno : ¬ ((0 < c ∧ ¬ (M.1 (p + 1) 6) < 0 ∧ ¬ 2 < (M.1 (p + 1) 6) ∧ ¬ a < 1 ∧ ¬ 4 < a) ∧ vI c b)) : zx sc sa (d + 7) 158 [.ref x, .int a, .int b] M z z (some (.int (-2))) M := by
  refine zxin ym_X_colour [.ref x, .int a, .int b] rfl rfl rfl rfl ?_
  refine z_aload_n (q := 1) rfl rfl rfl ?_
  refine z_aload_n (q := 2) rfl rfl rfl ?_
  refine z_getR (q := 5) rfl rfl rfl (X_k w) (X_r4 w) ?_
  refine z_getR (q := 8) rfl rfl rfl (St_k (X_w4 w)) (St_r0 (X_w4 w)) ?_
  refine z_getI (q := 11) rfl rfl rfl (Sh_k (St_w0 (X_w4 w))) ?_
  refine z_iload_n (q := 12) rfl rfl rfl ?_
  refine z_cv2i (q := 15) rfl rfl rfl (X_k w) (s_X_mayColour w hc hC) ?_
  refine z_if_eq (q := 18) rfl rfl (fun h15 => ?_) (fun h15 => ?_)
  · refine z_bipush (q := 34) (v := -2) rfl rfl rfl ?_
    refine z_ireti rfl rfl ?_
    exact ⟨rfl, rfl⟩
  · refine z_aload_n (q := 19) rfl rfl rfl ?_
    refine z_getR (q := 22) rfl rfl rfl (X_k w) (X_r4 w) ?_
    refine z_getR (q := 25) rfl rfl rfl (St_k (X_w4 w)) (St_r0 (X_w4 w)) ?_
    refine z_iload_n (q := 26) rfl rfl rfl ?_
    refine z_cv1i (q := 29) rfl rfl rfl (Sh_k (St_w0 (X_w4 w))) (s_Sh_hasCell (St_w0 (X_w4 w))) ?_
    refine z_if_ne (q := 32) rfl rfl (fun h29 => ?_) (fun h29 => ?_)
    · have g9 := bz_n.mp h29
      rw [hc] at g9
      exact absurd ⟨bz_n.mp h15, g9⟩ hno
    · refine z_bipush (q := 34) (v := -2) rfl rfl rfl ?_
      refine z_ireti rfl rfl ?_
      exact ⟨rfl, rfl⟩
theorem n_X_hue {sc : Option (Nat × Nat × (Nat → Int32))} {sa : Nat → Nat} {d : Nat} {M : mz_M} {z : Nat × Nat} {x p q : Nat} (w : g_X M.2.2 x p q) {c : Nat} (hc : M.1 (p + 1) 5 = nI c) (hC : c ≤ 12) {a b : Int32} (hno : ¬ ((0 < c ∧ ¬ (M.1 (p + 1) 6) < 0 ∧ ¬ 2 < (M.1 (p + 1) 6) ∧ ¬ a < 1 ∧ ¬ 4 < a) ∧ vI c b)) : zx sc sa (d + 7) 162 [.ref x, .int a, .int b] M z z (some (.int (-2))) M := by
  refine zxin ym_X_hue [.ref x, .int a, .int b, .retAddr 0] rfl rfl rfl rfl ?_
  refine z_aload_n (q := 1) rfl rfl rfl ?_
  refine z_aload_n (q := 2) rfl rfl rfl ?_
  refine z_getR (q := 5) rfl rfl rfl (X_k w) (X_r4 w) ?_
  refine z_getR (q := 8) rfl rfl rfl (St_k (X_w4 w)) (St_r0 (X_w4 w)) ?_
  refine z_getI (q := 11) rfl rfl rfl (Sh_k (St_w0 (X_w4 w))) ?_
  refine z_iload_n (q := 12) rfl rfl rfl ?_
  refine z_cv2i (q := 15) rfl rfl rfl (X_k w) (s_X_mayColour w hc hC) ?_
  refine z_if_eq (q := 18) rfl rfl (fun h15 => ?_) (fun h15 => ?_)
  · refine z_bipush (q := 34) (v := -2) rfl rfl rfl ?_
    refine z_ireti rfl rfl ?_
    exact ⟨rfl, rfl⟩
  · refine z_aload_n (q := 19) rfl rfl rfl ?_
    refine z_getR (q := 22) rfl rfl rfl (X_k w) (X_r4 w) ?_
    refine z_getR (q := 25) rfl rfl rfl (St_k (X_w4 w)) (St_r0 (X_w4 w)) ?_
    refine z_iload_n (q := 26) rfl rfl rfl ?_
    refine z_cv1i (q := 29) rfl rfl rfl (Sh_k (St_w0 (X_w4 w))) (s_Sh_hasCell (St_w0 (X_w4 w))) ?_
    refine z_if_ne (q := 32) rfl rfl (fun h29 => ?_) (fun h29 => ?_)
    · have g9 := bz_n.mp h29
      rw [hc] at g9
      exact absurd ⟨bz_n.mp h15, g9⟩ hno
    · refine z_bipush (q := 34) (v := -2) rfl rfl rfl ?_
      refine z_ireti rfl rfl ?_
      exact ⟨rfl, rfl⟩
theorem q_X_hue {sc : Option (Nat × Nat × (Nat → Int32))} {sa : Nat → Nat} {d : Nat} {M : mz_M} {z : Nat × Nat} {x p r : Nat} {oc tb lv mx : Int32} {fr tr tk ch co : Nat → Int32} {s l t : Int32} {q : sQ} (w : g_X M.2.2 x p r) (hx : x + 22 ≤ p) {c : Nat} (hc : M.1 (p + 1) 5 = nI c) (hC : c ≤ 12) {b : Int32} (h : 0 < c ∧ ¬ (M.1 (p + 1) 6) < 0 ∧ ¬ 2 < (M.1 (p + 1) 6) ∧ ¬ b < 1 ∧ ¬ 4 < b) (htk : ∀ i, ∃ c, c < 12 ∧ tk i = nI c) {i : Nat} (hi : i < c)  : zx sc sa (d + 8) 162 [.ref x, .int b, .int (nI i)] (paQ M (x + 10) oc tb lv mx fr tr tk ch co s l t q) z z (some (.int (hu2 (if (yG (nI c) (M.1 (p + 1) 6) (M.1 (p + 1) 7) c (M.1 (p + 7)) 1000000 (yT (nI c) (M.1 (p + 1) 6) (M.1 (p + 1) 7) c (nI 0) 0 0 (3, 0, 0, 0, fr, tk, ch, va_up co 0 0, bgQ (fuR (1 <<< (b &&& 31) - 1) c 0 0) q))).1 = 1 then nmI ((yG (nI c) (M.1 (p + 1) 6) (M.1 (p + 1) 7) c (M.1 (p + 7)) 1000000 (yT (nI c) (M.1 (p + 1) 6) (M.1 (p + 1) 7) c (nI 0) 0 0 (3, 0, 0, 0, fr, tk, ch, va_up co 0 0, bgQ (fuR (1 <<< (b &&& 31) - 1) c 0 0) q))).2.2.2.2.2.2.2.2.2.1 (yG (nI c) (M.1 (p + 1) 6) (M.1 (p + 1) 7) c (M.1 (p + 7)) 1000000 (yT (nI c) (M.1 (p + 1) 6) (M.1 (p + 1) 7) c (nI 0) 0 0 (3, 0, 0, 0, fr, tk, ch, va_up co 0 0, bgQ (fuR (1 <<< (b &&& 31) - 1) c 0 0) q))).2.2.1.toNatClampNeg) (nI i) else 0)))) (paQ M (x + 10) (yG (nI c) (M.1 (p + 1) 6) (M.1 (p + 1) 7) c (M.1 (p + 7)) 1000000 (yT (nI c) (M.1 (p + 1) 6) (M.1 (p + 1) 7) c (nI 0) 0 0 (3, 0, 0, 0, fr, tk, ch, va_up co 0 0, bgQ (fuR (1 <<< (b &&& 31) - 1) c 0 0) q))).1 (yG (nI c) (M.1 (p + 1) 6) (M.1 (p + 1) 7) c (M.1 (p + 7)) 1000000 (yT (nI c) (M.1 (p + 1) 6) (M.1 (p + 1) 7) c (nI 0) 0 0 (3, 0, 0, 0, fr, tk, ch, va_up co 0 0, bgQ (fuR (1 <<< (b &&& 31) - 1) c 0 0) q))).2.1 (yG (nI c) (M.1 (p + 1) 6) (M.1 (p + 1) 7) c (M.1 (p + 7)) 1000000 (yT (nI c) (M.1 (p + 1) 6) (M.1 (p + 1) 7) c (nI 0) 0 0 (3, 0, 0, 0, fr, tk, ch, va_up co 0 0, bgQ (fuR (1 <<< (b &&& 31) - 1) c 0 0) q))).2.2.1 b (yG (nI c) (M.1 (p + 1) 6) (M.1 (p + 1) 7) c (M.1 (p + 7)) 1000000 (yT (nI c) (M.1 (p + 1) 6) (M.1 (p + 1) 7) c (nI 0) 0 0 (3, 0, 0, 0, fr, tk, ch, va_up co 0 0, bgQ (fuR (1 <<< (b &&& 31) - 1) c 0 0) q))).2.2.2.2.1 tr (yG (nI c) (M.1 (p + 1) 6) (M.1 (p + 1) 7) c (M.1 (p + 7)) 1000000 (yT (nI c) (M.1 (p + 1) 6) (M.1 (p + 1) 7) c (nI 0) 0 0 (3, 0, 0, 0, fr, tk, ch, va_up co 0 0, bgQ (fuR (1 <<< (b &&& 31) - 1) c 0 0) q))).2.2.2.2.2.1 (yG (nI c) (M.1 (p + 1) 6) (M.1 (p + 1) 7) c (M.1 (p + 7)) 1000000 (yT (nI c) (M.1 (p + 1) 6) (M.1 (p + 1) 7) c (nI 0) 0 0 (3, 0, 0, 0, fr, tk, ch, va_up co 0 0, bgQ (fuR (1 <<< (b &&& 31) - 1) c 0 0) q))).2.2.2.2.2.2.1 (yG (nI c) (M.1 (p + 1) 6) (M.1 (p + 1) 7) c (M.1 (p + 7)) 1000000 (yT (nI c) (M.1 (p + 1) 6) (M.1 (p + 1) 7) c (nI 0) 0 0 (3, 0, 0, 0, fr, tk, ch, va_up co 0 0, bgQ (fuR (1 <<< (b &&& 31) - 1) c 0 0) q))).2.2.2.2.2.2.2.1 (nI c) (M.1 (p + 1) 6) (M.1 (p + 1) 7) (yG (nI c) (M.1 (p + 1) 6) (M.1 (p + 1) 7) c (M.1 (p + 7)) 1000000 (yT (nI c) (M.1 (p + 1) 6) (M.1 (p + 1) 7) c (nI 0) 0 0 (3, 0, 0, 0, fr, tk, ch, va_up co 0 0, bgQ (fuR (1 <<< (b &&& 31) - 1) c 0 0) q))).2.2.2.2.2.2.2.2) := by
  have oH_g6 : ∀ {oc tb lv mx : Int32} {fr tr tk ch co : Nat → Int32} {s l t : Int32} {q : sQ}, (paQ M (x + 10) oc tb lv mx fr tr tk ch co s l t q).1 (p + 1) 6 = M.1 (p + 1) 6 := fun {oc tb lv mx fr tr tk ch co s l t q} => congrFun (paQ_o (by omega)) 6
  have y0 := y0_ok (s := nI c) (l := (M.1 (p + 1) 6)) (t := M.1 (p + 1) 7) (fr := fr) (ch := ch) (co := co) (row := fuR (1 <<< (b &&& 31) - 1) c 0 0) (q := q) hC h.1 htk
  have yi := yI_G (s := nI c) (l := (M.1 (p + 1) 6)) (t := M.1 (p + 1) 7) (P := M.1 (p + 7)) hC 1000000 _ y0.1
  have yl := yL_G (s := nI c) (l := (M.1 (p + 1) 6)) (t := M.1 (p + 1) 7) (P := M.1 (p + 7)) hC 1000000 _ y0.1 y0.2
  have y2 := y_200 yi
  have yn := nm_16 ((yG (nI c) (M.1 (p + 1) 6) (M.1 (p + 1) 7) c (M.1 (p + 7)) 1000000 (yT (nI c) (M.1 (p + 1) 6) (M.1 (p + 1) 7) c (nI 0) 0 0 (3, 0, 0, 0, fr, tk, ch, va_up co 0 0, bgQ (fuR (1 <<< (b &&& 31) - 1) c 0 0) q))).2.2.2.2.2.2.2.2.2.1 (yG (nI c) (M.1 (p + 1) 6) (M.1 (p + 1) 7) c (M.1 (p + 7)) 1000000 (yT (nI c) (M.1 (p + 1) 6) (M.1 (p + 1) 7) c (nI 0) 0 0 (3, 0, 0, 0, fr, tk, ch, va_up co 0 0, bgQ (fuR (1 <<< (b &&& 31) - 1) c 0 0) q))).2.2.1.toNatClampNeg) (show i < 12 by omega)
  obtain ⟨u, hu, hue⟩ := yn
  refine zxin ym_X_hue [.ref x, .int b, .int (nI i), .retAddr 0] rfl rfl rfl rfl ?_
  refine z_aload_n (q := 1) rfl rfl rfl ?_
  refine z_aload_n (q := 2) rfl rfl rfl ?_
  refine z_getR (q := 5) rfl rfl rfl (X_k w) (X_r4 w) ?_
  refine z_getR (q := 8) rfl rfl rfl (St_k (X_w4 w)) (St_r0 (X_w4 w)) ?_
  refine z_getI (q := 11) rfl rfl rfl (Sh_k (St_w0 (X_w4 w))) ?_
  rw [oH_g6]
  refine z_iload_n (q := 12) rfl rfl rfl ?_
  refine z_cv2i (q := 15) rfl rfl rfl (X_k w) (t_X_mayP w hx hc hC h) ?_
  refine z_if_eq (q := 18) rfl rfl (fun h15 => ?_) (fun h15 => ?_)
  · exact absurd h15 (by decide)
  · refine z_aload_n (q := 19) rfl rfl rfl ?_
    refine z_getR (q := 22) rfl rfl rfl (X_k w) (X_r4 w) ?_
    refine z_getR (q := 25) rfl rfl rfl (St_k (X_w4 w)) (St_r0 (X_w4 w)) ?_
    refine z_iload_n (q := 26) rfl rfl rfl ?_
    refine z_cv1i (q := 29) rfl rfl rfl (Sh_k (St_w0 (X_w4 w))) (t_X_cellP w hx hc hC hi) ?_
    refine z_if_ne (q := 32) rfl rfl (fun h29 => ?_) (fun h29 => ?_)
    · refine z_aload_n (q := 36) rfl rfl rfl ?_
      refine z_getR (q := 39) rfl rfl rfl (X_k w) (X_r3 w) ?_
      refine z_aload_n (q := 40) rfl rfl rfl ?_
      refine z_getR (q := 43) rfl rfl rfl (X_k w) (X_r4 w) ?_
      refine z_aload_n (q := 44) rfl rfl rfl ?_
      refine z_getR (q := 47) rfl rfl rfl (X_k w) (X_r4 w) ?_
      refine z_getR (q := 50) rfl rfl rfl (St_k (X_w4 w)) (St_r0 (X_w4 w)) ?_
      refine z_getI (q := 53) rfl rfl rfl (Sh_k (St_w0 (X_w4 w))) ?_
      rw [oH_g6]
      refine z_iload_n (q := 54) rfl rfl rfl ?_
      refine z_cv3v (q := 57) rfl rfl rfl (Pa_k (X_w3 w)) (q_Pa_seekAhead (X_w3 w) (X_w4 w) (by omega) hc hC h.1 htk) ?_
      refine z_aload_n (q := 58) rfl rfl rfl ?_
      refine z_getR (q := 61) rfl rfl rfl (X_k w) (X_r3 w) ?_
      refine z_iload_n (q := 62) rfl rfl rfl ?_
      refine z_cv1i (q := 65) rfl rfl rfl (Pa_k (X_w3 w)) (q_Pa_foundAt (g := (yG (nI c) (M.1 (p + 1) 6) (M.1 (p + 1) 7) c (M.1 (p + 7)) 1000000 (yT (nI c) (M.1 (p + 1) 6) (M.1 (p + 1) 7) c (nI 0) 0 0 (3, 0, 0, 0, fr, tk, ch, va_up co 0 0, bgQ (fuR (1 <<< (b &&& 31) - 1) c 0 0) q))).2.2.1.toNatClampNeg) (X_w3 w) y2 (fun e => by obtain ⟨g, g1, g2⟩ := yL_g yl e; rw [g2, nI_clamp (by omega)]) (fun e => by obtain ⟨g, g1, g2⟩ := yL_g yl e; rw [g2, nI_clamp (by omega)]; exact g1)) ?_
      refine z_istore_n (q := 66) (L2 := [_, _, _, _]) rfl rfl rfl rfl ?_
      refine z_iload_n (q := 67) rfl rfl rfl ?_
      refine z_if_ne (q := 70) rfl rfl (fun h67 => ?_) (fun h67 => ?_)
      · refine z_iload_n (q := 75) rfl rfl rfl ?_
        have hz9 : ∀ {d' : Nat} {M' : mz_M}, zx sc sa (d' + 1) 290 [.int (if (yG (nI c) (M.1 (p + 1) 6) (M.1 (p + 1) 7) c (M.1 (p + 7)) 1000000 (yT (nI c) (M.1 (p + 1) 6) (M.1 (p + 1) 7) c (nI 0) 0 0 (3, 0, 0, 0, fr, tk, ch, va_up co 0 0, bgQ (fuR (1 <<< (b &&& 31) - 1) c 0 0) q))).1 = 1 then nmI ((yG (nI c) (M.1 (p + 1) 6) (M.1 (p + 1) 7) c (M.1 (p + 7)) 1000000 (yT (nI c) (M.1 (p + 1) 6) (M.1 (p + 1) 7) c (nI 0) 0 0 (3, 0, 0, 0, fr, tk, ch, va_up co 0 0, bgQ (fuR (1 <<< (b &&& 31) - 1) c 0 0) q))).2.2.2.2.2.2.2.2.2.1 (yG (nI c) (M.1 (p + 1) 6) (M.1 (p + 1) 7) c (M.1 (p + 7)) 1000000 (yT (nI c) (M.1 (p + 1) 6) (M.1 (p + 1) 7) c (nI 0) 0 0 (3, 0, 0, 0, fr, tk, ch, va_up co 0 0, bgQ (fuR (1 <<< (b &&& 31) - 1) c 0 0) q))).2.2.1.toNatClampNeg) (nI i) else 0)] M' z z (some (.int (ntI (if (yG (nI c) (M.1 (p + 1) 6) (M.1 (p + 1) 7) c (M.1 (p + 7)) 1000000 (yT (nI c) (M.1 (p + 1) 6) (M.1 (p + 1) 7) c (nI 0) 0 0 (3, 0, 0, 0, fr, tk, ch, va_up co 0 0, bgQ (fuR (1 <<< (b &&& 31) - 1) c 0 0) q))).1 = 1 then nmI ((yG (nI c) (M.1 (p + 1) 6) (M.1 (p + 1) 7) c (M.1 (p + 7)) 1000000 (yT (nI c) (M.1 (p + 1) 6) (M.1 (p + 1) 7) c (nI 0) 0 0 (3, 0, 0, 0, fr, tk, ch, va_up co 0 0, bgQ (fuR (1 <<< (b &&& 31) - 1) c 0 0) q))).2.2.2.2.2.2.2.2.2.1 (yG (nI c) (M.1 (p + 1) 6) (M.1 (p + 1) 7) c (M.1 (p + 7)) 1000000 (yT (nI c) (M.1 (p + 1) 6) (M.1 (p + 1) 7) c (nI 0) 0 0 (3, 0, 0, 0, fr, tk, ch, va_up co 0 0, bgQ (fuR (1 <<< (b &&& 31) - 1) c 0 0) q))).2.2.1.toNatClampNeg) (nI i) else 0).toNatClampNeg))) M' := by
          intro d' M'
          by_cases e : (yG (nI c) (M.1 (p + 1) 6) (M.1 (p + 1) 7) c (M.1 (p + 7)) 1000000 (yT (nI c) (M.1 (p + 1) 6) (M.1 (p + 1) 7) c (nI 0) 0 0 (3, 0, 0, 0, fr, tk, ch, va_up co 0 0, bgQ (fuR (1 <<< (b &&& 31) - 1) c 0 0) q))).1 = 1
          · rw [if_pos e, hue] at h67 ⊢
            rw [nI_clamp (by omega)]
            exact s_In_ntz16 (Nat.pos_of_ne_zero (fun e0 => h67 (by rw [e0]; rfl))) hu
          · rw [if_neg e] at h67
            exact absurd rfl h67
        refine z_cs1i (q := 78) rfl rfl rfl (hz9) ?_
        refine z_iconst (q := 79) (v := 1) rfl rfl rfl ?_
        refine z_iadd (q := 80) rfl rfl ?_
        refine z_ireti rfl rfl ?_
        refine ⟨?_, rfl⟩
        unfold hu2
        first
          | rw [if_pos h67]
          | rw [if_neg h67]
      · refine z_iconst (q := 71) (v := 0) rfl rfl rfl ?_
        refine z_goto rfl ?_
        refine z_ireti rfl rfl ?_
        refine ⟨?_, rfl⟩
        unfold hu2
        first
          | rw [if_pos h67]
          | rw [if_neg h67]
    · exact absurd h29 (by decide)
def cX (s l t : Int32) (n : Nat) (P fr tr : Nat → Int32) (q : sQ) : Nat → kS
  | 0 => (3, 0, 0, 0, fr, tr, q)
  | k + 1 => kG s l t n (k + 1) P 1000000 ((3, 0, 0, 0, va_up (cX s l t n P fr tr q k).2.2.2.2.1 0 0, va_up (cX s l t n P fr tr q k).2.2.2.2.2.1 0 0, bgQ 0 (cX s l t n P fr tr q k).2.2.2.2.2.2) : kS)
theorem l_X_colours {sc : Option (Nat × Nat × (Nat → Int32))} {sa : Nat → Nat} {d : Nat} {M : mz_M} {z : Nat × Nat} {x p r : Nat} {fr tr tk ch co : Nat → Int32} {q : sQ} (w : g_X M.2.2 x p r) (hx : x + 22 ≤ p) {c : Nat} (hc : M.1 (p + 1) 5 = nI c) (hC : c ≤ 12) (h0 : 0 < c)  : ∀ (k : Nat) (n : Nat) (o1 o2 o3 o4 s1 l1 t1 : Int32), n + k = 4 → zw sc sa (d + 6) ym_X_colours z (fun r' M' => ∃ v, r' = some (.int v) ∧ v = coI (fun n => (cX (nI c) (M.1 (p + 1) 6) (M.1 (p + 1) 7) c (M.1 (p + 7)) fr tr q n).1) k (n + 1) ∧ ∃ o1 o2 o3 o4 f1 f2 s1 l1 t1 q1, M' = paQ M (x + 10) o1 o2 o3 o4 f1 f2 tk ch co s1 l1 t1 q1) 12 [.ref x, .int (nI (n + 1))] [] (paQ M (x + 10) o1 o2 o3 o4 (cX (nI c) (M.1 (p + 1) 6) (M.1 (p + 1) 7) c (M.1 (p + 7)) fr tr q n).2.2.2.2.1 (cX (nI c) (M.1 (p + 1) 6) (M.1 (p + 1) 7) c (M.1 (p + 7)) fr tr q n).2.2.2.2.2.1 tk ch co s1 l1 t1 (cX (nI c) (M.1 (p + 1) 6) (M.1 (p + 1) 7) c (M.1 (p + 7)) fr tr q n).2.2.2.2.2.2) z := by
  intro k
  induction k with
  | zero =>
    intro n o1 o2 o3 o4 s1 l1 t1 hi
    have e1 : n = 4 := by omega
    subst e1
    have oH_g6 : ∀ {oc tb lv mx : Int32} {fr tr tk ch co : Nat → Int32} {s l t : Int32} {q : sQ}, (paQ M (x + 10) oc tb lv mx fr tr tk ch co s l t q).1 (p + 1) 6 = M.1 (p + 1) 6 := fun {oc tb lv mx fr tr tk ch co s l t q} => congrFun (paQ_o (by omega)) 6
    refine z_iload_n (q := 13) rfl rfl rfl ?_
    refine z_iconst (q := 14) (v := 4) rfl rfl rfl ?_
    refine z_ic_gt (q := 17) rfl rfl (fun h14 => ?_) (fun h14 => ?_)
    · refine z_iconst (q := 60) (v := -1) rfl rfl rfl ?_
      refine z_ireti rfl rfl ?_
      exact ⟨_, rfl, rfl, _, _, _, _, _, _, _, _, _, _, rfl⟩
    · exact absurd (by decide) h14
  | succ k ih =>
    intro n o1 o2 o3 o4 s1 l1 t1 hi
    have oH_g6 : ∀ {oc tb lv mx : Int32} {fr tr tk ch co : Nat → Int32} {s l t : Int32} {q : sQ}, (paQ M (x + 10) oc tb lv mx fr tr tk ch co s l t q).1 (p + 1) 6 = M.1 (p + 1) 6 := fun {oc tb lv mx fr tr tk ch co s l t q} => congrFun (paQ_o (by omega)) 6
    have ec : cX (nI c) (M.1 (p + 1) 6) (M.1 (p + 1) 7) c (M.1 (p + 7)) fr tr q (n + 1) = kG (nI c) (M.1 (p + 1) 6) (M.1 (p + 1) 7) c (n + 1) (M.1 (p + 7)) 1000000 ((3, 0, 0, 0, va_up (cX (nI c) (M.1 (p + 1) 6) (M.1 (p + 1) 7) c (M.1 (p + 7)) fr tr q n).2.2.2.2.1 0 0, va_up (cX (nI c) (M.1 (p + 1) 6) (M.1 (p + 1) 7) c (M.1 (p + 7)) fr tr q n).2.2.2.2.2.1 0 0, bgQ 0 (cX (nI c) (M.1 (p + 1) 6) (M.1 (p + 1) 7) c (M.1 (p + 7)) fr tr q n).2.2.2.2.2.2) : kS) := rfl
    refine z_iload_n (q := 13) rfl rfl rfl ?_
    refine z_iconst (q := 14) (v := 4) rfl rfl rfl ?_
    refine z_ic_gt (q := 17) rfl rfl (fun h14 => ?_) (fun h14 => ?_)
    · exact absurd h14 (Int32.not_lt.mpr (nI_le (b := 4) (by omega) (by decide)))
    · refine z_aload_n (q := 18) rfl rfl rfl ?_
      refine z_getR (q := 21) rfl rfl rfl (X_k w) (X_r3 w) ?_
      refine z_aload_n (q := 22) rfl rfl rfl ?_
      refine z_getR (q := 25) rfl rfl rfl (X_k w) (X_r4 w) ?_
      refine z_aload_n (q := 26) rfl rfl rfl ?_
      refine z_getR (q := 29) rfl rfl rfl (X_k w) (X_r4 w) ?_
      refine z_getR (q := 32) rfl rfl rfl (St_k (X_w4 w)) (St_r0 (X_w4 w)) ?_
      refine z_getI (q := 35) rfl rfl rfl (Sh_k (St_w0 (X_w4 w))) ?_
      rw [oH_g6]
      refine z_iload_n (q := 36) rfl rfl rfl ?_
      refine z_cv3v (q := 39) rfl rfl rfl (Pa_k (X_w3 w)) (q_Pa_seek (m := n + 1) (X_w3 w) (X_w4 w) (by omega) hc hC h0 (by omega)) ?_
      rw [← ec]
      refine z_aload_n (q := 40) rfl rfl rfl ?_
      refine z_getR (q := 43) rfl rfl rfl (X_k w) (X_r3 w) ?_
      refine z_iconst (q := 44) (v := 0) rfl rfl rfl ?_
      refine z_cv1i (q := 47) rfl rfl rfl (Pa_k (X_w3 w)) (q_Pa_answer0 (X_w3 w)) ?_
      refine z_iconst (q := 48) (v := 1) rfl rfl rfl ?_
      refine z_ic_ne (q := 51) rfl rfl (fun h48 => ?_) (fun h48 => ?_)
      · refine z_iinc (q := 56) (L2 := [_, _]) rfl rfl rfl rfl ?_
        refine z_goto rfl ?_
        rw [show nI (n + 1) + Int32.ofInt 1 = nI (n + 1 + 1) from (nI_succ (n + 1)).symm]
        refine mz_wp_m (mz_Kd_m sc sa _) (fun r9 M9 h9 => ?_) (ih (n + 1) _ _ _ _ _ _ _ (by omega))
        obtain ⟨v, e1, e2, e3⟩ := h9
        exact ⟨v, e1, e2.trans (if_neg (show ¬ (cX (nI c) (M.1 (p + 1) 6) (M.1 (p + 1) 7) c (M.1 (p + 7)) fr tr q (n + 1)).1 = 1 from h48)).symm, e3⟩
      · refine z_iload_n (q := 52) rfl rfl rfl ?_
        refine z_ireti rfl rfl ?_
        exact ⟨_, rfl, (if_pos (show (cX (nI c) (M.1 (p + 1) 6) (M.1 (p + 1) 7) c (M.1 (p + 7)) fr tr q (n + 1)).1 = 1 from h48)).symm, _, _, _, _, _, _, _, _, _, _, rfl⟩
theorem t_X_isP {sc : Option (Nat × Nat × (Nat → Int32))} {sa : Nat → Nat} {d : Nat} {M : mz_M} {z : Nat × Nat} {x p r : Nat} {oc tb lv mx : Int32} {fr tr tk ch co : Nat → Int32} {s l t : Int32} {q : sQ} (w : g_X M.2.2 x p r) (hx : x + 22 ≤ p) {c : Nat} (hc : M.1 (p + 1) 5 = nI c) (hC : c ≤ 12) (h0 : 0 < c) : zx sc sa (d + 1) 109 [.ref x] (paQ M (x + 10) oc tb lv mx fr tr tk ch co s l t q) z z (some (.int 1)) (paQ M (x + 10) oc tb lv mx fr tr tk ch co s l t q) := by
  have e := @s_X_isThere sc sa d (paQ M (x + 10) oc tb lv mx fr tr tk ch co s l t q) z x p r w c (by rw [paQ_o (by omega)]; exact hc) hC
  rw [bz_t h0] at e
  exact e
theorem q_X_colours {sc : Option (Nat × Nat × (Nat → Int32))} {sa : Nat → Nat} {d : Nat} {M : mz_M} {z : Nat × Nat} {x p r : Nat} {oc tb lv mx : Int32} {fr tr tk ch co : Nat → Int32} {s l t : Int32} {q : sQ} (w : g_X M.2.2 x p r) (hx : x + 22 ≤ p) {c : Nat} (hc : M.1 (p + 1) 5 = nI c) (hC : c ≤ 12) (h0 : 0 < c)  : zi sc sa (d + 7) 159 [.ref x] (paQ M (x + 10) oc tb lv mx fr tr tk ch co s l t q) z (fun v M' => v = coI (fun n => (cX (nI c) (M.1 (p + 1) 6) (M.1 (p + 1) 7) c (M.1 (p + 7)) fr tr q n).1) 4 1 ∧ ∃ o1 o2 o3 o4 f1 f2 s1 l1 t1 q1, M' = paQ M (x + 10) o1 o2 o3 o4 f1 f2 tk ch co s1 l1 t1 q1) := by
  refine zin ym_X_colours [.ref x, .retAddr 0] rfl rfl rfl rfl ?_
  refine z_aload_n (q := 1) rfl rfl rfl ?_
  refine z_cv0i (q := 4) rfl rfl rfl (X_k w) (t_X_isP w hx hc hC h0) ?_
  refine z_if_ne (q := 7) rfl rfl (fun h4 => ?_) (fun h4 => ?_)
  · refine z_iconst (q := 11) (v := 1) rfl rfl rfl ?_
    refine z_istore_n (q := 12) (L2 := [_, _]) rfl rfl rfl rfl ?_
    exact l_X_colours (fr := fr) (tr := tr) (q := q) w hx hc hC h0 4 0 oc tb lv mx s l t rfl
  · exact absurd h4 (by decide)
theorem n_X_colours {sc : Option (Nat × Nat × (Nat → Int32))} {sa : Nat → Nat} {d : Nat} {M : mz_M} {z : Nat × Nat} {x p q : Nat} (w : g_X M.2.2 x p q) {c : Nat} (hc : M.1 (p + 1) 5 = nI c) (hC : c ≤ 12) (hno : ¬ 0 < c) : zx sc sa (d + 7) 159 [.ref x] M z z (some (.int (-2))) M := by
  refine zxin ym_X_colours [.ref x, .retAddr 0] rfl rfl rfl rfl ?_
  refine z_aload_n (q := 1) rfl rfl rfl ?_
  refine z_cv0i (q := 4) rfl rfl rfl (X_k w) (t_X_is0 w hc hC hno) ?_
  refine z_if_ne (q := 7) rfl rfl (fun h4 => ?_) (fun h4 => ?_)
  · exact absurd h4 (by decide)
  · refine z_bipush (q := 9) (v := -2) rfl rfl rfl ?_
    refine z_ireti rfl rfl ?_
    exact ⟨rfl, rfl⟩
