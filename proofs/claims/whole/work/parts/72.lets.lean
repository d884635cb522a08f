-- a colour is let
def chB (T h : Nat) : Int32 := nI (T / 2 ^ h * 2 ^ h)
theorem ch_b : ∀ T, T < 16 → ∀ h, h < 4 → (chB T h &&& b2 h = 0 ↔ ¬ (nI T >>> (nI (h + 1) - 1 &&& 31)) &&& 1 = 1) := by decide
theorem ch_s : ∀ T, T < 16 → ∀ h, h < 4 → chB T h &&& (b2 h ^^^ -1) = chB T (h + 1) := by decide
theorem ch_e : ∀ T, T < 16 → ∀ h, h < 4 → chB T h &&& b2 h = 0 → chB T h = chB T (h + 1) := by decide
theorem ch_0 : ∀ T, T < 16 → chB T 0 = nI T := by decide
theorem ch_l : ∀ m, m ≤ 4 → ∀ T, T < 2 ^ m → chB T m = 0 := by decide
theorem ch_k : ∀ T, T < 16 → ∀ h, h ≤ 4 → ∀ e, e < h → chB T h &&& b2 e = 0 := by decide
theorem bb_b : ∀ h, h < 4 → bb (4 - h) = b2 h := by decide
theorem paF_0 {s l t : Int32} {n f : Nat} {c p : Int32} {q : sQ} : ∀ k, paF s l t n f c p k (-1) 0 3 q = (-1, 0, 3, q) := by
  intro k
  induction k with
  | zero => rfl
  | succ k ih =>
    rw [paF_s, if_pos rfl, if_pos rfl, if_pos (by rw [Int32.zero_and])]
    exact ih
theorem paF_k {s l t : Int32} {n f : Nat} {c p : Int32} {q : sQ} {T h : Nat} (hT : T < 16) (hh : h ≤ 4) : ∀ e, e ≤ h → paF s l t n f c p 4 (-1) (chB T h) 3 q = paF s l t n f c p (4 - e) (-1) (chB T h) 3 q := by
  intro e
  induction e with
  | zero => intro _; rfl
  | succ e ih =>
    intro he
    rw [ih (by omega), show 4 - e = (4 - (e + 1)) + 1 by omega, paF_s, if_pos rfl, if_pos rfl]
    have g : bb (4 - (e + 1) + 1) = b2 e := by
      rw [show 4 - (e + 1) + 1 = 4 - e by omega]
      exact bb_b e (by omega)
    rw [g, if_pos (ch_k T hT h hh e (by omega))]
theorem paF_x {s l t : Int32} {n f : Nat} {c p : Int32} {q : sQ} {x h oc : Int32} (hx : ¬ x = -1) : ∀ k, paF s l t n f c p k x h oc q = (x, h, oc, q) := by
  intro k
  cases k with
  | zero => rfl
  | succ k => rw [paF_s, if_neg hx]
theorem paF_2 {s l t : Int32} {n f : Nat} {c p : Int32} {q : sQ} {x h oc : Int32} (ho : ¬ oc = 3) : ∀ k, paF s l t n f c p k x h oc q = (x, h, oc, q) := by
  intro k
  cases k with
  | zero => rfl
  | succ k =>
    rw [paF_s]
    by_cases hx : x = -1
    · rw [if_pos hx, if_neg ho]
    · rw [if_neg hx]
-- rows behind striking out
theorem so_row {c : Nat} {s l t p : Int32} {e : Nat} (he : e < 4) : ∀ (k i : Nat) (v oc : Int32) (q : sQ), i + k = c → c ≤ 12 → qI c q → q.1 ≤ 200 → (v = -1 ∨ ∃ u, u < q.1 ∧ v = nI u ∧ oc = 3) → qI c (soF s l t p (b2 e) k i v oc q).2.2 ∧ (soF s l t p (b2 e) k i v oc q).2.2.1 ≤ 200 ∧ q.1 ≤ (soF s l t p (b2 e) k i v oc q).2.2.1 ∧ (∀ w, w < q.1 → (soF s l t p (b2 e) k i v oc q).2.2.2.1 w = q.2.1 w) ∧ ((soF s l t p (b2 e) k i v oc q).2.1 = oc ∨ (soF s l t p (b2 e) k i v oc q).1 = -1 ∧ (soF s l t p (b2 e) k i v oc q).2.1 = 2) ∧ ((soF s l t p (b2 e) k i v oc q).1 = -1 ∨ ∃ u u', v = nI u ∧ u < q.1 ∧ u' < (soF s l t p (b2 e) k i v oc q).2.2.1 ∧ (soF s l t p (b2 e) k i v oc q).1 = nI u' ∧ (soF s l t p (b2 e) k i v oc q).2.1 = 3 ∧ ∀ x, x < 12 → bi1 p x = 0 → nmI ((soF s l t p (b2 e) k i v oc q).2.2.2.1 u') (nI x) = nmI (q.2.1 u) (nI x)) := by
  intro k
  induction k with
  | zero =>
    intro i v oc q hi hC hI hN hv
    refine ⟨hI, hN, Nat.le_refl _, fun _ _ => rfl, Or.inl rfl, ?_⟩
    rcases hv with g | ⟨u, g1, g2, g3⟩
    · exact Or.inl g
    · exact Or.inr ⟨u, u, g2, g1, g1, g2, g3, fun _ _ _ => rfl⟩
  | succ k ih =>
    intro i v oc q hi hC hI hN hv
    rcases hv with g | ⟨u, u1, u2, u3⟩
    · subst g
      rw [soF_n]
      exact ⟨hI, hN, Nat.le_refl _, fun _ _ => rfl, Or.inl rfl, Or.inl rfl⟩
    · subst u2
      subst u3
      have hu9 : ¬ nI u = -1 := nI_m1 (by omega)
      have hcl : (nI u).toNatClampNeg = u := nI_clamp (by omega)
      rw [show soF s l t p (b2 e) (k + 1) i (nI u) 3 q = _ from if_neg hu9, hcl]
      obtain ⟨y, y1, y2⟩ := nm_16 (q.2.1 u) (show i < 12 by omega)
      by_cases c1 : bi1 p i = 0
      · rw [if_pos c1]
        exact ih (i + 1) (nI u) 3 q (by omega) hC hI hN (Or.inr ⟨u, u1, rfl, rfl⟩)
      · rw [if_neg c1, y2]
        by_cases c2 : nI y &&& b2 e = 0
        · rw [if_pos c2, if_neg (b2_n y y1 e he c2)]
          exact ih (i + 1) (nI u) 3 _ (by omega) hC (qI_rd hI u1) hN (Or.inr ⟨u, u1, rfl, rfl⟩)
        · rw [if_neg c2]
          have hq2 := puQ_ok2 (s := s) (l := l) (t := t) (j := u) (i := i) (x := nI y &&& (b2 e ^^^ -1)) (qI_rd (s := s) (l := l) (t := t) (cell := nI i) hI u1) u1 (show i < c by omega) hN
          obtain ⟨r8, r81, r82⟩ := rest_16 y y1 e he
          have hrow : q.1 ≤ (puQ s l t u (nI i) (nI y &&& (b2 e ^^^ -1)) 3 (rdQ s l t u (nI i) q)).2.2.1 ∧ (∀ w, w < q.1 → (puQ s l t u (nI i) (nI y &&& (b2 e ^^^ -1)) 3 (rdQ s l t u (nI i) q)).2.2.2.1 w = q.2.1 w) ∧ ((puQ s l t u (nI i) (nI y &&& (b2 e ^^^ -1)) 3 (rdQ s l t u (nI i) q)).2.1 = 3 ∨ (puQ s l t u (nI i) (nI y &&& (b2 e ^^^ -1)) 3 (rdQ s l t u (nI i) q)).1 = -1 ∧ (puQ s l t u (nI i) (nI y &&& (b2 e ^^^ -1)) 3 (rdQ s l t u (nI i) q)).2.1 = 2) ∧ ∀ u', (puQ s l t u (nI i) (nI y &&& (b2 e ^^^ -1)) 3 (rdQ s l t u (nI i) q)).1 = nI u' → u' < 2 ^ 31 → ∀ x, x < 12 → bi1 p x = 0 → nmI ((puQ s l t u (nI i) (nI y &&& (b2 e ^^^ -1)) 3 (rdQ s l t u (nI i) q)).2.2.2.1 u') (nI x) = nmI (q.2.1 u) (nI x) := by
            by_cases h : (rdQ s l t u (nI i) q).1 < 200
            · rw [pu_y h]
              have h' : q.1 < 200 := h
              refine ⟨Nat.le_succ _, fun w hw => up_n (Nat.ne_of_lt hw), Or.inl rfl, fun u' e' hu' x hx hb => ?_⟩
              have e2 : q.1 = u' := (nI_eq (show q.1 < 2 ^ 31 by omega) hu').mp e'
              subst e2
              show nmI (va_up q.2.1 q.1 (wnI (q.2.1 u) (nI i) (nI y &&& (b2 e ^^^ -1))) q.1) (nI x) = nmI (q.2.1 u) (nI x)
              rw [up_s, r82, nm_wn (by omega) hx r81, if_neg (fun g => by rw [g] at hb; exact c1 hb)]
            · rw [pu_n h]
              refine ⟨Nat.le_refl _, fun _ _ => rfl, Or.inr ⟨rfl, rfl⟩, fun u' e' hu' => absurd e'.symm (nI_m1 hu')⟩
          by_cases c3 : nI y = b2 e
          · rw [if_pos c3]
            refine ⟨hq2.1, hq2.2.1, hrow.1, hrow.2.1, ?_, Or.inl rfl⟩
            rcases hrow.2.2.1 with g | g
            · exact Or.inl g
            · exact Or.inr ⟨rfl, g.2⟩
          · rw [if_neg c3]
            generalize puQ s l t u (nI i) (nI y &&& (b2 e ^^^ -1)) 3 (rdQ s l t u (nI i) q) = R at hq2 hrow
            obtain ⟨k1, k2, k3, k4, k5, k6⟩ := ih (i + 1) R.1 R.2.1 R.2.2 (by omega) hC hq2.1 hq2.2.1 hq2.2.2
            refine ⟨k1, k2, Nat.le_trans hrow.1 k3, fun w hw => (k4 w (by have := hrow.1; omega)).trans (hrow.2.1 w hw), ?_, ?_⟩
            · rcases k5 with g | g
              · rcases hrow.2.2.1 with g2 | g2
                · exact Or.inl (g.trans g2)
                · refine Or.inr ⟨?_, g.trans g2.2⟩
                  rw [g2.1, soF_n]
              · exact Or.inr g
            · rcases k6 with g | ⟨v1, v2, g1, g2, g3, g4, g5, g6⟩
              · exact Or.inl g
              · have hv1 : v1 < 2 ^ 31 := by have := hq2.2.1; omega
                refine Or.inr ⟨u, v2, rfl, u1, g3, g4, g5, fun x hx hb => ?_⟩
                rw [g6 x hx hb]
                exact hrow.2.2.2 v1 g1 hv1 x hx hb
theorem b2_l : ∀ e, e < 4 → 2 ^ e < 16 := by decide
theorem d_Mo_lets {sc : Option (Nat × Nat × (Nat → Int32))} {sa : Nat → Nat} {d : Nat} {M : mz_M} {z : Nat × Nat} {m : Nat} (w : g_Mo M.2.2 m) {c : Nat} {l t : Int32} (hC : c ≤ 12) {F : Nat → Int32} {A : Nat → Nat → Int32} (hs : A 1 0 = nI c) (hl : F 15 = l) (ht : F 16 = t) {g : Nat} (h37 : F 37 = nI (g + 1)) (hn : g + 1 ≤ 12) {tk : Nat → Int32} (htk : ∀ j, j < g + 1 → A 17 j = tk j) {co : Int32} (hco : coB tk co (g + 1)) {x e : Nat} (hx : x < c) (he : e < 4) {Pp : Int32} (hP : A 1 (7 + x) = Pp) {q : sQ} (hq : mAd c F A q) (hI : qI c q) (hN : q.1 ≤ 200) (h30 : F 30 = -1) {f : Nat} (hf : f < q.1) (h17 : A 17 g = nI x) (h18 : A 18 g = nI f) : zi sc sa (d + 7) 282 [.ref m, .int (nI (e + 1))] (moF M m F A) z (fun y M' => y = (soF (nI c) l t (Pp &&& (co ^^^ -1)) (b2 e) c 0 (puQ (nI c) l t f (nI x) (b2 e) 3 q).1 (puQ (nI c) l t f (nI x) (b2 e) 3 q).2.1 (puQ (nI c) l t f (nI x) (b2 e) 3 q).2.2).1 ∧ ∃ F' A', M' = moF M m F' A' ∧ zF F A F' A' ∧ mAd c F' A' (soF (nI c) l t (Pp &&& (co ^^^ -1)) (b2 e) c 0 (puQ (nI c) l t f (nI x) (b2 e) 3 q).1 (puQ (nI c) l t f (nI x) (b2 e) 3 q).2.1 (puQ (nI c) l t f (nI x) (b2 e) 3 q).2.2).2.2 ∧ F' 30 = (if (soF (nI c) l t (Pp &&& (co ^^^ -1)) (b2 e) c 0 (puQ (nI c) l t f (nI x) (b2 e) 3 q).1 (puQ (nI c) l t f (nI x) (b2 e) 3 q).2.1 (puQ (nI c) l t f (nI x) (b2 e) 3 q).2.2).2.1 = 3 then -1 else (soF (nI c) l t (Pp &&& (co ^^^ -1)) (b2 e) c 0 (puQ (nI c) l t f (nI x) (b2 e) 3 q).1 (puQ (nI c) l t f (nI x) (b2 e) 3 q).2.1 (puQ (nI c) l t f (nI x) (b2 e) 3 q).2.2).2.1)) := by
  refine zin ym_Mo_lets [.ref m, .int (nI (e + 1)), .retAddr 0, .retAddr 0, .retAddr 0, .retAddr 0, .retAddr 0] rfl rfl rfl rfl ?_
  refine z_aload_n (q := 1) rfl rfl rfl ?_
  refine z_getR (q := 4) rfl rfl rfl (Mo_k w) (Mo_r33 w) ?_
  refine z_aload_n (q := 5) rfl rfl rfl ?_
  refine z_getI (q := 8) rfl rfl rfl (Mo_k w) ?_
  rw [moF_g37]
  rw [h37]
  refine z_iconst (q := 9) (v := 1) rfl rfl rfl ?_
  refine z_isub (q := 10) rfl rfl ?_
  rw [nI_pred]
  refine z_iald (q := 11) rfl rfl (Mo_a33 w) (by first | assumption | exact vp_in_nI (by omega) (by omega)) ?_
  rw [moF_a33]
  try rw [nI_clamp (by omega)]
  rw [h17]
  refine z_istore_n (q := 12) (L2 := [_, _, _, _, _, _, _]) rfl rfl rfl rfl ?_
  refine z_aload_n (q := 13) rfl rfl rfl ?_
  refine z_aload_n (q := 14) rfl rfl rfl ?_
  refine z_getR (q := 17) rfl rfl rfl (Mo_k w) (Mo_r34 w) ?_
  refine z_aload_n (q := 18) rfl rfl rfl ?_
  refine z_getI (q := 21) rfl rfl rfl (Mo_k w) ?_
  rw [moF_g37]
  rw [h37]
  refine z_iconst (q := 22) (v := 1) rfl rfl rfl ?_
  refine z_isub (q := 23) rfl rfl ?_
  rw [nI_pred]
  refine z_iald (q := 24) rfl rfl (Mo_a34 w) (by first | assumption | exact vp_in_nI (by omega) (by omega)) ?_
  rw [moF_a34]
  try rw [nI_clamp (by omega)]
  rw [h18]
  refine z_iload_n (q := 25) rfl rfl rfl ?_
  refine z_iconst (q := 26) (v := 1) rfl rfl rfl ?_
  refine z_iload_n (q := 27) rfl rfl rfl ?_
  refine z_iconst (q := 28) (v := 1) rfl rfl rfl ?_
  refine z_isub (q := 29) rfl rfl ?_
  refine z_ishl (q := 30) rfl rfl ?_
  rw [sh_b e he]
  have hy2 : 2 ^ e < 16 := b2_l e he
  have gs := d_Mo_setOr (sc := sc) (sa := sa) (d := d) (z := z) w hq hI hC hs hl ht h30 hf hN hx hy2
  refine z_cv3qi (q := 33) rfl rfl rfl (Mo_k w) (gs) (fun x9 M9 h9 => ?_)
  obtain ⟨rfl, FF, AA, rfl, rs1, rs2, gs1, gs2⟩ := h9
  refine z_istore_n (q := 34) (L2 := [_, _, _, _, _, _, _]) rfl rfl rfl rfl ?_
  refine z_iconst (q := 35) (v := 0) rfl rfl rfl ?_
  refine z_istore (q := 37) (L2 := [_, _, _, _, _, _, _]) rfl rfl rfl rfl ?_
  have hq2 := puQ_ok2 (s := nI c) (l := l) (t := t) (j := f) (i := x) (x := b2 e) hI hf hx hN
  have m1 := rs2 1 (by omega)
  refine mz_wp_m (mz_Kd_m sc sa _) ?_ (l_Mo_lets (d := d) (F0 := FF) (A0 := AA) w hC ((congrFun m1 0).trans hs) ((rs1 15 (by omega) (by omega) (by omega)).trans hl) ((rs1 16 (by omega) (by omega) (by omega)).trans ht) ((rs1 37 (by omega) (by omega) (by omega)).trans h37) hn (fun j hj => (congrFun (rs2 17 (by omega)) j).trans (htk j hj)) hco hx he ((congrFun m1 _).trans hP) c 0 _ _ _ FF AA _ _ (by omega) zF_r gs1 hq2.1 hq2.2.1 gs2 hq2.2.2)
  intro r9 M9 ⟨y9, k1, k2, F9, A9, k3, k4, k5, k6⟩
  exact ⟨y9, k1, k2, F9, A9, k3, zF_t ⟨rs1, rs2⟩ k4, k5, k6⟩
