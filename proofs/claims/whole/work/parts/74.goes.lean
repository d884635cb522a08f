theorem tc_w {c mm : Nat} {s l t : Int32} {j : Nat} {cm : Int32} (hC : c ≤ 12) (hm : mm ≤ 4) : ∀ (k i : Nat) (fe a b : Int32) (q : sQ), i + k = c → qW c mm q → j < q.1 → ((∃ y, y < 2 ^ mm ∧ b = nI y) ∨ (fe = 5 ∧ ∃ x, i ≤ x ∧ x < c ∧ bi1 cm x = 0)) → ∃ y, y < 2 ^ mm ∧ (tcF s l t j cm k i fe a b q).2.1 = nI y := by
  intro k
  induction k with
  | zero =>
    intro i fe a b q hi h _ hb
    rcases hb with g | ⟨_, x, g1, g2, _⟩
    · exact g
    · omega
  | succ k ih =>
    intro i fe a b q hi h hj hb
    obtain ⟨y, y1, y2⟩ := h j hj i (by omega)
    have y16 := w16 mm hm
    rw [tcF_s]
    by_cases c1 : bi1 cm i = 0
    · rw [if_pos c1]
      by_cases c2 : bcI (nmI (q.2.1 j) (nI i)) < fe
      · rw [if_pos c2]
        exact ih _ _ _ _ _ (by omega) (show qW c mm (rdQ s l t j (nI i) q) from h) hj (Or.inl ⟨y, y1, y2⟩)
      · rw [if_neg c2]
        refine ih _ _ _ _ _ (by omega) (show qW c mm (rdQ s l t j (nI i) q) from h) hj (Or.inl ?_)
        rcases hb with g | ⟨g, _⟩
        · exact g
        · rw [g, y2] at c2
          exact absurd (bc_5 y (by omega)) c2
    · rw [if_neg c1]
      refine ih _ _ _ _ _ (by omega) h hj ?_
      rcases hb with g | ⟨g, x, g1, g2, g3⟩
      · exact Or.inl g
      · refine Or.inr ⟨g, x, ?_, g2, g3⟩
        rcases Nat.eq_or_lt_of_le g1 with g4 | g4
        · rw [← g4] at g3; exact absurd g3 c1
        · omega
theorem yT_f {s l t : Int32} {n : Nat} {x : Int32} {j g : Nat} {oc tb lv : Int32} {g0 : Nat} {fr tk ch co : Nat → Int32} {q : sQ} (h : n ≤ g) : yT s l t n x j g ((oc, tb, lv, g0, fr, tk, ch, co, q) : yS) = (1, tb, x, g, fr, tk, ch, co, q) := if_pos h
theorem yT_g {s l t : Int32} {n : Nat} {x : Int32} {j g : Nat} {oc tb lv : Int32} {g0 : Nat} {fr tk ch co : Nat → Int32} {q : sQ} (h : ¬ n ≤ g) : yT s l t n x j g ((oc, tb, lv, g0, fr, tk, ch, co, q) : yS) = (oc, tb, lv, g, va_up fr g (nI j), va_up tk g (tcF s l t j (co g) n 0 5 (tk g) (ch g) q).1, va_up ch g (tcF s l t j (co g) n 0 5 (tk g) (ch g) q).2.1, va_up co (g + 1) (co g ||| (1 <<< ((tcF s l t j (co g) n 0 5 (tk g) (ch g) q).1 &&& 31))), (tcF s l t j (co g) n 0 5 (tk g) (ch g) q).2.2) := if_neg h
theorem d_Mo_goesAhead {sc : Option (Nat × Nat × (Nat → Int32))} {sa : Nat → Nat} {d : Nat} {M : mz_M} {z : Nat × Nat} {m : Nat} (w : g_Mo M.2.2 m) {F : Nat → Int32} {A : Nat → Nat → Int32} {c : Nat} {l t : Int32} (hC : c ≤ 12) (hs : A 1 0 = nI c) (hl : F 15 = l) (ht : F 16 = t) {mm : Nat} (hm : mm ≤ 4) {tb lv : Int32} {g : Nat} {fr tk ch co : Nat → Int32} {q : sQ} (hq : mAd c F A q) (hI : qI c q) (hW : qW c mm q) (h29 : F 29 = tb) (h30 : F 30 = -1) (h37 : F 37 = nI (g + 1)) (hg : g < c) (hY : yC c mm g fr tk ch co q A) {u : Nat} (hu : u < q.1) (hN : q.1 ≤ 200) (hrow : ∀ i, i ≤ g → ∀ xx, tk i = nI xx → xx < 12 → ∃ h, h < 4 ∧ A 20 xx = nI (h + 1) ∧ nmI (q.2.1 u) (nI xx) = b2 h)  : zv sc sa (d + 7) 284 [.ref m, .int (nI u)] (moF M m F A) z (fun M' => ∃ F' A', M' = moF M m F' A' ∧ aF F A F' A' ∧ yR c mm (yT (nI c) l t c (nI u) u (g + 1) ((3, tb, lv, g, fr, tk, ch, co, q) : yS)) F' A') := by
  have b2' := hI.2.1
  obtain ⟨yL, yD, yO, yV⟩ := id hY
  refine zin ym_Mo_goesAhead [.ref m, .int (nI u)] rfl rfl rfl rfl ?_
  refine z_iload_n (q := 1) rfl rfl rfl ?_
  refine z_iconst (q := 2) (v := -1) rfl rfl rfl ?_
  refine z_ic_eq (q := 5) rfl rfl (fun h2 => ?_) (fun h2 => ?_)
  · exact absurd h2 (nI_m1 (by omega))
  · refine z_aload_n (q := 6) rfl rfl rfl ?_
    refine z_getI (q := 9) rfl rfl rfl (Mo_k w) ?_
    rw [moF_g30]
    rw [h30]
    refine z_iconst (q := 10) (v := -1) rfl rfl rfl ?_
    refine z_ic_eq (q := 13) rfl rfl (fun h10 => ?_) (fun h10 => ?_)
    · refine z_aload_n (q := 15) rfl rfl rfl ?_
      refine z_getI (q := 18) rfl rfl rfl (Mo_k w) ?_
      rw [moF_g37]
      rw [h37]
      refine z_aload_n (q := 19) rfl rfl rfl ?_
      refine z_getR (q := 22) rfl rfl rfl (Mo_k w) (Mo_r0 w) ?_
      refine z_iconst (q := 23) (v := 0) rfl rfl rfl ?_
      refine z_iald (q := 24) rfl rfl (Mo_a0 w) (vp0 (by decide) (by decide)) ?_
      rw [moF_a0]
      try rw [nI_clamp (by omega)]
      rw [show A 1 (0 : Int32).toNatClampNeg = nI c from hs]
      refine z_ic_ne (q := 27) rfl rfl (fun h24 => ?_) (fun h24 => ?_)
      · refine z_aload_n (q := 36) rfl rfl rfl ?_
        refine z_iload_n (q := 37) rfl rfl rfl ?_
        have hgc : g + 1 < c := by
          have g9 : ¬ g + 1 = c := fun g9 => h24 (by rw [g9])
          omega
        have hex := pig (yO (g + 1) (Nat.le_refl _)) hC hgc
        have gs := d_Mo_takes (sc := sc) (sa := sa) (d := d) (z := z) (n := g + 1) (tk := tk) (co := co (g + 1)) (a := tk (g + 1)) (b := ch (g + 1)) w hC hs hl ht h37 (by omega) (fun j hj => by
          obtain ⟨xx, T, h, f, e1, e2, e3, _⟩ := yL j (by omega)
          rw [e3, e1]) (yO (g + 1) (Nat.le_refl _)) hq hI hu hex
        refine z_cv1qv (q := 40) rfl rfl rfl (Mo_k w) (gs) (fun M9 h9 => ?_)
        obtain ⟨FF, AA, x, y, rfl, wk, wj, gd, w37, w17, w18, w19, w20, e1, e2, x1, y1, bx⟩ := h9
        refine z_ret rfl rfl ?_
        first
          | (have hzz : nI (g + 1) = nI c := h24
             have hgc : g + 1 = c := (nI_eq (by omega) (by omega)).mp hzz
             rw [yT_f (by omega)]
             refine ⟨rfl, _, A, rfl, ⟨fun k hk => up_n (by omega), fun _ _ => rfl⟩, mAd_c hq rfl rfl (fun _ _ _ => rfl), h29, rfl, fun h => absurd h (by decide), fun _ => ⟨u, rfl, hu, fun xx hxx => ?_⟩⟩
             have hcv := cov (c := c) (tk := tk) (co := co c) (by rw [← hgc]; exact yO (g + 1) (Nat.le_refl _)) (fun i j h1 h2 => yD i j h1 (by omega)) (fun i hi => by
               obtain ⟨x9, T, h, f, k1, k2, _⟩ := yL i (by omega)
               exact ⟨x9, k2, k1⟩) hC xx hxx
             obtain ⟨j, j1, j2⟩ := hcv
             exact hrow j (by omega) xx j2 (by omega))
          | (have hgc2 : ¬ c ≤ g + 1 := by omega
             have hx12 : x < 12 := by omega
             have hun : ∀ j, j < g + 1 → ¬ tk j = nI x := (yO (g + 1) (Nat.le_refl _) x hx12).mp bx
             obtain ⟨t1, t2, t3⟩ := tc_q (c := c) (s := nI c) (l := l) (t := t) (cm := co (g + 1)) c 0 5 (tk (g + 1)) (ch (g + 1)) q hI hu
             obtain ⟨y', y1', y2'⟩ := tc_w (c := c) (mm := mm) (s := nI c) (l := l) (t := t) (cm := co (g + 1)) hC hm c 0 5 (tk (g + 1)) (ch (g + 1)) q (by omega) hW hu (Or.inr ⟨rfl, by obtain ⟨x9, g1, g2⟩ := hex; exact ⟨x9, Nat.zero_le _, g1, g2⟩⟩)
             have hm16 := w16 mm hm
             have eyy : y = y' := (nI_eq (by omega) (by omega)).mp (e2.symm.trans y2')
             subst eyy
             rw [yT_g hgc2, e1, e2]
             refine ⟨rfl, FF, AA, rfl, ⟨fun k hk => wk k (by omega) (by omega) (by omega), fun j hj => wj j (by omega)⟩, gd, (wk 29 (by omega) (by omega) (by omega)).trans h29, (wk 30 (by omega) (by omega) (by omega)).trans h30, fun _ => ⟨w37, by omega, fun i hi => ?_, fun i j hij hj => ?_, fun i hi => ?_, fun j hj i hij xx f k1 k2 k3 k4 => ?_⟩, fun h => absurd h (by decide)⟩
             · rw [w17, w18, w19, w20, t2]
               by_cases ei : i = g + 1
               · subst ei
                 refine ⟨x, y, 0, u, up_s, x1, up_s, up_s, up_s, hu, up_s, y1', up_s, Nat.zero_le _, ?_⟩
                 rw [up_s, ch_0 y (by omega)]
               · obtain ⟨x9, T, h, f, k1, k2, k3, k4, k5, k6, k7, k8, k9, k10, k11⟩ := yL i (by omega)
                 have hxx : x9 ≠ x := fun g9 => hun i (by omega) (by rw [k1, g9])
                 rw [up_n ei, up_n ei, up_n ei, up_n ei, up_n ei, up_n ei]
                 exact ⟨x9, T, h, f, k1, k2, k3, k4, k5, k6, k7, k8, (up_n hxx).trans k9, k10, k11⟩
             · by_cases ej : j = g + 1
               · rw [ej, up_s, up_n (by omega)]
                 exact hun i (by omega)
               · rw [up_n ej, up_n (by omega)]
                 exact yD i j hij (by omega)
             · intro xx hxx
               by_cases ei : i = g + 1 + 1
               · rw [ei, up_s, bi_or hx12 hxx, yO (g + 1) (Nat.le_refl _) xx hxx]
                 constructor
                 · intro ⟨k1, k2⟩ j hj
                   by_cases ej : j = g + 1
                   · rw [ej, up_s, nI_eq (by omega) (by omega)]
                     exact fun k => k2 k.symm
                   · rw [up_n ej]
                     exact k1 j (by omega)
                 · intro k1
                   refine ⟨fun j hj => ?_, fun k2 => ?_⟩
                   · have k3 := k1 j (by omega)
                     rw [up_n (by omega)] at k3
                     exact k3
                   · have k3 := k1 (g + 1) (by omega)
                     rw [up_s, k2] at k3
                     exact k3 rfl
               · rw [up_n ei, yO i (by omega) xx hxx]
                 constructor
                 · intro k1 j hj
                   rw [up_n (by omega)]
                   exact k1 j hj
                 · intro k1 j hj
                   have k3 := k1 j hj
                   rw [up_n (by omega)] at k3
                   exact k3
             · rw [t3, w20]
               have hxx : xx ≠ x := fun g9 => by
                 rw [up_n (by omega)] at k1
                 exact hun i (by omega) (by rw [k1, g9])
               rw [up_n (show i ≠ g + 1 by omega)] at k1
               rw [up_n hxx]
               by_cases ej : j = g + 1
               · subst ej
                 rw [up_s] at k3
                 have ef : u = f := (nI_eq (by omega) k4).mp k3
                 subst ef
                 exact hrow i (by omega) xx k1 k2
               · rw [up_n ej] at k3
                 exact yV j (by omega) i hij xx f k1 k2 k3 k4)
          | fail "none"
      · refine z_aload_n (q := 28) rfl rfl rfl ?_
        refine z_iconst (q := 29) (v := 1) rfl rfl rfl ?_
        refine z_putI (q := 32) rfl rfl rfl (by decide) rfl rfl (Mo_k w) ?_
        rw [moF_u30]
        refine z_goto rfl ?_
        refine z_ret rfl rfl ?_
        first
          | (have hzz : nI (g + 1) = nI c := h24
             have hgc : g + 1 = c := (nI_eq (by omega) (by omega)).mp hzz
             rw [yT_f (by omega)]
             refine ⟨rfl, _, A, rfl, ⟨fun k hk => up_n (by omega), fun _ _ => rfl⟩, mAd_c hq rfl rfl (fun _ _ _ => rfl), h29, rfl, fun h => absurd h (by decide), fun _ => ⟨u, rfl, hu, fun xx hxx => ?_⟩⟩
             have hcv := cov (c := c) (tk := tk) (co := co c) (by rw [← hgc]; exact yO (g + 1) (Nat.le_refl _)) (fun i j h1 h2 => yD i j h1 (by omega)) (fun i hi => by
               obtain ⟨x9, T, h, f, k1, k2, _⟩ := yL i (by omega)
               exact ⟨x9, k2, k1⟩) hC xx hxx
             obtain ⟨j, j1, j2⟩ := hcv
             exact hrow j (by omega) xx j2 (by omega))
          | (have hgc2 : ¬ c ≤ g + 1 := by omega
             have hx12 : x < 12 := by omega
             have hun : ∀ j, j < g + 1 → ¬ tk j = nI x := (yO (g + 1) (Nat.le_refl _) x hx12).mp bx
             obtain ⟨t1, t2, t3⟩ := tc_q (c := c) (s := nI c) (l := l) (t := t) (cm := co (g + 1)) c 0 5 (tk (g + 1)) (ch (g + 1)) q hI hu
             obtain ⟨y', y1', y2'⟩ := tc_w (c := c) (mm := mm) (s := nI c) (l := l) (t := t) (cm := co (g + 1)) hC hm c 0 5 (tk (g + 1)) (ch (g + 1)) q (by omega) hW hu (Or.inr ⟨rfl, by obtain ⟨x9, g1, g2⟩ := hex; exact ⟨x9, Nat.zero_le _, g1, g2⟩⟩)
             have hm16 := w16 mm hm
             have eyy : y = y' := (nI_eq (by omega) (by omega)).mp (e2.symm.trans y2')
             subst eyy
             rw [yT_g hgc2, e1, e2]
             refine ⟨rfl, FF, AA, rfl, ⟨fun k hk => wk k (by omega) (by omega) (by omega), fun j hj => wj j (by omega)⟩, gd, (wk 29 (by omega) (by omega) (by omega)).trans h29, (wk 30 (by omega) (by omega) (by omega)).trans h30, fun _ => ⟨w37, by omega, fun i hi => ?_, fun i j hij hj => ?_, fun i hi => ?_, fun j hj i hij xx f k1 k2 k3 k4 => ?_⟩, fun h => absurd h (by decide)⟩
             · rw [w17, w18, w19, w20, t2]
               by_cases ei : i = g + 1
               · subst ei
                 refine ⟨x, y, 0, u, up_s, x1, up_s, up_s, up_s, hu, up_s, y1', up_s, Nat.zero_le _, ?_⟩
                 rw [up_s, ch_0 y (by omega)]
               · obtain ⟨x9, T, h, f, k1, k2, k3, k4, k5, k6, k7, k8, k9, k10, k11⟩ := yL i (by omega)
                 have hxx : x9 ≠ x := fun g9 => hun i (by omega) (by rw [k1, g9])
                 rw [up_n ei, up_n ei, up_n ei, up_n ei, up_n ei, up_n ei]
                 exact ⟨x9, T, h, f, k1, k2, k3, k4, k5, k6, k7, k8, (up_n hxx).trans k9, k10, k11⟩
             · by_cases ej : j = g + 1
               · rw [ej, up_s, up_n (by omega)]
                 exact hun i (by omega)
               · rw [up_n ej, up_n (by omega)]
                 exact yD i j hij (by omega)
             · intro xx hxx
               by_cases ei : i = g + 1 + 1
               · rw [ei, up_s, bi_or hx12 hxx, yO (g + 1) (Nat.le_refl _) xx hxx]
                 constructor
                 · intro ⟨k1, k2⟩ j hj
                   by_cases ej : j = g + 1
                   · rw [ej, up_s, nI_eq (by omega) (by omega)]
                     exact fun k => k2 k.symm
                   · rw [up_n ej]
                     exact k1 j (by omega)
                 · intro k1
                   refine ⟨fun j hj => ?_, fun k2 => ?_⟩
                   · have k3 := k1 j (by omega)
                     rw [up_n (by omega)] at k3
                     exact k3
                   · have k3 := k1 (g + 1) (by omega)
                     rw [up_s, k2] at k3
                     exact k3 rfl
               · rw [up_n ei, yO i (by omega) xx hxx]
                 constructor
                 · intro k1 j hj
                   rw [up_n (by omega)]
                   exact k1 j hj
                 · intro k1 j hj
                   have k3 := k1 j hj
                   rw [up_n (by omega)] at k3
                   exact k3
             · rw [t3, w20]
               have hxx : xx ≠ x := fun g9 => by
                 rw [up_n (by omega)] at k1
                 exact hun i (by omega) (by rw [k1, g9])
               rw [up_n (show i ≠ g + 1 by omega)] at k1
               rw [up_n hxx]
               by_cases ej : j = g + 1
               · subst ej
                 rw [up_s] at k3
                 have ef : u = f := (nI_eq (by omega) k4).mp k3
                 subst ef
                 exact hrow i (by omega) xx k1 k2
               · rw [up_n ej] at k3
                 exact yV j (by omega) i hij xx f k1 k2 k3 k4)
          | fail "none"
    · exact absurd rfl h10
theorem n_Mo_goesAhead {sc : Option (Nat × Nat × (Nat → Int32))} {sa : Nat → Nat} {d : Nat} {M : mz_M} {z : Nat × Nat} {m : Nat} (w : g_Mo M.2.2 m) {F : Nat → Int32} {A : Nat → Nat → Int32}  : zx sc sa (d + 1) 284 [.ref m, .int (-1)] (moF M m F A) z z none (moF M m F A) := by
  refine zxin ym_Mo_goesAhead [.ref m, .int (-1)] rfl rfl rfl rfl ?_
  refine z_iload_n (q := 1) rfl rfl rfl ?_
  refine z_iconst (q := 2) (v := -1) rfl rfl rfl ?_
  refine z_ic_eq (q := 5) rfl rfl (fun h2 => ?_) (fun h2 => ?_)
  · refine z_ret rfl rfl ?_
    exact ⟨rfl, rfl⟩
  · exact absurd h2 (by decide)
