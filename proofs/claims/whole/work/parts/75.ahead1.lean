-- turns of the look ahead
def yZ (c mm mu : Nat) (y : yS) : Prop := match y with
  | (oc, _, _, g, _, _, _, _, q) => qI c q ∧ qW c mm q ∧ q.1 ≤ 200 ∧ (oc = 0 ∨ oc = 1 ∨ oc = 2 ∨ oc = 3) ∧ (oc = 3 → 2 * (200 - q.1) + g < mu)
theorem yU_0 {s l t : Int32} {n : Nat} {oc tb lv : Int32} {g : Nat} {fr tk ch co : Nat → Int32} {q0 q : sQ} {h : Int32} (e : g = 0) : yU s l t n ((oc, tb, lv, g, fr, tk, ch, co, q0) : yS) (-1, h, 3, q) = (0, tb, lv, g - 1, fr, tk, va_up ch g h, co, q) := by
  unfold yU
  dsimp only
  rw [if_pos rfl, if_pos rfl, if_pos e, if_pos e]
theorem yU_1 {s l t : Int32} {n : Nat} {oc tb lv : Int32} {g : Nat} {fr tk ch co : Nat → Int32} {q0 q : sQ} {h : Int32} (e : ¬ g = 0) : yU s l t n ((oc, tb, lv, g, fr, tk, ch, co, q0) : yS) (-1, h, 3, q) = (3, tb + 1, lv, g - 1, fr, tk, va_up ch g h, co, q) := by
  unfold yU
  dsimp only
  rw [if_pos rfl, if_pos rfl, if_neg e, if_neg e]
theorem yU_2 {s l t : Int32} {n : Nat} {oc tb lv : Int32} {g : Nat} {fr tk ch co : Nat → Int32} {q0 q : sQ} {h : Int32} : yU s l t n ((oc, tb, lv, g, fr, tk, ch, co, q0) : yS) (-1, h, 2, q) = (2, tb, lv, g, fr, tk, va_up ch g h, co, q) := by
  unfold yU
  dsimp only
  rw [if_pos rfl, if_neg (by decide)]
theorem yU_n {s l t : Int32} {n : Nat} {oc tb lv : Int32} {g : Nat} {fr tk ch co : Nat → Int32} {q0 q : sQ} {h : Int32} {u : Nat} (hu : u < 2 ^ 31) : yU s l t n ((oc, tb, lv, g, fr, tk, ch, co, q0) : yS) (nI u, h, 3, q) = yT s l t n (nI u) u (g + 1) ((3, tb, lv, g, fr, tk, va_up ch g h, co, q) : yS) := by
  unfold yU
  dsimp only
  rw [if_neg (nI_m1 hu), nI_clamp hu]
theorem yZ_T {c mm mu : Nat} {l t : Int32} {u g : Nat} {tb lv : Int32} {fr tk ch co : Nat → Int32} {q : sQ} (hI : qI c q) (hW : qW c mm q) (hN : q.1 ≤ 200) (hu : u < q.1) (hmu : 2 * (200 - q.1) + (g + 1) < mu) : yZ c mm mu (yT (nI c) l t c (nI u) u (g + 1) ((3, tb, lv, g, fr, tk, ch, co, q) : yS)) := by
  by_cases h : c ≤ g + 1
  · rw [yT_f h]
    exact ⟨hI, hW, hN, Or.inr (Or.inl rfl), fun h => absurd h (by decide)⟩
  · rw [yT_g h]
    obtain ⟨t1, t2, t3⟩ := tc_q (c := c) (s := nI c) (l := l) (t := t) (cm := co (g + 1)) c 0 5 (tk (g + 1)) (ch (g + 1)) q hI hu
    refine ⟨t1, ?_, by rw [t2]; exact hN, Or.inr (Or.inr (Or.inr rfl)), fun _ => by rw [t2]; exact hmu⟩
    intro v hv
    rw [t2] at hv
    rw [t3]
    exact hW v hv
set_option maxHeartbeats 1000000 in
theorem l_Mo_ah1 {sc : Option (Nat × Nat × (Nat → Int32))} {sa : Nat → Nat} {d : Nat} {M : mz_M} {z : Nat × Nat} {m : Nat} (w : g_Mo M.2.2 m) {c : Nat} {l t : Int32} (hC : c ≤ 12) {F0 : Nat → Int32} {A0 : Nat → Nat → Int32} (hs : A0 1 0 = nI c) (hl : F0 15 = l) (ht : F0 16 = t) {P : Nat → Int32} (hP : ∀ i, i < c → A0 1 (7 + i) = P i) {mm : Nat} (hm : mm ≤ 4) {Q : mz_P} {lw : Int32} {g : Nat} (hg : g < c) {tb lv : Int32} {fr tk ch co : Nat → Int32} {xx T f : Nat} (hxx : tk g = nI xx) (xc : xx < c) (hfr : fr g = nI f) (hT : T < 2 ^ mm) {q0 : sQ} : ∀ (j h : Nat) (q : sQ) (F : Nat → Int32) (A : Nat → Nat → Int32) (x3 : Value), h + j = mm → aF F0 A0 F A → mAd c F A q → F 29 = tb → F 30 = -1 → F 37 = nI (g + 1) → yC c mm g fr tk (va_up ch g (chB T h)) co q A → A 19 g = nI T → A 20 xx = nI h → qI c q → qW c mm q → q.1 ≤ 200 → f < q.1 → q0.1 ≤ q.1 → (∀ F' A' (y3 : Value), aF F0 A0 F' A' → yR c mm (yU (nI c) l t c ((3, tb, lv, g, fr, tk, ch, co, q0) : yS) (paF (nI c) l t c f (nI xx) (P xx &&& (co (g + 1) ^^^ -1)) (4 - h) (-1) (chB T h) 3 q)) F' A' → yZ c mm (2 * (200 - q0.1) + g) (yU (nI c) l t c ((3, tb, lv, g, fr, tk, ch, co, q0) : yS) (paF (nI c) l t c f (nI xx) (P xx &&& (co (g + 1) ^^^ -1)) (4 - h) (-1) (chB T h) 3 q)) → zw sc sa (d + 7) ym_Mo_looksAhead z Q 41 [.ref m, .int lw, .int (nI mm), y3] [] (moF M m F' A') z) → zw sc sa (d + 7) ym_Mo_looksAhead z Q 41 [.ref m, .int lw, .int (nI mm), x3] [] (moF M m F A) z := by
  intro j
  induction j with
  | zero =>
    intro h q F A x3 hj hF hq h29 h30 h37 hY a19 hh hI hW hN hfq hq0 hk
    have e1 : h = mm := by omega
    subst e1
    have b2' := hI.2.1
    have m16 := w16 _ hm
    obtain ⟨yL, yD, yO, yV⟩ := id hY
    have hun : ∀ i, i < g → ∀ x9, tk i = nI x9 → x9 ≠ xx := fun i hi x9 e1 e2 => yD i g hi (Nat.le_refl _) (by rw [e1, e2, hxx])
    have a17 : A 17 g = nI xx := by
      obtain ⟨x9, T9, h9, f9, e1, e2, e3, _⟩ := yL g (Nat.le_refl _)
      rw [e3, ← e1, hxx]
    have a18 : A 18 g = nI f := by
      obtain ⟨x9, T9, h9, f9, e1, e2, e3, e4, e5, _⟩ := yL g (Nat.le_refl _)
      rw [e4, ← e5, hfr]
    by_cases e0 : g = 0
    · have en : nI g = 0 := by rw [e0]; rfl
      refine z_aload_n (q := 42) rfl rfl rfl ?_
      refine z_getI (q := 45) rfl rfl rfl (Mo_k w) ?_
      rw [moF_g30]
      rw [h30]
      refine z_iconst (q := 46) (v := -1) rfl rfl rfl ?_
      refine z_ic_ne (q := 49) rfl rfl (fun h46 => ?_) (fun h46 => ?_)
      · exact absurd rfl h46
      · refine z_aload_n (q := 50) rfl rfl rfl ?_
        refine z_getR (q := 53) rfl rfl rfl (Mo_k w) (Mo_r33 w) ?_
        refine z_aload_n (q := 54) rfl rfl rfl ?_
        refine z_getI (q := 57) rfl rfl rfl (Mo_k w) ?_
        rw [moF_g37]
        rw [h37]
        refine z_iconst (q := 58) (v := 1) rfl rfl rfl ?_
        refine z_isub (q := 59) rfl rfl ?_
        rw [nI_pred]
        refine z_iald (q := 60) rfl rfl (Mo_a33 w) (vp_in_nI (by omega) (by omega)) ?_
        rw [moF_a33]
        try rw [nI_clamp (by omega)]
        rw [a17]
        refine z_istore_n (q := 61) (L2 := [_, _, _, _]) rfl rfl rfl rfl ?_
        refine z_aload_n (q := 62) rfl rfl rfl ?_
        refine z_getR (q := 65) rfl rfl rfl (Mo_k w) (Mo_r36 w) ?_
        refine z_iload_n (q := 66) rfl rfl rfl ?_
        refine z_dup2 (q := 67) rfl rfl rfl rfl ?_
        refine z_iald (q := 68) rfl rfl (Mo_a36 w) (vp_in_nI (by omega) (by omega)) ?_
        rw [moF_a36]
        try rw [nI_clamp (by omega)]
        rw [hh]
        refine z_iconst (q := 69) (v := 1) rfl rfl rfl ?_
        refine z_iadd (q := 70) rfl rfl ?_
        rw [nI_1]
        refine z_iast (q := 71) rfl rfl (Mo_a36 w) (vp_in_nI (by omega) (by omega)) ?_
        rw [moF_w36]
        try rw [nI_clamp (by omega)]
        refine z_aload_n (q := 72) rfl rfl rfl ?_
        refine z_getR (q := 75) rfl rfl rfl (Mo_k w) (Mo_r36 w) ?_
        refine z_iload_n (q := 76) rfl rfl rfl ?_
        refine z_iald (q := 77) rfl rfl (Mo_a36 w) (vp_in_nI (by omega) (by omega)) ?_
        rw [moF_a36]
        try rw [nI_clamp (by omega)]
        rw [show (va_up A 20 (va_up (A 20) xx (nI (h + 1)))) 20 xx = nI (h + 1) from up_s]
        refine z_iload_n (q := 78) rfl rfl rfl ?_
        refine z_ic_le (q := 81) rfl rfl (fun h78 => ?_) (fun h78 => ?_)
        · exact absurd h78 (nI_ge (by omega) (by omega))
        · refine z_aload_n (q := 82) rfl rfl rfl ?_
          refine z_dup (q := 83) rfl rfl rfl ?_
          refine z_getI (q := 86) rfl rfl rfl (Mo_k w) ?_
          rw [moF_g37]
          rw [h37]
          refine z_iconst (q := 87) (v := 1) rfl rfl rfl ?_
          refine z_isub (q := 88) rfl rfl ?_
          rw [nI_pred]
          refine z_putI (q := 91) rfl rfl rfl (by decide) rfl rfl (Mo_k w) ?_
          rw [moF_u37]
          refine z_aload_n (q := 92) rfl rfl rfl ?_
          refine z_aload_n (q := 93) rfl rfl rfl ?_
          refine z_getI (q := 96) rfl rfl rfl (Mo_k w) ?_
          rw [moF_g37]
          rw [show va_up F 37 (nI g) 37 = nI g from up_s]
          refine z_if_ne (q := 99) rfl rfl (fun h96 => ?_) (fun h96 => ?_)
          · exact absurd en h96
          · refine z_iconst (q := 100) (v := 0) rfl rfl rfl ?_
            refine z_goto rfl ?_
            refine z_putI (q := 107) rfl rfl rfl (by decide) rfl rfl (Mo_k w) ?_
            rw [moF_u30]
            refine z_aload_n (q := 108) rfl rfl rfl ?_
            refine z_dup (q := 109) rfl rfl rfl ?_
            refine z_getI (q := 112) rfl rfl rfl (Mo_k w) ?_
            rw [moF_g29]
            rw [show va_up (va_up F 37 (nI g)) 30 0 29 = tb from h29]
            refine z_aload_n (q := 113) rfl rfl rfl ?_
            refine z_getI (q := 116) rfl rfl rfl (Mo_k w) ?_
            rw [moF_g37]
            rw [show va_up (va_up F 37 (nI g)) 30 0 37 = nI g from rfl]
            refine z_if_ne (q := 119) rfl rfl (fun h116 => ?_) (fun h116 => ?_)
            · exact absurd en h116
            · refine z_iconst (q := 120) (v := 0) rfl rfl rfl ?_
              refine z_goto rfl ?_
              refine z_iadd (q := 125) rfl rfl ?_
              refine z_putI (q := 128) rfl rfl rfl (by decide) rfl rfl (Mo_k w) ?_
              rw [moF_u29]
              refine z_goto rfl ?_
              refine z_goto rfl ?_
              refine hk _ _ _ ⟨fun k hk => (up_n (by omega)).trans ((up_n (by omega)).trans ((up_n (by omega)).trans (hF.1 k hk))), fun j hj => (up_n (by omega)).trans (hF.2 j hj)⟩ ?_ ?_
              · rw [show (paF (nI c) l t c f (nI xx) (P xx &&& (co (g + 1) ^^^ -1)) (4 - h) (-1) (chB T h) 3 q) = (-1, 0, 3, q) from by rw [ch_l h hm T hT]; exact paF_0 _, yU_0 e0]
                refine ⟨mAd_c hq rfl rfl (fun j h4 h10 => up_n (by omega)), ?_, rfl, fun h => absurd h (by decide), fun h => absurd h (by decide)⟩
                show tb + 0 = tb
                exact Int32.add_zero _
              · rw [show (paF (nI c) l t c f (nI xx) (P xx &&& (co (g + 1) ^^^ -1)) (4 - h) (-1) (chB T h) 3 q) = (-1, 0, 3, q) from by rw [ch_l h hm T hT]; exact paF_0 _, yU_0 e0]
                exact ⟨hI, hW, hN, Or.inl rfl, fun h => absurd h (by decide)⟩
    · have en : ¬ nI g = 0 := nI_ne0 (by omega) (by omega)
      refine z_aload_n (q := 42) rfl rfl rfl ?_
      refine z_getI (q := 45) rfl rfl rfl (Mo_k w) ?_
      rw [moF_g30]
      rw [h30]
      refine z_iconst (q := 46) (v := -1) rfl rfl rfl ?_
      refine z_ic_ne (q := 49) rfl rfl (fun h46 => ?_) (fun h46 => ?_)
      · exact absurd rfl h46
      · refine z_aload_n (q := 50) rfl rfl rfl ?_
        refine z_getR (q := 53) rfl rfl rfl (Mo_k w) (Mo_r33 w) ?_
        refine z_aload_n (q := 54) rfl rfl rfl ?_
        refine z_getI (q := 57) rfl rfl rfl (Mo_k w) ?_
        rw [moF_g37]
        rw [h37]
        refine z_iconst (q := 58) (v := 1) rfl rfl rfl ?_
        refine z_isub (q := 59) rfl rfl ?_
        rw [nI_pred]
        refine z_iald (q := 60) rfl rfl (Mo_a33 w) (vp_in_nI (by omega) (by omega)) ?_
        rw [moF_a33]
        try rw [nI_clamp (by omega)]
        rw [a17]
        refine z_istore_n (q := 61) (L2 := [_, _, _, _]) rfl rfl rfl rfl ?_
        refine z_aload_n (q := 62) rfl rfl rfl ?_
        refine z_getR (q := 65) rfl rfl rfl (Mo_k w) (Mo_r36 w) ?_
        refine z_iload_n (q := 66) rfl rfl rfl ?_
        refine z_dup2 (q := 67) rfl rfl rfl rfl ?_
        refine z_iald (q := 68) rfl rfl (Mo_a36 w) (vp_in_nI (by omega) (by omega)) ?_
        rw [moF_a36]
        try rw [nI_clamp (by omega)]
        rw [hh]
        refine z_iconst (q := 69) (v := 1) rfl rfl rfl ?_
        refine z_iadd (q := 70) rfl rfl ?_
        rw [nI_1]
        refine z_iast (q := 71) rfl rfl (Mo_a36 w) (vp_in_nI (by omega) (by omega)) ?_
        rw [moF_w36]
        try rw [nI_clamp (by omega)]
        refine z_aload_n (q := 72) rfl rfl rfl ?_
        refine z_getR (q := 75) rfl rfl rfl (Mo_k w) (Mo_r36 w) ?_
        refine z_iload_n (q := 76) rfl rfl rfl ?_
        refine z_iald (q := 77) rfl rfl (Mo_a36 w) (vp_in_nI (by omega) (by omega)) ?_
        rw [moF_a36]
        try rw [nI_clamp (by omega)]
        rw [show (va_up A 20 (va_up (A 20) xx (nI (h + 1)))) 20 xx = nI (h + 1) from up_s]
        refine z_iload_n (q := 78) rfl rfl rfl ?_
        refine z_ic_le (q := 81) rfl rfl (fun h78 => ?_) (fun h78 => ?_)
        · exact absurd h78 (nI_ge (by omega) (by omega))
        · refine z_aload_n (q := 82) rfl rfl rfl ?_
          refine z_dup (q := 83) rfl rfl rfl ?_
          refine z_getI (q := 86) rfl rfl rfl (Mo_k w) ?_
          rw [moF_g37]
          rw [h37]
          refine z_iconst (q := 87) (v := 1) rfl rfl rfl ?_
          refine z_isub (q := 88) rfl rfl ?_
          rw [nI_pred]
          refine z_putI (q := 91) rfl rfl rfl (by decide) rfl rfl (Mo_k w) ?_
          rw [moF_u37]
          refine z_aload_n (q := 92) rfl rfl rfl ?_
          refine z_aload_n (q := 93) rfl rfl rfl ?_
          refine z_getI (q := 96) rfl rfl rfl (Mo_k w) ?_
          rw [moF_g37]
          rw [show va_up F 37 (nI g) 37 = nI g from up_s]
          refine z_if_ne (q := 99) rfl rfl (fun h96 => ?_) (fun h96 => ?_)
          · refine z_iconst (q := 104) (v := -1) rfl rfl rfl ?_
            refine z_putI (q := 107) rfl rfl rfl (by decide) rfl rfl (Mo_k w) ?_
            rw [moF_u30]
            refine z_aload_n (q := 108) rfl rfl rfl ?_
            refine z_dup (q := 109) rfl rfl rfl ?_
            refine z_getI (q := 112) rfl rfl rfl (Mo_k w) ?_
            rw [moF_g29]
            rw [show va_up (va_up F 37 (nI g)) 30 (-1) 29 = tb from h29]
            refine z_aload_n (q := 113) rfl rfl rfl ?_
            refine z_getI (q := 116) rfl rfl rfl (Mo_k w) ?_
            rw [moF_g37]
            rw [show va_up (va_up F 37 (nI g)) 30 (-1) 37 = nI g from rfl]
            refine z_if_ne (q := 119) rfl rfl (fun h116 => ?_) (fun h116 => ?_)
            · refine z_iconst (q := 124) (v := 1) rfl rfl rfl ?_
              refine z_iadd (q := 125) rfl rfl ?_
              refine z_putI (q := 128) rfl rfl rfl (by decide) rfl rfl (Mo_k w) ?_
              rw [moF_u29]
              refine z_goto rfl ?_
              refine z_goto rfl ?_
              refine hk _ _ _ ⟨fun k hk => (up_n (by omega)).trans ((up_n (by omega)).trans ((up_n (by omega)).trans (hF.1 k hk))), fun j hj => (up_n (by omega)).trans (hF.2 j hj)⟩ ?_ ?_
              · rw [show (paF (nI c) l t c f (nI xx) (P xx &&& (co (g + 1) ^^^ -1)) (4 - h) (-1) (chB T h) 3 q) = (-1, 0, 3, q) from by rw [ch_l h hm T hT]; exact paF_0 _, yU_1 e0]
                refine ⟨mAd_c hq rfl rfl (fun j h4 h10 => up_n (by omega)), rfl, rfl, fun _ => ⟨?_, by omega, fun i hi => ?_, fun i j hij hj => yD i j hij (by omega), fun i hi => yO i (by omega), fun j hj i hij x9 f9 k1 k2 k3 k4 => ?_⟩, fun h => absurd h (by decide)⟩
                · rw [show g - 1 + 1 = g by omega]
                  rfl
                · obtain ⟨x9, T9, h9, f9, e1, e2, e3, e4, e5, e6, e7, e8, e9, e10, e11⟩ := yL i (by omega)
                  rw [up_n (show i ≠ g by omega)] at e11
                  refine ⟨x9, T9, h9, f9, e1, e2, e3, e4, e5, e6, e7, e8, (up_n (hun i (by omega) x9 e1)).trans e9, e10, ?_⟩
                  rw [up_n (show i ≠ g by omega)]
                  exact e11
                · obtain ⟨h9, v1, v2, v3⟩ := yV j (by omega) i hij x9 f9 k1 k2 k3 k4
                  exact ⟨h9, v1, (up_n (hun i (by omega) x9 k1)).trans v2, v3⟩
              · rw [show (paF (nI c) l t c f (nI xx) (P xx &&& (co (g + 1) ^^^ -1)) (4 - h) (-1) (chB T h) 3 q) = (-1, 0, 3, q) from by rw [ch_l h hm T hT]; exact paF_0 _, yU_1 e0]
                exact ⟨hI, hW, hN, Or.inr (Or.inr (Or.inr rfl)), fun _ => by omega⟩
            · exact absurd h116 en
          · exact absurd h96 en
  | succ j ih =>
    intro h q F A x3 hj hF hq h29 h30 h37 hY a19 hh hI hW hN hfq hq0 hk
    have b2' := hI.2.1
    have m16 := w16 _ hm
    obtain ⟨yL, yD, yO, yV⟩ := id hY
    have hun : ∀ i, i < g → ∀ x9, tk i = nI x9 → x9 ≠ xx := fun i hi x9 e1 e2 => yD i g hi (Nat.le_refl _) (by rw [e1, e2, hxx])
    have a17 : A 17 g = nI xx := by
      obtain ⟨x9, T9, h9, f9, e1, e2, e3, _⟩ := yL g (Nat.le_refl _)
      rw [e3, ← e1, hxx]
    have a18 : A 18 g = nI f := by
      obtain ⟨x9, T9, h9, f9, e1, e2, e3, e4, e5, _⟩ := yL g (Nat.le_refl _)
      rw [e4, ← e5, hfr]
    have hF1 : aF F0 A0 F (va_up A 20 (va_up (A 20) xx (nI (h + 1)))) := ⟨hF.1, fun j hj => (up_n (by omega)).trans (hF.2 j hj)⟩
    have hq1 : mAd c F (va_up A 20 (va_up (A 20) xx (nI (h + 1)))) q := mAd_c hq rfl rfl (fun j h4 h10 => up_n (by omega))
    have hh4 : h < 4 := by omega
    have T16 : T < 16 := by omega
    have cb := ch_b T T16 h hh4
    have m1 := hF.2 1 (by omega)
    have hp4 : 4 - h = 4 - (h + 1) + 1 := by omega
    have hbb : bb (4 - (h + 1) + 1) = b2 h := by rw [← hp4]; exact bb_b h hh4
    have yL1 : ∀ (q' : sQ), q.1 ≤ q'.1 → (∀ v, v < q.1 → q'.2.1 v = q.2.1 v) → yC c mm g fr tk (va_up ch g (chB T (h + 1))) co q' (va_up A 20 (va_up (A 20) xx (nI (h + 1)))) := by
      intro q' hn9 hJ9
      refine ⟨fun i hi => ?_, yD, yO, fun j hj i hij x9 f9 k1 k2 k3 k4 => ?_⟩
      · obtain ⟨x9, T9, h9, f9, e1, e2, e3, e4, e5, e6, e7, e8, e9, e10, e11⟩ := yL i hi
        by_cases ei : i = g
        · subst ei
          have ex : x9 = xx := (nI_eq (by omega) (by omega)).mp (e1.symm.trans hxx)
          subst ex
          have eT : T9 = T := (nI_eq (by omega) (by omega)).mp (e7.symm.trans a19)
          subst eT
          exact ⟨x9, T9, h + 1, f9, e1, e2, e3, e4, e5, by omega, e7, e8, up_s, by omega, up_s⟩
        · rw [up_n ei] at e11 ⊢
          exact ⟨x9, T9, h9, f9, e1, e2, e3, e4, e5, by omega, e7, e8, (up_n (hun i (by omega) x9 e1)).trans e9, e10, e11⟩
      · obtain ⟨h9, v1, v2, v3⟩ := yV j hj i hij x9 f9 k1 k2 k3 k4
        refine ⟨h9, v1, (up_n (hun i (by omega) x9 k1)).trans v2, ?_⟩
        obtain ⟨x8, T8, h8, f8, _, _, _, _, e5, e6, _⟩ := yL j hj
        have ef : f9 = f8 := (nI_eq k4 (by omega)).mp (k3.symm.trans e5)
        rw [hJ9 f9 (by omega)]
        exact v3
    refine z_aload_n (q := 42) rfl rfl rfl ?_
    refine z_getI (q := 45) rfl rfl rfl (Mo_k w) ?_
    rw [moF_g30]
    rw [h30]
    refine z_iconst (q := 46) (v := -1) rfl rfl rfl ?_
    refine z_ic_ne (q := 49) rfl rfl (fun h46 => ?_) (fun h46 => ?_)
    · exact absurd rfl h46
    · refine z_aload_n (q := 50) rfl rfl rfl ?_
      refine z_getR (q := 53) rfl rfl rfl (Mo_k w) (Mo_r33 w) ?_
      refine z_aload_n (q := 54) rfl rfl rfl ?_
      refine z_getI (q := 57) rfl rfl rfl (Mo_k w) ?_
      rw [moF_g37]
      rw [h37]
      refine z_iconst (q := 58) (v := 1) rfl rfl rfl ?_
      refine z_isub (q := 59) rfl rfl ?_
      rw [nI_pred]
      refine z_iald (q := 60) rfl rfl (Mo_a33 w) (vp_in_nI (by omega) (by omega)) ?_
      rw [moF_a33]
      try rw [nI_clamp (by omega)]
      rw [a17]
      refine z_istore_n (q := 61) (L2 := [_, _, _, _]) rfl rfl rfl rfl ?_
      refine z_aload_n (q := 62) rfl rfl rfl ?_
      refine z_getR (q := 65) rfl rfl rfl (Mo_k w) (Mo_r36 w) ?_
      refine z_iload_n (q := 66) rfl rfl rfl ?_
      refine z_dup2 (q := 67) rfl rfl rfl rfl ?_
      refine z_iald (q := 68) rfl rfl (Mo_a36 w) (vp_in_nI (by omega) (by omega)) ?_
      rw [moF_a36]
      try rw [nI_clamp (by omega)]
      rw [hh]
      refine z_iconst (q := 69) (v := 1) rfl rfl rfl ?_
      refine z_iadd (q := 70) rfl rfl ?_
      rw [nI_1]
      refine z_iast (q := 71) rfl rfl (Mo_a36 w) (vp_in_nI (by omega) (by omega)) ?_
      rw [moF_w36]
      try rw [nI_clamp (by omega)]
      refine z_aload_n (q := 72) rfl rfl rfl ?_
      refine z_getR (q := 75) rfl rfl rfl (Mo_k w) (Mo_r36 w) ?_
      refine z_iload_n (q := 76) rfl rfl rfl ?_
      refine z_iald (q := 77) rfl rfl (Mo_a36 w) (vp_in_nI (by omega) (by omega)) ?_
      rw [moF_a36]
      try rw [nI_clamp (by omega)]
      rw [show (va_up A 20 (va_up (A 20) xx (nI (h + 1)))) 20 xx = nI (h + 1) from up_s]
      refine z_iload_n (q := 78) rfl rfl rfl ?_
      refine z_ic_le (q := 81) rfl rfl (fun h78 => ?_) (fun h78 => ?_)
      · refine z_aload_n (q := 132) rfl rfl rfl ?_
        refine z_getR (q := 135) rfl rfl rfl (Mo_k w) (Mo_r35 w) ?_
        refine z_aload_n (q := 136) rfl rfl rfl ?_
        refine z_getI (q := 139) rfl rfl rfl (Mo_k w) ?_
        rw [moF_g37]
        rw [h37]
        refine z_iconst (q := 140) (v := 1) rfl rfl rfl ?_
        refine z_isub (q := 141) rfl rfl ?_
        rw [nI_pred]
        refine z_iald (q := 142) rfl rfl (Mo_a35 w) (vp_in_nI (by omega) (by omega)) ?_
        rw [moF_a35]
        try rw [nI_clamp (by omega)]
        rw [show (va_up A 20 (va_up (A 20) xx (nI (h + 1)))) 19 g = nI T from a19]
        refine z_aload_n (q := 143) rfl rfl rfl ?_
        refine z_getR (q := 146) rfl rfl rfl (Mo_k w) (Mo_r36 w) ?_
        refine z_iload_n (q := 147) rfl rfl rfl ?_
        refine z_iald (q := 148) rfl rfl (Mo_a36 w) (vp_in_nI (by omega) (by omega)) ?_
        rw [moF_a36]
        try rw [nI_clamp (by omega)]
        rw [show (va_up A 20 (va_up (A 20) xx (nI (h + 1)))) 20 xx = nI (h + 1) from up_s]
        refine z_iconst (q := 149) (v := 1) rfl rfl rfl ?_
        refine z_isub (q := 150) rfl rfl ?_
        refine z_cs2i (q := 153) rfl rfl rfl (s_Mo_has) ?_
        refine z_if_eq (q := 156) rfl rfl (fun h153 => ?_) (fun h153 => ?_)
        · refine z_goto rfl ?_
          have hzz : chB T h &&& b2 h = 0 := cb.mpr (bz_0.mp h153)
          have hstep : (paF (nI c) l t c f (nI xx) (P xx &&& (co (g + 1) ^^^ -1)) (4 - h) (-1) (chB T h) 3 q) = paF (nI c) l t c f (nI xx) (P xx &&& (co (g + 1) ^^^ -1)) (4 - (h + 1)) (-1) (chB T (h + 1)) 3 q := by
            rw [hp4, paF_s, if_pos rfl, if_pos rfl, hbb, if_pos hzz, ch_e T T16 h hh4 hzz]
          rw [hstep] at hk
          exact ih (h + 1) q F (va_up A 20 (va_up (A 20) xx (nI (h + 1)))) _ (by omega) hF1 hq1 h29 h30 h37 (yL1 q (Nat.le_refl _) (fun _ _ => rfl)) a19 up_s hI hW hN hfq hq0 hk
        · refine z_aload_n (q := 157) rfl rfl rfl ?_
          refine z_aload_n (q := 158) rfl rfl rfl ?_
          refine z_aload_n (q := 159) rfl rfl rfl ?_
          refine z_getR (q := 162) rfl rfl rfl (Mo_k w) (Mo_r36 w) ?_
          refine z_iload_n (q := 163) rfl rfl rfl ?_
          refine z_iald (q := 164) rfl rfl (Mo_a36 w) (vp_in_nI (by omega) (by omega)) ?_
          rw [moF_a36]
          try rw [nI_clamp (by omega)]
          rw [show (va_up A 20 (va_up (A 20) xx (nI (h + 1)))) 20 xx = nI (h + 1) from up_s]
          have hbit : ¬ chB T h &&& b2 h = 0 := fun g9 => cb.mp g9 (bz_n.mp h153)
          have gl := d_Mo_lets (sc := sc) (sa := sa) (d := d) (z := z) (A := (va_up A 20 (va_up (A 20) xx (nI (h + 1))))) (e := h) (x := xx) (f := f) (tk := tk) (co := co (g + 1)) (Pp := P xx) w hC ((congrFun m1 0).trans hs) ((hF.1 15 (by omega)).trans hl) ((hF.1 16 (by omega)).trans ht) h37 (by omega) (fun j hj => by
            obtain ⟨x9, T9, h9, f9, e1, e2, e3, _⟩ := yL j (by omega)
            exact e3.trans e1.symm) (yO (g + 1) (Nat.le_refl _)) xc hh4 ((congrFun m1 _).trans (hP xx xc)) hq1 hI hN h30 hfq a17 a18
          refine z_cv1qi (q := 167) rfl rfl rfl (Mo_k w) (gl) (fun x9 M9 h9 => ?_)
          obtain ⟨y9e, Fl, Al, rfl, zl, gl1, gl2⟩ := h9
          have hq2 := puQ_ok2 (s := nI c) (l := l) (t := t) (j := f) (i := xx) (x := b2 h) hI hfq xc hN
          obtain ⟨o1, o2, o3, o4, o5, o6⟩ := so_row (c := c) (s := nI c) (l := l) (t := t) (p := (P xx &&& (co (g + 1) ^^^ -1))) hh4 c 0 (puQ (nI c) l t f (nI xx) (b2 h) 3 q).1 (puQ (nI c) l t f (nI xx) (b2 h) 3 q).2.1 (puQ (nI c) l t f (nI xx) (b2 h) 3 q).2.2 (by omega) hC hq2.1 hq2.2.1 hq2.2.2
          have pw : qW c mm (puQ (nI c) l t f (nI xx) (b2 h) 3 q).2.2 := qW_pu hm hC hW hfq xc (b2_w mm hm h (by omega))
          have ow := so_w (c := c) (mm := mm) (s := nI c) (l := l) (t := t) (p := (P xx &&& (co (g + 1) ^^^ -1))) hm hh4 c 0 (puQ (nI c) l t f (nI xx) (b2 h) 3 q).1 (puQ (nI c) l t f (nI xx) (b2 h) 3 q).2.1 (puQ (nI c) l t f (nI xx) (b2 h) 3 q).2.2 (by omega) hC hq2.2.1 (by
            rcases hq2.2.2 with g9 | ⟨u9, g1, g2, _⟩
            · exact Or.inl g9
            · exact Or.inr ⟨u9, g1, g2⟩) pw
          have pn : q.1 ≤ (puQ (nI c) l t f (nI xx) (b2 h) 3 q).2.2.1 ∧ ∀ v, v < q.1 → (puQ (nI c) l t f (nI xx) (b2 h) 3 q).2.2.2.1 v = q.2.1 v := by
            by_cases g9 : q.1 < 200
            · rw [pu_y g9]
              exact ⟨Nat.le_succ _, fun v hv => up_n (Nat.ne_of_lt hv)⟩
            · rw [pu_n g9]
              exact ⟨Nat.le_refl _, fun _ _ => rfl⟩
          have hstep : (paF (nI c) l t c f (nI xx) (P xx &&& (co (g + 1) ^^^ -1)) (4 - h) (-1) (chB T h) 3 q) = (paF (nI c) l t c f (nI xx) (P xx &&& (co (g + 1) ^^^ -1)) (4 - (h + 1)) (soF (nI c) l t (P xx &&& (co (g + 1) ^^^ -1)) (b2 h) c 0 (puQ (nI c) l t f (nI xx) (b2 h) 3 q).1 (puQ (nI c) l t f (nI xx) (b2 h) 3 q).2.1 (puQ (nI c) l t f (nI xx) (b2 h) 3 q).2.2).1 (chB T (h + 1)) (soF (nI c) l t (P xx &&& (co (g + 1) ^^^ -1)) (b2 h) c 0 (puQ (nI c) l t f (nI xx) (b2 h) 3 q).1 (puQ (nI c) l t f (nI xx) (b2 h) 3 q).2.1 (puQ (nI c) l t f (nI xx) (b2 h) 3 q).2.2).2.1 (soF (nI c) l t (P xx &&& (co (g + 1) ^^^ -1)) (b2 h) c 0 (puQ (nI c) l t f (nI xx) (b2 h) 3 q).1 (puQ (nI c) l t f (nI xx) (b2 h) 3 q).2.1 (puQ (nI c) l t f (nI xx) (b2 h) 3 q).2.2).2.2) := by
            rw [hp4, paF_s, if_pos rfl, if_pos rfl, hbb, if_neg hbit, ch_s T T16 h hh4]
          rw [hstep] at hk
          have zA : aF F0 A0 Fl Al := ⟨fun k hk => (zl.1 k (by omega) (by omega) (by omega)).trans (hF1.1 k hk), fun j hj => (zl.2 j (by omega)).trans (hF1.2 j hj)⟩
          have z29 : Fl 29 = tb := (zl.1 29 (by omega) (by omega) (by omega)).trans h29
          have z37 : Fl 37 = nI (g + 1) := (zl.1 37 (by omega) (by omega) (by omega)).trans h37
          have zY : yC c mm g fr tk (va_up ch g (chB T (h + 1))) co (soF (nI c) l t (P xx &&& (co (g + 1) ^^^ -1)) (b2 h) c 0 (puQ (nI c) l t f (nI xx) (b2 h) 3 q).1 (puQ (nI c) l t f (nI xx) (b2 h) 3 q).2.1 (puQ (nI c) l t f (nI xx) (b2 h) 3 q).2.2).2.2 Al := by
            have g9 := yL1 (soF (nI c) l t (P xx &&& (co (g + 1) ^^^ -1)) (b2 h) c 0 (puQ (nI c) l t f (nI xx) (b2 h) 3 q).1 (puQ (nI c) l t f (nI xx) (b2 h) 3 q).2.1 (puQ (nI c) l t f (nI xx) (b2 h) 3 q).2.2).2.2 (Nat.le_trans pn.1 o3) (fun v hv => (o4 v (by have := pn.1; omega)).trans (pn.2 v hv))
            unfold yC at g9 ⊢
            rw [zl.2 17 (by omega), zl.2 18 (by omega), zl.2 19 (by omega), zl.2 20 (by omega)]
            exact g9
          rcases o6 with g9 | ⟨u1, u2, v1, v2, v3, v4, v5, v6⟩
          · rw [g9] at y9e hk
            subst y9e
            refine z_cv1v (q := 170) rfl rfl rfl (Mo_k w) (n_Mo_goesAhead w) ?_
            refine z_goto rfl ?_
            rcases o5 with g8 | g8
            · have o3' : (soF (nI c) l t (P xx &&& (co (g + 1) ^^^ -1)) (b2 h) c 0 (puQ (nI c) l t f (nI xx) (b2 h) 3 q).1 (puQ (nI c) l t f (nI xx) (b2 h) 3 q).2.1 (puQ (nI c) l t f (nI xx) (b2 h) 3 q).2.2).2.1 = 3 ∨ (soF (nI c) l t (P xx &&& (co (g + 1) ^^^ -1)) (b2 h) c 0 (puQ (nI c) l t f (nI xx) (b2 h) 3 q).1 (puQ (nI c) l t f (nI xx) (b2 h) 3 q).2.1 (puQ (nI c) l t f (nI xx) (b2 h) 3 q).2.2).2.1 = 2 := by
                rw [g8]
                by_cases g7 : q.1 < 200
                · rw [pu_y g7]; exact Or.inl rfl
                · rw [pu_n g7]; exact Or.inr rfl
              rcases o3' with g7 | g7
              · rw [g7] at hk gl2
                exact ih (h + 1) _ Fl Al _ (by omega) zA gl1 z29 gl2 z37 zY ((congrFun (zl.2 19 (by omega)) g).trans a19) ((congrFun (zl.2 20 (by omega)) xx).trans up_s) o1 ow o2 (by have := pn.1; omega) (by have := pn.1; omega) hk
              · rw [g7, paF_2 (by decide), yU_2] at hk
                rw [g7] at gl2
                exact hk Fl Al _ zA ⟨gl1, z29, gl2, fun h => absurd h (by decide), fun h => absurd h (by decide)⟩ ⟨o1, ow, o2, Or.inr (Or.inr (Or.inl rfl)), fun h => absurd h (by decide)⟩
            · rw [g8.2, paF_2 (by decide), yU_2] at hk
              rw [g8.2] at gl2
              exact hk Fl Al _ zA ⟨gl1, z29, gl2, fun h => absurd h (by decide), fun h => absurd h (by decide)⟩ ⟨o1, ow, o2, Or.inr (Or.inr (Or.inl rfl)), fun h => absurd h (by decide)⟩
          · rw [v4] at y9e
            subst y9e
            have hu31 : u2 < 2 ^ 31 := by omega
            rw [v5] at gl2
            rw [v4, v5, paF_x (nI_m1 hu31), yU_n hu31] at hk
            have hrow : ∀ i, i ≤ g → ∀ x9, tk i = nI x9 → x9 < 12 → ∃ h9, h9 < 4 ∧ Al 20 x9 = nI (h9 + 1) ∧ nmI ((soF (nI c) l t (P xx &&& (co (g + 1) ^^^ -1)) (b2 h) c 0 (puQ (nI c) l t f (nI xx) (b2 h) 3 q).1 (puQ (nI c) l t f (nI xx) (b2 h) 3 q).2.1 (puQ (nI c) l t f (nI xx) (b2 h) 3 q).2.2).2.2.2.1 u2) (nI x9) = b2 h9 := by
              intro i hi x9 k1 k2
              have hb9 : bi1 (P xx &&& (co (g + 1) ^^^ -1)) x9 = 0 := (bi_and x9 k2).mpr (Or.inr (fun g9 => (yO (g + 1) (Nat.le_refl _) x9 k2).mp g9 i (by omega) k1))
              have h200 : q.1 < 200 := Classical.byContradiction (fun g9 => by
                rw [pu_n g9] at v1
                exact nI_m1 (show u1 < 2 ^ 31 by have := hq2.2.1; omega) v1.symm)
              have eu : u1 = q.1 := by
                rw [pu_y h200] at v1
                exact (nI_eq (by have := hq2.2.1; omega) (by omega)).mp v1.symm
              have hput : nmI ((puQ (nI c) l t f (nI xx) (b2 h) 3 q).2.2.2.1 u1) (nI x9) = if x9 = xx then nI (2 ^ h) else nmI (q.2.1 f) (nI x9) := by
                rw [pu_y h200, eu]
                show nmI (va_up q.2.1 q.1 (wnI (q.2.1 f) (nI xx) (nI (2 ^ h))) q.1) (nI x9) = _
                rw [up_s, nm_wn (by omega) k2 (b2_l h hh4)]
              rw [v6 x9 k2 hb9, hput, zl.2 20 (by omega)]
              by_cases ei : i = g
              · have ex : x9 = xx := (nI_eq (by omega) (by omega)).mp (k1.symm.trans (by rw [ei]; exact hxx))
                subst ex
                refine ⟨h, hh4, up_s, ?_⟩
                rw [if_pos rfl]
                rfl
              · have hne9 := hun i (by omega) x9 k1
                rw [if_neg hne9]
                obtain ⟨h9, g1, g2, g3⟩ := yV g (Nat.le_refl _) i (by omega) x9 f k1 k2 hfr (by omega)
                exact ⟨h9, g1, (up_n hne9).trans g2, g3⟩
            have mm1 : Al 1 = A0 1 := zA.2 1 (by omega)
            refine z_cv1qv (q := 170) rfl rfl rfl (Mo_k w) (d_Mo_goesAhead (lv := lv) w hC ((congrFun mm1 0).trans hs) ((zA.1 15 (by omega)).trans hl) ((zA.1 16 (by omega)).trans ht) hm gl1 o1 ow z29 gl2 z37 hg zY v3 o2 hrow) (fun M8 h8 => ?_)
            obtain ⟨F8, A8, rfl, s8, r8⟩ := h8
            refine z_goto rfl ?_
            have hq9 : q.1 + 1 ≤ (soF (nI c) l t (P xx &&& (co (g + 1) ^^^ -1)) (b2 h) c 0 (puQ (nI c) l t f (nI xx) (b2 h) 3 q).1 (puQ (nI c) l t f (nI xx) (b2 h) 3 q).2.1 (puQ (nI c) l t f (nI xx) (b2 h) 3 q).2.2).2.2.1 := by
              have h200 : q.1 < 200 := Classical.byContradiction (fun g9 => by
                rw [pu_n g9] at v1
                exact nI_m1 (show u1 < 2 ^ 31 by have := hq2.2.1; omega) v1.symm)
              have p1 : (puQ (nI c) l t f (nI xx) (b2 h) 3 q).2.2.1 = q.1 + 1 := by rw [pu_y h200]; rfl
              omega
            exact hk F8 A8 _ ⟨fun k hk => (s8.1 k hk).trans (zA.1 k hk), fun j hj => (s8.2 j hj).trans (zA.2 j hj)⟩ r8 (yZ_T o1 ow o2 v3 (by omega))
      · exact absurd (nI_le (show h + 1 ≤ mm by omega) (by omega)) h78
