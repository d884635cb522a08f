-- a search's turns
theorem qI_isF {c : Nat} {s l t : Int32} {f : Nat} {p x : Int32} : ∀ k i (q : sQ), qI c q → f < q.1 → qI c (isF s l t f p x k i q).2 ∧ (isF s l t f p x k i q).2.1 = q.1 := by
  intro k
  induction k with
  | zero => intro i q h _; exact ⟨h, rfl⟩
  | succ k ih =>
    intro i q h hf
    rw [isF_s]
    by_cases c1 : bi1 p i = 0
    · rw [if_pos c1]; exact ih _ _ h hf
    · rw [if_neg c1]
      by_cases c2 : nmI (q.2.1 f) (nI i) = x
      · rw [if_pos c2]; exact ⟨qI_rd h hf, rfl⟩
      · rw [if_neg c2]
        exact ih _ _ (qI_rd h hf) hf
theorem pn_n {c : Nat} {s l t : Int32} {f e : Nat} {p : Int32} (he : e < c) : ∀ k a (q : sQ), qI c q → f < q.1 → q.1 ≤ 200 → qI c (pnF s l t f e p 3 k a q).2.2.2 ∧ ((pnF s l t f e p 3 k a q).2.1 ≤ a + k) ∧ (((pnF s l t f e p 3 k a q).1 = -1 ∧ (pnF s l t f e p 3 k a q).2.2.2.1 = q.1 ∧ ((pnF s l t f e p 3 k a q).2.2.1 = 3 ∨ (pnF s l t f e p 3 k a q).2.2.1 = 2)) ∨ ((pnF s l t f e p 3 k a q).1 = nI q.1 ∧ (pnF s l t f e p 3 k a q).2.2.2.1 = q.1 + 1 ∧ q.1 < 200 ∧ (pnF s l t f e p 3 k a q).2.2.1 = 3)) := by
  intro k
  induction k with
  | zero => intro a q h _ _; exact ⟨h, Nat.le_refl _, Or.inl ⟨rfl, rfl, Or.inl rfl⟩⟩
  | succ k ih =>
    intro a q h hf hN
    obtain ⟨i1, i2⟩ := qI_isF (s := s) (l := l) (t := t) (p := p) (x := nI (a + 1)) e 0 q h hf
    rw [pnF_s]
    by_cases c1 : (isF s l t f p (nI (a + 1)) e 0 q).1 = true
    · rw [if_pos c1]
      by_cases c2 : (isF s l t f p (nI (a + 1)) e 0 q).2.1 < 200
      · rw [pu_y c2]
        refine ⟨qI_set i1 (by rw [i2]; exact hf) he (by omega), by show a + 1 ≤ a + (k + 1); omega, Or.inr ⟨by show nI (isF s l t f p (nI (a + 1)) e 0 q).2.1 = nI q.1; rw [i2], by show (isF s l t f p (nI (a + 1)) e 0 q).2.1 + 1 = q.1 + 1; rw [i2], by rw [← i2]; exact c2, rfl⟩⟩
      · rw [pu_n c2]
        exact ⟨i1, by show a + 1 ≤ a + (k + 1); omega, Or.inl ⟨rfl, i2, Or.inr rfl⟩⟩
    · rw [if_neg c1]
      have g := ih (a + 1) _ i1 (by rw [i2]; exact hf) (by rw [i2]; exact hN)
      rw [i2] at g
      exact ⟨g.1, by have := g.2.1; omega, g.2.2⟩
def kO (x : kS) : Prop := x.1 = 0 ∨ x.1 = 1 ∨ x.1 = 2 ∨ x.1 = 3
def kM (x : kS) : Nat := 2 * (200 - x.2.2.2.2.2.2.1) + x.2.2.2.1
theorem kU_all {c : Nat} {s l t : Int32} {m : Nat} {P : Nat → Int32} {x : kS} (hm : m ≤ 20) (hK : kI c m x) (h3 : x.1 = 3) (hI : qI c x.2.2.2.2.2.2) : kO (kU c x (kN s l t m P x)) ∧ qI c (kU c x (kN s l t m P x)).2.2.2.2.2.2 ∧ ((kU c x (kN s l t m P x)).1 = 3 → kM (kU c x (kN s l t m P x)) < kM x) := by
  obtain ⟨oc, tb, lv, e, fr, tr, q⟩ := x
  obtain ⟨k1, k2, k3, k4, k5⟩ := hK
  have he : e < c := k4 h3
  obtain ⟨⟨f, f1, f2⟩, a, a1, a2⟩ := k5 e (Nat.le_refl _) he
  have e3 : oc = 3 := h3
  subst e3
  have hN : q.1 ≤ 200 := k1
  have f1' : f < q.1 := f1
  have f2' : fr e = nI f := f2
  have a2' : tr e = nI a := a2
  have g := pn_n (s := s) (l := l) (t := t) (p := P e) he (m - a) a q hI f1' hN
  have hkn : kN s l t m P (3, tb, lv, e, fr, tr, q) = pnF s l t f e (P e) 3 (m - a) a q := by
    unfold kN
    show pnF s l t (fr e).toNatClampNeg e (P e) 3 (m - (tr e).toNatClampNeg) (tr e).toNatClampNeg q = _
    rw [f2', a2', nI_clamp (by omega), nI_clamp (by omega)]
  rw [hkn]
  obtain ⟨g1, g2, g3⟩ := g
  generalize hr : pnF s l t f e (P e) 3 (m - a) a q = r at g1 g2 g3
  obtain ⟨r1, r2, r3, r4⟩ := r
  rcases g3 with ⟨u1, u2, u3⟩ | ⟨u1, u2, u4, u3⟩
  · have v1 : r1 = -1 := u1
    subst v1
    rcases u3 with u3 | u3
    · have v3 : r3 = 3 := u3
      subst v3
      by_cases e0 : e = 0
      · rw [ku_0 (x := ((3, tb, lv, e, fr, tr, q) : kS)) e0]
        exact ⟨Or.inl rfl, g1, fun h => absurd h (show ¬ (0 : Int32) = 3 by decide)⟩
      · rw [ku_1 (x := ((3, tb, lv, e, fr, tr, q) : kS)) e0]
        refine ⟨Or.inr (Or.inr (Or.inr rfl)), g1, fun _ => ?_⟩
        have u2' : r4.1 = q.1 := u2
        show 2 * (200 - r4.1) + (e - 1) < 2 * (200 - q.1) + e
        omega
    · have v3 : r3 = 2 := u3
      subst v3
      rw [ku_b]
      exact ⟨Or.inr (Or.inr (Or.inl rfl)), g1, fun h => absurd h (show ¬ (2 : Int32) = 3 by decide)⟩
  · have v1 : r1 = nI q.1 := u1
    have v3 : r3 = 3 := u3
    subst v1
    subst v3
    by_cases e0 : e + 1 = c
    · rw [ku_l (x := ((3, tb, lv, e, fr, tr, q) : kS)) (show q.1 < 2 ^ 31 by omega) e0]
      exact ⟨Or.inr (Or.inl rfl), g1, fun h => absurd h (show ¬ (1 : Int32) = 3 by decide)⟩
    · rw [ku_g (x := ((3, tb, lv, e, fr, tr, q) : kS)) (show q.1 < 2 ^ 31 by omega) e0]
      refine ⟨Or.inr (Or.inr (Or.inr rfl)), g1, fun _ => ?_⟩
      have u2' : r4.1 = q.1 + 1 := u2
      show 2 * (200 - r4.1) + (e + 1) < 2 * (200 - q.1) + e
      omega
theorem kG_n {c : Nat} {s l t : Int32} {m : Nat} {P : Nat → Int32} : ∀ (T : Nat) (x : kS), x.1 ≠ 3 → kG s l t c m P T x = x := by
  intro T x h
  cases T with
  | zero => rfl
  | succ T => rw [kG_s, if_neg h]
theorem kG_end {c : Nat} {s l t : Int32} {m : Nat} {P : Nat → Int32} (hm : m ≤ 20) : ∀ (T : Nat) (x : kS), kI c m x → qI c x.2.2.2.2.2.2 → kM x < T → (kG s l t c m P T x).1 ≠ 3 := by
  intro T
  induction T with
  | zero => intro x _ _ h; exact absurd h (Nat.not_lt_zero _)
  | succ T ih =>
    intro x hK hI h
    by_cases e : x.1 = 3
    · rw [kG_s, if_pos e]
      obtain ⟨g1, g2, g3⟩ := kU_all (s := s) (l := l) (t := t) (P := P) hm hK e hI
      have g4 := kU_ok (s := s) (l := l) (t := t) (P := P) hm hK e
      by_cases e2 : (kU c x (kN s l t m P x)).1 = 3
      · exact ih _ g4 g2 (by have := g3 e2; omega)
      · rw [kG_n T _ e2]; exact e2
    · rw [kG_n _ _ e]; exact e
theorem l_Mo_srch1 {sc : Option (Nat × Nat × (Nat → Int32))} {sa : Nat → Nat} {d : Nat} {M : mz_M} {z : Nat × Nat} {m : Nat} (w : g_Mo M.2.2 m) {c : Nat} {l t : Int32} (hC : c ≤ 12) {F0 : Nat → Int32} {A0 : Nat → Nat → Int32} (hs : A0 1 0 = nI c) (hl : F0 15 = l) (ht : F0 16 = t) {P : Nat → Int32} (hP : ∀ i, i < c → A0 1 (7 + i) = P i) {mm : Nat} (hm : mm ≤ 4) {Q : mz_P} {lw : Int32} {e f : Nat} (he : e < c) {tb lv : Int32} {fr tr : Nat → Int32} (hfr : fr e = nI f) {q0 : sQ} : ∀ (k a : Nat) (q : sQ) (F : Nat → Int32) (A : Nat → Nat → Int32), a + k = mm → sF F0 A0 F A → sR c ((3, tb, lv, e, fr, va_up tr e (nI a), q) : kS) F A → qI c q → q.1 ≤ 200 → f < q.1 → (∀ F' A' (y : Int32), sF F0 A0 F' A' → sR c (kU c ((3, tb, lv, e, fr, tr, q0) : kS) (pnF (nI c) l t f e (P e) 3 k a q)) F' A' → ((kU c ((3, tb, lv, e, fr, tr, q0) : kS) (pnF (nI c) l t f e (P e) 3 k a q)).1 = 3 → y = nI (kU c ((3, tb, lv, e, fr, tr, q0) : kS) (pnF (nI c) l t f e (P e) 3 k a q)).2.2.2.1) → zw sc sa (d + 6) ym_Mo_searches z Q 43 [.ref m, .int lw, .int (nI mm), .int y] [] (moF M m F' A') z) → zw sc sa (d + 6) ym_Mo_searches z Q 43 [.ref m, .int lw, .int (nI mm), .int (nI e)] [] (moF M m F A) z := by
  intro k
  induction k with
  | zero =>
    intro a q F A ha hF hR hI hN hfq hk
    have e1 : a = mm := by omega
    subst e1
    obtain ⟨hq, r29, r30, rA⟩ := id hR
    have r29' : F 29 = tb := r29
    have r30' : F 30 = -1 := r30
    obtain ⟨a16, a15x⟩ := rA e (Or.inl rfl) (Nat.le_refl _) he
    have a16' : A 16 e = nI f := a16.trans hfr
    have a15 : A 15 e = nI a := a15x.trans up_s
    have b2 := hI.2.1
    by_cases e0 : e = 0
    · have en : nI e - 1 = -1 := by rw [e0]; decide
      refine z_aload_n (q := 44) rfl rfl rfl ?_
      refine z_getI (q := 47) rfl rfl rfl (Mo_k w) ?_
      rw [moF_g30]
      rw [r30']
      refine z_iconst (q := 48) (v := -1) rfl rfl rfl ?_
      refine z_ic_ne (q := 51) rfl rfl (fun h48 => ?_) (fun h48 => ?_)
      · exact absurd rfl h48
      · refine z_aload_n (q := 52) rfl rfl rfl ?_
        refine z_getR (q := 55) rfl rfl rfl (Mo_k w) (Mo_r31 w) ?_
        refine z_iload_n (q := 56) rfl rfl rfl ?_
        refine z_dup2 (q := 57) rfl rfl rfl rfl ?_
        refine z_iald (q := 58) rfl rfl (Mo_a31 w) (vp_in_nI (by omega) (by omega)) ?_
        rw [moF_a31]
        try rw [nI_clamp (by omega)]
        rw [a15]
        refine z_iconst (q := 59) (v := 1) rfl rfl rfl ?_
        refine z_iadd (q := 60) rfl rfl ?_
        rw [nI_1]
        refine z_iast (q := 61) rfl rfl (Mo_a31 w) (vp_in_nI (by omega) (by omega)) ?_
        rw [moF_w31]
        try rw [nI_clamp (by omega)]
        refine z_aload_n (q := 62) rfl rfl rfl ?_
        refine z_getR (q := 65) rfl rfl rfl (Mo_k w) (Mo_r31 w) ?_
        refine z_iload_n (q := 66) rfl rfl rfl ?_
        refine z_iald (q := 67) rfl rfl (Mo_a31 w) (vp_in_nI (by omega) (by omega)) ?_
        rw [moF_a31]
        try rw [nI_clamp (by omega)]
        rw [show (va_up A 15 (va_up (A 15) e (nI (a + 1)))) 15 e = nI (a + 1) from up_s]
        refine z_iload_n (q := 68) rfl rfl rfl ?_
        refine z_ic_le (q := 71) rfl rfl (fun h68 => ?_) (fun h68 => ?_)
        · exact absurd h68 (nI_ge (by omega) (by omega))
        · refine z_iinc (q := 74) (L2 := [_, _, _, _]) rfl rfl rfl rfl ?_
          rw [i_dec]
          refine z_aload_n (q := 75) rfl rfl rfl ?_
          refine z_iload_n (q := 76) rfl rfl rfl ?_
          refine z_if_ge (q := 79) rfl rfl (fun h76 => ?_) (fun h76 => ?_)
          · rw [en] at h76
            exact absurd h76 (by decide)
          · refine z_iconst (q := 80) (v := 0) rfl rfl rfl ?_
            refine z_goto rfl ?_
            refine z_putI (q := 87) rfl rfl rfl (by decide) rfl rfl (Mo_k w) ?_
            rw [moF_u30]
            refine z_aload_n (q := 88) rfl rfl rfl ?_
            refine z_dup (q := 89) rfl rfl rfl ?_
            refine z_getI (q := 92) rfl rfl rfl (Mo_k w) ?_
            rw [moF_g29]
            refine z_iload_n (q := 93) rfl rfl rfl ?_
            refine z_if_ge (q := 96) rfl rfl (fun h93 => ?_) (fun h93 => ?_)
            · rw [en] at h93
              exact absurd h93 (by decide)
            · refine z_iconst (q := 97) (v := 0) rfl rfl rfl ?_
              refine z_goto rfl ?_
              refine z_iadd (q := 102) rfl rfl ?_
              refine z_putI (q := 105) rfl rfl rfl (by decide) rfl rfl (Mo_k w) ?_
              rw [moF_u29]
              refine z_goto rfl ?_
              refine hk _ _ _ ⟨fun k hk => (up_n (by omega)).trans ((up_n (by omega)).trans (hF.1 k hk)), fun j hj => (up_n (by omega)).trans (hF.2 j hj)⟩ ?_ ?_
              · rw [show pnF (nI c) l t f e (P e) 3 0 a q = (-1, a, 3, q) from rfl, ku_0 (x := ((3, tb, lv, e, fr, tr, q0) : kS)) e0]
                refine ⟨mAd_c hq rfl rfl (fun j h4 h10 => up_n (by omega)), ?_, rfl, fun i h => absurd h (show ¬ ((0 : Int32) = 3 ∨ (0 : Int32) = 1) by decide)⟩
                show va_up F 30 0 29 + 0 = tb
                rw [Int32.add_zero]
                exact r29'
              · rw [show pnF (nI c) l t f e (P e) 3 0 a q = (-1, a, 3, q) from rfl, ku_0 (x := ((3, tb, lv, e, fr, tr, q0) : kS)) e0]
                exact fun h => absurd h (show ¬ (0 : Int32) = 3 by decide)
    · have ep : nI e - 1 = nI (e - 1) := by
        have g := nI_pred (e - 1)
        rw [show e - 1 + 1 = e by omega] at g
        exact g
      refine z_aload_n (q := 44) rfl rfl rfl ?_
      refine z_getI (q := 47) rfl rfl rfl (Mo_k w) ?_
      rw [moF_g30]
      rw [r30']
      refine z_iconst (q := 48) (v := -1) rfl rfl rfl ?_
      refine z_ic_ne (q := 51) rfl rfl (fun h48 => ?_) (fun h48 => ?_)
      · exact absurd rfl h48
      · refine z_aload_n (q := 52) rfl rfl rfl ?_
        refine z_getR (q := 55) rfl rfl rfl (Mo_k w) (Mo_r31 w) ?_
        refine z_iload_n (q := 56) rfl rfl rfl ?_
        refine z_dup2 (q := 57) rfl rfl rfl rfl ?_
        refine z_iald (q := 58) rfl rfl (Mo_a31 w) (vp_in_nI (by omega) (by omega)) ?_
        rw [moF_a31]
        try rw [nI_clamp (by omega)]
        rw [a15]
        refine z_iconst (q := 59) (v := 1) rfl rfl rfl ?_
        refine z_iadd (q := 60) rfl rfl ?_
        rw [nI_1]
        refine z_iast (q := 61) rfl rfl (Mo_a31 w) (vp_in_nI (by omega) (by omega)) ?_
        rw [moF_w31]
        try rw [nI_clamp (by omega)]
        refine z_aload_n (q := 62) rfl rfl rfl ?_
        refine z_getR (q := 65) rfl rfl rfl (Mo_k w) (Mo_r31 w) ?_
        refine z_iload_n (q := 66) rfl rfl rfl ?_
        refine z_iald (q := 67) rfl rfl (Mo_a31 w) (vp_in_nI (by omega) (by omega)) ?_
        rw [moF_a31]
        try rw [nI_clamp (by omega)]
        rw [show (va_up A 15 (va_up (A 15) e (nI (a + 1)))) 15 e = nI (a + 1) from up_s]
        refine z_iload_n (q := 68) rfl rfl rfl ?_
        refine z_ic_le (q := 71) rfl rfl (fun h68 => ?_) (fun h68 => ?_)
        · exact absurd h68 (nI_ge (by omega) (by omega))
        · refine z_iinc (q := 74) (L2 := [_, _, _, _]) rfl rfl rfl rfl ?_
          rw [i_dec]
          refine z_aload_n (q := 75) rfl rfl rfl ?_
          refine z_iload_n (q := 76) rfl rfl rfl ?_
          refine z_if_ge (q := 79) rfl rfl (fun h76 => ?_) (fun h76 => ?_)
          · refine z_iconst (q := 84) (v := -1) rfl rfl rfl ?_
            refine z_putI (q := 87) rfl rfl rfl (by decide) rfl rfl (Mo_k w) ?_
            rw [moF_u30]
            refine z_aload_n (q := 88) rfl rfl rfl ?_
            refine z_dup (q := 89) rfl rfl rfl ?_
            refine z_getI (q := 92) rfl rfl rfl (Mo_k w) ?_
            rw [moF_g29]
            refine z_iload_n (q := 93) rfl rfl rfl ?_
            refine z_if_ge (q := 96) rfl rfl (fun h93 => ?_) (fun h93 => ?_)
            · refine z_iconst (q := 101) (v := 1) rfl rfl rfl ?_
              refine z_iadd (q := 102) rfl rfl ?_
              refine z_putI (q := 105) rfl rfl rfl (by decide) rfl rfl (Mo_k w) ?_
              rw [moF_u29]
              refine z_goto rfl ?_
              refine hk _ _ _ ⟨fun k hk => (up_n (by omega)).trans ((up_n (by omega)).trans (hF.1 k hk)), fun j hj => (up_n (by omega)).trans (hF.2 j hj)⟩ ?_ ?_
              · rw [show pnF (nI c) l t f e (P e) 3 0 a q = (-1, a, 3, q) from rfl, ku_1 (x := ((3, tb, lv, e, fr, tr, q0) : kS)) e0]
                refine ⟨mAd_c hq rfl rfl (fun j h4 h10 => up_n (by omega)), ?_, rfl, fun i _ hie hi => ?_⟩
                · show va_up F 30 (-1) 29 + 1 = tb + 1
                  rw [show va_up F 30 (-1) 29 = tb from r29']
                · have hie2 : i ≤ e - 1 := hie
                  have g5 := rA i (Or.inl rfl) (show i ≤ e by omega) hi
                  refine ⟨g5.1, ?_⟩
                  show va_up (A 15) e (nI (a + 1)) i = va_up tr e (nI a) i
                  rw [up_n (by omega)]
                  exact g5.2
              · rw [show pnF (nI c) l t f e (P e) 3 0 a q = (-1, a, 3, q) from rfl, ku_1 (x := ((3, tb, lv, e, fr, tr, q0) : kS)) e0]
                intro _
                exact ep
            · rw [ep] at h93
              exact absurd (nI_pos' (by omega)) h93
          · rw [ep] at h76
            exact absurd (nI_pos' (by omega)) h76
  | succ k ih =>
    intro a q F A ha hF hR hI hN hfq hk
    obtain ⟨hq, r29, r30, rA⟩ := id hR
    have r29' : F 29 = tb := r29
    have r30' : F 30 = -1 := r30
    obtain ⟨a16, a15x⟩ := rA e (Or.inl rfl) (Nat.le_refl _) he
    have a16' : A 16 e = nI f := a16.trans hfr
    have a15 : A 15 e = nI a := a15x.trans up_s
    have b2 := hI.2.1
    have hF1 : sF F0 A0 F (va_up A 15 (va_up (A 15) e (nI (a + 1)))) := ⟨hF.1, fun j hj => (up_n (by omega)).trans (hF.2 j hj)⟩
    have hq1 : mAd c F (va_up A 15 (va_up (A 15) e (nI (a + 1)))) q := mAd_c hq rfl rfl (fun j h4 h10 => up_n (by omega))
    have pz : (va_up A 15 (va_up (A 15) e (nI (a + 1)))) 1 (7 + e) = P e := (congrFun (hF.2 1 (by omega)) _).trans (hP e he)
    refine z_aload_n (q := 44) rfl rfl rfl ?_
    refine z_getI (q := 47) rfl rfl rfl (Mo_k w) ?_
    rw [moF_g30]
    rw [r30']
    refine z_iconst (q := 48) (v := -1) rfl rfl rfl ?_
    refine z_ic_ne (q := 51) rfl rfl (fun h48 => ?_) (fun h48 => ?_)
    · exact absurd rfl h48
    · refine z_aload_n (q := 52) rfl rfl rfl ?_
      refine z_getR (q := 55) rfl rfl rfl (Mo_k w) (Mo_r31 w) ?_
      refine z_iload_n (q := 56) rfl rfl rfl ?_
      refine z_dup2 (q := 57) rfl rfl rfl rfl ?_
      refine z_iald (q := 58) rfl rfl (Mo_a31 w) (vp_in_nI (by omega) (by omega)) ?_
      rw [moF_a31]
      try rw [nI_clamp (by omega)]
      rw [a15]
      refine z_iconst (q := 59) (v := 1) rfl rfl rfl ?_
      refine z_iadd (q := 60) rfl rfl ?_
      rw [nI_1]
      refine z_iast (q := 61) rfl rfl (Mo_a31 w) (vp_in_nI (by omega) (by omega)) ?_
      rw [moF_w31]
      try rw [nI_clamp (by omega)]
      refine z_aload_n (q := 62) rfl rfl rfl ?_
      refine z_getR (q := 65) rfl rfl rfl (Mo_k w) (Mo_r31 w) ?_
      refine z_iload_n (q := 66) rfl rfl rfl ?_
      refine z_iald (q := 67) rfl rfl (Mo_a31 w) (vp_in_nI (by omega) (by omega)) ?_
      rw [moF_a31]
      try rw [nI_clamp (by omega)]
      rw [show (va_up A 15 (va_up (A 15) e (nI (a + 1)))) 15 e = nI (a + 1) from up_s]
      refine z_iload_n (q := 68) rfl rfl rfl ?_
      refine z_ic_le (q := 71) rfl rfl (fun h68 => ?_) (fun h68 => ?_)
      · refine z_aload_n (q := 109) rfl rfl rfl ?_
        refine z_iload_n (q := 110) rfl rfl rfl ?_
        refine z_aload_n (q := 111) rfl rfl rfl ?_
        refine z_getR (q := 114) rfl rfl rfl (Mo_k w) (Mo_r31 w) ?_
        refine z_iload_n (q := 115) rfl rfl rfl ?_
        refine z_iald (q := 116) rfl rfl (Mo_a31 w) (by first | assumption | exact vp_in_nI (by omega) (by omega)) ?_
        rw [moF_a31]
        try rw [nI_clamp (by omega)]
        rw [show (va_up A 15 (va_up (A 15) e (nI (a + 1)))) 15 e = nI (a + 1) from up_s]
        refine z_cv2qi (q := 119) rfl rfl rfl (Mo_k w) (d_Mo_isNone (A := (va_up A 15 (va_up (A 15) e (nI (a + 1))))) w hC ((congrFun (hF.2 1 (by omega)) 0).trans hs) ((hF.1 15 (by omega)).trans hl) ((hF.1 16 (by omega)).trans ht) he (show (va_up A 15 (va_up (A 15) e (nI (a + 1)))) 16 e = nI f from a16') hq1 hI hfq) (fun x9 M9 h9 => ?_)
        obtain ⟨rfl, FF, AA, rfl, rr, gg⟩ := h9
        rw [pz] at gg ⊢
        refine z_if_ne (q := 122) rfl rfl (fun h119 => ?_) (fun h119 => ?_)
        · first
            | (have hyy : ¬ (isF (nI c) l t f (P e) (nI (a + 1)) e 0 q).1 = true := by
                 have g := bz_n.mp h119
                 rw [g]
                 decide
               obtain ⟨i1, i2⟩ := qI_isF (s := nI c) (l := l) (t := t) (p := P e) (x := nI (a + 1)) e 0 q hI hfq
               rw [pnF_s, if_neg hyy] at hk
               refine ih (a + 1) _ FF AA (by omega) (sF_f hF1 rr) ⟨gg, (rr.1 29 (by omega) (by omega)).trans r29', (rr.1 30 (by omega) (by omega)).trans r30', fun i _ hie hi => ?_⟩ i1 (by rw [i2]; exact hN) (by rw [i2]; exact hfq) hk
               rw [rr.2 16 (by omega), rr.2 15 (by omega)]
               have g5 := rA i (Or.inl rfl) hie hi
               refine ⟨g5.1, ?_⟩
               show va_up (A 15) e (nI (a + 1)) i = va_up tr e (nI (a + 1)) i
               by_cases ei : i = e
               · rw [ei, up_s, up_s]
               · rw [up_n ei, up_n ei]
                 exact g5.2.trans (up_n ei))
            | (rw [pnF_s, if_pos hzz] at hk
               have hku : kU c ((3, tb, lv, e, fr, va_up tr e (nI (a + 1)), (isF (nI c) l t f (P e) (nI (a + 1)) e 0 q).2) : kS) ((puQ (nI c) l t f (nI e) (nI (a + 1)) 3 (isF (nI c) l t f (P e) (nI (a + 1)) e 0 q).2).1, a + 1, (puQ (nI c) l t f (nI e) (nI (a + 1)) 3 (isF (nI c) l t f (P e) (nI (a + 1)) e 0 q).2).2) = kU c ((3, tb, lv, e, fr, tr, q0) : kS) ((puQ (nI c) l t f (nI e) (nI (a + 1)) 3 (isF (nI c) l t f (P e) (nI (a + 1)) e 0 q).2).1, a + 1, (puQ (nI c) l t f (nI e) (nI (a + 1)) 3 (isF (nI c) l t f (P e) (nI (a + 1)) e 0 q).2).2) := by
                 unfold kU
                 simp only [up_u]
               rw [hku] at tg yg
               refine hk Fg Ag _ ⟨fun k hk => (sg.1 k hk).trans ((rr.1 k (by omega) (by omega)).trans (hF.1 k hk)), fun j hj => (sg.2 j hj).trans ((rr.2 j (by omega)).trans (hF1.2 j hj))⟩ tg yg)
            | fail "none"
        · refine z_aload_n (q := 123) rfl rfl rfl ?_
          refine z_iload_n (q := 124) rfl rfl rfl ?_
          have hzz : (isF (nI c) l t f (P e) (nI (a + 1)) e 0 q).1 = true := by
            have g := bz_0.mp h119
            simpa using g
          obtain ⟨i1, i2⟩ := qI_isF (s := nI c) (l := l) (t := t) (p := P e) (x := nI (a + 1)) e 0 q hI hfq
          have hR1 : sR c ((3, tb, lv, e, fr, va_up tr e (nI (a + 1)), (isF (nI c) l t f (P e) (nI (a + 1)) e 0 q).2) : kS) FF AA := by
            refine ⟨gg, (rr.1 29 (by omega) (by omega)).trans r29', (rr.1 30 (by omega) (by omega)).trans r30', fun i _ hie hi => ?_⟩
            rw [rr.2 16 (by omega), rr.2 15 (by omega)]
            have g5 := rA i (Or.inl rfl) hie hi
            refine ⟨g5.1, ?_⟩
            show va_up (A 15) e (nI (a + 1)) i = va_up tr e (nI (a + 1)) i
            by_cases ei : i = e
            · rw [ei, up_s, up_s]
            · rw [up_n ei, up_n ei]
              exact g5.2.trans (up_n ei)
          have m1 : AA 1 = A0 1 := (rr.2 1 (by omega)).trans (hF.2 1 (by omega))
          refine z_cv1qi (q := 127) rfl rfl rfl (Mo_k w) (d_Mo_goesOn (y := a + 1) w hC ((congrFun m1 0).trans hs) ((rr.1 15 (by omega) (by omega)).trans ((hF.1 15 (by omega)).trans hl)) ((rr.1 16 (by omega) (by omega)).trans ((hF.1 16 (by omega)).trans ht)) he i1 (by rw [i2]; exact hN) hfr (by rw [i2]; exact hfq) (by omega) up_s hR1) (fun x9 M9 h9 => ?_)
          obtain ⟨Fg, Ag, rfl, sg, tg, yg⟩ := h9
          refine z_istore_n (q := 128) (L2 := [_, _, _, _]) rfl rfl rfl rfl ?_
          refine z_goto rfl ?_
          first
            | (have hyy : ¬ (isF (nI c) l t f (P e) (nI (a + 1)) e 0 q).1 = true := by
                 have g := bz_n.mp h119
                 rw [g]
                 decide
               obtain ⟨i1, i2⟩ := qI_isF (s := nI c) (l := l) (t := t) (p := P e) (x := nI (a + 1)) e 0 q hI hfq
               rw [pnF_s, if_neg hyy] at hk
               refine ih (a + 1) _ FF AA (by omega) (sF_f hF1 rr) ⟨gg, (rr.1 29 (by omega) (by omega)).trans r29', (rr.1 30 (by omega) (by omega)).trans r30', fun i _ hie hi => ?_⟩ i1 (by rw [i2]; exact hN) (by rw [i2]; exact hfq) hk
               rw [rr.2 16 (by omega), rr.2 15 (by omega)]
               have g5 := rA i (Or.inl rfl) hie hi
               refine ⟨g5.1, ?_⟩
               show va_up (A 15) e (nI (a + 1)) i = va_up tr e (nI (a + 1)) i
               by_cases ei : i = e
               · rw [ei, up_s, up_s]
               · rw [up_n ei, up_n ei]
                 exact g5.2.trans (up_n ei))
            | (rw [pnF_s, if_pos hzz] at hk
               have hku : kU c ((3, tb, lv, e, fr, va_up tr e (nI (a + 1)), (isF (nI c) l t f (P e) (nI (a + 1)) e 0 q).2) : kS) ((puQ (nI c) l t f (nI e) (nI (a + 1)) 3 (isF (nI c) l t f (P e) (nI (a + 1)) e 0 q).2).1, a + 1, (puQ (nI c) l t f (nI e) (nI (a + 1)) 3 (isF (nI c) l t f (P e) (nI (a + 1)) e 0 q).2).2) = kU c ((3, tb, lv, e, fr, tr, q0) : kS) ((puQ (nI c) l t f (nI e) (nI (a + 1)) 3 (isF (nI c) l t f (P e) (nI (a + 1)) e 0 q).2).1, a + 1, (puQ (nI c) l t f (nI e) (nI (a + 1)) 3 (isF (nI c) l t f (P e) (nI (a + 1)) e 0 q).2).2) := by
                 unfold kU
                 simp only [up_u]
               rw [hku] at tg yg
               refine hk Fg Ag _ ⟨fun k hk => (sg.1 k hk).trans ((rr.1 k (by omega) (by omega)).trans (hF.1 k hk)), fun j hj => (sg.2 j hj).trans ((rr.2 j (by omega)).trans (hF1.2 j hj))⟩ tg yg)
            | fail "none"
      · exact absurd (nI_le (show a + 1 ≤ mm by omega) (by omega)) h68
