theorem g_Sh_c {G G' : (Nat → Nat → Option Nat) × (Nat → Nat × Nat)} {b N : Nat} (h : ∀ a, b ≤ a → a ≤ b + 5 → G'.1 a = G.1 a ∧ G'.2 a = G.2 a) (w : g_Sh G b N) : g_Sh G' b N := by
  unfold g_Sh at w ⊢
  rw [(h b (by omega) (by omega)).1, (h b (by omega) (by omega)).2, (h (b + 1) (by omega) (by omega)).2, (h (b + 2) (by omega) (by omega)).2, (h (b + 3) (by omega) (by omega)).2, (h (b + 4) (by omega) (by omega)).2, (h (b + 5) (by omega) (by omega)).2]
  exact w
theorem g_St_c {G G' : (Nat → Nat → Option Nat) × (Nat → Nat × Nat)} {b : Nat} (h : ∀ a, b ≤ a → a ≤ b + 12 → G'.1 a = G.1 a ∧ G'.2 a = G.2 a) (w : g_St G b) : g_St G' b := by
  unfold g_St at w ⊢
  rw [(h b (by omega) (by omega)).1, (h b (by omega) (by omega)).2, (h (b + 7) (by omega) (by omega)).2, (h (b + 8) (by omega) (by omega)).2, (h (b + 9) (by omega) (by omega)).2, (h (b + 10) (by omega) (by omega)).2, (h (b + 11) (by omega) (by omega)).2, (h (b + 12) (by omega) (by omega)).2]
  exact ⟨w.1, w.2.1, g_Sh_c (fun a h1 h2 => h a (by omega) (by omega)) w.2.2.1, w.2.2.2⟩
theorem g_Pa_c {G G' : (Nat → Nat → Option Nat) × (Nat → Nat × Nat)} {b : Nat} (h : ∀ a, b ≤ a → a ≤ b + 11 → G'.1 a = G.1 a ∧ G'.2 a = G.2 a) (w : g_Pa G b) : g_Pa G' b := by
  unfold g_Pa at w ⊢
  rw [(h b (by omega) (by omega)).1, (h b (by omega) (by omega)).2, (h (b + 7) (by omega) (by omega)).2, (h (b + 8) (by omega) (by omega)).2, (h (b + 9) (by omega) (by omega)).2, (h (b + 10) (by omega) (by omega)).2, (h (b + 11) (by omega) (by omega)).2]
  exact ⟨w.1, w.2.1, g_Sh_c (fun a h1 h2 => h a (by omega) (by omega)) w.2.2.1, w.2.2.2⟩
theorem g_Ta_c {G G' : (Nat → Nat → Option Nat) × (Nat → Nat × Nat)} {b : Nat} (h : ∀ a, b ≤ a → a ≤ b + 1 → G'.1 a = G.1 a ∧ G'.2 a = G.2 a) (w : g_Ta G b) : g_Ta G' b := by
  unfold g_Ta at w ⊢
  rw [(h b (by omega) (by omega)).1, (h b (by omega) (by omega)).2, (h (b + 1) (by omega) (by omega)).2]
  exact w
theorem g_X_g {G G' : (Nat → Nat → Option Nat) × (Nat → Nat × Nat)} {x p r p' r' : Nat} (w : g_X G x p r) (h : ∀ a, x < a → a ≤ x + 86 → G'.1 a = G.1 a ∧ G'.2 a = G.2 a) (h0 : G'.2 x = G.2 x) (k0 : ∀ j, j < 4 → G'.1 x j = G.1 x j) (k4 : G'.1 x 4 = some p') (k5 : G'.1 x 5 = some r') (pq : (p' = p ∧ r' = r) ∨ (p' = r ∧ r' = p)) : g_X G' x p' r' := by
  obtain ⟨w1, w2, w3, w4, w5, w6, w7, w8, w9, w10, w11, w12, w13, w14, w15⟩ := w
  have hs : ∀ s, x + 22 ≤ s → s ≤ x + 74 → g_St G s → g_St G' s := fun s s1 s2 => g_St_c (fun a h1 h2 => h a (by omega) (by omega))
  have hp : g_St G' p := hs p (by omega) (by omega) w11
  have hr : g_St G' r := hs r (by omega) (by omega) w13
  refine ⟨h0.trans w1, (k0 0 (by omega)).trans w2, g_Ta_c (fun a h1 h2 => h a (by omega) (by omega)) w3, (k0 1 (by omega)).trans w4, (h _ (by omega) (by omega)).2.trans w5, (k0 2 (by omega)).trans w6, g_Sh_c (fun a h1 h2 => h a (by omega) (by omega)) w7, (k0 3 (by omega)).trans w8, g_Pa_c (fun a h1 h2 => h a (by omega) (by omega)) w9, k4, ?_, k5, ?_, fun k hk => ?_, ?_⟩
  · rcases pq with e | e
    · rw [e.1]; exact hp
    · rw [e.1]; exact hr
  · rcases pq with e | e
    · rw [e.2]; exact hr
    · rw [e.2]; exact hp
  · refine ⟨?_, hs _ (by omega) (by omega) (w14 k hk).2⟩
    rw [(h _ (by omega) (by omega)).1]
    exact (w14 k hk).1
  · omega
theorem g_X_c {G G' : (Nat → Nat → Option Nat) × (Nat → Nat × Nat)} {x p r : Nat} (w : g_X G x p r) (h : ∀ a, x ≤ a → a ≤ x + 86 → G'.1 a = G.1 a ∧ G'.2 a = G.2 a) : g_X G' x p r := g_X_g w (fun a h1 h2 => h a (by omega) h2) (h x (by omega) (by omega)).2 (fun j _ => by rw [(h x (by omega) (by omega)).1]) (by rw [(h x (by omega) (by omega)).1]; exact w.2.2.2.2.2.2.2.2.2.1) (by rw [(h x (by omega) (by omega)).1]; exact w.2.2.2.2.2.2.2.2.2.2.2.1) (Or.inl ⟨rfl, rfl⟩)
theorem taP_eta {M : mz_M} {tp : Nat} : taP M tp (M.1 (tp + 1)) (M.1 tp 1) (M.1 tp 2) (M.1 tp 3) (M.1 tp 4) (M.1 tp 5) (M.1 tp 6) (M.1 tp 7) (M.1 tp 8) (M.1 tp 9) (M.1 tp 10) (M.1 tp 11) = M := by
  unfold taP
  refine Prod.ext (funext fun a => ?_) rfl
  dsimp only
  split
  · rename_i e
    subst e
    funext k
    unfold taF
    split <;> rfl
  · split
    · rename_i e
      rw [e]
    · rfl
theorem iV_t {x T T' p r : Nat} {M M2 : mz_M} (h : iV x T p r M) (w' : g_X M2.2.2 x p r) (wm' : g_Mo M2.2.2 (x + 87)) (hT : iT x T' M2) (hA : ∀ a, x + 4 ≤ a → a ≤ x + 86 → (a < r ∨ r + 13 ≤ a) → M2.1 a = M.1 a ∧ M2.2.1 a = M.2.1 a) (h1 : ∀ j, j < 259 → M2.1 (x + 87 + 1) j = M.1 (x + 87 + 1) j) (h13 : M2.1 (x + 87 + 13) = M.1 (x + 87 + 13)) (h14 : M2.1 (x + 87 + 14) = M.1 (x + 87 + 14)) : iV x T' p r M2 := by
  obtain ⟨w, wm, a1, a2, a3, a4⟩ := h
  have pq := X_pq w
  refine ⟨w', wm', hT, fun i => ?_, iS_cg a3 (fun a g1 g2 => hA a (by omega) (by omega) (by omega)) h1, fun k hk => iK_cg hk (a4 k hk) (fun a g1 g2 => hA a (by omega) (by omega) (by omega)) (fun j _ => by rw [h13]) (by rw [h14])⟩
  obtain ⟨c, c1, c2⟩ := a2 i
  exact ⟨c, c1, by rw [(hA _ (by omega) (by omega) (by omega)).1]; exact c2⟩
theorem bt_lt {sg : Nat → Int32} {T i : Nat} (h : i < T) : bt sg T i = sg i &&& 255 := if_pos h
theorem c_end {sc : Option (Nat × Nat × (Nat → Int32))} {sa : Nat → Nat} {d : Nat} {z : Nat × Nat} {x T p r : Nat} {M : mz_M} (h : iV x T p r M) {a : Int32} : tw sc sa (d + 16) 105 173 [.ref x, .int a] [.ref (x + 87), .int a] M z (fun M2 => ∃ p r, iV x (if ¬ a < 0 ∧ a ≤ nI T then a.toNatClampNeg else T) p r M2) := by
  obtain ⟨w, wm, ⟨t1, t2, t3, t4, t5, t6⟩, -⟩ := id h
  have et : taP M (x + 1) (M.1 (x + 1 + 1)) (M.1 (x + 1) 1) (M.1 (x + 1) 2) (M.1 (x + 1) 3) (M.1 (x + 1) 4) (nI T) (M.1 (x + 1) 6) (M.1 (x + 1) 7) (M.1 (x + 1) 8) (M.1 (x + 1) 9) (M.1 (x + 1) 10) (M.1 (x + 1) 11) = M := by
    rw [← t2]
    exact taP_eta
  by_cases g : ¬ a < 0 ∧ a ≤ nI T
  · obtain ⟨k, hk, rfl⟩ := nI_of2 (n := T) (nI_toInt (by omega)) g.1 g.2
    rw [if_pos g, nI_clamp (show k < 2 ^ 31 by omega)]
    have hx := q_X_end (sc := sc) (sa := sa) (d := d + 15) (z := z) (M := M) (sg := M.1 (x + 1 + 1)) (e1 := M.1 (x + 1) 1) (e2 := M.1 (x + 1) 2) (e3 := M.1 (x + 1) 3) (e4 := M.1 (x + 1) 4) (e6 := M.1 (x + 1) 6) (e7 := M.1 (x + 1) 7) (e8 := M.1 (x + 1) 8) (e9 := M.1 (x + 1) 9) (e10 := M.1 (x + 1) 10) (e11 := M.1 (x + 1) 11) w t1 hk
    rw [et] at hx
    refine zi_x hx ⟨rfl, ?_⟩
    have ho : ∀ y, ¬ y = x + 1 → ¬ y = x + 1 + 1 → (taP M (x + 1) (M.1 (x + 1 + 1)) (M.1 (x + 1) 1) (M.1 (x + 1) 2) (M.1 (x + 1) 3) (M.1 (x + 1) 4) (nI k) (M.1 (x + 1) 6) (M.1 (x + 1) 7) (M.1 (x + 1) 8) (M.1 (x + 1) 9) (M.1 (x + 1) 10) (M.1 (x + 1) 11)).1 y = M.1 y := fun y h1 h2 => taP_o h1 h2
    have em := moF_e2 (m := x + 87) (ho _ (by omega) (by omega)) (A := fun j => M.1 (x + 87 + j)) (fun j _ _ => ho _ (by omega) (by omega))
    have hm := q_Mo_end (sc := sc) (sa := sa) (d := d + 14) (z := z) (M := taP M (x + 1) (M.1 (x + 1 + 1)) (M.1 (x + 1) 1) (M.1 (x + 1) 2) (M.1 (x + 1) 3) (M.1 (x + 1) 4) (nI k) (M.1 (x + 1) 6) (M.1 (x + 1) 7) (M.1 (x + 1) 8) (M.1 (x + 1) 9) (M.1 (x + 1) 10) (M.1 (x + 1) 11)) (m := x + 87) wm (F := M.1 (x + 87)) (A := fun j => M.1 (x + 87 + j)) t3 t1 (a := nI k)
    rw [em] at hm
    refine zi_m (fun v' M2 g9 => ?_) hm
    obtain ⟨g1, rfl⟩ := g9.1 g
    refine ⟨g1, p, r, iV_t h w wm ?_ (fun y y1 y2 _ => ⟨(moF_o (by omega)).trans (ho _ (by omega) (by omega)), rfl⟩) (fun j _ => by rw [moF_a (by omega) (by omega)]) (moF_a (by omega) (by omega)) (moF_a (by omega) (by omega))⟩
    refine ⟨by omega, ?_, ?_, fun i hi => ?_, ?_, ?_⟩
    · rw [moF_o (by omega)]
      exact taP_g5
    · rw [moF_g, up_s]
    · rw [moF_a (by omega) (by omega), moF_o (by omega), taP_a0, bt_lt hi]
      have := t4 i (by omega)
      rw [bt_lt (by omega)] at this
      exact this
    · rw [moF_o (by omega), taP_g10, moF_g, up_n (by omega)]
      exact t5
    · rw [moF_o (by omega), taP_g11, moF_g, up_n (by omega)]
      exact t6
  · rw [if_neg g]
    have hx := n_X_end (sc := sc) (sa := sa) (d := d + 15) (z := z) (M := M) (sg := M.1 (x + 1 + 1)) (e1 := M.1 (x + 1) 1) (e2 := M.1 (x + 1) 2) (e3 := M.1 (x + 1) 3) (e4 := M.1 (x + 1) 4) (e6 := M.1 (x + 1) 6) (e7 := M.1 (x + 1) 7) (e8 := M.1 (x + 1) 8) (e9 := M.1 (x + 1) 9) (e10 := M.1 (x + 1) 10) (e11 := M.1 (x + 1) 11) w t1 (a := a) (by
      by_cases g2 : a < 0
      · exact Or.inl g2
      · exact Or.inr (fun g3 => g ⟨g2, g3⟩))
    rw [et] at hx
    refine tw_q h hx (fun M1 w1 => ?_)
    refine zi_m (fun v' M2 g9 => ?_) (q_Mo_end w1 t3 t1)
    obtain ⟨g1, g2⟩ := g9.2 g
    exact ⟨g1, _, _, g2, mPe_r⟩
