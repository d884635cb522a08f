theorem stQ_oJ {M : mz_M} {st : Nat} {pr ln td de : Int32} {pa ks os ts hs cs : Nat → Int32} {s l t : Int32} {q : sQ} {a : Nat} (h : a < st ∨ st + 13 ≤ a) : (stQ M st pr ln td de pa ks os ts hs cs s l t q).2.1 a = M.2.1 a := shP_oJ (by omega)
theorem oN_o {M : mz_M} {tp st : Nat} {sg : Nat → Int32} {y : oS} {a : Nat} (h1 : ¬ a = tp) (h2 : ¬ a = tp + 1) (h3 : a < st ∨ st + 13 ≤ a) : (oN M tp st sg y).1 a = M.1 a ∧ (oN M tp st sg y).2.1 a = M.2.1 a := by
  unfold oN
  exact ⟨(taP_o h1 h2).trans (stQ_o h3), stQ_oJ (s := 0) (l := 0) (t := 0) h3⟩
theorem oN_s {M : mz_M} {tp st : Nat} (hf : tp + 1 < st) {sg : Nat → Int32} {y : oS} : sV (oN M tp st sg y) st y.2.2.1.1 (nI y.2.2.1.2.1) y.2.2.1.2.2.1 (nI y.2.2.1.2.2.2) y.2.2.2.1.1 y.2.2.2.1.2.1 y.2.2.2.1.2.2.1 y.2.2.2.1.2.2.2.1 y.2.2.2.1.2.2.2.2.1 y.2.2.2.1.2.2.2.2.2 (nI y.2.2.2.2.1.1) y.2.2.2.2.1.2.1 y.2.2.2.2.1.2.2 y.2.2.2.2.2 := sV_cg sV_st (fun a h1 h2 => ⟨taP_o (by omega) (by omega), rfl⟩)
theorem oN_T {M : mz_M} {x r : Nat} {sg : Nat → Int32} {y : oS} {M1 M2 : mz_M} {F2 : Nat → Int32} {A2 : Nat → Nat → Int32} (e : M1.1 = (oN M (x + 1) r sg y).1) (e2 : M2 = moF M1 (x + 87) F2 A2) (f : F2 3 = 0 ∧ F2 4 = y.1.2.2.2.2.1 ∧ F2 5 = y.1.2.2.2.2.2) : iT x 0 M2 := by
  subst e2
  refine ⟨by omega, ?_, ?_, fun i hi => absurd hi (by omega), ?_, ?_⟩
  · rw [moF_o (by omega), e, nI_0]
    exact taP_g5
  · rw [moF_g, f.1, nI_0]
  · rw [moF_o (by omega), e, moF_g, f.2.1]
    exact taP_g10
  · rw [moF_o (by omega), e, moF_g, f.2.2]
    exact taP_g11
theorem iW_o {T : Nat} {Y : oS} {B : Nat → Int32} (h : oV T Y) (h5 : Y.2.2.1.2.1 ≤ 500) (hB : oB Y B) : iW Y.2.2.2.2.1.1 Y.2.2.2.2.1.2.1 Y.2.2.2.2.1.2.2 Y.2.2.1.1 Y.2.2.1.2.1 Y.2.2.1.2.2.2 Y.2.2.1.2.2.2 Y.2.2.2.1.1 Y.2.2.2.1.2.1 Y.2.2.2.1.2.2.1 Y.2.2.2.1.2.2.2.1 Y.2.2.2.1.2.2.2.2.1 Y.2.2.2.1.2.2.2.2.2 Y.2.2.2.2.2 B := by
  obtain ⟨-, -, -, h3, h4⟩ := h
  rcases h4 with ⟨k1, k2, k3, k4, k5, k6, -⟩ | ⟨k1, k2, k3, k4, k5, k6, k7⟩
  · refine ⟨⟨by omega, by omega, h5, h3, Nat.le_refl _, by omega⟩, ?_, Or.inl ⟨k2, k1, k5, k6⟩⟩
    rw [Nat.sub_self]
    exact hB
  · refine ⟨⟨k3, by omega, h5, h3, Nat.le_refl _, by omega⟩, ?_, Or.inr ⟨k2, k1, k4, k5, k7⟩⟩
    rw [Nat.sub_self]
    exact hB
theorem c_store {sc : Option (Nat × Nat × (Nat → Int32))} {sa : Nat → Nat} {d : Nat} {z : Nat × Nat} {x T p r : Nat} {M : mz_M} (h : iV x T p r M) : tw sc sa (d + 16) 106 215 [.ref x] [.ref (x + 87)] M z (fun M2 => ∃ p r, iV x (0) p r M2) := by
  obtain ⟨w, wm, ⟨t1, t2, t3, t4, t5, t6⟩, tk1, hS0, hK⟩ := id h
  have pq := X_pq w
  have et : taP M (x + 1) (M.1 (x + 1 + 1)) (M.1 (x + 1) 1) (M.1 (x + 1) 2) (M.1 (x + 1) 3) (M.1 (x + 1) 4) (nI T) (M.1 (x + 1) 6) (M.1 (x + 1) 7) (M.1 (x + 1) 8) (M.1 (x + 1) 9) (M.1 (x + 1) 10) (M.1 (x + 1) 11) = M := by
    rw [← t2]
    exact taP_eta
  obtain ⟨n9, hn9⟩ := nI_all (M.1 (r + 1) 8)
  have es := stQ_eta hn9
  have hx := q_X_store (sc := sc) (sa := sa) (d := d + 6) (z := z) (M := M) (T := T) (sg := M.1 (x + 1 + 1)) (e2 := M.1 (x + 1) 2) (e3 := M.1 (x + 1) 3) (e10 := M.1 (x + 1) 10) (e11 := M.1 (x + 1) 11) (pr := M.1 r 7) (ln := M.1 r 8) (td := M.1 r 9) (de := M.1 r 10) (s := M.1 (r + 1) 5) (l := M.1 (r + 1) 6) (t := M.1 (r + 1) 7) (e1 := M.1 (x + 1) 1) (e4 := M.1 (x + 1) 4) (e6 := M.1 (x + 1) 6) (e7 := M.1 (x + 1) 7) (e8 := M.1 (x + 1) 8) (e9 := M.1 (x + 1) 9) (pa := M.1 (r + 7)) (ks := M.1 (r + 8)) (os := M.1 (r + 9)) (ts := M.1 (r + 10)) (hs := M.1 (r + 11)) (cs := M.1 (r + 12)) (q := qM M (r + 1) n9) w t1
  have hm := fun (M1 : mz_M) (w1 : g_Mo M1.2.2 (x + 87)) => q_Mo_store (sc := sc) (sa := sa) (d := d + 4) (z := z) w1 (F := M.1 (x + 87)) (A := fun j => M.1 (x + 87 + j)) (T := T) (sg := M.1 (x + 1 + 1)) (e1 := M.1 (x + 1) 1) (e4 := M.1 (x + 1) 4) (e6 := M.1 (x + 1) 6) (e7 := M.1 (x + 1) 7) (e8 := M.1 (x + 1) 8) (e9 := M.1 (x + 1) 9) (pa := M.1 (r + 7)) (ks := M.1 (r + 8)) (os := M.1 (r + 9)) (ts := M.1 (r + 10)) (hs := M.1 (r + 11)) (cs := M.1 (r + 12)) (q := qM M (r + 1) n9) t1 t3 t4
  rw [et, es] at hx
  generalize oF (M.1 (x + 1 + 1)) T 500 (o0 (M.1 (x + 1 + 1)) T (M.1 (x + 1) 1) (M.1 (x + 1) 4) (M.1 (x + 1) 6) (M.1 (x + 1) 7) (M.1 (x + 1) 8) (M.1 (x + 1) 9) (M.1 (r + 7)) (M.1 (r + 8)) (M.1 (r + 9)) (M.1 (r + 10)) (M.1 (r + 11)) (M.1 (r + 12)) (qM M (r + 1) n9)) = Y at hx hm
  refine zi_m (fun v M1 g => ?_) hx
  have bo := fun a (h1 : ¬ a = x + 1) (h2 : ¬ a = x + 1 + 1) (h3 : a < r ∨ r + 13 ≤ a) => oN_o (M := M) (tp := x + 1) (st := r) (sg := M.1 (x + 1 + 1)) (y := Y) h1 h2 h3
  by_cases gf : Y.1.2.2.2.2.1 = 0
  · obtain ⟨rfl, rfl⟩ := g.2 gf
    have em : moF (swM (oN M (x + 1) r (M.1 (x + 1 + 1)) Y) x p r) (x + 87) (M.1 (x + 87)) (fun j => M.1 (x + 87 + j)) = swM (oN M (x + 1) r (M.1 (x + 1 + 1)) Y) x p r := moF_e2 (bo _ (by omega) (by omega) (by omega)).1 (fun j _ _ => (bo _ (by omega) (by omega) (by omega)).1)
    have r1 : ∀ a, ¬ a = x → (swM (oN M (x + 1) r (M.1 (x + 1 + 1)) Y) x p r).2.2.1 a = M.2.2.1 a := fun a ha => by
      show va_up (va_up M.2.2.1 x _) x _ a = _
      rw [up_n ha, up_n ha]
    have r2 : ∀ j, (swM (oN M (x + 1) r (M.1 (x + 1 + 1)) Y) x p r).2.2.1 x j = va_up (va_up (M.2.2.1 x) 5 (some p)) 4 (some r) j := fun j => by
      show va_up (va_up M.2.2.1 x _) x _ x j = _
      rw [up_s]
      show va_up (va_up M.2.2.1 x (va_up (M.2.2.1 x) 5 (some p)) x) 4 (some r) j = _
      rw [up_s]
    have wm1 : g_Mo (swM (oN M (x + 1) r (M.1 (x + 1 + 1)) Y) x p r).2.2 (x + 87) := g_Mo_c (r1 _ (by omega)) (fun j _ => rfl) wm
    have w1 : g_X (swM (oN M (x + 1) r (M.1 (x + 1 + 1)) Y) x p r).2.2 x r p := g_X_g w (fun a h1 h2 => ⟨r1 a (by omega), rfl⟩) rfl (fun j hj => by rw [r2, up_n (by omega), up_n (by omega)]) (by rw [r2, up_s]) (by rw [r2, up_n (by omega), up_s]) (Or.inr ⟨rfl, rfl⟩)
    have hm2 := hm _ wm1
    rw [em] at hm2
    refine ⟨rfl, zi_m (fun v' M2 g9 => ?_) hm2⟩
    obtain ⟨F2, A2, rfl, f1, f2, f3, f4⟩ := g9
    obtain ⟨y1, y2, y3, y4⟩ := f4 gf
    refine ⟨y1, r, p, w1, wm1, oN_T (M := M) (r := r) (sg := M.1 (x + 1 + 1)) (M1 := swM (oN M (x + 1) r (M.1 (x + 1 + 1)) Y) x p r) rfl rfl f1, fun i => ?_, ?_, fun k hk => ?_⟩
    · obtain ⟨c, c1, c2⟩ := tk1 i
      exact ⟨c, c1, by rw [moF_o (by omega)]; exact (congrFun (bo _ (by omega) (by omega) (by omega)).1 i).trans c2⟩
    · rw [moF_a (by omega) (by omega)]
      have hs : sV (moF (swM (oN M (x + 1) r (M.1 (x + 1 + 1)) Y) x p r) (x + 87) F2 A2) r _ _ _ _ _ _ _ _ _ _ _ _ _ _ := sV_cg (oN_s (M := M) (tp := x + 1) (st := r) (sg := M.1 (x + 1 + 1)) (y := Y) (by omega)) (fun a h1 h2 => ⟨moF_o (by omega), rfl⟩)
      rw [y3.2.2.1] at hs
      exact ⟨_, _, _, _, _, _, _, _, _, _, _, _, _, _, hs, iW_o y3 y4 y2⟩
    · exact iK_cg hk (hK k hk) (fun a h1 h2 => ⟨(moF_o (by omega)).trans (bo _ (by omega) (by omega) (by omega)).1, (bo _ (by omega) (by omega) (by omega)).2⟩) (fun j _ => by rw [moF_a (by omega) (by omega), f2.2.1]) (by rw [moF_a (by omega) (by omega), f2.2.2])
  · obtain ⟨rfl, rfl⟩ := g.1 gf
    have em : moF (oN M (x + 1) r (M.1 (x + 1 + 1)) Y) (x + 87) (M.1 (x + 87)) (fun j => M.1 (x + 87 + j)) = oN M (x + 1) r (M.1 (x + 1 + 1)) Y := moF_e2 (bo _ (by omega) (by omega) (by omega)).1 (fun j _ _ => (bo _ (by omega) (by omega) (by omega)).1)
    have hm2 := hm (oN M (x + 1) r (M.1 (x + 1 + 1)) Y) wm
    rw [em] at hm2
    refine ⟨rfl, zi_m (fun v' M2 g9 => ?_) hm2⟩
    obtain ⟨F2, A2, rfl, f1, f2, f3, f4⟩ := g9
    obtain ⟨y1, y2⟩ := f3 gf
    exact ⟨y1, p, r, iV_t h w wm (oN_T rfl rfl f1) (fun a h1 h2 h3 => ⟨(moF_o (by omega)).trans (bo _ (by omega) (by omega) h3).1, (bo _ (by omega) (by omega) h3).2⟩) (fun j hj => by rw [moF_a (by omega) (by omega)]; exact y2 j hj) (by rw [moF_a (by omega) (by omega)]; exact f2.2.1) (by rw [moF_a (by omega) (by omega)]; exact f2.2.2)⟩
