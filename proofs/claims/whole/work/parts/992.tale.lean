/-- a tale: its deeds, and what they leave -/
def tI (c : Nat) (l t : Int32) (D : Nat) (ks os ts hs cs : Nat → Int32) (q : sQ) : Prop := ∃ K P1 P2 P3 : Nat → Nat, (∀ i, i < D → ks i = nI (K i) ∧ os i = nI (P1 i) ∧ ts i = nI (P2 i) ∧ hs i = nI (P3 i)) ∧ tW c 40 K P1 P2 P3 D ∧ qD 0 (cnQ c l t K P1 P2 P3 D) q ∧ ∀ i, i < D → cs i = (cnQ c l t K P1 P2 P3 (i + 1)).2.2.2.2.2.2 - (cnQ c l t K P1 P2 P3 i).2.2.2.2.2.2
theorem cn_cg {c : Nat} {l t : Int32} {K P1 P2 P3 K' P1' P2' P3' : Nat → Nat} {n : Nat} (h : ∀ i, i < n → K' i = K i ∧ P1' i = P1 i ∧ P2' i = P2 i ∧ P3' i = P3 i) : cnQ c l t K' P1' P2' P3' n = cnQ c l t K P1 P2 P3 n := by
  refine fo_c (fun i hi q => ?_)
  obtain ⟨e1, e2, e3, e4⟩ := h i hi
  unfold plG
  rw [e1, e2, e3, e4]
theorem cn_P {c : Nat} {l t : Int32} {K P1 P2 P3 : Nat → Nat} {D : Nat} (hC : c ≤ 12) (hD : D ≤ 60) (hW : tW c 40 K P1 P2 P3 D) : ∀ i, i ≤ D → qP (cnQ c 0 0 K P1 P2 P3 i) (cnQ c l t K P1 P2 P3 i) ∧ qI c (cnQ c l t K P1 P2 P3 i) ∧ qV c (cnQ c l t K P1 P2 P3 i) ∧ (cnQ c l t K P1 P2 P3 i).1 ≤ 40 := rp_pl hC (by omega) (by omega) hD hW sk_n bg_P (qI_bg (row := ownR c)) (qV_bg hC)
theorem qV_e {c : Nat} {q q' : sQ} (e : qP q q') (h : qV c q) : qV c q' := fun v hv i hi => by
  rw [e.1] at hv
  rw [(e.2 v hv).1]
  exact h v hv i hi
/-- what is known of the versions of a tale -/
theorem tI_q {c : Nat} {l t : Int32} {D : Nat} {ks os ts hs cs : Nat → Int32} {q : sQ} (hC : c ≤ 12) (hD : D ≤ 60) (h : tI c l t D ks os ts hs cs q) : qI c q ∧ qV c q ∧ q.1 ≤ 40 ∧ qJ c q := by
  obtain ⟨K, P1, P2, P3, h1, h2, h3, h4⟩ := h
  obtain ⟨a1, a2, a3, a4⟩ := cn_P (l := l) (t := t) hC hD h2 D (Nat.le_refl _)
  refine ⟨qI_e h3.1 a2, qV_e (qP_of h3.1) a3, by rw [h3.1.1]; exact a4, qH_J hC (qH_p (qP_t a1 (qP_of h3.1)) (cn_H hC (by omega) (by omega) hD h2 D (Nat.le_refl _)))⟩
theorem i32_s0 {a b c d : Int32} (h1 : a = b + 0) (h2 : c = d + 0) : a - c = b - d := by rw [h1, h2, Int32.add_zero, Int32.add_zero]
theorem tI_add {c : Nat} {l t : Int32} {D : Nat} {ks os ts hs cs : Nat → Int32} {q : sQ} {k a b e : Nat} (hC : c ≤ 12) (hD : D < 60) (h : tI c l t D ks os ts hs cs q) (hd : dV c 40 k a b e q) : tI c l t (D + 1) (va_up ks D (nI k)) (va_up os D (nI a)) (va_up ts D (nI b)) (va_up hs D (nI e)) (va_up cs D ((caQ (nI c) l t c k a b e q).2.2.2.2.2.2.2 - q.2.2.2.2.2.2)) (caQ (nI c) l t c k a b e q).2 := by
  obtain ⟨K, P1, P2, P3, h1, h2, h3, h4⟩ := h
  obtain ⟨a1, a2, a3, a4⟩ := cn_P (l := l) (t := t) hC (by omega) h2 D (Nat.le_refl _)
  have cg : ∀ l t i, i ≤ D → cnQ c l t (va_up K D k) (va_up P1 D a) (va_up P2 D b) (va_up P3 D e) i = cnQ c l t K P1 P2 P3 i := fun l t i hi => cn_cg (fun j hj => ⟨up_n (by omega), up_n (by omega), up_n (by omega), up_n (by omega)⟩)
  have cl : ∀ l t, cnQ c l t (va_up K D k) (va_up P1 D a) (va_up P2 D b) (va_up P3 D e) (D + 1) = (caQ (nI c) l t c k a b e (cnQ c l t K P1 P2 P3 D)).2 := fun l t => by
    rw [cn_s (by omega), cg l t D (Nat.le_refl _), up_s, up_s, up_s, up_s]
  have hdq : dV c 40 k a b e (cnQ c l t K P1 P2 P3 D) := dV_p (qP_s (qP_of h3.1)) (qI_e h3.1 a2) hd
  have g := qD_ca (l := l) (t := t) h3 a2 a3 hC (N := 40) (by omega) hdq
  refine ⟨va_up K D k, va_up P1 D a, va_up P2 D b, va_up P3 D e, fun i hi => ?_, fun i hi => ?_, ?_, fun i hi => ?_⟩
  · by_cases ei : i = D
    · subst ei
      rw [up_s, up_s, up_s, up_s, up_s, up_s, up_s, up_s]
      exact ⟨rfl, rfl, rfl, rfl⟩
    · rw [up_n ei, up_n ei, up_n ei, up_n ei, up_n ei, up_n ei, up_n ei, up_n ei]
      exact h1 i (by omega)
  · by_cases ei : i = D
    · subst ei
      rw [cg 0 0 i (Nat.le_refl _), up_s, up_s, up_s, up_s]
      exact dV_p (qP_s a1) a2 hdq
    · rw [cg 0 0 i (by omega), up_n ei, up_n ei, up_n ei, up_n ei]
      exact h2 i (by omega)
  · rw [cl]
    exact g.2
  · by_cases ei : i = D
    · subst ei
      rw [up_s, cl, cg l t i (Nat.le_refl _)]
      exact i32_s0 g.2.2 h3.2
    · rw [up_n ei, cg l t (i + 1) (by omega), cg l t i (by omega)]
      exact h4 i (by omega)
theorem tI_bg {c : Nat} {l t : Int32} {ks os ts hs cs : Nat → Int32} {q : sQ} : tI c l t 0 ks os ts hs cs (bgQ (ownR c) q) := ⟨fun _ => 0, fun _ => 0, fun _ => 0, fun _ => 0, fun i hi => absurd hi (Nat.not_lt_zero i), fun i hi => absurd hi (Nat.not_lt_zero i), bg_D, fun i hi => absurd hi (Nat.not_lt_zero i)⟩
/-- gone back to fewer deeds -/
theorem tI_back {c : Nat} {l t : Int32} {D D' : Nat} {ks os ts hs cs : Nat → Int32} {q : sQ} (hC : c ≤ 12) (hD : D ≤ 60) (hD' : D' ≤ D) (h : tI c l t D ks os ts hs cs q) : ∃ K P1 P2 P3 : Nat → Nat, (∀ i, i < D' → ks i = nI (K i) ∧ os i = nI (P1 i) ∧ ts i = nI (P2 i) ∧ hs i = nI (P3 i)) ∧ plV (nI c) l t c 40 K P1 P2 P3 (-1) (bgQ (ownR c) q) D' ∧ tI c l t D' ks os ts hs cs (fo (plG (nI c) l t c K P1 P2 P3 (-1)) (bgQ (ownR c) q) D') := by
  obtain ⟨K, P1, P2, P3, h1, h2, h3, h4⟩ := h
  have hW : tW c 40 K P1 P2 P3 D' := fun i hi => h2 i (by omega)
  exact ⟨K, P1, P2, P3, fun i hi => h1 i (by omega), c_plV hC (by omega) (by omega) (by omega) hW sk_n q, K, P1, P2, P3, fun i hi => h1 i (by omega), hW, pl_D hC (by omega) (by omega) (by omega) hW sk_n bg_D D' (Nat.le_refl _), fun i hi => h4 i (by omega)⟩
theorem tI_cg {c : Nat} {l t : Int32} {D : Nat} {ks os ts hs cs ks' os' ts' hs' cs' : Nat → Int32} {q q' : sQ} (h : tI c l t D ks os ts hs cs q) (e : ∀ i, i < D → ks' i = ks i ∧ os' i = os i ∧ ts' i = ts i ∧ hs' i = hs i ∧ cs' i = cs i) (g : qD 0 q q') : tI c l t D ks' os' ts' hs' cs' q' := by
  obtain ⟨K, P1, P2, P3, h1, h2, h3, h4⟩ := h
  refine ⟨K, P1, P2, P3, fun i hi => ?_, h2, ⟨stE_t h3.1 g.1, by rw [g.2, h3.2, Int32.add_zero]⟩, fun i hi => ?_⟩
  · obtain ⟨e1, e2, e3, e4, e5⟩ := e i hi
    rw [e1, e2, e3, e4]
    exact h1 i hi
  · rw [(e i hi).2.2.2.2]
    exact h4 i hi
/-- the reference's context for a tale -/
theorem tI_X {c : Nat} {l t : Int32} {D : Nat} {q : sQ} {K P1 P2 P3 : Nat → Nat} (hC : c ≤ 12) (h0 : 0 < c) (hD : D ≤ 60) (h2 : tW c 40 K P1 P2 P3 D) (h3 : qD 0 (cnQ c l t K P1 P2 P3 D) q) {A : Nat → Nat → Int32} {ln : Nat} (b0 : A 1 0 = nI c) (b1 : A 1 1 = l) (b2 : A 1 2 = t) (b4 : A 1 4 = nI D) (b5 : A 1 5 = nI ln) (l0 : 0 < ln) (l1 : ln < 1000) (hd : ∀ i, i < D → A 1 (19 + 4 * i + 0) = nI (kmN (K i)) ∧ A 1 (19 + 4 * i + 1) = nI (P1 i) ∧ A 1 (19 + 4 * i + 2) = nI (P2 i) ∧ A 1 (19 + 4 * i + 3) = nI (P3 i)) : mX c 40 D l t K P1 P2 P3 q A := by
  obtain ⟨a1, a2, a3, a4⟩ := cn_P (l := l) (t := t) hC hD h2 D (Nat.le_refl _)
  exact ⟨⟨hC, h0, Nat.le_refl _, by omega, hD⟩, ⟨b0, b1, b2, b4, ln, l0, l1, b5⟩, hd, fun p q0 => c_pmV hC (by omega) (by omega) hD h2 sk_n p q0, fun p q0 => stE_t (stE_s h3.1) (pm_D hC (by omega) (by omega) hD h2 sk_n (st_bg (p := p)) D (Nat.le_refl _)).1, qI_e h3.1 a2, qV_e (qP_of h3.1) a3, by rw [h3.1.1]; exact a4⟩
theorem tI_T {c : Nat} {l t l' t' sk : Int32} {D : Nat} {q : sQ} {K P1 P2 P3 : Nat → Nat} (hC : c ≤ 12) (hD : D ≤ 60) (h2 : tW c 40 K P1 P2 P3 D) (hs : skO K sk) (p : Int32) (q0 : sQ) : pmS l' t' c K P1 P2 P3 sk (qS p (bgQ (ownR c) q0)) D = (fo (plG (nI c) l' t' c K P1 P2 P3 sk) (bgQ (ownR c) q) D).2.2.2.2.2.2 := pmS_D hC (by omega) (by omega) hD h2 hs (st_bg (p := p)) D (Nat.le_refl _)
theorem tI_L {c : Nat} {l t : Int32} {D : Nat} {q : sQ} {K P1 P2 P3 : Nat → Nat} (hC : c ≤ 12) (hD : D ≤ 60) (h2 : tW c 40 K P1 P2 P3 D) (h3 : qD 0 (cnQ c l t K P1 P2 P3 D) q) (p : Int32) (q0 : sQ) : pmS l t c K P1 P2 P3 (-1) (qS p (bgQ (ownR c) q0)) D = q.2.2.2.2.2.2 := (pmS_D hC (by omega) (by omega) hD h2 sk_n (st_bg (p := p)) D (Nat.le_refl _)).trans (by rw [h3.2, Int32.add_zero]; rfl)
theorem tI_C {c : Nat} {l t : Int32} {D : Nat} {cs : Nat → Int32} {K P1 P2 P3 : Nat → Nat} (hC : c ≤ 12) (hD : D ≤ 60) (h2 : tW c 40 K P1 P2 P3 D) (h4 : ∀ i, i < D → cs i = (cnQ c l t K P1 P2 P3 (i + 1)).2.2.2.2.2.2 - (cnQ c l t K P1 P2 P3 i).2.2.2.2.2.2) (p : Int32) (q0 : sQ) (j : Nat) (hj : j < D) : (fo (pmG (nI c) l t c K P1 P2 P3 (-1)) (qS p (bgQ (ownR c) q0)) (j + 1)).2.2.2.2.2.2 = cs j := by
  rw [(pm_D hC (by omega) (by omega) hD h2 sk_n (st_bg (p := p)) j (by omega)).2 hj, h4 j hj]
  rfl
