theorem oT8 {s : tS} {a6 a7 a8 a9 : Int32} {pr : Int32} {ln : Nat} {td : Int32} {de : Nat} {pa ks os ts hs cs : Nat → Int32} {c : Nat} {l t : Int32} {q : sQ} {a : Nat} (ha : a ≤ 12) {b8 b9 : Int32} {s' : tS} : oT (oA ((s, (a6, a7, a8, a9), (pr, ln, td, de), (pa, ks, os, ts, hs, cs), (c, l, t), q) : oS) ((8, nI a, b8, b9, s') : Int32 × Int32 × Int32 × Int32 × tS)) = (s', (8, nI a, b8, b9), (pr, ln + 1, td, de), (pa, ks, os, ts, hs, cs), (a, b8, b9), bgQ (ownR a) q) := by
  unfold oT oA
  rw [if_pos rfl]
  unfold o8
  dsimp only
  rw [nI_clamp (by omega)]
theorem oT9 {s : tS} {a6 a7 a8 a9 : Int32} {pr : Int32} {ln : Nat} {td : Int32} {de : Nat} {pa ks os ts hs cs : Nat → Int32} {c : Nat} {l t : Int32} {q : sQ} {a b : Nat} (ha : a < 12) (hb : b < 12) {b9 : Int32} {s' : tS} : oT (oA ((s, (a6, a7, a8, a9), (pr, ln, td, de), (pa, ks, os, ts, hs, cs), (c, l, t), q) : oS) ((9, nI a, nI b, b9, s') : Int32 × Int32 × Int32 × Int32 × tS)) = (s', (9, nI a, nI b, b9), (pr + 1, ln + 1, td, de), (va_up (va_up pa a (pa a ||| (1 : Int32) <<< (nI b &&& 31))) b ((va_up pa a (pa a ||| (1 : Int32) <<< (nI b &&& 31))) b ||| (1 : Int32) <<< (nI a &&& 31)), ks, os, ts, hs, cs), (c, l, t), q) := by
  unfold oT oA
  rw [if_neg (show ¬ (9 : Int32) = 8 by decide), if_pos rfl]
  unfold o9
  dsimp only
  rw [nI_clamp (by omega), nI_clamp (by omega)]
theorem oTD {s : tS} {a6 a7 a8 a9 : Int32} {pr : Int32} {ln : Nat} {td : Int32} {de : Nat} {pa ks os ts hs cs : Nat → Int32} {c : Nat} {l t : Int32} {q : sQ} {kk a b e : Nat} (hk : kk < 8) (ha : a < 200) (hb : b < 200) (he : e < 200) {s' : tS} : oT (oA ((s, (a6, a7, a8, a9), (pr, ln, td, de), (pa, ks, os, ts, hs, cs), (c, l, t), q) : oS) ((nI kk, nI a, nI b, nI e, s') : Int32 × Int32 × Int32 × Int32 × tS)) = (s', (nI kk, nI a, nI b, nI e), (pr, ln + 1, nI (de + 1), de + 1), (pa, va_up ks de (nI kk), va_up os de (nI a), va_up ts de (nI b), va_up hs de (nI e), va_up cs de ((caQ (nI c) l t c kk a b e q).2.2.2.2.2.2.2 - q.2.2.2.2.2.2)), (c, l, t), (caQ (nI c) l t c kk a b e q).2) := by
  have hk8 : ¬ nI kk = 8 := fun h => by
    have := congrArg Int32.toInt h
    rw [nI_toInt (by omega)] at this
    have e3 : (8 : Int32).toInt = 8 := rfl
    omega
  have hk9 : ¬ nI kk = 9 := fun h => by
    have := congrArg Int32.toInt h
    rw [nI_toInt (by omega)] at this
    have e3 : (9 : Int32).toInt = 9 := rfl
    omega
  unfold oT oA
  rw [if_neg hk8, if_neg hk9]
  unfold oD
  dsimp only
  rw [nI_clamp (by omega), nI_clamp (by omega), nI_clamp (by omega), nI_clamp (by omega)]
/-- the reference's row holds what is told -/
def oBB (c : Nat) (l t : Int32) (pr : Int32) (de ln u : Nat) (pa ks os ts hs : Nat → Int32) (B : Nat → Int32) : Prop := B 0 = nI c ∧ B 1 = l ∧ B 2 = t ∧ B 3 = pr ∧ B 4 = nI de ∧ B 5 = nI ln ∧ B 6 = nI u ∧ (∀ i, i < 12 → B (7 + i) = pa i) ∧ ∀ i, i < de → B (19 + 4 * i + 0) = nI (kmN (ks i).toNatClampNeg) ∧ B (19 + 4 * i + 1) = os i ∧ B (19 + 4 * i + 2) = ts i ∧ B (19 + 4 * i + 3) = hs i
def oB (y : oS) (B : Nat → Int32) : Prop := oBB y.2.2.2.2.1.1 y.2.2.2.2.1.2.1 y.2.2.2.2.1.2.2 y.2.2.1.1 y.2.2.1.2.2.2 y.2.2.1.2.1 0 y.2.2.2.1.1 y.2.2.2.1.2.1 y.2.2.2.1.2.2.1 y.2.2.2.1.2.2.2.1 y.2.2.2.1.2.2.2.2.1 B
theorem oBB_8 {pr : Int32} {u : Nat} {pa ks os ts hs : Nat → Int32} {B : Nat → Int32} {c0 : Nat} {l0 t0 : Int32} (h : oBB c0 l0 t0 pr 0 0 u pa ks os ts hs B) {c : Nat} {l t : Int32} : oBB c l t pr 0 (0 + 1) u pa ks os ts hs (va_up (va_up (va_up (va_up B 0 (nI c)) 1 l) 2 t) 5 (B 5 + 1)) := by
  obtain ⟨h0, h1, h2, h3, h4, h5, h6, h7, h8⟩ := h
  refine ⟨by rw [up_n (by omega), up_n (by omega), up_n (by omega), up_s], by rw [up_n (by omega), up_n (by omega), up_s], by rw [up_n (by omega), up_s], by rw [up_n (by omega), up_n (by omega), up_n (by omega), up_n (by omega)]; exact h3, by rw [up_n (by omega), up_n (by omega), up_n (by omega), up_n (by omega)]; exact h4, by rw [up_s, h5, nI_succ], by rw [up_n (by omega), up_n (by omega), up_n (by omega), up_n (by omega)]; exact h6, fun i hi => by rw [up_n (by omega), up_n (by omega), up_n (by omega), up_n (by omega)]; exact h7 i hi, fun i hi => absurd hi (Nat.not_lt_zero i)⟩
theorem oBB_9 {pr : Int32} {de ln u : Nat} {pa ks os ts hs : Nat → Int32} {B : Nat → Int32} {c : Nat} {l t : Int32} (h : oBB c l t pr de ln u pa ks os ts hs B) {a b : Nat} (ha : a < 12) (hb : b < 12) : oBB c l t (pr + 1) de (ln + 1) u (va_up (va_up pa a (pa a ||| (1 : Int32) <<< (nI b &&& 31))) b ((va_up pa a (pa a ||| (1 : Int32) <<< (nI b &&& 31))) b ||| (1 : Int32) <<< (nI a &&& 31))) ks os ts hs (va_up (pwB B a b) 5 (B 5 + 1)) := by
  obtain ⟨h0, h1, h2, h3, h4, h5, h6, h7, h8⟩ := h
  have key : ∀ j, j ≠ 5 → j ≠ 3 → j ≠ 7 + a → j ≠ 7 + b → va_up (pwB B a b) 5 (B 5 + 1) j = B j := fun j j1 j2 j3 j4 => by
    unfold pwB pw1
    rw [up_n j1, up_n j2, up_n j4, up_n j3]
  refine ⟨(key 0 (by omega) (by omega) (by omega) (by omega)).trans h0, (key 1 (by omega) (by omega) (by omega) (by omega)).trans h1, (key 2 (by omega) (by omega) (by omega) (by omega)).trans h2, ?_, (key 4 (by omega) (by omega) (by omega) (by omega)).trans h4, by rw [up_s, h5, nI_succ], (key 6 (by omega) (by omega) (by omega) (by omega)).trans h6, fun i hi => ?_, fun i hi => ?_⟩
  · unfold pwB pw1
    rw [up_n (by omega), up_s, up_n (by omega), up_n (by omega), h3]
  · unfold pwB pw1
    rw [up_n (by omega), up_n (by omega)]
    by_cases e1 : i = b
    · subst e1
      rw [up_s, up_s]
      by_cases e2 : i = a
      · subst e2
        rw [up_s, up_s, h7 i hi]
      · rw [up_n (by omega), up_n e2, h7 i hi]
    · rw [up_n (by omega), up_n e1]
      by_cases e2 : i = a
      · subst e2
        rw [up_s, up_s, h7 i hi]
      · rw [up_n (by omega), up_n e2, h7 i hi]
  · obtain ⟨g0, g1, g2, g3⟩ := h8 i hi
    exact ⟨(key _ (by omega) (by omega) (by omega) (by omega)).trans g0, (key _ (by omega) (by omega) (by omega) (by omega)).trans g1, (key _ (by omega) (by omega) (by omega) (by omega)).trans g2, (key _ (by omega) (by omega) (by omega) (by omega)).trans g3⟩
theorem lyR_o {B : Nat → Int32} {D : Nat} {k v a b : Int32} {j : Nat} (h4 : j ≠ 4) (h : j < 19 + 4 * D ∨ 19 + 4 * D + 3 < j) : lyR B D k v a b j = B j := by
  unfold lyR
  rw [up_n h4, up_n (by omega), up_n (by omega), up_n (by omega), up_n (by omega)]
theorem lyR_d {B : Nat → Int32} {D : Nat} {k v a b : Int32} : lyR B D k v a b (19 + 4 * D + 0) = k ∧ lyR B D k v a b (19 + 4 * D + 1) = v ∧ lyR B D k v a b (19 + 4 * D + 2) = a ∧ lyR B D k v a b (19 + 4 * D + 3) = b := by
  unfold lyR
  refine ⟨?_, ?_, ?_, ?_⟩
  · rw [up_n (by omega), up_n (by omega), up_n (by omega), up_n (by omega), up_s]
  · rw [up_n (by omega), up_n (by omega), up_n (by omega), up_s]
  · rw [up_n (by omega), up_n (by omega), up_s]
  · rw [up_n (by omega), up_s]
theorem oBB_D {pr : Int32} {de ln u : Nat} {pa ks os ts hs : Nat → Int32} {B B' : Nat → Int32} {c : Nat} {l t : Int32} (h : oBB c l t pr de ln u pa ks os ts hs B) {kk : Nat} (hk : kk < 8) {a b e : Int32} {ln' u' : Nat} (h5' : B' 5 = nI ln') (h6' : B' 6 = nI u') (hB : ∀ j, j ≠ 5 → j ≠ 6 → B' j = lyR B de (nI (kmN kk)) a b e j) : oBB c l t pr (de + 1) ln' u' pa (va_up ks de (nI kk)) (va_up os de a) (va_up ts de b) (va_up hs de e) B' := by
  obtain ⟨h0, h1, h2, h3, h4, h5, h6, h7, h8⟩ := h
  have key : ∀ j, j ≠ 5 → j ≠ 6 → j ≠ 4 → (j < 19 + 4 * de ∨ 19 + 4 * de + 3 < j) → B' j = B j := fun j j1 j2 j3 j4 => (hB j j1 j2).trans (lyR_o j3 j4)
  refine ⟨(key 0 (by omega) (by omega) (by omega) (by omega)).trans h0, (key 1 (by omega) (by omega) (by omega) (by omega)).trans h1, (key 2 (by omega) (by omega) (by omega) (by omega)).trans h2, (key 3 (by omega) (by omega) (by omega) (by omega)).trans h3, ?_, h5', h6', fun i hi => (key _ (by omega) (by omega) (by omega) (by omega)).trans (h7 i hi), fun i hi => ?_⟩
  · rw [hB 4 (by omega) (by omega)]
    unfold lyR
    rw [up_s, nI_succ]
  · by_cases ei : i = de
    · subst ei
      obtain ⟨g0, g1, g2, g3⟩ := lyR_d (B := B) (D := i) (k := nI (kmN kk)) (v := a) (a := b) (b := e)
      rw [up_s, up_s, up_s, up_s, nI_clamp (by omega)]
      exact ⟨(hB _ (by omega) (by omega)).trans g0, (hB _ (by omega) (by omega)).trans g1, (hB _ (by omega) (by omega)).trans g2, (hB _ (by omega) (by omega)).trans g3⟩
    · obtain ⟨g0, g1, g2, g3⟩ := h8 i (by omega)
      rw [up_n ei, up_n ei, up_n ei, up_n ei]
      exact ⟨(key _ (by omega) (by omega) (by omega) (by omega)).trans g0, (key _ (by omega) (by omega) (by omega) (by omega)).trans g1, (key _ (by omega) (by omega) (by omega) (by omega)).trans g2, (key _ (by omega) (by omega) (by omega) (by omega)).trans g3⟩
theorem dV_k {c N k a b e : Nat} {q : sQ} (h : dV c N k a b e q) : 1 ≤ k ∧ k ≤ 7 := by
  match k, h with
  | 0, h => exact h.elim
  | 1, _ => omega
  | 2, _ => omega
  | 3, _ => omega
  | 4, _ => omega
  | 5, _ => omega
  | 6, _ => omega
  | 7, _ => omega
  | k + 8, h => exact h.elim
theorem tI_B {c : Nat} {l t : Int32} {pr : Int32} {D ln u : Nat} {pa ks os ts hs cs : Nat → Int32} {q : sQ} {A : Nat → Nat → Int32} (hC : c ≤ 12) (h0 : 0 < c) (hD : D ≤ 60) (h : tI c l t D ks os ts hs cs q) (hB : oBB c l t pr D ln u pa ks os ts hs (A 1)) (l0 : 0 < ln) (l1 : ln < 1000) : ∃ K P1 P2 P3 : Nat → Nat, (∀ i, i < D → ks i = nI (K i) ∧ os i = nI (P1 i) ∧ ts i = nI (P2 i) ∧ hs i = nI (P3 i)) ∧ tW c 40 K P1 P2 P3 D ∧ qD 0 (cnQ c l t K P1 P2 P3 D) q ∧ (∀ i, i < D → cs i = (cnQ c l t K P1 P2 P3 (i + 1)).2.2.2.2.2.2 - (cnQ c l t K P1 P2 P3 i).2.2.2.2.2.2) ∧ mX c 40 D l t K P1 P2 P3 q A := by
  obtain ⟨K, P1, P2, P3, h1, h2, h3, h4⟩ := h
  obtain ⟨b0, b1, b2, b3, b4, b5, b6, b7, b8⟩ := hB
  refine ⟨K, P1, P2, P3, h1, h2, h3, h4, tI_X hC h0 hD h2 h3 b0 b1 b2 b4 b5 l0 l1 (fun i hi => ?_)⟩
  obtain ⟨g0, g1, g2, g3⟩ := b8 i hi
  obtain ⟨e0, e1, e2, e3⟩ := h1 i hi
  have hk := dV_k (h2 i hi)
  rw [e0, nI_clamp (by omega)] at g0
  exact ⟨g0, g1.trans e1, g2.trans e2, g3.trans e3⟩
-- what a bad reader passes over
theorem rPa_b {sg : Nat → Int32} {t : Nat} {e : rS} (h : ¬ e.2.2.2.2.1 = 0) : rPa sg t e 1 = e := by
  unfold rPa
  rw [if_neg (by decide), if_neg h]
theorem ts_b {sg : Nat → Int32} {t : Nat} {s : tS} (h : ¬ s.2.2.2.2.1 = 0) : tsS sg t s = s := by
  unfold tsS
  rw [if_neg h]
theorem R_tsb {sg : Nat → Int32} {t : Nat} {s : tS} {e : rS} (hs : ¬ s.2.2.2.2.1 = 0) (h : tR s e) : tR s (rPa sg t e (bz (¬ e.2.2.2.2.1 = 0 ∨ e.1 = 3))) := by
  have g := R_ts (sg := sg) (t := t) h
  rw [ts_b hs] at g
  exact g
