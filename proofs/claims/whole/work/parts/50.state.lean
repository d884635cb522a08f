-- nibbles
theorem nm_s (row : Int64) : ∀ k, k < 12 → (nmI row (nI k)).toBitVec = (BitVec.signExtend 32 (row.toBitVec >>> (4 * k))) &&& 15#32
  | 0, _ => rfl
  | 1, _ => rfl
  | 2, _ => rfl
  | 3, _ => rfl
  | 4, _ => rfl
  | 5, _ => rfl
  | 6, _ => rfl
  | 7, _ => rfl
  | 8, _ => rfl
  | 9, _ => rfl
  | 10, _ => rfl
  | 11, _ => rfl
  | k + 12, h => absurd h (by omega)
theorem nm_b (row : Int64) (k : Nat) (h : k < 12) : (nmI row (nI k)).toBitVec = (BitVec.setWidth 32 (row.toBitVec >>> (4 * k))) &&& 15#32 := by
  rw [nm_s row k h, BitVec.signExtend_eq_setWidth_of_le _ (by decide)]
theorem y_b : ∀ y, y < 16 → (nI y &&& 15).toInt64.toBitVec = BitVec.ofNat 64 y := by decide
theorem wn_b (row : Int64) (x : Int32) : ∀ k, k < 12 → (wnI row (nI k) x).toBitVec = (row.toBitVec &&& ((15#64 <<< (4 * k)) ^^^ (-1 : Int64).toBitVec)) ||| ((x &&& 15).toInt64.toBitVec <<< (4 * k))
  | 0, _ => rfl
  | 1, _ => rfl
  | 2, _ => rfl
  | 3, _ => rfl
  | 4, _ => rfl
  | 5, _ => rfl
  | 6, _ => rfl
  | 7, _ => rfl
  | 8, _ => rfl
  | 9, _ => rfl
  | 10, _ => rfl
  | 11, _ => rfl
  | k + 12, h => absurd h (by omega)
theorem b15 (i : Nat) : (15#32).getLsbD i = decide (i < 4) := by
  have h : (15#32).getLsbD i = (decide (i < 32) && Nat.testBit (2 ^ 4 - 1) i) := BitVec.getLsbD_ofNat 32 15 i
  rw [h, Nat.testBit_two_pow_sub_one]
  by_cases h : i < 4
  · simp [h, show i < 32 by omega]
  · simp [h]
theorem c15 (i : Nat) : (15#64).getLsbD i = decide (i < 4) := by
  have h : (15#64).getLsbD i = (decide (i < 64) && Nat.testBit (2 ^ 4 - 1) i) := BitVec.getLsbD_ofNat 64 15 i
  rw [h, Nat.testBit_two_pow_sub_one]
  by_cases h : i < 4
  · simp [h, show i < 64 by omega]
  · simp [h]
theorem m64 (i : Nat) (h : i < 64) : (-1 : Int64).toBitVec.getLsbD i = true := by
  have e : (-1 : Int64).toBitVec = BitVec.allOnes 64 := by decide
  rw [e, BitVec.getLsbD_allOnes]
  exact decide_eq_true h
theorem nm_wn {row : Int64} {i k y : Nat} (hi : i < 12) (hk : k < 12) (hy : y < 16) : nmI (wnI row (nI i) (nI y)) (nI k) = if k = i then nI y else nmI row (nI k) := by
  apply Int32.toBitVec_inj.mp
  rw [nm_b _ k hk, wn_b _ _ i hi, y_b y hy]
  by_cases e : k = i
  · rw [if_pos e]
    subst e
    have e2 : (nI y).toBitVec = BitVec.ofNat 32 y := rfl
    rw [e2]
    apply BitVec.eq_of_getLsbD_eq
    intro b hb
    rw [BitVec.getLsbD_and, b15, BitVec.getLsbD_setWidth, BitVec.getLsbD_ushiftRight, BitVec.getLsbD_or, BitVec.getLsbD_and, BitVec.getLsbD_xor, BitVec.getLsbD_shiftLeft, BitVec.getLsbD_shiftLeft, c15, BitVec.getLsbD_ofNat, BitVec.getLsbD_ofNat, show 4 * k + b - 4 * k = b by omega]
    by_cases h4 : b < 4
    · rw [m64 _ (by omega)]
      simp [h4, hb, show 4 * k + b < 64 by omega, show b < 64 by omega, show ¬ 4 * k + b < 4 * k by omega]
    · have h5 : y.testBit b = false := Nat.testBit_lt_two_pow (Nat.lt_of_lt_of_le hy (show 2 ^ 4 ≤ 2 ^ b from Nat.pow_le_pow_right (by omega) (by omega)))
      simp [h4, h5]
  · rw [if_neg e, nm_b _ k hk]
    apply BitVec.eq_of_getLsbD_eq
    intro b hb
    rw [BitVec.getLsbD_and, b15, BitVec.getLsbD_setWidth, BitVec.getLsbD_ushiftRight, BitVec.getLsbD_or, BitVec.getLsbD_and, BitVec.getLsbD_xor, BitVec.getLsbD_shiftLeft, BitVec.getLsbD_shiftLeft, c15, BitVec.getLsbD_ofNat, BitVec.getLsbD_and, b15, BitVec.getLsbD_setWidth, BitVec.getLsbD_ushiftRight]
    by_cases h4 : b < 4
    · rw [m64 _ (by omega)]
      by_cases h6 : 4 * k + b < 4 * i
      · simp [h4, hb, h6]
      · have h7 : ¬ 4 * k + b - 4 * i < 4 := by omega
        have h5 : y.testBit (4 * k + b - 4 * i) = false := Nat.testBit_lt_two_pow (Nat.lt_of_lt_of_le hy (show 2 ^ 4 ≤ 2 ^ (4 * k + b - 4 * i) from Nat.pow_le_pow_right (by omega) (by omega)))
        simp [h4, hb, h7, h5]
    · simp [h4]
theorem nm_16 (row : Int64) {k : Nat} (hk : k < 12) : ∃ y, y < 16 ∧ nmI row (nI k) = nI y := by
  have h1 : (nmI row (nI k)).toBitVec.toNat < 16 := by
    rw [nm_b _ k hk, BitVec.toNat_and]
    exact Nat.lt_of_le_of_lt Nat.and_le_right (by decide)
  refine ⟨(nmI row (nI k)).toBitVec.toNat, h1, ?_⟩
  apply Int32.toBitVec_inj.mp
  show _ = BitVec.ofNat 32 _
  rw [BitVec.ofNat_toNat, BitVec.setWidth_eq]
-- turned links
theorem tn_val : ∀ (K : Nat) (P : Nat → Nat) (x : (Nat → Int32) × (Nat → Int32)), (∀ i j, i ≤ K → j ≤ K → P i = P j → i = j) → (∀ i, i < K → (tnP P K x).1 (P (i + 1)) = nI (P i) ∧ (tnP P K x).2 (P (i + 1)) = x.2 (P i)) := by
  intro K
  induction K with
  | zero => intro P x _ i hi; exact absurd hi (Nat.not_lt_zero _)
  | succ K ih =>
    intro P x hi i hK
    rw [tnP_l]
    have hne : ∀ j, j ≤ K → P (j + 1) ≠ P 0 := fun j h e => by
      have := hi (j + 1) 0 (by omega) (by omega) e
      omega
    cases i with
    | zero =>
      have e3 := (@tnP_at (fun i => P (i + 1)) (P 0) K x hne).1
      exact ⟨up_s, up_s.trans e3⟩
    | succ i =>
      have e := ih (fun i => P (i + 1)) x (fun a b h1 h2 h3 => by
        have := hi (a + 1) (b + 1) (by omega) (by omega) h3
        omega) i (by omega)
      have n1 : P (i + 1 + 1) ≠ P (0 + 1) := fun e => by
        have := hi (i + 1 + 1) 1 (by omega) (by omega) e
        omega
      have n0 : P (i + 1 + 1) ≠ P 0 := hne (i + 1) (by omega)
      refine ⟨?_, ?_⟩
      · refine Eq.trans ?_ e.1
        show va_up (va_up _ (P 0) (-1)) (P (0 + 1)) _ (P (i + 1 + 1)) = _
        rw [up_n n1, up_n n0]
      · refine Eq.trans ?_ e.2
        show va_up (va_up _ (P 0) (-1)) (P (0 + 1)) _ (P (i + 1 + 1)) = _
        rw [up_n n1, up_n n0]
theorem tw_ok {f g : Nat → Int32} {n v c : Nat} (hf : acy f n) (hn : n < 2 ^ 31) (hv : v < n) (hc : lcA f g c n) : acy (twF n (nI v) (-1) (-1) f g).1 n ∧ lcA (twF n (nI v) (-1) (-1) f g).1 (twF n (nI v) (-1) (-1) f g).2 c n := by
  have ho : okl (twF n (nI v) (-1) (-1) f g).1 n := okl_tw hn n (nI v) (-1) (-1) f g (Or.inr ⟨v, hv, rfl⟩) (Or.inl rfl) hf.1
  have hinj : ∀ i j, i ≤ wl f n v → j ≤ wl f n v → pt f v i = pt f v j → i = j := fun i j a b e => pt_inj hf hn hv a b e
  have T0 : (twF n (nI v) (-1) (-1) f g).1 v = -1 ∧ (twF n (nI v) (-1) (-1) f g).2 v = -1 := by
    rw [tw_pt hf hn hv]
    exact ⟨up_s, up_s⟩
  have T1 : ∀ i, i < wl f n v → (twF n (nI v) (-1) (-1) f g).1 (pt f v (i + 1)) = nI (pt f v i) ∧ (twF n (nI v) (-1) (-1) f g).2 (pt f v (i + 1)) = g (pt f v i) := by
    intro i hi
    have e := tn_val (wl f n v) (pt f v) (f, g) hinj i hi
    have h0 : pt f v (i + 1) ≠ v := fun e2 => by
      have := pt_inj hf hn hv (i := i + 1) (j := 0) (by omega) (by omega) e2
      omega
    rw [tw_pt hf hn hv]
    exact ⟨(up_n h0).trans e.1, (up_n h0).trans e.2⟩
  have T2 : ∀ u, (∀ i, i ≤ wl f n v → pt f v i ≠ u) → (twF n (nI v) (-1) (-1) f g).1 u = f u ∧ (twF n (nI v) (-1) (-1) f g).2 u = g u := by
    intro u hu
    have e := @tnP_at (pt f v) u (wl f n v) (f, g) hu
    have h0 : u ≠ v := fun e2 => hu 0 (Nat.zero_le _) e2.symm
    rw [tw_pt hf hn hv]
    exact ⟨(up_n h0).trans e.2, (up_n h0).trans e.1⟩
  generalize (twF n (nI v) (-1) (-1) f g).1 = f' at *
  generalize (twF n (nI v) (-1) (-1) f g).2 = g' at *
  obtain ⟨rk, hr⟩ := hf.2
  have hcase : ∀ u, (∃ i, i ≤ wl f n v ∧ pt f v i = u) ∨ ∀ i, i ≤ wl f n v → pt f v i ≠ u := by
    intro u
    by_cases h : ∃ i, i ≤ wl f n v ∧ pt f v i = u
    · exact Or.inl h
    · exact Or.inr (fun i hi e => h ⟨i, hi, e⟩)
  refine ⟨⟨ho, ?_⟩, ?_⟩
  · have hd : ∃ r : Nat → Nat, (∀ i, i ≤ wl f n v → r (pt f v i) = i) ∧ ∀ u, (∀ i, i ≤ wl f n v → pt f v i ≠ u) → r u = wl f n v + 1 + rk u := by
      have : ∀ u, ∃ y, (∀ i, i ≤ wl f n v → pt f v i = u → y = i) ∧ ((∀ i, i ≤ wl f n v → pt f v i ≠ u) → y = wl f n v + 1 + rk u) := by
        intro u
        rcases hcase u with ⟨i, h1, h2⟩ | h
        · refine ⟨i, fun j hj e => ?_, fun h => absurd h2 (h i h1)⟩
          exact hinj _ _ h1 hj (h2.trans e.symm)
        · exact ⟨wl f n v + 1 + rk u, fun j hj e => absurd e (h j hj), fun _ => rfl⟩
      exact ⟨fun u => Classical.choose (this u), fun i hi => (Classical.choose_spec (this _)).1 i hi rfl, fun u hu => (Classical.choose_spec (this u)).2 hu⟩
    obtain ⟨r, r1, r2⟩ := hd
    refine ⟨r, fun u hu hne => ?_⟩
    rcases hcase u with ⟨i, h1, h2⟩ | h
    · subst h2
      cases i with
      | zero => exact absurd T0.1 hne
      | succ i =>
        have hb := (pt_ok hf hn hv i (by omega)).1
        rw [(T1 i (by omega)).1, nI_clamp (by omega), r1 i (by omega), r1 (i + 1) h1]
        omega
    · rw [(T2 u h).1] at hne ⊢
      rw [r2 u h]
      have hl := hr u hu hne
      rcases hcase (f u).toNatClampNeg with ⟨i, h1, h2⟩ | h'
      · rw [← h2, r1 i h1]
        omega
      · rw [r2 _ h']
        omega
  · intro u hu
    rcases hcase u with ⟨i, h1, h2⟩ | h
    · subst h2
      cases i with
      | zero => exact ⟨fun _ => T0.2, fun h => absurd T0.1 h⟩
      | succ i =>
        have hb := (pt_ok hf hn hv i (by omega)).1
        have e := T1 i (by omega)
        refine ⟨fun h => absurd (e.1.symm.trans h) (nI_m1 (by omega)), fun _ => ?_⟩
        rw [e.2]
        exact (hc _ hb).2 (pt_nx hf hn hv (by omega)).1
    · rw [(T2 u h).1, (T2 u h).2]
      exact hc u hu
theorem lcA_cut {f g : Nat → Int32} {c n v : Nat} (h : lcA f g c n) : lcA (va_up f v (-1)) (va_up g v (-1)) c n := by
  intro u hu
  by_cases e : u = v
  · rw [e, up_s, up_s]
    exact ⟨fun _ => rfl, fun h => absurd rfl h⟩
  · rw [up_n e, up_n e]
    exact h u hu
theorem lcA_new {f g : Nat → Int32} {c n v to i : Nat} (h : lcA f g c n) (hv : v < n) (ht : to < 2 ^ 31) (hi : i < c) : lcA (va_up (va_up f n (-1)) v (nI to)) (va_up (va_up g n (-1)) v (nI i)) c (n + 1) := by
  intro u hu
  by_cases e : u = v
  · rw [e, up_s, up_s]
    exact ⟨fun h => absurd h (nI_m1 ht), fun _ => ⟨i, hi, rfl⟩⟩
  · rw [up_n e, up_n e]
    by_cases e2 : u = n
    · rw [e2, up_s, up_s]
      exact ⟨fun _ => rfl, fun h => absurd rfl h⟩
    · rw [up_n e2, up_n e2]
      exact h u (by omega)
theorem lcA_new1 {f g : Nat → Int32} {c n to i : Nat} (h : lcA f g c n) (ht : to < 2 ^ 31) (hi : i < c) : lcA (va_up f n (nI to)) (va_up g n (nI i)) c (n + 1) := by
  intro u hu
  by_cases e : u = n
  · rw [e, up_s, up_s]
    exact ⟨fun h => absurd h (nI_m1 ht), fun _ => ⟨i, hi, rfl⟩⟩
  · rw [up_n e, up_n e]
    exact h u (by omega)
theorem rc_ok {s l t : Int32} {n j c : Nat} {lt lc : Nat → Int32} {p : Int32} (hf : acy lt n) (hn : n < 2 ^ 31) (hj : j < n) (hc : lcA lt lc c n) : acy (rcF s l t n j lt lc p).1 n ∧ lcA (rcF s l t n j lt lc p).1 (rcF s l t n j lt lc p).2.1 c n := by
  unfold rcF
  by_cases h : l = 2 ∧ ¬ nI (wl lt n j) ≤ t
  · rw [if_pos h]
    exact ⟨acy_cut hf, lcA_cut hc⟩
  · rw [if_neg h]
    exact tw_ok hf hn hj hc
theorem rd_ok {s l t : Int32} {n j c : Nat} {cell : Int32} {lt lc : Nat → Int32} {p : Int32} (hf : acy lt n) (hn : n < 2 ^ 31) (hj : j < n) (hc : lcA lt lc c n) : acy (rdF s l t n j cell lt lc p).1 n ∧ lcA (rdF s l t n j cell lt lc p).1 (rdF s l t n j cell lt lc p).2.1 c n := by
  unfold rdF
  by_cases h : l = 1
  · rw [if_pos h]
    exact ⟨hf, hc⟩
  · rw [if_neg h]
    exact rc_ok hf hn hj hc
theorem st_ok {s l t : Int32} {n j c i : Nat} {lt lc : Nat → Int32} {p : Int32} (hf : acy lt n) (hn : n < 2 ^ 30) (hj : j < n) (hc : lcA lt lc c n) (hi : i < c) : acy (stF s l t n j (nI i) lt lc p).1 (n + 1) ∧ lcA (stF s l t n j (nI i) lt lc p).1 (stF s l t n j (nI i) lt lc p).2.1 c (n + 1) := by
  unfold stF
  by_cases h : l = 1
  · rw [if_pos h]
    show acy (va_up (va_up lt n (-1)) n (nI j)) (n + 1) ∧ lcA (va_up (va_up lt n (-1)) n (nI j)) (va_up (va_up lc n (-1)) n (nI i)) c (n + 1)
    rw [up_u, up_u]
    exact ⟨acy_new1 hf hj hn, lcA_new1 hc (by omega) hi⟩
  · rw [if_neg h]
    have e := @rc_ok s l t n j c lt lc p hf (by omega) hj hc
    exact ⟨acy_new e.1 hj hn, lcA_new e.2 hj (by omega) hi⟩
-- a shelf's state as it must be
def qI (c : Nat) (q : sQ) : Prop := 0 < q.1 ∧ q.1 ≤ 201 ∧ acy q.2.2.1 q.1 ∧ lcA q.2.2.1 q.2.2.2.1 c q.1 ∧ okm q.2.2.2.2.1 q.1 ∧ lcA q.2.2.2.2.1 q.2.2.2.2.2.1 c q.1
theorem okm_new {f : Nat → Int32} {n j : Nat} (h : okm f n) (hn : 0 < n) (hj : j < n) : okm (va_up f n (nI j)) (n + 1) := by
  refine ⟨?_, fun v h1 h2 => ?_⟩
  · rw [up_n (by omega)]
    exact h.1
  · by_cases e : v = n
    · rw [e, up_s]
      exact ⟨j, hj, rfl⟩
    · rw [up_n e]
      exact h.2 v h1 (by omega)
theorem qI_rd {c : Nat} {q : sQ} {s l t : Int32} {j : Nat} {cell : Int32} (h : qI c q) (hj : j < q.1) : qI c (rdQ s l t j cell q) := by
  obtain ⟨h1, h2, h3, h4, h5, h6⟩ := h
  have e := @rd_ok s l t q.1 j c cell q.2.2.1 q.2.2.2.1 q.2.2.2.2.2.2 h3 (by omega) hj h4
  exact ⟨h1, h2, e.1, e.2, h5, h6⟩
theorem qI_set {c : Nat} {q : sQ} {s l t : Int32} {j i : Nat} {x : Int32} (h : qI c q) (hj : j < q.1) (hi : i < c) (hn : q.1 ≤ 200) : qI c (setQ s l t j (nI i) x q) := by
  obtain ⟨h1, h2, h3, h4, h5, h6⟩ := h
  have e := @st_ok s l t q.1 j c i q.2.2.1 q.2.2.2.1 q.2.2.2.2.2.2 h3 (by omega) hj h4 hi
  exact ⟨Nat.succ_pos _, Nat.succ_le_succ hn, e.1, e.2, okm_new h5 h1 hj, lcA_new1 h6 (by omega) hi⟩
theorem fr_ok {s l t : Int32} {n j c : Nat} {J : Nat → Int64} (hn : n < 2 ^ 31) (hj : j < n) : ∀ (k : Nat) (a : Int32) (lt lc : Nat → Int32) (p : Int32), acy lt n → lcA lt lc c n → acy (frF s l t n j J k a lt lc p).2.1 n ∧ lcA (frF s l t n j J k a lt lc p).2.1 (frF s l t n j J k a lt lc p).2.2.1 c n := by
  intro k
  induction k with
  | zero => intro a lt lc p h1 h2; exact ⟨h1, h2⟩
  | succ k ih =>
    intro a lt lc p h1 h2
    have e := @rd_ok s l t n j c a lt lc p h1 hn hj h2
    unfold frF
    by_cases h : nmI (J j) a = a
    · rw [if_pos h]; exact e
    · rw [if_neg h]; exact ih _ _ _ _ e.1 e.2
theorem qI_fr {c : Nat} {q : sQ} {s l t : Int32} {k j : Nat} {a : Int32} (h : qI c q) (hj : j < q.1) : qI c (frQ s l t k j a q).2 := by
  obtain ⟨h1, h2, h3, h4, h5, h6⟩ := h
  have e := @fr_ok s l t q.1 j c q.2.1 (by omega) hj k a q.2.2.1 q.2.2.2.1 q.2.2.2.2.2.2 h3 h4
  exact ⟨h1, h2, e.1, e.2, h5, h6⟩
theorem qI_sn {c : Nat} {q : sQ} {s : Int32} {j : Nat} (h : qI c q) : qI c (snQ s j q).2 := by
  unfold snQ
  by_cases e : q.2.2.1 j = -1
  · rw [if_pos e]; exact h
  · rw [if_neg e]
    obtain ⟨h1, h2, h3, h4, h5, h6⟩ := h
    exact ⟨h1, h2, acy_cut h3, lcA_cut h4, h5, h6⟩
