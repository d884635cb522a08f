def hiZ (c : Nat) (r : Int64) : Prop := ∀ j, 4 * c ≤ j → r.toBitVec.getLsbD j = false
theorem hi_wn {c i y : Nat} {r : Int64} (h : hiZ c r) (hi : i < c) (hC : c ≤ 12) (hy : y < 16) : hiZ c (wnI r (nI i) (nI y)) := by
  intro j hj
  rw [wn_b _ _ i (by omega), y_b y hy, BitVec.getLsbD_or, BitVec.getLsbD_and, h j hj, BitVec.getLsbD_shiftLeft, BitVec.getLsbD_ofNat]
  have h5 : y.testBit (j - 4 * i) = false := Nat.testBit_lt_two_pow (Nat.lt_of_lt_of_le hy (show 2 ^ 4 ≤ 2 ^ (j - 4 * i) from Nat.pow_le_pow_right (by omega) (by omega)))
  rw [h5]
  simp
theorem hi_own {c : Nat} (hC : c ≤ 12) : ∀ k, k ≤ c → hiZ c (ownR k) := by
  intro k
  induction k with
  | zero =>
    intro _ j _
    show (0 : Int64).toBitVec.getLsbD j = false
    simp
  | succ k ih =>
    intro hk
    exact hi_wn (ih (by omega)) (show k < c by omega) hC (by omega)
theorem hi_eq {c : Nat} {r s : Int64} (hC : c ≤ 12) (hr : hiZ c r) (hs : hiZ c s) (h : ∀ i, i < c → nmI r (nI i) = nmI s (nI i)) : r = s := by
  apply Int64.toBitVec_inj.mp
  apply BitVec.eq_of_getLsbD_eq
  intro j hj
  by_cases e : 4 * c ≤ j
  · rw [hr j e, hs j e]
  · have h1 := congrArg (fun x : Int32 => x.toBitVec.getLsbD (j % 4)) (h (j / 4) (by omega))
    rw [nm_b _ _ (by omega), nm_b _ _ (by omega), BitVec.getLsbD_and, BitVec.getLsbD_and, b15, BitVec.getLsbD_setWidth, BitVec.getLsbD_setWidth, BitVec.getLsbD_ushiftRight, BitVec.getLsbD_ushiftRight, show 4 * (j / 4) + j % 4 = j by omega] at h1
    simpa [show j % 4 < 4 by omega, show j % 4 < 32 by omega] using h1
def qH (c : Nat) (q : sQ) : Prop := ∀ v, v < q.1 → hiZ c (q.2.1 v)
theorem qH_J {c : Nat} {q : sQ} (hC : c ≤ 12) (h : qH c q) : qJ c q := fun u v hu hv e => hi_eq hC (h u hu) (h v hv) e
theorem qH_p {c : Nat} {q q' : sQ} (h : qP q q') (g : qH c q) : qH c q' := fun v hv => by
  rw [h.1] at hv
  rw [(h.2 v hv).1]
  exact g v hv
theorem qH_set {c : Nat} {q : sQ} {s l t : Int32} {j i y : Nat} (h : qH c q) (hj : j < q.1) (hi : i < c) (hC : c ≤ 12) (hy : y < 16) : qH c (setQ s l t j (nI i) (nI y) q) := by
  intro v hv
  have hv2 : v < q.1 + 1 := hv
  show hiZ c (va_up q.2.1 q.1 (wnI (q.2.1 j) (nI i) (nI y)) v)
  by_cases e : v = q.1
  · rw [e, up_s]; exact hi_wn (h j hj) hi hC hy
  · rw [up_n e]; exact h v (by omega)
theorem qH_bg {c : Nat} {q : sQ} (hC : c ≤ 12) : qH c (bgQ (ownR c) q) := by
  intro v hv
  have e : v = 0 := by have : v < 1 := hv; omega
  subst e
  show hiZ c (va_up q.2.1 0 (ownR c) 0)
  rw [up_s]
  exact hi_own hC c (Nat.le_refl _)
theorem qH_lo {c v N : Nat} {s l t : Int32} {fr row : Int64} {q : sQ} (g : qH c q) (hI : qI c q) (hV : qV c q) (hv : v < q.1) (hC : c ≤ 12) (hrow : ∀ i, i < c → ∃ y, y < c ∧ nmI row (nI i) = nI y) (hN : N ≤ 200) (hcap : q.1 + dfN fr row c ≤ N) : ∀ i, i ≤ c → qH c (fo (loG s l t fr row) (v, q) i).2 := by
  intro i
  induction i with
  | zero => intro _; exact g
  | succ i ih =>
    intro hi
    have a1 := ih (by omega)
    obtain ⟨g1, g2, g3, g4, g5⟩ := lo_ok (s := s) (l := l) (t := t) hI hV hv hC hrow hN hcap i (by omega)
    have e1 : fo (loG s l t fr row) (v, q) (i + 1) = loG s l t fr row i (fo (loG s l t fr row) (v, q) i) := rfl
    rw [e1]
    generalize fo (loG s l t fr row) (v, q) i = X at a1 g1 g2 g3 g4 g5 ⊢
    by_cases c1 : nmI fr (nI i) = nmI row (nI i)
    · rw [loG_e c1]; exact a1
    · rw [loG_n c1]
      obtain ⟨y, hy, e2⟩ := hrow i (by omega)
      rw [e2]
      exact qH_set a1 g1 (by omega) hC (by omega)
theorem qH_ca {c N k a b e : Nat} {l t : Int32} {q : sQ} (g : qH c q) (hI : qI c q) (hV : qV c q) (hC : c ≤ 12) (hN : N ≤ 200) (hd : dV c N k a b e q) : qH c (caQ (nI c) l t c k a b e q).2 := by
  match k, hd with
  | 1, hd => exact qH_p qP_rd g
  | 2, hd => exact qH_set g hd.1 hd.2.2.1 hC (by have := hd.2.2.2; omega)
  | 3, hd =>
    obtain ⟨h1, h2, h3, h4⟩ := hd
    show qH c (setQ (nI c) l t a (if _ < _ then _ else _) (if _ < _ then _ else _) _)
    simp only [frQ_1, frQ_J]
    obtain ⟨x, hx, e1⟩ := rt_lt (row := q.2.1 a) (fun i hi => hV a h1 i hi) c b h3
    obtain ⟨y, hy, e2⟩ := rt_lt (row := q.2.1 a) (fun i hi => hV a h1 i hi) c e h4
    rw [e1, e2]
    have g2 : qH c (frQ (nI c) l t c a (nI e) (frQ (nI c) l t c a (nI b) q).2).2 := qH_p (qP_t qP_fr qP_fr) g
    by_cases c1 : nI x < nI y
    · rw [if_pos c1]
      by_cases c2 : nI y < nI x
      · rw [if_pos c2]; exact qH_set g2 h1 hy hC (by omega)
      · rw [if_neg c2]; exact qH_set g2 h1 hy hC (by omega)
    · rw [if_neg c1]
      by_cases c2 : nI y < nI x
      · rw [if_pos c2]; exact qH_set g2 h1 hx hC (by omega)
      · rw [if_neg c2]; exact qH_set g2 h1 hx hC (by omega)
  | 4, hd => exact qH_p qP_fr g
  | 5, hd => exact qH_p qP_sn g
  | 6, hd => exact qH_lo g hI hV hd.1 hC (mgR_c hV hC hd.1 hd.2.1) hN hd.2.2 c (Nat.le_refl _)
  | 7, hd => exact qH_lo g hI hV hd.2.2.1 hC (paR_c hV hC hd.2.1 hd.2.2.1) hN hd.2.2.2 c (Nat.le_refl _)
  | 0, hd => exact hd.elim
  | k + 8, hd => exact hd.elim
theorem cn_H {c N : Nat} {K P1 P2 P3 : Nat → Nat} {D : Nat} (hC : c ≤ 12) (hN : N ≤ 200) (h1N : 1 ≤ N) (hD : D ≤ 60) (hW : tW c N K P1 P2 P3 D) : ∀ i, i ≤ D → qH c (cnQ c 0 0 K P1 P2 P3 i) := by
  intro i
  induction i with
  | zero => intro _; exact qH_bg hC
  | succ i ih =>
    intro hi
    obtain ⟨b1, b2, b3⟩ := cn_ok hC hN h1N hD hW i (by omega)
    rw [cn_s (by omega)]
    exact qH_ca (ih (by omega)) b1 b2 hC hN (hW i (by omega))
-- bits counted
theorem bc_11 : ∀ a, a < 64 → ∀ b, b < 64 → fo (fun k acc => acc + ((nI (64 * a + b)) >>> (nI k &&& 31) &&& 1)) 0 12 = bcI (nI (64 * a + b)) := by decide +kernel
theorem bc_12 (n : Nat) (hn : n < 4096) : fo (fun k acc => acc + ((nI n) >>> (nI k &&& 31) &&& 1)) 0 12 = bcI (nI n) := by
  have h := bc_11 (n / 64) (by omega) (n % 64) (by omega)
  rw [show 64 * (n / 64) + n % 64 = n by omega] at h
  exact h
theorem or_12 : ∀ r, r < 12 → (1 : Int32) <<< (nI r &&& 31) = nI (2 ^ r) := by decide
theorem nI_or {a b : Nat} : nI a ||| nI b = nI (a ||| b) := by
  apply Int32.toBitVec_inj.mp
  show BitVec.ofNat 32 a ||| BitVec.ofNat 32 b = BitVec.ofNat 32 (a ||| b)
  apply BitVec.eq_of_getLsbD_eq
  intro i hi
  rw [BitVec.getLsbD_or, BitVec.getLsbD_ofNat, BitVec.getLsbD_ofNat, BitVec.getLsbD_ofNat, Nat.testBit_or]
  simp [hi]
theorem or_f {c : Nat} {g : Nat → Int32} (h : ∀ v, v < c → ∃ x, x < 12 ∧ g v = nI x) : ∀ k, k ≤ c → ∃ n, n < 4096 ∧ fo (fun v acc => acc ||| (1 : Int32) <<< (g v &&& 31)) 0 k = nI n := by
  intro k
  induction k with
  | zero => intro _; exact ⟨0, by omega, rfl⟩
  | succ k ih =>
    intro hk
    obtain ⟨n, hn, e⟩ := ih (by omega)
    obtain ⟨x, hx, e2⟩ := h k (by omega)
    refine ⟨n ||| 2 ^ x, Nat.or_lt_two_pow (n := 12) hn (Nat.pow_lt_pow_right (by omega) hx), ?_⟩
    show fo (fun v acc => acc ||| (1 : Int32) <<< (g v &&& 31)) 0 k ||| (1 : Int32) <<< (g k &&& 31) = _
    rw [e, e2, or_12 x hx, nI_or]
theorem bc_rt {c v : Nat} {q : sQ} (hV : qV c q) (hv : v < q.1) (hC : c ≤ 12) : fo (fun k acc => acc + ((fo (fun v' acc => acc ||| (1 : Int32) <<< (rt (q.2.1 v) c (nI v') &&& 31)) 0 c) >>> (nI k &&& 31) &&& 1)) 0 12 = bcI (fo (fun v' acc => acc ||| (1 : Int32) <<< (rt (q.2.1 v) c (nI v') &&& 31)) 0 c) := by
  obtain ⟨n, hn, e⟩ := or_f (g := fun v' => rt (q.2.1 v) c (nI v')) (c := c) (fun i hi => by
    obtain ⟨x, hx, e⟩ := rt_lt (row := q.2.1 v) (fun i hi => hV v hv i hi) c i hi
    exact ⟨x, by omega, e⟩) c (Nat.le_refl _)
  rw [e]
  exact bc_12 n hn
