theorem k_feed1 {b n : Nat} {f : Nat → Int32} {sa : Nat → Nat} {d : Nat} {B : Nat × Nat} {Q : mz_P} {z1 z2 : Nat} {x T p r : Nat} {M : mz_M} (h : iV x T p r M) {i : Nat} (hi : 6 * i + 6 ≤ n) (hn : n ≤ 3072) (hT : T + 20 ≤ 500) (hz : x + 107 < z1) (hB1 : z1 + 1 ≤ B.1) (hB2 : z2 + 5 ≤ B.2) (hk : ∀ M2, (∃ p r, iV x (T + 20) p r M2) → zw (some (b, n, f)) sa (d + 16) ym_Law_law B Q 1834 [.ref b, .ref x, .ref (x + 87), .int (nI (6 * i))] [] M2 (z1 + 1, z2 + 5)) : zw (some (b, n, f)) sa (d + 16) ym_Law_law B Q 268 [.ref b, .ref x, .ref (x + 87), .int (nI (6 * i))] [] M (z1, z2) := by
  obtain ⟨M1, hx, e1, hm⟩ := c_feed1 (sc := some (b, n, f)) (sa := sa) (d := d) (z1 := z1) (z2 := z2) h hT hz (a := f (6 * i + 1)) (b := f (6 * i + 2)) (g := f (6 * i + 3)) (k := f (6 * i + 4)) (e := f (6 * i + 5))
  refine z_aload_n (q := 269) (lk_0 rfl rfl) rfl rfl ?_
  refine zs_arg (q := 274) (j := 1) (lk_0 rfl rfl) (lk_0 rfl rfl) (lk_0 rfl rfl) (lk_0 rfl rfl) (lk_0 rfl rfl) rfl rfl (by omega) hn ?_
  refine zs_arg (q := 279) (j := 2) (lk_0 rfl rfl) (lk_0 rfl rfl) (lk_0 rfl rfl) (lk_0 rfl rfl) (lk_0 rfl rfl) rfl rfl (by omega) hn ?_
  refine zs_arg (q := 284) (j := 3) (lk_0 rfl rfl) (lk_0 rfl rfl) (lk_0 rfl rfl) (lk_0 rfl rfl) (lk_0 rfl rfl) rfl rfl (by omega) hn ?_
  refine zs_arg (q := 289) (j := 4) (lk_0 rfl rfl) (lk_0 rfl rfl) (lk_0 rfl rfl) (lk_0 rfl rfl) (lk_0 rfl rfl) rfl rfl (by omega) hn ?_
  refine zs_arg (q := 294) (j := 5) (lk_0 rfl rfl) (lk_0 rfl rfl) (lk_0 rfl rfl) (lk_0 rfl rfl) (lk_0 rfl rfl) rfl rfl (by omega) hn ?_
  refine z_cv5i (q := 297) (lk_0 rfl rfl) rfl rfl (X_k h.1) hx ?_
  refine z_aload_n (q := 298) (lk_0 rfl rfl) rfl rfl ?_
  refine zs_arg (q := 303) (j := 1) (lk_0 rfl rfl) (lk_0 rfl rfl) (lk_0 rfl rfl) (lk_0 rfl rfl) (lk_0 rfl rfl) rfl rfl (by omega) hn ?_
  refine zs_arg (q := 308) (j := 2) (lk_0 rfl rfl) (lk_0 rfl rfl) (lk_0 rfl rfl) (lk_0 rfl rfl) (lk_0 rfl rfl) rfl rfl (by omega) hn ?_
  refine zs_arg (q := 313) (j := 3) (lk_0 rfl rfl) (lk_0 rfl rfl) (lk_0 rfl rfl) (lk_0 rfl rfl) (lk_0 rfl rfl) rfl rfl (by omega) hn ?_
  refine zs_arg (q := 318) (j := 4) (lk_0 rfl rfl) (lk_0 rfl rfl) (lk_0 rfl rfl) (lk_0 rfl rfl) (lk_0 rfl rfl) rfl rfl (by omega) hn ?_
  refine zs_arg (q := 323) (j := 5) (lk_0 rfl rfl) (lk_0 rfl rfl) (lk_0 rfl rfl) (lk_0 rfl rfl) (lk_0 rfl rfl) rfl rfl (by omega) hn ?_
  refine z_ca5 (q := 326) (z' := (z1 + 1, z2 + 5)) (lk_0 rfl rfl) rfl rfl (by rw [e1]; exact Mo_k h.2.1) (Nat.le_succ _) (Nat.le_add_right _ _) hB1 hB2 hm (fun v2 M2 g3 => ?_)
  obtain ⟨rfl, g4⟩ := g3
  refine z_ic_eq (q := 329) (lk_0 rfl rfl) rfl (fun _ => hk M2 g4) (fun hne => absurd rfl hne)
theorem k_feed0 {b n : Nat} {f : Nat → Int32} {sa : Nat → Nat} {d : Nat} {B : Nat × Nat} {Q : mz_P} {z1 z2 : Nat} {x T p r : Nat} {M : mz_M} (h : iV x T p r M) {i : Nat} (hi : 6 * i + 6 ≤ n) (hn : n ≤ 3072) (hT : ¬ T + 20 ≤ 500) (hB1 : z1 ≤ B.1) (hB2 : z2 ≤ B.2) (hk : ∀ M2, (∃ p r, iV x T p r M2) → zw (some (b, n, f)) sa (d + 16) ym_Law_law B Q 1834 [.ref b, .ref x, .ref (x + 87), .int (nI (6 * i))] [] M2 (z1, z2)) : zw (some (b, n, f)) sa (d + 16) ym_Law_law B Q 268 [.ref b, .ref x, .ref (x + 87), .int (nI (6 * i))] [] M (z1, z2) := by
  refine z_aload_n (q := 269) (lk_0 rfl rfl) rfl rfl ?_
  refine zs_arg (q := 274) (j := 1) (lk_0 rfl rfl) (lk_0 rfl rfl) (lk_0 rfl rfl) (lk_0 rfl rfl) (lk_0 rfl rfl) rfl rfl (by omega) hn ?_
  refine zs_arg (q := 279) (j := 2) (lk_0 rfl rfl) (lk_0 rfl rfl) (lk_0 rfl rfl) (lk_0 rfl rfl) (lk_0 rfl rfl) rfl rfl (by omega) hn ?_
  refine zs_arg (q := 284) (j := 3) (lk_0 rfl rfl) (lk_0 rfl rfl) (lk_0 rfl rfl) (lk_0 rfl rfl) (lk_0 rfl rfl) rfl rfl (by omega) hn ?_
  refine zs_arg (q := 289) (j := 4) (lk_0 rfl rfl) (lk_0 rfl rfl) (lk_0 rfl rfl) (lk_0 rfl rfl) (lk_0 rfl rfl) rfl rfl (by omega) hn ?_
  refine zs_arg (q := 294) (j := 5) (lk_0 rfl rfl) (lk_0 rfl rfl) (lk_0 rfl rfl) (lk_0 rfl rfl) (lk_0 rfl rfl) rfl rfl (by omega) hn ?_
  refine z_cv5qi (q := 297) (lk_0 rfl rfl) rfl rfl (X_k h.1) (c_feed0 h hT) (fun v M1 g => ?_)
  obtain ⟨g1, g2⟩ := g
  refine z_aload_n (q := 298) (lk_0 rfl rfl) rfl rfl ?_
  refine zs_arg (q := 303) (j := 1) (lk_0 rfl rfl) (lk_0 rfl rfl) (lk_0 rfl rfl) (lk_0 rfl rfl) (lk_0 rfl rfl) rfl rfl (by omega) hn ?_
  refine zs_arg (q := 308) (j := 2) (lk_0 rfl rfl) (lk_0 rfl rfl) (lk_0 rfl rfl) (lk_0 rfl rfl) (lk_0 rfl rfl) rfl rfl (by omega) hn ?_
  refine zs_arg (q := 313) (j := 3) (lk_0 rfl rfl) (lk_0 rfl rfl) (lk_0 rfl rfl) (lk_0 rfl rfl) (lk_0 rfl rfl) rfl rfl (by omega) hn ?_
  refine zs_arg (q := 318) (j := 4) (lk_0 rfl rfl) (lk_0 rfl rfl) (lk_0 rfl rfl) (lk_0 rfl rfl) (lk_0 rfl rfl) rfl rfl (by omega) hn ?_
  refine zs_arg (q := 323) (j := 5) (lk_0 rfl rfl) (lk_0 rfl rfl) (lk_0 rfl rfl) (lk_0 rfl rfl) (lk_0 rfl rfl) rfl rfl (by omega) hn ?_
  refine z_ca5 (q := 326) (z' := (z1, z2)) (lk_0 rfl rfl) rfl rfl (by rw [g1]; exact Mo_k h.2.1) (Nat.le_refl _) (Nat.le_refl _) hB1 hB2 g2 (fun v2 M2 g3 => ?_)
  obtain ⟨rfl, g4⟩ := g3
  refine z_ic_eq (q := 329) (lk_0 rfl rfl) rfl (fun _ => hk M2 g4) (fun hne => absurd rfl hne)
/-- how many bytes there are behind call i, and how many rows it makes -/
def opN (f : Nat → Int32) (i : Nat) : Nat := (f (6 * i) &&& 63).toNatClampNeg
def fdT (f : Nat → Int32) (i T : Nat) : Nat := if opN f i = 0 then (if T + 20 ≤ 500 then T + 20 else T) else if opN f i = 1 then (if ¬ f (6 * i + 1) < 0 ∧ f (6 * i + 1) ≤ nI T then (f (6 * i + 1)).toNatClampNeg else T) else if opN f i = 2 then 0 else T
def fdN (f : Nat → Int32) (i T : Nat) : Nat := if opN f i = 0 ∧ T + 20 ≤ 500 then 1 else 0
def cF (f : Nat → Int32) : Nat → Nat → Nat → Nat
  | 0, _, _ => 0
  | k + 1, i, T => fdN f i T + cF f k (i + 1) (fdT f i T)
theorem cF_s {f : Nat → Int32} {k i T : Nat} : cF f (k + 1) i T = fdN f i T + cF f k (i + 1) (fdT f i T) := rfl
theorem cF_le {f : Nat → Int32} : ∀ k i T, cF f k i T ≤ k := by
  intro k
  induction k with
  | zero => intro i T; exact Nat.le_refl _
  | succ k ih =>
    intro i T
    rw [cF_s]
    have h1 := ih (i + 1) (fdT f i T)
    have h2 : fdN f i T ≤ 1 := by
      unfold fdN
      split <;> omega
    omega
theorem m63 (y : Int32) : ∃ j, j < 64 ∧ y &&& 63 = nI j := by
  refine ⟨y.toBitVec.toNat &&& 63, ?_, ?_⟩
  · exact Nat.lt_of_le_of_lt Nat.and_le_right (by omega)
  · apply Int32.toBitVec_inj.mp
    rw [Int32.toBitVec_and]
    apply BitVec.eq_of_toNat_eq
    rw [BitVec.toNat_and]
    show _ = (BitVec.ofNat 32 _).toNat
    rw [BitVec.toNat_ofNat, Nat.mod_eq_of_lt (Nat.lt_of_le_of_lt Nat.and_le_right (by omega))]
    rfl
theorem op_e (f : Nat → Int32) (i : Nat) : opN f i < 64 ∧ f (6 * i) &&& 63 = nI (opN f i) := by
  obtain ⟨j, h1, h2⟩ := m63 (f (6 * i))
  unfold opN
  rw [h2, nI_clamp (by omega)]
  exact ⟨h1, rfl⟩
