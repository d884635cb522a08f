theorem bp_b (x : Int32) : x.toInt8.toInt32 &&& 255 = x &&& 255 := by
  apply Int32.toBitVec_inj.mp
  rw [Int32.toBitVec_and, Int32.toBitVec_and, Int8.toBitVec_toInt32, Int32.toBitVec_toInt8]
  apply BitVec.eq_of_getLsbD_eq
  intro i hi
  rw [BitVec.getLsbD_and, BitVec.getLsbD_and]
  have hm : ∀ i < 32, 8 ≤ i → (255 : Int32).toBitVec.getLsbD i = false := by decide
  rcases Nat.lt_or_ge i 8 with z | z
  · rw [BitVec.getLsbD_signExtend, BitVec.getLsbD_signExtend, if_pos z, if_pos hi]
    simp only [z, hi, decide_true, Bool.true_and]
  · rw [hm i hi z]; simp
theorem pby_b (x c : Int32) : pby x c &&& 255 = (x.toUInt32 >>> (c.toUInt32 &&& Int32.toUInt32 31)).toInt32 &&& 255 := by
  show (x.toUInt32 >>> (c.toUInt32 &&& Int32.toUInt32 31)).toInt32.toInt8.toInt32.toInt8.toInt32 &&& 255 = _
  rw [bp_b, bp_b]
theorem puG_c {x : Int32} {sg : Nat → Int32} {t : Nat} (h : t + 4 ≤ 500) : ∃ s', puG x (sg, t) = (s', t + 4) ∧ (∀ i, i < t → s' i = sg i) ∧ s' (t + 0) = pby x 24 ∧ s' (t + 1) = pby x 16 ∧ s' (t + 2) = pby x 8 ∧ s' (t + 3) = pby x 0 := by
  refine ⟨va_up (va_up (va_up (va_up sg t (pby x 24)) (t + 1) (pby x 16)) (t + 1 + 1) (pby x 8)) (t + 1 + 1 + 1) (pby x 0), ?_, fun i hi => ?_, ?_, ?_, ?_, ?_⟩
  · unfold puG
    rw [pu1_y (c := 24) (t := t) (by omega), pu1_y (c := 16) (t := t + 1) (by omega), pu1_y (c := 8) (t := t + 1 + 1) (by omega), pu1_y (c := 0) (t := t + 1 + 1 + 1) (by omega)]
  · rw [up_n (by omega), up_n (by omega), up_n (by omega), up_n (by omega)]
  · rw [up_n (by omega), up_n (by omega), up_n (by omega)]
    exact up_s
  · rw [up_n (by omega), up_n (by omega), up_s]
  · rw [up_n (by omega), up_s]
  · rw [up_s]
def feV (a b g k e : Int32) : Nat → Int32 := fun j => match j with
  | 0 => a
  | 1 => b
  | 2 => g
  | 3 => k
  | _ => e
theorem fv_c : ∀ i, i < 20 → ((24 - 8 * (nI i - nI i / 4 * 4)).toUInt32 &&& Int32.toUInt32 31) = ((if i % 4 = 0 then (24 : Int32) else if i % 4 = 1 then 16 else if i % 4 = 2 then 8 else 0).toUInt32 &&& Int32.toUInt32 31) := by decide
/-- what five ints leave on the class's tape -/
theorem pu5 {a b g k e : Int32} {sg : Nat → Int32} {t : Nat} (h : t + 20 ≤ 500) : ∃ s1 s2 s3 s4 s5, puG a (sg, t) = (s1, t + 4) ∧ puG b (s1, t + 4) = (s2, t + 8) ∧ puG g (s2, t + 8) = (s3, t + 12) ∧ puG k (s3, t + 12) = (s4, t + 16) ∧ puG e (s4, t + 16) = (s5, t + 20) ∧ (∀ i, i < t → s5 i = sg i) ∧ ∀ j, j < 20 → s5 (t + j) &&& 255 = fvB (feV a b g k e) j := by
  obtain ⟨s1, e1, o1, a0, a1, a2, a3⟩ := @puG_c a sg t (by omega)
  obtain ⟨s2, e2, o2, b0, b1, b2, b3⟩ := @puG_c b s1 (t + 4) (by omega)
  obtain ⟨s3, e3, o3, g0, g1, g2, g3⟩ := @puG_c g s2 (t + 4 + 4) (by omega)
  obtain ⟨s4, e4, o4, k0, k1, k2, k3⟩ := @puG_c k s3 (t + 4 + 4 + 4) (by omega)
  obtain ⟨s5, e5, o5, f0, f1, f2, f3⟩ := @puG_c e s4 (t + 4 + 4 + 4 + 4) (by omega)
  refine ⟨s1, s2, s3, s4, s5, e1, e2, e3, e4, e5, fun i hi => ?_, fun j hj => ?_⟩
  · rw [o5 i (by omega), o4 i (by omega), o3 i (by omega), o2 i (by omega), o1 i hi]
  · unfold fvB
    rw [fv_c j hj]
    match j, hj with
    | 0, _ => exact (congrArg (· &&& 255) ((o5 (t + 0) (by omega)).trans ((o4 (t + 0) (by omega)).trans ((o3 (t + 0) (by omega)).trans ((o2 (t + 0) (by omega)).trans (a0)))))).trans (pby_b _ _)
    | 1, _ => exact (congrArg (· &&& 255) ((o5 (t + 1) (by omega)).trans ((o4 (t + 1) (by omega)).trans ((o3 (t + 1) (by omega)).trans ((o2 (t + 1) (by omega)).trans (a1)))))).trans (pby_b _ _)
    | 2, _ => exact (congrArg (· &&& 255) ((o5 (t + 2) (by omega)).trans ((o4 (t + 2) (by omega)).trans ((o3 (t + 2) (by omega)).trans ((o2 (t + 2) (by omega)).trans (a2)))))).trans (pby_b _ _)
    | 3, _ => exact (congrArg (· &&& 255) ((o5 (t + 3) (by omega)).trans ((o4 (t + 3) (by omega)).trans ((o3 (t + 3) (by omega)).trans ((o2 (t + 3) (by omega)).trans (a3)))))).trans (pby_b _ _)
    | 4, _ => exact (congrArg (· &&& 255) ((o5 (t + 4) (by omega)).trans ((o4 (t + 4) (by omega)).trans ((o3 (t + 4) (by omega)).trans (b0))))).trans (pby_b _ _)
    | 5, _ => exact (congrArg (· &&& 255) ((o5 (t + 5) (by omega)).trans ((o4 (t + 5) (by omega)).trans ((o3 (t + 5) (by omega)).trans (b1))))).trans (pby_b _ _)
    | 6, _ => exact (congrArg (· &&& 255) ((o5 (t + 6) (by omega)).trans ((o4 (t + 6) (by omega)).trans ((o3 (t + 6) (by omega)).trans (b2))))).trans (pby_b _ _)
    | 7, _ => exact (congrArg (· &&& 255) ((o5 (t + 7) (by omega)).trans ((o4 (t + 7) (by omega)).trans ((o3 (t + 7) (by omega)).trans (b3))))).trans (pby_b _ _)
    | 8, _ => exact (congrArg (· &&& 255) ((o5 (t + 8) (by omega)).trans ((o4 (t + 8) (by omega)).trans (g0)))).trans (pby_b _ _)
    | 9, _ => exact (congrArg (· &&& 255) ((o5 (t + 9) (by omega)).trans ((o4 (t + 9) (by omega)).trans (g1)))).trans (pby_b _ _)
    | 10, _ => exact (congrArg (· &&& 255) ((o5 (t + 10) (by omega)).trans ((o4 (t + 10) (by omega)).trans (g2)))).trans (pby_b _ _)
    | 11, _ => exact (congrArg (· &&& 255) ((o5 (t + 11) (by omega)).trans ((o4 (t + 11) (by omega)).trans (g3)))).trans (pby_b _ _)
    | 12, _ => exact (congrArg (· &&& 255) ((o5 (t + 12) (by omega)).trans (k0))).trans (pby_b _ _)
    | 13, _ => exact (congrArg (· &&& 255) ((o5 (t + 13) (by omega)).trans (k1))).trans (pby_b _ _)
    | 14, _ => exact (congrArg (· &&& 255) ((o5 (t + 14) (by omega)).trans (k2))).trans (pby_b _ _)
    | 15, _ => exact (congrArg (· &&& 255) ((o5 (t + 15) (by omega)).trans (k3))).trans (pby_b _ _)
    | 16, _ => exact (congrArg (· &&& 255) (f0)).trans (pby_b _ _)
    | 17, _ => exact (congrArg (· &&& 255) (f1)).trans (pby_b _ _)
    | 18, _ => exact (congrArg (· &&& 255) (f2)).trans (pby_b _ _)
    | 19, _ => exact (congrArg (· &&& 255) (f3)).trans (pby_b _ _)
    | n + 20, hj => exact absurd hj (by omega)
theorem q_Mo_feed {sc : Option (Nat × Nat × (Nat → Int32))} {sa : Nat → Nat} {d : Nat} {M : mz_M} {m : Nat} (w : g_Mo M.2.2 m) {F : Nat → Int32} {A : Nat → Nat → Int32} {t z1 z2 : Nat} {a b g k e : Int32} (h3 : F 3 = nI t) (ht : t + 20 ≤ 500) (hz : m + 20 < z1) : mz_Kd sc sa (d + 1) 172 [.ref m, .int a, .int b, .int g, .int k, .int e] (moF M m F A) (z1, z2) (z1 + 1, z2 + 5) (fun r' M' => ∃ v, r' = some (.int v) ∧ v = nI (t + 20) ∧ ∃ M5 R, M' = moF M5 m (va_up F 3 (nI (t + 20))) (va_up A 3 R) ∧ (∀ j, j < 20 → R (t + j) = fvB (feV a b g k e) j) ∧ (∀ j, (j < t ∨ t + 20 ≤ j) → R j = A 3 j) ∧ ∀ y, y ≠ z1 → M5.1 y = M.1 y ∧ M5.2.1 y = M.2.1 y ∧ M5.2.2.1 y = M.2.2.1 y ∧ M5.2.2.2 y = M.2.2.2 y) := by
  refine zin ym_Mo_feed [.ref m, .int a, .int b, .int g, .int k, .int e, .retAddr 0, .retAddr 0] rfl rfl rfl rfl ?_
  have fk : (mz_new M z1 1 5).2.2.2 z1 = (1, 5) := up_s
  have n5 : ∀ y, y ≠ z1 → (mz_uI (mz_uI (mz_uI (mz_uI (mz_uI (mz_new M z1 1 5) z1 0 a) z1 1 b) z1 2 g) z1 3 k) z1 4 e).1 y = M.1 y ∧ (mz_uI (mz_uI (mz_uI (mz_uI (mz_uI (mz_new M z1 1 5) z1 0 a) z1 1 b) z1 2 g) z1 3 k) z1 4 e).2.1 y = M.2.1 y ∧ (mz_uI (mz_uI (mz_uI (mz_uI (mz_uI (mz_new M z1 1 5) z1 0 a) z1 1 b) z1 2 g) z1 3 k) z1 4 e).2.2.1 y = M.2.2.1 y ∧ (mz_uI (mz_uI (mz_uI (mz_uI (mz_uI (mz_new M z1 1 5) z1 0 a) z1 1 b) z1 2 g) z1 3 k) z1 4 e).2.2.2 y = M.2.2.2 y := fun y hy => ⟨by show va_up _ z1 _ y = _; rw [up_n hy]; show va_up _ z1 _ y = _; rw [up_n hy]; show va_up _ z1 _ y = _; rw [up_n hy]; show va_up _ z1 _ y = _; rw [up_n hy]; show va_up _ z1 _ y = _; rw [up_n hy]; exact up_n hy, up_n hy, up_n hy, up_n hy⟩
  have w5 : g_Mo (mz_new M z1 1 5).2.2 m := g_Mo_c (up_n (by omega)) (fun j hj => up_n (by omega)) w
  have v5 : ∀ j, j < 5 → (mz_uI (mz_uI (mz_uI (mz_uI (mz_uI (mz_new M z1 1 5) z1 0 a) z1 1 b) z1 2 g) z1 3 k) z1 4 e).1 z1 j = feV a b g k e j := by
    intro j hj
    match j, hj with
    | 0, _ => simp [mz_uI, va_up, feV]
    | 1, _ => simp [mz_uI, va_up, feV]
    | 2, _ => simp [mz_uI, va_up, feV]
    | 3, _ => simp [mz_uI, va_up, feV]
    | 4, _ => simp [mz_uI, va_up, feV]
    | n + 5, hj => exact absurd hj (by omega)
  have hk : ∀ R, (∀ j, j < 20 → R (t + j) = fvB (feV a b g k e) j) → (∀ j, (j < t ∨ t + 20 ≤ j) → R j = A 3 j) → zw sc sa d ym_Mo_feed (z1 + 1, z2 + 5) (fun r' M' => ∃ v, r' = some (.int v) ∧ v = nI (t + 20) ∧ ∃ M5 R, M' = moF M5 m (va_up F 3 (nI (t + 20))) (va_up A 3 R) ∧ (∀ j, j < 20 → R (t + j) = fvB (feV a b g k e) j) ∧ (∀ j, (j < t ∨ t + 20 ≤ j) → R j = A 3 j) ∧ ∀ y, y ≠ z1 → M5.1 y = M.1 y ∧ M5.2.1 y = M.2.1 y ∧ M5.2.2.1 y = M.2.2.1 y ∧ M5.2.2.2 y = M.2.2.2 y) 89 [.ref m, .int a, .int b, .int g, .int k, .int e, .ref z1, .int (nI 20)] [] (moF (mz_uI (mz_uI (mz_uI (mz_uI (mz_uI (mz_new M z1 1 5) z1 0 a) z1 1 b) z1 2 g) z1 3 k) z1 4 e) m F (va_up A 3 R)) (z1 + 1, z2 + 5) := by
    intro R r1 r2
    refine z_aload_n (q := 90) rfl rfl rfl ?_
    refine z_dup (q := 91) rfl rfl rfl ?_
    refine z_getI (q := 94) rfl rfl rfl (Mo_k w5) ?_
    rw [moF_g3]
    refine z_bipush (q := 96) (v := 20) rfl rfl rfl ?_
    refine z_iadd (q := 97) rfl rfl ?_
    rw [h3, show nI t + 20 = nI (t + 20) from nI_add t 20]
    refine z_putI (q := 100) rfl rfl rfl (by decide) rfl rfl (Mo_k w5) ?_
    rw [moF_u3]
    refine z_aload_n (q := 101) rfl rfl rfl ?_
    refine z_getI (q := 104) rfl rfl rfl (Mo_k w5) ?_
    rw [moF_g3]
    rw [up_s]
    refine z_ireti rfl rfl ?_
    exact ⟨_, rfl, rfl, _, R, rfl, r1, r2, n5⟩
  refine z_aload_n (q := 1) rfl rfl rfl ?_
  refine z_getI (q := 4) rfl rfl rfl (Mo_k w) ?_
  rw [moF_g3]
  refine z_sipush (q := 7) (v := 480) rfl rfl rfl ?_
  refine z_ic_le (q := 10) rfl rfl (fun h7 => ?_) (fun h7 => ?_)
  · refine z_iconst (q := 13) (v := 5) rfl rfl rfl ?_
    refine zr_na (q := 15) (kd := 1) (len := 5) rfl rfl rfl (by decide) rfl (by omega) (Nat.le_refl _) (Nat.le_refl _) ?_
    rw [moF_new hz]
    refine z_dup (q := 16) rfl rfl rfl ?_
    refine z_iconst (q := 17) (v := 0) rfl rfl rfl ?_
    refine z_iload_n (q := 18) rfl rfl rfl ?_
    refine z_iast (q := 19) rfl rfl fk (vp_in_nI (n := 0) (by omega) (by omega)) ?_
    rw [show ((0 : Int32)).toNatClampNeg = 0 from by decide, moF_far hz]
    refine z_dup (q := 20) rfl rfl rfl ?_
    refine z_iconst (q := 21) (v := 1) rfl rfl rfl ?_
    refine z_iload_n (q := 22) rfl rfl rfl ?_
    refine z_iast (q := 23) rfl rfl fk (vp_in_nI (n := 1) (by omega) (by omega)) ?_
    rw [show ((1 : Int32)).toNatClampNeg = 1 from by decide, moF_far hz]
    refine z_dup (q := 24) rfl rfl rfl ?_
    refine z_iconst (q := 25) (v := 2) rfl rfl rfl ?_
    refine z_iload_n (q := 26) rfl rfl rfl ?_
    refine z_iast (q := 27) rfl rfl fk (vp_in_nI (n := 2) (by omega) (by omega)) ?_
    rw [show ((2 : Int32)).toNatClampNeg = 2 from by decide, moF_far hz]
    refine z_dup (q := 28) rfl rfl rfl ?_
    refine z_iconst (q := 29) (v := 3) rfl rfl rfl ?_
    refine z_iload (q := 31) rfl rfl rfl ?_
    refine z_iast (q := 32) rfl rfl fk (vp_in_nI (n := 3) (by omega) (by omega)) ?_
    rw [show ((3 : Int32)).toNatClampNeg = 3 from by decide, moF_far hz]
    refine z_dup (q := 33) rfl rfl rfl ?_
    refine z_iconst (q := 34) (v := 4) rfl rfl rfl ?_
    refine z_iload (q := 36) rfl rfl rfl ?_
    refine z_iast (q := 37) rfl rfl fk (vp_in_nI (n := 4) (by omega) (by omega)) ?_
    rw [show ((4 : Int32)).toNatClampNeg = 4 from by decide, moF_far hz]
    refine z_astore (q := 39) (L2 := [_, _, _, _, _, _, _, _]) rfl rfl rfl rfl ?_
    refine z_iconst (q := 40) (v := 0) rfl rfl rfl ?_
    refine z_istore (q := 42) (L2 := [_, _, _, _, _, _, _, _]) rfl rfl rfl rfl ?_
    have g9 := l_Mo_feed (M := mz_uI (mz_uI (mz_uI (mz_uI (mz_uI (mz_new M z1 1 5) z1 0 a) z1 1 b) z1 2 g) z1 3 k) z1 4 e) (A := A) w5 h3 ht hz fk v5 hk 20 0 (A 3) rfl (fun j hj => absurd hj (by omega)) (fun j _ => rfl)
    rw [up_e] at g9
    exact g9
  · exact absurd (by rw [h3]; exact nI_le (b := 480) (by omega) (by omega)) h7
theorem n_Mo_feed {sc : Option (Nat × Nat × (Nat → Int32))} {sa : Nat → Nat} {d : Nat} {M : mz_M} {z : Nat × Nat} {m : Nat} (w : g_Mo M.2.2 m) {F : Nat → Int32} {A : Nat → Nat → Int32} {t : Nat} {a b g k e : Int32} (h3 : F 3 = nI t) (ht : ¬ t + 20 ≤ 500) (h5 : t ≤ 500)  : zi sc sa (d + 1) 172 [.ref m, .int a, .int b, .int g, .int k, .int e] (moF M m F A) z (fun v M' => v = -1 ∧ M' = moF M m F A) := by
  refine zin ym_Mo_feed [.ref m, .int a, .int b, .int g, .int k, .int e, .retAddr 0, .retAddr 0] rfl rfl rfl rfl ?_
  refine z_aload_n (q := 1) rfl rfl rfl ?_
  refine z_getI (q := 4) rfl rfl rfl (Mo_k w) ?_
  rw [moF_g3]
  refine z_sipush (q := 7) (v := 480) rfl rfl rfl ?_
  refine z_ic_le (q := 10) rfl rfl (fun h7 => ?_) (fun h7 => ?_)
  · exact absurd (by rw [h3] at h7; exact h7) (nI_ge (b := t) (a := 480) (by omega) (by omega))
  · refine z_iconst (q := 11) (v := -1) rfl rfl rfl ?_
    refine z_ireti rfl rfl ?_
    exact ⟨_, rfl, rfl, rfl⟩
