-- bits of a set of versions
theorem ar_s (set : Int64) : ∀ v, v < 41 → (set >>> ((nI v).toInt64 &&& 63)).toBitVec = set.toBitVec.sshiftRight v
  | 0, _ => rfl
  | 1, _ => rfl
  | 2, _ => rfl
  | 3, _ => rfl
  | 4, _ => rfl
  | 5, _ => rfl
  | 6, _ => rfl
  | 7, _ => rfl
  | 8, _ => rfl
  | 9, _ => rfl
  | 10, _ => rfl
  | 11, _ => rfl
  | 12, _ => rfl
  | 13, _ => rfl
  | 14, _ => rfl
  | 15, _ => rfl
  | 16, _ => rfl
  | 17, _ => rfl
  | 18, _ => rfl
  | 19, _ => rfl
  | 20, _ => rfl
  | 21, _ => rfl
  | 22, _ => rfl
  | 23, _ => rfl
  | 24, _ => rfl
  | 25, _ => rfl
  | 26, _ => rfl
  | 27, _ => rfl
  | 28, _ => rfl
  | 29, _ => rfl
  | 30, _ => rfl
  | 31, _ => rfl
  | 32, _ => rfl
  | 33, _ => rfl
  | 34, _ => rfl
  | 35, _ => rfl
  | 36, _ => rfl
  | 37, _ => rfl
  | 38, _ => rfl
  | 39, _ => rfl
  | 40, _ => rfl
  | v + 41, h => absurd h (by omega)
theorem lo_s (set : Int64) : ∀ v, v < 41 → ((Int64.toUInt64 set >>> ((nI v).toInt64.toUInt64 &&& Int64.toUInt64 63)).toInt64).toBitVec = set.toBitVec >>> v
  | 0, _ => rfl
  | 1, _ => rfl
  | 2, _ => rfl
  | 3, _ => rfl
  | 4, _ => rfl
  | 5, _ => rfl
  | 6, _ => rfl
  | 7, _ => rfl
  | 8, _ => rfl
  | 9, _ => rfl
  | 10, _ => rfl
  | 11, _ => rfl
  | 12, _ => rfl
  | 13, _ => rfl
  | 14, _ => rfl
  | 15, _ => rfl
  | 16, _ => rfl
  | 17, _ => rfl
  | 18, _ => rfl
  | 19, _ => rfl
  | 20, _ => rfl
  | 21, _ => rfl
  | 22, _ => rfl
  | 23, _ => rfl
  | 24, _ => rfl
  | 25, _ => rfl
  | 26, _ => rfl
  | 27, _ => rfl
  | 28, _ => rfl
  | 29, _ => rfl
  | 30, _ => rfl
  | 31, _ => rfl
  | 32, _ => rfl
  | 33, _ => rfl
  | 34, _ => rfl
  | 35, _ => rfl
  | 36, _ => rfl
  | 37, _ => rfl
  | 38, _ => rfl
  | 39, _ => rfl
  | 40, _ => rfl
  | v + 41, h => absurd h (by omega)
def btv (set : Int64) (v : Nat) : Bool := set.toBitVec.getLsbD v
theorem b1_n (i : Nat) : (1#64).getLsbD i = decide (i = 0) := by
  have h : (1#64).getLsbD i = (decide (i < 64) && Nat.testBit 1 i) := BitVec.getLsbD_ofNat 64 1 i
  rw [h]
  cases i with
  | zero => rfl
  | succ i =>
    have g : Nat.testBit 1 (i + 1) = false := Nat.testBit_lt_two_pow (by
      have := Nat.one_lt_two_pow (n := i + 1) (by omega)
      exact this)
    rw [g]
    simp
theorem and1 (x : BitVec 64) : x &&& 1#64 = if x.getLsbD 0 then 1#64 else 0#64 := by
  apply BitVec.eq_of_getLsbD_eq
  intro i hi
  rw [BitVec.getLsbD_and, b1_n]
  by_cases e : i = 0
  · subst e
    cases h : x.getLsbD 0
    · simp
    · simp
  · cases h : x.getLsbD 0
    · simp [e]
    · simp [e, b1_n]
theorem ar_b {set : Int64} {v : Nat} (hv : v < 41) : (set >>> ((nI v).toInt64 &&& 63)) &&& 1 = if btv set v then 1 else 0 := by
  apply Int64.toBitVec_inj.mp
  show (set >>> ((nI v).toInt64 &&& 63)).toBitVec &&& 1#64 = _
  rw [ar_s set v hv, and1, BitVec.getLsbD_sshiftRight]
  unfold btv
  have e : (!decide (64 ≤ 0) && if v + 0 < 64 then set.toBitVec.getLsbD (v + 0) else set.toBitVec.msb) = set.toBitVec.getLsbD v := by
    rw [if_pos (by omega)]
    rfl
  rw [e]
  cases set.toBitVec.getLsbD v <;> rfl
theorem lo_b {set : Int64} {v : Nat} (hv : v < 41) : (Int64.toUInt64 set >>> ((nI v).toInt64.toUInt64 &&& Int64.toUInt64 63)).toInt64 &&& 1 = if btv set v then 1 else 0 := by
  apply Int64.toBitVec_inj.mp
  show ((Int64.toUInt64 set >>> ((nI v).toInt64.toUInt64 &&& Int64.toUInt64 63)).toInt64).toBitVec &&& 1#64 = _
  rw [lo_s set v hv, and1, BitVec.getLsbD_ushiftRight]
  unfold btv
  rw [Nat.add_zero]
  cases set.toBitVec.getLsbD v <;> rfl
theorem lo_0 {set : Int64} {v : Nat} (hv : v < 41) : lg_cmp ((Int64.toUInt64 set >>> ((nI v).toInt64.toUInt64 &&& Int64.toUInt64 63)).toInt64 &&& 1) 0 = 0 ↔ btv set v = false := by
  rw [lg_cmp_eq, lo_b hv]
  cases btv set v
  · exact ⟨fun _ => rfl, fun _ => rfl⟩
  · exact ⟨fun h => absurd h (by decide), fun h => absurd h (by decide)⟩
theorem ar_1 {set : Int64} {v : Nat} (hv : v < 41) : lg_cmp ((set >>> ((nI v).toInt64 &&& 63)) &&& 1) 1 = 0 ↔ btv set v = true := by
  rw [lg_cmp_eq, ar_b hv]
  cases btv set v
  · exact ⟨fun h => absurd h (by decide), fun h => absurd h (by decide)⟩
  · exact ⟨fun _ => rfl, fun _ => rfl⟩
theorem ar_0 {set : Int64} {v : Nat} (hv : v < 41) : lg_cmp ((set >>> ((nI v).toInt64 &&& 63)) &&& 1) 0 = 0 ↔ btv set v = false := by
  rw [lg_cmp_eq, ar_b hv]
  cases btv set v
  · exact ⟨fun _ => rfl, fun _ => rfl⟩
  · exact ⟨fun h => absurd h (by decide), fun h => absurd h (by decide)⟩
theorem set_ok {set : Int64} {v : Nat} (h0 : 0 < v) (hv : v < 41) : (¬ set < 0 ∧ (set >>> ((nI v).toInt64 &&& 63)) = 0) ↔ (Int64.toUInt64 set >>> ((nI v).toInt64.toUInt64 &&& Int64.toUInt64 63)).toInt64 = 0 := by
  have e1 : ((set >>> ((nI v).toInt64 &&& 63)) = 0) ↔ set.toBitVec.sshiftRight v = 0#64 := by
    rw [← ar_s set v hv]
    exact Int64.toBitVec_inj.symm
  have e2 : ((Int64.toUInt64 set >>> ((nI v).toInt64.toUInt64 &&& Int64.toUInt64 63)).toInt64 = 0) ↔ set.toBitVec >>> v = 0#64 := by
    rw [← lo_s set v hv]
    exact Int64.toBitVec_inj.symm
  have e3 : set < 0 ↔ set.toBitVec.msb = true := by
    rw [Int64.lt_iff_toBitVec_slt]
    show set.toBitVec.slt 0#64 = true ↔ _
    rw [BitVec.slt_zero_eq_msb]
  rw [e1, e2, e3]
  cases hm : set.toBitVec.msb
  · rw [BitVec.sshiftRight_eq_of_msb_false hm]
    simp
  · constructor
    · intro h
      exact absurd rfl h.1
    · intro h
      have g : (set.toBitVec >>> v).getLsbD (63 - v) = true := by
        rw [BitVec.getLsbD_ushiftRight, show v + (63 - v) = 64 - 1 by omega, ← BitVec.msb_eq_getLsbD_last]
        exact hm
      rw [h] at g
      simp at g
theorem wb_or {f : Nat → Int32} : ∀ k a b, wbI f k a b = b ||| wbI f k a 0 := by
  intro k
  induction k with
  | zero =>
    intro a b
    exact (Int64.or_zero).symm
  | succ k ih =>
    intro a b
    unfold wbI
    by_cases e : a = -1
    · rw [if_pos e, if_pos e, Int64.or_zero]
    · rw [if_neg e, if_neg e, ih, ih _ (0 ||| _), Int64.zero_or, Int64.or_assoc]
theorem wb_c {f g : Nat → Int32} {n : Nat} (h : ∀ v, v < n → f v = g v) (ho : okl f n) (hn : n < 2 ^ 31) : ∀ k a b, okv n a → wbI f k a b = wbI g k a b := by
  intro k
  induction k with
  | zero => intro a b _; rfl
  | succ k ih =>
    intro a b ha
    unfold wbI
    by_cases e : a = -1
    · rw [if_pos e, if_pos e]
    · rw [if_neg e, if_neg e]
      rcases ha with g1 | ⟨u, hu, g1⟩
      · exact absurd g1 e
      · rw [g1, nI_clamp (by omega), ← h u hu]
        refine ih _ _ ?_
        rcases ho u hu with g2 | ⟨x, g2, g3⟩
        · exact Or.inl g2
        · exact Or.inr ⟨x, g2, g3⟩
theorem q_Mo_isSet {sc : Option (Nat × Nat × (Nat → Int32))} {sa : Nat → Nat} {d : Nat} {M : mz_M} {z : Nat × Nat} {m : Nat} (w : g_Mo M.2.2 m) {F : Nat → Int32} {A : Nat → Nat → Int32} {c N D : Nat} {l t : Int32} {K P1 P2 P3 : Nat → Nat} {q : sQ} (hX : mX c N D l t K P1 P2 P3 q A) {set : Int64} : zi sc sa (d + 11) 259 [.ref m, .long set] (moF M m F A) z (fun x M' => x = bz ((Int64.toUInt64 set >>> ((nI q.1).toInt64.toUInt64 &&& Int64.toUInt64 63)).toInt64 = 0) ∧ ∃ F' A', M' = moF M m F' A' ∧ mPe F A F' A' ∧ ((Int64.toUInt64 set >>> ((nI q.1).toInt64.toUInt64 &&& Int64.toUInt64 63)).toInt64 = 0 → mW c D l t K P1 P2 P3 q F A F' A')) := by
  obtain ⟨⟨c1, c2, c3, c4, c5⟩, ⟨k1, k2, k3, k4, ln, k5, k6, k7⟩, hd, hv, he, hI, hV, hn⟩ := id hX
  have b1 := hI.1
  have b2 := hI.2.1
  refine zin ym_Mo_isSet [.ref m, .long set, .retAddr 0] rfl rfl rfl rfl ?_
  refine z_aload_n (q := 1) rfl rfl rfl ?_
  refine z_cv0i (q := 4) rfl rfl rfl (Mo_k w) (s_Mo_is w k7 k5 k6) ?_
  refine z_if_eq (q := 7) rfl rfl (fun h4 => ?_) (fun h4 => ?_)
  · exact absurd h4 (by decide)
  · refine z_lload_n (q := 8) rfl rfl rfl ?_
    refine z_lconst (q := 9) (v := 0) rfl rfl rfl ?_
    refine z_lcmp (q := 10) rfl rfl ?_
    refine z_if_ge (q := 13) rfl rfl (fun h10 => ?_) (fun h10 => ?_)
    · refine z_aload_n (q := 16) rfl rfl rfl ?_
      refine z_cv0qi (q := 19) rfl rfl rfl (Mo_k w) (q_Mo_playsX w hX) (fun x9 M9 h9 => ?_)
      obtain ⟨p9, q9, rfl, FF, AA, rfl, ww⟩ := h9
      refine z_pop (q := 20) rfl rfl rfl ?_
      refine z_lload_n (q := 21) rfl rfl rfl ?_
      refine z_aload_n (q := 22) rfl rfl rfl ?_
      refine z_getI (q := 25) rfl rfl rfl (Mo_k w) ?_
      rw [moF_g14]
      rw [ww.1]
      refine z_lshr (q := 26) rfl rfl ?_
      refine z_lconst (q := 27) (v := 0) rfl rfl rfl ?_
      refine z_lcmp (q := 28) rfl rfl ?_
      refine z_if_ne (q := 31) rfl rfl (fun h28 => ?_) (fun h28 => ?_)
      · refine z_iconst (q := 36) (v := 0) rfl rfl rfl ?_
        refine z_iretz rfl rfl (rfl) ?_
        first
          | exact qz_r (bz_t ((set_ok b1 (by omega)).mp ⟨fun h => absurd ((lg_cmp_lt _ _).mpr h) (Int32.not_lt.mpr h10), (lg_cmp_eq _ _).mp h28⟩)).symm ⟨FF, AA, rfl, mPe_w ww, fun _ => ww⟩
          | exact qz_r (bz_f (fun h => h28 ((lg_cmp_eq _ _).mpr ((set_ok b1 (by omega)).mpr h).2))).symm ⟨FF, AA, rfl, mPe_w ww, fun _ => ww⟩
          | exact qz_r (bz_f (fun h => h10 ((lg_cmp_ge _ _).mpr (Int64.not_lt.mp ((set_ok b1 (by omega)).mpr h).1)))).symm ⟨F, A, rfl, mPe_r, fun h => absurd ((lg_cmp_ge _ _).mpr (Int64.not_lt.mp ((set_ok b1 (by omega)).mpr h).1)) h10⟩
          | fail "none"
      · refine z_iconst (q := 32) (v := 1) rfl rfl rfl ?_
        refine z_goto rfl ?_
        refine z_iretz rfl rfl (rfl) ?_
        first
          | exact qz_r (bz_t ((set_ok b1 (by omega)).mp ⟨fun h => absurd ((lg_cmp_lt _ _).mpr h) (Int32.not_lt.mpr h10), (lg_cmp_eq _ _).mp h28⟩)).symm ⟨FF, AA, rfl, mPe_w ww, fun _ => ww⟩
          | exact qz_r (bz_f (fun h => h28 ((lg_cmp_eq _ _).mpr ((set_ok b1 (by omega)).mpr h).2))).symm ⟨FF, AA, rfl, mPe_w ww, fun _ => ww⟩
          | exact qz_r (bz_f (fun h => h10 ((lg_cmp_ge _ _).mpr (Int64.not_lt.mp ((set_ok b1 (by omega)).mpr h).1)))).symm ⟨F, A, rfl, mPe_r, fun h => absurd ((lg_cmp_ge _ _).mpr (Int64.not_lt.mp ((set_ok b1 (by omega)).mpr h).1)) h10⟩
          | fail "none"
    · refine z_iconst (q := 14) (v := 0) rfl rfl rfl ?_
      refine z_iretz rfl rfl (rfl) ?_
      first
        | exact qz_r (bz_t ((set_ok b1 (by omega)).mp ⟨fun h => absurd ((lg_cmp_lt _ _).mpr h) (Int32.not_lt.mpr h10), (lg_cmp_eq _ _).mp h28⟩)).symm ⟨FF, AA, rfl, mPe_w ww, fun _ => ww⟩
        | exact qz_r (bz_f (fun h => h28 ((lg_cmp_eq _ _).mpr ((set_ok b1 (by omega)).mpr h).2))).symm ⟨FF, AA, rfl, mPe_w ww, fun _ => ww⟩
        | exact qz_r (bz_f (fun h => h10 ((lg_cmp_ge _ _).mpr (Int64.not_lt.mp ((set_ok b1 (by omega)).mpr h).1)))).symm ⟨F, A, rfl, mPe_r, fun h => absurd ((lg_cmp_ge _ _).mpr (Int64.not_lt.mp ((set_ok b1 (by omega)).mpr h).1)) h10⟩
        | fail "none"
theorem ka_in {n k : Nat} {a : Int32} {f : Nat → Int32} (h : a = -1 ∨ ∃ u, u < n ∧ a = nI u ∧ wl f n u < k) (h1 : ¬ a = -1) (hn : n ≤ 201) : vp_in a 201 := by
  rcases h with g | ⟨u, g1, g2, g3⟩
  · exact absurd g h1
  · rw [g2]
    exact vp_in_nI (by omega) (by omega)
theorem wl_ok {f : Nat → Int32} {n : Nat} (hf : acy f n) (hn : n < 2 ^ 31) {v : Nat} (hv : v < n) : wl f n v < n := wl_lt hf hn n hv
theorem l_Mo_kept1 {sc : Option (Nat × Nat × (Nat → Int32))} {sa : Nat → Nat} {d : Nat} {M : mz_M} {z : Nat × Nat} {m : Nat} (w : g_Mo M.2.2 m) {F : Nat → Int32} {A : Nat → Nat → Int32} {c : Nat} {q : sQ} (hl : mAl A q) (hI : qI c q) (h14 : F 14 = nI q.1) (h40 : q.1 ≤ 40) {set : Int64} {v : Nat} (hv : v < q.1) (hb : btv set v = true) {Q : mz_P} {R : Int64} (hk : ∀ a, zw sc sa d ym_Mo_keptOf z Q 54 [.ref m, .long set, .retAddr 0, .long R, .retAddr 0, .int (nI v), .int a] [] (moF M m F A) z)  : ∀ (k : Nat) (a : Int32) (b : Int64), (a = -1 ∨ ∃ u, u < q.1 ∧ a = nI u ∧ wl q.2.2.1 q.1 u < k) → wbI q.2.2.1 k a b = R → zw sc sa d ym_Mo_keptOf z Q 18 [.ref m, .long set, .retAddr 0, .long b, .retAddr 0, .int (nI v), .int a] [] (moF M m F A) z := by
  intro k
  induction k with
  | zero =>
    intro a b ha hr
    have e1 : a = -1 := by
      rcases ha with g | ⟨u, _, _, g⟩
      · exact g
      · exact absurd g (Nat.not_lt_zero _)
    subst e1
    have e2 : b = R := hr
    subst e2
    refine z_iload (q := 20) rfl rfl rfl ?_
    refine z_iconst (q := 21) (v := -1) rfl rfl rfl ?_
    refine z_ic_eq (q := 24) rfl rfl (fun h21 => ?_) (fun h21 => ?_)
    · exact hk _
    · exact absurd rfl h21
  | succ k ih =>
    intro a b ha hr
    have b2 := hI.2.1
    have hvb := (ar_1 (set := set) (show v < 41 by omega)).mpr hb
    unfold wbI at hr
    refine z_iload (q := 20) rfl rfl rfl ?_
    refine z_iconst (q := 21) (v := -1) rfl rfl rfl ?_
    refine z_ic_eq (q := 24) rfl rfl (fun h21 => ?_) (fun h21 => ?_)
    · rw [if_pos h21] at hr
      subst hr
      exact hk _
    · refine z_lload_n (q := 25) rfl rfl rfl ?_
      refine z_iload (q := 27) rfl rfl rfl ?_
      refine z_lshr (q := 28) rfl rfl ?_
      refine z_lconst (q := 29) (v := 1) rfl rfl rfl ?_
      refine z_land (q := 30) rfl rfl ?_
      refine z_lconst (q := 31) (v := 1) rfl rfl rfl ?_
      refine z_lcmp (q := 32) rfl rfl ?_
      refine z_if_ne (q := 35) rfl rfl (fun h32 => ?_) (fun h32 => ?_)
      · exact absurd hvb h32
      · refine z_lload_n (q := 36) rfl rfl rfl ?_
        refine z_lconst (q := 37) (v := 1) rfl rfl rfl ?_
        refine z_iload (q := 39) rfl rfl rfl ?_
        refine z_lshl (q := 40) rfl rfl ?_
        refine z_lor (q := 41) rfl rfl ?_
        refine z_lstore_n (q := 42) (L2 := [_, _, _, _, _, _, _]) rfl rfl rfl rfl ?_
        refine z_aload_n (q := 43) rfl rfl rfl ?_
        refine z_getR (q := 46) rfl rfl rfl (Mo_k w) (Mo_r10 w) ?_
        refine z_iload (q := 48) rfl rfl rfl ?_
        refine z_iald (q := 49) rfl rfl (Mo_a10 w) (ka_in ha h21 b2) ?_
        rw [moF_a10]
        try rw [nI_clamp (by omega)]
        refine z_istore (q := 51) (L2 := [_, _, _, _, _, _, _]) rfl rfl rfl rfl ?_
        refine z_goto rfl ?_
        rw [if_neg h21] at hr
        rcases ha with g | ⟨u, g1, g2, g3⟩
        · exact absurd g h21
        · subst g2
          rw [nI_clamp (by omega)] at hr
          rw [nI_clamp (by omega), (hl u g1).1]
          refine ih _ _ ?_ hr
          by_cases e : q.2.2.1 u = -1
          · exact Or.inl e
          · have g4 := okl_nx hI.2.2.1.1 (by omega) g1 e
            have g5 := wl_rec hI.2.2.1 (by omega) g1
            rw [if_neg e] at g5
            exact Or.inr ⟨_, g4.1, g4.2, by omega⟩
theorem l_Mo_kept {sc : Option (Nat × Nat × (Nat → Int32))} {sa : Nat → Nat} {d : Nat} {M : mz_M} {z : Nat × Nat} {m : Nat} (w : g_Mo M.2.2 m) {F : Nat → Int32} {A : Nat → Nat → Int32} {c : Nat} {q : sQ} (hl : mAl A q) (hI : qI c q) (h14 : F 14 = nI q.1) (h40 : q.1 ≤ 40) {set : Int64} : ∀ (k : Nat) (i : Nat) (x6 : Value), i + k = q.1 → zw sc sa d ym_Mo_keptOf z (fun r' M' => r' = some (.long (fo (fun v acc => if lg_cmp ((Int64.toUInt64 (set) >>> ((nI v).toInt64.toUInt64 &&& Int64.toUInt64 63)).toInt64 &&& 1) 0 = 0 then acc else acc ||| wbI q.2.2.1 q.1 (nI v) 0) set q.1)) ∧ M' = (moF M m F A)) 5 [.ref m, .long set, .retAddr 0, .long (fo (fun v acc => if lg_cmp ((Int64.toUInt64 (set) >>> ((nI v).toInt64.toUInt64 &&& Int64.toUInt64 63)).toInt64 &&& 1) 0 = 0 then acc else acc ||| wbI q.2.2.1 q.1 (nI v) 0) set i), .retAddr 0, .int (nI i), x6] [] (moF M m F A) z := by
  intro k
  induction k with
  | zero =>
    intro i x6 hi
    have e1 : i = q.1 := by omega
    subst e1
    refine z_iload (q := 7) rfl rfl rfl ?_
    refine z_aload_n (q := 8) rfl rfl rfl ?_
    refine z_getI (q := 11) rfl rfl rfl (Mo_k w) ?_
    rw [moF_g14]
    rw [h14]
    refine z_ic_ge (q := 14) rfl rfl (fun h11 => ?_) (fun h11 => ?_)
    · refine z_lload_n (q := 61) rfl rfl rfl ?_
      refine z_lret rfl rfl ?_
      exact ⟨rfl, rfl⟩
    · exact absurd (Int32.le_refl _) h11
  | succ k ih =>
    intro i x6 hi
    have b2 := hI.2.1
    have hi2 : i < q.1 := by omega
    cases hb : btv set i
    · have hz := (lo_0 (set := set) (show i < 41 by omega)).mpr hb
      refine z_iload (q := 7) rfl rfl rfl ?_
      refine z_aload_n (q := 8) rfl rfl rfl ?_
      refine z_getI (q := 11) rfl rfl rfl (Mo_k w) ?_
      rw [moF_g14]
      rw [h14]
      refine z_ic_ge (q := 14) rfl rfl (fun h11 => ?_) (fun h11 => ?_)
      · exact absurd h11 (nI_ge (by omega) (by omega))
      · refine z_iload (q := 16) rfl rfl rfl ?_
        refine z_istore (q := 18) (L2 := [_, _, _, _, _, _, _]) rfl rfl rfl rfl ?_
        refine z_iload (q := 20) rfl rfl rfl ?_
        refine z_iconst (q := 21) (v := -1) rfl rfl rfl ?_
        refine z_ic_eq (q := 24) rfl rfl (fun h21 => ?_) (fun h21 => ?_)
        · exact absurd h21 (nI_m1 (by omega))
        · refine z_lload_n (q := 25) rfl rfl rfl ?_
          refine z_iload (q := 27) rfl rfl rfl ?_
          refine z_lshr (q := 28) rfl rfl ?_
          refine z_lconst (q := 29) (v := 1) rfl rfl rfl ?_
          refine z_land (q := 30) rfl rfl ?_
          refine z_lconst (q := 31) (v := 1) rfl rfl rfl ?_
          refine z_lcmp (q := 32) rfl rfl ?_
          refine z_if_ne (q := 35) rfl rfl (fun h32 => ?_) (fun h32 => ?_)
          · refine z_iinc (q := 57) (L2 := [_, _, _, _, _, _, _]) rfl rfl rfl rfl ?_
            refine z_goto rfl ?_
            rw [show nI i + Int32.ofInt 1 = nI (i + 1) from (nI_succ i).symm]
            have e9 := fun u => ih (i + 1) u (by omega)
            rw [show fo (fun v acc => if lg_cmp ((Int64.toUInt64 (set) >>> ((nI v).toInt64.toUInt64 &&& Int64.toUInt64 63)).toInt64 &&& 1) 0 = 0 then acc else acc ||| wbI q.2.2.1 q.1 (nI v) 0) set (i + 1) = fo (fun v acc => if lg_cmp ((Int64.toUInt64 (set) >>> ((nI v).toInt64.toUInt64 &&& Int64.toUInt64 63)).toInt64 &&& 1) 0 = 0 then acc else acc ||| wbI q.2.2.1 q.1 (nI v) 0) set i from if_pos hz] at e9
            exact e9 _
          · have g9 := (ar_1 (set := set) (show i < 41 by omega)).mp h32
            rw [hb] at g9
            exact absurd g9 (by decide)
    · have hz : ¬ lg_cmp ((Int64.toUInt64 (set) >>> ((nI i).toInt64.toUInt64 &&& Int64.toUInt64 63)).toInt64 &&& 1) 0 = 0 := fun g => by
        have := (lo_0 (set := set) (show i < 41 by omega)).mp g
        rw [hb] at this
        exact absurd this (by decide)
      refine z_iload (q := 7) rfl rfl rfl ?_
      refine z_aload_n (q := 8) rfl rfl rfl ?_
      refine z_getI (q := 11) rfl rfl rfl (Mo_k w) ?_
      rw [moF_g14]
      rw [h14]
      refine z_ic_ge (q := 14) rfl rfl (fun h11 => ?_) (fun h11 => ?_)
      · exact absurd h11 (nI_ge (by omega) (by omega))
      · refine z_iload (q := 16) rfl rfl rfl ?_
        refine z_istore (q := 18) (L2 := [_, _, _, _, _, _, _]) rfl rfl rfl rfl ?_
        refine l_Mo_kept1 w hl hI h14 h40 hi2 hb (fun a => ?_) q.1 (nI i) (fo (fun v acc => if lg_cmp ((Int64.toUInt64 (set) >>> ((nI v).toInt64.toUInt64 &&& Int64.toUInt64 63)).toInt64 &&& 1) 0 = 0 then acc else acc ||| wbI q.2.2.1 q.1 (nI v) 0) set i) (Or.inr ⟨i, hi2, rfl, wl_lt hI.2.2.1 (by omega) _ hi2⟩) rfl
        refine z_iinc (q := 57) (L2 := [_, _, _, _, _, _, _]) rfl rfl rfl rfl ?_
        refine z_goto rfl ?_
        rw [show nI i + Int32.ofInt 1 = nI (i + 1) from (nI_succ i).symm]
        have e9 := fun u => ih (i + 1) u (by omega)
        rw [show fo (fun v acc => if lg_cmp ((Int64.toUInt64 (set) >>> ((nI v).toInt64.toUInt64 &&& Int64.toUInt64 63)).toInt64 &&& 1) 0 = 0 then acc else acc ||| wbI q.2.2.1 q.1 (nI v) 0) set (i + 1) = fo (fun v acc => if lg_cmp ((Int64.toUInt64 (set) >>> ((nI v).toInt64.toUInt64 &&& Int64.toUInt64 63)).toInt64 &&& 1) 0 = 0 then acc else acc ||| wbI q.2.2.1 q.1 (nI v) 0) set i ||| wbI q.2.2.1 q.1 (nI i) 0 from if_neg hz, ← wb_or] at e9
        exact e9 _
theorem s_Mo_keptOf {sc : Option (Nat × Nat × (Nat → Int32))} {sa : Nat → Nat} {d : Nat} {M : mz_M} {z : Nat × Nat} {m : Nat} (w : g_Mo M.2.2 m) {F : Nat → Int32} {A : Nat → Nat → Int32} {c : Nat} {q : sQ} (hl : mAl A q) (hI : qI c q) (h14 : F 14 = nI q.1) (h40 : q.1 ≤ 40) {set : Int64}  : zx sc sa (d + 1) 260 [.ref m, .long set] (moF M m F A) z z (some (.long (fo (fun v acc => if lg_cmp ((Int64.toUInt64 (set) >>> ((nI v).toInt64.toUInt64 &&& Int64.toUInt64 63)).toInt64 &&& 1) 0 = 0 then acc else acc ||| wbI q.2.2.1 q.1 (nI v) 0) set q.1))) (moF M m F A) := by
  refine zxin ym_Mo_keptOf [.ref m, .long set, .retAddr 0, .retAddr 0, .retAddr 0, .retAddr 0, .retAddr 0] rfl rfl rfl rfl ?_
  refine z_lload_n (q := 1) rfl rfl rfl ?_
  refine z_lstore_n (q := 2) (L2 := [_, _, _, _, _, _, _]) rfl rfl rfl rfl ?_
  refine z_iconst (q := 3) (v := 0) rfl rfl rfl ?_
  refine z_istore (q := 5) (L2 := [_, _, _, _, _, _, _]) rfl rfl rfl rfl ?_
  exact l_Mo_kept w hl hI h14 h40 q.1 0 _ (by omega)
theorem ql_t {P : Prop} [Decidable P] {x e : Int64} {R : Prop} (h : P) (he : x = e) (hr : R) : ∃ v, some (Value.long x) = some (Value.long v) ∧ (v = (if P then e else -2) ∧ R) := ⟨x, rfl, by rw [if_pos h]; exact he, hr⟩
theorem ql_f {P : Prop} [Decidable P] {e : Int64} {R : Prop} (h : ¬ P) (hr : R) : ∃ v, some (Value.long (-2)) = some (Value.long v) ∧ (v = (if P then e else -2) ∧ R) := ⟨-2, rfl, by rw [if_neg h], hr⟩
theorem q_Mo_keeps {sc : Option (Nat × Nat × (Nat → Int32))} {sa : Nat → Nat} {d : Nat} {M : mz_M} {z : Nat × Nat} {m : Nat} (w : g_Mo M.2.2 m) {F : Nat → Int32} {A : Nat → Nat → Int32} {c N D : Nat} {l t : Int32} {K P1 P2 P3 : Nat → Nat} {q : sQ} (hX : mX c N D l t K P1 P2 P3 q A) {set : Int64} : zl sc sa (d + 12) 261 [.ref m, .long set] (moF M m F A) z (fun x M' => x = (if (Int64.toUInt64 set >>> ((nI q.1).toInt64.toUInt64 &&& Int64.toUInt64 63)).toInt64 = 0 then fo (fun v acc => if lg_cmp ((Int64.toUInt64 (set) >>> ((nI v).toInt64.toUInt64 &&& Int64.toUInt64 63)).toInt64 &&& 1) 0 = 0 then acc else acc ||| wbI q.2.2.1 q.1 (nI v) 0) set q.1 else -2) ∧ ∃ F' A', M' = moF M m F' A' ∧ mPe F A F' A') := by
  obtain ⟨⟨c1, c2, c3, c4, c5⟩, ⟨k1, k2, k3, k4, ln, k5, k6, k7⟩, hd, hv, he, hI, hV, hn⟩ := id hX
  have b1 := hI.1
  have b2 := hI.2.1
  refine zin ym_Mo_keeps [.ref m, .long set, .retAddr 0] rfl rfl rfl rfl ?_
  refine z_aload_n (q := 1) rfl rfl rfl ?_
  refine z_lload_n (q := 2) rfl rfl rfl ?_
  refine z_cv1qi (q := 5) rfl rfl rfl (Mo_k w) (q_Mo_isSet w hX) (fun x9 M9 h9 => ?_)
  obtain ⟨rfl, FF, AA, rfl, wp, ww0⟩ := h9
  refine z_if_eq (q := 8) rfl rfl (fun h5 => ?_) (fun h5 => ?_)
  · refine z_ldc2 (q := 19) (v := -2) rfl rfl rfl ?_
    refine z_lret rfl rfl ?_
    first
      | exact ql_t (bz_n.mp h5) rfl ⟨FF, AA, rfl, wp⟩
      | exact ql_f (bz_0.mp h5) ⟨FF, AA, rfl, wp⟩
      | fail "none"
  · refine z_aload_n (q := 9) rfl rfl rfl ?_
    have ww := ww0 (bz_n.mp h5)
    refine z_lload_n (q := 10) rfl rfl rfl ?_
    refine z_cv1l (q := 13) rfl rfl rfl (Mo_k w) (s_Mo_keptOf w ww.2.2.2.1 hI ww.1 hn) ?_
    refine z_goto rfl ?_
    refine z_lret rfl rfl ?_
    first
      | exact ql_t (bz_n.mp h5) rfl ⟨FF, AA, rfl, wp⟩
      | exact ql_f (bz_0.mp h5) ⟨FF, AA, rfl, wp⟩
      | fail "none"
theorem l_Mo_room {sc : Option (Nat × Nat × (Nat → Int32))} {sa : Nat → Nat} {d : Nat} {M : mz_M} {z : Nat × Nat} {m : Nat} (w : g_Mo M.2.2 m) {F : Nat → Int32} {A : Nat → Nat → Int32} {c : Nat} {q : sQ} (hl : mAl A q) (hI : qI c q) (h14 : F 14 = nI q.1) (h40 : q.1 ≤ 40) {set : Int64} (hs : A 1 0 = nI c) {all : Int64} : ∀ (k : Nat) (i : Nat), i + k = q.1 → zw sc sa d ym_Mo_room z (fun r' M' => r' = some (.int (fo (fun v acc => if lg_cmp ((Int64.toUInt64 all >>> ((nI v).toInt64.toUInt64 &&& Int64.toUInt64 63)).toInt64 &&& 1) 0 = 0 then acc else acc + (if q.2.2.1 v = -1 then nI c else 3)) 0 q.1)) ∧ M' = (moF M m F A)) 23 [.ref m, .long set, .retAddr 0, .long all, .retAddr 0, .int (fo (fun v acc => if lg_cmp ((Int64.toUInt64 all >>> ((nI v).toInt64.toUInt64 &&& Int64.toUInt64 63)).toInt64 &&& 1) 0 = 0 then acc else acc + (if q.2.2.1 v = -1 then nI c else 3)) 0 i), .int (nI i)] [] (moF M m F A) z := by
  intro k
  induction k with
  | zero =>
    intro i hi
    have e1 : i = q.1 := by omega
    subst e1
    refine z_iload (q := 25) rfl rfl rfl ?_
    refine z_aload_n (q := 26) rfl rfl rfl ?_
    refine z_getI (q := 29) rfl rfl rfl (Mo_k w) ?_
    rw [moF_g14]
    rw [h14]
    refine z_ic_ge (q := 32) rfl rfl (fun h29 => ?_) (fun h29 => ?_)
    · refine z_iload (q := 81) rfl rfl rfl ?_
      refine z_ireti rfl rfl ?_
      exact ⟨rfl, rfl⟩
    · exact absurd (Int32.le_refl _) h29
  | succ k ih =>
    intro i hi
    have b2 := hI.2.1
    have hi2 : i < q.1 := by omega
    refine z_iload (q := 25) rfl rfl rfl ?_
    refine z_aload_n (q := 26) rfl rfl rfl ?_
    refine z_getI (q := 29) rfl rfl rfl (Mo_k w) ?_
    rw [moF_g14]
    rw [h14]
    refine z_ic_ge (q := 32) rfl rfl (fun h29 => ?_) (fun h29 => ?_)
    · exact absurd h29 (nI_ge (by omega) (by omega))
    · refine z_iload (q := 34) rfl rfl rfl ?_
      refine z_lload_n (q := 35) rfl rfl rfl ?_
      refine z_iload (q := 37) rfl rfl rfl ?_
      refine z_lshr (q := 38) rfl rfl ?_
      refine z_lconst (q := 39) (v := 1) rfl rfl rfl ?_
      refine z_land (q := 40) rfl rfl ?_
      refine z_lconst (q := 41) (v := 0) rfl rfl rfl ?_
      refine z_lcmp (q := 42) rfl rfl ?_
      refine z_if_ne (q := 45) rfl rfl (fun h42 => ?_) (fun h42 => ?_)
      · refine z_aload_n (q := 50) rfl rfl rfl ?_
        refine z_getR (q := 53) rfl rfl rfl (Mo_k w) (Mo_r10 w) ?_
        refine z_iload (q := 55) rfl rfl rfl ?_
        refine z_iald (q := 56) rfl rfl (Mo_a10 w) (by first | assumption | exact vp_in_nI (by omega) (by omega)) ?_
        rw [moF_a10]
        try rw [nI_clamp (by omega)]
        rw [(hl i hi2).1]
        refine z_iconst (q := 57) (v := -1) rfl rfl rfl ?_
        refine z_ic_ne (q := 60) rfl rfl (fun h57 => ?_) (fun h57 => ?_)
        · refine z_iconst (q := 70) (v := 3) rfl rfl rfl ?_
          refine z_iadd (q := 71) rfl rfl ?_
          refine z_istore (q := 73) (L2 := [_, _, _, _, _, _, _]) rfl rfl rfl rfl ?_
          refine z_iinc (q := 76) (L2 := [_, _, _, _, _, _, _]) rfl rfl rfl rfl ?_
          refine z_goto rfl ?_
          rw [show nI i + Int32.ofInt 1 = nI (i + 1) from (nI_succ i).symm]
          have e9 := ih (i + 1) (by omega)
          first
            | (have hzz := (lo_0 (set := all) (show i < 41 by omega)).mpr ((ar_0 (set := all) (show i < 41 by omega)).mp h42)
               rw [show fo (fun v acc => if lg_cmp ((Int64.toUInt64 all >>> ((nI v).toInt64.toUInt64 &&& Int64.toUInt64 63)).toInt64 &&& 1) 0 = 0 then acc else acc + (if q.2.2.1 v = -1 then nI c else 3)) 0 (i + 1) = fo (fun v acc => if lg_cmp ((Int64.toUInt64 all >>> ((nI v).toInt64.toUInt64 &&& Int64.toUInt64 63)).toInt64 &&& 1) 0 = 0 then acc else acc + (if q.2.2.1 v = -1 then nI c else 3)) 0 i from if_pos hzz] at e9
               rw [Int32.add_zero]
               exact e9)
            | (have hzz : ¬ _ := fun g => h42 ((ar_0 (set := all) (show i < 41 by omega)).mpr ((lo_0 (set := all) (show i < 41 by omega)).mp g))
               have hyy : q.2.2.1 i = -1 := h57
               rw [show fo (fun v acc => if lg_cmp ((Int64.toUInt64 all >>> ((nI v).toInt64.toUInt64 &&& Int64.toUInt64 63)).toInt64 &&& 1) 0 = 0 then acc else acc + (if q.2.2.1 v = -1 then nI c else 3)) 0 (i + 1) = fo (fun v acc => if lg_cmp ((Int64.toUInt64 all >>> ((nI v).toInt64.toUInt64 &&& Int64.toUInt64 63)).toInt64 &&& 1) 0 = 0 then acc else acc + (if q.2.2.1 v = -1 then nI c else 3)) 0 i + (if q.2.2.1 i = -1 then nI c else 3) from if_neg hzz, if_pos hyy] at e9
               exact e9)
            | (have hzz : ¬ _ := fun g => h42 ((ar_0 (set := all) (show i < 41 by omega)).mpr ((lo_0 (set := all) (show i < 41 by omega)).mp g))
               have hyy : ¬ q.2.2.1 i = -1 := h57
               rw [show fo (fun v acc => if lg_cmp ((Int64.toUInt64 all >>> ((nI v).toInt64.toUInt64 &&& Int64.toUInt64 63)).toInt64 &&& 1) 0 = 0 then acc else acc + (if q.2.2.1 v = -1 then nI c else 3)) 0 (i + 1) = fo (fun v acc => if lg_cmp ((Int64.toUInt64 all >>> ((nI v).toInt64.toUInt64 &&& Int64.toUInt64 63)).toInt64 &&& 1) 0 = 0 then acc else acc + (if q.2.2.1 v = -1 then nI c else 3)) 0 i + (if q.2.2.1 i = -1 then nI c else 3) from if_neg hzz, if_neg hyy] at e9
               exact e9)
            | fail "none"
        · refine z_aload_n (q := 61) rfl rfl rfl ?_
          refine z_getR (q := 64) rfl rfl rfl (Mo_k w) (Mo_r0 w) ?_
          refine z_iconst (q := 65) (v := 0) rfl rfl rfl ?_
          refine z_iald (q := 66) rfl rfl (Mo_a0 w) (vp0 (by decide) (by decide)) ?_
          rw [moF_a0]
          try rw [nI_clamp (by omega)]
          rw [show A 1 (0 : Int32).toNatClampNeg = nI c from hs]
          refine z_goto rfl ?_
          refine z_iadd (q := 71) rfl rfl ?_
          refine z_istore (q := 73) (L2 := [_, _, _, _, _, _, _]) rfl rfl rfl rfl ?_
          refine z_iinc (q := 76) (L2 := [_, _, _, _, _, _, _]) rfl rfl rfl rfl ?_
          refine z_goto rfl ?_
          rw [show nI i + Int32.ofInt 1 = nI (i + 1) from (nI_succ i).symm]
          have e9 := ih (i + 1) (by omega)
          first
            | (have hzz := (lo_0 (set := all) (show i < 41 by omega)).mpr ((ar_0 (set := all) (show i < 41 by omega)).mp h42)
               rw [show fo (fun v acc => if lg_cmp ((Int64.toUInt64 all >>> ((nI v).toInt64.toUInt64 &&& Int64.toUInt64 63)).toInt64 &&& 1) 0 = 0 then acc else acc + (if q.2.2.1 v = -1 then nI c else 3)) 0 (i + 1) = fo (fun v acc => if lg_cmp ((Int64.toUInt64 all >>> ((nI v).toInt64.toUInt64 &&& Int64.toUInt64 63)).toInt64 &&& 1) 0 = 0 then acc else acc + (if q.2.2.1 v = -1 then nI c else 3)) 0 i from if_pos hzz] at e9
               rw [Int32.add_zero]
               exact e9)
            | (have hzz : ¬ _ := fun g => h42 ((ar_0 (set := all) (show i < 41 by omega)).mpr ((lo_0 (set := all) (show i < 41 by omega)).mp g))
               have hyy : q.2.2.1 i = -1 := h57
               rw [show fo (fun v acc => if lg_cmp ((Int64.toUInt64 all >>> ((nI v).toInt64.toUInt64 &&& Int64.toUInt64 63)).toInt64 &&& 1) 0 = 0 then acc else acc + (if q.2.2.1 v = -1 then nI c else 3)) 0 (i + 1) = fo (fun v acc => if lg_cmp ((Int64.toUInt64 all >>> ((nI v).toInt64.toUInt64 &&& Int64.toUInt64 63)).toInt64 &&& 1) 0 = 0 then acc else acc + (if q.2.2.1 v = -1 then nI c else 3)) 0 i + (if q.2.2.1 i = -1 then nI c else 3) from if_neg hzz, if_pos hyy] at e9
               exact e9)
            | (have hzz : ¬ _ := fun g => h42 ((ar_0 (set := all) (show i < 41 by omega)).mpr ((lo_0 (set := all) (show i < 41 by omega)).mp g))
               have hyy : ¬ q.2.2.1 i = -1 := h57
               rw [show fo (fun v acc => if lg_cmp ((Int64.toUInt64 all >>> ((nI v).toInt64.toUInt64 &&& Int64.toUInt64 63)).toInt64 &&& 1) 0 = 0 then acc else acc + (if q.2.2.1 v = -1 then nI c else 3)) 0 (i + 1) = fo (fun v acc => if lg_cmp ((Int64.toUInt64 all >>> ((nI v).toInt64.toUInt64 &&& Int64.toUInt64 63)).toInt64 &&& 1) 0 = 0 then acc else acc + (if q.2.2.1 v = -1 then nI c else 3)) 0 i + (if q.2.2.1 i = -1 then nI c else 3) from if_neg hzz, if_neg hyy] at e9
               exact e9)
            | fail "none"
      · refine z_iconst (q := 46) (v := 0) rfl rfl rfl ?_
        refine z_goto rfl ?_
        refine z_iadd (q := 71) rfl rfl ?_
        refine z_istore (q := 73) (L2 := [_, _, _, _, _, _, _]) rfl rfl rfl rfl ?_
        refine z_iinc (q := 76) (L2 := [_, _, _, _, _, _, _]) rfl rfl rfl rfl ?_
        refine z_goto rfl ?_
        rw [show nI i + Int32.ofInt 1 = nI (i + 1) from (nI_succ i).symm]
        have e9 := ih (i + 1) (by omega)
        first
          | (have hzz := (lo_0 (set := all) (show i < 41 by omega)).mpr ((ar_0 (set := all) (show i < 41 by omega)).mp h42)
             rw [show fo (fun v acc => if lg_cmp ((Int64.toUInt64 all >>> ((nI v).toInt64.toUInt64 &&& Int64.toUInt64 63)).toInt64 &&& 1) 0 = 0 then acc else acc + (if q.2.2.1 v = -1 then nI c else 3)) 0 (i + 1) = fo (fun v acc => if lg_cmp ((Int64.toUInt64 all >>> ((nI v).toInt64.toUInt64 &&& Int64.toUInt64 63)).toInt64 &&& 1) 0 = 0 then acc else acc + (if q.2.2.1 v = -1 then nI c else 3)) 0 i from if_pos hzz] at e9
             rw [Int32.add_zero]
             exact e9)
          | (have hzz : ¬ _ := fun g => h42 ((ar_0 (set := all) (show i < 41 by omega)).mpr ((lo_0 (set := all) (show i < 41 by omega)).mp g))
             have hyy : q.2.2.1 i = -1 := h57
             rw [show fo (fun v acc => if lg_cmp ((Int64.toUInt64 all >>> ((nI v).toInt64.toUInt64 &&& Int64.toUInt64 63)).toInt64 &&& 1) 0 = 0 then acc else acc + (if q.2.2.1 v = -1 then nI c else 3)) 0 (i + 1) = fo (fun v acc => if lg_cmp ((Int64.toUInt64 all >>> ((nI v).toInt64.toUInt64 &&& Int64.toUInt64 63)).toInt64 &&& 1) 0 = 0 then acc else acc + (if q.2.2.1 v = -1 then nI c else 3)) 0 i + (if q.2.2.1 i = -1 then nI c else 3) from if_neg hzz, if_pos hyy] at e9
             exact e9)
          | (have hzz : ¬ _ := fun g => h42 ((ar_0 (set := all) (show i < 41 by omega)).mpr ((lo_0 (set := all) (show i < 41 by omega)).mp g))
             have hyy : ¬ q.2.2.1 i = -1 := h57
             rw [show fo (fun v acc => if lg_cmp ((Int64.toUInt64 all >>> ((nI v).toInt64.toUInt64 &&& Int64.toUInt64 63)).toInt64 &&& 1) 0 = 0 then acc else acc + (if q.2.2.1 v = -1 then nI c else 3)) 0 (i + 1) = fo (fun v acc => if lg_cmp ((Int64.toUInt64 all >>> ((nI v).toInt64.toUInt64 &&& Int64.toUInt64 63)).toInt64 &&& 1) 0 = 0 then acc else acc + (if q.2.2.1 v = -1 then nI c else 3)) 0 i + (if q.2.2.1 i = -1 then nI c else 3) from if_neg hzz, if_neg hyy] at e9
             exact e9)
          | fail "none"
theorem q_Mo_room {sc : Option (Nat × Nat × (Nat → Int32))} {sa : Nat → Nat} {d : Nat} {M : mz_M} {z : Nat × Nat} {m : Nat} (w : g_Mo M.2.2 m) {F : Nat → Int32} {A : Nat → Nat → Int32} {c N D : Nat} {l t : Int32} {K P1 P2 P3 : Nat → Nat} {q : sQ} (hX : mX c N D l t K P1 P2 P3 q A) {set : Int64} : zi sc sa (d + 12) 262 [.ref m, .long set] (moF M m F A) z (mR M m F A (if (Int64.toUInt64 set >>> ((nI q.1).toInt64.toUInt64 &&& Int64.toUInt64 63)).toInt64 = 0 then fo (fun v acc => if lg_cmp ((Int64.toUInt64 (fo (fun v acc => if lg_cmp ((Int64.toUInt64 (set) >>> ((nI v).toInt64.toUInt64 &&& Int64.toUInt64 63)).toInt64 &&& 1) 0 = 0 then acc else acc ||| wbI q.2.2.1 q.1 (nI v) 0) set q.1) >>> ((nI v).toInt64.toUInt64 &&& Int64.toUInt64 63)).toInt64 &&& 1) 0 = 0 then acc else acc + (if q.2.2.1 v = -1 then nI c else 3)) 0 q.1 else -2)) := by
  obtain ⟨⟨c1, c2, c3, c4, c5⟩, ⟨k1, k2, k3, k4, ln, k5, k6, k7⟩, hd, hv, he, hI, hV, hn⟩ := id hX
  have b1 := hI.1
  have b2 := hI.2.1
  refine zin ym_Mo_room [.ref m, .long set, .retAddr 0, .retAddr 0, .retAddr 0, .retAddr 0, .retAddr 0] rfl rfl rfl rfl ?_
  refine z_aload_n (q := 1) rfl rfl rfl ?_
  refine z_lload_n (q := 2) rfl rfl rfl ?_
  refine z_cv1qi (q := 5) rfl rfl rfl (Mo_k w) (q_Mo_isSet w hX) (fun x9 M9 h9 => ?_)
  obtain ⟨rfl, FF, AA, rfl, wp, ww0⟩ := h9
  refine z_if_ne (q := 8) rfl rfl (fun h5 => ?_) (fun h5 => ?_)
  · refine z_aload_n (q := 12) rfl rfl rfl ?_
    have ww := ww0 (bz_n.mp h5)
    refine z_lload_n (q := 13) rfl rfl rfl ?_
    refine z_cv1l (q := 16) rfl rfl rfl (Mo_k w) (s_Mo_keptOf w ww.2.2.2.1 hI ww.1 hn) ?_
    refine z_lstore_n (q := 17) (L2 := [_, _, _, _, _, _, _]) rfl rfl rfl rfl ?_
    refine z_iconst (q := 18) (v := 0) rfl rfl rfl ?_
    refine z_istore (q := 20) (L2 := [_, _, _, _, _, _, _]) rfl rfl rfl rfl ?_
    refine z_iconst (q := 21) (v := 0) rfl rfl rfl ?_
    refine z_istore (q := 23) (L2 := [_, _, _, _, _, _, _]) rfl rfl rfl rfl ?_
    refine mz_wp_m (mz_Kd_m sc sa _) ?_ (l_Mo_room w ww.2.2.2.1 hI ww.1 hn ((congrFun (ww.2.1.2.2.2 1 (by omega)) 0).trans k1) q.1 0 (by omega))
    intro r9 M9 h
    rw [h.1, h.2]
    exact qz_t (bz_n.mp h5) rfl ⟨FF, AA, rfl, wp⟩
  · refine z_bipush (q := 10) (v := -2) rfl rfl rfl ?_
    refine z_ireti rfl rfl ?_
    exact qz_f (bz_0.mp h5) ⟨FF, AA, rfl, wp⟩
