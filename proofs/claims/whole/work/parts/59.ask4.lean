theorem cf_y {B R O : Int64} {i : Nat} {x : Int32} (h : ¬ nmI R (nI i) = nmI B (nI i) ∧ ¬ nmI O (nI i) = nmI B (nI i) ∧ ¬ nmI R (nI i) = nmI O (nI i)) : cfG B R O i x = x + 1 := if_pos ⟨h.1, h.2.1, fun e => h.2.2 e.symm⟩
theorem cf_n {B R O : Int64} {i : Nat} {x : Int32} (h : ¬ (¬ nmI R (nI i) = nmI B (nI i) ∧ ¬ nmI O (nI i) = nmI B (nI i) ∧ ¬ nmI R (nI i) = nmI O (nI i))) : cfG B R O i x = x := if_neg (fun g => h ⟨g.1, g.2.1, fun e => g.2.2 e.symm⟩)
theorem l_Mo_merging {sc : Option (Nat × Nat × (Nat → Int32))} {sa : Nat → Nat} {d : Nat} {M : mz_M} {z : Nat × Nat} {m : Nat} (w : g_Mo M.2.2 m) {F : Nat → Int32} {A : Nat → Nat → Int32} {c : Nat} {q : sQ} (hv : mAv c A q) (hI : qI c q) (hC : c ≤ 12) (hs : A 1 0 = nI c) {a b : Nat} (ha : a < q.1) (hb : b < q.1) {x3 : Int32} {Q : mz_P} (hk : zw sc sa (d + 3) ym_Mo_merging z Q 66 [.ref m, .int (nI a), .int (nI b), .int x3, .int (fo (cfG (q.2.1 (mtN q.2.2.2.2.1 (2 * q.1) a b)) (q.2.1 a) (q.2.1 b)) 0 c), .int (nI c)] [] (moF M m F A) z)  : ∀ (k : Nat) (i : Nat), i + k = c → zw sc sa (d + 3) ym_Mo_merging z Q 28 [.ref m, .int (nI a), .int (nI b), .int x3, .int (fo (cfG (q.2.1 (mtN q.2.2.2.2.1 (2 * q.1) a b)) (q.2.1 a) (q.2.1 b)) 0 i), .int (nI i)] [] (moF M m F A) z := by
  intro k
  induction k with
  | zero =>
    intro i hi
    have e1 : i = c := by omega
    subst e1
    refine z_iload (q := 30) rfl rfl rfl ?_
    refine z_aload_n (q := 31) rfl rfl rfl ?_
    refine z_getR (q := 34) rfl rfl rfl (Mo_k w) (Mo_r0 w) ?_
    refine z_iconst (q := 35) (v := 0) rfl rfl rfl ?_
    refine z_iald (q := 36) rfl rfl (Mo_a0 w) (vp0 (by decide) (by decide)) ?_
    rw [moF_a0]
    try rw [nI_clamp (by omega)]
    rw [show A 1 (0 : Int32).toNatClampNeg = nI i from hs]
    refine z_ic_ge (q := 39) rfl rfl (fun h36 => ?_) (fun h36 => ?_)
    · exact hk
    · exact absurd (Int32.le_refl _) h36
  | succ k ih =>
    intro i hi
    have b2 := hI.2.1
    have hi2 : i < c := by omega
    refine z_iload (q := 30) rfl rfl rfl ?_
    refine z_aload_n (q := 31) rfl rfl rfl ?_
    refine z_getR (q := 34) rfl rfl rfl (Mo_k w) (Mo_r0 w) ?_
    refine z_iconst (q := 35) (v := 0) rfl rfl rfl ?_
    refine z_iald (q := 36) rfl rfl (Mo_a0 w) (vp0 (by decide) (by decide)) ?_
    rw [moF_a0]
    try rw [nI_clamp (by omega)]
    rw [show A 1 (0 : Int32).toNatClampNeg = nI c from hs]
    refine z_ic_ge (q := 39) rfl rfl (fun h36 => ?_) (fun h36 => ?_)
    · exact absurd h36 (nI_ge (by omega) (by omega))
    · refine z_iload (q := 41) rfl rfl rfl ?_
      refine z_aload_n (q := 42) rfl rfl rfl ?_
      refine z_iload_n (q := 43) rfl rfl rfl ?_
      refine z_iload_n (q := 44) rfl rfl rfl ?_
      refine z_iload (q := 46) rfl rfl rfl ?_
      refine z_cv3i (q := 49) rfl rfl rfl (Mo_k w) (s_Mo_isConflict w hv hI hC ha hb hi2) ?_
      refine z_if_eq (q := 52) rfl rfl (fun h49 => ?_) (fun h49 => ?_)
      · refine z_iconst (q := 57) (v := 0) rfl rfl rfl ?_
        refine z_iadd (q := 58) rfl rfl ?_
        refine z_istore (q := 60) (L2 := [_, _, _, _, _, _]) rfl rfl rfl rfl ?_
        refine z_iinc (q := 63) (L2 := [_, _, _, _, _, _]) rfl rfl rfl rfl ?_
        refine z_goto rfl ?_
        rw [show nI i + Int32.ofInt 1 = nI (i + 1) from (nI_succ i).symm]
        have e9 := ih (i + 1) (by omega)
        first
          | (have hzz : ¬ (nmI (q.2.1 a) (nI i)) = (nmI (q.2.1 (mtN q.2.2.2.2.1 (2 * q.1) a b)) (nI i)) ∧ ¬ (nmI (q.2.1 b) (nI i)) = (nmI (q.2.1 (mtN q.2.2.2.2.1 (2 * q.1) a b)) (nI i)) ∧ ¬ (nmI (q.2.1 a) (nI i)) = (nmI (q.2.1 b) (nI i)) := bz_n.mp h49
             rw [show fo (cfG (q.2.1 (mtN q.2.2.2.2.1 (2 * q.1) a b)) (q.2.1 a) (q.2.1 b)) 0 (i + 1) = _ from cf_y hzz] at e9
             exact e9)
          | (have hzz : ¬ (¬ (nmI (q.2.1 a) (nI i)) = (nmI (q.2.1 (mtN q.2.2.2.2.1 (2 * q.1) a b)) (nI i)) ∧ ¬ (nmI (q.2.1 b) (nI i)) = (nmI (q.2.1 (mtN q.2.2.2.2.1 (2 * q.1) a b)) (nI i)) ∧ ¬ (nmI (q.2.1 a) (nI i)) = (nmI (q.2.1 b) (nI i))) := bz_0.mp h49
             rw [show fo (cfG (q.2.1 (mtN q.2.2.2.2.1 (2 * q.1) a b)) (q.2.1 a) (q.2.1 b)) 0 (i + 1) = _ from cf_n hzz] at e9
             rw [Int32.add_zero]
             exact e9)
          | fail "none"
      · refine z_iconst (q := 53) (v := 1) rfl rfl rfl ?_
        refine z_goto rfl ?_
        refine z_iadd (q := 58) rfl rfl ?_
        refine z_istore (q := 60) (L2 := [_, _, _, _, _, _]) rfl rfl rfl rfl ?_
        refine z_iinc (q := 63) (L2 := [_, _, _, _, _, _]) rfl rfl rfl rfl ?_
        refine z_goto rfl ?_
        rw [show nI i + Int32.ofInt 1 = nI (i + 1) from (nI_succ i).symm]
        have e9 := ih (i + 1) (by omega)
        first
          | (have hzz : ¬ (nmI (q.2.1 a) (nI i)) = (nmI (q.2.1 (mtN q.2.2.2.2.1 (2 * q.1) a b)) (nI i)) ∧ ¬ (nmI (q.2.1 b) (nI i)) = (nmI (q.2.1 (mtN q.2.2.2.2.1 (2 * q.1) a b)) (nI i)) ∧ ¬ (nmI (q.2.1 a) (nI i)) = (nmI (q.2.1 b) (nI i)) := bz_n.mp h49
             rw [show fo (cfG (q.2.1 (mtN q.2.2.2.2.1 (2 * q.1) a b)) (q.2.1 a) (q.2.1 b)) 0 (i + 1) = _ from cf_y hzz] at e9
             exact e9)
          | (have hzz : ¬ (¬ (nmI (q.2.1 a) (nI i)) = (nmI (q.2.1 (mtN q.2.2.2.2.1 (2 * q.1) a b)) (nI i)) ∧ ¬ (nmI (q.2.1 b) (nI i)) = (nmI (q.2.1 (mtN q.2.2.2.2.1 (2 * q.1) a b)) (nI i)) ∧ ¬ (nmI (q.2.1 a) (nI i)) = (nmI (q.2.1 b) (nI i))) := bz_0.mp h49
             rw [show fo (cfG (q.2.1 (mtN q.2.2.2.2.1 (2 * q.1) a b)) (q.2.1 a) (q.2.1 b)) 0 (i + 1) = _ from cf_n hzz] at e9
             rw [Int32.add_zero]
             exact e9)
          | fail "none"
theorem q_Mo_merging {sc : Option (Nat × Nat × (Nat → Int32))} {sa : Nat → Nat} {d : Nat} {M : mz_M} {z : Nat × Nat} {m : Nat} (w : g_Mo M.2.2 m) {F : Nat → Int32} {A : Nat → Nat → Int32} {c N D : Nat} {l t : Int32} {K P1 P2 P3 : Nat → Nat} {q : sQ} (hX : mX c N D l t K P1 P2 P3 q A) {a b e : Int32} : zi sc sa (d + 14) 255 [.ref m, .int a, .int b, .int e] (moF M m F A) z (mR M m F A (if (vI q.1 a ∧ vI q.1 b) ∧ ¬ e < 0 ∧ e ≤ 1 then (if e = 0 then (fo (fun y acc => if nmI (q.2.1 a.toNatClampNeg) (nI y) = nmI (mgR c a.toNatClampNeg b.toNatClampNeg q) (nI y) then acc else acc + Int32.ofInt 1) 0 c) else fo (cfG (q.2.1 (mtN q.2.2.2.2.1 (2 * q.1) a.toNatClampNeg b.toNatClampNeg)) (q.2.1 a.toNatClampNeg) (q.2.1 b.toNatClampNeg)) 0 c) else -2)) := by
  obtain ⟨⟨c1, c2, c3, c4, c5⟩, ⟨k1, k2, k3, k4, ln, k5, k6, k7⟩, hd, hv, he, hI, hV, hn⟩ := id hX
  have b1 := hI.1
  have b2 := hI.2.1
  refine zin ym_Mo_merging [.ref m, .int a, .int b, .int e, .retAddr 0, .retAddr 0] rfl rfl rfl rfl ?_
  refine z_aload_n (q := 1) rfl rfl rfl ?_
  refine z_iload_n (q := 2) rfl rfl rfl ?_
  refine z_iload_n (q := 3) rfl rfl rfl ?_
  refine z_cv2qi (q := 6) rfl rfl rfl (Mo_k w) (q_Mo_areVersions w hX) (fun x9 M9 h9 => ?_)
  obtain ⟨rfl, FF, AA, rfl, ww⟩ := h9
  refine z_if_eq (q := 9) rfl rfl (fun h6 => ?_) (fun h6 => ?_)
  · refine z_bipush (q := 21) (v := -2) rfl rfl rfl ?_
    refine z_ireti rfl rfl ?_
    first
      | exact qz_f (fun h => bz_0.mp h16 h.2) ⟨FF, AA, rfl, mPe_w ww⟩
      | exact qz_f (fun h => bz_0.mp h6 h.1) ⟨FF, AA, rfl, mPe_w ww⟩
      | fail "none"
  · refine z_iload_n (q := 10) rfl rfl rfl ?_
    refine z_i2l (q := 11) rfl rfl ?_
    refine z_lconst (q := 12) (v := 0) rfl rfl rfl ?_
    refine z_lconst (q := 13) (v := 1) rfl rfl rfl ?_
    refine z_cs3i (q := 16) rfl rfl rfl (t_Mo_inB (hi := 1)) ?_
    refine z_if_ne (q := 19) rfl rfl (fun h16 => ?_) (fun h16 => ?_)
    · refine z_iconst (q := 23) (v := 0) rfl rfl rfl ?_
      obtain ⟨j, hj, rfl⟩ := vI_nat (by omega) (bz_n.mp h6).1
      obtain ⟨i, hi, rfl⟩ := vI_nat (by omega) (bz_n.mp h6).2
      refine z_istore (q := 25) (L2 := [_, _, _, _, _, _]) rfl rfl rfl rfl ?_
      refine z_iconst (q := 26) (v := 0) rfl rfl rfl ?_
      refine z_istore (q := 28) (L2 := [_, _, _, _, _, _]) rfl rfl rfl rfl ?_
      refine l_Mo_merging (d := d + 10) w ww.2.2.1 hI c1 ((congrFun (ww.2.1.2.2.2 1 (by omega)) 0).trans k1) hj hi ?_ c 0 (by omega)
      refine z_iload_n (q := 67) rfl rfl rfl ?_
      refine z_if_ne (q := 70) rfl rfl (fun h67 => ?_) (fun h67 => ?_)
      · refine z_iload (q := 81) rfl rfl rfl ?_
        refine z_ireti rfl rfl ?_
        first
          | (have hzz : e = 0 := h67
             exact qz_t ⟨bz_n.mp h6, bz_n.mp h16⟩ (by rw [if_pos hzz, nI_clamp (show j < 2 ^ 31 by omega), nI_clamp (show i < 2 ^ 31 by omega)]; exact mergeMany_eq) ⟨FF, AA, rfl, mPe_w ww⟩)
          | (have hzz : ¬ e = 0 := h67
             exact qz_t ⟨bz_n.mp h6, bz_n.mp h16⟩ (by rw [if_neg hzz, nI_clamp (show j < 2 ^ 31 by omega), nI_clamp (show i < 2 ^ 31 by omega)]) ⟨FF, AA, rfl, mPe_w ww⟩)
          | fail "none"
      · refine z_aload_n (q := 71) rfl rfl rfl ?_
        refine z_iload_n (q := 72) rfl rfl rfl ?_
        refine z_iload_n (q := 73) rfl rfl rfl ?_
        refine z_cv2i (q := 76) rfl rfl rfl (Mo_k w) (s_Mo_mergeMany w ww.2.2.1 hI c1 ((congrFun (ww.2.1.2.2.2 1 (by omega)) 0).trans k1) hj hi) ?_
        refine z_goto rfl ?_
        refine z_ireti rfl rfl ?_
        first
          | (have hzz : e = 0 := h67
             exact qz_t ⟨bz_n.mp h6, bz_n.mp h16⟩ (by rw [if_pos hzz, nI_clamp (show j < 2 ^ 31 by omega), nI_clamp (show i < 2 ^ 31 by omega)]; exact mergeMany_eq) ⟨FF, AA, rfl, mPe_w ww⟩)
          | (have hzz : ¬ e = 0 := h67
             exact qz_t ⟨bz_n.mp h6, bz_n.mp h16⟩ (by rw [if_neg hzz, nI_clamp (show j < 2 ^ 31 by omega), nI_clamp (show i < 2 ^ 31 by omega)]) ⟨FF, AA, rfl, mPe_w ww⟩)
          | fail "none"
    · refine z_bipush (q := 21) (v := -2) rfl rfl rfl ?_
      refine z_ireti rfl rfl ?_
      first
        | exact qz_f (fun h => bz_0.mp h16 h.2) ⟨FF, AA, rfl, mPe_w ww⟩
        | exact qz_f (fun h => bz_0.mp h6 h.1) ⟨FF, AA, rfl, mPe_w ww⟩
        | fail "none"
theorem q_Mo_ledger {sc : Option (Nat × Nat × (Nat → Int32))} {sa : Nat → Nat} {d : Nat} {M : mz_M} {z : Nat × Nat} {m : Nat} (w : g_Mo M.2.2 m) {F : Nat → Int32} {A : Nat → Nat → Int32} {c N D : Nat} {l t : Int32} {K P1 P2 P3 : Nat → Nat} {q : sQ} (hX : mX c N D l t K P1 P2 P3 q A) {T : Int32} (hT : (∀ p q0, pmS l t c K P1 P2 P3 (-1) (qS p (bgQ (ownR c) q0)) D = T)) : zi sc sa (d + 12) 236 [.ref m] (moF M m F A) z (mR M m F A (T)) := by
  obtain ⟨⟨c1, c2, c3, c4, c5⟩, ⟨k1, k2, k3, k4, ln, k5, k6, k7⟩, hd, hv, he, hI, hV, hn⟩ := id hX
  have b1 := hI.1
  have b2 := hI.2.1
  refine zin ym_Mo_ledger [.ref m] rfl rfl rfl rfl ?_
  refine z_aload_n (q := 1) rfl rfl rfl ?_
  refine z_cv0i (q := 4) rfl rfl rfl (Mo_k w) (s_Mo_is w k7 k5 k6) ?_
  refine z_if_eq (q := 7) rfl rfl (fun h4 => ?_) (fun h4 => ?_)
  · exact absurd h4 (by decide)
  · refine z_aload_n (q := 8) rfl rfl rfl ?_
    refine z_cv0qi (q := 11) rfl rfl rfl (Mo_k w) (q_Mo_playsX w hX) (fun x9 M9 h9 => ?_)
    obtain ⟨p9, q9, rfl, FF, AA, rfl, ww⟩ := h9
    refine z_goto rfl ?_
    refine z_ireti rfl rfl ?_
    exact qz_r (hT _ _) ⟨FF, AA, rfl, mPe_w ww⟩
theorem le_pz {n : Nat} {v : Int32} (hn : n < 1000) : (0 ≤ v ∧ v ≤ nI n - 1) ↔ vI n v := by
  rcases Nat.eq_zero_or_pos n with e | e
  · subst e
    have e1 : nI 0 - 1 = -1 := by decide
    rw [e1]
    unfold vI
    constructor
    · intro ⟨a, b⟩
      rw [Int32.le_iff_toInt_le] at a b
      have g1 : (-1 : Int32).toInt = -1 := by decide
      have g2 : (0 : Int32).toInt = 0 := by decide
      omega
    · intro ⟨a, b⟩
      rw [Int32.le_iff_toInt_le] at a
      rw [Int32.lt_iff_toInt_lt] at b
      have g1 : (nI 0).toInt = 0 := by decide
      have g2 : (0 : Int32).toInt = 0 := by decide
      omega
  · exact le_pr e hn
theorem t_Mo_inZ {sc : Option (Nat × Nat × (Nat → Int32))} {sa : Nat → Nat} {d : Nat} {M : mz_M} {z : Nat × Nat} {a : Int32} {n : Nat} (hn : n < 1000) : zx sc sa (d + 1) 168 [.long a.toInt64, .long 0, .long (nI n - 1).toInt64] M z z (some (.int (bz (vI n a)))) M := by
  have e := @t_Mo_in sc sa d M z a 0 (nI n - 1)
  rw [show bz ((0 : Int32) ≤ a ∧ a ≤ nI n - 1) = bz (vI n a) by
    unfold bz
    by_cases g : vI n a
    · rw [if_pos g, if_pos ((le_pz hn).mpr g)]
    · rw [if_neg g, if_neg (fun k => g ((le_pz hn).mp k))]] at e
  exact e
theorem q_Mo_spent {sc : Option (Nat × Nat × (Nat → Int32))} {sa : Nat → Nat} {d : Nat} {M : mz_M} {z : Nat × Nat} {m : Nat} (w : g_Mo M.2.2 m) {F : Nat → Int32} {A : Nat → Nat → Int32} {c N D : Nat} {l t : Int32} {K P1 P2 P3 : Nat → Nat} {q : sQ} (hX : mX c N D l t K P1 P2 P3 q A) {C : Nat → Int32} (hCo : ∀ p q0 j, j < D → (fo (pmG (nI c) l t c K P1 P2 P3 (-1)) (qS p (bgQ (ownR c) q0)) (j + 1)).2.2.2.2.2.2 = C j) {a : Int32} : zi sc sa (d + 11) 237 [.ref m, .int a] (moF M m F A) z (mR M m F A (if vI D a then C a.toNatClampNeg else -2)) := by
  obtain ⟨⟨c1, c2, c3, c4, c5⟩, ⟨k1, k2, k3, k4, ln, k5, k6, k7⟩, hd, hv, he, hI, hV, hn⟩ := id hX
  have b1 := hI.1
  have b2 := hI.2.1
  refine zin ym_Mo_spent [.ref m, .int a] rfl rfl rfl rfl ?_
  refine z_iload_n (q := 1) rfl rfl rfl ?_
  refine z_i2l (q := 2) rfl rfl ?_
  refine z_lconst (q := 3) (v := 0) rfl rfl rfl ?_
  refine z_aload_n (q := 4) rfl rfl rfl ?_
  refine z_getR (q := 7) rfl rfl rfl (Mo_k w) (Mo_r0 w) ?_
  refine z_iconst (q := 8) (v := 4) rfl rfl rfl ?_
  refine z_iald (q := 9) rfl rfl (Mo_a0 w) (vp_in_nI (n := 4) (by omega) (by omega)) ?_
  rw [moF_a0]
  try rw [nI_clamp (by omega)]
  rw [show A 1 (4 : Int32).toNatClampNeg = nI D from k4]
  refine z_iconst (q := 10) (v := 1) rfl rfl rfl ?_
  refine z_isub (q := 11) rfl rfl ?_
  refine z_i2l (q := 12) rfl rfl ?_
  refine z_cs3i (q := 15) rfl rfl rfl (t_Mo_inZ (by omega)) ?_
  refine z_if_ne (q := 18) rfl rfl (fun h15 => ?_) (fun h15 => ?_)
  · refine z_aload_n (q := 22) rfl rfl rfl ?_
    obtain ⟨j, hj, rfl⟩ := vI_nat (by omega) (bz_n.mp h15)
    refine z_cv0qi (q := 25) rfl rfl rfl (Mo_k w) (q_Mo_playsX w hX) (fun x9 M9 h9 => ?_)
    obtain ⟨p9, q9, rfl, FF, AA, rfl, ww⟩ := h9
    refine z_pop (q := 26) rfl rfl rfl ?_
    refine z_aload_n (q := 27) rfl rfl rfl ?_
    refine z_getR (q := 30) rfl rfl rfl (Mo_k w) (Mo_r18 w) ?_
    refine z_iload_n (q := 31) rfl rfl rfl ?_
    refine z_iald (q := 32) rfl rfl (Mo_a18 w) (by first | assumption | exact vp_in_nI (by omega) (by omega)) ?_
    rw [moF_a18]
    try rw [nI_clamp (by omega)]
    refine z_ireti rfl rfl ?_
    first
      | (obtain ⟨p8, q8, g8, s8⟩ := ww.2.2.2.2
         exact qz_t (bz_n.mp h15) (by
           first
             | rw [nI_clamp (show j < 2 ^ 31 by omega)]
             | skip
           exact (s8 j hj).trans (hCo p8 q8 j hj)) ⟨FF, AA, rfl, mPe_w ww⟩)
      | exact qz_f (bz_0.mp h15) ⟨F, A, rfl, mPe_r⟩
      | fail "none"
  · refine z_bipush (q := 20) (v := -2) rfl rfl rfl ?_
    refine z_ireti rfl rfl ?_
    first
      | (obtain ⟨p8, q8, g8, s8⟩ := ww.2.2.2.2
         exact qz_t (bz_n.mp h15) (by
           first
             | rw [nI_clamp (show j < 2 ^ 31 by omega)]
             | skip
           exact (s8 j hj).trans (hCo p8 q8 j hj)) ⟨FF, AA, rfl, mPe_w ww⟩)
      | exact qz_f (bz_0.mp h15) ⟨F, A, rfl, mPe_r⟩
      | fail "none"
def ddI (C : Nat → Int32) (i : Nat) (b : Int32 × Int32) : Prop := b = (-1, 0) ∨ ∃ u, u < i ∧ b = (nI u, C u)
theorem dd_ok {C : Nat → Int32} : ∀ i, ddI C i (fo (ddG C) (-1, 0) i) := by
  intro i
  induction i with
  | zero => exact Or.inl rfl
  | succ i ih =>
    show ddI C (i + 1) (ddG C i (fo (ddG C) (-1, 0) i))
    by_cases h : C i ≤ (fo (ddG C) (-1, 0) i).2
    · rw [ddG_e h]
      rcases ih with e | ⟨u, h1, h2⟩
      · exact Or.inl e
      · exact Or.inr ⟨u, by omega, h2⟩
    · rw [ddG_n h]
      exact Or.inr ⟨i, by omega, rfl⟩
theorem l_Mo_dearest {sc : Option (Nat × Nat × (Nat → Int32))} {sa : Nat → Nat} {d : Nat} {M : mz_M} {z : Nat × Nat} {m : Nat} (w : g_Mo M.2.2 m) {F : Nat → Int32} {A : Nat → Nat → Int32} {C : Nat → Int32} {D : Nat} (hD : D ≤ 60) (hDe : A 1 4 = nI D) (hs : ∀ j, j < D → A 12 j = C j) : ∀ (k : Nat) (i : Nat), i + k = D → zw sc sa d ym_Mo_dearest z (fun r' M' => r' = some (.int (fo (ddG C) (-1, 0) D).1) ∧ M' = (moF M m F A)) 19 [.ref m, .int (fo (ddG C) (-1, 0) i).1, .int (nI i)] [] (moF M m F A) z := by
  intro k
  induction k with
  | zero =>
    intro i hi
    have e1 : i = D := by omega
    subst e1
    refine z_iload_n (q := 20) rfl rfl rfl ?_
    refine z_aload_n (q := 21) rfl rfl rfl ?_
    refine z_getR (q := 24) rfl rfl rfl (Mo_k w) (Mo_r0 w) ?_
    refine z_iconst (q := 25) (v := 4) rfl rfl rfl ?_
    refine z_iald (q := 26) rfl rfl (Mo_a0 w) (vp_in_nI (n := 4) (by omega) (by omega)) ?_
    rw [moF_a0]
    try rw [nI_clamp (by omega)]
    rw [show A 1 (4 : Int32).toNatClampNeg = nI i from hDe]
    refine z_ic_ge (q := 29) rfl rfl (fun h26 => ?_) (fun h26 => ?_)
    · refine z_iload_n (q := 66) rfl rfl rfl ?_
      refine z_ireti rfl rfl ?_
      exact ⟨rfl, rfl⟩
    · exact absurd (Int32.le_refl _) h26
  | succ k ih =>
    intro i hi
    have hi2 : i < D := by omega
    have hle0 := hs i hi2
    rcases @dd_ok C i with eb | ⟨u, hu, eb⟩
    · rw [eb]
      refine z_iload_n (q := 20) rfl rfl rfl ?_
      refine z_aload_n (q := 21) rfl rfl rfl ?_
      refine z_getR (q := 24) rfl rfl rfl (Mo_k w) (Mo_r0 w) ?_
      refine z_iconst (q := 25) (v := 4) rfl rfl rfl ?_
      refine z_iald (q := 26) rfl rfl (Mo_a0 w) (vp_in_nI (n := 4) (by omega) (by omega)) ?_
      rw [moF_a0]
      try rw [nI_clamp (by omega)]
      rw [show A 1 (4 : Int32).toNatClampNeg = nI D from hDe]
      refine z_ic_ge (q := 29) rfl rfl (fun h26 => ?_) (fun h26 => ?_)
      · exact absurd h26 (nI_ge (by omega) (by omega))
      · refine z_aload_n (q := 30) rfl rfl rfl ?_
        refine z_getR (q := 33) rfl rfl rfl (Mo_k w) (Mo_r18 w) ?_
        refine z_iload_n (q := 34) rfl rfl rfl ?_
        refine z_iald (q := 35) rfl rfl (Mo_a18 w) (by first | assumption | exact vp_in_nI (by omega) (by omega)) ?_
        rw [moF_a18]
        try rw [nI_clamp (by omega)]
        rw [hle0]
        refine z_iload_n (q := 36) rfl rfl rfl ?_
        refine z_iconst (q := 37) (v := -1) rfl rfl rfl ?_
        refine z_ic_ne (q := 40) rfl rfl (fun h37 => ?_) (fun h37 => ?_)
        · exact absurd rfl h37
        · refine z_iconst (q := 41) (v := 0) rfl rfl rfl ?_
          refine z_goto rfl ?_
          refine z_ic_le (q := 53) rfl rfl (fun h50 => ?_) (fun h50 => ?_)
          · refine z_iload_n (q := 58) rfl rfl rfl ?_
            refine z_istore_n (q := 59) (L2 := [_, _, _]) rfl rfl rfl rfl ?_
            refine z_iinc (q := 62) (L2 := [_, _, _]) rfl rfl rfl rfl ?_
            refine z_goto rfl ?_
            rw [show nI i + Int32.ofInt 1 = nI (i + 1) from (nI_succ i).symm]
            have e9 := ih (i + 1) (by omega)
            first
              | (have hzz : C i ≤ (fo (ddG C) (-1, 0) i).2 := by rw [eb]; exact h50
                 rw [show fo (ddG C) (-1, 0) (i + 1) = _ from ddG_e hzz, eb] at e9
                 exact e9)
              | (have hzz : ¬ C i ≤ (fo (ddG C) (-1, 0) i).2 := by rw [eb]; exact h50
                 rw [show fo (ddG C) (-1, 0) (i + 1) = _ from ddG_n hzz] at e9
                 exact e9)
              | fail "none"
          · refine z_iload_n (q := 54) rfl rfl rfl ?_
            refine z_goto rfl ?_
            refine z_istore_n (q := 59) (L2 := [_, _, _]) rfl rfl rfl rfl ?_
            refine z_iinc (q := 62) (L2 := [_, _, _]) rfl rfl rfl rfl ?_
            refine z_goto rfl ?_
            rw [show nI i + Int32.ofInt 1 = nI (i + 1) from (nI_succ i).symm]
            have e9 := ih (i + 1) (by omega)
            first
              | (have hzz : C i ≤ (fo (ddG C) (-1, 0) i).2 := by rw [eb]; exact h50
                 rw [show fo (ddG C) (-1, 0) (i + 1) = _ from ddG_e hzz, eb] at e9
                 exact e9)
              | (have hzz : ¬ C i ≤ (fo (ddG C) (-1, 0) i).2 := by rw [eb]; exact h50
                 rw [show fo (ddG C) (-1, 0) (i + 1) = _ from ddG_n hzz] at e9
                 exact e9)
              | fail "none"
    · have hsu := hs u (by omega)
      rw [eb]
      refine z_iload_n (q := 20) rfl rfl rfl ?_
      refine z_aload_n (q := 21) rfl rfl rfl ?_
      refine z_getR (q := 24) rfl rfl rfl (Mo_k w) (Mo_r0 w) ?_
      refine z_iconst (q := 25) (v := 4) rfl rfl rfl ?_
      refine z_iald (q := 26) rfl rfl (Mo_a0 w) (vp_in_nI (n := 4) (by omega) (by omega)) ?_
      rw [moF_a0]
      try rw [nI_clamp (by omega)]
      rw [show A 1 (4 : Int32).toNatClampNeg = nI D from hDe]
      refine z_ic_ge (q := 29) rfl rfl (fun h26 => ?_) (fun h26 => ?_)
      · exact absurd h26 (nI_ge (by omega) (by omega))
      · refine z_aload_n (q := 30) rfl rfl rfl ?_
        refine z_getR (q := 33) rfl rfl rfl (Mo_k w) (Mo_r18 w) ?_
        refine z_iload_n (q := 34) rfl rfl rfl ?_
        refine z_iald (q := 35) rfl rfl (Mo_a18 w) (by first | assumption | exact vp_in_nI (by omega) (by omega)) ?_
        rw [moF_a18]
        try rw [nI_clamp (by omega)]
        rw [hle0]
        refine z_iload_n (q := 36) rfl rfl rfl ?_
        refine z_iconst (q := 37) (v := -1) rfl rfl rfl ?_
        refine z_ic_ne (q := 40) rfl rfl (fun h37 => ?_) (fun h37 => ?_)
        · refine z_aload_n (q := 45) rfl rfl rfl ?_
          refine z_getR (q := 48) rfl rfl rfl (Mo_k w) (Mo_r18 w) ?_
          refine z_iload_n (q := 49) rfl rfl rfl ?_
          refine z_iald (q := 50) rfl rfl (Mo_a18 w) (vp_in_nI (n := u) (by omega) (by omega)) ?_
          rw [moF_a18]
          try rw [nI_clamp (by omega)]
          rw [hsu]
          refine z_ic_le (q := 53) rfl rfl (fun h50 => ?_) (fun h50 => ?_)
          · refine z_iload_n (q := 58) rfl rfl rfl ?_
            refine z_istore_n (q := 59) (L2 := [_, _, _]) rfl rfl rfl rfl ?_
            refine z_iinc (q := 62) (L2 := [_, _, _]) rfl rfl rfl rfl ?_
            refine z_goto rfl ?_
            rw [show nI i + Int32.ofInt 1 = nI (i + 1) from (nI_succ i).symm]
            have e9 := ih (i + 1) (by omega)
            first
              | (have hzz : C i ≤ (fo (ddG C) (-1, 0) i).2 := by rw [eb]; exact h50
                 rw [show fo (ddG C) (-1, 0) (i + 1) = _ from ddG_e hzz, eb] at e9
                 exact e9)
              | (have hzz : ¬ C i ≤ (fo (ddG C) (-1, 0) i).2 := by rw [eb]; exact h50
                 rw [show fo (ddG C) (-1, 0) (i + 1) = _ from ddG_n hzz] at e9
                 exact e9)
              | fail "none"
          · refine z_iload_n (q := 54) rfl rfl rfl ?_
            refine z_goto rfl ?_
            refine z_istore_n (q := 59) (L2 := [_, _, _]) rfl rfl rfl rfl ?_
            refine z_iinc (q := 62) (L2 := [_, _, _]) rfl rfl rfl rfl ?_
            refine z_goto rfl ?_
            rw [show nI i + Int32.ofInt 1 = nI (i + 1) from (nI_succ i).symm]
            have e9 := ih (i + 1) (by omega)
            first
              | (have hzz : C i ≤ (fo (ddG C) (-1, 0) i).2 := by rw [eb]; exact h50
                 rw [show fo (ddG C) (-1, 0) (i + 1) = _ from ddG_e hzz, eb] at e9
                 exact e9)
              | (have hzz : ¬ C i ≤ (fo (ddG C) (-1, 0) i).2 := by rw [eb]; exact h50
                 rw [show fo (ddG C) (-1, 0) (i + 1) = _ from ddG_n hzz] at e9
                 exact e9)
              | fail "none"
        · exact absurd h37 (nI_m1 (by omega))
theorem q_Mo_dearest {sc : Option (Nat × Nat × (Nat → Int32))} {sa : Nat → Nat} {d : Nat} {M : mz_M} {z : Nat × Nat} {m : Nat} (w : g_Mo M.2.2 m) {F : Nat → Int32} {A : Nat → Nat → Int32} {c N D : Nat} {l t : Int32} {K P1 P2 P3 : Nat → Nat} {q : sQ} (hX : mX c N D l t K P1 P2 P3 q A) {C : Nat → Int32} (hCo : ∀ p q0 j, j < D → (fo (pmG (nI c) l t c K P1 P2 P3 (-1)) (qS p (bgQ (ownR c) q0)) (j + 1)).2.2.2.2.2.2 = C j)  : zi sc sa (d + 11) 238 [.ref m] (moF M m F A) z (mR M m F A ((fo (ddG C) (-1, 0) D).1)) := by
  obtain ⟨⟨c1, c2, c3, c4, c5⟩, ⟨k1, k2, k3, k4, ln, k5, k6, k7⟩, hd, hv, he, hI, hV, hn⟩ := id hX
  have b1 := hI.1
  have b2 := hI.2.1
  refine zin ym_Mo_dearest [.ref m, .retAddr 0, .retAddr 0] rfl rfl rfl rfl ?_
  refine z_aload_n (q := 1) rfl rfl rfl ?_
  refine z_cv0i (q := 4) rfl rfl rfl (Mo_k w) (s_Mo_is w k7 k5 k6) ?_
  refine z_if_ne (q := 7) rfl rfl (fun h4 => ?_) (fun h4 => ?_)
  · refine z_aload_n (q := 11) rfl rfl rfl ?_
    refine z_cv0qi (q := 14) rfl rfl rfl (Mo_k w) (q_Mo_playsX w hX) (fun x9 M9 h9 => ?_)
    obtain ⟨p9, q9, rfl, FF, AA, rfl, ww⟩ := h9
    refine z_pop (q := 15) rfl rfl rfl ?_
    refine z_iconst (q := 16) (v := -1) rfl rfl rfl ?_
    refine z_istore_n (q := 17) (L2 := [_, _, _]) rfl rfl rfl rfl ?_
    refine z_iconst (q := 18) (v := 0) rfl rfl rfl ?_
    refine z_istore_n (q := 19) (L2 := [_, _, _]) rfl rfl rfl rfl ?_
    obtain ⟨p8, q8, g8, s8⟩ := id ww.2.2.2.2
    refine mz_wp_m (mz_Kd_m sc sa _) ?_ (l_Mo_dearest (C := C) w c5 ((congrFun (ww.2.1.2.2.2 1 (by omega)) 4).trans k4) (fun j hj => (s8 j hj).trans (hCo p8 q8 j hj)) D 0 (by omega))
    intro r9 M9 h
    rw [h.1, h.2]
    exact qz_r rfl ⟨FF, AA, rfl, mPe_w ww⟩
  · exact absurd h4 (by decide)
theorem q_Mo_by {sc : Option (Nat × Nat × (Nat → Int32))} {sa : Nat → Nat} {d : Nat} {M : mz_M} {z : Nat × Nat} {m : Nat} (w : g_Mo M.2.2 m) {F : Nat → Int32} {A : Nat → Nat → Int32} {c N D : Nat} {l t : Int32} {K P1 P2 P3 : Nat → Nat} {q : sQ} (hX : mX c N D l t K P1 P2 P3 q A) {a : Int32} (ha : ¬ a < 0 ∧ a ≤ 2) (hva : ∀ p q0, pmV a t c N K P1 P2 P3 (-1) (qS p (bgQ (ownR c) q0)) D) {T : Int32} (hT : (∀ p q0, pmS a t c K P1 P2 P3 (-1) (qS p (bgQ (ownR c) q0)) D = T))  : zi sc sa (d + 11) 240 [.ref m, .int a] (moF M m F A) z (mR M m F A (T)) := by
  obtain ⟨⟨c1, c2, c3, c4, c5⟩, ⟨k1, k2, k3, k4, ln, k5, k6, k7⟩, hd, hv, he, hI, hV, hn⟩ := id hX
  have b1 := hI.1
  have b2 := hI.2.1
  refine zin ym_Mo_by [.ref m, .int a] rfl rfl rfl rfl ?_
  refine z_aload_n (q := 1) rfl rfl rfl ?_
  refine z_cv0i (q := 4) rfl rfl rfl (Mo_k w) (s_Mo_is w k7 k5 k6) ?_
  refine z_if_eq (q := 7) rfl rfl (fun h4 => ?_) (fun h4 => ?_)
  · exact absurd h4 (by decide)
  · refine z_iload_n (q := 8) rfl rfl rfl ?_
    refine z_i2l (q := 9) rfl rfl ?_
    refine z_lconst (q := 10) (v := 0) rfl rfl rfl ?_
    refine z_ldc2 (q := 13) (v := 2) rfl rfl rfl ?_
    refine z_cs3i (q := 16) rfl rfl rfl (t_Mo_inY (hi := 2) ha) ?_
    refine z_if_eq (q := 19) rfl rfl (fun h16 => ?_) (fun h16 => ?_)
    · exact absurd h16 (by decide)
    · refine z_aload_n (q := 20) rfl rfl rfl ?_
      refine z_iload_n (q := 21) rfl rfl rfl ?_
      refine z_aload_n (q := 22) rfl rfl rfl ?_
      refine z_getR (q := 25) rfl rfl rfl (Mo_k w) (Mo_r0 w) ?_
      refine z_iconst (q := 26) (v := 2) rfl rfl rfl ?_
      refine z_iald (q := 27) rfl rfl (Mo_a0 w) (vp_in_nI (n := 2) (by omega) (by omega)) ?_
      rw [moF_a0]
      try rw [nI_clamp (by omega)]
      rw [show A 1 (2 : Int32).toNatClampNeg = t from k3]
      refine z_iconst (q := 28) (v := -1) rfl rfl rfl ?_
      refine z_cv3qi (q := 31) rfl rfl rfl (Mo_k w) (q_Mo_plays w c1 (show N ≤ 200 by omega) c4 k1 k4 c5 hd hva) (fun x9 M9 h9 => ?_)
      obtain ⟨p9, q9, FF, AA, rfl, rfl, wt, wg, wsp⟩ := h9
      refine z_goto rfl ?_
      refine z_ireti rfl rfl ?_
      exact qz_r (hT _ _) ⟨FF, AA, rfl, fun k hk => wt.2.2.1 k (by omega), fun j hj => wt.2.2.2 j (by omega)⟩
theorem n_Mo_by {sc : Option (Nat × Nat × (Nat → Int32))} {sa : Nat → Nat} {d : Nat} {M : mz_M} {z : Nat × Nat} {m : Nat} (w : g_Mo M.2.2 m) {F : Nat → Int32} {A : Nat → Nat → Int32} {c N D : Nat} {l t : Int32} {K P1 P2 P3 : Nat → Nat} {q : sQ} (hX : mX c N D l t K P1 P2 P3 q A) {a : Int32} (ha : ¬ (¬ a < 0 ∧ a ≤ 2))  : zi sc sa (d + 11) 240 [.ref m, .int a] (moF M m F A) z (mR M m F A (-2)) := by
  obtain ⟨⟨c1, c2, c3, c4, c5⟩, ⟨k1, k2, k3, k4, ln, k5, k6, k7⟩, hd, hv, he, hI, hV, hn⟩ := id hX
  have b1 := hI.1
  have b2 := hI.2.1
  refine zin ym_Mo_by [.ref m, .int a] rfl rfl rfl rfl ?_
  refine z_aload_n (q := 1) rfl rfl rfl ?_
  refine z_cv0i (q := 4) rfl rfl rfl (Mo_k w) (s_Mo_is w k7 k5 k6) ?_
  refine z_if_eq (q := 7) rfl rfl (fun h4 => ?_) (fun h4 => ?_)
  · exact absurd h4 (by decide)
  · refine z_iload_n (q := 8) rfl rfl rfl ?_
    refine z_i2l (q := 9) rfl rfl ?_
    refine z_lconst (q := 10) (v := 0) rfl rfl rfl ?_
    refine z_ldc2 (q := 13) (v := 2) rfl rfl rfl ?_
    refine z_cs3i (q := 16) rfl rfl rfl (t_Mo_inN (hi := 2) ha) ?_
    refine z_if_eq (q := 19) rfl rfl (fun h16 => ?_) (fun h16 => ?_)
    · refine z_bipush (q := 36) (v := -2) rfl rfl rfl ?_
      refine z_ireti rfl rfl ?_
      exact qz_r rfl ⟨F, A, rfl, mPe_r⟩
    · exact absurd h16 (by decide)
theorem q_Mo_cutting {sc : Option (Nat × Nat × (Nat → Int32))} {sa : Nat → Nat} {d : Nat} {M : mz_M} {z : Nat × Nat} {m : Nat} (w : g_Mo M.2.2 m) {F : Nat → Int32} {A : Nat → Nat → Int32} {c N D : Nat} {l t : Int32} {K P1 P2 P3 : Nat → Nat} {q : sQ} (hX : mX c N D l t K P1 P2 P3 q A) {a : Int32} (ha : ¬ a < 0 ∧ a ≤ 20) (hva : ∀ p q0, pmV 2 a c N K P1 P2 P3 (-1) (qS p (bgQ (ownR c) q0)) D) {T : Int32} (hT : (∀ p q0, pmS 2 a c K P1 P2 P3 (-1) (qS p (bgQ (ownR c) q0)) D = T))  : zi sc sa (d + 11) 241 [.ref m, .int a] (moF M m F A) z (mR M m F A (T)) := by
  obtain ⟨⟨c1, c2, c3, c4, c5⟩, ⟨k1, k2, k3, k4, ln, k5, k6, k7⟩, hd, hv, he, hI, hV, hn⟩ := id hX
  have b1 := hI.1
  have b2 := hI.2.1
  refine zin ym_Mo_cutting [.ref m, .int a] rfl rfl rfl rfl ?_
  refine z_aload_n (q := 1) rfl rfl rfl ?_
  refine z_cv0i (q := 4) rfl rfl rfl (Mo_k w) (s_Mo_is w k7 k5 k6) ?_
  refine z_if_eq (q := 7) rfl rfl (fun h4 => ?_) (fun h4 => ?_)
  · exact absurd h4 (by decide)
  · refine z_iload_n (q := 8) rfl rfl rfl ?_
    refine z_i2l (q := 9) rfl rfl ?_
    refine z_lconst (q := 10) (v := 0) rfl rfl rfl ?_
    refine z_ldc2 (q := 13) (v := 20) rfl rfl rfl ?_
    refine z_cs3i (q := 16) rfl rfl rfl (t_Mo_inY (hi := 20) ha) ?_
    refine z_if_eq (q := 19) rfl rfl (fun h16 => ?_) (fun h16 => ?_)
    · exact absurd h16 (by decide)
    · refine z_aload_n (q := 20) rfl rfl rfl ?_
      refine z_iconst (q := 21) (v := 2) rfl rfl rfl ?_
      refine z_iload_n (q := 22) rfl rfl rfl ?_
      refine z_iconst (q := 23) (v := -1) rfl rfl rfl ?_
      refine z_cv3qi (q := 26) rfl rfl rfl (Mo_k w) (q_Mo_plays w c1 (show N ≤ 200 by omega) c4 k1 k4 c5 hd hva) (fun x9 M9 h9 => ?_)
      obtain ⟨p9, q9, FF, AA, rfl, rfl, wt, wg, wsp⟩ := h9
      refine z_goto rfl ?_
      refine z_ireti rfl rfl ?_
      exact qz_r (hT _ _) ⟨FF, AA, rfl, fun k hk => wt.2.2.1 k (by omega), fun j hj => wt.2.2.2 j (by omega)⟩
theorem n_Mo_cutting {sc : Option (Nat × Nat × (Nat → Int32))} {sa : Nat → Nat} {d : Nat} {M : mz_M} {z : Nat × Nat} {m : Nat} (w : g_Mo M.2.2 m) {F : Nat → Int32} {A : Nat → Nat → Int32} {c N D : Nat} {l t : Int32} {K P1 P2 P3 : Nat → Nat} {q : sQ} (hX : mX c N D l t K P1 P2 P3 q A) {a : Int32} (ha : ¬ (¬ a < 0 ∧ a ≤ 20))  : zi sc sa (d + 11) 241 [.ref m, .int a] (moF M m F A) z (mR M m F A (-2)) := by
  obtain ⟨⟨c1, c2, c3, c4, c5⟩, ⟨k1, k2, k3, k4, ln, k5, k6, k7⟩, hd, hv, he, hI, hV, hn⟩ := id hX
  have b1 := hI.1
  have b2 := hI.2.1
  refine zin ym_Mo_cutting [.ref m, .int a] rfl rfl rfl rfl ?_
  refine z_aload_n (q := 1) rfl rfl rfl ?_
  refine z_cv0i (q := 4) rfl rfl rfl (Mo_k w) (s_Mo_is w k7 k5 k6) ?_
  refine z_if_eq (q := 7) rfl rfl (fun h4 => ?_) (fun h4 => ?_)
  · exact absurd h4 (by decide)
  · refine z_iload_n (q := 8) rfl rfl rfl ?_
    refine z_i2l (q := 9) rfl rfl ?_
    refine z_lconst (q := 10) (v := 0) rfl rfl rfl ?_
    refine z_ldc2 (q := 13) (v := 20) rfl rfl rfl ?_
    refine z_cs3i (q := 16) rfl rfl rfl (t_Mo_inN (hi := 20) ha) ?_
    refine z_if_eq (q := 19) rfl rfl (fun h16 => ?_) (fun h16 => ?_)
    · refine z_bipush (q := 31) (v := -2) rfl rfl rfl ?_
      refine z_ireti rfl rfl ?_
      exact qz_r rfl ⟨F, A, rfl, mPe_r⟩
    · exact absurd h16 (by decide)
