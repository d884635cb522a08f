theorem nI_nn {i : Nat} (h : i < 2 ^ 31) : ¬ nI i < 0 := by
  intro e
  have e2 := Int32.lt_iff_toInt_lt.mp e
  rw [nI_toInt h] at e2
  have e3 : (0 : Int32).toInt = 0 := rfl
  omega
theorem nI_0n {i : Nat} (h0 : 0 < i) (h : i < 2 ^ 31) : ¬ nI i = 0 := by
  intro e
  have e2 := congrArg Int32.toInt e
  rw [nI_toInt h] at e2
  have e3 : (0 : Int32).toInt = 0 := rfl
  omega
theorem im_le {a : Int32} (h : ¬ nI 3 ≤ a) : a ≤ 2 := by
  have h2 := Int32.not_le.mp h
  have e2 := Int32.lt_iff_toInt_lt.mp h2
  rw [nI_toInt (by decide)] at e2
  refine Int32.le_iff_toInt_le.mpr ?_
  have e3 : (2 : Int32).toInt = 2 := rfl
  omega
theorem ntz_0 {sc : Option (Nat × Nat × (Nat → Int32))} {sa : Nat → Nat} {d : Nat} {M : mz_M} {z : Nat × Nat} {x1 : Value} : zw sc sa d ym_In_numberOfTrailingZeros z (fun r' M' => r' = some (.int 0) ∧ M' = M) 8 [.int 0, x1] [] M z := by
  refine z_iload_n (q := 9) rfl rfl rfl ?_
  refine z_if_gt (q := 12) rfl rfl (fun h9 => ?_) (fun h9 => ?_)
  · exact absurd h9 (by decide)
  · refine z_iload_n (q := 13) rfl rfl rfl ?_
    refine z_bipush (q := 15) (v := 32) rfl rfl rfl ?_
    refine z_iand (q := 16) rfl rfl ?_
    refine z_ireti rfl rfl ?_
    exact ⟨congrArg (fun x => some (Value.int x)) (by decide), rfl⟩
theorem ntz_1 {sc : Option (Nat × Nat × (Nat → Int32))} {sa : Nat → Nat} {d : Nat} {M : mz_M} {z : Nat × Nat} {x1 : Value} : zw sc sa d ym_In_numberOfTrailingZeros z (fun r' M' => r' = some (.int 1) ∧ M' = M) 8 [.int 1, x1] [] M z := by
  refine z_iload_n (q := 9) rfl rfl rfl ?_
  refine z_if_gt (q := 12) rfl rfl (fun h9 => ?_) (fun h9 => ?_)
  · refine z_iconst (q := 18) (v := 1) rfl rfl rfl ?_
    refine z_istore_n (q := 19) (L2 := [_, _]) rfl rfl rfl rfl ?_
    refine z_iload_n (q := 20) rfl rfl rfl ?_
    refine z_ldcw (q := 23) (v := 65536) rfl rfl rfl ?_
    refine z_ic_le (q := 26) rfl rfl (fun h23 => ?_) (fun h23 => ?_)
    · refine z_iload_n (q := 35) rfl rfl rfl ?_
      refine z_sipush (q := 38) (v := 256) rfl rfl rfl ?_
      refine z_ic_le (q := 41) rfl rfl (fun h38 => ?_) (fun h38 => ?_)
      · refine z_iload_n (q := 50) rfl rfl rfl ?_
        refine z_bipush (q := 52) (v := 16) rfl rfl rfl ?_
        refine z_ic_le (q := 55) rfl rfl (fun h52 => ?_) (fun h52 => ?_)
        · refine z_iload_n (q := 63) rfl rfl rfl ?_
          refine z_iconst (q := 64) (v := 4) rfl rfl rfl ?_
          refine z_ic_le (q := 67) rfl rfl (fun h64 => ?_) (fun h64 => ?_)
          · refine z_iload_n (q := 75) rfl rfl rfl ?_
            refine z_iload_n (q := 76) rfl rfl rfl ?_
            refine z_iconst (q := 77) (v := 1) rfl rfl rfl ?_
            refine z_iushr (q := 78) rfl rfl ?_
            refine z_iadd (q := 79) rfl rfl ?_
            refine z_ireti rfl rfl ?_
            exact ⟨congrArg (fun x => some (Value.int x)) (by decide), rfl⟩
          · exact absurd h64 (by decide)
        · exact absurd h52 (by decide)
      · exact absurd h38 (by decide)
    · exact absurd (by decide) h23
  · exact absurd h9 (by decide)
theorem ntz_3 {sc : Option (Nat × Nat × (Nat → Int32))} {sa : Nat → Nat} {d : Nat} {M : mz_M} {z : Nat × Nat} {x1 : Value} : zw sc sa d ym_In_numberOfTrailingZeros z (fun r' M' => r' = some (.int 2) ∧ M' = M) 8 [.int 3, x1] [] M z := by
  refine z_iload_n (q := 9) rfl rfl rfl ?_
  refine z_if_gt (q := 12) rfl rfl (fun h9 => ?_) (fun h9 => ?_)
  · refine z_iconst (q := 18) (v := 1) rfl rfl rfl ?_
    refine z_istore_n (q := 19) (L2 := [_, _]) rfl rfl rfl rfl ?_
    refine z_iload_n (q := 20) rfl rfl rfl ?_
    refine z_ldcw (q := 23) (v := 65536) rfl rfl rfl ?_
    refine z_ic_le (q := 26) rfl rfl (fun h23 => ?_) (fun h23 => ?_)
    · refine z_iload_n (q := 35) rfl rfl rfl ?_
      refine z_sipush (q := 38) (v := 256) rfl rfl rfl ?_
      refine z_ic_le (q := 41) rfl rfl (fun h38 => ?_) (fun h38 => ?_)
      · refine z_iload_n (q := 50) rfl rfl rfl ?_
        refine z_bipush (q := 52) (v := 16) rfl rfl rfl ?_
        refine z_ic_le (q := 55) rfl rfl (fun h52 => ?_) (fun h52 => ?_)
        · refine z_iload_n (q := 63) rfl rfl rfl ?_
          refine z_iconst (q := 64) (v := 4) rfl rfl rfl ?_
          refine z_ic_le (q := 67) rfl rfl (fun h64 => ?_) (fun h64 => ?_)
          · refine z_iload_n (q := 75) rfl rfl rfl ?_
            refine z_iload_n (q := 76) rfl rfl rfl ?_
            refine z_iconst (q := 77) (v := 1) rfl rfl rfl ?_
            refine z_iushr (q := 78) rfl rfl ?_
            refine z_iadd (q := 79) rfl rfl ?_
            refine z_ireti rfl rfl ?_
            exact ⟨congrArg (fun x => some (Value.int x)) (by decide), rfl⟩
          · exact absurd h64 (by decide)
        · exact absurd h52 (by decide)
      · exact absurd h38 (by decide)
    · exact absurd (by decide) h23
  · exact absurd h9 (by decide)
theorem ntz_7 {sc : Option (Nat × Nat × (Nat → Int32))} {sa : Nat → Nat} {d : Nat} {M : mz_M} {z : Nat × Nat} {x1 : Value} : zw sc sa d ym_In_numberOfTrailingZeros z (fun r' M' => r' = some (.int 3) ∧ M' = M) 8 [.int 7, x1] [] M z := by
  refine z_iload_n (q := 9) rfl rfl rfl ?_
  refine z_if_gt (q := 12) rfl rfl (fun h9 => ?_) (fun h9 => ?_)
  · refine z_iconst (q := 18) (v := 1) rfl rfl rfl ?_
    refine z_istore_n (q := 19) (L2 := [_, _]) rfl rfl rfl rfl ?_
    refine z_iload_n (q := 20) rfl rfl rfl ?_
    refine z_ldcw (q := 23) (v := 65536) rfl rfl rfl ?_
    refine z_ic_le (q := 26) rfl rfl (fun h23 => ?_) (fun h23 => ?_)
    · refine z_iload_n (q := 35) rfl rfl rfl ?_
      refine z_sipush (q := 38) (v := 256) rfl rfl rfl ?_
      refine z_ic_le (q := 41) rfl rfl (fun h38 => ?_) (fun h38 => ?_)
      · refine z_iload_n (q := 50) rfl rfl rfl ?_
        refine z_bipush (q := 52) (v := 16) rfl rfl rfl ?_
        refine z_ic_le (q := 55) rfl rfl (fun h52 => ?_) (fun h52 => ?_)
        · refine z_iload_n (q := 63) rfl rfl rfl ?_
          refine z_iconst (q := 64) (v := 4) rfl rfl rfl ?_
          refine z_ic_le (q := 67) rfl rfl (fun h64 => ?_) (fun h64 => ?_)
          · exact absurd h64 (by decide)
          · refine z_iinc (q := 70) (L2 := [_, _]) rfl rfl rfl rfl ?_
            refine z_iload_n (q := 71) rfl rfl rfl ?_
            refine z_iconst (q := 72) (v := 2) rfl rfl rfl ?_
            refine z_iushr (q := 73) rfl rfl ?_
            refine z_istore_n (q := 74) (L2 := [_, _]) rfl rfl rfl rfl ?_
            refine z_iload_n (q := 75) rfl rfl rfl ?_
            refine z_iload_n (q := 76) rfl rfl rfl ?_
            refine z_iconst (q := 77) (v := 1) rfl rfl rfl ?_
            refine z_iushr (q := 78) rfl rfl ?_
            refine z_iadd (q := 79) rfl rfl ?_
            refine z_ireti rfl rfl ?_
            exact ⟨congrArg (fun x => some (Value.int x)) (by decide), rfl⟩
        · exact absurd h52 (by decide)
      · exact absurd h38 (by decide)
    · exact absurd (by decide) h23
  · exact absurd h9 (by decide)
theorem s_In_ntz {sc : Option (Nat × Nat × (Nat → Int32))} {sa : Nat → Nat} {d : Nat} {M : mz_M} {z : Nat × Nat} {x y r : Int32} (h : (x ^^^ -1) &&& (x - 1) = y) (hy : (y = 0 ∧ r = 0) ∨ (y = 1 ∧ r = 1) ∨ (y = 3 ∧ r = 2) ∨ (y = 7 ∧ r = 3)) : zx sc sa (d + 1) 290 [.int x] M z z (some (.int r)) M := by
  refine zxin ym_In_numberOfTrailingZeros [.int x, .retAddr 0] rfl rfl rfl rfl ?_
  refine z_iload_n (q := 1) rfl rfl rfl ?_
  refine z_iconst (q := 2) (v := -1) rfl rfl rfl ?_
  refine z_ixor (q := 3) rfl rfl ?_
  refine z_iload_n (q := 4) rfl rfl rfl ?_
  refine z_iconst (q := 5) (v := 1) rfl rfl rfl ?_
  refine z_isub (q := 6) rfl rfl ?_
  refine z_iand (q := 7) rfl rfl ?_
  refine z_istore_n (q := 8) (L2 := [_, _]) rfl rfl rfl rfl ?_
  rw [h]
  rcases hy with ⟨rfl, rfl⟩ | ⟨rfl, rfl⟩ | ⟨rfl, rfl⟩ | ⟨rfl, rfl⟩
  · exact ntz_0
  · exact ntz_1
  · exact ntz_3
  · exact ntz_7
def ntI : Nat → Int32 := fun v => if v % 2 = 1 then 0 else if v % 4 = 2 then 1 else if v % 8 = 4 then 2 else 3
theorem s_In_ntz16 {sc : Option (Nat × Nat × (Nat → Int32))} {sa : Nat → Nat} {d : Nat} {M : mz_M} {z : Nat × Nat} {v : Nat} (h0 : 0 < v) (h : v < 16) : zx sc sa (d + 1) 290 [.int (nI v)] M z z (some (.int (ntI v))) M := by
  have key : ∀ v, v < 16 → 0 < v → ∃ y : Int32, (nI v ^^^ -1) &&& (nI v - 1) = y ∧ ((y = 0 ∧ ntI v = 0) ∨ (y = 1 ∧ ntI v = 1) ∨ (y = 3 ∧ ntI v = 2) ∨ (y = 7 ∧ ntI v = 3)) := by
    intro v hv h0
    refine ⟨_, rfl, ?_⟩
    revert h0
    revert v
    decide
  obtain ⟨y, h1, h2⟩ := key v h h0
  exact s_In_ntz h1 h2
def hu2 (v : Int32) : Int32 := if v = 0 then 0 else ntI v.toNatClampNeg + 1
theorem hu2_b : ∀ h, h < 4 → hu2 (b2 h) = nI (h + 1) := by decide
theorem nI_16 : ∀ v, v < 16 → nI v = 0 → v = 0 := by decide

theorem l_X_snap {sc : Option (Nat × Nat × (Nat → Int32))} {sa : Nat → Nat} {d : Nat} {M : mz_M} {z : Nat × Nat} {x p r : Nat} {pr ln td de : Int32} {pa ks os ts hs cs : Nat → Int32} {s l t : Int32} {q : sQ} (w : g_X M.2.2 x p r) (hN : q.1 ≤ 40) (hf : okl q.2.2.1 q.1)  : ∀ (k : Nat) (i : Nat) (x4 : Value), i + k = q.1 → zw sc sa (d + 3) ym_X_snap z (fun r' M' => r' = some (.int (snI (fun j => (fo (fun v acc => acc + nI (wl (va_up q.2.2.1 j (-1)) q.1 v)) 0 q.1)) (fo (fun v acc => acc + nI (wl q.2.2.1 q.1 v)) 0 q.1) q.1).2) ∧ M' = (stQ M p pr ln td de pa ks os ts hs cs s l t q)) 25 [.ref x, .int (snI (fun j => (fo (fun v acc => acc + nI (wl (va_up q.2.2.1 j (-1)) q.1 v)) 0 q.1)) (fo (fun v acc => acc + nI (wl q.2.2.1 q.1 v)) 0 q.1) i).2, .int (snI (fun j => (fo (fun v acc => acc + nI (wl (va_up q.2.2.1 j (-1)) q.1 v)) 0 q.1)) (fo (fun v acc => acc + nI (wl q.2.2.1 q.1 v)) 0 q.1) i).1, .int (nI i), x4] [] (stQ M p pr ln td de pa ks os ts hs cs s l t q) z := by
  intro k
  induction k with
  | zero =>
    intro i x4 hi
    have e1 : i = q.1 := by omega
    subst e1
    refine z_iload_n (q := 26) rfl rfl rfl ?_
    refine z_aload_n (q := 27) rfl rfl rfl ?_
    refine z_getR (q := 30) rfl rfl rfl (X_k w) (X_r4 w) ?_
    refine z_getR (q := 33) rfl rfl rfl (St_k (X_w4 w)) (St_r0 (X_w4 w)) ?_
    refine z_getI (q := 36) rfl rfl rfl (Sh_k (St_w0 (X_w4 w))) ?_
    rw [stS_g8]
    refine z_ic_ge (q := 39) rfl rfl (fun h36 => ?_) (fun h36 => ?_)
    · refine z_iload_n (q := 70) rfl rfl rfl ?_
      refine z_ireti rfl rfl ?_
      exact ⟨rfl, rfl⟩
    · exact absurd (Int32.le_refl _) h36
  | succ k ih =>
    intro i x4 hi
    refine z_iload_n (q := 26) rfl rfl rfl ?_
    refine z_aload_n (q := 27) rfl rfl rfl ?_
    refine z_getR (q := 30) rfl rfl rfl (X_k w) (X_r4 w) ?_
    refine z_getR (q := 33) rfl rfl rfl (St_k (X_w4 w)) (St_r0 (X_w4 w)) ?_
    refine z_getI (q := 36) rfl rfl rfl (Sh_k (St_w0 (X_w4 w))) ?_
    rw [stS_g8]
    refine z_ic_ge (q := 39) rfl rfl (fun h36 => ?_) (fun h36 => ?_)
    · exact absurd h36 (nI_ge (by omega) (by omega))
    · refine z_aload_n (q := 40) rfl rfl rfl ?_
      refine z_getR (q := 43) rfl rfl rfl (X_k w) (X_r4 w) ?_
      refine z_getR (q := 46) rfl rfl rfl (St_k (X_w4 w)) (St_r0 (X_w4 w)) ?_
      refine z_iload_n (q := 47) rfl rfl rfl ?_
      refine z_cv1i (q := 50) rfl rfl rfl (Sh_k (St_w0 (X_w4 w))) (t_X_ifSnap w hN hf (show i < q.1 by omega)) ?_
      refine z_istore (q := 52) (L2 := [_, _, _, _, _]) rfl rfl rfl rfl ?_
      refine z_iload (q := 54) rfl rfl rfl ?_
      refine z_iload_n (q := 55) rfl rfl rfl ?_
      refine z_ic_ge (q := 58) rfl rfl (fun h55 => ?_) (fun h55 => ?_)
      · refine z_iinc (q := 66) (L2 := [_, _, _, _, _]) rfl rfl rfl rfl ?_
        refine z_goto rfl ?_
        rw [show nI i + Int32.ofInt 1 = nI (i + 1) from (nI_succ i).symm]
        have e9 := fun u => ih (i + 1) u (by omega)
        first
          | (have hzz : ¬ (snI (fun j => (fo (fun v acc => acc + nI (wl (va_up q.2.2.1 j (-1)) q.1 v)) 0 q.1)) (fo (fun v acc => acc + nI (wl q.2.2.1 q.1 v)) 0 q.1) i).1 ≤ (fo (fun v acc => acc + nI (wl (va_up q.2.2.1 i (-1)) q.1 v)) 0 q.1) := h55
             rw [show (snI (fun j => (fo (fun v acc => acc + nI (wl (va_up q.2.2.1 j (-1)) q.1 v)) 0 q.1)) (fo (fun v acc => acc + nI (wl q.2.2.1 q.1 v)) 0 q.1) (i + 1)) = ((fo (fun v acc => acc + nI (wl (va_up q.2.2.1 i (-1)) q.1 v)) 0 q.1), nI i) from if_pos (Int32.not_le.mp hzz)] at e9
             exact e9 _)
          | (have hzz : (snI (fun j => (fo (fun v acc => acc + nI (wl (va_up q.2.2.1 j (-1)) q.1 v)) 0 q.1)) (fo (fun v acc => acc + nI (wl q.2.2.1 q.1 v)) 0 q.1) i).1 ≤ (fo (fun v acc => acc + nI (wl (va_up q.2.2.1 i (-1)) q.1 v)) 0 q.1) := h55
             rw [show (snI (fun j => (fo (fun v acc => acc + nI (wl (va_up q.2.2.1 j (-1)) q.1 v)) 0 q.1)) (fo (fun v acc => acc + nI (wl q.2.2.1 q.1 v)) 0 q.1) (i + 1)) = (snI (fun j => (fo (fun v acc => acc + nI (wl (va_up q.2.2.1 j (-1)) q.1 v)) 0 q.1)) (fo (fun v acc => acc + nI (wl q.2.2.1 q.1 v)) 0 q.1) i) from if_neg (Int32.not_lt.mpr hzz)] at e9
             exact e9 _)
          | fail "none"
      · refine z_iload (q := 60) rfl rfl rfl ?_
        refine z_istore_n (q := 61) (L2 := [_, _, _, _, _]) rfl rfl rfl rfl ?_
        refine z_iload_n (q := 62) rfl rfl rfl ?_
        refine z_istore_n (q := 63) (L2 := [_, _, _, _, _]) rfl rfl rfl rfl ?_
        refine z_iinc (q := 66) (L2 := [_, _, _, _, _]) rfl rfl rfl rfl ?_
        refine z_goto rfl ?_
        rw [show nI i + Int32.ofInt 1 = nI (i + 1) from (nI_succ i).symm]
        have e9 := fun u => ih (i + 1) u (by omega)
        first
          | (have hzz : ¬ (snI (fun j => (fo (fun v acc => acc + nI (wl (va_up q.2.2.1 j (-1)) q.1 v)) 0 q.1)) (fo (fun v acc => acc + nI (wl q.2.2.1 q.1 v)) 0 q.1) i).1 ≤ (fo (fun v acc => acc + nI (wl (va_up q.2.2.1 i (-1)) q.1 v)) 0 q.1) := h55
             rw [show (snI (fun j => (fo (fun v acc => acc + nI (wl (va_up q.2.2.1 j (-1)) q.1 v)) 0 q.1)) (fo (fun v acc => acc + nI (wl q.2.2.1 q.1 v)) 0 q.1) (i + 1)) = ((fo (fun v acc => acc + nI (wl (va_up q.2.2.1 i (-1)) q.1 v)) 0 q.1), nI i) from if_pos (Int32.not_le.mp hzz)] at e9
             exact e9 _)
          | (have hzz : (snI (fun j => (fo (fun v acc => acc + nI (wl (va_up q.2.2.1 j (-1)) q.1 v)) 0 q.1)) (fo (fun v acc => acc + nI (wl q.2.2.1 q.1 v)) 0 q.1) i).1 ≤ (fo (fun v acc => acc + nI (wl (va_up q.2.2.1 i (-1)) q.1 v)) 0 q.1) := h55
             rw [show (snI (fun j => (fo (fun v acc => acc + nI (wl (va_up q.2.2.1 j (-1)) q.1 v)) 0 q.1)) (fo (fun v acc => acc + nI (wl q.2.2.1 q.1 v)) 0 q.1) (i + 1)) = (snI (fun j => (fo (fun v acc => acc + nI (wl (va_up q.2.2.1 j (-1)) q.1 v)) 0 q.1)) (fo (fun v acc => acc + nI (wl q.2.2.1 q.1 v)) 0 q.1) i) from if_neg (Int32.not_lt.mpr hzz)] at e9
             exact e9 _)
          | fail "none"
theorem t_X_allW {sc : Option (Nat × Nat × (Nat → Int32))} {sa : Nat → Nat} {d : Nat} {M : mz_M} {z : Nat × Nat} {x p r : Nat} {pr ln td de : Int32} {pa ks os ts hs cs : Nat → Int32} {s l t : Int32} {q : sQ} (w : g_X M.2.2 x p r) (hN : q.1 ≤ 40) (hf : okl q.2.2.1 q.1) : zx sc sa (d + 2) 42 [.ref (p + 1)] (stQ M p pr ln td de pa ks os ts hs cs s l t q) z z (some (.int (fo (fun v acc => acc + nI (wl q.2.2.1 q.1 v)) 0 q.1))) (stQ M p pr ln td de pa ks os ts hs cs s l t q) := by
  have e := @s_Sh_allWays sc sa d (stQ M p pr ln td de pa ks os ts hs cs s l t q) z (p + 1) 40 (St_w0 (X_w4 w)) q.1 stS_g8 hN (by omega) (by rw [stQ_l]; exact hf)
  rw [stQ_l] at e
  exact e
theorem t_X_thereS {sc : Option (Nat × Nat × (Nat → Int32))} {sa : Nat → Nat} {d : Nat} {M : mz_M} {z : Nat × Nat} {x p r : Nat} {pr ln td de : Int32} {pa ks os ts hs cs : Nat → Int32} {s l t : Int32} {q : sQ} (w : g_X M.2.2 x p r) (hN : q.1 ≤ 40) (hf : okl q.2.2.1 q.1) {c : Nat} (hc : s = nI c) (hC : c ≤ 12) (h1 : 0 < c) : zx sc sa (d + 1) 109 [.ref x] (stQ M p pr ln td de pa ks os ts hs cs s l t q) z z (some (.int 1)) (stQ M p pr ln td de pa ks os ts hs cs s l t q) := by
  have e := @s_X_isThere sc sa d (stQ M p pr ln td de pa ks os ts hs cs s l t q) z x p r w c (stS_g5.trans hc) hC
  rw [bz_t h1] at e
  exact e
theorem q_X_snap {sc : Option (Nat × Nat × (Nat → Int32))} {sa : Nat → Nat} {d : Nat} {M : mz_M} {z : Nat × Nat} {x p r : Nat} {pr ln td de : Int32} {pa ks os ts hs cs : Nat → Int32} {s l t : Int32} {q : sQ} (w : g_X M.2.2 x p r) (hN : q.1 ≤ 40) (hf : okl q.2.2.1 q.1) {c : Nat} (hc : s = nI c) (hC : c ≤ 12) (h1 : 0 < c) : zx sc sa (d + 4) 130 [.ref x] (stQ M p pr ln td de pa ks os ts hs cs s l t q) z z (some (.int (snI (fun j => (fo (fun v acc => acc + nI (wl (va_up q.2.2.1 j (-1)) q.1 v)) 0 q.1)) (fo (fun v acc => acc + nI (wl q.2.2.1 q.1 v)) 0 q.1) q.1).2)) (stQ M p pr ln td de pa ks os ts hs cs s l t q) := by
  refine zxin ym_X_snap [.ref x, .retAddr 0, .retAddr 0, .retAddr 0, .retAddr 0] rfl rfl rfl rfl ?_
  refine z_aload_n (q := 1) rfl rfl rfl ?_
  refine z_cv0i (q := 4) rfl rfl rfl (X_k w) (t_X_thereS w hN hf hc hC h1) ?_
  refine z_if_ne (q := 7) rfl rfl (fun h4 => ?_) (fun h4 => ?_)
  · refine z_iconst (q := 11) (v := -1) rfl rfl rfl ?_
    refine z_istore_n (q := 12) (L2 := [_, _, _, _, _]) rfl rfl rfl rfl ?_
    refine z_aload_n (q := 13) rfl rfl rfl ?_
    refine z_getR (q := 16) rfl rfl rfl (X_k w) (X_r4 w) ?_
    refine z_getR (q := 19) rfl rfl rfl (St_k (X_w4 w)) (St_r0 (X_w4 w)) ?_
    refine z_cv0i (q := 22) rfl rfl rfl (Sh_k (St_w0 (X_w4 w))) (t_X_allW w hN hf) ?_
    refine z_istore_n (q := 23) (L2 := [_, _, _, _, _]) rfl rfl rfl rfl ?_
    refine z_iconst (q := 24) (v := 0) rfl rfl rfl ?_
    refine z_istore_n (q := 25) (L2 := [_, _, _, _, _]) rfl rfl rfl rfl ?_
    exact l_X_snap w hN hf q.1 0 _ (by omega)
  · exact absurd h4 (by decide)
theorem n_X_snap {sc : Option (Nat × Nat × (Nat → Int32))} {sa : Nat → Nat} {d : Nat} {M : mz_M} {z : Nat × Nat} {x p q : Nat} (w : g_X M.2.2 x p q) {c : Nat} (hc : M.1 (p + 1) 5 = nI c) (hC : c ≤ 12) (hno : ¬ 0 < c) : zx sc sa (d + 4) 130 [.ref x] M z z (some (.int (-2))) M := by
  refine zxin ym_X_snap [.ref x, .retAddr 0, .retAddr 0, .retAddr 0, .retAddr 0] rfl rfl rfl rfl ?_
  refine z_aload_n (q := 1) rfl rfl rfl ?_
  refine z_cv0i (q := 4) rfl rfl rfl (X_k w) (s_X_isThere w hc hC) ?_
  refine z_if_ne (q := 7) rfl rfl (fun h4 => ?_) (fun h4 => ?_)
  · exact absurd (bz_n.mp h4) hno
  · refine z_bipush (q := 9) (v := -2) rfl rfl rfl ?_
    refine z_ireti rfl rfl ?_
    exact ⟨rfl, rfl⟩
theorem X_im {G : (Nat → Nat → Option Nat) × (Nat → Nat × Nat)} {b p q k : Nat} (w : g_X G b p q) (hk : k < 3) : G.1 (b + 3) k = some (b + 48 + 13 * k) ∧ g_St G (b + 48 + 13 * k) := w.2.2.2.2.2.2.2.2.2.2.2.2.2.1 k hk
theorem X_pq {G : (Nat → Nat → Option Nat) × (Nat → Nat × Nat)} {b p q : Nat} (w : g_X G b p q) : p = b + 22 ∧ q = b + 35 ∨ p = b + 35 ∧ q = b + 22 := w.2.2.2.2.2.2.2.2.2.2.2.2.2.2
def qM (M : mz_M) (sh n : Nat) : sQ := (n, M.2.1 (sh + 1), M.1 (sh + 2), M.1 (sh + 3), M.1 (sh + 4), M.1 (sh + 5), M.1 sh 9)
theorem shQ_eta {M : mz_M} {sh n : Nat} (h : M.1 sh 8 = nI n) : shQ M sh (M.1 sh 5) (M.1 sh 6) (M.1 sh 7) (qM M sh n) = M := by
  unfold shQ qM
  dsimp only
  rw [← h]
  exact shP_eta
theorem stB_eta {M : mz_M} {st : Nat} : stB M st (M.1 st 7) (M.1 st 8) (M.1 st 9) (M.1 st 10) (M.1 (st + 7)) (M.1 (st + 8)) (M.1 (st + 9)) (M.1 (st + 10)) (M.1 (st + 11)) (M.1 (st + 12)) = M := by
  unfold stB
  refine Prod.ext (funext fun a => ?_) rfl
  dsimp only
  split
  · rename_i e
    subst e
    funext k
    unfold stH
    split <;> rfl
  · split
    · rename_i e
      rw [e]
    · split
      · rename_i e
        rw [e]
      · split
        · rename_i e
          rw [e]
        · split
          · rename_i e
            rw [e]
          · split
            · rename_i e
              rw [e]
            · split
              · rename_i e
                rw [e]
              · rfl
theorem stQ_eta {M : mz_M} {st n : Nat} (h : M.1 (st + 1) 8 = nI n) : stQ M st (M.1 st 7) (M.1 st 8) (M.1 st 9) (M.1 st 10) (M.1 (st + 7)) (M.1 (st + 8)) (M.1 (st + 9)) (M.1 (st + 10)) (M.1 (st + 11)) (M.1 (st + 12)) (M.1 (st + 1) 5) (M.1 (st + 1) 6) (M.1 (st + 1) 7) (qM M (st + 1) n) = M := by
  unfold stQ
  rw [stB_eta]
  exact shQ_eta h
/-- a story become another one -/
def beM (M : mz_M) (st so n : Nat) : mz_M := stQ M st (M.1 so 7) (M.1 so 8) (M.1 so 9) (M.1 so 10) (va_cpy (M.1 (so + 7)) (M.1 (st + 7)) 0 0 12) (va_cpy (M.1 (so + 8)) (M.1 (st + 8)) 0 0 60) (va_cpy (M.1 (so + 9)) (M.1 (st + 9)) 0 0 60) (va_cpy (M.1 (so + 10)) (M.1 (st + 10)) 0 0 60) (va_cpy (M.1 (so + 11)) (M.1 (st + 11)) 0 0 60) (va_cpy (M.1 (so + 12)) (M.1 (st + 12)) 0 0 60) (M.1 (so + 1) 5) (M.1 (so + 1) 6) (M.1 (so + 1) 7) (bcQ M (so + 1) n (qM M (st + 1) 0))
theorem t_St_become {sc : Option (Nat × Nat × (Nat → Int32))} {sa : Nat → Nat} {d : Nat} {M : mz_M} {z : Nat × Nat} {st : Nat} (w : g_St M.2.2 st) {so : Nat} (wo : g_St M.2.2 so) (hfar : so + 13 ≤ st ∨ st + 13 ≤ so) {n n0 : Nat} (h0 : M.1 (st + 1) 8 = nI n0) (hn : M.1 (so + 1) 8 = nI n) (hn40 : n ≤ 40) : zx sc sa (d + 3) 68 [.ref st, .ref so] M z z none (beM M st so n) := by
  have e := q_St_become (sc := sc) (sa := sa) (d := d) (z := z) (M := M) (pr := M.1 st 7) (ln := M.1 st 8) (td := M.1 st 9) (de := M.1 st 10) (pa := M.1 (st + 7)) (ks := M.1 (st + 8)) (os := M.1 (st + 9)) (ts := M.1 (st + 10)) (hs := M.1 (st + 11)) (cs := M.1 (st + 12)) (s := M.1 (st + 1) 5) (l := M.1 (st + 1) 6) (t := M.1 (st + 1) 7) (q := qM M (st + 1) n0) w wo hfar hn hn40
  rw [stQ_eta h0] at e
  exact e
theorem t_X_is1 {sc : Option (Nat × Nat × (Nat → Int32))} {sa : Nat → Nat} {d : Nat} {M : mz_M} {z : Nat × Nat} {x p r : Nat} (w : g_X M.2.2 x p r) {c : Nat} (hc : M.1 (p + 1) 5 = nI c) (hC : c ≤ 12) (h1 : 0 < c) : zx sc sa (d + 1) 109 [.ref x] M z z (some (.int 1)) M := by
  have e := @s_X_isThere sc sa d M z x p r w c hc hC
  rw [bz_t h1] at e
  exact e
theorem t_X_is0 {sc : Option (Nat × Nat × (Nat → Int32))} {sa : Nat → Nat} {d : Nat} {M : mz_M} {z : Nat × Nat} {x p r : Nat} (w : g_X M.2.2 x p r) {c : Nat} (hc : M.1 (p + 1) 5 = nI c) (hC : c ≤ 12) (h1 : ¬ 0 < c) : zx sc sa (d + 1) 109 [.ref x] M z z (some (.int 0)) M := by
  have e := @s_X_isThere sc sa d M z x p r w c hc hC
  rw [bz_f h1] at e
  exact e
theorem s_X_imageAt1 {sc : Option (Nat × Nat × (Nat → Int32))} {sa : Nat → Nat} {d : Nat} {M : mz_M} {z : Nat × Nat} {x p r : Nat} (w : g_X M.2.2 x p r) {i : Nat} (hi : i < 3) : zx sc sa (d + 1) 163 [.ref x, .int (nI i)] M z z (some (.ref (x + 48 + 13 * i))) M := by
  refine zxin ym_X_imageAt [.ref x, .int (nI i)] rfl rfl rfl rfl ?_
  refine z_iload_n (q := 1) rfl rfl rfl ?_
  refine z_if_lt (q := 4) rfl rfl (fun h1 => ?_) (fun h1 => ?_)
  · exact absurd h1 (nI_nn (by omega))
  · refine z_iload_n (q := 5) rfl rfl rfl ?_
    refine z_aload_n (q := 6) rfl rfl rfl ?_
    refine z_getR (q := 9) rfl rfl rfl (X_k w) (X_r1 w) ?_
    refine z_alen (q := 10) rfl rfl (X_a1 w) rfl rfl ?_
    refine z_ic_ge (q := 13) rfl rfl (fun h10 => ?_) (fun h10 => ?_)
    · exact absurd h10 (nI_ge (b := 3) (by omega) (by omega))
    · refine z_aload_n (q := 14) rfl rfl rfl ?_
      refine z_getR (q := 17) rfl rfl rfl (X_k w) (X_r1 w) ?_
      refine z_iload_n (q := 18) rfl rfl rfl ?_
      refine z_aald (q := 19) rfl rfl (X_a1 w) (vp_in_nI (by omega) (by omega)) (by rw [nI_clamp (by omega)]; exact (X_im w hi).1) ?_
      refine z_goto rfl ?_
      refine z_aret rfl rfl (Or.inr ⟨_, rfl⟩) ?_
      exact ⟨rfl, rfl⟩
theorem s_X_imageAt0 {sc : Option (Nat × Nat × (Nat → Int32))} {sa : Nat → Nat} {d : Nat} {M : mz_M} {z : Nat × Nat} {x p r : Nat} (w : g_X M.2.2 x p r) {a : Int32} (ha : ¬ (¬ a < 0 ∧ a ≤ 2)) : zx sc sa (d + 1) 163 [.ref x, .int a] M z z (some .null) M := by
  refine zxin ym_X_imageAt [.ref x, .int a] rfl rfl rfl rfl ?_
  refine z_iload_n (q := 1) rfl rfl rfl ?_
  refine z_if_lt (q := 4) rfl rfl (fun h1 => ?_) (fun h1 => ?_)
  · refine z_null (q := 23) rfl rfl ?_
    refine z_aret rfl rfl (Or.inl rfl) ?_
    exact ⟨rfl, rfl⟩
  · refine z_iload_n (q := 5) rfl rfl rfl ?_
    refine z_aload_n (q := 6) rfl rfl rfl ?_
    refine z_getR (q := 9) rfl rfl rfl (X_k w) (X_r1 w) ?_
    refine z_alen (q := 10) rfl rfl (X_a1 w) rfl rfl ?_
    refine z_ic_ge (q := 13) rfl rfl (fun h10 => ?_) (fun h10 => ?_)
    · refine z_null (q := 23) rfl rfl ?_
      refine z_aret rfl rfl (Or.inl rfl) ?_
      exact ⟨rfl, rfl⟩
    · exact absurd ⟨h1, im_le h10⟩ ha
theorem q_X_image {sc : Option (Nat × Nat × (Nat → Int32))} {sa : Nat → Nat} {d : Nat} {M : mz_M} {z : Nat × Nat} {x p r : Nat} (w : g_X M.2.2 x p r) {c : Nat} (hc : M.1 (p + 1) 5 = nI c) (hC : c ≤ 12) (h1 : 0 < c) {i : Nat} (hi : i < 3) {n n0 : Nat} (h0 : M.1 (x + 48 + 13 * i + 1) 8 = nI n0) (hn : M.1 (p + 1) 8 = nI n) (hN : n ≤ 40) : zx sc sa (d + 4) 164 [.ref x, .int (nI i)] M z z (some (.int 0)) (beM M (x + 48 + 13 * i) p n) := by
  refine zxin ym_X_image [.ref x, .int (nI i), .retAddr 0] rfl rfl rfl rfl ?_
  refine z_aload_n (q := 1) rfl rfl rfl ?_
  refine z_iload_n (q := 2) rfl rfl rfl ?_
  refine z_cv1a (q := 5) rfl rfl rfl (X_k w) (s_X_imageAt1 w hi) ?_
  refine z_astore_n (q := 6) (L2 := [_, _, _]) rfl rfl rfl rfl ?_
  refine z_aload_n (q := 7) rfl rfl rfl ?_
  refine z_ifnull_r (q := 10) rfl rfl ?_
  refine z_aload_n (q := 11) rfl rfl rfl ?_
  refine z_cv0i (q := 14) rfl rfl rfl (X_k w) (t_X_is1 w hc hC h1) ?_
  refine z_if_ne (q := 17) rfl rfl (fun h14 => ?_) (fun h14 => ?_)
  · refine z_aload_n (q := 21) rfl rfl rfl ?_
    refine z_aload_n (q := 22) rfl rfl rfl ?_
    refine z_getR (q := 25) rfl rfl rfl (X_k w) (X_r4 w) ?_
    refine z_cv1v (q := 28) rfl rfl rfl (St_k (X_im w hi).2) (t_St_become (X_im w hi).2 (X_w4 w) (by have := X_pq w; omega) h0 hn hN) ?_
    refine z_iconst (q := 29) (v := 0) rfl rfl rfl ?_
    refine z_ireti rfl rfl ?_
    exact ⟨rfl, rfl⟩
  · exact absurd h14 (by decide)
theorem n_X_image {sc : Option (Nat × Nat × (Nat → Int32))} {sa : Nat → Nat} {d : Nat} {M : mz_M} {z : Nat × Nat} {x p r : Nat} (w : g_X M.2.2 x p r) {c : Nat} (hc : M.1 (p + 1) 5 = nI c) (hC : c ≤ 12) (h1 : ¬ 0 < c) {i : Nat} (hi : i < 3) : zx sc sa (d + 4) 164 [.ref x, .int (nI i)] M z z (some (.int (-2))) M := by
  refine zxin ym_X_image [.ref x, .int (nI i), .retAddr 0] rfl rfl rfl rfl ?_
  refine z_aload_n (q := 1) rfl rfl rfl ?_
  refine z_iload_n (q := 2) rfl rfl rfl ?_
  refine z_cv1a (q := 5) rfl rfl rfl (X_k w) (s_X_imageAt1 w hi) ?_
  refine z_astore_n (q := 6) (L2 := [_, _, _]) rfl rfl rfl rfl ?_
  refine z_aload_n (q := 7) rfl rfl rfl ?_
  refine z_ifnull_r (q := 10) rfl rfl ?_
  refine z_aload_n (q := 11) rfl rfl rfl ?_
  refine z_cv0i (q := 14) rfl rfl rfl (X_k w) (t_X_is0 w hc hC h1) ?_
  refine z_if_ne (q := 17) rfl rfl (fun h14 => ?_) (fun h14 => ?_)
  · exact absurd h14 (by decide)
  · refine z_bipush (q := 19) (v := -2) rfl rfl rfl ?_
    refine z_ireti rfl rfl ?_
    exact ⟨rfl, rfl⟩
theorem n_X_image1 {sc : Option (Nat × Nat × (Nat → Int32))} {sa : Nat → Nat} {d : Nat} {M : mz_M} {z : Nat × Nat} {x p r : Nat} (w : g_X M.2.2 x p r) {a : Int32} (ha : ¬ (¬ a < 0 ∧ a ≤ 2)) : zx sc sa (d + 4) 164 [.ref x, .int a] M z z (some (.int (-2))) M := by
  refine zxin ym_X_image [.ref x, .int a, .retAddr 0] rfl rfl rfl rfl ?_
  refine z_aload_n (q := 1) rfl rfl rfl ?_
  refine z_iload_n (q := 2) rfl rfl rfl ?_
  refine z_cv1a (q := 5) rfl rfl rfl (X_k w) (s_X_imageAt0 w ha) ?_
  refine z_astore_nN (q := 6) (L2 := [_, _, _]) rfl rfl rfl rfl ?_
  refine z_aload_nN (q := 7) rfl rfl rfl ?_
  refine z_ifnull_n rfl ?_
  refine z_bipush (q := 19) (v := -2) rfl rfl rfl ?_
  refine z_ireti rfl rfl ?_
  exact ⟨rfl, rfl⟩
theorem q_X_back {sc : Option (Nat × Nat × (Nat → Int32))} {sa : Nat → Nat} {d : Nat} {M : mz_M} {z : Nat × Nat} {x p r : Nat} (w : g_X M.2.2 x p r) {i : Nat} (hi : i < 3) {n n0 ck : Nat} (hn : M.1 (x + 48 + 13 * i + 1) 8 = nI n) (hN : n ≤ 40) (h0 : M.1 (p + 1) 8 = nI n0) (hk : M.1 (x + 48 + 13 * i + 1) 5 = nI ck) (hk1 : 0 < ck) (hk2 : ck ≤ 12) : zx sc sa (d + 4) 165 [.ref x, .int (nI i)] M z z (some (.int 0)) (beM M p (x + 48 + 13 * i) n) := by
  refine zxin ym_X_back [.ref x, .int (nI i), .retAddr 0] rfl rfl rfl rfl ?_
  refine z_aload_n (q := 1) rfl rfl rfl ?_
  refine z_iload_n (q := 2) rfl rfl rfl ?_
  refine z_cv1a (q := 5) rfl rfl rfl (X_k w) (s_X_imageAt1 w hi) ?_
  refine z_astore_n (q := 6) (L2 := [_, _, _]) rfl rfl rfl rfl ?_
  refine z_aload_n (q := 7) rfl rfl rfl ?_
  refine z_ifnonnull_r rfl ?_
  refine z_aload_n (q := 14) rfl rfl rfl ?_
  refine z_getR (q := 17) rfl rfl rfl (St_k (X_im w hi).2) (St_r0 (X_im w hi).2) ?_
  refine z_getI (q := 20) rfl rfl rfl (Sh_k (St_w0 (X_im w hi).2)) ?_
  rw [hk]
  refine z_if_ne (q := 23) rfl rfl (fun h20 => ?_) (fun h20 => ?_)
  · refine z_aload_n (q := 27) rfl rfl rfl ?_
    refine z_getR (q := 30) rfl rfl rfl (X_k w) (X_r4 w) ?_
    refine z_aload_n (q := 31) rfl rfl rfl ?_
    refine z_cv1v (q := 34) rfl rfl rfl (St_k (X_w4 w)) (t_St_become (X_w4 w) (X_im w hi).2 (by have := X_pq w; omega) h0 hn hN) ?_
    refine z_iconst (q := 35) (v := 0) rfl rfl rfl ?_
    refine z_ireti rfl rfl ?_
    exact ⟨rfl, rfl⟩
  · exact absurd h20 (nI_0n hk1 (by omega))
theorem n_X_back {sc : Option (Nat × Nat × (Nat → Int32))} {sa : Nat → Nat} {d : Nat} {M : mz_M} {z : Nat × Nat} {x p r : Nat} (w : g_X M.2.2 x p r) {i : Nat} (hi : i < 3) (hk : M.1 (x + 48 + 13 * i + 1) 5 = 0) : zx sc sa (d + 4) 165 [.ref x, .int (nI i)] M z z (some (.int (-6))) M := by
  refine zxin ym_X_back [.ref x, .int (nI i), .retAddr 0] rfl rfl rfl rfl ?_
  refine z_aload_n (q := 1) rfl rfl rfl ?_
  refine z_iload_n (q := 2) rfl rfl rfl ?_
  refine z_cv1a (q := 5) rfl rfl rfl (X_k w) (s_X_imageAt1 w hi) ?_
  refine z_astore_n (q := 6) (L2 := [_, _, _]) rfl rfl rfl rfl ?_
  refine z_aload_n (q := 7) rfl rfl rfl ?_
  refine z_ifnonnull_r rfl ?_
  refine z_aload_n (q := 14) rfl rfl rfl ?_
  refine z_getR (q := 17) rfl rfl rfl (St_k (X_im w hi).2) (St_r0 (X_im w hi).2) ?_
  refine z_getI (q := 20) rfl rfl rfl (Sh_k (St_w0 (X_im w hi).2)) ?_
  rw [hk]
  refine z_if_ne (q := 23) rfl rfl (fun h20 => ?_) (fun h20 => ?_)
  · exact absurd rfl h20
  · refine z_bipush (q := 25) (v := -6) rfl rfl rfl ?_
    refine z_ireti rfl rfl ?_
    exact ⟨rfl, rfl⟩
theorem n_X_back1 {sc : Option (Nat × Nat × (Nat → Int32))} {sa : Nat → Nat} {d : Nat} {M : mz_M} {z : Nat × Nat} {x p r : Nat} (w : g_X M.2.2 x p r) {a : Int32} (ha : ¬ (¬ a < 0 ∧ a ≤ 2)) : zx sc sa (d + 4) 165 [.ref x, .int a] M z z (some (.int (-2))) M := by
  refine zxin ym_X_back [.ref x, .int a, .retAddr 0] rfl rfl rfl rfl ?_
  refine z_aload_n (q := 1) rfl rfl rfl ?_
  refine z_iload_n (q := 2) rfl rfl rfl ?_
  refine z_cv1a (q := 5) rfl rfl rfl (X_k w) (s_X_imageAt0 w ha) ?_
  refine z_astore_nN (q := 6) (L2 := [_, _, _]) rfl rfl rfl rfl ?_
  refine z_aload_nN (q := 7) rfl rfl rfl ?_
  refine z_ifnonnull_n (q := 10) rfl rfl ?_
  refine z_bipush (q := 12) (v := -2) rfl rfl rfl ?_
  refine z_ireti rfl rfl ?_
  exact ⟨rfl, rfl⟩
