def bcI (x : Int32) : Int32 :=
  let u := fun (y : Int32) (k : Int32) => (y.toUInt32 >>> (k.toUInt32 &&& Int32.toUInt32 31)).toInt32
  let a := x - (u x 1 &&& 1431655765)
  let b := (a &&& 858993459) + (u a 2 &&& 858993459)
  let c := (b + u b 4) &&& 252645135
  let e := c + u c 8
  (e + u e 16) &&& 63
theorem s_In_bitCount {sc : Option (Nat × Nat × (Nat → Int32))} {sa : Nat → Nat} {d : Nat} {M : mz_M} {z : Nat × Nat} {x : Int32} : zx sc sa (d + 1) 291 [.int x] M z z (some (.int (bcI x))) M := by
  refine zxin ym_In_bitCount [.int x] rfl rfl rfl rfl ?_
  refine z_iload_n (q := 1) rfl rfl rfl ?_
  refine z_iload_n (q := 2) rfl rfl rfl ?_
  refine z_iconst (q := 3) (v := 1) rfl rfl rfl ?_
  refine z_iushr (q := 4) rfl rfl ?_
  refine z_ldcw (q := 7) (v := 1431655765) rfl rfl rfl ?_
  refine z_iand (q := 8) rfl rfl ?_
  refine z_isub (q := 9) rfl rfl ?_
  refine z_istore_n (q := 10) (L2 := [_]) rfl rfl rfl rfl ?_
  refine z_iload_n (q := 11) rfl rfl rfl ?_
  refine z_ldcw (q := 14) (v := 858993459) rfl rfl rfl ?_
  refine z_iand (q := 15) rfl rfl ?_
  refine z_iload_n (q := 16) rfl rfl rfl ?_
  refine z_iconst (q := 17) (v := 2) rfl rfl rfl ?_
  refine z_iushr (q := 18) rfl rfl ?_
  refine z_ldcw (q := 21) (v := 858993459) rfl rfl rfl ?_
  refine z_iand (q := 22) rfl rfl ?_
  refine z_iadd (q := 23) rfl rfl ?_
  refine z_istore_n (q := 24) (L2 := [_]) rfl rfl rfl rfl ?_
  refine z_iload_n (q := 25) rfl rfl rfl ?_
  refine z_iload_n (q := 26) rfl rfl rfl ?_
  refine z_iconst (q := 27) (v := 4) rfl rfl rfl ?_
  refine z_iushr (q := 28) rfl rfl ?_
  refine z_iadd (q := 29) rfl rfl ?_
  refine z_ldcw (q := 32) (v := 252645135) rfl rfl rfl ?_
  refine z_iand (q := 33) rfl rfl ?_
  refine z_istore_n (q := 34) (L2 := [_]) rfl rfl rfl rfl ?_
  refine z_iload_n (q := 35) rfl rfl rfl ?_
  refine z_iload_n (q := 36) rfl rfl rfl ?_
  refine z_bipush (q := 38) (v := 8) rfl rfl rfl ?_
  refine z_iushr (q := 39) rfl rfl ?_
  refine z_iadd (q := 40) rfl rfl ?_
  refine z_istore_n (q := 41) (L2 := [_]) rfl rfl rfl rfl ?_
  refine z_iload_n (q := 42) rfl rfl rfl ?_
  refine z_iload_n (q := 43) rfl rfl rfl ?_
  refine z_bipush (q := 45) (v := 16) rfl rfl rfl ?_
  refine z_iushr (q := 46) rfl rfl ?_
  refine z_iadd (q := 47) rfl rfl ?_
  refine z_istore_n (q := 48) (L2 := [_]) rfl rfl rfl rfl ?_
  refine z_iload_n (q := 49) rfl rfl rfl ?_
  refine z_bipush (q := 51) (v := 63) rfl rfl rfl ?_
  refine z_iand (q := 52) rfl rfl ?_
  refine z_ireti rfl rfl ?_
  exact ⟨rfl, rfl⟩
def fuR (x : Int32) : Nat → Nat → Int64 → Int64
  | 0, _, r => r
  | k + 1, i, r => fuR x k (i + 1) (wnI r (nI i) x)
theorem l_Pa_fullRow {sc : Option (Nat × Nat × (Nat → Int32))} {sa : Nat → Nat} {d : Nat} {M : mz_M} {z : Nat × Nat} {pb n : Nat} (hn : n ≤ 12) {x : Int32} : ∀ (k : Nat) (i : Nat) (r r1 : Int64), i + k = n → fuR x k i r = r1 → zw sc sa (d + 1) ym_Pa_fullRow z (fun r' M' => r' = some (.long r1) ∧ M' = M) 5 [.ref pb, .int (nI n), .int x, .long r, .retAddr 0, .int (nI i)] [] M z := by
  intro k
  induction k with
  | zero =>
    intro i r r1 hi hr
    have e1 : i = n := by omega
    subst e1
    have e2 : r = r1 := hr
    subst e2
    refine z_iload (q := 7) rfl rfl rfl ?_
    refine z_iload_n (q := 8) rfl rfl rfl ?_
    refine z_ic_ge (q := 11) rfl rfl (fun h8 => ?_) (fun h8 => ?_)
    · refine z_lload_n (q := 26) rfl rfl rfl ?_
      refine z_lret rfl rfl ?_
      exact ⟨rfl, rfl⟩
    · exact absurd (nI_le (Nat.le_refl _) (by omega)) h8
  | succ k ih =>
    intro i r r1 hi hr
    refine z_iload (q := 7) rfl rfl rfl ?_
    refine z_iload_n (q := 8) rfl rfl rfl ?_
    refine z_ic_ge (q := 11) rfl rfl (fun h8 => ?_) (fun h8 => ?_)
    · exact absurd h8 (nI_ge (by omega) (by omega))
    · refine z_lload_n (q := 12) rfl rfl rfl ?_
      refine z_iload (q := 14) rfl rfl rfl ?_
      refine z_iload_n (q := 15) rfl rfl rfl ?_
      refine z_cs3l (q := 18) rfl rfl rfl (s_Sh_withNumber) ?_
      refine z_lstore_n (q := 19) (L2 := [_, _, _, _, _, _]) rfl rfl rfl rfl ?_
      refine z_iinc (q := 22) (L2 := [_, _, _, _, _, _]) rfl rfl rfl rfl ?_
      refine z_goto rfl ?_
      rw [show nI i + Int32.ofInt 1 = nI (i + 1) from (nI_succ i).symm]
      exact ih (i + 1) _ r1 (by omega) hr
theorem s_Pa_fullRow {sc : Option (Nat × Nat × (Nat → Int32))} {sa : Nat → Nat} {d : Nat} {M : mz_M} {z : Nat × Nat} {pb n : Nat} (hn : n ≤ 12) {x : Int32} : zx sc sa (d + 2) 11 [.ref pb, .int (nI n), .int x] M z z (some (.long (fuR x n 0 0))) M := by
  refine zxin ym_Pa_fullRow [.ref pb, .int (nI n), .int x, .retAddr 0, .retAddr 0, .retAddr 0] rfl rfl rfl rfl ?_
  refine z_lconst (q := 1) (v := 0) rfl rfl rfl ?_
  refine z_lstore_n (q := 2) (L2 := [_, _, _, _, _, _]) rfl rfl rfl rfl ?_
  refine z_iconst (q := 3) (v := 0) rfl rfl rfl ?_
  refine z_istore (q := 5) (L2 := [_, _, _, _, _, _]) rfl rfl rfl rfl ?_
  exact l_Pa_fullRow hn n 0 0 _ (by omega) rfl
/-- newest, outcome, shelf -/
def soF (s l t : Int32) (p b : Int32) : Nat → Nat → Int32 → Int32 → sQ → Int32 × Int32 × sQ
  | 0, _, v, oc, q => (v, oc, q)
  | k + 1, i, v, oc, q => if v = -1 then (v, oc, q) else if bi1 p i = 0 then soF s l t p b k (i + 1) v oc q else
    if nmI (q.2.1 v.toNatClampNeg) (nI i) &&& b = 0 then
      (if nmI (q.2.1 v.toNatClampNeg) (nI i) = b then (-1, oc, rdQ s l t v.toNatClampNeg (nI i) q) else soF s l t p b k (i + 1) v oc (rdQ s l t v.toNatClampNeg (nI i) q))
    else (if nmI (q.2.1 v.toNatClampNeg) (nI i) = b then (-1, (puQ s l t v.toNatClampNeg (nI i) (nmI (q.2.1 v.toNatClampNeg) (nI i) &&& (b ^^^ -1)) oc (rdQ s l t v.toNatClampNeg (nI i) q)).2) else soF s l t p b k (i + 1) (puQ s l t v.toNatClampNeg (nI i) (nmI (q.2.1 v.toNatClampNeg) (nI i) &&& (b ^^^ -1)) oc (rdQ s l t v.toNatClampNeg (nI i) q)).1 (puQ s l t v.toNatClampNeg (nI i) (nmI (q.2.1 v.toNatClampNeg) (nI i) &&& (b ^^^ -1)) oc (rdQ s l t v.toNatClampNeg (nI i) q)).2.1 (puQ s l t v.toNatClampNeg (nI i) (nmI (q.2.1 v.toNatClampNeg) (nI i) &&& (b ^^^ -1)) oc (rdQ s l t v.toNatClampNeg (nI i) q)).2.2)
theorem soF_n {s l t p b : Int32} {i : Nat} {oc : Int32} {q : sQ} : ∀ {k : Nat}, soF s l t p b k i (-1) oc q = (-1, oc, q)
  | 0 => rfl
  | k + 1 => by unfold soF; rw [if_pos rfl]
theorem soF_o {s l t p b : Int32} {k i : Nat} {oc : Int32} {q : sQ} {j : Nat} (hj : j < 200) (h : bi1 p i = 0) : soF s l t p b (k + 1) i (nI j) oc q = soF s l t p b k (i + 1) (nI j) oc q := by
  rw [soF, if_neg (nI_m1 (by omega)), if_pos h]
theorem soF_a {s l t p b : Int32} {k i : Nat} {oc : Int32} {q : sQ} {j : Nat} (hj : j < 200) (h : ¬ bi1 p i = 0) (h2 : (nmI (q.2.1 j) (nI i)) &&& b = 0) (h3 : (nmI (q.2.1 j) (nI i)) = b) : soF s l t p b (k + 1) i (nI j) oc q = (-1, oc, rdQ s l t j (nI i) q) := by
  rw [soF, if_neg (nI_m1 (by omega)), if_neg h, nI_clamp (by omega), if_pos h2, if_pos h3]
theorem soF_b {s l t p b : Int32} {k i : Nat} {oc : Int32} {q : sQ} {j : Nat} (hj : j < 200) (h : ¬ bi1 p i = 0) (h2 : (nmI (q.2.1 j) (nI i)) &&& b = 0) (h3 : ¬ (nmI (q.2.1 j) (nI i)) = b) : soF s l t p b (k + 1) i (nI j) oc q = soF s l t p b k (i + 1) (nI j) oc (rdQ s l t j (nI i) q) := by
  rw [soF, if_neg (nI_m1 (by omega)), if_neg h, nI_clamp (by omega), if_pos h2, if_neg h3]
theorem soF_c {s l t p b : Int32} {k i : Nat} {oc : Int32} {q : sQ} {j : Nat} (hj : j < 200) (h : ¬ bi1 p i = 0) (h2 : ¬ (nmI (q.2.1 j) (nI i)) &&& b = 0) (h3 : (nmI (q.2.1 j) (nI i)) = b) : soF s l t p b (k + 1) i (nI j) oc q = (-1, (puQ s l t j (nI i) ((nmI (q.2.1 j) (nI i)) &&& (b ^^^ -1)) oc (rdQ s l t j (nI i) q)).2) := by
  rw [soF, if_neg (nI_m1 (by omega)), if_neg h, nI_clamp (by omega), if_neg h2, if_pos h3]
theorem soF_d {s l t p b : Int32} {k i : Nat} {oc : Int32} {q : sQ} {j : Nat} (hj : j < 200) (h : ¬ bi1 p i = 0) (h2 : ¬ (nmI (q.2.1 j) (nI i)) &&& b = 0) (h3 : ¬ (nmI (q.2.1 j) (nI i)) = b) : soF s l t p b (k + 1) i (nI j) oc q = soF s l t p b k (i + 1) (puQ s l t j (nI i) ((nmI (q.2.1 j) (nI i)) &&& (b ^^^ -1)) oc (rdQ s l t j (nI i) q)).1 (puQ s l t j (nI i) ((nmI (q.2.1 j) (nI i)) &&& (b ^^^ -1)) oc (rdQ s l t j (nI i) q)).2.1 (puQ s l t j (nI i) ((nmI (q.2.1 j) (nI i)) &&& (b ^^^ -1)) oc (rdQ s l t j (nI i) q)).2.2 := by
  rw [soF, if_neg (nI_m1 (by omega)), if_neg h, nI_clamp (by omega), if_neg h2, if_neg h3]
theorem o_Pa_strikeOut {sc : Option (Nat × Nat × (Nat → Int32))} {sa : Nat → Nat} {d : Nat} {M : mz_M} {z : Nat × Nat} {pb : Nat} {oc tb lv mx : Int32} {fr tr tk ch co : Nat → Int32} {s l t : Int32} {q : sQ} (w : g_Pa M.2.2 pb) {n i : Nat} (hs : s = nI n) {v0 p b : Int32} {v6 : Value} : zw sc sa (d + 4) ym_Pa_strikeOut z (fun r' M' => r' = some (.int (-1)) ∧ M' = (paQ M pb oc tb lv mx fr tr tk ch co s l t q)) 6 [.ref pb, .int v0, .int p, .int b, .int (-1), .int (nI i), v6] [] (paQ M pb oc tb lv mx fr tr tk ch co s l t q) z := by
  refine z_iload (q := 8) rfl rfl rfl ?_
  refine z_aload_n (q := 9) rfl rfl rfl ?_
  refine z_getR (q := 12) rfl rfl rfl (Pa_k w) (Pa_r0 w) ?_
  refine z_getI (q := 15) rfl rfl rfl (Sh_k (Pa_w0 w)) ?_
  rw [paS_g5]
  refine z_ic_ge (q := 18) rfl rfl (fun h15 => ?_) (fun h15 => ?_)
  · refine z_iload (q := 85) rfl rfl rfl ?_
    refine z_ireti rfl rfl ?_
    exact ⟨rfl, rfl⟩
  · refine z_iload (q := 20) rfl rfl rfl ?_
    refine z_iconst (q := 21) (v := -1) rfl rfl rfl ?_
    refine z_ic_eq (q := 24) rfl rfl (fun h21 => ?_) (fun h21 => ?_)
    · refine z_iload (q := 85) rfl rfl rfl ?_
      refine z_ireti rfl rfl ?_
      exact ⟨rfl, rfl⟩
    · exact absurd h21 (by decide)
theorem t_Pa_read {sc : Option (Nat × Nat × (Nat → Int32))} {sa : Nat → Nat} {d : Nat} {M : mz_M} {z : Nat × Nat} {pb : Nat} {oc tb lv mx : Int32} {fr tr tk ch co : Nat → Int32} {s l t : Int32} {q : sQ} (w : g_Pa M.2.2 pb) (h1 : q.1 ≤ 200) {j : Nat} (h2 : j < q.1) (h3 : okl q.2.2.1 q.1) {c : Int32} : zx sc sa (d + 3) 52 [.ref (pb + 1), .int (nI j), .int c] (paQ M pb oc tb lv mx fr tr tk ch co s l t q) z z (some (.int (nmI (q.2.1 j) c))) (paQ M pb oc tb lv mx fr tr tk ch co s l t (rdQ s l t j c q)) := q_Sh_readCell (M := paB M pb oc tb lv mx fr tr tk ch co) (Pa_w0 w) h1 (by omega) h2 h3
theorem l_Pa_strikeOut {sc : Option (Nat × Nat × (Nat → Int32))} {sa : Nat → Nat} {d : Nat} {M : mz_M} {z : Nat × Nat} {pb : Nat} {tb lv mx : Int32} {fr tr tk ch co : Nat → Int32} {s l t : Int32} (w : g_Pa M.2.2 pb) {n : Nat} (hs : s = nI n) (hn : n ≤ 12) {v0 p b : Int32} : ∀ (k : Nat) (i : Nat) (v oc : Int32) (q : sQ) (r oc1 : Int32) (q1 : sQ) (v6 : Value), i + k = n → q.1 ≤ 200 → (v = -1 ∨ ∃ j, j < q.1 ∧ v = nI j) → okl q.2.2.1 q.1 → soF s l t p b k i v oc q = (r, oc1, q1) → zw sc sa (d + 4) ym_Pa_strikeOut z (fun r' M' => r' = some (.int r) ∧ M' = (paQ M pb oc1 tb lv mx fr tr tk ch co s l t q1)) 6 [.ref pb, .int v0, .int p, .int b, .int v, .int (nI i), v6] [] (paQ M pb oc tb lv mx fr tr tk ch co s l t q) z := by
  intro k
  induction k with
  | zero =>
    intro i v oc q r oc1 q1 v6 hi h1 h2 h3 hr
    subst hs
    have e1 : i = n := by omega
    subst e1
    have e2 : (v, oc, q) = (r, oc1, q1) := hr
    simp only [Prod.mk.injEq] at e2
    obtain ⟨rfl, rfl, rfl⟩ := e2
    clear hr
    refine z_iload (q := 8) rfl rfl rfl ?_
    refine z_aload_n (q := 9) rfl rfl rfl ?_
    refine z_getR (q := 12) rfl rfl rfl (Pa_k w) (Pa_r0 w) ?_
    refine z_getI (q := 15) rfl rfl rfl (Sh_k (Pa_w0 w)) ?_
    rw [paS_g5]
    refine z_ic_ge (q := 18) rfl rfl (fun h15 => ?_) (fun h15 => ?_)
    · refine z_iload (q := 85) rfl rfl rfl ?_
      refine z_ireti rfl rfl ?_
      exact ⟨rfl, rfl⟩
    · exact absurd (nI_le (Nat.le_refl _) (by omega)) h15
  | succ k ih =>
    intro i v oc q r oc1 q1 v6 hi h1 h2 h3 hr
    rcases h2 with rfl | ⟨j, h2, rfl⟩
    case inl =>
      rw [soF_n] at hr
      simp only [Prod.mk.injEq] at hr
      obtain ⟨rfl, rfl, rfl⟩ := hr
      exact o_Pa_strikeOut w hs
    refine z_iload (q := 8) rfl rfl rfl ?_
    refine z_aload_n (q := 9) rfl rfl rfl ?_
    refine z_getR (q := 12) rfl rfl rfl (Pa_k w) (Pa_r0 w) ?_
    refine z_getI (q := 15) rfl rfl rfl (Sh_k (Pa_w0 w)) ?_
    rw [paS_g5]
    refine z_ic_ge (q := 18) rfl rfl (fun h15 => ?_) (fun h15 => ?_)
    · rw [hs] at h15
      exact absurd h15 (nI_ge (by omega) (by omega))
    · refine z_iload (q := 20) rfl rfl rfl ?_
      refine z_iconst (q := 21) (v := -1) rfl rfl rfl ?_
      refine z_ic_eq (q := 24) rfl rfl (fun h21 => ?_) (fun h21 => ?_)
      · exact absurd h21 (nI_m1 (by omega))
      · refine z_iload_n (q := 25) rfl rfl rfl ?_
        refine z_iload (q := 27) rfl rfl rfl ?_
        refine z_iushr (q := 28) rfl rfl ?_
        refine z_iconst (q := 29) (v := 1) rfl rfl rfl ?_
        refine z_iand (q := 30) rfl rfl ?_
        refine z_if_eq (q := 33) rfl rfl (fun h30 => ?_) (fun h30 => ?_)
        · refine z_iinc (q := 80) (L2 := [_, _, _, _, _, _, _]) rfl rfl rfl rfl ?_
          refine z_goto rfl ?_
          rw [show nI i + Int32.ofInt 1 = nI (i + 1) from (nI_succ i).symm]
          first
            | (have g1 : bi1 p i = 0 := h30
               rw [soF_o (by omega) g1] at hr
               exact ih (i + 1) _ _ _ r oc1 q1 _ (by omega) h1 (Or.inr ⟨j, h2, rfl⟩) h3 hr)
            | (have g1 : ¬ bi1 p i = 0 := h30
               have g2 : nmI (q.2.1 j) (nI i) &&& b = 0 := h50
               rw [soF_b (by omega) g1 g2 h72] at hr
               exact ih (i + 1) _ _ _ r oc1 q1 _ (by omega) h1 (Or.inr ⟨j, h2, rfl⟩) (rdQ_ok h1 h2 h3) hr)
            | (have g1 : ¬ bi1 p i = 0 := h30
               have g2 : ¬ nmI (q.2.1 j) (nI i) &&& b = 0 := h50
               rw [soF_d (by omega) g1 g2 h72] at hr
               have e := @puQ_ok s l t j (nI i) (nmI (q.2.1 j) (nI i) &&& (b ^^^ -1)) oc (rdQ s l t j (nI i) q) h1 h2 (rdQ_ok h1 h2 h3)
               exact ih (i + 1) _ _ _ r oc1 q1 _ (by omega) e.2.1 e.2.2.2 e.2.2.1 hr)
        · refine z_aload_n (q := 34) rfl rfl rfl ?_
          refine z_getR (q := 37) rfl rfl rfl (Pa_k w) (Pa_r0 w) ?_
          refine z_iload (q := 39) rfl rfl rfl ?_
          refine z_iload (q := 41) rfl rfl rfl ?_
          refine z_cv2i (q := 44) rfl rfl rfl (Sh_k (Pa_w0 w)) (t_Pa_read w h1 h2 h3) ?_
          refine z_istore (q := 46) (L2 := [_, _, _, _, _, _, _]) rfl rfl rfl rfl ?_
          refine z_iload (q := 48) rfl rfl rfl ?_
          refine z_iload_n (q := 49) rfl rfl rfl ?_
          refine z_iand (q := 50) rfl rfl ?_
          refine z_if_eq (q := 53) rfl rfl (fun h50 => ?_) (fun h50 => ?_)
          · refine z_iload (q := 71) rfl rfl rfl ?_
            refine z_iload_n (q := 72) rfl rfl rfl ?_
            refine z_ic_ne (q := 75) rfl rfl (fun h72 => ?_) (fun h72 => ?_)
            · refine z_iinc (q := 80) (L2 := [_, _, _, _, _, _, _]) rfl rfl rfl rfl ?_
              refine z_goto rfl ?_
              rw [show nI i + Int32.ofInt 1 = nI (i + 1) from (nI_succ i).symm]
              first
                | (have g1 : bi1 p i = 0 := h30
                   rw [soF_o (by omega) g1] at hr
                   exact ih (i + 1) _ _ _ r oc1 q1 _ (by omega) h1 (Or.inr ⟨j, h2, rfl⟩) h3 hr)
                | (have g1 : ¬ bi1 p i = 0 := h30
                   have g2 : nmI (q.2.1 j) (nI i) &&& b = 0 := h50
                   rw [soF_b (by omega) g1 g2 h72] at hr
                   exact ih (i + 1) _ _ _ r oc1 q1 _ (by omega) h1 (Or.inr ⟨j, h2, rfl⟩) (rdQ_ok h1 h2 h3) hr)
                | (have g1 : ¬ bi1 p i = 0 := h30
                   have g2 : ¬ nmI (q.2.1 j) (nI i) &&& b = 0 := h50
                   rw [soF_d (by omega) g1 g2 h72] at hr
                   have e := @puQ_ok s l t j (nI i) (nmI (q.2.1 j) (nI i) &&& (b ^^^ -1)) oc (rdQ s l t j (nI i) q) h1 h2 (rdQ_ok h1 h2 h3)
                   exact ih (i + 1) _ _ _ r oc1 q1 _ (by omega) e.2.1 e.2.2.2 e.2.2.1 hr)
            · refine z_iconst (q := 76) (v := -1) rfl rfl rfl ?_
              refine z_ireti rfl rfl ?_
              first
                | (have g1 : nmI (q.2.1 j) (nI i) = b := h72
                   have g2 : nmI (q.2.1 j) (nI i) &&& b = 0 := h50
                   rw [soF_a (by omega) h30 g2 g1] at hr
                   simp only [Prod.mk.injEq] at hr
                   obtain ⟨rfl, rfl, rfl⟩ := hr
                   exact ⟨rfl, rfl⟩)
                | (have g1 : nmI (q.2.1 j) (nI i) = b := h72
                   have g2 : ¬ nmI (q.2.1 j) (nI i) &&& b = 0 := h50
                   rw [soF_c (by omega) h30 g2 g1] at hr
                   obtain ⟨rfl, h9⟩ := Prod.mk.inj hr
                   rw [h9]
                   exact ⟨rfl, rfl⟩)
          · refine z_aload_n (q := 54) rfl rfl rfl ?_
            refine z_iload (q := 56) rfl rfl rfl ?_
            refine z_iload (q := 58) rfl rfl rfl ?_
            refine z_iload (q := 60) rfl rfl rfl ?_
            refine z_iload_n (q := 61) rfl rfl rfl ?_
            refine z_iconst (q := 62) (v := -1) rfl rfl rfl ?_
            refine z_ixor (q := 63) rfl rfl ?_
            refine z_iand (q := 64) rfl rfl ?_
            refine z_cv3i (q := 67) rfl rfl rfl (Pa_k w) (q_Pa_put (q := rdQ s l t j (nI i) q) w h1 h2 (rdQ_ok h1 h2 h3)) ?_
            refine z_istore (q := 69) (L2 := [_, _, _, _, _, _, _]) rfl rfl rfl rfl ?_
            refine z_iload (q := 71) rfl rfl rfl ?_
            refine z_iload_n (q := 72) rfl rfl rfl ?_
            refine z_ic_ne (q := 75) rfl rfl (fun h72 => ?_) (fun h72 => ?_)
            · refine z_iinc (q := 80) (L2 := [_, _, _, _, _, _, _]) rfl rfl rfl rfl ?_
              refine z_goto rfl ?_
              rw [show nI i + Int32.ofInt 1 = nI (i + 1) from (nI_succ i).symm]
              first
                | (have g1 : bi1 p i = 0 := h30
                   rw [soF_o (by omega) g1] at hr
                   exact ih (i + 1) _ _ _ r oc1 q1 _ (by omega) h1 (Or.inr ⟨j, h2, rfl⟩) h3 hr)
                | (have g1 : ¬ bi1 p i = 0 := h30
                   have g2 : nmI (q.2.1 j) (nI i) &&& b = 0 := h50
                   rw [soF_b (by omega) g1 g2 h72] at hr
                   exact ih (i + 1) _ _ _ r oc1 q1 _ (by omega) h1 (Or.inr ⟨j, h2, rfl⟩) (rdQ_ok h1 h2 h3) hr)
                | (have g1 : ¬ bi1 p i = 0 := h30
                   have g2 : ¬ nmI (q.2.1 j) (nI i) &&& b = 0 := h50
                   rw [soF_d (by omega) g1 g2 h72] at hr
                   have e := @puQ_ok s l t j (nI i) (nmI (q.2.1 j) (nI i) &&& (b ^^^ -1)) oc (rdQ s l t j (nI i) q) h1 h2 (rdQ_ok h1 h2 h3)
                   exact ih (i + 1) _ _ _ r oc1 q1 _ (by omega) e.2.1 e.2.2.2 e.2.2.1 hr)
            · refine z_iconst (q := 76) (v := -1) rfl rfl rfl ?_
              refine z_ireti rfl rfl ?_
              first
                | (have g1 : nmI (q.2.1 j) (nI i) = b := h72
                   have g2 : nmI (q.2.1 j) (nI i) &&& b = 0 := h50
                   rw [soF_a (by omega) h30 g2 g1] at hr
                   simp only [Prod.mk.injEq] at hr
                   obtain ⟨rfl, rfl, rfl⟩ := hr
                   exact ⟨rfl, rfl⟩)
                | (have g1 : nmI (q.2.1 j) (nI i) = b := h72
                   have g2 : ¬ nmI (q.2.1 j) (nI i) &&& b = 0 := h50
                   rw [soF_c (by omega) h30 g2 g1] at hr
                   obtain ⟨rfl, h9⟩ := Prod.mk.inj hr
                   rw [h9]
                   exact ⟨rfl, rfl⟩)
theorem q_Pa_strikeOut {sc : Option (Nat × Nat × (Nat → Int32))} {sa : Nat → Nat} {d : Nat} {M : mz_M} {z : Nat × Nat} {pb : Nat} {oc tb lv mx : Int32} {fr tr tk ch co : Nat → Int32} {s l t : Int32} {q : sQ} (w : g_Pa M.2.2 pb) (hN : q.1 ≤ 200) {n : Nat} (hs : s = nI n) (hn : n ≤ 12) {v p b : Int32} (h2 : v = -1 ∨ ∃ j, j < q.1 ∧ v = nI j) (h3 : okl q.2.2.1 q.1) : zx sc sa (d + 5) 14 [.ref pb, .int v, .int p, .int b] (paQ M pb oc tb lv mx fr tr tk ch co s l t q) z z (some (.int (soF s l t p b n 0 v oc q).1)) (paQ M pb (soF s l t p b n 0 v oc q).2.1 tb lv mx fr tr tk ch co s l t (soF s l t p b n 0 v oc q).2.2) := by
  refine zxin ym_Pa_strikeOut [.ref pb, .int v, .int p, .int b, .retAddr 0, .retAddr 0, .retAddr 0] rfl rfl rfl rfl ?_
  refine z_iload_n (q := 1) rfl rfl rfl ?_
  refine z_istore (q := 3) (L2 := [_, _, _, _, _, _, _]) rfl rfl rfl rfl ?_
  refine z_iconst (q := 4) (v := 0) rfl rfl rfl ?_
  refine z_istore (q := 6) (L2 := [_, _, _, _, _, _, _]) rfl rfl rfl rfl ?_
  exact l_Pa_strikeOut w hs hn n 0 v oc q (soF s l t p b n 0 v oc q).1 (soF s l t p b n 0 v oc q).2.1 (soF s l t p b n 0 v oc q).2.2 _ (by omega) hN h2 h3 rfl
def tcF (s l t : Int32) (j : Nat) (cm : Int32) : Nat → Nat → Int32 → Int32 → Int32 → sQ → Int32 × Int32 × sQ
  | 0, _, _, a, b, q => (a, b, q)
  | k + 1, i, fe, a, b, q => if bi1 cm i = 0 then (if bcI (nmI (q.2.1 j) (nI i)) < fe then tcF s l t j cm k (i + 1) (bcI (nmI (q.2.1 j) (nI i))) (nI i) (nmI (q.2.1 j) (nI i)) (rdQ s l t j (nI i) q) else tcF s l t j cm k (i + 1) fe a b (rdQ s l t j (nI i) q)) else tcF s l t j cm k (i + 1) fe a b q
theorem tcF_s {s l t : Int32} {j : Nat} {cm : Int32} {k i : Nat} {fe a b : Int32} {q : sQ} : tcF s l t j cm (k + 1) i fe a b q = if bi1 cm i = 0 then (if bcI (nmI (q.2.1 j) (nI i)) < fe then tcF s l t j cm k (i + 1) (bcI (nmI (q.2.1 j) (nI i))) (nI i) (nmI (q.2.1 j) (nI i)) (rdQ s l t j (nI i) q) else tcF s l t j cm k (i + 1) fe a b (rdQ s l t j (nI i) q)) else tcF s l t j cm k (i + 1) fe a b q := rfl
theorem l_Pa_takeCell {sc : Option (Nat × Nat × (Nat → Int32))} {sa : Nat → Nat} {d : Nat} {M : mz_M} {z : Nat × Nat} {pb : Nat} {oc tb lv mx : Int32} {fr tr tk ch co : Nat → Int32} {s l t : Int32} (w : g_Pa M.2.2 pb) {n g j : Nat} (hs : s = nI n) (hn : n ≤ 12) (hg : g < n) : ∀ (k : Nat) (i : Nat) (fe a b : Int32) (q : sQ) (a1 b1 : Int32) (q1 : sQ) (v5 : Value), i + k = n → q.1 ≤ 200 → j < q.1 → okl q.2.2.1 q.1 → tcF s l t j (co g) k i fe a b q = (a1, b1, q1) → zw sc sa (d + 4) ym_Pa_takeCell z (fun r' M' => r' = none ∧ M' = (paQ M pb oc tb lv mx (va_up fr g (nI j)) tr (va_up tk g a1) (va_up ch g b1) (va_up co (g + 1) (co g ||| (1 <<< (a1 &&& 31)))) s l t q1)) 38 [.ref pb, .int (nI g), .int (nI j), .int fe, .int (nI i), v5] [] (paQ M pb oc tb lv mx fr tr (va_up tk g a) (va_up ch g b) co s l t q) z := by
  intro k
  induction k with
  | zero =>
    intro i fe a b q a1 b1 q1 v5 hi h1 h2 h3 hr
    have e1 : i = n := by omega
    subst e1
    have e2 : (a, b, q) = (a1, b1, q1) := hr
    simp only [Prod.mk.injEq] at e2
    obtain ⟨rfl, rfl, rfl⟩ := e2
    clear hr
    refine z_iload (q := 40) rfl rfl rfl ?_
    refine z_aload_n (q := 41) rfl rfl rfl ?_
    refine z_getR (q := 44) rfl rfl rfl (Pa_k w) (Pa_r0 w) ?_
    refine z_getI (q := 47) rfl rfl rfl (Sh_k (Pa_w0 w)) ?_
    rw [paS_g5]
    refine z_ic_ge (q := 50) rfl rfl (fun h47 => ?_) (fun h47 => ?_)
    · refine z_aload_n (q := 114) rfl rfl rfl ?_
      refine z_getR (q := 117) rfl rfl rfl (Pa_k w) (Pa_r1 w) ?_
      refine z_iload_n (q := 118) rfl rfl rfl ?_
      refine z_iload_n (q := 119) rfl rfl rfl ?_
      refine z_iast (q := 120) rfl rfl (Pa_a1 w) (by first | assumption | exact vp_in_nI (by omega) (by omega)) ?_
      rw [paQ_w1]
      try rw [nI_clamp (by omega)]
      refine z_aload_n (q := 121) rfl rfl rfl ?_
      refine z_getR (q := 124) rfl rfl rfl (Pa_k w) (Pa_r5 w) ?_
      refine z_iload_n (q := 125) rfl rfl rfl ?_
      refine z_iconst (q := 126) (v := 1) rfl rfl rfl ?_
      refine z_iadd (q := 127) rfl rfl ?_
      rw [show nI g + 1 = nI (g + 1) from (nI_succ g).symm]
      refine z_aload_n (q := 128) rfl rfl rfl ?_
      refine z_getR (q := 131) rfl rfl rfl (Pa_k w) (Pa_r5 w) ?_
      refine z_iload_n (q := 132) rfl rfl rfl ?_
      refine z_iald (q := 133) rfl rfl (Pa_a5 w) (by first | assumption | exact vp_in_nI (by omega) (by omega)) ?_
      rw [paQ_a5]
      try rw [nI_clamp (by omega)]
      refine z_iconst (q := 134) (v := 1) rfl rfl rfl ?_
      refine z_aload_n (q := 135) rfl rfl rfl ?_
      refine z_getR (q := 138) rfl rfl rfl (Pa_k w) (Pa_r3 w) ?_
      refine z_iload_n (q := 139) rfl rfl rfl ?_
      refine z_iald (q := 140) rfl rfl (Pa_a3 w) (by first | assumption | exact vp_in_nI (by omega) (by omega)) ?_
      rw [paQ_a3]
      try rw [nI_clamp (by omega)]
      rw [up_at]
      refine z_ishl (q := 141) rfl rfl ?_
      refine z_ior (q := 142) rfl rfl ?_
      refine z_iast (q := 143) rfl rfl (Pa_a5 w) (by first | assumption | exact vp_in_nI (by omega) (by omega)) ?_
      rw [paQ_w5]
      try rw [nI_clamp (by omega)]
      refine z_ret rfl rfl ?_
      exact ⟨rfl, rfl⟩
    · exact absurd (by rw [hs]; exact nI_le (Nat.le_refl _) (by omega)) h47
  | succ k ih =>
    intro i fe a b q a1 b1 q1 v5 hi h1 h2 h3 hr
    rw [tcF_s] at hr
    refine z_iload (q := 40) rfl rfl rfl ?_
    refine z_aload_n (q := 41) rfl rfl rfl ?_
    refine z_getR (q := 44) rfl rfl rfl (Pa_k w) (Pa_r0 w) ?_
    refine z_getI (q := 47) rfl rfl rfl (Sh_k (Pa_w0 w)) ?_
    rw [paS_g5]
    refine z_ic_ge (q := 50) rfl rfl (fun h47 => ?_) (fun h47 => ?_)
    · rw [hs] at h47
      exact absurd h47 (nI_ge (by omega) (by omega))
    · refine z_aload_n (q := 51) rfl rfl rfl ?_
      refine z_getR (q := 54) rfl rfl rfl (Pa_k w) (Pa_r5 w) ?_
      refine z_iload_n (q := 55) rfl rfl rfl ?_
      refine z_iald (q := 56) rfl rfl (Pa_a5 w) (by first | assumption | exact vp_in_nI (by omega) (by omega)) ?_
      rw [paQ_a5]
      try rw [nI_clamp (by omega)]
      refine z_iload (q := 58) rfl rfl rfl ?_
      refine z_iushr (q := 59) rfl rfl ?_
      refine z_iconst (q := 60) (v := 1) rfl rfl rfl ?_
      refine z_iand (q := 61) rfl rfl ?_
      refine z_if_ne (q := 64) rfl rfl (fun h61 => ?_) (fun h61 => ?_)
      · refine z_iinc (q := 110) (L2 := [_, _, _, _, _, _]) rfl rfl rfl rfl ?_
        refine z_goto rfl ?_
        rw [show nI i + Int32.ofInt 1 = nI (i + 1) from (nI_succ i).symm]
        first
          | (have g1 : ¬ bi1 (co g) i = 0 := h61
             rw [if_neg g1] at hr
             exact ih (i + 1) _ _ _ _ a1 b1 q1 _ (by omega) h1 h2 h3 hr)
          | (have g1 : bi1 (co g) i = 0 := h61
             have g2 : ¬ bcI (nmI (q.2.1 j) (nI i)) < fe := Int32.not_lt.mpr h82
             rw [if_pos g1, if_neg g2] at hr
             exact ih (i + 1) _ _ _ _ a1 b1 q1 _ (by omega) h1 h2 (rdQ_ok h1 h2 h3) hr)
          | (have g1 : bi1 (co g) i = 0 := h61
             have g2 : bcI (nmI (q.2.1 j) (nI i)) < fe := Int32.not_le.mp h82
             rw [if_pos g1, if_pos g2] at hr
             exact ih (i + 1) _ _ _ _ a1 b1 q1 _ (by omega) h1 h2 (rdQ_ok h1 h2 h3) hr)
      · refine z_aload_n (q := 65) rfl rfl rfl ?_
        refine z_getR (q := 68) rfl rfl rfl (Pa_k w) (Pa_r0 w) ?_
        refine z_iload_n (q := 69) rfl rfl rfl ?_
        refine z_iload (q := 71) rfl rfl rfl ?_
        refine z_cv2i (q := 74) rfl rfl rfl (Sh_k (Pa_w0 w)) (t_Pa_read w h1 h2 h3) ?_
        refine z_istore (q := 76) (L2 := [_, _, _, _, _, _]) rfl rfl rfl rfl ?_
        refine z_iload (q := 78) rfl rfl rfl ?_
        refine z_cs1i (q := 81) rfl rfl rfl (s_In_bitCount) ?_
        refine z_iload_n (q := 82) rfl rfl rfl ?_
        refine z_ic_ge (q := 85) rfl rfl (fun h82 => ?_) (fun h82 => ?_)
        · refine z_iinc (q := 110) (L2 := [_, _, _, _, _, _]) rfl rfl rfl rfl ?_
          refine z_goto rfl ?_
          rw [show nI i + Int32.ofInt 1 = nI (i + 1) from (nI_succ i).symm]
          first
            | (have g1 : ¬ bi1 (co g) i = 0 := h61
               rw [if_neg g1] at hr
               exact ih (i + 1) _ _ _ _ a1 b1 q1 _ (by omega) h1 h2 h3 hr)
            | (have g1 : bi1 (co g) i = 0 := h61
               have g2 : ¬ bcI (nmI (q.2.1 j) (nI i)) < fe := Int32.not_lt.mpr h82
               rw [if_pos g1, if_neg g2] at hr
               exact ih (i + 1) _ _ _ _ a1 b1 q1 _ (by omega) h1 h2 (rdQ_ok h1 h2 h3) hr)
            | (have g1 : bi1 (co g) i = 0 := h61
               have g2 : bcI (nmI (q.2.1 j) (nI i)) < fe := Int32.not_le.mp h82
               rw [if_pos g1, if_pos g2] at hr
               exact ih (i + 1) _ _ _ _ a1 b1 q1 _ (by omega) h1 h2 (rdQ_ok h1 h2 h3) hr)
        · refine z_iload (q := 87) rfl rfl rfl ?_
          refine z_cs1i (q := 90) rfl rfl rfl (s_In_bitCount) ?_
          refine z_istore_n (q := 91) (L2 := [_, _, _, _, _, _]) rfl rfl rfl rfl ?_
          refine z_aload_n (q := 92) rfl rfl rfl ?_
          refine z_getR (q := 95) rfl rfl rfl (Pa_k w) (Pa_r3 w) ?_
          refine z_iload_n (q := 96) rfl rfl rfl ?_
          refine z_iload (q := 98) rfl rfl rfl ?_
          refine z_iast (q := 99) rfl rfl (Pa_a3 w) (by first | assumption | exact vp_in_nI (by omega) (by omega)) ?_
          rw [paQ_w3]
          try rw [nI_clamp (by omega)]
          rw [up_up]
          refine z_aload_n (q := 100) rfl rfl rfl ?_
          refine z_getR (q := 103) rfl rfl rfl (Pa_k w) (Pa_r4 w) ?_
          refine z_iload_n (q := 104) rfl rfl rfl ?_
          refine z_iload (q := 106) rfl rfl rfl ?_
          refine z_iast (q := 107) rfl rfl (Pa_a4 w) (by first | assumption | exact vp_in_nI (by omega) (by omega)) ?_
          rw [paQ_w4]
          try rw [nI_clamp (by omega)]
          rw [up_up]
          refine z_iinc (q := 110) (L2 := [_, _, _, _, _, _]) rfl rfl rfl rfl ?_
          refine z_goto rfl ?_
          rw [show nI i + Int32.ofInt 1 = nI (i + 1) from (nI_succ i).symm]
          first
            | (have g1 : ¬ bi1 (co g) i = 0 := h61
               rw [if_neg g1] at hr
               exact ih (i + 1) _ _ _ _ a1 b1 q1 _ (by omega) h1 h2 h3 hr)
            | (have g1 : bi1 (co g) i = 0 := h61
               have g2 : ¬ bcI (nmI (q.2.1 j) (nI i)) < fe := Int32.not_lt.mpr h82
               rw [if_pos g1, if_neg g2] at hr
               exact ih (i + 1) _ _ _ _ a1 b1 q1 _ (by omega) h1 h2 (rdQ_ok h1 h2 h3) hr)
            | (have g1 : bi1 (co g) i = 0 := h61
               have g2 : bcI (nmI (q.2.1 j) (nI i)) < fe := Int32.not_le.mp h82
               rw [if_pos g1, if_pos g2] at hr
               exact ih (i + 1) _ _ _ _ a1 b1 q1 _ (by omega) h1 h2 (rdQ_ok h1 h2 h3) hr)
theorem q_Pa_takeCell {sc : Option (Nat × Nat × (Nat → Int32))} {sa : Nat → Nat} {d : Nat} {M : mz_M} {z : Nat × Nat} {pb : Nat} {oc tb lv mx : Int32} {fr tr tk ch co : Nat → Int32} {s l t : Int32} {q : sQ} (w : g_Pa M.2.2 pb) (hN : q.1 ≤ 200) {n g j : Nat} (hs : s = nI n) (hn : n ≤ 12) (hg : g < n) (h2 : j < q.1) (h3 : okl q.2.2.1 q.1) : zx sc sa (d + 5) 12 [.ref pb, .int (nI g), .int (nI j)] (paQ M pb oc tb lv mx fr tr tk ch co s l t q) z z none (paQ M pb oc tb lv mx (va_up fr g (nI j)) tr (va_up tk g (tcF s l t j (co g) n 0 5 (tk g) (ch g) q).1) (va_up ch g (tcF s l t j (co g) n 0 5 (tk g) (ch g) q).2.1) (va_up co (g + 1) (co g ||| (1 <<< ((tcF s l t j (co g) n 0 5 (tk g) (ch g) q).1 &&& 31)))) s l t (tcF s l t j (co g) n 0 5 (tk g) (ch g) q).2.2) := by
  refine zxin ym_Pa_takeCell [.ref pb, .int (nI g), .int (nI j), .retAddr 0, .retAddr 0, .retAddr 0] rfl rfl rfl rfl ?_
  refine z_iload_n (q := 1) rfl rfl rfl ?_
  refine z_aload_n (q := 2) rfl rfl rfl ?_
  refine z_getR (q := 5) rfl rfl rfl (Pa_k w) (Pa_r0 w) ?_
  refine z_getI (q := 8) rfl rfl rfl (Sh_k (Pa_w0 w)) ?_
  rw [paS_g5]
  refine z_ic_ge (q := 11) rfl rfl (fun h8 => ?_) (fun h8 => ?_)
  · rw [hs] at h8
    exact absurd h8 (nI_ge (by omega) (by omega))
  · refine z_iload_n (q := 12) rfl rfl rfl ?_
    refine z_iconst (q := 13) (v := 1) rfl rfl rfl ?_
    refine z_iadd (q := 14) rfl rfl ?_
    rw [show nI g + 1 = nI (g + 1) from (nI_succ g).symm]
    refine z_aload_n (q := 15) rfl rfl rfl ?_
    refine z_getR (q := 18) rfl rfl rfl (Pa_k w) (Pa_r1 w) ?_
    refine z_alen (q := 19) rfl rfl (Pa_a1 w) rfl rfl ?_
    refine z_ic_lt (q := 22) rfl rfl (fun h19 => ?_) (fun h19 => ?_)
    · refine z_iconst (q := 34) (v := 5) rfl rfl rfl ?_
      refine z_istore_n (q := 35) (L2 := [_, _, _, _, _, _]) rfl rfl rfl rfl ?_
      refine z_iconst (q := 36) (v := 0) rfl rfl rfl ?_
      refine z_istore (q := 38) (L2 := [_, _, _, _, _, _]) rfl rfl rfl rfl ?_
      have e := l_Pa_takeCell (sc := sc) (sa := sa) (d := d) (z := z) (oc := oc) (tb := tb) (lv := lv) (mx := mx) (fr := fr) (tr := tr) (tk := tk) (ch := ch) (co := co) (l := l) (t := t) w hs hn hg n 0 5 (tk g) (ch g) q (tcF s l t j (co g) n 0 5 (tk g) (ch g) q).1 (tcF s l t j (co g) n 0 5 (tk g) (ch g) q).2.1 (tcF s l t j (co g) n 0 5 (tk g) (ch g) q).2.2 (.retAddr 0) (by omega) hN h2 h3 rfl
      rw [up_id rfl, up_id rfl] at e
      exact e
    · exact absurd (nI_lt (by omega) (by omega)) h19
theorem q_Pa_takeEnd {sc : Option (Nat × Nat × (Nat → Int32))} {sa : Nat → Nat} {d : Nat} {M : mz_M} {z : Nat × Nat} {pb : Nat} {oc tb lv mx : Int32} {fr tr tk ch co : Nat → Int32} {s l t : Int32} {q : sQ} (w : g_Pa M.2.2 pb) {n g : Nat} (hs : s = nI n) (hn : n ≤ 12) (hg : n ≤ g) (hg2 : g ≤ 200) {x : Int32} : zx sc sa (d + 5) 12 [.ref pb, .int (nI g), .int x] (paQ M pb oc tb lv mx fr tr tk ch co s l t q) z z none (paQ M pb 1 tb x mx fr tr tk ch co s l t q) := by
  refine zxin ym_Pa_takeCell [.ref pb, .int (nI g), .int x, .retAddr 0, .retAddr 0, .retAddr 0] rfl rfl rfl rfl ?_
  refine z_iload_n (q := 1) rfl rfl rfl ?_
  refine z_aload_n (q := 2) rfl rfl rfl ?_
  refine z_getR (q := 5) rfl rfl rfl (Pa_k w) (Pa_r0 w) ?_
  refine z_getI (q := 8) rfl rfl rfl (Sh_k (Pa_w0 w)) ?_
  rw [paS_g5]
  refine z_ic_ge (q := 11) rfl rfl (fun h8 => ?_) (fun h8 => ?_)
  · refine z_aload_n (q := 23) rfl rfl rfl ?_
    refine z_iconst (q := 24) (v := 1) rfl rfl rfl ?_
    refine z_putI (q := 27) rfl rfl rfl (by decide) rfl rfl (Pa_k w) ?_
    rw [paQ_u6]
    refine z_aload_n (q := 28) rfl rfl rfl ?_
    refine z_iload_n (q := 29) rfl rfl rfl ?_
    refine z_putI (q := 32) rfl rfl rfl (by decide) rfl rfl (Pa_k w) ?_
    rw [paQ_u8]
    refine z_ret rfl rfl ?_
    exact ⟨rfl, rfl⟩
  · exact absurd (by rw [hs]; exact nI_le hg (by omega)) h8
theorem soF_ok {s l t p b : Int32} : ∀ k i (v oc : Int32) (q : sQ), q.1 ≤ 200 → (v = -1 ∨ ∃ j, j < q.1 ∧ v = nI j) → okl q.2.2.1 q.1 → q.1 ≤ (soF s l t p b k i v oc q).2.2.1 ∧ (soF s l t p b k i v oc q).2.2.1 ≤ 200 ∧ okl (soF s l t p b k i v oc q).2.2.2.2.1 (soF s l t p b k i v oc q).2.2.1 ∧ ((soF s l t p b k i v oc q).1 = -1 ∨ ∃ j, j < (soF s l t p b k i v oc q).2.2.1 ∧ (soF s l t p b k i v oc q).1 = nI j) := by
  intro k
  induction k with
  | zero => intro i v oc q h1 h2 h3; exact ⟨Nat.le_refl _, h1, h3, h2⟩
  | succ k ih =>
    intro i v oc q h1 h2 h3
    rcases h2 with rfl | ⟨j, h2, rfl⟩
    · rw [soF_n]
      exact ⟨Nat.le_refl _, h1, h3, Or.inl rfl⟩
    · have e := @puQ_ok s l t j (nI i) (nmI (q.2.1 j) (nI i) &&& (b ^^^ -1)) oc (rdQ s l t j (nI i) q) h1 h2 (rdQ_ok h1 h2 h3)
      by_cases c1 : bi1 p i = 0
      · rw [soF_o (by omega) c1]
        exact ih _ _ _ _ h1 (Or.inr ⟨j, h2, rfl⟩) h3
      · by_cases c2 : nmI (q.2.1 j) (nI i) &&& b = 0
        · by_cases c3 : nmI (q.2.1 j) (nI i) = b
          · rw [soF_a (by omega) c1 c2 c3]
            exact ⟨Nat.le_refl _, h1, rdQ_ok h1 h2 h3, Or.inl rfl⟩
          · rw [soF_b (by omega) c1 c2 c3]
            exact ih (i + 1) (nI j) oc (rdQ s l t j (nI i) q) h1 (Or.inr ⟨j, h2, rfl⟩) (rdQ_ok h1 h2 h3)
        · by_cases c3 : nmI (q.2.1 j) (nI i) = b
          · rw [soF_c (by omega) c1 c2 c3]
            exact ⟨e.1, e.2.1, e.2.2.1, Or.inl rfl⟩
          · rw [soF_d (by omega) c1 c2 c3]
            have e2 := ih (i + 1) _ (puQ s l t j (nI i) (nmI (q.2.1 j) (nI i) &&& (b ^^^ -1)) oc (rdQ s l t j (nI i) q)).2.1 _ e.2.1 e.2.2.2 e.2.2.1
            exact ⟨Nat.le_trans e.1 e2.1, e2.2⟩
def bb : Nat → Int32
  | 0 => 16
  | 1 => 8
  | 2 => 4
  | 3 => 2
  | _ => 1
theorem bb_s : ∀ k, k < 4 → bb (k + 1) <<< ((1 : Int32) &&& 31) = bb k := by decide
theorem bb_l : ∀ k, k < 4 → bb (k + 1) < 16 := by decide
/-- fresh, choices, outcome, shelf -/
def paF (s l t : Int32) (n f : Nat) (c p : Int32) : Nat → Int32 → Int32 → Int32 → sQ → Int32 × Int32 × Int32 × sQ
  | 0, x, h, oc, q => (x, h, oc, q)
  | k + 1, x, h, oc, q => if x = -1 then (if oc = 3 then (if h &&& bb (k + 1) = 0 then paF s l t n f c p k x h oc q else
      paF s l t n f c p k (soF s l t p (bb (k + 1)) n 0 (puQ s l t f c (bb (k + 1)) oc q).1 (puQ s l t f c (bb (k + 1)) oc q).2.1 (puQ s l t f c (bb (k + 1)) oc q).2.2).1 (h &&& (bb (k + 1) ^^^ -1)) (soF s l t p (bb (k + 1)) n 0 (puQ s l t f c (bb (k + 1)) oc q).1 (puQ s l t f c (bb (k + 1)) oc q).2.1 (puQ s l t f c (bb (k + 1)) oc q).2.2).2.1 (soF s l t p (bb (k + 1)) n 0 (puQ s l t f c (bb (k + 1)) oc q).1 (puQ s l t f c (bb (k + 1)) oc q).2.1 (puQ s l t f c (bb (k + 1)) oc q).2.2).2.2) else (x, h, oc, q)) else (x, h, oc, q)
theorem paF_s {s l t : Int32} {n f : Nat} {c p : Int32} {k : Nat} {x h oc : Int32} {q : sQ} : paF s l t n f c p (k + 1) x h oc q = if x = -1 then (if oc = 3 then (if h &&& bb (k + 1) = 0 then paF s l t n f c p k x h oc q else paF s l t n f c p k (soF s l t p (bb (k + 1)) n 0 (puQ s l t f c (bb (k + 1)) oc q).1 (puQ s l t f c (bb (k + 1)) oc q).2.1 (puQ s l t f c (bb (k + 1)) oc q).2.2).1 (h &&& (bb (k + 1) ^^^ -1)) (soF s l t p (bb (k + 1)) n 0 (puQ s l t f c (bb (k + 1)) oc q).1 (puQ s l t f c (bb (k + 1)) oc q).2.1 (puQ s l t f c (bb (k + 1)) oc q).2.2).2.1 (soF s l t p (bb (k + 1)) n 0 (puQ s l t f c (bb (k + 1)) oc q).1 (puQ s l t f c (bb (k + 1)) oc q).2.1 (puQ s l t f c (bb (k + 1)) oc q).2.2).2.2) else (x, h, oc, q)) else (x, h, oc, q) := rfl
theorem l_Pa_paintAhead {sc : Option (Nat × Nat × (Nat → Int32))} {sa : Nat → Nat} {d : Nat} {M : mz_M} {z : Nat × Nat} {pb : Nat} {tb lv mx : Int32} {fr tr tk ch co : Nat → Int32} {s l t : Int32} (w : g_Pa M.2.2 pb) {st : Nat} (v : g_St M.2.2 st) (hf : pb + 11 < st) {n g f : Nat} (hs : s = nI n) (hn : n ≤ 12) (hg : g < n) (hfr : fr g = nI f) {c p : Int32} : ∀ (k : Nat) (x h oc : Int32) (q : sQ) (x1 y1 oc1 : Int32) (q1 : sQ), k ≤ 4 → q.1 ≤ 200 → f < q.1 → okl q.2.2.1 q.1 → paF s l t n f c p k x h oc q = (x1, y1, oc1, q1) → zw sc sa (d + 5) ym_Pa_paintAhead z (fun r' M' => r' = some (.int x1) ∧ M' = (paQ M pb oc1 tb lv mx fr tr tk (va_up ch g y1) co s l t q1)) 48 [.ref pb, .ref st, .int (nI g), .int c, .int p, .int x, .int (bb k)] [] (paQ M pb oc tb lv mx fr tr tk (va_up ch g h) co s l t q) z := by
  intro k
  induction k with
  | zero =>
    intro x h oc q x1 y1 oc1 q1 hk h1 h2 h3 hr
    have e2 : (x, h, oc, q) = (x1, y1, oc1, q1) := hr
    simp only [Prod.mk.injEq] at e2
    obtain ⟨rfl, rfl, rfl, rfl⟩ := e2
    clear hr
    refine z_iload (q := 50) rfl rfl rfl ?_
    refine z_bipush (q := 52) (v := 16) rfl rfl rfl ?_
    refine z_ic_ge (q := 55) rfl rfl (fun h52 => ?_) (fun h52 => ?_)
    · refine z_iload (q := 128) rfl rfl rfl ?_
      refine z_ireti rfl rfl ?_
      exact ⟨rfl, rfl⟩
    · exact absurd (by decide : (16 : Int32) ≤ bb 0) h52
  | succ k ih =>
    intro x h oc q x1 y1 oc1 q1 hk h1 h2 h3 hr
    rw [paF_s] at hr
    have e1 := @puQ_ok s l t f c (bb (k + 1)) oc q h1 h2 h3
    have e2 := @soF_ok s l t p (bb (k + 1)) n 0 _ (puQ s l t f c (bb (k + 1)) oc q).2.1 _ e1.2.1 e1.2.2.2 e1.2.2.1
    refine z_iload (q := 50) rfl rfl rfl ?_
    refine z_bipush (q := 52) (v := 16) rfl rfl rfl ?_
    refine z_ic_ge (q := 55) rfl rfl (fun h52 => ?_) (fun h52 => ?_)
    · exact absurd h52 (Int32.not_le.mpr (bb_l k (by omega)))
    · refine z_iload (q := 57) rfl rfl rfl ?_
      refine z_iconst (q := 58) (v := -1) rfl rfl rfl ?_
      refine z_ic_ne (q := 61) rfl rfl (fun h58 => ?_) (fun h58 => ?_)
      · refine z_iload (q := 128) rfl rfl rfl ?_
        refine z_ireti rfl rfl ?_
        first
          | (have g1 : ¬ x = -1 := h58
             rw [if_neg g1] at hr
             simp only [Prod.mk.injEq] at hr
             obtain ⟨rfl, rfl, rfl, rfl⟩ := hr
             exact ⟨rfl, rfl⟩)
          | (have g1 : ¬ oc = 3 := h66
             rw [if_pos h58, if_neg g1] at hr
             simp only [Prod.mk.injEq] at hr
             obtain ⟨rfl, rfl, rfl, rfl⟩ := hr
             exact ⟨rfl, rfl⟩)
      · refine z_aload_n (q := 62) rfl rfl rfl ?_
        refine z_getI (q := 65) rfl rfl rfl (Pa_k w) ?_
        rw [paQ_g6]
        refine z_iconst (q := 66) (v := 3) rfl rfl rfl ?_
        refine z_ic_ne (q := 69) rfl rfl (fun h66 => ?_) (fun h66 => ?_)
        · refine z_iload (q := 128) rfl rfl rfl ?_
          refine z_ireti rfl rfl ?_
          first
            | (have g1 : ¬ x = -1 := h58
               rw [if_neg g1] at hr
               simp only [Prod.mk.injEq] at hr
               obtain ⟨rfl, rfl, rfl, rfl⟩ := hr
               exact ⟨rfl, rfl⟩)
            | (have g1 : ¬ oc = 3 := h66
               rw [if_pos h58, if_neg g1] at hr
               simp only [Prod.mk.injEq] at hr
               obtain ⟨rfl, rfl, rfl, rfl⟩ := hr
               exact ⟨rfl, rfl⟩)
        · refine z_aload_n (q := 70) rfl rfl rfl ?_
          refine z_getR (q := 73) rfl rfl rfl (Pa_k w) (Pa_r4 w) ?_
          refine z_iload_n (q := 74) rfl rfl rfl ?_
          refine z_iald (q := 75) rfl rfl (Pa_a4 w) (by first | assumption | exact vp_in_nI (by omega) (by omega)) ?_
          rw [paQ_a4]
          try rw [nI_clamp (by omega)]
          rw [up_at]
          refine z_iload (q := 77) rfl rfl rfl ?_
          refine z_iand (q := 78) rfl rfl ?_
          refine z_if_eq (q := 81) rfl rfl (fun h78 => ?_) (fun h78 => ?_)
          · refine z_iload (q := 119) rfl rfl rfl ?_
            refine z_iconst (q := 120) (v := 1) rfl rfl rfl ?_
            refine z_ishl (q := 121) rfl rfl ?_
            refine z_istore (q := 123) (L2 := [_, _, _, _, _, _, _]) rfl rfl rfl rfl ?_
            refine z_goto rfl ?_
            rw [bb_s k (by omega)]
            first
              | (have g1 : h &&& bb (k + 1) = 0 := h78
                 rw [if_pos h58, if_pos h66, if_pos g1] at hr
                 exact ih _ _ _ _ x1 y1 oc1 q1 (by omega) h1 h2 h3 hr)
              | (have g1 : ¬ h &&& bb (k + 1) = 0 := h78
                 rw [if_pos h58, if_pos h66, if_neg g1] at hr
                 exact ih _ _ _ _ x1 y1 oc1 q1 (by omega) e2.2.1 (Nat.lt_of_lt_of_le h2 (Nat.le_trans e1.1 e2.1)) e2.2.2.1 hr)
          · refine z_aload_n (q := 82) rfl rfl rfl ?_
            refine z_getR (q := 85) rfl rfl rfl (Pa_k w) (Pa_r4 w) ?_
            refine z_iload_n (q := 86) rfl rfl rfl ?_
            refine z_dup2 (q := 87) rfl rfl rfl rfl ?_
            refine z_iald (q := 88) rfl rfl (Pa_a4 w) (by first | assumption | exact vp_in_nI (by omega) (by omega)) ?_
            rw [paQ_a4]
            try rw [nI_clamp (by omega)]
            rw [up_at]
            refine z_iload (q := 90) rfl rfl rfl ?_
            refine z_iconst (q := 91) (v := -1) rfl rfl rfl ?_
            refine z_ixor (q := 92) rfl rfl ?_
            refine z_iand (q := 93) rfl rfl ?_
            refine z_iast (q := 94) rfl rfl (Pa_a4 w) (by first | assumption | exact vp_in_nI (by omega) (by omega)) ?_
            rw [paQ_w4]
            try rw [nI_clamp (by omega)]
            rw [up_up]
            refine z_aload_n (q := 95) rfl rfl rfl ?_
            refine z_aload_n (q := 96) rfl rfl rfl ?_
            refine z_aload_n (q := 97) rfl rfl rfl ?_
            refine z_getR (q := 100) rfl rfl rfl (Pa_k w) (Pa_r1 w) ?_
            refine z_iload_n (q := 101) rfl rfl rfl ?_
            refine z_iald (q := 102) rfl rfl (Pa_a1 w) (by first | assumption | exact vp_in_nI (by omega) (by omega)) ?_
            rw [paQ_a1]
            try rw [nI_clamp (by omega)]
            rw [hfr]
            refine z_iload_n (q := 103) rfl rfl rfl ?_
            refine z_iload (q := 105) rfl rfl rfl ?_
            refine z_cv3i (q := 108) rfl rfl rfl (Pa_k w) (q_Pa_put w h1 h2 h3) ?_
            refine z_iload (q := 110) rfl rfl rfl ?_
            refine z_iload (q := 112) rfl rfl rfl ?_
            refine z_cv3i (q := 115) rfl rfl rfl (Pa_k w) (q_Pa_strikeOut w e1.2.1 hs hn e1.2.2.2 e1.2.2.1) ?_
            refine z_istore (q := 117) (L2 := [_, _, _, _, _, _, _]) rfl rfl rfl rfl ?_
            refine z_iload (q := 119) rfl rfl rfl ?_
            refine z_iconst (q := 120) (v := 1) rfl rfl rfl ?_
            refine z_ishl (q := 121) rfl rfl ?_
            refine z_istore (q := 123) (L2 := [_, _, _, _, _, _, _]) rfl rfl rfl rfl ?_
            refine z_goto rfl ?_
            rw [bb_s k (by omega)]
            first
              | (have g1 : h &&& bb (k + 1) = 0 := h78
                 rw [if_pos h58, if_pos h66, if_pos g1] at hr
                 exact ih _ _ _ _ x1 y1 oc1 q1 (by omega) h1 h2 h3 hr)
              | (have g1 : ¬ h &&& bb (k + 1) = 0 := h78
                 rw [if_pos h58, if_pos h66, if_neg g1] at hr
                 exact ih _ _ _ _ x1 y1 oc1 q1 (by omega) e2.2.1 (Nat.lt_of_lt_of_le h2 (Nat.le_trans e1.1 e2.1)) e2.2.2.1 hr)
