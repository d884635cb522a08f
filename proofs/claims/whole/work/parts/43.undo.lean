theorem s_X_merged {sc : Option (Nat × Nat × (Nat → Int32))} {sa : Nat → Nat} {d : Nat} {M : mz_M} {z : Nat × Nat} {x p q : Nat} (w : g_X M.2.2 x p q) {n : Nat} (hn : M.1 (p + 1) 8 = nI n) (hN : n ≤ 40) {m : Nat} (hc : M.1 (p + 1) 5 = nI m) (hC : m ≤ 12) (ho : okm (M.1 (p + 5)) n) {a b c : Int32} : zx sc sa (d + 5) 151 [.ref x, .int a, .int b, .int c] M z z (some (.int (if (vI n a ∧ vI n b) ∧ vI m c then nmI (fo (mgG (M.2.1 (p + 2) (mtN (M.1 (p + 5)) (2 * n) a.toNatClampNeg b.toNatClampNeg)) (M.2.1 (p + 2) a.toNatClampNeg) (M.2.1 (p + 2) b.toNatClampNeg)) (M.2.1 (p + 2) a.toNatClampNeg) m) c else -2))) M := by
  refine zxin ym_X_merged [.ref x, .int a, .int b, .int c] rfl rfl rfl rfl ?_
  refine z_aload_n (q := 1) rfl rfl rfl ?_
  refine z_iload_n (q := 2) rfl rfl rfl ?_
  refine z_iload_n (q := 3) rfl rfl rfl ?_
  refine z_cv2i (q := 6) rfl rfl rfl (X_k w) (s_X_hasVersions w hn hN) ?_
  refine z_if_eq (q := 9) rfl rfl (fun h6 => ?_) (fun h6 => ?_)
  · refine z_bipush (q := 25) (v := -2) rfl rfl rfl ?_
    refine z_ireti rfl rfl ?_
    first
      | (have g1 := bz_0.mp h20
         rw [hc] at g1
         rw [if_neg (fun h => g1 h.2)]
         exact ⟨rfl, rfl⟩)
      | (have g1 := bz_0.mp h6
         rw [if_neg (fun h => g1 h.1)]
         exact ⟨rfl, rfl⟩)
  · refine z_aload_n (q := 10) rfl rfl rfl ?_
    refine z_getR (q := 13) rfl rfl rfl (X_k w) (X_r4 w) ?_
    refine z_getR (q := 16) rfl rfl rfl (St_k (X_w4 w)) (St_r0 (X_w4 w)) ?_
    refine z_iload_n (q := 17) rfl rfl rfl ?_
    refine z_cv1i (q := 20) rfl rfl rfl (Sh_k (St_w0 (X_w4 w))) (s_Sh_hasCell (St_w0 (X_w4 w))) ?_
    refine z_if_ne (q := 23) rfl rfl (fun h20 => ?_) (fun h20 => ?_)
    · refine z_aload_n (q := 27) rfl rfl rfl ?_
      obtain ⟨j, hj, rfl⟩ := vI_nat (by omega) (bz_n.mp h6).1
      obtain ⟨i, hi, rfl⟩ := vI_nat (by omega) (bz_n.mp h6).2
      refine z_getR (q := 30) rfl rfl rfl (X_k w) (X_r4 w) ?_
      refine z_getR (q := 33) rfl rfl rfl (St_k (X_w4 w)) (St_r0 (X_w4 w)) ?_
      refine z_iload_n (q := 34) rfl rfl rfl ?_
      refine z_iload_n (q := 35) rfl rfl rfl ?_
      refine z_cv2l (q := 38) rfl rfl rfl (Sh_k (St_w0 (X_w4 w))) (s_Sh_mergedRow (St_w0 (X_w4 w)) hn hN (by omega) hj hi ho hc hC) ?_
      refine z_iload_n (q := 39) rfl rfl rfl ?_
      refine z_cs2i (q := 42) rfl rfl rfl (s_Sh_numberIn) ?_
      refine z_ireti rfl rfl ?_
      have g20 := bz_n.mp h20
      rw [hc] at g20
      have g0 : (vI n (nI j) ∧ vI n (nI i)) ∧ vI m c := ⟨bz_n.mp h6, g20⟩
      rw [if_pos g0, nI_clamp (show j < 2 ^ 31 by omega), nI_clamp (show i < 2 ^ 31 by omega)]
      exact ⟨rfl, rfl⟩
    · refine z_bipush (q := 25) (v := -2) rfl rfl rfl ?_
      refine z_ireti rfl rfl ?_
      first
        | (have g1 := bz_0.mp h20
           rw [hc] at g1
           rw [if_neg (fun h => g1 h.2)]
           exact ⟨rfl, rfl⟩)
        | (have g1 := bz_0.mp h6
           rw [if_neg (fun h => g1 h.1)]
           exact ⟨rfl, rfl⟩)
theorem t_X_there {sc : Option (Nat × Nat × (Nat → Int32))} {sa : Nat → Nat} {d : Nat} {M : mz_M} {z : Nat × Nat} {x p r : Nat} {pr ln td : Int32} {D : Nat} {pa ks os ts hs cs : Nat → Int32} {s l t : Int32} {q : sQ} (w : g_X M.2.2 x p r) {c : Nat} (hc : s = nI c) (hC : c ≤ 12) (h1 : 0 < c) : zx sc sa (d + 1) 109 [.ref x] (stQ M p pr ln td (nI D) pa ks os ts hs cs s l t q) z z (some (.int 1)) (stQ M p pr ln td (nI D) pa ks os ts hs cs s l t q) := by
  have e := @s_X_isThere sc sa d (stQ M p pr ln td (nI D) pa ks os ts hs cs s l t q) z x p r w c (by rw [stS_g5]; exact hc) hC
  rw [bz_t h1] at e
  exact e
theorem t_X_acts {sc : Option (Nat × Nat × (Nat → Int32))} {sa : Nat → Nat} {d : Nat} {M : mz_M} {z : Nat × Nat} {x p r : Nat} {pr ln td : Int32} {D : Nat} {pa ks os ts hs cs : Nat → Int32} {s l t : Int32} {q : sQ} (w : g_X M.2.2 x p r) {c : Nat} (hc : s = nI c) (hC : c ≤ 12) : zx sc sa (d + 1) 69 [.ref p] (stQ M p pr ln td (nI D) pa ks os ts hs cs s l t q) z z (some (.int (nI D - td))) (stQ M p pr ln td (nI D) pa ks os ts hs cs s l t q) := by
  have e := @s_St_acts sc sa d (stQ M p pr ln td (nI D) pa ks os ts hs cs s l t q) z p (X_w4 w)
  rw [stQ_g10, stQ_g9] at e
  exact e
theorem q_X_anew {sc : Option (Nat × Nat × (Nat → Int32))} {sa : Nat → Nat} {d : Nat} {M : mz_M} {z : Nat × Nat} {x p r : Nat} {pr ln : Int32} {T : Nat} {D : Nat} {pa ks os ts hs cs : Nat → Int32} {s l t : Int32} {q : sQ} (w : g_X M.2.2 x p r) {c : Nat} (hc : s = nI c) (hC : c ≤ 12) {K A B E : Nat → Nat} (h1 : 0 < c) (hT : T ≤ D) (h60 : D ≤ 60) (hd : ∀ i, i < T → ks i = nI (K i) ∧ os i = nI (A i) ∧ ts i = nI (B i) ∧ hs i = nI (E i)) (hv : plV s l t c 40 K A B E (-1) (bgQ (ownR c) q) T)  : zx sc sa (d + 8) 167 [.ref x] (stQ M p pr ln (nI T) (nI D) pa ks os ts hs cs s l t q) z z (some (.int (nI D - nI T))) (stQ M p pr ln (nI T) (nI T) pa ks os ts hs cs s l t (fo (plG s l t c K A B E (-1)) (bgQ (ownR c) q) T)) := by
  refine zxin ym_X_anew [.ref x, .retAddr 0] rfl rfl rfl rfl ?_
  refine z_aload_n (q := 1) rfl rfl rfl ?_
  refine z_cv0i (q := 4) rfl rfl rfl (X_k w) (t_X_there w hc hC h1) ?_
  refine z_if_ne (q := 7) rfl rfl (fun h4 => ?_) (fun h4 => ?_)
  · refine z_aload_n (q := 11) rfl rfl rfl ?_
    refine z_getR (q := 14) rfl rfl rfl (X_k w) (X_r4 w) ?_
    refine z_cv0i (q := 17) rfl rfl rfl (St_k (X_w4 w)) (t_X_acts w hc hC) ?_
    refine z_istore_n (q := 18) (L2 := [_, _]) rfl rfl rfl rfl ?_
    refine z_aload_n (q := 19) rfl rfl rfl ?_
    refine z_getR (q := 22) rfl rfl rfl (X_k w) (X_r4 w) ?_
    refine z_aload_n (q := 23) rfl rfl rfl ?_
    refine z_getR (q := 26) rfl rfl rfl (X_k w) (X_r4 w) ?_
    refine z_getI (q := 29) rfl rfl rfl (St_k (X_w4 w)) ?_
    rw [stQ_g9]
    refine z_cv1v (q := 32) rfl rfl rfl (St_k (X_w4 w)) (q_St_goBackTo (X_w4 w) (by omega) hc hC hd hT h60 hv) ?_
    refine z_iload_n (q := 33) rfl rfl rfl ?_
    refine z_ireti rfl rfl ?_
    exact ⟨rfl, rfl⟩
  · exact absurd h4 (by decide)
theorem q_X_undo {sc : Option (Nat × Nat × (Nat → Int32))} {sa : Nat → Nat} {d : Nat} {M : mz_M} {z : Nat × Nat} {x p r : Nat} {pr ln : Int32} {T : Nat} {D : Nat} {pa ks os ts hs cs : Nat → Int32} {s l t : Int32} {q : sQ} (w : g_X M.2.2 x p r) {c : Nat} (hc : s = nI c) (hC : c ≤ 12) {K A B E : Nat → Nat} (h1 : 0 < c) (hT : T ≤ D) (h60 : D + 1 ≤ 60) (hd : ∀ i, i < D → ks i = nI (K i) ∧ os i = nI (A i) ∧ ts i = nI (B i) ∧ hs i = nI (E i)) (hv : plV s l t c 40 K A B E (-1) (bgQ (ownR c) q) D)  : zx sc sa (d + 8) 166 [.ref x] (stQ M p pr ln (nI T) (nI (D + 1)) pa ks os ts hs cs s l t q) z z (some (.int (nI D - nI T))) (stQ M p pr ln (nI T) (nI D) pa ks os ts hs cs s l t (fo (plG s l t c K A B E (-1)) (bgQ (ownR c) q) D)) := by
  refine zxin ym_X_undo [.ref x] rfl rfl rfl rfl ?_
  refine z_aload_n (q := 1) rfl rfl rfl ?_
  refine z_cv0i (q := 4) rfl rfl rfl (X_k w) (t_X_there w hc hC h1) ?_
  refine z_if_ne (q := 7) rfl rfl (fun h4 => ?_) (fun h4 => ?_)
  · refine z_aload_n (q := 11) rfl rfl rfl ?_
    refine z_getR (q := 14) rfl rfl rfl (X_k w) (X_r4 w) ?_
    refine z_cv0i (q := 17) rfl rfl rfl (St_k (X_w4 w)) (t_X_acts w hc hC) ?_
    refine z_if_ne (q := 20) rfl rfl (fun h17 => ?_) (fun h17 => ?_)
    · refine z_aload_n (q := 24) rfl rfl rfl ?_
      refine z_getR (q := 27) rfl rfl rfl (X_k w) (X_r4 w) ?_
      refine z_aload_n (q := 28) rfl rfl rfl ?_
      refine z_getR (q := 31) rfl rfl rfl (X_k w) (X_r4 w) ?_
      refine z_getI (q := 34) rfl rfl rfl (St_k (X_w4 w)) ?_
      rw [stQ_g10]
      refine z_iconst (q := 35) (v := 1) rfl rfl rfl ?_
      refine z_isub (q := 36) rfl rfl ?_
      rw [nI_pred]
      refine z_cv1v (q := 39) rfl rfl rfl (St_k (X_w4 w)) (q_St_goBackTo (D0 := D + 1) (X_w4 w) (by omega) hc hC hd (by omega) h60 hv) ?_
      refine z_aload_n (q := 40) rfl rfl rfl ?_
      refine z_getR (q := 43) rfl rfl rfl (X_k w) (X_r4 w) ?_
      refine z_cv0i (q := 46) rfl rfl rfl (St_k (X_w4 w)) (t_X_acts w hc hC) ?_
      refine z_ireti rfl rfl ?_
      exact ⟨rfl, rfl⟩
    · exact absurd (show nI (D + 1) - nI T = 0 from h17) (by rw [nI_sub' (by omega)]; exact nI_ne0 (by omega) (by omega))
  · exact absurd h4 (by decide)
