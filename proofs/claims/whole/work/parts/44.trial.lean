theorem trQ_o {M : mz_M} {x a : Nat} {s l t : Int32} {q : sQ} (h : x + 10 ≤ a) : (shQ M (x + 4) s l t q).1 a = M.1 a := shP_o (by omega) (by omega) (by omega) (by omega) (by omega)
theorem t_X_thereT {sc : Option (Nat × Nat × (Nat → Int32))} {sa : Nat → Nat} {d : Nat} {M : mz_M} {z : Nat × Nat} {x p r : Nat} {s0 l0 t0 : Int32} {q : sQ} (w : g_X M.2.2 x p r) (hx : x + 10 ≤ p) {c : Nat} (hc : M.1 (p + 1) 5 = nI c) (hC : c ≤ 12) (h1 : 0 < c) : zx sc sa (d + 1) 109 [.ref x] (shQ M (x + 4) s0 l0 t0 q) z z (some (.int 1)) (shQ M (x + 4) s0 l0 t0 q) := by
  have e := @s_X_isThere sc sa d (shQ M (x + 4) s0 l0 t0 q) z x p r w c (by rw [trQ_o (by omega)]; exact hc) hC
  rw [bz_t h1] at e
  exact e
theorem q_X_cutting {sc : Option (Nat × Nat × (Nat → Int32))} {sa : Nat → Nat} {d : Nat} {M : mz_M} {z : Nat × Nat} {x p r : Nat} {s0 l0 t0 : Int32} {q : sQ} (w : g_X M.2.2 x p r) (hx : x + 10 ≤ p) {c : Nat} (hc : M.1 (p + 1) 5 = nI c) (hC : c ≤ 12) {D : Nat} (hDe : M.1 p 10 = nI D) (hD : D ≤ 60) {K A B E : Nat → Nat} (hd : ∀ i, i < D → M.1 (p + 8) i = nI (K i) ∧ M.1 (p + 9) i = nI (A i) ∧ M.1 (p + 10) i = nI (B i) ∧ M.1 (p + 11) i = nI (E i)) (h1 : 0 < c) {a : Int32} (ha : ¬ a < 0) (ha2 : a ≤ 20) (hv : plV (nI c) 2 a c 40 K A B E (-1) (bgQ (ownR c) q) D) : zx sc sa (d + 7) 140 [.ref x, .int a] (shQ M (x + 4) s0 l0 t0 q) z z (some (.int (fo (plG (nI c) 2 a c K A B E (-1)) (bgQ (ownR c) q) D).2.2.2.2.2.2)) (shQ M (x + 4) (nI c) 2 a (fo (plG (nI c) 2 a c K A B E (-1)) (bgQ (ownR c) q) D)) := by
  refine zxin ym_X_cutting [.ref x, .int a] rfl rfl rfl rfl ?_
  refine z_aload_n (q := 1) rfl rfl rfl ?_
  refine z_cv0i (q := 4) rfl rfl rfl (X_k w) (t_X_thereT w hx hc hC h1) ?_
  refine z_if_eq (q := 7) rfl rfl (fun h4 => ?_) (fun h4 => ?_)
  · exact absurd h4 (by decide)
  · refine z_iload_n (q := 8) rfl rfl rfl ?_
    refine z_if_lt (q := 11) rfl rfl (fun h8 => ?_) (fun h8 => ?_)
    · exact absurd h8 ha
    · refine z_iload_n (q := 12) rfl rfl rfl ?_
      refine z_bipush (q := 14) (v := 20) rfl rfl rfl ?_
      refine z_ic_le (q := 17) rfl rfl (fun h14 => ?_) (fun h14 => ?_)
      · refine z_aload_n (q := 21) rfl rfl rfl ?_
        refine z_getR (q := 24) rfl rfl rfl (X_k w) (X_r4 w) ?_
        refine z_aload_n (q := 25) rfl rfl rfl ?_
        refine z_getR (q := 28) rfl rfl rfl (X_k w) (X_r2 w) ?_
        refine z_iconst (q := 29) (v := 2) rfl rfl rfl ?_
        refine z_iload_n (q := 30) rfl rfl rfl ?_
        refine z_iconst (q := 31) (v := -1) rfl rfl rfl ?_
        refine z_cv4i (q := 34) rfl rfl rfl (St_k (X_w4 w)) (q_St_stepsOnT (X_w4 w) (X_w2 w) (Or.inl (by omega)) hDe hD rfl hC hd hc hv) ?_
        refine z_ireti rfl rfl ?_
        exact ⟨rfl, rfl⟩
      · exact absurd ha2 h14
theorem q_X_by {sc : Option (Nat × Nat × (Nat → Int32))} {sa : Nat → Nat} {d : Nat} {M : mz_M} {z : Nat × Nat} {x p r : Nat} {s0 l0 t0 : Int32} {q : sQ} (w : g_X M.2.2 x p r) (hx : x + 10 ≤ p) {c : Nat} (hc : M.1 (p + 1) 5 = nI c) (hC : c ≤ 12) {D : Nat} (hDe : M.1 p 10 = nI D) (hD : D ≤ 60) {K A B E : Nat → Nat} (hd : ∀ i, i < D → M.1 (p + 8) i = nI (K i) ∧ M.1 (p + 9) i = nI (A i) ∧ M.1 (p + 10) i = nI (B i) ∧ M.1 (p + 11) i = nI (E i)) (h1 : 0 < c) {a : Int32} (ha : ¬ a < 0) (ha2 : a ≤ 2) (hv : plV (nI c) a (M.1 (p + 1) 7) c 40 K A B E (-1) (bgQ (ownR c) q) D) : zx sc sa (d + 7) 139 [.ref x, .int a] (shQ M (x + 4) s0 l0 t0 q) z z (some (.int (fo (plG (nI c) a (M.1 (p + 1) 7) c K A B E (-1)) (bgQ (ownR c) q) D).2.2.2.2.2.2)) (shQ M (x + 4) (nI c) a (M.1 (p + 1) 7) (fo (plG (nI c) a (M.1 (p + 1) 7) c K A B E (-1)) (bgQ (ownR c) q) D)) := by
  have oH_g7 : ∀ {s0 l0 t0 : Int32} {q : sQ}, (shQ M (x + 4) s0 l0 t0 q).1 (p + 1) 7 = M.1 (p + 1) 7 := fun {s0 l0 t0 q} => congrFun (trQ_o (by omega)) 7
  refine zxin ym_X_by [.ref x, .int a] rfl rfl rfl rfl ?_
  refine z_aload_n (q := 1) rfl rfl rfl ?_
  refine z_cv0i (q := 4) rfl rfl rfl (X_k w) (t_X_thereT w hx hc hC h1) ?_
  refine z_if_eq (q := 7) rfl rfl (fun h4 => ?_) (fun h4 => ?_)
  · exact absurd h4 (by decide)
  · refine z_iload_n (q := 8) rfl rfl rfl ?_
    refine z_if_lt (q := 11) rfl rfl (fun h8 => ?_) (fun h8 => ?_)
    · exact absurd h8 ha
    · refine z_iload_n (q := 12) rfl rfl rfl ?_
      refine z_iconst (q := 13) (v := 2) rfl rfl rfl ?_
      refine z_ic_le (q := 16) rfl rfl (fun h13 => ?_) (fun h13 => ?_)
      · refine z_aload_n (q := 20) rfl rfl rfl ?_
        refine z_getR (q := 23) rfl rfl rfl (X_k w) (X_r4 w) ?_
        refine z_aload_n (q := 24) rfl rfl rfl ?_
        refine z_getR (q := 27) rfl rfl rfl (X_k w) (X_r2 w) ?_
        refine z_iload_n (q := 28) rfl rfl rfl ?_
        refine z_aload_n (q := 29) rfl rfl rfl ?_
        refine z_getR (q := 32) rfl rfl rfl (X_k w) (X_r4 w) ?_
        refine z_getR (q := 35) rfl rfl rfl (St_k (X_w4 w)) (St_r0 (X_w4 w)) ?_
        refine z_getI (q := 38) rfl rfl rfl (Sh_k (St_w0 (X_w4 w))) ?_
        rw [oH_g7]
        refine z_iconst (q := 39) (v := -1) rfl rfl rfl ?_
        refine z_cv4i (q := 42) rfl rfl rfl (St_k (X_w4 w)) (q_St_stepsOnT (X_w4 w) (X_w2 w) (Or.inl (by omega)) hDe hD rfl hC hd hc hv) ?_
        refine z_ireti rfl rfl ?_
        exact ⟨rfl, rfl⟩
      · exact absurd ha2 h13
theorem n_X_cutting {sc : Option (Nat × Nat × (Nat → Int32))} {sa : Nat → Nat} {d : Nat} {M : mz_M} {z : Nat × Nat} {x p q : Nat} (w : g_X M.2.2 x p q) {c : Nat} (hc : M.1 (p + 1) 5 = nI c) (hC : c ≤ 12) {a : Int32} (hno : ¬ (0 < c ∧ ¬ a < 0 ∧ a ≤ 20)) : zx sc sa (d + 7) 140 [.ref x, .int a] M z z (some (.int (-2))) M := by
  refine zxin ym_X_cutting [.ref x, .int a] rfl rfl rfl rfl ?_
  refine z_aload_n (q := 1) rfl rfl rfl ?_
  refine z_cv0i (q := 4) rfl rfl rfl (X_k w) (s_X_isThere w hc hC) ?_
  refine z_if_eq (q := 7) rfl rfl (fun h4 => ?_) (fun h4 => ?_)
  · refine z_bipush (q := 19) (v := -2) rfl rfl rfl ?_
    refine z_ireti rfl rfl ?_
    exact ⟨rfl, rfl⟩
  · refine z_iload_n (q := 8) rfl rfl rfl ?_
    refine z_if_lt (q := 11) rfl rfl (fun h8 => ?_) (fun h8 => ?_)
    · refine z_bipush (q := 19) (v := -2) rfl rfl rfl ?_
      refine z_ireti rfl rfl ?_
      exact ⟨rfl, rfl⟩
    · refine z_iload_n (q := 12) rfl rfl rfl ?_
      refine z_bipush (q := 14) (v := 20) rfl rfl rfl ?_
      refine z_ic_le (q := 17) rfl rfl (fun h14 => ?_) (fun h14 => ?_)
      · exact absurd ⟨bz_n.mp h4, h8, h14⟩ hno
      · refine z_bipush (q := 19) (v := -2) rfl rfl rfl ?_
        refine z_ireti rfl rfl ?_
        exact ⟨rfl, rfl⟩
theorem n_X_by {sc : Option (Nat × Nat × (Nat → Int32))} {sa : Nat → Nat} {d : Nat} {M : mz_M} {z : Nat × Nat} {x p q : Nat} (w : g_X M.2.2 x p q) {c : Nat} (hc : M.1 (p + 1) 5 = nI c) (hC : c ≤ 12) {a : Int32} (hno : ¬ (0 < c ∧ ¬ a < 0 ∧ a ≤ 2)) : zx sc sa (d + 7) 139 [.ref x, .int a] M z z (some (.int (-2))) M := by
  refine zxin ym_X_by [.ref x, .int a] rfl rfl rfl rfl ?_
  refine z_aload_n (q := 1) rfl rfl rfl ?_
  refine z_cv0i (q := 4) rfl rfl rfl (X_k w) (s_X_isThere w hc hC) ?_
  refine z_if_eq (q := 7) rfl rfl (fun h4 => ?_) (fun h4 => ?_)
  · refine z_bipush (q := 18) (v := -2) rfl rfl rfl ?_
    refine z_ireti rfl rfl ?_
    exact ⟨rfl, rfl⟩
  · refine z_iload_n (q := 8) rfl rfl rfl ?_
    refine z_if_lt (q := 11) rfl rfl (fun h8 => ?_) (fun h8 => ?_)
    · refine z_bipush (q := 18) (v := -2) rfl rfl rfl ?_
      refine z_ireti rfl rfl ?_
      exact ⟨rfl, rfl⟩
    · refine z_iload_n (q := 12) rfl rfl rfl ?_
      refine z_iconst (q := 13) (v := 2) rfl rfl rfl ?_
      refine z_ic_le (q := 16) rfl rfl (fun h13 => ?_) (fun h13 => ?_)
      · exact absurd ⟨bz_n.mp h4, h8, h13⟩ hno
      · refine z_bipush (q := 18) (v := -2) rfl rfl rfl ?_
        refine z_ireti rfl rfl ?_
        exact ⟨rfl, rfl⟩
def cuF (c D : Nat) (K A B E : Nat → Nat) : Nat → Nat → Int32 → Int32 → sQ → Int32 × sQ
  | 0, _, b, _, q => (b, q)
  | k + 1, i, b, m, q => if m ≤ (fo (plG (nI c) 2 (nI i) c K A B E (-1)) (bgQ (ownR c) q) D).2.2.2.2.2.2 then cuF c D K A B E k (i + 1) b m (fo (plG (nI c) 2 (nI i) c K A B E (-1)) (bgQ (ownR c) q) D) else cuF c D K A B E k (i + 1) (nI i) (fo (plG (nI c) 2 (nI i) c K A B E (-1)) (bgQ (ownR c) q) D).2.2.2.2.2.2 (fo (plG (nI c) 2 (nI i) c K A B E (-1)) (bgQ (ownR c) q) D)
theorem cuF_s {c D : Nat} {K A B E : Nat → Nat} {k i : Nat} {b m : Int32} {q : sQ} : cuF c D K A B E (k + 1) i b m q = if m ≤ (fo (plG (nI c) 2 (nI i) c K A B E (-1)) (bgQ (ownR c) q) D).2.2.2.2.2.2 then cuF c D K A B E k (i + 1) b m (fo (plG (nI c) 2 (nI i) c K A B E (-1)) (bgQ (ownR c) q) D) else cuF c D K A B E k (i + 1) (nI i) (fo (plG (nI c) 2 (nI i) c K A B E (-1)) (bgQ (ownR c) q) D).2.2.2.2.2.2 (fo (plG (nI c) 2 (nI i) c K A B E (-1)) (bgQ (ownR c) q) D) := rfl
theorem l_X_cut {sc : Option (Nat × Nat × (Nat → Int32))} {sa : Nat → Nat} {d : Nat} {M : mz_M} {z : Nat × Nat} {x p r : Nat} (w : g_X M.2.2 x p r) (hx : x + 10 ≤ p) {c : Nat} (hc : M.1 (p + 1) 5 = nI c) (hC : c ≤ 12) {D : Nat} (hDe : M.1 p 10 = nI D) (hD : D ≤ 60) {K A B E : Nat → Nat} (hd : ∀ i, i < D → M.1 (p + 8) i = nI (K i) ∧ M.1 (p + 9) i = nI (A i) ∧ M.1 (p + 10) i = nI (B i) ∧ M.1 (p + 11) i = nI (E i)) (hva : ∀ i q, i ≤ 20 → plV (nI c) 2 (nI i) c 40 K A B E (-1) (bgQ (ownR c) q) D)  : ∀ (k : Nat) (i : Nat) (b m : Int32) (q : sQ) (b1 : Int32) (q1 : sQ) (v4 : Value), i + k = 21 → 1 ≤ i → cuF c D K A B E k i b m q = (b1, q1) → zw sc sa (d + 6) ym_X_cut z (fun r' M' => r' = some (.int b1) ∧ M' = (shQ M (x + 4) (nI c) 2 (nI 20) q1)) 29 [.ref x, .int b, .int m, .int (nI i), v4] [] (shQ M (x + 4) (nI c) 2 (nI (i - 1)) q) z := by
  intro k
  induction k with
  | zero =>
    intro i b m q b1 q1 v4 hi h1 hr
    have e1 : i = 21 := by omega
    subst e1
    have e2 : (b, q) = (b1, q1) := hr
    obtain ⟨rfl, rfl⟩ := Prod.mk.inj e2
    clear hr
    refine z_iload_n (q := 30) rfl rfl rfl ?_
    refine z_bipush (q := 32) (v := 20) rfl rfl rfl ?_
    refine z_ic_gt (q := 35) rfl rfl (fun h32 => ?_) (fun h32 => ?_)
    · refine z_iload_n (q := 69) rfl rfl rfl ?_
      refine z_ireti rfl rfl ?_
      exact ⟨rfl, rfl⟩
    · exact absurd (show nI 20 < nI 21 from nI_lt (by omega) (by omega)) h32
  | succ k ih =>
    intro i b m q b1 q1 v4 hi h1 hr
    refine z_iload_n (q := 30) rfl rfl rfl ?_
    refine z_bipush (q := 32) (v := 20) rfl rfl rfl ?_
    refine z_ic_gt (q := 35) rfl rfl (fun h32 => ?_) (fun h32 => ?_)
    · exact absurd (show nI 20 < nI i from h32) (nI_nlt (by omega) (by omega))
    · refine z_aload_n (q := 36) rfl rfl rfl ?_
      refine z_getR (q := 39) rfl rfl rfl (X_k w) (X_r4 w) ?_
      refine z_aload_n (q := 40) rfl rfl rfl ?_
      refine z_getR (q := 43) rfl rfl rfl (X_k w) (X_r2 w) ?_
      refine z_iconst (q := 44) (v := 2) rfl rfl rfl ?_
      refine z_iload_n (q := 45) rfl rfl rfl ?_
      refine z_iconst (q := 46) (v := -1) rfl rfl rfl ?_
      refine z_cv4i (q := 49) rfl rfl rfl (St_k (X_w4 w)) (q_St_stepsOnT (X_w4 w) (X_w2 w) (Or.inl (by omega)) hDe hD rfl hC hd hc (hva i q (by omega))) ?_
      refine z_istore (q := 51) (L2 := [_, _, _, _, _]) rfl rfl rfl rfl ?_
      refine z_iload (q := 53) rfl rfl rfl ?_
      refine z_iload_n (q := 54) rfl rfl rfl ?_
      refine z_ic_ge (q := 57) rfl rfl (fun h54 => ?_) (fun h54 => ?_)
      · refine z_iinc (q := 65) (L2 := [_, _, _, _, _]) rfl rfl rfl rfl ?_
        refine z_goto rfl ?_
        rw [show nI i + Int32.ofInt 1 = nI (i + 1) from (nI_succ i).symm]
        rw [cuF_s] at hr
        first
          | (have g1 : m ≤ (fo (plG (nI c) 2 (nI i) c K A B E (-1)) (bgQ (ownR c) q) D).2.2.2.2.2.2 := h54
             rw [if_pos g1] at hr
             exact ih (i + 1) b m _ b1 q1 _ (by omega) (by omega) hr)
          | (have g1 : ¬ m ≤ (fo (plG (nI c) 2 (nI i) c K A B E (-1)) (bgQ (ownR c) q) D).2.2.2.2.2.2 := h54
             rw [if_neg g1] at hr
             exact ih (i + 1) _ _ _ b1 q1 _ (by omega) (by omega) hr)
      · refine z_iload (q := 59) rfl rfl rfl ?_
        refine z_istore_n (q := 60) (L2 := [_, _, _, _, _]) rfl rfl rfl rfl ?_
        refine z_iload_n (q := 61) rfl rfl rfl ?_
        refine z_istore_n (q := 62) (L2 := [_, _, _, _, _]) rfl rfl rfl rfl ?_
        refine z_iinc (q := 65) (L2 := [_, _, _, _, _]) rfl rfl rfl rfl ?_
        refine z_goto rfl ?_
        rw [show nI i + Int32.ofInt 1 = nI (i + 1) from (nI_succ i).symm]
        rw [cuF_s] at hr
        first
          | (have g1 : m ≤ (fo (plG (nI c) 2 (nI i) c K A B E (-1)) (bgQ (ownR c) q) D).2.2.2.2.2.2 := h54
             rw [if_pos g1] at hr
             exact ih (i + 1) b m _ b1 q1 _ (by omega) (by omega) hr)
          | (have g1 : ¬ m ≤ (fo (plG (nI c) 2 (nI i) c K A B E (-1)) (bgQ (ownR c) q) D).2.2.2.2.2.2 := h54
             rw [if_neg g1] at hr
             exact ih (i + 1) _ _ _ b1 q1 _ (by omega) (by omega) hr)
theorem q_X_cut {sc : Option (Nat × Nat × (Nat → Int32))} {sa : Nat → Nat} {d : Nat} {M : mz_M} {z : Nat × Nat} {x p r : Nat} {s0 l0 t0 : Int32} {q : sQ} (w : g_X M.2.2 x p r) (hx : x + 10 ≤ p) {c : Nat} (hc : M.1 (p + 1) 5 = nI c) (hC : c ≤ 12) {D : Nat} (hDe : M.1 p 10 = nI D) (hD : D ≤ 60) {K A B E : Nat → Nat} (hd : ∀ i, i < D → M.1 (p + 8) i = nI (K i) ∧ M.1 (p + 9) i = nI (A i) ∧ M.1 (p + 10) i = nI (B i) ∧ M.1 (p + 11) i = nI (E i)) (hva : ∀ i q, i ≤ 20 → plV (nI c) 2 (nI i) c 40 K A B E (-1) (bgQ (ownR c) q) D) (h1 : 0 < c)  : zx sc sa (d + 7) 141 [.ref x] (shQ M (x + 4) s0 l0 t0 q) z z (some (.int (cuF c D K A B E 20 1 0 (fo (plG (nI c) 2 (nI 0) c K A B E (-1)) (bgQ (ownR c) q) D).2.2.2.2.2.2 (fo (plG (nI c) 2 (nI 0) c K A B E (-1)) (bgQ (ownR c) q) D)).1)) (shQ M (x + 4) (nI c) 2 (nI 20) (cuF c D K A B E 20 1 0 (fo (plG (nI c) 2 (nI 0) c K A B E (-1)) (bgQ (ownR c) q) D).2.2.2.2.2.2 (fo (plG (nI c) 2 (nI 0) c K A B E (-1)) (bgQ (ownR c) q) D)).2) := by
  refine zxin ym_X_cut [.ref x, .retAddr 0, .retAddr 0, .retAddr 0, .retAddr 0] rfl rfl rfl rfl ?_
  refine z_aload_n (q := 1) rfl rfl rfl ?_
  refine z_cv0i (q := 4) rfl rfl rfl (X_k w) (t_X_thereT w hx hc hC h1) ?_
  refine z_if_ne (q := 7) rfl rfl (fun h4 => ?_) (fun h4 => ?_)
  · refine z_iconst (q := 11) (v := 0) rfl rfl rfl ?_
    refine z_istore_n (q := 12) (L2 := [_, _, _, _, _]) rfl rfl rfl rfl ?_
    refine z_aload_n (q := 13) rfl rfl rfl ?_
    refine z_getR (q := 16) rfl rfl rfl (X_k w) (X_r4 w) ?_
    refine z_aload_n (q := 17) rfl rfl rfl ?_
    refine z_getR (q := 20) rfl rfl rfl (X_k w) (X_r2 w) ?_
    refine z_iconst (q := 21) (v := 2) rfl rfl rfl ?_
    refine z_iconst (q := 22) (v := 0) rfl rfl rfl ?_
    refine z_iconst (q := 23) (v := -1) rfl rfl rfl ?_
    refine z_cv4i (q := 26) rfl rfl rfl (St_k (X_w4 w)) (q_St_stepsOnT (X_w4 w) (X_w2 w) (Or.inl (by omega)) hDe hD rfl hC hd hc (hva 0 q (by omega))) ?_
    refine z_istore_n (q := 27) (L2 := [_, _, _, _, _]) rfl rfl rfl rfl ?_
    refine z_iconst (q := 28) (v := 1) rfl rfl rfl ?_
    refine z_istore_n (q := 29) (L2 := [_, _, _, _, _]) rfl rfl rfl rfl ?_
    exact l_X_cut w hx hc hC hDe hD hd hva 20 1 0 _ _ _ _ _ (by omega) (by omega) rfl
  · exact absurd h4 (by decide)
theorem t_X_deedT {sc : Option (Nat × Nat × (Nat → Int32))} {sa : Nat → Nat} {d : Nat} {M : mz_M} {z : Nat × Nat} {x p r : Nat} {s0 l0 t0 : Int32} {q : sQ} (w : g_X M.2.2 x p r) (hx : x + 10 ≤ p) {c : Nat} (hc : M.1 (p + 1) 5 = nI c) (hC : c ≤ 12) {D : Nat} (hDe : M.1 p 10 = nI D) (hD : D ≤ 60) {j : Nat} (hj : j < D) : zx sc sa (d + 1) 70 [.ref p, .int (nI j)] (shQ M (x + 4) s0 l0 t0 q) z z (some (.int 1)) (shQ M (x + 4) s0 l0 t0 q) := s_St_hasDeed1 (M := (shQ M (x + 4) s0 l0 t0 q)) (X_w4 w) (by rw [trQ_o (by omega)]; exact hDe) hD hj
theorem t_X_noneT {sc : Option (Nat × Nat × (Nat → Int32))} {sa : Nat → Nat} {d : Nat} {M : mz_M} {z : Nat × Nat} {x p r : Nat} {s0 l0 t0 : Int32} {q : sQ} (w : g_X M.2.2 x p r) (hx : x + 10 ≤ p) {c : Nat} (hc : M.1 (p + 1) 5 = nI c) (hC : c ≤ 12) {D : Nat} (hDe : M.1 p 10 = nI D) (hD : D ≤ 60) {j : Nat} (hj : j < D) (hk : M.1 (p + 8) j = 1 ∨ M.1 (p + 8) j = 4 ∨ M.1 (p + 8) j = 5) : zx sc sa (d + 2) 71 [.ref p, .int (nI j)] (shQ M (x + 4) s0 l0 t0 q) z z (some (.int 1)) (shQ M (x + 4) s0 l0 t0 q) := by
  have e := @s_St_makesNone sc sa d (shQ M (x + 4) s0 l0 t0 q) z p (X_w4 w) D (by rw [trQ_o (by omega)]; exact hDe) hD j hj
  rw [trQ_o (show x + 10 ≤ p + 8 by omega), bz_t hk] at e
  exact e
theorem q_X_without {sc : Option (Nat × Nat × (Nat → Int32))} {sa : Nat → Nat} {d : Nat} {M : mz_M} {z : Nat × Nat} {x p r : Nat} {s0 l0 t0 : Int32} {q : sQ} (w : g_X M.2.2 x p r) (hx : x + 10 ≤ p) {c : Nat} (hc : M.1 (p + 1) 5 = nI c) (hC : c ≤ 12) {D : Nat} (hDe : M.1 p 10 = nI D) (hD : D ≤ 60) {K A B E : Nat → Nat} (hd : ∀ i, i < D → M.1 (p + 8) i = nI (K i) ∧ M.1 (p + 9) i = nI (A i) ∧ M.1 (p + 10) i = nI (B i) ∧ M.1 (p + 11) i = nI (E i)) {j : Nat} (hj : j < D) (hk : M.1 (p + 8) j = 1 ∨ M.1 (p + 8) j = 4 ∨ M.1 (p + 8) j = 5) (hv : plV (nI c) (M.1 (p + 1) 6) (M.1 (p + 1) 7) c 40 K A B E (nI j) (bgQ (ownR c) q) D) : zx sc sa (d + 7) 142 [.ref x, .int (nI j)] (shQ M (x + 4) s0 l0 t0 q) z z (some (.int (fo (plG (nI c) (M.1 (p + 1) 6) (M.1 (p + 1) 7) c K A B E (nI j)) (bgQ (ownR c) q) D).2.2.2.2.2.2)) (shQ M (x + 4) (nI c) (M.1 (p + 1) 6) (M.1 (p + 1) 7) (fo (plG (nI c) (M.1 (p + 1) 6) (M.1 (p + 1) 7) c K A B E (nI j)) (bgQ (ownR c) q) D)) := by
  have oH_g7 : ∀ {s0 l0 t0 : Int32} {q : sQ}, (shQ M (x + 4) s0 l0 t0 q).1 (p + 1) 7 = M.1 (p + 1) 7 := fun {s0 l0 t0 q} => congrFun (trQ_o (by omega)) 7
  have oH_g6 : ∀ {s0 l0 t0 : Int32} {q : sQ}, (shQ M (x + 4) s0 l0 t0 q).1 (p + 1) 6 = M.1 (p + 1) 6 := fun {s0 l0 t0 q} => congrFun (trQ_o (by omega)) 6
  refine zxin ym_X_without [.ref x, .int (nI j)] rfl rfl rfl rfl ?_
  refine z_aload_n (q := 1) rfl rfl rfl ?_
  refine z_getR (q := 4) rfl rfl rfl (X_k w) (X_r4 w) ?_
  refine z_iload_n (q := 5) rfl rfl rfl ?_
  refine z_cv1i (q := 8) rfl rfl rfl (St_k (X_w4 w)) (t_X_deedT w hx hc hC hDe hD hj) ?_
  refine z_if_eq (q := 11) rfl rfl (fun h8 => ?_) (fun h8 => ?_)
  · exact absurd h8 (by decide)
  · refine z_aload_n (q := 12) rfl rfl rfl ?_
    refine z_getR (q := 15) rfl rfl rfl (X_k w) (X_r4 w) ?_
    refine z_iload_n (q := 16) rfl rfl rfl ?_
    refine z_cv1i (q := 19) rfl rfl rfl (St_k (X_w4 w)) (t_X_noneT w hx hc hC hDe hD hj hk) ?_
    refine z_if_ne (q := 22) rfl rfl (fun h19 => ?_) (fun h19 => ?_)
    · refine z_aload_n (q := 26) rfl rfl rfl ?_
      refine z_getR (q := 29) rfl rfl rfl (X_k w) (X_r4 w) ?_
      refine z_aload_n (q := 30) rfl rfl rfl ?_
      refine z_getR (q := 33) rfl rfl rfl (X_k w) (X_r2 w) ?_
      refine z_aload_n (q := 34) rfl rfl rfl ?_
      refine z_getR (q := 37) rfl rfl rfl (X_k w) (X_r4 w) ?_
      refine z_getR (q := 40) rfl rfl rfl (St_k (X_w4 w)) (St_r0 (X_w4 w)) ?_
      refine z_getI (q := 43) rfl rfl rfl (Sh_k (St_w0 (X_w4 w))) ?_
      rw [oH_g6]
      refine z_aload_n (q := 44) rfl rfl rfl ?_
      refine z_getR (q := 47) rfl rfl rfl (X_k w) (X_r4 w) ?_
      refine z_getR (q := 50) rfl rfl rfl (St_k (X_w4 w)) (St_r0 (X_w4 w)) ?_
      refine z_getI (q := 53) rfl rfl rfl (Sh_k (St_w0 (X_w4 w))) ?_
      rw [oH_g7]
      refine z_iload_n (q := 54) rfl rfl rfl ?_
      refine z_cv4i (q := 57) rfl rfl rfl (St_k (X_w4 w)) (q_St_stepsOnT (X_w4 w) (X_w2 w) (Or.inl (by omega)) hDe hD rfl hC hd hc hv) ?_
      refine z_ireti rfl rfl ?_
      exact ⟨rfl, rfl⟩
    · exact absurd h19 (by decide)
