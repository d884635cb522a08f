theorem i_dec (x : Int32) : x + Int32.ofInt (-1) = x - 1 := by
  have h : Int32.ofInt (-1) = -1 := by decide
  rw [h, Int32.sub_eq_add_neg]
-- the way's places, one behind the other
def pt (f : Nat → Int32) (v : Nat) : Nat → Nat
  | 0 => v
  | i + 1 => (f (pt f v i)).toNatClampNeg
theorem pt_ok {f : Nat → Int32} {n v : Nat} (hf : acy f n) (hn : n < 2 ^ 31) (hv : v < n) : ∀ i, i ≤ wl f n v → pt f v i < n ∧ wl f n (pt f v i) + i = wl f n v := by
  intro i
  induction i with
  | zero => intro _; exact ⟨hv, rfl⟩
  | succ i ih =>
    intro hi
    obtain ⟨h1, h2⟩ := ih (by omega)
    have e1 : ¬ f (pt f v i) = -1 := fun e => by
      rw [(wl_0 hf hn h1).mpr e] at h2
      omega
    have e2 := okl_nx hf.1 hn h1 e1
    have e3 := wl_rec hf hn h1
    rw [if_neg e1] at e3
    exact ⟨e2.1, by show wl f n (f (pt f v i)).toNatClampNeg + (i + 1) = _; omega⟩
theorem pt_nx {f : Nat → Int32} {n v : Nat} (hf : acy f n) (hn : n < 2 ^ 31) (hv : v < n) {i : Nat} (hi : i < wl f n v) : ¬ f (pt f v i) = -1 ∧ f (pt f v i) = nI (pt f v (i + 1)) := by
  obtain ⟨h1, h2⟩ := pt_ok hf hn hv i (by omega)
  have e1 : ¬ f (pt f v i) = -1 := fun e => by
    rw [(wl_0 hf hn h1).mpr e] at h2
    omega
  exact ⟨e1, (okl_nx hf.1 hn h1 e1).2⟩
theorem pt_end {f : Nat → Int32} {n v : Nat} (hf : acy f n) (hn : n < 2 ^ 31) (hv : v < n) : f (pt f v (wl f n v)) = -1 := by
  obtain ⟨h1, h2⟩ := pt_ok hf hn hv _ (Nat.le_refl _)
  exact (wl_0 hf hn h1).mp (by omega)
theorem pt_inj {f : Nat → Int32} {n v : Nat} (hf : acy f n) (hn : n < 2 ^ 31) (hv : v < n) {i j : Nat} (hi : i ≤ wl f n v) (hj : j ≤ wl f n v) (e : pt f v i = pt f v j) : i = j := by
  have h1 := (pt_ok hf hn hv i hi).2
  have h2 := (pt_ok hf hn hv j hj).2
  rw [e] at h1
  omega
-- turning, the last link first
def tn1 (P : Nat → Nat) (i : Nat) (x : (Nat → Int32) × (Nat → Int32)) : (Nat → Int32) × (Nat → Int32) := (va_up (va_up x.1 (P i) (-1)) (P (i + 1)) (nI (P i)), va_up (va_up x.2 (P i) (-1)) (P (i + 1)) (x.2 (P i)))
def tnP (P : Nat → Nat) : Nat → (Nat → Int32) × (Nat → Int32) → (Nat → Int32) × (Nat → Int32)
  | 0, x => x
  | i + 1, x => tnP P i (tn1 P i x)
theorem tnP_l (P : Nat → Nat) : ∀ k x, tnP P (k + 1) x = tn1 P 0 (tnP (fun i => P (i + 1)) k x) := by
  intro k
  induction k with
  | zero => intro x; rfl
  | succ k ih =>
    intro x
    show tnP P (k + 1) (tn1 P (k + 1) x) = tn1 P 0 (tnP (fun i => P (i + 1)) k (tn1 (fun i => P (i + 1)) k x))
    rw [ih]
    rfl
theorem tnP_o (P : Nat → Nat) {v : Nat} {b bc : Int32} : ∀ k x, (∀ i, i ≤ k → P i ≠ v) → tnP P k (va_up x.1 v b, va_up x.2 v bc) = (va_up (tnP P k x).1 v b, va_up (tnP P k x).2 v bc) := by
  intro k
  induction k with
  | zero => intro x _; rfl
  | succ k ih =>
    intro x h
    show tnP P k (tn1 P k (va_up x.1 v b, va_up x.2 v bc)) = (va_up (tnP P k (tn1 P k x)).1 v b, va_up (tnP P k (tn1 P k x)).2 v bc)
    rw [← ih _ (fun i hi => h i (by omega))]
    have h1 := h k (by omega)
    have h2 := h (k + 1) (by omega)
    refine congrArg (tnP P k) ?_
    show (va_up (va_up (va_up x.1 v b) (P k) (-1)) (P (k + 1)) (nI (P k)), va_up (va_up (va_up x.2 v bc) (P k) (-1)) (P (k + 1)) (va_up x.2 v bc (P k))) = (va_up (va_up (va_up x.1 (P k) (-1)) (P (k + 1)) (nI (P k))) v b, va_up (va_up (va_up x.2 (P k) (-1)) (P (k + 1)) (x.2 (P k))) v bc)
    rw [up_n h1, up_c (k := v) (l := P k) (Ne.symm h1), up_c (k := v) (l := P (k + 1)) (Ne.symm h2), up_c (f := x.2) (k := v) (l := P k) (Ne.symm h1), up_c (k := v) (l := P (k + 1)) (Ne.symm h2)]
theorem tnP_at (P : Nat → Nat) {v : Nat} : ∀ k x, (∀ i, i ≤ k → P i ≠ v) → (tnP P k x).2 v = x.2 v ∧ (tnP P k x).1 v = x.1 v := by
  intro k
  induction k with
  | zero => intro x _; exact ⟨rfl, rfl⟩
  | succ k ih =>
    intro x h
    have h1 := h k (by omega)
    have h2 := h (k + 1) (by omega)
    have e := ih (tn1 P k x) (fun i hi => h i (by omega))
    refine ⟨e.1.trans ?_, e.2.trans ?_⟩
    · show va_up (va_up x.2 (P k) (-1)) (P (k + 1)) (x.2 (P k)) v = x.2 v
      rw [up_n (Ne.symm h2), up_n (Ne.symm h1)]
    · show va_up (va_up x.1 (P k) (-1)) (P (k + 1)) (nI (P k)) v = x.1 v
      rw [up_n (Ne.symm h2), up_n (Ne.symm h1)]
theorem tw_tn : ∀ (L k : Nat) (P : Nat → Nat) (f g : Nat → Int32) (b bc : Int32), L < k → (∀ i, i ≤ L → P i < 2 ^ 31) → (∀ i j, i ≤ L → j ≤ L → P i = P j → i = j) → (∀ i, i < L → f (P i) = nI (P (i + 1))) → f (P L) = -1 → twF k (nI (P 0)) b bc f g = (va_up (tnP P L (f, g)).1 (P 0) b, va_up (tnP P L (f, g)).2 (P 0) bc) := by
  intro L
  induction L with
  | zero =>
    intro k P f g b bc hk hb _ _ he
    obtain ⟨k, rfl⟩ : ∃ j, k = j + 1 := ⟨k - 1, by omega⟩
    have h0 := hb 0 (by omega)
    show (if nI (P 0) = -1 then (f, g) else twF k (f (nI (P 0)).toNatClampNeg) (nI (P 0)) (g (nI (P 0)).toNatClampNeg) (va_up f (nI (P 0)).toNatClampNeg b) (va_up g (nI (P 0)).toNatClampNeg bc)) = _
    rw [if_neg (nI_m1 h0), nI_clamp h0, he]
    cases k with
    | zero => rfl
    | succ k =>
      show (if (-1 : Int32) = -1 then (va_up f (P 0) b, va_up g (P 0) bc) else _) = _
      rw [if_pos rfl]
      rfl
  | succ L ih =>
    intro k P f g b bc hk hb hi hs he
    obtain ⟨k, rfl⟩ : ∃ j, k = j + 1 := ⟨k - 1, by omega⟩
    have h0 := hb 0 (by omega)
    have hne : ∀ i, i ≤ L → P (i + 1) ≠ P 0 := fun i h e => by
      have := hi (i + 1) 0 (by omega) (by omega) e
      omega
    show (if nI (P 0) = -1 then (f, g) else twF k (f (nI (P 0)).toNatClampNeg) (nI (P 0)) (g (nI (P 0)).toNatClampNeg) (va_up f (nI (P 0)).toNatClampNeg b) (va_up g (nI (P 0)).toNatClampNeg bc)) = _
    rw [if_neg (nI_m1 h0), nI_clamp h0, hs 0 (by omega)]
    have e1 := ih k (fun i => P (i + 1)) (va_up f (P 0) b) (va_up g (P 0) bc) (nI (P 0)) (g (P 0)) (by omega) (fun i h => hb (i + 1) (by omega)) (fun i j h1 h2 e => by
      have := hi (i + 1) (j + 1) (by omega) (by omega) e
      omega) (fun i h => by
        show va_up f (P 0) b (P (i + 1)) = _
        rw [up_n (hne i (by omega))]
        exact hs (i + 1) (by omega)) (by
        show va_up f (P 0) b (P (L + 1)) = -1
        rw [up_n (hne L (by omega))]
        exact he)
    rw [e1]
    have e2 := @tnP_o (fun i => P (i + 1)) (P 0) b bc L (f, g) hne
    have e3 := (@tnP_at (fun i => P (i + 1)) (P 0) L (f, g) hne).1
    rw [tnP_l]
    have e2' : tnP (fun i => P (i + 1)) L (va_up f (P 0) b, va_up g (P 0) bc) = (va_up (tnP (fun i => P (i + 1)) L (f, g)).1 (P 0) b, va_up (tnP (fun i => P (i + 1)) L (f, g)).2 (P 0) bc) := e2
    rw [e2']
    generalize tnP (fun i => P (i + 1)) L (f, g) = X at e3 ⊢
    have h1 : P (0 + 1) ≠ P 0 := hne 0 (by omega)
    show (va_up (va_up X.1 (P 0) b) (P (0 + 1)) (nI (P 0)), va_up (va_up X.2 (P 0) bc) (P (0 + 1)) (g (P 0))) = (va_up (va_up (va_up X.1 (P 0) (-1)) (P (0 + 1)) (nI (P 0))) (P 0) b, va_up (va_up (va_up X.2 (P 0) (-1)) (P (0 + 1)) (X.2 (P 0))) (P 0) bc)
    rw [up_c (k := P (0 + 1)) (l := P 0) h1, up_u, up_c (f := va_up X.2 (P 0) (-1)) (k := P (0 + 1)) (l := P 0) h1, up_u, show X.2 (P 0) = g (P 0) from e3]
theorem tw_pt {f g : Nat → Int32} {n v : Nat} (hf : acy f n) (hn : n < 2 ^ 31) (hv : v < n) : twF n (nI v) (-1) (-1) f g = (va_up (tnP (pt f v) (wl f n v) (f, g)).1 v (-1), va_up (tnP (pt f v) (wl f n v) (f, g)).2 v (-1)) :=
  tw_tn (wl f n v) n (pt f v) f g (-1) (-1) (wl_lt hf hn n hv) (fun i hi => by have := (pt_ok hf hn hv i hi).1; omega) (fun i j hi hj e => pt_inj hf hn hv hi hj e) (fun i hi => (pt_nx hf hn hv hi).2) (pt_end hf hn hv)
def tnA (P : Nat → Nat) : Nat → (Nat → Nat → Int32) → Nat → Nat → Int32
  | 0, A => A
  | i + 1, A => tnA P i (lkA (stA A (P i)) (P (i + 1)) (nI (P i)) (A 9 (P i)).toNatClampNeg)
theorem l_Mo_turns1 {sc : Option (Nat × Nat × (Nat → Int32))} {sa : Nat → Nat} {d : Nat} {M : mz_M} {z : Nat × Nat} {m : Nat} (w : g_Mo M.2.2 m) {F : Nat → Int32} {A : Nat → Nat → Int32} {n : Nat} (hf : acy (A 8) n) (hn : n ≤ 201) {v : Nat} (hv : v < n) {Q : mz_P} (hk : ∀ W, (∀ j, j < wl (A 8) n v → W j = nI (pt (A 8) v j)) → zw sc sa d ym_Mo_turns z Q 34 [.ref m, .int (nI v), .int (nI (wl (A 8) n v)), .int (nI (pt (A 8) v (wl (A 8) n v))), .retAddr 0, .retAddr 0, .retAddr 0] [] (moF M m F (va_up A 11 W)) z) : ∀ (k : Nat) (i : Nat) (W : Nat → Int32), i + k = wl (A 8) n v → (∀ j, j < i → W j = nI (pt (A 8) v j)) → zw sc sa d ym_Mo_turns z Q 4 [.ref m, .int (nI v), .int (nI i), .int (nI (pt (A 8) v i)), .retAddr 0, .retAddr 0, .retAddr 0] [] (moF M m F (va_up A 11 W)) z := by
  intro k
  induction k with
  | zero =>
    intro i W hi hW
    have e1 : i = wl (A 8) n v := by omega
    subst e1
    have e2 := pt_end hf (by omega) hv
    have e3 := (pt_ok hf (by omega) hv _ (Nat.le_refl _)).1
    refine z_aload_n (q := 5) rfl rfl rfl ?_
    refine z_getR (q := 8) rfl rfl rfl (Mo_k w) (Mo_r10 w) ?_
    refine z_iload_n (q := 9) rfl rfl rfl ?_
    refine z_iald (q := 10) rfl rfl (Mo_a10 w) (by first | assumption | exact vp_in_nI (by omega) (by omega)) ?_
    rw [moF_a10]
    try rw [nI_clamp (by omega)]
    rw [show va_up A 11 W 8 = A 8 from rfl]
    refine z_iconst (q := 11) (v := -1) rfl rfl rfl ?_
    refine z_ic_eq (q := 14) rfl rfl (fun h11 => ?_) (fun h11 => ?_)
    · exact hk W hW
    · exact absurd e2 h11
  | succ k ih =>
    intro i W hi hW
    have e2 := pt_nx hf (by omega) hv (show i < wl (A 8) n v by omega)
    have e3 := (pt_ok hf (by omega) hv i (by omega)).1
    have e5 := wl_lt hf (by omega) n hv
    refine z_aload_n (q := 5) rfl rfl rfl ?_
    refine z_getR (q := 8) rfl rfl rfl (Mo_k w) (Mo_r10 w) ?_
    refine z_iload_n (q := 9) rfl rfl rfl ?_
    refine z_iald (q := 10) rfl rfl (Mo_a10 w) (by first | assumption | exact vp_in_nI (by omega) (by omega)) ?_
    rw [moF_a10]
    try rw [nI_clamp (by omega)]
    rw [show va_up A 11 W 8 = A 8 from rfl]
    refine z_iconst (q := 11) (v := -1) rfl rfl rfl ?_
    refine z_ic_eq (q := 14) rfl rfl (fun h11 => ?_) (fun h11 => ?_)
    · exact absurd h11 e2.1
    · refine z_aload_n (q := 15) rfl rfl rfl ?_
      refine z_getR (q := 18) rfl rfl rfl (Mo_k w) (Mo_r13 w) ?_
      refine z_iload_n (q := 19) rfl rfl rfl ?_
      refine z_iload_n (q := 20) rfl rfl rfl ?_
      refine z_iast (q := 21) rfl rfl (Mo_a13 w) (by first | assumption | exact vp_in_nI (by omega) (by omega)) ?_
      rw [moF_w13]
      try rw [nI_clamp (by omega)]
      refine z_iinc (q := 24) (L2 := [_, _, _, _, _, _, _]) rfl rfl rfl rfl ?_
      refine z_aload_n (q := 25) rfl rfl rfl ?_
      refine z_getR (q := 28) rfl rfl rfl (Mo_k w) (Mo_r10 w) ?_
      refine z_iload_n (q := 29) rfl rfl rfl ?_
      refine z_iald (q := 30) rfl rfl (Mo_a10 w) (by first | assumption | exact vp_in_nI (by omega) (by omega)) ?_
      rw [moF_a10]
      try rw [nI_clamp (by omega)]
      rw [show va_up (va_up A 11 W) 11 (va_up (va_up A 11 W 11) i (nI (pt (A 8) v i))) 8 = A 8 from rfl, e2.2]
      refine z_istore_n (q := 31) (L2 := [_, _, _, _, _, _, _]) rfl rfl rfl rfl ?_
      refine z_goto rfl ?_
      rw [show nI i + Int32.ofInt 1 = nI (i + 1) from (nI_succ i).symm]
      rw [show va_up (va_up A 11 W) 11 (va_up (va_up A 11 W 11) i (nI (pt (A 8) v i))) = va_up A 11 (va_up W i (nI (pt (A 8) v i))) from up_u]
      exact ih (i + 1) _ (by omega) (fun j hj => by
        by_cases h : j = i
        · rw [h, up_s]
        · rw [up_n h]; exact hW j (by omega))
theorem l_Mo_turns2 {sc : Option (Nat × Nat × (Nat → Int32))} {sa : Nat → Nat} {d : Nat} {M : mz_M} {z : Nat × Nat} {m : Nat} (w : g_Mo M.2.2 m) {F : Nat → Int32} {P : Nat → Nat} {K : Nat} (hK2 : K < 201) (hP : ∀ i, i ≤ K → P i < 201) (hi : ∀ i j, i ≤ K → j ≤ K → P i = P j → i = j) {Q : mz_P} {x1 x2 : Int32}  : ∀ (k : Nat) (i : Nat) (p : Int32) (B : Nat → Nat → Int32) (x4 x5 x6 : Value), i = k → i ≤ K → (∀ j, j < i → B 11 j = nI (P j)) → (∀ j, j < i → B 8 (P j) = nI (P (j + 1))) → (∀ j, j < i → ∃ c, c < 12 ∧ B 9 (P j) = nI c) → Q none (moF M m (va_up F 17 (p + nI i)) (tnA P i B)) → zw sc sa (d + 2) ym_Mo_turns z Q 38 [.ref m, .int x1, .int x2, .int (nI i - 1), x4, x5, x6] [] (moF M m (va_up F 17 p) B) z := by
  intro k
  induction k with
  | zero =>
    intro i p B x4 x5 x6 hk hK hb1 hb2 hb3 hQ
    subst hk
    refine z_iload_n (q := 39) rfl rfl rfl ?_
    refine z_if_lt (q := 42) rfl rfl (fun h39 => ?_) (fun h39 => ?_)
    · refine z_ret rfl rfl ?_
      rw [show p + nI 0 = p from Int32.add_zero p] at hQ
      exact hQ
    · exact absurd (by decide) h39
  | succ k ih =>
    intro i p B x4 x5 x6 hk hK hb1 hb2 hb3 hQ
    subst hk
    rw [nI_pred]
    have e0 := hP k (by omega)
    have e1 := hP (k + 1) hK
    have e2 := hb1 k (by omega)
    have e3 := hb2 k (by omega)
    obtain ⟨c, hc, e4⟩ := hb3 k (by omega)
    refine z_iload_n (q := 39) rfl rfl rfl ?_
    refine z_if_lt (q := 42) rfl rfl (fun h39 => ?_) (fun h39 => ?_)
    · exact absurd h39 (nI_pos (by omega))
    · refine z_aload_n (q := 43) rfl rfl rfl ?_
      refine z_getR (q := 46) rfl rfl rfl (Mo_k w) (Mo_r13 w) ?_
      refine z_iload_n (q := 47) rfl rfl rfl ?_
      refine z_iald (q := 48) rfl rfl (Mo_a13 w) (by first | assumption | exact vp_in_nI (by omega) (by omega)) ?_
      rw [moF_a13]
      try rw [nI_clamp (by omega)]
      rw [e2]
      refine z_istore (q := 50) (L2 := [_, _, _, _, _, _, _]) rfl rfl rfl rfl ?_
      refine z_aload_n (q := 51) rfl rfl rfl ?_
      refine z_getR (q := 54) rfl rfl rfl (Mo_k w) (Mo_r10 w) ?_
      refine z_iload (q := 56) rfl rfl rfl ?_
      refine z_iald (q := 57) rfl rfl (Mo_a10 w) (by first | assumption | exact vp_in_nI (by omega) (by omega)) ?_
      rw [moF_a10]
      try rw [nI_clamp (by omega)]
      rw [e3]
      refine z_istore (q := 59) (L2 := [_, _, _, _, _, _, _]) rfl rfl rfl rfl ?_
      refine z_aload_n (q := 60) rfl rfl rfl ?_
      refine z_getR (q := 63) rfl rfl rfl (Mo_k w) (Mo_r11 w) ?_
      refine z_iload (q := 65) rfl rfl rfl ?_
      refine z_iald (q := 66) rfl rfl (Mo_a11 w) (by first | assumption | exact vp_in_nI (by omega) (by omega)) ?_
      rw [moF_a11]
      try rw [nI_clamp (by omega)]
      rw [e4]
      refine z_istore (q := 68) (L2 := [_, _, _, _, _, _, _]) rfl rfl rfl rfl ?_
      refine z_aload_n (q := 69) rfl rfl rfl ?_
      refine z_iload (q := 71) rfl rfl rfl ?_
      refine z_cv1v (q := 74) rfl rfl rfl (Mo_k w) (s_Mo_straight w e0) ?_
      refine z_aload_n (q := 75) rfl rfl rfl ?_
      refine z_iload (q := 77) rfl rfl rfl ?_
      refine z_iload (q := 79) rfl rfl rfl ?_
      refine z_iload (q := 81) rfl rfl rfl ?_
      refine z_cv3v (q := 84) rfl rfl rfl (Mo_k w) (s_Mo_links w e1 hc) ?_
      refine z_aload_n (q := 85) rfl rfl rfl ?_
      refine z_dup (q := 86) rfl rfl rfl ?_
      refine z_getI (q := 89) rfl rfl rfl (Mo_k w) ?_
      rw [moF_g17]
      rw [show va_up F 17 p 17 = p from rfl]
      refine z_iconst (q := 90) (v := 1) rfl rfl rfl ?_
      refine z_iadd (q := 91) rfl rfl ?_
      refine z_putI (q := 94) rfl rfl rfl (by decide) rfl rfl (Mo_k w) ?_
      rw [moF_u17]
      rw [up_u]
      refine z_iinc (q := 97) (L2 := [_, _, _, _, _, _, _]) rfl rfl rfl rfl ?_
      refine z_goto rfl ?_
      rw [i_dec]
      have g1 : ∀ j, j < k → P j ≠ P k := fun j hj e => by have := hi j k (by omega) (by omega) e; omega
      have g2 : ∀ j, j < k → P j ≠ P (k + 1) := fun j hj e => by have := hi j (k + 1) (by omega) (by omega) e; omega
      refine ih k (p + 1) (lkA (stA B (P k)) (P (k + 1)) (nI (P k)) c) _ _ _ rfl (by omega) (fun j hj => hb1 j (by omega)) (fun j hj => ?_) (fun j hj => ?_) ?_
      · show va_up (va_up (B 8) (P k) (-1)) (P (k + 1)) (nI (P k)) (P j) = _
        rw [up_n (g2 j hj), up_n (g1 j hj)]
        exact hb2 j (by omega)
      · obtain ⟨c', h1, h2⟩ := hb3 j (by omega)
        refine ⟨c', h1, ?_⟩
        show va_up (va_up (B 9) (P k) (-1)) (P (k + 1)) (nI c) (P j) = _
        rw [up_n (g2 j hj), up_n (g1 j hj)]
        exact h2
      · have h9 : Q none (moF M m (va_up F 17 (p + nI (k + 1))) (tnA P k (lkA (stA B (P k)) (P (k + 1)) (nI (P k)) (B 9 (P k)).toNatClampNeg))) := hQ
        rw [e4, nI_clamp (by omega), nI_succ, Int32.add_comm (nI k), ← Int32.add_assoc] at h9
        exact h9
theorem tnA_8 {P : Nat → Nat} : ∀ (k : Nat) (B : Nat → Nat → Int32), (∀ i j, i ≤ k → j ≤ k → P i = P j → i = j) → (∀ j, j < k → ∃ c, c < 12 ∧ B 9 (P j) = nI c) → (tnA P k B 8, tnA P k B 9) = tnP P k (B 8, B 9) := by
  intro k
  induction k with
  | zero => intro B _ _; rfl
  | succ k ih =>
    intro B hi hc
    obtain ⟨c, h1, h2⟩ := hc k (by omega)
    have e := ih (lkA (stA B (P k)) (P (k + 1)) (nI (P k)) (B 9 (P k)).toNatClampNeg) (fun i j a b => hi i j (by omega) (by omega)) (fun j hj => by
      obtain ⟨c', h3, h4⟩ := hc j (by omega)
      refine ⟨c', h3, ?_⟩
      show va_up (va_up (B 9) (P k) (-1)) (P (k + 1)) (nI (B 9 (P k)).toNatClampNeg) (P j) = _
      rw [up_n (fun e => by have := hi _ _ (by omega) (by omega) e; omega), up_n (fun e => by have := hi _ _ (by omega) (by omega) e; omega)]
      exact h4)
    refine e.trans ?_
    show tnP P k (va_up (va_up (B 8) (P k) (-1)) (P (k + 1)) (nI (P k)), va_up (va_up (B 9) (P k) (-1)) (P (k + 1)) (nI (B 9 (P k)).toNatClampNeg)) = tnP P k (va_up (va_up (B 8) (P k) (-1)) (P (k + 1)) (nI (P k)), va_up (va_up (B 9) (P k) (-1)) (P (k + 1)) (B 9 (P k)))
    rw [h2, nI_clamp (by omega)]
theorem tnA_o {P : Nat → Nat} {j : Nat} (h : j < 8 ∨ 10 < j) : ∀ (k : Nat) (B : Nat → Nat → Int32), tnA P k B j = B j := by
  intro k
  induction k with
  | zero => intro B; rfl
  | succ k ih =>
    intro B
    refine (ih _).trans ?_
    unfold lkA stA
    rw [up_n (by omega), up_n (by omega), up_n (by omega), up_n (by omega), up_n (by omega), up_n (by omega)]
-- the number beside a link is what its version has there
def lnA (A : Nat → Nat → Int32) (n : Nat) : Prop := ∀ v, v < n → A 10 v = if A 8 v = -1 then -1 else A 4 (12 * v + (A 9 v).toNatClampNeg)
theorem lnA_st {A : Nat → Nat → Int32} {n v : Nat} (h : lnA A n) : lnA (stA A v) n := by
  intro u hu
  show va_up (A 10) v (-1) u = if va_up (A 8) v (-1) u = -1 then -1 else A 4 (12 * u + (va_up (A 9) v (-1) u).toNatClampNeg)
  by_cases e : u = v
  · rw [e, up_s, up_s, if_pos rfl]
  · rw [up_n e, up_n e, up_n e]
    exact h u hu
theorem lnA_lk {A : Nat → Nat → Int32} {n v : Nat} {to c : Nat} (h : lnA A n) (ht : to < 2 ^ 31) (hc : c < 12) : lnA (lkA A v (nI to) c) n := by
  intro u hu
  show va_up (A 10) v (A 4 (12 * v + c)) u = if va_up (A 8) v (nI to) u = -1 then -1 else A 4 (12 * u + (va_up (A 9) v (nI c) u).toNatClampNeg)
  by_cases e : u = v
  · rw [e, up_s, up_s, up_s, if_neg (nI_m1 ht), nI_clamp (by omega)]
  · rw [up_n e, up_n e, up_n e]
    exact h u hu
theorem lnA_tn {P : Nat → Nat} {n : Nat} : ∀ (k : Nat) (B : Nat → Nat → Int32), (∀ i, i ≤ k → P i < 201) → (∀ i j, i ≤ k → j ≤ k → P i = P j → i = j) → (∀ j, j < k → ∃ c, c < 12 ∧ B 9 (P j) = nI c) → lnA B n → lnA (tnA P k B) n := by
  intro k
  induction k with
  | zero => intro B _ _ _ h; exact h
  | succ k ih =>
    intro B hp hi hc h
    obtain ⟨c, h1, h2⟩ := hc k (by omega)
    have e9 : (B 9 (P k)).toNatClampNeg = c := by rw [h2, nI_clamp (by omega)]
    show lnA (tnA P k (lkA (stA B (P k)) (P (k + 1)) (nI (P k)) (B 9 (P k)).toNatClampNeg)) n
    rw [e9]
    refine ih _ (fun i a => hp i (by omega)) (fun i j a b => hi i j (by omega) (by omega)) (fun j hj => ?_) (lnA_lk (lnA_st h) (by have := hp k (by omega); omega) h1)
    obtain ⟨c', h3, h4⟩ := hc j (by omega)
    refine ⟨c', h3, ?_⟩
    show va_up (va_up (B 9) (P k) (-1)) (P (k + 1)) (nI c) (P j) = _
    rw [up_n (fun e => by have := hi _ _ (by omega) (by omega) e; omega), up_n (fun e => by have := hi _ _ (by omega) (by omega) e; omega)]
    exact h4
-- what may change beside the links
def fr8 (A A' : Nat → Nat → Int32) : Prop := ∀ j, (j < 8 ∨ 11 < j) → A' j = A j
theorem fr8_r {A : Nat → Nat → Int32} : fr8 A A := fun _ _ => rfl
theorem fr8_t {A B C : Nat → Nat → Int32} (h : fr8 A B) (g : fr8 B C) : fr8 A C := fun j hj => (g j hj).trans (h j hj)
theorem fr8_st {A : Nat → Nat → Int32} {v : Nat} : fr8 A (stA A v) := fun j hj => by
  unfold stA
  rw [up_n (by omega), up_n (by omega), up_n (by omega)]
theorem fr8_lk {A : Nat → Nat → Int32} {v c : Nat} {to : Int32} : fr8 A (lkA A v to c) := fun j hj => by
  unfold lkA
  rw [up_n (by omega), up_n (by omega), up_n (by omega)]
-- a link leads by a cell
def lcA (f g : Nat → Int32) (c n : Nat) : Prop := ∀ v, v < n → (f v = -1 → g v = -1) ∧ (¬ f v = -1 → ∃ i, i < c ∧ g v = nI i)
theorem tn_dir {f g : Nat → Int32} {n v : Nat} (hf : acy f n) (hn : n < 2 ^ 31) (hv : v < n) (hg : f v = -1 → g v = -1) : (tnP (pt f v) (wl f n v) (f, g)).1 = va_up (tnP (pt f v) (wl f n v) (f, g)).1 v (-1) ∧ (tnP (pt f v) (wl f n v) (f, g)).2 = va_up (tnP (pt f v) (wl f n v) (f, g)).2 v (-1) := by
  have key : (tnP (pt f v) (wl f n v) (f, g)).1 v = -1 ∧ (tnP (pt f v) (wl f n v) (f, g)).2 v = -1 := by
    have h0 := fun e => pt_inj hf hn hv (i := 0) (j := 1) (Nat.zero_le _) e
    have hk : ∀ k, k = wl f n v → (tnP (pt f v) k (f, g)).1 v = -1 ∧ (tnP (pt f v) k (f, g)).2 v = -1 := by
      intro k e
      cases k with
      | zero =>
        have h1 := (wl_0 hf hn hv).mp e.symm
        exact ⟨h1, hg h1⟩
      | succ k =>
        rw [tnP_l]
        have h2 : pt f v 1 ≠ pt f v 0 := fun e2 => by
          have := pt_inj hf hn hv (i := 1) (j := 0) (by omega) (by omega) e2
          omega
        constructor
        · show va_up (va_up _ (pt f v 0) (-1)) (pt f v 1) _ (pt f v 0) = -1
          rw [up_n (Ne.symm h2), up_s]
        · show va_up (va_up _ (pt f v 0) (-1)) (pt f v 1) _ (pt f v 0) = -1
          rw [up_n (Ne.symm h2), up_s]
    exact hk _ rfl
  refine ⟨?_, ?_⟩
  · funext u
    by_cases e : u = v
    · rw [e, up_s]; exact key.1
    · rw [up_n e]
  · funext u
    by_cases e : u = v
    · rw [e, up_s]; exact key.2
    · rw [up_n e]
theorem c_Mo_turns {sc : Option (Nat × Nat × (Nat → Int32))} {sa : Nat → Nat} {d : Nat} {M : mz_M} {z : Nat × Nat} {m : Nat} (w : g_Mo M.2.2 m) {F : Nat → Int32} {A : Nat → Nat → Int32} {n : Nat} (hf : acy (A 8) n) (hn : n ≤ 201) {c N : Nat} (hc : lcA (A 8) (A 9) c n) (hC : c ≤ 12) {v : Nat} (hv : v < n) : zv sc sa (d + 3) 179 [.ref m, .int (nI v)] (moF M m F A) z (fun M' => ∃ A', M' = moF M m (va_up F 17 (F 17 + nI (wl (A 8) n v))) A' ∧ A' 8 = (twF n (nI v) (-1) (-1) (A 8) (A 9)).1 ∧ A' 9 = (twF n (nI v) (-1) (-1) (A 8) (A 9)).2 ∧ fr8 A A' ∧ (lnA A N → lnA A' N)) := by
  refine zin ym_Mo_turns [.ref m, .int (nI v), .retAddr 0, .retAddr 0, .retAddr 0, .retAddr 0, .retAddr 0] rfl rfl rfl rfl ?_
  refine z_iconst (q := 1) (v := 0) rfl rfl rfl ?_
  refine z_istore_n (q := 2) (L2 := [_, _, _, _, _, _, _]) rfl rfl rfl rfl ?_
  refine z_iload_n (q := 3) rfl rfl rfl ?_
  refine z_istore_n (q := 4) (L2 := [_, _, _, _, _, _, _]) rfl rfl rfl rfl ?_
  refine Eq.mp (congrArg (fun B => zw sc sa (d + 2) ym_Mo_turns z _ 4 [.ref m, .int (nI v), .int 0, .int (nI v), .retAddr 0, .retAddr 0, .retAddr 0] [] (moF M m F B) z) (up_e (f := A) (k := 11))) ?_
  refine l_Mo_turns1 w hf hn hv (fun W hW => ?_) _ 0 (A 11) (Nat.zero_add _) (fun j hj => absurd hj (Nat.not_lt_zero _))
  refine z_iload_n (q := 35) rfl rfl rfl ?_
  refine z_iconst (q := 36) (v := 1) rfl rfl rfl ?_
  refine z_isub (q := 37) rfl rfl ?_
  refine z_istore_n (q := 38) (L2 := [_, _, _, _, _, _, _]) rfl rfl rfl rfl ?_
  have h17 : moF M m F (va_up A 11 W) = moF M m (va_up F 17 (F 17)) (va_up A 11 W) := by rw [up_e]
  rw [h17]
  have k1 : ∀ i, i ≤ wl (A 8) n v → pt (A 8) v i < 201 := fun i hi => by have := (pt_ok hf (by omega) hv i hi).1; omega
  have k2 : ∀ i j, i ≤ wl (A 8) n v → j ≤ wl (A 8) n v → pt (A 8) v i = pt (A 8) v j → i = j := fun i j hi hj e => pt_inj hf (by omega) hv hi hj e
  have k3 : ∀ j, j < wl (A 8) n v → ∃ c', c' < 12 ∧ (va_up A 11 W) 9 (pt (A 8) v j) = nI c' := fun j hj => by
    obtain ⟨i, h1, h2⟩ := (hc _ (pt_ok hf (by omega) hv j (by omega)).1).2 (pt_nx hf (by omega) hv hj).1
    exact ⟨i, by omega, h2⟩
  refine l_Mo_turns2 w (by have := wl_lt hf (by omega) n hv; omega) k1 k2 (wl (A 8) n v) (wl (A 8) n v) (F 17) (va_up A 11 W) _ _ _ rfl (Nat.le_refl _) (fun j hj => hW j hj) (fun j hj => (pt_nx hf (by omega) hv hj).2) k3 ?_
  refine ⟨rfl, _, rfl, ?_, ?_, ?_, ?_⟩
  · have e1 := congrArg Prod.fst (tnA_8 (wl (A 8) n v) (va_up A 11 W) k2 k3)
    refine e1.trans ?_
    rw [tw_pt hf (by omega) hv]
    show (tnP (pt (A 8) v) (wl (A 8) n v) (A 8, A 9)).1 = va_up (tnP (pt (A 8) v) (wl (A 8) n v) (A 8, A 9)).1 v (-1)
    exact (tn_dir hf (by omega) hv (g := A 9) (fun h => (hc v hv).1 h)).1
  · have e1 := congrArg Prod.snd (tnA_8 (wl (A 8) n v) (va_up A 11 W) k2 k3)
    refine e1.trans ?_
    rw [tw_pt hf (by omega) hv]
    show (tnP (pt (A 8) v) (wl (A 8) n v) (A 8, A 9)).2 = va_up (tnP (pt (A 8) v) (wl (A 8) n v) (A 8, A 9)).2 v (-1)
    exact (tn_dir hf (by omega) hv (g := A 9) (fun h => (hc v hv).1 h)).2
  · intro j hj
    rw [tnA_o (by omega), up_n (by omega)]
  · intro h
    exact lnA_tn _ _ k1 k2 k3 h
