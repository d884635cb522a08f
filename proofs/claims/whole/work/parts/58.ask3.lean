theorem df_0 {fr row : Int64} : ∀ c, dfN fr row c = 0 → ∀ i, i < c → nmI fr (nI i) = nmI row (nI i) := by
  intro c
  induction c with
  | zero => intro _ i hi; exact absurd hi (Nat.not_lt_zero _)
  | succ c ih =>
    intro h i hi
    by_cases e : nmI fr (nI c) = nmI row (nI c)
    · rw [df_e e] at h
      by_cases ei : i = c
      · rw [ei]; exact e
      · exact ih h i (by omega)
    · rw [df_n e] at h
      omega
theorem df_s {fr : Int64} : ∀ c, dfN fr fr c = 0 := by
  intro c
  induction c with
  | zero => rfl
  | succ c ih => rw [df_e rfl]; exact ih
theorem df_b {fr row : Int64} (c : Nat) : dfN fr row c ≤ c := cn_le _ _
def qJ (c : Nat) (q : sQ) : Prop := ∀ u v, u < q.1 → v < q.1 → (∀ i, i < c → nmI (q.2.1 u) (nI i) = nmI (q.2.1 v) (nI i)) → q.2.1 u = q.2.1 v
theorem l_Mo_first {sc : Option (Nat × Nat × (Nat → Int32))} {sa : Nat → Nat} {d : Nat} {M : mz_M} {z : Nat × Nat} {m : Nat} (w : g_Mo M.2.2 m) {F : Nat → Int32} {A : Nat → Nat → Int32} {c : Nat} {q : sQ} (hv : mAv c A q) (hI : qI c q) (hC : c ≤ 12) (hs : A 1 0 = nI c) (hJ : qJ c q) {j : Nat} (hj : j < q.1) {r : Nat} : ∀ (k : Nat) (i : Nat), i + k = j → fi q.2.1 (q.2.1 j) k i = r → zw sc sa (d + 2) ym_Mo_first z (fun r' M' => r' = some (.int (nI r)) ∧ M' = (moF M m F A)) 13 [.ref m, .int (nI j), .int (nI i)] [] (moF M m F A) z := by
  intro k
  induction k with
  | zero =>
    intro i hi hr
    have e1 : i = j := by omega
    subst e1
    have e2 : i = r := hr
    subst e2
    have b2 := hI.2.1
    refine z_aload_n (q := 14) rfl rfl rfl ?_
    refine z_iload_n (q := 15) rfl rfl rfl ?_
    refine z_iload_n (q := 16) rfl rfl rfl ?_
    refine z_cv2i (q := 19) rfl rfl rfl (Mo_k w) (s_Mo_unlikeOf w hv hI hC hs (show i < q.1 by omega) hj) ?_
    rw [df_fo, df_s]
    refine z_if_le (q := 22) rfl rfl (fun h19 => ?_) (fun h19 => ?_)
    · refine z_iload_n (q := 29) rfl rfl rfl ?_
      refine z_ireti rfl rfl ?_
      exact ⟨rfl, rfl⟩
    · exact absurd (by decide) h19
  | succ k ih =>
    intro i hi hr
    have b2 := hI.2.1
    have db := @df_b (q.2.1 i) (q.2.1 j) c
    unfold fi at hr
    refine z_aload_n (q := 14) rfl rfl rfl ?_
    refine z_iload_n (q := 15) rfl rfl rfl ?_
    refine z_iload_n (q := 16) rfl rfl rfl ?_
    refine z_cv2i (q := 19) rfl rfl rfl (Mo_k w) (s_Mo_unlikeOf w hv hI hC hs (show i < q.1 by omega) hj) ?_
    rw [df_fo]
    refine z_if_le (q := 22) rfl rfl (fun h19 => ?_) (fun h19 => ?_)
    · refine z_iload_n (q := 29) rfl rfl rfl ?_
      refine z_ireti rfl rfl ?_
      have e0 : dfN (q.2.1 i) (q.2.1 j) c = 0 := by
        by_cases e : dfN (q.2.1 i) (q.2.1 j) c = 0
        · exact e
        · exact absurd h19 (nI_nle (by omega) (by omega))
      rw [if_pos (hJ i j (by omega) hj (df_0 c e0))] at hr
      rw [hr]
      exact ⟨rfl, rfl⟩
    · refine z_iinc (q := 25) (L2 := [_, _, _]) rfl rfl rfl rfl ?_
      refine z_goto rfl ?_
      rw [show nI i + Int32.ofInt 1 = nI (i + 1) from (nI_succ i).symm]
      have hne : ¬ q.2.1 i = q.2.1 j := fun e => by
        have e0 : dfN (q.2.1 i) (q.2.1 j) c = 0 := by rw [e]; exact df_s c
        rw [e0] at h19
        exact h19 (by decide)
      rw [if_neg hne] at hr
      exact ih (i + 1) (by omega) hr
theorem q_Mo_first {sc : Option (Nat × Nat × (Nat → Int32))} {sa : Nat → Nat} {d : Nat} {M : mz_M} {z : Nat × Nat} {m : Nat} (w : g_Mo M.2.2 m) {F : Nat → Int32} {A : Nat → Nat → Int32} {c N D : Nat} {l t : Int32} {K P1 P2 P3 : Nat → Nat} {q : sQ} (hX : mX c N D l t K P1 P2 P3 q A) (hJ : qJ c q) {a : Int32} : zi sc sa (d + 12) 225 [.ref m, .int a] (moF M m F A) z (mR M m F A (if vI q.1 a then nI (fi q.2.1 (q.2.1 a.toNatClampNeg) a.toNatClampNeg 0) else -2)) := by
  obtain ⟨⟨c1, c2, c3, c4, c5⟩, ⟨k1, k2, k3, k4, ln, k5, k6, k7⟩, hd, hv, he, hI, hV, hn⟩ := id hX
  have b1 := hI.1
  have b2 := hI.2.1
  refine zin ym_Mo_first [.ref m, .int a, .retAddr 0] rfl rfl rfl rfl ?_
  refine z_aload_n (q := 1) rfl rfl rfl ?_
  refine z_iload_n (q := 2) rfl rfl rfl ?_
  refine z_cv1qi (q := 5) rfl rfl rfl (Mo_k w) (q_Mo_isVersion w hX) (fun x9 M9 h9 => ?_)
  obtain ⟨rfl, FF, AA, rfl, ww⟩ := h9
  refine z_if_ne (q := 8) rfl rfl (fun h5 => ?_) (fun h5 => ?_)
  · refine z_iconst (q := 12) (v := 0) rfl rfl rfl ?_
    obtain ⟨j, hj, rfl⟩ := vI_nat (by omega) (bz_n.mp h5)
    refine z_istore_n (q := 13) (L2 := [_, _, _]) rfl rfl rfl rfl ?_
    refine mz_wp_m (mz_Kd_m sc sa _) ?_ (l_Mo_first (d := d + 9) w ww.2.2.1 hI c1 ((congrFun (ww.2.1.2.2.2 1 (by omega)) 0).trans k1) hJ hj j 0 (by omega) rfl)
    intro r9 M9 h
    rw [h.1, h.2]
    exact qz_t (bz_n.mp h5) (by rw [nI_clamp (show j < 2 ^ 31 by omega)]) ⟨FF, AA, rfl, mPe_w ww⟩
  · refine z_bipush (q := 10) (v := -2) rfl rfl rfl ?_
    refine z_ireti rfl rfl ?_
    exact qz_f (bz_0.mp h5) ⟨FF, AA, rfl, mPe_w ww⟩
def bkP (f : Nat → Int32) : Nat → Nat → Nat → Prop
  | 0, u, m => u = m
  | k + 1, u, m => 0 < u ∧ u ≠ m ∧ bkP f k (f u).toNatClampNeg m
theorem mt_le {f : Nat → Int32} {n : Nat} (h : okm f n) (hn : n < 2 ^ 31) : ∀ k a b, a < n → b < n → a + b ≤ k → mtN f k a b ≤ a ∧ mtN f k a b ≤ b ∧ (∃ i, bkP f i a (mtN f k a b)) ∧ ∃ i, bkP f i b (mtN f k a b) := by
  intro k
  induction k with
  | zero =>
    intro a b ha hb hk
    have e1 : a = 0 := by omega
    have e2 : b = 0 := by omega
    subst e1
    subst e2
    exact ⟨Nat.le_refl _, Nat.le_refl _, ⟨0, rfl⟩, ⟨0, rfl⟩⟩
  | succ k ih =>
    intro a b ha hb hk
    unfold mtN
    by_cases e : a = b
    · rw [if_pos e]
      exact ⟨Nat.le_refl _, by omega, ⟨0, rfl⟩, ⟨0, e.symm⟩⟩
    · rw [if_neg e]
      by_cases e2 : b < a
      · rw [if_pos e2]
        obtain ⟨u, h1, h2⟩ := h.2 a (by omega) ha
        have h3 : (f a).toNatClampNeg = u := by rw [h2, nI_clamp (by omega)]
        rw [h3]
        obtain ⟨g1, g2, ⟨i, g3⟩, g4⟩ := ih u b (by omega) hb (by omega)
        refine ⟨by omega, g2, ⟨i + 1, by omega, by omega, ?_⟩, g4⟩
        rw [h3]
        exact g3
      · rw [if_neg e2]
        obtain ⟨u, h1, h2⟩ := h.2 b (by omega) hb
        have h3 : (f b).toNatClampNeg = u := by rw [h2, nI_clamp (by omega)]
        rw [h3]
        obtain ⟨g1, g2, g3, ⟨i, g4⟩⟩ := ih a u ha (by omega) (by omega)
        refine ⟨g1, by omega, g3, ⟨i + 1, by omega, by omega, ?_⟩⟩
        rw [h3]
        exact g4
theorem dp_st {f : Nat → Int32} {n : Nat} (h : okm f n) (hn : n < 2 ^ 31) : ∀ k u, u < n → u ≤ k → dp f k (f u) = dp f (k + 1) (f u) := by
  intro k
  induction k with
  | zero =>
    intro u hu hk
    have e1 : u = 0 := by omega
    subst e1
    rw [h.1]
    rfl
  | succ k ih =>
    intro u hu hk
    have e1 : dp f (k + 1) (f u) = if f u = -1 then 0 else dp f k (f (f u).toNatClampNeg) + 1 := rfl
    have e2 : dp f (k + 1 + 1) (f u) = if f u = -1 then 0 else dp f (k + 1) (f (f u).toNatClampNeg) + 1 := rfl
    rw [e1, e2]
    by_cases e : f u = -1
    · rw [if_pos e, if_pos e]
    · rw [if_neg e, if_neg e]
      have h0 : 0 < u := by
        rcases Nat.eq_zero_or_pos u with g | g
        · subst g
          exact absurd h.1 e
        · exact g
      obtain ⟨x, h1, h2⟩ := h.2 u h0 hu
      rw [h2, nI_clamp (by omega), ih x (by omega) (by omega)]
theorem dp_up {f : Nat → Int32} {n u : Nat} (h : okm f n) (hn : n < 2 ^ 31) (h0 : 0 < u) (hu : u < n) : dp f n (f u) = dp f n (f (f u).toNatClampNeg) + 1 := by
  obtain ⟨x, h1, h2⟩ := h.2 u h0 hu
  cases n with
  | zero => exact absurd hu (Nat.not_lt_zero _)
  | succ n =>
    have e1 : dp f (n + 1) (f u) = if f u = -1 then 0 else dp f n (f (f u).toNatClampNeg) + 1 := rfl
    rw [e1, if_neg (by rw [h2]; exact nI_m1 (by omega)), h2, nI_clamp (by omega), dp_st h hn n x (by omega) (by omega)]
theorem dp_bk {f : Nat → Int32} {n m : Nat} (h : okm f n) (hn : n < 2 ^ 31) : ∀ k u, u < n → bkP f k u m → dp f n (f u) = dp f n (f m) + k := by
  intro k
  induction k with
  | zero => intro u _ e; rw [show u = m from e]; rfl
  | succ k ih =>
    intro u hu ⟨h0, _, g⟩
    obtain ⟨x, h1, h2⟩ := h.2 u h0 hu
    have h3 : (f u).toNatClampNeg = x := by rw [h2, nI_clamp (by omega)]
    rw [dp_up h hn h0 hu, h3]
    rw [h3] at g
    rw [ih x (by omega) g]
    omega
theorem l_Mo_backTo {sc : Option (Nat × Nat × (Nat → Int32))} {sa : Nat → Nat} {d : Nat} {M : mz_M} {z : Nat × Nat} {m : Nat} (w : g_Mo M.2.2 m) {F : Nat → Int32} {A : Nat → Nat → Int32} {c : Nat} {q : sQ} (hv : mAv c A q) (hI : qI c q) (hC : c ≤ 12) {x1 : Int32} {g r : Nat} (hg : g < q.1) : ∀ (k : Nat) (i u : Nat), u < q.1 → bkP q.2.2.2.2.1 k u g → i + k = r → zw sc sa d ym_Mo_backTo z (fun r' M' => r' = some (.int (nI r)) ∧ M' = (moF M m F A)) 5 [.ref m, .int x1, .int (nI g), .int (nI i), .int (nI u)] [] (moF M m F A) z := by
  intro k
  induction k with
  | zero =>
    intro i u hu hb hr
    have e1 : u = g := hb
    subst e1
    have e2 : i = r := by omega
    subst e2
    refine z_iload (q := 7) rfl rfl rfl ?_
    refine z_iload_n (q := 8) rfl rfl rfl ?_
    refine z_ic_eq (q := 11) rfl rfl (fun h8 => ?_) (fun h8 => ?_)
    · refine z_iload_n (q := 27) rfl rfl rfl ?_
      refine z_ireti rfl rfl ?_
      exact ⟨rfl, rfl⟩
    · exact absurd rfl h8
  | succ k ih =>
    intro i u hu hb hr
    obtain ⟨h0, hne, hb2⟩ := hb
    have b2 := hI.2.1
    obtain ⟨y, y1, y2⟩ := hI.2.2.2.2.1.2 u h0 hu
    rw [y2, nI_clamp (by omega)] at hb2
    refine z_iload (q := 7) rfl rfl rfl ?_
    refine z_iload_n (q := 8) rfl rfl rfl ?_
    refine z_ic_eq (q := 11) rfl rfl (fun h8 => ?_) (fun h8 => ?_)
    · rw [nI_eq (by omega) (by omega)] at h8
      exact absurd h8 hne
    · refine z_iinc (q := 14) (L2 := [_, _, _, _, _]) rfl rfl rfl rfl ?_
      refine z_aload_n (q := 15) rfl rfl rfl ?_
      refine z_getR (q := 18) rfl rfl rfl (Mo_k w) (Mo_r7 w) ?_
      refine z_iload (q := 20) rfl rfl rfl ?_
      refine z_iald (q := 21) rfl rfl (Mo_a7 w) (by first | assumption | exact vp_in_nI (by omega) (by omega)) ?_
      rw [moF_a7]
      try rw [nI_clamp (by omega)]
      rw [(hv u hu).1, y2]
      refine z_istore (q := 23) (L2 := [_, _, _, _, _]) rfl rfl rfl rfl ?_
      refine z_goto rfl ?_
      rw [show nI i + Int32.ofInt 1 = nI (i + 1) from (nI_succ i).symm]
      exact ih (i + 1) y (by omega) hb2 (by omega)
theorem s_Mo_backTo {sc : Option (Nat × Nat × (Nat → Int32))} {sa : Nat → Nat} {d : Nat} {M : mz_M} {z : Nat × Nat} {m : Nat} (w : g_Mo M.2.2 m) {F : Nat → Int32} {A : Nat → Nat → Int32} {c : Nat} {q : sQ} (hv : mAv c A q) (hI : qI c q) (hC : c ≤ 12) {u g k : Nat} (hu : u < q.1) (hg : g < q.1) (hb : bkP q.2.2.2.2.1 k u g) : zx sc sa (d + 1) 226 [.ref m, .int (nI u), .int (nI g)] (moF M m F A) z z (some (.int (nI k))) (moF M m F A) := by
  refine zxin ym_Mo_backTo [.ref m, .int (nI u), .int (nI g), .retAddr 0, .retAddr 0] rfl rfl rfl rfl ?_
  refine z_iconst (q := 1) (v := 0) rfl rfl rfl ?_
  refine z_istore_n (q := 2) (L2 := [_, _, _, _, _]) rfl rfl rfl rfl ?_
  refine z_iload_n (q := 3) rfl rfl rfl ?_
  refine z_istore (q := 5) (L2 := [_, _, _, _, _]) rfl rfl rfl rfl ?_
  exact l_Mo_backTo w hv hI hC hg k 0 u hu hb (by omega)
theorem ap_eq {x y z : Nat} : nI (z + x) + nI (z + y) - 2 * nI z = nI x + nI y := by
  rw [nI_add, show (2 : Int32) * nI z = nI (z + z) by rw [← nI_add, Int32.two_mul], nI_sub' (by omega), nI_add]
  congr 1
  omega
theorem q_Mo_apart {sc : Option (Nat × Nat × (Nat → Int32))} {sa : Nat → Nat} {d : Nat} {M : mz_M} {z : Nat × Nat} {m : Nat} (w : g_Mo M.2.2 m) {F : Nat → Int32} {A : Nat → Nat → Int32} {c N D : Nat} {l t : Int32} {K P1 P2 P3 : Nat → Nat} {q : sQ} (hX : mX c N D l t K P1 P2 P3 q A) {a b : Int32} : zi sc sa (d + 13) 228 [.ref m, .int a, .int b] (moF M m F A) z (mR M m F A (if vI q.1 a ∧ vI q.1 b then nI (dp q.2.2.2.2.1 q.1 (q.2.2.2.2.1 a.toNatClampNeg)) + nI (dp q.2.2.2.2.1 q.1 (q.2.2.2.2.1 b.toNatClampNeg)) - 2 * nI (dp q.2.2.2.2.1 q.1 (q.2.2.2.2.1 (mtN q.2.2.2.2.1 (2 * q.1) a.toNatClampNeg b.toNatClampNeg))) else -2)) := by
  obtain ⟨⟨c1, c2, c3, c4, c5⟩, ⟨k1, k2, k3, k4, ln, k5, k6, k7⟩, hd, hv, he, hI, hV, hn⟩ := id hX
  have b1 := hI.1
  have b2 := hI.2.1
  refine zin ym_Mo_apart [.ref m, .int a, .int b, .retAddr 0] rfl rfl rfl rfl ?_
  refine z_aload_n (q := 1) rfl rfl rfl ?_
  refine z_iload_n (q := 2) rfl rfl rfl ?_
  refine z_iload_n (q := 3) rfl rfl rfl ?_
  refine z_cv2qi (q := 6) rfl rfl rfl (Mo_k w) (q_Mo_areVersions w hX) (fun x9 M9 h9 => ?_)
  obtain ⟨rfl, FF, AA, rfl, ww⟩ := h9
  refine z_if_ne (q := 9) rfl rfl (fun h6 => ?_) (fun h6 => ?_)
  · refine z_aload_n (q := 13) rfl rfl rfl ?_
    obtain ⟨j, hj, rfl⟩ := vI_nat (by omega) (bz_n.mp h6).1
    obtain ⟨i, hi, rfl⟩ := vI_nat (by omega) (bz_n.mp h6).2
    have hm : mtN q.2.2.2.2.1 (2 * q.1) j i < q.1 := mtN_lt hI.2.2.2.2.1 (by omega) _ _ _ hj hi
    obtain ⟨_, _, ⟨n1, hb1⟩, ⟨n2, hb2⟩⟩ := mt_le hI.2.2.2.2.1 (by omega) (2 * q.1) j i hj hi (by omega)
    have hd1 := dp_bk hI.2.2.2.2.1 (by omega) n1 j hj hb1
    have hd2 := dp_bk hI.2.2.2.2.1 (by omega) n2 i hi hb2
    refine z_iload_n (q := 14) rfl rfl rfl ?_
    refine z_iload_n (q := 15) rfl rfl rfl ?_
    refine z_cv2i (q := 18) rfl rfl rfl (Mo_k w) (s_Mo_meetOf w ww.2.2.1 hI c1 hj hi) ?_
    refine z_istore_n (q := 19) (L2 := [_, _, _, _]) rfl rfl rfl rfl ?_
    refine z_aload_n (q := 20) rfl rfl rfl ?_
    refine z_iload_n (q := 21) rfl rfl rfl ?_
    refine z_iload_n (q := 22) rfl rfl rfl ?_
    refine z_cv2i (q := 25) rfl rfl rfl (Mo_k w) (s_Mo_backTo w ww.2.2.1 hI c1 hj hm hb1) ?_
    refine z_aload_n (q := 26) rfl rfl rfl ?_
    refine z_iload_n (q := 27) rfl rfl rfl ?_
    refine z_iload_n (q := 28) rfl rfl rfl ?_
    refine z_cv2i (q := 31) rfl rfl rfl (Mo_k w) (s_Mo_backTo w ww.2.2.1 hI c1 hi hm hb2) ?_
    refine z_iadd (q := 32) rfl rfl ?_
    refine z_ireti rfl rfl ?_
    first
      | exact qz_t (bz_n.mp h6) (by rw [nI_clamp (show j < 2 ^ 31 by omega), nI_clamp (show i < 2 ^ 31 by omega), hd1, hd2]; exact ap_eq.symm) ⟨FF, AA, rfl, mPe_w ww⟩
      | exact qz_f (bz_0.mp h6) ⟨FF, AA, rfl, mPe_w ww⟩
      | fail "none"
  · refine z_bipush (q := 11) (v := -2) rfl rfl rfl ?_
    refine z_ireti rfl rfl ?_
    first
      | exact qz_t (bz_n.mp h6) (by rw [nI_clamp (show j < 2 ^ 31 by omega), nI_clamp (show i < 2 ^ 31 by omega), hd1, hd2]; exact ap_eq.symm) ⟨FF, AA, rfl, mPe_w ww⟩
      | exact qz_f (bz_0.mp h6) ⟨FF, AA, rfl, mPe_w ww⟩
      | fail "none"
theorem l_Mo_roots {sc : Option (Nat × Nat × (Nat → Int32))} {sa : Nat → Nat} {d : Nat} {M : mz_M} {z : Nat × Nat} {m : Nat} (w : g_Mo M.2.2 m) {F : Nat → Int32} {A : Nat → Nat → Int32} {c : Nat} {q : sQ} (hv : mAv c A q) (hI : qI c q) (hC : c ≤ 12) (hs : A 1 0 = nI c) (hV : qV c q) {j : Nat} (hj : j < q.1) {Q : mz_P} (hk : zw sc sa (d + 2) ym_Mo_roots z Q 42 [.ref m, .int (nI j), .int (fo (fun v acc => acc ||| (1 : Int32) <<< (rt (q.2.1 j) c (nI v) &&& 31)) 0 c), .int (nI c)] [] (moF M m F A) z)  : ∀ (k : Nat) (i : Nat), i + k = c → zw sc sa (d + 2) ym_Mo_roots z Q 15 [.ref m, .int (nI j), .int (fo (fun v acc => acc ||| (1 : Int32) <<< (rt (q.2.1 j) c (nI v) &&& 31)) 0 i), .int (nI i)] [] (moF M m F A) z := by
  intro k
  induction k with
  | zero =>
    intro i hi
    have e1 : i = c := by omega
    subst e1
    refine z_iload_n (q := 16) rfl rfl rfl ?_
    refine z_aload_n (q := 17) rfl rfl rfl ?_
    refine z_getR (q := 20) rfl rfl rfl (Mo_k w) (Mo_r0 w) ?_
    refine z_iconst (q := 21) (v := 0) rfl rfl rfl ?_
    refine z_iald (q := 22) rfl rfl (Mo_a0 w) (vp0 (by decide) (by decide)) ?_
    rw [moF_a0]
    try rw [nI_clamp (by omega)]
    rw [show A 1 (0 : Int32).toNatClampNeg = nI i from hs]
    refine z_ic_ge (q := 25) rfl rfl (fun h22 => ?_) (fun h22 => ?_)
    · exact hk
    · exact absurd (Int32.le_refl _) h22
  | succ k ih =>
    intro i hi
    have b2 := hI.2.1
    have hi2 : i < c := by omega
    refine z_iload_n (q := 16) rfl rfl rfl ?_
    refine z_aload_n (q := 17) rfl rfl rfl ?_
    refine z_getR (q := 20) rfl rfl rfl (Mo_k w) (Mo_r0 w) ?_
    refine z_iconst (q := 21) (v := 0) rfl rfl rfl ?_
    refine z_iald (q := 22) rfl rfl (Mo_a0 w) (vp0 (by decide) (by decide)) ?_
    rw [moF_a0]
    try rw [nI_clamp (by omega)]
    rw [show A 1 (0 : Int32).toNatClampNeg = nI c from hs]
    refine z_ic_ge (q := 25) rfl rfl (fun h22 => ?_) (fun h22 => ?_)
    · exact absurd h22 (nI_ge (by omega) (by omega))
    · refine z_iload_n (q := 26) rfl rfl rfl ?_
      refine z_iconst (q := 27) (v := 1) rfl rfl rfl ?_
      refine z_aload_n (q := 28) rfl rfl rfl ?_
      refine z_iload_n (q := 29) rfl rfl rfl ?_
      refine z_iload_n (q := 30) rfl rfl rfl ?_
      refine z_cv2i (q := 33) rfl rfl rfl (Mo_k w) (s_Mo_rootOf w hv hI hC hs hV hj hi2) ?_
      refine z_ishl (q := 34) rfl rfl ?_
      refine z_ior (q := 35) rfl rfl ?_
      refine z_istore_n (q := 36) (L2 := [_, _, _, _]) rfl rfl rfl rfl ?_
      refine z_iinc (q := 39) (L2 := [_, _, _, _]) rfl rfl rfl rfl ?_
      refine z_goto rfl ?_
      rw [show nI i + Int32.ofInt 1 = nI (i + 1) from (nI_succ i).symm]
      exact ih (i + 1) (by omega)
theorem q_Mo_roots {sc : Option (Nat × Nat × (Nat → Int32))} {sa : Nat → Nat} {d : Nat} {M : mz_M} {z : Nat × Nat} {m : Nat} (w : g_Mo M.2.2 m) {F : Nat → Int32} {A : Nat → Nat → Int32} {c N D : Nat} {l t : Int32} {K P1 P2 P3 : Nat → Nat} {q : sQ} (hX : mX c N D l t K P1 P2 P3 q A) {a : Int32} : zi sc sa (d + 13) 230 [.ref m, .int a] (moF M m F A) z (mR M m F A (if vI q.1 a then fo (fun k acc => acc + ((fo (fun v acc => acc ||| (1 : Int32) <<< (rt (q.2.1 a.toNatClampNeg) c (nI v) &&& 31)) 0 c) >>> (nI k &&& 31) &&& 1)) 0 12 else -2)) := by
  obtain ⟨⟨c1, c2, c3, c4, c5⟩, ⟨k1, k2, k3, k4, ln, k5, k6, k7⟩, hd, hv, he, hI, hV, hn⟩ := id hX
  have b1 := hI.1
  have b2 := hI.2.1
  refine zin ym_Mo_roots [.ref m, .int a, .retAddr 0, .retAddr 0] rfl rfl rfl rfl ?_
  refine z_aload_n (q := 1) rfl rfl rfl ?_
  refine z_iload_n (q := 2) rfl rfl rfl ?_
  refine z_cv1qi (q := 5) rfl rfl rfl (Mo_k w) (q_Mo_isVersion w hX) (fun x9 M9 h9 => ?_)
  obtain ⟨rfl, FF, AA, rfl, ww⟩ := h9
  refine z_if_ne (q := 8) rfl rfl (fun h5 => ?_) (fun h5 => ?_)
  · refine z_iconst (q := 12) (v := 0) rfl rfl rfl ?_
    obtain ⟨j, hj, rfl⟩ := vI_nat (by omega) (bz_n.mp h5)
    refine z_istore_n (q := 13) (L2 := [_, _, _, _]) rfl rfl rfl rfl ?_
    refine z_iconst (q := 14) (v := 0) rfl rfl rfl ?_
    refine z_istore_n (q := 15) (L2 := [_, _, _, _]) rfl rfl rfl rfl ?_
    refine l_Mo_roots (d := d + 10) w ww.2.2.1 hI c1 ((congrFun (ww.2.1.2.2.2 1 (by omega)) 0).trans k1) hV hj ?_ c 0 (by omega)
    refine z_iload_n (q := 43) rfl rfl rfl ?_
    refine z_cs1i (q := 46) rfl rfl rfl (s_Mo_bitsOf) ?_
    refine z_ireti rfl rfl ?_
    exact qz_t (bz_n.mp h5) (by rw [nI_clamp (show j < 2 ^ 31 by omega)]) ⟨FF, AA, rfl, mPe_w ww⟩
  · refine z_bipush (q := 10) (v := -2) rfl rfl rfl ?_
    refine z_ireti rfl rfl ?_
    exact qz_f (bz_0.mp h5) ⟨FF, AA, rfl, mPe_w ww⟩
theorem l_Mo_together {sc : Option (Nat × Nat × (Nat → Int32))} {sa : Nat → Nat} {d : Nat} {M : mz_M} {z : Nat × Nat} {m : Nat} (w : g_Mo M.2.2 m) {F : Nat → Int32} {A : Nat → Nat → Int32} {c : Nat} {q : sQ} (hv : mAv c A q) (hI : qI c q) (hC : c ≤ 12) (hs : A 1 0 = nI c) (hV : qV c q) {j : Nat} (hj : j < q.1) {e : Nat} (he : e < c) : ∀ (k : Nat) (i : Nat), i + k = c → zw sc sa (d + 2) ym_Mo_together z (fun r' M' => r' = some (.int (fo (fun v acc => if rt (q.2.1 j) c (nI v) = rt (q.2.1 j) c (nI e) then acc ||| (1 : Int32) <<< (nI v &&& 31) else acc) 0 c)) ∧ M' = (moF M m F A)) 24 [.ref m, .int (nI j), .int (nI e), .int (fo (fun v acc => if rt (q.2.1 j) c (nI v) = rt (q.2.1 j) c (nI e) then acc ||| (1 : Int32) <<< (nI v &&& 31) else acc) 0 i), .int (nI i)] [] (moF M m F A) z := by
  intro k
  induction k with
  | zero =>
    intro i hi
    have e1 : i = c := by omega
    subst e1
    refine z_iload (q := 26) rfl rfl rfl ?_
    refine z_aload_n (q := 27) rfl rfl rfl ?_
    refine z_getR (q := 30) rfl rfl rfl (Mo_k w) (Mo_r0 w) ?_
    refine z_iconst (q := 31) (v := 0) rfl rfl rfl ?_
    refine z_iald (q := 32) rfl rfl (Mo_a0 w) (vp0 (by decide) (by decide)) ?_
    rw [moF_a0]
    try rw [nI_clamp (by omega)]
    rw [show A 1 (0 : Int32).toNatClampNeg = nI i from hs]
    refine z_ic_ge (q := 35) rfl rfl (fun h32 => ?_) (fun h32 => ?_)
    · refine z_iload_n (q := 69) rfl rfl rfl ?_
      refine z_ireti rfl rfl ?_
      exact ⟨rfl, rfl⟩
    · exact absurd (Int32.le_refl _) h32
  | succ k ih =>
    intro i hi
    have b2 := hI.2.1
    have hi2 : i < c := by omega
    refine z_iload (q := 26) rfl rfl rfl ?_
    refine z_aload_n (q := 27) rfl rfl rfl ?_
    refine z_getR (q := 30) rfl rfl rfl (Mo_k w) (Mo_r0 w) ?_
    refine z_iconst (q := 31) (v := 0) rfl rfl rfl ?_
    refine z_iald (q := 32) rfl rfl (Mo_a0 w) (vp0 (by decide) (by decide)) ?_
    rw [moF_a0]
    try rw [nI_clamp (by omega)]
    rw [show A 1 (0 : Int32).toNatClampNeg = nI c from hs]
    refine z_ic_ge (q := 35) rfl rfl (fun h32 => ?_) (fun h32 => ?_)
    · exact absurd h32 (nI_ge (by omega) (by omega))
    · refine z_iload_n (q := 36) rfl rfl rfl ?_
      refine z_aload_n (q := 37) rfl rfl rfl ?_
      refine z_iload_n (q := 38) rfl rfl rfl ?_
      refine z_iload (q := 40) rfl rfl rfl ?_
      refine z_cv2i (q := 43) rfl rfl rfl (Mo_k w) (s_Mo_rootOf w hv hI hC hs hV hj hi2) ?_
      refine z_aload_n (q := 44) rfl rfl rfl ?_
      refine z_iload_n (q := 45) rfl rfl rfl ?_
      refine z_iload_n (q := 46) rfl rfl rfl ?_
      refine z_cv2i (q := 49) rfl rfl rfl (Mo_k w) (s_Mo_rootOf w hv hI hC hs hV hj he) ?_
      refine z_ic_ne (q := 52) rfl rfl (fun h49 => ?_) (fun h49 => ?_)
      · refine z_iconst (q := 60) (v := 0) rfl rfl rfl ?_
        refine z_ior (q := 61) rfl rfl ?_
        refine z_istore_n (q := 62) (L2 := [_, _, _, _, _]) rfl rfl rfl rfl ?_
        refine z_iinc (q := 65) (L2 := [_, _, _, _, _]) rfl rfl rfl rfl ?_
        refine z_goto rfl ?_
        rw [show nI i + Int32.ofInt 1 = nI (i + 1) from (nI_succ i).symm]
        have e9 := ih (i + 1) (by omega)
        first
          | (have hzz : rt (q.2.1 j) c (nI i) = rt (q.2.1 j) c (nI e) := h49
             simp only [fo, if_pos hzz] at e9
             exact e9)
          | (have hzz : ¬ rt (q.2.1 j) c (nI i) = rt (q.2.1 j) c (nI e) := h49
             simp only [fo, if_neg hzz] at e9
             rw [Int32.or_zero]
             exact e9)
          | fail "none"
      · refine z_iconst (q := 53) (v := 1) rfl rfl rfl ?_
        refine z_iload (q := 55) rfl rfl rfl ?_
        refine z_ishl (q := 56) rfl rfl ?_
        refine z_goto rfl ?_
        refine z_ior (q := 61) rfl rfl ?_
        refine z_istore_n (q := 62) (L2 := [_, _, _, _, _]) rfl rfl rfl rfl ?_
        refine z_iinc (q := 65) (L2 := [_, _, _, _, _]) rfl rfl rfl rfl ?_
        refine z_goto rfl ?_
        rw [show nI i + Int32.ofInt 1 = nI (i + 1) from (nI_succ i).symm]
        have e9 := ih (i + 1) (by omega)
        first
          | (have hzz : rt (q.2.1 j) c (nI i) = rt (q.2.1 j) c (nI e) := h49
             simp only [fo, if_pos hzz] at e9
             exact e9)
          | (have hzz : ¬ rt (q.2.1 j) c (nI i) = rt (q.2.1 j) c (nI e) := h49
             simp only [fo, if_neg hzz] at e9
             rw [Int32.or_zero]
             exact e9)
          | fail "none"
theorem q_Mo_together {sc : Option (Nat × Nat × (Nat → Int32))} {sa : Nat → Nat} {d : Nat} {M : mz_M} {z : Nat × Nat} {m : Nat} (w : g_Mo M.2.2 m) {F : Nat → Int32} {A : Nat → Nat → Int32} {c N D : Nat} {l t : Int32} {K P1 P2 P3 : Nat → Nat} {q : sQ} (hX : mX c N D l t K P1 P2 P3 q A) {a b : Int32} : zi sc sa (d + 12) 231 [.ref m, .int a, .int b] (moF M m F A) z (mR M m F A (if vI q.1 a ∧ vI c b then fo (fun v acc => if rt (q.2.1 a.toNatClampNeg) c (nI v) = rt (q.2.1 a.toNatClampNeg) c b then acc ||| (1 : Int32) <<< (nI v &&& 31) else acc) 0 c else -2)) := by
  obtain ⟨⟨c1, c2, c3, c4, c5⟩, ⟨k1, k2, k3, k4, ln, k5, k6, k7⟩, hd, hv, he, hI, hV, hn⟩ := id hX
  have b1 := hI.1
  have b2 := hI.2.1
  refine zin ym_Mo_together [.ref m, .int a, .int b, .retAddr 0, .retAddr 0] rfl rfl rfl rfl ?_
  refine z_aload_n (q := 1) rfl rfl rfl ?_
  refine z_iload_n (q := 2) rfl rfl rfl ?_
  refine z_cv1qi (q := 5) rfl rfl rfl (Mo_k w) (q_Mo_isVersion w hX) (fun x9 M9 h9 => ?_)
  obtain ⟨rfl, FF, AA, rfl, ww⟩ := h9
  refine z_if_eq (q := 8) rfl rfl (fun h5 => ?_) (fun h5 => ?_)
  · refine z_bipush (q := 18) (v := -2) rfl rfl rfl ?_
    refine z_ireti rfl rfl ?_
    first
      | exact qz_f (fun h => bz_0.mp h13 h.2) ⟨FF, AA, rfl, mPe_w ww⟩
      | exact qz_f (fun h => bz_0.mp h5 h.1) ⟨FF, AA, rfl, mPe_w ww⟩
      | fail "none"
  · refine z_aload_n (q := 9) rfl rfl rfl ?_
    obtain ⟨j, hj, rfl⟩ := vI_nat (by omega) (bz_n.mp h5)
    refine z_iload_n (q := 10) rfl rfl rfl ?_
    refine z_cv1i (q := 13) rfl rfl rfl (Mo_k w) (s_Mo_isCell w ((congrFun (ww.2.1.2.2.2 1 (by omega)) 0).trans k1) c2 c1) ?_
    refine z_if_ne (q := 16) rfl rfl (fun h13 => ?_) (fun h13 => ?_)
    · refine z_iconst (q := 20) (v := 0) rfl rfl rfl ?_
      obtain ⟨i, hi, rfl⟩ := vI_nat (by omega) (bz_n.mp h13)
      refine z_istore_n (q := 21) (L2 := [_, _, _, _, _]) rfl rfl rfl rfl ?_
      refine z_iconst (q := 22) (v := 0) rfl rfl rfl ?_
      refine z_istore (q := 24) (L2 := [_, _, _, _, _]) rfl rfl rfl rfl ?_
      refine mz_wp_m (mz_Kd_m sc sa _) ?_ (l_Mo_together (d := d + 9) w ww.2.2.1 hI c1 ((congrFun (ww.2.1.2.2.2 1 (by omega)) 0).trans k1) hV hj hi c 0 (by omega))
      intro r9 M9 h
      rw [h.1, h.2]
      exact qz_t ⟨bz_n.mp h5, bz_n.mp h13⟩ (by rw [nI_clamp (show j < 2 ^ 31 by omega)]) ⟨FF, AA, rfl, mPe_w ww⟩
    · refine z_bipush (q := 18) (v := -2) rfl rfl rfl ?_
      refine z_ireti rfl rfl ?_
      first
        | exact qz_f (fun h => bz_0.mp h13 h.2) ⟨FF, AA, rfl, mPe_w ww⟩
        | exact qz_f (fun h => bz_0.mp h5 h.1) ⟨FF, AA, rfl, mPe_w ww⟩
        | fail "none"
theorem ls_z {f g : Nat → Int32} {cell : Int32} {k : Nat} (hf : f 0 = -1) (hg : ¬ g 0 = cell) : lsI f g cell k (nI 0) = 0 := by
  cases k with
  | zero => rfl
  | succ k =>
    show (if nI 0 = -1 then 0 else if g (nI 0).toNatClampNeg = cell then nI 0 else lsI f g cell k (f (nI 0).toNatClampNeg)) = 0
    rw [if_neg (by decide), nI_clamp (by omega), if_neg hg, hf]
    cases k with
    | zero => rfl
    | succ k => exact if_pos rfl
theorem ts_z {f g : Nat → Int32} {cell t : Int32} {k : Nat} (hf : f 0 = -1) (hg : ¬ g 0 = cell) : tsI f g cell k (nI 0) t = t := by
  cases k with
  | zero => rfl
  | succ k =>
    show (if nI 0 = -1 then t else tsI f g cell k (f (nI 0).toNatClampNeg) (if g (nI 0).toNatClampNeg = cell then t + Int32.ofInt 1 else t)) = t
    rw [if_neg (by decide), nI_clamp (by omega), if_neg hg, hf]
    cases k with
    | zero => rfl
    | succ k => exact if_pos rfl
theorem l_Mo_blame {sc : Option (Nat × Nat × (Nat → Int32))} {sa : Nat → Nat} {d : Nat} {M : mz_M} {z : Nat × Nat} {m : Nat} (w : g_Mo M.2.2 m) {F : Nat → Int32} {A : Nat → Nat → Int32} {c : Nat} {q : sQ} (hv : mAv c A q) (hI : qI c q) (hC : c ≤ 12) {x1 : Int32} {e : Nat} (he : e < c) {r : Int32} : ∀ (k : Nat) (u : Nat), u < q.1 → u < k → lsI q.2.2.2.2.1 q.2.2.2.2.2.1 (nI e) k (nI u) = r → zw sc sa d ym_Mo_blame z (fun r' M' => r' = some (.int r) ∧ M' = (moF M m F A)) 21 [.ref m, .int x1, .int (nI e), .int (nI u)] [] (moF M m F A) z := by
  intro k
  induction k with
  | zero =>
    intro u hu hk hr
    exact absurd hk (Nat.not_lt_zero _)
  | succ k ih =>
    intro u hu hk hr
    have b2 := hI.2.1
    have z0 : ¬ q.2.2.2.2.2.1 0 = nI e := fun g => nI_m1 (show e < 2 ^ 31 by omega) (g.symm.trans ((hI.2.2.2.2.2 0 hI.1).1 hI.2.2.2.2.1.1))
    refine z_iload_n (q := 22) rfl rfl rfl ?_
    refine z_if_le (q := 25) rfl rfl (fun h22 => ?_) (fun h22 => ?_)
    · refine z_iload_n (q := 46) rfl rfl rfl ?_
      refine z_ireti rfl rfl ?_
      first
        | (have hzz : q.2.2.2.2.2.1 u = nI e := h32
           unfold lsI at hr
           rw [if_neg (nI_m1 (by omega)), nI_clamp (by omega), if_pos hzz] at hr
           rw [hr]
           exact ⟨rfl, rfl⟩)
        | (have g : u = 0 := by
             rcases Nat.eq_zero_or_pos u with g | g
             · exact g
             · exact absurd h22 (nI_nle g (by omega))
           subst g
           rw [ls_z hI.2.2.2.2.1.1 z0] at hr
           rw [← hr]
           exact ⟨rfl, rfl⟩)
        | fail "none"
    · refine z_aload_n (q := 26) rfl rfl rfl ?_
      refine z_getR (q := 29) rfl rfl rfl (Mo_k w) (Mo_r8 w) ?_
      refine z_iload_n (q := 30) rfl rfl rfl ?_
      refine z_iald (q := 31) rfl rfl (Mo_a8 w) (by first | assumption | exact vp_in_nI (by omega) (by omega)) ?_
      rw [moF_a8]
      try rw [nI_clamp (by omega)]
      rw [(hv u hu).2.1]
      refine z_iload_n (q := 32) rfl rfl rfl ?_
      refine z_ic_eq (q := 35) rfl rfl (fun h32 => ?_) (fun h32 => ?_)
      · refine z_iload_n (q := 46) rfl rfl rfl ?_
        refine z_ireti rfl rfl ?_
        first
          | (have hzz : q.2.2.2.2.2.1 u = nI e := h32
             unfold lsI at hr
             rw [if_neg (nI_m1 (by omega)), nI_clamp (by omega), if_pos hzz] at hr
             rw [hr]
             exact ⟨rfl, rfl⟩)
          | (have g : u = 0 := by
               rcases Nat.eq_zero_or_pos u with g | g
               · exact g
               · exact absurd h22 (nI_nle g (by omega))
             subst g
             rw [ls_z hI.2.2.2.2.1.1 z0] at hr
             rw [← hr]
             exact ⟨rfl, rfl⟩)
          | fail "none"
      · refine z_aload_n (q := 36) rfl rfl rfl ?_
        refine z_getR (q := 39) rfl rfl rfl (Mo_k w) (Mo_r7 w) ?_
        refine z_iload_n (q := 40) rfl rfl rfl ?_
        refine z_iald (q := 41) rfl rfl (Mo_a7 w) (by first | assumption | exact vp_in_nI (by omega) (by omega)) ?_
        rw [moF_a7]
        try rw [nI_clamp (by omega)]
        rw [(hv u hu).1]
        refine z_istore_n (q := 42) (L2 := [_, _, _, _]) rfl rfl rfl rfl ?_
        refine z_goto rfl ?_
        have h0 : 0 < u := by
          rcases Nat.eq_zero_or_pos u with g | g
          · rw [g] at h22; exact absurd (by decide) h22
          · exact g
        obtain ⟨y, y1, y2⟩ := hI.2.2.2.2.1.2 u h0 hu
        unfold lsI at hr
        rw [if_neg (nI_m1 (by omega)), nI_clamp (by omega), if_neg h32, y2] at hr
        rw [y2]
        exact ih y (by omega) (by omega) hr
theorem q_Mo_blame {sc : Option (Nat × Nat × (Nat → Int32))} {sa : Nat → Nat} {d : Nat} {M : mz_M} {z : Nat × Nat} {m : Nat} (w : g_Mo M.2.2 m) {F : Nat → Int32} {A : Nat → Nat → Int32} {c N D : Nat} {l t : Int32} {K P1 P2 P3 : Nat → Nat} {q : sQ} (hX : mX c N D l t K P1 P2 P3 q A) {a b : Int32} : zi sc sa (d + 12) 257 [.ref m, .int a, .int b] (moF M m F A) z (mR M m F A (if vI q.1 a ∧ vI c b then lsI q.2.2.2.2.1 q.2.2.2.2.2.1 b q.1 a else -2)) := by
  obtain ⟨⟨c1, c2, c3, c4, c5⟩, ⟨k1, k2, k3, k4, ln, k5, k6, k7⟩, hd, hv, he, hI, hV, hn⟩ := id hX
  have b1 := hI.1
  have b2 := hI.2.1
  refine zin ym_Mo_blame [.ref m, .int a, .int b, .retAddr 0] rfl rfl rfl rfl ?_
  refine z_aload_n (q := 1) rfl rfl rfl ?_
  refine z_iload_n (q := 2) rfl rfl rfl ?_
  refine z_cv1qi (q := 5) rfl rfl rfl (Mo_k w) (q_Mo_isVersion w hX) (fun x9 M9 h9 => ?_)
  obtain ⟨rfl, FF, AA, rfl, ww⟩ := h9
  refine z_if_eq (q := 8) rfl rfl (fun h5 => ?_) (fun h5 => ?_)
  · refine z_bipush (q := 18) (v := -2) rfl rfl rfl ?_
    refine z_ireti rfl rfl ?_
    first
      | exact qz_f (fun h => bz_0.mp h13 h.2) ⟨FF, AA, rfl, mPe_w ww⟩
      | exact qz_f (fun h => bz_0.mp h5 h.1) ⟨FF, AA, rfl, mPe_w ww⟩
      | fail "none"
  · refine z_aload_n (q := 9) rfl rfl rfl ?_
    obtain ⟨j, hj, rfl⟩ := vI_nat (by omega) (bz_n.mp h5)
    refine z_iload_n (q := 10) rfl rfl rfl ?_
    refine z_cv1i (q := 13) rfl rfl rfl (Mo_k w) (s_Mo_isCell w ((congrFun (ww.2.1.2.2.2 1 (by omega)) 0).trans k1) c2 c1) ?_
    refine z_if_ne (q := 16) rfl rfl (fun h13 => ?_) (fun h13 => ?_)
    · refine z_iload_n (q := 20) rfl rfl rfl ?_
      obtain ⟨i, hi, rfl⟩ := vI_nat (by omega) (bz_n.mp h13)
      refine z_istore_n (q := 21) (L2 := [_, _, _, _]) rfl rfl rfl rfl ?_
      refine mz_wp_m (mz_Kd_m sc sa _) ?_ (l_Mo_blame (d := d + 11) w ww.2.2.1 hI c1 hi q.1 j hj hj rfl)
      intro r9 M9 h
      rw [h.1, h.2]
      exact qz_t ⟨bz_n.mp h5, bz_n.mp h13⟩ (rfl) ⟨FF, AA, rfl, mPe_w ww⟩
    · refine z_bipush (q := 18) (v := -2) rfl rfl rfl ?_
      refine z_ireti rfl rfl ?_
      first
        | exact qz_f (fun h => bz_0.mp h13 h.2) ⟨FF, AA, rfl, mPe_w ww⟩
        | exact qz_f (fun h => bz_0.mp h5 h.1) ⟨FF, AA, rfl, mPe_w ww⟩
        | fail "none"
theorem l_Mo_often {sc : Option (Nat × Nat × (Nat → Int32))} {sa : Nat → Nat} {d : Nat} {M : mz_M} {z : Nat × Nat} {m : Nat} (w : g_Mo M.2.2 m) {F : Nat → Int32} {A : Nat → Nat → Int32} {c : Nat} {q : sQ} (hv : mAv c A q) (hI : qI c q) (hC : c ≤ 12) {x1 : Int32} {e : Nat} (he : e < c) {r : Int32} : ∀ (k : Nat) (u : Nat) (t : Int32), u < q.1 → u < k → tsI q.2.2.2.2.1 q.2.2.2.2.2.1 (nI e) k (nI u) t = r → zw sc sa d ym_Mo_often z (fun r' M' => r' = some (.int r) ∧ M' = (moF M m F A)) 24 [.ref m, .int x1, .int (nI e), .int t, .int (nI u)] [] (moF M m F A) z := by
  intro k
  induction k with
  | zero =>
    intro u t hu hk hr
    exact absurd hk (Nat.not_lt_zero _)
  | succ k ih =>
    intro u t hu hk hr
    have b2 := hI.2.1
    have z0 : ¬ q.2.2.2.2.2.1 0 = nI e := fun g => nI_m1 (show e < 2 ^ 31 by omega) (g.symm.trans ((hI.2.2.2.2.2 0 hI.1).1 hI.2.2.2.2.1.1))
    refine z_iload (q := 26) rfl rfl rfl ?_
    refine z_if_le (q := 29) rfl rfl (fun h26 => ?_) (fun h26 => ?_)
    · refine z_iload_n (q := 61) rfl rfl rfl ?_
      refine z_ireti rfl rfl ?_
      have g : u = 0 := by
        rcases Nat.eq_zero_or_pos u with g | g
        · exact g
        · exact absurd h26 (nI_nle g (by omega))
      subst g
      rw [ts_z hI.2.2.2.2.1.1 z0] at hr
      rw [hr]
      exact ⟨rfl, rfl⟩
    · refine z_iload_n (q := 30) rfl rfl rfl ?_
      refine z_aload_n (q := 31) rfl rfl rfl ?_
      refine z_getR (q := 34) rfl rfl rfl (Mo_k w) (Mo_r8 w) ?_
      refine z_iload (q := 36) rfl rfl rfl ?_
      refine z_iald (q := 37) rfl rfl (Mo_a8 w) (by first | assumption | exact vp_in_nI (by omega) (by omega)) ?_
      rw [moF_a8]
      try rw [nI_clamp (by omega)]
      rw [(hv u hu).2.1]
      refine z_iload_n (q := 38) rfl rfl rfl ?_
      refine z_ic_ne (q := 41) rfl rfl (fun h38 => ?_) (fun h38 => ?_)
      · refine z_iconst (q := 46) (v := 0) rfl rfl rfl ?_
        refine z_iadd (q := 47) rfl rfl ?_
        refine z_istore_n (q := 48) (L2 := [_, _, _, _, _]) rfl rfl rfl rfl ?_
        refine z_aload_n (q := 49) rfl rfl rfl ?_
        refine z_getR (q := 52) rfl rfl rfl (Mo_k w) (Mo_r7 w) ?_
        refine z_iload (q := 54) rfl rfl rfl ?_
        refine z_iald (q := 55) rfl rfl (Mo_a7 w) (by first | assumption | exact vp_in_nI (by omega) (by omega)) ?_
        rw [moF_a7]
        try rw [nI_clamp (by omega)]
        rw [(hv u hu).1]
        refine z_istore (q := 57) (L2 := [_, _, _, _, _]) rfl rfl rfl rfl ?_
        refine z_goto rfl ?_
        have h0 : 0 < u := by
          rcases Nat.eq_zero_or_pos u with g | g
          · rw [g] at h26; exact absurd (by decide) h26
          · exact g
        obtain ⟨y, y1, y2⟩ := hI.2.2.2.2.1.2 u h0 hu
        unfold tsI at hr
        rw [if_neg (nI_m1 (by omega)), nI_clamp (by omega), y2] at hr
        rw [y2]
        first
          | (have hzz : q.2.2.2.2.2.1 u = nI e := h38
             rw [if_pos hzz] at hr
             exact ih y _ (by omega) (by omega) hr)
          | (have hzz : ¬ q.2.2.2.2.2.1 u = nI e := h38
             rw [if_neg hzz] at hr
             rw [Int32.add_zero]
             exact ih y _ (by omega) (by omega) hr)
          | fail "none"
      · refine z_iconst (q := 42) (v := 1) rfl rfl rfl ?_
        refine z_goto rfl ?_
        refine z_iadd (q := 47) rfl rfl ?_
        refine z_istore_n (q := 48) (L2 := [_, _, _, _, _]) rfl rfl rfl rfl ?_
        refine z_aload_n (q := 49) rfl rfl rfl ?_
        refine z_getR (q := 52) rfl rfl rfl (Mo_k w) (Mo_r7 w) ?_
        refine z_iload (q := 54) rfl rfl rfl ?_
        refine z_iald (q := 55) rfl rfl (Mo_a7 w) (by first | assumption | exact vp_in_nI (by omega) (by omega)) ?_
        rw [moF_a7]
        try rw [nI_clamp (by omega)]
        rw [(hv u hu).1]
        refine z_istore (q := 57) (L2 := [_, _, _, _, _]) rfl rfl rfl rfl ?_
        refine z_goto rfl ?_
        have h0 : 0 < u := by
          rcases Nat.eq_zero_or_pos u with g | g
          · rw [g] at h26; exact absurd (by decide) h26
          · exact g
        obtain ⟨y, y1, y2⟩ := hI.2.2.2.2.1.2 u h0 hu
        unfold tsI at hr
        rw [if_neg (nI_m1 (by omega)), nI_clamp (by omega), y2] at hr
        rw [y2]
        first
          | (have hzz : q.2.2.2.2.2.1 u = nI e := h38
             rw [if_pos hzz] at hr
             exact ih y _ (by omega) (by omega) hr)
          | (have hzz : ¬ q.2.2.2.2.2.1 u = nI e := h38
             rw [if_neg hzz] at hr
             rw [Int32.add_zero]
             exact ih y _ (by omega) (by omega) hr)
          | fail "none"
theorem q_Mo_often {sc : Option (Nat × Nat × (Nat → Int32))} {sa : Nat → Nat} {d : Nat} {M : mz_M} {z : Nat × Nat} {m : Nat} (w : g_Mo M.2.2 m) {F : Nat → Int32} {A : Nat → Nat → Int32} {c N D : Nat} {l t : Int32} {K P1 P2 P3 : Nat → Nat} {q : sQ} (hX : mX c N D l t K P1 P2 P3 q A) {a b : Int32} : zi sc sa (d + 12) 258 [.ref m, .int a, .int b] (moF M m F A) z (mR M m F A (if vI q.1 a ∧ vI c b then tsI q.2.2.2.2.1 q.2.2.2.2.2.1 b q.1 a 0 else -2)) := by
  obtain ⟨⟨c1, c2, c3, c4, c5⟩, ⟨k1, k2, k3, k4, ln, k5, k6, k7⟩, hd, hv, he, hI, hV, hn⟩ := id hX
  have b1 := hI.1
  have b2 := hI.2.1
  refine zin ym_Mo_often [.ref m, .int a, .int b, .retAddr 0, .retAddr 0] rfl rfl rfl rfl ?_
  refine z_aload_n (q := 1) rfl rfl rfl ?_
  refine z_iload_n (q := 2) rfl rfl rfl ?_
  refine z_cv1qi (q := 5) rfl rfl rfl (Mo_k w) (q_Mo_isVersion w hX) (fun x9 M9 h9 => ?_)
  obtain ⟨rfl, FF, AA, rfl, ww⟩ := h9
  refine z_if_eq (q := 8) rfl rfl (fun h5 => ?_) (fun h5 => ?_)
  · refine z_bipush (q := 18) (v := -2) rfl rfl rfl ?_
    refine z_ireti rfl rfl ?_
    first
      | exact qz_f (fun h => bz_0.mp h13 h.2) ⟨FF, AA, rfl, mPe_w ww⟩
      | exact qz_f (fun h => bz_0.mp h5 h.1) ⟨FF, AA, rfl, mPe_w ww⟩
      | fail "none"
  · refine z_aload_n (q := 9) rfl rfl rfl ?_
    obtain ⟨j, hj, rfl⟩ := vI_nat (by omega) (bz_n.mp h5)
    refine z_iload_n (q := 10) rfl rfl rfl ?_
    refine z_cv1i (q := 13) rfl rfl rfl (Mo_k w) (s_Mo_isCell w ((congrFun (ww.2.1.2.2.2 1 (by omega)) 0).trans k1) c2 c1) ?_
    refine z_if_ne (q := 16) rfl rfl (fun h13 => ?_) (fun h13 => ?_)
    · refine z_iconst (q := 20) (v := 0) rfl rfl rfl ?_
      obtain ⟨i, hi, rfl⟩ := vI_nat (by omega) (bz_n.mp h13)
      refine z_istore_n (q := 21) (L2 := [_, _, _, _, _]) rfl rfl rfl rfl ?_
      refine z_iload_n (q := 22) rfl rfl rfl ?_
      refine z_istore (q := 24) (L2 := [_, _, _, _, _]) rfl rfl rfl rfl ?_
      refine mz_wp_m (mz_Kd_m sc sa _) ?_ (l_Mo_often (d := d + 11) w ww.2.2.1 hI c1 hi q.1 j 0 hj hj rfl)
      intro r9 M9 h
      rw [h.1, h.2]
      exact qz_t ⟨bz_n.mp h5, bz_n.mp h13⟩ (rfl) ⟨FF, AA, rfl, mPe_w ww⟩
    · refine z_bipush (q := 18) (v := -2) rfl rfl rfl ?_
      refine z_ireti rfl rfl ?_
      first
        | exact qz_f (fun h => bz_0.mp h13 h.2) ⟨FF, AA, rfl, mPe_w ww⟩
        | exact qz_f (fun h => bz_0.mp h5 h.1) ⟨FF, AA, rfl, mPe_w ww⟩
        | fail "none"
