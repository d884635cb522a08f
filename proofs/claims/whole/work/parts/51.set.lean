theorem rc_s {s l t : Int32} {n j : Nat} {lt lc : Nat → Int32} {p : Int32} (h : l = 2 ∧ ¬ nI (wl lt n j) ≤ t) : rcF s l t n j lt lc p = (va_up lt j (-1), va_up lc j (-1), p + (nI (wl lt n j) + s)) := if_pos h
theorem rc_t {s l t : Int32} {n j : Nat} {lt lc : Nat → Int32} {p : Int32} (h : ¬ (l = 2 ∧ ¬ nI (wl lt n j) ≤ t)) : rcF s l t n j lt lc p = ((twF n (nI j) (-1) (-1) lt lc).1, (twF n (nI j) (-1) (-1) lt lc).2, p + nI (wl lt n j)) := if_neg h
theorem rd_1 {s l t : Int32} {n j : Nat} {cell : Int32} {lt lc : Nat → Int32} {p : Int32} (h : l = 1) : rdF s l t n j cell lt lc p = (lt, lc, p + nI (la lt lc cell n j)) := if_pos h
theorem rd_0 {s l t : Int32} {n j : Nat} {cell : Int32} {lt lc : Nat → Int32} {p : Int32} (h : ¬ l = 1) : rdF s l t n j cell lt lc p = rcF s l t n j lt lc p := if_neg h
theorem c_Mo_reach {sc : Option (Nat × Nat × (Nat → Int32))} {sa : Nat → Nat} {d : Nat} {M : mz_M} {z : Nat × Nat} {m : Nat} (w : g_Mo M.2.2 m) {F : Nat → Int32} {A : Nat → Nat → Int32} {n : Nat} (hf : acy (A 8) n) (hn : n ≤ 201) {c N : Nat} (hc : lcA (A 8) (A 9) c n) (hC : c ≤ 12) {v : Nat} (hv : v < n) : zv sc sa (d + 4) 181 [.ref m, .int (nI v)] (moF M m F A) z (fun M' => ∃ A', M' = moF M m (va_up F 17 (rcF (A 1 0) (F 15) (F 16) n v (A 8) (A 9) (F 17)).2.2) A' ∧ A' 8 = (rcF (A 1 0) (F 15) (F 16) n v (A 8) (A 9) (F 17)).1 ∧ A' 9 = (rcF (A 1 0) (F 15) (F 16) n v (A 8) (A 9) (F 17)).2.1 ∧ fr8 A A' ∧ (lnA A N → lnA A' N)) := by
  refine zin ym_Mo_reach [.ref m, .int (nI v)] rfl rfl rfl rfl ?_
  refine z_aload_n (q := 1) rfl rfl rfl ?_
  refine z_getI (q := 4) rfl rfl rfl (Mo_k w) ?_
  rw [moF_g15]
  refine z_iconst (q := 5) (v := 2) rfl rfl rfl ?_
  refine z_ic_ne (q := 8) rfl rfl (fun h5 => ?_) (fun h5 => ?_)
  · refine z_aload_n (q := 29) rfl rfl rfl ?_
    refine z_iload_n (q := 30) rfl rfl rfl ?_
    refine z_cv1qv (q := 33) rfl rfl rfl (Mo_k w) (c_Mo_turns (N := N) w hf hn hc hC hv) (fun M9 h9 => ?_)
    obtain ⟨A1, rfl, e8, e9, e0, e10⟩ := h9
    refine z_ret rfl rfl ?_
    first
      | (have hr : (rcF (A 1 0) (F 15) (F 16) n v (A 8) (A 9) (F 17)) = _ := rc_s ⟨h5, h17⟩
         exact ⟨rfl, stA A v, by rw [hr], by rw [hr]; rfl, by rw [hr]; rfl, fr8_st, lnA_st⟩)
      | (have hr : (rcF (A 1 0) (F 15) (F 16) n v (A 8) (A 9) (F 17)) = _ := rc_t (fun h => h5 h.1)
         exact ⟨rfl, A1, by rw [hr], by rw [hr]; exact e8, by rw [hr]; exact e9, e0, e10⟩)
      | (have hr : (rcF (A 1 0) (F 15) (F 16) n v (A 8) (A 9) (F 17)) = _ := rc_t (fun h => h.2 h17)
         exact ⟨rfl, A1, by rw [hr], by rw [hr]; exact e8, by rw [hr]; exact e9, e0, e10⟩)
  · refine z_aload_n (q := 9) rfl rfl rfl ?_
    refine z_iload_n (q := 10) rfl rfl rfl ?_
    refine z_cv1i (q := 13) rfl rfl rfl (Mo_k w) (s_Mo_lengthOf w hf hn hv) ?_
    refine z_aload_n (q := 14) rfl rfl rfl ?_
    refine z_getI (q := 17) rfl rfl rfl (Mo_k w) ?_
    rw [moF_g16]
    refine z_ic_le (q := 20) rfl rfl (fun h17 => ?_) (fun h17 => ?_)
    · refine z_aload_n (q := 29) rfl rfl rfl ?_
      refine z_iload_n (q := 30) rfl rfl rfl ?_
      refine z_cv1qv (q := 33) rfl rfl rfl (Mo_k w) (c_Mo_turns (N := N) w hf hn hc hC hv) (fun M9 h9 => ?_)
      obtain ⟨A1, rfl, e8, e9, e0, e10⟩ := h9
      refine z_ret rfl rfl ?_
      first
        | (have hr : (rcF (A 1 0) (F 15) (F 16) n v (A 8) (A 9) (F 17)) = _ := rc_s ⟨h5, h17⟩
           exact ⟨rfl, stA A v, by rw [hr], by rw [hr]; rfl, by rw [hr]; rfl, fr8_st, lnA_st⟩)
        | (have hr : (rcF (A 1 0) (F 15) (F 16) n v (A 8) (A 9) (F 17)) = _ := rc_t (fun h => h5 h.1)
           exact ⟨rfl, A1, by rw [hr], by rw [hr]; exact e8, by rw [hr]; exact e9, e0, e10⟩)
        | (have hr : (rcF (A 1 0) (F 15) (F 16) n v (A 8) (A 9) (F 17)) = _ := rc_t (fun h => h.2 h17)
           exact ⟨rfl, A1, by rw [hr], by rw [hr]; exact e8, by rw [hr]; exact e9, e0, e10⟩)
    · refine z_aload_n (q := 21) rfl rfl rfl ?_
      refine z_iload_n (q := 22) rfl rfl rfl ?_
      refine z_cv1v (q := 25) rfl rfl rfl (Mo_k w) (s_Mo_snap w hf hn hv) ?_
      refine z_goto rfl ?_
      refine z_ret rfl rfl ?_
      first
        | (have hr : (rcF (A 1 0) (F 15) (F 16) n v (A 8) (A 9) (F 17)) = _ := rc_s ⟨h5, h17⟩
           exact ⟨rfl, stA A v, by rw [hr], by rw [hr]; rfl, by rw [hr]; rfl, fr8_st, lnA_st⟩)
        | (have hr : (rcF (A 1 0) (F 15) (F 16) n v (A 8) (A 9) (F 17)) = _ := rc_t (fun h => h5 h.1)
           exact ⟨rfl, A1, by rw [hr], by rw [hr]; exact e8, by rw [hr]; exact e9, e0, e10⟩)
        | (have hr : (rcF (A 1 0) (F 15) (F 16) n v (A 8) (A 9) (F 17)) = _ := rc_t (fun h => h.2 h17)
           exact ⟨rfl, A1, by rw [hr], by rw [hr]; exact e8, by rw [hr]; exact e9, e0, e10⟩)
theorem c_Mo_read {sc : Option (Nat × Nat × (Nat → Int32))} {sa : Nat → Nat} {d : Nat} {M : mz_M} {z : Nat × Nat} {m : Nat} (w : g_Mo M.2.2 m) {F : Nat → Int32} {A : Nat → Nat → Int32} {n : Nat} (hf : acy (A 8) n) (hn : n ≤ 201) {c N : Nat} (hc : lcA (A 8) (A 9) c n) (hC : c ≤ 12) {v i : Nat} (hv : v < n) (hi : i < 12) : zi sc sa (d + 5) 183 [.ref m, .int (nI v), .int (nI i)] (moF M m F A) z (fun x M' => x = A 4 (12 * v + i) ∧ ∃ A', M' = moF M m (va_up F 17 (rdF (A 1 0) (F 15) (F 16) n v (nI i) (A 8) (A 9) (F 17)).2.2) A' ∧ A' 8 = (rdF (A 1 0) (F 15) (F 16) n v (nI i) (A 8) (A 9) (F 17)).1 ∧ A' 9 = (rdF (A 1 0) (F 15) (F 16) n v (nI i) (A 8) (A 9) (F 17)).2.1 ∧ fr8 A A' ∧ (lnA A N → lnA A' N)) := by
  refine zin ym_Mo_read [.ref m, .int (nI v), .int (nI i)] rfl rfl rfl rfl ?_
  refine z_aload_n (q := 1) rfl rfl rfl ?_
  refine z_getI (q := 4) rfl rfl rfl (Mo_k w) ?_
  rw [moF_g15]
  refine z_iconst (q := 5) (v := 1) rfl rfl rfl ?_
  refine z_ic_ne (q := 8) rfl rfl (fun h5 => ?_) (fun h5 => ?_)
  · refine z_aload_n (q := 27) rfl rfl rfl ?_
    refine z_iload_n (q := 28) rfl rfl rfl ?_
    refine z_cv1qv (q := 31) rfl rfl rfl (Mo_k w) (c_Mo_reach (N := N) w hf hn hc hC hv) (fun M9 h9 => ?_)
    obtain ⟨A1, rfl, e8, e9, e0, e10⟩ := h9
    refine z_aload_n (q := 32) rfl rfl rfl ?_
    refine z_iload_n (q := 33) rfl rfl rfl ?_
    refine z_iload_n (q := 34) rfl rfl rfl ?_
    refine z_cv2i (q := 37) rfl rfl rfl (Mo_k w) (s_Mo_at w (by omega) hi) ?_
    refine z_ireti rfl rfl ?_
    first
      | (have hr : (rdF (A 1 0) (F 15) (F 16) n v (nI i) (A 8) (A 9) (F 17)) = _ := rd_1 h5
         exact ⟨_, rfl, rfl, A, by rw [hr], by rw [hr], by rw [hr], fr8_r, id⟩)
      | (have hr : (rdF (A 1 0) (F 15) (F 16) n v (nI i) (A 8) (A 9) (F 17)) = _ := rd_0 h5
         exact ⟨_, rfl, congrFun (e0 4 (by omega)) _, A1, by rw [hr], by rw [hr]; exact e8, by rw [hr]; exact e9, e0, e10⟩)
  · refine z_aload_n (q := 9) rfl rfl rfl ?_
    refine z_dup (q := 10) rfl rfl rfl ?_
    refine z_getI (q := 13) rfl rfl rfl (Mo_k w) ?_
    rw [moF_g17]
    refine z_aload_n (q := 14) rfl rfl rfl ?_
    refine z_iload_n (q := 15) rfl rfl rfl ?_
    refine z_iload_n (q := 16) rfl rfl rfl ?_
    refine z_cv2i (q := 19) rfl rfl rfl (Mo_k w) (s_Mo_along w hf hn hv) ?_
    refine z_iadd (q := 20) rfl rfl ?_
    refine z_putI (q := 23) rfl rfl rfl (by decide) rfl rfl (Mo_k w) ?_
    rw [moF_u17]
    refine z_goto rfl ?_
    refine z_aload_n (q := 32) rfl rfl rfl ?_
    refine z_iload_n (q := 33) rfl rfl rfl ?_
    refine z_iload_n (q := 34) rfl rfl rfl ?_
    refine z_cv2i (q := 37) rfl rfl rfl (Mo_k w) (s_Mo_at w (by omega) hi) ?_
    refine z_ireti rfl rfl ?_
    first
      | (have hr : (rdF (A 1 0) (F 15) (F 16) n v (nI i) (A 8) (A 9) (F 17)) = _ := rd_1 h5
         exact ⟨_, rfl, rfl, A, by rw [hr], by rw [hr], by rw [hr], fr8_r, id⟩)
      | (have hr : (rdF (A 1 0) (F 15) (F 16) n v (nI i) (A 8) (A 9) (F 17)) = _ := rd_0 h5
         exact ⟨_, rfl, congrFun (e0 4 (by omega)) _, A1, by rw [hr], by rw [hr]; exact e8, by rw [hr]; exact e9, e0, e10⟩)
-- the reference's rows hold a shelf's state
def mAg (c : Nat) (F : Nat → Int32) (A : Nat → Nat → Int32) (q : sQ) : Prop := F 14 = nI q.1 ∧ F 17 = q.2.2.2.2.2.2 ∧ A 8 = q.2.2.1 ∧ A 9 = q.2.2.2.1 ∧ A 5 = q.2.2.2.2.1 ∧ A 6 = q.2.2.2.2.2.1 ∧ (∀ v, v < q.1 → ∀ i, i < c → A 4 (12 * v + i) = nmI (q.2.1 v) (nI i)) ∧ (∀ v, v < q.1 → A 7 v = if q.2.2.2.2.1 v = -1 then -1 else nmI (q.2.1 v) (q.2.2.2.2.2.1 v)) ∧ lnA A q.1
def mFr (F : Nat → Int32) (A : Nat → Nat → Int32) (F' : Nat → Int32) (A' : Nat → Nat → Int32) : Prop := (∀ k, k ≠ 14 → k ≠ 17 → F' k = F k) ∧ ∀ j, (j < 4 ∨ 11 < j) → A' j = A j
theorem mFr_r {F : Nat → Int32} {A : Nat → Nat → Int32} : mFr F A F A := ⟨fun _ _ _ => rfl, fun _ _ => rfl⟩
theorem mFr_t {F F1 F2 : Nat → Int32} {A A1 A2 : Nat → Nat → Int32} (h : mFr F A F1 A1) (g : mFr F1 A1 F2 A2) : mFr F A F2 A2 := ⟨fun k a b => (g.1 k a b).trans (h.1 k a b), fun j hj => (g.2 j hj).trans (h.2 j hj)⟩
def mP (M : mz_M) (m : Nat) (F : Nat → Int32) (A : Nat → Nat → Int32) (c : Nat) (q : sQ) (r : Int32) (x : Int32) (M' : mz_M) : Prop := x = r ∧ ∃ F' A', M' = moF M m F' A' ∧ mFr F A F' A' ∧ mAg c F' A' q
theorem mAg_rd {c : Nat} {F : Nat → Int32} {A : Nat → Nat → Int32} {q : sQ} {A' : Nat → Nat → Int32} {s l t : Int32} {v : Nat} {a : Int32} (h : mAg c F A q) (e8 : A' 8 = (rdF s l t q.1 v a (A 8) (A 9) (F 17)).1) (e9 : A' 9 = (rdF s l t q.1 v a (A 8) (A 9) (F 17)).2.1) (e0 : fr8 A A') (e10 : lnA A q.1 → lnA A' q.1) : mAg c (va_up F 17 (rdF s l t q.1 v a (A 8) (A 9) (F 17)).2.2) A' (rdQ s l t v a q) := by
  obtain ⟨h1, h2, h3, h4, h5, h6, h7, h8, h9⟩ := h
  rw [h3, h4, h2] at e8 e9
  rw [h3, h4, h2]
  refine ⟨h1, rfl, e8, e9, (e0 5 (by omega)).trans h5, (e0 6 (by omega)).trans h6, ?_, ?_, e10 h9⟩
  · intro u hu i hi
    rw [e0 4 (by omega)]
    exact h7 u hu i hi
  · intro u hu
    rw [e0 7 (by omega)]
    exact h8 u hu
theorem q_Mo_read {sc : Option (Nat × Nat × (Nat → Int32))} {sa : Nat → Nat} {d : Nat} {M : mz_M} {z : Nat × Nat} {m : Nat} (w : g_Mo M.2.2 m) {F : Nat → Int32} {A : Nat → Nat → Int32} {c : Nat} {q : sQ} {s l t : Int32} (hq : mAg c F A q) (hI : qI c q) (hC : c ≤ 12) (hs : A 1 0 = s) (hl : F 15 = l) (ht : F 16 = t) {v i : Nat} (hv : v < q.1) (hi : i < c) : zi sc sa (d + 5) 183 [.ref m, .int (nI v), .int (nI i)] (moF M m F A) z (mP M m F A c (rdQ s l t v (nI i) q) (nmI (q.2.1 v) (nI i))) := by
  obtain ⟨i1, i2, i3, i4, i5, i6⟩ := hI
  refine zi_m ?_ (c_Mo_read (N := q.1) (n := q.1) w (by rw [hq.2.2.1]; exact i3) i2 (c := c) (by rw [hq.2.2.1, hq.2.2.2.1]; exact i4) hC hv (by omega))
  intro x M1 ⟨e1, A1, e2, e8, e9, e0, e10⟩
  rw [hs, hl, ht] at e8 e9 e2
  exact ⟨e1.trans (hq.2.2.2.2.2.2.1 v hv i hi), _, A1, e2, ⟨fun k _ b => up_n b, fun j hj => e0 j (by omega)⟩, mAg_rd hq e8 e9 e0 e10⟩
theorem l_Mo_set {sc : Option (Nat × Nat × (Nat → Int32))} {sa : Nat → Nat} {d : Nat} {M : mz_M} {z : Nat × Nat} {m : Nat} (w : g_Mo M.2.2 m) {F : Nat → Int32} {A : Nat → Nat → Int32} {v n : Nat} (hv : v < n) (hn : n ≤ 200) {x2 x3 : Int32} {Q : mz_P} (hk : ∀ R, (∀ x, x < 12 * n → R x = A 4 x) → (∀ j, j < 12 → R (12 * n + j) = A 4 (12 * v + j)) → zw sc sa (d + 1) ym_Mo_set z Q 52 [.ref m, .int (nI v), .int x2, .int x3, .int (nI n), .int (nI 12)] [] (moF M m F (va_up A 4 R)) z) : ∀ (k : Nat) (i : Nat) (R : Nat → Int32), i + k = 12 → (∀ x, x < 12 * n → R x = A 4 x) → (∀ j, j < i → R (12 * n + j) = A 4 (12 * v + j)) → zw sc sa (d + 1) ym_Mo_set z Q 19 [.ref m, .int (nI v), .int x2, .int x3, .int (nI n), .int (nI i)] [] (moF M m F (va_up A 4 R)) z := by
  intro k
  induction k with
  | zero =>
    intro i R hi h1 h2
    have e1 : i = 12 := by omega
    subst e1
    refine z_iload (q := 21) rfl rfl rfl ?_
    refine z_bipush (q := 23) (v := 12) rfl rfl rfl ?_
    refine z_ic_ge (q := 26) rfl rfl (fun h23 => ?_) (fun h23 => ?_)
    · exact hk R h1 h2
    · exact absurd (show (12 : Int32) ≤ nI 12 from Int32.le_refl _) h23
  | succ k ih =>
    intro i R hi h1 h2
    refine z_iload (q := 21) rfl rfl rfl ?_
    refine z_bipush (q := 23) (v := 12) rfl rfl rfl ?_
    refine z_ic_ge (q := 26) rfl rfl (fun h23 => ?_) (fun h23 => ?_)
    · exact absurd h23 (show ¬ nI 12 ≤ nI i from nI_ge (by omega) (by omega))
    · refine z_aload_n (q := 27) rfl rfl rfl ?_
      refine z_getR (q := 30) rfl rfl rfl (Mo_k w) (Mo_r6 w) ?_
      refine z_bipush (q := 32) (v := 12) rfl rfl rfl ?_
      refine z_iload (q := 34) rfl rfl rfl ?_
      refine z_imul (q := 35) rfl rfl ?_
      refine z_iload (q := 37) rfl rfl rfl ?_
      refine z_iadd (q := 38) rfl rfl ?_
      rw [mo_ix]
      refine z_aload_n (q := 39) rfl rfl rfl ?_
      refine z_iload_n (q := 40) rfl rfl rfl ?_
      refine z_iload (q := 42) rfl rfl rfl ?_
      refine z_cv2i (q := 45) rfl rfl rfl (Mo_k w) (s_Mo_at w (by omega) (by omega)) ?_
      refine z_iast (q := 46) rfl rfl (Mo_a6 w) (by first | assumption | exact vp_in_nI (by omega) (by omega)) ?_
      rw [moF_w6]
      try rw [nI_clamp (by omega)]
      refine z_iinc (q := 49) (L2 := [_, _, _, _, _, _]) rfl rfl rfl rfl ?_
      refine z_goto rfl ?_
      rw [show nI i + Int32.ofInt 1 = nI (i + 1) from (nI_succ i).symm]
      rw [show va_up (va_up A 4 R) 4 (va_up (va_up A 4 R 4) (12 * n + i) (va_up A 4 R 4 (12 * v + i))) = va_up A 4 (va_up R (12 * n + i) (R (12 * v + i))) from up_u]
      refine ih (i + 1) _ (by omega) (fun x hx => ?_) (fun j hj => ?_)
      · rw [up_n (by omega)]
        exact h1 x hx
      · by_cases e : j = i
        · rw [e, up_s]
          exact h1 _ (by omega)
        · rw [up_n (by omega)]
          exact h2 j (by omega)
theorem mAg_set {c : Nat} {F F' : Nat → Int32} {A A' : Nat → Nat → Int32} {q : sQ} {s l t : Int32} {v i y : Nat} (h : mAg c F A q) (hv : v < q.1) (hn : q.1 ≤ 200) (hi : i < c) (hC : c ≤ 12) (hy : y < 16)
    (f14 : F' 14 = nI (q.1 + 1)) (f17 : F' 17 = (stF s l t q.1 v (nI i) (A 8) (A 9) (F 17)).2.2) (e8 : A' 8 = (stF s l t q.1 v (nI i) (A 8) (A 9) (F 17)).1) (e9 : A' 9 = (stF s l t q.1 v (nI i) (A 8) (A 9) (F 17)).2.1) (e5 : A' 5 = va_up (A 5) q.1 (nI v)) (e6 : A' 6 = va_up (A 6) q.1 (nI i)) (e7 : A' 7 = va_up (A 7) q.1 (nI y)) (e4 : ∀ x, x < 12 * q.1 → A' 4 x = A 4 x) (e4' : ∀ j, j < 12 → A' 4 (12 * q.1 + j) = if j = i then nI y else A 4 (12 * v + j)) (e10 : lnA A' (q.1 + 1)) : mAg c F' A' (setQ s l t v (nI i) (nI y) q) := by
  obtain ⟨h1, h2, h3, h4, h5, h6, h7, h8, h9⟩ := h
  rw [h3, h4, h2] at e8 e9 f17
  refine ⟨f14, f17, e8, e9, by rw [e5, h5]; rfl, by rw [e6, h6]; rfl, ?_, ?_, e10⟩
  · intro u hu k hk
    show A' 4 (12 * u + k) = nmI (va_up q.2.1 q.1 (wnI (q.2.1 v) (nI i) (nI y)) u) (nI k)
    have hu2 : u < q.1 + 1 := hu
    by_cases e : u = q.1
    · rw [e, up_s, e4' k (by omega), nm_wn (by omega) (by omega) hy, h7 v hv k hk]
    · rw [up_n e, e4 _ (by omega)]
      exact h7 u (by omega) k hk
  · intro u hu
    show A' 7 u = if va_up q.2.2.2.2.1 q.1 (nI v) u = -1 then -1 else nmI (va_up q.2.1 q.1 (wnI (q.2.1 v) (nI i) (nI y)) u) (va_up q.2.2.2.2.2.1 q.1 (nI i) u)
    have hu2 : u < q.1 + 1 := hu
    rw [e7]
    by_cases e : u = q.1
    · rw [e, up_s, up_s, up_s, up_s, if_neg (nI_m1 (by omega)), nm_wn (by omega) (by omega) hy, if_pos rfl]
    · rw [up_n e, up_n e, up_n e, up_n e]
      exact h8 u (by omega)
theorem lnA_grow {A : Nat → Nat → Int32} {n c : Nat} {R B5 B6 B7 : Nat → Int32} (h : lnA A n) (hc : lcA (A 8) (A 9) c n) (hC : c ≤ 12) (hR : ∀ x, x < 12 * n → R x = A 4 x) : lnA (va_up (va_up (va_up (va_up A 4 R) 5 B5) 6 B6) 7 B7) n := by
  intro u hu
  show A 10 u = if A 8 u = -1 then -1 else R (12 * u + (A 9 u).toNatClampNeg)
  rw [h u hu]
  by_cases e : A 8 u = -1
  · rw [if_pos e, if_pos e]
  · obtain ⟨i, h1, h2⟩ := (hc u hu).2 e
    rw [if_neg e, if_neg e, h2, nI_clamp (by omega), hR _ (by omega)]
theorem lnA_st1 {A : Nat → Nat → Int32} {n : Nat} (h : lnA A n) : lnA (stA A n) (n + 1) := by
  intro u hu
  show va_up (A 10) n (-1) u = if va_up (A 8) n (-1) u = -1 then -1 else A 4 (12 * u + (va_up (A 9) n (-1) u).toNatClampNeg)
  by_cases e : u = n
  · rw [e, up_s, up_s, if_pos rfl]
  · rw [up_n e, up_n e, up_n e]
    exact h u (by omega)
theorem lnA_lk1 {A : Nat → Nat → Int32} {n : Nat} {to c : Nat} (h : lnA A n) (ht : to < 2 ^ 31) (hc : c < 12) : lnA (lkA A n (nI to) c) (n + 1) := by
  intro u hu
  show va_up (A 10) n (A 4 (12 * n + c)) u = if va_up (A 8) n (nI to) u = -1 then -1 else A 4 (12 * u + (va_up (A 9) n (nI c) u).toNatClampNeg)
  by_cases e : u = n
  · rw [e, up_s, up_s, up_s, if_neg (nI_m1 ht), nI_clamp (by omega)]
  · rw [up_n e, up_n e, up_n e]
    exact h u (by omega)
theorem st_1 {s l t : Int32} {n j : Nat} {cell : Int32} {lt lc : Nat → Int32} {p : Int32} (h : l = 1) : stF s l t n j cell lt lc p = (va_up (va_up lt n (-1)) n (nI j), va_up (va_up lc n (-1)) n cell, p + 1) := if_pos h
theorem st_0 {s l t : Int32} {n j : Nat} {cell : Int32} {lt lc : Nat → Int32} {p : Int32} (h : ¬ l = 1) : stF s l t n j cell lt lc p = (va_up (va_up (rcF s l t n j lt lc p).1 n (-1)) j (nI n), va_up (va_up (rcF s l t n j lt lc p).2.1 n (-1)) j cell, (rcF s l t n j lt lc p).2.2 + 1) := if_neg h
theorem q_Mo_set {sc : Option (Nat × Nat × (Nat → Int32))} {sa : Nat → Nat} {d : Nat} {M : mz_M} {z : Nat × Nat} {m : Nat} (w : g_Mo M.2.2 m) {F : Nat → Int32} {A : Nat → Nat → Int32} {c : Nat} {q : sQ} {s l t : Int32} (hq : mAg c F A q) (hI : qI c q) (hC : c ≤ 12) (hs : A 1 0 = s) (hl : F 15 = l) (ht : F 16 = t) {v i y : Nat} (hv : v < q.1) (hn : q.1 ≤ 200) (hi : i < c) (hy : y < 16) : zi sc sa (d + 5) 184 [.ref m, .int (nI v), .int (nI i), .int (nI y)] (moF M m F A) z (mP M m F A c (setQ s l t v (nI i) (nI y) q) (nI q.1)) := by
  have k14 := hq.1
  obtain ⟨i1, i2, i3, i4, i5, i6⟩ := hI
  have k3 : lcA (A 8) (A 9) c q.1 := by rw [hq.2.2.1, hq.2.2.2.1]; exact i4
  refine zin ym_Mo_set [.ref m, .int (nI v), .int (nI i), .int (nI y), .retAddr 0, .retAddr 0] rfl rfl rfl rfl ?_
  refine z_aload_n (q := 1) rfl rfl rfl ?_
  refine z_getI (q := 4) rfl rfl rfl (Mo_k w) ?_
  rw [moF_g14]
  rw [k14]
  refine z_istore (q := 6) (L2 := [_, _, _, _, _, _]) rfl rfl rfl rfl ?_
  refine z_aload_n (q := 7) rfl rfl rfl ?_
  refine z_dup (q := 8) rfl rfl rfl ?_
  refine z_getI (q := 11) rfl rfl rfl (Mo_k w) ?_
  rw [moF_g14]
  rw [k14]
  refine z_iconst (q := 12) (v := 1) rfl rfl rfl ?_
  refine z_iadd (q := 13) rfl rfl ?_
  rw [nI_1]
  refine z_putI (q := 16) rfl rfl rfl (by decide) rfl rfl (Mo_k w) ?_
  rw [moF_u14]
  refine z_iconst (q := 17) (v := 0) rfl rfl rfl ?_
  refine z_istore (q := 19) (L2 := [_, _, _, _, _, _]) rfl rfl rfl rfl ?_
  refine Eq.mp (congrArg (fun B => zw sc sa (d + 4) ym_Mo_set z _ 19 [.ref m, .int (nI v), .int (nI i), .int (nI y), .int (nI q.1), .int 0] [] (moF M m (va_up F 14 (nI (q.1 + 1))) B) z) (up_e (f := A) (k := 4))) ?_
  refine l_Mo_set (d := d + 3) w hv hn (fun R hR hR2 => ?_) 12 0 (A 4) rfl (fun x hx => rfl) (fun j hj => absurd hj (Nat.not_lt_zero _))
  have g4 : ∀ j, j < 12 → va_up R (12 * q.1 + i) (nI y) (12 * q.1 + j) = if j = i then nI y else A 4 (12 * v + j) := by
    intro j hj
    by_cases e : j = i
    · rw [if_pos e, e, up_s]
    · rw [if_neg e, up_n (by omega)]
      exact hR2 j hj
  refine z_aload_n (q := 53) rfl rfl rfl ?_
  refine z_getR (q := 56) rfl rfl rfl (Mo_k w) (Mo_r6 w) ?_
  refine z_bipush (q := 58) (v := 12) rfl rfl rfl ?_
  refine z_iload (q := 60) rfl rfl rfl ?_
  refine z_imul (q := 61) rfl rfl ?_
  refine z_iload_n (q := 62) rfl rfl rfl ?_
  refine z_iadd (q := 63) rfl rfl ?_
  rw [mo_ix]
  refine z_iload_n (q := 64) rfl rfl rfl ?_
  refine z_iast (q := 65) rfl rfl (Mo_a6 w) (by first | assumption | exact vp_in_nI (by omega) (by omega)) ?_
  rw [moF_w6]
  try rw [nI_clamp (by omega)]
  refine z_aload_n (q := 66) rfl rfl rfl ?_
  refine z_getR (q := 69) rfl rfl rfl (Mo_k w) (Mo_r7 w) ?_
  refine z_iload (q := 71) rfl rfl rfl ?_
  refine z_iload_n (q := 72) rfl rfl rfl ?_
  refine z_iast (q := 73) rfl rfl (Mo_a7 w) (by first | assumption | exact vp_in_nI (by omega) (by omega)) ?_
  rw [moF_w7]
  try rw [nI_clamp (by omega)]
  refine z_aload_n (q := 74) rfl rfl rfl ?_
  refine z_getR (q := 77) rfl rfl rfl (Mo_k w) (Mo_r8 w) ?_
  refine z_iload (q := 79) rfl rfl rfl ?_
  refine z_iload_n (q := 80) rfl rfl rfl ?_
  refine z_iast (q := 81) rfl rfl (Mo_a8 w) (by first | assumption | exact vp_in_nI (by omega) (by omega)) ?_
  rw [moF_w8]
  try rw [nI_clamp (by omega)]
  refine z_aload_n (q := 82) rfl rfl rfl ?_
  refine z_getR (q := 85) rfl rfl rfl (Mo_k w) (Mo_r9 w) ?_
  refine z_iload (q := 87) rfl rfl rfl ?_
  refine z_iload_n (q := 88) rfl rfl rfl ?_
  refine z_iast (q := 89) rfl rfl (Mo_a9 w) (by first | assumption | exact vp_in_nI (by omega) (by omega)) ?_
  rw [moF_w9]
  try rw [nI_clamp (by omega)]
  refine z_aload_n (q := 90) rfl rfl rfl ?_
  refine z_getI (q := 93) rfl rfl rfl (Mo_k w) ?_
  rw [moF_g15]
  refine z_iconst (q := 94) (v := 1) rfl rfl rfl ?_
  refine z_ic_ne (q := 97) rfl rfl (fun h94 => ?_) (fun h94 => ?_)
  · refine z_aload_n (q := 109) rfl rfl rfl ?_
    refine z_iload_n (q := 110) rfl rfl rfl ?_
    rw [show va_up (va_up (va_up (va_up (va_up A 4 R) 4 (va_up (va_up A 4 R 4) (12 * q.1 + i) (nI y))) 5 _) 6 _) 7 _ = (va_up (va_up (va_up (va_up A 4 (va_up R (12 * q.1 + i) (nI y))) 5 (va_up (A 5) q.1 (nI v))) 6 (va_up (A 6) q.1 (nI i))) 7 (va_up (A 7) q.1 (nI y))) from by rw [up_u]; rfl]
    refine z_cv1qv (q := 113) rfl rfl rfl (Mo_k w) (c_Mo_reach (N := q.1) (n := q.1) (c := c) (A := (va_up (va_up (va_up (va_up A 4 (va_up R (12 * q.1 + i) (nI y))) 5 (va_up (A 5) q.1 (nI v))) 6 (va_up (A 6) q.1 (nI i))) 7 (va_up (A 7) q.1 (nI y)))) w (by show acy (A 8) q.1; rw [hq.2.2.1]; exact i3) i2 (by show lcA (A 8) (A 9) c q.1; rw [hq.2.2.1, hq.2.2.2.1]; exact i4) hC hv) (fun M9 h9 => ?_)
    obtain ⟨A1, rfl, e8, e9, e0, e10⟩ := h9
    refine z_aload_n (q := 114) rfl rfl rfl ?_
    refine z_iload (q := 116) rfl rfl rfl ?_
    refine z_cv1v (q := 119) rfl rfl rfl (Mo_k w) (s_Mo_straight w (by omega)) ?_
    refine z_aload_n (q := 120) rfl rfl rfl ?_
    refine z_iload_n (q := 121) rfl rfl rfl ?_
    refine z_iload (q := 123) rfl rfl rfl ?_
    refine z_iload_n (q := 124) rfl rfl rfl ?_
    refine z_cv3v (q := 127) rfl rfl rfl (Mo_k w) (s_Mo_links w (by omega) (by omega)) ?_
    refine z_aload_n (q := 128) rfl rfl rfl ?_
    refine z_dup (q := 129) rfl rfl rfl ?_
    refine z_getI (q := 132) rfl rfl rfl (Mo_k w) ?_
    rw [moF_g17]
    refine z_iconst (q := 133) (v := 1) rfl rfl rfl ?_
    refine z_iadd (q := 134) rfl rfl ?_
    refine z_putI (q := 137) rfl rfl rfl (by decide) rfl rfl (Mo_k w) ?_
    rw [moF_u17]
    refine z_iload (q := 139) rfl rfl rfl ?_
    refine z_ireti rfl rfl ?_
    first
      | (have hl1 : F 15 = 1 := h94
         have g1 : lnA (va_up (va_up (va_up (va_up A 4 (va_up R (12 * q.1 + i) (nI y))) 5 (va_up (A 5) q.1 (nI v))) 6 (va_up (A 6) q.1 (nI i))) 7 (va_up (A 7) q.1 (nI y))) q.1 := lnA_grow hq.2.2.2.2.2.2.2.2 k3 hC (fun x hx => (up_n (by omega)).trans (hR x hx))
         refine ⟨_, rfl, rfl, _, _, rfl, ⟨fun k a b => ?_, fun j hj => ?_⟩, mAg_set (i := i) (y := y) hq hv hn hi hC hy rfl ?_ ?_ ?_ rfl rfl rfl ?_ ?_ ?_⟩
         · exact (up_n b).trans (up_n a)
         · refine (up_n (by omega)).trans ((up_n (by omega)).trans ((up_n (by omega)).trans ((up_n (by omega)).trans ((up_n (by omega)).trans ((up_n (by omega)).trans ((up_n (by omega)).trans (up_n (by omega))))))))
         · rw [← hl, st_1 hl1]; rfl
         · rw [← hl, st_1 hl1]; exact up_u.symm
         · rw [← hl, st_1 hl1]; exact up_u.symm
         · exact fun x hx => (up_n (by omega)).trans (hR x hx)
         · exact g4
         · exact lnA_lk1 g1 (by omega) (by omega))
      | (have hl0 : ¬ F 15 = 1 := h94
         have g1 : lnA (va_up (va_up (va_up (va_up A 4 (va_up R (12 * q.1 + i) (nI y))) 5 (va_up (A 5) q.1 (nI v))) 6 (va_up (A 6) q.1 (nI i))) 7 (va_up (A 7) q.1 (nI y))) q.1 := lnA_grow hq.2.2.2.2.2.2.2.2 k3 hC (fun x hx => (up_n (by omega)).trans (hR x hx))
         have e8' : A1 8 = (rcF (A 1 0) (F 15) (F 16) q.1 v (A 8) (A 9) (F 17)).1 := e8
         have e9' : A1 9 = (rcF (A 1 0) (F 15) (F 16) q.1 v (A 8) (A 9) (F 17)).2.1 := e9
         rw [hs, hl, ht] at e8' e9'
         refine ⟨_, rfl, rfl, _, _, rfl, ⟨fun k a b => ?_, fun j hj => ?_⟩, mAg_set (i := i) (y := y) (s := s) (l := l) (t := t) hq hv hn hi hC hy rfl ?_ ?_ ?_ ?_ ?_ ?_ ?_ ?_ ?_⟩
         · exact (up_n b).trans ((up_n b).trans (up_n a))
         · refine (up_n (by omega)).trans ((up_n (by omega)).trans ((up_n (by omega)).trans ((up_n (by omega)).trans ((up_n (by omega)).trans ((up_n (by omega)).trans ((e0 j (by omega)).trans ?_))))))
           exact (up_n (by omega)).trans ((up_n (by omega)).trans ((up_n (by omega)).trans (up_n (by omega))))
         · rw [st_0 (by rw [← hl]; exact hl0), ← hs, ← hl, ← ht]; rfl
         · rw [st_0 (by rw [← hl]; exact hl0), ← e8']; rfl
         · rw [st_0 (by rw [← hl]; exact hl0), ← e9']; rfl
         · exact e0 5 (by omega)
         · exact e0 6 (by omega)
         · exact e0 7 (by omega)
         · exact fun x hx => (congrFun (e0 4 (by omega)) x).trans ((up_n (by omega)).trans (hR x hx))
         · exact fun j hj => (congrFun (e0 4 (by omega)) _).trans (g4 j hj)
         · exact lnA_lk (lnA_st1 (e10 g1)) (by omega) (by omega))
  · refine z_aload_n (q := 98) rfl rfl rfl ?_
    refine z_iload (q := 100) rfl rfl rfl ?_
    refine z_iload_n (q := 101) rfl rfl rfl ?_
    refine z_iload_n (q := 102) rfl rfl rfl ?_
    refine z_cv3v (q := 105) rfl rfl rfl (Mo_k w) (s_Mo_links w (by omega) (by omega)) ?_
    refine z_goto rfl ?_
    refine z_aload_n (q := 128) rfl rfl rfl ?_
    refine z_dup (q := 129) rfl rfl rfl ?_
    refine z_getI (q := 132) rfl rfl rfl (Mo_k w) ?_
    rw [moF_g17]
    refine z_iconst (q := 133) (v := 1) rfl rfl rfl ?_
    refine z_iadd (q := 134) rfl rfl ?_
    refine z_putI (q := 137) rfl rfl rfl (by decide) rfl rfl (Mo_k w) ?_
    rw [moF_u17]
    refine z_iload (q := 139) rfl rfl rfl ?_
    refine z_ireti rfl rfl ?_
    first
      | (have hl1 : F 15 = 1 := h94
         have g1 : lnA (va_up (va_up (va_up (va_up A 4 (va_up R (12 * q.1 + i) (nI y))) 5 (va_up (A 5) q.1 (nI v))) 6 (va_up (A 6) q.1 (nI i))) 7 (va_up (A 7) q.1 (nI y))) q.1 := lnA_grow hq.2.2.2.2.2.2.2.2 k3 hC (fun x hx => (up_n (by omega)).trans (hR x hx))
         refine ⟨_, rfl, rfl, _, _, rfl, ⟨fun k a b => ?_, fun j hj => ?_⟩, mAg_set (i := i) (y := y) hq hv hn hi hC hy rfl ?_ ?_ ?_ rfl rfl rfl ?_ ?_ ?_⟩
         · exact (up_n b).trans (up_n a)
         · refine (up_n (by omega)).trans ((up_n (by omega)).trans ((up_n (by omega)).trans ((up_n (by omega)).trans ((up_n (by omega)).trans ((up_n (by omega)).trans ((up_n (by omega)).trans (up_n (by omega))))))))
         · rw [← hl, st_1 hl1]; rfl
         · rw [← hl, st_1 hl1]; exact up_u.symm
         · rw [← hl, st_1 hl1]; exact up_u.symm
         · exact fun x hx => (up_n (by omega)).trans (hR x hx)
         · exact g4
         · exact lnA_lk1 g1 (by omega) (by omega))
      | (have hl0 : ¬ F 15 = 1 := h94
         have g1 : lnA (va_up (va_up (va_up (va_up A 4 (va_up R (12 * q.1 + i) (nI y))) 5 (va_up (A 5) q.1 (nI v))) 6 (va_up (A 6) q.1 (nI i))) 7 (va_up (A 7) q.1 (nI y))) q.1 := lnA_grow hq.2.2.2.2.2.2.2.2 k3 hC (fun x hx => (up_n (by omega)).trans (hR x hx))
         have e8' : A1 8 = (rcF (A 1 0) (F 15) (F 16) q.1 v (A 8) (A 9) (F 17)).1 := e8
         have e9' : A1 9 = (rcF (A 1 0) (F 15) (F 16) q.1 v (A 8) (A 9) (F 17)).2.1 := e9
         rw [hs, hl, ht] at e8' e9'
         refine ⟨_, rfl, rfl, _, _, rfl, ⟨fun k a b => ?_, fun j hj => ?_⟩, mAg_set (i := i) (y := y) (s := s) (l := l) (t := t) hq hv hn hi hC hy rfl ?_ ?_ ?_ ?_ ?_ ?_ ?_ ?_ ?_⟩
         · exact (up_n b).trans ((up_n b).trans (up_n a))
         · refine (up_n (by omega)).trans ((up_n (by omega)).trans ((up_n (by omega)).trans ((up_n (by omega)).trans ((up_n (by omega)).trans ((up_n (by omega)).trans ((e0 j (by omega)).trans ?_))))))
           exact (up_n (by omega)).trans ((up_n (by omega)).trans ((up_n (by omega)).trans (up_n (by omega))))
         · rw [st_0 (by rw [← hl]; exact hl0), ← hs, ← hl, ← ht]; rfl
         · rw [st_0 (by rw [← hl]; exact hl0), ← e8']; rfl
         · rw [st_0 (by rw [← hl]; exact hl0), ← e9']; rfl
         · exact e0 5 (by omega)
         · exact e0 6 (by omega)
         · exact e0 7 (by omega)
         · exact fun x hx => (congrFun (e0 4 (by omega)) x).trans ((up_n (by omega)).trans (hR x hx))
         · exact fun j hj => (congrFun (e0 4 (by omega)) _).trans (g4 j hj)
         · exact lnA_lk (lnA_st1 (e10 g1)) (by omega) (by omega))
