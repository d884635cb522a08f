-- beginning
def qS (p : Int32) (q : sQ) : sQ := (q.1, q.2.1, q.2.2.1, q.2.2.2.1, q.2.2.2.2.1, q.2.2.2.2.2.1, p)
theorem own_v {c : Nat} : ∀ k i, k ≤ 12 → i < k → nmI (ownR k) (nI i) = nI i := by
  intro k
  induction k with
  | zero => intro i _ h; exact absurd h (Nat.not_lt_zero _)
  | succ k ih =>
    intro i hk hi
    show nmI (wnI (ownR k) (nI k) (nI k)) (nI i) = nI i
    rw [nm_wn (by omega) (by omega) (by omega)]
    by_cases e : i = k
    · rw [if_pos e, e]
    · rw [if_neg e]
      exact ih i (by omega) (by omega)
theorem qI_bg {c : Nat} {row : Int64} {q : sQ} : qI c (bgQ row q) := by
  refine ⟨Nat.one_pos, by show 1 ≤ 201; omega, ⟨fun v hv => ?_, fun _ => 0, fun v hv h => ?_⟩, fun v hv => ?_, ⟨rfl, fun v h1 h2 => ?_⟩, fun v hv => ?_⟩
  · have e : v = 0 := Nat.lt_one_iff.mp hv
    exact Or.inl (by rw [e]; exact rfl)
  · have e : v = 0 := Nat.lt_one_iff.mp hv
    exact absurd (by rw [e]; exact rfl) h
  · have e : v = 0 := Nat.lt_one_iff.mp hv
    rw [e]
    exact ⟨fun _ => rfl, fun h => absurd rfl h⟩
  · exact absurd (Nat.lt_one_iff.mp h2) (by omega)
  · have e : v = 0 := Nat.lt_one_iff.mp hv
    rw [e]
    exact ⟨fun _ => rfl, fun h => absurd rfl h⟩
theorem qV_bg {c : Nat} {q : sQ} (hC : c ≤ 12) : qV c (bgQ (ownR c) q) := by
  intro v hv i hi
  have e : v = 0 := Nat.lt_one_iff.mp hv
  rw [e]
  refine ⟨i, hi, ?_⟩
  show nmI (va_up q.2.1 0 (ownR c) 0) (nI i) = nI i
  rw [up_s]
  exact own_v (c := c) c i hC hi
def mFb (F : Nat → Int32) (A : Nat → Nat → Int32) (l t : Int32) (F' : Nat → Int32) (A' : Nat → Nat → Int32) : Prop := F' 15 = l ∧ F' 16 = t ∧ (∀ k, (k < 14 ∨ 16 < k) → F' k = F k) ∧ ∀ j, (j < 4 ∨ 10 < j) → A' j = A j
theorem l_Mo_begins {sc : Option (Nat × Nat × (Nat → Int32))} {sa : Nat → Nat} {d : Nat} {M : mz_M} {z : Nat × Nat} {m : Nat} (w : g_Mo M.2.2 m) {F : Nat → Int32} {A : Nat → Nat → Int32} {l t al : Int32} {Q : mz_P} (hk : ∀ R, (∀ j, j < 12 → R j = if al = -1 then nI j else al) → zw sc sa d ym_Mo_begins z Q 49 [.ref m, .int l, .int t, .int al, .int (nI 12)] [] (moF M m F (va_up A 4 R)) z) : ∀ (k : Nat) (i : Nat) (R : Nat → Int32), i + k = 12 → (∀ j, j < i → R j = if al = -1 then nI j else al) → zw sc sa d ym_Mo_begins z Q 18 [.ref m, .int l, .int t, .int al, .int (nI i)] [] (moF M m F (va_up A 4 R)) z := by
  intro k
  induction k with
  | zero =>
    intro i R hi hR
    have e1 : i = 12 := by omega
    subst e1
    refine z_iload (q := 20) rfl rfl rfl ?_
    refine z_bipush (q := 22) (v := 12) rfl rfl rfl ?_
    refine z_ic_ge (q := 25) rfl rfl (fun h22 => ?_) (fun h22 => ?_)
    · exact hk R hR
    · exact absurd (show (12 : Int32) ≤ nI 12 from Int32.le_refl _) h22
  | succ k ih =>
    intro i R hi hR
    refine z_iload (q := 20) rfl rfl rfl ?_
    refine z_bipush (q := 22) (v := 12) rfl rfl rfl ?_
    refine z_ic_ge (q := 25) rfl rfl (fun h22 => ?_) (fun h22 => ?_)
    · exact absurd h22 (show ¬ nI 12 ≤ nI i from nI_ge (by omega) (by omega))
    · refine z_aload_n (q := 26) rfl rfl rfl ?_
      refine z_getR (q := 29) rfl rfl rfl (Mo_k w) (Mo_r6 w) ?_
      refine z_iload (q := 31) rfl rfl rfl ?_
      refine z_iload_n (q := 32) rfl rfl rfl ?_
      refine z_iconst (q := 33) (v := -1) rfl rfl rfl ?_
      refine z_ic_ne (q := 36) rfl rfl (fun h33 => ?_) (fun h33 => ?_)
      · refine z_iload_n (q := 42) rfl rfl rfl ?_
        refine z_iast (q := 43) rfl rfl (Mo_a6 w) (by first | assumption | exact vp_in_nI (by omega) (by omega)) ?_
        rw [moF_w6]
        try rw [nI_clamp (by omega)]
        refine z_iinc (q := 46) (L2 := [_, _, _, _, _]) rfl rfl rfl rfl ?_
        refine z_goto rfl ?_
        rw [show nI i + Int32.ofInt 1 = nI (i + 1) from (nI_succ i).symm]
        first
          | (have hzz : ¬ al = -1 := h33
             rw [show va_up (va_up A 4 R) 4 (va_up (va_up A 4 R 4) i al) = va_up A 4 (va_up R i al) from up_u]
             refine ih (i + 1) _ (by omega) (fun j hj => ?_)
             by_cases e : j = i
             · rw [e, up_s, if_neg hzz]
             · rw [up_n e]; exact hR j (by omega))
          | (have hzz : al = -1 := h33
             rw [show va_up (va_up A 4 R) 4 (va_up (va_up A 4 R 4) i (nI i)) = va_up A 4 (va_up R i (nI i)) from up_u]
             refine ih (i + 1) _ (by omega) (fun j hj => ?_)
             by_cases e : j = i
             · rw [e, up_s, if_pos hzz]
             · rw [up_n e]; exact hR j (by omega))
          | fail "none"
      · refine z_iload (q := 38) rfl rfl rfl ?_
        refine z_goto rfl ?_
        refine z_iast (q := 43) rfl rfl (Mo_a6 w) (by first | assumption | exact vp_in_nI (by omega) (by omega)) ?_
        rw [moF_w6]
        try rw [nI_clamp (by omega)]
        refine z_iinc (q := 46) (L2 := [_, _, _, _, _]) rfl rfl rfl rfl ?_
        refine z_goto rfl ?_
        rw [show nI i + Int32.ofInt 1 = nI (i + 1) from (nI_succ i).symm]
        first
          | (have hzz : ¬ al = -1 := h33
             rw [show va_up (va_up A 4 R) 4 (va_up (va_up A 4 R 4) i al) = va_up A 4 (va_up R i al) from up_u]
             refine ih (i + 1) _ (by omega) (fun j hj => ?_)
             by_cases e : j = i
             · rw [e, up_s, if_neg hzz]
             · rw [up_n e]; exact hR j (by omega))
          | (have hzz : al = -1 := h33
             rw [show va_up (va_up A 4 R) 4 (va_up (va_up A 4 R 4) i (nI i)) = va_up A 4 (va_up R i (nI i)) from up_u]
             refine ih (i + 1) _ (by omega) (fun j hj => ?_)
             by_cases e : j = i
             · rw [e, up_s, if_pos hzz]
             · rw [up_n e]; exact hR j (by omega))
          | fail "none"
theorem fr8_x {A : Nat → Nat → Int32} {v j : Nat} (hj : j < 8 ∨ 10 < j) : stA A v j = A j := by
  unfold stA
  rw [up_n (by omega), up_n (by omega), up_n (by omega)]
theorem q_Mo_begins {sc : Option (Nat × Nat × (Nat → Int32))} {sa : Nat → Nat} {d : Nat} {M : mz_M} {z : Nat × Nat} {m : Nat} (w : g_Mo M.2.2 m) {F : Nat → Int32} {A : Nat → Nat → Int32} {l t al : Int32} {c : Nat} (hC : c ≤ 12) {row : Int64} (hrow : ∀ i, i < c → nmI row (nI i) = if al = -1 then nI i else al) : zv sc sa (d + 2) 175 [.ref m, .int l, .int t, .int al] (moF M m F A) z (fun M' => ∃ F' A' q0, M' = moF M m F' A' ∧ mFb F A l t F' A' ∧ mAg c F' A' (qS (F 17) (bgQ row q0))) := by
  refine zin ym_Mo_begins [.ref m, .int l, .int t, .int al, .retAddr 0] rfl rfl rfl rfl ?_
  refine z_aload_n (q := 1) rfl rfl rfl ?_
  refine z_iload_n (q := 2) rfl rfl rfl ?_
  refine z_putI (q := 5) rfl rfl rfl (by decide) rfl rfl (Mo_k w) ?_
  rw [moF_u15]
  refine z_aload_n (q := 6) rfl rfl rfl ?_
  refine z_iload_n (q := 7) rfl rfl rfl ?_
  refine z_putI (q := 10) rfl rfl rfl (by decide) rfl rfl (Mo_k w) ?_
  rw [moF_u16]
  refine z_aload_n (q := 11) rfl rfl rfl ?_
  refine z_iconst (q := 12) (v := 1) rfl rfl rfl ?_
  refine z_putI (q := 15) rfl rfl rfl (by decide) rfl rfl (Mo_k w) ?_
  rw [moF_u14]
  refine z_iconst (q := 16) (v := 0) rfl rfl rfl ?_
  refine z_istore (q := 18) (L2 := [_, _, _, _, _]) rfl rfl rfl rfl ?_
  refine Eq.mp (congrArg (fun B => zw sc sa (d + 1) ym_Mo_begins z _ 18 [.ref m, .int l, .int t, .int al, .int 0] [] (moF M m (va_up (va_up (va_up F 15 l) 16 t) 14 1) B) z) (up_e (f := A) (k := 4))) ?_
  refine l_Mo_begins w (fun R hR => ?_) 12 0 (A 4) rfl (fun j hj => absurd hj (Nat.not_lt_zero _))
  refine z_aload_n (q := 50) rfl rfl rfl ?_
  refine z_getR (q := 53) rfl rfl rfl (Mo_k w) (Mo_r7 w) ?_
  refine z_iconst (q := 54) (v := 0) rfl rfl rfl ?_
  refine z_iconst (q := 55) (v := -1) rfl rfl rfl ?_
  refine z_iast (q := 56) rfl rfl (Mo_a7 w) (vp0 (by decide) (by decide)) ?_
  rw [moF_w7]
  try rw [nI_clamp (by omega)]
  refine z_aload_n (q := 57) rfl rfl rfl ?_
  refine z_getR (q := 60) rfl rfl rfl (Mo_k w) (Mo_r8 w) ?_
  refine z_iconst (q := 61) (v := 0) rfl rfl rfl ?_
  refine z_iconst (q := 62) (v := -1) rfl rfl rfl ?_
  refine z_iast (q := 63) rfl rfl (Mo_a8 w) (vp0 (by decide) (by decide)) ?_
  rw [moF_w8]
  try rw [nI_clamp (by omega)]
  refine z_aload_n (q := 64) rfl rfl rfl ?_
  refine z_getR (q := 67) rfl rfl rfl (Mo_k w) (Mo_r9 w) ?_
  refine z_iconst (q := 68) (v := 0) rfl rfl rfl ?_
  refine z_iconst (q := 69) (v := -1) rfl rfl rfl ?_
  refine z_iast (q := 70) rfl rfl (Mo_a9 w) (vp0 (by decide) (by decide)) ?_
  rw [moF_w9]
  try rw [nI_clamp (by omega)]
  refine z_aload_n (q := 71) rfl rfl rfl ?_
  refine z_iconst (q := 72) (v := 0) rfl rfl rfl ?_
  refine z_cv1v (q := 75) rfl rfl rfl (Mo_k w) (s_Mo_straight (v := 0) w (by omega)) ?_
  refine z_ret rfl rfl ?_
  refine ⟨rfl, _, _, (0, fun _ => 0, A 8, A 9, A 5, A 6, 0), rfl, ⟨rfl, rfl, fun k hk => ?_, fun j hj => ?_⟩, rfl, rfl, rfl, rfl, rfl, rfl, ?_, ?_, ?_⟩
  · exact (up_n (by omega)).trans ((up_n (by omega)).trans (up_n (by omega)))
  · exact (fr8_x (by omega)).trans ((up_n (by omega)).trans ((up_n (by omega)).trans ((up_n (by omega)).trans (up_n (by omega)))))
  · intro v hv i hi
    have e : v = 0 := Nat.lt_one_iff.mp hv
    rw [e]
    show R (12 * 0 + i) = nmI (va_up (fun _ => 0) 0 row 0) (nI i)
    rw [up_s, hrow i hi, show 12 * 0 + i = i by omega]
    exact hR i (by omega)
  · intro v hv
    have e : v = 0 := Nat.lt_one_iff.mp hv
    rw [e]
    rfl
  · intro v hv
    have e : v = 0 := Nat.lt_one_iff.mp hv
    rw [e]
    rfl
theorem ix4 {d k : Nat} : (19 : Int32) + 4 * nI d + nI k = nI (19 + 4 * d + k) := by
  rw [show (19 : Int32) = nI 19 from rfl, show (4 : Int32) = nI 4 from rfl]
  unfold nI
  rw [← Int32.ofNat_mul, ← Int32.ofNat_add, ← Int32.ofNat_add]
theorem s_Mo_deed {sc : Option (Nat × Nat × (Nat → Int32))} {sa : Nat → Nat} {d : Nat} {M : mz_M} {z : Nat × Nat} {m : Nat} (w : g_Mo M.2.2 m) {F : Nat → Int32} {A : Nat → Nat → Int32} {v i : Nat} (hv : v < 60) (hi : i < 4) : zx sc sa (d + 1) 196 [.ref m, .int (nI v), .int (nI i)] (moF M m F A) z z (some (.int (A 1 (19 + 4 * v + i)))) (moF M m F A) := by
  refine zxin ym_Mo_deed [.ref m, .int (nI v), .int (nI i)] rfl rfl rfl rfl ?_
  refine z_aload_n (q := 1) rfl rfl rfl ?_
  refine z_getR (q := 4) rfl rfl rfl (Mo_k w) (Mo_r0 w) ?_
  refine z_bipush (q := 6) (v := 19) rfl rfl rfl ?_
  refine z_iconst (q := 7) (v := 4) rfl rfl rfl ?_
  refine z_iload_n (q := 8) rfl rfl rfl ?_
  refine z_imul (q := 9) rfl rfl ?_
  refine z_iadd (q := 10) rfl rfl ?_
  refine z_iload_n (q := 11) rfl rfl rfl ?_
  refine z_iadd (q := 12) rfl rfl ?_
  rw [ix4]
  refine z_iald (q := 13) rfl rfl (Mo_a0 w) (by first | assumption | exact vp_in_nI (by omega) (by omega)) ?_
  rw [moF_a0]
  try rw [nI_clamp (by omega)]
  refine z_ireti rfl rfl ?_
  exact ⟨rfl, rfl⟩
-- a deed
def kmN (k : Nat) : Nat := match k with
  | 1 => 2
  | 2 => 0
  | 3 => 1
  | 4 => 3
  | 5 => 4
  | 6 => 5
  | _ => 6
def dV (c N k a b e : Nat) (q : sQ) : Prop := match k with
  | 1 => a < q.1 ∧ b < c
  | 2 => a < q.1 ∧ q.1 < N ∧ b < c ∧ e < c
  | 3 => a < q.1 ∧ q.1 < N ∧ b < c ∧ e < c
  | 4 => a < q.1 ∧ b < c
  | 5 => a < q.1
  | 6 => a < q.1 ∧ b < q.1 ∧ q.1 + dfN (q.2.1 a) (mgR c a b q) c ≤ N
  | 7 => a < q.1 ∧ b < q.1 ∧ e < q.1 ∧ q.1 + dfN (q.2.1 e) (paR c a b e q) c ≤ N
  | _ => False
theorem ca_ok {l t : Int32} {c N k a b e : Nat} {q : sQ} (hI : qI c q) (hV : qV c q) (hC : c ≤ 12) (hN : N ≤ 200) (hn : q.1 ≤ N) (h : dV c N k a b e q) : qI c (caQ (nI c) l t c k a b e q).2 ∧ qV c (caQ (nI c) l t c k a b e q).2 ∧ (caQ (nI c) l t c k a b e q).2.1 ≤ N := by
  match k, h with
  | 1, h => exact ⟨qI_rd hI h.1, hV, hn⟩
  | 2, h => exact ⟨qI_set hI h.1 h.2.2.1 (by have := h.2.1; omega), qV_set hV h.1 h.2.2.1 h.2.2.2 hC, h.2.1⟩
  | 3, h =>
    obtain ⟨h1, h2, h3, h4⟩ := h
    obtain ⟨y1, p1, p2⟩ := rt_lt (hV a h1) c b h3
    obtain ⟨y2, p3, p4⟩ := rt_lt (hV a h1) c e h4
    obtain ⟨u1, u2, k1, k2, k3, k4⟩ := mm_nI p1 p3 hC
    have p5 : (frQ (nI c) l t c a (nI b) q).1 = nI y1 := frQ_1.trans p2
    have p6 : (frQ (nI c) l t c a (nI e) (frQ (nI c) l t c a (nI b) q).2).1 = nI y2 := frQ_1.trans p4
    rw [← p5, ← p6] at k3 k4
    have i1 := qI_fr (s := nI c) (l := l) (t := t) (k := c) (a := nI e) (qI_fr (s := nI c) (l := l) (t := t) (k := c) (a := nI b) hI h1) h1
    show qI c (setQ (nI c) l t a (if _ < _ then _ else _) (if _ < _ then _ else _) _) ∧ qV c (setQ (nI c) l t a (if _ < _ then _ else _) (if _ < _ then _ else _) _) ∧ _
    rw [k3, k4]
    exact ⟨qI_set i1 h1 k1 (show q.1 ≤ 200 by omega), qV_set (q := (frQ (nI c) l t c a (nI e) (frQ (nI c) l t c a (nI b) q).2).2) hV h1 k1 k2 hC, h2⟩
  | 4, h => exact ⟨qI_fr hI h.1, hV, hn⟩
  | 5, h =>
    refine ⟨qI_sn hI, ?_, ?_⟩
    · show qV c (snQ (nI c) a q).2
      unfold snQ
      by_cases e9 : q.2.2.1 a = -1
      · rw [if_pos e9]; exact hV
      · rw [if_neg e9]; exact hV
    · show (snQ (nI c) a q).2.1 ≤ N
      unfold snQ
      by_cases e9 : q.2.2.1 a = -1
      · rw [if_pos e9]; exact hn
      · rw [if_neg e9]; exact hn
  | 6, h =>
    obtain ⟨h1, h2, h3⟩ := h
    obtain ⟨g1, g2, g3, g4, g5⟩ := lo_ok (s := nI c) (l := l) (t := t) (fr := q.2.1 a) (row := mgR c a b q) (N := N) hI hV h1 hC (mgR_c hV hC h1 h2) hN h3 c (Nat.le_refl _)
    refine ⟨g3, g4, ?_⟩
    show (fo (loG (nI c) l t (q.2.1 a) (mgR c a b q)) (a, q) c).2.1 ≤ N
    omega
  | 7, h =>
    obtain ⟨h1, h2, h3, h4⟩ := h
    obtain ⟨g1, g2, g3, g4, g5⟩ := lo_ok (s := nI c) (l := l) (t := t) (fr := q.2.1 e) (row := paR c a b e q) (N := N) hI hV h3 hC (paR_c hV hC h2 h3) hN h4 c (Nat.le_refl _)
    refine ⟨g3, g4, ?_⟩
    show (fo (loG (nI c) l t (q.2.1 e) (paR c a b e q)) (e, q) c).2.1 ≤ N
    omega
  | 0, h => exact h.elim
  | k + 8, h => exact h.elim
theorem q_Mo_does1 {sc : Option (Nat × Nat × (Nat → Int32))} {sa : Nat → Nat} {d : Nat} {M : mz_M} {z : Nat × Nat} {m : Nat} (w : g_Mo M.2.2 m) {F : Nat → Int32} {A : Nat → Nat → Int32} {c : Nat} {q : sQ} {l t : Int32} (hq : mAg c F A q) (hI : qI c q) (hC : c ≤ 12) (hs : A 1 0 = nI c) (hl : F 15 = l) (ht : F 16 = t) (hV : qV c q) {N : Nat} (hN : N ≤ 200) {D a b e : Nat} (hD : D < 60) (hd1 : A 1 (19 + 4 * D + 1) = nI a) (hd2 : A 1 (19 + 4 * D + 2) = nI b) (hd3 : A 1 (19 + 4 * D + 3) = nI e) (hd0 : A 1 (19 + 4 * D + 0) = nI 2) (h : dV c N 1 a b e q)  : zi sc sa (d + 8) 197 [.ref m, .int (nI D)] (moF M m F A) z (mP M m F A c (caQ (nI c) l t c 1 a b e q).2 (caQ (nI c) l t c 1 a b e q).1) := by
  refine zin ym_Mo_does [.ref m, .int (nI D), .retAddr 0, .retAddr 0, .retAddr 0, .retAddr 0] rfl rfl rfl rfl ?_
  refine z_aload_n (q := 1) rfl rfl rfl ?_
  refine z_iload_n (q := 2) rfl rfl rfl ?_
  refine z_iconst (q := 3) (v := 1) rfl rfl rfl ?_
  refine z_cv2i (q := 6) rfl rfl rfl (Mo_k w) (s_Mo_deed (i := 1) w hD (by omega)) ?_
  rw [hd1]
  refine z_istore_n (q := 7) (L2 := [_, _, _, _, _, _]) rfl rfl rfl rfl ?_
  refine z_aload_n (q := 8) rfl rfl rfl ?_
  refine z_iload_n (q := 9) rfl rfl rfl ?_
  refine z_iconst (q := 10) (v := 2) rfl rfl rfl ?_
  refine z_cv2i (q := 13) rfl rfl rfl (Mo_k w) (s_Mo_deed (i := 2) w hD (by omega)) ?_
  rw [hd2]
  refine z_istore_n (q := 14) (L2 := [_, _, _, _, _, _]) rfl rfl rfl rfl ?_
  refine z_aload_n (q := 15) rfl rfl rfl ?_
  refine z_iload_n (q := 16) rfl rfl rfl ?_
  refine z_iconst (q := 17) (v := 3) rfl rfl rfl ?_
  refine z_cv2i (q := 20) rfl rfl rfl (Mo_k w) (s_Mo_deed (i := 3) w hD (by omega)) ?_
  rw [hd3]
  refine z_istore (q := 22) (L2 := [_, _, _, _, _, _]) rfl rfl rfl rfl ?_
  refine z_aload_n (q := 23) rfl rfl rfl ?_
  refine z_getI (q := 26) rfl rfl rfl (Mo_k w) ?_
  rw [moF_g17]
  refine z_istore (q := 28) (L2 := [_, _, _, _, _, _]) rfl rfl rfl rfl ?_
  refine z_aload_n (q := 29) rfl rfl rfl ?_
  refine z_iload_n (q := 30) rfl rfl rfl ?_
  refine z_iconst (q := 31) (v := 0) rfl rfl rfl ?_
  refine z_cv2i (q := 34) rfl rfl rfl (Mo_k w) (s_Mo_deed (i := 0) w hD (by omega)) ?_
  rw [hd0, show nI 2 = 2 from rfl]
  refine z_sw rfl ⟨fun h => absurd h (by decide), fun _ _ => ?_⟩
  show zw _ _ _ _ _ _ 94 _ _ _ _
  refine z_aload_n (q := 95) rfl rfl rfl ?_
  refine z_iload_n (q := 96) rfl rfl rfl ?_
  refine z_iload_n (q := 97) rfl rfl rfl ?_
  refine z_cv2qi (q := 100) rfl rfl rfl (Mo_k w) (q_Mo_read w hq hI hC hs hl ht h.1 h.2) (fun x9 M9 h9 => ?_)
  obtain ⟨rfl, FF, AA, rfl, rr, gg⟩ := h9
  refine z_ireti rfl rfl ?_
  exact ⟨_, rfl, rfl, FF, AA, rfl, rr, gg⟩
theorem q_Mo_does2 {sc : Option (Nat × Nat × (Nat → Int32))} {sa : Nat → Nat} {d : Nat} {M : mz_M} {z : Nat × Nat} {m : Nat} (w : g_Mo M.2.2 m) {F : Nat → Int32} {A : Nat → Nat → Int32} {c : Nat} {q : sQ} {l t : Int32} (hq : mAg c F A q) (hI : qI c q) (hC : c ≤ 12) (hs : A 1 0 = nI c) (hl : F 15 = l) (ht : F 16 = t) (hV : qV c q) {N : Nat} (hN : N ≤ 200) {D a b e : Nat} (hD : D < 60) (hd1 : A 1 (19 + 4 * D + 1) = nI a) (hd2 : A 1 (19 + 4 * D + 2) = nI b) (hd3 : A 1 (19 + 4 * D + 3) = nI e) (hd0 : A 1 (19 + 4 * D + 0) = nI 0) (h : dV c N 2 a b e q)  : zi sc sa (d + 8) 197 [.ref m, .int (nI D)] (moF M m F A) z (mP M m F A c (caQ (nI c) l t c 2 a b e q).2 (caQ (nI c) l t c 2 a b e q).1) := by
  refine zin ym_Mo_does [.ref m, .int (nI D), .retAddr 0, .retAddr 0, .retAddr 0, .retAddr 0] rfl rfl rfl rfl ?_
  refine z_aload_n (q := 1) rfl rfl rfl ?_
  refine z_iload_n (q := 2) rfl rfl rfl ?_
  refine z_iconst (q := 3) (v := 1) rfl rfl rfl ?_
  refine z_cv2i (q := 6) rfl rfl rfl (Mo_k w) (s_Mo_deed (i := 1) w hD (by omega)) ?_
  rw [hd1]
  refine z_istore_n (q := 7) (L2 := [_, _, _, _, _, _]) rfl rfl rfl rfl ?_
  refine z_aload_n (q := 8) rfl rfl rfl ?_
  refine z_iload_n (q := 9) rfl rfl rfl ?_
  refine z_iconst (q := 10) (v := 2) rfl rfl rfl ?_
  refine z_cv2i (q := 13) rfl rfl rfl (Mo_k w) (s_Mo_deed (i := 2) w hD (by omega)) ?_
  rw [hd2]
  refine z_istore_n (q := 14) (L2 := [_, _, _, _, _, _]) rfl rfl rfl rfl ?_
  refine z_aload_n (q := 15) rfl rfl rfl ?_
  refine z_iload_n (q := 16) rfl rfl rfl ?_
  refine z_iconst (q := 17) (v := 3) rfl rfl rfl ?_
  refine z_cv2i (q := 20) rfl rfl rfl (Mo_k w) (s_Mo_deed (i := 3) w hD (by omega)) ?_
  rw [hd3]
  refine z_istore (q := 22) (L2 := [_, _, _, _, _, _]) rfl rfl rfl rfl ?_
  refine z_aload_n (q := 23) rfl rfl rfl ?_
  refine z_getI (q := 26) rfl rfl rfl (Mo_k w) ?_
  rw [moF_g17]
  refine z_istore (q := 28) (L2 := [_, _, _, _, _, _]) rfl rfl rfl rfl ?_
  refine z_aload_n (q := 29) rfl rfl rfl ?_
  refine z_iload_n (q := 30) rfl rfl rfl ?_
  refine z_iconst (q := 31) (v := 0) rfl rfl rfl ?_
  refine z_cv2i (q := 34) rfl rfl rfl (Mo_k w) (s_Mo_deed (i := 0) w hD (by omega)) ?_
  rw [hd0, show nI 0 = 0 from rfl]
  refine z_sw rfl ⟨fun h => absurd h (by decide), fun _ _ => ?_⟩
  show zw _ _ _ _ _ _ 76 _ _ _ _
  refine z_aload_n (q := 77) rfl rfl rfl ?_
  refine z_iload_n (q := 78) rfl rfl rfl ?_
  refine z_iload_n (q := 79) rfl rfl rfl ?_
  refine z_iload (q := 81) rfl rfl rfl ?_
  refine z_cv3qi (q := 84) rfl rfl rfl (Mo_k w) (q_Mo_set w hq hI hC hs hl ht h.1 (by have := h.2.1; omega) h.2.2.1 (by have := h.2.2.2; omega)) (fun x9 M9 h9 => ?_)
  obtain ⟨rfl, FF, AA, rfl, rr, gg⟩ := h9
  refine z_ireti rfl rfl ?_
  exact ⟨_, rfl, rfl, FF, AA, rfl, rr, gg⟩
theorem q_Mo_does3 {sc : Option (Nat × Nat × (Nat → Int32))} {sa : Nat → Nat} {d : Nat} {M : mz_M} {z : Nat × Nat} {m : Nat} (w : g_Mo M.2.2 m) {F : Nat → Int32} {A : Nat → Nat → Int32} {c : Nat} {q : sQ} {l t : Int32} (hq : mAg c F A q) (hI : qI c q) (hC : c ≤ 12) (hs : A 1 0 = nI c) (hl : F 15 = l) (ht : F 16 = t) (hV : qV c q) {N : Nat} (hN : N ≤ 200) {D a b e : Nat} (hD : D < 60) (hd1 : A 1 (19 + 4 * D + 1) = nI a) (hd2 : A 1 (19 + 4 * D + 2) = nI b) (hd3 : A 1 (19 + 4 * D + 3) = nI e) (hd0 : A 1 (19 + 4 * D + 0) = nI 1) (h : dV c N 3 a b e q)  : zi sc sa (d + 8) 197 [.ref m, .int (nI D)] (moF M m F A) z (mP M m F A c (caQ (nI c) l t c 3 a b e q).2 (caQ (nI c) l t c 3 a b e q).1) := by
  refine zin ym_Mo_does [.ref m, .int (nI D), .retAddr 0, .retAddr 0, .retAddr 0, .retAddr 0] rfl rfl rfl rfl ?_
  refine z_aload_n (q := 1) rfl rfl rfl ?_
  refine z_iload_n (q := 2) rfl rfl rfl ?_
  refine z_iconst (q := 3) (v := 1) rfl rfl rfl ?_
  refine z_cv2i (q := 6) rfl rfl rfl (Mo_k w) (s_Mo_deed (i := 1) w hD (by omega)) ?_
  rw [hd1]
  refine z_istore_n (q := 7) (L2 := [_, _, _, _, _, _]) rfl rfl rfl rfl ?_
  refine z_aload_n (q := 8) rfl rfl rfl ?_
  refine z_iload_n (q := 9) rfl rfl rfl ?_
  refine z_iconst (q := 10) (v := 2) rfl rfl rfl ?_
  refine z_cv2i (q := 13) rfl rfl rfl (Mo_k w) (s_Mo_deed (i := 2) w hD (by omega)) ?_
  rw [hd2]
  refine z_istore_n (q := 14) (L2 := [_, _, _, _, _, _]) rfl rfl rfl rfl ?_
  refine z_aload_n (q := 15) rfl rfl rfl ?_
  refine z_iload_n (q := 16) rfl rfl rfl ?_
  refine z_iconst (q := 17) (v := 3) rfl rfl rfl ?_
  refine z_cv2i (q := 20) rfl rfl rfl (Mo_k w) (s_Mo_deed (i := 3) w hD (by omega)) ?_
  rw [hd3]
  refine z_istore (q := 22) (L2 := [_, _, _, _, _, _]) rfl rfl rfl rfl ?_
  refine z_aload_n (q := 23) rfl rfl rfl ?_
  refine z_getI (q := 26) rfl rfl rfl (Mo_k w) ?_
  rw [moF_g17]
  refine z_istore (q := 28) (L2 := [_, _, _, _, _, _]) rfl rfl rfl rfl ?_
  refine z_aload_n (q := 29) rfl rfl rfl ?_
  refine z_iload_n (q := 30) rfl rfl rfl ?_
  refine z_iconst (q := 31) (v := 0) rfl rfl rfl ?_
  refine z_cv2i (q := 34) rfl rfl rfl (Mo_k w) (s_Mo_deed (i := 0) w hD (by omega)) ?_
  rw [hd0, show nI 1 = 1 from rfl]
  refine z_sw rfl ⟨fun h => absurd h (by decide), fun _ _ => ?_⟩
  show zw _ _ _ _ _ _ 85 _ _ _ _
  refine z_aload_n (q := 86) rfl rfl rfl ?_
  refine z_iload_n (q := 87) rfl rfl rfl ?_
  refine z_iload_n (q := 88) rfl rfl rfl ?_
  refine z_iload (q := 90) rfl rfl rfl ?_
  refine z_cv3qi (q := 93) rfl rfl rfl (Mo_k w) (q_Mo_join w hq hI hC hs hl ht hV h.1 (by have := h.2.1; omega) h.2.2.1 h.2.2.2) (fun x9 M9 h9 => ?_)
  obtain ⟨rfl, FF, AA, rfl, rr, gg⟩ := h9
  refine z_ireti rfl rfl ?_
  exact ⟨_, rfl, rfl, FF, AA, rfl, rr, gg⟩
theorem q_Mo_does4 {sc : Option (Nat × Nat × (Nat → Int32))} {sa : Nat → Nat} {d : Nat} {M : mz_M} {z : Nat × Nat} {m : Nat} (w : g_Mo M.2.2 m) {F : Nat → Int32} {A : Nat → Nat → Int32} {c : Nat} {q : sQ} {l t : Int32} (hq : mAg c F A q) (hI : qI c q) (hC : c ≤ 12) (hs : A 1 0 = nI c) (hl : F 15 = l) (ht : F 16 = t) (hV : qV c q) {N : Nat} (hN : N ≤ 200) {D a b e : Nat} (hD : D < 60) (hd1 : A 1 (19 + 4 * D + 1) = nI a) (hd2 : A 1 (19 + 4 * D + 2) = nI b) (hd3 : A 1 (19 + 4 * D + 3) = nI e) (hd0 : A 1 (19 + 4 * D + 0) = nI 3) (h : dV c N 4 a b e q)  : zi sc sa (d + 8) 197 [.ref m, .int (nI D)] (moF M m F A) z (mP M m F A c (caQ (nI c) l t c 4 a b e q).2 (caQ (nI c) l t c 4 a b e q).1) := by
  refine zin ym_Mo_does [.ref m, .int (nI D), .retAddr 0, .retAddr 0, .retAddr 0, .retAddr 0] rfl rfl rfl rfl ?_
  refine z_aload_n (q := 1) rfl rfl rfl ?_
  refine z_iload_n (q := 2) rfl rfl rfl ?_
  refine z_iconst (q := 3) (v := 1) rfl rfl rfl ?_
  refine z_cv2i (q := 6) rfl rfl rfl (Mo_k w) (s_Mo_deed (i := 1) w hD (by omega)) ?_
  rw [hd1]
  refine z_istore_n (q := 7) (L2 := [_, _, _, _, _, _]) rfl rfl rfl rfl ?_
  refine z_aload_n (q := 8) rfl rfl rfl ?_
  refine z_iload_n (q := 9) rfl rfl rfl ?_
  refine z_iconst (q := 10) (v := 2) rfl rfl rfl ?_
  refine z_cv2i (q := 13) rfl rfl rfl (Mo_k w) (s_Mo_deed (i := 2) w hD (by omega)) ?_
  rw [hd2]
  refine z_istore_n (q := 14) (L2 := [_, _, _, _, _, _]) rfl rfl rfl rfl ?_
  refine z_aload_n (q := 15) rfl rfl rfl ?_
  refine z_iload_n (q := 16) rfl rfl rfl ?_
  refine z_iconst (q := 17) (v := 3) rfl rfl rfl ?_
  refine z_cv2i (q := 20) rfl rfl rfl (Mo_k w) (s_Mo_deed (i := 3) w hD (by omega)) ?_
  rw [hd3]
  refine z_istore (q := 22) (L2 := [_, _, _, _, _, _]) rfl rfl rfl rfl ?_
  refine z_aload_n (q := 23) rfl rfl rfl ?_
  refine z_getI (q := 26) rfl rfl rfl (Mo_k w) ?_
  rw [moF_g17]
  refine z_istore (q := 28) (L2 := [_, _, _, _, _, _]) rfl rfl rfl rfl ?_
  refine z_aload_n (q := 29) rfl rfl rfl ?_
  refine z_iload_n (q := 30) rfl rfl rfl ?_
  refine z_iconst (q := 31) (v := 0) rfl rfl rfl ?_
  refine z_cv2i (q := 34) rfl rfl rfl (Mo_k w) (s_Mo_deed (i := 0) w hD (by omega)) ?_
  rw [hd0, show nI 3 = 3 from rfl]
  refine z_sw rfl ⟨fun h => absurd h (by decide), fun _ _ => ?_⟩
  show zw _ _ _ _ _ _ 101 _ _ _ _
  refine z_aload_n (q := 102) rfl rfl rfl ?_
  refine z_iload_n (q := 103) rfl rfl rfl ?_
  refine z_iload_n (q := 104) rfl rfl rfl ?_
  refine z_cv2qi (q := 107) rfl rfl rfl (Mo_k w) (q_Mo_find w hq hI hC hs hl ht hV h.1 h.2) (fun x9 M9 h9 => ?_)
  obtain ⟨rfl, FF, AA, rfl, rr, gg⟩ := h9
  refine z_ireti rfl rfl ?_
  exact ⟨_, rfl, rfl, FF, AA, rfl, rr, gg⟩
theorem sn_d {s : Int32} {j : Nat} {q : sQ} (h : q.2.2.1 j = -1) : snQ s j q = (0, q) := if_pos h
theorem sn_n {s : Int32} {j : Nat} {q : sQ} (h : ¬ q.2.2.1 j = -1) : snQ s j q = (q.2.2.2.2.2.2 + (nI (wl q.2.2.1 q.1 j) + s) - q.2.2.2.2.2.2, q.1, q.2.1, va_up q.2.2.1 j (-1), va_up q.2.2.2.1 j (-1), q.2.2.2.2.1, q.2.2.2.2.2.1, q.2.2.2.2.2.2 + (nI (wl q.2.2.1 q.1 j) + s)) := if_neg h
theorem q_Mo_does5 {sc : Option (Nat × Nat × (Nat → Int32))} {sa : Nat → Nat} {d : Nat} {M : mz_M} {z : Nat × Nat} {m : Nat} (w : g_Mo M.2.2 m) {F : Nat → Int32} {A : Nat → Nat → Int32} {c : Nat} {q : sQ} {l t : Int32} (hq : mAg c F A q) (hI : qI c q) (hC : c ≤ 12) (hs : A 1 0 = nI c) (hl : F 15 = l) (ht : F 16 = t) (hV : qV c q) {N : Nat} (hN : N ≤ 200) {D a b e : Nat} (hD : D < 60) (hd1 : A 1 (19 + 4 * D + 1) = nI a) (hd2 : A 1 (19 + 4 * D + 2) = nI b) (hd3 : A 1 (19 + 4 * D + 3) = nI e) (hd0 : A 1 (19 + 4 * D + 0) = nI 4) (h : dV c N 5 a b e q)  : zi sc sa (d + 8) 197 [.ref m, .int (nI D)] (moF M m F A) z (mP M m F A c (caQ (nI c) l t c 5 a b e q).2 (caQ (nI c) l t c 5 a b e q).1) := by
  have k8 : acy (A 8) q.1 := by rw [hq.2.2.1]; exact hI.2.2.1
  have b2 := hI.2.1
  have h0 : a < q.1 := h
  refine zin ym_Mo_does [.ref m, .int (nI D), .retAddr 0, .retAddr 0, .retAddr 0, .retAddr 0] rfl rfl rfl rfl ?_
  refine z_aload_n (q := 1) rfl rfl rfl ?_
  refine z_iload_n (q := 2) rfl rfl rfl ?_
  refine z_iconst (q := 3) (v := 1) rfl rfl rfl ?_
  refine z_cv2i (q := 6) rfl rfl rfl (Mo_k w) (s_Mo_deed (i := 1) w hD (by omega)) ?_
  rw [hd1]
  refine z_istore_n (q := 7) (L2 := [_, _, _, _, _, _]) rfl rfl rfl rfl ?_
  refine z_aload_n (q := 8) rfl rfl rfl ?_
  refine z_iload_n (q := 9) rfl rfl rfl ?_
  refine z_iconst (q := 10) (v := 2) rfl rfl rfl ?_
  refine z_cv2i (q := 13) rfl rfl rfl (Mo_k w) (s_Mo_deed (i := 2) w hD (by omega)) ?_
  rw [hd2]
  refine z_istore_n (q := 14) (L2 := [_, _, _, _, _, _]) rfl rfl rfl rfl ?_
  refine z_aload_n (q := 15) rfl rfl rfl ?_
  refine z_iload_n (q := 16) rfl rfl rfl ?_
  refine z_iconst (q := 17) (v := 3) rfl rfl rfl ?_
  refine z_cv2i (q := 20) rfl rfl rfl (Mo_k w) (s_Mo_deed (i := 3) w hD (by omega)) ?_
  rw [hd3]
  refine z_istore (q := 22) (L2 := [_, _, _, _, _, _]) rfl rfl rfl rfl ?_
  refine z_aload_n (q := 23) rfl rfl rfl ?_
  refine z_getI (q := 26) rfl rfl rfl (Mo_k w) ?_
  rw [moF_g17]
  refine z_istore (q := 28) (L2 := [_, _, _, _, _, _]) rfl rfl rfl rfl ?_
  refine z_aload_n (q := 29) rfl rfl rfl ?_
  refine z_iload_n (q := 30) rfl rfl rfl ?_
  refine z_iconst (q := 31) (v := 0) rfl rfl rfl ?_
  refine z_cv2i (q := 34) rfl rfl rfl (Mo_k w) (s_Mo_deed (i := 0) w hD (by omega)) ?_
  rw [hd0, show nI 4 = 4 from rfl]
  refine z_sw rfl ⟨fun h => absurd h (by decide), fun _ _ => ?_⟩
  show zw _ _ _ _ _ _ 124 _ _ _ _
  refine z_aload_n (q := 125) rfl rfl rfl ?_
  refine z_getR (q := 128) rfl rfl rfl (Mo_k w) (Mo_r10 w) ?_
  refine z_iload_n (q := 129) rfl rfl rfl ?_
  refine z_iald (q := 130) rfl rfl (Mo_a10 w) (by first | assumption | exact vp_in_nI (by omega) (by omega)) ?_
  rw [moF_a10]
  try rw [nI_clamp (by omega)]
  refine z_iconst (q := 131) (v := -1) rfl rfl rfl ?_
  refine z_ic_eq (q := 134) rfl rfl (fun h131 => ?_) (fun h131 => ?_)
  · refine z_aload_n (q := 140) rfl rfl rfl ?_
    refine z_getI (q := 143) rfl rfl rfl (Mo_k w) ?_
    rw [moF_g17]
    refine z_iload (q := 145) rfl rfl rfl ?_
    refine z_isub (q := 146) rfl rfl ?_
    refine z_ireti rfl rfl ?_
    first
      | (have hzz : A 8 a = -1 := h131
         refine ⟨_, rfl, ?_, F, A, rfl, mFr_r, ?_⟩
         · show F 17 - F 17 = (snQ (nI c) a q).1
           rw [sn_d (by rw [← hq.2.2.1]; exact hzz)]
           exact Int32.sub_self _
         · show mAg c F A (snQ (nI c) a q).2
           rw [sn_d (by rw [← hq.2.2.1]; exact hzz)]
           exact hq)
      | (have hzz : ¬ A 8 a = -1 := h131
         refine ⟨_, rfl, ?_, _, _, rfl, ⟨fun k _ b => up_n b, fun j hj => fr8_st j (by omega)⟩, ?_⟩
         · show F 17 + (nI (wl (A 8) q.1 a) + A 1 0) - F 17 = (snQ (nI c) a q).1
           rw [sn_n (by rw [← hq.2.2.1]; exact hzz), hq.2.1, hq.2.2.1, hs]
         · show mAg c _ _ (snQ (nI c) a q).2
           rw [sn_n (by rw [← hq.2.2.1]; exact hzz)]
           obtain ⟨h1, h2, h3, h4, h5, h6, h7, h8, h10⟩ := hq
           refine ⟨h1, ?_, ?_, ?_, h5, h6, h7, h8, lnA_st h10⟩
           · show F 17 + (nI (wl (A 8) q.1 a) + A 1 0) = _
             rw [h2, h3, hs]
           · show va_up (A 8) a (-1) = _
             rw [h3]
           · show va_up (A 9) a (-1) = _
             rw [h4])
      | fail "none"
  · refine z_aload_n (q := 135) rfl rfl rfl ?_
    refine z_iload_n (q := 136) rfl rfl rfl ?_
    refine z_cv1v (q := 139) rfl rfl rfl (Mo_k w) (s_Mo_snap w k8 hI.2.1 h) ?_
    refine z_aload_n (q := 140) rfl rfl rfl ?_
    refine z_getI (q := 143) rfl rfl rfl (Mo_k w) ?_
    rw [moF_g17]
    refine z_iload (q := 145) rfl rfl rfl ?_
    refine z_isub (q := 146) rfl rfl ?_
    refine z_ireti rfl rfl ?_
    first
      | (have hzz : A 8 a = -1 := h131
         refine ⟨_, rfl, ?_, F, A, rfl, mFr_r, ?_⟩
         · show F 17 - F 17 = (snQ (nI c) a q).1
           rw [sn_d (by rw [← hq.2.2.1]; exact hzz)]
           exact Int32.sub_self _
         · show mAg c F A (snQ (nI c) a q).2
           rw [sn_d (by rw [← hq.2.2.1]; exact hzz)]
           exact hq)
      | (have hzz : ¬ A 8 a = -1 := h131
         refine ⟨_, rfl, ?_, _, _, rfl, ⟨fun k _ b => up_n b, fun j hj => fr8_st j (by omega)⟩, ?_⟩
         · show F 17 + (nI (wl (A 8) q.1 a) + A 1 0) - F 17 = (snQ (nI c) a q).1
           rw [sn_n (by rw [← hq.2.2.1]; exact hzz), hq.2.1, hq.2.2.1, hs]
         · show mAg c _ _ (snQ (nI c) a q).2
           rw [sn_n (by rw [← hq.2.2.1]; exact hzz)]
           obtain ⟨h1, h2, h3, h4, h5, h6, h7, h8, h10⟩ := hq
           refine ⟨h1, ?_, ?_, ?_, h5, h6, h7, h8, lnA_st h10⟩
           · show F 17 + (nI (wl (A 8) q.1 a) + A 1 0) = _
             rw [h2, h3, hs]
           · show va_up (A 8) a (-1) = _
             rw [h3]
           · show va_up (A 9) a (-1) = _
             rw [h4])
      | fail "none"
theorem q_Mo_does6 {sc : Option (Nat × Nat × (Nat → Int32))} {sa : Nat → Nat} {d : Nat} {M : mz_M} {z : Nat × Nat} {m : Nat} (w : g_Mo M.2.2 m) {F : Nat → Int32} {A : Nat → Nat → Int32} {c : Nat} {q : sQ} {l t : Int32} (hq : mAg c F A q) (hI : qI c q) (hC : c ≤ 12) (hs : A 1 0 = nI c) (hl : F 15 = l) (ht : F 16 = t) (hV : qV c q) {N : Nat} (hN : N ≤ 200) {D a b e : Nat} (hD : D < 60) (hd1 : A 1 (19 + 4 * D + 1) = nI a) (hd2 : A 1 (19 + 4 * D + 2) = nI b) (hd3 : A 1 (19 + 4 * D + 3) = nI e) (hd0 : A 1 (19 + 4 * D + 0) = nI 5) (h : dV c N 6 a b e q)  : zi sc sa (d + 8) 197 [.ref m, .int (nI D)] (moF M m F A) z (mP M m F A c (caQ (nI c) l t c 6 a b e q).2 (caQ (nI c) l t c 6 a b e q).1) := by
  refine zin ym_Mo_does [.ref m, .int (nI D), .retAddr 0, .retAddr 0, .retAddr 0, .retAddr 0] rfl rfl rfl rfl ?_
  refine z_aload_n (q := 1) rfl rfl rfl ?_
  refine z_iload_n (q := 2) rfl rfl rfl ?_
  refine z_iconst (q := 3) (v := 1) rfl rfl rfl ?_
  refine z_cv2i (q := 6) rfl rfl rfl (Mo_k w) (s_Mo_deed (i := 1) w hD (by omega)) ?_
  rw [hd1]
  refine z_istore_n (q := 7) (L2 := [_, _, _, _, _, _]) rfl rfl rfl rfl ?_
  refine z_aload_n (q := 8) rfl rfl rfl ?_
  refine z_iload_n (q := 9) rfl rfl rfl ?_
  refine z_iconst (q := 10) (v := 2) rfl rfl rfl ?_
  refine z_cv2i (q := 13) rfl rfl rfl (Mo_k w) (s_Mo_deed (i := 2) w hD (by omega)) ?_
  rw [hd2]
  refine z_istore_n (q := 14) (L2 := [_, _, _, _, _, _]) rfl rfl rfl rfl ?_
  refine z_aload_n (q := 15) rfl rfl rfl ?_
  refine z_iload_n (q := 16) rfl rfl rfl ?_
  refine z_iconst (q := 17) (v := 3) rfl rfl rfl ?_
  refine z_cv2i (q := 20) rfl rfl rfl (Mo_k w) (s_Mo_deed (i := 3) w hD (by omega)) ?_
  rw [hd3]
  refine z_istore (q := 22) (L2 := [_, _, _, _, _, _]) rfl rfl rfl rfl ?_
  refine z_aload_n (q := 23) rfl rfl rfl ?_
  refine z_getI (q := 26) rfl rfl rfl (Mo_k w) ?_
  rw [moF_g17]
  refine z_istore (q := 28) (L2 := [_, _, _, _, _, _]) rfl rfl rfl rfl ?_
  refine z_aload_n (q := 29) rfl rfl rfl ?_
  refine z_iload_n (q := 30) rfl rfl rfl ?_
  refine z_iconst (q := 31) (v := 0) rfl rfl rfl ?_
  refine z_cv2i (q := 34) rfl rfl rfl (Mo_k w) (s_Mo_deed (i := 0) w hD (by omega)) ?_
  rw [hd0, show nI 5 = 5 from rfl]
  refine z_sw rfl ⟨fun h => absurd h (by decide), fun _ _ => ?_⟩
  show zw _ _ _ _ _ _ 108 _ _ _ _
  refine z_aload_n (q := 109) rfl rfl rfl ?_
  refine z_iload_n (q := 110) rfl rfl rfl ?_
  refine z_iload_n (q := 111) rfl rfl rfl ?_
  refine z_cv2qi (q := 114) rfl rfl rfl (Mo_k w) (q_Mo_merge w hq hI hC hs hl ht hV h.1 h.2.1 (by have := h.2.2; omega)) (fun x9 M9 h9 => ?_)
  obtain ⟨rfl, FF, AA, rfl, rr, gg⟩ := h9
  refine z_ireti rfl rfl ?_
  exact ⟨_, rfl, rfl, FF, AA, rfl, rr, gg⟩
theorem q_Mo_does7 {sc : Option (Nat × Nat × (Nat → Int32))} {sa : Nat → Nat} {d : Nat} {M : mz_M} {z : Nat × Nat} {m : Nat} (w : g_Mo M.2.2 m) {F : Nat → Int32} {A : Nat → Nat → Int32} {c : Nat} {q : sQ} {l t : Int32} (hq : mAg c F A q) (hI : qI c q) (hC : c ≤ 12) (hs : A 1 0 = nI c) (hl : F 15 = l) (ht : F 16 = t) (hV : qV c q) {N : Nat} (hN : N ≤ 200) {D a b e : Nat} (hD : D < 60) (hd1 : A 1 (19 + 4 * D + 1) = nI a) (hd2 : A 1 (19 + 4 * D + 2) = nI b) (hd3 : A 1 (19 + 4 * D + 3) = nI e) (hd0 : A 1 (19 + 4 * D + 0) = nI 6) (h : dV c N 7 a b e q)  : zi sc sa (d + 8) 197 [.ref m, .int (nI D)] (moF M m F A) z (mP M m F A c (caQ (nI c) l t c 7 a b e q).2 (caQ (nI c) l t c 7 a b e q).1) := by
  refine zin ym_Mo_does [.ref m, .int (nI D), .retAddr 0, .retAddr 0, .retAddr 0, .retAddr 0] rfl rfl rfl rfl ?_
  refine z_aload_n (q := 1) rfl rfl rfl ?_
  refine z_iload_n (q := 2) rfl rfl rfl ?_
  refine z_iconst (q := 3) (v := 1) rfl rfl rfl ?_
  refine z_cv2i (q := 6) rfl rfl rfl (Mo_k w) (s_Mo_deed (i := 1) w hD (by omega)) ?_
  rw [hd1]
  refine z_istore_n (q := 7) (L2 := [_, _, _, _, _, _]) rfl rfl rfl rfl ?_
  refine z_aload_n (q := 8) rfl rfl rfl ?_
  refine z_iload_n (q := 9) rfl rfl rfl ?_
  refine z_iconst (q := 10) (v := 2) rfl rfl rfl ?_
  refine z_cv2i (q := 13) rfl rfl rfl (Mo_k w) (s_Mo_deed (i := 2) w hD (by omega)) ?_
  rw [hd2]
  refine z_istore_n (q := 14) (L2 := [_, _, _, _, _, _]) rfl rfl rfl rfl ?_
  refine z_aload_n (q := 15) rfl rfl rfl ?_
  refine z_iload_n (q := 16) rfl rfl rfl ?_
  refine z_iconst (q := 17) (v := 3) rfl rfl rfl ?_
  refine z_cv2i (q := 20) rfl rfl rfl (Mo_k w) (s_Mo_deed (i := 3) w hD (by omega)) ?_
  rw [hd3]
  refine z_istore (q := 22) (L2 := [_, _, _, _, _, _]) rfl rfl rfl rfl ?_
  refine z_aload_n (q := 23) rfl rfl rfl ?_
  refine z_getI (q := 26) rfl rfl rfl (Mo_k w) ?_
  rw [moF_g17]
  refine z_istore (q := 28) (L2 := [_, _, _, _, _, _]) rfl rfl rfl rfl ?_
  refine z_aload_n (q := 29) rfl rfl rfl ?_
  refine z_iload_n (q := 30) rfl rfl rfl ?_
  refine z_iconst (q := 31) (v := 0) rfl rfl rfl ?_
  refine z_cv2i (q := 34) rfl rfl rfl (Mo_k w) (s_Mo_deed (i := 0) w hD (by omega)) ?_
  rw [hd0, show nI 6 = 6 from rfl]
  refine z_sw rfl ⟨fun h => absurd h (by decide), fun _ _ => ?_⟩
  show zw _ _ _ _ _ _ 115 _ _ _ _
  refine z_aload_n (q := 116) rfl rfl rfl ?_
  refine z_iload_n (q := 117) rfl rfl rfl ?_
  refine z_iload_n (q := 118) rfl rfl rfl ?_
  refine z_iload (q := 120) rfl rfl rfl ?_
  refine z_cv3qi (q := 123) rfl rfl rfl (Mo_k w) (q_Mo_patch w hq hI hC hs hl ht hV h.1 h.2.1 h.2.2.1 (by have := h.2.2.2; omega)) (fun x9 M9 h9 => ?_)
  obtain ⟨rfl, FF, AA, rfl, rr, gg⟩ := h9
  refine z_ireti rfl rfl ?_
  exact ⟨_, rfl, rfl, FF, AA, rfl, rr, gg⟩
theorem q_Mo_does {sc : Option (Nat × Nat × (Nat → Int32))} {sa : Nat → Nat} {d : Nat} {M : mz_M} {z : Nat × Nat} {m : Nat} (w : g_Mo M.2.2 m) {F : Nat → Int32} {A : Nat → Nat → Int32} {c : Nat} {q : sQ} {l t : Int32} (hq : mAg c F A q) (hI : qI c q) (hC : c ≤ 12) (hs : A 1 0 = nI c) (hl : F 15 = l) (ht : F 16 = t) (hV : qV c q) {N : Nat} (hN : N ≤ 200) {D a b e : Nat} (hD : D < 60) (hd1 : A 1 (19 + 4 * D + 1) = nI a) (hd2 : A 1 (19 + 4 * D + 2) = nI b) (hd3 : A 1 (19 + 4 * D + 3) = nI e) {k : Nat} (hd0 : A 1 (19 + 4 * D + 0) = nI (kmN k)) (h : dV c N k a b e q) : zi sc sa (d + 8) 197 [.ref m, .int (nI D)] (moF M m F A) z (mP M m F A c (caQ (nI c) l t c k a b e q).2 (caQ (nI c) l t c k a b e q).1) := by
  match k, h, hd0 with
  | 1, h, h0 => exact q_Mo_does1 w hq hI hC hs hl ht hV hN hD hd1 hd2 hd3 h0 h
  | 2, h, h0 => exact q_Mo_does2 w hq hI hC hs hl ht hV hN hD hd1 hd2 hd3 h0 h
  | 3, h, h0 => exact q_Mo_does3 w hq hI hC hs hl ht hV hN hD hd1 hd2 hd3 h0 h
  | 4, h, h0 => exact q_Mo_does4 w hq hI hC hs hl ht hV hN hD hd1 hd2 hd3 h0 h
  | 5, h, h0 => exact q_Mo_does5 w hq hI hC hs hl ht hV hN hD hd1 hd2 hd3 h0 h
  | 6, h, h0 => exact q_Mo_does6 w hq hI hC hs hl ht hV hN hD hd1 hd2 hd3 h0 h
  | 7, h, h0 => exact q_Mo_does7 w hq hI hC hs hl ht hV hN hD hd1 hd2 hd3 h0 h
  | 0, h, _ => exact h.elim
  | k + 8, h, _ => exact h.elim
