-- versions on ways
theorem sh_s : ∀ v, v < 41 → ((1 : Int64) <<< ((nI v).toInt64 &&& 63)).toBitVec = 1#64 <<< v
  | 0, _ => rfl
  | 1, _ => rfl
  | 2, _ => rfl
  | 3, _ => rfl
  | 4, _ => rfl
  | 5, _ => rfl
  | 6, _ => rfl
  | 7, _ => rfl
  | 8, _ => rfl
  | 9, _ => rfl
  | 10, _ => rfl
  | 11, _ => rfl
  | 12, _ => rfl
  | 13, _ => rfl
  | 14, _ => rfl
  | 15, _ => rfl
  | 16, _ => rfl
  | 17, _ => rfl
  | 18, _ => rfl
  | 19, _ => rfl
  | 20, _ => rfl
  | 21, _ => rfl
  | 22, _ => rfl
  | 23, _ => rfl
  | 24, _ => rfl
  | 25, _ => rfl
  | 26, _ => rfl
  | 27, _ => rfl
  | 28, _ => rfl
  | 29, _ => rfl
  | 30, _ => rfl
  | 31, _ => rfl
  | 32, _ => rfl
  | 33, _ => rfl
  | 34, _ => rfl
  | 35, _ => rfl
  | 36, _ => rfl
  | 37, _ => rfl
  | 38, _ => rfl
  | 39, _ => rfl
  | 40, _ => rfl
  | v + 41, h => absurd h (by omega)
def onW (f : Nat → Int32) (u : Nat) : Nat → Int32 → Bool
  | 0, _ => false
  | k + 1, a => if a = -1 then false else if a = nI u then true else onW f u k (f a.toNatClampNeg)
theorem bt_or {b : Int64} {x u : Nat} (hx : x < 41) (hu : u < 41) : btv (b ||| (1 : Int64) <<< ((nI x).toInt64 &&& 63)) u = (btv b u || decide (u = x)) := by
  unfold btv
  show (b.toBitVec ||| ((1 : Int64) <<< ((nI x).toInt64 &&& 63)).toBitVec).getLsbD u = _
  rw [sh_s x hx, BitVec.getLsbD_or, BitVec.getLsbD_shiftLeft, b1_n]
  congr 1
  by_cases e : u = x
  · subst e
    simp
    omega
  · by_cases e2 : u < x
    · simp [e, e2]
    · have e3 : ¬ u - x = 0 := by omega
      simp [e, e3]
theorem on_b {f : Nat → Int32} {n u : Nat} (ho : okl f n) (hn : n ≤ 40) (hu : u < n) : ∀ k a b, okv n a → btv (wbI f k a b) u = (btv b u || onW f u k a) := by
  intro k
  induction k with
  | zero => intro a b _; simp [wbI, onW]
  | succ k ih =>
    intro a b ha
    unfold wbI onW
    by_cases e : a = -1
    · rw [if_pos e, if_pos e]
      simp
    · rw [if_neg e, if_neg e]
      rcases ha with g | ⟨x, hx, g⟩
      · exact absurd g e
      · subst g
        have hx2 : okv n (f x) := by
          rcases ho x hx with g2 | ⟨y, g2, g3⟩
          · exact Or.inl g2
          · exact Or.inr ⟨y, g2, g3⟩
        rw [nI_clamp (by omega), ih _ _ hx2, bt_or (by omega) (by omega)]
        by_cases e2 : nI x = nI u
        · have e3 : x = u := (nI_eq (by omega) (by omega)).mp e2
          rw [if_pos e2]
          simp [e3]
        · have e3 : ¬ u = x := fun g => e2 (by rw [g])
          rw [if_neg e2]
          simp [e3]
theorem l_Mo_isOnWay {sc : Option (Nat × Nat × (Nat → Int32))} {sa : Nat → Nat} {d : Nat} {M : mz_M} {z : Nat × Nat} {m : Nat} (w : g_Mo M.2.2 m) {F : Nat → Int32} {A : Nat → Nat → Int32} {c : Nat} {q : sQ} (hl : mAl A q) (hI : qI c q) (h14 : F 14 = nI q.1) (h40 : q.1 ≤ 40) {u : Nat} (hu : u < q.1) {x2 : Int32} {r : Bool} : ∀ (k : Nat) (a : Int32), (a = -1 ∨ ∃ x, x < q.1 ∧ a = nI x ∧ wl q.2.2.1 q.1 x < k) → onW q.2.2.1 u k a = r → zw sc sa d ym_Mo_isOnWay z (fun r' M' => r' = some (.int (bz (r = true))) ∧ M' = (moF M m F A)) 2 [.ref m, .int (nI u), .int x2, .int a] [] (moF M m F A) z := by
  intro k
  induction k with
  | zero =>
    intro a ha hr
    have e1 : a = -1 := by
      rcases ha with g | ⟨u, _, _, g⟩
      · exact g
      · exact absurd g (Nat.not_lt_zero _)
    subst e1
    have e2 : false = r := hr
    subst e2
    refine z_iload_n (q := 3) rfl rfl rfl ?_
    refine z_iconst (q := 4) (v := -1) rfl rfl rfl ?_
    refine z_ic_eq (q := 7) rfl rfl (fun h4 => ?_) (fun h4 => ?_)
    · refine z_iload_n (q := 23) rfl rfl rfl ?_
      refine z_iload_n (q := 24) rfl rfl rfl ?_
      refine z_ic_ne (q := 27) rfl rfl (fun h24 => ?_) (fun h24 => ?_)
      · refine z_iconst (q := 32) (v := 0) rfl rfl rfl ?_
        refine z_iretz rfl rfl (rfl) ?_
        exact bzr_f (by decide)
      · exact absurd h24.symm (nI_m1 (by have := hI.2.1; omega))
    · exact absurd rfl h4
  | succ k ih =>
    intro a ha hr
    have b2 := hI.2.1
    unfold onW at hr
    refine z_iload_n (q := 3) rfl rfl rfl ?_
    refine z_iconst (q := 4) (v := -1) rfl rfl rfl ?_
    refine z_ic_eq (q := 7) rfl rfl (fun h4 => ?_) (fun h4 => ?_)
    · refine z_iload_n (q := 23) rfl rfl rfl ?_
      refine z_iload_n (q := 24) rfl rfl rfl ?_
      refine z_ic_ne (q := 27) rfl rfl (fun h24 => ?_) (fun h24 => ?_)
      · refine z_iconst (q := 32) (v := 0) rfl rfl rfl ?_
        refine z_iretz rfl rfl (rfl) ?_
        first
          | (have hzz : a = nI u := h24
             rw [if_neg (by rw [hzz]; exact nI_m1 (by omega)), if_pos hzz] at hr
             exact bzr_t hr.symm)
          | (have hzz : a = -1 := h4
             rw [if_pos hzz] at hr
             exact bzr_f (by rw [← hr]; decide))
          | exact absurd h9 h24
          | fail "none"
      · refine z_iconst (q := 28) (v := 1) rfl rfl rfl ?_
        refine z_goto rfl ?_
        refine z_iretz rfl rfl (rfl) ?_
        first
          | (have hzz : a = nI u := h24
             rw [if_neg (by rw [hzz]; exact nI_m1 (by omega)), if_pos hzz] at hr
             exact bzr_t hr.symm)
          | (have hzz : a = -1 := h4
             rw [if_pos hzz] at hr
             exact bzr_f (by rw [← hr]; decide))
          | exact absurd h9 h24
          | fail "none"
    · refine z_iload_n (q := 8) rfl rfl rfl ?_
      refine z_iload_n (q := 9) rfl rfl rfl ?_
      refine z_ic_eq (q := 12) rfl rfl (fun h9 => ?_) (fun h9 => ?_)
      · refine z_iload_n (q := 23) rfl rfl rfl ?_
        refine z_iload_n (q := 24) rfl rfl rfl ?_
        refine z_ic_ne (q := 27) rfl rfl (fun h24 => ?_) (fun h24 => ?_)
        · refine z_iconst (q := 32) (v := 0) rfl rfl rfl ?_
          refine z_iretz rfl rfl (rfl) ?_
          first
            | (have hzz : a = nI u := h24
               rw [if_neg (by rw [hzz]; exact nI_m1 (by omega)), if_pos hzz] at hr
               exact bzr_t hr.symm)
            | (have hzz : a = -1 := h4
               rw [if_pos hzz] at hr
               exact bzr_f (by rw [← hr]; decide))
            | exact absurd h9 h24
            | fail "none"
        · refine z_iconst (q := 28) (v := 1) rfl rfl rfl ?_
          refine z_goto rfl ?_
          refine z_iretz rfl rfl (rfl) ?_
          first
            | (have hzz : a = nI u := h24
               rw [if_neg (by rw [hzz]; exact nI_m1 (by omega)), if_pos hzz] at hr
               exact bzr_t hr.symm)
            | (have hzz : a = -1 := h4
               rw [if_pos hzz] at hr
               exact bzr_f (by rw [← hr]; decide))
            | exact absurd h9 h24
            | fail "none"
      · refine z_aload_n (q := 13) rfl rfl rfl ?_
        refine z_getR (q := 16) rfl rfl rfl (Mo_k w) (Mo_r10 w) ?_
        refine z_iload_n (q := 17) rfl rfl rfl ?_
        refine z_iald (q := 18) rfl rfl (Mo_a10 w) (ka_in ha h4 b2) ?_
        rw [moF_a10]
        try rw [nI_clamp (by omega)]
        refine z_istore_n (q := 19) (L2 := [_, _, _, _]) rfl rfl rfl rfl ?_
        refine z_goto rfl ?_
        rw [if_neg h4, if_neg h9] at hr
        rcases ha with g | ⟨y, g1, g2, g3⟩
        · exact absurd g h4
        · subst g2
          rw [nI_clamp (by omega)] at hr
          rw [nI_clamp (by omega), (hl y g1).1]
          refine ih _ ?_ hr
          by_cases e : q.2.2.1 y = -1
          · exact Or.inl e
          · have g4 := okl_nx hI.2.2.1.1 (by omega) g1 e
            have g5 := wl_rec hI.2.2.1 (by omega) g1
            rw [if_neg e] at g5
            exact Or.inr ⟨_, g4.1, g4.2, by omega⟩
theorem s_Mo_isOnWay {sc : Option (Nat × Nat × (Nat → Int32))} {sa : Nat → Nat} {d : Nat} {M : mz_M} {z : Nat × Nat} {m : Nat} (w : g_Mo M.2.2 m) {F : Nat → Int32} {A : Nat → Nat → Int32} {c : Nat} {q : sQ} (hl : mAl A q) (hI : qI c q) (h14 : F 14 = nI q.1) (h40 : q.1 ≤ 40) {u v : Nat} (hu : u < q.1) (hv : v < q.1) : zx sc sa (d + 1) 264 [.ref m, .int (nI u), .int (nI v)] (moF M m F A) z z (some (.int (bz (btv (wbI q.2.2.1 q.1 (nI v) 0) u = true)))) (moF M m F A) := by
  refine zxin ym_Mo_isOnWay [.ref m, .int (nI u), .int (nI v), .retAddr 0] rfl rfl rfl rfl ?_
  refine z_iload_n (q := 1) rfl rfl rfl ?_
  refine z_istore_n (q := 2) (L2 := [_, _, _, _]) rfl rfl rfl rfl ?_
  have e9 := l_Mo_isOnWay (sc := sc) (sa := sa) (d := d) (z := z) (x2 := nI v) w hl hI h14 h40 hu q.1 (nI v) (Or.inr ⟨v, hv, rfl, wl_lt hI.2.2.1 (by have := hI.2.1; omega) _ hv⟩) rfl
  have e8 := on_b hI.2.2.1.1 h40 hu q.1 (nI v) 0 (Or.inr ⟨v, hv, rfl⟩)
  rw [show btv 0 u = false by unfold btv; exact BitVec.getLsbD_zero, Bool.false_or] at e8
  rw [← e8] at e9
  exact e9
theorem wt_s {f : Nat → Int32} {n u v : Nat} {x : Int32} (h : nI v = nI u) : wtG f n (nI u) v x = x := if_pos h
theorem wt_n {f : Nat → Int32} {n u v : Nat} {x : Int32} (h : ¬ nI v = nI u) (hu : u < 41) (hb : ¬ btv (wbI f n (nI v) 0) u = true) : wtG f n (nI u) v x = x := by
  unfold wtG
  rw [if_neg h, if_pos ((lo_0 (set := wbI f n (nI v) 0) hu).mpr (by simpa using hb))]
theorem wt_y {f : Nat → Int32} {n u v : Nat} {x : Int32} (h : ¬ nI v = nI u) (hu : u < 41) (hb : btv (wbI f n (nI v) 0) u = true) : wtG f n (nI u) v x = x + Int32.ofInt 1 := by
  unfold wtG
  rw [if_neg h, if_neg (fun g => by
    have := (lo_0 (set := wbI f n (nI v) 0) hu).mp g
    rw [hb] at this
    exact absurd this (by decide))]
theorem l_Mo_busy1 {sc : Option (Nat × Nat × (Nat → Int32))} {sa : Nat → Nat} {d : Nat} {M : mz_M} {z : Nat × Nat} {m : Nat} (w : g_Mo M.2.2 m) {F : Nat → Int32} {A : Nat → Nat → Int32} {c : Nat} {q : sQ} (hl : mAl A q) (hI : qI c q) (h14 : F 14 = nI q.1) (h40 : q.1 ≤ 40) {u : Nat} (hu : u < q.1) (hne : ¬ q.2.2.1 u = -1) {b mo : Int32} {Q : mz_P} (hk : ∀ y, zw sc sa (d + 1) ym_Mo_busiest z Q 86 [.ref m, .int b, .int mo, .int (nI u), .int (fo (wtG q.2.2.1 q.1 (nI u)) 0 q.1), .int y] [] (moF M m F A) z)  : ∀ (k : Nat) (i : Nat), i + k = q.1 → zw sc sa (d + 1) ym_Mo_busiest z Q 35 [.ref m, .int b, .int mo, .int (nI u), .int (fo (wtG q.2.2.1 q.1 (nI u)) 0 i), .int (nI i)] [] (moF M m F A) z := by
  intro k
  induction k with
  | zero =>
    intro i hi
    have e1 : i = q.1 := by omega
    subst e1
    refine z_iload (q := 37) rfl rfl rfl ?_
    refine z_aload_n (q := 38) rfl rfl rfl ?_
    refine z_getI (q := 41) rfl rfl rfl (Mo_k w) ?_
    rw [moF_g14]
    rw [h14]
    refine z_ic_ge (q := 44) rfl rfl (fun h41 => ?_) (fun h41 => ?_)
    · exact hk _
    · exact absurd (Int32.le_refl _) h41
  | succ k ih =>
    intro i hi
    have b2 := hI.2.1
    have hi2 : i < q.1 := by omega
    refine z_iload (q := 37) rfl rfl rfl ?_
    refine z_aload_n (q := 38) rfl rfl rfl ?_
    refine z_getI (q := 41) rfl rfl rfl (Mo_k w) ?_
    rw [moF_g14]
    rw [h14]
    refine z_ic_ge (q := 44) rfl rfl (fun h41 => ?_) (fun h41 => ?_)
    · exact absurd h41 (nI_ge (by omega) (by omega))
    · refine z_aload_n (q := 45) rfl rfl rfl ?_
      refine z_getR (q := 48) rfl rfl rfl (Mo_k w) (Mo_r10 w) ?_
      refine z_iload_n (q := 49) rfl rfl rfl ?_
      refine z_iald (q := 50) rfl rfl (Mo_a10 w) (by first | assumption | exact vp_in_nI (by omega) (by omega)) ?_
      rw [moF_a10]
      try rw [nI_clamp (by omega)]
      rw [(hl u hu).1]
      refine z_iconst (q := 51) (v := -1) rfl rfl rfl ?_
      refine z_ic_eq (q := 54) rfl rfl (fun h51 => ?_) (fun h51 => ?_)
      · exact absurd h51 hne
      · refine z_iload (q := 56) rfl rfl rfl ?_
        refine z_iload (q := 58) rfl rfl rfl ?_
        refine z_iload_n (q := 59) rfl rfl rfl ?_
        refine z_ic_eq (q := 62) rfl rfl (fun h59 => ?_) (fun h59 => ?_)
        · refine z_iconst (q := 77) (v := 0) rfl rfl rfl ?_
          refine z_iadd (q := 78) rfl rfl ?_
          refine z_istore (q := 80) (L2 := [_, _, _, _, _, _]) rfl rfl rfl rfl ?_
          refine z_iinc (q := 83) (L2 := [_, _, _, _, _, _]) rfl rfl rfl rfl ?_
          refine z_goto rfl ?_
          rw [show nI i + Int32.ofInt 1 = nI (i + 1) from (nI_succ i).symm]
          have e9 := ih (i + 1) (by omega)
          first
            | (have hzz : nI i = nI u := h59
               rw [show fo (wtG q.2.2.1 q.1 (nI u)) 0 (i + 1) = _ from wt_s hzz] at e9
               rw [Int32.add_zero]
               exact e9)
            | (have hzz : ¬ btv (wbI q.2.2.1 q.1 (nI i) 0) u = true := bz_0.mp h69
               rw [show fo (wtG q.2.2.1 q.1 (nI u)) 0 (i + 1) = _ from wt_n h59 (by omega) hzz] at e9
               rw [Int32.add_zero]
               exact e9)
            | (have hzz : btv (wbI q.2.2.1 q.1 (nI i) 0) u = true := bz_n.mp h69
               rw [show fo (wtG q.2.2.1 q.1 (nI u)) 0 (i + 1) = _ from wt_y h59 (by omega) hzz] at e9
               exact e9)
            | fail "none"
        · refine z_aload_n (q := 63) rfl rfl rfl ?_
          refine z_iload_n (q := 64) rfl rfl rfl ?_
          refine z_iload (q := 66) rfl rfl rfl ?_
          refine z_cv2i (q := 69) rfl rfl rfl (Mo_k w) (s_Mo_isOnWay w hl hI h14 h40 hu hi2) ?_
          refine z_if_eq (q := 72) rfl rfl (fun h69 => ?_) (fun h69 => ?_)
          · refine z_iconst (q := 77) (v := 0) rfl rfl rfl ?_
            refine z_iadd (q := 78) rfl rfl ?_
            refine z_istore (q := 80) (L2 := [_, _, _, _, _, _]) rfl rfl rfl rfl ?_
            refine z_iinc (q := 83) (L2 := [_, _, _, _, _, _]) rfl rfl rfl rfl ?_
            refine z_goto rfl ?_
            rw [show nI i + Int32.ofInt 1 = nI (i + 1) from (nI_succ i).symm]
            have e9 := ih (i + 1) (by omega)
            first
              | (have hzz : nI i = nI u := h59
                 rw [show fo (wtG q.2.2.1 q.1 (nI u)) 0 (i + 1) = _ from wt_s hzz] at e9
                 rw [Int32.add_zero]
                 exact e9)
              | (have hzz : ¬ btv (wbI q.2.2.1 q.1 (nI i) 0) u = true := bz_0.mp h69
                 rw [show fo (wtG q.2.2.1 q.1 (nI u)) 0 (i + 1) = _ from wt_n h59 (by omega) hzz] at e9
                 rw [Int32.add_zero]
                 exact e9)
              | (have hzz : btv (wbI q.2.2.1 q.1 (nI i) 0) u = true := bz_n.mp h69
                 rw [show fo (wtG q.2.2.1 q.1 (nI u)) 0 (i + 1) = _ from wt_y h59 (by omega) hzz] at e9
                 exact e9)
              | fail "none"
          · refine z_iconst (q := 73) (v := 1) rfl rfl rfl ?_
            refine z_goto rfl ?_
            refine z_iadd (q := 78) rfl rfl ?_
            refine z_istore (q := 80) (L2 := [_, _, _, _, _, _]) rfl rfl rfl rfl ?_
            refine z_iinc (q := 83) (L2 := [_, _, _, _, _, _]) rfl rfl rfl rfl ?_
            refine z_goto rfl ?_
            rw [show nI i + Int32.ofInt 1 = nI (i + 1) from (nI_succ i).symm]
            have e9 := ih (i + 1) (by omega)
            first
              | (have hzz : nI i = nI u := h59
                 rw [show fo (wtG q.2.2.1 q.1 (nI u)) 0 (i + 1) = _ from wt_s hzz] at e9
                 rw [Int32.add_zero]
                 exact e9)
              | (have hzz : ¬ btv (wbI q.2.2.1 q.1 (nI i) 0) u = true := bz_0.mp h69
                 rw [show fo (wtG q.2.2.1 q.1 (nI u)) 0 (i + 1) = _ from wt_n h59 (by omega) hzz] at e9
                 rw [Int32.add_zero]
                 exact e9)
              | (have hzz : btv (wbI q.2.2.1 q.1 (nI i) 0) u = true := bz_n.mp h69
                 rw [show fo (wtG q.2.2.1 q.1 (nI u)) 0 (i + 1) = _ from wt_y h59 (by omega) hzz] at e9
                 exact e9)
              | fail "none"
theorem l_Mo_busiest {sc : Option (Nat × Nat × (Nat → Int32))} {sa : Nat → Nat} {d : Nat} {M : mz_M} {z : Nat × Nat} {m : Nat} (w : g_Mo M.2.2 m) {F : Nat → Int32} {A : Nat → Nat → Int32} {c : Nat} {q : sQ} (hl : mAl A q) (hI : qI c q) (h14 : F 14 = nI q.1) (h40 : q.1 ≤ 40) : ∀ (k : Nat) (i : Nat) (x4 x5 : Value), i + k = q.1 → zw sc sa (d + 1) ym_Mo_busiest z (fun r' M' => r' = some (.int (fo (mpG q.2.2.1 q.1) (-1, 0) q.1).1) ∧ M' = (moF M m F A)) 21 [.ref m, .int (fo (mpG q.2.2.1 q.1) (-1, 0) i).1, .int (fo (mpG q.2.2.1 q.1) (-1, 0) i).2, .int (nI i), x4, x5] [] (moF M m F A) z := by
  intro k
  induction k with
  | zero =>
    intro i x4 x5 hi
    have e1 : i = q.1 := by omega
    subst e1
    refine z_iload_n (q := 22) rfl rfl rfl ?_
    refine z_aload_n (q := 23) rfl rfl rfl ?_
    refine z_getI (q := 26) rfl rfl rfl (Mo_k w) ?_
    rw [moF_g14]
    rw [h14]
    refine z_ic_ge (q := 29) rfl rfl (fun h26 => ?_) (fun h26 => ?_)
    · refine z_iload_n (q := 104) rfl rfl rfl ?_
      refine z_ireti rfl rfl ?_
      exact ⟨rfl, rfl⟩
    · exact absurd (Int32.le_refl _) h26
  | succ k ih =>
    intro i x4 x5 hi
    have b2 := hI.2.1
    have hi2 : i < q.1 := by omega
    by_cases hne : q.2.2.1 i = -1
    · refine z_iload_n (q := 22) rfl rfl rfl ?_
      refine z_aload_n (q := 23) rfl rfl rfl ?_
      refine z_getI (q := 26) rfl rfl rfl (Mo_k w) ?_
      rw [moF_g14]
      rw [h14]
      refine z_ic_ge (q := 29) rfl rfl (fun h26 => ?_) (fun h26 => ?_)
      · exact absurd h26 (nI_ge (by omega) (by omega))
      · refine z_iconst (q := 30) (v := 0) rfl rfl rfl ?_
        refine z_istore (q := 32) (L2 := [_, _, _, _, _, _]) rfl rfl rfl rfl ?_
        refine z_iconst (q := 33) (v := 0) rfl rfl rfl ?_
        refine z_istore (q := 35) (L2 := [_, _, _, _, _, _]) rfl rfl rfl rfl ?_
        refine z_iload (q := 37) rfl rfl rfl ?_
        refine z_aload_n (q := 38) rfl rfl rfl ?_
        refine z_getI (q := 41) rfl rfl rfl (Mo_k w) ?_
        rw [moF_g14]
        rw [h14]
        refine z_ic_ge (q := 44) rfl rfl (fun h41 => ?_) (fun h41 => ?_)
        · exact absurd h41 (nI_nle hI.1 (by omega))
        · refine z_aload_n (q := 45) rfl rfl rfl ?_
          refine z_getR (q := 48) rfl rfl rfl (Mo_k w) (Mo_r10 w) ?_
          refine z_iload_n (q := 49) rfl rfl rfl ?_
          refine z_iald (q := 50) rfl rfl (Mo_a10 w) (by first | assumption | exact vp_in_nI (by omega) (by omega)) ?_
          rw [moF_a10]
          try rw [nI_clamp (by omega)]
          rw [(hl i hi2).1]
          refine z_iconst (q := 51) (v := -1) rfl rfl rfl ?_
          refine z_ic_eq (q := 54) rfl rfl (fun h51 => ?_) (fun h51 => ?_)
          · refine z_iload (q := 88) rfl rfl rfl ?_
            refine z_iload_n (q := 89) rfl rfl rfl ?_
            refine z_ic_le (q := 92) rfl rfl (fun h89 => ?_) (fun h89 => ?_)
            · refine z_iinc (q := 100) (L2 := [_, _, _, _, _, _]) rfl rfl rfl rfl ?_
              refine z_goto rfl ?_
              rw [show nI i + Int32.ofInt 1 = nI (i + 1) from (nI_succ i).symm]
              have e9 := fun u v => ih (i + 1) u v (by omega)
              first
                | (have hzz : 0 ≤ (fo (mpG q.2.2.1 q.1) (-1, 0) i).2 := h89
                   rw [show (fo (mpG q.2.2.1 q.1) (-1, 0) (i + 1)) = (fo (mpG q.2.2.1 q.1) (-1, 0) i) from (mpG_d hne).trans (if_pos hzz)] at e9
                   exact e9 _ _)
                | (have hzz : ¬ 0 ≤ (fo (mpG q.2.2.1 q.1) (-1, 0) i).2 := h89
                   rw [show (fo (mpG q.2.2.1 q.1) (-1, 0) (i + 1)) = (nI i, 0) from (mpG_d hne).trans (if_neg hzz)] at e9
                   exact e9 _ _)
                | fail "none"
            · refine z_iload (q := 94) rfl rfl rfl ?_
              refine z_istore_n (q := 95) (L2 := [_, _, _, _, _, _]) rfl rfl rfl rfl ?_
              refine z_iload_n (q := 96) rfl rfl rfl ?_
              refine z_istore_n (q := 97) (L2 := [_, _, _, _, _, _]) rfl rfl rfl rfl ?_
              refine z_iinc (q := 100) (L2 := [_, _, _, _, _, _]) rfl rfl rfl rfl ?_
              refine z_goto rfl ?_
              rw [show nI i + Int32.ofInt 1 = nI (i + 1) from (nI_succ i).symm]
              have e9 := fun u v => ih (i + 1) u v (by omega)
              first
                | (have hzz : 0 ≤ (fo (mpG q.2.2.1 q.1) (-1, 0) i).2 := h89
                   rw [show (fo (mpG q.2.2.1 q.1) (-1, 0) (i + 1)) = (fo (mpG q.2.2.1 q.1) (-1, 0) i) from (mpG_d hne).trans (if_pos hzz)] at e9
                   exact e9 _ _)
                | (have hzz : ¬ 0 ≤ (fo (mpG q.2.2.1 q.1) (-1, 0) i).2 := h89
                   rw [show (fo (mpG q.2.2.1 q.1) (-1, 0) (i + 1)) = (nI i, 0) from (mpG_d hne).trans (if_neg hzz)] at e9
                   exact e9 _ _)
                | fail "none"
          · exact absurd hne h51
    · refine z_iload_n (q := 22) rfl rfl rfl ?_
      refine z_aload_n (q := 23) rfl rfl rfl ?_
      refine z_getI (q := 26) rfl rfl rfl (Mo_k w) ?_
      rw [moF_g14]
      rw [h14]
      refine z_ic_ge (q := 29) rfl rfl (fun h26 => ?_) (fun h26 => ?_)
      · exact absurd h26 (nI_ge (by omega) (by omega))
      · refine z_iconst (q := 30) (v := 0) rfl rfl rfl ?_
        refine z_istore (q := 32) (L2 := [_, _, _, _, _, _]) rfl rfl rfl rfl ?_
        refine z_iconst (q := 33) (v := 0) rfl rfl rfl ?_
        refine z_istore (q := 35) (L2 := [_, _, _, _, _, _]) rfl rfl rfl rfl ?_
        refine l_Mo_busy1 w hl hI h14 h40 hi2 hne (fun y => ?_) q.1 0 (by omega)
        refine z_iload (q := 88) rfl rfl rfl ?_
        refine z_iload_n (q := 89) rfl rfl rfl ?_
        refine z_ic_le (q := 92) rfl rfl (fun h89 => ?_) (fun h89 => ?_)
        · refine z_iinc (q := 100) (L2 := [_, _, _, _, _, _]) rfl rfl rfl rfl ?_
          refine z_goto rfl ?_
          rw [show nI i + Int32.ofInt 1 = nI (i + 1) from (nI_succ i).symm]
          have e9 := fun u v => ih (i + 1) u v (by omega)
          first
            | (have hzz : fo (wtG q.2.2.1 q.1 (nI i)) 0 q.1 ≤ (fo (mpG q.2.2.1 q.1) (-1, 0) i).2 := h89
               rw [show (fo (mpG q.2.2.1 q.1) (-1, 0) (i + 1)) = (fo (mpG q.2.2.1 q.1) (-1, 0) i) from (mpG_n hne).trans (if_pos hzz)] at e9
               exact e9 _ _)
            | (have hzz : ¬ fo (wtG q.2.2.1 q.1 (nI i)) 0 q.1 ≤ (fo (mpG q.2.2.1 q.1) (-1, 0) i).2 := h89
               rw [show (fo (mpG q.2.2.1 q.1) (-1, 0) (i + 1)) = (nI i, fo (wtG q.2.2.1 q.1 (nI i)) 0 q.1) from (mpG_n hne).trans (if_neg hzz)] at e9
               exact e9 _ _)
            | fail "none"
        · refine z_iload (q := 94) rfl rfl rfl ?_
          refine z_istore_n (q := 95) (L2 := [_, _, _, _, _, _]) rfl rfl rfl rfl ?_
          refine z_iload_n (q := 96) rfl rfl rfl ?_
          refine z_istore_n (q := 97) (L2 := [_, _, _, _, _, _]) rfl rfl rfl rfl ?_
          refine z_iinc (q := 100) (L2 := [_, _, _, _, _, _]) rfl rfl rfl rfl ?_
          refine z_goto rfl ?_
          rw [show nI i + Int32.ofInt 1 = nI (i + 1) from (nI_succ i).symm]
          have e9 := fun u v => ih (i + 1) u v (by omega)
          first
            | (have hzz : fo (wtG q.2.2.1 q.1 (nI i)) 0 q.1 ≤ (fo (mpG q.2.2.1 q.1) (-1, 0) i).2 := h89
               rw [show (fo (mpG q.2.2.1 q.1) (-1, 0) (i + 1)) = (fo (mpG q.2.2.1 q.1) (-1, 0) i) from (mpG_n hne).trans (if_pos hzz)] at e9
               exact e9 _ _)
            | (have hzz : ¬ fo (wtG q.2.2.1 q.1 (nI i)) 0 q.1 ≤ (fo (mpG q.2.2.1 q.1) (-1, 0) i).2 := h89
               rw [show (fo (mpG q.2.2.1 q.1) (-1, 0) (i + 1)) = (nI i, fo (wtG q.2.2.1 q.1 (nI i)) 0 q.1) from (mpG_n hne).trans (if_neg hzz)] at e9
               exact e9 _ _)
            | fail "none"
theorem q_Mo_busiest {sc : Option (Nat × Nat × (Nat → Int32))} {sa : Nat → Nat} {d : Nat} {M : mz_M} {z : Nat × Nat} {m : Nat} (w : g_Mo M.2.2 m) {F : Nat → Int32} {A : Nat → Nat → Int32} {c N D : Nat} {l t : Int32} {K P1 P2 P3 : Nat → Nat} {q : sQ} (hX : mX c N D l t K P1 P2 P3 q A)  : zi sc sa (d + 11) 263 [.ref m] (moF M m F A) z (mR M m F A ((fo (mpG q.2.2.1 q.1) (-1, 0) q.1).1)) := by
  obtain ⟨⟨c1, c2, c3, c4, c5⟩, ⟨k1, k2, k3, k4, ln, k5, k6, k7⟩, hd, hv, he, hI, hV, hn⟩ := id hX
  have b1 := hI.1
  have b2 := hI.2.1
  refine zin ym_Mo_busiest [.ref m, .retAddr 0, .retAddr 0, .retAddr 0, .retAddr 0, .retAddr 0] rfl rfl rfl rfl ?_
  refine z_aload_n (q := 1) rfl rfl rfl ?_
  refine z_cv0i (q := 4) rfl rfl rfl (Mo_k w) (s_Mo_is w k7 k5 k6) ?_
  refine z_if_ne (q := 7) rfl rfl (fun h4 => ?_) (fun h4 => ?_)
  · refine z_aload_n (q := 11) rfl rfl rfl ?_
    refine z_cv0qi (q := 14) rfl rfl rfl (Mo_k w) (q_Mo_playsX w hX) (fun x9 M9 h9 => ?_)
    obtain ⟨p9, q9, rfl, FF, AA, rfl, ww⟩ := h9
    refine z_pop (q := 15) rfl rfl rfl ?_
    refine z_iconst (q := 16) (v := -1) rfl rfl rfl ?_
    refine z_istore_n (q := 17) (L2 := [_, _, _, _, _, _]) rfl rfl rfl rfl ?_
    refine z_iconst (q := 18) (v := 0) rfl rfl rfl ?_
    refine z_istore_n (q := 19) (L2 := [_, _, _, _, _, _]) rfl rfl rfl rfl ?_
    refine z_iconst (q := 20) (v := 0) rfl rfl rfl ?_
    refine z_istore_n (q := 21) (L2 := [_, _, _, _, _, _]) rfl rfl rfl rfl ?_
    refine mz_wp_m (mz_Kd_m sc sa _) ?_ (l_Mo_busiest (d := d + 9) w ww.2.2.2.1 hI ww.1 hn q.1 0 _ _ (by omega))
    intro r9 M9 h
    rw [h.1, h.2]
    exact qz_r rfl ⟨FF, AA, rfl, mPe_w ww⟩
  · exact absurd h4 (by decide)
