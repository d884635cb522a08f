theorem o_Pa_seek {sc : Option (Nat × Nat × (Nat → Int32))} {sa : Nat → Nat} {d : Nat} {M : mz_M} {z : Nat × Nat} {pb : Nat} {oc tb lv mx : Int32} {fr tr : Nat → Int32} {q : sQ} {tk ch co : Nat → Int32} {s l t : Int32} (w : g_Pa M.2.2 pb) {st : Nat} (v : g_St M.2.2 st) (hf : pb + 11 < st) {l2 l3 : Int32} {c i : Nat} {v6 : Value} (hi : i < 1000000) (c3 : ¬ oc = 3) : zw sc sa (d + 5) ym_Pa_seek z (fun r' M' => r' = none ∧ M' = (paQ M pb oc tb lv mx fr tr tk ch co s l t q)) 20 [.ref pb, .ref st, .int l2, .int l3, .int (nI c), .int (nI i), v6] [] (paQ M pb oc tb lv mx fr tr tk ch co s l t q) z := by
  refine z_iload (q := 22) rfl rfl rfl ?_
  refine z_ldc (q := 24) (v := 1000000) rfl rfl rfl ?_
  refine z_ic_ge (q := 27) rfl rfl (fun h24 => ?_) (fun h24 => ?_)
  · exact absurd (show nI 1000000 ≤ nI i from h24) (nI_ge (by omega) (by omega))
  · refine z_aload_n (q := 28) rfl rfl rfl ?_
    refine z_getI (q := 31) rfl rfl rfl (Pa_k w) ?_
    rw [paQ_g6]
    refine z_iconst (q := 32) (v := 3) rfl rfl rfl ?_
    refine z_ic_ne (q := 35) rfl rfl (fun h32 => ?_) (fun h32 => ?_)
    · refine z_ret rfl rfl ?_
      exact ⟨rfl, rfl⟩
    · exact absurd h32 c3
theorem l_Pa_seek {sc : Option (Nat × Nat × (Nat → Int32))} {sa : Nat → Nat} {d : Nat} {M : mz_M} {z : Nat × Nat} {pb : Nat} {mx : Int32} {tk ch co : Nat → Int32} {s l t : Int32} (w : g_Pa M.2.2 pb) {st : Nat} (v : g_St M.2.2 st) (hf : pb + 11 < st) {n m : Nat} (hs : s = nI n) (hn : n ≤ 12) (hm : mx = nI m) (hm2 : m ≤ 20) {l2 l3 : Int32} : ∀ (k : Nat) (i : Nat) (x y : kS) (v6 : Value), i + k = 1000000 → kI n m x → kG s l t n m (M.1 (st + 7)) k x = y → zw sc sa (d + 5) ym_Pa_seek z (fun r' M' => r' = none ∧ M' = (paQ M pb y.1 y.2.1 y.2.2.1 mx y.2.2.2.2.1 y.2.2.2.2.2.1 tk ch co s l t y.2.2.2.2.2.2)) 20 [.ref pb, .ref st, .int l2, .int l3, .int (nI x.2.2.2.1), .int (nI i), v6] [] (paQ M pb x.1 x.2.1 x.2.2.1 mx x.2.2.2.2.1 x.2.2.2.2.2.1 tk ch co s l t x.2.2.2.2.2.2) z := by
  intro k
  induction k with
  | zero =>
    intro i x y v6 hi hI hG
    have e1 : i = 1000000 := by omega
    subst e1
    have e2 : x = y := hG
    subst e2
    refine z_iload (q := 22) rfl rfl rfl ?_
    refine z_ldc (q := 24) (v := 1000000) rfl rfl rfl ?_
    refine z_ic_ge (q := 27) rfl rfl (fun h24 => ?_) (fun h24 => ?_)
    · refine z_ret rfl rfl ?_
      exact ⟨rfl, rfl⟩
    · exact absurd (show nI 1000000 ≤ nI 1000000 from nI_le (Nat.le_refl _) (by omega)) h24
  | succ k ih =>
    intro i x y v6 hi hI hG
    obtain ⟨oc, tb, lv, c, fr, tr, q⟩ := x
    have hI2 := hI
    obtain ⟨h1, h2, h4, h5, h6⟩ := hI2
    dsimp only at h1 h2 h4 h5 h6
    rw [kG_s] at hG
    dsimp only at hG
    dsimp only
    by_cases c3 : oc = 3
    case neg =>
      rw [if_neg c3] at hG
      subst hG
      exact o_Pa_seek w v hf (by omega) c3
    have hc := h5 c3
    rw [if_pos c3] at hG
    obtain ⟨⟨f, hff, ef⟩, a, ha, ea⟩ := h6 c (Nat.le_refl _) hc
    have hK := @kU_ok s l t n m (M.1 (st + 7)) (oc, tb, lv, c, fr, tr, q) hm2 hI c3
    have er : kN s l t m (M.1 (st + 7)) (oc, tb, lv, c, fr, tr, q) = pnF s l t f c (M.1 (st + 7) c) oc (m - a) a q := by
      unfold kN
      dsimp only
      rw [ef, ea, nI_clamp (by omega), nI_clamp (by omega)]
    rw [er] at hK hG
    have hp := @q_Pa_paintNext sc sa d M z pb oc tb lv mx fr tr tk ch co s l t q w st v hf c f (by omega) ef n m hs hn hc hm hm2 h1 hff h2 a ea ha
    generalize pnF s l t f c (M.1 (st + 7) c) oc (m - a) a q = r at hK hG hp
    obtain ⟨r0, r1, r2, q1⟩ := r
    dsimp only at hp
    refine z_iload (q := 22) rfl rfl rfl ?_
    refine z_ldc (q := 24) (v := 1000000) rfl rfl rfl ?_
    refine z_ic_ge (q := 27) rfl rfl (fun h24 => ?_) (fun h24 => ?_)
    · exact absurd (show nI 1000000 ≤ nI i from h24) (nI_ge (by omega) (by omega))
    · refine z_aload_n (q := 28) rfl rfl rfl ?_
      refine z_getI (q := 31) rfl rfl rfl (Pa_k w) ?_
      rw [paQ_g6]
      refine z_iconst (q := 32) (v := 3) rfl rfl rfl ?_
      refine z_ic_ne (q := 35) rfl rfl (fun h32 => ?_) (fun h32 => ?_)
      · exact absurd c3 h32
      · refine z_aload_n (q := 36) rfl rfl rfl ?_
        refine z_aload_n (q := 37) rfl rfl rfl ?_
        refine z_iload (q := 39) rfl rfl rfl ?_
        refine z_cv2i (q := 42) rfl rfl rfl (Pa_k w) (hp) ?_
        refine z_istore (q := 44) (L2 := [_, _, _, _, _, _, _]) rfl rfl rfl rfl ?_
        refine z_iload (q := 46) rfl rfl rfl ?_
        refine z_iconst (q := 47) (v := -1) rfl rfl rfl ?_
        refine z_ic_eq (q := 50) rfl rfl (fun h47 => ?_) (fun h47 => ?_)
        · refine z_aload_n (q := 65) rfl rfl rfl ?_
          refine z_getI (q := 68) rfl rfl rfl (Pa_k w) ?_
          rw [paQ_g6]
          refine z_iconst (q := 69) (v := 3) rfl rfl rfl ?_
          refine z_ic_ne (q := 72) rfl rfl (fun h69 => ?_) (fun h69 => ?_)
          · refine z_iinc (q := 83) (L2 := [_, _, _, _, _, _, _]) rfl rfl rfl rfl ?_
            refine z_goto rfl ?_
            rw [show nI i + Int32.ofInt 1 = nI (i + 1) from (nI_succ i).symm]
            have e := ih (i + 1) _ y (.int r0) (by omega) hK hG
            unfold kU at e
            first
              | (have g1 : ¬ r0 = -1 := h47
                 simp only [if_neg g1] at e
                 exact e)
              | (have g1 : r0 = -1 := h47
                 have g2 : ¬ r2 = 3 := h69
                 simp only [if_pos g1, if_neg g2] at e
                 exact e)
              | (have g1 : r0 = -1 := h47
                 have g2 : r2 = 3 := h69
                 simp only [if_pos g1, if_pos g2] at e
                 exact e)
          · refine z_aload_n (q := 73) rfl rfl rfl ?_
            refine z_iload (q := 75) rfl rfl rfl ?_
            refine z_cv1i (q := 78) rfl rfl rfl (Pa_k w) (q_Pa_backFrom w (by omega)) ?_
            refine z_istore (q := 80) (L2 := [_, _, _, _, _, _, _]) rfl rfl rfl rfl ?_
            refine z_iinc (q := 83) (L2 := [_, _, _, _, _, _, _]) rfl rfl rfl rfl ?_
            refine z_goto rfl ?_
            rw [show nI i + Int32.ofInt 1 = nI (i + 1) from (nI_succ i).symm]
            have e := ih (i + 1) _ y (.int r0) (by omega) hK hG
            unfold kU at e
            first
              | (have g1 : ¬ r0 = -1 := h47
                 simp only [if_neg g1] at e
                 exact e)
              | (have g1 : r0 = -1 := h47
                 have g2 : ¬ r2 = 3 := h69
                 simp only [if_pos g1, if_neg g2] at e
                 exact e)
              | (have g1 : r0 = -1 := h47
                 have g2 : r2 = 3 := h69
                 simp only [if_pos g1, if_pos g2] at e
                 exact e)
        · refine z_iinc (q := 53) (L2 := [_, _, _, _, _, _, _]) rfl rfl rfl rfl ?_
          rw [show nI c + Int32.ofInt 1 = nI (c + 1) from (nI_succ c).symm]
          refine z_aload_n (q := 54) rfl rfl rfl ?_
          refine z_iload (q := 56) rfl rfl rfl ?_
          refine z_iload (q := 58) rfl rfl rfl ?_
          refine z_cv2v (q := 61) rfl rfl rfl (Pa_k w) (q_Pa_openCell w hs hn (by omega)) ?_
          refine z_goto rfl ?_
          refine z_iinc (q := 83) (L2 := [_, _, _, _, _, _, _]) rfl rfl rfl rfl ?_
          refine z_goto rfl ?_
          rw [show nI i + Int32.ofInt 1 = nI (i + 1) from (nI_succ i).symm]
          have e := ih (i + 1) _ y (.int r0) (by omega) hK hG
          unfold kU at e
          first
            | (have g1 : ¬ r0 = -1 := h47
               simp only [if_neg g1] at e
               exact e)
            | (have g1 : r0 = -1 := h47
               have g2 : ¬ r2 = 3 := h69
               simp only [if_pos g1, if_neg g2] at e
               exact e)
            | (have g1 : r0 = -1 := h47
               have g2 : r2 = 3 := h69
               simp only [if_pos g1, if_pos g2] at e
               exact e)
theorem okl_bg {q : sQ} {row : Int64} : okl (bgQ row q).2.2.1 1 := by
  intro v hv
  obtain rfl : v = 0 := by omega
  refine Or.inl ?_
  show va_up q.2.2.1 0 (-1) 0 = -1
  exact up_at
theorem q_Pa_seek {sc : Option (Nat × Nat × (Nat → Int32))} {sa : Nat → Nat} {d : Nat} {M : mz_M} {z : Nat × Nat} {pb : Nat} {oc tb lv mx : Int32} {fr tr tk ch co : Nat → Int32} {s l t : Int32} {q : sQ} (w : g_Pa M.2.2 pb) {st : Nat} (v : g_St M.2.2 st) (hf : pb + 11 < st) {n m : Nat} (hs : M.1 (st + 1) 5 = nI n) (hn : n ≤ 12) (hn1 : 1 ≤ n) (hm2 : m ≤ 20) {l2 : Int32} : zx sc sa (d + 6) 6 [.ref pb, .ref st, .int l2, .int (nI m)] (paQ M pb oc tb lv mx fr tr tk ch co s l t q) z z none (paQ M pb (kG (nI n) l2 (M.1 (st + 1) 7) n m (M.1 (st + 7)) 1000000 ((3, 0, 0, 0, va_up fr 0 0, va_up tr 0 0, bgQ 0 q) : kS)).1 (kG (nI n) l2 (M.1 (st + 1) 7) n m (M.1 (st + 7)) 1000000 ((3, 0, 0, 0, va_up fr 0 0, va_up tr 0 0, bgQ 0 q) : kS)).2.1 (kG (nI n) l2 (M.1 (st + 1) 7) n m (M.1 (st + 7)) 1000000 ((3, 0, 0, 0, va_up fr 0 0, va_up tr 0 0, bgQ 0 q) : kS)).2.2.1 (nI m) (kG (nI n) l2 (M.1 (st + 1) 7) n m (M.1 (st + 7)) 1000000 ((3, 0, 0, 0, va_up fr 0 0, va_up tr 0 0, bgQ 0 q) : kS)).2.2.2.2.1 (kG (nI n) l2 (M.1 (st + 1) 7) n m (M.1 (st + 7)) 1000000 ((3, 0, 0, 0, va_up fr 0 0, va_up tr 0 0, bgQ 0 q) : kS)).2.2.2.2.2.1 tk ch co (nI n) l2 (M.1 (st + 1) 7) (kG (nI n) l2 (M.1 (st + 1) 7) n m (M.1 (st + 7)) 1000000 ((3, 0, 0, 0, va_up fr 0 0, va_up tr 0 0, bgQ 0 q) : kS)).2.2.2.2.2.2) := by
  refine zxin ym_Pa_seek [.ref pb, .ref st, .int l2, .int (nI m), .retAddr 0, .retAddr 0, .retAddr 0] rfl rfl rfl rfl ?_
  refine z_aload_n (q := 1) rfl rfl rfl ?_
  refine z_aload_n (q := 2) rfl rfl rfl ?_
  refine z_iload_n (q := 3) rfl rfl rfl ?_
  refine z_iload_n (q := 4) rfl rfl rfl ?_
  refine z_lconst (q := 5) (v := 0) rfl rfl rfl ?_
  refine z_cv4v (q := 8) rfl rfl rfl (Pa_k w) (q_Pa_begin w v hf) ?_
  rw [hs]
  refine z_iconst (q := 9) (v := 0) rfl rfl rfl ?_
  refine z_istore (q := 11) (L2 := [_, _, _, _, _, _, _]) rfl rfl rfl rfl ?_
  refine z_aload_n (q := 12) rfl rfl rfl ?_
  refine z_iconst (q := 13) (v := 0) rfl rfl rfl ?_
  refine z_iconst (q := 14) (v := 0) rfl rfl rfl ?_
  refine z_cv2v (q := 17) rfl rfl rfl (Pa_k w) (q_Pa_openCell w rfl hn (c := 0) (by omega)) ?_
  simp only [if_neg (show ¬ 0 = n by omega)]
  refine z_iconst (q := 18) (v := 0) rfl rfl rfl ?_
  refine z_istore (q := 20) (L2 := [_, _, _, _, _, _, _]) rfl rfl rfl rfl ?_
  have hI : kI n m ((3, 0, 0, 0, va_up fr 0 0, va_up tr 0 0, bgQ 0 q) : kS) := by
    refine ⟨by show 1 ≤ 200; omega, okl_bg, Nat.zero_le _, fun _ => hn1, fun i hi _ => ?_⟩
    obtain rfl : i = 0 := Nat.le_zero.mp hi
    exact ⟨⟨0, Nat.zero_lt_one, by show va_up fr 0 0 0 = nI 0; exact up_at⟩, 0, Nat.zero_le _, by show va_up tr 0 0 0 = nI 0; exact up_at⟩
  exact l_Pa_seek w v hf rfl hn rfl hm2 1000000 0 ((3, 0, 0, 0, va_up fr 0 0, va_up tr 0 0, bgQ 0 q) : kS) _ _ (by omega) hI rfl
theorem q_Pa_answer0 {sc : Option (Nat × Nat × (Nat → Int32))} {sa : Nat → Nat} {d : Nat} {M : mz_M} {z : Nat × Nat} {pb : Nat} {oc tb lv mx : Int32} {fr tr tk ch co : Nat → Int32} {s l t : Int32} {q : sQ} (w : g_Pa M.2.2 pb)  : zx sc sa (d + 1) 2 [.ref pb, .int 0] (paQ M pb oc tb lv mx fr tr tk ch co s l t q) z z (some (.int oc)) (paQ M pb oc tb lv mx fr tr tk ch co s l t q) := by
  refine zxin ym_Pa_answer [.ref pb, .int 0] rfl rfl rfl rfl ?_
  refine z_iload_n (q := 1) rfl rfl rfl ?_
  refine z_sw rfl ⟨fun h => absurd h (by decide), fun _ _ => ?_⟩
  show zw _ _ _ _ _ _ 32 _ _ _ _
  refine z_aload_n (q := 33) rfl rfl rfl ?_
  refine z_getI (q := 36) rfl rfl rfl (Pa_k w) ?_
  rw [paQ_g6]
  refine z_ireti rfl rfl ?_
  exact ⟨rfl, rfl⟩
theorem q_Pa_answer1 {sc : Option (Nat × Nat × (Nat → Int32))} {sa : Nat → Nat} {d : Nat} {M : mz_M} {z : Nat × Nat} {pb : Nat} {oc tb lv mx : Int32} {fr tr tk ch co : Nat → Int32} {s l t : Int32} {q : sQ} (w : g_Pa M.2.2 pb)  : zx sc sa (d + 1) 2 [.ref pb, .int 1] (paQ M pb oc tb lv mx fr tr tk ch co s l t q) z z (some (.int (nI q.1 - 1))) (paQ M pb oc tb lv mx fr tr tk ch co s l t q) := by
  refine zxin ym_Pa_answer [.ref pb, .int 1] rfl rfl rfl rfl ?_
  refine z_iload_n (q := 1) rfl rfl rfl ?_
  refine z_sw rfl ⟨fun h => absurd h (by decide), fun _ _ => ?_⟩
  show zw _ _ _ _ _ _ 37 _ _ _ _
  refine z_aload_n (q := 38) rfl rfl rfl ?_
  refine z_getR (q := 41) rfl rfl rfl (Pa_k w) (Pa_r0 w) ?_
  refine z_getI (q := 44) rfl rfl rfl (Sh_k (Pa_w0 w)) ?_
  rw [paS_g8]
  refine z_iconst (q := 45) (v := 1) rfl rfl rfl ?_
  refine z_isub (q := 46) rfl rfl ?_
  refine z_ireti rfl rfl ?_
  exact ⟨rfl, rfl⟩
theorem q_Pa_answer2 {sc : Option (Nat × Nat × (Nat → Int32))} {sa : Nat → Nat} {d : Nat} {M : mz_M} {z : Nat × Nat} {pb : Nat} {oc tb lv mx : Int32} {fr tr tk ch co : Nat → Int32} {s l t : Int32} {q : sQ} (w : g_Pa M.2.2 pb)  : zx sc sa (d + 1) 2 [.ref pb, .int 2] (paQ M pb oc tb lv mx fr tr tk ch co s l t q) z z (some (.int q.2.2.2.2.2.2)) (paQ M pb oc tb lv mx fr tr tk ch co s l t q) := by
  refine zxin ym_Pa_answer [.ref pb, .int 2] rfl rfl rfl rfl ?_
  refine z_iload_n (q := 1) rfl rfl rfl ?_
  refine z_sw rfl ⟨fun h => absurd h (by decide), fun _ _ => ?_⟩
  show zw _ _ _ _ _ _ 47 _ _ _ _
  refine z_aload_n (q := 48) rfl rfl rfl ?_
  refine z_getR (q := 51) rfl rfl rfl (Pa_k w) (Pa_r0 w) ?_
  refine z_getI (q := 54) rfl rfl rfl (Sh_k (Pa_w0 w)) ?_
  rw [paS_g9]
  refine z_ireti rfl rfl ?_
  exact ⟨rfl, rfl⟩
theorem q_Pa_answer3 {sc : Option (Nat × Nat × (Nat → Int32))} {sa : Nat → Nat} {d : Nat} {M : mz_M} {z : Nat × Nat} {pb : Nat} {oc tb lv mx : Int32} {fr tr tk ch co : Nat → Int32} {s l t : Int32} {q : sQ} (w : g_Pa M.2.2 pb)  : zx sc sa (d + 1) 2 [.ref pb, .int 3] (paQ M pb oc tb lv mx fr tr tk ch co s l t q) z z (some (.int tb)) (paQ M pb oc tb lv mx fr tr tk ch co s l t q) := by
  refine zxin ym_Pa_answer [.ref pb, .int 3] rfl rfl rfl rfl ?_
  refine z_iload_n (q := 1) rfl rfl rfl ?_
  refine z_sw rfl ⟨fun h => absurd h (by decide), fun _ _ => ?_⟩
  show zw _ _ _ _ _ _ 55 _ _ _ _
  refine z_aload_n (q := 56) rfl rfl rfl ?_
  refine z_getI (q := 59) rfl rfl rfl (Pa_k w) ?_
  rw [paQ_g7]
  refine z_ireti rfl rfl ?_
  exact ⟨rfl, rfl⟩
theorem t_Pa_numberAt {sc : Option (Nat × Nat × (Nat → Int32))} {sa : Nat → Nat} {d : Nat} {M : mz_M} {z : Nat × Nat} {pb : Nat} {oc tb lv mx : Int32} {fr tr tk ch co : Nat → Int32} {s l t : Int32} {q : sQ} (w : g_Pa M.2.2 pb) (hN : q.1 ≤ 200) {g : Nat} {x c : Int32} (hx : x = nI g) (hg : g < q.1) : zx sc sa (d + 2) 24 [.ref (pb + 1), .int x, .int c] (paQ M pb oc tb lv mx fr tr tk ch co s l t q) z z (some (.int (nmI (q.2.1 g) c))) (paQ M pb oc tb lv mx fr tr tk ch co s l t q) := by
  subst hx
  have e := @s_Sh_numberAt sc sa d (paQ M pb oc tb lv mx fr tr tk ch co s l t q) z (pb + 1) 200 (Pa_w0 w) q.1 paS_g8 hN (by omega) g hg c
  rw [show (paQ M pb oc tb lv mx fr tr tk ch co s l t q).2.1 (pb + 1 + 1) = q.2.1 from shP_a0] at e
  exact e
theorem q_Pa_foundAt {sc : Option (Nat × Nat × (Nat → Int32))} {sa : Nat → Nat} {d : Nat} {M : mz_M} {z : Nat × Nat} {pb : Nat} {oc tb lv mx : Int32} {fr tr tk ch co : Nat → Int32} {s l t : Int32} {q : sQ} (w : g_Pa M.2.2 pb) (hN : q.1 ≤ 200) {g : Nat} (hl : oc = 1 → lv = nI g) (hg : oc = 1 → g < q.1) {c : Int32} : zx sc sa (d + 3) 3 [.ref pb, .int c] (paQ M pb oc tb lv mx fr tr tk ch co s l t q) z z (some (.int (if oc = 1 then nmI (q.2.1 g) c else 0))) (paQ M pb oc tb lv mx fr tr tk ch co s l t q) := by
  refine zxin ym_Pa_foundAt [.ref pb, .int c] rfl rfl rfl rfl ?_
  refine z_aload_n (q := 1) rfl rfl rfl ?_
  refine z_getI (q := 4) rfl rfl rfl (Pa_k w) ?_
  rw [paQ_g6]
  refine z_iconst (q := 5) (v := 1) rfl rfl rfl ?_
  refine z_ic_ne (q := 8) rfl rfl (fun h5 => ?_) (fun h5 => ?_)
  · refine z_iconst (q := 24) (v := 0) rfl rfl rfl ?_
    refine z_ireti rfl rfl ?_
    first
      | (have g1 : ¬ oc = 1 := h5
         rw [if_neg g1]
         exact ⟨rfl, rfl⟩)
      | (rw [if_pos h5]
         exact ⟨rfl, rfl⟩)
  · refine z_aload_n (q := 9) rfl rfl rfl ?_
    refine z_getR (q := 12) rfl rfl rfl (Pa_k w) (Pa_r0 w) ?_
    refine z_aload_n (q := 13) rfl rfl rfl ?_
    refine z_getI (q := 16) rfl rfl rfl (Pa_k w) ?_
    rw [paQ_g8]
    refine z_iload_n (q := 17) rfl rfl rfl ?_
    refine z_cv2i (q := 20) rfl rfl rfl (Sh_k (Pa_w0 w)) (t_Pa_numberAt w hN (hl h5) (hg h5)) ?_
    refine z_goto rfl ?_
    refine z_ireti rfl rfl ?_
    first
      | (have g1 : ¬ oc = 1 := h5
         rw [if_neg g1]
         exact ⟨rfl, rfl⟩)
      | (rw [if_pos h5]
         exact ⟨rfl, rfl⟩)
