theorem t_X_mayP {sc : Option (Nat × Nat × (Nat → Int32))} {sa : Nat → Nat} {d : Nat} {M : mz_M} {z : Nat × Nat} {x p r : Nat} {oc tb lv mx : Int32} {fr tr tk ch co : Nat → Int32} {s l t : Int32} {q : sQ} (w : g_X M.2.2 x p r) (hx : x + 22 ≤ p) {c : Nat} (hc : M.1 (p + 1) 5 = nI c) (hC : c ≤ 12) {a b : Int32} (h : 0 < c ∧ ¬ a < 0 ∧ ¬ 2 < a ∧ ¬ b < 1 ∧ ¬ 4 < b) : zx sc sa (d + 2) 155 [.ref x, .int a, .int b] (paQ M (x + 10) oc tb lv mx fr tr tk ch co s l t q) z z (some (.int 1)) (paQ M (x + 10) oc tb lv mx fr tr tk ch co s l t q) := by
  have e := @s_X_mayColour sc sa d (paQ M (x + 10) oc tb lv mx fr tr tk ch co s l t q) z x p r w c (by rw [paQ_o (by omega)]; exact hc) hC a b
  rw [bz_t h] at e
  exact e
theorem q_X_searchBy {sc : Option (Nat × Nat × (Nat → Int32))} {sa : Nat → Nat} {d : Nat} {M : mz_M} {z : Nat × Nat} {x p r : Nat} {oc tb lv mx : Int32} {fr tr tk ch co : Nat → Int32} {s l t : Int32} {q : sQ} (w : g_X M.2.2 x p r) (hx : x + 22 ≤ p) {c : Nat} (hc : M.1 (p + 1) 5 = nI c) (hC : c ≤ 12) {a : Int32} {m : Nat} (h : 0 < c ∧ ¬ a < 0 ∧ ¬ 2 < a ∧ ¬ nI m < 1 ∧ ¬ 4 < nI m) (hm : m ≤ 4)  : zx sc sa (d + 7) 157 [.ref x, .int a, .int (nI m)] (paQ M (x + 10) oc tb lv mx fr tr tk ch co s l t q) z z (some (.int (kG (nI c) a (M.1 (p + 1) 7) c m (M.1 (p + 7)) 1000000 ((3, 0, 0, 0, va_up fr 0 0, va_up tr 0 0, bgQ 0 q) : kS)).2.2.2.2.2.2.2.2.2.2.2.2)) (paQ M (x + 10) (kG (nI c) a (M.1 (p + 1) 7) c m (M.1 (p + 7)) 1000000 ((3, 0, 0, 0, va_up fr 0 0, va_up tr 0 0, bgQ 0 q) : kS)).1 (kG (nI c) a (M.1 (p + 1) 7) c m (M.1 (p + 7)) 1000000 ((3, 0, 0, 0, va_up fr 0 0, va_up tr 0 0, bgQ 0 q) : kS)).2.1 (kG (nI c) a (M.1 (p + 1) 7) c m (M.1 (p + 7)) 1000000 ((3, 0, 0, 0, va_up fr 0 0, va_up tr 0 0, bgQ 0 q) : kS)).2.2.1 (nI m) (kG (nI c) a (M.1 (p + 1) 7) c m (M.1 (p + 7)) 1000000 ((3, 0, 0, 0, va_up fr 0 0, va_up tr 0 0, bgQ 0 q) : kS)).2.2.2.2.1 (kG (nI c) a (M.1 (p + 1) 7) c m (M.1 (p + 7)) 1000000 ((3, 0, 0, 0, va_up fr 0 0, va_up tr 0 0, bgQ 0 q) : kS)).2.2.2.2.2.1 tk ch co (nI c) a (M.1 (p + 1) 7) (kG (nI c) a (M.1 (p + 1) 7) c m (M.1 (p + 7)) 1000000 ((3, 0, 0, 0, va_up fr 0 0, va_up tr 0 0, bgQ 0 q) : kS)).2.2.2.2.2.2) := by
  refine zxin ym_X_searchBy [.ref x, .int a, .int (nI m)] rfl rfl rfl rfl ?_
  refine z_aload_n (q := 1) rfl rfl rfl ?_
  refine z_iload_n (q := 2) rfl rfl rfl ?_
  refine z_iload_n (q := 3) rfl rfl rfl ?_
  refine z_cv2i (q := 6) rfl rfl rfl (X_k w) (t_X_mayP w hx hc hC h) ?_
  refine z_if_ne (q := 9) rfl rfl (fun h6 => ?_) (fun h6 => ?_)
  · refine z_aload_n (q := 13) rfl rfl rfl ?_
    refine z_getR (q := 16) rfl rfl rfl (X_k w) (X_r3 w) ?_
    refine z_aload_n (q := 17) rfl rfl rfl ?_
    refine z_getR (q := 20) rfl rfl rfl (X_k w) (X_r4 w) ?_
    refine z_iload_n (q := 21) rfl rfl rfl ?_
    refine z_iload_n (q := 22) rfl rfl rfl ?_
    refine z_cv3v (q := 25) rfl rfl rfl (Pa_k (X_w3 w)) (q_Pa_seek (X_w3 w) (X_w4 w) (by omega) hc hC h.1 (by omega)) ?_
    refine z_aload_n (q := 26) rfl rfl rfl ?_
    refine z_getR (q := 29) rfl rfl rfl (X_k w) (X_r3 w) ?_
    refine z_iconst (q := 30) (v := 2) rfl rfl rfl ?_
    refine z_cv1i (q := 33) rfl rfl rfl (Pa_k (X_w3 w)) (q_Pa_answer2 (X_w3 w)) ?_
    refine z_ireti rfl rfl ?_
    exact ⟨rfl, rfl⟩
  · exact absurd h6 (by decide)
theorem n_X_searchBy {sc : Option (Nat × Nat × (Nat → Int32))} {sa : Nat → Nat} {d : Nat} {M : mz_M} {z : Nat × Nat} {x p q : Nat} (w : g_X M.2.2 x p q) {c : Nat} (hc : M.1 (p + 1) 5 = nI c) (hC : c ≤ 12) {a b : Int32} (hno : ¬ (0 < c ∧ ¬ a < 0 ∧ ¬ 2 < a ∧ ¬ b < 1 ∧ ¬ 4 < b)) : zx sc sa (d + 7) 157 [.ref x, .int a, .int b] M z z (some (.int (-2))) M := by
  refine zxin ym_X_searchBy [.ref x, .int a, .int b] rfl rfl rfl rfl ?_
  refine z_aload_n (q := 1) rfl rfl rfl ?_
  refine z_iload_n (q := 2) rfl rfl rfl ?_
  refine z_iload_n (q := 3) rfl rfl rfl ?_
  refine z_cv2i (q := 6) rfl rfl rfl (X_k w) (s_X_mayColour w hc hC) ?_
  refine z_if_ne (q := 9) rfl rfl (fun h6 => ?_) (fun h6 => ?_)
  · exact absurd (bz_n.mp h6) hno
  · refine z_bipush (q := 11) (v := -2) rfl rfl rfl ?_
    refine z_ireti rfl rfl ?_
    exact ⟨rfl, rfl⟩
theorem q_X_forwardBy {sc : Option (Nat × Nat × (Nat → Int32))} {sa : Nat → Nat} {d : Nat} {M : mz_M} {z : Nat × Nat} {x p r : Nat} {oc tb lv mx : Int32} {fr tr tk ch co : Nat → Int32} {s l t : Int32} {q : sQ} (w : g_X M.2.2 x p r) (hx : x + 22 ≤ p) {c : Nat} (hc : M.1 (p + 1) 5 = nI c) (hC : c ≤ 12) {a b : Int32} (h : 0 < c ∧ ¬ a < 0 ∧ ¬ 2 < a ∧ ¬ b < 1 ∧ ¬ 4 < b) (htk : ∀ i, ∃ c, c < 12 ∧ tk i = nI c)  : zx sc sa (d + 8) 161 [.ref x, .int a, .int b] (paQ M (x + 10) oc tb lv mx fr tr tk ch co s l t q) z z (some (.int (yG (nI c) a (M.1 (p + 1) 7) c (M.1 (p + 7)) 1000000 (yT (nI c) a (M.1 (p + 1) 7) c (nI 0) 0 0 (3, 0, 0, 0, fr, tk, ch, va_up co 0 0, bgQ (fuR (1 <<< (b &&& 31) - 1) c 0 0) q))).2.2.2.2.2.2.2.2.2.2.2.2.2.2)) (paQ M (x + 10) (yG (nI c) a (M.1 (p + 1) 7) c (M.1 (p + 7)) 1000000 (yT (nI c) a (M.1 (p + 1) 7) c (nI 0) 0 0 (3, 0, 0, 0, fr, tk, ch, va_up co 0 0, bgQ (fuR (1 <<< (b &&& 31) - 1) c 0 0) q))).1 (yG (nI c) a (M.1 (p + 1) 7) c (M.1 (p + 7)) 1000000 (yT (nI c) a (M.1 (p + 1) 7) c (nI 0) 0 0 (3, 0, 0, 0, fr, tk, ch, va_up co 0 0, bgQ (fuR (1 <<< (b &&& 31) - 1) c 0 0) q))).2.1 (yG (nI c) a (M.1 (p + 1) 7) c (M.1 (p + 7)) 1000000 (yT (nI c) a (M.1 (p + 1) 7) c (nI 0) 0 0 (3, 0, 0, 0, fr, tk, ch, va_up co 0 0, bgQ (fuR (1 <<< (b &&& 31) - 1) c 0 0) q))).2.2.1 b (yG (nI c) a (M.1 (p + 1) 7) c (M.1 (p + 7)) 1000000 (yT (nI c) a (M.1 (p + 1) 7) c (nI 0) 0 0 (3, 0, 0, 0, fr, tk, ch, va_up co 0 0, bgQ (fuR (1 <<< (b &&& 31) - 1) c 0 0) q))).2.2.2.2.1 tr (yG (nI c) a (M.1 (p + 1) 7) c (M.1 (p + 7)) 1000000 (yT (nI c) a (M.1 (p + 1) 7) c (nI 0) 0 0 (3, 0, 0, 0, fr, tk, ch, va_up co 0 0, bgQ (fuR (1 <<< (b &&& 31) - 1) c 0 0) q))).2.2.2.2.2.1 (yG (nI c) a (M.1 (p + 1) 7) c (M.1 (p + 7)) 1000000 (yT (nI c) a (M.1 (p + 1) 7) c (nI 0) 0 0 (3, 0, 0, 0, fr, tk, ch, va_up co 0 0, bgQ (fuR (1 <<< (b &&& 31) - 1) c 0 0) q))).2.2.2.2.2.2.1 (yG (nI c) a (M.1 (p + 1) 7) c (M.1 (p + 7)) 1000000 (yT (nI c) a (M.1 (p + 1) 7) c (nI 0) 0 0 (3, 0, 0, 0, fr, tk, ch, va_up co 0 0, bgQ (fuR (1 <<< (b &&& 31) - 1) c 0 0) q))).2.2.2.2.2.2.2.1 (nI c) a (M.1 (p + 1) 7) (yG (nI c) a (M.1 (p + 1) 7) c (M.1 (p + 7)) 1000000 (yT (nI c) a (M.1 (p + 1) 7) c (nI 0) 0 0 (3, 0, 0, 0, fr, tk, ch, va_up co 0 0, bgQ (fuR (1 <<< (b &&& 31) - 1) c 0 0) q))).2.2.2.2.2.2.2.2) := by
  refine zxin ym_X_forwardBy [.ref x, .int a, .int b] rfl rfl rfl rfl ?_
  refine z_aload_n (q := 1) rfl rfl rfl ?_
  refine z_iload_n (q := 2) rfl rfl rfl ?_
  refine z_iload_n (q := 3) rfl rfl rfl ?_
  refine z_cv2i (q := 6) rfl rfl rfl (X_k w) (t_X_mayP w hx hc hC h) ?_
  refine z_if_ne (q := 9) rfl rfl (fun h6 => ?_) (fun h6 => ?_)
  · refine z_aload_n (q := 13) rfl rfl rfl ?_
    refine z_getR (q := 16) rfl rfl rfl (X_k w) (X_r3 w) ?_
    refine z_aload_n (q := 17) rfl rfl rfl ?_
    refine z_getR (q := 20) rfl rfl rfl (X_k w) (X_r4 w) ?_
    refine z_iload_n (q := 21) rfl rfl rfl ?_
    refine z_iload_n (q := 22) rfl rfl rfl ?_
    refine z_cv3v (q := 25) rfl rfl rfl (Pa_k (X_w3 w)) (q_Pa_seekAhead (X_w3 w) (X_w4 w) (by omega) hc hC h.1 htk) ?_
    refine z_aload_n (q := 26) rfl rfl rfl ?_
    refine z_getR (q := 29) rfl rfl rfl (X_k w) (X_r3 w) ?_
    refine z_iconst (q := 30) (v := 2) rfl rfl rfl ?_
    refine z_cv1i (q := 33) rfl rfl rfl (Pa_k (X_w3 w)) (q_Pa_answer2 (X_w3 w)) ?_
    refine z_ireti rfl rfl ?_
    exact ⟨rfl, rfl⟩
  · exact absurd h6 (by decide)
theorem n_X_forwardBy {sc : Option (Nat × Nat × (Nat → Int32))} {sa : Nat → Nat} {d : Nat} {M : mz_M} {z : Nat × Nat} {x p q : Nat} (w : g_X M.2.2 x p q) {c : Nat} (hc : M.1 (p + 1) 5 = nI c) (hC : c ≤ 12) {a b : Int32} (hno : ¬ (0 < c ∧ ¬ a < 0 ∧ ¬ 2 < a ∧ ¬ b < 1 ∧ ¬ 4 < b)) : zx sc sa (d + 7) 161 [.ref x, .int a, .int b] M z z (some (.int (-2))) M := by
  refine zxin ym_X_forwardBy [.ref x, .int a, .int b] rfl rfl rfl rfl ?_
  refine z_aload_n (q := 1) rfl rfl rfl ?_
  refine z_iload_n (q := 2) rfl rfl rfl ?_
  refine z_iload_n (q := 3) rfl rfl rfl ?_
  refine z_cv2i (q := 6) rfl rfl rfl (X_k w) (s_X_mayColour w hc hC) ?_
  refine z_if_ne (q := 9) rfl rfl (fun h6 => ?_) (fun h6 => ?_)
  · exact absurd (bz_n.mp h6) hno
  · refine z_bipush (q := 11) (v := -2) rfl rfl rfl ?_
    refine z_ireti rfl rfl ?_
    exact ⟨rfl, rfl⟩
theorem q_X_search0 {sc : Option (Nat × Nat × (Nat → Int32))} {sa : Nat → Nat} {d : Nat} {M : mz_M} {z : Nat × Nat} {x p r : Nat} {oc tb lv mx : Int32} {fr tr tk ch co : Nat → Int32} {s l t : Int32} {q : sQ} (w : g_X M.2.2 x p r) (hx : x + 22 ≤ p) {c : Nat} (hc : M.1 (p + 1) 5 = nI c) (hC : c ≤ 12) {m : Nat} (h : 0 < c ∧ ¬ (M.1 (p + 1) 6) < 0 ∧ ¬ 2 < (M.1 (p + 1) 6) ∧ ¬ nI m < 1 ∧ ¬ 4 < nI m) (hm : m ≤ 4)  : zx sc sa (d + 7) 156 [.ref x, .int (nI m), .int 0] (paQ M (x + 10) oc tb lv mx fr tr tk ch co s l t q) z z (some (.int (kG (nI c) (M.1 (p + 1) 6) (M.1 (p + 1) 7) c m (M.1 (p + 7)) 1000000 ((3, 0, 0, 0, va_up fr 0 0, va_up tr 0 0, bgQ 0 q) : kS)).1)) (paQ M (x + 10) (kG (nI c) (M.1 (p + 1) 6) (M.1 (p + 1) 7) c m (M.1 (p + 7)) 1000000 ((3, 0, 0, 0, va_up fr 0 0, va_up tr 0 0, bgQ 0 q) : kS)).1 (kG (nI c) (M.1 (p + 1) 6) (M.1 (p + 1) 7) c m (M.1 (p + 7)) 1000000 ((3, 0, 0, 0, va_up fr 0 0, va_up tr 0 0, bgQ 0 q) : kS)).2.1 (kG (nI c) (M.1 (p + 1) 6) (M.1 (p + 1) 7) c m (M.1 (p + 7)) 1000000 ((3, 0, 0, 0, va_up fr 0 0, va_up tr 0 0, bgQ 0 q) : kS)).2.2.1 (nI m) (kG (nI c) (M.1 (p + 1) 6) (M.1 (p + 1) 7) c m (M.1 (p + 7)) 1000000 ((3, 0, 0, 0, va_up fr 0 0, va_up tr 0 0, bgQ 0 q) : kS)).2.2.2.2.1 (kG (nI c) (M.1 (p + 1) 6) (M.1 (p + 1) 7) c m (M.1 (p + 7)) 1000000 ((3, 0, 0, 0, va_up fr 0 0, va_up tr 0 0, bgQ 0 q) : kS)).2.2.2.2.2.1 tk ch co (nI c) (M.1 (p + 1) 6) (M.1 (p + 1) 7) (kG (nI c) (M.1 (p + 1) 6) (M.1 (p + 1) 7) c m (M.1 (p + 7)) 1000000 ((3, 0, 0, 0, va_up fr 0 0, va_up tr 0 0, bgQ 0 q) : kS)).2.2.2.2.2.2) := by
  have oH_g6 : ∀ {oc tb lv mx : Int32} {fr tr tk ch co : Nat → Int32} {s l t : Int32} {q : sQ}, (paQ M (x + 10) oc tb lv mx fr tr tk ch co s l t q).1 (p + 1) 6 = M.1 (p + 1) 6 := fun {oc tb lv mx fr tr tk ch co s l t q} => congrFun (paQ_o (by omega)) 6
  refine zxin ym_X_search [.ref x, .int (nI m), .int 0] rfl rfl rfl rfl ?_
  refine z_aload_n (q := 1) rfl rfl rfl ?_
  refine z_aload_n (q := 2) rfl rfl rfl ?_
  refine z_getR (q := 5) rfl rfl rfl (X_k w) (X_r4 w) ?_
  refine z_getR (q := 8) rfl rfl rfl (St_k (X_w4 w)) (St_r0 (X_w4 w)) ?_
  refine z_getI (q := 11) rfl rfl rfl (Sh_k (St_w0 (X_w4 w))) ?_
  rw [oH_g6]
  refine z_iload_n (q := 12) rfl rfl rfl ?_
  refine z_cv2i (q := 15) rfl rfl rfl (X_k w) (t_X_mayP w hx hc hC h) ?_
  refine z_if_eq (q := 18) rfl rfl (fun h15 => ?_) (fun h15 => ?_)
  · exact absurd h15 (by decide)
  · refine z_iload_n (q := 19) rfl rfl rfl ?_
    refine z_if_lt (q := 22) rfl rfl (fun h19 => ?_) (fun h19 => ?_)
    · exact absurd h19 (by decide)
    · refine z_iload_n (q := 23) rfl rfl rfl ?_
      refine z_iconst (q := 24) (v := 3) rfl rfl rfl ?_
      refine z_ic_le (q := 27) rfl rfl (fun h24 => ?_) (fun h24 => ?_)
      · refine z_aload_n (q := 31) rfl rfl rfl ?_
        refine z_getR (q := 34) rfl rfl rfl (X_k w) (X_r3 w) ?_
        refine z_aload_n (q := 35) rfl rfl rfl ?_
        refine z_getR (q := 38) rfl rfl rfl (X_k w) (X_r4 w) ?_
        refine z_aload_n (q := 39) rfl rfl rfl ?_
        refine z_getR (q := 42) rfl rfl rfl (X_k w) (X_r4 w) ?_
        refine z_getR (q := 45) rfl rfl rfl (St_k (X_w4 w)) (St_r0 (X_w4 w)) ?_
        refine z_getI (q := 48) rfl rfl rfl (Sh_k (St_w0 (X_w4 w))) ?_
        rw [oH_g6]
        refine z_iload_n (q := 49) rfl rfl rfl ?_
        refine z_cv3v (q := 52) rfl rfl rfl (Pa_k (X_w3 w)) (q_Pa_seek (X_w3 w) (X_w4 w) (by omega) hc hC h.1 (by omega)) ?_
        refine z_aload_n (q := 53) rfl rfl rfl ?_
        refine z_getR (q := 56) rfl rfl rfl (X_k w) (X_r3 w) ?_
        refine z_iload_n (q := 57) rfl rfl rfl ?_
        refine z_cv1i (q := 60) rfl rfl rfl (Pa_k (X_w3 w)) (q_Pa_answer0 (X_w3 w)) ?_
        refine z_ireti rfl rfl ?_
        exact ⟨rfl, rfl⟩
      · exact absurd h24 (by decide)
theorem q_X_forward0 {sc : Option (Nat × Nat × (Nat → Int32))} {sa : Nat → Nat} {d : Nat} {M : mz_M} {z : Nat × Nat} {x p r : Nat} {oc tb lv mx : Int32} {fr tr tk ch co : Nat → Int32} {s l t : Int32} {q : sQ} (w : g_X M.2.2 x p r) (hx : x + 22 ≤ p) {c : Nat} (hc : M.1 (p + 1) 5 = nI c) (hC : c ≤ 12) {b : Int32} (h : 0 < c ∧ ¬ (M.1 (p + 1) 6) < 0 ∧ ¬ 2 < (M.1 (p + 1) 6) ∧ ¬ b < 1 ∧ ¬ 4 < b) (htk : ∀ i, ∃ c, c < 12 ∧ tk i = nI c)  : zx sc sa (d + 8) 160 [.ref x, .int b, .int 0] (paQ M (x + 10) oc tb lv mx fr tr tk ch co s l t q) z z (some (.int (yG (nI c) (M.1 (p + 1) 6) (M.1 (p + 1) 7) c (M.1 (p + 7)) 1000000 (yT (nI c) (M.1 (p + 1) 6) (M.1 (p + 1) 7) c (nI 0) 0 0 (3, 0, 0, 0, fr, tk, ch, va_up co 0 0, bgQ (fuR (1 <<< (b &&& 31) - 1) c 0 0) q))).1)) (paQ M (x + 10) (yG (nI c) (M.1 (p + 1) 6) (M.1 (p + 1) 7) c (M.1 (p + 7)) 1000000 (yT (nI c) (M.1 (p + 1) 6) (M.1 (p + 1) 7) c (nI 0) 0 0 (3, 0, 0, 0, fr, tk, ch, va_up co 0 0, bgQ (fuR (1 <<< (b &&& 31) - 1) c 0 0) q))).1 (yG (nI c) (M.1 (p + 1) 6) (M.1 (p + 1) 7) c (M.1 (p + 7)) 1000000 (yT (nI c) (M.1 (p + 1) 6) (M.1 (p + 1) 7) c (nI 0) 0 0 (3, 0, 0, 0, fr, tk, ch, va_up co 0 0, bgQ (fuR (1 <<< (b &&& 31) - 1) c 0 0) q))).2.1 (yG (nI c) (M.1 (p + 1) 6) (M.1 (p + 1) 7) c (M.1 (p + 7)) 1000000 (yT (nI c) (M.1 (p + 1) 6) (M.1 (p + 1) 7) c (nI 0) 0 0 (3, 0, 0, 0, fr, tk, ch, va_up co 0 0, bgQ (fuR (1 <<< (b &&& 31) - 1) c 0 0) q))).2.2.1 b (yG (nI c) (M.1 (p + 1) 6) (M.1 (p + 1) 7) c (M.1 (p + 7)) 1000000 (yT (nI c) (M.1 (p + 1) 6) (M.1 (p + 1) 7) c (nI 0) 0 0 (3, 0, 0, 0, fr, tk, ch, va_up co 0 0, bgQ (fuR (1 <<< (b &&& 31) - 1) c 0 0) q))).2.2.2.2.1 tr (yG (nI c) (M.1 (p + 1) 6) (M.1 (p + 1) 7) c (M.1 (p + 7)) 1000000 (yT (nI c) (M.1 (p + 1) 6) (M.1 (p + 1) 7) c (nI 0) 0 0 (3, 0, 0, 0, fr, tk, ch, va_up co 0 0, bgQ (fuR (1 <<< (b &&& 31) - 1) c 0 0) q))).2.2.2.2.2.1 (yG (nI c) (M.1 (p + 1) 6) (M.1 (p + 1) 7) c (M.1 (p + 7)) 1000000 (yT (nI c) (M.1 (p + 1) 6) (M.1 (p + 1) 7) c (nI 0) 0 0 (3, 0, 0, 0, fr, tk, ch, va_up co 0 0, bgQ (fuR (1 <<< (b &&& 31) - 1) c 0 0) q))).2.2.2.2.2.2.1 (yG (nI c) (M.1 (p + 1) 6) (M.1 (p + 1) 7) c (M.1 (p + 7)) 1000000 (yT (nI c) (M.1 (p + 1) 6) (M.1 (p + 1) 7) c (nI 0) 0 0 (3, 0, 0, 0, fr, tk, ch, va_up co 0 0, bgQ (fuR (1 <<< (b &&& 31) - 1) c 0 0) q))).2.2.2.2.2.2.2.1 (nI c) (M.1 (p + 1) 6) (M.1 (p + 1) 7) (yG (nI c) (M.1 (p + 1) 6) (M.1 (p + 1) 7) c (M.1 (p + 7)) 1000000 (yT (nI c) (M.1 (p + 1) 6) (M.1 (p + 1) 7) c (nI 0) 0 0 (3, 0, 0, 0, fr, tk, ch, va_up co 0 0, bgQ (fuR (1 <<< (b &&& 31) - 1) c 0 0) q))).2.2.2.2.2.2.2.2) := by
  have oH_g6 : ∀ {oc tb lv mx : Int32} {fr tr tk ch co : Nat → Int32} {s l t : Int32} {q : sQ}, (paQ M (x + 10) oc tb lv mx fr tr tk ch co s l t q).1 (p + 1) 6 = M.1 (p + 1) 6 := fun {oc tb lv mx fr tr tk ch co s l t q} => congrFun (paQ_o (by omega)) 6
  refine zxin ym_X_forward [.ref x, .int b, .int 0] rfl rfl rfl rfl ?_
  refine z_aload_n (q := 1) rfl rfl rfl ?_
  refine z_aload_n (q := 2) rfl rfl rfl ?_
  refine z_getR (q := 5) rfl rfl rfl (X_k w) (X_r4 w) ?_
  refine z_getR (q := 8) rfl rfl rfl (St_k (X_w4 w)) (St_r0 (X_w4 w)) ?_
  refine z_getI (q := 11) rfl rfl rfl (Sh_k (St_w0 (X_w4 w))) ?_
  rw [oH_g6]
  refine z_iload_n (q := 12) rfl rfl rfl ?_
  refine z_cv2i (q := 15) rfl rfl rfl (X_k w) (t_X_mayP w hx hc hC h) ?_
  refine z_if_eq (q := 18) rfl rfl (fun h15 => ?_) (fun h15 => ?_)
  · exact absurd h15 (by decide)
  · refine z_iload_n (q := 19) rfl rfl rfl ?_
    refine z_if_lt (q := 22) rfl rfl (fun h19 => ?_) (fun h19 => ?_)
    · exact absurd h19 (by decide)
    · refine z_iload_n (q := 23) rfl rfl rfl ?_
      refine z_iconst (q := 24) (v := 3) rfl rfl rfl ?_
      refine z_ic_le (q := 27) rfl rfl (fun h24 => ?_) (fun h24 => ?_)
      · refine z_aload_n (q := 31) rfl rfl rfl ?_
        refine z_getR (q := 34) rfl rfl rfl (X_k w) (X_r3 w) ?_
        refine z_aload_n (q := 35) rfl rfl rfl ?_
        refine z_getR (q := 38) rfl rfl rfl (X_k w) (X_r4 w) ?_
        refine z_aload_n (q := 39) rfl rfl rfl ?_
        refine z_getR (q := 42) rfl rfl rfl (X_k w) (X_r4 w) ?_
        refine z_getR (q := 45) rfl rfl rfl (St_k (X_w4 w)) (St_r0 (X_w4 w)) ?_
        refine z_getI (q := 48) rfl rfl rfl (Sh_k (St_w0 (X_w4 w))) ?_
        rw [oH_g6]
        refine z_iload_n (q := 49) rfl rfl rfl ?_
        refine z_cv3v (q := 52) rfl rfl rfl (Pa_k (X_w3 w)) (q_Pa_seekAhead (X_w3 w) (X_w4 w) (by omega) hc hC h.1 htk) ?_
        refine z_aload_n (q := 53) rfl rfl rfl ?_
        refine z_getR (q := 56) rfl rfl rfl (X_k w) (X_r3 w) ?_
        refine z_iload_n (q := 57) rfl rfl rfl ?_
        refine z_cv1i (q := 60) rfl rfl rfl (Pa_k (X_w3 w)) (q_Pa_answer0 (X_w3 w)) ?_
        refine z_ireti rfl rfl ?_
        exact ⟨rfl, rfl⟩
      · exact absurd h24 (by decide)
theorem q_X_search1 {sc : Option (Nat × Nat × (Nat → Int32))} {sa : Nat → Nat} {d : Nat} {M : mz_M} {z : Nat × Nat} {x p r : Nat} {oc tb lv mx : Int32} {fr tr tk ch co : Nat → Int32} {s l t : Int32} {q : sQ} (w : g_X M.2.2 x p r) (hx : x + 22 ≤ p) {c : Nat} (hc : M.1 (p + 1) 5 = nI c) (hC : c ≤ 12) {m : Nat} (h : 0 < c ∧ ¬ (M.1 (p + 1) 6) < 0 ∧ ¬ 2 < (M.1 (p + 1) 6) ∧ ¬ nI m < 1 ∧ ¬ 4 < nI m) (hm : m ≤ 4)  : zx sc sa (d + 7) 156 [.ref x, .int (nI m), .int 1] (paQ M (x + 10) oc tb lv mx fr tr tk ch co s l t q) z z (some (.int (nI (kG (nI c) (M.1 (p + 1) 6) (M.1 (p + 1) 7) c m (M.1 (p + 7)) 1000000 ((3, 0, 0, 0, va_up fr 0 0, va_up tr 0 0, bgQ 0 q) : kS)).2.2.2.2.2.2.1 - 1))) (paQ M (x + 10) (kG (nI c) (M.1 (p + 1) 6) (M.1 (p + 1) 7) c m (M.1 (p + 7)) 1000000 ((3, 0, 0, 0, va_up fr 0 0, va_up tr 0 0, bgQ 0 q) : kS)).1 (kG (nI c) (M.1 (p + 1) 6) (M.1 (p + 1) 7) c m (M.1 (p + 7)) 1000000 ((3, 0, 0, 0, va_up fr 0 0, va_up tr 0 0, bgQ 0 q) : kS)).2.1 (kG (nI c) (M.1 (p + 1) 6) (M.1 (p + 1) 7) c m (M.1 (p + 7)) 1000000 ((3, 0, 0, 0, va_up fr 0 0, va_up tr 0 0, bgQ 0 q) : kS)).2.2.1 (nI m) (kG (nI c) (M.1 (p + 1) 6) (M.1 (p + 1) 7) c m (M.1 (p + 7)) 1000000 ((3, 0, 0, 0, va_up fr 0 0, va_up tr 0 0, bgQ 0 q) : kS)).2.2.2.2.1 (kG (nI c) (M.1 (p + 1) 6) (M.1 (p + 1) 7) c m (M.1 (p + 7)) 1000000 ((3, 0, 0, 0, va_up fr 0 0, va_up tr 0 0, bgQ 0 q) : kS)).2.2.2.2.2.1 tk ch co (nI c) (M.1 (p + 1) 6) (M.1 (p + 1) 7) (kG (nI c) (M.1 (p + 1) 6) (M.1 (p + 1) 7) c m (M.1 (p + 7)) 1000000 ((3, 0, 0, 0, va_up fr 0 0, va_up tr 0 0, bgQ 0 q) : kS)).2.2.2.2.2.2) := by
  have oH_g6 : ∀ {oc tb lv mx : Int32} {fr tr tk ch co : Nat → Int32} {s l t : Int32} {q : sQ}, (paQ M (x + 10) oc tb lv mx fr tr tk ch co s l t q).1 (p + 1) 6 = M.1 (p + 1) 6 := fun {oc tb lv mx fr tr tk ch co s l t q} => congrFun (paQ_o (by omega)) 6
  refine zxin ym_X_search [.ref x, .int (nI m), .int 1] rfl rfl rfl rfl ?_
  refine z_aload_n (q := 1) rfl rfl rfl ?_
  refine z_aload_n (q := 2) rfl rfl rfl ?_
  refine z_getR (q := 5) rfl rfl rfl (X_k w) (X_r4 w) ?_
  refine z_getR (q := 8) rfl rfl rfl (St_k (X_w4 w)) (St_r0 (X_w4 w)) ?_
  refine z_getI (q := 11) rfl rfl rfl (Sh_k (St_w0 (X_w4 w))) ?_
  rw [oH_g6]
  refine z_iload_n (q := 12) rfl rfl rfl ?_
  refine z_cv2i (q := 15) rfl rfl rfl (X_k w) (t_X_mayP w hx hc hC h) ?_
  refine z_if_eq (q := 18) rfl rfl (fun h15 => ?_) (fun h15 => ?_)
  · exact absurd h15 (by decide)
  · refine z_iload_n (q := 19) rfl rfl rfl ?_
    refine z_if_lt (q := 22) rfl rfl (fun h19 => ?_) (fun h19 => ?_)
    · exact absurd h19 (by decide)
    · refine z_iload_n (q := 23) rfl rfl rfl ?_
      refine z_iconst (q := 24) (v := 3) rfl rfl rfl ?_
      refine z_ic_le (q := 27) rfl rfl (fun h24 => ?_) (fun h24 => ?_)
      · refine z_aload_n (q := 31) rfl rfl rfl ?_
        refine z_getR (q := 34) rfl rfl rfl (X_k w) (X_r3 w) ?_
        refine z_aload_n (q := 35) rfl rfl rfl ?_
        refine z_getR (q := 38) rfl rfl rfl (X_k w) (X_r4 w) ?_
        refine z_aload_n (q := 39) rfl rfl rfl ?_
        refine z_getR (q := 42) rfl rfl rfl (X_k w) (X_r4 w) ?_
        refine z_getR (q := 45) rfl rfl rfl (St_k (X_w4 w)) (St_r0 (X_w4 w)) ?_
        refine z_getI (q := 48) rfl rfl rfl (Sh_k (St_w0 (X_w4 w))) ?_
        rw [oH_g6]
        refine z_iload_n (q := 49) rfl rfl rfl ?_
        refine z_cv3v (q := 52) rfl rfl rfl (Pa_k (X_w3 w)) (q_Pa_seek (X_w3 w) (X_w4 w) (by omega) hc hC h.1 (by omega)) ?_
        refine z_aload_n (q := 53) rfl rfl rfl ?_
        refine z_getR (q := 56) rfl rfl rfl (X_k w) (X_r3 w) ?_
        refine z_iload_n (q := 57) rfl rfl rfl ?_
        refine z_cv1i (q := 60) rfl rfl rfl (Pa_k (X_w3 w)) (q_Pa_answer1 (X_w3 w)) ?_
        refine z_ireti rfl rfl ?_
        exact ⟨rfl, rfl⟩
      · exact absurd h24 (by decide)
theorem q_X_forward1 {sc : Option (Nat × Nat × (Nat → Int32))} {sa : Nat → Nat} {d : Nat} {M : mz_M} {z : Nat × Nat} {x p r : Nat} {oc tb lv mx : Int32} {fr tr tk ch co : Nat → Int32} {s l t : Int32} {q : sQ} (w : g_X M.2.2 x p r) (hx : x + 22 ≤ p) {c : Nat} (hc : M.1 (p + 1) 5 = nI c) (hC : c ≤ 12) {b : Int32} (h : 0 < c ∧ ¬ (M.1 (p + 1) 6) < 0 ∧ ¬ 2 < (M.1 (p + 1) 6) ∧ ¬ b < 1 ∧ ¬ 4 < b) (htk : ∀ i, ∃ c, c < 12 ∧ tk i = nI c)  : zx sc sa (d + 8) 160 [.ref x, .int b, .int 1] (paQ M (x + 10) oc tb lv mx fr tr tk ch co s l t q) z z (some (.int (nI (yG (nI c) (M.1 (p + 1) 6) (M.1 (p + 1) 7) c (M.1 (p + 7)) 1000000 (yT (nI c) (M.1 (p + 1) 6) (M.1 (p + 1) 7) c (nI 0) 0 0 (3, 0, 0, 0, fr, tk, ch, va_up co 0 0, bgQ (fuR (1 <<< (b &&& 31) - 1) c 0 0) q))).2.2.2.2.2.2.2.2.1 - 1))) (paQ M (x + 10) (yG (nI c) (M.1 (p + 1) 6) (M.1 (p + 1) 7) c (M.1 (p + 7)) 1000000 (yT (nI c) (M.1 (p + 1) 6) (M.1 (p + 1) 7) c (nI 0) 0 0 (3, 0, 0, 0, fr, tk, ch, va_up co 0 0, bgQ (fuR (1 <<< (b &&& 31) - 1) c 0 0) q))).1 (yG (nI c) (M.1 (p + 1) 6) (M.1 (p + 1) 7) c (M.1 (p + 7)) 1000000 (yT (nI c) (M.1 (p + 1) 6) (M.1 (p + 1) 7) c (nI 0) 0 0 (3, 0, 0, 0, fr, tk, ch, va_up co 0 0, bgQ (fuR (1 <<< (b &&& 31) - 1) c 0 0) q))).2.1 (yG (nI c) (M.1 (p + 1) 6) (M.1 (p + 1) 7) c (M.1 (p + 7)) 1000000 (yT (nI c) (M.1 (p + 1) 6) (M.1 (p + 1) 7) c (nI 0) 0 0 (3, 0, 0, 0, fr, tk, ch, va_up co 0 0, bgQ (fuR (1 <<< (b &&& 31) - 1) c 0 0) q))).2.2.1 b (yG (nI c) (M.1 (p + 1) 6) (M.1 (p + 1) 7) c (M.1 (p + 7)) 1000000 (yT (nI c) (M.1 (p + 1) 6) (M.1 (p + 1) 7) c (nI 0) 0 0 (3, 0, 0, 0, fr, tk, ch, va_up co 0 0, bgQ (fuR (1 <<< (b &&& 31) - 1) c 0 0) q))).2.2.2.2.1 tr (yG (nI c) (M.1 (p + 1) 6) (M.1 (p + 1) 7) c (M.1 (p + 7)) 1000000 (yT (nI c) (M.1 (p + 1) 6) (M.1 (p + 1) 7) c (nI 0) 0 0 (3, 0, 0, 0, fr, tk, ch, va_up co 0 0, bgQ (fuR (1 <<< (b &&& 31) - 1) c 0 0) q))).2.2.2.2.2.1 (yG (nI c) (M.1 (p + 1) 6) (M.1 (p + 1) 7) c (M.1 (p + 7)) 1000000 (yT (nI c) (M.1 (p + 1) 6) (M.1 (p + 1) 7) c (nI 0) 0 0 (3, 0, 0, 0, fr, tk, ch, va_up co 0 0, bgQ (fuR (1 <<< (b &&& 31) - 1) c 0 0) q))).2.2.2.2.2.2.1 (yG (nI c) (M.1 (p + 1) 6) (M.1 (p + 1) 7) c (M.1 (p + 7)) 1000000 (yT (nI c) (M.1 (p + 1) 6) (M.1 (p + 1) 7) c (nI 0) 0 0 (3, 0, 0, 0, fr, tk, ch, va_up co 0 0, bgQ (fuR (1 <<< (b &&& 31) - 1) c 0 0) q))).2.2.2.2.2.2.2.1 (nI c) (M.1 (p + 1) 6) (M.1 (p + 1) 7) (yG (nI c) (M.1 (p + 1) 6) (M.1 (p + 1) 7) c (M.1 (p + 7)) 1000000 (yT (nI c) (M.1 (p + 1) 6) (M.1 (p + 1) 7) c (nI 0) 0 0 (3, 0, 0, 0, fr, tk, ch, va_up co 0 0, bgQ (fuR (1 <<< (b &&& 31) - 1) c 0 0) q))).2.2.2.2.2.2.2.2) := by
  have oH_g6 : ∀ {oc tb lv mx : Int32} {fr tr tk ch co : Nat → Int32} {s l t : Int32} {q : sQ}, (paQ M (x + 10) oc tb lv mx fr tr tk ch co s l t q).1 (p + 1) 6 = M.1 (p + 1) 6 := fun {oc tb lv mx fr tr tk ch co s l t q} => congrFun (paQ_o (by omega)) 6
  refine zxin ym_X_forward [.ref x, .int b, .int 1] rfl rfl rfl rfl ?_
  refine z_aload_n (q := 1) rfl rfl rfl ?_
  refine z_aload_n (q := 2) rfl rfl rfl ?_
  refine z_getR (q := 5) rfl rfl rfl (X_k w) (X_r4 w) ?_
  refine z_getR (q := 8) rfl rfl rfl (St_k (X_w4 w)) (St_r0 (X_w4 w)) ?_
  refine z_getI (q := 11) rfl rfl rfl (Sh_k (St_w0 (X_w4 w))) ?_
  rw [oH_g6]
  refine z_iload_n (q := 12) rfl rfl rfl ?_
  refine z_cv2i (q := 15) rfl rfl rfl (X_k w) (t_X_mayP w hx hc hC h) ?_
  refine z_if_eq (q := 18) rfl rfl (fun h15 => ?_) (fun h15 => ?_)
  · exact absurd h15 (by decide)
  · refine z_iload_n (q := 19) rfl rfl rfl ?_
    refine z_if_lt (q := 22) rfl rfl (fun h19 => ?_) (fun h19 => ?_)
    · exact absurd h19 (by decide)
    · refine z_iload_n (q := 23) rfl rfl rfl ?_
      refine z_iconst (q := 24) (v := 3) rfl rfl rfl ?_
      refine z_ic_le (q := 27) rfl rfl (fun h24 => ?_) (fun h24 => ?_)
      · refine z_aload_n (q := 31) rfl rfl rfl ?_
        refine z_getR (q := 34) rfl rfl rfl (X_k w) (X_r3 w) ?_
        refine z_aload_n (q := 35) rfl rfl rfl ?_
        refine z_getR (q := 38) rfl rfl rfl (X_k w) (X_r4 w) ?_
        refine z_aload_n (q := 39) rfl rfl rfl ?_
        refine z_getR (q := 42) rfl rfl rfl (X_k w) (X_r4 w) ?_
        refine z_getR (q := 45) rfl rfl rfl (St_k (X_w4 w)) (St_r0 (X_w4 w)) ?_
        refine z_getI (q := 48) rfl rfl rfl (Sh_k (St_w0 (X_w4 w))) ?_
        rw [oH_g6]
        refine z_iload_n (q := 49) rfl rfl rfl ?_
        refine z_cv3v (q := 52) rfl rfl rfl (Pa_k (X_w3 w)) (q_Pa_seekAhead (X_w3 w) (X_w4 w) (by omega) hc hC h.1 htk) ?_
        refine z_aload_n (q := 53) rfl rfl rfl ?_
        refine z_getR (q := 56) rfl rfl rfl (X_k w) (X_r3 w) ?_
        refine z_iload_n (q := 57) rfl rfl rfl ?_
        refine z_cv1i (q := 60) rfl rfl rfl (Pa_k (X_w3 w)) (q_Pa_answer1 (X_w3 w)) ?_
        refine z_ireti rfl rfl ?_
        exact ⟨rfl, rfl⟩
      · exact absurd h24 (by decide)
theorem q_X_search2 {sc : Option (Nat × Nat × (Nat → Int32))} {sa : Nat → Nat} {d : Nat} {M : mz_M} {z : Nat × Nat} {x p r : Nat} {oc tb lv mx : Int32} {fr tr tk ch co : Nat → Int32} {s l t : Int32} {q : sQ} (w : g_X M.2.2 x p r) (hx : x + 22 ≤ p) {c : Nat} (hc : M.1 (p + 1) 5 = nI c) (hC : c ≤ 12) {m : Nat} (h : 0 < c ∧ ¬ (M.1 (p + 1) 6) < 0 ∧ ¬ 2 < (M.1 (p + 1) 6) ∧ ¬ nI m < 1 ∧ ¬ 4 < nI m) (hm : m ≤ 4)  : zx sc sa (d + 7) 156 [.ref x, .int (nI m), .int 2] (paQ M (x + 10) oc tb lv mx fr tr tk ch co s l t q) z z (some (.int (kG (nI c) (M.1 (p + 1) 6) (M.1 (p + 1) 7) c m (M.1 (p + 7)) 1000000 ((3, 0, 0, 0, va_up fr 0 0, va_up tr 0 0, bgQ 0 q) : kS)).2.2.2.2.2.2.2.2.2.2.2.2)) (paQ M (x + 10) (kG (nI c) (M.1 (p + 1) 6) (M.1 (p + 1) 7) c m (M.1 (p + 7)) 1000000 ((3, 0, 0, 0, va_up fr 0 0, va_up tr 0 0, bgQ 0 q) : kS)).1 (kG (nI c) (M.1 (p + 1) 6) (M.1 (p + 1) 7) c m (M.1 (p + 7)) 1000000 ((3, 0, 0, 0, va_up fr 0 0, va_up tr 0 0, bgQ 0 q) : kS)).2.1 (kG (nI c) (M.1 (p + 1) 6) (M.1 (p + 1) 7) c m (M.1 (p + 7)) 1000000 ((3, 0, 0, 0, va_up fr 0 0, va_up tr 0 0, bgQ 0 q) : kS)).2.2.1 (nI m) (kG (nI c) (M.1 (p + 1) 6) (M.1 (p + 1) 7) c m (M.1 (p + 7)) 1000000 ((3, 0, 0, 0, va_up fr 0 0, va_up tr 0 0, bgQ 0 q) : kS)).2.2.2.2.1 (kG (nI c) (M.1 (p + 1) 6) (M.1 (p + 1) 7) c m (M.1 (p + 7)) 1000000 ((3, 0, 0, 0, va_up fr 0 0, va_up tr 0 0, bgQ 0 q) : kS)).2.2.2.2.2.1 tk ch co (nI c) (M.1 (p + 1) 6) (M.1 (p + 1) 7) (kG (nI c) (M.1 (p + 1) 6) (M.1 (p + 1) 7) c m (M.1 (p + 7)) 1000000 ((3, 0, 0, 0, va_up fr 0 0, va_up tr 0 0, bgQ 0 q) : kS)).2.2.2.2.2.2) := by
  have oH_g6 : ∀ {oc tb lv mx : Int32} {fr tr tk ch co : Nat → Int32} {s l t : Int32} {q : sQ}, (paQ M (x + 10) oc tb lv mx fr tr tk ch co s l t q).1 (p + 1) 6 = M.1 (p + 1) 6 := fun {oc tb lv mx fr tr tk ch co s l t q} => congrFun (paQ_o (by omega)) 6
  refine zxin ym_X_search [.ref x, .int (nI m), .int 2] rfl rfl rfl rfl ?_
  refine z_aload_n (q := 1) rfl rfl rfl ?_
  refine z_aload_n (q := 2) rfl rfl rfl ?_
  refine z_getR (q := 5) rfl rfl rfl (X_k w) (X_r4 w) ?_
  refine z_getR (q := 8) rfl rfl rfl (St_k (X_w4 w)) (St_r0 (X_w4 w)) ?_
  refine z_getI (q := 11) rfl rfl rfl (Sh_k (St_w0 (X_w4 w))) ?_
  rw [oH_g6]
  refine z_iload_n (q := 12) rfl rfl rfl ?_
  refine z_cv2i (q := 15) rfl rfl rfl (X_k w) (t_X_mayP w hx hc hC h) ?_
  refine z_if_eq (q := 18) rfl rfl (fun h15 => ?_) (fun h15 => ?_)
  · exact absurd h15 (by decide)
  · refine z_iload_n (q := 19) rfl rfl rfl ?_
    refine z_if_lt (q := 22) rfl rfl (fun h19 => ?_) (fun h19 => ?_)
    · exact absurd h19 (by decide)
    · refine z_iload_n (q := 23) rfl rfl rfl ?_
      refine z_iconst (q := 24) (v := 3) rfl rfl rfl ?_
      refine z_ic_le (q := 27) rfl rfl (fun h24 => ?_) (fun h24 => ?_)
      · refine z_aload_n (q := 31) rfl rfl rfl ?_
        refine z_getR (q := 34) rfl rfl rfl (X_k w) (X_r3 w) ?_
        refine z_aload_n (q := 35) rfl rfl rfl ?_
        refine z_getR (q := 38) rfl rfl rfl (X_k w) (X_r4 w) ?_
        refine z_aload_n (q := 39) rfl rfl rfl ?_
        refine z_getR (q := 42) rfl rfl rfl (X_k w) (X_r4 w) ?_
        refine z_getR (q := 45) rfl rfl rfl (St_k (X_w4 w)) (St_r0 (X_w4 w)) ?_
        refine z_getI (q := 48) rfl rfl rfl (Sh_k (St_w0 (X_w4 w))) ?_
        rw [oH_g6]
        refine z_iload_n (q := 49) rfl rfl rfl ?_
        refine z_cv3v (q := 52) rfl rfl rfl (Pa_k (X_w3 w)) (q_Pa_seek (X_w3 w) (X_w4 w) (by omega) hc hC h.1 (by omega)) ?_
        refine z_aload_n (q := 53) rfl rfl rfl ?_
        refine z_getR (q := 56) rfl rfl rfl (X_k w) (X_r3 w) ?_
        refine z_iload_n (q := 57) rfl rfl rfl ?_
        refine z_cv1i (q := 60) rfl rfl rfl (Pa_k (X_w3 w)) (q_Pa_answer2 (X_w3 w)) ?_
        refine z_ireti rfl rfl ?_
        exact ⟨rfl, rfl⟩
      · exact absurd h24 (by decide)
theorem q_X_forward2 {sc : Option (Nat × Nat × (Nat → Int32))} {sa : Nat → Nat} {d : Nat} {M : mz_M} {z : Nat × Nat} {x p r : Nat} {oc tb lv mx : Int32} {fr tr tk ch co : Nat → Int32} {s l t : Int32} {q : sQ} (w : g_X M.2.2 x p r) (hx : x + 22 ≤ p) {c : Nat} (hc : M.1 (p + 1) 5 = nI c) (hC : c ≤ 12) {b : Int32} (h : 0 < c ∧ ¬ (M.1 (p + 1) 6) < 0 ∧ ¬ 2 < (M.1 (p + 1) 6) ∧ ¬ b < 1 ∧ ¬ 4 < b) (htk : ∀ i, ∃ c, c < 12 ∧ tk i = nI c)  : zx sc sa (d + 8) 160 [.ref x, .int b, .int 2] (paQ M (x + 10) oc tb lv mx fr tr tk ch co s l t q) z z (some (.int (yG (nI c) (M.1 (p + 1) 6) (M.1 (p + 1) 7) c (M.1 (p + 7)) 1000000 (yT (nI c) (M.1 (p + 1) 6) (M.1 (p + 1) 7) c (nI 0) 0 0 (3, 0, 0, 0, fr, tk, ch, va_up co 0 0, bgQ (fuR (1 <<< (b &&& 31) - 1) c 0 0) q))).2.2.2.2.2.2.2.2.2.2.2.2.2.2)) (paQ M (x + 10) (yG (nI c) (M.1 (p + 1) 6) (M.1 (p + 1) 7) c (M.1 (p + 7)) 1000000 (yT (nI c) (M.1 (p + 1) 6) (M.1 (p + 1) 7) c (nI 0) 0 0 (3, 0, 0, 0, fr, tk, ch, va_up co 0 0, bgQ (fuR (1 <<< (b &&& 31) - 1) c 0 0) q))).1 (yG (nI c) (M.1 (p + 1) 6) (M.1 (p + 1) 7) c (M.1 (p + 7)) 1000000 (yT (nI c) (M.1 (p + 1) 6) (M.1 (p + 1) 7) c (nI 0) 0 0 (3, 0, 0, 0, fr, tk, ch, va_up co 0 0, bgQ (fuR (1 <<< (b &&& 31) - 1) c 0 0) q))).2.1 (yG (nI c) (M.1 (p + 1) 6) (M.1 (p + 1) 7) c (M.1 (p + 7)) 1000000 (yT (nI c) (M.1 (p + 1) 6) (M.1 (p + 1) 7) c (nI 0) 0 0 (3, 0, 0, 0, fr, tk, ch, va_up co 0 0, bgQ (fuR (1 <<< (b &&& 31) - 1) c 0 0) q))).2.2.1 b (yG (nI c) (M.1 (p + 1) 6) (M.1 (p + 1) 7) c (M.1 (p + 7)) 1000000 (yT (nI c) (M.1 (p + 1) 6) (M.1 (p + 1) 7) c (nI 0) 0 0 (3, 0, 0, 0, fr, tk, ch, va_up co 0 0, bgQ (fuR (1 <<< (b &&& 31) - 1) c 0 0) q))).2.2.2.2.1 tr (yG (nI c) (M.1 (p + 1) 6) (M.1 (p + 1) 7) c (M.1 (p + 7)) 1000000 (yT (nI c) (M.1 (p + 1) 6) (M.1 (p + 1) 7) c (nI 0) 0 0 (3, 0, 0, 0, fr, tk, ch, va_up co 0 0, bgQ (fuR (1 <<< (b &&& 31) - 1) c 0 0) q))).2.2.2.2.2.1 (yG (nI c) (M.1 (p + 1) 6) (M.1 (p + 1) 7) c (M.1 (p + 7)) 1000000 (yT (nI c) (M.1 (p + 1) 6) (M.1 (p + 1) 7) c (nI 0) 0 0 (3, 0, 0, 0, fr, tk, ch, va_up co 0 0, bgQ (fuR (1 <<< (b &&& 31) - 1) c 0 0) q))).2.2.2.2.2.2.1 (yG (nI c) (M.1 (p + 1) 6) (M.1 (p + 1) 7) c (M.1 (p + 7)) 1000000 (yT (nI c) (M.1 (p + 1) 6) (M.1 (p + 1) 7) c (nI 0) 0 0 (3, 0, 0, 0, fr, tk, ch, va_up co 0 0, bgQ (fuR (1 <<< (b &&& 31) - 1) c 0 0) q))).2.2.2.2.2.2.2.1 (nI c) (M.1 (p + 1) 6) (M.1 (p + 1) 7) (yG (nI c) (M.1 (p + 1) 6) (M.1 (p + 1) 7) c (M.1 (p + 7)) 1000000 (yT (nI c) (M.1 (p + 1) 6) (M.1 (p + 1) 7) c (nI 0) 0 0 (3, 0, 0, 0, fr, tk, ch, va_up co 0 0, bgQ (fuR (1 <<< (b &&& 31) - 1) c 0 0) q))).2.2.2.2.2.2.2.2) := by
  have oH_g6 : ∀ {oc tb lv mx : Int32} {fr tr tk ch co : Nat → Int32} {s l t : Int32} {q : sQ}, (paQ M (x + 10) oc tb lv mx fr tr tk ch co s l t q).1 (p + 1) 6 = M.1 (p + 1) 6 := fun {oc tb lv mx fr tr tk ch co s l t q} => congrFun (paQ_o (by omega)) 6
  refine zxin ym_X_forward [.ref x, .int b, .int 2] rfl rfl rfl rfl ?_
  refine z_aload_n (q := 1) rfl rfl rfl ?_
  refine z_aload_n (q := 2) rfl rfl rfl ?_
  refine z_getR (q := 5) rfl rfl rfl (X_k w) (X_r4 w) ?_
  refine z_getR (q := 8) rfl rfl rfl (St_k (X_w4 w)) (St_r0 (X_w4 w)) ?_
  refine z_getI (q := 11) rfl rfl rfl (Sh_k (St_w0 (X_w4 w))) ?_
  rw [oH_g6]
  refine z_iload_n (q := 12) rfl rfl rfl ?_
  refine z_cv2i (q := 15) rfl rfl rfl (X_k w) (t_X_mayP w hx hc hC h) ?_
  refine z_if_eq (q := 18) rfl rfl (fun h15 => ?_) (fun h15 => ?_)
  · exact absurd h15 (by decide)
  · refine z_iload_n (q := 19) rfl rfl rfl ?_
    refine z_if_lt (q := 22) rfl rfl (fun h19 => ?_) (fun h19 => ?_)
    · exact absurd h19 (by decide)
    · refine z_iload_n (q := 23) rfl rfl rfl ?_
      refine z_iconst (q := 24) (v := 3) rfl rfl rfl ?_
      refine z_ic_le (q := 27) rfl rfl (fun h24 => ?_) (fun h24 => ?_)
      · refine z_aload_n (q := 31) rfl rfl rfl ?_
        refine z_getR (q := 34) rfl rfl rfl (X_k w) (X_r3 w) ?_
        refine z_aload_n (q := 35) rfl rfl rfl ?_
        refine z_getR (q := 38) rfl rfl rfl (X_k w) (X_r4 w) ?_
        refine z_aload_n (q := 39) rfl rfl rfl ?_
        refine z_getR (q := 42) rfl rfl rfl (X_k w) (X_r4 w) ?_
        refine z_getR (q := 45) rfl rfl rfl (St_k (X_w4 w)) (St_r0 (X_w4 w)) ?_
        refine z_getI (q := 48) rfl rfl rfl (Sh_k (St_w0 (X_w4 w))) ?_
        rw [oH_g6]
        refine z_iload_n (q := 49) rfl rfl rfl ?_
        refine z_cv3v (q := 52) rfl rfl rfl (Pa_k (X_w3 w)) (q_Pa_seekAhead (X_w3 w) (X_w4 w) (by omega) hc hC h.1 htk) ?_
        refine z_aload_n (q := 53) rfl rfl rfl ?_
        refine z_getR (q := 56) rfl rfl rfl (X_k w) (X_r3 w) ?_
        refine z_iload_n (q := 57) rfl rfl rfl ?_
        refine z_cv1i (q := 60) rfl rfl rfl (Pa_k (X_w3 w)) (q_Pa_answer2 (X_w3 w)) ?_
        refine z_ireti rfl rfl ?_
        exact ⟨rfl, rfl⟩
      · exact absurd h24 (by decide)
theorem q_X_search3 {sc : Option (Nat × Nat × (Nat → Int32))} {sa : Nat → Nat} {d : Nat} {M : mz_M} {z : Nat × Nat} {x p r : Nat} {oc tb lv mx : Int32} {fr tr tk ch co : Nat → Int32} {s l t : Int32} {q : sQ} (w : g_X M.2.2 x p r) (hx : x + 22 ≤ p) {c : Nat} (hc : M.1 (p + 1) 5 = nI c) (hC : c ≤ 12) {m : Nat} (h : 0 < c ∧ ¬ (M.1 (p + 1) 6) < 0 ∧ ¬ 2 < (M.1 (p + 1) 6) ∧ ¬ nI m < 1 ∧ ¬ 4 < nI m) (hm : m ≤ 4)  : zx sc sa (d + 7) 156 [.ref x, .int (nI m), .int 3] (paQ M (x + 10) oc tb lv mx fr tr tk ch co s l t q) z z (some (.int (kG (nI c) (M.1 (p + 1) 6) (M.1 (p + 1) 7) c m (M.1 (p + 7)) 1000000 ((3, 0, 0, 0, va_up fr 0 0, va_up tr 0 0, bgQ 0 q) : kS)).2.1)) (paQ M (x + 10) (kG (nI c) (M.1 (p + 1) 6) (M.1 (p + 1) 7) c m (M.1 (p + 7)) 1000000 ((3, 0, 0, 0, va_up fr 0 0, va_up tr 0 0, bgQ 0 q) : kS)).1 (kG (nI c) (M.1 (p + 1) 6) (M.1 (p + 1) 7) c m (M.1 (p + 7)) 1000000 ((3, 0, 0, 0, va_up fr 0 0, va_up tr 0 0, bgQ 0 q) : kS)).2.1 (kG (nI c) (M.1 (p + 1) 6) (M.1 (p + 1) 7) c m (M.1 (p + 7)) 1000000 ((3, 0, 0, 0, va_up fr 0 0, va_up tr 0 0, bgQ 0 q) : kS)).2.2.1 (nI m) (kG (nI c) (M.1 (p + 1) 6) (M.1 (p + 1) 7) c m (M.1 (p + 7)) 1000000 ((3, 0, 0, 0, va_up fr 0 0, va_up tr 0 0, bgQ 0 q) : kS)).2.2.2.2.1 (kG (nI c) (M.1 (p + 1) 6) (M.1 (p + 1) 7) c m (M.1 (p + 7)) 1000000 ((3, 0, 0, 0, va_up fr 0 0, va_up tr 0 0, bgQ 0 q) : kS)).2.2.2.2.2.1 tk ch co (nI c) (M.1 (p + 1) 6) (M.1 (p + 1) 7) (kG (nI c) (M.1 (p + 1) 6) (M.1 (p + 1) 7) c m (M.1 (p + 7)) 1000000 ((3, 0, 0, 0, va_up fr 0 0, va_up tr 0 0, bgQ 0 q) : kS)).2.2.2.2.2.2) := by
  have oH_g6 : ∀ {oc tb lv mx : Int32} {fr tr tk ch co : Nat → Int32} {s l t : Int32} {q : sQ}, (paQ M (x + 10) oc tb lv mx fr tr tk ch co s l t q).1 (p + 1) 6 = M.1 (p + 1) 6 := fun {oc tb lv mx fr tr tk ch co s l t q} => congrFun (paQ_o (by omega)) 6
  refine zxin ym_X_search [.ref x, .int (nI m), .int 3] rfl rfl rfl rfl ?_
  refine z_aload_n (q := 1) rfl rfl rfl ?_
  refine z_aload_n (q := 2) rfl rfl rfl ?_
  refine z_getR (q := 5) rfl rfl rfl (X_k w) (X_r4 w) ?_
  refine z_getR (q := 8) rfl rfl rfl (St_k (X_w4 w)) (St_r0 (X_w4 w)) ?_
  refine z_getI (q := 11) rfl rfl rfl (Sh_k (St_w0 (X_w4 w))) ?_
  rw [oH_g6]
  refine z_iload_n (q := 12) rfl rfl rfl ?_
  refine z_cv2i (q := 15) rfl rfl rfl (X_k w) (t_X_mayP w hx hc hC h) ?_
  refine z_if_eq (q := 18) rfl rfl (fun h15 => ?_) (fun h15 => ?_)
  · exact absurd h15 (by decide)
  · refine z_iload_n (q := 19) rfl rfl rfl ?_
    refine z_if_lt (q := 22) rfl rfl (fun h19 => ?_) (fun h19 => ?_)
    · exact absurd h19 (by decide)
    · refine z_iload_n (q := 23) rfl rfl rfl ?_
      refine z_iconst (q := 24) (v := 3) rfl rfl rfl ?_
      refine z_ic_le (q := 27) rfl rfl (fun h24 => ?_) (fun h24 => ?_)
      · refine z_aload_n (q := 31) rfl rfl rfl ?_
        refine z_getR (q := 34) rfl rfl rfl (X_k w) (X_r3 w) ?_
        refine z_aload_n (q := 35) rfl rfl rfl ?_
        refine z_getR (q := 38) rfl rfl rfl (X_k w) (X_r4 w) ?_
        refine z_aload_n (q := 39) rfl rfl rfl ?_
        refine z_getR (q := 42) rfl rfl rfl (X_k w) (X_r4 w) ?_
        refine z_getR (q := 45) rfl rfl rfl (St_k (X_w4 w)) (St_r0 (X_w4 w)) ?_
        refine z_getI (q := 48) rfl rfl rfl (Sh_k (St_w0 (X_w4 w))) ?_
        rw [oH_g6]
        refine z_iload_n (q := 49) rfl rfl rfl ?_
        refine z_cv3v (q := 52) rfl rfl rfl (Pa_k (X_w3 w)) (q_Pa_seek (X_w3 w) (X_w4 w) (by omega) hc hC h.1 (by omega)) ?_
        refine z_aload_n (q := 53) rfl rfl rfl ?_
        refine z_getR (q := 56) rfl rfl rfl (X_k w) (X_r3 w) ?_
        refine z_iload_n (q := 57) rfl rfl rfl ?_
        refine z_cv1i (q := 60) rfl rfl rfl (Pa_k (X_w3 w)) (q_Pa_answer3 (X_w3 w)) ?_
        refine z_ireti rfl rfl ?_
        exact ⟨rfl, rfl⟩
      · exact absurd h24 (by decide)
theorem q_X_forward3 {sc : Option (Nat × Nat × (Nat → Int32))} {sa : Nat → Nat} {d : Nat} {M : mz_M} {z : Nat × Nat} {x p r : Nat} {oc tb lv mx : Int32} {fr tr tk ch co : Nat → Int32} {s l t : Int32} {q : sQ} (w : g_X M.2.2 x p r) (hx : x + 22 ≤ p) {c : Nat} (hc : M.1 (p + 1) 5 = nI c) (hC : c ≤ 12) {b : Int32} (h : 0 < c ∧ ¬ (M.1 (p + 1) 6) < 0 ∧ ¬ 2 < (M.1 (p + 1) 6) ∧ ¬ b < 1 ∧ ¬ 4 < b) (htk : ∀ i, ∃ c, c < 12 ∧ tk i = nI c)  : zx sc sa (d + 8) 160 [.ref x, .int b, .int 3] (paQ M (x + 10) oc tb lv mx fr tr tk ch co s l t q) z z (some (.int (yG (nI c) (M.1 (p + 1) 6) (M.1 (p + 1) 7) c (M.1 (p + 7)) 1000000 (yT (nI c) (M.1 (p + 1) 6) (M.1 (p + 1) 7) c (nI 0) 0 0 (3, 0, 0, 0, fr, tk, ch, va_up co 0 0, bgQ (fuR (1 <<< (b &&& 31) - 1) c 0 0) q))).2.1)) (paQ M (x + 10) (yG (nI c) (M.1 (p + 1) 6) (M.1 (p + 1) 7) c (M.1 (p + 7)) 1000000 (yT (nI c) (M.1 (p + 1) 6) (M.1 (p + 1) 7) c (nI 0) 0 0 (3, 0, 0, 0, fr, tk, ch, va_up co 0 0, bgQ (fuR (1 <<< (b &&& 31) - 1) c 0 0) q))).1 (yG (nI c) (M.1 (p + 1) 6) (M.1 (p + 1) 7) c (M.1 (p + 7)) 1000000 (yT (nI c) (M.1 (p + 1) 6) (M.1 (p + 1) 7) c (nI 0) 0 0 (3, 0, 0, 0, fr, tk, ch, va_up co 0 0, bgQ (fuR (1 <<< (b &&& 31) - 1) c 0 0) q))).2.1 (yG (nI c) (M.1 (p + 1) 6) (M.1 (p + 1) 7) c (M.1 (p + 7)) 1000000 (yT (nI c) (M.1 (p + 1) 6) (M.1 (p + 1) 7) c (nI 0) 0 0 (3, 0, 0, 0, fr, tk, ch, va_up co 0 0, bgQ (fuR (1 <<< (b &&& 31) - 1) c 0 0) q))).2.2.1 b (yG (nI c) (M.1 (p + 1) 6) (M.1 (p + 1) 7) c (M.1 (p + 7)) 1000000 (yT (nI c) (M.1 (p + 1) 6) (M.1 (p + 1) 7) c (nI 0) 0 0 (3, 0, 0, 0, fr, tk, ch, va_up co 0 0, bgQ (fuR (1 <<< (b &&& 31) - 1) c 0 0) q))).2.2.2.2.1 tr (yG (nI c) (M.1 (p + 1) 6) (M.1 (p + 1) 7) c (M.1 (p + 7)) 1000000 (yT (nI c) (M.1 (p + 1) 6) (M.1 (p + 1) 7) c (nI 0) 0 0 (3, 0, 0, 0, fr, tk, ch, va_up co 0 0, bgQ (fuR (1 <<< (b &&& 31) - 1) c 0 0) q))).2.2.2.2.2.1 (yG (nI c) (M.1 (p + 1) 6) (M.1 (p + 1) 7) c (M.1 (p + 7)) 1000000 (yT (nI c) (M.1 (p + 1) 6) (M.1 (p + 1) 7) c (nI 0) 0 0 (3, 0, 0, 0, fr, tk, ch, va_up co 0 0, bgQ (fuR (1 <<< (b &&& 31) - 1) c 0 0) q))).2.2.2.2.2.2.1 (yG (nI c) (M.1 (p + 1) 6) (M.1 (p + 1) 7) c (M.1 (p + 7)) 1000000 (yT (nI c) (M.1 (p + 1) 6) (M.1 (p + 1) 7) c (nI 0) 0 0 (3, 0, 0, 0, fr, tk, ch, va_up co 0 0, bgQ (fuR (1 <<< (b &&& 31) - 1) c 0 0) q))).2.2.2.2.2.2.2.1 (nI c) (M.1 (p + 1) 6) (M.1 (p + 1) 7) (yG (nI c) (M.1 (p + 1) 6) (M.1 (p + 1) 7) c (M.1 (p + 7)) 1000000 (yT (nI c) (M.1 (p + 1) 6) (M.1 (p + 1) 7) c (nI 0) 0 0 (3, 0, 0, 0, fr, tk, ch, va_up co 0 0, bgQ (fuR (1 <<< (b &&& 31) - 1) c 0 0) q))).2.2.2.2.2.2.2.2) := by
  have oH_g6 : ∀ {oc tb lv mx : Int32} {fr tr tk ch co : Nat → Int32} {s l t : Int32} {q : sQ}, (paQ M (x + 10) oc tb lv mx fr tr tk ch co s l t q).1 (p + 1) 6 = M.1 (p + 1) 6 := fun {oc tb lv mx fr tr tk ch co s l t q} => congrFun (paQ_o (by omega)) 6
  refine zxin ym_X_forward [.ref x, .int b, .int 3] rfl rfl rfl rfl ?_
  refine z_aload_n (q := 1) rfl rfl rfl ?_
  refine z_aload_n (q := 2) rfl rfl rfl ?_
  refine z_getR (q := 5) rfl rfl rfl (X_k w) (X_r4 w) ?_
  refine z_getR (q := 8) rfl rfl rfl (St_k (X_w4 w)) (St_r0 (X_w4 w)) ?_
  refine z_getI (q := 11) rfl rfl rfl (Sh_k (St_w0 (X_w4 w))) ?_
  rw [oH_g6]
  refine z_iload_n (q := 12) rfl rfl rfl ?_
  refine z_cv2i (q := 15) rfl rfl rfl (X_k w) (t_X_mayP w hx hc hC h) ?_
  refine z_if_eq (q := 18) rfl rfl (fun h15 => ?_) (fun h15 => ?_)
  · exact absurd h15 (by decide)
  · refine z_iload_n (q := 19) rfl rfl rfl ?_
    refine z_if_lt (q := 22) rfl rfl (fun h19 => ?_) (fun h19 => ?_)
    · exact absurd h19 (by decide)
    · refine z_iload_n (q := 23) rfl rfl rfl ?_
      refine z_iconst (q := 24) (v := 3) rfl rfl rfl ?_
      refine z_ic_le (q := 27) rfl rfl (fun h24 => ?_) (fun h24 => ?_)
      · refine z_aload_n (q := 31) rfl rfl rfl ?_
        refine z_getR (q := 34) rfl rfl rfl (X_k w) (X_r3 w) ?_
        refine z_aload_n (q := 35) rfl rfl rfl ?_
        refine z_getR (q := 38) rfl rfl rfl (X_k w) (X_r4 w) ?_
        refine z_aload_n (q := 39) rfl rfl rfl ?_
        refine z_getR (q := 42) rfl rfl rfl (X_k w) (X_r4 w) ?_
        refine z_getR (q := 45) rfl rfl rfl (St_k (X_w4 w)) (St_r0 (X_w4 w)) ?_
        refine z_getI (q := 48) rfl rfl rfl (Sh_k (St_w0 (X_w4 w))) ?_
        rw [oH_g6]
        refine z_iload_n (q := 49) rfl rfl rfl ?_
        refine z_cv3v (q := 52) rfl rfl rfl (Pa_k (X_w3 w)) (q_Pa_seekAhead (X_w3 w) (X_w4 w) (by omega) hc hC h.1 htk) ?_
        refine z_aload_n (q := 53) rfl rfl rfl ?_
        refine z_getR (q := 56) rfl rfl rfl (X_k w) (X_r3 w) ?_
        refine z_iload_n (q := 57) rfl rfl rfl ?_
        refine z_cv1i (q := 60) rfl rfl rfl (Pa_k (X_w3 w)) (q_Pa_answer3 (X_w3 w)) ?_
        refine z_ireti rfl rfl ?_
        exact ⟨rfl, rfl⟩
      · exact absurd h24 (by decide)
theorem n_X_search {sc : Option (Nat × Nat × (Nat → Int32))} {sa : Nat → Nat} {d : Nat} {M : mz_M} {z : Nat × Nat} {x p q : Nat} (w : g_X M.2.2 x p q) {c : Nat} (hc : M.1 (p + 1) 5 = nI c) (hC : c ≤ 12) {a b : Int32} (hno : ¬ ((0 < c ∧ ¬ (M.1 (p + 1) 6) < 0 ∧ ¬ 2 < (M.1 (p + 1) 6) ∧ ¬ a < 1 ∧ ¬ 4 < a) ∧ ¬ b < 0 ∧ b ≤ 3)) : zx sc sa (d + 7) 156 [.ref x, .int a, .int b] M z z (some (.int (-2))) M := by
  refine zxin ym_X_search [.ref x, .int a, .int b] rfl rfl rfl rfl ?_
  refine z_aload_n (q := 1) rfl rfl rfl ?_
  refine z_aload_n (q := 2) rfl rfl rfl ?_
  refine z_getR (q := 5) rfl rfl rfl (X_k w) (X_r4 w) ?_
  refine z_getR (q := 8) rfl rfl rfl (St_k (X_w4 w)) (St_r0 (X_w4 w)) ?_
  refine z_getI (q := 11) rfl rfl rfl (Sh_k (St_w0 (X_w4 w))) ?_
  refine z_iload_n (q := 12) rfl rfl rfl ?_
  refine z_cv2i (q := 15) rfl rfl rfl (X_k w) (s_X_mayColour w hc hC) ?_
  refine z_if_eq (q := 18) rfl rfl (fun h15 => ?_) (fun h15 => ?_)
  · refine z_bipush (q := 29) (v := -2) rfl rfl rfl ?_
    refine z_ireti rfl rfl ?_
    exact ⟨rfl, rfl⟩
  · refine z_iload_n (q := 19) rfl rfl rfl ?_
    refine z_if_lt (q := 22) rfl rfl (fun h19 => ?_) (fun h19 => ?_)
    · refine z_bipush (q := 29) (v := -2) rfl rfl rfl ?_
      refine z_ireti rfl rfl ?_
      exact ⟨rfl, rfl⟩
    · refine z_iload_n (q := 23) rfl rfl rfl ?_
      refine z_iconst (q := 24) (v := 3) rfl rfl rfl ?_
      refine z_ic_le (q := 27) rfl rfl (fun h24 => ?_) (fun h24 => ?_)
      · exact absurd ⟨bz_n.mp h15, h19, h24⟩ hno
      · refine z_bipush (q := 29) (v := -2) rfl rfl rfl ?_
        refine z_ireti rfl rfl ?_
        exact ⟨rfl, rfl⟩
theorem n_X_forward {sc : Option (Nat × Nat × (Nat → Int32))} {sa : Nat → Nat} {d : Nat} {M : mz_M} {z : Nat × Nat} {x p q : Nat} (w : g_X M.2.2 x p q) {c : Nat} (hc : M.1 (p + 1) 5 = nI c) (hC : c ≤ 12) {a b : Int32} (hno : ¬ ((0 < c ∧ ¬ (M.1 (p + 1) 6) < 0 ∧ ¬ 2 < (M.1 (p + 1) 6) ∧ ¬ a < 1 ∧ ¬ 4 < a) ∧ ¬ b < 0 ∧ b ≤ 3)) : zx sc sa (d + 7) 160 [.ref x, .int a, .int b] M z z (some (.int (-2))) M := by
  refine zxin ym_X_forward [.ref x, .int a, .int b] rfl rfl rfl rfl ?_
  refine z_aload_n (q := 1) rfl rfl rfl ?_
  refine z_aload_n (q := 2) rfl rfl rfl ?_
  refine z_getR (q := 5) rfl rfl rfl (X_k w) (X_r4 w) ?_
  refine z_getR (q := 8) rfl rfl rfl (St_k (X_w4 w)) (St_r0 (X_w4 w)) ?_
  refine z_getI (q := 11) rfl rfl rfl (Sh_k (St_w0 (X_w4 w))) ?_
  refine z_iload_n (q := 12) rfl rfl rfl ?_
  refine z_cv2i (q := 15) rfl rfl rfl (X_k w) (s_X_mayColour w hc hC) ?_
  refine z_if_eq (q := 18) rfl rfl (fun h15 => ?_) (fun h15 => ?_)
  · refine z_bipush (q := 29) (v := -2) rfl rfl rfl ?_
    refine z_ireti rfl rfl ?_
    exact ⟨rfl, rfl⟩
  · refine z_iload_n (q := 19) rfl rfl rfl ?_
    refine z_if_lt (q := 22) rfl rfl (fun h19 => ?_) (fun h19 => ?_)
    · refine z_bipush (q := 29) (v := -2) rfl rfl rfl ?_
      refine z_ireti rfl rfl ?_
      exact ⟨rfl, rfl⟩
    · refine z_iload_n (q := 23) rfl rfl rfl ?_
      refine z_iconst (q := 24) (v := 3) rfl rfl rfl ?_
      refine z_ic_le (q := 27) rfl rfl (fun h24 => ?_) (fun h24 => ?_)
      · exact absurd ⟨bz_n.mp h15, h19, h24⟩ hno
      · refine z_bipush (q := 29) (v := -2) rfl rfl rfl ?_
        refine z_ireti rfl rfl ?_
        exact ⟨rfl, rfl⟩
