theorem yR_30 {c mm : Nat} {x : yS} {F : Nat → Int32} {A : Nat → Nat → Int32} (h : yR c mm x F A) (hn : ¬ x.1 = 3) : F 30 = x.1 := by
  obtain ⟨oc, tb, lv, g, fr, tk, ch, co, q⟩ := x
  have g9 := h.2.2.1
  rw [if_neg hn] at g9
  exact g9
theorem yR_17 {c mm : Nat} {x : yS} {F : Nat → Int32} {A : Nat → Nat → Int32} (h : yR c mm x F A) : F 17 = x.2.2.2.2.2.2.2.2.2.2.2.2.2.2 := by
  obtain ⟨oc, tb, lv, g, fr, tk, ch, co, q⟩ := x
  obtain ⟨q9, g9, d9⟩ := h.1
  rw [g9.2.1, d9.2, Int32.add_zero]
theorem yR_29 {c mm : Nat} {x : yS} {F : Nat → Int32} {A : Nat → Nat → Int32} (h : yR c mm x F A) : F 29 = x.2.1 := by
  obtain ⟨oc, tb, lv, g, fr, tk, ch, co, q⟩ := x
  exact h.2.1
def hueI (v : Int32) : Int32 := if v = 1 then 1 else if v = 2 then 2 else if v = 4 then 3 else if v = 8 then 4 else 0
theorem hue_b : ∀ h, h < 4 → hueI (b2 h) = nI (h + 1) := by decide
theorem yR_hue {c mm : Nat} {x : yS} {F : Nat → Int32} {A : Nat → Nat → Int32} (h : yR c mm x F A) (h1 : x.1 = 1) (hb : x.2.2.2.2.2.2.2.2.1 ≤ 200) {i : Nat} (hi : i < c) : A 20 i = hueI (nmI (x.2.2.2.2.2.2.2.2.2.1 x.2.2.1.toNatClampNeg) (nI i)) := by
  obtain ⟨oc, tb, lv, g, fr, tk, ch, co, q⟩ := x
  obtain ⟨u, u1, u2, u3⟩ := h.2.2.2.2 h1
  obtain ⟨e, e1, e2, e3⟩ := u3 i hi
  have hb' : q.1 ≤ 200 := hb
  have u1' : lv = nI u := u1
  show A 20 i = hueI (nmI (q.2.1 lv.toNatClampNeg) (nI i))
  rw [u1', nI_clamp (by omega), e3, hue_b e e1]
  exact e2
theorem q_Mo_forward0 {sc : Option (Nat × Nat × (Nat → Int32))} {sa : Nat → Nat} {d : Nat} {M : mz_M} {z : Nat × Nat} {m : Nat} (w : g_Mo M.2.2 m) {F : Nat → Int32} {A : Nat → Nat → Int32} {c : Nat} {l t : Int32} (hC : c ≤ 12) (h0 : 0 < c) (hs : A 1 0 = nI c) (k2 : A 1 1 = l) (ht : A 1 2 = t) {ln : Nat} (k7 : A 1 5 = nI ln) (k5 : 0 < ln) (k6 : ln < 1000) {P : Nat → Int32} (hP : ∀ i, i < c → A 1 (7 + i) = P i) {mm : Nat} (hm1 : 1 ≤ mm) (hm : mm ≤ 4) {fr tk ch co : Nat → Int32} {qc : sQ}  : zi sc sa (d + 9) 285 [.ref m, .int (nI mm), .int 0] (moF M m F A) z (mR M m F A ((yG (nI c) l t c P 1000000 (yT (nI c) l t c (nI 0) 0 0 ((3, 0, 0, 0, fr, tk, ch, va_up co 0 0, bgQ (fuR (1 <<< (nI mm &&& 31) - 1) c 0 0) qc) : yS))).1)) := by
  refine zin ym_Mo_forward [.ref m, .int (nI mm), .int 0] rfl rfl rfl rfl ?_
  refine z_aload_n (q := 1) rfl rfl rfl ?_
  refine z_iload_n (q := 2) rfl rfl rfl ?_
  refine z_cv1i (q := 5) rfl rfl rfl (Mo_k w) (s_Mo_areColours w k7 k5 k6 hm1 hm) ?_
  refine z_if_eq (q := 8) rfl rfl (fun h5 => ?_) (fun h5 => ?_)
  · exact absurd h5 (by decide)
  · refine z_iload_n (q := 9) rfl rfl rfl ?_
    refine z_i2l (q := 10) rfl rfl ?_
    refine z_lconst (q := 11) (v := 0) rfl rfl rfl ?_
    refine z_ldc2 (q := 14) (v := 3) rfl rfl rfl ?_
    refine z_cs3i (q := 17) rfl rfl rfl (t_Mo_inY (a := 0) (hi := 3) (by decide)) ?_
    refine z_if_ne (q := 20) rfl rfl (fun h17 => ?_) (fun h17 => ?_)
    · refine z_aload_n (q := 24) rfl rfl rfl ?_
      refine z_aload_n (q := 25) rfl rfl rfl ?_
      refine z_getR (q := 28) rfl rfl rfl (Mo_k w) (Mo_r0 w) ?_
      refine z_iconst (q := 29) (v := 1) rfl rfl rfl ?_
      refine z_iald (q := 30) rfl rfl (Mo_a0 w) (vp_in_nI (n := 1) (by omega) (by omega)) ?_
      rw [moF_a0]
      try rw [nI_clamp (by omega)]
      rw [show A 1 (1 : Int32).toNatClampNeg = l from k2]
      refine z_iload_n (q := 31) rfl rfl rfl ?_
      refine z_cv2qv (q := 34) rfl rfl rfl (Mo_k w) (d_Mo_looksAhead (l := l) (fr := fr) (tk := tk) (ch := ch) (co := co) (qc := qc) w hC h0 hs ht hP hm) (fun M9 h9 => ?_)
      obtain ⟨FF, AA, rfl, wk, wj, rz, r28, hend⟩ := h9
      refine z_iload_n (q := 35) rfl rfl rfl ?_
      refine z_if_ne (q := 38) rfl rfl (fun h35 => ?_) (fun h35 => ?_)
      · exact absurd h35 (by decide)
      · refine z_aload_n (q := 39) rfl rfl rfl ?_
        refine z_getI (q := 42) rfl rfl rfl (Mo_k w) ?_
        rw [moF_g30]
        refine z_goto rfl ?_
        refine z_ireti rfl rfl ?_
        exact qz_r (yR_30 rz hend) ⟨FF, AA, rfl, fun k hk => wk k (by omega), fun j hj => wj j (by omega)⟩
    · exact absurd h17 (by decide)
theorem q_Mo_forward1 {sc : Option (Nat × Nat × (Nat → Int32))} {sa : Nat → Nat} {d : Nat} {M : mz_M} {z : Nat × Nat} {m : Nat} (w : g_Mo M.2.2 m) {F : Nat → Int32} {A : Nat → Nat → Int32} {c : Nat} {l t : Int32} (hC : c ≤ 12) (h0 : 0 < c) (hs : A 1 0 = nI c) (k2 : A 1 1 = l) (ht : A 1 2 = t) {ln : Nat} (k7 : A 1 5 = nI ln) (k5 : 0 < ln) (k6 : ln < 1000) {P : Nat → Int32} (hP : ∀ i, i < c → A 1 (7 + i) = P i) {mm : Nat} (hm1 : 1 ≤ mm) (hm : mm ≤ 4) {fr tk ch co : Nat → Int32} {qc : sQ}  : zi sc sa (d + 9) 285 [.ref m, .int (nI mm), .int 1] (moF M m F A) z (mR M m F A (nI (yG (nI c) l t c P 1000000 (yT (nI c) l t c (nI 0) 0 0 ((3, 0, 0, 0, fr, tk, ch, va_up co 0 0, bgQ (fuR (1 <<< (nI mm &&& 31) - 1) c 0 0) qc) : yS))).2.2.2.2.2.2.2.2.1 - 1)) := by
  refine zin ym_Mo_forward [.ref m, .int (nI mm), .int 1] rfl rfl rfl rfl ?_
  refine z_aload_n (q := 1) rfl rfl rfl ?_
  refine z_iload_n (q := 2) rfl rfl rfl ?_
  refine z_cv1i (q := 5) rfl rfl rfl (Mo_k w) (s_Mo_areColours w k7 k5 k6 hm1 hm) ?_
  refine z_if_eq (q := 8) rfl rfl (fun h5 => ?_) (fun h5 => ?_)
  · exact absurd h5 (by decide)
  · refine z_iload_n (q := 9) rfl rfl rfl ?_
    refine z_i2l (q := 10) rfl rfl ?_
    refine z_lconst (q := 11) (v := 0) rfl rfl rfl ?_
    refine z_ldc2 (q := 14) (v := 3) rfl rfl rfl ?_
    refine z_cs3i (q := 17) rfl rfl rfl (t_Mo_inY (a := 1) (hi := 3) (by decide)) ?_
    refine z_if_ne (q := 20) rfl rfl (fun h17 => ?_) (fun h17 => ?_)
    · refine z_aload_n (q := 24) rfl rfl rfl ?_
      refine z_aload_n (q := 25) rfl rfl rfl ?_
      refine z_getR (q := 28) rfl rfl rfl (Mo_k w) (Mo_r0 w) ?_
      refine z_iconst (q := 29) (v := 1) rfl rfl rfl ?_
      refine z_iald (q := 30) rfl rfl (Mo_a0 w) (vp_in_nI (n := 1) (by omega) (by omega)) ?_
      rw [moF_a0]
      try rw [nI_clamp (by omega)]
      rw [show A 1 (1 : Int32).toNatClampNeg = l from k2]
      refine z_iload_n (q := 31) rfl rfl rfl ?_
      refine z_cv2qv (q := 34) rfl rfl rfl (Mo_k w) (d_Mo_looksAhead (l := l) (fr := fr) (tk := tk) (ch := ch) (co := co) (qc := qc) w hC h0 hs ht hP hm) (fun M9 h9 => ?_)
      obtain ⟨FF, AA, rfl, wk, wj, rz, r28, hend⟩ := h9
      refine z_iload_n (q := 35) rfl rfl rfl ?_
      refine z_if_ne (q := 38) rfl rfl (fun h35 => ?_) (fun h35 => ?_)
      · refine z_iload_n (q := 46) rfl rfl rfl ?_
        refine z_iconst (q := 47) (v := 1) rfl rfl rfl ?_
        refine z_ic_ne (q := 50) rfl rfl (fun h47 => ?_) (fun h47 => ?_)
        · exact absurd h47 (by decide)
        · refine z_aload_n (q := 51) rfl rfl rfl ?_
          refine z_getI (q := 54) rfl rfl rfl (Mo_k w) ?_
          rw [moF_g28]
          refine z_goto rfl ?_
          refine z_ireti rfl rfl ?_
          exact qz_r r28 ⟨FF, AA, rfl, fun k hk => wk k (by omega), fun j hj => wj j (by omega)⟩
      · exact absurd h35 (by decide)
    · exact absurd h17 (by decide)
theorem q_Mo_forward2 {sc : Option (Nat × Nat × (Nat → Int32))} {sa : Nat → Nat} {d : Nat} {M : mz_M} {z : Nat × Nat} {m : Nat} (w : g_Mo M.2.2 m) {F : Nat → Int32} {A : Nat → Nat → Int32} {c : Nat} {l t : Int32} (hC : c ≤ 12) (h0 : 0 < c) (hs : A 1 0 = nI c) (k2 : A 1 1 = l) (ht : A 1 2 = t) {ln : Nat} (k7 : A 1 5 = nI ln) (k5 : 0 < ln) (k6 : ln < 1000) {P : Nat → Int32} (hP : ∀ i, i < c → A 1 (7 + i) = P i) {mm : Nat} (hm1 : 1 ≤ mm) (hm : mm ≤ 4) {fr tk ch co : Nat → Int32} {qc : sQ}  : zi sc sa (d + 9) 285 [.ref m, .int (nI mm), .int 2] (moF M m F A) z (mR M m F A ((yG (nI c) l t c P 1000000 (yT (nI c) l t c (nI 0) 0 0 ((3, 0, 0, 0, fr, tk, ch, va_up co 0 0, bgQ (fuR (1 <<< (nI mm &&& 31) - 1) c 0 0) qc) : yS))).2.2.2.2.2.2.2.2.2.2.2.2.2.2)) := by
  refine zin ym_Mo_forward [.ref m, .int (nI mm), .int 2] rfl rfl rfl rfl ?_
  refine z_aload_n (q := 1) rfl rfl rfl ?_
  refine z_iload_n (q := 2) rfl rfl rfl ?_
  refine z_cv1i (q := 5) rfl rfl rfl (Mo_k w) (s_Mo_areColours w k7 k5 k6 hm1 hm) ?_
  refine z_if_eq (q := 8) rfl rfl (fun h5 => ?_) (fun h5 => ?_)
  · exact absurd h5 (by decide)
  · refine z_iload_n (q := 9) rfl rfl rfl ?_
    refine z_i2l (q := 10) rfl rfl ?_
    refine z_lconst (q := 11) (v := 0) rfl rfl rfl ?_
    refine z_ldc2 (q := 14) (v := 3) rfl rfl rfl ?_
    refine z_cs3i (q := 17) rfl rfl rfl (t_Mo_inY (a := 2) (hi := 3) (by decide)) ?_
    refine z_if_ne (q := 20) rfl rfl (fun h17 => ?_) (fun h17 => ?_)
    · refine z_aload_n (q := 24) rfl rfl rfl ?_
      refine z_aload_n (q := 25) rfl rfl rfl ?_
      refine z_getR (q := 28) rfl rfl rfl (Mo_k w) (Mo_r0 w) ?_
      refine z_iconst (q := 29) (v := 1) rfl rfl rfl ?_
      refine z_iald (q := 30) rfl rfl (Mo_a0 w) (vp_in_nI (n := 1) (by omega) (by omega)) ?_
      rw [moF_a0]
      try rw [nI_clamp (by omega)]
      rw [show A 1 (1 : Int32).toNatClampNeg = l from k2]
      refine z_iload_n (q := 31) rfl rfl rfl ?_
      refine z_cv2qv (q := 34) rfl rfl rfl (Mo_k w) (d_Mo_looksAhead (l := l) (fr := fr) (tk := tk) (ch := ch) (co := co) (qc := qc) w hC h0 hs ht hP hm) (fun M9 h9 => ?_)
      obtain ⟨FF, AA, rfl, wk, wj, rz, r28, hend⟩ := h9
      refine z_iload_n (q := 35) rfl rfl rfl ?_
      refine z_if_ne (q := 38) rfl rfl (fun h35 => ?_) (fun h35 => ?_)
      · refine z_iload_n (q := 46) rfl rfl rfl ?_
        refine z_iconst (q := 47) (v := 1) rfl rfl rfl ?_
        refine z_ic_ne (q := 50) rfl rfl (fun h47 => ?_) (fun h47 => ?_)
        · refine z_iload_n (q := 58) rfl rfl rfl ?_
          refine z_iconst (q := 59) (v := 2) rfl rfl rfl ?_
          refine z_ic_ne (q := 62) rfl rfl (fun h59 => ?_) (fun h59 => ?_)
          · exact absurd h59 (by decide)
          · refine z_aload_n (q := 63) rfl rfl rfl ?_
            refine z_getI (q := 66) rfl rfl rfl (Mo_k w) ?_
            rw [moF_g17]
            refine z_goto rfl ?_
            refine z_ireti rfl rfl ?_
            exact qz_r (yR_17 rz) ⟨FF, AA, rfl, fun k hk => wk k (by omega), fun j hj => wj j (by omega)⟩
        · exact absurd h47 (by decide)
      · exact absurd h35 (by decide)
    · exact absurd h17 (by decide)
theorem q_Mo_forward3 {sc : Option (Nat × Nat × (Nat → Int32))} {sa : Nat → Nat} {d : Nat} {M : mz_M} {z : Nat × Nat} {m : Nat} (w : g_Mo M.2.2 m) {F : Nat → Int32} {A : Nat → Nat → Int32} {c : Nat} {l t : Int32} (hC : c ≤ 12) (h0 : 0 < c) (hs : A 1 0 = nI c) (k2 : A 1 1 = l) (ht : A 1 2 = t) {ln : Nat} (k7 : A 1 5 = nI ln) (k5 : 0 < ln) (k6 : ln < 1000) {P : Nat → Int32} (hP : ∀ i, i < c → A 1 (7 + i) = P i) {mm : Nat} (hm1 : 1 ≤ mm) (hm : mm ≤ 4) {fr tk ch co : Nat → Int32} {qc : sQ}  : zi sc sa (d + 9) 285 [.ref m, .int (nI mm), .int 3] (moF M m F A) z (mR M m F A ((yG (nI c) l t c P 1000000 (yT (nI c) l t c (nI 0) 0 0 ((3, 0, 0, 0, fr, tk, ch, va_up co 0 0, bgQ (fuR (1 <<< (nI mm &&& 31) - 1) c 0 0) qc) : yS))).2.1)) := by
  refine zin ym_Mo_forward [.ref m, .int (nI mm), .int 3] rfl rfl rfl rfl ?_
  refine z_aload_n (q := 1) rfl rfl rfl ?_
  refine z_iload_n (q := 2) rfl rfl rfl ?_
  refine z_cv1i (q := 5) rfl rfl rfl (Mo_k w) (s_Mo_areColours w k7 k5 k6 hm1 hm) ?_
  refine z_if_eq (q := 8) rfl rfl (fun h5 => ?_) (fun h5 => ?_)
  · exact absurd h5 (by decide)
  · refine z_iload_n (q := 9) rfl rfl rfl ?_
    refine z_i2l (q := 10) rfl rfl ?_
    refine z_lconst (q := 11) (v := 0) rfl rfl rfl ?_
    refine z_ldc2 (q := 14) (v := 3) rfl rfl rfl ?_
    refine z_cs3i (q := 17) rfl rfl rfl (t_Mo_inY (a := 3) (hi := 3) (by decide)) ?_
    refine z_if_ne (q := 20) rfl rfl (fun h17 => ?_) (fun h17 => ?_)
    · refine z_aload_n (q := 24) rfl rfl rfl ?_
      refine z_aload_n (q := 25) rfl rfl rfl ?_
      refine z_getR (q := 28) rfl rfl rfl (Mo_k w) (Mo_r0 w) ?_
      refine z_iconst (q := 29) (v := 1) rfl rfl rfl ?_
      refine z_iald (q := 30) rfl rfl (Mo_a0 w) (vp_in_nI (n := 1) (by omega) (by omega)) ?_
      rw [moF_a0]
      try rw [nI_clamp (by omega)]
      rw [show A 1 (1 : Int32).toNatClampNeg = l from k2]
      refine z_iload_n (q := 31) rfl rfl rfl ?_
      refine z_cv2qv (q := 34) rfl rfl rfl (Mo_k w) (d_Mo_looksAhead (l := l) (fr := fr) (tk := tk) (ch := ch) (co := co) (qc := qc) w hC h0 hs ht hP hm) (fun M9 h9 => ?_)
      obtain ⟨FF, AA, rfl, wk, wj, rz, r28, hend⟩ := h9
      refine z_iload_n (q := 35) rfl rfl rfl ?_
      refine z_if_ne (q := 38) rfl rfl (fun h35 => ?_) (fun h35 => ?_)
      · refine z_iload_n (q := 46) rfl rfl rfl ?_
        refine z_iconst (q := 47) (v := 1) rfl rfl rfl ?_
        refine z_ic_ne (q := 50) rfl rfl (fun h47 => ?_) (fun h47 => ?_)
        · refine z_iload_n (q := 58) rfl rfl rfl ?_
          refine z_iconst (q := 59) (v := 2) rfl rfl rfl ?_
          refine z_ic_ne (q := 62) rfl rfl (fun h59 => ?_) (fun h59 => ?_)
          · refine z_aload_n (q := 70) rfl rfl rfl ?_
            refine z_getI (q := 73) rfl rfl rfl (Mo_k w) ?_
            rw [moF_g29]
            refine z_ireti rfl rfl ?_
            exact qz_r (yR_29 rz) ⟨FF, AA, rfl, fun k hk => wk k (by omega), fun j hj => wj j (by omega)⟩
          · exact absurd h59 (by decide)
        · exact absurd h47 (by decide)
      · exact absurd h35 (by decide)
    · exact absurd h17 (by decide)
theorem n_Mo_forward {sc : Option (Nat × Nat × (Nat → Int32))} {sa : Nat → Nat} {d : Nat} {M : mz_M} {z : Nat × Nat} {m : Nat} (w : g_Mo M.2.2 m) {F : Nat → Int32} {A : Nat → Nat → Int32} {c : Nat} {l t : Int32} (hC : c ≤ 12) (h0 : 0 < c) (hs : A 1 0 = nI c) (k2 : A 1 1 = l) (ht : A 1 2 = t) {ln : Nat} (k7 : A 1 5 = nI ln) (k5 : 0 < ln) (k6 : ln < 1000) {P : Nat → Int32} (hP : ∀ i, i < c → A 1 (7 + i) = P i) {a b : Int32} (ha : ¬ ((1 : Int32) ≤ a ∧ a ≤ 4)) : zi sc sa (d + 8) 285 [.ref m, .int a, .int b] (moF M m F A) z (mR M m F A (-2)) := by
  refine zin ym_Mo_forward [.ref m, .int a, .int b] rfl rfl rfl rfl ?_
  refine z_aload_n (q := 1) rfl rfl rfl ?_
  refine z_iload_n (q := 2) rfl rfl rfl ?_
  refine z_cv1i (q := 5) rfl rfl rfl (Mo_k w) (n_Mo_areColours w k7 k5 k6 ha) ?_
  refine z_if_eq (q := 8) rfl rfl (fun h5 => ?_) (fun h5 => ?_)
  · refine z_bipush (q := 22) (v := -2) rfl rfl rfl ?_
    refine z_ireti rfl rfl ?_
    exact qz_r rfl ⟨F, A, rfl, mPe_r⟩
  · exact absurd h5 (by decide)
theorem n_Mo_forward1 {sc : Option (Nat × Nat × (Nat → Int32))} {sa : Nat → Nat} {d : Nat} {M : mz_M} {z : Nat × Nat} {m : Nat} (w : g_Mo M.2.2 m) {F : Nat → Int32} {A : Nat → Nat → Int32} {c : Nat} {l t : Int32} (hC : c ≤ 12) (h0 : 0 < c) (hs : A 1 0 = nI c) (k2 : A 1 1 = l) (ht : A 1 2 = t) {ln : Nat} (k7 : A 1 5 = nI ln) (k5 : 0 < ln) (k6 : ln < 1000) {P : Nat → Int32} (hP : ∀ i, i < c → A 1 (7 + i) = P i) {mm : Nat} (hm1 : 1 ≤ mm) (hm : mm ≤ 4) {b : Int32} (hb : ¬ (¬ b < 0 ∧ b ≤ 3)) : zi sc sa (d + 8) 285 [.ref m, .int (nI mm), .int b] (moF M m F A) z (mR M m F A (-2)) := by
  refine zin ym_Mo_forward [.ref m, .int (nI mm), .int b] rfl rfl rfl rfl ?_
  refine z_aload_n (q := 1) rfl rfl rfl ?_
  refine z_iload_n (q := 2) rfl rfl rfl ?_
  refine z_cv1i (q := 5) rfl rfl rfl (Mo_k w) (s_Mo_areColours w k7 k5 k6 hm1 hm) ?_
  refine z_if_eq (q := 8) rfl rfl (fun h5 => ?_) (fun h5 => ?_)
  · exact absurd h5 (by decide)
  · refine z_iload_n (q := 9) rfl rfl rfl ?_
    refine z_i2l (q := 10) rfl rfl ?_
    refine z_lconst (q := 11) (v := 0) rfl rfl rfl ?_
    refine z_ldc2 (q := 14) (v := 3) rfl rfl rfl ?_
    refine z_cs3i (q := 17) rfl rfl rfl (t_Mo_inN (hi := 3) hb) ?_
    refine z_if_ne (q := 20) rfl rfl (fun h17 => ?_) (fun h17 => ?_)
    · exact absurd h17 (by decide)
    · refine z_bipush (q := 22) (v := -2) rfl rfl rfl ?_
      refine z_ireti rfl rfl ?_
      exact qz_r rfl ⟨F, A, rfl, mPe_r⟩
theorem q_Mo_forwardBy {sc : Option (Nat × Nat × (Nat → Int32))} {sa : Nat → Nat} {d : Nat} {M : mz_M} {z : Nat × Nat} {m : Nat} (w : g_Mo M.2.2 m) {F : Nat → Int32} {A : Nat → Nat → Int32} {c : Nat} {l t : Int32} (hC : c ≤ 12) (h0 : 0 < c) (hs : A 1 0 = nI c) (k2 : A 1 1 = l) (ht : A 1 2 = t) {ln : Nat} (k7 : A 1 5 = nI ln) (k5 : 0 < ln) (k6 : ln < 1000) {P : Nat → Int32} (hP : ∀ i, i < c → A 1 (7 + i) = P i) {mm : Nat} (hm1 : 1 ≤ mm) (hm : mm ≤ 4) {fr tk ch co : Nat → Int32} {qc : sQ} {a : Int32} (ha : ¬ a < 0 ∧ a ≤ 2)  : zi sc sa (d + 9) 286 [.ref m, .int a, .int (nI mm)] (moF M m F A) z (mR M m F A ((yG (nI c) a t c P 1000000 (yT (nI c) a t c (nI 0) 0 0 ((3, 0, 0, 0, fr, tk, ch, va_up co 0 0, bgQ (fuR (1 <<< (nI mm &&& 31) - 1) c 0 0) qc) : yS))).2.2.2.2.2.2.2.2.2.2.2.2.2.2)) := by
  refine zin ym_Mo_forwardBy [.ref m, .int a, .int (nI mm)] rfl rfl rfl rfl ?_
  refine z_aload_n (q := 1) rfl rfl rfl ?_
  refine z_iload_n (q := 2) rfl rfl rfl ?_
  refine z_cv1i (q := 5) rfl rfl rfl (Mo_k w) (s_Mo_areColours w k7 k5 k6 hm1 hm) ?_
  refine z_if_eq (q := 8) rfl rfl (fun h5 => ?_) (fun h5 => ?_)
  · exact absurd h5 (by decide)
  · refine z_iload_n (q := 9) rfl rfl rfl ?_
    refine z_i2l (q := 10) rfl rfl ?_
    refine z_lconst (q := 11) (v := 0) rfl rfl rfl ?_
    refine z_ldc2 (q := 14) (v := 2) rfl rfl rfl ?_
    refine z_cs3i (q := 17) rfl rfl rfl (t_Mo_inY (hi := 2) ha) ?_
    refine z_if_ne (q := 20) rfl rfl (fun h17 => ?_) (fun h17 => ?_)
    · refine z_aload_n (q := 24) rfl rfl rfl ?_
      refine z_iload_n (q := 25) rfl rfl rfl ?_
      refine z_iload_n (q := 26) rfl rfl rfl ?_
      refine z_cv2qv (q := 29) rfl rfl rfl (Mo_k w) (d_Mo_looksAhead (l := a) (fr := fr) (tk := tk) (ch := ch) (co := co) (qc := qc) w hC h0 hs ht hP hm) (fun M9 h9 => ?_)
      obtain ⟨FF, AA, rfl, wk, wj, rz, r28, hend⟩ := h9
      refine z_aload_n (q := 30) rfl rfl rfl ?_
      refine z_getI (q := 33) rfl rfl rfl (Mo_k w) ?_
      rw [moF_g17]
      refine z_ireti rfl rfl ?_
      exact qz_r (yR_17 rz) ⟨FF, AA, rfl, fun k hk => wk k (by omega), fun j hj => wj j (by omega)⟩
    · exact absurd h17 (by decide)
theorem n_Mo_forwardBy {sc : Option (Nat × Nat × (Nat → Int32))} {sa : Nat → Nat} {d : Nat} {M : mz_M} {z : Nat × Nat} {m : Nat} (w : g_Mo M.2.2 m) {F : Nat → Int32} {A : Nat → Nat → Int32} {c : Nat} {l t : Int32} (hC : c ≤ 12) (h0 : 0 < c) (hs : A 1 0 = nI c) (k2 : A 1 1 = l) (ht : A 1 2 = t) {ln : Nat} (k7 : A 1 5 = nI ln) (k5 : 0 < ln) (k6 : ln < 1000) {P : Nat → Int32} (hP : ∀ i, i < c → A 1 (7 + i) = P i) {a b : Int32} (hb : ¬ ((1 : Int32) ≤ b ∧ b ≤ 4)) : zi sc sa (d + 8) 286 [.ref m, .int a, .int b] (moF M m F A) z (mR M m F A (-2)) := by
  refine zin ym_Mo_forwardBy [.ref m, .int a, .int b] rfl rfl rfl rfl ?_
  refine z_aload_n (q := 1) rfl rfl rfl ?_
  refine z_iload_n (q := 2) rfl rfl rfl ?_
  refine z_cv1i (q := 5) rfl rfl rfl (Mo_k w) (n_Mo_areColours w k7 k5 k6 hb) ?_
  refine z_if_eq (q := 8) rfl rfl (fun h5 => ?_) (fun h5 => ?_)
  · refine z_bipush (q := 22) (v := -2) rfl rfl rfl ?_
    refine z_ireti rfl rfl ?_
    exact qz_r rfl ⟨F, A, rfl, mPe_r⟩
  · exact absurd h5 (by decide)
theorem n_Mo_forwardBy1 {sc : Option (Nat × Nat × (Nat → Int32))} {sa : Nat → Nat} {d : Nat} {M : mz_M} {z : Nat × Nat} {m : Nat} (w : g_Mo M.2.2 m) {F : Nat → Int32} {A : Nat → Nat → Int32} {c : Nat} {l t : Int32} (hC : c ≤ 12) (h0 : 0 < c) (hs : A 1 0 = nI c) (k2 : A 1 1 = l) (ht : A 1 2 = t) {ln : Nat} (k7 : A 1 5 = nI ln) (k5 : 0 < ln) (k6 : ln < 1000) {P : Nat → Int32} (hP : ∀ i, i < c → A 1 (7 + i) = P i) {mm : Nat} (hm1 : 1 ≤ mm) (hm : mm ≤ 4) {a : Int32} (ha : ¬ (¬ a < 0 ∧ a ≤ 2)) : zi sc sa (d + 8) 286 [.ref m, .int a, .int (nI mm)] (moF M m F A) z (mR M m F A (-2)) := by
  refine zin ym_Mo_forwardBy [.ref m, .int a, .int (nI mm)] rfl rfl rfl rfl ?_
  refine z_aload_n (q := 1) rfl rfl rfl ?_
  refine z_iload_n (q := 2) rfl rfl rfl ?_
  refine z_cv1i (q := 5) rfl rfl rfl (Mo_k w) (s_Mo_areColours w k7 k5 k6 hm1 hm) ?_
  refine z_if_eq (q := 8) rfl rfl (fun h5 => ?_) (fun h5 => ?_)
  · exact absurd h5 (by decide)
  · refine z_iload_n (q := 9) rfl rfl rfl ?_
    refine z_i2l (q := 10) rfl rfl ?_
    refine z_lconst (q := 11) (v := 0) rfl rfl rfl ?_
    refine z_ldc2 (q := 14) (v := 2) rfl rfl rfl ?_
    refine z_cs3i (q := 17) rfl rfl rfl (t_Mo_inN (hi := 2) ha) ?_
    refine z_if_ne (q := 20) rfl rfl (fun h17 => ?_) (fun h17 => ?_)
    · exact absurd h17 (by decide)
    · refine z_bipush (q := 22) (v := -2) rfl rfl rfl ?_
      refine z_ireti rfl rfl ?_
      exact qz_r rfl ⟨F, A, rfl, mPe_r⟩
theorem q_Mo_hue {sc : Option (Nat × Nat × (Nat → Int32))} {sa : Nat → Nat} {d : Nat} {M : mz_M} {z : Nat × Nat} {m : Nat} (w : g_Mo M.2.2 m) {F : Nat → Int32} {A : Nat → Nat → Int32} {c : Nat} {l t : Int32} (hC : c ≤ 12) (h0 : 0 < c) (hs : A 1 0 = nI c) (k2 : A 1 1 = l) (ht : A 1 2 = t) {ln : Nat} (k7 : A 1 5 = nI ln) (k5 : 0 < ln) (k6 : ln < 1000) {P : Nat → Int32} (hP : ∀ i, i < c → A 1 (7 + i) = P i) {mm : Nat} (hm1 : 1 ≤ mm) (hm : mm ≤ 4) {fr tk ch co : Nat → Int32} {qc : sQ} {i : Nat} (hi : i < c) (hb : (yG (nI c) l t c P 1000000 (yT (nI c) l t c (nI 0) 0 0 ((3, 0, 0, 0, fr, tk, ch, va_up co 0 0, bgQ (fuR (1 <<< (nI mm &&& 31) - 1) c 0 0) qc) : yS))).2.2.2.2.2.2.2.2.1 ≤ 200) : zi sc sa (d + 9) 287 [.ref m, .int (nI mm), .int (nI i)] (moF M m F A) z (mR M m F A (if (yG (nI c) l t c P 1000000 (yT (nI c) l t c (nI 0) 0 0 ((3, 0, 0, 0, fr, tk, ch, va_up co 0 0, bgQ (fuR (1 <<< (nI mm &&& 31) - 1) c 0 0) qc) : yS))).1 = 1 then hueI (nmI ((yG (nI c) l t c P 1000000 (yT (nI c) l t c (nI 0) 0 0 ((3, 0, 0, 0, fr, tk, ch, va_up co 0 0, bgQ (fuR (1 <<< (nI mm &&& 31) - 1) c 0 0) qc) : yS))).2.2.2.2.2.2.2.2.2.1 (yG (nI c) l t c P 1000000 (yT (nI c) l t c (nI 0) 0 0 ((3, 0, 0, 0, fr, tk, ch, va_up co 0 0, bgQ (fuR (1 <<< (nI mm &&& 31) - 1) c 0 0) qc) : yS))).2.2.1.toNatClampNeg) (nI i)) else 0)) := by
  refine zin ym_Mo_hue [.ref m, .int (nI mm), .int (nI i)] rfl rfl rfl rfl ?_
  refine z_aload_n (q := 1) rfl rfl rfl ?_
  refine z_iload_n (q := 2) rfl rfl rfl ?_
  refine z_cv1i (q := 5) rfl rfl rfl (Mo_k w) (s_Mo_areColours w k7 k5 k6 hm1 hm) ?_
  refine z_if_eq (q := 8) rfl rfl (fun h5 => ?_) (fun h5 => ?_)
  · exact absurd h5 (by decide)
  · refine z_aload_n (q := 9) rfl rfl rfl ?_
    refine z_iload_n (q := 10) rfl rfl rfl ?_
    refine z_cv1i (q := 13) rfl rfl rfl (Mo_k w) (t_cell1 w hs h0 hC hi) ?_
    refine z_if_ne (q := 16) rfl rfl (fun h13 => ?_) (fun h13 => ?_)
    · refine z_aload_n (q := 20) rfl rfl rfl ?_
      refine z_aload_n (q := 21) rfl rfl rfl ?_
      refine z_getR (q := 24) rfl rfl rfl (Mo_k w) (Mo_r0 w) ?_
      refine z_iconst (q := 25) (v := 1) rfl rfl rfl ?_
      refine z_iald (q := 26) rfl rfl (Mo_a0 w) (vp_in_nI (n := 1) (by omega) (by omega)) ?_
      rw [moF_a0]
      try rw [nI_clamp (by omega)]
      rw [show A 1 (1 : Int32).toNatClampNeg = l from k2]
      refine z_iload_n (q := 27) rfl rfl rfl ?_
      refine z_cv2qv (q := 30) rfl rfl rfl (Mo_k w) (d_Mo_looksAhead (l := l) (fr := fr) (tk := tk) (ch := ch) (co := co) (qc := qc) w hC h0 hs ht hP hm) (fun M9 h9 => ?_)
      obtain ⟨FF, AA, rfl, wk, wj, rz, r28, hend⟩ := h9
      refine z_aload_n (q := 31) rfl rfl rfl ?_
      refine z_getI (q := 34) rfl rfl rfl (Mo_k w) ?_
      rw [moF_g30]
      rw [yR_30 rz hend]
      refine z_iconst (q := 35) (v := 1) rfl rfl rfl ?_
      refine z_ic_ne (q := 38) rfl rfl (fun h35 => ?_) (fun h35 => ?_)
      · refine z_iconst (q := 48) (v := 0) rfl rfl rfl ?_
        refine z_ireti rfl rfl ?_
        first
          | (have hzz : (yG (nI c) l t c P 1000000 (yT (nI c) l t c (nI 0) 0 0 ((3, 0, 0, 0, fr, tk, ch, va_up co 0 0, bgQ (fuR (1 <<< (nI mm &&& 31) - 1) c 0 0) qc) : yS))).1 = 1 := h35
             exact qz_t hzz (yR_hue rz hzz hb hi) ⟨FF, AA, rfl, fun k hk => wk k (by omega), fun j hj => wj j (by omega)⟩)
          | exact qz_f h35 ⟨FF, AA, rfl, fun k hk => wk k (by omega), fun j hj => wj j (by omega)⟩
          | fail "none"
      · refine z_aload_n (q := 39) rfl rfl rfl ?_
        refine z_getR (q := 42) rfl rfl rfl (Mo_k w) (Mo_r36 w) ?_
        refine z_iload_n (q := 43) rfl rfl rfl ?_
        refine z_iald (q := 44) rfl rfl (Mo_a36 w) (by first | assumption | exact vp_in_nI (by omega) (by omega)) ?_
        rw [moF_a36]
        try rw [nI_clamp (by omega)]
        refine z_goto rfl ?_
        refine z_ireti rfl rfl ?_
        first
          | (have hzz : (yG (nI c) l t c P 1000000 (yT (nI c) l t c (nI 0) 0 0 ((3, 0, 0, 0, fr, tk, ch, va_up co 0 0, bgQ (fuR (1 <<< (nI mm &&& 31) - 1) c 0 0) qc) : yS))).1 = 1 := h35
             exact qz_t hzz (yR_hue rz hzz hb hi) ⟨FF, AA, rfl, fun k hk => wk k (by omega), fun j hj => wj j (by omega)⟩)
          | exact qz_f h35 ⟨FF, AA, rfl, fun k hk => wk k (by omega), fun j hj => wj j (by omega)⟩
          | fail "none"
    · exact absurd h13 (by decide)
theorem n_Mo_hue {sc : Option (Nat × Nat × (Nat → Int32))} {sa : Nat → Nat} {d : Nat} {M : mz_M} {z : Nat × Nat} {m : Nat} (w : g_Mo M.2.2 m) {F : Nat → Int32} {A : Nat → Nat → Int32} {c : Nat} {l t : Int32} (hC : c ≤ 12) (h0 : 0 < c) (hs : A 1 0 = nI c) (k2 : A 1 1 = l) (ht : A 1 2 = t) {ln : Nat} (k7 : A 1 5 = nI ln) (k5 : 0 < ln) (k6 : ln < 1000) {P : Nat → Int32} (hP : ∀ i, i < c → A 1 (7 + i) = P i) {a b : Int32} (ha : ¬ ((1 : Int32) ≤ a ∧ a ≤ 4)) : zi sc sa (d + 8) 287 [.ref m, .int a, .int b] (moF M m F A) z (mR M m F A (-2)) := by
  refine zin ym_Mo_hue [.ref m, .int a, .int b] rfl rfl rfl rfl ?_
  refine z_aload_n (q := 1) rfl rfl rfl ?_
  refine z_iload_n (q := 2) rfl rfl rfl ?_
  refine z_cv1i (q := 5) rfl rfl rfl (Mo_k w) (n_Mo_areColours w k7 k5 k6 ha) ?_
  refine z_if_eq (q := 8) rfl rfl (fun h5 => ?_) (fun h5 => ?_)
  · refine z_bipush (q := 18) (v := -2) rfl rfl rfl ?_
    refine z_ireti rfl rfl ?_
    exact qz_r rfl ⟨F, A, rfl, mPe_r⟩
  · exact absurd h5 (by decide)
theorem n_Mo_hue1 {sc : Option (Nat × Nat × (Nat → Int32))} {sa : Nat → Nat} {d : Nat} {M : mz_M} {z : Nat × Nat} {m : Nat} (w : g_Mo M.2.2 m) {F : Nat → Int32} {A : Nat → Nat → Int32} {c : Nat} {l t : Int32} (hC : c ≤ 12) (h0 : 0 < c) (hs : A 1 0 = nI c) (k2 : A 1 1 = l) (ht : A 1 2 = t) {ln : Nat} (k7 : A 1 5 = nI ln) (k5 : 0 < ln) (k6 : ln < 1000) {P : Nat → Int32} (hP : ∀ i, i < c → A 1 (7 + i) = P i) {mm : Nat} (hm1 : 1 ≤ mm) (hm : mm ≤ 4) {b : Int32} (hb : ¬ vI c b) : zi sc sa (d + 8) 287 [.ref m, .int (nI mm), .int b] (moF M m F A) z (mR M m F A (-2)) := by
  refine zin ym_Mo_hue [.ref m, .int (nI mm), .int b] rfl rfl rfl rfl ?_
  refine z_aload_n (q := 1) rfl rfl rfl ?_
  refine z_iload_n (q := 2) rfl rfl rfl ?_
  refine z_cv1i (q := 5) rfl rfl rfl (Mo_k w) (s_Mo_areColours w k7 k5 k6 hm1 hm) ?_
  refine z_if_eq (q := 8) rfl rfl (fun h5 => ?_) (fun h5 => ?_)
  · exact absurd h5 (by decide)
  · refine z_aload_n (q := 9) rfl rfl rfl ?_
    refine z_iload_n (q := 10) rfl rfl rfl ?_
    refine z_cv1i (q := 13) rfl rfl rfl (Mo_k w) (t_cell0 w hs h0 hC hb) ?_
    refine z_if_ne (q := 16) rfl rfl (fun h13 => ?_) (fun h13 => ?_)
    · exact absurd h13 (by decide)
    · refine z_bipush (q := 18) (v := -2) rfl rfl rfl ?_
      refine z_ireti rfl rfl ?_
      exact qz_r rfl ⟨F, A, rfl, mPe_r⟩
