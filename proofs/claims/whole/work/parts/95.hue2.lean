theorem yR_hu2 {c mm : Nat} {x : yS} {F : Nat → Int32} {A : Nat → Nat → Int32} (h : yR c mm x F A) (h1 : x.1 = 1) (hb : x.2.2.2.2.2.2.2.2.1 ≤ 200) {i : Nat} (hi : i < c) : A 20 i = hu2 (nmI (x.2.2.2.2.2.2.2.2.2.1 x.2.2.1.toNatClampNeg) (nI i)) := by
  obtain ⟨oc, tb, lv, g, fr, tk, ch, co, q⟩ := x
  obtain ⟨u, u1, u2, u3⟩ := h.2.2.2.2 h1
  obtain ⟨e, e1, e2, e3⟩ := u3 i hi
  have hb' : q.1 ≤ 200 := hb
  have u1' : lv = nI u := u1
  show A 20 i = hu2 (nmI (q.2.1 lv.toNatClampNeg) (nI i))
  rw [u1', nI_clamp (by omega), e3, hu2_b e e1]
  exact e2
theorem q_Mo_hue2 {sc : Option (Nat × Nat × (Nat → Int32))} {sa : Nat → Nat} {d : Nat} {M : mz_M} {z : Nat × Nat} {m : Nat} (w : g_Mo M.2.2 m) {F : Nat → Int32} {A : Nat → Nat → Int32} {c : Nat} {l t : Int32} (hC : c ≤ 12) (h0 : 0 < c) (hs : A 1 0 = nI c) (k2 : A 1 1 = l) (ht : A 1 2 = t) {ln : Nat} (k7 : A 1 5 = nI ln) (k5 : 0 < ln) (k6 : ln < 1000) {P : Nat → Int32} (hP : ∀ i, i < c → A 1 (7 + i) = P i) {mm : Nat} (hm1 : 1 ≤ mm) (hm : mm ≤ 4) {fr tk ch co : Nat → Int32} {qc : sQ} {i : Nat} (hi : i < c) (hb : (yG (nI c) l t c P 1000000 (yT (nI c) l t c (nI 0) 0 0 ((3, 0, 0, 0, fr, tk, ch, va_up co 0 0, bgQ (fuR (1 <<< (nI mm &&& 31) - 1) c 0 0) qc) : yS))).2.2.2.2.2.2.2.2.1 ≤ 200) : zi sc sa (d + 9) 287 [.ref m, .int (nI mm), .int (nI i)] (moF M m F A) z (mR M m F A (hu2 (if (yG (nI c) l t c P 1000000 (yT (nI c) l t c (nI 0) 0 0 ((3, 0, 0, 0, fr, tk, ch, va_up co 0 0, bgQ (fuR (1 <<< (nI mm &&& 31) - 1) c 0 0) qc) : yS))).1 = 1 then nmI ((yG (nI c) l t c P 1000000 (yT (nI c) l t c (nI 0) 0 0 ((3, 0, 0, 0, fr, tk, ch, va_up co 0 0, bgQ (fuR (1 <<< (nI mm &&& 31) - 1) c 0 0) qc) : yS))).2.2.2.2.2.2.2.2.2.1 (yG (nI c) l t c P 1000000 (yT (nI c) l t c (nI 0) 0 0 ((3, 0, 0, 0, fr, tk, ch, va_up co 0 0, bgQ (fuR (1 <<< (nI mm &&& 31) - 1) c 0 0) qc) : yS))).2.2.1.toNatClampNeg) (nI i) else 0))) := by
  refine zin ym_Mo_hue [.ref m, .int (nI mm), .int (nI i)] rfl rfl rfl rfl ?_
  refine z_aload_n (q := 1) rfl rfl rfl ?_
  refine z_iload_n (q := 2) rfl rfl rfl ?_
  refine z_cv1i (q := 5) rfl rfl rfl (Mo_k w) (s_Mo_areColours w k7 k5 k6 hm1 hm) ?_
  refine z_if_eq (q := 8) rfl rfl (fun h5 => ?_) (fun h5 => ?_)
  · exact absurd h5 (by decide)
  · refine z_aload_n (q := 9) rfl rfl rfl ?_
    refine z_iload_n (q := 10) rfl rfl rfl ?_
    refine z_cv1i (q := 13) rfl rfl rfl (Mo_k w) (t_cell1 w hs h0 hC hi) ?_
    refine z_if_ne (q := 16) rfl rfl (fun h13 => ?_) (fun h13 => ?_)
    · refine z_aload_n (q := 20) rfl rfl rfl ?_
      refine z_aload_n (q := 21) rfl rfl rfl ?_
      refine z_getR (q := 24) rfl rfl rfl (Mo_k w) (Mo_r0 w) ?_
      refine z_iconst (q := 25) (v := 1) rfl rfl rfl ?_
      refine z_iald (q := 26) rfl rfl (Mo_a0 w) (vp_in_nI (n := 1) (by omega) (by omega)) ?_
      rw [moF_a0]
      try rw [nI_clamp (by omega)]
      rw [show A 1 (1 : Int32).toNatClampNeg = l from k2]
      refine z_iload_n (q := 27) rfl rfl rfl ?_
      refine z_cv2qv (q := 30) rfl rfl rfl (Mo_k w) (d_Mo_looksAhead (l := l) (fr := fr) (tk := tk) (ch := ch) (co := co) (qc := qc) w hC h0 hs ht hP hm) (fun M9 h9 => ?_)
      obtain ⟨FF, AA, rfl, wk, wj, rz, r28, hend⟩ := h9
      refine z_aload_n (q := 31) rfl rfl rfl ?_
      refine z_getI (q := 34) rfl rfl rfl (Mo_k w) ?_
      rw [moF_g30]
      rw [yR_30 rz hend]
      refine z_iconst (q := 35) (v := 1) rfl rfl rfl ?_
      refine z_ic_ne (q := 38) rfl rfl (fun h35 => ?_) (fun h35 => ?_)
      · refine z_iconst (q := 48) (v := 0) rfl rfl rfl ?_
        refine z_ireti rfl rfl ?_
        first
          | (have hzz : (yG (nI c) l t c P 1000000 (yT (nI c) l t c (nI 0) 0 0 ((3, 0, 0, 0, fr, tk, ch, va_up co 0 0, bgQ (fuR (1 <<< (nI mm &&& 31) - 1) c 0 0) qc) : yS))).1 = 1 := h35
             rw [if_pos hzz]
             exact qz_r (yR_hu2 rz hzz hb hi) ⟨FF, AA, rfl, fun k hk => wk k (by omega), fun j hj => wj j (by omega)⟩)
          | (rw [if_neg h35]
             exact qz_r rfl ⟨FF, AA, rfl, fun k hk => wk k (by omega), fun j hj => wj j (by omega)⟩)
          | fail "none"
      · refine z_aload_n (q := 39) rfl rfl rfl ?_
        refine z_getR (q := 42) rfl rfl rfl (Mo_k w) (Mo_r36 w) ?_
        refine z_iload_n (q := 43) rfl rfl rfl ?_
        refine z_iald (q := 44) rfl rfl (Mo_a36 w) (by first | assumption | exact vp_in_nI (by omega) (by omega)) ?_
        rw [moF_a36]
        try rw [nI_clamp (by omega)]
        refine z_goto rfl ?_
        refine z_ireti rfl rfl ?_
        first
          | (have hzz : (yG (nI c) l t c P 1000000 (yT (nI c) l t c (nI 0) 0 0 ((3, 0, 0, 0, fr, tk, ch, va_up co 0 0, bgQ (fuR (1 <<< (nI mm &&& 31) - 1) c 0 0) qc) : yS))).1 = 1 := h35
             rw [if_pos hzz]
             exact qz_r (yR_hu2 rz hzz hb hi) ⟨FF, AA, rfl, fun k hk => wk k (by omega), fun j hj => wj j (by omega)⟩)
          | (rw [if_neg h35]
             exact qz_r rfl ⟨FF, AA, rfl, fun k hk => wk k (by omega), fun j hj => wj j (by omega)⟩)
          | fail "none"
    · exact absurd h13 (by decide)
