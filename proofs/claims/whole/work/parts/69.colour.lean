theorem in4 {v : Nat} (h1 : 1 ≤ v) (h : v ≤ 4) : (1 : Int32) ≤ nI v ∧ nI v ≤ 4 := ⟨by rw [show (1 : Int32) = nI 1 from rfl]; exact nI_le h1 (by omega), by rw [show (4 : Int32) = nI 4 from rfl]; exact nI_le h (by omega)⟩
theorem s_Mo_areColours {sc : Option (Nat × Nat × (Nat → Int32))} {sa : Nat → Nat} {d : Nat} {M : mz_M} {z : Nat × Nat} {m : Nat} (w : g_Mo M.2.2 m) {F : Nat → Int32} {A : Nat → Nat → Int32} {ln : Nat} (k7 : A 1 5 = nI ln) (k5 : 0 < ln) (k6 : ln < 1000) {mm : Nat} (hm1 : 1 ≤ mm) (hm : mm ≤ 4) : zx sc sa (d + 2) 274 [.ref m, .int (nI mm)] (moF M m F A) z z (some (.int 1)) (moF M m F A) := by
  refine zxin ym_Mo_areColours [.ref m, .int (nI mm)] rfl rfl rfl rfl ?_
  refine z_aload_n (q := 1) rfl rfl rfl ?_
  refine z_cv0i (q := 4) rfl rfl rfl (Mo_k w) (s_Mo_is w k7 k5 k6) ?_
  refine z_if_eq (q := 7) rfl rfl (fun h4 => ?_) (fun h4 => ?_)
  · exact absurd h4 (by decide)
  · refine z_iload_n (q := 8) rfl rfl rfl ?_
    refine z_i2l (q := 9) rfl rfl ?_
    refine z_lconst (q := 10) (v := 1) rfl rfl rfl ?_
    refine z_ldc2 (q := 13) (v := 4) rfl rfl rfl ?_
    refine z_cs3i (q := 16) rfl rfl rfl (t_Mo_in1 (lo := 1) (hi := 4) (in4 hm1 hm)) ?_
    refine z_if_eq (q := 19) rfl rfl (fun h16 => ?_) (fun h16 => ?_)
    · exact absurd h16 (by decide)
    · refine z_iconst (q := 20) (v := 1) rfl rfl rfl ?_
      refine z_goto rfl ?_
      refine z_iretz rfl rfl (rfl) ?_
      exact ⟨rfl, rfl⟩
theorem n_Mo_areColours {sc : Option (Nat × Nat × (Nat → Int32))} {sa : Nat → Nat} {d : Nat} {M : mz_M} {z : Nat × Nat} {m : Nat} (w : g_Mo M.2.2 m) {F : Nat → Int32} {A : Nat → Nat → Int32} {ln : Nat} (k7 : A 1 5 = nI ln) (k5 : 0 < ln) (k6 : ln < 1000) {a : Int32} (ha : ¬ ((1 : Int32) ≤ a ∧ a ≤ 4)) : zx sc sa (d + 2) 274 [.ref m, .int a] (moF M m F A) z z (some (.int 0)) (moF M m F A) := by
  refine zxin ym_Mo_areColours [.ref m, .int a] rfl rfl rfl rfl ?_
  refine z_aload_n (q := 1) rfl rfl rfl ?_
  refine z_cv0i (q := 4) rfl rfl rfl (Mo_k w) (s_Mo_is w k7 k5 k6) ?_
  refine z_if_eq (q := 7) rfl rfl (fun h4 => ?_) (fun h4 => ?_)
  · exact absurd h4 (by decide)
  · refine z_iload_n (q := 8) rfl rfl rfl ?_
    refine z_i2l (q := 9) rfl rfl ?_
    refine z_lconst (q := 10) (v := 1) rfl rfl rfl ?_
    refine z_ldc2 (q := 13) (v := 4) rfl rfl rfl ?_
    refine z_cs3i (q := 16) rfl rfl rfl (t_Mo_in0 (lo := 1) (hi := 4) ha) ?_
    refine z_if_eq (q := 19) rfl rfl (fun h16 => ?_) (fun h16 => ?_)
    · refine z_iconst (q := 24) (v := 0) rfl rfl rfl ?_
      refine z_iretz rfl rfl (rfl) ?_
      exact ⟨rfl, rfl⟩
    · exact absurd h16 (by decide)
theorem q_Mo_search0 {sc : Option (Nat × Nat × (Nat → Int32))} {sa : Nat → Nat} {d : Nat} {M : mz_M} {z : Nat × Nat} {m : Nat} (w : g_Mo M.2.2 m) {F : Nat → Int32} {A : Nat → Nat → Int32} {c : Nat} {l t : Int32} (hC : c ≤ 12) (h0 : 0 < c) (hs : A 1 0 = nI c) (k2 : A 1 1 = l) (ht : A 1 2 = t) {ln : Nat} (k7 : A 1 5 = nI ln) (k5 : 0 < ln) (k6 : ln < 1000) {P : Nat → Int32} (hP : ∀ i, i < c → A 1 (7 + i) = P i) {mm : Nat} (hm1 : 1 ≤ mm) (hm : mm ≤ 4) {fr tr : Nat → Int32} {qc : sQ}  : zi sc sa (d + 8) 275 [.ref m, .int (nI mm), .int 0] (moF M m F A) z (mR M m F A ((kG (nI c) l t c mm P 1000000 ((3, 0, 0, 0, va_up fr 0 0, va_up tr 0 0, bgQ 0 qc) : kS)).1)) := by
  refine zin ym_Mo_search [.ref m, .int (nI mm), .int 0] rfl rfl rfl rfl ?_
  refine z_aload_n (q := 1) rfl rfl rfl ?_
  refine z_iload_n (q := 2) rfl rfl rfl ?_
  refine z_cv1i (q := 5) rfl rfl rfl (Mo_k w) (s_Mo_areColours w k7 k5 k6 hm1 hm) ?_
  refine z_if_eq (q := 8) rfl rfl (fun h5 => ?_) (fun h5 => ?_)
  · exact absurd h5 (by decide)
  · refine z_iload_n (q := 9) rfl rfl rfl ?_
    refine z_i2l (q := 10) rfl rfl ?_
    refine z_lconst (q := 11) (v := 0) rfl rfl rfl ?_
    refine z_ldc2 (q := 14) (v := 3) rfl rfl rfl ?_
    refine z_cs3i (q := 17) rfl rfl rfl (t_Mo_inY (a := 0) (hi := 3) (by decide)) ?_
    refine z_if_ne (q := 20) rfl rfl (fun h17 => ?_) (fun h17 => ?_)
    · refine z_aload_n (q := 24) rfl rfl rfl ?_
      refine z_aload_n (q := 25) rfl rfl rfl ?_
      refine z_getR (q := 28) rfl rfl rfl (Mo_k w) (Mo_r0 w) ?_
      refine z_iconst (q := 29) (v := 1) rfl rfl rfl ?_
      refine z_iald (q := 30) rfl rfl (Mo_a0 w) (vp_in_nI (n := 1) (by omega) (by omega)) ?_
      rw [moF_a0]
      try rw [nI_clamp (by omega)]
      rw [show A 1 (1 : Int32).toNatClampNeg = l from k2]
      refine z_iload_n (q := 31) rfl rfl rfl ?_
      refine z_cv2qv (q := 34) rfl rfl rfl (Mo_k w) (d_Mo_searches (l := l) (fr := fr) (tr := tr) (qc := qc) w hC h0 hs ht hP hm) (fun M9 h9 => ?_)
      obtain ⟨FF, AA, rfl, wk, wj, rz, r28, hend⟩ := h9
      refine z_iload_n (q := 35) rfl rfl rfl ?_
      refine z_if_ne (q := 38) rfl rfl (fun h35 => ?_) (fun h35 => ?_)
      · exact absurd h35 (by decide)
      · refine z_aload_n (q := 39) rfl rfl rfl ?_
        refine z_getI (q := 42) rfl rfl rfl (Mo_k w) ?_
        rw [moF_g30]
        refine z_goto rfl ?_
        refine z_ireti rfl rfl ?_
        exact qz_r (by
          have g := rz.2.2.1
          rw [if_neg hend] at g
          exact g) ⟨FF, AA, rfl, fun k hk => wk k (by omega), fun j hj => wj j (by omega)⟩
    · exact absurd h17 (by decide)
theorem q_Mo_search1 {sc : Option (Nat × Nat × (Nat → Int32))} {sa : Nat → Nat} {d : Nat} {M : mz_M} {z : Nat × Nat} {m : Nat} (w : g_Mo M.2.2 m) {F : Nat → Int32} {A : Nat → Nat → Int32} {c : Nat} {l t : Int32} (hC : c ≤ 12) (h0 : 0 < c) (hs : A 1 0 = nI c) (k2 : A 1 1 = l) (ht : A 1 2 = t) {ln : Nat} (k7 : A 1 5 = nI ln) (k5 : 0 < ln) (k6 : ln < 1000) {P : Nat → Int32} (hP : ∀ i, i < c → A 1 (7 + i) = P i) {mm : Nat} (hm1 : 1 ≤ mm) (hm : mm ≤ 4) {fr tr : Nat → Int32} {qc : sQ}  : zi sc sa (d + 8) 275 [.ref m, .int (nI mm), .int 1] (moF M m F A) z (mR M m F A (nI (kG (nI c) l t c mm P 1000000 ((3, 0, 0, 0, va_up fr 0 0, va_up tr 0 0, bgQ 0 qc) : kS)).2.2.2.2.2.2.1 - 1)) := by
  refine zin ym_Mo_search [.ref m, .int (nI mm), .int 1] rfl rfl rfl rfl ?_
  refine z_aload_n (q := 1) rfl rfl rfl ?_
  refine z_iload_n (q := 2) rfl rfl rfl ?_
  refine z_cv1i (q := 5) rfl rfl rfl (Mo_k w) (s_Mo_areColours w k7 k5 k6 hm1 hm) ?_
  refine z_if_eq (q := 8) rfl rfl (fun h5 => ?_) (fun h5 => ?_)
  · exact absurd h5 (by decide)
  · refine z_iload_n (q := 9) rfl rfl rfl ?_
    refine z_i2l (q := 10) rfl rfl ?_
    refine z_lconst (q := 11) (v := 0) rfl rfl rfl ?_
    refine z_ldc2 (q := 14) (v := 3) rfl rfl rfl ?_
    refine z_cs3i (q := 17) rfl rfl rfl (t_Mo_inY (a := 1) (hi := 3) (by decide)) ?_
    refine z_if_ne (q := 20) rfl rfl (fun h17 => ?_) (fun h17 => ?_)
    · refine z_aload_n (q := 24) rfl rfl rfl ?_
      refine z_aload_n (q := 25) rfl rfl rfl ?_
      refine z_getR (q := 28) rfl rfl rfl (Mo_k w) (Mo_r0 w) ?_
      refine z_iconst (q := 29) (v := 1) rfl rfl rfl ?_
      refine z_iald (q := 30) rfl rfl (Mo_a0 w) (vp_in_nI (n := 1) (by omega) (by omega)) ?_
      rw [moF_a0]
      try rw [nI_clamp (by omega)]
      rw [show A 1 (1 : Int32).toNatClampNeg = l from k2]
      refine z_iload_n (q := 31) rfl rfl rfl ?_
      refine z_cv2qv (q := 34) rfl rfl rfl (Mo_k w) (d_Mo_searches (l := l) (fr := fr) (tr := tr) (qc := qc) w hC h0 hs ht hP hm) (fun M9 h9 => ?_)
      obtain ⟨FF, AA, rfl, wk, wj, rz, r28, hend⟩ := h9
      refine z_iload_n (q := 35) rfl rfl rfl ?_
      refine z_if_ne (q := 38) rfl rfl (fun h35 => ?_) (fun h35 => ?_)
      · refine z_iload_n (q := 46) rfl rfl rfl ?_
        refine z_iconst (q := 47) (v := 1) rfl rfl rfl ?_
        refine z_ic_ne (q := 50) rfl rfl (fun h47 => ?_) (fun h47 => ?_)
        · exact absurd h47 (by decide)
        · refine z_aload_n (q := 51) rfl rfl rfl ?_
          refine z_getI (q := 54) rfl rfl rfl (Mo_k w) ?_
          rw [moF_g28]
          refine z_goto rfl ?_
          refine z_ireti rfl rfl ?_
          exact qz_r r28 ⟨FF, AA, rfl, fun k hk => wk k (by omega), fun j hj => wj j (by omega)⟩
      · exact absurd h35 (by decide)
    · exact absurd h17 (by decide)
theorem q_Mo_search2 {sc : Option (Nat × Nat × (Nat → Int32))} {sa : Nat → Nat} {d : Nat} {M : mz_M} {z : Nat × Nat} {m : Nat} (w : g_Mo M.2.2 m) {F : Nat → Int32} {A : Nat → Nat → Int32} {c : Nat} {l t : Int32} (hC : c ≤ 12) (h0 : 0 < c) (hs : A 1 0 = nI c) (k2 : A 1 1 = l) (ht : A 1 2 = t) {ln : Nat} (k7 : A 1 5 = nI ln) (k5 : 0 < ln) (k6 : ln < 1000) {P : Nat → Int32} (hP : ∀ i, i < c → A 1 (7 + i) = P i) {mm : Nat} (hm1 : 1 ≤ mm) (hm : mm ≤ 4) {fr tr : Nat → Int32} {qc : sQ}  : zi sc sa (d + 8) 275 [.ref m, .int (nI mm), .int 2] (moF M m F A) z (mR M m F A ((kG (nI c) l t c mm P 1000000 ((3, 0, 0, 0, va_up fr 0 0, va_up tr 0 0, bgQ 0 qc) : kS)).2.2.2.2.2.2.2.2.2.2.2.2)) := by
  refine zin ym_Mo_search [.ref m, .int (nI mm), .int 2] rfl rfl rfl rfl ?_
  refine z_aload_n (q := 1) rfl rfl rfl ?_
  refine z_iload_n (q := 2) rfl rfl rfl ?_
  refine z_cv1i (q := 5) rfl rfl rfl (Mo_k w) (s_Mo_areColours w k7 k5 k6 hm1 hm) ?_
  refine z_if_eq (q := 8) rfl rfl (fun h5 => ?_) (fun h5 => ?_)
  · exact absurd h5 (by decide)
  · refine z_iload_n (q := 9) rfl rfl rfl ?_
    refine z_i2l (q := 10) rfl rfl ?_
    refine z_lconst (q := 11) (v := 0) rfl rfl rfl ?_
    refine z_ldc2 (q := 14) (v := 3) rfl rfl rfl ?_
    refine z_cs3i (q := 17) rfl rfl rfl (t_Mo_inY (a := 2) (hi := 3) (by decide)) ?_
    refine z_if_ne (q := 20) rfl rfl (fun h17 => ?_) (fun h17 => ?_)
    · refine z_aload_n (q := 24) rfl rfl rfl ?_
      refine z_aload_n (q := 25) rfl rfl rfl ?_
      refine z_getR (q := 28) rfl rfl rfl (Mo_k w) (Mo_r0 w) ?_
      refine z_iconst (q := 29) (v := 1) rfl rfl rfl ?_
      refine z_iald (q := 30) rfl rfl (Mo_a0 w) (vp_in_nI (n := 1) (by omega) (by omega)) ?_
      rw [moF_a0]
      try rw [nI_clamp (by omega)]
      rw [show A 1 (1 : Int32).toNatClampNeg = l from k2]
      refine z_iload_n (q := 31) rfl rfl rfl ?_
      refine z_cv2qv (q := 34) rfl rfl rfl (Mo_k w) (d_Mo_searches (l := l) (fr := fr) (tr := tr) (qc := qc) w hC h0 hs ht hP hm) (fun M9 h9 => ?_)
      obtain ⟨FF, AA, rfl, wk, wj, rz, r28, hend⟩ := h9
      refine z_iload_n (q := 35) rfl rfl rfl ?_
      refine z_if_ne (q := 38) rfl rfl (fun h35 => ?_) (fun h35 => ?_)
      · refine z_iload_n (q := 46) rfl rfl rfl ?_
        refine z_iconst (q := 47) (v := 1) rfl rfl rfl ?_
        refine z_ic_ne (q := 50) rfl rfl (fun h47 => ?_) (fun h47 => ?_)
        · refine z_iload_n (q := 58) rfl rfl rfl ?_
          refine z_iconst (q := 59) (v := 2) rfl rfl rfl ?_
          refine z_ic_ne (q := 62) rfl rfl (fun h59 => ?_) (fun h59 => ?_)
          · exact absurd h59 (by decide)
          · refine z_aload_n (q := 63) rfl rfl rfl ?_
            refine z_getI (q := 66) rfl rfl rfl (Mo_k w) ?_
            rw [moF_g17]
            refine z_goto rfl ?_
            refine z_ireti rfl rfl ?_
            exact qz_r (by
              obtain ⟨q9, g9, d9⟩ := rz.1
              rw [g9.2.1, d9.2, Int32.add_zero]) ⟨FF, AA, rfl, fun k hk => wk k (by omega), fun j hj => wj j (by omega)⟩
        · exact absurd h47 (by decide)
      · exact absurd h35 (by decide)
    · exact absurd h17 (by decide)
theorem q_Mo_search3 {sc : Option (Nat × Nat × (Nat → Int32))} {sa : Nat → Nat} {d : Nat} {M : mz_M} {z : Nat × Nat} {m : Nat} (w : g_Mo M.2.2 m) {F : Nat → Int32} {A : Nat → Nat → Int32} {c : Nat} {l t : Int32} (hC : c ≤ 12) (h0 : 0 < c) (hs : A 1 0 = nI c) (k2 : A 1 1 = l) (ht : A 1 2 = t) {ln : Nat} (k7 : A 1 5 = nI ln) (k5 : 0 < ln) (k6 : ln < 1000) {P : Nat → Int32} (hP : ∀ i, i < c → A 1 (7 + i) = P i) {mm : Nat} (hm1 : 1 ≤ mm) (hm : mm ≤ 4) {fr tr : Nat → Int32} {qc : sQ}  : zi sc sa (d + 8) 275 [.ref m, .int (nI mm), .int 3] (moF M m F A) z (mR M m F A ((kG (nI c) l t c mm P 1000000 ((3, 0, 0, 0, va_up fr 0 0, va_up tr 0 0, bgQ 0 qc) : kS)).2.1)) := by
  refine zin ym_Mo_search [.ref m, .int (nI mm), .int 3] rfl rfl rfl rfl ?_
  refine z_aload_n (q := 1) rfl rfl rfl ?_
  refine z_iload_n (q := 2) rfl rfl rfl ?_
  refine z_cv1i (q := 5) rfl rfl rfl (Mo_k w) (s_Mo_areColours w k7 k5 k6 hm1 hm) ?_
  refine z_if_eq (q := 8) rfl rfl (fun h5 => ?_) (fun h5 => ?_)
  · exact absurd h5 (by decide)
  · refine z_iload_n (q := 9) rfl rfl rfl ?_
    refine z_i2l (q := 10) rfl rfl ?_
    refine z_lconst (q := 11) (v := 0) rfl rfl rfl ?_
    refine z_ldc2 (q := 14) (v := 3) rfl rfl rfl ?_
    refine z_cs3i (q := 17) rfl rfl rfl (t_Mo_inY (a := 3) (hi := 3) (by decide)) ?_
    refine z_if_ne (q := 20) rfl rfl (fun h17 => ?_) (fun h17 => ?_)
    · refine z_aload_n (q := 24) rfl rfl rfl ?_
      refine z_aload_n (q := 25) rfl rfl rfl ?_
      refine z_getR (q := 28) rfl rfl rfl (Mo_k w) (Mo_r0 w) ?_
      refine z_iconst (q := 29) (v := 1) rfl rfl rfl ?_
      refine z_iald (q := 30) rfl rfl (Mo_a0 w) (vp_in_nI (n := 1) (by omega) (by omega)) ?_
      rw [moF_a0]
      try rw [nI_clamp (by omega)]
      rw [show A 1 (1 : Int32).toNatClampNeg = l from k2]
      refine z_iload_n (q := 31) rfl rfl rfl ?_
      refine z_cv2qv (q := 34) rfl rfl rfl (Mo_k w) (d_Mo_searches (l := l) (fr := fr) (tr := tr) (qc := qc) w hC h0 hs ht hP hm) (fun M9 h9 => ?_)
      obtain ⟨FF, AA, rfl, wk, wj, rz, r28, hend⟩ := h9
      refine z_iload_n (q := 35) rfl rfl rfl ?_
      refine z_if_ne (q := 38) rfl rfl (fun h35 => ?_) (fun h35 => ?_)
      · refine z_iload_n (q := 46) rfl rfl rfl ?_
        refine z_iconst (q := 47) (v := 1) rfl rfl rfl ?_
        refine z_ic_ne (q := 50) rfl rfl (fun h47 => ?_) (fun h47 => ?_)
        · refine z_iload_n (q := 58) rfl rfl rfl ?_
          refine z_iconst (q := 59) (v := 2) rfl rfl rfl ?_
          refine z_ic_ne (q := 62) rfl rfl (fun h59 => ?_) (fun h59 => ?_)
          · refine z_aload_n (q := 70) rfl rfl rfl ?_
            refine z_getI (q := 73) rfl rfl rfl (Mo_k w) ?_
            rw [moF_g29]
            refine z_ireti rfl rfl ?_
            exact qz_r rz.2.1 ⟨FF, AA, rfl, fun k hk => wk k (by omega), fun j hj => wj j (by omega)⟩
          · exact absurd h59 (by decide)
        · exact absurd h47 (by decide)
      · exact absurd h35 (by decide)
    · exact absurd h17 (by decide)
theorem n_Mo_search {sc : Option (Nat × Nat × (Nat → Int32))} {sa : Nat → Nat} {d : Nat} {M : mz_M} {z : Nat × Nat} {m : Nat} (w : g_Mo M.2.2 m) {F : Nat → Int32} {A : Nat → Nat → Int32} {c : Nat} {l t : Int32} (hC : c ≤ 12) (h0 : 0 < c) (hs : A 1 0 = nI c) (k2 : A 1 1 = l) (ht : A 1 2 = t) {ln : Nat} (k7 : A 1 5 = nI ln) (k5 : 0 < ln) (k6 : ln < 1000) {P : Nat → Int32} (hP : ∀ i, i < c → A 1 (7 + i) = P i) {a b : Int32} (ha : ¬ ((1 : Int32) ≤ a ∧ a ≤ 4)) : zi sc sa (d + 8) 275 [.ref m, .int a, .int b] (moF M m F A) z (mR M m F A (-2)) := by
  refine zin ym_Mo_search [.ref m, .int a, .int b] rfl rfl rfl rfl ?_
  refine z_aload_n (q := 1) rfl rfl rfl ?_
  refine z_iload_n (q := 2) rfl rfl rfl ?_
  refine z_cv1i (q := 5) rfl rfl rfl (Mo_k w) (n_Mo_areColours w k7 k5 k6 ha) ?_
  refine z_if_eq (q := 8) rfl rfl (fun h5 => ?_) (fun h5 => ?_)
  · refine z_bipush (q := 22) (v := -2) rfl rfl rfl ?_
    refine z_ireti rfl rfl ?_
    exact qz_r rfl ⟨F, A, rfl, mPe_r⟩
  · exact absurd h5 (by decide)
theorem n_Mo_search1 {sc : Option (Nat × Nat × (Nat → Int32))} {sa : Nat → Nat} {d : Nat} {M : mz_M} {z : Nat × Nat} {m : Nat} (w : g_Mo M.2.2 m) {F : Nat → Int32} {A : Nat → Nat → Int32} {c : Nat} {l t : Int32} (hC : c ≤ 12) (h0 : 0 < c) (hs : A 1 0 = nI c) (k2 : A 1 1 = l) (ht : A 1 2 = t) {ln : Nat} (k7 : A 1 5 = nI ln) (k5 : 0 < ln) (k6 : ln < 1000) {P : Nat → Int32} (hP : ∀ i, i < c → A 1 (7 + i) = P i) {mm : Nat} (hm1 : 1 ≤ mm) (hm : mm ≤ 4) {b : Int32} (hb : ¬ (¬ b < 0 ∧ b ≤ 3)) : zi sc sa (d + 8) 275 [.ref m, .int (nI mm), .int b] (moF M m F A) z (mR M m F A (-2)) := by
  refine zin ym_Mo_search [.ref m, .int (nI mm), .int b] rfl rfl rfl rfl ?_
  refine z_aload_n (q := 1) rfl rfl rfl ?_
  refine z_iload_n (q := 2) rfl rfl rfl ?_
  refine z_cv1i (q := 5) rfl rfl rfl (Mo_k w) (s_Mo_areColours w k7 k5 k6 hm1 hm) ?_
  refine z_if_eq (q := 8) rfl rfl (fun h5 => ?_) (fun h5 => ?_)
  · exact absurd h5 (by decide)
  · refine z_iload_n (q := 9) rfl rfl rfl ?_
    refine z_i2l (q := 10) rfl rfl ?_
    refine z_lconst (q := 11) (v := 0) rfl rfl rfl ?_
    refine z_ldc2 (q := 14) (v := 3) rfl rfl rfl ?_
    refine z_cs3i (q := 17) rfl rfl rfl (t_Mo_inN (hi := 3) hb) ?_
    refine z_if_ne (q := 20) rfl rfl (fun h17 => ?_) (fun h17 => ?_)
    · exact absurd h17 (by decide)
    · refine z_bipush (q := 22) (v := -2) rfl rfl rfl ?_
      refine z_ireti rfl rfl ?_
      exact qz_r rfl ⟨F, A, rfl, mPe_r⟩
theorem q_Mo_searchBy {sc : Option (Nat × Nat × (Nat → Int32))} {sa : Nat → Nat} {d : Nat} {M : mz_M} {z : Nat × Nat} {m : Nat} (w : g_Mo M.2.2 m) {F : Nat → Int32} {A : Nat → Nat → Int32} {c : Nat} {l t : Int32} (hC : c ≤ 12) (h0 : 0 < c) (hs : A 1 0 = nI c) (k2 : A 1 1 = l) (ht : A 1 2 = t) {ln : Nat} (k7 : A 1 5 = nI ln) (k5 : 0 < ln) (k6 : ln < 1000) {P : Nat → Int32} (hP : ∀ i, i < c → A 1 (7 + i) = P i) {mm : Nat} (hm1 : 1 ≤ mm) (hm : mm ≤ 4) {fr tr : Nat → Int32} {qc : sQ} {a : Int32} (ha : ¬ a < 0 ∧ a ≤ 2)  : zi sc sa (d + 8) 276 [.ref m, .int a, .int (nI mm)] (moF M m F A) z (mR M m F A ((kG (nI c) a t c mm P 1000000 ((3, 0, 0, 0, va_up fr 0 0, va_up tr 0 0, bgQ 0 qc) : kS)).2.2.2.2.2.2.2.2.2.2.2.2)) := by
  refine zin ym_Mo_searchBy [.ref m, .int a, .int (nI mm)] rfl rfl rfl rfl ?_
  refine z_aload_n (q := 1) rfl rfl rfl ?_
  refine z_iload_n (q := 2) rfl rfl rfl ?_
  refine z_cv1i (q := 5) rfl rfl rfl (Mo_k w) (s_Mo_areColours w k7 k5 k6 hm1 hm) ?_
  refine z_if_eq (q := 8) rfl rfl (fun h5 => ?_) (fun h5 => ?_)
  · exact absurd h5 (by decide)
  · refine z_iload_n (q := 9) rfl rfl rfl ?_
    refine z_i2l (q := 10) rfl rfl ?_
    refine z_lconst (q := 11) (v := 0) rfl rfl rfl ?_
    refine z_ldc2 (q := 14) (v := 2) rfl rfl rfl ?_
    refine z_cs3i (q := 17) rfl rfl rfl (t_Mo_inY (hi := 2) ha) ?_
    refine z_if_ne (q := 20) rfl rfl (fun h17 => ?_) (fun h17 => ?_)
    · refine z_aload_n (q := 24) rfl rfl rfl ?_
      refine z_iload_n (q := 25) rfl rfl rfl ?_
      refine z_iload_n (q := 26) rfl rfl rfl ?_
      refine z_cv2qv (q := 29) rfl rfl rfl (Mo_k w) (d_Mo_searches (l := a) (fr := fr) (tr := tr) (qc := qc) w hC h0 hs ht hP hm) (fun M9 h9 => ?_)
      obtain ⟨FF, AA, rfl, wk, wj, rz, r28, hend⟩ := h9
      refine z_aload_n (q := 30) rfl rfl rfl ?_
      refine z_getI (q := 33) rfl rfl rfl (Mo_k w) ?_
      rw [moF_g17]
      refine z_ireti rfl rfl ?_
      exact qz_r (by
        obtain ⟨q9, g9, d9⟩ := rz.1
        rw [g9.2.1, d9.2, Int32.add_zero]) ⟨FF, AA, rfl, fun k hk => wk k (by omega), fun j hj => wj j (by omega)⟩
    · exact absurd h17 (by decide)
theorem n_Mo_searchBy {sc : Option (Nat × Nat × (Nat → Int32))} {sa : Nat → Nat} {d : Nat} {M : mz_M} {z : Nat × Nat} {m : Nat} (w : g_Mo M.2.2 m) {F : Nat → Int32} {A : Nat → Nat → Int32} {c : Nat} {l t : Int32} (hC : c ≤ 12) (h0 : 0 < c) (hs : A 1 0 = nI c) (k2 : A 1 1 = l) (ht : A 1 2 = t) {ln : Nat} (k7 : A 1 5 = nI ln) (k5 : 0 < ln) (k6 : ln < 1000) {P : Nat → Int32} (hP : ∀ i, i < c → A 1 (7 + i) = P i) {a b : Int32} (hb : ¬ ((1 : Int32) ≤ b ∧ b ≤ 4)) : zi sc sa (d + 8) 276 [.ref m, .int a, .int b] (moF M m F A) z (mR M m F A (-2)) := by
  refine zin ym_Mo_searchBy [.ref m, .int a, .int b] rfl rfl rfl rfl ?_
  refine z_aload_n (q := 1) rfl rfl rfl ?_
  refine z_iload_n (q := 2) rfl rfl rfl ?_
  refine z_cv1i (q := 5) rfl rfl rfl (Mo_k w) (n_Mo_areColours w k7 k5 k6 hb) ?_
  refine z_if_eq (q := 8) rfl rfl (fun h5 => ?_) (fun h5 => ?_)
  · refine z_bipush (q := 22) (v := -2) rfl rfl rfl ?_
    refine z_ireti rfl rfl ?_
    exact qz_r rfl ⟨F, A, rfl, mPe_r⟩
  · exact absurd h5 (by decide)
theorem n_Mo_searchBy1 {sc : Option (Nat × Nat × (Nat → Int32))} {sa : Nat → Nat} {d : Nat} {M : mz_M} {z : Nat × Nat} {m : Nat} (w : g_Mo M.2.2 m) {F : Nat → Int32} {A : Nat → Nat → Int32} {c : Nat} {l t : Int32} (hC : c ≤ 12) (h0 : 0 < c) (hs : A 1 0 = nI c) (k2 : A 1 1 = l) (ht : A 1 2 = t) {ln : Nat} (k7 : A 1 5 = nI ln) (k5 : 0 < ln) (k6 : ln < 1000) {P : Nat → Int32} (hP : ∀ i, i < c → A 1 (7 + i) = P i) {mm : Nat} (hm1 : 1 ≤ mm) (hm : mm ≤ 4) {a : Int32} (ha : ¬ (¬ a < 0 ∧ a ≤ 2)) : zi sc sa (d + 8) 276 [.ref m, .int a, .int (nI mm)] (moF M m F A) z (mR M m F A (-2)) := by
  refine zin ym_Mo_searchBy [.ref m, .int a, .int (nI mm)] rfl rfl rfl rfl ?_
  refine z_aload_n (q := 1) rfl rfl rfl ?_
  refine z_iload_n (q := 2) rfl rfl rfl ?_
  refine z_cv1i (q := 5) rfl rfl rfl (Mo_k w) (s_Mo_areColours w k7 k5 k6 hm1 hm) ?_
  refine z_if_eq (q := 8) rfl rfl (fun h5 => ?_) (fun h5 => ?_)
  · exact absurd h5 (by decide)
  · refine z_iload_n (q := 9) rfl rfl rfl ?_
    refine z_i2l (q := 10) rfl rfl ?_
    refine z_lconst (q := 11) (v := 0) rfl rfl rfl ?_
    refine z_ldc2 (q := 14) (v := 2) rfl rfl rfl ?_
    refine z_cs3i (q := 17) rfl rfl rfl (t_Mo_inN (hi := 2) ha) ?_
    refine z_if_ne (q := 20) rfl rfl (fun h17 => ?_) (fun h17 => ?_)
    · exact absurd h17 (by decide)
    · refine z_bipush (q := 22) (v := -2) rfl rfl rfl ?_
      refine z_ireti rfl rfl ?_
      exact qz_r rfl ⟨F, A, rfl, mPe_r⟩
theorem oc_e {c : Nat} {x : kS} {F : Nat → Int32} {A : Nat → Nat → Int32} (h : sR c x F A) (hn : x.1 ≠ 3) : F 30 = x.1 := by
  have g := h.2.2.1
  rw [if_neg hn] at g
  exact g
theorem q_Mo_colour {sc : Option (Nat × Nat × (Nat → Int32))} {sa : Nat → Nat} {d : Nat} {M : mz_M} {z : Nat × Nat} {m : Nat} (w : g_Mo M.2.2 m) {F : Nat → Int32} {A : Nat → Nat → Int32} {c : Nat} {l t : Int32} (hC : c ≤ 12) (h0 : 0 < c) (hs : A 1 0 = nI c) (k2 : A 1 1 = l) (ht : A 1 2 = t) {ln : Nat} (k7 : A 1 5 = nI ln) (k5 : 0 < ln) (k6 : ln < 1000) {P : Nat → Int32} (hP : ∀ i, i < c → A 1 (7 + i) = P i) {mm : Nat} (hm1 : 1 ≤ mm) (hm : mm ≤ 4) {fr tr : Nat → Int32} {qc : sQ} {i : Nat} (hi : i < c) (hcl : (kG (nI c) l t c mm P 1000000 ((3, 0, 0, 0, va_up fr 0 0, va_up tr 0 0, bgQ 0 qc) : kS)).1 = 1 → c ≤ (kG (nI c) l t c mm P 1000000 ((3, 0, 0, 0, va_up fr 0 0, va_up tr 0 0, bgQ 0 qc) : kS)).2.2.2.1 + 1) : zi sc sa (d + 8) 277 [.ref m, .int (nI mm), .int (nI i)] (moF M m F A) z (mR M m F A (if (kG (nI c) l t c mm P 1000000 ((3, 0, 0, 0, va_up fr 0 0, va_up tr 0 0, bgQ 0 qc) : kS)).1 = 1 then (kG (nI c) l t c mm P 1000000 ((3, 0, 0, 0, va_up fr 0 0, va_up tr 0 0, bgQ 0 qc) : kS)).2.2.2.2.2.1 i else 0)) := by
  refine zin ym_Mo_colour [.ref m, .int (nI mm), .int (nI i)] rfl rfl rfl rfl ?_
  refine z_aload_n (q := 1) rfl rfl rfl ?_
  refine z_iload_n (q := 2) rfl rfl rfl ?_
  refine z_cv1i (q := 5) rfl rfl rfl (Mo_k w) (s_Mo_areColours w k7 k5 k6 hm1 hm) ?_
  refine z_if_eq (q := 8) rfl rfl (fun h5 => ?_) (fun h5 => ?_)
  · exact absurd h5 (by decide)
  · refine z_aload_n (q := 9) rfl rfl rfl ?_
    refine z_iload_n (q := 10) rfl rfl rfl ?_
    refine z_cv1i (q := 13) rfl rfl rfl (Mo_k w) (t_cell1 w hs h0 hC hi) ?_
    refine z_if_ne (q := 16) rfl rfl (fun h13 => ?_) (fun h13 => ?_)
    · refine z_aload_n (q := 20) rfl rfl rfl ?_
      refine z_aload_n (q := 21) rfl rfl rfl ?_
      refine z_getR (q := 24) rfl rfl rfl (Mo_k w) (Mo_r0 w) ?_
      refine z_iconst (q := 25) (v := 1) rfl rfl rfl ?_
      refine z_iald (q := 26) rfl rfl (Mo_a0 w) (vp_in_nI (n := 1) (by omega) (by omega)) ?_
      rw [moF_a0]
      try rw [nI_clamp (by omega)]
      rw [show A 1 (1 : Int32).toNatClampNeg = l from k2]
      refine z_iload_n (q := 27) rfl rfl rfl ?_
      refine z_cv2qv (q := 30) rfl rfl rfl (Mo_k w) (d_Mo_searches (l := l) (fr := fr) (tr := tr) (qc := qc) w hC h0 hs ht hP hm) (fun M9 h9 => ?_)
      obtain ⟨FF, AA, rfl, wk, wj, rz, r28, hend⟩ := h9
      refine z_aload_n (q := 31) rfl rfl rfl ?_
      refine z_getI (q := 34) rfl rfl rfl (Mo_k w) ?_
      rw [moF_g30]
      rw [oc_e rz hend]
      refine z_iconst (q := 35) (v := 1) rfl rfl rfl ?_
      refine z_ic_ne (q := 38) rfl rfl (fun h35 => ?_) (fun h35 => ?_)
      · refine z_iconst (q := 48) (v := 0) rfl rfl rfl ?_
        refine z_ireti rfl rfl ?_
        first
          | (have hzz : (kG (nI c) l t c mm P 1000000 ((3, 0, 0, 0, va_up fr 0 0, va_up tr 0 0, bgQ 0 qc) : kS)).1 = 1 := h35
             exact qz_t hzz (rz.2.2.2 i (Or.inr hzz) (by have := hcl hzz; omega) hi).2 ⟨FF, AA, rfl, fun k hk => wk k (by omega), fun j hj => wj j (by omega)⟩)
          | exact qz_f h35 ⟨FF, AA, rfl, fun k hk => wk k (by omega), fun j hj => wj j (by omega)⟩
          | fail "none"
      · refine z_aload_n (q := 39) rfl rfl rfl ?_
        refine z_getR (q := 42) rfl rfl rfl (Mo_k w) (Mo_r31 w) ?_
        refine z_iload_n (q := 43) rfl rfl rfl ?_
        refine z_iald (q := 44) rfl rfl (Mo_a31 w) (by first | assumption | exact vp_in_nI (by omega) (by omega)) ?_
        rw [moF_a31]
        try rw [nI_clamp (by omega)]
        refine z_goto rfl ?_
        refine z_ireti rfl rfl ?_
        first
          | (have hzz : (kG (nI c) l t c mm P 1000000 ((3, 0, 0, 0, va_up fr 0 0, va_up tr 0 0, bgQ 0 qc) : kS)).1 = 1 := h35
             exact qz_t hzz (rz.2.2.2 i (Or.inr hzz) (by have := hcl hzz; omega) hi).2 ⟨FF, AA, rfl, fun k hk => wk k (by omega), fun j hj => wj j (by omega)⟩)
          | exact qz_f h35 ⟨FF, AA, rfl, fun k hk => wk k (by omega), fun j hj => wj j (by omega)⟩
          | fail "none"
    · exact absurd h13 (by decide)
theorem n_Mo_colour {sc : Option (Nat × Nat × (Nat → Int32))} {sa : Nat → Nat} {d : Nat} {M : mz_M} {z : Nat × Nat} {m : Nat} (w : g_Mo M.2.2 m) {F : Nat → Int32} {A : Nat → Nat → Int32} {c : Nat} {l t : Int32} (hC : c ≤ 12) (h0 : 0 < c) (hs : A 1 0 = nI c) (k2 : A 1 1 = l) (ht : A 1 2 = t) {ln : Nat} (k7 : A 1 5 = nI ln) (k5 : 0 < ln) (k6 : ln < 1000) {P : Nat → Int32} (hP : ∀ i, i < c → A 1 (7 + i) = P i) {a b : Int32} (ha : ¬ ((1 : Int32) ≤ a ∧ a ≤ 4)) : zi sc sa (d + 8) 277 [.ref m, .int a, .int b] (moF M m F A) z (mR M m F A (-2)) := by
  refine zin ym_Mo_colour [.ref m, .int a, .int b] rfl rfl rfl rfl ?_
  refine z_aload_n (q := 1) rfl rfl rfl ?_
  refine z_iload_n (q := 2) rfl rfl rfl ?_
  refine z_cv1i (q := 5) rfl rfl rfl (Mo_k w) (n_Mo_areColours w k7 k5 k6 ha) ?_
  refine z_if_eq (q := 8) rfl rfl (fun h5 => ?_) (fun h5 => ?_)
  · refine z_bipush (q := 18) (v := -2) rfl rfl rfl ?_
    refine z_ireti rfl rfl ?_
    exact qz_r rfl ⟨F, A, rfl, mPe_r⟩
  · exact absurd h5 (by decide)
theorem t_cell0 {sc : Option (Nat × Nat × (Nat → Int32))} {sa : Nat → Nat} {d : Nat} {M : mz_M} {z : Nat × Nat} {m : Nat} (w : g_Mo M.2.2 m) {F : Nat → Int32} {A : Nat → Nat → Int32} {c : Nat} (hs : A 1 0 = nI c) (h0 : 0 < c) (hC : c ≤ 12) {a : Int32} (ha : ¬ vI c a) : zx sc sa (d + 2) 209 [.ref m, .int a] (moF M m F A) z z (some (.int 0)) (moF M m F A) := by
  have e := @s_Mo_isCell sc sa d M z m w F A c hs h0 hC a
  rw [bz_f ha] at e
  exact e
theorem n_Mo_colour1 {sc : Option (Nat × Nat × (Nat → Int32))} {sa : Nat → Nat} {d : Nat} {M : mz_M} {z : Nat × Nat} {m : Nat} (w : g_Mo M.2.2 m) {F : Nat → Int32} {A : Nat → Nat → Int32} {c : Nat} {l t : Int32} (hC : c ≤ 12) (h0 : 0 < c) (hs : A 1 0 = nI c) (k2 : A 1 1 = l) (ht : A 1 2 = t) {ln : Nat} (k7 : A 1 5 = nI ln) (k5 : 0 < ln) (k6 : ln < 1000) {P : Nat → Int32} (hP : ∀ i, i < c → A 1 (7 + i) = P i) {mm : Nat} (hm1 : 1 ≤ mm) (hm : mm ≤ 4) {b : Int32} (hb : ¬ vI c b) : zi sc sa (d + 8) 277 [.ref m, .int (nI mm), .int b] (moF M m F A) z (mR M m F A (-2)) := by
  refine zin ym_Mo_colour [.ref m, .int (nI mm), .int b] rfl rfl rfl rfl ?_
  refine z_aload_n (q := 1) rfl rfl rfl ?_
  refine z_iload_n (q := 2) rfl rfl rfl ?_
  refine z_cv1i (q := 5) rfl rfl rfl (Mo_k w) (s_Mo_areColours w k7 k5 k6 hm1 hm) ?_
  refine z_if_eq (q := 8) rfl rfl (fun h5 => ?_) (fun h5 => ?_)
  · exact absurd h5 (by decide)
  · refine z_aload_n (q := 9) rfl rfl rfl ?_
    refine z_iload_n (q := 10) rfl rfl rfl ?_
    refine z_cv1i (q := 13) rfl rfl rfl (Mo_k w) (t_cell0 w hs h0 hC hb) ?_
    refine z_if_ne (q := 16) rfl rfl (fun h13 => ?_) (fun h13 => ?_)
    · exact absurd h13 (by decide)
    · refine z_bipush (q := 18) (v := -2) rfl rfl rfl ?_
      refine z_ireti rfl rfl ?_
      exact qz_r rfl ⟨F, A, rfl, mPe_r⟩
def coI (O : Nat → Int32) : Nat → Nat → Int32
  | 0, _ => -1
  | k + 1, n => if O n = 1 then nI n else coI O k (n + 1)
theorem l_Mo_colours {sc : Option (Nat × Nat × (Nat → Int32))} {sa : Nat → Nat} {d : Nat} {M : mz_M} {z : Nat × Nat} {m : Nat} (w : g_Mo M.2.2 m) {F : Nat → Int32} {A : Nat → Nat → Int32} {c : Nat} {l t : Int32} (hC : c ≤ 12) (h0 : 0 < c) {P : Nat → Int32} (hs0 : A 1 0 = nI c) (k20 : A 1 1 = l) (ht0 : A 1 2 = t) (hP0 : ∀ i, i < c → A 1 (7 + i) = P i) {O : Nat → Int32} (hO : ∀ n, 1 ≤ n → n ≤ 4 → ∃ fr tr qc, (kG (nI c) l t c n P 1000000 ((3, 0, 0, 0, va_up fr 0 0, va_up tr 0 0, bgQ 0 qc) : kS)).1 = O n)  : ∀ (k : Nat) (n : Nat) (F1 : Nat → Int32) (A1 : Nat → Nat → Int32), n + k = 5 → 1 ≤ n → mPe F A F1 A1 → zw sc sa (d + 7) ym_Mo_colours z (fun r' M' => ∃ v, r' = some (.int v) ∧ mR M m F A (coI O k n) v M') 12 [.ref m, .int (nI n)] [] (moF M m F1 A1) z := by
  intro k
  induction k with
  | zero =>
    intro n F1 A1 hn hn1 hp
    have e1 : n = 5 := by omega
    subst e1
    refine z_iload_n (q := 13) rfl rfl rfl ?_
    refine z_iconst (q := 14) (v := 4) rfl rfl rfl ?_
    refine z_ic_gt (q := 17) rfl rfl (fun h14 => ?_) (fun h14 => ?_)
    · refine z_iconst (q := 45) (v := -1) rfl rfl rfl ?_
      refine z_ireti rfl rfl ?_
      exact qz_r rfl ⟨F1, A1, rfl, hp⟩
    · exact absurd (by decide) h14
  | succ k ih =>
    intro n F1 A1 hn hn1 hp
    have m1 := hp.2 1 (Or.inl rfl)
    have hm : n ≤ 4 := by omega
    obtain ⟨fr, tr, qc, ho⟩ := hO n hn1 hm
    refine z_iload_n (q := 13) rfl rfl rfl ?_
    refine z_iconst (q := 14) (v := 4) rfl rfl rfl ?_
    refine z_ic_gt (q := 17) rfl rfl (fun h14 => ?_) (fun h14 => ?_)
    · exact absurd (show nI 4 < nI n from h14) (nI_nlt (by omega) (by omega))
    · refine z_aload_n (q := 18) rfl rfl rfl ?_
      refine z_aload_n (q := 19) rfl rfl rfl ?_
      refine z_getR (q := 22) rfl rfl rfl (Mo_k w) (Mo_r0 w) ?_
      refine z_iconst (q := 23) (v := 1) rfl rfl rfl ?_
      refine z_iald (q := 24) rfl rfl (Mo_a0 w) (vp_in_nI (n := 1) (by omega) (by omega)) ?_
      rw [moF_a0]
      try rw [nI_clamp (by omega)]
      rw [show A1 1 (1 : Int32).toNatClampNeg = l from (congrFun m1 1).trans k20]
      refine z_iload_n (q := 25) rfl rfl rfl ?_
      refine z_cv2qv (q := 28) rfl rfl rfl (Mo_k w) (d_Mo_searches (l := l) (fr := fr) (tr := tr) (qc := qc) w hC h0 ((congrFun m1 0).trans hs0) ((congrFun m1 2).trans ht0) (fun i hi => (congrFun m1 _).trans (hP0 i hi)) hm) (fun M9 h9 => ?_)
      obtain ⟨FF, AA, rfl, wk, wj, rz, r28, hend⟩ := h9
      refine z_aload_n (q := 29) rfl rfl rfl ?_
      refine z_getI (q := 32) rfl rfl rfl (Mo_k w) ?_
      rw [moF_g30]
      rw [oc_e rz hend, ho]
      refine z_iconst (q := 33) (v := 1) rfl rfl rfl ?_
      refine z_ic_ne (q := 36) rfl rfl (fun h33 => ?_) (fun h33 => ?_)
      · refine z_iinc (q := 41) (L2 := [_, _]) rfl rfl rfl rfl ?_
        refine z_goto rfl ?_
        rw [show nI n + Int32.ofInt 1 = nI (n + 1) from (nI_succ n).symm]
        rw [show coI O (k + 1) n = coI O k (n + 1) from if_neg h33]
        exact ih (n + 1) FF AA (by omega) (by omega) (mPe_t hp ⟨fun k hk => wk k (by omega), fun j hj => wj j (by omega)⟩)
      · refine z_iload_n (q := 37) rfl rfl rfl ?_
        refine z_ireti rfl rfl ?_
        rw [show coI O (k + 1) n = nI n from if_pos h33]
        exact qz_r rfl ⟨FF, AA, rfl, mPe_t hp ⟨fun k hk => wk k (by omega), fun j hj => wj j (by omega)⟩⟩
theorem q_Mo_colours {sc : Option (Nat × Nat × (Nat → Int32))} {sa : Nat → Nat} {d : Nat} {M : mz_M} {z : Nat × Nat} {m : Nat} (w : g_Mo M.2.2 m) {F : Nat → Int32} {A : Nat → Nat → Int32} {c : Nat} {l t : Int32} (hC : c ≤ 12) (h0 : 0 < c) (hs : A 1 0 = nI c) (k2 : A 1 1 = l) (ht : A 1 2 = t) {ln : Nat} (k7 : A 1 5 = nI ln) (k5 : 0 < ln) (k6 : ln < 1000) {P : Nat → Int32} (hP : ∀ i, i < c → A 1 (7 + i) = P i) {O : Nat → Int32} (hO : ∀ n, 1 ≤ n → n ≤ 4 → ∃ fr tr qc, (kG (nI c) l t c n P 1000000 ((3, 0, 0, 0, va_up fr 0 0, va_up tr 0 0, bgQ 0 qc) : kS)).1 = O n)  : zi sc sa (d + 8) 278 [.ref m] (moF M m F A) z (mR M m F A (coI O 4 1)) := by
  refine zin ym_Mo_colours [.ref m, .retAddr 0] rfl rfl rfl rfl ?_
  refine z_aload_n (q := 1) rfl rfl rfl ?_
  refine z_cv0i (q := 4) rfl rfl rfl (Mo_k w) (s_Mo_is w k7 k5 k6) ?_
  refine z_if_ne (q := 7) rfl rfl (fun h4 => ?_) (fun h4 => ?_)
  · refine z_iconst (q := 11) (v := 1) rfl rfl rfl ?_
    refine z_istore_n (q := 12) (L2 := [_, _]) rfl rfl rfl rfl ?_
    exact l_Mo_colours w hC h0 hs k2 ht hP hO 4 1 F A (by omega) (by omega) mPe_r
  · exact absurd h4 (by decide)
