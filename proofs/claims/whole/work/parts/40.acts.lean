theorem vI_of {n j : Nat} (hn : n ≤ 200) (h : j < n) : vI n (nI j) := ⟨nI_pos' (by omega), nI_lt h (by omega)⟩
theorem t_X_spot {sc : Option (Nat × Nat × (Nat → Int32))} {sa : Nat → Nat} {d : Nat} {M : mz_M} {z : Nat × Nat} {x p r : Nat} {pr ln td : Int32} {D : Nat} {pa ks os ts hs cs : Nat → Int32} {s l t : Int32} {q : sQ} (w : g_X M.2.2 x p r) (hN : q.1 ≤ 40) {c : Nat} (hc : s = nI c) (hC : c ≤ 12) {j i : Nat} (hj : j < q.1) (hi : i < c) : zx sc sa (d + 2) 112 [.ref x, .int (nI j), .int (nI i)] (stQ M p pr ln td (nI D) pa ks os ts hs cs s l t q) z z (some (.int 1)) (stQ M p pr ln td (nI D) pa ks os ts hs cs s l t q) := by
  have e := @s_X_hasSpot sc sa d (stQ M p pr ln td (nI D) pa ks os ts hs cs s l t q) z x p r w q.1 stS_g8 hN c (by rw [stS_g5]; exact hc) hC (nI j) (nI i)
  rw [bz_t ⟨vI_of (by omega) hj, vI_of (by omega) hi⟩] at e
  exact e
theorem t_X_vers {sc : Option (Nat × Nat × (Nat → Int32))} {sa : Nat → Nat} {d : Nat} {M : mz_M} {z : Nat × Nat} {x p r : Nat} {pr ln td : Int32} {D : Nat} {pa ks os ts hs cs : Nat → Int32} {s l t : Int32} {q : sQ} (w : g_X M.2.2 x p r) (hN : q.1 ≤ 40) {c : Nat} (hc : s = nI c) (hC : c ≤ 12) {j i : Nat} (hj : j < q.1) (hi : i < q.1) : zx sc sa (d + 2) 111 [.ref x, .int (nI j), .int (nI i)] (stQ M p pr ln td (nI D) pa ks os ts hs cs s l t q) z z (some (.int 1)) (stQ M p pr ln td (nI D) pa ks os ts hs cs s l t q) := by
  have e := @s_X_hasVersions sc sa d (stQ M p pr ln td (nI D) pa ks os ts hs cs s l t q) z x p r w q.1 stS_g8 hN (nI j) (nI i)
  rw [bz_t ⟨vI_of (by omega) hj, vI_of (by omega) hi⟩] at e
  exact e
theorem t_X_ver {sc : Option (Nat × Nat × (Nat → Int32))} {sa : Nat → Nat} {d : Nat} {M : mz_M} {z : Nat × Nat} {x p r : Nat} {pr ln td : Int32} {D : Nat} {pa ks os ts hs cs : Nat → Int32} {s l t : Int32} {q : sQ} (w : g_X M.2.2 x p r) (hN : q.1 ≤ 40) {c : Nat} (hc : s = nI c) (hC : c ≤ 12) {j : Nat} (hj : j < q.1) : zx sc sa (d + 2) 110 [.ref x, .int (nI j)] (stQ M p pr ln td (nI D) pa ks os ts hs cs s l t q) z z (some (.int 1)) (stQ M p pr ln td (nI D) pa ks os ts hs cs s l t q) := by
  have e := @s_X_hasVersion sc sa d (stQ M p pr ln td (nI D) pa ks os ts hs cs s l t q) z x p r w q.1 stS_g8 hN (nI j)
  rw [bz_t (vI_of (by omega) hj)] at e
  exact e
theorem t_X_act {sc : Option (Nat × Nat × (Nat → Int32))} {sa : Nat → Nat} {d : Nat} {M : mz_M} {z : Nat × Nat} {x p r : Nat} {pr ln td : Int32} {D : Nat} {pa ks os ts hs cs : Nat → Int32} {s l t : Int32} {q : sQ} (w : g_X M.2.2 x p r) (hN : q.1 ≤ 40) {c : Nat} (hc : s = nI c) (hC : c ≤ 12) (ha : nI D - td < 30) : zx sc sa (d + 2) 143 [.ref x] (stQ M p pr ln td (nI D) pa ks os ts hs cs s l t q) z z (some (.int 1)) (stQ M p pr ln td (nI D) pa ks os ts hs cs s l t q) := by
  have e := @s_X_hasActLeft sc sa d (stQ M p pr ln td (nI D) pa ks os ts hs cs s l t q) z x p r w
  rw [bz_t (by rw [stQ_g10, stQ_g9]; exact ha)] at e
  exact e
theorem t_X_room {sc : Option (Nat × Nat × (Nat → Int32))} {sa : Nat → Nat} {d : Nat} {M : mz_M} {z : Nat × Nat} {x p r : Nat} {pr ln td : Int32} {D : Nat} {pa ks os ts hs cs : Nat → Int32} {s l t : Int32} {q : sQ} (w : g_X M.2.2 x p r) (hN : q.1 ≤ 40) {c : Nat} (hc : s = nI c) (hC : c ≤ 12) {k : Nat} (hk : q.1 + k ≤ 40) : zx sc sa (d + 1) 144 [.ref x, .int (nI k)] (stQ M p pr ln td (nI D) pa ks os ts hs cs s l t q) z z (some (.int 1)) (stQ M p pr ln td (nI D) pa ks os ts hs cs s l t q) := by
  have e := @s_X_hasRoomFor sc sa d (stQ M p pr ln td (nI D) pa ks os ts hs cs s l t q) z x p r w q.1 stS_g8 hN k (by omega)
  rw [bz_t hk] at e
  exact e
theorem t_X_cell {sc : Option (Nat × Nat × (Nat → Int32))} {sa : Nat → Nat} {d : Nat} {M : mz_M} {z : Nat × Nat} {x p r : Nat} {pr ln td : Int32} {D : Nat} {pa ks os ts hs cs : Nat → Int32} {s l t : Int32} {q : sQ} (w : g_X M.2.2 x p r) (hN : q.1 ≤ 40) {c : Nat} (hc : s = nI c) (hC : c ≤ 12) {i : Nat} (hi : i < c) : zx sc sa (d + 1) 20 [.ref (p + 1), .int (nI i)] (stQ M p pr ln td (nI D) pa ks os ts hs cs s l t q) z z (some (.int 1)) (stQ M p pr ln td (nI D) pa ks os ts hs cs s l t q) := by
  have e := @s_Sh_hasCell sc sa d (stQ M p pr ln td (nI D) pa ks os ts hs cs s l t q) z (p + 1) 40 (St_w0 (X_w4 w)) (nI i)
  rw [bz_t (by rw [stS_g5, hc]; exact vI_of (by omega) hi)] at e
  exact e
theorem q_X_reads {sc : Option (Nat × Nat × (Nat → Int32))} {sa : Nat → Nat} {d : Nat} {M : mz_M} {z : Nat × Nat} {x p r : Nat} {pr ln td : Int32} {D : Nat} {pa ks os ts hs cs : Nat → Int32} {s l t : Int32} {q : sQ} (w : g_X M.2.2 x p r) (hN : q.1 ≤ 40) {c : Nat} (hc : s = nI c) (hC : c ≤ 12) (hD : D < 60) (hf : okl q.2.2.1 q.1) (ha : nI D - td < 30) {j i : Nat} (hj : j < q.1) (hi : i < c) (hv : vaQ s l t c 40 1 j i 0 q) : zx sc sa (d + 7) 145 [.ref x, .int (nI j), .int (nI i)] (stQ M p pr ln td (nI D) pa ks os ts hs cs s l t q) z z (some (.int (caQ s l t c 1 j i 0 q).1)) (stQ M p pr ln td (nI D + 1) pa (va_up ks D (nI 1)) (va_up os D (nI j)) (va_up ts D (nI i)) (va_up hs D (nI 0)) (va_up cs D ((caQ s l t c 1 j i 0 q).2.2.2.2.2.2.2 - q.2.2.2.2.2.2)) s l t (caQ s l t c 1 j i 0 q).2) := by
  refine zxin ym_X_reads [.ref x, .int (nI j), .int (nI i)] rfl rfl rfl rfl ?_
  refine z_aload_n (q := 1) rfl rfl rfl ?_
  refine z_iload_n (q := 2) rfl rfl rfl ?_
  refine z_iload_n (q := 3) rfl rfl rfl ?_
  refine z_cv2i (q := 6) rfl rfl rfl (X_k w) (t_X_spot w hN hc hC hj hi) ?_
  refine z_if_ne (q := 9) rfl rfl (fun h6 => ?_) (fun h6 => ?_)
  · refine z_aload_n (q := 13) rfl rfl rfl ?_
    refine z_cv0i (q := 16) rfl rfl rfl (X_k w) (t_X_act w hN hc hC ha) ?_
    refine z_if_eq (q := 19) rfl rfl (fun h16 => ?_) (fun h16 => ?_)
    · exact absurd h16 (by decide)
    · refine z_aload_n (q := 20) rfl rfl rfl ?_
      refine z_getR (q := 23) rfl rfl rfl (X_k w) (X_r4 w) ?_
      refine z_iconst (q := 24) (v := 1) rfl rfl rfl ?_
      refine z_iload_n (q := 25) rfl rfl rfl ?_
      refine z_iload_n (q := 26) rfl rfl rfl ?_
      refine z_iconst (q := 27) (v := 0) rfl rfl rfl ?_
      refine z_cv4i (q := 30) rfl rfl rfl (St_k (X_w4 w)) (q_St_perform (k := 1) (a := j) (b := i) (e := 0) (X_w4 w) hD hN hf hc hC hv) ?_
      refine z_goto rfl ?_
      refine z_ireti rfl rfl ?_
      exact ⟨rfl, rfl⟩
  · exact absurd h6 (by decide)
theorem q_X_finds {sc : Option (Nat × Nat × (Nat → Int32))} {sa : Nat → Nat} {d : Nat} {M : mz_M} {z : Nat × Nat} {x p r : Nat} {pr ln td : Int32} {D : Nat} {pa ks os ts hs cs : Nat → Int32} {s l t : Int32} {q : sQ} (w : g_X M.2.2 x p r) (hN : q.1 ≤ 40) {c : Nat} (hc : s = nI c) (hC : c ≤ 12) (hD : D < 60) (hf : okl q.2.2.1 q.1) (ha : nI D - td < 30) {j i : Nat} (hj : j < q.1) (hi : i < c) (hv : vaQ s l t c 40 4 j i 0 q) : zx sc sa (d + 7) 148 [.ref x, .int (nI j), .int (nI i)] (stQ M p pr ln td (nI D) pa ks os ts hs cs s l t q) z z (some (.int (caQ s l t c 4 j i 0 q).1)) (stQ M p pr ln td (nI D + 1) pa (va_up ks D (nI 4)) (va_up os D (nI j)) (va_up ts D (nI i)) (va_up hs D (nI 0)) (va_up cs D ((caQ s l t c 4 j i 0 q).2.2.2.2.2.2.2 - q.2.2.2.2.2.2)) s l t (caQ s l t c 4 j i 0 q).2) := by
  refine zxin ym_X_finds [.ref x, .int (nI j), .int (nI i)] rfl rfl rfl rfl ?_
  refine z_aload_n (q := 1) rfl rfl rfl ?_
  refine z_iload_n (q := 2) rfl rfl rfl ?_
  refine z_iload_n (q := 3) rfl rfl rfl ?_
  refine z_cv2i (q := 6) rfl rfl rfl (X_k w) (t_X_spot w hN hc hC hj hi) ?_
  refine z_if_ne (q := 9) rfl rfl (fun h6 => ?_) (fun h6 => ?_)
  · refine z_aload_n (q := 13) rfl rfl rfl ?_
    refine z_cv0i (q := 16) rfl rfl rfl (X_k w) (t_X_act w hN hc hC ha) ?_
    refine z_if_eq (q := 19) rfl rfl (fun h16 => ?_) (fun h16 => ?_)
    · exact absurd h16 (by decide)
    · refine z_aload_n (q := 20) rfl rfl rfl ?_
      refine z_getR (q := 23) rfl rfl rfl (X_k w) (X_r4 w) ?_
      refine z_iconst (q := 24) (v := 4) rfl rfl rfl ?_
      refine z_iload_n (q := 25) rfl rfl rfl ?_
      refine z_iload_n (q := 26) rfl rfl rfl ?_
      refine z_iconst (q := 27) (v := 0) rfl rfl rfl ?_
      refine z_cv4i (q := 30) rfl rfl rfl (St_k (X_w4 w)) (q_St_perform (k := 4) (a := j) (b := i) (e := 0) (X_w4 w) hD hN hf hc hC hv) ?_
      refine z_goto rfl ?_
      refine z_ireti rfl rfl ?_
      exact ⟨rfl, rfl⟩
  · exact absurd h6 (by decide)
theorem q_X_sets {sc : Option (Nat × Nat × (Nat → Int32))} {sa : Nat → Nat} {d : Nat} {M : mz_M} {z : Nat × Nat} {x p r : Nat} {pr ln td : Int32} {D : Nat} {pa ks os ts hs cs : Nat → Int32} {s l t : Int32} {q : sQ} (w : g_X M.2.2 x p r) (hN : q.1 ≤ 40) {c : Nat} (hc : s = nI c) (hC : c ≤ 12) (hD : D < 60) (hf : okl q.2.2.1 q.1) (ha : nI D - td < 30) {j i k : Nat} (hj : j < q.1) (hi : i < c) (hk : k < c) (hr : q.1 + 1 ≤ 40) (hv : vaQ s l t c 40 2 j i k q) : zx sc sa (d + 7) 146 [.ref x, .int (nI j), .int (nI i), .int (nI k)] (stQ M p pr ln td (nI D) pa ks os ts hs cs s l t q) z z (some (.int (caQ s l t c 2 j i k q).1)) (stQ M p pr ln td (nI D + 1) pa (va_up ks D (nI 2)) (va_up os D (nI j)) (va_up ts D (nI i)) (va_up hs D (nI k)) (va_up cs D ((caQ s l t c 2 j i k q).2.2.2.2.2.2.2 - q.2.2.2.2.2.2)) s l t (caQ s l t c 2 j i k q).2) := by
  refine zxin ym_X_sets [.ref x, .int (nI j), .int (nI i), .int (nI k)] rfl rfl rfl rfl ?_
  refine z_aload_n (q := 1) rfl rfl rfl ?_
  refine z_iload_n (q := 2) rfl rfl rfl ?_
  refine z_iload_n (q := 3) rfl rfl rfl ?_
  refine z_cv2i (q := 6) rfl rfl rfl (X_k w) (t_X_spot w hN hc hC hj hi) ?_
  refine z_if_eq (q := 9) rfl rfl (fun h6 => ?_) (fun h6 => ?_)
  · exact absurd h6 (by decide)
  · refine z_aload_n (q := 10) rfl rfl rfl ?_
    refine z_getR (q := 13) rfl rfl rfl (X_k w) (X_r4 w) ?_
    refine z_getR (q := 16) rfl rfl rfl (St_k (X_w4 w)) (St_r0 (X_w4 w)) ?_
    refine z_iload_n (q := 17) rfl rfl rfl ?_
    refine z_cv1i (q := 20) rfl rfl rfl (Sh_k (St_w0 (X_w4 w))) (t_X_cell w hN hc hC hk) ?_
    refine z_if_ne (q := 23) rfl rfl (fun h20 => ?_) (fun h20 => ?_)
    · refine z_aload_n (q := 27) rfl rfl rfl ?_
      refine z_cv0i (q := 30) rfl rfl rfl (X_k w) (t_X_act w hN hc hC ha) ?_
      refine z_if_eq (q := 33) rfl rfl (fun h30 => ?_) (fun h30 => ?_)
      · exact absurd h30 (by decide)
      · refine z_aload_n (q := 34) rfl rfl rfl ?_
        refine z_iconst (q := 35) (v := 1) rfl rfl rfl ?_
        refine z_cv1i (q := 38) rfl rfl rfl (X_k w) (t_X_room (k := 1) w hN hc hC hr) ?_
        refine z_if_ne (q := 41) rfl rfl (fun h38 => ?_) (fun h38 => ?_)
        · refine z_aload_n (q := 45) rfl rfl rfl ?_
          refine z_getR (q := 48) rfl rfl rfl (X_k w) (X_r4 w) ?_
          refine z_iconst (q := 49) (v := 2) rfl rfl rfl ?_
          refine z_iload_n (q := 50) rfl rfl rfl ?_
          refine z_iload_n (q := 51) rfl rfl rfl ?_
          refine z_iload_n (q := 52) rfl rfl rfl ?_
          refine z_cv4i (q := 55) rfl rfl rfl (St_k (X_w4 w)) (q_St_perform (k := 2) (a := j) (b := i) (e := k) (X_w4 w) hD hN hf hc hC hv) ?_
          refine z_ireti rfl rfl ?_
          exact ⟨rfl, rfl⟩
        · exact absurd h38 (by decide)
    · exact absurd h20 (by decide)
