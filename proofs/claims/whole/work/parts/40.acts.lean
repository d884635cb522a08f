theorem vI_of {n j : Nat} (hn : n ≤ 200) (h : j < n) : vI n (nI j) := ⟨nI_pos' (by omega), nI_lt h (by omega)⟩
theorem t_X_spot {sc : Option (Nat × Nat × (Nat → Int32))} {sa : Nat → Nat} {d : Nat} {M : mz_M} {z : Nat × Nat} {x p r : Nat} {pr ln td : Int32} {D : Nat} {pa ks os ts hs cs : Nat → Int32} {s l t : Int32} {q : sQ} (w : g_X M.2.2 x p r) (hN : q.1 ≤ 40) {c : Nat} (hc : s = nI c) (hC : c ≤ 12) {j i : Nat} (hj : j < q.1) (hi : i < c) : zx sc sa (d + 2) 112 [.ref x, .int (nI j), .int (nI i)] (stQ M p pr ln td (nI D) pa ks os ts hs cs s l t q) z z (some (.int 1)) (stQ M p pr ln td (nI D) pa ks os ts hs cs s l t q) := by
  have e := @s_X_hasSpot sc sa d (stQ M p pr ln td (nI D) pa ks os ts hs cs s l t q) z x p r w q.1 stS_g8 hN c (by rw [stS_g5]; exact hc) hC (nI j) (nI i)
  rw [bz_t ⟨vI_of (by omega) hj, vI_of (by omega) hi⟩] at e
  exact e
theorem t_X_vers {sc : Option (Nat × Nat × (Nat → Int32))} {sa : Nat → Nat} {d : Nat} {M : mz_M} {z : Nat × Nat} {x p r : Nat} {pr ln td : Int32} {D : Nat} {pa ks os ts hs cs : Nat → Int32} {s l t : Int32} {q : sQ} (w : g_X M.2.2 x p r) (hN : q.1 ≤ 40) {c : Nat} (hc : s = nI c) (hC : c ≤ 12) {j i : Nat} (hj : j < q.1) (hi : i < q.1) : zx sc sa (d + 2) 111 [.ref x, .int (nI j), .int (nI i)] (stQ M p pr ln td (nI D) pa ks os ts hs cs s l t q) z z (some (.int 1)) (stQ M p pr ln td (nI D) pa ks os ts hs cs s l t q) := by
  have e := @s_X_hasVersions sc sa d (stQ M p pr ln td (nI D) pa ks os ts hs cs s l t q) z x p r w q.1 stS_g8 hN (nI j) (nI i)
  rw [bz_t ⟨vI_of (by omega) hj, vI_of (by omega) hi⟩] at e
  exact e
theorem t_X_ver {sc : Option (Nat × Nat × (Nat → Int32))} {sa : Nat → Nat} {d : Nat} {M : mz_M} {z : Nat × Nat} {x p r : Nat} {pr ln td : Int32} {D : Nat} {pa ks os ts hs cs : Nat → Int32} {s l t : Int32} {q : sQ} (w : g_X M.2.2 x p r) (hN : q.1 ≤ 40) {c : Nat} (hc : s = nI c) (hC : c ≤ 12) {j : Nat} (hj : j < q.1) : zx sc sa (d + 2) 110 [.ref x, .int (nI j)] (stQ M p pr ln td (nI D) pa ks os ts hs cs s l t q) z z (some (.int 1)) (stQ M p pr ln td (nI D) pa ks os ts hs cs s l t q) := by
  have e := @s_X_hasVersion sc sa d (stQ M p pr ln td (nI D) pa ks os ts hs cs s l t q) z x p r w q.1 stS_g8 hN (nI j)
  rw [bz_t (vI_of (by omega) hj)] at e
  exact e
theorem t_X_act {sc : Option (Nat × Nat × (Nat → Int32))} {sa : Nat → Nat} {d : Nat} {M : mz_M} {z : Nat × Nat} {x p r : Nat} {pr ln td : Int32} {D : Nat} {pa ks os ts hs cs : Nat → Int32} {s l t : Int32} {q : sQ} (w : g_X M.2.2 x p r) (hN : q.1 ≤ 40) {c : Nat} (hc : s = nI c) (hC : c ≤ 12) (ha : nI D - td < 30) : zx sc sa (d + 2) 143 [.ref x] (stQ M p pr ln td (nI D) pa ks os ts hs cs s l t q) z z (some (.int 1)) (stQ M p pr ln td (nI D) pa ks os ts hs cs s l t q) := by
  have e := @s_X_hasActLeft sc sa d (stQ M p pr ln td (nI D) pa ks os ts hs cs s l t q) z x p r w
  rw [bz_t (by rw [stQ_g10, stQ_g9]; exact ha)] at e
  exact e
theorem t_X_room {sc : Option (Nat × Nat × (Nat → Int32))} {sa : Nat → Nat} {d : Nat} {M : mz_M} {z : Nat × Nat} {x p r : Nat} {pr ln td : Int32} {D : Nat} {pa ks os ts hs cs : Nat → Int32} {s l t : Int32} {q : sQ} (w : g_X M.2.2 x p r) (hN : q.1 ≤ 40) {c : Nat} (hc : s = nI c) (hC : c ≤ 12) {k : Nat} (hk : q.1 + k ≤ 40) : zx sc sa (d + 1) 144 [.ref x, .int (nI k)] (stQ M p pr ln td (nI D) pa ks os ts hs cs s l t q) z z (some (.int 1)) (stQ M p pr ln td (nI D) pa ks os ts hs cs s l t q) := by
  have e := @s_X_hasRoomFor sc sa d (stQ M p pr ln td (nI D) pa ks os ts hs cs s l t q) z x p r w q.1 stS_g8 hN k (by omega)
  rw [bz_t hk] at e
  exact e
theorem t_X_cell {sc : Option (Nat × Nat × (Nat → Int32))} {sa : Nat → Nat} {d : Nat} {M : mz_M} {z : Nat × Nat} {x p r : Nat} {pr ln td : Int32} {D : Nat} {pa ks os ts hs cs : Nat → Int32} {s l t : Int32} {q : sQ} (w : g_X M.2.2 x p r) (hN : q.1 ≤ 40) {c : Nat} (hc : s = nI c) (hC : c ≤ 12) {i : Nat} (hi : i < c) : zx sc sa (d + 1) 20 [.ref (p + 1), .int (nI i)] (stQ M p pr ln td (nI D) pa ks os ts hs cs s l t q) z z (some (.int 1)) (stQ M p pr ln td (nI D) pa ks os ts hs cs s l t q) := by
  have e := @s_Sh_hasCell sc sa d (stQ M p pr ln td (nI D) pa ks os ts hs cs s l t q) z (p + 1) 40 (St_w0 (X_w4 w)) (nI i)
  rw [bz_t (by rw [stS_g5, hc]; exact vI_of (by omega) hi)] at e
  exact e
theorem q_X_reads {sc : Option (Nat × Nat × (Nat → Int32))} {sa : Nat → Nat} {d : Nat} {M : mz_M} {z : Nat × Nat} {x p r : Nat} {pr ln td : Int32} {D : Nat} {pa ks os ts hs cs : Nat → Int32} {s l t : Int32} {q : sQ} (w : g_X M.2.2 x p r) (hN : q.1 ≤ 40) {c : Nat} (hc : s = nI c) (hC : c ≤ 12) (hD : D < 60) (hf : okl q.2.2.1 q.1) (ha : nI D - td < 30) {j i : Nat} (hj : j < q.1) (hi : i < c) (hv : vaQ s l t c 40 1 j i 0 q) : zx sc sa (d + 7) 145 [.ref x, .int (nI j), .int (nI i)] (stQ M p pr ln td (nI D) pa ks os ts hs cs s l t q) z z (some (.int (caQ s l t c 1 j i 0 q).1)) (stQ M p pr ln td (nI D + 1) pa (va_up ks D (nI 1)) (va_up os D (nI j)) (va_up ts D (nI i)) (va_up hs D (nI 0)) (va_up cs D ((caQ s l t c 1 j i 0 q).2.2.2.2.2.2.2 - q.2.2.2.2.2.2)) s l t (caQ s l t c 1 j i 0 q).2) := by
  refine zxin ym_X_reads [.ref x, .int (nI j), .int (nI i)] rfl rfl rfl rfl ?_
  refine z_aload_n (q := 1) rfl rfl rfl ?_
  refine z_iload_n (q := 2) rfl rfl rfl ?_
  refine z_iload_n (q := 3) rfl rfl rfl ?_
  refine z_cv2i (q := 6) rfl rfl rfl (X_k w) (t_X_spot w hN hc hC hj hi) ?_
  refine z_if_ne (q := 9) rfl rfl (fun h6 => ?_) (fun h6 => ?_)
  · refine z_aload_n (q := 13) rfl rfl rfl ?_
    refine z_cv0i (q := 16) rfl rfl rfl (X_k w) (t_X_act w hN hc hC ha) ?_
    refine z_if_eq (q := 19) rfl rfl (fun h16 => ?_) (fun h16 => ?_)
    · exact absurd h16 (by decide)
    · refine z_aload_n (q := 20) rfl rfl rfl ?_
      refine z_getR (q := 23) rfl rfl rfl (X_k w) (X_r4 w) ?_
      refine z_iconst (q := 24) (v := 1) rfl rfl rfl ?_
      refine z_iload_n (q := 25) rfl rfl rfl ?_
      refine z_iload_n (q := 26) rfl rfl rfl ?_
      refine z_iconst (q := 27) (v := 0) rfl rfl rfl ?_
      refine z_cv4i (q := 30) rfl rfl rfl (St_k (X_w4 w)) (q_St_perform (k := 1) (a := j) (b := i) (e := 0) (X_w4 w) hD hN hf hc hC hv) ?_
      refine z_goto rfl ?_
      refine z_ireti rfl rfl ?_
      exact ⟨rfl, rfl⟩
  · exact absurd h6 (by decide)
theorem q_X_finds {sc : Option (Nat × Nat × (Nat → Int32))} {sa : Nat → Nat} {d : Nat} {M : mz_M} {z : Nat × Nat} {x p r : Nat} {pr ln td : Int32} {D : Nat} {pa ks os ts hs cs : Nat → Int32} {s l t : Int32} {q : sQ} (w : g_X M.2.2 x p r) (hN : q.1 ≤ 40) {c : Nat} (hc : s = nI c) (hC : c ≤ 12) (hD : D < 60) (hf : okl q.2.2.1 q.1) (ha : nI D - td < 30) {j i : Nat} (hj : j < q.1) (hi : i < c) (hv : vaQ s l t c 40 4 j i 0 q) : zx sc sa (d + 7) 148 [.ref x, .int (nI j), .int (nI i)] (stQ M p pr ln td (nI D) pa ks os ts hs cs s l t q) z z (some (.int (caQ s l t c 4 j i 0 q).1)) (stQ M p pr ln td (nI D + 1) pa (va_up ks D (nI 4)) (va_up os D (nI j)) (va_up ts D (nI i)) (va_up hs D (nI 0)) (va_up cs D ((caQ s l t c 4 j i 0 q).2.2.2.2.2.2.2 - q.2.2.2.2.2.2)) s l t (caQ s l t c 4 j i 0 q).2) := by
  refine zxin ym_X_finds [.ref x, .int (nI j), .int (nI i)] rfl rfl rfl rfl ?_
  refine z_aload_n (q := 1) rfl rfl rfl ?_
  refine z_iload_n (q := 2) rfl rfl rfl ?_
  refine z_iload_n (q := 3) rfl rfl rfl ?_
  refine z_cv2i (q := 6) rfl rfl rfl (X_k w) (t_X_spot w hN hc hC hj hi) ?_
  refine z_if_ne (q := 9) rfl rfl (fun h6 => ?_) (fun h6 => ?_)
  · refine z_aload_n (q := 13) rfl rfl rfl ?_
    refine z_cv0i (q := 16) rfl rfl rfl (X_k w) (t_X_act w hN hc hC ha) ?_
    refine z_if_eq (q := 19) rfl rfl (fun h16 => ?_) (fun h16 => ?_)
    · exact absurd h16 (by decide)
    · refine z_aload_n (q := 20) rfl rfl rfl ?_
      refine z_getR (q := 23) rfl rfl rfl (X_k w) (X_r4 w) ?_
      refine z_iconst (q := 24) (v := 4) rfl rfl rfl ?_
      refine z_iload_n (q := 25) rfl rfl rfl ?_
      refine z_iload_n (q := 26) rfl rfl rfl ?_
      refine z_iconst (q := 27) (v := 0) rfl rfl rfl ?_
      refine z_cv4i (q := 30) rfl rfl rfl (St_k (X_w4 w)) (q_St_perform (k := 4) (a := j) (b := i) (e := 0) (X_w4 w) hD hN hf hc hC hv) ?_
      refine z_goto rfl ?_
      refine z_ireti rfl rfl ?_
      exact ⟨rfl, rfl⟩
  · exact absurd h6 (by decide)
theorem q_X_sets {sc : Option (Nat × Nat × (Nat → Int32))} {sa : Nat → Nat} {d : Nat} {M : mz_M} {z : Nat × Nat} {x p r : Nat} {pr ln td : Int32} {D : Nat} {pa ks os ts hs cs : Nat → Int32} {s l t : Int32} {q : sQ} (w : g_X M.2.2 x p r) (hN : q.1 ≤ 40) {c : Nat} (hc : s = nI c) (hC : c ≤ 12) (hD : D < 60) (hf : okl q.2.2.1 q.1) (ha : nI D - td < 30) {j i k : Nat} (hj : j < q.1) (hi : i < c) (hk : k < c) (hr : q.1 + 1 ≤ 40) (hv : vaQ s l t c 40 2 j i k q) : zx sc sa (d + 7) 146 [.ref x, .int (nI j), .int (nI i), .int (nI k)] (stQ M p pr ln td (nI D) pa ks os ts hs cs s l t q) z z (some (.int (caQ s l t c 2 j i k q).1)) (stQ M p pr ln td (nI D + 1) pa (va_up ks D (nI 2)) (va_up os D (nI j)) (va_up ts D (nI i)) (va_up hs D (nI k)) (va_up cs D ((caQ s l t c 2 j i k q).2.2.2.2.2.2.2 - q.2.2.2.2.2.2)) s l t (caQ s l t c 2 j i k q).2) := by
  refine zxin ym_X_sets [.ref x, .int (nI j), .int (nI i), .int (nI k)] rfl rfl rfl rfl ?_
  refine z_aload_n (q := 1) rfl rfl rfl ?_
  refine z_iload_n (q := 2) rfl rfl rfl ?_
  refine z_iload_n (q := 3) rfl rfl rfl ?_
  refine z_cv2i (q := 6) rfl rfl rfl (X_k w) (t_X_spot w hN hc hC hj hi) ?_
  refine z_if_eq (q := 9) rfl rfl (fun h6 => ?_) (fun h6 => ?_)
  · exact absurd h6 (by decide)
  · refine z_aload_n (q := 10) rfl rfl rfl ?_
    refine z_getR (q := 13) rfl rfl rfl (X_k w) (X_r4 w) ?_
    refine z_getR (q := 16) rfl rfl rfl (St_k (X_w4 w)) (St_r0 (X_w4 w)) ?_
    refine z_iload_n (q := 17) rfl rfl rfl ?_
    refine z_cv1i (q := 20) rfl rfl rfl (Sh_k (St_w0 (X_w4 w))) (t_X_cell w hN hc hC hk) ?_
    refine z_if_ne (q := 23) rfl rfl (fun h20 => ?_) (fun h20 => ?_)
    · refine z_aload_n (q := 27) rfl rfl rfl ?_
      refine z_cv0i (q := 30) rfl rfl rfl (X_k w) (t_X_act w hN hc hC ha) ?_
      refine z_if_eq (q := 33) rfl rfl (fun h30 => ?_) (fun h30 => ?_)
      · exact absurd h30 (by decide)
      · refine z_aload_n (q := 34) rfl rfl rfl ?_
        refine z_iconst (q := 35) (v := 1) rfl rfl rfl ?_
        refine z_cv1i (q := 38) rfl rfl rfl (X_k w) (t_X_room (k := 1) w hN hc hC hr) ?_
        refine z_if_ne (q := 41) rfl rfl (fun h38 => ?_) (fun h38 => ?_)
        · refine z_aload_n (q := 45) rfl rfl rfl ?_
          refine z_getR (q := 48) rfl rfl rfl (X_k w) (X_r4 w) ?_
          refine z_iconst (q := 49) (v := 2) rfl rfl rfl ?_
          refine z_iload_n (q := 50) rfl rfl rfl ?_
          refine z_iload_n (q := 51) rfl rfl rfl ?_
          refine z_iload_n (q := 52) rfl rfl rfl ?_
          refine z_cv4i (q := 55) rfl rfl rfl (St_k (X_w4 w)) (q_St_perform (k := 2) (a := j) (b := i) (e := k) (X_w4 w) hD hN hf hc hC hv) ?_
          refine z_ireti rfl rfl ?_
          exact ⟨rfl, rfl⟩
        · exact absurd h38 (by decide)
    · exact absurd h20 (by decide)
theorem stQ_J {M : mz_M} {p : Nat} {pr ln td de : Int32} {pa ks os ts hs cs : Nat → Int32} {s l t : Int32} {q : sQ} : (stQ M p pr ln td de pa ks os ts hs cs s l t q).2.1 (p + 2) = q.2.1 := shP_a0 (sh := p + 1)
theorem stQ_l {M : mz_M} {p : Nat} {pr ln td de : Int32} {pa ks os ts hs cs : Nat → Int32} {s l t : Int32} {q : sQ} : (stQ M p pr ln td de pa ks os ts hs cs s l t q).1 (p + 3) = q.2.2.1 := shP_a1 (sh := p + 1)
theorem stQ_m {M : mz_M} {p : Nat} {pr ln td de : Int32} {pa ks os ts hs cs : Nat → Int32} {s l t : Int32} {q : sQ} : (stQ M p pr ln td de pa ks os ts hs cs s l t q).1 (p + 5) = q.2.2.2.2.1 := shP_a3 (sh := p + 1)
theorem t_X_joined {sc : Option (Nat × Nat × (Nat → Int32))} {sa : Nat → Nat} {d : Nat} {M : mz_M} {z : Nat × Nat} {x p r : Nat} {pr ln td : Int32} {D : Nat} {pa ks os ts hs cs : Nat → Int32} {s l t : Int32} {q : sQ} (w : g_X M.2.2 x p r) (hN : q.1 ≤ 40) {c : Nat} (hc : s = nI c) (hC : c ≤ 12) {j : Nat} (hj : j < q.1) {a b : Int32} (h : ¬ rt (q.2.1 j) c a = rt (q.2.1 j) c b) : zx sc sa (d + 4) 34 [.ref (p + 1), .int (nI j), .int a, .int b] (stQ M p pr ln td (nI D) pa ks os ts hs cs s l t q) z z (some (.int 0)) (stQ M p pr ln td (nI D) pa ks os ts hs cs s l t q) := by
  have e := @s_Sh_areJoined sc sa d (stQ M p pr ln td (nI D) pa ks os ts hs cs s l t q) z (p + 1) 40 (St_w0 (X_w4 w)) q.1 stS_g8 hN (by omega) j hj c (by rw [stS_g5]; exact hc) hC a b
  rw [show (stQ M p pr ln td (nI D) pa ks os ts hs cs s l t q).2.1 (p + 1 + 1) = q.2.1 from stQ_J, bz_f h] at e
  exact e
theorem t_X_direct {sc : Option (Nat × Nat × (Nat → Int32))} {sa : Nat → Nat} {d : Nat} {M : mz_M} {z : Nat × Nat} {x p r : Nat} {pr ln td : Int32} {D : Nat} {pa ks os ts hs cs : Nat → Int32} {s l t : Int32} {q : sQ} (w : g_X M.2.2 x p r) (hN : q.1 ≤ 40) {c : Nat} (hc : s = nI c) (hC : c ≤ 12) {j : Nat} (hj : j < q.1) (h : ¬ q.2.2.1 j = -1) : zx sc sa (d + 2) 37 [.ref (p + 1), .int (nI j)] (stQ M p pr ln td (nI D) pa ks os ts hs cs s l t q) z z (some (.int 0)) (stQ M p pr ln td (nI D) pa ks os ts hs cs s l t q) := by
  have e := @s_Sh_isDirect sc sa d (stQ M p pr ln td (nI D) pa ks os ts hs cs s l t q) z (p + 1) 40 (St_w0 (X_w4 w)) q.1 stS_g8 hN (by omega) j hj
  rw [show (stQ M p pr ln td (nI D) pa ks os ts hs cs s l t q).1 (p + 1 + 2) = q.2.2.1 from stQ_l, bz_f h] at e
  exact e
def ulN (x y : Int64) (c : Nat) : Int32 := fo (fun i acc => if nmI x (nI i) = nmI y (nI i) then acc else acc + Int32.ofInt 1) 0 c
theorem t_X_merging0 {sc : Option (Nat × Nat × (Nat → Int32))} {sa : Nat → Nat} {d : Nat} {M : mz_M} {z : Nat × Nat} {x p r : Nat} {pr ln td : Int32} {D : Nat} {pa ks os ts hs cs : Nat → Int32} {s l t : Int32} {q : sQ} (w : g_X M.2.2 x p r) (hN : q.1 ≤ 40) {c : Nat} (hc : s = nI c) (hC : c ≤ 12) (ho : okm q.2.2.2.2.1 q.1) {j i : Nat} (hj : j < q.1) (hi : i < q.1) {u : Nat} (hu : ulN (q.2.1 j) (mgR c j i q) c = nI u) : zx sc sa (d + 5) 150 [.ref x, .int (nI j), .int (nI i), .int 0] (stQ M p pr ln td (nI D) pa ks os ts hs cs s l t q) z z (some (.int (nI u))) (stQ M p pr ln td (nI D) pa ks os ts hs cs s l t q) := by
  have e := @s_X_merging sc sa d (stQ M p pr ln td (nI D) pa ks os ts hs cs s l t q) z x p r w q.1 stS_g8 hN c (by rw [stS_g5]; exact hc) hC (by rw [stQ_m]; exact ho) (nI j) (nI i) 0
  rw [if_pos ⟨vI_of (by omega) hj, vI_of (by omega) hi, by decide, by decide⟩, if_neg (by decide), nI_clamp (show j < 2 ^ 31 by omega), nI_clamp (show i < 2 ^ 31 by omega), stQ_J, stQ_m] at e
  rw [← hu]
  exact e
theorem t_X_patching {sc : Option (Nat × Nat × (Nat → Int32))} {sa : Nat → Nat} {d : Nat} {M : mz_M} {z : Nat × Nat} {x p r : Nat} {pr ln td : Int32} {D : Nat} {pa ks os ts hs cs : Nat → Int32} {s l t : Int32} {q : sQ} (w : g_X M.2.2 x p r) (hN : q.1 ≤ 40) {c : Nat} (hc : s = nI c) (hC : c ≤ 12) {j i k : Nat} (hj : j < q.1) (hi : i < q.1) (hk : k < q.1) {u : Nat} (hu : ulN (q.2.1 k) (paR c j i k q) c = nI u) : zx sc sa (d + 4) 153 [.ref x, .int (nI j), .int (nI i), .int (nI k)] (stQ M p pr ln td (nI D) pa ks os ts hs cs s l t q) z z (some (.int (nI u))) (stQ M p pr ln td (nI D) pa ks os ts hs cs s l t q) := by
  have e := @s_X_patching sc sa d (stQ M p pr ln td (nI D) pa ks os ts hs cs s l t q) z x p r w q.1 stS_g8 hN c (by rw [stS_g5]; exact hc) hC (nI j) (nI i) (nI k)
  rw [if_pos ⟨vI_of (by omega) hj, vI_of (by omega) hi, vI_of (by omega) hk⟩, nI_clamp (show j < 2 ^ 31 by omega), nI_clamp (show i < 2 ^ 31 by omega), nI_clamp (show k < 2 ^ 31 by omega), stQ_J] at e
  rw [← hu]
  exact e
theorem q_X_joins {sc : Option (Nat × Nat × (Nat → Int32))} {sa : Nat → Nat} {d : Nat} {M : mz_M} {z : Nat × Nat} {x p r : Nat} {pr ln td : Int32} {D : Nat} {pa ks os ts hs cs : Nat → Int32} {s l t : Int32} {q : sQ} (w : g_X M.2.2 x p r) (hN : q.1 ≤ 40) {c : Nat} (hc : s = nI c) (hC : c ≤ 12) (hD : D < 60) (hf : okl q.2.2.1 q.1) (ha : nI D - td < 30) {j i k : Nat} (hj : j < q.1) (hi : i < c) (hk : k < c) (hr : q.1 + 1 ≤ 40) (hne : ¬ rt (q.2.1 j) c (nI i) = rt (q.2.1 j) c (nI k)) (hv : vaQ s l t c 40 3 j i k q) : zx sc sa (d + 7) 147 [.ref x, .int (nI j), .int (nI i), .int (nI k)] (stQ M p pr ln td (nI D) pa ks os ts hs cs s l t q) z z (some (.int (caQ s l t c 3 j i k q).1)) (stQ M p pr ln td (nI D + 1) pa (va_up ks D (nI 3)) (va_up os D (nI j)) (va_up ts D (nI i)) (va_up hs D (nI k)) (va_up cs D ((caQ s l t c 3 j i k q).2.2.2.2.2.2.2 - q.2.2.2.2.2.2)) s l t (caQ s l t c 3 j i k q).2) := by
  refine zxin ym_X_joins [.ref x, .int (nI j), .int (nI i), .int (nI k)] rfl rfl rfl rfl ?_
  refine z_aload_n (q := 1) rfl rfl rfl ?_
  refine z_iload_n (q := 2) rfl rfl rfl ?_
  refine z_iload_n (q := 3) rfl rfl rfl ?_
  refine z_cv2i (q := 6) rfl rfl rfl (X_k w) (t_X_spot w hN hc hC hj hi) ?_
  refine z_if_eq (q := 9) rfl rfl (fun h6 => ?_) (fun h6 => ?_)
  · exact absurd h6 (by decide)
  · refine z_aload_n (q := 10) rfl rfl rfl ?_
    refine z_getR (q := 13) rfl rfl rfl (X_k w) (X_r4 w) ?_
    refine z_getR (q := 16) rfl rfl rfl (St_k (X_w4 w)) (St_r0 (X_w4 w)) ?_
    refine z_iload_n (q := 17) rfl rfl rfl ?_
    refine z_cv1i (q := 20) rfl rfl rfl (Sh_k (St_w0 (X_w4 w))) (t_X_cell w hN hc hC hk) ?_
    refine z_if_ne (q := 23) rfl rfl (fun h20 => ?_) (fun h20 => ?_)
    · refine z_aload_n (q := 27) rfl rfl rfl ?_
      refine z_cv0i (q := 30) rfl rfl rfl (X_k w) (t_X_act w hN hc hC ha) ?_
      refine z_if_eq (q := 33) rfl rfl (fun h30 => ?_) (fun h30 => ?_)
      · exact absurd h30 (by decide)
      · refine z_aload_n (q := 34) rfl rfl rfl ?_
        refine z_iconst (q := 35) (v := 1) rfl rfl rfl ?_
        refine z_cv1i (q := 38) rfl rfl rfl (X_k w) (t_X_room (k := 1) w hN hc hC hr) ?_
        refine z_if_eq (q := 41) rfl rfl (fun h38 => ?_) (fun h38 => ?_)
        · exact absurd h38 (by decide)
        · refine z_aload_n (q := 42) rfl rfl rfl ?_
          refine z_getR (q := 45) rfl rfl rfl (X_k w) (X_r4 w) ?_
          refine z_getR (q := 48) rfl rfl rfl (St_k (X_w4 w)) (St_r0 (X_w4 w)) ?_
          refine z_iload_n (q := 49) rfl rfl rfl ?_
          refine z_iload_n (q := 50) rfl rfl rfl ?_
          refine z_iload_n (q := 51) rfl rfl rfl ?_
          refine z_cv3i (q := 54) rfl rfl rfl (Sh_k (St_w0 (X_w4 w))) (t_X_joined w hN hc hC hj hne) ?_
          refine z_if_eq (q := 57) rfl rfl (fun h54 => ?_) (fun h54 => ?_)
          · refine z_aload_n (q := 61) rfl rfl rfl ?_
            refine z_getR (q := 64) rfl rfl rfl (X_k w) (X_r4 w) ?_
            refine z_iconst (q := 65) (v := 3) rfl rfl rfl ?_
            refine z_iload_n (q := 66) rfl rfl rfl ?_
            refine z_iload_n (q := 67) rfl rfl rfl ?_
            refine z_iload_n (q := 68) rfl rfl rfl ?_
            refine z_cv4i (q := 71) rfl rfl rfl (St_k (X_w4 w)) (q_St_perform (k := 3) (a := j) (b := i) (e := k) (X_w4 w) hD hN hf hc hC hv) ?_
            refine z_ireti rfl rfl ?_
            exact ⟨rfl, rfl⟩
          · exact absurd h54 (by decide)
    · exact absurd h20 (by decide)
theorem q_X_snaps {sc : Option (Nat × Nat × (Nat → Int32))} {sa : Nat → Nat} {d : Nat} {M : mz_M} {z : Nat × Nat} {x p r : Nat} {pr ln td : Int32} {D : Nat} {pa ks os ts hs cs : Nat → Int32} {s l t : Int32} {q : sQ} (w : g_X M.2.2 x p r) (hN : q.1 ≤ 40) {c : Nat} (hc : s = nI c) (hC : c ≤ 12) (hD : D < 60) (hf : okl q.2.2.1 q.1) (ha : nI D - td < 30) {j : Nat} (hk : j < q.1) (hne : ¬ q.2.2.1 j = -1) (hv : vaQ s l t c 40 5 j 0 0 q) : zx sc sa (d + 7) 149 [.ref x, .int (nI j)] (stQ M p pr ln td (nI D) pa ks os ts hs cs s l t q) z z (some (.int (caQ s l t c 5 j 0 0 q).1)) (stQ M p pr ln td (nI D + 1) pa (va_up ks D (nI 5)) (va_up os D (nI j)) (va_up ts D (nI 0)) (va_up hs D (nI 0)) (va_up cs D ((caQ s l t c 5 j 0 0 q).2.2.2.2.2.2.2 - q.2.2.2.2.2.2)) s l t (caQ s l t c 5 j 0 0 q).2) := by
  refine zxin ym_X_snaps [.ref x, .int (nI j)] rfl rfl rfl rfl ?_
  refine z_aload_n (q := 1) rfl rfl rfl ?_
  refine z_iload_n (q := 2) rfl rfl rfl ?_
  refine z_cv1i (q := 5) rfl rfl rfl (X_k w) (t_X_ver w hN hc hC hk) ?_
  refine z_if_ne (q := 8) rfl rfl (fun h5 => ?_) (fun h5 => ?_)
  · refine z_aload_n (q := 12) rfl rfl rfl ?_
    refine z_cv0i (q := 15) rfl rfl rfl (X_k w) (t_X_act w hN hc hC ha) ?_
    refine z_if_eq (q := 18) rfl rfl (fun h15 => ?_) (fun h15 => ?_)
    · exact absurd h15 (by decide)
    · refine z_aload_n (q := 19) rfl rfl rfl ?_
      refine z_getR (q := 22) rfl rfl rfl (X_k w) (X_r4 w) ?_
      refine z_getR (q := 25) rfl rfl rfl (St_k (X_w4 w)) (St_r0 (X_w4 w)) ?_
      refine z_iload_n (q := 26) rfl rfl rfl ?_
      refine z_cv1i (q := 29) rfl rfl rfl (Sh_k (St_w0 (X_w4 w))) (t_X_direct w hN hc hC hk hne) ?_
      refine z_if_eq (q := 32) rfl rfl (fun h29 => ?_) (fun h29 => ?_)
      · refine z_aload_n (q := 36) rfl rfl rfl ?_
        refine z_getR (q := 39) rfl rfl rfl (X_k w) (X_r4 w) ?_
        refine z_iconst (q := 40) (v := 5) rfl rfl rfl ?_
        refine z_iload_n (q := 41) rfl rfl rfl ?_
        refine z_iconst (q := 42) (v := 0) rfl rfl rfl ?_
        refine z_iconst (q := 43) (v := 0) rfl rfl rfl ?_
        refine z_cv4i (q := 46) rfl rfl rfl (St_k (X_w4 w)) (q_St_perform (k := 5) (a := j) (b := 0) (e := 0) (X_w4 w) hD hN hf hc hC hv) ?_
        refine z_ireti rfl rfl ?_
        exact ⟨rfl, rfl⟩
      · exact absurd h29 (by decide)
  · exact absurd h5 (by decide)
theorem q_X_merges {sc : Option (Nat × Nat × (Nat → Int32))} {sa : Nat → Nat} {d : Nat} {M : mz_M} {z : Nat × Nat} {x p r : Nat} {pr ln td : Int32} {D : Nat} {pa ks os ts hs cs : Nat → Int32} {s l t : Int32} {q : sQ} (w : g_X M.2.2 x p r) (hN : q.1 ≤ 40) {c : Nat} (hc : s = nI c) (hC : c ≤ 12) (hD : D < 60) (hf : okl q.2.2.1 q.1) (ha : nI D - td < 30) (ho : okm q.2.2.2.2.1 q.1) {j i : Nat} (hj : j < q.1) (hi : i < q.1) {u : Nat} (hu : ulN (q.2.1 j) (mgR c j i q) c = nI u) (hr : q.1 + u ≤ 40) (hv : vaQ s l t c 40 6 j i 0 q) : zx sc sa (d + 7) 152 [.ref x, .int (nI j), .int (nI i)] (stQ M p pr ln td (nI D) pa ks os ts hs cs s l t q) z z (some (.int (caQ s l t c 6 j i 0 q).1)) (stQ M p pr ln td (nI D + 1) pa (va_up ks D (nI 6)) (va_up os D (nI j)) (va_up ts D (nI i)) (va_up hs D (nI 0)) (va_up cs D ((caQ s l t c 6 j i 0 q).2.2.2.2.2.2.2 - q.2.2.2.2.2.2)) s l t (caQ s l t c 6 j i 0 q).2) := by
  refine zxin ym_X_merges [.ref x, .int (nI j), .int (nI i)] rfl rfl rfl rfl ?_
  refine z_aload_n (q := 1) rfl rfl rfl ?_
  refine z_iload_n (q := 2) rfl rfl rfl ?_
  refine z_iload_n (q := 3) rfl rfl rfl ?_
  refine z_cv2i (q := 6) rfl rfl rfl (X_k w) (t_X_vers w hN hc hC hj hi) ?_
  refine z_if_ne (q := 9) rfl rfl (fun h6 => ?_) (fun h6 => ?_)
  · refine z_aload_n (q := 13) rfl rfl rfl ?_
    refine z_cv0i (q := 16) rfl rfl rfl (X_k w) (t_X_act w hN hc hC ha) ?_
    refine z_if_eq (q := 19) rfl rfl (fun h16 => ?_) (fun h16 => ?_)
    · exact absurd h16 (by decide)
    · refine z_aload_n (q := 20) rfl rfl rfl ?_
      refine z_aload_n (q := 21) rfl rfl rfl ?_
      refine z_iload_n (q := 22) rfl rfl rfl ?_
      refine z_iload_n (q := 23) rfl rfl rfl ?_
      refine z_iconst (q := 24) (v := 0) rfl rfl rfl ?_
      refine z_cv3i (q := 27) rfl rfl rfl (X_k w) (t_X_merging0 w hN hc hC ho hj hi hu) ?_
      refine z_cv1i (q := 30) rfl rfl rfl (X_k w) (t_X_room w hN hc hC hr) ?_
      refine z_if_ne (q := 33) rfl rfl (fun h30 => ?_) (fun h30 => ?_)
      · refine z_aload_n (q := 37) rfl rfl rfl ?_
        refine z_getR (q := 40) rfl rfl rfl (X_k w) (X_r4 w) ?_
        refine z_bipush (q := 42) (v := 6) rfl rfl rfl ?_
        refine z_iload_n (q := 43) rfl rfl rfl ?_
        refine z_iload_n (q := 44) rfl rfl rfl ?_
        refine z_iconst (q := 45) (v := 0) rfl rfl rfl ?_
        refine z_cv4i (q := 48) rfl rfl rfl (St_k (X_w4 w)) (q_St_perform (k := 6) (a := j) (b := i) (e := 0) (X_w4 w) hD hN hf hc hC hv) ?_
        refine z_ireti rfl rfl ?_
        exact ⟨rfl, rfl⟩
      · exact absurd h30 (by decide)
  · exact absurd h6 (by decide)
theorem q_X_patches {sc : Option (Nat × Nat × (Nat → Int32))} {sa : Nat → Nat} {d : Nat} {M : mz_M} {z : Nat × Nat} {x p r : Nat} {pr ln td : Int32} {D : Nat} {pa ks os ts hs cs : Nat → Int32} {s l t : Int32} {q : sQ} (w : g_X M.2.2 x p r) (hN : q.1 ≤ 40) {c : Nat} (hc : s = nI c) (hC : c ≤ 12) (hD : D < 60) (hf : okl q.2.2.1 q.1) (ha : nI D - td < 30) {j i k : Nat} (hj : j < q.1) (hi : i < q.1) (hk : k < q.1) {u : Nat} (hu : ulN (q.2.1 k) (paR c j i k q) c = nI u) (hr : q.1 + u ≤ 40) (hv : vaQ s l t c 40 7 j i k q) : zx sc sa (d + 7) 154 [.ref x, .int (nI j), .int (nI i), .int (nI k)] (stQ M p pr ln td (nI D) pa ks os ts hs cs s l t q) z z (some (.int (caQ s l t c 7 j i k q).1)) (stQ M p pr ln td (nI D + 1) pa (va_up ks D (nI 7)) (va_up os D (nI j)) (va_up ts D (nI i)) (va_up hs D (nI k)) (va_up cs D ((caQ s l t c 7 j i k q).2.2.2.2.2.2.2 - q.2.2.2.2.2.2)) s l t (caQ s l t c 7 j i k q).2) := by
  refine zxin ym_X_patches [.ref x, .int (nI j), .int (nI i), .int (nI k)] rfl rfl rfl rfl ?_
  refine z_aload_n (q := 1) rfl rfl rfl ?_
  refine z_iload_n (q := 2) rfl rfl rfl ?_
  refine z_iload_n (q := 3) rfl rfl rfl ?_
  refine z_cv2i (q := 6) rfl rfl rfl (X_k w) (t_X_vers w hN hc hC hj hi) ?_
  refine z_if_eq (q := 9) rfl rfl (fun h6 => ?_) (fun h6 => ?_)
  · exact absurd h6 (by decide)
  · refine z_aload_n (q := 10) rfl rfl rfl ?_
    refine z_iload_n (q := 11) rfl rfl rfl ?_
    refine z_cv1i (q := 14) rfl rfl rfl (X_k w) (t_X_ver w hN hc hC hk) ?_
    refine z_if_ne (q := 17) rfl rfl (fun h14 => ?_) (fun h14 => ?_)
    · refine z_aload_n (q := 21) rfl rfl rfl ?_
      refine z_cv0i (q := 24) rfl rfl rfl (X_k w) (t_X_act w hN hc hC ha) ?_
      refine z_if_eq (q := 27) rfl rfl (fun h24 => ?_) (fun h24 => ?_)
      · exact absurd h24 (by decide)
      · refine z_aload_n (q := 28) rfl rfl rfl ?_
        refine z_aload_n (q := 29) rfl rfl rfl ?_
        refine z_iload_n (q := 30) rfl rfl rfl ?_
        refine z_iload_n (q := 31) rfl rfl rfl ?_
        refine z_iload_n (q := 32) rfl rfl rfl ?_
        refine z_cv3i (q := 35) rfl rfl rfl (X_k w) (t_X_patching w hN hc hC hj hi hk hu) ?_
        refine z_cv1i (q := 38) rfl rfl rfl (X_k w) (t_X_room w hN hc hC hr) ?_
        refine z_if_ne (q := 41) rfl rfl (fun h38 => ?_) (fun h38 => ?_)
        · refine z_aload_n (q := 45) rfl rfl rfl ?_
          refine z_getR (q := 48) rfl rfl rfl (X_k w) (X_r4 w) ?_
          refine z_bipush (q := 50) (v := 7) rfl rfl rfl ?_
          refine z_iload_n (q := 51) rfl rfl rfl ?_
          refine z_iload_n (q := 52) rfl rfl rfl ?_
          refine z_iload_n (q := 53) rfl rfl rfl ?_
          refine z_cv4i (q := 56) rfl rfl rfl (St_k (X_w4 w)) (q_St_perform (k := 7) (a := j) (b := i) (e := k) (X_w4 w) hD hN hf hc hC hv) ?_
          refine z_ireti rfl rfl ?_
          exact ⟨rfl, rfl⟩
        · exact absurd h38 (by decide)
    · exact absurd h14 (by decide)
