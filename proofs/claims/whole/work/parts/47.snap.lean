theorem t_X_ifSnap {sc : Option (Nat × Nat × (Nat → Int32))} {sa : Nat → Nat} {d : Nat} {M : mz_M} {z : Nat × Nat} {x p r : Nat} {pr ln td de : Int32} {pa ks os ts hs cs : Nat → Int32} {s l t : Int32} {q : sQ} (w : g_X M.2.2 x p r) (hN : q.1 ≤ 40) (hf : okl q.2.2.1 q.1) {j : Nat} (hj : j < q.1) : zx sc sa (d + 3) 43 [.ref (p + 1), .int (nI j)] (stQ M p pr ln td de pa ks os ts hs cs s l t q) z z (some (.int (fo (fun v acc => acc + nI (wl (va_up q.2.2.1 j (-1)) q.1 v)) 0 q.1))) (stQ M p pr ln td de pa ks os ts hs cs s l t q) := p_Sh_allWaysIfSnapped (M := stB M p pr ln td de pa ks os ts hs cs) (St_w0 (X_w4 w)) rfl hN (by omega) hj hf
theorem t_X_verS {sc : Option (Nat × Nat × (Nat → Int32))} {sa : Nat → Nat} {d : Nat} {M : mz_M} {z : Nat × Nat} {x p r : Nat} {pr ln td de : Int32} {pa ks os ts hs cs : Nat → Int32} {s l t : Int32} {q : sQ} (w : g_X M.2.2 x p r) (hN : q.1 ≤ 40) (hf : okl q.2.2.1 q.1) {j : Nat} (hj : j < q.1) : zx sc sa (d + 2) 110 [.ref x, .int (nI j)] (stQ M p pr ln td de pa ks os ts hs cs s l t q) z z (some (.int 1)) (stQ M p pr ln td de pa ks os ts hs cs s l t q) := by
  have e := @s_X_hasVersion sc sa d (stQ M p pr ln td de pa ks os ts hs cs s l t q) z x p r w q.1 stS_g8 hN (nI j)
  rw [bz_t (vI_of (by omega) hj)] at e
  exact e
theorem q_X_snapping {sc : Option (Nat × Nat × (Nat → Int32))} {sa : Nat → Nat} {d : Nat} {M : mz_M} {z : Nat × Nat} {x p r : Nat} {pr ln td de : Int32} {pa ks os ts hs cs : Nat → Int32} {s l t : Int32} {q : sQ} (w : g_X M.2.2 x p r) (hN : q.1 ≤ 40) (hf : okl q.2.2.1 q.1) {j : Nat} (hj : j < q.1) : zx sc sa (d + 4) 129 [.ref x, .int (nI j)] (stQ M p pr ln td de pa ks os ts hs cs s l t q) z z (some (.int (fo (fun v acc => acc + nI (wl (va_up q.2.2.1 j (-1)) q.1 v)) 0 q.1))) (stQ M p pr ln td de pa ks os ts hs cs s l t q) := by
  refine zxin ym_X_snapping [.ref x, .int (nI j)] rfl rfl rfl rfl ?_
  refine z_aload_n (q := 1) rfl rfl rfl ?_
  refine z_iload_n (q := 2) rfl rfl rfl ?_
  refine z_cv1i (q := 5) rfl rfl rfl (X_k w) (t_X_verS w hN hf hj) ?_
  refine z_if_eq (q := 8) rfl rfl (fun h5 => ?_) (fun h5 => ?_)
  · exact absurd h5 (by decide)
  · refine z_aload_n (q := 9) rfl rfl rfl ?_
    refine z_getR (q := 12) rfl rfl rfl (X_k w) (X_r4 w) ?_
    refine z_getR (q := 15) rfl rfl rfl (St_k (X_w4 w)) (St_r0 (X_w4 w)) ?_
    refine z_iload_n (q := 16) rfl rfl rfl ?_
    refine z_cv1i (q := 19) rfl rfl rfl (Sh_k (St_w0 (X_w4 w))) (t_X_ifSnap w hN hf hj) ?_
    refine z_goto rfl ?_
    refine z_ireti rfl rfl ?_
    exact ⟨rfl, rfl⟩
theorem n_X_snapping {sc : Option (Nat × Nat × (Nat → Int32))} {sa : Nat → Nat} {d : Nat} {M : mz_M} {z : Nat × Nat} {x p q : Nat} (w : g_X M.2.2 x p q) {n : Nat} (hn : M.1 (p + 1) 8 = nI n) (hN : n ≤ 40) {a : Int32} (hno : ¬ vI n a) : zx sc sa (d + 4) 129 [.ref x, .int a] M z z (some (.int (-2))) M := by
  refine zxin ym_X_snapping [.ref x, .int a] rfl rfl rfl rfl ?_
  refine z_aload_n (q := 1) rfl rfl rfl ?_
  refine z_iload_n (q := 2) rfl rfl rfl ?_
  refine z_cv1i (q := 5) rfl rfl rfl (X_k w) (s_X_hasVersion w hn hN) ?_
  refine z_if_eq (q := 8) rfl rfl (fun h5 => ?_) (fun h5 => ?_)
  · refine z_bipush (q := 24) (v := -2) rfl rfl rfl ?_
    refine z_ireti rfl rfl ?_
    exact ⟨rfl, rfl⟩
  · exact absurd (bz_n.mp h5) hno
