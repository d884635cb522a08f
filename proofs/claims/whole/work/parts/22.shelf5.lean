def rcF (s l t : Int32) (n j : Nat) (lt lc : Nat → Int32) (p : Int32) : (Nat → Int32) × (Nat → Int32) × Int32 :=
  if l = 2 ∧ ¬ nI (wl lt n j) ≤ t then (va_up lt j (-1), va_up lc j (-1), p + (nI (wl lt n j) + s)) else ((twF n (nI j) (-1) (-1) lt lc).1, (twF n (nI j) (-1) (-1) lt lc).2, p + nI (wl lt n j))
def rdF (s l t : Int32) (n j : Nat) (cell : Int32) (lt lc : Nat → Int32) (p : Int32) : (Nat → Int32) × (Nat → Int32) × Int32 :=
  if l = 1 then (lt, lc, p + nI (la lt lc cell n j)) else rcF s l t n j lt lc p
def stF (s l t : Int32) (n j : Nat) (cell : Int32) (lt lc : Nat → Int32) (p : Int32) : (Nat → Int32) × (Nat → Int32) × Int32 :=
  if l = 1 then (va_up (va_up lt n (-1)) n (nI j), va_up (va_up lc n (-1)) n cell, p + 1)
  else (va_up (va_up (rcF s l t n j lt lc p).1 n (-1)) j (nI n), va_up (va_up (rcF s l t n j lt lc p).2.1 n (-1)) j cell, (rcF s l t n j lt lc p).2.2 + 1)
def frF (s l t : Int32) (n j : Nat) (J : Nat → Int64) : Nat → Int32 → (Nat → Int32) → (Nat → Int32) → Int32 → Int32 × (Nat → Int32) × (Nat → Int32) × Int32
  | 0, a, lt, lc, p => (a, lt, lc, p)
  | k + 1, a, lt, lc, p => if nmI (J j) a = a then (a, rdF s l t n j a lt lc p) else frF s l t n j J k (nmI (J j) a) (rdF s l t n j a lt lc p).1 (rdF s l t n j a lt lc p).2.1 (rdF s l t n j a lt lc p).2.2
theorem okl_tw {n : Nat} (hn : n < 2 ^ 31) : ∀ (k : Nat) (a b bc : Int32) (lt lc : Nat → Int32), okv n a → okv n b → okl lt n → okl (twF k a b bc lt lc).1 n := by
  intro k
  induction k with
  | zero => intro a b bc lt lc _ _ h; exact h
  | succ k ih =>
    intro a b bc lt lc ha hb h
    unfold twF
    by_cases h1 : a = -1
    · rw [if_pos h1]; exact h
    · rw [if_neg h1]
      exact ih _ _ _ _ _ (okv_f h ha h1 hn) ha (okl_up h hb)
theorem okl_rc {s l t : Int32} {n j : Nat} {lt lc : Nat → Int32} {p : Int32} (hn : n < 2 ^ 31) (hj : j < n) (h : okl lt n) : okl (rcF s l t n j lt lc p).1 n := by
  unfold rcF
  by_cases h1 : l = 2 ∧ ¬ nI (wl lt n j) ≤ t
  · rw [if_pos h1]; exact okl_up h (Or.inl rfl)
  · rw [if_neg h1]; exact okl_tw hn _ _ _ _ _ _ (Or.inr ⟨j, hj, rfl⟩) (Or.inl rfl) h
theorem okl_rd {s l t : Int32} {n j : Nat} {cell : Int32} {lt lc : Nat → Int32} {p : Int32} (hn : n < 2 ^ 31) (hj : j < n) (h : okl lt n) : okl (rdF s l t n j cell lt lc p).1 n := by
  unfold rdF
  by_cases h1 : l = 1
  · rw [if_pos h1]; exact h
  · rw [if_neg h1]; exact okl_rc hn hj h
theorem p_Sh_reach {sc : Option (Nat × Nat × (Nat → Int32))} {sa : Nat → Nat} {d : Nat} {M : mz_M} {z : Nat × Nat} {sh N : Nat} {s l t m p : Int32} {J : Nat → Int64} {lt lc mo mc : Nat → Int32} (w : g_Sh M.2.2 sh N) {n : Nat} (hn : m = nI n) (hN : n ≤ N) (hM : N ≤ 200) {j : Nat} (hj : j < n) (hf : okl lt n)  : zx sc sa (d + 2) 53 [.ref sh, .int (nI j)] (shP M sh s l t m p J lt lc mo mc) z z none (shP M sh s l t m (rcF s l t n j lt lc p).2.2 J (rcF s l t n j lt lc p).1 (rcF s l t n j lt lc p).2.1 mo mc) := by
  refine zxin ym_Sh_reach [.ref sh, .int (nI j), .retAddr 0] rfl rfl rfl rfl ?_
  refine z_aload_n (q := 1) rfl rfl rfl ?_
  refine z_iload_n (q := 2) rfl rfl rfl ?_
  refine z_cv1i (q := 5) rfl rfl rfl (Sh_k w) (p_Sh_wayFrom w hn hN hM hj hf) ?_
  refine z_istore_n (q := 6) (L2 := [_, _, _]) rfl rfl rfl rfl ?_
  refine z_aload_n (q := 7) rfl rfl rfl ?_
  refine z_iload_n (q := 8) rfl rfl rfl ?_
  refine z_cv1i (q := 11) rfl rfl rfl (Sh_k w) (p_Sh_isTooLong w) ?_
  refine z_if_eq (q := 14) rfl rfl (fun h11 => ?_) (fun h11 => ?_)
  · refine z_aload_n (q := 24) rfl rfl rfl ?_
    refine z_iload_n (q := 25) rfl rfl rfl ?_
    refine z_cv1v (q := 28) rfl rfl rfl (Sh_k w) (p_Sh_turnWay w hn hN hM hj hf) ?_
    refine z_aload_n (q := 29) rfl rfl rfl ?_
    refine z_dup (q := 30) rfl rfl rfl ?_
    refine z_getI (q := 33) rfl rfl rfl (Sh_k w) ?_
    rw [shP_g9]
    refine z_iload_n (q := 34) rfl rfl rfl ?_
    refine z_iadd (q := 35) rfl rfl ?_
    refine z_putI (q := 38) rfl rfl rfl (by decide) rfl rfl (Sh_k w) ?_
    rw [shP_u9]
    refine z_ret rfl rfl ?_
    first | rw [bz_n] at h11 | rw [bz_0] at h11
    refine ⟨rfl, ?_⟩
    unfold rcF
    first | rw [if_pos h11] | rw [if_neg h11]
  · refine z_aload_n (q := 15) rfl rfl rfl ?_
    refine z_iload_n (q := 16) rfl rfl rfl ?_
    refine z_iload_n (q := 17) rfl rfl rfl ?_
    refine z_cv2v (q := 20) rfl rfl rfl (Sh_k w) (p_Sh_giveRow w hn hN hM hj) ?_
    refine z_goto rfl ?_
    refine z_ret rfl rfl ?_
    first | rw [bz_n] at h11 | rw [bz_0] at h11
    refine ⟨rfl, ?_⟩
    unfold rcF
    first | rw [if_pos h11] | rw [if_neg h11]
theorem p_Sh_readCell {sc : Option (Nat × Nat × (Nat → Int32))} {sa : Nat → Nat} {d : Nat} {M : mz_M} {z : Nat × Nat} {sh N : Nat} {s l t m p : Int32} {J : Nat → Int64} {lt lc mo mc : Nat → Int32} (w : g_Sh M.2.2 sh N) {n : Nat} (hn : m = nI n) (hN : n ≤ N) (hM : N ≤ 200) {j : Nat} (hj : j < n) (hf : okl lt n) {cell : Int32} : zx sc sa (d + 3) 52 [.ref sh, .int (nI j), .int cell] (shP M sh s l t m p J lt lc mo mc) z z (some (.int (nmI (J j) cell))) (shP M sh s l t m (rdF s l t n j cell lt lc p).2.2 J (rdF s l t n j cell lt lc p).1 (rdF s l t n j cell lt lc p).2.1 mo mc) := by
  refine zxin ym_Sh_readCell [.ref sh, .int (nI j), .int cell] rfl rfl rfl rfl ?_
  refine z_aload_n (q := 1) rfl rfl rfl ?_
  refine z_getI (q := 4) rfl rfl rfl (Sh_k w) ?_
  rw [shP_g6]
  refine z_iconst (q := 5) (v := 1) rfl rfl rfl ?_
  refine z_ic_ne (q := 8) rfl rfl (fun h5 => ?_) (fun h5 => ?_)
  · refine z_aload_n (q := 27) rfl rfl rfl ?_
    refine z_iload_n (q := 28) rfl rfl rfl ?_
    refine z_cv1v (q := 31) rfl rfl rfl (Sh_k w) (p_Sh_reach w hn hN hM hj hf) ?_
    refine z_aload_n (q := 32) rfl rfl rfl ?_
    refine z_iload_n (q := 33) rfl rfl rfl ?_
    refine z_iload_n (q := 34) rfl rfl rfl ?_
    refine z_cv2i (q := 37) rfl rfl rfl (Sh_k w) (p_Sh_numberAt w hn hN hM hj) ?_
    refine z_ireti rfl rfl ?_
    refine ⟨rfl, ?_⟩
    unfold rdF
    first | rw [if_pos h5] | rw [if_neg h5]
  · refine z_aload_n (q := 9) rfl rfl rfl ?_
    refine z_dup (q := 10) rfl rfl rfl ?_
    refine z_getI (q := 13) rfl rfl rfl (Sh_k w) ?_
    rw [shP_g9]
    refine z_aload_n (q := 14) rfl rfl rfl ?_
    refine z_iload_n (q := 15) rfl rfl rfl ?_
    refine z_iload_n (q := 16) rfl rfl rfl ?_
    refine z_cv2i (q := 19) rfl rfl rfl (Sh_k w) (p_Sh_linksBefore w hn hN hM hj hf) ?_
    refine z_iadd (q := 20) rfl rfl ?_
    refine z_putI (q := 23) rfl rfl rfl (by decide) rfl rfl (Sh_k w) ?_
    rw [shP_u9]
    refine z_goto rfl ?_
    refine z_aload_n (q := 32) rfl rfl rfl ?_
    refine z_iload_n (q := 33) rfl rfl rfl ?_
    refine z_iload_n (q := 34) rfl rfl rfl ?_
    refine z_cv2i (q := 37) rfl rfl rfl (Sh_k w) (p_Sh_numberAt w hn hN hM hj) ?_
    refine z_ireti rfl rfl ?_
    refine ⟨rfl, ?_⟩
    unfold rdF
    first | rw [if_pos h5] | rw [if_neg h5]
theorem p_Sh_setCell1 {sc : Option (Nat × Nat × (Nat → Int32))} {sa : Nat → Nat} {d : Nat} {M : mz_M} {z : Nat × Nat} {sh N : Nat} {s l t p : Int32} {J : Nat → Int64} {lt lc mo mc : Nat → Int32} (w : g_Sh M.2.2 sh N) {n : Nat} (hN : n < N) (hM : N ≤ 200) {j : Nat} (hj : j < n) (hf : okl lt n) (hl : l = 1) {cell x : Int32} : zx sc sa (d + 3) 56 [.ref sh, .int (nI j), .int cell, .int x] (shP M sh s l t (nI n) p J lt lc mo mc) z z (some (.int (nI n))) (shP M sh s l t (nI n + 1) (p + 1) (va_up J n (wnI (J j) cell x)) (va_up (va_up lt n (-1)) n (nI j)) (va_up (va_up lc n (-1)) n cell) (va_up mo n (nI j)) (va_up mc n cell)) := by
  refine zxin ym_Sh_setCell [.ref sh, .int (nI j), .int cell, .int x, .retAddr 0, .retAddr 0, .retAddr 0] rfl rfl rfl rfl ?_
  refine z_aload_n (q := 1) rfl rfl rfl ?_
  refine z_iload_n (q := 2) rfl rfl rfl ?_
  refine z_cv1i (q := 5) rfl rfl rfl (Sh_k w) (p_Sh_has w rfl (by omega) hM hj) ?_
  refine z_if_eq (q := 8) rfl rfl (fun h5 => ?_) (fun h5 => ?_)
  · exact absurd h5 (by decide)
  · refine z_aload_n (q := 9) rfl rfl rfl ?_
    refine z_getI (q := 12) rfl rfl rfl (Sh_k w) ?_
    rw [shP_g8]
    refine z_aload_n (q := 13) rfl rfl rfl ?_
    refine z_getR (q := 16) rfl rfl rfl (Sh_k w) (Sh_r0 w) ?_
    refine z_alen (q := 17) rfl rfl (Sh_a0 w) rfl rfl ?_
    refine z_ic_lt (q := 20) rfl rfl (fun h17 => ?_) (fun h17 => ?_)
    · refine z_aload_n (q := 23) rfl rfl rfl ?_
      refine z_getI (q := 26) rfl rfl rfl (Sh_k w) ?_
      rw [shP_g6]
      refine z_iconst (q := 27) (v := 1) rfl rfl rfl ?_
      refine z_ic_eq (q := 30) rfl rfl (fun h27 => ?_) (fun h27 => ?_)
      · refine z_aload_n (q := 36) rfl rfl rfl ?_
        refine z_getI (q := 39) rfl rfl rfl (Sh_k w) ?_
        rw [shP_g8]
        refine z_istore (q := 41) (L2 := [_, _, _, _, _, _, _]) rfl rfl rfl rfl ?_
        refine z_aload_n (q := 42) rfl rfl rfl ?_
        refine z_dup (q := 43) rfl rfl rfl ?_
        refine z_getI (q := 46) rfl rfl rfl (Sh_k w) ?_
        rw [shP_g8]
        refine z_iconst (q := 47) (v := 1) rfl rfl rfl ?_
        refine z_iadd (q := 48) rfl rfl ?_
        refine z_putI (q := 51) rfl rfl rfl (by decide) rfl rfl (Sh_k w) ?_
        rw [shP_u8]
        refine z_aload_n (q := 52) rfl rfl rfl ?_
        refine z_getR (q := 55) rfl rfl rfl (Sh_k w) (Sh_r0 w) ?_
        refine z_iload (q := 57) rfl rfl rfl ?_
        refine z_aload_n (q := 58) rfl rfl rfl ?_
        refine z_getR (q := 61) rfl rfl rfl (Sh_k w) (Sh_r0 w) ?_
        refine z_iload_n (q := 62) rfl rfl rfl ?_
        refine z_lald (q := 63) rfl rfl (Sh_a0 w) (by first | assumption | exact vp_in_nI (by omega) (by omega)) ?_
        rw [shP_a0]
        try rw [nI_clamp (by omega)]
        refine z_iload_n (q := 64) rfl rfl rfl ?_
        refine z_iload_n (q := 65) rfl rfl rfl ?_
        refine z_cs3l (q := 68) rfl rfl rfl (s_Sh_withNumber) ?_
        refine z_last (q := 69) rfl rfl (Sh_a0 w) (by first | assumption | exact vp_in_nI (by omega) (by omega)) ?_
        rw [shP_w0]
        try rw [nI_clamp (by omega)]
        refine z_aload_n (q := 70) rfl rfl rfl ?_
        refine z_getR (q := 73) rfl rfl rfl (Sh_k w) (Sh_r3 w) ?_
        refine z_iload (q := 75) rfl rfl rfl ?_
        refine z_iload_n (q := 76) rfl rfl rfl ?_
        refine z_iast (q := 77) rfl rfl (Sh_a3 w) (by first | assumption | exact vp_in_nI (by omega) (by omega)) ?_
        rw [shP_w3]
        try rw [nI_clamp (by omega)]
        refine z_aload_n (q := 78) rfl rfl rfl ?_
        refine z_getR (q := 81) rfl rfl rfl (Sh_k w) (Sh_r4 w) ?_
        refine z_iload (q := 83) rfl rfl rfl ?_
        refine z_iload_n (q := 84) rfl rfl rfl ?_
        refine z_iast (q := 85) rfl rfl (Sh_a4 w) (by first | assumption | exact vp_in_nI (by omega) (by omega)) ?_
        rw [shP_w4]
        try rw [nI_clamp (by omega)]
        refine z_aload_n (q := 86) rfl rfl rfl ?_
        refine z_getI (q := 89) rfl rfl rfl (Sh_k w) ?_
        rw [shP_g6]
        refine z_iconst (q := 90) (v := 1) rfl rfl rfl ?_
        refine z_ic_ne (q := 93) rfl rfl (fun h90 => ?_) (fun h90 => ?_)
        · exact absurd hl h90
        · refine z_iload (q := 95) rfl rfl rfl ?_
          refine z_goto rfl ?_
          refine z_istore (q := 101) (L2 := [_, _, _, _, _, _, _]) rfl rfl rfl rfl ?_
          refine z_aload_n (q := 102) rfl rfl rfl ?_
          refine z_getI (q := 105) rfl rfl rfl (Sh_k w) ?_
          rw [shP_g6]
          refine z_iconst (q := 106) (v := 1) rfl rfl rfl ?_
          refine z_ic_ne (q := 109) rfl rfl (fun h106 => ?_) (fun h106 => ?_)
          · exact absurd hl h106
          · refine z_iload_n (q := 110) rfl rfl rfl ?_
            refine z_goto rfl ?_
            refine z_istore (q := 117) (L2 := [_, _, _, _, _, _, _]) rfl rfl rfl rfl ?_
            refine z_aload_n (q := 118) rfl rfl rfl ?_
            refine z_getR (q := 121) rfl rfl rfl (Sh_k w) (Sh_r1 w) ?_
            refine z_iload (q := 123) rfl rfl rfl ?_
            refine z_iconst (q := 124) (v := -1) rfl rfl rfl ?_
            refine z_iast (q := 125) rfl rfl (Sh_a1 w) (by first | assumption | exact vp_in_nI (by omega) (by omega)) ?_
            rw [shP_w1]
            try rw [nI_clamp (by omega)]
            refine z_aload_n (q := 126) rfl rfl rfl ?_
            refine z_getR (q := 129) rfl rfl rfl (Sh_k w) (Sh_r2 w) ?_
            refine z_iload (q := 131) rfl rfl rfl ?_
            refine z_iconst (q := 132) (v := -1) rfl rfl rfl ?_
            refine z_iast (q := 133) rfl rfl (Sh_a2 w) (by first | assumption | exact vp_in_nI (by omega) (by omega)) ?_
            rw [shP_w2]
            try rw [nI_clamp (by omega)]
            refine z_aload_n (q := 134) rfl rfl rfl ?_
            refine z_getR (q := 137) rfl rfl rfl (Sh_k w) (Sh_r1 w) ?_
            refine z_iload (q := 139) rfl rfl rfl ?_
            refine z_iload (q := 141) rfl rfl rfl ?_
            refine z_iast (q := 142) rfl rfl (Sh_a1 w) (by first | assumption | exact vp_in_nI (by omega) (by omega)) ?_
            rw [shP_w1]
            try rw [nI_clamp (by omega)]
            refine z_aload_n (q := 143) rfl rfl rfl ?_
            refine z_getR (q := 146) rfl rfl rfl (Sh_k w) (Sh_r2 w) ?_
            refine z_iload (q := 148) rfl rfl rfl ?_
            refine z_iload_n (q := 149) rfl rfl rfl ?_
            refine z_iast (q := 150) rfl rfl (Sh_a2 w) (by first | assumption | exact vp_in_nI (by omega) (by omega)) ?_
            rw [shP_w2]
            try rw [nI_clamp (by omega)]
            refine z_aload_n (q := 151) rfl rfl rfl ?_
            refine z_dup (q := 152) rfl rfl rfl ?_
            refine z_getI (q := 155) rfl rfl rfl (Sh_k w) ?_
            rw [shP_g9]
            refine z_iconst (q := 156) (v := 1) rfl rfl rfl ?_
            refine z_iadd (q := 157) rfl rfl ?_
            refine z_putI (q := 160) rfl rfl rfl (by decide) rfl rfl (Sh_k w) ?_
            rw [shP_u9]
            refine z_iload (q := 162) rfl rfl rfl ?_
            refine z_ireti rfl rfl ?_
            exact ⟨rfl, rfl⟩
      · exact absurd hl h27
    · exact absurd (nI_lt hN (by omega)) h17
theorem p_Sh_setCell0 {sc : Option (Nat × Nat × (Nat → Int32))} {sa : Nat → Nat} {d : Nat} {M : mz_M} {z : Nat × Nat} {sh N : Nat} {s l t p : Int32} {J : Nat → Int64} {lt lc mo mc : Nat → Int32} (w : g_Sh M.2.2 sh N) {n : Nat} (hN : n < N) (hM : N ≤ 200) {j : Nat} (hj : j < n) (hf : okl lt n) (hl : ¬ l = 1) {cell x : Int32} : zx sc sa (d + 3) 56 [.ref sh, .int (nI j), .int cell, .int x] (shP M sh s l t (nI n) p J lt lc mo mc) z z (some (.int (nI n))) (shP M sh s l t (nI n + 1) ((rcF s l t n j lt lc p).2.2 + 1) (va_up J n (wnI (J j) cell x)) (va_up (va_up (rcF s l t n j lt lc p).1 n (-1)) j (nI n)) (va_up (va_up (rcF s l t n j lt lc p).2.1 n (-1)) j cell) (va_up mo n (nI j)) (va_up mc n cell)) := by
  refine zxin ym_Sh_setCell [.ref sh, .int (nI j), .int cell, .int x, .retAddr 0, .retAddr 0, .retAddr 0] rfl rfl rfl rfl ?_
  refine z_aload_n (q := 1) rfl rfl rfl ?_
  refine z_iload_n (q := 2) rfl rfl rfl ?_
  refine z_cv1i (q := 5) rfl rfl rfl (Sh_k w) (p_Sh_has w rfl (by omega) hM hj) ?_
  refine z_if_eq (q := 8) rfl rfl (fun h5 => ?_) (fun h5 => ?_)
  · exact absurd h5 (by decide)
  · refine z_aload_n (q := 9) rfl rfl rfl ?_
    refine z_getI (q := 12) rfl rfl rfl (Sh_k w) ?_
    rw [shP_g8]
    refine z_aload_n (q := 13) rfl rfl rfl ?_
    refine z_getR (q := 16) rfl rfl rfl (Sh_k w) (Sh_r0 w) ?_
    refine z_alen (q := 17) rfl rfl (Sh_a0 w) rfl rfl ?_
    refine z_ic_lt (q := 20) rfl rfl (fun h17 => ?_) (fun h17 => ?_)
    · refine z_aload_n (q := 23) rfl rfl rfl ?_
      refine z_getI (q := 26) rfl rfl rfl (Sh_k w) ?_
      rw [shP_g6]
      refine z_iconst (q := 27) (v := 1) rfl rfl rfl ?_
      refine z_ic_eq (q := 30) rfl rfl (fun h27 => ?_) (fun h27 => ?_)
      · exact absurd h27 hl
      · refine z_aload_n (q := 31) rfl rfl rfl ?_
        refine z_iload_n (q := 32) rfl rfl rfl ?_
        refine z_cv1v (q := 35) rfl rfl rfl (Sh_k w) (p_Sh_reach w rfl (by omega) hM hj hf) ?_
        refine z_aload_n (q := 36) rfl rfl rfl ?_
        refine z_getI (q := 39) rfl rfl rfl (Sh_k w) ?_
        rw [shP_g8]
        refine z_istore (q := 41) (L2 := [_, _, _, _, _, _, _]) rfl rfl rfl rfl ?_
        refine z_aload_n (q := 42) rfl rfl rfl ?_
        refine z_dup (q := 43) rfl rfl rfl ?_
        refine z_getI (q := 46) rfl rfl rfl (Sh_k w) ?_
        rw [shP_g8]
        refine z_iconst (q := 47) (v := 1) rfl rfl rfl ?_
        refine z_iadd (q := 48) rfl rfl ?_
        refine z_putI (q := 51) rfl rfl rfl (by decide) rfl rfl (Sh_k w) ?_
        rw [shP_u8]
        refine z_aload_n (q := 52) rfl rfl rfl ?_
        refine z_getR (q := 55) rfl rfl rfl (Sh_k w) (Sh_r0 w) ?_
        refine z_iload (q := 57) rfl rfl rfl ?_
        refine z_aload_n (q := 58) rfl rfl rfl ?_
        refine z_getR (q := 61) rfl rfl rfl (Sh_k w) (Sh_r0 w) ?_
        refine z_iload_n (q := 62) rfl rfl rfl ?_
        refine z_lald (q := 63) rfl rfl (Sh_a0 w) (by first | assumption | exact vp_in_nI (by omega) (by omega)) ?_
        rw [shP_a0]
        try rw [nI_clamp (by omega)]
        refine z_iload_n (q := 64) rfl rfl rfl ?_
        refine z_iload_n (q := 65) rfl rfl rfl ?_
        refine z_cs3l (q := 68) rfl rfl rfl (s_Sh_withNumber) ?_
        refine z_last (q := 69) rfl rfl (Sh_a0 w) (by first | assumption | exact vp_in_nI (by omega) (by omega)) ?_
        rw [shP_w0]
        try rw [nI_clamp (by omega)]
        refine z_aload_n (q := 70) rfl rfl rfl ?_
        refine z_getR (q := 73) rfl rfl rfl (Sh_k w) (Sh_r3 w) ?_
        refine z_iload (q := 75) rfl rfl rfl ?_
        refine z_iload_n (q := 76) rfl rfl rfl ?_
        refine z_iast (q := 77) rfl rfl (Sh_a3 w) (by first | assumption | exact vp_in_nI (by omega) (by omega)) ?_
        rw [shP_w3]
        try rw [nI_clamp (by omega)]
        refine z_aload_n (q := 78) rfl rfl rfl ?_
        refine z_getR (q := 81) rfl rfl rfl (Sh_k w) (Sh_r4 w) ?_
        refine z_iload (q := 83) rfl rfl rfl ?_
        refine z_iload_n (q := 84) rfl rfl rfl ?_
        refine z_iast (q := 85) rfl rfl (Sh_a4 w) (by first | assumption | exact vp_in_nI (by omega) (by omega)) ?_
        rw [shP_w4]
        try rw [nI_clamp (by omega)]
        refine z_aload_n (q := 86) rfl rfl rfl ?_
        refine z_getI (q := 89) rfl rfl rfl (Sh_k w) ?_
        rw [shP_g6]
        refine z_iconst (q := 90) (v := 1) rfl rfl rfl ?_
        refine z_ic_ne (q := 93) rfl rfl (fun h90 => ?_) (fun h90 => ?_)
        · refine z_iload_n (q := 99) rfl rfl rfl ?_
          refine z_istore (q := 101) (L2 := [_, _, _, _, _, _, _]) rfl rfl rfl rfl ?_
          refine z_aload_n (q := 102) rfl rfl rfl ?_
          refine z_getI (q := 105) rfl rfl rfl (Sh_k w) ?_
          rw [shP_g6]
          refine z_iconst (q := 106) (v := 1) rfl rfl rfl ?_
          refine z_ic_ne (q := 109) rfl rfl (fun h106 => ?_) (fun h106 => ?_)
          · refine z_iload (q := 115) rfl rfl rfl ?_
            refine z_istore (q := 117) (L2 := [_, _, _, _, _, _, _]) rfl rfl rfl rfl ?_
            refine z_aload_n (q := 118) rfl rfl rfl ?_
            refine z_getR (q := 121) rfl rfl rfl (Sh_k w) (Sh_r1 w) ?_
            refine z_iload (q := 123) rfl rfl rfl ?_
            refine z_iconst (q := 124) (v := -1) rfl rfl rfl ?_
            refine z_iast (q := 125) rfl rfl (Sh_a1 w) (by first | assumption | exact vp_in_nI (by omega) (by omega)) ?_
            rw [shP_w1]
            try rw [nI_clamp (by omega)]
            refine z_aload_n (q := 126) rfl rfl rfl ?_
            refine z_getR (q := 129) rfl rfl rfl (Sh_k w) (Sh_r2 w) ?_
            refine z_iload (q := 131) rfl rfl rfl ?_
            refine z_iconst (q := 132) (v := -1) rfl rfl rfl ?_
            refine z_iast (q := 133) rfl rfl (Sh_a2 w) (by first | assumption | exact vp_in_nI (by omega) (by omega)) ?_
            rw [shP_w2]
            try rw [nI_clamp (by omega)]
            refine z_aload_n (q := 134) rfl rfl rfl ?_
            refine z_getR (q := 137) rfl rfl rfl (Sh_k w) (Sh_r1 w) ?_
            refine z_iload (q := 139) rfl rfl rfl ?_
            refine z_iload (q := 141) rfl rfl rfl ?_
            refine z_iast (q := 142) rfl rfl (Sh_a1 w) (by first | assumption | exact vp_in_nI (by omega) (by omega)) ?_
            rw [shP_w1]
            try rw [nI_clamp (by omega)]
            refine z_aload_n (q := 143) rfl rfl rfl ?_
            refine z_getR (q := 146) rfl rfl rfl (Sh_k w) (Sh_r2 w) ?_
            refine z_iload (q := 148) rfl rfl rfl ?_
            refine z_iload_n (q := 149) rfl rfl rfl ?_
            refine z_iast (q := 150) rfl rfl (Sh_a2 w) (by first | assumption | exact vp_in_nI (by omega) (by omega)) ?_
            rw [shP_w2]
            try rw [nI_clamp (by omega)]
            refine z_aload_n (q := 151) rfl rfl rfl ?_
            refine z_dup (q := 152) rfl rfl rfl ?_
            refine z_getI (q := 155) rfl rfl rfl (Sh_k w) ?_
            rw [shP_g9]
            refine z_iconst (q := 156) (v := 1) rfl rfl rfl ?_
            refine z_iadd (q := 157) rfl rfl ?_
            refine z_putI (q := 160) rfl rfl rfl (by decide) rfl rfl (Sh_k w) ?_
            rw [shP_u9]
            refine z_iload (q := 162) rfl rfl rfl ?_
            refine z_ireti rfl rfl ?_
            exact ⟨rfl, rfl⟩
          · exact absurd h106 hl
        · exact absurd h90 hl
    · exact absurd (nI_lt hN (by omega)) h17
theorem p_Sh_setCell {M : mz_M} {sc : Option (Nat × Nat × (Nat → Int32))} {sa : Nat → Nat} {d : Nat} {z : Nat × Nat} {sh N : Nat} {s l t p : Int32} {J : Nat → Int64} {lt lc mo mc : Nat → Int32} (w : g_Sh M.2.2 sh N) {n : Nat} (hN : n < N) (hM : N ≤ 200) {j : Nat} (hj : j < n) (hf : okl lt n) {cell x : Int32} : zx sc sa (d + 3) 56 [.ref sh, .int (nI j), .int cell, .int x] (shP M sh s l t (nI n) p J lt lc mo mc) z z (some (.int (nI n))) (shP M sh s l t (nI n + 1) (stF s l t n j cell lt lc p).2.2 (va_up J n (wnI (J j) cell x)) (stF s l t n j cell lt lc p).1 (stF s l t n j cell lt lc p).2.1 (va_up mo n (nI j)) (va_up mc n cell)) := by
  by_cases hl : l = 1
  · have h := p_Sh_setCell1 (sc := sc) (sa := sa) (d := d) (z := z) (p := p) (J := J) (lc := lc) (mo := mo) (mc := mc) (s := s) (t := t) w hN hM hj hf hl (cell := cell) (x := x)
    unfold stF
    rw [if_pos hl]
    exact h
  · have h := p_Sh_setCell0 (sc := sc) (sa := sa) (d := d) (z := z) (p := p) (J := J) (lc := lc) (mo := mo) (mc := mc) (s := s) (t := t) w hN hM hj hf hl (cell := cell) (x := x)
    unfold stF
    rw [if_neg hl]
    exact h
theorem p_Sh_setCellF {sc : Option (Nat × Nat × (Nat → Int32))} {sa : Nat → Nat} {d : Nat} {M : mz_M} {z : Nat × Nat} {sh N : Nat} {s l t p : Int32} {J : Nat → Int64} {lt lc mo mc : Nat → Int32} (w : g_Sh M.2.2 sh N) (hM : N ≤ 200) {j : Nat} (hj : j < N) {cell x : Int32} : zx sc sa (d + 2) 56 [.ref sh, .int (nI j), .int cell, .int x] (shP M sh s l t (nI N) p J lt lc mo mc) z z (some (.int (-1))) (shP M sh s l t (nI N) p J lt lc mo mc) := by
  refine zxin ym_Sh_setCell [.ref sh, .int (nI j), .int cell, .int x, .retAddr 0, .retAddr 0, .retAddr 0] rfl rfl rfl rfl ?_
  refine z_aload_n (q := 1) rfl rfl rfl ?_
  refine z_iload_n (q := 2) rfl rfl rfl ?_
  refine z_cv1i (q := 5) rfl rfl rfl (Sh_k w) (p_Sh_has w rfl (Nat.le_refl _) hM hj) ?_
  refine z_if_eq (q := 8) rfl rfl (fun h5 => ?_) (fun h5 => ?_)
  · exact absurd h5 (by decide)
  · refine z_aload_n (q := 9) rfl rfl rfl ?_
    refine z_getI (q := 12) rfl rfl rfl (Sh_k w) ?_
    rw [shP_g8]
    refine z_aload_n (q := 13) rfl rfl rfl ?_
    refine z_getR (q := 16) rfl rfl rfl (Sh_k w) (Sh_r0 w) ?_
    refine z_alen (q := 17) rfl rfl (Sh_a0 w) rfl rfl ?_
    refine z_ic_lt (q := 20) rfl rfl (fun h17 => ?_) (fun h17 => ?_)
    · exact absurd h17 (nI_nlt (Nat.le_refl _) (by omega))
    · refine z_iconst (q := 21) (v := -1) rfl rfl rfl ?_
      refine z_ireti rfl rfl ?_
      exact ⟨rfl, rfl⟩
theorem p_Sh_snapRow {sc : Option (Nat × Nat × (Nat → Int32))} {sa : Nat → Nat} {d : Nat} {M : mz_M} {z : Nat × Nat} {sh N : Nat} {s l t m p : Int32} {J : Nat → Int64} {lt lc mo mc : Nat → Int32} (w : g_Sh M.2.2 sh N) {n : Nat} (hn : m = nI n) (hN : n ≤ N) (hM : N ≤ 200) {j : Nat} (hj : j < n) (hf : okl lt n)  : zx sc sa (d + 3) 57 [.ref sh, .int (nI j)] (shP M sh s l t m p J lt lc mo mc) z z (some (.int (if lt j = -1 then 0 else p + (nI (wl lt n j) + s) - p))) (if lt j = -1 then (shP M sh s l t m p J lt lc mo mc) else (shP M sh s l t m (p + (nI (wl lt n j) + s)) J (va_up lt j (-1)) (va_up lc j (-1)) mo mc)) := by
  refine zxin ym_Sh_snapRow [.ref sh, .int (nI j), .retAddr 0] rfl rfl rfl rfl ?_
  refine z_aload_n (q := 1) rfl rfl rfl ?_
  refine z_iload_n (q := 2) rfl rfl rfl ?_
  refine z_cv1i (q := 5) rfl rfl rfl (Sh_k w) (p_Sh_has w hn hN hM hj) ?_
  refine z_if_eq (q := 8) rfl rfl (fun h5 => ?_) (fun h5 => ?_)
  · exact absurd h5 (by decide)
  · refine z_aload_n (q := 9) rfl rfl rfl ?_
    refine z_iload_n (q := 10) rfl rfl rfl ?_
    refine z_cv1i (q := 13) rfl rfl rfl (Sh_k w) (p_Sh_isDirect w hn hN hM hj) ?_
    refine z_if_eq (q := 16) rfl rfl (fun h13 => ?_) (fun h13 => ?_)
    · refine z_aload_n (q := 19) rfl rfl rfl ?_
      refine z_getI (q := 22) rfl rfl rfl (Sh_k w) ?_
      rw [shP_g9]
      refine z_istore_n (q := 23) (L2 := [_, _, _]) rfl rfl rfl rfl ?_
      refine z_aload_n (q := 24) rfl rfl rfl ?_
      refine z_iload_n (q := 25) rfl rfl rfl ?_
      refine z_aload_n (q := 26) rfl rfl rfl ?_
      refine z_iload_n (q := 27) rfl rfl rfl ?_
      refine z_cv1i (q := 30) rfl rfl rfl (Sh_k w) (p_Sh_wayFrom w hn hN hM hj hf) ?_
      refine z_cv2v (q := 33) rfl rfl rfl (Sh_k w) (p_Sh_giveRow w hn hN hM hj) ?_
      refine z_aload_n (q := 34) rfl rfl rfl ?_
      refine z_getI (q := 37) rfl rfl rfl (Sh_k w) ?_
      rw [shP_g9]
      refine z_iload_n (q := 38) rfl rfl rfl ?_
      refine z_isub (q := 39) rfl rfl ?_
      refine z_ireti rfl rfl ?_
      first | rw [bz_n] at h13 | rw [bz_0] at h13
      first | (rw [if_pos h13, if_pos h13]; exact ⟨rfl, rfl⟩) | (rw [if_neg h13, if_neg h13]; exact ⟨rfl, rfl⟩)
    · refine z_iconst (q := 17) (v := 0) rfl rfl rfl ?_
      refine z_ireti rfl rfl ?_
      first | rw [bz_n] at h13 | rw [bz_0] at h13
      first | (rw [if_pos h13, if_pos h13]; exact ⟨rfl, rfl⟩) | (rw [if_neg h13, if_neg h13]; exact ⟨rfl, rfl⟩)
theorem l_Sh_findRoot {sc : Option (Nat × Nat × (Nat → Int32))} {sa : Nat → Nat} {d : Nat} {M : mz_M} {z : Nat × Nat} {sh N : Nat} {s l t m : Int32} {J : Nat → Int64} {mo mc : Nat → Int32} (w : g_Sh M.2.2 sh N) {n : Nat} (hn : m = nI n) (hN : n ≤ N) (hM : N ≤ 200) {j : Nat} (hj : j < n) {c : Nat} (hc : s = nI c) (hC : c ≤ 12) {v0 am pm : Int32} {lf cf : Nat → Int32} : ∀ (k : Nat) (i : Nat) (a p : Int32) (lt lc : Nat → Int32) (x0 : Value), i + k = c → okl lt n → frF s l t n j J k a lt lc p = (am, lf, cf, pm) → zw sc sa (d + 3) ym_Sh_findRoot z (fun r' M' => r' = some (.int am) ∧ M' = (shP M sh s l t m pm J lf cf mo mc)) 5 [.ref sh, .int (nI j), .int v0, .int a, .int (nI i), x0] [] (shP M sh s l t m p J lt lc mo mc) z := by
  intro k
  induction k with
  | zero =>
    intro i a p lt lc x0 hi hf hm
    have e1 : i = c := by omega
    subst e1
    have e2 : (a, lt, lc, p) = (am, lf, cf, pm) := hm
    simp only [Prod.mk.injEq] at e2
    obtain ⟨rfl, rfl, rfl, rfl⟩ := e2
    refine z_iload (q := 7) rfl rfl rfl ?_
    refine z_aload_n (q := 8) rfl rfl rfl ?_
    refine z_getI (q := 11) rfl rfl rfl (Sh_k w) ?_
    rw [shP_g5]
    refine z_ic_ge (q := 14) rfl rfl (fun h11 => ?_) (fun h11 => ?_)
    · refine z_iload_n (q := 40) rfl rfl rfl ?_
      refine z_ireti rfl rfl ?_
      exact ⟨rfl, rfl⟩
    · exact absurd (by rw [hc]; exact nI_le (Nat.le_refl _) (by omega)) h11
  | succ k ih =>
    intro i a p lt lc x0 hi hf hm
    refine z_iload (q := 7) rfl rfl rfl ?_
    refine z_aload_n (q := 8) rfl rfl rfl ?_
    refine z_getI (q := 11) rfl rfl rfl (Sh_k w) ?_
    rw [shP_g5]
    refine z_ic_ge (q := 14) rfl rfl (fun h11 => ?_) (fun h11 => ?_)
    · rw [hc] at h11
      exact absurd h11 (nI_ge (by omega) (by omega))
    · refine z_aload_n (q := 15) rfl rfl rfl ?_
      refine z_iload_n (q := 16) rfl rfl rfl ?_
      refine z_iload_n (q := 17) rfl rfl rfl ?_
      refine z_cv2i (q := 20) rfl rfl rfl (Sh_k w) (p_Sh_readCell w hn hN hM hj hf) ?_
      refine z_istore (q := 22) (L2 := [_, _, _, _, _, _]) rfl rfl rfl rfl ?_
      refine z_iload (q := 24) rfl rfl rfl ?_
      refine z_iload_n (q := 25) rfl rfl rfl ?_
      refine z_ic_ne (q := 28) rfl rfl (fun h25 => ?_) (fun h25 => ?_)
      · refine z_iload (q := 32) rfl rfl rfl ?_
        refine z_istore_n (q := 33) (L2 := [_, _, _, _, _, _]) rfl rfl rfl rfl ?_
        refine z_iinc (q := 36) (L2 := [_, _, _, _, _, _]) rfl rfl rfl rfl ?_
        refine z_goto rfl ?_
        rw [show nI i + Int32.ofInt 1 = nI (i + 1) from (nI_succ i).symm]
        unfold frF at hm
        rw [if_neg h25] at hm
        exact ih (i + 1) _ _ _ _ _ (by omega) (okl_rd (by omega) hj hf) hm
      · refine z_iload_n (q := 29) rfl rfl rfl ?_
        refine z_ireti rfl rfl ?_
        unfold frF at hm
        rw [if_pos h25] at hm
        simp only [Prod.mk.injEq] at hm
        obtain ⟨rfl, hm⟩ := hm
        rw [hm]
        exact ⟨rfl, rfl⟩
theorem p_Sh_findRoot {sc : Option (Nat × Nat × (Nat → Int32))} {sa : Nat → Nat} {d : Nat} {M : mz_M} {z : Nat × Nat} {sh N : Nat} {s l t m p : Int32} {J : Nat → Int64} {lt lc mo mc : Nat → Int32} (w : g_Sh M.2.2 sh N) {n : Nat} (hn : m = nI n) (hN : n ≤ N) (hM : N ≤ 200) {j : Nat} (hj : j < n) (hf : okl lt n) {c : Nat} (hc : s = nI c) (hC : c ≤ 12) {a : Int32} : zx sc sa (d + 4) 58 [.ref sh, .int (nI j), .int a] (shP M sh s l t m p J lt lc mo mc) z z (some (.int (frF s l t n j J c a lt lc p).1)) (shP M sh s l t m (frF s l t n j J c a lt lc p).2.2.2 J (frF s l t n j J c a lt lc p).2.1 (frF s l t n j J c a lt lc p).2.2.1 mo mc) := by
  refine zxin ym_Sh_findRoot [.ref sh, .int (nI j), .int a, .retAddr 0, .retAddr 0, .retAddr 0] rfl rfl rfl rfl ?_
  refine z_iload_n (q := 1) rfl rfl rfl ?_
  refine z_istore_n (q := 2) (L2 := [_, _, _, _, _, _]) rfl rfl rfl rfl ?_
  refine z_iconst (q := 3) (v := 0) rfl rfl rfl ?_
  refine z_istore (q := 5) (L2 := [_, _, _, _, _, _]) rfl rfl rfl rfl ?_
  exact l_Sh_findRoot w hn hN hM hj hc hC c 0 _ _ _ _ _ (by omega) hf rfl
theorem p_Sh_joinRoots {sc : Option (Nat × Nat × (Nat → Int32))} {sa : Nat → Nat} {d : Nat} {M : mz_M} {z : Nat × Nat} {sh N : Nat} {s l t p : Int32} {J : Nat → Int64} {lt lc mo mc : Nat → Int32} (w : g_Sh M.2.2 sh N) {n : Nat} (hN : n < N) (hM : N ≤ 200) {j : Nat} (hj : j < n) (hf : okl lt n) {a b : Int32} : zx sc sa (d + 4) 59 [.ref sh, .int (nI j), .int a, .int b] (shP M sh s l t (nI n) p J lt lc mo mc) z z (some (.int (nI n))) (shP M sh s l t (nI n + 1) (stF s l t n j (if a < b then b else a) lt lc p).2.2 (va_up J n (wnI (J j) (if a < b then b else a) (if b < a then b else a))) (stF s l t n j (if a < b then b else a) lt lc p).1 (stF s l t n j (if a < b then b else a) lt lc p).2.1 (va_up mo n (nI j)) (va_up mc n (if a < b then b else a))) := by
  refine zxin ym_Sh_joinRoots [.ref sh, .int (nI j), .int a, .int b] rfl rfl rfl rfl ?_
  refine z_aload_n (q := 1) rfl rfl rfl ?_
  refine z_iload_n (q := 2) rfl rfl rfl ?_
  refine z_iload_n (q := 3) rfl rfl rfl ?_
  refine z_iload_n (q := 4) rfl rfl rfl ?_
  refine z_max (q := 7) rfl rfl (by omega) rfl ?_
  refine z_iload_n (q := 8) rfl rfl rfl ?_
  refine z_iload_n (q := 9) rfl rfl rfl ?_
  refine z_min (q := 12) rfl rfl (by omega) rfl ?_
  refine z_cv3i (q := 15) rfl rfl rfl (Sh_k w) (p_Sh_setCell w hN hM hj hf) ?_
  refine z_ireti rfl rfl ?_
  exact ⟨rfl, rfl⟩
