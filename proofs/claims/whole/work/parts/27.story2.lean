def bgQ (row : Int64) (q : sQ) : sQ := (1, va_up q.2.1 0 row, va_up q.2.2.1 0 (-1), va_up q.2.2.2.1 0 (-1), va_up q.2.2.2.2.1 0 (-1), va_up q.2.2.2.2.2.1 0 (-1), 0)
theorem q_Sh_begin {sc : Option (Nat × Nat × (Nat → Int32))} {sa : Nat → Nat} {d : Nat} {M : mz_M} {z : Nat × Nat} {sh N : Nat} {s l t : Int32} {q : sQ} (w : g_Sh M.2.2 sh N) (hN : 0 < N) (hM : N ≤ 200) {a b e : Int32} {row : Int64} : zx sc sa (d + 1) 17 [.ref sh, .int a, .int b, .int e, .long row] (shQ M sh s l t q) z z none (shQ M sh a b e (bgQ row q)) := p_Sh_begin w hN hM
theorem q_St_begin {sc : Option (Nat × Nat × (Nat → Int32))} {sa : Nat → Nat} {d : Nat} {M : mz_M} {z : Nat × Nat} {st : Nat} {pr ln td de : Int32} {pa ks os ts hs cs : Nat → Int32} {s l t : Int32} {q : sQ} (w : g_St M.2.2 st) {a b e : Int32} {row : Int64} : zx sc sa (d + 1) 17 [.ref (st + 1), .int a, .int b, .int e, .long row] (stQ M st pr ln td de pa ks os ts hs cs s l t q) z z none (stQ M st pr ln td de pa ks os ts hs cs a b e (bgQ row q)) := q_Sh_begin (M := stB M st pr ln td de pa ks os ts hs cs) (St_w0 w) (by omega) (by omega)
theorem q_St_hasCell {sc : Option (Nat × Nat × (Nat → Int32))} {sa : Nat → Nat} {d : Nat} {M : mz_M} {z : Nat × Nat} {st : Nat} {pr ln td de : Int32} {pa ks os ts hs cs : Nat → Int32} {s l t : Int32} {q : sQ} (w : g_St M.2.2 st) {c : Nat} (hc : s = nI c) (hC : c ≤ 12) {j : Nat} (hj : j < c) : zx sc sa (d + 1) 20 [.ref (st + 1), .int (nI j)] (stQ M st pr ln td de pa ks os ts hs cs s l t q) z z (some (.int 1)) (stQ M st pr ln td de pa ks os ts hs cs s l t q) := by
  have h := s_Sh_hasCell (sc := sc) (sa := sa) (d := d) (z := z) (M := stQ M st pr ln td de pa ks os ts hs cs s l t q) (sh := st + 1) (N := 40) (St_w0 w) (v := nI j)
  rw [stS_g5, hc, bz_t ⟨nI_pos' (by omega), nI_lt hj (by omega)⟩] at h
  rw [hc]
  exact h
theorem q_St_pairUp {sc : Option (Nat × Nat × (Nat → Int32))} {sa : Nat → Nat} {d : Nat} {M : mz_M} {z : Nat × Nat} {st : Nat} {pr ln td de : Int32} {pa ks os ts hs cs : Nat → Int32} {s l t : Int32} {q : sQ} (w : g_St M.2.2 st) {c : Nat} (hc : s = nI c) (hC : c ≤ 12) {a b : Nat} (ha : a < c) (hb : b < c) : zx sc sa (d + 2) 74 [.ref st, .int (nI a), .int (nI b)] (stQ M st pr ln td de pa ks os ts hs cs s l t q) z z none (stQ M st (pr + 1) ln td de (va_up (va_up pa a (pa a ||| (1 : Int32) <<< (nI b &&& 31))) b ((va_up pa a (pa a ||| (1 : Int32) <<< (nI b &&& 31))) b ||| (1 : Int32) <<< (nI a &&& 31))) ks os ts hs cs s l t q) := by
  refine zxin ym_St_pairUp [.ref st, .int (nI a), .int (nI b)] rfl rfl rfl rfl ?_
  refine z_aload_n (q := 1) rfl rfl rfl ?_
  refine z_getR (q := 4) rfl rfl rfl (St_k w) (St_r0 w) ?_
  refine z_iload_n (q := 5) rfl rfl rfl ?_
  refine z_cv1i (q := 8) rfl rfl rfl (Sh_k (St_w0 w)) (q_St_hasCell w hc hC ha) ?_
  refine z_if_eq (q := 11) rfl rfl (fun h8 => ?_) (fun h8 => ?_)
  · exact absurd h8 (by decide)
  · refine z_aload_n (q := 12) rfl rfl rfl ?_
    refine z_getR (q := 15) rfl rfl rfl (St_k w) (St_r0 w) ?_
    refine z_iload_n (q := 16) rfl rfl rfl ?_
    refine z_cv1i (q := 19) rfl rfl rfl (Sh_k (St_w0 w)) (q_St_hasCell w hc hC hb) ?_
    refine z_if_eq (q := 22) rfl rfl (fun h19 => ?_) (fun h19 => ?_)
    · exact absurd h19 (by decide)
    · refine z_aload_n (q := 23) rfl rfl rfl ?_
      refine z_getR (q := 26) rfl rfl rfl (St_k w) (St_r1 w) ?_
      refine z_iload_n (q := 27) rfl rfl rfl ?_
      refine z_dup2 (q := 28) rfl rfl rfl rfl ?_
      refine z_iald (q := 29) rfl rfl (St_a1 w) (by first | assumption | exact vp_in_nI (by omega) (by omega)) ?_
      rw [stQ_a1]
      try rw [nI_clamp (by omega)]
      refine z_iconst (q := 30) (v := 1) rfl rfl rfl ?_
      refine z_iload_n (q := 31) rfl rfl rfl ?_
      refine z_ishl (q := 32) rfl rfl ?_
      refine z_ior (q := 33) rfl rfl ?_
      refine z_iast (q := 34) rfl rfl (St_a1 w) (by first | assumption | exact vp_in_nI (by omega) (by omega)) ?_
      rw [stQ_w1]
      try rw [nI_clamp (by omega)]
      refine z_aload_n (q := 35) rfl rfl rfl ?_
      refine z_getR (q := 38) rfl rfl rfl (St_k w) (St_r1 w) ?_
      refine z_iload_n (q := 39) rfl rfl rfl ?_
      refine z_dup2 (q := 40) rfl rfl rfl rfl ?_
      refine z_iald (q := 41) rfl rfl (St_a1 w) (by first | assumption | exact vp_in_nI (by omega) (by omega)) ?_
      rw [stQ_a1]
      try rw [nI_clamp (by omega)]
      refine z_iconst (q := 42) (v := 1) rfl rfl rfl ?_
      refine z_iload_n (q := 43) rfl rfl rfl ?_
      refine z_ishl (q := 44) rfl rfl ?_
      refine z_ior (q := 45) rfl rfl ?_
      refine z_iast (q := 46) rfl rfl (St_a1 w) (by first | assumption | exact vp_in_nI (by omega) (by omega)) ?_
      rw [stQ_w1]
      try rw [nI_clamp (by omega)]
      refine z_aload_n (q := 47) rfl rfl rfl ?_
      refine z_dup (q := 48) rfl rfl rfl ?_
      refine z_getI (q := 51) rfl rfl rfl (St_k w) ?_
      rw [stQ_g7]
      refine z_iconst (q := 52) (v := 1) rfl rfl rfl ?_
      refine z_iadd (q := 53) rfl rfl ?_
      refine z_putI (q := 56) rfl rfl rfl (by decide) rfl rfl (St_k w) ?_
      rw [stQ_u7]
      refine z_ret rfl rfl ?_
      exact ⟨rfl, rfl⟩
theorem q_St_tell8 {sc : Option (Nat × Nat × (Nat → Int32))} {sa : Nat → Nat} {d : Nat} {M : mz_M} {z : Nat × Nat} {st : Nat} {pr ln td de : Int32} {pa ks os ts hs cs : Nat → Int32} {s l t : Int32} {q : sQ} (w : g_St M.2.2 st) {a : Nat} (ha : a ≤ 12) {b e : Int32} : zx sc sa (d + 3) 76 [.ref st, .int 8, .int (nI a), .int b, .int e] (stQ M st pr ln td de pa ks os ts hs cs s l t q) z z none (stQ M st pr (ln + 1) td de pa ks os ts hs cs (nI a) b e (bgQ (ownR a) q)) := by
  refine zxin ym_St_tell [.ref st, .int 8, .int (nI a), .int b, .int e] rfl rfl rfl rfl ?_
  refine z_aload_n (q := 1) rfl rfl rfl ?_
  refine z_dup (q := 2) rfl rfl rfl ?_
  refine z_getI (q := 5) rfl rfl rfl (St_k w) ?_
  rw [stQ_g8]
  refine z_iconst (q := 6) (v := 1) rfl rfl rfl ?_
  refine z_iadd (q := 7) rfl rfl ?_
  refine z_putI (q := 10) rfl rfl rfl (by decide) rfl rfl (St_k w) ?_
  rw [stQ_u8]
  refine z_iload_n (q := 11) rfl rfl rfl ?_
  refine z_bipush (q := 13) (v := 8) rfl rfl rfl ?_
  refine z_ic_ne (q := 16) rfl rfl (fun h13 => ?_) (fun h13 => ?_)
  · exact absurd h13 (by decide)
  · refine z_aload_n (q := 17) rfl rfl rfl ?_
    refine z_getR (q := 20) rfl rfl rfl (St_k w) (St_r0 w) ?_
    refine z_iload_n (q := 21) rfl rfl rfl ?_
    refine z_iload_n (q := 22) rfl rfl rfl ?_
    refine z_iload (q := 24) rfl rfl rfl ?_
    refine z_aload_n (q := 25) rfl rfl rfl ?_
    refine z_iload_n (q := 26) rfl rfl rfl ?_
    refine z_cv1l (q := 29) rfl rfl rfl (St_k w) (s_St_ownNumbers ha) ?_
    refine z_cv4v (q := 32) rfl rfl rfl (Sh_k (St_w0 w)) (q_St_begin w) ?_
    refine z_goto rfl ?_
    refine z_ret rfl rfl ?_
    exact ⟨rfl, rfl⟩
theorem q_St_tell9 {sc : Option (Nat × Nat × (Nat → Int32))} {sa : Nat → Nat} {d : Nat} {M : mz_M} {z : Nat × Nat} {st : Nat} {pr ln td de : Int32} {pa ks os ts hs cs : Nat → Int32} {s l t : Int32} {q : sQ} (w : g_St M.2.2 st) {c : Nat} (hc : s = nI c) (hC : c ≤ 12) {a b : Nat} (ha : a < c) (hb : b < c) {e : Int32} : zx sc sa (d + 3) 76 [.ref st, .int 9, .int (nI a), .int (nI b), .int e] (stQ M st pr ln td de pa ks os ts hs cs s l t q) z z none (stQ M st (pr + 1) (ln + 1) td de (va_up (va_up pa a (pa a ||| (1 : Int32) <<< (nI b &&& 31))) b ((va_up pa a (pa a ||| (1 : Int32) <<< (nI b &&& 31))) b ||| (1 : Int32) <<< (nI a &&& 31))) ks os ts hs cs s l t q) := by
  refine zxin ym_St_tell [.ref st, .int 9, .int (nI a), .int (nI b), .int e] rfl rfl rfl rfl ?_
  refine z_aload_n (q := 1) rfl rfl rfl ?_
  refine z_dup (q := 2) rfl rfl rfl ?_
  refine z_getI (q := 5) rfl rfl rfl (St_k w) ?_
  rw [stQ_g8]
  refine z_iconst (q := 6) (v := 1) rfl rfl rfl ?_
  refine z_iadd (q := 7) rfl rfl ?_
  refine z_putI (q := 10) rfl rfl rfl (by decide) rfl rfl (St_k w) ?_
  rw [stQ_u8]
  refine z_iload_n (q := 11) rfl rfl rfl ?_
  refine z_bipush (q := 13) (v := 8) rfl rfl rfl ?_
  refine z_ic_ne (q := 16) rfl rfl (fun h13 => ?_) (fun h13 => ?_)
  · refine z_iload_n (q := 36) rfl rfl rfl ?_
    refine z_bipush (q := 38) (v := 9) rfl rfl rfl ?_
    refine z_ic_ne (q := 41) rfl rfl (fun h38 => ?_) (fun h38 => ?_)
    · exact absurd h38 (by decide)
    · refine z_aload_n (q := 42) rfl rfl rfl ?_
      refine z_iload_n (q := 43) rfl rfl rfl ?_
      refine z_iload_n (q := 44) rfl rfl rfl ?_
      refine z_cv2v (q := 47) rfl rfl rfl (St_k w) (q_St_pairUp w hc hC ha hb) ?_
      refine z_goto rfl ?_
      refine z_ret rfl rfl ?_
      exact ⟨rfl, rfl⟩
  · exact absurd h13 (by decide)
theorem q_St_tellD {sc : Option (Nat × Nat × (Nat → Int32))} {sa : Nat → Nat} {d : Nat} {M : mz_M} {z : Nat × Nat} {st : Nat} {pr ln td : Int32} {D : Nat} {pa ks os ts hs cs : Nat → Int32} {s l t : Int32} {q : sQ} (w : g_St M.2.2 st) (hD : D < 60) (hN : q.1 ≤ 40) (hf : okl q.2.2.1 q.1) {c : Nat} (hc : s = nI c) (hC : c ≤ 12) {k a b e : Nat} (hk : k < 8) (h : vaQ s l t c 40 k a b e q) : zx sc sa (d + 7) 76 [.ref st, .int (nI k), .int (nI a), .int (nI b), .int (nI e)] (stQ M st pr ln td (nI D) pa ks os ts hs cs s l t q) z z none (stQ M st pr (ln + 1) (nI D + 1) (nI D + 1) pa (va_up ks D (nI k)) (va_up os D (nI a)) (va_up ts D (nI b)) (va_up hs D (nI e)) (va_up cs D ((caQ s l t c k a b e q).2.2.2.2.2.2.2 - q.2.2.2.2.2.2)) s l t (caQ s l t c k a b e q).2) := by
  refine zxin ym_St_tell [.ref st, .int (nI k), .int (nI a), .int (nI b), .int (nI e)] rfl rfl rfl rfl ?_
  refine z_aload_n (q := 1) rfl rfl rfl ?_
  refine z_dup (q := 2) rfl rfl rfl ?_
  refine z_getI (q := 5) rfl rfl rfl (St_k w) ?_
  rw [stQ_g8]
  refine z_iconst (q := 6) (v := 1) rfl rfl rfl ?_
  refine z_iadd (q := 7) rfl rfl ?_
  refine z_putI (q := 10) rfl rfl rfl (by decide) rfl rfl (St_k w) ?_
  rw [stQ_u8]
  refine z_iload_n (q := 11) rfl rfl rfl ?_
  refine z_bipush (q := 13) (v := 8) rfl rfl rfl ?_
  refine z_ic_ne (q := 16) rfl rfl (fun h13 => ?_) (fun h13 => ?_)
  · refine z_iload_n (q := 36) rfl rfl rfl ?_
    refine z_bipush (q := 38) (v := 9) rfl rfl rfl ?_
    refine z_ic_ne (q := 41) rfl rfl (fun h38 => ?_) (fun h38 => ?_)
    · refine z_aload_n (q := 51) rfl rfl rfl ?_
      refine z_iload_n (q := 52) rfl rfl rfl ?_
      refine z_iload_n (q := 53) rfl rfl rfl ?_
      refine z_iload_n (q := 54) rfl rfl rfl ?_
      refine z_iload (q := 56) rfl rfl rfl ?_
      refine z_cv4i (q := 59) rfl rfl rfl (St_k w) (q_St_perform w hD hN hf hc hC h) ?_
      refine z_pop (q := 60) rfl rfl rfl ?_
      refine z_aload_n (q := 61) rfl rfl rfl ?_
      refine z_aload_n (q := 62) rfl rfl rfl ?_
      refine z_getI (q := 65) rfl rfl rfl (St_k w) ?_
      rw [stQ_g10]
      refine z_putI (q := 68) rfl rfl rfl (by decide) rfl rfl (St_k w) ?_
      rw [stQ_u9]
      refine z_ret rfl rfl ?_
      exact ⟨rfl, rfl⟩
    · exact absurd h38 (fun e9 => absurd ((nI_eq (b := 9) (by omega) (by omega)).mp e9) (by omega))
  · exact absurd h13 (fun e9 => absurd ((nI_eq (b := 8) (by omega) (by omega)).mp e9) (by omega))
def plG (s l t : Int32) (c : Nat) (K A B E : Nat → Nat) (sk : Int32) : Nat → sQ → sQ := fun i q => if nI i = sk then q else (caQ s l t c (K i) (A i) (B i) (E i) q).2
theorem plG_e {s l t : Int32} {c : Nat} {K A B E : Nat → Nat} {sk : Int32} {i : Nat} {q : sQ} (h : nI i = sk) : plG s l t c K A B E sk i q = q := if_pos h
theorem plG_n {s l t : Int32} {c : Nat} {K A B E : Nat → Nat} {sk : Int32} {i : Nat} {q : sQ} (h : ¬ nI i = sk) : plG s l t c K A B E sk i q = (caQ s l t c (K i) (A i) (B i) (E i) q).2 := if_neg h
def plV (s l t : Int32) (c N : Nat) (K A B E : Nat → Nat) (sk : Int32) (q0 : sQ) (D : Nat) : Prop := ∀ i, i < D → (fo (plG s l t c K A B E sk) q0 i).1 ≤ N ∧ okl (fo (plG s l t c K A B E sk) q0 i).2.2.1 (fo (plG s l t c K A B E sk) q0 i).1 ∧ (¬ nI i = sk → vaQ s l t c N (K i) (A i) (B i) (E i) (fo (plG s l t c K A B E sk) q0 i))
theorem l_St_stepsOn {sc : Option (Nat × Nat × (Nat → Int32))} {sa : Nat → Nat} {d : Nat} {M : mz_M} {z : Nat × Nat} {st : Nat} {pr ln td : Int32} {D : Nat} {pa ks os ts hs cs : Nat → Int32} {s l t : Int32} (w : g_St M.2.2 st) (hD : D ≤ 60) {c : Nat} (hc : s = nI c) (hC : c ≤ 12) {K A B E : Nat → Nat} (hd : ∀ i, i < D → ks i = nI (K i) ∧ os i = nI (A i) ∧ ts i = nI (B i) ∧ hs i = nI (E i)) {x2 x3 sk : Int32} {q0 : sQ} (hv : plV s l t c 40 K A B E sk q0 D) : ∀ (k : Nat) (i : Nat), i + k = D → zw sc sa (d + 5) ym_St_stepsOn z (fun r' M' => r' = some (.int (fo (plG s l t c K A B E sk) q0 D).2.2.2.2.2.2) ∧ M' = (stQ M st pr ln td (nI D) pa ks os ts hs cs s l t (fo (plG s l t c K A B E sk) q0 D))) 27 [.ref st, .ref (st + 1), .int x2, .int x3, .int sk, .int (nI i)] [] (stQ M st pr ln td (nI D) pa ks os ts hs cs s l t (fo (plG s l t c K A B E sk) q0 i)) z := by
  intro k
  induction k with
  | zero =>
    intro i hi
    have e1 : i = D := by omega
    subst e1
    refine z_iload (q := 29) rfl rfl rfl ?_
    refine z_aload_n (q := 30) rfl rfl rfl ?_
    refine z_getI (q := 33) rfl rfl rfl (St_k w) ?_
    rw [stQ_g10]
    refine z_ic_ge (q := 36) rfl rfl (fun h33 => ?_) (fun h33 => ?_)
    · refine z_aload_n (q := 93) rfl rfl rfl ?_
      refine z_getI (q := 96) rfl rfl rfl (Sh_k (St_w0 w)) ?_
      rw [stS_g9]
      refine z_ireti rfl rfl ?_
      exact ⟨rfl, rfl⟩
    · exact absurd (nI_le (Nat.le_refl _) (by omega)) h33
  | succ k ih =>
    intro i hi
    have e8 : fo (plG s l t c K A B E sk) q0 (i + 1) = plG s l t c K A B E sk i (fo (plG s l t c K A B E sk) q0 i) := rfl
    refine z_iload (q := 29) rfl rfl rfl ?_
    refine z_aload_n (q := 30) rfl rfl rfl ?_
    refine z_getI (q := 33) rfl rfl rfl (St_k w) ?_
    rw [stQ_g10]
    refine z_ic_ge (q := 36) rfl rfl (fun h33 => ?_) (fun h33 => ?_)
    · exact absurd h33 (nI_ge (by omega) (by omega))
    · refine z_iload (q := 38) rfl rfl rfl ?_
      refine z_aload_n (q := 39) rfl rfl rfl ?_
      refine z_getR (q := 42) rfl rfl rfl (St_k w) (St_r2 w) ?_
      refine z_alen (q := 43) rfl rfl (St_a2 w) rfl rfl ?_
      refine z_ic_ge (q := 46) rfl rfl (fun h43 => ?_) (fun h43 => ?_)
      · exact absurd h43 (nI_ge (by omega) (by omega))
      · refine z_iload (q := 48) rfl rfl rfl ?_
        refine z_iload (q := 50) rfl rfl rfl ?_
        refine z_ic_eq (q := 53) rfl rfl (fun h50 => ?_) (fun h50 => ?_)
        · refine z_iinc (q := 89) (L2 := [_, _, _, _, _, _]) rfl rfl rfl rfl ?_
          refine z_goto rfl ?_
          rw [show nI i + Int32.ofInt 1 = nI (i + 1) from (nI_succ i).symm]
          have e9 := ih (i + 1) (by omega)
          first
            | (rw [e8, plG_e h50] at e9; exact e9)
            | (rw [e8, plG_n h50] at e9; exact e9)
        · refine z_aload_n (q := 54) rfl rfl rfl ?_
          refine z_aload_n (q := 55) rfl rfl rfl ?_
          refine z_getR (q := 58) rfl rfl rfl (St_k w) (St_r2 w) ?_
          refine z_iload (q := 60) rfl rfl rfl ?_
          refine z_iald (q := 61) rfl rfl (St_a2 w) (by first | assumption | exact vp_in_nI (by omega) (by omega)) ?_
          rw [stQ_a2]
          try rw [nI_clamp (by omega)]
          rw [(hd i (by omega)).1]
          refine z_aload_n (q := 62) rfl rfl rfl ?_
          refine z_getR (q := 65) rfl rfl rfl (St_k w) (St_r3 w) ?_
          refine z_iload (q := 67) rfl rfl rfl ?_
          refine z_iald (q := 68) rfl rfl (St_a3 w) (by first | assumption | exact vp_in_nI (by omega) (by omega)) ?_
          rw [stQ_a3]
          try rw [nI_clamp (by omega)]
          rw [(hd i (by omega)).2.1]
          refine z_aload_n (q := 69) rfl rfl rfl ?_
          refine z_getR (q := 72) rfl rfl rfl (St_k w) (St_r4 w) ?_
          refine z_iload (q := 74) rfl rfl rfl ?_
          refine z_iald (q := 75) rfl rfl (St_a4 w) (by first | assumption | exact vp_in_nI (by omega) (by omega)) ?_
          rw [stQ_a4]
          try rw [nI_clamp (by omega)]
          rw [(hd i (by omega)).2.2.1]
          refine z_aload_n (q := 76) rfl rfl rfl ?_
          refine z_getR (q := 79) rfl rfl rfl (St_k w) (St_r5 w) ?_
          refine z_iload (q := 81) rfl rfl rfl ?_
          refine z_iald (q := 82) rfl rfl (St_a5 w) (by first | assumption | exact vp_in_nI (by omega) (by omega)) ?_
          rw [stQ_a5]
          try rw [nI_clamp (by omega)]
          rw [(hd i (by omega)).2.2.2]
          refine z_cv4i (q := 85) rfl rfl rfl (Sh_k (St_w0 w)) (q_St_carry w (hv i (by omega)).1 (hv i (by omega)).2.1 hc hC ((hv i (by omega)).2.2 h50)) ?_
          refine z_pop (q := 86) rfl rfl rfl ?_
          refine z_iinc (q := 89) (L2 := [_, _, _, _, _, _]) rfl rfl rfl rfl ?_
          refine z_goto rfl ?_
          rw [show nI i + Int32.ofInt 1 = nI (i + 1) from (nI_succ i).symm]
          have e9 := ih (i + 1) (by omega)
          first
            | (rw [e8, plG_e h50] at e9; exact e9)
            | (rw [e8, plG_n h50] at e9; exact e9)
theorem q_St_stepsOn {sc : Option (Nat × Nat × (Nat → Int32))} {sa : Nat → Nat} {d : Nat} {M : mz_M} {z : Nat × Nat} {st : Nat} {pr ln td : Int32} {D : Nat} {pa ks os ts hs cs : Nat → Int32} {s l t l0 t0 : Int32} {q : sQ} (w : g_St M.2.2 st) (hD : D ≤ 60) {c : Nat} (hc : s = nI c) (hC : c ≤ 12) {K A B E : Nat → Nat} (hd : ∀ i, i < D → ks i = nI (K i) ∧ os i = nI (A i) ∧ ts i = nI (B i) ∧ hs i = nI (E i)) {sk : Int32} (hv : plV s l t c 40 K A B E sk (bgQ (ownR c) q) D) : zx sc sa (d + 6) 79 [.ref st, .ref (st + 1), .int l, .int t, .int sk] (stQ M st pr ln td (nI D) pa ks os ts hs cs s l0 t0 q) z z (some (.int (fo (plG s l t c K A B E sk) (bgQ (ownR c) q) D).2.2.2.2.2.2)) (stQ M st pr ln td (nI D) pa ks os ts hs cs s l t (fo (plG s l t c K A B E sk) (bgQ (ownR c) q) D)) := by
  refine zxin ym_St_stepsOn [.ref st, .ref (st + 1), .int l, .int t, .int sk, .retAddr 0] rfl rfl rfl rfl ?_
  refine z_aload_n (q := 1) rfl rfl rfl ?_
  refine z_aload_n (q := 2) rfl rfl rfl ?_
  refine z_getR (q := 5) rfl rfl rfl (St_k w) (St_r0 w) ?_
  refine z_getI (q := 8) rfl rfl rfl (Sh_k (St_w0 w)) ?_
  rw [stS_g5]
  refine z_iload_n (q := 9) rfl rfl rfl ?_
  refine z_iload_n (q := 10) rfl rfl rfl ?_
  refine z_aload_n (q := 11) rfl rfl rfl ?_
  refine z_aload_n (q := 12) rfl rfl rfl ?_
  refine z_getR (q := 15) rfl rfl rfl (St_k w) (St_r0 w) ?_
  refine z_getI (q := 18) rfl rfl rfl (Sh_k (St_w0 w)) ?_
  rw [stS_g5]
  rw [hc]
  refine z_cv1l (q := 21) rfl rfl rfl (St_k w) (s_St_ownNumbers hC) ?_
  refine z_cv4v (q := 24) rfl rfl rfl (Sh_k (St_w0 w)) (q_St_begin w) ?_
  refine z_iconst (q := 25) (v := 0) rfl rfl rfl ?_
  refine z_istore (q := 27) (L2 := [_, _, _, _, _, _]) rfl rfl rfl rfl ?_
  rw [← hc]
  exact l_St_stepsOn w hD hc hC hd hv D 0 (by omega)
theorem q_St_goBackTo {sc : Option (Nat × Nat × (Nat → Int32))} {sa : Nat → Nat} {d : Nat} {M : mz_M} {z : Nat × Nat} {st : Nat} {pr ln td : Int32} {D D0 : Nat} {pa ks os ts hs cs : Nat → Int32} {s l t : Int32} {q : sQ} (w : g_St M.2.2 st) (hD : D ≤ 60) {c : Nat} (hc : s = nI c) (hC : c ≤ 12) {K A B E : Nat → Nat} (hd : ∀ i, i < D → ks i = nI (K i) ∧ os i = nI (A i) ∧ ts i = nI (B i) ∧ hs i = nI (E i)) (hD0 : D ≤ D0) (h0 : D0 ≤ 60) (hv : plV s l t c 40 K A B E (-1) (bgQ (ownR c) q) D) : zx sc sa (d + 7) 78 [.ref st, .int (nI D)] (stQ M st pr ln td (nI D0) pa ks os ts hs cs s l t q) z z none (stQ M st pr ln td (nI D) pa ks os ts hs cs s l t (fo (plG s l t c K A B E (-1)) (bgQ (ownR c) q) D)) := by
  refine zxin ym_St_goBackTo [.ref st, .int (nI D)] rfl rfl rfl rfl ?_
  refine z_aload_n (q := 1) rfl rfl rfl ?_
  refine z_iload_n (q := 2) rfl rfl rfl ?_
  refine z_aload_n (q := 3) rfl rfl rfl ?_
  refine z_getI (q := 6) rfl rfl rfl (St_k w) ?_
  rw [stQ_g10]
  refine z_min (q := 9) rfl rfl (by omega) rfl ?_
  rw [show (if nI D0 < nI D then nI D0 else nI D) = nI D from if_neg (nI_nlt hD0 (by omega))]
  refine z_putI (q := 12) rfl rfl rfl (by decide) rfl rfl (St_k w) ?_
  rw [stQ_u10]
  refine z_aload_n (q := 13) rfl rfl rfl ?_
  refine z_aload_n (q := 14) rfl rfl rfl ?_
  refine z_getR (q := 17) rfl rfl rfl (St_k w) (St_r0 w) ?_
  refine z_aload_n (q := 18) rfl rfl rfl ?_
  refine z_getR (q := 21) rfl rfl rfl (St_k w) (St_r0 w) ?_
  refine z_getI (q := 24) rfl rfl rfl (Sh_k (St_w0 w)) ?_
  rw [stS_g6]
  refine z_aload_n (q := 25) rfl rfl rfl ?_
  refine z_getR (q := 28) rfl rfl rfl (St_k w) (St_r0 w) ?_
  refine z_getI (q := 31) rfl rfl rfl (Sh_k (St_w0 w)) ?_
  rw [stS_g7]
  refine z_iconst (q := 32) (v := -1) rfl rfl rfl ?_
  refine z_cv4i (q := 35) rfl rfl rfl (St_k w) (q_St_stepsOn w hD hc hC hd hv) ?_
  refine z_pop (q := 36) rfl rfl rfl ?_
  refine z_ret rfl rfl ?_
  exact ⟨rfl, rfl⟩
