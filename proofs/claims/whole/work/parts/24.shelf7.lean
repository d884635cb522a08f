theorem p_Sh_mergedRow {M : mz_M} {sc : Option (Nat × Nat × (Nat → Int32))} {sa : Nat → Nat} {d : Nat} {z : Nat × Nat} {sh N : Nat} {s l t m p : Int32} {J : Nat → Int64} {lt lc mo mc : Nat → Int32} (w : g_Sh M.2.2 sh N) {n : Nat} (hn : m = nI n) (hN : n ≤ N) (hM : N ≤ 200) {j : Nat} (hj : j < n) {u : Nat} (hu : u < n) (ho : okm mo n) {c : Nat} (hc : s = nI c) (hC : c ≤ 12)  : zx sc sa (d + 4) 61 [.ref sh, .int (nI j), .int (nI u)] (shP M sh s l t m p J lt lc mo mc) z z (some (.long (fo (mgG (J (mtN mo (2 * n) j u)) (J j) (J u)) (J j) c))) (shP M sh s l t m p J lt lc mo mc) := by
  have h := s_Sh_mergedRow (sc := sc) (sa := sa) (d := d) (z := z) (M := shP M sh s l t m p J lt lc mo mc) w (by rw [shP_g8]; exact hn) hN hM hj hu (by rw [shP_a3]; exact ho) (by rw [shP_g5]; exact hc) hC
  rw [shP_a0, shP_a3] at h
  exact h
theorem p_Sh_patchedRow {M : mz_M} {sc : Option (Nat × Nat × (Nat → Int32))} {sa : Nat → Nat} {d : Nat} {z : Nat × Nat} {sh N : Nat} {s l t m p : Int32} {J : Nat → Int64} {lt lc mo mc : Nat → Int32} (w : g_Sh M.2.2 sh N) {n : Nat} (hn : m = nI n) (hN : n ≤ N) (hM : N ≤ 200) {j : Nat} (hj : j < n) {u : Nat} (hu : u < n) {e : Nat} (he : e < n) {c : Nat} (hc : s = nI c) (hC : c ≤ 12)  : zx sc sa (d + 3) 63 [.ref sh, .int (nI j), .int (nI u), .int (nI e)] (shP M sh s l t m p J lt lc mo mc) z z (some (.long (fo (paG (J j) (J u)) (J e) c))) (shP M sh s l t m p J lt lc mo mc) := by
  have h := s_Sh_patchedRow (sc := sc) (sa := sa) (d := d) (z := z) (M := shP M sh s l t m p J lt lc mo mc) w (by rw [shP_g8]; exact hn) hN hM hj hu he (by rw [shP_g5]; exact hc) hC
  rw [shP_a0] at h
  exact h
theorem p_Sh_allWays {M : mz_M} {sc : Option (Nat × Nat × (Nat → Int32))} {sa : Nat → Nat} {d : Nat} {z : Nat × Nat} {sh N : Nat} {s l t m p : Int32} {J : Nat → Int64} {lt lc mo mc : Nat → Int32} (w : g_Sh M.2.2 sh N) {n : Nat} (hn : m = nI n) (hN : n ≤ N) (hM : N ≤ 200) (hf : okl lt n)  : zx sc sa (d + 2) 42 [.ref sh] (shP M sh s l t m p J lt lc mo mc) z z (some (.int (fo (fun v acc => acc + nI (wl lt n v)) 0 n))) (shP M sh s l t m p J lt lc mo mc) := by
  have h := s_Sh_allWays (sc := sc) (sa := sa) (d := d) (z := z) (M := shP M sh s l t m p J lt lc mo mc) w (by rw [shP_g8]; exact hn) hN hM (by rw [shP_a1]; exact hf)
  rw [shP_a1] at h
  exact h
theorem up_bk {α : Type} {f : Nat → α} {k : Nat} {x : α} : va_up (va_up f k x) k (f k) = f := by
  funext c
  by_cases h : c = k
  · simp [va_up, h]
  · simp [va_up, h]
theorem p_Sh_allWaysIfSnapped {sc : Option (Nat × Nat × (Nat → Int32))} {sa : Nat → Nat} {d : Nat} {M : mz_M} {z : Nat × Nat} {sh N : Nat} {s l t m p : Int32} {J : Nat → Int64} {lt lc mo mc : Nat → Int32} (w : g_Sh M.2.2 sh N) {n : Nat} (hn : m = nI n) (hN : n ≤ N) (hM : N ≤ 200) {j : Nat} (hj : j < n) (hf : okl lt n)  : zx sc sa (d + 3) 43 [.ref sh, .int (nI j)] (shP M sh s l t m p J lt lc mo mc) z z (some (.int (fo (fun v acc => acc + nI (wl (va_up lt j (-1)) n v)) 0 n))) (shP M sh s l t m p J lt lc mo mc) := by
  refine zxin ym_Sh_allWaysIfSnapped [.ref sh, .int (nI j), .retAddr 0, .retAddr 0] rfl rfl rfl rfl ?_
  refine z_aload_n (q := 1) rfl rfl rfl ?_
  refine z_iload_n (q := 2) rfl rfl rfl ?_
  refine z_cv1i (q := 5) rfl rfl rfl (Sh_k w) (p_Sh_has w hn hN hM hj) ?_
  refine z_if_ne (q := 8) rfl rfl (fun h5 => ?_) (fun h5 => ?_)
  · refine z_aload_n (q := 14) rfl rfl rfl ?_
    refine z_getR (q := 17) rfl rfl rfl (Sh_k w) (Sh_r1 w) ?_
    refine z_iload_n (q := 18) rfl rfl rfl ?_
    refine z_iald (q := 19) rfl rfl (Sh_a1 w) (by first | assumption | exact vp_in_nI (by omega) (by omega)) ?_
    rw [shP_a1]
    try rw [nI_clamp (by omega)]
    refine z_istore_n (q := 20) (L2 := [_, _, _, _]) rfl rfl rfl rfl ?_
    refine z_aload_n (q := 21) rfl rfl rfl ?_
    refine z_getR (q := 24) rfl rfl rfl (Sh_k w) (Sh_r1 w) ?_
    refine z_iload_n (q := 25) rfl rfl rfl ?_
    refine z_iconst (q := 26) (v := -1) rfl rfl rfl ?_
    refine z_iast (q := 27) rfl rfl (Sh_a1 w) (by first | assumption | exact vp_in_nI (by omega) (by omega)) ?_
    rw [shP_w1]
    try rw [nI_clamp (by omega)]
    refine z_aload_n (q := 28) rfl rfl rfl ?_
    refine z_cv0i (q := 31) rfl rfl rfl (Sh_k w) (p_Sh_allWays w hn hN hM (okl_up hf (Or.inl rfl))) ?_
    refine z_istore_n (q := 32) (L2 := [_, _, _, _]) rfl rfl rfl rfl ?_
    refine z_aload_n (q := 33) rfl rfl rfl ?_
    refine z_getR (q := 36) rfl rfl rfl (Sh_k w) (Sh_r1 w) ?_
    refine z_iload_n (q := 37) rfl rfl rfl ?_
    refine z_iload_n (q := 38) rfl rfl rfl ?_
    refine z_iast (q := 39) rfl rfl (Sh_a1 w) (by first | assumption | exact vp_in_nI (by omega) (by omega)) ?_
    rw [shP_w1]
    try rw [nI_clamp (by omega)]
    refine z_iload_n (q := 40) rfl rfl rfl ?_
    refine z_ireti rfl rfl ?_
    rw [up_bk]
    exact ⟨rfl, rfl⟩
  · exact absurd h5 (by decide)
-- a shelf's versions as one value: how many, rows, links, makings, steps
abbrev sQ : Type := Nat × (Nat → Int64) × (Nat → Int32) × (Nat → Int32) × (Nat → Int32) × (Nat → Int32) × Int32
def shQ (M : mz_M) (sh : Nat) (s l t : Int32) (q : sQ) : mz_M := shP M sh s l t (nI q.1) q.2.2.2.2.2.2 q.2.1 q.2.2.1 q.2.2.2.1 q.2.2.2.2.1 q.2.2.2.2.2.1
def setQ (s l t : Int32) (j : Nat) (cell x : Int32) (q : sQ) : sQ := (q.1 + 1, va_up q.2.1 q.1 (wnI (q.2.1 j) cell x), (stF s l t q.1 j cell q.2.2.1 q.2.2.2.1 q.2.2.2.2.2.2).1, (stF s l t q.1 j cell q.2.2.1 q.2.2.2.1 q.2.2.2.2.2.2).2.1, va_up q.2.2.2.2.1 q.1 (nI j), va_up q.2.2.2.2.2.1 q.1 cell, (stF s l t q.1 j cell q.2.2.1 q.2.2.2.1 q.2.2.2.2.2.2).2.2)
def rdQ (s l t : Int32) (j : Nat) (cell : Int32) (q : sQ) : sQ := (q.1, q.2.1, (rdF s l t q.1 j cell q.2.2.1 q.2.2.2.1 q.2.2.2.2.2.2).1, (rdF s l t q.1 j cell q.2.2.1 q.2.2.2.1 q.2.2.2.2.2.2).2.1, q.2.2.2.2.1, q.2.2.2.2.2.1, (rdF s l t q.1 j cell q.2.2.1 q.2.2.2.1 q.2.2.2.2.2.2).2.2)
def frQ (s l t : Int32) (c j : Nat) (a : Int32) (q : sQ) : Int32 × sQ := ((frF s l t q.1 j q.2.1 c a q.2.2.1 q.2.2.2.1 q.2.2.2.2.2.2).1, q.1, q.2.1, (frF s l t q.1 j q.2.1 c a q.2.2.1 q.2.2.2.1 q.2.2.2.2.2.2).2.1, (frF s l t q.1 j q.2.1 c a q.2.2.1 q.2.2.2.1 q.2.2.2.2.2.2).2.2.1, q.2.2.2.2.1, q.2.2.2.2.2.1, (frF s l t q.1 j q.2.1 c a q.2.2.1 q.2.2.2.1 q.2.2.2.2.2.2).2.2.2)
def snQ (s : Int32) (j : Nat) (q : sQ) : Int32 × sQ := if q.2.2.1 j = -1 then (0, q) else (q.2.2.2.2.2.2 + (nI (wl q.2.2.1 q.1 j) + s) - q.2.2.2.2.2.2, q.1, q.2.1, va_up q.2.2.1 j (-1), va_up q.2.2.2.1 j (-1), q.2.2.2.2.1, q.2.2.2.2.2.1, q.2.2.2.2.2.2 + (nI (wl q.2.2.1 q.1 j) + s))
def loG (s l t : Int32) (fr row : Int64) : Nat → Nat × sQ → Nat × sQ := fun c v => if nmI fr (nI c) = nmI row (nI c) then v else (v.2.1, setQ s l t v.1 (nI c) (nmI row (nI c)) v.2)
theorem loG_e {s l t : Int32} {fr row : Int64} {c : Nat} {v : Nat × sQ} (h : nmI fr (nI c) = nmI row (nI c)) : loG s l t fr row c v = v := if_pos h
theorem loG_n {s l t : Int32} {fr row : Int64} {c : Nat} {v : Nat × sQ} (h : ¬ nmI fr (nI c) = nmI row (nI c)) : loG s l t fr row c v = (v.2.1, setQ s l t v.1 (nI c) (nmI row (nI c)) v.2) := if_neg h
theorem okl_st {s l t : Int32} {n j : Nat} {cell : Int32} {lt lc : Nat → Int32} {p : Int32} (hn : n < 2 ^ 30) (hj : j < n) (h : okl lt n) : okl (stF s l t n j cell lt lc p).1 (n + 1) := by
  have mono : ∀ (f : Nat → Int32) (k : Nat) (b : Int32), okl f n → okv (n + 1) b → okl (va_up (va_up f n (-1)) k b) (n + 1) := by
    intro f k b hf hb v hv
    by_cases e : v = k
    · have : va_up (va_up f n (-1)) k b v = b := by simp [va_up, e]
      rw [this]
      exact hb
    · by_cases e2 : v = n
      · have : va_up (va_up f n (-1)) k b v = -1 := by
          have : n ≠ k := fun h => e (e2.trans h)
          simp [va_up, e2, this]
        rw [this]
        exact Or.inl rfl
      · have : va_up (va_up f n (-1)) k b v = f v := by simp [va_up, e, e2]
        rw [this]
        rcases hf v (by omega) with a | ⟨u, hu, a⟩
        · exact Or.inl a
        · exact Or.inr ⟨u, by omega, a⟩
  unfold stF
  by_cases h1 : l = 1
  · rw [if_pos h1]
    exact mono _ _ _ h (Or.inr ⟨j, by omega, rfl⟩)
  · rw [if_neg h1]
    exact mono _ _ _ (okl_rc (by omega) hj h) (Or.inr ⟨n, by omega, rfl⟩)
theorem q_Sh_setCell {M : mz_M} {sc : Option (Nat × Nat × (Nat → Int32))} {sa : Nat → Nat} {d : Nat} {z : Nat × Nat} {sh N : Nat} {s l t : Int32} {q : sQ} (w : g_Sh M.2.2 sh N) (hN : q.1 < N) (hM : N ≤ 200) {j : Nat} (hj : j < q.1) (hf : okl q.2.2.1 q.1) {cell x : Int32} : zx sc sa (d + 3) 56 [.ref sh, .int (nI j), .int cell, .int x] (shQ M sh s l t q) z z (some (.int (nI q.1))) (shQ M sh s l t (setQ s l t j cell x q)) := by
  have h := p_Sh_setCell (sc := sc) (sa := sa) (d := d) (z := z) (s := s) (l := l) (t := t) (p := q.2.2.2.2.2.2) (J := q.2.1) (lc := q.2.2.2.1) (mo := q.2.2.2.2.1) (mc := q.2.2.2.2.2.1) w hN hM hj hf (cell := cell) (x := x)
  rw [← nI_succ] at h
  exact h
theorem q_Sh_joinRoots {M : mz_M} {sc : Option (Nat × Nat × (Nat → Int32))} {sa : Nat → Nat} {d : Nat} {z : Nat × Nat} {sh N : Nat} {s l t : Int32} {q : sQ} (w : g_Sh M.2.2 sh N) (hN : q.1 < N) (hM : N ≤ 200) {j : Nat} (hj : j < q.1) (hf : okl q.2.2.1 q.1) {a b : Int32} : zx sc sa (d + 4) 59 [.ref sh, .int (nI j), .int a, .int b] (shQ M sh s l t q) z z (some (.int (nI q.1))) (shQ M sh s l t (setQ s l t j (if a < b then b else a) (if b < a then b else a) q)) := by
  have h := p_Sh_joinRoots (sc := sc) (sa := sa) (d := d) (z := z) (s := s) (l := l) (t := t) (p := q.2.2.2.2.2.2) (J := q.2.1) (lc := q.2.2.2.1) (mo := q.2.2.2.2.1) (mc := q.2.2.2.2.2.1) w hN hM hj hf (a := a) (b := b)
  rw [← nI_succ] at h
  exact h
theorem q_Sh_readCell {M : mz_M} {sc : Option (Nat × Nat × (Nat → Int32))} {sa : Nat → Nat} {d : Nat} {z : Nat × Nat} {sh N : Nat} {s l t : Int32} {q : sQ} (w : g_Sh M.2.2 sh N) (hN : q.1 ≤ N) (hM : N ≤ 200) {j : Nat} (hj : j < q.1) (hf : okl q.2.2.1 q.1) {cell : Int32} : zx sc sa (d + 3) 52 [.ref sh, .int (nI j), .int cell] (shQ M sh s l t q) z z (some (.int (nmI (q.2.1 j) cell))) (shQ M sh s l t (rdQ s l t j cell q)) := p_Sh_readCell w rfl hN hM hj hf
theorem q_Sh_findRoot {M : mz_M} {sc : Option (Nat × Nat × (Nat → Int32))} {sa : Nat → Nat} {d : Nat} {z : Nat × Nat} {sh N : Nat} {s l t : Int32} {q : sQ} (w : g_Sh M.2.2 sh N) (hN : q.1 ≤ N) (hM : N ≤ 200) {j : Nat} (hj : j < q.1) (hf : okl q.2.2.1 q.1) {c : Nat} (hc : s = nI c) (hC : c ≤ 12) {a : Int32} : zx sc sa (d + 4) 58 [.ref sh, .int (nI j), .int a] (shQ M sh s l t q) z z (some (.int (frQ s l t c j a q).1)) (shQ M sh s l t (frQ s l t c j a q).2) := p_Sh_findRoot w rfl hN hM hj hf hc hC
theorem q_Sh_snapRow {M : mz_M} {sc : Option (Nat × Nat × (Nat → Int32))} {sa : Nat → Nat} {d : Nat} {z : Nat × Nat} {sh N : Nat} {s l t : Int32} {q : sQ} (w : g_Sh M.2.2 sh N) (hN : q.1 ≤ N) (hM : N ≤ 200) {j : Nat} (hj : j < q.1) (hf : okl q.2.2.1 q.1) : zx sc sa (d + 3) 57 [.ref sh, .int (nI j)] (shQ M sh s l t q) z z (some (.int (snQ s j q).1)) (shQ M sh s l t (snQ s j q).2) := by
  have h := p_Sh_snapRow (sc := sc) (sa := sa) (d := d) (z := z) (s := s) (l := l) (t := t) (p := q.2.2.2.2.2.2) (J := q.2.1) (lc := q.2.2.2.1) (mo := q.2.2.2.2.1) (mc := q.2.2.2.2.2.1) w rfl hN hM hj hf
  unfold snQ
  by_cases h1 : q.2.2.1 j = -1
  · rw [if_pos h1, if_pos h1] at h
    rw [if_pos h1]
    exact h
  · rw [if_neg h1, if_neg h1] at h
    rw [if_neg h1]
    exact h
theorem l_Sh_layOn {sc : Option (Nat × Nat × (Nat → Int32))} {sa : Nat → Nat} {d : Nat} {M : mz_M} {z : Nat × Nat} {sh N : Nat} {s l t : Int32} (w : g_Sh M.2.2 sh N) (hM : N ≤ 200) {c : Nat} (hc : s = nI c) (hC : c ≤ 12) {x1 : Int32} {fr row : Int64} {v0 : Nat × sQ} (hcap : ∀ i, i < c → ¬ nmI fr (nI i) = nmI row (nI i) → (fo (loG s l t fr row) v0 i).2.1 < N) : ∀ (k : Nat) (i : Nat), i + k = c → (fo (loG s l t fr row) v0 i).1 < (fo (loG s l t fr row) v0 i).2.1 → (fo (loG s l t fr row) v0 i).2.1 ≤ N → okl (fo (loG s l t fr row) v0 i).2.2.2.1 (fo (loG s l t fr row) v0 i).2.1 → zw sc sa (d + 3) ym_Sh_layOn z (fun r' M' => r' = some (.int (nI (fo (loG s l t fr row) v0 c).1)) ∧ M' = (shQ M sh s l t (fo (loG s l t fr row) v0 c).2)) 13 [.ref sh, .int x1, .long row, .retAddr 0, .long fr, .retAddr 0, .int (nI (fo (loG s l t fr row) v0 i).1), .int (nI i)] [] (shQ M sh s l t (fo (loG s l t fr row) v0 i).2) z := by
  intro k
  induction k with
  | zero =>
    intro i hi h1 h2 h3
    have e1 : i = c := by omega
    subst e1
    refine z_iload (q := 15) rfl rfl rfl ?_
    refine z_aload_n (q := 16) rfl rfl rfl ?_
    refine z_getI (q := 19) rfl rfl rfl (Sh_k w) ?_
    refine z_ic_ge (q := 22) rfl rfl (fun h19 => ?_) (fun h19 => ?_)
    · refine z_iload (q := 62) rfl rfl rfl ?_
      refine z_ireti rfl rfl ?_
      exact ⟨rfl, rfl⟩
    · exact absurd (show (shQ M sh s l t (fo (loG s l t fr row) v0 i).2).1 sh 5 ≤ nI i from by rw [show (shQ M sh s l t (fo (loG s l t fr row) v0 i).2).1 sh 5 = s from shP_g5, hc]; exact nI_le (Nat.le_refl _) (by omega)) h19
  | succ k ih =>
    intro i hi h1 h2 h3
    have e8 : fo (loG s l t fr row) v0 (i + 1) = loG s l t fr row i (fo (loG s l t fr row) v0 i) := rfl
    refine z_iload (q := 15) rfl rfl rfl ?_
    refine z_aload_n (q := 16) rfl rfl rfl ?_
    refine z_getI (q := 19) rfl rfl rfl (Sh_k w) ?_
    refine z_ic_ge (q := 22) rfl rfl (fun h19 => ?_) (fun h19 => ?_)
    · rw [show (shQ M sh s l t (fo (loG s l t fr row) v0 i).2).1 sh 5 = s from shP_g5, hc] at h19
      exact absurd h19 (nI_ge (by omega) (by omega))
    · refine z_lload (q := 24) rfl rfl rfl ?_
      refine z_iload (q := 26) rfl rfl rfl ?_
      refine z_cs2i (q := 29) rfl rfl rfl (s_Sh_numberIn) ?_
      refine z_lload_n (q := 30) rfl rfl rfl ?_
      refine z_iload (q := 32) rfl rfl rfl ?_
      refine z_cs2i (q := 35) rfl rfl rfl (s_Sh_numberIn) ?_
      refine z_ic_eq (q := 38) rfl rfl (fun h35 => ?_) (fun h35 => ?_)
      · refine z_iinc (q := 57) (L2 := [_, _, _, _, _, _, _, _]) rfl rfl rfl rfl ?_
        refine z_goto rfl ?_
        rw [show nI i + Int32.ofInt 1 = nI (i + 1) from (nI_succ i).symm]
        have e9 := ih (i + 1) (by omega)
        first
          | (rw [e8, loG_e h35] at e9; exact e9 h1 h2 h3)
          | (rw [e8, loG_n h35] at e9
             exact e9 (Nat.lt_succ_self _) (hcap i (by omega) h35) (okl_st (by omega) h1 h3))
      · refine z_aload_n (q := 39) rfl rfl rfl ?_
        refine z_iload (q := 41) rfl rfl rfl ?_
        refine z_iload (q := 43) rfl rfl rfl ?_
        refine z_lload_n (q := 44) rfl rfl rfl ?_
        refine z_iload (q := 46) rfl rfl rfl ?_
        refine z_cs2i (q := 49) rfl rfl rfl (s_Sh_numberIn) ?_
        refine z_cv3i (q := 52) rfl rfl rfl (Sh_k w) (q_Sh_setCell w (hcap i (by omega) h35) hM h1 h3) ?_
        refine z_istore (q := 54) (L2 := [_, _, _, _, _, _, _, _]) rfl rfl rfl rfl ?_
        refine z_iinc (q := 57) (L2 := [_, _, _, _, _, _, _, _]) rfl rfl rfl rfl ?_
        refine z_goto rfl ?_
        rw [show nI i + Int32.ofInt 1 = nI (i + 1) from (nI_succ i).symm]
        have e9 := ih (i + 1) (by omega)
        first
          | (rw [e8, loG_e h35] at e9; exact e9 h1 h2 h3)
          | (rw [e8, loG_n h35] at e9
             exact e9 (Nat.lt_succ_self _) (hcap i (by omega) h35) (okl_st (by omega) h1 h3))
theorem q_Sh_layOn {sc : Option (Nat × Nat × (Nat → Int32))} {sa : Nat → Nat} {d : Nat} {M : mz_M} {z : Nat × Nat} {sh N : Nat} {s l t : Int32} {q : sQ} (w : g_Sh M.2.2 sh N) (hN : q.1 ≤ N) (hM : N ≤ 200) {j : Nat} (hj : j < q.1) (hf : okl q.2.2.1 q.1) {c : Nat} (hc : s = nI c) (hC : c ≤ 12) {row : Int64} (hcap : ∀ i, i < c → ¬ nmI (q.2.1 j) (nI i) = nmI row (nI i) → (fo (loG s l t (q.2.1 j) row) (j, q) i).2.1 < N) : zx sc sa (d + 4) 64 [.ref sh, .int (nI j), .long row] (shQ M sh s l t q) z z (some (.int (nI (fo (loG s l t (q.2.1 j) row) (j, q) c).1))) (shQ M sh s l t (fo (loG s l t (q.2.1 j) row) (j, q) c).2) := by
  refine zxin ym_Sh_layOn [.ref sh, .int (nI j), .long row, .retAddr 0, .retAddr 0, .retAddr 0, .retAddr 0, .retAddr 0] rfl rfl rfl rfl ?_
  refine z_aload_n (q := 1) rfl rfl rfl ?_
  refine z_iload_n (q := 2) rfl rfl rfl ?_
  refine z_cv1l (q := 5) rfl rfl rfl (Sh_k w) (p_Sh_rowOf w rfl hN hM hj) ?_
  refine z_lstore (q := 7) (L2 := [_, _, _, _, _, _, _, _]) rfl rfl rfl rfl ?_
  refine z_iload_n (q := 8) rfl rfl rfl ?_
  refine z_istore (q := 10) (L2 := [_, _, _, _, _, _, _, _]) rfl rfl rfl rfl ?_
  refine z_iconst (q := 11) (v := 0) rfl rfl rfl ?_
  refine z_istore (q := 13) (L2 := [_, _, _, _, _, _, _, _]) rfl rfl rfl rfl ?_
  exact l_Sh_layOn w hM hc hC (v0 := (j, q)) hcap c 0 (by omega) hj hN hf
