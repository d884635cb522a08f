theorem okl_fr {s l t : Int32} {n j : Nat} {J : Nat → Int64} (hn : n < 2 ^ 31) (hj : j < n) : ∀ (k : Nat) (a : Int32) (lt lc : Nat → Int32) (p : Int32), okl lt n → okl (frF s l t n j J k a lt lc p).2.1 n := by
  intro k
  induction k with
  | zero => intro a lt lc p h; exact h
  | succ k ih =>
    intro a lt lc p h
    unfold frF
    by_cases h1 : nmI (J j) a = a
    · rw [if_pos h1]; exact okl_rd hn hj h
    · rw [if_neg h1]; exact ih _ _ _ _ (okl_rd hn hj h)
def mgR (c a b : Nat) (q : sQ) : Int64 := fo (mgG (q.2.1 (mtN q.2.2.2.2.1 (2 * q.1) a b)) (q.2.1 a) (q.2.1 b)) (q.2.1 a) c
def paR (c a b e : Nat) (q : sQ) : Int64 := fo (paG (q.2.1 a) (q.2.1 b)) (q.2.1 e) c
/-- a deed by its kind in the store's own numbers: what comes of it, and the versions behind it -/
def caQ (s l t : Int32) (c k a b e : Nat) (q : sQ) : Int32 × sQ := match k with
  | 1 => (nmI (q.2.1 a) (nI b), rdQ s l t a (nI b) q)
  | 2 => (nI q.1, setQ s l t a (nI b) (nI e) q)
  | 3 => (nI q.1, setQ s l t a (if (frQ s l t c a (nI b) q).1 < (frQ s l t c a (nI e) (frQ s l t c a (nI b) q).2).1 then (frQ s l t c a (nI e) (frQ s l t c a (nI b) q).2).1 else (frQ s l t c a (nI b) q).1) (if (frQ s l t c a (nI e) (frQ s l t c a (nI b) q).2).1 < (frQ s l t c a (nI b) q).1 then (frQ s l t c a (nI e) (frQ s l t c a (nI b) q).2).1 else (frQ s l t c a (nI b) q).1) (frQ s l t c a (nI e) (frQ s l t c a (nI b) q).2).2)
  | 4 => frQ s l t c a (nI b) q
  | 5 => snQ s a q
  | 6 => (nI (fo (loG s l t (q.2.1 a) (mgR c a b q)) (a, q) c).1, (fo (loG s l t (q.2.1 a) (mgR c a b q)) (a, q) c).2)
  | _ => (nI (fo (loG s l t (q.2.1 e) (paR c a b e q)) (e, q) c).1, (fo (loG s l t (q.2.1 e) (paR c a b e q)) (e, q) c).2)
def loC (s l t : Int32) (c N v : Nat) (row : Int64) (q : sQ) : Prop := ∀ i, i < c → ¬ nmI (q.2.1 v) (nI i) = nmI row (nI i) → (fo (loG s l t (q.2.1 v) row) (v, q) i).2.1 < N
/-- when a deed may be done -/
def vaQ (s l t : Int32) (c N k a b e : Nat) (q : sQ) : Prop := match k with
  | 1 => a < q.1
  | 2 => a < q.1 ∧ q.1 < N
  | 3 => a < q.1 ∧ q.1 < N
  | 4 => a < q.1
  | 5 => a < q.1
  | 6 => a < q.1 ∧ b < q.1 ∧ okm q.2.2.2.2.1 q.1 ∧ loC s l t c N a (mgR c a b q) q
  | 7 => a < q.1 ∧ b < q.1 ∧ e < q.1 ∧ loC s l t c N e (paR c a b e q) q
  | _ => False
theorem q_Sh_carry1 {sc : Option (Nat × Nat × (Nat → Int32))} {sa : Nat → Nat} {d : Nat} {M : mz_M} {z : Nat × Nat} {sh N : Nat} {s l t : Int32} {q : sQ} (w : g_Sh M.2.2 sh N) (hN : q.1 ≤ N) (hM : N ≤ 200) (hf : okl q.2.2.1 q.1) {c : Nat} (hc : s = nI c) (hC : c ≤ 12) {a b e : Nat} (h : vaQ s l t c N 1 a b e q) : zx sc sa (d + 5) 65 [.ref sh, .int 1, .int (nI a), .int (nI b), .int (nI e)] (shQ M sh s l t q) z z (some (.int (caQ s l t c 1 a b e q).1)) (shQ M sh s l t (caQ s l t c 1 a b e q).2) := by
  refine zxin ym_Sh_carryOut [.ref sh, .int 1, .int (nI a), .int (nI b), .int (nI e)] rfl rfl rfl rfl ?_
  refine z_iload_n (q := 1) rfl rfl rfl ?_
  refine z_sw rfl ⟨fun h => absurd h (by decide), fun _ _ => ?_⟩
  show zw _ _ _ _ _ _ 44 _ _ _ _
  refine z_aload_n (q := 45) rfl rfl rfl ?_
  refine z_iload_n (q := 46) rfl rfl rfl ?_
  refine z_iload_n (q := 47) rfl rfl rfl ?_
  refine z_cv2i (q := 50) rfl rfl rfl (Sh_k w) (q_Sh_readCell w hN hM h hf) ?_
  refine z_ireti rfl rfl ?_
  exact ⟨rfl, rfl⟩
theorem q_Sh_carry2 {sc : Option (Nat × Nat × (Nat → Int32))} {sa : Nat → Nat} {d : Nat} {M : mz_M} {z : Nat × Nat} {sh N : Nat} {s l t : Int32} {q : sQ} (w : g_Sh M.2.2 sh N) (hN : q.1 ≤ N) (hM : N ≤ 200) (hf : okl q.2.2.1 q.1) {c : Nat} (hc : s = nI c) (hC : c ≤ 12) {a b e : Nat} (h : vaQ s l t c N 2 a b e q) : zx sc sa (d + 5) 65 [.ref sh, .int 2, .int (nI a), .int (nI b), .int (nI e)] (shQ M sh s l t q) z z (some (.int (caQ s l t c 2 a b e q).1)) (shQ M sh s l t (caQ s l t c 2 a b e q).2) := by
  refine zxin ym_Sh_carryOut [.ref sh, .int 2, .int (nI a), .int (nI b), .int (nI e)] rfl rfl rfl rfl ?_
  refine z_iload_n (q := 1) rfl rfl rfl ?_
  refine z_sw rfl ⟨fun h => absurd h (by decide), fun _ _ => ?_⟩
  show zw _ _ _ _ _ _ 51 _ _ _ _
  refine z_aload_n (q := 52) rfl rfl rfl ?_
  refine z_iload_n (q := 53) rfl rfl rfl ?_
  refine z_iload_n (q := 54) rfl rfl rfl ?_
  refine z_iload (q := 56) rfl rfl rfl ?_
  refine z_cv3i (q := 59) rfl rfl rfl (Sh_k w) (q_Sh_setCell w h.2 hM h.1 hf) ?_
  refine z_ireti rfl rfl ?_
  exact ⟨rfl, rfl⟩
theorem q_Sh_carry3 {sc : Option (Nat × Nat × (Nat → Int32))} {sa : Nat → Nat} {d : Nat} {M : mz_M} {z : Nat × Nat} {sh N : Nat} {s l t : Int32} {q : sQ} (w : g_Sh M.2.2 sh N) (hN : q.1 ≤ N) (hM : N ≤ 200) (hf : okl q.2.2.1 q.1) {c : Nat} (hc : s = nI c) (hC : c ≤ 12) {a b e : Nat} (h : vaQ s l t c N 3 a b e q) : zx sc sa (d + 5) 65 [.ref sh, .int 3, .int (nI a), .int (nI b), .int (nI e)] (shQ M sh s l t q) z z (some (.int (caQ s l t c 3 a b e q).1)) (shQ M sh s l t (caQ s l t c 3 a b e q).2) := by
  refine zxin ym_Sh_carryOut [.ref sh, .int 3, .int (nI a), .int (nI b), .int (nI e)] rfl rfl rfl rfl ?_
  refine z_iload_n (q := 1) rfl rfl rfl ?_
  refine z_sw rfl ⟨fun h => absurd h (by decide), fun _ _ => ?_⟩
  show zw _ _ _ _ _ _ 60 _ _ _ _
  refine z_aload_n (q := 61) rfl rfl rfl ?_
  refine z_iload_n (q := 62) rfl rfl rfl ?_
  refine z_aload_n (q := 63) rfl rfl rfl ?_
  refine z_iload_n (q := 64) rfl rfl rfl ?_
  refine z_iload_n (q := 65) rfl rfl rfl ?_
  refine z_cv2i (q := 68) rfl rfl rfl (Sh_k w) (q_Sh_findRoot w hN hM h.1 hf hc hC) ?_
  refine z_aload_n (q := 69) rfl rfl rfl ?_
  refine z_iload_n (q := 70) rfl rfl rfl ?_
  refine z_iload (q := 72) rfl rfl rfl ?_
  refine z_cv2i (q := 75) rfl rfl rfl (Sh_k w) (q_Sh_findRoot (q := (frQ s l t c a (nI b) q).2) w hN hM h.1 (okl_fr (by omega) h.1 _ _ _ _ _ hf) hc hC) ?_
  refine z_cv3i (q := 78) rfl rfl rfl (Sh_k w) (q_Sh_joinRoots (q := (frQ s l t c a (nI e) (frQ s l t c a (nI b) q).2).2) w h.2 hM h.1 (okl_fr (by omega) h.1 _ _ _ _ _ (okl_fr (by omega) h.1 _ _ _ _ _ hf))) ?_
  refine z_ireti rfl rfl ?_
  exact ⟨rfl, rfl⟩
theorem q_Sh_carry4 {sc : Option (Nat × Nat × (Nat → Int32))} {sa : Nat → Nat} {d : Nat} {M : mz_M} {z : Nat × Nat} {sh N : Nat} {s l t : Int32} {q : sQ} (w : g_Sh M.2.2 sh N) (hN : q.1 ≤ N) (hM : N ≤ 200) (hf : okl q.2.2.1 q.1) {c : Nat} (hc : s = nI c) (hC : c ≤ 12) {a b e : Nat} (h : vaQ s l t c N 4 a b e q) : zx sc sa (d + 5) 65 [.ref sh, .int 4, .int (nI a), .int (nI b), .int (nI e)] (shQ M sh s l t q) z z (some (.int (caQ s l t c 4 a b e q).1)) (shQ M sh s l t (caQ s l t c 4 a b e q).2) := by
  refine zxin ym_Sh_carryOut [.ref sh, .int 4, .int (nI a), .int (nI b), .int (nI e)] rfl rfl rfl rfl ?_
  refine z_iload_n (q := 1) rfl rfl rfl ?_
  refine z_sw rfl ⟨fun h => absurd h (by decide), fun _ _ => ?_⟩
  show zw _ _ _ _ _ _ 79 _ _ _ _
  refine z_aload_n (q := 80) rfl rfl rfl ?_
  refine z_iload_n (q := 81) rfl rfl rfl ?_
  refine z_iload_n (q := 82) rfl rfl rfl ?_
  refine z_cv2i (q := 85) rfl rfl rfl (Sh_k w) (q_Sh_findRoot w hN hM h hf hc hC) ?_
  refine z_ireti rfl rfl ?_
  exact ⟨rfl, rfl⟩
theorem q_Sh_carry5 {sc : Option (Nat × Nat × (Nat → Int32))} {sa : Nat → Nat} {d : Nat} {M : mz_M} {z : Nat × Nat} {sh N : Nat} {s l t : Int32} {q : sQ} (w : g_Sh M.2.2 sh N) (hN : q.1 ≤ N) (hM : N ≤ 200) (hf : okl q.2.2.1 q.1) {c : Nat} (hc : s = nI c) (hC : c ≤ 12) {a b e : Nat} (h : vaQ s l t c N 5 a b e q) : zx sc sa (d + 5) 65 [.ref sh, .int 5, .int (nI a), .int (nI b), .int (nI e)] (shQ M sh s l t q) z z (some (.int (caQ s l t c 5 a b e q).1)) (shQ M sh s l t (caQ s l t c 5 a b e q).2) := by
  refine zxin ym_Sh_carryOut [.ref sh, .int 5, .int (nI a), .int (nI b), .int (nI e)] rfl rfl rfl rfl ?_
  refine z_iload_n (q := 1) rfl rfl rfl ?_
  refine z_sw rfl ⟨fun h => absurd h (by decide), fun _ _ => ?_⟩
  show zw _ _ _ _ _ _ 86 _ _ _ _
  refine z_aload_n (q := 87) rfl rfl rfl ?_
  refine z_iload_n (q := 88) rfl rfl rfl ?_
  refine z_cv1i (q := 91) rfl rfl rfl (Sh_k w) (q_Sh_snapRow w hN hM h hf) ?_
  refine z_ireti rfl rfl ?_
  exact ⟨rfl, rfl⟩
theorem q_Sh_carry6 {sc : Option (Nat × Nat × (Nat → Int32))} {sa : Nat → Nat} {d : Nat} {M : mz_M} {z : Nat × Nat} {sh N : Nat} {s l t : Int32} {q : sQ} (w : g_Sh M.2.2 sh N) (hN : q.1 ≤ N) (hM : N ≤ 200) (hf : okl q.2.2.1 q.1) {c : Nat} (hc : s = nI c) (hC : c ≤ 12) {a b e : Nat} (h : vaQ s l t c N 6 a b e q) : zx sc sa (d + 5) 65 [.ref sh, .int 6, .int (nI a), .int (nI b), .int (nI e)] (shQ M sh s l t q) z z (some (.int (caQ s l t c 6 a b e q).1)) (shQ M sh s l t (caQ s l t c 6 a b e q).2) := by
  refine zxin ym_Sh_carryOut [.ref sh, .int 6, .int (nI a), .int (nI b), .int (nI e)] rfl rfl rfl rfl ?_
  refine z_iload_n (q := 1) rfl rfl rfl ?_
  refine z_sw rfl ⟨fun h => absurd h (by decide), fun _ _ => ?_⟩
  show zw _ _ _ _ _ _ 92 _ _ _ _
  refine z_aload_n (q := 93) rfl rfl rfl ?_
  refine z_iload_n (q := 94) rfl rfl rfl ?_
  refine z_aload_n (q := 95) rfl rfl rfl ?_
  refine z_iload_n (q := 96) rfl rfl rfl ?_
  refine z_iload_n (q := 97) rfl rfl rfl ?_
  refine z_cv2l (q := 100) rfl rfl rfl (Sh_k w) (p_Sh_mergedRow w rfl hN hM h.1 h.2.1 h.2.2.1 hc hC) ?_
  refine z_cv2i (q := 103) rfl rfl rfl (Sh_k w) (q_Sh_layOn w hN hM h.1 hf hc hC h.2.2.2) ?_
  refine z_ireti rfl rfl ?_
  exact ⟨rfl, rfl⟩
theorem q_Sh_carry7 {sc : Option (Nat × Nat × (Nat → Int32))} {sa : Nat → Nat} {d : Nat} {M : mz_M} {z : Nat × Nat} {sh N : Nat} {s l t : Int32} {q : sQ} (w : g_Sh M.2.2 sh N) (hN : q.1 ≤ N) (hM : N ≤ 200) (hf : okl q.2.2.1 q.1) {c : Nat} (hc : s = nI c) (hC : c ≤ 12) {a b e : Nat} (h : vaQ s l t c N 7 a b e q) : zx sc sa (d + 5) 65 [.ref sh, .int 7, .int (nI a), .int (nI b), .int (nI e)] (shQ M sh s l t q) z z (some (.int (caQ s l t c 7 a b e q).1)) (shQ M sh s l t (caQ s l t c 7 a b e q).2) := by
  refine zxin ym_Sh_carryOut [.ref sh, .int 7, .int (nI a), .int (nI b), .int (nI e)] rfl rfl rfl rfl ?_
  refine z_iload_n (q := 1) rfl rfl rfl ?_
  refine z_sw rfl ⟨fun h => absurd h (by decide), fun _ _ => ?_⟩
  show zw _ _ _ _ _ _ 104 _ _ _ _
  refine z_aload_n (q := 105) rfl rfl rfl ?_
  refine z_iload (q := 107) rfl rfl rfl ?_
  refine z_aload_n (q := 108) rfl rfl rfl ?_
  refine z_iload_n (q := 109) rfl rfl rfl ?_
  refine z_iload_n (q := 110) rfl rfl rfl ?_
  refine z_iload (q := 112) rfl rfl rfl ?_
  refine z_cv3l (q := 115) rfl rfl rfl (Sh_k w) (p_Sh_patchedRow w rfl hN hM h.1 h.2.1 h.2.2.1 hc hC) ?_
  refine z_cv2i (q := 118) rfl rfl rfl (Sh_k w) (q_Sh_layOn w hN hM h.2.2.1 hf hc hC h.2.2.2) ?_
  refine z_ireti rfl rfl ?_
  exact ⟨rfl, rfl⟩
theorem q_Sh_carryOut {M : mz_M} {sc : Option (Nat × Nat × (Nat → Int32))} {sa : Nat → Nat} {d : Nat} {z : Nat × Nat} {sh N : Nat} {s l t : Int32} {q : sQ} (w : g_Sh M.2.2 sh N) (hN : q.1 ≤ N) (hM : N ≤ 200) (hf : okl q.2.2.1 q.1) {c : Nat} (hc : s = nI c) (hC : c ≤ 12) {k a b e : Nat} (h : vaQ s l t c N k a b e q) : zx sc sa (d + 5) 65 [.ref sh, .int (nI k), .int (nI a), .int (nI b), .int (nI e)] (shQ M sh s l t q) z z (some (.int (caQ s l t c k a b e q).1)) (shQ M sh s l t (caQ s l t c k a b e q).2) := by
  match k, h with
  | 1, h => exact q_Sh_carry1 w hN hM hf hc hC h
  | 2, h => exact q_Sh_carry2 w hN hM hf hc hC h
  | 3, h => exact q_Sh_carry3 w hN hM hf hc hC h
  | 4, h => exact q_Sh_carry4 w hN hM hf hc hC h
  | 5, h => exact q_Sh_carry5 w hN hM hf hc hC h
  | 6, h => exact q_Sh_carry6 w hN hM hf hc hC h
  | 7, h => exact q_Sh_carry7 w hN hM hf hc hC h
  | 0, h => exact h.elim
  | k + 8, h => exact h.elim
