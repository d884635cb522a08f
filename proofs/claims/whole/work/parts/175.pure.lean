-- ways along the links, by fuel; counting; rows of numbers
def wl (f : Nat → Int32) : Nat → Nat → Nat
  | 0, _ => 0
  | k + 1, u => if f u = -1 then 0 else wl f k (f u).toNatClampNeg + 1
def okl (f : Nat → Int32) (n : Nat) : Prop := ∀ v, v < n → f v = -1 ∨ ∃ u, u < n ∧ f v = nI u
def nmI (row : Int64) (cell : Int32) : Int32 := (row.toUInt64 >>> ((4 * cell).toInt64.toUInt64 &&& Int64.toUInt64 63)).toInt64.toInt32 &&& 15
def wnI (row : Int64) (cell number : Int32) : Int64 := (row &&& ((15 <<< ((4 * cell).toInt64 &&& 63)) ^^^ -1)) ||| ((number &&& 15).toInt64 <<< ((4 * cell).toInt64 &&& 63))
def cn (p : Nat → Bool) : Nat → Nat
  | 0 => 0
  | k + 1 => cn p k + (bif p k then 1 else 0)
theorem cn_t {p : Nat → Bool} {k : Nat} (h : p k = true) : cn p (k + 1) = cn p k + 1 := by
  show cn p k + (bif p k then 1 else 0) = cn p k + 1
  rw [h, cond_true]
theorem cn_f {p : Nat → Bool} {k : Nat} (h : p k = false) : cn p (k + 1) = cn p k := by
  show cn p k + (bif p k then 1 else 0) = cn p k
  rw [h, cond_false, Nat.add_zero]
theorem cn_le (p : Nat → Bool) (k : Nat) : cn p k ≤ k := by
  induction k with
  | zero => exact Nat.le_refl _
  | succ k ih =>
    show cn p k + (bif p k then 1 else 0) ≤ k + 1
    cases p k
    · rw [cond_false]; omega
    · rw [cond_true]; omega
def sm (g : Nat → Nat) : Nat → Nat
  | 0 => 0
  | k + 1 => sm g k + g k
theorem nodup_len : ∀ (n : Nat) (l : List Nat), l.Nodup → (∀ x ∈ l, x < n) → l.length ≤ n := by
  intro n
  induction n with
  | zero =>
    intro l _ h
    cases l with
    | nil => exact Nat.le_refl _
    | cons a r => exact absurd (h a List.mem_cons_self) (Nat.not_lt_zero _)
  | succ n ih =>
    intro l hd h
    by_cases hm : n ∈ l
    · have h2 := ih (l.erase n) (hd.erase n) (fun x hx => by
        have h3 := hd.mem_erase_iff.mp hx
        have h4 := h x h3.2
        have h5 := h3.1
        omega)
      rw [List.length_erase_of_mem hm] at h2
      omega
    · have h2 := ih l hd (fun x hx => by
        have h4 := h x hx
        have h5 : x ≠ n := fun e => hm (e ▸ hx)
        omega)
      omega
def acy (f : Nat → Int32) (n : Nat) : Prop := okl f n ∧ ∃ rk : Nat → Nat, ∀ v, v < n → ¬ f v = -1 → rk (f v).toNatClampNeg < rk v
theorem okl_nx {f : Nat → Int32} {n v : Nat} (h : okl f n) (hn : n < 2 ^ 31) (hv : v < n) (hf : ¬ f v = -1) : (f v).toNatClampNeg < n ∧ f v = nI (f v).toNatClampNeg := by
  rcases h v hv with e | ⟨u, hu, e⟩
  · exact absurd e hf
  · rw [e, nI_clamp (by omega)]
    exact ⟨hu, rfl⟩
def pl (f : Nat → Int32) : Nat → Nat → List Nat
  | 0, v => [v]
  | k + 1, v => if f v = -1 then [v] else v :: pl f k (f v).toNatClampNeg
theorem pl_len (f : Nat → Int32) : ∀ k v, (pl f k v).length = wl f k v + 1 := by
  intro k
  induction k with
  | zero => intro v; rfl
  | succ k ih =>
    intro v
    unfold pl wl
    by_cases h : f v = -1
    · rw [if_pos h, if_pos h]; rfl
    · rw [if_neg h, if_neg h, List.length_cons, ih]
theorem pl_lt {f : Nat → Int32} {n : Nat} (h : okl f n) (hn : n < 2 ^ 31) : ∀ k v, v < n → ∀ x ∈ pl f k v, x < n := by
  intro k
  induction k with
  | zero =>
    intro v hv x hx
    rw [List.mem_singleton.mp hx]
    exact hv
  | succ k ih =>
    intro v hv x hx
    unfold pl at hx
    by_cases hf : f v = -1
    · rw [if_pos hf] at hx
      rw [List.mem_singleton.mp hx]
      exact hv
    · rw [if_neg hf] at hx
      rcases List.mem_cons.mp hx with e | e
      · rw [e]; exact hv
      · exact ih _ (okl_nx h hn hv hf).1 x e
theorem pl_nd {f : Nat → Int32} {n : Nat} (h : okl f n) (hn : n < 2 ^ 31) {rk : Nat → Nat} (hr : ∀ v, v < n → ¬ f v = -1 → rk (f v).toNatClampNeg < rk v) : ∀ k v, v < n → (pl f k v).Nodup ∧ ∀ x ∈ pl f k v, rk x ≤ rk v := by
  intro k
  induction k with
  | zero =>
    intro v hv
    refine ⟨List.nodup_cons.mpr ⟨List.not_mem_nil, List.nodup_nil⟩, fun x hx => ?_⟩
    rw [List.mem_singleton.mp hx]
    exact Nat.le_refl _
  | succ k ih =>
    intro v hv
    unfold pl
    by_cases hf : f v = -1
    · rw [if_pos hf]
      refine ⟨List.nodup_cons.mpr ⟨List.not_mem_nil, List.nodup_nil⟩, fun x hx => ?_⟩
      rw [List.mem_singleton.mp hx]
      exact Nat.le_refl _
    · rw [if_neg hf]
      have h2 := okl_nx h hn hv hf
      have h3 := ih _ h2.1
      have h4 := hr v hv hf
      refine ⟨List.nodup_cons.mpr ⟨fun hm => ?_, h3.1⟩, fun x hx => ?_⟩
      · have h5 := h3.2 v hm
        omega
      · rcases List.mem_cons.mp hx with e | e
        · rw [e]; exact Nat.le_refl _
        · have h5 := h3.2 x e
          omega
theorem wl_lt {f : Nat → Int32} {n : Nat} (h : acy f n) (hn : n < 2 ^ 31) (k : Nat) {v : Nat} (hv : v < n) : wl f k v < n := by
  obtain ⟨h1, rk, hr⟩ := h
  have h2 := nodup_len n (pl f k v) (pl_nd h1 hn hr k v hv).1 (pl_lt h1 hn k v hv)
  rw [pl_len] at h2
  omega
theorem wl_st (f : Nat → Int32) : ∀ k v, wl f k v < k → wl f (k + 1) v = wl f k v := by
  intro k
  induction k with
  | zero => intro v h; exact absurd h (Nat.not_lt_zero _)
  | succ k ih =>
    intro v h
    have e1 : wl f (k + 1 + 1) v = if f v = -1 then 0 else wl f (k + 1) (f v).toNatClampNeg + 1 := rfl
    have e2 : wl f (k + 1) v = if f v = -1 then 0 else wl f k (f v).toNatClampNeg + 1 := rfl
    rw [e1, e2]
    rw [e2] at h
    by_cases hf : f v = -1
    · rw [if_pos hf, if_pos hf]
    · rw [if_neg hf] at h
      rw [if_neg hf, if_neg hf, ih _ (by omega)]
theorem wl_rec {f : Nat → Int32} {n : Nat} (h : acy f n) (hn : n < 2 ^ 31) {v : Nat} (hv : v < n) : wl f n v = if f v = -1 then 0 else wl f n (f v).toNatClampNeg + 1 := by
  cases n with
  | zero => exact absurd hv (Nat.not_lt_zero _)
  | succ n =>
    have e2 : wl f (n + 1) v = if f v = -1 then 0 else wl f n (f v).toNatClampNeg + 1 := rfl
    have h3 := wl_lt h hn (n + 1) hv
    rw [e2] at h3 ⊢
    by_cases hf : f v = -1
    · rw [if_pos hf, if_pos hf]
    · rw [if_neg hf] at h3
      rw [if_neg hf, if_neg hf, wl_st f n _ (by omega)]
theorem wl_0 {f : Nat → Int32} {n : Nat} (h : acy f n) (hn : n < 2 ^ 31) {v : Nat} (hv : v < n) : wl f n v = 0 ↔ f v = -1 := by
  rw [wl_rec h hn hv]
  by_cases hf : f v = -1
  · rw [if_pos hf]; exact ⟨fun _ => hf, fun _ => rfl⟩
  · rw [if_neg hf]; exact ⟨fun e => absurd e (by omega), fun e => absurd e hf⟩
-- links set anew keep that there is no way round
theorem acy_cut {f : Nat → Int32} {n v : Nat} (h : acy f n) : acy (va_up f v (-1)) n := by
  obtain ⟨h1, rk, hr⟩ := h
  refine ⟨fun u hu => ?_, rk, fun u hu hf => ?_⟩
  · by_cases e : u = v
    · exact Or.inl (by simp [va_up, e])
    · have h2 : va_up f v (-1) u = f u := by simp [va_up, e]
      rw [h2]
      exact h1 u hu
  · by_cases e : u = v
    · exact absurd (by simp [va_up, e]) hf
    · have h2 : va_up f v (-1) u = f u := by simp [va_up, e]
      rw [h2] at hf ⊢
      exact hr u hu hf
theorem acy_new {f : Nat → Int32} {n v : Nat} (h : acy f n) (hv : v < n) (hn : n < 2 ^ 30) : acy (va_up (va_up f n (-1)) v (nI n)) (n + 1) := by
  obtain ⟨h1, rk, hr⟩ := h
  have g1 : ∀ u, u ≠ v → u ≠ n → va_up (va_up f n (-1)) v (nI n) u = f u := fun u a b => by simp [va_up, a, b]
  have g2 : va_up (va_up f n (-1)) v (nI n) v = nI n := by simp [va_up]
  have g3 : va_up (va_up f n (-1)) v (nI n) n = -1 := by
    have : n ≠ v := by omega
    simp [va_up, this]
  refine ⟨fun u hu => ?_, fun u => if u = n then 0 else rk u + 1, fun u hu hf => ?_⟩
  · by_cases e : u = v
    · rw [e, g2]; exact Or.inr ⟨n, by omega, rfl⟩
    · by_cases e2 : u = n
      · rw [e2, g3]; exact Or.inl rfl
      · rw [g1 u e e2]
        rcases h1 u (by omega) with a | ⟨x, hx, a⟩
        · exact Or.inl a
        · exact Or.inr ⟨x, by omega, a⟩
  · by_cases e2 : u = n
    · rw [e2] at hf; exact absurd g3 hf
    · by_cases e : u = v
      · rw [e, g2, nI_clamp (by omega)]
        have : v ≠ n := by omega
        simp [this]
      · rw [g1 u e e2] at hf ⊢
        have h3 := okl_nx h1 (by omega) (show u < n by omega) hf
        have h4 := hr u (by omega) hf
        have h5 : (f u).toNatClampNeg ≠ n := by omega
        simp [h5, e2]
        omega
theorem acy_new1 {f : Nat → Int32} {n v : Nat} (h : acy f n) (hv : v < n) (hn : n < 2 ^ 30) : acy (va_up f n (nI v)) (n + 1) := by
  obtain ⟨h1, rk, hr⟩ := h
  have g1 : ∀ u, u ≠ n → va_up f n (nI v) u = f u := fun u a => by simp [va_up, a]
  have g2 : va_up f n (nI v) n = nI v := by simp [va_up]
  refine ⟨fun u hu => ?_, fun u => if u = n then rk v + 1 else rk u, fun u hu hf => ?_⟩
  · by_cases e2 : u = n
    · rw [e2, g2]; exact Or.inr ⟨v, by omega, rfl⟩
    · rw [g1 u e2]
      rcases h1 u (by omega) with a | ⟨x, hx, a⟩
      · exact Or.inl a
      · exact Or.inr ⟨x, by omega, a⟩
  · by_cases e2 : u = n
    · rw [e2, g2, nI_clamp (by omega)]
      have : v ≠ n := by omega
      simp [this]
    · rw [g1 u e2] at hf ⊢
      have h3 := okl_nx h1 (by omega) (show u < n by omega) hf
      have h4 := hr u (by omega) hf
      have h5 : (f u).toNatClampNeg ≠ n := by omega
      simp [h5, e2]
      exact h4
