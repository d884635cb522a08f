-- the reader of the reference
def reF (F : Nat → Int32) (i p : Nat) (f21 f22 f23 f24 f25 : Int32) : Nat → Int32 := fun k => if k = 19 then nI i else if k = 20 then nI p else if k = 21 then f21 else if k = 22 then f22 else if k = 23 then f23 else if k = 24 then f24 else if k = 25 then f25 else F k
def reP (M : mz_M) (m : Nat) (F : Nat → Int32) (A : Nat → Nat → Int32) (i p : Nat) (f21 f22 f23 f24 f25 : Int32) : mz_M := moF M m (reF F i p f21 f22 f23 f24 f25) A
theorem bz_iff {p q : Prop} [Decidable p] [Decidable q] (h : p ↔ q) : bz p = bz q := by
  by_cases c : p
  · rw [bz_t c, bz_t (h.mp c)]
  · rw [bz_f c, bz_f (fun e => c (h.mpr e))]
section
variable {M : mz_M} {m : Nat} {F : Nat → Int32} {A : Nat → Nat → Int32} {i p : Nat} {f21 f22 f23 f24 f25 : Int32}
theorem reF_o {k : Nat} (h : k < 19 ∨ 25 < k) : reF F i p f21 f22 f23 f24 f25 k = F k := by
  unfold reF
  rw [if_neg (by omega), if_neg (by omega), if_neg (by omega), if_neg (by omega), if_neg (by omega), if_neg (by omega), if_neg (by omega)]
theorem reP_g19 : (reP M m F A i p f21 f22 f23 f24 f25).1 m 19 = nI i := by unfold reP; rw [moF_g]; rfl
theorem reP_u19 {x : Nat} : mz_uI (reP M m F A i p f21 f22 f23 f24 f25) m 19 (nI x) = (reP M m F A x p f21 f22 f23 f24 f25) := by
  unfold reP
  rw [moF_u]
  refine congrArg (fun X => moF M m X A) ?_
  funext k
  unfold va_up reF
  by_cases h : k = 19
  · subst h
    simp
  · simp [h]
theorem reP_g20 : (reP M m F A i p f21 f22 f23 f24 f25).1 m 20 = nI p := by unfold reP; rw [moF_g]; rfl
theorem reP_u20 {x : Nat} : mz_uI (reP M m F A i p f21 f22 f23 f24 f25) m 20 (nI x) = (reP M m F A i x f21 f22 f23 f24 f25) := by
  unfold reP
  rw [moF_u]
  refine congrArg (fun X => moF M m X A) ?_
  funext k
  unfold va_up reF
  by_cases h : k = 20
  · subst h
    simp
  · simp [h]
theorem reP_g21 : (reP M m F A i p f21 f22 f23 f24 f25).1 m 21 = f21 := by unfold reP; rw [moF_g]; rfl
theorem reP_u21 {x : Int32} : mz_uI (reP M m F A i p f21 f22 f23 f24 f25) m 21 (x) = (reP M m F A i p x f22 f23 f24 f25) := by
  unfold reP
  rw [moF_u]
  refine congrArg (fun X => moF M m X A) ?_
  funext k
  unfold va_up reF
  by_cases h : k = 21
  · subst h
    simp
  · simp [h]
theorem reP_g22 : (reP M m F A i p f21 f22 f23 f24 f25).1 m 22 = f22 := by unfold reP; rw [moF_g]; rfl
theorem reP_u22 {x : Int32} : mz_uI (reP M m F A i p f21 f22 f23 f24 f25) m 22 (x) = (reP M m F A i p f21 x f23 f24 f25) := by
  unfold reP
  rw [moF_u]
  refine congrArg (fun X => moF M m X A) ?_
  funext k
  unfold va_up reF
  by_cases h : k = 22
  · subst h
    simp
  · simp [h]
theorem reP_g23 : (reP M m F A i p f21 f22 f23 f24 f25).1 m 23 = f23 := by unfold reP; rw [moF_g]; rfl
theorem reP_u23 {x : Int32} : mz_uI (reP M m F A i p f21 f22 f23 f24 f25) m 23 (x) = (reP M m F A i p f21 f22 x f24 f25) := by
  unfold reP
  rw [moF_u]
  refine congrArg (fun X => moF M m X A) ?_
  funext k
  unfold va_up reF
  by_cases h : k = 23
  · subst h
    simp
  · simp [h]
theorem reP_g24 : (reP M m F A i p f21 f22 f23 f24 f25).1 m 24 = f24 := by unfold reP; rw [moF_g]; rfl
theorem reP_u24 {x : Int32} : mz_uI (reP M m F A i p f21 f22 f23 f24 f25) m 24 (x) = (reP M m F A i p f21 f22 f23 x f25) := by
  unfold reP
  rw [moF_u]
  refine congrArg (fun X => moF M m X A) ?_
  funext k
  unfold va_up reF
  by_cases h : k = 24
  · subst h
    simp
  · simp [h]
theorem reP_g25 : (reP M m F A i p f21 f22 f23 f24 f25).1 m 25 = f25 := by unfold reP; rw [moF_g]; rfl
theorem reP_u25 {x : Int32} : mz_uI (reP M m F A i p f21 f22 f23 f24 f25) m 25 (x) = (reP M m F A i p f21 f22 f23 f24 x) := by
  unfold reP
  rw [moF_u]
  refine congrArg (fun X => moF M m X A) ?_
  funext k
  unfold va_up reF
  by_cases h : k = 25
  · subst h
    simp
  · simp [h]
theorem reP_g3 : (reP M m F A i p f21 f22 f23 f24 f25).1 m 3 = F 3 := by unfold reP; rw [moF_g]; rfl
theorem reP_a0 : (reP M m F A i p f21 f22 f23 f24 f25).1 (m + 1) = A 1 := moF_a0
theorem reP_a2 : (reP M m F A i p f21 f22 f23 f24 f25).1 (m + 3) = A 3 := moF_a2
theorem reP_w0 {k : Nat} {x : Int32} : mz_uI (reP M m F A i p f21 f22 f23 f24 f25) (m + 1) k x = (reP M m F (va_up A 1 (va_up (A 1) k x)) i p f21 f22 f23 f24 f25) := moF_w0
end
theorem q_Mo_isAt {sc : Option (Nat × Nat × (Nat → Int32))} {sa : Nat → Nat} {d : Nat} {M : mz_M} {z : Nat × Nat} {m : Nat} (w : g_Mo M.2.2 m) {F : Nat → Int32} {A : Nat → Nat → Int32} {sg : Nat → Int32} {t : Nat} (ht : t ≤ 500) (h3 : F 3 = nI t) (hA : ∀ i, i < t → A 3 i = bt sg t i) {f21 f22 f23 f24 f25 : Int32} {i p : Nat} {lo up : Int32} (hi : i ≤ t) (hl : ¬ lo ≤ -1) : zx sc sa (d + 2) 200 [.ref m, .int lo, .int up] (reP M m F A i p f21 f22 f23 f24 f25) z z (some (.int (bz (lo ≤ bt sg t i ∧ bt sg t i ≤ up)))) (reP M m F A i p f21 f22 f23 f24 f25) := by
  refine zxin ym_Mo_isAt [.ref m, .int lo, .int up] rfl rfl rfl rfl ?_
  refine z_aload_n (q := 1) rfl rfl rfl ?_
  refine z_getI (q := 4) rfl rfl rfl (Mo_k w) ?_
  rw [reP_g19]
  refine z_aload_n (q := 5) rfl rfl rfl ?_
  refine z_getI (q := 8) rfl rfl rfl (Mo_k w) ?_
  rw [reP_g3]
  rw [h3]
  refine z_ic_ge (q := 11) rfl rfl (fun h8 => ?_) (fun h8 => ?_)
  · refine z_iconst (q := 36) (v := 0) rfl rfl rfl ?_
    refine z_iretz rfl rfl (rfl) ?_
    refine ⟨?_, rfl⟩
    first
      | rw [bz_t (bz_n.mp h28)]
      | rw [bz_f (bz_0.mp h28)]
      | (rw [nI_leI (by omega) (by omega)] at h8
         rw [bz_f (fun h => hl (by have h9 := h.1; rw [bt_m1.mpr (show ¬ i < t by omega)] at h9; exact h9))])
      | fail "none"
  · refine z_aload_n (q := 12) rfl rfl rfl ?_
    refine z_getR (q := 15) rfl rfl rfl (Mo_k w) (Mo_r2 w) ?_
    refine z_aload_n (q := 16) rfl rfl rfl ?_
    refine z_getI (q := 19) rfl rfl rfl (Mo_k w) ?_
    rw [reP_g19]
    refine z_iald (q := 20) rfl rfl (Mo_a2 w) (by rw [nI_leI (by omega) (by omega)] at h8; exact vp_in_nI (by omega) (by omega)) ?_
    rw [reP_a2]
    try rw [nI_clamp (by omega)]
    rw [hA i (by rw [nI_leI (by omega) (by omega)] at h8; omega)]
    refine z_i2l (q := 21) rfl rfl ?_
    refine z_iload_n (q := 22) rfl rfl rfl ?_
    refine z_i2l (q := 23) rfl rfl ?_
    refine z_iload_n (q := 24) rfl rfl rfl ?_
    refine z_i2l (q := 25) rfl rfl ?_
    refine z_cs3i (q := 28) rfl rfl rfl (t_Mo_in) ?_
    refine z_if_eq (q := 31) rfl rfl (fun h28 => ?_) (fun h28 => ?_)
    · refine z_iconst (q := 36) (v := 0) rfl rfl rfl ?_
      refine z_iretz rfl rfl (rfl) ?_
      refine ⟨?_, rfl⟩
      first
        | rw [bz_t (bz_n.mp h28)]
        | rw [bz_f (bz_0.mp h28)]
        | (rw [nI_leI (by omega) (by omega)] at h8
           rw [bz_f (fun h => hl (by have h9 := h.1; rw [bt_m1.mpr (show ¬ i < t by omega)] at h9; exact h9))])
        | fail "none"
    · refine z_iconst (q := 32) (v := 1) rfl rfl rfl ?_
      refine z_goto rfl ?_
      refine z_iretz rfl rfl (rfl) ?_
      refine ⟨?_, rfl⟩
      first
        | rw [bz_t (bz_n.mp h28)]
        | rw [bz_f (bz_0.mp h28)]
        | (rw [nI_leI (by omega) (by omega)] at h8
           rw [bz_f (fun h => hl (by have h9 := h.1; rw [bt_m1.mpr (show ¬ i < t by omega)] at h9; exact h9))])
        | fail "none"
theorem q_Mo_isAtL {sc : Option (Nat × Nat × (Nat → Int32))} {sa : Nat → Nat} {d : Nat} {M : mz_M} {z : Nat × Nat} {m : Nat} (w : g_Mo M.2.2 m) {F : Nat → Int32} {A : Nat → Nat → Int32} {sg : Nat → Int32} {t : Nat} (ht : t ≤ 500) (h3 : F 3 = nI t) (hA : ∀ i, i < t → A 3 i = bt sg t i) {f21 f22 f23 f24 f25 : Int32} {i p : Nat} (hi : i ≤ t) : zx sc sa (d + 2) 200 [.ref m, .int 97, .int 122] (reP M m F A i p f21 f22 f23 f24 f25) z z (some (.int (bz (leB (bt sg t i) = true)))) (reP M m F A i p f21 f22 f23 f24 f25) := by
  have e : ((97 : Int32) ≤ bt sg t i ∧ bt sg t i ≤ 122) ↔ leB (bt sg t i) = true := by
    unfold leB; rw [decide_eq_true_iff, Int32.not_lt, Int32.not_lt]
  have e2 := q_Mo_isAt (sc := sc) (sa := sa) (d := d) (z := z) (p := p) (f21 := f21) (f22 := f22) (f23 := f23) (f24 := f24) (f25 := f25) w ht h3 hA hi (lo := 97) (up := 122) (by decide)
  rw [bz_iff e] at e2
  exact e2
theorem q_Mo_isAtD {sc : Option (Nat × Nat × (Nat → Int32))} {sa : Nat → Nat} {d : Nat} {M : mz_M} {z : Nat × Nat} {m : Nat} (w : g_Mo M.2.2 m) {F : Nat → Int32} {A : Nat → Nat → Int32} {sg : Nat → Int32} {t : Nat} (ht : t ≤ 500) (h3 : F 3 = nI t) (hA : ∀ i, i < t → A 3 i = bt sg t i) {f21 f22 f23 f24 f25 : Int32} {i p : Nat} (hi : i ≤ t) : zx sc sa (d + 2) 200 [.ref m, .int 48, .int 57] (reP M m F A i p f21 f22 f23 f24 f25) z z (some (.int (bz (diB (bt sg t i) = true)))) (reP M m F A i p f21 f22 f23 f24 f25) := by
  have e : ((48 : Int32) ≤ bt sg t i ∧ bt sg t i ≤ 57) ↔ diB (bt sg t i) = true := by
    unfold diB; rw [decide_eq_true_iff, Int32.not_lt, Int32.not_lt]
  have e2 := q_Mo_isAt (sc := sc) (sa := sa) (d := d) (z := z) (p := p) (f21 := f21) (f22 := f22) (f23 := f23) (f24 := f24) (f25 := f25) w ht h3 hA hi (lo := 48) (up := 57) (by decide)
  rw [bz_iff e] at e2
  exact e2
theorem q_Mo_isAtS {sc : Option (Nat × Nat × (Nat → Int32))} {sa : Nat → Nat} {d : Nat} {M : mz_M} {z : Nat × Nat} {m : Nat} (w : g_Mo M.2.2 m) {F : Nat → Int32} {A : Nat → Nat → Int32} {sg : Nat → Int32} {t : Nat} (ht : t ≤ 500) (h3 : F 3 = nI t) (hA : ∀ i, i < t → A 3 i = bt sg t i) {f21 f22 f23 f24 f25 : Int32} {i p : Nat} (hi : i ≤ t) : zx sc sa (d + 2) 200 [.ref m, .int 32, .int 32] (reP M m F A i p f21 f22 f23 f24 f25) z z (some (.int (bz (bt sg t i = 32)))) (reP M m F A i p f21 f22 f23 f24 f25) := by
  have e : ((32 : Int32) ≤ bt sg t i ∧ bt sg t i ≤ 32) ↔ bt sg t i = 32 := by
    exact ⟨fun h => (Int32.le_antisymm h.1 h.2).symm, fun h => by rw [h]; decide⟩
  have e2 := q_Mo_isAt (sc := sc) (sa := sa) (d := d) (z := z) (p := p) (f21 := f21) (f22 := f22) (f23 := f23) (f24 := f24) (f25 := f25) w ht h3 hA hi (lo := 32) (up := 32) (by decide)
  rw [bz_iff e] at e2
  exact e2
theorem q_Mo_isAtN {sc : Option (Nat × Nat × (Nat → Int32))} {sa : Nat → Nat} {d : Nat} {M : mz_M} {z : Nat × Nat} {m : Nat} (w : g_Mo M.2.2 m) {F : Nat → Int32} {A : Nat → Nat → Int32} {sg : Nat → Int32} {t : Nat} (ht : t ≤ 500) (h3 : F 3 = nI t) (hA : ∀ i, i < t → A 3 i = bt sg t i) {f21 f22 f23 f24 f25 : Int32} {i p : Nat} (hi : i ≤ t) : zx sc sa (d + 2) 200 [.ref m, .int 10, .int 10] (reP M m F A i p f21 f22 f23 f24 f25) z z (some (.int (bz (bt sg t i = 10)))) (reP M m F A i p f21 f22 f23 f24 f25) := by
  have e : ((10 : Int32) ≤ bt sg t i ∧ bt sg t i ≤ 10) ↔ bt sg t i = 10 := by
    exact ⟨fun h => (Int32.le_antisymm h.1 h.2).symm, fun h => by rw [h]; decide⟩
  have e2 := q_Mo_isAt (sc := sc) (sa := sa) (d := d) (z := z) (p := p) (f21 := f21) (f22 := f22) (f23 := f23) (f24 := f24) (f25 := f25) w ht h3 hA hi (lo := 10) (up := 10) (by decide)
  rw [bz_iff e] at e2
  exact e2
theorem q_Mo_isAtG {sc : Option (Nat × Nat × (Nat → Int32))} {sa : Nat → Nat} {d : Nat} {M : mz_M} {z : Nat × Nat} {m : Nat} (w : g_Mo M.2.2 m) {F : Nat → Int32} {A : Nat → Nat → Int32} {sg : Nat → Int32} {t : Nat} (ht : t ≤ 500) (h3 : F 3 = nI t) (hA : ∀ i, i < t → A 3 i = bt sg t i) {f21 f22 f23 f24 f25 : Int32} {i p : Nat} (hi : i ≤ t) : zx sc sa (d + 2) 200 [.ref m, .int 59, .int 59] (reP M m F A i p f21 f22 f23 f24 f25) z z (some (.int (bz (bt sg t i = 59)))) (reP M m F A i p f21 f22 f23 f24 f25) := by
  have e : ((59 : Int32) ≤ bt sg t i ∧ bt sg t i ≤ 59) ↔ bt sg t i = 59 := by
    exact ⟨fun h => (Int32.le_antisymm h.1 h.2).symm, fun h => by rw [h]; decide⟩
  have e2 := q_Mo_isAt (sc := sc) (sa := sa) (d := d) (z := z) (p := p) (f21 := f21) (f22 := f22) (f23 := f23) (f24 := f24) (f25 := f25) w ht h3 hA hi (lo := 59) (up := 59) (by decide)
  rw [bz_iff e] at e2
  exact e2
def dgR (sg : Nat → Int32) (t : Nat) : Nat → Nat → Int32 → Nat × Int32
  | 0, i, v => (i, v)
  | k + 1, i, v => if diB (bt sg t i) = true then dgR sg t k (i + 1) (if 10 * v + bt sg t i - 48 < 99999 then 10 * v + bt sg t i - 48 else 99999) else (i, v)
theorem dgR_s {sg : Nat → Int32} {t k i : Nat} {v : Int32} : dgR sg t (k + 1) i v = if diB (bt sg t i) = true then dgR sg t k (i + 1) (if 10 * v + bt sg t i - 48 < 99999 then 10 * v + bt sg t i - 48 else 99999) else (i, v) := rfl
def nxR (sg : Nat → Int32) (t b : Nat) : Int32 × Nat × Nat × Int32 :=
  if bt sg t (sk blB sg t (t - b) b) = -1 then (0, sk blB sg t (t - b) b, sk blB sg t (t - b) b, 0)
  else if leB (bt sg t (sk blB sg t (t - b) b)) = true then (1, sk blB sg t (t - b) b, sk leB sg t (t - sk blB sg t (t - b) b) (sk blB sg t (t - b) b), 0)
  else if diB (bt sg t (sk blB sg t (t - b) b)) = true then (2, sk blB sg t (t - b) b, dgR sg t (t - sk blB sg t (t - b) b) (sk blB sg t (t - b) b) 0)
  else (if bt sg t (sk blB sg t (t - b) b) = 59 then 3 else 4, sk blB sg t (t - b) b, sk blB sg t (t - b) b + 1, 0)
theorem l_Mo_nextL {sc : Option (Nat × Nat × (Nat → Int32))} {sa : Nat → Nat} {d : Nat} {M : mz_M} {z : Nat × Nat} {m : Nat} (w : g_Mo M.2.2 m) {F : Nat → Int32} {A : Nat → Nat → Int32} {sg : Nat → Int32} {t : Nat} (ht : t ≤ 500) (h3 : F 3 = nI t) (hA : ∀ i, i < t → A 3 i = bt sg t i) {f21 f22 f23 f24 f25 : Int32} {p : Nat} : ∀ (k : Nat) (i e : Nat), i + k = t → sk leB sg t k i = e → zw sc sa (d + 2) ym_Mo_next z (fun r' M' => r' = none ∧ M' = (reP M m F A e p f21 f22 f23 f24 f25)) 83 [.ref m] [] (reP M m F A i p f21 f22 f23 f24 f25) z := by
  intro k
  induction k with
  | zero =>
    intro i e hi he
    have e1 : i = t := by omega
    have eN : bt sg t i = -1 := bt_m1.mpr (by omega)
    have e2 : i = e := he
    subst e2
    refine z_aload_n (q := 84) rfl rfl rfl ?_
    refine z_bipush (q := 86) (v := 97) rfl rfl rfl ?_
    refine z_bipush (q := 88) (v := 122) rfl rfl rfl ?_
    refine z_cv2i (q := 91) rfl rfl rfl (Mo_k w) (q_Mo_isAtL w ht h3 hA (by omega)) ?_
    refine z_if_eq (q := 94) rfl rfl (fun h91 => ?_) (fun h91 => ?_)
    · refine z_ret rfl rfl ?_
      exact ⟨rfl, rfl⟩
    · exact absurd (bz_n.mp h91) (by rw [eN]; decide)
  | succ k ih =>
    intro i e hi he
    refine z_aload_n (q := 84) rfl rfl rfl ?_
    refine z_bipush (q := 86) (v := 97) rfl rfl rfl ?_
    refine z_bipush (q := 88) (v := 122) rfl rfl rfl ?_
    refine z_cv2i (q := 91) rfl rfl rfl (Mo_k w) (q_Mo_isAtL w ht h3 hA (by omega)) ?_
    refine z_if_eq (q := 94) rfl rfl (fun h91 => ?_) (fun h91 => ?_)
    · refine z_ret rfl rfl ?_
      rw [sk_s, if_neg (bz_0.mp h91)] at he
      subst he
      exact ⟨rfl, rfl⟩
    · refine z_aload_n (q := 95) rfl rfl rfl ?_
      refine z_dup (q := 96) rfl rfl rfl ?_
      refine z_getI (q := 99) rfl rfl rfl (Mo_k w) ?_
      rw [reP_g19]
      refine z_iconst (q := 100) (v := 1) rfl rfl rfl ?_
      refine z_iadd (q := 101) rfl rfl ?_
      rw [← nI_succ]
      refine z_putI (q := 104) rfl rfl rfl (by decide) rfl rfl (Mo_k w) ?_
      rw [reP_u19]
      refine z_goto rfl ?_
      rw [sk_s, if_pos (bz_n.mp h91)] at he
      exact ih (i + 1) e (by omega) he
theorem l_Mo_nextD {sc : Option (Nat × Nat × (Nat → Int32))} {sa : Nat → Nat} {d : Nat} {M : mz_M} {z : Nat × Nat} {m : Nat} (w : g_Mo M.2.2 m) {F : Nat → Int32} {A : Nat → Nat → Int32} {sg : Nat → Int32} {t : Nat} (ht : t ≤ 500) (h3 : F 3 = nI t) (hA : ∀ i, i < t → A 3 i = bt sg t i) {f21 f23 f24 f25 : Int32} {p : Nat} : ∀ (k : Nat) (i e : Nat) (v y : Int32), i + k = t → dgR sg t k i v = (e, y) → zw sc sa (d + 2) ym_Mo_next z (fun r' M' => r' = none ∧ M' = (reP M m F A e p f21 y f23 f24 f25)) 123 [.ref m] [] (reP M m F A i p f21 v f23 f24 f25) z := by
  intro k
  induction k with
  | zero =>
    intro i e v y hi he
    have e1 : i = t := by omega
    have eN : bt sg t i = -1 := bt_m1.mpr (by omega)
    have e2 : (i, v) = (e, y) := he
    obtain ⟨rfl, rfl⟩ := Prod.mk.inj e2
    refine z_aload_n (q := 124) rfl rfl rfl ?_
    refine z_bipush (q := 126) (v := 48) rfl rfl rfl ?_
    refine z_bipush (q := 128) (v := 57) rfl rfl rfl ?_
    refine z_cv2i (q := 131) rfl rfl rfl (Mo_k w) (q_Mo_isAtD w ht h3 hA (by omega)) ?_
    refine z_if_eq (q := 134) rfl rfl (fun h131 => ?_) (fun h131 => ?_)
    · refine z_ret rfl rfl ?_
      exact ⟨rfl, rfl⟩
    · exact absurd (bz_n.mp h131) (by rw [eN]; decide)
  | succ k ih =>
    intro i e v y hi he
    refine z_aload_n (q := 124) rfl rfl rfl ?_
    refine z_bipush (q := 126) (v := 48) rfl rfl rfl ?_
    refine z_bipush (q := 128) (v := 57) rfl rfl rfl ?_
    refine z_cv2i (q := 131) rfl rfl rfl (Mo_k w) (q_Mo_isAtD w ht h3 hA (by omega)) ?_
    refine z_if_eq (q := 134) rfl rfl (fun h131 => ?_) (fun h131 => ?_)
    · refine z_ret rfl rfl ?_
      rw [dgR_s, if_neg (bz_0.mp h131)] at he
      obtain ⟨rfl, rfl⟩ := Prod.mk.inj he
      exact ⟨rfl, rfl⟩
    · refine z_aload_n (q := 135) rfl rfl rfl ?_
      refine z_ldc (q := 137) (v := 99999) rfl rfl rfl ?_
      refine z_bipush (q := 139) (v := 10) rfl rfl rfl ?_
      refine z_aload_n (q := 140) rfl rfl rfl ?_
      refine z_getI (q := 143) rfl rfl rfl (Mo_k w) ?_
      rw [reP_g22]
      refine z_imul (q := 144) rfl rfl ?_
      refine z_aload_n (q := 145) rfl rfl rfl ?_
      refine z_getR (q := 148) rfl rfl rfl (Mo_k w) (Mo_r2 w) ?_
      refine z_aload_n (q := 149) rfl rfl rfl ?_
      refine z_getI (q := 152) rfl rfl rfl (Mo_k w) ?_
      rw [reP_g19]
      refine z_iald (q := 153) rfl rfl (Mo_a2 w) (vp_in_nI (by omega) (by omega)) ?_
      rw [reP_a2]
      try rw [nI_clamp (by omega)]
      rw [hA i (by omega)]
      refine z_iadd (q := 154) rfl rfl ?_
      refine z_bipush (q := 156) (v := 48) rfl rfl rfl ?_
      refine z_isub (q := 157) rfl rfl ?_
      refine z_min (q := 160) rfl rfl (by omega) rfl ?_
      refine z_putI (q := 163) rfl rfl rfl (by decide) rfl rfl (Mo_k w) ?_
      rw [reP_u22]
      refine z_aload_n (q := 164) rfl rfl rfl ?_
      refine z_dup (q := 165) rfl rfl rfl ?_
      refine z_getI (q := 168) rfl rfl rfl (Mo_k w) ?_
      rw [reP_g19]
      refine z_iconst (q := 169) (v := 1) rfl rfl rfl ?_
      refine z_iadd (q := 170) rfl rfl ?_
      rw [← nI_succ]
      refine z_putI (q := 173) rfl rfl rfl (by decide) rfl rfl (Mo_k w) ?_
      rw [reP_u19]
      refine z_goto rfl ?_
      rw [dgR_s, if_pos (bz_n.mp h131)] at he
      exact ih (i + 1) e _ y (by omega) he
theorem l_Mo_nextT {sc : Option (Nat × Nat × (Nat → Int32))} {sa : Nat → Nat} {d : Nat} {M : mz_M} {z : Nat × Nat} {m : Nat} (w : g_Mo M.2.2 m) {F : Nat → Int32} {A : Nat → Nat → Int32} {sg : Nat → Int32} {t : Nat} (ht : t ≤ 500) (h3 : F 3 = nI t) (hA : ∀ i, i < t → A 3 i = bt sg t i) {f21 f22 f23 f24 f25 : Int32} {b g1 g3 : Nat} {g0 g4 : Int32} (hr : nxR sg t b = (g0, g1, g3, g4)) {i p : Nat} (hi : i ≤ t) (hm : sk blB sg t (t - b) b = i) : zw sc sa (d + 2) ym_Mo_next z (fun r' M' => r' = none ∧ M' = (reP M m F A g3 g1 g0 g4 f23 f24 f25)) 35 [.ref m] [] (reP M m F A i p f21 f22 f23 f24 f25) z := by
  refine z_aload_n (q := 36) rfl rfl rfl ?_
  refine z_aload_n (q := 37) rfl rfl rfl ?_
  refine z_getI (q := 40) rfl rfl rfl (Mo_k w) ?_
  rw [reP_g19]
  refine z_putI (q := 43) rfl rfl rfl (by decide) rfl rfl (Mo_k w) ?_
  rw [reP_u20]
  refine z_aload_n (q := 44) rfl rfl rfl ?_
  refine z_iconst (q := 45) (v := 0) rfl rfl rfl ?_
  refine z_putI (q := 48) rfl rfl rfl (by decide) rfl rfl (Mo_k w) ?_
  rw [reP_u22]
  refine z_aload_n (q := 49) rfl rfl rfl ?_
  refine z_getI (q := 52) rfl rfl rfl (Mo_k w) ?_
  rw [reP_g19]
  refine z_aload_n (q := 53) rfl rfl rfl ?_
  refine z_getI (q := 56) rfl rfl rfl (Mo_k w) ?_
  rw [reP_g3]
  rw [h3]
  refine z_ic_ne (q := 59) rfl rfl (fun h56 => ?_) (fun h56 => ?_)
  · have h56 : ¬ bt sg t i = -1 := by
      rw [nI_eq (by omega) (by omega)] at h56
      rw [bt_m1]
      omega
    refine z_aload_n (q := 68) rfl rfl rfl ?_
    refine z_bipush (q := 70) (v := 97) rfl rfl rfl ?_
    refine z_bipush (q := 72) (v := 122) rfl rfl rfl ?_
    refine z_cv2i (q := 75) rfl rfl rfl (Mo_k w) (q_Mo_isAtL w ht h3 hA (by omega)) ?_
    refine z_if_eq (q := 78) rfl rfl (fun h75 => ?_) (fun h75 => ?_)
    · refine z_aload_n (q := 108) rfl rfl rfl ?_
      refine z_bipush (q := 110) (v := 48) rfl rfl rfl ?_
      refine z_bipush (q := 112) (v := 57) rfl rfl rfl ?_
      refine z_cv2i (q := 115) rfl rfl rfl (Mo_k w) (q_Mo_isAtD w ht h3 hA (by omega)) ?_
      refine z_if_eq (q := 118) rfl rfl (fun h115 => ?_) (fun h115 => ?_)
      · refine z_aload_n (q := 177) rfl rfl rfl ?_
        refine z_aload_n (q := 178) rfl rfl rfl ?_
        refine z_bipush (q := 180) (v := 59) rfl rfl rfl ?_
        refine z_bipush (q := 182) (v := 59) rfl rfl rfl ?_
        refine z_cv2i (q := 185) rfl rfl rfl (Mo_k w) (q_Mo_isAtG w ht h3 hA (by omega)) ?_
        refine z_if_eq (q := 188) rfl rfl (fun h185 => ?_) (fun h185 => ?_)
        · refine z_iconst (q := 193) (v := 4) rfl rfl rfl ?_
          refine z_putI (q := 196) rfl rfl rfl (by decide) rfl rfl (Mo_k w) ?_
          rw [reP_u21]
          refine z_aload_n (q := 197) rfl rfl rfl ?_
          refine z_dup (q := 198) rfl rfl rfl ?_
          refine z_getI (q := 201) rfl rfl rfl (Mo_k w) ?_
          rw [reP_g19]
          refine z_iconst (q := 202) (v := 1) rfl rfl rfl ?_
          refine z_iadd (q := 203) rfl rfl ?_
          rw [← nI_succ]
          refine z_putI (q := 206) rfl rfl rfl (by decide) rfl rfl (Mo_k w) ?_
          rw [reP_u19]
          refine z_ret rfl rfl ?_
          unfold nxR at hr
          rw [hm] at hr
          first
            | (rw [if_neg h56, if_neg (bz_0.mp h75), if_neg (bz_0.mp h115), if_neg (bz_0.mp h185)] at hr; simp only [Prod.mk.injEq] at hr; obtain ⟨rfl, rfl, rfl, rfl⟩ := hr; exact ⟨rfl, rfl⟩)
            | (rw [if_neg h56, if_neg (bz_0.mp h75), if_neg (bz_0.mp h115), if_pos (bz_n.mp h185)] at hr; simp only [Prod.mk.injEq] at hr; obtain ⟨rfl, rfl, rfl, rfl⟩ := hr; exact ⟨rfl, rfl⟩)
            | (rw [if_pos h56] at hr; simp only [Prod.mk.injEq] at hr; obtain ⟨rfl, rfl, rfl, rfl⟩ := hr; exact ⟨rfl, rfl⟩)
            | fail "none"
        · refine z_iconst (q := 189) (v := 3) rfl rfl rfl ?_
          refine z_goto rfl ?_
          refine z_putI (q := 196) rfl rfl rfl (by decide) rfl rfl (Mo_k w) ?_
          rw [reP_u21]
          refine z_aload_n (q := 197) rfl rfl rfl ?_
          refine z_dup (q := 198) rfl rfl rfl ?_
          refine z_getI (q := 201) rfl rfl rfl (Mo_k w) ?_
          rw [reP_g19]
          refine z_iconst (q := 202) (v := 1) rfl rfl rfl ?_
          refine z_iadd (q := 203) rfl rfl ?_
          rw [← nI_succ]
          refine z_putI (q := 206) rfl rfl rfl (by decide) rfl rfl (Mo_k w) ?_
          rw [reP_u19]
          refine z_ret rfl rfl ?_
          unfold nxR at hr
          rw [hm] at hr
          first
            | (rw [if_neg h56, if_neg (bz_0.mp h75), if_neg (bz_0.mp h115), if_neg (bz_0.mp h185)] at hr; simp only [Prod.mk.injEq] at hr; obtain ⟨rfl, rfl, rfl, rfl⟩ := hr; exact ⟨rfl, rfl⟩)
            | (rw [if_neg h56, if_neg (bz_0.mp h75), if_neg (bz_0.mp h115), if_pos (bz_n.mp h185)] at hr; simp only [Prod.mk.injEq] at hr; obtain ⟨rfl, rfl, rfl, rfl⟩ := hr; exact ⟨rfl, rfl⟩)
            | (rw [if_pos h56] at hr; simp only [Prod.mk.injEq] at hr; obtain ⟨rfl, rfl, rfl, rfl⟩ := hr; exact ⟨rfl, rfl⟩)
            | fail "none"
      · refine z_aload_n (q := 119) rfl rfl rfl ?_
        refine z_iconst (q := 120) (v := 2) rfl rfl rfl ?_
        refine z_putI (q := 123) rfl rfl rfl (by decide) rfl rfl (Mo_k w) ?_
        rw [reP_u21]
        unfold nxR at hr
        rw [hm, if_neg h56, if_neg (bz_0.mp h75), if_pos (bz_n.mp h115)] at hr
        simp only [Prod.mk.injEq] at hr
        obtain ⟨rfl, rfl, h9⟩ := hr
        exact l_Mo_nextD w ht h3 hA (t - i) i _ _ _ (by omega) h9
    · refine z_aload_n (q := 79) rfl rfl rfl ?_
      refine z_iconst (q := 80) (v := 1) rfl rfl rfl ?_
      refine z_putI (q := 83) rfl rfl rfl (by decide) rfl rfl (Mo_k w) ?_
      rw [reP_u21]
      unfold nxR at hr
      rw [hm, if_neg h56, if_pos (bz_n.mp h75)] at hr
      simp only [Prod.mk.injEq] at hr
      obtain ⟨rfl, rfl, h9, rfl⟩ := hr
      exact l_Mo_nextL w ht h3 hA (t - i) i _ (by omega) h9
  · have h56 :  bt sg t i = -1 := by
      rw [nI_eq (by omega) (by omega)] at h56
      rw [bt_m1]
      omega
    refine z_aload_n (q := 60) rfl rfl rfl ?_
    refine z_iconst (q := 61) (v := 0) rfl rfl rfl ?_
    refine z_putI (q := 64) rfl rfl rfl (by decide) rfl rfl (Mo_k w) ?_
    rw [reP_u21]
    refine z_goto rfl ?_
    refine z_ret rfl rfl ?_
    unfold nxR at hr
    rw [hm] at hr
    first
      | (rw [if_neg h56, if_neg (bz_0.mp h75), if_neg (bz_0.mp h115), if_neg (bz_0.mp h185)] at hr; simp only [Prod.mk.injEq] at hr; obtain ⟨rfl, rfl, rfl, rfl⟩ := hr; exact ⟨rfl, rfl⟩)
      | (rw [if_neg h56, if_neg (bz_0.mp h75), if_neg (bz_0.mp h115), if_pos (bz_n.mp h185)] at hr; simp only [Prod.mk.injEq] at hr; obtain ⟨rfl, rfl, rfl, rfl⟩ := hr; exact ⟨rfl, rfl⟩)
      | (rw [if_pos h56] at hr; simp only [Prod.mk.injEq] at hr; obtain ⟨rfl, rfl, rfl, rfl⟩ := hr; exact ⟨rfl, rfl⟩)
      | fail "none"
theorem l_Mo_next {sc : Option (Nat × Nat × (Nat → Int32))} {sa : Nat → Nat} {d : Nat} {M : mz_M} {z : Nat × Nat} {m : Nat} (w : g_Mo M.2.2 m) {F : Nat → Int32} {A : Nat → Nat → Int32} {sg : Nat → Int32} {t : Nat} (ht : t ≤ 500) (h3 : F 3 = nI t) (hA : ∀ i, i < t → A 3 i = bt sg t i) {f21 f22 f23 f24 f25 : Int32} {b g1 g3 : Nat} {g0 g4 : Int32} (hr : nxR sg t b = (g0, g1, g3, g4)) {p : Nat} : ∀ (k : Nat) (i : Nat), i + k = t → sk blB sg t k i = sk blB sg t (t - b) b → zw sc sa (d + 2) ym_Mo_next z (fun r' M' => r' = none ∧ M' = (reP M m F A g3 g1 g0 g4 f23 f24 f25)) 0 [.ref m] [] (reP M m F A i p f21 f22 f23 f24 f25) z := by
  intro k
  induction k with
  | zero =>
    intro i hi hm
    have e1 : i = t := by omega
    have eN : bt sg t i = -1 := bt_m1.mpr (by omega)
    have e2 : i = sk blB sg t (t - b) b := hm
    refine z_aload_n (q := 1) rfl rfl rfl ?_
    refine z_bipush (q := 3) (v := 32) rfl rfl rfl ?_
    refine z_bipush (q := 5) (v := 32) rfl rfl rfl ?_
    refine z_cv2i (q := 8) rfl rfl rfl (Mo_k w) (q_Mo_isAtS w ht h3 hA (by omega)) ?_
    refine z_if_ne (q := 11) rfl rfl (fun h8 => ?_) (fun h8 => ?_)
    · exact absurd (bz_n.mp h8) (by rw [eN]; decide)
    · refine z_aload_n (q := 12) rfl rfl rfl ?_
      refine z_bipush (q := 14) (v := 10) rfl rfl rfl ?_
      refine z_bipush (q := 16) (v := 10) rfl rfl rfl ?_
      refine z_cv2i (q := 19) rfl rfl rfl (Mo_k w) (q_Mo_isAtN w ht h3 hA (by omega)) ?_
      refine z_if_eq (q := 22) rfl rfl (fun h19 => ?_) (fun h19 => ?_)
      · exact l_Mo_nextT w ht h3 hA hr (by omega) e2.symm
      · exact absurd (bz_n.mp h19) (by rw [eN]; decide)
  | succ k ih =>
    intro i hi hm
    refine z_aload_n (q := 1) rfl rfl rfl ?_
    refine z_bipush (q := 3) (v := 32) rfl rfl rfl ?_
    refine z_bipush (q := 5) (v := 32) rfl rfl rfl ?_
    refine z_cv2i (q := 8) rfl rfl rfl (Mo_k w) (q_Mo_isAtS w ht h3 hA (by omega)) ?_
    refine z_if_ne (q := 11) rfl rfl (fun h8 => ?_) (fun h8 => ?_)
    · refine z_aload_n (q := 23) rfl rfl rfl ?_
      refine z_dup (q := 24) rfl rfl rfl ?_
      refine z_getI (q := 27) rfl rfl rfl (Mo_k w) ?_
      rw [reP_g19]
      refine z_iconst (q := 28) (v := 1) rfl rfl rfl ?_
      refine z_iadd (q := 29) rfl rfl ?_
      rw [← nI_succ]
      refine z_putI (q := 32) rfl rfl rfl (by decide) rfl rfl (Mo_k w) ?_
      rw [reP_u19]
      refine z_goto rfl ?_
      rw [sk_s, if_pos (show blB (bt sg t i) = true by unfold blB; rw [decide_eq_true_iff]; first | exact Or.inl (bz_n.mp h8) | exact Or.inr (bz_n.mp h19) | fail "none")] at hm
      exact ih (i + 1) (by omega) hm
    · refine z_aload_n (q := 12) rfl rfl rfl ?_
      refine z_bipush (q := 14) (v := 10) rfl rfl rfl ?_
      refine z_bipush (q := 16) (v := 10) rfl rfl rfl ?_
      refine z_cv2i (q := 19) rfl rfl rfl (Mo_k w) (q_Mo_isAtN w ht h3 hA (by omega)) ?_
      refine z_if_eq (q := 22) rfl rfl (fun h19 => ?_) (fun h19 => ?_)
      · rw [sk_s, if_neg (show ¬ blB (bt sg t i) = true by unfold blB; rw [decide_eq_true_iff]; exact fun h => h.elim (bz_0.mp (by first | exact Decidable.byContradiction h8 | exact h8 | fail "none")) (bz_0.mp h19))] at hm
        exact l_Mo_nextT w ht h3 hA hr (by omega) hm.symm
      · refine z_aload_n (q := 23) rfl rfl rfl ?_
        refine z_dup (q := 24) rfl rfl rfl ?_
        refine z_getI (q := 27) rfl rfl rfl (Mo_k w) ?_
        rw [reP_g19]
        refine z_iconst (q := 28) (v := 1) rfl rfl rfl ?_
        refine z_iadd (q := 29) rfl rfl ?_
        rw [← nI_succ]
        refine z_putI (q := 32) rfl rfl rfl (by decide) rfl rfl (Mo_k w) ?_
        rw [reP_u19]
        refine z_goto rfl ?_
        rw [sk_s, if_pos (show blB (bt sg t i) = true by unfold blB; rw [decide_eq_true_iff]; first | exact Or.inl (bz_n.mp h8) | exact Or.inr (bz_n.mp h19) | fail "none")] at hm
        exact ih (i + 1) (by omega) hm
theorem q_Mo_next {sc : Option (Nat × Nat × (Nat → Int32))} {sa : Nat → Nat} {d : Nat} {M : mz_M} {z : Nat × Nat} {m : Nat} (w : g_Mo M.2.2 m) {F : Nat → Int32} {A : Nat → Nat → Int32} {sg : Nat → Int32} {t : Nat} (ht : t ≤ 500) (h3 : F 3 = nI t) (hA : ∀ i, i < t → A 3 i = bt sg t i) {f21 f22 f23 f24 f25 : Int32} {b g1 g3 : Nat} {g0 g4 : Int32} (hr : nxR sg t b = (g0, g1, g3, g4)) {p : Nat} (hb : b ≤ t) : zx sc sa (d + 3) 201 [.ref m] (reP M m F A b p f21 f22 f23 f24 f25) z z none (reP M m F A g3 g1 g0 g4 f23 f24 f25) := by
  refine zxin ym_Mo_next [.ref m] rfl rfl rfl rfl ?_
  exact l_Mo_next w ht h3 hA hr (t - b) b (by omega) rfl
