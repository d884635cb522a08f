theorem bzr_t {p : Prop} [Decidable p] {M : mz_M} (h : p) : some (Value.int 1) = some (Value.int (bz p)) ∧ M = M := ⟨by rw [bz_t h], rfl⟩
theorem bzr_f {p : Prop} [Decidable p] {M : mz_M} (h : ¬ p) : some (Value.int 0) = some (Value.int (bz p)) ∧ M = M := ⟨by rw [bz_f h], rfl⟩
theorem ifr_t {p : Prop} [Decidable p] {M : mz_M} {a b : Int32} (h : p) : some (Value.int a) = some (Value.int (if p then a else b)) ∧ M = M := ⟨by rw [if_pos h], rfl⟩
theorem ifr_f {p : Prop} [Decidable p] {M : mz_M} {a b : Int32} (h : ¬ p) : some (Value.int b) = some (Value.int (if p then a else b)) ∧ M = M := ⟨by rw [if_neg h], rfl⟩
-- what the versions are, in the reference's rows
def mAv (c : Nat) (A : Nat → Nat → Int32) (q : sQ) : Prop := ∀ v, v < q.1 → A 5 v = q.2.2.2.2.1 v ∧ A 6 v = q.2.2.2.2.2.1 v ∧ (∀ i, i < c → A 4 (12 * v + i) = nmI (q.2.1 v) (nI i)) ∧ A 7 v = if q.2.2.2.2.1 v = -1 then -1 else nmI (q.2.1 v) (q.2.2.2.2.2.1 v)
def mAl (A : Nat → Nat → Int32) (q : sQ) : Prop := ∀ v, v < q.1 → A 8 v = q.2.2.1 v ∧ A 9 v = q.2.2.2.1 v ∧ A 10 v = if q.2.2.1 v = -1 then -1 else nmI (q.2.1 v) (q.2.2.2.1 v)
def qE (q q' : sQ) : Prop := q.1 ≤ q'.1 ∧ ∀ v, v < q.1 → q'.2.1 v = q.2.1 v ∧ q'.2.2.2.2.1 v = q.2.2.2.2.1 v ∧ q'.2.2.2.2.2.1 v = q.2.2.2.2.2.1 v
theorem qE_r {q : sQ} : qE q q := ⟨Nat.le_refl _, fun _ _ => ⟨rfl, rfl, rfl⟩⟩
theorem qE_t {q q1 q2 : sQ} (h : qE q q1) (g : qE q1 q2) : qE q q2 := ⟨Nat.le_trans h.1 g.1, fun v hv => by
  have a := h.2 v hv
  have b := g.2 v (Nat.lt_of_lt_of_le hv h.1)
  exact ⟨b.1.trans a.1, b.2.1.trans a.2.1, b.2.2.trans a.2.2⟩⟩
theorem qE_set {q : sQ} {s l t : Int32} {j : Nat} {a x : Int32} : qE q (setQ s l t j a x q) := ⟨Nat.le_succ _, fun v hv => ⟨up_n (Nat.ne_of_lt hv), up_n (Nat.ne_of_lt hv), up_n (Nat.ne_of_lt hv)⟩⟩
theorem mAv_of {c : Nat} {F : Nat → Int32} {A : Nat → Nat → Int32} {q : sQ} (h : mAg c F A q) : mAv c A q := by
  obtain ⟨h1, h2, h3, h4, h5, h6, h7, h8, h9⟩ := h
  intro v hv
  exact ⟨by rw [h5], by rw [h6], h7 v hv, h8 v hv⟩
theorem mAv_e {c : Nat} {A : Nat → Nat → Int32} {q q' : sQ} (h : mAv c A q') (e : qE q q') : mAv c A q := by
  intro v hv
  obtain ⟨a, b, g, k⟩ := h v (Nat.lt_of_lt_of_le hv e.1)
  obtain ⟨e1, e2, e3⟩ := e.2 v hv
  rw [e1] at g k
  rw [e2] at a k
  rw [e3] at b k
  exact ⟨a, b, g, k⟩
theorem mAl_of {c : Nat} {F : Nat → Int32} {A : Nat → Nat → Int32} {q : sQ} (h : mAg c F A q) (hI : qI c q) (hC : c ≤ 12) : mAl A q := by
  obtain ⟨h1, h2, h3, h4, h5, h6, h7, h8, h9⟩ := h
  intro v hv
  refine ⟨by rw [h3], by rw [h4], ?_⟩
  rw [h9 v hv, h3, h4]
  by_cases e : q.2.2.1 v = -1
  · rw [if_pos e, if_pos e]
  · obtain ⟨i, a, b⟩ := (hI.2.2.2.1 v hv).2 e
    rw [if_neg e, if_neg e, b, nI_clamp (by omega)]
    exact h7 v hv i a
-- the numbers are cells
def qV (c : Nat) (q : sQ) : Prop := ∀ v, v < q.1 → ∀ i, i < c → ∃ x, x < c ∧ nmI (q.2.1 v) (nI i) = nI x
theorem qV_set {c : Nat} {q : sQ} {s l t : Int32} {j i y : Nat} (h : qV c q) (hj : j < q.1) (hi : i < c) (hy : y < c) (hC : c ≤ 12) : qV c (setQ s l t j (nI i) (nI y) q) := by
  intro v hv k hk
  show ∃ x, x < c ∧ nmI (va_up q.2.1 q.1 (wnI (q.2.1 j) (nI i) (nI y)) v) (nI k) = nI x
  have hv2 : v < q.1 + 1 := hv
  by_cases e : v = q.1
  · rw [e, up_s, nm_wn (by omega) (by omega) (by omega)]
    by_cases e2 : k = i
    · rw [if_pos e2]; exact ⟨y, hy, rfl⟩
    · rw [if_neg e2]; exact h j hj k hk
  · rw [up_n e]
    exact h v (by omega) k hk
theorem rt_lt {c : Nat} {row : Int64} (h : ∀ i, i < c → ∃ x, x < c ∧ nmI row (nI i) = nI x) : ∀ (k a : Nat), a < c → ∃ x, x < c ∧ rt row k (nI a) = nI x := by
  intro k
  induction k with
  | zero => intro a ha; exact ⟨a, ha, rfl⟩
  | succ k ih =>
    intro a ha
    unfold rt
    by_cases e : nmI row (nI a) = nI a
    · rw [if_pos e]; exact ⟨a, ha, rfl⟩
    · rw [if_neg e]
      obtain ⟨x, h1, h2⟩ := h a ha
      rw [h2]
      exact ih x h1
theorem l_Mo_rootOf {sc : Option (Nat × Nat × (Nat → Int32))} {sa : Nat → Nat} {d : Nat} {M : mz_M} {z : Nat × Nat} {m : Nat} (w : g_Mo M.2.2 m) {F : Nat → Int32} {A : Nat → Nat → Int32} {c : Nat} {q : sQ} (hv : mAv c A q) (hI : qI c q) (hC : c ≤ 12) (hs : A 1 0 = nI c) (hV : qV c q) {v : Nat} (hj : v < q.1) {x2 : Int32} {r : Int32} : ∀ (k : Nat) (i a : Nat), i + k = c → a < c → rt (q.2.1 v) k (nI a) = r → zw sc sa (d + 1) ym_Mo_rootOf z (fun r' M' => r' = some (.int r) ∧ M' = (moF M m F A)) 5 [.ref m, .int (nI v), .int x2, .int (nI a), .int (nI i)] [] (moF M m F A) z := by
  intro k
  induction k with
  | zero =>
    intro i a hi ha hr
    have e1 : i = c := by omega
    subst e1
    have e2 : nI a = r := hr
    have b2 := hI.2.1
    refine z_iload (q := 7) rfl rfl rfl ?_
    refine z_aload_n (q := 8) rfl rfl rfl ?_
    refine z_getR (q := 11) rfl rfl rfl (Mo_k w) (Mo_r0 w) ?_
    refine z_iconst (q := 12) (v := 0) rfl rfl rfl ?_
    refine z_iald (q := 13) rfl rfl (Mo_a0 w) (vp0 (by decide) (by decide)) ?_
    rw [moF_a0]
    try rw [nI_clamp (by omega)]
    rw [show A 1 (0 : Int32).toNatClampNeg = nI i from hs]
    refine z_ic_ge (q := 16) rfl rfl (fun h13 => ?_) (fun h13 => ?_)
    · refine z_iload_n (q := 40) rfl rfl rfl ?_
      refine z_ireti rfl rfl ?_
      rw [e2]
      exact ⟨rfl, rfl⟩
    · exact absurd (Int32.le_refl _) h13
  | succ k ih =>
    intro i a hi ha hr
    obtain ⟨x, e1, e2⟩ := hV v hj a ha
    have e3 := (hv v hj).2.2.1 a ha
    have b2 := hI.2.1
    unfold rt at hr
    refine z_iload (q := 7) rfl rfl rfl ?_
    refine z_aload_n (q := 8) rfl rfl rfl ?_
    refine z_getR (q := 11) rfl rfl rfl (Mo_k w) (Mo_r0 w) ?_
    refine z_iconst (q := 12) (v := 0) rfl rfl rfl ?_
    refine z_iald (q := 13) rfl rfl (Mo_a0 w) (vp0 (by decide) (by decide)) ?_
    rw [moF_a0]
    try rw [nI_clamp (by omega)]
    rw [show A 1 (0 : Int32).toNatClampNeg = nI c from hs]
    refine z_ic_ge (q := 16) rfl rfl (fun h13 => ?_) (fun h13 => ?_)
    · exact absurd h13 (nI_ge (by omega) (by omega))
    · refine z_aload_n (q := 17) rfl rfl rfl ?_
      refine z_iload_n (q := 18) rfl rfl rfl ?_
      refine z_iload_n (q := 19) rfl rfl rfl ?_
      refine z_cv2i (q := 22) rfl rfl rfl (Mo_k w) (s_Mo_at w (by omega) (by omega)) ?_
      rw [e3]
      refine z_iload_n (q := 23) rfl rfl rfl ?_
      refine z_ic_eq (q := 26) rfl rfl (fun h23 => ?_) (fun h23 => ?_)
      · refine z_iload_n (q := 40) rfl rfl rfl ?_
        refine z_ireti rfl rfl ?_
        rw [if_pos h23] at hr
        rw [hr]
        exact ⟨rfl, rfl⟩
      · refine z_aload_n (q := 27) rfl rfl rfl ?_
        refine z_iload_n (q := 28) rfl rfl rfl ?_
        refine z_iload_n (q := 29) rfl rfl rfl ?_
        refine z_cv2i (q := 32) rfl rfl rfl (Mo_k w) (s_Mo_at w (by omega) (by omega)) ?_
        rw [e3, e2]
        refine z_istore_n (q := 33) (L2 := [_, _, _, _, _]) rfl rfl rfl rfl ?_
        refine z_iinc (q := 36) (L2 := [_, _, _, _, _]) rfl rfl rfl rfl ?_
        refine z_goto rfl ?_
        rw [if_neg h23, e2] at hr
        rw [show nI i + Int32.ofInt 1 = nI (i + 1) from (nI_succ i).symm]
        exact ih (i + 1) x (by omega) e1 hr
theorem s_Mo_rootOf {sc : Option (Nat × Nat × (Nat → Int32))} {sa : Nat → Nat} {d : Nat} {M : mz_M} {z : Nat × Nat} {m : Nat} (w : g_Mo M.2.2 m) {F : Nat → Int32} {A : Nat → Nat → Int32} {c : Nat} {q : sQ} (hv : mAv c A q) (hI : qI c q) (hC : c ≤ 12) (hs : A 1 0 = nI c) (hV : qV c q) {v : Nat} (hj : v < q.1) {a : Nat} (ha : a < c) : zx sc sa (d + 2) 185 [.ref m, .int (nI v), .int (nI a)] (moF M m F A) z z (some (.int (rt (q.2.1 v) c (nI a)))) (moF M m F A) := by
  refine zxin ym_Mo_rootOf [.ref m, .int (nI v), .int (nI a), .retAddr 0, .retAddr 0] rfl rfl rfl rfl ?_
  refine z_iload_n (q := 1) rfl rfl rfl ?_
  refine z_istore_n (q := 2) (L2 := [_, _, _, _, _]) rfl rfl rfl rfl ?_
  refine z_iconst (q := 3) (v := 0) rfl rfl rfl ?_
  refine z_istore (q := 5) (L2 := [_, _, _, _, _]) rfl rfl rfl rfl ?_
  exact l_Mo_rootOf w hv hI hC hs hV hj c 0 a (by omega) ha rfl
theorem l_Mo_meetOf {sc : Option (Nat × Nat × (Nat → Int32))} {sa : Nat → Nat} {d : Nat} {M : mz_M} {z : Nat × Nat} {m : Nat} (w : g_Mo M.2.2 m) {F : Nat → Int32} {A : Nat → Nat → Int32} {c : Nat} {q : sQ} (hv : mAv c A q) (hI : qI c q) (hC : c ≤ 12) {x1 x2 : Int32} {r : Nat} : ∀ (k : Nat) (a b : Nat), a + b ≤ k → a < q.1 → b < q.1 → mtN q.2.2.2.2.1 k a b = r → zw sc sa d ym_Mo_meetOf z (fun r' M' => r' = some (.int (nI r)) ∧ M' = (moF M m F A)) 5 [.ref m, .int x1, .int x2, .int (nI a), .int (nI b)] [] (moF M m F A) z := by
  intro k
  induction k with
  | zero =>
    intro a b hk ha hb hr
    have e1 : a = 0 := by omega
    have e2 : b = 0 := by omega
    subst e1
    subst e2
    have e3 : 0 = r := hr
    subst e3
    refine z_iload_n (q := 6) rfl rfl rfl ?_
    refine z_iload (q := 8) rfl rfl rfl ?_
    refine z_ic_eq (q := 11) rfl rfl (fun h8 => ?_) (fun h8 => ?_)
    · refine z_iload_n (q := 40) rfl rfl rfl ?_
      refine z_ireti rfl rfl ?_
      exact ⟨rfl, rfl⟩
    · exact absurd rfl h8
  | succ k ih =>
    intro a b hk ha hb hr
    have b2 := hI.2.1
    have b5 := hI.2.2.2.2.1
    unfold mtN at hr
    refine z_iload_n (q := 6) rfl rfl rfl ?_
    refine z_iload (q := 8) rfl rfl rfl ?_
    refine z_ic_eq (q := 11) rfl rfl (fun h8 => ?_) (fun h8 => ?_)
    · refine z_iload_n (q := 40) rfl rfl rfl ?_
      refine z_ireti rfl rfl ?_
      rw [nI_eq (by omega) (by omega)] at h8
      rw [if_pos h8] at hr
      rw [hr]
      exact ⟨rfl, rfl⟩
    · refine z_iload_n (q := 12) rfl rfl rfl ?_
      refine z_iload (q := 14) rfl rfl rfl ?_
      refine z_ic_le (q := 17) rfl rfl (fun h14 => ?_) (fun h14 => ?_)
      · refine z_aload_n (q := 28) rfl rfl rfl ?_
        refine z_getR (q := 31) rfl rfl rfl (Mo_k w) (Mo_r7 w) ?_
        refine z_iload (q := 33) rfl rfl rfl ?_
        refine z_iald (q := 34) rfl rfl (Mo_a7 w) (by first | assumption | exact vp_in_nI (by omega) (by omega)) ?_
        rw [moF_a7]
        try rw [nI_clamp (by omega)]
        rw [(hv b hb).1]
        refine z_istore (q := 36) (L2 := [_, _, _, _, _]) rfl rfl rfl rfl ?_
        refine z_goto rfl ?_
        rw [nI_eq (by omega) (by omega)] at h8
        rw [nI_leI (by omega) (by omega)] at h14
        rw [if_neg h8] at hr
        first
          | (have h15 : ¬ a ≤ b := h14
             rw [if_pos (by omega)] at hr
             obtain ⟨u, h1, h2⟩ := b5.2 a (by omega) ha
             rw [h2, nI_clamp (by omega)] at hr
             rw [h2]
             exact ih u b (by omega) (by omega) hb hr)
          | (have h15 : a ≤ b := h14
             rw [if_neg (by omega)] at hr
             obtain ⟨u, h1, h2⟩ := b5.2 b (by omega) hb
             rw [h2, nI_clamp (by omega)] at hr
             rw [h2]
             exact ih a u (by omega) ha (by omega) hr)
      · refine z_aload_n (q := 18) rfl rfl rfl ?_
        refine z_getR (q := 21) rfl rfl rfl (Mo_k w) (Mo_r7 w) ?_
        refine z_iload_n (q := 22) rfl rfl rfl ?_
        refine z_iald (q := 23) rfl rfl (Mo_a7 w) (by first | assumption | exact vp_in_nI (by omega) (by omega)) ?_
        rw [moF_a7]
        try rw [nI_clamp (by omega)]
        rw [(hv a ha).1]
        refine z_istore_n (q := 24) (L2 := [_, _, _, _, _]) rfl rfl rfl rfl ?_
        refine z_goto rfl ?_
        rw [nI_eq (by omega) (by omega)] at h8
        rw [nI_leI (by omega) (by omega)] at h14
        rw [if_neg h8] at hr
        first
          | (have h15 : ¬ a ≤ b := h14
             rw [if_pos (by omega)] at hr
             obtain ⟨u, h1, h2⟩ := b5.2 a (by omega) ha
             rw [h2, nI_clamp (by omega)] at hr
             rw [h2]
             exact ih u b (by omega) (by omega) hb hr)
          | (have h15 : a ≤ b := h14
             rw [if_neg (by omega)] at hr
             obtain ⟨u, h1, h2⟩ := b5.2 b (by omega) hb
             rw [h2, nI_clamp (by omega)] at hr
             rw [h2]
             exact ih a u (by omega) ha (by omega) hr)
theorem s_Mo_meetOf {sc : Option (Nat × Nat × (Nat → Int32))} {sa : Nat → Nat} {d : Nat} {M : mz_M} {z : Nat × Nat} {m : Nat} (w : g_Mo M.2.2 m) {F : Nat → Int32} {A : Nat → Nat → Int32} {c : Nat} {q : sQ} (hv : mAv c A q) (hI : qI c q) (hC : c ≤ 12) {a b : Nat} (ha : a < q.1) (hb : b < q.1) : zx sc sa (d + 1) 188 [.ref m, .int (nI a), .int (nI b)] (moF M m F A) z z (some (.int (nI (mtN q.2.2.2.2.1 (2 * q.1) a b)))) (moF M m F A) := by
  refine zxin ym_Mo_meetOf [.ref m, .int (nI a), .int (nI b), .retAddr 0, .retAddr 0] rfl rfl rfl rfl ?_
  refine z_iload_n (q := 1) rfl rfl rfl ?_
  refine z_istore_n (q := 2) (L2 := [_, _, _, _, _]) rfl rfl rfl rfl ?_
  refine z_iload_n (q := 3) rfl rfl rfl ?_
  refine z_istore (q := 5) (L2 := [_, _, _, _, _]) rfl rfl rfl rfl ?_
  exact l_Mo_meetOf w hv hI hC _ a b (by omega) ha hb rfl
theorem s_Mo_isConflict {sc : Option (Nat × Nat × (Nat → Int32))} {sa : Nat → Nat} {d : Nat} {M : mz_M} {z : Nat × Nat} {m : Nat} (w : g_Mo M.2.2 m) {F : Nat → Int32} {A : Nat → Nat → Int32} {c : Nat} {q : sQ} (hv : mAv c A q) (hI : qI c q) (hC : c ≤ 12) {a b i : Nat} (ha : a < q.1) (hb : b < q.1) (hi : i < c) : zx sc sa (d + 2) 189 [.ref m, .int (nI a), .int (nI b), .int (nI i)] (moF M m F A) z z (some (.int (bz (¬ (nmI (q.2.1 a) (nI i)) = (nmI (q.2.1 (mtN q.2.2.2.2.1 (2 * q.1) a b)) (nI i)) ∧ ¬ (nmI (q.2.1 b) (nI i)) = (nmI (q.2.1 (mtN q.2.2.2.2.1 (2 * q.1) a b)) (nI i)) ∧ ¬ (nmI (q.2.1 a) (nI i)) = (nmI (q.2.1 b) (nI i)))))) (moF M m F A) := by
  have b2 := hI.2.1
  have hm : (mtN q.2.2.2.2.1 (2 * q.1) a b) < q.1 := mtN_lt hI.2.2.2.2.1 (by omega) _ _ _ ha hb
  have ea := (hv a ha).2.2.1 i hi
  have eb := (hv b hb).2.2.1 i hi
  have em := (hv _ hm).2.2.1 i hi
  refine zxin ym_Mo_isConflict [.ref m, .int (nI a), .int (nI b), .int (nI i), .retAddr 0] rfl rfl rfl rfl ?_
  refine z_aload_n (q := 1) rfl rfl rfl ?_
  refine z_aload_n (q := 2) rfl rfl rfl ?_
  refine z_iload_n (q := 3) rfl rfl rfl ?_
  refine z_iload_n (q := 4) rfl rfl rfl ?_
  refine z_cv2i (q := 7) rfl rfl rfl (Mo_k w) (s_Mo_meetOf w hv hI hC ha hb) ?_
  refine z_iload_n (q := 8) rfl rfl rfl ?_
  refine z_cv2i (q := 11) rfl rfl rfl (Mo_k w) (s_Mo_at w (by omega) (by omega)) ?_
  rw [em]
  refine z_istore (q := 13) (L2 := [_, _, _, _, _]) rfl rfl rfl rfl ?_
  refine z_aload_n (q := 14) rfl rfl rfl ?_
  refine z_iload_n (q := 15) rfl rfl rfl ?_
  refine z_iload_n (q := 16) rfl rfl rfl ?_
  refine z_cv2i (q := 19) rfl rfl rfl (Mo_k w) (s_Mo_at w (by omega) (by omega)) ?_
  rw [ea]
  refine z_iload (q := 21) rfl rfl rfl ?_
  refine z_ic_eq (q := 24) rfl rfl (fun h21 => ?_) (fun h21 => ?_)
  · refine z_iconst (q := 55) (v := 0) rfl rfl rfl ?_
    refine z_iretz rfl rfl (rfl) ?_
    first
      | exact bzr_t ⟨h21, h32, h47⟩
      | exact bzr_f (fun h => h.1 h21)
      | exact bzr_f (fun h => h.2.1 h32)
      | exact bzr_f (fun h => h.2.2 h47)
  · refine z_aload_n (q := 25) rfl rfl rfl ?_
    refine z_iload_n (q := 26) rfl rfl rfl ?_
    refine z_iload_n (q := 27) rfl rfl rfl ?_
    refine z_cv2i (q := 30) rfl rfl rfl (Mo_k w) (s_Mo_at w (by omega) (by omega)) ?_
    rw [eb]
    refine z_iload (q := 32) rfl rfl rfl ?_
    refine z_ic_eq (q := 35) rfl rfl (fun h32 => ?_) (fun h32 => ?_)
    · refine z_iconst (q := 55) (v := 0) rfl rfl rfl ?_
      refine z_iretz rfl rfl (rfl) ?_
      first
        | exact bzr_t ⟨h21, h32, h47⟩
        | exact bzr_f (fun h => h.1 h21)
        | exact bzr_f (fun h => h.2.1 h32)
        | exact bzr_f (fun h => h.2.2 h47)
    · refine z_aload_n (q := 36) rfl rfl rfl ?_
      refine z_iload_n (q := 37) rfl rfl rfl ?_
      refine z_iload_n (q := 38) rfl rfl rfl ?_
      refine z_cv2i (q := 41) rfl rfl rfl (Mo_k w) (s_Mo_at w (by omega) (by omega)) ?_
      rw [ea]
      refine z_aload_n (q := 42) rfl rfl rfl ?_
      refine z_iload_n (q := 43) rfl rfl rfl ?_
      refine z_iload_n (q := 44) rfl rfl rfl ?_
      refine z_cv2i (q := 47) rfl rfl rfl (Mo_k w) (s_Mo_at w (by omega) (by omega)) ?_
      rw [eb]
      refine z_ic_eq (q := 50) rfl rfl (fun h47 => ?_) (fun h47 => ?_)
      · refine z_iconst (q := 55) (v := 0) rfl rfl rfl ?_
        refine z_iretz rfl rfl (rfl) ?_
        first
          | exact bzr_t ⟨h21, h32, h47⟩
          | exact bzr_f (fun h => h.1 h21)
          | exact bzr_f (fun h => h.2.1 h32)
          | exact bzr_f (fun h => h.2.2 h47)
      · refine z_iconst (q := 51) (v := 1) rfl rfl rfl ?_
        refine z_goto rfl ?_
        refine z_iretz rfl rfl (rfl) ?_
        first
          | exact bzr_t ⟨h21, h32, h47⟩
          | exact bzr_f (fun h => h.1 h21)
          | exact bzr_f (fun h => h.2.1 h32)
          | exact bzr_f (fun h => h.2.2 h47)
def mgV (B R O : Int32) : Int32 := if R = B then O else if ¬ R = B ∧ ¬ O = B ∧ ¬ O = R then (if O < R then O else R) else R
theorem mgV_1 {B R O : Int32} (h : R = B) : mgV B R O = O := if_pos h
theorem mgV_2 {B R O : Int32} (h : ¬ R = B ∧ ¬ O = B ∧ ¬ R = O) : mgV B R O = (if O < R then O else R) := by
  unfold mgV
  rw [if_neg h.1, if_pos ⟨h.1, h.2.1, fun e => h.2.2 e.symm⟩]
theorem mgV_3 {B R O : Int32} (h : ¬ (¬ R = B ∧ ¬ O = B ∧ ¬ R = O)) (g : ¬ R = B) : mgV B R O = R := by
  unfold mgV
  rw [if_neg g, if_neg (fun k => h ⟨k.1, k.2.1, fun e => k.2.2 e.symm⟩)]
theorem s_Mo_mergedOf {sc : Option (Nat × Nat × (Nat → Int32))} {sa : Nat → Nat} {d : Nat} {M : mz_M} {z : Nat × Nat} {m : Nat} (w : g_Mo M.2.2 m) {F : Nat → Int32} {A : Nat → Nat → Int32} {c : Nat} {q : sQ} (hv : mAv c A q) (hI : qI c q) (hC : c ≤ 12) {a b i : Nat} (ha : a < q.1) (hb : b < q.1) (hi : i < c) : zx sc sa (d + 3) 190 [.ref m, .int (nI a), .int (nI b), .int (nI i)] (moF M m F A) z z (some (.int (mgV (nmI (q.2.1 (mtN q.2.2.2.2.1 (2 * q.1) a b)) (nI i)) (nmI (q.2.1 a) (nI i)) (nmI (q.2.1 b) (nI i))))) (moF M m F A) := by
  have b2 := hI.2.1
  have hm : (mtN q.2.2.2.2.1 (2 * q.1) a b) < q.1 := mtN_lt hI.2.2.2.2.1 (by omega) _ _ _ ha hb
  have ea := (hv a ha).2.2.1 i hi
  have eb := (hv b hb).2.2.1 i hi
  have em := (hv _ hm).2.2.1 i hi
  refine zxin ym_Mo_mergedOf [.ref m, .int (nI a), .int (nI b), .int (nI i)] rfl rfl rfl rfl ?_
  refine z_aload_n (q := 1) rfl rfl rfl ?_
  refine z_iload_n (q := 2) rfl rfl rfl ?_
  refine z_iload_n (q := 3) rfl rfl rfl ?_
  refine z_iload_n (q := 4) rfl rfl rfl ?_
  refine z_cv3i (q := 7) rfl rfl rfl (Mo_k w) (s_Mo_isConflict w hv hI hC ha hb hi) ?_
  refine z_if_eq (q := 10) rfl rfl (fun h7 => ?_) (fun h7 => ?_)
  · refine z_aload_n (q := 27) rfl rfl rfl ?_
    refine z_iload_n (q := 28) rfl rfl rfl ?_
    refine z_iload_n (q := 29) rfl rfl rfl ?_
    refine z_cv2i (q := 32) rfl rfl rfl (Mo_k w) (s_Mo_at w (by omega) (by omega)) ?_
    rw [ea]
    refine z_aload_n (q := 33) rfl rfl rfl ?_
    refine z_aload_n (q := 34) rfl rfl rfl ?_
    refine z_iload_n (q := 35) rfl rfl rfl ?_
    refine z_iload_n (q := 36) rfl rfl rfl ?_
    refine z_cv2i (q := 39) rfl rfl rfl (Mo_k w) (s_Mo_meetOf w hv hI hC ha hb) ?_
    refine z_iload_n (q := 40) rfl rfl rfl ?_
    refine z_cv2i (q := 43) rfl rfl rfl (Mo_k w) (s_Mo_at w (by omega) (by omega)) ?_
    rw [em]
    refine z_ic_ne (q := 46) rfl rfl (fun h43 => ?_) (fun h43 => ?_)
    · refine z_aload_n (q := 56) rfl rfl rfl ?_
      refine z_iload_n (q := 57) rfl rfl rfl ?_
      refine z_iload_n (q := 58) rfl rfl rfl ?_
      refine z_cv2i (q := 61) rfl rfl rfl (Mo_k w) (s_Mo_at w (by omega) (by omega)) ?_
      rw [ea]
      refine z_ireti rfl rfl ?_
      first
        | exact ⟨congrArg (fun v => some (Value.int v)) (mgV_1 h43).symm, rfl⟩
        | exact ⟨congrArg (fun v => some (Value.int v)) (mgV_3 (bz_0.mp h7) h43).symm, rfl⟩
        | exact ⟨congrArg (fun v => some (Value.int v)) (mgV_2 (bz_n.mp h7)).symm, rfl⟩
    · refine z_aload_n (q := 47) rfl rfl rfl ?_
      refine z_iload_n (q := 48) rfl rfl rfl ?_
      refine z_iload_n (q := 49) rfl rfl rfl ?_
      refine z_cv2i (q := 52) rfl rfl rfl (Mo_k w) (s_Mo_at w (by omega) (by omega)) ?_
      rw [eb]
      refine z_goto rfl ?_
      refine z_ireti rfl rfl ?_
      first
        | exact ⟨congrArg (fun v => some (Value.int v)) (mgV_1 h43).symm, rfl⟩
        | exact ⟨congrArg (fun v => some (Value.int v)) (mgV_3 (bz_0.mp h7) h43).symm, rfl⟩
        | exact ⟨congrArg (fun v => some (Value.int v)) (mgV_2 (bz_n.mp h7)).symm, rfl⟩
  · refine z_aload_n (q := 11) rfl rfl rfl ?_
    refine z_iload_n (q := 12) rfl rfl rfl ?_
    refine z_iload_n (q := 13) rfl rfl rfl ?_
    refine z_cv2i (q := 16) rfl rfl rfl (Mo_k w) (s_Mo_at w (by omega) (by omega)) ?_
    rw [ea]
    refine z_aload_n (q := 17) rfl rfl rfl ?_
    refine z_iload_n (q := 18) rfl rfl rfl ?_
    refine z_iload_n (q := 19) rfl rfl rfl ?_
    refine z_cv2i (q := 22) rfl rfl rfl (Mo_k w) (s_Mo_at w (by omega) (by omega)) ?_
    rw [eb]
    refine z_min (q := 25) rfl rfl (by omega) rfl ?_
    refine z_ireti rfl rfl ?_
    first
      | exact ⟨congrArg (fun v => some (Value.int v)) (mgV_1 h43).symm, rfl⟩
      | exact ⟨congrArg (fun v => some (Value.int v)) (mgV_3 (bz_0.mp h7) h43).symm, rfl⟩
      | exact ⟨congrArg (fun v => some (Value.int v)) (mgV_2 (bz_n.mp h7)).symm, rfl⟩
theorem mg_nib {B R O : Int64} : ∀ (k i : Nat), k ≤ 12 → i < 12 → nmI (fo (mgG B R O) R k) (nI i) = if i < k then mgV (nmI B (nI i)) (nmI R (nI i)) (nmI O (nI i)) else nmI R (nI i) := by
  intro k
  induction k with
  | zero => intro i _ _; rfl
  | succ k ih =>
    intro i hk hi
    have e := ih i (by omega) hi
    obtain ⟨y, h1, h2⟩ := nm_16 O (show k < 12 by omega)
    obtain ⟨y', h1', h2'⟩ := nm_16 R (show k < 12 by omega)
    show nmI (mgG B R O k (fo (mgG B R O) R k)) (nI i) = _
    generalize fo (mgG B R O) R k = X at e ⊢
    unfold mgG
    by_cases c1 : nmI R (nI k) = nmI B (nI k)
    · rw [if_pos c1, h2, nm_wn (by omega) hi h1]
      by_cases c2 : i = k
      · subst c2
        rw [if_pos rfl, if_pos (by omega)]
        unfold mgV
        rw [if_pos c1, h2]
      · rw [if_neg c2, e]
        by_cases c3 : i < k
        · rw [if_pos c3, if_pos (by omega)]
        · rw [if_neg c3, if_neg (by omega)]
    · rw [if_neg c1]
      by_cases c4 : ¬ nmI R (nI k) = nmI B (nI k) ∧ ¬ nmI O (nI k) = nmI B (nI k) ∧ ¬ nmI O (nI k) = nmI R (nI k)
      · rw [if_pos c4]
        have h3 : ∃ y3, y3 < 16 ∧ (if nmI O (nI k) < nmI R (nI k) then nmI O (nI k) else nmI R (nI k)) = nI y3 := by
          by_cases c5 : nmI O (nI k) < nmI R (nI k)
          · rw [if_pos c5]; exact ⟨y, h1, h2⟩
          · rw [if_neg c5]; exact ⟨y', h1', h2'⟩
        obtain ⟨y3, g1, g2⟩ := h3
        rw [g2, nm_wn (by omega) hi g1]
        by_cases c2 : i = k
        · subst c2
          rw [if_pos rfl, if_pos (by omega)]
          unfold mgV
          rw [if_neg c1, if_pos c4, g2]
        · rw [if_neg c2, e]
          by_cases c3 : i < k
          · rw [if_pos c3, if_pos (by omega)]
          · rw [if_neg c3, if_neg (by omega)]
      · rw [if_neg c4, e]
        by_cases c2 : i = k
        · subst c2
          rw [if_neg (by omega), if_pos (by omega)]
          unfold mgV
          rw [if_neg c1, if_neg c4]
        · by_cases c3 : i < k
          · rw [if_pos c3, if_pos (by omega)]
          · rw [if_neg c3, if_neg (by omega)]
theorem pa_nib {F T E : Int64} : ∀ (k i : Nat), k ≤ 12 → i < 12 → nmI (fo (paG F T) E k) (nI i) = if i < k then (if nmI F (nI i) = nmI T (nI i) then nmI E (nI i) else nmI T (nI i)) else nmI E (nI i) := by
  intro k
  induction k with
  | zero => intro i _ _; rfl
  | succ k ih =>
    intro i hk hi
    have e := ih i (by omega) hi
    obtain ⟨y, h1, h2⟩ := nm_16 T (show k < 12 by omega)
    show nmI (paG F T k (fo (paG F T) E k)) (nI i) = _
    generalize fo (paG F T) E k = X at e ⊢
    unfold paG
    by_cases c1 : nmI F (nI k) = nmI T (nI k)
    · rw [if_pos c1, e]
      by_cases c2 : i = k
      · subst c2
        rw [if_neg (show ¬ i < i by omega), if_pos (show i < i + 1 by omega), if_pos c1]
      · by_cases c3 : i < k
        · rw [if_pos c3, if_pos (show i < k + 1 by omega)]
        · rw [if_neg c3, if_neg (show ¬ i < k + 1 by omega)]
    · rw [if_neg c1, h2, nm_wn (by omega) hi h1]
      by_cases c2 : i = k
      · subst c2
        rw [if_pos rfl, if_pos (show i < i + 1 by omega), if_neg c1, h2]
      · rw [if_neg c2, e]
        by_cases c3 : i < k
        · rw [if_pos c3, if_pos (show i < k + 1 by omega)]
        · rw [if_neg c3, if_neg (show ¬ i < k + 1 by omega)]
theorem t_Mo_mergedOf {sc : Option (Nat × Nat × (Nat → Int32))} {sa : Nat → Nat} {d : Nat} {M : mz_M} {z : Nat × Nat} {m : Nat} (w : g_Mo M.2.2 m) {F : Nat → Int32} {A : Nat → Nat → Int32} {c : Nat} {q : sQ} (hv : mAv c A q) (hI : qI c q) (hC : c ≤ 12) {a b i : Nat} (ha : a < q.1) (hb : b < q.1) (hi : i < c) : zx sc sa (d + 3) 190 [.ref m, .int (nI a), .int (nI b), .int (nI i)] (moF M m F A) z z (some (.int (nmI (mgR c a b q) (nI i)))) (moF M m F A) := by
  have e := @s_Mo_mergedOf sc sa d M z m w F A c q hv hI hC a b i ha hb hi
  have g := @mg_nib (q.2.1 (mtN q.2.2.2.2.1 (2 * q.1) a b)) (q.2.1 a) (q.2.1 b) c i hC (by omega)
  rw [if_pos hi] at g
  rw [← g] at e
  exact e
theorem l_Mo_mergeMany {sc : Option (Nat × Nat × (Nat → Int32))} {sa : Nat → Nat} {d : Nat} {M : mz_M} {z : Nat × Nat} {m : Nat} (w : g_Mo M.2.2 m) {F : Nat → Int32} {A : Nat → Nat → Int32} {c : Nat} {q : sQ} (hv : mAv c A q) (hI : qI c q) (hC : c ≤ 12) (hs : A 1 0 = nI c) {a b : Nat} (ha : a < q.1) (hb : b < q.1) : ∀ (k : Nat) (i : Nat), i + k = c → zw sc sa (d + 3) ym_Mo_mergeMany z (fun r' M' => r' = some (.int (fo (fun i acc => if nmI (mgR c a b q) (nI i) = nmI (q.2.1 a) (nI i) then acc else acc + 1) 0 c)) ∧ M' = (moF M m F A)) 5 [.ref m, .int (nI a), .int (nI b), .int (fo (fun i acc => if nmI (mgR c a b q) (nI i) = nmI (q.2.1 a) (nI i) then acc else acc + 1) 0 i), .int (nI i)] [] (moF M m F A) z := by
  intro k
  induction k with
  | zero =>
    intro i hi
    have e1 : i = c := by omega
    subst e1
    refine z_iload (q := 7) rfl rfl rfl ?_
    refine z_aload_n (q := 8) rfl rfl rfl ?_
    refine z_getR (q := 11) rfl rfl rfl (Mo_k w) (Mo_r0 w) ?_
    refine z_iconst (q := 12) (v := 0) rfl rfl rfl ?_
    refine z_iald (q := 13) rfl rfl (Mo_a0 w) (vp0 (by decide) (by decide)) ?_
    rw [moF_a0]
    try rw [nI_clamp (by omega)]
    rw [show A 1 (0 : Int32).toNatClampNeg = nI i from hs]
    refine z_ic_ge (q := 16) rfl rfl (fun h13 => ?_) (fun h13 => ?_)
    · refine z_iload_n (q := 49) rfl rfl rfl ?_
      refine z_ireti rfl rfl ?_
      exact ⟨rfl, rfl⟩
    · exact absurd (Int32.le_refl _) h13
  | succ k ih =>
    intro i hi
    have b2 := hI.2.1
    have hi2 : i < c := by omega
    refine z_iload (q := 7) rfl rfl rfl ?_
    refine z_aload_n (q := 8) rfl rfl rfl ?_
    refine z_getR (q := 11) rfl rfl rfl (Mo_k w) (Mo_r0 w) ?_
    refine z_iconst (q := 12) (v := 0) rfl rfl rfl ?_
    refine z_iald (q := 13) rfl rfl (Mo_a0 w) (vp0 (by decide) (by decide)) ?_
    rw [moF_a0]
    try rw [nI_clamp (by omega)]
    rw [show A 1 (0 : Int32).toNatClampNeg = nI c from hs]
    refine z_ic_ge (q := 16) rfl rfl (fun h13 => ?_) (fun h13 => ?_)
    · exact absurd h13 (nI_ge (by omega) (by omega))
    · refine z_iload_n (q := 17) rfl rfl rfl ?_
      refine z_aload_n (q := 18) rfl rfl rfl ?_
      refine z_iload_n (q := 19) rfl rfl rfl ?_
      refine z_iload_n (q := 20) rfl rfl rfl ?_
      refine z_iload (q := 22) rfl rfl rfl ?_
      refine z_cv3i (q := 25) rfl rfl rfl (Mo_k w) (t_Mo_mergedOf w hv hI hC ha hb hi2) ?_
      refine z_aload_n (q := 26) rfl rfl rfl ?_
      refine z_iload_n (q := 27) rfl rfl rfl ?_
      refine z_iload (q := 29) rfl rfl rfl ?_
      refine z_cv2i (q := 32) rfl rfl rfl (Mo_k w) (s_Mo_at w (by omega) (by omega)) ?_
      rw [(hv a ha).2.2.1 i hi2]
      refine z_ic_ne (q := 35) rfl rfl (fun h32 => ?_) (fun h32 => ?_)
      · refine z_iconst (q := 40) (v := 1) rfl rfl rfl ?_
        refine z_iadd (q := 41) rfl rfl ?_
        refine z_istore_n (q := 42) (L2 := [_, _, _, _, _]) rfl rfl rfl rfl ?_
        refine z_iinc (q := 45) (L2 := [_, _, _, _, _]) rfl rfl rfl rfl ?_
        refine z_goto rfl ?_
        rw [show nI i + Int32.ofInt 1 = nI (i + 1) from (nI_succ i).symm]
        have e9 := ih (i + 1) (by omega)
        first
          | (have g0 : nmI (mgR c a b q) (nI i) = nmI (q.2.1 a) (nI i) := h32; simp only [fo, if_pos g0] at e9; rw [Int32.add_zero]; exact e9)
          | (have g0 : ¬ (nmI (mgR c a b q) (nI i) = nmI (q.2.1 a) (nI i)) := h32; simp only [fo, if_neg g0] at e9; exact e9)
      · refine z_iconst (q := 36) (v := 0) rfl rfl rfl ?_
        refine z_goto rfl ?_
        refine z_iadd (q := 41) rfl rfl ?_
        refine z_istore_n (q := 42) (L2 := [_, _, _, _, _]) rfl rfl rfl rfl ?_
        refine z_iinc (q := 45) (L2 := [_, _, _, _, _]) rfl rfl rfl rfl ?_
        refine z_goto rfl ?_
        rw [show nI i + Int32.ofInt 1 = nI (i + 1) from (nI_succ i).symm]
        have e9 := ih (i + 1) (by omega)
        first
          | (have g0 : nmI (mgR c a b q) (nI i) = nmI (q.2.1 a) (nI i) := h32; simp only [fo, if_pos g0] at e9; rw [Int32.add_zero]; exact e9)
          | (have g0 : ¬ (nmI (mgR c a b q) (nI i) = nmI (q.2.1 a) (nI i)) := h32; simp only [fo, if_neg g0] at e9; exact e9)
theorem s_Mo_mergeMany {sc : Option (Nat × Nat × (Nat → Int32))} {sa : Nat → Nat} {d : Nat} {M : mz_M} {z : Nat × Nat} {m : Nat} (w : g_Mo M.2.2 m) {F : Nat → Int32} {A : Nat → Nat → Int32} {c : Nat} {q : sQ} (hv : mAv c A q) (hI : qI c q) (hC : c ≤ 12) (hs : A 1 0 = nI c) {a b : Nat} (ha : a < q.1) (hb : b < q.1) : zx sc sa (d + 4) 191 [.ref m, .int (nI a), .int (nI b)] (moF M m F A) z z (some (.int (fo (fun i acc => if nmI (mgR c a b q) (nI i) = nmI (q.2.1 a) (nI i) then acc else acc + 1) 0 c))) (moF M m F A) := by
  refine zxin ym_Mo_mergeMany [.ref m, .int (nI a), .int (nI b), .retAddr 0, .retAddr 0] rfl rfl rfl rfl ?_
  refine z_iconst (q := 1) (v := 0) rfl rfl rfl ?_
  refine z_istore_n (q := 2) (L2 := [_, _, _, _, _]) rfl rfl rfl rfl ?_
  refine z_iconst (q := 3) (v := 0) rfl rfl rfl ?_
  refine z_istore (q := 5) (L2 := [_, _, _, _, _]) rfl rfl rfl rfl ?_
  exact l_Mo_mergeMany w hv hI hC hs ha hb c 0 (by omega)
theorem s_Mo_isPatched {sc : Option (Nat × Nat × (Nat → Int32))} {sa : Nat → Nat} {d : Nat} {M : mz_M} {z : Nat × Nat} {m : Nat} (w : g_Mo M.2.2 m) {F : Nat → Int32} {A : Nat → Nat → Int32} {c : Nat} {q : sQ} (hv : mAv c A q) (hI : qI c q) (hC : c ≤ 12) {a b e i : Nat} (ha : a < q.1) (hb : b < q.1) (he : e < q.1) (hi : i < c) : zx sc sa (d + 2) 193 [.ref m, .int (nI a), .int (nI b), .int (nI e), .int (nI i)] (moF M m F A) z z (some (.int (bz (¬ (nmI (q.2.1 a) (nI i)) = (nmI (q.2.1 b) (nI i)) ∧ ¬ (nmI (q.2.1 e) (nI i)) = (nmI (q.2.1 b) (nI i)))))) (moF M m F A) := by
  have b2 := hI.2.1
  have ea := (hv a ha).2.2.1 i hi
  have eb := (hv b hb).2.2.1 i hi
  have ee := (hv e he).2.2.1 i hi
  refine zxin ym_Mo_isPatched [.ref m, .int (nI a), .int (nI b), .int (nI e), .int (nI i)] rfl rfl rfl rfl ?_
  refine z_aload_n (q := 1) rfl rfl rfl ?_
  refine z_iload_n (q := 2) rfl rfl rfl ?_
  refine z_iload (q := 4) rfl rfl rfl ?_
  refine z_cv2i (q := 7) rfl rfl rfl (Mo_k w) (s_Mo_at w (by omega) (by omega)) ?_
  rw [ea]
  refine z_aload_n (q := 8) rfl rfl rfl ?_
  refine z_iload_n (q := 9) rfl rfl rfl ?_
  refine z_iload (q := 11) rfl rfl rfl ?_
  refine z_cv2i (q := 14) rfl rfl rfl (Mo_k w) (s_Mo_at w (by omega) (by omega)) ?_
  rw [eb]
  refine z_ic_eq (q := 17) rfl rfl (fun h14 => ?_) (fun h14 => ?_)
  · refine z_iconst (q := 39) (v := 0) rfl rfl rfl ?_
    refine z_iretz rfl rfl (rfl) ?_
    first
      | exact bzr_t ⟨h14, h31⟩
      | exact bzr_f (fun h => h.1 h14)
      | exact bzr_f (fun h => h.2 h31)
  · refine z_aload_n (q := 18) rfl rfl rfl ?_
    refine z_iload_n (q := 19) rfl rfl rfl ?_
    refine z_iload (q := 21) rfl rfl rfl ?_
    refine z_cv2i (q := 24) rfl rfl rfl (Mo_k w) (s_Mo_at w (by omega) (by omega)) ?_
    rw [ee]
    refine z_aload_n (q := 25) rfl rfl rfl ?_
    refine z_iload_n (q := 26) rfl rfl rfl ?_
    refine z_iload (q := 28) rfl rfl rfl ?_
    refine z_cv2i (q := 31) rfl rfl rfl (Mo_k w) (s_Mo_at w (by omega) (by omega)) ?_
    rw [eb]
    refine z_ic_eq (q := 34) rfl rfl (fun h31 => ?_) (fun h31 => ?_)
    · refine z_iconst (q := 39) (v := 0) rfl rfl rfl ?_
      refine z_iretz rfl rfl (rfl) ?_
      first
        | exact bzr_t ⟨h14, h31⟩
        | exact bzr_f (fun h => h.1 h14)
        | exact bzr_f (fun h => h.2 h31)
    · refine z_iconst (q := 35) (v := 1) rfl rfl rfl ?_
      refine z_goto rfl ?_
      refine z_iretz rfl rfl (rfl) ?_
      first
        | exact bzr_t ⟨h14, h31⟩
        | exact bzr_f (fun h => h.1 h14)
        | exact bzr_f (fun h => h.2 h31)
theorem l_Mo_patchMany {sc : Option (Nat × Nat × (Nat → Int32))} {sa : Nat → Nat} {d : Nat} {M : mz_M} {z : Nat × Nat} {m : Nat} (w : g_Mo M.2.2 m) {F : Nat → Int32} {A : Nat → Nat → Int32} {c : Nat} {q : sQ} (hv : mAv c A q) (hI : qI c q) (hC : c ≤ 12) (hs : A 1 0 = nI c) {a b e : Nat} (ha : a < q.1) (hb : b < q.1) (he : e < q.1) : ∀ (k : Nat) (i : Nat), i + k = c → zw sc sa (d + 2) ym_Mo_patchMany z (fun r' M' => r' = some (.int (fo (fun i acc => if ¬ (nmI (q.2.1 a) (nI i)) = (nmI (q.2.1 b) (nI i)) ∧ ¬ (nmI (q.2.1 e) (nI i)) = (nmI (q.2.1 b) (nI i)) then acc + 1 else acc) 0 c)) ∧ M' = (moF M m F A)) 6 [.ref m, .int (nI a), .int (nI b), .int (nI e), .int (fo (fun i acc => if ¬ (nmI (q.2.1 a) (nI i)) = (nmI (q.2.1 b) (nI i)) ∧ ¬ (nmI (q.2.1 e) (nI i)) = (nmI (q.2.1 b) (nI i)) then acc + 1 else acc) 0 i), .int (nI i)] [] (moF M m F A) z := by
  intro k
  induction k with
  | zero =>
    intro i hi
    have e1 : i = c := by omega
    subst e1
    refine z_iload (q := 8) rfl rfl rfl ?_
    refine z_aload_n (q := 9) rfl rfl rfl ?_
    refine z_getR (q := 12) rfl rfl rfl (Mo_k w) (Mo_r0 w) ?_
    refine z_iconst (q := 13) (v := 0) rfl rfl rfl ?_
    refine z_iald (q := 14) rfl rfl (Mo_a0 w) (vp0 (by decide) (by decide)) ?_
    rw [moF_a0]
    try rw [nI_clamp (by omega)]
    rw [show A 1 (0 : Int32).toNatClampNeg = nI i from hs]
    refine z_ic_ge (q := 17) rfl rfl (fun h14 => ?_) (fun h14 => ?_)
    · refine z_iload (q := 47) rfl rfl rfl ?_
      refine z_ireti rfl rfl ?_
      exact ⟨rfl, rfl⟩
    · exact absurd (Int32.le_refl _) h14
  | succ k ih =>
    intro i hi
    have b2 := hI.2.1
    have hi2 : i < c := by omega
    refine z_iload (q := 8) rfl rfl rfl ?_
    refine z_aload_n (q := 9) rfl rfl rfl ?_
    refine z_getR (q := 12) rfl rfl rfl (Mo_k w) (Mo_r0 w) ?_
    refine z_iconst (q := 13) (v := 0) rfl rfl rfl ?_
    refine z_iald (q := 14) rfl rfl (Mo_a0 w) (vp0 (by decide) (by decide)) ?_
    rw [moF_a0]
    try rw [nI_clamp (by omega)]
    rw [show A 1 (0 : Int32).toNatClampNeg = nI c from hs]
    refine z_ic_ge (q := 17) rfl rfl (fun h14 => ?_) (fun h14 => ?_)
    · exact absurd h14 (nI_ge (by omega) (by omega))
    · refine z_iload (q := 19) rfl rfl rfl ?_
      refine z_aload_n (q := 20) rfl rfl rfl ?_
      refine z_iload_n (q := 21) rfl rfl rfl ?_
      refine z_iload_n (q := 22) rfl rfl rfl ?_
      refine z_iload_n (q := 23) rfl rfl rfl ?_
      refine z_iload (q := 25) rfl rfl rfl ?_
      refine z_cv4i (q := 28) rfl rfl rfl (Mo_k w) (s_Mo_isPatched w hv hI hC ha hb he hi2) ?_
      refine z_if_eq (q := 31) rfl rfl (fun h28 => ?_) (fun h28 => ?_)
      · refine z_iconst (q := 36) (v := 0) rfl rfl rfl ?_
        refine z_iadd (q := 37) rfl rfl ?_
        refine z_istore (q := 39) (L2 := [_, _, _, _, _, _]) rfl rfl rfl rfl ?_
        refine z_iinc (q := 42) (L2 := [_, _, _, _, _, _]) rfl rfl rfl rfl ?_
        refine z_goto rfl ?_
        rw [show nI i + Int32.ofInt 1 = nI (i + 1) from (nI_succ i).symm]
        have e9 := ih (i + 1) (by omega)
        first
          | (have g0 : ¬ (nmI (q.2.1 a) (nI i)) = (nmI (q.2.1 b) (nI i)) ∧ ¬ (nmI (q.2.1 e) (nI i)) = (nmI (q.2.1 b) (nI i)) := bz_n.mp h28; simp only [fo, if_pos g0] at e9; exact e9)
          | (have g0 : ¬ (¬ (nmI (q.2.1 a) (nI i)) = (nmI (q.2.1 b) (nI i)) ∧ ¬ (nmI (q.2.1 e) (nI i)) = (nmI (q.2.1 b) (nI i))) := bz_0.mp h28; simp only [fo, if_neg g0] at e9; rw [Int32.add_zero]; exact e9)
      · refine z_iconst (q := 32) (v := 1) rfl rfl rfl ?_
        refine z_goto rfl ?_
        refine z_iadd (q := 37) rfl rfl ?_
        refine z_istore (q := 39) (L2 := [_, _, _, _, _, _]) rfl rfl rfl rfl ?_
        refine z_iinc (q := 42) (L2 := [_, _, _, _, _, _]) rfl rfl rfl rfl ?_
        refine z_goto rfl ?_
        rw [show nI i + Int32.ofInt 1 = nI (i + 1) from (nI_succ i).symm]
        have e9 := ih (i + 1) (by omega)
        first
          | (have g0 : ¬ (nmI (q.2.1 a) (nI i)) = (nmI (q.2.1 b) (nI i)) ∧ ¬ (nmI (q.2.1 e) (nI i)) = (nmI (q.2.1 b) (nI i)) := bz_n.mp h28; simp only [fo, if_pos g0] at e9; exact e9)
          | (have g0 : ¬ (¬ (nmI (q.2.1 a) (nI i)) = (nmI (q.2.1 b) (nI i)) ∧ ¬ (nmI (q.2.1 e) (nI i)) = (nmI (q.2.1 b) (nI i))) := bz_0.mp h28; simp only [fo, if_neg g0] at e9; rw [Int32.add_zero]; exact e9)
theorem s_Mo_patchMany {sc : Option (Nat × Nat × (Nat → Int32))} {sa : Nat → Nat} {d : Nat} {M : mz_M} {z : Nat × Nat} {m : Nat} (w : g_Mo M.2.2 m) {F : Nat → Int32} {A : Nat → Nat → Int32} {c : Nat} {q : sQ} (hv : mAv c A q) (hI : qI c q) (hC : c ≤ 12) (hs : A 1 0 = nI c) {a b e : Nat} (ha : a < q.1) (hb : b < q.1) (he : e < q.1) : zx sc sa (d + 3) 194 [.ref m, .int (nI a), .int (nI b), .int (nI e)] (moF M m F A) z z (some (.int (fo (fun i acc => if ¬ (nmI (q.2.1 a) (nI i)) = (nmI (q.2.1 b) (nI i)) ∧ ¬ (nmI (q.2.1 e) (nI i)) = (nmI (q.2.1 b) (nI i)) then acc + 1 else acc) 0 c))) (moF M m F A) := by
  refine zxin ym_Mo_patchMany [.ref m, .int (nI a), .int (nI b), .int (nI e), .retAddr 0, .retAddr 0] rfl rfl rfl rfl ?_
  refine z_iconst (q := 1) (v := 0) rfl rfl rfl ?_
  refine z_istore (q := 3) (L2 := [_, _, _, _, _, _]) rfl rfl rfl rfl ?_
  refine z_iconst (q := 4) (v := 0) rfl rfl rfl ?_
  refine z_istore (q := 6) (L2 := [_, _, _, _, _, _]) rfl rfl rfl rfl ?_
  exact l_Mo_patchMany w hv hI hC hs ha hb he c 0 (by omega)
theorem mergeMany_eq {c a b : Nat} {q : sQ} : fo (fun i acc => if nmI (mgR c a b q) (nI i) = nmI (q.2.1 a) (nI i) then acc else acc + 1) 0 c = (fo (fun i acc => if nmI (q.2.1 a) (nI i) = nmI (mgR c a b q) (nI i) then acc else acc + Int32.ofInt 1) 0 c) := by
  refine fo_c (fun i _ x => ?_)
  by_cases e : nmI (mgR c a b q) (nI i) = nmI (q.2.1 a) (nI i)
  · rw [if_pos e, if_pos e.symm]
  · rw [if_neg e, if_neg (fun h => e h.symm)]
    rfl
theorem patchMany_eq {c a b e : Nat} {q : sQ} (hC : c ≤ 12) : fo (fun i acc => if ¬ (nmI (q.2.1 a) (nI i)) = (nmI (q.2.1 b) (nI i)) ∧ ¬ (nmI (q.2.1 e) (nI i)) = (nmI (q.2.1 b) (nI i)) then acc + 1 else acc) 0 c = (fo (fun i acc => if nmI (q.2.1 e) (nI i) = nmI (paR c a b e q) (nI i) then acc else acc + Int32.ofInt 1) 0 c) := by
  refine fo_c (fun i hi x => ?_)
  have g := @pa_nib (q.2.1 a) (q.2.1 b) (q.2.1 e) c i hC (by omega)
  rw [if_pos hi] at g
  show (if _ then _ else _) = (if nmI (q.2.1 e) (nI i) = nmI (paR c a b e q) (nI i) then x else x + Int32.ofInt 1)
  unfold paR
  rw [g]
  by_cases h1 : nmI (q.2.1 a) (nI i) = nmI (q.2.1 b) (nI i)
  · rw [if_neg (fun h => h.1 h1), if_pos h1, if_pos rfl]
  · rw [if_neg h1]
    by_cases h2 : nmI (q.2.1 e) (nI i) = nmI (q.2.1 b) (nI i)
    · rw [if_neg (fun h => h.2 h2), if_pos h2]
    · rw [if_pos ⟨h1, h2⟩, if_neg h2]
      rfl
theorem l_Mo_unlikeOf {sc : Option (Nat × Nat × (Nat → Int32))} {sa : Nat → Nat} {d : Nat} {M : mz_M} {z : Nat × Nat} {m : Nat} (w : g_Mo M.2.2 m) {F : Nat → Int32} {A : Nat → Nat → Int32} {c : Nat} {q : sQ} (hv : mAv c A q) (hI : qI c q) (hC : c ≤ 12) (hs : A 1 0 = nI c) {a b : Nat} (ha : a < q.1) (hb : b < q.1) : ∀ (k : Nat) (i : Nat), i + k = c → zw sc sa (d + 1) ym_Mo_unlikeOf z (fun r' M' => r' = some (.int (fo (fun c acc => if nmI (q.2.1 a) (nI c) = nmI (q.2.1 b) (nI c) then acc else acc + Int32.ofInt 1) 0 c)) ∧ M' = (moF M m F A)) 5 [.ref m, .int (nI a), .int (nI b), .int (fo (fun c acc => if nmI (q.2.1 a) (nI c) = nmI (q.2.1 b) (nI c) then acc else acc + Int32.ofInt 1) 0 i), .int (nI i)] [] (moF M m F A) z := by
  intro k
  induction k with
  | zero =>
    intro i hi
    have e1 : i = c := by omega
    subst e1
    refine z_iload (q := 7) rfl rfl rfl ?_
    refine z_aload_n (q := 8) rfl rfl rfl ?_
    refine z_getR (q := 11) rfl rfl rfl (Mo_k w) (Mo_r0 w) ?_
    refine z_iconst (q := 12) (v := 0) rfl rfl rfl ?_
    refine z_iald (q := 13) rfl rfl (Mo_a0 w) (vp0 (by decide) (by decide)) ?_
    rw [moF_a0]
    try rw [nI_clamp (by omega)]
    rw [show A 1 (0 : Int32).toNatClampNeg = nI i from hs]
    refine z_ic_ge (q := 16) rfl rfl (fun h13 => ?_) (fun h13 => ?_)
    · refine z_iload_n (q := 48) rfl rfl rfl ?_
      refine z_ireti rfl rfl ?_
      exact ⟨rfl, rfl⟩
    · exact absurd (Int32.le_refl _) h13
  | succ k ih =>
    intro i hi
    have b2 := hI.2.1
    have hi2 : i < c := by omega
    refine z_iload (q := 7) rfl rfl rfl ?_
    refine z_aload_n (q := 8) rfl rfl rfl ?_
    refine z_getR (q := 11) rfl rfl rfl (Mo_k w) (Mo_r0 w) ?_
    refine z_iconst (q := 12) (v := 0) rfl rfl rfl ?_
    refine z_iald (q := 13) rfl rfl (Mo_a0 w) (vp0 (by decide) (by decide)) ?_
    rw [moF_a0]
    try rw [nI_clamp (by omega)]
    rw [show A 1 (0 : Int32).toNatClampNeg = nI c from hs]
    refine z_ic_ge (q := 16) rfl rfl (fun h13 => ?_) (fun h13 => ?_)
    · exact absurd h13 (nI_ge (by omega) (by omega))
    · refine z_iload_n (q := 17) rfl rfl rfl ?_
      refine z_aload_n (q := 18) rfl rfl rfl ?_
      refine z_iload_n (q := 19) rfl rfl rfl ?_
      refine z_iload (q := 21) rfl rfl rfl ?_
      refine z_cv2i (q := 24) rfl rfl rfl (Mo_k w) (s_Mo_at w (by omega) (by omega)) ?_
      rw [(hv a ha).2.2.1 i hi2]
      refine z_aload_n (q := 25) rfl rfl rfl ?_
      refine z_iload_n (q := 26) rfl rfl rfl ?_
      refine z_iload (q := 28) rfl rfl rfl ?_
      refine z_cv2i (q := 31) rfl rfl rfl (Mo_k w) (s_Mo_at w (by omega) (by omega)) ?_
      rw [(hv b hb).2.2.1 i hi2]
      refine z_ic_ne (q := 34) rfl rfl (fun h31 => ?_) (fun h31 => ?_)
      · refine z_iconst (q := 39) (v := 1) rfl rfl rfl ?_
        refine z_iadd (q := 40) rfl rfl ?_
        refine z_istore_n (q := 41) (L2 := [_, _, _, _, _]) rfl rfl rfl rfl ?_
        refine z_iinc (q := 44) (L2 := [_, _, _, _, _]) rfl rfl rfl rfl ?_
        refine z_goto rfl ?_
        rw [show nI i + Int32.ofInt 1 = nI (i + 1) from (nI_succ i).symm]
        have e9 := ih (i + 1) (by omega)
        first
          | (have g0 : nmI (q.2.1 a) (nI i) = nmI (q.2.1 b) (nI i) := h31; simp only [fo, if_pos g0] at e9; rw [Int32.add_zero]; exact e9)
          | (have g0 : ¬ (nmI (q.2.1 a) (nI i) = nmI (q.2.1 b) (nI i)) := h31; simp only [fo, if_neg g0] at e9; exact e9)
      · refine z_iconst (q := 35) (v := 0) rfl rfl rfl ?_
        refine z_goto rfl ?_
        refine z_iadd (q := 40) rfl rfl ?_
        refine z_istore_n (q := 41) (L2 := [_, _, _, _, _]) rfl rfl rfl rfl ?_
        refine z_iinc (q := 44) (L2 := [_, _, _, _, _]) rfl rfl rfl rfl ?_
        refine z_goto rfl ?_
        rw [show nI i + Int32.ofInt 1 = nI (i + 1) from (nI_succ i).symm]
        have e9 := ih (i + 1) (by omega)
        first
          | (have g0 : nmI (q.2.1 a) (nI i) = nmI (q.2.1 b) (nI i) := h31; simp only [fo, if_pos g0] at e9; rw [Int32.add_zero]; exact e9)
          | (have g0 : ¬ (nmI (q.2.1 a) (nI i) = nmI (q.2.1 b) (nI i)) := h31; simp only [fo, if_neg g0] at e9; exact e9)
theorem s_Mo_unlikeOf {sc : Option (Nat × Nat × (Nat → Int32))} {sa : Nat → Nat} {d : Nat} {M : mz_M} {z : Nat × Nat} {m : Nat} (w : g_Mo M.2.2 m) {F : Nat → Int32} {A : Nat → Nat → Int32} {c : Nat} {q : sQ} (hv : mAv c A q) (hI : qI c q) (hC : c ≤ 12) (hs : A 1 0 = nI c) {a b : Nat} (ha : a < q.1) (hb : b < q.1) : zx sc sa (d + 2) 222 [.ref m, .int (nI a), .int (nI b)] (moF M m F A) z z (some (.int (fo (fun c acc => if nmI (q.2.1 a) (nI c) = nmI (q.2.1 b) (nI c) then acc else acc + Int32.ofInt 1) 0 c))) (moF M m F A) := by
  refine zxin ym_Mo_unlikeOf [.ref m, .int (nI a), .int (nI b), .retAddr 0, .retAddr 0] rfl rfl rfl rfl ?_
  refine z_iconst (q := 1) (v := 0) rfl rfl rfl ?_
  refine z_istore_n (q := 2) (L2 := [_, _, _, _, _]) rfl rfl rfl rfl ?_
  refine z_iconst (q := 3) (v := 0) rfl rfl rfl ?_
  refine z_istore (q := 5) (L2 := [_, _, _, _, _]) rfl rfl rfl rfl ?_
  exact l_Mo_unlikeOf w hv hI hC hs ha hb c 0 (by omega)
