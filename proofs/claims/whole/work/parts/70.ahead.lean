-- looking ahead: small sets
theorem bo_bc : ∀ y, y < 16 → fo (fun k acc => acc + (nI y >>> (nI k &&& 31) &&& 1)) 0 12 = bcI (nI y) := by decide
theorem bc_5 : ∀ y, y < 16 → bcI (nI y) < 5 := by decide
def b2 (e : Nat) : Int32 := nI (2 ^ e)
theorem sh_b : ∀ e, e < 4 → (1 : Int32) <<< (nI (e + 1) - 1 &&& 31) = b2 e := by decide
theorem has_b : ∀ y, y < 16 → ∀ e, e < 4 → (nI y &&& b2 e = 0 ↔ ¬ (nI y >>> (nI (e + 1) - 1 &&& 31)) &&& 1 = 1) := by decide
theorem rest_b : ∀ y, y < 16 → ∀ e, e < 4 → ¬ nI y &&& b2 e = 0 → ((nI y &&& (b2 e ^^^ -1) = 0 ↔ nI y = b2 e)) := by decide
theorem rest_16 : ∀ y, y < 16 → ∀ e, e < 4 → ∃ r, r < 16 ∧ nI y &&& (b2 e ^^^ -1) = nI r := by decide
theorem b2_n : ∀ y, y < 16 → ∀ e, e < 4 → nI y &&& b2 e = 0 → ¬ nI y = b2 e := by decide
-- which cells have a colour
def coB (tk : Nat → Int32) (co : Int32) (n : Nat) : Prop := ∀ x, x < 12 → (bi1 co x = 0 ↔ ∀ j, j < n → ¬ tk j = nI x)
theorem l_Mo_isTaken {sc : Option (Nat × Nat × (Nat → Int32))} {sa : Nat → Nat} {d : Nat} {M : mz_M} {z : Nat × Nat} {m : Nat} (w : g_Mo M.2.2 m) {F : Nat → Int32} {A : Nat → Nat → Int32} {n : Nat} (h37 : F 37 = nI n) (hn : n ≤ 12) {x : Nat} (hx : x < 12)  : ∀ (k : Nat) (i : Nat), i + k = n → (∀ j, j < i → ¬ A 17 j = nI x) → zw sc sa d ym_Mo_isTaken z (fun r' M' => r' = some (.int (@bz (¬ ∀ j, j < n → ¬ A 17 j = nI x) (Classical.propDecidable _))) ∧ M' = (moF M m F A)) 2 [.ref m, .int (nI x), .int (nI i)] [] (moF M m F A) z := by
  intro k
  induction k with
  | zero =>
    intro i hi hj
    have e1 : i = n := by omega
    subst e1
    refine z_iload_n (q := 3) rfl rfl rfl ?_
    refine z_aload_n (q := 4) rfl rfl rfl ?_
    refine z_getI (q := 7) rfl rfl rfl (Mo_k w) ?_
    rw [moF_g37]
    rw [h37]
    refine z_ic_ge (q := 10) rfl rfl (fun h7 => ?_) (fun h7 => ?_)
    · refine z_iconst (q := 29) (v := 0) rfl rfl rfl ?_
      refine z_iretz rfl rfl (rfl) ?_
      exact @bzr_f _ (Classical.propDecidable _) _ (fun h => h hj)
    · exact absurd (Int32.le_refl _) h7
  | succ k ih =>
    intro i hi hj
    refine z_iload_n (q := 3) rfl rfl rfl ?_
    refine z_aload_n (q := 4) rfl rfl rfl ?_
    refine z_getI (q := 7) rfl rfl rfl (Mo_k w) ?_
    rw [moF_g37]
    rw [h37]
    refine z_ic_ge (q := 10) rfl rfl (fun h7 => ?_) (fun h7 => ?_)
    · exact absurd h7 (nI_ge (by omega) (by omega))
    · refine z_aload_n (q := 11) rfl rfl rfl ?_
      refine z_getR (q := 14) rfl rfl rfl (Mo_k w) (Mo_r33 w) ?_
      refine z_iload_n (q := 15) rfl rfl rfl ?_
      refine z_iald (q := 16) rfl rfl (Mo_a33 w) (by first | assumption | exact vp_in_nI (by omega) (by omega)) ?_
      rw [moF_a33]
      try rw [nI_clamp (by omega)]
      refine z_iload_n (q := 17) rfl rfl rfl ?_
      refine z_ic_ne (q := 20) rfl rfl (fun h17 => ?_) (fun h17 => ?_)
      · refine z_iinc (q := 25) (L2 := [_, _, _]) rfl rfl rfl rfl ?_
        refine z_goto rfl ?_
        rw [show nI i + Int32.ofInt 1 = nI (i + 1) from (nI_succ i).symm]
        refine ih (i + 1) (by omega) (fun j hj2 => ?_)
        by_cases e : j = i
        · rw [e]; exact h17
        · exact hj j (by omega)
      · refine z_iconst (q := 21) (v := 1) rfl rfl rfl ?_
        refine z_iretz rfl rfl (rfl) ?_
        exact @bzr_t _ (Classical.propDecidable _) _ (fun h => h i (by omega) h17)
theorem s_Mo_isTaken {sc : Option (Nat × Nat × (Nat → Int32))} {sa : Nat → Nat} {d : Nat} {M : mz_M} {z : Nat × Nat} {m : Nat} (w : g_Mo M.2.2 m) {F : Nat → Int32} {A : Nat → Nat → Int32} {n : Nat} (h37 : F 37 = nI n) (hn : n ≤ 12) {x : Nat} (hx : x < 12) {tk : Nat → Int32} (ht : ∀ j, j < n → A 17 j = tk j) {co : Int32} (hc : coB tk co n) : zx sc sa (d + 1) 279 [.ref m, .int (nI x)] (moF M m F A) z z (some (.int (bz (¬ bi1 co x = 0)))) (moF M m F A) := by
  have e : zx sc sa (d + 1) 279 [.ref m, .int (nI x)] (moF M m F A) z z (some (.int (@bz (¬ ∀ j, j < n → ¬ A 17 j = nI x) (Classical.propDecidable _)))) (moF M m F A) := by
    refine zxin ym_Mo_isTaken [.ref m, .int (nI x), .retAddr 0] rfl rfl rfl rfl ?_
    refine z_iconst (q := 1) (v := 0) rfl rfl rfl ?_
    refine z_istore_n (q := 2) (L2 := [_, _, _]) rfl rfl rfl rfl ?_
    exact l_Mo_isTaken w h37 hn hx n 0 (by omega) (fun j hj => absurd hj (Nat.not_lt_zero _))
  have k : (∀ j, j < n → ¬ A 17 j = nI x) ↔ bi1 co x = 0 := by
    rw [hc x hx]
    exact ⟨fun h j hj => by rw [← ht j hj]; exact h j hj, fun h j hj => by rw [ht j hj]; exact h j hj⟩
  have k2 : @bz (¬ ∀ j, j < n → ¬ A 17 j = nI x) (Classical.propDecidable _) = bz (¬ bi1 co x = 0) := by
    by_cases c : bi1 co x = 0
    · rw [@bz_f _ (Classical.propDecidable _) (fun h => h (k.mpr c)), bz_f (fun h => h c)]
    · rw [@bz_t _ (Classical.propDecidable _) (fun h => c (k.mp h)), bz_t c]
  rw [k2] at e
  exact e
theorem d_Mo_setOr {sc : Option (Nat × Nat × (Nat → Int32))} {sa : Nat → Nat} {d : Nat} {M : mz_M} {z : Nat × Nat} {m : Nat} (w : g_Mo M.2.2 m) {F : Nat → Int32} {A : Nat → Nat → Int32} {c : Nat} {q : sQ} {l t : Int32} (hq : mAd c F A q) (hI : qI c q) (hC : c ≤ 12) (hs : A 1 0 = nI c) (hl : F 15 = l) (ht : F 16 = t) (h30 : F 30 = -1) {f i y : Nat} (hf : f < q.1) (hN : q.1 ≤ 200) (hi : i < c) (hy : y < 16) : zi sc sa (d + 6) 281 [.ref m, .int (nI f), .int (nI i), .int (nI y)] (moF M m F A) z (fun x M' => x = (puQ (nI c) l t f (nI i) (nI y) 3 q).1 ∧ ∃ F' A', M' = moF M m F' A' ∧ (∀ k, k ≠ 14 → k ≠ 17 → k ≠ 30 → F' k = F k) ∧ (∀ j, (j < 4 ∨ 11 < j) → A' j = A j) ∧ mAd c F' A' (puQ (nI c) l t f (nI i) (nI y) 3 q).2.2 ∧ F' 30 = (if (puQ (nI c) l t f (nI i) (nI y) 3 q).2.1 = 3 then -1 else (puQ (nI c) l t f (nI i) (nI y) 3 q).2.1)) := by
  have f14 : F 14 = nI q.1 := by
    obtain ⟨q', g, e9⟩ := hq
    rw [g.1, e9.1.1]
  refine zin ym_Mo_setOr [.ref m, .int (nI f), .int (nI i), .int (nI y)] rfl rfl rfl rfl ?_
  refine z_aload_n (q := 1) rfl rfl rfl ?_
  refine z_getI (q := 4) rfl rfl rfl (Mo_k w) ?_
  rw [moF_g14]
  rw [f14]
  refine z_sipush (q := 7) (v := 200) rfl rfl rfl ?_
  refine z_ic_ne (q := 10) rfl rfl (fun h7 => ?_) (fun h7 => ?_)
  · refine z_aload_n (q := 18) rfl rfl rfl ?_
    refine z_iload_n (q := 19) rfl rfl rfl ?_
    refine z_iload_n (q := 20) rfl rfl rfl ?_
    refine z_iload_n (q := 21) rfl rfl rfl ?_
    have h2 : q.1 < 200 := by
      have g : ¬ q.1 = 200 := fun g => h7 (by rw [g]; rfl)
      omega
    refine z_cv3qi (q := 24) rfl rfl rfl (Mo_k w) (d_Mo_set w hq hI hC hs hl ht hf (by omega) hi hy) (fun x9 M9 h9 => ?_)
    obtain ⟨rfl, FF, AA, rfl, rr, gg⟩ := h9
    refine z_ireti rfl rfl ?_
    rw [pu_y h2]
    exact ⟨_, rfl, rfl, FF, AA, rfl, fun k h1 h2 _ => rr.1 k h1 h2, rr.2, gg, (rr.1 30 (by omega) (by omega)).trans h30⟩
  · refine z_aload_n (q := 11) rfl rfl rfl ?_
    refine z_iconst (q := 12) (v := 2) rfl rfl rfl ?_
    refine z_putI (q := 15) rfl rfl rfl (by decide) rfl rfl (Mo_k w) ?_
    rw [moF_u30]
    refine z_iconst (q := 16) (v := -1) rfl rfl rfl ?_
    refine z_ireti rfl rfl ?_
    have g2 : ¬ q.1 < 200 := fun g => by
      have g3 := (nI_eq (show q.1 < 2 ^ 31 by omega) (show 200 < 2 ^ 31 by omega)).mp h7
      omega
    rw [pu_n g2]
    exact ⟨_, rfl, rfl, _, A, rfl, fun k _ _ h => up_n h, fun _ _ => rfl, mAd_c hq rfl rfl (fun _ _ _ => rfl), rfl⟩
