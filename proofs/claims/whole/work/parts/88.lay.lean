-- the reference's store: its rows are laid by
theorem mm2 {A : Nat → Nat → Int32} {W B : Nat → Int32} {i : Nat} {x y : Int32} : va_up (va_up (va_up (va_up A 2 W) 1 B) 2 (va_up ((va_up (va_up A 2 W) 1 B) 2) i x)) 1 (va_up ((va_up (va_up (va_up A 2 W) 1 B) 2 (va_up ((va_up (va_up A 2 W) 1 B) 2) i x)) 1) i y) = va_up (va_up A 2 (va_up W i x)) 1 (va_up B i y) := by
  have e1 : (va_up (va_up A 2 W) 1 B) 2 = W := (up_n (show (2 : Nat) ≠ 1 by decide)).trans up_s
  have e2 : (va_up (va_up (va_up A 2 W) 1 B) 2 (va_up ((va_up (va_up A 2 W) 1 B) 2) i x)) = va_up (va_up A 2 (va_up W i x)) 1 B := by
    rw [e1, up_c (show (1 : Nat) ≠ 2 by decide), up_u]
  rw [e2, up_u, up_s]
theorem l_Mo_store1 {sc : Option (Nat × Nat × (Nat → Int32))} {sa : Nat → Nat} {d : Nat} {M : mz_M} {z : Nat × Nat} {m : Nat} (w : g_Mo M.2.2 m) {F : Nat → Int32} {A : Nat → Nat → Int32} {Q : mz_P} (hk : ∀ W B : Nat → Int32, (∀ j, j < 259 → W j = A 1 j ∧ B j = 0) → zw sc sa d ym_Mo_store z Q 34 [.ref m, .int (nI 259)] [] (moF M m F (va_up (va_up A 2 W) 1 B)) z) : ∀ (k : Nat) (i : Nat) (W B : Nat → Int32), i + k = 259 → (∀ j, j < i → W j = A 1 j ∧ B j = 0) → (∀ j, i ≤ j → B j = A 1 j) → zw sc sa d ym_Mo_store z Q 2 [.ref m, .int (nI i)] [] (moF M m F (va_up (va_up A 2 W) 1 B)) z := by
  intro k
  induction k with
  | zero =>
    intro i W B hi h1 h2
    have e1 : i = 259 := by omega
    subst e1
    refine z_iload_n (q := 3) rfl rfl rfl ?_
    refine z_sipush (q := 6) (v := 259) rfl rfl rfl ?_
    refine z_ic_ge (q := 9) rfl rfl (fun h6 => ?_) (fun h6 => ?_)
    · exact hk W B h1
    · exact absurd (show (259 : Int32) ≤ nI 259 from Int32.le_refl _) h6
  | succ k ih =>
    intro i W B hi h1 h2
    refine z_iload_n (q := 3) rfl rfl rfl ?_
    refine z_sipush (q := 6) (v := 259) rfl rfl rfl ?_
    refine z_ic_ge (q := 9) rfl rfl (fun h6 => ?_) (fun h6 => ?_)
    · exact absurd h6 (show ¬ nI 259 ≤ nI i from nI_ge (by omega) (by omega))
    · refine z_aload_n (q := 10) rfl rfl rfl ?_
      refine z_getR (q := 13) rfl rfl rfl (Mo_k w) (Mo_r1 w) ?_
      refine z_iload_n (q := 14) rfl rfl rfl ?_
      refine z_aload_n (q := 15) rfl rfl rfl ?_
      refine z_getR (q := 18) rfl rfl rfl (Mo_k w) (Mo_r0 w) ?_
      refine z_iload_n (q := 19) rfl rfl rfl ?_
      refine z_iald (q := 20) rfl rfl (Mo_a0 w) (by first | assumption | exact vp_in_nI (by omega) (by omega)) ?_
      rw [moF_a0]
      try rw [nI_clamp (by omega)]
      rw [show va_up (va_up A 2 W) 1 B 1 i = A 1 i from (congrFun up_s i).trans (h2 i (Nat.le_refl _))]
      refine z_iast (q := 21) rfl rfl (Mo_a1 w) (by first | assumption | exact vp_in_nI (by omega) (by omega)) ?_
      rw [moF_w1]
      try rw [nI_clamp (by omega)]
      refine z_aload_n (q := 22) rfl rfl rfl ?_
      refine z_getR (q := 25) rfl rfl rfl (Mo_k w) (Mo_r0 w) ?_
      refine z_iload_n (q := 26) rfl rfl rfl ?_
      refine z_iconst (q := 27) (v := 0) rfl rfl rfl ?_
      refine z_iast (q := 28) rfl rfl (Mo_a0 w) (by first | assumption | exact vp_in_nI (by omega) (by omega)) ?_
      rw [moF_w0]
      try rw [nI_clamp (by omega)]
      refine z_iinc (q := 31) (L2 := [_, _]) rfl rfl rfl rfl ?_
      refine z_goto rfl ?_
      rw [show nI i + Int32.ofInt 1 = nI (i + 1) from (nI_succ i).symm]
      rw [mm2]
      refine ih (i + 1) _ _ (by omega) (fun j hj => ?_) (fun j hj => ?_)
      · by_cases e : j = i
        · rw [e, up_s, up_s]
          exact ⟨rfl, rfl⟩
        · rw [up_n e, up_n e]
          exact h1 j (by omega)
      · rw [up_n (show j ≠ i by omega)]
        exact h2 j (by omega)
theorem l_Mo_store2 {sc : Option (Nat × Nat × (Nat → Int32))} {sa : Nat → Nat} {d : Nat} {M : mz_M} {z : Nat × Nat} {m : Nat} (w : g_Mo M.2.2 m) {F : Nat → Int32} {A : Nat → Nat → Int32} {Q : mz_P} (hk : ∀ B : Nat → Int32, (∀ j, j < 259 → B j = A 2 j) → zw sc sa d ym_Mo_store z Q 205 [.ref m, .int (nI 259)] [] (moF M m F (va_up A 1 B)) z) : ∀ (k : Nat) (i : Nat) (B : Nat → Int32), i + k = 259 → (∀ j, j < i → B j = A 2 j) → zw sc sa d ym_Mo_store z Q 180 [.ref m, .int (nI i)] [] (moF M m F (va_up A 1 B)) z := by
  intro k
  induction k with
  | zero =>
    intro i B hi h1
    have e1 : i = 259 := by omega
    subst e1
    refine z_iload_n (q := 181) rfl rfl rfl ?_
    refine z_sipush (q := 184) (v := 259) rfl rfl rfl ?_
    refine z_ic_ge (q := 187) rfl rfl (fun h184 => ?_) (fun h184 => ?_)
    · exact hk B h1
    · exact absurd (show (259 : Int32) ≤ nI 259 from Int32.le_refl _) h184
  | succ k ih =>
    intro i B hi h1
    refine z_iload_n (q := 181) rfl rfl rfl ?_
    refine z_sipush (q := 184) (v := 259) rfl rfl rfl ?_
    refine z_ic_ge (q := 187) rfl rfl (fun h184 => ?_) (fun h184 => ?_)
    · exact absurd h184 (show ¬ nI 259 ≤ nI i from nI_ge (by omega) (by omega))
    · refine z_aload_n (q := 188) rfl rfl rfl ?_
      refine z_getR (q := 191) rfl rfl rfl (Mo_k w) (Mo_r0 w) ?_
      refine z_iload_n (q := 192) rfl rfl rfl ?_
      refine z_aload_n (q := 193) rfl rfl rfl ?_
      refine z_getR (q := 196) rfl rfl rfl (Mo_k w) (Mo_r1 w) ?_
      refine z_iload_n (q := 197) rfl rfl rfl ?_
      refine z_iald (q := 198) rfl rfl (Mo_a1 w) (by first | assumption | exact vp_in_nI (by omega) (by omega)) ?_
      rw [moF_a1]
      try rw [nI_clamp (by omega)]
      rw [show va_up A 1 B 2 i = A 2 i from congrFun (up_n (show (2 : Nat) ≠ 1 by decide)) i]
      refine z_iast (q := 199) rfl rfl (Mo_a0 w) (by first | assumption | exact vp_in_nI (by omega) (by omega)) ?_
      rw [moF_w0]
      try rw [nI_clamp (by omega)]
      refine z_iinc (q := 202) (L2 := [_, _]) rfl rfl rfl rfl ?_
      refine z_goto rfl ?_
      rw [show nI i + Int32.ofInt 1 = nI (i + 1) from (nI_succ i).symm]
      rw [up_u, up_s]
      refine ih (i + 1) _ (by omega) (fun j hj => ?_)
      by_cases e : j = i
      · rw [e, up_s]
      · rw [up_n e]
        exact h1 j (by omega)
