theorem moF_far {M : mz_M} {m : Nat} {F : Nat → Int32} {A : Nat → Nat → Int32} {a k : Nat} {x : Int32} (h : m + 20 < a) : mz_uI (moF M m F A) a k x = moF (mz_uI M a k x) m F A := by
  refine Prod.ext (funext fun b => ?_) rfl
  show va_up (moF M m F A).1 a (va_up ((moF M m F A).1 a) k x) b = if b = m then F else if m < b ∧ b ≤ m + 20 then A (b - m) else va_up M.1 a (va_up (M.1 a) k x) b
  by_cases e : b = a
  · rw [e, up_s, moF_o (Or.inr h), if_neg (by omega), if_neg (by omega), up_s]
  · rw [up_n e, up_n e]
    rfl
theorem moF_new {M : mz_M} {m : Nat} {F : Nat → Int32} {A : Nat → Nat → Int32} {a kd n : Nat} (h : m + 20 < a) : mz_new (moF M m F A) a kd n = moF (mz_new M a kd n) m F A := by
  refine Prod.ext (funext fun b => ?_) rfl
  show va_up (moF M m F A).1 a (fun _ => 0) b = if b = m then F else if m < b ∧ b ≤ m + 20 then A (b - m) else va_up M.1 a (fun _ => 0) b
  by_cases e : b = a
  · rw [e, up_s, if_neg (by omega), if_neg (by omega), up_s]
  · rw [up_n e, up_n e]
    rfl
theorem g_Mo_c {G G' : (Nat → Nat → Option Nat) × (Nat → Nat × Nat)} {m : Nat} (h1 : G'.1 m = G.1 m) (h2 : ∀ j, j ≤ 20 → G'.2 (m + j) = G.2 (m + j)) (w : g_Mo G m) : g_Mo G' m := by
  have h0 : G'.2 m = G.2 m := h2 0 (by omega)
  unfold g_Mo at w ⊢
  rw [h1, h0, h2 1 (by omega), h2 2 (by omega), h2 3 (by omega), h2 4 (by omega), h2 5 (by omega), h2 6 (by omega), h2 7 (by omega), h2 8 (by omega), h2 9 (by omega), h2 10 (by omega), h2 11 (by omega), h2 12 (by omega), h2 13 (by omega), h2 14 (by omega), h2 15 (by omega), h2 16 (by omega), h2 17 (by omega), h2 18 (by omega), h2 19 (by omega), h2 20 (by omega)]
  exact w
theorem fd4 : ∀ i, i < 20 → nI i / 4 = nI (i / 4) := by decide
def fvB (V : Nat → Int32) (i : Nat) : Int32 := ((V (i / 4)).toUInt32 >>> ((24 - 8 * (nI i - nI i / 4 * 4)).toUInt32 &&& Int32.toUInt32 31)).toInt32 &&& 255
section
variable {sc : Option (Nat × Nat × (Nat → Int32))} {sa : Nat → Nat} {d : Nat} {Y : mz_Y} {B : Nat × Nat} {Q : mz_P} {pc q ln : Nat} {L st : List Value} {M : mz_M} {tg : List Nat} {z1 z2 : Nat}
theorem zr_na {t : ArrayType} {kd len : Nat} {v : Int32} (he : mz_lk Y.2.2.2.2.2.2 pc = some (.newarray t, ln, tg)) (hp : pc + 2 = q) (hk : mz_aty t = kd) (h0 : ¬ kd = 0) (hv : v = nI len) (hl : len ≤ 1000000) (h1 : z1 + 1 ≤ B.1) (h2 : z2 + len ≤ B.2) (k : zw sc sa d Y B Q q L (.ref z1 :: st) (mz_new M z1 kd len) (z1 + 1, z2 + len)) : zw sc sa d Y B Q pc L (.int v :: st) M (z1, z2) := by
  subst hp
  subst hv
  subst hk
  refine zg he ?_
  show mz_aty t ≠ 0 ∧ ¬ nI len < 0 ∧ (nI len).toNatClampNeg ≤ 1000000 ∧ z1 + 1 ≤ B.1 ∧ z2 + (nI len).toNatClampNeg ≤ B.2 ∧ zw sc sa d Y B Q (pc + 2) L (.ref z1 :: st) (mz_new M z1 (mz_aty t) (nI len).toNatClampNeg) (z1 + 1, z2 + (nI len).toNatClampNeg)
  rw [nI_clamp (by omega)]
  exact ⟨h0, nI_nn (by omega), hl, h1, h2, k⟩
end
theorem l_Mo_feed {sc : Option (Nat × Nat × (Nat → Int32))} {sa : Nat → Nat} {d : Nat} {M : mz_M} {m : Nat} (w : g_Mo M.2.2 m) {F : Nat → Int32} {A : Nat → Nat → Int32} {t z1 : Nat} {z B : Nat × Nat} {Q : mz_P} (h3 : F 3 = nI t) (ht : t + 20 ≤ 500) (hz : m + 20 < z1) (k5 : M.2.2.2 z1 = (1, 5)) {V : Nat → Int32} (v5 : ∀ j, j < 5 → M.1 z1 j = V j) {a b g k2 e : Int32} (hk : ∀ R, (∀ j, j < 20 → R (t + j) = fvB V j) → (∀ j, (j < t ∨ t + 20 ≤ j) → R j = A 3 j) → zw sc sa d ym_Mo_feed B Q 89 [.ref m, .int a, .int b, .int g, .int k2, .int e, .ref z1, .int (nI 20)] [] (moF M m F (va_up A 3 R)) z) : ∀ (k : Nat) (i : Nat) (R : Nat → Int32), i + k = 20 → (∀ j, j < i → R (t + j) = fvB V j) → (∀ j, (j < t ∨ t + i ≤ j) → R j = A 3 j) → zw sc sa d ym_Mo_feed B Q 42 [.ref m, .int a, .int b, .int g, .int k2, .int e, .ref z1, .int (nI i)] [] (moF M m F (va_up A 3 R)) z := by
  intro k
  induction k with
  | zero =>
    intro i R hi h1 h2
    have e1 : i = 20 := by omega
    subst e1
    refine z_iload (q := 44) rfl rfl rfl ?_
    refine z_bipush (q := 46) (v := 20) rfl rfl rfl ?_
    refine z_ic_ge (q := 49) rfl rfl (fun h46 => ?_) (fun h46 => ?_)
    · exact hk R h1 h2
    · exact absurd (nI_le (a := 20) (b := 20) (by omega) (by omega)) h46
  | succ k ih =>
    intro i R hi h1 h2
    refine z_iload (q := 44) rfl rfl rfl ?_
    refine z_bipush (q := 46) (v := 20) rfl rfl rfl ?_
    refine z_ic_ge (q := 49) rfl rfl (fun h46 => ?_) (fun h46 => ?_)
    · exact absurd h46 (nI_ge (b := 20) (by omega) (by omega))
    · refine z_aload_n (q := 50) rfl rfl rfl ?_
      refine z_getR (q := 53) rfl rfl rfl (Mo_k w) (Mo_r2 w) ?_
      refine z_aload_n (q := 54) rfl rfl rfl ?_
      refine z_getI (q := 57) rfl rfl rfl (Mo_k w) ?_
      rw [moF_g3]
      rw [h3]
      refine z_iload (q := 59) rfl rfl rfl ?_
      refine z_iadd (q := 60) rfl rfl ?_
      rw [nI_add]
      refine z_aload (q := 62) rfl rfl rfl ?_
      refine z_iload (q := 64) rfl rfl rfl ?_
      refine z_iconst (q := 65) (v := 4) rfl rfl rfl ?_
      refine z_idiv (q := 66) rfl rfl (by decide) ?_
      refine z_iald (q := 67) rfl rfl k5 (by rw [fd4 i (by omega)]; exact vp_in_nI (by omega) (by omega)) ?_
      rw [moF_o (Or.inr hz), fd4 i (by omega), nI_clamp (by omega), v5 (i / 4) (by omega)]
      refine z_bipush (q := 69) (v := 24) rfl rfl rfl ?_
      refine z_bipush (q := 71) (v := 8) rfl rfl rfl ?_
      refine z_iload (q := 73) rfl rfl rfl ?_
      refine z_iconst (q := 74) (v := 4) rfl rfl rfl ?_
      refine z_irem (q := 75) rfl rfl (by decide) ?_
      refine z_imul (q := 76) rfl rfl ?_
      refine z_isub (q := 77) rfl rfl ?_
      refine z_iushr (q := 78) rfl rfl ?_
      refine z_sipush (q := 81) (v := 255) rfl rfl rfl ?_
      refine z_iand (q := 82) rfl rfl ?_
      refine z_iast (q := 83) rfl rfl (Mo_a2 w) (vp_in_nI (by omega) (by omega)) ?_
      rw [moF_w2]
      try rw [nI_clamp (by omega)]
      rw [up_s, up_u]
      refine z_iinc (q := 86) (L2 := [_, _, _, _, _, _, _, _]) rfl rfl rfl rfl ?_
      refine z_goto rfl ?_
      rw [show nI i + Int32.ofInt 1 = nI (i + 1) from (nI_succ i).symm]
      refine ih (i + 1) _ (by omega) (fun j hj => ?_) (fun j hj => ?_)
      · by_cases ej : j = i
        · rw [ej, up_s]
          rfl
        · rw [up_n (by omega)]
          exact h1 j (by omega)
      · rw [up_n (by omega)]
        exact h2 j (by omega)
