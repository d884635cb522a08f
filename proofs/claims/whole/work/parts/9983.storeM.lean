/-- what the reference's store leaves -/
def sQp (M : mz_M) (m : Nat) (A : Nat → Nat → Int32) (T : Nat) (Y : oS) (v : Int32) (M' : mz_M) : Prop := ∃ F2 A2, M' = moF M m F2 A2 ∧ (F2 3 = 0 ∧ F2 4 = Y.1.2.2.2.2.1 ∧ F2 5 = Y.1.2.2.2.2.2) ∧ (A2 3 = A 3 ∧ A2 13 = A 13 ∧ A2 14 = A 14) ∧ (¬ Y.1.2.2.2.2.1 = 0 → v = -4 ∧ ∀ j, j < 259 → A2 1 j = A 1 j) ∧ (Y.1.2.2.2.2.1 = 0 → v = nI Y.2.2.1.2.1 ∧ oB Y (A2 1) ∧ oV T Y ∧ Y.2.2.1.2.1 ≤ 500)
theorem nI_all (x : Int32) : ∃ n, x = nI n := ⟨x.toBitVec.toNat, by
  apply Int32.toBitVec_inj.mp
  show _ = BitVec.ofNat 32 _
  rw [BitVec.ofNat_toNat, BitVec.setWidth_eq]⟩
theorem reP_eta {M : mz_M} {m : Nat} {F : Nat → Int32} {A : Nat → Nat → Int32} {i p : Nat} (h1 : F 19 = nI i) (h2 : F 20 = nI p) : moF M m F A = reP M m F A i p (F 21) (F 22) (F 23) (F 24) (F 25) := by
  unfold reP
  congr 1
  funext k
  unfold reF
  by_cases c1 : k = 19
  · rw [if_pos c1, c1, h1]
  rw [if_neg c1]
  by_cases c2 : k = 20
  · rw [if_pos c2, c2, h2]
  rw [if_neg c2]
  by_cases c3 : k = 21
  · rw [if_pos c3, c3]
  rw [if_neg c3]
  by_cases c4 : k = 22
  · rw [if_pos c4, c4]
  rw [if_neg c4]
  by_cases c5 : k = 23
  · rw [if_pos c5, c5]
  rw [if_neg c5]
  by_cases c6 : k = 24
  · rw [if_pos c6, c6]
  rw [if_neg c6]
  by_cases c7 : k = 25
  · rw [if_pos c7, c7]
  rw [if_neg c7]
section
variable {M : mz_M} {m : Nat} {F : Nat → Int32} {A : Nat → Nat → Int32} {i p : Nat} {f21 f22 f23 f24 f25 : Int32}
theorem rx_u19 : mz_uI (reP M m F A i p f21 f22 f23 f24 f25) m 19 0 = reP M m F A 0 p f21 f22 f23 f24 f25 := reP_u19 (x := 0)
theorem rx_u23 {x : Int32} : mz_uI (reP M m F A i p f21 f22 f23 f24 f25) m 23 x = reP M m F A i p f21 f22 x f24 f25 := reP_u23
theorem rx_u24 {x : Int32} : mz_uI (reP M m F A i p f21 f22 f23 f24 f25) m 24 x = reP M m F A i p f21 f22 f23 x f25 := reP_u24
theorem rx_u25 {x : Int32} : mz_uI (reP M m F A i p f21 f22 f23 f24 f25) m 25 x = reP M m F A i p f21 f22 f23 f24 x := reP_u25
end
def e00 : rS := (0, 0, 0, 0, 0, 0, -1)
theorem e00_R {sg : Nat → Int32} {T : Nat} {e1 e4 : Int32} : tR (tokS sg T ((e1, 0, 0, e4, 0, -1) : tS)) (rN sg T e00) := R_tok (s := ((4, 0, 0, e4, 0, -1) : tS)) (e := e00) (Or.inl ⟨rfl, rfl, rfl, rfl, ⟨⟨fun h => absurd (show (0 : Int32) = 1 from h) (by decide), fun h => absurd (show (4 : Int32) = 1 from h) (by decide)⟩, ⟨fun h => absurd (show (0 : Int32) = 2 from h) (by decide), fun h => absurd (show (4 : Int32) = 2 from h) (by decide)⟩, ⟨fun h => absurd (show (0 : Int32) = 3 from h) (by decide), fun h => absurd (show (4 : Int32) = 3 from h) (by decide)⟩, ⟨fun _ => rfl, fun _ => rfl⟩⟩, fun h => absurd (show (4 : Int32) = 2 from h) (by decide), fun _ => rfl⟩) rfl
theorem l_Mo_storeT {sc : Option (Nat × Nat × (Nat → Int32))} {sa : Nat → Nat} {d : Nat} {M : mz_M} {z : Nat × Nat} {m : Nat} (w : g_Mo M.2.2 m) {F : Nat → Int32} {A : Nat → Nat → Int32} {A0 : Nat → Nat → Int32} {T : Nat} {Y : oS} {F' : Nat → Int32} {A' : Nat → Nat → Int32} {e : rS} (hf : oFr F A0 F' A') (hW : ∀ j, j < 259 → A0 2 j = A 1 j) (h30 : A0 3 = A 3) (h13 : A0 13 = A 13) (h14 : A0 14 = A 14) (hR : tR Y.1 e) (hg : gd e) (hY : Y.1.2.2.2.2.1 = 0 → Y.1.2.2.2.2.2 = -1 ∧ oB Y (A' 1) ∧ oV T Y ∧ Y.2.2.1.2.1 ≤ 500) : zw sc sa (d + 11) ym_Mo_store z (fun r' M' => ∃ v, r' = some (.int v) ∧ sQp M m A T Y v M') 150 [.ref m, .int (nI 259)] [] (rq M m F' A' e) z := by
  show zw sc sa (d + 11) ym_Mo_store z (fun r' M' => ∃ v, r' = some (.int v) ∧ sQp M m A T Y v M') 150 [.ref m, .int (nI 259)] [] (moF M m (reF F' e.2.2.1 e.2.1 e.1 e.2.2.2.1 e.2.2.2.2.1 e.2.2.2.2.2.1 e.2.2.2.2.2.2) A') z
  generalize hG : reF F' e.2.2.1 e.2.1 e.1 e.2.2.2.1 e.2.2.2.2.1 e.2.2.2.2.2.1 e.2.2.2.2.2.2 = G
  have g23 : G 23 = e.2.2.2.2.1 := by rw [← hG]; rfl
  have g24 : G 24 = e.2.2.2.2.2.1 := by rw [← hG]; rfl
  have g25 : G 25 = e.2.2.2.2.2.2 := by rw [← hG]; rfl
  have hF : va_up (va_up (va_up G 3 0) 4 (G 24)) 5 (G 25) 3 = 0 ∧ va_up (va_up (va_up G 3 0) 4 (G 24)) 5 (G 25) 4 = Y.1.2.2.2.2.1 ∧ va_up (va_up (va_up G 3 0) 4 (G 24)) 5 (G 25) 5 = Y.1.2.2.2.2.2 := by
    refine ⟨by rw [up_n (by omega), up_n (by omega), up_s], ?_, ?_⟩
    · rw [up_n (by omega), up_s, g24]
      by_cases h0 : Y.1.2.2.2.2.1 = 0
      · rw [(hg ((tR_i hR).mpr h0)).1, h0]
      · exact (tR_b hR h0).2.1
    · rw [up_s, g25]
      by_cases h0 : Y.1.2.2.2.2.1 = 0
      · rw [(hg ((tR_i hR).mpr h0)).2, (hY h0).1]
      · exact (tR_b hR h0).2.2
  have h223 : va_up (va_up (va_up G 3 0) 4 (G 24)) 5 (G 25) 23 = e.2.2.2.2.1 := by rw [up_n (by omega), up_n (by omega), up_n (by omega), g23]
  generalize hG2 : va_up (va_up (va_up G 3 0) 4 (G 24)) 5 (G 25) = G2 at hF h223
  have fr : A' 3 = A 3 ∧ A' 13 = A 13 ∧ A' 14 = A 14 := ⟨(hf.2 3 (by omega)).trans h30, (hf.2 13 (by omega)).trans h13, (hf.2 14 (by omega)).trans h14⟩
  have fin0 : e.2.2.2.2.1 = 0 → ∃ v, (some (Value.int (A' 1 5)) : Option Value) = some (.int v) ∧ sQp M m A T Y v (moF M m G2 A') := fun hgood => by
    have h0 := (tR_i hR).mp hgood
    exact ⟨_, rfl, G2, A', rfl, hF, fr, fun h1 => absurd h0 h1, fun _ => ⟨(hY h0).2.1.2.2.2.2.2.1, (hY h0).2⟩⟩
  have fin4 : ¬ e.2.2.2.2.1 = 0 → zw sc sa (d + 11) ym_Mo_store z (fun r' M' => ∃ v, r' = some (.int v) ∧ sQp M m A T Y v M') 180 [.ref m, .int (nI 0)] [] (moF M m G2 A') z := fun hbad => by
    have go : ∀ B : Nat → Int32, (∀ j, j < 259 → B j = A' 2 j) → zw sc sa (d + 11) ym_Mo_store z (fun r' M' => ∃ v, r' = some (.int v) ∧ sQp M m A T Y v M') 205 [.ref m, .int (nI 259)] [] (moF M m G2 (va_up A' 1 B)) z := fun B hB => by
      refine z_bipush (q := 207) (v := -4) rfl rfl rfl ?_
      refine z_ireti rfl rfl ?_
      refine ⟨_, rfl, G2, va_up A' 1 B, rfl, hF, ⟨(up_n (by omega)).trans fr.1, (up_n (by omega)).trans fr.2.1, (up_n (by omega)).trans fr.2.2⟩, fun _ => ⟨rfl, fun j hj => ?_⟩, fun h0 => absurd ((tR_i hR).mpr h0) hbad⟩
      rw [up_s, hB j hj, hf.2 2 (by omega)]
      exact hW j hj
    have l2 := l_Mo_store2 (d := d + 11) w go 259 0 (A' 1) rfl (fun j hj => absurd hj (Nat.not_lt_zero j))
    rw [up_e] at l2
    exact l2
  refine z_aload_n (q := 151) rfl rfl rfl ?_
  refine z_iconst (q := 152) (v := 0) rfl rfl rfl ?_
  refine z_putI (q := 155) rfl rfl rfl (by decide) rfl rfl (Mo_k w) ?_
  rw [moF_u3]
  refine z_aload_n (q := 156) rfl rfl rfl ?_
  refine z_aload_n (q := 157) rfl rfl rfl ?_
  refine z_getI (q := 160) rfl rfl rfl (Mo_k w) ?_
  rw [moF_g24]
  rw [up_n (by omega)]
  refine z_putI (q := 163) rfl rfl rfl (by decide) rfl rfl (Mo_k w) ?_
  rw [moF_u4]
  refine z_aload_n (q := 164) rfl rfl rfl ?_
  refine z_aload_n (q := 165) rfl rfl rfl ?_
  refine z_getI (q := 168) rfl rfl rfl (Mo_k w) ?_
  rw [moF_g25]
  rw [up_n (by omega), up_n (by omega)]
  refine z_putI (q := 171) rfl rfl rfl (by decide) rfl rfl (Mo_k w) ?_
  rw [moF_u5]
  rw [hG2]
  refine z_aload_n (q := 172) rfl rfl rfl ?_
  refine z_getI (q := 175) rfl rfl rfl (Mo_k w) ?_
  rw [moF_g23]
  rw [h223]
  refine z_if_eq (q := 178) rfl rfl (fun h175 => ?_) (fun h175 => ?_)
  · refine z_aload_n (q := 209) rfl rfl rfl ?_
    refine z_getR (q := 212) rfl rfl rfl (Mo_k w) (Mo_r0 w) ?_
    refine z_iconst (q := 213) (v := 5) rfl rfl rfl ?_
    refine z_iald (q := 214) rfl rfl (Mo_a0 w) (vp_in_nI (n := 5) (by omega) (by omega)) ?_
    rw [moF_a0]
    try rw [nI_clamp (by omega)]
    refine z_ireti rfl rfl ?_
    exact fin0 h175
  · refine z_iconst (q := 179) (v := 0) rfl rfl rfl ?_
    refine z_istore_n (q := 180) (L2 := [_, _]) rfl rfl rfl rfl ?_
    exact fin4 h175
