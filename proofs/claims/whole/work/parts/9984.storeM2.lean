theorem l_Mo_store34 {sc : Option (Nat × Nat × (Nat → Int32))} {sa : Nat → Nat} {d : Nat} {M : mz_M} {z : Nat × Nat} {m : Nat} (w : g_Mo M.2.2 m) {F : Nat → Int32} {A : Nat → Nat → Int32} {sg : Nat → Int32} {T : Nat} (ht : T ≤ 500) (h3 : F 3 = nI T) (hA : ∀ i, i < T → A 3 i = bt sg T i) {e1 e4 e6 e7 e8 e9 : Int32} {pa ks os ts hs cs : Nat → Int32} {q : sQ} {W B : Nat → Int32} (hWB : ∀ j, j < 259 → W j = A 1 j ∧ B j = 0) : zw sc sa (d + 11) ym_Mo_store z (fun r' M' => ∃ v, r' = some (.int v) ∧ sQp M m A T (oF sg T 500 (o0 sg T e1 e4 e6 e7 e8 e9 pa ks os ts hs cs q)) v M') 34 [.ref m, .int (nI 259)] [] (moF M m F (va_up (va_up A 2 W) 1 B)) z := by
  obtain ⟨i, h19⟩ := nI_all (F 19)
  obtain ⟨p, h20⟩ := nI_all (F 20)
  have hA2 : ∀ i, i < T → (va_up (va_up A 2 W) 1 B) 3 i = bt sg T i := fun i hi => by
    rw [up_n (by omega), up_n (by omega)]
    exact hA i hi
  have hW2 : ∀ j, j < 259 → (va_up (va_up A 2 W) 1 B) 2 j = A 1 j := fun j hj => by
    rw [up_n (by omega), up_s]
    exact (hWB j hj).1
  have h30 : (va_up (va_up A 2 W) 1 B) 3 = A 3 := by rw [up_n (by omega), up_n (by omega)]
  have h13 : (va_up (va_up A 2 W) 1 B) 13 = A 13 := by rw [up_n (by omega), up_n (by omega)]
  have h14 : (va_up (va_up A 2 W) 1 B) 14 = A 14 := by rw [up_n (by omega), up_n (by omega)]
  have hB0 : oB (o0 sg T e1 e4 e6 e7 e8 e9 pa ks os ts hs cs q) ((va_up (va_up A 2 W) 1 B) 1) := by
    rw [up_s]
    exact ⟨(hWB 0 (by omega)).2, (hWB 1 (by omega)).2, (hWB 2 (by omega)).2, (hWB 3 (by omega)).2, (hWB 4 (by omega)).2, (hWB 5 (by omega)).2, (hWB 6 (by omega)).2, fun i hi => ((hWB (7 + i) (by omega)).2).trans (if_pos hi).symm, fun i hi => absurd hi (Nat.not_lt_zero i)⟩
  have meas : (o0 sg T e1 e4 e6 e7 e8 e9 pa ks os ts hs cs q).1.2.2.2.2.1 = 0 → ¬ (o0 sg T e1 e4 e6 e7 e8 e9 pa ks os ts hs cs q).1.1 = 4 → T - (o0 sg T e1 e4 e6 e7 e8 e9 pa ks os ts hs cs q).1.2.2.1 < 500 := fun _ h4 => by
    have h := (tok_a (sg := sg) (T := T) (s := ((e1, 0, 0, e4, 0, -1) : tS)) ⟨Nat.le_refl _, Nat.zero_le _⟩).2.2 h4
    show T - (tokS sg T ((e1, 0, 0, e4, 0, -1) : tS)).2.2.1 < 500
    omega
  rw [reP_eta h19 h20]
  refine z_aload_n (q := 35) rfl rfl rfl ?_
  refine z_iconst (q := 36) (v := 0) rfl rfl rfl ?_
  refine z_putI (q := 39) rfl rfl rfl (by decide) rfl rfl (Mo_k w) ?_
  rw [rx_u19]
  refine z_aload_n (q := 40) rfl rfl rfl ?_
  refine z_iconst (q := 41) (v := 0) rfl rfl rfl ?_
  refine z_putI (q := 44) rfl rfl rfl (by decide) rfl rfl (Mo_k w) ?_
  rw [rx_u23]
  refine z_aload_n (q := 45) rfl rfl rfl ?_
  refine z_iconst (q := 46) (v := 0) rfl rfl rfl ?_
  refine z_putI (q := 49) rfl rfl rfl (by decide) rfl rfl (Mo_k w) ?_
  rw [rx_u24]
  refine z_aload_n (q := 50) rfl rfl rfl ?_
  refine z_iconst (q := 51) (v := -1) rfl rfl rfl ?_
  refine z_putI (q := 54) rfl rfl rfl (by decide) rfl rfl (Mo_k w) ?_
  rw [rx_u25]
  refine z_aload_n (q := 55) rfl rfl rfl ?_
  refine z_cv0v (q := 58) rfl rfl rfl (Mo_k w) (q_Mo_next (d := d + 8) w ht h3 hA2 (show nxR sg T 0 = ((nxR sg T 0).1, (nxR sg T 0).2.1, (nxR sg T 0).2.2.1, (nxR sg T 0).2.2.2) from rfl) (Nat.zero_le _)) ?_
  exact l_Mo_loop (F := F) (A := (va_up (va_up A 2 W) 1 B)) w ht h3 hA2 (fun F' A' e' hf hR hg hY => l_Mo_storeT (F := F) (A := A) w hf hW2 h30 h13 h14 hR hg hY) 500 (o0 sg T e1 e4 e6 e7 e8 e9 pa ks os ts hs cs q) F (va_up (va_up A 2 W) 1 B) (rN sg T e00) oFr_r o0_V (Nat.le_refl 500) (rN_ok ⟨Nat.le_refl _, Nat.zero_le _⟩) (gd_N (fun _ => ⟨rfl, rfl⟩)) e00_R (fun _ => rfl) meas (fun _ => hB0) rfl
theorem q_Mo_store {sc : Option (Nat × Nat × (Nat → Int32))} {sa : Nat → Nat} {d : Nat} {M : mz_M} {z : Nat × Nat} {m : Nat} (w : g_Mo M.2.2 m) {F : Nat → Int32} {A : Nat → Nat → Int32} {sg : Nat → Int32} {T : Nat} (ht : T ≤ 500) (h3 : F 3 = nI T) (hA : ∀ i, i < T → A 3 i = bt sg T i) {e1 e4 e6 e7 e8 e9 : Int32} {pa ks os ts hs cs : Nat → Int32} {q : sQ}  : zi sc sa (d + 12) 215 [.ref m] (moF M m F A) z (sQp M m A T (oF sg T 500 (o0 sg T e1 e4 e6 e7 e8 e9 pa ks os ts hs cs q))) := by
  refine zin ym_Mo_store [.ref m, .retAddr 0] rfl rfl rfl rfl ?_
  refine z_iconst (q := 1) (v := 0) rfl rfl rfl ?_
  refine z_istore_n (q := 2) (L2 := [_, _]) rfl rfl rfl rfl ?_
  have l1 := l_Mo_store1 (sc := sc) (sa := sa) (z := z) (d := d + 11) w (fun W B h => l_Mo_store34 (e1 := e1) (e4 := e4) (e6 := e6) (e7 := e7) (e8 := e8) (e9 := e9) (pa := pa) (ks := ks) (os := os) (ts := ts) (hs := hs) (cs := cs) (q := q) w ht h3 hA h) 259 0 (A 2) (A 1) rfl (fun j hj => absurd hj (Nat.not_lt_zero j)) (fun j _ => rfl)
  rw [up_e, up_e] at l1
  exact l1
