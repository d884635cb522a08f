theorem l6 {n : Nat} (hn : n ≤ 3072) : nI n - 6 < nI (6 * (n / 6)) := by
  by_cases g : n < 6
  · have e : n / 6 = 0 := by omega
    rw [e]
    have : ∀ n, n < 6 → nI n - 6 < nI (6 * 0) := by decide
    exact this n g
  · rw [show (6 : Int32) = nI 6 from rfl, nI_sub' (show 6 ≤ n by omega)]
    exact nI_lt (by omega) (by omega)
theorem l6n {n i : Nat} (hn : n ≤ 3072) (h : 6 * i + 6 ≤ n) : ¬ nI n - 6 < nI (6 * i) := by
  rw [show (6 : Int32) = nI 6 from rfl, nI_sub' (show 6 ≤ n by omega)]
  exact nI_nlt (by omega) (by omega)
theorem l_Law {b n : Nat} {f : Nat → Int32} {sa : Nat → Nat} {d : Nat} {Q : mz_P} {x : Nat} (hn : n ≤ 3072) (hQ : ∀ M, Q (some (.int 1)) M) : ∀ (k i T : Nat) (M : mz_M) (z1 z2 : Nat), i + k = n / 6 → (∃ p r, iV x T p r M) → x + 107 < z1 → zw (some (b, n, f)) sa (d + 16) ym_Law_law (z1 + cF f k i T, z2 + 5 * cF f k i T) Q 18 [.ref b, .ref x, .ref (x + 87), .int (nI (6 * i))] [] M (z1, z2) := by
  intro k
  induction k with
  | zero =>
    intro i T M z1 z2 hi hv hz
    have e1 : i = n / 6 := by omega
    subst e1
    refine z_iload_n (q := 19) (lk_0 rfl rfl) rfl rfl ?_
    refine z_aload_n (q := 20) (lk_0 rfl rfl) rfl rfl ?_
    refine zs_len (q := 21) (lk_0 rfl rfl) rfl ?_
    refine z_bipush (q := 23) (v := 6) (lk_0 rfl rfl) rfl rfl ?_
    refine z_isub (q := 24) (lk_0 rfl rfl) rfl ?_
    refine z_ic_gt (q := 27) (lk_0 rfl rfl) rfl (fun _ => ?_) (fun hh => absurd (l6 hn) hh)
    refine z_iconst (q := 1841) (v := 1) (lk_12 rfl rfl) rfl rfl ?_
    exact z_iretz (z := (z1, z2)) (lk_12 rfl rfl) rfl rfl (hQ _)
  | succ k ih =>
    intro i T M z1 z2 hi hv hz
    obtain ⟨p, r, h⟩ := hv
    have hi6 : 6 * i + 6 ≤ n := by omega
    have back : ∀ (M2 : mz_M) (y1 y2 : Nat), (∃ p r, iV x (fdT f i T) p r M2) → x + 107 < y1 → y1 = z1 + fdN f i T → y2 = z2 + 5 * fdN f i T → zw (some (b, n, f)) sa (d + 16) ym_Law_law (z1 + cF f (k + 1) i T, z2 + 5 * cF f (k + 1) i T) Q 1834 [.ref b, .ref x, .ref (x + 87), .int (nI (6 * i))] [] M2 (y1, y2) := by
      intro M2 y1 y2 g gz g1 g2
      have e1 : z1 + cF f (k + 1) i T = y1 + cF f k (i + 1) (fdT f i T) := by rw [cF_s]; omega
      have e2 : z2 + 5 * cF f (k + 1) i T = y2 + 5 * cF f k (i + 1) (fdT f i T) := by rw [cF_s]; omega
      rw [e1, e2]
      refine z_iinc (q := 1837) (L2 := [_, _, _, _]) (lk_12 rfl rfl) rfl rfl rfl ?_
      refine z_goto (lk_12 rfl rfl) ?_
      have e9 := ih (i + 1) (fdT f i T) M2 y1 y2 (by omega) g gz
      rw [show 6 * (i + 1) = 6 * i + 6 by omega, ← nI_add] at e9
      exact e9
    have hT3 : 3 ≤ opN f i → fdT f i T = T := fun g => by unfold fdT; rw [if_neg (by omega), if_neg (by omega), if_neg (by omega)]
    have hN1 : 1 ≤ opN f i → fdN f i T = 0 := fun g => if_neg (fun q => by omega)
    refine z_iload_n (q := 19) (lk_0 rfl rfl) rfl rfl ?_
    refine z_aload_n (q := 20) (lk_0 rfl rfl) rfl rfl ?_
    refine zs_len (q := 21) (lk_0 rfl rfl) rfl ?_
    refine z_bipush (q := 23) (v := 6) (lk_0 rfl rfl) rfl rfl ?_
    refine z_isub (q := 24) (lk_0 rfl rfl) rfl ?_
    refine z_ic_gt (q := 27) (lk_0 rfl rfl) rfl (fun hh => absurd hh (l6n hn hi6)) (fun _ => ?_)
    refine z_aload_n (q := 28) (lk_0 rfl rfl) rfl rfl ?_
    refine z_iload_n (q := 29) (lk_0 rfl rfl) rfl rfl ?_
    refine zs_ald (q := 30) (lk_0 rfl rfl) rfl (vp_in_nI (by omega) (by omega)) ?_
    rw [nI_clamp (show 6 * i < 2 ^ 31 by omega)]
    refine z_bipush (q := 32) (v := 63) (lk_0 rfl rfl) rfl rfl ?_
    refine z_iand (q := 33) (lk_0 rfl rfl) rfl ?_
    rw [(op_e f i).2]
    refine z_sw (lk_0 rfl rfl) ?_
    have ho : opN f i = 0 ∨ opN f i = 1 ∨ opN f i = 2 ∨ opN f i = 3 ∨ opN f i = 4 ∨ opN f i = 5 ∨ opN f i = 6 ∨ opN f i = 7 ∨ opN f i = 8 ∨ opN f i = 9 ∨ opN f i = 10 ∨ opN f i = 11 ∨ opN f i = 12 ∨ opN f i = 13 ∨ opN f i = 14 ∨ opN f i = 15 ∨ opN f i = 16 ∨ opN f i = 17 ∨ opN f i = 18 ∨ opN f i = 19 ∨ opN f i = 20 ∨ opN f i = 21 ∨ opN f i = 22 ∨ opN f i = 23 ∨ opN f i = 24 ∨ opN f i = 25 ∨ opN f i = 26 ∨ opN f i = 27 ∨ opN f i = 28 ∨ opN f i = 29 ∨ opN f i = 30 ∨ opN f i = 31 ∨ opN f i = 32 ∨ opN f i = 33 ∨ opN f i = 34 ∨ opN f i = 35 ∨ opN f i = 36 ∨ opN f i = 37 ∨ opN f i = 38 ∨ opN f i = 39 ∨ opN f i = 40 ∨ opN f i = 41 ∨ opN f i = 42 ∨ opN f i = 43 ∨ opN f i = 44 ∨ opN f i = 45 ∨ opN f i = 46 ∨ opN f i = 47 ∨ opN f i = 48 ∨ opN f i = 49 ∨ opN f i = 50 ∨ opN f i = 51 ∨ opN f i = 52 ∨ opN f i = 53 ∨ opN f i = 54 ∨ 55 ≤ opN f i := by omega
    rcases ho with e | e | e | e | e | e | e | e | e | e | e | e | e | e | e | e | e | e | e | e | e | e | e | e | e | e | e | e | e | e | e | e | e | e | e | e | e | e | e | e | e | e | e | e | e | e | e | e | e | e | e | e | e | e | e | e
    · rw [e]
      refine ⟨fun hh => absurd hh (by decide), fun _ _ => ?_⟩
      show zw _ _ _ _ _ _ 268 _ _ _ _
      by_cases gT : T + 20 ≤ 500
      · have e2 : fdT f i T = T + 20 := by unfold fdT; rw [if_pos e, if_pos gT]
        have e3 : fdN f i T = 1 := if_pos ⟨e, gT⟩
        refine k_feed1 h hi6 hn gT hz ?_ ?_ (fun M2 g => back M2 _ _ (by rw [e2]; exact g) (by omega) (by rw [e3]) (by rw [e3]))
        · show z1 + 1 ≤ z1 + cF f (k + 1) i T
          rw [cF_s, e3]
          omega
        · show z2 + 5 ≤ z2 + 5 * cF f (k + 1) i T
          rw [cF_s, e3]
          omega
      · have e2 : fdT f i T = T := by unfold fdT; rw [if_pos e, if_neg gT]
        have e3 : fdN f i T = 0 := if_neg (fun q => gT q.2)
        exact k_feed0 h hi6 hn gT (Nat.le_add_right _ _) (Nat.le_add_right _ _) (fun M2 g => back M2 _ _ (by rw [e2]; exact g) hz (by rw [e3]; rfl) (by rw [e3]; rfl))
    · rw [e]
      refine ⟨fun hh => absurd hh (by decide), fun _ _ => ?_⟩
      show zw _ _ _ _ _ _ 331 _ _ _ _
      have e2 : fdT f i T = (if ¬ f (6 * i + 1) < 0 ∧ f (6 * i + 1) ≤ nI T then (f (6 * i + 1)).toNatClampNeg else T) := by unfold fdT; rw [if_neg (by omega), if_pos e]
      have e3 := hN1 (by omega)
      exact k_end h hi6 hn (fun M2 g => back M2 _ _ (by rw [e2]; exact g) hz (by rw [e3]; rfl) (by rw [e3]; rfl))
    · rw [e]
      refine ⟨fun hh => absurd hh (by decide), fun _ _ => ?_⟩
      show zw _ _ _ _ _ _ 354 _ _ _ _
      have e2 : fdT f i T = 0 := by unfold fdT; rw [if_neg (by omega), if_neg (by omega), if_pos e]
      have e3 := hN1 (by omega)
      exact k_store h hi6 hn (fun M2 g => back M2 _ _ (by rw [e2]; exact g) hz (by rw [e3]; rfl) (by rw [e3]; rfl))
    · rw [e]
      refine ⟨fun hh => absurd hh (by decide), fun _ _ => ?_⟩
      show zw _ _ _ _ _ _ 367 _ _ _ _
      have e2 := hT3 (by omega)
      have e3 := hN1 (by omega)
      exact k_fault h hi6 hn (fun M2 g => back M2 _ _ (by rw [e2]; exact g) hz (by rw [e3]; rfl) (by rw [e3]; rfl))
    · rw [e]
      refine ⟨fun hh => absurd hh (by decide), fun _ _ => ?_⟩
      show zw _ _ _ _ _ _ 390 _ _ _ _
      have e2 := hT3 (by omega)
      have e3 := hN1 (by omega)
      exact k_count h hi6 hn (fun M2 g => back M2 _ _ (by rw [e2]; exact g) hz (by rw [e3]; rfl) (by rw [e3]; rfl))
    · rw [e]
      refine ⟨fun hh => absurd hh (by decide), fun _ _ => ?_⟩
      show zw _ _ _ _ _ _ 413 _ _ _ _
      have e2 := hT3 (by omega)
      have e3 := hN1 (by omega)
      exact k_cell h hi6 hn (fun M2 g => back M2 _ _ (by rw [e2]; exact g) hz (by rw [e3]; rfl) (by rw [e3]; rfl))
    · rw [e]
      refine ⟨fun hh => absurd hh (by decide), fun _ _ => ?_⟩
      show zw _ _ _ _ _ _ 446 _ _ _ _
      have e2 := hT3 (by omega)
      have e3 := hN1 (by omega)
      exact k_version h hi6 hn (fun M2 g => back M2 _ _ (by rw [e2]; exact g) hz (by rw [e3]; rfl) (by rw [e3]; rfl))
    · rw [e]
      refine ⟨fun hh => absurd hh (by decide), fun _ _ => ?_⟩
      show zw _ _ _ _ _ _ 479 _ _ _ _
      have e2 := hT3 (by omega)
      have e3 := hN1 (by omega)
      exact k_unlike h hi6 hn (fun M2 g => back M2 _ _ (by rw [e2]; exact g) hz (by rw [e3]; rfl) (by rw [e3]; rfl))
    · rw [e]
      refine ⟨fun hh => absurd hh (by decide), fun _ _ => ?_⟩
      show zw _ _ _ _ _ _ 512 _ _ _ _
      have e2 := hT3 (by omega)
      have e3 := hN1 (by omega)
      exact k_first h hi6 hn (fun M2 g => back M2 _ _ (by rw [e2]; exact g) hz (by rw [e3]; rfl) (by rw [e3]; rfl))
    · rw [e]
      refine ⟨fun hh => absurd hh (by decide), fun _ _ => ?_⟩
      show zw _ _ _ _ _ _ 535 _ _ _ _
      have e2 := hT3 (by omega)
      have e3 := hN1 (by omega)
      exact k_meet h hi6 hn (fun M2 g => back M2 _ _ (by rw [e2]; exact g) hz (by rw [e3]; rfl) (by rw [e3]; rfl))
    · rw [e]
      refine ⟨fun hh => absurd hh (by decide), fun _ _ => ?_⟩
      show zw _ _ _ _ _ _ 568 _ _ _ _
      have e2 := hT3 (by omega)
      have e3 := hN1 (by omega)
      exact k_apart h hi6 hn (fun M2 g => back M2 _ _ (by rw [e2]; exact g) hz (by rw [e3]; rfl) (by rw [e3]; rfl))
    · rw [e]
      refine ⟨fun hh => absurd hh (by decide), fun _ _ => ?_⟩
      show zw _ _ _ _ _ _ 601 _ _ _ _
      have e2 := hT3 (by omega)
      have e3 := hN1 (by omega)
      exact k_root h hi6 hn (fun M2 g => back M2 _ _ (by rw [e2]; exact g) hz (by rw [e3]; rfl) (by rw [e3]; rfl))
    · rw [e]
      refine ⟨fun hh => absurd hh (by decide), fun _ _ => ?_⟩
      show zw _ _ _ _ _ _ 634 _ _ _ _
      have e2 := hT3 (by omega)
      have e3 := hN1 (by omega)
      exact k_roots h hi6 hn (fun M2 g => back M2 _ _ (by rw [e2]; exact g) hz (by rw [e3]; rfl) (by rw [e3]; rfl))
    · rw [e]
      refine ⟨fun hh => absurd hh (by decide), fun _ _ => ?_⟩
      show zw _ _ _ _ _ _ 657 _ _ _ _
      have e2 := hT3 (by omega)
      have e3 := hN1 (by omega)
      exact k_together h hi6 hn (fun M2 g => back M2 _ _ (by rw [e2]; exact g) hz (by rw [e3]; rfl) (by rw [e3]; rfl))
    · rw [e]
      refine ⟨fun hh => absurd hh (by decide), fun _ _ => ?_⟩
      show zw _ _ _ _ _ _ 690 _ _ _ _
      have e2 := hT3 (by omega)
      have e3 := hN1 (by omega)
      exact k_state h hi6 hn (fun M2 g => back M2 _ _ (by rw [e2]; exact g) hz (by rw [e3]; rfl) (by rw [e3]; rfl))
    · rw [e]
      refine ⟨fun hh => absurd hh (by decide), fun _ _ => ?_⟩
      show zw _ _ _ _ _ _ 723 _ _ _ _
      have e2 := hT3 (by omega)
      have e3 := hN1 (by omega)
      exact k_length h hi6 hn (fun M2 g => back M2 _ _ (by rw [e2]; exact g) hz (by rw [e3]; rfl) (by rw [e3]; rfl))
    · rw [e]
      refine ⟨fun hh => absurd hh (by decide), fun _ _ => ?_⟩
      show zw _ _ _ _ _ _ 746 _ _ _ _
      have e2 := hT3 (by omega)
      have e3 := hN1 (by omega)
      exact k_longest h hi6 hn (fun M2 g => back M2 _ _ (by rw [e2]; exact g) hz (by rw [e3]; rfl) (by rw [e3]; rfl))
    · rw [e]
      refine ⟨fun hh => absurd hh (by decide), fun _ _ => ?_⟩
      show zw _ _ _ _ _ _ 759 _ _ _ _
      have e2 := hT3 (by omega)
      have e3 := hN1 (by omega)
      exact k_direct h hi6 hn (fun M2 g => back M2 _ _ (by rw [e2]; exact g) hz (by rw [e3]; rfl) (by rw [e3]; rfl))
    · rw [e]
      refine ⟨fun hh => absurd hh (by decide), fun _ _ => ?_⟩
      show zw _ _ _ _ _ _ 772 _ _ _ _
      have e2 := hT3 (by omega)
      have e3 := hN1 (by omega)
      exact k_ways h hi6 hn (fun M2 g => back M2 _ _ (by rw [e2]; exact g) hz (by rw [e3]; rfl) (by rw [e3]; rfl))
    · rw [e]
      refine ⟨fun hh => absurd hh (by decide), fun _ _ => ?_⟩
      show zw _ _ _ _ _ _ 785 _ _ _ _
      have e2 := hT3 (by omega)
      have e3 := hN1 (by omega)
      exact k_snapping h hi6 hn (fun M2 g => back M2 _ _ (by rw [e2]; exact g) hz (by rw [e3]; rfl) (by rw [e3]; rfl))
    · rw [e]
      refine ⟨fun hh => absurd hh (by decide), fun _ _ => ?_⟩
      show zw _ _ _ _ _ _ 808 _ _ _ _
      have e2 := hT3 (by omega)
      have e3 := hN1 (by omega)
      exact k_snap h hi6 hn (fun M2 g => back M2 _ _ (by rw [e2]; exact g) hz (by rw [e3]; rfl) (by rw [e3]; rfl))
    · rw [e]
      refine ⟨fun hh => absurd hh (by decide), fun _ _ => ?_⟩
      show zw _ _ _ _ _ _ 821 _ _ _ _
      have e2 := hT3 (by omega)
      have e3 := hN1 (by omega)
      exact k_ledger h hi6 hn (fun M2 g => back M2 _ _ (by rw [e2]; exact g) hz (by rw [e3]; rfl) (by rw [e3]; rfl))
    · rw [e]
      refine ⟨fun hh => absurd hh (by decide), fun _ _ => ?_⟩
      show zw _ _ _ _ _ _ 834 _ _ _ _
      have e2 := hT3 (by omega)
      have e3 := hN1 (by omega)
      exact k_spent h hi6 hn (fun M2 g => back M2 _ _ (by rw [e2]; exact g) hz (by rw [e3]; rfl) (by rw [e3]; rfl))
    · rw [e]
      refine ⟨fun hh => absurd hh (by decide), fun _ _ => ?_⟩
      show zw _ _ _ _ _ _ 857 _ _ _ _
      have e2 := hT3 (by omega)
      have e3 := hN1 (by omega)
      exact k_dearest h hi6 hn (fun M2 g => back M2 _ _ (by rw [e2]; exact g) hz (by rw [e3]; rfl) (by rw [e3]; rfl))
    · rw [e]
      refine ⟨fun hh => absurd hh (by decide), fun _ _ => ?_⟩
      show zw _ _ _ _ _ _ 870 _ _ _ _
      have e2 := hT3 (by omega)
      have e3 := hN1 (by omega)
      exact k_cost h hi6 hn (fun M2 g => back M2 _ _ (by rw [e2]; exact g) hz (by rw [e3]; rfl) (by rw [e3]; rfl))
    · rw [e]
      refine ⟨fun hh => absurd hh (by decide), fun _ _ => ?_⟩
      show zw _ _ _ _ _ _ 903 _ _ _ _
      have e2 := hT3 (by omega)
      have e3 := hN1 (by omega)
      exact k_by h hi6 hn (fun M2 g => back M2 _ _ (by rw [e2]; exact g) hz (by rw [e3]; rfl) (by rw [e3]; rfl))
    · rw [e]
      refine ⟨fun hh => absurd hh (by decide), fun _ _ => ?_⟩
      show zw _ _ _ _ _ _ 926 _ _ _ _
      have e2 := hT3 (by omega)
      have e3 := hN1 (by omega)
      exact k_cutting h hi6 hn (fun M2 g => back M2 _ _ (by rw [e2]; exact g) hz (by rw [e3]; rfl) (by rw [e3]; rfl))
    · rw [e]
      refine ⟨fun hh => absurd hh (by decide), fun _ _ => ?_⟩
      show zw _ _ _ _ _ _ 949 _ _ _ _
      have e2 := hT3 (by omega)
      have e3 := hN1 (by omega)
      exact k_cut h hi6 hn (fun M2 g => back M2 _ _ (by rw [e2]; exact g) hz (by rw [e3]; rfl) (by rw [e3]; rfl))
    · rw [e]
      refine ⟨fun hh => absurd hh (by decide), fun _ _ => ?_⟩
      show zw _ _ _ _ _ _ 962 _ _ _ _
      have e2 := hT3 (by omega)
      have e3 := hN1 (by omega)
      exact k_without h hi6 hn (fun M2 g => back M2 _ _ (by rw [e2]; exact g) hz (by rw [e3]; rfl) (by rw [e3]; rfl))
    · rw [e]
      refine ⟨fun hh => absurd hh (by decide), fun _ _ => ?_⟩
      show zw _ _ _ _ _ _ 985 _ _ _ _
      have e2 := hT3 (by omega)
      have e3 := hN1 (by omega)
      exact k_reads h hi6 hn (fun M2 g => back M2 _ _ (by rw [e2]; exact g) hz (by rw [e3]; rfl) (by rw [e3]; rfl))
    · rw [e]
      refine ⟨fun hh => absurd hh (by decide), fun _ _ => ?_⟩
      show zw _ _ _ _ _ _ 1018 _ _ _ _
      have e2 := hT3 (by omega)
      have e3 := hN1 (by omega)
      exact k_sets h hi6 hn (fun M2 g => back M2 _ _ (by rw [e2]; exact g) hz (by rw [e3]; rfl) (by rw [e3]; rfl))
    · rw [e]
      refine ⟨fun hh => absurd hh (by decide), fun _ _ => ?_⟩
      show zw _ _ _ _ _ _ 1061 _ _ _ _
      have e2 := hT3 (by omega)
      have e3 := hN1 (by omega)
      exact k_joins h hi6 hn (fun M2 g => back M2 _ _ (by rw [e2]; exact g) hz (by rw [e3]; rfl) (by rw [e3]; rfl))
    · rw [e]
      refine ⟨fun hh => absurd hh (by decide), fun _ _ => ?_⟩
      show zw _ _ _ _ _ _ 1104 _ _ _ _
      have e2 := hT3 (by omega)
      have e3 := hN1 (by omega)
      exact k_finds h hi6 hn (fun M2 g => back M2 _ _ (by rw [e2]; exact g) hz (by rw [e3]; rfl) (by rw [e3]; rfl))
    · rw [e]
      refine ⟨fun hh => absurd hh (by decide), fun _ _ => ?_⟩
      show zw _ _ _ _ _ _ 1137 _ _ _ _
      have e2 := hT3 (by omega)
      have e3 := hN1 (by omega)
      exact k_snaps h hi6 hn (fun M2 g => back M2 _ _ (by rw [e2]; exact g) hz (by rw [e3]; rfl) (by rw [e3]; rfl))
    · rw [e]
      refine ⟨fun hh => absurd hh (by decide), fun _ _ => ?_⟩
      show zw _ _ _ _ _ _ 1160 _ _ _ _
      have e2 := hT3 (by omega)
      have e3 := hN1 (by omega)
      exact k_search h hi6 hn (fun M2 g => back M2 _ _ (by rw [e2]; exact g) hz (by rw [e3]; rfl) (by rw [e3]; rfl))
    · rw [e]
      refine ⟨fun hh => absurd hh (by decide), fun _ _ => ?_⟩
      show zw _ _ _ _ _ _ 1193 _ _ _ _
      have e2 := hT3 (by omega)
      have e3 := hN1 (by omega)
      exact k_searchBy h hi6 hn (fun M2 g => back M2 _ _ (by rw [e2]; exact g) hz (by rw [e3]; rfl) (by rw [e3]; rfl))
    · rw [e]
      refine ⟨fun hh => absurd hh (by decide), fun _ _ => ?_⟩
      show zw _ _ _ _ _ _ 1226 _ _ _ _
      have e2 := hT3 (by omega)
      have e3 := hN1 (by omega)
      exact k_colour h hi6 hn (fun M2 g => back M2 _ _ (by rw [e2]; exact g) hz (by rw [e3]; rfl) (by rw [e3]; rfl))
    · rw [e]
      refine ⟨fun hh => absurd hh (by decide), fun _ _ => ?_⟩
      show zw _ _ _ _ _ _ 1259 _ _ _ _
      have e2 := hT3 (by omega)
      have e3 := hN1 (by omega)
      exact k_colours h hi6 hn (fun M2 g => back M2 _ _ (by rw [e2]; exact g) hz (by rw [e3]; rfl) (by rw [e3]; rfl))
    · rw [e]
      refine ⟨fun hh => absurd hh (by decide), fun _ _ => ?_⟩
      show zw _ _ _ _ _ _ 1272 _ _ _ _
      have e2 := hT3 (by omega)
      have e3 := hN1 (by omega)
      exact k_blame h hi6 hn (fun M2 g => back M2 _ _ (by rw [e2]; exact g) hz (by rw [e3]; rfl) (by rw [e3]; rfl))
    · rw [e]
      refine ⟨fun hh => absurd hh (by decide), fun _ _ => ?_⟩
      show zw _ _ _ _ _ _ 1305 _ _ _ _
      have e2 := hT3 (by omega)
      have e3 := hN1 (by omega)
      exact k_often h hi6 hn (fun M2 g => back M2 _ _ (by rw [e2]; exact g) hz (by rw [e3]; rfl) (by rw [e3]; rfl))
    · rw [e]
      refine ⟨fun hh => absurd hh (by decide), fun _ _ => ?_⟩
      show zw _ _ _ _ _ _ 1338 _ _ _ _
      have e2 := hT3 (by omega)
      have e3 := hN1 (by omega)
      exact k_merging h hi6 hn (fun M2 g => back M2 _ _ (by rw [e2]; exact g) hz (by rw [e3]; rfl) (by rw [e3]; rfl))
    · rw [e]
      refine ⟨fun hh => absurd hh (by decide), fun _ _ => ?_⟩
      show zw _ _ _ _ _ _ 1381 _ _ _ _
      have e2 := hT3 (by omega)
      have e3 := hN1 (by omega)
      exact k_merged h hi6 hn (fun M2 g => back M2 _ _ (by rw [e2]; exact g) hz (by rw [e3]; rfl) (by rw [e3]; rfl))
    · rw [e]
      refine ⟨fun hh => absurd hh (by decide), fun _ _ => ?_⟩
      show zw _ _ _ _ _ _ 1424 _ _ _ _
      have e2 := hT3 (by omega)
      have e3 := hN1 (by omega)
      exact k_merges h hi6 hn (fun M2 g => back M2 _ _ (by rw [e2]; exact g) hz (by rw [e3]; rfl) (by rw [e3]; rfl))
    · rw [e]
      refine ⟨fun hh => absurd hh (by decide), fun _ _ => ?_⟩
      show zw _ _ _ _ _ _ 1457 _ _ _ _
      have e2 := hT3 (by omega)
      have e3 := hN1 (by omega)
      exact k_patching h hi6 hn (fun M2 g => back M2 _ _ (by rw [e2]; exact g) hz (by rw [e3]; rfl) (by rw [e3]; rfl))
    · rw [e]
      refine ⟨fun hh => absurd hh (by decide), fun _ _ => ?_⟩
      show zw _ _ _ _ _ _ 1500 _ _ _ _
      have e2 := hT3 (by omega)
      have e3 := hN1 (by omega)
      exact k_patches h hi6 hn (fun M2 g => back M2 _ _ (by rw [e2]; exact g) hz (by rw [e3]; rfl) (by rw [e3]; rfl))
    · rw [e]
      refine ⟨fun hh => absurd hh (by decide), fun _ _ => ?_⟩
      show zw _ _ _ _ _ _ 1543 _ _ _ _
      have e2 := hT3 (by omega)
      have e3 := hN1 (by omega)
      exact k_keeps h hi6 hn (fun M2 g => back M2 _ _ (by rw [e2]; exact g) hz (by rw [e3]; rfl) (by rw [e3]; rfl))
    · rw [e]
      refine ⟨fun hh => absurd hh (by decide), fun _ _ => ?_⟩
      show zw _ _ _ _ _ _ 1597 _ _ _ _
      have e2 := hT3 (by omega)
      have e3 := hN1 (by omega)
      exact k_room h hi6 hn (fun M2 g => back M2 _ _ (by rw [e2]; exact g) hz (by rw [e3]; rfl) (by rw [e3]; rfl))
    · rw [e]
      refine ⟨fun hh => absurd hh (by decide), fun _ _ => ?_⟩
      show zw _ _ _ _ _ _ 1650 _ _ _ _
      have e2 := hT3 (by omega)
      have e3 := hN1 (by omega)
      exact k_busiest h hi6 hn (fun M2 g => back M2 _ _ (by rw [e2]; exact g) hz (by rw [e3]; rfl) (by rw [e3]; rfl))
    · rw [e]
      refine ⟨fun hh => absurd hh (by decide), fun _ _ => ?_⟩
      show zw _ _ _ _ _ _ 1663 _ _ _ _
      have e2 := hT3 (by omega)
      have e3 := hN1 (by omega)
      exact k_forward h hi6 hn (fun M2 g => back M2 _ _ (by rw [e2]; exact g) hz (by rw [e3]; rfl) (by rw [e3]; rfl))
    · rw [e]
      refine ⟨fun hh => absurd hh (by decide), fun _ _ => ?_⟩
      show zw _ _ _ _ _ _ 1696 _ _ _ _
      have e2 := hT3 (by omega)
      have e3 := hN1 (by omega)
      exact k_forwardBy h hi6 hn (fun M2 g => back M2 _ _ (by rw [e2]; exact g) hz (by rw [e3]; rfl) (by rw [e3]; rfl))
    · rw [e]
      refine ⟨fun hh => absurd hh (by decide), fun _ _ => ?_⟩
      show zw _ _ _ _ _ _ 1729 _ _ _ _
      have e2 := hT3 (by omega)
      have e3 := hN1 (by omega)
      exact k_hue h hi6 hn (fun M2 g => back M2 _ _ (by rw [e2]; exact g) hz (by rw [e3]; rfl) (by rw [e3]; rfl))
    · rw [e]
      refine ⟨fun hh => absurd hh (by decide), fun _ _ => ?_⟩
      show zw _ _ _ _ _ _ 1762 _ _ _ _
      have e2 := hT3 (by omega)
      have e3 := hN1 (by omega)
      exact k_image h hi6 hn (fun M2 g => back M2 _ _ (by rw [e2]; exact g) hz (by rw [e3]; rfl) (by rw [e3]; rfl))
    · rw [e]
      refine ⟨fun hh => absurd hh (by decide), fun _ _ => ?_⟩
      show zw _ _ _ _ _ _ 1785 _ _ _ _
      have e2 := hT3 (by omega)
      have e3 := hN1 (by omega)
      exact k_back h hi6 hn (fun M2 g => back M2 _ _ (by rw [e2]; exact g) hz (by rw [e3]; rfl) (by rw [e3]; rfl))
    · rw [e]
      refine ⟨fun hh => absurd hh (by decide), fun _ _ => ?_⟩
      show zw _ _ _ _ _ _ 1808 _ _ _ _
      have e2 := hT3 (by omega)
      have e3 := hN1 (by omega)
      exact k_undo h hi6 hn (fun M2 g => back M2 _ _ (by rw [e2]; exact g) hz (by rw [e3]; rfl) (by rw [e3]; rfl))
    · rw [e]
      refine ⟨fun hh => absurd hh (by decide), fun _ _ => ?_⟩
      show zw _ _ _ _ _ _ 1821 _ _ _ _
      have e2 := hT3 (by omega)
      have e3 := hN1 (by omega)
      exact k_anew h hi6 hn (fun M2 g => back M2 _ _ (by rw [e2]; exact g) hz (by rw [e3]; rfl) (by rw [e3]; rfl))
    · refine ⟨fun _ => ?_, fun h1 h2 => ?_⟩
      · show zw _ _ _ _ _ _ 1834 _ _ _ _
        have e3 := hN1 (by omega)
        exact back M _ _ ⟨p, r, by rw [hT3 (by omega)]; exact h⟩ hz (by rw [e3]; rfl) (by rw [e3]; rfl)
      · rw [nI_toInt (by have := (op_e f i).1; omega)] at h2
        omega
