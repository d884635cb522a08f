theorem k_roots {b n : Nat} {f : Nat → Int32} {sa : Nat → Nat} {d : Nat} {B : Nat × Nat} {Q : mz_P} {z : Nat × Nat} {x T p r : Nat} {M : mz_M} (h : iV x T p r M) {i : Nat} (hi : 6 * i + 6 ≤ n) (hn : n ≤ 3072) (hk : ∀ M2, (∃ p r, iV x T p r M2) → zw (some (b, n, f)) sa (d + 16) ym_Law_law B Q 1834 [.ref b, .ref x, .ref (x + 87), .int (nI (6 * i))] [] M2 z) : zw (some (b, n, f)) sa (d + 16) ym_Law_law B Q 634 [.ref b, .ref x, .ref (x + 87), .int (nI (6 * i))] [] M z := by
  refine z_aload_n (q := 635) (lk_3 rfl rfl) rfl rfl ?_
  refine zs_arg (q := 640) (j := 1) (lk_3 rfl rfl) (lk_3 rfl rfl) (lk_3 rfl rfl) (lk_3 rfl rfl) (lk_3 rfl rfl) rfl rfl (by omega) hn ?_
  refine z_cv1qi (q := 643) (lk_3 rfl rfl) rfl rfl (X_k h.1) (c_roots h) (fun v M1 g => ?_)
  obtain ⟨g1, g2⟩ := g
  refine z_aload_n (q := 644) (lk_3 rfl rfl) rfl rfl ?_
  refine zs_arg (q := 649) (j := 1) (lk_3 rfl rfl) (lk_3 rfl rfl) (lk_3 rfl rfl) (lk_3 rfl rfl) (lk_3 rfl rfl) rfl rfl (by omega) hn ?_
  refine z_cv1qi (q := 652) (lk_3 rfl rfl) rfl rfl (by rw [g1]; exact Mo_k h.2.1) g2 (fun v2 M2 g3 => ?_)
  obtain ⟨rfl, g4⟩ := g3
  refine z_ic_eq (q := 655) (lk_3 rfl rfl) rfl (fun _ => hk M2 g4) (fun hne => absurd rfl hne)
theorem k_together {b n : Nat} {f : Nat → Int32} {sa : Nat → Nat} {d : Nat} {B : Nat × Nat} {Q : mz_P} {z : Nat × Nat} {x T p r : Nat} {M : mz_M} (h : iV x T p r M) {i : Nat} (hi : 6 * i + 6 ≤ n) (hn : n ≤ 3072) (hk : ∀ M2, (∃ p r, iV x T p r M2) → zw (some (b, n, f)) sa (d + 16) ym_Law_law B Q 1834 [.ref b, .ref x, .ref (x + 87), .int (nI (6 * i))] [] M2 z) : zw (some (b, n, f)) sa (d + 16) ym_Law_law B Q 657 [.ref b, .ref x, .ref (x + 87), .int (nI (6 * i))] [] M z := by
  refine z_aload_n (q := 658) (lk_3 rfl rfl) rfl rfl ?_
  refine zs_arg (q := 663) (j := 1) (lk_3 rfl rfl) (lk_3 rfl rfl) (lk_3 rfl rfl) (lk_3 rfl rfl) (lk_3 rfl rfl) rfl rfl (by omega) hn ?_
  refine zs_arg (q := 668) (j := 2) (lk_3 rfl rfl) (lk_3 rfl rfl) (lk_3 rfl rfl) (lk_3 rfl rfl) (lk_3 rfl rfl) rfl rfl (by omega) hn ?_
  refine z_cv2qi (q := 671) (lk_3 rfl rfl) rfl rfl (X_k h.1) (c_together h) (fun v M1 g => ?_)
  obtain ⟨g1, g2⟩ := g
  refine z_aload_n (q := 672) (lk_3 rfl rfl) rfl rfl ?_
  refine zs_arg (q := 677) (j := 1) (lk_3 rfl rfl) (lk_3 rfl rfl) (lk_3 rfl rfl) (lk_3 rfl rfl) (lk_3 rfl rfl) rfl rfl (by omega) hn ?_
  refine zs_arg (q := 682) (j := 2) (lk_3 rfl rfl) (lk_3 rfl rfl) (lk_3 rfl rfl) (lk_3 rfl rfl) (lk_3 rfl rfl) rfl rfl (by omega) hn ?_
  refine z_cv2qi (q := 685) (lk_3 rfl rfl) rfl rfl (by rw [g1]; exact Mo_k h.2.1) g2 (fun v2 M2 g3 => ?_)
  obtain ⟨rfl, g4⟩ := g3
  refine z_ic_eq (q := 688) (lk_3 rfl rfl) rfl (fun _ => hk M2 g4) (fun hne => absurd rfl hne)
theorem k_state {b n : Nat} {f : Nat → Int32} {sa : Nat → Nat} {d : Nat} {B : Nat × Nat} {Q : mz_P} {z : Nat × Nat} {x T p r : Nat} {M : mz_M} (h : iV x T p r M) {i : Nat} (hi : 6 * i + 6 ≤ n) (hn : n ≤ 3072) (hk : ∀ M2, (∃ p r, iV x T p r M2) → zw (some (b, n, f)) sa (d + 16) ym_Law_law B Q 1834 [.ref b, .ref x, .ref (x + 87), .int (nI (6 * i))] [] M2 z) : zw (some (b, n, f)) sa (d + 16) ym_Law_law B Q 690 [.ref b, .ref x, .ref (x + 87), .int (nI (6 * i))] [] M z := by
  refine z_aload_n (q := 691) (lk_3 rfl rfl) rfl rfl ?_
  refine zs_arg (q := 696) (j := 1) (lk_3 rfl rfl) (lk_3 rfl rfl) (lk_3 rfl rfl) (lk_3 rfl rfl) (lk_3 rfl rfl) rfl rfl (by omega) hn ?_
  refine zs_arg (q := 701) (j := 2) (lk_3 rfl rfl) (lk_3 rfl rfl) (lk_3 rfl rfl) (lk_3 rfl rfl) (lk_3 rfl rfl) rfl rfl (by omega) hn ?_
  refine z_cv2qi (q := 704) (lk_3 rfl rfl) rfl rfl (X_k h.1) (c_state h) (fun v M1 g => ?_)
  obtain ⟨g1, g2⟩ := g
  refine z_aload_n (q := 705) (lk_3 rfl rfl) rfl rfl ?_
  refine zs_arg (q := 710) (j := 1) (lk_3 rfl rfl) (lk_3 rfl rfl) (lk_3 rfl rfl) (lk_3 rfl rfl) (lk_3 rfl rfl) rfl rfl (by omega) hn ?_
  refine zs_arg (q := 715) (j := 2) (lk_3 rfl rfl) (lk_3 rfl rfl) (lk_3 rfl rfl) (lk_3 rfl rfl) (lk_3 rfl rfl) rfl rfl (by omega) hn ?_
  refine z_cv2qi (q := 718) (lk_3 rfl rfl) rfl rfl (by rw [g1]; exact Mo_k h.2.1) g2 (fun v2 M2 g3 => ?_)
  obtain ⟨rfl, g4⟩ := g3
  refine z_ic_eq (q := 721) (lk_3 rfl rfl) rfl (fun _ => hk M2 g4) (fun hne => absurd rfl hne)
theorem k_length {b n : Nat} {f : Nat → Int32} {sa : Nat → Nat} {d : Nat} {B : Nat × Nat} {Q : mz_P} {z : Nat × Nat} {x T p r : Nat} {M : mz_M} (h : iV x T p r M) {i : Nat} (hi : 6 * i + 6 ≤ n) (hn : n ≤ 3072) (hk : ∀ M2, (∃ p r, iV x T p r M2) → zw (some (b, n, f)) sa (d + 16) ym_Law_law B Q 1834 [.ref b, .ref x, .ref (x + 87), .int (nI (6 * i))] [] M2 z) : zw (some (b, n, f)) sa (d + 16) ym_Law_law B Q 723 [.ref b, .ref x, .ref (x + 87), .int (nI (6 * i))] [] M z := by
  refine z_aload_n (q := 724) (lk_3 rfl rfl) rfl rfl ?_
  refine zs_arg (q := 729) (j := 1) (lk_3 rfl rfl) (lk_3 rfl rfl) (lk_3 rfl rfl) (lk_3 rfl rfl) (lk_3 rfl rfl) rfl rfl (by omega) hn ?_
  refine z_cv1qi (q := 732) (lk_3 rfl rfl) rfl rfl (X_k h.1) (c_length h) (fun v M1 g => ?_)
  obtain ⟨g1, g2⟩ := g
  refine z_aload_n (q := 733) (lk_3 rfl rfl) rfl rfl ?_
  refine zs_arg (q := 738) (j := 1) (lk_3 rfl rfl) (lk_3 rfl rfl) (lk_3 rfl rfl) (lk_3 rfl rfl) (lk_3 rfl rfl) rfl rfl (by omega) hn ?_
  refine z_cv1qi (q := 741) (lk_4 rfl rfl) rfl rfl (by rw [g1]; exact Mo_k h.2.1) g2 (fun v2 M2 g3 => ?_)
  obtain ⟨rfl, g4⟩ := g3
  refine z_ic_eq (q := 744) (lk_4 rfl rfl) rfl (fun _ => hk M2 g4) (fun hne => absurd rfl hne)
theorem k_longest {b n : Nat} {f : Nat → Int32} {sa : Nat → Nat} {d : Nat} {B : Nat × Nat} {Q : mz_P} {z : Nat × Nat} {x T p r : Nat} {M : mz_M} (h : iV x T p r M) {i : Nat} (hi : 6 * i + 6 ≤ n) (hn : n ≤ 3072) (hk : ∀ M2, (∃ p r, iV x T p r M2) → zw (some (b, n, f)) sa (d + 16) ym_Law_law B Q 1834 [.ref b, .ref x, .ref (x + 87), .int (nI (6 * i))] [] M2 z) : zw (some (b, n, f)) sa (d + 16) ym_Law_law B Q 746 [.ref b, .ref x, .ref (x + 87), .int (nI (6 * i))] [] M z := by
  refine z_aload_n (q := 747) (lk_4 rfl rfl) rfl rfl ?_
  refine z_cv0qi (q := 750) (lk_4 rfl rfl) rfl rfl (X_k h.1) (c_longest h) (fun v M1 g => ?_)
  obtain ⟨g1, g2⟩ := g
  refine z_aload_n (q := 751) (lk_4 rfl rfl) rfl rfl ?_
  refine z_cv0qi (q := 754) (lk_4 rfl rfl) rfl rfl (by rw [g1]; exact Mo_k h.2.1) g2 (fun v2 M2 g3 => ?_)
  obtain ⟨rfl, g4⟩ := g3
  refine z_ic_eq (q := 757) (lk_4 rfl rfl) rfl (fun _ => hk M2 g4) (fun hne => absurd rfl hne)
theorem k_direct {b n : Nat} {f : Nat → Int32} {sa : Nat → Nat} {d : Nat} {B : Nat × Nat} {Q : mz_P} {z : Nat × Nat} {x T p r : Nat} {M : mz_M} (h : iV x T p r M) {i : Nat} (hi : 6 * i + 6 ≤ n) (hn : n ≤ 3072) (hk : ∀ M2, (∃ p r, iV x T p r M2) → zw (some (b, n, f)) sa (d + 16) ym_Law_law B Q 1834 [.ref b, .ref x, .ref (x + 87), .int (nI (6 * i))] [] M2 z) : zw (some (b, n, f)) sa (d + 16) ym_Law_law B Q 759 [.ref b, .ref x, .ref (x + 87), .int (nI (6 * i))] [] M z := by
  refine z_aload_n (q := 760) (lk_4 rfl rfl) rfl rfl ?_
  refine z_cv0qi (q := 763) (lk_4 rfl rfl) rfl rfl (X_k h.1) (c_direct h) (fun v M1 g => ?_)
  obtain ⟨g1, g2⟩ := g
  refine z_aload_n (q := 764) (lk_4 rfl rfl) rfl rfl ?_
  refine z_cv0qi (q := 767) (lk_4 rfl rfl) rfl rfl (by rw [g1]; exact Mo_k h.2.1) g2 (fun v2 M2 g3 => ?_)
  obtain ⟨rfl, g4⟩ := g3
  refine z_ic_eq (q := 770) (lk_4 rfl rfl) rfl (fun _ => hk M2 g4) (fun hne => absurd rfl hne)
theorem k_ways {b n : Nat} {f : Nat → Int32} {sa : Nat → Nat} {d : Nat} {B : Nat × Nat} {Q : mz_P} {z : Nat × Nat} {x T p r : Nat} {M : mz_M} (h : iV x T p r M) {i : Nat} (hi : 6 * i + 6 ≤ n) (hn : n ≤ 3072) (hk : ∀ M2, (∃ p r, iV x T p r M2) → zw (some (b, n, f)) sa (d + 16) ym_Law_law B Q 1834 [.ref b, .ref x, .ref (x + 87), .int (nI (6 * i))] [] M2 z) : zw (some (b, n, f)) sa (d + 16) ym_Law_law B Q 772 [.ref b, .ref x, .ref (x + 87), .int (nI (6 * i))] [] M z := by
  refine z_aload_n (q := 773) (lk_4 rfl rfl) rfl rfl ?_
  refine z_cv0qi (q := 776) (lk_4 rfl rfl) rfl rfl (X_k h.1) (c_ways h) (fun v M1 g => ?_)
  obtain ⟨g1, g2⟩ := g
  refine z_aload_n (q := 777) (lk_4 rfl rfl) rfl rfl ?_
  refine z_cv0qi (q := 780) (lk_4 rfl rfl) rfl rfl (by rw [g1]; exact Mo_k h.2.1) g2 (fun v2 M2 g3 => ?_)
  obtain ⟨rfl, g4⟩ := g3
  refine z_ic_eq (q := 783) (lk_4 rfl rfl) rfl (fun _ => hk M2 g4) (fun hne => absurd rfl hne)
theorem k_snapping {b n : Nat} {f : Nat → Int32} {sa : Nat → Nat} {d : Nat} {B : Nat × Nat} {Q : mz_P} {z : Nat × Nat} {x T p r : Nat} {M : mz_M} (h : iV x T p r M) {i : Nat} (hi : 6 * i + 6 ≤ n) (hn : n ≤ 3072) (hk : ∀ M2, (∃ p r, iV x T p r M2) → zw (some (b, n, f)) sa (d + 16) ym_Law_law B Q 1834 [.ref b, .ref x, .ref (x + 87), .int (nI (6 * i))] [] M2 z) : zw (some (b, n, f)) sa (d + 16) ym_Law_law B Q 785 [.ref b, .ref x, .ref (x + 87), .int (nI (6 * i))] [] M z := by
  refine z_aload_n (q := 786) (lk_4 rfl rfl) rfl rfl ?_
  refine zs_arg (q := 791) (j := 1) (lk_4 rfl rfl) (lk_4 rfl rfl) (lk_4 rfl rfl) (lk_4 rfl rfl) (lk_4 rfl rfl) rfl rfl (by omega) hn ?_
  refine z_cv1qi (q := 794) (lk_4 rfl rfl) rfl rfl (X_k h.1) (c_snapping h) (fun v M1 g => ?_)
  obtain ⟨g1, g2⟩ := g
  refine z_aload_n (q := 795) (lk_4 rfl rfl) rfl rfl ?_
  refine zs_arg (q := 800) (j := 1) (lk_4 rfl rfl) (lk_4 rfl rfl) (lk_4 rfl rfl) (lk_4 rfl rfl) (lk_4 rfl rfl) rfl rfl (by omega) hn ?_
  refine z_cv1qi (q := 803) (lk_4 rfl rfl) rfl rfl (by rw [g1]; exact Mo_k h.2.1) g2 (fun v2 M2 g3 => ?_)
  obtain ⟨rfl, g4⟩ := g3
  refine z_ic_eq (q := 806) (lk_4 rfl rfl) rfl (fun _ => hk M2 g4) (fun hne => absurd rfl hne)
theorem k_snap {b n : Nat} {f : Nat → Int32} {sa : Nat → Nat} {d : Nat} {B : Nat × Nat} {Q : mz_P} {z : Nat × Nat} {x T p r : Nat} {M : mz_M} (h : iV x T p r M) {i : Nat} (hi : 6 * i + 6 ≤ n) (hn : n ≤ 3072) (hk : ∀ M2, (∃ p r, iV x T p r M2) → zw (some (b, n, f)) sa (d + 16) ym_Law_law B Q 1834 [.ref b, .ref x, .ref (x + 87), .int (nI (6 * i))] [] M2 z) : zw (some (b, n, f)) sa (d + 16) ym_Law_law B Q 808 [.ref b, .ref x, .ref (x + 87), .int (nI (6 * i))] [] M z := by
  refine z_aload_n (q := 809) (lk_4 rfl rfl) rfl rfl ?_
  refine z_cv0qi (q := 812) (lk_4 rfl rfl) rfl rfl (X_k h.1) (c_snap h) (fun v M1 g => ?_)
  obtain ⟨g1, g2⟩ := g
  refine z_aload_n (q := 813) (lk_4 rfl rfl) rfl rfl ?_
  refine z_cv0qi (q := 816) (lk_4 rfl rfl) rfl rfl (by rw [g1]; exact Mo_k h.2.1) g2 (fun v2 M2 g3 => ?_)
  obtain ⟨rfl, g4⟩ := g3
  refine z_ic_eq (q := 819) (lk_4 rfl rfl) rfl (fun _ => hk M2 g4) (fun hne => absurd rfl hne)
theorem k_ledger {b n : Nat} {f : Nat → Int32} {sa : Nat → Nat} {d : Nat} {B : Nat × Nat} {Q : mz_P} {z : Nat × Nat} {x T p r : Nat} {M : mz_M} (h : iV x T p r M) {i : Nat} (hi : 6 * i + 6 ≤ n) (hn : n ≤ 3072) (hk : ∀ M2, (∃ p r, iV x T p r M2) → zw (some (b, n, f)) sa (d + 16) ym_Law_law B Q 1834 [.ref b, .ref x, .ref (x + 87), .int (nI (6 * i))] [] M2 z) : zw (some (b, n, f)) sa (d + 16) ym_Law_law B Q 821 [.ref b, .ref x, .ref (x + 87), .int (nI (6 * i))] [] M z := by
  refine z_aload_n (q := 822) (lk_4 rfl rfl) rfl rfl ?_
  refine z_cv0qi (q := 825) (lk_4 rfl rfl) rfl rfl (X_k h.1) (c_ledger h) (fun v M1 g => ?_)
  obtain ⟨g1, g2⟩ := g
  refine z_aload_n (q := 826) (lk_4 rfl rfl) rfl rfl ?_
  refine z_cv0qi (q := 829) (lk_4 rfl rfl) rfl rfl (by rw [g1]; exact Mo_k h.2.1) g2 (fun v2 M2 g3 => ?_)
  obtain ⟨rfl, g4⟩ := g3
  refine z_ic_eq (q := 832) (lk_4 rfl rfl) rfl (fun _ => hk M2 g4) (fun hne => absurd rfl hne)
theorem k_spent {b n : Nat} {f : Nat → Int32} {sa : Nat → Nat} {d : Nat} {B : Nat × Nat} {Q : mz_P} {z : Nat × Nat} {x T p r : Nat} {M : mz_M} (h : iV x T p r M) {i : Nat} (hi : 6 * i + 6 ≤ n) (hn : n ≤ 3072) (hk : ∀ M2, (∃ p r, iV x T p r M2) → zw (some (b, n, f)) sa (d + 16) ym_Law_law B Q 1834 [.ref b, .ref x, .ref (x + 87), .int (nI (6 * i))] [] M2 z) : zw (some (b, n, f)) sa (d + 16) ym_Law_law B Q 834 [.ref b, .ref x, .ref (x + 87), .int (nI (6 * i))] [] M z := by
  refine z_aload_n (q := 835) (lk_4 rfl rfl) rfl rfl ?_
  refine zs_arg (q := 840) (j := 1) (lk_4 rfl rfl) (lk_4 rfl rfl) (lk_4 rfl rfl) (lk_4 rfl rfl) (lk_4 rfl rfl) rfl rfl (by omega) hn ?_
  refine z_cv1qi (q := 843) (lk_4 rfl rfl) rfl rfl (X_k h.1) (c_spent h) (fun v M1 g => ?_)
  obtain ⟨g1, g2⟩ := g
  refine z_aload_n (q := 844) (lk_4 rfl rfl) rfl rfl ?_
  refine zs_arg (q := 849) (j := 1) (lk_4 rfl rfl) (lk_4 rfl rfl) (lk_4 rfl rfl) (lk_4 rfl rfl) (lk_4 rfl rfl) rfl rfl (by omega) hn ?_
  refine z_cv1qi (q := 852) (lk_4 rfl rfl) rfl rfl (by rw [g1]; exact Mo_k h.2.1) g2 (fun v2 M2 g3 => ?_)
  obtain ⟨rfl, g4⟩ := g3
  refine z_ic_eq (q := 855) (lk_4 rfl rfl) rfl (fun _ => hk M2 g4) (fun hne => absurd rfl hne)
theorem k_dearest {b n : Nat} {f : Nat → Int32} {sa : Nat → Nat} {d : Nat} {B : Nat × Nat} {Q : mz_P} {z : Nat × Nat} {x T p r : Nat} {M : mz_M} (h : iV x T p r M) {i : Nat} (hi : 6 * i + 6 ≤ n) (hn : n ≤ 3072) (hk : ∀ M2, (∃ p r, iV x T p r M2) → zw (some (b, n, f)) sa (d + 16) ym_Law_law B Q 1834 [.ref b, .ref x, .ref (x + 87), .int (nI (6 * i))] [] M2 z) : zw (some (b, n, f)) sa (d + 16) ym_Law_law B Q 857 [.ref b, .ref x, .ref (x + 87), .int (nI (6 * i))] [] M z := by
  refine z_aload_n (q := 858) (lk_4 rfl rfl) rfl rfl ?_
  refine z_cv0qi (q := 861) (lk_4 rfl rfl) rfl rfl (X_k h.1) (c_dearest h) (fun v M1 g => ?_)
  obtain ⟨g1, g2⟩ := g
  refine z_aload_n (q := 862) (lk_4 rfl rfl) rfl rfl ?_
  refine z_cv0qi (q := 865) (lk_4 rfl rfl) rfl rfl (by rw [g1]; exact Mo_k h.2.1) g2 (fun v2 M2 g3 => ?_)
  obtain ⟨rfl, g4⟩ := g3
  refine z_ic_eq (q := 868) (lk_4 rfl rfl) rfl (fun _ => hk M2 g4) (fun hne => absurd rfl hne)
