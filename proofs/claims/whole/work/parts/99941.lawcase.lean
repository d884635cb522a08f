theorem k_end {b n : Nat} {f : Nat → Int32} {sa : Nat → Nat} {d : Nat} {B : Nat × Nat} {Q : mz_P} {z : Nat × Nat} {x T p r : Nat} {M : mz_M} (h : iV x T p r M) {i : Nat} (hi : 6 * i + 6 ≤ n) (hn : n ≤ 3072) (hk : ∀ M2, (∃ p r, iV x (if ¬ f (6 * i + 1) < 0 ∧ f (6 * i + 1) ≤ nI T then (f (6 * i + 1)).toNatClampNeg else T) p r M2) → zw (some (b, n, f)) sa (d + 16) ym_Law_law B Q 1834 [.ref b, .ref x, .ref (x + 87), .int (nI (6 * i))] [] M2 z) : zw (some (b, n, f)) sa (d + 16) ym_Law_law B Q 331 [.ref b, .ref x, .ref (x + 87), .int (nI (6 * i))] [] M z := by
  refine z_aload_n (q := 332) (lk_0 rfl rfl) rfl rfl ?_
  refine zs_arg (q := 337) (j := 1) (lk_0 rfl rfl) (lk_0 rfl rfl) (lk_0 rfl rfl) (lk_0 rfl rfl) (lk_0 rfl rfl) rfl rfl (by omega) hn ?_
  refine z_cv1qi (q := 340) (lk_0 rfl rfl) rfl rfl (X_k h.1) (c_end h) (fun v M1 g => ?_)
  obtain ⟨g1, g2⟩ := g
  refine z_aload_n (q := 341) (lk_0 rfl rfl) rfl rfl ?_
  refine zs_arg (q := 346) (j := 1) (lk_0 rfl rfl) (lk_0 rfl rfl) (lk_0 rfl rfl) (lk_0 rfl rfl) (lk_0 rfl rfl) rfl rfl (by omega) hn ?_
  refine z_cv1qi (q := 349) (lk_0 rfl rfl) rfl rfl (by rw [g1]; exact Mo_k h.2.1) g2 (fun v2 M2 g3 => ?_)
  obtain ⟨rfl, g4⟩ := g3
  refine z_ic_eq (q := 352) (lk_0 rfl rfl) rfl (fun _ => hk M2 g4) (fun hne => absurd rfl hne)
theorem k_store {b n : Nat} {f : Nat → Int32} {sa : Nat → Nat} {d : Nat} {B : Nat × Nat} {Q : mz_P} {z : Nat × Nat} {x T p r : Nat} {M : mz_M} (h : iV x T p r M) {i : Nat} (hi : 6 * i + 6 ≤ n) (hn : n ≤ 3072) (hk : ∀ M2, (∃ p r, iV x 0 p r M2) → zw (some (b, n, f)) sa (d + 16) ym_Law_law B Q 1834 [.ref b, .ref x, .ref (x + 87), .int (nI (6 * i))] [] M2 z) : zw (some (b, n, f)) sa (d + 16) ym_Law_law B Q 354 [.ref b, .ref x, .ref (x + 87), .int (nI (6 * i))] [] M z := by
  refine z_aload_n (q := 355) (lk_0 rfl rfl) rfl rfl ?_
  refine z_cv0qi (q := 358) (lk_0 rfl rfl) rfl rfl (X_k h.1) (c_store h) (fun v M1 g => ?_)
  obtain ⟨g1, g2⟩ := g
  refine z_aload_n (q := 359) (lk_0 rfl rfl) rfl rfl ?_
  refine z_cv0qi (q := 362) (lk_0 rfl rfl) rfl rfl (by rw [g1]; exact Mo_k h.2.1) g2 (fun v2 M2 g3 => ?_)
  obtain ⟨rfl, g4⟩ := g3
  refine z_ic_eq (q := 365) (lk_1 rfl rfl) rfl (fun _ => hk M2 g4) (fun hne => absurd rfl hne)
theorem k_fault {b n : Nat} {f : Nat → Int32} {sa : Nat → Nat} {d : Nat} {B : Nat × Nat} {Q : mz_P} {z : Nat × Nat} {x T p r : Nat} {M : mz_M} (h : iV x T p r M) {i : Nat} (hi : 6 * i + 6 ≤ n) (hn : n ≤ 3072) (hk : ∀ M2, (∃ p r, iV x T p r M2) → zw (some (b, n, f)) sa (d + 16) ym_Law_law B Q 1834 [.ref b, .ref x, .ref (x + 87), .int (nI (6 * i))] [] M2 z) : zw (some (b, n, f)) sa (d + 16) ym_Law_law B Q 367 [.ref b, .ref x, .ref (x + 87), .int (nI (6 * i))] [] M z := by
  refine z_aload_n (q := 368) (lk_1 rfl rfl) rfl rfl ?_
  refine zs_arg (q := 373) (j := 1) (lk_1 rfl rfl) (lk_1 rfl rfl) (lk_1 rfl rfl) (lk_1 rfl rfl) (lk_1 rfl rfl) rfl rfl (by omega) hn ?_
  refine z_cv1qi (q := 376) (lk_1 rfl rfl) rfl rfl (X_k h.1) (c_fault h) (fun v M1 g => ?_)
  obtain ⟨g1, g2⟩ := g
  refine z_aload_n (q := 377) (lk_1 rfl rfl) rfl rfl ?_
  refine zs_arg (q := 382) (j := 1) (lk_1 rfl rfl) (lk_1 rfl rfl) (lk_1 rfl rfl) (lk_1 rfl rfl) (lk_1 rfl rfl) rfl rfl (by omega) hn ?_
  refine z_cv1qi (q := 385) (lk_1 rfl rfl) rfl rfl (by rw [g1]; exact Mo_k h.2.1) g2 (fun v2 M2 g3 => ?_)
  obtain ⟨rfl, g4⟩ := g3
  refine z_ic_eq (q := 388) (lk_1 rfl rfl) rfl (fun _ => hk M2 g4) (fun hne => absurd rfl hne)
theorem k_count {b n : Nat} {f : Nat → Int32} {sa : Nat → Nat} {d : Nat} {B : Nat × Nat} {Q : mz_P} {z : Nat × Nat} {x T p r : Nat} {M : mz_M} (h : iV x T p r M) {i : Nat} (hi : 6 * i + 6 ≤ n) (hn : n ≤ 3072) (hk : ∀ M2, (∃ p r, iV x T p r M2) → zw (some (b, n, f)) sa (d + 16) ym_Law_law B Q 1834 [.ref b, .ref x, .ref (x + 87), .int (nI (6 * i))] [] M2 z) : zw (some (b, n, f)) sa (d + 16) ym_Law_law B Q 390 [.ref b, .ref x, .ref (x + 87), .int (nI (6 * i))] [] M z := by
  refine z_aload_n (q := 391) (lk_1 rfl rfl) rfl rfl ?_
  refine zs_arg (q := 396) (j := 1) (lk_1 rfl rfl) (lk_1 rfl rfl) (lk_1 rfl rfl) (lk_1 rfl rfl) (lk_1 rfl rfl) rfl rfl (by omega) hn ?_
  refine z_cv1qi (q := 399) (lk_1 rfl rfl) rfl rfl (X_k h.1) (c_count h) (fun v M1 g => ?_)
  obtain ⟨g1, g2⟩ := g
  refine z_aload_n (q := 400) (lk_1 rfl rfl) rfl rfl ?_
  refine zs_arg (q := 405) (j := 1) (lk_1 rfl rfl) (lk_1 rfl rfl) (lk_1 rfl rfl) (lk_1 rfl rfl) (lk_1 rfl rfl) rfl rfl (by omega) hn ?_
  refine z_cv1qi (q := 408) (lk_1 rfl rfl) rfl rfl (by rw [g1]; exact Mo_k h.2.1) g2 (fun v2 M2 g3 => ?_)
  obtain ⟨rfl, g4⟩ := g3
  refine z_ic_eq (q := 411) (lk_1 rfl rfl) rfl (fun _ => hk M2 g4) (fun hne => absurd rfl hne)
theorem k_cell {b n : Nat} {f : Nat → Int32} {sa : Nat → Nat} {d : Nat} {B : Nat × Nat} {Q : mz_P} {z : Nat × Nat} {x T p r : Nat} {M : mz_M} (h : iV x T p r M) {i : Nat} (hi : 6 * i + 6 ≤ n) (hn : n ≤ 3072) (hk : ∀ M2, (∃ p r, iV x T p r M2) → zw (some (b, n, f)) sa (d + 16) ym_Law_law B Q 1834 [.ref b, .ref x, .ref (x + 87), .int (nI (6 * i))] [] M2 z) : zw (some (b, n, f)) sa (d + 16) ym_Law_law B Q 413 [.ref b, .ref x, .ref (x + 87), .int (nI (6 * i))] [] M z := by
  refine z_aload_n (q := 414) (lk_1 rfl rfl) rfl rfl ?_
  refine zs_arg (q := 419) (j := 1) (lk_1 rfl rfl) (lk_1 rfl rfl) (lk_1 rfl rfl) (lk_1 rfl rfl) (lk_1 rfl rfl) rfl rfl (by omega) hn ?_
  refine zs_arg (q := 424) (j := 2) (lk_1 rfl rfl) (lk_1 rfl rfl) (lk_1 rfl rfl) (lk_1 rfl rfl) (lk_1 rfl rfl) rfl rfl (by omega) hn ?_
  refine z_cv2qi (q := 427) (lk_1 rfl rfl) rfl rfl (X_k h.1) (c_cell h) (fun v M1 g => ?_)
  obtain ⟨g1, g2⟩ := g
  refine z_aload_n (q := 428) (lk_1 rfl rfl) rfl rfl ?_
  refine zs_arg (q := 433) (j := 1) (lk_1 rfl rfl) (lk_1 rfl rfl) (lk_1 rfl rfl) (lk_1 rfl rfl) (lk_1 rfl rfl) rfl rfl (by omega) hn ?_
  refine zs_arg (q := 438) (j := 2) (lk_1 rfl rfl) (lk_1 rfl rfl) (lk_1 rfl rfl) (lk_1 rfl rfl) (lk_1 rfl rfl) rfl rfl (by omega) hn ?_
  refine z_cv2qi (q := 441) (lk_1 rfl rfl) rfl rfl (by rw [g1]; exact Mo_k h.2.1) g2 (fun v2 M2 g3 => ?_)
  obtain ⟨rfl, g4⟩ := g3
  refine z_ic_eq (q := 444) (lk_1 rfl rfl) rfl (fun _ => hk M2 g4) (fun hne => absurd rfl hne)
theorem k_version {b n : Nat} {f : Nat → Int32} {sa : Nat → Nat} {d : Nat} {B : Nat × Nat} {Q : mz_P} {z : Nat × Nat} {x T p r : Nat} {M : mz_M} (h : iV x T p r M) {i : Nat} (hi : 6 * i + 6 ≤ n) (hn : n ≤ 3072) (hk : ∀ M2, (∃ p r, iV x T p r M2) → zw (some (b, n, f)) sa (d + 16) ym_Law_law B Q 1834 [.ref b, .ref x, .ref (x + 87), .int (nI (6 * i))] [] M2 z) : zw (some (b, n, f)) sa (d + 16) ym_Law_law B Q 446 [.ref b, .ref x, .ref (x + 87), .int (nI (6 * i))] [] M z := by
  refine z_aload_n (q := 447) (lk_1 rfl rfl) rfl rfl ?_
  refine zs_arg (q := 452) (j := 1) (lk_1 rfl rfl) (lk_1 rfl rfl) (lk_1 rfl rfl) (lk_1 rfl rfl) (lk_1 rfl rfl) rfl rfl (by omega) hn ?_
  refine zs_arg (q := 457) (j := 2) (lk_1 rfl rfl) (lk_1 rfl rfl) (lk_1 rfl rfl) (lk_1 rfl rfl) (lk_1 rfl rfl) rfl rfl (by omega) hn ?_
  refine z_cv2qi (q := 460) (lk_1 rfl rfl) rfl rfl (X_k h.1) (c_version h) (fun v M1 g => ?_)
  obtain ⟨g1, g2⟩ := g
  refine z_aload_n (q := 461) (lk_1 rfl rfl) rfl rfl ?_
  refine zs_arg (q := 466) (j := 1) (lk_1 rfl rfl) (lk_1 rfl rfl) (lk_1 rfl rfl) (lk_1 rfl rfl) (lk_1 rfl rfl) rfl rfl (by omega) hn ?_
  refine zs_arg (q := 471) (j := 2) (lk_1 rfl rfl) (lk_1 rfl rfl) (lk_1 rfl rfl) (lk_1 rfl rfl) (lk_1 rfl rfl) rfl rfl (by omega) hn ?_
  refine z_cv2qi (q := 474) (lk_1 rfl rfl) rfl rfl (by rw [g1]; exact Mo_k h.2.1) g2 (fun v2 M2 g3 => ?_)
  obtain ⟨rfl, g4⟩ := g3
  refine z_ic_eq (q := 477) (lk_1 rfl rfl) rfl (fun _ => hk M2 g4) (fun hne => absurd rfl hne)
theorem k_unlike {b n : Nat} {f : Nat → Int32} {sa : Nat → Nat} {d : Nat} {B : Nat × Nat} {Q : mz_P} {z : Nat × Nat} {x T p r : Nat} {M : mz_M} (h : iV x T p r M) {i : Nat} (hi : 6 * i + 6 ≤ n) (hn : n ≤ 3072) (hk : ∀ M2, (∃ p r, iV x T p r M2) → zw (some (b, n, f)) sa (d + 16) ym_Law_law B Q 1834 [.ref b, .ref x, .ref (x + 87), .int (nI (6 * i))] [] M2 z) : zw (some (b, n, f)) sa (d + 16) ym_Law_law B Q 479 [.ref b, .ref x, .ref (x + 87), .int (nI (6 * i))] [] M z := by
  refine z_aload_n (q := 480) (lk_1 rfl rfl) rfl rfl ?_
  refine zs_arg (q := 485) (j := 1) (lk_1 rfl rfl) (lk_1 rfl rfl) (lk_1 rfl rfl) (lk_1 rfl rfl) (lk_1 rfl rfl) rfl rfl (by omega) hn ?_
  refine zs_arg (q := 490) (j := 2) (lk_1 rfl rfl) (lk_1 rfl rfl) (lk_1 rfl rfl) (lk_2 rfl rfl) (lk_2 rfl rfl) rfl rfl (by omega) hn ?_
  refine z_cv2qi (q := 493) (lk_2 rfl rfl) rfl rfl (X_k h.1) (c_unlike h) (fun v M1 g => ?_)
  obtain ⟨g1, g2⟩ := g
  refine z_aload_n (q := 494) (lk_2 rfl rfl) rfl rfl ?_
  refine zs_arg (q := 499) (j := 1) (lk_2 rfl rfl) (lk_2 rfl rfl) (lk_2 rfl rfl) (lk_2 rfl rfl) (lk_2 rfl rfl) rfl rfl (by omega) hn ?_
  refine zs_arg (q := 504) (j := 2) (lk_2 rfl rfl) (lk_2 rfl rfl) (lk_2 rfl rfl) (lk_2 rfl rfl) (lk_2 rfl rfl) rfl rfl (by omega) hn ?_
  refine z_cv2qi (q := 507) (lk_2 rfl rfl) rfl rfl (by rw [g1]; exact Mo_k h.2.1) g2 (fun v2 M2 g3 => ?_)
  obtain ⟨rfl, g4⟩ := g3
  refine z_ic_eq (q := 510) (lk_2 rfl rfl) rfl (fun _ => hk M2 g4) (fun hne => absurd rfl hne)
theorem k_first {b n : Nat} {f : Nat → Int32} {sa : Nat → Nat} {d : Nat} {B : Nat × Nat} {Q : mz_P} {z : Nat × Nat} {x T p r : Nat} {M : mz_M} (h : iV x T p r M) {i : Nat} (hi : 6 * i + 6 ≤ n) (hn : n ≤ 3072) (hk : ∀ M2, (∃ p r, iV x T p r M2) → zw (some (b, n, f)) sa (d + 16) ym_Law_law B Q 1834 [.ref b, .ref x, .ref (x + 87), .int (nI (6 * i))] [] M2 z) : zw (some (b, n, f)) sa (d + 16) ym_Law_law B Q 512 [.ref b, .ref x, .ref (x + 87), .int (nI (6 * i))] [] M z := by
  refine z_aload_n (q := 513) (lk_2 rfl rfl) rfl rfl ?_
  refine zs_arg (q := 518) (j := 1) (lk_2 rfl rfl) (lk_2 rfl rfl) (lk_2 rfl rfl) (lk_2 rfl rfl) (lk_2 rfl rfl) rfl rfl (by omega) hn ?_
  refine z_cv1qi (q := 521) (lk_2 rfl rfl) rfl rfl (X_k h.1) (c_first h) (fun v M1 g => ?_)
  obtain ⟨g1, g2⟩ := g
  refine z_aload_n (q := 522) (lk_2 rfl rfl) rfl rfl ?_
  refine zs_arg (q := 527) (j := 1) (lk_2 rfl rfl) (lk_2 rfl rfl) (lk_2 rfl rfl) (lk_2 rfl rfl) (lk_2 rfl rfl) rfl rfl (by omega) hn ?_
  refine z_cv1qi (q := 530) (lk_2 rfl rfl) rfl rfl (by rw [g1]; exact Mo_k h.2.1) g2 (fun v2 M2 g3 => ?_)
  obtain ⟨rfl, g4⟩ := g3
  refine z_ic_eq (q := 533) (lk_2 rfl rfl) rfl (fun _ => hk M2 g4) (fun hne => absurd rfl hne)
theorem k_meet {b n : Nat} {f : Nat → Int32} {sa : Nat → Nat} {d : Nat} {B : Nat × Nat} {Q : mz_P} {z : Nat × Nat} {x T p r : Nat} {M : mz_M} (h : iV x T p r M) {i : Nat} (hi : 6 * i + 6 ≤ n) (hn : n ≤ 3072) (hk : ∀ M2, (∃ p r, iV x T p r M2) → zw (some (b, n, f)) sa (d + 16) ym_Law_law B Q 1834 [.ref b, .ref x, .ref (x + 87), .int (nI (6 * i))] [] M2 z) : zw (some (b, n, f)) sa (d + 16) ym_Law_law B Q 535 [.ref b, .ref x, .ref (x + 87), .int (nI (6 * i))] [] M z := by
  refine z_aload_n (q := 536) (lk_2 rfl rfl) rfl rfl ?_
  refine zs_arg (q := 541) (j := 1) (lk_2 rfl rfl) (lk_2 rfl rfl) (lk_2 rfl rfl) (lk_2 rfl rfl) (lk_2 rfl rfl) rfl rfl (by omega) hn ?_
  refine zs_arg (q := 546) (j := 2) (lk_2 rfl rfl) (lk_2 rfl rfl) (lk_2 rfl rfl) (lk_2 rfl rfl) (lk_2 rfl rfl) rfl rfl (by omega) hn ?_
  refine z_cv2qi (q := 549) (lk_2 rfl rfl) rfl rfl (X_k h.1) (c_meet h) (fun v M1 g => ?_)
  obtain ⟨g1, g2⟩ := g
  refine z_aload_n (q := 550) (lk_2 rfl rfl) rfl rfl ?_
  refine zs_arg (q := 555) (j := 1) (lk_2 rfl rfl) (lk_2 rfl rfl) (lk_2 rfl rfl) (lk_2 rfl rfl) (lk_2 rfl rfl) rfl rfl (by omega) hn ?_
  refine zs_arg (q := 560) (j := 2) (lk_2 rfl rfl) (lk_2 rfl rfl) (lk_2 rfl rfl) (lk_2 rfl rfl) (lk_2 rfl rfl) rfl rfl (by omega) hn ?_
  refine z_cv2qi (q := 563) (lk_2 rfl rfl) rfl rfl (by rw [g1]; exact Mo_k h.2.1) g2 (fun v2 M2 g3 => ?_)
  obtain ⟨rfl, g4⟩ := g3
  refine z_ic_eq (q := 566) (lk_2 rfl rfl) rfl (fun _ => hk M2 g4) (fun hne => absurd rfl hne)
theorem k_apart {b n : Nat} {f : Nat → Int32} {sa : Nat → Nat} {d : Nat} {B : Nat × Nat} {Q : mz_P} {z : Nat × Nat} {x T p r : Nat} {M : mz_M} (h : iV x T p r M) {i : Nat} (hi : 6 * i + 6 ≤ n) (hn : n ≤ 3072) (hk : ∀ M2, (∃ p r, iV x T p r M2) → zw (some (b, n, f)) sa (d + 16) ym_Law_law B Q 1834 [.ref b, .ref x, .ref (x + 87), .int (nI (6 * i))] [] M2 z) : zw (some (b, n, f)) sa (d + 16) ym_Law_law B Q 568 [.ref b, .ref x, .ref (x + 87), .int (nI (6 * i))] [] M z := by
  refine z_aload_n (q := 569) (lk_2 rfl rfl) rfl rfl ?_
  refine zs_arg (q := 574) (j := 1) (lk_2 rfl rfl) (lk_2 rfl rfl) (lk_2 rfl rfl) (lk_2 rfl rfl) (lk_2 rfl rfl) rfl rfl (by omega) hn ?_
  refine zs_arg (q := 579) (j := 2) (lk_2 rfl rfl) (lk_2 rfl rfl) (lk_2 rfl rfl) (lk_2 rfl rfl) (lk_2 rfl rfl) rfl rfl (by omega) hn ?_
  refine z_cv2qi (q := 582) (lk_2 rfl rfl) rfl rfl (X_k h.1) (c_apart h) (fun v M1 g => ?_)
  obtain ⟨g1, g2⟩ := g
  refine z_aload_n (q := 583) (lk_2 rfl rfl) rfl rfl ?_
  refine zs_arg (q := 588) (j := 1) (lk_2 rfl rfl) (lk_2 rfl rfl) (lk_2 rfl rfl) (lk_2 rfl rfl) (lk_2 rfl rfl) rfl rfl (by omega) hn ?_
  refine zs_arg (q := 593) (j := 2) (lk_2 rfl rfl) (lk_2 rfl rfl) (lk_2 rfl rfl) (lk_2 rfl rfl) (lk_2 rfl rfl) rfl rfl (by omega) hn ?_
  refine z_cv2qi (q := 596) (lk_2 rfl rfl) rfl rfl (by rw [g1]; exact Mo_k h.2.1) g2 (fun v2 M2 g3 => ?_)
  obtain ⟨rfl, g4⟩ := g3
  refine z_ic_eq (q := 599) (lk_2 rfl rfl) rfl (fun _ => hk M2 g4) (fun hne => absurd rfl hne)
theorem k_root {b n : Nat} {f : Nat → Int32} {sa : Nat → Nat} {d : Nat} {B : Nat × Nat} {Q : mz_P} {z : Nat × Nat} {x T p r : Nat} {M : mz_M} (h : iV x T p r M) {i : Nat} (hi : 6 * i + 6 ≤ n) (hn : n ≤ 3072) (hk : ∀ M2, (∃ p r, iV x T p r M2) → zw (some (b, n, f)) sa (d + 16) ym_Law_law B Q 1834 [.ref b, .ref x, .ref (x + 87), .int (nI (6 * i))] [] M2 z) : zw (some (b, n, f)) sa (d + 16) ym_Law_law B Q 601 [.ref b, .ref x, .ref (x + 87), .int (nI (6 * i))] [] M z := by
  refine z_aload_n (q := 602) (lk_2 rfl rfl) rfl rfl ?_
  refine zs_arg (q := 607) (j := 1) (lk_2 rfl rfl) (lk_2 rfl rfl) (lk_2 rfl rfl) (lk_2 rfl rfl) (lk_2 rfl rfl) rfl rfl (by omega) hn ?_
  refine zs_arg (q := 612) (j := 2) (lk_2 rfl rfl) (lk_2 rfl rfl) (lk_2 rfl rfl) (lk_2 rfl rfl) (lk_2 rfl rfl) rfl rfl (by omega) hn ?_
  refine z_cv2qi (q := 615) (lk_3 rfl rfl) rfl rfl (X_k h.1) (c_root h) (fun v M1 g => ?_)
  obtain ⟨g1, g2⟩ := g
  refine z_aload_n (q := 616) (lk_3 rfl rfl) rfl rfl ?_
  refine zs_arg (q := 621) (j := 1) (lk_3 rfl rfl) (lk_3 rfl rfl) (lk_3 rfl rfl) (lk_3 rfl rfl) (lk_3 rfl rfl) rfl rfl (by omega) hn ?_
  refine zs_arg (q := 626) (j := 2) (lk_3 rfl rfl) (lk_3 rfl rfl) (lk_3 rfl rfl) (lk_3 rfl rfl) (lk_3 rfl rfl) rfl rfl (by omega) hn ?_
  refine z_cv2qi (q := 629) (lk_3 rfl rfl) rfl rfl (by rw [g1]; exact Mo_k h.2.1) g2 (fun v2 M2 g3 => ?_)
  obtain ⟨rfl, g4⟩ := g3
  refine z_ic_eq (q := 632) (lk_3 rfl rfl) rfl (fun _ => hk M2 g4) (fun hne => absurd rfl hne)
