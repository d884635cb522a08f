theorem k_cost {b n : Nat} {f : Nat → Int32} {sa : Nat → Nat} {d : Nat} {B : Nat × Nat} {Q : mz_P} {z : Nat × Nat} {x T p r : Nat} {M : mz_M} (h : iV x T p r M) {i : Nat} (hi : 6 * i + 6 ≤ n) (hn : n ≤ 3072) (hk : ∀ M2, (∃ p r, iV x T p r M2) → zw (some (b, n, f)) sa (d + 16) ym_Law_law B Q 1834 [.ref b, .ref x, .ref (x + 87), .int (nI (6 * i))] [] M2 z) : zw (some (b, n, f)) sa (d + 16) ym_Law_law B Q 870 [.ref b, .ref x, .ref (x + 87), .int (nI (6 * i))] [] M z := by
  refine z_aload_n (q := 871) (lk_4 rfl rfl) rfl rfl ?_
  refine zs_arg (q := 876) (j := 1) (lk_4 rfl rfl) (lk_4 rfl rfl) (lk_4 rfl rfl) (lk_4 rfl rfl) (lk_4 rfl rfl) rfl rfl (by omega) hn ?_
  refine zs_arg (q := 881) (j := 2) (lk_4 rfl rfl) (lk_4 rfl rfl) (lk_4 rfl rfl) (lk_4 rfl rfl) (lk_4 rfl rfl) rfl rfl (by omega) hn ?_
  refine z_cv2qi (q := 884) (lk_4 rfl rfl) rfl rfl (X_k h.1) (c_cost h) (fun v M1 g => ?_)
  obtain ⟨g1, g2⟩ := g
  refine z_aload_n (q := 885) (lk_4 rfl rfl) rfl rfl ?_
  refine zs_arg (q := 890) (j := 1) (lk_4 rfl rfl) (lk_4 rfl rfl) (lk_4 rfl rfl) (lk_4 rfl rfl) (lk_4 rfl rfl) rfl rfl (by omega) hn ?_
  refine zs_arg (q := 895) (j := 2) (lk_4 rfl rfl) (lk_4 rfl rfl) (lk_5 rfl rfl) (lk_5 rfl rfl) (lk_5 rfl rfl) rfl rfl (by omega) hn ?_
  refine z_cv2qi (q := 898) (lk_5 rfl rfl) rfl rfl (by rw [g1]; exact Mo_k h.2.1) g2 (fun v2 M2 g3 => ?_)
  obtain ⟨rfl, g4⟩ := g3
  refine z_ic_eq (q := 901) (lk_5 rfl rfl) rfl (fun _ => hk M2 g4) (fun hne => absurd rfl hne)
theorem k_by {b n : Nat} {f : Nat → Int32} {sa : Nat → Nat} {d : Nat} {B : Nat × Nat} {Q : mz_P} {z : Nat × Nat} {x T p r : Nat} {M : mz_M} (h : iV x T p r M) {i : Nat} (hi : 6 * i + 6 ≤ n) (hn : n ≤ 3072) (hk : ∀ M2, (∃ p r, iV x T p r M2) → zw (some (b, n, f)) sa (d + 16) ym_Law_law B Q 1834 [.ref b, .ref x, .ref (x + 87), .int (nI (6 * i))] [] M2 z) : zw (some (b, n, f)) sa (d + 16) ym_Law_law B Q 903 [.ref b, .ref x, .ref (x + 87), .int (nI (6 * i))] [] M z := by
  refine z_aload_n (q := 904) (lk_5 rfl rfl) rfl rfl ?_
  refine zs_arg (q := 909) (j := 1) (lk_5 rfl rfl) (lk_5 rfl rfl) (lk_5 rfl rfl) (lk_5 rfl rfl) (lk_5 rfl rfl) rfl rfl (by omega) hn ?_
  refine z_cv1qi (q := 912) (lk_5 rfl rfl) rfl rfl (X_k h.1) (c_by h) (fun v M1 g => ?_)
  obtain ⟨g1, g2⟩ := g
  refine z_aload_n (q := 913) (lk_5 rfl rfl) rfl rfl ?_
  refine zs_arg (q := 918) (j := 1) (lk_5 rfl rfl) (lk_5 rfl rfl) (lk_5 rfl rfl) (lk_5 rfl rfl) (lk_5 rfl rfl) rfl rfl (by omega) hn ?_
  refine z_cv1qi (q := 921) (lk_5 rfl rfl) rfl rfl (by rw [g1]; exact Mo_k h.2.1) g2 (fun v2 M2 g3 => ?_)
  obtain ⟨rfl, g4⟩ := g3
  refine z_ic_eq (q := 924) (lk_5 rfl rfl) rfl (fun _ => hk M2 g4) (fun hne => absurd rfl hne)
theorem k_cutting {b n : Nat} {f : Nat → Int32} {sa : Nat → Nat} {d : Nat} {B : Nat × Nat} {Q : mz_P} {z : Nat × Nat} {x T p r : Nat} {M : mz_M} (h : iV x T p r M) {i : Nat} (hi : 6 * i + 6 ≤ n) (hn : n ≤ 3072) (hk : ∀ M2, (∃ p r, iV x T p r M2) → zw (some (b, n, f)) sa (d + 16) ym_Law_law B Q 1834 [.ref b, .ref x, .ref (x + 87), .int (nI (6 * i))] [] M2 z) : zw (some (b, n, f)) sa (d + 16) ym_Law_law B Q 926 [.ref b, .ref x, .ref (x + 87), .int (nI (6 * i))] [] M z := by
  refine z_aload_n (q := 927) (lk_5 rfl rfl) rfl rfl ?_
  refine zs_arg (q := 932) (j := 1) (lk_5 rfl rfl) (lk_5 rfl rfl) (lk_5 rfl rfl) (lk_5 rfl rfl) (lk_5 rfl rfl) rfl rfl (by omega) hn ?_
  refine z_cv1qi (q := 935) (lk_5 rfl rfl) rfl rfl (X_k h.1) (c_cutting h) (fun v M1 g => ?_)
  obtain ⟨g1, g2⟩ := g
  refine z_aload_n (q := 936) (lk_5 rfl rfl) rfl rfl ?_
  refine zs_arg (q := 941) (j := 1) (lk_5 rfl rfl) (lk_5 rfl rfl) (lk_5 rfl rfl) (lk_5 rfl rfl) (lk_5 rfl rfl) rfl rfl (by omega) hn ?_
  refine z_cv1qi (q := 944) (lk_5 rfl rfl) rfl rfl (by rw [g1]; exact Mo_k h.2.1) g2 (fun v2 M2 g3 => ?_)
  obtain ⟨rfl, g4⟩ := g3
  refine z_ic_eq (q := 947) (lk_5 rfl rfl) rfl (fun _ => hk M2 g4) (fun hne => absurd rfl hne)
theorem k_cut {b n : Nat} {f : Nat → Int32} {sa : Nat → Nat} {d : Nat} {B : Nat × Nat} {Q : mz_P} {z : Nat × Nat} {x T p r : Nat} {M : mz_M} (h : iV x T p r M) {i : Nat} (hi : 6 * i + 6 ≤ n) (hn : n ≤ 3072) (hk : ∀ M2, (∃ p r, iV x T p r M2) → zw (some (b, n, f)) sa (d + 16) ym_Law_law B Q 1834 [.ref b, .ref x, .ref (x + 87), .int (nI (6 * i))] [] M2 z) : zw (some (b, n, f)) sa (d + 16) ym_Law_law B Q 949 [.ref b, .ref x, .ref (x + 87), .int (nI (6 * i))] [] M z := by
  refine z_aload_n (q := 950) (lk_5 rfl rfl) rfl rfl ?_
  refine z_cv0qi (q := 953) (lk_5 rfl rfl) rfl rfl (X_k h.1) (c_cut h) (fun v M1 g => ?_)
  obtain ⟨g1, g2⟩ := g
  refine z_aload_n (q := 954) (lk_5 rfl rfl) rfl rfl ?_
  refine z_cv0qi (q := 957) (lk_5 rfl rfl) rfl rfl (by rw [g1]; exact Mo_k h.2.1) g2 (fun v2 M2 g3 => ?_)
  obtain ⟨rfl, g4⟩ := g3
  refine z_ic_eq (q := 960) (lk_5 rfl rfl) rfl (fun _ => hk M2 g4) (fun hne => absurd rfl hne)
theorem k_without {b n : Nat} {f : Nat → Int32} {sa : Nat → Nat} {d : Nat} {B : Nat × Nat} {Q : mz_P} {z : Nat × Nat} {x T p r : Nat} {M : mz_M} (h : iV x T p r M) {i : Nat} (hi : 6 * i + 6 ≤ n) (hn : n ≤ 3072) (hk : ∀ M2, (∃ p r, iV x T p r M2) → zw (some (b, n, f)) sa (d + 16) ym_Law_law B Q 1834 [.ref b, .ref x, .ref (x + 87), .int (nI (6 * i))] [] M2 z) : zw (some (b, n, f)) sa (d + 16) ym_Law_law B Q 962 [.ref b, .ref x, .ref (x + 87), .int (nI (6 * i))] [] M z := by
  refine z_aload_n (q := 963) (lk_5 rfl rfl) rfl rfl ?_
  refine zs_arg (q := 968) (j := 1) (lk_5 rfl rfl) (lk_5 rfl rfl) (lk_5 rfl rfl) (lk_5 rfl rfl) (lk_5 rfl rfl) rfl rfl (by omega) hn ?_
  refine z_cv1qi (q := 971) (lk_5 rfl rfl) rfl rfl (X_k h.1) (c_without h) (fun v M1 g => ?_)
  obtain ⟨g1, g2⟩ := g
  refine z_aload_n (q := 972) (lk_5 rfl rfl) rfl rfl ?_
  refine zs_arg (q := 977) (j := 1) (lk_5 rfl rfl) (lk_5 rfl rfl) (lk_5 rfl rfl) (lk_5 rfl rfl) (lk_5 rfl rfl) rfl rfl (by omega) hn ?_
  refine z_cv1qi (q := 980) (lk_5 rfl rfl) rfl rfl (by rw [g1]; exact Mo_k h.2.1) g2 (fun v2 M2 g3 => ?_)
  obtain ⟨rfl, g4⟩ := g3
  refine z_ic_eq (q := 983) (lk_5 rfl rfl) rfl (fun _ => hk M2 g4) (fun hne => absurd rfl hne)
theorem k_reads {b n : Nat} {f : Nat → Int32} {sa : Nat → Nat} {d : Nat} {B : Nat × Nat} {Q : mz_P} {z : Nat × Nat} {x T p r : Nat} {M : mz_M} (h : iV x T p r M) {i : Nat} (hi : 6 * i + 6 ≤ n) (hn : n ≤ 3072) (hk : ∀ M2, (∃ p r, iV x T p r M2) → zw (some (b, n, f)) sa (d + 16) ym_Law_law B Q 1834 [.ref b, .ref x, .ref (x + 87), .int (nI (6 * i))] [] M2 z) : zw (some (b, n, f)) sa (d + 16) ym_Law_law B Q 985 [.ref b, .ref x, .ref (x + 87), .int (nI (6 * i))] [] M z := by
  refine z_aload_n (q := 986) (lk_5 rfl rfl) rfl rfl ?_
  refine zs_arg (q := 991) (j := 1) (lk_5 rfl rfl) (lk_5 rfl rfl) (lk_5 rfl rfl) (lk_5 rfl rfl) (lk_5 rfl rfl) rfl rfl (by omega) hn ?_
  refine zs_arg (q := 996) (j := 2) (lk_5 rfl rfl) (lk_5 rfl rfl) (lk_5 rfl rfl) (lk_5 rfl rfl) (lk_5 rfl rfl) rfl rfl (by omega) hn ?_
  refine z_cv2qi (q := 999) (lk_5 rfl rfl) rfl rfl (X_k h.1) (c_reads h) (fun v M1 g => ?_)
  obtain ⟨g1, g2⟩ := g
  refine z_aload_n (q := 1000) (lk_5 rfl rfl) rfl rfl ?_
  refine zs_arg (q := 1005) (j := 1) (lk_5 rfl rfl) (lk_5 rfl rfl) (lk_5 rfl rfl) (lk_5 rfl rfl) (lk_5 rfl rfl) rfl rfl (by omega) hn ?_
  refine zs_arg (q := 1010) (j := 2) (lk_5 rfl rfl) (lk_5 rfl rfl) (lk_5 rfl rfl) (lk_5 rfl rfl) (lk_5 rfl rfl) rfl rfl (by omega) hn ?_
  refine z_cv2qi (q := 1013) (lk_5 rfl rfl) rfl rfl (by rw [g1]; exact Mo_k h.2.1) g2 (fun v2 M2 g3 => ?_)
  obtain ⟨rfl, g4⟩ := g3
  refine z_ic_eq (q := 1016) (lk_5 rfl rfl) rfl (fun _ => hk M2 g4) (fun hne => absurd rfl hne)
theorem k_sets {b n : Nat} {f : Nat → Int32} {sa : Nat → Nat} {d : Nat} {B : Nat × Nat} {Q : mz_P} {z : Nat × Nat} {x T p r : Nat} {M : mz_M} (h : iV x T p r M) {i : Nat} (hi : 6 * i + 6 ≤ n) (hn : n ≤ 3072) (hk : ∀ M2, (∃ p r, iV x T p r M2) → zw (some (b, n, f)) sa (d + 16) ym_Law_law B Q 1834 [.ref b, .ref x, .ref (x + 87), .int (nI (6 * i))] [] M2 z) : zw (some (b, n, f)) sa (d + 16) ym_Law_law B Q 1018 [.ref b, .ref x, .ref (x + 87), .int (nI (6 * i))] [] M z := by
  refine z_aload_n (q := 1019) (lk_5 rfl rfl) rfl rfl ?_
  refine zs_arg (q := 1024) (j := 1) (lk_5 rfl rfl) (lk_5 rfl rfl) (lk_5 rfl rfl) (lk_5 rfl rfl) (lk_5 rfl rfl) rfl rfl (by omega) hn ?_
  refine zs_arg (q := 1029) (j := 2) (lk_5 rfl rfl) (lk_5 rfl rfl) (lk_6 rfl rfl) (lk_6 rfl rfl) (lk_6 rfl rfl) rfl rfl (by omega) hn ?_
  refine zs_arg (q := 1034) (j := 3) (lk_6 rfl rfl) (lk_6 rfl rfl) (lk_6 rfl rfl) (lk_6 rfl rfl) (lk_6 rfl rfl) rfl rfl (by omega) hn ?_
  refine z_cv3qi (q := 1037) (lk_6 rfl rfl) rfl rfl (X_k h.1) (c_sets h) (fun v M1 g => ?_)
  obtain ⟨g1, g2⟩ := g
  refine z_aload_n (q := 1038) (lk_6 rfl rfl) rfl rfl ?_
  refine zs_arg (q := 1043) (j := 1) (lk_6 rfl rfl) (lk_6 rfl rfl) (lk_6 rfl rfl) (lk_6 rfl rfl) (lk_6 rfl rfl) rfl rfl (by omega) hn ?_
  refine zs_arg (q := 1048) (j := 2) (lk_6 rfl rfl) (lk_6 rfl rfl) (lk_6 rfl rfl) (lk_6 rfl rfl) (lk_6 rfl rfl) rfl rfl (by omega) hn ?_
  refine zs_arg (q := 1053) (j := 3) (lk_6 rfl rfl) (lk_6 rfl rfl) (lk_6 rfl rfl) (lk_6 rfl rfl) (lk_6 rfl rfl) rfl rfl (by omega) hn ?_
  refine z_cv3qi (q := 1056) (lk_6 rfl rfl) rfl rfl (by rw [g1]; exact Mo_k h.2.1) g2 (fun v2 M2 g3 => ?_)
  obtain ⟨rfl, g4⟩ := g3
  refine z_ic_eq (q := 1059) (lk_6 rfl rfl) rfl (fun _ => hk M2 g4) (fun hne => absurd rfl hne)
theorem k_joins {b n : Nat} {f : Nat → Int32} {sa : Nat → Nat} {d : Nat} {B : Nat × Nat} {Q : mz_P} {z : Nat × Nat} {x T p r : Nat} {M : mz_M} (h : iV x T p r M) {i : Nat} (hi : 6 * i + 6 ≤ n) (hn : n ≤ 3072) (hk : ∀ M2, (∃ p r, iV x T p r M2) → zw (some (b, n, f)) sa (d + 16) ym_Law_law B Q 1834 [.ref b, .ref x, .ref (x + 87), .int (nI (6 * i))] [] M2 z) : zw (some (b, n, f)) sa (d + 16) ym_Law_law B Q 1061 [.ref b, .ref x, .ref (x + 87), .int (nI (6 * i))] [] M z := by
  refine z_aload_n (q := 1062) (lk_6 rfl rfl) rfl rfl ?_
  refine zs_arg (q := 1067) (j := 1) (lk_6 rfl rfl) (lk_6 rfl rfl) (lk_6 rfl rfl) (lk_6 rfl rfl) (lk_6 rfl rfl) rfl rfl (by omega) hn ?_
  refine zs_arg (q := 1072) (j := 2) (lk_6 rfl rfl) (lk_6 rfl rfl) (lk_6 rfl rfl) (lk_6 rfl rfl) (lk_6 rfl rfl) rfl rfl (by omega) hn ?_
  refine zs_arg (q := 1077) (j := 3) (lk_6 rfl rfl) (lk_6 rfl rfl) (lk_6 rfl rfl) (lk_6 rfl rfl) (lk_6 rfl rfl) rfl rfl (by omega) hn ?_
  refine z_cv3qi (q := 1080) (lk_6 rfl rfl) rfl rfl (X_k h.1) (c_joins h) (fun v M1 g => ?_)
  obtain ⟨g1, g2⟩ := g
  refine z_aload_n (q := 1081) (lk_6 rfl rfl) rfl rfl ?_
  refine zs_arg (q := 1086) (j := 1) (lk_6 rfl rfl) (lk_6 rfl rfl) (lk_6 rfl rfl) (lk_6 rfl rfl) (lk_6 rfl rfl) rfl rfl (by omega) hn ?_
  refine zs_arg (q := 1091) (j := 2) (lk_6 rfl rfl) (lk_6 rfl rfl) (lk_6 rfl rfl) (lk_6 rfl rfl) (lk_6 rfl rfl) rfl rfl (by omega) hn ?_
  refine zs_arg (q := 1096) (j := 3) (lk_6 rfl rfl) (lk_6 rfl rfl) (lk_6 rfl rfl) (lk_6 rfl rfl) (lk_6 rfl rfl) rfl rfl (by omega) hn ?_
  refine z_cv3qi (q := 1099) (lk_6 rfl rfl) rfl rfl (by rw [g1]; exact Mo_k h.2.1) g2 (fun v2 M2 g3 => ?_)
  obtain ⟨rfl, g4⟩ := g3
  refine z_ic_eq (q := 1102) (lk_6 rfl rfl) rfl (fun _ => hk M2 g4) (fun hne => absurd rfl hne)
theorem k_finds {b n : Nat} {f : Nat → Int32} {sa : Nat → Nat} {d : Nat} {B : Nat × Nat} {Q : mz_P} {z : Nat × Nat} {x T p r : Nat} {M : mz_M} (h : iV x T p r M) {i : Nat} (hi : 6 * i + 6 ≤ n) (hn : n ≤ 3072) (hk : ∀ M2, (∃ p r, iV x T p r M2) → zw (some (b, n, f)) sa (d + 16) ym_Law_law B Q 1834 [.ref b, .ref x, .ref (x + 87), .int (nI (6 * i))] [] M2 z) : zw (some (b, n, f)) sa (d + 16) ym_Law_law B Q 1104 [.ref b, .ref x, .ref (x + 87), .int (nI (6 * i))] [] M z := by
  refine z_aload_n (q := 1105) (lk_6 rfl rfl) rfl rfl ?_
  refine zs_arg (q := 1110) (j := 1) (lk_6 rfl rfl) (lk_6 rfl rfl) (lk_6 rfl rfl) (lk_6 rfl rfl) (lk_6 rfl rfl) rfl rfl (by omega) hn ?_
  refine zs_arg (q := 1115) (j := 2) (lk_6 rfl rfl) (lk_6 rfl rfl) (lk_6 rfl rfl) (lk_6 rfl rfl) (lk_6 rfl rfl) rfl rfl (by omega) hn ?_
  refine z_cv2qi (q := 1118) (lk_6 rfl rfl) rfl rfl (X_k h.1) (c_finds h) (fun v M1 g => ?_)
  obtain ⟨g1, g2⟩ := g
  refine z_aload_n (q := 1119) (lk_6 rfl rfl) rfl rfl ?_
  refine zs_arg (q := 1124) (j := 1) (lk_6 rfl rfl) (lk_6 rfl rfl) (lk_6 rfl rfl) (lk_6 rfl rfl) (lk_6 rfl rfl) rfl rfl (by omega) hn ?_
  refine zs_arg (q := 1129) (j := 2) (lk_6 rfl rfl) (lk_6 rfl rfl) (lk_6 rfl rfl) (lk_6 rfl rfl) (lk_6 rfl rfl) rfl rfl (by omega) hn ?_
  refine z_cv2qi (q := 1132) (lk_6 rfl rfl) rfl rfl (by rw [g1]; exact Mo_k h.2.1) g2 (fun v2 M2 g3 => ?_)
  obtain ⟨rfl, g4⟩ := g3
  refine z_ic_eq (q := 1135) (lk_6 rfl rfl) rfl (fun _ => hk M2 g4) (fun hne => absurd rfl hne)
theorem k_snaps {b n : Nat} {f : Nat → Int32} {sa : Nat → Nat} {d : Nat} {B : Nat × Nat} {Q : mz_P} {z : Nat × Nat} {x T p r : Nat} {M : mz_M} (h : iV x T p r M) {i : Nat} (hi : 6 * i + 6 ≤ n) (hn : n ≤ 3072) (hk : ∀ M2, (∃ p r, iV x T p r M2) → zw (some (b, n, f)) sa (d + 16) ym_Law_law B Q 1834 [.ref b, .ref x, .ref (x + 87), .int (nI (6 * i))] [] M2 z) : zw (some (b, n, f)) sa (d + 16) ym_Law_law B Q 1137 [.ref b, .ref x, .ref (x + 87), .int (nI (6 * i))] [] M z := by
  refine z_aload_n (q := 1138) (lk_6 rfl rfl) rfl rfl ?_
  refine zs_arg (q := 1143) (j := 1) (lk_6 rfl rfl) (lk_6 rfl rfl) (lk_6 rfl rfl) (lk_6 rfl rfl) (lk_6 rfl rfl) rfl rfl (by omega) hn ?_
  refine z_cv1qi (q := 1146) (lk_6 rfl rfl) rfl rfl (X_k h.1) (c_snaps h) (fun v M1 g => ?_)
  obtain ⟨g1, g2⟩ := g
  refine z_aload_n (q := 1147) (lk_7 rfl rfl) rfl rfl ?_
  refine zs_arg (q := 1152) (j := 1) (lk_7 rfl rfl) (lk_7 rfl rfl) (lk_7 rfl rfl) (lk_7 rfl rfl) (lk_7 rfl rfl) rfl rfl (by omega) hn ?_
  refine z_cv1qi (q := 1155) (lk_7 rfl rfl) rfl rfl (by rw [g1]; exact Mo_k h.2.1) g2 (fun v2 M2 g3 => ?_)
  obtain ⟨rfl, g4⟩ := g3
  refine z_ic_eq (q := 1158) (lk_7 rfl rfl) rfl (fun _ => hk M2 g4) (fun hne => absurd rfl hne)
