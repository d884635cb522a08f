theorem k_search {b n : Nat} {f : Nat → Int32} {sa : Nat → Nat} {d : Nat} {B : Nat × Nat} {Q : mz_P} {z : Nat × Nat} {x T p r : Nat} {M : mz_M} (h : iV x T p r M) {i : Nat} (hi : 6 * i + 6 ≤ n) (hn : n ≤ 3072) (hk : ∀ M2, (∃ p r, iV x T p r M2) → zw (some (b, n, f)) sa (d + 16) ym_Law_law B Q 1834 [.ref b, .ref x, .ref (x + 87), .int (nI (6 * i))] [] M2 z) : zw (some (b, n, f)) sa (d + 16) ym_Law_law B Q 1160 [.ref b, .ref x, .ref (x + 87), .int (nI (6 * i))] [] M z := by
  refine z_aload_n (q := 1161) (lk_7 rfl rfl) rfl rfl ?_
  refine zs_arg (q := 1166) (j := 1) (lk_7 rfl rfl) (lk_7 rfl rfl) (lk_7 rfl rfl) (lk_7 rfl rfl) (lk_7 rfl rfl) rfl rfl (by omega) hn ?_
  refine zs_arg (q := 1171) (j := 2) (lk_7 rfl rfl) (lk_7 rfl rfl) (lk_7 rfl rfl) (lk_7 rfl rfl) (lk_7 rfl rfl) rfl rfl (by omega) hn ?_
  refine z_cv2qi (q := 1174) (lk_7 rfl rfl) rfl rfl (X_k h.1) (c_search h) (fun v M1 g => ?_)
  obtain ⟨g1, g2⟩ := g
  refine z_aload_n (q := 1175) (lk_7 rfl rfl) rfl rfl ?_
  refine zs_arg (q := 1180) (j := 1) (lk_7 rfl rfl) (lk_7 rfl rfl) (lk_7 rfl rfl) (lk_7 rfl rfl) (lk_7 rfl rfl) rfl rfl (by omega) hn ?_
  refine zs_arg (q := 1185) (j := 2) (lk_7 rfl rfl) (lk_7 rfl rfl) (lk_7 rfl rfl) (lk_7 rfl rfl) (lk_7 rfl rfl) rfl rfl (by omega) hn ?_
  refine z_cv2qi (q := 1188) (lk_7 rfl rfl) rfl rfl (by rw [g1]; exact Mo_k h.2.1) g2 (fun v2 M2 g3 => ?_)
  obtain ⟨rfl, g4⟩ := g3
  refine z_ic_eq (q := 1191) (lk_7 rfl rfl) rfl (fun _ => hk M2 g4) (fun hne => absurd rfl hne)
theorem k_searchBy {b n : Nat} {f : Nat → Int32} {sa : Nat → Nat} {d : Nat} {B : Nat × Nat} {Q : mz_P} {z : Nat × Nat} {x T p r : Nat} {M : mz_M} (h : iV x T p r M) {i : Nat} (hi : 6 * i + 6 ≤ n) (hn : n ≤ 3072) (hk : ∀ M2, (∃ p r, iV x T p r M2) → zw (some (b, n, f)) sa (d + 16) ym_Law_law B Q 1834 [.ref b, .ref x, .ref (x + 87), .int (nI (6 * i))] [] M2 z) : zw (some (b, n, f)) sa (d + 16) ym_Law_law B Q 1193 [.ref b, .ref x, .ref (x + 87), .int (nI (6 * i))] [] M z := by
  refine z_aload_n (q := 1194) (lk_7 rfl rfl) rfl rfl ?_
  refine zs_arg (q := 1199) (j := 1) (lk_7 rfl rfl) (lk_7 rfl rfl) (lk_7 rfl rfl) (lk_7 rfl rfl) (lk_7 rfl rfl) rfl rfl (by omega) hn ?_
  refine zs_arg (q := 1204) (j := 2) (lk_7 rfl rfl) (lk_7 rfl rfl) (lk_7 rfl rfl) (lk_7 rfl rfl) (lk_7 rfl rfl) rfl rfl (by omega) hn ?_
  refine z_cv2qi (q := 1207) (lk_7 rfl rfl) rfl rfl (X_k h.1) (c_searchBy h) (fun v M1 g => ?_)
  obtain ⟨g1, g2⟩ := g
  refine z_aload_n (q := 1208) (lk_7 rfl rfl) rfl rfl ?_
  refine zs_arg (q := 1213) (j := 1) (lk_7 rfl rfl) (lk_7 rfl rfl) (lk_7 rfl rfl) (lk_7 rfl rfl) (lk_7 rfl rfl) rfl rfl (by omega) hn ?_
  refine zs_arg (q := 1218) (j := 2) (lk_7 rfl rfl) (lk_7 rfl rfl) (lk_7 rfl rfl) (lk_7 rfl rfl) (lk_7 rfl rfl) rfl rfl (by omega) hn ?_
  refine z_cv2qi (q := 1221) (lk_7 rfl rfl) rfl rfl (by rw [g1]; exact Mo_k h.2.1) g2 (fun v2 M2 g3 => ?_)
  obtain ⟨rfl, g4⟩ := g3
  refine z_ic_eq (q := 1224) (lk_7 rfl rfl) rfl (fun _ => hk M2 g4) (fun hne => absurd rfl hne)
theorem k_colour {b n : Nat} {f : Nat → Int32} {sa : Nat → Nat} {d : Nat} {B : Nat × Nat} {Q : mz_P} {z : Nat × Nat} {x T p r : Nat} {M : mz_M} (h : iV x T p r M) {i : Nat} (hi : 6 * i + 6 ≤ n) (hn : n ≤ 3072) (hk : ∀ M2, (∃ p r, iV x T p r M2) → zw (some (b, n, f)) sa (d + 16) ym_Law_law B Q 1834 [.ref b, .ref x, .ref (x + 87), .int (nI (6 * i))] [] M2 z) : zw (some (b, n, f)) sa (d + 16) ym_Law_law B Q 1226 [.ref b, .ref x, .ref (x + 87), .int (nI (6 * i))] [] M z := by
  refine z_aload_n (q := 1227) (lk_7 rfl rfl) rfl rfl ?_
  refine zs_arg (q := 1232) (j := 1) (lk_7 rfl rfl) (lk_7 rfl rfl) (lk_7 rfl rfl) (lk_7 rfl rfl) (lk_7 rfl rfl) rfl rfl (by omega) hn ?_
  refine zs_arg (q := 1237) (j := 2) (lk_7 rfl rfl) (lk_7 rfl rfl) (lk_7 rfl rfl) (lk_7 rfl rfl) (lk_7 rfl rfl) rfl rfl (by omega) hn ?_
  refine z_cv2qi (q := 1240) (lk_7 rfl rfl) rfl rfl (X_k h.1) (c_colour h) (fun v M1 g => ?_)
  obtain ⟨g1, g2⟩ := g
  refine z_aload_n (q := 1241) (lk_7 rfl rfl) rfl rfl ?_
  refine zs_arg (q := 1246) (j := 1) (lk_7 rfl rfl) (lk_7 rfl rfl) (lk_7 rfl rfl) (lk_7 rfl rfl) (lk_7 rfl rfl) rfl rfl (by omega) hn ?_
  refine zs_arg (q := 1251) (j := 2) (lk_7 rfl rfl) (lk_7 rfl rfl) (lk_7 rfl rfl) (lk_7 rfl rfl) (lk_7 rfl rfl) rfl rfl (by omega) hn ?_
  refine z_cv2qi (q := 1254) (lk_7 rfl rfl) rfl rfl (by rw [g1]; exact Mo_k h.2.1) g2 (fun v2 M2 g3 => ?_)
  obtain ⟨rfl, g4⟩ := g3
  refine z_ic_eq (q := 1257) (lk_7 rfl rfl) rfl (fun _ => hk M2 g4) (fun hne => absurd rfl hne)
theorem k_colours {b n : Nat} {f : Nat → Int32} {sa : Nat → Nat} {d : Nat} {B : Nat × Nat} {Q : mz_P} {z : Nat × Nat} {x T p r : Nat} {M : mz_M} (h : iV x T p r M) {i : Nat} (hi : 6 * i + 6 ≤ n) (hn : n ≤ 3072) (hk : ∀ M2, (∃ p r, iV x T p r M2) → zw (some (b, n, f)) sa (d + 16) ym_Law_law B Q 1834 [.ref b, .ref x, .ref (x + 87), .int (nI (6 * i))] [] M2 z) : zw (some (b, n, f)) sa (d + 16) ym_Law_law B Q 1259 [.ref b, .ref x, .ref (x + 87), .int (nI (6 * i))] [] M z := by
  refine z_aload_n (q := 1260) (lk_7 rfl rfl) rfl rfl ?_
  refine z_cv0qi (q := 1263) (lk_7 rfl rfl) rfl rfl (X_k h.1) (c_colours h) (fun v M1 g => ?_)
  obtain ⟨g1, g2⟩ := g
  refine z_aload_n (q := 1264) (lk_7 rfl rfl) rfl rfl ?_
  refine z_cv0qi (q := 1267) (lk_7 rfl rfl) rfl rfl (by rw [g1]; exact Mo_k h.2.1) g2 (fun v2 M2 g3 => ?_)
  obtain ⟨rfl, g4⟩ := g3
  refine z_ic_eq (q := 1270) (lk_7 rfl rfl) rfl (fun _ => hk M2 g4) (fun hne => absurd rfl hne)
theorem k_blame {b n : Nat} {f : Nat → Int32} {sa : Nat → Nat} {d : Nat} {B : Nat × Nat} {Q : mz_P} {z : Nat × Nat} {x T p r : Nat} {M : mz_M} (h : iV x T p r M) {i : Nat} (hi : 6 * i + 6 ≤ n) (hn : n ≤ 3072) (hk : ∀ M2, (∃ p r, iV x T p r M2) → zw (some (b, n, f)) sa (d + 16) ym_Law_law B Q 1834 [.ref b, .ref x, .ref (x + 87), .int (nI (6 * i))] [] M2 z) : zw (some (b, n, f)) sa (d + 16) ym_Law_law B Q 1272 [.ref b, .ref x, .ref (x + 87), .int (nI (6 * i))] [] M z := by
  refine z_aload_n (q := 1273) (lk_7 rfl rfl) rfl rfl ?_
  refine zs_arg (q := 1278) (j := 1) (lk_7 rfl rfl) (lk_8 rfl rfl) (lk_8 rfl rfl) (lk_8 rfl rfl) (lk_8 rfl rfl) rfl rfl (by omega) hn ?_
  refine zs_arg (q := 1283) (j := 2) (lk_8 rfl rfl) (lk_8 rfl rfl) (lk_8 rfl rfl) (lk_8 rfl rfl) (lk_8 rfl rfl) rfl rfl (by omega) hn ?_
  refine z_cv2qi (q := 1286) (lk_8 rfl rfl) rfl rfl (X_k h.1) (c_blame h) (fun v M1 g => ?_)
  obtain ⟨g1, g2⟩ := g
  refine z_aload_n (q := 1287) (lk_8 rfl rfl) rfl rfl ?_
  refine zs_arg (q := 1292) (j := 1) (lk_8 rfl rfl) (lk_8 rfl rfl) (lk_8 rfl rfl) (lk_8 rfl rfl) (lk_8 rfl rfl) rfl rfl (by omega) hn ?_
  refine zs_arg (q := 1297) (j := 2) (lk_8 rfl rfl) (lk_8 rfl rfl) (lk_8 rfl rfl) (lk_8 rfl rfl) (lk_8 rfl rfl) rfl rfl (by omega) hn ?_
  refine z_cv2qi (q := 1300) (lk_8 rfl rfl) rfl rfl (by rw [g1]; exact Mo_k h.2.1) g2 (fun v2 M2 g3 => ?_)
  obtain ⟨rfl, g4⟩ := g3
  refine z_ic_eq (q := 1303) (lk_8 rfl rfl) rfl (fun _ => hk M2 g4) (fun hne => absurd rfl hne)
theorem k_often {b n : Nat} {f : Nat → Int32} {sa : Nat → Nat} {d : Nat} {B : Nat × Nat} {Q : mz_P} {z : Nat × Nat} {x T p r : Nat} {M : mz_M} (h : iV x T p r M) {i : Nat} (hi : 6 * i + 6 ≤ n) (hn : n ≤ 3072) (hk : ∀ M2, (∃ p r, iV x T p r M2) → zw (some (b, n, f)) sa (d + 16) ym_Law_law B Q 1834 [.ref b, .ref x, .ref (x + 87), .int (nI (6 * i))] [] M2 z) : zw (some (b, n, f)) sa (d + 16) ym_Law_law B Q 1305 [.ref b, .ref x, .ref (x + 87), .int (nI (6 * i))] [] M z := by
  refine z_aload_n (q := 1306) (lk_8 rfl rfl) rfl rfl ?_
  refine zs_arg (q := 1311) (j := 1) (lk_8 rfl rfl) (lk_8 rfl rfl) (lk_8 rfl rfl) (lk_8 rfl rfl) (lk_8 rfl rfl) rfl rfl (by omega) hn ?_
  refine zs_arg (q := 1316) (j := 2) (lk_8 rfl rfl) (lk_8 rfl rfl) (lk_8 rfl rfl) (lk_8 rfl rfl) (lk_8 rfl rfl) rfl rfl (by omega) hn ?_
  refine z_cv2qi (q := 1319) (lk_8 rfl rfl) rfl rfl (X_k h.1) (c_often h) (fun v M1 g => ?_)
  obtain ⟨g1, g2⟩ := g
  refine z_aload_n (q := 1320) (lk_8 rfl rfl) rfl rfl ?_
  refine zs_arg (q := 1325) (j := 1) (lk_8 rfl rfl) (lk_8 rfl rfl) (lk_8 rfl rfl) (lk_8 rfl rfl) (lk_8 rfl rfl) rfl rfl (by omega) hn ?_
  refine zs_arg (q := 1330) (j := 2) (lk_8 rfl rfl) (lk_8 rfl rfl) (lk_8 rfl rfl) (lk_8 rfl rfl) (lk_8 rfl rfl) rfl rfl (by omega) hn ?_
  refine z_cv2qi (q := 1333) (lk_8 rfl rfl) rfl rfl (by rw [g1]; exact Mo_k h.2.1) g2 (fun v2 M2 g3 => ?_)
  obtain ⟨rfl, g4⟩ := g3
  refine z_ic_eq (q := 1336) (lk_8 rfl rfl) rfl (fun _ => hk M2 g4) (fun hne => absurd rfl hne)
theorem k_merging {b n : Nat} {f : Nat → Int32} {sa : Nat → Nat} {d : Nat} {B : Nat × Nat} {Q : mz_P} {z : Nat × Nat} {x T p r : Nat} {M : mz_M} (h : iV x T p r M) {i : Nat} (hi : 6 * i + 6 ≤ n) (hn : n ≤ 3072) (hk : ∀ M2, (∃ p r, iV x T p r M2) → zw (some (b, n, f)) sa (d + 16) ym_Law_law B Q 1834 [.ref b, .ref x, .ref (x + 87), .int (nI (6 * i))] [] M2 z) : zw (some (b, n, f)) sa (d + 16) ym_Law_law B Q 1338 [.ref b, .ref x, .ref (x + 87), .int (nI (6 * i))] [] M z := by
  refine z_aload_n (q := 1339) (lk_8 rfl rfl) rfl rfl ?_
  refine zs_arg (q := 1344) (j := 1) (lk_8 rfl rfl) (lk_8 rfl rfl) (lk_8 rfl rfl) (lk_8 rfl rfl) (lk_8 rfl rfl) rfl rfl (by omega) hn ?_
  refine zs_arg (q := 1349) (j := 2) (lk_8 rfl rfl) (lk_8 rfl rfl) (lk_8 rfl rfl) (lk_8 rfl rfl) (lk_8 rfl rfl) rfl rfl (by omega) hn ?_
  refine zs_arg (q := 1354) (j := 3) (lk_8 rfl rfl) (lk_8 rfl rfl) (lk_8 rfl rfl) (lk_8 rfl rfl) (lk_8 rfl rfl) rfl rfl (by omega) hn ?_
  refine z_cv3qi (q := 1357) (lk_8 rfl rfl) rfl rfl (X_k h.1) (c_merging h) (fun v M1 g => ?_)
  obtain ⟨g1, g2⟩ := g
  refine z_aload_n (q := 1358) (lk_8 rfl rfl) rfl rfl ?_
  refine zs_arg (q := 1363) (j := 1) (lk_8 rfl rfl) (lk_8 rfl rfl) (lk_8 rfl rfl) (lk_8 rfl rfl) (lk_8 rfl rfl) rfl rfl (by omega) hn ?_
  refine zs_arg (q := 1368) (j := 2) (lk_8 rfl rfl) (lk_8 rfl rfl) (lk_8 rfl rfl) (lk_8 rfl rfl) (lk_8 rfl rfl) rfl rfl (by omega) hn ?_
  refine zs_arg (q := 1373) (j := 3) (lk_8 rfl rfl) (lk_8 rfl rfl) (lk_8 rfl rfl) (lk_8 rfl rfl) (lk_8 rfl rfl) rfl rfl (by omega) hn ?_
  refine z_cv3qi (q := 1376) (lk_8 rfl rfl) rfl rfl (by rw [g1]; exact Mo_k h.2.1) g2 (fun v2 M2 g3 => ?_)
  obtain ⟨rfl, g4⟩ := g3
  refine z_ic_eq (q := 1379) (lk_8 rfl rfl) rfl (fun _ => hk M2 g4) (fun hne => absurd rfl hne)
theorem k_merged {b n : Nat} {f : Nat → Int32} {sa : Nat → Nat} {d : Nat} {B : Nat × Nat} {Q : mz_P} {z : Nat × Nat} {x T p r : Nat} {M : mz_M} (h : iV x T p r M) {i : Nat} (hi : 6 * i + 6 ≤ n) (hn : n ≤ 3072) (hk : ∀ M2, (∃ p r, iV x T p r M2) → zw (some (b, n, f)) sa (d + 16) ym_Law_law B Q 1834 [.ref b, .ref x, .ref (x + 87), .int (nI (6 * i))] [] M2 z) : zw (some (b, n, f)) sa (d + 16) ym_Law_law B Q 1381 [.ref b, .ref x, .ref (x + 87), .int (nI (6 * i))] [] M z := by
  refine z_aload_n (q := 1382) (lk_8 rfl rfl) rfl rfl ?_
  refine zs_arg (q := 1387) (j := 1) (lk_8 rfl rfl) (lk_8 rfl rfl) (lk_8 rfl rfl) (lk_8 rfl rfl) (lk_8 rfl rfl) rfl rfl (by omega) hn ?_
  refine zs_arg (q := 1392) (j := 2) (lk_8 rfl rfl) (lk_8 rfl rfl) (lk_8 rfl rfl) (lk_8 rfl rfl) (lk_8 rfl rfl) rfl rfl (by omega) hn ?_
  refine zs_arg (q := 1397) (j := 3) (lk_9 rfl rfl) (lk_9 rfl rfl) (lk_9 rfl rfl) (lk_9 rfl rfl) (lk_9 rfl rfl) rfl rfl (by omega) hn ?_
  refine z_cv3qi (q := 1400) (lk_9 rfl rfl) rfl rfl (X_k h.1) (c_merged h) (fun v M1 g => ?_)
  obtain ⟨g1, g2⟩ := g
  refine z_aload_n (q := 1401) (lk_9 rfl rfl) rfl rfl ?_
  refine zs_arg (q := 1406) (j := 1) (lk_9 rfl rfl) (lk_9 rfl rfl) (lk_9 rfl rfl) (lk_9 rfl rfl) (lk_9 rfl rfl) rfl rfl (by omega) hn ?_
  refine zs_arg (q := 1411) (j := 2) (lk_9 rfl rfl) (lk_9 rfl rfl) (lk_9 rfl rfl) (lk_9 rfl rfl) (lk_9 rfl rfl) rfl rfl (by omega) hn ?_
  refine zs_arg (q := 1416) (j := 3) (lk_9 rfl rfl) (lk_9 rfl rfl) (lk_9 rfl rfl) (lk_9 rfl rfl) (lk_9 rfl rfl) rfl rfl (by omega) hn ?_
  refine z_cv3qi (q := 1419) (lk_9 rfl rfl) rfl rfl (by rw [g1]; exact Mo_k h.2.1) g2 (fun v2 M2 g3 => ?_)
  obtain ⟨rfl, g4⟩ := g3
  refine z_ic_eq (q := 1422) (lk_9 rfl rfl) rfl (fun _ => hk M2 g4) (fun hne => absurd rfl hne)
theorem k_merges {b n : Nat} {f : Nat → Int32} {sa : Nat → Nat} {d : Nat} {B : Nat × Nat} {Q : mz_P} {z : Nat × Nat} {x T p r : Nat} {M : mz_M} (h : iV x T p r M) {i : Nat} (hi : 6 * i + 6 ≤ n) (hn : n ≤ 3072) (hk : ∀ M2, (∃ p r, iV x T p r M2) → zw (some (b, n, f)) sa (d + 16) ym_Law_law B Q 1834 [.ref b, .ref x, .ref (x + 87), .int (nI (6 * i))] [] M2 z) : zw (some (b, n, f)) sa (d + 16) ym_Law_law B Q 1424 [.ref b, .ref x, .ref (x + 87), .int (nI (6 * i))] [] M z := by
  refine z_aload_n (q := 1425) (lk_9 rfl rfl) rfl rfl ?_
  refine zs_arg (q := 1430) (j := 1) (lk_9 rfl rfl) (lk_9 rfl rfl) (lk_9 rfl rfl) (lk_9 rfl rfl) (lk_9 rfl rfl) rfl rfl (by omega) hn ?_
  refine zs_arg (q := 1435) (j := 2) (lk_9 rfl rfl) (lk_9 rfl rfl) (lk_9 rfl rfl) (lk_9 rfl rfl) (lk_9 rfl rfl) rfl rfl (by omega) hn ?_
  refine z_cv2qi (q := 1438) (lk_9 rfl rfl) rfl rfl (X_k h.1) (c_merges h) (fun v M1 g => ?_)
  obtain ⟨g1, g2⟩ := g
  refine z_aload_n (q := 1439) (lk_9 rfl rfl) rfl rfl ?_
  refine zs_arg (q := 1444) (j := 1) (lk_9 rfl rfl) (lk_9 rfl rfl) (lk_9 rfl rfl) (lk_9 rfl rfl) (lk_9 rfl rfl) rfl rfl (by omega) hn ?_
  refine zs_arg (q := 1449) (j := 2) (lk_9 rfl rfl) (lk_9 rfl rfl) (lk_9 rfl rfl) (lk_9 rfl rfl) (lk_9 rfl rfl) rfl rfl (by omega) hn ?_
  refine z_cv2qi (q := 1452) (lk_9 rfl rfl) rfl rfl (by rw [g1]; exact Mo_k h.2.1) g2 (fun v2 M2 g3 => ?_)
  obtain ⟨rfl, g4⟩ := g3
  refine z_ic_eq (q := 1455) (lk_9 rfl rfl) rfl (fun _ => hk M2 g4) (fun hne => absurd rfl hne)
theorem k_patching {b n : Nat} {f : Nat → Int32} {sa : Nat → Nat} {d : Nat} {B : Nat × Nat} {Q : mz_P} {z : Nat × Nat} {x T p r : Nat} {M : mz_M} (h : iV x T p r M) {i : Nat} (hi : 6 * i + 6 ≤ n) (hn : n ≤ 3072) (hk : ∀ M2, (∃ p r, iV x T p r M2) → zw (some (b, n, f)) sa (d + 16) ym_Law_law B Q 1834 [.ref b, .ref x, .ref (x + 87), .int (nI (6 * i))] [] M2 z) : zw (some (b, n, f)) sa (d + 16) ym_Law_law B Q 1457 [.ref b, .ref x, .ref (x + 87), .int (nI (6 * i))] [] M z := by
  refine z_aload_n (q := 1458) (lk_9 rfl rfl) rfl rfl ?_
  refine zs_arg (q := 1463) (j := 1) (lk_9 rfl rfl) (lk_9 rfl rfl) (lk_9 rfl rfl) (lk_9 rfl rfl) (lk_9 rfl rfl) rfl rfl (by omega) hn ?_
  refine zs_arg (q := 1468) (j := 2) (lk_9 rfl rfl) (lk_9 rfl rfl) (lk_9 rfl rfl) (lk_9 rfl rfl) (lk_9 rfl rfl) rfl rfl (by omega) hn ?_
  refine zs_arg (q := 1473) (j := 3) (lk_9 rfl rfl) (lk_9 rfl rfl) (lk_9 rfl rfl) (lk_9 rfl rfl) (lk_9 rfl rfl) rfl rfl (by omega) hn ?_
  refine z_cv3qi (q := 1476) (lk_9 rfl rfl) rfl rfl (X_k h.1) (c_patching h) (fun v M1 g => ?_)
  obtain ⟨g1, g2⟩ := g
  refine z_aload_n (q := 1477) (lk_9 rfl rfl) rfl rfl ?_
  refine zs_arg (q := 1482) (j := 1) (lk_9 rfl rfl) (lk_9 rfl rfl) (lk_9 rfl rfl) (lk_9 rfl rfl) (lk_9 rfl rfl) rfl rfl (by omega) hn ?_
  refine zs_arg (q := 1487) (j := 2) (lk_9 rfl rfl) (lk_9 rfl rfl) (lk_9 rfl rfl) (lk_9 rfl rfl) (lk_9 rfl rfl) rfl rfl (by omega) hn ?_
  refine zs_arg (q := 1492) (j := 3) (lk_9 rfl rfl) (lk_9 rfl rfl) (lk_9 rfl rfl) (lk_9 rfl rfl) (lk_9 rfl rfl) rfl rfl (by omega) hn ?_
  refine z_cv3qi (q := 1495) (lk_9 rfl rfl) rfl rfl (by rw [g1]; exact Mo_k h.2.1) g2 (fun v2 M2 g3 => ?_)
  obtain ⟨rfl, g4⟩ := g3
  refine z_ic_eq (q := 1498) (lk_9 rfl rfl) rfl (fun _ => hk M2 g4) (fun hne => absurd rfl hne)
theorem k_patches {b n : Nat} {f : Nat → Int32} {sa : Nat → Nat} {d : Nat} {B : Nat × Nat} {Q : mz_P} {z : Nat × Nat} {x T p r : Nat} {M : mz_M} (h : iV x T p r M) {i : Nat} (hi : 6 * i + 6 ≤ n) (hn : n ≤ 3072) (hk : ∀ M2, (∃ p r, iV x T p r M2) → zw (some (b, n, f)) sa (d + 16) ym_Law_law B Q 1834 [.ref b, .ref x, .ref (x + 87), .int (nI (6 * i))] [] M2 z) : zw (some (b, n, f)) sa (d + 16) ym_Law_law B Q 1500 [.ref b, .ref x, .ref (x + 87), .int (nI (6 * i))] [] M z := by
  refine z_aload_n (q := 1501) (lk_9 rfl rfl) rfl rfl ?_
  refine zs_arg (q := 1506) (j := 1) (lk_9 rfl rfl) (lk_9 rfl rfl) (lk_9 rfl rfl) (lk_9 rfl rfl) (lk_9 rfl rfl) rfl rfl (by omega) hn ?_
  refine zs_arg (q := 1511) (j := 2) (lk_9 rfl rfl) (lk_9 rfl rfl) (lk_9 rfl rfl) (lk_9 rfl rfl) (lk_10 rfl rfl) rfl rfl (by omega) hn ?_
  refine zs_arg (q := 1516) (j := 3) (lk_10 rfl rfl) (lk_10 rfl rfl) (lk_10 rfl rfl) (lk_10 rfl rfl) (lk_10 rfl rfl) rfl rfl (by omega) hn ?_
  refine z_cv3qi (q := 1519) (lk_10 rfl rfl) rfl rfl (X_k h.1) (c_patches h) (fun v M1 g => ?_)
  obtain ⟨g1, g2⟩ := g
  refine z_aload_n (q := 1520) (lk_10 rfl rfl) rfl rfl ?_
  refine zs_arg (q := 1525) (j := 1) (lk_10 rfl rfl) (lk_10 rfl rfl) (lk_10 rfl rfl) (lk_10 rfl rfl) (lk_10 rfl rfl) rfl rfl (by omega) hn ?_
  refine zs_arg (q := 1530) (j := 2) (lk_10 rfl rfl) (lk_10 rfl rfl) (lk_10 rfl rfl) (lk_10 rfl rfl) (lk_10 rfl rfl) rfl rfl (by omega) hn ?_
  refine zs_arg (q := 1535) (j := 3) (lk_10 rfl rfl) (lk_10 rfl rfl) (lk_10 rfl rfl) (lk_10 rfl rfl) (lk_10 rfl rfl) rfl rfl (by omega) hn ?_
  refine z_cv3qi (q := 1538) (lk_10 rfl rfl) rfl rfl (by rw [g1]; exact Mo_k h.2.1) g2 (fun v2 M2 g3 => ?_)
  obtain ⟨rfl, g4⟩ := g3
  refine z_ic_eq (q := 1541) (lk_10 rfl rfl) rfl (fun _ => hk M2 g4) (fun hne => absurd rfl hne)
