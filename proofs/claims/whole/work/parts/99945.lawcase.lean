theorem k_keeps {b n : Nat} {f : Nat → Int32} {sa : Nat → Nat} {d : Nat} {B : Nat × Nat} {Q : mz_P} {z : Nat × Nat} {x T p r : Nat} {M : mz_M} (h : iV x T p r M) {i : Nat} (hi : 6 * i + 6 ≤ n) (hn : n ≤ 3072) (hk : ∀ M2, (∃ p r, iV x T p r M2) → zw (some (b, n, f)) sa (d + 16) ym_Law_law B Q 1834 [.ref b, .ref x, .ref (x + 87), .int (nI (6 * i))] [] M2 z) : zw (some (b, n, f)) sa (d + 16) ym_Law_law B Q 1543 [.ref b, .ref x, .ref (x + 87), .int (nI (6 * i))] [] M z := by
  refine z_aload_n (q := 1544) (lk_10 rfl rfl) rfl rfl ?_
  refine zs_arg (q := 1549) (j := 1) (lk_10 rfl rfl) (lk_10 rfl rfl) (lk_10 rfl rfl) (lk_10 rfl rfl) (lk_10 rfl rfl) rfl rfl (by omega) hn ?_
  refine z_i2l (q := 1550) (lk_10 rfl rfl) rfl ?_
  refine z_bipush (q := 1552) (v := 32) (lk_10 rfl rfl) rfl rfl ?_
  refine z_lshl (q := 1553) (lk_10 rfl rfl) rfl ?_
  refine zs_arg (q := 1558) (j := 2) (lk_10 rfl rfl) (lk_10 rfl rfl) (lk_10 rfl rfl) (lk_10 rfl rfl) (lk_10 rfl rfl) rfl rfl (by omega) hn ?_
  refine z_i2l (q := 1559) (lk_10 rfl rfl) rfl ?_
  refine z_ldc2 (q := 1562) (v := 4294967295) (lk_10 rfl rfl) rfl rfl ?_
  refine z_land (q := 1563) (lk_10 rfl rfl) rfl ?_
  refine z_lor (q := 1564) (lk_10 rfl rfl) rfl ?_
  refine z_cv1ql (q := 1567) (lk_10 rfl rfl) rfl rfl (X_k h.1) (c_keeps h) (fun v M1 g => ?_)
  obtain ⟨g1, g2⟩ := g
  refine z_aload_n (q := 1568) (lk_10 rfl rfl) rfl rfl ?_
  refine zs_arg (q := 1573) (j := 1) (lk_10 rfl rfl) (lk_10 rfl rfl) (lk_10 rfl rfl) (lk_10 rfl rfl) (lk_10 rfl rfl) rfl rfl (by omega) hn ?_
  refine z_i2l (q := 1574) (lk_10 rfl rfl) rfl ?_
  refine z_bipush (q := 1576) (v := 32) (lk_10 rfl rfl) rfl rfl ?_
  refine z_lshl (q := 1577) (lk_10 rfl rfl) rfl ?_
  refine zs_arg (q := 1582) (j := 2) (lk_10 rfl rfl) (lk_10 rfl rfl) (lk_10 rfl rfl) (lk_10 rfl rfl) (lk_10 rfl rfl) rfl rfl (by omega) hn ?_
  refine z_i2l (q := 1583) (lk_10 rfl rfl) rfl ?_
  refine z_ldc2 (q := 1586) (v := 4294967295) (lk_10 rfl rfl) rfl rfl ?_
  refine z_land (q := 1587) (lk_10 rfl rfl) rfl ?_
  refine z_lor (q := 1588) (lk_10 rfl rfl) rfl ?_
  refine z_cv1ql (q := 1591) (lk_10 rfl rfl) rfl rfl (by rw [g1]; exact Mo_k h.2.1) g2 (fun v2 M2 g3 => ?_)
  obtain ⟨rfl, g4⟩ := g3
  refine z_lcmp (q := 1592) (lk_10 rfl rfl) rfl ?_
  refine z_if_eq (q := 1595) (lk_10 rfl rfl) rfl (fun _ => hk M2 g4) (fun hne => absurd ((lg_0 _ _).mpr rfl) hne)
theorem k_room {b n : Nat} {f : Nat → Int32} {sa : Nat → Nat} {d : Nat} {B : Nat × Nat} {Q : mz_P} {z : Nat × Nat} {x T p r : Nat} {M : mz_M} (h : iV x T p r M) {i : Nat} (hi : 6 * i + 6 ≤ n) (hn : n ≤ 3072) (hk : ∀ M2, (∃ p r, iV x T p r M2) → zw (some (b, n, f)) sa (d + 16) ym_Law_law B Q 1834 [.ref b, .ref x, .ref (x + 87), .int (nI (6 * i))] [] M2 z) : zw (some (b, n, f)) sa (d + 16) ym_Law_law B Q 1597 [.ref b, .ref x, .ref (x + 87), .int (nI (6 * i))] [] M z := by
  refine z_aload_n (q := 1598) (lk_10 rfl rfl) rfl rfl ?_
  refine zs_arg (q := 1603) (j := 1) (lk_10 rfl rfl) (lk_10 rfl rfl) (lk_10 rfl rfl) (lk_10 rfl rfl) (lk_10 rfl rfl) rfl rfl (by omega) hn ?_
  refine z_i2l (q := 1604) (lk_10 rfl rfl) rfl ?_
  refine z_bipush (q := 1606) (v := 32) (lk_10 rfl rfl) rfl rfl ?_
  refine z_lshl (q := 1607) (lk_10 rfl rfl) rfl ?_
  refine zs_arg (q := 1612) (j := 2) (lk_10 rfl rfl) (lk_10 rfl rfl) (lk_10 rfl rfl) (lk_10 rfl rfl) (lk_10 rfl rfl) rfl rfl (by omega) hn ?_
  refine z_i2l (q := 1613) (lk_10 rfl rfl) rfl ?_
  refine z_ldc2 (q := 1616) (v := 4294967295) (lk_10 rfl rfl) rfl rfl ?_
  refine z_land (q := 1617) (lk_10 rfl rfl) rfl ?_
  refine z_lor (q := 1618) (lk_10 rfl rfl) rfl ?_
  refine z_cv1qi (q := 1621) (lk_10 rfl rfl) rfl rfl (X_k h.1) (c_room h) (fun v M1 g => ?_)
  obtain ⟨g1, g2⟩ := g
  refine z_aload_n (q := 1622) (lk_10 rfl rfl) rfl rfl ?_
  refine zs_arg (q := 1627) (j := 1) (lk_10 rfl rfl) (lk_10 rfl rfl) (lk_10 rfl rfl) (lk_10 rfl rfl) (lk_10 rfl rfl) rfl rfl (by omega) hn ?_
  refine z_i2l (q := 1628) (lk_10 rfl rfl) rfl ?_
  refine z_bipush (q := 1630) (v := 32) (lk_10 rfl rfl) rfl rfl ?_
  refine z_lshl (q := 1631) (lk_10 rfl rfl) rfl ?_
  refine zs_arg (q := 1636) (j := 2) (lk_10 rfl rfl) (lk_10 rfl rfl) (lk_10 rfl rfl) (lk_11 rfl rfl) (lk_11 rfl rfl) rfl rfl (by omega) hn ?_
  refine z_i2l (q := 1637) (lk_11 rfl rfl) rfl ?_
  refine z_ldc2 (q := 1640) (v := 4294967295) (lk_11 rfl rfl) rfl rfl ?_
  refine z_land (q := 1641) (lk_11 rfl rfl) rfl ?_
  refine z_lor (q := 1642) (lk_11 rfl rfl) rfl ?_
  refine z_cv1qi (q := 1645) (lk_11 rfl rfl) rfl rfl (by rw [g1]; exact Mo_k h.2.1) g2 (fun v2 M2 g3 => ?_)
  obtain ⟨rfl, g4⟩ := g3
  refine z_ic_eq (q := 1648) (lk_11 rfl rfl) rfl (fun _ => hk M2 g4) (fun hne => absurd rfl hne)
theorem k_busiest {b n : Nat} {f : Nat → Int32} {sa : Nat → Nat} {d : Nat} {B : Nat × Nat} {Q : mz_P} {z : Nat × Nat} {x T p r : Nat} {M : mz_M} (h : iV x T p r M) {i : Nat} (hi : 6 * i + 6 ≤ n) (hn : n ≤ 3072) (hk : ∀ M2, (∃ p r, iV x T p r M2) → zw (some (b, n, f)) sa (d + 16) ym_Law_law B Q 1834 [.ref b, .ref x, .ref (x + 87), .int (nI (6 * i))] [] M2 z) : zw (some (b, n, f)) sa (d + 16) ym_Law_law B Q 1650 [.ref b, .ref x, .ref (x + 87), .int (nI (6 * i))] [] M z := by
  refine z_aload_n (q := 1651) (lk_11 rfl rfl) rfl rfl ?_
  refine z_cv0qi (q := 1654) (lk_11 rfl rfl) rfl rfl (X_k h.1) (c_busiest h) (fun v M1 g => ?_)
  obtain ⟨g1, g2⟩ := g
  refine z_aload_n (q := 1655) (lk_11 rfl rfl) rfl rfl ?_
  refine z_cv0qi (q := 1658) (lk_11 rfl rfl) rfl rfl (by rw [g1]; exact Mo_k h.2.1) g2 (fun v2 M2 g3 => ?_)
  obtain ⟨rfl, g4⟩ := g3
  refine z_ic_eq (q := 1661) (lk_11 rfl rfl) rfl (fun _ => hk M2 g4) (fun hne => absurd rfl hne)
theorem k_forward {b n : Nat} {f : Nat → Int32} {sa : Nat → Nat} {d : Nat} {B : Nat × Nat} {Q : mz_P} {z : Nat × Nat} {x T p r : Nat} {M : mz_M} (h : iV x T p r M) {i : Nat} (hi : 6 * i + 6 ≤ n) (hn : n ≤ 3072) (hk : ∀ M2, (∃ p r, iV x T p r M2) → zw (some (b, n, f)) sa (d + 16) ym_Law_law B Q 1834 [.ref b, .ref x, .ref (x + 87), .int (nI (6 * i))] [] M2 z) : zw (some (b, n, f)) sa (d + 16) ym_Law_law B Q 1663 [.ref b, .ref x, .ref (x + 87), .int (nI (6 * i))] [] M z := by
  refine z_aload_n (q := 1664) (lk_11 rfl rfl) rfl rfl ?_
  refine zs_arg (q := 1669) (j := 1) (lk_11 rfl rfl) (lk_11 rfl rfl) (lk_11 rfl rfl) (lk_11 rfl rfl) (lk_11 rfl rfl) rfl rfl (by omega) hn ?_
  refine zs_arg (q := 1674) (j := 2) (lk_11 rfl rfl) (lk_11 rfl rfl) (lk_11 rfl rfl) (lk_11 rfl rfl) (lk_11 rfl rfl) rfl rfl (by omega) hn ?_
  refine z_cv2qi (q := 1677) (lk_11 rfl rfl) rfl rfl (X_k h.1) (c_forward h) (fun v M1 g => ?_)
  obtain ⟨g1, g2⟩ := g
  refine z_aload_n (q := 1678) (lk_11 rfl rfl) rfl rfl ?_
  refine zs_arg (q := 1683) (j := 1) (lk_11 rfl rfl) (lk_11 rfl rfl) (lk_11 rfl rfl) (lk_11 rfl rfl) (lk_11 rfl rfl) rfl rfl (by omega) hn ?_
  refine zs_arg (q := 1688) (j := 2) (lk_11 rfl rfl) (lk_11 rfl rfl) (lk_11 rfl rfl) (lk_11 rfl rfl) (lk_11 rfl rfl) rfl rfl (by omega) hn ?_
  refine z_cv2qi (q := 1691) (lk_11 rfl rfl) rfl rfl (by rw [g1]; exact Mo_k h.2.1) g2 (fun v2 M2 g3 => ?_)
  obtain ⟨rfl, g4⟩ := g3
  refine z_ic_eq (q := 1694) (lk_11 rfl rfl) rfl (fun _ => hk M2 g4) (fun hne => absurd rfl hne)
theorem k_forwardBy {b n : Nat} {f : Nat → Int32} {sa : Nat → Nat} {d : Nat} {B : Nat × Nat} {Q : mz_P} {z : Nat × Nat} {x T p r : Nat} {M : mz_M} (h : iV x T p r M) {i : Nat} (hi : 6 * i + 6 ≤ n) (hn : n ≤ 3072) (hk : ∀ M2, (∃ p r, iV x T p r M2) → zw (some (b, n, f)) sa (d + 16) ym_Law_law B Q 1834 [.ref b, .ref x, .ref (x + 87), .int (nI (6 * i))] [] M2 z) : zw (some (b, n, f)) sa (d + 16) ym_Law_law B Q 1696 [.ref b, .ref x, .ref (x + 87), .int (nI (6 * i))] [] M z := by
  refine z_aload_n (q := 1697) (lk_11 rfl rfl) rfl rfl ?_
  refine zs_arg (q := 1702) (j := 1) (lk_11 rfl rfl) (lk_11 rfl rfl) (lk_11 rfl rfl) (lk_11 rfl rfl) (lk_11 rfl rfl) rfl rfl (by omega) hn ?_
  refine zs_arg (q := 1707) (j := 2) (lk_11 rfl rfl) (lk_11 rfl rfl) (lk_11 rfl rfl) (lk_11 rfl rfl) (lk_11 rfl rfl) rfl rfl (by omega) hn ?_
  refine z_cv2qi (q := 1710) (lk_11 rfl rfl) rfl rfl (X_k h.1) (c_forwardBy h) (fun v M1 g => ?_)
  obtain ⟨g1, g2⟩ := g
  refine z_aload_n (q := 1711) (lk_11 rfl rfl) rfl rfl ?_
  refine zs_arg (q := 1716) (j := 1) (lk_11 rfl rfl) (lk_11 rfl rfl) (lk_11 rfl rfl) (lk_11 rfl rfl) (lk_11 rfl rfl) rfl rfl (by omega) hn ?_
  refine zs_arg (q := 1721) (j := 2) (lk_11 rfl rfl) (lk_11 rfl rfl) (lk_11 rfl rfl) (lk_11 rfl rfl) (lk_11 rfl rfl) rfl rfl (by omega) hn ?_
  refine z_cv2qi (q := 1724) (lk_11 rfl rfl) rfl rfl (by rw [g1]; exact Mo_k h.2.1) g2 (fun v2 M2 g3 => ?_)
  obtain ⟨rfl, g4⟩ := g3
  refine z_ic_eq (q := 1727) (lk_11 rfl rfl) rfl (fun _ => hk M2 g4) (fun hne => absurd rfl hne)
theorem k_hue {b n : Nat} {f : Nat → Int32} {sa : Nat → Nat} {d : Nat} {B : Nat × Nat} {Q : mz_P} {z : Nat × Nat} {x T p r : Nat} {M : mz_M} (h : iV x T p r M) {i : Nat} (hi : 6 * i + 6 ≤ n) (hn : n ≤ 3072) (hk : ∀ M2, (∃ p r, iV x T p r M2) → zw (some (b, n, f)) sa (d + 16) ym_Law_law B Q 1834 [.ref b, .ref x, .ref (x + 87), .int (nI (6 * i))] [] M2 z) : zw (some (b, n, f)) sa (d + 16) ym_Law_law B Q 1729 [.ref b, .ref x, .ref (x + 87), .int (nI (6 * i))] [] M z := by
  refine z_aload_n (q := 1730) (lk_11 rfl rfl) rfl rfl ?_
  refine zs_arg (q := 1735) (j := 1) (lk_11 rfl rfl) (lk_11 rfl rfl) (lk_11 rfl rfl) (lk_11 rfl rfl) (lk_11 rfl rfl) rfl rfl (by omega) hn ?_
  refine zs_arg (q := 1740) (j := 2) (lk_11 rfl rfl) (lk_11 rfl rfl) (lk_11 rfl rfl) (lk_11 rfl rfl) (lk_11 rfl rfl) rfl rfl (by omega) hn ?_
  refine z_cv2qi (q := 1743) (lk_11 rfl rfl) rfl rfl (X_k h.1) (c_hue h) (fun v M1 g => ?_)
  obtain ⟨g1, g2⟩ := g
  refine z_aload_n (q := 1744) (lk_11 rfl rfl) rfl rfl ?_
  refine zs_arg (q := 1749) (j := 1) (lk_11 rfl rfl) (lk_11 rfl rfl) (lk_11 rfl rfl) (lk_11 rfl rfl) (lk_11 rfl rfl) rfl rfl (by omega) hn ?_
  refine zs_arg (q := 1754) (j := 2) (lk_11 rfl rfl) (lk_11 rfl rfl) (lk_11 rfl rfl) (lk_11 rfl rfl) (lk_11 rfl rfl) rfl rfl (by omega) hn ?_
  refine z_cv2qi (q := 1757) (lk_11 rfl rfl) rfl rfl (by rw [g1]; exact Mo_k h.2.1) g2 (fun v2 M2 g3 => ?_)
  obtain ⟨rfl, g4⟩ := g3
  refine z_ic_eq (q := 1760) (lk_11 rfl rfl) rfl (fun _ => hk M2 g4) (fun hne => absurd rfl hne)
theorem k_image {b n : Nat} {f : Nat → Int32} {sa : Nat → Nat} {d : Nat} {B : Nat × Nat} {Q : mz_P} {z : Nat × Nat} {x T p r : Nat} {M : mz_M} (h : iV x T p r M) {i : Nat} (hi : 6 * i + 6 ≤ n) (hn : n ≤ 3072) (hk : ∀ M2, (∃ p r, iV x T p r M2) → zw (some (b, n, f)) sa (d + 16) ym_Law_law B Q 1834 [.ref b, .ref x, .ref (x + 87), .int (nI (6 * i))] [] M2 z) : zw (some (b, n, f)) sa (d + 16) ym_Law_law B Q 1762 [.ref b, .ref x, .ref (x + 87), .int (nI (6 * i))] [] M z := by
  refine z_aload_n (q := 1763) (lk_11 rfl rfl) rfl rfl ?_
  refine zs_arg (q := 1768) (j := 1) (lk_11 rfl rfl) (lk_12 rfl rfl) (lk_12 rfl rfl) (lk_12 rfl rfl) (lk_12 rfl rfl) rfl rfl (by omega) hn ?_
  refine z_cv1qi (q := 1771) (lk_12 rfl rfl) rfl rfl (X_k h.1) (c_image h) (fun v M1 g => ?_)
  obtain ⟨g1, g2⟩ := g
  refine z_aload_n (q := 1772) (lk_12 rfl rfl) rfl rfl ?_
  refine zs_arg (q := 1777) (j := 1) (lk_12 rfl rfl) (lk_12 rfl rfl) (lk_12 rfl rfl) (lk_12 rfl rfl) (lk_12 rfl rfl) rfl rfl (by omega) hn ?_
  refine z_cv1qi (q := 1780) (lk_12 rfl rfl) rfl rfl (by rw [g1]; exact Mo_k h.2.1) g2 (fun v2 M2 g3 => ?_)
  obtain ⟨rfl, g4⟩ := g3
  refine z_ic_eq (q := 1783) (lk_12 rfl rfl) rfl (fun _ => hk M2 g4) (fun hne => absurd rfl hne)
theorem k_back {b n : Nat} {f : Nat → Int32} {sa : Nat → Nat} {d : Nat} {B : Nat × Nat} {Q : mz_P} {z : Nat × Nat} {x T p r : Nat} {M : mz_M} (h : iV x T p r M) {i : Nat} (hi : 6 * i + 6 ≤ n) (hn : n ≤ 3072) (hk : ∀ M2, (∃ p r, iV x T p r M2) → zw (some (b, n, f)) sa (d + 16) ym_Law_law B Q 1834 [.ref b, .ref x, .ref (x + 87), .int (nI (6 * i))] [] M2 z) : zw (some (b, n, f)) sa (d + 16) ym_Law_law B Q 1785 [.ref b, .ref x, .ref (x + 87), .int (nI (6 * i))] [] M z := by
  refine z_aload_n (q := 1786) (lk_12 rfl rfl) rfl rfl ?_
  refine zs_arg (q := 1791) (j := 1) (lk_12 rfl rfl) (lk_12 rfl rfl) (lk_12 rfl rfl) (lk_12 rfl rfl) (lk_12 rfl rfl) rfl rfl (by omega) hn ?_
  refine z_cv1qi (q := 1794) (lk_12 rfl rfl) rfl rfl (X_k h.1) (c_back h) (fun v M1 g => ?_)
  obtain ⟨g1, g2⟩ := g
  refine z_aload_n (q := 1795) (lk_12 rfl rfl) rfl rfl ?_
  refine zs_arg (q := 1800) (j := 1) (lk_12 rfl rfl) (lk_12 rfl rfl) (lk_12 rfl rfl) (lk_12 rfl rfl) (lk_12 rfl rfl) rfl rfl (by omega) hn ?_
  refine z_cv1qi (q := 1803) (lk_12 rfl rfl) rfl rfl (by rw [g1]; exact Mo_k h.2.1) g2 (fun v2 M2 g3 => ?_)
  obtain ⟨rfl, g4⟩ := g3
  refine z_ic_eq (q := 1806) (lk_12 rfl rfl) rfl (fun _ => hk M2 g4) (fun hne => absurd rfl hne)
theorem k_undo {b n : Nat} {f : Nat → Int32} {sa : Nat → Nat} {d : Nat} {B : Nat × Nat} {Q : mz_P} {z : Nat × Nat} {x T p r : Nat} {M : mz_M} (h : iV x T p r M) {i : Nat} (hi : 6 * i + 6 ≤ n) (hn : n ≤ 3072) (hk : ∀ M2, (∃ p r, iV x T p r M2) → zw (some (b, n, f)) sa (d + 16) ym_Law_law B Q 1834 [.ref b, .ref x, .ref (x + 87), .int (nI (6 * i))] [] M2 z) : zw (some (b, n, f)) sa (d + 16) ym_Law_law B Q 1808 [.ref b, .ref x, .ref (x + 87), .int (nI (6 * i))] [] M z := by
  refine z_aload_n (q := 1809) (lk_12 rfl rfl) rfl rfl ?_
  refine z_cv0qi (q := 1812) (lk_12 rfl rfl) rfl rfl (X_k h.1) (c_undo h) (fun v M1 g => ?_)
  obtain ⟨g1, g2⟩ := g
  refine z_aload_n (q := 1813) (lk_12 rfl rfl) rfl rfl ?_
  refine z_cv0qi (q := 1816) (lk_12 rfl rfl) rfl rfl (by rw [g1]; exact Mo_k h.2.1) g2 (fun v2 M2 g3 => ?_)
  obtain ⟨rfl, g4⟩ := g3
  refine z_ic_eq (q := 1819) (lk_12 rfl rfl) rfl (fun _ => hk M2 g4) (fun hne => absurd rfl hne)
theorem k_anew {b n : Nat} {f : Nat → Int32} {sa : Nat → Nat} {d : Nat} {B : Nat × Nat} {Q : mz_P} {z : Nat × Nat} {x T p r : Nat} {M : mz_M} (h : iV x T p r M) {i : Nat} (hi : 6 * i + 6 ≤ n) (hn : n ≤ 3072) (hk : ∀ M2, (∃ p r, iV x T p r M2) → zw (some (b, n, f)) sa (d + 16) ym_Law_law B Q 1834 [.ref b, .ref x, .ref (x + 87), .int (nI (6 * i))] [] M2 z) : zw (some (b, n, f)) sa (d + 16) ym_Law_law B Q 1821 [.ref b, .ref x, .ref (x + 87), .int (nI (6 * i))] [] M z := by
  refine z_aload_n (q := 1822) (lk_12 rfl rfl) rfl rfl ?_
  refine z_cv0qi (q := 1825) (lk_12 rfl rfl) rfl rfl (X_k h.1) (c_anew h) (fun v M1 g => ?_)
  obtain ⟨g1, g2⟩ := g
  refine z_aload_n (q := 1826) (lk_12 rfl rfl) rfl rfl ?_
  refine z_cv0qi (q := 1829) (lk_12 rfl rfl) rfl rfl (by rw [g1]; exact Mo_k h.2.1) g2 (fun v2 M2 g3 => ?_)
  obtain ⟨rfl, g4⟩ := g3
  refine z_ic_eq (q := 1832) (lk_12 rfl rfl) rfl (fun _ => hk M2 g4) (fun hne => absurd rfl hne)
