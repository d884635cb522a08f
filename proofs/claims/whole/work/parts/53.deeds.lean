-- finding
theorem frQ_z {s l t : Int32} {j : Nat} {a : Int32} {q : sQ} : frQ s l t 0 j a q = (a, q) := rfl
theorem frQ_e {s l t : Int32} {k j : Nat} {a : Int32} {q : sQ} (h : nmI (q.2.1 j) a = a) : frQ s l t (k + 1) j a q = (a, rdQ s l t j a q) := by
  unfold frQ frF
  rw [if_pos h]
  rfl
theorem frQ_n {s l t : Int32} {k j : Nat} {a : Int32} {q : sQ} (h : ¬ nmI (q.2.1 j) a = a) : frQ s l t (k + 1) j a q = frQ s l t k j (nmI (q.2.1 j) a) (rdQ s l t j a q) := by
  unfold frQ
  have e : frF s l t q.1 j q.2.1 (k + 1) a q.2.2.1 q.2.2.2.1 q.2.2.2.2.2.2 = frF s l t q.1 j q.2.1 k (nmI (q.2.1 j) a) (rdF s l t q.1 j a q.2.2.1 q.2.2.2.1 q.2.2.2.2.2.2).1 (rdF s l t q.1 j a q.2.2.1 q.2.2.2.1 q.2.2.2.2.2.2).2.1 (rdF s l t q.1 j a q.2.2.1 q.2.2.2.1 q.2.2.2.2.2.2).2.2 := if_neg h
  rw [e]
  rfl
theorem fr_1 {s l t : Int32} {n j : Nat} {J : Nat → Int64} : ∀ (k : Nat) (a : Int32) (lt lc : Nat → Int32) (p : Int32), (frF s l t n j J k a lt lc p).1 = rt (J j) k a := by
  intro k
  induction k with
  | zero => intro a lt lc p; rfl
  | succ k ih =>
    intro a lt lc p
    unfold frF rt
    by_cases h : nmI (J j) a = a
    · rw [if_pos h, if_pos h]
    · rw [if_neg h, if_neg h]
      exact ih _ _ _ _
theorem frQ_1 {s l t : Int32} {k j : Nat} {a : Int32} {q : sQ} : (frQ s l t k j a q).1 = rt (q.2.1 j) k a := fr_1 _ _ _ _ _
theorem l_Mo_find {sc : Option (Nat × Nat × (Nat → Int32))} {sa : Nat → Nat} {d : Nat} {M : mz_M} {z : Nat × Nat} {m : Nat} (w : g_Mo M.2.2 m) {c : Nat} {l t : Int32} (hC : c ≤ 12) {v : Nat} {x2 : Int32} {F0 : Nat → Int32} {A0 : Nat → Nat → Int32} : ∀ (k : Nat) (i a : Nat) (F : Nat → Int32) (A : Nat → Nat → Int32) (q : sQ) (x5 : Value), i + k = c → a < c → mFr F0 A0 F A → mAg c F A q → qI c q → qV c q → A 1 0 = nI c → F 15 = l → F 16 = t → v < q.1 → zw sc sa (d + 5) ym_Mo_find z (fun r' M' => ∃ x, r' = some (.int x) ∧ mP M m F0 A0 c (frQ (nI c) l t k v (nI a) q).2 (frQ (nI c) l t k v (nI a) q).1 x M') 5 [.ref m, .int (nI v), .int x2, .int (nI a), .int (nI i), x5] [] (moF M m F A) z := by
  intro k
  induction k with
  | zero =>
    intro i a F A q x5 hi ha hfr hq hI hV hs hl ht hv
    have e1 : i = c := by omega
    subst e1
    refine z_iload (q := 7) rfl rfl rfl ?_
    refine z_aload_n (q := 8) rfl rfl rfl ?_
    refine z_getR (q := 11) rfl rfl rfl (Mo_k w) (Mo_r0 w) ?_
    refine z_iconst (q := 12) (v := 0) rfl rfl rfl ?_
    refine z_iald (q := 13) rfl rfl (Mo_a0 w) (vp0 (by decide) (by decide)) ?_
    rw [moF_a0]
    try rw [nI_clamp (by omega)]
    rw [show A 1 (0 : Int32).toNatClampNeg = nI i from hs]
    refine z_ic_ge (q := 16) rfl rfl (fun h13 => ?_) (fun h13 => ?_)
    · refine z_iload_n (q := 42) rfl rfl rfl ?_
      refine z_ireti rfl rfl ?_
      exact ⟨_, rfl, rfl, F, A, rfl, hfr, hq⟩
    · exact absurd (Int32.le_refl _) h13
  | succ k ih =>
    intro i a F A q x5 hi ha hfr hq hI hV hs hl ht hv
    obtain ⟨x, e1, e2⟩ := hV v hv a ha
    refine z_iload (q := 7) rfl rfl rfl ?_
    refine z_aload_n (q := 8) rfl rfl rfl ?_
    refine z_getR (q := 11) rfl rfl rfl (Mo_k w) (Mo_r0 w) ?_
    refine z_iconst (q := 12) (v := 0) rfl rfl rfl ?_
    refine z_iald (q := 13) rfl rfl (Mo_a0 w) (vp0 (by decide) (by decide)) ?_
    rw [moF_a0]
    try rw [nI_clamp (by omega)]
    rw [show A 1 (0 : Int32).toNatClampNeg = nI c from hs]
    refine z_ic_ge (q := 16) rfl rfl (fun h13 => ?_) (fun h13 => ?_)
    · exact absurd h13 (nI_ge (by omega) (by omega))
    · refine z_aload_n (q := 17) rfl rfl rfl ?_
      refine z_iload_n (q := 18) rfl rfl rfl ?_
      refine z_iload_n (q := 19) rfl rfl rfl ?_
      refine z_cv2qi (q := 22) rfl rfl rfl (Mo_k w) (q_Mo_read w hq hI hC hs hl ht hv ha) (fun x9 M9 h9 => ?_)
      obtain ⟨rfl, F1, A1, rfl, r1, g1⟩ := h9
      refine z_istore (q := 24) (L2 := [_, _, _, _, _, _]) rfl rfl rfl rfl ?_
      refine z_iload (q := 26) rfl rfl rfl ?_
      refine z_iload_n (q := 27) rfl rfl rfl ?_
      refine z_ic_ne (q := 30) rfl rfl (fun h27 => ?_) (fun h27 => ?_)
      · refine z_iload (q := 34) rfl rfl rfl ?_
        refine z_istore_n (q := 35) (L2 := [_, _, _, _, _, _]) rfl rfl rfl rfl ?_
        refine z_iinc (q := 38) (L2 := [_, _, _, _, _, _]) rfl rfl rfl rfl ?_
        refine z_goto rfl ?_
        rw [show nI i + Int32.ofInt 1 = nI (i + 1) from (nI_succ i).symm]
        have h28 : ¬ nmI (q.2.1 v) (nI a) = nI a := h27
        rw [frQ_n h28, e2]
        exact ih (i + 1) x F1 A1 _ _ (by omega) e1 (mFr_t hfr r1) g1 (qI_rd hI hv) hV ((congrFun (r1.2 1 (by omega)) 0).trans hs) ((r1.1 15 (by omega) (by omega)).trans hl) ((r1.1 16 (by omega) (by omega)).trans ht) hv
      · refine z_iload_n (q := 31) rfl rfl rfl ?_
        refine z_ireti rfl rfl ?_
        have h28 : nmI (q.2.1 v) (nI a) = nI a := h27
        rw [frQ_e h28]
        exact ⟨_, rfl, rfl, F1, A1, rfl, mFr_t hfr r1, g1⟩
theorem q_Mo_find {sc : Option (Nat × Nat × (Nat → Int32))} {sa : Nat → Nat} {d : Nat} {M : mz_M} {z : Nat × Nat} {m : Nat} (w : g_Mo M.2.2 m) {F : Nat → Int32} {A : Nat → Nat → Int32} {c : Nat} {q : sQ} {l t : Int32} (hq : mAg c F A q) (hI : qI c q) (hC : c ≤ 12) (hs : A 1 0 = nI c) (hl : F 15 = l) (ht : F 16 = t) (hV : qV c q) {v a : Nat} (hv : v < q.1) (ha : a < c) : zi sc sa (d + 6) 186 [.ref m, .int (nI v), .int (nI a)] (moF M m F A) z (mP M m F A c (frQ (nI c) l t c v (nI a) q).2 (frQ (nI c) l t c v (nI a) q).1) := by
  refine zin ym_Mo_find [.ref m, .int (nI v), .int (nI a), .retAddr 0, .retAddr 0, .retAddr 0] rfl rfl rfl rfl ?_
  refine z_iload_n (q := 1) rfl rfl rfl ?_
  refine z_istore_n (q := 2) (L2 := [_, _, _, _, _, _]) rfl rfl rfl rfl ?_
  refine z_iconst (q := 3) (v := 0) rfl rfl rfl ?_
  refine z_istore (q := 5) (L2 := [_, _, _, _, _, _]) rfl rfl rfl rfl ?_
  exact l_Mo_find w hC c 0 a F A q _ (by omega) ha mFr_r hq hI hV hs hl ht hv
theorem mm_nI {c a b : Nat} (ha : a < c) (hb : b < c) (hC : c ≤ 12) : ∃ x y, x < c ∧ y < c ∧ (if nI a < nI b then nI b else nI a) = nI x ∧ (if nI b < nI a then nI b else nI a) = nI y := by
  by_cases h : a < b
  · exact ⟨b, a, hb, ha, if_pos (nI_lt h (by omega)), if_neg (nI_nlt (by omega) (by omega))⟩
  · by_cases h2 : b < a
    · exact ⟨a, b, ha, hb, if_neg (nI_nlt (by omega) (by omega)), if_pos (nI_lt h2 (by omega))⟩
    · have e : a = b := by omega
      subst e
      exact ⟨a, a, ha, ha, if_neg (nI_nlt (by omega) (by omega)), if_neg (nI_nlt (by omega) (by omega))⟩
theorem q_Mo_join {sc : Option (Nat × Nat × (Nat → Int32))} {sa : Nat → Nat} {d : Nat} {M : mz_M} {z : Nat × Nat} {m : Nat} (w : g_Mo M.2.2 m) {F : Nat → Int32} {A : Nat → Nat → Int32} {c : Nat} {q : sQ} {l t : Int32} (hq : mAg c F A q) (hI : qI c q) (hC : c ≤ 12) (hs : A 1 0 = nI c) (hl : F 15 = l) (ht : F 16 = t) (hV : qV c q) {v a b : Nat} (hv : v < q.1) (hn : q.1 ≤ 200) (ha : a < c) (hb : b < c) : zi sc sa (d + 7) 187 [.ref m, .int (nI v), .int (nI a), .int (nI b)] (moF M m F A) z (mP M m F A c (setQ (nI c) l t v (if (frQ (nI c) l t c v (nI a) q).1 < (frQ (nI c) l t c v (nI b) (frQ (nI c) l t c v (nI a) q).2).1 then (frQ (nI c) l t c v (nI b) (frQ (nI c) l t c v (nI a) q).2).1 else (frQ (nI c) l t c v (nI a) q).1) (if (frQ (nI c) l t c v (nI b) (frQ (nI c) l t c v (nI a) q).2).1 < (frQ (nI c) l t c v (nI a) q).1 then (frQ (nI c) l t c v (nI b) (frQ (nI c) l t c v (nI a) q).2).1 else (frQ (nI c) l t c v (nI a) q).1) (frQ (nI c) l t c v (nI b) (frQ (nI c) l t c v (nI a) q).2).2) (nI q.1)) := by
  refine zin ym_Mo_join [.ref m, .int (nI v), .int (nI a), .int (nI b), .retAddr 0, .retAddr 0] rfl rfl rfl rfl ?_
  refine z_aload_n (q := 1) rfl rfl rfl ?_
  refine z_iload_n (q := 2) rfl rfl rfl ?_
  refine z_iload_n (q := 3) rfl rfl rfl ?_
  refine z_cv2qi (q := 6) rfl rfl rfl (Mo_k w) (q_Mo_find w hq hI hC hs hl ht hV hv ha) (fun x9 M9 h9 => ?_)
  obtain ⟨e1, F1, A1, rfl, r1, g1⟩ := h9
  refine z_istore (q := 8) (L2 := [_, _, _, _, _, _]) rfl rfl rfl rfl ?_
  refine z_aload_n (q := 9) rfl rfl rfl ?_
  refine z_iload_n (q := 10) rfl rfl rfl ?_
  refine z_iload_n (q := 11) rfl rfl rfl ?_
  refine z_cv2qi (q := 14) rfl rfl rfl (Mo_k w) (q_Mo_find w g1 (qI_fr hI hv) hC ((congrFun (r1.2 1 (by omega)) 0).trans hs) ((r1.1 15 (by omega) (by omega)).trans hl) ((r1.1 16 (by omega) (by omega)).trans ht) (show qV c (frQ (nI c) l t c v (nI a) q).2 from hV) (show v < (frQ (nI c) l t c v (nI a) q).2.1 from hv) hb) (fun x9 M9 h9 => ?_)
  obtain ⟨e2, F2, A2, rfl, r2, g2⟩ := h9
  refine z_istore (q := 16) (L2 := [_, _, _, _, _, _]) rfl rfl rfl rfl ?_
  refine z_aload_n (q := 17) rfl rfl rfl ?_
  refine z_iload_n (q := 18) rfl rfl rfl ?_
  refine z_iload (q := 20) rfl rfl rfl ?_
  refine z_iload (q := 22) rfl rfl rfl ?_
  refine z_max (q := 25) rfl rfl (by omega) rfl ?_
  refine z_iload (q := 27) rfl rfl rfl ?_
  refine z_iload (q := 29) rfl rfl rfl ?_
  refine z_min (q := 32) rfl rfl (by omega) rfl ?_
  obtain ⟨y1, p1, p2⟩ := rt_lt (hV v hv) c a ha
  obtain ⟨y2, p3, p4⟩ := rt_lt (hV v hv) c b hb
  have p5 : (frQ (nI c) l t c v (nI a) q).1 = nI y1 := frQ_1.trans p2
  have p6 : (frQ (nI c) l t c v (nI b) (frQ (nI c) l t c v (nI a) q).2).1 = nI y2 := frQ_1.trans p4
  obtain ⟨u1, u2, k1, k2, k3, k4⟩ := mm_nI p1 p3 hC
  have r3 := mFr_t r1 r2
  have gs := q_Mo_set (sc := sc) (sa := sa) (d := d + 1) (z := z) w g2 (qI_fr (qI_fr hI hv) hv) hC ((congrFun (r3.2 1 (by omega)) 0).trans hs) ((r3.1 15 (by omega) (by omega)).trans hl) ((r3.1 16 (by omega) (by omega)).trans ht) (show v < (frQ (nI c) l t c v (nI b) (frQ (nI c) l t c v (nI a) q).2).2.1 from hv) (show (frQ (nI c) l t c v (nI b) (frQ (nI c) l t c v (nI a) q).2).2.1 ≤ 200 from hn) k1 (show u2 < 16 by omega)
  rw [← k3, ← k4, ← p5, ← p6] at gs
  rw [e1, e2]
  refine z_cv3qi (q := 35) rfl rfl rfl (Mo_k w) (gs) (fun x9 M9 h9 => ?_)
  obtain ⟨e3, F3, A3, rfl, r4, g3⟩ := h9
  refine z_ireti rfl rfl ?_
  exact ⟨_, rfl, e3, F3, A3, rfl, mFr_t r3 r4, g3⟩
-- a row laid on, cell by cell
def dfN (fr row : Int64) (i : Nat) : Nat := cn (fun k => !decide (nmI fr (nI k) = nmI row (nI k))) i
theorem df_e {fr row : Int64} {i : Nat} (h : nmI fr (nI i) = nmI row (nI i)) : dfN fr row (i + 1) = dfN fr row i := cn_f (by simp [h])
theorem df_n {fr row : Int64} {i : Nat} (h : ¬ nmI fr (nI i) = nmI row (nI i)) : dfN fr row (i + 1) = dfN fr row i + 1 := cn_t (by simp [h])
theorem df_le {fr row : Int64} {i j : Nat} (h : i ≤ j) : dfN fr row i ≤ dfN fr row j := by
  induction j with
  | zero => rw [Nat.le_zero.mp h]; exact Nat.le_refl _
  | succ j ih =>
    by_cases e : i = j + 1
    · rw [e]; exact Nat.le_refl _
    · have g := ih (by omega)
      by_cases c : nmI fr (nI j) = nmI row (nI j)
      · rw [df_e c]; exact g
      · rw [df_n c]; omega
theorem df_fo {fr row : Int64} : ∀ i, fo (fun k acc => if nmI fr (nI k) = nmI row (nI k) then acc else acc + Int32.ofInt 1) 0 i = nI (dfN fr row i) := by
  intro i
  induction i with
  | zero => rfl
  | succ i ih =>
    show (if nmI fr (nI i) = nmI row (nI i) then fo _ 0 i else fo _ 0 i + Int32.ofInt 1) = _
    by_cases c : nmI fr (nI i) = nmI row (nI i)
    · rw [if_pos c, df_e c]; exact ih
    · rw [if_neg c, df_n c, nI_succ, ih]; rfl
theorem lo_ok {s l t : Int32} {fr row : Int64} {c v N : Nat} {q : sQ} (hI : qI c q) (hV : qV c q) (hv : v < q.1) (hC : c ≤ 12) (hrow : ∀ i, i < c → ∃ y, y < c ∧ nmI row (nI i) = nI y) (hN : N ≤ 200) (hcap : q.1 + dfN fr row c ≤ N) : ∀ i, i ≤ c → (fo (loG s l t fr row) (v, q) i).1 < (fo (loG s l t fr row) (v, q) i).2.1 ∧ (fo (loG s l t fr row) (v, q) i).2.1 = q.1 + dfN fr row i ∧ qI c (fo (loG s l t fr row) (v, q) i).2 ∧ qV c (fo (loG s l t fr row) (v, q) i).2 ∧ qE q (fo (loG s l t fr row) (v, q) i).2 := by
  intro i
  induction i with
  | zero => intro _; exact ⟨hv, rfl, hI, hV, qE_r⟩
  | succ i ih =>
    intro hi
    obtain ⟨h1, h2, h3, h4, h5⟩ := ih (by omega)
    have e : fo (loG s l t fr row) (v, q) (i + 1) = loG s l t fr row i (fo (loG s l t fr row) (v, q) i) := rfl
    rw [e]
    generalize fo (loG s l t fr row) (v, q) i = X at h1 h2 h3 h4 h5 ⊢
    have hd := @df_le fr row (i + 1) c hi
    by_cases c1 : nmI fr (nI i) = nmI row (nI i)
    · rw [loG_e c1, df_e c1]
      exact ⟨h1, h2, h3, h4, h5⟩
    · rw [loG_n c1, df_n c1]
      rw [df_n c1] at hd
      obtain ⟨y, y1, y2⟩ := hrow i (by omega)
      rw [y2]
      refine ⟨Nat.lt_succ_self _, ?_, qI_set h3 h1 (by omega) (by omega), qV_set h4 h1 (by omega) y1 hC, qE_t h5 qE_set⟩
      show X.2.1 + 1 = _
      omega
theorem mgV_c {c : Nat} {B R O : Int32} (h1 : ∃ y, y < c ∧ R = nI y) (h2 : ∃ y, y < c ∧ O = nI y) : ∃ y, y < c ∧ mgV B R O = nI y := by
  unfold mgV
  by_cases c1 : R = B
  · rw [if_pos c1]; exact h2
  · rw [if_neg c1]
    by_cases c2 : ¬ R = B ∧ ¬ O = B ∧ ¬ O = R
    · rw [if_pos c2]
      by_cases c3 : O < R
      · rw [if_pos c3]; exact h2
      · rw [if_neg c3]; exact h1
    · rw [if_neg c2]; exact h1
theorem mgR_c {c a b : Nat} {q : sQ} (hV : qV c q) (hC : c ≤ 12) (ha : a < q.1) (hb : b < q.1) : ∀ i, i < c → ∃ y, y < c ∧ nmI (mgR c a b q) (nI i) = nI y := by
  intro i hi
  have g := @mg_nib (q.2.1 (mtN q.2.2.2.2.1 (2 * q.1) a b)) (q.2.1 a) (q.2.1 b) c i hC (by omega)
  rw [if_pos hi] at g
  have g2 : nmI (mgR c a b q) (nI i) = _ := g
  rw [g2]
  exact mgV_c (hV a ha i hi) (hV b hb i hi)
theorem paR_v {c a b e : Nat} {q : sQ} (hC : c ≤ 12) {i : Nat} (hi : i < c) : nmI (paR c a b e q) (nI i) = if nmI (q.2.1 a) (nI i) = nmI (q.2.1 b) (nI i) then nmI (q.2.1 e) (nI i) else nmI (q.2.1 b) (nI i) := by
  have g := @pa_nib (q.2.1 a) (q.2.1 b) (q.2.1 e) c i hC (by omega)
  rw [if_pos hi] at g
  exact g
theorem paR_c {c a b e : Nat} {q : sQ} (hV : qV c q) (hC : c ≤ 12) (hb : b < q.1) (he : e < q.1) : ∀ i, i < c → ∃ y, y < c ∧ nmI (paR c a b e q) (nI i) = nI y := by
  intro i hi
  rw [paR_v hC hi]
  by_cases c1 : nmI (q.2.1 a) (nI i) = nmI (q.2.1 b) (nI i)
  · rw [if_pos c1]; exact hV e he i hi
  · rw [if_neg c1]; exact hV b hb i hi
theorem l_Mo_merge {sc : Option (Nat × Nat × (Nat → Int32))} {sa : Nat → Nat} {d : Nat} {M : mz_M} {z : Nat × Nat} {m : Nat} (w : g_Mo M.2.2 m) {F : Nat → Int32} {A : Nat → Nat → Int32} {c : Nat} {q : sQ} {l t : Int32} (hq : mAg c F A q) (hI : qI c q) (hC : c ≤ 12) (hs : A 1 0 = nI c) (hl : F 15 = l) (ht : F 16 = t) (hV : qV c q) {a b : Nat} (ha : a < q.1) (hb : b < q.1) (hcap : q.1 + dfN (q.2.1 a) (mgR c a b q) c ≤ 200)  : ∀ (k : Nat) (i : Nat) (F1 : Nat → Int32) (A1 : Nat → Nat → Int32) (x5 : Value), i + k = c → mFr F A F1 A1 → mAg c F1 A1 (fo (loG (nI c) l t (q.2.1 a) (mgR c a b q)) (a, q) i).2 → zw sc sa (d + 5) ym_Mo_merge z (fun r' M' => ∃ x, r' = some (.int x) ∧ mP M m F A c (fo (loG (nI c) l t (q.2.1 a) (mgR c a b q)) (a, q) c).2 (nI (fo (loG (nI c) l t (q.2.1 a) (mgR c a b q)) (a, q) c).1) x M') 5 [.ref m, .int (nI a), .int (nI b), .int (nI (fo (loG (nI c) l t (q.2.1 a) (mgR c a b q)) (a, q) i).1), .int (nI i), x5] [] (moF M m F1 A1) z := by
  intro k
  induction k with
  | zero =>
    intro i F1 A1 x5 hi r1 g1
    have e1 : i = c := by omega
    subst e1
    have s1 := (congrFun (r1.2 1 (by omega)) 0).trans hs
    refine z_iload (q := 7) rfl rfl rfl ?_
    refine z_aload_n (q := 8) rfl rfl rfl ?_
    refine z_getR (q := 11) rfl rfl rfl (Mo_k w) (Mo_r0 w) ?_
    refine z_iconst (q := 12) (v := 0) rfl rfl rfl ?_
    refine z_iald (q := 13) rfl rfl (Mo_a0 w) (vp0 (by decide) (by decide)) ?_
    rw [moF_a0]
    try rw [nI_clamp (by omega)]
    rw [show A1 1 (0 : Int32).toNatClampNeg = nI i from s1]
    refine z_ic_ge (q := 16) rfl rfl (fun h13 => ?_) (fun h13 => ?_)
    · refine z_iload_n (q := 55) rfl rfl rfl ?_
      refine z_ireti rfl rfl ?_
      exact ⟨_, rfl, rfl, F1, A1, rfl, r1, g1⟩
    · exact absurd (Int32.le_refl _) h13
  | succ k ih =>
    intro i F1 A1 x5 hi r1 g1
    have s1 := (congrFun (r1.2 1 (by omega)) 0).trans hs
    have hi2 : i < c := by omega
    have b2 := hI.2.1
    obtain ⟨k1, k2, k3, k4, k5⟩ := lo_ok (s := nI c) (l := l) (t := t) (fr := q.2.1 a) (row := (mgR c a b q)) (N := 200) hI hV ha hC (mgR_c hV hC ha hb) (by omega) hcap i (by omega)
    have kd := @df_le (q.2.1 a) (mgR c a b q) (i + 1) c (by omega)
    have hv1 : mAv c A1 q := mAv_e (mAv_of g1) k5
    refine z_iload (q := 7) rfl rfl rfl ?_
    refine z_aload_n (q := 8) rfl rfl rfl ?_
    refine z_getR (q := 11) rfl rfl rfl (Mo_k w) (Mo_r0 w) ?_
    refine z_iconst (q := 12) (v := 0) rfl rfl rfl ?_
    refine z_iald (q := 13) rfl rfl (Mo_a0 w) (vp0 (by decide) (by decide)) ?_
    rw [moF_a0]
    try rw [nI_clamp (by omega)]
    rw [show A1 1 (0 : Int32).toNatClampNeg = nI c from s1]
    refine z_ic_ge (q := 16) rfl rfl (fun h13 => ?_) (fun h13 => ?_)
    · exact absurd h13 (nI_ge (by omega) (by omega))
    · refine z_aload_n (q := 17) rfl rfl rfl ?_
      refine z_iload_n (q := 18) rfl rfl rfl ?_
      refine z_iload_n (q := 19) rfl rfl rfl ?_
      refine z_iload (q := 21) rfl rfl rfl ?_
      refine z_cv3i (q := 24) rfl rfl rfl (Mo_k w) (t_Mo_mergedOf w hv1 hI hC ha hb hi2) ?_
      refine z_istore (q := 26) (L2 := [_, _, _, _, _, _]) rfl rfl rfl rfl ?_
      refine z_iload (q := 28) rfl rfl rfl ?_
      refine z_aload_n (q := 29) rfl rfl rfl ?_
      refine z_iload_n (q := 30) rfl rfl rfl ?_
      refine z_iload (q := 32) rfl rfl rfl ?_
      refine z_cv2i (q := 35) rfl rfl rfl (Mo_k w) (s_Mo_at w (by omega) (by omega)) ?_
      rw [(hv1 a ha).2.2.1 i hi2]
      refine z_ic_eq (q := 38) rfl rfl (fun h35 => ?_) (fun h35 => ?_)
      · refine z_iinc (q := 51) (L2 := [_, _, _, _, _, _]) rfl rfl rfl rfl ?_
        refine z_goto rfl ?_
        rw [show nI i + Int32.ofInt 1 = nI (i + 1) from (nI_succ i).symm]
        first
          | (have d1 : nmI (q.2.1 a) (nI i) = nmI (mgR c a b q) (nI i) := Eq.symm h35
             have e9 : (fo (loG (nI c) l t (q.2.1 a) (mgR c a b q)) (a, q) (i + 1)) = (fo (loG (nI c) l t (q.2.1 a) (mgR c a b q)) (a, q) i) := loG_e d1
             have e8 := fun u => ih (i + 1) F1 A1 u (by omega) r1
             rw [e9] at e8
             exact e8 _ g1)
          | (have e9 : (fo (loG (nI c) l t (q.2.1 a) (mgR c a b q)) (a, q) (i + 1)) = ((fo (loG (nI c) l t (q.2.1 a) (mgR c a b q)) (a, q) i).2.1, setQ (nI c) l t (fo (loG (nI c) l t (q.2.1 a) (mgR c a b q)) (a, q) i).1 (nI i) (nmI (mgR c a b q) (nI i)) (fo (loG (nI c) l t (q.2.1 a) (mgR c a b q)) (a, q) i).2) := loG_n d1
             have e8 := fun u => ih (i + 1) F2 A2 u (by omega) (mFr_t r1 r2)
             rw [e9] at e8
             exact e8 _ g2)
      · refine z_aload_n (q := 39) rfl rfl rfl ?_
        refine z_iload_n (q := 40) rfl rfl rfl ?_
        refine z_iload (q := 42) rfl rfl rfl ?_
        refine z_iload (q := 44) rfl rfl rfl ?_
        have d1 : ¬ nmI (q.2.1 a) (nI i) = nmI (mgR c a b q) (nI i) := fun e => h35 e.symm
        rw [df_n d1] at kd
        obtain ⟨y, y1, y2⟩ := nm_16 (mgR c a b q) (show i < 12 by omega)
        have gs := q_Mo_set (sc := sc) (sa := sa) (d := d) (z := z) w g1 k3 hC s1 ((r1.1 15 (by omega) (by omega)).trans hl) ((r1.1 16 (by omega) (by omega)).trans ht) k1 (by omega) hi2 y1
        rw [← y2] at gs
        refine z_cv3qi (q := 47) rfl rfl rfl (Mo_k w) (gs) (fun x9 M9 h9 => ?_)
        obtain ⟨rfl, F2, A2, rfl, r2, g2⟩ := h9
        refine z_istore_n (q := 48) (L2 := [_, _, _, _, _, _]) rfl rfl rfl rfl ?_
        refine z_iinc (q := 51) (L2 := [_, _, _, _, _, _]) rfl rfl rfl rfl ?_
        refine z_goto rfl ?_
        rw [show nI i + Int32.ofInt 1 = nI (i + 1) from (nI_succ i).symm]
        first
          | (have d1 : nmI (q.2.1 a) (nI i) = nmI (mgR c a b q) (nI i) := Eq.symm h35
             have e9 : (fo (loG (nI c) l t (q.2.1 a) (mgR c a b q)) (a, q) (i + 1)) = (fo (loG (nI c) l t (q.2.1 a) (mgR c a b q)) (a, q) i) := loG_e d1
             have e8 := fun u => ih (i + 1) F1 A1 u (by omega) r1
             rw [e9] at e8
             exact e8 _ g1)
          | (have e9 : (fo (loG (nI c) l t (q.2.1 a) (mgR c a b q)) (a, q) (i + 1)) = ((fo (loG (nI c) l t (q.2.1 a) (mgR c a b q)) (a, q) i).2.1, setQ (nI c) l t (fo (loG (nI c) l t (q.2.1 a) (mgR c a b q)) (a, q) i).1 (nI i) (nmI (mgR c a b q) (nI i)) (fo (loG (nI c) l t (q.2.1 a) (mgR c a b q)) (a, q) i).2) := loG_n d1
             have e8 := fun u => ih (i + 1) F2 A2 u (by omega) (mFr_t r1 r2)
             rw [e9] at e8
             exact e8 _ g2)
theorem q_Mo_merge {sc : Option (Nat × Nat × (Nat → Int32))} {sa : Nat → Nat} {d : Nat} {M : mz_M} {z : Nat × Nat} {m : Nat} (w : g_Mo M.2.2 m) {F : Nat → Int32} {A : Nat → Nat → Int32} {c : Nat} {q : sQ} {l t : Int32} (hq : mAg c F A q) (hI : qI c q) (hC : c ≤ 12) (hs : A 1 0 = nI c) (hl : F 15 = l) (ht : F 16 = t) (hV : qV c q) {a b : Nat} (ha : a < q.1) (hb : b < q.1) (hcap : q.1 + dfN (q.2.1 a) (mgR c a b q) c ≤ 200)  : zi sc sa (d + 6) 192 [.ref m, .int (nI a), .int (nI b)] (moF M m F A) z (mP M m F A c (fo (loG (nI c) l t (q.2.1 a) (mgR c a b q)) (a, q) c).2 (nI (fo (loG (nI c) l t (q.2.1 a) (mgR c a b q)) (a, q) c).1)) := by
  refine zin ym_Mo_merge [.ref m, .int (nI a), .int (nI b), .retAddr 0, .retAddr 0, .retAddr 0] rfl rfl rfl rfl ?_
  refine z_iload_n (q := 1) rfl rfl rfl ?_
  refine z_istore_n (q := 2) (L2 := [_, _, _, _, _, _]) rfl rfl rfl rfl ?_
  refine z_iconst (q := 3) (v := 0) rfl rfl rfl ?_
  refine z_istore (q := 5) (L2 := [_, _, _, _, _, _]) rfl rfl rfl rfl ?_
  exact l_Mo_merge w hq hI hC hs hl ht hV ha hb hcap c 0 F A _ (by omega) mFr_r hq
theorem pa_ne {c a b e : Nat} {q : sQ} {i : Nat} (hC : c ≤ 12) (hi : i < c) (h : ¬ nmI (q.2.1 a) (nI i) = nmI (q.2.1 b) (nI i) ∧ ¬ nmI (q.2.1 e) (nI i) = nmI (q.2.1 b) (nI i)) : ¬ nmI (q.2.1 e) (nI i) = nmI (paR c a b e q) (nI i) ∧ nmI (paR c a b e q) (nI i) = nmI (q.2.1 b) (nI i) := by
  have g := @paR_v c a b e q hC i hi
  rw [if_neg h.1] at g
  exact ⟨fun e2 => h.2 (e2.trans g), g⟩
theorem pa_eq {c a b e : Nat} {q : sQ} {i : Nat} (hC : c ≤ 12) (hi : i < c) (h : ¬ (¬ nmI (q.2.1 a) (nI i) = nmI (q.2.1 b) (nI i) ∧ ¬ nmI (q.2.1 e) (nI i) = nmI (q.2.1 b) (nI i))) : nmI (q.2.1 e) (nI i) = nmI (paR c a b e q) (nI i) := by
  have g := @paR_v c a b e q hC i hi
  rw [g]
  by_cases c1 : nmI (q.2.1 a) (nI i) = nmI (q.2.1 b) (nI i)
  · rw [if_pos c1]
  · rw [if_neg c1]
    by_cases c2 : nmI (q.2.1 e) (nI i) = nmI (q.2.1 b) (nI i)
    · exact c2
    · exact absurd ⟨c1, c2⟩ h
theorem l_Mo_patch {sc : Option (Nat × Nat × (Nat → Int32))} {sa : Nat → Nat} {d : Nat} {M : mz_M} {z : Nat × Nat} {m : Nat} (w : g_Mo M.2.2 m) {F : Nat → Int32} {A : Nat → Nat → Int32} {c : Nat} {q : sQ} {l t : Int32} (hq : mAg c F A q) (hI : qI c q) (hC : c ≤ 12) (hs : A 1 0 = nI c) (hl : F 15 = l) (ht : F 16 = t) (hV : qV c q) {a b e : Nat} (ha : a < q.1) (hb : b < q.1) (he : e < q.1) (hcap : q.1 + dfN (q.2.1 e) (paR c a b e q) c ≤ 200)  : ∀ (k : Nat) (i : Nat) (F1 : Nat → Int32) (A1 : Nat → Nat → Int32) (x5 : Value), i + k = c → mFr F A F1 A1 → mAg c F1 A1 (fo (loG (nI c) l t (q.2.1 e) (paR c a b e q)) (e, q) i).2 → zw sc sa (d + 5) ym_Mo_patch z (fun r' M' => ∃ x, r' = some (.int x) ∧ mP M m F A c (fo (loG (nI c) l t (q.2.1 e) (paR c a b e q)) (e, q) c).2 (nI (fo (loG (nI c) l t (q.2.1 e) (paR c a b e q)) (e, q) c).1) x M') 6 [.ref m, .int (nI a), .int (nI b), .int (nI e), .int (nI (fo (loG (nI c) l t (q.2.1 e) (paR c a b e q)) (e, q) i).1), .int (nI i)] [] (moF M m F1 A1) z := by
  intro k
  induction k with
  | zero =>
    intro i F1 A1 x5 hi r1 g1
    have e1 : i = c := by omega
    subst e1
    have s1 := (congrFun (r1.2 1 (by omega)) 0).trans hs
    refine z_iload (q := 8) rfl rfl rfl ?_
    refine z_aload_n (q := 9) rfl rfl rfl ?_
    refine z_getR (q := 12) rfl rfl rfl (Mo_k w) (Mo_r0 w) ?_
    refine z_iconst (q := 13) (v := 0) rfl rfl rfl ?_
    refine z_iald (q := 14) rfl rfl (Mo_a0 w) (vp0 (by decide) (by decide)) ?_
    rw [moF_a0]
    try rw [nI_clamp (by omega)]
    rw [show A1 1 (0 : Int32).toNatClampNeg = nI i from s1]
    refine z_ic_ge (q := 17) rfl rfl (fun h14 => ?_) (fun h14 => ?_)
    · refine z_iload (q := 54) rfl rfl rfl ?_
      refine z_ireti rfl rfl ?_
      exact ⟨_, rfl, rfl, F1, A1, rfl, r1, g1⟩
    · exact absurd (Int32.le_refl _) h14
  | succ k ih =>
    intro i F1 A1 x5 hi r1 g1
    have s1 := (congrFun (r1.2 1 (by omega)) 0).trans hs
    have hi2 : i < c := by omega
    have b2 := hI.2.1
    obtain ⟨k1, k2, k3, k4, k5⟩ := lo_ok (s := nI c) (l := l) (t := t) (fr := q.2.1 e) (row := (paR c a b e q)) (N := 200) hI hV he hC (paR_c hV hC hb he) (by omega) hcap i (by omega)
    have kd := @df_le (q.2.1 e) (paR c a b e q) (i + 1) c (by omega)
    have hv1 : mAv c A1 q := mAv_e (mAv_of g1) k5
    refine z_iload (q := 8) rfl rfl rfl ?_
    refine z_aload_n (q := 9) rfl rfl rfl ?_
    refine z_getR (q := 12) rfl rfl rfl (Mo_k w) (Mo_r0 w) ?_
    refine z_iconst (q := 13) (v := 0) rfl rfl rfl ?_
    refine z_iald (q := 14) rfl rfl (Mo_a0 w) (vp0 (by decide) (by decide)) ?_
    rw [moF_a0]
    try rw [nI_clamp (by omega)]
    rw [show A1 1 (0 : Int32).toNatClampNeg = nI c from s1]
    refine z_ic_ge (q := 17) rfl rfl (fun h14 => ?_) (fun h14 => ?_)
    · exact absurd h14 (nI_ge (by omega) (by omega))
    · refine z_aload_n (q := 18) rfl rfl rfl ?_
      refine z_iload_n (q := 19) rfl rfl rfl ?_
      refine z_iload_n (q := 20) rfl rfl rfl ?_
      refine z_iload_n (q := 21) rfl rfl rfl ?_
      refine z_iload (q := 23) rfl rfl rfl ?_
      refine z_cv4i (q := 26) rfl rfl rfl (Mo_k w) (s_Mo_isPatched w hv1 hI hC ha hb he hi2) ?_
      refine z_if_eq (q := 29) rfl rfl (fun h26 => ?_) (fun h26 => ?_)
      · refine z_iinc (q := 49) (L2 := [_, _, _, _, _, _]) rfl rfl rfl rfl ?_
        refine z_goto rfl ?_
        rw [show nI i + Int32.ofInt 1 = nI (i + 1) from (nI_succ i).symm]
        first
          | (have d1 : nmI (q.2.1 e) (nI i) = nmI (paR c a b e q) (nI i) := pa_eq hC hi2 (bz_0.mp h26)
             have e9 : (fo (loG (nI c) l t (q.2.1 e) (paR c a b e q)) (e, q) (i + 1)) = (fo (loG (nI c) l t (q.2.1 e) (paR c a b e q)) (e, q) i) := loG_e d1
             have e8 := fun u => ih (i + 1) F1 A1 u (by omega) r1
             rw [e9] at e8
             exact e8 (.int 0) g1)
          | (have e9 : (fo (loG (nI c) l t (q.2.1 e) (paR c a b e q)) (e, q) (i + 1)) = ((fo (loG (nI c) l t (q.2.1 e) (paR c a b e q)) (e, q) i).2.1, setQ (nI c) l t (fo (loG (nI c) l t (q.2.1 e) (paR c a b e q)) (e, q) i).1 (nI i) (nmI (paR c a b e q) (nI i)) (fo (loG (nI c) l t (q.2.1 e) (paR c a b e q)) (e, q) i).2) := loG_n d1
             have e8 := fun u => ih (i + 1) F2 A2 u (by omega) (mFr_t r1 r2)
             rw [e9] at e8
             exact e8 (.int 0) g2)
      · refine z_aload_n (q := 30) rfl rfl rfl ?_
        refine z_iload (q := 32) rfl rfl rfl ?_
        refine z_iload (q := 34) rfl rfl rfl ?_
        refine z_aload_n (q := 35) rfl rfl rfl ?_
        refine z_iload_n (q := 36) rfl rfl rfl ?_
        refine z_iload (q := 38) rfl rfl rfl ?_
        refine z_cv2i (q := 41) rfl rfl rfl (Mo_k w) (s_Mo_at w (by omega) (by omega)) ?_
        rw [(hv1 b hb).2.2.1 i hi2, ← (pa_ne hC hi2 (bz_n.mp h26)).2]
        have d1 : ¬ nmI (q.2.1 e) (nI i) = nmI (paR c a b e q) (nI i) := (pa_ne hC hi2 (bz_n.mp h26)).1
        rw [df_n d1] at kd
        obtain ⟨y, y1, y2⟩ := nm_16 (paR c a b e q) (show i < 12 by omega)
        have gs := q_Mo_set (sc := sc) (sa := sa) (d := d) (z := z) w g1 k3 hC s1 ((r1.1 15 (by omega) (by omega)).trans hl) ((r1.1 16 (by omega) (by omega)).trans ht) k1 (by omega) hi2 y1
        rw [← y2] at gs
        refine z_cv3qi (q := 44) rfl rfl rfl (Mo_k w) (gs) (fun x9 M9 h9 => ?_)
        obtain ⟨rfl, F2, A2, rfl, r2, g2⟩ := h9
        refine z_istore (q := 46) (L2 := [_, _, _, _, _, _]) rfl rfl rfl rfl ?_
        refine z_iinc (q := 49) (L2 := [_, _, _, _, _, _]) rfl rfl rfl rfl ?_
        refine z_goto rfl ?_
        rw [show nI i + Int32.ofInt 1 = nI (i + 1) from (nI_succ i).symm]
        first
          | (have d1 : nmI (q.2.1 e) (nI i) = nmI (paR c a b e q) (nI i) := pa_eq hC hi2 (bz_0.mp h26)
             have e9 : (fo (loG (nI c) l t (q.2.1 e) (paR c a b e q)) (e, q) (i + 1)) = (fo (loG (nI c) l t (q.2.1 e) (paR c a b e q)) (e, q) i) := loG_e d1
             have e8 := fun u => ih (i + 1) F1 A1 u (by omega) r1
             rw [e9] at e8
             exact e8 (.int 0) g1)
          | (have e9 : (fo (loG (nI c) l t (q.2.1 e) (paR c a b e q)) (e, q) (i + 1)) = ((fo (loG (nI c) l t (q.2.1 e) (paR c a b e q)) (e, q) i).2.1, setQ (nI c) l t (fo (loG (nI c) l t (q.2.1 e) (paR c a b e q)) (e, q) i).1 (nI i) (nmI (paR c a b e q) (nI i)) (fo (loG (nI c) l t (q.2.1 e) (paR c a b e q)) (e, q) i).2) := loG_n d1
             have e8 := fun u => ih (i + 1) F2 A2 u (by omega) (mFr_t r1 r2)
             rw [e9] at e8
             exact e8 (.int 0) g2)
theorem q_Mo_patch {sc : Option (Nat × Nat × (Nat → Int32))} {sa : Nat → Nat} {d : Nat} {M : mz_M} {z : Nat × Nat} {m : Nat} (w : g_Mo M.2.2 m) {F : Nat → Int32} {A : Nat → Nat → Int32} {c : Nat} {q : sQ} {l t : Int32} (hq : mAg c F A q) (hI : qI c q) (hC : c ≤ 12) (hs : A 1 0 = nI c) (hl : F 15 = l) (ht : F 16 = t) (hV : qV c q) {a b e : Nat} (ha : a < q.1) (hb : b < q.1) (he : e < q.1) (hcap : q.1 + dfN (q.2.1 e) (paR c a b e q) c ≤ 200)  : zi sc sa (d + 6) 195 [.ref m, .int (nI a), .int (nI b), .int (nI e)] (moF M m F A) z (mP M m F A c (fo (loG (nI c) l t (q.2.1 e) (paR c a b e q)) (e, q) c).2 (nI (fo (loG (nI c) l t (q.2.1 e) (paR c a b e q)) (e, q) c).1)) := by
  refine zin ym_Mo_patch [.ref m, .int (nI a), .int (nI b), .int (nI e), .retAddr 0, .retAddr 0] rfl rfl rfl rfl ?_
  refine z_iload_n (q := 1) rfl rfl rfl ?_
  refine z_istore (q := 3) (L2 := [_, _, _, _, _, _]) rfl rfl rfl rfl ?_
  refine z_iconst (q := 4) (v := 0) rfl rfl rfl ?_
  refine z_istore (q := 6) (L2 := [_, _, _, _, _, _]) rfl rfl rfl rfl ?_
  exact l_Mo_patch w hq hI hC hs hl ht hV ha hb he hcap c 0 F A (.int 0) (by omega) mFr_r hq
