-- searching by colours
theorem lcA_e {f g f' g' : Nat → Int32} {c n : Nat} (h1 : ∀ v, v < n → f' v = f v) (h2 : ∀ v, v < n → g' v = g v) (h : lcA f g c n) : lcA f' g' c n := by
  intro v hv
  rw [h1 v hv, h2 v hv]
  exact h v hv
theorem okm_e {f f' : Nat → Int32} {n : Nat} (h0 : 0 < n) (h1 : ∀ v, v < n → f' v = f v) (h : okm f n) : okm f' n := by
  refine ⟨by rw [h1 0 h0]; exact h.1, fun v a b => ?_⟩
  rw [h1 v b]
  exact h.2 v a b
theorem qI_e {c : Nat} {q q' : sQ} (e : stE q q') (h : qI c q) : qI c q' := by
  obtain ⟨h1, h2, h3, h4, h5, h6⟩ := h
  unfold qI
  rw [e.1]
  exact ⟨h1, h2, acy_c (fun v hv => (e.2 v hv).2.1) h3, lcA_e (fun v hv => (e.2 v hv).2.1) (fun v hv => (e.2 v hv).2.2.1) h4, okm_e h1 (fun v hv => (e.2 v hv).2.2.2.1) h5, lcA_e (fun v hv => (e.2 v hv).2.2.2.1) (fun v hv => (e.2 v hv).2.2.2.2) h6⟩
def mAd (c : Nat) (F : Nat → Int32) (A : Nat → Nat → Int32) (q : sQ) : Prop := ∃ q', mAg c F A q' ∧ qD 0 q q'
def mPd (M : mz_M) (m : Nat) (F : Nat → Int32) (A : Nat → Nat → Int32) (c : Nat) (q : sQ) (r : Int32) (x : Int32) (M' : mz_M) : Prop := x = r ∧ ∃ F' A', M' = moF M m F' A' ∧ mFr F A F' A' ∧ mAd c F' A' q
theorem d_Mo_read {sc : Option (Nat × Nat × (Nat → Int32))} {sa : Nat → Nat} {d : Nat} {M : mz_M} {z : Nat × Nat} {m : Nat} (w : g_Mo M.2.2 m) {F : Nat → Int32} {A : Nat → Nat → Int32} {c : Nat} {q : sQ} {l t : Int32} (hq : mAd c F A q) (hI : qI c q) (hC : c ≤ 12) (hs : A 1 0 = nI c) (hl : F 15 = l) (ht : F 16 = t) {v i : Nat} (hv : v < q.1) (hi : i < c) : zi sc sa (d + 5) 183 [.ref m, .int (nI v), .int (nI i)] (moF M m F A) z (mPd M m F A c (rdQ (nI c) l t v (nI i) q) (nmI (q.2.1 v) (nI i))) := by
  obtain ⟨q', g, e⟩ := hq
  refine zi_m ?_ (q_Mo_read w g (qI_e e.1 hI) hC hs hl ht (by rw [e.1.1]; exact hv) hi)
  intro x M1 ⟨e1, F', A', e2, e3, e4⟩
  exact ⟨by rw [e1, (e.1.2 v hv).1], F', A', e2, e3, _, e4, qD_rd e hI hv⟩
theorem d_Mo_set {sc : Option (Nat × Nat × (Nat → Int32))} {sa : Nat → Nat} {d : Nat} {M : mz_M} {z : Nat × Nat} {m : Nat} (w : g_Mo M.2.2 m) {F : Nat → Int32} {A : Nat → Nat → Int32} {c : Nat} {q : sQ} {l t : Int32} (hq : mAd c F A q) (hI : qI c q) (hC : c ≤ 12) (hs : A 1 0 = nI c) (hl : F 15 = l) (ht : F 16 = t) {v i y : Nat} (hv : v < q.1) (hn : q.1 ≤ 200) (hi : i < c) (hy : y < 16) : zi sc sa (d + 5) 184 [.ref m, .int (nI v), .int (nI i), .int (nI y)] (moF M m F A) z (mPd M m F A c (setQ (nI c) l t v (nI i) (nI y) q) (nI q.1)) := by
  obtain ⟨q', g, e⟩ := hq
  refine zi_m ?_ (q_Mo_set w g (qI_e e.1 hI) hC hs hl ht (by rw [e.1.1]; exact hv) (by rw [e.1.1]; exact hn) hi hy)
  intro x M1 ⟨e1, F', A', e2, e3, e4⟩
  exact ⟨by rw [e1, e.1.1], F', A', e2, e3, _, e4, qD_set e hI hv⟩
theorem bi_h {p : Int32} : ∀ i, i < 12 → (bi1 p i = 0 ↔ ¬ (p >>> (nI i &&& 31)) &&& 1 = 1) := by
  have a1 : ∀ x : BitVec 32, x &&& 1#32 = if x.getLsbD 0 then 1#32 else 0#32 := by
    intro x
    apply BitVec.eq_of_getLsbD_eq
    intro i hi
    rw [BitVec.getLsbD_and, BitVec.getLsbD_one]
    by_cases e : i = 0
    · subst e
      cases h : x.getLsbD 0 <;> simp
    · cases h : x.getLsbD 0 <;> simp [e]
  have key : ∀ (i : Nat), i < 12 → (bi1 p i).toBitVec = (p.toBitVec >>> i) &&& 1#32 ∧ ((p >>> (nI i &&& 31)) &&& 1).toBitVec = (p.toBitVec.sshiftRight i) &&& 1#32 := by
    intro i hi
    match i, hi with
    | 0, _ => exact ⟨rfl, rfl⟩
    | 1, _ => exact ⟨rfl, rfl⟩
    | 2, _ => exact ⟨rfl, rfl⟩
    | 3, _ => exact ⟨rfl, rfl⟩
    | 4, _ => exact ⟨rfl, rfl⟩
    | 5, _ => exact ⟨rfl, rfl⟩
    | 6, _ => exact ⟨rfl, rfl⟩
    | 7, _ => exact ⟨rfl, rfl⟩
    | 8, _ => exact ⟨rfl, rfl⟩
    | 9, _ => exact ⟨rfl, rfl⟩
    | 10, _ => exact ⟨rfl, rfl⟩
    | 11, _ => exact ⟨rfl, rfl⟩
    | i + 12, h => exact absurd h (by omega)
  intro i hi
  obtain ⟨k1, k2⟩ := key i hi
  rw [a1, BitVec.getLsbD_ushiftRight, Nat.add_zero] at k1
  have e9 : (p.toBitVec.sshiftRight i).getLsbD 0 = p.toBitVec.getLsbD i := by
    rw [BitVec.getLsbD_sshiftRight, if_pos (show i + 0 < 32 by omega)]
    rfl
  rw [a1, e9] at k2
  rw [← Int32.toBitVec_inj, ← Int32.toBitVec_inj, k1, k2]
  cases p.toBitVec.getLsbD i <;> decide
theorem l_Mo_isNone {sc : Option (Nat × Nat × (Nat → Int32))} {sa : Nat → Nat} {d : Nat} {M : mz_M} {z : Nat × Nat} {m : Nat} (w : g_Mo M.2.2 m) {c : Nat} {l t : Int32} (hC : c ≤ 12) {F0 : Nat → Int32} {A0 : Nat → Nat → Int32} (hs : A0 1 0 = nI c) (hl : F0 15 = l) (ht : F0 16 = t) {e f : Nat} (he : e < c) (hf : A0 16 e = nI f) {x : Nat}  : ∀ (k : Nat) (i : Nat) (q : sQ) (F : Nat → Int32) (A : Nat → Nat → Int32), i + k = e → mFr F0 A0 F A → mAd c F A q → qI c q → f < q.1 → zw sc sa (d + 5) ym_Mo_isNone z (fun r' M' => ∃ y, r' = some (.int y) ∧ mPd M m F0 A0 c (isF (nI c) l t f (A0 1 (7 + e)) (nI x) k i q).2 (bz ((isF (nI c) l t f (A0 1 (7 + e)) (nI x) k i q).1 = false)) y M') 2 [.ref m, .int (nI e), .int (nI x), .int (nI i)] [] (moF M m F A) z := by
  intro k
  induction k with
  | zero =>
    intro i q F A hi hfr hq hI hfq
    have e1 : i = e := by omega
    subst e1
    refine z_iload_n (q := 3) rfl rfl rfl ?_
    refine z_iload_n (q := 4) rfl rfl rfl ?_
    refine z_ic_ge (q := 7) rfl rfl (fun h4 => ?_) (fun h4 => ?_)
    · refine z_iconst (q := 47) (v := 0) rfl rfl rfl ?_
      refine z_iretz rfl rfl (rfl) ?_
      exact ⟨_, rfl, (bz_f (show ¬ true = false by decide)).symm, F, A, rfl, hfr, hq⟩
    · exact absurd (Int32.le_refl _) h4
  | succ k ih =>
    intro i q F A hi hfr hq hI hfq
    have m1 := hfr.2 1 (by omega)
    have m16 := hfr.2 16 (by omega)
    have bh := bi_h (p := (A0 1 (7 + e))) i (by omega)
    refine z_iload_n (q := 3) rfl rfl rfl ?_
    refine z_iload_n (q := 4) rfl rfl rfl ?_
    refine z_ic_ge (q := 7) rfl rfl (fun h4 => ?_) (fun h4 => ?_)
    · exact absurd h4 (nI_ge (by omega) (by omega))
    · refine z_aload_n (q := 8) rfl rfl rfl ?_
      refine z_getR (q := 11) rfl rfl rfl (Mo_k w) (Mo_r0 w) ?_
      refine z_bipush (q := 13) (v := 7) rfl rfl rfl ?_
      refine z_iload_n (q := 14) rfl rfl rfl ?_
      refine z_iadd (q := 15) rfl rfl ?_
      rw [show (7 : Int32) + nI e = nI (7 + e) from nI_add 7 e]
      refine z_iald (q := 16) rfl rfl (Mo_a0 w) (by first | assumption | exact vp_in_nI (by omega) (by omega)) ?_
      rw [moF_a0]
      try rw [nI_clamp (by omega)]
      rw [m1]
      refine z_iload_n (q := 17) rfl rfl rfl ?_
      refine z_cs2i (q := 20) rfl rfl rfl (s_Mo_has) ?_
      refine z_if_eq (q := 23) rfl rfl (fun h20 => ?_) (fun h20 => ?_)
      · refine z_iinc (q := 43) (L2 := [_, _, _, _]) rfl rfl rfl rfl ?_
        refine z_goto rfl ?_
        rw [show nI i + Int32.ofInt 1 = nI (i + 1) from (nI_succ i).symm]
        rw [isF_s]
        first
          | (have hzz : bi1 (A0 1 (7 + e)) i = 0 := bh.mpr (bz_0.mp h20)
             rw [if_pos hzz]
             exact ih (i + 1) q F A (by omega) hfr hq hI hfq)
          | (have hzz : ¬ bi1 (A0 1 (7 + e)) i = 0 := fun g => bh.mp g (bz_n.mp h20)
             have hyy : ¬ nmI (q.2.1 f) (nI i) = nI x := h35
             rw [if_neg hzz, if_neg hyy]
             exact ih (i + 1) _ FF AA (by omega) (mFr_t hfr rr) gg (qI_rd hI hfq) hfq)
          | fail "none"
      · refine z_aload_n (q := 24) rfl rfl rfl ?_
        refine z_aload_n (q := 25) rfl rfl rfl ?_
        refine z_getR (q := 28) rfl rfl rfl (Mo_k w) (Mo_r32 w) ?_
        refine z_iload_n (q := 29) rfl rfl rfl ?_
        refine z_iald (q := 30) rfl rfl (Mo_a32 w) (by first | assumption | exact vp_in_nI (by omega) (by omega)) ?_
        rw [moF_a32]
        try rw [nI_clamp (by omega)]
        rw [m16, hf]
        refine z_iload_n (q := 31) rfl rfl rfl ?_
        refine z_cv2qi (q := 34) rfl rfl rfl (Mo_k w) (d_Mo_read w hq hI hC ((congrFun m1 0).trans hs) ((hfr.1 15 (by omega) (by omega)).trans hl) ((hfr.1 16 (by omega) (by omega)).trans ht) hfq (show i < c by omega)) (fun x9 M9 h9 => ?_)
        obtain ⟨rfl, FF, AA, rfl, rr, gg⟩ := h9
        refine z_iload_n (q := 35) rfl rfl rfl ?_
        refine z_ic_ne (q := 38) rfl rfl (fun h35 => ?_) (fun h35 => ?_)
        · refine z_iinc (q := 43) (L2 := [_, _, _, _]) rfl rfl rfl rfl ?_
          refine z_goto rfl ?_
          rw [show nI i + Int32.ofInt 1 = nI (i + 1) from (nI_succ i).symm]
          rw [isF_s]
          first
            | (have hzz : bi1 (A0 1 (7 + e)) i = 0 := bh.mpr (bz_0.mp h20)
               rw [if_pos hzz]
               exact ih (i + 1) q F A (by omega) hfr hq hI hfq)
            | (have hzz : ¬ bi1 (A0 1 (7 + e)) i = 0 := fun g => bh.mp g (bz_n.mp h20)
               have hyy : ¬ nmI (q.2.1 f) (nI i) = nI x := h35
               rw [if_neg hzz, if_neg hyy]
               exact ih (i + 1) _ FF AA (by omega) (mFr_t hfr rr) gg (qI_rd hI hfq) hfq)
            | fail "none"
        · refine z_iconst (q := 39) (v := 1) rfl rfl rfl ?_
          refine z_iretz rfl rfl (rfl) ?_
          rw [isF_s]
          have hzz : ¬ bi1 (A0 1 (7 + e)) i = 0 := fun g => bh.mp g (bz_n.mp h20)
          have hyy : nmI (q.2.1 f) (nI i) = nI x := h35
          rw [if_neg hzz, if_pos hyy]
          exact ⟨_, rfl, (bz_t rfl).symm, FF, AA, rfl, mFr_t hfr rr, gg⟩
theorem d_Mo_isNone {sc : Option (Nat × Nat × (Nat → Int32))} {sa : Nat → Nat} {d : Nat} {M : mz_M} {z : Nat × Nat} {m : Nat} (w : g_Mo M.2.2 m) {c : Nat} {l t : Int32} (hC : c ≤ 12) {F : Nat → Int32} {A : Nat → Nat → Int32} (hs : A 1 0 = nI c) (hl : F 15 = l) (ht : F 16 = t) {e f : Nat} (he : e < c) (hf : A 16 e = nI f) {x : Nat} {q : sQ} (hq : mAd c F A q) (hI : qI c q) (hfq : f < q.1) : zi sc sa (d + 6) 271 [.ref m, .int (nI e), .int (nI x)] (moF M m F A) z (mPd M m F A c (isF (nI c) l t f (A 1 (7 + e)) (nI x) e 0 q).2 (bz ((isF (nI c) l t f (A 1 (7 + e)) (nI x) e 0 q).1 = false))) := by
  refine zin ym_Mo_isNone [.ref m, .int (nI e), .int (nI x), .retAddr 0] rfl rfl rfl rfl ?_
  refine z_iconst (q := 1) (v := 0) rfl rfl rfl ?_
  refine z_istore_n (q := 2) (L2 := [_, _, _, _]) rfl rfl rfl rfl ?_
  exact l_Mo_isNone w hC hs hl ht he hf e 0 q F A (by omega) mFr_r hq hI hfq
def sF (F0 : Nat → Int32) (A0 : Nat → Nat → Int32) (F : Nat → Int32) (A : Nat → Nat → Int32) : Prop := (∀ k, (k < 14 ∨ k = 15 ∨ k = 16 ∨ 17 < k ∧ k < 28 ∨ 30 < k) → F k = F0 k) ∧ ∀ j, (j < 4 ∨ 11 < j ∧ j < 15 ∨ 16 < j) → A j = A0 j
theorem sF_r {F : Nat → Int32} {A : Nat → Nat → Int32} : sF F A F A := ⟨fun _ _ => rfl, fun _ _ => rfl⟩
theorem sF_f {F0 F F' : Nat → Int32} {A0 A A' : Nat → Nat → Int32} (h : sF F0 A0 F A) (g : mFr F A F' A') : sF F0 A0 F' A' := ⟨fun k hk => (g.1 k (by omega) (by omega)).trans (h.1 k hk), fun j hj => (g.2 j (by omega)).trans (h.2 j hj)⟩
def sR (c : Nat) (x : kS) (F : Nat → Int32) (A : Nat → Nat → Int32) : Prop := mAd c F A x.2.2.2.2.2.2 ∧ F 29 = x.2.1 ∧ F 30 = (if x.1 = 3 then -1 else x.1) ∧ ∀ i, (x.1 = 3 ∨ x.1 = 1) → i ≤ x.2.2.2.1 → i < c → A 16 i = x.2.2.2.2.1 i ∧ A 15 i = x.2.2.2.2.2.1 i
theorem mAd_c {c : Nat} {F F' : Nat → Int32} {A A' : Nat → Nat → Int32} {q : sQ} (h : mAd c F A q) (h14 : F' 14 = F 14) (h17 : F' 17 = F 17) (h4 : ∀ j, 4 ≤ j → j ≤ 10 → A' j = A j) : mAd c F' A' q := by
  obtain ⟨q', ⟨g1, g2, g3, g4, g5, g6, g7, g8, g9⟩, e⟩ := h
  refine ⟨q', ⟨h14.trans g1, h17.trans g2, (h4 8 (by omega) (by omega)).trans g3, (h4 9 (by omega) (by omega)).trans g4, (h4 5 (by omega) (by omega)).trans g5, (h4 6 (by omega) (by omega)).trans g6, ?_, ?_, ?_⟩, e⟩
  · rw [h4 4 (by omega) (by omega)]; exact g7
  · rw [h4 7 (by omega) (by omega)]; exact g8
  · unfold lnA
    rw [h4 4 (by omega) (by omega), h4 8 (by omega) (by omega), h4 9 (by omega) (by omega), h4 10 (by omega) (by omega)]
    exact g9
theorem pu_y {s l t : Int32} {j : Nat} {cell x oc : Int32} {q : sQ} (h : q.1 < 200) : puQ s l t j cell x oc q = (nI q.1, oc, setQ s l t j cell x q) := if_pos h
theorem pu_n {s l t : Int32} {j : Nat} {cell x oc : Int32} {q : sQ} (h : ¬ q.1 < 200) : puQ s l t j cell x oc q = (-1, 2, q) := if_neg h
theorem ku_b {n : Nat} {x : kS} {a : Nat} {q : sQ} : kU n x (-1, a, 2, q) = (2, x.2.1, x.2.2.1, x.2.2.2.1, x.2.2.2.2.1, va_up x.2.2.2.2.2.1 x.2.2.2.1 (nI a), q) := by
  unfold kU
  rw [if_pos rfl, if_neg (show ¬ (2 : Int32) = 3 by decide)]
theorem ku_l {n : Nat} {x : kS} {v a : Nat} {q : sQ} (hv : v < 2 ^ 31) (h : x.2.2.2.1 + 1 = n) : kU n x (nI v, a, 3, q) = (1, x.2.1, nI v, x.2.2.2.1 + 1, x.2.2.2.2.1, va_up x.2.2.2.2.2.1 x.2.2.2.1 (nI a), q) := by
  unfold kU
  rw [if_neg (nI_m1 hv), if_pos h, if_pos h, if_pos h, if_pos h]
theorem ku_g {n : Nat} {x : kS} {v a : Nat} {q : sQ} (hv : v < 2 ^ 31) (h : ¬ x.2.2.2.1 + 1 = n) : kU n x (nI v, a, 3, q) = (3, x.2.1, x.2.2.1, x.2.2.2.1 + 1, va_up x.2.2.2.2.1 (x.2.2.2.1 + 1) (nI v), va_up (va_up x.2.2.2.2.2.1 x.2.2.2.1 (nI a)) (x.2.2.2.1 + 1) 0, q) := by
  unfold kU
  rw [if_neg (nI_m1 hv), if_neg h, if_neg h, if_neg h, if_neg h]
theorem ku_0 {n : Nat} {x : kS} {a : Nat} {q : sQ} (h : x.2.2.2.1 = 0) : kU n x (-1, a, 3, q) = (0, x.2.1, x.2.2.1, x.2.2.2.1 - 1, x.2.2.2.2.1, va_up x.2.2.2.2.2.1 x.2.2.2.1 (nI a), q) := by
  unfold kU
  rw [if_pos rfl, if_pos rfl, if_pos h, if_pos h]
theorem ku_1 {n : Nat} {x : kS} {a : Nat} {q : sQ} (h : ¬ x.2.2.2.1 = 0) : kU n x (-1, a, 3, q) = (3, x.2.1 + 1, x.2.2.1, x.2.2.2.1 - 1, x.2.2.2.2.1, va_up x.2.2.2.2.2.1 x.2.2.2.1 (nI a), q) := by
  unfold kU
  rw [if_pos rfl, if_pos rfl, if_neg h, if_neg h]
section
variable {c e f y : Nat} {l t tb lv : Int32} {fr tr : Nat → Int32} {q : sQ}
theorem kp_b (h : ¬ q.1 < 200) : (kU c ((3, tb, lv, e, fr, tr, q) : kS) ((puQ (nI c) l t f (nI e) (nI y) 3 q).1, y, (puQ (nI c) l t f (nI e) (nI y) 3 q).2)) = (2, tb, lv, e, fr, va_up tr e (nI y), q) := by
  rw [pu_n h]
  exact ku_b
theorem kp_l (h : q.1 < 200) (g : e + 1 = c) : (kU c ((3, tb, lv, e, fr, tr, q) : kS) ((puQ (nI c) l t f (nI e) (nI y) 3 q).1, y, (puQ (nI c) l t f (nI e) (nI y) 3 q).2)) = (1, tb, nI q.1, e + 1, fr, va_up tr e (nI y), (setQ (nI c) l t f (nI e) (nI y) q)) := by
  rw [pu_y h]
  exact ku_l (show q.1 < 2 ^ 31 by omega) g
theorem kp_g (h : q.1 < 200) (g : ¬ e + 1 = c) : (kU c ((3, tb, lv, e, fr, tr, q) : kS) ((puQ (nI c) l t f (nI e) (nI y) 3 q).1, y, (puQ (nI c) l t f (nI e) (nI y) 3 q).2)) = (3, tb, lv, e + 1, va_up fr (e + 1) (nI q.1), va_up (va_up tr e (nI y)) (e + 1) 0, (setQ (nI c) l t f (nI e) (nI y) q)) := by
  rw [pu_y h]
  exact ku_g (show q.1 < 2 ^ 31 by omega) g
end
theorem go_in {e c : Nat} (he : e < c) (hC : c ≤ 12) (h : ¬ nI e = nI c - 1) : vp_in (nI (e + 1)) 12 := by
  have g : ¬ e + 1 = c := fun g => h (by rw [← g, nI_pred])
  exact vp_in_nI (by omega) (by omega)
theorem d_Mo_goesOn {sc : Option (Nat × Nat × (Nat → Int32))} {sa : Nat → Nat} {d : Nat} {M : mz_M} {z : Nat × Nat} {m : Nat} (w : g_Mo M.2.2 m) {c : Nat} {l t : Int32} (hC : c ≤ 12) {F : Nat → Int32} {A : Nat → Nat → Int32} (hs : A 1 0 = nI c) (hl : F 15 = l) (ht : F 16 = t) {e f : Nat} (he : e < c) {tb lv : Int32} {fr tr : Nat → Int32} {q : sQ} (hI : qI c q) (hN : q.1 ≤ 200) (hfr : fr e = nI f) (hfq : f < q.1) {y : Nat} (hy : y < 16) (htr : tr e = nI y) (hR : sR c ((3, tb, lv, e, fr, tr, q) : kS) F A)  : zi sc sa (d + 6) 273 [.ref m, .int (nI e)] (moF M m F A) z (fun x M' => ∃ F' A', M' = moF M m F' A' ∧ sF F A F' A' ∧ sR c (kU c ((3, tb, lv, e, fr, tr, q) : kS) ((puQ (nI c) l t f (nI e) (nI y) 3 q).1, y, (puQ (nI c) l t f (nI e) (nI y) 3 q).2)) F' A' ∧ ((kU c ((3, tb, lv, e, fr, tr, q) : kS) ((puQ (nI c) l t f (nI e) (nI y) 3 q).1, y, (puQ (nI c) l t f (nI e) (nI y) 3 q).2)).1 = 3 → x = nI (kU c ((3, tb, lv, e, fr, tr, q) : kS) ((puQ (nI c) l t f (nI e) (nI y) 3 q).1, y, (puQ (nI c) l t f (nI e) (nI y) 3 q).2)).2.2.2.1)) := by
  obtain ⟨hq, r29, r30, rA⟩ := id hR
  obtain ⟨a16, a15⟩ := rA e (Or.inl rfl) (Nat.le_refl _) he
  have a16' : A 16 e = nI f := a16.trans hfr
  have a15' : A 15 e = nI y := a15.trans htr
  have f14 : F 14 = nI q.1 := by
    obtain ⟨q', g, e9⟩ := hq
    rw [g.1, e9.1.1]
  refine zin ym_Mo_goesOn [.ref m, .int (nI e), .retAddr 0] rfl rfl rfl rfl ?_
  refine z_aload_n (q := 1) rfl rfl rfl ?_
  refine z_getI (q := 4) rfl rfl rfl (Mo_k w) ?_
  rw [moF_g14]
  rw [f14]
  refine z_sipush (q := 7) (v := 200) rfl rfl rfl ?_
  refine z_ic_ne (q := 10) rfl rfl (fun h7 => ?_) (fun h7 => ?_)
  · refine z_aload_n (q := 18) rfl rfl rfl ?_
    refine z_aload_n (q := 19) rfl rfl rfl ?_
    refine z_getR (q := 22) rfl rfl rfl (Mo_k w) (Mo_r32 w) ?_
    refine z_iload_n (q := 23) rfl rfl rfl ?_
    refine z_iald (q := 24) rfl rfl (Mo_a32 w) (by first | assumption | exact vp_in_nI (by omega) (by omega)) ?_
    rw [moF_a32]
    try rw [nI_clamp (by omega)]
    rw [a16']
    refine z_iload_n (q := 25) rfl rfl rfl ?_
    refine z_aload_n (q := 26) rfl rfl rfl ?_
    refine z_getR (q := 29) rfl rfl rfl (Mo_k w) (Mo_r31 w) ?_
    refine z_iload_n (q := 30) rfl rfl rfl ?_
    refine z_iald (q := 31) rfl rfl (Mo_a31 w) (by first | assumption | exact vp_in_nI (by omega) (by omega)) ?_
    rw [moF_a31]
    try rw [nI_clamp (by omega)]
    rw [a15']
    have h2 : q.1 < 200 := by
      have g : ¬ q.1 = 200 := fun g => h7 (by rw [g]; rfl)
      omega
    refine z_cv3qi (q := 34) rfl rfl rfl (Mo_k w) (d_Mo_set w hq hI hC hs hl ht hfq (by omega) he hy) (fun x9 M9 h9 => ?_)
    obtain ⟨rfl, FF, AA, rfl, rr, gg⟩ := h9
    refine z_istore_n (q := 35) (L2 := [_, _, _]) rfl rfl rfl rfl ?_
    refine z_iload_n (q := 36) rfl rfl rfl ?_
    refine z_aload_n (q := 37) rfl rfl rfl ?_
    refine z_getR (q := 40) rfl rfl rfl (Mo_k w) (Mo_r0 w) ?_
    refine z_iconst (q := 41) (v := 0) rfl rfl rfl ?_
    refine z_iald (q := 42) rfl rfl (Mo_a0 w) (vp0 (by decide) (by decide)) ?_
    rw [moF_a0]
    try rw [nI_clamp (by omega)]
    rw [show AA 1 (0 : Int32).toNatClampNeg = nI c from (congrFun (rr.2 1 (by omega)) 0).trans hs]
    refine z_iconst (q := 43) (v := 1) rfl rfl rfl ?_
    refine z_isub (q := 44) rfl rfl ?_
    refine z_ic_ne (q := 47) rfl rfl (fun h44 => ?_) (fun h44 => ?_)
    · refine z_aload_n (q := 55) rfl rfl rfl ?_
      refine z_getR (q := 58) rfl rfl rfl (Mo_k w) (Mo_r32 w) ?_
      refine z_iload_n (q := 59) rfl rfl rfl ?_
      refine z_iconst (q := 60) (v := 1) rfl rfl rfl ?_
      refine z_iadd (q := 61) rfl rfl ?_
      rw [nI_1]
      refine z_iload_n (q := 62) rfl rfl rfl ?_
      refine z_iast (q := 63) rfl rfl (Mo_a32 w) (go_in he hC h44) ?_
      rw [moF_w32]
      try rw [nI_clamp (by omega)]
      refine z_aload_n (q := 64) rfl rfl rfl ?_
      refine z_getR (q := 67) rfl rfl rfl (Mo_k w) (Mo_r31 w) ?_
      refine z_iload_n (q := 68) rfl rfl rfl ?_
      refine z_iconst (q := 69) (v := 1) rfl rfl rfl ?_
      refine z_iadd (q := 70) rfl rfl ?_
      rw [nI_1]
      refine z_iconst (q := 71) (v := 0) rfl rfl rfl ?_
      refine z_iast (q := 72) rfl rfl (Mo_a31 w) (go_in he hC h44) ?_
      rw [moF_w31]
      try rw [nI_clamp (by omega)]
      refine z_iload_n (q := 73) rfl rfl rfl ?_
      refine z_iconst (q := 74) (v := 1) rfl rfl rfl ?_
      refine z_iadd (q := 75) rfl rfl ?_
      rw [nI_1]
      refine z_ireti rfl rfl ?_
      have hzz : ¬ nI e = nI c - 1 := h44
      have g2 : ¬ e + 1 = c := fun g => hzz (by rw [← g, nI_pred])
      refine ⟨_, rfl, FF, _, rfl, ⟨fun k hk => rr.1 k (by omega) (by omega), fun j hj => (up_n (by omega)).trans ((up_n (by omega)).trans (rr.2 j (by omega)))⟩, ?_, ?_⟩
      · rw [kp_g h2 g2]
        refine ⟨mAd_c gg rfl rfl (fun j h4 h10 => (up_n (by omega)).trans (up_n (by omega))), (rr.1 29 (by omega) (by omega)).trans r29, (rr.1 30 (by omega) (by omega)).trans r30, fun i _ hie hi => ?_⟩
        have hie2 : i ≤ e + 1 := hie
        show va_up (AA 16) (e + 1) (nI q.1) i = va_up fr (e + 1) (nI q.1) i ∧ va_up (AA 15) (e + 1) 0 i = va_up (va_up tr e (nI y)) (e + 1) 0 i
        rw [rr.2 16 (by omega), rr.2 15 (by omega)]
        by_cases e1 : i = e + 1
        · rw [e1, up_s, up_s, up_s, up_s]
          exact ⟨rfl, rfl⟩
        · rw [up_n e1, up_n e1, up_n e1, up_n e1]
          have g5 := rA i (Or.inl rfl) (show i ≤ e by omega) hi
          refine ⟨g5.1, ?_⟩
          by_cases ei : i = e
          · rw [ei]; exact a15'.trans up_s.symm
          · exact g5.2.trans (up_n ei).symm
      · rw [kp_g h2 g2]
        exact fun _ => rfl
    · refine z_aload_n (q := 48) rfl rfl rfl ?_
      refine z_iconst (q := 49) (v := 1) rfl rfl rfl ?_
      refine z_putI (q := 52) rfl rfl rfl (by decide) rfl rfl (Mo_k w) ?_
      rw [moF_u30]
      refine z_iload_n (q := 53) rfl rfl rfl ?_
      refine z_ireti rfl rfl ?_
      have hzz : nI e = nI c - 1 := h44
      have g2 : e + 1 = c := by
        have g3 : nI c - 1 = nI (c - 1) := by
          have g4 := nI_pred (c - 1)
          rw [show c - 1 + 1 = c by omega] at g4
          exact g4
        rw [g3, nI_eq (by omega) (by omega)] at hzz
        omega
      refine ⟨_, rfl, _, AA, rfl, ⟨fun k hk => (up_n (by omega)).trans (rr.1 k (by omega) (by omega)), fun j hj => rr.2 j (by omega)⟩, ?_, ?_⟩
      · rw [kp_l h2 g2]
        refine ⟨mAd_c gg rfl rfl (fun _ _ _ => rfl), (rr.1 29 (by omega) (by omega)).trans r29, rfl, fun i _ _ hi => ?_⟩
        have g5 := rA i (Or.inl rfl) (show i ≤ e by omega) hi
        rw [rr.2 16 (by omega), rr.2 15 (by omega)]
        refine ⟨g5.1, ?_⟩
        by_cases ei : i = e
        · rw [ei]; exact a15'.trans up_s.symm
        · exact g5.2.trans (up_n ei).symm
      · rw [kp_l h2 g2]
        exact fun h => absurd h (show ¬ (1 : Int32) = 3 by decide)
  · refine z_aload_n (q := 11) rfl rfl rfl ?_
    refine z_iconst (q := 12) (v := 2) rfl rfl rfl ?_
    refine z_putI (q := 15) rfl rfl rfl (by decide) rfl rfl (Mo_k w) ?_
    rw [moF_u30]
    refine z_iload_n (q := 16) rfl rfl rfl ?_
    refine z_ireti rfl rfl ?_
    have hzz : nI q.1 = 200 := h7
    have g2 : ¬ q.1 < 200 := fun g => by
      have g3 := (nI_eq (show q.1 < 2 ^ 31 by omega) (show 200 < 2 ^ 31 by omega)).mp hzz
      omega
    refine ⟨_, rfl, _, A, rfl, ⟨fun k hk => up_n (by omega), fun _ _ => rfl⟩, ?_, ?_⟩
    · rw [kp_b g2]
      exact ⟨mAd_c hq rfl rfl (fun _ _ _ => rfl), r29, rfl, fun i h => absurd h (show ¬ ((2 : Int32) = 3 ∨ (2 : Int32) = 1) by decide)⟩
    · rw [kp_b g2]
      exact fun h => absurd h (show ¬ (2 : Int32) = 3 by decide)
