def gd (e : rS) : Prop := e.2.2.2.2.1 = 0 → e.2.2.2.2.2.1 = 0 ∧ e.2.2.2.2.2.2 = -1
theorem gd_N {sg : Nat → Int32} {t : Nat} {e : rS} (h : gd e) : gd (rN sg t e) := h
theorem gd_Fa {e : rS} {k : Int32} (h : gd e) : gd (rFa e k) := by
  unfold rFa
  split
  · exact fun g => absurd (show (1 : Int32) = 0 from g) (by decide)
  · exact h
theorem gd_Pa {sg : Nat → Int32} {t : Nat} {e : rS} {x : Int32} (h : gd e) : gd (rPa sg t e x) := by
  unfold rPa
  split
  · exact gd_Fa h
  · split
    · exact gd_N h
    · exact h
theorem gd_Nu {sg : Nat → Int32} {t : Nat} {e : rS} {lo up : Int32} (h : gd e) : gd (rNu sg t e lo up).2 := by
  unfold rNu
  split
  · dsimp only
    split
    · split
      · exact gd_N h
      · exact gd_Fa h
    · exact gd_Fa h
  · exact h
theorem gd_Ne {e : rS} {x : Int32} (h : gd e) : gd (rNe e x) := by
  unfold rNe
  split
  · exact gd_Fa h
  · exact h
theorem gd_Nm {sg : Nat → Int32} {t : Nat} {e : rS} {i : Nat} {lo up : Int32} (h : gd e) : gd (rNm sg t e i lo up).2 := gd_Nu (gd_Pa h)
theorem gd_S {sg : Nat → Int32} {t : Nat} {e : rS} (h : gd e) : gd (rS3 sg t e).2 := gd_Nm (gd_Nm (gd_Nm (gd_Pa h)))
theorem gd_if {e : rS} {P : Prop} [Decidable P] {k : Int32} (h : gd e) : gd (if P then rFa e k else e) := by
  split
  · exact gd_Fa h
  · exact h
def okg (T : Nat) (e : rS) : Prop := okr T e ∧ gd e
def oFr (F : Nat → Int32) (A : Nat → Nat → Int32) (F' : Nat → Int32) (A' : Nat → Nat → Int32) : Prop := (∀ k, (k < 14 ∨ 25 < k) → F' k = F k) ∧ ∀ j, (j = 2 ∨ j = 3 ∨ j = 13 ∨ j = 14) → A' j = A j
theorem oFr_r {F : Nat → Int32} {A : Nat → Nat → Int32} : oFr F A F A := ⟨fun _ _ => rfl, fun _ _ => rfl⟩
theorem oFr_u {F F' : Nat → Int32} {A A' : Nat → Nat → Int32} {B : Nat → Int32} (h : oFr F A F' A') : oFr F A F' (va_up A' 1 B) := ⟨h.1, fun j hj => (up_n (by omega)).trans (h.2 j hj)⟩
theorem oFr_t {F1 F2 F3 : Nat → Int32} {A1 A2 A3 : Nat → Nat → Int32} (h : oFr F1 A1 F2 A2) (g : oFr F2 A2 F3 A3) : oFr F1 A1 F3 A3 := ⟨fun k hk => (g.1 k hk).trans (h.1 k hk), fun j hj => (g.2 j hj).trans (h.2 j hj)⟩
def lyR (B : Nat → Int32) (D : Nat) (k v a b : Int32) : Nat → Int32 := va_up (va_up (va_up (va_up (va_up B (19 + 4 * D + 0) k) (19 + 4 * D + 1) v) (19 + 4 * D + 2) a) (19 + 4 * D + 3) b) 4 (nI D + 1)
theorem lyR_1 {A : Nat → Nat → Int32} {D : Nat} {k v a b : Int32} : lyA A D k v a b 1 = lyR (A 1) D k v a b := up_s
theorem lyR_n {A : Nat → Nat → Int32} {D : Nat} {k v a b : Int32} {j : Nat} (h : j ≠ 1) : lyA A D k v a b j = A j := up_n h
theorem l_Mo_tail {sc : Option (Nat × Nat × (Nat → Int32))} {sa : Nat → Nat} {d : Nat} {M : mz_M} {z : Nat × Nat} {m : Nat} (w : g_Mo M.2.2 m) {F : Nat → Int32} {A : Nat → Nat → Int32} {sg : Nat → Int32} {T : Nat} (ht : T ≤ 500) (h3 : F 3 = nI T) (hA : ∀ i, i < T → A 3 i = bt sg T i) {e : rS} (hk : okr T e) {Q : mz_P} (hk2 : zw sc sa (d + 11) ym_Mo_store z Q 58 [.ref m, .int (nI 259)] [] (rq M m F (va_up A 1 (va_up (A 1) 5 (A 1 5 + 1))) (rPa sg T e (bz (¬ e.2.2.2.2.1 = 0 ∨ e.1 = 3)))) z) : zw sc sa (d + 11) ym_Mo_store z Q 113 [.ref m, .int (nI 259)] [] (rq M m F A e) z := by
  refine z_aload_n (q := 114) rfl rfl rfl ?_
  refine z_aload_n (q := 115) rfl rfl rfl ?_
  refine z_getI (q := 118) rfl rfl rfl (Mo_k w) ?_
  rw [rq_g23]
  refine z_if_ne (q := 121) rfl rfl (fun h118 => ?_) (fun h118 => ?_)
  · refine z_iconst (q := 130) (v := 1) rfl rfl rfl ?_
    refine z_goto rfl ?_
    refine z_cv1v (q := 137) rfl rfl rfl (Mo_k w) (t_Mo_passes (d := d + 7) w ht h3 hA hk) ?_
    refine z_aload_n (q := 138) rfl rfl rfl ?_
    refine z_getR (q := 141) rfl rfl rfl (Mo_k w) (Mo_r0 w) ?_
    refine z_iconst (q := 142) (v := 5) rfl rfl rfl ?_
    refine z_dup2 (q := 143) rfl rfl rfl rfl ?_
    refine z_iald (q := 144) rfl rfl (Mo_a0 w) (vp_in_nI (n := 5) (by omega) (by omega)) ?_
    rw [rq_a0]
    try rw [nI_clamp (by omega)]
    refine z_iconst (q := 145) (v := 1) rfl rfl rfl ?_
    refine z_iadd (q := 146) rfl rfl ?_
    refine z_iast (q := 147) rfl rfl (Mo_a0 w) (vp_in_nI (n := 5) (by omega) (by omega)) ?_
    rw [rq_w0]
    try rw [nI_clamp (by omega)]
    refine z_goto rfl ?_
    first
      | (have g1 : ¬ e.2.2.2.2.1 = 0 := h118
         have e9 := hk2
         rw [bz_t (Or.inl g1)] at e9
         exact e9)
      | (have g1 : e.1 = 3 := h126
         have e9 := hk2
         rw [bz_t (Or.inr g1)] at e9
         exact e9)
      | (have g0 : e.2.2.2.2.1 = 0 := h118
         have g1 : ¬ e.1 = 3 := h126
         have e9 := hk2
         rw [bz_f (fun h => h.elim (fun g => g g0) g1)] at e9
         exact e9)
      | fail "none"
  · refine z_aload_n (q := 122) rfl rfl rfl ?_
    refine z_getI (q := 125) rfl rfl rfl (Mo_k w) ?_
    rw [rq_g21]
    refine z_iconst (q := 126) (v := 3) rfl rfl rfl ?_
    refine z_ic_ne (q := 129) rfl rfl (fun h126 => ?_) (fun h126 => ?_)
    · refine z_iconst (q := 134) (v := 0) rfl rfl rfl ?_
      refine z_cv1v (q := 137) rfl rfl rfl (Mo_k w) (t_Mo_passes (d := d + 7) w ht h3 hA hk) ?_
      refine z_aload_n (q := 138) rfl rfl rfl ?_
      refine z_getR (q := 141) rfl rfl rfl (Mo_k w) (Mo_r0 w) ?_
      refine z_iconst (q := 142) (v := 5) rfl rfl rfl ?_
      refine z_dup2 (q := 143) rfl rfl rfl rfl ?_
      refine z_iald (q := 144) rfl rfl (Mo_a0 w) (vp_in_nI (n := 5) (by omega) (by omega)) ?_
      rw [rq_a0]
      try rw [nI_clamp (by omega)]
      refine z_iconst (q := 145) (v := 1) rfl rfl rfl ?_
      refine z_iadd (q := 146) rfl rfl ?_
      refine z_iast (q := 147) rfl rfl (Mo_a0 w) (vp_in_nI (n := 5) (by omega) (by omega)) ?_
      rw [rq_w0]
      try rw [nI_clamp (by omega)]
      refine z_goto rfl ?_
      first
        | (have g1 : ¬ e.2.2.2.2.1 = 0 := h118
           have e9 := hk2
           rw [bz_t (Or.inl g1)] at e9
           exact e9)
        | (have g1 : e.1 = 3 := h126
           have e9 := hk2
           rw [bz_t (Or.inr g1)] at e9
           exact e9)
        | (have g0 : e.2.2.2.2.1 = 0 := h118
           have g1 : ¬ e.1 = 3 := h126
           have e9 := hk2
           rw [bz_f (fun h => h.elim (fun g => g g0) g1)] at e9
           exact e9)
        | fail "none"
    · refine z_iconst (q := 130) (v := 1) rfl rfl rfl ?_
      refine z_goto rfl ?_
      refine z_cv1v (q := 137) rfl rfl rfl (Mo_k w) (t_Mo_passes (d := d + 7) w ht h3 hA hk) ?_
      refine z_aload_n (q := 138) rfl rfl rfl ?_
      refine z_getR (q := 141) rfl rfl rfl (Mo_k w) (Mo_r0 w) ?_
      refine z_iconst (q := 142) (v := 5) rfl rfl rfl ?_
      refine z_dup2 (q := 143) rfl rfl rfl rfl ?_
      refine z_iald (q := 144) rfl rfl (Mo_a0 w) (vp_in_nI (n := 5) (by omega) (by omega)) ?_
      rw [rq_a0]
      try rw [nI_clamp (by omega)]
      refine z_iconst (q := 145) (v := 1) rfl rfl rfl ?_
      refine z_iadd (q := 146) rfl rfl ?_
      refine z_iast (q := 147) rfl rfl (Mo_a0 w) (vp_in_nI (n := 5) (by omega) (by omega)) ?_
      rw [rq_w0]
      try rw [nI_clamp (by omega)]
      refine z_goto rfl ?_
      first
        | (have g1 : ¬ e.2.2.2.2.1 = 0 := h118
           have e9 := hk2
           rw [bz_t (Or.inl g1)] at e9
           exact e9)
        | (have g1 : e.1 = 3 := h126
           have e9 := hk2
           rw [bz_t (Or.inr g1)] at e9
           exact e9)
        | (have g0 : e.2.2.2.2.1 = 0 := h118
           have g1 : ¬ e.1 = 3 := h126
           have e9 := hk2
           rw [bz_f (fun h => h.elim (fun g => g g0) g1)] at e9
           exact e9)
        | fail "none"
theorem l_Mo_lineS {sc : Option (Nat × Nat × (Nat → Int32))} {sa : Nat → Nat} {d : Nat} {M : mz_M} {z : Nat × Nat} {m : Nat} (w : g_Mo M.2.2 m) {F : Nat → Int32} {A : Nat → Nat → Int32} {sg : Nat → Int32} {T : Nat} (ht : T ≤ 500) (h3 : F 3 = nI T) (hA : ∀ i, i < T → A 3 i = bt sg T i) {e : rS} (hk : okr T e) (hg : gd e) {Q : mz_P} (b5 : A 1 5 = 0) {s' : tS} (hr : tR s' (rPa sg T (rS3 sg T e).2 (bz (¬ (rS3 sg T e).2.2.2.2.2.1 = 0 ∨ (rS3 sg T e).2.1 = 3)))) (hk2 : ∀ A' e', oFr F A F A' → tR s' e' → okg T e' → (e'.2.2.2.2.1 = 0 → A' 1 = va_up (va_up (va_up (va_up (A 1) 0 (rS1 sg T e).1) 1 (rS2 sg T e).1) 2 (rS3 sg T e).1) 5 (A 1 5 + 1)) → zw sc sa (d + 11) ym_Mo_store z Q 58 [.ref m, .int (nI 259)] [] (rq M m F A' e') z) : zw sc sa (d + 11) ym_Mo_store z Q 72 [.ref m, .int (nI 259)] [] (rq M m F A e) z := by
  have gs := t_Mo_readsStore (sc := sc) (sa := sa) (d := d + 4) (z := z) (B := A 1) w ht h3 hA hk
  rw [up_e] at gs
  refine z_aload_n (q := 73) rfl rfl rfl ?_
  refine z_getR (q := 76) rfl rfl rfl (Mo_k w) (Mo_r0 w) ?_
  refine z_iconst (q := 77) (v := 5) rfl rfl rfl ?_
  refine z_iald (q := 78) rfl rfl (Mo_a0 w) (vp_in_nI (n := 5) (by omega) (by omega)) ?_
  rw [rq_a0]
  try rw [nI_clamp (by omega)]
  rw [show A 1 (5 : Int32).toNatClampNeg = 0 from b5]
  refine z_if_ne (q := 81) rfl rfl (fun h78 => ?_) (fun h78 => ?_)
  · exact absurd rfl h78
  · refine z_aload_n (q := 82) rfl rfl rfl ?_
    refine z_cv0v (q := 85) rfl rfl rfl (Mo_k w) (gs) ?_
    refine z_goto rfl ?_
    refine l_Mo_tail w ht h3 (hA_u hA) (rS3_ok hk) (hk2 _ _ (oFr_u (oFr_u oFr_r)) hr ⟨rPa_ok (rS3_ok hk), gd_Pa (gd_S hg)⟩ (fun _ => ?_))
    rw [up_s, up_s]
    rw [show va_up (va_up (va_up (A 1) 0 (rS1 sg T e).1) 1 (rS2 sg T e).1) 2 (rS3 sg T e).1 5 = A 1 5 from by rw [up_n (by omega), up_n (by omega), up_n (by omega)]]
theorem pwB_5 {B : Nat → Int32} {i j : Nat} : pwB B i j 5 = B 5 := by
  unfold pwB pw1
  rw [up_n (by omega), up_n (by omega), up_n (by omega)]
theorem if_ok {t : Nat} {e : rS} {P : Prop} [Decidable P] {k : Int32} (h : okr t e) : okr t (if P then rFa e k else e) := by
  split
  · exact rFa_ok h
  · exact h
theorem l_Mo_lineP {sc : Option (Nat × Nat × (Nat → Int32))} {sa : Nat → Nat} {d : Nat} {M : mz_M} {z : Nat × Nat} {m : Nat} (w : g_Mo M.2.2 m) {F : Nat → Int32} {A : Nat → Nat → Int32} {sg : Nat → Int32} {T : Nat} (ht : T ≤ 500) (h3 : F 3 = nI T) (hA : ∀ i, i < T → A 3 i = bt sg T i) {e : rS} (hk : okr T e) (hg : gd e) {Q : mz_P} {c : Nat} (hs : A 1 0 = nI c) (h0 : 0 < c) (hC : c ≤ 12) {ln : Nat} (b5 : A 1 5 = nI ln) (l0 : 0 < ln) (l1 : ln < 1000) (hw : wR sg T e 1 = true) {s' : tS} (hr : tR s' (rPa sg T (rNu sg T (rNe (rNu sg T (rPa sg T (if A 1 3 = 16 then rFa e 3 else e) 1) 0 (nI c - 1)).2 (bz (rpX c (A 1) (rNu sg T (rPa sg T (if A 1 3 = 16 then rFa e 3 else e) 1) 0 (nI c - 1)).1 (rNu sg T (rPa sg T (if A 1 3 = 16 then rFa e 3 else e) 1) 0 (nI c - 1)).2.2.2.2.1))) 0 (nI c - 1)).2 (bz (¬ (rNu sg T (rNe (rNu sg T (rPa sg T (if A 1 3 = 16 then rFa e 3 else e) 1) 0 (nI c - 1)).2 (bz (rpX c (A 1) (rNu sg T (rPa sg T (if A 1 3 = 16 then rFa e 3 else e) 1) 0 (nI c - 1)).1 (rNu sg T (rPa sg T (if A 1 3 = 16 then rFa e 3 else e) 1) 0 (nI c - 1)).2.2.2.2.1))) 0 (nI c - 1)).2.2.2.2.2.1 = 0 ∨ (rNu sg T (rNe (rNu sg T (rPa sg T (if A 1 3 = 16 then rFa e 3 else e) 1) 0 (nI c - 1)).2 (bz (rpX c (A 1) (rNu sg T (rPa sg T (if A 1 3 = 16 then rFa e 3 else e) 1) 0 (nI c - 1)).1 (rNu sg T (rPa sg T (if A 1 3 = 16 then rFa e 3 else e) 1) 0 (nI c - 1)).2.2.2.2.1))) 0 (nI c - 1)).2.1 = 3)))) (hk2 : ∀ A' e', oFr F A F A' → tR s' e' → okg T e' → ((rNu sg T (rNe (rNu sg T (rPa sg T (if A 1 3 = 16 then rFa e 3 else e) 1) 0 (nI c - 1)).2 (bz (rpX c (A 1) (rNu sg T (rPa sg T (if A 1 3 = 16 then rFa e 3 else e) 1) 0 (nI c - 1)).1 (rNu sg T (rPa sg T (if A 1 3 = 16 then rFa e 3 else e) 1) 0 (nI c - 1)).2.2.2.2.1))) 0 (nI c - 1)).2.2.2.2.2.1 = 0 → ∃ i j, i < c ∧ j < c ∧ (rNu sg T (rPa sg T (if A 1 3 = 16 then rFa e 3 else e) 1) 0 (nI c - 1)).1 = nI i ∧ (rNu sg T (rNe (rNu sg T (rPa sg T (if A 1 3 = 16 then rFa e 3 else e) 1) 0 (nI c - 1)).2 (bz (rpX c (A 1) (rNu sg T (rPa sg T (if A 1 3 = 16 then rFa e 3 else e) 1) 0 (nI c - 1)).1 (rNu sg T (rPa sg T (if A 1 3 = 16 then rFa e 3 else e) 1) 0 (nI c - 1)).2.2.2.2.1))) 0 (nI c - 1)).1 = nI j ∧ A' 1 = va_up (pwB (A 1) i j) 5 (A 1 5 + 1)) → zw sc sa (d + 11) ym_Mo_store z Q 58 [.ref m, .int (nI 259)] [] (rq M m F A' e') z) : zw sc sa (d + 11) ym_Mo_store z Q 72 [.ref m, .int (nI 259)] [] (rq M m F A e) z := by
  have gs := t_Mo_readsPair (sc := sc) (sa := sa) (d := d + 4) (z := z) (B := A 1) w ht h3 hA hk hs h0 hC
  rw [up_e] at gs
  have gw := t_Mo_isWord (sc := sc) (sa := sa) (d := d + 6) (z := z) w ht h3 hA hk (i := 1) (by omega)
  rw [bz_t hw] at gw
  have ko : okr T (rNu sg T (rNe (rNu sg T (rPa sg T (if A 1 3 = 16 then rFa e 3 else e) 1) 0 (nI c - 1)).2 (bz (rpX c (A 1) (rNu sg T (rPa sg T (if A 1 3 = 16 then rFa e 3 else e) 1) 0 (nI c - 1)).1 (rNu sg T (rPa sg T (if A 1 3 = 16 then rFa e 3 else e) 1) 0 (nI c - 1)).2.2.2.2.1))) 0 (nI c - 1)).2 := rNu_ok (rNe_ok (rNu_ok (rPa_ok (if_ok hk))))
  refine z_aload_n (q := 73) rfl rfl rfl ?_
  refine z_getR (q := 76) rfl rfl rfl (Mo_k w) (Mo_r0 w) ?_
  refine z_iconst (q := 77) (v := 5) rfl rfl rfl ?_
  refine z_iald (q := 78) rfl rfl (Mo_a0 w) (vp_in_nI (n := 5) (by omega) (by omega)) ?_
  rw [rq_a0]
  try rw [nI_clamp (by omega)]
  rw [show A 1 (5 : Int32).toNatClampNeg = nI ln from b5]
  refine z_if_ne (q := 81) rfl rfl (fun h78 => ?_) (fun h78 => ?_)
  · refine z_aload_n (q := 89) rfl rfl rfl ?_
    refine z_ldcws (q := 92) rfl rfl ?_
    refine z_cv1i (q := 95) rfl rfl rfl (Mo_k w) (gw) ?_
    refine z_if_eq (q := 98) rfl rfl (fun h95 => ?_) (fun h95 => ?_)
    · exact absurd h95 (by decide)
    · refine z_aload_n (q := 99) rfl rfl rfl ?_
      refine z_cv0qv (q := 102) rfl rfl rfl (Mo_k w) (gs) (fun M9 h9 => ?_)
      obtain ⟨B', rfl, hb1, hb2⟩ := h9
      refine z_goto rfl ?_
      refine l_Mo_tail w ht h3 (hA_u hA) ko (hk2 _ _ (oFr_u (oFr_u oFr_r)) hr ⟨rPa_ok ko, gd_Pa (gd_Nu (gd_Ne (gd_Nu (gd_Pa (gd_if hg)))))⟩ (fun hgg => ?_))
      obtain ⟨i, j, hi, hj, e1, e2, e3⟩ := hb2 hgg
      refine ⟨i, j, hi, hj, e1, e2, ?_⟩
      rw [up_s, up_s, e3, pwB_5]
  · exact absurd h78 (nI_0n l0 (by omega))
theorem l_Mo_lineN {sc : Option (Nat × Nat × (Nat → Int32))} {sa : Nat → Nat} {d : Nat} {M : mz_M} {z : Nat × Nat} {m : Nat} (w : g_Mo M.2.2 m) {F : Nat → Int32} {A : Nat → Nat → Int32} {sg : Nat → Int32} {T : Nat} (ht : T ≤ 500) (h3 : F 3 = nI T) (hA : ∀ i, i < T → A 3 i = bt sg T i) {e : rS} (hk : okr T e) (hg : gd e) {Q : mz_P} {ln : Nat} (b5 : A 1 5 = nI ln) (l0 : 0 < ln) (l1 : ln < 1000) (hw : ¬ wR sg T e 1 = true) (hkh : khR sg T e = -1) {s' : tS} (hr : tR s' (rPa sg T (rFa e 1) (bz (¬ (rFa e 1).2.2.2.2.1 = 0 ∨ (rFa e 1).1 = 3)))) (hk2 : ∀ A' e', oFr F A F A' → tR s' e' → okg T e' → zw sc sa (d + 11) ym_Mo_store z Q 58 [.ref m, .int (nI 259)] [] (rq M m F A' e') z) : zw sc sa (d + 11) ym_Mo_store z Q 72 [.ref m, .int (nI 259)] [] (rq M m F A e) z := by
  have gw := t_Mo_isWord (sc := sc) (sa := sa) (d := d + 6) (z := z) w ht h3 hA hk (i := 1) (by omega)
  rw [bz_f hw] at gw
  have gk := t_Mo_kindHere (sc := sc) (sa := sa) (d := d + 5) (z := z) (B := A 1) w ht h3 hA hk
  rw [up_e, hkh] at gk
  refine z_aload_n (q := 73) rfl rfl rfl ?_
  refine z_getR (q := 76) rfl rfl rfl (Mo_k w) (Mo_r0 w) ?_
  refine z_iconst (q := 77) (v := 5) rfl rfl rfl ?_
  refine z_iald (q := 78) rfl rfl (Mo_a0 w) (vp_in_nI (n := 5) (by omega) (by omega)) ?_
  rw [rq_a0]
  try rw [nI_clamp (by omega)]
  rw [show A 1 (5 : Int32).toNatClampNeg = nI ln from b5]
  refine z_if_ne (q := 81) rfl rfl (fun h78 => ?_) (fun h78 => ?_)
  · refine z_aload_n (q := 89) rfl rfl rfl ?_
    refine z_ldcws (q := 92) rfl rfl ?_
    refine z_cv1i (q := 95) rfl rfl rfl (Mo_k w) (gw) ?_
    refine z_if_eq (q := 98) rfl rfl (fun h95 => ?_) (fun h95 => ?_)
    · refine z_aload_n (q := 106) rfl rfl rfl ?_
      refine z_aload_n (q := 107) rfl rfl rfl ?_
      refine z_cv0i (q := 110) rfl rfl rfl (Mo_k w) (gk) ?_
      refine z_cv1v (q := 113) rfl rfl rfl (Mo_k w) (t_Mo_readsDeedN (d := d + 9) w) ?_
      exact l_Mo_tail w ht h3 hA (rFa_ok hk) (hk2 _ _ (oFr_u oFr_r) hr ⟨rPa_ok (rFa_ok hk), gd_Pa (gd_Fa hg)⟩)
    · exact absurd h95 (by decide)
  · exact absurd h78 (nI_0n l0 (by omega))
theorem l_Mo_line0 {sc : Option (Nat × Nat × (Nat → Int32))} {sa : Nat → Nat} {d : Nat} {M : mz_M} {z : Nat × Nat} {m : Nat} (w : g_Mo M.2.2 m) {F : Nat → Int32} {A : Nat → Nat → Int32} {sg : Nat → Int32} {T : Nat} (ht : T ≤ 500) (h3 : F 3 = nI T) (hA : ∀ i, i < T → A 3 i = bt sg T i) {e : rS} (hk : okr T e) (hg : gd e) {Q : mz_P} {ln : Nat} (b5 : A 1 5 = nI ln) (l0 : 0 < ln) (l1 : ln < 1000) (hw : ¬ wR sg T e 1 = true) (hkh : khR sg T e = 0) {c N D : Nat} {l ct : Int32} {K P1 P2 P3 : Nat → Nat} {q : sQ} (hX : mX c N D l ct K P1 P2 P3 q A) (hD : D < 60) {s' : tS} (hr : tR s' (rPa sg T (rNu sg T (rNu sg T (rNu sg T (rPa sg T (if nI D = 30 ∨ nI q.1 = 20 then rFa e 3 else e) 1) 0 (nI q.1 - 1)).2 0 (nI c - 1)).2 0 (nI c - 1)).2 (bz (¬ (rNu sg T (rNu sg T (rNu sg T (rPa sg T (if nI D = 30 ∨ nI q.1 = 20 then rFa e 3 else e) 1) 0 (nI q.1 - 1)).2 0 (nI c - 1)).2 0 (nI c - 1)).2.2.2.2.2.1 = 0 ∨ (rNu sg T (rNu sg T (rNu sg T (rPa sg T (if nI D = 30 ∨ nI q.1 = 20 then rFa e 3 else e) 1) 0 (nI q.1 - 1)).2 0 (nI c - 1)).2 0 (nI c - 1)).2.1 = 3)))) (hk2 : ∀ F' A' e', oFr F A F' A' → tR s' e' → okg T e' → ((rNu sg T (rNu sg T (rNu sg T (rPa sg T (if nI D = 30 ∨ nI q.1 = 20 then rFa e 3 else e) 1) 0 (nI q.1 - 1)).2 0 (nI c - 1)).2 0 (nI c - 1)).2.2.2.2.2.1 = 0 → A' 1 = va_up (lyR (A 1) D 0 (rNu sg T (rPa sg T (if nI D = 30 ∨ nI q.1 = 20 then rFa e 3 else e) 1) 0 (nI q.1 - 1)).1 (rNu sg T (rNu sg T (rPa sg T (if nI D = 30 ∨ nI q.1 = 20 then rFa e 3 else e) 1) 0 (nI q.1 - 1)).2 0 (nI c - 1)).1 (rNu sg T (rNu sg T (rNu sg T (rPa sg T (if nI D = 30 ∨ nI q.1 = 20 then rFa e 3 else e) 1) 0 (nI q.1 - 1)).2 0 (nI c - 1)).2 0 (nI c - 1)).1) 5 (A 1 5 + 1)) → zw sc sa (d + 11) ym_Mo_store z Q 58 [.ref m, .int (nI 259)] [] (rq M m F' A' e') z) : zw sc sa (d + 11) ym_Mo_store z Q 72 [.ref m, .int (nI 259)] [] (rq M m F A e) z := by
  have gw := t_Mo_isWord (sc := sc) (sa := sa) (d := d + 6) (z := z) w ht h3 hA hk (i := 1) (by omega)
  rw [bz_f hw] at gw
  have gk := t_Mo_kindHere (sc := sc) (sa := sa) (d := d + 5) (z := z) (B := A 1) w ht h3 hA hk
  rw [up_e, hkh] at gk
  have gd1 := t_Mo_readsDeed0 (sc := sc) (sa := sa) (d := d) (z := z) w ht h3 hA hk hX hD
  have ko : okr T (rNu sg T (rNu sg T (rNu sg T (rPa sg T (if nI D = 30 ∨ nI q.1 = 20 then rFa e 3 else e) 1) 0 (nI q.1 - 1)).2 0 (nI c - 1)).2 0 (nI c - 1)).2 := rNu_ok (rNu_ok (rNu_ok (rPa_ok (if_ok hk))))
  have kg : gd (rNu sg T (rNu sg T (rNu sg T (rPa sg T (if nI D = 30 ∨ nI q.1 = 20 then rFa e 3 else e) 1) 0 (nI q.1 - 1)).2 0 (nI c - 1)).2 0 (nI c - 1)).2 := gd_Nu (gd_Nu (gd_Nu (gd_Pa (gd_if hg))))
  generalize hE : (rNu sg T (rNu sg T (rNu sg T (rPa sg T (if nI D = 30 ∨ nI q.1 = 20 then rFa e 3 else e) 1) 0 (nI q.1 - 1)).2 0 (nI c - 1)).2 0 (nI c - 1)).2 = E1 at gd1 ko kg hr hk2
  refine z_aload_n (q := 73) rfl rfl rfl ?_
  refine z_getR (q := 76) rfl rfl rfl (Mo_k w) (Mo_r0 w) ?_
  refine z_iconst (q := 77) (v := 5) rfl rfl rfl ?_
  refine z_iald (q := 78) rfl rfl (Mo_a0 w) (vp_in_nI (n := 5) (by omega) (by omega)) ?_
  rw [rq_a0]
  try rw [nI_clamp (by omega)]
  rw [show A 1 (5 : Int32).toNatClampNeg = nI ln from b5]
  refine z_if_ne (q := 81) rfl rfl (fun h78 => ?_) (fun h78 => ?_)
  · refine z_aload_n (q := 89) rfl rfl rfl ?_
    refine z_ldcws (q := 92) rfl rfl ?_
    refine z_cv1i (q := 95) rfl rfl rfl (Mo_k w) (gw) ?_
    refine z_if_eq (q := 98) rfl rfl (fun h95 => ?_) (fun h95 => ?_)
    · refine z_aload_n (q := 106) rfl rfl rfl ?_
      refine z_aload_n (q := 107) rfl rfl rfl ?_
      refine z_cv0i (q := 110) rfl rfl rfl (Mo_k w) (gk) ?_
      refine z_cv1qv (q := 113) rfl rfl rfl (Mo_k w) (gd1) (fun M9 h9 => ?_)
      obtain ⟨F', A', rfl, wk, wj⟩ := h9
      have hf : oFr F A F' (if E1.2.2.2.2.1 = 0 then lyA A' D 0 (rNu sg T (rPa sg T (if nI D = 30 ∨ nI q.1 = 20 then rFa e 3 else e) 1) 0 (nI q.1 - 1)).1 (rNu sg T (rNu sg T (rPa sg T (if nI D = 30 ∨ nI q.1 = 20 then rFa e 3 else e) 1) 0 (nI q.1 - 1)).2 0 (nI c - 1)).1 (rNu sg T (rNu sg T (rNu sg T (rPa sg T (if nI D = 30 ∨ nI q.1 = 20 then rFa e 3 else e) 1) 0 (nI q.1 - 1)).2 0 (nI c - 1)).2 0 (nI c - 1)).1 else A') := by
        refine ⟨wk, fun j hj => ?_⟩
        split
        · rw [lyR_n (by omega)]; exact wj j (by omega)
        · exact wj j (by omega)
      refine l_Mo_tail w ht ((wk 3 (by omega)).trans h3) (fun i hi => by rw [hf.2 3 (by omega)]; exact hA i hi) ko (hk2 _ _ _ (oFr_u hf) hr ⟨rPa_ok ko, gd_Pa kg⟩ (fun hgg => ?_))
      rw [up_s, if_pos hgg, lyR_1, wj 1 (by omega)]
      rw [show lyR (A 1) D 0 (rNu sg T (rPa sg T (if nI D = 30 ∨ nI q.1 = 20 then rFa e 3 else e) 1) 0 (nI q.1 - 1)).1 (rNu sg T (rNu sg T (rPa sg T (if nI D = 30 ∨ nI q.1 = 20 then rFa e 3 else e) 1) 0 (nI q.1 - 1)).2 0 (nI c - 1)).1 (rNu sg T (rNu sg T (rNu sg T (rPa sg T (if nI D = 30 ∨ nI q.1 = 20 then rFa e 3 else e) 1) 0 (nI q.1 - 1)).2 0 (nI c - 1)).2 0 (nI c - 1)).1 5 = A 1 5 from by unfold lyR; rw [up_n (by omega), up_n (by omega), up_n (by omega), up_n (by omega), up_n (by omega)]]
    · exact absurd h95 (by decide)
  · exact absurd h78 (nI_0n l0 (by omega))
theorem l_Mo_line1 {sc : Option (Nat × Nat × (Nat → Int32))} {sa : Nat → Nat} {d : Nat} {M : mz_M} {z : Nat × Nat} {m : Nat} (w : g_Mo M.2.2 m) {F : Nat → Int32} {A : Nat → Nat → Int32} {sg : Nat → Int32} {T : Nat} (ht : T ≤ 500) (h3 : F 3 = nI T) (hA : ∀ i, i < T → A 3 i = bt sg T i) {e : rS} (hk : okr T e) (hg : gd e) {Q : mz_P} {ln : Nat} (b5 : A 1 5 = nI ln) (l0 : 0 < ln) (l1 : ln < 1000) (hw : ¬ wR sg T e 1 = true) (hkh : khR sg T e = 1) {c N D : Nat} {l ct : Int32} {K P1 P2 P3 : Nat → Nat} {q : sQ} (hX : mX c N D l ct K P1 P2 P3 q A) (hD : D < 60) {s' : tS} (hr : tR s' (rPa sg T (rNu sg T (rNe (rNu sg T (rNu sg T (rPa sg T (if nI D = 30 ∨ nI q.1 = 20 then rFa e 3 else e) 1) 0 (nI q.1 - 1)).2 0 (nI c - 1)).2 (bz (rjX c q (rNu sg T (rPa sg T (if nI D = 30 ∨ nI q.1 = 20 then rFa e 3 else e) 1) 0 (nI q.1 - 1)).1 (rNu sg T (rNu sg T (rPa sg T (if nI D = 30 ∨ nI q.1 = 20 then rFa e 3 else e) 1) 0 (nI q.1 - 1)).2 0 (nI c - 1)).1 (rNu sg T (rNu sg T (rPa sg T (if nI D = 30 ∨ nI q.1 = 20 then rFa e 3 else e) 1) 0 (nI q.1 - 1)).2 0 (nI c - 1)).2.2.2.2.1))) 0 (nI c - 1)).2 (bz (¬ (rNu sg T (rNe (rNu sg T (rNu sg T (rPa sg T (if nI D = 30 ∨ nI q.1 = 20 then rFa e 3 else e) 1) 0 (nI q.1 - 1)).2 0 (nI c - 1)).2 (bz (rjX c q (rNu sg T (rPa sg T (if nI D = 30 ∨ nI q.1 = 20 then rFa e 3 else e) 1) 0 (nI q.1 - 1)).1 (rNu sg T (rNu sg T (rPa sg T (if nI D = 30 ∨ nI q.1 = 20 then rFa e 3 else e) 1) 0 (nI q.1 - 1)).2 0 (nI c - 1)).1 (rNu sg T (rNu sg T (rPa sg T (if nI D = 30 ∨ nI q.1 = 20 then rFa e 3 else e) 1) 0 (nI q.1 - 1)).2 0 (nI c - 1)).2.2.2.2.1))) 0 (nI c - 1)).2.2.2.2.2.1 = 0 ∨ (rNu sg T (rNe (rNu sg T (rNu sg T (rPa sg T (if nI D = 30 ∨ nI q.1 = 20 then rFa e 3 else e) 1) 0 (nI q.1 - 1)).2 0 (nI c - 1)).2 (bz (rjX c q (rNu sg T (rPa sg T (if nI D = 30 ∨ nI q.1 = 20 then rFa e 3 else e) 1) 0 (nI q.1 - 1)).1 (rNu sg T (rNu sg T (rPa sg T (if nI D = 30 ∨ nI q.1 = 20 then rFa e 3 else e) 1) 0 (nI q.1 - 1)).2 0 (nI c - 1)).1 (rNu sg T (rNu sg T (rPa sg T (if nI D = 30 ∨ nI q.1 = 20 then rFa e 3 else e) 1) 0 (nI q.1 - 1)).2 0 (nI c - 1)).2.2.2.2.1))) 0 (nI c - 1)).2.1 = 3)))) (hk2 : ∀ F' A' e', oFr F A F' A' → tR s' e' → okg T e' → ((rNu sg T (rNe (rNu sg T (rNu sg T (rPa sg T (if nI D = 30 ∨ nI q.1 = 20 then rFa e 3 else e) 1) 0 (nI q.1 - 1)).2 0 (nI c - 1)).2 (bz (rjX c q (rNu sg T (rPa sg T (if nI D = 30 ∨ nI q.1 = 20 then rFa e 3 else e) 1) 0 (nI q.1 - 1)).1 (rNu sg T (rNu sg T (rPa sg T (if nI D = 30 ∨ nI q.1 = 20 then rFa e 3 else e) 1) 0 (nI q.1 - 1)).2 0 (nI c - 1)).1 (rNu sg T (rNu sg T (rPa sg T (if nI D = 30 ∨ nI q.1 = 20 then rFa e 3 else e) 1) 0 (nI q.1 - 1)).2 0 (nI c - 1)).2.2.2.2.1))) 0 (nI c - 1)).2.2.2.2.2.1 = 0 → A' 1 = va_up (lyR (A 1) D 1 (rNu sg T (rPa sg T (if nI D = 30 ∨ nI q.1 = 20 then rFa e 3 else e) 1) 0 (nI q.1 - 1)).1 (rNu sg T (rNu sg T (rPa sg T (if nI D = 30 ∨ nI q.1 = 20 then rFa e 3 else e) 1) 0 (nI q.1 - 1)).2 0 (nI c - 1)).1 (rNu sg T (rNe (rNu sg T (rNu sg T (rPa sg T (if nI D = 30 ∨ nI q.1 = 20 then rFa e 3 else e) 1) 0 (nI q.1 - 1)).2 0 (nI c - 1)).2 (bz (rjX c q (rNu sg T (rPa sg T (if nI D = 30 ∨ nI q.1 = 20 then rFa e 3 else e) 1) 0 (nI q.1 - 1)).1 (rNu sg T (rNu sg T (rPa sg T (if nI D = 30 ∨ nI q.1 = 20 then rFa e 3 else e) 1) 0 (nI q.1 - 1)).2 0 (nI c - 1)).1 (rNu sg T (rNu sg T (rPa sg T (if nI D = 30 ∨ nI q.1 = 20 then rFa e 3 else e) 1) 0 (nI q.1 - 1)).2 0 (nI c - 1)).2.2.2.2.1))) 0 (nI c - 1)).1) 5 (A 1 5 + 1)) → zw sc sa (d + 11) ym_Mo_store z Q 58 [.ref m, .int (nI 259)] [] (rq M m F' A' e') z) : zw sc sa (d + 11) ym_Mo_store z Q 72 [.ref m, .int (nI 259)] [] (rq M m F A e) z := by
  have gw := t_Mo_isWord (sc := sc) (sa := sa) (d := d + 6) (z := z) w ht h3 hA hk (i := 1) (by omega)
  rw [bz_f hw] at gw
  have gk := t_Mo_kindHere (sc := sc) (sa := sa) (d := d + 5) (z := z) (B := A 1) w ht h3 hA hk
  rw [up_e, hkh] at gk
  have gd1 := t_Mo_readsDeed1 (sc := sc) (sa := sa) (d := d) (z := z) w ht h3 hA hk hX hD
  have ko : okr T (rNu sg T (rNe (rNu sg T (rNu sg T (rPa sg T (if nI D = 30 ∨ nI q.1 = 20 then rFa e 3 else e) 1) 0 (nI q.1 - 1)).2 0 (nI c - 1)).2 (bz (rjX c q (rNu sg T (rPa sg T (if nI D = 30 ∨ nI q.1 = 20 then rFa e 3 else e) 1) 0 (nI q.1 - 1)).1 (rNu sg T (rNu sg T (rPa sg T (if nI D = 30 ∨ nI q.1 = 20 then rFa e 3 else e) 1) 0 (nI q.1 - 1)).2 0 (nI c - 1)).1 (rNu sg T (rNu sg T (rPa sg T (if nI D = 30 ∨ nI q.1 = 20 then rFa e 3 else e) 1) 0 (nI q.1 - 1)).2 0 (nI c - 1)).2.2.2.2.1))) 0 (nI c - 1)).2 := rNu_ok (rNe_ok (rNu_ok (rNu_ok (rPa_ok (if_ok hk)))))
  have kg : gd (rNu sg T (rNe (rNu sg T (rNu sg T (rPa sg T (if nI D = 30 ∨ nI q.1 = 20 then rFa e 3 else e) 1) 0 (nI q.1 - 1)).2 0 (nI c - 1)).2 (bz (rjX c q (rNu sg T (rPa sg T (if nI D = 30 ∨ nI q.1 = 20 then rFa e 3 else e) 1) 0 (nI q.1 - 1)).1 (rNu sg T (rNu sg T (rPa sg T (if nI D = 30 ∨ nI q.1 = 20 then rFa e 3 else e) 1) 0 (nI q.1 - 1)).2 0 (nI c - 1)).1 (rNu sg T (rNu sg T (rPa sg T (if nI D = 30 ∨ nI q.1 = 20 then rFa e 3 else e) 1) 0 (nI q.1 - 1)).2 0 (nI c - 1)).2.2.2.2.1))) 0 (nI c - 1)).2 := gd_Nu (gd_Ne (gd_Nu (gd_Nu (gd_Pa (gd_if hg)))))
  generalize hE : (rNu sg T (rNe (rNu sg T (rNu sg T (rPa sg T (if nI D = 30 ∨ nI q.1 = 20 then rFa e 3 else e) 1) 0 (nI q.1 - 1)).2 0 (nI c - 1)).2 (bz (rjX c q (rNu sg T (rPa sg T (if nI D = 30 ∨ nI q.1 = 20 then rFa e 3 else e) 1) 0 (nI q.1 - 1)).1 (rNu sg T (rNu sg T (rPa sg T (if nI D = 30 ∨ nI q.1 = 20 then rFa e 3 else e) 1) 0 (nI q.1 - 1)).2 0 (nI c - 1)).1 (rNu sg T (rNu sg T (rPa sg T (if nI D = 30 ∨ nI q.1 = 20 then rFa e 3 else e) 1) 0 (nI q.1 - 1)).2 0 (nI c - 1)).2.2.2.2.1))) 0 (nI c - 1)).2 = E1 at gd1 ko kg hr hk2
  refine z_aload_n (q := 73) rfl rfl rfl ?_
  refine z_getR (q := 76) rfl rfl rfl (Mo_k w) (Mo_r0 w) ?_
  refine z_iconst (q := 77) (v := 5) rfl rfl rfl ?_
  refine z_iald (q := 78) rfl rfl (Mo_a0 w) (vp_in_nI (n := 5) (by omega) (by omega)) ?_
  rw [rq_a0]
  try rw [nI_clamp (by omega)]
  rw [show A 1 (5 : Int32).toNatClampNeg = nI ln from b5]
  refine z_if_ne (q := 81) rfl rfl (fun h78 => ?_) (fun h78 => ?_)
  · refine z_aload_n (q := 89) rfl rfl rfl ?_
    refine z_ldcws (q := 92) rfl rfl ?_
    refine z_cv1i (q := 95) rfl rfl rfl (Mo_k w) (gw) ?_
    refine z_if_eq (q := 98) rfl rfl (fun h95 => ?_) (fun h95 => ?_)
    · refine z_aload_n (q := 106) rfl rfl rfl ?_
      refine z_aload_n (q := 107) rfl rfl rfl ?_
      refine z_cv0i (q := 110) rfl rfl rfl (Mo_k w) (gk) ?_
      refine z_cv1qv (q := 113) rfl rfl rfl (Mo_k w) (gd1) (fun M9 h9 => ?_)
      obtain ⟨F', A', rfl, wk, wj⟩ := h9
      have hf : oFr F A F' (if E1.2.2.2.2.1 = 0 then lyA A' D 1 (rNu sg T (rPa sg T (if nI D = 30 ∨ nI q.1 = 20 then rFa e 3 else e) 1) 0 (nI q.1 - 1)).1 (rNu sg T (rNu sg T (rPa sg T (if nI D = 30 ∨ nI q.1 = 20 then rFa e 3 else e) 1) 0 (nI q.1 - 1)).2 0 (nI c - 1)).1 (rNu sg T (rNe (rNu sg T (rNu sg T (rPa sg T (if nI D = 30 ∨ nI q.1 = 20 then rFa e 3 else e) 1) 0 (nI q.1 - 1)).2 0 (nI c - 1)).2 (bz (rjX c q (rNu sg T (rPa sg T (if nI D = 30 ∨ nI q.1 = 20 then rFa e 3 else e) 1) 0 (nI q.1 - 1)).1 (rNu sg T (rNu sg T (rPa sg T (if nI D = 30 ∨ nI q.1 = 20 then rFa e 3 else e) 1) 0 (nI q.1 - 1)).2 0 (nI c - 1)).1 (rNu sg T (rNu sg T (rPa sg T (if nI D = 30 ∨ nI q.1 = 20 then rFa e 3 else e) 1) 0 (nI q.1 - 1)).2 0 (nI c - 1)).2.2.2.2.1))) 0 (nI c - 1)).1 else A') := by
        refine ⟨wk, fun j hj => ?_⟩
        split
        · rw [lyR_n (by omega)]; exact wj j (by omega)
        · exact wj j (by omega)
      refine l_Mo_tail w ht ((wk 3 (by omega)).trans h3) (fun i hi => by rw [hf.2 3 (by omega)]; exact hA i hi) ko (hk2 _ _ _ (oFr_u hf) hr ⟨rPa_ok ko, gd_Pa kg⟩ (fun hgg => ?_))
      rw [up_s, if_pos hgg, lyR_1, wj 1 (by omega)]
      rw [show lyR (A 1) D 1 (rNu sg T (rPa sg T (if nI D = 30 ∨ nI q.1 = 20 then rFa e 3 else e) 1) 0 (nI q.1 - 1)).1 (rNu sg T (rNu sg T (rPa sg T (if nI D = 30 ∨ nI q.1 = 20 then rFa e 3 else e) 1) 0 (nI q.1 - 1)).2 0 (nI c - 1)).1 (rNu sg T (rNe (rNu sg T (rNu sg T (rPa sg T (if nI D = 30 ∨ nI q.1 = 20 then rFa e 3 else e) 1) 0 (nI q.1 - 1)).2 0 (nI c - 1)).2 (bz (rjX c q (rNu sg T (rPa sg T (if nI D = 30 ∨ nI q.1 = 20 then rFa e 3 else e) 1) 0 (nI q.1 - 1)).1 (rNu sg T (rNu sg T (rPa sg T (if nI D = 30 ∨ nI q.1 = 20 then rFa e 3 else e) 1) 0 (nI q.1 - 1)).2 0 (nI c - 1)).1 (rNu sg T (rNu sg T (rPa sg T (if nI D = 30 ∨ nI q.1 = 20 then rFa e 3 else e) 1) 0 (nI q.1 - 1)).2 0 (nI c - 1)).2.2.2.2.1))) 0 (nI c - 1)).1 5 = A 1 5 from by unfold lyR; rw [up_n (by omega), up_n (by omega), up_n (by omega), up_n (by omega), up_n (by omega)]]
    · exact absurd h95 (by decide)
  · exact absurd h78 (nI_0n l0 (by omega))
theorem l_Mo_line2 {sc : Option (Nat × Nat × (Nat → Int32))} {sa : Nat → Nat} {d : Nat} {M : mz_M} {z : Nat × Nat} {m : Nat} (w : g_Mo M.2.2 m) {F : Nat → Int32} {A : Nat → Nat → Int32} {sg : Nat → Int32} {T : Nat} (ht : T ≤ 500) (h3 : F 3 = nI T) (hA : ∀ i, i < T → A 3 i = bt sg T i) {e : rS} (hk : okr T e) (hg : gd e) {Q : mz_P} {ln : Nat} (b5 : A 1 5 = nI ln) (l0 : 0 < ln) (l1 : ln < 1000) (hw : ¬ wR sg T e 1 = true) (hkh : khR sg T e = 2) {c N D : Nat} {l ct : Int32} {K P1 P2 P3 : Nat → Nat} {q : sQ} (hX : mX c N D l ct K P1 P2 P3 q A) (hD : D < 60) {s' : tS} (hr : tR s' (rPa sg T (rNu sg T (rNu sg T (rPa sg T (if nI D = 30 then rFa e 3 else e) 1) 0 (nI q.1 - 1)).2 0 (nI c - 1)).2 (bz (¬ (rNu sg T (rNu sg T (rPa sg T (if nI D = 30 then rFa e 3 else e) 1) 0 (nI q.1 - 1)).2 0 (nI c - 1)).2.2.2.2.2.1 = 0 ∨ (rNu sg T (rNu sg T (rPa sg T (if nI D = 30 then rFa e 3 else e) 1) 0 (nI q.1 - 1)).2 0 (nI c - 1)).2.1 = 3)))) (hk2 : ∀ F' A' e', oFr F A F' A' → tR s' e' → okg T e' → ((rNu sg T (rNu sg T (rPa sg T (if nI D = 30 then rFa e 3 else e) 1) 0 (nI q.1 - 1)).2 0 (nI c - 1)).2.2.2.2.2.1 = 0 → A' 1 = va_up (lyR (A 1) D 2 (rNu sg T (rPa sg T (if nI D = 30 then rFa e 3 else e) 1) 0 (nI q.1 - 1)).1 (rNu sg T (rNu sg T (rPa sg T (if nI D = 30 then rFa e 3 else e) 1) 0 (nI q.1 - 1)).2 0 (nI c - 1)).1 0) 5 (A 1 5 + 1)) → zw sc sa (d + 11) ym_Mo_store z Q 58 [.ref m, .int (nI 259)] [] (rq M m F' A' e') z) : zw sc sa (d + 11) ym_Mo_store z Q 72 [.ref m, .int (nI 259)] [] (rq M m F A e) z := by
  have gw := t_Mo_isWord (sc := sc) (sa := sa) (d := d + 6) (z := z) w ht h3 hA hk (i := 1) (by omega)
  rw [bz_f hw] at gw
  have gk := t_Mo_kindHere (sc := sc) (sa := sa) (d := d + 5) (z := z) (B := A 1) w ht h3 hA hk
  rw [up_e, hkh] at gk
  have gd1 := t_Mo_readsDeed2 (sc := sc) (sa := sa) (d := d) (z := z) w ht h3 hA hk hX hD
  have ko : okr T (rNu sg T (rNu sg T (rPa sg T (if nI D = 30 then rFa e 3 else e) 1) 0 (nI q.1 - 1)).2 0 (nI c - 1)).2 := rNu_ok (rNu_ok (rPa_ok (if_ok hk)))
  have kg : gd (rNu sg T (rNu sg T (rPa sg T (if nI D = 30 then rFa e 3 else e) 1) 0 (nI q.1 - 1)).2 0 (nI c - 1)).2 := gd_Nu (gd_Nu (gd_Pa (gd_if hg)))
  generalize hE : (rNu sg T (rNu sg T (rPa sg T (if nI D = 30 then rFa e 3 else e) 1) 0 (nI q.1 - 1)).2 0 (nI c - 1)).2 = E1 at gd1 ko kg hr hk2
  refine z_aload_n (q := 73) rfl rfl rfl ?_
  refine z_getR (q := 76) rfl rfl rfl (Mo_k w) (Mo_r0 w) ?_
  refine z_iconst (q := 77) (v := 5) rfl rfl rfl ?_
  refine z_iald (q := 78) rfl rfl (Mo_a0 w) (vp_in_nI (n := 5) (by omega) (by omega)) ?_
  rw [rq_a0]
  try rw [nI_clamp (by omega)]
  rw [show A 1 (5 : Int32).toNatClampNeg = nI ln from b5]
  refine z_if_ne (q := 81) rfl rfl (fun h78 => ?_) (fun h78 => ?_)
  · refine z_aload_n (q := 89) rfl rfl rfl ?_
    refine z_ldcws (q := 92) rfl rfl ?_
    refine z_cv1i (q := 95) rfl rfl rfl (Mo_k w) (gw) ?_
    refine z_if_eq (q := 98) rfl rfl (fun h95 => ?_) (fun h95 => ?_)
    · refine z_aload_n (q := 106) rfl rfl rfl ?_
      refine z_aload_n (q := 107) rfl rfl rfl ?_
      refine z_cv0i (q := 110) rfl rfl rfl (Mo_k w) (gk) ?_
      refine z_cv1qv (q := 113) rfl rfl rfl (Mo_k w) (gd1) (fun M9 h9 => ?_)
      obtain ⟨F', A', rfl, wk, wj⟩ := h9
      have hf : oFr F A F' (if E1.2.2.2.2.1 = 0 then lyA A' D 2 (rNu sg T (rPa sg T (if nI D = 30 then rFa e 3 else e) 1) 0 (nI q.1 - 1)).1 (rNu sg T (rNu sg T (rPa sg T (if nI D = 30 then rFa e 3 else e) 1) 0 (nI q.1 - 1)).2 0 (nI c - 1)).1 0 else A') := by
        refine ⟨wk, fun j hj => ?_⟩
        split
        · rw [lyR_n (by omega)]; exact wj j (by omega)
        · exact wj j (by omega)
      refine l_Mo_tail w ht ((wk 3 (by omega)).trans h3) (fun i hi => by rw [hf.2 3 (by omega)]; exact hA i hi) ko (hk2 _ _ _ (oFr_u hf) hr ⟨rPa_ok ko, gd_Pa kg⟩ (fun hgg => ?_))
      rw [up_s, if_pos hgg, lyR_1, wj 1 (by omega)]
      rw [show lyR (A 1) D 2 (rNu sg T (rPa sg T (if nI D = 30 then rFa e 3 else e) 1) 0 (nI q.1 - 1)).1 (rNu sg T (rNu sg T (rPa sg T (if nI D = 30 then rFa e 3 else e) 1) 0 (nI q.1 - 1)).2 0 (nI c - 1)).1 0 5 = A 1 5 from by unfold lyR; rw [up_n (by omega), up_n (by omega), up_n (by omega), up_n (by omega), up_n (by omega)]]
    · exact absurd h95 (by decide)
  · exact absurd h78 (nI_0n l0 (by omega))
theorem l_Mo_line3 {sc : Option (Nat × Nat × (Nat → Int32))} {sa : Nat → Nat} {d : Nat} {M : mz_M} {z : Nat × Nat} {m : Nat} (w : g_Mo M.2.2 m) {F : Nat → Int32} {A : Nat → Nat → Int32} {sg : Nat → Int32} {T : Nat} (ht : T ≤ 500) (h3 : F 3 = nI T) (hA : ∀ i, i < T → A 3 i = bt sg T i) {e : rS} (hk : okr T e) (hg : gd e) {Q : mz_P} {ln : Nat} (b5 : A 1 5 = nI ln) (l0 : 0 < ln) (l1 : ln < 1000) (hw : ¬ wR sg T e 1 = true) (hkh : khR sg T e = 3) {c N D : Nat} {l ct : Int32} {K P1 P2 P3 : Nat → Nat} {q : sQ} (hX : mX c N D l ct K P1 P2 P3 q A) (hD : D < 60) {s' : tS} (hr : tR s' (rPa sg T (rNu sg T (rNu sg T (rPa sg T (if nI D = 30 then rFa e 3 else e) 1) 0 (nI q.1 - 1)).2 0 (nI c - 1)).2 (bz (¬ (rNu sg T (rNu sg T (rPa sg T (if nI D = 30 then rFa e 3 else e) 1) 0 (nI q.1 - 1)).2 0 (nI c - 1)).2.2.2.2.2.1 = 0 ∨ (rNu sg T (rNu sg T (rPa sg T (if nI D = 30 then rFa e 3 else e) 1) 0 (nI q.1 - 1)).2 0 (nI c - 1)).2.1 = 3)))) (hk2 : ∀ F' A' e', oFr F A F' A' → tR s' e' → okg T e' → ((rNu sg T (rNu sg T (rPa sg T (if nI D = 30 then rFa e 3 else e) 1) 0 (nI q.1 - 1)).2 0 (nI c - 1)).2.2.2.2.2.1 = 0 → A' 1 = va_up (lyR (A 1) D 3 (rNu sg T (rPa sg T (if nI D = 30 then rFa e 3 else e) 1) 0 (nI q.1 - 1)).1 (rNu sg T (rNu sg T (rPa sg T (if nI D = 30 then rFa e 3 else e) 1) 0 (nI q.1 - 1)).2 0 (nI c - 1)).1 0) 5 (A 1 5 + 1)) → zw sc sa (d + 11) ym_Mo_store z Q 58 [.ref m, .int (nI 259)] [] (rq M m F' A' e') z) : zw sc sa (d + 11) ym_Mo_store z Q 72 [.ref m, .int (nI 259)] [] (rq M m F A e) z := by
  have gw := t_Mo_isWord (sc := sc) (sa := sa) (d := d + 6) (z := z) w ht h3 hA hk (i := 1) (by omega)
  rw [bz_f hw] at gw
  have gk := t_Mo_kindHere (sc := sc) (sa := sa) (d := d + 5) (z := z) (B := A 1) w ht h3 hA hk
  rw [up_e, hkh] at gk
  have gd1 := t_Mo_readsDeed3 (sc := sc) (sa := sa) (d := d) (z := z) w ht h3 hA hk hX hD
  have ko : okr T (rNu sg T (rNu sg T (rPa sg T (if nI D = 30 then rFa e 3 else e) 1) 0 (nI q.1 - 1)).2 0 (nI c - 1)).2 := rNu_ok (rNu_ok (rPa_ok (if_ok hk)))
  have kg : gd (rNu sg T (rNu sg T (rPa sg T (if nI D = 30 then rFa e 3 else e) 1) 0 (nI q.1 - 1)).2 0 (nI c - 1)).2 := gd_Nu (gd_Nu (gd_Pa (gd_if hg)))
  generalize hE : (rNu sg T (rNu sg T (rPa sg T (if nI D = 30 then rFa e 3 else e) 1) 0 (nI q.1 - 1)).2 0 (nI c - 1)).2 = E1 at gd1 ko kg hr hk2
  refine z_aload_n (q := 73) rfl rfl rfl ?_
  refine z_getR (q := 76) rfl rfl rfl (Mo_k w) (Mo_r0 w) ?_
  refine z_iconst (q := 77) (v := 5) rfl rfl rfl ?_
  refine z_iald (q := 78) rfl rfl (Mo_a0 w) (vp_in_nI (n := 5) (by omega) (by omega)) ?_
  rw [rq_a0]
  try rw [nI_clamp (by omega)]
  rw [show A 1 (5 : Int32).toNatClampNeg = nI ln from b5]
  refine z_if_ne (q := 81) rfl rfl (fun h78 => ?_) (fun h78 => ?_)
  · refine z_aload_n (q := 89) rfl rfl rfl ?_
    refine z_ldcws (q := 92) rfl rfl ?_
    refine z_cv1i (q := 95) rfl rfl rfl (Mo_k w) (gw) ?_
    refine z_if_eq (q := 98) rfl rfl (fun h95 => ?_) (fun h95 => ?_)
    · refine z_aload_n (q := 106) rfl rfl rfl ?_
      refine z_aload_n (q := 107) rfl rfl rfl ?_
      refine z_cv0i (q := 110) rfl rfl rfl (Mo_k w) (gk) ?_
      refine z_cv1qv (q := 113) rfl rfl rfl (Mo_k w) (gd1) (fun M9 h9 => ?_)
      obtain ⟨F', A', rfl, wk, wj⟩ := h9
      have hf : oFr F A F' (if E1.2.2.2.2.1 = 0 then lyA A' D 3 (rNu sg T (rPa sg T (if nI D = 30 then rFa e 3 else e) 1) 0 (nI q.1 - 1)).1 (rNu sg T (rNu sg T (rPa sg T (if nI D = 30 then rFa e 3 else e) 1) 0 (nI q.1 - 1)).2 0 (nI c - 1)).1 0 else A') := by
        refine ⟨wk, fun j hj => ?_⟩
        split
        · rw [lyR_n (by omega)]; exact wj j (by omega)
        · exact wj j (by omega)
      refine l_Mo_tail w ht ((wk 3 (by omega)).trans h3) (fun i hi => by rw [hf.2 3 (by omega)]; exact hA i hi) ko (hk2 _ _ _ (oFr_u hf) hr ⟨rPa_ok ko, gd_Pa kg⟩ (fun hgg => ?_))
      rw [up_s, if_pos hgg, lyR_1, wj 1 (by omega)]
      rw [show lyR (A 1) D 3 (rNu sg T (rPa sg T (if nI D = 30 then rFa e 3 else e) 1) 0 (nI q.1 - 1)).1 (rNu sg T (rNu sg T (rPa sg T (if nI D = 30 then rFa e 3 else e) 1) 0 (nI q.1 - 1)).2 0 (nI c - 1)).1 0 5 = A 1 5 from by unfold lyR; rw [up_n (by omega), up_n (by omega), up_n (by omega), up_n (by omega), up_n (by omega)]]
    · exact absurd h95 (by decide)
  · exact absurd h78 (nI_0n l0 (by omega))
theorem l_Mo_line4 {sc : Option (Nat × Nat × (Nat → Int32))} {sa : Nat → Nat} {d : Nat} {M : mz_M} {z : Nat × Nat} {m : Nat} (w : g_Mo M.2.2 m) {F : Nat → Int32} {A : Nat → Nat → Int32} {sg : Nat → Int32} {T : Nat} (ht : T ≤ 500) (h3 : F 3 = nI T) (hA : ∀ i, i < T → A 3 i = bt sg T i) {e : rS} (hk : okr T e) (hg : gd e) {Q : mz_P} {ln : Nat} (b5 : A 1 5 = nI ln) (l0 : 0 < ln) (l1 : ln < 1000) (hw : ¬ wR sg T e 1 = true) (hkh : khR sg T e = 4) {c N D : Nat} {l ct : Int32} {K P1 P2 P3 : Nat → Nat} {q : sQ} (hX : mX c N D l ct K P1 P2 P3 q A) (hD : D < 60) {s' : tS} (hr : tR s' (rPa sg T (rNu sg T (rNe (rPa sg T (if nI D = 30 then rFa e 3 else e) 1) (bz (rsX q (rPa sg T (if nI D = 30 then rFa e 3 else e) 1).2.2.2.1))) 0 (nI q.1 - 1)).2 (bz (¬ (rNu sg T (rNe (rPa sg T (if nI D = 30 then rFa e 3 else e) 1) (bz (rsX q (rPa sg T (if nI D = 30 then rFa e 3 else e) 1).2.2.2.1))) 0 (nI q.1 - 1)).2.2.2.2.2.1 = 0 ∨ (rNu sg T (rNe (rPa sg T (if nI D = 30 then rFa e 3 else e) 1) (bz (rsX q (rPa sg T (if nI D = 30 then rFa e 3 else e) 1).2.2.2.1))) 0 (nI q.1 - 1)).2.1 = 3)))) (hk2 : ∀ F' A' e', oFr F A F' A' → tR s' e' → okg T e' → ((rNu sg T (rNe (rPa sg T (if nI D = 30 then rFa e 3 else e) 1) (bz (rsX q (rPa sg T (if nI D = 30 then rFa e 3 else e) 1).2.2.2.1))) 0 (nI q.1 - 1)).2.2.2.2.2.1 = 0 → A' 1 = va_up (lyR (A 1) D 4 (rNu sg T (rNe (rPa sg T (if nI D = 30 then rFa e 3 else e) 1) (bz (rsX q (rPa sg T (if nI D = 30 then rFa e 3 else e) 1).2.2.2.1))) 0 (nI q.1 - 1)).1 0 0) 5 (A 1 5 + 1)) → zw sc sa (d + 11) ym_Mo_store z Q 58 [.ref m, .int (nI 259)] [] (rq M m F' A' e') z) : zw sc sa (d + 11) ym_Mo_store z Q 72 [.ref m, .int (nI 259)] [] (rq M m F A e) z := by
  have gw := t_Mo_isWord (sc := sc) (sa := sa) (d := d + 6) (z := z) w ht h3 hA hk (i := 1) (by omega)
  rw [bz_f hw] at gw
  have gk := t_Mo_kindHere (sc := sc) (sa := sa) (d := d + 5) (z := z) (B := A 1) w ht h3 hA hk
  rw [up_e, hkh] at gk
  have gd1 := t_Mo_readsDeed4 (sc := sc) (sa := sa) (d := d) (z := z) w ht h3 hA hk hX hD
  have ko : okr T (rNu sg T (rNe (rPa sg T (if nI D = 30 then rFa e 3 else e) 1) (bz (rsX q (rPa sg T (if nI D = 30 then rFa e 3 else e) 1).2.2.2.1))) 0 (nI q.1 - 1)).2 := rNu_ok (rNe_ok (rPa_ok (if_ok hk)))
  have kg : gd (rNu sg T (rNe (rPa sg T (if nI D = 30 then rFa e 3 else e) 1) (bz (rsX q (rPa sg T (if nI D = 30 then rFa e 3 else e) 1).2.2.2.1))) 0 (nI q.1 - 1)).2 := gd_Nu (gd_Ne (gd_Pa (gd_if hg)))
  generalize hE : (rNu sg T (rNe (rPa sg T (if nI D = 30 then rFa e 3 else e) 1) (bz (rsX q (rPa sg T (if nI D = 30 then rFa e 3 else e) 1).2.2.2.1))) 0 (nI q.1 - 1)).2 = E1 at gd1 ko kg hr hk2
  refine z_aload_n (q := 73) rfl rfl rfl ?_
  refine z_getR (q := 76) rfl rfl rfl (Mo_k w) (Mo_r0 w) ?_
  refine z_iconst (q := 77) (v := 5) rfl rfl rfl ?_
  refine z_iald (q := 78) rfl rfl (Mo_a0 w) (vp_in_nI (n := 5) (by omega) (by omega)) ?_
  rw [rq_a0]
  try rw [nI_clamp (by omega)]
  rw [show A 1 (5 : Int32).toNatClampNeg = nI ln from b5]
  refine z_if_ne (q := 81) rfl rfl (fun h78 => ?_) (fun h78 => ?_)
  · refine z_aload_n (q := 89) rfl rfl rfl ?_
    refine z_ldcws (q := 92) rfl rfl ?_
    refine z_cv1i (q := 95) rfl rfl rfl (Mo_k w) (gw) ?_
    refine z_if_eq (q := 98) rfl rfl (fun h95 => ?_) (fun h95 => ?_)
    · refine z_aload_n (q := 106) rfl rfl rfl ?_
      refine z_aload_n (q := 107) rfl rfl rfl ?_
      refine z_cv0i (q := 110) rfl rfl rfl (Mo_k w) (gk) ?_
      refine z_cv1qv (q := 113) rfl rfl rfl (Mo_k w) (gd1) (fun M9 h9 => ?_)
      obtain ⟨F', A', rfl, wk, wj⟩ := h9
      have hf : oFr F A F' (if E1.2.2.2.2.1 = 0 then lyA A' D 4 (rNu sg T (rNe (rPa sg T (if nI D = 30 then rFa e 3 else e) 1) (bz (rsX q (rPa sg T (if nI D = 30 then rFa e 3 else e) 1).2.2.2.1))) 0 (nI q.1 - 1)).1 0 0 else A') := by
        refine ⟨wk, fun j hj => ?_⟩
        split
        · rw [lyR_n (by omega)]; exact wj j (by omega)
        · exact wj j (by omega)
      refine l_Mo_tail w ht ((wk 3 (by omega)).trans h3) (fun i hi => by rw [hf.2 3 (by omega)]; exact hA i hi) ko (hk2 _ _ _ (oFr_u hf) hr ⟨rPa_ok ko, gd_Pa kg⟩ (fun hgg => ?_))
      rw [up_s, if_pos hgg, lyR_1, wj 1 (by omega)]
      rw [show lyR (A 1) D 4 (rNu sg T (rNe (rPa sg T (if nI D = 30 then rFa e 3 else e) 1) (bz (rsX q (rPa sg T (if nI D = 30 then rFa e 3 else e) 1).2.2.2.1))) 0 (nI q.1 - 1)).1 0 0 5 = A 1 5 from by unfold lyR; rw [up_n (by omega), up_n (by omega), up_n (by omega), up_n (by omega), up_n (by omega)]]
    · exact absurd h95 (by decide)
  · exact absurd h78 (nI_0n l0 (by omega))
