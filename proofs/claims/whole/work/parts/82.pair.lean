-- a pair as the reference reads it
theorem rNu_g {sg : Nat → Int32} {t : Nat} {e : rS} {lo up : Int32} (h : (rNu sg t e lo up).2.2.2.2.2.1 = 0) : e.2.2.2.2.1 = 0 ∧ e.1 = 2 ∧ (lo ≤ e.2.2.2.1 ∧ e.2.2.2.1 ≤ up) ∧ (rNu sg t e lo up).1 = e.2.2.2.1 := by
  by_cases c : e.2.2.2.2.1 = 0
  · unfold rNu at h ⊢
    rw [if_pos c] at h ⊢
    by_cases c2 : e.1 = 2
    · rw [if_pos c2] at h
      by_cases c3 : lo ≤ e.2.2.2.1 ∧ e.2.2.2.1 ≤ up
      · exact ⟨c, c2, c3, rfl⟩
      · rw [if_neg c3] at h
        exact absurd h rFa_n
    · rw [if_neg c2] at h
      exact absurd h rFa_n
  · rw [rNu_b c] at h
    exact absurd h c
theorem rNu_n {sg : Nat → Int32} {t : Nat} {e : rS} {n : Nat} (h0 : 0 < n) (hn : n ≤ 200) (h : (rNu sg t e 0 (nI n - 1)).2.2.2.2.2.1 = 0) : ∃ j, j < n ∧ (rNu sg t e 0 (nI n - 1)).1 = nI j := by
  obtain ⟨a1, a2, a3, a4⟩ := rNu_g h
  obtain ⟨j, hj, e1⟩ := vI_nat hn ((le_pr h0 (by omega)).mp a3)
  exact ⟨j, hj, a4.trans e1⟩
theorem rNu_v {sg : Nat → Int32} {t : Nat} {e : rS} {n : Nat} (h0 : 0 < n) (hn : n ≤ 200) (h : ¬ (rNu sg t e 0 (nI n - 1)).2.2.2.2.1 = (rNu sg t e 0 (nI n - 1)).1) : ∃ j, j < n ∧ (rNu sg t e 0 (nI n - 1)).1 = nI j := by
  by_cases c : (rNu sg t e 0 (nI n - 1)).2.2.2.2.2.1 = 0
  · exact rNu_n h0 hn c
  · by_cases c2 : e.2.2.2.2.1 = 0
    · refine absurd ?_ h
      unfold rNu at c ⊢
      rw [if_pos c2] at c ⊢
      by_cases c3 : e.1 = 2
      · rw [if_pos c3] at c ⊢
        by_cases c4 : 0 ≤ e.2.2.2.1 ∧ e.2.2.2.1 ≤ nI n - 1
        · rw [if_pos c4] at c
          exact absurd c2 c
        · rw [if_neg c4]
          unfold rFa
          rw [if_pos c2]
      · rw [if_neg c3]
        unfold rFa
        rw [if_pos c2]
    · rw [rNu_b c2]
      exact ⟨0, h0, rfl⟩
def pw1 (B : Nat → Int32) (i j : Nat) : Nat → Int32 := va_up B (7 + i) (B (7 + i) ||| ((1 : Int32) <<< (nI j &&& 31)))
def pwB (B : Nat → Int32) (i j : Nat) : Nat → Int32 := va_up (pw1 (pw1 B i j) j i) 3 (pw1 (pw1 B i j) j i 3 + 1)
def rpQ (M : mz_M) (m : Nat) (F : Nat → Int32) (A : Nat → Nat → Int32) (B : Nat → Int32) (sg : Nat → Int32) (t c : Nat) (a : Int32) (e : rS) (M' : mz_M) : Prop := ∃ B', M' = rq M m F (va_up A 1 B') (rNu sg t e 0 (nI c - 1)).2 ∧ (¬ (rNu sg t e 0 (nI c - 1)).2.2.2.2.2.1 = 0 → B' = B) ∧ ((rNu sg t e 0 (nI c - 1)).2.2.2.2.2.1 = 0 → ∃ i j, i < c ∧ j < c ∧ a = nI i ∧ (rNu sg t e 0 (nI c - 1)).1 = nI j ∧ B' = pwB B i j)
theorem l_Mo_pair73 {sc : Option (Nat × Nat × (Nat → Int32))} {sa : Nat → Nat} {d : Nat} {M : mz_M} {z : Nat × Nat} {m : Nat} (w : g_Mo M.2.2 m) {F : Nat → Int32} {A : Nat → Nat → Int32} {sg : Nat → Int32} {t : Nat} (ht : t ≤ 500) (h3 : F 3 = nI t) (hA : ∀ i, i < t → A 3 i = bt sg t i) {B : Nat → Int32} {e : rS} (hk : okr t e) {c : Nat} (hs : B 0 = nI c) (h0 : 0 < c) (hC : c ≤ 12) {a : Int32} {x2 : Value} (ha : e.2.2.2.2.1 = 0 → ∃ i, i < c ∧ a = nI i) : zw sc sa (d + 6) ym_Mo_readsPair z (fun r' M' => r' = none ∧ rpQ M m F A B sg t c a e M') 73 [.ref m, .int a, x2] [] (rq M m F (va_up A 1 B) e) z := by
  refine z_aload_n (q := 74) rfl rfl rfl ?_
  refine z_cv0i (q := 77) rfl rfl rfl (Mo_k w) (t_Mo_readsCell w ht h3 hA hk hs) ?_
  refine z_istore_n (q := 78) (L2 := [_, _, _]) rfl rfl rfl rfl ?_
  refine z_aload_n (q := 79) rfl rfl rfl ?_
  refine z_getI (q := 82) rfl rfl rfl (Mo_k w) ?_
  rw [rb_g23]
  refine z_if_ne (q := 85) rfl rfl (fun h82 => ?_) (fun h82 => ?_)
  · refine z_ret rfl rfl ?_
    first
      | exact ⟨rfl, _, rfl, fun g => absurd h82 g, fun _ => ⟨i, j, hi, hj, rfl, ej, rfl⟩⟩
      | exact ⟨rfl, _, rfl, fun _ => rfl, fun g => absurd g h82⟩
      | fail "none"
  · refine z_aload_n (q := 86) rfl rfl rfl ?_
    obtain ⟨i, hi, ei⟩ := ha (rNu_g h82).1
    obtain ⟨j, hj, ej⟩ := rNu_n h0 (by omega) h82
    rw [ej, ei]
    refine z_getR (q := 89) rfl rfl rfl (Mo_k w) (Mo_r0 w) ?_
    refine z_bipush (q := 91) (v := 7) rfl rfl rfl ?_
    refine z_iload_n (q := 92) rfl rfl rfl ?_
    refine z_iadd (q := 93) rfl rfl ?_
    rw [show (7 : Int32) + nI i = nI (7 + i) from by rw [show (7 : Int32) = nI 7 from rfl, nI_add]]
    refine z_dup2 (q := 94) rfl rfl rfl rfl ?_
    refine z_iald (q := 95) rfl rfl (Mo_a0 w) (vp_in_nI (by omega) (by omega)) ?_
    rw [rb_a0]
    try rw [nI_clamp (by omega)]
    refine z_iconst (q := 96) (v := 1) rfl rfl rfl ?_
    refine z_iload_n (q := 97) rfl rfl rfl ?_
    refine z_ishl (q := 98) rfl rfl ?_
    refine z_ior (q := 99) rfl rfl ?_
    refine z_iast (q := 100) rfl rfl (Mo_a0 w) (vp_in_nI (by omega) (by omega)) ?_
    rw [rb_w0]
    try rw [nI_clamp (by omega)]
    refine z_aload_n (q := 101) rfl rfl rfl ?_
    refine z_getR (q := 104) rfl rfl rfl (Mo_k w) (Mo_r0 w) ?_
    refine z_bipush (q := 106) (v := 7) rfl rfl rfl ?_
    refine z_iload_n (q := 107) rfl rfl rfl ?_
    refine z_iadd (q := 108) rfl rfl ?_
    rw [show (7 : Int32) + nI j = nI (7 + j) from by rw [show (7 : Int32) = nI 7 from rfl, nI_add]]
    refine z_dup2 (q := 109) rfl rfl rfl rfl ?_
    refine z_iald (q := 110) rfl rfl (Mo_a0 w) (vp_in_nI (by omega) (by omega)) ?_
    rw [rb_a0]
    try rw [nI_clamp (by omega)]
    refine z_iconst (q := 111) (v := 1) rfl rfl rfl ?_
    refine z_iload_n (q := 112) rfl rfl rfl ?_
    refine z_ishl (q := 113) rfl rfl ?_
    refine z_ior (q := 114) rfl rfl ?_
    refine z_iast (q := 115) rfl rfl (Mo_a0 w) (vp_in_nI (by omega) (by omega)) ?_
    rw [rb_w0]
    try rw [nI_clamp (by omega)]
    refine z_aload_n (q := 116) rfl rfl rfl ?_
    refine z_getR (q := 119) rfl rfl rfl (Mo_k w) (Mo_r0 w) ?_
    refine z_iconst (q := 120) (v := 3) rfl rfl rfl ?_
    refine z_dup2 (q := 121) rfl rfl rfl rfl ?_
    refine z_iald (q := 122) rfl rfl (Mo_a0 w) (vp_in_nI (n := 3) (by omega) (by omega)) ?_
    rw [rb_a0]
    try rw [nI_clamp (by omega)]
    refine z_iconst (q := 123) (v := 1) rfl rfl rfl ?_
    refine z_iadd (q := 124) rfl rfl ?_
    refine z_iast (q := 125) rfl rfl (Mo_a0 w) (vp_in_nI (n := 3) (by omega) (by omega)) ?_
    rw [rb_w0]
    try rw [nI_clamp (by omega)]
    refine z_ret rfl rfl ?_
    first
      | exact ⟨rfl, _, rfl, fun g => absurd h82 g, fun _ => ⟨i, j, hi, hj, rfl, ej, rfl⟩⟩
      | exact ⟨rfl, _, rfl, fun _ => rfl, fun g => absurd g h82⟩
      | fail "none"
abbrev rpX (c : Nat) (B : Nat → Int32) (a v : Int32) : Prop := ¬ vI c v ∨ (¬ v = a ∧ ¬ (B (7 + a.toNatClampNeg) >>> (v &&& 31)) &&& 1 = 1)
theorem rNe_g {e : rS} {x : Int32} (h : (rNe e x).2.2.2.2.1 = 0) : e.2.2.2.2.1 = 0 := by
  unfold rNe at h
  by_cases c : e.2.2.2.2.1 = 0
  · exact c
  · rw [if_neg (fun a => c a.1)] at h
    exact absurd h c
theorem l_Mo_pair16 {sc : Option (Nat × Nat × (Nat → Int32))} {sa : Nat → Nat} {d : Nat} {M : mz_M} {z : Nat × Nat} {m : Nat} (w : g_Mo M.2.2 m) {F : Nat → Int32} {A : Nat → Nat → Int32} {sg : Nat → Int32} {t : Nat} (ht : t ≤ 500) (h3 : F 3 = nI t) (hA : ∀ i, i < t → A 3 i = bt sg t i) {B : Nat → Int32} {e : rS} (hk : okr t e) {c : Nat} (hs : B 0 = nI c) (h0 : 0 < c) (hC : c ≤ 12) {x1 x2 : Value} : zw sc sa (d + 6) ym_Mo_readsPair z (fun r' M' => r' = none ∧ rpQ M m F A B sg t c (rNu sg t (rPa sg t e 1) 0 (nI c - 1)).1 (rNe (rNu sg t (rPa sg t e 1) 0 (nI c - 1)).2 (bz (rpX c B (rNu sg t (rPa sg t e 1) 0 (nI c - 1)).1 (rNu sg t (rPa sg t e 1) 0 (nI c - 1)).2.2.2.2.1))) M') 16 [.ref m, x1, x2] [] (rq M m F (va_up A 1 B) e) z := by
  refine z_aload_n (q := 17) rfl rfl rfl ?_
  refine z_iconst (q := 18) (v := 1) rfl rfl rfl ?_
  refine z_cv1v (q := 21) rfl rfl rfl (Mo_k w) (t_Mo_passes w ht h3 (hA_u hA) hk) ?_
  refine z_aload_n (q := 22) rfl rfl rfl ?_
  refine z_cv0i (q := 25) rfl rfl rfl (Mo_k w) (t_Mo_readsCell w ht h3 hA (rPa_ok hk) hs) ?_
  refine z_istore_n (q := 26) (L2 := [_, _, _]) rfl rfl rfl rfl ?_
  refine z_aload_n (q := 27) rfl rfl rfl ?_
  refine z_aload_n (q := 28) rfl rfl rfl ?_
  refine z_aload_n (q := 29) rfl rfl rfl ?_
  refine z_getI (q := 32) rfl rfl rfl (Mo_k w) ?_
  rw [rb_g22]
  refine z_cv1i (q := 35) rfl rfl rfl (Mo_k w) (t_Mo_isCell w hs h0 hC) ?_
  refine z_if_eq (q := 38) rfl rfl (fun h35 => ?_) (fun h35 => ?_)
  · refine z_iconst (q := 66) (v := 1) rfl rfl rfl ?_
    refine z_goto rfl ?_
    refine z_cv1v (q := 73) rfl rfl rfl (Mo_k w) (t_Mo_needs w) ?_
    first
      | (have e0 : bz (rpX c B (rNu sg t (rPa sg t e 1) 0 (nI c - 1)).1 (rNu sg t (rPa sg t e 1) 0 (nI c - 1)).2.2.2.2.1) = 1 := bz_t (Or.inr ⟨h43, bz_0.mp h62⟩)
         rw [e0]
         exact l_Mo_pair73 w ht h3 hA (rNe_ok (rNu_ok (rPa_ok hk))) hs h0 hC (fun g => rNu_n h0 (by omega) (rNe_g g)))
      | (have e0 : bz (rpX c B (rNu sg t (rPa sg t e 1) 0 (nI c - 1)).1 (rNu sg t (rPa sg t e 1) 0 (nI c - 1)).2.2.2.2.1) = 0 := bz_f (fun g => g.elim (fun g1 => g1 (bz_n.mp h35)) (fun g1 => g1.2 (bz_n.mp h62)))
         rw [e0]
         exact l_Mo_pair73 w ht h3 hA (rNe_ok (rNu_ok (rPa_ok hk))) hs h0 hC (fun g => rNu_n h0 (by omega) (rNe_g g)))
      | (have e0 : bz (rpX c B (rNu sg t (rPa sg t e 1) 0 (nI c - 1)).1 (rNu sg t (rPa sg t e 1) 0 (nI c - 1)).2.2.2.2.1) = 0 := bz_f (fun g => g.elim (fun g1 => g1 (bz_n.mp h35)) (fun g1 => g1.1 h43))
         rw [e0]
         exact l_Mo_pair73 w ht h3 hA (rNe_ok (rNu_ok (rPa_ok hk))) hs h0 hC (fun g => rNu_n h0 (by omega) (rNe_g g)))
      | (have e0 : bz (rpX c B (rNu sg t (rPa sg t e 1) 0 (nI c - 1)).1 (rNu sg t (rPa sg t e 1) 0 (nI c - 1)).2.2.2.2.1) = 1 := bz_t (Or.inl (bz_0.mp h35))
         rw [e0]
         exact l_Mo_pair73 w ht h3 hA (rNe_ok (rNu_ok (rPa_ok hk))) hs h0 hC (fun g => rNu_n h0 (by omega) (rNe_g g)))
      | fail "none"
  · refine z_aload_n (q := 39) rfl rfl rfl ?_
    refine z_getI (q := 42) rfl rfl rfl (Mo_k w) ?_
    rw [rb_g22]
    refine z_iload_n (q := 43) rfl rfl rfl ?_
    refine z_ic_eq (q := 46) rfl rfl (fun h43 => ?_) (fun h43 => ?_)
    · refine z_iconst (q := 70) (v := 0) rfl rfl rfl ?_
      refine z_cv1v (q := 73) rfl rfl rfl (Mo_k w) (t_Mo_needs w) ?_
      first
        | (have e0 : bz (rpX c B (rNu sg t (rPa sg t e 1) 0 (nI c - 1)).1 (rNu sg t (rPa sg t e 1) 0 (nI c - 1)).2.2.2.2.1) = 1 := bz_t (Or.inr ⟨h43, bz_0.mp h62⟩)
           rw [e0]
           exact l_Mo_pair73 w ht h3 hA (rNe_ok (rNu_ok (rPa_ok hk))) hs h0 hC (fun g => rNu_n h0 (by omega) (rNe_g g)))
        | (have e0 : bz (rpX c B (rNu sg t (rPa sg t e 1) 0 (nI c - 1)).1 (rNu sg t (rPa sg t e 1) 0 (nI c - 1)).2.2.2.2.1) = 0 := bz_f (fun g => g.elim (fun g1 => g1 (bz_n.mp h35)) (fun g1 => g1.2 (bz_n.mp h62)))
           rw [e0]
           exact l_Mo_pair73 w ht h3 hA (rNe_ok (rNu_ok (rPa_ok hk))) hs h0 hC (fun g => rNu_n h0 (by omega) (rNe_g g)))
        | (have e0 : bz (rpX c B (rNu sg t (rPa sg t e 1) 0 (nI c - 1)).1 (rNu sg t (rPa sg t e 1) 0 (nI c - 1)).2.2.2.2.1) = 0 := bz_f (fun g => g.elim (fun g1 => g1 (bz_n.mp h35)) (fun g1 => g1.1 h43))
           rw [e0]
           exact l_Mo_pair73 w ht h3 hA (rNe_ok (rNu_ok (rPa_ok hk))) hs h0 hC (fun g => rNu_n h0 (by omega) (rNe_g g)))
        | (have e0 : bz (rpX c B (rNu sg t (rPa sg t e 1) 0 (nI c - 1)).1 (rNu sg t (rPa sg t e 1) 0 (nI c - 1)).2.2.2.2.1) = 1 := bz_t (Or.inl (bz_0.mp h35))
           rw [e0]
           exact l_Mo_pair73 w ht h3 hA (rNe_ok (rNu_ok (rPa_ok hk))) hs h0 hC (fun g => rNu_n h0 (by omega) (rNe_g g)))
        | fail "none"
    · refine z_aload_n (q := 47) rfl rfl rfl ?_
      obtain ⟨i, hi, ei⟩ := rNu_v h0 (by omega) h43
      refine z_getR (q := 50) rfl rfl rfl (Mo_k w) (Mo_r0 w) ?_
      refine z_bipush (q := 52) (v := 7) rfl rfl rfl ?_
      refine z_iload_n (q := 53) rfl rfl rfl ?_
      refine z_iadd (q := 54) rfl rfl ?_
      refine z_iald (q := 55) rfl rfl (Mo_a0 w) (by rw [ei]; rw [show (7 : Int32) + nI i = nI (7 + i) from by rw [show (7 : Int32) = nI 7 from rfl, nI_add]]; exact vp_in_nI (by omega) (by omega)) ?_
      rw [rb_a0]
      try rw [nI_clamp (by omega)]
      rw [show ((7 : Int32) + (rNu sg t (rPa sg t e 1) 0 (nI c - 1)).1).toNatClampNeg = 7 + (rNu sg t (rPa sg t e 1) 0 (nI c - 1)).1.toNatClampNeg from by rw [ei, show (7 : Int32) + nI i = nI (7 + i) from by rw [show (7 : Int32) = nI 7 from rfl, nI_add], nI_clamp (by omega), nI_clamp (by omega)]]
      refine z_aload_n (q := 56) rfl rfl rfl ?_
      refine z_getI (q := 59) rfl rfl rfl (Mo_k w) ?_
      rw [rb_g22]
      refine z_cs2i (q := 62) rfl rfl rfl (s_Mo_has) ?_
      refine z_if_ne (q := 65) rfl rfl (fun h62 => ?_) (fun h62 => ?_)
      · refine z_iconst (q := 70) (v := 0) rfl rfl rfl ?_
        refine z_cv1v (q := 73) rfl rfl rfl (Mo_k w) (t_Mo_needs w) ?_
        first
          | (have e0 : bz (rpX c B (rNu sg t (rPa sg t e 1) 0 (nI c - 1)).1 (rNu sg t (rPa sg t e 1) 0 (nI c - 1)).2.2.2.2.1) = 1 := bz_t (Or.inr ⟨h43, bz_0.mp h62⟩)
             rw [e0]
             exact l_Mo_pair73 w ht h3 hA (rNe_ok (rNu_ok (rPa_ok hk))) hs h0 hC (fun g => rNu_n h0 (by omega) (rNe_g g)))
          | (have e0 : bz (rpX c B (rNu sg t (rPa sg t e 1) 0 (nI c - 1)).1 (rNu sg t (rPa sg t e 1) 0 (nI c - 1)).2.2.2.2.1) = 0 := bz_f (fun g => g.elim (fun g1 => g1 (bz_n.mp h35)) (fun g1 => g1.2 (bz_n.mp h62)))
             rw [e0]
             exact l_Mo_pair73 w ht h3 hA (rNe_ok (rNu_ok (rPa_ok hk))) hs h0 hC (fun g => rNu_n h0 (by omega) (rNe_g g)))
          | (have e0 : bz (rpX c B (rNu sg t (rPa sg t e 1) 0 (nI c - 1)).1 (rNu sg t (rPa sg t e 1) 0 (nI c - 1)).2.2.2.2.1) = 0 := bz_f (fun g => g.elim (fun g1 => g1 (bz_n.mp h35)) (fun g1 => g1.1 h43))
             rw [e0]
             exact l_Mo_pair73 w ht h3 hA (rNe_ok (rNu_ok (rPa_ok hk))) hs h0 hC (fun g => rNu_n h0 (by omega) (rNe_g g)))
          | (have e0 : bz (rpX c B (rNu sg t (rPa sg t e 1) 0 (nI c - 1)).1 (rNu sg t (rPa sg t e 1) 0 (nI c - 1)).2.2.2.2.1) = 1 := bz_t (Or.inl (bz_0.mp h35))
             rw [e0]
             exact l_Mo_pair73 w ht h3 hA (rNe_ok (rNu_ok (rPa_ok hk))) hs h0 hC (fun g => rNu_n h0 (by omega) (rNe_g g)))
          | fail "none"
      · refine z_iconst (q := 66) (v := 1) rfl rfl rfl ?_
        refine z_goto rfl ?_
        refine z_cv1v (q := 73) rfl rfl rfl (Mo_k w) (t_Mo_needs w) ?_
        first
          | (have e0 : bz (rpX c B (rNu sg t (rPa sg t e 1) 0 (nI c - 1)).1 (rNu sg t (rPa sg t e 1) 0 (nI c - 1)).2.2.2.2.1) = 1 := bz_t (Or.inr ⟨h43, bz_0.mp h62⟩)
             rw [e0]
             exact l_Mo_pair73 w ht h3 hA (rNe_ok (rNu_ok (rPa_ok hk))) hs h0 hC (fun g => rNu_n h0 (by omega) (rNe_g g)))
          | (have e0 : bz (rpX c B (rNu sg t (rPa sg t e 1) 0 (nI c - 1)).1 (rNu sg t (rPa sg t e 1) 0 (nI c - 1)).2.2.2.2.1) = 0 := bz_f (fun g => g.elim (fun g1 => g1 (bz_n.mp h35)) (fun g1 => g1.2 (bz_n.mp h62)))
             rw [e0]
             exact l_Mo_pair73 w ht h3 hA (rNe_ok (rNu_ok (rPa_ok hk))) hs h0 hC (fun g => rNu_n h0 (by omega) (rNe_g g)))
          | (have e0 : bz (rpX c B (rNu sg t (rPa sg t e 1) 0 (nI c - 1)).1 (rNu sg t (rPa sg t e 1) 0 (nI c - 1)).2.2.2.2.1) = 0 := bz_f (fun g => g.elim (fun g1 => g1 (bz_n.mp h35)) (fun g1 => g1.1 h43))
             rw [e0]
             exact l_Mo_pair73 w ht h3 hA (rNe_ok (rNu_ok (rPa_ok hk))) hs h0 hC (fun g => rNu_n h0 (by omega) (rNe_g g)))
          | (have e0 : bz (rpX c B (rNu sg t (rPa sg t e 1) 0 (nI c - 1)).1 (rNu sg t (rPa sg t e 1) 0 (nI c - 1)).2.2.2.2.1) = 1 := bz_t (Or.inl (bz_0.mp h35))
             rw [e0]
             exact l_Mo_pair73 w ht h3 hA (rNe_ok (rNu_ok (rPa_ok hk))) hs h0 hC (fun g => rNu_n h0 (by omega) (rNe_g g)))
          | fail "none"
theorem t_Mo_readsPair {sc : Option (Nat × Nat × (Nat → Int32))} {sa : Nat → Nat} {d : Nat} {M : mz_M} {z : Nat × Nat} {m : Nat} (w : g_Mo M.2.2 m) {F : Nat → Int32} {A : Nat → Nat → Int32} {sg : Nat → Int32} {t : Nat} (ht : t ≤ 500) (h3 : F 3 = nI t) (hA : ∀ i, i < t → A 3 i = bt sg t i) {B : Nat → Int32} {e : rS} (hk : okr t e) {c : Nat} (hs : B 0 = nI c) (h0 : 0 < c) (hC : c ≤ 12)  : zv sc sa (d + 7) 211 [.ref m] (rq M m F (va_up A 1 B) e) z (fun M' => rpQ M m F A B sg t c (rNu sg t (rPa sg t (if B 3 = 16 then rFa e 3 else e) 1) 0 (nI c - 1)).1 (rNe (rNu sg t (rPa sg t (if B 3 = 16 then rFa e 3 else e) 1) 0 (nI c - 1)).2 (bz (rpX c B (rNu sg t (rPa sg t (if B 3 = 16 then rFa e 3 else e) 1) 0 (nI c - 1)).1 (rNu sg t (rPa sg t (if B 3 = 16 then rFa e 3 else e) 1) 0 (nI c - 1)).2.2.2.2.1))) M') := by
  refine zin ym_Mo_readsPair [.ref m, .retAddr 0, .retAddr 0] rfl rfl rfl rfl ?_
  refine z_aload_n (q := 1) rfl rfl rfl ?_
  refine z_getR (q := 4) rfl rfl rfl (Mo_k w) (Mo_r0 w) ?_
  refine z_iconst (q := 5) (v := 3) rfl rfl rfl ?_
  refine z_iald (q := 6) rfl rfl (Mo_a0 w) (vp_in_nI (n := 3) (by omega) (by omega)) ?_
  rw [rb_a0]
  try rw [nI_clamp (by omega)]
  rw [show (3 : Int32).toNatClampNeg = 3 from rfl]
  refine z_bipush (q := 8) (v := 16) rfl rfl rfl ?_
  refine z_ic_ne (q := 11) rfl rfl (fun h8 => ?_) (fun h8 => ?_)
  · first
      | (rw [if_pos h8]
         exact l_Mo_pair16 w ht h3 hA (rFa_ok hk) hs h0 hC)
      | (rw [if_neg h8]
         exact l_Mo_pair16 w ht h3 hA hk hs h0 hC)
      | fail "none"
  · refine z_aload_n (q := 12) rfl rfl rfl ?_
    refine z_iconst (q := 13) (v := 3) rfl rfl rfl ?_
    refine z_cv1v (q := 16) rfl rfl rfl (Mo_k w) (t_Mo_faults w) ?_
    first
      | (rw [if_pos h8]
         exact l_Mo_pair16 w ht h3 hA (rFa_ok hk) hs h0 hC)
      | (rw [if_neg h8]
         exact l_Mo_pair16 w ht h3 hA hk hs h0 hC)
      | fail "none"
