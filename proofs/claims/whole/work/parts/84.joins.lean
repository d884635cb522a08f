-- joins and snaps as the reference reads them
theorem t_Mo_inW {sc : Option (Nat × Nat × (Nat → Int32))} {sa : Nat → Nat} {d : Nat} {M : mz_M} {z : Nat × Nat} {n : Nat} (h0 : 0 < n) (hn : n < 1000) {a : Int32} : zx sc sa (d + 1) 168 [.long a.toInt64, .long 0, .long (nI n - 1).toInt64] M z z (some (.int (bz (vI n a)))) M := by
  have e := @t_Mo_inB sc sa d M z a (nI n - 1)
  have e2 : (¬ a < 0 ∧ a ≤ nI n - 1) ↔ vI n a := by
    rw [Int32.not_lt]
    exact le_pr h0 hn
  rw [bz_iff e2] at e
  exact e
theorem al8 {A : Nat → Nat → Int32} {q : sQ} {x : Int32} (hl : mAl A q) (hq : q.1 ≤ 40) (h : vI q.1 x) : A 8 x.toNatClampNeg = q.2.2.1 x.toNatClampNeg := by
  obtain ⟨j, hj, e⟩ := vI_nat (by omega) h
  rw [e, nI_clamp (by omega)]
  exact (hl j hj).1
theorem t_Mo_rootR {sc : Option (Nat × Nat × (Nat → Int32))} {sa : Nat → Nat} {d : Nat} {M : mz_M} {z : Nat × Nat} {m : Nat} (w : g_Mo M.2.2 m) {F : Nat → Int32} {A : Nat → Nat → Int32} {e : rS} {c : Nat} {q : sQ} (hv : mAv c A q) (hI : qI c q) (hC : c ≤ 12) (hs : A 1 0 = nI c) (hV : qV c q) (hq : q.1 ≤ 40) {x y : Int32} (hx : ∃ j, j < q.1 ∧ x = nI j) (hy : ∃ i, i < c ∧ y = nI i) : zx sc sa (d + 2) 185 [.ref m, .int x, .int y] (rq M m F A e) z z (some (.int (rt (q.2.1 x.toNatClampNeg) c y))) (rq M m F A e) := by
  obtain ⟨j, hj, rfl⟩ := hx
  obtain ⟨i, hi, rfl⟩ := hy
  rw [nI_clamp (show j < 2 ^ 31 by omega)]
  exact s_Mo_rootOf w hv hI hC hs hV hj hi
theorem t_Mo_isCellA {sc : Option (Nat × Nat × (Nat → Int32))} {sa : Nat → Nat} {d : Nat} {M : mz_M} {z : Nat × Nat} {m : Nat} (w : g_Mo M.2.2 m) {F : Nat → Int32} {A : Nat → Nat → Int32} {e : rS} {c : Nat} (hs : A 1 0 = nI c) (h0 : 0 < c) (hC : c ≤ 12) {a : Int32} : zx sc sa (d + 2) 209 [.ref m, .int a] (rq M m F A e) z z (some (.int (bz (vI c a)))) (rq M m F A e) := s_Mo_isCell w hs h0 hC
theorem l_Mo_deedB {sc : Option (Nat × Nat × (Nat → Int32))} {sa : Nat → Nat} {d : Nat} {M : mz_M} {z : Nat × Nat} {m : Nat} (w : g_Mo M.2.2 m) {F : Nat → Int32} {A : Nat → Nat → Int32} {e : rS} {v : Int32} {x3 x4 : Value} (hb : ¬ e.2.2.2.2.1 = 0) : zw sc sa d ym_Mo_readsDeed z (fun r' M' => r' = none ∧ M' = (rq M m F A e)) 121 [.ref m, .int 1, .int v, x3, x4] [] (rq M m F A e) z := by
  refine z_iconst (q := 122) (v := 0) rfl rfl rfl ?_
  refine z_goto rfl ?_
  refine z_istore_n (q := 130) (L2 := [_, _, _, _, _]) rfl rfl rfl rfl ?_
  refine z_iload_n (q := 131) rfl rfl rfl ?_
  refine z_iconst (q := 132) (v := 1) rfl rfl rfl ?_
  refine z_ic_ne (q := 135) rfl rfl (fun h132 => ?_) (fun h132 => ?_)
  · exact absurd h132 (by decide)
  · refine z_aload_n (q := 136) rfl rfl rfl ?_
    refine z_getI (q := 139) rfl rfl rfl (Mo_k w) ?_
    rw [rq_g23]
    refine z_if_ne (q := 142) rfl rfl (fun h139 => ?_) (fun h139 => ?_)
    · refine z_iload_n (q := 181) rfl rfl rfl ?_
      refine z_iconst (q := 182) (v := 1) rfl rfl rfl ?_
      refine z_ic_gt (q := 185) rfl rfl (fun h182 => ?_) (fun h182 => ?_)
      · exact absurd h182 (by decide)
      · refine z_aload_n (q := 186) rfl rfl rfl ?_
        refine z_getI (q := 189) rfl rfl rfl (Mo_k w) ?_
        rw [rq_g23]
        refine z_if_eq (q := 192) rfl rfl (fun h189 => ?_) (fun h189 => ?_)
        · exact absurd h189 hb
        · refine z_iconst (q := 193) (v := 0) rfl rfl rfl ?_
          refine z_goto rfl ?_
          refine z_istore (q := 202) (L2 := [_, _, _, _, _]) rfl rfl rfl rfl ?_
          refine z_aload_n (q := 203) rfl rfl rfl ?_
          refine z_getI (q := 206) rfl rfl rfl (Mo_k w) ?_
          rw [rq_g23]
          refine z_if_ne (q := 209) rfl rfl (fun h206 => ?_) (fun h206 => ?_)
          · refine z_ret rfl rfl ?_
            exact ⟨rfl, rfl⟩
          · exact absurd h206 hb
    · exact absurd h139 hb
theorem l_Mo_deedD {sc : Option (Nat × Nat × (Nat → Int32))} {sa : Nat → Nat} {d : Nat} {M : mz_M} {z : Nat × Nat} {m : Nat} (w : g_Mo M.2.2 m) {F : Nat → Int32} {A : Nat → Nat → Int32} {sg : Nat → Int32} {t : Nat} (ht : t ≤ 500) (h3 : F 3 = nI t) (hA : ∀ i, i < t → A 3 i = bt sg t i) {e : rS} (hk : okr t e) {c D : Nat} (hs : A 1 0 = nI c) (hDe : A 1 4 = nI D) (hD : D < 60) {v a : Int32} {x4 : Value} : zw sc sa (d + 6) ym_Mo_readsDeed z (fun r' M' => r' = none ∧ M' = (rq M m F (if (rNu sg t e 0 (nI c - 1)).2.2.2.2.2.1 = 0 then lyA A D 1 v a (rNu sg t e 0 (nI c - 1)).1 else A) (rNu sg t e 0 (nI c - 1)).2)) 180 [.ref m, .int 1, .int v, .int a, x4] [] (rq M m F A e) z := by
  refine z_iload_n (q := 181) rfl rfl rfl ?_
  refine z_iconst (q := 182) (v := 1) rfl rfl rfl ?_
  refine z_ic_gt (q := 185) rfl rfl (fun h182 => ?_) (fun h182 => ?_)
  · exact absurd h182 (by decide)
  · refine z_aload_n (q := 186) rfl rfl rfl ?_
    refine z_getI (q := 189) rfl rfl rfl (Mo_k w) ?_
    rw [rq_g23]
    refine z_if_eq (q := 192) rfl rfl (fun h189 => ?_) (fun h189 => ?_)
    · refine z_aload_n (q := 197) rfl rfl rfl ?_
      refine z_cv0i (q := 200) rfl rfl rfl (Mo_k w) (t_Mo_readsCellA w ht h3 hA hk hs) ?_
      refine z_istore (q := 202) (L2 := [_, _, _, _, _]) rfl rfl rfl rfl ?_
      refine z_aload_n (q := 203) rfl rfl rfl ?_
      refine z_getI (q := 206) rfl rfl rfl (Mo_k w) ?_
      rw [rq_g23]
      refine z_if_ne (q := 209) rfl rfl (fun h206 => ?_) (fun h206 => ?_)
      · refine z_ret rfl rfl ?_
        first
          | (rw [if_pos h206]; exact ⟨rfl, rfl⟩)
          | exact absurd h206 h189
          | (rw [rNu_b h189, if_neg h189]; exact ⟨rfl, rfl⟩)
          | (rw [if_neg h206]; exact ⟨rfl, rfl⟩)
          | fail "none"
      · refine z_aload_n (q := 210) rfl rfl rfl ?_
        refine z_iload_n (q := 211) rfl rfl rfl ?_
        refine z_iload_n (q := 212) rfl rfl rfl ?_
        refine z_iload_n (q := 213) rfl rfl rfl ?_
        refine z_iload (q := 215) rfl rfl rfl ?_
        refine z_cv4v (q := 218) rfl rfl rfl (Mo_k w) (s_Mo_lays w hDe hD) ?_
        refine z_ret rfl rfl ?_
        first
          | (rw [if_pos h206]; exact ⟨rfl, rfl⟩)
          | exact absurd h206 h189
          | (rw [rNu_b h189, if_neg h189]; exact ⟨rfl, rfl⟩)
          | (rw [if_neg h206]; exact ⟨rfl, rfl⟩)
          | fail "none"
    · refine z_iconst (q := 193) (v := 0) rfl rfl rfl ?_
      refine z_goto rfl ?_
      refine z_istore (q := 202) (L2 := [_, _, _, _, _]) rfl rfl rfl rfl ?_
      refine z_aload_n (q := 203) rfl rfl rfl ?_
      refine z_getI (q := 206) rfl rfl rfl (Mo_k w) ?_
      rw [rq_g23]
      refine z_if_ne (q := 209) rfl rfl (fun h206 => ?_) (fun h206 => ?_)
      · refine z_ret rfl rfl ?_
        first
          | (rw [if_pos h206]; exact ⟨rfl, rfl⟩)
          | exact absurd h206 h189
          | (rw [rNu_b h189, if_neg h189]; exact ⟨rfl, rfl⟩)
          | (rw [if_neg h206]; exact ⟨rfl, rfl⟩)
          | fail "none"
      · refine z_aload_n (q := 210) rfl rfl rfl ?_
        refine z_iload_n (q := 211) rfl rfl rfl ?_
        refine z_iload_n (q := 212) rfl rfl rfl ?_
        refine z_iload_n (q := 213) rfl rfl rfl ?_
        refine z_iload (q := 215) rfl rfl rfl ?_
        refine z_cv4v (q := 218) rfl rfl rfl (Mo_k w) (s_Mo_lays w hDe hD) ?_
        refine z_ret rfl rfl ?_
        first
          | (rw [if_pos h206]; exact ⟨rfl, rfl⟩)
          | exact absurd h206 h189
          | (rw [rNu_b h189, if_neg h189]; exact ⟨rfl, rfl⟩)
          | (rw [if_neg h206]; exact ⟨rfl, rfl⟩)
          | fail "none"
theorem l_Mo_deed1 {sc : Option (Nat × Nat × (Nat → Int32))} {sa : Nat → Nat} {d : Nat} {M : mz_M} {z : Nat × Nat} {m : Nat} (w : g_Mo M.2.2 m) {F : Nat → Int32} {A : Nat → Nat → Int32} {sg : Nat → Int32} {t : Nat} (ht : t ≤ 500) (h3 : F 3 = nI t) (hA : ∀ i, i < t → A 3 i = bt sg t i) {e : rS} (hk : okr t e) {c D : Nat} {q : sQ} (hs : A 1 0 = nI c) (h0 : 0 < c) (hC : c ≤ 12) (hDe : A 1 4 = nI D) (hD : D < 60) (h14 : F 14 = nI q.1) (hq0 : 0 < q.1) (hq : q.1 ≤ 40) (hv : mAv c A q) (hI : qI c q) (hV : qV c q) {x2 x3 x4 : Value} : zw sc sa (d + 6) ym_Mo_readsDeed z (fun r' M' => r' = none ∧ M' = (rq M m F (if (rNu sg t (rNe (rNu sg t (rNu sg t (rPa sg t e 1) 0 (nI q.1 - 1)).2 0 (nI c - 1)).2 (bz (rjX c q (rNu sg t (rPa sg t e 1) 0 (nI q.1 - 1)).1 (rNu sg t (rNu sg t (rPa sg t e 1) 0 (nI q.1 - 1)).2 0 (nI c - 1)).1 (rNu sg t (rNu sg t (rPa sg t e 1) 0 (nI q.1 - 1)).2 0 (nI c - 1)).2.2.2.2.1))) 0 (nI c - 1)).2.2.2.2.2.1 = 0 then lyA A D 1 (rNu sg t (rPa sg t e 1) 0 (nI q.1 - 1)).1 (rNu sg t (rNu sg t (rPa sg t e 1) 0 (nI q.1 - 1)).2 0 (nI c - 1)).1 (rNu sg t (rNe (rNu sg t (rNu sg t (rPa sg t e 1) 0 (nI q.1 - 1)).2 0 (nI c - 1)).2 (bz (rjX c q (rNu sg t (rPa sg t e 1) 0 (nI q.1 - 1)).1 (rNu sg t (rNu sg t (rPa sg t e 1) 0 (nI q.1 - 1)).2 0 (nI c - 1)).1 (rNu sg t (rNu sg t (rPa sg t e 1) 0 (nI q.1 - 1)).2 0 (nI c - 1)).2.2.2.2.1))) 0 (nI c - 1)).1 else A) (rNu sg t (rNe (rNu sg t (rNu sg t (rPa sg t e 1) 0 (nI q.1 - 1)).2 0 (nI c - 1)).2 (bz (rjX c q (rNu sg t (rPa sg t e 1) 0 (nI q.1 - 1)).1 (rNu sg t (rNu sg t (rPa sg t e 1) 0 (nI q.1 - 1)).2 0 (nI c - 1)).1 (rNu sg t (rNu sg t (rPa sg t e 1) 0 (nI q.1 - 1)).2 0 (nI c - 1)).2.2.2.2.1))) 0 (nI c - 1)).2)) 46 [.ref m, .int 1, x2, x3, x4] [] (rq M m F A e) z := by
  refine z_aload_n (q := 47) rfl rfl rfl ?_
  refine z_iconst (q := 48) (v := 1) rfl rfl rfl ?_
  refine z_cv1v (q := 51) rfl rfl rfl (Mo_k w) (t_Mo_passes w ht h3 hA hk) ?_
  refine z_iload_n (q := 52) rfl rfl rfl ?_
  refine z_iconst (q := 53) (v := 4) rfl rfl rfl ?_
  refine z_ic_ne (q := 56) rfl rfl (fun h53 => ?_) (fun h53 => ?_)
  · refine z_aload_n (q := 98) rfl rfl rfl ?_
    refine z_iconst (q := 99) (v := 0) rfl rfl rfl ?_
    refine z_aload_n (q := 100) rfl rfl rfl ?_
    refine z_getI (q := 103) rfl rfl rfl (Mo_k w) ?_
    rw [rq_g14]
    rw [h14]
    refine z_iconst (q := 104) (v := 1) rfl rfl rfl ?_
    refine z_isub (q := 105) rfl rfl ?_
    refine z_cv2i (q := 108) rfl rfl rfl (Mo_k w) (t_Mo_number w ht h3 hA (rPa_ok hk)) ?_
    refine z_istore_n (q := 109) (L2 := [_, _, _, _, _]) rfl rfl rfl rfl ?_
    refine z_iload_n (q := 110) rfl rfl rfl ?_
    refine z_iconst (q := 111) (v := 4) rfl rfl rfl ?_
    refine z_ic_eq (q := 114) rfl rfl (fun h111 => ?_) (fun h111 => ?_)
    · exact absurd h111 (by decide)
    · refine z_aload_n (q := 115) rfl rfl rfl ?_
      refine z_getI (q := 118) rfl rfl rfl (Mo_k w) ?_
      rw [rq_g23]
      refine z_if_eq (q := 121) rfl rfl (fun h118 => ?_) (fun h118 => ?_)
      · refine z_aload_n (q := 126) rfl rfl rfl ?_
        refine z_cv0i (q := 129) rfl rfl rfl (Mo_k w) (t_Mo_readsCellA w ht h3 hA (rNu_ok (rPa_ok hk)) hs) ?_
        refine z_istore_n (q := 130) (L2 := [_, _, _, _, _]) rfl rfl rfl rfl ?_
        refine z_iload_n (q := 131) rfl rfl rfl ?_
        refine z_iconst (q := 132) (v := 1) rfl rfl rfl ?_
        refine z_ic_ne (q := 135) rfl rfl (fun h132 => ?_) (fun h132 => ?_)
        · exact absurd h132 (by decide)
        · refine z_aload_n (q := 136) rfl rfl rfl ?_
          refine z_getI (q := 139) rfl rfl rfl (Mo_k w) ?_
          rw [rq_g23]
          refine z_if_ne (q := 142) rfl rfl (fun h139 => ?_) (fun h139 => ?_)
          · first
              | (have e0 : bz (rjX c q (rNu sg t (rPa sg t e 1) 0 (nI q.1 - 1)).1 (rNu sg t (rNu sg t (rPa sg t e 1) 0 (nI q.1 - 1)).2 0 (nI c - 1)).1 (rNu sg t (rNu sg t (rPa sg t e 1) 0 (nI q.1 - 1)).2 0 (nI c - 1)).2.2.2.2.1) = 0 := bz_f (fun g => g.elim (fun g1 => g1 (bz_n.mp h151)) (fun g1 => g1 h169))
                 rw [e0]
                 exact l_Mo_deedD w ht h3 hA (rNe_ok (rNu_ok (rNu_ok (rPa_ok hk)))) hs hDe hD)
              | (have e0 : bz (rjX c q (rNu sg t (rPa sg t e 1) 0 (nI q.1 - 1)).1 (rNu sg t (rNu sg t (rPa sg t e 1) 0 (nI q.1 - 1)).2 0 (nI c - 1)).1 (rNu sg t (rNu sg t (rPa sg t e 1) 0 (nI q.1 - 1)).2 0 (nI c - 1)).2.2.2.2.1) = 1 := bz_t (Or.inr h169)
                 rw [e0]
                 exact l_Mo_deedD w ht h3 hA (rNe_ok (rNu_ok (rNu_ok (rPa_ok hk)))) hs hDe hD)
              | (have e0 : bz (rjX c q (rNu sg t (rPa sg t e 1) 0 (nI q.1 - 1)).1 (rNu sg t (rNu sg t (rPa sg t e 1) 0 (nI q.1 - 1)).2 0 (nI c - 1)).1 (rNu sg t (rNu sg t (rPa sg t e 1) 0 (nI q.1 - 1)).2 0 (nI c - 1)).2.2.2.2.1) = 1 := bz_t (Or.inl (bz_0.mp h151))
                 rw [e0]
                 exact l_Mo_deedD w ht h3 hA (rNe_ok (rNu_ok (rNu_ok (rPa_ok hk)))) hs hDe hD)
              | (rw [rNe_b h139]
                 exact l_Mo_deedD w ht h3 hA (rNu_ok (rNu_ok (rPa_ok hk))) hs hDe hD)
              | fail "none"
          · refine z_aload_n (q := 143) rfl rfl rfl ?_
            refine z_aload_n (q := 144) rfl rfl rfl ?_
            refine z_aload_n (q := 145) rfl rfl rfl ?_
            refine z_getI (q := 148) rfl rfl rfl (Mo_k w) ?_
            rw [rq_g22]
            refine z_cv1i (q := 151) rfl rfl rfl (Mo_k w) (t_Mo_isCellA w hs h0 hC) ?_
            refine z_if_eq (q := 154) rfl rfl (fun h151 => ?_) (fun h151 => ?_)
            · refine z_iconst (q := 173) (v := 1) rfl rfl rfl ?_
              refine z_goto rfl ?_
              refine z_cv1v (q := 180) rfl rfl rfl (Mo_k w) (t_Mo_needs w) ?_
              first
                | (have e0 : bz (rjX c q (rNu sg t (rPa sg t e 1) 0 (nI q.1 - 1)).1 (rNu sg t (rNu sg t (rPa sg t e 1) 0 (nI q.1 - 1)).2 0 (nI c - 1)).1 (rNu sg t (rNu sg t (rPa sg t e 1) 0 (nI q.1 - 1)).2 0 (nI c - 1)).2.2.2.2.1) = 0 := bz_f (fun g => g.elim (fun g1 => g1 (bz_n.mp h151)) (fun g1 => g1 h169))
                   rw [e0]
                   exact l_Mo_deedD w ht h3 hA (rNe_ok (rNu_ok (rNu_ok (rPa_ok hk)))) hs hDe hD)
                | (have e0 : bz (rjX c q (rNu sg t (rPa sg t e 1) 0 (nI q.1 - 1)).1 (rNu sg t (rNu sg t (rPa sg t e 1) 0 (nI q.1 - 1)).2 0 (nI c - 1)).1 (rNu sg t (rNu sg t (rPa sg t e 1) 0 (nI q.1 - 1)).2 0 (nI c - 1)).2.2.2.2.1) = 1 := bz_t (Or.inr h169)
                   rw [e0]
                   exact l_Mo_deedD w ht h3 hA (rNe_ok (rNu_ok (rNu_ok (rPa_ok hk)))) hs hDe hD)
                | (have e0 : bz (rjX c q (rNu sg t (rPa sg t e 1) 0 (nI q.1 - 1)).1 (rNu sg t (rNu sg t (rPa sg t e 1) 0 (nI q.1 - 1)).2 0 (nI c - 1)).1 (rNu sg t (rNu sg t (rPa sg t e 1) 0 (nI q.1 - 1)).2 0 (nI c - 1)).2.2.2.2.1) = 1 := bz_t (Or.inl (bz_0.mp h151))
                   rw [e0]
                   exact l_Mo_deedD w ht h3 hA (rNe_ok (rNu_ok (rNu_ok (rPa_ok hk)))) hs hDe hD)
                | (rw [rNe_b h139]
                   exact l_Mo_deedD w ht h3 hA (rNu_ok (rNu_ok (rPa_ok hk))) hs hDe hD)
                | fail "none"
            · refine z_aload_n (q := 155) rfl rfl rfl ?_
              refine z_iload_n (q := 156) rfl rfl rfl ?_
              refine z_iload_n (q := 157) rfl rfl rfl ?_
              refine z_cv2i (q := 160) rfl rfl rfl (Mo_k w) (t_Mo_rootR w hv hI hC hs hV hq (rNu_n hq0 (by omega) h118) (rNu_n h0 (by omega) h139)) ?_
              refine z_aload_n (q := 161) rfl rfl rfl ?_
              refine z_iload_n (q := 162) rfl rfl rfl ?_
              refine z_aload_n (q := 163) rfl rfl rfl ?_
              refine z_getI (q := 166) rfl rfl rfl (Mo_k w) ?_
              rw [rq_g22]
              refine z_cv2i (q := 169) rfl rfl rfl (Mo_k w) (t_Mo_rootR w hv hI hC hs hV hq (rNu_n hq0 (by omega) h118) (vI_nat (by omega) (bz_n.mp h151))) ?_
              refine z_ic_eq (q := 172) rfl rfl (fun h169 => ?_) (fun h169 => ?_)
              · refine z_iconst (q := 177) (v := 0) rfl rfl rfl ?_
                refine z_cv1v (q := 180) rfl rfl rfl (Mo_k w) (t_Mo_needs w) ?_
                first
                  | (have e0 : bz (rjX c q (rNu sg t (rPa sg t e 1) 0 (nI q.1 - 1)).1 (rNu sg t (rNu sg t (rPa sg t e 1) 0 (nI q.1 - 1)).2 0 (nI c - 1)).1 (rNu sg t (rNu sg t (rPa sg t e 1) 0 (nI q.1 - 1)).2 0 (nI c - 1)).2.2.2.2.1) = 0 := bz_f (fun g => g.elim (fun g1 => g1 (bz_n.mp h151)) (fun g1 => g1 h169))
                     rw [e0]
                     exact l_Mo_deedD w ht h3 hA (rNe_ok (rNu_ok (rNu_ok (rPa_ok hk)))) hs hDe hD)
                  | (have e0 : bz (rjX c q (rNu sg t (rPa sg t e 1) 0 (nI q.1 - 1)).1 (rNu sg t (rNu sg t (rPa sg t e 1) 0 (nI q.1 - 1)).2 0 (nI c - 1)).1 (rNu sg t (rNu sg t (rPa sg t e 1) 0 (nI q.1 - 1)).2 0 (nI c - 1)).2.2.2.2.1) = 1 := bz_t (Or.inr h169)
                     rw [e0]
                     exact l_Mo_deedD w ht h3 hA (rNe_ok (rNu_ok (rNu_ok (rPa_ok hk)))) hs hDe hD)
                  | (have e0 : bz (rjX c q (rNu sg t (rPa sg t e 1) 0 (nI q.1 - 1)).1 (rNu sg t (rNu sg t (rPa sg t e 1) 0 (nI q.1 - 1)).2 0 (nI c - 1)).1 (rNu sg t (rNu sg t (rPa sg t e 1) 0 (nI q.1 - 1)).2 0 (nI c - 1)).2.2.2.2.1) = 1 := bz_t (Or.inl (bz_0.mp h151))
                     rw [e0]
                     exact l_Mo_deedD w ht h3 hA (rNe_ok (rNu_ok (rNu_ok (rPa_ok hk)))) hs hDe hD)
                  | (rw [rNe_b h139]
                     exact l_Mo_deedD w ht h3 hA (rNu_ok (rNu_ok (rPa_ok hk))) hs hDe hD)
                  | fail "none"
              · refine z_iconst (q := 173) (v := 1) rfl rfl rfl ?_
                refine z_goto rfl ?_
                refine z_cv1v (q := 180) rfl rfl rfl (Mo_k w) (t_Mo_needs w) ?_
                first
                  | (have e0 : bz (rjX c q (rNu sg t (rPa sg t e 1) 0 (nI q.1 - 1)).1 (rNu sg t (rNu sg t (rPa sg t e 1) 0 (nI q.1 - 1)).2 0 (nI c - 1)).1 (rNu sg t (rNu sg t (rPa sg t e 1) 0 (nI q.1 - 1)).2 0 (nI c - 1)).2.2.2.2.1) = 0 := bz_f (fun g => g.elim (fun g1 => g1 (bz_n.mp h151)) (fun g1 => g1 h169))
                     rw [e0]
                     exact l_Mo_deedD w ht h3 hA (rNe_ok (rNu_ok (rNu_ok (rPa_ok hk)))) hs hDe hD)
                  | (have e0 : bz (rjX c q (rNu sg t (rPa sg t e 1) 0 (nI q.1 - 1)).1 (rNu sg t (rNu sg t (rPa sg t e 1) 0 (nI q.1 - 1)).2 0 (nI c - 1)).1 (rNu sg t (rNu sg t (rPa sg t e 1) 0 (nI q.1 - 1)).2 0 (nI c - 1)).2.2.2.2.1) = 1 := bz_t (Or.inr h169)
                     rw [e0]
                     exact l_Mo_deedD w ht h3 hA (rNe_ok (rNu_ok (rNu_ok (rPa_ok hk)))) hs hDe hD)
                  | (have e0 : bz (rjX c q (rNu sg t (rPa sg t e 1) 0 (nI q.1 - 1)).1 (rNu sg t (rNu sg t (rPa sg t e 1) 0 (nI q.1 - 1)).2 0 (nI c - 1)).1 (rNu sg t (rNu sg t (rPa sg t e 1) 0 (nI q.1 - 1)).2 0 (nI c - 1)).2.2.2.2.1) = 1 := bz_t (Or.inl (bz_0.mp h151))
                     rw [e0]
                     exact l_Mo_deedD w ht h3 hA (rNe_ok (rNu_ok (rNu_ok (rPa_ok hk)))) hs hDe hD)
                  | (rw [rNe_b h139]
                     exact l_Mo_deedD w ht h3 hA (rNu_ok (rNu_ok (rPa_ok hk))) hs hDe hD)
                  | fail "none"
      · have e0 : (rNu sg t (rNu sg t (rPa sg t e 1) 0 (nI q.1 - 1)).2 0 (nI c - 1)) = (0, (rNu sg t (rPa sg t e 1) 0 (nI q.1 - 1)).2) := rNu_b h118
        have e3 : (rNu sg t (rNe (rNu sg t (rNu sg t (rPa sg t e 1) 0 (nI q.1 - 1)).2 0 (nI c - 1)).2 (bz (rjX c q (rNu sg t (rPa sg t e 1) 0 (nI q.1 - 1)).1 (rNu sg t (rNu sg t (rPa sg t e 1) 0 (nI q.1 - 1)).2 0 (nI c - 1)).1 (rNu sg t (rNu sg t (rPa sg t e 1) 0 (nI q.1 - 1)).2 0 (nI c - 1)).2.2.2.2.1))) 0 (nI c - 1)) = (0, (rNu sg t (rPa sg t e 1) 0 (nI q.1 - 1)).2) := by
          rw [e0]
          dsimp only
          rw [rNe_b h118]
          exact rNu_b h118
        rw [e3]
        dsimp only
        rw [if_neg h118]
        exact l_Mo_deedB w h118
  · exact absurd h53 (by decide)
theorem l_Mo_deed4 {sc : Option (Nat × Nat × (Nat → Int32))} {sa : Nat → Nat} {d : Nat} {M : mz_M} {z : Nat × Nat} {m : Nat} (w : g_Mo M.2.2 m) {F : Nat → Int32} {A : Nat → Nat → Int32} {sg : Nat → Int32} {t : Nat} (ht : t ≤ 500) (h3 : F 3 = nI t) (hA : ∀ i, i < t → A 3 i = bt sg t i) {e : rS} (hk : okr t e) {c D : Nat} {q : sQ} (hs : A 1 0 = nI c) (h0 : 0 < c) (hC : c ≤ 12) (hDe : A 1 4 = nI D) (hD : D < 60) (h14 : F 14 = nI q.1) (hq0 : 0 < q.1) (hq : q.1 ≤ 40) (hl : mAl A q) {x2 x3 x4 : Value} : zw sc sa (d + 6) ym_Mo_readsDeed z (fun r' M' => r' = none ∧ M' = (rq M m F (if (rNu sg t (rNe (rPa sg t e 1) (bz (rsX q (rPa sg t e 1).2.2.2.1))) 0 (nI q.1 - 1)).2.2.2.2.2.1 = 0 then lyA A D 4 (rNu sg t (rNe (rPa sg t e 1) (bz (rsX q (rPa sg t e 1).2.2.2.1))) 0 (nI q.1 - 1)).1 0 0 else A) (rNu sg t (rNe (rPa sg t e 1) (bz (rsX q (rPa sg t e 1).2.2.2.1))) 0 (nI q.1 - 1)).2)) 46 [.ref m, .int 4, x2, x3, x4] [] (rq M m F A e) z := by
  refine z_aload_n (q := 47) rfl rfl rfl ?_
  refine z_iconst (q := 48) (v := 1) rfl rfl rfl ?_
  refine z_cv1v (q := 51) rfl rfl rfl (Mo_k w) (t_Mo_passes w ht h3 hA hk) ?_
  refine z_iload_n (q := 52) rfl rfl rfl ?_
  refine z_iconst (q := 53) (v := 4) rfl rfl rfl ?_
  refine z_ic_ne (q := 56) rfl rfl (fun h53 => ?_) (fun h53 => ?_)
  · exact absurd h53 (by decide)
  · refine z_aload_n (q := 57) rfl rfl rfl ?_
    refine z_aload_n (q := 58) rfl rfl rfl ?_
    refine z_getI (q := 61) rfl rfl rfl (Mo_k w) ?_
    rw [rq_g22]
    refine z_i2l (q := 62) rfl rfl ?_
    refine z_lconst (q := 63) (v := 0) rfl rfl rfl ?_
    refine z_aload_n (q := 64) rfl rfl rfl ?_
    refine z_getI (q := 67) rfl rfl rfl (Mo_k w) ?_
    rw [rq_g14]
    rw [h14]
    refine z_iconst (q := 68) (v := 1) rfl rfl rfl ?_
    refine z_isub (q := 69) rfl rfl ?_
    refine z_i2l (q := 70) rfl rfl ?_
    refine z_cs3i (q := 73) rfl rfl rfl (t_Mo_inW hq0 (by omega)) ?_
    refine z_if_eq (q := 76) rfl rfl (fun h73 => ?_) (fun h73 => ?_)
    · refine z_iconst (q := 90) (v := 1) rfl rfl rfl ?_
      refine z_goto rfl ?_
      refine z_cv1v (q := 97) rfl rfl rfl (Mo_k w) (t_Mo_needs w) ?_
      refine z_aload_n (q := 98) rfl rfl rfl ?_
      refine z_iconst (q := 99) (v := 0) rfl rfl rfl ?_
      refine z_aload_n (q := 100) rfl rfl rfl ?_
      refine z_getI (q := 103) rfl rfl rfl (Mo_k w) ?_
      rw [rq_g14]
      rw [h14]
      refine z_iconst (q := 104) (v := 1) rfl rfl rfl ?_
      refine z_isub (q := 105) rfl rfl ?_
      refine z_cv2i (q := 108) rfl rfl rfl (Mo_k w) (t_Mo_number w ht h3 hA (rNe_ok (rPa_ok hk))) ?_
      refine z_istore_n (q := 109) (L2 := [_, _, _, _, _]) rfl rfl rfl rfl ?_
      refine z_iload_n (q := 110) rfl rfl rfl ?_
      refine z_iconst (q := 111) (v := 4) rfl rfl rfl ?_
      refine z_ic_eq (q := 114) rfl rfl (fun h111 => ?_) (fun h111 => ?_)
      · refine z_iconst (q := 122) (v := 0) rfl rfl rfl ?_
        refine z_goto rfl ?_
        refine z_istore_n (q := 130) (L2 := [_, _, _, _, _]) rfl rfl rfl rfl ?_
        refine z_iload_n (q := 131) rfl rfl rfl ?_
        refine z_iconst (q := 132) (v := 1) rfl rfl rfl ?_
        refine z_ic_ne (q := 135) rfl rfl (fun h132 => ?_) (fun h132 => ?_)
        · refine z_iload_n (q := 181) rfl rfl rfl ?_
          refine z_iconst (q := 182) (v := 1) rfl rfl rfl ?_
          refine z_ic_gt (q := 185) rfl rfl (fun h182 => ?_) (fun h182 => ?_)
          · refine z_iconst (q := 193) (v := 0) rfl rfl rfl ?_
            refine z_goto rfl ?_
            refine z_istore (q := 202) (L2 := [_, _, _, _, _]) rfl rfl rfl rfl ?_
            refine z_aload_n (q := 203) rfl rfl rfl ?_
            refine z_getI (q := 206) rfl rfl rfl (Mo_k w) ?_
            rw [rq_g23]
            refine z_if_ne (q := 209) rfl rfl (fun h206 => ?_) (fun h206 => ?_)
            · refine z_ret rfl rfl ?_
              first
                | (have e0 : bz (rsX q (rPa sg t e 1).2.2.2.1) = 0 := bz_f (fun g => g.elim (fun g1 => g1 (bz_n.mp h73)) (fun g1 => g1 h86))
                   rw [e0]
                   first
                     | (rw [if_pos h206]; exact ⟨rfl, rfl⟩)
                     | (rw [if_neg h206]; exact ⟨rfl, rfl⟩)
                     | fail "none")
                | (have e0 : bz (rsX q (rPa sg t e 1).2.2.2.1) = 1 := bz_t (Or.inr h86)
                   rw [e0]
                   first
                     | (rw [if_pos h206]; exact ⟨rfl, rfl⟩)
                     | (rw [if_neg h206]; exact ⟨rfl, rfl⟩)
                     | fail "none")
                | (have e0 : bz (rsX q (rPa sg t e 1).2.2.2.1) = 1 := bz_t (Or.inl (bz_0.mp h73))
                   rw [e0]
                   first
                     | (rw [if_pos h206]; exact ⟨rfl, rfl⟩)
                     | (rw [if_neg h206]; exact ⟨rfl, rfl⟩)
                     | fail "none")
                | fail "none"
            · refine z_aload_n (q := 210) rfl rfl rfl ?_
              refine z_iload_n (q := 211) rfl rfl rfl ?_
              refine z_iload_n (q := 212) rfl rfl rfl ?_
              refine z_iload_n (q := 213) rfl rfl rfl ?_
              refine z_iload (q := 215) rfl rfl rfl ?_
              refine z_cv4v (q := 218) rfl rfl rfl (Mo_k w) (s_Mo_lays w hDe hD) ?_
              refine z_ret rfl rfl ?_
              first
                | (have e0 : bz (rsX q (rPa sg t e 1).2.2.2.1) = 0 := bz_f (fun g => g.elim (fun g1 => g1 (bz_n.mp h73)) (fun g1 => g1 h86))
                   rw [e0]
                   first
                     | (rw [if_pos h206]; exact ⟨rfl, rfl⟩)
                     | (rw [if_neg h206]; exact ⟨rfl, rfl⟩)
                     | fail "none")
                | (have e0 : bz (rsX q (rPa sg t e 1).2.2.2.1) = 1 := bz_t (Or.inr h86)
                   rw [e0]
                   first
                     | (rw [if_pos h206]; exact ⟨rfl, rfl⟩)
                     | (rw [if_neg h206]; exact ⟨rfl, rfl⟩)
                     | fail "none")
                | (have e0 : bz (rsX q (rPa sg t e 1).2.2.2.1) = 1 := bz_t (Or.inl (bz_0.mp h73))
                   rw [e0]
                   first
                     | (rw [if_pos h206]; exact ⟨rfl, rfl⟩)
                     | (rw [if_neg h206]; exact ⟨rfl, rfl⟩)
                     | fail "none")
                | fail "none"
          · exact absurd h182 (by decide)
        · exact absurd h132 (by decide)
      · exact absurd h111 (by decide)
    · refine z_aload_n (q := 77) rfl rfl rfl ?_
      refine z_getR (q := 80) rfl rfl rfl (Mo_k w) (Mo_r10 w) ?_
      refine z_aload_n (q := 81) rfl rfl rfl ?_
      refine z_getI (q := 84) rfl rfl rfl (Mo_k w) ?_
      rw [rq_g22]
      refine z_iald (q := 85) rfl rfl (Mo_a10 w) (by obtain ⟨j, hj, ej⟩ := vI_nat (by omega) (bz_n.mp h73); rw [ej]; exact vp_in_nI (by omega) (by omega)) ?_
      rw [rq_a10]
      try rw [nI_clamp (by omega)]
      rw [show A 8 (rPa sg t e 1).2.2.2.1.toNatClampNeg = q.2.2.1 (rPa sg t e 1).2.2.2.1.toNatClampNeg from al8 hl hq (bz_n.mp h73)]
      refine z_iconst (q := 86) (v := -1) rfl rfl rfl ?_
      refine z_ic_eq (q := 89) rfl rfl (fun h86 => ?_) (fun h86 => ?_)
      · refine z_iconst (q := 94) (v := 0) rfl rfl rfl ?_
        refine z_cv1v (q := 97) rfl rfl rfl (Mo_k w) (t_Mo_needs w) ?_
        refine z_aload_n (q := 98) rfl rfl rfl ?_
        refine z_iconst (q := 99) (v := 0) rfl rfl rfl ?_
        refine z_aload_n (q := 100) rfl rfl rfl ?_
        refine z_getI (q := 103) rfl rfl rfl (Mo_k w) ?_
        rw [rq_g14]
        rw [h14]
        refine z_iconst (q := 104) (v := 1) rfl rfl rfl ?_
        refine z_isub (q := 105) rfl rfl ?_
        refine z_cv2i (q := 108) rfl rfl rfl (Mo_k w) (t_Mo_number w ht h3 hA (rNe_ok (rPa_ok hk))) ?_
        refine z_istore_n (q := 109) (L2 := [_, _, _, _, _]) rfl rfl rfl rfl ?_
        refine z_iload_n (q := 110) rfl rfl rfl ?_
        refine z_iconst (q := 111) (v := 4) rfl rfl rfl ?_
        refine z_ic_eq (q := 114) rfl rfl (fun h111 => ?_) (fun h111 => ?_)
        · refine z_iconst (q := 122) (v := 0) rfl rfl rfl ?_
          refine z_goto rfl ?_
          refine z_istore_n (q := 130) (L2 := [_, _, _, _, _]) rfl rfl rfl rfl ?_
          refine z_iload_n (q := 131) rfl rfl rfl ?_
          refine z_iconst (q := 132) (v := 1) rfl rfl rfl ?_
          refine z_ic_ne (q := 135) rfl rfl (fun h132 => ?_) (fun h132 => ?_)
          · refine z_iload_n (q := 181) rfl rfl rfl ?_
            refine z_iconst (q := 182) (v := 1) rfl rfl rfl ?_
            refine z_ic_gt (q := 185) rfl rfl (fun h182 => ?_) (fun h182 => ?_)
            · refine z_iconst (q := 193) (v := 0) rfl rfl rfl ?_
              refine z_goto rfl ?_
              refine z_istore (q := 202) (L2 := [_, _, _, _, _]) rfl rfl rfl rfl ?_
              refine z_aload_n (q := 203) rfl rfl rfl ?_
              refine z_getI (q := 206) rfl rfl rfl (Mo_k w) ?_
              rw [rq_g23]
              refine z_if_ne (q := 209) rfl rfl (fun h206 => ?_) (fun h206 => ?_)
              · refine z_ret rfl rfl ?_
                first
                  | (have e0 : bz (rsX q (rPa sg t e 1).2.2.2.1) = 0 := bz_f (fun g => g.elim (fun g1 => g1 (bz_n.mp h73)) (fun g1 => g1 h86))
                     rw [e0]
                     first
                       | (rw [if_pos h206]; exact ⟨rfl, rfl⟩)
                       | (rw [if_neg h206]; exact ⟨rfl, rfl⟩)
                       | fail "none")
                  | (have e0 : bz (rsX q (rPa sg t e 1).2.2.2.1) = 1 := bz_t (Or.inr h86)
                     rw [e0]
                     first
                       | (rw [if_pos h206]; exact ⟨rfl, rfl⟩)
                       | (rw [if_neg h206]; exact ⟨rfl, rfl⟩)
                       | fail "none")
                  | (have e0 : bz (rsX q (rPa sg t e 1).2.2.2.1) = 1 := bz_t (Or.inl (bz_0.mp h73))
                     rw [e0]
                     first
                       | (rw [if_pos h206]; exact ⟨rfl, rfl⟩)
                       | (rw [if_neg h206]; exact ⟨rfl, rfl⟩)
                       | fail "none")
                  | fail "none"
              · refine z_aload_n (q := 210) rfl rfl rfl ?_
                refine z_iload_n (q := 211) rfl rfl rfl ?_
                refine z_iload_n (q := 212) rfl rfl rfl ?_
                refine z_iload_n (q := 213) rfl rfl rfl ?_
                refine z_iload (q := 215) rfl rfl rfl ?_
                refine z_cv4v (q := 218) rfl rfl rfl (Mo_k w) (s_Mo_lays w hDe hD) ?_
                refine z_ret rfl rfl ?_
                first
                  | (have e0 : bz (rsX q (rPa sg t e 1).2.2.2.1) = 0 := bz_f (fun g => g.elim (fun g1 => g1 (bz_n.mp h73)) (fun g1 => g1 h86))
                     rw [e0]
                     first
                       | (rw [if_pos h206]; exact ⟨rfl, rfl⟩)
                       | (rw [if_neg h206]; exact ⟨rfl, rfl⟩)
                       | fail "none")
                  | (have e0 : bz (rsX q (rPa sg t e 1).2.2.2.1) = 1 := bz_t (Or.inr h86)
                     rw [e0]
                     first
                       | (rw [if_pos h206]; exact ⟨rfl, rfl⟩)
                       | (rw [if_neg h206]; exact ⟨rfl, rfl⟩)
                       | fail "none")
                  | (have e0 : bz (rsX q (rPa sg t e 1).2.2.2.1) = 1 := bz_t (Or.inl (bz_0.mp h73))
                     rw [e0]
                     first
                       | (rw [if_pos h206]; exact ⟨rfl, rfl⟩)
                       | (rw [if_neg h206]; exact ⟨rfl, rfl⟩)
                       | fail "none")
                  | fail "none"
            · exact absurd h182 (by decide)
          · exact absurd h132 (by decide)
        · exact absurd h111 (by decide)
      · refine z_iconst (q := 90) (v := 1) rfl rfl rfl ?_
        refine z_goto rfl ?_
        refine z_cv1v (q := 97) rfl rfl rfl (Mo_k w) (t_Mo_needs w) ?_
        refine z_aload_n (q := 98) rfl rfl rfl ?_
        refine z_iconst (q := 99) (v := 0) rfl rfl rfl ?_
        refine z_aload_n (q := 100) rfl rfl rfl ?_
        refine z_getI (q := 103) rfl rfl rfl (Mo_k w) ?_
        rw [rq_g14]
        rw [h14]
        refine z_iconst (q := 104) (v := 1) rfl rfl rfl ?_
        refine z_isub (q := 105) rfl rfl ?_
        refine z_cv2i (q := 108) rfl rfl rfl (Mo_k w) (t_Mo_number w ht h3 hA (rNe_ok (rPa_ok hk))) ?_
        refine z_istore_n (q := 109) (L2 := [_, _, _, _, _]) rfl rfl rfl rfl ?_
        refine z_iload_n (q := 110) rfl rfl rfl ?_
        refine z_iconst (q := 111) (v := 4) rfl rfl rfl ?_
        refine z_ic_eq (q := 114) rfl rfl (fun h111 => ?_) (fun h111 => ?_)
        · refine z_iconst (q := 122) (v := 0) rfl rfl rfl ?_
          refine z_goto rfl ?_
          refine z_istore_n (q := 130) (L2 := [_, _, _, _, _]) rfl rfl rfl rfl ?_
          refine z_iload_n (q := 131) rfl rfl rfl ?_
          refine z_iconst (q := 132) (v := 1) rfl rfl rfl ?_
          refine z_ic_ne (q := 135) rfl rfl (fun h132 => ?_) (fun h132 => ?_)
          · refine z_iload_n (q := 181) rfl rfl rfl ?_
            refine z_iconst (q := 182) (v := 1) rfl rfl rfl ?_
            refine z_ic_gt (q := 185) rfl rfl (fun h182 => ?_) (fun h182 => ?_)
            · refine z_iconst (q := 193) (v := 0) rfl rfl rfl ?_
              refine z_goto rfl ?_
              refine z_istore (q := 202) (L2 := [_, _, _, _, _]) rfl rfl rfl rfl ?_
              refine z_aload_n (q := 203) rfl rfl rfl ?_
              refine z_getI (q := 206) rfl rfl rfl (Mo_k w) ?_
              rw [rq_g23]
              refine z_if_ne (q := 209) rfl rfl (fun h206 => ?_) (fun h206 => ?_)
              · refine z_ret rfl rfl ?_
                first
                  | (have e0 : bz (rsX q (rPa sg t e 1).2.2.2.1) = 0 := bz_f (fun g => g.elim (fun g1 => g1 (bz_n.mp h73)) (fun g1 => g1 h86))
                     rw [e0]
                     first
                       | (rw [if_pos h206]; exact ⟨rfl, rfl⟩)
                       | (rw [if_neg h206]; exact ⟨rfl, rfl⟩)
                       | fail "none")
                  | (have e0 : bz (rsX q (rPa sg t e 1).2.2.2.1) = 1 := bz_t (Or.inr h86)
                     rw [e0]
                     first
                       | (rw [if_pos h206]; exact ⟨rfl, rfl⟩)
                       | (rw [if_neg h206]; exact ⟨rfl, rfl⟩)
                       | fail "none")
                  | (have e0 : bz (rsX q (rPa sg t e 1).2.2.2.1) = 1 := bz_t (Or.inl (bz_0.mp h73))
                     rw [e0]
                     first
                       | (rw [if_pos h206]; exact ⟨rfl, rfl⟩)
                       | (rw [if_neg h206]; exact ⟨rfl, rfl⟩)
                       | fail "none")
                  | fail "none"
              · refine z_aload_n (q := 210) rfl rfl rfl ?_
                refine z_iload_n (q := 211) rfl rfl rfl ?_
                refine z_iload_n (q := 212) rfl rfl rfl ?_
                refine z_iload_n (q := 213) rfl rfl rfl ?_
                refine z_iload (q := 215) rfl rfl rfl ?_
                refine z_cv4v (q := 218) rfl rfl rfl (Mo_k w) (s_Mo_lays w hDe hD) ?_
                refine z_ret rfl rfl ?_
                first
                  | (have e0 : bz (rsX q (rPa sg t e 1).2.2.2.1) = 0 := bz_f (fun g => g.elim (fun g1 => g1 (bz_n.mp h73)) (fun g1 => g1 h86))
                     rw [e0]
                     first
                       | (rw [if_pos h206]; exact ⟨rfl, rfl⟩)
                       | (rw [if_neg h206]; exact ⟨rfl, rfl⟩)
                       | fail "none")
                  | (have e0 : bz (rsX q (rPa sg t e 1).2.2.2.1) = 1 := bz_t (Or.inr h86)
                     rw [e0]
                     first
                       | (rw [if_pos h206]; exact ⟨rfl, rfl⟩)
                       | (rw [if_neg h206]; exact ⟨rfl, rfl⟩)
                       | fail "none")
                  | (have e0 : bz (rsX q (rPa sg t e 1).2.2.2.1) = 1 := bz_t (Or.inl (bz_0.mp h73))
                     rw [e0]
                     first
                       | (rw [if_pos h206]; exact ⟨rfl, rfl⟩)
                       | (rw [if_neg h206]; exact ⟨rfl, rfl⟩)
                       | fail "none")
                  | fail "none"
            · exact absurd h182 (by decide)
          · exact absurd h132 (by decide)
        · exact absurd h111 (by decide)
