-- a deed as the reference reads it
theorem rq_g14 {M : mz_M} {m : Nat} {F : Nat → Int32} {A : Nat → Nat → Int32} {e : rS} : (rq M m F A e).1 m 14 = F 14 := by unfold rq reP; rw [moF_g]; rfl
theorem rq_a10 {M : mz_M} {m : Nat} {F : Nat → Int32} {A : Nat → Nat → Int32} {e : rS} : (rq M m F A e).1 (m + 8) = A 8 := moF_a10
theorem t_Mo_readsCellA {sc : Option (Nat × Nat × (Nat → Int32))} {sa : Nat → Nat} {d : Nat} {M : mz_M} {z : Nat × Nat} {m : Nat} (w : g_Mo M.2.2 m) {F : Nat → Int32} {A : Nat → Nat → Int32} {sg : Nat → Int32} {t : Nat} (ht : t ≤ 500) (h3 : F 3 = nI t) (hA : ∀ i, i < t → A 3 i = bt sg t i) {e : rS} (hk : okr t e) {c : Nat} (hs : A 1 0 = nI c) : zx sc sa (d + 6) 208 [.ref m] (rq M m F A e) z z (some (.int (rNu sg t e 0 (nI c - 1)).1)) (rq M m F A (rNu sg t e 0 (nI c - 1)).2) := by
  have g := @t_Mo_readsCell sc sa d M z m w F A sg t ht h3 hA (A 1) e hk c hs
  rw [up_e] at g
  exact g
abbrev rjX (c : Nat) (q : sQ) (v a x : Int32) : Prop := ¬ vI c x ∨ ¬ rt (q.2.1 v.toNatClampNeg) c a = rt (q.2.1 v.toNatClampNeg) c x
abbrev rsX (q : sQ) (x : Int32) : Prop := ¬ vI q.1 x ∨ ¬ q.2.2.1 x.toNatClampNeg = -1
theorem l_Mo_deed2 {sc : Option (Nat × Nat × (Nat → Int32))} {sa : Nat → Nat} {d : Nat} {M : mz_M} {z : Nat × Nat} {m : Nat} (w : g_Mo M.2.2 m) {F : Nat → Int32} {A : Nat → Nat → Int32} {sg : Nat → Int32} {t : Nat} (ht : t ≤ 500) (h3 : F 3 = nI t) (hA : ∀ i, i < t → A 3 i = bt sg t i) {e : rS} (hk : okr t e) {c D : Nat} {q : sQ} (hs : A 1 0 = nI c) (h0 : 0 < c) (hC : c ≤ 12) (hDe : A 1 4 = nI D) (hD : D < 60) (h14 : F 14 = nI q.1) (hq0 : 0 < q.1) (hq : q.1 ≤ 40) {x2 x3 x4 : Value} : zw sc sa (d + 6) ym_Mo_readsDeed z (fun r' M' => r' = none ∧ M' = (rq M m F (if (rNu sg t (rNu sg t (rPa sg t e 1) 0 (nI q.1 - 1)).2 0 (nI c - 1)).2.2.2.2.2.1 = 0 then lyA A D 2 (rNu sg t (rPa sg t e 1) 0 (nI q.1 - 1)).1 (rNu sg t (rNu sg t (rPa sg t e 1) 0 (nI q.1 - 1)).2 0 (nI c - 1)).1 0 else A) (rNu sg t (rNu sg t (rPa sg t e 1) 0 (nI q.1 - 1)).2 0 (nI c - 1)).2)) 46 [.ref m, .int 2, x2, x3, x4] [] (rq M m F A e) z := by
  refine z_aload_n (q := 47) rfl rfl rfl ?_
  refine z_iconst (q := 48) (v := 1) rfl rfl rfl ?_
  refine z_cv1v (q := 51) rfl rfl rfl (Mo_k w) (t_Mo_passes w ht h3 hA hk) ?_
  refine z_iload_n (q := 52) rfl rfl rfl ?_
  refine z_iconst (q := 53) (v := 4) rfl rfl rfl ?_
  refine z_ic_ne (q := 56) rfl rfl (fun h53 => ?_) (fun h53 => ?_)
  · refine z_aload_n (q := 98) rfl rfl rfl ?_
    refine z_iconst (q := 99) (v := 0) rfl rfl rfl ?_
    refine z_aload_n (q := 100) rfl rfl rfl ?_
    refine z_getI (q := 103) rfl rfl rfl (Mo_k w) ?_
    rw [rq_g14]
    rw [h14]
    refine z_iconst (q := 104) (v := 1) rfl rfl rfl ?_
    refine z_isub (q := 105) rfl rfl ?_
    refine z_cv2i (q := 108) rfl rfl rfl (Mo_k w) (t_Mo_number w ht h3 hA (rPa_ok hk)) ?_
    refine z_istore_n (q := 109) (L2 := [_, _, _, _, _]) rfl rfl rfl rfl ?_
    refine z_iload_n (q := 110) rfl rfl rfl ?_
    refine z_iconst (q := 111) (v := 4) rfl rfl rfl ?_
    refine z_ic_eq (q := 114) rfl rfl (fun h111 => ?_) (fun h111 => ?_)
    · exact absurd h111 (by decide)
    · refine z_aload_n (q := 115) rfl rfl rfl ?_
      refine z_getI (q := 118) rfl rfl rfl (Mo_k w) ?_
      rw [rq_g23]
      refine z_if_eq (q := 121) rfl rfl (fun h118 => ?_) (fun h118 => ?_)
      · refine z_aload_n (q := 126) rfl rfl rfl ?_
        refine z_cv0i (q := 129) rfl rfl rfl (Mo_k w) (t_Mo_readsCellA w ht h3 hA (rNu_ok (rPa_ok hk)) hs) ?_
        refine z_istore_n (q := 130) (L2 := [_, _, _, _, _]) rfl rfl rfl rfl ?_
        refine z_iload_n (q := 131) rfl rfl rfl ?_
        refine z_iconst (q := 132) (v := 1) rfl rfl rfl ?_
        refine z_ic_ne (q := 135) rfl rfl (fun h132 => ?_) (fun h132 => ?_)
        · refine z_iload_n (q := 181) rfl rfl rfl ?_
          refine z_iconst (q := 182) (v := 1) rfl rfl rfl ?_
          refine z_ic_gt (q := 185) rfl rfl (fun h182 => ?_) (fun h182 => ?_)
          · refine z_iconst (q := 193) (v := 0) rfl rfl rfl ?_
            refine z_goto rfl ?_
            refine z_istore (q := 202) (L2 := [_, _, _, _, _]) rfl rfl rfl rfl ?_
            refine z_aload_n (q := 203) rfl rfl rfl ?_
            refine z_getI (q := 206) rfl rfl rfl (Mo_k w) ?_
            rw [rq_g23]
            refine z_if_ne (q := 209) rfl rfl (fun h206 => ?_) (fun h206 => ?_)
            · refine z_ret rfl rfl ?_
              first
                | (rw [if_pos h206]; exact ⟨rfl, rfl⟩)
                | (rw [if_neg h206]; exact ⟨rfl, rfl⟩)
                | exact absurd h206 h118
                | (rw [rNu_b h118, if_neg h118]; exact ⟨rfl, rfl⟩)
                | fail "none"
            · refine z_aload_n (q := 210) rfl rfl rfl ?_
              refine z_iload_n (q := 211) rfl rfl rfl ?_
              refine z_iload_n (q := 212) rfl rfl rfl ?_
              refine z_iload_n (q := 213) rfl rfl rfl ?_
              refine z_iload (q := 215) rfl rfl rfl ?_
              refine z_cv4v (q := 218) rfl rfl rfl (Mo_k w) (s_Mo_lays w hDe hD) ?_
              refine z_ret rfl rfl ?_
              first
                | (rw [if_pos h206]; exact ⟨rfl, rfl⟩)
                | (rw [if_neg h206]; exact ⟨rfl, rfl⟩)
                | exact absurd h206 h118
                | (rw [rNu_b h118, if_neg h118]; exact ⟨rfl, rfl⟩)
                | fail "none"
          · exact absurd h182 (by decide)
        · exact absurd h132 (by decide)
      · refine z_iconst (q := 122) (v := 0) rfl rfl rfl ?_
        refine z_goto rfl ?_
        refine z_istore_n (q := 130) (L2 := [_, _, _, _, _]) rfl rfl rfl rfl ?_
        refine z_iload_n (q := 131) rfl rfl rfl ?_
        refine z_iconst (q := 132) (v := 1) rfl rfl rfl ?_
        refine z_ic_ne (q := 135) rfl rfl (fun h132 => ?_) (fun h132 => ?_)
        · refine z_iload_n (q := 181) rfl rfl rfl ?_
          refine z_iconst (q := 182) (v := 1) rfl rfl rfl ?_
          refine z_ic_gt (q := 185) rfl rfl (fun h182 => ?_) (fun h182 => ?_)
          · refine z_iconst (q := 193) (v := 0) rfl rfl rfl ?_
            refine z_goto rfl ?_
            refine z_istore (q := 202) (L2 := [_, _, _, _, _]) rfl rfl rfl rfl ?_
            refine z_aload_n (q := 203) rfl rfl rfl ?_
            refine z_getI (q := 206) rfl rfl rfl (Mo_k w) ?_
            rw [rq_g23]
            refine z_if_ne (q := 209) rfl rfl (fun h206 => ?_) (fun h206 => ?_)
            · refine z_ret rfl rfl ?_
              first
                | (rw [if_pos h206]; exact ⟨rfl, rfl⟩)
                | (rw [if_neg h206]; exact ⟨rfl, rfl⟩)
                | exact absurd h206 h118
                | (rw [rNu_b h118, if_neg h118]; exact ⟨rfl, rfl⟩)
                | fail "none"
            · refine z_aload_n (q := 210) rfl rfl rfl ?_
              refine z_iload_n (q := 211) rfl rfl rfl ?_
              refine z_iload_n (q := 212) rfl rfl rfl ?_
              refine z_iload_n (q := 213) rfl rfl rfl ?_
              refine z_iload (q := 215) rfl rfl rfl ?_
              refine z_cv4v (q := 218) rfl rfl rfl (Mo_k w) (s_Mo_lays w hDe hD) ?_
              refine z_ret rfl rfl ?_
              first
                | (rw [if_pos h206]; exact ⟨rfl, rfl⟩)
                | (rw [if_neg h206]; exact ⟨rfl, rfl⟩)
                | exact absurd h206 h118
                | (rw [rNu_b h118, if_neg h118]; exact ⟨rfl, rfl⟩)
                | fail "none"
          · exact absurd h182 (by decide)
        · exact absurd h132 (by decide)
  · exact absurd h53 (by decide)
theorem l_Mo_deed3 {sc : Option (Nat × Nat × (Nat → Int32))} {sa : Nat → Nat} {d : Nat} {M : mz_M} {z : Nat × Nat} {m : Nat} (w : g_Mo M.2.2 m) {F : Nat → Int32} {A : Nat → Nat → Int32} {sg : Nat → Int32} {t : Nat} (ht : t ≤ 500) (h3 : F 3 = nI t) (hA : ∀ i, i < t → A 3 i = bt sg t i) {e : rS} (hk : okr t e) {c D : Nat} {q : sQ} (hs : A 1 0 = nI c) (h0 : 0 < c) (hC : c ≤ 12) (hDe : A 1 4 = nI D) (hD : D < 60) (h14 : F 14 = nI q.1) (hq0 : 0 < q.1) (hq : q.1 ≤ 40) {x2 x3 x4 : Value} : zw sc sa (d + 6) ym_Mo_readsDeed z (fun r' M' => r' = none ∧ M' = (rq M m F (if (rNu sg t (rNu sg t (rPa sg t e 1) 0 (nI q.1 - 1)).2 0 (nI c - 1)).2.2.2.2.2.1 = 0 then lyA A D 3 (rNu sg t (rPa sg t e 1) 0 (nI q.1 - 1)).1 (rNu sg t (rNu sg t (rPa sg t e 1) 0 (nI q.1 - 1)).2 0 (nI c - 1)).1 0 else A) (rNu sg t (rNu sg t (rPa sg t e 1) 0 (nI q.1 - 1)).2 0 (nI c - 1)).2)) 46 [.ref m, .int 3, x2, x3, x4] [] (rq M m F A e) z := by
  refine z_aload_n (q := 47) rfl rfl rfl ?_
  refine z_iconst (q := 48) (v := 1) rfl rfl rfl ?_
  refine z_cv1v (q := 51) rfl rfl rfl (Mo_k w) (t_Mo_passes w ht h3 hA hk) ?_
  refine z_iload_n (q := 52) rfl rfl rfl ?_
  refine z_iconst (q := 53) (v := 4) rfl rfl rfl ?_
  refine z_ic_ne (q := 56) rfl rfl (fun h53 => ?_) (fun h53 => ?_)
  · refine z_aload_n (q := 98) rfl rfl rfl ?_
    refine z_iconst (q := 99) (v := 0) rfl rfl rfl ?_
    refine z_aload_n (q := 100) rfl rfl rfl ?_
    refine z_getI (q := 103) rfl rfl rfl (Mo_k w) ?_
    rw [rq_g14]
    rw [h14]
    refine z_iconst (q := 104) (v := 1) rfl rfl rfl ?_
    refine z_isub (q := 105) rfl rfl ?_
    refine z_cv2i (q := 108) rfl rfl rfl (Mo_k w) (t_Mo_number w ht h3 hA (rPa_ok hk)) ?_
    refine z_istore_n (q := 109) (L2 := [_, _, _, _, _]) rfl rfl rfl rfl ?_
    refine z_iload_n (q := 110) rfl rfl rfl ?_
    refine z_iconst (q := 111) (v := 4) rfl rfl rfl ?_
    refine z_ic_eq (q := 114) rfl rfl (fun h111 => ?_) (fun h111 => ?_)
    · exact absurd h111 (by decide)
    · refine z_aload_n (q := 115) rfl rfl rfl ?_
      refine z_getI (q := 118) rfl rfl rfl (Mo_k w) ?_
      rw [rq_g23]
      refine z_if_eq (q := 121) rfl rfl (fun h118 => ?_) (fun h118 => ?_)
      · refine z_aload_n (q := 126) rfl rfl rfl ?_
        refine z_cv0i (q := 129) rfl rfl rfl (Mo_k w) (t_Mo_readsCellA w ht h3 hA (rNu_ok (rPa_ok hk)) hs) ?_
        refine z_istore_n (q := 130) (L2 := [_, _, _, _, _]) rfl rfl rfl rfl ?_
        refine z_iload_n (q := 131) rfl rfl rfl ?_
        refine z_iconst (q := 132) (v := 1) rfl rfl rfl ?_
        refine z_ic_ne (q := 135) rfl rfl (fun h132 => ?_) (fun h132 => ?_)
        · refine z_iload_n (q := 181) rfl rfl rfl ?_
          refine z_iconst (q := 182) (v := 1) rfl rfl rfl ?_
          refine z_ic_gt (q := 185) rfl rfl (fun h182 => ?_) (fun h182 => ?_)
          · refine z_iconst (q := 193) (v := 0) rfl rfl rfl ?_
            refine z_goto rfl ?_
            refine z_istore (q := 202) (L2 := [_, _, _, _, _]) rfl rfl rfl rfl ?_
            refine z_aload_n (q := 203) rfl rfl rfl ?_
            refine z_getI (q := 206) rfl rfl rfl (Mo_k w) ?_
            rw [rq_g23]
            refine z_if_ne (q := 209) rfl rfl (fun h206 => ?_) (fun h206 => ?_)
            · refine z_ret rfl rfl ?_
              first
                | (rw [if_pos h206]; exact ⟨rfl, rfl⟩)
                | (rw [if_neg h206]; exact ⟨rfl, rfl⟩)
                | exact absurd h206 h118
                | (rw [rNu_b h118, if_neg h118]; exact ⟨rfl, rfl⟩)
                | fail "none"
            · refine z_aload_n (q := 210) rfl rfl rfl ?_
              refine z_iload_n (q := 211) rfl rfl rfl ?_
              refine z_iload_n (q := 212) rfl rfl rfl ?_
              refine z_iload_n (q := 213) rfl rfl rfl ?_
              refine z_iload (q := 215) rfl rfl rfl ?_
              refine z_cv4v (q := 218) rfl rfl rfl (Mo_k w) (s_Mo_lays w hDe hD) ?_
              refine z_ret rfl rfl ?_
              first
                | (rw [if_pos h206]; exact ⟨rfl, rfl⟩)
                | (rw [if_neg h206]; exact ⟨rfl, rfl⟩)
                | exact absurd h206 h118
                | (rw [rNu_b h118, if_neg h118]; exact ⟨rfl, rfl⟩)
                | fail "none"
          · exact absurd h182 (by decide)
        · exact absurd h132 (by decide)
      · refine z_iconst (q := 122) (v := 0) rfl rfl rfl ?_
        refine z_goto rfl ?_
        refine z_istore_n (q := 130) (L2 := [_, _, _, _, _]) rfl rfl rfl rfl ?_
        refine z_iload_n (q := 131) rfl rfl rfl ?_
        refine z_iconst (q := 132) (v := 1) rfl rfl rfl ?_
        refine z_ic_ne (q := 135) rfl rfl (fun h132 => ?_) (fun h132 => ?_)
        · refine z_iload_n (q := 181) rfl rfl rfl ?_
          refine z_iconst (q := 182) (v := 1) rfl rfl rfl ?_
          refine z_ic_gt (q := 185) rfl rfl (fun h182 => ?_) (fun h182 => ?_)
          · refine z_iconst (q := 193) (v := 0) rfl rfl rfl ?_
            refine z_goto rfl ?_
            refine z_istore (q := 202) (L2 := [_, _, _, _, _]) rfl rfl rfl rfl ?_
            refine z_aload_n (q := 203) rfl rfl rfl ?_
            refine z_getI (q := 206) rfl rfl rfl (Mo_k w) ?_
            rw [rq_g23]
            refine z_if_ne (q := 209) rfl rfl (fun h206 => ?_) (fun h206 => ?_)
            · refine z_ret rfl rfl ?_
              first
                | (rw [if_pos h206]; exact ⟨rfl, rfl⟩)
                | (rw [if_neg h206]; exact ⟨rfl, rfl⟩)
                | exact absurd h206 h118
                | (rw [rNu_b h118, if_neg h118]; exact ⟨rfl, rfl⟩)
                | fail "none"
            · refine z_aload_n (q := 210) rfl rfl rfl ?_
              refine z_iload_n (q := 211) rfl rfl rfl ?_
              refine z_iload_n (q := 212) rfl rfl rfl ?_
              refine z_iload_n (q := 213) rfl rfl rfl ?_
              refine z_iload (q := 215) rfl rfl rfl ?_
              refine z_cv4v (q := 218) rfl rfl rfl (Mo_k w) (s_Mo_lays w hDe hD) ?_
              refine z_ret rfl rfl ?_
              first
                | (rw [if_pos h206]; exact ⟨rfl, rfl⟩)
                | (rw [if_neg h206]; exact ⟨rfl, rfl⟩)
                | exact absurd h206 h118
                | (rw [rNu_b h118, if_neg h118]; exact ⟨rfl, rfl⟩)
                | fail "none"
          · exact absurd h182 (by decide)
        · exact absurd h132 (by decide)
  · exact absurd h53 (by decide)
theorem l_Mo_deed0 {sc : Option (Nat × Nat × (Nat → Int32))} {sa : Nat → Nat} {d : Nat} {M : mz_M} {z : Nat × Nat} {m : Nat} (w : g_Mo M.2.2 m) {F : Nat → Int32} {A : Nat → Nat → Int32} {sg : Nat → Int32} {t : Nat} (ht : t ≤ 500) (h3 : F 3 = nI t) (hA : ∀ i, i < t → A 3 i = bt sg t i) {e : rS} (hk : okr t e) {c D : Nat} {q : sQ} (hs : A 1 0 = nI c) (h0 : 0 < c) (hC : c ≤ 12) (hDe : A 1 4 = nI D) (hD : D < 60) (h14 : F 14 = nI q.1) (hq0 : 0 < q.1) (hq : q.1 ≤ 40) {x2 x3 x4 : Value} : zw sc sa (d + 6) ym_Mo_readsDeed z (fun r' M' => r' = none ∧ M' = (rq M m F (if (rNu sg t (rNu sg t (rNu sg t (rPa sg t e 1) 0 (nI q.1 - 1)).2 0 (nI c - 1)).2 0 (nI c - 1)).2.2.2.2.2.1 = 0 then lyA A D 0 (rNu sg t (rPa sg t e 1) 0 (nI q.1 - 1)).1 (rNu sg t (rNu sg t (rPa sg t e 1) 0 (nI q.1 - 1)).2 0 (nI c - 1)).1 (rNu sg t (rNu sg t (rNu sg t (rPa sg t e 1) 0 (nI q.1 - 1)).2 0 (nI c - 1)).2 0 (nI c - 1)).1 else A) (rNu sg t (rNu sg t (rNu sg t (rPa sg t e 1) 0 (nI q.1 - 1)).2 0 (nI c - 1)).2 0 (nI c - 1)).2)) 46 [.ref m, .int 0, x2, x3, x4] [] (rq M m F A e) z := by
  refine z_aload_n (q := 47) rfl rfl rfl ?_
  refine z_iconst (q := 48) (v := 1) rfl rfl rfl ?_
  refine z_cv1v (q := 51) rfl rfl rfl (Mo_k w) (t_Mo_passes w ht h3 hA hk) ?_
  refine z_iload_n (q := 52) rfl rfl rfl ?_
  refine z_iconst (q := 53) (v := 4) rfl rfl rfl ?_
  refine z_ic_ne (q := 56) rfl rfl (fun h53 => ?_) (fun h53 => ?_)
  · refine z_aload_n (q := 98) rfl rfl rfl ?_
    refine z_iconst (q := 99) (v := 0) rfl rfl rfl ?_
    refine z_aload_n (q := 100) rfl rfl rfl ?_
    refine z_getI (q := 103) rfl rfl rfl (Mo_k w) ?_
    rw [rq_g14]
    rw [h14]
    refine z_iconst (q := 104) (v := 1) rfl rfl rfl ?_
    refine z_isub (q := 105) rfl rfl ?_
    refine z_cv2i (q := 108) rfl rfl rfl (Mo_k w) (t_Mo_number w ht h3 hA (rPa_ok hk)) ?_
    refine z_istore_n (q := 109) (L2 := [_, _, _, _, _]) rfl rfl rfl rfl ?_
    refine z_iload_n (q := 110) rfl rfl rfl ?_
    refine z_iconst (q := 111) (v := 4) rfl rfl rfl ?_
    refine z_ic_eq (q := 114) rfl rfl (fun h111 => ?_) (fun h111 => ?_)
    · exact absurd h111 (by decide)
    · refine z_aload_n (q := 115) rfl rfl rfl ?_
      refine z_getI (q := 118) rfl rfl rfl (Mo_k w) ?_
      rw [rq_g23]
      refine z_if_eq (q := 121) rfl rfl (fun h118 => ?_) (fun h118 => ?_)
      · refine z_aload_n (q := 126) rfl rfl rfl ?_
        refine z_cv0i (q := 129) rfl rfl rfl (Mo_k w) (t_Mo_readsCellA w ht h3 hA (rNu_ok (rPa_ok hk)) hs) ?_
        refine z_istore_n (q := 130) (L2 := [_, _, _, _, _]) rfl rfl rfl rfl ?_
        refine z_iload_n (q := 131) rfl rfl rfl ?_
        refine z_iconst (q := 132) (v := 1) rfl rfl rfl ?_
        refine z_ic_ne (q := 135) rfl rfl (fun h132 => ?_) (fun h132 => ?_)
        · refine z_iload_n (q := 181) rfl rfl rfl ?_
          refine z_iconst (q := 182) (v := 1) rfl rfl rfl ?_
          refine z_ic_gt (q := 185) rfl rfl (fun h182 => ?_) (fun h182 => ?_)
          · exact absurd h182 (by decide)
          · refine z_aload_n (q := 186) rfl rfl rfl ?_
            refine z_getI (q := 189) rfl rfl rfl (Mo_k w) ?_
            rw [rq_g23]
            refine z_if_eq (q := 192) rfl rfl (fun h189 => ?_) (fun h189 => ?_)
            · refine z_aload_n (q := 197) rfl rfl rfl ?_
              refine z_cv0i (q := 200) rfl rfl rfl (Mo_k w) (t_Mo_readsCellA w ht h3 hA (by first | exact rNu_ok (rNu_ok (rPa_ok hk)) | exact rNu_ok (rPa_ok hk) | fail "none") hs) ?_
              refine z_istore (q := 202) (L2 := [_, _, _, _, _]) rfl rfl rfl rfl ?_
              refine z_aload_n (q := 203) rfl rfl rfl ?_
              refine z_getI (q := 206) rfl rfl rfl (Mo_k w) ?_
              rw [rq_g23]
              refine z_if_ne (q := 209) rfl rfl (fun h206 => ?_) (fun h206 => ?_)
              · refine z_ret rfl rfl ?_
                first
                  | (rw [if_pos h206]; exact ⟨rfl, rfl⟩)
                  | exact absurd h189 h118
                  | exact absurd h206 h189
                  | exact absurd h206 h118
                  | (rw [if_neg h206]; exact ⟨rfl, rfl⟩)
                  | (refine ⟨rfl, ?_⟩; rw [rNu_b h118]; dsimp only; rw [rNu_b h118, if_neg h118])
                  | (rw [rNu_b h189, if_neg h189]; exact ⟨rfl, rfl⟩)
                  | fail "none"
              · refine z_aload_n (q := 210) rfl rfl rfl ?_
                refine z_iload_n (q := 211) rfl rfl rfl ?_
                refine z_iload_n (q := 212) rfl rfl rfl ?_
                refine z_iload_n (q := 213) rfl rfl rfl ?_
                refine z_iload (q := 215) rfl rfl rfl ?_
                refine z_cv4v (q := 218) rfl rfl rfl (Mo_k w) (s_Mo_lays w hDe hD) ?_
                refine z_ret rfl rfl ?_
                first
                  | (rw [if_pos h206]; exact ⟨rfl, rfl⟩)
                  | exact absurd h189 h118
                  | exact absurd h206 h189
                  | exact absurd h206 h118
                  | (rw [if_neg h206]; exact ⟨rfl, rfl⟩)
                  | (refine ⟨rfl, ?_⟩; rw [rNu_b h118]; dsimp only; rw [rNu_b h118, if_neg h118])
                  | (rw [rNu_b h189, if_neg h189]; exact ⟨rfl, rfl⟩)
                  | fail "none"
            · refine z_iconst (q := 193) (v := 0) rfl rfl rfl ?_
              refine z_goto rfl ?_
              refine z_istore (q := 202) (L2 := [_, _, _, _, _]) rfl rfl rfl rfl ?_
              refine z_aload_n (q := 203) rfl rfl rfl ?_
              refine z_getI (q := 206) rfl rfl rfl (Mo_k w) ?_
              rw [rq_g23]
              refine z_if_ne (q := 209) rfl rfl (fun h206 => ?_) (fun h206 => ?_)
              · refine z_ret rfl rfl ?_
                first
                  | (rw [if_pos h206]; exact ⟨rfl, rfl⟩)
                  | exact absurd h189 h118
                  | exact absurd h206 h189
                  | exact absurd h206 h118
                  | (rw [if_neg h206]; exact ⟨rfl, rfl⟩)
                  | (refine ⟨rfl, ?_⟩; rw [rNu_b h118]; dsimp only; rw [rNu_b h118, if_neg h118])
                  | (rw [rNu_b h189, if_neg h189]; exact ⟨rfl, rfl⟩)
                  | fail "none"
              · refine z_aload_n (q := 210) rfl rfl rfl ?_
                refine z_iload_n (q := 211) rfl rfl rfl ?_
                refine z_iload_n (q := 212) rfl rfl rfl ?_
                refine z_iload_n (q := 213) rfl rfl rfl ?_
                refine z_iload (q := 215) rfl rfl rfl ?_
                refine z_cv4v (q := 218) rfl rfl rfl (Mo_k w) (s_Mo_lays w hDe hD) ?_
                refine z_ret rfl rfl ?_
                first
                  | (rw [if_pos h206]; exact ⟨rfl, rfl⟩)
                  | exact absurd h189 h118
                  | exact absurd h206 h189
                  | exact absurd h206 h118
                  | (rw [if_neg h206]; exact ⟨rfl, rfl⟩)
                  | (refine ⟨rfl, ?_⟩; rw [rNu_b h118]; dsimp only; rw [rNu_b h118, if_neg h118])
                  | (rw [rNu_b h189, if_neg h189]; exact ⟨rfl, rfl⟩)
                  | fail "none"
        · exact absurd h132 (by decide)
      · refine z_iconst (q := 122) (v := 0) rfl rfl rfl ?_
        refine z_goto rfl ?_
        refine z_istore_n (q := 130) (L2 := [_, _, _, _, _]) rfl rfl rfl rfl ?_
        refine z_iload_n (q := 131) rfl rfl rfl ?_
        refine z_iconst (q := 132) (v := 1) rfl rfl rfl ?_
        refine z_ic_ne (q := 135) rfl rfl (fun h132 => ?_) (fun h132 => ?_)
        · refine z_iload_n (q := 181) rfl rfl rfl ?_
          refine z_iconst (q := 182) (v := 1) rfl rfl rfl ?_
          refine z_ic_gt (q := 185) rfl rfl (fun h182 => ?_) (fun h182 => ?_)
          · exact absurd h182 (by decide)
          · refine z_aload_n (q := 186) rfl rfl rfl ?_
            refine z_getI (q := 189) rfl rfl rfl (Mo_k w) ?_
            rw [rq_g23]
            refine z_if_eq (q := 192) rfl rfl (fun h189 => ?_) (fun h189 => ?_)
            · refine z_aload_n (q := 197) rfl rfl rfl ?_
              refine z_cv0i (q := 200) rfl rfl rfl (Mo_k w) (t_Mo_readsCellA w ht h3 hA (by first | exact rNu_ok (rNu_ok (rPa_ok hk)) | exact rNu_ok (rPa_ok hk) | fail "none") hs) ?_
              refine z_istore (q := 202) (L2 := [_, _, _, _, _]) rfl rfl rfl rfl ?_
              refine z_aload_n (q := 203) rfl rfl rfl ?_
              refine z_getI (q := 206) rfl rfl rfl (Mo_k w) ?_
              rw [rq_g23]
              refine z_if_ne (q := 209) rfl rfl (fun h206 => ?_) (fun h206 => ?_)
              · refine z_ret rfl rfl ?_
                first
                  | (rw [if_pos h206]; exact ⟨rfl, rfl⟩)
                  | exact absurd h189 h118
                  | exact absurd h206 h189
                  | exact absurd h206 h118
                  | (rw [if_neg h206]; exact ⟨rfl, rfl⟩)
                  | (refine ⟨rfl, ?_⟩; rw [rNu_b h118]; dsimp only; rw [rNu_b h118, if_neg h118])
                  | (rw [rNu_b h189, if_neg h189]; exact ⟨rfl, rfl⟩)
                  | fail "none"
              · refine z_aload_n (q := 210) rfl rfl rfl ?_
                refine z_iload_n (q := 211) rfl rfl rfl ?_
                refine z_iload_n (q := 212) rfl rfl rfl ?_
                refine z_iload_n (q := 213) rfl rfl rfl ?_
                refine z_iload (q := 215) rfl rfl rfl ?_
                refine z_cv4v (q := 218) rfl rfl rfl (Mo_k w) (s_Mo_lays w hDe hD) ?_
                refine z_ret rfl rfl ?_
                first
                  | (rw [if_pos h206]; exact ⟨rfl, rfl⟩)
                  | exact absurd h189 h118
                  | exact absurd h206 h189
                  | exact absurd h206 h118
                  | (rw [if_neg h206]; exact ⟨rfl, rfl⟩)
                  | (refine ⟨rfl, ?_⟩; rw [rNu_b h118]; dsimp only; rw [rNu_b h118, if_neg h118])
                  | (rw [rNu_b h189, if_neg h189]; exact ⟨rfl, rfl⟩)
                  | fail "none"
            · refine z_iconst (q := 193) (v := 0) rfl rfl rfl ?_
              refine z_goto rfl ?_
              refine z_istore (q := 202) (L2 := [_, _, _, _, _]) rfl rfl rfl rfl ?_
              refine z_aload_n (q := 203) rfl rfl rfl ?_
              refine z_getI (q := 206) rfl rfl rfl (Mo_k w) ?_
              rw [rq_g23]
              refine z_if_ne (q := 209) rfl rfl (fun h206 => ?_) (fun h206 => ?_)
              · refine z_ret rfl rfl ?_
                first
                  | (rw [if_pos h206]; exact ⟨rfl, rfl⟩)
                  | exact absurd h189 h118
                  | exact absurd h206 h189
                  | exact absurd h206 h118
                  | (rw [if_neg h206]; exact ⟨rfl, rfl⟩)
                  | (refine ⟨rfl, ?_⟩; rw [rNu_b h118]; dsimp only; rw [rNu_b h118, if_neg h118])
                  | (rw [rNu_b h189, if_neg h189]; exact ⟨rfl, rfl⟩)
                  | fail "none"
              · refine z_aload_n (q := 210) rfl rfl rfl ?_
                refine z_iload_n (q := 211) rfl rfl rfl ?_
                refine z_iload_n (q := 212) rfl rfl rfl ?_
                refine z_iload_n (q := 213) rfl rfl rfl ?_
                refine z_iload (q := 215) rfl rfl rfl ?_
                refine z_cv4v (q := 218) rfl rfl rfl (Mo_k w) (s_Mo_lays w hDe hD) ?_
                refine z_ret rfl rfl ?_
                first
                  | (rw [if_pos h206]; exact ⟨rfl, rfl⟩)
                  | exact absurd h189 h118
                  | exact absurd h206 h189
                  | exact absurd h206 h118
                  | (rw [if_neg h206]; exact ⟨rfl, rfl⟩)
                  | (refine ⟨rfl, ?_⟩; rw [rNu_b h118]; dsimp only; rw [rNu_b h118, if_neg h118])
                  | (rw [rNu_b h189, if_neg h189]; exact ⟨rfl, rfl⟩)
                  | fail "none"
        · exact absurd h132 (by decide)
  · exact absurd h53 (by decide)
