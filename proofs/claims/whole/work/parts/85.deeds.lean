-- a deed's line
theorem zw_m {sc : Option (Nat × Nat × (Nat → Int32))} {sa : Nat → Nat} {d : Nat} {Y : mz_Y} {B : Nat × Nat} {Q Q' : mz_P} (hQ : ∀ r M, Q r M → Q' r M) {pc : Nat} {L st : List Value} {M : mz_M} {z : Nat × Nat} (h : zw sc sa d Y B Q pc L st M z) : zw sc sa d Y B Q' pc L st M z := mz_wp_m (mz_Kd_m sc sa d) hQ h
theorem rq_of {M : mz_M} {m : Nat} {F F' : Nat → Int32} {A' : Nat → Nat → Int32} {e : rS} (h : ∀ k, (k < 14 ∨ 17 < k) → F' k = (reF F e.2.2.1 e.2.1 e.1 e.2.2.2.1 e.2.2.2.2.1 e.2.2.2.2.2.1 e.2.2.2.2.2.2) k) : moF M m F' A' = rq M m F' A' e := by
  unfold rq reP
  refine congrArg (fun X => moF M m X A') ?_
  funext k
  by_cases a1 : k = 19
  · subst a1; rw [h 19 (by omega)]; rfl
  · by_cases a2 : k = 20
    · subst a2; rw [h 20 (by omega)]; rfl
    · by_cases a3 : k = 21
      · subst a3; rw [h 21 (by omega)]; rfl
      · by_cases a4 : k = 22
        · subst a4; rw [h 22 (by omega)]; rfl
        · by_cases a5 : k = 23
          · subst a5; rw [h 23 (by omega)]; rfl
          · by_cases a6 : k = 24
            · subst a6; rw [h 24 (by omega)]; rfl
            · by_cases a7 : k = 25
              · subst a7; rw [h 25 (by omega)]; rfl
              · rw [reF_o (by omega)]
theorem t_Mo_readsDeed0 {sc : Option (Nat × Nat × (Nat → Int32))} {sa : Nat → Nat} {d : Nat} {M : mz_M} {z : Nat × Nat} {m : Nat} (w : g_Mo M.2.2 m) {F : Nat → Int32} {A : Nat → Nat → Int32} {sg : Nat → Int32} {t : Nat} (ht : t ≤ 500) (h3 : F 3 = nI t) (hA : ∀ i, i < t → A 3 i = bt sg t i) {e : rS} (hk : okr t e) {c N D : Nat} {l ct : Int32} {K P1 P2 P3 : Nat → Nat} {q : sQ} (hX : mX c N D l ct K P1 P2 P3 q A) (hD : D < 60)  : zv sc sa (d + 11) 213 [.ref m, .int 0] (rq M m F A e) z (fun M' => ∃ F' A', M' = (rq M m F' (if (rNu sg t (rNu sg t (rNu sg t (rPa sg t (if nI D = 30 ∨ nI q.1 = 20 then rFa e 3 else e) 1) 0 (nI q.1 - 1)).2 0 (nI c - 1)).2 0 (nI c - 1)).2.2.2.2.2.1 = 0 then lyA A' D 0 (rNu sg t (rPa sg t (if nI D = 30 ∨ nI q.1 = 20 then rFa e 3 else e) 1) 0 (nI q.1 - 1)).1 (rNu sg t (rNu sg t (rPa sg t (if nI D = 30 ∨ nI q.1 = 20 then rFa e 3 else e) 1) 0 (nI q.1 - 1)).2 0 (nI c - 1)).1 (rNu sg t (rNu sg t (rNu sg t (rPa sg t (if nI D = 30 ∨ nI q.1 = 20 then rFa e 3 else e) 1) 0 (nI q.1 - 1)).2 0 (nI c - 1)).2 0 (nI c - 1)).1 else A') (rNu sg t (rNu sg t (rNu sg t (rPa sg t (if nI D = 30 ∨ nI q.1 = 20 then rFa e 3 else e) 1) 0 (nI q.1 - 1)).2 0 (nI c - 1)).2 0 (nI c - 1)).2) ∧ (∀ k, (k < 14 ∨ 25 < k) → F' k = F k) ∧ ∀ j, (j < 4 ∨ 12 < j) → A' j = A j) := by
  obtain ⟨⟨c1, c2, c3, c4, c5⟩, ⟨k1, k2, k3, k4, ln, k5, k6, k7⟩, hd, hv, he, hI, hV, hn⟩ := id hX
  refine zin ym_Mo_readsDeed [.ref m, .int 0, .retAddr 0, .retAddr 0, .retAddr 0] rfl rfl rfl rfl ?_
  refine z_iload_n (q := 1) rfl rfl rfl ?_
  refine z_iconst (q := 2) (v := -1) rfl rfl rfl ?_
  refine z_ic_ne (q := 5) rfl rfl (fun h2 => ?_) (fun h2 => ?_)
  · refine z_aload_n (q := 12) rfl rfl rfl ?_
    refine z_cv0qi (q := 15) rfl rfl rfl (Mo_k w) (q_Mo_playsX (F := (reF F e.2.2.1 e.2.1 e.1 e.2.2.2.1 e.2.2.2.2.1 e.2.2.2.2.2.1 e.2.2.2.2.2.2)) w hX) (fun x9 M9 h9 => ?_)
    obtain ⟨p9, q9, e9, F9, A9, rfl, ww⟩ := h9
    have u3 : F9 3 = nI t := (ww.2.1.2.2.1 3 (by omega)).trans h3
    have uA : ∀ i, i < t → A9 3 i = bt sg t i := fun i hi => (congrFun (ww.2.1.2.2.2 3 (by omega)) i).trans (hA i hi)
    have u0 : A9 1 0 = nI c := (congrFun (ww.2.1.2.2.2 1 (by omega)) 0).trans k1
    have u4 : A9 1 4 = nI D := (congrFun (ww.2.1.2.2.2 1 (by omega)) 4).trans k4
    have uK : (∀ k, (k < 14 ∨ 17 < k) → k < 19 ∨ 25 < k → F9 k = F k) := fun k hk1 hk2 => (ww.2.1.2.2.1 k hk1).trans (reF_o hk2)
    rw [rq_of ww.2.1.2.2.1]
    refine z_pop (q := 16) rfl rfl rfl ?_
    refine z_aload_n (q := 17) rfl rfl rfl ?_
    refine z_getR (q := 20) rfl rfl rfl (Mo_k w) (Mo_r0 w) ?_
    refine z_iconst (q := 21) (v := 4) rfl rfl rfl ?_
    refine z_iald (q := 22) rfl rfl (Mo_a0 w) (vp_in_nI (n := 4) (by omega) (by omega)) ?_
    rw [rq_a0]
    try rw [nI_clamp (by omega)]
    rw [show A9 1 (4 : Int32).toNatClampNeg = nI D from u4]
    refine z_bipush (q := 24) (v := 30) rfl rfl rfl ?_
    refine z_ic_eq (q := 27) rfl rfl (fun h24 => ?_) (fun h24 => ?_)
    · refine z_aload_n (q := 42) rfl rfl rfl ?_
      refine z_iconst (q := 43) (v := 3) rfl rfl rfl ?_
      refine z_cv1v (q := 46) rfl rfl rfl (Mo_k w) (t_Mo_faults w) ?_
      first
        | (rw [if_pos (Or.inl h24)]
           refine zw_m (fun r M5 h5 => ?_) (l_Mo_deed0 w ht u3 uA (rFa_ok hk) u0 c2 c1 u4 hD ww.1 hI.1 hn)
           exact ⟨h5.1, F9, A9, h5.2, fun k hk => uK k (by omega) (by omega), ww.2.1.2.2.2⟩)
        | (rw [if_pos (Or.inr h38)]
           refine zw_m (fun r M5 h5 => ?_) (l_Mo_deed0 w ht u3 uA (rFa_ok hk) u0 c2 c1 u4 hD ww.1 hI.1 hn)
           exact ⟨h5.1, F9, A9, h5.2, fun k hk => uK k (by omega) (by omega), ww.2.1.2.2.2⟩)
        | (rw [if_neg (fun g => g.elim h24 h38)]
           refine zw_m (fun r M5 h5 => ?_) (l_Mo_deed0 w ht u3 uA hk u0 c2 c1 u4 hD ww.1 hI.1 hn)
           exact ⟨h5.1, F9, A9, h5.2, fun k hk => uK k (by omega) (by omega), ww.2.1.2.2.2⟩)
        | fail "none"
    · refine z_iload_n (q := 28) rfl rfl rfl ?_
      refine z_iconst (q := 29) (v := 1) rfl rfl rfl ?_
      refine z_ic_gt (q := 32) rfl rfl (fun h29 => ?_) (fun h29 => ?_)
      · exact absurd h29 (by decide)
      · refine z_aload_n (q := 33) rfl rfl rfl ?_
        refine z_getI (q := 36) rfl rfl rfl (Mo_k w) ?_
        rw [rq_g14]
        rw [show F9 14 = nI q.1 from ww.1]
        refine z_bipush (q := 38) (v := 20) rfl rfl rfl ?_
        refine z_ic_ne (q := 41) rfl rfl (fun h38 => ?_) (fun h38 => ?_)
        · first
            | (rw [if_pos (Or.inl h24)]
               refine zw_m (fun r M5 h5 => ?_) (l_Mo_deed0 w ht u3 uA (rFa_ok hk) u0 c2 c1 u4 hD ww.1 hI.1 hn)
               exact ⟨h5.1, F9, A9, h5.2, fun k hk => uK k (by omega) (by omega), ww.2.1.2.2.2⟩)
            | (rw [if_pos (Or.inr h38)]
               refine zw_m (fun r M5 h5 => ?_) (l_Mo_deed0 w ht u3 uA (rFa_ok hk) u0 c2 c1 u4 hD ww.1 hI.1 hn)
               exact ⟨h5.1, F9, A9, h5.2, fun k hk => uK k (by omega) (by omega), ww.2.1.2.2.2⟩)
            | (rw [if_neg (fun g => g.elim h24 h38)]
               refine zw_m (fun r M5 h5 => ?_) (l_Mo_deed0 w ht u3 uA hk u0 c2 c1 u4 hD ww.1 hI.1 hn)
               exact ⟨h5.1, F9, A9, h5.2, fun k hk => uK k (by omega) (by omega), ww.2.1.2.2.2⟩)
            | fail "none"
        · refine z_aload_n (q := 42) rfl rfl rfl ?_
          refine z_iconst (q := 43) (v := 3) rfl rfl rfl ?_
          refine z_cv1v (q := 46) rfl rfl rfl (Mo_k w) (t_Mo_faults w) ?_
          first
            | (rw [if_pos (Or.inl h24)]
               refine zw_m (fun r M5 h5 => ?_) (l_Mo_deed0 w ht u3 uA (rFa_ok hk) u0 c2 c1 u4 hD ww.1 hI.1 hn)
               exact ⟨h5.1, F9, A9, h5.2, fun k hk => uK k (by omega) (by omega), ww.2.1.2.2.2⟩)
            | (rw [if_pos (Or.inr h38)]
               refine zw_m (fun r M5 h5 => ?_) (l_Mo_deed0 w ht u3 uA (rFa_ok hk) u0 c2 c1 u4 hD ww.1 hI.1 hn)
               exact ⟨h5.1, F9, A9, h5.2, fun k hk => uK k (by omega) (by omega), ww.2.1.2.2.2⟩)
            | (rw [if_neg (fun g => g.elim h24 h38)]
               refine zw_m (fun r M5 h5 => ?_) (l_Mo_deed0 w ht u3 uA hk u0 c2 c1 u4 hD ww.1 hI.1 hn)
               exact ⟨h5.1, F9, A9, h5.2, fun k hk => uK k (by omega) (by omega), ww.2.1.2.2.2⟩)
            | fail "none"
  · exact absurd h2 (by decide)
theorem t_Mo_readsDeed1 {sc : Option (Nat × Nat × (Nat → Int32))} {sa : Nat → Nat} {d : Nat} {M : mz_M} {z : Nat × Nat} {m : Nat} (w : g_Mo M.2.2 m) {F : Nat → Int32} {A : Nat → Nat → Int32} {sg : Nat → Int32} {t : Nat} (ht : t ≤ 500) (h3 : F 3 = nI t) (hA : ∀ i, i < t → A 3 i = bt sg t i) {e : rS} (hk : okr t e) {c N D : Nat} {l ct : Int32} {K P1 P2 P3 : Nat → Nat} {q : sQ} (hX : mX c N D l ct K P1 P2 P3 q A) (hD : D < 60)  : zv sc sa (d + 11) 213 [.ref m, .int 1] (rq M m F A e) z (fun M' => ∃ F' A', M' = (rq M m F' (if (rNu sg t (rNe (rNu sg t (rNu sg t (rPa sg t (if nI D = 30 ∨ nI q.1 = 20 then rFa e 3 else e) 1) 0 (nI q.1 - 1)).2 0 (nI c - 1)).2 (bz (rjX c q (rNu sg t (rPa sg t (if nI D = 30 ∨ nI q.1 = 20 then rFa e 3 else e) 1) 0 (nI q.1 - 1)).1 (rNu sg t (rNu sg t (rPa sg t (if nI D = 30 ∨ nI q.1 = 20 then rFa e 3 else e) 1) 0 (nI q.1 - 1)).2 0 (nI c - 1)).1 (rNu sg t (rNu sg t (rPa sg t (if nI D = 30 ∨ nI q.1 = 20 then rFa e 3 else e) 1) 0 (nI q.1 - 1)).2 0 (nI c - 1)).2.2.2.2.1))) 0 (nI c - 1)).2.2.2.2.2.1 = 0 then lyA A' D 1 (rNu sg t (rPa sg t (if nI D = 30 ∨ nI q.1 = 20 then rFa e 3 else e) 1) 0 (nI q.1 - 1)).1 (rNu sg t (rNu sg t (rPa sg t (if nI D = 30 ∨ nI q.1 = 20 then rFa e 3 else e) 1) 0 (nI q.1 - 1)).2 0 (nI c - 1)).1 (rNu sg t (rNe (rNu sg t (rNu sg t (rPa sg t (if nI D = 30 ∨ nI q.1 = 20 then rFa e 3 else e) 1) 0 (nI q.1 - 1)).2 0 (nI c - 1)).2 (bz (rjX c q (rNu sg t (rPa sg t (if nI D = 30 ∨ nI q.1 = 20 then rFa e 3 else e) 1) 0 (nI q.1 - 1)).1 (rNu sg t (rNu sg t (rPa sg t (if nI D = 30 ∨ nI q.1 = 20 then rFa e 3 else e) 1) 0 (nI q.1 - 1)).2 0 (nI c - 1)).1 (rNu sg t (rNu sg t (rPa sg t (if nI D = 30 ∨ nI q.1 = 20 then rFa e 3 else e) 1) 0 (nI q.1 - 1)).2 0 (nI c - 1)).2.2.2.2.1))) 0 (nI c - 1)).1 else A') (rNu sg t (rNe (rNu sg t (rNu sg t (rPa sg t (if nI D = 30 ∨ nI q.1 = 20 then rFa e 3 else e) 1) 0 (nI q.1 - 1)).2 0 (nI c - 1)).2 (bz (rjX c q (rNu sg t (rPa sg t (if nI D = 30 ∨ nI q.1 = 20 then rFa e 3 else e) 1) 0 (nI q.1 - 1)).1 (rNu sg t (rNu sg t (rPa sg t (if nI D = 30 ∨ nI q.1 = 20 then rFa e 3 else e) 1) 0 (nI q.1 - 1)).2 0 (nI c - 1)).1 (rNu sg t (rNu sg t (rPa sg t (if nI D = 30 ∨ nI q.1 = 20 then rFa e 3 else e) 1) 0 (nI q.1 - 1)).2 0 (nI c - 1)).2.2.2.2.1))) 0 (nI c - 1)).2) ∧ (∀ k, (k < 14 ∨ 25 < k) → F' k = F k) ∧ ∀ j, (j < 4 ∨ 12 < j) → A' j = A j) := by
  obtain ⟨⟨c1, c2, c3, c4, c5⟩, ⟨k1, k2, k3, k4, ln, k5, k6, k7⟩, hd, hv, he, hI, hV, hn⟩ := id hX
  refine zin ym_Mo_readsDeed [.ref m, .int 1, .retAddr 0, .retAddr 0, .retAddr 0] rfl rfl rfl rfl ?_
  refine z_iload_n (q := 1) rfl rfl rfl ?_
  refine z_iconst (q := 2) (v := -1) rfl rfl rfl ?_
  refine z_ic_ne (q := 5) rfl rfl (fun h2 => ?_) (fun h2 => ?_)
  · refine z_aload_n (q := 12) rfl rfl rfl ?_
    refine z_cv0qi (q := 15) rfl rfl rfl (Mo_k w) (q_Mo_playsX (F := (reF F e.2.2.1 e.2.1 e.1 e.2.2.2.1 e.2.2.2.2.1 e.2.2.2.2.2.1 e.2.2.2.2.2.2)) w hX) (fun x9 M9 h9 => ?_)
    obtain ⟨p9, q9, e9, F9, A9, rfl, ww⟩ := h9
    have u3 : F9 3 = nI t := (ww.2.1.2.2.1 3 (by omega)).trans h3
    have uA : ∀ i, i < t → A9 3 i = bt sg t i := fun i hi => (congrFun (ww.2.1.2.2.2 3 (by omega)) i).trans (hA i hi)
    have u0 : A9 1 0 = nI c := (congrFun (ww.2.1.2.2.2 1 (by omega)) 0).trans k1
    have u4 : A9 1 4 = nI D := (congrFun (ww.2.1.2.2.2 1 (by omega)) 4).trans k4
    have uK : (∀ k, (k < 14 ∨ 17 < k) → k < 19 ∨ 25 < k → F9 k = F k) := fun k hk1 hk2 => (ww.2.1.2.2.1 k hk1).trans (reF_o hk2)
    rw [rq_of ww.2.1.2.2.1]
    refine z_pop (q := 16) rfl rfl rfl ?_
    refine z_aload_n (q := 17) rfl rfl rfl ?_
    refine z_getR (q := 20) rfl rfl rfl (Mo_k w) (Mo_r0 w) ?_
    refine z_iconst (q := 21) (v := 4) rfl rfl rfl ?_
    refine z_iald (q := 22) rfl rfl (Mo_a0 w) (vp_in_nI (n := 4) (by omega) (by omega)) ?_
    rw [rq_a0]
    try rw [nI_clamp (by omega)]
    rw [show A9 1 (4 : Int32).toNatClampNeg = nI D from u4]
    refine z_bipush (q := 24) (v := 30) rfl rfl rfl ?_
    refine z_ic_eq (q := 27) rfl rfl (fun h24 => ?_) (fun h24 => ?_)
    · refine z_aload_n (q := 42) rfl rfl rfl ?_
      refine z_iconst (q := 43) (v := 3) rfl rfl rfl ?_
      refine z_cv1v (q := 46) rfl rfl rfl (Mo_k w) (t_Mo_faults w) ?_
      first
        | (rw [if_pos (Or.inl h24)]
           refine zw_m (fun r M5 h5 => ?_) (l_Mo_deed1 w ht u3 uA (rFa_ok hk) u0 c2 c1 u4 hD ww.1 hI.1 hn ww.2.2.1 hI hV)
           exact ⟨h5.1, F9, A9, h5.2, fun k hk => uK k (by omega) (by omega), ww.2.1.2.2.2⟩)
        | (rw [if_pos (Or.inr h38)]
           refine zw_m (fun r M5 h5 => ?_) (l_Mo_deed1 w ht u3 uA (rFa_ok hk) u0 c2 c1 u4 hD ww.1 hI.1 hn ww.2.2.1 hI hV)
           exact ⟨h5.1, F9, A9, h5.2, fun k hk => uK k (by omega) (by omega), ww.2.1.2.2.2⟩)
        | (rw [if_neg (fun g => g.elim h24 h38)]
           refine zw_m (fun r M5 h5 => ?_) (l_Mo_deed1 w ht u3 uA hk u0 c2 c1 u4 hD ww.1 hI.1 hn ww.2.2.1 hI hV)
           exact ⟨h5.1, F9, A9, h5.2, fun k hk => uK k (by omega) (by omega), ww.2.1.2.2.2⟩)
        | fail "none"
    · refine z_iload_n (q := 28) rfl rfl rfl ?_
      refine z_iconst (q := 29) (v := 1) rfl rfl rfl ?_
      refine z_ic_gt (q := 32) rfl rfl (fun h29 => ?_) (fun h29 => ?_)
      · exact absurd h29 (by decide)
      · refine z_aload_n (q := 33) rfl rfl rfl ?_
        refine z_getI (q := 36) rfl rfl rfl (Mo_k w) ?_
        rw [rq_g14]
        rw [show F9 14 = nI q.1 from ww.1]
        refine z_bipush (q := 38) (v := 20) rfl rfl rfl ?_
        refine z_ic_ne (q := 41) rfl rfl (fun h38 => ?_) (fun h38 => ?_)
        · first
            | (rw [if_pos (Or.inl h24)]
               refine zw_m (fun r M5 h5 => ?_) (l_Mo_deed1 w ht u3 uA (rFa_ok hk) u0 c2 c1 u4 hD ww.1 hI.1 hn ww.2.2.1 hI hV)
               exact ⟨h5.1, F9, A9, h5.2, fun k hk => uK k (by omega) (by omega), ww.2.1.2.2.2⟩)
            | (rw [if_pos (Or.inr h38)]
               refine zw_m (fun r M5 h5 => ?_) (l_Mo_deed1 w ht u3 uA (rFa_ok hk) u0 c2 c1 u4 hD ww.1 hI.1 hn ww.2.2.1 hI hV)
               exact ⟨h5.1, F9, A9, h5.2, fun k hk => uK k (by omega) (by omega), ww.2.1.2.2.2⟩)
            | (rw [if_neg (fun g => g.elim h24 h38)]
               refine zw_m (fun r M5 h5 => ?_) (l_Mo_deed1 w ht u3 uA hk u0 c2 c1 u4 hD ww.1 hI.1 hn ww.2.2.1 hI hV)
               exact ⟨h5.1, F9, A9, h5.2, fun k hk => uK k (by omega) (by omega), ww.2.1.2.2.2⟩)
            | fail "none"
        · refine z_aload_n (q := 42) rfl rfl rfl ?_
          refine z_iconst (q := 43) (v := 3) rfl rfl rfl ?_
          refine z_cv1v (q := 46) rfl rfl rfl (Mo_k w) (t_Mo_faults w) ?_
          first
            | (rw [if_pos (Or.inl h24)]
               refine zw_m (fun r M5 h5 => ?_) (l_Mo_deed1 w ht u3 uA (rFa_ok hk) u0 c2 c1 u4 hD ww.1 hI.1 hn ww.2.2.1 hI hV)
               exact ⟨h5.1, F9, A9, h5.2, fun k hk => uK k (by omega) (by omega), ww.2.1.2.2.2⟩)
            | (rw [if_pos (Or.inr h38)]
               refine zw_m (fun r M5 h5 => ?_) (l_Mo_deed1 w ht u3 uA (rFa_ok hk) u0 c2 c1 u4 hD ww.1 hI.1 hn ww.2.2.1 hI hV)
               exact ⟨h5.1, F9, A9, h5.2, fun k hk => uK k (by omega) (by omega), ww.2.1.2.2.2⟩)
            | (rw [if_neg (fun g => g.elim h24 h38)]
               refine zw_m (fun r M5 h5 => ?_) (l_Mo_deed1 w ht u3 uA hk u0 c2 c1 u4 hD ww.1 hI.1 hn ww.2.2.1 hI hV)
               exact ⟨h5.1, F9, A9, h5.2, fun k hk => uK k (by omega) (by omega), ww.2.1.2.2.2⟩)
            | fail "none"
  · exact absurd h2 (by decide)
theorem t_Mo_readsDeed2 {sc : Option (Nat × Nat × (Nat → Int32))} {sa : Nat → Nat} {d : Nat} {M : mz_M} {z : Nat × Nat} {m : Nat} (w : g_Mo M.2.2 m) {F : Nat → Int32} {A : Nat → Nat → Int32} {sg : Nat → Int32} {t : Nat} (ht : t ≤ 500) (h3 : F 3 = nI t) (hA : ∀ i, i < t → A 3 i = bt sg t i) {e : rS} (hk : okr t e) {c N D : Nat} {l ct : Int32} {K P1 P2 P3 : Nat → Nat} {q : sQ} (hX : mX c N D l ct K P1 P2 P3 q A) (hD : D < 60)  : zv sc sa (d + 11) 213 [.ref m, .int 2] (rq M m F A e) z (fun M' => ∃ F' A', M' = (rq M m F' (if (rNu sg t (rNu sg t (rPa sg t (if nI D = 30 then rFa e 3 else e) 1) 0 (nI q.1 - 1)).2 0 (nI c - 1)).2.2.2.2.2.1 = 0 then lyA A' D 2 (rNu sg t (rPa sg t (if nI D = 30 then rFa e 3 else e) 1) 0 (nI q.1 - 1)).1 (rNu sg t (rNu sg t (rPa sg t (if nI D = 30 then rFa e 3 else e) 1) 0 (nI q.1 - 1)).2 0 (nI c - 1)).1 0 else A') (rNu sg t (rNu sg t (rPa sg t (if nI D = 30 then rFa e 3 else e) 1) 0 (nI q.1 - 1)).2 0 (nI c - 1)).2) ∧ (∀ k, (k < 14 ∨ 25 < k) → F' k = F k) ∧ ∀ j, (j < 4 ∨ 12 < j) → A' j = A j) := by
  obtain ⟨⟨c1, c2, c3, c4, c5⟩, ⟨k1, k2, k3, k4, ln, k5, k6, k7⟩, hd, hv, he, hI, hV, hn⟩ := id hX
  refine zin ym_Mo_readsDeed [.ref m, .int 2, .retAddr 0, .retAddr 0, .retAddr 0] rfl rfl rfl rfl ?_
  refine z_iload_n (q := 1) rfl rfl rfl ?_
  refine z_iconst (q := 2) (v := -1) rfl rfl rfl ?_
  refine z_ic_ne (q := 5) rfl rfl (fun h2 => ?_) (fun h2 => ?_)
  · refine z_aload_n (q := 12) rfl rfl rfl ?_
    refine z_cv0qi (q := 15) rfl rfl rfl (Mo_k w) (q_Mo_playsX (F := (reF F e.2.2.1 e.2.1 e.1 e.2.2.2.1 e.2.2.2.2.1 e.2.2.2.2.2.1 e.2.2.2.2.2.2)) w hX) (fun x9 M9 h9 => ?_)
    obtain ⟨p9, q9, e9, F9, A9, rfl, ww⟩ := h9
    have u3 : F9 3 = nI t := (ww.2.1.2.2.1 3 (by omega)).trans h3
    have uA : ∀ i, i < t → A9 3 i = bt sg t i := fun i hi => (congrFun (ww.2.1.2.2.2 3 (by omega)) i).trans (hA i hi)
    have u0 : A9 1 0 = nI c := (congrFun (ww.2.1.2.2.2 1 (by omega)) 0).trans k1
    have u4 : A9 1 4 = nI D := (congrFun (ww.2.1.2.2.2 1 (by omega)) 4).trans k4
    have uK : (∀ k, (k < 14 ∨ 17 < k) → k < 19 ∨ 25 < k → F9 k = F k) := fun k hk1 hk2 => (ww.2.1.2.2.1 k hk1).trans (reF_o hk2)
    rw [rq_of ww.2.1.2.2.1]
    refine z_pop (q := 16) rfl rfl rfl ?_
    refine z_aload_n (q := 17) rfl rfl rfl ?_
    refine z_getR (q := 20) rfl rfl rfl (Mo_k w) (Mo_r0 w) ?_
    refine z_iconst (q := 21) (v := 4) rfl rfl rfl ?_
    refine z_iald (q := 22) rfl rfl (Mo_a0 w) (vp_in_nI (n := 4) (by omega) (by omega)) ?_
    rw [rq_a0]
    try rw [nI_clamp (by omega)]
    rw [show A9 1 (4 : Int32).toNatClampNeg = nI D from u4]
    refine z_bipush (q := 24) (v := 30) rfl rfl rfl ?_
    refine z_ic_eq (q := 27) rfl rfl (fun h24 => ?_) (fun h24 => ?_)
    · refine z_aload_n (q := 42) rfl rfl rfl ?_
      refine z_iconst (q := 43) (v := 3) rfl rfl rfl ?_
      refine z_cv1v (q := 46) rfl rfl rfl (Mo_k w) (t_Mo_faults w) ?_
      first
        | (rw [if_pos h24]
           refine zw_m (fun r M5 h5 => ?_) (l_Mo_deed2 w ht u3 uA (rFa_ok hk) u0 c2 c1 u4 hD ww.1 hI.1 hn)
           exact ⟨h5.1, F9, A9, h5.2, fun k hk => uK k (by omega) (by omega), ww.2.1.2.2.2⟩)
        | (rw [if_neg h24]
           refine zw_m (fun r M5 h5 => ?_) (l_Mo_deed2 w ht u3 uA hk u0 c2 c1 u4 hD ww.1 hI.1 hn)
           exact ⟨h5.1, F9, A9, h5.2, fun k hk => uK k (by omega) (by omega), ww.2.1.2.2.2⟩)
        | fail "none"
    · refine z_iload_n (q := 28) rfl rfl rfl ?_
      refine z_iconst (q := 29) (v := 1) rfl rfl rfl ?_
      refine z_ic_gt (q := 32) rfl rfl (fun h29 => ?_) (fun h29 => ?_)
      · first
          | (rw [if_pos h24]
             refine zw_m (fun r M5 h5 => ?_) (l_Mo_deed2 w ht u3 uA (rFa_ok hk) u0 c2 c1 u4 hD ww.1 hI.1 hn)
             exact ⟨h5.1, F9, A9, h5.2, fun k hk => uK k (by omega) (by omega), ww.2.1.2.2.2⟩)
          | (rw [if_neg h24]
             refine zw_m (fun r M5 h5 => ?_) (l_Mo_deed2 w ht u3 uA hk u0 c2 c1 u4 hD ww.1 hI.1 hn)
             exact ⟨h5.1, F9, A9, h5.2, fun k hk => uK k (by omega) (by omega), ww.2.1.2.2.2⟩)
          | fail "none"
      · exact absurd h29 (by decide)
  · exact absurd h2 (by decide)
theorem t_Mo_readsDeed3 {sc : Option (Nat × Nat × (Nat → Int32))} {sa : Nat → Nat} {d : Nat} {M : mz_M} {z : Nat × Nat} {m : Nat} (w : g_Mo M.2.2 m) {F : Nat → Int32} {A : Nat → Nat → Int32} {sg : Nat → Int32} {t : Nat} (ht : t ≤ 500) (h3 : F 3 = nI t) (hA : ∀ i, i < t → A 3 i = bt sg t i) {e : rS} (hk : okr t e) {c N D : Nat} {l ct : Int32} {K P1 P2 P3 : Nat → Nat} {q : sQ} (hX : mX c N D l ct K P1 P2 P3 q A) (hD : D < 60)  : zv sc sa (d + 11) 213 [.ref m, .int 3] (rq M m F A e) z (fun M' => ∃ F' A', M' = (rq M m F' (if (rNu sg t (rNu sg t (rPa sg t (if nI D = 30 then rFa e 3 else e) 1) 0 (nI q.1 - 1)).2 0 (nI c - 1)).2.2.2.2.2.1 = 0 then lyA A' D 3 (rNu sg t (rPa sg t (if nI D = 30 then rFa e 3 else e) 1) 0 (nI q.1 - 1)).1 (rNu sg t (rNu sg t (rPa sg t (if nI D = 30 then rFa e 3 else e) 1) 0 (nI q.1 - 1)).2 0 (nI c - 1)).1 0 else A') (rNu sg t (rNu sg t (rPa sg t (if nI D = 30 then rFa e 3 else e) 1) 0 (nI q.1 - 1)).2 0 (nI c - 1)).2) ∧ (∀ k, (k < 14 ∨ 25 < k) → F' k = F k) ∧ ∀ j, (j < 4 ∨ 12 < j) → A' j = A j) := by
  obtain ⟨⟨c1, c2, c3, c4, c5⟩, ⟨k1, k2, k3, k4, ln, k5, k6, k7⟩, hd, hv, he, hI, hV, hn⟩ := id hX
  refine zin ym_Mo_readsDeed [.ref m, .int 3, .retAddr 0, .retAddr 0, .retAddr 0] rfl rfl rfl rfl ?_
  refine z_iload_n (q := 1) rfl rfl rfl ?_
  refine z_iconst (q := 2) (v := -1) rfl rfl rfl ?_
  refine z_ic_ne (q := 5) rfl rfl (fun h2 => ?_) (fun h2 => ?_)
  · refine z_aload_n (q := 12) rfl rfl rfl ?_
    refine z_cv0qi (q := 15) rfl rfl rfl (Mo_k w) (q_Mo_playsX (F := (reF F e.2.2.1 e.2.1 e.1 e.2.2.2.1 e.2.2.2.2.1 e.2.2.2.2.2.1 e.2.2.2.2.2.2)) w hX) (fun x9 M9 h9 => ?_)
    obtain ⟨p9, q9, e9, F9, A9, rfl, ww⟩ := h9
    have u3 : F9 3 = nI t := (ww.2.1.2.2.1 3 (by omega)).trans h3
    have uA : ∀ i, i < t → A9 3 i = bt sg t i := fun i hi => (congrFun (ww.2.1.2.2.2 3 (by omega)) i).trans (hA i hi)
    have u0 : A9 1 0 = nI c := (congrFun (ww.2.1.2.2.2 1 (by omega)) 0).trans k1
    have u4 : A9 1 4 = nI D := (congrFun (ww.2.1.2.2.2 1 (by omega)) 4).trans k4
    have uK : (∀ k, (k < 14 ∨ 17 < k) → k < 19 ∨ 25 < k → F9 k = F k) := fun k hk1 hk2 => (ww.2.1.2.2.1 k hk1).trans (reF_o hk2)
    rw [rq_of ww.2.1.2.2.1]
    refine z_pop (q := 16) rfl rfl rfl ?_
    refine z_aload_n (q := 17) rfl rfl rfl ?_
    refine z_getR (q := 20) rfl rfl rfl (Mo_k w) (Mo_r0 w) ?_
    refine z_iconst (q := 21) (v := 4) rfl rfl rfl ?_
    refine z_iald (q := 22) rfl rfl (Mo_a0 w) (vp_in_nI (n := 4) (by omega) (by omega)) ?_
    rw [rq_a0]
    try rw [nI_clamp (by omega)]
    rw [show A9 1 (4 : Int32).toNatClampNeg = nI D from u4]
    refine z_bipush (q := 24) (v := 30) rfl rfl rfl ?_
    refine z_ic_eq (q := 27) rfl rfl (fun h24 => ?_) (fun h24 => ?_)
    · refine z_aload_n (q := 42) rfl rfl rfl ?_
      refine z_iconst (q := 43) (v := 3) rfl rfl rfl ?_
      refine z_cv1v (q := 46) rfl rfl rfl (Mo_k w) (t_Mo_faults w) ?_
      first
        | (rw [if_pos h24]
           refine zw_m (fun r M5 h5 => ?_) (l_Mo_deed3 w ht u3 uA (rFa_ok hk) u0 c2 c1 u4 hD ww.1 hI.1 hn)
           exact ⟨h5.1, F9, A9, h5.2, fun k hk => uK k (by omega) (by omega), ww.2.1.2.2.2⟩)
        | (rw [if_neg h24]
           refine zw_m (fun r M5 h5 => ?_) (l_Mo_deed3 w ht u3 uA hk u0 c2 c1 u4 hD ww.1 hI.1 hn)
           exact ⟨h5.1, F9, A9, h5.2, fun k hk => uK k (by omega) (by omega), ww.2.1.2.2.2⟩)
        | fail "none"
    · refine z_iload_n (q := 28) rfl rfl rfl ?_
      refine z_iconst (q := 29) (v := 1) rfl rfl rfl ?_
      refine z_ic_gt (q := 32) rfl rfl (fun h29 => ?_) (fun h29 => ?_)
      · first
          | (rw [if_pos h24]
             refine zw_m (fun r M5 h5 => ?_) (l_Mo_deed3 w ht u3 uA (rFa_ok hk) u0 c2 c1 u4 hD ww.1 hI.1 hn)
             exact ⟨h5.1, F9, A9, h5.2, fun k hk => uK k (by omega) (by omega), ww.2.1.2.2.2⟩)
          | (rw [if_neg h24]
             refine zw_m (fun r M5 h5 => ?_) (l_Mo_deed3 w ht u3 uA hk u0 c2 c1 u4 hD ww.1 hI.1 hn)
             exact ⟨h5.1, F9, A9, h5.2, fun k hk => uK k (by omega) (by omega), ww.2.1.2.2.2⟩)
          | fail "none"
      · exact absurd h29 (by decide)
  · exact absurd h2 (by decide)
theorem t_Mo_readsDeed4 {sc : Option (Nat × Nat × (Nat → Int32))} {sa : Nat → Nat} {d : Nat} {M : mz_M} {z : Nat × Nat} {m : Nat} (w : g_Mo M.2.2 m) {F : Nat → Int32} {A : Nat → Nat → Int32} {sg : Nat → Int32} {t : Nat} (ht : t ≤ 500) (h3 : F 3 = nI t) (hA : ∀ i, i < t → A 3 i = bt sg t i) {e : rS} (hk : okr t e) {c N D : Nat} {l ct : Int32} {K P1 P2 P3 : Nat → Nat} {q : sQ} (hX : mX c N D l ct K P1 P2 P3 q A) (hD : D < 60)  : zv sc sa (d + 11) 213 [.ref m, .int 4] (rq M m F A e) z (fun M' => ∃ F' A', M' = (rq M m F' (if (rNu sg t (rNe (rPa sg t (if nI D = 30 then rFa e 3 else e) 1) (bz (rsX q (rPa sg t (if nI D = 30 then rFa e 3 else e) 1).2.2.2.1))) 0 (nI q.1 - 1)).2.2.2.2.2.1 = 0 then lyA A' D 4 (rNu sg t (rNe (rPa sg t (if nI D = 30 then rFa e 3 else e) 1) (bz (rsX q (rPa sg t (if nI D = 30 then rFa e 3 else e) 1).2.2.2.1))) 0 (nI q.1 - 1)).1 0 0 else A') (rNu sg t (rNe (rPa sg t (if nI D = 30 then rFa e 3 else e) 1) (bz (rsX q (rPa sg t (if nI D = 30 then rFa e 3 else e) 1).2.2.2.1))) 0 (nI q.1 - 1)).2) ∧ (∀ k, (k < 14 ∨ 25 < k) → F' k = F k) ∧ ∀ j, (j < 4 ∨ 12 < j) → A' j = A j) := by
  obtain ⟨⟨c1, c2, c3, c4, c5⟩, ⟨k1, k2, k3, k4, ln, k5, k6, k7⟩, hd, hv, he, hI, hV, hn⟩ := id hX
  refine zin ym_Mo_readsDeed [.ref m, .int 4, .retAddr 0, .retAddr 0, .retAddr 0] rfl rfl rfl rfl ?_
  refine z_iload_n (q := 1) rfl rfl rfl ?_
  refine z_iconst (q := 2) (v := -1) rfl rfl rfl ?_
  refine z_ic_ne (q := 5) rfl rfl (fun h2 => ?_) (fun h2 => ?_)
  · refine z_aload_n (q := 12) rfl rfl rfl ?_
    refine z_cv0qi (q := 15) rfl rfl rfl (Mo_k w) (q_Mo_playsX (F := (reF F e.2.2.1 e.2.1 e.1 e.2.2.2.1 e.2.2.2.2.1 e.2.2.2.2.2.1 e.2.2.2.2.2.2)) w hX) (fun x9 M9 h9 => ?_)
    obtain ⟨p9, q9, e9, F9, A9, rfl, ww⟩ := h9
    have u3 : F9 3 = nI t := (ww.2.1.2.2.1 3 (by omega)).trans h3
    have uA : ∀ i, i < t → A9 3 i = bt sg t i := fun i hi => (congrFun (ww.2.1.2.2.2 3 (by omega)) i).trans (hA i hi)
    have u0 : A9 1 0 = nI c := (congrFun (ww.2.1.2.2.2 1 (by omega)) 0).trans k1
    have u4 : A9 1 4 = nI D := (congrFun (ww.2.1.2.2.2 1 (by omega)) 4).trans k4
    have uK : (∀ k, (k < 14 ∨ 17 < k) → k < 19 ∨ 25 < k → F9 k = F k) := fun k hk1 hk2 => (ww.2.1.2.2.1 k hk1).trans (reF_o hk2)
    rw [rq_of ww.2.1.2.2.1]
    refine z_pop (q := 16) rfl rfl rfl ?_
    refine z_aload_n (q := 17) rfl rfl rfl ?_
    refine z_getR (q := 20) rfl rfl rfl (Mo_k w) (Mo_r0 w) ?_
    refine z_iconst (q := 21) (v := 4) rfl rfl rfl ?_
    refine z_iald (q := 22) rfl rfl (Mo_a0 w) (vp_in_nI (n := 4) (by omega) (by omega)) ?_
    rw [rq_a0]
    try rw [nI_clamp (by omega)]
    rw [show A9 1 (4 : Int32).toNatClampNeg = nI D from u4]
    refine z_bipush (q := 24) (v := 30) rfl rfl rfl ?_
    refine z_ic_eq (q := 27) rfl rfl (fun h24 => ?_) (fun h24 => ?_)
    · refine z_aload_n (q := 42) rfl rfl rfl ?_
      refine z_iconst (q := 43) (v := 3) rfl rfl rfl ?_
      refine z_cv1v (q := 46) rfl rfl rfl (Mo_k w) (t_Mo_faults w) ?_
      first
        | (rw [if_pos h24]
           refine zw_m (fun r M5 h5 => ?_) (l_Mo_deed4 w ht u3 uA (rFa_ok hk) u0 c2 c1 u4 hD ww.1 hI.1 hn ww.2.2.2.1)
           exact ⟨h5.1, F9, A9, h5.2, fun k hk => uK k (by omega) (by omega), ww.2.1.2.2.2⟩)
        | (rw [if_neg h24]
           refine zw_m (fun r M5 h5 => ?_) (l_Mo_deed4 w ht u3 uA hk u0 c2 c1 u4 hD ww.1 hI.1 hn ww.2.2.2.1)
           exact ⟨h5.1, F9, A9, h5.2, fun k hk => uK k (by omega) (by omega), ww.2.1.2.2.2⟩)
        | fail "none"
    · refine z_iload_n (q := 28) rfl rfl rfl ?_
      refine z_iconst (q := 29) (v := 1) rfl rfl rfl ?_
      refine z_ic_gt (q := 32) rfl rfl (fun h29 => ?_) (fun h29 => ?_)
      · first
          | (rw [if_pos h24]
             refine zw_m (fun r M5 h5 => ?_) (l_Mo_deed4 w ht u3 uA (rFa_ok hk) u0 c2 c1 u4 hD ww.1 hI.1 hn ww.2.2.2.1)
             exact ⟨h5.1, F9, A9, h5.2, fun k hk => uK k (by omega) (by omega), ww.2.1.2.2.2⟩)
          | (rw [if_neg h24]
             refine zw_m (fun r M5 h5 => ?_) (l_Mo_deed4 w ht u3 uA hk u0 c2 c1 u4 hD ww.1 hI.1 hn ww.2.2.2.1)
             exact ⟨h5.1, F9, A9, h5.2, fun k hk => uK k (by omega) (by omega), ww.2.1.2.2.2⟩)
          | fail "none"
      · exact absurd h29 (by decide)
  · exact absurd h2 (by decide)
theorem t_Mo_readsDeedN {sc : Option (Nat × Nat × (Nat → Int32))} {sa : Nat → Nat} {d : Nat} {M : mz_M} {z : Nat × Nat} {m : Nat} (w : g_Mo M.2.2 m) {F : Nat → Int32} {A : Nat → Nat → Int32} {e : rS}  : zx sc sa (d + 2) 213 [.ref m, .int (-1)] (rq M m F A e) z z none (rq M m F A (rFa e 1)) := by
  refine zxin ym_Mo_readsDeed [.ref m, .int (-1), .retAddr 0, .retAddr 0, .retAddr 0] rfl rfl rfl rfl ?_
  refine z_iload_n (q := 1) rfl rfl rfl ?_
  refine z_iconst (q := 2) (v := -1) rfl rfl rfl ?_
  refine z_ic_ne (q := 5) rfl rfl (fun h2 => ?_) (fun h2 => ?_)
  · exact absurd h2 (by decide)
  · refine z_aload_n (q := 6) rfl rfl rfl ?_
    refine z_iconst (q := 7) (v := 1) rfl rfl rfl ?_
    refine z_cv1v (q := 10) rfl rfl rfl (Mo_k w) (t_Mo_faults w) ?_
    refine z_ret rfl rfl ?_
    exact ⟨rfl, rfl⟩
