-- all deeds anew, each with a ledger of its own
def pmG (s l t : Int32) (c : Nat) (K P1 P2 P3 : Nat → Nat) (sk : Int32) : Nat → sQ → sQ := fun i q => if nI i = sk then qS 0 q else (caQ s l t c (K i) (P1 i) (P2 i) (P3 i) (qS 0 q)).2
theorem pmG_e {s l t : Int32} {c : Nat} {K P1 P2 P3 : Nat → Nat} {sk : Int32} {i : Nat} {q : sQ} (h : nI i = sk) : pmG s l t c K P1 P2 P3 sk i q = qS 0 q := if_pos h
theorem pmG_n {s l t : Int32} {c : Nat} {K P1 P2 P3 : Nat → Nat} {sk : Int32} {i : Nat} {q : sQ} (h : ¬ nI i = sk) : pmG s l t c K P1 P2 P3 sk i q = (caQ s l t c (K i) (P1 i) (P2 i) (P3 i) (qS 0 q)).2 := if_neg h
def pmV (l t : Int32) (c N : Nat) (K P1 P2 P3 : Nat → Nat) (sk : Int32) (q0 : sQ) (D : Nat) : Prop := ∀ i, i < D → ¬ nI i = sk → dV c N (K i) (P1 i) (P2 i) (P3 i) (fo (pmG (nI c) l t c K P1 P2 P3 sk) q0 i)
def pmS (l t : Int32) (c : Nat) (K P1 P2 P3 : Nat → Nat) (sk : Int32) (q0 : sQ) : Nat → Int32 := fo (fun i acc => acc + (fo (pmG (nI c) l t c K P1 P2 P3 sk) q0 (i + 1)).2.2.2.2.2.2) 0
theorem dV_s {c N k a b e : Nat} {q : sQ} {p : Int32} (h : dV c N k a b e q) : dV c N k a b e (qS p q) := by
  match k, h with
  | 1, h => exact h
  | 2, h => exact h
  | 3, h => exact h
  | 4, h => exact h
  | 5, h => exact h
  | 6, h => exact h
  | 7, h => exact h
  | 0, h => exact h.elim
  | k + 8, h => exact h.elim
theorem pm_ok {l t : Int32} {c N : Nat} {K P1 P2 P3 : Nat → Nat} {sk : Int32} {q0 : sQ} {D : Nat} (hC : c ≤ 12) (hN : N ≤ 200) (h1 : qI c q0) (h2 : qV c q0) (h3 : q0.1 ≤ N) (hv : pmV l t c N K P1 P2 P3 sk q0 D) : ∀ i, i ≤ D → qI c (fo (pmG (nI c) l t c K P1 P2 P3 sk) q0 i) ∧ qV c (fo (pmG (nI c) l t c K P1 P2 P3 sk) q0 i) ∧ (fo (pmG (nI c) l t c K P1 P2 P3 sk) q0 i).1 ≤ N := by
  intro i
  induction i with
  | zero => intro _; exact ⟨h1, h2, h3⟩
  | succ i ih =>
    intro hi
    obtain ⟨a1, a2, a3⟩ := ih (by omega)
    have v1 := hv i (by omega)
    have e9 : fo (pmG (nI c) l t c K P1 P2 P3 sk) q0 (i + 1) = pmG (nI c) l t c K P1 P2 P3 sk i (fo (pmG (nI c) l t c K P1 P2 P3 sk) q0 i) := rfl
    rw [e9]
    generalize fo (pmG (nI c) l t c K P1 P2 P3 sk) q0 i = X at a1 a2 a3 v1 ⊢
    by_cases e : nI i = sk
    · rw [pmG_e e]; exact ⟨a1, a2, a3⟩
    · rw [pmG_n e]
      exact ca_ok (q := qS 0 X) a1 a2 hC hN a3 (dV_s (v1 e))
def mFs (F : Nat → Int32) (A : Nat → Nat → Int32) (F' : Nat → Int32) (A' : Nat → Nat → Int32) : Prop := (∀ k, k ≠ 14 → k ≠ 17 → F' k = F k) ∧ ∀ j, (j < 4 ∨ 12 < j) → A' j = A j
theorem mFs_r {F : Nat → Int32} {A : Nat → Nat → Int32} : mFs F A F A := ⟨fun _ _ _ => rfl, fun _ _ => rfl⟩
theorem l_Mo_plays {sc : Option (Nat × Nat × (Nat → Int32))} {sa : Nat → Nat} {d : Nat} {M : mz_M} {z : Nat × Nat} {m : Nat} (w : g_Mo M.2.2 m) {F : Nat → Int32} {A : Nat → Nat → Int32} {c N D : Nat} {l t sk : Int32} {K P1 P2 P3 : Nat → Nat} {q0 : sQ} (hC : c ≤ 12) (hN : N ≤ 200) (hs : A 1 0 = nI c) (hl : F 15 = l) (ht : F 16 = t) (hDe : A 1 4 = nI D) (hD : D ≤ 60) (hd : ∀ i, i < D → A 1 (19 + 4 * i + 0) = nI (kmN (K i)) ∧ A 1 (19 + 4 * i + 1) = nI (P1 i) ∧ A 1 (19 + 4 * i + 2) = nI (P2 i) ∧ A 1 (19 + 4 * i + 3) = nI (P3 i)) (hI : qI c q0) (hV : qV c q0) (hn : q0.1 ≤ N) (hv : pmV l t c N K P1 P2 P3 sk q0 D)  : ∀ (k : Nat) (i : Nat) (F1 : Nat → Int32) (A1 : Nat → Nat → Int32), i + k = D → mFs F A F1 A1 → mAg c F1 A1 (fo (pmG (nI c) l t c K P1 P2 P3 sk) q0 i) → (∀ j, j < i → A1 12 j = (fo (pmG (nI c) l t c K P1 P2 P3 sk) q0 (j + 1)).2.2.2.2.2.2) → zw sc sa (d + 8) ym_Mo_plays z (fun r' M' => ∃ x, r' = some (.int x) ∧ x = (pmS l t c K P1 P2 P3 sk q0 D) ∧ ∃ F' A', M' = moF M m F' A' ∧ mFs F A F' A' ∧ mAg c F' A' (fo (pmG (nI c) l t c K P1 P2 P3 sk) q0 D) ∧ ∀ j, j < D → A' 12 j = (fo (pmG (nI c) l t c K P1 P2 P3 sk) q0 (j + 1)).2.2.2.2.2.2) 13 [.ref m, .int l, .int t, .int sk, .int (pmS l t c K P1 P2 P3 sk q0 i), .int (nI i)] [] (moF M m F1 A1) z := by
  intro k
  induction k with
  | zero =>
    intro i F1 A1 hi rr gg sp
    have e1 : i = D := by omega
    subst e1
    have sD := (congrFun (rr.2 1 (by omega)) 4).trans hDe
    refine z_iload (q := 15) rfl rfl rfl ?_
    refine z_aload_n (q := 16) rfl rfl rfl ?_
    refine z_getR (q := 19) rfl rfl rfl (Mo_k w) (Mo_r0 w) ?_
    refine z_iconst (q := 20) (v := 4) rfl rfl rfl ?_
    refine z_iald (q := 21) rfl rfl (Mo_a0 w) (vp_in_nI (n := 4) (by omega) (by omega)) ?_
    rw [moF_a0]
    try rw [nI_clamp (by omega)]
    rw [show A1 1 (4 : Int32).toNatClampNeg = nI i from sD]
    refine z_ic_ge (q := 24) rfl rfl (fun h21 => ?_) (fun h21 => ?_)
    · refine z_iload (q := 70) rfl rfl rfl ?_
      refine z_ireti rfl rfl ?_
      exact ⟨_, rfl, rfl, F1, A1, rfl, rr, gg, sp⟩
    · exact absurd (Int32.le_refl _) h21
  | succ k ih =>
    intro i F1 A1 hi rr gg sp
    have sD := (congrFun (rr.2 1 (by omega)) 4).trans hDe
    have hi2 : i < D := by omega
    obtain ⟨t1, t2, t3⟩ := pm_ok hC hN hI hV hn hv i (by omega)
    obtain ⟨u1, u2, u3, u4⟩ := hd i hi2
    have kk := rr.2 1 (by omega)
    have gg0 : mAg c (va_up F1 17 0) A1 (qS 0 (fo (pmG (nI c) l t c K P1 P2 P3 sk) q0 i)) := ⟨gg.1, rfl, gg.2.2⟩
    refine z_iload (q := 15) rfl rfl rfl ?_
    refine z_aload_n (q := 16) rfl rfl rfl ?_
    refine z_getR (q := 19) rfl rfl rfl (Mo_k w) (Mo_r0 w) ?_
    refine z_iconst (q := 20) (v := 4) rfl rfl rfl ?_
    refine z_iald (q := 21) rfl rfl (Mo_a0 w) (vp_in_nI (n := 4) (by omega) (by omega)) ?_
    rw [moF_a0]
    try rw [nI_clamp (by omega)]
    rw [show A1 1 (4 : Int32).toNatClampNeg = nI D from sD]
    refine z_ic_ge (q := 24) rfl rfl (fun h21 => ?_) (fun h21 => ?_)
    · exact absurd h21 (nI_ge (by omega) (by omega))
    · refine z_aload_n (q := 25) rfl rfl rfl ?_
      refine z_iconst (q := 26) (v := 0) rfl rfl rfl ?_
      refine z_putI (q := 29) rfl rfl rfl (by decide) rfl rfl (Mo_k w) ?_
      rw [moF_u17]
      refine z_iload (q := 31) rfl rfl rfl ?_
      refine z_iload_n (q := 32) rfl rfl rfl ?_
      refine z_ic_eq (q := 35) rfl rfl (fun h32 => ?_) (fun h32 => ?_)
      · refine z_aload_n (q := 43) rfl rfl rfl ?_
        refine z_getR (q := 46) rfl rfl rfl (Mo_k w) (Mo_r18 w) ?_
        refine z_iload (q := 48) rfl rfl rfl ?_
        refine z_aload_n (q := 49) rfl rfl rfl ?_
        refine z_getI (q := 52) rfl rfl rfl (Mo_k w) ?_
        rw [moF_g17]
        refine z_iast (q := 53) rfl rfl (Mo_a18 w) (by first | assumption | exact vp_in_nI (by omega) (by omega)) ?_
        rw [moF_w18]
        try rw [nI_clamp (by omega)]
        refine z_iload (q := 55) rfl rfl rfl ?_
        refine z_aload_n (q := 56) rfl rfl rfl ?_
        refine z_getI (q := 59) rfl rfl rfl (Mo_k w) ?_
        rw [moF_g17]
        refine z_iadd (q := 60) rfl rfl ?_
        refine z_istore (q := 62) (L2 := [_, _, _, _, _, _]) rfl rfl rfl rfl ?_
        refine z_iinc (q := 65) (L2 := [_, _, _, _, _, _]) rfl rfl rfl rfl ?_
        refine z_goto rfl ?_
        rw [show nI i + Int32.ofInt 1 = nI (i + 1) from (nI_succ i).symm]
        first
          | (have hzz : nI i = sk := h32
             have e9 : (fo (pmG (nI c) l t c K P1 P2 P3 sk) q0 (i + 1)) = qS 0 (fo (pmG (nI c) l t c K P1 P2 P3 sk) q0 i) := pmG_e hzz
             have e8 := ih (i + 1) (va_up F1 17 0) (va_up A1 12 (va_up (A1 12) i 0)) (by omega) ⟨fun k u1 u2 => (up_n u2).trans (rr.1 k u1 u2), fun j hj => (up_n (by omega)).trans (rr.2 j hj)⟩
             rw [e9] at e8
             refine Eq.mp (congrArg (fun x => zw sc sa (d + 8) ym_Mo_plays z _ 13 [.ref m, .int l, .int t, .int sk, .int x, .int (nI (i + 1))] [] _ z) ?_) (e8 gg0 (fun j hj => ?_))
             · show (pmS l t c K P1 P2 P3 sk q0 i) + ((fo (pmG (nI c) l t c K P1 P2 P3 sk) q0 (i + 1))).2.2.2.2.2.2 = (pmS l t c K P1 P2 P3 sk q0 i) + 0
               rw [e9]
               rfl
             · by_cases ej : j = i
               · rw [ej, e9]
                 exact up_s
               · exact (up_n ej).trans (sp j (by omega)))
          | (have hzz : ¬ nI i = sk := h32
             have e9 : (fo (pmG (nI c) l t c K P1 P2 P3 sk) q0 (i + 1)) = (caQ (nI c) l t c (K i) (P1 i) (P2 i) (P3 i) (qS 0 (fo (pmG (nI c) l t c K P1 P2 P3 sk) q0 i))).2 := pmG_n hzz
             have e8 := ih (i + 1) FF (va_up AA 12 (va_up (AA 12) i (FF 17))) (by omega) ⟨fun k u1 u2 => (rf.1 k u1 u2).trans ((up_n u2).trans (rr.1 k u1 u2)), fun j hj => (up_n (by omega)).trans ((rf.2 j (by omega)).trans (rr.2 j hj))⟩
             rw [e9] at e8
             refine Eq.mp (congrArg (fun x => zw sc sa (d + 8) ym_Mo_plays z _ 13 [.ref m, .int l, .int t, .int sk, .int x, .int (nI (i + 1))] [] _ z) ?_) (e8 gf (fun j hj => ?_))
             · show (pmS l t c K P1 P2 P3 sk q0 i) + ((fo (pmG (nI c) l t c K P1 P2 P3 sk) q0 (i + 1))).2.2.2.2.2.2 = (pmS l t c K P1 P2 P3 sk q0 i) + FF 17
               rw [e9, gf.2.1]
             · by_cases ej : j = i
               · rw [ej, e9]
                 exact up_s.trans gf.2.1
               · exact (up_n ej).trans ((congrFun (rf.2 12 (by omega)) j).trans (sp j (by omega))))
          | fail "none"
      · refine z_aload_n (q := 36) rfl rfl rfl ?_
        refine z_iload (q := 38) rfl rfl rfl ?_
        refine z_cv1qi (q := 41) rfl rfl rfl (Mo_k w) (q_Mo_does (k := K i) (a := P1 i) (b := P2 i) (e := P3 i) (l := l) (t := t) w gg0 t1 hC ((congrFun kk 0).trans hs) ((rr.1 15 (by omega) (by omega)).trans hl) ((rr.1 16 (by omega) (by omega)).trans ht) t2 hN (by omega) ((congrFun kk _).trans u2) ((congrFun kk _).trans u3) ((congrFun kk _).trans u4) ((congrFun kk _).trans u1) (dV_s (hv i hi2 h32))) (fun x9 M9 h9 => ?_)
        obtain ⟨rfl, FF, AA, rfl, rf, gf⟩ := h9
        refine z_pop (q := 42) rfl rfl rfl ?_
        refine z_aload_n (q := 43) rfl rfl rfl ?_
        refine z_getR (q := 46) rfl rfl rfl (Mo_k w) (Mo_r18 w) ?_
        refine z_iload (q := 48) rfl rfl rfl ?_
        refine z_aload_n (q := 49) rfl rfl rfl ?_
        refine z_getI (q := 52) rfl rfl rfl (Mo_k w) ?_
        rw [moF_g17]
        refine z_iast (q := 53) rfl rfl (Mo_a18 w) (by first | assumption | exact vp_in_nI (by omega) (by omega)) ?_
        rw [moF_w18]
        try rw [nI_clamp (by omega)]
        refine z_iload (q := 55) rfl rfl rfl ?_
        refine z_aload_n (q := 56) rfl rfl rfl ?_
        refine z_getI (q := 59) rfl rfl rfl (Mo_k w) ?_
        rw [moF_g17]
        refine z_iadd (q := 60) rfl rfl ?_
        refine z_istore (q := 62) (L2 := [_, _, _, _, _, _]) rfl rfl rfl rfl ?_
        refine z_iinc (q := 65) (L2 := [_, _, _, _, _, _]) rfl rfl rfl rfl ?_
        refine z_goto rfl ?_
        rw [show nI i + Int32.ofInt 1 = nI (i + 1) from (nI_succ i).symm]
        first
          | (have hzz : nI i = sk := h32
             have e9 : (fo (pmG (nI c) l t c K P1 P2 P3 sk) q0 (i + 1)) = qS 0 (fo (pmG (nI c) l t c K P1 P2 P3 sk) q0 i) := pmG_e hzz
             have e8 := ih (i + 1) (va_up F1 17 0) (va_up A1 12 (va_up (A1 12) i 0)) (by omega) ⟨fun k u1 u2 => (up_n u2).trans (rr.1 k u1 u2), fun j hj => (up_n (by omega)).trans (rr.2 j hj)⟩
             rw [e9] at e8
             refine Eq.mp (congrArg (fun x => zw sc sa (d + 8) ym_Mo_plays z _ 13 [.ref m, .int l, .int t, .int sk, .int x, .int (nI (i + 1))] [] _ z) ?_) (e8 gg0 (fun j hj => ?_))
             · show (pmS l t c K P1 P2 P3 sk q0 i) + ((fo (pmG (nI c) l t c K P1 P2 P3 sk) q0 (i + 1))).2.2.2.2.2.2 = (pmS l t c K P1 P2 P3 sk q0 i) + 0
               rw [e9]
               rfl
             · by_cases ej : j = i
               · rw [ej, e9]
                 exact up_s
               · exact (up_n ej).trans (sp j (by omega)))
          | (have hzz : ¬ nI i = sk := h32
             have e9 : (fo (pmG (nI c) l t c K P1 P2 P3 sk) q0 (i + 1)) = (caQ (nI c) l t c (K i) (P1 i) (P2 i) (P3 i) (qS 0 (fo (pmG (nI c) l t c K P1 P2 P3 sk) q0 i))).2 := pmG_n hzz
             have e8 := ih (i + 1) FF (va_up AA 12 (va_up (AA 12) i (FF 17))) (by omega) ⟨fun k u1 u2 => (rf.1 k u1 u2).trans ((up_n u2).trans (rr.1 k u1 u2)), fun j hj => (up_n (by omega)).trans ((rf.2 j (by omega)).trans (rr.2 j hj))⟩
             rw [e9] at e8
             refine Eq.mp (congrArg (fun x => zw sc sa (d + 8) ym_Mo_plays z _ 13 [.ref m, .int l, .int t, .int sk, .int x, .int (nI (i + 1))] [] _ z) ?_) (e8 gf (fun j hj => ?_))
             · show (pmS l t c K P1 P2 P3 sk q0 i) + ((fo (pmG (nI c) l t c K P1 P2 P3 sk) q0 (i + 1))).2.2.2.2.2.2 = (pmS l t c K P1 P2 P3 sk q0 i) + FF 17
               rw [e9, gf.2.1]
             · by_cases ej : j = i
               · rw [ej, e9]
                 exact up_s.trans gf.2.1
               · exact (up_n ej).trans ((congrFun (rf.2 12 (by omega)) j).trans (sp j (by omega))))
          | fail "none"
def mFt (F : Nat → Int32) (A : Nat → Nat → Int32) (l t : Int32) (F' : Nat → Int32) (A' : Nat → Nat → Int32) : Prop := F' 15 = l ∧ F' 16 = t ∧ (∀ k, (k < 14 ∨ 17 < k) → F' k = F k) ∧ ∀ j, (j < 4 ∨ 12 < j) → A' j = A j
theorem q_Mo_plays {sc : Option (Nat × Nat × (Nat → Int32))} {sa : Nat → Nat} {d : Nat} {M : mz_M} {z : Nat × Nat} {m : Nat} (w : g_Mo M.2.2 m) {F : Nat → Int32} {A : Nat → Nat → Int32} {c N D : Nat} {l t sk : Int32} {K P1 P2 P3 : Nat → Nat} (hC : c ≤ 12) (hN : N ≤ 200) (h1N : 1 ≤ N) (hs : A 1 0 = nI c) (hDe : A 1 4 = nI D) (hD : D ≤ 60) (hd : ∀ i, i < D → A 1 (19 + 4 * i + 0) = nI (kmN (K i)) ∧ A 1 (19 + 4 * i + 1) = nI (P1 i) ∧ A 1 (19 + 4 * i + 2) = nI (P2 i) ∧ A 1 (19 + 4 * i + 3) = nI (P3 i)) (hv : ∀ p q0, pmV l t c N K P1 P2 P3 sk (qS p (bgQ (ownR c) q0)) D)  : zi sc sa (d + 9) 198 [.ref m, .int l, .int t, .int sk] (moF M m F A) z (fun x M' => ∃ p q0 F' A', x = (pmS l t c K P1 P2 P3 sk (qS p (bgQ (ownR c) q0)) D) ∧ M' = moF M m F' A' ∧ mFt F A l t F' A' ∧ mAg c F' A' (fo (pmG (nI c) l t c K P1 P2 P3 sk) (qS p (bgQ (ownR c) q0)) D) ∧ ∀ j, j < D → A' 12 j = (fo (pmG (nI c) l t c K P1 P2 P3 sk) (qS p (bgQ (ownR c) q0)) (j + 1)).2.2.2.2.2.2) := by
  refine zin ym_Mo_plays [.ref m, .int l, .int t, .int sk, .retAddr 0, .retAddr 0] rfl rfl rfl rfl ?_
  refine z_aload_n (q := 1) rfl rfl rfl ?_
  refine z_iload_n (q := 2) rfl rfl rfl ?_
  refine z_iload_n (q := 3) rfl rfl rfl ?_
  refine z_iconst (q := 4) (v := -1) rfl rfl rfl ?_
  refine z_cv3qv (q := 7) rfl rfl rfl (Mo_k w) (q_Mo_begins (c := c) (row := ownR c) w hC (fun i hi => by rw [if_pos rfl]; exact own_v (c := c) c i hC hi)) (fun M9 h9 => ?_)
  obtain ⟨FF, AA, q0, rfl, rb, gb⟩ := h9
  refine z_iconst (q := 8) (v := 0) rfl rfl rfl ?_
  refine z_istore (q := 10) (L2 := [_, _, _, _, _, _]) rfl rfl rfl rfl ?_
  refine z_iconst (q := 11) (v := 0) rfl rfl rfl ?_
  refine z_istore (q := 13) (L2 := [_, _, _, _, _, _]) rfl rfl rfl rfl ?_
  have kk := rb.2.2.2 1 (by omega)
  have e9 := l_Mo_plays (sc := sc) (sa := sa) (d := d) (z := z) (sk := sk) (q0 := qS (F 17) (bgQ (ownR c) q0)) w hC hN ((congrFun kk 0).trans hs) rb.1 rb.2.1 ((congrFun kk 4).trans hDe) hD (fun i hi => by rw [kk]; exact hd i hi) (qI_bg (row := ownR c) (q := q0)) (qV_bg (q := q0) hC) h1N (hv _ _) D 0 FF AA (by omega) mFs_r gb (fun j hj => absurd hj (Nat.not_lt_zero _))
  refine mz_wp_m (mz_Kd_m sc sa (d + 8)) ?_ e9
  intro r9 M9 ⟨x9, h1, h2, F2, A2, h3, h4, h5, h6⟩
  refine ⟨x9, h1, F 17, q0, F2, A2, h2, h3, ⟨(h4.1 15 (by omega) (by omega)).trans rb.1, (h4.1 16 (by omega) (by omega)).trans rb.2.1, fun k hk => (h4.1 k (by omega) (by omega)).trans (rb.2.2.1 k (by omega)), fun j hj => (h4.2 j hj).trans (rb.2.2.2 j (by omega))⟩, h5, h6⟩
theorem q_Mo_plays2 {sc : Option (Nat × Nat × (Nat → Int32))} {sa : Nat → Nat} {d : Nat} {M : mz_M} {z : Nat × Nat} {m : Nat} (w : g_Mo M.2.2 m) {F : Nat → Int32} {A : Nat → Nat → Int32} {c N D : Nat} {l t : Int32} {K P1 P2 P3 : Nat → Nat} (hC : c ≤ 12) (hN : N ≤ 200) (h1N : 1 ≤ N) (hs : A 1 0 = nI c) (hDe : A 1 4 = nI D) (hD : D ≤ 60) (hd : ∀ i, i < D → A 1 (19 + 4 * i + 0) = nI (kmN (K i)) ∧ A 1 (19 + 4 * i + 1) = nI (P1 i) ∧ A 1 (19 + 4 * i + 2) = nI (P2 i) ∧ A 1 (19 + 4 * i + 3) = nI (P3 i)) (hv : ∀ p q0, pmV l t c N K P1 P2 P3 (-1) (qS p (bgQ (ownR c) q0)) D) (hl : A 1 1 = l) (ht : A 1 2 = t)  : zi sc sa (d + 10) 199 [.ref m] (moF M m F A) z (fun x M' => ∃ p q0 F' A', x = (pmS l t c K P1 P2 P3 (-1) (qS p (bgQ (ownR c) q0)) D) ∧ M' = moF M m F' A' ∧ mFt F A l t F' A' ∧ mAg c F' A' (fo (pmG (nI c) l t c K P1 P2 P3 (-1)) (qS p (bgQ (ownR c) q0)) D) ∧ ∀ j, j < D → A' 12 j = (fo (pmG (nI c) l t c K P1 P2 P3 (-1)) (qS p (bgQ (ownR c) q0)) (j + 1)).2.2.2.2.2.2) := by
  refine zin ym_Mo_plays2 [.ref m] rfl rfl rfl rfl ?_
  refine z_aload_n (q := 1) rfl rfl rfl ?_
  refine z_aload_n (q := 2) rfl rfl rfl ?_
  refine z_getR (q := 5) rfl rfl rfl (Mo_k w) (Mo_r0 w) ?_
  refine z_iconst (q := 6) (v := 1) rfl rfl rfl ?_
  refine z_iald (q := 7) rfl rfl (Mo_a0 w) (vp_in_nI (n := 1) (by omega) (by omega)) ?_
  rw [moF_a0]
  try rw [nI_clamp (by omega)]
  rw [show A 1 (1 : Int32).toNatClampNeg = l from hl]
  refine z_aload_n (q := 8) rfl rfl rfl ?_
  refine z_getR (q := 11) rfl rfl rfl (Mo_k w) (Mo_r0 w) ?_
  refine z_iconst (q := 12) (v := 2) rfl rfl rfl ?_
  refine z_iald (q := 13) rfl rfl (Mo_a0 w) (vp_in_nI (n := 2) (by omega) (by omega)) ?_
  rw [moF_a0]
  try rw [nI_clamp (by omega)]
  rw [show A 1 (2 : Int32).toNatClampNeg = t from ht]
  refine z_iconst (q := 14) (v := -1) rfl rfl rfl ?_
  refine z_cv3qi (q := 17) rfl rfl rfl (Mo_k w) (q_Mo_plays w hC hN h1N hs hDe hD hd hv) (fun x9 M9 h9 => ?_)
  refine z_ireti rfl rfl ?_
  exact ⟨_, rfl, h9⟩
def lyA (A : Nat → Nat → Int32) (D : Nat) (k v a b : Int32) : Nat → Nat → Int32 := va_up A 1 (va_up (va_up (va_up (va_up (va_up (A 1) (19 + 4 * D + 0) k) (19 + 4 * D + 1) v) (19 + 4 * D + 2) a) (19 + 4 * D + 3) b) 4 (nI D + 1))
theorem ix4' {d : Nat} : (19 : Int32) + 4 * nI d = nI (19 + 4 * d + 0) := by
  have h := @ix4 d 0
  rw [show nI 0 = 0 from rfl, Int32.add_zero] at h
  exact h
theorem ix4s {d : Nat} : nI (19 + 4 * d + 0) + 1 = nI (19 + 4 * d + 1) ∧ nI (19 + 4 * d + 0) + 2 = nI (19 + 4 * d + 2) ∧ nI (19 + 4 * d + 0) + 3 = nI (19 + 4 * d + 3) := ⟨nI_add _ 1, nI_add _ 2, nI_add _ 3⟩
theorem s_Mo_lays {sc : Option (Nat × Nat × (Nat → Int32))} {sa : Nat → Nat} {d : Nat} {M : mz_M} {z : Nat × Nat} {m : Nat} (w : g_Mo M.2.2 m) {F : Nat → Int32} {A : Nat → Nat → Int32} {D : Nat} (hDe : A 1 4 = nI D) (hD : D < 60) {k v a b : Int32} : zx sc sa (d + 1) 214 [.ref m, .int k, .int v, .int a, .int b] (moF M m F A) z z none (moF M m F (lyA A D k v a b)) := by
  refine zxin ym_Mo_lays [.ref m, .int k, .int v, .int a, .int b, .retAddr 0] rfl rfl rfl rfl ?_
  refine z_bipush (q := 2) (v := 19) rfl rfl rfl ?_
  refine z_iconst (q := 3) (v := 4) rfl rfl rfl ?_
  refine z_aload_n (q := 4) rfl rfl rfl ?_
  refine z_getR (q := 7) rfl rfl rfl (Mo_k w) (Mo_r0 w) ?_
  refine z_iconst (q := 8) (v := 4) rfl rfl rfl ?_
  refine z_iald (q := 9) rfl rfl (Mo_a0 w) (vp_in_nI (n := 4) (by omega) (by omega)) ?_
  rw [moF_a0]
  try rw [nI_clamp (by omega)]
  rw [show A 1 (4 : Int32).toNatClampNeg = nI D from hDe]
  refine z_imul (q := 10) rfl rfl ?_
  refine z_iadd (q := 11) rfl rfl ?_
  rw [ix4']
  refine z_istore (q := 13) (L2 := [_, _, _, _, _, _]) rfl rfl rfl rfl ?_
  refine z_aload_n (q := 14) rfl rfl rfl ?_
  refine z_getR (q := 17) rfl rfl rfl (Mo_k w) (Mo_r0 w) ?_
  refine z_iload (q := 19) rfl rfl rfl ?_
  refine z_iload_n (q := 20) rfl rfl rfl ?_
  refine z_iast (q := 21) rfl rfl (Mo_a0 w) (by first | assumption | exact vp_in_nI (by omega) (by omega)) ?_
  rw [moF_w0]
  try rw [nI_clamp (by omega)]
  refine z_aload_n (q := 22) rfl rfl rfl ?_
  refine z_getR (q := 25) rfl rfl rfl (Mo_k w) (Mo_r0 w) ?_
  refine z_iload (q := 27) rfl rfl rfl ?_
  refine z_iconst (q := 28) (v := 1) rfl rfl rfl ?_
  refine z_iadd (q := 29) rfl rfl ?_
  rw [ix4s.1]
  refine z_iload_n (q := 30) rfl rfl rfl ?_
  refine z_iast (q := 31) rfl rfl (Mo_a0 w) (by first | assumption | exact vp_in_nI (by omega) (by omega)) ?_
  rw [moF_w0]
  try rw [nI_clamp (by omega)]
  rw [up_u]
  refine z_aload_n (q := 32) rfl rfl rfl ?_
  refine z_getR (q := 35) rfl rfl rfl (Mo_k w) (Mo_r0 w) ?_
  refine z_iload (q := 37) rfl rfl rfl ?_
  refine z_iconst (q := 38) (v := 2) rfl rfl rfl ?_
  refine z_iadd (q := 39) rfl rfl ?_
  rw [ix4s.2.1]
  refine z_iload_n (q := 40) rfl rfl rfl ?_
  refine z_iast (q := 41) rfl rfl (Mo_a0 w) (by first | assumption | exact vp_in_nI (by omega) (by omega)) ?_
  rw [moF_w0]
  try rw [nI_clamp (by omega)]
  rw [up_u]
  refine z_aload_n (q := 42) rfl rfl rfl ?_
  refine z_getR (q := 45) rfl rfl rfl (Mo_k w) (Mo_r0 w) ?_
  refine z_iload (q := 47) rfl rfl rfl ?_
  refine z_iconst (q := 48) (v := 3) rfl rfl rfl ?_
  refine z_iadd (q := 49) rfl rfl ?_
  rw [ix4s.2.2]
  refine z_iload (q := 51) rfl rfl rfl ?_
  refine z_iast (q := 52) rfl rfl (Mo_a0 w) (by first | assumption | exact vp_in_nI (by omega) (by omega)) ?_
  rw [moF_w0]
  try rw [nI_clamp (by omega)]
  rw [up_u]
  refine z_aload_n (q := 53) rfl rfl rfl ?_
  refine z_getR (q := 56) rfl rfl rfl (Mo_k w) (Mo_r0 w) ?_
  refine z_iconst (q := 57) (v := 4) rfl rfl rfl ?_
  refine z_dup2 (q := 58) rfl rfl rfl rfl ?_
  refine z_iald (q := 59) rfl rfl (Mo_a0 w) (vp_in_nI (n := 4) (by omega) (by omega)) ?_
  rw [moF_a0]
  try rw [nI_clamp (by omega)]
  refine z_iconst (q := 60) (v := 1) rfl rfl rfl ?_
  refine z_iadd (q := 61) rfl rfl ?_
  refine z_iast (q := 62) rfl rfl (Mo_a0 w) (vp_in_nI (n := 4) (by omega) (by omega)) ?_
  rw [moF_w0]
  try rw [nI_clamp (by omega)]
  rw [up_u]
  refine z_ret rfl rfl ?_
  refine ⟨rfl, ?_⟩
  have hzz : ∀ R : Nat → Int32, R 4 = nI D → va_up A 1 (va_up R 4 (R 4 + 1)) = va_up A 1 (va_up R 4 (nI D + 1)) := fun R e => by rw [e]
  have e4 : va_up (va_up (va_up (va_up (A 1) (19 + 4 * D + 0) k) (19 + 4 * D + 1) v) (19 + 4 * D + 2) a) (19 + 4 * D + 3) b 4 = nI D := by
    rw [up_n (by omega), up_n (by omega), up_n (by omega), up_n (by omega)]
    exact hDe
  refine congrArg (moF M m F) ?_
  exact hzz _ e4
-- all deeds, one ledger
def plW (l t : Int32) (c N : Nat) (K P1 P2 P3 : Nat → Nat) (q0 : sQ) (D : Nat) : Prop := ∀ i, i < D → dV c N (K i) (P1 i) (P2 i) (P3 i) (fo (plG (nI c) l t c K P1 P2 P3 (-1)) q0 i)
theorem pl_ok {l t : Int32} {c N : Nat} {K P1 P2 P3 : Nat → Nat} {q0 : sQ} {D : Nat} (hC : c ≤ 12) (hN : N ≤ 200) (hD : D ≤ 60) (h1 : qI c q0) (h2 : qV c q0) (h3 : q0.1 ≤ N) (hv : plW l t c N K P1 P2 P3 q0 D) : ∀ i, i ≤ D → qI c (fo (plG (nI c) l t c K P1 P2 P3 (-1)) q0 i) ∧ qV c (fo (plG (nI c) l t c K P1 P2 P3 (-1)) q0 i) ∧ (fo (plG (nI c) l t c K P1 P2 P3 (-1)) q0 i).1 ≤ N := by
  intro i
  induction i with
  | zero => intro _; exact ⟨h1, h2, h3⟩
  | succ i ih =>
    intro hi
    obtain ⟨a1, a2, a3⟩ := ih (by omega)
    have v1 := hv i (by omega)
    have e9 : fo (plG (nI c) l t c K P1 P2 P3 (-1)) q0 (i + 1) = plG (nI c) l t c K P1 P2 P3 (-1) i (fo (plG (nI c) l t c K P1 P2 P3 (-1)) q0 i) := rfl
    rw [e9, plG_n (nI_m1 (by omega))]
    exact ca_ok a1 a2 hC hN a3 v1
theorem l_Mo_acts {sc : Option (Nat × Nat × (Nat → Int32))} {sa : Nat → Nat} {d : Nat} {M : mz_M} {z : Nat × Nat} {m : Nat} (w : g_Mo M.2.2 m) {F : Nat → Int32} {A : Nat → Nat → Int32} {c N D : Nat} {l t : Int32} {K P1 P2 P3 : Nat → Nat} {q0 : sQ} (hC : c ≤ 12) (hN : N ≤ 200) (hs : A 1 0 = nI c) (hl : F 15 = l) (ht : F 16 = t) (hDe : A 1 4 = nI D) (hD : D ≤ 60) (hd : ∀ i, i < D → A 1 (19 + 4 * i + 0) = nI (kmN (K i)) ∧ A 1 (19 + 4 * i + 1) = nI (P1 i) ∧ A 1 (19 + 4 * i + 2) = nI (P2 i) ∧ A 1 (19 + 4 * i + 3) = nI (P3 i)) (hI : qI c q0) (hV : qV c q0) (hn : q0.1 ≤ N) (hv : plW l t c N K P1 P2 P3 q0 D) {x1 x2 x3 x4 : Int32} : ∀ (k : Nat) (i : Nat) (F1 : Nat → Int32) (A1 : Nat → Nat → Int32) (cm : Int32), i + k = D → mFr F A F1 A1 → mAg c F1 A1 (fo (plG (nI c) l t c K P1 P2 P3 (-1)) q0 i) → (∀ i', i = i' + 1 → cm = (caQ (nI c) l t c (K i') (P1 i') (P2 i') (P3 i') (fo (plG (nI c) l t c K P1 P2 P3 (-1)) q0 i')).1) → zw sc sa (d + 8) ym_Mo_acts z (fun r' M' => ∃ x, r' = some (.int x) ∧ (∀ D', D = D' + 1 → x = (caQ (nI c) l t c (K D') (P1 D') (P2 D') (P3 D') (fo (plG (nI c) l t c K P1 P2 P3 (-1)) q0 D')).1) ∧ ∃ F' A', M' = moF M m F' A' ∧ mFr F A F' A' ∧ mAg c F' A' (fo (plG (nI c) l t c K P1 P2 P3 (-1)) q0 D)) 43 [.ref m, .int x1, .int x2, .int x3, .int x4, .int cm, .int (nI i)] [] (moF M m F1 A1) z := by
  intro k
  induction k with
  | zero =>
    intro i F1 A1 cm hi rr gg sp
    have e1 : i = D := by omega
    subst e1
    have sD := (congrFun (rr.2 1 (by omega)) 4).trans hDe
    refine z_iload (q := 45) rfl rfl rfl ?_
    refine z_aload_n (q := 46) rfl rfl rfl ?_
    refine z_getR (q := 49) rfl rfl rfl (Mo_k w) (Mo_r0 w) ?_
    refine z_iconst (q := 50) (v := 4) rfl rfl rfl ?_
    refine z_iald (q := 51) rfl rfl (Mo_a0 w) (vp_in_nI (n := 4) (by omega) (by omega)) ?_
    rw [moF_a0]
    try rw [nI_clamp (by omega)]
    rw [show A1 1 (4 : Int32).toNatClampNeg = nI i from sD]
    refine z_ic_ge (q := 54) rfl rfl (fun h51 => ?_) (fun h51 => ?_)
    · refine z_iload (q := 70) rfl rfl rfl ?_
      refine z_ireti rfl rfl ?_
      exact ⟨_, rfl, sp, F1, A1, rfl, rr, gg⟩
    · exact absurd (Int32.le_refl _) h51
  | succ k ih =>
    intro i F1 A1 cm hi rr gg sp
    have sD := (congrFun (rr.2 1 (by omega)) 4).trans hDe
    have hi2 : i < D := by omega
    obtain ⟨t1, t2, t3⟩ := pl_ok hC hN hD hI hV hn hv i (by omega)
    obtain ⟨u1, u2, u3, u4⟩ := hd i hi2
    have kk := rr.2 1 (by omega)
    refine z_iload (q := 45) rfl rfl rfl ?_
    refine z_aload_n (q := 46) rfl rfl rfl ?_
    refine z_getR (q := 49) rfl rfl rfl (Mo_k w) (Mo_r0 w) ?_
    refine z_iconst (q := 50) (v := 4) rfl rfl rfl ?_
    refine z_iald (q := 51) rfl rfl (Mo_a0 w) (vp_in_nI (n := 4) (by omega) (by omega)) ?_
    rw [moF_a0]
    try rw [nI_clamp (by omega)]
    rw [show A1 1 (4 : Int32).toNatClampNeg = nI D from sD]
    refine z_ic_ge (q := 54) rfl rfl (fun h51 => ?_) (fun h51 => ?_)
    · exact absurd h51 (nI_ge (by omega) (by omega))
    · refine z_aload_n (q := 55) rfl rfl rfl ?_
      refine z_iload (q := 57) rfl rfl rfl ?_
      refine z_cv1qi (q := 60) rfl rfl rfl (Mo_k w) (q_Mo_does (k := K i) (a := P1 i) (b := P2 i) (e := P3 i) (l := l) (t := t) w gg t1 hC ((congrFun kk 0).trans hs) ((rr.1 15 (by omega) (by omega)).trans hl) ((rr.1 16 (by omega) (by omega)).trans ht) t2 hN (by omega) ((congrFun kk _).trans u2) ((congrFun kk _).trans u3) ((congrFun kk _).trans u4) ((congrFun kk _).trans u1) (hv i hi2)) (fun x9 M9 h9 => ?_)
      obtain ⟨rfl, FF, AA, rfl, rf, gf⟩ := h9
      refine z_istore (q := 62) (L2 := [_, _, _, _, _, _, _]) rfl rfl rfl rfl ?_
      refine z_iinc (q := 65) (L2 := [_, _, _, _, _, _, _]) rfl rfl rfl rfl ?_
      refine z_goto rfl ?_
      rw [show nI i + Int32.ofInt 1 = nI (i + 1) from (nI_succ i).symm]
      have e9 : (fo (plG (nI c) l t c K P1 P2 P3 (-1)) q0 (i + 1)) = (caQ (nI c) l t c (K i) (P1 i) (P2 i) (P3 i) (fo (plG (nI c) l t c K P1 P2 P3 (-1)) q0 i)).2 := plG_n (nI_m1 (by omega))
      have e8 := ih (i + 1) FF AA (caQ (nI c) l t c (K i) (P1 i) (P2 i) (P3 i) (fo (plG (nI c) l t c K P1 P2 P3 (-1)) q0 i)).1 (by omega) (mFr_t rr rf)
      rw [e9] at e8
      exact e8 gf (fun i' ei => by
        have e7 : i = i' := by omega
        rw [e7])
def acA (A : Nat → Nat → Int32) (D : Nat) (k v a b n : Int32) : Nat → Nat → Int32 := va_up A 1 (va_up (lyA A D k v a b 1) 6 n)
section
variable {A : Nat → Nat → Int32} {D : Nat} {k v a b n : Int32} {i j : Nat}
theorem lyA_o (h : j < 19) (h4 : j ≠ 4) : lyA A D k v a b 1 j = A 1 j := by
  unfold lyA
  rw [up_s, up_n h4, up_n (by omega), up_n (by omega), up_n (by omega), up_n (by omega)]
theorem lyA_4 : lyA A D k v a b 1 4 = nI D + 1 := by
  unfold lyA
  rw [up_s, up_s]
theorem lyA_d : lyA A D k v a b 1 (19 + 4 * D + 0) = k ∧ lyA A D k v a b 1 (19 + 4 * D + 1) = v ∧ lyA A D k v a b 1 (19 + 4 * D + 2) = a ∧ lyA A D k v a b 1 (19 + 4 * D + 3) = b := by
  unfold lyA
  rw [up_s]
  refine ⟨?_, ?_, ?_, ?_⟩
  · rw [up_n (by omega), up_n (by omega), up_n (by omega), up_n (by omega), up_s]
  · rw [up_n (by omega), up_n (by omega), up_n (by omega), up_s]
  · rw [up_n (by omega), up_n (by omega), up_s]
  · rw [up_n (by omega), up_s]
theorem lyA_e {r : Nat} (h : i ≠ D) (hr : r < 4) : lyA A D k v a b 1 (19 + 4 * i + r) = A 1 (19 + 4 * i + r) := by
  unfold lyA
  rw [up_s, up_n (by omega), up_n (by omega), up_n (by omega), up_n (by omega), up_n (by omega)]
theorem acA_o (h : j ≠ 6) : acA A D k v a b n 1 j = lyA A D k v a b 1 j := by
  unfold acA
  rw [up_s, up_n h]
end
theorem q_Mo_acts {sc : Option (Nat × Nat × (Nat → Int32))} {sa : Nat → Nat} {d : Nat} {M : mz_M} {z : Nat × Nat} {m : Nat} (w : g_Mo M.2.2 m) {F : Nat → Int32} {A : Nat → Nat → Int32} {c N D : Nat} {l t : Int32} {K P1 P2 P3 : Nat → Nat} (hC : c ≤ 12) (hN : N ≤ 200) (h1N : 1 ≤ N) (hs : A 1 0 = nI c) (hl : A 1 1 = l) (ht : A 1 2 = t) (hDe : A 1 4 = nI D) (hD : D < 60) {n : Int32} (h6 : A 1 6 = n) (hd : ∀ i, i < D → A 1 (19 + 4 * i + 0) = nI (kmN (K i)) ∧ A 1 (19 + 4 * i + 1) = nI (P1 i) ∧ A 1 (19 + 4 * i + 2) = nI (P2 i) ∧ A 1 (19 + 4 * i + 3) = nI (P3 i)) (hv : ∀ p q0, plW l t c N K P1 P2 P3 (qS p (bgQ (ownR c) q0)) (D + 1))  : zi sc sa (d + 9) 244 [.ref m, .int (nI (kmN (K D))), .int (nI (P1 D)), .int (nI (P2 D)), .int (nI (P3 D))] (moF M m F A) z (fun x M' => ∃ p q0 F' A', x = (caQ (nI c) l t c (K D) (P1 D) (P2 D) (P3 D) (fo (plG (nI c) l t c K P1 P2 P3 (-1)) (qS p (bgQ (ownR c) q0)) D)).1 ∧ M' = moF M m F' A' ∧ (∀ k, (k < 14 ∨ 17 < k) → F' k = F k) ∧ A' 1 = (acA A D (nI (kmN (K D))) (nI (P1 D)) (nI (P2 D)) (nI (P3 D)) (n + 1)) 1 ∧ (∀ j, (1 < j ∧ j < 4 ∨ 11 < j) → A' j = A j)) := by
  have l6 : (lyA A D (nI (kmN (K D))) (nI (P1 D)) (nI (P2 D)) (nI (P3 D))) 1 6 = n := (lyA_o (by omega) (by omega)).trans h6
  have lo : ∀ j, j < 19 → j ≠ 4 → j ≠ 6 → (acA A D (nI (kmN (K D))) (nI (P1 D)) (nI (P2 D)) (nI (P3 D)) (n + 1)) 1 j = A 1 j := fun j j1 j2 j3 => (acA_o j3).trans (lyA_o j1 j2)
  have l4 : (acA A D (nI (kmN (K D))) (nI (P1 D)) (nI (P2 D)) (nI (P3 D)) (n + 1)) 1 4 = nI (D + 1) := (acA_o (by omega)).trans (lyA_4.trans (nI_1 D))
  have ld : ∀ i, i < D + 1 → (acA A D (nI (kmN (K D))) (nI (P1 D)) (nI (P2 D)) (nI (P3 D)) (n + 1)) 1 (19 + 4 * i + 0) = nI (kmN (K i)) ∧ (acA A D (nI (kmN (K D))) (nI (P1 D)) (nI (P2 D)) (nI (P3 D)) (n + 1)) 1 (19 + 4 * i + 1) = nI (P1 i) ∧ (acA A D (nI (kmN (K D))) (nI (P1 D)) (nI (P2 D)) (nI (P3 D)) (n + 1)) 1 (19 + 4 * i + 2) = nI (P2 i) ∧ (acA A D (nI (kmN (K D))) (nI (P1 D)) (nI (P2 D)) (nI (P3 D)) (n + 1)) 1 (19 + 4 * i + 3) = nI (P3 i) := by
    intro i hi
    rw [acA_o (by omega), acA_o (by omega), acA_o (by omega), acA_o (by omega)]
    by_cases ei : i = D
    · rw [ei]
      exact lyA_d
    · rw [lyA_e ei (by omega), lyA_e ei (by omega), lyA_e ei (by omega), lyA_e ei (by omega)]
      exact hd i (by omega)
  refine zin ym_Mo_acts [.ref m, .int (nI (kmN (K D))), .int (nI (P1 D)), .int (nI (P2 D)), .int (nI (P3 D)), .retAddr 0, .retAddr 0] rfl rfl rfl rfl ?_
  refine z_aload_n (q := 1) rfl rfl rfl ?_
  refine z_iload_n (q := 2) rfl rfl rfl ?_
  refine z_iload_n (q := 3) rfl rfl rfl ?_
  refine z_iload_n (q := 4) rfl rfl rfl ?_
  refine z_iload (q := 6) rfl rfl rfl ?_
  refine z_cv4v (q := 9) rfl rfl rfl (Mo_k w) (s_Mo_lays w hDe hD) ?_
  refine z_aload_n (q := 10) rfl rfl rfl ?_
  refine z_getR (q := 13) rfl rfl rfl (Mo_k w) (Mo_r0 w) ?_
  refine z_bipush (q := 15) (v := 6) rfl rfl rfl ?_
  refine z_dup2 (q := 16) rfl rfl rfl rfl ?_
  refine z_iald (q := 17) rfl rfl (Mo_a0 w) (vp_in_nI (n := 6) (by omega) (by omega)) ?_
  rw [moF_a0]
  try rw [nI_clamp (by omega)]
  rw [show (lyA A D (nI (kmN (K D))) (nI (P1 D)) (nI (P2 D)) (nI (P3 D))) 1 (6 : Int32).toNatClampNeg = n from l6]
  refine z_iconst (q := 18) (v := 1) rfl rfl rfl ?_
  refine z_iadd (q := 19) rfl rfl ?_
  refine z_iast (q := 20) rfl rfl (Mo_a0 w) (vp_in_nI (n := 6) (by omega) (by omega)) ?_
  rw [moF_w0]
  try rw [nI_clamp (by omega)]
  rw [show va_up (lyA A D (nI (kmN (K D))) (nI (P1 D)) (nI (P2 D)) (nI (P3 D))) 1 (va_up ((lyA A D (nI (kmN (K D))) (nI (P1 D)) (nI (P2 D)) (nI (P3 D))) 1) (6 : Int32).toNatClampNeg (n + 1)) = (acA A D (nI (kmN (K D))) (nI (P1 D)) (nI (P2 D)) (nI (P3 D)) (n + 1)) from up_u]
  refine z_aload_n (q := 21) rfl rfl rfl ?_
  refine z_aload_n (q := 22) rfl rfl rfl ?_
  refine z_getR (q := 25) rfl rfl rfl (Mo_k w) (Mo_r0 w) ?_
  refine z_iconst (q := 26) (v := 1) rfl rfl rfl ?_
  refine z_iald (q := 27) rfl rfl (Mo_a0 w) (vp_in_nI (n := 1) (by omega) (by omega)) ?_
  rw [moF_a0]
  try rw [nI_clamp (by omega)]
  rw [show (acA A D (nI (kmN (K D))) (nI (P1 D)) (nI (P2 D)) (nI (P3 D)) (n + 1)) 1 (1 : Int32).toNatClampNeg = l from (lo 1 (by omega) (by omega) (by omega)).trans hl]
  refine z_aload_n (q := 28) rfl rfl rfl ?_
  refine z_getR (q := 31) rfl rfl rfl (Mo_k w) (Mo_r0 w) ?_
  refine z_iconst (q := 32) (v := 2) rfl rfl rfl ?_
  refine z_iald (q := 33) rfl rfl (Mo_a0 w) (vp_in_nI (n := 2) (by omega) (by omega)) ?_
  rw [moF_a0]
  try rw [nI_clamp (by omega)]
  rw [show (acA A D (nI (kmN (K D))) (nI (P1 D)) (nI (P2 D)) (nI (P3 D)) (n + 1)) 1 (2 : Int32).toNatClampNeg = t from (lo 2 (by omega) (by omega) (by omega)).trans ht]
  refine z_iconst (q := 34) (v := -1) rfl rfl rfl ?_
  refine z_cv3qv (q := 37) rfl rfl rfl (Mo_k w) (q_Mo_begins (c := c) (row := ownR c) w hC (fun i hi => by rw [if_pos rfl]; exact own_v (c := c) c i hC hi)) (fun M9 h9 => ?_)
  obtain ⟨FF, AA, q0, rfl, rb, gb⟩ := h9
  refine z_iconst (q := 38) (v := 0) rfl rfl rfl ?_
  refine z_istore (q := 40) (L2 := [_, _, _, _, _, _, _]) rfl rfl rfl rfl ?_
  refine z_iconst (q := 41) (v := 0) rfl rfl rfl ?_
  refine z_istore (q := 43) (L2 := [_, _, _, _, _, _, _]) rfl rfl rfl rfl ?_
  have kk := rb.2.2.2 1 (by omega)
  have e9 := l_Mo_acts (sc := sc) (sa := sa) (d := d) (z := z) (D := D + 1) (x1 := nI (kmN (K D))) (x2 := nI (P1 D)) (x3 := nI (P2 D)) (x4 := nI (P3 D)) (q0 := qS (F 17) (bgQ (ownR c) q0)) w hC hN ((congrFun kk 0).trans ((lo 0 (by omega) (by omega) (by omega)).trans hs)) rb.1 rb.2.1 ((congrFun kk 4).trans l4) (by omega) (fun i hi => by rw [kk]; exact ld i hi) (qI_bg (row := ownR c) (q := q0)) (qV_bg (q := q0) hC) h1N (hv _ _) (D + 1) 0 FF AA 0 (by omega) mFr_r gb (fun j hj => absurd hj (by omega))
  refine mz_wp_m (mz_Kd_m sc sa (d + 8)) ?_ e9
  intro r9 M9 ⟨x9, h1, h2, F2, A2, h3, h4, h5⟩
  refine ⟨x9, h1, F 17, q0, F2, A2, h2 D rfl, h3, fun k hk => (h4.1 k (by omega) (by omega)).trans (rb.2.2.1 k (by omega)), (h4.2 1 (by omega)).trans kk, fun j hj => (h4.2 j (by omega)).trans ((rb.2.2.2 j (by omega)).trans (up_n (by omega)))⟩
