/-- behind the last line -/
def oN (M : mz_M) (tp st : Nat) (sg : Nat → Int32) (y : oS) : mz_M := taP (stQ M st y.2.2.1.1 (nI y.2.2.1.2.1) y.2.2.1.2.2.1 (nI y.2.2.1.2.2.2) y.2.2.2.1.1 y.2.2.2.1.2.1 y.2.2.2.1.2.2.1 y.2.2.2.1.2.2.2.1 y.2.2.2.1.2.2.2.2.1 y.2.2.2.1.2.2.2.2.2 (nI y.2.2.2.2.1.1) y.2.2.2.2.1.2.1 y.2.2.2.2.1.2.2 y.2.2.2.2.2) tp sg y.1.1 (nI y.1.2.1) (nI y.1.2.2.1) y.1.2.2.2.1 0 y.2.1.1 y.2.1.2.1 y.2.1.2.2.1 y.2.1.2.2.2 y.1.2.2.2.2.1 y.1.2.2.2.2.2
def swM (M : mz_M) (x p r : Nat) : mz_M := mz_uR (mz_uR M x 5 (some p)) x 4 (some r)
theorem oM_u5 {M : mz_M} {tp st : Nat} (hf : tp + 1 < st) {sg : Nat → Int32} {T : Nat} {y : oS} : mz_uI (oM M tp st sg T y) tp 5 0 = oN M tp st sg y := by
  rw [oM_t hf]
  exact taP_u5
theorem oN_g10 {M : mz_M} {tp st : Nat} {sg : Nat → Int32} {y : oS} : (oN M tp st sg y).1 tp 10 = y.1.2.2.2.2.1 := taP_g10
theorem oN_8 {M : mz_M} {tp st : Nat} (hf : tp + 1 < st) {sg : Nat → Int32} {y : oS} : (oN M tp st sg y).1 st 8 = nI y.2.2.1.2.1 := by
  have e : (oN M tp st sg y).1 st = (stQ M st y.2.2.1.1 (nI y.2.2.1.2.1) y.2.2.1.2.2.1 (nI y.2.2.1.2.2.2) y.2.2.2.1.1 y.2.2.2.1.2.1 y.2.2.2.1.2.2.1 y.2.2.2.1.2.2.2.1 y.2.2.2.1.2.2.2.2.1 y.2.2.2.1.2.2.2.2.2 (nI y.2.2.2.2.1.1) y.2.2.2.2.1.2.1 y.2.2.2.2.1.2.2 y.2.2.2.2.2).1 st := taP_o (by omega) (by omega)
  rw [e]
  exact stQ_g8
/-- where a telling begins -/
def o0 (sg : Nat → Int32) (T : Nat) (e1 e4 e6 e7 e8 e9 : Int32) (pa ks os ts hs cs : Nat → Int32) (q : sQ) : oS := (tokS sg T ((e1, 0, 0, e4, 0, -1) : tS), (e6, e7, e8, e9), (0, 0, 0, 0), (zr 12 pa, ks, os, ts, hs, cs), (0, 0, 0), fgQ q)
theorem o0_V {sg : Nat → Int32} {T : Nat} {e1 e4 e6 e7 e8 e9 : Int32} {pa ks os ts hs cs : Nat → Int32} {q : sQ} : oV T (o0 sg T e1 e4 e6 e7 e8 e9 pa ks os ts hs cs q) := ⟨tokS_ok ⟨Nat.le_refl _, Nat.zero_le _⟩, ⟨0, by omega, rfl⟩, rfl, by show (0 : Nat) ≤ 30; omega, Or.inl ⟨rfl, rfl, rfl, rfl, rfl, rfl, rfl, fun i hi => if_pos hi⟩⟩
theorem t_X_begin {sc : Option (Nat × Nat × (Nat → Int32))} {sa : Nat → Nat} {d : Nat} {M : mz_M} {z : Nat × Nat} {x p r : Nat} (w : g_X M.2.2 x p r) {sg : Nat → Int32} {T : Nat} (hT : T ≤ 500) {e1 e2 e3 e4 e6 e7 e8 e9 e10 e11 : Int32} {pr ln td de : Int32} {pa ks os ts hs cs : Nat → Int32} {s l t : Int32} {q : sQ} : zx sc sa (d + 4) 83 [.ref (x + 1)] (stQ (taP M (x + 1) sg e1 e2 e3 e4 (nI T) e6 e7 e8 e9 e10 e11) r pr ln td de pa ks os ts hs cs s l t q) z z none (stQ (tq M (x + 1) sg T (tokS sg T ((e1, 0, 0, e4, 0, -1) : tS)) e6 e7 e8 e9) r pr ln td de pa ks os ts hs cs s l t q) := by
  have e := q_Ta_begin (sc := sc) (sa := sa) (d := d) (z := z) (M := stQ M r pr ln td de pa ks os ts hs cs s l t q) (tp := x + 1) (sg := sg) (t := T) (e1 := e1) (e2 := e2) (e3 := e3) (e4 := e4) (e6 := e6) (e7 := e7) (e8 := e8) (e9 := e9) (e10 := e10) (e11 := e11) (X_w0 w) hT
  rw [← ta_st (by have := X_pq w; omega)] at e
  refine Eq.mp ?_ e
  unfold tq
  rw [← ta_st (by have := X_pq w; omega)]
theorem l_X_storeT {sc : Option (Nat × Nat × (Nat → Int32))} {sa : Nat → Nat} {d : Nat} {M : mz_M} {z : Nat × Nat} {x p r : Nat} (w : g_X M.2.2 x p r) {sg : Nat → Int32} {T : Nat} {Y : oS} {v1 : Int32} : zw sc sa d ym_X_store z (fun r' M' => ∃ v, r' = some (.int v) ∧ (fun v M' => (¬ Y.1.2.2.2.2.1 = 0 → v = -4 ∧ M' = (oN M (x + 1) r sg Y)) ∧ (Y.1.2.2.2.2.1 = 0 → v = nI Y.2.2.1.2.1 ∧ M' = swM (oN M (x + 1) r sg Y) x p r)) v M') 78 [.ref x, .int v1] [] (oM M (x + 1) r sg T Y) z := by
  have oMx_u5 : mz_uI (oM M (x + 1) r sg T Y) (x + 1) 5 0 = oN M (x + 1) r sg Y := oM_u5 (by have := X_pq w; omega)
  have oMx_g10 : (oN M (x + 1) r sg Y).1 (x + 1) 10 = Y.1.2.2.2.2.1 := oN_g10
  refine z_aload_n (q := 79) rfl rfl rfl ?_
  refine z_getR (q := 82) rfl rfl rfl (X_k w) (X_r0 w) ?_
  refine z_iconst (q := 83) (v := 0) rfl rfl rfl ?_
  refine z_putI (q := 86) rfl rfl rfl (by decide) rfl rfl (Ta_k (X_w0 w)) ?_
  rw [oMx_u5]
  refine z_aload_n (q := 87) rfl rfl rfl ?_
  refine z_getR (q := 90) rfl rfl rfl (X_k w) (X_r0 w) ?_
  refine z_getI (q := 93) rfl rfl rfl (Ta_k (X_w0 w)) ?_
  rw [oMx_g10]
  refine z_if_eq (q := 96) rfl rfl (fun h93 => ?_) (fun h93 => ?_)
  · refine z_aload_n (q := 100) rfl rfl rfl ?_
    refine z_getR (q := 103) rfl rfl rfl (X_k w) (X_r5 w) ?_
    refine z_astore_n (q := 104) (L2 := [_, _]) rfl rfl rfl rfl ?_
    refine z_aload_n (q := 105) rfl rfl rfl ?_
    refine z_aload_n (q := 106) rfl rfl rfl ?_
    refine z_getR (q := 109) rfl rfl rfl (X_k w) (X_r4 w) ?_
    refine z_putR (q := 112) rfl rfl rfl (by decide) (X_k w) ?_
    refine z_aload_n (q := 113) rfl rfl rfl ?_
    refine z_aload_n (q := 114) rfl rfl rfl ?_
    refine z_putR (q := 117) rfl rfl rfl (by decide) (X_k (M := M) w) ?_
    refine z_aload_n (q := 118) rfl rfl rfl ?_
    refine z_getR (b := r) (q := 121) rfl rfl rfl (X_k (M := M) w) (by show va_up _ x (va_up _ 4 (some r)) x 4 = some r; rw [up_s, up_s]) ?_
    refine z_getI (q := 124) rfl rfl rfl (St_k (M := M) (X_w5 (M := M) w)) ?_
    refine z_ireti rfl rfl ?_
    refine ⟨_, rfl, fun h => absurd h93 h, fun _ => ⟨?_, rfl⟩⟩
    show (oN M (x + 1) r sg Y).1 r 8 = _
    exact oN_8 (by have := X_pq w; omega)
  · refine z_bipush (q := 98) (v := -4) rfl rfl rfl ?_
    refine z_ireti rfl rfl ?_
    exact ⟨_, rfl, fun _ => ⟨rfl, rfl⟩, fun h => absurd h h93⟩
theorem q_X_store {sc : Option (Nat × Nat × (Nat → Int32))} {sa : Nat → Nat} {d : Nat} {M : mz_M} {z : Nat × Nat} {x p r : Nat} (w : g_X M.2.2 x p r) {sg : Nat → Int32} {T : Nat} (hT : T ≤ 500) {e1 e2 e3 e4 e6 e7 e8 e9 e10 e11 : Int32} {pr ln td de : Int32} {pa ks os ts hs cs : Nat → Int32} {s l t : Int32} {q : sQ}  : zi sc sa (d + 10) 106 [.ref x] (stQ (taP M (x + 1) sg e1 e2 e3 e4 (nI T) e6 e7 e8 e9 e10 e11) r pr ln td de pa ks os ts hs cs s l t q) z (fun v M' => (¬ (oF sg T 500 (o0 sg T e1 e4 e6 e7 e8 e9 pa ks os ts hs cs q)).1.2.2.2.2.1 = 0 → v = -4 ∧ M' = (oN M (x + 1) r sg (oF sg T 500 (o0 sg T e1 e4 e6 e7 e8 e9 pa ks os ts hs cs q)))) ∧ ((oF sg T 500 (o0 sg T e1 e4 e6 e7 e8 e9 pa ks os ts hs cs q)).1.2.2.2.2.1 = 0 → v = nI (oF sg T 500 (o0 sg T e1 e4 e6 e7 e8 e9 pa ks os ts hs cs q)).2.2.1.2.1 ∧ M' = swM (oN M (x + 1) r sg (oF sg T 500 (o0 sg T e1 e4 e6 e7 e8 e9 pa ks os ts hs cs q))) x p r)) := by
  refine zin ym_X_store [.ref x, .retAddr 0] rfl rfl rfl rfl ?_
  refine z_aload_n (q := 1) rfl rfl rfl ?_
  refine z_getR (q := 4) rfl rfl rfl (X_k w) (X_r0 w) ?_
  refine z_cv0v (q := 7) rfl rfl rfl (Ta_k (X_w0 w)) (t_X_begin w hT) ?_
  refine z_aload_n (q := 8) rfl rfl rfl ?_
  refine z_getR (q := 11) rfl rfl rfl (X_k w) (X_r5 w) ?_
  refine z_cv0v (q := 14) rfl rfl rfl (St_k (X_w5 w)) (q_St_forget (M := tq M (x + 1) sg T (tokS sg T ((e1, 0, 0, e4, 0, -1) : tS)) e6 e7 e8 e9) (X_w5 w)) ?_
  refine z_iconst (q := 15) (v := 0) rfl rfl rfl ?_
  refine z_istore_n (q := 16) (L2 := [_, _]) rfl rfl rfl rfl ?_
  exact l_X_store w hT (fun i => l_X_storeT w) 500 0 (o0 sg T e1 e4 e6 e7 e8 e9 pa ks os ts hs cs q) rfl o0_V rfl rfl
