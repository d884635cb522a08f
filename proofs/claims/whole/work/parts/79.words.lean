-- the reader's state
abbrev rS : Type := Int32 × Nat × Nat × Int32 × Int32 × Int32 × Int32
def rq (M : mz_M) (m : Nat) (F : Nat → Int32) (A : Nat → Nat → Int32) (e : rS) : mz_M := reP M m F A e.2.2.1 e.2.1 e.1 e.2.2.2.1 e.2.2.2.2.1 e.2.2.2.2.2.1 e.2.2.2.2.2.2
def okr (t : Nat) (e : rS) : Prop := e.2.1 ≤ e.2.2.1 ∧ e.2.2.1 ≤ t
def rN (sg : Nat → Int32) (t : Nat) (e : rS) : rS := ((nxR sg t e.2.2.1).1, (nxR sg t e.2.2.1).2.1, (nxR sg t e.2.2.1).2.2.1, (nxR sg t e.2.2.1).2.2.2, e.2.2.2.2.1, e.2.2.2.2.2.1, e.2.2.2.2.2.2)
def rFa (e : rS) (k : Int32) : rS := if e.2.2.2.2.1 = 0 then (e.1, e.2.1, e.2.2.1, e.2.2.2.1, 1, k, nI e.2.1) else e
def wR (sg : Nat → Int32) (t : Nat) (e : rS) (i : Nat) : Bool := decide (e.1 = 1 ∧ e.2.2.1 - e.2.1 = mw_len10.getD i 0 ∧ wr sg t e.2.1 i (mw_len10.getD i 0) 0 = true)
def rPa (sg : Nat → Int32) (t : Nat) (e : rS) (x : Int32) : rS := if x = 0 then rFa e 1 else if e.2.2.2.2.1 = 0 then rN sg t e else e
def rNu (sg : Nat → Int32) (t : Nat) (e : rS) (lo up : Int32) : Int32 × rS := if e.2.2.2.2.1 = 0 then (e.2.2.2.1, if e.1 = 2 then (if lo ≤ e.2.2.2.1 ∧ e.2.2.2.1 ≤ up then rN sg t e else rFa e 2) else rFa e 1) else (lo, e)
def rNe (e : rS) (x : Int32) : rS := if e.2.2.2.2.1 = 0 ∧ e.1 = 2 ∧ x = 0 then rFa e 2 else e
def rNm (sg : Nat → Int32) (t : Nat) (e : rS) (i : Nat) (lo up : Int32) : Int32 × rS := rNu sg t (rPa sg t e (bz (¬ e.2.2.2.2.1 = 0 ∨ wR sg t e i = true))) lo up
theorem dgR_le {sg : Nat → Int32} {t : Nat} : ∀ k i v, i ≤ (dgR sg t k i v).1 ∧ (dgR sg t k i v).1 ≤ i + k := by
  intro k
  induction k with
  | zero => intro i v; exact ⟨Nat.le_refl _, Nat.le_refl _⟩
  | succ k ih =>
    intro i v
    rw [dgR_s]
    by_cases h : diB (bt sg t i) = true
    · rw [if_pos h]
      have h2 := ih (i + 1) (if 10 * v + bt sg t i - 48 < 99999 then 10 * v + bt sg t i - 48 else 99999)
      omega
    · rw [if_neg h]
      show i ≤ i ∧ i ≤ i + (k + 1)
      omega
theorem rN_ok {sg : Nat → Int32} {t : Nat} {e : rS} (h : okr t e) : okr t (rN sg t e) := by
  obtain ⟨h1, h2⟩ := h
  have e1 := @sk_le blB sg t (t - e.2.2.1) e.2.2.1
  generalize hm : sk blB sg t (t - e.2.2.1) e.2.2.1 = m at e1
  have e2 := @sk_le leB sg t (t - m) m
  have e3 := @dgR_le sg t (t - m) m 0
  unfold okr rN nxR
  dsimp only
  rw [hm]
  by_cases c1 : bt sg t m = -1
  · rw [if_pos c1]
    dsimp only
    omega
  · rw [if_neg c1]
    have c9 : m < t := Decidable.byContradiction (fun c => c1 (bt_m1.mpr c))
    by_cases c2 : leB (bt sg t m) = true
    · rw [if_pos c2]
      dsimp only
      omega
    · rw [if_neg c2]
      by_cases c3 : diB (bt sg t m) = true
      · rw [if_pos c3]
        dsimp only
        omega
      · rw [if_neg c3]
        dsimp only
        omega
theorem rFa_ok {t : Nat} {e : rS} {k : Int32} (h : okr t e) : okr t (rFa e k) := by
  unfold rFa
  by_cases c : e.2.2.2.2.1 = 0
  · rw [if_pos c]; exact h
  · rw [if_neg c]; exact h
theorem rFa_n {e : rS} {k : Int32} : ¬ (rFa e k).2.2.2.2.1 = 0 := by
  unfold rFa
  by_cases c : e.2.2.2.2.1 = 0
  · rw [if_pos c]
    show ¬ (1 : Int32) = 0
    decide
  · rw [if_neg c]; exact c
theorem rPa_ok {sg : Nat → Int32} {t : Nat} {e : rS} {x : Int32} (h : okr t e) : okr t (rPa sg t e x) := by
  unfold rPa
  by_cases c : x = 0
  · rw [if_pos c]; exact rFa_ok h
  · rw [if_neg c]
    by_cases c2 : e.2.2.2.2.1 = 0
    · rw [if_pos c2]; exact rN_ok h
    · rw [if_neg c2]; exact h
theorem rNe_ok {t : Nat} {e : rS} {x : Int32} (h : okr t e) : okr t (rNe e x) := by
  unfold rNe
  by_cases c : e.2.2.2.2.1 = 0 ∧ e.1 = 2 ∧ x = 0
  · rw [if_pos c]; exact rFa_ok h
  · rw [if_neg c]; exact h
theorem rNu_ok {sg : Nat → Int32} {t : Nat} {e : rS} {lo up : Int32} (h : okr t e) : okr t (rNu sg t e lo up).2 := by
  unfold rNu
  by_cases c : e.2.2.2.2.1 = 0
  · rw [if_pos c]
    dsimp only
    by_cases c2 : e.1 = 2
    · rw [if_pos c2]
      by_cases c3 : lo ≤ e.2.2.2.1 ∧ e.2.2.2.1 ≤ up
      · rw [if_pos c3]; exact rN_ok h
      · rw [if_neg c3]; exact rFa_ok h
    · rw [if_neg c2]; exact rFa_ok h
  · rw [if_neg c]; exact h
theorem rNm_ok {sg : Nat → Int32} {t : Nat} {e : rS} {i : Nat} {lo up : Int32} (h : okr t e) : okr t (rNm sg t e i lo up).2 := rNu_ok (rPa_ok h)
section
variable {M : mz_M} {m : Nat} {F : Nat → Int32} {A : Nat → Nat → Int32} {e : rS}
theorem rq_g19 : (rq M m F A e).1 m 19 = nI e.2.2.1 := reP_g19
theorem rq_g20 : (rq M m F A e).1 m 20 = nI e.2.1 := reP_g20
theorem rq_g21 : (rq M m F A e).1 m 21 = e.1 := reP_g21
theorem rq_g22 : (rq M m F A e).1 m 22 = e.2.2.2.1 := reP_g22
theorem rq_g23 : (rq M m F A e).1 m 23 = e.2.2.2.2.1 := reP_g23
theorem rq_g24 : (rq M m F A e).1 m 24 = e.2.2.2.2.2.1 := reP_g24
theorem rq_g25 : (rq M m F A e).1 m 25 = e.2.2.2.2.2.2 := reP_g25
theorem rq_g3 : (rq M m F A e).1 m 3 = F 3 := reP_g3
theorem rq_a0 : (rq M m F A e).1 (m + 1) = A 1 := reP_a0
theorem rq_a2 : (rq M m F A e).1 (m + 3) = A 3 := reP_a2
theorem rq_w0 {k : Nat} {x : Int32} : mz_uI (rq M m F A e) (m + 1) k x = (rq M m F (va_up A 1 (va_up (A 1) k x)) e) := reP_w0
end
theorem t_Mo_next {sc : Option (Nat × Nat × (Nat → Int32))} {sa : Nat → Nat} {d : Nat} {M : mz_M} {z : Nat × Nat} {m : Nat} (w : g_Mo M.2.2 m) {F : Nat → Int32} {A : Nat → Nat → Int32} {sg : Nat → Int32} {t : Nat} (ht : t ≤ 500) (h3 : F 3 = nI t) (hA : ∀ i, i < t → A 3 i = bt sg t i) {e : rS} (hk : okr t e)  : zx sc sa (d + 3) 201 [.ref m] (rq M m F A e) z z none (rq M m F A (rN sg t e)) := q_Mo_next w ht h3 hA rfl hk.2
theorem q_Mo_faults {sc : Option (Nat × Nat × (Nat → Int32))} {sa : Nat → Nat} {d : Nat} {M : mz_M} {z : Nat × Nat} {m : Nat} (w : g_Mo M.2.2 m) {F : Nat → Int32} {A : Nat → Nat → Int32} {f21 f22 f23 f24 f25 : Int32} {i p : Nat} {k : Int32} : zx sc sa (d + 1) 202 [.ref m, .int k] (reP M m F A i p f21 f22 f23 f24 f25) z z none (if f23 = 0 then (reP M m F A i p f21 f22 1 k (nI p)) else (reP M m F A i p f21 f22 f23 f24 f25)) := by
  refine zxin ym_Mo_faults [.ref m, .int k] rfl rfl rfl rfl ?_
  refine z_aload_n (q := 1) rfl rfl rfl ?_
  refine z_getI (q := 4) rfl rfl rfl (Mo_k w) ?_
  rw [reP_g23]
  refine z_if_ne (q := 7) rfl rfl (fun h4 => ?_) (fun h4 => ?_)
  · refine z_ret rfl rfl ?_
    first
      | (rw [if_pos h4]; exact ⟨rfl, rfl⟩)
      | (rw [if_neg h4]; exact ⟨rfl, rfl⟩)
      | fail "none"
  · refine z_aload_n (q := 8) rfl rfl rfl ?_
    refine z_iconst (q := 9) (v := 1) rfl rfl rfl ?_
    refine z_putI (q := 12) rfl rfl rfl (by decide) rfl rfl (Mo_k w) ?_
    rw [reP_u23]
    refine z_aload_n (q := 13) rfl rfl rfl ?_
    refine z_iload_n (q := 14) rfl rfl rfl ?_
    refine z_putI (q := 17) rfl rfl rfl (by decide) rfl rfl (Mo_k w) ?_
    rw [reP_u24]
    refine z_aload_n (q := 18) rfl rfl rfl ?_
    refine z_aload_n (q := 19) rfl rfl rfl ?_
    refine z_getI (q := 22) rfl rfl rfl (Mo_k w) ?_
    rw [reP_g20]
    refine z_putI (q := 25) rfl rfl rfl (by decide) rfl rfl (Mo_k w) ?_
    rw [reP_u25]
    refine z_ret rfl rfl ?_
    first
      | (rw [if_pos h4]; exact ⟨rfl, rfl⟩)
      | (rw [if_neg h4]; exact ⟨rfl, rfl⟩)
      | fail "none"
theorem t_Mo_faults {sc : Option (Nat × Nat × (Nat → Int32))} {sa : Nat → Nat} {d : Nat} {M : mz_M} {z : Nat × Nat} {m : Nat} (w : g_Mo M.2.2 m) {F : Nat → Int32} {A : Nat → Nat → Int32} {e : rS} {k : Int32} : zx sc sa (d + 1) 202 [.ref m, .int k] (rq M m F A e) z z none (rq M m F A (rFa e k)) := by
  have e2 := @q_Mo_faults sc sa d M z m w F A e.1 e.2.2.2.1 e.2.2.2.2.1 e.2.2.2.2.2.1 e.2.2.2.2.2.2 e.2.2.1 e.2.1 k
  unfold rFa
  by_cases c : e.2.2.2.2.1 = 0
  · rw [if_pos c]
    rw [if_pos c] at e2
    exact e2
  · rw [if_neg c]
    rw [if_neg c] at e2
    exact e2
theorem len5 {i : Nat} (hi : i < 10) : mw_len10.getD i 0 ≤ 5 := by
  have h9 : ∀ i, i < 10 → mw_len10.getD i 0 ≤ 5 := by decide
  exact h9 i hi
theorem l_Mo_isWord0 {sc : Option (Nat × Nat × (Nat → Int32))} {sa : Nat → Nat} {d : Nat} {M : mz_M} {z : Nat × Nat} {m : Nat} (w : g_Mo M.2.2 m) {F : Nat → Int32} {A : Nat → Nat → Int32} {e : rS} {i j : Nat} (hj : j ≤ 100) (hi : i < 10) (hlen : mw_len10.getD i 0 ≤ 5) : zw sc sa (d + 4) ym_Mo_isWord z (fun r' M' => r' = some (.int 0) ∧ M' = (rq M m F A e)) 32 [.ref m, .ref (sa i), .int 0, .int (nI j)] [] (rq M m F A e) z := by
  refine z_iload_n (q := 33) rfl rfl rfl ?_
  refine z_aload_n (q := 34) rfl rfl rfl ?_
  refine z_slen (q := 37) rfl rfl rfl hi ?_
  refine z_ic_ge (q := 40) rfl rfl (fun h37 => ?_) (fun h37 => ?_)
  · refine z_iload_n (q := 76) rfl rfl rfl ?_
    refine z_iretz rfl rfl (rfl) ?_
    exact ⟨rfl, rfl⟩
  · refine z_iload_n (q := 41) rfl rfl rfl ?_
    refine z_if_eq (q := 44) rfl rfl (fun h41 => ?_) (fun h41 => ?_)
    · refine z_iload_n (q := 76) rfl rfl rfl ?_
      refine z_iretz rfl rfl (rfl) ?_
      exact ⟨rfl, rfl⟩
    · exact absurd h41 (by decide)
theorem l_Mo_isWord {sc : Option (Nat × Nat × (Nat → Int32))} {sa : Nat → Nat} {d : Nat} {M : mz_M} {z : Nat × Nat} {m : Nat} (w : g_Mo M.2.2 m) {F : Nat → Int32} {A : Nat → Nat → Int32} {sg : Nat → Int32} {t : Nat} (ht : t ≤ 500) (h3 : F 3 = nI t) (hA : ∀ i, i < t → A 3 i = bt sg t i) {e : rS} (hk : okr t e) {i : Nat} (hi : i < 10) (hn : e.2.2.1 - e.2.1 = mw_len10.getD i 0) {r : Int32} : ∀ (k : Nat) (j : Nat), j + k = mw_len10.getD i 0 → bz (wr sg t e.2.1 i k j = true) = r → zw sc sa (d + 4) ym_Mo_isWord z (fun r' M' => r' = some (.int r) ∧ M' = (rq M m F A e)) 32 [.ref m, .ref (sa i), .int 1, .int (nI j)] [] (rq M m F A e) z := by
  intro k
  induction k with
  | zero =>
    intro j hj hr
    obtain ⟨hk1, hk2⟩ := hk
    have e1 : j = mw_len10.getD i 0 := by omega
    refine z_iload_n (q := 33) rfl rfl rfl ?_
    refine z_aload_n (q := 34) rfl rfl rfl ?_
    refine z_slen (q := 37) rfl rfl rfl hi ?_
    refine z_ic_ge (q := 40) rfl rfl (fun h37 => ?_) (fun h37 => ?_)
    · refine z_iload_n (q := 76) rfl rfl rfl ?_
      refine z_iretz rfl rfl (rfl) ?_
      subst hr
      exact ⟨rfl, rfl⟩
    · exact absurd (nI_le (by omega) (by omega)) h37
  | succ k ih =>
    intro j hj hr
    obtain ⟨hk1, hk2⟩ := hk
    refine z_iload_n (q := 33) rfl rfl rfl ?_
    refine z_aload_n (q := 34) rfl rfl rfl ?_
    refine z_slen (q := 37) rfl rfl rfl hi ?_
    refine z_ic_ge (q := 40) rfl rfl (fun h37 => ?_) (fun h37 => ?_)
    · exact absurd h37 (nI_ge (by omega) (by omega))
    · refine z_iload_n (q := 41) rfl rfl rfl ?_
      refine z_if_eq (q := 44) rfl rfl (fun h41 => ?_) (fun h41 => ?_)
      · exact absurd h41 (by decide)
      · refine z_aload_n (q := 45) rfl rfl rfl ?_
        refine z_getR (q := 48) rfl rfl rfl (Mo_k w) (Mo_r2 w) ?_
        refine z_aload_n (q := 49) rfl rfl rfl ?_
        refine z_getI (q := 52) rfl rfl rfl (Mo_k w) ?_
        rw [rq_g20]
        refine z_iload_n (q := 53) rfl rfl rfl ?_
        refine z_iadd (q := 54) rfl rfl ?_
        rw [nI_add]
        refine z_iald (q := 55) rfl rfl (Mo_a2 w) (by first | assumption | exact vp_in_nI (by omega) (by omega)) ?_
        rw [rq_a2]
        try rw [nI_clamp (by omega)]
        rw [hA (e.2.1 + j) (by omega)]
        refine z_aload_n (q := 56) rfl rfl rfl ?_
        refine z_iload_n (q := 57) rfl rfl rfl ?_
        refine z_char (q := 60) rfl rfl rfl hi (by omega) ?_
        refine z_ic_ne (q := 63) rfl rfl (fun h60 => ?_) (fun h60 => ?_)
        · refine z_iconst (q := 68) (v := 0) rfl rfl rfl ?_
          refine z_istore_n (q := 69) (L2 := [_, _, _, _]) rfl rfl rfl rfl ?_
          refine z_iinc (q := 72) (L2 := [_, _, _, _]) rfl rfl rfl rfl ?_
          refine z_goto rfl ?_
          first
            | (have h61 : bt sg t (e.2.1 + j) = (mw_byt.getD i []).getD j 0 := h60
               rw [show nI j + Int32.ofInt 1 = nI (j + 1) from (nI_succ j).symm]
               rw [wr_s, if_pos h61] at hr
               exact ih (j + 1) (by omega) hr)
            | (have e0 : r = 0 := by rw [← hr, wr_s, if_neg h60]; rfl
               rw [e0]
               rw [show nI j + Int32.ofInt 1 = nI (j + 1) from (nI_succ j).symm]
               exact l_Mo_isWord0 w (by have h77 := len5 hi; omega) hi (len5 hi))
            | fail "none"
        · refine z_iconst (q := 64) (v := 1) rfl rfl rfl ?_
          refine z_goto rfl ?_
          refine z_istore_n (q := 69) (L2 := [_, _, _, _]) rfl rfl rfl rfl ?_
          refine z_iinc (q := 72) (L2 := [_, _, _, _]) rfl rfl rfl rfl ?_
          refine z_goto rfl ?_
          first
            | (have h61 : bt sg t (e.2.1 + j) = (mw_byt.getD i []).getD j 0 := h60
               rw [show nI j + Int32.ofInt 1 = nI (j + 1) from (nI_succ j).symm]
               rw [wr_s, if_pos h61] at hr
               exact ih (j + 1) (by omega) hr)
            | (have e0 : r = 0 := by rw [← hr, wr_s, if_neg h60]; rfl
               rw [e0]
               rw [show nI j + Int32.ofInt 1 = nI (j + 1) from (nI_succ j).symm]
               exact l_Mo_isWord0 w (by have h77 := len5 hi; omega) hi (len5 hi))
            | fail "none"
theorem t_Mo_isWord {sc : Option (Nat × Nat × (Nat → Int32))} {sa : Nat → Nat} {d : Nat} {M : mz_M} {z : Nat × Nat} {m : Nat} (w : g_Mo M.2.2 m) {F : Nat → Int32} {A : Nat → Nat → Int32} {sg : Nat → Int32} {t : Nat} (ht : t ≤ 500) (h3 : F 3 = nI t) (hA : ∀ i, i < t → A 3 i = bt sg t i) {e : rS} (hk : okr t e) {i : Nat} (hi : i < 10) : zx sc sa (d + 5) 203 [.ref m, .ref (sa i)] (rq M m F A e) z z (some (.int (bz (wR sg t e i = true)))) (rq M m F A e) := by
  have hk3 := hk
  obtain ⟨hk1, hk2⟩ := hk3
  have hlen := len5 hi
  refine zxin ym_Mo_isWord [.ref m, .ref (sa i), .retAddr 0, .retAddr 0] rfl rfl rfl rfl ?_
  refine z_aload_n (q := 1) rfl rfl rfl ?_
  refine z_getI (q := 4) rfl rfl rfl (Mo_k w) ?_
  rw [rq_g21]
  refine z_iconst (q := 5) (v := 1) rfl rfl rfl ?_
  refine z_ic_ne (q := 8) rfl rfl (fun h5 => ?_) (fun h5 => ?_)
  · refine z_iconst (q := 29) (v := 0) rfl rfl rfl ?_
    refine z_istore_n (q := 30) (L2 := [_, _, _, _]) rfl rfl rfl rfl ?_
    refine z_iconst (q := 31) (v := 0) rfl rfl rfl ?_
    refine z_istore_n (q := 32) (L2 := [_, _, _, _]) rfl rfl rfl rfl ?_
    first
      | (have h22 := (nI_eq (by omega) (by omega)).mp h21
         have h99 : e.1 = 1 := h5
         refine l_Mo_isWord w ht h3 hA hk hi h22 (mw_len10.getD i 0) 0 (by omega) ?_
         unfold bz wR
         simp only [h99, h22, decide_eq_true_eq, true_and])
      | (rw [nI_eq (by omega) (by omega)] at h21
         rw [show bz (wR sg t e i = true) = 0 from bz_f (fun h => h21 (of_decide_eq_true h).2.1)]
         exact l_Mo_isWord0 (j := 0) w (by omega) hi hlen)
      | (rw [show bz (wR sg t e i = true) = 0 from bz_f (fun h => h5 (of_decide_eq_true h).1)]
         exact l_Mo_isWord0 (j := 0) w (by omega) hi hlen)
      | fail "none"
  · refine z_aload_n (q := 9) rfl rfl rfl ?_
    refine z_getI (q := 12) rfl rfl rfl (Mo_k w) ?_
    rw [rq_g19]
    refine z_aload_n (q := 13) rfl rfl rfl ?_
    refine z_getI (q := 16) rfl rfl rfl (Mo_k w) ?_
    rw [rq_g20]
    refine z_isub (q := 17) rfl rfl ?_
    rw [nI_sub' hk1]
    refine z_aload_n (q := 18) rfl rfl rfl ?_
    refine z_slen (q := 21) rfl rfl rfl hi ?_
    refine z_ic_ne (q := 24) rfl rfl (fun h21 => ?_) (fun h21 => ?_)
    · refine z_iconst (q := 29) (v := 0) rfl rfl rfl ?_
      refine z_istore_n (q := 30) (L2 := [_, _, _, _]) rfl rfl rfl rfl ?_
      refine z_iconst (q := 31) (v := 0) rfl rfl rfl ?_
      refine z_istore_n (q := 32) (L2 := [_, _, _, _]) rfl rfl rfl rfl ?_
      first
        | (have h22 := (nI_eq (by omega) (by omega)).mp h21
           have h99 : e.1 = 1 := h5
           refine l_Mo_isWord w ht h3 hA hk hi h22 (mw_len10.getD i 0) 0 (by omega) ?_
           unfold bz wR
           simp only [h99, h22, decide_eq_true_eq, true_and])
        | (rw [nI_eq (by omega) (by omega)] at h21
           rw [show bz (wR sg t e i = true) = 0 from bz_f (fun h => h21 (of_decide_eq_true h).2.1)]
           exact l_Mo_isWord0 (j := 0) w (by omega) hi hlen)
        | (rw [show bz (wR sg t e i = true) = 0 from bz_f (fun h => h5 (of_decide_eq_true h).1)]
           exact l_Mo_isWord0 (j := 0) w (by omega) hi hlen)
        | fail "none"
    · refine z_iconst (q := 25) (v := 1) rfl rfl rfl ?_
      refine z_goto rfl ?_
      refine z_istore_n (q := 30) (L2 := [_, _, _, _]) rfl rfl rfl rfl ?_
      refine z_iconst (q := 31) (v := 0) rfl rfl rfl ?_
      refine z_istore_n (q := 32) (L2 := [_, _, _, _]) rfl rfl rfl rfl ?_
      first
        | (have h22 := (nI_eq (by omega) (by omega)).mp h21
           have h99 : e.1 = 1 := h5
           refine l_Mo_isWord w ht h3 hA hk hi h22 (mw_len10.getD i 0) 0 (by omega) ?_
           unfold bz wR
           simp only [h99, h22, decide_eq_true_eq, true_and])
        | (rw [nI_eq (by omega) (by omega)] at h21
           rw [show bz (wR sg t e i = true) = 0 from bz_f (fun h => h21 (of_decide_eq_true h).2.1)]
           exact l_Mo_isWord0 (j := 0) w (by omega) hi hlen)
        | (rw [show bz (wR sg t e i = true) = 0 from bz_f (fun h => h5 (of_decide_eq_true h).1)]
           exact l_Mo_isWord0 (j := 0) w (by omega) hi hlen)
        | fail "none"
theorem t_Mo_passes {sc : Option (Nat × Nat × (Nat → Int32))} {sa : Nat → Nat} {d : Nat} {M : mz_M} {z : Nat × Nat} {m : Nat} (w : g_Mo M.2.2 m) {F : Nat → Int32} {A : Nat → Nat → Int32} {sg : Nat → Int32} {t : Nat} (ht : t ≤ 500) (h3 : F 3 = nI t) (hA : ∀ i, i < t → A 3 i = bt sg t i) {e : rS} (hk : okr t e) {x : Int32} : zx sc sa (d + 4) 204 [.ref m, .int x] (rq M m F A e) z z none (rq M m F A (rPa sg t e x)) := by
  refine zxin ym_Mo_passes [.ref m, .int x] rfl rfl rfl rfl ?_
  refine z_iload_n (q := 1) rfl rfl rfl ?_
  refine z_if_ne (q := 4) rfl rfl (fun h1 => ?_) (fun h1 => ?_)
  · refine z_aload_n (q := 10) rfl rfl rfl ?_
    refine z_getI (q := 13) rfl rfl rfl (Mo_k w) ?_
    rw [rq_g23]
    refine z_if_ne (q := 16) rfl rfl (fun h13 => ?_) (fun h13 => ?_)
    · refine z_ret rfl rfl ?_
      unfold rPa
      first
        | (rw [if_neg h1, if_pos h13]; exact ⟨rfl, rfl⟩)
        | (rw [if_neg h1, if_neg h13]; exact ⟨rfl, rfl⟩)
        | (rw [if_pos h1]; exact ⟨rfl, rfl⟩)
        | exact absurd h13 rFa_n
        | fail "none"
    · refine z_aload_n (q := 17) rfl rfl rfl ?_
      refine z_cv0v (q := 20) rfl rfl rfl (Mo_k w) (t_Mo_next w ht h3 hA (by first | exact hk | exact rFa_ok hk | fail "none")) ?_
      refine z_ret rfl rfl ?_
      unfold rPa
      first
        | (rw [if_neg h1, if_pos h13]; exact ⟨rfl, rfl⟩)
        | (rw [if_neg h1, if_neg h13]; exact ⟨rfl, rfl⟩)
        | (rw [if_pos h1]; exact ⟨rfl, rfl⟩)
        | exact absurd h13 rFa_n
        | fail "none"
  · refine z_aload_n (q := 5) rfl rfl rfl ?_
    refine z_iconst (q := 6) (v := 1) rfl rfl rfl ?_
    refine z_cv1v (q := 9) rfl rfl rfl (Mo_k w) (t_Mo_faults w) ?_
    refine z_aload_n (q := 10) rfl rfl rfl ?_
    refine z_getI (q := 13) rfl rfl rfl (Mo_k w) ?_
    rw [rq_g23]
    refine z_if_ne (q := 16) rfl rfl (fun h13 => ?_) (fun h13 => ?_)
    · refine z_ret rfl rfl ?_
      unfold rPa
      first
        | (rw [if_neg h1, if_pos h13]; exact ⟨rfl, rfl⟩)
        | (rw [if_neg h1, if_neg h13]; exact ⟨rfl, rfl⟩)
        | (rw [if_pos h1]; exact ⟨rfl, rfl⟩)
        | exact absurd h13 rFa_n
        | fail "none"
    · refine z_aload_n (q := 17) rfl rfl rfl ?_
      refine z_cv0v (q := 20) rfl rfl rfl (Mo_k w) (t_Mo_next w ht h3 hA (by first | exact hk | exact rFa_ok hk | fail "none")) ?_
      refine z_ret rfl rfl ?_
      unfold rPa
      first
        | (rw [if_neg h1, if_pos h13]; exact ⟨rfl, rfl⟩)
        | (rw [if_neg h1, if_neg h13]; exact ⟨rfl, rfl⟩)
        | (rw [if_pos h1]; exact ⟨rfl, rfl⟩)
        | exact absurd h13 rFa_n
        | fail "none"
theorem t_Mo_number {sc : Option (Nat × Nat × (Nat → Int32))} {sa : Nat → Nat} {d : Nat} {M : mz_M} {z : Nat × Nat} {m : Nat} (w : g_Mo M.2.2 m) {F : Nat → Int32} {A : Nat → Nat → Int32} {sg : Nat → Int32} {t : Nat} (ht : t ≤ 500) (h3 : F 3 = nI t) (hA : ∀ i, i < t → A 3 i = bt sg t i) {e : rS} (hk : okr t e) {lo up : Int32} : zx sc sa (d + 5) 205 [.ref m, .int lo, .int up] (rq M m F A e) z z (some (.int (rNu sg t e lo up).1)) (rq M m F A (rNu sg t e lo up).2) := by
  refine zxin ym_Mo_number [.ref m, .int lo, .int up, .retAddr 0] rfl rfl rfl rfl ?_
  refine z_aload_n (q := 1) rfl rfl rfl ?_
  refine z_getI (q := 4) rfl rfl rfl (Mo_k w) ?_
  rw [rq_g22]
  refine z_istore_n (q := 5) (L2 := [_, _, _, _]) rfl rfl rfl rfl ?_
  refine z_aload_n (q := 6) rfl rfl rfl ?_
  refine z_getI (q := 9) rfl rfl rfl (Mo_k w) ?_
  rw [rq_g23]
  refine z_if_eq (q := 12) rfl rfl (fun h9 => ?_) (fun h9 => ?_)
  · refine z_aload_n (q := 15) rfl rfl rfl ?_
    refine z_getI (q := 18) rfl rfl rfl (Mo_k w) ?_
    rw [rq_g21]
    refine z_iconst (q := 19) (v := 2) rfl rfl rfl ?_
    refine z_ic_eq (q := 22) rfl rfl (fun h19 => ?_) (fun h19 => ?_)
    · refine z_iload_n (q := 31) rfl rfl rfl ?_
      refine z_i2l (q := 32) rfl rfl ?_
      refine z_iload_n (q := 33) rfl rfl rfl ?_
      refine z_i2l (q := 34) rfl rfl ?_
      refine z_iload_n (q := 35) rfl rfl rfl ?_
      refine z_i2l (q := 36) rfl rfl ?_
      refine z_cs3i (q := 39) rfl rfl rfl (t_Mo_in) ?_
      refine z_if_ne (q := 42) rfl rfl (fun h39 => ?_) (fun h39 => ?_)
      · refine z_aload_n (q := 48) rfl rfl rfl ?_
        refine z_iconst (q := 49) (v := 1) rfl rfl rfl ?_
        refine z_cv1v (q := 52) rfl rfl rfl (Mo_k w) (t_Mo_passes w ht h3 hA (by first | exact hk | exact rFa_ok hk | fail "none")) ?_
        refine z_iload_n (q := 53) rfl rfl rfl ?_
        refine z_ireti rfl rfl ?_
        have hn1 : ¬ (1 : Int32) = 0 := by decide
        unfold rNu rPa
        rw [if_neg hn1, if_pos h9]
        first
          | (rw [if_pos h19, if_pos (bz_n.mp h39), if_pos h9]; exact ⟨rfl, rfl⟩)
          | (rw [if_pos h19, if_neg (bz_0.mp h39), if_neg rFa_n]; exact ⟨rfl, rfl⟩)
          | (rw [if_neg h19, if_neg rFa_n]; exact ⟨rfl, rfl⟩)
          | fail "none"
      · refine z_aload_n (q := 43) rfl rfl rfl ?_
        refine z_iconst (q := 44) (v := 2) rfl rfl rfl ?_
        refine z_cv1v (q := 47) rfl rfl rfl (Mo_k w) (t_Mo_faults w) ?_
        refine z_aload_n (q := 48) rfl rfl rfl ?_
        refine z_iconst (q := 49) (v := 1) rfl rfl rfl ?_
        refine z_cv1v (q := 52) rfl rfl rfl (Mo_k w) (t_Mo_passes w ht h3 hA (by first | exact hk | exact rFa_ok hk | fail "none")) ?_
        refine z_iload_n (q := 53) rfl rfl rfl ?_
        refine z_ireti rfl rfl ?_
        have hn1 : ¬ (1 : Int32) = 0 := by decide
        unfold rNu rPa
        rw [if_neg hn1, if_pos h9]
        first
          | (rw [if_pos h19, if_pos (bz_n.mp h39), if_pos h9]; exact ⟨rfl, rfl⟩)
          | (rw [if_pos h19, if_neg (bz_0.mp h39), if_neg rFa_n]; exact ⟨rfl, rfl⟩)
          | (rw [if_neg h19, if_neg rFa_n]; exact ⟨rfl, rfl⟩)
          | fail "none"
    · refine z_aload_n (q := 23) rfl rfl rfl ?_
      refine z_iconst (q := 24) (v := 1) rfl rfl rfl ?_
      refine z_cv1v (q := 27) rfl rfl rfl (Mo_k w) (t_Mo_faults w) ?_
      refine z_goto rfl ?_
      refine z_aload_n (q := 48) rfl rfl rfl ?_
      refine z_iconst (q := 49) (v := 1) rfl rfl rfl ?_
      refine z_cv1v (q := 52) rfl rfl rfl (Mo_k w) (t_Mo_passes w ht h3 hA (by first | exact hk | exact rFa_ok hk | fail "none")) ?_
      refine z_iload_n (q := 53) rfl rfl rfl ?_
      refine z_ireti rfl rfl ?_
      have hn1 : ¬ (1 : Int32) = 0 := by decide
      unfold rNu rPa
      rw [if_neg hn1, if_pos h9]
      first
        | (rw [if_pos h19, if_pos (bz_n.mp h39), if_pos h9]; exact ⟨rfl, rfl⟩)
        | (rw [if_pos h19, if_neg (bz_0.mp h39), if_neg rFa_n]; exact ⟨rfl, rfl⟩)
        | (rw [if_neg h19, if_neg rFa_n]; exact ⟨rfl, rfl⟩)
        | fail "none"
  · refine z_iload_n (q := 13) rfl rfl rfl ?_
    refine z_ireti rfl rfl ?_
    unfold rNu
    rw [if_neg h9]
    exact ⟨rfl, rfl⟩
theorem t_Mo_needs {sc : Option (Nat × Nat × (Nat → Int32))} {sa : Nat → Nat} {d : Nat} {M : mz_M} {z : Nat × Nat} {m : Nat} (w : g_Mo M.2.2 m) {F : Nat → Int32} {A : Nat → Nat → Int32} {e : rS} {x : Int32} : zx sc sa (d + 2) 206 [.ref m, .int x] (rq M m F A e) z z none (rq M m F A (rNe e x)) := by
  refine zxin ym_Mo_needs [.ref m, .int x] rfl rfl rfl rfl ?_
  refine z_aload_n (q := 1) rfl rfl rfl ?_
  refine z_getI (q := 4) rfl rfl rfl (Mo_k w) ?_
  rw [rq_g23]
  refine z_if_ne (q := 7) rfl rfl (fun h4 => ?_) (fun h4 => ?_)
  · refine z_ret rfl rfl ?_
    unfold rNe
    first
      | (rw [if_pos ⟨h4, h12, h16⟩]; exact ⟨rfl, rfl⟩)
      | (have g : ¬ e.2.2.2.2.1 = 0 := h4
         rw [if_neg (fun h => g h.1)]; exact ⟨rfl, rfl⟩)
      | (have g : ¬ e.1 = 2 := h12
         rw [if_neg (fun h => g h.2.1)]; exact ⟨rfl, rfl⟩)
      | (have g : ¬ x = 0 := h16
         rw [if_neg (fun h => g h.2.2)]; exact ⟨rfl, rfl⟩)
      | fail "none"
  · refine z_aload_n (q := 8) rfl rfl rfl ?_
    refine z_getI (q := 11) rfl rfl rfl (Mo_k w) ?_
    rw [rq_g21]
    refine z_iconst (q := 12) (v := 2) rfl rfl rfl ?_
    refine z_ic_ne (q := 15) rfl rfl (fun h12 => ?_) (fun h12 => ?_)
    · refine z_ret rfl rfl ?_
      unfold rNe
      first
        | (rw [if_pos ⟨h4, h12, h16⟩]; exact ⟨rfl, rfl⟩)
        | (have g : ¬ e.2.2.2.2.1 = 0 := h4
           rw [if_neg (fun h => g h.1)]; exact ⟨rfl, rfl⟩)
        | (have g : ¬ e.1 = 2 := h12
           rw [if_neg (fun h => g h.2.1)]; exact ⟨rfl, rfl⟩)
        | (have g : ¬ x = 0 := h16
           rw [if_neg (fun h => g h.2.2)]; exact ⟨rfl, rfl⟩)
        | fail "none"
    · refine z_iload_n (q := 16) rfl rfl rfl ?_
      refine z_if_ne (q := 19) rfl rfl (fun h16 => ?_) (fun h16 => ?_)
      · refine z_ret rfl rfl ?_
        unfold rNe
        first
          | (rw [if_pos ⟨h4, h12, h16⟩]; exact ⟨rfl, rfl⟩)
          | (have g : ¬ e.2.2.2.2.1 = 0 := h4
             rw [if_neg (fun h => g h.1)]; exact ⟨rfl, rfl⟩)
          | (have g : ¬ e.1 = 2 := h12
             rw [if_neg (fun h => g h.2.1)]; exact ⟨rfl, rfl⟩)
          | (have g : ¬ x = 0 := h16
             rw [if_neg (fun h => g h.2.2)]; exact ⟨rfl, rfl⟩)
          | fail "none"
      · refine z_aload_n (q := 20) rfl rfl rfl ?_
        refine z_iconst (q := 21) (v := 2) rfl rfl rfl ?_
        refine z_cv1v (q := 24) rfl rfl rfl (Mo_k w) (t_Mo_faults w) ?_
        refine z_ret rfl rfl ?_
        unfold rNe
        first
          | (rw [if_pos ⟨h4, h12, h16⟩]; exact ⟨rfl, rfl⟩)
          | (have g : ¬ e.2.2.2.2.1 = 0 := h4
             rw [if_neg (fun h => g h.1)]; exact ⟨rfl, rfl⟩)
          | (have g : ¬ e.1 = 2 := h12
             rw [if_neg (fun h => g h.2.1)]; exact ⟨rfl, rfl⟩)
          | (have g : ¬ x = 0 := h16
             rw [if_neg (fun h => g h.2.2)]; exact ⟨rfl, rfl⟩)
          | fail "none"
theorem t_Mo_named {sc : Option (Nat × Nat × (Nat → Int32))} {sa : Nat → Nat} {d : Nat} {M : mz_M} {z : Nat × Nat} {m : Nat} (w : g_Mo M.2.2 m) {F : Nat → Int32} {A : Nat → Nat → Int32} {sg : Nat → Int32} {t : Nat} (ht : t ≤ 500) (h3 : F 3 = nI t) (hA : ∀ i, i < t → A 3 i = bt sg t i) {e : rS} (hk : okr t e) {i : Nat} (hi : i < 10) {lo up : Int32} : zx sc sa (d + 6) 207 [.ref m, .ref (sa i), .int lo, .int up] (rq M m F A e) z z (some (.int (rNm sg t e i lo up).1)) (rq M m F A (rNm sg t e i lo up).2) := by
  refine zxin ym_Mo_named [.ref m, .ref (sa i), .int lo, .int up] rfl rfl rfl rfl ?_
  refine z_aload_n (q := 1) rfl rfl rfl ?_
  refine z_aload_n (q := 2) rfl rfl rfl ?_
  refine z_getI (q := 5) rfl rfl rfl (Mo_k w) ?_
  rw [rq_g23]
  refine z_if_ne (q := 8) rfl rfl (fun h5 => ?_) (fun h5 => ?_)
  · refine z_iconst (q := 17) (v := 1) rfl rfl rfl ?_
    refine z_goto rfl ?_
    refine z_cv1v (q := 24) rfl rfl rfl (Mo_k w) (t_Mo_passes w ht h3 hA hk) ?_
    refine z_aload_n (q := 25) rfl rfl rfl ?_
    refine z_iload_n (q := 26) rfl rfl rfl ?_
    refine z_iload_n (q := 27) rfl rfl rfl ?_
    refine z_cv2i (q := 30) rfl rfl rfl (Mo_k w) (t_Mo_number w ht h3 hA (rPa_ok hk)) ?_
    refine z_ireti rfl rfl ?_
    unfold rNm
    first
      | (rw [bz_t (Or.inl h5)]; exact ⟨rfl, rfl⟩)
      | (rw [bz_t (Or.inr (bz_n.mp h13))]; exact ⟨rfl, rfl⟩)
      | (rw [bz_f (fun h => h.elim (fun g => g h5) (bz_0.mp h13))]; exact ⟨rfl, rfl⟩)
      | fail "none"
  · refine z_aload_n (q := 9) rfl rfl rfl ?_
    refine z_aload_n (q := 10) rfl rfl rfl ?_
    refine z_cv1i (q := 13) rfl rfl rfl (Mo_k w) (t_Mo_isWord w ht h3 hA hk hi) ?_
    refine z_if_eq (q := 16) rfl rfl (fun h13 => ?_) (fun h13 => ?_)
    · refine z_iconst (q := 21) (v := 0) rfl rfl rfl ?_
      refine z_cv1v (q := 24) rfl rfl rfl (Mo_k w) (t_Mo_passes w ht h3 hA hk) ?_
      refine z_aload_n (q := 25) rfl rfl rfl ?_
      refine z_iload_n (q := 26) rfl rfl rfl ?_
      refine z_iload_n (q := 27) rfl rfl rfl ?_
      refine z_cv2i (q := 30) rfl rfl rfl (Mo_k w) (t_Mo_number w ht h3 hA (rPa_ok hk)) ?_
      refine z_ireti rfl rfl ?_
      unfold rNm
      first
        | (rw [bz_t (Or.inl h5)]; exact ⟨rfl, rfl⟩)
        | (rw [bz_t (Or.inr (bz_n.mp h13))]; exact ⟨rfl, rfl⟩)
        | (rw [bz_f (fun h => h.elim (fun g => g h5) (bz_0.mp h13))]; exact ⟨rfl, rfl⟩)
        | fail "none"
    · refine z_iconst (q := 17) (v := 1) rfl rfl rfl ?_
      refine z_goto rfl ?_
      refine z_cv1v (q := 24) rfl rfl rfl (Mo_k w) (t_Mo_passes w ht h3 hA hk) ?_
      refine z_aload_n (q := 25) rfl rfl rfl ?_
      refine z_iload_n (q := 26) rfl rfl rfl ?_
      refine z_iload_n (q := 27) rfl rfl rfl ?_
      refine z_cv2i (q := 30) rfl rfl rfl (Mo_k w) (t_Mo_number w ht h3 hA (rPa_ok hk)) ?_
      refine z_ireti rfl rfl ?_
      unfold rNm
      first
        | (rw [bz_t (Or.inl h5)]; exact ⟨rfl, rfl⟩)
        | (rw [bz_t (Or.inr (bz_n.mp h13))]; exact ⟨rfl, rfl⟩)
        | (rw [bz_f (fun h => h.elim (fun g => g h5) (bz_0.mp h13))]; exact ⟨rfl, rfl⟩)
        | fail "none"
