theorem stB_cg {M M' : mz_M} {st : Nat} {pr ln td de : Int32} {pa ks os ts hs cs : Nat → Int32} {a : Nat} (h0 : M'.1 st = M.1 st) (h : M'.1 a = M.1 a) : (stB M' st pr ln td de pa ks os ts hs cs).1 a = (stB M st pr ln td de pa ks os ts hs cs).1 a := by
  have e : stH M' st pr ln td de = stH M st pr ln td de := by
    funext k
    unfold stH
    split <;> first | rfl | rw [h0]
  show (if a = st then stH M' st pr ln td de else _) = (if a = st then stH M st pr ln td de else _)
  rw [e, h]
theorem stQ_cg {M M' : mz_M} {st : Nat} {pr ln td de : Int32} {pa ks os ts hs cs : Nat → Int32} {s l t : Int32} {q : sQ} {a : Nat} (h0 : M'.1 st = M.1 st) (h1 : M'.1 (st + 1) = M.1 (st + 1)) (h : M'.1 a = M.1 a) : (stQ M' st pr ln td de pa ks os ts hs cs s l t q).1 a = (stQ M st pr ln td de pa ks os ts hs cs s l t q).1 a := by
  have e : shF (stB M' st pr ln td de pa ks os ts hs cs) (st + 1) s l t (nI q.1) q.2.2.2.2.2.2 = shF (stB M st pr ln td de pa ks os ts hs cs) (st + 1) s l t (nI q.1) q.2.2.2.2.2.2 := by
    funext k
    unfold shF
    split <;> first | rfl | rw [stB_cg h0 h1]
  have e2 := stB_cg (pr := pr) (ln := ln) (td := td) (de := de) (pa := pa) (ks := ks) (os := os) (ts := ts) (hs := hs) (cs := cs) h0 h
  show (if a = st + 1 then shF (stB M' st pr ln td de pa ks os ts hs cs) (st + 1) s l t (nI q.1) q.2.2.2.2.2.2 else _) = (if a = st + 1 then shF (stB M st pr ln td de pa ks os ts hs cs) (st + 1) s l t (nI q.1) q.2.2.2.2.2.2 else _)
  rw [e, e2]
theorem ta_cg {M M' : mz_M} {tp : Nat} {e1 e2 e3 e4 e5 e6 e7 e8 e9 e10 e11 : Int32} (h : M'.1 tp = M.1 tp) : taF M' tp e1 e2 e3 e4 e5 e6 e7 e8 e9 e10 e11 = taF M tp e1 e2 e3 e4 e5 e6 e7 e8 e9 e10 e11 := by
  funext k
  unfold taF
  split <;> first | rfl | rw [h]
theorem ta_st {M : mz_M} {tp st : Nat} (hf : tp + 1 < st) {sg : Nat → Int32} {e1 e2 e3 e4 e5 e6 e7 e8 e9 e10 e11 : Int32} {pr ln td de : Int32} {pa ks os ts hs cs : Nat → Int32} {s l t : Int32} {q : sQ} : stQ (taP M tp sg e1 e2 e3 e4 e5 e6 e7 e8 e9 e10 e11) st pr ln td de pa ks os ts hs cs s l t q = taP (stQ M st pr ln td de pa ks os ts hs cs s l t q) tp sg e1 e2 e3 e4 e5 e6 e7 e8 e9 e10 e11 := by
  refine Prod.ext (funext fun a => ?_) rfl
  by_cases h1 : a = tp
  · subst h1
    rw [stQ_o (Or.inl (by omega))]
    show (if a = a then taF M a e1 e2 e3 e4 e5 e6 e7 e8 e9 e10 e11 else _) = (if a = a then taF (stQ M st pr ln td de pa ks os ts hs cs s l t q) a e1 e2 e3 e4 e5 e6 e7 e8 e9 e10 e11 else _)
    rw [if_pos rfl, if_pos rfl, ta_cg (stQ_o (Or.inl (by omega)))]
  · by_cases h2 : a = tp + 1
    · subst h2
      rw [stQ_o (Or.inl (by omega))]
      show (if tp + 1 = tp then _ else if tp + 1 = tp + 1 then sg else _) = (if tp + 1 = tp then _ else if tp + 1 = tp + 1 then sg else _)
      rw [if_neg (by omega), if_pos rfl, if_neg (by omega), if_pos rfl]
    · rw [taP_o h1 h2]
      exact stQ_cg (taP_o (by omega) (by omega)) (taP_o (by omega) (by omega)) (taP_o h1 h2)
-- the lines told one by one
abbrev oS : Type := tS × (Int32 × Int32 × Int32 × Int32) × (Int32 × Nat × Int32 × Nat) × ((Nat → Int32) × (Nat → Int32) × (Nat → Int32) × (Nat → Int32) × (Nat → Int32) × (Nat → Int32)) × (Nat × Int32 × Int32) × sQ
def oL (sg : Nat → Int32) (T : Nat) (y : oS) : Int32 × Int32 × Int32 × Int32 × tS := lnS sg T y.2.2.2.2.2.1 y.2.2.2.2.1.1 y.2.2.2.2.2.2.2.1 y.2.2.2.2.2.2.1 y.2.2.2.1.1 y.2.2.1.1 (nI y.2.2.1.2.1) (nI y.2.2.1.2.2.2) y.1
def oA (y : oS) (r : Int32 × Int32 × Int32 × Int32 × tS) : oS := (r.2.2.2.2, (r.1, r.2.1, r.2.2.1, r.2.2.2.1), y.2.2)
def o8 : oS → oS := fun (s, (a6, a7, a8, a9), (pr, ln, td, de), P, (c, l, t), q) => (s, (a6, a7, a8, a9), (pr, ln + 1, td, de), P, (a7.toNatClampNeg, a8, a9), bgQ (ownR a7.toNatClampNeg) q)
def o9 : oS → oS := fun (s, (a6, a7, a8, a9), (pr, ln, td, de), (pa, P), S, q) => (s, (a6, a7, a8, a9), (pr + 1, ln + 1, td, de), (va_up (va_up pa a7.toNatClampNeg (pa a7.toNatClampNeg ||| (1 : Int32) <<< (a8 &&& 31))) a8.toNatClampNeg ((va_up pa a7.toNatClampNeg (pa a7.toNatClampNeg ||| (1 : Int32) <<< (a8 &&& 31))) a8.toNatClampNeg ||| (1 : Int32) <<< (a7 &&& 31)), P), S, q)
def oD : oS → oS := fun (s, (a6, a7, a8, a9), (pr, ln, _, de), (pa, ks, os, ts, hs, cs), (c, l, t), q) => (s, (a6, a7, a8, a9), (pr, ln + 1, nI (de + 1), de + 1), (pa, va_up ks de a6, va_up os de a7, va_up ts de a8, va_up hs de a9, va_up cs de ((caQ (nI c) l t c a6.toNatClampNeg a7.toNatClampNeg a8.toNatClampNeg a9.toNatClampNeg q).2.2.2.2.2.2.2 - q.2.2.2.2.2.2)), (c, l, t), (caQ (nI c) l t c a6.toNatClampNeg a7.toNatClampNeg a8.toNatClampNeg a9.toNatClampNeg q).2)
def oT (y : oS) : oS := if y.2.1.1 = 8 then o8 y else if y.2.1.1 = 9 then o9 y else oD y
def oF (sg : Nat → Int32) (T : Nat) : Nat → oS → oS
  | 0, y => y
  | k + 1, y => if y.1.2.2.2.2.1 = 0 ∧ ¬ y.1.1 = 4 then (if (oL sg T y).2.2.2.2.2.2.2.2.1 = 0 then oF sg T k (oT (oA y (oL sg T y))) else oA y (oL sg T y)) else y
def oM (M : mz_M) (tp st : Nat) (sg : Nat → Int32) (T : Nat) (y : oS) : mz_M := stQ (tq M tp sg T y.1 y.2.1.1 y.2.1.2.1 y.2.1.2.2.1 y.2.1.2.2.2) st y.2.2.1.1 (nI y.2.2.1.2.1) y.2.2.1.2.2.1 (nI y.2.2.1.2.2.2) y.2.2.2.1.1 y.2.2.2.1.2.1 y.2.2.2.1.2.2.1 y.2.2.2.1.2.2.2.1 y.2.2.2.1.2.2.2.2.1 y.2.2.2.1.2.2.2.2.2 (nI y.2.2.2.2.1.1) y.2.2.2.2.1.2.1 y.2.2.2.2.1.2.2 y.2.2.2.2.2
/-- what stays while lines are told -/
def oI (T : Nat) (y : oS) : Prop := okt T y.1 ∧ y.2.2.2.2.1.1 ≤ 12 ∧ y.2.2.2.2.2.1 ≤ 40 ∧ (¬ y.2.2.1.2.1 = 0 → 1 ≤ y.2.2.2.2.2.1 ∧ 1 ≤ y.2.2.2.2.1.1) ∧ y.2.2.1.2.1 ≤ 500 ∧ y.2.2.1.2.2.2 ≤ 30
/-- when a line may be told -/
def oG (y : oS) : Prop := (y.2.1.1 = 8 → ∃ a, a ≤ 12 ∧ y.2.1.2.1 = nI a) ∧ (y.2.1.1 = 9 → ∃ a b, a < y.2.2.2.2.1.1 ∧ b < y.2.2.2.2.1.1 ∧ y.2.1.2.1 = nI a ∧ y.2.1.2.2.1 = nI b) ∧ (¬ y.2.1.1 = 8 → ¬ y.2.1.1 = 9 → ∃ k a b e, k < 8 ∧ y.2.1.1 = nI k ∧ y.2.1.2.1 = nI a ∧ y.2.1.2.2.1 = nI b ∧ y.2.1.2.2.2 = nI e ∧ a < 2 ^ 31 ∧ b < 2 ^ 31 ∧ e < 2 ^ 31 ∧ y.2.2.1.2.2.2 < 60 ∧ okl y.2.2.2.2.2.2.2.1 y.2.2.2.2.2.1 ∧ vaQ (nI y.2.2.2.2.1.1) y.2.2.2.2.1.2.1 y.2.2.2.2.1.2.2 y.2.2.2.2.1.1 40 k a b e y.2.2.2.2.2)
theorem t_tell {sc : Option (Nat × Nat × (Nat → Int32))} {sa : Nat → Nat} {d : Nat} {M : mz_M} {z : Nat × Nat} {tp st : Nat} (v : g_St M.2.2 st) {sg : Nat → Int32} {T : Nat} {y : oS} (hC : y.2.2.2.2.1.1 ≤ 12) (hN : y.2.2.2.2.2.1 ≤ 40) (hg : oG y) : zx sc sa (d + 7) 76 [.ref st, .int y.2.1.1, .int y.2.1.2.1, .int y.2.1.2.2.1, .int y.2.1.2.2.2] (oM M tp st sg T y) z z none (oM M tp st sg T (oT y)) := by
  obtain ⟨s, ⟨a6, a7, a8, a9⟩, ⟨pr, ln, td, de⟩, ⟨pa, ks, os, ts, hs, cs⟩, ⟨c, l, t⟩, q⟩ := y
  obtain ⟨g1, g2, g3⟩ := hg
  dsimp only at hC hN g1 g2 g3
  by_cases h8 : a6 = 8
  · obtain ⟨a, ha, e⟩ := g1 h8
    subst h8
    subst e
    have e9 : oT ((s, (8, nI a, a8, a9), (pr, ln, td, de), (pa, ks, os, ts, hs, cs), (c, l, t), q) : oS) = (s, (8, nI a, a8, a9), (pr, ln + 1, td, de), (pa, ks, os, ts, hs, cs), (a, a8, a9), bgQ (ownR a) q) := by
      unfold oT
      rw [if_pos rfl]
      unfold o8
      dsimp only
      rw [nI_clamp (by omega)]
    rw [e9]
    unfold oM
    dsimp only
    have h := q_St_tell8 (sc := sc) (sa := sa) (d := d + 4) (z := z) (M := tq M tp sg T s 8 (nI a) a8 a9) (pr := pr) (ln := nI ln) (td := td) (de := nI de) (pa := pa) (ks := ks) (os := os) (ts := ts) (hs := hs) (cs := cs) (s := nI c) (l := l) (t := t) (q := q) v ha (b := a8) (e := a9)
    rw [show nI ln + 1 = nI (ln + 1) from (nI_succ ln).symm] at h
    exact h
  · by_cases h9 : a6 = 9
    · obtain ⟨a, b, ha, hb, e1, e2⟩ := g2 h9
      subst h9
      subst e1
      subst e2
      have e9 : oT ((s, (9, nI a, nI b, a9), (pr, ln, td, de), (pa, ks, os, ts, hs, cs), (c, l, t), q) : oS) = (s, (9, nI a, nI b, a9), (pr + 1, ln + 1, td, de), (va_up (va_up pa a (pa a ||| (1 : Int32) <<< (nI b &&& 31))) b ((va_up pa a (pa a ||| (1 : Int32) <<< (nI b &&& 31))) b ||| (1 : Int32) <<< (nI a &&& 31)), ks, os, ts, hs, cs), (c, l, t), q) := by
        unfold oT
        rw [if_neg (show ¬ (9 : Int32) = 8 by decide), if_pos rfl]
        unfold o9
        dsimp only
        rw [nI_clamp (by omega), nI_clamp (by omega)]
      rw [e9]
      unfold oM
      dsimp only
      have h := q_St_tell9 (sc := sc) (sa := sa) (d := d + 4) (z := z) (M := tq M tp sg T s 9 (nI a) (nI b) a9) (pr := pr) (ln := nI ln) (td := td) (de := nI de) (pa := pa) (ks := ks) (os := os) (ts := ts) (hs := hs) (cs := cs) (s := nI c) (l := l) (t := t) (q := q) v rfl hC ha hb (e := a9)
      rw [show nI ln + 1 = nI (ln + 1) from (nI_succ ln).symm] at h
      exact h
    · obtain ⟨k, a, b, e, hk, e6, e7, e8, e10, b1, b2, b3, hD, ho, hv⟩ := g3 h8 h9
      subst e6
      subst e7
      subst e8
      subst e10
      have e9 : oT ((s, (nI k, nI a, nI b, nI e), (pr, ln, td, de), (pa, ks, os, ts, hs, cs), (c, l, t), q) : oS) = (s, (nI k, nI a, nI b, nI e), (pr, ln + 1, nI (de + 1), de + 1), (pa, va_up ks de (nI k), va_up os de (nI a), va_up ts de (nI b), va_up hs de (nI e), va_up cs de ((caQ (nI c) l t c k a b e q).2.2.2.2.2.2.2 - q.2.2.2.2.2.2)), (c, l, t), (caQ (nI c) l t c k a b e q).2) := by
        unfold oT
        rw [if_neg h8, if_neg h9]
        unfold oD
        dsimp only
        rw [nI_clamp (by omega), nI_clamp b1, nI_clamp b2, nI_clamp b3]
      rw [e9]
      unfold oM
      dsimp only
      have h := q_St_tellD (sc := sc) (sa := sa) (d := d) (z := z) (M := tq M tp sg T s (nI k) (nI a) (nI b) (nI e)) (pr := pr) (ln := nI ln) (td := td) (D := de) (pa := pa) (ks := ks) (os := os) (ts := ts) (hs := hs) (cs := cs) (s := nI c) (l := l) (t := t) (q := q) v hD hN ho rfl hC hk hv
      rw [show nI ln + 1 = nI (ln + 1) from (nI_succ ln).symm, show nI de + 1 = nI (de + 1) from (nI_succ de).symm] at h
      exact h
theorem oM_t {M : mz_M} {tp st : Nat} (hf : tp + 1 < st) {sg : Nat → Int32} {T : Nat} {y : oS} : oM M tp st sg T y = tq (stQ M st y.2.2.1.1 (nI y.2.2.1.2.1) y.2.2.1.2.2.1 (nI y.2.2.1.2.2.2) y.2.2.2.1.1 y.2.2.2.1.2.1 y.2.2.2.1.2.2.1 y.2.2.2.1.2.2.2.1 y.2.2.2.1.2.2.2.2.1 y.2.2.2.1.2.2.2.2.2 (nI y.2.2.2.2.1.1) y.2.2.2.2.1.2.1 y.2.2.2.2.1.2.2 y.2.2.2.2.2) tp sg T y.1 y.2.1.1 y.2.1.2.1 y.2.1.2.2.1 y.2.1.2.2.2 := ta_st hf
theorem t_takes {sc : Option (Nat × Nat × (Nat → Int32))} {sa : Nat → Nat} {d : Nat} {M : mz_M} {z : Nat × Nat} {tp st : Nat} (w : g_Ta M.2.2 tp) (v : g_St M.2.2 st) (hf : tp + 1 < st) {sg : Nat → Int32} {T : Nat} (hT : T ≤ 500) {y : oS} (h : oI T y) (h0 : y.1.2.2.2.2.1 = 0) (h4 : ¬ y.1.1 = 4) : zx sc sa (d + 9) 96 [.ref tp, .ref st] (oM M tp st sg T y) z z (some (.int (bz ((oL sg T y).2.2.2.2.2.2.2.2.1 = 0)))) (oM M tp st sg T (oA y (oL sg T y))) := by
  obtain ⟨i1, i2, i3, i4, i5, i6⟩ := h
  rw [oM_t hf, oM_t hf]
  obtain ⟨s, ⟨a6, a7, a8, a9⟩, ⟨pr, ln, td, de⟩, ⟨pa, ks, os, ts, hs, cs⟩, ⟨c, l, t⟩, q⟩ := y
  dsimp only at i1 i2 i3 i4 i5 i6 h0 h4
  have e := t_Ta_takesLine (sc := sc) (sa := sa) (d := d) (z := z) (M := stQ M st pr (nI ln) td (nI de) pa ks os ts hs cs (nI c) l t q) (tp := tp) (sg := sg) (t := T) (s := s) (a6 := a6) (a7 := a7) (a8 := a8) (a9 := a9) w hT (st := st) v hf i1 (n := q.1) (c := c) stS_g8 i3 stS_g5 i2 (fun hn => i4 (fun e => hn (by rw [stQ_g8, e]; rfl))) h0 h4
  rw [stQ_l, stQ_J, stQ_a1, stQ_g7, stQ_g8, stQ_g10] at e
  exact e
theorem t_takesN {sc : Option (Nat × Nat × (Nat → Int32))} {sa : Nat → Nat} {d : Nat} {M : mz_M} {z : Nat × Nat} {tp st : Nat} (w : g_Ta M.2.2 tp) (v : g_St M.2.2 st) (hf : tp + 1 < st) {sg : Nat → Int32} {T : Nat} (hT : T ≤ 500) {y : oS} (h : oI T y) (hn : ¬ (y.1.2.2.2.2.1 = 0 ∧ ¬ y.1.1 = 4)) : zx sc sa (d + 9) 96 [.ref tp, .ref st] (oM M tp st sg T y) z z (some (.int 0)) (oM M tp st sg T y) := by
  obtain ⟨i1, i2, i3, i4, i5, i6⟩ := h
  rw [oM_t hf]
  refine t_Ta_noLine (M := stQ M st y.2.2.1.1 (nI y.2.2.1.2.1) y.2.2.1.2.2.1 (nI y.2.2.1.2.2.2) y.2.2.2.1.1 y.2.2.2.1.2.1 y.2.2.2.1.2.2.1 y.2.2.2.1.2.2.2.1 y.2.2.2.1.2.2.2.2.1 y.2.2.2.1.2.2.2.2.2 (nI y.2.2.2.2.1.1) y.2.2.2.2.1.2.1 y.2.2.2.2.1.2.2 y.2.2.2.2.2) w hT v hf i1 (n := y.2.2.2.2.2.1) (c := y.2.2.2.2.1.1) stS_g8 i3 stS_g5 i2 ?_
  by_cases c0 : y.1.2.2.2.2.1 = 0
  · right
    by_cases c4 : y.1.1 = 4
    · exact c4
    · exact absurd ⟨c0, c4⟩ hn
  · exact Or.inl c0
