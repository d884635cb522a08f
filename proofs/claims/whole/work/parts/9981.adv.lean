theorem sk_1 {p : Int32 → Bool} {sg : Nat → Int32} {t k i : Nat} (hk : 0 < k) (h : p (bt sg t i) = true) : i < sk p sg t k i := by
  obtain ⟨k', rfl⟩ : ∃ k', k = k' + 1 := ⟨k - 1, by omega⟩
  rw [sk_s, if_pos h]
  exact Nat.lt_of_lt_of_le (Nat.lt_succ_self i) (sk_le k' (i + 1)).1
theorem dg_1 {sg : Nat → Int32} {t k i : Nat} {v : Int32} (hk : 0 < k) (h : diB (bt sg t i) = true) : i < (dg sg t k i v).1 := by
  obtain ⟨k', rfl⟩ : ∃ k', k = k' + 1 := ⟨k - 1, by omega⟩
  show i < (if diB (bt sg t i) = true then dg sg t k' (i + 1) (dgv v (bt sg t i)) else (i, v)).1
  rw [if_pos h]
  exact Nat.lt_of_lt_of_le (Nat.lt_succ_self i) (dg_le k' (i + 1) _).1
def adv (s s' : tS) : Prop := s.2.1 ≤ s'.2.1 ∧ s'.2.1 ≤ s'.2.2.1 ∧ (¬ s'.1 = 4 → s'.2.1 < s'.2.2.1) ∧ s'.2.2.2.2.2 = s.2.2.2.2.2
theorem tk_p {sg : Nat → Int32} {t b : Nat} {vl : Int32} : b ≤ (tkF sg t b vl).2.1 ∧ (¬ (tkF sg t b vl).1 = 4 → (tkF sg t b vl).2.1 < (tkF sg t b vl).2.2.1) := by
  have h0 := (sk_le (p := blB) (sg := sg) (t := t) (t - b) b).1
  unfold tkF
  generalize sk blB sg t (t - b) b = i at h0 ⊢
  by_cases c1 : bt sg t i = -1
  · rw [if_pos c1]
    exact ⟨h0, fun h => absurd rfl h⟩
  · have hi : i < t := by
      by_cases h : i < t
      · exact h
      · exact absurd (bt_m1.mpr h) c1
    rw [if_neg c1]
    by_cases c2 : leB (bt sg t i) = true
    · rw [if_pos c2]
      exact ⟨h0, fun _ => sk_1 (by omega) c2⟩
    · rw [if_neg c2]
      by_cases c3 : diB (bt sg t i) = true
      · rw [if_pos c3]
        exact ⟨h0, fun _ => dg_1 (by omega) c3⟩
      · rw [if_neg c3]
        exact ⟨h0, fun _ => Nat.lt_succ_self i⟩
theorem tok_a {sg : Nat → Int32} {T : Nat} {s : tS} (h : okt T s) : s.2.2.1 ≤ (tokS sg T s).2.1 ∧ (tokS sg T s).2.1 ≤ (tokS sg T s).2.2.1 ∧ (¬ (tokS sg T s).1 = 4 → (tokS sg T s).2.1 < (tokS sg T s).2.2.1) := ⟨tk_p.1, (tokS_ok h).1, tk_p.2⟩
theorem adv_k {sg : Nat → Int32} {T : Nat} {s : tS} (h : okt T s) : adv s (tokS sg T s) := ⟨Nat.le_trans h.1 (tok_a h).1, (tok_a h).2.1, (tok_a h).2.2, rfl⟩
theorem adv_t {s1 s2 s3 : tS} (h : adv s1 s2) (g : adv s2 s3) : adv s1 s3 := ⟨Nat.le_trans h.1 g.1, g.2.1, g.2.2.1, g.2.2.2.trans h.2.2.2⟩
theorem adv_n {sg : Nat → Int32} {T : Nat} {s : tS} {lo hi : Int32} (h : okt T s) (hf : (tnS sg T s lo hi).2.2.2.2.2.1 = 0) : adv s (tnS sg T s lo hi).2 := by
  unfold tnS at hf ⊢
  by_cases c1 : s.2.2.2.2.1 = 0
  · rw [if_pos c1] at hf ⊢
    by_cases c2 : s.1 = 2
    · rw [if_pos c2] at hf ⊢
      by_cases c3 : s.2.2.2.1 < lo ∨ ¬ s.2.2.2.1 ≤ hi
      · rw [if_pos c3] at hf
        exact absurd hf (refS_f (by decide))
      · rw [if_neg c3]
        exact adv_k h
    · rw [if_neg c2] at hf
      exact absurd hf (refS_f (by decide))
  · rw [if_neg c1] at hf
    exact absurd hf c1
theorem adv_w {sg : Nat → Int32} {T : Nat} {s : tS} {i : Nat} (h : okt T s) (hf : (twS sg T s i).2.2.2.2.1 = 0) : adv s (twS sg T s i) := by
  unfold twS at hf ⊢
  by_cases c1 : s.2.2.2.2.1 = 0
  · rw [if_pos c1] at hf ⊢
    by_cases c2 : wq sg T s i = true
    · rw [if_pos c2]
      exact adv_k h
    · rw [if_neg c2] at hf
      exact absurd hf (refS_f (by decide))
  · rw [if_neg c1] at hf
    exact absurd hf c1
theorem adv_nw {sg : Nat → Int32} {T : Nat} {s : tS} {i : Nat} {lo hi : Int32} (h : okt T s) (hf : (tnS sg T (twS sg T s i) lo hi).2.2.2.2.2.1 = 0) : adv s (tnS sg T (twS sg T s i) lo hi).2 := adv_t (adv_w h (tnS_in hf).1) (adv_n (twS_ok h) hf)
theorem adv_u {sg : Nat → Int32} {T : Nat} {s : tS} (h : okt T s) (hf : (u3 sg T s).2.2.2.2.2.1 = 0) : adv s (u3 sg T s).2 := by
  have g3 : u3 sg T s = tnS sg T (twS sg T (u2 sg T s).2 9) 0 20 := rfl
  have g2 : u2 sg T s = tnS sg T (twS sg T (u1 sg T s).2 8) 0 2 := rfl
  have g1 : u1 sg T s = tnS sg T (twS sg T s 7) 1 12 := rfl
  have o1 : okt T (u1 sg T s).2 := by rw [g1]; exact tnS_ok (twS_ok h)
  have o2 : okt T (u2 sg T s).2 := by rw [g2]; exact tnS_ok (twS_ok o1)
  have f3 := hf
  rw [g3] at f3
  have f2 := twS_g (tnS_in f3).1
  have f2' := f2
  rw [g2] at f2'
  have f1 := twS_g (tnS_in f2').1
  have f1' := f1
  rw [g1] at f1'
  have a3 := adv_nw o2 f3
  have a2 := adv_nw o1 f2'
  have a1 := adv_nw h f1'
  rw [← g3] at a3
  rw [← g2] at a2
  rw [← g1] at a1
  exact adv_t a1 (adv_t a2 a3)
theorem adv_v {sg : Nat → Int32} {T : Nat} {s : tS} {n c : Int32} (h : okt T s) : ((v1 sg T n s).2.2.2.2.2.1 = 0 → adv s (v1 sg T n s).2) ∧ ((v2 sg T n c s).2.2.2.2.2.1 = 0 → adv s (v2 sg T n c s).2) ∧ ((v3 sg T n c s).2.2.2.2.2.1 = 0 → adv s (v3 sg T n c s).2) := by
  have y3 : v3 sg T n c s = tnS sg T (v2 sg T n c s).2 0 (c - 1) := rfl
  have y2 : v2 sg T n c s = tnS sg T (v1 sg T n s).2 0 (c - 1) := rfl
  have y1 : v1 sg T n s = tnS sg T s 0 (n - 1) := rfl
  have o1 : okt T (v1 sg T n s).2 := by rw [y1]; exact tnS_ok h
  have o2 : okt T (v2 sg T n c s).2 := by rw [y2]; exact tnS_ok o1
  have k1 : (v1 sg T n s).2.2.2.2.2.1 = 0 → adv s (v1 sg T n s).2 := fun hf => by
    rw [y1] at hf ⊢
    exact adv_n h hf
  have k2 : (v2 sg T n c s).2.2.2.2.2.1 = 0 → adv s (v2 sg T n c s).2 := fun hf => by
    have hf' := hf
    rw [y2] at hf'
    have a := adv_n o1 hf'
    rw [← y2] at a
    exact adv_t (k1 (tnS_in hf').1) a
  refine ⟨k1, k2, fun hf => ?_⟩
  have hf' := hf
  rw [y3] at hf'
  have a := adv_n o2 hf'
  rw [← y3] at a
  exact adv_t (k2 (tnS_in hf').1) a
theorem adv_nu {sg : Nat → Int32} {T n c : Nat} {F : Nat → Int32} {J : Nat → Int64} {P : Nat → Int32} {k y z : Int32} {s : tS} (h : okt T s) (hf : (nuS sg T n c F J P k y z s).2.2.2.2.2.2.2.1 = 0) : adv s (nuS sg T n c F J P k y z s).2.2.2 := by
  by_cases k8 : k = 8
  · rw [nuS_s k8] at hf ⊢
    dsimp only at hf ⊢
    exact adv_u h hf
  · by_cases k9 : k = 9
    · rw [nuS_p k8 k9] at hf ⊢
      dsimp only at hf ⊢
      have g2 : w2 sg T (nI c) s = v2 sg T (nI c) (nI c) s := rfl
      unfold w3 at hf ⊢
      split at hf
      · exact absurd hf (refS_f (by decide))
      · rename_i hn
        rw [if_neg hn]
        rw [g2] at hf ⊢
        exact (adv_v h).2.1 hf
    · rw [nuS_d k8 k9] at hf ⊢
      unfold vS at hf ⊢
      by_cases k5 : k = 5
      · rw [if_pos k5] at hf ⊢
        dsimp only at hf ⊢
        split at hf
        · exact absurd hf (refS_f (by decide))
        · rename_i hn
          rw [if_neg hn]
          exact (adv_v (c := 0) h).1 hf
      · by_cases k23 : k = 2 ∨ k = 3
        · rw [if_neg k5, if_pos k23] at hf ⊢
          dsimp only at hf ⊢
          split at hf
          · exact absurd hf (refS_f (by decide))
          · rename_i hn
            rw [if_neg hn]
            exact (adv_v h).2.2 hf
        · rw [if_neg k5, if_neg k23] at hf ⊢
          dsimp only at hf ⊢
          exact (adv_v h).2.1 hf
/-- a line moves the reader on -/
theorem ln_adv {sg : Nat → Int32} {T n c : Nat} {F : Nat → Int32} {J : Nat → Int64} {pa : Nat → Int32} {pr ln de : Int32} {s : tS} (h : okt T s) (hf : (lnS sg T n c F J pa pr ln de s).2.2.2.2.2.2.2.2.1 = 0) : s.2.2.1 < (lnS sg T n c F J pa pr ln de s).2.2.2.2.2.2.1 ∧ (lnS sg T n c F J pa pr ln de s).2.2.2.2.2.2.2.2.2 = s.2.2.2.2.2 := by
  by_cases h1 : wkS sg T s = 0 ∨ ¬ (ln = 0 ↔ wkS sg T s = 8)
  · rw [lnS_r h1] at hf
    exact absurd hf (refS_f (by decide))
  by_cases h2 : otB (wkS sg T s) pr de (nI n) = true
  · rw [lnS_m h1 h2] at hf
    exact absurd hf (refS_f (by decide))
  rw [lnS_d h1 h2] at hf ⊢
  dsimp only at hf ⊢
  obtain ⟨t1, t2, t3⟩ := ts_in hf
  rw [t3]
  have o1 := tokS_ok (sg := sg) h
  have a := adv_nu o1 t1
  have o2 := nuS_ok (sg := sg) (n := n) (c := c) (F := F) (J := J) (P := pa) (k := wkS sg T s) (y := 0) (z := 0) o1
  have b := (tok_a (sg := sg) h).1
  have e := tok_a (sg := sg) o2
  have l3 := a.2.2.1 (by rw [t2]; decide)
  have := a.1
  exact ⟨by omega, a.2.2.2⟩
