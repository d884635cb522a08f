-- the two readers, line by line
theorem nI_p1 {n : Nat} (h0 : 0 < n) (h : n ≤ 200) : (nI n - 1).toInt < 1000 := by
  have e : nI n - 1 = nI (n - 1) := by
    rw [show (1 : Int32) = nI 1 from rfl]
    exact nI_sub' h0
  rw [e, nI_toInt (by omega)]
  omega
theorem tnS_b {sg : Nat → Int32} {t : Nat} {s : tS} {lo up : Int32} (h : ¬ s.2.2.2.2.1 = 0) : tnS sg t s lo up = (-1, s) := by unfold tnS; rw [if_neg h]
theorem twS_b {sg : Nat → Int32} {t : Nat} {s : tS} {i : Nat} (h : ¬ s.2.2.2.2.1 = 0) : twS sg t s i = s := by unfold twS; rw [if_neg h]
theorem R_nm {sg : Nat → Int32} {t : Nat} {s : tS} {e : rS} {i : Nat} {lo up : Int32} (h : tR s e) (h5 : up.toInt < 1000) : tR (tnS sg t (twS sg t s i) lo up).2 (rNm sg t e i lo up).2 ∧ ((tnS sg t (twS sg t s i) lo up).2.2.2.2.2.1 = 0 → (rNm sg t e i lo up).1 = (tnS sg t (twS sg t s i) lo up).1) := R_nu (R_tw h) h5
theorem twS_g {sg : Nat → Int32} {t : Nat} {s : tS} {i : Nat} (h : (twS sg t s i).2.2.2.2.1 = 0) : s.2.2.2.2.1 = 0 := Decidable.byContradiction (fun c => c (by rw [twS_b c] at h; exact h))
theorem R_p1 {sg : Nat → Int32} {t : Nat} {s : tS} {e : rS} (h : tR s e) (g : s.2.2.2.2.1 = 0) : tR (tokS sg t s) (rPa sg t e 1) := by
  unfold rPa
  rw [if_neg (by decide), if_pos (tR_g h g).1]
  exact R_tok h g
theorem R_st0 {sg : Nat → Int32} {t : Nat} {s : tS} {e : rS} (h : tR s (rPa sg t e (bz (wR sg t e 0 = true)))) : tR (u3 sg t s).2 (rS3 sg t e).2 ∧ ((u3 sg t s).2.2.2.2.2.1 = 0 → (rS1 sg t e).1 = (u1 sg t s).1 ∧ (rS2 sg t e).1 = (u2 sg t s).1 ∧ (rS3 sg t e).1 = (u3 sg t s).1) := by
  have a1 : tR (u1 sg t s).2 (rS1 sg t e).2 ∧ ((u1 sg t s).2.2.2.2.2.1 = 0 → (rS1 sg t e).1 = (u1 sg t s).1) := by
    unfold u1 rS1
    exact R_nm h (by decide)
  have a2 : tR (u2 sg t s).2 (rS2 sg t e).2 ∧ ((u2 sg t s).2.2.2.2.2.1 = 0 → (rS2 sg t e).1 = (u2 sg t s).1) := by
    unfold u2 rS2
    exact R_nm a1.1 (by decide)
  have a3 : tR (u3 sg t s).2 (rS3 sg t e).2 ∧ ((u3 sg t s).2.2.2.2.2.1 = 0 → (rS3 sg t e).1 = (u3 sg t s).1) := by
    unfold u3 rS3
    exact R_nm a2.1 (by decide)
  refine ⟨a3.1, fun g => ?_⟩
  have e3 : u3 sg t s = tnS sg t (twS sg t (u2 sg t s).2 9) 0 20 := by unfold u3; rfl
  have e2 : u2 sg t s = tnS sg t (twS sg t (u1 sg t s).2 8) 0 2 := by unfold u2; rfl
  have g3 := g
  rw [e3] at g3
  have g2 := twS_g (tnS_in g3).1
  have g4 := g2
  rw [e2] at g4
  have g1 := twS_g (tnS_in g4).1
  exact ⟨a1.2 g1, a2.2 g2, a3.2 g⟩
theorem R_st {sg : Nat → Int32} {t : Nat} {s : tS} {e : rS} (h : tR s e) (g : s.2.2.2.2.1 = 0) (hw : wq sg t s 0 = true) : tR (u3 sg t (tokS sg t s)).2 (rS3 sg t e).2 ∧ ((u3 sg t (tokS sg t s)).2.2.2.2.2.1 = 0 → (rS1 sg t e).1 = (u1 sg t (tokS sg t s)).1 ∧ (rS2 sg t e).1 = (u2 sg t (tokS sg t s)).1 ∧ (rS3 sg t e).1 = (u3 sg t (tokS sg t s)).1) := by
  refine R_st0 ?_
  rw [bz_t ((R_w h g).trans hw)]
  exact R_p1 h g
theorem R_sn {sg : Nat → Int32} {t : Nat} {s : tS} {e : rS} (h : tR s e) (g : s.2.2.2.2.1 = 0) (hw : ¬ wq sg t s 0 = true) : tR (refS s 1 (nI s.2.1)) (rS3 sg t e).2 := by
  have k : tR (refS s 1 (nI s.2.1)) (rPa sg t e (bz (wR sg t e 0 = true))) := by
    rw [bz_f (fun a => hw ((R_w h g).symm.trans a))]
    unfold rPa
    rw [if_pos rfl]
    exact R_ref h (by decide)
  have k2 := (R_st0 k).1
  have b : ¬ (refS s 1 (nI s.2.1)).2.2.2.2.1 = 0 := refS_f (by decide)
  unfold u3 u2 u1 at k2
  rw [twS_b b, tnS_b b] at k2
  dsimp only at k2
  rw [twS_b b, tnS_b b] at k2
  dsimp only at k2
  rw [twS_b b, tnS_b b] at k2
  exact k2
theorem R_d1 {sg : Nat → Int32} {t : Nat} {s : tS} {e : rS} {n c : Nat} (hn0 : 0 < n) (hn : n ≤ 40) (hc0 : 0 < c) (hC : c ≤ 12) (h : tR s e) : tR (v1 sg t (nI n) s).2 (rNu sg t e 0 (nI n - 1)).2 ∧ ((v1 sg t (nI n) s).2.2.2.2.2.1 = 0 → (rNu sg t e 0 (nI n - 1)).1 = (v1 sg t (nI n) s).1) := R_nu h (nI_p1 hn0 (by omega))
theorem R_d2 {sg : Nat → Int32} {t : Nat} {s : tS} {e : rS} {n c : Nat} (hn0 : 0 < n) (hn : n ≤ 40) (hc0 : 0 < c) (hC : c ≤ 12) (h : tR s e) : tR (v2 sg t (nI n) (nI c) s).2 (rNu sg t (rNu sg t e 0 (nI n - 1)).2 0 (nI c - 1)).2 ∧ ((v2 sg t (nI n) (nI c) s).2.2.2.2.2.1 = 0 → (rNu sg t e 0 (nI n - 1)).1 = (v1 sg t (nI n) s).1 ∧ (rNu sg t (rNu sg t e 0 (nI n - 1)).2 0 (nI c - 1)).1 = (v2 sg t (nI n) (nI c) s).1) := by
  have a1 := R_d1 (sg := sg) (t := t) hn0 hn hc0 hC h
  have a2 := R_nu (sg := sg) (t := t) (lo := 0) (up := nI c - 1) a1.1 (nI_p1 hc0 (by omega))
  exact ⟨a2.1, fun g => ⟨a1.2 (tnS_in g).1, a2.2 g⟩⟩
theorem R_d3 {sg : Nat → Int32} {t : Nat} {s : tS} {e : rS} {n c : Nat} (hn0 : 0 < n) (hn : n ≤ 40) (hc0 : 0 < c) (hC : c ≤ 12) (h : tR s e) : tR (v3 sg t (nI n) (nI c) s).2 (rNu sg t (rNu sg t (rNu sg t e 0 (nI n - 1)).2 0 (nI c - 1)).2 0 (nI c - 1)).2 ∧ ((v3 sg t (nI n) (nI c) s).2.2.2.2.2.1 = 0 → (rNu sg t e 0 (nI n - 1)).1 = (v1 sg t (nI n) s).1 ∧ (rNu sg t (rNu sg t e 0 (nI n - 1)).2 0 (nI c - 1)).1 = (v2 sg t (nI n) (nI c) s).1 ∧ (rNu sg t (rNu sg t (rNu sg t e 0 (nI n - 1)).2 0 (nI c - 1)).2 0 (nI c - 1)).1 = (v3 sg t (nI n) (nI c) s).1) := by
  have a2 := R_d2 (sg := sg) (t := t) hn0 hn hc0 hC h
  have a3 := R_nu (sg := sg) (t := t) (lo := 0) (up := nI c - 1) a2.1 (nI_p1 hc0 (by omega))
  exact ⟨a3.1, fun g => ⟨(a2.2 (tnS_in g).1).1, (a2.2 (tnS_in g).1).2, a3.2 g⟩⟩
theorem R_dj {sg : Nat → Int32} {t : Nat} {s : tS} {e : rS} {n c : Nat} (hn0 : 0 < n) (hn : n ≤ 40) (hc0 : 0 < c) (hC : c ≤ 12) {q : sQ} (h : tR s e) : tR (if (v3 sg t (nI n) (nI c) s).2.2.2.2.2.1 = 0 ∧ (rt (q.2.1 (v1 sg t (nI n) s).1.toNatClampNeg) c (v2 sg t (nI n) (nI c) s).1 = rt (q.2.1 (v1 sg t (nI n) s).1.toNatClampNeg) c (v3 sg t (nI n) (nI c) s).1) then refS (v3 sg t (nI n) (nI c) s).2 2 (nI (v2 sg t (nI n) (nI c) s).2.2.1) else (v3 sg t (nI n) (nI c) s).2) (rNu sg t (rNe (rNu sg t (rNu sg t e 0 (nI n - 1)).2 0 (nI c - 1)).2 (bz (rjX c q (rNu sg t e 0 (nI n - 1)).1 (rNu sg t (rNu sg t e 0 (nI n - 1)).2 0 (nI c - 1)).1 (rNu sg t (rNu sg t e 0 (nI n - 1)).2 0 (nI c - 1)).2.2.2.2.1))) 0 (nI c - 1)).2 ∧ ((if (v3 sg t (nI n) (nI c) s).2.2.2.2.2.1 = 0 ∧ (rt (q.2.1 (v1 sg t (nI n) s).1.toNatClampNeg) c (v2 sg t (nI n) (nI c) s).1 = rt (q.2.1 (v1 sg t (nI n) s).1.toNatClampNeg) c (v3 sg t (nI n) (nI c) s).1) then refS (v3 sg t (nI n) (nI c) s).2 2 (nI (v2 sg t (nI n) (nI c) s).2.2.1) else (v3 sg t (nI n) (nI c) s).2).2.2.2.2.1 = 0 → (rNu sg t (rNe (rNu sg t (rNu sg t e 0 (nI n - 1)).2 0 (nI c - 1)).2 (bz (rjX c q (rNu sg t e 0 (nI n - 1)).1 (rNu sg t (rNu sg t e 0 (nI n - 1)).2 0 (nI c - 1)).1 (rNu sg t (rNu sg t e 0 (nI n - 1)).2 0 (nI c - 1)).2.2.2.2.1))) 0 (nI c - 1)).1 = (v3 sg t (nI n) (nI c) s).1) := by
  have a2 := R_d2 (sg := sg) (t := t) hn0 hn hc0 hC h
  refine R_ne (sg := sg) (t := t) (lo := 0) (up := nI c - 1) (C := (rt (q.2.1 (v1 sg t (nI n) s).1.toNatClampNeg) c (v2 sg t (nI n) (nI c) s).1 = rt (q.2.1 (v1 sg t (nI n) s).1.toNatClampNeg) c (v3 sg t (nI n) (nI c) s).1)) a2.1 (nI_p1 hc0 (by omega)) (fun k1 k2 k3 k4 k5 k6 => ?_)
  have g := a2.2 k1
  rw [bz_0, g.1, g.2, k5]
  have k7 : (v3 sg t (nI n) (nI c) s).1 = (v2 sg t (nI n) (nI c) s).2.2.2.2.1 := k6
  rw [k7]
  have k8 : vI c (v2 sg t (nI n) (nI c) s).2.2.2.2.1 := (le_pr hc0 (by omega)).mp ⟨k3, k4⟩
  exact ⟨fun a => Decidable.byContradiction (fun b => a (Or.inr b)), fun a b => b.elim (fun b1 => b1 k8) (fun b1 => b1 a)⟩
theorem R_ds {sg : Nat → Int32} {t : Nat} {s : tS} {e : rS} {n c : Nat} (hn0 : 0 < n) (hn : n ≤ 40) (hc0 : 0 < c) (hC : c ≤ 12) {q : sQ} (hq : q.1 = n) (h : tR s e) : tR (if (v1 sg t (nI n) s).2.2.2.2.2.1 = 0 ∧ q.2.2.1 (v1 sg t (nI n) s).1.toNatClampNeg = -1 then refS (v1 sg t (nI n) s).2 2 (nI s.2.1) else (v1 sg t (nI n) s).2) (rNu sg t (rNe e (bz (rsX q e.2.2.2.1))) 0 (nI n - 1)).2 ∧ ((if (v1 sg t (nI n) s).2.2.2.2.2.1 = 0 ∧ q.2.2.1 (v1 sg t (nI n) s).1.toNatClampNeg = -1 then refS (v1 sg t (nI n) s).2 2 (nI s.2.1) else (v1 sg t (nI n) s).2).2.2.2.2.1 = 0 → (rNu sg t (rNe e (bz (rsX q e.2.2.2.1))) 0 (nI n - 1)).1 = (v1 sg t (nI n) s).1) := by
  refine R_ne (sg := sg) (t := t) (lo := 0) (up := nI n - 1) (C := q.2.2.1 (v1 sg t (nI n) s).1.toNatClampNeg = -1) h (nI_p1 hn0 (by omega)) (fun k1 k2 k3 k4 k5 k6 => ?_)
  have k7 : (v1 sg t (nI n) s).1 = s.2.2.2.1 := k6
  rw [bz_0, k5, k7]
  have k8 : vI q.1 s.2.2.2.1 := by
    rw [hq]
    exact (le_pr hn0 (by omega)).mp ⟨k3, k4⟩
  exact ⟨fun a => Decidable.byContradiction (fun b => a (Or.inr b)), fun a b => b.elim (fun b1 => b1 k8) (fun b1 => b1 a)⟩
