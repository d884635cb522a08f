-- kinds in the two readers
theorem wq_x {sg : Nat → Int32} {t : Nat} {s : tS} {i : Nat} (h : wq sg t s 0 = true) (h1 : 1 ≤ i) (h2 : i ≤ 6) : ¬ wq sg t s i = true := by
  intro g
  have a := (of_decide_eq_true h).2.1
  have b := (of_decide_eq_true g).2.1
  have c : ∀ i, i < 7 → 1 ≤ i → ¬ mw_len10.getD i 0 = mw_len10.getD 0 0 := by decide
  exact c i (by omega) h1 (b.symm.trans a)
theorem R_kh {sg : Nat → Int32} {t : Nat} {s : tS} {e : rS} (h : tR s e) (g : s.2.2.2.2.1 = 0) : khR sg t e = if wq sg t s 2 = true then 0 else if wq sg t s 3 = true then 1 else if wq sg t s 4 = true then 2 else if wq sg t s 5 = true then 3 else if wq sg t s 6 = true then 4 else -1 := by
  unfold khR
  rw [R_w (i := 2) h g, R_w (i := 3) h g, R_w (i := 4) h g, R_w (i := 5) h g, R_w (i := 6) h g]
