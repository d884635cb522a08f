theorem lk_no {l1 l2 : List mz_En} {pc : Nat} (h : l1.all (fun e => Nat.blt e.1 pc) = true) : mz_lk (l1 ++ l2) pc = mz_lk l2 pc := by
  induction l1 with
  | nil => rfl
  | cons e r ih =>
    rw [List.all_cons, Bool.and_eq_true] at h
    have h1 : Nat.beq e.1 pc = false := by
      have := Nat.le_of_ble_eq_true h.1
      cases hb : Nat.beq e.1 pc
      · rfl
      · have := Nat.eq_of_beq_eq_true hb
        omega
    show (bif Nat.beq e.1 pc then some e.2 else mz_lk (r ++ l2) pc) = _
    rw [h1]
    exact ih h.2
theorem lk_in {l1 l2 : List mz_En} {pc : Nat} {e : Instr × Nat × List Nat} (h : mz_lk l1 pc = some e) : mz_lk (l1 ++ l2) pc = some e := by
  induction l1 with
  | nil => exact absurd h (fun q => nomatch q)
  | cons a r ih =>
    revert h
    show (bif Nat.beq a.1 pc then some a.2 else mz_lk r pc) = some e → (bif Nat.beq a.1 pc then some a.2 else mz_lk (r ++ l2) pc) = some e
    cases Nat.beq a.1 pc
    · exact ih
    · exact id
theorem all_lt {l : List mz_En} {a b : Nat} (h : l.all (fun e => Nat.blt e.1 a) = true) (hb : a ≤ b) : l.all (fun e => Nat.blt e.1 b) = true := by
  rw [List.all_eq_true] at h ⊢
  intro e he
  have := Nat.le_of_ble_eq_true (h e he)
  exact Nat.ble_eq_true_of_le (Nat.le_trans this hb)
theorem la_0 : yt_Law_law_0.all (fun e => Nat.blt e.1 362) = true := by decide +kernel
theorem la_1 : yt_Law_law_1.all (fun e => Nat.blt e.1 488) = true := by decide +kernel
theorem la_2 : yt_Law_law_2.all (fun e => Nat.blt e.1 612) = true := by decide +kernel
theorem la_3 : yt_Law_law_3.all (fun e => Nat.blt e.1 738) = true := by decide +kernel
theorem la_4 : yt_Law_law_4.all (fun e => Nat.blt e.1 892) = true := by decide +kernel
theorem la_5 : yt_Law_law_5.all (fun e => Nat.blt e.1 1026) = true := by decide +kernel
theorem la_6 : yt_Law_law_6.all (fun e => Nat.blt e.1 1146) = true := by decide +kernel
theorem la_7 : yt_Law_law_7.all (fun e => Nat.blt e.1 1274) = true := by decide +kernel
theorem la_8 : yt_Law_law_8.all (fun e => Nat.blt e.1 1392) = true := by decide +kernel
theorem la_9 : yt_Law_law_9.all (fun e => Nat.blt e.1 1510) = true := by decide +kernel
theorem la_10 : yt_Law_law_10.all (fun e => Nat.blt e.1 1634) = true := by decide +kernel
theorem la_11 : yt_Law_law_11.all (fun e => Nat.blt e.1 1764) = true := by decide +kernel
theorem lk_0 {pc : Nat} {e : Instr × Nat × List Nat} (h : mz_lk yt_Law_law_0 pc = some e) (hp : Nat.ble 0 pc = true) : mz_lk ym_Law_law.2.2.2.2.2.2 pc = some e := lk_in h
theorem lk_1 {pc : Nat} {e : Instr × Nat × List Nat} (h : mz_lk yt_Law_law_1 pc = some e) (hp : Nat.ble 362 pc = true) : mz_lk ym_Law_law.2.2.2.2.2.2 pc = some e := (lk_no (all_lt la_0 (Nat.le_trans (Nat.le_of_ble_eq_true rfl) (Nat.le_of_ble_eq_true hp)))).trans (lk_in h)
theorem lk_2 {pc : Nat} {e : Instr × Nat × List Nat} (h : mz_lk yt_Law_law_2 pc = some e) (hp : Nat.ble 488 pc = true) : mz_lk ym_Law_law.2.2.2.2.2.2 pc = some e := (lk_no (all_lt la_0 (Nat.le_trans (Nat.le_of_ble_eq_true rfl) (Nat.le_of_ble_eq_true hp)))).trans ((lk_no (all_lt la_1 (Nat.le_trans (Nat.le_of_ble_eq_true rfl) (Nat.le_of_ble_eq_true hp)))).trans (lk_in h))
theorem lk_3 {pc : Nat} {e : Instr × Nat × List Nat} (h : mz_lk yt_Law_law_3 pc = some e) (hp : Nat.ble 612 pc = true) : mz_lk ym_Law_law.2.2.2.2.2.2 pc = some e := (lk_no (all_lt la_0 (Nat.le_trans (Nat.le_of_ble_eq_true rfl) (Nat.le_of_ble_eq_true hp)))).trans ((lk_no (all_lt la_1 (Nat.le_trans (Nat.le_of_ble_eq_true rfl) (Nat.le_of_ble_eq_true hp)))).trans ((lk_no (all_lt la_2 (Nat.le_trans (Nat.le_of_ble_eq_true rfl) (Nat.le_of_ble_eq_true hp)))).trans (lk_in h)))
theorem lk_4 {pc : Nat} {e : Instr × Nat × List Nat} (h : mz_lk yt_Law_law_4 pc = some e) (hp : Nat.ble 738 pc = true) : mz_lk ym_Law_law.2.2.2.2.2.2 pc = some e := (lk_no (all_lt la_0 (Nat.le_trans (Nat.le_of_ble_eq_true rfl) (Nat.le_of_ble_eq_true hp)))).trans ((lk_no (all_lt la_1 (Nat.le_trans (Nat.le_of_ble_eq_true rfl) (Nat.le_of_ble_eq_true hp)))).trans ((lk_no (all_lt la_2 (Nat.le_trans (Nat.le_of_ble_eq_true rfl) (Nat.le_of_ble_eq_true hp)))).trans ((lk_no (all_lt la_3 (Nat.le_trans (Nat.le_of_ble_eq_true rfl) (Nat.le_of_ble_eq_true hp)))).trans (lk_in h))))
theorem lk_5 {pc : Nat} {e : Instr × Nat × List Nat} (h : mz_lk yt_Law_law_5 pc = some e) (hp : Nat.ble 892 pc = true) : mz_lk ym_Law_law.2.2.2.2.2.2 pc = some e := (lk_no (all_lt la_0 (Nat.le_trans (Nat.le_of_ble_eq_true rfl) (Nat.le_of_ble_eq_true hp)))).trans ((lk_no (all_lt la_1 (Nat.le_trans (Nat.le_of_ble_eq_true rfl) (Nat.le_of_ble_eq_true hp)))).trans ((lk_no (all_lt la_2 (Nat.le_trans (Nat.le_of_ble_eq_true rfl) (Nat.le_of_ble_eq_true hp)))).trans ((lk_no (all_lt la_3 (Nat.le_trans (Nat.le_of_ble_eq_true rfl) (Nat.le_of_ble_eq_true hp)))).trans ((lk_no (all_lt la_4 (Nat.le_trans (Nat.le_of_ble_eq_true rfl) (Nat.le_of_ble_eq_true hp)))).trans (lk_in h)))))
theorem lk_6 {pc : Nat} {e : Instr × Nat × List Nat} (h : mz_lk yt_Law_law_6 pc = some e) (hp : Nat.ble 1026 pc = true) : mz_lk ym_Law_law.2.2.2.2.2.2 pc = some e := (lk_no (all_lt la_0 (Nat.le_trans (Nat.le_of_ble_eq_true rfl) (Nat.le_of_ble_eq_true hp)))).trans ((lk_no (all_lt la_1 (Nat.le_trans (Nat.le_of_ble_eq_true rfl) (Nat.le_of_ble_eq_true hp)))).trans ((lk_no (all_lt la_2 (Nat.le_trans (Nat.le_of_ble_eq_true rfl) (Nat.le_of_ble_eq_true hp)))).trans ((lk_no (all_lt la_3 (Nat.le_trans (Nat.le_of_ble_eq_true rfl) (Nat.le_of_ble_eq_true hp)))).trans ((lk_no (all_lt la_4 (Nat.le_trans (Nat.le_of_ble_eq_true rfl) (Nat.le_of_ble_eq_true hp)))).trans ((lk_no (all_lt la_5 (Nat.le_trans (Nat.le_of_ble_eq_true rfl) (Nat.le_of_ble_eq_true hp)))).trans (lk_in h))))))
theorem lk_7 {pc : Nat} {e : Instr × Nat × List Nat} (h : mz_lk yt_Law_law_7 pc = some e) (hp : Nat.ble 1146 pc = true) : mz_lk ym_Law_law.2.2.2.2.2.2 pc = some e := (lk_no (all_lt la_0 (Nat.le_trans (Nat.le_of_ble_eq_true rfl) (Nat.le_of_ble_eq_true hp)))).trans ((lk_no (all_lt la_1 (Nat.le_trans (Nat.le_of_ble_eq_true rfl) (Nat.le_of_ble_eq_true hp)))).trans ((lk_no (all_lt la_2 (Nat.le_trans (Nat.le_of_ble_eq_true rfl) (Nat.le_of_ble_eq_true hp)))).trans ((lk_no (all_lt la_3 (Nat.le_trans (Nat.le_of_ble_eq_true rfl) (Nat.le_of_ble_eq_true hp)))).trans ((lk_no (all_lt la_4 (Nat.le_trans (Nat.le_of_ble_eq_true rfl) (Nat.le_of_ble_eq_true hp)))).trans ((lk_no (all_lt la_5 (Nat.le_trans (Nat.le_of_ble_eq_true rfl) (Nat.le_of_ble_eq_true hp)))).trans ((lk_no (all_lt la_6 (Nat.le_trans (Nat.le_of_ble_eq_true rfl) (Nat.le_of_ble_eq_true hp)))).trans (lk_in h)))))))
theorem lk_8 {pc : Nat} {e : Instr × Nat × List Nat} (h : mz_lk yt_Law_law_8 pc = some e) (hp : Nat.ble 1274 pc = true) : mz_lk ym_Law_law.2.2.2.2.2.2 pc = some e := (lk_no (all_lt la_0 (Nat.le_trans (Nat.le_of_ble_eq_true rfl) (Nat.le_of_ble_eq_true hp)))).trans ((lk_no (all_lt la_1 (Nat.le_trans (Nat.le_of_ble_eq_true rfl) (Nat.le_of_ble_eq_true hp)))).trans ((lk_no (all_lt la_2 (Nat.le_trans (Nat.le_of_ble_eq_true rfl) (Nat.le_of_ble_eq_true hp)))).trans ((lk_no (all_lt la_3 (Nat.le_trans (Nat.le_of_ble_eq_true rfl) (Nat.le_of_ble_eq_true hp)))).trans ((lk_no (all_lt la_4 (Nat.le_trans (Nat.le_of_ble_eq_true rfl) (Nat.le_of_ble_eq_true hp)))).trans ((lk_no (all_lt la_5 (Nat.le_trans (Nat.le_of_ble_eq_true rfl) (Nat.le_of_ble_eq_true hp)))).trans ((lk_no (all_lt la_6 (Nat.le_trans (Nat.le_of_ble_eq_true rfl) (Nat.le_of_ble_eq_true hp)))).trans ((lk_no (all_lt la_7 (Nat.le_trans (Nat.le_of_ble_eq_true rfl) (Nat.le_of_ble_eq_true hp)))).trans (lk_in h))))))))
theorem lk_9 {pc : Nat} {e : Instr × Nat × List Nat} (h : mz_lk yt_Law_law_9 pc = some e) (hp : Nat.ble 1392 pc = true) : mz_lk ym_Law_law.2.2.2.2.2.2 pc = some e := (lk_no (all_lt la_0 (Nat.le_trans (Nat.le_of_ble_eq_true rfl) (Nat.le_of_ble_eq_true hp)))).trans ((lk_no (all_lt la_1 (Nat.le_trans (Nat.le_of_ble_eq_true rfl) (Nat.le_of_ble_eq_true hp)))).trans ((lk_no (all_lt la_2 (Nat.le_trans (Nat.le_of_ble_eq_true rfl) (Nat.le_of_ble_eq_true hp)))).trans ((lk_no (all_lt la_3 (Nat.le_trans (Nat.le_of_ble_eq_true rfl) (Nat.le_of_ble_eq_true hp)))).trans ((lk_no (all_lt la_4 (Nat.le_trans (Nat.le_of_ble_eq_true rfl) (Nat.le_of_ble_eq_true hp)))).trans ((lk_no (all_lt la_5 (Nat.le_trans (Nat.le_of_ble_eq_true rfl) (Nat.le_of_ble_eq_true hp)))).trans ((lk_no (all_lt la_6 (Nat.le_trans (Nat.le_of_ble_eq_true rfl) (Nat.le_of_ble_eq_true hp)))).trans ((lk_no (all_lt la_7 (Nat.le_trans (Nat.le_of_ble_eq_true rfl) (Nat.le_of_ble_eq_true hp)))).trans ((lk_no (all_lt la_8 (Nat.le_trans (Nat.le_of_ble_eq_true rfl) (Nat.le_of_ble_eq_true hp)))).trans (lk_in h)))))))))
theorem lk_10 {pc : Nat} {e : Instr × Nat × List Nat} (h : mz_lk yt_Law_law_10 pc = some e) (hp : Nat.ble 1510 pc = true) : mz_lk ym_Law_law.2.2.2.2.2.2 pc = some e := (lk_no (all_lt la_0 (Nat.le_trans (Nat.le_of_ble_eq_true rfl) (Nat.le_of_ble_eq_true hp)))).trans ((lk_no (all_lt la_1 (Nat.le_trans (Nat.le_of_ble_eq_true rfl) (Nat.le_of_ble_eq_true hp)))).trans ((lk_no (all_lt la_2 (Nat.le_trans (Nat.le_of_ble_eq_true rfl) (Nat.le_of_ble_eq_true hp)))).trans ((lk_no (all_lt la_3 (Nat.le_trans (Nat.le_of_ble_eq_true rfl) (Nat.le_of_ble_eq_true hp)))).trans ((lk_no (all_lt la_4 (Nat.le_trans (Nat.le_of_ble_eq_true rfl) (Nat.le_of_ble_eq_true hp)))).trans ((lk_no (all_lt la_5 (Nat.le_trans (Nat.le_of_ble_eq_true rfl) (Nat.le_of_ble_eq_true hp)))).trans ((lk_no (all_lt la_6 (Nat.le_trans (Nat.le_of_ble_eq_true rfl) (Nat.le_of_ble_eq_true hp)))).trans ((lk_no (all_lt la_7 (Nat.le_trans (Nat.le_of_ble_eq_true rfl) (Nat.le_of_ble_eq_true hp)))).trans ((lk_no (all_lt la_8 (Nat.le_trans (Nat.le_of_ble_eq_true rfl) (Nat.le_of_ble_eq_true hp)))).trans ((lk_no (all_lt la_9 (Nat.le_trans (Nat.le_of_ble_eq_true rfl) (Nat.le_of_ble_eq_true hp)))).trans (lk_in h))))))))))
theorem lk_11 {pc : Nat} {e : Instr × Nat × List Nat} (h : mz_lk yt_Law_law_11 pc = some e) (hp : Nat.ble 1634 pc = true) : mz_lk ym_Law_law.2.2.2.2.2.2 pc = some e := (lk_no (all_lt la_0 (Nat.le_trans (Nat.le_of_ble_eq_true rfl) (Nat.le_of_ble_eq_true hp)))).trans ((lk_no (all_lt la_1 (Nat.le_trans (Nat.le_of_ble_eq_true rfl) (Nat.le_of_ble_eq_true hp)))).trans ((lk_no (all_lt la_2 (Nat.le_trans (Nat.le_of_ble_eq_true rfl) (Nat.le_of_ble_eq_true hp)))).trans ((lk_no (all_lt la_3 (Nat.le_trans (Nat.le_of_ble_eq_true rfl) (Nat.le_of_ble_eq_true hp)))).trans ((lk_no (all_lt la_4 (Nat.le_trans (Nat.le_of_ble_eq_true rfl) (Nat.le_of_ble_eq_true hp)))).trans ((lk_no (all_lt la_5 (Nat.le_trans (Nat.le_of_ble_eq_true rfl) (Nat.le_of_ble_eq_true hp)))).trans ((lk_no (all_lt la_6 (Nat.le_trans (Nat.le_of_ble_eq_true rfl) (Nat.le_of_ble_eq_true hp)))).trans ((lk_no (all_lt la_7 (Nat.le_trans (Nat.le_of_ble_eq_true rfl) (Nat.le_of_ble_eq_true hp)))).trans ((lk_no (all_lt la_8 (Nat.le_trans (Nat.le_of_ble_eq_true rfl) (Nat.le_of_ble_eq_true hp)))).trans ((lk_no (all_lt la_9 (Nat.le_trans (Nat.le_of_ble_eq_true rfl) (Nat.le_of_ble_eq_true hp)))).trans ((lk_no (all_lt la_10 (Nat.le_trans (Nat.le_of_ble_eq_true rfl) (Nat.le_of_ble_eq_true hp)))).trans (lk_in h)))))))))))
theorem lk_12 {pc : Nat} {e : Instr × Nat × List Nat} (h : mz_lk yt_Law_law_12 pc = some e) (hp : Nat.ble 1764 pc = true) : mz_lk ym_Law_law.2.2.2.2.2.2 pc = some e := (lk_no (all_lt la_0 (Nat.le_trans (Nat.le_of_ble_eq_true rfl) (Nat.le_of_ble_eq_true hp)))).trans ((lk_no (all_lt la_1 (Nat.le_trans (Nat.le_of_ble_eq_true rfl) (Nat.le_of_ble_eq_true hp)))).trans ((lk_no (all_lt la_2 (Nat.le_trans (Nat.le_of_ble_eq_true rfl) (Nat.le_of_ble_eq_true hp)))).trans ((lk_no (all_lt la_3 (Nat.le_trans (Nat.le_of_ble_eq_true rfl) (Nat.le_of_ble_eq_true hp)))).trans ((lk_no (all_lt la_4 (Nat.le_trans (Nat.le_of_ble_eq_true rfl) (Nat.le_of_ble_eq_true hp)))).trans ((lk_no (all_lt la_5 (Nat.le_trans (Nat.le_of_ble_eq_true rfl) (Nat.le_of_ble_eq_true hp)))).trans ((lk_no (all_lt la_6 (Nat.le_trans (Nat.le_of_ble_eq_true rfl) (Nat.le_of_ble_eq_true hp)))).trans ((lk_no (all_lt la_7 (Nat.le_trans (Nat.le_of_ble_eq_true rfl) (Nat.le_of_ble_eq_true hp)))).trans ((lk_no (all_lt la_8 (Nat.le_trans (Nat.le_of_ble_eq_true rfl) (Nat.le_of_ble_eq_true hp)))).trans ((lk_no (all_lt la_9 (Nat.le_trans (Nat.le_of_ble_eq_true rfl) (Nat.le_of_ble_eq_true hp)))).trans ((lk_no (all_lt la_10 (Nat.le_trans (Nat.le_of_ble_eq_true rfl) (Nat.le_of_ble_eq_true hp)))).trans ((lk_no (all_lt la_11 (Nat.le_trans (Nat.le_of_ble_eq_true rfl) (Nat.le_of_ble_eq_true hp)))).trans (h))))))))))))
section
variable {b n : Nat} {f : Nat → Int32} {sa : Nat → Nat} {d : Nat} {Y : mz_Y} {B : Nat × Nat} {Q : mz_P} {pc q ln : Nat} {L st : List Value} {M : mz_M} {z : Nat × Nat} {tg : List Nat}
theorem zs_len (he : mz_lk Y.2.2.2.2.2.2 pc = some (.arraylength, ln, [1])) (hp : pc + 1 = q) (k : zw (some (b, n, f)) sa d Y B Q q L (.int (nI n) :: st) M z) : zw (some (b, n, f)) sa d Y B Q pc L (.ref b :: st) M z := by
  subst hp
  exact zg he ⟨rfl, k⟩
theorem zs_ald {x : Int32} (he : mz_lk Y.2.2.2.2.2.2 pc = some (.iaload, ln, [1])) (hp : pc + 1 = q) (hx : vp_in x n) (k : zw (some (b, n, f)) sa d Y B Q q L (.int (f x.toNatClampNeg) :: st) M z) : zw (some (b, n, f)) sa d Y B Q pc L (.int x :: .ref b :: st) M z := by
  subst hp
  exact zg he ⟨rfl, hx, k⟩
theorem zs_arg {i j : Nat} {v1 v2 : Value} {c : Int} {ln1 ln2 ln3 ln4 ln5 : Nat} {tg1 tg2 tg3 tg4 : List Nat} (h1 : mz_lk Y.2.2.2.2.2.2 pc = some (.aload_n 0, ln1, tg1)) (h2 : mz_lk Y.2.2.2.2.2.2 (pc + 1) = some (.iload_n 3, ln2, tg2)) (h3 : mz_lk Y.2.2.2.2.2.2 (pc + 2) = some (.iconst c, ln3, tg3)) (h4 : mz_lk Y.2.2.2.2.2.2 (pc + 3) = some (.iadd, ln4, tg4)) (h5 : mz_lk Y.2.2.2.2.2.2 (pc + 4) = some (.iaload, ln5, [1])) (hp : pc + 5 = q) (hc : Int32.ofInt c = nI j) (hj : 6 * i + j < n) (hn : n ≤ 3072) (k : zw (some (b, n, f)) sa d Y B Q q [.ref b, v1, v2, .int (nI (6 * i))] (.int (f (6 * i + j)) :: st) M z) : zw (some (b, n, f)) sa d Y B Q pc [.ref b, v1, v2, .int (nI (6 * i))] st M z := by
  refine z_aload_n (q := pc + 1) h1 rfl rfl ?_
  refine z_iload_n (q := pc + 2) h2 rfl rfl ?_
  refine z_iconst (q := pc + 3) h3 rfl hc ?_
  refine z_iadd (q := pc + 4) h4 rfl ?_
  rw [nI_add]
  refine zs_ald h5 hp (vp_in_nI hj (by omega)) ?_
  rw [nI_clamp (by omega)]
  exact k
end
section
variable {sc : Option (Nat × Nat × (Nat → Int32))} {sa : Nat → Nat} {d : Nat} {Y : mz_Y} {B : Nat × Nat} {Q : mz_P} {pc q ln : Nat} {L st : List Value} {M : mz_M} {z : Nat × Nat} {tg : List Nat}
theorem z_ca5 {i y c r b nn : Nat} {a1 a2 a3 a4 a5 : Value} {P : Int32 → mz_M → Prop} {z' : Nat × Nat} (he : mz_lk Y.2.2.2.2.2.2 pc = some (.invokevirtual i, ln, [5, y, 6, c, r])) (hp : pc + 3 = q) (hs : Nat.ble (mz_sum st) 8 = true) (hk : M.2.2.2 b = (10 + c, nn)) (h1 : z.1 ≤ z'.1) (h2 : z.2 ≤ z'.2) (h3 : z'.1 ≤ B.1) (h4 : z'.2 ≤ B.2) (hx : mz_Kd sc sa d y [.ref b, a1, a2, a3, a4, a5] M z z' (fun r' M' => ∃ v, r' = some (.int v) ∧ P v M')) (k : ∀ v M1, P v M1 → zw sc sa d Y B Q q L (.int v :: st) M1 z') : zw sc sa d Y B Q pc L (a5 :: a4 :: a3 :: a2 :: a1 :: .ref b :: st) M z := by
  subst hp
  exact zg he ⟨by show mz_kd M b = 10 + c; unfold mz_kd; rw [hk], by simp, by simpa using hs, z', h1, h2, h3, h4, mz_Kd_m sc sa d _ _ _ _ _ _ _ (fun r2 M2 ⟨v2, h2, h3⟩ => by rw [h2]; exact k _ _ h3) hx⟩
end
