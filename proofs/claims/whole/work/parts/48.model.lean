-- the reference: its fields F, its rows A (row j lies at m + j)
def moF (M : mz_M) (m : Nat) (F : Nat → Int32) (A : Nat → Nat → Int32) : mz_M := (fun a => if a = m then F else if m < a ∧ a ≤ m + 20 then A (a - m) else M.1 a, M.2)
theorem up_s {α : Type} {f : Nat → α} {k : Nat} {x : α} : va_up f k x k = x := if_pos rfl
theorem up_n {α : Type} {f : Nat → α} {k j : Nat} {x : α} (h : j ≠ k) : va_up f k x j = f j := if_neg h
theorem up_e {α : Type} {f : Nat → α} {k : Nat} : va_up f k (f k) = f := by
  funext j
  by_cases h : j = k
  · rw [h, up_s]
  · rw [up_n h]
theorem up_u {α : Type} {f : Nat → α} {k : Nat} {x y : α} : va_up (va_up f k x) k y = va_up f k y := by
  funext j
  by_cases h : j = k
  · rw [h, up_s, up_s]
  · rw [up_n h, up_n h, up_n h]
theorem up_c {α : Type} {f : Nat → α} {k l : Nat} {x y : α} (h : k ≠ l) : va_up (va_up f k x) l y = va_up (va_up f l y) k x := by
  funext j
  by_cases h1 : j = k
  · rw [h1, up_s, up_n h, up_s]
  · rw [up_n h1]
    by_cases h2 : j = l
    · rw [h2, up_s, up_s]
    · rw [up_n h2, up_n h2, up_n h1]
section
variable {M : mz_M} {m : Nat} {F : Nat → Int32} {A : Nat → Nat → Int32}
theorem moF_g : (moF M m F A).1 m = F := if_pos rfl
theorem moF_a {j : Nat} (h : 0 < j) (h2 : j ≤ 20) : (moF M m F A).1 (m + j) = A j := by
  show (if m + j = m then F else if m < m + j ∧ m + j ≤ m + 20 then A (m + j - m) else M.1 (m + j)) = A j
  rw [if_neg (by omega), if_pos (by omega), Nat.add_sub_cancel_left]
theorem moF_o {a : Nat} (h : a < m ∨ m + 20 < a) : (moF M m F A).1 a = M.1 a := by
  show (if a = m then F else if m < a ∧ a ≤ m + 20 then A (a - m) else M.1 a) = M.1 a
  rw [if_neg (by omega), if_neg (by omega)]
theorem moF_u {k : Nat} {x : Int32} : mz_uI (moF M m F A) m k x = moF M m (va_up F k x) A := by
  show (va_up (moF M m F A).1 m (va_up ((moF M m F A).1 m) k x), M.2) = ((moF M m (va_up F k x) A).1, M.2)
  refine congrArg (fun f => (f, M.2)) ?_
  rw [moF_g]
  funext a
  by_cases h : a = m
  · rw [h, up_s, moF_g]
  · rw [up_n h]
    show (if a = m then F else if m < a ∧ a ≤ m + 20 then A (a - m) else M.1 a) = (if a = m then va_up F k x else if m < a ∧ a ≤ m + 20 then A (a - m) else M.1 a)
    rw [if_neg h, if_neg h]
theorem moF_w {j k : Nat} {x : Int32} (h : 0 < j) (h2 : j ≤ 20) : mz_uI (moF M m F A) (m + j) k x = moF M m F (va_up A j (va_up (A j) k x)) := by
  show (va_up (moF M m F A).1 (m + j) (va_up ((moF M m F A).1 (m + j)) k x), M.2) = ((moF M m F (va_up A j (va_up (A j) k x))).1, M.2)
  refine congrArg (fun f => (f, M.2)) ?_
  rw [moF_a h h2]
  funext a
  by_cases h3 : a = m + j
  · rw [h3, up_s, moF_a h h2, up_s]
  · rw [up_n h3]
    show (if a = m then F else if m < a ∧ a ≤ m + 20 then A (a - m) else M.1 a) = (if a = m then F else if m < a ∧ a ≤ m + 20 then va_up A j (va_up (A j) k x) (a - m) else M.1 a)
    by_cases h4 : a = m
    · rw [if_pos h4, if_pos h4]
    · rw [if_neg h4, if_neg h4]
      by_cases h5 : m < a ∧ a ≤ m + 20
      · rw [if_pos h5, if_pos h5, up_n (by omega)]
      · rw [if_neg h5, if_neg h5]
theorem moF_eta : moF M m (M.1 m) (fun j => M.1 (m + j)) = M := by
  show ((fun a => if a = m then M.1 m else if m < a ∧ a ≤ m + 20 then M.1 (m + (a - m)) else M.1 a), M.2) = M
  refine Eq.trans (congrArg (fun f => (f, M.2)) (?_ : _ = M.1)) rfl
  funext a
  by_cases h4 : a = m
  · rw [if_pos h4, h4]
  · rw [if_neg h4]
    by_cases h5 : m < a ∧ a ≤ m + 20
    · rw [if_pos h5, show m + (a - m) = a by omega]
    · rw [if_neg h5]
theorem moF_g3 : (moF M m F A).1 m 3 = F 3 := congrFun moF_g 3
theorem moF_u3 {x : Int32} : mz_uI (moF M m F A) m 3 x = moF M m (va_up F 3 x) A := moF_u
theorem moF_g4 : (moF M m F A).1 m 4 = F 4 := congrFun moF_g 4
theorem moF_u4 {x : Int32} : mz_uI (moF M m F A) m 4 x = moF M m (va_up F 4 x) A := moF_u
theorem moF_g5 : (moF M m F A).1 m 5 = F 5 := congrFun moF_g 5
theorem moF_u5 {x : Int32} : mz_uI (moF M m F A) m 5 x = moF M m (va_up F 5 x) A := moF_u
theorem moF_g14 : (moF M m F A).1 m 14 = F 14 := congrFun moF_g 14
theorem moF_u14 {x : Int32} : mz_uI (moF M m F A) m 14 x = moF M m (va_up F 14 x) A := moF_u
theorem moF_g15 : (moF M m F A).1 m 15 = F 15 := congrFun moF_g 15
theorem moF_u15 {x : Int32} : mz_uI (moF M m F A) m 15 x = moF M m (va_up F 15 x) A := moF_u
theorem moF_g16 : (moF M m F A).1 m 16 = F 16 := congrFun moF_g 16
theorem moF_u16 {x : Int32} : mz_uI (moF M m F A) m 16 x = moF M m (va_up F 16 x) A := moF_u
theorem moF_g17 : (moF M m F A).1 m 17 = F 17 := congrFun moF_g 17
theorem moF_u17 {x : Int32} : mz_uI (moF M m F A) m 17 x = moF M m (va_up F 17 x) A := moF_u
theorem moF_g19 : (moF M m F A).1 m 19 = F 19 := congrFun moF_g 19
theorem moF_u19 {x : Int32} : mz_uI (moF M m F A) m 19 x = moF M m (va_up F 19 x) A := moF_u
theorem moF_g20 : (moF M m F A).1 m 20 = F 20 := congrFun moF_g 20
theorem moF_u20 {x : Int32} : mz_uI (moF M m F A) m 20 x = moF M m (va_up F 20 x) A := moF_u
theorem moF_g21 : (moF M m F A).1 m 21 = F 21 := congrFun moF_g 21
theorem moF_u21 {x : Int32} : mz_uI (moF M m F A) m 21 x = moF M m (va_up F 21 x) A := moF_u
theorem moF_g22 : (moF M m F A).1 m 22 = F 22 := congrFun moF_g 22
theorem moF_u22 {x : Int32} : mz_uI (moF M m F A) m 22 x = moF M m (va_up F 22 x) A := moF_u
theorem moF_g23 : (moF M m F A).1 m 23 = F 23 := congrFun moF_g 23
theorem moF_u23 {x : Int32} : mz_uI (moF M m F A) m 23 x = moF M m (va_up F 23 x) A := moF_u
theorem moF_g24 : (moF M m F A).1 m 24 = F 24 := congrFun moF_g 24
theorem moF_u24 {x : Int32} : mz_uI (moF M m F A) m 24 x = moF M m (va_up F 24 x) A := moF_u
theorem moF_g25 : (moF M m F A).1 m 25 = F 25 := congrFun moF_g 25
theorem moF_u25 {x : Int32} : mz_uI (moF M m F A) m 25 x = moF M m (va_up F 25 x) A := moF_u
theorem moF_g28 : (moF M m F A).1 m 28 = F 28 := congrFun moF_g 28
theorem moF_u28 {x : Int32} : mz_uI (moF M m F A) m 28 x = moF M m (va_up F 28 x) A := moF_u
theorem moF_g29 : (moF M m F A).1 m 29 = F 29 := congrFun moF_g 29
theorem moF_u29 {x : Int32} : mz_uI (moF M m F A) m 29 x = moF M m (va_up F 29 x) A := moF_u
theorem moF_g30 : (moF M m F A).1 m 30 = F 30 := congrFun moF_g 30
theorem moF_u30 {x : Int32} : mz_uI (moF M m F A) m 30 x = moF M m (va_up F 30 x) A := moF_u
theorem moF_g37 : (moF M m F A).1 m 37 = F 37 := congrFun moF_g 37
theorem moF_u37 {x : Int32} : mz_uI (moF M m F A) m 37 x = moF M m (va_up F 37 x) A := moF_u
theorem moF_a0 : (moF M m F A).1 (m + 1) = A 1 := moF_a (by decide) (by decide)
theorem moF_w0 {k : Nat} {x : Int32} : mz_uI (moF M m F A) (m + 1) k x = moF M m F (va_up A 1 (va_up (A 1) k x)) := moF_w (by decide) (by decide)
theorem moF_a1 : (moF M m F A).1 (m + 2) = A 2 := moF_a (by decide) (by decide)
theorem moF_w1 {k : Nat} {x : Int32} : mz_uI (moF M m F A) (m + 2) k x = moF M m F (va_up A 2 (va_up (A 2) k x)) := moF_w (by decide) (by decide)
theorem moF_a2 : (moF M m F A).1 (m + 3) = A 3 := moF_a (by decide) (by decide)
theorem moF_w2 {k : Nat} {x : Int32} : mz_uI (moF M m F A) (m + 3) k x = moF M m F (va_up A 3 (va_up (A 3) k x)) := moF_w (by decide) (by decide)
theorem moF_a6 : (moF M m F A).1 (m + 4) = A 4 := moF_a (by decide) (by decide)
theorem moF_w6 {k : Nat} {x : Int32} : mz_uI (moF M m F A) (m + 4) k x = moF M m F (va_up A 4 (va_up (A 4) k x)) := moF_w (by decide) (by decide)
theorem moF_a7 : (moF M m F A).1 (m + 5) = A 5 := moF_a (by decide) (by decide)
theorem moF_w7 {k : Nat} {x : Int32} : mz_uI (moF M m F A) (m + 5) k x = moF M m F (va_up A 5 (va_up (A 5) k x)) := moF_w (by decide) (by decide)
theorem moF_a8 : (moF M m F A).1 (m + 6) = A 6 := moF_a (by decide) (by decide)
theorem moF_w8 {k : Nat} {x : Int32} : mz_uI (moF M m F A) (m + 6) k x = moF M m F (va_up A 6 (va_up (A 6) k x)) := moF_w (by decide) (by decide)
theorem moF_a9 : (moF M m F A).1 (m + 7) = A 7 := moF_a (by decide) (by decide)
theorem moF_w9 {k : Nat} {x : Int32} : mz_uI (moF M m F A) (m + 7) k x = moF M m F (va_up A 7 (va_up (A 7) k x)) := moF_w (by decide) (by decide)
theorem moF_a10 : (moF M m F A).1 (m + 8) = A 8 := moF_a (by decide) (by decide)
theorem moF_w10 {k : Nat} {x : Int32} : mz_uI (moF M m F A) (m + 8) k x = moF M m F (va_up A 8 (va_up (A 8) k x)) := moF_w (by decide) (by decide)
theorem moF_a11 : (moF M m F A).1 (m + 9) = A 9 := moF_a (by decide) (by decide)
theorem moF_w11 {k : Nat} {x : Int32} : mz_uI (moF M m F A) (m + 9) k x = moF M m F (va_up A 9 (va_up (A 9) k x)) := moF_w (by decide) (by decide)
theorem moF_a12 : (moF M m F A).1 (m + 10) = A 10 := moF_a (by decide) (by decide)
theorem moF_w12 {k : Nat} {x : Int32} : mz_uI (moF M m F A) (m + 10) k x = moF M m F (va_up A 10 (va_up (A 10) k x)) := moF_w (by decide) (by decide)
theorem moF_a13 : (moF M m F A).1 (m + 11) = A 11 := moF_a (by decide) (by decide)
theorem moF_w13 {k : Nat} {x : Int32} : mz_uI (moF M m F A) (m + 11) k x = moF M m F (va_up A 11 (va_up (A 11) k x)) := moF_w (by decide) (by decide)
theorem moF_a18 : (moF M m F A).1 (m + 12) = A 12 := moF_a (by decide) (by decide)
theorem moF_w18 {k : Nat} {x : Int32} : mz_uI (moF M m F A) (m + 12) k x = moF M m F (va_up A 12 (va_up (A 12) k x)) := moF_w (by decide) (by decide)
theorem moF_a26 : (moF M m F A).1 (m + 13) = A 13 := moF_a (by decide) (by decide)
theorem moF_w26 {k : Nat} {x : Int32} : mz_uI (moF M m F A) (m + 13) k x = moF M m F (va_up A 13 (va_up (A 13) k x)) := moF_w (by decide) (by decide)
theorem moF_a27 : (moF M m F A).1 (m + 14) = A 14 := moF_a (by decide) (by decide)
theorem moF_w27 {k : Nat} {x : Int32} : mz_uI (moF M m F A) (m + 14) k x = moF M m F (va_up A 14 (va_up (A 14) k x)) := moF_w (by decide) (by decide)
theorem moF_a31 : (moF M m F A).1 (m + 15) = A 15 := moF_a (by decide) (by decide)
theorem moF_w31 {k : Nat} {x : Int32} : mz_uI (moF M m F A) (m + 15) k x = moF M m F (va_up A 15 (va_up (A 15) k x)) := moF_w (by decide) (by decide)
theorem moF_a32 : (moF M m F A).1 (m + 16) = A 16 := moF_a (by decide) (by decide)
theorem moF_w32 {k : Nat} {x : Int32} : mz_uI (moF M m F A) (m + 16) k x = moF M m F (va_up A 16 (va_up (A 16) k x)) := moF_w (by decide) (by decide)
theorem moF_a33 : (moF M m F A).1 (m + 17) = A 17 := moF_a (by decide) (by decide)
theorem moF_w33 {k : Nat} {x : Int32} : mz_uI (moF M m F A) (m + 17) k x = moF M m F (va_up A 17 (va_up (A 17) k x)) := moF_w (by decide) (by decide)
theorem moF_a34 : (moF M m F A).1 (m + 18) = A 18 := moF_a (by decide) (by decide)
theorem moF_w34 {k : Nat} {x : Int32} : mz_uI (moF M m F A) (m + 18) k x = moF M m F (va_up A 18 (va_up (A 18) k x)) := moF_w (by decide) (by decide)
theorem moF_a35 : (moF M m F A).1 (m + 19) = A 19 := moF_a (by decide) (by decide)
theorem moF_w35 {k : Nat} {x : Int32} : mz_uI (moF M m F A) (m + 19) k x = moF M m F (va_up A 19 (va_up (A 19) k x)) := moF_w (by decide) (by decide)
theorem moF_a36 : (moF M m F A).1 (m + 20) = A 20 := moF_a (by decide) (by decide)
theorem moF_w36 {k : Nat} {x : Int32} : mz_uI (moF M m F A) (m + 20) k x = moF M m F (va_up A 20 (va_up (A 20) k x)) := moF_w (by decide) (by decide)
end
def zi (sc : Option (Nat × Nat × (Nat → Int32))) (sa : Nat → Nat) (d y : Nat) (args : List Value) (M : mz_M) (z : Nat × Nat) (Q : Int32 → mz_M → Prop) : Prop := mz_Kd sc sa d y args M z z (fun r' M' => ∃ v, r' = some (.int v) ∧ Q v M')
def zl (sc : Option (Nat × Nat × (Nat → Int32))) (sa : Nat → Nat) (d y : Nat) (args : List Value) (M : mz_M) (z : Nat × Nat) (Q : Int64 → mz_M → Prop) : Prop := mz_Kd sc sa d y args M z z (fun r' M' => ∃ v, r' = some (.long v) ∧ Q v M')
def zv (sc : Option (Nat × Nat × (Nat → Int32))) (sa : Nat → Nat) (d y : Nat) (args : List Value) (M : mz_M) (z : Nat × Nat) (Q : mz_M → Prop) : Prop := mz_Kd sc sa d y args M z z (fun r' M' => r' = none ∧ Q M')
theorem zi_m {sc : Option (Nat × Nat × (Nat → Int32))} {sa : Nat → Nat} {d y : Nat} {args : List Value} {M : mz_M} {z : Nat × Nat} {Q Q' : Int32 → mz_M → Prop} (h : ∀ v M1, Q v M1 → Q' v M1) (a : zi sc sa d y args M z Q) : zi sc sa d y args M z Q' := mz_Kd_m sc sa d _ _ _ _ _ _ _ (fun _ _ ⟨v, e, q⟩ => ⟨v, e, h _ _ q⟩) a
theorem zv_m {sc : Option (Nat × Nat × (Nat → Int32))} {sa : Nat → Nat} {d y : Nat} {args : List Value} {M : mz_M} {z : Nat × Nat} {Q Q' : mz_M → Prop} (h : ∀ M1, Q M1 → Q' M1) (a : zv sc sa d y args M z Q) : zv sc sa d y args M z Q' := mz_Kd_m sc sa d _ _ _ _ _ _ _ (fun _ _ ⟨e, q⟩ => ⟨e, h _ q⟩) a
theorem zl_m {sc : Option (Nat × Nat × (Nat → Int32))} {sa : Nat → Nat} {d y : Nat} {args : List Value} {M : mz_M} {z : Nat × Nat} {Q Q' : Int64 → mz_M → Prop} (h : ∀ v M1, Q v M1 → Q' v M1) (a : zl sc sa d y args M z Q) : zl sc sa d y args M z Q' := mz_Kd_m sc sa d _ _ _ _ _ _ _ (fun _ _ ⟨v, e, q⟩ => ⟨v, e, h _ _ q⟩) a
theorem zi_x {sc : Option (Nat × Nat × (Nat → Int32))} {sa : Nat → Nat} {d y : Nat} {args : List Value} {M M1 : mz_M} {z : Nat × Nat} {v : Int32} {Q : Int32 → mz_M → Prop} (a : zx sc sa d y args M z z (some (.int v)) M1) (h : Q v M1) : zi sc sa d y args M z Q := mz_Kd_m sc sa d _ _ _ _ _ _ _ (fun _ _ ⟨e, q⟩ => ⟨v, e, by rw [q]; exact h⟩) a
section
variable {sc : Option (Nat × Nat × (Nat → Int32))} {sa : Nat → Nat} {d : Nat} {Y : mz_Y} {B : Nat × Nat} {Q : mz_P} {pc q ln : Nat} {L st : List Value} {M : mz_M} {z : Nat × Nat} {tg : List Nat}
theorem z_cv0qi {i y c r b nn : Nat} {P : Int32 → mz_M → Prop} (he : mz_lk Y.2.2.2.2.2.2 pc = some (.invokevirtual i, ln, [0, y, 1, c, r])) (hp : pc + 3 = q) (hs : Nat.ble (mz_sum st) 8 = true) (hk : M.2.2.2 b = (10 + c, nn)) (hx : zi sc sa d y [.ref b] M z P) (k : ∀ x M1, P x M1 → zw sc sa d Y B Q q L (.int x :: st) M1 z) : zw sc sa d Y B Q pc L (.ref b :: st) M z := by
  subst hp
  exact zg he ⟨by show mz_kd M b = 10 + c; unfold mz_kd; rw [hk], by simp, by simpa using hs, mz_Kd_m sc sa d _ _ _ _ _ _ _ (fun r2 M2 ⟨v2, h2, h3⟩ => by rw [h2]; exact k _ _ h3) hx⟩
theorem z_cv0ql {i y c r b nn : Nat} {P : Int64 → mz_M → Prop} (he : mz_lk Y.2.2.2.2.2.2 pc = some (.invokevirtual i, ln, [0, y, 1, c, r])) (hp : pc + 3 = q) (hs : Nat.ble (mz_sum st) 8 = true) (hk : M.2.2.2 b = (10 + c, nn)) (hx : zl sc sa d y [.ref b] M z P) (k : ∀ x M1, P x M1 → zw sc sa d Y B Q q L (.long x :: st) M1 z) : zw sc sa d Y B Q pc L (.ref b :: st) M z := by
  subst hp
  exact zg he ⟨by show mz_kd M b = 10 + c; unfold mz_kd; rw [hk], by simp, by simpa using hs, mz_Kd_m sc sa d _ _ _ _ _ _ _ (fun r2 M2 ⟨v2, h2, h3⟩ => by rw [h2]; exact k _ _ h3) hx⟩
theorem z_cv0qv {i y c r b nn : Nat} {P : mz_M → Prop} (he : mz_lk Y.2.2.2.2.2.2 pc = some (.invokevirtual i, ln, [0, y, 1, c, r])) (hp : pc + 3 = q) (hs : Nat.ble (mz_sum st) 8 = true) (hk : M.2.2.2 b = (10 + c, nn)) (hx : zv sc sa d y [.ref b] M z P) (k : ∀ M1, P M1 → zw sc sa d Y B Q q L st M1 z) : zw sc sa d Y B Q pc L (.ref b :: st) M z := by
  subst hp
  exact zg he ⟨by show mz_kd M b = 10 + c; unfold mz_kd; rw [hk], by simp, by simpa using hs, mz_Kd_m sc sa d _ _ _ _ _ _ _ (fun r2 M2 h2 => by rw [h2.1]; exact k _ h2.2) hx⟩
theorem z_cv1qi {i y c r b nn : Nat} {a1 : Value} {P : Int32 → mz_M → Prop} (he : mz_lk Y.2.2.2.2.2.2 pc = some (.invokevirtual i, ln, [0, y, 2, c, r])) (hp : pc + 3 = q) (hs : Nat.ble (mz_sum st) 8 = true) (hk : M.2.2.2 b = (10 + c, nn)) (hx : zi sc sa d y [.ref b, a1] M z P) (k : ∀ x M1, P x M1 → zw sc sa d Y B Q q L (.int x :: st) M1 z) : zw sc sa d Y B Q pc L (a1 :: .ref b :: st) M z := by
  subst hp
  exact zg he ⟨by show mz_kd M b = 10 + c; unfold mz_kd; rw [hk], by simp, by simpa using hs, mz_Kd_m sc sa d _ _ _ _ _ _ _ (fun r2 M2 ⟨v2, h2, h3⟩ => by rw [h2]; exact k _ _ h3) hx⟩
theorem z_cv1ql {i y c r b nn : Nat} {a1 : Value} {P : Int64 → mz_M → Prop} (he : mz_lk Y.2.2.2.2.2.2 pc = some (.invokevirtual i, ln, [0, y, 2, c, r])) (hp : pc + 3 = q) (hs : Nat.ble (mz_sum st) 8 = true) (hk : M.2.2.2 b = (10 + c, nn)) (hx : zl sc sa d y [.ref b, a1] M z P) (k : ∀ x M1, P x M1 → zw sc sa d Y B Q q L (.long x :: st) M1 z) : zw sc sa d Y B Q pc L (a1 :: .ref b :: st) M z := by
  subst hp
  exact zg he ⟨by show mz_kd M b = 10 + c; unfold mz_kd; rw [hk], by simp, by simpa using hs, mz_Kd_m sc sa d _ _ _ _ _ _ _ (fun r2 M2 ⟨v2, h2, h3⟩ => by rw [h2]; exact k _ _ h3) hx⟩
theorem z_cv1qv {i y c r b nn : Nat} {a1 : Value} {P : mz_M → Prop} (he : mz_lk Y.2.2.2.2.2.2 pc = some (.invokevirtual i, ln, [0, y, 2, c, r])) (hp : pc + 3 = q) (hs : Nat.ble (mz_sum st) 8 = true) (hk : M.2.2.2 b = (10 + c, nn)) (hx : zv sc sa d y [.ref b, a1] M z P) (k : ∀ M1, P M1 → zw sc sa d Y B Q q L st M1 z) : zw sc sa d Y B Q pc L (a1 :: .ref b :: st) M z := by
  subst hp
  exact zg he ⟨by show mz_kd M b = 10 + c; unfold mz_kd; rw [hk], by simp, by simpa using hs, mz_Kd_m sc sa d _ _ _ _ _ _ _ (fun r2 M2 h2 => by rw [h2.1]; exact k _ h2.2) hx⟩
theorem z_cv2qi {i y c r b nn : Nat} {a1 a2 : Value} {P : Int32 → mz_M → Prop} (he : mz_lk Y.2.2.2.2.2.2 pc = some (.invokevirtual i, ln, [0, y, 3, c, r])) (hp : pc + 3 = q) (hs : Nat.ble (mz_sum st) 8 = true) (hk : M.2.2.2 b = (10 + c, nn)) (hx : zi sc sa d y [.ref b, a1, a2] M z P) (k : ∀ x M1, P x M1 → zw sc sa d Y B Q q L (.int x :: st) M1 z) : zw sc sa d Y B Q pc L (a2 :: a1 :: .ref b :: st) M z := by
  subst hp
  exact zg he ⟨by show mz_kd M b = 10 + c; unfold mz_kd; rw [hk], by simp, by simpa using hs, mz_Kd_m sc sa d _ _ _ _ _ _ _ (fun r2 M2 ⟨v2, h2, h3⟩ => by rw [h2]; exact k _ _ h3) hx⟩
theorem z_cv2ql {i y c r b nn : Nat} {a1 a2 : Value} {P : Int64 → mz_M → Prop} (he : mz_lk Y.2.2.2.2.2.2 pc = some (.invokevirtual i, ln, [0, y, 3, c, r])) (hp : pc + 3 = q) (hs : Nat.ble (mz_sum st) 8 = true) (hk : M.2.2.2 b = (10 + c, nn)) (hx : zl sc sa d y [.ref b, a1, a2] M z P) (k : ∀ x M1, P x M1 → zw sc sa d Y B Q q L (.long x :: st) M1 z) : zw sc sa d Y B Q pc L (a2 :: a1 :: .ref b :: st) M z := by
  subst hp
  exact zg he ⟨by show mz_kd M b = 10 + c; unfold mz_kd; rw [hk], by simp, by simpa using hs, mz_Kd_m sc sa d _ _ _ _ _ _ _ (fun r2 M2 ⟨v2, h2, h3⟩ => by rw [h2]; exact k _ _ h3) hx⟩
theorem z_cv2qv {i y c r b nn : Nat} {a1 a2 : Value} {P : mz_M → Prop} (he : mz_lk Y.2.2.2.2.2.2 pc = some (.invokevirtual i, ln, [0, y, 3, c, r])) (hp : pc + 3 = q) (hs : Nat.ble (mz_sum st) 8 = true) (hk : M.2.2.2 b = (10 + c, nn)) (hx : zv sc sa d y [.ref b, a1, a2] M z P) (k : ∀ M1, P M1 → zw sc sa d Y B Q q L st M1 z) : zw sc sa d Y B Q pc L (a2 :: a1 :: .ref b :: st) M z := by
  subst hp
  exact zg he ⟨by show mz_kd M b = 10 + c; unfold mz_kd; rw [hk], by simp, by simpa using hs, mz_Kd_m sc sa d _ _ _ _ _ _ _ (fun r2 M2 h2 => by rw [h2.1]; exact k _ h2.2) hx⟩
theorem z_cv3qi {i y c r b nn : Nat} {a1 a2 a3 : Value} {P : Int32 → mz_M → Prop} (he : mz_lk Y.2.2.2.2.2.2 pc = some (.invokevirtual i, ln, [0, y, 4, c, r])) (hp : pc + 3 = q) (hs : Nat.ble (mz_sum st) 8 = true) (hk : M.2.2.2 b = (10 + c, nn)) (hx : zi sc sa d y [.ref b, a1, a2, a3] M z P) (k : ∀ x M1, P x M1 → zw sc sa d Y B Q q L (.int x :: st) M1 z) : zw sc sa d Y B Q pc L (a3 :: a2 :: a1 :: .ref b :: st) M z := by
  subst hp
  exact zg he ⟨by show mz_kd M b = 10 + c; unfold mz_kd; rw [hk], by simp, by simpa using hs, mz_Kd_m sc sa d _ _ _ _ _ _ _ (fun r2 M2 ⟨v2, h2, h3⟩ => by rw [h2]; exact k _ _ h3) hx⟩
theorem z_cv3ql {i y c r b nn : Nat} {a1 a2 a3 : Value} {P : Int64 → mz_M → Prop} (he : mz_lk Y.2.2.2.2.2.2 pc = some (.invokevirtual i, ln, [0, y, 4, c, r])) (hp : pc + 3 = q) (hs : Nat.ble (mz_sum st) 8 = true) (hk : M.2.2.2 b = (10 + c, nn)) (hx : zl sc sa d y [.ref b, a1, a2, a3] M z P) (k : ∀ x M1, P x M1 → zw sc sa d Y B Q q L (.long x :: st) M1 z) : zw sc sa d Y B Q pc L (a3 :: a2 :: a1 :: .ref b :: st) M z := by
  subst hp
  exact zg he ⟨by show mz_kd M b = 10 + c; unfold mz_kd; rw [hk], by simp, by simpa using hs, mz_Kd_m sc sa d _ _ _ _ _ _ _ (fun r2 M2 ⟨v2, h2, h3⟩ => by rw [h2]; exact k _ _ h3) hx⟩
theorem z_cv3qv {i y c r b nn : Nat} {a1 a2 a3 : Value} {P : mz_M → Prop} (he : mz_lk Y.2.2.2.2.2.2 pc = some (.invokevirtual i, ln, [0, y, 4, c, r])) (hp : pc + 3 = q) (hs : Nat.ble (mz_sum st) 8 = true) (hk : M.2.2.2 b = (10 + c, nn)) (hx : zv sc sa d y [.ref b, a1, a2, a3] M z P) (k : ∀ M1, P M1 → zw sc sa d Y B Q q L st M1 z) : zw sc sa d Y B Q pc L (a3 :: a2 :: a1 :: .ref b :: st) M z := by
  subst hp
  exact zg he ⟨by show mz_kd M b = 10 + c; unfold mz_kd; rw [hk], by simp, by simpa using hs, mz_Kd_m sc sa d _ _ _ _ _ _ _ (fun r2 M2 h2 => by rw [h2.1]; exact k _ h2.2) hx⟩
theorem z_cv4qi {i y c r b nn : Nat} {a1 a2 a3 a4 : Value} {P : Int32 → mz_M → Prop} (he : mz_lk Y.2.2.2.2.2.2 pc = some (.invokevirtual i, ln, [0, y, 5, c, r])) (hp : pc + 3 = q) (hs : Nat.ble (mz_sum st) 8 = true) (hk : M.2.2.2 b = (10 + c, nn)) (hx : zi sc sa d y [.ref b, a1, a2, a3, a4] M z P) (k : ∀ x M1, P x M1 → zw sc sa d Y B Q q L (.int x :: st) M1 z) : zw sc sa d Y B Q pc L (a4 :: a3 :: a2 :: a1 :: .ref b :: st) M z := by
  subst hp
  exact zg he ⟨by show mz_kd M b = 10 + c; unfold mz_kd; rw [hk], by simp, by simpa using hs, mz_Kd_m sc sa d _ _ _ _ _ _ _ (fun r2 M2 ⟨v2, h2, h3⟩ => by rw [h2]; exact k _ _ h3) hx⟩
theorem z_cv4ql {i y c r b nn : Nat} {a1 a2 a3 a4 : Value} {P : Int64 → mz_M → Prop} (he : mz_lk Y.2.2.2.2.2.2 pc = some (.invokevirtual i, ln, [0, y, 5, c, r])) (hp : pc + 3 = q) (hs : Nat.ble (mz_sum st) 8 = true) (hk : M.2.2.2 b = (10 + c, nn)) (hx : zl sc sa d y [.ref b, a1, a2, a3, a4] M z P) (k : ∀ x M1, P x M1 → zw sc sa d Y B Q q L (.long x :: st) M1 z) : zw sc sa d Y B Q pc L (a4 :: a3 :: a2 :: a1 :: .ref b :: st) M z := by
  subst hp
  exact zg he ⟨by show mz_kd M b = 10 + c; unfold mz_kd; rw [hk], by simp, by simpa using hs, mz_Kd_m sc sa d _ _ _ _ _ _ _ (fun r2 M2 ⟨v2, h2, h3⟩ => by rw [h2]; exact k _ _ h3) hx⟩
theorem z_cv4qv {i y c r b nn : Nat} {a1 a2 a3 a4 : Value} {P : mz_M → Prop} (he : mz_lk Y.2.2.2.2.2.2 pc = some (.invokevirtual i, ln, [0, y, 5, c, r])) (hp : pc + 3 = q) (hs : Nat.ble (mz_sum st) 8 = true) (hk : M.2.2.2 b = (10 + c, nn)) (hx : zv sc sa d y [.ref b, a1, a2, a3, a4] M z P) (k : ∀ M1, P M1 → zw sc sa d Y B Q q L st M1 z) : zw sc sa d Y B Q pc L (a4 :: a3 :: a2 :: a1 :: .ref b :: st) M z := by
  subst hp
  exact zg he ⟨by show mz_kd M b = 10 + c; unfold mz_kd; rw [hk], by simp, by simpa using hs, mz_Kd_m sc sa d _ _ _ _ _ _ _ (fun r2 M2 h2 => by rw [h2.1]; exact k _ h2.2) hx⟩
theorem z_cv5qi {i y c r b nn : Nat} {a1 a2 a3 a4 a5 : Value} {P : Int32 → mz_M → Prop} (he : mz_lk Y.2.2.2.2.2.2 pc = some (.invokevirtual i, ln, [0, y, 6, c, r])) (hp : pc + 3 = q) (hs : Nat.ble (mz_sum st) 8 = true) (hk : M.2.2.2 b = (10 + c, nn)) (hx : zi sc sa d y [.ref b, a1, a2, a3, a4, a5] M z P) (k : ∀ x M1, P x M1 → zw sc sa d Y B Q q L (.int x :: st) M1 z) : zw sc sa d Y B Q pc L (a5 :: a4 :: a3 :: a2 :: a1 :: .ref b :: st) M z := by
  subst hp
  exact zg he ⟨by show mz_kd M b = 10 + c; unfold mz_kd; rw [hk], by simp, by simpa using hs, mz_Kd_m sc sa d _ _ _ _ _ _ _ (fun r2 M2 ⟨v2, h2, h3⟩ => by rw [h2]; exact k _ _ h3) hx⟩
theorem z_cv5ql {i y c r b nn : Nat} {a1 a2 a3 a4 a5 : Value} {P : Int64 → mz_M → Prop} (he : mz_lk Y.2.2.2.2.2.2 pc = some (.invokevirtual i, ln, [0, y, 6, c, r])) (hp : pc + 3 = q) (hs : Nat.ble (mz_sum st) 8 = true) (hk : M.2.2.2 b = (10 + c, nn)) (hx : zl sc sa d y [.ref b, a1, a2, a3, a4, a5] M z P) (k : ∀ x M1, P x M1 → zw sc sa d Y B Q q L (.long x :: st) M1 z) : zw sc sa d Y B Q pc L (a5 :: a4 :: a3 :: a2 :: a1 :: .ref b :: st) M z := by
  subst hp
  exact zg he ⟨by show mz_kd M b = 10 + c; unfold mz_kd; rw [hk], by simp, by simpa using hs, mz_Kd_m sc sa d _ _ _ _ _ _ _ (fun r2 M2 ⟨v2, h2, h3⟩ => by rw [h2]; exact k _ _ h3) hx⟩
theorem z_cv5qv {i y c r b nn : Nat} {a1 a2 a3 a4 a5 : Value} {P : mz_M → Prop} (he : mz_lk Y.2.2.2.2.2.2 pc = some (.invokevirtual i, ln, [0, y, 6, c, r])) (hp : pc + 3 = q) (hs : Nat.ble (mz_sum st) 8 = true) (hk : M.2.2.2 b = (10 + c, nn)) (hx : zv sc sa d y [.ref b, a1, a2, a3, a4, a5] M z P) (k : ∀ M1, P M1 → zw sc sa d Y B Q q L st M1 z) : zw sc sa d Y B Q pc L (a5 :: a4 :: a3 :: a2 :: a1 :: .ref b :: st) M z := by
  subst hp
  exact zg he ⟨by show mz_kd M b = 10 + c; unfold mz_kd; rw [hk], by simp, by simpa using hs, mz_Kd_m sc sa d _ _ _ _ _ _ _ (fun r2 M2 h2 => by rw [h2.1]; exact k _ h2.2) hx⟩
end
theorem s_Mo_in {sc : Option (Nat × Nat × (Nat → Int32))} {sa : Nat → Nat} {d : Nat} {M : mz_M} {z : Nat × Nat} {v lo hi : Int64} : zx sc sa (d + 1) 168 [.long v, .long lo, .long hi] M z z (some (.int (bz (lo ≤ v ∧ v ≤ hi)))) M := by
  refine zxin ym_Mo_in [.long v, .retAddr 0, .long lo, .retAddr 0, .long hi, .retAddr 0] rfl rfl rfl rfl ?_
  refine z_lload_n (q := 1) rfl rfl rfl ?_
  refine z_lload_n (q := 2) rfl rfl rfl ?_
  refine z_lcmp (q := 3) rfl rfl ?_
  refine z_if_lt (q := 6) rfl rfl (fun h3 => ?_) (fun h3 => ?_)
  · refine z_iconst (q := 18) (v := 0) rfl rfl rfl ?_
    refine z_iretz rfl rfl (rfl) ?_
    refine ⟨?_, rfl⟩
    first
      | (have g2 : hi < v := (lg_cmp_gt _ _).mp h10
         rw [bz_f (fun h => absurd g2 (Int64.not_lt.mpr h.2))])
      | (have g1 : ¬ v < lo := fun e => h3 ((lg_cmp_lt _ _).mpr e)
         have g2 : ¬ hi < v := fun e => h10 ((lg_cmp_gt _ _).mpr e)
         rw [bz_t ⟨Int64.not_lt.mp g1, Int64.not_lt.mp g2⟩])
      | (have g1 : v < lo := (lg_cmp_lt _ _).mp h3
         rw [bz_f (fun h => absurd g1 (Int64.not_lt.mpr h.1))])
  · refine z_lload_n (q := 7) rfl rfl rfl ?_
    refine z_lload (q := 9) rfl rfl rfl ?_
    refine z_lcmp (q := 10) rfl rfl ?_
    refine z_if_gt (q := 13) rfl rfl (fun h10 => ?_) (fun h10 => ?_)
    · refine z_iconst (q := 18) (v := 0) rfl rfl rfl ?_
      refine z_iretz rfl rfl (rfl) ?_
      refine ⟨?_, rfl⟩
      first
        | (have g2 : hi < v := (lg_cmp_gt _ _).mp h10
           rw [bz_f (fun h => absurd g2 (Int64.not_lt.mpr h.2))])
        | (have g1 : ¬ v < lo := fun e => h3 ((lg_cmp_lt _ _).mpr e)
           have g2 : ¬ hi < v := fun e => h10 ((lg_cmp_gt _ _).mpr e)
           rw [bz_t ⟨Int64.not_lt.mp g1, Int64.not_lt.mp g2⟩])
        | (have g1 : v < lo := (lg_cmp_lt _ _).mp h3
           rw [bz_f (fun h => absurd g1 (Int64.not_lt.mpr h.1))])
    · refine z_iconst (q := 14) (v := 1) rfl rfl rfl ?_
      refine z_goto rfl ?_
      refine z_iretz rfl rfl (rfl) ?_
      refine ⟨?_, rfl⟩
      first
        | (have g2 : hi < v := (lg_cmp_gt _ _).mp h10
           rw [bz_f (fun h => absurd g2 (Int64.not_lt.mpr h.2))])
        | (have g1 : ¬ v < lo := fun e => h3 ((lg_cmp_lt _ _).mpr e)
           have g2 : ¬ hi < v := fun e => h10 ((lg_cmp_gt _ _).mpr e)
           rw [bz_t ⟨Int64.not_lt.mp g1, Int64.not_lt.mp g2⟩])
        | (have g1 : v < lo := (lg_cmp_lt _ _).mp h3
           rw [bz_f (fun h => absurd g1 (Int64.not_lt.mpr h.1))])
theorem i64_le {a b : Int32} : a.toInt64 ≤ b.toInt64 ↔ a ≤ b := by
  rw [Int64.le_iff_toInt_le, Int32.le_iff_toInt_le, Int32.toInt_toInt64, Int32.toInt_toInt64]
theorem t_Mo_in {sc : Option (Nat × Nat × (Nat → Int32))} {sa : Nat → Nat} {d : Nat} {M : mz_M} {z : Nat × Nat} {a lo hi : Int32} : zx sc sa (d + 1) 168 [.long a.toInt64, .long lo.toInt64, .long hi.toInt64] M z z (some (.int (bz (lo ≤ a ∧ a ≤ hi)))) M := by
  have e := @s_Mo_in sc sa d M z a.toInt64 lo.toInt64 hi.toInt64
  rw [show bz (lo.toInt64 ≤ a.toInt64 ∧ a.toInt64 ≤ hi.toInt64) = bz (lo ≤ a ∧ a ≤ hi) by
    unfold bz
    by_cases h : lo ≤ a ∧ a ≤ hi
    · rw [if_pos h, if_pos ⟨i64_le.mpr h.1, i64_le.mpr h.2⟩]
    · rw [if_neg h, if_neg (fun g => h ⟨i64_le.mp g.1, i64_le.mp g.2⟩)]] at e
  exact e
theorem s_Mo_has {sc : Option (Nat × Nat × (Nat → Int32))} {sa : Nat → Nat} {d : Nat} {M : mz_M} {z : Nat × Nat} {a k : Int32} : zx sc sa (d + 1) 169 [.int a, .int k] M z z (some (.int (bz ((a >>> (k &&& 31)) &&& 1 = 1)))) M := by
  refine zxin ym_Mo_has [.int a, .int k] rfl rfl rfl rfl ?_
  refine z_iload_n (q := 1) rfl rfl rfl ?_
  refine z_iload_n (q := 2) rfl rfl rfl ?_
  refine z_ishr (q := 3) rfl rfl ?_
  refine z_iconst (q := 4) (v := 1) rfl rfl rfl ?_
  refine z_iand (q := 5) rfl rfl ?_
  refine z_iconst (q := 6) (v := 1) rfl rfl rfl ?_
  refine z_ic_ne (q := 9) rfl rfl (fun h6 => ?_) (fun h6 => ?_)
  · refine z_iconst (q := 14) (v := 0) rfl rfl rfl ?_
    refine z_iretz rfl rfl (rfl) ?_
    refine ⟨?_, rfl⟩
    first
      | (have g1 : (a >>> (k &&& 31)) &&& 1 = 1 := h6
         rw [bz_t g1])
      | (have g1 : ¬ (a >>> (k &&& 31)) &&& 1 = 1 := h6
         rw [bz_f g1])
  · refine z_iconst (q := 10) (v := 1) rfl rfl rfl ?_
    refine z_goto rfl ?_
    refine z_iretz rfl rfl (rfl) ?_
    refine ⟨?_, rfl⟩
    first
      | (have g1 : (a >>> (k &&& 31)) &&& 1 = 1 := h6
         rw [bz_t g1])
      | (have g1 : ¬ (a >>> (k &&& 31)) &&& 1 = 1 := h6
         rw [bz_f g1])
theorem l_Mo_bitsOf {sc : Option (Nat × Nat × (Nat → Int32))} {sa : Nat → Nat} {d : Nat} {M : mz_M} {z : Nat × Nat} {set : Int32} : ∀ (k : Nat) (i : Nat), i + k = 12 → zw sc sa d ym_Mo_bitsOf z (fun r' M' => r' = some (.int (fo (fun k acc => acc + (set >>> (nI k &&& 31) &&& 1)) 0 12)) ∧ M' = M) 4 [.int set, .int (fo (fun k acc => acc + (set >>> (nI k &&& 31) &&& 1)) 0 i), .int (nI i)] [] M z := by
  intro k
  induction k with
  | zero =>
    intro i hi
    have e1 : i = 12 := by omega
    subst e1
    refine z_iload_n (q := 5) rfl rfl rfl ?_
    refine z_bipush (q := 7) (v := 12) rfl rfl rfl ?_
    refine z_ic_ge (q := 10) rfl rfl (fun h7 => ?_) (fun h7 => ?_)
    · refine z_iload_n (q := 25) rfl rfl rfl ?_
      refine z_ireti rfl rfl ?_
      exact ⟨rfl, rfl⟩
    · exact absurd (by rw [show (12 : Int32) = nI 12 from rfl]; exact nI_le (Nat.le_refl _) (by omega)) h7
  | succ k ih =>
    intro i hi
    refine z_iload_n (q := 5) rfl rfl rfl ?_
    refine z_bipush (q := 7) (v := 12) rfl rfl rfl ?_
    refine z_ic_ge (q := 10) rfl rfl (fun h7 => ?_) (fun h7 => ?_)
    · rw [show (12 : Int32) = nI 12 from rfl] at h7
      exact absurd h7 (nI_ge (by omega) (by omega))
    · refine z_iload_n (q := 11) rfl rfl rfl ?_
      refine z_iload_n (q := 12) rfl rfl rfl ?_
      refine z_iload_n (q := 13) rfl rfl rfl ?_
      refine z_ishr (q := 14) rfl rfl ?_
      refine z_iconst (q := 15) (v := 1) rfl rfl rfl ?_
      refine z_iand (q := 16) rfl rfl ?_
      refine z_iadd (q := 17) rfl rfl ?_
      refine z_istore_n (q := 18) (L2 := [_, _, _]) rfl rfl rfl rfl ?_
      refine z_iinc (q := 21) (L2 := [_, _, _]) rfl rfl rfl rfl ?_
      refine z_goto rfl ?_
      rw [show nI i + Int32.ofInt 1 = nI (i + 1) from (nI_succ i).symm]
      have e9 := ih (i + 1) (by omega)
      first | exact e9
theorem s_Mo_bitsOf {sc : Option (Nat × Nat × (Nat → Int32))} {sa : Nat → Nat} {d : Nat} {M : mz_M} {z : Nat × Nat} {set : Int32} : zx sc sa (d + 1) 170 [.int set] M z z (some (.int (fo (fun k acc => acc + (set >>> (nI k &&& 31) &&& 1)) 0 12))) M := by
  refine zxin ym_Mo_bitsOf [.int set, .retAddr 0, .retAddr 0] rfl rfl rfl rfl ?_
  refine z_iconst (q := 1) (v := 0) rfl rfl rfl ?_
  refine z_istore_n (q := 2) (L2 := [_, _, _]) rfl rfl rfl rfl ?_
  refine z_iconst (q := 3) (v := 0) rfl rfl rfl ?_
  refine z_istore_n (q := 4) (L2 := [_, _, _]) rfl rfl rfl rfl ?_
  exact l_Mo_bitsOf 12 0 (by omega)
theorem mo_ix {v i : Nat} : (12 : Int32) * nI v + nI i = nI (12 * v + i) := by
  rw [show (12 : Int32) = nI 12 from rfl]
  unfold nI
  rw [← Int32.ofNat_mul, ← Int32.ofNat_add]
theorem s_Mo_at {sc : Option (Nat × Nat × (Nat → Int32))} {sa : Nat → Nat} {d : Nat} {M : mz_M} {z : Nat × Nat} {m : Nat} (w : g_Mo M.2.2 m) {F : Nat → Int32} {A : Nat → Nat → Int32} {v i : Nat} (hv : v < 201) (hi : i < 12) : zx sc sa (d + 1) 174 [.ref m, .int (nI v), .int (nI i)] (moF M m F A) z z (some (.int (A 4 (12 * v + i)))) (moF M m F A) := by
  refine zxin ym_Mo_at [.ref m, .int (nI v), .int (nI i)] rfl rfl rfl rfl ?_
  refine z_aload_n (q := 1) rfl rfl rfl ?_
  refine z_getR (q := 4) rfl rfl rfl (Mo_k w) (Mo_r6 w) ?_
  refine z_bipush (q := 6) (v := 12) rfl rfl rfl ?_
  refine z_iload_n (q := 7) rfl rfl rfl ?_
  refine z_imul (q := 8) rfl rfl ?_
  refine z_iload_n (q := 9) rfl rfl rfl ?_
  refine z_iadd (q := 10) rfl rfl ?_
  rw [mo_ix]
  refine z_iald (q := 11) rfl rfl (Mo_a6 w) (by first | assumption | exact vp_in_nI (by omega) (by omega)) ?_
  rw [moF_a6]
  try rw [nI_clamp (by omega)]
  refine z_ireti rfl rfl ?_
  exact ⟨rfl, rfl⟩
theorem vp0 {N : Nat} (h : 0 < N) (h2 : N < 2 ^ 31) : vp_in 0 N := vp_in_nI (n := 0) h h2
def stA (A : Nat → Nat → Int32) (v : Nat) : Nat → Nat → Int32 := va_up (va_up (va_up A 8 (va_up (A 8) v (-1))) 9 (va_up (A 9) v (-1))) 10 (va_up (A 10) v (-1))
def lkA (A : Nat → Nat → Int32) (v : Nat) (to : Int32) (c : Nat) : Nat → Nat → Int32 := va_up (va_up (va_up A 8 (va_up (A 8) v to)) 9 (va_up (A 9) v (nI c))) 10 (va_up (A 10) v (A 4 (12 * v + c)))
theorem s_Mo_straight {sc : Option (Nat × Nat × (Nat → Int32))} {sa : Nat → Nat} {d : Nat} {M : mz_M} {z : Nat × Nat} {m : Nat} (w : g_Mo M.2.2 m) {F : Nat → Int32} {A : Nat → Nat → Int32} {v : Nat} (hv : v < 201) : zx sc sa (d + 1) 176 [.ref m, .int (nI v)] (moF M m F A) z z none (moF M m F (stA A v)) := by
  refine zxin ym_Mo_straight [.ref m, .int (nI v)] rfl rfl rfl rfl ?_
  refine z_aload_n (q := 1) rfl rfl rfl ?_
  refine z_getR (q := 4) rfl rfl rfl (Mo_k w) (Mo_r10 w) ?_
  refine z_iload_n (q := 5) rfl rfl rfl ?_
  refine z_iconst (q := 6) (v := -1) rfl rfl rfl ?_
  refine z_iast (q := 7) rfl rfl (Mo_a10 w) (by first | assumption | exact vp_in_nI (by omega) (by omega)) ?_
  rw [moF_w10]
  try rw [nI_clamp (by omega)]
  refine z_aload_n (q := 8) rfl rfl rfl ?_
  refine z_getR (q := 11) rfl rfl rfl (Mo_k w) (Mo_r11 w) ?_
  refine z_iload_n (q := 12) rfl rfl rfl ?_
  refine z_iconst (q := 13) (v := -1) rfl rfl rfl ?_
  refine z_iast (q := 14) rfl rfl (Mo_a11 w) (by first | assumption | exact vp_in_nI (by omega) (by omega)) ?_
  rw [moF_w11]
  try rw [nI_clamp (by omega)]
  refine z_aload_n (q := 15) rfl rfl rfl ?_
  refine z_getR (q := 18) rfl rfl rfl (Mo_k w) (Mo_r12 w) ?_
  refine z_iload_n (q := 19) rfl rfl rfl ?_
  refine z_iconst (q := 20) (v := -1) rfl rfl rfl ?_
  refine z_iast (q := 21) rfl rfl (Mo_a12 w) (by first | assumption | exact vp_in_nI (by omega) (by omega)) ?_
  rw [moF_w12]
  try rw [nI_clamp (by omega)]
  refine z_ret rfl rfl ?_
  exact ⟨rfl, rfl⟩
theorem s_Mo_links {sc : Option (Nat × Nat × (Nat → Int32))} {sa : Nat → Nat} {d : Nat} {M : mz_M} {z : Nat × Nat} {m : Nat} (w : g_Mo M.2.2 m) {F : Nat → Int32} {A : Nat → Nat → Int32} {v c : Nat} {to : Int32} (hv : v < 201) (hc : c < 12) : zx sc sa (d + 2) 177 [.ref m, .int (nI v), .int to, .int (nI c)] (moF M m F A) z z none (moF M m F (lkA A v to c)) := by
  refine zxin ym_Mo_links [.ref m, .int (nI v), .int to, .int (nI c)] rfl rfl rfl rfl ?_
  refine z_aload_n (q := 1) rfl rfl rfl ?_
  refine z_getR (q := 4) rfl rfl rfl (Mo_k w) (Mo_r10 w) ?_
  refine z_iload_n (q := 5) rfl rfl rfl ?_
  refine z_iload_n (q := 6) rfl rfl rfl ?_
  refine z_iast (q := 7) rfl rfl (Mo_a10 w) (by first | assumption | exact vp_in_nI (by omega) (by omega)) ?_
  rw [moF_w10]
  try rw [nI_clamp (by omega)]
  refine z_aload_n (q := 8) rfl rfl rfl ?_
  refine z_getR (q := 11) rfl rfl rfl (Mo_k w) (Mo_r11 w) ?_
  refine z_iload_n (q := 12) rfl rfl rfl ?_
  refine z_iload_n (q := 13) rfl rfl rfl ?_
  refine z_iast (q := 14) rfl rfl (Mo_a11 w) (by first | assumption | exact vp_in_nI (by omega) (by omega)) ?_
  rw [moF_w11]
  try rw [nI_clamp (by omega)]
  refine z_aload_n (q := 15) rfl rfl rfl ?_
  refine z_getR (q := 18) rfl rfl rfl (Mo_k w) (Mo_r12 w) ?_
  refine z_iload_n (q := 19) rfl rfl rfl ?_
  refine z_aload_n (q := 20) rfl rfl rfl ?_
  refine z_iload_n (q := 21) rfl rfl rfl ?_
  refine z_iload_n (q := 22) rfl rfl rfl ?_
  refine z_cv2i (q := 25) rfl rfl rfl (Mo_k w) (s_Mo_at w hv hc) ?_
  refine z_iast (q := 26) rfl rfl (Mo_a12 w) (by first | assumption | exact vp_in_nI (by omega) (by omega)) ?_
  rw [moF_w12]
  try rw [nI_clamp (by omega)]
  refine z_ret rfl rfl ?_
  exact ⟨rfl, rfl⟩
theorem l_Mo_lengthOf {sc : Option (Nat × Nat × (Nat → Int32))} {sa : Nat → Nat} {d : Nat} {M : mz_M} {z : Nat × Nat} {m : Nat} (w : g_Mo M.2.2 m) {F : Nat → Int32} {A : Nat → Nat → Int32} {n : Nat} (hf : acy (A 8) n) (hn : n ≤ 201) {v0 : Int32} {r : Nat} : ∀ (k : Nat) (i u : Nat), u < n → wl (A 8) n u = k → i + k = r → zw sc sa d ym_Mo_lengthOf z (fun r' M' => r' = some (.int (nI r)) ∧ M' = (moF M m F A)) 4 [.ref m, .int v0, .int (nI i), .int (nI u)] [] (moF M m F A) z := by
  intro k
  induction k with
  | zero =>
    intro i u hu hk hr
    have e1 := (wl_0 hf (by omega) hu).mp hk
    have e2 : i = r := by omega
    subst e2
    refine z_aload_n (q := 5) rfl rfl rfl ?_
    refine z_getR (q := 8) rfl rfl rfl (Mo_k w) (Mo_r10 w) ?_
    refine z_iload_n (q := 9) rfl rfl rfl ?_
    refine z_iald (q := 10) rfl rfl (Mo_a10 w) (by first | assumption | exact vp_in_nI (by omega) (by omega)) ?_
    rw [moF_a10]
    try rw [nI_clamp (by omega)]
    refine z_iconst (q := 11) (v := -1) rfl rfl rfl ?_
    refine z_ic_eq (q := 14) rfl rfl (fun h11 => ?_) (fun h11 => ?_)
    · refine z_iload_n (q := 28) rfl rfl rfl ?_
      refine z_ireti rfl rfl ?_
      exact ⟨rfl, rfl⟩
    · exact absurd e1 h11
  | succ k ih =>
    intro i u hu hk hr
    have e1 : ¬ A 8 u = -1 := fun e => by
      rw [(wl_0 hf (by omega) hu).mpr e] at hk
      omega
    have e2 := okl_nx hf.1 (by omega) hu e1
    have e3 := wl_rec hf (by omega) hu
    rw [if_neg e1, hk] at e3
    refine z_aload_n (q := 5) rfl rfl rfl ?_
    refine z_getR (q := 8) rfl rfl rfl (Mo_k w) (Mo_r10 w) ?_
    refine z_iload_n (q := 9) rfl rfl rfl ?_
    refine z_iald (q := 10) rfl rfl (Mo_a10 w) (by first | assumption | exact vp_in_nI (by omega) (by omega)) ?_
    rw [moF_a10]
    try rw [nI_clamp (by omega)]
    refine z_iconst (q := 11) (v := -1) rfl rfl rfl ?_
    refine z_ic_eq (q := 14) rfl rfl (fun h11 => ?_) (fun h11 => ?_)
    · exact absurd h11 e1
    · refine z_iinc (q := 17) (L2 := [_, _, _, _]) rfl rfl rfl rfl ?_
      refine z_aload_n (q := 18) rfl rfl rfl ?_
      refine z_getR (q := 21) rfl rfl rfl (Mo_k w) (Mo_r10 w) ?_
      refine z_iload_n (q := 22) rfl rfl rfl ?_
      refine z_iald (q := 23) rfl rfl (Mo_a10 w) (by first | assumption | exact vp_in_nI (by omega) (by omega)) ?_
      rw [moF_a10]
      try rw [nI_clamp (by omega)]
      refine z_istore_n (q := 24) (L2 := [_, _, _, _]) rfl rfl rfl rfl ?_
      refine z_goto rfl ?_
      rw [show nI i + Int32.ofInt 1 = nI (i + 1) from (nI_succ i).symm, e2.2]
      exact ih (i + 1) _ e2.1 (by omega) (by omega)
theorem s_Mo_lengthOf {sc : Option (Nat × Nat × (Nat → Int32))} {sa : Nat → Nat} {d : Nat} {M : mz_M} {z : Nat × Nat} {m : Nat} (w : g_Mo M.2.2 m) {F : Nat → Int32} {A : Nat → Nat → Int32} {n : Nat} (hf : acy (A 8) n) (hn : n ≤ 201) {v : Nat} (hv : v < n) : zx sc sa (d + 1) 178 [.ref m, .int (nI v)] (moF M m F A) z z (some (.int (nI (wl (A 8) n v)))) (moF M m F A) := by
  refine zxin ym_Mo_lengthOf [.ref m, .int (nI v), .retAddr 0, .retAddr 0] rfl rfl rfl rfl ?_
  refine z_iconst (q := 1) (v := 0) rfl rfl rfl ?_
  refine z_istore_n (q := 2) (L2 := [_, _, _, _]) rfl rfl rfl rfl ?_
  refine z_iload_n (q := 3) rfl rfl rfl ?_
  refine z_istore_n (q := 4) (L2 := [_, _, _, _]) rfl rfl rfl rfl ?_
  exact l_Mo_lengthOf w hf hn _ 0 v hv rfl (by omega)
theorem la_le (f g : Nat → Int32) (c : Int32) : ∀ k v, la f g c k v ≤ wl f k v := by
  intro k
  induction k with
  | zero => intro v; exact Nat.le_refl _
  | succ k ih =>
    intro v
    unfold la wl
    by_cases h : f v = -1
    · rw [if_pos h, if_pos h]; exact Nat.le_refl _
    · rw [if_neg h, if_neg h]
      by_cases h2 : g v = c
      · rw [if_pos h2]; omega
      · rw [if_neg h2]
        have := ih (f v).toNatClampNeg
        omega
theorem la_st (f g : Nat → Int32) (c : Int32) : ∀ k v, wl f k v < k → la f g c (k + 1) v = la f g c k v := by
  intro k
  induction k with
  | zero => intro v h; exact absurd h (Nat.not_lt_zero _)
  | succ k ih =>
    intro v h
    have e1 : la f g c (k + 1 + 1) v = if f v = -1 then 0 else if g v = c then 0 else la f g c (k + 1) (f v).toNatClampNeg + 1 := rfl
    have e2 : la f g c (k + 1) v = if f v = -1 then 0 else if g v = c then 0 else la f g c k (f v).toNatClampNeg + 1 := rfl
    have e3 : wl f (k + 1) v = if f v = -1 then 0 else wl f k (f v).toNatClampNeg + 1 := rfl
    rw [e1, e2]
    rw [e3] at h
    by_cases hf : f v = -1
    · rw [if_pos hf, if_pos hf]
    · rw [if_neg hf] at h
      rw [if_neg hf, if_neg hf, ih _ (by omega)]
theorem la_rec {f g : Nat → Int32} {c : Int32} {n : Nat} (h : acy f n) (hn : n < 2 ^ 31) {v : Nat} (hv : v < n) : la f g c n v = if f v = -1 then 0 else if g v = c then 0 else la f g c n (f v).toNatClampNeg + 1 := by
  cases n with
  | zero => exact absurd hv (Nat.not_lt_zero _)
  | succ n =>
    have e2 : la f g c (n + 1) v = if f v = -1 then 0 else if g v = c then 0 else la f g c n (f v).toNatClampNeg + 1 := rfl
    have e3 : wl f (n + 1) v = if f v = -1 then 0 else wl f n (f v).toNatClampNeg + 1 := rfl
    have h3 := wl_lt h hn (n + 1) hv
    rw [e3] at h3
    rw [e2]
    by_cases hf : f v = -1
    · rw [if_pos hf, if_pos hf]
    · rw [if_neg hf] at h3
      rw [if_neg hf, if_neg hf, la_st f g c n _ (by omega)]
theorem l_Mo_along {sc : Option (Nat × Nat × (Nat → Int32))} {sa : Nat → Nat} {d : Nat} {M : mz_M} {z : Nat × Nat} {m : Nat} (w : g_Mo M.2.2 m) {F : Nat → Int32} {A : Nat → Nat → Int32} {n : Nat} (hf : acy (A 8) n) (hn : n ≤ 201) {v0 c : Int32} {r : Nat} : ∀ (k : Nat) (i u : Nat), u < n → la (A 8) (A 9) c n u = k → i + k = r → zw sc sa d ym_Mo_along z (fun r' M' => r' = some (.int (nI r)) ∧ M' = (moF M m F A)) 5 [.ref m, .int v0, .int c, .int (nI i), .int (nI u)] [] (moF M m F A) z := by
  intro k
  induction k with
  | zero =>
    intro i u hu hk hr
    have e3 := @la_rec (A 8) (A 9) c n hf (by omega) u hu
    rw [hk] at e3
    have e2 : i = r := by omega
    subst e2
    refine z_aload_n (q := 6) rfl rfl rfl ?_
    refine z_getR (q := 9) rfl rfl rfl (Mo_k w) (Mo_r10 w) ?_
    refine z_iload (q := 11) rfl rfl rfl ?_
    refine z_iald (q := 12) rfl rfl (Mo_a10 w) (by first | assumption | exact vp_in_nI (by omega) (by omega)) ?_
    rw [moF_a10]
    try rw [nI_clamp (by omega)]
    refine z_iconst (q := 13) (v := -1) rfl rfl rfl ?_
    refine z_ic_eq (q := 16) rfl rfl (fun h13 => ?_) (fun h13 => ?_)
    · refine z_iload_n (q := 43) rfl rfl rfl ?_
      refine z_ireti rfl rfl ?_
      exact ⟨rfl, rfl⟩
    · refine z_aload_n (q := 17) rfl rfl rfl ?_
      refine z_getR (q := 20) rfl rfl rfl (Mo_k w) (Mo_r11 w) ?_
      refine z_iload (q := 22) rfl rfl rfl ?_
      refine z_iald (q := 23) rfl rfl (Mo_a11 w) (by first | assumption | exact vp_in_nI (by omega) (by omega)) ?_
      rw [moF_a11]
      try rw [nI_clamp (by omega)]
      refine z_iload_n (q := 24) rfl rfl rfl ?_
      refine z_ic_eq (q := 27) rfl rfl (fun h24 => ?_) (fun h24 => ?_)
      · refine z_iload_n (q := 43) rfl rfl rfl ?_
        refine z_ireti rfl rfl ?_
        exact ⟨rfl, rfl⟩
      · rw [if_neg h13, if_neg h24] at e3
        omega
  | succ k ih =>
    intro i u hu hk hr
    have e3 := @la_rec (A 8) (A 9) c n hf (by omega) u hu
    rw [hk] at e3
    refine z_aload_n (q := 6) rfl rfl rfl ?_
    refine z_getR (q := 9) rfl rfl rfl (Mo_k w) (Mo_r10 w) ?_
    refine z_iload (q := 11) rfl rfl rfl ?_
    refine z_iald (q := 12) rfl rfl (Mo_a10 w) (by first | assumption | exact vp_in_nI (by omega) (by omega)) ?_
    rw [moF_a10]
    try rw [nI_clamp (by omega)]
    refine z_iconst (q := 13) (v := -1) rfl rfl rfl ?_
    refine z_ic_eq (q := 16) rfl rfl (fun h13 => ?_) (fun h13 => ?_)
    · rw [if_pos h13] at e3
      omega
    · refine z_aload_n (q := 17) rfl rfl rfl ?_
      refine z_getR (q := 20) rfl rfl rfl (Mo_k w) (Mo_r11 w) ?_
      refine z_iload (q := 22) rfl rfl rfl ?_
      refine z_iald (q := 23) rfl rfl (Mo_a11 w) (by first | assumption | exact vp_in_nI (by omega) (by omega)) ?_
      rw [moF_a11]
      try rw [nI_clamp (by omega)]
      refine z_iload_n (q := 24) rfl rfl rfl ?_
      refine z_ic_eq (q := 27) rfl rfl (fun h24 => ?_) (fun h24 => ?_)
      · rw [if_neg h13, if_pos h24] at e3
        omega
      · refine z_aload_n (q := 28) rfl rfl rfl ?_
        refine z_getR (q := 31) rfl rfl rfl (Mo_k w) (Mo_r10 w) ?_
        refine z_iload (q := 33) rfl rfl rfl ?_
        refine z_iald (q := 34) rfl rfl (Mo_a10 w) (by first | assumption | exact vp_in_nI (by omega) (by omega)) ?_
        rw [moF_a10]
        try rw [nI_clamp (by omega)]
        refine z_istore (q := 36) (L2 := [_, _, _, _, _]) rfl rfl rfl rfl ?_
        refine z_iinc (q := 39) (L2 := [_, _, _, _, _]) rfl rfl rfl rfl ?_
        refine z_goto rfl ?_
        rw [if_neg h13, if_neg h24] at e3
        have e2 := okl_nx hf.1 (by omega) hu h13
        rw [show nI i + Int32.ofInt 1 = nI (i + 1) from (nI_succ i).symm, e2.2]
        exact ih (i + 1) _ e2.1 (by omega) (by omega)
theorem s_Mo_along {sc : Option (Nat × Nat × (Nat → Int32))} {sa : Nat → Nat} {d : Nat} {M : mz_M} {z : Nat × Nat} {m : Nat} (w : g_Mo M.2.2 m) {F : Nat → Int32} {A : Nat → Nat → Int32} {n : Nat} (hf : acy (A 8) n) (hn : n ≤ 201) {v : Nat} (hv : v < n) {c : Int32} : zx sc sa (d + 1) 182 [.ref m, .int (nI v), .int c] (moF M m F A) z z (some (.int (nI (la (A 8) (A 9) c n v)))) (moF M m F A) := by
  refine zxin ym_Mo_along [.ref m, .int (nI v), .int c, .retAddr 0, .retAddr 0] rfl rfl rfl rfl ?_
  refine z_iconst (q := 1) (v := 0) rfl rfl rfl ?_
  refine z_istore_n (q := 2) (L2 := [_, _, _, _, _]) rfl rfl rfl rfl ?_
  refine z_iload_n (q := 3) rfl rfl rfl ?_
  refine z_istore (q := 5) (L2 := [_, _, _, _, _]) rfl rfl rfl rfl ?_
  exact l_Mo_along w hf hn _ 0 v hv rfl (by omega)
theorem s_Mo_snap {sc : Option (Nat × Nat × (Nat → Int32))} {sa : Nat → Nat} {d : Nat} {M : mz_M} {z : Nat × Nat} {m : Nat} (w : g_Mo M.2.2 m) {F : Nat → Int32} {A : Nat → Nat → Int32} {n : Nat} (hf : acy (A 8) n) (hn : n ≤ 201) {v : Nat} (hv : v < n) : zx sc sa (d + 2) 180 [.ref m, .int (nI v)] (moF M m F A) z z none (moF M m (va_up F 17 (F 17 + (nI (wl (A 8) n v) + A 1 0))) (stA A v)) := by
  refine zxin ym_Mo_snap [.ref m, .int (nI v)] rfl rfl rfl rfl ?_
  refine z_aload_n (q := 1) rfl rfl rfl ?_
  refine z_dup (q := 2) rfl rfl rfl ?_
  refine z_getI (q := 5) rfl rfl rfl (Mo_k w) ?_
  rw [moF_g17]
  refine z_aload_n (q := 6) rfl rfl rfl ?_
  refine z_iload_n (q := 7) rfl rfl rfl ?_
  refine z_cv1i (q := 10) rfl rfl rfl (Mo_k w) (s_Mo_lengthOf w hf hn hv) ?_
  refine z_aload_n (q := 11) rfl rfl rfl ?_
  refine z_getR (q := 14) rfl rfl rfl (Mo_k w) (Mo_r0 w) ?_
  refine z_iconst (q := 15) (v := 0) rfl rfl rfl ?_
  refine z_iald (q := 16) rfl rfl (Mo_a0 w) (vp0 (by decide) (by decide)) ?_
  rw [moF_a0]
  try rw [nI_clamp (by omega)]
  refine z_iadd (q := 17) rfl rfl ?_
  refine z_iadd (q := 18) rfl rfl ?_
  refine z_putI (q := 21) rfl rfl rfl (by decide) rfl rfl (Mo_k w) ?_
  rw [moF_u17]
  refine z_aload_n (q := 22) rfl rfl rfl ?_
  refine z_iload_n (q := 23) rfl rfl rfl ?_
  refine z_cv1v (q := 26) rfl rfl rfl (Mo_k w) (s_Mo_straight w (by omega)) ?_
  refine z_ret rfl rfl ?_
  exact ⟨rfl, rfl⟩
