section
variable {sc : Option (Nat × Nat × (Nat → Int32))} {sa : Nat → Nat} {d : Nat} {Y : mz_Y} {B : Nat × Nat} {Q : mz_P} {pc q ln : Nat} {L st : List Value} {M : mz_M} {z : Nat × Nat} {tg : List Nat}
theorem z_slen {i c r w : Nat} (he : mz_lk Y.2.2.2.2.2.2 pc = some (.invokevirtual i, ln, [6, 400, 1, c, r])) (hp : pc + 3 = q) (hs : Nat.ble (mz_sum st) 8 = true) (hw : w < 10) (k : zw sc sa (d + 4) Y B Q q L (.int (nI (mw_len10.getD w 0)) :: st) M z) : zw sc sa (d + 4) Y B Q pc L (.ref (sa w) :: st) M z := by
  subst hp
  exact zg he ⟨⟨w, hw, rfl⟩, by simp, by simpa using hs, Or.inr ⟨by omega, rfl, Or.inl ⟨rfl, w, hw, rfl, k⟩⟩⟩
theorem z_char {i c r w j : Nat} (he : mz_lk Y.2.2.2.2.2.2 pc = some (.invokevirtual i, ln, [6, 401, 2, c, r])) (hp : pc + 3 = q) (hs : Nat.ble (mz_sum st) 8 = true) (hw : w < 10) (hj : j < mw_len10.getD w 0) (k : zw sc sa (d + 4) Y B Q q L (.int ((mw_byt.getD w []).getD j 0) :: st) M z) : zw sc sa (d + 4) Y B Q pc L (.int (nI j) :: .ref (sa w) :: st) M z := by
  subst hp
  exact zg he ⟨⟨w, hw, rfl⟩, by simp, by simpa using hs, Or.inr ⟨by omega, rfl, Or.inr ⟨rfl, w, j, hw, hj, rfl, k⟩⟩⟩
end
-- put
def pby (x c : Int32) : Int32 := vp_nar .byte ((x.toUInt32 >>> (c.toUInt32 &&& Int32.toUInt32 31)).toInt32.toInt8.toInt32)
def pu1 (x c : Int32) (s : (Nat → Int32) × Nat) : (Nat → Int32) × Nat := if s.2 < 500 then (va_up s.1 s.2 (pby x c), s.2 + 1) else s
theorem pu1_n {x c : Int32} {s : (Nat → Int32) × Nat} (h : ¬ s.2 < 500) : pu1 x c s = s := by unfold pu1; rw [if_neg h]
theorem pu1_y {x c : Int32} {sg : Nat → Int32} {t : Nat} (h : t < 500) : pu1 x c (sg, t) = (va_up sg t (pby x c), t + 1) := by unfold pu1; rw [if_pos h]
def puG (x : Int32) (s : (Nat → Int32) × Nat) : (Nat → Int32) × Nat := pu1 x 0 (pu1 x 8 (pu1 x 16 (pu1 x 24 s)))
theorem l_Ta_putm {sc : Option (Nat × Nat × (Nat → Int32))} {sa : Nat → Nat} {d : Nat} {M : mz_M} {z : Nat × Nat} {tp : Nat} {e1 e2 e3 e4 e6 e7 e8 e9 e10 e11 : Int32} (w : g_Ta M.2.2 tp) {x : Int32} {sg sg' : Nat → Int32} {t t' : Nat} (ht : t ≤ 500) (h : (sg, t) = (sg', t')) : zw sc sa d ym_Ta_put z (fun r' M' => r' = none ∧ M' = (taP M tp sg' e1 e2 e3 e4 (nI t') e6 e7 e8 e9 e10 e11)) 3 [.ref tp, .int x, .int (-8)] [] (taP M tp sg e1 e2 e3 e4 (nI t) e6 e7 e8 e9 e10 e11) z := by
  refine z_iload_n (q := 4) rfl rfl rfl ?_
  refine z_if_lt (q := 7) rfl rfl (fun h4 => ?_) (fun h4 => ?_)
  · refine z_ret rfl rfl ?_
    obtain ⟨rfl, rfl⟩ := Prod.mk.inj h
    exact ⟨rfl, rfl⟩
  · exact absurd h4 (by decide)
theorem l_Ta_put0 {sc : Option (Nat × Nat × (Nat → Int32))} {sa : Nat → Nat} {d : Nat} {M : mz_M} {z : Nat × Nat} {tp : Nat} {e1 e2 e3 e4 e6 e7 e8 e9 e10 e11 : Int32} (w : g_Ta M.2.2 tp) {x : Int32} {sg sg' : Nat → Int32} {t t' : Nat} (ht : t ≤ 500) (h : (pu1 x 0 (sg, t)) = (sg', t')) : zw sc sa d ym_Ta_put z (fun r' M' => r' = none ∧ M' = (taP M tp sg' e1 e2 e3 e4 (nI t') e6 e7 e8 e9 e10 e11)) 3 [.ref tp, .int x, .int 0] [] (taP M tp sg e1 e2 e3 e4 (nI t) e6 e7 e8 e9 e10 e11) z := by
  refine z_iload_n (q := 4) rfl rfl rfl ?_
  refine z_if_lt (q := 7) rfl rfl (fun h4 => ?_) (fun h4 => ?_)
  · exact absurd h4 (by decide)
  · refine z_aload_n (q := 8) rfl rfl rfl ?_
    refine z_getI (q := 11) rfl rfl rfl (Ta_k w) ?_
    rw [taP_g5]
    refine z_aload_n (q := 12) rfl rfl rfl ?_
    refine z_getR (q := 15) rfl rfl rfl (Ta_k w) (Ta_r0 w) ?_
    refine z_alen (q := 16) rfl rfl (Ta_a0 w) rfl rfl ?_
    refine z_ic_ge (q := 19) rfl rfl (fun h16 => ?_) (fun h16 => ?_)
    · refine z_ret rfl rfl ?_
      rw [nI_leI (by omega) (by omega)] at h16
      have hN : ¬ (sg, t).2 < 500 := by show ¬ t < 500; omega
      rw [pu1_n (c := 0) (s := (sg, t)) hN] at h
      obtain ⟨rfl, rfl⟩ := Prod.mk.inj h
      exact ⟨rfl, rfl⟩
    · refine z_aload_n (q := 20) rfl rfl rfl ?_
      refine z_getR (q := 23) rfl rfl rfl (Ta_k w) (Ta_r0 w) ?_
      refine z_aload_n (q := 24) rfl rfl rfl ?_
      refine z_getI (q := 27) rfl rfl rfl (Ta_k w) ?_
      rw [taP_g5]
      refine z_iload_n (q := 28) rfl rfl rfl ?_
      refine z_iload_n (q := 29) rfl rfl rfl ?_
      refine z_iushr (q := 30) rfl rfl ?_
      refine z_i2b (q := 31) rfl rfl ?_
      refine z_bast (q := 32) rfl rfl (Ta_a0 w) (by rw [nI_leI (by omega) (by omega)] at h16; exact vp_in_nI (by omega) (by omega)) ?_
      rw [taP_w0]
      try rw [nI_clamp (by omega)]
      refine z_aload_n (q := 33) rfl rfl rfl ?_
      refine z_dup (q := 34) rfl rfl rfl ?_
      refine z_getI (q := 37) rfl rfl rfl (Ta_k w) ?_
      rw [taP_g5]
      refine z_iconst (q := 38) (v := 1) rfl rfl rfl ?_
      refine z_iadd (q := 39) rfl rfl ?_
      refine z_putI (q := 42) rfl rfl rfl (by decide) rfl rfl (Ta_k w) ?_
      rw [taP_u5]
      rw [← nI_succ]
      rw [nI_leI (by omega) (by omega)] at h16
      refine z_iinc (q := 45) (L2 := [_, _, _]) rfl rfl rfl rfl ?_
      refine z_goto rfl ?_
      rw [show (0 : Int32) + Int32.ofInt (-8) = -8 from by decide]
      rw [pu1_y (c := 0) (sg := sg) (t := t) (by omega)] at h
      exact l_Ta_putm w (by omega) h
theorem l_Ta_put8 {sc : Option (Nat × Nat × (Nat → Int32))} {sa : Nat → Nat} {d : Nat} {M : mz_M} {z : Nat × Nat} {tp : Nat} {e1 e2 e3 e4 e6 e7 e8 e9 e10 e11 : Int32} (w : g_Ta M.2.2 tp) {x : Int32} {sg sg' : Nat → Int32} {t t' : Nat} (ht : t ≤ 500) (h : (pu1 x 0 (pu1 x 8 (sg, t))) = (sg', t')) : zw sc sa d ym_Ta_put z (fun r' M' => r' = none ∧ M' = (taP M tp sg' e1 e2 e3 e4 (nI t') e6 e7 e8 e9 e10 e11)) 3 [.ref tp, .int x, .int 8] [] (taP M tp sg e1 e2 e3 e4 (nI t) e6 e7 e8 e9 e10 e11) z := by
  refine z_iload_n (q := 4) rfl rfl rfl ?_
  refine z_if_lt (q := 7) rfl rfl (fun h4 => ?_) (fun h4 => ?_)
  · exact absurd h4 (by decide)
  · refine z_aload_n (q := 8) rfl rfl rfl ?_
    refine z_getI (q := 11) rfl rfl rfl (Ta_k w) ?_
    rw [taP_g5]
    refine z_aload_n (q := 12) rfl rfl rfl ?_
    refine z_getR (q := 15) rfl rfl rfl (Ta_k w) (Ta_r0 w) ?_
    refine z_alen (q := 16) rfl rfl (Ta_a0 w) rfl rfl ?_
    refine z_ic_ge (q := 19) rfl rfl (fun h16 => ?_) (fun h16 => ?_)
    · refine z_ret rfl rfl ?_
      rw [nI_leI (by omega) (by omega)] at h16
      have hN : ¬ (sg, t).2 < 500 := by show ¬ t < 500; omega
      rw [pu1_n (c := 8) (s := (sg, t)) hN] at h
      rw [pu1_n (c := 0) (s := (sg, t)) hN] at h
      obtain ⟨rfl, rfl⟩ := Prod.mk.inj h
      exact ⟨rfl, rfl⟩
    · refine z_aload_n (q := 20) rfl rfl rfl ?_
      refine z_getR (q := 23) rfl rfl rfl (Ta_k w) (Ta_r0 w) ?_
      refine z_aload_n (q := 24) rfl rfl rfl ?_
      refine z_getI (q := 27) rfl rfl rfl (Ta_k w) ?_
      rw [taP_g5]
      refine z_iload_n (q := 28) rfl rfl rfl ?_
      refine z_iload_n (q := 29) rfl rfl rfl ?_
      refine z_iushr (q := 30) rfl rfl ?_
      refine z_i2b (q := 31) rfl rfl ?_
      refine z_bast (q := 32) rfl rfl (Ta_a0 w) (by rw [nI_leI (by omega) (by omega)] at h16; exact vp_in_nI (by omega) (by omega)) ?_
      rw [taP_w0]
      try rw [nI_clamp (by omega)]
      refine z_aload_n (q := 33) rfl rfl rfl ?_
      refine z_dup (q := 34) rfl rfl rfl ?_
      refine z_getI (q := 37) rfl rfl rfl (Ta_k w) ?_
      rw [taP_g5]
      refine z_iconst (q := 38) (v := 1) rfl rfl rfl ?_
      refine z_iadd (q := 39) rfl rfl ?_
      refine z_putI (q := 42) rfl rfl rfl (by decide) rfl rfl (Ta_k w) ?_
      rw [taP_u5]
      rw [← nI_succ]
      rw [nI_leI (by omega) (by omega)] at h16
      refine z_iinc (q := 45) (L2 := [_, _, _]) rfl rfl rfl rfl ?_
      refine z_goto rfl ?_
      rw [show (8 : Int32) + Int32.ofInt (-8) = 0 from by decide]
      rw [pu1_y (c := 8) (sg := sg) (t := t) (by omega)] at h
      exact l_Ta_put0 w (by omega) h
theorem l_Ta_put16 {sc : Option (Nat × Nat × (Nat → Int32))} {sa : Nat → Nat} {d : Nat} {M : mz_M} {z : Nat × Nat} {tp : Nat} {e1 e2 e3 e4 e6 e7 e8 e9 e10 e11 : Int32} (w : g_Ta M.2.2 tp) {x : Int32} {sg sg' : Nat → Int32} {t t' : Nat} (ht : t ≤ 500) (h : (pu1 x 0 (pu1 x 8 (pu1 x 16 (sg, t)))) = (sg', t')) : zw sc sa d ym_Ta_put z (fun r' M' => r' = none ∧ M' = (taP M tp sg' e1 e2 e3 e4 (nI t') e6 e7 e8 e9 e10 e11)) 3 [.ref tp, .int x, .int 16] [] (taP M tp sg e1 e2 e3 e4 (nI t) e6 e7 e8 e9 e10 e11) z := by
  refine z_iload_n (q := 4) rfl rfl rfl ?_
  refine z_if_lt (q := 7) rfl rfl (fun h4 => ?_) (fun h4 => ?_)
  · exact absurd h4 (by decide)
  · refine z_aload_n (q := 8) rfl rfl rfl ?_
    refine z_getI (q := 11) rfl rfl rfl (Ta_k w) ?_
    rw [taP_g5]
    refine z_aload_n (q := 12) rfl rfl rfl ?_
    refine z_getR (q := 15) rfl rfl rfl (Ta_k w) (Ta_r0 w) ?_
    refine z_alen (q := 16) rfl rfl (Ta_a0 w) rfl rfl ?_
    refine z_ic_ge (q := 19) rfl rfl (fun h16 => ?_) (fun h16 => ?_)
    · refine z_ret rfl rfl ?_
      rw [nI_leI (by omega) (by omega)] at h16
      have hN : ¬ (sg, t).2 < 500 := by show ¬ t < 500; omega
      rw [pu1_n (c := 16) (s := (sg, t)) hN] at h
      rw [pu1_n (c := 8) (s := (sg, t)) hN] at h
      rw [pu1_n (c := 0) (s := (sg, t)) hN] at h
      obtain ⟨rfl, rfl⟩ := Prod.mk.inj h
      exact ⟨rfl, rfl⟩
    · refine z_aload_n (q := 20) rfl rfl rfl ?_
      refine z_getR (q := 23) rfl rfl rfl (Ta_k w) (Ta_r0 w) ?_
      refine z_aload_n (q := 24) rfl rfl rfl ?_
      refine z_getI (q := 27) rfl rfl rfl (Ta_k w) ?_
      rw [taP_g5]
      refine z_iload_n (q := 28) rfl rfl rfl ?_
      refine z_iload_n (q := 29) rfl rfl rfl ?_
      refine z_iushr (q := 30) rfl rfl ?_
      refine z_i2b (q := 31) rfl rfl ?_
      refine z_bast (q := 32) rfl rfl (Ta_a0 w) (by rw [nI_leI (by omega) (by omega)] at h16; exact vp_in_nI (by omega) (by omega)) ?_
      rw [taP_w0]
      try rw [nI_clamp (by omega)]
      refine z_aload_n (q := 33) rfl rfl rfl ?_
      refine z_dup (q := 34) rfl rfl rfl ?_
      refine z_getI (q := 37) rfl rfl rfl (Ta_k w) ?_
      rw [taP_g5]
      refine z_iconst (q := 38) (v := 1) rfl rfl rfl ?_
      refine z_iadd (q := 39) rfl rfl ?_
      refine z_putI (q := 42) rfl rfl rfl (by decide) rfl rfl (Ta_k w) ?_
      rw [taP_u5]
      rw [← nI_succ]
      rw [nI_leI (by omega) (by omega)] at h16
      refine z_iinc (q := 45) (L2 := [_, _, _]) rfl rfl rfl rfl ?_
      refine z_goto rfl ?_
      rw [show (16 : Int32) + Int32.ofInt (-8) = 8 from by decide]
      rw [pu1_y (c := 16) (sg := sg) (t := t) (by omega)] at h
      exact l_Ta_put8 w (by omega) h
theorem l_Ta_put24 {sc : Option (Nat × Nat × (Nat → Int32))} {sa : Nat → Nat} {d : Nat} {M : mz_M} {z : Nat × Nat} {tp : Nat} {e1 e2 e3 e4 e6 e7 e8 e9 e10 e11 : Int32} (w : g_Ta M.2.2 tp) {x : Int32} {sg sg' : Nat → Int32} {t t' : Nat} (ht : t ≤ 500) (h : (pu1 x 0 (pu1 x 8 (pu1 x 16 (pu1 x 24 (sg, t))))) = (sg', t')) : zw sc sa d ym_Ta_put z (fun r' M' => r' = none ∧ M' = (taP M tp sg' e1 e2 e3 e4 (nI t') e6 e7 e8 e9 e10 e11)) 3 [.ref tp, .int x, .int 24] [] (taP M tp sg e1 e2 e3 e4 (nI t) e6 e7 e8 e9 e10 e11) z := by
  refine z_iload_n (q := 4) rfl rfl rfl ?_
  refine z_if_lt (q := 7) rfl rfl (fun h4 => ?_) (fun h4 => ?_)
  · exact absurd h4 (by decide)
  · refine z_aload_n (q := 8) rfl rfl rfl ?_
    refine z_getI (q := 11) rfl rfl rfl (Ta_k w) ?_
    rw [taP_g5]
    refine z_aload_n (q := 12) rfl rfl rfl ?_
    refine z_getR (q := 15) rfl rfl rfl (Ta_k w) (Ta_r0 w) ?_
    refine z_alen (q := 16) rfl rfl (Ta_a0 w) rfl rfl ?_
    refine z_ic_ge (q := 19) rfl rfl (fun h16 => ?_) (fun h16 => ?_)
    · refine z_ret rfl rfl ?_
      rw [nI_leI (by omega) (by omega)] at h16
      have hN : ¬ (sg, t).2 < 500 := by show ¬ t < 500; omega
      rw [pu1_n (c := 24) (s := (sg, t)) hN] at h
      rw [pu1_n (c := 16) (s := (sg, t)) hN] at h
      rw [pu1_n (c := 8) (s := (sg, t)) hN] at h
      rw [pu1_n (c := 0) (s := (sg, t)) hN] at h
      obtain ⟨rfl, rfl⟩ := Prod.mk.inj h
      exact ⟨rfl, rfl⟩
    · refine z_aload_n (q := 20) rfl rfl rfl ?_
      refine z_getR (q := 23) rfl rfl rfl (Ta_k w) (Ta_r0 w) ?_
      refine z_aload_n (q := 24) rfl rfl rfl ?_
      refine z_getI (q := 27) rfl rfl rfl (Ta_k w) ?_
      rw [taP_g5]
      refine z_iload_n (q := 28) rfl rfl rfl ?_
      refine z_iload_n (q := 29) rfl rfl rfl ?_
      refine z_iushr (q := 30) rfl rfl ?_
      refine z_i2b (q := 31) rfl rfl ?_
      refine z_bast (q := 32) rfl rfl (Ta_a0 w) (by rw [nI_leI (by omega) (by omega)] at h16; exact vp_in_nI (by omega) (by omega)) ?_
      rw [taP_w0]
      try rw [nI_clamp (by omega)]
      refine z_aload_n (q := 33) rfl rfl rfl ?_
      refine z_dup (q := 34) rfl rfl rfl ?_
      refine z_getI (q := 37) rfl rfl rfl (Ta_k w) ?_
      rw [taP_g5]
      refine z_iconst (q := 38) (v := 1) rfl rfl rfl ?_
      refine z_iadd (q := 39) rfl rfl ?_
      refine z_putI (q := 42) rfl rfl rfl (by decide) rfl rfl (Ta_k w) ?_
      rw [taP_u5]
      rw [← nI_succ]
      rw [nI_leI (by omega) (by omega)] at h16
      refine z_iinc (q := 45) (L2 := [_, _, _]) rfl rfl rfl rfl ?_
      refine z_goto rfl ?_
      rw [show (24 : Int32) + Int32.ofInt (-8) = 16 from by decide]
      rw [pu1_y (c := 24) (sg := sg) (t := t) (by omega)] at h
      exact l_Ta_put16 w (by omega) h
theorem q_Ta_put {sc : Option (Nat × Nat × (Nat → Int32))} {sa : Nat → Nat} {d : Nat} {M : mz_M} {z : Nat × Nat} {tp : Nat} {e1 e2 e3 e4 e6 e7 e8 e9 e10 e11 : Int32} (w : g_Ta M.2.2 tp) {x : Int32} {sg sg' : Nat → Int32} {t t' : Nat} (ht : t ≤ 500) (h : puG x (sg, t) = (sg', t')) : zx sc sa (d + 1) 82 [.ref tp, .int x] (taP M tp sg e1 e2 e3 e4 (nI t) e6 e7 e8 e9 e10 e11) z z none (taP M tp sg' e1 e2 e3 e4 (nI t') e6 e7 e8 e9 e10 e11) := by
  refine zxin ym_Ta_put [.ref tp, .int x, .retAddr 0] rfl rfl rfl rfl ?_
  refine z_bipush (q := 2) (v := 24) rfl rfl rfl ?_
  refine z_istore_n (q := 3) (L2 := [_, _, _]) rfl rfl rfl rfl ?_
  exact l_Ta_put24 w ht h
-- the reader's state
abbrev tS : Type := Int32 × Nat × Nat × Int32 × Int32 × Int32
def tq (M : mz_M) (tp : Nat) (sg : Nat → Int32) (t : Nat) (s : tS) (a6 a7 a8 a9 : Int32) : mz_M := taP M tp sg s.1 (nI s.2.1) (nI s.2.2.1) s.2.2.2.1 (nI t) a6 a7 a8 a9 s.2.2.2.2.1 s.2.2.2.2.2
def tokS (sg : Nat → Int32) (t : Nat) (s : tS) : tS := (⟨(tkF sg t s.2.2.1 s.2.2.2.1).1, (tkF sg t s.2.2.1 s.2.2.2.1).2.1, (tkF sg t s.2.2.1 s.2.2.2.1).2.2.1, (tkF sg t s.2.2.1 s.2.2.2.1).2.2.2, s.2.2.2.2.1, s.2.2.2.2.2⟩)
def refS (s : tS) (x y : Int32) : tS := if s.2.2.2.2.1 = 0 then ⟨s.1, s.2.1, s.2.2.1, s.2.2.2.1, x, y⟩ else s
def okt (t : Nat) (s : tS) : Prop := s.2.1 ≤ s.2.2.1 ∧ s.2.2.1 ≤ t
def wr (sg : Nat → Int32) (t p i : Nat) : Nat → Nat → Bool
  | 0, _ => true
  | k + 1, j => if bt sg t (p + j) = (mw_byt.getD i []).getD j 0 then wr sg t p i k (j + 1) else false
theorem wr_s {sg : Nat → Int32} {t p i k j : Nat} : wr sg t p i (k + 1) j = if bt sg t (p + j) = (mw_byt.getD i []).getD j 0 then wr sg t p i k (j + 1) else false := rfl
def wq (sg : Nat → Int32) (t : Nat) (s : tS) (i : Nat) : Bool := decide (s.1 = 1 ∧ s.2.2.1 - s.2.1 = mw_len10.getD i 0 ∧ wr sg t s.2.1 i (mw_len10.getD i 0) 0 = true)
def tnS (sg : Nat → Int32) (t : Nat) (s : tS) (lo hi : Int32) : Int32 × tS := if s.2.2.2.2.1 = 0 then (if s.1 = 2 then (if s.2.2.2.1 < lo ∨ ¬ s.2.2.2.1 ≤ hi then (-1, refS s 2 (nI s.2.1)) else (s.2.2.2.1, tokS sg t s)) else (-1, refS s 1 (nI s.2.1))) else (-1, s)
def twS (sg : Nat → Int32) (t : Nat) (s : tS) (i : Nat) : tS := if s.2.2.2.2.1 = 0 then (if wq sg t s i = true then tokS sg t s else refS s 1 (nI s.2.1)) else s
def tsS (sg : Nat → Int32) (t : Nat) (s : tS) : tS := if s.2.2.2.2.1 = 0 then (if s.1 = 3 then tokS sg t s else refS s 1 (nI s.2.1)) else s
def wkS (sg : Nat → Int32) (t : Nat) (s : tS) : Int32 := if wq sg t s 0 = true then 8 else if wq sg t s 1 = true then 9 else if wq sg t s 2 = true then 2 else if wq sg t s 3 = true then 3 else if wq sg t s 4 = true then 1 else if wq sg t s 5 = true then 4 else if wq sg t s 6 = true then 5 else 0
theorem dg_le {sg : Nat → Int32} {t : Nat} : ∀ k i v, i ≤ (dg sg t k i v).1 ∧ (dg sg t k i v).1 ≤ i + k := by
  intro k
  induction k with
  | zero => intro i v; exact ⟨Nat.le_refl _, Nat.le_refl _⟩
  | succ k ih =>
    intro i v
    unfold dg
    by_cases h : diB (bt sg t i) = true
    · rw [if_pos h]
      have h2 := ih (i + 1) (dgv v (bt sg t i))
      omega
    · rw [if_neg h]
      show i ≤ i ∧ i ≤ i + (k + 1)
      omega
theorem tokS_ok {sg : Nat → Int32} {t : Nat} {s : tS} (h : okt t s) : okt t (tokS sg t s) := by
  obtain ⟨h1, h2⟩ := h
  have e1 := @sk_le blB sg t (t - s.2.2.1) s.2.2.1
  generalize hm : sk blB sg t (t - s.2.2.1) s.2.2.1 = m at e1
  have e2 := @sk_le leB sg t (t - m) m
  have e3 := @dg_le sg t (t - m) m 0
  unfold okt tokS tkF
  dsimp only
  rw [hm]
  by_cases c1 : bt sg t m = -1
  · rw [if_pos c1]
    dsimp only
    omega
  · rw [if_neg c1]
    have c9 : m < t := Decidable.byContradiction (fun c => c1 (bt_m1.mpr c))
    by_cases c2 : leB (bt sg t m) = true
    · rw [if_pos c2]
      dsimp only
      omega
    · rw [if_neg c2]
      by_cases c3 : diB (bt sg t m) = true
      · rw [if_pos c3]
        dsimp only
        omega
      · rw [if_neg c3]
        dsimp only
        omega
theorem refS_ok {t : Nat} {s : tS} {x y : Int32} (h : okt t s) : okt t (refS s x y) := by
  unfold refS
  by_cases c : s.2.2.2.2.1 = 0
  · rw [if_pos c]; exact h
  · rw [if_neg c]; exact h
theorem tnS_ok {sg : Nat → Int32} {t : Nat} {s : tS} {lo hi : Int32} (h : okt t s) : okt t (tnS sg t s lo hi).2 := by
  unfold tnS
  by_cases c : s.2.2.2.2.1 = 0
  · rw [if_pos c]
    by_cases c2 : s.1 = 2
    · rw [if_pos c2]
      by_cases c3 : s.2.2.2.1 < lo ∨ ¬ s.2.2.2.1 ≤ hi
      · rw [if_pos c3]; exact refS_ok h
      · rw [if_neg c3]; exact tokS_ok h
    · rw [if_neg c2]; exact refS_ok h
  · rw [if_neg c]; exact h
theorem twS_ok {sg : Nat → Int32} {t : Nat} {s : tS} {i : Nat} (h : okt t s) : okt t (twS sg t s i) := by
  unfold twS
  by_cases c : s.2.2.2.2.1 = 0
  · rw [if_pos c]
    by_cases c2 : wq sg t s i = true
    · rw [if_pos c2]; exact tokS_ok h
    · rw [if_neg c2]; exact refS_ok h
  · rw [if_neg c]; exact h
theorem tsS_ok {sg : Nat → Int32} {t : Nat} {s : tS} (h : okt t s) : okt t (tsS sg t s) := by
  unfold tsS
  by_cases c : s.2.2.2.2.1 = 0
  · rw [if_pos c]
    by_cases c2 : s.1 = 3
    · rw [if_pos c2]; exact tokS_ok h
    · rw [if_neg c2]; exact refS_ok h
  · rw [if_neg c]; exact h
theorem nI_sub' {a b : Nat} (h : a ≤ b) : nI b - nI a = nI (b - a) := by
  have e : nI b = nI (b - a) + nI a := by rw [nI_add]; congr 1; omega
  rw [e]
  exact Int32.add_sub_cancel _ _
theorem tq_g1 {M : mz_M} {tp : Nat} {sg : Nat → Int32} {t : Nat} {s : tS} {a6 a7 a8 a9 : Int32} : (tq M tp sg t s a6 a7 a8 a9).1 tp 1 = s.1 := taP_g1
theorem tq_g2 {M : mz_M} {tp : Nat} {sg : Nat → Int32} {t : Nat} {s : tS} {a6 a7 a8 a9 : Int32} : (tq M tp sg t s a6 a7 a8 a9).1 tp 2 = nI s.2.1 := taP_g2
theorem tq_g3 {M : mz_M} {tp : Nat} {sg : Nat → Int32} {t : Nat} {s : tS} {a6 a7 a8 a9 : Int32} : (tq M tp sg t s a6 a7 a8 a9).1 tp 3 = nI s.2.2.1 := taP_g3
theorem tq_g4 {M : mz_M} {tp : Nat} {sg : Nat → Int32} {t : Nat} {s : tS} {a6 a7 a8 a9 : Int32} : (tq M tp sg t s a6 a7 a8 a9).1 tp 4 = s.2.2.2.1 := taP_g4
theorem tq_g5 {M : mz_M} {tp : Nat} {sg : Nat → Int32} {t : Nat} {s : tS} {a6 a7 a8 a9 : Int32} : (tq M tp sg t s a6 a7 a8 a9).1 tp 5 = nI t := taP_g5
theorem tq_g6 {M : mz_M} {tp : Nat} {sg : Nat → Int32} {t : Nat} {s : tS} {a6 a7 a8 a9 : Int32} : (tq M tp sg t s a6 a7 a8 a9).1 tp 6 = a6 := taP_g6
theorem tq_g7 {M : mz_M} {tp : Nat} {sg : Nat → Int32} {t : Nat} {s : tS} {a6 a7 a8 a9 : Int32} : (tq M tp sg t s a6 a7 a8 a9).1 tp 7 = a7 := taP_g7
theorem tq_g8 {M : mz_M} {tp : Nat} {sg : Nat → Int32} {t : Nat} {s : tS} {a6 a7 a8 a9 : Int32} : (tq M tp sg t s a6 a7 a8 a9).1 tp 8 = a8 := taP_g8
theorem tq_g9 {M : mz_M} {tp : Nat} {sg : Nat → Int32} {t : Nat} {s : tS} {a6 a7 a8 a9 : Int32} : (tq M tp sg t s a6 a7 a8 a9).1 tp 9 = a9 := taP_g9
theorem tq_g10 {M : mz_M} {tp : Nat} {sg : Nat → Int32} {t : Nat} {s : tS} {a6 a7 a8 a9 : Int32} : (tq M tp sg t s a6 a7 a8 a9).1 tp 10 = s.2.2.2.2.1 := taP_g10
theorem tq_g11 {M : mz_M} {tp : Nat} {sg : Nat → Int32} {t : Nat} {s : tS} {a6 a7 a8 a9 : Int32} : (tq M tp sg t s a6 a7 a8 a9).1 tp 11 = s.2.2.2.2.2 := taP_g11
theorem tq_u6 {M : mz_M} {tp : Nat} {sg : Nat → Int32} {t : Nat} {s : tS} {a6 a7 a8 a9 : Int32} {x : Int32} : mz_uI (tq M tp sg t s a6 a7 a8 a9) tp 6 x = (tq M tp sg t s x a7 a8 a9) := taP_u6
theorem tq_u7 {M : mz_M} {tp : Nat} {sg : Nat → Int32} {t : Nat} {s : tS} {a6 a7 a8 a9 : Int32} {x : Int32} : mz_uI (tq M tp sg t s a6 a7 a8 a9) tp 7 x = (tq M tp sg t s a6 x a8 a9) := taP_u7
theorem tq_u8 {M : mz_M} {tp : Nat} {sg : Nat → Int32} {t : Nat} {s : tS} {a6 a7 a8 a9 : Int32} {x : Int32} : mz_uI (tq M tp sg t s a6 a7 a8 a9) tp 8 x = (tq M tp sg t s a6 a7 x a9) := taP_u8
theorem tq_u9 {M : mz_M} {tp : Nat} {sg : Nat → Int32} {t : Nat} {s : tS} {a6 a7 a8 a9 : Int32} {x : Int32} : mz_uI (tq M tp sg t s a6 a7 a8 a9) tp 9 x = (tq M tp sg t s a6 a7 a8 x) := taP_u9
theorem tq_o {M : mz_M} {tp : Nat} {sg : Nat → Int32} {t : Nat} {s : tS} {a6 a7 a8 a9 : Int32} {a : Nat} (h0 : a ≠ tp) (h1 : a ≠ tp + 1) : (tq M tp sg t s a6 a7 a8 a9).1 a = M.1 a := taP_o h0 h1
theorem t_Ta_token {sc : Option (Nat × Nat × (Nat → Int32))} {sa : Nat → Nat} {d : Nat} {M : mz_M} {z : Nat × Nat} {tp : Nat} {sg : Nat → Int32} {t : Nat} {s : tS} {a6 a7 a8 a9 : Int32} (w : g_Ta M.2.2 tp) (ht : t ≤ 500) (hk : okt t s) : zx sc sa (d + 3) 88 [.ref tp] (tq M tp sg t s a6 a7 a8 a9) z z none (tq M tp sg t (tokS sg t s) a6 a7 a8 a9) := q_Ta_takeToken w ht hk.2 rfl
theorem t_Ta_byteAt {sc : Option (Nat × Nat × (Nat → Int32))} {sa : Nat → Nat} {d : Nat} {M : mz_M} {z : Nat × Nat} {tp : Nat} {sg : Nat → Int32} {t : Nat} {s : tS} {a6 a7 a8 a9 : Int32} (w : g_Ta M.2.2 tp) (ht : t ≤ 500) {i : Nat} (hi : i ≤ 600) : zx sc sa (d + 1) 84 [.ref tp, .int (nI i)] (tq M tp sg t s a6 a7 a8 a9) z z (some (.int (bt sg t i))) (tq M tp sg t s a6 a7 a8 a9) := q_Ta_byteAt w ht hi
theorem t_Ta_refuse {sc : Option (Nat × Nat × (Nat → Int32))} {sa : Nat → Nat} {d : Nat} {M : mz_M} {z : Nat × Nat} {tp : Nat} {sg : Nat → Int32} {t : Nat} {s : tS} {a6 a7 a8 a9 : Int32} (w : g_Ta M.2.2 tp) (ht : t ≤ 500) {x y : Int32} : zx sc sa (d + 1) 92 [.ref tp, .int x, .int y] (tq M tp sg t s a6 a7 a8 a9) z z none (tq M tp sg t (refS s x y) a6 a7 a8 a9) := by
  have e := @q_Ta_refuse sc sa d M z tp sg s.1 (nI s.2.1) (nI s.2.2.1) s.2.2.2.1 (nI t) a6 a7 a8 a9 s.2.2.2.2.1 s.2.2.2.2.2 w x y
  unfold refS
  by_cases c : s.2.2.2.2.1 = 0
  · rw [if_pos c]
    rw [if_pos c, if_pos c] at e
    exact e
  · rw [if_neg c]
    rw [if_neg c, if_neg c] at e
    exact e
theorem q_Ta_begin {sc : Option (Nat × Nat × (Nat → Int32))} {sa : Nat → Nat} {d : Nat} {M : mz_M} {z : Nat × Nat} {tp : Nat} {sg : Nat → Int32} {t : Nat} {e1 e2 e3 e4 e6 e7 e8 e9 e10 e11 : Int32} (w : g_Ta M.2.2 tp) (ht : t ≤ 500) : zx sc sa (d + 4) 83 [.ref tp] (taP M tp sg e1 e2 e3 e4 (nI t) e6 e7 e8 e9 e10 e11) z z none (tq M tp sg t (tokS sg t ⟨e1, 0, 0, e4, 0, -1⟩) e6 e7 e8 e9) := by
  refine zxin ym_Ta_begin [.ref tp] rfl rfl rfl rfl ?_
  refine z_aload_n (q := 1) rfl rfl rfl ?_
  refine z_iconst (q := 2) (v := 0) rfl rfl rfl ?_
  refine z_putI (q := 5) rfl rfl rfl (by decide) rfl rfl (Ta_k w) ?_
  rw [taP_u3]
  refine z_aload_n (q := 6) rfl rfl rfl ?_
  refine z_iconst (q := 7) (v := 0) rfl rfl rfl ?_
  refine z_putI (q := 10) rfl rfl rfl (by decide) rfl rfl (Ta_k w) ?_
  rw [taP_u10]
  refine z_aload_n (q := 11) rfl rfl rfl ?_
  refine z_iconst (q := 12) (v := -1) rfl rfl rfl ?_
  refine z_putI (q := 15) rfl rfl rfl (by decide) rfl rfl (Ta_k w) ?_
  rw [taP_u11]
  refine z_aload_n (q := 16) rfl rfl rfl ?_
  refine z_cv0v (q := 19) rfl rfl rfl (Ta_k w) (q_Ta_takeToken w ht (Nat.zero_le _) rfl) ?_
  refine z_ret rfl rfl ?_
  exact ⟨rfl, rfl⟩
theorem l_Ta_isWord {sc : Option (Nat × Nat × (Nat → Int32))} {sa : Nat → Nat} {d : Nat} {M : mz_M} {z : Nat × Nat} {tp : Nat} {sg : Nat → Int32} {t : Nat} {s : tS} {a6 a7 a8 a9 : Int32} (w : g_Ta M.2.2 tp) (ht : t ≤ 500) (hk : okt t s) {i : Nat} (hi : i < 10) (hn : s.2.2.1 - s.2.1 = mw_len10.getD i 0) {r : Int32} : ∀ (k : Nat) (j : Nat), j + k = mw_len10.getD i 0 → bz (wr sg t s.2.1 i k j = true) = r → zw sc sa (d + 4) ym_Ta_isWord z (fun r' M' => r' = some (.int r) ∧ M' = (tq M tp sg t s a6 a7 a8 a9)) 28 [.ref tp, .ref (sa i), .int (nI j)] [] (tq M tp sg t s a6 a7 a8 a9) z := by
  intro k
  induction k with
  | zero =>
    intro j hj hr
    obtain ⟨hk1, hk2⟩ := hk
    have e1 : j = mw_len10.getD i 0 := by omega
    refine z_iload_n (q := 29) rfl rfl rfl ?_
    refine z_aload_n (q := 30) rfl rfl rfl ?_
    refine z_slen (q := 33) rfl rfl rfl hi ?_
    refine z_ic_ge (q := 36) rfl rfl (fun h33 => ?_) (fun h33 => ?_)
    · refine z_iconst (q := 63) (v := 1) rfl rfl rfl ?_
      refine z_iretz rfl rfl (rfl) ?_
      subst hr
      exact ⟨rfl, rfl⟩
    · exact absurd (nI_le (by omega) (by omega)) h33
  | succ k ih =>
    intro j hj hr
    obtain ⟨hk1, hk2⟩ := hk
    refine z_iload_n (q := 29) rfl rfl rfl ?_
    refine z_aload_n (q := 30) rfl rfl rfl ?_
    refine z_slen (q := 33) rfl rfl rfl hi ?_
    refine z_ic_ge (q := 36) rfl rfl (fun h33 => ?_) (fun h33 => ?_)
    · exact absurd h33 (nI_ge (by omega) (by omega))
    · refine z_aload_n (q := 37) rfl rfl rfl ?_
      refine z_aload_n (q := 38) rfl rfl rfl ?_
      refine z_getI (q := 41) rfl rfl rfl (Ta_k w) ?_
      rw [tq_g2]
      refine z_iload_n (q := 42) rfl rfl rfl ?_
      refine z_iadd (q := 43) rfl rfl ?_
      rw [nI_add]
      refine z_cv1i (q := 46) rfl rfl rfl (Ta_k w) (t_Ta_byteAt w ht (by omega)) ?_
      refine z_aload_n (q := 47) rfl rfl rfl ?_
      refine z_iload_n (q := 48) rfl rfl rfl ?_
      refine z_char (q := 51) rfl rfl rfl hi (by omega) ?_
      refine z_ic_eq (q := 54) rfl rfl (fun h51 => ?_) (fun h51 => ?_)
      · refine z_iinc (q := 59) (L2 := [_, _, _]) rfl rfl rfl rfl ?_
        refine z_goto rfl ?_
        rw [show nI j + Int32.ofInt 1 = nI (j + 1) from (nI_succ j).symm]
        rw [wr_s, if_pos h51] at hr
        exact ih (j + 1) (by omega) hr
      · refine z_iconst (q := 55) (v := 0) rfl rfl rfl ?_
        refine z_iretz rfl rfl (rfl) ?_
        rw [wr_s, if_neg h51] at hr
        subst hr
        exact ⟨rfl, rfl⟩
theorem t_Ta_isWord {sc : Option (Nat × Nat × (Nat → Int32))} {sa : Nat → Nat} {d : Nat} {M : mz_M} {z : Nat × Nat} {tp : Nat} {sg : Nat → Int32} {t : Nat} {s : tS} {a6 a7 a8 a9 : Int32} (w : g_Ta M.2.2 tp) (ht : t ≤ 500) (hk : okt t s) {i : Nat} (hi : i < 10) : zx sc sa (d + 5) 91 [.ref tp, .ref (sa i)] (tq M tp sg t s a6 a7 a8 a9) z z (some (.int (bz (wq sg t s i = true)))) (tq M tp sg t s a6 a7 a8 a9) := by
  have hk3 := hk
  obtain ⟨hk1, hk2⟩ := hk3
  have hlen : mw_len10.getD i 0 ≤ 5 := by
    have h9 : ∀ i, i < 10 → mw_len10.getD i 0 ≤ 5 := by decide
    exact h9 i hi
  refine zxin ym_Ta_isWord [.ref tp, .ref (sa i), .retAddr 0] rfl rfl rfl rfl ?_
  refine z_aload_n (q := 1) rfl rfl rfl ?_
  refine z_getI (q := 4) rfl rfl rfl (Ta_k w) ?_
  rw [tq_g1]
  refine z_iconst (q := 5) (v := 1) rfl rfl rfl ?_
  refine z_ic_ne (q := 8) rfl rfl (fun h5 => ?_) (fun h5 => ?_)
  · refine z_iconst (q := 25) (v := 0) rfl rfl rfl ?_
    refine z_iretz rfl rfl (rfl) ?_
    first
      | (rw [nI_eq (by omega) (by omega)] at h21; refine ⟨?_, rfl⟩; unfold bz wq; rw [if_neg (fun h => h21 (of_decide_eq_true h).2.1)])
      | (refine ⟨?_, rfl⟩; unfold bz wq; rw [if_neg (fun h => h5 (of_decide_eq_true h).1)])
  · refine z_aload_n (q := 9) rfl rfl rfl ?_
    refine z_getI (q := 12) rfl rfl rfl (Ta_k w) ?_
    rw [tq_g3]
    refine z_aload_n (q := 13) rfl rfl rfl ?_
    refine z_getI (q := 16) rfl rfl rfl (Ta_k w) ?_
    rw [tq_g2]
    refine z_isub (q := 17) rfl rfl ?_
    rw [nI_sub' hk1]
    refine z_aload_n (q := 18) rfl rfl rfl ?_
    refine z_slen (q := 21) rfl rfl rfl hi ?_
    refine z_ic_eq (q := 24) rfl rfl (fun h21 => ?_) (fun h21 => ?_)
    · refine z_iconst (q := 27) (v := 0) rfl rfl rfl ?_
      refine z_istore_n (q := 28) (L2 := [_, _, _]) rfl rfl rfl rfl ?_
      rw [nI_eq (by omega) (by omega)] at h21
      refine l_Ta_isWord w ht hk hi h21 (mw_len10.getD i 0) 0 (by omega) ?_
      unfold bz wq
      simp only [h5, h21, decide_eq_true_eq, true_and]
    · refine z_iconst (q := 25) (v := 0) rfl rfl rfl ?_
      refine z_iretz rfl rfl (rfl) ?_
      first
        | (rw [nI_eq (by omega) (by omega)] at h21; refine ⟨?_, rfl⟩; unfold bz wq; rw [if_neg (fun h => h21 (of_decide_eq_true h).2.1)])
        | (refine ⟨?_, rfl⟩; unfold bz wq; rw [if_neg (fun h => h5 (of_decide_eq_true h).1)])
theorem t_Ta_takeNumber {sc : Option (Nat × Nat × (Nat → Int32))} {sa : Nat → Nat} {d : Nat} {M : mz_M} {z : Nat × Nat} {tp : Nat} {sg : Nat → Int32} {t : Nat} {s : tS} {a6 a7 a8 a9 : Int32} (w : g_Ta M.2.2 tp) (ht : t ≤ 500) (hk : okt t s) {lo hi : Int32} : zx sc sa (d + 4) 93 [.ref tp, .int lo, .int hi] (tq M tp sg t s a6 a7 a8 a9) z z (some (.int (tnS sg t s lo hi).1)) (tq M tp sg t (tnS sg t s lo hi).2 a6 a7 a8 a9) := by
  refine zxin ym_Ta_takeNumber [.ref tp, .int lo, .int hi, .retAddr 0] rfl rfl rfl rfl ?_
  refine z_aload_n (q := 1) rfl rfl rfl ?_
  refine z_getI (q := 4) rfl rfl rfl (Ta_k w) ?_
  rw [tq_g10]
  refine z_if_eq (q := 7) rfl rfl (fun h4 => ?_) (fun h4 => ?_)
  · refine z_aload_n (q := 10) rfl rfl rfl ?_
    refine z_getI (q := 13) rfl rfl rfl (Ta_k w) ?_
    rw [tq_g1]
    refine z_iconst (q := 14) (v := 2) rfl rfl rfl ?_
    refine z_ic_eq (q := 17) rfl rfl (fun h14 => ?_) (fun h14 => ?_)
    · refine z_aload_n (q := 29) rfl rfl rfl ?_
      refine z_getI (q := 32) rfl rfl rfl (Ta_k w) ?_
      rw [tq_g4]
      refine z_iload_n (q := 33) rfl rfl rfl ?_
      refine z_ic_lt (q := 36) rfl rfl (fun h33 => ?_) (fun h33 => ?_)
      · refine z_aload_n (q := 45) rfl rfl rfl ?_
        refine z_iconst (q := 46) (v := 2) rfl rfl rfl ?_
        refine z_aload_n (q := 47) rfl rfl rfl ?_
        refine z_getI (q := 50) rfl rfl rfl (Ta_k w) ?_
        rw [tq_g2]
        refine z_cv2v (q := 53) rfl rfl rfl (Ta_k w) (t_Ta_refuse w ht) ?_
        refine z_iconst (q := 54) (v := -1) rfl rfl rfl ?_
        refine z_ireti rfl rfl ?_
        unfold tnS
        first
          | (rw [if_neg h4]; exact ⟨rfl, rfl⟩)
          | (rw [if_pos h4, if_neg h14]; exact ⟨rfl, rfl⟩)
          | (rw [if_pos h4, if_pos h14, if_pos (Or.inl h33)]; exact ⟨rfl, rfl⟩)
          | (rw [if_pos h4, if_pos h14, if_pos (Or.inr h41)]; exact ⟨rfl, rfl⟩)
          | (rw [if_pos h4, if_pos h14, if_neg (fun h => h.elim h33 (fun h2 => h2 h41))]; exact ⟨rfl, rfl⟩)
      · refine z_aload_n (q := 37) rfl rfl rfl ?_
        refine z_getI (q := 40) rfl rfl rfl (Ta_k w) ?_
        rw [tq_g4]
        refine z_iload_n (q := 41) rfl rfl rfl ?_
        refine z_ic_le (q := 44) rfl rfl (fun h41 => ?_) (fun h41 => ?_)
        · refine z_aload_n (q := 56) rfl rfl rfl ?_
          refine z_getI (q := 59) rfl rfl rfl (Ta_k w) ?_
          rw [tq_g4]
          refine z_istore_n (q := 60) (L2 := [_, _, _, _]) rfl rfl rfl rfl ?_
          refine z_aload_n (q := 61) rfl rfl rfl ?_
          refine z_cv0v (q := 64) rfl rfl rfl (Ta_k w) (t_Ta_token w ht hk) ?_
          refine z_iload_n (q := 65) rfl rfl rfl ?_
          refine z_ireti rfl rfl ?_
          unfold tnS
          first
            | (rw [if_neg h4]; exact ⟨rfl, rfl⟩)
            | (rw [if_pos h4, if_neg h14]; exact ⟨rfl, rfl⟩)
            | (rw [if_pos h4, if_pos h14, if_pos (Or.inl h33)]; exact ⟨rfl, rfl⟩)
            | (rw [if_pos h4, if_pos h14, if_pos (Or.inr h41)]; exact ⟨rfl, rfl⟩)
            | (rw [if_pos h4, if_pos h14, if_neg (fun h => h.elim h33 (fun h2 => h2 h41))]; exact ⟨rfl, rfl⟩)
        · refine z_aload_n (q := 45) rfl rfl rfl ?_
          refine z_iconst (q := 46) (v := 2) rfl rfl rfl ?_
          refine z_aload_n (q := 47) rfl rfl rfl ?_
          refine z_getI (q := 50) rfl rfl rfl (Ta_k w) ?_
          rw [tq_g2]
          refine z_cv2v (q := 53) rfl rfl rfl (Ta_k w) (t_Ta_refuse w ht) ?_
          refine z_iconst (q := 54) (v := -1) rfl rfl rfl ?_
          refine z_ireti rfl rfl ?_
          unfold tnS
          first
            | (rw [if_neg h4]; exact ⟨rfl, rfl⟩)
            | (rw [if_pos h4, if_neg h14]; exact ⟨rfl, rfl⟩)
            | (rw [if_pos h4, if_pos h14, if_pos (Or.inl h33)]; exact ⟨rfl, rfl⟩)
            | (rw [if_pos h4, if_pos h14, if_pos (Or.inr h41)]; exact ⟨rfl, rfl⟩)
            | (rw [if_pos h4, if_pos h14, if_neg (fun h => h.elim h33 (fun h2 => h2 h41))]; exact ⟨rfl, rfl⟩)
    · refine z_aload_n (q := 18) rfl rfl rfl ?_
      refine z_iconst (q := 19) (v := 1) rfl rfl rfl ?_
      refine z_aload_n (q := 20) rfl rfl rfl ?_
      refine z_getI (q := 23) rfl rfl rfl (Ta_k w) ?_
      rw [tq_g2]
      refine z_cv2v (q := 26) rfl rfl rfl (Ta_k w) (t_Ta_refuse w ht) ?_
      refine z_iconst (q := 27) (v := -1) rfl rfl rfl ?_
      refine z_ireti rfl rfl ?_
      unfold tnS
      first
        | (rw [if_neg h4]; exact ⟨rfl, rfl⟩)
        | (rw [if_pos h4, if_neg h14]; exact ⟨rfl, rfl⟩)
        | (rw [if_pos h4, if_pos h14, if_pos (Or.inl h33)]; exact ⟨rfl, rfl⟩)
        | (rw [if_pos h4, if_pos h14, if_pos (Or.inr h41)]; exact ⟨rfl, rfl⟩)
        | (rw [if_pos h4, if_pos h14, if_neg (fun h => h.elim h33 (fun h2 => h2 h41))]; exact ⟨rfl, rfl⟩)
  · refine z_iconst (q := 8) (v := -1) rfl rfl rfl ?_
    refine z_ireti rfl rfl ?_
    unfold tnS
    first
      | (rw [if_neg h4]; exact ⟨rfl, rfl⟩)
      | (rw [if_pos h4, if_neg h14]; exact ⟨rfl, rfl⟩)
      | (rw [if_pos h4, if_pos h14, if_pos (Or.inl h33)]; exact ⟨rfl, rfl⟩)
      | (rw [if_pos h4, if_pos h14, if_pos (Or.inr h41)]; exact ⟨rfl, rfl⟩)
      | (rw [if_pos h4, if_pos h14, if_neg (fun h => h.elim h33 (fun h2 => h2 h41))]; exact ⟨rfl, rfl⟩)
theorem refS_f {s : tS} {x y : Int32} (hx : ¬ x = 0) : ¬ (refS s x y).2.2.2.2.1 = 0 := by
  unfold refS
  by_cases c : s.2.2.2.2.1 = 0
  · rw [if_pos c]; exact hx
  · rw [if_neg c]; exact c
theorem t_Ta_takeWord {sc : Option (Nat × Nat × (Nat → Int32))} {sa : Nat → Nat} {d : Nat} {M : mz_M} {z : Nat × Nat} {tp : Nat} {sg : Nat → Int32} {t : Nat} {s : tS} {a6 a7 a8 a9 : Int32} (w : g_Ta M.2.2 tp) (ht : t ≤ 500) (hk : okt t s) {i : Nat} (hi : i < 10) : zx sc sa (d + 6) 94 [.ref tp, .ref (sa i)] (tq M tp sg t s a6 a7 a8 a9) z z none (tq M tp sg t (twS sg t s i) a6 a7 a8 a9) := by
  refine zxin ym_Ta_takeWord [.ref tp, .ref (sa i)] rfl rfl rfl rfl ?_
  refine z_aload_n (q := 1) rfl rfl rfl ?_
  refine z_getI (q := 4) rfl rfl rfl (Ta_k w) ?_
  rw [tq_g10]
  refine z_if_ne (q := 7) rfl rfl (fun h4 => ?_) (fun h4 => ?_)
  · refine z_aload_n (q := 25) rfl rfl rfl ?_
    refine z_getI (q := 28) rfl rfl rfl (Ta_k w) ?_
    rw [tq_g10]
    refine z_if_ne (q := 31) rfl rfl (fun h28 => ?_) (fun h28 => ?_)
    · refine z_ret rfl rfl ?_
      unfold twS
      first
        | (rw [if_pos h28, if_pos (bz_n.mp h12)]; exact ⟨rfl, rfl⟩)
        | (rw [if_neg h4]; exact ⟨rfl, rfl⟩)
        | (rw [if_pos h4, if_neg (bz_0.mp h12)]; exact ⟨rfl, rfl⟩)
        | exact absurd h28 (refS_f (by decide))
        | exact absurd h28 h4
        | exact absurd h4 h28
    · refine z_aload_n (q := 32) rfl rfl rfl ?_
      refine z_cv0v (q := 35) rfl rfl rfl (Ta_k w) (t_Ta_token w ht (by first | exact hk | exact refS_ok hk)) ?_
      refine z_ret rfl rfl ?_
      unfold twS
      first
        | (rw [if_pos h28, if_pos (bz_n.mp h12)]; exact ⟨rfl, rfl⟩)
        | (rw [if_neg h4]; exact ⟨rfl, rfl⟩)
        | (rw [if_pos h4, if_neg (bz_0.mp h12)]; exact ⟨rfl, rfl⟩)
        | exact absurd h28 (refS_f (by decide))
        | exact absurd h28 h4
        | exact absurd h4 h28
  · refine z_aload_n (q := 8) rfl rfl rfl ?_
    refine z_aload_n (q := 9) rfl rfl rfl ?_
    refine z_cv1i (q := 12) rfl rfl rfl (Ta_k w) (t_Ta_isWord w ht hk hi) ?_
    refine z_if_ne (q := 15) rfl rfl (fun h12 => ?_) (fun h12 => ?_)
    · refine z_aload_n (q := 25) rfl rfl rfl ?_
      refine z_getI (q := 28) rfl rfl rfl (Ta_k w) ?_
      rw [tq_g10]
      refine z_if_ne (q := 31) rfl rfl (fun h28 => ?_) (fun h28 => ?_)
      · refine z_ret rfl rfl ?_
        unfold twS
        first
          | (rw [if_pos h28, if_pos (bz_n.mp h12)]; exact ⟨rfl, rfl⟩)
          | (rw [if_neg h4]; exact ⟨rfl, rfl⟩)
          | (rw [if_pos h4, if_neg (bz_0.mp h12)]; exact ⟨rfl, rfl⟩)
          | exact absurd h28 (refS_f (by decide))
          | exact absurd h28 h4
          | exact absurd h4 h28
      · refine z_aload_n (q := 32) rfl rfl rfl ?_
        refine z_cv0v (q := 35) rfl rfl rfl (Ta_k w) (t_Ta_token w ht (by first | exact hk | exact refS_ok hk)) ?_
        refine z_ret rfl rfl ?_
        unfold twS
        first
          | (rw [if_pos h28, if_pos (bz_n.mp h12)]; exact ⟨rfl, rfl⟩)
          | (rw [if_neg h4]; exact ⟨rfl, rfl⟩)
          | (rw [if_pos h4, if_neg (bz_0.mp h12)]; exact ⟨rfl, rfl⟩)
          | exact absurd h28 (refS_f (by decide))
          | exact absurd h28 h4
          | exact absurd h4 h28
    · refine z_aload_n (q := 16) rfl rfl rfl ?_
      refine z_iconst (q := 17) (v := 1) rfl rfl rfl ?_
      refine z_aload_n (q := 18) rfl rfl rfl ?_
      refine z_getI (q := 21) rfl rfl rfl (Ta_k w) ?_
      rw [tq_g2]
      refine z_cv2v (q := 24) rfl rfl rfl (Ta_k w) (t_Ta_refuse w ht) ?_
      refine z_aload_n (q := 25) rfl rfl rfl ?_
      refine z_getI (q := 28) rfl rfl rfl (Ta_k w) ?_
      rw [tq_g10]
      refine z_if_ne (q := 31) rfl rfl (fun h28 => ?_) (fun h28 => ?_)
      · refine z_ret rfl rfl ?_
        unfold twS
        first
          | (rw [if_pos h28, if_pos (bz_n.mp h12)]; exact ⟨rfl, rfl⟩)
          | (rw [if_neg h4]; exact ⟨rfl, rfl⟩)
          | (rw [if_pos h4, if_neg (bz_0.mp h12)]; exact ⟨rfl, rfl⟩)
          | exact absurd h28 (refS_f (by decide))
          | exact absurd h28 h4
          | exact absurd h4 h28
      · refine z_aload_n (q := 32) rfl rfl rfl ?_
        refine z_cv0v (q := 35) rfl rfl rfl (Ta_k w) (t_Ta_token w ht (by first | exact hk | exact refS_ok hk)) ?_
        refine z_ret rfl rfl ?_
        unfold twS
        first
          | (rw [if_pos h28, if_pos (bz_n.mp h12)]; exact ⟨rfl, rfl⟩)
          | (rw [if_neg h4]; exact ⟨rfl, rfl⟩)
          | (rw [if_pos h4, if_neg (bz_0.mp h12)]; exact ⟨rfl, rfl⟩)
          | exact absurd h28 (refS_f (by decide))
          | exact absurd h28 h4
          | exact absurd h4 h28
theorem t_Ta_takeSign {sc : Option (Nat × Nat × (Nat → Int32))} {sa : Nat → Nat} {d : Nat} {M : mz_M} {z : Nat × Nat} {tp : Nat} {sg : Nat → Int32} {t : Nat} {s : tS} {a6 a7 a8 a9 : Int32} (w : g_Ta M.2.2 tp) (ht : t ≤ 500) (hk : okt t s) : zx sc sa (d + 4) 95 [.ref tp] (tq M tp sg t s a6 a7 a8 a9) z z none (tq M tp sg t (tsS sg t s) a6 a7 a8 a9) := by
  refine zxin ym_Ta_takeSign [.ref tp] rfl rfl rfl rfl ?_
  refine z_aload_n (q := 1) rfl rfl rfl ?_
  refine z_getI (q := 4) rfl rfl rfl (Ta_k w) ?_
  rw [tq_g10]
  refine z_if_ne (q := 7) rfl rfl (fun h4 => ?_) (fun h4 => ?_)
  · refine z_aload_n (q := 25) rfl rfl rfl ?_
    refine z_getI (q := 28) rfl rfl rfl (Ta_k w) ?_
    rw [tq_g10]
    refine z_if_ne (q := 31) rfl rfl (fun h28 => ?_) (fun h28 => ?_)
    · refine z_ret rfl rfl ?_
      unfold tsS
      first
        | (rw [if_pos h28, if_pos h12]; exact ⟨rfl, rfl⟩)
        | (rw [if_neg h4]; exact ⟨rfl, rfl⟩)
        | (rw [if_pos h4, if_neg h12]; exact ⟨rfl, rfl⟩)
        | exact absurd h28 (refS_f (by decide))
        | exact absurd h28 h4
        | exact absurd h4 h28
    · refine z_aload_n (q := 32) rfl rfl rfl ?_
      refine z_cv0v (q := 35) rfl rfl rfl (Ta_k w) (t_Ta_token w ht (by first | exact hk | exact refS_ok hk)) ?_
      refine z_ret rfl rfl ?_
      unfold tsS
      first
        | (rw [if_pos h28, if_pos h12]; exact ⟨rfl, rfl⟩)
        | (rw [if_neg h4]; exact ⟨rfl, rfl⟩)
        | (rw [if_pos h4, if_neg h12]; exact ⟨rfl, rfl⟩)
        | exact absurd h28 (refS_f (by decide))
        | exact absurd h28 h4
        | exact absurd h4 h28
  · refine z_aload_n (q := 8) rfl rfl rfl ?_
    refine z_getI (q := 11) rfl rfl rfl (Ta_k w) ?_
    rw [tq_g1]
    refine z_iconst (q := 12) (v := 3) rfl rfl rfl ?_
    refine z_ic_eq (q := 15) rfl rfl (fun h12 => ?_) (fun h12 => ?_)
    · refine z_aload_n (q := 25) rfl rfl rfl ?_
      refine z_getI (q := 28) rfl rfl rfl (Ta_k w) ?_
      rw [tq_g10]
      refine z_if_ne (q := 31) rfl rfl (fun h28 => ?_) (fun h28 => ?_)
      · refine z_ret rfl rfl ?_
        unfold tsS
        first
          | (rw [if_pos h28, if_pos h12]; exact ⟨rfl, rfl⟩)
          | (rw [if_neg h4]; exact ⟨rfl, rfl⟩)
          | (rw [if_pos h4, if_neg h12]; exact ⟨rfl, rfl⟩)
          | exact absurd h28 (refS_f (by decide))
          | exact absurd h28 h4
          | exact absurd h4 h28
      · refine z_aload_n (q := 32) rfl rfl rfl ?_
        refine z_cv0v (q := 35) rfl rfl rfl (Ta_k w) (t_Ta_token w ht (by first | exact hk | exact refS_ok hk)) ?_
        refine z_ret rfl rfl ?_
        unfold tsS
        first
          | (rw [if_pos h28, if_pos h12]; exact ⟨rfl, rfl⟩)
          | (rw [if_neg h4]; exact ⟨rfl, rfl⟩)
          | (rw [if_pos h4, if_neg h12]; exact ⟨rfl, rfl⟩)
          | exact absurd h28 (refS_f (by decide))
          | exact absurd h28 h4
          | exact absurd h4 h28
    · refine z_aload_n (q := 16) rfl rfl rfl ?_
      refine z_iconst (q := 17) (v := 1) rfl rfl rfl ?_
      refine z_aload_n (q := 18) rfl rfl rfl ?_
      refine z_getI (q := 21) rfl rfl rfl (Ta_k w) ?_
      rw [tq_g2]
      refine z_cv2v (q := 24) rfl rfl rfl (Ta_k w) (t_Ta_refuse w ht) ?_
      refine z_aload_n (q := 25) rfl rfl rfl ?_
      refine z_getI (q := 28) rfl rfl rfl (Ta_k w) ?_
      rw [tq_g10]
      refine z_if_ne (q := 31) rfl rfl (fun h28 => ?_) (fun h28 => ?_)
      · refine z_ret rfl rfl ?_
        unfold tsS
        first
          | (rw [if_pos h28, if_pos h12]; exact ⟨rfl, rfl⟩)
          | (rw [if_neg h4]; exact ⟨rfl, rfl⟩)
          | (rw [if_pos h4, if_neg h12]; exact ⟨rfl, rfl⟩)
          | exact absurd h28 (refS_f (by decide))
          | exact absurd h28 h4
          | exact absurd h4 h28
      · refine z_aload_n (q := 32) rfl rfl rfl ?_
        refine z_cv0v (q := 35) rfl rfl rfl (Ta_k w) (t_Ta_token w ht (by first | exact hk | exact refS_ok hk)) ?_
        refine z_ret rfl rfl ?_
        unfold tsS
        first
          | (rw [if_pos h28, if_pos h12]; exact ⟨rfl, rfl⟩)
          | (rw [if_neg h4]; exact ⟨rfl, rfl⟩)
          | (rw [if_pos h4, if_neg h12]; exact ⟨rfl, rfl⟩)
          | exact absurd h28 (refS_f (by decide))
          | exact absurd h28 h4
          | exact absurd h4 h28
