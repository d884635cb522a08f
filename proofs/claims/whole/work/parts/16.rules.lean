-- rules of the small machine, for walks
def zw (sc : Option (Nat × Nat × (Nat → Int32))) (sa : Nat → Nat) (d : Nat) (Y : mz_Y) (B : Nat × Nat) (Q : mz_P) : mz_C := mz_wp sc sa (mz_Kd sc sa d) d Y B Q
/-- a call's whole outcome -/
def zx (sc : Option (Nat × Nat × (Nat → Int32))) (sa : Nat → Nat) (d y : Nat) (args : List Value) (M : mz_M) (z z' : Nat × Nat) (r : Option Value) (M1 : mz_M) : Prop := mz_Kd sc sa d y args M z z' (fun r' M' => r' = r ∧ M' = M1)
section
variable {sc : Option (Nat × Nat × (Nat → Int32))} {sa : Nat → Nat} {d : Nat} {Y : mz_Y} {B : Nat × Nat} {Q : mz_P} {pc q ln : Nat} {L st : List Value} {M : mz_M} {z : Nat × Nat} {tg : List Nat}
theorem zg {i : Instr} (he : mz_lk Y.2.2.2.2.2.2 pc = some (i, ln, tg)) (h : mz_stp sc sa (mz_Kd sc sa d) d Y B Q (zw sc sa d Y B Q) i tg pc L st M z) : zw sc sa d Y B Q pc L st M z := by
  refine mz_wp_i (mz_Kd_m sc sa d) ?_
  unfold mz_nx
  rw [he]
  exact h
theorem zin {y : Nat} {args : List Value} {z' : Nat × Nat} {Q : mz_P} (Y : mz_Y) (L0 : List Value) (hy : Nat.blt y 292 = true) (hY : mz_yD y = Y) (hL : mz_en args Y.2.2.1 = L0) (hl : L0.length = Y.2.2.1) (h : zw sc sa d Y z' Q 0 L0 [] M z) : mz_Kd sc sa (d + 1) y args M z z' Q := by
  subst hY
  subst hL
  exact Or.inl ⟨by simpa using hy, hl, h⟩
theorem zxin {y : Nat} {args : List Value} {z' : Nat × Nat} {r : Option Value} {M1 : mz_M} (Y : mz_Y) (L0 : List Value) (hy : Nat.blt y 292 = true) (hY : mz_yD y = Y) (hL : mz_en args Y.2.2.1 = L0) (hl : L0.length = Y.2.2.1) (h : zw sc sa d Y z' (fun r' M' => r' = r ∧ M' = M1) 0 L0 [] M z) : zx sc sa (d + 1) y args M z z' r M1 := zin Y L0 hy hY hL hl h
theorem z_iconst {n : Int} {v : Int32} (he : mz_lk Y.2.2.2.2.2.2 pc = some (.iconst n, ln, tg)) (hp : pc + 1 = q) (hv : Int32.ofInt n = v) (k : zw sc sa d Y B Q q L (.int v :: st) M z) : zw sc sa d Y B Q pc L (st) M z := by
  subst hp
  exact zg he (by rw [← hv] at k; exact k)
theorem z_bipush {n : Int} {v : Int32} (he : mz_lk Y.2.2.2.2.2.2 pc = some (.bipush n, ln, tg)) (hp : pc + 2 = q) (hv : (Int8.ofInt n).toInt32 = v) (k : zw sc sa d Y B Q q L (.int v :: st) M z) : zw sc sa d Y B Q pc L (st) M z := by
  subst hp
  exact zg he (by rw [← hv] at k; exact k)
theorem z_sipush {n : Int} {v : Int32} (he : mz_lk Y.2.2.2.2.2.2 pc = some (.sipush n, ln, tg)) (hp : pc + 3 = q) (hv : (Int16.ofInt n).toInt32 = v) (k : zw sc sa d Y B Q q L (.int v :: st) M z) : zw sc sa d Y B Q pc L (st) M z := by
  subst hp
  exact zg he (by rw [← hv] at k; exact k)
theorem z_lconst {n : Fin 2} {v : Int64} (he : mz_lk Y.2.2.2.2.2.2 pc = some (.lconst n, ln, tg)) (hp : pc + 1 = q) (hv : Int64.ofNat (n : Nat) = v) (k : zw sc sa d Y B Q q L (.long v :: st) M z) : zw sc sa d Y B Q pc L (st) M z := by
  subst hp
  exact zg he (by rw [← hv] at k; exact k)
theorem z_null  (he : mz_lk Y.2.2.2.2.2.2 pc = some (.aconst_null, ln, tg)) (hp : pc + 1 = q) (k : zw sc sa d Y B Q q L (.null :: st) M z) : zw sc sa d Y B Q pc L (st) M z := by
  subst hp
  exact zg he (k)
theorem z_iload {j : Nat} {x : Int32} (he : mz_lk Y.2.2.2.2.2.2 pc = some (.iload j, ln, tg)) (hp : pc + 2 = q) (hl : L[j]? = some (.int x)) (k : zw sc sa d Y B Q q L (.int x :: st) M z) : zw sc sa d Y B Q pc L (st) M z := by
  subst hp
  exact zg he (by show mz_gI L[j]? _; rw [hl]; exact k)
theorem z_iload_n {j : Fin 4} {x : Int32} (he : mz_lk Y.2.2.2.2.2.2 pc = some (.iload_n j, ln, tg)) (hp : pc + 1 = q) (hl : L[(j : Nat)]? = some (.int x)) (k : zw sc sa d Y B Q q L (.int x :: st) M z) : zw sc sa d Y B Q pc L (st) M z := by
  subst hp
  exact zg he (by show mz_gI L[(j : Nat)]? _; rw [hl]; exact k)
theorem z_lload {j : Nat} {x : Int64} (he : mz_lk Y.2.2.2.2.2.2 pc = some (.lload j, ln, tg)) (hp : pc + 2 = q) (hl : L[j]? = some (.long x)) (k : zw sc sa d Y B Q q L (.long x :: st) M z) : zw sc sa d Y B Q pc L (st) M z := by
  subst hp
  exact zg he (by show mz_gJ L[j]? _; rw [hl]; exact k)
theorem z_lload_n {j : Fin 4} {x : Int64} (he : mz_lk Y.2.2.2.2.2.2 pc = some (.lload_n j, ln, tg)) (hp : pc + 1 = q) (hl : L[(j : Nat)]? = some (.long x)) (k : zw sc sa d Y B Q q L (.long x :: st) M z) : zw sc sa d Y B Q pc L (st) M z := by
  subst hp
  exact zg he (by show mz_gJ L[(j : Nat)]? _; rw [hl]; exact k)
theorem z_aload {j : Nat} {x : Nat} (he : mz_lk Y.2.2.2.2.2.2 pc = some (.aload j, ln, tg)) (hp : pc + 2 = q) (hl : L[j]? = some (.ref x)) (k : zw sc sa d Y B Q q L (.ref x :: st) M z) : zw sc sa d Y B Q pc L (st) M z := by
  subst hp
  exact zg he (by show mz_gA L[j]? (fun v => zw sc sa d Y B Q (pc + 2) L (v :: st) M z); rw [hl]; exact k)
theorem z_aload_n {j : Fin 4} {x : Nat} (he : mz_lk Y.2.2.2.2.2.2 pc = some (.aload_n j, ln, tg)) (hp : pc + 1 = q) (hl : L[(j : Nat)]? = some (.ref x)) (k : zw sc sa d Y B Q q L (.ref x :: st) M z) : zw sc sa d Y B Q pc L (st) M z := by
  subst hp
  exact zg he (by show mz_gA L[(j : Nat)]? (fun v => zw sc sa d Y B Q (pc + 1) L (v :: st) M z); rw [hl]; exact k)
theorem z_aload_nN {j : Fin 4} (he : mz_lk Y.2.2.2.2.2.2 pc = some (.aload_n j, ln, tg)) (hp : pc + 1 = q) (hl : L[(j : Nat)]? = some .null) (k : zw sc sa d Y B Q q L (.null :: st) M z) : zw sc sa d Y B Q pc L (st) M z := by
  subst hp
  exact zg he (by show mz_gA L[(j : Nat)]? (fun v => zw sc sa d Y B Q (pc + 1) L (v :: st) M z); rw [hl]; exact k)
theorem z_istore {j : Nat} {x : Int32} {L2 : List Value} (he : mz_lk Y.2.2.2.2.2.2 pc = some (.istore j, ln, tg)) (hp : pc + 2 = q) (hj : Nat.blt (j) L.length = true) (hL : mz_st1 L j (.int x) = L2) (k : zw sc sa d Y B Q q L2 (st) M z) : zw sc sa d Y B Q pc L (.int x :: st) M z := by
  subst hp
  exact zg he (⟨by simpa using hj, by rw [← hL] at k; exact k⟩)
theorem z_istore_n {j : Fin 4} {x : Int32} {L2 : List Value} (he : mz_lk Y.2.2.2.2.2.2 pc = some (.istore_n j, ln, tg)) (hp : pc + 1 = q) (hj : Nat.blt ((j : Nat)) L.length = true) (hL : mz_st1 L (j : Nat) (.int x) = L2) (k : zw sc sa d Y B Q q L2 (st) M z) : zw sc sa d Y B Q pc L (.int x :: st) M z := by
  subst hp
  exact zg he (⟨by simpa using hj, by rw [← hL] at k; exact k⟩)
theorem z_lstore {j : Nat} {x : Int64} {L2 : List Value} (he : mz_lk Y.2.2.2.2.2.2 pc = some (.lstore j, ln, tg)) (hp : pc + 2 = q) (hj : Nat.blt (j + 1) L.length = true) (hL : mz_st2 L j (.long x) = L2) (k : zw sc sa d Y B Q q L2 (st) M z) : zw sc sa d Y B Q pc L (.long x :: st) M z := by
  subst hp
  exact zg he (⟨by simpa using hj, by rw [← hL] at k; exact k⟩)
theorem z_lstore_n {j : Fin 4} {x : Int64} {L2 : List Value} (he : mz_lk Y.2.2.2.2.2.2 pc = some (.lstore_n j, ln, tg)) (hp : pc + 1 = q) (hj : Nat.blt ((j : Nat) + 1) L.length = true) (hL : mz_st2 L (j : Nat) (.long x) = L2) (k : zw sc sa d Y B Q q L2 (st) M z) : zw sc sa d Y B Q pc L (.long x :: st) M z := by
  subst hp
  exact zg he (⟨by simpa using hj, by rw [← hL] at k; exact k⟩)
theorem z_astore {j : Nat} {x : Nat} {L2 : List Value} (he : mz_lk Y.2.2.2.2.2.2 pc = some (.astore j, ln, tg)) (hp : pc + 2 = q) (hj : Nat.blt (j) L.length = true) (hL : mz_st1 L j (.ref x) = L2) (k : zw sc sa d Y B Q q L2 (st) M z) : zw sc sa d Y B Q pc L (.ref x :: st) M z := by
  subst hp
  exact zg he (⟨by simpa using hj, by rw [← hL] at k; exact k⟩)
theorem z_astore_n {j : Fin 4} {x : Nat} {L2 : List Value} (he : mz_lk Y.2.2.2.2.2.2 pc = some (.astore_n j, ln, tg)) (hp : pc + 1 = q) (hj : Nat.blt ((j : Nat)) L.length = true) (hL : mz_st1 L (j : Nat) (.ref x) = L2) (k : zw sc sa d Y B Q q L2 (st) M z) : zw sc sa d Y B Q pc L (.ref x :: st) M z := by
  subst hp
  exact zg he (⟨by simpa using hj, by rw [← hL] at k; exact k⟩)
theorem z_astore_nN {j : Fin 4} {L2 : List Value} (he : mz_lk Y.2.2.2.2.2.2 pc = some (.astore_n j, ln, tg)) (hp : pc + 1 = q) (hj : Nat.blt (j : Nat) L.length = true) (hL : mz_st1 L (j : Nat) .null = L2) (k : zw sc sa d Y B Q q L2 (st) M z) : zw sc sa d Y B Q pc L (.null :: st) M z := by
  subst hp
  exact zg he (⟨by simpa using hj, by rw [← hL] at k; exact k⟩)
theorem z_iinc {j : Nat} {n : Int} {x : Int32} {L2 : List Value} (he : mz_lk Y.2.2.2.2.2.2 pc = some (.iinc j n, ln, tg)) (hp : pc + 3 = q) (hl : L[j]? = some (.int x)) (hL : mz_st1 L j (.int (x + Int32.ofInt n)) = L2) (k : zw sc sa d Y B Q q L2 (st) M z) : zw sc sa d Y B Q pc L (st) M z := by
  subst hp
  exact zg he (by show mz_gI L[j]? _; rw [hl]; rw [← hL] at k; exact k)
theorem z_iadd {x y : Int32} (he : mz_lk Y.2.2.2.2.2.2 pc = some (.iadd, ln, tg)) (hp : pc + 1 = q) (k : zw sc sa d Y B Q q L (.int (x + y) :: st) M z) : zw sc sa d Y B Q pc L (.int y :: .int x :: st) M z := by
  subst hp
  exact zg he (k)
theorem z_isub {x y : Int32} (he : mz_lk Y.2.2.2.2.2.2 pc = some (.isub, ln, tg)) (hp : pc + 1 = q) (k : zw sc sa d Y B Q q L (.int (x - y) :: st) M z) : zw sc sa d Y B Q pc L (.int y :: .int x :: st) M z := by
  subst hp
  exact zg he (k)
theorem z_imul {x y : Int32} (he : mz_lk Y.2.2.2.2.2.2 pc = some (.imul, ln, tg)) (hp : pc + 1 = q) (k : zw sc sa d Y B Q q L (.int (x * y) :: st) M z) : zw sc sa d Y B Q pc L (.int y :: .int x :: st) M z := by
  subst hp
  exact zg he (k)
theorem z_iand {x y : Int32} (he : mz_lk Y.2.2.2.2.2.2 pc = some (.iand, ln, tg)) (hp : pc + 1 = q) (k : zw sc sa d Y B Q q L (.int (x &&& y) :: st) M z) : zw sc sa d Y B Q pc L (.int y :: .int x :: st) M z := by
  subst hp
  exact zg he (k)
theorem z_ior {x y : Int32} (he : mz_lk Y.2.2.2.2.2.2 pc = some (.ior, ln, tg)) (hp : pc + 1 = q) (k : zw sc sa d Y B Q q L (.int (x ||| y) :: st) M z) : zw sc sa d Y B Q pc L (.int y :: .int x :: st) M z := by
  subst hp
  exact zg he (k)
theorem z_ixor {x y : Int32} (he : mz_lk Y.2.2.2.2.2.2 pc = some (.ixor, ln, tg)) (hp : pc + 1 = q) (k : zw sc sa d Y B Q q L (.int (x ^^^ y) :: st) M z) : zw sc sa d Y B Q pc L (.int y :: .int x :: st) M z := by
  subst hp
  exact zg he (k)
theorem z_ishl {x y : Int32} (he : mz_lk Y.2.2.2.2.2.2 pc = some (.ishl, ln, tg)) (hp : pc + 1 = q) (k : zw sc sa d Y B Q q L (.int (x <<< (y &&& 31)) :: st) M z) : zw sc sa d Y B Q pc L (.int y :: .int x :: st) M z := by
  subst hp
  exact zg he (k)
theorem z_ishr {x y : Int32} (he : mz_lk Y.2.2.2.2.2.2 pc = some (.ishr, ln, tg)) (hp : pc + 1 = q) (k : zw sc sa d Y B Q q L (.int (x >>> (y &&& 31)) :: st) M z) : zw sc sa d Y B Q pc L (.int y :: .int x :: st) M z := by
  subst hp
  exact zg he (k)
theorem z_iushr {x y : Int32} (he : mz_lk Y.2.2.2.2.2.2 pc = some (.iushr, ln, tg)) (hp : pc + 1 = q) (k : zw sc sa d Y B Q q L (.int ((x.toUInt32 >>> (y.toUInt32 &&& Int32.toUInt32 31)).toInt32) :: st) M z) : zw sc sa d Y B Q pc L (.int y :: .int x :: st) M z := by
  subst hp
  exact zg he (k)
theorem z_idiv {x y : Int32} (he : mz_lk Y.2.2.2.2.2.2 pc = some (.idiv, ln, tg)) (hp : pc + 1 = q) (h0 : ¬ y = 0) (k : zw sc sa d Y B Q q L (.int (x / y) :: st) M z) : zw sc sa d Y B Q pc L (.int y :: .int x :: st) M z := by
  subst hp
  exact zg he (⟨h0, k⟩)
theorem z_irem {x y : Int32} (he : mz_lk Y.2.2.2.2.2.2 pc = some (.irem, ln, tg)) (hp : pc + 1 = q) (h0 : ¬ y = 0) (k : zw sc sa d Y B Q q L (.int (x - x / y * y) :: st) M z) : zw sc sa d Y B Q pc L (.int y :: .int x :: st) M z := by
  subst hp
  exact zg he (⟨h0, k⟩)
theorem z_land {x y : Int64} (he : mz_lk Y.2.2.2.2.2.2 pc = some (.land, ln, tg)) (hp : pc + 1 = q) (k : zw sc sa d Y B Q q L (.long (x &&& y) :: st) M z) : zw sc sa d Y B Q pc L (.long y :: .long x :: st) M z := by
  subst hp
  exact zg he (k)
theorem z_lor {x y : Int64} (he : mz_lk Y.2.2.2.2.2.2 pc = some (.lor, ln, tg)) (hp : pc + 1 = q) (k : zw sc sa d Y B Q q L (.long (x ||| y) :: st) M z) : zw sc sa d Y B Q pc L (.long y :: .long x :: st) M z := by
  subst hp
  exact zg he (k)
theorem z_lxor {x y : Int64} (he : mz_lk Y.2.2.2.2.2.2 pc = some (.lxor, ln, tg)) (hp : pc + 1 = q) (k : zw sc sa d Y B Q q L (.long (x ^^^ y) :: st) M z) : zw sc sa d Y B Q pc L (.long y :: .long x :: st) M z := by
  subst hp
  exact zg he (k)
theorem z_lshl {x : Int64} {y : Int32} (he : mz_lk Y.2.2.2.2.2.2 pc = some (.lshl, ln, tg)) (hp : pc + 1 = q) (k : zw sc sa d Y B Q q L (.long (x <<< (y.toInt64 &&& 63)) :: st) M z) : zw sc sa d Y B Q pc L (.int y :: .long x :: st) M z := by
  subst hp
  exact zg he (k)
theorem z_lshr {x : Int64} {y : Int32} (he : mz_lk Y.2.2.2.2.2.2 pc = some (.lshr, ln, tg)) (hp : pc + 1 = q) (k : zw sc sa d Y B Q q L (.long (x >>> (y.toInt64 &&& 63)) :: st) M z) : zw sc sa d Y B Q pc L (.int y :: .long x :: st) M z := by
  subst hp
  exact zg he (k)
theorem z_lushr {x : Int64} {y : Int32} (he : mz_lk Y.2.2.2.2.2.2 pc = some (.lushr, ln, tg)) (hp : pc + 1 = q) (k : zw sc sa d Y B Q q L (.long ((x.toUInt64 >>> (y.toInt64.toUInt64 &&& Int64.toUInt64 63)).toInt64) :: st) M z) : zw sc sa d Y B Q pc L (.int y :: .long x :: st) M z := by
  subst hp
  exact zg he (k)
theorem z_i2l {x : Int32} (he : mz_lk Y.2.2.2.2.2.2 pc = some (.i2l, ln, tg)) (hp : pc + 1 = q) (k : zw sc sa d Y B Q q L (.long x.toInt64 :: st) M z) : zw sc sa d Y B Q pc L (.int x :: st) M z := by
  subst hp
  exact zg he (k)
theorem z_l2i {x : Int64} (he : mz_lk Y.2.2.2.2.2.2 pc = some (.l2i, ln, tg)) (hp : pc + 1 = q) (k : zw sc sa d Y B Q q L (.int x.toInt32 :: st) M z) : zw sc sa d Y B Q pc L (.long x :: st) M z := by
  subst hp
  exact zg he (k)
theorem z_i2b {x : Int32} (he : mz_lk Y.2.2.2.2.2.2 pc = some (.i2b, ln, tg)) (hp : pc + 1 = q) (k : zw sc sa d Y B Q q L (.int x.toInt8.toInt32 :: st) M z) : zw sc sa d Y B Q pc L (.int x :: st) M z := by
  subst hp
  exact zg he (k)
theorem z_lcmp {x y : Int64} (he : mz_lk Y.2.2.2.2.2.2 pc = some (.lcmp, ln, tg)) (hp : pc + 1 = q) (k : zw sc sa d Y B Q q L (.int (lg_cmp x y) :: st) M z) : zw sc sa d Y B Q pc L (.long y :: .long x :: st) M z := by
  subst hp
  exact zg he (k)
theorem z_dup {v : Value} (he : mz_lk Y.2.2.2.2.2.2 pc = some (.dup, ln, tg)) (hp : pc + 1 = q) (hc : v.category = 1) (k : zw sc sa d Y B Q q L (v :: v :: st) M z) : zw sc sa d Y B Q pc L (v :: st) M z := by
  subst hp
  exact zg he (⟨hc, k⟩)
theorem z_dup2 {v w : Value} (he : mz_lk Y.2.2.2.2.2.2 pc = some (.dup2, ln, tg)) (hp : pc + 1 = q) (hc : v.category = 1) (hw : w.category = 1) (k : zw sc sa d Y B Q q L (v :: w :: v :: w :: st) M z) : zw sc sa d Y B Q pc L (v :: w :: st) M z := by
  subst hp
  exact zg he (⟨hc, hw, k⟩)
theorem z_pop {v : Value} (he : mz_lk Y.2.2.2.2.2.2 pc = some (.pop, ln, tg)) (hp : pc + 1 = q) (hc : v.category = 1) (k : zw sc sa d Y B Q q L (st) M z) : zw sc sa d Y B Q pc L (v :: st) M z := by
  subst hp
  exact zg he (⟨hc, k⟩)
theorem z_if_eq {off : Int} {t : Nat} {x : Int32} (he : mz_lk Y.2.2.2.2.2.2 pc = some (.ifCond .eq off, ln, [t])) (hp : pc + 3 = q) (kt : x = 0 → zw sc sa d Y B Q t L st M z) (kf : ¬ x = 0 → zw sc sa d Y B Q q L st M z) : zw sc sa d Y B Q pc L (.int x :: st) M z := by
  subst hp
  exact zg he ⟨kt, kf⟩
theorem z_ic_eq {off : Int} {t : Nat} {x y : Int32} (he : mz_lk Y.2.2.2.2.2.2 pc = some (.if_icmp .eq off, ln, [t])) (hp : pc + 3 = q) (kt : x = y → zw sc sa d Y B Q t L st M z) (kf : ¬ x = y → zw sc sa d Y B Q q L st M z) : zw sc sa d Y B Q pc L (.int y :: .int x :: st) M z := by
  subst hp
  exact zg he ⟨kt, kf⟩
theorem z_if_ne {off : Int} {t : Nat} {x : Int32} (he : mz_lk Y.2.2.2.2.2.2 pc = some (.ifCond .ne off, ln, [t])) (hp : pc + 3 = q) (kt : ¬ x = 0 → zw sc sa d Y B Q t L st M z) (kf : x = 0 → zw sc sa d Y B Q q L st M z) : zw sc sa d Y B Q pc L (.int x :: st) M z := by
  subst hp
  exact zg he ⟨kt, kf⟩
theorem z_ic_ne {off : Int} {t : Nat} {x y : Int32} (he : mz_lk Y.2.2.2.2.2.2 pc = some (.if_icmp .ne off, ln, [t])) (hp : pc + 3 = q) (kt : ¬ x = y → zw sc sa d Y B Q t L st M z) (kf : x = y → zw sc sa d Y B Q q L st M z) : zw sc sa d Y B Q pc L (.int y :: .int x :: st) M z := by
  subst hp
  exact zg he ⟨kt, kf⟩
theorem z_if_lt {off : Int} {t : Nat} {x : Int32} (he : mz_lk Y.2.2.2.2.2.2 pc = some (.ifCond .lt off, ln, [t])) (hp : pc + 3 = q) (kt : x < 0 → zw sc sa d Y B Q t L st M z) (kf : ¬ x < 0 → zw sc sa d Y B Q q L st M z) : zw sc sa d Y B Q pc L (.int x :: st) M z := by
  subst hp
  exact zg he ⟨kt, kf⟩
theorem z_ic_lt {off : Int} {t : Nat} {x y : Int32} (he : mz_lk Y.2.2.2.2.2.2 pc = some (.if_icmp .lt off, ln, [t])) (hp : pc + 3 = q) (kt : x < y → zw sc sa d Y B Q t L st M z) (kf : ¬ x < y → zw sc sa d Y B Q q L st M z) : zw sc sa d Y B Q pc L (.int y :: .int x :: st) M z := by
  subst hp
  exact zg he ⟨kt, kf⟩
theorem z_if_ge {off : Int} {t : Nat} {x : Int32} (he : mz_lk Y.2.2.2.2.2.2 pc = some (.ifCond .ge off, ln, [t])) (hp : pc + 3 = q) (kt : 0 ≤ x → zw sc sa d Y B Q t L st M z) (kf : ¬ 0 ≤ x → zw sc sa d Y B Q q L st M z) : zw sc sa d Y B Q pc L (.int x :: st) M z := by
  subst hp
  exact zg he ⟨kt, kf⟩
theorem z_ic_ge {off : Int} {t : Nat} {x y : Int32} (he : mz_lk Y.2.2.2.2.2.2 pc = some (.if_icmp .ge off, ln, [t])) (hp : pc + 3 = q) (kt : y ≤ x → zw sc sa d Y B Q t L st M z) (kf : ¬ y ≤ x → zw sc sa d Y B Q q L st M z) : zw sc sa d Y B Q pc L (.int y :: .int x :: st) M z := by
  subst hp
  exact zg he ⟨kt, kf⟩
theorem z_if_gt {off : Int} {t : Nat} {x : Int32} (he : mz_lk Y.2.2.2.2.2.2 pc = some (.ifCond .gt off, ln, [t])) (hp : pc + 3 = q) (kt : 0 < x → zw sc sa d Y B Q t L st M z) (kf : ¬ 0 < x → zw sc sa d Y B Q q L st M z) : zw sc sa d Y B Q pc L (.int x :: st) M z := by
  subst hp
  exact zg he ⟨kt, kf⟩
theorem z_ic_gt {off : Int} {t : Nat} {x y : Int32} (he : mz_lk Y.2.2.2.2.2.2 pc = some (.if_icmp .gt off, ln, [t])) (hp : pc + 3 = q) (kt : y < x → zw sc sa d Y B Q t L st M z) (kf : ¬ y < x → zw sc sa d Y B Q q L st M z) : zw sc sa d Y B Q pc L (.int y :: .int x :: st) M z := by
  subst hp
  exact zg he ⟨kt, kf⟩
theorem z_if_le {off : Int} {t : Nat} {x : Int32} (he : mz_lk Y.2.2.2.2.2.2 pc = some (.ifCond .le off, ln, [t])) (hp : pc + 3 = q) (kt : x ≤ 0 → zw sc sa d Y B Q t L st M z) (kf : ¬ x ≤ 0 → zw sc sa d Y B Q q L st M z) : zw sc sa d Y B Q pc L (.int x :: st) M z := by
  subst hp
  exact zg he ⟨kt, kf⟩
theorem z_ic_le {off : Int} {t : Nat} {x y : Int32} (he : mz_lk Y.2.2.2.2.2.2 pc = some (.if_icmp .le off, ln, [t])) (hp : pc + 3 = q) (kt : x ≤ y → zw sc sa d Y B Q t L st M z) (kf : ¬ x ≤ y → zw sc sa d Y B Q q L st M z) : zw sc sa d Y B Q pc L (.int y :: .int x :: st) M z := by
  subst hp
  exact zg he ⟨kt, kf⟩
theorem z_goto {off : Int} {t : Nat} (he : mz_lk Y.2.2.2.2.2.2 pc = some (.goto off, ln, [t])) (k : zw sc sa d Y B Q t L st M z) : zw sc sa d Y B Q pc L st M z := zg he k
theorem z_ifnull_r {off : Int} {t a : Nat} (he : mz_lk Y.2.2.2.2.2.2 pc = some (.ifnull off, ln, [t])) (hp : pc + 3 = q) (k : zw sc sa d Y B Q q L st M z) : zw sc sa d Y B Q pc L (.ref a :: st) M z := by
  subst hp
  exact zg he ⟨fun h => (by cases h), fun _ => k, Or.inr ⟨a, rfl⟩⟩
theorem z_ifnull_n {off : Int} {t : Nat} (he : mz_lk Y.2.2.2.2.2.2 pc = some (.ifnull off, ln, [t])) (k : zw sc sa d Y B Q t L st M z) : zw sc sa d Y B Q pc L (.null :: st) M z := zg he ⟨fun _ => k, fun ⟨_, h⟩ => (by cases h), Or.inl rfl⟩
theorem z_ifnonnull_r {off : Int} {t a : Nat} (he : mz_lk Y.2.2.2.2.2.2 pc = some (.ifnonnull off, ln, [t])) (k : zw sc sa d Y B Q t L st M z) : zw sc sa d Y B Q pc L (.ref a :: st) M z := zg he ⟨fun _ => k, fun h => (by cases h), Or.inr ⟨a, rfl⟩⟩
theorem z_ifnonnull_n {off : Int} {t : Nat} (he : mz_lk Y.2.2.2.2.2.2 pc = some (.ifnonnull off, ln, [t])) (hp : pc + 3 = q) (k : zw sc sa d Y B Q q L st M z) : zw sc sa d Y B Q pc L (.null :: st) M z := by
  subst hp
  exact zg he ⟨fun ⟨_, h⟩ => (by cases h), fun _ => k, Or.inl rfl⟩
theorem z_sw {df lo hi : Int} {offs : Array Int} {x : Int32} (he : mz_lk Y.2.2.2.2.2.2 pc = some (.tableswitch df lo hi offs, ln, tg)) (h : mz_sw x lo hi tg (fun t => zw sc sa d Y B Q t L st M z)) : zw sc sa d Y B Q pc L (.int x :: st) M z := zg he h
theorem z_ldc {i r w : Nat} {v : Int32} (he : mz_lk Y.2.2.2.2.2.2 pc = some (.ldc i, ln, [0, r, w])) (hp : pc + 2 = q) (hv : Int32.ofNat w = v) (k : zw sc sa d Y B Q q L (.int v :: st) M z) : zw sc sa d Y B Q pc L (st) M z := by
  subst hp
  exact zg he (by rw [← hv] at k; exact k)
theorem z_ldcw {i r w : Nat} {v : Int32} (he : mz_lk Y.2.2.2.2.2.2 pc = some (.ldc_w i, ln, [0, r, w])) (hp : pc + 3 = q) (hv : Int32.ofNat w = v) (k : zw sc sa d Y B Q q L (.int v :: st) M z) : zw sc sa d Y B Q pc L (st) M z := by
  subst hp
  exact zg he (by rw [← hv] at k; exact k)
theorem z_ldcs {i r w : Nat} (he : mz_lk Y.2.2.2.2.2.2 pc = some (.ldc i, ln, [1, r, w])) (hp : pc + 2 = q) (k : zw sc sa d Y B Q q L (.ref (sa w) :: st) M z) : zw sc sa d Y B Q pc L (st) M z := by
  subst hp
  exact zg he (k)
theorem z_ldcws {i r w : Nat} (he : mz_lk Y.2.2.2.2.2.2 pc = some (.ldc_w i, ln, [1, r, w])) (hp : pc + 3 = q) (k : zw sc sa d Y B Q q L (.ref (sa w) :: st) M z) : zw sc sa d Y B Q pc L (st) M z := by
  subst hp
  exact zg he (k)
theorem z_ldc2 {i a r w : Nat} {v : Int64} (he : mz_lk Y.2.2.2.2.2.2 pc = some (.ldc2_w i, ln, [a, r, w])) (hp : pc + 3 = q) (hv : Int64.ofNat w = v) (k : zw sc sa d Y B Q q L (.long v :: st) M z) : zw sc sa d Y B Q pc L (st) M z := by
  subst hp
  exact zg he (by rw [← hv] at k; exact k)
theorem z_getI {i c j r a n : Nat} (he : mz_lk Y.2.2.2.2.2.2 pc = some (.getfield i, ln, [c, j, r])) (hp : pc + 3 = q) (hi : mz_iR c j = false) (hk : M.2.2.2 a = (10 + c, n)) (k : zw sc sa d Y B Q q L (.int (M.1 a j) :: st) M z) : zw sc sa d Y B Q pc L (.ref a :: st) M z := by
  subst hp
  exact zg he (⟨by unfold mz_kd; rw [hk], by unfold mz_rd; rw [hi]; exact k⟩)
theorem z_getR {i c j r a n b : Nat} (he : mz_lk Y.2.2.2.2.2.2 pc = some (.getfield i, ln, [c, j, r])) (hp : pc + 3 = q) (hi : mz_iR c j = true) (hk : M.2.2.2 a = (10 + c, n)) (hr : M.2.2.1 a j = some b) (k : zw sc sa d Y B Q q L (.ref b :: st) M z) : zw sc sa d Y B Q pc L (.ref a :: st) M z := by
  subst hp
  exact zg he (⟨by unfold mz_kd; rw [hk], by unfold mz_rd; rw [hi, hr]; exact k⟩)
theorem z_putI {i c j r a n : Nat} {x : Int32} (he : mz_lk Y.2.2.2.2.2.2 pc = some (.putfield i, ln, [c, j, r])) (hp : pc + 3 = q) (hi : mz_iR c j = false) (hf : (mz_cF c j).2.2.2 = true → Y.2.2.2.2.2.1 = true ∧ Y.2.2.2.2.1 = c) (hn : narrow (mz_cY c j) (.int x) = .int x) (ht : fits (mz_cY c j) (.int x) = true) (hk : M.2.2.2 a = (10 + c, n)) (k : zw sc sa d Y B Q q L (st) (mz_uI M a j x) z) : zw sc sa d Y B Q pc L (.int x :: .ref a :: st) M z := by
  subst hp
  exact zg he (⟨by unfold mz_kd; rw [hk], hf, hi, hn, ht, k⟩)
theorem z_putR {i c j r a n x : Nat} (he : mz_lk Y.2.2.2.2.2.2 pc = some (.putfield i, ln, [c, j, r])) (hp : pc + 3 = q) (hi : mz_iR c j = true) (hf : (mz_cF c j).2.2.2 = true → Y.2.2.2.2.2.1 = true ∧ Y.2.2.2.2.1 = c) (hk : M.2.2.2 a = (10 + c, n)) (k : zw sc sa d Y B Q q L (st) (mz_uR M a j (some x)) z) : zw sc sa d Y B Q pc L (.ref x :: .ref a :: st) M z := by
  subst hp
  exact zg he (⟨by unfold mz_kd; rw [hk], hf, hi, k⟩)
theorem z_iald {a n : Nat} {x : Int32} (he : mz_lk Y.2.2.2.2.2.2 pc = some (.iaload, ln, [])) (hp : pc + 1 = q) (hk : M.2.2.2 a = (1, n)) (hx : vp_in x n) (k : zw sc sa d Y B Q q L (.int (M.1 a x.toNatClampNeg) :: st) M z) : zw sc sa d Y B Q pc L (.int x :: .ref a :: st) M z := by
  subst hp
  exact zg he (⟨by unfold mz_kd; rw [hk], by unfold mz_ln; rw [hk]; exact hx, k⟩)
theorem z_lald {a n : Nat} {x : Int32} (he : mz_lk Y.2.2.2.2.2.2 pc = some (.laload, ln, [])) (hp : pc + 1 = q) (hk : M.2.2.2 a = (4, n)) (hx : vp_in x n) (k : zw sc sa d Y B Q q L (.long (M.2.1 a x.toNatClampNeg) :: st) M z) : zw sc sa d Y B Q pc L (.int x :: .ref a :: st) M z := by
  subst hp
  exact zg he (⟨by unfold mz_kd; rw [hk], by unfold mz_ln; rw [hk]; exact hx, k⟩)
theorem z_bald {a n : Nat} {x : Int32} (he : mz_lk Y.2.2.2.2.2.2 pc = some (.baload, ln, tg)) (hp : pc + 1 = q) (hk : M.2.2.2 a = (2, n)) (hx : vp_in x n) (k : zw sc sa d Y B Q q L (.int (M.1 a x.toNatClampNeg) :: st) M z) : zw sc sa d Y B Q pc L (.int x :: .ref a :: st) M z := by
  subst hp
  exact zg he (⟨Or.inl (by unfold mz_kd; rw [hk]), by unfold mz_ln; rw [hk]; exact hx, k⟩)
theorem z_zald {a n : Nat} {x : Int32} (he : mz_lk Y.2.2.2.2.2.2 pc = some (.baload, ln, tg)) (hp : pc + 1 = q) (hk : M.2.2.2 a = (3, n)) (hx : vp_in x n) (k : zw sc sa d Y B Q q L (.int (M.1 a x.toNatClampNeg) :: st) M z) : zw sc sa d Y B Q pc L (.int x :: .ref a :: st) M z := by
  subst hp
  exact zg he (⟨Or.inr (by unfold mz_kd; rw [hk]), by unfold mz_ln; rw [hk]; exact hx, k⟩)
theorem z_aald {a n b : Nat} {x : Int32} (he : mz_lk Y.2.2.2.2.2.2 pc = some (.aaload, ln, tg)) (hp : pc + 1 = q) (hk : M.2.2.2 a = (5, n)) (hx : vp_in x n) (hr : M.2.2.1 a x.toNatClampNeg = some b) (k : zw sc sa d Y B Q q L (.ref b :: st) M z) : zw sc sa d Y B Q pc L (.int x :: .ref a :: st) M z := by
  subst hp
  exact zg he (⟨by unfold mz_kd; rw [hk], by unfold mz_ln; rw [hk]; exact hx, by rw [hr]; exact k⟩)
theorem z_iast {a n : Nat} {x v : Int32} (he : mz_lk Y.2.2.2.2.2.2 pc = some (.iastore, ln, tg)) (hp : pc + 1 = q) (hk : M.2.2.2 a = (1, n)) (hx : vp_in x n) (k : zw sc sa d Y B Q q L (st) (mz_uI M a x.toNatClampNeg v) z) : zw sc sa d Y B Q pc L (.int v :: .int x :: .ref a :: st) M z := by
  subst hp
  exact zg he (⟨by unfold mz_kd; rw [hk], by unfold mz_ln; rw [hk]; exact hx, k⟩)
theorem z_last {a n : Nat} {x : Int32} {v : Int64} (he : mz_lk Y.2.2.2.2.2.2 pc = some (.lastore, ln, tg)) (hp : pc + 1 = q) (hk : M.2.2.2 a = (4, n)) (hx : vp_in x n) (k : zw sc sa d Y B Q q L (st) (mz_uJ M a x.toNatClampNeg v) z) : zw sc sa d Y B Q pc L (.long v :: .int x :: .ref a :: st) M z := by
  subst hp
  exact zg he (⟨by unfold mz_kd; rw [hk], by unfold mz_ln; rw [hk]; exact hx, k⟩)
theorem z_bast {a n : Nat} {x v : Int32} (he : mz_lk Y.2.2.2.2.2.2 pc = some (.bastore, ln, tg)) (hp : pc + 1 = q) (hk : M.2.2.2 a = (2, n)) (hx : vp_in x n) (k : zw sc sa d Y B Q q L (st) (mz_uI M a x.toNatClampNeg (vp_nar .byte v)) z) : zw sc sa d Y B Q pc L (.int v :: .int x :: .ref a :: st) M z := by
  subst hp
  exact zg he (⟨by unfold mz_ln; rw [hk]; exact hx, Or.inl (by unfold mz_kd; rw [hk]), by unfold mz_kd; rw [hk]; exact k⟩)
theorem z_zast {a n : Nat} {x v : Int32} (he : mz_lk Y.2.2.2.2.2.2 pc = some (.bastore, ln, tg)) (hp : pc + 1 = q) (hk : M.2.2.2 a = (3, n)) (hx : vp_in x n) (k : zw sc sa d Y B Q q L (st) (mz_uI M a x.toNatClampNeg (vp_nar .boolean v)) z) : zw sc sa d Y B Q pc L (.int v :: .int x :: .ref a :: st) M z := by
  subst hp
  exact zg he (⟨by unfold mz_ln; rw [hk]; exact hx, Or.inr (by unfold mz_kd; rw [hk]), by unfold mz_kd; rw [hk]; exact k⟩)
theorem z_alen {a n kd : Nat} {v : Int32} (he : mz_lk Y.2.2.2.2.2.2 pc = some (.arraylength, ln, [])) (hp : pc + 1 = q) (hk : M.2.2.2 a = (kd, n)) (hc : (Nat.ble 1 kd && Nat.ble kd 5) = true) (hv : nI n = v) (k : zw sc sa d Y B Q q L (.int v :: st) M z) : zw sc sa d Y B Q pc L (.ref a :: st) M z := by
  subst hp
  exact zg he (⟨by unfold mz_kd; rw [hk]; simp only [Bool.and_eq_true, Nat.ble_eq] at hc; show kd = 1 ∨ kd = 2 ∨ kd = 3 ∨ kd = 4 ∨ kd = 5; omega, by rw [← hv] at k; unfold mz_ln; rw [hk]; exact k⟩)
theorem z_cv0i {i y c r b nn : Nat} {x : Int32} {M1 : mz_M} (he : mz_lk Y.2.2.2.2.2.2 pc = some (.invokevirtual i, ln, [0, y, 1, c, r])) (hp : pc + 3 = q) (hs : Nat.ble (mz_sum st) 8 = true) (hk : M.2.2.2 b = (10 + c, nn)) (hx : zx sc sa d y [.ref b] M z z (some (.int x)) M1) (k : zw sc sa d Y B Q q L (.int x :: st) M1 z) : zw sc sa d Y B Q pc L (.ref b :: st) M z := by
  subst hp
  exact zg he ⟨by show mz_kd M b = 10 + c; unfold mz_kd; rw [hk], by simp, by simpa using hs, mz_Kd_m sc sa d _ _ _ _ _ _ _ (fun r2 M2 h2 => by rw [h2.1, h2.2]; exact k) hx⟩
theorem z_cv0l {i y c r b nn : Nat} {x : Int64} {M1 : mz_M} (he : mz_lk Y.2.2.2.2.2.2 pc = some (.invokevirtual i, ln, [0, y, 1, c, r])) (hp : pc + 3 = q) (hs : Nat.ble (mz_sum st) 8 = true) (hk : M.2.2.2 b = (10 + c, nn)) (hx : zx sc sa d y [.ref b] M z z (some (.long x)) M1) (k : zw sc sa d Y B Q q L (.long x :: st) M1 z) : zw sc sa d Y B Q pc L (.ref b :: st) M z := by
  subst hp
  exact zg he ⟨by show mz_kd M b = 10 + c; unfold mz_kd; rw [hk], by simp, by simpa using hs, mz_Kd_m sc sa d _ _ _ _ _ _ _ (fun r2 M2 h2 => by rw [h2.1, h2.2]; exact k) hx⟩
theorem z_cv0v {i y c r b nn : Nat} {M1 : mz_M} (he : mz_lk Y.2.2.2.2.2.2 pc = some (.invokevirtual i, ln, [0, y, 1, c, r])) (hp : pc + 3 = q) (hs : Nat.ble (mz_sum st) 8 = true) (hk : M.2.2.2 b = (10 + c, nn)) (hx : zx sc sa d y [.ref b] M z z none M1) (k : zw sc sa d Y B Q q L (st) M1 z) : zw sc sa d Y B Q pc L (.ref b :: st) M z := by
  subst hp
  exact zg he ⟨by show mz_kd M b = 10 + c; unfold mz_kd; rw [hk], by simp, by simpa using hs, mz_Kd_m sc sa d _ _ _ _ _ _ _ (fun r2 M2 h2 => by rw [h2.1, h2.2]; exact k) hx⟩
theorem z_cv0a {i y c r b nn : Nat} {x : Value} {M1 : mz_M} (he : mz_lk Y.2.2.2.2.2.2 pc = some (.invokevirtual i, ln, [0, y, 1, c, r])) (hp : pc + 3 = q) (hs : Nat.ble (mz_sum st) 8 = true) (hk : M.2.2.2 b = (10 + c, nn)) (hx : zx sc sa d y [.ref b] M z z (some x) M1) (k : zw sc sa d Y B Q q L (x :: st) M1 z) : zw sc sa d Y B Q pc L (.ref b :: st) M z := by
  subst hp
  exact zg he ⟨by show mz_kd M b = 10 + c; unfold mz_kd; rw [hk], by simp, by simpa using hs, mz_Kd_m sc sa d _ _ _ _ _ _ _ (fun r2 M2 h2 => by rw [h2.1, h2.2]; exact k) hx⟩
theorem z_cv1i {i y c r b nn : Nat} {a1 : Value} {x : Int32} {M1 : mz_M} (he : mz_lk Y.2.2.2.2.2.2 pc = some (.invokevirtual i, ln, [0, y, 2, c, r])) (hp : pc + 3 = q) (hs : Nat.ble (mz_sum st) 8 = true) (hk : M.2.2.2 b = (10 + c, nn)) (hx : zx sc sa d y [.ref b, a1] M z z (some (.int x)) M1) (k : zw sc sa d Y B Q q L (.int x :: st) M1 z) : zw sc sa d Y B Q pc L (a1 :: .ref b :: st) M z := by
  subst hp
  exact zg he ⟨by show mz_kd M b = 10 + c; unfold mz_kd; rw [hk], by simp, by simpa using hs, mz_Kd_m sc sa d _ _ _ _ _ _ _ (fun r2 M2 h2 => by rw [h2.1, h2.2]; exact k) hx⟩
theorem z_cs1i {i y c r : Nat} {a1 : Value} {x : Int32} {M1 : mz_M} (he : mz_lk Y.2.2.2.2.2.2 pc = some (.invokestatic i, ln, [0, y, 1, c, r])) (hp : pc + 3 = q) (hs : Nat.ble (mz_sum st) 8 = true) (hx : zx sc sa d y [a1] M z z (some (.int x)) M1) (k : zw sc sa d Y B Q q L (.int x :: st) M1 z) : zw sc sa d Y B Q pc L (a1 :: st) M z := by
  subst hp
  exact zg he ⟨by simp, by simpa using hs, mz_Kd_m sc sa d _ _ _ _ _ _ _ (fun r2 M2 h2 => by rw [h2.1, h2.2]; exact k) hx⟩
theorem z_cv1l {i y c r b nn : Nat} {a1 : Value} {x : Int64} {M1 : mz_M} (he : mz_lk Y.2.2.2.2.2.2 pc = some (.invokevirtual i, ln, [0, y, 2, c, r])) (hp : pc + 3 = q) (hs : Nat.ble (mz_sum st) 8 = true) (hk : M.2.2.2 b = (10 + c, nn)) (hx : zx sc sa d y [.ref b, a1] M z z (some (.long x)) M1) (k : zw sc sa d Y B Q q L (.long x :: st) M1 z) : zw sc sa d Y B Q pc L (a1 :: .ref b :: st) M z := by
  subst hp
  exact zg he ⟨by show mz_kd M b = 10 + c; unfold mz_kd; rw [hk], by simp, by simpa using hs, mz_Kd_m sc sa d _ _ _ _ _ _ _ (fun r2 M2 h2 => by rw [h2.1, h2.2]; exact k) hx⟩
theorem z_cs1l {i y c r : Nat} {a1 : Value} {x : Int64} {M1 : mz_M} (he : mz_lk Y.2.2.2.2.2.2 pc = some (.invokestatic i, ln, [0, y, 1, c, r])) (hp : pc + 3 = q) (hs : Nat.ble (mz_sum st) 8 = true) (hx : zx sc sa d y [a1] M z z (some (.long x)) M1) (k : zw sc sa d Y B Q q L (.long x :: st) M1 z) : zw sc sa d Y B Q pc L (a1 :: st) M z := by
  subst hp
  exact zg he ⟨by simp, by simpa using hs, mz_Kd_m sc sa d _ _ _ _ _ _ _ (fun r2 M2 h2 => by rw [h2.1, h2.2]; exact k) hx⟩
theorem z_cv1v {i y c r b nn : Nat} {a1 : Value} {M1 : mz_M} (he : mz_lk Y.2.2.2.2.2.2 pc = some (.invokevirtual i, ln, [0, y, 2, c, r])) (hp : pc + 3 = q) (hs : Nat.ble (mz_sum st) 8 = true) (hk : M.2.2.2 b = (10 + c, nn)) (hx : zx sc sa d y [.ref b, a1] M z z none M1) (k : zw sc sa d Y B Q q L (st) M1 z) : zw sc sa d Y B Q pc L (a1 :: .ref b :: st) M z := by
  subst hp
  exact zg he ⟨by show mz_kd M b = 10 + c; unfold mz_kd; rw [hk], by simp, by simpa using hs, mz_Kd_m sc sa d _ _ _ _ _ _ _ (fun r2 M2 h2 => by rw [h2.1, h2.2]; exact k) hx⟩
theorem z_cs1v {i y c r : Nat} {a1 : Value} {M1 : mz_M} (he : mz_lk Y.2.2.2.2.2.2 pc = some (.invokestatic i, ln, [0, y, 1, c, r])) (hp : pc + 3 = q) (hs : Nat.ble (mz_sum st) 8 = true) (hx : zx sc sa d y [a1] M z z none M1) (k : zw sc sa d Y B Q q L (st) M1 z) : zw sc sa d Y B Q pc L (a1 :: st) M z := by
  subst hp
  exact zg he ⟨by simp, by simpa using hs, mz_Kd_m sc sa d _ _ _ _ _ _ _ (fun r2 M2 h2 => by rw [h2.1, h2.2]; exact k) hx⟩
theorem z_cv1a {i y c r b nn : Nat} {a1 : Value} {x : Value} {M1 : mz_M} (he : mz_lk Y.2.2.2.2.2.2 pc = some (.invokevirtual i, ln, [0, y, 2, c, r])) (hp : pc + 3 = q) (hs : Nat.ble (mz_sum st) 8 = true) (hk : M.2.2.2 b = (10 + c, nn)) (hx : zx sc sa d y [.ref b, a1] M z z (some x) M1) (k : zw sc sa d Y B Q q L (x :: st) M1 z) : zw sc sa d Y B Q pc L (a1 :: .ref b :: st) M z := by
  subst hp
  exact zg he ⟨by show mz_kd M b = 10 + c; unfold mz_kd; rw [hk], by simp, by simpa using hs, mz_Kd_m sc sa d _ _ _ _ _ _ _ (fun r2 M2 h2 => by rw [h2.1, h2.2]; exact k) hx⟩
theorem z_cs1a {i y c r : Nat} {a1 : Value} {x : Value} {M1 : mz_M} (he : mz_lk Y.2.2.2.2.2.2 pc = some (.invokestatic i, ln, [0, y, 1, c, r])) (hp : pc + 3 = q) (hs : Nat.ble (mz_sum st) 8 = true) (hx : zx sc sa d y [a1] M z z (some x) M1) (k : zw sc sa d Y B Q q L (x :: st) M1 z) : zw sc sa d Y B Q pc L (a1 :: st) M z := by
  subst hp
  exact zg he ⟨by simp, by simpa using hs, mz_Kd_m sc sa d _ _ _ _ _ _ _ (fun r2 M2 h2 => by rw [h2.1, h2.2]; exact k) hx⟩
theorem z_cv2i {i y c r b nn : Nat} {a1 a2 : Value} {x : Int32} {M1 : mz_M} (he : mz_lk Y.2.2.2.2.2.2 pc = some (.invokevirtual i, ln, [0, y, 3, c, r])) (hp : pc + 3 = q) (hs : Nat.ble (mz_sum st) 8 = true) (hk : M.2.2.2 b = (10 + c, nn)) (hx : zx sc sa d y [.ref b, a1, a2] M z z (some (.int x)) M1) (k : zw sc sa d Y B Q q L (.int x :: st) M1 z) : zw sc sa d Y B Q pc L (a2 :: a1 :: .ref b :: st) M z := by
  subst hp
  exact zg he ⟨by show mz_kd M b = 10 + c; unfold mz_kd; rw [hk], by simp, by simpa using hs, mz_Kd_m sc sa d _ _ _ _ _ _ _ (fun r2 M2 h2 => by rw [h2.1, h2.2]; exact k) hx⟩
theorem z_cs2i {i y c r : Nat} {a1 a2 : Value} {x : Int32} {M1 : mz_M} (he : mz_lk Y.2.2.2.2.2.2 pc = some (.invokestatic i, ln, [0, y, 2, c, r])) (hp : pc + 3 = q) (hs : Nat.ble (mz_sum st) 8 = true) (hx : zx sc sa d y [a1, a2] M z z (some (.int x)) M1) (k : zw sc sa d Y B Q q L (.int x :: st) M1 z) : zw sc sa d Y B Q pc L (a2 :: a1 :: st) M z := by
  subst hp
  exact zg he ⟨by simp, by simpa using hs, mz_Kd_m sc sa d _ _ _ _ _ _ _ (fun r2 M2 h2 => by rw [h2.1, h2.2]; exact k) hx⟩
theorem z_cv2l {i y c r b nn : Nat} {a1 a2 : Value} {x : Int64} {M1 : mz_M} (he : mz_lk Y.2.2.2.2.2.2 pc = some (.invokevirtual i, ln, [0, y, 3, c, r])) (hp : pc + 3 = q) (hs : Nat.ble (mz_sum st) 8 = true) (hk : M.2.2.2 b = (10 + c, nn)) (hx : zx sc sa d y [.ref b, a1, a2] M z z (some (.long x)) M1) (k : zw sc sa d Y B Q q L (.long x :: st) M1 z) : zw sc sa d Y B Q pc L (a2 :: a1 :: .ref b :: st) M z := by
  subst hp
  exact zg he ⟨by show mz_kd M b = 10 + c; unfold mz_kd; rw [hk], by simp, by simpa using hs, mz_Kd_m sc sa d _ _ _ _ _ _ _ (fun r2 M2 h2 => by rw [h2.1, h2.2]; exact k) hx⟩
theorem z_cs2l {i y c r : Nat} {a1 a2 : Value} {x : Int64} {M1 : mz_M} (he : mz_lk Y.2.2.2.2.2.2 pc = some (.invokestatic i, ln, [0, y, 2, c, r])) (hp : pc + 3 = q) (hs : Nat.ble (mz_sum st) 8 = true) (hx : zx sc sa d y [a1, a2] M z z (some (.long x)) M1) (k : zw sc sa d Y B Q q L (.long x :: st) M1 z) : zw sc sa d Y B Q pc L (a2 :: a1 :: st) M z := by
  subst hp
  exact zg he ⟨by simp, by simpa using hs, mz_Kd_m sc sa d _ _ _ _ _ _ _ (fun r2 M2 h2 => by rw [h2.1, h2.2]; exact k) hx⟩
theorem z_cv2v {i y c r b nn : Nat} {a1 a2 : Value} {M1 : mz_M} (he : mz_lk Y.2.2.2.2.2.2 pc = some (.invokevirtual i, ln, [0, y, 3, c, r])) (hp : pc + 3 = q) (hs : Nat.ble (mz_sum st) 8 = true) (hk : M.2.2.2 b = (10 + c, nn)) (hx : zx sc sa d y [.ref b, a1, a2] M z z none M1) (k : zw sc sa d Y B Q q L (st) M1 z) : zw sc sa d Y B Q pc L (a2 :: a1 :: .ref b :: st) M z := by
  subst hp
  exact zg he ⟨by show mz_kd M b = 10 + c; unfold mz_kd; rw [hk], by simp, by simpa using hs, mz_Kd_m sc sa d _ _ _ _ _ _ _ (fun r2 M2 h2 => by rw [h2.1, h2.2]; exact k) hx⟩
theorem z_cs2v {i y c r : Nat} {a1 a2 : Value} {M1 : mz_M} (he : mz_lk Y.2.2.2.2.2.2 pc = some (.invokestatic i, ln, [0, y, 2, c, r])) (hp : pc + 3 = q) (hs : Nat.ble (mz_sum st) 8 = true) (hx : zx sc sa d y [a1, a2] M z z none M1) (k : zw sc sa d Y B Q q L (st) M1 z) : zw sc sa d Y B Q pc L (a2 :: a1 :: st) M z := by
  subst hp
  exact zg he ⟨by simp, by simpa using hs, mz_Kd_m sc sa d _ _ _ _ _ _ _ (fun r2 M2 h2 => by rw [h2.1, h2.2]; exact k) hx⟩
theorem z_cv2a {i y c r b nn : Nat} {a1 a2 : Value} {x : Value} {M1 : mz_M} (he : mz_lk Y.2.2.2.2.2.2 pc = some (.invokevirtual i, ln, [0, y, 3, c, r])) (hp : pc + 3 = q) (hs : Nat.ble (mz_sum st) 8 = true) (hk : M.2.2.2 b = (10 + c, nn)) (hx : zx sc sa d y [.ref b, a1, a2] M z z (some x) M1) (k : zw sc sa d Y B Q q L (x :: st) M1 z) : zw sc sa d Y B Q pc L (a2 :: a1 :: .ref b :: st) M z := by
  subst hp
  exact zg he ⟨by show mz_kd M b = 10 + c; unfold mz_kd; rw [hk], by simp, by simpa using hs, mz_Kd_m sc sa d _ _ _ _ _ _ _ (fun r2 M2 h2 => by rw [h2.1, h2.2]; exact k) hx⟩
theorem z_cs2a {i y c r : Nat} {a1 a2 : Value} {x : Value} {M1 : mz_M} (he : mz_lk Y.2.2.2.2.2.2 pc = some (.invokestatic i, ln, [0, y, 2, c, r])) (hp : pc + 3 = q) (hs : Nat.ble (mz_sum st) 8 = true) (hx : zx sc sa d y [a1, a2] M z z (some x) M1) (k : zw sc sa d Y B Q q L (x :: st) M1 z) : zw sc sa d Y B Q pc L (a2 :: a1 :: st) M z := by
  subst hp
  exact zg he ⟨by simp, by simpa using hs, mz_Kd_m sc sa d _ _ _ _ _ _ _ (fun r2 M2 h2 => by rw [h2.1, h2.2]; exact k) hx⟩
theorem z_cv3i {i y c r b nn : Nat} {a1 a2 a3 : Value} {x : Int32} {M1 : mz_M} (he : mz_lk Y.2.2.2.2.2.2 pc = some (.invokevirtual i, ln, [0, y, 4, c, r])) (hp : pc + 3 = q) (hs : Nat.ble (mz_sum st) 8 = true) (hk : M.2.2.2 b = (10 + c, nn)) (hx : zx sc sa d y [.ref b, a1, a2, a3] M z z (some (.int x)) M1) (k : zw sc sa d Y B Q q L (.int x :: st) M1 z) : zw sc sa d Y B Q pc L (a3 :: a2 :: a1 :: .ref b :: st) M z := by
  subst hp
  exact zg he ⟨by show mz_kd M b = 10 + c; unfold mz_kd; rw [hk], by simp, by simpa using hs, mz_Kd_m sc sa d _ _ _ _ _ _ _ (fun r2 M2 h2 => by rw [h2.1, h2.2]; exact k) hx⟩
theorem z_cs3i {i y c r : Nat} {a1 a2 a3 : Value} {x : Int32} {M1 : mz_M} (he : mz_lk Y.2.2.2.2.2.2 pc = some (.invokestatic i, ln, [0, y, 3, c, r])) (hp : pc + 3 = q) (hs : Nat.ble (mz_sum st) 8 = true) (hx : zx sc sa d y [a1, a2, a3] M z z (some (.int x)) M1) (k : zw sc sa d Y B Q q L (.int x :: st) M1 z) : zw sc sa d Y B Q pc L (a3 :: a2 :: a1 :: st) M z := by
  subst hp
  exact zg he ⟨by simp, by simpa using hs, mz_Kd_m sc sa d _ _ _ _ _ _ _ (fun r2 M2 h2 => by rw [h2.1, h2.2]; exact k) hx⟩
theorem z_cv3l {i y c r b nn : Nat} {a1 a2 a3 : Value} {x : Int64} {M1 : mz_M} (he : mz_lk Y.2.2.2.2.2.2 pc = some (.invokevirtual i, ln, [0, y, 4, c, r])) (hp : pc + 3 = q) (hs : Nat.ble (mz_sum st) 8 = true) (hk : M.2.2.2 b = (10 + c, nn)) (hx : zx sc sa d y [.ref b, a1, a2, a3] M z z (some (.long x)) M1) (k : zw sc sa d Y B Q q L (.long x :: st) M1 z) : zw sc sa d Y B Q pc L (a3 :: a2 :: a1 :: .ref b :: st) M z := by
  subst hp
  exact zg he ⟨by show mz_kd M b = 10 + c; unfold mz_kd; rw [hk], by simp, by simpa using hs, mz_Kd_m sc sa d _ _ _ _ _ _ _ (fun r2 M2 h2 => by rw [h2.1, h2.2]; exact k) hx⟩
theorem z_cs3l {i y c r : Nat} {a1 a2 a3 : Value} {x : Int64} {M1 : mz_M} (he : mz_lk Y.2.2.2.2.2.2 pc = some (.invokestatic i, ln, [0, y, 3, c, r])) (hp : pc + 3 = q) (hs : Nat.ble (mz_sum st) 8 = true) (hx : zx sc sa d y [a1, a2, a3] M z z (some (.long x)) M1) (k : zw sc sa d Y B Q q L (.long x :: st) M1 z) : zw sc sa d Y B Q pc L (a3 :: a2 :: a1 :: st) M z := by
  subst hp
  exact zg he ⟨by simp, by simpa using hs, mz_Kd_m sc sa d _ _ _ _ _ _ _ (fun r2 M2 h2 => by rw [h2.1, h2.2]; exact k) hx⟩
theorem z_cv3v {i y c r b nn : Nat} {a1 a2 a3 : Value} {M1 : mz_M} (he : mz_lk Y.2.2.2.2.2.2 pc = some (.invokevirtual i, ln, [0, y, 4, c, r])) (hp : pc + 3 = q) (hs : Nat.ble (mz_sum st) 8 = true) (hk : M.2.2.2 b = (10 + c, nn)) (hx : zx sc sa d y [.ref b, a1, a2, a3] M z z none M1) (k : zw sc sa d Y B Q q L (st) M1 z) : zw sc sa d Y B Q pc L (a3 :: a2 :: a1 :: .ref b :: st) M z := by
  subst hp
  exact zg he ⟨by show mz_kd M b = 10 + c; unfold mz_kd; rw [hk], by simp, by simpa using hs, mz_Kd_m sc sa d _ _ _ _ _ _ _ (fun r2 M2 h2 => by rw [h2.1, h2.2]; exact k) hx⟩
theorem z_cs3v {i y c r : Nat} {a1 a2 a3 : Value} {M1 : mz_M} (he : mz_lk Y.2.2.2.2.2.2 pc = some (.invokestatic i, ln, [0, y, 3, c, r])) (hp : pc + 3 = q) (hs : Nat.ble (mz_sum st) 8 = true) (hx : zx sc sa d y [a1, a2, a3] M z z none M1) (k : zw sc sa d Y B Q q L (st) M1 z) : zw sc sa d Y B Q pc L (a3 :: a2 :: a1 :: st) M z := by
  subst hp
  exact zg he ⟨by simp, by simpa using hs, mz_Kd_m sc sa d _ _ _ _ _ _ _ (fun r2 M2 h2 => by rw [h2.1, h2.2]; exact k) hx⟩
theorem z_cv3a {i y c r b nn : Nat} {a1 a2 a3 : Value} {x : Value} {M1 : mz_M} (he : mz_lk Y.2.2.2.2.2.2 pc = some (.invokevirtual i, ln, [0, y, 4, c, r])) (hp : pc + 3 = q) (hs : Nat.ble (mz_sum st) 8 = true) (hk : M.2.2.2 b = (10 + c, nn)) (hx : zx sc sa d y [.ref b, a1, a2, a3] M z z (some x) M1) (k : zw sc sa d Y B Q q L (x :: st) M1 z) : zw sc sa d Y B Q pc L (a3 :: a2 :: a1 :: .ref b :: st) M z := by
  subst hp
  exact zg he ⟨by show mz_kd M b = 10 + c; unfold mz_kd; rw [hk], by simp, by simpa using hs, mz_Kd_m sc sa d _ _ _ _ _ _ _ (fun r2 M2 h2 => by rw [h2.1, h2.2]; exact k) hx⟩
theorem z_cs3a {i y c r : Nat} {a1 a2 a3 : Value} {x : Value} {M1 : mz_M} (he : mz_lk Y.2.2.2.2.2.2 pc = some (.invokestatic i, ln, [0, y, 3, c, r])) (hp : pc + 3 = q) (hs : Nat.ble (mz_sum st) 8 = true) (hx : zx sc sa d y [a1, a2, a3] M z z (some x) M1) (k : zw sc sa d Y B Q q L (x :: st) M1 z) : zw sc sa d Y B Q pc L (a3 :: a2 :: a1 :: st) M z := by
  subst hp
  exact zg he ⟨by simp, by simpa using hs, mz_Kd_m sc sa d _ _ _ _ _ _ _ (fun r2 M2 h2 => by rw [h2.1, h2.2]; exact k) hx⟩
theorem z_cv4i {i y c r b nn : Nat} {a1 a2 a3 a4 : Value} {x : Int32} {M1 : mz_M} (he : mz_lk Y.2.2.2.2.2.2 pc = some (.invokevirtual i, ln, [0, y, 5, c, r])) (hp : pc + 3 = q) (hs : Nat.ble (mz_sum st) 8 = true) (hk : M.2.2.2 b = (10 + c, nn)) (hx : zx sc sa d y [.ref b, a1, a2, a3, a4] M z z (some (.int x)) M1) (k : zw sc sa d Y B Q q L (.int x :: st) M1 z) : zw sc sa d Y B Q pc L (a4 :: a3 :: a2 :: a1 :: .ref b :: st) M z := by
  subst hp
  exact zg he ⟨by show mz_kd M b = 10 + c; unfold mz_kd; rw [hk], by simp, by simpa using hs, mz_Kd_m sc sa d _ _ _ _ _ _ _ (fun r2 M2 h2 => by rw [h2.1, h2.2]; exact k) hx⟩
theorem z_cs4i {i y c r : Nat} {a1 a2 a3 a4 : Value} {x : Int32} {M1 : mz_M} (he : mz_lk Y.2.2.2.2.2.2 pc = some (.invokestatic i, ln, [0, y, 4, c, r])) (hp : pc + 3 = q) (hs : Nat.ble (mz_sum st) 8 = true) (hx : zx sc sa d y [a1, a2, a3, a4] M z z (some (.int x)) M1) (k : zw sc sa d Y B Q q L (.int x :: st) M1 z) : zw sc sa d Y B Q pc L (a4 :: a3 :: a2 :: a1 :: st) M z := by
  subst hp
  exact zg he ⟨by simp, by simpa using hs, mz_Kd_m sc sa d _ _ _ _ _ _ _ (fun r2 M2 h2 => by rw [h2.1, h2.2]; exact k) hx⟩
theorem z_cv4l {i y c r b nn : Nat} {a1 a2 a3 a4 : Value} {x : Int64} {M1 : mz_M} (he : mz_lk Y.2.2.2.2.2.2 pc = some (.invokevirtual i, ln, [0, y, 5, c, r])) (hp : pc + 3 = q) (hs : Nat.ble (mz_sum st) 8 = true) (hk : M.2.2.2 b = (10 + c, nn)) (hx : zx sc sa d y [.ref b, a1, a2, a3, a4] M z z (some (.long x)) M1) (k : zw sc sa d Y B Q q L (.long x :: st) M1 z) : zw sc sa d Y B Q pc L (a4 :: a3 :: a2 :: a1 :: .ref b :: st) M z := by
  subst hp
  exact zg he ⟨by show mz_kd M b = 10 + c; unfold mz_kd; rw [hk], by simp, by simpa using hs, mz_Kd_m sc sa d _ _ _ _ _ _ _ (fun r2 M2 h2 => by rw [h2.1, h2.2]; exact k) hx⟩
theorem z_cs4l {i y c r : Nat} {a1 a2 a3 a4 : Value} {x : Int64} {M1 : mz_M} (he : mz_lk Y.2.2.2.2.2.2 pc = some (.invokestatic i, ln, [0, y, 4, c, r])) (hp : pc + 3 = q) (hs : Nat.ble (mz_sum st) 8 = true) (hx : zx sc sa d y [a1, a2, a3, a4] M z z (some (.long x)) M1) (k : zw sc sa d Y B Q q L (.long x :: st) M1 z) : zw sc sa d Y B Q pc L (a4 :: a3 :: a2 :: a1 :: st) M z := by
  subst hp
  exact zg he ⟨by simp, by simpa using hs, mz_Kd_m sc sa d _ _ _ _ _ _ _ (fun r2 M2 h2 => by rw [h2.1, h2.2]; exact k) hx⟩
theorem z_cv4v {i y c r b nn : Nat} {a1 a2 a3 a4 : Value} {M1 : mz_M} (he : mz_lk Y.2.2.2.2.2.2 pc = some (.invokevirtual i, ln, [0, y, 5, c, r])) (hp : pc + 3 = q) (hs : Nat.ble (mz_sum st) 8 = true) (hk : M.2.2.2 b = (10 + c, nn)) (hx : zx sc sa d y [.ref b, a1, a2, a3, a4] M z z none M1) (k : zw sc sa d Y B Q q L (st) M1 z) : zw sc sa d Y B Q pc L (a4 :: a3 :: a2 :: a1 :: .ref b :: st) M z := by
  subst hp
  exact zg he ⟨by show mz_kd M b = 10 + c; unfold mz_kd; rw [hk], by simp, by simpa using hs, mz_Kd_m sc sa d _ _ _ _ _ _ _ (fun r2 M2 h2 => by rw [h2.1, h2.2]; exact k) hx⟩
theorem z_cs4v {i y c r : Nat} {a1 a2 a3 a4 : Value} {M1 : mz_M} (he : mz_lk Y.2.2.2.2.2.2 pc = some (.invokestatic i, ln, [0, y, 4, c, r])) (hp : pc + 3 = q) (hs : Nat.ble (mz_sum st) 8 = true) (hx : zx sc sa d y [a1, a2, a3, a4] M z z none M1) (k : zw sc sa d Y B Q q L (st) M1 z) : zw sc sa d Y B Q pc L (a4 :: a3 :: a2 :: a1 :: st) M z := by
  subst hp
  exact zg he ⟨by simp, by simpa using hs, mz_Kd_m sc sa d _ _ _ _ _ _ _ (fun r2 M2 h2 => by rw [h2.1, h2.2]; exact k) hx⟩
theorem z_cv4a {i y c r b nn : Nat} {a1 a2 a3 a4 : Value} {x : Value} {M1 : mz_M} (he : mz_lk Y.2.2.2.2.2.2 pc = some (.invokevirtual i, ln, [0, y, 5, c, r])) (hp : pc + 3 = q) (hs : Nat.ble (mz_sum st) 8 = true) (hk : M.2.2.2 b = (10 + c, nn)) (hx : zx sc sa d y [.ref b, a1, a2, a3, a4] M z z (some x) M1) (k : zw sc sa d Y B Q q L (x :: st) M1 z) : zw sc sa d Y B Q pc L (a4 :: a3 :: a2 :: a1 :: .ref b :: st) M z := by
  subst hp
  exact zg he ⟨by show mz_kd M b = 10 + c; unfold mz_kd; rw [hk], by simp, by simpa using hs, mz_Kd_m sc sa d _ _ _ _ _ _ _ (fun r2 M2 h2 => by rw [h2.1, h2.2]; exact k) hx⟩
theorem z_cs4a {i y c r : Nat} {a1 a2 a3 a4 : Value} {x : Value} {M1 : mz_M} (he : mz_lk Y.2.2.2.2.2.2 pc = some (.invokestatic i, ln, [0, y, 4, c, r])) (hp : pc + 3 = q) (hs : Nat.ble (mz_sum st) 8 = true) (hx : zx sc sa d y [a1, a2, a3, a4] M z z (some x) M1) (k : zw sc sa d Y B Q q L (x :: st) M1 z) : zw sc sa d Y B Q pc L (a4 :: a3 :: a2 :: a1 :: st) M z := by
  subst hp
  exact zg he ⟨by simp, by simpa using hs, mz_Kd_m sc sa d _ _ _ _ _ _ _ (fun r2 M2 h2 => by rw [h2.1, h2.2]; exact k) hx⟩
theorem z_cv5i {i y c r b nn : Nat} {a1 a2 a3 a4 a5 : Value} {x : Int32} {M1 : mz_M} (he : mz_lk Y.2.2.2.2.2.2 pc = some (.invokevirtual i, ln, [0, y, 6, c, r])) (hp : pc + 3 = q) (hs : Nat.ble (mz_sum st) 8 = true) (hk : M.2.2.2 b = (10 + c, nn)) (hx : zx sc sa d y [.ref b, a1, a2, a3, a4, a5] M z z (some (.int x)) M1) (k : zw sc sa d Y B Q q L (.int x :: st) M1 z) : zw sc sa d Y B Q pc L (a5 :: a4 :: a3 :: a2 :: a1 :: .ref b :: st) M z := by
  subst hp
  exact zg he ⟨by show mz_kd M b = 10 + c; unfold mz_kd; rw [hk], by simp, by simpa using hs, mz_Kd_m sc sa d _ _ _ _ _ _ _ (fun r2 M2 h2 => by rw [h2.1, h2.2]; exact k) hx⟩
theorem z_cs5i {i y c r : Nat} {a1 a2 a3 a4 a5 : Value} {x : Int32} {M1 : mz_M} (he : mz_lk Y.2.2.2.2.2.2 pc = some (.invokestatic i, ln, [0, y, 5, c, r])) (hp : pc + 3 = q) (hs : Nat.ble (mz_sum st) 8 = true) (hx : zx sc sa d y [a1, a2, a3, a4, a5] M z z (some (.int x)) M1) (k : zw sc sa d Y B Q q L (.int x :: st) M1 z) : zw sc sa d Y B Q pc L (a5 :: a4 :: a3 :: a2 :: a1 :: st) M z := by
  subst hp
  exact zg he ⟨by simp, by simpa using hs, mz_Kd_m sc sa d _ _ _ _ _ _ _ (fun r2 M2 h2 => by rw [h2.1, h2.2]; exact k) hx⟩
theorem z_cv5l {i y c r b nn : Nat} {a1 a2 a3 a4 a5 : Value} {x : Int64} {M1 : mz_M} (he : mz_lk Y.2.2.2.2.2.2 pc = some (.invokevirtual i, ln, [0, y, 6, c, r])) (hp : pc + 3 = q) (hs : Nat.ble (mz_sum st) 8 = true) (hk : M.2.2.2 b = (10 + c, nn)) (hx : zx sc sa d y [.ref b, a1, a2, a3, a4, a5] M z z (some (.long x)) M1) (k : zw sc sa d Y B Q q L (.long x :: st) M1 z) : zw sc sa d Y B Q pc L (a5 :: a4 :: a3 :: a2 :: a1 :: .ref b :: st) M z := by
  subst hp
  exact zg he ⟨by show mz_kd M b = 10 + c; unfold mz_kd; rw [hk], by simp, by simpa using hs, mz_Kd_m sc sa d _ _ _ _ _ _ _ (fun r2 M2 h2 => by rw [h2.1, h2.2]; exact k) hx⟩
theorem z_cs5l {i y c r : Nat} {a1 a2 a3 a4 a5 : Value} {x : Int64} {M1 : mz_M} (he : mz_lk Y.2.2.2.2.2.2 pc = some (.invokestatic i, ln, [0, y, 5, c, r])) (hp : pc + 3 = q) (hs : Nat.ble (mz_sum st) 8 = true) (hx : zx sc sa d y [a1, a2, a3, a4, a5] M z z (some (.long x)) M1) (k : zw sc sa d Y B Q q L (.long x :: st) M1 z) : zw sc sa d Y B Q pc L (a5 :: a4 :: a3 :: a2 :: a1 :: st) M z := by
  subst hp
  exact zg he ⟨by simp, by simpa using hs, mz_Kd_m sc sa d _ _ _ _ _ _ _ (fun r2 M2 h2 => by rw [h2.1, h2.2]; exact k) hx⟩
theorem z_cv5v {i y c r b nn : Nat} {a1 a2 a3 a4 a5 : Value} {M1 : mz_M} (he : mz_lk Y.2.2.2.2.2.2 pc = some (.invokevirtual i, ln, [0, y, 6, c, r])) (hp : pc + 3 = q) (hs : Nat.ble (mz_sum st) 8 = true) (hk : M.2.2.2 b = (10 + c, nn)) (hx : zx sc sa d y [.ref b, a1, a2, a3, a4, a5] M z z none M1) (k : zw sc sa d Y B Q q L (st) M1 z) : zw sc sa d Y B Q pc L (a5 :: a4 :: a3 :: a2 :: a1 :: .ref b :: st) M z := by
  subst hp
  exact zg he ⟨by show mz_kd M b = 10 + c; unfold mz_kd; rw [hk], by simp, by simpa using hs, mz_Kd_m sc sa d _ _ _ _ _ _ _ (fun r2 M2 h2 => by rw [h2.1, h2.2]; exact k) hx⟩
theorem z_cs5v {i y c r : Nat} {a1 a2 a3 a4 a5 : Value} {M1 : mz_M} (he : mz_lk Y.2.2.2.2.2.2 pc = some (.invokestatic i, ln, [0, y, 5, c, r])) (hp : pc + 3 = q) (hs : Nat.ble (mz_sum st) 8 = true) (hx : zx sc sa d y [a1, a2, a3, a4, a5] M z z none M1) (k : zw sc sa d Y B Q q L (st) M1 z) : zw sc sa d Y B Q pc L (a5 :: a4 :: a3 :: a2 :: a1 :: st) M z := by
  subst hp
  exact zg he ⟨by simp, by simpa using hs, mz_Kd_m sc sa d _ _ _ _ _ _ _ (fun r2 M2 h2 => by rw [h2.1, h2.2]; exact k) hx⟩
theorem z_cv5a {i y c r b nn : Nat} {a1 a2 a3 a4 a5 : Value} {x : Value} {M1 : mz_M} (he : mz_lk Y.2.2.2.2.2.2 pc = some (.invokevirtual i, ln, [0, y, 6, c, r])) (hp : pc + 3 = q) (hs : Nat.ble (mz_sum st) 8 = true) (hk : M.2.2.2 b = (10 + c, nn)) (hx : zx sc sa d y [.ref b, a1, a2, a3, a4, a5] M z z (some x) M1) (k : zw sc sa d Y B Q q L (x :: st) M1 z) : zw sc sa d Y B Q pc L (a5 :: a4 :: a3 :: a2 :: a1 :: .ref b :: st) M z := by
  subst hp
  exact zg he ⟨by show mz_kd M b = 10 + c; unfold mz_kd; rw [hk], by simp, by simpa using hs, mz_Kd_m sc sa d _ _ _ _ _ _ _ (fun r2 M2 h2 => by rw [h2.1, h2.2]; exact k) hx⟩
theorem z_cs5a {i y c r : Nat} {a1 a2 a3 a4 a5 : Value} {x : Value} {M1 : mz_M} (he : mz_lk Y.2.2.2.2.2.2 pc = some (.invokestatic i, ln, [0, y, 5, c, r])) (hp : pc + 3 = q) (hs : Nat.ble (mz_sum st) 8 = true) (hx : zx sc sa d y [a1, a2, a3, a4, a5] M z z (some x) M1) (k : zw sc sa d Y B Q q L (x :: st) M1 z) : zw sc sa d Y B Q pc L (a5 :: a4 :: a3 :: a2 :: a1 :: st) M z := by
  subst hp
  exact zg he ⟨by simp, by simpa using hs, mz_Kd_m sc sa d _ _ _ _ _ _ _ (fun r2 M2 h2 => by rw [h2.1, h2.2]; exact k) hx⟩
theorem z_max {i c r y2 n2 : Nat} {x y : Int32} (he : mz_lk Y.2.2.2.2.2.2 pc = some (.invokestatic i, ln, [3, y2, n2, c, r])) (hp : pc + 3 = q) (h1 : 1 ≤ d) (hs : Nat.ble (mz_sum st) 8 = true) (k : zw sc sa d Y B Q q L (.int (if x < y then y else x) :: st) M z) : zw sc sa d Y B Q pc L (.int y :: .int x :: st) M z := by
  subst hp
  exact zg he ⟨h1, by simpa using hs, k⟩
theorem z_min {i c r y2 n2 : Nat} {x y : Int32} (he : mz_lk Y.2.2.2.2.2.2 pc = some (.invokestatic i, ln, [4, y2, n2, c, r])) (hp : pc + 3 = q) (h1 : 1 ≤ d) (hs : Nat.ble (mz_sum st) 8 = true) (k : zw sc sa d Y B Q q L (.int (if y < x then y else x) :: st) M z) : zw sc sa d Y B Q pc L (.int y :: .int x :: st) M z := by
  subst hp
  exact zg he ⟨h1, by simpa using hs, k⟩
theorem z_cpi {i c r n2 a b na nb : Nat} {x1 x2 x3 : Int32} (he : mz_lk Y.2.2.2.2.2.2 pc = some (.invokestatic i, ln, [2, 0, n2, c, r])) (hp : pc + 3 = q) (h1 : 1 ≤ d) (hs : Nat.ble (mz_sum st) 8 = true) (ha : M.2.2.2 a = (1, na)) (hb : M.2.2.2 b = (1, nb)) (h2 : ¬ x1 < 0 ∧ ¬ x2 < 0 ∧ ¬ x3 < 0 ∧ x1.toNatClampNeg + x3.toNatClampNeg ≤ na ∧ x2.toNatClampNeg + x3.toNatClampNeg ≤ nb) (k : zw sc sa d Y B Q q L st (mz_cI M b (va_cpy (M.1 a) (M.1 b) x1.toNatClampNeg x2.toNatClampNeg x3.toNatClampNeg)) z) : zw sc sa d Y B Q pc L (.int x3 :: .int x2 :: .ref b :: .int x1 :: .ref a :: st) M z := by
  subst hp
  exact zg he ⟨h1, by simpa using hs, by unfold mz_cop mz_ln; rw [ha, hb]; exact h2, by unfold mz_kd; rw [ha], by unfold mz_kd; rw [hb], k⟩
theorem z_cpl {i c r n2 a b na nb : Nat} {x1 x2 x3 : Int32} (he : mz_lk Y.2.2.2.2.2.2 pc = some (.invokestatic i, ln, [2, 1, n2, c, r])) (hp : pc + 3 = q) (h1 : 1 ≤ d) (hs : Nat.ble (mz_sum st) 8 = true) (ha : M.2.2.2 a = (4, na)) (hb : M.2.2.2 b = (4, nb)) (h2 : ¬ x1 < 0 ∧ ¬ x2 < 0 ∧ ¬ x3 < 0 ∧ x1.toNatClampNeg + x3.toNatClampNeg ≤ na ∧ x2.toNatClampNeg + x3.toNatClampNeg ≤ nb) (k : zw sc sa d Y B Q q L st (mz_cJ M b (va_cpy (M.2.1 a) (M.2.1 b) x1.toNatClampNeg x2.toNatClampNeg x3.toNatClampNeg)) z) : zw sc sa d Y B Q pc L (.int x3 :: .int x2 :: .ref b :: .int x1 :: .ref a :: st) M z := by
  subst hp
  exact zg he ⟨h1, by simpa using hs, by unfold mz_cop mz_ln; rw [ha, hb]; exact h2, by unfold mz_kd; rw [ha], by unfold mz_kd; rw [hb], k⟩
theorem z_ireti {v : Int32} (he : mz_lk Y.2.2.2.2.2.2 pc = some (.ireturn, ln, tg)) (hr : Y.2.2.2.1 = some .int) (h : Q (some (.int v)) M) : zw sc sa d Y z Q pc L [.int v] M z := zg he ⟨rfl, rfl, ⟨_, hr, rfl⟩, h⟩
theorem z_iretz {v : Int32} (he : mz_lk Y.2.2.2.2.2.2 pc = some (.ireturn, ln, tg)) (hr : Y.2.2.2.1 = some .boolean) (hn : narrow .boolean (.int v) = .int v) (h : Q (some (.int v)) M) : zw sc sa d Y z Q pc L [.int v] M z := zg he ⟨rfl, rfl, ⟨_, hr, hn⟩, h⟩
theorem z_lret {v : Int64} (he : mz_lk Y.2.2.2.2.2.2 pc = some (.lreturn, ln, tg)) (hr : Y.2.2.2.1 = some .long) (h : Q (some (.long v)) M) : zw sc sa d Y z Q pc L [.long v] M z := zg he ⟨rfl, rfl, hr, h⟩
theorem z_ret (he : mz_lk Y.2.2.2.2.2.2 pc = some (.return_, ln, tg)) (hr : Y.2.2.2.1 = none) (h : Q none M) : zw sc sa d Y z Q pc L [] M z := zg he ⟨rfl, rfl, hr, h⟩
theorem z_aret {v : Value} {n : String} (he : mz_lk Y.2.2.2.2.2.2 pc = some (.areturn, ln, tg)) (hr : Y.2.2.2.1 = some (.object n)) (hv : v = .null ∨ ∃ a, v = .ref a) (h : Q (some v) M) : zw sc sa d Y z Q pc L [v] M z := zg he ⟨rfl, rfl, ⟨n, hr⟩, hv, h⟩
end
