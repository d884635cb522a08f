abbrev mz_P : Type := Option Value → mz_M → Prop
abbrev mz_K : Type := Nat → List Value → mz_M → Nat × Nat → Nat × Nat → mz_P → Prop
abbrev mz_C : Type := Nat → List Value → List Value → mz_M → Nat × Nat → Prop
def mz_sum (st : List Value) : Nat := (st.map fun v => v.category).sum
def mz_t2 (tg : List Nat) (f : Nat → Nat → Prop) : Prop := match tg with
  | [a, b] => f a b
  | _ => False
def mz_t5 (tg : List Nat) (f : Nat → Nat → Nat → Nat → Nat → Prop) : Prop := match tg with
  | [a, b, c, d, e] => f a b c d e
  | _ => False
-- the callee's answer, and how it goes on
def mz_cal (K : mz_K) (y n : Nat) (st : List Value) (M : mz_M) (z : Nat × Nat) (k : List Value → mz_M → Prop) : Prop :=
  n ≤ st.length ∧ mz_sum (st.drop n) ≤ 8 ∧ K y (st.take n).reverse M z z (fun r M' => k (r.toList ++ st.drop n) M')
def mz_caa (K : mz_K) (y n : Nat) (st : List Value) (M : mz_M) (z B : Nat × Nat) (k : List Value → mz_M → Nat × Nat → Prop) : Prop :=
  n ≤ st.length ∧ mz_sum (st.drop n) ≤ 8 ∧ ∃ z' : Nat × Nat, z.1 ≤ z'.1 ∧ z.2 ≤ z'.2 ∧ z'.1 ≤ B.1 ∧ z'.2 ≤ B.2 ∧ K y (st.take n).reverse M z z' (fun r M' => k (r.toList ++ st.drop n) M' z')
def mz_kd (M : mz_M) (a : Nat) : Nat := (M.2.2.2 a).1
def mz_ln (M : mz_M) (a : Nat) : Nat := (M.2.2.2 a).2
def mz_aty (t : ArrayType) : Nat := match t with
  | .int => 1
  | .byte => 2
  | .boolean => 3
  | .long => 4
  | _ => 0
def mz_cop (M : mz_M) (a b : Nat) (sp dp n : Int32) : Prop :=
  ¬ sp < 0 ∧ ¬ dp < 0 ∧ ¬ n < 0 ∧ sp.toNatClampNeg + n.toNatClampNeg ≤ mz_ln M a ∧ dp.toNatClampNeg + n.toNatClampNeg ≤ mz_ln M b
def mz_sw (x : Int32) (lo hi : Int) (tg : List Nat) (k : Nat → Prop) : Prop :=
  ((x.toInt < lo ∨ hi < x.toInt) → mz_gN tg[0]? k) ∧ (¬ x.toInt < lo → ¬ hi < x.toInt → mz_gN tg[(x.toInt - lo).toNat + 1]? k)
where
  mz_gN (o : Option Nat) (f : Nat → Prop) : Prop := match o with
    | some x => f x
    | _ => False
def mz_gA (o : Option Value) (f : Value → Prop) : Prop := match o with
  | some (.ref x) => f (.ref x)
  | some .null => f .null
  | _ => False
def mz_pA (st : List Value) (f : Value → List Value → Prop) : Prop := match st with
  | .ref x :: r => f (.ref x) r
  | .null :: r => f .null r
  | _ => False
def mz_stp (sc : Option (Nat × Nat × (Nat → Int32))) (sa : Nat → Nat) (K : mz_K) (dd : Nat) (Y : mz_Y) (B : Nat × Nat) (Q : mz_P) (k : mz_C) (i : Instr) (tg : List Nat) (pc : Nat) (L st : List Value) (M : mz_M) (z : Nat × Nat) : Prop :=
  match i with
  | .iconst n => k (pc + 1) L (.int (Int32.ofInt n) :: st) M z
  | .bipush n => k (pc + 2) L (.int (Int8.ofInt n).toInt32 :: st) M z
  | .sipush n => k (pc + 3) L (.int (Int16.ofInt n).toInt32 :: st) M z
  | .lconst n => k (pc + 1) L (.long (Int64.ofNat (n : Nat)) :: st) M z
  | .aconst_null => k (pc + 1) L (.null :: st) M z
  | .iload j => mz_gI L[j]? fun x => k (pc + 2) L (.int x :: st) M z
  | .iload_n j => mz_gI L[(j : Nat)]? fun x => k (pc + 1) L (.int x :: st) M z
  | .lload j => mz_gJ L[j]? fun x => k (pc + 2) L (.long x :: st) M z
  | .lload_n j => mz_gJ L[(j : Nat)]? fun x => k (pc + 1) L (.long x :: st) M z
  | .aload j => mz_gA L[j]? fun x => k (pc + 2) L (x :: st) M z
  | .aload_n j => mz_gA L[(j : Nat)]? fun x => k (pc + 1) L (x :: st) M z
  | .istore j => mz_pI st fun x r => j < L.length ∧ k (pc + 2) (mz_st1 L j (.int x)) r M z
  | .istore_n j => mz_pI st fun x r => (j : Nat) < L.length ∧ k (pc + 1) (mz_st1 L j (.int x)) r M z
  | .lstore j => mz_pJ st fun x r => j + 1 < L.length ∧ k (pc + 2) (mz_st2 L j (.long x)) r M z
  | .lstore_n j => mz_pJ st fun x r => (j : Nat) + 1 < L.length ∧ k (pc + 1) (mz_st2 L j (.long x)) r M z
  | .astore j => mz_pA st fun x r => j < L.length ∧ k (pc + 2) (mz_st1 L j x) r M z
  | .astore_n j => mz_pA st fun x r => (j : Nat) < L.length ∧ k (pc + 1) (mz_st1 L j x) r M z
  | .iinc j n => mz_gI L[j]? fun x => k (pc + 3) (mz_st1 L j (.int (x + Int32.ofInt n))) st M z
  | .iadd => mz_pI st fun y r => mz_pI r fun x r => k (pc + 1) L (.int (x + y) :: r) M z
  | .isub => mz_pI st fun y r => mz_pI r fun x r => k (pc + 1) L (.int (x - y) :: r) M z
  | .imul => mz_pI st fun y r => mz_pI r fun x r => k (pc + 1) L (.int (x * y) :: r) M z
  | .iand => mz_pI st fun y r => mz_pI r fun x r => k (pc + 1) L (.int (x &&& y) :: r) M z
  | .ior => mz_pI st fun y r => mz_pI r fun x r => k (pc + 1) L (.int (x ||| y) :: r) M z
  | .ixor => mz_pI st fun y r => mz_pI r fun x r => k (pc + 1) L (.int (x ^^^ y) :: r) M z
  | .idiv => mz_pI st fun y r => mz_pI r fun x r => ¬ y = 0 ∧ k (pc + 1) L (.int (x / y) :: r) M z
  | .irem => mz_pI st fun y r => mz_pI r fun x r => ¬ y = 0 ∧ k (pc + 1) L (.int (x - x / y * y) :: r) M z
  | .ishl => mz_pI st fun y r => mz_pI r fun x r => k (pc + 1) L (.int (x <<< (y &&& 31)) :: r) M z
  | .ishr => mz_pI st fun y r => mz_pI r fun x r => k (pc + 1) L (.int (x >>> (y &&& 31)) :: r) M z
  | .iushr => mz_pI st fun y r => mz_pI r fun x r => k (pc + 1) L (.int (x.toUInt32 >>> (y.toUInt32 &&& Int32.toUInt32 31)).toInt32 :: r) M z
  | .land => mz_pJ st fun y r => mz_pJ r fun x r => k (pc + 1) L (.long (x &&& y) :: r) M z
  | .lor => mz_pJ st fun y r => mz_pJ r fun x r => k (pc + 1) L (.long (x ||| y) :: r) M z
  | .lxor => mz_pJ st fun y r => mz_pJ r fun x r => k (pc + 1) L (.long (x ^^^ y) :: r) M z
  | .lshl => mz_pI st fun y r => mz_pJ r fun x r => k (pc + 1) L (.long (x <<< (y.toInt64 &&& 63)) :: r) M z
  | .lshr => mz_pI st fun y r => mz_pJ r fun x r => k (pc + 1) L (.long (x >>> (y.toInt64 &&& 63)) :: r) M z
  | .lushr => mz_pI st fun y r => mz_pJ r fun x r => k (pc + 1) L (.long (x.toUInt64 >>> (y.toInt64.toUInt64 &&& Int64.toUInt64 63)).toInt64 :: r) M z
  | .i2l => mz_pI st fun x r => k (pc + 1) L (.long x.toInt64 :: r) M z
  | .l2i => mz_pJ st fun x r => k (pc + 1) L (.int x.toInt32 :: r) M z
  | .i2b => mz_pI st fun x r => k (pc + 1) L (.int x.toInt8.toInt32 :: r) M z
  | .lcmp => mz_pJ st fun y r => mz_pJ r fun x r => k (pc + 1) L (.int (lg_cmp x y) :: r) M z
  | .dup => mz_pV st fun v r => v.category = 1 ∧ k (pc + 1) L (v :: v :: r) M z
  | .dup2 => mz_pV st fun v r => mz_pV r fun w r => v.category = 1 ∧ w.category = 1 ∧ k (pc + 1) L (v :: w :: v :: w :: r) M z
  | .pop => mz_pV st fun v r => v.category = 1 ∧ k (pc + 1) L r M z
  | .ifCond c _ => mz_t1 tg fun t => mz_pI st fun x r => mz_br c x 0 (k t L r M z) (k (pc + 3) L r M z)
  | .if_icmp c _ => mz_t1 tg fun t => mz_pI st fun y r => mz_pI r fun x r => mz_br c x y (k t L r M z) (k (pc + 3) L r M z)
  | .goto _ => mz_t1 tg fun t => k t L st M z
  | .ifnull _ => mz_t1 tg fun t => mz_pV st fun v r => (v = .null → k t L r M z) ∧ ((∃ a, v = .ref a) → k (pc + 3) L r M z) ∧ (v = .null ∨ ∃ a, v = .ref a)
  | .ifnonnull _ => mz_t1 tg fun t => mz_pV st fun v r => ((∃ a, v = .ref a) → k t L r M z) ∧ (v = .null → k (pc + 3) L r M z) ∧ (v = .null ∨ ∃ a, v = .ref a)
  | .tableswitch _ lo hi _ => mz_pI st fun x r => mz_sw x lo hi tg (fun t => k t L r M z)
  | .ldc _ => mz_t3 tg fun a _ w => k (pc + 2) L ((bif Nat.beq a 0 then Value.int (Int32.ofNat w) else Value.ref (sa w)) :: st) M z
  | .ldc_w _ => mz_t3 tg fun a _ w => k (pc + 3) L ((bif Nat.beq a 0 then Value.int (Int32.ofNat w) else Value.ref (sa w)) :: st) M z
  | .ldc2_w _ => mz_t3 tg fun _ _ w => k (pc + 3) L (.long (Int64.ofNat w) :: st) M z
  | .getfield _ => mz_t3 tg fun c j _ => mz_pR st fun a r => mz_kd M a = 10 + c ∧ k (pc + 3) L (mz_rd M c a j :: r) M z
  | .putfield _ => mz_t3 tg fun c j _ => mz_pV st fun v r => mz_pR r fun a r => mz_kd M a = 10 + c ∧ ((mz_cF c j).2.2.2 = true → Y.2.2.2.2.2.1 = true ∧ Y.2.2.2.2.1 = c) ∧
      (match v with
        | .int x => mz_iR c j = false ∧ narrow (mz_cY c j) (.int x) = .int x ∧ fits (mz_cY c j) (.int x) = true ∧ k (pc + 3) L r (mz_uI M a j x) z
        | .ref x => mz_iR c j = true ∧ k (pc + 3) L r (mz_uR M a j (some x)) z
        | _ => False)
  | .iaload => mz_pI st fun x r => mz_pR r fun a r => match tg with
    | [] => mz_kd M a = 1 ∧ vp_in x (mz_ln M a) ∧ k (pc + 1) L (.int (M.1 a x.toNatClampNeg) :: r) M z
    | _ => match sc with
      | some (b, n, f) => a = b ∧ vp_in x n ∧ k (pc + 1) L (.int (f x.toNatClampNeg) :: r) M z
      | none => False
  | .baload => mz_pI st fun x r => mz_pR r fun a r => (mz_kd M a = 2 ∨ mz_kd M a = 3) ∧ vp_in x (mz_ln M a) ∧ k (pc + 1) L (.int (M.1 a x.toNatClampNeg) :: r) M z
  | .laload => mz_pI st fun x r => mz_pR r fun a r => mz_kd M a = 4 ∧ vp_in x (mz_ln M a) ∧ k (pc + 1) L (.long (M.2.1 a x.toNatClampNeg) :: r) M z
  | .aaload => mz_pI st fun x r => mz_pR r fun a r => mz_kd M a = 5 ∧ vp_in x (mz_ln M a) ∧ k (pc + 1) L (va_rf (M.2.2.1 a x.toNatClampNeg) :: r) M z
  | .iastore => mz_pI st fun v r => mz_pI r fun x r => mz_pR r fun a r => mz_kd M a = 1 ∧ vp_in x (mz_ln M a) ∧ k (pc + 1) L r (mz_uI M a x.toNatClampNeg v) z
  | .bastore => mz_pI st fun v r => mz_pI r fun x r => mz_pR r fun a r => vp_in x (mz_ln M a) ∧ (mz_kd M a = 2 ∨ mz_kd M a = 3) ∧ k (pc + 1) L r (mz_uI M a x.toNatClampNeg (bif Nat.beq (mz_kd M a) 2 then vp_nar .byte v else vp_nar .boolean v)) z
  | .lastore => mz_pJ st fun v r => mz_pI r fun x r => mz_pR r fun a r => mz_kd M a = 4 ∧ vp_in x (mz_ln M a) ∧ k (pc + 1) L r (mz_uJ M a x.toNatClampNeg v) z
  | .aastore => mz_pR st fun v r => mz_pI r fun x r => mz_pR r fun a r => mz_kd M a = 5 ∧ mz_kd M v = 12 ∧ vp_in x (mz_ln M a) ∧ k (pc + 1) L r (mz_uR M a x.toNatClampNeg (some v)) z
  | .arraylength => mz_pR st fun a r => match tg with
    | [] => (mz_kd M a = 1 ∨ mz_kd M a = 2 ∨ mz_kd M a = 3 ∨ mz_kd M a = 4 ∨ mz_kd M a = 5) ∧ k (pc + 1) L (.int (nI (mz_ln M a)) :: r) M z
    | _ => match sc with
      | some (b, n, _) => a = b ∧ k (pc + 1) L (.int (nI n) :: r) M z
      | none => False
  | .newarray t => mz_pI st fun n r => mz_aty t ≠ 0 ∧ ¬ n < 0 ∧ n.toNatClampNeg ≤ 1000000 ∧ z.1 + 1 ≤ B.1 ∧ z.2 + n.toNatClampNeg ≤ B.2 ∧ k (pc + 2) L (.ref z.1 :: r) (mz_new M z.1 (mz_aty t) n.toNatClampNeg) (z.1 + 1, z.2 + n.toNatClampNeg)
  | .anewarray _ => mz_pI st fun n r => ¬ n < 0 ∧ n.toNatClampNeg ≤ 1000000 ∧ z.1 + 1 ≤ B.1 ∧ z.2 + n.toNatClampNeg ≤ B.2 ∧ k (pc + 3) L (.ref z.1 :: r) (mz_new M z.1 5 n.toNatClampNeg) (z.1 + 1, z.2 + n.toNatClampNeg)
  | .new _ => mz_t2 tg fun c _ => z.1 + 1 ≤ B.1 ∧ z.2 + mz_cS c ≤ B.2 ∧ k (pc + 3) L (.ref z.1 :: st) (mz_new M z.1 (10 + c) (mz_cS c)) (z.1 + 1, z.2 + mz_cS c)
  | .invokevirtual _ => mz_t5 tg fun h y n c _ => match h with
    | 0 => mz_gR st[n - 1]? (fun a => mz_kd M a = 10 + c) ∧ mz_cal K y n st M z (fun s2 M2 => k (pc + 3) L s2 M2 z)
    | 5 => mz_gR st[n - 1]? (fun a => mz_kd M a = 10 + c) ∧ mz_caa K y n st M z B (fun s2 M2 z2 => k (pc + 3) L s2 M2 z2)
    | 6 => mz_gR st[n - 1]? (fun a => ∃ i, i < 10 ∧ a = sa i) ∧ mz_cal K y n st M z (fun s2 M2 => k (pc + 3) L s2 M2 z)
    | _ => False
  | .invokestatic _ => mz_t5 tg fun h y n _ _ => match h with
    | 0 => mz_cal K y n st M z (fun s2 M2 => k (pc + 3) L s2 M2 z)
    | 2 => mz_pI st fun x3 r => mz_pI r fun x2 r => mz_pR r fun b r => mz_pI r fun x1 r => mz_pR r fun a r => 1 ≤ dd ∧ mz_sum r ≤ 8 ∧ mz_cop M a b x1 x2 x3 ∧
        (match y with
          | 0 => mz_kd M a = 1 ∧ mz_kd M b = 1 ∧ k (pc + 3) L r (mz_cI M b (va_cpy (M.1 a) (M.1 b) x1.toNatClampNeg x2.toNatClampNeg x3.toNatClampNeg)) z
          | _ => mz_kd M a = 4 ∧ mz_kd M b = 4 ∧ k (pc + 3) L r (mz_cJ M b (va_cpy (M.2.1 a) (M.2.1 b) x1.toNatClampNeg x2.toNatClampNeg x3.toNatClampNeg)) z)
    | 3 => mz_pI st fun y r => mz_pI r fun x r => 1 ≤ dd ∧ mz_sum r ≤ 8 ∧ k (pc + 3) L (.int (if x < y then y else x) :: r) M z
    | 4 => mz_pI st fun y r => mz_pI r fun x r => 1 ≤ dd ∧ mz_sum r ≤ 8 ∧ k (pc + 3) L (.int (if y < x then y else x) :: r) M z
    | _ => False
  | .invokespecial _ => mz_t5 tg fun h y n _ _ => match h with
    | 1 => mz_pR st fun _ r => 1 ≤ dd ∧ mz_sum r ≤ 8 ∧ k (pc + 3) L r M z
    | 5 => mz_gR st[n - 1]? (fun _ => True) ∧ mz_caa K y n st M z B (fun s2 M2 z2 => k (pc + 3) L s2 M2 z2)
    | 7 => mz_gR st[n - 1]? (fun _ => True) ∧ mz_caa K y n st M z B (fun s2 M2 z2 => k (pc + 3) L s2 M2 z2)
    | _ => False
  | .return_ => st = [] ∧ z = B ∧ Y.2.2.2.1 = none ∧ Q none M
  | .ireturn => mz_pI st fun v r => r = [] ∧ z = B ∧ (∃ t, Y.2.2.2.1 = some t ∧ narrow t (.int v) = .int v) ∧ Q (some (.int v)) M
  | .lreturn => mz_pJ st fun v r => r = [] ∧ z = B ∧ Y.2.2.2.1 = some .long ∧ Q (some (.long v)) M
  | .areturn => mz_pV st fun v r => r = [] ∧ z = B ∧ (∃ n, Y.2.2.2.1 = some (.object n)) ∧ (v = .null ∨ ∃ a, v = .ref a) ∧ Q (some v) M
  | _ => False
-- monotone
theorem mz_pI_m {st : List Value} {f g : Int32 → List Value → Prop} (h : ∀ x r, f x r → g x r) (a : mz_pI st f) : mz_pI st g := by
  revert a
  unfold mz_pI
  split
  · exact h _ _ 
  · exact id
theorem mz_pJ_m {st : List Value} {f g : Int64 → List Value → Prop} (h : ∀ x r, f x r → g x r) (a : mz_pJ st f) : mz_pJ st g := by
  revert a
  unfold mz_pJ
  split
  · exact h _ _ 
  · exact id
theorem mz_pR_m {st : List Value} {f g : Nat → List Value → Prop} (h : ∀ x r, f x r → g x r) (a : mz_pR st f) : mz_pR st g := by
  revert a
  unfold mz_pR
  split
  · exact h _ _ 
  · exact id
theorem mz_pV_m {st : List Value} {f g : Value → List Value → Prop} (h : ∀ x r, f x r → g x r) (a : mz_pV st f) : mz_pV st g := by
  revert a
  unfold mz_pV
  split
  · exact h _ _ 
  · exact id
theorem mz_gI_m {o : Option Value} {f g : Int32 → Prop} (h : ∀ x, f x → g x) (a : mz_gI o f) : mz_gI o g := by
  revert a
  unfold mz_gI
  split
  · exact h _ 
  · exact id
theorem mz_gJ_m {o : Option Value} {f g : Int64 → Prop} (h : ∀ x, f x → g x) (a : mz_gJ o f) : mz_gJ o g := by
  revert a
  unfold mz_gJ
  split
  · exact h _ 
  · exact id
theorem mz_gR_m {o : Option Value} {f g : Nat → Prop} (h : ∀ x, f x → g x) (a : mz_gR o f) : mz_gR o g := by
  revert a
  unfold mz_gR
  split
  · exact h _ 
  · exact id
theorem mz_gA_m {o : Option Value} {f g : Value → Prop} (h : ∀ x, f x → g x) (a : mz_gA o f) : mz_gA o g := by
  revert a
  unfold mz_gA
  split
  · exact h _
  · exact h _
  · exact id
theorem mz_pA_m {st : List Value} {f g : Value → List Value → Prop} (h : ∀ x r, f x r → g x r) (a : mz_pA st f) : mz_pA st g := by
  revert a
  unfold mz_pA
  split
  · exact h _ _
  · exact h _ _
  · exact id
theorem mz_t1_m {tg : List Nat} {f g : Nat → Prop} (h : ∀ x, f x → g x) (a : mz_t1 tg f) : mz_t1 tg g := by
  revert a
  unfold mz_t1
  split
  · exact h _ 
  · exact id
theorem mz_t2_m {tg : List Nat} {f g : Nat → Nat → Prop} (h : ∀ x y, f x y → g x y) (a : mz_t2 tg f) : mz_t2 tg g := by
  revert a
  unfold mz_t2
  split
  · exact h _ _ 
  · exact id
theorem mz_t3_m {tg : List Nat} {f g : Nat → Nat → Nat → Prop} (h : ∀ x y w, f x y w → g x y w) (a : mz_t3 tg f) : mz_t3 tg g := by
  revert a
  unfold mz_t3
  split
  · exact h _ _ _ 
  · exact id
theorem mz_t5_m {tg : List Nat} {f g : Nat → Nat → Nat → Nat → Nat → Prop} (h : ∀ x y w u v, f x y w u v → g x y w u v) (a : mz_t5 tg f) : mz_t5 tg g := by
  revert a
  unfold mz_t5
  split
  · exact h _ _ _ _ _ 
  · exact id
theorem mz_br_m {c : ClassFile.Cond} {x y : Int32} {t f t' f' : Prop} (h1 : t → t') (h2 : f → f') (a : mz_br c x y t f) : mz_br c x y t' f' := by
  cases c <;> exact ⟨fun q => h1 (a.1 q), fun q => h2 (a.2 q)⟩
theorem mz_sw_m {x : Int32} {lo hi : Int} {tg : List Nat} {f g : Nat → Prop} (h : ∀ t, f t → g t) (a : mz_sw x lo hi tg f) : mz_sw x lo hi tg g := by
  have key : ∀ o : Option Nat, mz_sw.mz_gN o f → mz_sw.mz_gN o g := by
    intro o b
    revert b
    unfold mz_sw.mz_gN
    split
    · exact h _ 
    · exact id
  exact ⟨fun q => key _ (a.1 q), fun q1 q2 => key _ (a.2 q1 q2)⟩
def mz_Km (K : mz_K) : Prop := ∀ (y : Nat) (args : List Value) (M : mz_M) (z z' : Nat × Nat) (Q Q' : mz_P), (∀ r M, Q r M → Q' r M) → K y args M z z' Q → K y args M z z' Q'
theorem mz_cal_m {K : mz_K} (hK : mz_Km K) {y n : Nat} {st : List Value} {M : mz_M} {z : Nat × Nat} {f g : List Value → mz_M → Prop} (h : ∀ s M, f s M → g s M) (a : mz_cal K y n st M z f) : mz_cal K y n st M z g :=
  ⟨a.1, a.2.1, hK _ _ _ _ _ _ _ (fun _ _ q => h _ _ q) a.2.2⟩
theorem mz_caa_m {K : mz_K} (hK : mz_Km K) {y n : Nat} {st : List Value} {M : mz_M} {z B : Nat × Nat} {f g : List Value → mz_M → Nat × Nat → Prop} (h : ∀ s M z, f s M z → g s M z) (a : mz_caa K y n st M z B f) : mz_caa K y n st M z B g := by
  obtain ⟨a1, a2, z', b1, b2, b3, b4, b5⟩ := a
  exact ⟨a1, a2, z', b1, b2, b3, b4, hK _ _ _ _ _ _ _ (fun _ _ q => h _ _ _ q) b5⟩
set_option maxHeartbeats 4000000 in
theorem mz_stp_m {sc : Option (Nat × Nat × (Nat → Int32))} {sa : Nat → Nat} {K : mz_K} (hK : mz_Km K) {dd : Nat} {Y : mz_Y} {B : Nat × Nat} {Q Q' : mz_P} {k k' : mz_C} (hk : ∀ pc L st M z, k pc L st M z → k' pc L st M z) (hQ : ∀ r M, Q r M → Q' r M) {i : Instr} {tg : List Nat} {pc : Nat} {L st : List Value} {M : mz_M} {z : Nat × Nat}
    (a : mz_stp sc sa K dd Y B Q k i tg pc L st M z) : mz_stp sc sa K dd Y B Q' k' i tg pc L st M z := by
  cases i
  case iconst => exact hk _ _ _ _ _ a
  case bipush => exact hk _ _ _ _ _ a
  case sipush => exact hk _ _ _ _ _ a
  case lconst => exact hk _ _ _ _ _ a
  case aconst_null => exact hk _ _ _ _ _ a
  case iload => exact mz_gI_m (fun _ => hk _ _ _ _ _) a
  case iload_n => exact mz_gI_m (fun _ => hk _ _ _ _ _) a
  case lload => exact mz_gJ_m (fun _ => hk _ _ _ _ _) a
  case lload_n => exact mz_gJ_m (fun _ => hk _ _ _ _ _) a
  case aload j => exact mz_gA_m (o := L[j]?) (f := fun x => k (pc + 2) L (x :: st) M z) (g := fun x => k' (pc + 2) L (x :: st) M z) (fun _ => hk _ _ _ _ _) a
  case aload_n j => exact mz_gA_m (o := L[(j : Nat)]?) (f := fun x => k (pc + 1) L (x :: st) M z) (g := fun x => k' (pc + 1) L (x :: st) M z) (fun _ => hk _ _ _ _ _) a
  case istore => exact mz_pI_m (fun _ _ => And.imp_right (hk _ _ _ _ _)) a
  case istore_n => exact mz_pI_m (fun _ _ => And.imp_right (hk _ _ _ _ _)) a
  case lstore => exact mz_pJ_m (fun _ _ => And.imp_right (hk _ _ _ _ _)) a
  case lstore_n => exact mz_pJ_m (fun _ _ => And.imp_right (hk _ _ _ _ _)) a
  case astore j => exact mz_pA_m (st := st) (f := fun x r => j < L.length ∧ k (pc + 2) (mz_st1 L j x) r M z) (g := fun x r => j < L.length ∧ k' (pc + 2) (mz_st1 L j x) r M z) (fun _ _ => And.imp_right (hk _ _ _ _ _)) a
  case astore_n j => exact mz_pA_m (st := st) (f := fun x r => (j : Nat) < L.length ∧ k (pc + 1) (mz_st1 L j x) r M z) (g := fun x r => (j : Nat) < L.length ∧ k' (pc + 1) (mz_st1 L j x) r M z) (fun _ _ => And.imp_right (hk _ _ _ _ _)) a
  case iinc => exact mz_gI_m (fun _ => hk _ _ _ _ _) a
  case iadd => exact mz_pI_m (fun _ _ => mz_pI_m (fun _ _ => hk _ _ _ _ _)) a
  case isub => exact mz_pI_m (fun _ _ => mz_pI_m (fun _ _ => hk _ _ _ _ _)) a
  case imul => exact mz_pI_m (fun _ _ => mz_pI_m (fun _ _ => hk _ _ _ _ _)) a
  case iand => exact mz_pI_m (fun _ _ => mz_pI_m (fun _ _ => hk _ _ _ _ _)) a
  case ior => exact mz_pI_m (fun _ _ => mz_pI_m (fun _ _ => hk _ _ _ _ _)) a
  case ixor => exact mz_pI_m (fun _ _ => mz_pI_m (fun _ _ => hk _ _ _ _ _)) a
  case idiv => exact mz_pI_m (fun _ _ => mz_pI_m (fun _ _ => And.imp_right (hk _ _ _ _ _))) a
  case irem => exact mz_pI_m (fun _ _ => mz_pI_m (fun _ _ => And.imp_right (hk _ _ _ _ _))) a
  case ishl => exact mz_pI_m (fun _ _ => mz_pI_m (fun _ _ => hk _ _ _ _ _)) a
  case ishr => exact mz_pI_m (fun _ _ => mz_pI_m (fun _ _ => hk _ _ _ _ _)) a
  case iushr => exact mz_pI_m (fun _ _ => mz_pI_m (fun _ _ => hk _ _ _ _ _)) a
  case land => exact mz_pJ_m (fun _ _ => mz_pJ_m (fun _ _ => hk _ _ _ _ _)) a
  case lor => exact mz_pJ_m (fun _ _ => mz_pJ_m (fun _ _ => hk _ _ _ _ _)) a
  case lxor => exact mz_pJ_m (fun _ _ => mz_pJ_m (fun _ _ => hk _ _ _ _ _)) a
  case lshl => exact mz_pI_m (fun _ _ => mz_pJ_m (fun _ _ => hk _ _ _ _ _)) a
  case lshr => exact mz_pI_m (fun _ _ => mz_pJ_m (fun _ _ => hk _ _ _ _ _)) a
  case lushr => exact mz_pI_m (fun _ _ => mz_pJ_m (fun _ _ => hk _ _ _ _ _)) a
  case i2l => exact mz_pI_m (fun _ _ => hk _ _ _ _ _) a
  case l2i => exact mz_pJ_m (fun _ _ => hk _ _ _ _ _) a
  case i2b => exact mz_pI_m (fun _ _ => hk _ _ _ _ _) a
  case lcmp => exact mz_pJ_m (fun _ _ => mz_pJ_m (fun _ _ => hk _ _ _ _ _)) a
  case dup => exact mz_pV_m (fun _ _ => And.imp_right (hk _ _ _ _ _)) a
  case dup2 => exact mz_pV_m (fun _ _ => mz_pV_m (fun _ _ => And.imp_right (And.imp_right (hk _ _ _ _ _)))) a
  case pop => exact mz_pV_m (fun _ _ => And.imp_right (hk _ _ _ _ _)) a
  case ifCond => exact mz_t1_m (fun _ => mz_pI_m (fun _ _ => mz_br_m (hk _ _ _ _ _) (hk _ _ _ _ _))) a
  case if_icmp => exact mz_t1_m (fun _ => mz_pI_m (fun _ _ => mz_pI_m (fun _ _ => mz_br_m (hk _ _ _ _ _) (hk _ _ _ _ _)))) a
  case goto => exact mz_t1_m (fun _ => hk _ _ _ _ _) a
  case ifnull => exact mz_t1_m (fun _ => mz_pV_m (fun _ _ h => ⟨fun q => hk _ _ _ _ _ (h.1 q), fun q => hk _ _ _ _ _ (h.2.1 q), h.2.2⟩)) a
  case ifnonnull => exact mz_t1_m (fun _ => mz_pV_m (fun _ _ h => ⟨fun q => hk _ _ _ _ _ (h.1 q), fun q => hk _ _ _ _ _ (h.2.1 q), h.2.2⟩)) a
  case tableswitch => exact mz_pI_m (fun _ _ => mz_sw_m (fun _ => hk _ _ _ _ _)) a
  case ldc => exact mz_t3_m (fun _ _ _ => hk _ _ _ _ _) a
  case ldc_w => exact mz_t3_m (fun _ _ _ => hk _ _ _ _ _) a
  case ldc2_w => exact mz_t3_m (fun _ _ _ => hk _ _ _ _ _) a
  case getfield => exact mz_t3_m (fun _ _ _ => mz_pR_m (fun _ _ => And.imp_right (hk _ _ _ _ _))) a
  case putfield =>
    refine mz_t3_m (fun _ _ _ => mz_pV_m (fun _ _ => mz_pR_m (fun _ _ h => ⟨h.1, h.2.1, ?_⟩))) a
    have h3 := h.2.2
    split at h3
    · exact ⟨h3.1, h3.2.1, h3.2.2.1, hk _ _ _ _ _ h3.2.2.2⟩
    · exact ⟨h3.1, hk _ _ _ _ _ h3.2⟩
    · exact h3
  case iaload =>
    refine mz_pI_m (fun _ _ => mz_pR_m (fun _ _ h => ?_)) a
    split at h
    · exact ⟨h.1, h.2.1, hk _ _ _ _ _ h.2.2⟩
    · split at h
      · exact ⟨h.1, h.2.1, hk _ _ _ _ _ h.2.2⟩
      · exact h
  case baload => exact mz_pI_m (fun _ _ => mz_pR_m (fun _ _ => And.imp_right (And.imp_right (hk _ _ _ _ _)))) a
  case laload => exact mz_pI_m (fun _ _ => mz_pR_m (fun _ _ => And.imp_right (And.imp_right (hk _ _ _ _ _)))) a
  case aaload => exact mz_pI_m (fun _ _ => mz_pR_m (fun _ _ => And.imp_right (And.imp_right (hk _ _ _ _ _)))) a
  case iastore => exact mz_pI_m (fun _ _ => mz_pI_m (fun _ _ => mz_pR_m (fun _ _ => And.imp_right (And.imp_right (hk _ _ _ _ _))))) a
  case bastore => exact mz_pI_m (fun _ _ => mz_pI_m (fun _ _ => mz_pR_m (fun _ _ => And.imp_right (And.imp_right (hk _ _ _ _ _))))) a
  case lastore => exact mz_pJ_m (fun _ _ => mz_pI_m (fun _ _ => mz_pR_m (fun _ _ => And.imp_right (And.imp_right (hk _ _ _ _ _))))) a
  case aastore => exact mz_pR_m (fun _ _ => mz_pI_m (fun _ _ => mz_pR_m (fun _ _ => And.imp_right (And.imp_right (And.imp_right (hk _ _ _ _ _)))))) a
  case arraylength =>
    refine mz_pR_m (fun _ _ h => ?_) a
    split at h
    · exact ⟨h.1, hk _ _ _ _ _ h.2⟩
    · split at h
      · exact ⟨h.1, hk _ _ _ _ _ h.2⟩
      · exact h
  case newarray => exact mz_pI_m (fun _ _ h => ⟨h.1, h.2.1, h.2.2.1, h.2.2.2.1, h.2.2.2.2.1, hk _ _ _ _ _ h.2.2.2.2.2⟩) a
  case anewarray => exact mz_pI_m (fun _ _ h => ⟨h.1, h.2.1, h.2.2.1, h.2.2.2.1, hk _ _ _ _ _ h.2.2.2.2⟩) a
  case new => exact mz_t2_m (fun _ _ h => ⟨h.1, h.2.1, hk _ _ _ _ _ h.2.2⟩) a
  case invokevirtual =>
    refine mz_t5_m (fun h y n c p q => ?_) a
    split at q
    · exact ⟨q.1, mz_cal_m hK (fun _ _ => hk _ _ _ _ _) q.2⟩
    · exact ⟨q.1, mz_caa_m hK (fun _ _ _ => hk _ _ _ _ _) q.2⟩
    · exact ⟨q.1, mz_cal_m hK (fun _ _ => hk _ _ _ _ _) q.2⟩
    · exact q.elim
  case invokestatic =>
    refine mz_t5_m (fun h y n c p q => ?_) a
    split at q
    · exact mz_cal_m hK (fun _ _ => hk _ _ _ _ _) q
    · refine mz_pI_m (fun _ _ => mz_pI_m (fun _ _ => mz_pR_m (fun _ _ => mz_pI_m (fun _ _ => mz_pR_m (fun _ _ h => ⟨h.1, h.2.1, h.2.2.1, ?_⟩))))) q
      have h4 := h.2.2.2
      split at h4
      · exact ⟨h4.1, h4.2.1, hk _ _ _ _ _ h4.2.2⟩
      · exact ⟨h4.1, h4.2.1, hk _ _ _ _ _ h4.2.2⟩
    · exact mz_pI_m (fun _ _ => mz_pI_m (fun _ _ => And.imp_right (And.imp_right (hk _ _ _ _ _)))) q
    · exact mz_pI_m (fun _ _ => mz_pI_m (fun _ _ => And.imp_right (And.imp_right (hk _ _ _ _ _)))) q
    · exact q.elim
  case invokespecial =>
    refine mz_t5_m (fun h y n c p q => ?_) a
    split at q
    · exact mz_pR_m (fun _ _ h => ⟨h.1, h.2.1, hk _ _ _ _ _ h.2.2⟩) q
    · exact ⟨q.1, mz_caa_m hK (fun _ _ _ => hk _ _ _ _ _) q.2⟩
    · exact ⟨q.1, mz_caa_m hK (fun _ _ _ => hk _ _ _ _ _) q.2⟩
    · exact q.elim
  case return_ => exact ⟨a.1, a.2.1, a.2.2.1, hQ _ _ a.2.2.2⟩
  case ireturn => exact mz_pI_m (fun _ _ h => ⟨h.1, h.2.1, h.2.2.1, hQ _ _ h.2.2.2⟩) a
  case lreturn => exact mz_pJ_m (fun _ _ h => ⟨h.1, h.2.1, h.2.2.1, hQ _ _ h.2.2.2⟩) a
  case areturn => exact mz_pV_m (fun _ _ h => ⟨h.1, h.2.1, h.2.2.1, h.2.2.2.1, hQ _ _ h.2.2.2.2⟩) a
  all_goals exact False.elim a
def mz_nx (sc : Option (Nat × Nat × (Nat → Int32))) (sa : Nat → Nat) (K : mz_K) (dd : Nat) (Y : mz_Y) (B : Nat × Nat) (Q : mz_P) (k : mz_C) (pc : Nat) (L st : List Value) (M : mz_M) (z : Nat × Nat) : Prop := match mz_lk Y.2.2.2.2.2.2 pc with
  | none => False
  | some e => mz_stp sc sa K dd Y B Q k e.1 e.2.2 pc L st M z
def mz_wp (sc : Option (Nat × Nat × (Nat → Int32))) (sa : Nat → Nat) (K : mz_K) (dd : Nat) (Y : mz_Y) (B : Nat × Nat) (Q : mz_P) (pc : Nat) (L st : List Value) (M : mz_M) (z : Nat × Nat) : Prop :=
  ∀ P : mz_C, (∀ pc L st M z, mz_nx sc sa K dd Y B Q P pc L st M z → P pc L st M z) → P pc L st M z
theorem mz_nx_m {sc : Option (Nat × Nat × (Nat → Int32))} {sa : Nat → Nat} {K : mz_K} (hK : mz_Km K) {dd : Nat} {Y : mz_Y} {B : Nat × Nat} {Q Q' : mz_P} {k k' : mz_C} (hk : ∀ pc L st M z, k pc L st M z → k' pc L st M z) (hQ : ∀ r M, Q r M → Q' r M) {pc : Nat} {L st : List Value} {M : mz_M} {z : Nat × Nat}
    (a : mz_nx sc sa K dd Y B Q k pc L st M z) : mz_nx sc sa K dd Y B Q' k' pc L st M z := by
  unfold mz_nx at a ⊢
  split
  · rename_i h
    rw [h] at a
    exact a
  · rename_i h
    rw [h] at a
    exact mz_stp_m hK hk hQ a
theorem mz_wp_i {sc : Option (Nat × Nat × (Nat → Int32))} {sa : Nat → Nat} {K : mz_K} (hK : mz_Km K) {dd : Nat} {Y : mz_Y} {B : Nat × Nat} {Q : mz_P} {pc : Nat} {L st : List Value} {M : mz_M} {z : Nat × Nat}
    (a : mz_nx sc sa K dd Y B Q (mz_wp sc sa K dd Y B Q) pc L st M z) : mz_wp sc sa K dd Y B Q pc L st M z := fun P hP => hP _ _ _ _ _ (mz_nx_m hK (fun _ _ _ _ _ h => h P hP) (fun _ _ h => h) a)
theorem mz_wp_m {sc : Option (Nat × Nat × (Nat → Int32))} {sa : Nat → Nat} {K : mz_K} (hK : mz_Km K) {dd : Nat} {Y : mz_Y} {B : Nat × Nat} {Q Q' : mz_P} (hQ : ∀ r M, Q r M → Q' r M) {pc : Nat} {L st : List Value} {M : mz_M} {z : Nat × Nat}
    (a : mz_wp sc sa K dd Y B Q pc L st M z) : mz_wp sc sa K dd Y B Q' pc L st M z := fun P hP => a P (fun _ _ _ _ _ h => hP _ _ _ _ _ (mz_nx_m hK (fun _ _ _ _ _ h => h) hQ h))
