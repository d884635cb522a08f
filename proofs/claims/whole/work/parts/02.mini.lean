-- the small machine: memory by kinds, a step, the least relation closed under it
abbrev mz_M : Type := (Nat → Nat → Int32) × (Nat → Nat → Int64) × (Nat → Nat → Option Nat) × (Nat → Nat × Nat)
abbrev mz_En : Type := Nat × Instr × Nat × List Nat
abbrev mz_Y : Type := MethodName × ByteArray × Nat × Option FieldType × Nat × Bool × List mz_En
def mz_uI (M : mz_M) (a k : Nat) (x : Int32) : mz_M := (va_up M.1 a (va_up (M.1 a) k x), M.2)
def mz_uJ (M : mz_M) (a k : Nat) (x : Int64) : mz_M := (M.1, va_up M.2.1 a (va_up (M.2.1 a) k x), M.2.2)
def mz_uR (M : mz_M) (a k : Nat) (x : Option Nat) : mz_M := (M.1, M.2.1, va_up M.2.2.1 a (va_up (M.2.2.1 a) k x), M.2.2.2)
def mz_cI (M : mz_M) (a : Nat) (f : Nat → Int32) : mz_M := (va_up M.1 a f, M.2)
def mz_cJ (M : mz_M) (a : Nat) (f : Nat → Int64) : mz_M := (M.1, va_up M.2.1 a f, M.2.2)
def mz_new (M : mz_M) (a kd n : Nat) : mz_M := (va_up M.1 a (fun _ => 0), va_up M.2.1 a (fun _ => 0), va_up M.2.2.1 a (fun _ => none), va_up M.2.2.2 a (kd, n))
-- pops
def mz_pI (st : List Value) (f : Int32 → List Value → Prop) : Prop := match st with
  | .int x :: r => f x r
  | _ => False
def mz_pJ (st : List Value) (f : Int64 → List Value → Prop) : Prop := match st with
  | .long x :: r => f x r
  | _ => False
def mz_pR (st : List Value) (f : Nat → List Value → Prop) : Prop := match st with
  | .ref x :: r => f x r
  | _ => False
def mz_pV (st : List Value) (f : Value → List Value → Prop) : Prop := match st with
  | x :: r => f x r
  | _ => False
def mz_gI (o : Option Value) (f : Int32 → Prop) : Prop := match o with
  | some (.int x) => f x
  | _ => False
def mz_gJ (o : Option Value) (f : Int64 → Prop) : Prop := match o with
  | some (.long x) => f x
  | _ => False
def mz_gR (o : Option Value) (f : Nat → Prop) : Prop := match o with
  | some (.ref x) => f x
  | _ => False
def mz_t1 (tg : List Nat) (f : Nat → Prop) : Prop := match tg with
  | [a] => f a
  | _ => False
def mz_t3 (tg : List Nat) (f : Nat → Nat → Nat → Prop) : Prop := match tg with
  | [a, b, c] => f a b c
  | _ => False
-- locals
def mz_st1 (L : List Value) (i : Nat) (v : Value) : List Value := match i with
  | 0 => L.set 0 v
  | j + 1 => match L[j]? with
    | some (.long _) => (L.set j (.retAddr 0)).set (j + 1) v
    | some (.double _) => (L.set j (.retAddr 0)).set (j + 1) v
    | _ => L.set (j + 1) v
def mz_st2 (L : List Value) (i : Nat) (v : Value) : List Value := (mz_st1 L i v).set (i + 1) (.retAddr 0)
def mz_en (args : List Value) (n : Nat) : List Value :=
  let u := args.flatMap (fun v => if v.category = 2 then [v, .retAddr 0] else [v])
  u ++ List.replicate (n - u.length) (.retAddr 0)
def mz_lk (t : List mz_En) (pc : Nat) : Option (Instr × Nat × List Nat) := match t with
  | [] => none
  | e :: r => bif Nat.beq e.1 pc then some e.2 else mz_lk r pc
def mz_cnd (c : ClassFile.Cond) (x y : Int32) : Prop := match c with
  | .eq => x = y
  | .ne => ¬ x = y
  | .lt => x < y
  | .ge => y ≤ x
  | .gt => y < x
  | .le => x ≤ y
