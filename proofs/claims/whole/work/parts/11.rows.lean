section
variable {p : Program} {l : Launch} {e : Env} {R : Room} {s : State} {m : MethodId} {args : Array Value} {below : List Frame} {meth : Method} {c : Code} {Qw : State → Prop}
variable {D : va_G} {C : Nat → ClassId} {z0 : Nat} {sc : Option (Nat × Nat × (Nat → Int32))} {sa sv : Nat → Nat}
/-- what a run of a method stands on -/
def ms_X (p : Program) (l : Launch) (e : Env) (R : Room) (s : State) (m : MethodId) (args : Array Value) (below : List Frame) (meth : Method) (c : Code) (Qw : State → Prop) (D : va_G) (C : Nat → ClassId) (z0 : Nat) (sc : Option (Nat × Nat × (Nat → Int32))) (sa sv : Nat → Nat) (K : mz_K) (d : Nat) (Y : mz_Y) (zs B : Nat × Nat) (Q : mz_P) : Prop :=
  p.tables.exec = Jvm.exec ∧ c.code = Y.2.1 ∧ c.maxLocals = Y.2.2.1 ∧ s.vm.findClass (mz_cN Y.2.2.2.2.1) = some m.cls ∧ (∀ w ∈ mw_Ts, w.before args s = true) ∧ (Y.2.2.2.2.2.1 = true → meth.name = "<init>") ∧ mw_E D C z0 sc sa sv s ∧ mz_ck Y = true ∧ s.heap.size = zs.1 ∧ z0 ≤ zs.1 ∧ ms_R R d zs B ∧
  (∀ y a M z z' Q', K y a M z z' Q' → z.1 ≤ z'.1 → z.2 ≤ z'.2 → 1 ≤ d ∧ mw_Met l D C z0 sc sa sv (d - 1) y a M z z' Q') ∧
  (∀ (v : Option Value) (i : Instr) (M' : mz_M) (H : Heap) (locs : List Loc) (ls : Array Slot) (pc : Nat), decode Y.2.1 pc = .ok (i, 1) → ms_ret i v Y.2.2.2.1 → Q v M' → H.size = B.1 → va_P D mz_cl (mw_w C M' z0 (B.1 - z0)) H → mw_kz z0 (B.1 - z0) M' → va_S (mw_A z0) s.heap H locs → W p l e R s m args below meth c H locs (B.1 - zs.1) (B.2 - zs.2) Qw (F0 m pc ls v.toList))
theorem ms_gf {K : mz_K} {d : Nat} {Y : mz_Y} {zs B : Nat × Nat} {Q : mz_P} {pc : Nat} {L st : List Value} {M : mz_M} {z : Nat × Nat} (X : ms_X p l e R s m args below meth c Qw D C z0 sc sa sv K d Y zs B Q) {x c2 j r a : Nat} {rest : List Value} (hd : decode Y.2.1 pc = .ok (.getfield x, 3)) (h6 : c2 < 6) (hj : j < mz_cS c2) (hq : mz_LT r = some (Y.2.2.2.2.1, x, 0, c2, j)) (hk : mz_kd M a = 10 + c2) (h : ms_Pw p l e R s m args below meth c Qw D C z0 Y.2.2.1 zs B (pc + 3) L (mz_rd M c2 a j :: rest) M z) : ms_Pw p l e R s m args below meth c Qw D C z0 Y.2.2.1 zs B pc L (.ref a :: rest) M z := by
  intro H locs ls g
  obtain ⟨hx, hb, -, hown, hts, -, hE, -⟩ := X
  obtain ⟨h1, h2⟩ := mw_in g.kz hk (by omega)
  exact va_get (D := D) (own := mz_cN Y.2.2.2.2.1) (ref := mz_cN c2) hx hb hts (mw_lay h6) hown hE.1 g.P (a - z0) (fs := mz_fs M c2 a) (by rw [mw_get h1 h2, mw_ko h6 hk]) (mz_cl_at c2 h6) j hj (hts _ (mw_lt hq rfl)) (fun _ w => by rw [mz_own c2 h6 j hj] at w; exact w) (mw_fsG hj) hd (h H locs ls g)
theorem ms_rty : ∀ c, c < 6 → ∀ j, j < mz_cS c → mz_iR c j = true → (∃ n, mz_cY c j = .object n) ∨ ∃ t, mz_cY c j = .array t := by
  have key : ∀ c, c < 6 → ∀ j, j < mz_cS c → (match mz_cY c j with | .int => true | .boolean => true | .object _ => true | .array _ => true | _ => false) = true := by decide +kernel
  intro c hc j hj h
  have h2 := key c hc j hj
  unfold mz_iR at h
  cases hy : mz_cY c j <;> rw [hy] at h h2 <;> first | exact Or.inl ⟨_, rfl⟩ | exact Or.inr ⟨_, rfl⟩ | exact absurd h (by decide) | exact absurd h2 (by decide)
theorem ms_pf {K : mz_K} {d : Nat} {Y : mz_Y} {zs B : Nat × Nat} {Q : mz_P} {pc : Nat} {L st : List Value} {M : mz_M} {z : Nat × Nat} (X : ms_X p l e R s m args below meth c Qw D C z0 sc sa sv K d Y zs B Q) {x c2 j r a : Nat} {rest : List Value} {v : Value} {M2 : mz_M} (hd : decode Y.2.1 pc = .ok (.putfield x, 3)) (h6 : c2 < 6) (hj : j < mz_cS c2) (hq : mz_LT r = some (Y.2.2.2.2.1, x, 0, c2, j)) (hk : mz_kd M a = 10 + c2) (hf : (mz_cF c2 j).2.2.2 = true → Y.2.2.2.2.2.1 = true ∧ Y.2.2.2.2.1 = c2) (hn : narrow (mz_cY c2 j) v = v) (hfit : fits (mz_cY c2 j) v = true) (hM : mz_fs M2 c2 a = (mz_fs M c2 a).set j v) (hM2 : ∀ b, M2.2.2.2 b = M.2.2.2 b) (hM3 : ∀ b, b ≠ a → mw_ce C M2 b = mw_ce C M b) (h : ms_Pw p l e R s m args below meth c Qw D C z0 Y.2.2.1 zs B (pc + 3) L rest M2 z) : ms_Pw p l e R s m args below meth c Qw D C z0 Y.2.2.1 zs B pc L (v :: .ref a :: rest) M z := by
  intro H locs ls g
  obtain ⟨hx, hb, -, hown, hts, hin, hE, -⟩ := X
  obtain ⟨h1, h2⟩ := mw_in g.kz hk (by omega)
  have hk2 : mz_kd M2 a = 10 + c2 := by unfold mz_kd; rw [hM2]; exact hk
  have he : (mw_w C M z0 (z.1 - z0))[a - z0]? = some (a, .inr (c2, mz_fs M c2 a)) := by rw [mw_get h1 h2, mw_ko h6 hk]
  have go : ∀ (H1 : Heap) (locs1 : List Loc), va_P D mz_cl ((mw_w C M z0 (z.1 - z0)).set (a - z0) (a, .inr (c2, (mz_fs M c2 a).set j v))) H1 → va_D (mw_A z0) ((mw_w C M z0 (z.1 - z0)).set (a - z0) (a, .inr (c2, (mz_fs M c2 a).set j v))) → va_S (mw_A z0) s.heap H1 locs1 → W p l e R s m args below meth c H1 locs1 (z.1 - zs.1) (z.2 - zs.2) Qw (F0 m (pc + 3) ls rest) := fun H1 locs1 hP1 _ hS1 =>
    h H1 locs1 ls (g.mem (mw_set hP1 h1 h2 (by rw [mw_ko h6 hk2, hM]) hM3) hM2 hS1)
  cases hfin : (mz_cF c2 j).2.2.2 with
  | false => exact va_put (D := D) (own := mz_cN Y.2.2.2.2.1) (ref := mz_cN c2) hx hb hts (mw_lay h6) (mz_cY c2) (mz_ty_ok c2 h6) (mz_nm_ok c2 h6) hown hE.1 g.P mw_D g.S (a - z0) he (mz_cl_at c2 h6) j hj (hts _ (mw_lt hq rfl)) (fun _ w => by rw [mz_own c2 h6 j hj] at w; exact w) hfin (mz_ty_ok c2 h6 j hj) hn hfit (by rw [mw_fsL]; exact hj) hd go
  | true =>
    obtain ⟨f1, f2⟩ := hf hfin
    exact va_putF (D := D) (own := mz_cN Y.2.2.2.2.1) (ref := mz_cN c2) hx hb hts (mw_lay h6) (mz_cY c2) (mz_ty_ok c2 h6) (mz_nm_ok c2 h6) hown hE.1 g.P mw_D g.S (a - z0) he (mz_cl_at c2 h6) j hj (hts _ (mw_lt hq rfl)) (fun _ w => by rw [mz_own c2 h6 j hj] at w; exact w) hfin (hin f1) (by rw [mz_own c2 h6 j hj, f2]) (mz_ty_ok c2 h6 j hj) hn hfit (by rw [mw_fsL]; exact hj) hd go
theorem ms_iald {K : mz_K} {d : Nat} {Y : mz_Y} {zs B : Nat × Nat} {Q : mz_P} {pc : Nat} {L st : List Value} {M : mz_M} {z : Nat × Nat} (X : ms_X p l e R s m args below meth c Qw D C z0 sc sa sv K d Y zs B Q) {a : Nat} {x : Int32} {rest : List Value} (hd : decode Y.2.1 pc = .ok (.iaload, 1)) (hk : mz_kd M a = 1) (hi : vp_in x (mz_ln M a)) (h : ms_Pw p l e R s m args below meth c Qw D C z0 Y.2.2.1 zs B (pc + 1) L (.int (M.1 a x.toNatClampNeg) :: rest) M z) : ms_Pw p l e R s m args below meth c Qw D C z0 Y.2.2.1 zs B pc L (.int x :: .ref a :: rest) M z := by
  intro H locs ls g
  obtain ⟨hx, hb, -, hown, hts, -, hE, -⟩ := X
  obtain ⟨h1, h2⟩ := mw_in g.kz hk (by omega)
  exact va_iald (D := D) hx hb hE.1 g.P (a - z0) 0 (by rw [mw_get h1 h2, mw_k1 hk]) rfl hi hd (h H locs ls g)
theorem ms_bald {K : mz_K} {d : Nat} {Y : mz_Y} {zs B : Nat × Nat} {Q : mz_P} {pc : Nat} {L st : List Value} {M : mz_M} {z : Nat × Nat} (X : ms_X p l e R s m args below meth c Qw D C z0 sc sa sv K d Y zs B Q) {a : Nat} {x : Int32} {rest : List Value} (hd : decode Y.2.1 pc = .ok (.baload, 1)) (hk : mz_kd M a = 2) (hi : vp_in x (mz_ln M a)) (h : ms_Pw p l e R s m args below meth c Qw D C z0 Y.2.2.1 zs B (pc + 1) L (.int (M.1 a x.toNatClampNeg) :: rest) M z) : ms_Pw p l e R s m args below meth c Qw D C z0 Y.2.2.1 zs B pc L (.int x :: .ref a :: rest) M z := by
  intro H locs ls g
  obtain ⟨hx, hb, -, hown, hts, -, hE, -⟩ := X
  obtain ⟨h1, h2⟩ := mw_in g.kz hk (by omega)
  exact va_bald (D := D) hx hb hE.1 g.P (a - z0) 1 (by rw [mw_get h1 h2, mw_k2 hk]) rfl hi hd (h H locs ls g)
theorem ms_zald {K : mz_K} {d : Nat} {Y : mz_Y} {zs B : Nat × Nat} {Q : mz_P} {pc : Nat} {L st : List Value} {M : mz_M} {z : Nat × Nat} (X : ms_X p l e R s m args below meth c Qw D C z0 sc sa sv K d Y zs B Q) {a : Nat} {x : Int32} {rest : List Value} (hd : decode Y.2.1 pc = .ok (.baload, 1)) (hk : mz_kd M a = 3) (hi : vp_in x (mz_ln M a)) (h : ms_Pw p l e R s m args below meth c Qw D C z0 Y.2.2.1 zs B (pc + 1) L (.int (M.1 a x.toNatClampNeg) :: rest) M z) : ms_Pw p l e R s m args below meth c Qw D C z0 Y.2.2.1 zs B pc L (.int x :: .ref a :: rest) M z := by
  intro H locs ls g
  obtain ⟨hx, hb, -, hown, hts, -, hE, -⟩ := X
  obtain ⟨h1, h2⟩ := mw_in g.kz hk (by omega)
  exact va_zald (D := D) hx hb hE.1 g.P (a - z0) 2 (by rw [mw_get h1 h2, mw_k3 hk]) rfl hi hd (h H locs ls g)
theorem ms_lald {K : mz_K} {d : Nat} {Y : mz_Y} {zs B : Nat × Nat} {Q : mz_P} {pc : Nat} {L st : List Value} {M : mz_M} {z : Nat × Nat} (X : ms_X p l e R s m args below meth c Qw D C z0 sc sa sv K d Y zs B Q) {a : Nat} {x : Int32} {rest : List Value} (hd : decode Y.2.1 pc = .ok (.laload, 1)) (hk : mz_kd M a = 4) (hi : vp_in x (mz_ln M a)) (h : ms_Pw p l e R s m args below meth c Qw D C z0 Y.2.2.1 zs B (pc + 1) L (.long (M.2.1 a x.toNatClampNeg) :: rest) M z) : ms_Pw p l e R s m args below meth c Qw D C z0 Y.2.2.1 zs B pc L (.int x :: .ref a :: rest) M z := by
  intro H locs ls g
  obtain ⟨hx, hb, -, hown, hts, -, hE, -⟩ := X
  obtain ⟨h1, h2⟩ := mw_in g.kz hk (by omega)
  exact va_lald (D := D) hx hb hE.1 g.P (a - z0) 3 (by rw [mw_get h1 h2, mw_k4 hk]) rfl hi hd (h H locs ls g)
theorem ms_aald {K : mz_K} {d : Nat} {Y : mz_Y} {zs B : Nat × Nat} {Q : mz_P} {pc : Nat} {L st : List Value} {M : mz_M} {z : Nat × Nat} (X : ms_X p l e R s m args below meth c Qw D C z0 sc sa sv K d Y zs B Q) {a : Nat} {x : Int32} {rest : List Value} (hd : decode Y.2.1 pc = .ok (.aaload, 1)) (hk : mz_kd M a = 5) (hi : vp_in x (mz_ln M a)) (h : ms_Pw p l e R s m args below meth c Qw D C z0 Y.2.2.1 zs B (pc + 1) L (va_rf (M.2.2.1 a x.toNatClampNeg) :: rest) M z) : ms_Pw p l e R s m args below meth c Qw D C z0 Y.2.2.1 zs B pc L (.int x :: .ref a :: rest) M z := by
  intro H locs ls g
  obtain ⟨hx, hb, -, hown, hts, -, hE, -⟩ := X
  obtain ⟨h1, h2⟩ := mw_in g.kz hk (by omega)
  exact va_aldq (D := D) hx hb hE.1 g.P (a - z0) 4 (by rw [mw_get h1 h2, mw_k5 hk]) rfl hi hd (h H locs ls g)
theorem ms_iast {K : mz_K} {d : Nat} {Y : mz_Y} {zs B : Nat × Nat} {Q : mz_P} {pc : Nat} {L st : List Value} {M : mz_M} {z : Nat × Nat} (X : ms_X p l e R s m args below meth c Qw D C z0 sc sa sv K d Y zs B Q) {a : Nat} {x : Int32} {v : Int32} {rest : List Value} (hd : decode Y.2.1 pc = .ok (.iastore, 1)) (hk : mz_kd M a = 1) (hi : vp_in x (mz_ln M a)) (h : ms_Pw p l e R s m args below meth c Qw D C z0 Y.2.2.1 zs B (pc + 1) L rest (mz_uI M a x.toNatClampNeg v) z) : ms_Pw p l e R s m args below meth c Qw D C z0 Y.2.2.1 zs B pc L (.int v :: .int x :: .ref a :: rest) M z := by
  intro H locs ls g
  obtain ⟨hx, hb, -, hown, hts, -, hE, -⟩ := X
  obtain ⟨h1, h2⟩ := mw_in g.kz hk (by omega)
  exact va_iast (D := D) hx hb hE.1 g.P mw_D g.S (a - z0) 0 (by rw [mw_get h1 h2, mw_k1 hk]) rfl hi hd (fun H1 locs1 hP1 _ hS1 => h H1 locs1 ls (g.mem (mw_set hP1 h1 h2 (by rw [mw_k1 (M := mz_uI M a x.toNatClampNeg v) hk, mw_uI1]; rfl) mw_oI) (fun _ => rfl) hS1))
theorem ms_bast {K : mz_K} {d : Nat} {Y : mz_Y} {zs B : Nat × Nat} {Q : mz_P} {pc : Nat} {L st : List Value} {M : mz_M} {z : Nat × Nat} (X : ms_X p l e R s m args below meth c Qw D C z0 sc sa sv K d Y zs B Q) {a : Nat} {x : Int32} {v : Int32} {rest : List Value} (hd : decode Y.2.1 pc = .ok (.bastore, 1)) (hk : mz_kd M a = 2) (hi : vp_in x (mz_ln M a)) (h : ms_Pw p l e R s m args below meth c Qw D C z0 Y.2.2.1 zs B (pc + 1) L rest (mz_uI M a x.toNatClampNeg (vp_nar .byte v)) z) : ms_Pw p l e R s m args below meth c Qw D C z0 Y.2.2.1 zs B pc L (.int v :: .int x :: .ref a :: rest) M z := by
  intro H locs ls g
  obtain ⟨hx, hb, -, hown, hts, -, hE, -⟩ := X
  obtain ⟨h1, h2⟩ := mw_in g.kz hk (by omega)
  exact va_bast (D := D) hx hb hE.1 g.P mw_D g.S (a - z0) 1 (by rw [mw_get h1 h2, mw_k2 hk]) rfl hi hd (fun H1 locs1 hP1 _ hS1 => h H1 locs1 ls (g.mem (mw_set hP1 h1 h2 (by rw [mw_k2 (M := mz_uI M a x.toNatClampNeg (vp_nar .byte v)) hk, mw_uI1]; rfl) mw_oI) (fun _ => rfl) hS1))
theorem ms_zast {K : mz_K} {d : Nat} {Y : mz_Y} {zs B : Nat × Nat} {Q : mz_P} {pc : Nat} {L st : List Value} {M : mz_M} {z : Nat × Nat} (X : ms_X p l e R s m args below meth c Qw D C z0 sc sa sv K d Y zs B Q) {a : Nat} {x : Int32} {v : Int32} {rest : List Value} (hd : decode Y.2.1 pc = .ok (.bastore, 1)) (hk : mz_kd M a = 3) (hi : vp_in x (mz_ln M a)) (h : ms_Pw p l e R s m args below meth c Qw D C z0 Y.2.2.1 zs B (pc + 1) L rest (mz_uI M a x.toNatClampNeg (vp_nar .boolean v)) z) : ms_Pw p l e R s m args below meth c Qw D C z0 Y.2.2.1 zs B pc L (.int v :: .int x :: .ref a :: rest) M z := by
  intro H locs ls g
  obtain ⟨hx, hb, -, hown, hts, -, hE, -⟩ := X
  obtain ⟨h1, h2⟩ := mw_in g.kz hk (by omega)
  exact va_zast (D := D) hx hb hE.1 g.P mw_D g.S (a - z0) 2 (by rw [mw_get h1 h2, mw_k3 hk]) rfl hi hd (fun H1 locs1 hP1 _ hS1 => h H1 locs1 ls (g.mem (mw_set hP1 h1 h2 (by rw [mw_k3 (M := mz_uI M a x.toNatClampNeg (vp_nar .boolean v)) hk, mw_uI1]; rfl) mw_oI) (fun _ => rfl) hS1))
theorem ms_last {K : mz_K} {d : Nat} {Y : mz_Y} {zs B : Nat × Nat} {Q : mz_P} {pc : Nat} {L st : List Value} {M : mz_M} {z : Nat × Nat} (X : ms_X p l e R s m args below meth c Qw D C z0 sc sa sv K d Y zs B Q) {a : Nat} {x : Int32} {v : Int64} {rest : List Value} (hd : decode Y.2.1 pc = .ok (.lastore, 1)) (hk : mz_kd M a = 4) (hi : vp_in x (mz_ln M a)) (h : ms_Pw p l e R s m args below meth c Qw D C z0 Y.2.2.1 zs B (pc + 1) L rest (mz_uJ M a x.toNatClampNeg v) z) : ms_Pw p l e R s m args below meth c Qw D C z0 Y.2.2.1 zs B pc L (.long v :: .int x :: .ref a :: rest) M z := by
  intro H locs ls g
  obtain ⟨hx, hb, -, hown, hts, -, hE, -⟩ := X
  obtain ⟨h1, h2⟩ := mw_in g.kz hk (by omega)
  exact va_last (D := D) hx hb hE.1 g.P mw_D g.S (a - z0) 3 (by rw [mw_get h1 h2, mw_k4 hk]) rfl hi hd (fun H1 locs1 hP1 _ hS1 => h H1 locs1 ls (g.mem (mw_set hP1 h1 h2 (by rw [mw_k4 (M := mz_uJ M a x.toNatClampNeg v) hk, mw_uJ1]; rfl) mw_oJ) (fun _ => rfl) hS1))
theorem ms_aast {K : mz_K} {d : Nat} {Y : mz_Y} {zs B : Nat × Nat} {Q : mz_P} {pc : Nat} {L st : List Value} {M : mz_M} {z : Nat × Nat} (X : ms_X p l e R s m args below meth c Qw D C z0 sc sa sv K d Y zs B Q) {a v : Nat} {x : Int32} {rest : List Value} (hd : decode Y.2.1 pc = .ok (.aastore, 1)) (hk : mz_kd M a = 5) (hv : mz_kd M v = 12) (hi : vp_in x (mz_ln M a)) (h : ms_Pw p l e R s m args below meth c Qw D C z0 Y.2.2.1 zs B (pc + 1) L rest (mz_uR M a x.toNatClampNeg (some v)) z) : ms_Pw p l e R s m args below meth c Qw D C z0 Y.2.2.1 zs B pc L (.ref v :: .int x :: .ref a :: rest) M z := by
  intro H locs ls g
  obtain ⟨hx, hb, -, hown, hts, -, hE, -⟩ := X
  obtain ⟨h1, h2⟩ := mw_in g.kz hk (by omega)
  obtain ⟨h3, h4⟩ := mw_in g.kz hv (by omega)
  exact va_astq (D := D) hx hb hE.1 g.P mw_D g.S (a - z0) 4 (v - z0) 2 (by rw [mw_get h1 h2, mw_k5 hk]) rfl (by rw [mw_get h3 h4, mw_ko (c := 2) (by omega) hv]) (mz_cl_at 2 (by omega)) hi hd (fun H1 locs1 hP1 _ hS1 => h H1 locs1 ls (g.mem (mw_set hP1 h1 h2 (by rw [mw_k5 (M := mz_uR M a x.toNatClampNeg (some v)) hk, mw_uR1]; rfl) mw_oR) (fun _ => rfl) hS1))
theorem ms_alen {K : mz_K} {d : Nat} {Y : mz_Y} {zs B : Nat × Nat} {Q : mz_P} {pc : Nat} {L st : List Value} {M : mz_M} {z : Nat × Nat} (X : ms_X p l e R s m args below meth c Qw D C z0 sc sa sv K d Y zs B Q) {a : Nat} {rest : List Value} (hd : decode Y.2.1 pc = .ok (.arraylength, 1)) (hk : mz_kd M a = 1 ∨ mz_kd M a = 2 ∨ mz_kd M a = 3 ∨ mz_kd M a = 4 ∨ mz_kd M a = 5) (h : ms_Pw p l e R s m args below meth c Qw D C z0 Y.2.2.1 zs B (pc + 1) L (.int (nI (mz_ln M a)) :: rest) M z) : ms_Pw p l e R s m args below meth c Qw D C z0 Y.2.2.1 zs B pc L (.ref a :: rest) M z := by
  intro H locs ls g
  obtain ⟨hx, hb, -, hown, hts, -, hE, -⟩ := X
  rcases hk with hk | hk | hk | hk | hk
  · obtain ⟨h1, h2⟩ := mw_in g.kz hk (by omega)
    exact va_alen (D := D) (x := (mz_ln M a, .inl (M.1 a))) (v := nI (mz_ln M a)) hx hb hE.1 g.P (a - z0) 0 (by rw [mw_get h1 h2, mw_k1 hk]) rfl rfl hd (h H locs ls g)
  · obtain ⟨h1, h2⟩ := mw_in g.kz hk (by omega)
    exact va_alen (D := D) (x := (mz_ln M a, .inl (M.1 a))) (v := nI (mz_ln M a)) hx hb hE.1 g.P (a - z0) 1 (by rw [mw_get h1 h2, mw_k2 hk]) rfl rfl hd (h H locs ls g)
  · obtain ⟨h1, h2⟩ := mw_in g.kz hk (by omega)
    exact va_alen (D := D) (x := (mz_ln M a, .inl (M.1 a))) (v := nI (mz_ln M a)) hx hb hE.1 g.P (a - z0) 2 (by rw [mw_get h1 h2, mw_k3 hk]) rfl rfl hd (h H locs ls g)
  · obtain ⟨h1, h2⟩ := mw_in g.kz hk (by omega)
    exact va_alen (D := D) (x := (mz_ln M a, .inr (.inl (M.2.1 a)))) (v := nI (mz_ln M a)) hx hb hE.1 g.P (a - z0) 3 (by rw [mw_get h1 h2, mw_k4 hk]) rfl rfl hd (h H locs ls g)
  · obtain ⟨h1, h2⟩ := mw_in g.kz hk (by omega)
    exact va_alen (D := D) (x := (mz_ln M a, .inr (.inr (.inr (.inr (M.2.2.1 a)))))) (v := nI (mz_ln M a)) hx hb hE.1 g.P (a - z0) 4 (by rw [mw_get h1 h2, mw_k5 hk]) rfl rfl hd (h H locs ls g)
theorem ms_scl {K : mz_K} {d : Nat} {Y : mz_Y} {zs B : Nat × Nat} {Q : mz_P} {pc : Nat} {L st : List Value} {M : mz_M} {z : Nat × Nat} (X : ms_X p l e R s m args below meth c Qw D C z0 sc sa sv K d Y zs B Q) {a b n : Nat} {f : Nat → Int32} {x : Int32} {rest : List Value} (hd : decode Y.2.1 pc = .ok (.iaload, 1)) (hs : sc = some (b, n, f)) (ha : a = b) (hi : vp_in x n) (h : ms_Pw p l e R s m args below meth c Qw D C z0 Y.2.2.1 zs B (pc + 1) L (.int (f x.toNatClampNeg) :: rest) M z) : ms_Pw p l e R s m args below meth c Qw D C z0 Y.2.2.1 zs B pc L (.int x :: .ref a :: rest) M z := by
  intro H locs ls g
  obtain ⟨hx, hb, -, hown, hts, -, hE, -⟩ := X
  obtain ⟨k1, k2, k3⟩ := hE.2.2.2.2.2.2 b n f hs
  subst ha
  exact va_sld hx hb k1 k3 (fun w => absurd k2 (Nat.not_lt.mpr w)) g.S hi hd (h H locs ls g)
theorem ms_scn {K : mz_K} {d : Nat} {Y : mz_Y} {zs B : Nat × Nat} {Q : mz_P} {pc : Nat} {L st : List Value} {M : mz_M} {z : Nat × Nat} (X : ms_X p l e R s m args below meth c Qw D C z0 sc sa sv K d Y zs B Q) {a b n : Nat} {f : Nat → Int32} {rest : List Value} (hd : decode Y.2.1 pc = .ok (.arraylength, 1)) (hs : sc = some (b, n, f)) (ha : a = b) (h : ms_Pw p l e R s m args below meth c Qw D C z0 Y.2.2.1 zs B (pc + 1) L (.int (nI n) :: rest) M z) : ms_Pw p l e R s m args below meth c Qw D C z0 Y.2.2.1 zs B pc L (.ref a :: rest) M z := by
  intro H locs ls g
  obtain ⟨hx, hb, -, hown, hts, -, hE, -⟩ := X
  obtain ⟨k1, k2, k3⟩ := hE.2.2.2.2.2.2 b n f hs
  subst ha
  exact va_slen hx hb k1 k3 (fun w => absurd k2 (Nat.not_lt.mpr w)) g.S hd (h H locs ls g)
theorem ms_born {zs B : Nat × Nat} {L : List Value} {M : mz_M} {z : Nat × Nat} {Y2 : Nat} {H1 : Heap} {locs1 : List Loc} {q : Nat} {ev : va_E} {M2 : mz_M} {ls : Array Slot} {sl : Nat} {H : Heap} {locs : List Loc} (g : ms_G D C z0 s Y2 zs B L M z H locs ls) (hs : s.heap.size = zs.1) (hz : z0 ≤ zs.1) (hb1 : z.1 + 1 ≤ B.1) (hb2 : z.2 + sl ≤ B.2) (hP1 : va_P D mz_cl (mw_w C M z0 (z.1 - z0) ++ [(q, ev)]) H1) (hD1 : va_D (mw_A z0) (mw_w C M z0 (z.1 - z0) ++ [(q, ev)])) (hS1 : va_S (mw_A z0) s.heap H1 locs1) (hsz : H1.size ≤ s.heap.size + (z.1 - zs.1 + 1)) (he : mw_ce C M2 z.1 = ev) (ho : ∀ b, b ≠ z.1 → mw_ce C M2 b = mw_ce C M b) (hk : ∀ b, b ≠ z.1 → M2.2.2.2 b = M.2.2.2 b) : q = z.1 ∧ ms_G D C z0 s Y2 zs B L M2 (z.1 + 1, z.2 + sl) H1 locs1 ls := by
  have h1 := g.2.2.1
  have hl : (mw_w C M z0 (z.1 - z0)).length = z.1 - z0 := mw_len
  have hlast : (mw_w C M z0 (z.1 - z0) ++ [(q, ev)])[z.1 - z0]? = some (q, ev) := by
    rw [List.getElem?_append_right (by omega), hl, Nat.sub_self]
    rfl
  have hqlt : q < H1.size := (hP1 _ _ hlast).lt
  have hqA : z0 ≤ q := hD1.2 _ _ hlast
  have hq : q = z.1 := by
    by_cases hlt : q < z.1
    · have h3 := hD1.1 (q - z0) (z.1 - z0) (q, mw_ce C M q) (q, ev) (by rw [List.getElem?_append_left (by omega)]; exact mw_get hqA (by omega)) hlast rfl
      omega
    · omega
  subst hq
  refine ⟨rfl, g.1, g.2.1, Nat.le_succ_of_le h1, Nat.le_trans g.2.2.2.1 (Nat.le_add_right _ _), hb1, hb2, ?_, ?_, hS1⟩
  · show va_P D mz_cl (mw_w C M2 z0 (z.1 + 1 - z0)) H1
    rw [show z.1 + 1 - z0 = (z.1 - z0) + 1 by omega]
    refine mw_P fun a h2 h3 => ?_
    by_cases ha : a = z.1
    · subst ha
      rw [he]
      exact hP1 _ _ hlast
    · rw [ho a ha]
      exact hP1 (a - z0) _ (by rw [List.getElem?_append_left (by omega)]; exact mw_get h2 (by omega))
  · intro a ha
    show z0 ≤ a ∧ a < z0 + (z.1 + 1 - z0)
    by_cases hb : a = z.1
    · omega
    · rw [hk a hb] at ha
      have h4 := g.kz a ha
      omega
theorem ms_new {K : mz_K} {d : Nat} {Y : mz_Y} {zs B : Nat × Nat} {Q : mz_P} {pc : Nat} {L st : List Value} {M : mz_M} {z : Nat × Nat} (X : ms_X p l e R s m args below meth c Qw D C z0 sc sa sv K d Y zs B Q) {x c2 r : Nat} (hd : decode Y.2.1 pc = .ok (.new x, 3)) (h6 : c2 < 6) (hq : mz_LT r = some (Y.2.2.2.2.1, x, 4, c2, 0)) (hb1 : z.1 + 1 ≤ B.1) (hb2 : z.2 + mz_cS c2 ≤ B.2) (h : ms_Pw p l e R s m args below meth c Qw D C z0 Y.2.2.1 zs B (pc + 3) L (.ref z.1 :: st) (mz_new M z.1 (10 + c2) (mz_cS c2)) (z.1 + 1, z.2 + mz_cS c2)) : ms_Pw p l e R s m args below meth c Qw D C z0 Y.2.2.1 zs B pc L st M z := by
  intro H locs ls g
  obtain ⟨hx, hb, -, hown, hts, -, hE, -, hs, hz, hR, -⟩ := X
  have h1 := g.2.2.1
  have h2 := g.2.2.2.1
  have hr1 := hR.1
  have hr2 := hR.2.1
  refine va_new (D := D) (own := mz_cN Y.2.2.2.2.1) (ci := c2) (fs := mz_fs (mz_new M z.1 (10 + c2) (mz_cS c2)) c2 z.1) hx hb hts (mw_lay h6) (mz_cY c2) (mz_ty_ok c2 h6) hown (hts _ (mw_lt hq rfl)) (hts _ (mw_mem (mz_all_ins c2 h6))) (hts _ (ms_ini (by omega))) hE.1 g.P mw_D g.S (fun q w => Nat.le_trans hz (by rw [← hs]; exact w)) (mz_cl_at c2 h6) ?_ (by omega) (by omega) hd (fun q H1 hP1 hD1 hS1 => ms_size fun hsz => ?_)
  · intro j hj
    unfold vp_V
    rw [List.getD_eq_getElem?_getD, mw_fsG hj]
    show _ = mz_rd _ _ _ _
    unfold mz_rd mz_new va_up
    cases hi : mz_iR c2 j with
    | true =>
      rcases ms_rty c2 h6 j hj hi with ⟨n, e⟩ | ⟨t, e⟩ <;> rw [e] <;> simp [defaultValue, va_rf]
    | false =>
      have hi2 := hi
      unfold mz_iR at hi2
      cases hy : mz_cY c2 j <;> rw [hy] at hi2 <;> first | (simp [defaultValue]; done) | cases hi2
  · obtain ⟨e1, g2⟩ := ms_born (sl := mz_cS c2) (M2 := mz_new M z.1 (10 + c2) (mz_cS c2)) g hs hz hb1 hb2 hP1 hD1 hS1 hsz (by rw [mw_ko h6 (by unfold mz_kd mz_new va_up; simp)]) mw_oN (fun b hb => by unfold mz_new va_up; simp [hb])
    subst e1
    refine W.cs (cells' := z.1 + 1 - zs.1) (slots' := z.2 + mz_cS c2 - zs.2) (by omega) (by omega) ?_
    exact h H1 locs ls g2
theorem ms_na1 {K : mz_K} {d : Nat} {Y : mz_Y} {zs B : Nat × Nat} {Q : mz_P} {pc : Nat} {L st : List Value} {M : mz_M} {z : Nat × Nat} (X : ms_X p l e R s m args below meth c Qw D C z0 sc sa sv K d Y zs B Q) {n : Int32} {rest : List Value} (hd : decode Y.2.1 pc = .ok (.newarray .int, 2)) (hn : ¬ n < 0) (hm : n.toNatClampNeg ≤ 1000000) (hb1 : z.1 + 1 ≤ B.1) (hb2 : z.2 + n.toNatClampNeg ≤ B.2) (h : ms_Pw p l e R s m args below meth c Qw D C z0 Y.2.2.1 zs B (pc + 2) L (.ref z.1 :: rest) (mz_new M z.1 1 n.toNatClampNeg) (z.1 + 1, z.2 + n.toNatClampNeg)) : ms_Pw p l e R s m args below meth c Qw D C z0 Y.2.2.1 zs B pc L (.int n :: rest) M z := by
  intro H locs ls g
  obtain ⟨hx, hb, -, hown, hts, -, hE, -, hs, hz, hR, -⟩ := X
  have h1 := g.2.2.1
  have h2 := g.2.2.2.1
  have hr1 := hR.1
  have hr2 := hR.2.1
  refine va_newa (atype := .int) (ty := .int) (D := D) (a0 := (n.toNatClampNeg, .inl (fun _ => 0))) hx hb (hts _ (mw_mem mz_mis.2.2.2.2.2.1)) rfl hE.1 g.P mw_D g.S (fun q w => Nat.le_trans hz (by rw [← hs]; exact w)) (fun _ => rfl) hn rfl (by simp only [componentBytes]; omega) (by omega) (by omega) hd (fun q cA H1 hK1 hP1 hD1 hS1 => ms_size fun hsz => ?_)
  have hc : cA = C 1 := Option.some.inj ((hK1.2 5 _ rfl).2.symm.trans (hE.1.2 0 _ rfl).2)
  subst hc
  obtain ⟨e1, g2⟩ := ms_born (sl := n.toNatClampNeg) (M2 := mz_new M z.1 1 n.toNatClampNeg) g hs hz hb1 hb2 hP1 hD1 hS1 hsz (by rw [mw_k1 (by unfold mz_kd mz_new va_up; simp)]; unfold mz_ln mz_new va_up; simp) mw_oN (fun b hb => by unfold mz_new va_up; simp [hb])
  subst e1
  refine W.cs (cells' := z.1 + 1 - zs.1) (slots' := z.2 + n.toNatClampNeg - zs.2) (by omega) (by omega) ?_
  exact h H1 locs ls g2
theorem ms_na2 {K : mz_K} {d : Nat} {Y : mz_Y} {zs B : Nat × Nat} {Q : mz_P} {pc : Nat} {L st : List Value} {M : mz_M} {z : Nat × Nat} (X : ms_X p l e R s m args below meth c Qw D C z0 sc sa sv K d Y zs B Q) {n : Int32} {rest : List Value} (hd : decode Y.2.1 pc = .ok (.newarray .byte, 2)) (hn : ¬ n < 0) (hm : n.toNatClampNeg ≤ 1000000) (hb1 : z.1 + 1 ≤ B.1) (hb2 : z.2 + n.toNatClampNeg ≤ B.2) (h : ms_Pw p l e R s m args below meth c Qw D C z0 Y.2.2.1 zs B (pc + 2) L (.ref z.1 :: rest) (mz_new M z.1 2 n.toNatClampNeg) (z.1 + 1, z.2 + n.toNatClampNeg)) : ms_Pw p l e R s m args below meth c Qw D C z0 Y.2.2.1 zs B pc L (.int n :: rest) M z := by
  intro H locs ls g
  obtain ⟨hx, hb, -, hown, hts, -, hE, -, hs, hz, hR, -⟩ := X
  have h1 := g.2.2.1
  have h2 := g.2.2.2.1
  have hr1 := hR.1
  have hr2 := hR.2.1
  refine va_newa (atype := .byte) (ty := .byte) (D := D) (a0 := (n.toNatClampNeg, .inl (fun _ => 0))) hx hb (hts _ (mw_mem mz_mis.2.2.2.2.2.2.1)) rfl hE.1 g.P mw_D g.S (fun q w => Nat.le_trans hz (by rw [← hs]; exact w)) (fun _ => rfl) hn rfl (by simp only [componentBytes]; omega) (by omega) (by omega) hd (fun q cA H1 hK1 hP1 hD1 hS1 => ms_size fun hsz => ?_)
  have hc : cA = C 2 := Option.some.inj ((hK1.2 5 _ rfl).2.symm.trans (hE.1.2 1 _ rfl).2)
  subst hc
  obtain ⟨e1, g2⟩ := ms_born (sl := n.toNatClampNeg) (M2 := mz_new M z.1 2 n.toNatClampNeg) g hs hz hb1 hb2 hP1 hD1 hS1 hsz (by rw [mw_k2 (by unfold mz_kd mz_new va_up; simp)]; unfold mz_ln mz_new va_up; simp) mw_oN (fun b hb => by unfold mz_new va_up; simp [hb])
  subst e1
  refine W.cs (cells' := z.1 + 1 - zs.1) (slots' := z.2 + n.toNatClampNeg - zs.2) (by omega) (by omega) ?_
  exact h H1 locs ls g2
theorem ms_na3 {K : mz_K} {d : Nat} {Y : mz_Y} {zs B : Nat × Nat} {Q : mz_P} {pc : Nat} {L st : List Value} {M : mz_M} {z : Nat × Nat} (X : ms_X p l e R s m args below meth c Qw D C z0 sc sa sv K d Y zs B Q) {n : Int32} {rest : List Value} (hd : decode Y.2.1 pc = .ok (.newarray .boolean, 2)) (hn : ¬ n < 0) (hm : n.toNatClampNeg ≤ 1000000) (hb1 : z.1 + 1 ≤ B.1) (hb2 : z.2 + n.toNatClampNeg ≤ B.2) (h : ms_Pw p l e R s m args below meth c Qw D C z0 Y.2.2.1 zs B (pc + 2) L (.ref z.1 :: rest) (mz_new M z.1 3 n.toNatClampNeg) (z.1 + 1, z.2 + n.toNatClampNeg)) : ms_Pw p l e R s m args below meth c Qw D C z0 Y.2.2.1 zs B pc L (.int n :: rest) M z := by
  intro H locs ls g
  obtain ⟨hx, hb, -, hown, hts, -, hE, -, hs, hz, hR, -⟩ := X
  have h1 := g.2.2.1
  have h2 := g.2.2.2.1
  have hr1 := hR.1
  have hr2 := hR.2.1
  refine va_newa (atype := .boolean) (ty := .boolean) (D := D) (a0 := (n.toNatClampNeg, .inl (fun _ => 0))) hx hb (hts _ (mw_mem mz_mis.2.2.2.2.2.2.2.1)) rfl hE.1 g.P mw_D g.S (fun q w => Nat.le_trans hz (by rw [← hs]; exact w)) (fun _ => rfl) hn rfl (by simp only [componentBytes]; omega) (by omega) (by omega) hd (fun q cA H1 hK1 hP1 hD1 hS1 => ms_size fun hsz => ?_)
  have hc : cA = C 3 := Option.some.inj ((hK1.2 5 _ rfl).2.symm.trans (hE.1.2 2 _ rfl).2)
  subst hc
  obtain ⟨e1, g2⟩ := ms_born (sl := n.toNatClampNeg) (M2 := mz_new M z.1 3 n.toNatClampNeg) g hs hz hb1 hb2 hP1 hD1 hS1 hsz (by rw [mw_k3 (by unfold mz_kd mz_new va_up; simp)]; unfold mz_ln mz_new va_up; simp) mw_oN (fun b hb => by unfold mz_new va_up; simp [hb])
  subst e1
  refine W.cs (cells' := z.1 + 1 - zs.1) (slots' := z.2 + n.toNatClampNeg - zs.2) (by omega) (by omega) ?_
  exact h H1 locs ls g2
theorem ms_na4 {K : mz_K} {d : Nat} {Y : mz_Y} {zs B : Nat × Nat} {Q : mz_P} {pc : Nat} {L st : List Value} {M : mz_M} {z : Nat × Nat} (X : ms_X p l e R s m args below meth c Qw D C z0 sc sa sv K d Y zs B Q) {n : Int32} {rest : List Value} (hd : decode Y.2.1 pc = .ok (.newarray .long, 2)) (hn : ¬ n < 0) (hm : n.toNatClampNeg ≤ 1000000) (hb1 : z.1 + 1 ≤ B.1) (hb2 : z.2 + n.toNatClampNeg ≤ B.2) (h : ms_Pw p l e R s m args below meth c Qw D C z0 Y.2.2.1 zs B (pc + 2) L (.ref z.1 :: rest) (mz_new M z.1 4 n.toNatClampNeg) (z.1 + 1, z.2 + n.toNatClampNeg)) : ms_Pw p l e R s m args below meth c Qw D C z0 Y.2.2.1 zs B pc L (.int n :: rest) M z := by
  intro H locs ls g
  obtain ⟨hx, hb, -, hown, hts, -, hE, -, hs, hz, hR, -⟩ := X
  have h1 := g.2.2.1
  have h2 := g.2.2.2.1
  have hr1 := hR.1
  have hr2 := hR.2.1
  refine va_newa (atype := .long) (ty := .long) (D := D) (a0 := (n.toNatClampNeg, .inr (.inl (fun _ => 0)))) hx hb (hts _ (mw_mem mz_mis.2.2.2.2.2.2.2.2.1)) rfl hE.1 g.P mw_D g.S (fun q w => Nat.le_trans hz (by rw [← hs]; exact w)) (fun _ => rfl) hn rfl (by simp only [componentBytes]; omega) (by omega) (by omega) hd (fun q cA H1 hK1 hP1 hD1 hS1 => ms_size fun hsz => ?_)
  have hc : cA = C 4 := Option.some.inj ((hK1.2 5 _ rfl).2.symm.trans (hE.1.2 3 _ rfl).2)
  subst hc
  obtain ⟨e1, g2⟩ := ms_born (sl := n.toNatClampNeg) (M2 := mz_new M z.1 4 n.toNatClampNeg) g hs hz hb1 hb2 hP1 hD1 hS1 hsz (by rw [mw_k4 (by unfold mz_kd mz_new va_up; simp)]; unfold mz_ln mz_new va_up; simp) mw_oN (fun b hb => by unfold mz_new va_up; simp [hb])
  subst e1
  refine W.cs (cells' := z.1 + 1 - zs.1) (slots' := z.2 + n.toNatClampNeg - zs.2) (by omega) (by omega) ?_
  exact h H1 locs ls g2
theorem ms_nq {K : mz_K} {d : Nat} {Y : mz_Y} {zs B : Nat × Nat} {Q : mz_P} {pc : Nat} {L st : List Value} {M : mz_M} {z : Nat × Nat} (X : ms_X p l e R s m args below meth c Qw D C z0 sc sa sv K d Y zs B Q) {x r : Nat} {n : Int32} {rest : List Value} (hd : decode Y.2.1 pc = .ok (.anewarray x, 3)) (hq : mz_LT r = some (Y.2.2.2.2.1, x, 4, 2, 0)) (hn : ¬ n < 0) (hm : n.toNatClampNeg ≤ 1000000) (hb1 : z.1 + 1 ≤ B.1) (hb2 : z.2 + n.toNatClampNeg ≤ B.2) (h : ms_Pw p l e R s m args below meth c Qw D C z0 Y.2.2.1 zs B (pc + 3) L (.ref z.1 :: rest) (mz_new M z.1 5 n.toNatClampNeg) (z.1 + 1, z.2 + n.toNatClampNeg)) : ms_Pw p l e R s m args below meth c Qw D C z0 Y.2.2.1 zs B pc L (.int n :: rest) M z := by
  intro H locs ls g
  obtain ⟨hx, hb, -, hown, hts, -, hE, -, hs, hz, hR, -⟩ := X
  have h1 := g.2.2.1
  have h2 := g.2.2.2.1
  have hr1 := hR.1
  have hr2 := hR.2.1
  refine va_newq (C := "RerootStore$Story") (D := D) (own := mz_cN Y.2.2.2.2.1) hx hb hown (hts _ (mw_lt hq rfl)) hE.2.1 hE.1 g.P mw_D g.S (fun q w => Nat.le_trans hz (by rw [← hs]; exact w)) hn rfl (by omega) (by omega) (by omega) hd (fun q cA H1 hK1 hP1 hD1 hS1 => ms_size fun hsz => ?_)
  obtain ⟨kA, comp, -, -, -, f1⟩ := (hK1.2 5 _ rfl).2
  obtain ⟨kA2, comp2, -, -, -, f2⟩ := (hE.1.2 4 _ rfl).2
  have hc : cA = C 5 := Option.some.inj (f1.symm.trans f2)
  subst hc
  obtain ⟨e1, g2⟩ := ms_born (sl := n.toNatClampNeg) (M2 := mz_new M z.1 5 n.toNatClampNeg) g hs hz hb1 hb2 hP1 hD1 hS1 hsz (by rw [mw_k5 (by unfold mz_kd mz_new va_up; simp)]; unfold mz_ln mz_new va_up; simp) mw_oN (fun b hb => by unfold mz_new va_up; simp [hb])
  subst e1
  refine W.cs (cells' := z.1 + 1 - zs.1) (slots' := z.2 + n.toNatClampNeg - zs.2) (by omega) (by omega) ?_
  exact h H1 locs ls g2
end
