-- the static surroundings of a run of a method
def mw_len10 : List Nat := [5, 4, 3, 4, 4, 4, 4, 4, 3, 3]
def mw_byt : List (List Int32) := [[115, 116, 111, 114, 101], [112, 97, 105, 114], [115, 101, 116], [106, 111, 105, 110], [114, 101, 97, 100], [102, 105, 110, 100], [115, 110, 97, 112], [115, 105, 122, 101], [108, 97, 119], [99, 117, 116]]
def mw_E (D : va_G) (C : Nat → ClassId) (z0 : Nat) (sc : Option (Nat × Nat × (Nat → Int32))) (sa sv : Nat → Nat) (U : State) : Prop :=
  va_K D mz_cl (mw_tys C) U ∧ va_AO "RerootStore$Story" U ∧
  (∀ r q, mz_LT r = some q → q.2.2.1 = 3 → vk_R (mz_cN q.1) q.2.1 (mz_str q.2.2.2.1) (sa q.2.2.2.1) U) ∧
  (∀ r q, mz_LT r = some q → q.2.2.1 = 10 → va_Nw (.methodLinkNest (mz_cN q.1) q.2.1 (mz_yD q.2.2.2.1).1 "RerootStore") U) ∧
  vk_S 10 mw_len10 mw_byt sa sv (mw_A z0) U U.heap ∧
  (va_Z "java/lang/String" "COMPACT_STRINGS" "Z" (.int 1) (mw_A z0) U U.heap ∧ va_Zq "jdk/internal/util/Preconditions" "SIOOBE_FORMATTER" "Ljava/util/function/BiFunction;" (mw_A z0) U U.heap) ∧
  (∀ b n f, sc = some (b, n, f) → va_X b n f U U.heap ∧ b < z0 ∧ b < U.heap.size)
theorem mw_E.go {D : va_G} {C : Nat → ClassId} {z0 : Nat} {sc : Option (Nat × Nat × (Nat → Int32))} {sa sv : Nat → Nat} {s U : State} (hW : s.WarmedH U.vm) (hz : s.heap.size ≤ U.heap.size) (hq : ∀ q : Nat, q < s.heap.size → ¬ mw_A z0 q → U.heap[q]? = s.heap[q]?) (h : mw_E D C z0 sc sa sv s) : mw_E D C z0 sc sa sv U := by
  obtain ⟨h1, h2, h3, h4, h5, h6, h7⟩ := h
  refine ⟨va_K.moved hW.alike h1, va_AO.moved hW.alike h2, fun r q a b => vk_R.warm hW (h3 r q a b), fun r q a b => va_Nw.warmM hW (h4 r q a b), vk_S.moved hW.alike (vk_S.kept h5 hq), ⟨va_Z.moved hW.alike (va_Z.kept h6.1 hq), va_Zq.moved hW.alike (va_Zq.kept h6.2 hq)⟩, fun b n f e => ?_⟩
  obtain ⟨k1, k2, k3⟩ := h7 b n f e
  exact ⟨va_X.moved hW.alike (va_X.kept k1 (hq b k3 (fun w => absurd k2 (Nat.not_lt.mpr w)))), k2, Nat.lt_of_lt_of_le k3 hz⟩
theorem mw_E.same {D : va_G} {C : Nat → ClassId} {z0 : Nat} {sc : Option (Nat × Nat × (Nat → Int32))} {sa sv : Nat → Nat} {u U : State} (hv : U.vm = u.vm) (hh : U.heap = u.heap) (h : mw_E D C z0 sc sa sv u) : mw_E D C z0 sc sa sv U := by
  obtain ⟨h1, h2, h3, h4, h5, h6, h7⟩ := h
  have ha : u.vm.Alike U.vm := by rw [hv]; exact Vm.Alike.refl _
  refine ⟨va_K.moved ha h1, va_AO.moved ha h2, fun r q a b => vk_R.same hv (h3 r q a b), fun r q a b => va_Nw.same rfl hv.symm (h4 r q a b), ?_, ?_, fun b n f e => ?_⟩
  · rw [hh]; exact vk_S.moved ha h5
  · rw [hh]; exact ⟨va_Z.moved ha h6.1, va_Zq.moved ha h6.2⟩
  · rw [hh]
    obtain ⟨k1, k2, k3⟩ := h7 b n f e
    exact ⟨va_X.moved ha k1, k2, k3⟩
def mw_Ts : List Cond := lw_tbl.filter goodWord
theorem mw_mem {p : Nat} {w : Cond} (h : mz_in p w = true) : w ∈ mw_Ts := by
  simp only [mz_in, Bool.and_eq_true, decide_eq_true_eq] at h
  exact List.mem_filter.mpr ⟨List.mem_of_getElem? h.1, h.2⟩
theorem mw_lt {r : Nat} {q : Nat × Nat × Nat × Nat × Nat} (h : mz_LT r = some q) (hg : mz_gt q = true) : mz_wd q ∈ mw_Ts := List.mem_filter.mpr ⟨(mz_LT_in h).1, (mz_LT_in h).2 hg⟩
theorem mw_q {r own x tag a b : Nat} (h : mz_q r own x tag a b = true) : mz_LT r = some (own, x, tag, a, b) := by
  unfold mz_q at h
  split at h
  · rename_i q1 q2 q3 q4 q5 e
    simp only [Bool.and_eq_true, Nat.beq_eq] at h
    obtain ⟨⟨⟨⟨rfl, rfl⟩, rfl⟩, rfl⟩, rfl⟩ := h
    exact e
  · cases h
theorem mw_lay {c : Nat} (hc : c < 6) : ∀ w ∈ u_ws (mz_cN c) (mz_cF c) (mz_cS c), w ∈ mw_Ts := by
  intro w hw
  obtain ⟨j, hj, rfl⟩ := List.mem_map.mp hw
  exact mw_mem (mz_lay_ok c hc j (List.mem_range.mp hj))
-- contracts
def mw_Pc (D : va_G) (C : Nat → ClassId) (z0 : Nat) (sc : Option (Nat × Nat × (Nat → Int32))) (sa sv : Nat → Nat) (args : List Value) (M : mz_M) (z : Nat × Nat) : Array Value → State → Prop := fun v U =>
  v = args.toArray ∧ mw_E D C z0 sc sa sv U ∧ U.heap.size = z.1 ∧ z0 ≤ z.1 ∧ va_P D mz_cl (mw_w C M z0 (z.1 - z0)) U.heap ∧ mw_kz z0 (z.1 - z0) M
def mw_Qc (D : va_G) (C : Nat → ClassId) (z0 : Nat) (Q : mz_P) (z' : Nat × Nat) : Array Value → State → Outcome → State → Prop := fun _ st oc t =>
  (∃ r M', oc = .returned r ∧ Q r M' ∧ t.heap.size = z'.1 ∧ va_P D mz_cl (mw_w C M' z0 (z'.1 - z0)) t.heap ∧ mw_kz z0 (z'.1 - z0) M') ∧ va_F (mw_A z0) st t
def mw_rm (d : Nat) (z z' : Nat × Nat) : Room := { frames := d, cells := z'.1 - z.1, slots := z'.2 - z.2, locals := 39 * d }
def mw_y (y : Nat) : MethodName × ByteArray × Nat × Option FieldType := match y with
  | 400 => (⟨"java/lang/String", "length", "()I"⟩, prog_10_method_54_code, 1, some .int)
  | 401 => (⟨"java/lang/String", "charAt", "(I)C"⟩, prog_10_method_56_code, 2, some .char)
  | y => ((mz_yD y).1, (mz_yD y).2.1, (mz_yD y).2.2.1, (mz_yD y).2.2.2.1)
theorem mw_y_of {y : Nat} (h : y < 292) : mw_y y = ((mz_yD y).1, (mz_yD y).2.1, (mz_yD y).2.2.1, (mz_yD y).2.2.2.1) := by
  unfold mw_y
  split
  · omega
  · omega
  · rfl
def mw_Met (l : Launch) (D : va_G) (C : Nat → ClassId) (z0 : Nat) (sc : Option (Nat × Nat × (Nat → Int32))) (sa sv : Nat → Nat) (d y : Nat) (args : List Value) (M : mz_M) (z z' : Nat × Nat) (Q : mz_P) : Prop :=
  Met l (mw_y y).1 (.code (mw_y y).1 (mw_y y).2.1 (mw_y y).2.2.1 (mw_y y).2.2.2 :: mw_Ts) (mw_rm d z z') (mw_Pc D C z0 sc sa sv args M z) (mw_Qc D C z0 Q z') (z'.1 - z.1) (z'.2 - z.2) (mw_A z0)
theorem mw_blind {D : va_G} {C : Nat → ClassId} {z0 : Nat} {sc : Option (Nat × Nat × (Nat → Int32))} {sa sv : Nat → Nat} {args : List Value} {M : mz_M} {z : Nat × Nat} : FrameBlind (mw_Pc D C z0 sc sa sv args M z) := fun a U g mk q => ⟨q.1, mw_E.same (u := U) rfl rfl q.2.1, q.2.2⟩
theorem mz_pI_e {st : List Value} {f : Int32 → List Value → Prop} (h : mz_pI st f) : ∃ x r, st = .int x :: r ∧ f x r := by
  unfold mz_pI at h
  split at h
  · exact ⟨_, _, rfl, h⟩
  · exact h.elim
theorem mz_pJ_e {st : List Value} {f : Int64 → List Value → Prop} (h : mz_pJ st f) : ∃ x r, st = .long x :: r ∧ f x r := by
  unfold mz_pJ at h
  split at h
  · exact ⟨_, _, rfl, h⟩
  · exact h.elim
theorem mz_pR_e {st : List Value} {f : Nat → List Value → Prop} (h : mz_pR st f) : ∃ x r, st = .ref x :: r ∧ f x r := by
  unfold mz_pR at h
  split at h
  · exact ⟨_, _, rfl, h⟩
  · exact h.elim
theorem mz_pV_e {st : List Value} {f : Value → List Value → Prop} (h : mz_pV st f) : ∃ x r, st = x :: r ∧ f x r := by
  unfold mz_pV at h
  split at h
  · exact ⟨_, _, rfl, h⟩
  · exact h.elim
theorem mz_pA_e {st : List Value} {f : Value → List Value → Prop} (h : mz_pA st f) : ∃ x r, st = x :: r ∧ f x r ∧ (x = .null ∨ ∃ a, x = .ref a) := by
  unfold mz_pA at h
  split at h
  · exact ⟨_, _, rfl, h, Or.inr ⟨_, rfl⟩⟩
  · exact ⟨_, _, rfl, h, Or.inl rfl⟩
  · exact h.elim
theorem mz_gI_e {o : Option Value} {f : Int32 → Prop} (h : mz_gI o f) : ∃ x, o = some (.int x) ∧ f x := by
  unfold mz_gI at h
  split at h
  · exact ⟨_, rfl, h⟩
  · exact h.elim
theorem mz_gJ_e {o : Option Value} {f : Int64 → Prop} (h : mz_gJ o f) : ∃ x, o = some (.long x) ∧ f x := by
  unfold mz_gJ at h
  split at h
  · exact ⟨_, rfl, h⟩
  · exact h.elim
theorem mz_gR_e {o : Option Value} {f : Nat → Prop} (h : mz_gR o f) : ∃ x, o = some (.ref x) ∧ f x := by
  unfold mz_gR at h
  split at h
  · exact ⟨_, rfl, h⟩
  · exact h.elim
theorem mz_gA_e {o : Option Value} {f : Value → Prop} (h : mz_gA o f) : ∃ x, o = some x ∧ f x ∧ (x = .null ∨ ∃ a, x = .ref a) := by
  unfold mz_gA at h
  split at h
  · exact ⟨_, rfl, h, Or.inr ⟨_, rfl⟩⟩
  · exact ⟨_, rfl, h, Or.inl rfl⟩
  · exact h.elim
theorem mz_t1_e {tg : List Nat} {f : Nat → Prop} (h : mz_t1 tg f) : ∃ a, tg = [a] ∧ f a := by
  unfold mz_t1 at h
  split at h
  · exact ⟨_, rfl, h⟩
  · exact h.elim
theorem mz_t2_e {tg : List Nat} {f : Nat → Nat → Prop} (h : mz_t2 tg f) : ∃ a b, tg = [a, b] ∧ f a b := by
  unfold mz_t2 at h
  split at h
  · exact ⟨_, _, rfl, h⟩
  · exact h.elim
theorem mz_t3_e {tg : List Nat} {f : Nat → Nat → Nat → Prop} (h : mz_t3 tg f) : ∃ a b c, tg = [a, b, c] ∧ f a b c := by
  unfold mz_t3 at h
  split at h
  · exact ⟨_, _, _, rfl, h⟩
  · exact h.elim
theorem mz_t5_e {tg : List Nat} {f : Nat → Nat → Nat → Nat → Nat → Prop} (h : mz_t5 tg f) : ∃ a b c d e, tg = [a, b, c, d, e] ∧ f a b c d e := by
  unfold mz_t5 at h
  split at h
  · exact ⟨_, _, _, _, _, rfl, h⟩
  · exact h.elim
theorem mz_lk_mem {t : List mz_En} {pc : Nat} {e : Instr × Nat × List Nat} (h : mz_lk t pc = some e) : (pc, e) ∈ t := by
  induction t with
  | nil => cases h
  | cons a r ih =>
    unfold mz_lk at h
    cases hb : Nat.beq a.1 pc with
    | true =>
      rw [hb, cond_true] at h
      cases h
      have h2 := Nat.eq_of_beq_eq_true hb
      subst h2
      exact List.mem_cons_self
    | false =>
      rw [hb, cond_false] at h
      exact List.mem_cons_of_mem _ (ih h)
