def R_law : String := "RerootStoreLaw"
def lw_P (b : Addr) (xs : List Int32) (args : Array Value) (s : State) : Prop := args = #[.ref b] ∧ s.IntsAt b xs ∧ xs.length ≤ 3072 ∧ (Jvm.Cond.and given_1 narrow_1).before args s = true
def lw_Q (_ : Array Value) (s : State) (o : Outcome) (t : State) : Prop := o = .returned (some (.int 1)) ∧ Framed s o t [] 600000 7302250
def lw_Z (below : List Frame) (a : Array Value) (s : State) : State → Prop := fun t => ∃ o, t.status = .running ∧ Ended t below o ∧ lw_Q a s o t
/-- the law's own end, with 1 on the stack, nothing written that was there before, its room as the claim has it -/
theorem lw_ret {p : Program} {l : Launch} {e : Env} {s : State} {m : MethodId} {below : List Frame} {meth : Method} {c : Code} {b : Nat} (hx : p.tables.exec = Jvm.exec) (hb : c.code = code) (hr : meth.sig.returnType = ret) (hlocks : meth.locks = false) {pc : Nat} {H : Heap} {ls : Array Slot} (hdg : decode code pc = .ok (.ireturn, 1)) : W p l e room_1 s m #[Value.ref b] below meth c H [] 600000 7302250 (lw_Z below #[Value.ref b] s) (F0 m pc ls [.int 1]) := by
  intro T hT X
  obtain ⟨fs, hret, hrun, hended, hW, hframe⟩ := X.leave (v := some (.int 1)) (hlocks := hlocks) (fun h => by rw [hr] at h; cases h)
  have hmeth' : T.vm.method? m = some meth := X.method'
  refine ⟨T.setFrames fs, ?_, .returned (some (.int 1)), hrun, hended, rfl, ⟨_, rfl⟩, hW, hframe⟩
  jvm_step X.here [X.here.top, hx, hb, hdg, hmeth', hr, ret, narrow_b1]
  (try refine ⟨rfl, ?_⟩); (try refine ⟨rfl, ?_⟩)
  first | (intro acts; rw [hret _ acts rfl rfl rfl]) | rw [hret _ _ rfl rfl rfl]
  exact Steps.refl _
/-- what holds at the law's entry: the machine, the code, the tables' words (any of lw_tbl by 'hts w (by decide +kernel)'), the script of L ints xs at the cell b, what the Statement gives of the start (any of its parts by flat_of_before) -/
def lw_At (p : Program) (s : State) (m : MethodId) (meth : Method) (c : Code) (b L : Nat) (xs : Nat → Int32) : Prop :=
  p.tables.exec = Jvm.exec ∧ c.code = code ∧ meth.sig.returnType = ret ∧ c.maxLocals = 4 ∧ s.vm.findClass R_law = some m.cls ∧ (∀ w ∈ lw_tbl, w.before #[Value.ref b] s = true) ∧ va_X b L xs s s.heap ∧ b < s.heap.size ∧ meth.locks = false ∧ (Jvm.Cond.and given_1 narrow_1).before #[Value.ref b] s = true
def wh_ti : List Nat := [115, 117, 119, 121, 123, 125, 127, 154, 163, 165]
def wh_mi : List Nat := [228, 268, 251, 252, 253, 254, 255, 230, 236, 237]
def wh_tm (i : Nat) : Term := .string "RerootStore$Tape" (wh_ti.getD i 0)
def wh_tn (i : Nat) : Term := .string "RerootStoreModel" (wh_mi.getD i 0)
def wh_ck (e : (Nat × Nat × Nat × Nat × Nat) × Nat) : Bool := !(Nat.beq e.1.2.2.1 3) || (Nat.blt e.1.2.2.2.1 10 && ((Nat.beq e.1.1 3 && Nat.beq e.1.2.1 (wh_ti.getD e.1.2.2.2.1 0)) || (Nat.beq e.1.1 5 && Nat.beq e.1.2.1 (wh_mi.getD e.1.2.2.2.1 0))))
theorem wh_0 : mz_LT_0.all wh_ck = true := by decide +kernel
theorem wh_1 : mz_LT_1.all wh_ck = true := by decide +kernel
theorem wh_2 : mz_LT_2.all wh_ck = true := by decide +kernel
theorem wh_3 : mz_LT_3.all wh_ck = true := by decide +kernel
theorem wh_LT {r : Nat} {q : Nat × Nat × Nat × Nat × Nat} (h : mz_LT r = some q) (ht : q.2.2.1 = 3) : q.2.2.2.1 < 10 ∧ ((q.1 = 3 ∧ q.2.1 = wh_ti.getD q.2.2.2.1 0) ∨ (q.1 = 5 ∧ q.2.1 = wh_mi.getD q.2.2.2.1 0)) := by
  have key : ∀ (l : List ((Nat × Nat × Nat × Nat × Nat) × Nat)) (k : Nat), l.all wh_ck = true → (l[k]?).map (fun q => q.1) = some q → q.2.2.2.1 < 10 ∧ ((q.1 = 3 ∧ q.2.1 = wh_ti.getD q.2.2.2.1 0) ∨ (q.1 = 5 ∧ q.2.1 = wh_mi.getD q.2.2.2.1 0)) := by
    intro l k hl hk
    obtain ⟨e, he, rfl⟩ := Option.map_eq_some_iff.mp hk
    have h1 := List.all_eq_true.mp hl e (List.mem_of_getElem? he)
    unfold wh_ck at h1
    rw [ht] at h1
    have h2 : (Nat.blt e.1.2.2.2.1 10 && ((Nat.beq e.1.1 3 && Nat.beq e.1.2.1 (wh_ti.getD e.1.2.2.2.1 0)) || (Nat.beq e.1.1 5 && Nat.beq e.1.2.1 (wh_mi.getD e.1.2.2.2.1 0)))) = true := h1
    rw [Bool.and_eq_true, Bool.or_eq_true, Bool.and_eq_true, Bool.and_eq_true] at h2
    refine ⟨Nat.le_of_ble_eq_true h2.1, ?_⟩
    rcases h2.2 with h3 | h3
    · exact Or.inl ⟨Nat.eq_of_beq_eq_true h3.1, Nat.eq_of_beq_eq_true h3.2⟩
    · exact Or.inr ⟨Nat.eq_of_beq_eq_true h3.1, Nat.eq_of_beq_eq_true h3.2⟩
  unfold mz_LT at h
  split at h
  · exact key _ _ wh_0 h
  · exact key _ _ wh_1 h
  · exact key _ _ wh_2 h
  · exact key _ _ wh_3 h
theorem wh_m1 : ∀ i, i < 10 → Cond.exactly (wh_tm i) "java/lang/String" ∈ flatC (Jvm.Cond.and given_1 narrow_1) := by decide +kernel
theorem wh_m2 : ∀ i, i < 10 → Cond.eq (.field (wh_tm i) "java/lang/String" "coder" "B") (.int 0) ∈ flatC (Jvm.Cond.and given_1 narrow_1) := by decide +kernel
theorem wh_m3 : ∀ i, i < 10 → Cond.arrayOf (.field (wh_tm i) "java/lang/String" "value" "[B") .byte ∈ flatC (Jvm.Cond.and given_1 narrow_1) := by decide +kernel
theorem wh_m4 : ∀ i, i < 10 → Cond.eq (.length (.field (wh_tm i) "java/lang/String" "value" "[B")) (.int (Int32.ofNat (mw_len10.getD i 0))) ∈ flatC (Jvm.Cond.and given_1 narrow_1) := by decide +kernel
theorem wh_m5 : ∀ i, i < 10 → ∀ j, j < mw_len10.getD i 0 → Cond.eq (.elem (.field (wh_tm i) "java/lang/String" "value" "[B") (.int (Int32.ofNat j))) (.int ((mw_byt.getD i []).getD j 0)) ∈ flatC (Jvm.Cond.and given_1 narrow_1) := by decide +kernel
theorem wh_m6 : ∀ i, i < 10 → ∀ j, j < 10 → i ≠ j → Cond.not (Cond.eq (wh_tm i) (wh_tm j)) ∈ flatC (Jvm.Cond.and given_1 narrow_1) ∨ Cond.not (Cond.eq (wh_tm j) (wh_tm i)) ∈ flatC (Jvm.Cond.and given_1 narrow_1) := by decide +kernel
theorem wh_m7 : ∀ i, i < 10 → Cond.eq (wh_tm i) (wh_tn i) ∈ flatC (Jvm.Cond.and given_1 narrow_1) := by decide +kernel
theorem wh_arr {s : State} {cA : ClassId} {kA : Class} {comp : ClassId} {ty : FieldType} (h2 : s.vm.classes[cA]? = some kA) (h3 : kA.kind = .array comp ty) : ArrOfT s cA ty := fun n z => ⟨fun k h => (by cases h), kA, h2, comp, h3⟩
theorem wh_E {s : State} {b L : Nat} {xs : Nat → Int32} (hts : ∀ w ∈ lw_tbl, w.before #[Value.ref b] s = true) (hX : va_X b L xs s s.heap) (hbl : b < s.heap.size) (hgv : (Jvm.Cond.and given_1 narrow_1).before #[Value.ref b] s = true) : ∃ (D : va_G) (C : Nat → ClassId) (sa sv : Nat → Nat), mw_E D C s.heap.size (some (b, L, xs)) sa sv s := by
  have hs := flat_of_before _ hgv
  have hA : ∀ a : Nat, a < s.heap.size → ¬ mw_A s.heap.size a := fun a h q => absurd q (Nat.not_le.mpr h)
  have hT : ∀ w ∈ mw_Ts, w.before #[Value.ref b] s = true := fun w hw => hts w (List.mem_filter.mp hw).1
  obtain ⟨c1, k1, p1, a1, a2, a3⟩ := Cond.arrayClass_spec (args := #[Value.ref b]) (first := s) (o := none) (s := s) (idx := []) (hts (.arrayClass .int) (List.mem_of_getElem? (i := 240) (by decide +kernel)))
  obtain ⟨c2, k2, p2, b1, b2, b3⟩ := Cond.arrayClass_spec (args := #[Value.ref b]) (first := s) (o := none) (s := s) (idx := []) (hts (.arrayClass .byte) (List.mem_of_getElem? (i := 181) (by decide +kernel)))
  obtain ⟨c3, k3, p3, d1, d2, d3⟩ := Cond.arrayClass_spec (args := #[Value.ref b]) (first := s) (o := none) (s := s) (idx := []) (hts (.arrayClass .boolean) (List.mem_of_getElem? (i := 1228) (by decide +kernel)))
  obtain ⟨c4, k4, p4, e1, e2, e3⟩ := Cond.arrayClass_spec (args := #[Value.ref b]) (first := s) (o := none) (s := s) (idx := []) (hts (.arrayClass .long) (List.mem_of_getElem? (i := 239) (by decide +kernel)))
  have hao := hts (.arrayOver (.object "RerootStore$Story")) (List.mem_of_getElem? (i := 183) (by decide +kernel))
  obtain ⟨p5, c5, k5, f1, -, f3, f4, f5⟩ := Cond.arrayOver_spec (args := #[Value.ref b]) (first := s) (o := none) (s := s) (idx := []) hao
  have hKn : ∀ k, ∃ q : ClassId × (Nat → Nat), k < 6 → u_Kn s (mz_cN k) (mz_cF k) (mz_cS k) q.1 q.2 := fun k => by
    by_cases hk : k < 6
    · obtain ⟨cC, iS, h⟩ := u_known (C := mz_cN k) (T := mz_cF k) (N := mz_cS k) hT (mw_lay hk) (hT _ (mw_mem (mz_all_ins k hk)))
      exact ⟨(cC, iS), fun _ => h⟩
    · exact ⟨(c1, fun _ => 0), fun h => absurd h hk⟩
  obtain ⟨dd, hdd⟩ := Classical.axiomOfChoice hKn
  obtain ⟨sa, sv, hvs, hev⟩ := vk_Sof (args := #[Value.ref b]) (s := s) (N := 10) (tm := wh_tm) (len := mw_len10) (byt := mw_byt) (A := mw_A s.heap.size) (by decide +kernel) (fun i hi => hs _ (wh_m1 i hi)) (fun i hi => hs _ (wh_m2 i hi)) (fun i hi => hs _ (wh_m3 i hi)) (fun i hi => hs _ (wh_m4 i hi)) (fun i hi j hj => hs _ (wh_m5 i hi j hj)) (fun i j hi hj hij => (wh_m6 i hi j hj hij).imp (hs _) (hs _)) hA
  have hv : ∀ r q, mz_LT r = some q → q.2.2.1 = 3 → vk_R (mz_cN q.1) q.2.1 (mz_str q.2.2.2.1) (sa q.2.2.2.1) s := by
    intro r q hq ht
    have hm := (mz_LT_in hq).1
    have hw : mz_wd q = .stringRef (mz_cN q.1) q.2.1 (mz_str q.2.2.2.1) := by
      unfold mz_wd
      rw [ht]
      rfl
    rw [hw] at hm
    obtain ⟨h10, hc⟩ := wh_LT hq ht
    refine vk_R.of (hts _ hm) ?_
    rcases hc with ⟨g1, g2⟩ | ⟨g1, g2⟩
    · rw [g1, g2]
      exact hev _ h10
    · rw [g1, g2]
      exact va_eqR (hs _ (wh_m7 _ h10)) (hev _ h10)
  have hn : ∀ r q, mz_LT r = some q → q.2.2.1 = 10 → va_Nw (.methodLinkNest (mz_cN q.1) q.2.1 (mz_yD q.2.2.2.1).1 "RerootStore") s := by
    intro r q hq ht
    have hm := (mz_LT_in hq).1
    have hw : mz_wd q = .methodLinkNest (mz_cN q.1) q.2.1 (mz_yD q.2.2.2.1).1 "RerootStore" := by
      unfold mz_wd
      rw [ht]
      rfl
    rw [hw] at hm
    exact va_tabs rfl rfl (hts _ hm)
  refine ⟨(fun k => (dd k).1, fun k => (dd k).2), fun k => match k with
    | 1 => c1
    | 2 => c2
    | 3 => c3
    | 4 => c4
    | _ => c5, sa, sv, ⟨fun k q hq => ?_, fun k q hq => ?_⟩, va_AO.of hao, hv, hn, hvs, ⟨va_Zof (hts (.laysStatic "java/lang/String" "COMPACT_STRINGS" "Z") (List.mem_of_getElem? (i := 429) (by decide +kernel))) (hts (.initialized "java/lang/String") (List.mem_of_getElem? (i := 117) (by decide +kernel))) (va_eqi (hs _ (by decide +kernel))) hA, va_Zqof (hts (.laysStatic "jdk/internal/util/Preconditions" "SIOOBE_FORMATTER" "Ljava/util/function/BiFunction;") (List.mem_of_getElem? (i := 445) (by decide +kernel))) (hts (.initialized "jdk/internal/util/Preconditions") (List.mem_of_getElem? (i := 119) (by decide +kernel))) (hs _ (by decide +kernel)) hA⟩, fun b' n' f' e' => ?_⟩
  · by_cases hk : k < 6
    · rw [mz_cl_at k hk] at hq
      cases hq
      exact hdd k hk
    · have h6 := (List.getElem?_eq_some_iff.mp hq).1
      exact absurd h6 hk
  · match k, hq with
    | 0, hq => cases hq; exact ⟨wh_arr a2 a3, a1⟩
    | 1, hq => cases hq; exact ⟨wh_arr b2 b3, b1⟩
    | 2, hq => cases hq; exact ⟨wh_arr d2 d3, d1⟩
    | 3, hq => cases hq; exact ⟨wh_arr e2 e3, e1⟩
    | 4, hq => cases hq; exact ⟨wh_arr f3 f4, k5, p5, f3, f4, f1, f5⟩
    | n + 5, hq => exact absurd hq (by simp)
  · cases e'
    exact ⟨hX, hbl, hbl⟩
