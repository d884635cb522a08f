section
variable {p : Program} {l : Launch} {e : Env} {R : Room} {s : State} {m : MethodId} {args : Array Value} {below : List Frame} {meth : Method} {c : Code} {Qw : State → Prop}
variable {D : va_G} {C : Nat → ClassId} {z0 : Nat} {sc : Option (Nat × Nat × (Nat → Int32))} {sa sv : Nat → Nat}
theorem ms_ln {i : Instr} {ln : Nat} (h : mz_ln0 i ln = true) (hi : ∀ a b c d, i ≠ .tableswitch a b c d) : ln = mz_il i := by
  unfold mz_ln0 at h
  split at h
  · exact absurd rfl (hi _ _ _ _)
  · exact Nat.eq_of_beq_eq_true h
theorem ms_jmp {pc : Nat} {off : Int} {t : Nat} (h : mz_jmp pc off [t] = true) : (pc : Int) + off = (t : Int) := of_decide_eq_true h
theorem ms_ldcSW {H : Heap} {locs : List Loc} {cells slots pc : Nat} {ls : Array Slot} {rest : List Value} {cc : ByteArray} (hexec : p.tables.exec = Jvm.exec) (hb : c.code = cc) {own tx : String} {index q : Nat} (hown : s.vm.findClass own = some m.cls) (hZ : vk_R own index tx q s) (hdg : decode cc pc = .ok (.ldc_w index, 3)) (k : W p l e R s m args below meth c H locs cells slots Qw (F0 m (pc + 3) ls (.ref q :: rest))) : W p l e R s m args below meth c H locs cells slots Qw (F0 m pc ls rest) := by
  intro T hT X
  obtain ⟨t, a1, b1⟩ := k T hT X
  exact ⟨t, X.ldcStringW hexec hown (text := tx) (a := q) hZ.1 hZ.2 (g := F0 m pc ls rest) rfl (by rw [hb]; exact hdg) t a1, b1⟩
theorem ms_l1 {K : mz_K} {d : Nat} {Y : mz_Y} {zs B : Nat × Nat} {Q : mz_P} {pc : Nat} {L st : List Value} {M : mz_M} {z : Nat × Nat} (X : ms_X p l e R s m args below meth c Qw D C z0 sc sa sv K d Y zs B Q) {x r w : Nat} (hd : decode Y.2.1 pc = .ok (.ldc x, 2)) (hq : mz_LT r = some (Y.2.2.2.2.1, x, 1, w, 0)) (h : ms_Pw p l e R s m args below meth c Qw D C z0 Y.2.2.1 zs B (pc + 2) L (.int (Int32.ofNat w) :: st) M z) : ms_Pw p l e R s m args below meth c Qw D C z0 Y.2.2.1 zs B pc L st M z := by
  intro H locs ls g
  obtain ⟨hx, hb, -, hown, hts, -, hE, -⟩ := X
  exact lv_ldc hx hb hown (hts _ (mw_lt hq rfl)) hd (h H locs ls g)
theorem ms_l2 {K : mz_K} {d : Nat} {Y : mz_Y} {zs B : Nat × Nat} {Q : mz_P} {pc : Nat} {L st : List Value} {M : mz_M} {z : Nat × Nat} (X : ms_X p l e R s m args below meth c Qw D C z0 sc sa sv K d Y zs B Q) {x r w : Nat} (hd : decode Y.2.1 pc = .ok (.ldc x, 2)) (hq : mz_LT r = some (Y.2.2.2.2.1, x, 3, w, 0)) (h : ms_Pw p l e R s m args below meth c Qw D C z0 Y.2.2.1 zs B (pc + 2) L (.ref (sa w) :: st) M z) : ms_Pw p l e R s m args below meth c Qw D C z0 Y.2.2.1 zs B pc L st M z := by
  intro H locs ls g
  obtain ⟨hx, hb, -, hown, hts, -, hE, -⟩ := X
  have hZ : vk_R (mz_cN Y.2.2.2.2.1) x (mz_str w) (sa w) s := hE.2.2.1 r (Y.2.2.2.2.1, x, 3, w, 0) hq rfl
  exact va_ldcS hx hb hown hZ hd (h H locs ls g)
theorem ms_l3 {K : mz_K} {d : Nat} {Y : mz_Y} {zs B : Nat × Nat} {Q : mz_P} {pc : Nat} {L st : List Value} {M : mz_M} {z : Nat × Nat} (X : ms_X p l e R s m args below meth c Qw D C z0 sc sa sv K d Y zs B Q) {x r w : Nat} (hd : decode Y.2.1 pc = .ok (.ldc_w x, 3)) (hq : mz_LT r = some (Y.2.2.2.2.1, x, 1, w, 0)) (h : ms_Pw p l e R s m args below meth c Qw D C z0 Y.2.2.1 zs B (pc + 3) L (.int (Int32.ofNat w) :: st) M z) : ms_Pw p l e R s m args below meth c Qw D C z0 Y.2.2.1 zs B pc L st M z := by
  intro H locs ls g
  obtain ⟨hx, hb, -, hown, hts, -, hE, -⟩ := X
  exact lv_ldcw hx hb hown (hts _ (mw_lt hq rfl)) hd (h H locs ls g)
theorem ms_l4 {K : mz_K} {d : Nat} {Y : mz_Y} {zs B : Nat × Nat} {Q : mz_P} {pc : Nat} {L st : List Value} {M : mz_M} {z : Nat × Nat} (X : ms_X p l e R s m args below meth c Qw D C z0 sc sa sv K d Y zs B Q) {x r w : Nat} (hd : decode Y.2.1 pc = .ok (.ldc_w x, 3)) (hq : mz_LT r = some (Y.2.2.2.2.1, x, 3, w, 0)) (h : ms_Pw p l e R s m args below meth c Qw D C z0 Y.2.2.1 zs B (pc + 3) L (.ref (sa w) :: st) M z) : ms_Pw p l e R s m args below meth c Qw D C z0 Y.2.2.1 zs B pc L st M z := by
  intro H locs ls g
  obtain ⟨hx, hb, -, hown, hts, -, hE, -⟩ := X
  have hZ : vk_R (mz_cN Y.2.2.2.2.1) x (mz_str w) (sa w) s := hE.2.2.1 r (Y.2.2.2.2.1, x, 3, w, 0) hq rfl
  exact ms_ldcSW hx hb hown hZ hd (h H locs ls g)
theorem ms_l5 {K : mz_K} {d : Nat} {Y : mz_Y} {zs B : Nat × Nat} {Q : mz_P} {pc : Nat} {L st : List Value} {M : mz_M} {z : Nat × Nat} (X : ms_X p l e R s m args below meth c Qw D C z0 sc sa sv K d Y zs B Q) {x r w : Nat} (hd : decode Y.2.1 pc = .ok (.ldc2_w x, 3)) (hq : mz_LT r = some (Y.2.2.2.2.1, x, 2, w, 0)) (h : ms_Pw p l e R s m args below meth c Qw D C z0 Y.2.2.1 zs B (pc + 3) L (.long (Int64.ofNat w) :: st) M z) : ms_Pw p l e R s m args below meth c Qw D C z0 Y.2.2.1 zs B pc L st M z := by
  intro H locs ls g
  obtain ⟨hx, hb, -, hown, hts, -, hE, -⟩ := X
  exact lv_ldc2 hx hb hown (hts _ (mw_lt hq rfl)) hd (h H locs ls g)
theorem ms_pfm {K : mz_K} {d : Nat} {Y : mz_Y} {zs B : Nat × Nat} {Q : mz_P} {pc : Nat} {L st : List Value} {M : mz_M} {z : Nat × Nat} (X : ms_X p l e R s m args below meth c Qw D C z0 sc sa sv K d Y zs B Q) {x c2 j r a : Nat} {rest : List Value} {v : Value} (hd : decode Y.2.1 pc = .ok (.putfield x, 3)) (h6 : c2 < 6) (hj : j < mz_cS c2) (hq : mz_LT r = some (Y.2.2.2.2.1, x, 0, c2, j)) (hk : mz_kd M a = 10 + c2) (hf : (mz_cF c2 j).2.2.2 = true → Y.2.2.2.2.2.1 = true ∧ Y.2.2.2.2.1 = c2) (h : match v with | .int x => mz_iR c2 j = false ∧ narrow (mz_cY c2 j) (.int x) = .int x ∧ fits (mz_cY c2 j) (.int x) = true ∧ ms_Pw p l e R s m args below meth c Qw D C z0 Y.2.2.1 zs B (pc + 3) L rest (mz_uI M a j x) z | .ref x => mz_iR c2 j = true ∧ ms_Pw p l e R s m args below meth c Qw D C z0 Y.2.2.1 zs B (pc + 3) L rest (mz_uR M a j (some x)) z | _ => False) : ms_Pw p l e R s m args below meth c Qw D C z0 Y.2.2.1 zs B pc L (v :: .ref a :: rest) M z := by
  cases v
  case int xv =>
    obtain ⟨k1, k2, k3, h⟩ := h
    exact ms_pf (st := rest) X hd h6 hj hq hk hf k2 k3 (mw_fsI hj k1) (fun _ => rfl) mw_oI h
  case ref xv =>
    obtain ⟨k1, h⟩ := h
    refine ms_pf (st := rest) (M2 := mz_uR M a j (some xv)) X hd h6 hj hq hk hf ?_ ?_ (mw_fsR hj k1) (fun _ => rfl) mw_oR h
    · rcases ms_rty c2 h6 j hj k1 with ⟨n, w⟩ | ⟨t, w⟩ <;> rw [w] <;> rfl
    · rcases ms_rty c2 h6 j hj k1 with ⟨n, w⟩ | ⟨t, w⟩ <;> rw [w] <;> rfl
  all_goals exact h.elim
set_option maxHeartbeats 40000000 in
theorem ms_step {K : mz_K} {d : Nat} {Y : mz_Y} {zs B : Nat × Nat} {Q : mz_P} (X : ms_X p l e R s m args below meth c Qw D C z0 sc sa sv K d Y zs B Q) : ∀ (pc : Nat) (L st : List Value) (M : mz_M) (z : Nat × Nat), mz_nx sc sa K d Y B Q (ms_Pw p l e R s m args below meth c Qw D C z0 Y.2.2.1 zs B) pc L st M z → ms_Pw p l e R s m args below meth c Qw D C z0 Y.2.2.1 zs B pc L st M z := by
  intro pc L st M z h
  have XX := X
  obtain ⟨hx, hb, hml, hown, hts, hin, hE, hck, hs, hz, hR, hKs, hend⟩ := XX
  unfold mz_nx at h
  split at h
  · exact h.elim
  rename_i ent hent
  obtain ⟨i, ln, tg⟩ := ent
  have hc0 := List.all_eq_true.mp hck _ (mz_lk_mem hent)
  simp only [Bool.and_eq_true, decide_eq_true_eq] at hc0
  obtain ⟨⟨hd, hl0⟩, ck⟩ := hc0
  replace h : mz_stp sc sa K d Y B Q (ms_Pw p l e R s m args below meth c Qw D C z0 Y.2.2.1 zs B) i tg pc L st M z := h
  have hln : (∀ a b c d, i ≠ .tableswitch a b c d) → ln = mz_il i := ms_ln hl0
  clear hl0 hck hent
  cases i
  case iconst =>
    have hl := hln (fun _ _ _ _ h9 => by cases h9)
    subst hl
    intro H locs ls g
    exact lv_iconst hx hb hd rfl (h H locs ls g)
  case bipush =>
    have hl := hln (fun _ _ _ _ h9 => by cases h9)
    subst hl
    intro H locs ls g
    exact lv_bipush hx hb hd rfl (h H locs ls g)
  case sipush =>
    have hl := hln (fun _ _ _ _ h9 => by cases h9)
    subst hl
    intro H locs ls g
    exact lv_sipush hx hb hd rfl (h H locs ls g)
  case lconst =>
    have hl := hln (fun _ _ _ _ h9 => by cases h9)
    subst hl
    intro H locs ls g
    exact lv_lconst hx hb hd rfl (h H locs ls g)
  case aconst_null =>
    have hl := hln (fun _ _ _ _ h9 => by cases h9)
    subst hl
    intro H locs ls g
    exact lv_null hx hb hd (h H locs ls g)
  case iload =>
    have hl := hln (fun _ _ _ _ h9 => by cases h9)
    subst hl
    obtain ⟨x, hx1, h⟩ := mz_gI_e h
    intro H locs ls g
    exact lv_iload hx hb hd (g.1.2.2 _ _ hx1 rfl) (h H locs ls g)
  case iload_n =>
    have hl := hln (fun _ _ _ _ h9 => by cases h9)
    subst hl
    obtain ⟨x, hx1, h⟩ := mz_gI_e h
    intro H locs ls g
    exact lv_iload_n hx hb hd rfl (g.1.2.2 _ _ hx1 rfl) (h H locs ls g)
  case lload =>
    have hl := hln (fun _ _ _ _ h9 => by cases h9)
    subst hl
    obtain ⟨x, hx1, h⟩ := mz_gJ_e h
    intro H locs ls g
    exact lv_lload hx hb hd (g.1.2.2 _ _ hx1 rfl) (h H locs ls g)
  case lload_n =>
    have hl := hln (fun _ _ _ _ h9 => by cases h9)
    subst hl
    obtain ⟨x, hx1, h⟩ := mz_gJ_e h
    intro H locs ls g
    exact lv_lload_n hx hb hd rfl (g.1.2.2 _ _ hx1 rfl) (h H locs ls g)
  case aload =>
    have hl := hln (fun _ _ _ _ h9 => by cases h9)
    subst hl
    obtain ⟨v, hx1, h, ho⟩ := mz_gA_e (f := fun x => ms_Pw p l e R s m args below meth c Qw D C z0 Y.2.2.1 zs B (pc + 2) L (x :: st) M z) h
    intro H locs ls g
    rcases ho with rfl | ⟨a, rfl⟩
    · exact lv_aloadN hx hb hd (g.1.2.2 _ _ hx1 rfl) (h H locs ls g)
    · exact lv_aload hx hb hd (g.1.2.2 _ _ hx1 rfl) (h H locs ls g)
  case aload_n =>
    have hl := hln (fun _ _ _ _ h9 => by cases h9)
    subst hl
    obtain ⟨v, hx1, h, ho⟩ := mz_gA_e (f := fun x => ms_Pw p l e R s m args below meth c Qw D C z0 Y.2.2.1 zs B (pc + 1) L (x :: st) M z) h
    intro H locs ls g
    rcases ho with rfl | ⟨a, rfl⟩
    · exact lv_aload_nN hx hb hd rfl (g.1.2.2 _ _ hx1 rfl) (h H locs ls g)
    · exact lv_aload_n hx hb hd rfl (g.1.2.2 _ _ hx1 rfl) (h H locs ls g)
  case istore =>
    have hl := hln (fun _ _ _ _ h9 => by cases h9)
    subst hl
    obtain ⟨x, r, rfl, hj, h⟩ := mz_pI_e h
    intro H locs ls g
    exact lv_istore hx hb hd g.1.has hj rfl (fun ls2 hl2 => h H locs ls2 (g.loc (mw_L1 hj hl2) mw_s1l))
  case istore_n =>
    have hl := hln (fun _ _ _ _ h9 => by cases h9)
    subst hl
    obtain ⟨x, r, rfl, hj, h⟩ := mz_pI_e h
    intro H locs ls g
    exact lv_istore_n hx hb hd rfl g.1.has hj rfl (fun ls2 hl2 => h H locs ls2 (g.loc (mw_L1 hj hl2) mw_s1l))
  case lstore =>
    have hl := hln (fun _ _ _ _ h9 => by cases h9)
    subst hl
    obtain ⟨x, r, rfl, hj, h⟩ := mz_pJ_e h
    intro H locs ls g
    exact lv_lstore hx hb hd g.1.has hj rfl (fun ls2 hl2 => h H locs ls2 (g.loc (mw_L2 hj hl2) (by unfold mz_st2; rw [List.length_set, mw_s1l])))
  case lstore_n =>
    have hl := hln (fun _ _ _ _ h9 => by cases h9)
    subst hl
    obtain ⟨x, r, rfl, hj, h⟩ := mz_pJ_e h
    intro H locs ls g
    exact lv_lstore_n hx hb hd rfl g.1.has hj rfl (fun ls2 hl2 => h H locs ls2 (g.loc (mw_L2 hj hl2) (by unfold mz_st2; rw [List.length_set, mw_s1l])))
  case astore j =>
    have hl := hln (fun _ _ _ _ h9 => by cases h9)
    subst hl
    obtain ⟨v, r, rfl, ⟨hj, h⟩, ho⟩ := mz_pA_e (f := fun x r => (j : Nat) < L.length ∧ ms_Pw p l e R s m args below meth c Qw D C z0 Y.2.2.1 zs B (pc + 2) (mz_st1 L j x) r M z) h
    intro H locs ls g
    rcases ho with rfl | ⟨a, rfl⟩
    · exact lv_astoreN hx hb hd g.1.has hj rfl (fun ls2 hl2 => h H locs ls2 (g.loc (mw_L1 hj hl2) mw_s1l))
    · exact lv_astore hx hb hd g.1.has hj rfl (fun ls2 hl2 => h H locs ls2 (g.loc (mw_L1 hj hl2) mw_s1l))
  case astore_n j =>
    have hl := hln (fun _ _ _ _ h9 => by cases h9)
    subst hl
    obtain ⟨v, r, rfl, ⟨hj, h⟩, ho⟩ := mz_pA_e (f := fun x r => (j : Nat) < L.length ∧ ms_Pw p l e R s m args below meth c Qw D C z0 Y.2.2.1 zs B (pc + 1) (mz_st1 L j x) r M z) h
    intro H locs ls g
    rcases ho with rfl | ⟨a, rfl⟩
    · exact lv_astore_nN hx hb hd rfl g.1.has hj rfl (fun ls2 hl2 => h H locs ls2 (g.loc (mw_L1 hj hl2) mw_s1l))
    · exact lv_astore_n hx hb hd rfl g.1.has hj rfl (fun ls2 hl2 => h H locs ls2 (g.loc (mw_L1 hj hl2) mw_s1l))
  case iinc =>
    have hl := hln (fun _ _ _ _ h9 => by cases h9)
    subst hl
    obtain ⟨x, hx1, h⟩ := mz_gI_e h
    intro H locs ls g
    obtain ⟨k, hk⟩ := List.getElem?_of_mem (mw_pr_mem.mpr ⟨hx1, rfl⟩)
    have hj := (List.getElem?_eq_some_iff.mp hx1).1
    exact lv_iinc hx hb hd g.1.has hk rfl hj rfl (fun ls2 hl2 => h H locs ls2 (g.loc (mw_L1 hj hl2) mw_s1l))
  case iadd =>
    have hl := hln (fun _ _ _ _ h9 => by cases h9)
    subst hl
    obtain ⟨y, r, rfl, h⟩ := mz_pI_e h
    obtain ⟨x, r, rfl, h⟩ := mz_pI_e h
    intro H locs ls g
    exact lv_iadd hx hb hd (h H locs ls g)
  case isub =>
    have hl := hln (fun _ _ _ _ h9 => by cases h9)
    subst hl
    obtain ⟨y, r, rfl, h⟩ := mz_pI_e h
    obtain ⟨x, r, rfl, h⟩ := mz_pI_e h
    intro H locs ls g
    exact lv_isub hx hb hd (h H locs ls g)
  case imul =>
    have hl := hln (fun _ _ _ _ h9 => by cases h9)
    subst hl
    obtain ⟨y, r, rfl, h⟩ := mz_pI_e h
    obtain ⟨x, r, rfl, h⟩ := mz_pI_e h
    intro H locs ls g
    exact lv_imul hx hb hd (h H locs ls g)
  case iand =>
    have hl := hln (fun _ _ _ _ h9 => by cases h9)
    subst hl
    obtain ⟨y, r, rfl, h⟩ := mz_pI_e h
    obtain ⟨x, r, rfl, h⟩ := mz_pI_e h
    intro H locs ls g
    exact lv_iand hx hb hd (h H locs ls g)
  case ior =>
    have hl := hln (fun _ _ _ _ h9 => by cases h9)
    subst hl
    obtain ⟨y, r, rfl, h⟩ := mz_pI_e h
    obtain ⟨x, r, rfl, h⟩ := mz_pI_e h
    intro H locs ls g
    exact lv_ior hx hb hd (h H locs ls g)
  case ixor =>
    have hl := hln (fun _ _ _ _ h9 => by cases h9)
    subst hl
    obtain ⟨y, r, rfl, h⟩ := mz_pI_e h
    obtain ⟨x, r, rfl, h⟩ := mz_pI_e h
    intro H locs ls g
    exact lv_ixor hx hb hd (h H locs ls g)
  case ishl =>
    have hl := hln (fun _ _ _ _ h9 => by cases h9)
    subst hl
    obtain ⟨y, r, rfl, h⟩ := mz_pI_e h
    obtain ⟨x, r, rfl, h⟩ := mz_pI_e h
    intro H locs ls g
    exact lv_ishl hx hb hd (h H locs ls g)
  case ishr =>
    have hl := hln (fun _ _ _ _ h9 => by cases h9)
    subst hl
    obtain ⟨y, r, rfl, h⟩ := mz_pI_e h
    obtain ⟨x, r, rfl, h⟩ := mz_pI_e h
    intro H locs ls g
    exact lv_ishr hx hb hd (h H locs ls g)
  case idiv =>
    have hl := hln (fun _ _ _ _ h9 => by cases h9)
    subst hl
    obtain ⟨y, r, rfl, h⟩ := mz_pI_e h
    obtain ⟨x, r, rfl, h0, h⟩ := mz_pI_e h
    intro H locs ls g
    exact lv_idiv hx hb hd h0 (h H locs ls g)
  case irem =>
    have hl := hln (fun _ _ _ _ h9 => by cases h9)
    subst hl
    obtain ⟨y, r, rfl, h⟩ := mz_pI_e h
    obtain ⟨x, r, rfl, h0, h⟩ := mz_pI_e h
    intro H locs ls g
    exact lv_irem hx hb hd h0 (h H locs ls g)
  case iushr =>
    have hl := hln (fun _ _ _ _ h9 => by cases h9)
    subst hl
    obtain ⟨y, r, rfl, h⟩ := mz_pI_e h
    obtain ⟨x, r, rfl, h⟩ := mz_pI_e h
    intro H locs ls g
    exact lv_iushr hx hb hd rfl (h H locs ls g)
  case land =>
    have hl := hln (fun _ _ _ _ h9 => by cases h9)
    subst hl
    obtain ⟨y, r, rfl, h⟩ := mz_pJ_e h
    obtain ⟨x, r, rfl, h⟩ := mz_pJ_e h
    intro H locs ls g
    exact lv_land hx hb hd (h H locs ls g)
  case lor =>
    have hl := hln (fun _ _ _ _ h9 => by cases h9)
    subst hl
    obtain ⟨y, r, rfl, h⟩ := mz_pJ_e h
    obtain ⟨x, r, rfl, h⟩ := mz_pJ_e h
    intro H locs ls g
    exact lv_lor hx hb hd (h H locs ls g)
  case lxor =>
    have hl := hln (fun _ _ _ _ h9 => by cases h9)
    subst hl
    obtain ⟨y, r, rfl, h⟩ := mz_pJ_e h
    obtain ⟨x, r, rfl, h⟩ := mz_pJ_e h
    intro H locs ls g
    exact lv_lxor hx hb hd (h H locs ls g)
  case lshl =>
    have hl := hln (fun _ _ _ _ h9 => by cases h9)
    subst hl
    obtain ⟨y, r, rfl, h⟩ := mz_pI_e h
    obtain ⟨x, r, rfl, h⟩ := mz_pJ_e h
    intro H locs ls g
    exact lv_lshl hx hb hd rfl (h H locs ls g)
  case lshr =>
    have hl := hln (fun _ _ _ _ h9 => by cases h9)
    subst hl
    obtain ⟨y, r, rfl, h⟩ := mz_pI_e h
    obtain ⟨x, r, rfl, h⟩ := mz_pJ_e h
    intro H locs ls g
    exact lv_lshr hx hb hd rfl (h H locs ls g)
  case lushr =>
    have hl := hln (fun _ _ _ _ h9 => by cases h9)
    subst hl
    obtain ⟨y, r, rfl, h⟩ := mz_pI_e h
    obtain ⟨x, r, rfl, h⟩ := mz_pJ_e h
    intro H locs ls g
    exact lv_lushr hx hb hd rfl (h H locs ls g)
  case i2l =>
    have hl := hln (fun _ _ _ _ h9 => by cases h9)
    subst hl
    obtain ⟨x, r, rfl, h⟩ := mz_pI_e h
    intro H locs ls g
    exact lv_i2l hx hb hd rfl (h H locs ls g)
  case l2i =>
    have hl := hln (fun _ _ _ _ h9 => by cases h9)
    subst hl
    obtain ⟨x, r, rfl, h⟩ := mz_pJ_e h
    intro H locs ls g
    exact lv_l2i hx hb hd rfl (h H locs ls g)
  case i2b =>
    have hl := hln (fun _ _ _ _ h9 => by cases h9)
    subst hl
    obtain ⟨x, r, rfl, h⟩ := mz_pI_e h
    intro H locs ls g
    exact lv_i2b hx hb hd rfl (h H locs ls g)
  case lcmp =>
    have hl := hln (fun _ _ _ _ h9 => by cases h9)
    subst hl
    obtain ⟨y, r, rfl, h⟩ := mz_pJ_e h
    obtain ⟨x, r, rfl, h⟩ := mz_pJ_e h
    intro H locs ls g
    exact W.lcmp hx hb hd (h H locs ls g)
  case dup =>
    have hl := hln (fun _ _ _ _ h9 => by cases h9)
    subst hl
    obtain ⟨v, r, rfl, h0, h⟩ := mz_pV_e h
    intro H locs ls g
    exact lv_dup hx hb hd h0 (h H locs ls g)
  case pop =>
    have hl := hln (fun _ _ _ _ h9 => by cases h9)
    subst hl
    obtain ⟨v, r, rfl, h0, h⟩ := mz_pV_e h
    intro H locs ls g
    exact lv_pop hx hb hd h0 (h H locs ls g)
  case dup2 =>
    have hl := hln (fun _ _ _ _ h9 => by cases h9)
    subst hl
    obtain ⟨v, r, rfl, h⟩ := mz_pV_e h
    obtain ⟨w, r, rfl, h0, h1, h⟩ := mz_pV_e h
    intro H locs ls g
    exact lv_dup2_11 hx hb hd h0 h1 (h H locs ls g)
  case ifCond cd off =>
    have hl := hln (fun _ _ _ _ h9 => by cases h9)
    subst hl
    obtain ⟨t, rfl, h⟩ := mz_t1_e h
    obtain ⟨x, r, rfl, h⟩ := mz_pI_e h
    intro H locs ls g
    cases cd
    case eq => exact lv_if_eq hx hb hd (ms_jmp ck) (fun w => h.1 w H locs ls g) (fun w => h.2 w H locs ls g)
    case ne => exact lv_if_ne hx hb hd (ms_jmp ck) (fun w => h.1 w H locs ls g) (fun w => h.2 w H locs ls g)
    case lt => exact lv_if_lt hx hb hd (ms_jmp ck) (fun w => h.1 w H locs ls g) (fun w => h.2 w H locs ls g)
    case ge => exact lv_if_ge hx hb hd (ms_jmp ck) (fun w => h.1 w H locs ls g) (fun w => h.2 w H locs ls g)
    case gt => exact lv_if_gt hx hb hd (ms_jmp ck) (fun w => h.1 w H locs ls g) (fun w => h.2 w H locs ls g)
    case le => exact lv_if_le hx hb hd (ms_jmp ck) (fun w => h.1 w H locs ls g) (fun w => h.2 w H locs ls g)
  case if_icmp cd off =>
    have hl := hln (fun _ _ _ _ h9 => by cases h9)
    subst hl
    obtain ⟨t, rfl, h⟩ := mz_t1_e h
    obtain ⟨y, r, rfl, h⟩ := mz_pI_e h
    obtain ⟨x, r, rfl, h⟩ := mz_pI_e h
    intro H locs ls g
    cases cd
    case eq => exact lv_icmp_eq hx hb hd (ms_jmp ck) (fun w => h.1 w H locs ls g) (fun w => h.2 w H locs ls g)
    case ne => exact lv_icmp_ne hx hb hd (ms_jmp ck) (fun w => h.1 w H locs ls g) (fun w => h.2 w H locs ls g)
    case lt => exact lv_icmp_lt hx hb hd (ms_jmp ck) (fun w => h.1 w H locs ls g) (fun w => h.2 w H locs ls g)
    case ge => exact lv_icmp_ge hx hb hd (ms_jmp ck) (fun w => h.1 w H locs ls g) (fun w => h.2 w H locs ls g)
    case gt => exact lv_icmp_gt hx hb hd (ms_jmp ck) (fun w => h.1 w H locs ls g) (fun w => h.2 w H locs ls g)
    case le => exact lv_icmp_le hx hb hd (ms_jmp ck) (fun w => h.1 w H locs ls g) (fun w => h.2 w H locs ls g)
  case goto =>
    have hl := hln (fun _ _ _ _ h9 => by cases h9)
    subst hl
    obtain ⟨t, rfl, h⟩ := mz_t1_e h
    intro H locs ls g
    exact lv_goto hx hb hd (ms_jmp ck) (h H locs ls g)
  case ifnull =>
    have hl := hln (fun _ _ _ _ h9 => by cases h9)
    subst hl
    obtain ⟨t, rfl, h⟩ := mz_t1_e h
    obtain ⟨v, r, rfl, h1, h2, h3⟩ := mz_pV_e h
    intro H locs ls g
    rcases h3 with rfl | ⟨a, rfl⟩
    · exact lv_ifnullN hx hb hd (ms_jmp ck) (h1 rfl H locs ls g)
    · exact lv_ifnull hx hb hd (h2 ⟨a, rfl⟩ H locs ls g)
  case ifnonnull =>
    have hl := hln (fun _ _ _ _ h9 => by cases h9)
    subst hl
    obtain ⟨t, rfl, h⟩ := mz_t1_e h
    obtain ⟨v, r, rfl, h1, h2, h3⟩ := mz_pV_e h
    intro H locs ls g
    rcases h3 with rfl | ⟨a, rfl⟩
    · exact lv_ifnonnullN hx hb hd (h2 rfl H locs ls g)
    · exact lv_ifnonnull hx hb hd (ms_jmp ck) (h1 ⟨a, rfl⟩ H locs ls g)
  case tableswitch df lo hi offs =>
    obtain ⟨x, r, rfl, h⟩ := mz_pI_e h
    have ck2 : tg.map (fun t : Nat => (t : Int)) = (df :: offs.toList).map (fun o => (pc : Int) + o) := of_decide_eq_true ck
    intro H locs ls g
    by_cases hout : x.toInt < lo ∨ hi < x.toInt
    · have h1 := h.1 hout
      unfold mz_sw.mz_gN at h1
      split at h1
      · rename_i t ht
        have h2 := congrArg (fun l => l[0]?) ck2
        simp only [List.getElem?_map, ht, Option.map_some, List.getElem?_cons_zero, Option.some.injEq] at h2
        exact lv_tableOut hx hb hd hout h2.symm (h1 H locs ls g)
      · exact h1.elim
    · have h1 := h.2 (fun w => hout (Or.inl w)) (fun w => hout (Or.inr w))
      unfold mz_sw.mz_gN at h1
      split at h1
      · rename_i t ht
        have h2 := congrArg (fun l => l[(x.toInt - lo).toNat + 1]?) ck2
        simp only [List.getElem?_map, ht, Option.map_some, List.getElem?_cons_succ] at h2
        obtain ⟨o, ho, he⟩ := Option.map_eq_some_iff.mp h2.symm
        exact lv_tableIn hx hb hd (fun w => hout (Or.inl w)) (fun w => hout (Or.inr w)) (by rw [← Array.getElem?_toList]; exact ho) he (h1 H locs ls g)
      · exact h1.elim
  case ldc =>
    have hl := hln (fun _ _ _ _ h9 => by cases h9)
    subst hl
    obtain ⟨a, r, w, rfl, h⟩ := mz_t3_e h
    dsimp only [mz_ck2] at ck
    split at ck
    · rename_i h9
      cases h9
      exact ms_l1 X hd (mw_q ck) h
    · rename_i h9
      cases h9
      rw [Bool.and_eq_true] at ck
      exact ms_l2 X hd (mw_q ck.2) h
    · cases ck
  case ldc_w =>
    have hl := hln (fun _ _ _ _ h9 => by cases h9)
    subst hl
    obtain ⟨a, r, w, rfl, h⟩ := mz_t3_e h
    dsimp only [mz_ck2] at ck
    split at ck
    · rename_i h9
      cases h9
      exact ms_l3 X hd (mw_q ck) h
    · rename_i h9
      cases h9
      rw [Bool.and_eq_true] at ck
      exact ms_l4 X hd (mw_q ck.2) h
    · cases ck
  case ldc2_w =>
    have hl := hln (fun _ _ _ _ h9 => by cases h9)
    subst hl
    obtain ⟨a, r, w, rfl, h⟩ := mz_t3_e h
    exact ms_l5 X hd (mw_q ck) h
  case getfield x =>
    have hl := hln (fun _ _ _ _ h9 => by cases h9)
    subst hl
    obtain ⟨c2, j, r, rfl, h⟩ := mz_t3_e h
    obtain ⟨a, rs, rfl, hk, h⟩ := mz_pR_e h
    have ck3 : (Nat.blt c2 6 && Nat.blt j (mz_cS c2) && mz_q r Y.2.2.2.2.1 x 0 c2 j) = true := ck
    simp only [Bool.and_eq_true, Nat.blt_eq] at ck3
    exact ms_gf (st := rs) X hd ck3.1.1 ck3.1.2 (mw_q ck3.2) hk h
  case putfield x =>
    have hl := hln (fun _ _ _ _ h9 => by cases h9)
    subst hl
    obtain ⟨c2, j, r, rfl, h⟩ := mz_t3_e h
    obtain ⟨v, rs, e1, h1⟩ := mz_pV_e h
    obtain ⟨a, rs, e2, hk, hf, h2⟩ := mz_pR_e h1
    have ck3 : (Nat.blt c2 6 && Nat.blt j (mz_cS c2) && mz_q r Y.2.2.2.2.1 x 0 c2 j) = true := ck
    simp only [Bool.and_eq_true, Nat.blt_eq] at ck3
    rw [e1, e2]
    exact ms_pfm (st := rs) X hd ck3.1.1 ck3.1.2 (mw_q ck3.2) hk hf h2
  case iaload =>
    have hl := hln (fun _ _ _ _ h9 => by cases h9)
    subst hl
    obtain ⟨x, r, e1, h1⟩ := mz_pI_e h
    obtain ⟨a, r, e2, h3⟩ := mz_pR_e h1
    subst e2
    subst e1
    split at h3
    · exact ms_iald (st := r) X hd h3.1 h3.2.1 h3.2.2
    · split at h3
      · exact ms_scl (st := r) X hd rfl h3.1 h3.2.1 h3.2.2
      · exact h3.elim
  case baload =>
    have hl := hln (fun _ _ _ _ h9 => by cases h9)
    subst hl
    obtain ⟨x, r, rfl, h⟩ := mz_pI_e h
    obtain ⟨a, r, rfl, hk, hi, h⟩ := mz_pR_e h
    rcases hk with hk | hk
    · exact ms_bald (st := []) X hd hk hi h
    · exact ms_zald (st := []) X hd hk hi h
  case laload =>
    have hl := hln (fun _ _ _ _ h9 => by cases h9)
    subst hl
    obtain ⟨x, r, rfl, h⟩ := mz_pI_e h
    obtain ⟨a, r, rfl, hk, hi, h⟩ := mz_pR_e h
    exact ms_lald (st := []) X hd hk hi h
  case aaload =>
    have hl := hln (fun _ _ _ _ h9 => by cases h9)
    subst hl
    obtain ⟨x, r, rfl, h⟩ := mz_pI_e h
    obtain ⟨a, r, rfl, hk, hi, h⟩ := mz_pR_e h
    exact ms_aald (st := []) X hd hk hi h
  case iastore =>
    have hl := hln (fun _ _ _ _ h9 => by cases h9)
    subst hl
    obtain ⟨v, r, rfl, h⟩ := mz_pI_e h
    obtain ⟨x, r, rfl, h⟩ := mz_pI_e h
    obtain ⟨a, r, rfl, hk, hi, h⟩ := mz_pR_e h
    exact ms_iast (st := []) X hd hk hi h
  case bastore =>
    have hl := hln (fun _ _ _ _ h9 => by cases h9)
    subst hl
    obtain ⟨v, r, rfl, h⟩ := mz_pI_e h
    obtain ⟨x, r, rfl, h⟩ := mz_pI_e h
    obtain ⟨a, r, rfl, hi, hk, h⟩ := mz_pR_e h
    rcases hk with hk | hk
    · rw [hk] at h
      exact ms_bast (st := []) X hd hk hi h
    · rw [hk] at h
      exact ms_zast (st := []) X hd hk hi h
  case lastore =>
    have hl := hln (fun _ _ _ _ h9 => by cases h9)
    subst hl
    obtain ⟨v, r, rfl, h⟩ := mz_pJ_e h
    obtain ⟨x, r, rfl, h⟩ := mz_pI_e h
    obtain ⟨a, r, rfl, hk, hi, h⟩ := mz_pR_e h
    exact ms_last (st := []) X hd hk hi h
  case aastore =>
    have hl := hln (fun _ _ _ _ h9 => by cases h9)
    subst hl
    obtain ⟨v, r, rfl, h⟩ := mz_pR_e h
    obtain ⟨x, r, rfl, h⟩ := mz_pI_e h
    obtain ⟨a, r, rfl, hk, hv, hi, h⟩ := mz_pR_e h
    exact ms_aast (st := []) X hd hk hv hi h
  case arraylength =>
    have hl := hln (fun _ _ _ _ h9 => by cases h9)
    subst hl
    obtain ⟨a, r, e1, h3⟩ := mz_pR_e h
    subst e1
    split at h3
    · exact ms_alen (st := r) X hd h3.1 h3.2
    · split at h3
      · exact ms_scn (st := r) X hd rfl h3.1 h3.2
      · exact h3.elim
  case newarray t =>
    have hl := hln (fun _ _ _ _ h9 => by cases h9)
    subst hl
    obtain ⟨n, r, rfl, h0, h1, h2, h3, h4, h⟩ := mz_pI_e h
    cases t
    case int => exact ms_na1 (st := []) X hd h1 h2 h3 h4 h
    case byte => exact ms_na2 (st := []) X hd h1 h2 h3 h4 h
    case boolean => exact ms_na3 (st := []) X hd h1 h2 h3 h4 h
    case long => exact ms_na4 (st := []) X hd h1 h2 h3 h4 h
    all_goals exact absurd rfl h0
  case anewarray =>
    have hl := hln (fun _ _ _ _ h9 => by cases h9)
    subst hl
    obtain ⟨n, r, rfl, h1, h2, h3, h4, h5⟩ := mz_pI_e h
    dsimp only [mz_ck2] at ck
    split at ck
    · exact ms_nq (st := r) X hd (mw_q ck) h1 h2 h3 h4 h5
    · cases ck
  case new x =>
    have hl := hln (fun _ _ _ _ h9 => by cases h9)
    subst hl
    obtain ⟨c2, r, rfl, h3, h4, h⟩ := mz_t2_e h
    have ck3 : (Nat.blt c2 6 && mz_q r Y.2.2.2.2.1 x 4 c2 0) = true := ck
    simp only [Bool.and_eq_true, Nat.blt_eq] at ck3
    exact ms_new X hd ck3.1 (mw_q ck3.2) h3 h4 h
  case invokevirtual x =>
    have hl := hln (fun _ _ _ _ h9 => by cases h9)
    subst hl
    obtain ⟨h2, y, n1, c2, r, rfl, h1⟩ := mz_t5_e h
    dsimp only [mz_ck2] at ck
    split at ck
    · rename_i h9
      cases h9
      obtain ⟨h0, h1⟩ := h1
      obtain ⟨a, ha, i, hi, rfl⟩ := mz_gR_e h0
      exact ms_csl X hd (mw_q ck) hi ha h1.1 h1.2.1 h1.2.2
    · rename_i h9
      cases h9
      obtain ⟨h0, h1⟩ := h1
      obtain ⟨a, ha, i, hi, rfl⟩ := mz_gR_e h0
      exact ms_csc X hd (mw_q ck) hi ha h1.1 h1.2.1 h1.2.2
    · rename_i h9
      cases h9
      simp only [Bool.and_eq_true, Nat.blt_eq, Nat.beq_eq, Bool.not_eq_true'] at ck
      obtain ⟨⟨⟨⟨⟨⟨⟨k0, k1⟩, k2⟩, k3⟩, k4⟩, k5⟩, k6⟩, k7⟩ := ck
      split at h1
      · obtain ⟨h0, h1⟩ := h1
        obtain ⟨a, ha, hk⟩ := mz_gR_e h0
        intro H locs ls g
        exact ms_cv X hd k1 k2 k3 k4 k5 k6 (mw_q k7) ha hk h1.1 h1.2.1 (Nat.le_refl _) (Nat.le_refl _) g.2.2.2.2.1 g.2.2.2.2.2.1 h1.2.2 H locs ls g
      · obtain ⟨h0, h1⟩ := h1
        obtain ⟨a, ha, hk⟩ := mz_gR_e h0
        obtain ⟨l1, l2, z2, b1, b2, b3, b4, h1⟩ := h1
        exact ms_cv X hd k1 k2 k3 k4 k5 k6 (mw_q k7) ha hk l1 l2 b1 b2 b3 b4 h1
      · exact absurd k0 (by decide)
      · exact h1.elim
    · cases ck
  case invokestatic x =>
    have hl := hln (fun _ _ _ _ h9 => by cases h9)
    subst hl
    obtain ⟨h2, y, n, c2, r, rfl, h⟩ := mz_t5_e h
    dsimp only [mz_ck2] at ck
    split at ck
    · rename_i h9
      cases h9
      simp only [Bool.and_eq_true, Nat.blt_eq, Nat.beq_eq] at ck
      obtain ⟨⟨⟨k1, k2⟩, k3⟩, k4⟩ := ck
      intro H locs ls g
      exact ms_cs X hd k1 k2 k3 (mw_q k4) h.1 h.2.1 (Nat.le_refl _) (Nat.le_refl _) g.2.2.2.2.1 g.2.2.2.2.2.1 h.2.2 H locs ls g
    · rename_i h9
      cases h9
      obtain ⟨x3, r, rfl, h⟩ := mz_pI_e h
      obtain ⟨x2, r, rfl, h⟩ := mz_pI_e h
      obtain ⟨b, r, rfl, h⟩ := mz_pR_e h
      obtain ⟨x1, r, rfl, h⟩ := mz_pI_e h
      obtain ⟨a, r, rfl, h1, h2, h3, h⟩ := mz_pR_e h
      split at h
      · exact ms_cpi (st := []) X hd (mw_q ck) h1 h2 h3 h.1 h.2.1 h.2.2
      · exact ms_cpl (st := []) X hd (mw_q ck) h1 h2 h3 h.1 h.2.1 h.2.2
    · rename_i h9
      cases h9
      obtain ⟨y, r, rfl, h⟩ := mz_pI_e h
      obtain ⟨x, r, rfl, h1, h2, h⟩ := mz_pI_e h
      exact ms_mx (st := []) X hd (mw_q ck) h1 h2 h
    · rename_i h9
      cases h9
      obtain ⟨y, r, rfl, h⟩ := mz_pI_e h
      obtain ⟨x, r, rfl, h1, h2, h⟩ := mz_pI_e h
      exact ms_mn (st := []) X hd (mw_q ck) h1 h2 h
    · cases ck
  case invokespecial x =>
    have hl := hln (fun _ _ _ _ h9 => by cases h9)
    subst hl
    obtain ⟨h2, y, n1, c2, r, rfl, h⟩ := mz_t5_e h
    dsimp only [mz_ck2] at ck
    split at ck
    · rename_i h9
      cases h9
      obtain ⟨a, r, rfl, h1, h2, h⟩ := mz_pR_e h
      exact ms_oi (st := []) X hd (mw_q ck) h1 h2 h
    · rename_i h9
      cases h9
      simp only [Bool.and_eq_true, Nat.blt_eq, Nat.beq_eq, Bool.not_eq_true', decide_eq_true_eq] at ck
      obtain ⟨⟨⟨⟨⟨k1, k2⟩, k3⟩, k4⟩, k5⟩, k6⟩ := ck
      obtain ⟨h0, h⟩ := h
      obtain ⟨a, ha, -⟩ := mz_gR_e h0
      obtain ⟨l1, l2, z2, b1, b2, b3, b4, h⟩ := h
      exact ms_ci X hd k1 k4 k2 k3 k5 (mw_q k6) ha l1 l2 b1 b2 b3 b4 h
    · rename_i h9
      cases h9
      simp only [Bool.and_eq_true, Nat.blt_eq, Nat.beq_eq, Bool.not_eq_true', decide_eq_true_eq] at ck
      obtain ⟨⟨⟨⟨⟨k1, k2⟩, k3⟩, k4⟩, k5⟩, k6⟩ := ck
      obtain ⟨h0, h⟩ := h
      obtain ⟨a, ha, -⟩ := mz_gR_e h0
      obtain ⟨l1, l2, z2, b1, b2, b3, b4, h⟩ := h
      exact ms_cn X hd k1 k4 k2 k3 k5 (mw_q k6) ha l1 l2 b1 b2 b3 b4 h
    · cases ck
  case return_ =>
    have hl := hln (fun _ _ _ _ h9 => by cases h9)
    subst hl
    obtain ⟨rfl, rfl, hr, hQ⟩ := h
    intro H locs ls g
    refine ms_size fun hsz0 => ?_
    exact hend none _ M H locs ls pc hd (Or.inl ⟨rfl, rfl, hr⟩) hQ (g.sz hs hz hsz0) g.P g.kz g.S
  case ireturn =>
    have hl := hln (fun _ _ _ _ h9 => by cases h9)
    subst hl
    obtain ⟨v, r, rfl, rfl, rfl, ⟨t, hr, hn⟩, hQ⟩ := mz_pI_e h
    intro H locs ls g
    refine ms_size fun hsz0 => ?_
    exact hend (some (.int v)) _ M H locs ls pc hd (Or.inr (Or.inl ⟨v, t, rfl, rfl, hr, hn⟩)) hQ (g.sz hs hz hsz0) g.P g.kz g.S
  case lreturn =>
    have hl := hln (fun _ _ _ _ h9 => by cases h9)
    subst hl
    obtain ⟨v, r, rfl, rfl, rfl, hr, hQ⟩ := mz_pJ_e h
    intro H locs ls g
    refine ms_size fun hsz0 => ?_
    exact hend (some (.long v)) _ M H locs ls pc hd (Or.inr (Or.inr (Or.inl ⟨v, rfl, rfl, hr⟩))) hQ (g.sz hs hz hsz0) g.P g.kz g.S
  case areturn =>
    have hl := hln (fun _ _ _ _ h9 => by cases h9)
    subst hl
    obtain ⟨v, r, rfl, rfl, rfl, ⟨n, hr⟩, hv, hQ⟩ := mz_pV_e h
    intro H locs ls g
    refine ms_size fun hsz0 => ?_
    exact hend (some v) _ M H locs ls pc hd (Or.inr (Or.inr (Or.inr ⟨v, n, rfl, rfl, hr, hv⟩))) hQ (g.sz hs hz hsz0) g.P g.kz g.S
  all_goals exact h.elim
end
