theorem jw_c_len : mz_in 423 (.code ⟨"java/lang/String", "length", "()I"⟩ prog_10_method_54_code 1 (some .int)) = true := by decide +kernel
theorem jw_c_chr : mz_in 433 (.code ⟨"java/lang/String", "charAt", "(I)C"⟩ prog_10_method_56_code 2 (some .char)) = true := by decide +kernel
theorem jw_c_cod : mz_in 427 (.code ⟨"java/lang/String", "coder", "()B"⟩ prog_10_method_152_code 1 (some .byte)) = true := by decide +kernel
theorem jw_c_lat : mz_in 437 (.code ⟨"java/lang/String", "isLatin1", "()Z"⟩ prog_10_method_154_code 1 (some .boolean)) = true := by decide +kernel
theorem jw_c_ckS : mz_in 443 (.code ⟨"java/lang/String", "checkIndex", "(II)V"⟩ prog_10_method_155_code 2 (none)) = true := by decide +kernel
theorem jw_c_chL : mz_in 440 (.code ⟨"java/lang/StringLatin1", "charAt", "([BI)C"⟩ prog_11_method_2_code 2 (some .char)) = true := by decide +kernel
theorem jw_c_ckP : mz_in 448 (.code ⟨"jdk/internal/util/Preconditions", "checkIndex", "(IILjava/util/function/BiFunction;)I"⟩ prog_14_method_11_code 3 (some .int)) = true := by decide +kernel
theorem jw_val : mz_in 1733 (.fieldLink "java/lang/String" 9 "java/lang/String" "value" "[B") = true := by decide +kernel
theorem jw_cps : mz_in 428 (.fieldLink "java/lang/String" 38 "java/lang/String" "COMPACT_STRINGS" "Z") = true := by decide +kernel
theorem jw_cdr : mz_in 1734 (.fieldLink "java/lang/String" 15 "java/lang/String" "coder" "B") = true := by decide +kernel
theorem jw_fmt : mz_in 444 (.fieldLink "java/lang/String" 1053 "jdk/internal/util/Preconditions" "SIOOBE_FORMATTER" "Ljava/util/function/BiFunction;") = true := by decide +kernel
theorem jw_l_cod : mz_in 424 (.methodLink "java/lang/String" 335 ⟨"java/lang/String", "coder", "()B"⟩) = true := by decide +kernel
theorem jw_l_lat : mz_in 434 (.methodLink "java/lang/String" 492 ⟨"java/lang/String", "isLatin1", "()Z"⟩) = true := by decide +kernel
theorem jw_l_chL : mz_in 438 (.methodLink "java/lang/String" 495 ⟨"java/lang/StringLatin1", "charAt", "([BI)C"⟩) = true := by decide +kernel
theorem jw_l_ckS : mz_in 441 (.methodLink "java/lang/StringLatin1" 9 ⟨"java/lang/String", "checkIndex", "(II)V"⟩) = true := by decide +kernel
theorem jw_l_ckP : mz_in 446 (.methodLink "java/lang/String" 1059 ⟨"jdk/internal/util/Preconditions", "checkIndex", "(IILjava/util/function/BiFunction;)I"⟩) = true := by decide +kernel
theorem jw_i_cod : mz_in 425 (.instanceMethod ⟨"java/lang/String", "coder", "()B"⟩) = true := by decide +kernel
theorem jw_s_cod : mz_in 426 (.selects "java/lang/String" ⟨"java/lang/String", "coder", "()B"⟩ ⟨"java/lang/String", "coder", "()B"⟩) = true := by decide +kernel
theorem jw_i_lat : mz_in 435 (.instanceMethod ⟨"java/lang/String", "isLatin1", "()Z"⟩) = true := by decide +kernel
theorem jw_s_lat : mz_in 436 (.selects "java/lang/String" ⟨"java/lang/String", "isLatin1", "()Z"⟩ ⟨"java/lang/String", "isLatin1", "()Z"⟩) = true := by decide +kernel
theorem jw_t_chL : mz_in 439 (.static ⟨"java/lang/StringLatin1", "charAt", "([BI)C"⟩) = true := by decide +kernel
theorem jw_t_ckS : mz_in 442 (.static ⟨"java/lang/String", "checkIndex", "(II)V"⟩) = true := by decide +kernel
theorem jw_t_ckP : mz_in 447 (.static ⟨"jdk/internal/util/Preconditions", "checkIndex", "(IILjava/util/function/BiFunction;)I"⟩) = true := by decide +kernel
theorem jw_n0 : mz_in 117 (.initialized "java/lang/String") = true := by decide +kernel
theorem jw_n1 : mz_in 118 (.initialized "java/lang/StringLatin1") = true := by decide +kernel
theorem jw_n3 : mz_in 119 (.initialized "jdk/internal/util/Preconditions") = true := by decide +kernel
theorem jd_cod_0 : decode prog_10_method_152_code 0 = .ok (.getstatic 38, 3) := by decide +kernel
theorem jd_cod_3 : decode prog_10_method_152_code 3 = .ok (.ifCond .eq 10, 3) := by decide +kernel
theorem jd_cod_6 : decode prog_10_method_152_code 6 = .ok (.aload_n 0, 1) := by decide +kernel
theorem jd_cod_7 : decode prog_10_method_152_code 7 = .ok (.getfield 15, 3) := by decide +kernel
theorem jd_cod_10 : decode prog_10_method_152_code 10 = .ok (.goto 4, 3) := by decide +kernel
theorem jd_cod_14 : decode prog_10_method_152_code 14 = .ok (.ireturn, 1) := by decide +kernel
theorem jd_lat_0 : decode prog_10_method_154_code 0 = .ok (.getstatic 38, 3) := by decide +kernel
theorem jd_lat_3 : decode prog_10_method_154_code 3 = .ok (.ifCond .eq 14, 3) := by decide +kernel
theorem jd_lat_6 : decode prog_10_method_154_code 6 = .ok (.aload_n 0, 1) := by decide +kernel
theorem jd_lat_7 : decode prog_10_method_154_code 7 = .ok (.getfield 15, 3) := by decide +kernel
theorem jd_lat_10 : decode prog_10_method_154_code 10 = .ok (.ifCond .ne 7, 3) := by decide +kernel
theorem jd_lat_13 : decode prog_10_method_154_code 13 = .ok (.iconst 1, 1) := by decide +kernel
theorem jd_lat_14 : decode prog_10_method_154_code 14 = .ok (.goto 4, 3) := by decide +kernel
theorem jd_lat_18 : decode prog_10_method_154_code 18 = .ok (.ireturn, 1) := by decide +kernel
theorem jd_ckP_0 : decode prog_14_method_11_code 0 = .ok (.iload_n 0, 1) := by decide +kernel
theorem jd_ckP_1 : decode prog_14_method_11_code 1 = .ok (.ifCond .lt 8, 3) := by decide +kernel
theorem jd_ckP_4 : decode prog_14_method_11_code 4 = .ok (.iload_n 0, 1) := by decide +kernel
theorem jd_ckP_5 : decode prog_14_method_11_code 5 = .ok (.iload_n 1, 1) := by decide +kernel
theorem jd_ckP_6 : decode prog_14_method_11_code 6 = .ok (.if_icmp .lt 10, 3) := by decide +kernel
theorem jd_ckP_16 : decode prog_14_method_11_code 16 = .ok (.iload_n 0, 1) := by decide +kernel
theorem jd_ckP_17 : decode prog_14_method_11_code 17 = .ok (.ireturn, 1) := by decide +kernel
theorem jd_ckS_0 : decode prog_10_method_155_code 0 = .ok (.iload_n 0, 1) := by decide +kernel
theorem jd_ckS_1 : decode prog_10_method_155_code 1 = .ok (.iload_n 1, 1) := by decide +kernel
theorem jd_ckS_2 : decode prog_10_method_155_code 2 = .ok (.getstatic 1053, 3) := by decide +kernel
theorem jd_ckS_5 : decode prog_10_method_155_code 5 = .ok (.invokestatic 1059, 3) := by decide +kernel
theorem jd_ckS_8 : decode prog_10_method_155_code 8 = .ok (.pop, 1) := by decide +kernel
theorem jd_ckS_9 : decode prog_10_method_155_code 9 = .ok (.return_, 1) := by decide +kernel
theorem jd_chL_0 : decode prog_11_method_2_code 0 = .ok (.iload_n 1, 1) := by decide +kernel
theorem jd_chL_1 : decode prog_11_method_2_code 1 = .ok (.aload_n 0, 1) := by decide +kernel
theorem jd_chL_2 : decode prog_11_method_2_code 2 = .ok (.arraylength, 1) := by decide +kernel
theorem jd_chL_3 : decode prog_11_method_2_code 3 = .ok (.invokestatic 9, 3) := by decide +kernel
theorem jd_chL_6 : decode prog_11_method_2_code 6 = .ok (.aload_n 0, 1) := by decide +kernel
theorem jd_chL_7 : decode prog_11_method_2_code 7 = .ok (.iload_n 1, 1) := by decide +kernel
theorem jd_chL_8 : decode prog_11_method_2_code 8 = .ok (.baload, 1) := by decide +kernel
theorem jd_chL_9 : decode prog_11_method_2_code 9 = .ok (.sipush 255, 3) := by decide +kernel
theorem jd_chL_12 : decode prog_11_method_2_code 12 = .ok (.iand, 1) := by decide +kernel
theorem jd_chL_13 : decode prog_11_method_2_code 13 = .ok (.i2c, 1) := by decide +kernel
theorem jd_chL_14 : decode prog_11_method_2_code 14 = .ok (.ireturn, 1) := by decide +kernel
theorem jd_chr_0 : decode prog_10_method_56_code 0 = .ok (.aload_n 0, 1) := by decide +kernel
theorem jd_chr_1 : decode prog_10_method_56_code 1 = .ok (.invokevirtual 492, 3) := by decide +kernel
theorem jd_chr_4 : decode prog_10_method_56_code 4 = .ok (.ifCond .eq 12, 3) := by decide +kernel
theorem jd_chr_7 : decode prog_10_method_56_code 7 = .ok (.aload_n 0, 1) := by decide +kernel
theorem jd_chr_8 : decode prog_10_method_56_code 8 = .ok (.getfield 9, 3) := by decide +kernel
theorem jd_chr_11 : decode prog_10_method_56_code 11 = .ok (.iload_n 1, 1) := by decide +kernel
theorem jd_chr_12 : decode prog_10_method_56_code 12 = .ok (.invokestatic 495, 3) := by decide +kernel
theorem jd_chr_15 : decode prog_10_method_56_code 15 = .ok (.ireturn, 1) := by decide +kernel
theorem jd_len_0 : decode prog_10_method_54_code 0 = .ok (.aload_n 0, 1) := by decide +kernel
theorem jd_len_1 : decode prog_10_method_54_code 1 = .ok (.getfield 9, 3) := by decide +kernel
theorem jd_len_4 : decode prog_10_method_54_code 4 = .ok (.arraylength, 1) := by decide +kernel
theorem jd_len_5 : decode prog_10_method_54_code 5 = .ok (.aload_n 0, 1) := by decide +kernel
theorem jd_len_6 : decode prog_10_method_54_code 6 = .ok (.invokevirtual 335, 3) := by decide +kernel
theorem jd_len_9 : decode prog_10_method_54_code 9 = .ok (.ishr, 1) := by decide +kernel
theorem jd_len_10 : decode prog_10_method_54_code 10 = .ok (.ireturn, 1) := by decide +kernel
abbrev jR (d : Nat) : Room := { frames := d, cells := 0, slots := 0, locals := 39 * d }
abbrev jP (D : va_G) (C : Nat → ClassId) (z0 : Nat) (sc : Option (Nat × Nat × (Nat → Int32))) (sa sv : Nat → Nat) (args : List Value) : Array Value → State → Prop := fun v U => v = args.toArray ∧ mw_E D C z0 sc sa sv U
abbrev jQ (r : Option Value) : Array Value → State → Outcome → State → Prop := fun _ st oc t => oc = .returned r ∧ t.heap = st.heap
theorem jP_b {D : va_G} {C : Nat → ClassId} {z0 : Nat} {sc : Option (Nat × Nat × (Nat → Int32))} {sa sv : Nat → Nat} {args : List Value} : FrameBlind (jP D C z0 sc sa sv args) := fun a U g mk q => ⟨q.1, mw_E.same (u := U) rfl rfl q.2⟩
theorem js_call {p : Program} {l : Launch} {e : Env} {R : Room} {s : State} {m : MethodId} {args : Array Value} {below : List Frame} {meth : Method} {c : Code} {Qw : State → Prop} {H : Heap} {locs : List Loc} {cells slots pc : Nat} {ls : Array Slot} {st0 rest : List Value} {a : Array Value} {r : Option Value} (hr : va_Run p l e R s m args below meth c H locs cells slots 0 0 (F0 m pc ls st0) rest (jQ r a) (fun _ => False)) (kk : W p l e R s m args below meth c H locs cells slots Qw (F0 m (pc + 3) ls (r.toList ++ rest))) : W p l e R s m args below meth c H locs cells slots Qw (F0 m pc ls st0) := by
  intro T hT X
  obtain ⟨v, st₀, t, T', L, h0, X', hL, e1, e2, ⟨hv, hh⟩, st⟩ := hr T hT X
  cases hv
  have hn : L = [] := by
    cases L with
    | nil => rfl
    | cons q L => exact (hL q List.mem_cons_self).elim
  subst hn
  rw [List.append_nil] at X'
  obtain ⟨t2, a1, b1⟩ := kk T' (by rw [e1, hh, h0]) X'
  exact ⟨t2, st t2 a1, b1⟩
theorem mw_E.st {D : va_G} {C : Nat → ClassId} {z0 : Nat} {sc : Option (Nat × Nat × (Nat → Int32))} {sa sv : Nat → Nat} {s U : State} (hU : U.heap = s.heap) (hW : s.WarmedH U.vm) (h : mw_E D C z0 sc sa sv s) : mw_E D C z0 sc sa sv U := mw_E.go hW (by rw [hU]; exact Nat.le_refl _) (fun q _ _ => by rw [hU]) h
theorem j_cod {l : Launch} {D : va_G} {C : Nat → ClassId} {z0 : Nat} {sc : Option (Nat × Nat × (Nat → Int32))} {sa sv : Nat → Nat} {d i : Nat} (hi : i < 10) : Met l ⟨"java/lang/String", "coder", "()B"⟩ (.code ⟨"java/lang/String", "coder", "()B"⟩ prog_10_method_152_code 1 (some .byte) :: mw_Ts) (jR d) (jP D C z0 sc sa sv [.ref (sa i)]) (jQ (some (.int 0))) 0 0 (fun _ => False) := by
  refine Met.ofW (cc := prog_10_method_152_code) (maxL := 1) (ret := some .byte) (by decide) rfl ?_
  intro p e s m args below meth c s₁ Bd hml hv
  obtain ⟨rfl, hE⟩ := hv
  have hx := Bd.exec
  have hb := Bd.bytes
  have hts : ∀ w ∈ mw_Ts, w.before ([.ref (sa i)] : List Value).toArray s = true := fun w hw => atoms_spec (ws := Cond.code ⟨"java/lang/String", "coder", "()B"⟩ prog_10_method_152_code 1 (some .byte) :: mw_Ts) Bd.pre w (List.mem_cons_of_mem _ hw)
  have hown : s.vm.findClass "java/lang/String" = some m.cls := findClass_of_methodNamed Bd.named
  have hl := lv_entry ([.ref (sa i)]) (n := 1) (Nat.le_of_ble_eq_true rfl)
  rw [lg_entry_eq]
  generalize (lg_sl ([.ref (sa i)]) ++ List.replicate (1 - (lg_sl ([.ref (sa i)])).length) Slot.unset).toArray = ls at hl ⊢
  have hl : lv_has ls 1 [(0, .ref (sa i))] := hl
  refine va_gets hx hb hE.2.2.2.2.2.1.1 va_S.rf hown (hts _ (mw_mem jw_cps)) (fun _ h => h) jd_cod_0 ?_
  refine lv_if_eq (tgt := 13) hx hb jd_cod_3 rfl (fun h => absurd h (by decide)) (fun _ => ?_)
  refine lv_aload_n hx hb jd_cod_6 rfl (lv_at hl 0 rfl) ?_
  refine vk_getf hx hb (hE.2.2.2.2.1.1 i hi).2.1 va_S.rf hown (hts _ (mw_mem jw_cdr)) (fun _ h => h) jd_cod_7 ?_
  refine lv_goto (tgt := 14) hx hb jd_cod_10 rfl ?_
  exact W.zret hx hb Bd.returns (by decide) (fun t ht _ => ⟨rfl, ht⟩) (fun q h => nomatch h) jd_cod_14 Bd.notSynchronized
theorem j_lat {l : Launch} {D : va_G} {C : Nat → ClassId} {z0 : Nat} {sc : Option (Nat × Nat × (Nat → Int32))} {sa sv : Nat → Nat} {d i : Nat} (hi : i < 10) : Met l ⟨"java/lang/String", "isLatin1", "()Z"⟩ (.code ⟨"java/lang/String", "isLatin1", "()Z"⟩ prog_10_method_154_code 1 (some .boolean) :: mw_Ts) (jR d) (jP D C z0 sc sa sv [.ref (sa i)]) (jQ (some (.int 1))) 0 0 (fun _ => False) := by
  refine Met.ofW (cc := prog_10_method_154_code) (maxL := 1) (ret := some .boolean) (by decide) rfl ?_
  intro p e s m args below meth c s₁ Bd hml hv
  obtain ⟨rfl, hE⟩ := hv
  have hx := Bd.exec
  have hb := Bd.bytes
  have hts : ∀ w ∈ mw_Ts, w.before ([.ref (sa i)] : List Value).toArray s = true := fun w hw => atoms_spec (ws := Cond.code ⟨"java/lang/String", "isLatin1", "()Z"⟩ prog_10_method_154_code 1 (some .boolean) :: mw_Ts) Bd.pre w (List.mem_cons_of_mem _ hw)
  have hown : s.vm.findClass "java/lang/String" = some m.cls := findClass_of_methodNamed Bd.named
  have hl := lv_entry ([.ref (sa i)]) (n := 1) (Nat.le_of_ble_eq_true rfl)
  rw [lg_entry_eq]
  generalize (lg_sl ([.ref (sa i)]) ++ List.replicate (1 - (lg_sl ([.ref (sa i)])).length) Slot.unset).toArray = ls at hl ⊢
  have hl : lv_has ls 1 [(0, .ref (sa i))] := hl
  refine va_gets hx hb hE.2.2.2.2.2.1.1 va_S.rf hown (hts _ (mw_mem jw_cps)) (fun _ h => h) jd_lat_0 ?_
  refine lv_if_eq (tgt := 17) hx hb jd_lat_3 rfl (fun h => absurd h (by decide)) (fun _ => ?_)
  refine lv_aload_n hx hb jd_lat_6 rfl (lv_at hl 0 rfl) ?_
  refine vk_getf hx hb (hE.2.2.2.2.1.1 i hi).2.1 va_S.rf hown (hts _ (mw_mem jw_cdr)) (fun _ h => h) jd_lat_7 ?_
  refine lv_if_ne (tgt := 17) hx hb jd_lat_10 rfl (fun h => absurd rfl h) (fun _ => ?_)
  refine lv_iconst (v := 1) hx hb jd_lat_13 (by decide) ?_
  refine lv_goto (tgt := 18) hx hb jd_lat_14 rfl ?_
  exact W.zret hx hb Bd.returns (by decide) (fun t ht _ => ⟨rfl, ht⟩) (fun q h => nomatch h) jd_lat_18 Bd.notSynchronized
theorem j_ckN {l : Launch} {D : va_G} {C : Nat → ClassId} {z0 : Nat} {sc : Option (Nat × Nat × (Nat → Int32))} {sa sv : Nat → Nat} {d j n : Nat} (hj : j < n) (hn : n < 2 ^ 31) : Met l ⟨"jdk/internal/util/Preconditions", "checkIndex", "(IILjava/util/function/BiFunction;)I"⟩ (.code ⟨"jdk/internal/util/Preconditions", "checkIndex", "(IILjava/util/function/BiFunction;)I"⟩ prog_14_method_11_code 3 (some .int) :: mw_Ts) (jR d) (jP D C z0 sc sa sv [.int (nI j), .int (nI n), .null]) (jQ (some (.int (nI j)))) 0 0 (fun _ => False) := by
  refine Met.ofW (cc := prog_14_method_11_code) (maxL := 3) (ret := some .int) (by decide) rfl ?_
  intro p e s m args below meth c s₁ Bd hml hv
  obtain ⟨rfl, hE⟩ := hv
  have hx := Bd.exec
  have hb := Bd.bytes
  have hts : ∀ w ∈ mw_Ts, w.before ([.int (nI j), .int (nI n), .null] : List Value).toArray s = true := fun w hw => atoms_spec (ws := Cond.code ⟨"jdk/internal/util/Preconditions", "checkIndex", "(IILjava/util/function/BiFunction;)I"⟩ prog_14_method_11_code 3 (some .int) :: mw_Ts) Bd.pre w (List.mem_cons_of_mem _ hw)
  have hown : s.vm.findClass "jdk/internal/util/Preconditions" = some m.cls := findClass_of_methodNamed Bd.named
  have hl := lv_entry ([.int (nI j), .int (nI n), .null]) (n := 3) (Nat.le_of_ble_eq_true rfl)
  rw [lg_entry_eq]
  generalize (lg_sl ([.int (nI j), .int (nI n), .null]) ++ List.replicate (3 - (lg_sl ([.int (nI j), .int (nI n), .null])).length) Slot.unset).toArray = ls at hl ⊢
  have hl : lv_has ls 3 [(0, .int (nI j)), (1, .int (nI n)), (2, .null)] := hl
  refine lv_iload_n hx hb jd_ckP_0 rfl (lv_at hl 0 rfl) ?_
  refine lv_if_lt (tgt := 9) hx hb jd_ckP_1 rfl (fun h => absurd h (nI_pos (by omega))) (fun _ => ?_)
  refine lv_iload_n hx hb jd_ckP_4 rfl (lv_at hl 0 rfl) ?_
  refine lv_iload_n hx hb jd_ckP_5 rfl (lv_at hl 1 rfl) ?_
  refine lv_icmp_lt (tgt := 16) hx hb jd_ckP_6 rfl (fun _ => ?_) (fun h => absurd (nI_lt hj hn) h)
  refine lv_iload_n hx hb jd_ckP_16 rfl (lv_at hl 0 rfl) ?_
  exact W.zret hx hb Bd.returns rfl (fun t ht _ => ⟨rfl, ht⟩) (fun q h => nomatch h) jd_ckP_17 Bd.notSynchronized
theorem j_ckR {l : Launch} {D : va_G} {C : Nat → ClassId} {z0 : Nat} {sc : Option (Nat × Nat × (Nat → Int32))} {sa sv : Nat → Nat} {d j n t : Nat} (hj : j < n) (hn : n < 2 ^ 31) : Met l ⟨"jdk/internal/util/Preconditions", "checkIndex", "(IILjava/util/function/BiFunction;)I"⟩ (.code ⟨"jdk/internal/util/Preconditions", "checkIndex", "(IILjava/util/function/BiFunction;)I"⟩ prog_14_method_11_code 3 (some .int) :: mw_Ts) (jR d) (jP D C z0 sc sa sv [.int (nI j), .int (nI n), .ref t]) (jQ (some (.int (nI j)))) 0 0 (fun _ => False) := by
  refine Met.ofW (cc := prog_14_method_11_code) (maxL := 3) (ret := some .int) (by decide) rfl ?_
  intro p e s m args below meth c s₁ Bd hml hv
  obtain ⟨rfl, hE⟩ := hv
  have hx := Bd.exec
  have hb := Bd.bytes
  have hts : ∀ w ∈ mw_Ts, w.before ([.int (nI j), .int (nI n), .ref t] : List Value).toArray s = true := fun w hw => atoms_spec (ws := Cond.code ⟨"jdk/internal/util/Preconditions", "checkIndex", "(IILjava/util/function/BiFunction;)I"⟩ prog_14_method_11_code 3 (some .int) :: mw_Ts) Bd.pre w (List.mem_cons_of_mem _ hw)
  have hown : s.vm.findClass "jdk/internal/util/Preconditions" = some m.cls := findClass_of_methodNamed Bd.named
  have hl := lv_entry ([.int (nI j), .int (nI n), .ref t]) (n := 3) (Nat.le_of_ble_eq_true rfl)
  rw [lg_entry_eq]
  generalize (lg_sl ([.int (nI j), .int (nI n), .ref t]) ++ List.replicate (3 - (lg_sl ([.int (nI j), .int (nI n), .ref t])).length) Slot.unset).toArray = ls at hl ⊢
  have hl : lv_has ls 3 [(0, .int (nI j)), (1, .int (nI n)), (2, .ref t)] := hl
  refine lv_iload_n hx hb jd_ckP_0 rfl (lv_at hl 0 rfl) ?_
  refine lv_if_lt (tgt := 9) hx hb jd_ckP_1 rfl (fun h => absurd h (nI_pos (by omega))) (fun _ => ?_)
  refine lv_iload_n hx hb jd_ckP_4 rfl (lv_at hl 0 rfl) ?_
  refine lv_iload_n hx hb jd_ckP_5 rfl (lv_at hl 1 rfl) ?_
  refine lv_icmp_lt (tgt := 16) hx hb jd_ckP_6 rfl (fun _ => ?_) (fun h => absurd (nI_lt hj hn) h)
  refine lv_iload_n hx hb jd_ckP_16 rfl (lv_at hl 0 rfl) ?_
  exact W.zret hx hb Bd.returns rfl (fun t ht _ => ⟨rfl, ht⟩) (fun q h => nomatch h) jd_ckP_17 Bd.notSynchronized
theorem j_ckS {l : Launch} {D : va_G} {C : Nat → ClassId} {z0 : Nat} {sc : Option (Nat × Nat × (Nat → Int32))} {sa sv : Nat → Nat} {d j n : Nat} (hj : j < n) (hn : n < 2 ^ 31) : Met l ⟨"java/lang/String", "checkIndex", "(II)V"⟩ (.code ⟨"java/lang/String", "checkIndex", "(II)V"⟩ prog_10_method_155_code 2 (none) :: mw_Ts) (jR (d + 1)) (jP D C z0 sc sa sv [.int (nI j), .int (nI n)]) (jQ (none)) 0 0 (fun _ => False) := by
  refine Met.ofW (cc := prog_10_method_155_code) (maxL := 2) (ret := none) (by decide) rfl ?_
  intro p e s m args below meth c s₁ Bd hml hv
  obtain ⟨rfl, hE⟩ := hv
  have hx := Bd.exec
  have hb := Bd.bytes
  have hts : ∀ w ∈ mw_Ts, w.before ([.int (nI j), .int (nI n)] : List Value).toArray s = true := fun w hw => atoms_spec (ws := Cond.code ⟨"java/lang/String", "checkIndex", "(II)V"⟩ prog_10_method_155_code 2 (none) :: mw_Ts) Bd.pre w (List.mem_cons_of_mem _ hw)
  have hown : s.vm.findClass "java/lang/String" = some m.cls := findClass_of_methodNamed Bd.named
  have hl := lv_entry ([.int (nI j), .int (nI n)]) (n := 2) (Nat.le_of_ble_eq_true rfl)
  rw [lg_entry_eq]
  generalize (lg_sl ([.int (nI j), .int (nI n)]) ++ List.replicate (2 - (lg_sl ([.int (nI j), .int (nI n)])).length) Slot.unset).toArray = ls at hl ⊢
  have hl : lv_has ls 2 [(0, .int (nI j)), (1, .int (nI n))] := hl
  refine lv_iload_n hx hb jd_ckS_0 rfl (lv_at hl 0 rfl) ?_
  refine lv_iload_n hx hb jd_ckS_1 rfl (lv_at hl 1 rfl) ?_
  rcases hE.2.2.2.2.2.1.2 with hZ | ⟨t, hZ⟩
  · refine va_gets hx hb hZ va_S.rf hown (hts _ (mw_mem jw_fmt)) (fun _ h => h) jd_ckS_2 ?_
    refine js_call (rest := []) (va_runS (As := [.int (nI j), .int (nI n), .null]) (nL := 2) ⟨hx, hb, hml, hown, hts⟩ (j_ckN (D := D) (C := C) (z0 := z0) (sc := sc) (sa := sa) (sv := sv) (d := d) hj hn) ⟨callB_of 3 hts (ms_good (mw_mem jw_c_ckP)) rfl rfl rfl (hts _ (mw_mem jw_n3)) (hts _ (mw_mem jw_l_ckP)) ⟨by decide, by decide, by decide +kernel⟩ ⟨by show d + 1 ≤ d + 1; omega, by show 8 + (3 + 11) + 39 * d ≤ 39 * (d + 1); omega⟩, hts _ (mw_mem jw_t_ckP)⟩ ⟨jP_b, fun U hU hW => ⟨rfl, mw_E.st hU hW hE⟩⟩ rfl rfl hl.1 rfl (lv_room (Nat.le_of_ble_eq_true rfl)) jd_ckS_5 ⟨Nat.zero_le _, Nat.zero_le _⟩) ?_
    refine lv_pop hx hb jd_ckS_8 rfl ?_
    exact W.vret hx hb Bd.returns (fun t ht _ => ⟨rfl, ht⟩) (fun q h => nomatch h) jd_ckS_9 Bd.notSynchronized
  · refine va_gets hx hb hZ va_S.rf hown (hts _ (mw_mem jw_fmt)) (fun _ h => h) jd_ckS_2 ?_
    refine js_call (rest := []) (va_runS (As := [.int (nI j), .int (nI n), .ref t]) (nL := 2) ⟨hx, hb, hml, hown, hts⟩ (j_ckR (D := D) (C := C) (z0 := z0) (sc := sc) (sa := sa) (sv := sv) (d := d) hj hn) ⟨callB_of 3 hts (ms_good (mw_mem jw_c_ckP)) rfl rfl rfl (hts _ (mw_mem jw_n3)) (hts _ (mw_mem jw_l_ckP)) ⟨by decide, by decide, by decide +kernel⟩ ⟨by show d + 1 ≤ d + 1; omega, by show 8 + (3 + 11) + 39 * d ≤ 39 * (d + 1); omega⟩, hts _ (mw_mem jw_t_ckP)⟩ ⟨jP_b, fun U hU hW => ⟨rfl, mw_E.st hU hW hE⟩⟩ rfl rfl hl.1 rfl (lv_room (Nat.le_of_ble_eq_true rfl)) jd_ckS_5 ⟨Nat.zero_le _, Nat.zero_le _⟩) ?_
    refine lv_pop hx hb jd_ckS_8 rfl ?_
    exact W.vret hx hb Bd.returns (fun t ht _ => ⟨rfl, ht⟩) (fun q h => nomatch h) jd_ckS_9 Bd.notSynchronized
theorem jb_ok : ∀ i, i < 10 → ∀ j, j < mw_len10.getD i 0 → (((mw_byt.getD i []).getD j 0 &&& 255).toUInt32 % 65536).toInt32 = (mw_byt.getD i []).getD j 0 ∧ narrow .char (.int ((mw_byt.getD i []).getD j 0)) = .int ((mw_byt.getD i []).getD j 0) ∧ mw_len10.getD i 0 < 2 ^ 31 := by decide +kernel
theorem jl_ok : ∀ i, i < 10 → mw_len10.getD i 0 < 2 ^ 31 ∧ nI (mw_len10.getD i 0) >>> ((0 : Int32) &&& 31) = nI (mw_len10.getD i 0) := by decide +kernel
theorem j_chL {l : Launch} {D : va_G} {C : Nat → ClassId} {z0 : Nat} {sc : Option (Nat × Nat × (Nat → Int32))} {sa sv : Nat → Nat} {d i j : Nat} (hi : i < 10) (hj : j < mw_len10.getD i 0) : Met l ⟨"java/lang/StringLatin1", "charAt", "([BI)C"⟩ (.code ⟨"java/lang/StringLatin1", "charAt", "([BI)C"⟩ prog_11_method_2_code 2 (some .char) :: mw_Ts) (jR (d + 2)) (jP D C z0 sc sa sv [.ref (sv i), .int (nI j)]) (jQ (some (.int ((mw_byt.getD i []).getD j 0)))) 0 0 (fun _ => False) := by
  obtain ⟨b1, b2, b3⟩ := jb_ok i hi j hj
  refine Met.ofW (cc := prog_11_method_2_code) (maxL := 2) (ret := some .char) (by decide) rfl ?_
  intro p e s m args below meth c s₁ Bd hml hv
  obtain ⟨rfl, hE⟩ := hv
  have hx := Bd.exec
  have hb := Bd.bytes
  have hts : ∀ w ∈ mw_Ts, w.before ([.ref (sv i), .int (nI j)] : List Value).toArray s = true := fun w hw => atoms_spec (ws := Cond.code ⟨"java/lang/StringLatin1", "charAt", "([BI)C"⟩ prog_11_method_2_code 2 (some .char) :: mw_Ts) Bd.pre w (List.mem_cons_of_mem _ hw)
  have hown : s.vm.findClass "java/lang/StringLatin1" = some m.cls := findClass_of_methodNamed Bd.named
  have hl := lv_entry ([.ref (sv i), .int (nI j)]) (n := 2) (Nat.le_of_ble_eq_true rfl)
  rw [lg_entry_eq]
  generalize (lg_sl ([.ref (sv i), .int (nI j)]) ++ List.replicate (2 - (lg_sl ([.ref (sv i), .int (nI j)])).length) Slot.unset).toArray = ls at hl ⊢
  have hl : lv_has ls 2 [(0, .ref (sv i)), (1, .int (nI j))] := hl
  refine lv_iload_n hx hb jd_chL_0 rfl (lv_at hl 1 rfl) ?_
  refine lv_aload_n hx hb jd_chL_1 rfl (lv_at hl 0 rfl) ?_
  refine va_tlen (v := nI (mw_len10.getD i 0)) hx hb (hE.2.2.2.2.1.1 i hi).2.2.2 va_S.rf rfl jd_chL_2 ?_
  refine js_call (rest := []) (va_runS (As := [.int (nI j), .int (nI (mw_len10.getD i 0))]) (nL := 2) ⟨hx, hb, hml, hown, hts⟩ (j_ckS (D := D) (C := C) (z0 := z0) (sc := sc) (sa := sa) (sv := sv) (d := d) hj b3) ⟨callB_of 2 hts (ms_good (mw_mem jw_c_ckS)) rfl rfl rfl (hts _ (mw_mem jw_n0)) (hts _ (mw_mem jw_l_ckS)) ⟨by decide, by decide, by decide +kernel⟩ ⟨by show d + 1 + 1 ≤ d + 2; omega, by show 8 + (2 + 11) + 39 * (d + 1) ≤ 39 * (d + 2); omega⟩, hts _ (mw_mem jw_t_ckS)⟩ ⟨jP_b, fun U hU hW => ⟨rfl, mw_E.st hU hW hE⟩⟩ rfl rfl hl.1 rfl (lv_room (Nat.le_of_ble_eq_true rfl)) jd_chL_3 ⟨Nat.zero_le _, Nat.zero_le _⟩) ?_
  refine lv_aload_n hx hb jd_chL_6 rfl (lv_at hl 0 rfl) ?_
  refine lv_iload_n hx hb jd_chL_7 rfl (lv_at hl 1 rfl) ?_
  refine va_tb hx hb (hE.2.2.2.2.1.1 i hi).2.2.2 va_S.rf (i := nI j) (vp_in_nI hj b3) (v := .int ((mw_byt.getD i []).getD j 0)) (by rw [nI_clamp (by omega)]) jd_chL_8 ?_
  refine lv_sipush (v := 255) hx hb jd_chL_9 (by decide) ?_
  refine lv_iand hx hb jd_chL_12 ?_
  refine lv_i2c hx hb jd_chL_13 b1 ?_
  exact W.zret hx hb Bd.returns b2 (fun t ht _ => ⟨rfl, ht⟩) (fun q h => nomatch h) jd_chL_14 Bd.notSynchronized
theorem j_len {l : Launch} {D : va_G} {C : Nat → ClassId} {z0 : Nat} {sc : Option (Nat × Nat × (Nat → Int32))} {sa sv : Nat → Nat} {d i : Nat} {M : mz_M} {z : Nat × Nat} {Q : mz_P} (hi : i < 10) (hd : 1 ≤ d) (hQ : Q (some (.int (nI (mw_len10.getD i 0)))) M) : Met l ⟨"java/lang/String", "length", "()I"⟩ (.code ⟨"java/lang/String", "length", "()I"⟩ prog_10_method_54_code 1 (some .int) :: mw_Ts) (mw_rm d z z) (mw_Pc D C z0 sc sa sv [.ref (sa i)] M z) (mw_Qc D C z0 Q z) (z.1 - z.1) (z.2 - z.2) (mw_A z0) := by
  obtain ⟨d, rfl⟩ : ∃ d2, d = d2 + 1 := ⟨d - 1, by omega⟩
  rw [Nat.sub_self, Nat.sub_self]
  refine Met.ofW (cc := prog_10_method_54_code) (maxL := 1) (ret := some .int) (by decide) rfl ?_
  intro p e s m args below meth c s₁ Bd hml hv
  obtain ⟨rfl, hE, hsz, hz0, hP, hkz⟩ := hv
  have hx := Bd.exec
  have hb := Bd.bytes
  have hts : ∀ w ∈ mw_Ts, w.before ([.ref (sa i)] : List Value).toArray s = true := fun w hw => atoms_spec (ws := Cond.code ⟨"java/lang/String", "length", "()I"⟩ prog_10_method_54_code 1 (some .int) :: mw_Ts) Bd.pre w (List.mem_cons_of_mem _ hw)
  have hown : s.vm.findClass "java/lang/String" = some m.cls := findClass_of_methodNamed Bd.named
  have hl := lv_entry ([.ref (sa i)]) (n := 1) (Nat.le_of_ble_eq_true rfl)
  rw [lg_entry_eq]
  generalize (lg_sl ([.ref (sa i)]) ++ List.replicate (1 - (lg_sl ([.ref (sa i)])).length) Slot.unset).toArray = ls at hl ⊢
  have hl : lv_has ls 1 [(0, .ref (sa i))] := hl
  refine lv_aload_n hx hb jd_len_0 rfl (lv_at hl 0 rfl) ?_
  refine vk_getf hx hb (hE.2.2.2.2.1.1 i hi).2.2.1 va_S.rf hown (hts _ (mw_mem jw_val)) (fun _ h => h) jd_len_1 ?_
  refine va_tlen (v := nI (mw_len10.getD i 0)) hx hb (hE.2.2.2.2.1.1 i hi).2.2.2 va_S.rf rfl jd_len_4 ?_
  refine lv_aload_n hx hb jd_len_5 rfl (lv_at hl 0 rfl) ?_
  refine js_call (rest := [.int (nI (mw_len10.getD i 0))]) (va_runV (C := "java/lang/String") (As := []) (nL := 1) ⟨hx, hb, hml, hown, hts⟩ (j_cod (D := D) (C := C) (z0 := z0) (sc := sc) (sa := sa) (sv := sv) (d := d) hi) ⟨callB_of 0 hts (ms_good (mw_mem jw_c_cod)) rfl rfl rfl (hts _ (mw_mem jw_n0)) (hts _ (mw_mem jw_l_cod)) ⟨by decide, by decide, by decide +kernel⟩ ⟨by show d + 1 ≤ d + 1; omega, by show 8 + (1 + 11) + 39 * d ≤ 39 * (d + 1); omega⟩, hts _ (mw_mem jw_i_cod), hts _ (mw_mem jw_s_cod)⟩ ⟨jP_b, vk_recv hE.2.2.2.2.1 hi va_S.rf, fun U hU hW => ⟨rfl, mw_E.st hU hW hE⟩⟩ rfl rfl hl.1 rfl (lv_room (Nat.le_of_ble_eq_true rfl)) jd_len_6 ⟨Nat.zero_le _, Nat.zero_le _⟩) ?_
  refine lv_ishr hx hb jd_len_9 ?_
  rw [(jl_ok i hi).2]
  exact W.zret hx hb Bd.returns rfl (fun t ht _ => ⟨⟨_, M, rfl, hQ, by rw [ht]; exact hsz, by rw [ht]; exact hP, hkz⟩, va_S.rf.F ht⟩) (fun q h => nomatch h) jd_len_10 Bd.notSynchronized
theorem j_chr {l : Launch} {D : va_G} {C : Nat → ClassId} {z0 : Nat} {sc : Option (Nat × Nat × (Nat → Int32))} {sa sv : Nat → Nat} {d i j : Nat} {M : mz_M} {z : Nat × Nat} {Q : mz_P} (hi : i < 10) (hj : j < mw_len10.getD i 0) (hd : 3 ≤ d) (hQ : Q (some (.int ((mw_byt.getD i []).getD j 0))) M) : Met l ⟨"java/lang/String", "charAt", "(I)C"⟩ (.code ⟨"java/lang/String", "charAt", "(I)C"⟩ prog_10_method_56_code 2 (some .char) :: mw_Ts) (mw_rm d z z) (mw_Pc D C z0 sc sa sv [.ref (sa i), .int (nI j)] M z) (mw_Qc D C z0 Q z) (z.1 - z.1) (z.2 - z.2) (mw_A z0) := by
  obtain ⟨d, rfl⟩ : ∃ d2, d = d2 + 3 := ⟨d - 3, by omega⟩
  obtain ⟨b1, b2, b3⟩ := jb_ok i hi j hj
  rw [Nat.sub_self, Nat.sub_self]
  refine Met.ofW (cc := prog_10_method_56_code) (maxL := 2) (ret := some .char) (by decide) rfl ?_
  intro p e s m args below meth c s₁ Bd hml hv
  obtain ⟨rfl, hE, hsz, hz0, hP, hkz⟩ := hv
  have hx := Bd.exec
  have hb := Bd.bytes
  have hts : ∀ w ∈ mw_Ts, w.before ([.ref (sa i), .int (nI j)] : List Value).toArray s = true := fun w hw => atoms_spec (ws := Cond.code ⟨"java/lang/String", "charAt", "(I)C"⟩ prog_10_method_56_code 2 (some .char) :: mw_Ts) Bd.pre w (List.mem_cons_of_mem _ hw)
  have hown : s.vm.findClass "java/lang/String" = some m.cls := findClass_of_methodNamed Bd.named
  have hl := lv_entry ([.ref (sa i), .int (nI j)]) (n := 2) (Nat.le_of_ble_eq_true rfl)
  rw [lg_entry_eq]
  generalize (lg_sl ([.ref (sa i), .int (nI j)]) ++ List.replicate (2 - (lg_sl ([.ref (sa i), .int (nI j)])).length) Slot.unset).toArray = ls at hl ⊢
  have hl : lv_has ls 2 [(0, .ref (sa i)), (1, .int (nI j))] := hl
  refine lv_aload_n hx hb jd_chr_0 rfl (lv_at hl 0 rfl) ?_
  refine js_call (rest := []) (va_runV (C := "java/lang/String") (As := []) (nL := 2) ⟨hx, hb, hml, hown, hts⟩ (j_lat (D := D) (C := C) (z0 := z0) (sc := sc) (sa := sa) (sv := sv) (d := d + 2) hi) ⟨callB_of 0 hts (ms_good (mw_mem jw_c_lat)) rfl rfl rfl (hts _ (mw_mem jw_n0)) (hts _ (mw_mem jw_l_lat)) ⟨by decide, by decide, by decide +kernel⟩ ⟨by show d + 2 + 1 ≤ d + 3; omega, by show 8 + (1 + 11) + 39 * (d + 2) ≤ 39 * (d + 3); omega⟩, hts _ (mw_mem jw_i_lat), hts _ (mw_mem jw_s_lat)⟩ ⟨jP_b, vk_recv hE.2.2.2.2.1 hi va_S.rf, fun U hU hW => ⟨rfl, mw_E.st hU hW hE⟩⟩ rfl rfl hl.1 rfl (lv_room (Nat.le_of_ble_eq_true rfl)) jd_chr_1 ⟨Nat.zero_le _, Nat.zero_le _⟩) ?_
  refine lv_if_eq (tgt := 16) hx hb jd_chr_4 rfl (fun h => absurd h (by decide)) (fun _ => ?_)
  refine lv_aload_n hx hb jd_chr_7 rfl (lv_at hl 0 rfl) ?_
  refine vk_getf hx hb (hE.2.2.2.2.1.1 i hi).2.2.1 va_S.rf hown (hts _ (mw_mem jw_val)) (fun _ h => h) jd_chr_8 ?_
  refine lv_iload_n hx hb jd_chr_11 rfl (lv_at hl 1 rfl) ?_
  refine js_call (rest := []) (va_runS (As := [.ref (sv i), .int (nI j)]) (nL := 2) ⟨hx, hb, hml, hown, hts⟩ (j_chL (D := D) (C := C) (z0 := z0) (sc := sc) (sa := sa) (sv := sv) (d := d) hi hj) ⟨callB_of 2 hts (ms_good (mw_mem jw_c_chL)) rfl rfl rfl (hts _ (mw_mem jw_n1)) (hts _ (mw_mem jw_l_chL)) ⟨by decide, by decide, by decide +kernel⟩ ⟨by show d + 2 + 1 ≤ d + 3; omega, by show 8 + (2 + 11) + 39 * (d + 2) ≤ 39 * (d + 3); omega⟩, hts _ (mw_mem jw_t_chL)⟩ ⟨jP_b, fun U hU hW => ⟨rfl, mw_E.st hU hW hE⟩⟩ rfl rfl hl.1 rfl (lv_room (Nat.le_of_ble_eq_true rfl)) jd_chr_12 ⟨Nat.zero_le _, Nat.zero_le _⟩) ?_
  exact W.zret hx hb Bd.returns b2 (fun t ht _ => ⟨⟨_, M, rfl, hQ, by rw [ht]; exact hsz, by rw [ht]; exact hP, hkz⟩, va_S.rf.F ht⟩) (fun q h => nomatch h) jd_chr_15 Bd.notSynchronized
theorem j_str {l : Launch} {D : va_G} {C : Nat → ClassId} {z0 : Nat} {sc : Option (Nat × Nat × (Nat → Int32))} {sa sv : Nat → Nat} : ∀ d y args M z z' Q, 3 ≤ d → mz_Ks sa y args M z z' Q → mw_Met l D C z0 sc sa sv d y args M z z' Q := by
  intro d y args M z z' Q hd h
  obtain ⟨rfl, h⟩ := h
  rcases h with ⟨rfl, i, hi, rfl, hQ⟩ | ⟨rfl, i, j, hi, hj, rfl, hQ⟩
  · exact j_len hi (by omega) hQ
  · exact j_chr hi hj hd hQ
