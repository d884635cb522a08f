section
variable {p : Program} {l : Launch} {e : Env} {R : Room} {s : State} {m : MethodId} {args : Array Value} {below : List Frame} {meth : Method} {c : Code} {Qw : State → Prop}
variable {D : va_G} {C : Nat → ClassId} {z0 : Nat} {sc : Option (Nat × Nat × (Nat → Int32))} {sa sv : Nat → Nat}
theorem ms_size {H : Heap} {locs : List Loc} {cells slots : Nat} {g : JFrame} (k : H.size ≤ s.heap.size + cells → W p l e R s m args below meth c H locs cells slots Qw g) : W p l e R s m args below meth c H locs cells slots Qw g := fun T hT X => k (by rw [← hT]; exact X.same.2.2.1) T hT X
theorem ms_call {H : Heap} {locs : List Loc} {cells slots mc ms pc : Nat} {ls : Array Slot} {st0 rest : List Value} {a : Array Value} {Q : mz_P} {z' : Nat × Nat}
    (hr : va_Run p l e R s m args below meth c H locs cells slots mc ms (F0 m pc ls st0) rest (mw_Qc D C z0 Q z' a) (mw_A z0)) (hS : va_S (mw_A z0) s.heap H locs)
    (kk : ∀ (r : Option Value) (M' : mz_M) (H1 : Heap) (locs1 : List Loc), Q r M' → va_P D mz_cl (mw_w C M' z0 (z'.1 - z0)) H1 → mw_kz z0 (z'.1 - z0) M' → va_S (mw_A z0) s.heap H1 locs1 → W p l e R s m args below meth c H1 locs1 (cells + mc) (slots + ms) Qw (F0 m (pc + 3) ls (r.toList ++ rest))) : W p l e R s m args below meth c H locs cells slots Qw (F0 m pc ls st0) := by
  intro T hT X
  obtain ⟨v, st₀, t, T', L, h0, X', hL, e1, e2, ⟨⟨r, M', hv, hq, hz, hp, hk⟩, hsz, hkp⟩, st⟩ := hr T hT X
  cases hv
  rw [h0] at hsz hkp
  obtain ⟨t2, a1, b1⟩ := kk v M' T'.heap (locs ++ L) hq (by rw [e1]; exact hp) hk
    ⟨Nat.le_trans hS.1 (by rw [e1]; exact hsz), fun q h1 h2 => by rw [e1, hkp q (Nat.lt_of_lt_of_le h1 hS.1) h2]; exact hS.2.1 q h1 h2, fun q hq => by
      rcases List.mem_append.mp hq with h | h
      · exact hS.2.2 q h
      · exact hL q h⟩ T' rfl X'
  exact ⟨t2, st t2 a1, b1⟩
def ms_R (R : Room) (d : Nat) (zs B : Nat × Nat) : Prop := B.1 - zs.1 ≤ R.cells ∧ B.2 - zs.2 ≤ R.slots ∧ d ≤ R.frames ∧ 39 * d ≤ R.locals
def ms_G (D : va_G) (C : Nat → ClassId) (z0 : Nat) (s : State) (mL : Nat) (zs B : Nat × Nat) (L : List Value) (M : mz_M) (z : Nat × Nat) (H : Heap) (locs : List Loc) (ls : Array Slot) : Prop :=
  mw_L L ls ∧ L.length = mL ∧ zs.1 ≤ z.1 ∧ zs.2 ≤ z.2 ∧ z.1 ≤ B.1 ∧ z.2 ≤ B.2 ∧ va_P D mz_cl (mw_w C M z0 (z.1 - z0)) H ∧ mw_kz z0 (z.1 - z0) M ∧ va_S (mw_A z0) s.heap H locs
theorem ms_G.P {mL : Nat} {zs B : Nat × Nat} {L : List Value} {M : mz_M} {z : Nat × Nat} {H : Heap} {locs : List Loc} {ls : Array Slot} (g : ms_G D C z0 s mL zs B L M z H locs ls) : va_P D mz_cl (mw_w C M z0 (z.1 - z0)) H := g.2.2.2.2.2.2.1
theorem ms_G.kz {mL : Nat} {zs B : Nat × Nat} {L : List Value} {M : mz_M} {z : Nat × Nat} {H : Heap} {locs : List Loc} {ls : Array Slot} (g : ms_G D C z0 s mL zs B L M z H locs ls) : mw_kz z0 (z.1 - z0) M := g.2.2.2.2.2.2.2.1
theorem ms_G.S {mL : Nat} {zs B : Nat × Nat} {L : List Value} {M : mz_M} {z : Nat × Nat} {H : Heap} {locs : List Loc} {ls : Array Slot} (g : ms_G D C z0 s mL zs B L M z H locs ls) : va_S (mw_A z0) s.heap H locs := g.2.2.2.2.2.2.2.2
theorem ms_G.loc {mL : Nat} {zs B : Nat × Nat} {L L' : List Value} {M : mz_M} {z : Nat × Nat} {H : Heap} {locs : List Loc} {ls ls' : Array Slot} (g : ms_G D C z0 s mL zs B L M z H locs ls) (h1 : mw_L L' ls') (h2 : L'.length = L.length) : ms_G D C z0 s mL zs B L' M z H locs ls' := ⟨h1, h2.trans g.2.1, g.2.2⟩
theorem ms_G.mem {mL : Nat} {zs B : Nat × Nat} {L : List Value} {M M' : mz_M} {z : Nat × Nat} {H H1 : Heap} {locs locs1 : List Loc} {ls : Array Slot} (g : ms_G D C z0 s mL zs B L M z H locs ls) (h1 : va_P D mz_cl (mw_w C M' z0 (z.1 - z0)) H1) (h2 : ∀ a, M'.2.2.2 a = M.2.2.2 a) (h3 : va_S (mw_A z0) s.heap H1 locs1) : ms_G D C z0 s mL zs B L M' z H1 locs1 ls :=
  ⟨g.1, g.2.1, g.2.2.1, g.2.2.2.1, g.2.2.2.2.1, g.2.2.2.2.2.1, h1, fun a h => g.kz a (by rw [← h2]; exact h), h3⟩
theorem ms_G.sz {mL : Nat} {zs B : Nat × Nat} {L : List Value} {M : mz_M} {z : Nat × Nat} {H : Heap} {locs : List Loc} {ls : Array Slot} (g : ms_G D C z0 s mL zs B L M z H locs ls) (hs : s.heap.size = zs.1) (hz : z0 ≤ zs.1) (h : H.size ≤ s.heap.size + (z.1 - zs.1)) : H.size = z.1 := by
  have h1 := g.2.2.1
  have h2 := g.S.1
  by_cases he : z.1 = zs.1
  · omega
  · have h3 := (mw_at g.P (a := z.1 - 1) (by omega) (by omega)).lt
    simp only at h3
    omega
def ms_Pw (p : Program) (l : Launch) (e : Env) (R : Room) (s : State) (m : MethodId) (args : Array Value) (below : List Frame) (meth : Method) (c : Code) (Qw : State → Prop) (D : va_G) (C : Nat → ClassId) (z0 mL : Nat) (zs B : Nat × Nat) : mz_C := fun pc L st M z =>
  ∀ (H : Heap) (locs : List Loc) (ls : Array Slot), ms_G D C z0 s mL zs B L M z H locs ls → W p l e R s m args below meth c H locs (z.1 - zs.1) (z.2 - zs.2) Qw (F0 m pc ls st)
def ms_ret (i : Instr) (v : Option Value) (ret : Option FieldType) : Prop :=
  (i = .return_ ∧ v = none ∧ ret = none) ∨ (∃ x t, i = .ireturn ∧ v = some (.int x) ∧ ret = some t ∧ narrow t (.int x) = .int x) ∨ (∃ x, i = .lreturn ∧ v = some (.long x) ∧ ret = some .long) ∨ (∃ w n, i = .areturn ∧ v = some w ∧ ret = some (.object n) ∧ (w = .null ∨ ∃ a, w = .ref a))
theorem ms_split {st : List Value} {n a : Nat} (hn : n + 1 ≤ st.length) (h : st[n]? = some (.ref a)) : ∃ As, (st.take (n + 1)).reverse = .ref a :: As ∧ As.length = n ∧ st = As.reverse ++ .ref a :: st.drop (n + 1) := by
  refine ⟨(st.take n).reverse, ?_, ?_, ?_⟩
  · rw [List.take_succ, h, List.reverse_append]
    rfl
  · rw [List.length_reverse, List.length_take]
    omega
  · rw [List.reverse_reverse]
    obtain ⟨h1, h2⟩ := List.getElem?_eq_some_iff.mp h
    rw [← h2, ← List.drop_eq_getElem_cons h1, List.take_append_drop]
theorem ms_cm {y : Nat} (hy : y < 292) : mz_cm y (mz_pos.getD y (0, 0, 0)) = true := by
  have key : ∀ a n, mz_cmr a n = true → a ≤ y → y < a + n → mz_cm y (mz_pos.getD y (0, 0, 0)) = true := by
    intro a n h h1 h2
    exact List.all_eq_true.mp h y (List.mem_range'_1.mpr ⟨h1, h2⟩)
  rcases Nat.lt_or_ge y 42 with h | h
  · exact key _ _ mz_cm_0 (by omega) (by omega)
  rcases Nat.lt_or_ge y 84 with h | h
  · exact key _ _ mz_cm_1 (by omega) (by omega)
  rcases Nat.lt_or_ge y 126 with h | h
  · exact key _ _ mz_cm_2 (by omega) (by omega)
  rcases Nat.lt_or_ge y 168 with h | h
  · exact key _ _ mz_cm_3 (by omega) (by omega)
  rcases Nat.lt_or_ge y 210 with h | h
  · exact key _ _ mz_cm_4 (by omega) (by omega)
  rcases Nat.lt_or_ge y 252 with h | h
  · exact key _ _ mz_cm_5 (by omega) (by omega)
  · exact key _ _ mz_cm_6 (by omega) (by omega)
theorem ms_cmf {y : Nat} (hy : y < 292) : (mz_yD y).2.2.1 ≤ 20 ∧ (mz_yD y).1.cls = mz_cN (mz_yD y).2.2.2.2.1 ∧ (mz_yD y).2.2.2.2.1 < 8 ∧ (mz_yD y).2.2.2.2.2.1 = decide ((mz_yD y).1.name = "<init>") ∧ (parseMethodDescriptor (mz_yD y).1.desc).map (fun d => d.parameters.length) = some (mz_np.getD y 0) ∧ (mz_sts y = true → Cond.static (mz_yD y).1 ∈ mw_Ts) ∧ (mz_sts y = false → Cond.instanceMethod (mz_yD y).1 ∈ mw_Ts ∧ ((mz_yD y).2.2.2.2.2.1 = false → Cond.selects (mz_yD y).1.cls (mz_yD y).1 (mz_yD y).1 ∈ mw_Ts)) := by
  have h := ms_cm hy
  unfold mz_cm mz_npr at h
  simp only [Bool.and_eq_true, Bool.or_eq_true, decide_eq_true_eq, Bool.not_eq_true'] at h
  obtain ⟨⟨⟨⟨⟨h1, h2⟩, h3⟩, h4⟩, h5⟩, h6⟩ := h
  refine ⟨h1, h2, h3, h4, h5, fun hs => ?_, fun hs => ?_⟩
  · rcases h6 with h6 | h6
    · exact mw_mem h6.2
    · rw [hs] at h6
      exact absurd h6.1.1 (by simp)
  · rcases h6 with h6 | h6
    · rw [hs] at h6
      exact absurd h6.1 (by simp)
    · refine ⟨mw_mem h6.1.2, fun hi => ?_⟩
      rcases h6.2 with h7 | h7
      · rw [hi] at h7
        cases h7
      · exact mw_mem h7
theorem ms_code {y : Nat} (hy : y < 292) : Cond.code (mz_yD y).1 (mz_yD y).2.1 (mz_yD y).2.2.1 (mz_yD y).2.2.2.1 ∈ mw_Ts := List.mem_filter.mpr ⟨mz_cda y hy, rfl⟩
theorem ms_good {w : Cond} (hw : w ∈ mw_Ts) : GoodIn mw_Ts (w :: mw_Ts) := by
  intro v hv
  have h2 : v ∈ mw_Ts := by
    rcases List.mem_cons.mp hv with h | h
    · rw [h]; exact hw
    · exact h
  exact ⟨h2, good_of_word (List.mem_filter.mp h2).2⟩
theorem ms_ini {c : Nat} (hc : c < 9) : Cond.initialized (mz_cN c) ∈ mw_Ts := mw_mem (mz_all_ini c hc)
end
