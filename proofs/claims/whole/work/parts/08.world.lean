-- the worlds of the small machine
def mw_c0 (C : Nat → ClassId) (f : Nat → Int32) (g : Nat → Int64) (r : Nat → Option Nat) (kn : Nat × Nat) : va_E := match kn.1 with
  | 1 => .inl (C 1, kn.2, .inl f)
  | 2 => .inl (C 2, kn.2, .inl f)
  | 3 => .inl (C 3, kn.2, .inl f)
  | 4 => .inl (C 4, kn.2, .inr (.inl g))
  | 5 => .inl (C 5, kn.2, .inr (.inr (.inr (.inr r))))
  | k => .inr (k - 10, (List.range (mz_cS (k - 10))).map (fun j => bif mz_iR (k - 10) j then va_rf (r j) else .int (f j)))
def mw_ce (C : Nat → ClassId) (M : mz_M) (a : Nat) : va_E := mw_c0 C (M.1 a) (M.2.1 a) (M.2.2.1 a) (M.2.2.2 a)
def mw_w (C : Nat → ClassId) (M : mz_M) (z0 n : Nat) : va_W := (List.range' z0 n).map (fun a => (a, mw_ce C M a))
abbrev mw_tys (C : Nat → ClassId) : List (ClassId × FieldType) := [(C 1, .int), (C 2, .byte), (C 3, .boolean), (C 4, .long), (C 5, .object "RerootStore$Story")]
def mw_kz (z0 n : Nat) (M : mz_M) : Prop := ∀ a, (M.2.2.2 a).1 ≠ 0 → z0 ≤ a ∧ a < z0 + n
def mw_A (z0 : Nat) : Nat → Prop := fun q => z0 ≤ q
theorem mw_get {C : Nat → ClassId} {M : mz_M} {z0 n a : Nat} (h1 : z0 ≤ a) (h2 : a < z0 + n) : (mw_w C M z0 n)[a - z0]? = some (a, mw_ce C M a) := by
  unfold mw_w
  rw [List.getElem?_map, List.getElem?_range' (by omega), Option.map_some, show z0 + 1 * (a - z0) = a by omega]
theorem mw_of {C : Nat → ClassId} {M : mz_M} {z0 n i : Nat} {p : Nat × va_E} (h : (mw_w C M z0 n)[i]? = some p) : i < n ∧ p = (z0 + i, mw_ce C M (z0 + i)) := by
  unfold mw_w at h
  rw [List.getElem?_map] at h
  obtain ⟨b, hb, rfl⟩ := Option.map_eq_some_iff.mp h
  have hl : i < n := by
    have h3 := (List.getElem?_eq_some_iff.mp hb).1
    rw [List.length_range'] at h3
    exact h3
  rw [List.getElem?_range' hl] at hb
  have hb2 : z0 + 1 * i = b := Option.some.inj hb
  rw [Nat.one_mul] at hb2
  subst hb2
  exact ⟨hl, rfl⟩
theorem mw_D {C : Nat → ClassId} {M : mz_M} {z0 n : Nat} : va_D (mw_A z0) (mw_w C M z0 n) := by
  refine ⟨fun i j p q hp hq h => ?_, fun k q hq => ?_⟩
  · obtain ⟨-, rfl⟩ := mw_of hp
    obtain ⟨-, rfl⟩ := mw_of hq
    have h2 : z0 + i = z0 + j := h
    omega
  · obtain ⟨-, rfl⟩ := mw_of hq
    exact Nat.le_add_right _ _
theorem mw_len {C : Nat → ClassId} {M : mz_M} {z0 n : Nat} : (mw_w C M z0 n).length = n := by
  unfold mw_w
  rw [List.length_map, List.length_range']
theorem mw_set {D : va_G} {C : Nat → ClassId} {M M' : mz_M} {z0 n a : Nat} {e : va_E} {H1 : Heap} (h : va_P D mz_cl ((mw_w C M z0 n).set (a - z0) (a, e)) H1) (h1 : z0 ≤ a) (h2 : a < z0 + n) (he : mw_ce C M' a = e) (ho : ∀ b, b ≠ a → mw_ce C M' b = mw_ce C M b) : va_P D mz_cl (mw_w C M' z0 n) H1 := by
  intro k q hk
  obtain ⟨hl, rfl⟩ := mw_of hk
  by_cases hb : z0 + k = a
  · have h3 := h k (a, e) (by
      rw [show k = a - z0 by omega, List.getElem?_set_self (by rw [mw_len]; omega)])
    rw [hb, he]
    exact h3
  · have h3 := h k (z0 + k, mw_ce C M (z0 + k)) (by
      rw [List.getElem?_set_ne (by omega)]
      have h4 := mw_get (C := C) (M := M) (z0 := z0) (n := n) (a := z0 + k) (by omega) (by omega)
      rw [show z0 + k - z0 = k by omega] at h4
      exact h4)
    rw [ho _ hb]
    exact h3
theorem mw_P {D : va_G} {C : Nat → ClassId} {M : mz_M} {z0 n : Nat} {H : Heap} (h : ∀ a, z0 ≤ a → a < z0 + n → va_at D mz_cl (a, mw_ce C M a) H) : va_P D mz_cl (mw_w C M z0 n) H := by
  intro k q hk
  obtain ⟨hl, rfl⟩ := mw_of hk
  exact h _ (by omega) (by omega)
theorem mw_at {D : va_G} {C : Nat → ClassId} {M : mz_M} {z0 n a : Nat} {H : Heap} (h : va_P D mz_cl (mw_w C M z0 n) H) (h1 : z0 ≤ a) (h2 : a < z0 + n) : va_at D mz_cl (a, mw_ce C M a) H := h _ _ (mw_get h1 h2)
-- a new cell
theorem mw_push {D : va_G} {C : Nat → ClassId} {M M' : mz_M} {z0 n : Nat} {H H1 : Heap} (h : va_P D mz_cl (mw_w C M z0 n) H) (hs : H.size = z0 + n) (o : ∀ q, q < H.size → H1[q]? = H[q]?) (ho : ∀ b, b ≠ z0 + n → mw_ce C M' b = mw_ce C M b) (hn : va_at D mz_cl (z0 + n, mw_ce C M' (z0 + n)) H1) : va_P D mz_cl (mw_w C M' z0 (n + 1)) H1 := by
  refine mw_P fun a h1 h2 => ?_
  by_cases hb : a = z0 + n
  · subst hb
    exact hn
  · rw [ho a hb]
    exact (mw_at h h1 (by omega)).kept (o a (by rw [hs]; omega))
-- kinds
theorem mw_k1 {C : Nat → ClassId} {M : mz_M} {a : Nat} (h : mz_kd M a = 1) : mw_ce C M a = .inl (C 1, mz_ln M a, .inl (M.1 a)) := by
  have h2 : (M.2.2.2 a).1 = 1 := h
  unfold mw_ce mw_c0
  rw [h2]
  rfl
theorem mw_k2 {C : Nat → ClassId} {M : mz_M} {a : Nat} (h : mz_kd M a = 2) : mw_ce C M a = .inl (C 2, mz_ln M a, .inl (M.1 a)) := by
  have h2 : (M.2.2.2 a).1 = 2 := h
  unfold mw_ce mw_c0
  rw [h2]
  rfl
theorem mw_k3 {C : Nat → ClassId} {M : mz_M} {a : Nat} (h : mz_kd M a = 3) : mw_ce C M a = .inl (C 3, mz_ln M a, .inl (M.1 a)) := by
  have h2 : (M.2.2.2 a).1 = 3 := h
  unfold mw_ce mw_c0
  rw [h2]
  rfl
theorem mw_k4 {C : Nat → ClassId} {M : mz_M} {a : Nat} (h : mz_kd M a = 4) : mw_ce C M a = .inl (C 4, mz_ln M a, .inr (.inl (M.2.1 a))) := by
  have h2 : (M.2.2.2 a).1 = 4 := h
  unfold mw_ce mw_c0
  rw [h2]
  rfl
theorem mw_k5 {C : Nat → ClassId} {M : mz_M} {a : Nat} (h : mz_kd M a = 5) : mw_ce C M a = .inl (C 5, mz_ln M a, .inr (.inr (.inr (.inr (M.2.2.1 a))))) := by
  have h2 : (M.2.2.2 a).1 = 5 := h
  unfold mw_ce mw_c0
  rw [h2]
  rfl
theorem mw_ko {C : Nat → ClassId} {M : mz_M} {a c : Nat} (hc : c < 6) (h : mz_kd M a = 10 + c) : mw_ce C M a = .inr (c, mz_fs M c a) := by
  have h2 : (M.2.2.2 a).1 = 10 + c := h
  have h3 : c = 0 ∨ c = 1 ∨ c = 2 ∨ c = 3 ∨ c = 4 ∨ c = 5 := by omega
  unfold mw_ce mw_c0
  rw [h2]
  rcases h3 with rfl | rfl | rfl | rfl | rfl | rfl <;> rfl
theorem mw_in {M : mz_M} {z0 n a k : Nat} (hz : mw_kz z0 n M) (h : mz_kd M a = k) (hk : k ≠ 0) : z0 ≤ a ∧ a < z0 + n := hz a (by
  show mz_kd M a ≠ 0
  rw [h]
  exact hk)
-- what an update leaves
theorem mw_oI {C : Nat → ClassId} {M : mz_M} {a k : Nat} {x : Int32} : ∀ b, b ≠ a → mw_ce C (mz_uI M a k x) b = mw_ce C M b := fun b h => by
  unfold mw_ce mz_uI va_up
  simp only [h, if_false]
theorem mw_oJ {C : Nat → ClassId} {M : mz_M} {a k : Nat} {x : Int64} : ∀ b, b ≠ a → mw_ce C (mz_uJ M a k x) b = mw_ce C M b := fun b h => by
  unfold mw_ce mz_uJ va_up
  simp only [h, if_false]
theorem mw_oR {C : Nat → ClassId} {M : mz_M} {a k : Nat} {x : Option Nat} : ∀ b, b ≠ a → mw_ce C (mz_uR M a k x) b = mw_ce C M b := fun b h => by
  unfold mw_ce mz_uR va_up
  simp only [h, if_false]
theorem mw_ocI {C : Nat → ClassId} {M : mz_M} {a : Nat} {f : Nat → Int32} : ∀ b, b ≠ a → mw_ce C (mz_cI M a f) b = mw_ce C M b := fun b h => by
  unfold mw_ce mz_cI va_up
  simp only [h, if_false]
theorem mw_ocJ {C : Nat → ClassId} {M : mz_M} {a : Nat} {f : Nat → Int64} : ∀ b, b ≠ a → mw_ce C (mz_cJ M a f) b = mw_ce C M b := fun b h => by
  unfold mw_ce mz_cJ va_up
  simp only [h, if_false]
theorem mw_oN {C : Nat → ClassId} {M : mz_M} {a kd n : Nat} : ∀ b, b ≠ a → mw_ce C (mz_new M a kd n) b = mw_ce C M b := fun b h => by
  unfold mw_ce mz_new va_up
  simp only [h, if_false]
theorem mw_uI1 {M : mz_M} {a k : Nat} {x : Int32} : (mz_uI M a k x).1 a = va_up (M.1 a) k x := by
  unfold mz_uI va_up
  simp
theorem mw_uJ1 {M : mz_M} {a k : Nat} {x : Int64} : (mz_uJ M a k x).2.1 a = va_up (M.2.1 a) k x := by
  unfold mz_uJ va_up
  simp
theorem mw_uR1 {M : mz_M} {a k : Nat} {x : Option Nat} : (mz_uR M a k x).2.2.1 a = va_up (M.2.2.1 a) k x := by
  unfold mz_uR va_up
  simp
theorem mw_cI1 {M : mz_M} {a : Nat} {f : Nat → Int32} : (mz_cI M a f).1 a = f := by
  unfold mz_cI va_up
  simp
theorem mw_cJ1 {M : mz_M} {a : Nat} {f : Nat → Int64} : (mz_cJ M a f).2.1 a = f := by
  unfold mz_cJ va_up
  simp
theorem mw_fsI {M : mz_M} {c a k : Nat} {x : Int32} (hk : k < mz_cS c) (h : mz_iR c k = false) : mz_fs (mz_uI M a k x) c a = (mz_fs M c a).set k (.int x) := by
  apply List.ext_getElem?
  intro j
  unfold mz_fs
  by_cases hj : j = k
  · subst hj
    rw [List.getElem?_set_self (by rw [List.length_map, List.length_range]; exact hk), List.getElem?_map, List.getElem?_range hk, Option.map_some]
    unfold mz_rd
    rw [h, cond_false, mw_uI1]
    simp [va_up]
  · rw [List.getElem?_set_ne (fun e => hj e.symm), List.getElem?_map, List.getElem?_map]
    cases hr : (List.range (mz_cS c))[j]? with
    | none => rfl
    | some i =>
      have hi : j = i := by
        obtain ⟨h1, h2⟩ := List.getElem?_eq_some_iff.mp hr
        rw [List.getElem_range] at h2
        exact h2
      subst hi
      simp only [Option.map_some]
      unfold mz_rd
      rw [mw_uI1, show va_up (M.1 a) k x j = M.1 a j by simp [va_up, hj]]
      rfl
theorem mw_fsR {M : mz_M} {c a k : Nat} {x : Option Nat} (hk : k < mz_cS c) (h : mz_iR c k = true) : mz_fs (mz_uR M a k x) c a = (mz_fs M c a).set k (va_rf x) := by
  apply List.ext_getElem?
  intro j
  unfold mz_fs
  by_cases hj : j = k
  · subst hj
    rw [List.getElem?_set_self (by rw [List.length_map, List.length_range]; exact hk), List.getElem?_map, List.getElem?_range hk, Option.map_some]
    unfold mz_rd
    rw [h, cond_true, mw_uR1]
    simp [va_up]
  · rw [List.getElem?_set_ne (fun e => hj e.symm), List.getElem?_map, List.getElem?_map]
    cases hr : (List.range (mz_cS c))[j]? with
    | none => rfl
    | some i =>
      have hi : j = i := by
        obtain ⟨h1, h2⟩ := List.getElem?_eq_some_iff.mp hr
        rw [List.getElem_range] at h2
        exact h2
      subst hi
      simp only [Option.map_some]
      unfold mz_rd
      rw [mw_uR1, show va_up (M.2.2.1 a) k x j = M.2.2.1 a j by simp [va_up, hj]]
      rfl
theorem mw_fsG {M : mz_M} {c a k : Nat} (hk : k < mz_cS c) : (mz_fs M c a)[k]? = some (mz_rd M c a k) := by
  unfold mz_fs
  rw [List.getElem?_map, List.getElem?_range hk, Option.map_some]
theorem mw_fsL {M : mz_M} {c a : Nat} : (mz_fs M c a).length = mz_cS c := by
  unfold mz_fs
  rw [List.length_map, List.length_range]
-- locals
def mw_isv (v : Value) : Bool := match v with
  | .retAddr _ => false
  | _ => true
def mw_L (L : List Value) (ls : Array Slot) : Prop := ls.size = L.length ∧ lv_wf ls ∧ ∀ (i : Nat) (v : Value), L[i]? = some v → mw_isv v = true → ls[i]? = some (Slot.val v)
def mw_pr (L : List Value) : List (Nat × Value) := (List.range L.length).filterMap (fun i => match L[i]? with
  | some v => bif mw_isv v then some (i, v) else none
  | none => none)
theorem mw_pr_mem {L : List Value} {i : Nat} {v : Value} : (i, v) ∈ mw_pr L ↔ L[i]? = some v ∧ mw_isv v = true := by
  unfold mw_pr
  rw [List.mem_filterMap]
  constructor
  · rintro ⟨j, -, h⟩
    split at h
    · rename_i w hw
      cases hv : mw_isv w with
      | false => rw [hv] at h; cases h
      | true =>
        rw [hv, cond_true] at h
        obtain ⟨rfl, rfl⟩ := Prod.mk.inj (Option.some.inj h)
        exact ⟨hw, hv⟩
    · cases h
  · rintro ⟨h1, h2⟩
    refine ⟨i, List.mem_range.mpr (List.getElem?_eq_some_iff.mp h1).1, ?_⟩
    rw [h1]
    simp only [h2, cond_true]
theorem mw_L.has {L : List Value} {ls : Array Slot} (h : mw_L L ls) : lv_has ls L.length (mw_pr L) := ⟨h.1, h.2.1, fun q hq => by
  obtain ⟨i, v⟩ := q
  obtain ⟨h1, h2⟩ := mw_pr_mem.mp hq
  exact h.2.2 i v h1 h2⟩
theorem mw_s1l {L : List Value} {i : Nat} {v : Value} : (mz_st1 L i v).length = L.length := by
  unfold mz_st1
  split
  · rw [List.length_set]
  · split <;> simp only [List.length_set]
theorem mw_s1s {L : List Value} {i : Nat} {v : Value} (h : i < L.length) : (mz_st1 L i v)[i]? = some v := by
  unfold mz_st1
  split
  · exact List.getElem?_set_self h
  · split
    · exact List.getElem?_set_self (by rw [List.length_set]; exact h)
    · exact List.getElem?_set_self (by rw [List.length_set]; exact h)
    · exact List.getElem?_set_self h
theorem mw_s1n {L : List Value} {i q : Nat} {v w : Value} (hq : q ≠ i) (h : (mz_st1 L i v)[q]? = some w) (hw : mw_isv w = true) : L[q]? = some w ∧ ¬ (q + 1 = i ∧ w.category = 2) := by
  unfold mz_st1 at h
  split at h
  · rw [List.getElem?_set_ne (fun e => hq e.symm)] at h
    exact ⟨h, fun e => absurd e.1 (by omega)⟩
  · rename_i j
    split at h
    · rename_i x hx
      rw [List.getElem?_set_ne (fun e => hq e.symm)] at h
      by_cases hj : q = j
      · subst hj
        rw [List.getElem?_set_self (List.getElem?_eq_some_iff.mp hx).1] at h
        cases h
        cases hw
      · rw [List.getElem?_set_ne (fun e => hj e.symm)] at h
        exact ⟨h, fun e => hj (by omega)⟩
    · rename_i x hx
      rw [List.getElem?_set_ne (fun e => hq e.symm)] at h
      by_cases hj : q = j
      · subst hj
        rw [List.getElem?_set_self (List.getElem?_eq_some_iff.mp hx).1] at h
        cases h
        cases hw
      · rw [List.getElem?_set_ne (fun e => hj e.symm)] at h
        exact ⟨h, fun e => hj (by omega)⟩
    · rename_i h1 h2
      rw [List.getElem?_set_ne (fun e => hq e.symm)] at h
      refine ⟨h, fun e => ?_⟩
      have hj : q = j := by omega
      subst hj
      have hc := e.2
      cases w with
      | long x => exact h1 x h
      | double x => exact h2 x h
      | _ => simp [Value.category] at hc
theorem mw_L1 {L : List Value} {ls' : Array Slot} {i : Nat} {v : Value} (hi : i < L.length) (h : lv_has ls' L.length ((i, v) :: (mw_pr L).filter (fun q => !(q.1 == i) && !(q.1 + 1 == i && q.2.category == 2)))) : mw_L (mz_st1 L i v) ls' := by
  refine ⟨h.1.trans mw_s1l.symm, h.2.1, fun q w hq hw => ?_⟩
  by_cases hqi : q = i
  · subst hqi
    rw [mw_s1s hi] at hq
    cases hq
    exact h.2.2 (q, v) List.mem_cons_self
  · obtain ⟨h1, h2⟩ := mw_s1n hqi hq hw
    refine h.2.2 (q, w) (List.mem_cons_of_mem _ (List.mem_filter.mpr ⟨mw_pr_mem.mpr ⟨h1, hw⟩, ?_⟩))
    simp only [Bool.and_eq_true, Bool.not_eq_true', beq_eq_false_iff_ne, Bool.and_eq_false_iff]
    refine ⟨hqi, ?_⟩
    by_cases h3 : q + 1 = i
    · exact Or.inr (by simpa using fun h4 => h2 ⟨h3, h4⟩)
    · exact Or.inl (by simpa using h3)
theorem mw_L2 {L : List Value} {ls' : Array Slot} {i : Nat} {v : Value} (hi : i + 1 < L.length) (h : lv_has ls' L.length ((i, v) :: (mw_pr L).filter (fun q => !(q.1 == i) && (!(q.1 == i + 1) && !(q.1 + 1 == i && q.2.category == 2))))) : mw_L (mz_st2 L i v) ls' := by
  unfold mz_st2
  refine ⟨h.1.trans (by rw [List.length_set, mw_s1l]), h.2.1, fun q w hq hw => ?_⟩
  by_cases hq1 : q = i + 1
  · subst hq1
    rw [List.getElem?_set_self (by rw [mw_s1l]; exact hi)] at hq
    cases hq
    cases hw
  rw [List.getElem?_set_ne (fun e => hq1 e.symm)] at hq
  by_cases hqi : q = i
  · subst hqi
    rw [mw_s1s (by omega)] at hq
    cases hq
    exact h.2.2 (q, v) List.mem_cons_self
  · obtain ⟨h1, h2⟩ := mw_s1n hqi hq hw
    refine h.2.2 (q, w) (List.mem_cons_of_mem _ (List.mem_filter.mpr ⟨mw_pr_mem.mpr ⟨h1, hw⟩, ?_⟩))
    simp only [Bool.and_eq_true, Bool.not_eq_true', beq_eq_false_iff_ne, Bool.and_eq_false_iff]
    refine ⟨hqi, hq1, ?_⟩
    by_cases h3 : q + 1 = i
    · exact Or.inr (by simpa using fun h4 => h2 ⟨h3, h4⟩)
    · exact Or.inl (by simpa using h3)
def mw_u (args : List Value) : List Value := args.flatMap (fun v => if v.category = 2 then [v, .retAddr 0] else [v])
theorem mw_ul (args : List Value) : (mw_u args).length = (lg_sl args).length := by
  induction args with
  | nil => rfl
  | cons v r ih =>
    unfold mw_u lg_sl at ih ⊢
    rw [List.flatMap_cons, List.flatMap_cons, List.length_append, List.length_append, ih]
    by_cases h : v.category = 2
    · rw [if_pos h, if_pos h]
      rfl
    · rw [if_neg h, if_neg h]
      rfl
theorem mw_ug (args : List Value) : ∀ (i : Nat) (v : Value), (mw_u args)[i]? = some v → mw_isv v = true → (lg_sl args)[i]? = some (.val v) := by
  induction args with
  | nil => intro i v h; cases h
  | cons w r ih =>
    intro i v h hv
    unfold mw_u at h
    unfold lg_sl
    rw [List.flatMap_cons] at h ⊢
    by_cases hc : w.category = 2
    · rw [if_pos hc] at h ⊢
      match i, h with
      | 0, h => cases h; rfl
      | 1, h => cases h; cases hv
      | j + 2, h => exact ih j v h hv
    · rw [if_neg hc] at h ⊢
      match i, h with
      | 0, h => cases h; rfl
      | j + 1, h => exact ih j v h hv
theorem mw_en (args : List Value) (n : Nat) (hn : (mz_en args n).length = n) : mw_L (mz_en args n) ((lg_sl args ++ List.replicate (n - (lg_sl args).length) Slot.unset).toArray) := by
  have hu : mz_en args n = mw_u args ++ List.replicate (n - (mw_u args).length) (.retAddr 0) := rfl
  rw [hu, List.length_append, List.length_replicate] at hn
  have hle : (lg_sl args).length ≤ n := by rw [← mw_ul]; omega
  have h := lv_entry args hle
  refine ⟨?_, h.2.1, fun i v hi hv => ?_⟩
  · rw [hu, List.length_append, List.length_replicate]
    exact h.1.trans hn.symm
  · rw [hu] at hi
    by_cases hl : i < (mw_u args).length
    · rw [List.getElem?_append_left hl] at hi
      rw [List.getElem?_toArray, List.getElem?_append_left (by rw [← mw_ul]; exact hl)]
      exact mw_ug args i v hi hv
    · rw [List.getElem?_append_right (by omega)] at hi
      have h2 := List.getElem?_eq_some_iff.mp hi
      obtain ⟨h3, h4⟩ := h2
      rw [List.getElem_replicate] at h4
      subst h4
      cases hv
