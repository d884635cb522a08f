def mz_Ks (sa : Nat → Nat) : mz_K := fun y args M z z' Q => z' = z ∧ ((y = 400 ∧ ∃ i, i < 10 ∧ args = [.ref (sa i)] ∧ Q (some (.int (nI (mw_len10.getD i 0)))) M) ∨ (y = 401 ∧ ∃ i j, i < 10 ∧ j < mw_len10.getD i 0 ∧ args = [.ref (sa i), .int (nI j)] ∧ Q (some (.int ((mw_byt.getD i []).getD j 0))) M))
def mz_Kd (sc : Option (Nat × Nat × (Nat → Int32))) (sa : Nat → Nat) : Nat → mz_K
  | 0 => fun _ _ _ _ _ _ => False
  | d + 1 => fun y args M z z' Q => (y < 292 ∧ (mz_en args (mz_yD y).2.2.1).length = (mz_yD y).2.2.1 ∧ mz_wp sc sa (mz_Kd sc sa d) d (mz_yD y) z' Q 0 (mz_en args (mz_yD y).2.2.1) [] M z) ∨ (3 ≤ d ∧ mz_Ks sa y args M z z' Q)
theorem mz_Ks_m {sa : Nat → Nat} : mz_Km (mz_Ks sa) := by
  intro y args M z z' Q Q' hQ h
  refine ⟨h.1, ?_⟩
  rcases h.2 with ⟨h1, i, h2, h3, h4⟩ | ⟨h1, i, j, h2, h3, h4, h5⟩
  · exact Or.inl ⟨h1, i, h2, h3, hQ _ _ h4⟩
  · exact Or.inr ⟨h1, i, j, h2, h3, h4, hQ _ _ h5⟩
theorem mz_Kd_m (sc : Option (Nat × Nat × (Nat → Int32))) (sa : Nat → Nat) : ∀ d, mz_Km (mz_Kd sc sa d) := by
  intro d
  induction d with
  | zero => intro y args M z z' Q Q' hQ h; exact h.elim
  | succ d ih =>
    intro y args M z z' Q Q' hQ h
    rcases h with ⟨h1, h2, h3⟩ | ⟨h1, h2⟩
    · exact Or.inl ⟨h1, h2, mz_wp_m ih hQ h3⟩
    · exact Or.inr ⟨h1, mz_Ks_m _ _ _ _ _ _ _ hQ h2⟩
theorem mk_end {p : Program} {l : Launch} {e : Env} {R : Room} {s : State} {m : MethodId} {args : Array Value} {below : List Frame} {meth : Method} {c : Code} {D : va_G} {C : Nat → ClassId} {z0 : Nat} {Y : mz_Y} {zs B : Nat × Nat} {Q : mz_P} (hx : p.tables.exec = Jvm.exec) (hb : c.code = Y.2.1) (hr : meth.sig.returnType = Y.2.2.2.1) (hlocks : meth.locks = false) :
    ∀ (v : Option Value) (i : Instr) (M' : mz_M) (H : Heap) (locs : List Loc) (ls : Array Slot) (pc : Nat), decode Y.2.1 pc = .ok (i, 1) → ms_ret i v Y.2.2.2.1 → Q v M' → H.size = B.1 → va_P D mz_cl (mw_w C M' z0 (B.1 - z0)) H → mw_kz z0 (B.1 - z0) M' → va_S (mw_A z0) s.heap H locs → W p l e R s m args below meth c H locs (B.1 - zs.1) (B.2 - zs.2) (MQ below (mw_Qc D C z0 Q B) args s (B.1 - zs.1) (B.2 - zs.2) (mw_A z0)) (F0 m pc ls v.toList) := by
  intro v i M' H locs ls pc hd hret hQ hsz hP hk hS
  have hq : ∀ t : State, t.heap = H → s.WarmedH t.vm → mw_Qc D C z0 Q B args s (.returned v) t := fun t ht _ => ⟨⟨v, M', rfl, hQ, by rw [ht]; exact hsz, by rw [ht]; exact hP, hk⟩, hS.F ht⟩
  rcases hret with ⟨rfl, rfl, h1⟩ | ⟨x, t, rfl, rfl, h1, h2⟩ | ⟨x, rfl, rfl, h1⟩ | ⟨w, n, rfl, rfl, h1, h2⟩
  · exact W.vret hx hb (hr.trans h1) hq hS.2.2 hd hlocks
  · exact W.zret hx hb (hr.trans h1) h2 hq hS.2.2 hd hlocks
  · exact W.lret hx hb (hr.trans h1) hq hS.2.2 hd hlocks
  · exact W.aret hx hb (hr.trans h1) (Or.inl ⟨n, rfl⟩) h2 hq hS.2.2 hd hlocks
theorem mk_one {l : Launch} {D : va_G} {C : Nat → ClassId} {z0 : Nat} {sc : Option (Nat × Nat × (Nat → Int32))} {sa sv : Nat → Nat} {K : mz_K} {d y : Nat} {args : List Value} {M : mz_M} {z z' : Nat × Nat} {Q : mz_P}
    (hKs : ∀ y a M z z' Q', K y a M z z' Q' → z.1 ≤ z'.1 → z.2 ≤ z'.2 → 1 ≤ d ∧ mw_Met l D C z0 sc sa sv (d - 1) y a M z z' Q') (hy : y < 292) (hen : (mz_en args (mz_yD y).2.2.1).length = (mz_yD y).2.2.1) (hwp : mz_wp sc sa K d (mz_yD y) z' Q 0 (mz_en args (mz_yD y).2.2.1) [] M z) (hz1 : z.1 ≤ z'.1) (hz2 : z.2 ≤ z'.2) : mw_Met l D C z0 sc sa sv d y args M z z' Q := by
  obtain ⟨f1, f2, f3, f4, f5, f6, f7⟩ := ms_cmf hy
  unfold mw_Met
  rw [mw_y_of hy]
  refine Met.ofW (cc := (mz_yD y).2.1) (maxL := (mz_yD y).2.2.1) (ret := (mz_yD y).2.2.2.1) (by show plainName (mz_yD y).1.cls = true; rw [f2]; exact (mz_pln _ f3).1) rfl ?_
  intro p e s m args2 below meth c s₁ Bd hml hv
  obtain ⟨rfl, hE, hsz, hz0, hP, hkz⟩ := hv
  have hts : ∀ w ∈ mw_Ts, w.before args.toArray s = true := fun w hw => atoms_spec (ws := Cond.code (mz_yD y).1 (mz_yD y).2.1 (mz_yD y).2.2.1 (mz_yD y).2.2.2.1 :: mw_Ts) Bd.pre w (List.mem_cons_of_mem _ hw)
  have hown : s.vm.findClass (mz_cN (mz_yD y).2.2.2.2.1) = some m.cls := by
    rw [← f2]
    exact findClass_of_methodNamed Bd.named
  have X : ms_X p l e (mw_rm d z z') s m args.toArray below meth c (MQ below (mw_Qc D C z0 Q z') args.toArray s (z'.1 - z.1) (z'.2 - z.2) (mw_A z0)) D C z0 sc sa sv K d (mz_yD y) z z' Q :=
    ⟨Bd.exec, Bd.bytes, hml, hown, hts, fun hi => by
      rw [hi] at f4
      exact (name_of_methodNamed Bd.named Bd.method).1.trans (of_decide_eq_true f4.symm), hE, mz_cka y (by omega), hsz, hz0, ⟨Nat.le_refl _, Nat.le_refl _, Nat.le_refl _, Nat.le_refl _⟩, hKs, mk_end Bd.exec Bd.bytes Bd.returns Bd.notSynchronized⟩
  rw [lg_entry_eq]
  have h9 := hwp _ (ms_step X) s.heap [] _ ⟨mw_en args _ hen, hen, Nat.le_refl _, Nat.le_refl _, hz1, hz2, hP, hkz, va_S.rf⟩
  exact W.cs (by omega) (by omega) h9
theorem mk_sound {l : Launch} {D : va_G} {C : Nat → ClassId} {z0 : Nat} {sc : Option (Nat × Nat × (Nat → Int32))} {sa sv : Nat → Nat}
    (hstr : ∀ d y args M z z' Q, 3 ≤ d → mz_Ks sa y args M z z' Q → mw_Met l D C z0 sc sa sv d y args M z z' Q) :
    ∀ d y args M z z' Q, mz_Kd sc sa (d + 1) y args M z z' Q → z.1 ≤ z'.1 → z.2 ≤ z'.2 → mw_Met l D C z0 sc sa sv d y args M z z' Q := by
  intro d
  induction d with
  | zero =>
    intro y args M z z' Q h hz1 hz2
    rcases h with ⟨h1, h2, h3⟩ | ⟨h1, -⟩
    · exact mk_one (fun _ _ _ _ _ _ hk => hk.elim) h1 h2 h3 hz1 hz2
    · exact absurd h1 (by decide)
  | succ d ih =>
    intro y args M z z' Q h hz1 hz2
    rcases h with ⟨h1, h2, h3⟩ | ⟨h1, h2⟩
    · exact mk_one (fun y2 a2 M2 u u' Q2 hk k1 k2 => ⟨by omega, ih y2 a2 M2 u u' Q2 hk k1 k2⟩) h1 h2 h3 hz1 hz2
    · exact hstr _ _ _ _ _ _ _ h1 h2
