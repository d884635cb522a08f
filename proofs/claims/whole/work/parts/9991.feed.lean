theorem c_feed1 {sc : Option (Nat × Nat × (Nat → Int32))} {sa : Nat → Nat} {d : Nat} {z1 z2 : Nat} {x T p r : Nat} {M : mz_M} (h : iV x T p r M) (hT : T + 20 ≤ 500) (hz : x + 107 < z1) {a b g k e : Int32} : ∃ M1, zx sc sa (d + 16) 104 [.ref x, .int a, .int b, .int g, .int k, .int e] M (z1, z2) (z1, z2) (some (.int (nI (T + 20)))) M1 ∧ M1.2.2 = M.2.2 ∧ mz_Kd sc sa (d + 16) 172 [.ref (x + 87), .int a, .int b, .int g, .int k, .int e] M1 (z1, z2) (z1 + 1, z2 + 5) (fun r' M2 => ∃ v, r' = some (.int v) ∧ v = nI (T + 20) ∧ ∃ p r, iV x (T + 20) p r M2) := by
  obtain ⟨w, wm, ⟨t1, t2, t3, t4, t5, t6⟩, -⟩ := id h
  have et : taP M (x + 1) (M.1 (x + 1 + 1)) (M.1 (x + 1) 1) (M.1 (x + 1) 2) (M.1 (x + 1) 3) (M.1 (x + 1) 4) (nI T) (M.1 (x + 1) 6) (M.1 (x + 1) 7) (M.1 (x + 1) 8) (M.1 (x + 1) 9) (M.1 (x + 1) 10) (M.1 (x + 1) 11) = M := by
    rw [← t2]
    exact taP_eta
  obtain ⟨s1, s2, s3, s4, s5, q1, q2, q3, q4, q5, f1, f2⟩ := @pu5 a b g k e (M.1 (x + 1 + 1)) T hT
  have hx := q_X_feed (sc := sc) (sa := sa) (d := d + 14) (z := (z1, z2)) (M := M) (sg := M.1 (x + 1 + 1)) (e1 := M.1 (x + 1) 1) (e2 := M.1 (x + 1) 2) (e3 := M.1 (x + 1) 3) (e4 := M.1 (x + 1) 4) (e6 := M.1 (x + 1) 6) (e7 := M.1 (x + 1) 7) (e8 := M.1 (x + 1) 8) (e9 := M.1 (x + 1) 9) (e10 := M.1 (x + 1) 10) (e11 := M.1 (x + 1) 11) w t1 hT q1 q2 q3 q4 q5
  rw [et] at hx
  refine ⟨_, hx, rfl, ?_⟩
  have ho : ∀ y, ¬ y = x + 1 → ¬ y = x + 1 + 1 → (taP M (x + 1) s5 (M.1 (x + 1) 1) (M.1 (x + 1) 2) (M.1 (x + 1) 3) (M.1 (x + 1) 4) (nI (T + 20)) (M.1 (x + 1) 6) (M.1 (x + 1) 7) (M.1 (x + 1) 8) (M.1 (x + 1) 9) (M.1 (x + 1) 10) (M.1 (x + 1) 11)).1 y = M.1 y := fun y h1 h2 => taP_o h1 h2
  have em := moF_e2 (m := x + 87) (ho _ (by omega) (by omega)) (A := fun j => M.1 (x + 87 + j)) (fun j _ _ => ho _ (by omega) (by omega))
  have hm := q_Mo_feed (sc := sc) (sa := sa) (d := d + 15) (z1 := z1) (z2 := z2) (M := (taP M (x + 1) s5 (M.1 (x + 1) 1) (M.1 (x + 1) 2) (M.1 (x + 1) 3) (M.1 (x + 1) 4) (nI (T + 20)) (M.1 (x + 1) 6) (M.1 (x + 1) 7) (M.1 (x + 1) 8) (M.1 (x + 1) 9) (M.1 (x + 1) 10) (M.1 (x + 1) 11))) (m := x + 87) wm (F := M.1 (x + 87)) (A := fun j => M.1 (x + 87 + j)) (a := a) (b := b) (g := g) (k := k) (e := e) t3 hT (by omega)
  rw [em] at hm
  refine mz_Kd_m sc sa _ _ _ _ _ _ _ _ (fun r9 M9 g9 => ?_) hm
  obtain ⟨v, gv, gw, M5, R, rfl, r1, r2, n5⟩ := g9
  have n1 : ∀ y, y ≤ x + 107 → ¬ y = x + 1 → ¬ y = x + 1 + 1 → M5.1 y = M.1 y := fun y y1 y2 y3 => (n5 y (by omega)).1.trans (ho y y2 y3)
  have n2 : ∀ y, y ≤ x + 107 → M5.2.1 y = M.2.1 y := fun y y1 => (n5 y (by omega)).2.1
  have n3 : ∀ y, y ≤ x + 107 → M5.2.2.1 y = M.2.2.1 y := fun y y1 => (n5 y (by omega)).2.2.1
  have n4 : ∀ y, y ≤ x + 107 → M5.2.2.2 y = M.2.2.2 y := fun y y1 => (n5 y (by omega)).2.2.2
  refine ⟨v, gv, gw, p, r, iV_t h (g_X_c w (fun y y1 y2 => ⟨n3 y (by omega), n4 y (by omega)⟩)) (g_Mo_c (n3 _ (by omega)) (fun j hj => n4 _ (by omega)) wm) ?_ (fun y y1 y2 _ => ⟨(moF_o (by omega)).trans (n1 _ (by omega) (by omega) (by omega)), n2 y (by omega)⟩) (fun j _ => by rw [moF_a (by omega) (by omega), up_n (by omega)]) (by rw [moF_a (by omega) (by omega), up_n (by omega)]) (by rw [moF_a (by omega) (by omega), up_n (by omega)])⟩
  refine ⟨hT, ?_, ?_, fun i hi => ?_, ?_, ?_⟩
  · rw [moF_o (by omega), (n5 _ (by omega)).1]
    exact taP_g5
  · rw [moF_g, up_s]
  · rw [moF_a (by omega) (by omega), moF_o (by omega), (n5 _ (by omega)).1, taP_a0, bt_lt hi, up_s]
    by_cases gi : i < T
    · rw [r2 i (Or.inl gi), f1 i gi]
      have := t4 i gi
      rw [bt_lt gi] at this
      exact this
    · have e1 : i = T + (i - T) := by omega
      rw [e1, r1 (i - T) (by omega), f2 (i - T) (by omega)]
  · rw [moF_o (by omega), (n5 _ (by omega)).1, taP_g10, moF_g, up_n (by omega)]
    exact t5
  · rw [moF_o (by omega), (n5 _ (by omega)).1, taP_g11, moF_g, up_n (by omega)]
    exact t6
theorem c_feed0 {sc : Option (Nat × Nat × (Nat → Int32))} {sa : Nat → Nat} {d : Nat} {z : Nat × Nat} {x T p r : Nat} {M : mz_M} (h : iV x T p r M) (hT : ¬ T + 20 ≤ 500) {a b g k e : Int32} : tw sc sa (d + 16) 104 172 [.ref x, .int a, .int b, .int g, .int k, .int e] [.ref (x + 87), .int a, .int b, .int g, .int k, .int e] M z (fun M2 => ∃ p r, iV x (T) p r M2) := by
  obtain ⟨w, wm, ⟨t1, t2, t3, t4, t5, t6⟩, -⟩ := id h
  have et : taP M (x + 1) (M.1 (x + 1 + 1)) (M.1 (x + 1) 1) (M.1 (x + 1) 2) (M.1 (x + 1) 3) (M.1 (x + 1) 4) (nI T) (M.1 (x + 1) 6) (M.1 (x + 1) 7) (M.1 (x + 1) 8) (M.1 (x + 1) 9) (M.1 (x + 1) 10) (M.1 (x + 1) 11) = M := by
    rw [← t2]
    exact taP_eta
  have hx := n_X_feed (sc := sc) (sa := sa) (d := d + 14) (z := z) (M := M) (sg := M.1 (x + 1 + 1)) (e1 := M.1 (x + 1) 1) (e2 := M.1 (x + 1) 2) (e3 := M.1 (x + 1) 3) (e4 := M.1 (x + 1) 4) (e6 := M.1 (x + 1) 6) (e7 := M.1 (x + 1) 7) (e8 := M.1 (x + 1) 8) (e9 := M.1 (x + 1) 9) (e10 := M.1 (x + 1) 10) (e11 := M.1 (x + 1) 11) w t1 hT (a := a) (b := b) (g := g) (k := k) (e := e)
  rw [et] at hx
  refine tw_q h hx (fun M1 w1 => ?_)
  refine zi_m (fun v' M2 g9 => ?_) (n_Mo_feed w1 t3 hT t1)
  exact ⟨g9.1, _, _, g9.2, mPe_r⟩
