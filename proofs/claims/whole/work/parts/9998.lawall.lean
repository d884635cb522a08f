theorem zn_sp15 {sc : Option (Nat × Nat × (Nat → Int32))} {sa : Nat → Nat} {d : Nat} {Y : mz_Y} {B : Nat × Nat} {Q : mz_P} {pc q ln : Nat} {L st : List Value} {M : mz_M} {z : Nat × Nat} {u y c r a : Nat} {z' : Nat × Nat} {M1 : mz_M} (he : mz_lk Y.2.2.2.2.2.2 pc = some (.invokespecial u, ln, [5, y, 1, c, r])) (hp : pc + 3 = q) (hs : Nat.ble (mz_sum st) 8 = true) (b1 : z.1 ≤ z'.1) (b2 : z.2 ≤ z'.2) (b3 : z'.1 ≤ B.1) (b4 : z'.2 ≤ B.2) (hx : zx sc sa d y [.ref a] M z z' none M1) (k : zw sc sa d Y B Q q L st M1 z') : zw sc sa d Y B Q pc L (.ref a :: st) M z := by
  subst hp
  exact zg he ⟨trivial, by simp, by simpa using hs, z', b1, b2, b3, b4, mz_Kd_m sc sa d _ _ _ _ _ _ _ (fun r2 M2 ⟨h2, h3⟩ => by rw [h2, h3]; exact k) hx⟩
theorem nw_0 {M : mz_M} {b : Nat} {S : nQ} : nw M b S 0 = M := by
  have e : ∀ a, ¬ (b ≤ a ∧ a < b + 0) := fun a => by omega
  refine Prod.ext (funext fun a => if_neg (e a)) (Prod.ext (funext fun a => if_neg (e a)) (Prod.ext (funext fun a => if_neg (e a)) (funext fun a => if_neg (e a))))
def sz0 : nQ := (fun _ _ => 0, fun _ _ => 0, fun _ _ => none, fun _ => (0, 0))
theorem k_Law {sb n : Nat} {f : Nat → Int32} {sa : Nat → Nat} {d : Nat} {Q : mz_P} {M : mz_M} {b s : Nat} (hn : n ≤ 3072) (hQ : ∀ M, Q (some (.int 1)) M) : zw (some (sb, n, f)) sa (d + 16) ym_Law_law (b + 108 + cF f (n / 6) 0 0, s + 10268 + 5 * cF f (n / 6) 0 0) Q 0 [.ref sb, .retAddr 0, .retAddr 0, .retAddr 0] [] M (b, s) := by
  have g0 : zw (some (sb, n, f)) sa (d + 16) ym_Law_law (b + 108 + cF f (n / 6) 0 0, s + 10268 + 5 * cF f (n / 6) 0 0) Q 0 [.ref sb, .retAddr 0, .retAddr 0, .retAddr 0] [] (nw M b sz0 0) (b + 0, s) := by
    refine zn_new (q := 3) (n1 := 1) (s1 := s + 6) (lk_0 rfl rfl) rfl rfl rfl (by show b + 1 ≤ b + 108 + _; omega) (by show s + 6 ≤ s + 10268 + _; omega) ?_
    refine z_dup (q := 4) (lk_0 rfl rfl) rfl rfl ?_
    refine zn_sp15 (q := 7) (lk_0 rfl rfl) rfl rfl (by show b + 1 ≤ b + 87; omega) (by show s + 6 ≤ _; omega) (by show b + 87 ≤ b + 108 + _; omega) (by show s + 6 + 12 + 500 + 3 + 10 + 40 + 40 + 40 + 40 + 40 + 10 + 10 + 200 + 200 + 200 + 200 + 200 + 13 + 13 + 13 + 13 + 13 + 11 + 10 + 40 + 40 + 40 + 40 + 40 + 12 + 60 + 60 + 60 + 60 + 60 + 11 + 10 + 40 + 40 + 40 + 40 + 40 + 12 + 60 + 60 + 60 + 60 + 60 + 11 + 10 + 40 + 40 + 40 + 40 + 40 + 12 + 60 + 60 + 60 + 60 + 60 + 11 + 10 + 40 + 40 + 40 + 40 + 40 + 12 + 60 + 60 + 60 + 60 + 60 + 11 + 10 + 40 + 40 + 40 + 40 + 40 + 12 + 60 + 60 + 60 + 60 + 60 ≤ s + 10268 + _; omega) (k_X_init (d := d + 12) (s := s + 6) (S := nN sz0 0 (10 + 4) 6) kk_0) ?_
    refine z_astore_n (q := 8) (L2 := [_, _, _, _]) (lk_0 rfl rfl) rfl rfl rfl ?_
    refine zn_new (q := 11) (n1 := 88) (s1 := s + 4519) (lk_0 rfl rfl) rfl rfl rfl (by show b + 88 ≤ b + 108 + _; omega) (by show s + 4519 ≤ s + 10268 + _; omega) ?_
    refine z_dup (q := 12) (lk_0 rfl rfl) rfl rfl ?_
    refine zn_sp15 (q := 15) (lk_0 rfl rfl) rfl rfl (by show b + 88 ≤ b + 108; omega) (by show s + 4519 ≤ _; omega) (by show b + 108 ≤ b + 108 + _; omega) (by show s + 4519 + 259 + 259 + 500 + 2412 + 201 + 201 + 201 + 201 + 201 + 201 + 201 + 60 + 777 + 3 + 12 + 12 + 12 + 12 + 12 + 12 ≤ s + 10268 + _; omega) (k_Mo_init (d := d + 14) (i := 87) (n := 88) (s := s + 4519) (S := nN (iX b (nN sz0 0 (10 + 4) 6)) 87 (10 + 5) 38) (by omega) kk_0) ?_
    refine z_astore_n (q := 16) (L2 := [_, _, _, _]) (lk_0 rfl rfl) rfl rfl rfl ?_
    refine z_iconst (q := 17) (v := 0) (lk_0 rfl rfl) rfl rfl ?_
    refine z_istore_n (q := 18) (L2 := [_, _, _, _]) (lk_0 rfl rfl) rfl rfl rfl ?_
    exact l_Law (x := b) hn hQ (n / 6) 0 0 _ (b + 108) (s + 10268) (Nat.zero_add _) ⟨_, _, z_iV (M := M) (S := sz0)⟩ (by omega)
  rw [nw_0] at g0
  exact g0
