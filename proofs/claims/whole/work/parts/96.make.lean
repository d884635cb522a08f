abbrev nQ : Type := (Nat → Nat → Int32) × (Nat → Nat → Int64) × (Nat → Nat → Option Nat) × (Nat → Nat × Nat)
theorem nw_c {α : Type} {f g : Nat → α} {b n : Nat} {x : α} : va_up (fun a => if b ≤ a ∧ a < b + n then f (a - b) else g a) (b + n) x = fun a => if b ≤ a ∧ a < b + (n + 1) then va_up f n x (a - b) else g a := by
  funext a
  by_cases h : a = b + n
  · subst h
    rw [up_s, if_pos (by omega), Nat.add_sub_cancel_left, up_s]
  · rw [up_n h]
    by_cases h2 : b ≤ a ∧ a < b + n
    · rw [if_pos h2, if_pos (by omega), up_n (by omega)]
    · rw [if_neg h2, if_neg (by omega)]
theorem nw_u {α : Type} {f g : Nat → α} {b n i : Nat} (hi : i < n) {x : α} : va_up (fun a => if b ≤ a ∧ a < b + n then f (a - b) else g a) (b + i) x = fun a => if b ≤ a ∧ a < b + n then va_up f i x (a - b) else g a := by
  funext a
  by_cases h : a = b + i
  · subst h
    rw [up_s, if_pos (by omega), Nat.add_sub_cancel_left, up_s]
  · rw [up_n h]
    by_cases h2 : b ≤ a ∧ a < b + n
    · rw [if_pos h2, if_pos h2, up_n (by omega)]
    · rw [if_neg h2, if_neg h2]
def nw (M : mz_M) (b : Nat) (S : nQ) (n : Nat) : mz_M := (fun a => if b ≤ a ∧ a < b + n then S.1 (a - b) else M.1 a, fun a => if b ≤ a ∧ a < b + n then S.2.1 (a - b) else M.2.1 a, fun a => if b ≤ a ∧ a < b + n then S.2.2.1 (a - b) else M.2.2.1 a, fun a => if b ≤ a ∧ a < b + n then S.2.2.2 (a - b) else M.2.2.2 a)
def nN (S : nQ) (n kd len : Nat) : nQ := (va_up S.1 n (fun _ => 0), va_up S.2.1 n (fun _ => 0), va_up S.2.2.1 n (fun _ => none), va_up S.2.2.2 n (kd, len))
def nU (S : nQ) (i j : Nat) (x : Int32) : nQ := (va_up S.1 i (va_up (S.1 i) j x), S.2)
def nR (S : nQ) (i j x : Nat) : nQ := (S.1, S.2.1, va_up S.2.2.1 i (va_up (S.2.2.1 i) j (some x)), S.2.2.2)
theorem kk_N {S : nQ} {n kd len i : Nat} {v : Nat × Nat} (h : i < n) (e : S.2.2.2 i = v) : (nN S n kd len).2.2.2 i = v := (up_n (by omega)).trans e
theorem kk_U {S : nQ} {a j i : Nat} {x : Int32} {v : Nat × Nat} (e : S.2.2.2 i = v) : (nU S a j x).2.2.2 i = v := e
theorem kk_R {S : nQ} {a j x i : Nat} {v : Nat × Nat} (e : S.2.2.2 i = v) : (nR S a j x).2.2.2 i = v := e
theorem nw_1 {M : mz_M} {b : Nat} {S : nQ} {n i : Nat} (hi : i < n) : (nw M b S n).1 (b + i) = S.1 i := by
  show (if b ≤ b + i ∧ b + i < b + n then S.1 (b + i - b) else M.1 (b + i)) = _
  rw [if_pos (by omega), Nat.add_sub_cancel_left]
theorem nw_2 {M : mz_M} {b : Nat} {S : nQ} {n i : Nat} (hi : i < n) : (nw M b S n).2.1 (b + i) = S.2.1 i := by
  show (if b ≤ b + i ∧ b + i < b + n then S.2.1 (b + i - b) else M.2.1 (b + i)) = _
  rw [if_pos (by omega), Nat.add_sub_cancel_left]
theorem nw_3 {M : mz_M} {b : Nat} {S : nQ} {n i : Nat} (hi : i < n) : (nw M b S n).2.2.1 (b + i) = S.2.2.1 i := by
  show (if b ≤ b + i ∧ b + i < b + n then S.2.2.1 (b + i - b) else M.2.2.1 (b + i)) = _
  rw [if_pos (by omega), Nat.add_sub_cancel_left]
theorem nw_4 {M : mz_M} {b : Nat} {S : nQ} {n i : Nat} (hi : i < n) : (nw M b S n).2.2.2 (b + i) = S.2.2.2 i := by
  show (if b ≤ b + i ∧ b + i < b + n then S.2.2.2 (b + i - b) else M.2.2.2 (b + i)) = _
  rw [if_pos (by omega), Nat.add_sub_cancel_left]
theorem nw_new {M : mz_M} {b : Nat} {S : nQ} {n kd len : Nat} : mz_new (nw M b S n) (b + n) kd len = nw M b (nN S n kd len) (n + 1) := by
  unfold mz_new nw nN
  dsimp only
  rw [nw_c, nw_c, nw_c, nw_c]
theorem nw_uI {M : mz_M} {b : Nat} {S : nQ} {n i j : Nat} {x : Int32} (hi : i < n) : mz_uI (nw M b S n) (b + i) j x = nw M b (nU S i j x) n := by
  unfold mz_uI
  rw [nw_1 hi]
  unfold nw nU
  dsimp only
  rw [nw_u hi]
theorem nw_uR {M : mz_M} {b : Nat} {S : nQ} {n i j x : Nat} (hi : i < n) : mz_uR (nw M b S n) (b + i) j (some x) = nw M b (nR S i j x) n := by
  unfold mz_uR
  rw [nw_3 hi]
  unfold nw nR
  dsimp only
  rw [nw_u hi]
section
variable {sc : Option (Nat × Nat × (Nat → Int32))} {sa : Nat → Nat} {d : Nat} {Y : mz_Y} {B : Nat × Nat} {Q : mz_P} {pc q ln : Nat} {L st : List Value} {M : mz_M} {z : Nat × Nat} {tg : List Nat} {b n n1 s s1 : Nat} {S : nQ}
theorem zn_new {u c r : Nat} (he : mz_lk Y.2.2.2.2.2.2 pc = some (.new u, ln, [c, r])) (hp : pc + 3 = q) (hn : n + 1 = n1) (hs : s + mz_cS c = s1) (h1 : b + n1 ≤ B.1) (h2 : s1 ≤ B.2) (k : zw sc sa d Y B Q q L (.ref (b + n) :: st) (nw M b (nN S n (10 + c) (mz_cS c)) n1) (b + n1, s1)) : zw sc sa d Y B Q pc L st (nw M b S n) (b + n, s) := by
  subst hp
  subst hn
  subst hs
  refine zg he ⟨h1, h2, ?_⟩
  show zw sc sa d Y B Q (pc + 3) L (.ref (b + n) :: st) (mz_new (nw M b S n) (b + n) (10 + c) (mz_cS c)) (b + n + 1, s + mz_cS c)
  rw [nw_new]
  exact k
theorem zn_na {t : ArrayType} {kd len : Nat} {v : Int32} (he : mz_lk Y.2.2.2.2.2.2 pc = some (.newarray t, ln, tg)) (hp : pc + 2 = q) (hk : mz_aty t = kd) (h0 : ¬ kd = 0) (hv : v = nI len) (hl : len ≤ 1000000) (hn : n + 1 = n1) (hs : s + len = s1) (h1 : b + n1 ≤ B.1) (h2 : s1 ≤ B.2) (k : zw sc sa d Y B Q q L (.ref (b + n) :: st) (nw M b (nN S n kd len) n1) (b + n1, s1)) : zw sc sa d Y B Q pc L (.int v :: st) (nw M b S n) (b + n, s) := by
  subst hp
  subst hn
  subst hs
  subst hv
  subst hk
  refine zg he ?_
  show mz_aty t ≠ 0 ∧ ¬ nI len < 0 ∧ (nI len).toNatClampNeg ≤ 1000000 ∧ b + n + 1 ≤ B.1 ∧ s + (nI len).toNatClampNeg ≤ B.2 ∧ zw sc sa d Y B Q (pc + 2) L (.ref (b + n) :: st) (mz_new (nw M b S n) (b + n) (mz_aty t) (nI len).toNatClampNeg) (b + n + 1, s + (nI len).toNatClampNeg)
  rw [nI_clamp (by omega), nw_new]
  exact ⟨h0, nI_nn (by omega), hl, h1, h2, k⟩
theorem zn_aa {u len : Nat} {v : Int32} (he : mz_lk Y.2.2.2.2.2.2 pc = some (.anewarray u, ln, tg)) (hp : pc + 3 = q) (hv : v = nI len) (hl : len ≤ 1000000) (hn : n + 1 = n1) (hs : s + len = s1) (h1 : b + n1 ≤ B.1) (h2 : s1 ≤ B.2) (k : zw sc sa d Y B Q q L (.ref (b + n) :: st) (nw M b (nN S n 5 len) n1) (b + n1, s1)) : zw sc sa d Y B Q pc L (.int v :: st) (nw M b S n) (b + n, s) := by
  subst hp
  subst hn
  subst hs
  subst hv
  refine zg he ?_
  show ¬ nI len < 0 ∧ (nI len).toNatClampNeg ≤ 1000000 ∧ b + n + 1 ≤ B.1 ∧ s + (nI len).toNatClampNeg ≤ B.2 ∧ zw sc sa d Y B Q (pc + 3) L (.ref (b + n) :: st) (mz_new (nw M b S n) (b + n) 5 (nI len).toNatClampNeg) (b + n + 1, s + (nI len).toNatClampNeg)
  rw [nI_clamp (by omega), nw_new]
  exact ⟨nI_nn (by omega), hl, h1, h2, k⟩
theorem zn_putI {u c j r i sz : Nat} {x : Int32} (he : mz_lk Y.2.2.2.2.2.2 pc = some (.putfield u, ln, [c, j, r])) (hp : pc + 3 = q) (hi : mz_iR c j = false) (hf : (mz_cF c j).2.2.2 = true → Y.2.2.2.2.2.1 = true ∧ Y.2.2.2.2.1 = c) (hn : narrow (mz_cY c j) (.int x) = .int x) (ht : fits (mz_cY c j) (.int x) = true) (hin : i < n) (hk : S.2.2.2 i = (10 + c, sz)) (k : zw sc sa d Y B Q q L st (nw M b (nU S i j x) n) z) : zw sc sa d Y B Q pc L (.int x :: .ref (b + i) :: st) (nw M b S n) z :=
  z_putI he hp hi hf hn ht ((nw_4 hin).trans hk) (by rw [nw_uI hin]; exact k)
theorem zn_putR {u c j r i sz x : Nat} (he : mz_lk Y.2.2.2.2.2.2 pc = some (.putfield u, ln, [c, j, r])) (hp : pc + 3 = q) (hi : mz_iR c j = true) (hf : (mz_cF c j).2.2.2 = true → Y.2.2.2.2.2.1 = true ∧ Y.2.2.2.2.1 = c) (hin : i < n) (hk : S.2.2.2 i = (10 + c, sz)) (k : zw sc sa d Y B Q q L st (nw M b (nR S i j x) n) z) : zw sc sa d Y B Q pc L (.ref x :: .ref (b + i) :: st) (nw M b S n) z :=
  z_putR he hp hi hf ((nw_4 hin).trans hk) (by rw [nw_uR hin]; exact k)
theorem zn_obj {u y c r a : Nat} (he : mz_lk Y.2.2.2.2.2.2 pc = some (.invokespecial u, ln, [1, y, 1, c, r])) (hp : pc + 3 = q) (hd : 1 ≤ d) (hs : Nat.ble (mz_sum st) 8 = true) (k : zw sc sa d Y B Q q L st M z) : zw sc sa d Y B Q pc L (.ref a :: st) M z := by
  subst hp
  exact zg he ⟨hd, by simpa using hs, k⟩
theorem zn_sp1 {u y c r a : Nat} {z' : Nat × Nat} {M1 : mz_M} (he : mz_lk Y.2.2.2.2.2.2 pc = some (.invokespecial u, ln, [7, y, 1, c, r])) (hp : pc + 3 = q) (hs : Nat.ble (mz_sum st) 8 = true) (b1 : z.1 ≤ z'.1) (b2 : z.2 ≤ z'.2) (b3 : z'.1 ≤ B.1) (b4 : z'.2 ≤ B.2) (hx : zx sc sa d y [.ref a] M z z' none M1) (k : zw sc sa d Y B Q q L st M1 z') : zw sc sa d Y B Q pc L (.ref a :: st) M z := by
  subst hp
  exact zg he ⟨trivial, by simp, by simpa using hs, z', b1, b2, b3, b4, mz_Kd_m sc sa d _ _ _ _ _ _ _ (fun r2 M2 h2 => by rw [h2.1, h2.2]; exact k) hx⟩
theorem zn_sp2 {u y c r a : Nat} {v : Value} {z' : Nat × Nat} {M1 : mz_M} (he : mz_lk Y.2.2.2.2.2.2 pc = some (.invokespecial u, ln, [5, y, 2, c, r])) (hp : pc + 3 = q) (hs : Nat.ble (mz_sum st) 8 = true) (b1 : z.1 ≤ z'.1) (b2 : z.2 ≤ z'.2) (b3 : z'.1 ≤ B.1) (b4 : z'.2 ≤ B.2) (hx : zx sc sa d y [.ref a, v] M z z' none M1) (k : zw sc sa d Y B Q q L st M1 z') : zw sc sa d Y B Q pc L (v :: .ref a :: st) M z := by
  subst hp
  exact zg he ⟨trivial, by simp, by simpa using hs, z', b1, b2, b3, b4, mz_Kd_m sc sa d _ _ _ _ _ _ _ (fun r2 M2 h2 => by rw [h2.1, h2.2]; exact k) hx⟩
theorem zn_aast {i j x kd len : Nat} (he : mz_lk Y.2.2.2.2.2.2 pc = some (.aastore, ln, tg)) (hp : pc + 1 = q) (hin : i < n) (hxn : x < n) (hk : S.2.2.2 i = (5, len)) (hkx : S.2.2.2 x = (12, kd)) (hj : j < len) (hl : len < 1000) (k : zw sc sa d Y B Q q L st (nw M b (nR S i j (b + x)) n) z) : zw sc sa d Y B Q pc L (.ref (b + x) :: .int (nI j) :: .ref (b + i) :: st) (nw M b S n) z := by
  subst hp
  refine zg he ?_
  show mz_kd (nw M b S n) (b + i) = 5 ∧ mz_kd (nw M b S n) (b + x) = 12 ∧ vp_in (nI j) (mz_ln (nw M b S n) (b + i)) ∧ zw sc sa d Y B Q (pc + 1) L st (mz_uR (nw M b S n) (b + i) (nI j).toNatClampNeg (some (b + x))) z
  rw [nI_clamp (by omega), nw_uR hin]
  refine ⟨by unfold mz_kd; rw [nw_4 hin, hk], by unfold mz_kd; rw [nw_4 hxn, hkx], ?_, k⟩
  unfold mz_ln
  rw [nw_4 hin, hk]
  exact vp_in_nI hj (by omega)
end
/-- the rows of a shelf -/
def iSh (b i n N : Nat) (S : nQ) : nQ := (nR (nN (nR (nN (nR (nN (nR (nN (nR (nN (nU (nU (nU (nU (nU S i 5 0) i 6 0) i 7 0) i 8 0) i 9 0) n 4 N) i 0 (b + n)) (n + 1) 1 N) i 1 (b + (n + 1))) (n + 2) 1 N) i 2 (b + (n + 2))) (n + 3) 1 N) i 3 (b + (n + 3))) (n + 4) 1 N) i 4 (b + (n + 4)))
theorem kk_iSh {b a n N i : Nat} {S : nQ} {v : Nat × Nat} (h : i < n) (e : S.2.2.2 i = v) : (iSh b a n N S).2.2.2 i = v := (kk_R (kk_N (by omega) (kk_R (kk_N (by omega) (kk_R (kk_N (by omega) (kk_R (kk_N (by omega) (kk_R (kk_N (by omega) (kk_U (kk_U (kk_U (kk_U (kk_U e)))))))))))))))
theorem k_Sh_init {sc : Option (Nat × Nat × (Nat → Int32))} {sa : Nat → Nat} {d : Nat} {M : mz_M} {b i n s : Nat} {S : nQ} {N : Nat} (hN1 : 1 ≤ N) (hN2 : N ≤ 200) (hi : i < n) (hK : S.2.2.2 i = (10 + 1, 10)) : zx sc sa (d + 2) 15 [.ref (b + i), .int (nI N)] (nw M b S n) (b + n, s) (b + (n + 5), s + N + N + N + N + N) none (nw M b (iSh b i n N S) (n + 5)) := by
  have hmx : (if nI N < (1 : Int32) then (1 : Int32) else nI N) = nI N := if_neg (Int32.not_lt.mpr (nI_le (a := 1) hN1 (by omega)))
  refine zxin ym_Sh_init [.ref (b + i), .int (nI N), .retAddr 0] rfl rfl rfl rfl ?_
  refine z_aload_n (q := 1) rfl rfl rfl ?_
  refine zn_obj (q := 4) rfl rfl (by omega) rfl ?_
  refine z_aload_n (q := 5) rfl rfl rfl ?_
  refine z_iconst (q := 6) (v := 0) rfl rfl rfl ?_
  refine zn_putI (q := 9) rfl rfl rfl (by decide) rfl rfl (by omega) hK ?_
  refine z_aload_n (q := 10) rfl rfl rfl ?_
  refine z_iconst (q := 11) (v := 0) rfl rfl rfl ?_
  refine zn_putI (q := 14) rfl rfl rfl (by decide) rfl rfl (by omega) (kk_U hK) ?_
  refine z_aload_n (q := 15) rfl rfl rfl ?_
  refine z_iconst (q := 16) (v := 0) rfl rfl rfl ?_
  refine zn_putI (q := 19) rfl rfl rfl (by decide) rfl rfl (by omega) (kk_U (kk_U hK)) ?_
  refine z_aload_n (q := 20) rfl rfl rfl ?_
  refine z_iconst (q := 21) (v := 0) rfl rfl rfl ?_
  refine zn_putI (q := 24) rfl rfl rfl (by decide) rfl rfl (by omega) (kk_U (kk_U (kk_U hK))) ?_
  refine z_aload_n (q := 25) rfl rfl rfl ?_
  refine z_iconst (q := 26) (v := 0) rfl rfl rfl ?_
  refine zn_putI (q := 29) rfl rfl rfl (by decide) rfl rfl (by omega) (kk_U (kk_U (kk_U (kk_U hK)))) ?_
  refine z_iload_n (q := 30) rfl rfl rfl ?_
  refine z_iconst (q := 31) (v := 1) rfl rfl rfl ?_
  refine z_max (q := 34) rfl rfl (by omega) rfl ?_
  refine z_istore_n (q := 35) (L2 := [_, _, _]) rfl rfl rfl rfl ?_
  rw [hmx]
  refine z_aload_n (q := 36) rfl rfl rfl ?_
  refine z_iload_n (q := 37) rfl rfl rfl ?_
  refine zn_na (q := 39) (len := N) (n1 := (n + 1)) (s1 := s + N) rfl rfl (kd := 4) rfl (by decide) rfl (by omega) rfl rfl (by show _ ≤ _; omega) (by show _ ≤ _; omega) ?_
  refine zn_putR (q := 42) rfl rfl rfl (by decide) (by omega) (kk_N (by omega) (kk_U (kk_U (kk_U (kk_U (kk_U hK)))))) ?_
  refine z_aload_n (q := 43) rfl rfl rfl ?_
  refine z_iload_n (q := 44) rfl rfl rfl ?_
  refine zn_na (q := 46) (len := N) (n1 := (n + 2)) (s1 := s + N + N) rfl rfl (kd := 1) rfl (by decide) rfl (by omega) rfl rfl (by show _ ≤ _; omega) (by show _ ≤ _; omega) ?_
  refine zn_putR (q := 49) rfl rfl rfl (by decide) (by omega) (kk_N (by omega) (kk_R (kk_N (by omega) (kk_U (kk_U (kk_U (kk_U (kk_U hK)))))))) ?_
  refine z_aload_n (q := 50) rfl rfl rfl ?_
  refine z_iload_n (q := 51) rfl rfl rfl ?_
  refine zn_na (q := 53) (len := N) (n1 := (n + 3)) (s1 := s + N + N + N) rfl rfl (kd := 1) rfl (by decide) rfl (by omega) rfl rfl (by show _ ≤ _; omega) (by show _ ≤ _; omega) ?_
  refine zn_putR (q := 56) rfl rfl rfl (by decide) (by omega) (kk_N (by omega) (kk_R (kk_N (by omega) (kk_R (kk_N (by omega) (kk_U (kk_U (kk_U (kk_U (kk_U hK)))))))))) ?_
  refine z_aload_n (q := 57) rfl rfl rfl ?_
  refine z_iload_n (q := 58) rfl rfl rfl ?_
  refine zn_na (q := 60) (len := N) (n1 := (n + 4)) (s1 := s + N + N + N + N) rfl rfl (kd := 1) rfl (by decide) rfl (by omega) rfl rfl (by show _ ≤ _; omega) (by show _ ≤ _; omega) ?_
  refine zn_putR (q := 63) rfl rfl rfl (by decide) (by omega) (kk_N (by omega) (kk_R (kk_N (by omega) (kk_R (kk_N (by omega) (kk_R (kk_N (by omega) (kk_U (kk_U (kk_U (kk_U (kk_U hK)))))))))))) ?_
  refine z_aload_n (q := 64) rfl rfl rfl ?_
  refine z_iload_n (q := 65) rfl rfl rfl ?_
  refine zn_na (q := 67) (len := N) (n1 := (n + 5)) (s1 := s + N + N + N + N + N) rfl rfl (kd := 1) rfl (by decide) rfl (by omega) rfl rfl (by show _ ≤ _; omega) (by show _ ≤ _; omega) ?_
  refine zn_putR (q := 70) rfl rfl rfl (by decide) (by omega) (kk_N (by omega) (kk_R (kk_N (by omega) (kk_R (kk_N (by omega) (kk_R (kk_N (by omega) (kk_R (kk_N (by omega) (kk_U (kk_U (kk_U (kk_U (kk_U hK)))))))))))))) ?_
  refine z_ret rfl rfl ?_
  exact ⟨rfl, rfl⟩
def iTa (b i n : Nat) (S : nQ) : nQ := (nU (nU (nU (nU (nU (nU (nU (nU (nU (nU (nU (nR (nN S n 2 500) i 0 (b + n)) i 1 4) i 2 0) i 3 0) i 4 0) i 5 0) i 6 0) i 7 0) i 8 0) i 9 0) i 10 0) i 11 (-1))
theorem kk_iTa {b a n i : Nat} {S : nQ} {v : Nat × Nat} (h : i < n) (e : S.2.2.2 i = v) : (iTa b a n S).2.2.2 i = v := (kk_U (kk_U (kk_U (kk_U (kk_U (kk_U (kk_U (kk_U (kk_U (kk_U (kk_U (kk_R (kk_N (by omega) e)))))))))))))
theorem k_Ta_init {sc : Option (Nat × Nat × (Nat → Int32))} {sa : Nat → Nat} {d : Nat} {M : mz_M} {b i n s : Nat} {S : nQ} (hi : i < n) (hK : S.2.2.2 i = (10 + 3, 12)) : zx sc sa (d + 2) 81 [.ref (b + i)] (nw M b S n) (b + n, s) (b + (n + 1), s + 500) none (nw M b (iTa b i n S) (n + 1)) := by
  refine zxin ym_Ta_init [.ref (b + i)] rfl rfl rfl rfl ?_
  refine z_aload_n (q := 1) rfl rfl rfl ?_
  refine zn_obj (q := 4) rfl rfl (by omega) rfl ?_
  refine z_aload_n (q := 5) rfl rfl rfl ?_
  refine z_sipush (q := 8) (v := 500) rfl rfl rfl ?_
  refine zn_na (q := 10) (len := 500) (n1 := (n + 1)) (s1 := s + 500) rfl rfl (kd := 2) rfl (by decide) rfl (by omega) rfl rfl (by show _ ≤ _; omega) (by show _ ≤ _; omega) ?_
  refine zn_putR (q := 13) rfl rfl rfl (by decide) (by omega) (kk_N (by omega) hK) ?_
  refine z_aload_n (q := 14) rfl rfl rfl ?_
  refine z_iconst (q := 15) (v := 4) rfl rfl rfl ?_
  refine zn_putI (q := 18) rfl rfl rfl (by decide) rfl rfl (by omega) (kk_R (kk_N (by omega) hK)) ?_
  refine z_aload_n (q := 19) rfl rfl rfl ?_
  refine z_iconst (q := 20) (v := 0) rfl rfl rfl ?_
  refine zn_putI (q := 23) rfl rfl rfl (by decide) rfl rfl (by omega) (kk_U (kk_R (kk_N (by omega) hK))) ?_
  refine z_aload_n (q := 24) rfl rfl rfl ?_
  refine z_iconst (q := 25) (v := 0) rfl rfl rfl ?_
  refine zn_putI (q := 28) rfl rfl rfl (by decide) rfl rfl (by omega) (kk_U (kk_U (kk_R (kk_N (by omega) hK)))) ?_
  refine z_aload_n (q := 29) rfl rfl rfl ?_
  refine z_iconst (q := 30) (v := 0) rfl rfl rfl ?_
  refine zn_putI (q := 33) rfl rfl rfl (by decide) rfl rfl (by omega) (kk_U (kk_U (kk_U (kk_R (kk_N (by omega) hK))))) ?_
  refine z_aload_n (q := 34) rfl rfl rfl ?_
  refine z_iconst (q := 35) (v := 0) rfl rfl rfl ?_
  refine zn_putI (q := 38) rfl rfl rfl (by decide) rfl rfl (by omega) (kk_U (kk_U (kk_U (kk_U (kk_R (kk_N (by omega) hK)))))) ?_
  refine z_aload_n (q := 39) rfl rfl rfl ?_
  refine z_iconst (q := 40) (v := 0) rfl rfl rfl ?_
  refine zn_putI (q := 43) rfl rfl rfl (by decide) rfl rfl (by omega) (kk_U (kk_U (kk_U (kk_U (kk_U (kk_R (kk_N (by omega) hK))))))) ?_
  refine z_aload_n (q := 44) rfl rfl rfl ?_
  refine z_iconst (q := 45) (v := 0) rfl rfl rfl ?_
  refine zn_putI (q := 48) rfl rfl rfl (by decide) rfl rfl (by omega) (kk_U (kk_U (kk_U (kk_U (kk_U (kk_U (kk_R (kk_N (by omega) hK)))))))) ?_
  refine z_aload_n (q := 49) rfl rfl rfl ?_
  refine z_iconst (q := 50) (v := 0) rfl rfl rfl ?_
  refine zn_putI (q := 53) rfl rfl rfl (by decide) rfl rfl (by omega) (kk_U (kk_U (kk_U (kk_U (kk_U (kk_U (kk_U (kk_R (kk_N (by omega) hK))))))))) ?_
  refine z_aload_n (q := 54) rfl rfl rfl ?_
  refine z_iconst (q := 55) (v := 0) rfl rfl rfl ?_
  refine zn_putI (q := 58) rfl rfl rfl (by decide) rfl rfl (by omega) (kk_U (kk_U (kk_U (kk_U (kk_U (kk_U (kk_U (kk_U (kk_R (kk_N (by omega) hK)))))))))) ?_
  refine z_aload_n (q := 59) rfl rfl rfl ?_
  refine z_iconst (q := 60) (v := 0) rfl rfl rfl ?_
  refine zn_putI (q := 63) rfl rfl rfl (by decide) rfl rfl (by omega) (kk_U (kk_U (kk_U (kk_U (kk_U (kk_U (kk_U (kk_U (kk_U (kk_R (kk_N (by omega) hK))))))))))) ?_
  refine z_aload_n (q := 64) rfl rfl rfl ?_
  refine z_iconst (q := 65) (v := -1) rfl rfl rfl ?_
  refine zn_putI (q := 68) rfl rfl rfl (by decide) rfl rfl (by omega) (kk_U (kk_U (kk_U (kk_U (kk_U (kk_U (kk_U (kk_U (kk_U (kk_U (kk_R (kk_N (by omega) hK)))))))))))) ?_
  refine z_ret rfl rfl ?_
  exact ⟨rfl, rfl⟩
def iSt (b i n : Nat) (S : nQ) : nQ := (nU (nU (nU (nU (nR (nN (nR (nN (nR (nN (nR (nN (nR (nN (nR (nN (nR (iSh b n (n + 1) 40 (nN S n (10 + 1) 10)) i 0 (b + n)) (n + 6) 1 12) i 1 (b + (n + 6))) (n + 7) 1 60) i 2 (b + (n + 7))) (n + 8) 1 60) i 3 (b + (n + 8))) (n + 9) 1 60) i 4 (b + (n + 9))) (n + 10) 1 60) i 5 (b + (n + 10))) (n + 11) 1 60) i 6 (b + (n + 11))) i 7 0) i 8 0) i 9 0) i 10 0)
theorem kk_iSt {b a n i : Nat} {S : nQ} {v : Nat × Nat} (h : i < n) (e : S.2.2.2 i = v) : (iSt b a n S).2.2.2 i = v := (kk_U (kk_U (kk_U (kk_U (kk_R (kk_N (by omega) (kk_R (kk_N (by omega) (kk_R (kk_N (by omega) (kk_R (kk_N (by omega) (kk_R (kk_N (by omega) (kk_R (kk_N (by omega) (kk_R (kk_iSh (by omega) (kk_N (by omega) e)))))))))))))))))))
theorem k_St_init {sc : Option (Nat × Nat × (Nat → Int32))} {sa : Nat → Nat} {d : Nat} {M : mz_M} {b i n s : Nat} {S : nQ} (hi : i < n) (hK : S.2.2.2 i = (10 + 2, 11)) : zx sc sa (d + 3) 66 [.ref (b + i)] (nw M b S n) (b + n, s) (b + (n + 12), s + 10 + 40 + 40 + 40 + 40 + 40 + 12 + 60 + 60 + 60 + 60 + 60) none (nw M b (iSt b i n S) (n + 12)) := by
  refine zxin ym_St_init [.ref (b + i)] rfl rfl rfl rfl ?_
  refine z_aload_n (q := 1) rfl rfl rfl ?_
  refine zn_obj (q := 4) rfl rfl (by omega) rfl ?_
  refine z_aload_n (q := 5) rfl rfl rfl ?_
  refine zn_new (q := 8) (n1 := (n + 1)) (s1 := s + 10) rfl rfl rfl rfl (by show _ ≤ _; omega) (by show _ ≤ _; omega) ?_
  refine z_dup (q := 9) rfl rfl rfl ?_
  refine z_bipush (q := 11) (v := 40) rfl rfl rfl ?_
  refine zn_sp2 (q := 14) (z' := (b + (n + 6), s + 10 + 40 + 40 + 40 + 40 + 40)) rfl rfl rfl (by show b + (n + 1) ≤ b + (n + 6); omega) (by show s + 10 ≤ s + 10 + 40 + 40 + 40 + 40 + 40; omega) (by show b + (n + 6) ≤ _; omega) (by show s + 10 + 40 + 40 + 40 + 40 + 40 ≤ _; omega) (k_Sh_init (b := b) (i := n) (n := (n + 1)) (s := s + 10) (N := 40) (by omega) (by omega) (by omega) (up_s)) ?_
  refine zn_putR (q := 17) rfl rfl rfl (by decide) (by omega) (kk_iSh (by omega) (kk_N (by omega) hK)) ?_
  refine z_aload_n (q := 18) rfl rfl rfl ?_
  refine z_bipush (q := 20) (v := 12) rfl rfl rfl ?_
  refine zn_na (q := 22) (len := 12) (n1 := (n + 7)) (s1 := s + 10 + 40 + 40 + 40 + 40 + 40 + 12) rfl rfl (kd := 1) rfl (by decide) rfl (by omega) rfl rfl (by show _ ≤ _; omega) (by show _ ≤ _; omega) ?_
  refine zn_putR (q := 25) rfl rfl rfl (by decide) (by omega) (kk_N (by omega) (kk_R (kk_iSh (by omega) (kk_N (by omega) hK)))) ?_
  refine z_aload_n (q := 26) rfl rfl rfl ?_
  refine z_bipush (q := 28) (v := 60) rfl rfl rfl ?_
  refine zn_na (q := 30) (len := 60) (n1 := (n + 8)) (s1 := s + 10 + 40 + 40 + 40 + 40 + 40 + 12 + 60) rfl rfl (kd := 1) rfl (by decide) rfl (by omega) rfl rfl (by show _ ≤ _; omega) (by show _ ≤ _; omega) ?_
  refine zn_putR (q := 33) rfl rfl rfl (by decide) (by omega) (kk_N (by omega) (kk_R (kk_N (by omega) (kk_R (kk_iSh (by omega) (kk_N (by omega) hK)))))) ?_
  refine z_aload_n (q := 34) rfl rfl rfl ?_
  refine z_bipush (q := 36) (v := 60) rfl rfl rfl ?_
  refine zn_na (q := 38) (len := 60) (n1 := (n + 9)) (s1 := s + 10 + 40 + 40 + 40 + 40 + 40 + 12 + 60 + 60) rfl rfl (kd := 1) rfl (by decide) rfl (by omega) rfl rfl (by show _ ≤ _; omega) (by show _ ≤ _; omega) ?_
  refine zn_putR (q := 41) rfl rfl rfl (by decide) (by omega) (kk_N (by omega) (kk_R (kk_N (by omega) (kk_R (kk_N (by omega) (kk_R (kk_iSh (by omega) (kk_N (by omega) hK)))))))) ?_
  refine z_aload_n (q := 42) rfl rfl rfl ?_
  refine z_bipush (q := 44) (v := 60) rfl rfl rfl ?_
  refine zn_na (q := 46) (len := 60) (n1 := (n + 10)) (s1 := s + 10 + 40 + 40 + 40 + 40 + 40 + 12 + 60 + 60 + 60) rfl rfl (kd := 1) rfl (by decide) rfl (by omega) rfl rfl (by show _ ≤ _; omega) (by show _ ≤ _; omega) ?_
  refine zn_putR (q := 49) rfl rfl rfl (by decide) (by omega) (kk_N (by omega) (kk_R (kk_N (by omega) (kk_R (kk_N (by omega) (kk_R (kk_N (by omega) (kk_R (kk_iSh (by omega) (kk_N (by omega) hK)))))))))) ?_
  refine z_aload_n (q := 50) rfl rfl rfl ?_
  refine z_bipush (q := 52) (v := 60) rfl rfl rfl ?_
  refine zn_na (q := 54) (len := 60) (n1 := (n + 11)) (s1 := s + 10 + 40 + 40 + 40 + 40 + 40 + 12 + 60 + 60 + 60 + 60) rfl rfl (kd := 1) rfl (by decide) rfl (by omega) rfl rfl (by show _ ≤ _; omega) (by show _ ≤ _; omega) ?_
  refine zn_putR (q := 57) rfl rfl rfl (by decide) (by omega) (kk_N (by omega) (kk_R (kk_N (by omega) (kk_R (kk_N (by omega) (kk_R (kk_N (by omega) (kk_R (kk_N (by omega) (kk_R (kk_iSh (by omega) (kk_N (by omega) hK)))))))))))) ?_
  refine z_aload_n (q := 58) rfl rfl rfl ?_
  refine z_bipush (q := 60) (v := 60) rfl rfl rfl ?_
  refine zn_na (q := 62) (len := 60) (n1 := (n + 12)) (s1 := s + 10 + 40 + 40 + 40 + 40 + 40 + 12 + 60 + 60 + 60 + 60 + 60) rfl rfl (kd := 1) rfl (by decide) rfl (by omega) rfl rfl (by show _ ≤ _; omega) (by show _ ≤ _; omega) ?_
  refine zn_putR (q := 65) rfl rfl rfl (by decide) (by omega) (kk_N (by omega) (kk_R (kk_N (by omega) (kk_R (kk_N (by omega) (kk_R (kk_N (by omega) (kk_R (kk_N (by omega) (kk_R (kk_N (by omega) (kk_R (kk_iSh (by omega) (kk_N (by omega) hK)))))))))))))) ?_
  refine z_aload_n (q := 66) rfl rfl rfl ?_
  refine z_iconst (q := 67) (v := 0) rfl rfl rfl ?_
  refine zn_putI (q := 70) rfl rfl rfl (by decide) rfl rfl (by omega) (kk_R (kk_N (by omega) (kk_R (kk_N (by omega) (kk_R (kk_N (by omega) (kk_R (kk_N (by omega) (kk_R (kk_N (by omega) (kk_R (kk_N (by omega) (kk_R (kk_iSh (by omega) (kk_N (by omega) hK))))))))))))))) ?_
  refine z_aload_n (q := 71) rfl rfl rfl ?_
  refine z_iconst (q := 72) (v := 0) rfl rfl rfl ?_
  refine zn_putI (q := 75) rfl rfl rfl (by decide) rfl rfl (by omega) (kk_U (kk_R (kk_N (by omega) (kk_R (kk_N (by omega) (kk_R (kk_N (by omega) (kk_R (kk_N (by omega) (kk_R (kk_N (by omega) (kk_R (kk_N (by omega) (kk_R (kk_iSh (by omega) (kk_N (by omega) hK)))))))))))))))) ?_
  refine z_aload_n (q := 76) rfl rfl rfl ?_
  refine z_iconst (q := 77) (v := 0) rfl rfl rfl ?_
  refine zn_putI (q := 80) rfl rfl rfl (by decide) rfl rfl (by omega) (kk_U (kk_U (kk_R (kk_N (by omega) (kk_R (kk_N (by omega) (kk_R (kk_N (by omega) (kk_R (kk_N (by omega) (kk_R (kk_N (by omega) (kk_R (kk_N (by omega) (kk_R (kk_iSh (by omega) (kk_N (by omega) hK))))))))))))))))) ?_
  refine z_aload_n (q := 81) rfl rfl rfl ?_
  refine z_iconst (q := 82) (v := 0) rfl rfl rfl ?_
  refine zn_putI (q := 85) rfl rfl rfl (by decide) rfl rfl (by omega) (kk_U (kk_U (kk_U (kk_R (kk_N (by omega) (kk_R (kk_N (by omega) (kk_R (kk_N (by omega) (kk_R (kk_N (by omega) (kk_R (kk_N (by omega) (kk_R (kk_N (by omega) (kk_R (kk_iSh (by omega) (kk_N (by omega) hK)))))))))))))))))) ?_
  refine z_ret rfl rfl ?_
  exact ⟨rfl, rfl⟩
def iPa (b i n : Nat) (S : nQ) : nQ := (nU (nU (nU (nU (nR (nN (nR (nN (nR (nN (nR (nN (nR (nN (nR (iSh b n (n + 1) 200 (nN S n (10 + 1) 10)) i 0 (b + n)) (n + 6) 1 13) i 1 (b + (n + 6))) (n + 7) 1 13) i 2 (b + (n + 7))) (n + 8) 1 13) i 3 (b + (n + 8))) (n + 9) 1 13) i 4 (b + (n + 9))) (n + 10) 1 13) i 5 (b + (n + 10))) i 6 0) i 7 0) i 8 0) i 9 0)
theorem kk_iPa {b a n i : Nat} {S : nQ} {v : Nat × Nat} (h : i < n) (e : S.2.2.2 i = v) : (iPa b a n S).2.2.2 i = v := (kk_U (kk_U (kk_U (kk_U (kk_R (kk_N (by omega) (kk_R (kk_N (by omega) (kk_R (kk_N (by omega) (kk_R (kk_N (by omega) (kk_R (kk_N (by omega) (kk_R (kk_iSh (by omega) (kk_N (by omega) e)))))))))))))))))
theorem k_Pa_init {sc : Option (Nat × Nat × (Nat → Int32))} {sa : Nat → Nat} {d : Nat} {M : mz_M} {b i n s : Nat} {S : nQ} (hi : i < n) (hK : S.2.2.2 i = (10 + 0, 10)) : zx sc sa (d + 3) 0 [.ref (b + i)] (nw M b S n) (b + n, s) (b + (n + 11), s + 10 + 200 + 200 + 200 + 200 + 200 + 13 + 13 + 13 + 13 + 13) none (nw M b (iPa b i n S) (n + 11)) := by
  refine zxin ym_Pa_init [.ref (b + i)] rfl rfl rfl rfl ?_
  refine z_aload_n (q := 1) rfl rfl rfl ?_
  refine zn_obj (q := 4) rfl rfl (by omega) rfl ?_
  refine z_aload_n (q := 5) rfl rfl rfl ?_
  refine zn_new (q := 8) (n1 := (n + 1)) (s1 := s + 10) rfl rfl rfl rfl (by show _ ≤ _; omega) (by show _ ≤ _; omega) ?_
  refine z_dup (q := 9) rfl rfl rfl ?_
  refine z_sipush (q := 12) (v := 200) rfl rfl rfl ?_
  refine zn_sp2 (q := 15) (z' := (b + (n + 6), s + 10 + 200 + 200 + 200 + 200 + 200)) rfl rfl rfl (by show b + (n + 1) ≤ b + (n + 6); omega) (by show s + 10 ≤ s + 10 + 200 + 200 + 200 + 200 + 200; omega) (by show b + (n + 6) ≤ _; omega) (by show s + 10 + 200 + 200 + 200 + 200 + 200 ≤ _; omega) (k_Sh_init (b := b) (i := n) (n := (n + 1)) (s := s + 10) (N := 200) (by omega) (by omega) (by omega) (up_s)) ?_
  refine zn_putR (q := 18) rfl rfl rfl (by decide) (by omega) (kk_iSh (by omega) (kk_N (by omega) hK)) ?_
  refine z_aload_n (q := 19) rfl rfl rfl ?_
  refine z_bipush (q := 21) (v := 13) rfl rfl rfl ?_
  refine zn_na (q := 23) (len := 13) (n1 := (n + 7)) (s1 := s + 10 + 200 + 200 + 200 + 200 + 200 + 13) rfl rfl (kd := 1) rfl (by decide) rfl (by omega) rfl rfl (by show _ ≤ _; omega) (by show _ ≤ _; omega) ?_
  refine zn_putR (q := 26) rfl rfl rfl (by decide) (by omega) (kk_N (by omega) (kk_R (kk_iSh (by omega) (kk_N (by omega) hK)))) ?_
  refine z_aload_n (q := 27) rfl rfl rfl ?_
  refine z_bipush (q := 29) (v := 13) rfl rfl rfl ?_
  refine zn_na (q := 31) (len := 13) (n1 := (n + 8)) (s1 := s + 10 + 200 + 200 + 200 + 200 + 200 + 13 + 13) rfl rfl (kd := 1) rfl (by decide) rfl (by omega) rfl rfl (by show _ ≤ _; omega) (by show _ ≤ _; omega) ?_
  refine zn_putR (q := 34) rfl rfl rfl (by decide) (by omega) (kk_N (by omega) (kk_R (kk_N (by omega) (kk_R (kk_iSh (by omega) (kk_N (by omega) hK)))))) ?_
  refine z_aload_n (q := 35) rfl rfl rfl ?_
  refine z_bipush (q := 37) (v := 13) rfl rfl rfl ?_
  refine zn_na (q := 39) (len := 13) (n1 := (n + 9)) (s1 := s + 10 + 200 + 200 + 200 + 200 + 200 + 13 + 13 + 13) rfl rfl (kd := 1) rfl (by decide) rfl (by omega) rfl rfl (by show _ ≤ _; omega) (by show _ ≤ _; omega) ?_
  refine zn_putR (q := 42) rfl rfl rfl (by decide) (by omega) (kk_N (by omega) (kk_R (kk_N (by omega) (kk_R (kk_N (by omega) (kk_R (kk_iSh (by omega) (kk_N (by omega) hK)))))))) ?_
  refine z_aload_n (q := 43) rfl rfl rfl ?_
  refine z_bipush (q := 45) (v := 13) rfl rfl rfl ?_
  refine zn_na (q := 47) (len := 13) (n1 := (n + 10)) (s1 := s + 10 + 200 + 200 + 200 + 200 + 200 + 13 + 13 + 13 + 13) rfl rfl (kd := 1) rfl (by decide) rfl (by omega) rfl rfl (by show _ ≤ _; omega) (by show _ ≤ _; omega) ?_
  refine zn_putR (q := 50) rfl rfl rfl (by decide) (by omega) (kk_N (by omega) (kk_R (kk_N (by omega) (kk_R (kk_N (by omega) (kk_R (kk_N (by omega) (kk_R (kk_iSh (by omega) (kk_N (by omega) hK)))))))))) ?_
  refine z_aload_n (q := 51) rfl rfl rfl ?_
  refine z_bipush (q := 53) (v := 13) rfl rfl rfl ?_
  refine zn_na (q := 55) (len := 13) (n1 := (n + 11)) (s1 := s + 10 + 200 + 200 + 200 + 200 + 200 + 13 + 13 + 13 + 13 + 13) rfl rfl (kd := 1) rfl (by decide) rfl (by omega) rfl rfl (by show _ ≤ _; omega) (by show _ ≤ _; omega) ?_
  refine zn_putR (q := 58) rfl rfl rfl (by decide) (by omega) (kk_N (by omega) (kk_R (kk_N (by omega) (kk_R (kk_N (by omega) (kk_R (kk_N (by omega) (kk_R (kk_N (by omega) (kk_R (kk_iSh (by omega) (kk_N (by omega) hK)))))))))))) ?_
  refine z_aload_n (q := 59) rfl rfl rfl ?_
  refine z_iconst (q := 60) (v := 0) rfl rfl rfl ?_
  refine zn_putI (q := 63) rfl rfl rfl (by decide) rfl rfl (by omega) (kk_R (kk_N (by omega) (kk_R (kk_N (by omega) (kk_R (kk_N (by omega) (kk_R (kk_N (by omega) (kk_R (kk_N (by omega) (kk_R (kk_iSh (by omega) (kk_N (by omega) hK))))))))))))) ?_
  refine z_aload_n (q := 64) rfl rfl rfl ?_
  refine z_iconst (q := 65) (v := 0) rfl rfl rfl ?_
  refine zn_putI (q := 68) rfl rfl rfl (by decide) rfl rfl (by omega) (kk_U (kk_R (kk_N (by omega) (kk_R (kk_N (by omega) (kk_R (kk_N (by omega) (kk_R (kk_N (by omega) (kk_R (kk_N (by omega) (kk_R (kk_iSh (by omega) (kk_N (by omega) hK)))))))))))))) ?_
  refine z_aload_n (q := 69) rfl rfl rfl ?_
  refine z_iconst (q := 70) (v := 0) rfl rfl rfl ?_
  refine zn_putI (q := 73) rfl rfl rfl (by decide) rfl rfl (by omega) (kk_U (kk_U (kk_R (kk_N (by omega) (kk_R (kk_N (by omega) (kk_R (kk_N (by omega) (kk_R (kk_N (by omega) (kk_R (kk_N (by omega) (kk_R (kk_iSh (by omega) (kk_N (by omega) hK))))))))))))))) ?_
  refine z_aload_n (q := 74) rfl rfl rfl ?_
  refine z_iconst (q := 75) (v := 0) rfl rfl rfl ?_
  refine zn_putI (q := 78) rfl rfl rfl (by decide) rfl rfl (by omega) (kk_U (kk_U (kk_U (kk_R (kk_N (by omega) (kk_R (kk_N (by omega) (kk_R (kk_N (by omega) (kk_R (kk_N (by omega) (kk_R (kk_N (by omega) (kk_R (kk_iSh (by omega) (kk_N (by omega) hK)))))))))))))))) ?_
  refine z_ret rfl rfl ?_
  exact ⟨rfl, rfl⟩
def iMo (b i n : Nat) (S : nQ) : nQ := (nR (nN (nR (nN (nR (nN (nR (nN (nR (nN (nR (nN (nR (nN (nR (nN (nR (nN (nR (nN (nR (nN (nR (nN (nR (nN (nR (nN (nR (nN (nR (nN (nR (nN (nU (nR (nN (nR (nN (nR (nN S n 1 259) i 0 (b + n)) (n + 1) 1 259) i 1 (b + (n + 1))) (n + 2) 1 500) i 2 (b + (n + 2))) i 5 (-1)) (n + 3) 1 2412) i 6 (b + (n + 3))) (n + 4) 1 201) i 7 (b + (n + 4))) (n + 5) 1 201) i 8 (b + (n + 5))) (n + 6) 1 201) i 9 (b + (n + 6))) (n + 7) 1 201) i 10 (b + (n + 7))) (n + 8) 1 201) i 11 (b + (n + 8))) (n + 9) 1 201) i 12 (b + (n + 9))) (n + 10) 1 201) i 13 (b + (n + 10))) (n + 11) 1 60) i 18 (b + (n + 11))) (n + 12) 1 777) i 26 (b + (n + 12))) (n + 13) 3 3) i 27 (b + (n + 13))) (n + 14) 1 12) i 31 (b + (n + 14))) (n + 15) 1 12) i 32 (b + (n + 15))) (n + 16) 1 12) i 33 (b + (n + 16))) (n + 17) 1 12) i 34 (b + (n + 17))) (n + 18) 1 12) i 35 (b + (n + 18))) (n + 19) 1 12) i 36 (b + (n + 19)))
theorem k_Mo_init {sc : Option (Nat × Nat × (Nat → Int32))} {sa : Nat → Nat} {d : Nat} {M : mz_M} {b i n s : Nat} {S : nQ} (hi : i < n) (hK : S.2.2.2 i = (10 + 5, 38)) : zx sc sa (d + 2) 171 [.ref (b + i)] (nw M b S n) (b + n, s) (b + (n + 20), s + 259 + 259 + 500 + 2412 + 201 + 201 + 201 + 201 + 201 + 201 + 201 + 60 + 777 + 3 + 12 + 12 + 12 + 12 + 12 + 12) none (nw M b (iMo b i n S) (n + 20)) := by
  refine zxin ym_Mo_init [.ref (b + i)] rfl rfl rfl rfl ?_
  refine z_aload_n (q := 1) rfl rfl rfl ?_
  refine zn_obj (q := 4) rfl rfl (by omega) rfl ?_
  refine z_aload_n (q := 5) rfl rfl rfl ?_
  refine z_sipush (q := 8) (v := 259) rfl rfl rfl ?_
  refine zn_na (q := 10) (len := 259) (n1 := (n + 1)) (s1 := s + 259) rfl rfl (kd := 1) rfl (by decide) rfl (by omega) rfl rfl (by show _ ≤ _; omega) (by show _ ≤ _; omega) ?_
  refine zn_putR (q := 13) rfl rfl rfl (by decide) (by omega) (kk_N (by omega) hK) ?_
  refine z_aload_n (q := 14) rfl rfl rfl ?_
  refine z_sipush (q := 17) (v := 259) rfl rfl rfl ?_
  refine zn_na (q := 19) (len := 259) (n1 := (n + 2)) (s1 := s + 259 + 259) rfl rfl (kd := 1) rfl (by decide) rfl (by omega) rfl rfl (by show _ ≤ _; omega) (by show _ ≤ _; omega) ?_
  refine zn_putR (q := 22) rfl rfl rfl (by decide) (by omega) (kk_N (by omega) (kk_R (kk_N (by omega) hK))) ?_
  refine z_aload_n (q := 23) rfl rfl rfl ?_
  refine z_sipush (q := 26) (v := 500) rfl rfl rfl ?_
  refine zn_na (q := 28) (len := 500) (n1 := (n + 3)) (s1 := s + 259 + 259 + 500) rfl rfl (kd := 1) rfl (by decide) rfl (by omega) rfl rfl (by show _ ≤ _; omega) (by show _ ≤ _; omega) ?_
  refine zn_putR (q := 31) rfl rfl rfl (by decide) (by omega) (kk_N (by omega) (kk_R (kk_N (by omega) (kk_R (kk_N (by omega) hK))))) ?_
  refine z_aload_n (q := 32) rfl rfl rfl ?_
  refine z_iconst (q := 33) (v := -1) rfl rfl rfl ?_
  refine zn_putI (q := 36) rfl rfl rfl (by decide) rfl rfl (by omega) (kk_R (kk_N (by omega) (kk_R (kk_N (by omega) (kk_R (kk_N (by omega) hK)))))) ?_
  refine z_aload_n (q := 37) rfl rfl rfl ?_
  refine z_sipush (q := 40) (v := 2412) rfl rfl rfl ?_
  refine zn_na (q := 42) (len := 2412) (n1 := (n + 4)) (s1 := s + 259 + 259 + 500 + 2412) rfl rfl (kd := 1) rfl (by decide) rfl (by omega) rfl rfl (by show _ ≤ _; omega) (by show _ ≤ _; omega) ?_
  refine zn_putR (q := 45) rfl rfl rfl (by decide) (by omega) (kk_N (by omega) (kk_U (kk_R (kk_N (by omega) (kk_R (kk_N (by omega) (kk_R (kk_N (by omega) hK)))))))) ?_
  refine z_aload_n (q := 46) rfl rfl rfl ?_
  refine z_sipush (q := 49) (v := 201) rfl rfl rfl ?_
  refine zn_na (q := 51) (len := 201) (n1 := (n + 5)) (s1 := s + 259 + 259 + 500 + 2412 + 201) rfl rfl (kd := 1) rfl (by decide) rfl (by omega) rfl rfl (by show _ ≤ _; omega) (by show _ ≤ _; omega) ?_
  refine zn_putR (q := 54) rfl rfl rfl (by decide) (by omega) (kk_N (by omega) (kk_R (kk_N (by omega) (kk_U (kk_R (kk_N (by omega) (kk_R (kk_N (by omega) (kk_R (kk_N (by omega) hK)))))))))) ?_
  refine z_aload_n (q := 55) rfl rfl rfl ?_
  refine z_sipush (q := 58) (v := 201) rfl rfl rfl ?_
  refine zn_na (q := 60) (len := 201) (n1 := (n + 6)) (s1 := s + 259 + 259 + 500 + 2412 + 201 + 201) rfl rfl (kd := 1) rfl (by decide) rfl (by omega) rfl rfl (by show _ ≤ _; omega) (by show _ ≤ _; omega) ?_
  refine zn_putR (q := 63) rfl rfl rfl (by decide) (by omega) (kk_N (by omega) (kk_R (kk_N (by omega) (kk_R (kk_N (by omega) (kk_U (kk_R (kk_N (by omega) (kk_R (kk_N (by omega) (kk_R (kk_N (by omega) hK)))))))))))) ?_
  refine z_aload_n (q := 64) rfl rfl rfl ?_
  refine z_sipush (q := 67) (v := 201) rfl rfl rfl ?_
  refine zn_na (q := 69) (len := 201) (n1 := (n + 7)) (s1 := s + 259 + 259 + 500 + 2412 + 201 + 201 + 201) rfl rfl (kd := 1) rfl (by decide) rfl (by omega) rfl rfl (by show _ ≤ _; omega) (by show _ ≤ _; omega) ?_
  refine zn_putR (q := 72) rfl rfl rfl (by decide) (by omega) (kk_N (by omega) (kk_R (kk_N (by omega) (kk_R (kk_N (by omega) (kk_R (kk_N (by omega) (kk_U (kk_R (kk_N (by omega) (kk_R (kk_N (by omega) (kk_R (kk_N (by omega) hK)))))))))))))) ?_
  refine z_aload_n (q := 73) rfl rfl rfl ?_
  refine z_sipush (q := 76) (v := 201) rfl rfl rfl ?_
  refine zn_na (q := 78) (len := 201) (n1 := (n + 8)) (s1 := s + 259 + 259 + 500 + 2412 + 201 + 201 + 201 + 201) rfl rfl (kd := 1) rfl (by decide) rfl (by omega) rfl rfl (by show _ ≤ _; omega) (by show _ ≤ _; omega) ?_
  refine zn_putR (q := 81) rfl rfl rfl (by decide) (by omega) (kk_N (by omega) (kk_R (kk_N (by omega) (kk_R (kk_N (by omega) (kk_R (kk_N (by omega) (kk_R (kk_N (by omega) (kk_U (kk_R (kk_N (by omega) (kk_R (kk_N (by omega) (kk_R (kk_N (by omega) hK)))))))))))))))) ?_
  refine z_aload_n (q := 82) rfl rfl rfl ?_
  refine z_sipush (q := 85) (v := 201) rfl rfl rfl ?_
  refine zn_na (q := 87) (len := 201) (n1 := (n + 9)) (s1 := s + 259 + 259 + 500 + 2412 + 201 + 201 + 201 + 201 + 201) rfl rfl (kd := 1) rfl (by decide) rfl (by omega) rfl rfl (by show _ ≤ _; omega) (by show _ ≤ _; omega) ?_
  refine zn_putR (q := 90) rfl rfl rfl (by decide) (by omega) (kk_N (by omega) (kk_R (kk_N (by omega) (kk_R (kk_N (by omega) (kk_R (kk_N (by omega) (kk_R (kk_N (by omega) (kk_R (kk_N (by omega) (kk_U (kk_R (kk_N (by omega) (kk_R (kk_N (by omega) (kk_R (kk_N (by omega) hK)))))))))))))))))) ?_
  refine z_aload_n (q := 91) rfl rfl rfl ?_
  refine z_sipush (q := 94) (v := 201) rfl rfl rfl ?_
  refine zn_na (q := 96) (len := 201) (n1 := (n + 10)) (s1 := s + 259 + 259 + 500 + 2412 + 201 + 201 + 201 + 201 + 201 + 201) rfl rfl (kd := 1) rfl (by decide) rfl (by omega) rfl rfl (by show _ ≤ _; omega) (by show _ ≤ _; omega) ?_
  refine zn_putR (q := 99) rfl rfl rfl (by decide) (by omega) (kk_N (by omega) (kk_R (kk_N (by omega) (kk_R (kk_N (by omega) (kk_R (kk_N (by omega) (kk_R (kk_N (by omega) (kk_R (kk_N (by omega) (kk_R (kk_N (by omega) (kk_U (kk_R (kk_N (by omega) (kk_R (kk_N (by omega) (kk_R (kk_N (by omega) hK)))))))))))))))))))) ?_
  refine z_aload_n (q := 100) rfl rfl rfl ?_
  refine z_sipush (q := 103) (v := 201) rfl rfl rfl ?_
  refine zn_na (q := 105) (len := 201) (n1 := (n + 11)) (s1 := s + 259 + 259 + 500 + 2412 + 201 + 201 + 201 + 201 + 201 + 201 + 201) rfl rfl (kd := 1) rfl (by decide) rfl (by omega) rfl rfl (by show _ ≤ _; omega) (by show _ ≤ _; omega) ?_
  refine zn_putR (q := 108) rfl rfl rfl (by decide) (by omega) (kk_N (by omega) (kk_R (kk_N (by omega) (kk_R (kk_N (by omega) (kk_R (kk_N (by omega) (kk_R (kk_N (by omega) (kk_R (kk_N (by omega) (kk_R (kk_N (by omega) (kk_R (kk_N (by omega) (kk_U (kk_R (kk_N (by omega) (kk_R (kk_N (by omega) (kk_R (kk_N (by omega) hK)))))))))))))))))))))) ?_
  refine z_aload_n (q := 109) rfl rfl rfl ?_
  refine z_bipush (q := 111) (v := 60) rfl rfl rfl ?_
  refine zn_na (q := 113) (len := 60) (n1 := (n + 12)) (s1 := s + 259 + 259 + 500 + 2412 + 201 + 201 + 201 + 201 + 201 + 201 + 201 + 60) rfl rfl (kd := 1) rfl (by decide) rfl (by omega) rfl rfl (by show _ ≤ _; omega) (by show _ ≤ _; omega) ?_
  refine zn_putR (q := 116) rfl rfl rfl (by decide) (by omega) (kk_N (by omega) (kk_R (kk_N (by omega) (kk_R (kk_N (by omega) (kk_R (kk_N (by omega) (kk_R (kk_N (by omega) (kk_R (kk_N (by omega) (kk_R (kk_N (by omega) (kk_R (kk_N (by omega) (kk_R (kk_N (by omega) (kk_U (kk_R (kk_N (by omega) (kk_R (kk_N (by omega) (kk_R (kk_N (by omega) hK)))))))))))))))))))))))) ?_
  refine z_aload_n (q := 117) rfl rfl rfl ?_
  refine z_sipush (q := 120) (v := 777) rfl rfl rfl ?_
  refine zn_na (q := 122) (len := 777) (n1 := (n + 13)) (s1 := s + 259 + 259 + 500 + 2412 + 201 + 201 + 201 + 201 + 201 + 201 + 201 + 60 + 777) rfl rfl (kd := 1) rfl (by decide) rfl (by omega) rfl rfl (by show _ ≤ _; omega) (by show _ ≤ _; omega) ?_
  refine zn_putR (q := 125) rfl rfl rfl (by decide) (by omega) (kk_N (by omega) (kk_R (kk_N (by omega) (kk_R (kk_N (by omega) (kk_R (kk_N (by omega) (kk_R (kk_N (by omega) (kk_R (kk_N (by omega) (kk_R (kk_N (by omega) (kk_R (kk_N (by omega) (kk_R (kk_N (by omega) (kk_R (kk_N (by omega) (kk_U (kk_R (kk_N (by omega) (kk_R (kk_N (by omega) (kk_R (kk_N (by omega) hK)))))))))))))))))))))))))) ?_
  refine z_aload_n (q := 126) rfl rfl rfl ?_
  refine z_iconst (q := 127) (v := 3) rfl rfl rfl ?_
  refine zn_na (q := 129) (len := 3) (n1 := (n + 14)) (s1 := s + 259 + 259 + 500 + 2412 + 201 + 201 + 201 + 201 + 201 + 201 + 201 + 60 + 777 + 3) rfl rfl (kd := 3) rfl (by decide) rfl (by omega) rfl rfl (by show _ ≤ _; omega) (by show _ ≤ _; omega) ?_
  refine zn_putR (q := 132) rfl rfl rfl (by decide) (by omega) (kk_N (by omega) (kk_R (kk_N (by omega) (kk_R (kk_N (by omega) (kk_R (kk_N (by omega) (kk_R (kk_N (by omega) (kk_R (kk_N (by omega) (kk_R (kk_N (by omega) (kk_R (kk_N (by omega) (kk_R (kk_N (by omega) (kk_R (kk_N (by omega) (kk_R (kk_N (by omega) (kk_U (kk_R (kk_N (by omega) (kk_R (kk_N (by omega) (kk_R (kk_N (by omega) hK)))))))))))))))))))))))))))) ?_
  refine z_aload_n (q := 133) rfl rfl rfl ?_
  refine z_bipush (q := 135) (v := 12) rfl rfl rfl ?_
  refine zn_na (q := 137) (len := 12) (n1 := (n + 15)) (s1 := s + 259 + 259 + 500 + 2412 + 201 + 201 + 201 + 201 + 201 + 201 + 201 + 60 + 777 + 3 + 12) rfl rfl (kd := 1) rfl (by decide) rfl (by omega) rfl rfl (by show _ ≤ _; omega) (by show _ ≤ _; omega) ?_
  refine zn_putR (q := 140) rfl rfl rfl (by decide) (by omega) (kk_N (by omega) (kk_R (kk_N (by omega) (kk_R (kk_N (by omega) (kk_R (kk_N (by omega) (kk_R (kk_N (by omega) (kk_R (kk_N (by omega) (kk_R (kk_N (by omega) (kk_R (kk_N (by omega) (kk_R (kk_N (by omega) (kk_R (kk_N (by omega) (kk_R (kk_N (by omega) (kk_R (kk_N (by omega) (kk_U (kk_R (kk_N (by omega) (kk_R (kk_N (by omega) (kk_R (kk_N (by omega) hK)))))))))))))))))))))))))))))) ?_
  refine z_aload_n (q := 141) rfl rfl rfl ?_
  refine z_bipush (q := 143) (v := 12) rfl rfl rfl ?_
  refine zn_na (q := 145) (len := 12) (n1 := (n + 16)) (s1 := s + 259 + 259 + 500 + 2412 + 201 + 201 + 201 + 201 + 201 + 201 + 201 + 60 + 777 + 3 + 12 + 12) rfl rfl (kd := 1) rfl (by decide) rfl (by omega) rfl rfl (by show _ ≤ _; omega) (by show _ ≤ _; omega) ?_
  refine zn_putR (q := 148) rfl rfl rfl (by decide) (by omega) (kk_N (by omega) (kk_R (kk_N (by omega) (kk_R (kk_N (by omega) (kk_R (kk_N (by omega) (kk_R (kk_N (by omega) (kk_R (kk_N (by omega) (kk_R (kk_N (by omega) (kk_R (kk_N (by omega) (kk_R (kk_N (by omega) (kk_R (kk_N (by omega) (kk_R (kk_N (by omega) (kk_R (kk_N (by omega) (kk_R (kk_N (by omega) (kk_U (kk_R (kk_N (by omega) (kk_R (kk_N (by omega) (kk_R (kk_N (by omega) hK)))))))))))))))))))))))))))))))) ?_
  refine z_aload_n (q := 149) rfl rfl rfl ?_
  refine z_bipush (q := 151) (v := 12) rfl rfl rfl ?_
  refine zn_na (q := 153) (len := 12) (n1 := (n + 17)) (s1 := s + 259 + 259 + 500 + 2412 + 201 + 201 + 201 + 201 + 201 + 201 + 201 + 60 + 777 + 3 + 12 + 12 + 12) rfl rfl (kd := 1) rfl (by decide) rfl (by omega) rfl rfl (by show _ ≤ _; omega) (by show _ ≤ _; omega) ?_
  refine zn_putR (q := 156) rfl rfl rfl (by decide) (by omega) (kk_N (by omega) (kk_R (kk_N (by omega) (kk_R (kk_N (by omega) (kk_R (kk_N (by omega) (kk_R (kk_N (by omega) (kk_R (kk_N (by omega) (kk_R (kk_N (by omega) (kk_R (kk_N (by omega) (kk_R (kk_N (by omega) (kk_R (kk_N (by omega) (kk_R (kk_N (by omega) (kk_R (kk_N (by omega) (kk_R (kk_N (by omega) (kk_R (kk_N (by omega) (kk_U (kk_R (kk_N (by omega) (kk_R (kk_N (by omega) (kk_R (kk_N (by omega) hK)))))))))))))))))))))))))))))))))) ?_
  refine z_aload_n (q := 157) rfl rfl rfl ?_
  refine z_bipush (q := 159) (v := 12) rfl rfl rfl ?_
  refine zn_na (q := 161) (len := 12) (n1 := (n + 18)) (s1 := s + 259 + 259 + 500 + 2412 + 201 + 201 + 201 + 201 + 201 + 201 + 201 + 60 + 777 + 3 + 12 + 12 + 12 + 12) rfl rfl (kd := 1) rfl (by decide) rfl (by omega) rfl rfl (by show _ ≤ _; omega) (by show _ ≤ _; omega) ?_
  refine zn_putR (q := 164) rfl rfl rfl (by decide) (by omega) (kk_N (by omega) (kk_R (kk_N (by omega) (kk_R (kk_N (by omega) (kk_R (kk_N (by omega) (kk_R (kk_N (by omega) (kk_R (kk_N (by omega) (kk_R (kk_N (by omega) (kk_R (kk_N (by omega) (kk_R (kk_N (by omega) (kk_R (kk_N (by omega) (kk_R (kk_N (by omega) (kk_R (kk_N (by omega) (kk_R (kk_N (by omega) (kk_R (kk_N (by omega) (kk_R (kk_N (by omega) (kk_U (kk_R (kk_N (by omega) (kk_R (kk_N (by omega) (kk_R (kk_N (by omega) hK)))))))))))))))))))))))))))))))))))) ?_
  refine z_aload_n (q := 165) rfl rfl rfl ?_
  refine z_bipush (q := 167) (v := 12) rfl rfl rfl ?_
  refine zn_na (q := 169) (len := 12) (n1 := (n + 19)) (s1 := s + 259 + 259 + 500 + 2412 + 201 + 201 + 201 + 201 + 201 + 201 + 201 + 60 + 777 + 3 + 12 + 12 + 12 + 12 + 12) rfl rfl (kd := 1) rfl (by decide) rfl (by omega) rfl rfl (by show _ ≤ _; omega) (by show _ ≤ _; omega) ?_
  refine zn_putR (q := 172) rfl rfl rfl (by decide) (by omega) (kk_N (by omega) (kk_R (kk_N (by omega) (kk_R (kk_N (by omega) (kk_R (kk_N (by omega) (kk_R (kk_N (by omega) (kk_R (kk_N (by omega) (kk_R (kk_N (by omega) (kk_R (kk_N (by omega) (kk_R (kk_N (by omega) (kk_R (kk_N (by omega) (kk_R (kk_N (by omega) (kk_R (kk_N (by omega) (kk_R (kk_N (by omega) (kk_R (kk_N (by omega) (kk_R (kk_N (by omega) (kk_R (kk_N (by omega) (kk_U (kk_R (kk_N (by omega) (kk_R (kk_N (by omega) (kk_R (kk_N (by omega) hK)))))))))))))))))))))))))))))))))))))) ?_
  refine z_aload_n (q := 173) rfl rfl rfl ?_
  refine z_bipush (q := 175) (v := 12) rfl rfl rfl ?_
  refine zn_na (q := 177) (len := 12) (n1 := (n + 20)) (s1 := s + 259 + 259 + 500 + 2412 + 201 + 201 + 201 + 201 + 201 + 201 + 201 + 60 + 777 + 3 + 12 + 12 + 12 + 12 + 12 + 12) rfl rfl (kd := 1) rfl (by decide) rfl (by omega) rfl rfl (by show _ ≤ _; omega) (by show _ ≤ _; omega) ?_
  refine zn_putR (q := 180) rfl rfl rfl (by decide) (by omega) (kk_N (by omega) (kk_R (kk_N (by omega) (kk_R (kk_N (by omega) (kk_R (kk_N (by omega) (kk_R (kk_N (by omega) (kk_R (kk_N (by omega) (kk_R (kk_N (by omega) (kk_R (kk_N (by omega) (kk_R (kk_N (by omega) (kk_R (kk_N (by omega) (kk_R (kk_N (by omega) (kk_R (kk_N (by omega) (kk_R (kk_N (by omega) (kk_R (kk_N (by omega) (kk_R (kk_N (by omega) (kk_R (kk_N (by omega) (kk_R (kk_N (by omega) (kk_U (kk_R (kk_N (by omega) (kk_R (kk_N (by omega) (kk_R (kk_N (by omega) hK)))))))))))))))))))))))))))))))))))))))) ?_
  refine z_ret rfl rfl ?_
  exact ⟨rfl, rfl⟩
