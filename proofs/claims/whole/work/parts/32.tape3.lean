theorem t_Ta_wordKind {sc : Option (Nat × Nat × (Nat → Int32))} {sa : Nat → Nat} {d : Nat} {M : mz_M} {z : Nat × Nat} {tp : Nat} {sg : Nat → Int32} {t : Nat} {s : tS} {a6 a7 a8 a9 : Int32} (w : g_Ta M.2.2 tp) (ht : t ≤ 500) (hk : okt t s) : zx sc sa (d + 6) 97 [.ref tp] (tq M tp sg t s a6 a7 a8 a9) z z (some (.int (wkS sg t s))) (tq M tp sg t s a6 a7 a8 a9) := by
  refine zxin ym_Ta_wordKind [.ref tp] rfl rfl rfl rfl ?_
  refine z_aload_n (q := 1) rfl rfl rfl ?_
  refine z_ldcs (q := 3) rfl rfl ?_
  refine z_cv1i (q := 6) rfl rfl rfl (Ta_k w) (t_Ta_isWord w ht hk (by decide)) ?_
  refine z_if_eq (q := 9) rfl rfl (fun h6 => ?_) (fun h6 => ?_)
  · refine z_aload_n (q := 13) rfl rfl rfl ?_
    refine z_ldcs (q := 15) rfl rfl ?_
    refine z_cv1i (q := 18) rfl rfl rfl (Ta_k w) (t_Ta_isWord w ht hk (by decide)) ?_
    refine z_if_eq (q := 21) rfl rfl (fun h18 => ?_) (fun h18 => ?_)
    · refine z_aload_n (q := 25) rfl rfl rfl ?_
      refine z_ldcs (q := 27) rfl rfl ?_
      refine z_cv1i (q := 30) rfl rfl rfl (Ta_k w) (t_Ta_isWord w ht hk (by decide)) ?_
      refine z_if_eq (q := 33) rfl rfl (fun h30 => ?_) (fun h30 => ?_)
      · refine z_aload_n (q := 36) rfl rfl rfl ?_
        refine z_ldcs (q := 38) rfl rfl ?_
        refine z_cv1i (q := 41) rfl rfl rfl (Ta_k w) (t_Ta_isWord w ht hk (by decide)) ?_
        refine z_if_eq (q := 44) rfl rfl (fun h41 => ?_) (fun h41 => ?_)
        · refine z_aload_n (q := 47) rfl rfl rfl ?_
          refine z_ldcs (q := 49) rfl rfl ?_
          refine z_cv1i (q := 52) rfl rfl rfl (Ta_k w) (t_Ta_isWord w ht hk (by decide)) ?_
          refine z_if_eq (q := 55) rfl rfl (fun h52 => ?_) (fun h52 => ?_)
          · refine z_aload_n (q := 58) rfl rfl rfl ?_
            refine z_ldcs (q := 60) rfl rfl ?_
            refine z_cv1i (q := 63) rfl rfl rfl (Ta_k w) (t_Ta_isWord w ht hk (by decide)) ?_
            refine z_if_eq (q := 66) rfl rfl (fun h63 => ?_) (fun h63 => ?_)
            · refine z_aload_n (q := 69) rfl rfl rfl ?_
              refine z_ldcs (q := 71) rfl rfl ?_
              refine z_cv1i (q := 74) rfl rfl rfl (Ta_k w) (t_Ta_isWord w ht hk (by decide)) ?_
              refine z_if_eq (q := 77) rfl rfl (fun h74 => ?_) (fun h74 => ?_)
              · refine z_iconst (q := 82) (v := 0) rfl rfl rfl ?_
                refine z_ireti rfl rfl ?_
                unfold wkS
                first
                  | (rw [if_neg (bz_0.mp h6), if_neg (bz_0.mp h18), if_neg (bz_0.mp h30), if_neg (bz_0.mp h41), if_neg (bz_0.mp h52), if_neg (bz_0.mp h63), if_pos (bz_n.mp h74)]; exact ⟨rfl, rfl⟩)
                  | (rw [if_neg (bz_0.mp h6), if_neg (bz_0.mp h18), if_neg (bz_0.mp h30), if_neg (bz_0.mp h41), if_neg (bz_0.mp h52), if_neg (bz_0.mp h63), if_neg (bz_0.mp h74)]; exact ⟨rfl, rfl⟩)
              · refine z_iconst (q := 78) (v := 5) rfl rfl rfl ?_
                refine z_goto rfl ?_
                refine z_ireti rfl rfl ?_
                unfold wkS
                first
                  | (rw [if_neg (bz_0.mp h6), if_neg (bz_0.mp h18), if_neg (bz_0.mp h30), if_neg (bz_0.mp h41), if_neg (bz_0.mp h52), if_neg (bz_0.mp h63), if_pos (bz_n.mp h74)]; exact ⟨rfl, rfl⟩)
                  | (rw [if_neg (bz_0.mp h6), if_neg (bz_0.mp h18), if_neg (bz_0.mp h30), if_neg (bz_0.mp h41), if_neg (bz_0.mp h52), if_neg (bz_0.mp h63), if_neg (bz_0.mp h74)]; exact ⟨rfl, rfl⟩)
            · refine z_iconst (q := 67) (v := 4) rfl rfl rfl ?_
              refine z_ireti rfl rfl ?_
              unfold wkS
              rw [if_neg (bz_0.mp h6), if_neg (bz_0.mp h18), if_neg (bz_0.mp h30), if_neg (bz_0.mp h41), if_neg (bz_0.mp h52), if_pos (bz_n.mp h63)]
              exact ⟨rfl, rfl⟩
          · refine z_iconst (q := 56) (v := 1) rfl rfl rfl ?_
            refine z_ireti rfl rfl ?_
            unfold wkS
            rw [if_neg (bz_0.mp h6), if_neg (bz_0.mp h18), if_neg (bz_0.mp h30), if_neg (bz_0.mp h41), if_pos (bz_n.mp h52)]
            exact ⟨rfl, rfl⟩
        · refine z_iconst (q := 45) (v := 3) rfl rfl rfl ?_
          refine z_ireti rfl rfl ?_
          unfold wkS
          rw [if_neg (bz_0.mp h6), if_neg (bz_0.mp h18), if_neg (bz_0.mp h30), if_pos (bz_n.mp h41)]
          exact ⟨rfl, rfl⟩
      · refine z_iconst (q := 34) (v := 2) rfl rfl rfl ?_
        refine z_ireti rfl rfl ?_
        unfold wkS
        rw [if_neg (bz_0.mp h6), if_neg (bz_0.mp h18), if_pos (bz_n.mp h30)]
        exact ⟨rfl, rfl⟩
    · refine z_bipush (q := 23) (v := 9) rfl rfl rfl ?_
      refine z_ireti rfl rfl ?_
      unfold wkS
      rw [if_neg (bz_0.mp h6), if_pos (bz_n.mp h18)]
      exact ⟨rfl, rfl⟩
  · refine z_bipush (q := 11) (v := 8) rfl rfl rfl ?_
    refine z_ireti rfl rfl ?_
    unfold wkS
    rw [if_pos (bz_n.mp h6)]
    exact ⟨rfl, rfl⟩
def u1 (sg : Nat → Int32) (t : Nat) (s : tS) : Int32 × tS := tnS sg t (twS sg t s 7) 1 12
def u2 (sg : Nat → Int32) (t : Nat) (s : tS) : Int32 × tS := tnS sg t (twS sg t (u1 sg t s).2 8) 0 2
def u3 (sg : Nat → Int32) (t : Nat) (s : tS) : Int32 × tS := tnS sg t (twS sg t (u2 sg t s).2 9) 0 20
theorem tnS_in {sg : Nat → Int32} {t : Nat} {s : tS} {lo hi : Int32} (h : (tnS sg t s lo hi).2.2.2.2.2.1 = 0) : s.2.2.2.2.1 = 0 ∧ ¬ (tnS sg t s lo hi).1 < lo ∧ (tnS sg t s lo hi).1 ≤ hi := by
  revert h
  unfold tnS
  by_cases c : s.2.2.2.2.1 = 0
  · rw [if_pos c]
    by_cases c2 : s.1 = 2
    · rw [if_pos c2]
      by_cases c3 : s.2.2.2.1 < lo ∨ ¬ s.2.2.2.1 ≤ hi
      · rw [if_pos c3]
        intro h
        exact absurd h (refS_f (by decide))
      · rw [if_neg c3]
        intro h
        exact ⟨c, fun h2 => c3 (Or.inl h2), Decidable.byContradiction fun h2 => c3 (Or.inr h2)⟩
    · rw [if_neg c2]
      intro h
      exact absurd h (refS_f (by decide))
  · rw [if_neg c]
    intro h
    exact absurd h c
theorem tnS_nat {sg : Nat → Int32} {t : Nat} {s : tS} {n : Nat} (h1 : 1 ≤ n) (h2 : n ≤ 200) (h : (tnS sg t s 0 (nI n - 1)).2.2.2.2.2.1 = 0) : ∃ j, j < n ∧ (tnS sg t s 0 (nI n - 1)).1 = nI j := by
  obtain ⟨_, h3, h4⟩ := tnS_in h
  obtain ⟨m, rfl⟩ : ∃ m, n = m + 1 := ⟨n - 1, by omega⟩
  rw [nI_pred] at h4 h3 ⊢
  obtain ⟨j, hj, e⟩ := nI_of2 (nI_toInt (by omega)) h3 h4
  exact ⟨j, by omega, e⟩
theorem t_Ta_takeStore {sc : Option (Nat × Nat × (Nat → Int32))} {sa : Nat → Nat} {d : Nat} {M : mz_M} {z : Nat × Nat} {tp : Nat} {sg : Nat → Int32} {t : Nat} {s : tS} {a6 a7 a8 a9 : Int32} (w : g_Ta M.2.2 tp) (ht : t ≤ 500) (hk : okt t s) : zx sc sa (d + 7) 100 [.ref tp] (tq M tp sg t s a6 a7 a8 a9) z z none (tq M tp sg t (u3 sg t s).2 a6 (u1 sg t s).1 (u2 sg t s).1 (u3 sg t s).1) := by
  refine zxin ym_Ta_takeStore [.ref tp] rfl rfl rfl rfl ?_
  refine z_aload_n (q := 1) rfl rfl rfl ?_
  refine z_ldcs (q := 3) rfl rfl ?_
  refine z_cv1v (q := 6) rfl rfl rfl (Ta_k w) (t_Ta_takeWord w ht hk (by decide)) ?_
  refine z_aload_n (q := 7) rfl rfl rfl ?_
  refine z_aload_n (q := 8) rfl rfl rfl ?_
  refine z_iconst (q := 9) (v := 1) rfl rfl rfl ?_
  refine z_bipush (q := 11) (v := 12) rfl rfl rfl ?_
  refine z_cv2i (q := 14) rfl rfl rfl (Ta_k w) (t_Ta_takeNumber w ht (twS_ok hk)) ?_
  refine z_putI (q := 17) rfl rfl rfl (by decide) rfl rfl (Ta_k w) ?_
  rw [tq_u7]
  refine z_aload_n (q := 18) rfl rfl rfl ?_
  refine z_ldcs (q := 20) rfl rfl ?_
  refine z_cv1v (q := 23) rfl rfl rfl (Ta_k w) (t_Ta_takeWord w ht (tnS_ok (twS_ok hk)) (by decide)) ?_
  refine z_aload_n (q := 24) rfl rfl rfl ?_
  refine z_aload_n (q := 25) rfl rfl rfl ?_
  refine z_iconst (q := 26) (v := 0) rfl rfl rfl ?_
  refine z_iconst (q := 27) (v := 2) rfl rfl rfl ?_
  refine z_cv2i (q := 30) rfl rfl rfl (Ta_k w) (t_Ta_takeNumber w ht (twS_ok (tnS_ok (twS_ok hk)))) ?_
  refine z_putI (q := 33) rfl rfl rfl (by decide) rfl rfl (Ta_k w) ?_
  rw [tq_u8]
  refine z_aload_n (q := 34) rfl rfl rfl ?_
  refine z_ldcs (q := 36) rfl rfl ?_
  refine z_cv1v (q := 39) rfl rfl rfl (Ta_k w) (t_Ta_takeWord w ht (tnS_ok (twS_ok (tnS_ok (twS_ok hk)))) (by decide)) ?_
  refine z_aload_n (q := 40) rfl rfl rfl ?_
  refine z_aload_n (q := 41) rfl rfl rfl ?_
  refine z_iconst (q := 42) (v := 0) rfl rfl rfl ?_
  refine z_bipush (q := 44) (v := 20) rfl rfl rfl ?_
  refine z_cv2i (q := 47) rfl rfl rfl (Ta_k w) (t_Ta_takeNumber w ht (twS_ok (tnS_ok (twS_ok (tnS_ok (twS_ok hk)))))) ?_
  refine z_putI (q := 50) rfl rfl rfl (by decide) rfl rfl (Ta_k w) ?_
  rw [tq_u9]
  refine z_ret rfl rfl ?_
  exact ⟨rfl, rfl⟩
def otB (a p e n : Int32) : Bool := decide (¬ a = 8 ∧ ((a = 9 ∧ ¬ p < 16) ∨ (¬ a = 9 ∧ (30 ≤ e ∨ ((a = 2 ∨ a = 3) ∧ ¬ n < 20)))))
theorem t_Ta_isOneTooMany {sc : Option (Nat × Nat × (Nat → Int32))} {sa : Nat → Nat} {d : Nat} {M : mz_M} {z : Nat × Nat} {tp : Nat} {sg : Nat → Int32} {t : Nat} {s : tS} {a6 a7 a8 a9 : Int32} (w : g_Ta M.2.2 tp) (ht : t ≤ 500) {st : Nat} (v : g_St M.2.2 st) (hf : tp + 1 < st)  : zx sc sa (d + 1) 98 [.ref tp, .ref st] (tq M tp sg t s a6 a7 a8 a9) z z (some (.int (bz (otB a6 (M.1 st 7) (M.1 st 10) (M.1 (st + 1) 8) = true)))) (tq M tp sg t s a6 a7 a8 a9) := by
  have oS_g7 : ∀ {s : tS} {a6 a7 a8 a9 : Int32}, (tq M tp sg t s a6 a7 a8 a9).1 st 7 = M.1 st 7 := fun {s a6 a7 a8 a9} => congrFun (tq_o (by omega) (by omega)) 7
  have oS_g10 : ∀ {s : tS} {a6 a7 a8 a9 : Int32}, (tq M tp sg t s a6 a7 a8 a9).1 st 10 = M.1 st 10 := fun {s a6 a7 a8 a9} => congrFun (tq_o (by omega) (by omega)) 10
  have oH_g8 : ∀ {s : tS} {a6 a7 a8 a9 : Int32}, (tq M tp sg t s a6 a7 a8 a9).1 (st + 1) 8 = M.1 (st + 1) 8 := fun {s a6 a7 a8 a9} => congrFun (tq_o (by omega) (by omega)) 8
  refine zxin ym_Ta_isOneTooMany [.ref tp, .ref st, .retAddr 0] rfl rfl rfl rfl ?_
  refine z_aload_n (q := 1) rfl rfl rfl ?_
  refine z_getI (q := 4) rfl rfl rfl (Ta_k w) ?_
  rw [tq_g6]
  refine z_bipush (q := 6) (v := 8) rfl rfl rfl ?_
  refine z_ic_ne (q := 9) rfl rfl (fun h6 => ?_) (fun h6 => ?_)
  · refine z_aload_n (q := 12) rfl rfl rfl ?_
    refine z_getI (q := 15) rfl rfl rfl (Ta_k w) ?_
    rw [tq_g6]
    refine z_bipush (q := 17) (v := 9) rfl rfl rfl ?_
    refine z_ic_ne (q := 20) rfl rfl (fun h17 => ?_) (fun h17 => ?_)
    · refine z_aload_n (q := 36) rfl rfl rfl ?_
      refine z_getI (q := 39) rfl rfl rfl (Ta_k w) ?_
      rw [tq_g6]
      refine z_iconst (q := 40) (v := 2) rfl rfl rfl ?_
      refine z_ic_eq (q := 43) rfl rfl (fun h40 => ?_) (fun h40 => ?_)
      · refine z_iconst (q := 52) (v := 1) rfl rfl rfl ?_
        refine z_goto rfl ?_
        refine z_istore_n (q := 57) (L2 := [_, _, _]) rfl rfl rfl rfl ?_
        refine z_aload_n (q := 58) rfl rfl rfl ?_
        refine z_getI (q := 61) rfl rfl rfl (St_k v) ?_
        rw [oS_g10]
        refine z_bipush (q := 63) (v := 30) rfl rfl rfl ?_
        refine z_ic_ge (q := 66) rfl rfl (fun h63 => ?_) (fun h63 => ?_)
        · refine z_iconst (q := 83) (v := 1) rfl rfl rfl ?_
          refine z_goto rfl ?_
          refine z_iretz rfl rfl (rfl) ?_
          refine ⟨?_, rfl⟩
          unfold bz otB
          simp_all [Int32.not_lt, Int32.not_le]
        · refine z_iload_n (q := 67) rfl rfl rfl ?_
          refine z_if_eq (q := 70) rfl rfl (fun h67 => ?_) (fun h67 => ?_)
          · exact absurd h67 (by decide)
          · refine z_aload_n (q := 71) rfl rfl rfl ?_
            refine z_getR (q := 74) rfl rfl rfl (St_k v) (St_r0 v) ?_
            refine z_getI (q := 77) rfl rfl rfl (Sh_k (St_w0 v)) ?_
            rw [oH_g8]
            refine z_bipush (q := 79) (v := 20) rfl rfl rfl ?_
            refine z_ic_lt (q := 82) rfl rfl (fun h79 => ?_) (fun h79 => ?_)
            · refine z_iconst (q := 87) (v := 0) rfl rfl rfl ?_
              refine z_iretz rfl rfl (rfl) ?_
              refine ⟨?_, rfl⟩
              unfold bz otB
              simp_all [Int32.not_lt, Int32.not_le]
            · refine z_iconst (q := 83) (v := 1) rfl rfl rfl ?_
              refine z_goto rfl ?_
              refine z_iretz rfl rfl (rfl) ?_
              refine ⟨?_, rfl⟩
              unfold bz otB
              simp_all [Int32.not_lt, Int32.not_le]
      · refine z_aload_n (q := 44) rfl rfl rfl ?_
        refine z_getI (q := 47) rfl rfl rfl (Ta_k w) ?_
        rw [tq_g6]
        refine z_iconst (q := 48) (v := 3) rfl rfl rfl ?_
        refine z_ic_ne (q := 51) rfl rfl (fun h48 => ?_) (fun h48 => ?_)
        · refine z_iconst (q := 56) (v := 0) rfl rfl rfl ?_
          refine z_istore_n (q := 57) (L2 := [_, _, _]) rfl rfl rfl rfl ?_
          refine z_aload_n (q := 58) rfl rfl rfl ?_
          refine z_getI (q := 61) rfl rfl rfl (St_k v) ?_
          rw [oS_g10]
          refine z_bipush (q := 63) (v := 30) rfl rfl rfl ?_
          refine z_ic_ge (q := 66) rfl rfl (fun h63 => ?_) (fun h63 => ?_)
          · refine z_iconst (q := 83) (v := 1) rfl rfl rfl ?_
            refine z_goto rfl ?_
            refine z_iretz rfl rfl (rfl) ?_
            refine ⟨?_, rfl⟩
            unfold bz otB
            simp_all [Int32.not_lt, Int32.not_le]
          · refine z_iload_n (q := 67) rfl rfl rfl ?_
            refine z_if_eq (q := 70) rfl rfl (fun h67 => ?_) (fun h67 => ?_)
            · refine z_iconst (q := 87) (v := 0) rfl rfl rfl ?_
              refine z_iretz rfl rfl (rfl) ?_
              refine ⟨?_, rfl⟩
              unfold bz otB
              simp_all [Int32.not_lt, Int32.not_le]
            · exact absurd h67 (by decide)
        · refine z_iconst (q := 52) (v := 1) rfl rfl rfl ?_
          refine z_goto rfl ?_
          refine z_istore_n (q := 57) (L2 := [_, _, _]) rfl rfl rfl rfl ?_
          refine z_aload_n (q := 58) rfl rfl rfl ?_
          refine z_getI (q := 61) rfl rfl rfl (St_k v) ?_
          rw [oS_g10]
          refine z_bipush (q := 63) (v := 30) rfl rfl rfl ?_
          refine z_ic_ge (q := 66) rfl rfl (fun h63 => ?_) (fun h63 => ?_)
          · refine z_iconst (q := 83) (v := 1) rfl rfl rfl ?_
            refine z_goto rfl ?_
            refine z_iretz rfl rfl (rfl) ?_
            refine ⟨?_, rfl⟩
            unfold bz otB
            simp_all [Int32.not_lt, Int32.not_le]
          · refine z_iload_n (q := 67) rfl rfl rfl ?_
            refine z_if_eq (q := 70) rfl rfl (fun h67 => ?_) (fun h67 => ?_)
            · exact absurd h67 (by decide)
            · refine z_aload_n (q := 71) rfl rfl rfl ?_
              refine z_getR (q := 74) rfl rfl rfl (St_k v) (St_r0 v) ?_
              refine z_getI (q := 77) rfl rfl rfl (Sh_k (St_w0 v)) ?_
              rw [oH_g8]
              refine z_bipush (q := 79) (v := 20) rfl rfl rfl ?_
              refine z_ic_lt (q := 82) rfl rfl (fun h79 => ?_) (fun h79 => ?_)
              · refine z_iconst (q := 87) (v := 0) rfl rfl rfl ?_
                refine z_iretz rfl rfl (rfl) ?_
                refine ⟨?_, rfl⟩
                unfold bz otB
                simp_all [Int32.not_lt, Int32.not_le]
              · refine z_iconst (q := 83) (v := 1) rfl rfl rfl ?_
                refine z_goto rfl ?_
                refine z_iretz rfl rfl (rfl) ?_
                refine ⟨?_, rfl⟩
                unfold bz otB
                simp_all [Int32.not_lt, Int32.not_le]
    · refine z_aload_n (q := 21) rfl rfl rfl ?_
      refine z_getI (q := 24) rfl rfl rfl (St_k v) ?_
      rw [oS_g7]
      refine z_bipush (q := 26) (v := 16) rfl rfl rfl ?_
      refine z_ic_lt (q := 29) rfl rfl (fun h26 => ?_) (fun h26 => ?_)
      · refine z_iconst (q := 34) (v := 0) rfl rfl rfl ?_
        refine z_iretz rfl rfl (rfl) ?_
        refine ⟨?_, rfl⟩
        unfold bz otB
        simp_all [Int32.not_lt, Int32.not_le]
      · refine z_iconst (q := 30) (v := 1) rfl rfl rfl ?_
        refine z_goto rfl ?_
        refine z_iretz rfl rfl (rfl) ?_
        refine ⟨?_, rfl⟩
        unfold bz otB
        simp_all [Int32.not_lt, Int32.not_le]
  · refine z_iconst (q := 10) (v := 0) rfl rfl rfl ?_
    refine z_iretz rfl rfl (rfl) ?_
    refine ⟨?_, rfl⟩
    unfold bz otB
    simp_all [Int32.not_lt, Int32.not_le]
def w1 (sg : Nat → Int32) (t : Nat) (n : Int32) (s : tS) : Int32 × tS := tnS sg t s 0 (n - 1)
def w2 (sg : Nat → Int32) (t : Nat) (n : Int32) (s : tS) : Int32 × tS := tnS sg t (w1 sg t n s).2 0 (n - 1)
def prB (P : Nat → Int32) (x y : Int32) : Bool := decide (¬ ((P x.toNatClampNeg).toUInt32 >>> (y.toUInt32 &&& Int32.toUInt32 31)).toInt32 &&& 1 = 0)
def w3 (sg : Nat → Int32) (t : Nat) (n : Int32) (P : Nat → Int32) (s : tS) : tS := if (w2 sg t n s).2.2.2.2.2.1 = 0 ∧ ((w1 sg t n s).1 = (w2 sg t n s).1 ∨ prB P (w1 sg t n s).1 (w2 sg t n s).1 = true) then refS (w2 sg t n s).2 2 (nI (w1 sg t n s).2.2.1) else (w2 sg t n s).2
theorem t_St_arePaired {sc : Option (Nat × Nat × (Nat → Int32))} {sa : Nat → Nat} {d : Nat} {M : mz_M} {z : Nat × Nat} {tp : Nat} {sg : Nat → Int32} {t : Nat} {s : tS} {a6 a7 a8 a9 : Int32} (w : g_Ta M.2.2 tp) (ht : t ≤ 500) {st : Nat} (v : g_St M.2.2 st) (hf : tp + 1 < st) {x y : Int32} (hx : ∃ j, j < 12 ∧ x = nI j) : zx sc sa (d + 2) 73 [.ref st, .int x, .int y] (tq M tp sg t s a6 a7 a8 a9) z z (some (.int (bz (prB (M.1 (st + 7)) x y = true)))) (tq M tp sg t s a6 a7 a8 a9) := by
  obtain ⟨j, hj, rfl⟩ := hx
  have e := @s_St_arePaired sc sa d (tq M tp sg t s a6 a7 a8 a9) z st v j hj y
  rw [show (tq M tp sg t s a6 a7 a8 a9).1 (st + 7) = M.1 (st + 7) from tq_o (by omega) (by omega)] at e
  unfold prB
  rw [nI_clamp (by omega)]
  simp only [decide_eq_true_eq]
  exact e
theorem t_Ta_takePair {sc : Option (Nat × Nat × (Nat → Int32))} {sa : Nat → Nat} {d : Nat} {M : mz_M} {z : Nat × Nat} {tp : Nat} {sg : Nat → Int32} {t : Nat} {s : tS} {a6 a7 a8 a9 : Int32} (w : g_Ta M.2.2 tp) (ht : t ≤ 500) {st : Nat} (v : g_St M.2.2 st) (hf : tp + 1 < st) (hk : okt t s) {n : Nat} (hn : M.1 (st + 1) 5 = nI n) (h1 : 1 ≤ n) (h2 : n ≤ 12) : zx sc sa (d + 5) 101 [.ref tp, .ref st] (tq M tp sg t s a6 a7 a8 a9) z z none (tq M tp sg t (w3 sg t (nI n) (M.1 (st + 7)) s) a6 (w1 sg t (nI n) s).1 (w2 sg t (nI n) s).1 a9) := by
  have oH_g5 : ∀ {s : tS} {a6 a7 a8 a9 : Int32}, (tq M tp sg t s a6 a7 a8 a9).1 (st + 1) 5 = M.1 (st + 1) 5 := fun {s a6 a7 a8 a9} => congrFun (tq_o (by omega) (by omega)) 5
  have oP : ∀ {s : tS} {a6 a7 a8 a9 : Int32}, (tq M tp sg t s a6 a7 a8 a9).1 (st + 7) = M.1 (st + 7) := fun {s a6 a7 a8 a9} => tq_o (by omega) (by omega)
  refine zxin ym_Ta_takePair [.ref tp, .ref st, .retAddr 0] rfl rfl rfl rfl ?_
  refine z_aload_n (q := 1) rfl rfl rfl ?_
  refine z_aload_n (q := 2) rfl rfl rfl ?_
  refine z_iconst (q := 3) (v := 0) rfl rfl rfl ?_
  refine z_aload_n (q := 4) rfl rfl rfl ?_
  refine z_getR (q := 7) rfl rfl rfl (St_k v) (St_r0 v) ?_
  refine z_getI (q := 10) rfl rfl rfl (Sh_k (St_w0 v)) ?_
  rw [oH_g5]
  rw [hn]
  refine z_iconst (q := 11) (v := 1) rfl rfl rfl ?_
  refine z_isub (q := 12) rfl rfl ?_
  refine z_cv2i (q := 15) rfl rfl rfl (Ta_k w) (t_Ta_takeNumber w ht hk) ?_
  refine z_putI (q := 18) rfl rfl rfl (by decide) rfl rfl (Ta_k w) ?_
  rw [tq_u7]
  refine z_aload_n (q := 19) rfl rfl rfl ?_
  refine z_getI (q := 22) rfl rfl rfl (Ta_k w) ?_
  rw [tq_g2]
  refine z_istore_n (q := 23) (L2 := [_, _, _]) rfl rfl rfl rfl ?_
  refine z_aload_n (q := 24) rfl rfl rfl ?_
  refine z_aload_n (q := 25) rfl rfl rfl ?_
  refine z_iconst (q := 26) (v := 0) rfl rfl rfl ?_
  refine z_aload_n (q := 27) rfl rfl rfl ?_
  refine z_getR (q := 30) rfl rfl rfl (St_k v) (St_r0 v) ?_
  refine z_getI (q := 33) rfl rfl rfl (Sh_k (St_w0 v)) ?_
  rw [oH_g5]
  rw [hn]
  refine z_iconst (q := 34) (v := 1) rfl rfl rfl ?_
  refine z_isub (q := 35) rfl rfl ?_
  refine z_cv2i (q := 38) rfl rfl rfl (Ta_k w) (t_Ta_takeNumber w ht (tnS_ok hk)) ?_
  refine z_putI (q := 41) rfl rfl rfl (by decide) rfl rfl (Ta_k w) ?_
  rw [tq_u8]
  refine z_aload_n (q := 42) rfl rfl rfl ?_
  refine z_getI (q := 45) rfl rfl rfl (Ta_k w) ?_
  rw [tq_g10]
  refine z_if_ne (q := 48) rfl rfl (fun h45 => ?_) (fun h45 => ?_)
  · refine z_ret rfl rfl ?_
    unfold w3
    first
      | (rw [if_neg (fun h => h45 h.1)]; exact ⟨rfl, rfl⟩)
      | (have h9 := bz_0.mp h71; rw [if_neg (fun h => h.2.elim h56 h9)]; exact ⟨rfl, rfl⟩)
      | (have h9 := bz_n.mp h71; rw [if_pos ⟨h45, Or.inr h9⟩]; exact ⟨rfl, rfl⟩)
      | (rw [if_pos ⟨h45, Or.inl h56⟩]; exact ⟨rfl, rfl⟩)
  · refine z_aload_n (q := 49) rfl rfl rfl ?_
    refine z_getI (q := 52) rfl rfl rfl (Ta_k w) ?_
    rw [tq_g7]
    refine z_aload_n (q := 53) rfl rfl rfl ?_
    refine z_getI (q := 56) rfl rfl rfl (Ta_k w) ?_
    rw [tq_g8]
    refine z_ic_eq (q := 59) rfl rfl (fun h56 => ?_) (fun h56 => ?_)
    · refine z_aload_n (q := 75) rfl rfl rfl ?_
      refine z_iconst (q := 76) (v := 2) rfl rfl rfl ?_
      refine z_iload_n (q := 77) rfl rfl rfl ?_
      refine z_cv2v (q := 80) rfl rfl rfl (Ta_k w) (t_Ta_refuse w ht) ?_
      refine z_ret rfl rfl ?_
      unfold w3
      first
        | (rw [if_neg (fun h => h45 h.1)]; exact ⟨rfl, rfl⟩)
        | (have h9 := bz_0.mp h71; rw [if_neg (fun h => h.2.elim h56 h9)]; exact ⟨rfl, rfl⟩)
        | (have h9 := bz_n.mp h71; rw [if_pos ⟨h45, Or.inr h9⟩]; exact ⟨rfl, rfl⟩)
        | (rw [if_pos ⟨h45, Or.inl h56⟩]; exact ⟨rfl, rfl⟩)
    · refine z_aload_n (q := 60) rfl rfl rfl ?_
      refine z_aload_n (q := 61) rfl rfl rfl ?_
      refine z_getI (q := 64) rfl rfl rfl (Ta_k w) ?_
      rw [tq_g7]
      refine z_aload_n (q := 65) rfl rfl rfl ?_
      refine z_getI (q := 68) rfl rfl rfl (Ta_k w) ?_
      rw [tq_g8]
      refine z_cv2i (q := 71) rfl rfl rfl (St_k v) (t_St_arePaired w ht v hf (by obtain ⟨j, h8, h9⟩ := tnS_nat h1 (by omega) (tnS_in h45).1; exact ⟨j, by omega, h9⟩)) ?_
      refine z_if_eq (q := 74) rfl rfl (fun h71 => ?_) (fun h71 => ?_)
      · refine z_ret rfl rfl ?_
        unfold w3
        first
          | (rw [if_neg (fun h => h45 h.1)]; exact ⟨rfl, rfl⟩)
          | (have h9 := bz_0.mp h71; rw [if_neg (fun h => h.2.elim h56 h9)]; exact ⟨rfl, rfl⟩)
          | (have h9 := bz_n.mp h71; rw [if_pos ⟨h45, Or.inr h9⟩]; exact ⟨rfl, rfl⟩)
          | (rw [if_pos ⟨h45, Or.inl h56⟩]; exact ⟨rfl, rfl⟩)
      · refine z_aload_n (q := 75) rfl rfl rfl ?_
        refine z_iconst (q := 76) (v := 2) rfl rfl rfl ?_
        refine z_iload_n (q := 77) rfl rfl rfl ?_
        refine z_cv2v (q := 80) rfl rfl rfl (Ta_k w) (t_Ta_refuse w ht) ?_
        refine z_ret rfl rfl ?_
        unfold w3
        first
          | (rw [if_neg (fun h => h45 h.1)]; exact ⟨rfl, rfl⟩)
          | (have h9 := bz_0.mp h71; rw [if_neg (fun h => h.2.elim h56 h9)]; exact ⟨rfl, rfl⟩)
          | (have h9 := bz_n.mp h71; rw [if_pos ⟨h45, Or.inr h9⟩]; exact ⟨rfl, rfl⟩)
          | (rw [if_pos ⟨h45, Or.inl h56⟩]; exact ⟨rfl, rfl⟩)
theorem t_Sh_isDirect {sc : Option (Nat × Nat × (Nat → Int32))} {sa : Nat → Nat} {d : Nat} {M : mz_M} {z : Nat × Nat} {tp : Nat} {sg : Nat → Int32} {t : Nat} {s : tS} {a6 a7 a8 a9 : Int32} (w : g_Ta M.2.2 tp) (ht : t ≤ 500) {so : Nat} (v : g_Sh M.2.2 so 40) (hf : tp + 1 < so) {n : Nat} (hn : M.1 so 8 = nI n) (h2 : n ≤ 40) {x : Int32} (hx : ∃ j, j < n ∧ x = nI j) : zx sc sa (d + 2) 37 [.ref so, .int x] (tq M tp sg t s a6 a7 a8 a9) z z (some (.int (bz (M.1 (so + 2) x.toNatClampNeg = -1)))) (tq M tp sg t s a6 a7 a8 a9) := by
  obtain ⟨j, hj, rfl⟩ := hx
  have e := @s_Sh_isDirect sc sa d (tq M tp sg t s a6 a7 a8 a9) z so 40 v n (by rw [show (tq M tp sg t s a6 a7 a8 a9).1 so = M.1 so from tq_o (by omega) (by omega)]; exact hn) h2 (by omega) j hj
  rw [show (tq M tp sg t s a6 a7 a8 a9).1 (so + 2) = M.1 (so + 2) from tq_o (by omega) (by omega)] at e
  rw [nI_clamp (by omega)]
  exact e
theorem t_Sh_areJoined {sc : Option (Nat × Nat × (Nat → Int32))} {sa : Nat → Nat} {d : Nat} {M : mz_M} {z : Nat × Nat} {tp : Nat} {sg : Nat → Int32} {t : Nat} {s : tS} {a6 a7 a8 a9 : Int32} (w : g_Ta M.2.2 tp) (ht : t ≤ 500) {so : Nat} (v : g_Sh M.2.2 so 40) (hf : tp + 1 < so) {n c : Nat} (hn : M.1 so 8 = nI n) (h2 : n ≤ 40) (hc : M.1 so 5 = nI c) (hC : c ≤ 12) {x a b : Int32} (hx : ∃ j, j < n ∧ x = nI j) : zx sc sa (d + 4) 34 [.ref so, .int x, .int a, .int b] (tq M tp sg t s a6 a7 a8 a9) z z (some (.int (bz (rt (M.2.1 (so + 1) x.toNatClampNeg) c a = rt (M.2.1 (so + 1) x.toNatClampNeg) c b)))) (tq M tp sg t s a6 a7 a8 a9) := by
  obtain ⟨j, hj, rfl⟩ := hx
  have e := @s_Sh_areJoined sc sa d (tq M tp sg t s a6 a7 a8 a9) z so 40 v n (by rw [show (tq M tp sg t s a6 a7 a8 a9).1 so = M.1 so from tq_o (by omega) (by omega)]; exact hn) h2 (by omega) j hj c (by rw [show (tq M tp sg t s a6 a7 a8 a9).1 so = M.1 so from tq_o (by omega) (by omega)]; exact hc) hC a b
  rw [nI_clamp (by omega)]
  exact e
def v1 (sg : Nat → Int32) (t : Nat) (n : Int32) (s : tS) : Int32 × tS := tnS sg t s 0 (n - 1)
def v2 (sg : Nat → Int32) (t : Nat) (n c : Int32) (s : tS) : Int32 × tS := tnS sg t (v1 sg t n s).2 0 (c - 1)
def v3 (sg : Nat → Int32) (t : Nat) (n c : Int32) (s : tS) : Int32 × tS := tnS sg t (v2 sg t n c s).2 0 (c - 1)
/-- one, two, three and the reader after a deed's numbers -/
def vS (sg : Nat → Int32) (t : Nat) (n c : Nat) (F : Nat → Int32) (J : Nat → Int64) (k y z : Int32) (s : tS) : Int32 × Int32 × Int32 × tS :=
  if k = 5 then ((v1 sg t (nI n) s).1, y, z, if (v1 sg t (nI n) s).2.2.2.2.2.1 = 0 ∧ F (v1 sg t (nI n) s).1.toNatClampNeg = -1 then refS (v1 sg t (nI n) s).2 2 (nI s.2.1) else (v1 sg t (nI n) s).2)
  else if k = 2 ∨ k = 3 then ((v1 sg t (nI n) s).1, (v2 sg t (nI n) (nI c) s).1, (v3 sg t (nI n) (nI c) s).1,
    if (v3 sg t (nI n) (nI c) s).2.2.2.2.2.1 = 0 ∧ k = 3 ∧ rt (J (v1 sg t (nI n) s).1.toNatClampNeg) c (v2 sg t (nI n) (nI c) s).1 = rt (J (v1 sg t (nI n) s).1.toNatClampNeg) c (v3 sg t (nI n) (nI c) s).1 then refS (v3 sg t (nI n) (nI c) s).2 2 (nI (v2 sg t (nI n) (nI c) s).2.2.1) else (v3 sg t (nI n) (nI c) s).2)
  else ((v1 sg t (nI n) s).1, (v2 sg t (nI n) (nI c) s).1, z, (v2 sg t (nI n) (nI c) s).2)
theorem t_Ta_takeDeed {sc : Option (Nat × Nat × (Nat → Int32))} {sa : Nat → Nat} {d : Nat} {M : mz_M} {z : Nat × Nat} {tp : Nat} {sg : Nat → Int32} {t : Nat} {s : tS} {a6 a7 a8 a9 : Int32} (w : g_Ta M.2.2 tp) (ht : t ≤ 500) {so : Nat} (v : g_Sh M.2.2 so 40) (hf : tp + 1 < so) (hk : okt t s) {n c : Nat} (hn : M.1 so 8 = nI n) (h1 : 1 ≤ n) (h2 : n ≤ 40) (hc : M.1 so 5 = nI c) (hC : c ≤ 12) {b7 b8 b9 : Int32} {s9 : tS} (hr : vS sg t n c (M.1 (so + 2)) (M.2.1 (so + 1)) a6 a8 a9 s = (b7, b8, b9, s9)) : zx sc sa (d + 5) 102 [.ref tp, .ref so] (tq M tp sg t s a6 a7 a8 a9) z z none (tq M tp sg t s9 a6 b7 b8 b9) := by
  have oH_g5 : ∀ {s : tS} {a6 a7 a8 a9 : Int32}, (tq M tp sg t s a6 a7 a8 a9).1 so 5 = M.1 so 5 := fun {s a6 a7 a8 a9} => congrFun (tq_o (by omega) (by omega)) 5
  have oH_g8 : ∀ {s : tS} {a6 a7 a8 a9 : Int32}, (tq M tp sg t s a6 a7 a8 a9).1 so 8 = M.1 so 8 := fun {s a6 a7 a8 a9} => congrFun (tq_o (by omega) (by omega)) 8
  refine zxin ym_Ta_takeDeed [.ref tp, .ref so, .retAddr 0] rfl rfl rfl rfl ?_
  refine z_aload_n (q := 1) rfl rfl rfl ?_
  refine z_getI (q := 4) rfl rfl rfl (Ta_k w) ?_
  rw [tq_g2]
  refine z_istore_n (q := 5) (L2 := [_, _, _]) rfl rfl rfl rfl ?_
  refine z_aload_n (q := 6) rfl rfl rfl ?_
  refine z_aload_n (q := 7) rfl rfl rfl ?_
  refine z_iconst (q := 8) (v := 0) rfl rfl rfl ?_
  refine z_aload_n (q := 9) rfl rfl rfl ?_
  refine z_getI (q := 12) rfl rfl rfl (Sh_k v) ?_
  rw [oH_g8]
  rw [hn]
  refine z_iconst (q := 13) (v := 1) rfl rfl rfl ?_
  refine z_isub (q := 14) rfl rfl ?_
  refine z_cv2i (q := 17) rfl rfl rfl (Ta_k w) (t_Ta_takeNumber w ht hk) ?_
  refine z_putI (q := 20) rfl rfl rfl (by decide) rfl rfl (Ta_k w) ?_
  rw [tq_u7]
  refine z_aload_n (q := 21) rfl rfl rfl ?_
  refine z_getI (q := 24) rfl rfl rfl (Ta_k w) ?_
  rw [tq_g6]
  refine z_iconst (q := 25) (v := 5) rfl rfl rfl ?_
  refine z_ic_ne (q := 28) rfl rfl (fun h25 => ?_) (fun h25 => ?_)
  · refine z_aload_n (q := 54) rfl rfl rfl ?_
    refine z_aload_n (q := 55) rfl rfl rfl ?_
    refine z_iconst (q := 56) (v := 0) rfl rfl rfl ?_
    refine z_aload_n (q := 57) rfl rfl rfl ?_
    refine z_getI (q := 60) rfl rfl rfl (Sh_k v) ?_
    rw [oH_g5]
    rw [hc]
    refine z_iconst (q := 61) (v := 1) rfl rfl rfl ?_
    refine z_isub (q := 62) rfl rfl ?_
    refine z_cv2i (q := 65) rfl rfl rfl (Ta_k w) (t_Ta_takeNumber w ht (tnS_ok hk)) ?_
    refine z_putI (q := 68) rfl rfl rfl (by decide) rfl rfl (Ta_k w) ?_
    rw [tq_u8]
    refine z_aload_n (q := 69) rfl rfl rfl ?_
    refine z_getI (q := 72) rfl rfl rfl (Ta_k w) ?_
    rw [tq_g6]
    refine z_iconst (q := 73) (v := 2) rfl rfl rfl ?_
    refine z_ic_eq (q := 76) rfl rfl (fun h73 => ?_) (fun h73 => ?_)
    · refine z_aload_n (q := 85) rfl rfl rfl ?_
      refine z_getI (q := 88) rfl rfl rfl (Ta_k w) ?_
      rw [tq_g2]
      refine z_istore_n (q := 89) (L2 := [_, _, _]) rfl rfl rfl rfl ?_
      refine z_aload_n (q := 90) rfl rfl rfl ?_
      refine z_aload_n (q := 91) rfl rfl rfl ?_
      refine z_iconst (q := 92) (v := 0) rfl rfl rfl ?_
      refine z_aload_n (q := 93) rfl rfl rfl ?_
      refine z_getI (q := 96) rfl rfl rfl (Sh_k v) ?_
      rw [oH_g5]
      rw [hc]
      refine z_iconst (q := 97) (v := 1) rfl rfl rfl ?_
      refine z_isub (q := 98) rfl rfl ?_
      refine z_cv2i (q := 101) rfl rfl rfl (Ta_k w) (t_Ta_takeNumber w ht (tnS_ok (tnS_ok hk))) ?_
      refine z_putI (q := 104) rfl rfl rfl (by decide) rfl rfl (Ta_k w) ?_
      rw [tq_u9]
      refine z_aload_n (q := 105) rfl rfl rfl ?_
      refine z_getI (q := 108) rfl rfl rfl (Ta_k w) ?_
      rw [tq_g10]
      refine z_if_ne (q := 111) rfl rfl (fun h108 => ?_) (fun h108 => ?_)
      · refine z_ret rfl rfl ?_
        unfold vS at hr
        first
          | (have g1 : a6 = 5 := h25
             rw [if_pos g1] at hr
             simp only [Prod.mk.injEq] at hr
             obtain ⟨rfl, rfl, rfl, hr⟩ := hr
             first
               | (have h9 := bz_0.mp h43; rw [if_neg (fun h => h9 h.2)] at hr; subst hr; exact ⟨rfl, rfl⟩)
               | (have h9 := bz_n.mp h43; rw [if_pos ⟨h32, h9⟩] at hr; subst hr; exact ⟨rfl, rfl⟩)
               | (rw [if_neg (fun h => h32 h.1)] at hr; subst hr; exact ⟨rfl, rfl⟩))
          | (have g1 : ¬ a6 = 5 := h25
             have g2 : ¬ a6 = 2 := h73
             have g3 : ¬ a6 = 3 := h81
             rw [if_neg g1, if_neg (fun h => h.elim g2 g3)] at hr
             simp only [Prod.mk.injEq] at hr
             obtain ⟨rfl, rfl, rfl, rfl⟩ := hr
             exact ⟨rfl, rfl⟩)
          | (have g1 : ¬ a6 = 5 := h25
             have g2 : a6 = 2 ∨ a6 = 3 := by first | exact Or.inl h73 | exact Or.inr h81
             rw [if_neg g1, if_pos g2] at hr
             simp only [Prod.mk.injEq] at hr
             obtain ⟨rfl, rfl, rfl, hr⟩ := hr
             first
               | (have h9 := bz_0.mp h135; rw [if_neg (fun h => h9 h.2.2)] at hr; subst hr; exact ⟨rfl, rfl⟩)
               | (have h9 := bz_n.mp h135; rw [if_pos ⟨h108, h116, h9⟩] at hr; subst hr; exact ⟨rfl, rfl⟩)
               | (have h9 : ¬ a6 = 3 := h116; rw [if_neg (fun h => h9 h.2.1)] at hr; subst hr; exact ⟨rfl, rfl⟩)
               | (rw [if_neg (fun h => h108 h.1)] at hr; subst hr; exact ⟨rfl, rfl⟩))
      · refine z_aload_n (q := 112) rfl rfl rfl ?_
        refine z_getI (q := 115) rfl rfl rfl (Ta_k w) ?_
        rw [tq_g6]
        refine z_iconst (q := 116) (v := 3) rfl rfl rfl ?_
        refine z_ic_ne (q := 119) rfl rfl (fun h116 => ?_) (fun h116 => ?_)
        · refine z_ret rfl rfl ?_
          unfold vS at hr
          first
            | (have g1 : a6 = 5 := h25
               rw [if_pos g1] at hr
               simp only [Prod.mk.injEq] at hr
               obtain ⟨rfl, rfl, rfl, hr⟩ := hr
               first
                 | (have h9 := bz_0.mp h43; rw [if_neg (fun h => h9 h.2)] at hr; subst hr; exact ⟨rfl, rfl⟩)
                 | (have h9 := bz_n.mp h43; rw [if_pos ⟨h32, h9⟩] at hr; subst hr; exact ⟨rfl, rfl⟩)
                 | (rw [if_neg (fun h => h32 h.1)] at hr; subst hr; exact ⟨rfl, rfl⟩))
            | (have g1 : ¬ a6 = 5 := h25
               have g2 : ¬ a6 = 2 := h73
               have g3 : ¬ a6 = 3 := h81
               rw [if_neg g1, if_neg (fun h => h.elim g2 g3)] at hr
               simp only [Prod.mk.injEq] at hr
               obtain ⟨rfl, rfl, rfl, rfl⟩ := hr
               exact ⟨rfl, rfl⟩)
            | (have g1 : ¬ a6 = 5 := h25
               have g2 : a6 = 2 ∨ a6 = 3 := by first | exact Or.inl h73 | exact Or.inr h81
               rw [if_neg g1, if_pos g2] at hr
               simp only [Prod.mk.injEq] at hr
               obtain ⟨rfl, rfl, rfl, hr⟩ := hr
               first
                 | (have h9 := bz_0.mp h135; rw [if_neg (fun h => h9 h.2.2)] at hr; subst hr; exact ⟨rfl, rfl⟩)
                 | (have h9 := bz_n.mp h135; rw [if_pos ⟨h108, h116, h9⟩] at hr; subst hr; exact ⟨rfl, rfl⟩)
                 | (have h9 : ¬ a6 = 3 := h116; rw [if_neg (fun h => h9 h.2.1)] at hr; subst hr; exact ⟨rfl, rfl⟩)
                 | (rw [if_neg (fun h => h108 h.1)] at hr; subst hr; exact ⟨rfl, rfl⟩))
        · refine z_aload_n (q := 120) rfl rfl rfl ?_
          refine z_aload_n (q := 121) rfl rfl rfl ?_
          refine z_getI (q := 124) rfl rfl rfl (Ta_k w) ?_
          rw [tq_g7]
          refine z_aload_n (q := 125) rfl rfl rfl ?_
          refine z_getI (q := 128) rfl rfl rfl (Ta_k w) ?_
          rw [tq_g8]
          refine z_aload_n (q := 129) rfl rfl rfl ?_
          refine z_getI (q := 132) rfl rfl rfl (Ta_k w) ?_
          rw [tq_g9]
          refine z_cv3i (q := 135) rfl rfl rfl (Sh_k v) (t_Sh_areJoined w ht v hf hn h2 hc hC (tnS_nat h1 (by omega) (tnS_in (tnS_in h108).1).1)) ?_
          refine z_if_eq (q := 138) rfl rfl (fun h135 => ?_) (fun h135 => ?_)
          · refine z_ret rfl rfl ?_
            unfold vS at hr
            first
              | (have g1 : a6 = 5 := h25
                 rw [if_pos g1] at hr
                 simp only [Prod.mk.injEq] at hr
                 obtain ⟨rfl, rfl, rfl, hr⟩ := hr
                 first
                   | (have h9 := bz_0.mp h43; rw [if_neg (fun h => h9 h.2)] at hr; subst hr; exact ⟨rfl, rfl⟩)
                   | (have h9 := bz_n.mp h43; rw [if_pos ⟨h32, h9⟩] at hr; subst hr; exact ⟨rfl, rfl⟩)
                   | (rw [if_neg (fun h => h32 h.1)] at hr; subst hr; exact ⟨rfl, rfl⟩))
              | (have g1 : ¬ a6 = 5 := h25
                 have g2 : ¬ a6 = 2 := h73
                 have g3 : ¬ a6 = 3 := h81
                 rw [if_neg g1, if_neg (fun h => h.elim g2 g3)] at hr
                 simp only [Prod.mk.injEq] at hr
                 obtain ⟨rfl, rfl, rfl, rfl⟩ := hr
                 exact ⟨rfl, rfl⟩)
              | (have g1 : ¬ a6 = 5 := h25
                 have g2 : a6 = 2 ∨ a6 = 3 := by first | exact Or.inl h73 | exact Or.inr h81
                 rw [if_neg g1, if_pos g2] at hr
                 simp only [Prod.mk.injEq] at hr
                 obtain ⟨rfl, rfl, rfl, hr⟩ := hr
                 first
                   | (have h9 := bz_0.mp h135; rw [if_neg (fun h => h9 h.2.2)] at hr; subst hr; exact ⟨rfl, rfl⟩)
                   | (have h9 := bz_n.mp h135; rw [if_pos ⟨h108, h116, h9⟩] at hr; subst hr; exact ⟨rfl, rfl⟩)
                   | (have h9 : ¬ a6 = 3 := h116; rw [if_neg (fun h => h9 h.2.1)] at hr; subst hr; exact ⟨rfl, rfl⟩)
                   | (rw [if_neg (fun h => h108 h.1)] at hr; subst hr; exact ⟨rfl, rfl⟩))
          · refine z_aload_n (q := 139) rfl rfl rfl ?_
            refine z_iconst (q := 140) (v := 2) rfl rfl rfl ?_
            refine z_iload_n (q := 141) rfl rfl rfl ?_
            refine z_cv2v (q := 144) rfl rfl rfl (Ta_k w) (t_Ta_refuse w ht) ?_
            refine z_ret rfl rfl ?_
            unfold vS at hr
            first
              | (have g1 : a6 = 5 := h25
                 rw [if_pos g1] at hr
                 simp only [Prod.mk.injEq] at hr
                 obtain ⟨rfl, rfl, rfl, hr⟩ := hr
                 first
                   | (have h9 := bz_0.mp h43; rw [if_neg (fun h => h9 h.2)] at hr; subst hr; exact ⟨rfl, rfl⟩)
                   | (have h9 := bz_n.mp h43; rw [if_pos ⟨h32, h9⟩] at hr; subst hr; exact ⟨rfl, rfl⟩)
                   | (rw [if_neg (fun h => h32 h.1)] at hr; subst hr; exact ⟨rfl, rfl⟩))
              | (have g1 : ¬ a6 = 5 := h25
                 have g2 : ¬ a6 = 2 := h73
                 have g3 : ¬ a6 = 3 := h81
                 rw [if_neg g1, if_neg (fun h => h.elim g2 g3)] at hr
                 simp only [Prod.mk.injEq] at hr
                 obtain ⟨rfl, rfl, rfl, rfl⟩ := hr
                 exact ⟨rfl, rfl⟩)
              | (have g1 : ¬ a6 = 5 := h25
                 have g2 : a6 = 2 ∨ a6 = 3 := by first | exact Or.inl h73 | exact Or.inr h81
                 rw [if_neg g1, if_pos g2] at hr
                 simp only [Prod.mk.injEq] at hr
                 obtain ⟨rfl, rfl, rfl, hr⟩ := hr
                 first
                   | (have h9 := bz_0.mp h135; rw [if_neg (fun h => h9 h.2.2)] at hr; subst hr; exact ⟨rfl, rfl⟩)
                   | (have h9 := bz_n.mp h135; rw [if_pos ⟨h108, h116, h9⟩] at hr; subst hr; exact ⟨rfl, rfl⟩)
                   | (have h9 : ¬ a6 = 3 := h116; rw [if_neg (fun h => h9 h.2.1)] at hr; subst hr; exact ⟨rfl, rfl⟩)
                   | (rw [if_neg (fun h => h108 h.1)] at hr; subst hr; exact ⟨rfl, rfl⟩))
    · refine z_aload_n (q := 77) rfl rfl rfl ?_
      refine z_getI (q := 80) rfl rfl rfl (Ta_k w) ?_
      rw [tq_g6]
      refine z_iconst (q := 81) (v := 3) rfl rfl rfl ?_
      refine z_ic_ne (q := 84) rfl rfl (fun h81 => ?_) (fun h81 => ?_)
      · refine z_ret rfl rfl ?_
        unfold vS at hr
        first
          | (have g1 : a6 = 5 := h25
             rw [if_pos g1] at hr
             simp only [Prod.mk.injEq] at hr
             obtain ⟨rfl, rfl, rfl, hr⟩ := hr
             first
               | (have h9 := bz_0.mp h43; rw [if_neg (fun h => h9 h.2)] at hr; subst hr; exact ⟨rfl, rfl⟩)
               | (have h9 := bz_n.mp h43; rw [if_pos ⟨h32, h9⟩] at hr; subst hr; exact ⟨rfl, rfl⟩)
               | (rw [if_neg (fun h => h32 h.1)] at hr; subst hr; exact ⟨rfl, rfl⟩))
          | (have g1 : ¬ a6 = 5 := h25
             have g2 : ¬ a6 = 2 := h73
             have g3 : ¬ a6 = 3 := h81
             rw [if_neg g1, if_neg (fun h => h.elim g2 g3)] at hr
             simp only [Prod.mk.injEq] at hr
             obtain ⟨rfl, rfl, rfl, rfl⟩ := hr
             exact ⟨rfl, rfl⟩)
          | (have g1 : ¬ a6 = 5 := h25
             have g2 : a6 = 2 ∨ a6 = 3 := by first | exact Or.inl h73 | exact Or.inr h81
             rw [if_neg g1, if_pos g2] at hr
             simp only [Prod.mk.injEq] at hr
             obtain ⟨rfl, rfl, rfl, hr⟩ := hr
             first
               | (have h9 := bz_0.mp h135; rw [if_neg (fun h => h9 h.2.2)] at hr; subst hr; exact ⟨rfl, rfl⟩)
               | (have h9 := bz_n.mp h135; rw [if_pos ⟨h108, h116, h9⟩] at hr; subst hr; exact ⟨rfl, rfl⟩)
               | (have h9 : ¬ a6 = 3 := h116; rw [if_neg (fun h => h9 h.2.1)] at hr; subst hr; exact ⟨rfl, rfl⟩)
               | (rw [if_neg (fun h => h108 h.1)] at hr; subst hr; exact ⟨rfl, rfl⟩))
      · refine z_aload_n (q := 85) rfl rfl rfl ?_
        refine z_getI (q := 88) rfl rfl rfl (Ta_k w) ?_
        rw [tq_g2]
        refine z_istore_n (q := 89) (L2 := [_, _, _]) rfl rfl rfl rfl ?_
        refine z_aload_n (q := 90) rfl rfl rfl ?_
        refine z_aload_n (q := 91) rfl rfl rfl ?_
        refine z_iconst (q := 92) (v := 0) rfl rfl rfl ?_
        refine z_aload_n (q := 93) rfl rfl rfl ?_
        refine z_getI (q := 96) rfl rfl rfl (Sh_k v) ?_
        rw [oH_g5]
        rw [hc]
        refine z_iconst (q := 97) (v := 1) rfl rfl rfl ?_
        refine z_isub (q := 98) rfl rfl ?_
        refine z_cv2i (q := 101) rfl rfl rfl (Ta_k w) (t_Ta_takeNumber w ht (tnS_ok (tnS_ok hk))) ?_
        refine z_putI (q := 104) rfl rfl rfl (by decide) rfl rfl (Ta_k w) ?_
        rw [tq_u9]
        refine z_aload_n (q := 105) rfl rfl rfl ?_
        refine z_getI (q := 108) rfl rfl rfl (Ta_k w) ?_
        rw [tq_g10]
        refine z_if_ne (q := 111) rfl rfl (fun h108 => ?_) (fun h108 => ?_)
        · refine z_ret rfl rfl ?_
          unfold vS at hr
          first
            | (have g1 : a6 = 5 := h25
               rw [if_pos g1] at hr
               simp only [Prod.mk.injEq] at hr
               obtain ⟨rfl, rfl, rfl, hr⟩ := hr
               first
                 | (have h9 := bz_0.mp h43; rw [if_neg (fun h => h9 h.2)] at hr; subst hr; exact ⟨rfl, rfl⟩)
                 | (have h9 := bz_n.mp h43; rw [if_pos ⟨h32, h9⟩] at hr; subst hr; exact ⟨rfl, rfl⟩)
                 | (rw [if_neg (fun h => h32 h.1)] at hr; subst hr; exact ⟨rfl, rfl⟩))
            | (have g1 : ¬ a6 = 5 := h25
               have g2 : ¬ a6 = 2 := h73
               have g3 : ¬ a6 = 3 := h81
               rw [if_neg g1, if_neg (fun h => h.elim g2 g3)] at hr
               simp only [Prod.mk.injEq] at hr
               obtain ⟨rfl, rfl, rfl, rfl⟩ := hr
               exact ⟨rfl, rfl⟩)
            | (have g1 : ¬ a6 = 5 := h25
               have g2 : a6 = 2 ∨ a6 = 3 := by first | exact Or.inl h73 | exact Or.inr h81
               rw [if_neg g1, if_pos g2] at hr
               simp only [Prod.mk.injEq] at hr
               obtain ⟨rfl, rfl, rfl, hr⟩ := hr
               first
                 | (have h9 := bz_0.mp h135; rw [if_neg (fun h => h9 h.2.2)] at hr; subst hr; exact ⟨rfl, rfl⟩)
                 | (have h9 := bz_n.mp h135; rw [if_pos ⟨h108, h116, h9⟩] at hr; subst hr; exact ⟨rfl, rfl⟩)
                 | (have h9 : ¬ a6 = 3 := h116; rw [if_neg (fun h => h9 h.2.1)] at hr; subst hr; exact ⟨rfl, rfl⟩)
                 | (rw [if_neg (fun h => h108 h.1)] at hr; subst hr; exact ⟨rfl, rfl⟩))
        · refine z_aload_n (q := 112) rfl rfl rfl ?_
          refine z_getI (q := 115) rfl rfl rfl (Ta_k w) ?_
          rw [tq_g6]
          refine z_iconst (q := 116) (v := 3) rfl rfl rfl ?_
          refine z_ic_ne (q := 119) rfl rfl (fun h116 => ?_) (fun h116 => ?_)
          · refine z_ret rfl rfl ?_
            unfold vS at hr
            first
              | (have g1 : a6 = 5 := h25
                 rw [if_pos g1] at hr
                 simp only [Prod.mk.injEq] at hr
                 obtain ⟨rfl, rfl, rfl, hr⟩ := hr
                 first
                   | (have h9 := bz_0.mp h43; rw [if_neg (fun h => h9 h.2)] at hr; subst hr; exact ⟨rfl, rfl⟩)
                   | (have h9 := bz_n.mp h43; rw [if_pos ⟨h32, h9⟩] at hr; subst hr; exact ⟨rfl, rfl⟩)
                   | (rw [if_neg (fun h => h32 h.1)] at hr; subst hr; exact ⟨rfl, rfl⟩))
              | (have g1 : ¬ a6 = 5 := h25
                 have g2 : ¬ a6 = 2 := h73
                 have g3 : ¬ a6 = 3 := h81
                 rw [if_neg g1, if_neg (fun h => h.elim g2 g3)] at hr
                 simp only [Prod.mk.injEq] at hr
                 obtain ⟨rfl, rfl, rfl, rfl⟩ := hr
                 exact ⟨rfl, rfl⟩)
              | (have g1 : ¬ a6 = 5 := h25
                 have g2 : a6 = 2 ∨ a6 = 3 := by first | exact Or.inl h73 | exact Or.inr h81
                 rw [if_neg g1, if_pos g2] at hr
                 simp only [Prod.mk.injEq] at hr
                 obtain ⟨rfl, rfl, rfl, hr⟩ := hr
                 first
                   | (have h9 := bz_0.mp h135; rw [if_neg (fun h => h9 h.2.2)] at hr; subst hr; exact ⟨rfl, rfl⟩)
                   | (have h9 := bz_n.mp h135; rw [if_pos ⟨h108, h116, h9⟩] at hr; subst hr; exact ⟨rfl, rfl⟩)
                   | (have h9 : ¬ a6 = 3 := h116; rw [if_neg (fun h => h9 h.2.1)] at hr; subst hr; exact ⟨rfl, rfl⟩)
                   | (rw [if_neg (fun h => h108 h.1)] at hr; subst hr; exact ⟨rfl, rfl⟩))
          · refine z_aload_n (q := 120) rfl rfl rfl ?_
            refine z_aload_n (q := 121) rfl rfl rfl ?_
            refine z_getI (q := 124) rfl rfl rfl (Ta_k w) ?_
            rw [tq_g7]
            refine z_aload_n (q := 125) rfl rfl rfl ?_
            refine z_getI (q := 128) rfl rfl rfl (Ta_k w) ?_
            rw [tq_g8]
            refine z_aload_n (q := 129) rfl rfl rfl ?_
            refine z_getI (q := 132) rfl rfl rfl (Ta_k w) ?_
            rw [tq_g9]
            refine z_cv3i (q := 135) rfl rfl rfl (Sh_k v) (t_Sh_areJoined w ht v hf hn h2 hc hC (tnS_nat h1 (by omega) (tnS_in (tnS_in h108).1).1)) ?_
            refine z_if_eq (q := 138) rfl rfl (fun h135 => ?_) (fun h135 => ?_)
            · refine z_ret rfl rfl ?_
              unfold vS at hr
              first
                | (have g1 : a6 = 5 := h25
                   rw [if_pos g1] at hr
                   simp only [Prod.mk.injEq] at hr
                   obtain ⟨rfl, rfl, rfl, hr⟩ := hr
                   first
                     | (have h9 := bz_0.mp h43; rw [if_neg (fun h => h9 h.2)] at hr; subst hr; exact ⟨rfl, rfl⟩)
                     | (have h9 := bz_n.mp h43; rw [if_pos ⟨h32, h9⟩] at hr; subst hr; exact ⟨rfl, rfl⟩)
                     | (rw [if_neg (fun h => h32 h.1)] at hr; subst hr; exact ⟨rfl, rfl⟩))
                | (have g1 : ¬ a6 = 5 := h25
                   have g2 : ¬ a6 = 2 := h73
                   have g3 : ¬ a6 = 3 := h81
                   rw [if_neg g1, if_neg (fun h => h.elim g2 g3)] at hr
                   simp only [Prod.mk.injEq] at hr
                   obtain ⟨rfl, rfl, rfl, rfl⟩ := hr
                   exact ⟨rfl, rfl⟩)
                | (have g1 : ¬ a6 = 5 := h25
                   have g2 : a6 = 2 ∨ a6 = 3 := by first | exact Or.inl h73 | exact Or.inr h81
                   rw [if_neg g1, if_pos g2] at hr
                   simp only [Prod.mk.injEq] at hr
                   obtain ⟨rfl, rfl, rfl, hr⟩ := hr
                   first
                     | (have h9 := bz_0.mp h135; rw [if_neg (fun h => h9 h.2.2)] at hr; subst hr; exact ⟨rfl, rfl⟩)
                     | (have h9 := bz_n.mp h135; rw [if_pos ⟨h108, h116, h9⟩] at hr; subst hr; exact ⟨rfl, rfl⟩)
                     | (have h9 : ¬ a6 = 3 := h116; rw [if_neg (fun h => h9 h.2.1)] at hr; subst hr; exact ⟨rfl, rfl⟩)
                     | (rw [if_neg (fun h => h108 h.1)] at hr; subst hr; exact ⟨rfl, rfl⟩))
            · refine z_aload_n (q := 139) rfl rfl rfl ?_
              refine z_iconst (q := 140) (v := 2) rfl rfl rfl ?_
              refine z_iload_n (q := 141) rfl rfl rfl ?_
              refine z_cv2v (q := 144) rfl rfl rfl (Ta_k w) (t_Ta_refuse w ht) ?_
              refine z_ret rfl rfl ?_
              unfold vS at hr
              first
                | (have g1 : a6 = 5 := h25
                   rw [if_pos g1] at hr
                   simp only [Prod.mk.injEq] at hr
                   obtain ⟨rfl, rfl, rfl, hr⟩ := hr
                   first
                     | (have h9 := bz_0.mp h43; rw [if_neg (fun h => h9 h.2)] at hr; subst hr; exact ⟨rfl, rfl⟩)
                     | (have h9 := bz_n.mp h43; rw [if_pos ⟨h32, h9⟩] at hr; subst hr; exact ⟨rfl, rfl⟩)
                     | (rw [if_neg (fun h => h32 h.1)] at hr; subst hr; exact ⟨rfl, rfl⟩))
                | (have g1 : ¬ a6 = 5 := h25
                   have g2 : ¬ a6 = 2 := h73
                   have g3 : ¬ a6 = 3 := h81
                   rw [if_neg g1, if_neg (fun h => h.elim g2 g3)] at hr
                   simp only [Prod.mk.injEq] at hr
                   obtain ⟨rfl, rfl, rfl, rfl⟩ := hr
                   exact ⟨rfl, rfl⟩)
                | (have g1 : ¬ a6 = 5 := h25
                   have g2 : a6 = 2 ∨ a6 = 3 := by first | exact Or.inl h73 | exact Or.inr h81
                   rw [if_neg g1, if_pos g2] at hr
                   simp only [Prod.mk.injEq] at hr
                   obtain ⟨rfl, rfl, rfl, hr⟩ := hr
                   first
                     | (have h9 := bz_0.mp h135; rw [if_neg (fun h => h9 h.2.2)] at hr; subst hr; exact ⟨rfl, rfl⟩)
                     | (have h9 := bz_n.mp h135; rw [if_pos ⟨h108, h116, h9⟩] at hr; subst hr; exact ⟨rfl, rfl⟩)
                     | (have h9 : ¬ a6 = 3 := h116; rw [if_neg (fun h => h9 h.2.1)] at hr; subst hr; exact ⟨rfl, rfl⟩)
                     | (rw [if_neg (fun h => h108 h.1)] at hr; subst hr; exact ⟨rfl, rfl⟩))
  · refine z_aload_n (q := 29) rfl rfl rfl ?_
    refine z_getI (q := 32) rfl rfl rfl (Ta_k w) ?_
    rw [tq_g10]
    refine z_if_ne (q := 35) rfl rfl (fun h32 => ?_) (fun h32 => ?_)
    · refine z_ret rfl rfl ?_
      unfold vS at hr
      first
        | (have g1 : a6 = 5 := h25
           rw [if_pos g1] at hr
           simp only [Prod.mk.injEq] at hr
           obtain ⟨rfl, rfl, rfl, hr⟩ := hr
           first
             | (have h9 := bz_0.mp h43; rw [if_neg (fun h => h9 h.2)] at hr; subst hr; exact ⟨rfl, rfl⟩)
             | (have h9 := bz_n.mp h43; rw [if_pos ⟨h32, h9⟩] at hr; subst hr; exact ⟨rfl, rfl⟩)
             | (rw [if_neg (fun h => h32 h.1)] at hr; subst hr; exact ⟨rfl, rfl⟩))
        | (have g1 : ¬ a6 = 5 := h25
           have g2 : ¬ a6 = 2 := h73
           have g3 : ¬ a6 = 3 := h81
           rw [if_neg g1, if_neg (fun h => h.elim g2 g3)] at hr
           simp only [Prod.mk.injEq] at hr
           obtain ⟨rfl, rfl, rfl, rfl⟩ := hr
           exact ⟨rfl, rfl⟩)
        | (have g1 : ¬ a6 = 5 := h25
           have g2 : a6 = 2 ∨ a6 = 3 := by first | exact Or.inl h73 | exact Or.inr h81
           rw [if_neg g1, if_pos g2] at hr
           simp only [Prod.mk.injEq] at hr
           obtain ⟨rfl, rfl, rfl, hr⟩ := hr
           first
             | (have h9 := bz_0.mp h135; rw [if_neg (fun h => h9 h.2.2)] at hr; subst hr; exact ⟨rfl, rfl⟩)
             | (have h9 := bz_n.mp h135; rw [if_pos ⟨h108, h116, h9⟩] at hr; subst hr; exact ⟨rfl, rfl⟩)
             | (have h9 : ¬ a6 = 3 := h116; rw [if_neg (fun h => h9 h.2.1)] at hr; subst hr; exact ⟨rfl, rfl⟩)
             | (rw [if_neg (fun h => h108 h.1)] at hr; subst hr; exact ⟨rfl, rfl⟩))
    · refine z_aload_n (q := 36) rfl rfl rfl ?_
      refine z_aload_n (q := 37) rfl rfl rfl ?_
      refine z_getI (q := 40) rfl rfl rfl (Ta_k w) ?_
      rw [tq_g7]
      refine z_cv1i (q := 43) rfl rfl rfl (Sh_k v) (t_Sh_isDirect w ht v hf hn h2 (tnS_nat h1 (by omega) h32)) ?_
      refine z_if_eq (q := 46) rfl rfl (fun h43 => ?_) (fun h43 => ?_)
      · refine z_ret rfl rfl ?_
        unfold vS at hr
        first
          | (have g1 : a6 = 5 := h25
             rw [if_pos g1] at hr
             simp only [Prod.mk.injEq] at hr
             obtain ⟨rfl, rfl, rfl, hr⟩ := hr
             first
               | (have h9 := bz_0.mp h43; rw [if_neg (fun h => h9 h.2)] at hr; subst hr; exact ⟨rfl, rfl⟩)
               | (have h9 := bz_n.mp h43; rw [if_pos ⟨h32, h9⟩] at hr; subst hr; exact ⟨rfl, rfl⟩)
               | (rw [if_neg (fun h => h32 h.1)] at hr; subst hr; exact ⟨rfl, rfl⟩))
          | (have g1 : ¬ a6 = 5 := h25
             have g2 : ¬ a6 = 2 := h73
             have g3 : ¬ a6 = 3 := h81
             rw [if_neg g1, if_neg (fun h => h.elim g2 g3)] at hr
             simp only [Prod.mk.injEq] at hr
             obtain ⟨rfl, rfl, rfl, rfl⟩ := hr
             exact ⟨rfl, rfl⟩)
          | (have g1 : ¬ a6 = 5 := h25
             have g2 : a6 = 2 ∨ a6 = 3 := by first | exact Or.inl h73 | exact Or.inr h81
             rw [if_neg g1, if_pos g2] at hr
             simp only [Prod.mk.injEq] at hr
             obtain ⟨rfl, rfl, rfl, hr⟩ := hr
             first
               | (have h9 := bz_0.mp h135; rw [if_neg (fun h => h9 h.2.2)] at hr; subst hr; exact ⟨rfl, rfl⟩)
               | (have h9 := bz_n.mp h135; rw [if_pos ⟨h108, h116, h9⟩] at hr; subst hr; exact ⟨rfl, rfl⟩)
               | (have h9 : ¬ a6 = 3 := h116; rw [if_neg (fun h => h9 h.2.1)] at hr; subst hr; exact ⟨rfl, rfl⟩)
               | (rw [if_neg (fun h => h108 h.1)] at hr; subst hr; exact ⟨rfl, rfl⟩))
      · refine z_aload_n (q := 47) rfl rfl rfl ?_
        refine z_iconst (q := 48) (v := 2) rfl rfl rfl ?_
        refine z_iload_n (q := 49) rfl rfl rfl ?_
        refine z_cv2v (q := 52) rfl rfl rfl (Ta_k w) (t_Ta_refuse w ht) ?_
        refine z_ret rfl rfl ?_
        unfold vS at hr
        first
          | (have g1 : a6 = 5 := h25
             rw [if_pos g1] at hr
             simp only [Prod.mk.injEq] at hr
             obtain ⟨rfl, rfl, rfl, hr⟩ := hr
             first
               | (have h9 := bz_0.mp h43; rw [if_neg (fun h => h9 h.2)] at hr; subst hr; exact ⟨rfl, rfl⟩)
               | (have h9 := bz_n.mp h43; rw [if_pos ⟨h32, h9⟩] at hr; subst hr; exact ⟨rfl, rfl⟩)
               | (rw [if_neg (fun h => h32 h.1)] at hr; subst hr; exact ⟨rfl, rfl⟩))
          | (have g1 : ¬ a6 = 5 := h25
             have g2 : ¬ a6 = 2 := h73
             have g3 : ¬ a6 = 3 := h81
             rw [if_neg g1, if_neg (fun h => h.elim g2 g3)] at hr
             simp only [Prod.mk.injEq] at hr
             obtain ⟨rfl, rfl, rfl, rfl⟩ := hr
             exact ⟨rfl, rfl⟩)
          | (have g1 : ¬ a6 = 5 := h25
             have g2 : a6 = 2 ∨ a6 = 3 := by first | exact Or.inl h73 | exact Or.inr h81
             rw [if_neg g1, if_pos g2] at hr
             simp only [Prod.mk.injEq] at hr
             obtain ⟨rfl, rfl, rfl, hr⟩ := hr
             first
               | (have h9 := bz_0.mp h135; rw [if_neg (fun h => h9 h.2.2)] at hr; subst hr; exact ⟨rfl, rfl⟩)
               | (have h9 := bz_n.mp h135; rw [if_pos ⟨h108, h116, h9⟩] at hr; subst hr; exact ⟨rfl, rfl⟩)
               | (have h9 : ¬ a6 = 3 := h116; rw [if_neg (fun h => h9 h.2.1)] at hr; subst hr; exact ⟨rfl, rfl⟩)
               | (rw [if_neg (fun h => h108 h.1)] at hr; subst hr; exact ⟨rfl, rfl⟩))
def nuS (sg : Nat → Int32) (t n c : Nat) (F : Nat → Int32) (J : Nat → Int64) (P : Nat → Int32) (k y z : Int32) (s : tS) : Int32 × Int32 × Int32 × tS :=
  if k = 8 then ((u1 sg t s).1, (u2 sg t s).1, (u3 sg t s).1, (u3 sg t s).2)
  else if k = 9 then ((w1 sg t (nI c) s).1, (w2 sg t (nI c) s).1, z, w3 sg t (nI c) P s)
  else vS sg t n c F J k y z s
theorem nuS_s {sg : Nat → Int32} {t n c : Nat} {F : Nat → Int32} {J : Nat → Int64} {P : Nat → Int32} {k y z : Int32} {s : tS} (h : k = 8) : nuS sg t n c F J P k y z s = ((u1 sg t s).1, (u2 sg t s).1, (u3 sg t s).1, (u3 sg t s).2) := by unfold nuS; rw [if_pos h]
theorem nuS_p {sg : Nat → Int32} {t n c : Nat} {F : Nat → Int32} {J : Nat → Int64} {P : Nat → Int32} {k y z : Int32} {s : tS} (h : ¬ k = 8) (h2 : k = 9) : nuS sg t n c F J P k y z s = ((w1 sg t (nI c) s).1, (w2 sg t (nI c) s).1, z, w3 sg t (nI c) P s) := by unfold nuS; rw [if_neg h, if_pos h2]
theorem nuS_d {sg : Nat → Int32} {t n c : Nat} {F : Nat → Int32} {J : Nat → Int64} {P : Nat → Int32} {k y z : Int32} {s : tS} (h : ¬ k = 8) (h2 : ¬ k = 9) : nuS sg t n c F J P k y z s = vS sg t n c F J k y z s := by unfold nuS; rw [if_neg h, if_neg h2]
theorem w3_ok {sg : Nat → Int32} {t : Nat} {n : Int32} {P : Nat → Int32} {s : tS} (h : okt t s) : okt t (w3 sg t n P s) := by
  unfold w3
  have h2 : okt t (w2 sg t n s).2 := tnS_ok (tnS_ok h)
  split
  · exact refS_ok h2
  · exact h2
theorem vS_ok {sg : Nat → Int32} {t n c : Nat} {F : Nat → Int32} {J : Nat → Int64} {k y z : Int32} {s : tS} (h : okt t s) : okt t (vS sg t n c F J k y z s).2.2.2 := by
  unfold vS
  have h1 : okt t (v1 sg t (nI n) s).2 := tnS_ok h
  have h2 : okt t (v2 sg t (nI n) (nI c) s).2 := tnS_ok h1
  have h3 : okt t (v3 sg t (nI n) (nI c) s).2 := tnS_ok h2
  split
  · dsimp only
    split
    · exact refS_ok h1
    · exact h1
  · split
    · dsimp only
      split
      · exact refS_ok h3
      · exact h3
    · exact h2
theorem nuS_ok {sg : Nat → Int32} {t n c : Nat} {F : Nat → Int32} {J : Nat → Int64} {P : Nat → Int32} {k y z : Int32} {s : tS} (h : okt t s) : okt t (nuS sg t n c F J P k y z s).2.2.2 := by
  unfold nuS
  split
  · have e1 : okt t (u1 sg t s).2 := tnS_ok (twS_ok h)
    have e2 : okt t (u2 sg t s).2 := tnS_ok (twS_ok e1)
    have e3 : okt t (u3 sg t s).2 := tnS_ok (twS_ok e2)
    dsimp only
    exact e3
  · split
    · dsimp only
      exact w3_ok h
    · exact vS_ok h
theorem t_Ta_deed2 {sc : Option (Nat × Nat × (Nat → Int32))} {sa : Nat → Nat} {d : Nat} {M : mz_M} {z : Nat × Nat} {tp : Nat} {sg : Nat → Int32} {t : Nat} {s : tS} {a6 a7 a8 a9 : Int32} (w : g_Ta M.2.2 tp) (ht : t ≤ 500) {st : Nat} (v : g_St M.2.2 st) (hf : tp + 1 < st) (hk : okt t s) {n c : Nat} (hn : M.1 (st + 1) 8 = nI n) (h2 : n ≤ 40) (hc : M.1 (st + 1) 5 = nI c) (hC : c ≤ 12) (h1 : 1 ≤ n) : zx sc sa (d + 5) 102 [.ref tp, .ref (st + 1)] (tq M tp sg t s a6 a7 a8 a9) z z none (tq M tp sg t (vS sg t n c (M.1 (st + 3)) (M.2.1 (st + 2)) a6 a8 a9 s).2.2.2 a6 (vS sg t n c (M.1 (st + 3)) (M.2.1 (st + 2)) a6 a8 a9 s).1 (vS sg t n c (M.1 (st + 3)) (M.2.1 (st + 2)) a6 a8 a9 s).2.1 (vS sg t n c (M.1 (st + 3)) (M.2.1 (st + 2)) a6 a8 a9 s).2.2.1) := t_Ta_takeDeed (b7 := (vS sg t n c (M.1 (st + 3)) (M.2.1 (st + 2)) a6 a8 a9 s).1) (b8 := (vS sg t n c (M.1 (st + 3)) (M.2.1 (st + 2)) a6 a8 a9 s).2.1) (b9 := (vS sg t n c (M.1 (st + 3)) (M.2.1 (st + 2)) a6 a8 a9 s).2.2.1) (s9 := (vS sg t n c (M.1 (st + 3)) (M.2.1 (st + 2)) a6 a8 a9 s).2.2.2) w ht (St_w0 v) (by omega) hk hn h1 h2 hc hC rfl
theorem t_Ta_takeNumbers {sc : Option (Nat × Nat × (Nat → Int32))} {sa : Nat → Nat} {d : Nat} {M : mz_M} {z : Nat × Nat} {tp : Nat} {sg : Nat → Int32} {t : Nat} {s : tS} {a6 a7 a8 a9 : Int32} (w : g_Ta M.2.2 tp) (ht : t ≤ 500) {st : Nat} (v : g_St M.2.2 st) (hf : tp + 1 < st) (hk : okt t s) {n c : Nat} (hn : M.1 (st + 1) 8 = nI n) (h2 : n ≤ 40) (hc : M.1 (st + 1) 5 = nI c) (hC : c ≤ 12) (hg : ¬ a6 = 8 → 1 ≤ n ∧ 1 ≤ c) : zx sc sa (d + 8) 99 [.ref tp, .ref st] (tq M tp sg t s a6 a7 a8 a9) z z none (tq M tp sg t (nuS sg t n c (M.1 (st + 3)) (M.2.1 (st + 2)) (M.1 (st + 7)) a6 a8 a9 s).2.2.2 a6 (nuS sg t n c (M.1 (st + 3)) (M.2.1 (st + 2)) (M.1 (st + 7)) a6 a8 a9 s).1 (nuS sg t n c (M.1 (st + 3)) (M.2.1 (st + 2)) (M.1 (st + 7)) a6 a8 a9 s).2.1 (nuS sg t n c (M.1 (st + 3)) (M.2.1 (st + 2)) (M.1 (st + 7)) a6 a8 a9 s).2.2.1) := by
  refine zxin ym_Ta_takeNumbers [.ref tp, .ref st] rfl rfl rfl rfl ?_
  refine z_aload_n (q := 1) rfl rfl rfl ?_
  refine z_getI (q := 4) rfl rfl rfl (Ta_k w) ?_
  rw [tq_g6]
  refine z_bipush (q := 6) (v := 8) rfl rfl rfl ?_
  refine z_ic_ne (q := 9) rfl rfl (fun h6 => ?_) (fun h6 => ?_)
  · refine z_aload_n (q := 17) rfl rfl rfl ?_
    refine z_getI (q := 20) rfl rfl rfl (Ta_k w) ?_
    rw [tq_g6]
    refine z_bipush (q := 22) (v := 9) rfl rfl rfl ?_
    refine z_ic_ne (q := 25) rfl rfl (fun h22 => ?_) (fun h22 => ?_)
    · refine z_aload_n (q := 34) rfl rfl rfl ?_
      refine z_aload_n (q := 35) rfl rfl rfl ?_
      refine z_getR (q := 38) rfl rfl rfl (St_k v) (St_r0 v) ?_
      refine z_cv1v (q := 41) rfl rfl rfl (Ta_k w) (t_Ta_deed2 w ht v hf hk hn h2 hc hC (hg h6).1) ?_
      refine z_ret rfl rfl ?_
      refine ⟨rfl, ?_⟩
      first
        | (have g1 : ¬ a6 = 9 := h22
           rw [nuS_d h6 g1])
        | (have g1 : a6 = 9 := h22
           rw [nuS_p h6 g1])
        | rw [nuS_s h6]
    · refine z_aload_n (q := 26) rfl rfl rfl ?_
      refine z_aload_n (q := 27) rfl rfl rfl ?_
      refine z_cv1v (q := 30) rfl rfl rfl (Ta_k w) (t_Ta_takePair w ht v hf hk hc (hg h6).2 hC) ?_
      refine z_goto rfl ?_
      refine z_ret rfl rfl ?_
      refine ⟨rfl, ?_⟩
      first
        | (have g1 : ¬ a6 = 9 := h22
           rw [nuS_d h6 g1])
        | (have g1 : a6 = 9 := h22
           rw [nuS_p h6 g1])
        | rw [nuS_s h6]
  · refine z_aload_n (q := 10) rfl rfl rfl ?_
    refine z_cv0v (q := 13) rfl rfl rfl (Ta_k w) (t_Ta_takeStore w ht hk) ?_
    refine z_goto rfl ?_
    refine z_ret rfl rfl ?_
    refine ⟨rfl, ?_⟩
    first
      | (have g1 : ¬ a6 = 9 := h22
         rw [nuS_d h6 g1])
      | (have g1 : a6 = 9 := h22
         rw [nuS_p h6 g1])
      | rw [nuS_s h6]
/-- a line taken: kind, one, two, three, the reader -/
def lnS (sg : Nat → Int32) (t n c : Nat) (F : Nat → Int32) (J : Nat → Int64) (P : Nat → Int32) (pr ln de : Int32) (s : tS) : Int32 × Int32 × Int32 × Int32 × tS :=
  if wkS sg t s = 0 ∨ ¬ (ln = 0 ↔ wkS sg t s = 8) then (wkS sg t s, 0, 0, 0, refS s 1 (nI s.2.1))
  else if otB (wkS sg t s) pr de (nI n) = true then (wkS sg t s, 0, 0, 0, refS s 3 (nI s.2.1))
  else (wkS sg t s, (nuS sg t n c F J P (wkS sg t s) 0 0 (tokS sg t s)).1, (nuS sg t n c F J P (wkS sg t s) 0 0 (tokS sg t s)).2.1, (nuS sg t n c F J P (wkS sg t s) 0 0 (tokS sg t s)).2.2.1, tsS sg t (nuS sg t n c F J P (wkS sg t s) 0 0 (tokS sg t s)).2.2.2)
theorem t_Ta_noLine {sc : Option (Nat × Nat × (Nat → Int32))} {sa : Nat → Nat} {d : Nat} {M : mz_M} {z : Nat × Nat} {tp : Nat} {sg : Nat → Int32} {t : Nat} {s : tS} {a6 a7 a8 a9 : Int32} (w : g_Ta M.2.2 tp) (ht : t ≤ 500) {st : Nat} (v : g_St M.2.2 st) (hf : tp + 1 < st) (hk : okt t s) {n c : Nat} (hn : M.1 (st + 1) 8 = nI n) (h2 : n ≤ 40) (hc : M.1 (st + 1) 5 = nI c) (hC : c ≤ 12) (he : ¬ s.2.2.2.2.1 = 0 ∨ s.1 = 4) : zx sc sa (d + 9) 96 [.ref tp, .ref st] (tq M tp sg t s a6 a7 a8 a9) z z (some (.int 0)) (tq M tp sg t s a6 a7 a8 a9) := by
  refine zxin ym_Ta_takesLine [.ref tp, .ref st, .retAddr 0] rfl rfl rfl rfl ?_
  refine z_aload_n (q := 1) rfl rfl rfl ?_
  refine z_getI (q := 4) rfl rfl rfl (Ta_k w) ?_
  rw [tq_g10]
  refine z_if_ne (q := 7) rfl rfl (fun h4 => ?_) (fun h4 => ?_)
  · refine z_iconst (q := 16) (v := 0) rfl rfl rfl ?_
    refine z_iretz rfl rfl (rfl) ?_
    exact ⟨rfl, rfl⟩
  · refine z_aload_n (q := 8) rfl rfl rfl ?_
    refine z_getI (q := 11) rfl rfl rfl (Ta_k w) ?_
    rw [tq_g1]
    refine z_iconst (q := 12) (v := 4) rfl rfl rfl ?_
    refine z_ic_ne (q := 15) rfl rfl (fun h12 => ?_) (fun h12 => ?_)
    · first | exact absurd (he.resolve_left (fun h => h h4)) h12
    · refine z_iconst (q := 16) (v := 0) rfl rfl rfl ?_
      refine z_iretz rfl rfl (rfl) ?_
      exact ⟨rfl, rfl⟩
theorem lnS_r {sg : Nat → Int32} {t n c : Nat} {F : Nat → Int32} {J : Nat → Int64} {P : Nat → Int32} {pr ln de : Int32} {s : tS} (h : wkS sg t s = 0 ∨ ¬ (ln = 0 ↔ wkS sg t s = 8)) : lnS sg t n c F J P pr ln de s = (wkS sg t s, 0, 0, 0, refS s 1 (nI s.2.1)) := by unfold lnS; rw [if_pos h]
theorem lnS_m {sg : Nat → Int32} {t n c : Nat} {F : Nat → Int32} {J : Nat → Int64} {P : Nat → Int32} {pr ln de : Int32} {s : tS} (h : ¬ (wkS sg t s = 0 ∨ ¬ (ln = 0 ↔ wkS sg t s = 8))) (h2 : otB (wkS sg t s) pr de (nI n) = true) : lnS sg t n c F J P pr ln de s = (wkS sg t s, 0, 0, 0, refS s 3 (nI s.2.1)) := by unfold lnS; rw [if_neg h, if_pos h2]
theorem lnS_d {sg : Nat → Int32} {t n c : Nat} {F : Nat → Int32} {J : Nat → Int64} {P : Nat → Int32} {pr ln de : Int32} {s : tS} (h : ¬ (wkS sg t s = 0 ∨ ¬ (ln = 0 ↔ wkS sg t s = 8))) (h2 : ¬ otB (wkS sg t s) pr de (nI n) = true) : lnS sg t n c F J P pr ln de s = (wkS sg t s, (nuS sg t n c F J P (wkS sg t s) 0 0 (tokS sg t s)).1, (nuS sg t n c F J P (wkS sg t s) 0 0 (tokS sg t s)).2.1, (nuS sg t n c F J P (wkS sg t s) 0 0 (tokS sg t s)).2.2.1, tsS sg t (nuS sg t n c F J P (wkS sg t s) 0 0 (tokS sg t s)).2.2.2) := by unfold lnS; rw [if_neg h, if_neg h2]
theorem t_Ta_takesLine {sc : Option (Nat × Nat × (Nat → Int32))} {sa : Nat → Nat} {d : Nat} {M : mz_M} {z : Nat × Nat} {tp : Nat} {sg : Nat → Int32} {t : Nat} {s : tS} {a6 a7 a8 a9 : Int32} (w : g_Ta M.2.2 tp) (ht : t ≤ 500) {st : Nat} (v : g_St M.2.2 st) (hf : tp + 1 < st) (hk : okt t s) {n c : Nat} (hn : M.1 (st + 1) 8 = nI n) (h2 : n ≤ 40) (hc : M.1 (st + 1) 5 = nI c) (hC : c ≤ 12) (hg : ¬ M.1 st 8 = 0 → 1 ≤ n ∧ 1 ≤ c) (he : s.2.2.2.2.1 = 0) (hv : ¬ s.1 = 4) : zx sc sa (d + 9) 96 [.ref tp, .ref st] (tq M tp sg t s a6 a7 a8 a9) z z (some (.int (bz ((lnS sg t n c (M.1 (st + 3)) (M.2.1 (st + 2)) (M.1 (st + 7)) (M.1 st 7) (M.1 st 8) (M.1 st 10) s).2.2.2.2.2.2.2.2.1 = 0)))) (tq M tp sg t (lnS sg t n c (M.1 (st + 3)) (M.2.1 (st + 2)) (M.1 (st + 7)) (M.1 st 7) (M.1 st 8) (M.1 st 10) s).2.2.2.2 (lnS sg t n c (M.1 (st + 3)) (M.2.1 (st + 2)) (M.1 (st + 7)) (M.1 st 7) (M.1 st 8) (M.1 st 10) s).1 (lnS sg t n c (M.1 (st + 3)) (M.2.1 (st + 2)) (M.1 (st + 7)) (M.1 st 7) (M.1 st 8) (M.1 st 10) s).2.1 (lnS sg t n c (M.1 (st + 3)) (M.2.1 (st + 2)) (M.1 (st + 7)) (M.1 st 7) (M.1 st 8) (M.1 st 10) s).2.2.1 (lnS sg t n c (M.1 (st + 3)) (M.2.1 (st + 2)) (M.1 (st + 7)) (M.1 st 7) (M.1 st 8) (M.1 st 10) s).2.2.2.1) := by
  have oS_g8 : ∀ {s : tS} {a6 a7 a8 a9 : Int32}, (tq M tp sg t s a6 a7 a8 a9).1 st 8 = M.1 st 8 := fun {s a6 a7 a8 a9} => congrFun (tq_o (by omega) (by omega)) 8
  refine zxin ym_Ta_takesLine [.ref tp, .ref st, .retAddr 0] rfl rfl rfl rfl ?_
  refine z_aload_n (q := 1) rfl rfl rfl ?_
  refine z_getI (q := 4) rfl rfl rfl (Ta_k w) ?_
  rw [tq_g10]
  refine z_if_ne (q := 7) rfl rfl (fun h4 => ?_) (fun h4 => ?_)
  · exact absurd he h4
  · refine z_aload_n (q := 8) rfl rfl rfl ?_
    refine z_getI (q := 11) rfl rfl rfl (Ta_k w) ?_
    rw [tq_g1]
    refine z_iconst (q := 12) (v := 4) rfl rfl rfl ?_
    refine z_ic_ne (q := 15) rfl rfl (fun h12 => ?_) (fun h12 => ?_)
    · refine z_aload_n (q := 18) rfl rfl rfl ?_
      refine z_iconst (q := 19) (v := 0) rfl rfl rfl ?_
      refine z_putI (q := 22) rfl rfl rfl (by decide) rfl rfl (Ta_k w) ?_
      rw [tq_u7]
      refine z_aload_n (q := 23) rfl rfl rfl ?_
      refine z_iconst (q := 24) (v := 0) rfl rfl rfl ?_
      refine z_putI (q := 27) rfl rfl rfl (by decide) rfl rfl (Ta_k w) ?_
      rw [tq_u8]
      refine z_aload_n (q := 28) rfl rfl rfl ?_
      refine z_iconst (q := 29) (v := 0) rfl rfl rfl ?_
      refine z_putI (q := 32) rfl rfl rfl (by decide) rfl rfl (Ta_k w) ?_
      rw [tq_u9]
      refine z_aload_n (q := 33) rfl rfl rfl ?_
      refine z_aload_n (q := 34) rfl rfl rfl ?_
      refine z_cv0i (q := 37) rfl rfl rfl (Ta_k w) (t_Ta_wordKind w ht hk) ?_
      refine z_putI (q := 40) rfl rfl rfl (by decide) rfl rfl (Ta_k w) ?_
      rw [tq_u6]
      refine z_aload_n (q := 41) rfl rfl rfl ?_
      refine z_getI (q := 44) rfl rfl rfl (St_k v) ?_
      rw [oS_g8]
      refine z_if_ne (q := 47) rfl rfl (fun h44 => ?_) (fun h44 => ?_)
      · refine z_iconst (q := 52) (v := 0) rfl rfl rfl ?_
        refine z_istore_n (q := 53) (L2 := [_, _, _]) rfl rfl rfl rfl ?_
        refine z_aload_n (q := 54) rfl rfl rfl ?_
        refine z_getI (q := 57) rfl rfl rfl (Ta_k w) ?_
        rw [tq_g6]
        refine z_if_eq (q := 60) rfl rfl (fun h57 => ?_) (fun h57 => ?_)
        · refine z_aload_n (q := 79) rfl rfl rfl ?_
          refine z_iconst (q := 80) (v := 1) rfl rfl rfl ?_
          refine z_aload_n (q := 81) rfl rfl rfl ?_
          refine z_getI (q := 84) rfl rfl rfl (Ta_k w) ?_
          rw [tq_g2]
          refine z_cv2v (q := 87) rfl rfl rfl (Ta_k w) (t_Ta_refuse w ht) ?_
          refine z_goto rfl ?_
          refine z_aload_n (q := 124) rfl rfl rfl ?_
          refine z_getI (q := 127) rfl rfl rfl (Ta_k w) ?_
          rw [tq_g10]
          refine z_if_ne (q := 130) rfl rfl (fun h127 => ?_) (fun h127 => ?_)
          · refine z_iconst (q := 135) (v := 0) rfl rfl rfl ?_
            refine z_iretz rfl rfl (rfl) ?_
            first
              | (have g1 := bz_0.mp h95
                 rw [hn] at g1
                 have g2 : ¬ (wkS sg t s = 0 ∨ ¬ (M.1 st 8 = 0 ↔ wkS sg t s = 8)) := by simp_all only [not_true_eq_false, not_false_eq_true, or_self, iff_self, iff_true, true_iff, false_iff, iff_false]
                 rw [lnS_d g2 g1]
                 refine ⟨?_, rfl⟩
                 dsimp only
                 unfold bz
                 first | rw [if_pos h127] | rw [if_neg h127])
              | (have g1 := bz_n.mp h95
                 rw [hn] at g1
                 have g2 : ¬ (wkS sg t s = 0 ∨ ¬ (M.1 st 8 = 0 ↔ wkS sg t s = 8)) := by simp_all only [not_true_eq_false, not_false_eq_true, or_self, iff_self, iff_true, true_iff, false_iff, iff_false]
                 rw [lnS_m g2 g1]
                 refine ⟨?_, rfl⟩
                 dsimp only
                 unfold bz
                 first | rw [if_pos h127] | rw [if_neg h127])
              | (have g2 : wkS sg t s = 0 ∨ ¬ (M.1 st 8 = 0 ↔ wkS sg t s = 8) := by simp_all
                 rw [lnS_r g2]
                 refine ⟨?_, rfl⟩
                 dsimp only
                 unfold bz
                 first | rw [if_pos h127] | rw [if_neg h127])
          · refine z_iconst (q := 131) (v := 1) rfl rfl rfl ?_
            refine z_goto rfl ?_
            refine z_iretz rfl rfl (rfl) ?_
            first
              | (have g1 := bz_0.mp h95
                 rw [hn] at g1
                 have g2 : ¬ (wkS sg t s = 0 ∨ ¬ (M.1 st 8 = 0 ↔ wkS sg t s = 8)) := by simp_all only [not_true_eq_false, not_false_eq_true, or_self, iff_self, iff_true, true_iff, false_iff, iff_false]
                 rw [lnS_d g2 g1]
                 refine ⟨?_, rfl⟩
                 dsimp only
                 unfold bz
                 first | rw [if_pos h127] | rw [if_neg h127])
              | (have g1 := bz_n.mp h95
                 rw [hn] at g1
                 have g2 : ¬ (wkS sg t s = 0 ∨ ¬ (M.1 st 8 = 0 ↔ wkS sg t s = 8)) := by simp_all only [not_true_eq_false, not_false_eq_true, or_self, iff_self, iff_true, true_iff, false_iff, iff_false]
                 rw [lnS_m g2 g1]
                 refine ⟨?_, rfl⟩
                 dsimp only
                 unfold bz
                 first | rw [if_pos h127] | rw [if_neg h127])
              | (have g2 : wkS sg t s = 0 ∨ ¬ (M.1 st 8 = 0 ↔ wkS sg t s = 8) := by simp_all
                 rw [lnS_r g2]
                 refine ⟨?_, rfl⟩
                 dsimp only
                 unfold bz
                 first | rw [if_pos h127] | rw [if_neg h127])
        · refine z_iload_n (q := 61) rfl rfl rfl ?_
          refine z_aload_n (q := 62) rfl rfl rfl ?_
          refine z_getI (q := 65) rfl rfl rfl (Ta_k w) ?_
          rw [tq_g6]
          refine z_bipush (q := 67) (v := 8) rfl rfl rfl ?_
          refine z_ic_ne (q := 70) rfl rfl (fun h67 => ?_) (fun h67 => ?_)
          · refine z_iconst (q := 75) (v := 0) rfl rfl rfl ?_
            refine z_ic_eq (q := 78) rfl rfl (fun h75 => ?_) (fun h75 => ?_)
            · refine z_aload_n (q := 91) rfl rfl rfl ?_
              refine z_aload_n (q := 92) rfl rfl rfl ?_
              refine z_cv1i (q := 95) rfl rfl rfl (Ta_k w) (t_Ta_isOneTooMany w ht v hf) ?_
              refine z_if_eq (q := 98) rfl rfl (fun h95 => ?_) (fun h95 => ?_)
              · refine z_aload_n (q := 111) rfl rfl rfl ?_
                refine z_cv0v (q := 114) rfl rfl rfl (Ta_k w) (t_Ta_token w ht hk) ?_
                refine z_aload_n (q := 115) rfl rfl rfl ?_
                refine z_aload_n (q := 116) rfl rfl rfl ?_
                refine z_cv1v (q := 119) rfl rfl rfl (Ta_k w) (t_Ta_takeNumbers w ht v hf (tokS_ok hk) hn h2 hc hC (fun h => hg (by simp_all))) ?_
                refine z_aload_n (q := 120) rfl rfl rfl ?_
                refine z_cv0v (q := 123) rfl rfl rfl (Ta_k w) (t_Ta_takeSign w ht (nuS_ok (tokS_ok hk))) ?_
                refine z_aload_n (q := 124) rfl rfl rfl ?_
                refine z_getI (q := 127) rfl rfl rfl (Ta_k w) ?_
                rw [tq_g10]
                refine z_if_ne (q := 130) rfl rfl (fun h127 => ?_) (fun h127 => ?_)
                · refine z_iconst (q := 135) (v := 0) rfl rfl rfl ?_
                  refine z_iretz rfl rfl (rfl) ?_
                  first
                    | (have g1 := bz_0.mp h95
                       rw [hn] at g1
                       have g2 : ¬ (wkS sg t s = 0 ∨ ¬ (M.1 st 8 = 0 ↔ wkS sg t s = 8)) := by simp_all only [not_true_eq_false, not_false_eq_true, or_self, iff_self, iff_true, true_iff, false_iff, iff_false]
                       rw [lnS_d g2 g1]
                       refine ⟨?_, rfl⟩
                       dsimp only
                       unfold bz
                       first | rw [if_pos h127] | rw [if_neg h127])
                    | (have g1 := bz_n.mp h95
                       rw [hn] at g1
                       have g2 : ¬ (wkS sg t s = 0 ∨ ¬ (M.1 st 8 = 0 ↔ wkS sg t s = 8)) := by simp_all only [not_true_eq_false, not_false_eq_true, or_self, iff_self, iff_true, true_iff, false_iff, iff_false]
                       rw [lnS_m g2 g1]
                       refine ⟨?_, rfl⟩
                       dsimp only
                       unfold bz
                       first | rw [if_pos h127] | rw [if_neg h127])
                    | (have g2 : wkS sg t s = 0 ∨ ¬ (M.1 st 8 = 0 ↔ wkS sg t s = 8) := by simp_all
                       rw [lnS_r g2]
                       refine ⟨?_, rfl⟩
                       dsimp only
                       unfold bz
                       first | rw [if_pos h127] | rw [if_neg h127])
                · refine z_iconst (q := 131) (v := 1) rfl rfl rfl ?_
                  refine z_goto rfl ?_
                  refine z_iretz rfl rfl (rfl) ?_
                  first
                    | (have g1 := bz_0.mp h95
                       rw [hn] at g1
                       have g2 : ¬ (wkS sg t s = 0 ∨ ¬ (M.1 st 8 = 0 ↔ wkS sg t s = 8)) := by simp_all only [not_true_eq_false, not_false_eq_true, or_self, iff_self, iff_true, true_iff, false_iff, iff_false]
                       rw [lnS_d g2 g1]
                       refine ⟨?_, rfl⟩
                       dsimp only
                       unfold bz
                       first | rw [if_pos h127] | rw [if_neg h127])
                    | (have g1 := bz_n.mp h95
                       rw [hn] at g1
                       have g2 : ¬ (wkS sg t s = 0 ∨ ¬ (M.1 st 8 = 0 ↔ wkS sg t s = 8)) := by simp_all only [not_true_eq_false, not_false_eq_true, or_self, iff_self, iff_true, true_iff, false_iff, iff_false]
                       rw [lnS_m g2 g1]
                       refine ⟨?_, rfl⟩
                       dsimp only
                       unfold bz
                       first | rw [if_pos h127] | rw [if_neg h127])
                    | (have g2 : wkS sg t s = 0 ∨ ¬ (M.1 st 8 = 0 ↔ wkS sg t s = 8) := by simp_all
                       rw [lnS_r g2]
                       refine ⟨?_, rfl⟩
                       dsimp only
                       unfold bz
                       first | rw [if_pos h127] | rw [if_neg h127])
              · refine z_aload_n (q := 99) rfl rfl rfl ?_
                refine z_iconst (q := 100) (v := 3) rfl rfl rfl ?_
                refine z_aload_n (q := 101) rfl rfl rfl ?_
                refine z_getI (q := 104) rfl rfl rfl (Ta_k w) ?_
                rw [tq_g2]
                refine z_cv2v (q := 107) rfl rfl rfl (Ta_k w) (t_Ta_refuse w ht) ?_
                refine z_goto rfl ?_
                refine z_aload_n (q := 124) rfl rfl rfl ?_
                refine z_getI (q := 127) rfl rfl rfl (Ta_k w) ?_
                rw [tq_g10]
                refine z_if_ne (q := 130) rfl rfl (fun h127 => ?_) (fun h127 => ?_)
                · refine z_iconst (q := 135) (v := 0) rfl rfl rfl ?_
                  refine z_iretz rfl rfl (rfl) ?_
                  first
                    | (have g1 := bz_0.mp h95
                       rw [hn] at g1
                       have g2 : ¬ (wkS sg t s = 0 ∨ ¬ (M.1 st 8 = 0 ↔ wkS sg t s = 8)) := by simp_all only [not_true_eq_false, not_false_eq_true, or_self, iff_self, iff_true, true_iff, false_iff, iff_false]
                       rw [lnS_d g2 g1]
                       refine ⟨?_, rfl⟩
                       dsimp only
                       unfold bz
                       first | rw [if_pos h127] | rw [if_neg h127])
                    | (have g1 := bz_n.mp h95
                       rw [hn] at g1
                       have g2 : ¬ (wkS sg t s = 0 ∨ ¬ (M.1 st 8 = 0 ↔ wkS sg t s = 8)) := by simp_all only [not_true_eq_false, not_false_eq_true, or_self, iff_self, iff_true, true_iff, false_iff, iff_false]
                       rw [lnS_m g2 g1]
                       refine ⟨?_, rfl⟩
                       dsimp only
                       unfold bz
                       first | rw [if_pos h127] | rw [if_neg h127])
                    | (have g2 : wkS sg t s = 0 ∨ ¬ (M.1 st 8 = 0 ↔ wkS sg t s = 8) := by simp_all
                       rw [lnS_r g2]
                       refine ⟨?_, rfl⟩
                       dsimp only
                       unfold bz
                       first | rw [if_pos h127] | rw [if_neg h127])
                · refine z_iconst (q := 131) (v := 1) rfl rfl rfl ?_
                  refine z_goto rfl ?_
                  refine z_iretz rfl rfl (rfl) ?_
                  first
                    | (have g1 := bz_0.mp h95
                       rw [hn] at g1
                       have g2 : ¬ (wkS sg t s = 0 ∨ ¬ (M.1 st 8 = 0 ↔ wkS sg t s = 8)) := by simp_all only [not_true_eq_false, not_false_eq_true, or_self, iff_self, iff_true, true_iff, false_iff, iff_false]
                       rw [lnS_d g2 g1]
                       refine ⟨?_, rfl⟩
                       dsimp only
                       unfold bz
                       first | rw [if_pos h127] | rw [if_neg h127])
                    | (have g1 := bz_n.mp h95
                       rw [hn] at g1
                       have g2 : ¬ (wkS sg t s = 0 ∨ ¬ (M.1 st 8 = 0 ↔ wkS sg t s = 8)) := by simp_all only [not_true_eq_false, not_false_eq_true, or_self, iff_self, iff_true, true_iff, false_iff, iff_false]
                       rw [lnS_m g2 g1]
                       refine ⟨?_, rfl⟩
                       dsimp only
                       unfold bz
                       first | rw [if_pos h127] | rw [if_neg h127])
                    | (have g2 : wkS sg t s = 0 ∨ ¬ (M.1 st 8 = 0 ↔ wkS sg t s = 8) := by simp_all
                       rw [lnS_r g2]
                       refine ⟨?_, rfl⟩
                       dsimp only
                       unfold bz
                       first | rw [if_pos h127] | rw [if_neg h127])
            · exact absurd h75 (by decide)
          · refine z_iconst (q := 71) (v := 1) rfl rfl rfl ?_
            refine z_goto rfl ?_
            refine z_ic_eq (q := 78) rfl rfl (fun h75 => ?_) (fun h75 => ?_)
            · exact absurd h75 (by decide)
            · refine z_aload_n (q := 79) rfl rfl rfl ?_
              refine z_iconst (q := 80) (v := 1) rfl rfl rfl ?_
              refine z_aload_n (q := 81) rfl rfl rfl ?_
              refine z_getI (q := 84) rfl rfl rfl (Ta_k w) ?_
              rw [tq_g2]
              refine z_cv2v (q := 87) rfl rfl rfl (Ta_k w) (t_Ta_refuse w ht) ?_
              refine z_goto rfl ?_
              refine z_aload_n (q := 124) rfl rfl rfl ?_
              refine z_getI (q := 127) rfl rfl rfl (Ta_k w) ?_
              rw [tq_g10]
              refine z_if_ne (q := 130) rfl rfl (fun h127 => ?_) (fun h127 => ?_)
              · refine z_iconst (q := 135) (v := 0) rfl rfl rfl ?_
                refine z_iretz rfl rfl (rfl) ?_
                first
                  | (have g1 := bz_0.mp h95
                     rw [hn] at g1
                     have g2 : ¬ (wkS sg t s = 0 ∨ ¬ (M.1 st 8 = 0 ↔ wkS sg t s = 8)) := by simp_all only [not_true_eq_false, not_false_eq_true, or_self, iff_self, iff_true, true_iff, false_iff, iff_false]
                     rw [lnS_d g2 g1]
                     refine ⟨?_, rfl⟩
                     dsimp only
                     unfold bz
                     first | rw [if_pos h127] | rw [if_neg h127])
                  | (have g1 := bz_n.mp h95
                     rw [hn] at g1
                     have g2 : ¬ (wkS sg t s = 0 ∨ ¬ (M.1 st 8 = 0 ↔ wkS sg t s = 8)) := by simp_all only [not_true_eq_false, not_false_eq_true, or_self, iff_self, iff_true, true_iff, false_iff, iff_false]
                     rw [lnS_m g2 g1]
                     refine ⟨?_, rfl⟩
                     dsimp only
                     unfold bz
                     first | rw [if_pos h127] | rw [if_neg h127])
                  | (have g2 : wkS sg t s = 0 ∨ ¬ (M.1 st 8 = 0 ↔ wkS sg t s = 8) := by simp_all
                     rw [lnS_r g2]
                     refine ⟨?_, rfl⟩
                     dsimp only
                     unfold bz
                     first | rw [if_pos h127] | rw [if_neg h127])
              · refine z_iconst (q := 131) (v := 1) rfl rfl rfl ?_
                refine z_goto rfl ?_
                refine z_iretz rfl rfl (rfl) ?_
                first
                  | (have g1 := bz_0.mp h95
                     rw [hn] at g1
                     have g2 : ¬ (wkS sg t s = 0 ∨ ¬ (M.1 st 8 = 0 ↔ wkS sg t s = 8)) := by simp_all only [not_true_eq_false, not_false_eq_true, or_self, iff_self, iff_true, true_iff, false_iff, iff_false]
                     rw [lnS_d g2 g1]
                     refine ⟨?_, rfl⟩
                     dsimp only
                     unfold bz
                     first | rw [if_pos h127] | rw [if_neg h127])
                  | (have g1 := bz_n.mp h95
                     rw [hn] at g1
                     have g2 : ¬ (wkS sg t s = 0 ∨ ¬ (M.1 st 8 = 0 ↔ wkS sg t s = 8)) := by simp_all only [not_true_eq_false, not_false_eq_true, or_self, iff_self, iff_true, true_iff, false_iff, iff_false]
                     rw [lnS_m g2 g1]
                     refine ⟨?_, rfl⟩
                     dsimp only
                     unfold bz
                     first | rw [if_pos h127] | rw [if_neg h127])
                  | (have g2 : wkS sg t s = 0 ∨ ¬ (M.1 st 8 = 0 ↔ wkS sg t s = 8) := by simp_all
                     rw [lnS_r g2]
                     refine ⟨?_, rfl⟩
                     dsimp only
                     unfold bz
                     first | rw [if_pos h127] | rw [if_neg h127])
      · refine z_iconst (q := 48) (v := 1) rfl rfl rfl ?_
        refine z_goto rfl ?_
        refine z_istore_n (q := 53) (L2 := [_, _, _]) rfl rfl rfl rfl ?_
        refine z_aload_n (q := 54) rfl rfl rfl ?_
        refine z_getI (q := 57) rfl rfl rfl (Ta_k w) ?_
        rw [tq_g6]
        refine z_if_eq (q := 60) rfl rfl (fun h57 => ?_) (fun h57 => ?_)
        · refine z_aload_n (q := 79) rfl rfl rfl ?_
          refine z_iconst (q := 80) (v := 1) rfl rfl rfl ?_
          refine z_aload_n (q := 81) rfl rfl rfl ?_
          refine z_getI (q := 84) rfl rfl rfl (Ta_k w) ?_
          rw [tq_g2]
          refine z_cv2v (q := 87) rfl rfl rfl (Ta_k w) (t_Ta_refuse w ht) ?_
          refine z_goto rfl ?_
          refine z_aload_n (q := 124) rfl rfl rfl ?_
          refine z_getI (q := 127) rfl rfl rfl (Ta_k w) ?_
          rw [tq_g10]
          refine z_if_ne (q := 130) rfl rfl (fun h127 => ?_) (fun h127 => ?_)
          · refine z_iconst (q := 135) (v := 0) rfl rfl rfl ?_
            refine z_iretz rfl rfl (rfl) ?_
            first
              | (have g1 := bz_0.mp h95
                 rw [hn] at g1
                 have g2 : ¬ (wkS sg t s = 0 ∨ ¬ (M.1 st 8 = 0 ↔ wkS sg t s = 8)) := by simp_all only [not_true_eq_false, not_false_eq_true, or_self, iff_self, iff_true, true_iff, false_iff, iff_false]
                 rw [lnS_d g2 g1]
                 refine ⟨?_, rfl⟩
                 dsimp only
                 unfold bz
                 first | rw [if_pos h127] | rw [if_neg h127])
              | (have g1 := bz_n.mp h95
                 rw [hn] at g1
                 have g2 : ¬ (wkS sg t s = 0 ∨ ¬ (M.1 st 8 = 0 ↔ wkS sg t s = 8)) := by simp_all only [not_true_eq_false, not_false_eq_true, or_self, iff_self, iff_true, true_iff, false_iff, iff_false]
                 rw [lnS_m g2 g1]
                 refine ⟨?_, rfl⟩
                 dsimp only
                 unfold bz
                 first | rw [if_pos h127] | rw [if_neg h127])
              | (have g2 : wkS sg t s = 0 ∨ ¬ (M.1 st 8 = 0 ↔ wkS sg t s = 8) := by simp_all
                 rw [lnS_r g2]
                 refine ⟨?_, rfl⟩
                 dsimp only
                 unfold bz
                 first | rw [if_pos h127] | rw [if_neg h127])
          · refine z_iconst (q := 131) (v := 1) rfl rfl rfl ?_
            refine z_goto rfl ?_
            refine z_iretz rfl rfl (rfl) ?_
            first
              | (have g1 := bz_0.mp h95
                 rw [hn] at g1
                 have g2 : ¬ (wkS sg t s = 0 ∨ ¬ (M.1 st 8 = 0 ↔ wkS sg t s = 8)) := by simp_all only [not_true_eq_false, not_false_eq_true, or_self, iff_self, iff_true, true_iff, false_iff, iff_false]
                 rw [lnS_d g2 g1]
                 refine ⟨?_, rfl⟩
                 dsimp only
                 unfold bz
                 first | rw [if_pos h127] | rw [if_neg h127])
              | (have g1 := bz_n.mp h95
                 rw [hn] at g1
                 have g2 : ¬ (wkS sg t s = 0 ∨ ¬ (M.1 st 8 = 0 ↔ wkS sg t s = 8)) := by simp_all only [not_true_eq_false, not_false_eq_true, or_self, iff_self, iff_true, true_iff, false_iff, iff_false]
                 rw [lnS_m g2 g1]
                 refine ⟨?_, rfl⟩
                 dsimp only
                 unfold bz
                 first | rw [if_pos h127] | rw [if_neg h127])
              | (have g2 : wkS sg t s = 0 ∨ ¬ (M.1 st 8 = 0 ↔ wkS sg t s = 8) := by simp_all
                 rw [lnS_r g2]
                 refine ⟨?_, rfl⟩
                 dsimp only
                 unfold bz
                 first | rw [if_pos h127] | rw [if_neg h127])
        · refine z_iload_n (q := 61) rfl rfl rfl ?_
          refine z_aload_n (q := 62) rfl rfl rfl ?_
          refine z_getI (q := 65) rfl rfl rfl (Ta_k w) ?_
          rw [tq_g6]
          refine z_bipush (q := 67) (v := 8) rfl rfl rfl ?_
          refine z_ic_ne (q := 70) rfl rfl (fun h67 => ?_) (fun h67 => ?_)
          · refine z_iconst (q := 75) (v := 0) rfl rfl rfl ?_
            refine z_ic_eq (q := 78) rfl rfl (fun h75 => ?_) (fun h75 => ?_)
            · exact absurd h75 (by decide)
            · refine z_aload_n (q := 79) rfl rfl rfl ?_
              refine z_iconst (q := 80) (v := 1) rfl rfl rfl ?_
              refine z_aload_n (q := 81) rfl rfl rfl ?_
              refine z_getI (q := 84) rfl rfl rfl (Ta_k w) ?_
              rw [tq_g2]
              refine z_cv2v (q := 87) rfl rfl rfl (Ta_k w) (t_Ta_refuse w ht) ?_
              refine z_goto rfl ?_
              refine z_aload_n (q := 124) rfl rfl rfl ?_
              refine z_getI (q := 127) rfl rfl rfl (Ta_k w) ?_
              rw [tq_g10]
              refine z_if_ne (q := 130) rfl rfl (fun h127 => ?_) (fun h127 => ?_)
              · refine z_iconst (q := 135) (v := 0) rfl rfl rfl ?_
                refine z_iretz rfl rfl (rfl) ?_
                first
                  | (have g1 := bz_0.mp h95
                     rw [hn] at g1
                     have g2 : ¬ (wkS sg t s = 0 ∨ ¬ (M.1 st 8 = 0 ↔ wkS sg t s = 8)) := by simp_all only [not_true_eq_false, not_false_eq_true, or_self, iff_self, iff_true, true_iff, false_iff, iff_false]
                     rw [lnS_d g2 g1]
                     refine ⟨?_, rfl⟩
                     dsimp only
                     unfold bz
                     first | rw [if_pos h127] | rw [if_neg h127])
                  | (have g1 := bz_n.mp h95
                     rw [hn] at g1
                     have g2 : ¬ (wkS sg t s = 0 ∨ ¬ (M.1 st 8 = 0 ↔ wkS sg t s = 8)) := by simp_all only [not_true_eq_false, not_false_eq_true, or_self, iff_self, iff_true, true_iff, false_iff, iff_false]
                     rw [lnS_m g2 g1]
                     refine ⟨?_, rfl⟩
                     dsimp only
                     unfold bz
                     first | rw [if_pos h127] | rw [if_neg h127])
                  | (have g2 : wkS sg t s = 0 ∨ ¬ (M.1 st 8 = 0 ↔ wkS sg t s = 8) := by simp_all
                     rw [lnS_r g2]
                     refine ⟨?_, rfl⟩
                     dsimp only
                     unfold bz
                     first | rw [if_pos h127] | rw [if_neg h127])
              · refine z_iconst (q := 131) (v := 1) rfl rfl rfl ?_
                refine z_goto rfl ?_
                refine z_iretz rfl rfl (rfl) ?_
                first
                  | (have g1 := bz_0.mp h95
                     rw [hn] at g1
                     have g2 : ¬ (wkS sg t s = 0 ∨ ¬ (M.1 st 8 = 0 ↔ wkS sg t s = 8)) := by simp_all only [not_true_eq_false, not_false_eq_true, or_self, iff_self, iff_true, true_iff, false_iff, iff_false]
                     rw [lnS_d g2 g1]
                     refine ⟨?_, rfl⟩
                     dsimp only
                     unfold bz
                     first | rw [if_pos h127] | rw [if_neg h127])
                  | (have g1 := bz_n.mp h95
                     rw [hn] at g1
                     have g2 : ¬ (wkS sg t s = 0 ∨ ¬ (M.1 st 8 = 0 ↔ wkS sg t s = 8)) := by simp_all only [not_true_eq_false, not_false_eq_true, or_self, iff_self, iff_true, true_iff, false_iff, iff_false]
                     rw [lnS_m g2 g1]
                     refine ⟨?_, rfl⟩
                     dsimp only
                     unfold bz
                     first | rw [if_pos h127] | rw [if_neg h127])
                  | (have g2 : wkS sg t s = 0 ∨ ¬ (M.1 st 8 = 0 ↔ wkS sg t s = 8) := by simp_all
                     rw [lnS_r g2]
                     refine ⟨?_, rfl⟩
                     dsimp only
                     unfold bz
                     first | rw [if_pos h127] | rw [if_neg h127])
          · refine z_iconst (q := 71) (v := 1) rfl rfl rfl ?_
            refine z_goto rfl ?_
            refine z_ic_eq (q := 78) rfl rfl (fun h75 => ?_) (fun h75 => ?_)
            · refine z_aload_n (q := 91) rfl rfl rfl ?_
              refine z_aload_n (q := 92) rfl rfl rfl ?_
              refine z_cv1i (q := 95) rfl rfl rfl (Ta_k w) (t_Ta_isOneTooMany w ht v hf) ?_
              refine z_if_eq (q := 98) rfl rfl (fun h95 => ?_) (fun h95 => ?_)
              · refine z_aload_n (q := 111) rfl rfl rfl ?_
                refine z_cv0v (q := 114) rfl rfl rfl (Ta_k w) (t_Ta_token w ht hk) ?_
                refine z_aload_n (q := 115) rfl rfl rfl ?_
                refine z_aload_n (q := 116) rfl rfl rfl ?_
                refine z_cv1v (q := 119) rfl rfl rfl (Ta_k w) (t_Ta_takeNumbers w ht v hf (tokS_ok hk) hn h2 hc hC (fun h => hg (by simp_all))) ?_
                refine z_aload_n (q := 120) rfl rfl rfl ?_
                refine z_cv0v (q := 123) rfl rfl rfl (Ta_k w) (t_Ta_takeSign w ht (nuS_ok (tokS_ok hk))) ?_
                refine z_aload_n (q := 124) rfl rfl rfl ?_
                refine z_getI (q := 127) rfl rfl rfl (Ta_k w) ?_
                rw [tq_g10]
                refine z_if_ne (q := 130) rfl rfl (fun h127 => ?_) (fun h127 => ?_)
                · refine z_iconst (q := 135) (v := 0) rfl rfl rfl ?_
                  refine z_iretz rfl rfl (rfl) ?_
                  first
                    | (have g1 := bz_0.mp h95
                       rw [hn] at g1
                       have g2 : ¬ (wkS sg t s = 0 ∨ ¬ (M.1 st 8 = 0 ↔ wkS sg t s = 8)) := by simp_all only [not_true_eq_false, not_false_eq_true, or_self, iff_self, iff_true, true_iff, false_iff, iff_false]
                       rw [lnS_d g2 g1]
                       refine ⟨?_, rfl⟩
                       dsimp only
                       unfold bz
                       first | rw [if_pos h127] | rw [if_neg h127])
                    | (have g1 := bz_n.mp h95
                       rw [hn] at g1
                       have g2 : ¬ (wkS sg t s = 0 ∨ ¬ (M.1 st 8 = 0 ↔ wkS sg t s = 8)) := by simp_all only [not_true_eq_false, not_false_eq_true, or_self, iff_self, iff_true, true_iff, false_iff, iff_false]
                       rw [lnS_m g2 g1]
                       refine ⟨?_, rfl⟩
                       dsimp only
                       unfold bz
                       first | rw [if_pos h127] | rw [if_neg h127])
                    | (have g2 : wkS sg t s = 0 ∨ ¬ (M.1 st 8 = 0 ↔ wkS sg t s = 8) := by simp_all
                       rw [lnS_r g2]
                       refine ⟨?_, rfl⟩
                       dsimp only
                       unfold bz
                       first | rw [if_pos h127] | rw [if_neg h127])
                · refine z_iconst (q := 131) (v := 1) rfl rfl rfl ?_
                  refine z_goto rfl ?_
                  refine z_iretz rfl rfl (rfl) ?_
                  first
                    | (have g1 := bz_0.mp h95
                       rw [hn] at g1
                       have g2 : ¬ (wkS sg t s = 0 ∨ ¬ (M.1 st 8 = 0 ↔ wkS sg t s = 8)) := by simp_all only [not_true_eq_false, not_false_eq_true, or_self, iff_self, iff_true, true_iff, false_iff, iff_false]
                       rw [lnS_d g2 g1]
                       refine ⟨?_, rfl⟩
                       dsimp only
                       unfold bz
                       first | rw [if_pos h127] | rw [if_neg h127])
                    | (have g1 := bz_n.mp h95
                       rw [hn] at g1
                       have g2 : ¬ (wkS sg t s = 0 ∨ ¬ (M.1 st 8 = 0 ↔ wkS sg t s = 8)) := by simp_all only [not_true_eq_false, not_false_eq_true, or_self, iff_self, iff_true, true_iff, false_iff, iff_false]
                       rw [lnS_m g2 g1]
                       refine ⟨?_, rfl⟩
                       dsimp only
                       unfold bz
                       first | rw [if_pos h127] | rw [if_neg h127])
                    | (have g2 : wkS sg t s = 0 ∨ ¬ (M.1 st 8 = 0 ↔ wkS sg t s = 8) := by simp_all
                       rw [lnS_r g2]
                       refine ⟨?_, rfl⟩
                       dsimp only
                       unfold bz
                       first | rw [if_pos h127] | rw [if_neg h127])
              · refine z_aload_n (q := 99) rfl rfl rfl ?_
                refine z_iconst (q := 100) (v := 3) rfl rfl rfl ?_
                refine z_aload_n (q := 101) rfl rfl rfl ?_
                refine z_getI (q := 104) rfl rfl rfl (Ta_k w) ?_
                rw [tq_g2]
                refine z_cv2v (q := 107) rfl rfl rfl (Ta_k w) (t_Ta_refuse w ht) ?_
                refine z_goto rfl ?_
                refine z_aload_n (q := 124) rfl rfl rfl ?_
                refine z_getI (q := 127) rfl rfl rfl (Ta_k w) ?_
                rw [tq_g10]
                refine z_if_ne (q := 130) rfl rfl (fun h127 => ?_) (fun h127 => ?_)
                · refine z_iconst (q := 135) (v := 0) rfl rfl rfl ?_
                  refine z_iretz rfl rfl (rfl) ?_
                  first
                    | (have g1 := bz_0.mp h95
                       rw [hn] at g1
                       have g2 : ¬ (wkS sg t s = 0 ∨ ¬ (M.1 st 8 = 0 ↔ wkS sg t s = 8)) := by simp_all only [not_true_eq_false, not_false_eq_true, or_self, iff_self, iff_true, true_iff, false_iff, iff_false]
                       rw [lnS_d g2 g1]
                       refine ⟨?_, rfl⟩
                       dsimp only
                       unfold bz
                       first | rw [if_pos h127] | rw [if_neg h127])
                    | (have g1 := bz_n.mp h95
                       rw [hn] at g1
                       have g2 : ¬ (wkS sg t s = 0 ∨ ¬ (M.1 st 8 = 0 ↔ wkS sg t s = 8)) := by simp_all only [not_true_eq_false, not_false_eq_true, or_self, iff_self, iff_true, true_iff, false_iff, iff_false]
                       rw [lnS_m g2 g1]
                       refine ⟨?_, rfl⟩
                       dsimp only
                       unfold bz
                       first | rw [if_pos h127] | rw [if_neg h127])
                    | (have g2 : wkS sg t s = 0 ∨ ¬ (M.1 st 8 = 0 ↔ wkS sg t s = 8) := by simp_all
                       rw [lnS_r g2]
                       refine ⟨?_, rfl⟩
                       dsimp only
                       unfold bz
                       first | rw [if_pos h127] | rw [if_neg h127])
                · refine z_iconst (q := 131) (v := 1) rfl rfl rfl ?_
                  refine z_goto rfl ?_
                  refine z_iretz rfl rfl (rfl) ?_
                  first
                    | (have g1 := bz_0.mp h95
                       rw [hn] at g1
                       have g2 : ¬ (wkS sg t s = 0 ∨ ¬ (M.1 st 8 = 0 ↔ wkS sg t s = 8)) := by simp_all only [not_true_eq_false, not_false_eq_true, or_self, iff_self, iff_true, true_iff, false_iff, iff_false]
                       rw [lnS_d g2 g1]
                       refine ⟨?_, rfl⟩
                       dsimp only
                       unfold bz
                       first | rw [if_pos h127] | rw [if_neg h127])
                    | (have g1 := bz_n.mp h95
                       rw [hn] at g1
                       have g2 : ¬ (wkS sg t s = 0 ∨ ¬ (M.1 st 8 = 0 ↔ wkS sg t s = 8)) := by simp_all only [not_true_eq_false, not_false_eq_true, or_self, iff_self, iff_true, true_iff, false_iff, iff_false]
                       rw [lnS_m g2 g1]
                       refine ⟨?_, rfl⟩
                       dsimp only
                       unfold bz
                       first | rw [if_pos h127] | rw [if_neg h127])
                    | (have g2 : wkS sg t s = 0 ∨ ¬ (M.1 st 8 = 0 ↔ wkS sg t s = 8) := by simp_all
                       rw [lnS_r g2]
                       refine ⟨?_, rfl⟩
                       dsimp only
                       unfold bz
                       first | rw [if_pos h127] | rw [if_neg h127])
            · exact absurd h75 (by decide)
    · exact absurd h12 hv
