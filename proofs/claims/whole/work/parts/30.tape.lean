-- the tape's cells as one state
def taF (M : mz_M) (tp : Nat) (e1 e2 e3 e4 e5 e6 e7 e8 e9 e10 e11 : Int32) : Nat → Int32 := fun k => match k with
  | 1 => e1
  | 2 => e2
  | 3 => e3
  | 4 => e4
  | 5 => e5
  | 6 => e6
  | 7 => e7
  | 8 => e8
  | 9 => e9
  | 10 => e10
  | 11 => e11
  | k => M.1 tp k
def taP (M : mz_M) (tp : Nat) (sg : Nat → Int32) (e1 e2 e3 e4 e5 e6 e7 e8 e9 e10 e11 : Int32) : mz_M := (fun a => if a = tp then taF M tp e1 e2 e3 e4 e5 e6 e7 e8 e9 e10 e11 else if a = tp + 1 then sg else M.1 a, M.2)
theorem taP_g1 {M : mz_M} {tp : Nat} {sg : Nat → Int32} {e1 e2 e3 e4 e5 e6 e7 e8 e9 e10 e11 : Int32} : (taP M tp sg e1 e2 e3 e4 e5 e6 e7 e8 e9 e10 e11).1 tp 1 = e1 := by simp [taP, taF]
theorem taP_g2 {M : mz_M} {tp : Nat} {sg : Nat → Int32} {e1 e2 e3 e4 e5 e6 e7 e8 e9 e10 e11 : Int32} : (taP M tp sg e1 e2 e3 e4 e5 e6 e7 e8 e9 e10 e11).1 tp 2 = e2 := by simp [taP, taF]
theorem taP_g3 {M : mz_M} {tp : Nat} {sg : Nat → Int32} {e1 e2 e3 e4 e5 e6 e7 e8 e9 e10 e11 : Int32} : (taP M tp sg e1 e2 e3 e4 e5 e6 e7 e8 e9 e10 e11).1 tp 3 = e3 := by simp [taP, taF]
theorem taP_g4 {M : mz_M} {tp : Nat} {sg : Nat → Int32} {e1 e2 e3 e4 e5 e6 e7 e8 e9 e10 e11 : Int32} : (taP M tp sg e1 e2 e3 e4 e5 e6 e7 e8 e9 e10 e11).1 tp 4 = e4 := by simp [taP, taF]
theorem taP_g5 {M : mz_M} {tp : Nat} {sg : Nat → Int32} {e1 e2 e3 e4 e5 e6 e7 e8 e9 e10 e11 : Int32} : (taP M tp sg e1 e2 e3 e4 e5 e6 e7 e8 e9 e10 e11).1 tp 5 = e5 := by simp [taP, taF]
theorem taP_g6 {M : mz_M} {tp : Nat} {sg : Nat → Int32} {e1 e2 e3 e4 e5 e6 e7 e8 e9 e10 e11 : Int32} : (taP M tp sg e1 e2 e3 e4 e5 e6 e7 e8 e9 e10 e11).1 tp 6 = e6 := by simp [taP, taF]
theorem taP_g7 {M : mz_M} {tp : Nat} {sg : Nat → Int32} {e1 e2 e3 e4 e5 e6 e7 e8 e9 e10 e11 : Int32} : (taP M tp sg e1 e2 e3 e4 e5 e6 e7 e8 e9 e10 e11).1 tp 7 = e7 := by simp [taP, taF]
theorem taP_g8 {M : mz_M} {tp : Nat} {sg : Nat → Int32} {e1 e2 e3 e4 e5 e6 e7 e8 e9 e10 e11 : Int32} : (taP M tp sg e1 e2 e3 e4 e5 e6 e7 e8 e9 e10 e11).1 tp 8 = e8 := by simp [taP, taF]
theorem taP_g9 {M : mz_M} {tp : Nat} {sg : Nat → Int32} {e1 e2 e3 e4 e5 e6 e7 e8 e9 e10 e11 : Int32} : (taP M tp sg e1 e2 e3 e4 e5 e6 e7 e8 e9 e10 e11).1 tp 9 = e9 := by simp [taP, taF]
theorem taP_g10 {M : mz_M} {tp : Nat} {sg : Nat → Int32} {e1 e2 e3 e4 e5 e6 e7 e8 e9 e10 e11 : Int32} : (taP M tp sg e1 e2 e3 e4 e5 e6 e7 e8 e9 e10 e11).1 tp 10 = e10 := by simp [taP, taF]
theorem taP_g11 {M : mz_M} {tp : Nat} {sg : Nat → Int32} {e1 e2 e3 e4 e5 e6 e7 e8 e9 e10 e11 : Int32} : (taP M tp sg e1 e2 e3 e4 e5 e6 e7 e8 e9 e10 e11).1 tp 11 = e11 := by simp [taP, taF]
theorem taP_a0 {M : mz_M} {tp : Nat} {sg : Nat → Int32} {e1 e2 e3 e4 e5 e6 e7 e8 e9 e10 e11 : Int32} : (taP M tp sg e1 e2 e3 e4 e5 e6 e7 e8 e9 e10 e11).1 (tp + 1) = sg := by simp [taP]
theorem taP_u1 {M : mz_M} {tp : Nat} {sg : Nat → Int32} {e1 e2 e3 e4 e5 e6 e7 e8 e9 e10 e11 : Int32} {x : Int32} : mz_uI (taP M tp sg e1 e2 e3 e4 e5 e6 e7 e8 e9 e10 e11) tp 1 x = (taP M tp sg x e2 e3 e4 e5 e6 e7 e8 e9 e10 e11) := by
  unfold mz_uI taP
  refine Prod.ext ?_ rfl
  funext a
  by_cases h : a = tp
  · subst h
    funext k
    rcases k with _ | _ | _ | _ | _ | _ | _ | _ | _ | _ | _ | _ | k <;> simp [va_up, taF]
  · simp [va_up, h]
theorem taP_u2 {M : mz_M} {tp : Nat} {sg : Nat → Int32} {e1 e2 e3 e4 e5 e6 e7 e8 e9 e10 e11 : Int32} {x : Int32} : mz_uI (taP M tp sg e1 e2 e3 e4 e5 e6 e7 e8 e9 e10 e11) tp 2 x = (taP M tp sg e1 x e3 e4 e5 e6 e7 e8 e9 e10 e11) := by
  unfold mz_uI taP
  refine Prod.ext ?_ rfl
  funext a
  by_cases h : a = tp
  · subst h
    funext k
    rcases k with _ | _ | _ | _ | _ | _ | _ | _ | _ | _ | _ | _ | k <;> simp [va_up, taF]
  · simp [va_up, h]
theorem taP_u3 {M : mz_M} {tp : Nat} {sg : Nat → Int32} {e1 e2 e3 e4 e5 e6 e7 e8 e9 e10 e11 : Int32} {x : Int32} : mz_uI (taP M tp sg e1 e2 e3 e4 e5 e6 e7 e8 e9 e10 e11) tp 3 x = (taP M tp sg e1 e2 x e4 e5 e6 e7 e8 e9 e10 e11) := by
  unfold mz_uI taP
  refine Prod.ext ?_ rfl
  funext a
  by_cases h : a = tp
  · subst h
    funext k
    rcases k with _ | _ | _ | _ | _ | _ | _ | _ | _ | _ | _ | _ | k <;> simp [va_up, taF]
  · simp [va_up, h]
theorem taP_u4 {M : mz_M} {tp : Nat} {sg : Nat → Int32} {e1 e2 e3 e4 e5 e6 e7 e8 e9 e10 e11 : Int32} {x : Int32} : mz_uI (taP M tp sg e1 e2 e3 e4 e5 e6 e7 e8 e9 e10 e11) tp 4 x = (taP M tp sg e1 e2 e3 x e5 e6 e7 e8 e9 e10 e11) := by
  unfold mz_uI taP
  refine Prod.ext ?_ rfl
  funext a
  by_cases h : a = tp
  · subst h
    funext k
    rcases k with _ | _ | _ | _ | _ | _ | _ | _ | _ | _ | _ | _ | k <;> simp [va_up, taF]
  · simp [va_up, h]
theorem taP_u5 {M : mz_M} {tp : Nat} {sg : Nat → Int32} {e1 e2 e3 e4 e5 e6 e7 e8 e9 e10 e11 : Int32} {x : Int32} : mz_uI (taP M tp sg e1 e2 e3 e4 e5 e6 e7 e8 e9 e10 e11) tp 5 x = (taP M tp sg e1 e2 e3 e4 x e6 e7 e8 e9 e10 e11) := by
  unfold mz_uI taP
  refine Prod.ext ?_ rfl
  funext a
  by_cases h : a = tp
  · subst h
    funext k
    rcases k with _ | _ | _ | _ | _ | _ | _ | _ | _ | _ | _ | _ | k <;> simp [va_up, taF]
  · simp [va_up, h]
theorem taP_u6 {M : mz_M} {tp : Nat} {sg : Nat → Int32} {e1 e2 e3 e4 e5 e6 e7 e8 e9 e10 e11 : Int32} {x : Int32} : mz_uI (taP M tp sg e1 e2 e3 e4 e5 e6 e7 e8 e9 e10 e11) tp 6 x = (taP M tp sg e1 e2 e3 e4 e5 x e7 e8 e9 e10 e11) := by
  unfold mz_uI taP
  refine Prod.ext ?_ rfl
  funext a
  by_cases h : a = tp
  · subst h
    funext k
    rcases k with _ | _ | _ | _ | _ | _ | _ | _ | _ | _ | _ | _ | k <;> simp [va_up, taF]
  · simp [va_up, h]
theorem taP_u7 {M : mz_M} {tp : Nat} {sg : Nat → Int32} {e1 e2 e3 e4 e5 e6 e7 e8 e9 e10 e11 : Int32} {x : Int32} : mz_uI (taP M tp sg e1 e2 e3 e4 e5 e6 e7 e8 e9 e10 e11) tp 7 x = (taP M tp sg e1 e2 e3 e4 e5 e6 x e8 e9 e10 e11) := by
  unfold mz_uI taP
  refine Prod.ext ?_ rfl
  funext a
  by_cases h : a = tp
  · subst h
    funext k
    rcases k with _ | _ | _ | _ | _ | _ | _ | _ | _ | _ | _ | _ | k <;> simp [va_up, taF]
  · simp [va_up, h]
theorem taP_u8 {M : mz_M} {tp : Nat} {sg : Nat → Int32} {e1 e2 e3 e4 e5 e6 e7 e8 e9 e10 e11 : Int32} {x : Int32} : mz_uI (taP M tp sg e1 e2 e3 e4 e5 e6 e7 e8 e9 e10 e11) tp 8 x = (taP M tp sg e1 e2 e3 e4 e5 e6 e7 x e9 e10 e11) := by
  unfold mz_uI taP
  refine Prod.ext ?_ rfl
  funext a
  by_cases h : a = tp
  · subst h
    funext k
    rcases k with _ | _ | _ | _ | _ | _ | _ | _ | _ | _ | _ | _ | k <;> simp [va_up, taF]
  · simp [va_up, h]
theorem taP_u9 {M : mz_M} {tp : Nat} {sg : Nat → Int32} {e1 e2 e3 e4 e5 e6 e7 e8 e9 e10 e11 : Int32} {x : Int32} : mz_uI (taP M tp sg e1 e2 e3 e4 e5 e6 e7 e8 e9 e10 e11) tp 9 x = (taP M tp sg e1 e2 e3 e4 e5 e6 e7 e8 x e10 e11) := by
  unfold mz_uI taP
  refine Prod.ext ?_ rfl
  funext a
  by_cases h : a = tp
  · subst h
    funext k
    rcases k with _ | _ | _ | _ | _ | _ | _ | _ | _ | _ | _ | _ | k <;> simp [va_up, taF]
  · simp [va_up, h]
theorem taP_u10 {M : mz_M} {tp : Nat} {sg : Nat → Int32} {e1 e2 e3 e4 e5 e6 e7 e8 e9 e10 e11 : Int32} {x : Int32} : mz_uI (taP M tp sg e1 e2 e3 e4 e5 e6 e7 e8 e9 e10 e11) tp 10 x = (taP M tp sg e1 e2 e3 e4 e5 e6 e7 e8 e9 x e11) := by
  unfold mz_uI taP
  refine Prod.ext ?_ rfl
  funext a
  by_cases h : a = tp
  · subst h
    funext k
    rcases k with _ | _ | _ | _ | _ | _ | _ | _ | _ | _ | _ | _ | k <;> simp [va_up, taF]
  · simp [va_up, h]
theorem taP_u11 {M : mz_M} {tp : Nat} {sg : Nat → Int32} {e1 e2 e3 e4 e5 e6 e7 e8 e9 e10 e11 : Int32} {x : Int32} : mz_uI (taP M tp sg e1 e2 e3 e4 e5 e6 e7 e8 e9 e10 e11) tp 11 x = (taP M tp sg e1 e2 e3 e4 e5 e6 e7 e8 e9 e10 x) := by
  unfold mz_uI taP
  refine Prod.ext ?_ rfl
  funext a
  by_cases h : a = tp
  · subst h
    funext k
    rcases k with _ | _ | _ | _ | _ | _ | _ | _ | _ | _ | _ | _ | k <;> simp [va_up, taF]
  · simp [va_up, h]
theorem taP_w0 {M : mz_M} {tp : Nat} {sg : Nat → Int32} {e1 e2 e3 e4 e5 e6 e7 e8 e9 e10 e11 : Int32} {k : Nat} {x : Int32} : mz_uI (taP M tp sg e1 e2 e3 e4 e5 e6 e7 e8 e9 e10 e11) (tp + 1) k x = (taP M tp (va_up sg k x) e1 e2 e3 e4 e5 e6 e7 e8 e9 e10 e11) := by
  unfold mz_uI taP
  refine Prod.ext ?_ rfl
  funext a
  by_cases h : a = tp + 1
  · subst h
    simp [va_up]
  · simp [va_up, h]
theorem taP_o {M : mz_M} {tp : Nat} {sg : Nat → Int32} {e1 e2 e3 e4 e5 e6 e7 e8 e9 e10 e11 : Int32} {a : Nat} (h0 : a ≠ tp) (h1 : a ≠ tp + 1) : (taP M tp sg e1 e2 e3 e4 e5 e6 e7 e8 e9 e10 e11).1 a = M.1 a := by simp [taP, h0, h1]
def bt (sg : Nat → Int32) (t i : Nat) : Int32 := if i < t then sg i &&& 255 else -1
def blB (x : Int32) : Bool := decide (x = 32 ∨ x = 10)
def leB (x : Int32) : Bool := decide (¬ x < 97 ∧ ¬ 122 < x)
def diB (x : Int32) : Bool := decide (¬ x < 48 ∧ ¬ 57 < x)
def sk (p : Int32 → Bool) (sg : Nat → Int32) (t : Nat) : Nat → Nat → Nat
  | 0, i => i
  | k + 1, i => if p (bt sg t i) = true then sk p sg t k (i + 1) else i
theorem sk_s {p : Int32 → Bool} {sg : Nat → Int32} {t k i : Nat} : sk p sg t (k + 1) i = if p (bt sg t i) = true then sk p sg t k (i + 1) else i := rfl
def dgv (v x : Int32) : Int32 := if 1000 < v * 10 + x - 48 then 1000 else v * 10 + x - 48
def dg (sg : Nat → Int32) (t : Nat) : Nat → Nat → Int32 → Nat × Int32
  | 0, i, v => (i, v)
  | k + 1, i, v => if diB (bt sg t i) = true then dg sg t k (i + 1) (dgv v (bt sg t i)) else (i, v)
def tkF (sg : Nat → Int32) (t b : Nat) (vl : Int32) : Int32 × Nat × Nat × Int32 :=
  if bt sg t (sk blB sg t (t - b) b) = -1 then (4, sk blB sg t (t - b) b, sk blB sg t (t - b) b, vl)
  else if leB (bt sg t (sk blB sg t (t - b) b)) = true then (1, sk blB sg t (t - b) b, sk leB sg t (t - sk blB sg t (t - b) b) (sk blB sg t (t - b) b), vl)
  else if diB (bt sg t (sk blB sg t (t - b) b)) = true then (2, sk blB sg t (t - b) b, dg sg t (t - sk blB sg t (t - b) b) (sk blB sg t (t - b) b) 0)
  else (if bt sg t (sk blB sg t (t - b) b) = 59 then 3 else 0, sk blB sg t (t - b) b, sk blB sg t (t - b) b + 1, vl)
theorem sk_le {p : Int32 → Bool} {sg : Nat → Int32} {t : Nat} : ∀ k i, i ≤ sk p sg t k i ∧ sk p sg t k i ≤ i + k := by
  intro k
  induction k with
  | zero => intro i; exact ⟨Nat.le_refl _, Nat.le_refl _⟩
  | succ k ih =>
    intro i
    unfold sk
    by_cases h : p (bt sg t i) = true
    · rw [if_pos h]
      have h2 := ih (i + 1)
      omega
    · rw [if_neg h]
      omega
theorem bt_m1 {sg : Nat → Int32} {t i : Nat} : bt sg t i = -1 ↔ ¬ i < t := by
  unfold bt
  by_cases h : i < t
  · rw [if_pos h]
    refine ⟨fun e => ?_, fun e => absurd h e⟩
    obtain ⟨j, hj, e2⟩ := pk_andE (sg i) (m := 255) 8 (by decide)
    rw [e2] at e
    exact absurd e (nI_m1 (by omega))
  · rw [if_neg h]
    exact ⟨fun _ => h, fun _ => rfl⟩
theorem q_Ta_byteAt {sc : Option (Nat × Nat × (Nat → Int32))} {sa : Nat → Nat} {d : Nat} {M : mz_M} {z : Nat × Nat} {tp : Nat} {sg : Nat → Int32} {e1 e2 e3 e4 e6 e7 e8 e9 e10 e11 : Int32} (w : g_Ta M.2.2 tp) {t : Nat} (ht : t ≤ 500) {i : Nat} (hi : i ≤ 600) : zx sc sa (d + 1) 84 [.ref tp, .int (nI i)] (taP M tp sg e1 e2 e3 e4 (nI t) e6 e7 e8 e9 e10 e11) z z (some (.int (bt sg t i))) (taP M tp sg e1 e2 e3 e4 (nI t) e6 e7 e8 e9 e10 e11) := by
  refine zxin ym_Ta_byteAt [.ref tp, .int (nI i)] rfl rfl rfl rfl ?_
  refine z_iload_n (q := 1) rfl rfl rfl ?_
  refine z_if_lt (q := 4) rfl rfl (fun h1 => ?_) (fun h1 => ?_)
  · exact absurd h1 (nI_pos (by omega))
  · refine z_iload_n (q := 5) rfl rfl rfl ?_
    refine z_aload_n (q := 6) rfl rfl rfl ?_
    refine z_getI (q := 9) rfl rfl rfl (Ta_k w) ?_
    rw [taP_g5]
    refine z_ic_ge (q := 12) rfl rfl (fun h9 => ?_) (fun h9 => ?_)
    · refine z_iconst (q := 35) (v := -1) rfl rfl rfl ?_
      refine z_ireti rfl rfl ?_
      rw [nI_leI (by omega) (by omega)] at h9
      unfold bt
      first | (rw [if_pos (by omega)]; exact ⟨rfl, rfl⟩) | (rw [if_neg (by omega)]; exact ⟨rfl, rfl⟩)
    · refine z_iload_n (q := 13) rfl rfl rfl ?_
      refine z_aload_n (q := 14) rfl rfl rfl ?_
      refine z_getR (q := 17) rfl rfl rfl (Ta_k w) (Ta_r0 w) ?_
      refine z_alen (q := 18) rfl rfl (Ta_a0 w) rfl rfl ?_
      refine z_ic_ge (q := 21) rfl rfl (fun h18 => ?_) (fun h18 => ?_)
      · rw [nI_leI (by omega) (by omega)] at h9 h18
        omega
      · refine z_aload_n (q := 22) rfl rfl rfl ?_
        refine z_getR (q := 25) rfl rfl rfl (Ta_k w) (Ta_r0 w) ?_
        refine z_iload_n (q := 26) rfl rfl rfl ?_
        refine z_bald (q := 27) rfl rfl (Ta_a0 w) (by rw [nI_leI (by omega) (by omega)] at h9; exact vp_in_nI (by omega) (by omega)) ?_
        rw [taP_a0]
        try rw [nI_clamp (by omega)]
        refine z_sipush (q := 30) (v := 255) rfl rfl rfl ?_
        refine z_iand (q := 31) rfl rfl ?_
        refine z_goto rfl ?_
        refine z_ireti rfl rfl ?_
        rw [nI_leI (by omega) (by omega)] at h9
        unfold bt
        first | (rw [if_pos (by omega)]; exact ⟨rfl, rfl⟩) | (rw [if_neg (by omega)]; exact ⟨rfl, rfl⟩)
theorem s_Ta_isBlank {sc : Option (Nat × Nat × (Nat → Int32))} {sa : Nat → Nat} {d : Nat} {M : mz_M} {z : Nat × Nat} {x : Int32} : zx sc sa (d + 1) 85 [.int x] M z z (some (.int (bz (blB x = true)))) M := by
  refine zxin ym_Ta_isBlank [.int x] rfl rfl rfl rfl ?_
  refine z_iload_n (q := 1) rfl rfl rfl ?_
  refine z_bipush (q := 3) (v := 32) rfl rfl rfl ?_
  refine z_ic_eq (q := 6) rfl rfl (fun h3 => ?_) (fun h3 => ?_)
  · refine z_iconst (q := 13) (v := 1) rfl rfl rfl ?_
    refine z_goto rfl ?_
    refine z_iretz rfl rfl (rfl) ?_
    refine ⟨?_, rfl⟩
    unfold bz blB
    simp_all [Int32.not_lt, Int32.not_le]
  · refine z_iload_n (q := 7) rfl rfl rfl ?_
    refine z_bipush (q := 9) (v := 10) rfl rfl rfl ?_
    refine z_ic_ne (q := 12) rfl rfl (fun h9 => ?_) (fun h9 => ?_)
    · refine z_iconst (q := 17) (v := 0) rfl rfl rfl ?_
      refine z_iretz rfl rfl (rfl) ?_
      refine ⟨?_, rfl⟩
      unfold bz blB
      simp_all [Int32.not_lt, Int32.not_le]
    · refine z_iconst (q := 13) (v := 1) rfl rfl rfl ?_
      refine z_goto rfl ?_
      refine z_iretz rfl rfl (rfl) ?_
      refine ⟨?_, rfl⟩
      unfold bz blB
      simp_all [Int32.not_lt, Int32.not_le]
theorem s_Ta_isLetter {sc : Option (Nat × Nat × (Nat → Int32))} {sa : Nat → Nat} {d : Nat} {M : mz_M} {z : Nat × Nat} {x : Int32} : zx sc sa (d + 1) 86 [.int x] M z z (some (.int (bz (leB x = true)))) M := by
  refine zxin ym_Ta_isLetter [.int x] rfl rfl rfl rfl ?_
  refine z_iload_n (q := 1) rfl rfl rfl ?_
  refine z_bipush (q := 3) (v := 97) rfl rfl rfl ?_
  refine z_ic_lt (q := 6) rfl rfl (fun h3 => ?_) (fun h3 => ?_)
  · refine z_iconst (q := 17) (v := 0) rfl rfl rfl ?_
    refine z_iretz rfl rfl (rfl) ?_
    refine ⟨?_, rfl⟩
    unfold bz leB
    simp_all [Int32.not_lt, Int32.not_le]
  · refine z_iload_n (q := 7) rfl rfl rfl ?_
    refine z_bipush (q := 9) (v := 122) rfl rfl rfl ?_
    refine z_ic_gt (q := 12) rfl rfl (fun h9 => ?_) (fun h9 => ?_)
    · refine z_iconst (q := 17) (v := 0) rfl rfl rfl ?_
      refine z_iretz rfl rfl (rfl) ?_
      refine ⟨?_, rfl⟩
      unfold bz leB
      simp_all [Int32.not_lt, Int32.not_le]
    · refine z_iconst (q := 13) (v := 1) rfl rfl rfl ?_
      refine z_goto rfl ?_
      refine z_iretz rfl rfl (rfl) ?_
      refine ⟨?_, rfl⟩
      unfold bz leB
      simp_all [Int32.not_lt, Int32.not_le]
theorem s_Ta_isDigit {sc : Option (Nat × Nat × (Nat → Int32))} {sa : Nat → Nat} {d : Nat} {M : mz_M} {z : Nat × Nat} {x : Int32} : zx sc sa (d + 1) 87 [.int x] M z z (some (.int (bz (diB x = true)))) M := by
  refine zxin ym_Ta_isDigit [.int x] rfl rfl rfl rfl ?_
  refine z_iload_n (q := 1) rfl rfl rfl ?_
  refine z_bipush (q := 3) (v := 48) rfl rfl rfl ?_
  refine z_ic_lt (q := 6) rfl rfl (fun h3 => ?_) (fun h3 => ?_)
  · refine z_iconst (q := 17) (v := 0) rfl rfl rfl ?_
    refine z_iretz rfl rfl (rfl) ?_
    refine ⟨?_, rfl⟩
    unfold bz diB
    simp_all [Int32.not_lt, Int32.not_le]
  · refine z_iload_n (q := 7) rfl rfl rfl ?_
    refine z_bipush (q := 9) (v := 57) rfl rfl rfl ?_
    refine z_ic_gt (q := 12) rfl rfl (fun h9 => ?_) (fun h9 => ?_)
    · refine z_iconst (q := 17) (v := 0) rfl rfl rfl ?_
      refine z_iretz rfl rfl (rfl) ?_
      refine ⟨?_, rfl⟩
      unfold bz diB
      simp_all [Int32.not_lt, Int32.not_le]
    · refine z_iconst (q := 13) (v := 1) rfl rfl rfl ?_
      refine z_goto rfl ?_
      refine z_iretz rfl rfl (rfl) ?_
      refine ⟨?_, rfl⟩
      unfold bz diB
      simp_all [Int32.not_lt, Int32.not_le]
theorem q_Ta_refuse {sc : Option (Nat × Nat × (Nat → Int32))} {sa : Nat → Nat} {d : Nat} {M : mz_M} {z : Nat × Nat} {tp : Nat} {sg : Nat → Int32} {e1 e2 e3 e4 e5 e6 e7 e8 e9 e10 e11 : Int32} (w : g_Ta M.2.2 tp) {x y : Int32} : zx sc sa (d + 1) 92 [.ref tp, .int x, .int y] (taP M tp sg e1 e2 e3 e4 e5 e6 e7 e8 e9 e10 e11) z z none (taP M tp sg e1 e2 e3 e4 e5 e6 e7 e8 e9 (if e10 = 0 then x else e10) (if e10 = 0 then y else e11)) := by
  refine zxin ym_Ta_refuse [.ref tp, .int x, .int y] rfl rfl rfl rfl ?_
  refine z_aload_n (q := 1) rfl rfl rfl ?_
  refine z_getI (q := 4) rfl rfl rfl (Ta_k w) ?_
  rw [taP_g10]
  refine z_if_ne (q := 7) rfl rfl (fun h4 => ?_) (fun h4 => ?_)
  · refine z_ret rfl rfl ?_
    first | (rw [if_pos h4, if_pos h4]; exact ⟨rfl, rfl⟩) | (rw [if_neg h4, if_neg h4]; exact ⟨rfl, rfl⟩)
  · refine z_aload_n (q := 8) rfl rfl rfl ?_
    refine z_iload_n (q := 9) rfl rfl rfl ?_
    refine z_putI (q := 12) rfl rfl rfl (by decide) rfl rfl (Ta_k w) ?_
    rw [taP_u10]
    refine z_aload_n (q := 13) rfl rfl rfl ?_
    refine z_iload_n (q := 14) rfl rfl rfl ?_
    refine z_putI (q := 17) rfl rfl rfl (by decide) rfl rfl (Ta_k w) ?_
    rw [taP_u11]
    refine z_ret rfl rfl ?_
    first | (rw [if_pos h4, if_pos h4]; exact ⟨rfl, rfl⟩) | (rw [if_neg h4, if_neg h4]; exact ⟨rfl, rfl⟩)
theorem l_Ta_takeLetters {sc : Option (Nat × Nat × (Nat → Int32))} {sa : Nat → Nat} {d : Nat} {M : mz_M} {z : Nat × Nat} {tp : Nat} {sg : Nat → Int32} {e1 e2 e4 e6 e7 e8 e9 e10 e11 : Int32} (w : g_Ta M.2.2 tp) {t : Nat} (ht : t ≤ 500)  : ∀ (k : Nat) (i m : Nat), i + k = t → sk leB sg t k i = m → zw sc sa (d + 1) ym_Ta_takeLetters z (fun r' M' => r' = none ∧ M' = (taP M tp sg e1 e2 (nI m) e4 (nI t) e6 e7 e8 e9 e10 e11)) 0 [.ref tp] [] (taP M tp sg e1 e2 (nI i) e4 (nI t) e6 e7 e8 e9 e10 e11) z := by
  intro k
  induction k with
  | zero =>
    intro i m hi hm
    have e1 : i = t := by omega
    subst e1
    have e2 : i = m := hm
    subst e2
    refine z_aload_n (q := 1) rfl rfl rfl ?_
    refine z_getI (q := 4) rfl rfl rfl (Ta_k w) ?_
    rw [taP_g3]
    refine z_aload_n (q := 5) rfl rfl rfl ?_
    refine z_getI (q := 8) rfl rfl rfl (Ta_k w) ?_
    rw [taP_g5]
    refine z_ic_ge (q := 11) rfl rfl (fun h8 => ?_) (fun h8 => ?_)
    · refine z_ret rfl rfl ?_
      exact ⟨rfl, rfl⟩
    · exact absurd (nI_le (Nat.le_refl _) (by omega)) h8
  | succ k ih =>
    intro i m hi hm
    refine z_aload_n (q := 1) rfl rfl rfl ?_
    refine z_getI (q := 4) rfl rfl rfl (Ta_k w) ?_
    rw [taP_g3]
    refine z_aload_n (q := 5) rfl rfl rfl ?_
    refine z_getI (q := 8) rfl rfl rfl (Ta_k w) ?_
    rw [taP_g5]
    refine z_ic_ge (q := 11) rfl rfl (fun h8 => ?_) (fun h8 => ?_)
    · exact absurd h8 (nI_ge (by omega) (by omega))
    · refine z_aload_n (q := 12) rfl rfl rfl ?_
      refine z_aload_n (q := 13) rfl rfl rfl ?_
      refine z_getI (q := 16) rfl rfl rfl (Ta_k w) ?_
      rw [taP_g3]
      refine z_cv1i (q := 19) rfl rfl rfl (Ta_k w) (q_Ta_byteAt w ht (by omega)) ?_
      refine z_cs1i (q := 22) rfl rfl rfl (s_Ta_isLetter) ?_
      refine z_if_eq (q := 25) rfl rfl (fun h22 => ?_) (fun h22 => ?_)
      · refine z_ret rfl rfl ?_
        rw [bz_0] at h22
        unfold sk at hm
        rw [if_neg h22] at hm
        subst hm
        exact ⟨rfl, rfl⟩
      · refine z_aload_n (q := 26) rfl rfl rfl ?_
        refine z_dup (q := 27) rfl rfl rfl ?_
        refine z_getI (q := 30) rfl rfl rfl (Ta_k w) ?_
        rw [taP_g3]
        refine z_iconst (q := 31) (v := 1) rfl rfl rfl ?_
        refine z_iadd (q := 32) rfl rfl ?_
        rw [← nI_succ]
        refine z_putI (q := 35) rfl rfl rfl (by decide) rfl rfl (Ta_k w) ?_
        rw [taP_u3]
        refine z_goto rfl ?_
        rw [bz_n] at h22
        unfold sk at hm
        rw [if_pos h22] at hm
        exact ih (i + 1) m (by omega) hm
theorem q_Ta_takeLetters {sc : Option (Nat × Nat × (Nat → Int32))} {sa : Nat → Nat} {d : Nat} {M : mz_M} {z : Nat × Nat} {tp : Nat} {sg : Nat → Int32} {e1 e2 e4 e6 e7 e8 e9 e10 e11 : Int32} (w : g_Ta M.2.2 tp) {t : Nat} (ht : t ≤ 500) {i : Nat} (hi : i ≤ t) : zx sc sa (d + 2) 89 [.ref tp] (taP M tp sg e1 e2 (nI i) e4 (nI t) e6 e7 e8 e9 e10 e11) z z none (taP M tp sg e1 e2 (nI (sk leB sg t (t - i) i)) e4 (nI t) e6 e7 e8 e9 e10 e11) := by
  refine zxin ym_Ta_takeLetters [.ref tp] rfl rfl rfl rfl ?_
  exact l_Ta_takeLetters w ht (t - i) i _ (by omega) rfl
theorem l_Ta_takeDigits {sc : Option (Nat × Nat × (Nat → Int32))} {sa : Nat → Nat} {d : Nat} {M : mz_M} {z : Nat × Nat} {tp : Nat} {sg : Nat → Int32} {e1 e2 e6 e7 e8 e9 e10 e11 : Int32} (w : g_Ta M.2.2 tp) {t : Nat} (ht : t ≤ 500)  : ∀ (k : Nat) (i m : Nat) (v y : Int32), i + k = t → dg sg t k i v = (m, y) → zw sc sa (d + 1) ym_Ta_takeDigits z (fun r' M' => r' = none ∧ M' = (taP M tp sg e1 e2 (nI m) y (nI t) e6 e7 e8 e9 e10 e11)) 5 [.ref tp] [] (taP M tp sg e1 e2 (nI i) v (nI t) e6 e7 e8 e9 e10 e11) z := by
  intro k
  induction k with
  | zero =>
    intro i m v y hi hm
    have e1 : i = t := by omega
    subst e1
    have e2 : (i, v) = (m, y) := hm
    obtain ⟨rfl, rfl⟩ := Prod.mk.inj e2
    refine z_aload_n (q := 6) rfl rfl rfl ?_
    refine z_getI (q := 9) rfl rfl rfl (Ta_k w) ?_
    rw [taP_g3]
    refine z_aload_n (q := 10) rfl rfl rfl ?_
    refine z_getI (q := 13) rfl rfl rfl (Ta_k w) ?_
    rw [taP_g5]
    refine z_ic_ge (q := 16) rfl rfl (fun h13 => ?_) (fun h13 => ?_)
    · refine z_ret rfl rfl ?_
      exact ⟨rfl, rfl⟩
    · exact absurd (nI_le (Nat.le_refl _) (by omega)) h13
  | succ k ih =>
    intro i m v y hi hm
    refine z_aload_n (q := 6) rfl rfl rfl ?_
    refine z_getI (q := 9) rfl rfl rfl (Ta_k w) ?_
    rw [taP_g3]
    refine z_aload_n (q := 10) rfl rfl rfl ?_
    refine z_getI (q := 13) rfl rfl rfl (Ta_k w) ?_
    rw [taP_g5]
    refine z_ic_ge (q := 16) rfl rfl (fun h13 => ?_) (fun h13 => ?_)
    · exact absurd h13 (nI_ge (by omega) (by omega))
    · refine z_aload_n (q := 17) rfl rfl rfl ?_
      refine z_aload_n (q := 18) rfl rfl rfl ?_
      refine z_getI (q := 21) rfl rfl rfl (Ta_k w) ?_
      rw [taP_g3]
      refine z_cv1i (q := 24) rfl rfl rfl (Ta_k w) (q_Ta_byteAt w ht (by omega)) ?_
      refine z_cs1i (q := 27) rfl rfl rfl (s_Ta_isDigit) ?_
      refine z_if_eq (q := 30) rfl rfl (fun h27 => ?_) (fun h27 => ?_)
      · refine z_ret rfl rfl ?_
        rw [bz_0] at h27
        unfold dg at hm
        rw [if_neg h27] at hm
        obtain ⟨rfl, rfl⟩ := Prod.mk.inj hm
        exact ⟨rfl, rfl⟩
      · refine z_aload_n (q := 31) rfl rfl rfl ?_
        refine z_aload_n (q := 32) rfl rfl rfl ?_
        refine z_getI (q := 35) rfl rfl rfl (Ta_k w) ?_
        rw [taP_g4]
        refine z_bipush (q := 37) (v := 10) rfl rfl rfl ?_
        refine z_imul (q := 38) rfl rfl ?_
        refine z_aload_n (q := 39) rfl rfl rfl ?_
        refine z_aload_n (q := 40) rfl rfl rfl ?_
        refine z_getI (q := 43) rfl rfl rfl (Ta_k w) ?_
        rw [taP_g3]
        refine z_cv1i (q := 46) rfl rfl rfl (Ta_k w) (q_Ta_byteAt w ht (by omega)) ?_
        refine z_iadd (q := 47) rfl rfl ?_
        refine z_bipush (q := 49) (v := 48) rfl rfl rfl ?_
        refine z_isub (q := 50) rfl rfl ?_
        refine z_sipush (q := 53) (v := 1000) rfl rfl rfl ?_
        refine z_min (q := 56) rfl rfl (by omega) rfl ?_
        refine z_putI (q := 59) rfl rfl rfl (by decide) rfl rfl (Ta_k w) ?_
        rw [taP_u4]
        refine z_aload_n (q := 60) rfl rfl rfl ?_
        refine z_dup (q := 61) rfl rfl rfl ?_
        refine z_getI (q := 64) rfl rfl rfl (Ta_k w) ?_
        rw [taP_g3]
        refine z_iconst (q := 65) (v := 1) rfl rfl rfl ?_
        refine z_iadd (q := 66) rfl rfl ?_
        rw [← nI_succ]
        refine z_putI (q := 69) rfl rfl rfl (by decide) rfl rfl (Ta_k w) ?_
        rw [taP_u3]
        refine z_goto rfl ?_
        rw [bz_n] at h27
        unfold dg at hm
        rw [if_pos h27] at hm
        exact ih (i + 1) m _ y (by omega) hm
theorem q_Ta_takeDigits {sc : Option (Nat × Nat × (Nat → Int32))} {sa : Nat → Nat} {d : Nat} {M : mz_M} {z : Nat × Nat} {tp : Nat} {sg : Nat → Int32} {e1 e2 e4 e6 e7 e8 e9 e10 e11 : Int32} (w : g_Ta M.2.2 tp) {t : Nat} (ht : t ≤ 500) {i : Nat} (hi : i ≤ t) : zx sc sa (d + 2) 90 [.ref tp] (taP M tp sg e1 e2 (nI i) e4 (nI t) e6 e7 e8 e9 e10 e11) z z none (taP M tp sg e1 e2 (nI (dg sg t (t - i) i 0).1) (dg sg t (t - i) i 0).2 (nI t) e6 e7 e8 e9 e10 e11) := by
  refine zxin ym_Ta_takeDigits [.ref tp] rfl rfl rfl rfl ?_
  refine z_aload_n (q := 1) rfl rfl rfl ?_
  refine z_iconst (q := 2) (v := 0) rfl rfl rfl ?_
  refine z_putI (q := 5) rfl rfl rfl (by decide) rfl rfl (Ta_k w) ?_
  rw [taP_u4]
  exact l_Ta_takeDigits w ht (t - i) i _ _ _ (by omega) rfl
theorem l_Ta_tok {sc : Option (Nat × Nat × (Nat → Int32))} {sa : Nat → Nat} {d : Nat} {M : mz_M} {z : Nat × Nat} {tp : Nat} {sg : Nat → Int32} {e1 e2 e4 e6 e7 e8 e9 e10 e11 : Int32} (w : g_Ta M.2.2 tp) {t : Nat} (ht : t ≤ 500) {b i f2 f3 : Nat} {f1 f4 : Int32} {x1 : Value} (hi : i ≤ t) (hm : sk blB sg t (t - b) b = i) (hr : tkF sg t b e4 = (f1, f2, f3, f4)) : zw sc sa (d + 2) ym_Ta_takeToken z (fun r' M' => r' = none ∧ M' = (taP M tp sg f1 (nI f2) (nI f3) f4 (nI t) e6 e7 e8 e9 e10 e11)) 38 [.ref tp, x1] [] (taP M tp sg e1 e2 (nI i) e4 (nI t) e6 e7 e8 e9 e10 e11) z := by
  refine z_aload_n (q := 39) rfl rfl rfl ?_
  refine z_aload_n (q := 40) rfl rfl rfl ?_
  refine z_getI (q := 43) rfl rfl rfl (Ta_k w) ?_
  rw [taP_g3]
  refine z_putI (q := 46) rfl rfl rfl (by decide) rfl rfl (Ta_k w) ?_
  rw [taP_u2]
  refine z_aload_n (q := 47) rfl rfl rfl ?_
  refine z_aload_n (q := 48) rfl rfl rfl ?_
  refine z_getI (q := 51) rfl rfl rfl (Ta_k w) ?_
  rw [taP_g2]
  refine z_cv1i (q := 54) rfl rfl rfl (Ta_k w) (q_Ta_byteAt w ht (by omega)) ?_
  refine z_istore_n (q := 55) (L2 := [_, _]) rfl rfl rfl rfl ?_
  refine z_iload_n (q := 56) rfl rfl rfl ?_
  refine z_iconst (q := 57) (v := -1) rfl rfl rfl ?_
  refine z_ic_ne (q := 60) rfl rfl (fun h57 => ?_) (fun h57 => ?_)
  · refine z_iload_n (q := 69) rfl rfl rfl ?_
    refine z_cs1i (q := 72) rfl rfl rfl (s_Ta_isLetter) ?_
    refine z_if_eq (q := 75) rfl rfl (fun h72 => ?_) (fun h72 => ?_)
    · refine z_iload_n (q := 88) rfl rfl rfl ?_
      refine z_cs1i (q := 91) rfl rfl rfl (s_Ta_isDigit) ?_
      refine z_if_eq (q := 94) rfl rfl (fun h91 => ?_) (fun h91 => ?_)
      · refine z_aload_n (q := 107) rfl rfl rfl ?_
        refine z_iload_n (q := 108) rfl rfl rfl ?_
        refine z_bipush (q := 110) (v := 59) rfl rfl rfl ?_
        refine z_ic_ne (q := 113) rfl rfl (fun h110 => ?_) (fun h110 => ?_)
        · refine z_iconst (q := 118) (v := 0) rfl rfl rfl ?_
          refine z_putI (q := 121) rfl rfl rfl (by decide) rfl rfl (Ta_k w) ?_
          rw [taP_u1]
          refine z_aload_n (q := 122) rfl rfl rfl ?_
          refine z_dup (q := 123) rfl rfl rfl ?_
          refine z_getI (q := 126) rfl rfl rfl (Ta_k w) ?_
          rw [taP_g3]
          refine z_iconst (q := 127) (v := 1) rfl rfl rfl ?_
          refine z_iadd (q := 128) rfl rfl ?_
          rw [← nI_succ]
          refine z_putI (q := 131) rfl rfl rfl (by decide) rfl rfl (Ta_k w) ?_
          rw [taP_u3]
          refine z_ret rfl rfl ?_
          unfold tkF at hr
          rw [hm] at hr
          first
            | (rw [if_pos h57] at hr; simp only [Prod.mk.injEq] at hr; obtain ⟨rfl, rfl, rfl, rfl⟩ := hr; exact ⟨rfl, rfl⟩)
            | (rw [if_neg h57, if_pos (bz_n.mp h72)] at hr; simp only [Prod.mk.injEq] at hr; obtain ⟨rfl, rfl, rfl, rfl⟩ := hr; exact ⟨rfl, rfl⟩)
            | (rw [if_neg h57, if_neg (bz_0.mp h72), if_pos (bz_n.mp h91)] at hr; simp only [Prod.mk.injEq] at hr; obtain ⟨rfl, rfl, h9⟩ := hr; rw [h9]; exact ⟨rfl, rfl⟩)
            | (rw [if_neg h57, if_neg (bz_0.mp h72), if_neg (bz_0.mp h91), if_pos h110] at hr; simp only [Prod.mk.injEq] at hr; obtain ⟨rfl, rfl, rfl, rfl⟩ := hr; exact ⟨rfl, rfl⟩)
            | (rw [if_neg h57, if_neg (bz_0.mp h72), if_neg (bz_0.mp h91), if_neg h110] at hr; simp only [Prod.mk.injEq] at hr; obtain ⟨rfl, rfl, rfl, rfl⟩ := hr; exact ⟨rfl, rfl⟩)
        · refine z_iconst (q := 114) (v := 3) rfl rfl rfl ?_
          refine z_goto rfl ?_
          refine z_putI (q := 121) rfl rfl rfl (by decide) rfl rfl (Ta_k w) ?_
          rw [taP_u1]
          refine z_aload_n (q := 122) rfl rfl rfl ?_
          refine z_dup (q := 123) rfl rfl rfl ?_
          refine z_getI (q := 126) rfl rfl rfl (Ta_k w) ?_
          rw [taP_g3]
          refine z_iconst (q := 127) (v := 1) rfl rfl rfl ?_
          refine z_iadd (q := 128) rfl rfl ?_
          rw [← nI_succ]
          refine z_putI (q := 131) rfl rfl rfl (by decide) rfl rfl (Ta_k w) ?_
          rw [taP_u3]
          refine z_ret rfl rfl ?_
          unfold tkF at hr
          rw [hm] at hr
          first
            | (rw [if_pos h57] at hr; simp only [Prod.mk.injEq] at hr; obtain ⟨rfl, rfl, rfl, rfl⟩ := hr; exact ⟨rfl, rfl⟩)
            | (rw [if_neg h57, if_pos (bz_n.mp h72)] at hr; simp only [Prod.mk.injEq] at hr; obtain ⟨rfl, rfl, rfl, rfl⟩ := hr; exact ⟨rfl, rfl⟩)
            | (rw [if_neg h57, if_neg (bz_0.mp h72), if_pos (bz_n.mp h91)] at hr; simp only [Prod.mk.injEq] at hr; obtain ⟨rfl, rfl, h9⟩ := hr; rw [h9]; exact ⟨rfl, rfl⟩)
            | (rw [if_neg h57, if_neg (bz_0.mp h72), if_neg (bz_0.mp h91), if_pos h110] at hr; simp only [Prod.mk.injEq] at hr; obtain ⟨rfl, rfl, rfl, rfl⟩ := hr; exact ⟨rfl, rfl⟩)
            | (rw [if_neg h57, if_neg (bz_0.mp h72), if_neg (bz_0.mp h91), if_neg h110] at hr; simp only [Prod.mk.injEq] at hr; obtain ⟨rfl, rfl, rfl, rfl⟩ := hr; exact ⟨rfl, rfl⟩)
      · refine z_aload_n (q := 95) rfl rfl rfl ?_
        refine z_iconst (q := 96) (v := 2) rfl rfl rfl ?_
        refine z_putI (q := 99) rfl rfl rfl (by decide) rfl rfl (Ta_k w) ?_
        rw [taP_u1]
        refine z_aload_n (q := 100) rfl rfl rfl ?_
        refine z_cv0v (q := 103) rfl rfl rfl (Ta_k w) (q_Ta_takeDigits w ht (by omega)) ?_
        refine z_goto rfl ?_
        refine z_ret rfl rfl ?_
        unfold tkF at hr
        rw [hm] at hr
        first
          | (rw [if_pos h57] at hr; simp only [Prod.mk.injEq] at hr; obtain ⟨rfl, rfl, rfl, rfl⟩ := hr; exact ⟨rfl, rfl⟩)
          | (rw [if_neg h57, if_pos (bz_n.mp h72)] at hr; simp only [Prod.mk.injEq] at hr; obtain ⟨rfl, rfl, rfl, rfl⟩ := hr; exact ⟨rfl, rfl⟩)
          | (rw [if_neg h57, if_neg (bz_0.mp h72), if_pos (bz_n.mp h91)] at hr; simp only [Prod.mk.injEq] at hr; obtain ⟨rfl, rfl, h9⟩ := hr; rw [h9]; exact ⟨rfl, rfl⟩)
          | (rw [if_neg h57, if_neg (bz_0.mp h72), if_neg (bz_0.mp h91), if_pos h110] at hr; simp only [Prod.mk.injEq] at hr; obtain ⟨rfl, rfl, rfl, rfl⟩ := hr; exact ⟨rfl, rfl⟩)
          | (rw [if_neg h57, if_neg (bz_0.mp h72), if_neg (bz_0.mp h91), if_neg h110] at hr; simp only [Prod.mk.injEq] at hr; obtain ⟨rfl, rfl, rfl, rfl⟩ := hr; exact ⟨rfl, rfl⟩)
    · refine z_aload_n (q := 76) rfl rfl rfl ?_
      refine z_iconst (q := 77) (v := 1) rfl rfl rfl ?_
      refine z_putI (q := 80) rfl rfl rfl (by decide) rfl rfl (Ta_k w) ?_
      rw [taP_u1]
      refine z_aload_n (q := 81) rfl rfl rfl ?_
      refine z_cv0v (q := 84) rfl rfl rfl (Ta_k w) (q_Ta_takeLetters w ht (by omega)) ?_
      refine z_goto rfl ?_
      refine z_ret rfl rfl ?_
      unfold tkF at hr
      rw [hm] at hr
      first
        | (rw [if_pos h57] at hr; simp only [Prod.mk.injEq] at hr; obtain ⟨rfl, rfl, rfl, rfl⟩ := hr; exact ⟨rfl, rfl⟩)
        | (rw [if_neg h57, if_pos (bz_n.mp h72)] at hr; simp only [Prod.mk.injEq] at hr; obtain ⟨rfl, rfl, rfl, rfl⟩ := hr; exact ⟨rfl, rfl⟩)
        | (rw [if_neg h57, if_neg (bz_0.mp h72), if_pos (bz_n.mp h91)] at hr; simp only [Prod.mk.injEq] at hr; obtain ⟨rfl, rfl, h9⟩ := hr; rw [h9]; exact ⟨rfl, rfl⟩)
        | (rw [if_neg h57, if_neg (bz_0.mp h72), if_neg (bz_0.mp h91), if_pos h110] at hr; simp only [Prod.mk.injEq] at hr; obtain ⟨rfl, rfl, rfl, rfl⟩ := hr; exact ⟨rfl, rfl⟩)
        | (rw [if_neg h57, if_neg (bz_0.mp h72), if_neg (bz_0.mp h91), if_neg h110] at hr; simp only [Prod.mk.injEq] at hr; obtain ⟨rfl, rfl, rfl, rfl⟩ := hr; exact ⟨rfl, rfl⟩)
  · refine z_aload_n (q := 61) rfl rfl rfl ?_
    refine z_iconst (q := 62) (v := 4) rfl rfl rfl ?_
    refine z_putI (q := 65) rfl rfl rfl (by decide) rfl rfl (Ta_k w) ?_
    rw [taP_u1]
    refine z_goto rfl ?_
    refine z_ret rfl rfl ?_
    unfold tkF at hr
    rw [hm] at hr
    first
      | (rw [if_pos h57] at hr; simp only [Prod.mk.injEq] at hr; obtain ⟨rfl, rfl, rfl, rfl⟩ := hr; exact ⟨rfl, rfl⟩)
      | (rw [if_neg h57, if_pos (bz_n.mp h72)] at hr; simp only [Prod.mk.injEq] at hr; obtain ⟨rfl, rfl, rfl, rfl⟩ := hr; exact ⟨rfl, rfl⟩)
      | (rw [if_neg h57, if_neg (bz_0.mp h72), if_pos (bz_n.mp h91)] at hr; simp only [Prod.mk.injEq] at hr; obtain ⟨rfl, rfl, h9⟩ := hr; rw [h9]; exact ⟨rfl, rfl⟩)
      | (rw [if_neg h57, if_neg (bz_0.mp h72), if_neg (bz_0.mp h91), if_pos h110] at hr; simp only [Prod.mk.injEq] at hr; obtain ⟨rfl, rfl, rfl, rfl⟩ := hr; exact ⟨rfl, rfl⟩)
      | (rw [if_neg h57, if_neg (bz_0.mp h72), if_neg (bz_0.mp h91), if_neg h110] at hr; simp only [Prod.mk.injEq] at hr; obtain ⟨rfl, rfl, rfl, rfl⟩ := hr; exact ⟨rfl, rfl⟩)
theorem l_Ta_takeToken {sc : Option (Nat × Nat × (Nat → Int32))} {sa : Nat → Nat} {d : Nat} {M : mz_M} {z : Nat × Nat} {tp : Nat} {sg : Nat → Int32} {e1 e2 e4 e6 e7 e8 e9 e10 e11 : Int32} (w : g_Ta M.2.2 tp) {t : Nat} (ht : t ≤ 500) {b f2 f3 : Nat} {f1 f4 : Int32} (hr : tkF sg t b e4 = (f1, f2, f3, f4)) : ∀ (k : Nat) (i : Nat) (x1 : Value), i + k = t → sk blB sg t k i = sk blB sg t (t - b) b → zw sc sa (d + 2) ym_Ta_takeToken z (fun r' M' => r' = none ∧ M' = (taP M tp sg f1 (nI f2) (nI f3) f4 (nI t) e6 e7 e8 e9 e10 e11)) 0 [.ref tp, x1] [] (taP M tp sg e1 e2 (nI i) e4 (nI t) e6 e7 e8 e9 e10 e11) z := by
  intro k
  induction k with
  | zero =>
    intro i x1 hi hm
    have e1 : i = t := by omega
    subst e1
    refine z_aload_n (q := 1) rfl rfl rfl ?_
    refine z_getI (q := 4) rfl rfl rfl (Ta_k w) ?_
    rw [taP_g3]
    refine z_aload_n (q := 5) rfl rfl rfl ?_
    refine z_getI (q := 8) rfl rfl rfl (Ta_k w) ?_
    rw [taP_g5]
    refine z_ic_ge (q := 11) rfl rfl (fun h8 => ?_) (fun h8 => ?_)
    · exact l_Ta_tok w ht (Nat.le_refl _) hm.symm hr
    · exact absurd (nI_le (Nat.le_refl _) (by omega)) h8
  | succ k ih =>
    intro i x1 hi hm
    refine z_aload_n (q := 1) rfl rfl rfl ?_
    refine z_getI (q := 4) rfl rfl rfl (Ta_k w) ?_
    rw [taP_g3]
    refine z_aload_n (q := 5) rfl rfl rfl ?_
    refine z_getI (q := 8) rfl rfl rfl (Ta_k w) ?_
    rw [taP_g5]
    refine z_ic_ge (q := 11) rfl rfl (fun h8 => ?_) (fun h8 => ?_)
    · exact absurd h8 (nI_ge (by omega) (by omega))
    · refine z_aload_n (q := 12) rfl rfl rfl ?_
      refine z_aload_n (q := 13) rfl rfl rfl ?_
      refine z_getI (q := 16) rfl rfl rfl (Ta_k w) ?_
      rw [taP_g3]
      refine z_cv1i (q := 19) rfl rfl rfl (Ta_k w) (q_Ta_byteAt w ht (by omega)) ?_
      refine z_cs1i (q := 22) rfl rfl rfl (s_Ta_isBlank) ?_
      refine z_if_eq (q := 25) rfl rfl (fun h22 => ?_) (fun h22 => ?_)
      · rw [bz_0] at h22
        rw [sk_s, if_neg h22] at hm
        exact l_Ta_tok w ht (by omega) hm.symm hr
      · refine z_aload_n (q := 26) rfl rfl rfl ?_
        refine z_dup (q := 27) rfl rfl rfl ?_
        refine z_getI (q := 30) rfl rfl rfl (Ta_k w) ?_
        rw [taP_g3]
        refine z_iconst (q := 31) (v := 1) rfl rfl rfl ?_
        refine z_iadd (q := 32) rfl rfl ?_
        rw [← nI_succ]
        refine z_putI (q := 35) rfl rfl rfl (by decide) rfl rfl (Ta_k w) ?_
        rw [taP_u3]
        refine z_goto rfl ?_
        rw [bz_n] at h22
        rw [sk_s, if_pos h22] at hm
        exact ih (i + 1) x1 (by omega) hm
theorem q_Ta_takeToken {sc : Option (Nat × Nat × (Nat → Int32))} {sa : Nat → Nat} {d : Nat} {M : mz_M} {z : Nat × Nat} {tp : Nat} {sg : Nat → Int32} {e1 e2 e4 e6 e7 e8 e9 e10 e11 : Int32} (w : g_Ta M.2.2 tp) {t : Nat} (ht : t ≤ 500) {b f2 f3 : Nat} {f1 f4 : Int32} (hb : b ≤ t) (hr : tkF sg t b e4 = (f1, f2, f3, f4)) : zx sc sa (d + 3) 88 [.ref tp] (taP M tp sg e1 e2 (nI b) e4 (nI t) e6 e7 e8 e9 e10 e11) z z none (taP M tp sg f1 (nI f2) (nI f3) f4 (nI t) e6 e7 e8 e9 e10 e11) := by
  refine zxin ym_Ta_takeToken [.ref tp, .retAddr 0] rfl rfl rfl rfl ?_
  exact l_Ta_takeToken w ht hr (t - b) b _ (by omega) rfl
