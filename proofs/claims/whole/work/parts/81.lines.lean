-- lines as the reference reads them
theorem hA_u {A : Nat → Nat → Int32} {sg : Nat → Int32} {t : Nat} {X : Nat → Int32} (hA : ∀ i, i < t → A 3 i = bt sg t i) : ∀ i, i < t → va_up A 1 X 3 i = bt sg t i := by
  intro i hi
  rw [show va_up A 1 X 3 = A 3 from up_n (by decide)]
  exact hA i hi
section
variable {M : mz_M} {m : Nat} {F : Nat → Int32} {A : Nat → Nat → Int32} {B : Nat → Int32} {e : rS}
theorem rb_g19 : (rq M m F (va_up A 1 B) e).1 m 19 = nI e.2.2.1 := rq_g19
theorem rb_g20 : (rq M m F (va_up A 1 B) e).1 m 20 = nI e.2.1 := rq_g20
theorem rb_g21 : (rq M m F (va_up A 1 B) e).1 m 21 = e.1 := rq_g21
theorem rb_g22 : (rq M m F (va_up A 1 B) e).1 m 22 = e.2.2.2.1 := rq_g22
theorem rb_g23 : (rq M m F (va_up A 1 B) e).1 m 23 = e.2.2.2.2.1 := rq_g23
theorem rb_g24 : (rq M m F (va_up A 1 B) e).1 m 24 = e.2.2.2.2.2.1 := rq_g24
theorem rb_g25 : (rq M m F (va_up A 1 B) e).1 m 25 = e.2.2.2.2.2.2 := rq_g25
theorem rb_g3 : (rq M m F (va_up A 1 B) e).1 m 3 = F 3 := rq_g3
theorem rb_a0 : (rq M m F (va_up A 1 B) e).1 (m + 1) = B := rq_a0.trans up_s
theorem rb_a2 : (rq M m F (va_up A 1 B) e).1 (m + 3) = A 3 := rq_a2.trans (up_n (by decide))
theorem rb_w0 {k : Nat} {x : Int32} : mz_uI (rq M m F (va_up A 1 B) e) (m + 1) k x = (rq M m F (va_up A 1 (va_up B k x)) e) := by rw [rq_w0, up_u, up_s]
end
theorem t_Mo_readsCell {sc : Option (Nat × Nat × (Nat → Int32))} {sa : Nat → Nat} {d : Nat} {M : mz_M} {z : Nat × Nat} {m : Nat} (w : g_Mo M.2.2 m) {F : Nat → Int32} {A : Nat → Nat → Int32} {sg : Nat → Int32} {t : Nat} (ht : t ≤ 500) (h3 : F 3 = nI t) (hA : ∀ i, i < t → A 3 i = bt sg t i) {B : Nat → Int32} {e : rS} (hk : okr t e) {c : Nat} (hs : B 0 = nI c)  : zx sc sa (d + 6) 208 [.ref m] (rq M m F (va_up A 1 B) e) z z (some (.int (rNu sg t e 0 (nI c - 1)).1)) (rq M m F (va_up A 1 B) (rNu sg t e 0 (nI c - 1)).2) := by
  refine zxin ym_Mo_readsCell [.ref m] rfl rfl rfl rfl ?_
  refine z_aload_n (q := 1) rfl rfl rfl ?_
  refine z_iconst (q := 2) (v := 0) rfl rfl rfl ?_
  refine z_aload_n (q := 3) rfl rfl rfl ?_
  refine z_getR (q := 6) rfl rfl rfl (Mo_k w) (Mo_r0 w) ?_
  refine z_iconst (q := 7) (v := 0) rfl rfl rfl ?_
  refine z_iald (q := 8) rfl rfl (Mo_a0 w) (vp0 (by decide) (by decide)) ?_
  rw [rb_a0]
  try rw [nI_clamp (by omega)]
  rw [show B (0 : Int32).toNatClampNeg = nI c from hs]
  refine z_iconst (q := 9) (v := 1) rfl rfl rfl ?_
  refine z_isub (q := 10) rfl rfl ?_
  refine z_cv2i (q := 13) rfl rfl rfl (Mo_k w) (t_Mo_number w ht h3 (hA_u hA) hk) ?_
  refine z_ireti rfl rfl ?_
  exact ⟨rfl, rfl⟩
theorem t_Mo_isCell {sc : Option (Nat × Nat × (Nat → Int32))} {sa : Nat → Nat} {d : Nat} {M : mz_M} {z : Nat × Nat} {m : Nat} (w : g_Mo M.2.2 m) {F : Nat → Int32} {A : Nat → Nat → Int32} {B : Nat → Int32} {e : rS} {c : Nat} (hs : B 0 = nI c) (h0 : 0 < c) (hC : c ≤ 12) {a : Int32} : zx sc sa (d + 2) 209 [.ref m, .int a] (rq M m F (va_up A 1 B) e) z z (some (.int (bz (vI c a)))) (rq M m F (va_up A 1 B) e) := s_Mo_isCell w hs h0 hC
def rS1 (sg : Nat → Int32) (t : Nat) (e : rS) : Int32 × rS := rNm sg t (rPa sg t e (bz (wR sg t e 0 = true))) 7 1 12
def rS2 (sg : Nat → Int32) (t : Nat) (e : rS) : Int32 × rS := rNm sg t (rS1 sg t e).2 8 0 2
def rS3 (sg : Nat → Int32) (t : Nat) (e : rS) : Int32 × rS := rNm sg t (rS2 sg t e).2 9 0 20
theorem rS1_ok {sg : Nat → Int32} {t : Nat} {e : rS} (h : okr t e) : okr t (rS1 sg t e).2 := rNm_ok (rPa_ok h)
theorem rS2_ok {sg : Nat → Int32} {t : Nat} {e : rS} (h : okr t e) : okr t (rS2 sg t e).2 := rNm_ok (rS1_ok h)
theorem rS3_ok {sg : Nat → Int32} {t : Nat} {e : rS} (h : okr t e) : okr t (rS3 sg t e).2 := rNm_ok (rS2_ok h)
theorem t_Mo_readsStore {sc : Option (Nat × Nat × (Nat → Int32))} {sa : Nat → Nat} {d : Nat} {M : mz_M} {z : Nat × Nat} {m : Nat} (w : g_Mo M.2.2 m) {F : Nat → Int32} {A : Nat → Nat → Int32} {sg : Nat → Int32} {t : Nat} (ht : t ≤ 500) (h3 : F 3 = nI t) (hA : ∀ i, i < t → A 3 i = bt sg t i) {B : Nat → Int32} {e : rS} (hk : okr t e)  : zx sc sa (d + 7) 210 [.ref m] (rq M m F (va_up A 1 B) e) z z none (rq M m F (va_up A 1 (va_up (va_up (va_up B 0 (rS1 sg t e).1) 1 (rS2 sg t e).1) 2 (rS3 sg t e).1)) (rS3 sg t e).2) := by
  refine zxin ym_Mo_readsStore [.ref m] rfl rfl rfl rfl ?_
  refine z_aload_n (q := 1) rfl rfl rfl ?_
  refine z_aload_n (q := 2) rfl rfl rfl ?_
  refine z_ldcs (q := 4) rfl rfl ?_
  refine z_cv1i (q := 7) rfl rfl rfl (Mo_k w) (t_Mo_isWord w ht h3 (hA_u hA) hk (by decide)) ?_
  refine z_cv1v (q := 10) rfl rfl rfl (Mo_k w) (t_Mo_passes w ht h3 (hA_u hA) hk) ?_
  refine z_aload_n (q := 11) rfl rfl rfl ?_
  refine z_getR (q := 14) rfl rfl rfl (Mo_k w) (Mo_r0 w) ?_
  refine z_iconst (q := 15) (v := 0) rfl rfl rfl ?_
  refine z_aload_n (q := 16) rfl rfl rfl ?_
  refine z_ldcs (q := 18) rfl rfl ?_
  refine z_iconst (q := 19) (v := 1) rfl rfl rfl ?_
  refine z_bipush (q := 21) (v := 12) rfl rfl rfl ?_
  refine z_cv3i (q := 24) rfl rfl rfl (Mo_k w) (t_Mo_named w ht h3 (hA_u hA) (rPa_ok hk) (by decide)) ?_
  refine z_iast (q := 25) rfl rfl (Mo_a0 w) (vp0 (by decide) (by decide)) ?_
  rw [rb_w0]
  try rw [nI_clamp (by omega)]
  refine z_aload_n (q := 26) rfl rfl rfl ?_
  refine z_getR (q := 29) rfl rfl rfl (Mo_k w) (Mo_r0 w) ?_
  refine z_iconst (q := 30) (v := 1) rfl rfl rfl ?_
  refine z_aload_n (q := 31) rfl rfl rfl ?_
  refine z_ldcs (q := 33) rfl rfl ?_
  refine z_iconst (q := 34) (v := 0) rfl rfl rfl ?_
  refine z_iconst (q := 35) (v := 2) rfl rfl rfl ?_
  refine z_cv3i (q := 38) rfl rfl rfl (Mo_k w) (t_Mo_named w ht h3 (hA_u hA) (rS1_ok hk) (by decide)) ?_
  refine z_iast (q := 39) rfl rfl (Mo_a0 w) (vp_in_nI (n := 1) (by omega) (by omega)) ?_
  rw [rb_w0]
  try rw [nI_clamp (by omega)]
  refine z_aload_n (q := 40) rfl rfl rfl ?_
  refine z_getR (q := 43) rfl rfl rfl (Mo_k w) (Mo_r0 w) ?_
  refine z_iconst (q := 44) (v := 2) rfl rfl rfl ?_
  refine z_aload_n (q := 45) rfl rfl rfl ?_
  refine z_ldcs (q := 47) rfl rfl ?_
  refine z_iconst (q := 48) (v := 0) rfl rfl rfl ?_
  refine z_bipush (q := 50) (v := 20) rfl rfl rfl ?_
  refine z_cv3i (q := 53) rfl rfl rfl (Mo_k w) (t_Mo_named w ht h3 (hA_u hA) (rS2_ok hk) (by decide)) ?_
  refine z_iast (q := 54) rfl rfl (Mo_a0 w) (vp_in_nI (n := 2) (by omega) (by omega)) ?_
  rw [rb_w0]
  try rw [nI_clamp (by omega)]
  refine z_ret rfl rfl ?_
  exact ⟨rfl, rfl⟩
def khR (sg : Nat → Int32) (t : Nat) (e : rS) : Int32 := if wR sg t e 2 = true then 0 else if wR sg t e 3 = true then 1 else if wR sg t e 4 = true then 2 else if wR sg t e 5 = true then 3 else if wR sg t e 6 = true then 4 else -1
theorem t_Mo_kindHere {sc : Option (Nat × Nat × (Nat → Int32))} {sa : Nat → Nat} {d : Nat} {M : mz_M} {z : Nat × Nat} {m : Nat} (w : g_Mo M.2.2 m) {F : Nat → Int32} {A : Nat → Nat → Int32} {sg : Nat → Int32} {t : Nat} (ht : t ≤ 500) (h3 : F 3 = nI t) (hA : ∀ i, i < t → A 3 i = bt sg t i) {B : Nat → Int32} {e : rS} (hk : okr t e)  : zx sc sa (d + 6) 212 [.ref m] (rq M m F (va_up A 1 B) e) z z (some (.int (khR sg t e))) (rq M m F (va_up A 1 B) e) := by
  refine zxin ym_Mo_kindHere [.ref m] rfl rfl rfl rfl ?_
  refine z_aload_n (q := 1) rfl rfl rfl ?_
  refine z_ldcs (q := 3) rfl rfl ?_
  refine z_cv1i (q := 6) rfl rfl rfl (Mo_k w) (t_Mo_isWord w ht h3 (hA_u hA) hk (by decide)) ?_
  refine z_if_eq (q := 9) rfl rfl (fun h6 => ?_) (fun h6 => ?_)
  · refine z_aload_n (q := 14) rfl rfl rfl ?_
    refine z_ldcs (q := 16) rfl rfl ?_
    refine z_cv1i (q := 19) rfl rfl rfl (Mo_k w) (t_Mo_isWord w ht h3 (hA_u hA) hk (by decide)) ?_
    refine z_if_eq (q := 22) rfl rfl (fun h19 => ?_) (fun h19 => ?_)
    · refine z_aload_n (q := 27) rfl rfl rfl ?_
      refine z_ldcs (q := 29) rfl rfl ?_
      refine z_cv1i (q := 32) rfl rfl rfl (Mo_k w) (t_Mo_isWord w ht h3 (hA_u hA) hk (by decide)) ?_
      refine z_if_eq (q := 35) rfl rfl (fun h32 => ?_) (fun h32 => ?_)
      · refine z_aload_n (q := 40) rfl rfl rfl ?_
        refine z_ldcs (q := 42) rfl rfl ?_
        refine z_cv1i (q := 45) rfl rfl rfl (Mo_k w) (t_Mo_isWord w ht h3 (hA_u hA) hk (by decide)) ?_
        refine z_if_eq (q := 48) rfl rfl (fun h45 => ?_) (fun h45 => ?_)
        · refine z_aload_n (q := 53) rfl rfl rfl ?_
          refine z_ldcs (q := 55) rfl rfl ?_
          refine z_cv1i (q := 58) rfl rfl rfl (Mo_k w) (t_Mo_isWord w ht h3 (hA_u hA) hk (by decide)) ?_
          refine z_if_eq (q := 61) rfl rfl (fun h58 => ?_) (fun h58 => ?_)
          · refine z_iconst (q := 66) (v := -1) rfl rfl rfl ?_
            refine z_ireti rfl rfl ?_
            unfold khR
            first
              | (rw [if_pos (bz_n.mp h6)]; exact ⟨rfl, rfl⟩)
              | (rw [if_neg (bz_0.mp h6), if_pos (bz_n.mp h19)]; exact ⟨rfl, rfl⟩)
              | (rw [if_neg (bz_0.mp h6), if_neg (bz_0.mp h19), if_pos (bz_n.mp h32)]; exact ⟨rfl, rfl⟩)
              | (rw [if_neg (bz_0.mp h6), if_neg (bz_0.mp h19), if_neg (bz_0.mp h32), if_pos (bz_n.mp h45)]; exact ⟨rfl, rfl⟩)
              | (rw [if_neg (bz_0.mp h6), if_neg (bz_0.mp h19), if_neg (bz_0.mp h32), if_neg (bz_0.mp h45), if_pos (bz_n.mp h58)]; exact ⟨rfl, rfl⟩)
              | (rw [if_neg (bz_0.mp h6), if_neg (bz_0.mp h19), if_neg (bz_0.mp h32), if_neg (bz_0.mp h45), if_neg (bz_0.mp h58)]; exact ⟨rfl, rfl⟩)
              | fail "none"
          · refine z_iconst (q := 62) (v := 4) rfl rfl rfl ?_
            refine z_goto rfl ?_
            refine z_ireti rfl rfl ?_
            unfold khR
            first
              | (rw [if_pos (bz_n.mp h6)]; exact ⟨rfl, rfl⟩)
              | (rw [if_neg (bz_0.mp h6), if_pos (bz_n.mp h19)]; exact ⟨rfl, rfl⟩)
              | (rw [if_neg (bz_0.mp h6), if_neg (bz_0.mp h19), if_pos (bz_n.mp h32)]; exact ⟨rfl, rfl⟩)
              | (rw [if_neg (bz_0.mp h6), if_neg (bz_0.mp h19), if_neg (bz_0.mp h32), if_pos (bz_n.mp h45)]; exact ⟨rfl, rfl⟩)
              | (rw [if_neg (bz_0.mp h6), if_neg (bz_0.mp h19), if_neg (bz_0.mp h32), if_neg (bz_0.mp h45), if_pos (bz_n.mp h58)]; exact ⟨rfl, rfl⟩)
              | (rw [if_neg (bz_0.mp h6), if_neg (bz_0.mp h19), if_neg (bz_0.mp h32), if_neg (bz_0.mp h45), if_neg (bz_0.mp h58)]; exact ⟨rfl, rfl⟩)
              | fail "none"
        · refine z_iconst (q := 49) (v := 3) rfl rfl rfl ?_
          refine z_goto rfl ?_
          refine z_ireti rfl rfl ?_
          unfold khR
          first
            | (rw [if_pos (bz_n.mp h6)]; exact ⟨rfl, rfl⟩)
            | (rw [if_neg (bz_0.mp h6), if_pos (bz_n.mp h19)]; exact ⟨rfl, rfl⟩)
            | (rw [if_neg (bz_0.mp h6), if_neg (bz_0.mp h19), if_pos (bz_n.mp h32)]; exact ⟨rfl, rfl⟩)
            | (rw [if_neg (bz_0.mp h6), if_neg (bz_0.mp h19), if_neg (bz_0.mp h32), if_pos (bz_n.mp h45)]; exact ⟨rfl, rfl⟩)
            | (rw [if_neg (bz_0.mp h6), if_neg (bz_0.mp h19), if_neg (bz_0.mp h32), if_neg (bz_0.mp h45), if_pos (bz_n.mp h58)]; exact ⟨rfl, rfl⟩)
            | (rw [if_neg (bz_0.mp h6), if_neg (bz_0.mp h19), if_neg (bz_0.mp h32), if_neg (bz_0.mp h45), if_neg (bz_0.mp h58)]; exact ⟨rfl, rfl⟩)
            | fail "none"
      · refine z_iconst (q := 36) (v := 2) rfl rfl rfl ?_
        refine z_goto rfl ?_
        refine z_ireti rfl rfl ?_
        unfold khR
        first
          | (rw [if_pos (bz_n.mp h6)]; exact ⟨rfl, rfl⟩)
          | (rw [if_neg (bz_0.mp h6), if_pos (bz_n.mp h19)]; exact ⟨rfl, rfl⟩)
          | (rw [if_neg (bz_0.mp h6), if_neg (bz_0.mp h19), if_pos (bz_n.mp h32)]; exact ⟨rfl, rfl⟩)
          | (rw [if_neg (bz_0.mp h6), if_neg (bz_0.mp h19), if_neg (bz_0.mp h32), if_pos (bz_n.mp h45)]; exact ⟨rfl, rfl⟩)
          | (rw [if_neg (bz_0.mp h6), if_neg (bz_0.mp h19), if_neg (bz_0.mp h32), if_neg (bz_0.mp h45), if_pos (bz_n.mp h58)]; exact ⟨rfl, rfl⟩)
          | (rw [if_neg (bz_0.mp h6), if_neg (bz_0.mp h19), if_neg (bz_0.mp h32), if_neg (bz_0.mp h45), if_neg (bz_0.mp h58)]; exact ⟨rfl, rfl⟩)
          | fail "none"
    · refine z_iconst (q := 23) (v := 1) rfl rfl rfl ?_
      refine z_goto rfl ?_
      refine z_ireti rfl rfl ?_
      unfold khR
      first
        | (rw [if_pos (bz_n.mp h6)]; exact ⟨rfl, rfl⟩)
        | (rw [if_neg (bz_0.mp h6), if_pos (bz_n.mp h19)]; exact ⟨rfl, rfl⟩)
        | (rw [if_neg (bz_0.mp h6), if_neg (bz_0.mp h19), if_pos (bz_n.mp h32)]; exact ⟨rfl, rfl⟩)
        | (rw [if_neg (bz_0.mp h6), if_neg (bz_0.mp h19), if_neg (bz_0.mp h32), if_pos (bz_n.mp h45)]; exact ⟨rfl, rfl⟩)
        | (rw [if_neg (bz_0.mp h6), if_neg (bz_0.mp h19), if_neg (bz_0.mp h32), if_neg (bz_0.mp h45), if_pos (bz_n.mp h58)]; exact ⟨rfl, rfl⟩)
        | (rw [if_neg (bz_0.mp h6), if_neg (bz_0.mp h19), if_neg (bz_0.mp h32), if_neg (bz_0.mp h45), if_neg (bz_0.mp h58)]; exact ⟨rfl, rfl⟩)
        | fail "none"
  · refine z_iconst (q := 10) (v := 0) rfl rfl rfl ?_
    refine z_goto rfl ?_
    refine z_ireti rfl rfl ?_
    unfold khR
    first
      | (rw [if_pos (bz_n.mp h6)]; exact ⟨rfl, rfl⟩)
      | (rw [if_neg (bz_0.mp h6), if_pos (bz_n.mp h19)]; exact ⟨rfl, rfl⟩)
      | (rw [if_neg (bz_0.mp h6), if_neg (bz_0.mp h19), if_pos (bz_n.mp h32)]; exact ⟨rfl, rfl⟩)
      | (rw [if_neg (bz_0.mp h6), if_neg (bz_0.mp h19), if_neg (bz_0.mp h32), if_pos (bz_n.mp h45)]; exact ⟨rfl, rfl⟩)
      | (rw [if_neg (bz_0.mp h6), if_neg (bz_0.mp h19), if_neg (bz_0.mp h32), if_neg (bz_0.mp h45), if_pos (bz_n.mp h58)]; exact ⟨rfl, rfl⟩)
      | (rw [if_neg (bz_0.mp h6), if_neg (bz_0.mp h19), if_neg (bz_0.mp h32), if_neg (bz_0.mp h45), if_neg (bz_0.mp h58)]; exact ⟨rfl, rfl⟩)
      | fail "none"
