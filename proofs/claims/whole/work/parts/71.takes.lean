-- a cell is taken
def zF (F0 : Nat → Int32) (A0 : Nat → Nat → Int32) (F : Nat → Int32) (A : Nat → Nat → Int32) : Prop := (∀ k, k ≠ 14 → k ≠ 17 → k ≠ 30 → F k = F0 k) ∧ ∀ j, (j < 4 ∨ 11 < j) → A j = A0 j
theorem zF_r {F : Nat → Int32} {A : Nat → Nat → Int32} : zF F A F A := ⟨fun _ _ _ _ => rfl, fun _ _ => rfl⟩
theorem zF_f {F0 F F' : Nat → Int32} {A0 A A' : Nat → Nat → Int32} (h : zF F0 A0 F A) (g : mFr F A F' A') : zF F0 A0 F' A' := ⟨fun k a b c => (g.1 k a b).trans (h.1 k a b c), fun j hj => (g.2 j hj).trans (h.2 j hj)⟩
theorem zF_t {F0 F F' : Nat → Int32} {A0 A A' : Nat → Nat → Int32} (h : zF F0 A0 F A) (g : zF F A F' A') : zF F0 A0 F' A' := ⟨fun k a b c => (g.1 k a b c).trans (h.1 k a b c), fun j hj => (g.2 j hj).trans (h.2 j hj)⟩
theorem bi_and {P co : Int32} : ∀ i, i < 12 → (bi1 (P &&& (co ^^^ -1)) i = 0 ↔ bi1 P i = 0 ∨ ¬ bi1 co i = 0) := by
  have key : ∀ (p : Int32) (i : Nat), i < 12 → (bi1 p i = 0 ↔ p.toBitVec.getLsbD i = false) := by
    intro p i hi
    have k1 : (bi1 p i).toBitVec = (p.toBitVec >>> i) &&& 1#32 := by
      match i, hi with
      | 0, _ => rfl
      | 1, _ => rfl
      | 2, _ => rfl
      | 3, _ => rfl
      | 4, _ => rfl
      | 5, _ => rfl
      | 6, _ => rfl
      | 7, _ => rfl
      | 8, _ => rfl
      | 9, _ => rfl
      | 10, _ => rfl
      | 11, _ => rfl
      | i + 12, h => exact absurd h (by omega)
    have a1 : (p.toBitVec >>> i) &&& 1#32 = if p.toBitVec.getLsbD i then 1#32 else 0#32 := by
      apply BitVec.eq_of_getLsbD_eq
      intro k hk
      rw [BitVec.getLsbD_and, BitVec.getLsbD_one, BitVec.getLsbD_ushiftRight]
      by_cases e : k = 0
      · subst e
        rw [Nat.add_zero]
        cases h : p.toBitVec.getLsbD i <;> simp
      · cases h : p.toBitVec.getLsbD i <;> simp [e]
    rw [← Int32.toBitVec_inj, k1, a1]
    cases p.toBitVec.getLsbD i <;> decide
  intro i hi
  rw [key _ i hi, key _ i hi, key _ i hi]
  show (P.toBitVec &&& (co.toBitVec ^^^ (-1 : Int32).toBitVec)).getLsbD i = false ↔ _
  have e1 : (-1 : Int32).toBitVec = BitVec.allOnes 32 := by decide
  rw [BitVec.getLsbD_and, BitVec.getLsbD_xor, e1, BitVec.getLsbD_allOnes, decide_eq_true (show i < 32 by omega)]
  cases P.toBitVec.getLsbD i <;> cases co.toBitVec.getLsbD i <;> decide
def tkR (c : Nat) (co : Int32) (best has fe a b : Int32) : Prop := (best = -1 ∧ fe = 5) ∨ (best = a ∧ has = b ∧ fe = bcI b ∧ (∃ x, x < c ∧ a = nI x ∧ bi1 co x = 0) ∧ ∃ y, y < 16 ∧ b = nI y)
theorem l_Mo_takes {sc : Option (Nat × Nat × (Nat → Int32))} {sa : Nat → Nat} {d : Nat} {M : mz_M} {z : Nat × Nat} {m : Nat} (w : g_Mo M.2.2 m) {c : Nat} {l t : Int32} (hC : c ≤ 12) {F0 : Nat → Int32} {A0 : Nat → Nat → Int32} (hs : A0 1 0 = nI c) (hl : F0 15 = l) (ht : F0 16 = t) {n : Nat} (h37 : F0 37 = nI n) (hn : n ≤ 12) {tk : Nat → Int32} (htk : ∀ j, j < n → A0 17 j = tk j) {co : Int32} (hco : coB tk co n) {j : Nat} {Q : mz_P}  : ∀ (k : Nat) (i : Nat) (best has fe a b : Int32) (q : sQ) (F : Nat → Int32) (A : Nat → Nat → Int32) (x5 : Value), i + k = c → mFr F0 A0 F A → mAd c F A q → qI c q → j < q.1 → tkR c co best has fe a b → (¬ best = -1 ∨ ∃ x, i ≤ x ∧ x < c ∧ bi1 co x = 0) → (∀ F' A' (u : Value) x y, mFr F0 A0 F' A' → mAd c F' A' (tcF (nI c) l t j co k i fe a b q).2.2 → (tcF (nI c) l t j co k i fe a b q).1 = nI x → x < c → bi1 co x = 0 → (tcF (nI c) l t j co k i fe a b q).2.1 = nI y → y < 16 → zw sc sa (d + 5) ym_Mo_takes z Q 68 [.ref m, .int (nI j), .int (nI x), .int (nI y), .int (nI c), u] [] (moF M m F' A') z) → zw sc sa (d + 5) ym_Mo_takes z Q 7 [.ref m, .int (nI j), .int best, .int has, .int (nI i), x5] [] (moF M m F A) z := by
  intro k
  induction k with
  | zero =>
    intro i best has fe a b q F A x5 hi hF hq hI hj hR hex hk
    have e1 : i = c := by omega
    subst e1
    have m1 := hF.2 1 (by omega)
    have m17 := hF.2 17 (by omega)
    have f37 := hF.1 37 (by omega) (by omega)
    have hb : ¬ best = -1 := by
      rcases hex with g | ⟨x, g1, g2, _⟩
      · exact g
      · omega
    rcases hR with ⟨g, _⟩ | ⟨g1, g2, g3, ⟨x, g4, g5, g6⟩, ⟨y, g7, g8⟩⟩
    · exact absurd g hb
    subst g1
    subst g2
    subst g5
    subst g8
    refine z_iload (q := 9) rfl rfl rfl ?_
    refine z_aload_n (q := 10) rfl rfl rfl ?_
    refine z_getR (q := 13) rfl rfl rfl (Mo_k w) (Mo_r0 w) ?_
    refine z_iconst (q := 14) (v := 0) rfl rfl rfl ?_
    refine z_iald (q := 15) rfl rfl (Mo_a0 w) (vp0 (by decide) (by decide)) ?_
    rw [moF_a0]
    try rw [nI_clamp (by omega)]
    rw [show A 1 (0 : Int32).toNatClampNeg = nI i from (congrFun m1 0).trans hs]
    refine z_ic_ge (q := 18) rfl rfl (fun h15 => ?_) (fun h15 => ?_)
    · exact hk F A _ x y hF hq rfl g4 g6 rfl g7
    · exact absurd (Int32.le_refl _) h15
  | succ k ih =>
    intro i best has fe a b q F A x5 hi hF hq hI hj hR hex hk
    have m1 := hF.2 1 (by omega)
    have m17 := hF.2 17 (by omega)
    have f37 := hF.1 37 (by omega) (by omega)
    obtain ⟨y, y1, y2⟩ := nm_16 (q.2.1 j) (show i < 12 by omega)
    refine z_iload (q := 9) rfl rfl rfl ?_
    refine z_aload_n (q := 10) rfl rfl rfl ?_
    refine z_getR (q := 13) rfl rfl rfl (Mo_k w) (Mo_r0 w) ?_
    refine z_iconst (q := 14) (v := 0) rfl rfl rfl ?_
    refine z_iald (q := 15) rfl rfl (Mo_a0 w) (vp0 (by decide) (by decide)) ?_
    rw [moF_a0]
    try rw [nI_clamp (by omega)]
    rw [show A 1 (0 : Int32).toNatClampNeg = nI c from (congrFun m1 0).trans hs]
    refine z_ic_ge (q := 18) rfl rfl (fun h15 => ?_) (fun h15 => ?_)
    · exact absurd h15 (nI_ge (by omega) (by omega))
    · refine z_aload_n (q := 19) rfl rfl rfl ?_
      refine z_iload (q := 21) rfl rfl rfl ?_
      refine z_cv1i (q := 24) rfl rfl rfl (Mo_k w) (s_Mo_isTaken w (f37.trans h37) hn (show i < 12 by omega) (fun j hj => by rw [m17]; exact htk j hj) hco) ?_
      refine z_if_eq (q := 27) rfl rfl (fun h24 => ?_) (fun h24 => ?_)
      · refine z_aload_n (q := 31) rfl rfl rfl ?_
        refine z_iload_n (q := 32) rfl rfl rfl ?_
        refine z_iload (q := 34) rfl rfl rfl ?_
        refine z_cv2qi (q := 37) rfl rfl rfl (Mo_k w) (d_Mo_read w hq hI hC ((congrFun m1 0).trans hs) ((hF.1 15 (by omega) (by omega)).trans hl) ((hF.1 16 (by omega) (by omega)).trans ht) hj (show i < c by omega)) (fun x9 M9 h9 => ?_)
        obtain ⟨rfl, FF, AA, rfl, rr, gg⟩ := h9
        refine z_istore (q := 39) (L2 := [_, _, _, _, _, _]) rfl rfl rfl rfl ?_
        refine z_iload_n (q := 40) rfl rfl rfl ?_
        refine z_iconst (q := 41) (v := -1) rfl rfl rfl ?_
        refine z_ic_eq (q := 44) rfl rfl (fun h41 => ?_) (fun h41 => ?_)
        · refine z_iload (q := 58) rfl rfl rfl ?_
          refine z_istore_n (q := 59) (L2 := [_, _, _, _, _, _]) rfl rfl rfl rfl ?_
          refine z_iload (q := 61) rfl rfl rfl ?_
          refine z_istore_n (q := 62) (L2 := [_, _, _, _, _, _]) rfl rfl rfl rfl ?_
          refine z_iinc (q := 65) (L2 := [_, _, _, _, _, _]) rfl rfl rfl rfl ?_
          refine z_goto rfl ?_
          rw [show nI i + Int32.ofInt 1 = nI (i + 1) from (nI_succ i).symm]
          rw [tcF_s] at hk
          first
            | (have hzz : ¬ bi1 co i = 0 := bz_n.mp h24
               rw [if_neg hzz] at hk
               refine ih (i + 1) best has fe a b q F A _ (by omega) hF hq hI hj hR ?_ hk
               rcases hex with g | ⟨x, g1, g2, g3⟩
               · exact Or.inl g
               · refine Or.inr ⟨x, ?_, g2, g3⟩
                 rcases Nat.eq_or_lt_of_le g1 with g | g
                 · rw [← g] at g3; exact absurd g3 hzz
                 · omega)
            | (have hzz : bi1 co i = 0 := Classical.byContradiction (bz_0.mp h24)
               have hyy : best = -1 := h41
               have hfe : fe = 5 := by
                 rcases hR with ⟨_, g⟩ | ⟨g1, _, _, ⟨x8, g4, g5, g6⟩, _⟩
                 · exact g
                 · rw [← g1, hyy] at g5
                   exact absurd g5.symm (nI_m1 (by omega))
               rw [if_pos hzz, if_pos (show bcI (nmI (q.2.1 j) (nI i)) < fe by rw [hfe, y2]; exact bc_5 y y1)] at hk
               exact ih (i + 1) _ _ _ _ _ _ FF AA _ (by omega) (mFr_t hF rr) gg (qI_rd hI hj) hj (Or.inr ⟨rfl, rfl, rfl, ⟨i, by omega, rfl, hzz⟩, ⟨y, y1, y2⟩⟩) (Or.inl (nI_m1 (by omega))) hk)
            | (have hzz : bi1 co i = 0 := Classical.byContradiction (bz_0.mp h24)
               have hyy : ¬ bcI (nI y8) ≤ bcI (nI y) := h53
               rw [if_pos hzz, if_pos (show bcI (nmI (q.2.1 j) (nI i)) < fe by rw [g3, g8, y2]; exact Int32.not_le.mp hyy)] at hk
               exact ih (i + 1) _ _ _ _ _ _ FF AA _ (by omega) (mFr_t hF rr) gg (qI_rd hI hj) hj (Or.inr ⟨rfl, y2.symm, rfl, ⟨i, by omega, rfl, hzz⟩, ⟨y, y1, y2⟩⟩) (Or.inl (nI_m1 (by omega))) hk)
            | (have hzz : bi1 co i = 0 := Classical.byContradiction (bz_0.mp h24)
               have hyy : bcI (nI y8) ≤ bcI (nI y) := h53
               rw [if_pos hzz, if_neg (show ¬ bcI (nmI (q.2.1 j) (nI i)) < fe by rw [g3, g8, y2]; exact Int32.not_lt.mpr hyy)] at hk
               exact ih (i + 1) best (nI y8) fe a b _ FF AA _ (by omega) (mFr_t hF rr) gg (qI_rd hI hj) hj (Or.inr ⟨g1, g8.symm, g3, ⟨x8, g4, g5, g6⟩, ⟨y8, g7, g8⟩⟩) (Or.inl h41) hk)
            | fail "none"
        · refine z_iload (q := 46) rfl rfl rfl ?_
          refine z_cs1i (q := 49) rfl rfl rfl (s_Mo_bitsOf) ?_
          rw [y2, bo_bc y y1]
          refine z_iload_n (q := 50) rfl rfl rfl ?_
          refine z_cs1i (q := 53) rfl rfl rfl (s_Mo_bitsOf) ?_
          rcases hR with ⟨g, _⟩ | hR1
          · exact absurd g h41
          have hR2 := hR1
          obtain ⟨g1, g2, g3, ⟨x8, g4, g5, g6⟩, ⟨y8, g7, g8⟩⟩ := hR2
          rw [g2, g8, bo_bc y8 g7]
          refine z_ic_ge (q := 56) rfl rfl (fun h53 => ?_) (fun h53 => ?_)
          · refine z_iinc (q := 65) (L2 := [_, _, _, _, _, _]) rfl rfl rfl rfl ?_
            refine z_goto rfl ?_
            rw [show nI i + Int32.ofInt 1 = nI (i + 1) from (nI_succ i).symm]
            rw [tcF_s] at hk
            first
              | (have hzz : ¬ bi1 co i = 0 := bz_n.mp h24
                 rw [if_neg hzz] at hk
                 refine ih (i + 1) best has fe a b q F A _ (by omega) hF hq hI hj hR ?_ hk
                 rcases hex with g | ⟨x, g1, g2, g3⟩
                 · exact Or.inl g
                 · refine Or.inr ⟨x, ?_, g2, g3⟩
                   rcases Nat.eq_or_lt_of_le g1 with g | g
                   · rw [← g] at g3; exact absurd g3 hzz
                   · omega)
              | (have hzz : bi1 co i = 0 := Classical.byContradiction (bz_0.mp h24)
                 have hyy : best = -1 := h41
                 have hfe : fe = 5 := by
                   rcases hR with ⟨_, g⟩ | ⟨g1, _, _, ⟨x8, g4, g5, g6⟩, _⟩
                   · exact g
                   · rw [← g1, hyy] at g5
                     exact absurd g5.symm (nI_m1 (by omega))
                 rw [if_pos hzz, if_pos (show bcI (nmI (q.2.1 j) (nI i)) < fe by rw [hfe, y2]; exact bc_5 y y1)] at hk
                 exact ih (i + 1) _ _ _ _ _ _ FF AA _ (by omega) (mFr_t hF rr) gg (qI_rd hI hj) hj (Or.inr ⟨rfl, rfl, rfl, ⟨i, by omega, rfl, hzz⟩, ⟨y, y1, y2⟩⟩) (Or.inl (nI_m1 (by omega))) hk)
              | (have hzz : bi1 co i = 0 := Classical.byContradiction (bz_0.mp h24)
                 have hyy : ¬ bcI (nI y8) ≤ bcI (nI y) := h53
                 rw [if_pos hzz, if_pos (show bcI (nmI (q.2.1 j) (nI i)) < fe by rw [g3, g8, y2]; exact Int32.not_le.mp hyy)] at hk
                 exact ih (i + 1) _ _ _ _ _ _ FF AA _ (by omega) (mFr_t hF rr) gg (qI_rd hI hj) hj (Or.inr ⟨rfl, y2.symm, rfl, ⟨i, by omega, rfl, hzz⟩, ⟨y, y1, y2⟩⟩) (Or.inl (nI_m1 (by omega))) hk)
              | (have hzz : bi1 co i = 0 := Classical.byContradiction (bz_0.mp h24)
                 have hyy : bcI (nI y8) ≤ bcI (nI y) := h53
                 rw [if_pos hzz, if_neg (show ¬ bcI (nmI (q.2.1 j) (nI i)) < fe by rw [g3, g8, y2]; exact Int32.not_lt.mpr hyy)] at hk
                 exact ih (i + 1) best (nI y8) fe a b _ FF AA _ (by omega) (mFr_t hF rr) gg (qI_rd hI hj) hj (Or.inr ⟨g1, g8.symm, g3, ⟨x8, g4, g5, g6⟩, ⟨y8, g7, g8⟩⟩) (Or.inl h41) hk)
              | fail "none"
          · refine z_iload (q := 58) rfl rfl rfl ?_
            refine z_istore_n (q := 59) (L2 := [_, _, _, _, _, _]) rfl rfl rfl rfl ?_
            refine z_iload (q := 61) rfl rfl rfl ?_
            refine z_istore_n (q := 62) (L2 := [_, _, _, _, _, _]) rfl rfl rfl rfl ?_
            refine z_iinc (q := 65) (L2 := [_, _, _, _, _, _]) rfl rfl rfl rfl ?_
            refine z_goto rfl ?_
            rw [show nI i + Int32.ofInt 1 = nI (i + 1) from (nI_succ i).symm]
            rw [tcF_s] at hk
            first
              | (have hzz : ¬ bi1 co i = 0 := bz_n.mp h24
                 rw [if_neg hzz] at hk
                 refine ih (i + 1) best has fe a b q F A _ (by omega) hF hq hI hj hR ?_ hk
                 rcases hex with g | ⟨x, g1, g2, g3⟩
                 · exact Or.inl g
                 · refine Or.inr ⟨x, ?_, g2, g3⟩
                   rcases Nat.eq_or_lt_of_le g1 with g | g
                   · rw [← g] at g3; exact absurd g3 hzz
                   · omega)
              | (have hzz : bi1 co i = 0 := Classical.byContradiction (bz_0.mp h24)
                 have hyy : best = -1 := h41
                 have hfe : fe = 5 := by
                   rcases hR with ⟨_, g⟩ | ⟨g1, _, _, ⟨x8, g4, g5, g6⟩, _⟩
                   · exact g
                   · rw [← g1, hyy] at g5
                     exact absurd g5.symm (nI_m1 (by omega))
                 rw [if_pos hzz, if_pos (show bcI (nmI (q.2.1 j) (nI i)) < fe by rw [hfe, y2]; exact bc_5 y y1)] at hk
                 exact ih (i + 1) _ _ _ _ _ _ FF AA _ (by omega) (mFr_t hF rr) gg (qI_rd hI hj) hj (Or.inr ⟨rfl, rfl, rfl, ⟨i, by omega, rfl, hzz⟩, ⟨y, y1, y2⟩⟩) (Or.inl (nI_m1 (by omega))) hk)
              | (have hzz : bi1 co i = 0 := Classical.byContradiction (bz_0.mp h24)
                 have hyy : ¬ bcI (nI y8) ≤ bcI (nI y) := h53
                 rw [if_pos hzz, if_pos (show bcI (nmI (q.2.1 j) (nI i)) < fe by rw [g3, g8, y2]; exact Int32.not_le.mp hyy)] at hk
                 exact ih (i + 1) _ _ _ _ _ _ FF AA _ (by omega) (mFr_t hF rr) gg (qI_rd hI hj) hj (Or.inr ⟨rfl, y2.symm, rfl, ⟨i, by omega, rfl, hzz⟩, ⟨y, y1, y2⟩⟩) (Or.inl (nI_m1 (by omega))) hk)
              | (have hzz : bi1 co i = 0 := Classical.byContradiction (bz_0.mp h24)
                 have hyy : bcI (nI y8) ≤ bcI (nI y) := h53
                 rw [if_pos hzz, if_neg (show ¬ bcI (nmI (q.2.1 j) (nI i)) < fe by rw [g3, g8, y2]; exact Int32.not_lt.mpr hyy)] at hk
                 exact ih (i + 1) best (nI y8) fe a b _ FF AA _ (by omega) (mFr_t hF rr) gg (qI_rd hI hj) hj (Or.inr ⟨g1, g8.symm, g3, ⟨x8, g4, g5, g6⟩, ⟨y8, g7, g8⟩⟩) (Or.inl h41) hk)
              | fail "none"
      · refine z_goto rfl ?_
        refine z_iinc (q := 65) (L2 := [_, _, _, _, _, _]) rfl rfl rfl rfl ?_
        refine z_goto rfl ?_
        rw [show nI i + Int32.ofInt 1 = nI (i + 1) from (nI_succ i).symm]
        rw [tcF_s] at hk
        first
          | (have hzz : ¬ bi1 co i = 0 := bz_n.mp h24
             rw [if_neg hzz] at hk
             refine ih (i + 1) best has fe a b q F A _ (by omega) hF hq hI hj hR ?_ hk
             rcases hex with g | ⟨x, g1, g2, g3⟩
             · exact Or.inl g
             · refine Or.inr ⟨x, ?_, g2, g3⟩
               rcases Nat.eq_or_lt_of_le g1 with g | g
               · rw [← g] at g3; exact absurd g3 hzz
               · omega)
          | (have hzz : bi1 co i = 0 := Classical.byContradiction (bz_0.mp h24)
             have hyy : best = -1 := h41
             have hfe : fe = 5 := by
               rcases hR with ⟨_, g⟩ | ⟨g1, _, _, ⟨x8, g4, g5, g6⟩, _⟩
               · exact g
               · rw [← g1, hyy] at g5
                 exact absurd g5.symm (nI_m1 (by omega))
             rw [if_pos hzz, if_pos (show bcI (nmI (q.2.1 j) (nI i)) < fe by rw [hfe, y2]; exact bc_5 y y1)] at hk
             exact ih (i + 1) _ _ _ _ _ _ FF AA _ (by omega) (mFr_t hF rr) gg (qI_rd hI hj) hj (Or.inr ⟨rfl, rfl, rfl, ⟨i, by omega, rfl, hzz⟩, ⟨y, y1, y2⟩⟩) (Or.inl (nI_m1 (by omega))) hk)
          | (have hzz : bi1 co i = 0 := Classical.byContradiction (bz_0.mp h24)
             have hyy : ¬ bcI (nI y8) ≤ bcI (nI y) := h53
             rw [if_pos hzz, if_pos (show bcI (nmI (q.2.1 j) (nI i)) < fe by rw [g3, g8, y2]; exact Int32.not_le.mp hyy)] at hk
             exact ih (i + 1) _ _ _ _ _ _ FF AA _ (by omega) (mFr_t hF rr) gg (qI_rd hI hj) hj (Or.inr ⟨rfl, y2.symm, rfl, ⟨i, by omega, rfl, hzz⟩, ⟨y, y1, y2⟩⟩) (Or.inl (nI_m1 (by omega))) hk)
          | (have hzz : bi1 co i = 0 := Classical.byContradiction (bz_0.mp h24)
             have hyy : bcI (nI y8) ≤ bcI (nI y) := h53
             rw [if_pos hzz, if_neg (show ¬ bcI (nmI (q.2.1 j) (nI i)) < fe by rw [g3, g8, y2]; exact Int32.not_lt.mpr hyy)] at hk
             exact ih (i + 1) best (nI y8) fe a b _ FF AA _ (by omega) (mFr_t hF rr) gg (qI_rd hI hj) hj (Or.inr ⟨g1, g8.symm, g3, ⟨x8, g4, g5, g6⟩, ⟨y8, g7, g8⟩⟩) (Or.inl h41) hk)
          | fail "none"
theorem d_Mo_takes {sc : Option (Nat × Nat × (Nat → Int32))} {sa : Nat → Nat} {d : Nat} {M : mz_M} {z : Nat × Nat} {m : Nat} (w : g_Mo M.2.2 m) {c : Nat} {l t : Int32} (hC : c ≤ 12) {F : Nat → Int32} {A : Nat → Nat → Int32} (hs : A 1 0 = nI c) (hl : F 15 = l) (ht : F 16 = t) {n : Nat} (h37 : F 37 = nI n) (hn : n < 12) {tk : Nat → Int32} (htk : ∀ j, j < n → A 17 j = tk j) {co : Int32} (hco : coB tk co n) {j : Nat} {q : sQ} (hq : mAd c F A q) (hI : qI c q) (hj : j < q.1) (hex : ∃ x, x < c ∧ bi1 co x = 0) {a b : Int32} : zv sc sa (d + 6) 280 [.ref m, .int (nI j)] (moF M m F A) z (fun M' => ∃ F' A' x y, M' = moF M m F' A' ∧ (∀ k, k ≠ 14 → k ≠ 17 → k ≠ 37 → F' k = F k) ∧ (∀ j, (j < 4 ∨ 11 < j ∧ j < 17 ∨ 20 < j) → A' j = A j) ∧ mAd c F' A' (tcF (nI c) l t j co c 0 5 a b q).2.2 ∧ F' 37 = nI (n + 1) ∧ A' 17 = va_up (A 17) n (nI x) ∧ A' 18 = va_up (A 18) n (nI j) ∧ A' 19 = va_up (A 19) n (nI y) ∧ A' 20 = va_up (A 20) x 0 ∧ (tcF (nI c) l t j co c 0 5 a b q).1 = nI x ∧ (tcF (nI c) l t j co c 0 5 a b q).2.1 = nI y ∧ x < c ∧ y < 16 ∧ bi1 co x = 0) := by
  refine zin ym_Mo_takes [.ref m, .int (nI j), .retAddr 0, .retAddr 0, .retAddr 0, .retAddr 0] rfl rfl rfl rfl ?_
  refine z_iconst (q := 1) (v := -1) rfl rfl rfl ?_
  refine z_istore_n (q := 2) (L2 := [_, _, _, _, _, _]) rfl rfl rfl rfl ?_
  refine z_iconst (q := 3) (v := 0) rfl rfl rfl ?_
  refine z_istore_n (q := 4) (L2 := [_, _, _, _, _, _]) rfl rfl rfl rfl ?_
  refine z_iconst (q := 5) (v := 0) rfl rfl rfl ?_
  refine z_istore (q := 7) (L2 := [_, _, _, _, _, _]) rfl rfl rfl rfl ?_
  refine l_Mo_takes (d := d) w hC hs hl ht h37 (by omega) htk hco c 0 (-1) 0 5 a b q F A _ (by omega) mFr_r hq hI hj (Or.inl ⟨rfl, rfl⟩) (Or.inr (by obtain ⟨x, g1, g2⟩ := hex; exact ⟨x, Nat.zero_le _, g1, g2⟩)) (fun Fz Az u x y rz gz e1 x1 bx e2 y1 => ?_)
  have f37 : Fz 37 = nI n := (rz.1 37 (by omega) (by omega)).trans h37
  refine z_aload_n (q := 69) rfl rfl rfl ?_
  refine z_getR (q := 72) rfl rfl rfl (Mo_k w) (Mo_r33 w) ?_
  refine z_aload_n (q := 73) rfl rfl rfl ?_
  refine z_getI (q := 76) rfl rfl rfl (Mo_k w) ?_
  rw [moF_g37]
  rw [f37]
  refine z_iload_n (q := 77) rfl rfl rfl ?_
  refine z_iast (q := 78) rfl rfl (Mo_a33 w) (by first | assumption | exact vp_in_nI (by omega) (by omega)) ?_
  rw [moF_w33]
  try rw [nI_clamp (by omega)]
  refine z_aload_n (q := 79) rfl rfl rfl ?_
  refine z_getR (q := 82) rfl rfl rfl (Mo_k w) (Mo_r34 w) ?_
  refine z_aload_n (q := 83) rfl rfl rfl ?_
  refine z_getI (q := 86) rfl rfl rfl (Mo_k w) ?_
  rw [moF_g37]
  rw [f37]
  refine z_iload_n (q := 87) rfl rfl rfl ?_
  refine z_iast (q := 88) rfl rfl (Mo_a34 w) (by first | assumption | exact vp_in_nI (by omega) (by omega)) ?_
  rw [moF_w34]
  try rw [nI_clamp (by omega)]
  refine z_aload_n (q := 89) rfl rfl rfl ?_
  refine z_getR (q := 92) rfl rfl rfl (Mo_k w) (Mo_r35 w) ?_
  refine z_aload_n (q := 93) rfl rfl rfl ?_
  refine z_getI (q := 96) rfl rfl rfl (Mo_k w) ?_
  rw [moF_g37]
  rw [f37]
  refine z_iload_n (q := 97) rfl rfl rfl ?_
  refine z_iast (q := 98) rfl rfl (Mo_a35 w) (by first | assumption | exact vp_in_nI (by omega) (by omega)) ?_
  rw [moF_w35]
  try rw [nI_clamp (by omega)]
  refine z_aload_n (q := 99) rfl rfl rfl ?_
  refine z_getR (q := 102) rfl rfl rfl (Mo_k w) (Mo_r36 w) ?_
  refine z_iload_n (q := 103) rfl rfl rfl ?_
  refine z_iconst (q := 104) (v := 0) rfl rfl rfl ?_
  refine z_iast (q := 105) rfl rfl (Mo_a36 w) (by first | assumption | exact vp_in_nI (by omega) (by omega)) ?_
  rw [moF_w36]
  try rw [nI_clamp (by omega)]
  refine z_aload_n (q := 106) rfl rfl rfl ?_
  refine z_dup (q := 107) rfl rfl rfl ?_
  refine z_getI (q := 110) rfl rfl rfl (Mo_k w) ?_
  rw [moF_g37]
  rw [f37]
  refine z_iconst (q := 111) (v := 1) rfl rfl rfl ?_
  refine z_iadd (q := 112) rfl rfl ?_
  rw [nI_1]
  refine z_putI (q := 115) rfl rfl rfl (by decide) rfl rfl (Mo_k w) ?_
  rw [moF_u37]
  refine z_ret rfl rfl ?_
  refine ⟨rfl, _, _, x, y, rfl, fun k h1 h2 h3 => (up_n h3).trans (rz.1 k h1 h2), fun j hj => ?_, mAd_c gz rfl rfl (fun j h4 h10 => ?_), rfl, ?_, ?_, ?_, ?_, e1, e2, x1, y1, bx⟩
  · exact (up_n (by omega)).trans ((up_n (by omega)).trans ((up_n (by omega)).trans ((up_n (by omega)).trans (rz.2 j (by omega)))))
  · exact (up_n (by omega)).trans ((up_n (by omega)).trans ((up_n (by omega)).trans (up_n (by omega))))
  · show va_up (Az 17) n (nI x) = _
    rw [rz.2 17 (by omega)]
  · show va_up (Az 18) n (nI j) = _
    rw [rz.2 18 (by omega)]
  · show va_up (Az 19) n (nI y) = _
    rw [rz.2 19 (by omega)]
  · show va_up (Az 20) x 0 = _
    rw [rz.2 20 (by omega)]
theorem puQ_ok2 {c : Nat} {s l t : Int32} {j i : Nat} {x : Int32} {q : sQ} (hI : qI c q) (hj : j < q.1) (hi : i < c) (hN : q.1 ≤ 200) : qI c (puQ s l t j (nI i) x 3 q).2.2 ∧ (puQ s l t j (nI i) x 3 q).2.2.1 ≤ 200 ∧ ((puQ s l t j (nI i) x 3 q).1 = -1 ∨ ∃ u, u < (puQ s l t j (nI i) x 3 q).2.2.1 ∧ (puQ s l t j (nI i) x 3 q).1 = nI u ∧ (puQ s l t j (nI i) x 3 q).2.1 = 3) := by
  by_cases h : q.1 < 200
  · rw [pu_y h]
    exact ⟨qI_set hI hj hi (by omega), h, Or.inr ⟨q.1, Nat.lt_succ_self _, rfl, rfl⟩⟩
  · rw [pu_n h]
    exact ⟨hI, hN, Or.inl rfl⟩
theorem l_Mo_lets {sc : Option (Nat × Nat × (Nat → Int32))} {sa : Nat → Nat} {d : Nat} {M : mz_M} {z : Nat × Nat} {m : Nat} (w : g_Mo M.2.2 m) {c : Nat} {l t : Int32} (hC : c ≤ 12) {F0 : Nat → Int32} {A0 : Nat → Nat → Int32} (hs : A0 1 0 = nI c) (hl : F0 15 = l) (ht : F0 16 = t) {n : Nat} (h37 : F0 37 = nI n) (hn : n ≤ 12) {tk : Nat → Int32} (htk : ∀ j, j < n → A0 17 j = tk j) {co : Int32} (hco : coB tk co n) {x e : Nat} (hx : x < c) (he : e < 4) {Pp : Int32} (hP : A0 1 (7 + x) = Pp)  : ∀ (k : Nat) (i : Nat) (v oc : Int32) (q : sQ) (F : Nat → Int32) (A : Nat → Nat → Int32) (x5 x6 : Value), i + k = c → zF F0 A0 F A → mAd c F A q → qI c q → q.1 ≤ 200 → F 30 = (if oc = 3 then -1 else oc) → (v = -1 ∨ ∃ u, u < q.1 ∧ v = nI u ∧ oc = 3) → zw sc sa (d + 6) ym_Mo_lets z (fun r' M' => ∃ y, r' = some (.int y) ∧ y = (soF (nI c) l t (Pp &&& (co ^^^ -1)) (b2 e) k i v oc q).1 ∧ ∃ F' A', M' = moF M m F' A' ∧ zF F0 A0 F' A' ∧ mAd c F' A' (soF (nI c) l t (Pp &&& (co ^^^ -1)) (b2 e) k i v oc q).2.2 ∧ F' 30 = (if (soF (nI c) l t (Pp &&& (co ^^^ -1)) (b2 e) k i v oc q).2.1 = 3 then -1 else (soF (nI c) l t (Pp &&& (co ^^^ -1)) (b2 e) k i v oc q).2.1)) 37 [.ref m, .int (nI (e + 1)), .int (nI x), .int v, .int (nI i), x5, x6] [] (moF M m F A) z := by
  intro k
  induction k with
  | zero =>
    intro i v oc q F A x5 x6 hi hF hq hI hN h30 hv
    have e1 : i = c := by omega
    subst e1
    have m1 := hF.2 1 (by omega)
    have m17 := hF.2 17 (by omega)
    have f37 := hF.1 37 (by omega) (by omega) (by omega)
    refine z_iload (q := 39) rfl rfl rfl ?_
    refine z_aload_n (q := 40) rfl rfl rfl ?_
    refine z_getR (q := 43) rfl rfl rfl (Mo_k w) (Mo_r0 w) ?_
    refine z_iconst (q := 44) (v := 0) rfl rfl rfl ?_
    refine z_iald (q := 45) rfl rfl (Mo_a0 w) (vp0 (by decide) (by decide)) ?_
    rw [moF_a0]
    try rw [nI_clamp (by omega)]
    rw [show A 1 (0 : Int32).toNatClampNeg = nI i from (congrFun m1 0).trans hs]
    refine z_ic_ge (q := 48) rfl rfl (fun h45 => ?_) (fun h45 => ?_)
    · refine z_iload_n (q := 141) rfl rfl rfl ?_
      refine z_ireti rfl rfl ?_
      exact ⟨_, rfl, rfl, F, A, rfl, hF, hq, h30⟩
    · exact absurd (Int32.le_refl _) h45
  | succ k ih =>
    intro i v oc q F A x5 x6 hi hF hq hI hN h30 hv
    have m1 := hF.2 1 (by omega)
    have m17 := hF.2 17 (by omega)
    have f37 := hF.1 37 (by omega) (by omega) (by omega)
    have ba := @bi_and Pp co i (by omega)
    have bh := bi_h (p := Pp) i (by omega)
    refine z_iload (q := 39) rfl rfl rfl ?_
    refine z_aload_n (q := 40) rfl rfl rfl ?_
    refine z_getR (q := 43) rfl rfl rfl (Mo_k w) (Mo_r0 w) ?_
    refine z_iconst (q := 44) (v := 0) rfl rfl rfl ?_
    refine z_iald (q := 45) rfl rfl (Mo_a0 w) (vp0 (by decide) (by decide)) ?_
    rw [moF_a0]
    try rw [nI_clamp (by omega)]
    rw [show A 1 (0 : Int32).toNatClampNeg = nI c from (congrFun m1 0).trans hs]
    refine z_ic_ge (q := 48) rfl rfl (fun h45 => ?_) (fun h45 => ?_)
    · exact absurd h45 (nI_ge (by omega) (by omega))
    · refine z_iload_n (q := 49) rfl rfl rfl ?_
      refine z_iconst (q := 50) (v := -1) rfl rfl rfl ?_
      refine z_ic_eq (q := 53) rfl rfl (fun h50 => ?_) (fun h50 => ?_)
      · refine z_iload_n (q := 141) rfl rfl rfl ?_
        refine z_ireti rfl rfl ?_
        have hyy : v = -1 := h50
        subst hyy
        rw [soF_n]
        exact ⟨_, rfl, rfl, F, A, rfl, hF, hq, h30⟩
      · refine z_aload_n (q := 54) rfl rfl rfl ?_
        obtain ⟨u, u1, u2, u3⟩ : ∃ u, u < q.1 ∧ v = nI u ∧ oc = 3 := by
          rcases hv with g | g
          · exact absurd g h50
          · exact g
        subst u2
        subst u3
        obtain ⟨y, y1, y2⟩ := nm_16 (q.2.1 u) (show i < 12 by omega)
        have hb := has_b y y1 e he
        refine z_iload (q := 56) rfl rfl rfl ?_
        refine z_cv1i (q := 59) rfl rfl rfl (Mo_k w) (s_Mo_isTaken w (f37.trans h37) hn (show i < 12 by omega) (fun j hj => by rw [m17]; exact htk j hj) hco) ?_
        refine z_if_ne (q := 62) rfl rfl (fun h59 => ?_) (fun h59 => ?_)
        · refine z_iinc (q := 137) (L2 := [_, _, _, _, _, _, _]) rfl rfl rfl rfl ?_
          refine z_goto rfl ?_
          rw [show nI i + Int32.ofInt 1 = nI (i + 1) from (nI_succ i).symm]
          have hu9 : ¬ nI u = -1 := nI_m1 (by omega)
          have hcl : (nI u).toNatClampNeg = u := nI_clamp (by omega)
          rw [show soF (nI c) l t (Pp &&& (co ^^^ -1)) (b2 e) (k + 1) i (nI u) 3 q = _ from if_neg hu9]
          first
            | (have hzz : bi1 (Pp &&& (co ^^^ -1)) i = 0 := ba.mpr (Or.inr (bz_n.mp h59))
               rw [if_pos hzz]
               exact ih (i + 1) (nI u) 3 q F A _ _ (by omega) hF hq hI hN h30 (Or.inr ⟨u, u1, rfl, rfl⟩))
            | (have hzz : bi1 (Pp &&& (co ^^^ -1)) i = 0 := ba.mpr (Or.inl (bh.mpr (bz_0.mp h76)))
               rw [if_pos hzz]
               exact ih (i + 1) (nI u) 3 q F A _ _ (by omega) hF hq hI hN h30 (Or.inr ⟨u, u1, rfl, rfl⟩))
            | (have hzz : ¬ bi1 (Pp &&& (co ^^^ -1)) i = 0 := fun g => by
                 rcases ba.mp g with g1 | g1
                 · exact bh.mp g1 (bz_n.mp h76)
                 · exact bz_0.mp h59 g1
               have hyy : nI y &&& b2 e = 0 := hb.mpr (bz_0.mp h99)
               rw [if_neg hzz, hcl, y2, if_pos hyy, if_neg (b2_n y y1 e he hyy)]
               exact ih (i + 1) (nI u) 3 _ FF AA _ _ (by omega) (zF_f hF rr) gg (qI_rd hI u1) hN ((rr.1 30 (by omega) (by omega)).trans h30) (Or.inr ⟨u, u1, rfl, rfl⟩))
            | (have hzz : ¬ bi1 (Pp &&& (co ^^^ -1)) i = 0 := fun g => by
                 rcases ba.mp g with g1 | g1
                 · exact bh.mp g1 (bz_n.mp h76)
                 · exact bz_0.mp h59 g1
               have hne : ¬ nI y = b2 e := fun g => h129 ((rest_b y y1 e he hbn).mpr g)
               rw [if_neg hzz, hcl, y2, if_neg hbn, if_neg hne]
               have hq2 := puQ_ok2 (s := nI c) (l := l) (t := t) (j := u) (i := i) (x := nI y &&& (b2 e ^^^ -1)) (qI_rd (s := nI c) (l := l) (t := t) (cell := nI i) hI u1) u1 (show i < c by omega) hN
               exact ih (i + 1) _ _ _ Fs As _ _ (by omega) (zF_t (zF_f hF rr) ⟨rs1, rs2⟩) gs1 hq2.1 hq2.2.1 gs2 hq2.2.2)
            | fail "none"
        · refine z_aload_n (q := 63) rfl rfl rfl ?_
          refine z_getR (q := 66) rfl rfl rfl (Mo_k w) (Mo_r0 w) ?_
          refine z_bipush (q := 68) (v := 7) rfl rfl rfl ?_
          refine z_iload_n (q := 69) rfl rfl rfl ?_
          refine z_iadd (q := 70) rfl rfl ?_
          rw [show (7 : Int32) + nI x = nI (7 + x) from nI_add 7 x]
          refine z_iald (q := 71) rfl rfl (Mo_a0 w) (by first | assumption | exact vp_in_nI (by omega) (by omega)) ?_
          rw [moF_a0]
          try rw [nI_clamp (by omega)]
          rw [m1, hP]
          refine z_iload (q := 73) rfl rfl rfl ?_
          refine z_cs2i (q := 76) rfl rfl rfl (s_Mo_has) ?_
          refine z_if_ne (q := 79) rfl rfl (fun h76 => ?_) (fun h76 => ?_)
          · refine z_aload_n (q := 83) rfl rfl rfl ?_
            refine z_iload_n (q := 84) rfl rfl rfl ?_
            refine z_iload (q := 86) rfl rfl rfl ?_
            refine z_cv2qi (q := 89) rfl rfl rfl (Mo_k w) (d_Mo_read w hq hI hC ((congrFun m1 0).trans hs) ((hF.1 15 (by omega) (by omega) (by omega)).trans hl) ((hF.1 16 (by omega) (by omega) (by omega)).trans ht) u1 (show i < c by omega)) (fun x9 M9 h9 => ?_)
            obtain ⟨rfl, FF, AA, rfl, rr, gg⟩ := h9
            rw [y2]
            refine z_istore (q := 91) (L2 := [_, _, _, _, _, _, _]) rfl rfl rfl rfl ?_
            refine z_iload (q := 93) rfl rfl rfl ?_
            refine z_iload_n (q := 94) rfl rfl rfl ?_
            refine z_iconst (q := 95) (v := 1) rfl rfl rfl ?_
            refine z_isub (q := 96) rfl rfl ?_
            refine z_cs2i (q := 99) rfl rfl rfl (s_Mo_has) ?_
            refine z_if_ne (q := 102) rfl rfl (fun h99 => ?_) (fun h99 => ?_)
            · refine z_iload (q := 107) rfl rfl rfl ?_
              refine z_iconst (q := 108) (v := 1) rfl rfl rfl ?_
              refine z_iload_n (q := 109) rfl rfl rfl ?_
              refine z_iconst (q := 110) (v := 1) rfl rfl rfl ?_
              refine z_isub (q := 111) rfl rfl ?_
              refine z_ishl (q := 112) rfl rfl ?_
              refine z_iconst (q := 113) (v := -1) rfl rfl rfl ?_
              refine z_ixor (q := 114) rfl rfl ?_
              refine z_iand (q := 115) rfl rfl ?_
              refine z_istore (q := 117) (L2 := [_, _, _, _, _, _, _]) rfl rfl rfl rfl ?_
              refine z_aload_n (q := 118) rfl rfl rfl ?_
              refine z_iload_n (q := 119) rfl rfl rfl ?_
              refine z_iload (q := 121) rfl rfl rfl ?_
              refine z_iload (q := 123) rfl rfl rfl ?_
              have hbn : ¬ nI y &&& b2 e = 0 := fun g => hb.mp g (bz_n.mp h99)
              obtain ⟨r8, r81, r82⟩ := rest_16 y y1 e he
              rw [sh_b e he, r82]
              have r30 : FF 30 = -1 := (rr.1 30 (by omega) (by omega)).trans h30
              have gs := d_Mo_setOr (sc := sc) (sa := sa) (d := d) (z := z) (i := i) w gg (qI_rd hI u1) hC ((congrFun (rr.2 1 (by omega)) 0).trans ((congrFun m1 0).trans hs)) ((rr.1 15 (by omega) (by omega)).trans ((hF.1 15 (by omega) (by omega) (by omega)).trans hl)) ((rr.1 16 (by omega) (by omega)).trans ((hF.1 16 (by omega) (by omega) (by omega)).trans ht)) r30 (show u < (rdQ (nI c) l t u (nI i) q).1 from u1) hN (by omega) r81
              refine z_cv3qi (q := 126) rfl rfl rfl (Mo_k w) (gs) (fun x9 M9 h9 => ?_)
              obtain ⟨rfl, Fs, As, rfl, rs1, rs2, gs1, gs2⟩ := h9
              rw [← r82] at gs1 gs2 ⊢
              refine z_istore_n (q := 127) (L2 := [_, _, _, _, _, _, _]) rfl rfl rfl rfl ?_
              refine z_iload (q := 129) rfl rfl rfl ?_
              refine z_if_ne (q := 132) rfl rfl (fun h129 => ?_) (fun h129 => ?_)
              · refine z_iinc (q := 137) (L2 := [_, _, _, _, _, _, _]) rfl rfl rfl rfl ?_
                refine z_goto rfl ?_
                rw [show nI i + Int32.ofInt 1 = nI (i + 1) from (nI_succ i).symm]
                have hu9 : ¬ nI u = -1 := nI_m1 (by omega)
                have hcl : (nI u).toNatClampNeg = u := nI_clamp (by omega)
                rw [show soF (nI c) l t (Pp &&& (co ^^^ -1)) (b2 e) (k + 1) i (nI u) 3 q = _ from if_neg hu9]
                first
                  | (have hzz : bi1 (Pp &&& (co ^^^ -1)) i = 0 := ba.mpr (Or.inr (bz_n.mp h59))
                     rw [if_pos hzz]
                     exact ih (i + 1) (nI u) 3 q F A _ _ (by omega) hF hq hI hN h30 (Or.inr ⟨u, u1, rfl, rfl⟩))
                  | (have hzz : bi1 (Pp &&& (co ^^^ -1)) i = 0 := ba.mpr (Or.inl (bh.mpr (bz_0.mp h76)))
                     rw [if_pos hzz]
                     exact ih (i + 1) (nI u) 3 q F A _ _ (by omega) hF hq hI hN h30 (Or.inr ⟨u, u1, rfl, rfl⟩))
                  | (have hzz : ¬ bi1 (Pp &&& (co ^^^ -1)) i = 0 := fun g => by
                       rcases ba.mp g with g1 | g1
                       · exact bh.mp g1 (bz_n.mp h76)
                       · exact bz_0.mp h59 g1
                     have hyy : nI y &&& b2 e = 0 := hb.mpr (bz_0.mp h99)
                     rw [if_neg hzz, hcl, y2, if_pos hyy, if_neg (b2_n y y1 e he hyy)]
                     exact ih (i + 1) (nI u) 3 _ FF AA _ _ (by omega) (zF_f hF rr) gg (qI_rd hI u1) hN ((rr.1 30 (by omega) (by omega)).trans h30) (Or.inr ⟨u, u1, rfl, rfl⟩))
                  | (have hzz : ¬ bi1 (Pp &&& (co ^^^ -1)) i = 0 := fun g => by
                       rcases ba.mp g with g1 | g1
                       · exact bh.mp g1 (bz_n.mp h76)
                       · exact bz_0.mp h59 g1
                     have hne : ¬ nI y = b2 e := fun g => h129 ((rest_b y y1 e he hbn).mpr g)
                     rw [if_neg hzz, hcl, y2, if_neg hbn, if_neg hne]
                     have hq2 := puQ_ok2 (s := nI c) (l := l) (t := t) (j := u) (i := i) (x := nI y &&& (b2 e ^^^ -1)) (qI_rd (s := nI c) (l := l) (t := t) (cell := nI i) hI u1) u1 (show i < c by omega) hN
                     exact ih (i + 1) _ _ _ Fs As _ _ (by omega) (zF_t (zF_f hF rr) ⟨rs1, rs2⟩) gs1 hq2.1 hq2.2.1 gs2 hq2.2.2)
                  | fail "none"
              · refine z_iconst (q := 133) (v := -1) rfl rfl rfl ?_
                refine z_ireti rfl rfl ?_
                have hu9 : ¬ nI u = -1 := nI_m1 (by omega)
                have hcl : (nI u).toNatClampNeg = u := nI_clamp (by omega)
                rw [show soF (nI c) l t (Pp &&& (co ^^^ -1)) (b2 e) (k + 1) i (nI u) 3 q = _ from if_neg hu9]
                have hzz : ¬ bi1 (Pp &&& (co ^^^ -1)) i = 0 := fun g => by
                  rcases ba.mp g with g1 | g1
                  · exact bh.mp g1 (bz_n.mp h76)
                  · exact bz_0.mp h59 g1
                have hne : nI y = b2 e := (rest_b y y1 e he hbn).mp h129
                rw [if_neg hzz, hcl, y2, if_neg hbn, if_pos hne]
                exact ⟨_, rfl, rfl, Fs, As, rfl, zF_t (zF_f hF rr) ⟨rs1, rs2⟩, gs1, gs2⟩
            · refine z_goto rfl ?_
              refine z_iinc (q := 137) (L2 := [_, _, _, _, _, _, _]) rfl rfl rfl rfl ?_
              refine z_goto rfl ?_
              rw [show nI i + Int32.ofInt 1 = nI (i + 1) from (nI_succ i).symm]
              have hu9 : ¬ nI u = -1 := nI_m1 (by omega)
              have hcl : (nI u).toNatClampNeg = u := nI_clamp (by omega)
              rw [show soF (nI c) l t (Pp &&& (co ^^^ -1)) (b2 e) (k + 1) i (nI u) 3 q = _ from if_neg hu9]
              first
                | (have hzz : bi1 (Pp &&& (co ^^^ -1)) i = 0 := ba.mpr (Or.inr (bz_n.mp h59))
                   rw [if_pos hzz]
                   exact ih (i + 1) (nI u) 3 q F A _ _ (by omega) hF hq hI hN h30 (Or.inr ⟨u, u1, rfl, rfl⟩))
                | (have hzz : bi1 (Pp &&& (co ^^^ -1)) i = 0 := ba.mpr (Or.inl (bh.mpr (bz_0.mp h76)))
                   rw [if_pos hzz]
                   exact ih (i + 1) (nI u) 3 q F A _ _ (by omega) hF hq hI hN h30 (Or.inr ⟨u, u1, rfl, rfl⟩))
                | (have hzz : ¬ bi1 (Pp &&& (co ^^^ -1)) i = 0 := fun g => by
                     rcases ba.mp g with g1 | g1
                     · exact bh.mp g1 (bz_n.mp h76)
                     · exact bz_0.mp h59 g1
                   have hyy : nI y &&& b2 e = 0 := hb.mpr (bz_0.mp h99)
                   rw [if_neg hzz, hcl, y2, if_pos hyy, if_neg (b2_n y y1 e he hyy)]
                   exact ih (i + 1) (nI u) 3 _ FF AA _ _ (by omega) (zF_f hF rr) gg (qI_rd hI u1) hN ((rr.1 30 (by omega) (by omega)).trans h30) (Or.inr ⟨u, u1, rfl, rfl⟩))
                | (have hzz : ¬ bi1 (Pp &&& (co ^^^ -1)) i = 0 := fun g => by
                     rcases ba.mp g with g1 | g1
                     · exact bh.mp g1 (bz_n.mp h76)
                     · exact bz_0.mp h59 g1
                   have hne : ¬ nI y = b2 e := fun g => h129 ((rest_b y y1 e he hbn).mpr g)
                   rw [if_neg hzz, hcl, y2, if_neg hbn, if_neg hne]
                   have hq2 := puQ_ok2 (s := nI c) (l := l) (t := t) (j := u) (i := i) (x := nI y &&& (b2 e ^^^ -1)) (qI_rd (s := nI c) (l := l) (t := t) (cell := nI i) hI u1) u1 (show i < c by omega) hN
                   exact ih (i + 1) _ _ _ Fs As _ _ (by omega) (zF_t (zF_f hF rr) ⟨rs1, rs2⟩) gs1 hq2.1 hq2.2.1 gs2 hq2.2.2)
                | fail "none"
          · refine z_goto rfl ?_
            refine z_iinc (q := 137) (L2 := [_, _, _, _, _, _, _]) rfl rfl rfl rfl ?_
            refine z_goto rfl ?_
            rw [show nI i + Int32.ofInt 1 = nI (i + 1) from (nI_succ i).symm]
            have hu9 : ¬ nI u = -1 := nI_m1 (by omega)
            have hcl : (nI u).toNatClampNeg = u := nI_clamp (by omega)
            rw [show soF (nI c) l t (Pp &&& (co ^^^ -1)) (b2 e) (k + 1) i (nI u) 3 q = _ from if_neg hu9]
            first
              | (have hzz : bi1 (Pp &&& (co ^^^ -1)) i = 0 := ba.mpr (Or.inr (bz_n.mp h59))
                 rw [if_pos hzz]
                 exact ih (i + 1) (nI u) 3 q F A _ _ (by omega) hF hq hI hN h30 (Or.inr ⟨u, u1, rfl, rfl⟩))
              | (have hzz : bi1 (Pp &&& (co ^^^ -1)) i = 0 := ba.mpr (Or.inl (bh.mpr (bz_0.mp h76)))
                 rw [if_pos hzz]
                 exact ih (i + 1) (nI u) 3 q F A _ _ (by omega) hF hq hI hN h30 (Or.inr ⟨u, u1, rfl, rfl⟩))
              | (have hzz : ¬ bi1 (Pp &&& (co ^^^ -1)) i = 0 := fun g => by
                   rcases ba.mp g with g1 | g1
                   · exact bh.mp g1 (bz_n.mp h76)
                   · exact bz_0.mp h59 g1
                 have hyy : nI y &&& b2 e = 0 := hb.mpr (bz_0.mp h99)
                 rw [if_neg hzz, hcl, y2, if_pos hyy, if_neg (b2_n y y1 e he hyy)]
                 exact ih (i + 1) (nI u) 3 _ FF AA _ _ (by omega) (zF_f hF rr) gg (qI_rd hI u1) hN ((rr.1 30 (by omega) (by omega)).trans h30) (Or.inr ⟨u, u1, rfl, rfl⟩))
              | (have hzz : ¬ bi1 (Pp &&& (co ^^^ -1)) i = 0 := fun g => by
                   rcases ba.mp g with g1 | g1
                   · exact bh.mp g1 (bz_n.mp h76)
                   · exact bz_0.mp h59 g1
                 have hne : ¬ nI y = b2 e := fun g => h129 ((rest_b y y1 e he hbn).mpr g)
                 rw [if_neg hzz, hcl, y2, if_neg hbn, if_neg hne]
                 have hq2 := puQ_ok2 (s := nI c) (l := l) (t := t) (j := u) (i := i) (x := nI y &&& (b2 e ^^^ -1)) (qI_rd (s := nI c) (l := l) (t := t) (cell := nI i) hI u1) u1 (show i < c by omega) hN
                 exact ih (i + 1) _ _ _ Fs As _ _ (by omega) (zF_t (zF_f hF rr) ⟨rs1, rs2⟩) gs1 hq2.1 hq2.2.1 gs2 hq2.2.2)
              | fail "none"
