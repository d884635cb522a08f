-- a pair's line in the two readers
theorem R_pr {sg : Nat → Int32} {t : Nat} {s : tS} {e : rS} {c : Nat} {B PP : Nat → Int32} (hc0 : 0 < c) (hC : c ≤ 12) (hb : ∀ i j, i < c → j < c → ((B (7 + i) >>> (nI j &&& 31)) &&& 1 = 1 ↔ prB PP (nI i) (nI j) = true)) (h : tR s e) : tR (w3 sg t (nI c) PP s) (rNu sg t (rNe (rNu sg t e 0 (nI c - 1)).2 (bz (rpX c B (rNu sg t e 0 (nI c - 1)).1 (rNu sg t e 0 (nI c - 1)).2.2.2.2.1))) 0 (nI c - 1)).2 ∧ ((w3 sg t (nI c) PP s).2.2.2.2.1 = 0 → (rNu sg t (rNe (rNu sg t e 0 (nI c - 1)).2 (bz (rpX c B (rNu sg t e 0 (nI c - 1)).1 (rNu sg t e 0 (nI c - 1)).2.2.2.2.1))) 0 (nI c - 1)).1 = (w2 sg t (nI c) s).1) ∧ ((w1 sg t (nI c) s).2.2.2.2.2.1 = 0 → (rNu sg t e 0 (nI c - 1)).1 = (w1 sg t (nI c) s).1) := by
  have a1 : tR (w1 sg t (nI c) s).2 (rNu sg t e 0 (nI c - 1)).2 ∧ ((w1 sg t (nI c) s).2.2.2.2.2.1 = 0 → (rNu sg t e 0 (nI c - 1)).1 = (w1 sg t (nI c) s).1) := by
    unfold w1
    exact R_nu h (nI_p1 hc0 (by omega))
  have r : ∀ x, x = bz (rpX c B (rNu sg t e 0 (nI c - 1)).1 (rNu sg t e 0 (nI c - 1)).2.2.2.2.1) → tR (w3 sg t (nI c) PP s) (rNu sg t (rNe (rNu sg t e 0 (nI c - 1)).2 x) 0 (nI c - 1)).2 ∧ ((w3 sg t (nI c) PP s).2.2.2.2.1 = 0 → (rNu sg t (rNe (rNu sg t e 0 (nI c - 1)).2 x) 0 (nI c - 1)).1 = (w2 sg t (nI c) s).1) := by
    intro x hx
    unfold w3 w2
    refine R_ne a1.1 (nI_p1 hc0 (by omega)) (fun k1 k2 k3 k4 k5 k6 => ?_)
    have g := a1.2 k1
    rw [hx, bz_0, g, k5, k6]
    have k8 := (le_pr hc0 (by omega)).mp ⟨k3, k4⟩
    obtain ⟨j, hj, ej⟩ := vI_nat (by omega) k8
    obtain ⟨i, hi, ei⟩ : ∃ i, i < c ∧ (w1 sg t (nI c) s).1 = nI i := by
      unfold w1 at k1 ⊢
      exact tnS_nat hc0 (by omega) k1
    rw [ej] at k8 ⊢
    rw [ei]
    have f := hb i j hi hj
    constructor
    · intro a
      by_cases e1 : nI j = nI i
      · exact Or.inl e1.symm
      · exact Or.inr (f.mp (Decidable.byContradiction (fun b => a (Or.inr ⟨e1, by rw [nI_clamp (by omega)]; exact b⟩))))
    · intro a b
      exact b.elim (fun b1 => b1 k8) (fun b1 => a.elim (fun a1 => b1.1 a1.symm) (fun a1 => b1.2 (by rw [nI_clamp (by omega)]; exact f.mpr a1)))
  have r2 := r _ rfl
  exact ⟨r2.1, r2.2, a1.2⟩
