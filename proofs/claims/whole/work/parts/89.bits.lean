-- the pairs' bits
theorem R_hb {B PP : Nat → Int32} {c : Nat} (hC : c ≤ 12) (hP : ∀ i, i < c → B (7 + i) = PP i) : ∀ i j, i < c → j < c → ((B (7 + i) >>> (nI j &&& 31)) &&& 1 = 1 ↔ prB PP (nI i) (nI j) = true) := by
  intro i j hi hj
  unfold prB
  rw [decide_eq_true_iff, nI_clamp (by omega), hP i hi]
  have h := bi_h (p := PP i) j (by omega)
  exact ⟨fun a b => h.mp b a, fun a => Decidable.byContradiction (fun b => a (h.mpr b))⟩
