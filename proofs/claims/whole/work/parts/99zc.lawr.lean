/-! THE LAW: its state between two calls. -/
def LW (S : sS) (m c : Nat) (ad : Nat → Nat → Nat) (σ : aS) : Prop := RelR S m σ ∧ RelC S ad σ ∧ GU S ad ∧ IW σ ∧ (sK S c = 2003 ∧ sL S c = 1)
theorem RelR_L {S T : sS} {m : Nat} {σ : aS} (h : RelR S m σ) (hf : Fr isL S T) : RelR T m σ := by
  obtain ⟨h1, h2, h3⟩ := h
  have nm : ¬ isL (sK S m) := by rw [h1]; unfold isL isC; omega
  obtain ⟨b1, b2, b3, b4, b5, b6, b7⟩ := hf m (by rw [h1]; decide) nm
  refine ⟨b1.trans h1, fun f hm => ?_, fun f => (b3 _).trans (h3 f)⟩
  obtain ⟨a, a1, a2, a3, a4⟩ := h2 f hm
  have k1 : 1000 ≤ mKd f ∧ mKd f < 2000 := by
    have : f < 57 := by
      unfold mArr at hm
      simp at hm
      omega
    unfold mKd
    split <;> omega
  obtain ⟨c1, c2, c3, c4, c5, c6, c7⟩ := hf a (by rw [a2]; omega) (by rw [a2]; unfold isL isC; omega)
  exact ⟨a, (b4 _).trans a1, c1.trans a2, c2.trans a3, c5.trans a4⟩
/-- the class's side behind the reference's call -/
theorem LH_M {S T U : sS} {ad : Nat → Nat → Nat} {σ' : aS} (h : LH S ad σ' T) (hf : Fr isM T U) : ∃ ad', ad' 8 0 = ad 8 0 ∧ RelC U ad' σ' ∧ GU U ad' := by
  obtain ⟨ad', h1, h2, h3, -⟩ := h
  refine ⟨ad', h1, RelC_fr h2 hf, fun j hj => ?_⟩
  have hk : sK T (ad' 27 j) = 181 := h2.1 27 j (by decide) (by decide) (by decide) hj
  have e := (hf (ad' 27 j) (by rw [hk]; decide) (by rw [hk]; unfold isM; omega)).2.2.2.2.1
  rw [e]
  exact h3 j hj
