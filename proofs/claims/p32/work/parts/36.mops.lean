/-! THE REFERENCE: what is told of homes and children. -/
theorem tTells_f {σ : aS} {h s : Int32} {n : Nat} (q : ¬ (σ.1 28 n = h ∧ σ.1 29 n = s ∧ σ.1 30 n = σ.2 0)) : tTells σ h s (n + 1) = tTells σ h s n := if_neg q
theorem tTells_t {σ : aS} {h s : Int32} {n : Nat} (q : σ.1 28 n = h ∧ σ.1 29 n = s ∧ σ.1 30 n = σ.2 0) : tTells σ h s (n + 1) = nI n := if_pos q
