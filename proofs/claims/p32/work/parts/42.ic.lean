/-! THE RANGES ARE KEPT. -/
theorem IC_A {A : Nat → Nat → Int32} {B : Nat → Int32} {f j : Nat} {v : Int32} (h : IC (A, B)) (h1 : f ≠ 34) (h2 : f ≠ 10) : IC (up2 A f j v, B) := by
  obtain ⟨a1, a2, a3, a4, a5, a6, a7, a8⟩ := h
  refine ⟨a1, a2, a3, a4, a5, a6, fun k hk => ?_, fun k hk => ?_⟩
  · have e : ∀ k, up2 A f j v 34 k = A 34 k := fun k => up2_n1 (fun q => h1 q.symm)
    have := a7 k hk
    simp only [rN, e] at this ⊢
    exact this
  · have e : ∀ k, up2 A f j v 10 k = A 10 k := fun k => up2_n1 (fun q => h2 q.symm)
    have := a8 k hk
    simp only [e] at this ⊢
    exact this
theorem IC_34 {A : Nat → Nat → Int32} {B : Nat → Int32} {k : Nat} (h : IC (A, B)) (hk : k < 16) (hr : rN (A, B) k < 30) : IC (up2 A 34 k (A 34 k + 1), B) := by
  obtain ⟨a1, a2, a3, a4, a5, a6, a7, a8⟩ := h
  refine ⟨a1, a2, a3, a4, a5, a6, fun i hi => ?_, fun i hi => ?_⟩
  · by_cases e : i = k
    · subst e
      have e1 : up2 A 34 i (A 34 i + 1) 34 i = A 34 i + 1 := up2_s
      have h2 := (a7 i hi).1
      have h3 : A 34 i = nI (rN (A, B) i) := h2
      have e2 : A 34 i + 1 = nI (rN (A, B) i + 1) := by rw [h3, nI_1]
      have e3 : rN (up2 A 34 i (A 34 i + 1), B) i = rN (A, B) i + 1 := by
        show (up2 A 34 i (A 34 i + 1) 34 i).toNatClampNeg = _
        rw [e1, e2, nI_clamp (by omega)]
      refine ⟨?_, by omega⟩
      show up2 A 34 i (A 34 i + 1) 34 i = _
      rw [e3, e1, e2]
    · have e1 : up2 A 34 k (A 34 k + 1) 34 i = A 34 i := up2_n2 e
      have := a7 i hi
      simp only [rN, e1] at this ⊢
      exact this
  · have e : ∀ i, up2 A 34 k (A 34 k + 1) 10 i = A 10 i := fun i => up2_n1 (by decide)
    have := a8 i hi
    simp only [e] at this ⊢
    exact this
theorem mBestF_t {σ : aS} {k n : Nat} (q : mWhyNot σ k n = 0 ∧ (mBestF σ k n = -1 ∨ mWorth σ k (nx (mBestF σ k n)) < mWorth σ k n)) : mBestF σ k (n + 1) = nI n := if_pos q
theorem mBestF_f {σ : aS} {k n : Nat} (q : ¬ (mWhyNot σ k n = 0 ∧ (mBestF σ k n = -1 ∨ mWorth σ k (nx (mBestF σ k n)) < mWorth σ k n))) : mBestF σ k (n + 1) = mBestF σ k n := if_neg q

