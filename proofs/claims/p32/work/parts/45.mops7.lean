/-! THE REFERENCE: ends, begins, place, childIs, stay, wasAllowed, file. -/
/-- the rows of stays are of children and homes -/
def IS (σ : aS) : Prop := ∀ j, j < cN σ 43 → (∃ k, k < cN σ 1 ∧ σ.1 44 j = nI k) ∧ ∃ h, h < cN σ 20 ∧ σ.1 45 j = nI h
noncomputable def oEnds (σ : aS) (k : Nat) : aS := if σ.1 10 k = -1 then σ else (up2 (up2 σ.1 47 (nx (σ.1 10 k)) (σ.2 0)) 10 k (-1), σ.2)
theorem oEnds_2 {σ : aS} {k : Nat} : (oEnds σ k).2 = σ.2 := by
  unfold oEnds
  split <;> rfl
theorem IC_10 {A : Nat → Nat → Int32} {B : Nat → Int32} {k : Nat} (h : IC (A, B)) : IC (up2 A 10 k (-1), B) := by
  obtain ⟨a1, a2, a3, a4, a5, a6, a7, a8⟩ := h
  refine ⟨a1, a2, a3, a4, a5, a6, fun i hi => ?_, fun i hi => ?_⟩
  · have e : ∀ i, up2 A 10 k (-1) 34 i = A 34 i := fun i => up2_n1 (by decide)
    have := a7 i hi
    simp only [rN, e] at this ⊢
    exact this
  · by_cases q : i = k
    · subst q
      exact Or.inl up2_s
    · have e : up2 A 10 k (-1) 10 i = A 10 i := up2_n2 q
      have := a8 i hi
      simp only [e]
      exact this
theorem IC_ends {σ : aS} {k : Nat} (h : IC σ) : IC (oEnds σ k) := by
  unfold oEnds
  split
  · exact h
  · exact IC_10 (IC_A h (by decide) (by decide))
noncomputable def oBeg1 (σ : aS) (k n : Nat) (h : Int32) : aS := (up2 (up2 (up2 (up2 (oEnds σ k).1 44 n (nI k)) 45 n h) 46 n (σ.2 0)) 47 n (-1), σ.2)
theorem IC_beg1 {σ : aS} {k n : Nat} {h : Int32} (hI : IC σ) : IC (oBeg1 σ k n h) := by
  have q : IC ((oEnds σ k).1, σ.2) := by
    have := IC_ends (k := k) hI
    rw [show oEnds σ k = ((oEnds σ k).1, (oEnds σ k).2) from rfl, oEnds_2] at this
    exact this
  exact IC_A (IC_A (IC_A (IC_A q (by decide) (by decide)) (by decide) (by decide)) (by decide) (by decide)) (by decide) (by decide)
noncomputable def oBegins (σ : aS) (k : Nat) (h : Int32) : Int32 × aS := (σ.2 43 + 1 - 1,
  (up2 (up2 (up2 (up2 (oBeg1 σ k (cN σ 43) h).1 48 (cN σ 43) (mCounts (oBeg1 σ k (cN σ 43) h) (nI k) (σ.2 0))) 10 k (nI (cN σ 43))) 11 k ((oEnds σ k).1 11 k + 1)) 13 k 0, up1 σ.2 43 (σ.2 43 + 1)))
noncomputable def tPlace (σ : aS) (x h : Int32) : Int32 := gT (pI9 (chP σ x ∧ hoP σ h)) (pI9 ((chP σ x ∧ hoP σ h) ∧ ¬ mHomeOf σ (nx x) = h ∧ mWhyNot σ (nx x) (nx h) = 0 ∧ σ.2 43 < 100)) 1
noncomputable def oPlace (σ : aS) (x h : Int32) : Int32 × aS := if tPlace σ x h = 0 then oBegins (sT σ 0) (nx x) h else (0, sT σ (tPlace σ x h))
def mIs (σ : aS) (k : Nat) (w : Int32) : Int32 := if w = 0 then mHomeOf σ k else if w = 1 then mYears σ k (σ.2 0) else if w = 2 then σ.1 11 k else if w = 3 then σ.1 14 k else if w = 4 then σ.1 15 k else if w = 5 then (if σ.1 18 k = 0 then 0 else 1) else σ.1 8 k
noncomputable def tIs (σ : aS) (x w : Int32) : Int32 := gT (bI (chP σ x)) (bI (inP w 0 6)) 1
noncomputable def oIs (σ : aS) (x w : Int32) : Int32 × aS := if tIs σ x w = 0 then (mIs (sT σ 0) (nx x) w, sT σ 0) else (0, sT σ (tIs σ x w))
abbrev stP (σ : aS) (x : Int32) : Prop := 0 ≤ x ∧ x ≤ σ.2 43 - 1
theorem st_ix {σ : aS} (hI : IC σ) {x : Int32} (h : stP σ x) : ∃ k, k < cN σ 43 ∧ x = nI k := by
  have h' : 0 ≤ x ∧ x ≤ nI (cN σ 43) - 1 := by rw [← hI.2.2.2.2.2.1.1]; exact h
  exact ix_of (by have := hI.2.2.2.2.2.1.2; omega) h'
def mStay (σ : aS) (i : Nat) (w : Int32) : Int32 := if w = 0 then σ.1 44 i else if w = 1 then σ.1 45 i else if w = 2 then σ.1 46 i else if w = 3 then σ.1 47 i else σ.1 48 i
noncomputable def tStay (σ : aS) (x w : Int32) : Int32 := gT (bI (stP σ x)) (bI (inP w 0 4)) 1
noncomputable def oStay (σ : aS) (x w : Int32) : Int32 × aS := if tStay σ x w = 0 then (mStay σ (nx x) w, sT σ 0) else (0, sT σ (tStay σ x w))
noncomputable def tSt (σ : aS) (x : Int32) : Int32 := gT (bI (stP σ x)) 1 1
noncomputable def oWas (σ : aS) (x : Int32) : Int32 × aS := if tSt σ x = 0 then (pI9 (mWhyOn (sT σ 0) (nx (σ.1 44 (nx x))) (σ.1 45 (nx x)) (σ.1 46 (nx x)) = 0), sT σ 0) else (0, sT σ (tSt σ x))
def mFileF (σ : aS) (x : Int32) : Nat → Int32 → Nat → Int32
  | 0, _, _ => -1
  | t + 1, left, i => if σ.1 44 i = x then (if left = 0 then (if σ.1 26 (nx (σ.1 45 i)) = 0 then σ.1 45 i else -2) else mFileF σ x t (left + -1) (i + 1)) else mFileF σ x t left (i + 1)
theorem mFileF_s {σ : aS} {x left : Int32} {t i : Nat} : mFileF σ x (t + 1) left i = if σ.1 44 i = x then (if left = 0 then (if σ.1 26 (nx (σ.1 45 i)) = 0 then σ.1 45 i else -2) else mFileF σ x t (left + -1) (i + 1)) else mFileF σ x t left (i + 1) := rfl
noncomputable def tFile (σ : aS) (x w : Int32) : Int32 := gT (pI9 (chP σ x ∧ 0 ≤ w)) (pI9 ((chP σ x ∧ 0 ≤ w) ∧ 18 ≤ mYears σ (nx x) (σ.2 0))) 1
noncomputable def oFile (σ : aS) (x w : Int32) : Int32 × aS := if tFile σ x w = 0 then (mFileF σ x (cN σ 43) w 0, sT σ 0) else (0, sT σ (tFile σ x w))
