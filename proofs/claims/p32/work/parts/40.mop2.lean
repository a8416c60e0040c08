/-! THE REFERENCE'S CALLS AS FUNCTIONS, on: reports, orders, wishes, reasons. -/
theorem ix_of {x : Int32} {n : Nat} (hn : n < 2 ^ 30) (h : 0 ≤ x ∧ x ≤ nI n - 1) : ∃ k, k < n ∧ x = nI k := by
  obtain ⟨j, hj, rfl⟩ := nI_of (Int32.not_lt.mpr h.1)
  have h2 := h.2
  rw [Int32.le_iff_toInt_le, show (1 : Int32) = nI 1 from rfl, pk_sub_toInt hn (by decide), nI_toInt hj] at h2
  exact ⟨j, by omega, rfl⟩
theorem of_ix {n k : Nat} (hn : n < 2 ^ 30) (h : k < n) : 0 ≤ nI k ∧ nI k ≤ nI n - 1 := by
  refine ⟨nI_pos' (by omega), ?_⟩
  rw [Int32.le_iff_toInt_le, show (1 : Int32) = nI 1 from rfl, pk_sub_toInt hn (by decide), nI_toInt (by omega)]
  omega
abbrev chP (σ : aS) (x : Int32) : Prop := 0 ≤ x ∧ x ≤ σ.2 1 - 1
abbrev hoP (σ : aS) (x : Int32) : Prop := 0 ≤ x ∧ x ≤ σ.2 20 - 1
theorem ch_ix {σ : aS} (hI : IC σ) {x : Int32} (h : chP σ x) : ∃ k, k < cN σ 1 ∧ x = nI k := by
  have h' : 0 ≤ x ∧ x ≤ nI (cN σ 1) - 1 := by rw [← hI.2.1.1]; exact h
  exact ix_of (by have := hI.2.1.2; omega) h'
theorem ho_ix {σ : aS} (hI : IC σ) {x : Int32} (h : hoP σ x) : ∃ k, k < cN σ 20 ∧ x = nI k := by
  have h' : 0 ≤ x ∧ x ≤ nI (cN σ 20) - 1 := by rw [← hI.2.2.1.1]; exact h
  exact ix_of (by have := hI.2.2.1.2; omega) h'
abbrev nx (x : Int32) : Nat := x.toNatClampNeg
noncomputable def tReport (σ : aS) (x s w : Int32) : Int32 := gT (bI (chP σ x)) (pI9 (inP s 0 9 ∧ inP w 1 9)) (pI9 (chP σ x ∧ σ.1 34 (nx x) < 30))
noncomputable def sReport (σ : aS) (x s w : Int32) : aS := (up2 (up2 (up2 (up2 σ.1 35 (30 * nx x + rN σ (nx x)) s) 36 (30 * nx x + rN σ (nx x)) w) 37 (30 * nx x + rN σ (nx x)) (σ.2 0)) 34 (nx x) (σ.1 34 (nx x) + 1), up1 σ.2 56 0)
noncomputable def oReport (σ : aS) (x s w : Int32) : Int32 × aS := if tReport σ x s w = 0 then (mRisk (sReport σ x s w) (nx x), sReport σ x s w) else (0, sT σ (tReport σ x s w))
noncomputable def tC (σ : aS) (x : Int32) : Int32 := gT (bI (chP σ x)) 1 1
noncomputable def oSee (σ : aS) (x : Int32) : Int32 × aS := if tC σ x = 0 then (pI9 (¬ mSeenBy (sT σ 0) (nx x) = -1 ∧ mSeenBy (sT σ 0) (nx x) < σ.2 0), (up2 σ.1 9 (nx x) (σ.2 0), up1 σ.2 56 0)) else (0, sT σ (tC σ x))
noncomputable def oRisk (σ : aS) (x : Int32) : Int32 × aS := if tC σ x = 0 then (mRisk (sT σ 0) (nx x), sT σ 0) else (0, sT σ (tC σ x))
noncomputable def oSeeBy (σ : aS) (x : Int32) : Int32 × aS := if tC σ x = 0 then (mSeenBy (sT σ 0) (nx x), sT σ 0) else (0, sT σ (tC σ x))
noncomputable def tOrder (σ : aS) (x kd fr dy : Int32) : Int32 := gT (bI (chP σ x)) (pI9 (inP kd 0 2 ∧ inP fr (σ.2 0) 20000 ∧ inP dy 1 7000)) (bI (σ.2 38 < 60))
noncomputable def oOrder (σ : aS) (x kd fr dy : Int32) : Int32 × aS := if tOrder σ x kd fr dy = 0 then
  (σ.2 38 + 1 - 1, (up2 (up2 (up2 (up2 σ.1 39 (cN σ 38) x) 40 (cN σ 38) kd) 41 (cN σ 38) fr) 42 (cN σ 38) (fr + dy - 1), up1 (up1 σ.2 56 0) 38 (σ.2 38 + 1))) else (0, sT σ (tOrder σ x kd fr dy))
noncomputable def tCounts (σ : aS) (x on : Int32) : Int32 := gT (bI (chP σ x)) (bI (inP on 0 30000)) 1
noncomputable def oCounts (σ : aS) (x on : Int32) : Int32 × aS := if tCounts σ x on = 0 then (mCounts (sT σ 0) x on, sT σ 0) else (0, sT σ (tCounts σ x on))
noncomputable def tCH (σ : aS) (x h : Int32) : Int32 := gT (pI9 (chP σ x ∧ hoP σ h)) 1 1
noncomputable def oWish (σ : aS) (x h b : Int32) : aS := if tCH σ x h = 0 then (up2 σ.1 19 (10 * nx x + nx h) (if ¬ b = 0 then 1 else if 12 ≤ mYears (sT σ 0) (nx x) (σ.2 0) then 3 else 2), up1 σ.2 56 0) else sT σ (tCH σ x h)
noncomputable def oWhy (σ : aS) (x h : Int32) : Int32 × aS := if tCH σ x h = 0 then (mWhyNot (sT σ 0) (nx x) (nx h), sT σ 0) else (0, sT σ (tCH σ x h))
noncomputable def oWorth (σ : aS) (x h : Int32) : Int32 × aS := if tCH σ x h = 0 then (mWorth (sT σ 0) (nx x) (nx h), sT σ 0) else (0, sT σ (tCH σ x h))
def mBestF (σ : aS) (k : Nat) : Nat → Int32
  | 0 => -1
  | j + 1 => if mWhyNot σ k j = 0 ∧ (mBestF σ k j = -1 ∨ mWorth σ k (nx (mBestF σ k j)) < mWorth σ k j) then nI j else mBestF σ k j
noncomputable def oBest (σ : aS) (x : Int32) : Int32 × aS := if tC σ x = 0 then (mBestF (sT σ 0) (nx x) (cN σ 20), sT σ 0) else (0, sT σ (tC σ x))
theorem gT_x {x y z : Int32} (h : gT x y z = 0) : ¬ x = 0 ∧ ¬ y = 0 ∧ ¬ z = 0 := by
  unfold gT at h
  split at h
  · exact absurd h (by decide)
  · split at h
    · exact absurd h (by decide)
    · split at h
      · exact absurd h (by decide)
      · exact ⟨‹_›, ‹_›, ‹_›⟩

