/-! THE REFERENCE: visited, passes, pass. -/
noncomputable def vis1 (σ : aS) (k : Nat) : Nat → Nat → Int32 := up2 σ.1 13 k 0
noncomputable def vis2 (σ : aS) (k : Nat) : Nat → Nat → Int32 := up2 (vis1 σ k) 14 k (vis1 σ k 14 k + if σ.1 13 k = 0 then 0 else 1)
noncomputable def vis3 (σ : aS) (k : Nat) : Nat → Nat → Int32 := up2 (vis2 σ k) 15 k (vis2 σ k 15 k + if σ.1 13 k = 0 then 1 else 0)
noncomputable def vis4 (σ : aS) (k : Nat) : Nat → Nat → Int32 := up2 (vis3 σ k) 16 k (if σ.1 13 k = 0 then 0 else vis3 σ k 16 k + 1)
noncomputable def vis5 (σ : aS) (k : Nat) : Nat → Nat → Int32 := up2 (vis4 σ k) 17 k (if σ.1 13 k = 0 then vis4 σ k 17 k + 1 else 0)
def visW (σ : aS) (k : Nat) : Prop := 3 ≤ vis5 σ k 17 k ∨ (¬ vis5 σ k 18 k = 0 ∧ ¬ 3 ≤ vis5 σ k 16 k)
noncomputable def oVisited (σ : aS) (k : Nat) : aS := (up2 (vis5 σ k) 18 k (pI9 (visW σ k)), σ.2)
theorem IC_vis {σ : aS} {k : Nat} (h : IC σ) : IC (oVisited σ k) := by
  unfold oVisited vis5 vis4 vis3 vis2 vis1
  exact IC_A (IC_A (IC_A (IC_A (IC_A (IC_A h (by decide) (by decide)) (by decide) (by decide)) (by decide) (by decide)) (by decide) (by decide)) (by decide) (by decide)) (by decide) (by decide)
theorem IS_A {A : Nat → Nat → Int32} {B : Nat → Int32} {f j : Nat} {v : Int32} (h : IS (A, B)) (h1 : f ≠ 44) (h2 : f ≠ 45) : IS (up2 A f j v, B) := by
  intro i hi
  have e1 : up2 A f j v 44 i = A 44 i := up2_n1 (fun q => h1 q.symm)
  have e2 : up2 A f j v 45 i = A 45 i := up2_n1 (fun q => h2 q.symm)
  have := h i hi
  simp only [e1, e2]
  exact this
theorem IS_ends {σ : aS} {k : Nat} (h : IS σ) : IS (oEnds σ k) := by
  unfold oEnds
  split
  · exact h
  · exact IS_A (IS_A h (by decide) (by decide)) (by decide) (by decide)
theorem IC_0 {A : Nat → Nat → Int32} {B : Nat → Int32} (h : IC (A, B)) (hd : cN (A, B) 0 < 12000) : IC (A, up1 B 0 (B 0 + 1)) := by
  obtain ⟨a1, a2, a3, a4, a5, a6, a7, a8⟩ := h
  have e : B 0 + 1 = nI (cN (A, B) 0 + 1) := by
    have q : B 0 = nI (cN (A, B) 0) := a1.1
    rw [q, nI_1]
  have e2 : cN (A, up1 B 0 (B 0 + 1)) 0 = cN (A, B) 0 + 1 := by
    show (up1 B 0 (B 0 + 1) 0).toNatClampNeg = _
    rw [up1_s, e, nI_clamp (by omega)]
  exact ⟨⟨by rw [e2]; show up1 B 0 (B 0 + 1) 0 = _; rw [up1_s, e], by omega⟩, a2, a3, a4, a5, a6, a7, a8⟩
noncomputable def earnF (σ : aS) : Nat → Nat → Nat → Int32
  | 0 => σ.1
  | j + 1 => iteP (earnF σ j 10 j = -1) (earnF σ j) (up2 (earnF σ j) 24 (nx (mHomeOf (earnF σ j, σ.2) j)) (earnF σ j 24 (nx (mHomeOf (earnF σ j, σ.2) j)) + (10 + mYears (earnF σ j, σ.2) j (σ.2 0) + 5 * ones4 (earnF σ j 4 j))))
theorem earnF_t {σ : aS} {j : Nat} (h : earnF σ j 10 j = -1) : earnF σ (j + 1) = earnF σ j := iteP_t h
theorem earnF_f {σ : aS} {j : Nat} (h : ¬ earnF σ j 10 j = -1) : earnF σ (j + 1) = up2 (earnF σ j) 24 (nx (mHomeOf (earnF σ j, σ.2) j)) (earnF σ j 24 (nx (mHomeOf (earnF σ j, σ.2) j)) + (10 + mYears (earnF σ j, σ.2) j (σ.2 0) + 5 * ones4 (earnF σ j 4 j))) := iteP_f h
theorem IC_earn {σ : aS} (h : IC σ) : ∀ j, IC (earnF σ j, σ.2)
  | 0 => h
  | j + 1 => by
    by_cases e : earnF σ j 10 j = -1
    · rw [earnF_t e]; exact IC_earn h j
    · rw [earnF_f e]; exact IC_A (IC_earn h j) (by decide) (by decide)
theorem IS_earn {σ : aS} (h : IS σ) : ∀ j, IS (earnF σ j, σ.2)
  | 0 => h
  | j + 1 => by
    by_cases e : earnF σ j 10 j = -1
    · rw [earnF_t e]; exact IS_earn h j
    · rw [earnF_f e]; exact IS_A (IS_earn h j) (by decide) (by decide)
theorem mHome_ix {σ : aS} (hI : IC σ) (hS : IS σ) {j : Nat} (hj : j < cN σ 1) (e : ¬ σ.1 10 j = -1) : ∃ h, h < cN σ 20 ∧ mHomeOf σ j = nI h := by
  rcases hI.2.2.2.2.2.2.2 j hj with q | ⟨s, hs, q⟩
  · exact absurd q e
  · obtain ⟨-, h, hh, q2⟩ := hS s hs
    refine ⟨h, hh, ?_⟩
    unfold mHomeOf
    rw [if_neg e, q, nI_clamp (by have := hI.2.2.2.2.2.1.2; omega), q2]
noncomputable def dStep (τ : aS) (j : Nat) : aS :=
  iteP (τ.1 10 j = -1) τ (iteP (¬ mKindOn τ (nI j) (τ.2 0) = 0 ∧ ¬ mKindOn τ (nI j) (τ.2 0) = 2) (oEnds τ j)
    (iteP (¬ τ.1 12 j ≤ 0 ∧ (τ.2 0 - τ.1 46 (nx (τ.1 10 j))) - (τ.2 0 - τ.1 46 (nx (τ.1 10 j))) / τ.1 12 j * τ.1 12 j = 0) (oVisited τ j) τ))
theorem dStep_2 {τ : aS} {j : Nat} : (dStep τ j).2 = τ.2 := by
  by_cases h1 : τ.1 10 j = -1
  · rw [dStep, iteP_t h1]
  · rw [dStep, iteP_f h1]
    by_cases h2 : ¬ mKindOn τ (nI j) (τ.2 0) = 0 ∧ ¬ mKindOn τ (nI j) (τ.2 0) = 2
    · rw [iteP_t h2, oEnds_2]
    · rw [iteP_f h2]
      by_cases h3 : ¬ τ.1 12 j ≤ 0 ∧ (τ.2 0 - τ.1 46 (nx (τ.1 10 j))) - (τ.2 0 - τ.1 46 (nx (τ.1 10 j))) / τ.1 12 j * τ.1 12 j = 0
      · rw [iteP_t h3]; rfl
      · rw [iteP_f h3]
noncomputable def dRun : Nat → Nat → aS → aS
  | 0, _, τ => τ
  | t + 1, j, τ => dRun t (j + 1) (dStep τ j)
theorem dRun_2 : ∀ (t j : Nat) (τ : aS), (dRun t j τ).2 = τ.2
  | 0, _, _ => rfl
  | t + 1, j, τ => (dRun_2 t (j + 1) (dStep τ j)).trans dStep_2
noncomputable def oDay (σ : aS) : aS := dRun (cN σ 1) 0 (earnF σ (cN σ 1), up1 σ.2 0 (σ.2 0 + 1))
noncomputable def runDays : Nat → aS → aS
  | 0, τ => τ
  | c + 1, τ => runDays c (oDay τ)
noncomputable def tPass (σ : aS) (v : Int32) : Int32 := gT (bI (inP v 1 400)) (pI9 (σ.2 0 + v ≤ 12000)) 1
noncomputable def oPass (σ : aS) (v : Int32) : Int32 × aS := if tPass σ v = 0 then ((runDays (nx v) (sT σ 0)).2 0, runDays (nx v) (sT σ 0)) else (0, sT σ (tPass σ v))
