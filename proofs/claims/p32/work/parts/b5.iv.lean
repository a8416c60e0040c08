/-! WHAT HOLDS BETWEEN CALLS, more: the days between visits; what days leave as it was. -/
def IV (σ : aS) : Prop := ∀ k, k < cN σ 1 → 0 ≤ σ.1 12 k ∧ σ.1 12 k < 31
def IYV (σ : aS) : Prop := IY σ ∧ IV σ
theorem IV_of {σ σ' : aS} (h : IV σ) (e : σ'.1 12 = σ.1 12) (n1 : cN σ' 1 = cN σ 1) : IV σ' := fun k hk => by
  rw [e]
  exact h k (n1 ▸ hk)
theorem IV_A {A : Nat → Nat → Int32} {B : Nat → Int32} {f j : Nat} {v : Int32} (h : IV (A, B)) (hf : f ≠ 12) : IV (up2 A f j v, B) := IV_of (σ := (A, B)) (σ' := (up2 A f j v, B)) h (up2_f fun e => hf e.symm) rfl
theorem IV_tells {σ : aS} {h s a b u : Int32} (hV : IV σ) : IV (oTells σ h s a b u) := by
  refine IV_of hV ?_ rfl
  unfold oTells
  dsimp only
  rw [up2_f (by decide), up2_f (by decide), up2_f (by decide), up2_f (by decide), up2_f (by decide), up2_f (by decide)]
theorem IYV_approve {σ : aS} {h a b u : Int32} (hY : IYV σ) : IYV (oApprove σ h a b u) := ⟨IY_approve hY.1, by
  unfold oApprove
  split
  · exact IV_tells (σ := sT σ 0) hY.2
  · exact hY.2⟩
theorem IYV_train {σ : aS} {h a u : Int32} (hY : IYV σ) : IYV (oTrain σ h a u) := ⟨IY_train hY.1, by
  unfold oTrain
  split
  · exact IV_tells (σ := sT σ 0) hY.2
  · exact hY.2⟩
theorem IYV_see {σ : aS} {x : Int32} (hY : IYV σ) : IYV (oSee σ x).2 := ⟨IY_see hY.1, by
  unfold oSee
  split
  · exact IV_A (A := σ.1) (B := σ.2) hY.2 (by decide)
  · exact hY.2⟩
theorem IYV_wish {σ : aS} {x h b : Int32} (hY : IYV σ) : IYV (oWish σ x h b) := ⟨IY_wish hY.1, by
  unfold oWish
  split
  · exact IV_A (A := σ.1) (B := σ.2) hY.2 (by decide)
  · exact hY.2⟩
theorem IYV_came {σ : aS} {x : Int32} (hY : IYV σ) : IYV (oCame σ x) := ⟨IY_came hY.1, by
  unfold oCame
  split
  · exact IV_A (A := σ.1) (B := σ.2) hY.2 (by decide)
  · exact hY.2⟩
theorem IYV_pay {σ : aS} {x v : Int32} (hY : IYV σ) : IYV (oPay σ x v).2 := ⟨IY_pay hY.1, by
  unfold oPay
  split
  · exact IV_A (A := σ.1) (B := σ.2) hY.2 (by decide)
  · exact hY.2⟩
theorem IYV_hand {σ : aS} {x w : Int32} (hY : IYV σ) : IYV (oHand σ x w).2 := ⟨IY_hand hY.1, by
  unfold oHand
  split
  · exact IV_A (A := σ.1) (B := σ.2) hY.2 (by decide)
  · exact hY.2⟩
theorem IYV_visits {σ : aS} {x v : Int32} (hY : IYV σ) : IYV (oVisits σ x v).2 := ⟨IY_visits hY.1, by
  unfold oVisits
  by_cases ht : tVisits σ x v = 0
  · rw [if_pos ht]
    have hv := bI_ne.mp (gT_x ht).2.1
    intro k hk
    show 0 ≤ up2 σ.1 12 (nx x) v 12 k ∧ up2 σ.1 12 (nx x) v 12 k < 31
    by_cases e : k = nx x
    · subst e
      rw [up2_s]
      exact ⟨hv.1, Int32.lt_of_le_of_lt hv.2 (by decide)⟩
    · rw [up2_n2 e]
      exact hY.2 k hk
  · rw [if_neg ht]
    exact hY.2⟩
theorem IYV_order {σ : aS} {x a b c : Int32} (hI : IC σ) (hY : IYV σ) : IYV (oOrder σ x a b c).2 := ⟨IY_order hI hY.1, by
  unfold oOrder
  split
  · refine IV_of hY.2 ?_ rfl
    dsimp only
    rw [up2_f (by decide), up2_f (by decide), up2_f (by decide), up2_f (by decide)]
  · exact hY.2⟩
theorem IYV_home {σ : aS} {a b c : Int32} (hW : IW σ) (hY : IYV σ) : IYV (oHome σ a b c).2 := ⟨IY_home hW hY.1, by
  unfold oHome
  split
  · refine IV_of hY.2 ?_ rfl
    dsimp only
    rw [up2_f (by decide), up2_f (by decide), up2_f (by decide)]
  · exact hY.2⟩
theorem IYV_report {σ : aS} {x s w : Int32} (hI : IC σ) (hY : IYV σ) : IYV (oReport σ x s w).2 := ⟨IY_report hI hY.1, by
  unfold oReport
  split
  · refine IV_of hY.2 ?_ rfl
    unfold sReport
    dsimp only
    rw [up2_f (by decide), up2_f (by decide), up2_f (by decide), up2_f (by decide)]
  · exact hY.2⟩
theorem IYV_child {σ : aS} {a b c d e : Int32} (hW : IW σ) (hY : IYV σ) : IYV (oChild σ a b c d e).2 := ⟨IY_child hW hY.1, by
  unfold oChild
  by_cases ht : tChild σ a b c d e = 0
  · rw [if_pos ht]
    have hlt := bI_ne.mp (gT_x ht).2.1
    have hI := hW.1
    have n16 : cN σ 1 < 16 := by
      rw [hI.2.1.1] at hlt
      exact (nI_ltI (by have := hI.2.1.2; omega) (by decide)).mp (show nI (cN σ 1) < nI 16 from hlt)
    have hq := (hW.2.2.2.2.2.2.1.1 (cN σ 1) (Nat.le_refl _) n16).1 12 (by decide) (by decide)
    intro k hk
    have e1 : σ.2 1 + 1 = nI (cN σ 1 + 1) := by rw [hI.2.1.1, nI_1]
    dsimp only at hk ⊢
    rw [e1, cN_at (by omega)] at hk
    rw [up2_f (by decide), up2_f (by decide), up2_f (by decide), up2_f (by decide), up2_f (by decide), up2_f (by decide), up2_f (by decide), up2_f (by decide), up2_f (by decide)]
    by_cases q : k = cN σ 1
    · subst q
      rw [hq]
      decide
    · exact hY.2 k (by omega)
  · rw [if_neg ht]
    exact hY.2⟩
theorem IYV_place {σ : aS} {x h : Int32} (hW : IW σ) (hY : IYV σ) : IYV (oPlace σ x h).2 := ⟨IY_place hW hY.1, by
  unfold oPlace
  split
  · exact IV_of (σ := sT σ 0) hY.2 (oBeg_f (by decide) (by decide) (by decide) (by decide)) (congrArg Int32.toNatClampNeg (show (oBegins (sT σ 0) (nx x) h).2.2 1 = (sT σ 0).2 1 from by rw [oBeg_2]; exact up1_n (by decide)))
  · exact hY.2⟩
theorem IYV_all {σ : aS} {x : Nat} (hx : x ≤ 7) (hW : IW σ) (hY : IYV σ) : IYV (oPlaceAll σ (nI x)).2 := by
  obtain ⟨⟨y1, y2, y3⟩, -⟩ := pa_all hx hW hY.1
  exact ⟨y1, IV_of hY.2 (y2 12 (by decide) (by decide) (by decide) (by decide)) (congrArg Int32.toNatClampNeg (y3 1 (by decide)))⟩
/-! days -/
def dF (f : Nat) : Prop := f ≠ 10 ∧ f ≠ 47 ∧ f ≠ 24 ∧ (f < 13 ∨ 18 < f)
theorem dStep_f {τ : aS} {j f : Nat} (hf : dF f) : (dStep τ j).1 f = τ.1 f := by
  by_cases h1 : τ.1 10 j = -1
  · rw [dStep, iteP_t h1]
  · rw [dStep, iteP_f h1]
    by_cases h2 : ¬ mKindOn τ (nI j) (τ.2 0) = 0 ∧ ¬ mKindOn τ (nI j) (τ.2 0) = 2
    · rw [iteP_t h2]; exact oEnds_o hf.1 hf.2.1
    · rw [iteP_f h2]
      by_cases h3 : ¬ τ.1 12 j ≤ 0 ∧ (τ.2 0 - τ.1 46 (nx (τ.1 10 j))) - (τ.2 0 - τ.1 46 (nx (τ.1 10 j))) / τ.1 12 j * τ.1 12 j = 0
      · rw [iteP_t h3]; exact vis_ff hf.2.2.2
      · rw [iteP_f h3]
theorem dRun_f {f : Nat} (hf : dF f) : ∀ (t j : Nat) (τ : aS), (dRun t j τ).1 f = τ.1 f
  | 0, _, _ => rfl
  | t + 1, j, τ => (dRun_f hf t (j + 1) (dStep τ j)).trans (dStep_f hf)
theorem oDay_f {σ : aS} {f : Nat} (hf : dF f) : (oDay σ).1 f = σ.1 f := (dRun_f hf _ _ _).trans (earnF_o hf.2.2.1 _)
theorem runDays_f {f : Nat} (hf : dF f) : ∀ (c : Nat) (σ : aS), (runDays c σ).1 f = σ.1 f
  | 0, _ => rfl
  | c + 1, σ => (runDays_f hf c (oDay σ)).trans (oDay_f hf)
theorem IYV_pass {σ : aS} {v : Int32} (h : IW σ) (hY : IYV σ) : IYV (oPass σ v).2 := ⟨IY_pass h hY.1, by
  unfold oPass
  by_cases ht : tPass σ v = 0
  · rw [if_pos ht]
    obtain ⟨n, n1, n2, rfl, n3⟩ := tPass_d h.1 ht
    rw [nx_nI (j := n) (by omega)]
    exact IV_of (σ := sT σ 0) hY.2 (runDays_f (by unfold dF; decide) _ _) (congrArg Int32.toNatClampNeg ((IW_days n (σ := sT σ 0) h n3).2 1 (by decide)))
  · rw [if_neg ht]
    exact hY.2⟩
