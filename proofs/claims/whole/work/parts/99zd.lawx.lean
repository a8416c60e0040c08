/-! THE LAW: behind each call the invariant holds, and number 56 is what is thrown. -/
def NX (σ τ : aS) (t : Int32) : Prop := KW σ τ ∧ τ.2 56 = t
theorem s56 {σ : aS} {t : Int32} : (sT σ t).2 56 = t := by
  show up1 σ.2 56 t 56 = t
  exact up1_s
theorem u56 {B : Nat → Int32} {t : Int32} : up1 B 56 t 56 = t := up1_s
theorem v56 {B : Nat → Int32} {k : Nat} {v t : Int32} (h : 56 ≠ k) : up1 (up1 B 56 t) k v 56 = t := (up1_n h).trans up1_s
theorem NX_sT {σ : aS} {t : Int32} (h : IW σ) : NX σ (sT σ t) t := ⟨KW_sT h, s56⟩
theorem NX_Risk {σ : aS} {x : Int32} (h : IW σ) : NX σ (oRisk σ x).2 (tC σ x) := by
  by_cases ht : tC σ x = 0
  · rw [oRisk, if_pos ht, ht]; exact NX_sT h
  · rw [oRisk, if_neg ht]; exact NX_sT h
theorem NX_SeeBy {σ : aS} {x : Int32} (h : IW σ) : NX σ (oSeeBy σ x).2 (tC σ x) := by
  by_cases ht : tC σ x = 0
  · rw [oSeeBy, if_pos ht, ht]; exact NX_sT h
  · rw [oSeeBy, if_neg ht]; exact NX_sT h
theorem NX_Best {σ : aS} {x : Int32} (h : IW σ) : NX σ (oBest σ x).2 (tC σ x) := by
  by_cases ht : tC σ x = 0
  · rw [oBest, if_pos ht, ht]; exact NX_sT h
  · rw [oBest, if_neg ht]; exact NX_sT h
theorem NX_Owed {σ : aS} {x : Int32} (h : IW σ) : NX σ (oOwed σ x).2 (tH σ x) := by
  by_cases ht : tH σ x = 0
  · rw [oOwed, if_pos ht, ht]; exact NX_sT h
  · rw [oOwed, if_neg ht]; exact NX_sT h
theorem NX_Load {σ : aS} {x : Int32} (h : IW σ) : NX σ (oLoad σ x).2 (tLoad σ x) := by
  by_cases ht : tLoad σ x = 0
  · rw [oLoad, if_pos ht, ht]; exact NX_sT h
  · rw [oLoad, if_neg ht]; exact NX_sT h
theorem NX_Was {σ : aS} {x : Int32} (h : IW σ) : NX σ (oWas σ x).2 (tSt σ x) := by
  by_cases ht : tSt σ x = 0
  · rw [oWas, if_pos ht, ht]; exact NX_sT h
  · rw [oWas, if_neg ht]; exact NX_sT h
theorem NX_Why {σ : aS} {x y : Int32} (h : IW σ) : NX σ (oWhy σ x y).2 (tCH σ x y) := by
  by_cases ht : tCH σ x y = 0
  · rw [oWhy, if_pos ht, ht]; exact NX_sT h
  · rw [oWhy, if_neg ht]; exact NX_sT h
theorem NX_Worth {σ : aS} {x y : Int32} (h : IW σ) : NX σ (oWorth σ x y).2 (tCH σ x y) := by
  by_cases ht : tCH σ x y = 0
  · rw [oWorth, if_pos ht, ht]; exact NX_sT h
  · rw [oWorth, if_neg ht]; exact NX_sT h
theorem NX_Counts {σ : aS} {x y : Int32} (h : IW σ) : NX σ (oCounts σ x y).2 (tCounts σ x y) := by
  by_cases ht : tCounts σ x y = 0
  · rw [oCounts, if_pos ht, ht]; exact NX_sT h
  · rw [oCounts, if_neg ht]; exact NX_sT h
theorem NX_Stay {σ : aS} {x y : Int32} (h : IW σ) : NX σ (oStay σ x y).2 (tStay σ x y) := by
  by_cases ht : tStay σ x y = 0
  · rw [oStay, if_pos ht, ht]; exact NX_sT h
  · rw [oStay, if_neg ht]; exact NX_sT h
theorem NX_Is {σ : aS} {x y : Int32} (h : IW σ) : NX σ (oIs σ x y).2 (tIs σ x y) := by
  by_cases ht : tIs σ x y = 0
  · rw [oIs, if_pos ht, ht]; exact NX_sT h
  · rw [oIs, if_neg ht]; exact NX_sT h
theorem NX_File {σ : aS} {x y : Int32} (h : IW σ) : NX σ (oFile σ x y).2 (tFile σ x y) := by
  by_cases ht : tFile σ x y = 0
  · rw [oFile, if_pos ht, ht]; exact NX_sT h
  · rw [oFile, if_neg ht]; exact NX_sT h
theorem NX_Child {σ : aS} {a b c d e : Int32} (h : IW σ) : NX σ (oChild σ a b c d e).2 (tChild σ a b c d e) := by
  refine ⟨KW_child h, ?_⟩
  by_cases ht : tChild σ a b c d e = 0
  · rw [oChild, if_pos ht, ht]
    dsimp only; first | exact u56 | exact v56 (by decide)
  · rw [oChild, if_neg ht]; exact s56
theorem NX_Home {σ : aS} {a b c : Int32} (h : IW σ) : NX σ (oHome σ a b c).2 (tHome σ a b c) := by
  refine ⟨KW_home h, ?_⟩
  by_cases ht : tHome σ a b c = 0
  · rw [oHome, if_pos ht, ht]
    dsimp only; first | exact u56 | exact v56 (by decide)
  · rw [oHome, if_neg ht]; exact s56
theorem NX_Order {σ : aS} {a b c d : Int32} (h : IW σ) : NX σ (oOrder σ a b c d).2 (tOrder σ a b c d) := by
  refine ⟨KW_order h, ?_⟩
  by_cases ht : tOrder σ a b c d = 0
  · rw [oOrder, if_pos ht, ht]
    dsimp only; first | exact u56 | exact v56 (by decide)
  · rw [oOrder, if_neg ht]; exact s56
theorem NX_See {σ : aS} {x : Int32} (h : IW σ) : NX σ (oSee σ x).2 (tC σ x) := by
  refine ⟨KW_see h, ?_⟩
  by_cases ht : tC σ x = 0
  · rw [oSee, if_pos ht, ht]
    dsimp only; first | exact u56 | exact v56 (by decide)
  · rw [oSee, if_neg ht]; exact s56
theorem NX_Hand {σ : aS} {x y : Int32} (h : IW σ) : NX σ (oHand σ x y).2 (tHand σ x y) := by
  refine ⟨KW_hand h, ?_⟩
  by_cases ht : tHand σ x y = 0
  · rw [oHand, if_pos ht, ht]
    dsimp only; first | exact u56 | exact v56 (by decide)
  · rw [oHand, if_neg ht]; exact s56
theorem NX_Visits {σ : aS} {x y : Int32} (h : IW σ) : NX σ (oVisits σ x y).2 (tVisits σ x y) := by
  refine ⟨KW_visits h, ?_⟩
  by_cases ht : tVisits σ x y = 0
  · rw [oVisits, if_pos ht, ht]
    dsimp only; first | exact u56 | exact v56 (by decide)
  · rw [oVisits, if_neg ht]; exact s56
theorem NX_Pay {σ : aS} {x y : Int32} (h : IW σ) : NX σ (oPay σ x y).2 (tPay σ x y) := by
  refine ⟨KW_pay h, ?_⟩
  by_cases ht : tPay σ x y = 0
  · rw [oPay, if_pos ht, ht]
    dsimp only; first | exact u56 | exact v56 (by decide)
  · rw [oPay, if_neg ht]; exact s56
theorem NX_Blacken {σ : aS} {x b : Int32} (h : IW σ) (hb : b = 0 ∨ b = 1) : NX σ (oBlacken σ x b).2 (tH σ x) := by
  refine ⟨KW_blacken h hb, ?_⟩
  by_cases ht : tH σ x = 0
  · rw [oBlacken, if_pos ht, ht]; dsimp only; exact u56
  · rw [oBlacken, if_neg ht]; exact s56
theorem NX_Wish {σ : aS} {x y b : Int32} (h : IW σ) : NX σ (oWish σ x y b) (tCH σ x y) := by
  refine ⟨KW_wish h, ?_⟩
  by_cases ht : tCH σ x y = 0
  · rw [oWish, if_pos ht, ht]; dsimp only; exact u56
  · rw [oWish, if_neg ht]; exact s56
theorem NX_Came {σ : aS} {x : Int32} (h : IW σ) : NX σ (oCame σ x) (tCame σ x) := by
  refine ⟨KW_came h, ?_⟩
  by_cases ht : tCame σ x = 0
  · rw [oCame, if_pos ht, ht]; dsimp only; exact u56
  · rw [oCame, if_neg ht]; exact s56
theorem NX_Report {σ : aS} {x a b : Int32} (h : IW σ) : NX σ (oReport σ x a b).2 (tReport σ x a b) := by
  refine ⟨KW_report h, ?_⟩
  by_cases ht : tReport σ x a b = 0
  · rw [oReport, if_pos ht, ht]; dsimp only; unfold sReport; dsimp only; first | exact u56 | exact v56 (by decide)
  · rw [oReport, if_neg ht]; exact s56
theorem NX_Place {σ : aS} {x y : Int32} (h : IW σ) : NX σ (oPlace σ x y).2 (tPlace σ x y) := by
  refine ⟨KW_place h, ?_⟩
  by_cases ht : tPlace σ x y = 0
  · rw [oPlace, if_pos ht, ht]
    dsimp only [oBegins]; exact v56 (by decide)
  · rw [oPlace, if_neg ht]; exact s56
theorem NX_Pass {σ : aS} {v : Int32} (h : IW σ) : NX σ (oPass σ v).2 (tPass σ v) := by
  refine ⟨KW_pass h, ?_⟩
  by_cases ht : tPass σ v = 0
  · rw [oPass, if_pos ht, ht]
    have hq : ∀ (c : Nat) (τ : aS), (runDays c τ).2 56 = τ.2 56 := by
      intro c
      induction c with
      | zero => exact fun _ => rfl
      | succ c ih =>
        intro τ
        refine (ih (oDay τ)).trans ?_
        rw [oDay_2]
        exact up1_n (by decide)
    exact (hq _ _).trans s56
  · rw [oPass, if_neg ht]; exact s56
theorem oBegins_56 {σ : aS} {k : Nat} {h : Int32} : (oBegins σ k h).2.2 56 = σ.2 56 := by
  unfold oBegins
  dsimp only
  exact up1_n (by decide)
theorem bRun_56 : ∀ (t k : Nat) (τ : aS) (p : Int32), (bRun t k τ p).2.2 56 = τ.2 56
  | 0, _, _, _ => rfl
  | t + 1, k, τ, p => by
    unfold bRun
    by_cases q : τ.1 52 k < τ.2 20
    · rw [iteP_t q]; exact (bRun_56 t (k + 1) _ _).trans oBegins_56
    · rw [iteP_f q]; exact bRun_56 t (k + 1) _ _
theorem NX_PlaceAll {σ : aS} {v : Int32} (h : IW σ) : NX σ (oPlaceAll σ v).2 (paT σ v) := by
  refine ⟨KW_placeAll h, ?_⟩
  by_cases ht : paT σ v = 0
  · rw [oPlaceAll, iteP_t ht, ht, bRun_56]; dsimp only; exact u56
  · rw [oPlaceAll, iteP_f ht]; dsimp only; exact u56
theorem oTells_56 {σ : aS} {h s a b u : Int32} : (oTells σ h s a b u).2 56 = σ.2 56 := by
  unfold oTells
  dsimp only
  exact up1_n (by decide)
theorem NX_Approve {σ : aS} {x a b u : Int32} (h : IW σ) (hn : cN σ 27 < 512) : NX σ (oApprove σ x a b u) (tHomeQ σ x (inP a 0 17 ∧ inP b a 17 ∧ inP u 0 20000)) := by
  refine ⟨KW_approve h hn, ?_⟩
  by_cases ht : tHomeQ σ x (inP a 0 17 ∧ inP b a 17 ∧ inP u 0 20000) = 0
  · rw [oApprove, if_pos ht, ht]; exact oTells_56.trans s56
  · rw [oApprove, if_neg ht]; exact s56
theorem NX_Train {σ : aS} {x a u : Int32} (h : IW σ) (hn : cN σ 27 < 512) : NX σ (oTrain σ x a u) (tHomeQ σ x (inP a 0 15 ∧ inP u 0 20000)) := by
  refine ⟨KW_train h hn, ?_⟩
  by_cases ht : tHomeQ σ x (inP a 0 15 ∧ inP u 0 20000) = 0
  · rw [oTrain, if_pos ht, ht]; exact oTells_56.trans s56
  · rw [oTrain, if_neg ht]; exact s56
theorem NX_Rest {σ : aS} {x a u : Int32} (h : IW σ) (hn : cN σ 27 < 512) : NX σ (oRest σ x a u) (tHomeQ σ x (inP a (σ.2 0) 20000 ∧ inP u a 20000)) := by
  refine ⟨KW_rest h hn, ?_⟩
  by_cases ht : tHomeQ σ x (inP a (σ.2 0) 20000 ∧ inP u a 20000) = 0
  · rw [oRest, if_pos ht, ht]; exact oTells_56.trans s56
  · rw [oRest, if_neg ht]; exact s56
