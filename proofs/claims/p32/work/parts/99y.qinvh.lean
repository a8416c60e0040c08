/-! WHAT HOLDS BETWEEN CALLS: each call, thrown or not. -/
def KW (σ τ : aS) : Prop := IW τ ∧ cN τ 27 ≤ cN σ 27 + 1
theorem KW_sT {σ : aS} {t : Int32} (h : IW σ) : KW σ (sT σ t) := ⟨h, Nat.le_succ _⟩
theorem KW_e {σ τ : aS} (h : IW τ ∧ cN τ 27 = cN σ 27) : KW σ τ := ⟨h.1, by rw [h.2]; exact Nat.le_succ _⟩
theorem KW_child {σ : aS} {a b c d e : Int32} (h : IW σ) : KW σ (oChild σ a b c d e).2 := by
  by_cases ht : tChild σ a b c d e = 0
  · exact KW_e (IW_child h ht)
  · rw [oChild, if_neg ht]; exact KW_sT h
theorem KW_home {σ : aS} {a b c : Int32} (h : IW σ) : KW σ (oHome σ a b c).2 := by
  by_cases ht : tHome σ a b c = 0
  · exact KW_e (IW_home h ht)
  · rw [oHome, if_neg ht]; exact KW_sT h
theorem KW_order {σ : aS} {a b c d : Int32} (h : IW σ) : KW σ (oOrder σ a b c d).2 := by
  by_cases ht : tOrder σ a b c d = 0
  · exact KW_e (IW_order h ht)
  · rw [oOrder, if_neg ht]; exact KW_sT h
theorem KW_report {σ : aS} {a b c : Int32} (h : IW σ) : KW σ (oReport σ a b c).2 := by
  by_cases ht : tReport σ a b c = 0
  · rw [oReport, if_pos ht]; exact KW_e (IW_report h ht)
  · rw [oReport, if_neg ht]; exact KW_sT h
theorem KW_placeAll {σ : aS} {a : Int32} (h : IW σ) : KW σ (oPlaceAll σ a).2 := KW_e (IW_placeAll h)
theorem KW_see {σ : aS} {x : Int32} (h : IW σ) : KW σ (oSee σ x).2 := by
  by_cases ht : tC σ x = 0
  · rw [oSee, if_pos ht]
    exact ⟨IW_F (A := σ.1) (B := σ.2) h (by decide), Nat.le_succ _⟩
  · rw [oSee, if_neg ht]; exact KW_sT h
theorem KW_hand {σ : aS} {x w : Int32} (h : IW σ) : KW σ (oHand σ x w).2 := by
  by_cases ht : tHand σ x w = 0
  · rw [oHand, if_pos ht]
    exact ⟨IW_F (A := σ.1) (B := σ.2) h (by decide), Nat.le_succ _⟩
  · rw [oHand, if_neg ht]; exact KW_sT h
theorem KW_visits {σ : aS} {x v : Int32} (h : IW σ) : KW σ (oVisits σ x v).2 := by
  by_cases ht : tVisits σ x v = 0
  · rw [oVisits, if_pos ht]
    obtain ⟨g1, -, -⟩ := gT_x ht
    rw [bI_ne] at g1
    obtain ⟨k, k1, rfl⟩ := ch_ix h.1 g1
    rw [nx_nI (j := k) (by have := h.1.2.1.2; omega)]
    exact ⟨IW_A (A := σ.1) (B := σ.2) h (by decide) (fun q => absurd q (by decide)) (fun _ => k1) (fun q => absurd q (by decide)) (fun q => absurd q (by decide)), Nat.le_succ _⟩
  · rw [oVisits, if_neg ht]; exact KW_sT h
theorem KW_came {σ : aS} {x : Int32} (h : IW σ) : KW σ (oCame σ x) := by
  by_cases ht : tCame σ x = 0
  · rw [oCame, if_pos ht]
    obtain ⟨g1, -, -⟩ := gT_x ht
    rw [bI_ne] at g1
    obtain ⟨k, k1, rfl⟩ := ch_ix h.1 g1
    rw [nx_nI (j := k) (by have := h.1.2.1.2; omega)]
    exact ⟨IW_A (A := σ.1) (B := σ.2) h (by decide) (fun _ => Or.inr rfl) (fun _ => k1) (fun q => absurd q (by decide)) (fun q => absurd q (by decide)), Nat.le_succ _⟩
  · rw [oCame, if_neg ht]; exact KW_sT h
theorem KW_pay {σ : aS} {x v : Int32} (h : IW σ) : KW σ (oPay σ x v).2 := by
  by_cases ht : tPay σ x v = 0
  · rw [oPay, if_pos ht]
    obtain ⟨g1, -, -⟩ := gT_x ht
    rw [bI_ne] at g1
    obtain ⟨k, k1, rfl⟩ := ho_ix h.1 g1
    rw [nx_nI (j := k) (by have := h.1.2.2.1.2; omega)]
    exact ⟨IW_A (A := σ.1) (B := σ.2) h (by decide) (fun q => absurd q (by decide)) (fun q => absurd q (by decide)) (fun q => absurd q (by decide)) (fun _ => k1), Nat.le_succ _⟩
  · rw [oPay, if_neg ht]; exact KW_sT h
theorem KW_blacken {σ : aS} {x v : Int32} (h : IW σ) (hv : v = 0 ∨ v = 1) : KW σ (oBlacken σ x v).2 := by
  by_cases ht : tH σ x = 0
  · rw [oBlacken, if_pos ht]
    obtain ⟨g1, -, -⟩ := gT_x ht
    rw [bI_ne] at g1
    obtain ⟨k, k1, rfl⟩ := ho_ix h.1 g1
    rw [nx_nI (j := k) (by have := h.1.2.2.1.2; omega)]
    exact ⟨IW_A (A := σ.1) (B := σ.2) h (by decide) (fun _ => hv) (fun q => absurd q (by decide)) (fun q => absurd q (by decide)) (fun _ => k1), Nat.le_succ _⟩
  · rw [oBlacken, if_neg ht]; exact KW_sT h
theorem KW_wish {σ : aS} {x y v : Int32} (h : IW σ) : KW σ (oWish σ x y v) := by
  by_cases ht : tCH σ x y = 0
  · rw [oWish, if_pos ht]
    obtain ⟨g1, -, -⟩ := gT_x ht
    rw [pI9_ne] at g1
    obtain ⟨k, k1, rfl⟩ := ch_ix h.1 g1.1
    obtain ⟨w, w1, rfl⟩ := ho_ix h.1 g1.2
    rw [nx_nI (j := k) (by have := h.1.2.1.2; omega), nx_nI (j := w) (by have := h.1.2.2.1.2; omega)]
    exact ⟨IW_A (A := σ.1) (B := σ.2) h (by decide) (fun q => absurd q (by decide)) (fun q => absurd q (by decide)) (fun _ => ⟨k, w, k1, by have := h.1.2.2.1.2; have : w < cN σ 20 := w1; omega, rfl⟩) (fun q => absurd q (by decide)), Nat.le_succ _⟩
  · rw [oWish, if_neg ht]; exact KW_sT h
theorem KW_tells {σ : aS} {x s a b u : Int32} {P : Prop} (h : IW σ) (hn : cN σ 27 < 512) (ht : tHomeQ σ x P = 0) : KW σ (oTells (sT σ 0) x s a b u) := by
  obtain ⟨g1, -, -⟩ := gT_x ht
  rw [bI_ne] at g1
  obtain ⟨k, k1, rfl⟩ := ho_ix h.1 g1
  exact IW_tells (σ := sT σ 0) h k1 hn
theorem KW_approve {σ : aS} {x a b u : Int32} (h : IW σ) (hn : cN σ 27 < 512) : KW σ (oApprove σ x a b u) := by
  by_cases ht : tHomeQ σ x (inP a 0 17 ∧ inP b a 17 ∧ inP u 0 20000) = 0
  · rw [oApprove, if_pos ht]; exact KW_tells h hn ht
  · rw [oApprove, if_neg ht]; exact KW_sT h
theorem KW_train {σ : aS} {x a u : Int32} (h : IW σ) (hn : cN σ 27 < 512) : KW σ (oTrain σ x a u) := by
  by_cases ht : tHomeQ σ x (inP a 0 15 ∧ inP u 0 20000) = 0
  · rw [oTrain, if_pos ht]; exact KW_tells h hn ht
  · rw [oTrain, if_neg ht]; exact KW_sT h
theorem KW_rest {σ : aS} {x a u : Int32} (h : IW σ) (hn : cN σ 27 < 512) : KW σ (oRest σ x a u) := by
  by_cases ht : tHomeQ σ x (inP a (σ.2 0) 20000 ∧ inP u a 20000) = 0
  · rw [oRest, if_pos ht]; exact KW_tells h hn ht
  · rw [oRest, if_neg ht]; exact KW_sT h
theorem KW_place {σ : aS} {x y : Int32} (h : IW σ) : KW σ (oPlace σ x y).2 := by
  by_cases ht : tPlace σ x y = 0
  · rw [oPlace, if_pos ht]
    obtain ⟨g1, g2, -⟩ := gT_x ht
    rw [pI9_ne] at g1 g2
    obtain ⟨k, k1, rfl⟩ := ch_ix h.1 g1.1
    obtain ⟨w, w1, rfl⟩ := ho_ix h.1 g1.2
    rw [nx_nI (j := k) (by have := h.1.2.1.2; omega)]
    have h43 := h.1.2.2.2.2.2.1
    have g3 := g2.2.2.2
    rw [h43.1, Int32.lt_iff_toInt_lt, nI_toInt (by omega)] at g3
    have e100 : (100 : Int32).toInt = 100 := rfl
    exact ⟨IW_begins (σ := sT σ 0) h k1 w1 (show cN σ 43 < 100 by omega), Nat.le_succ _⟩
  · rw [oPlace, if_neg ht]; exact KW_sT h
theorem KW_pass {σ : aS} {v : Int32} (h : IW σ) : KW σ (oPass σ v).2 := by
  by_cases ht : tPass σ v = 0
  · rw [oPass, if_pos ht]
    obtain ⟨g1, g2, -⟩ := gT_x ht
    rw [bI_ne] at g1
    rw [pI9_ne] at g2
    obtain ⟨c, c1, rfl⟩ := nI_of (Int32.not_lt.mpr (Int32.le_trans (by decide) g1.1))
    have h0 := h.1.1
    have u2 := g1.2
    rw [Int32.le_iff_toInt_le, nI_toInt c1] at u2
    have k1 : (400 : Int32).toInt = 400 := rfl
    rw [h0.1, nI_add, show (12000 : Int32) = nI 12000 from rfl, nI_leI (by omega) (by decide)] at g2
    rw [nx_nI c1]
    obtain ⟨d1, d2⟩ := IW_days c (σ := sT σ 0) h (show cN σ 0 + c ≤ 12000 from g2)
    exact ⟨d1, by
      show cN (runDays c (sT σ 0)) 27 ≤ _
      rw [show cN (runDays c (sT σ 0)) 27 = cN (sT σ 0) 27 from congrArg Int32.toNatClampNeg (d2 27 (by decide))]
      exact Nat.le_succ _⟩
  · rw [oPass, if_neg ht]; exact KW_sT h
/-- and at the start -/
theorem IW_0 : IW σ0 := by
  have z : ∀ x, cN σ0 x = 0 := fun _ => rfl
  refine ⟨⟨⟨rfl, by decide⟩, ⟨rfl, by decide⟩, ⟨rfl, by decide⟩, ⟨rfl, by decide⟩, ⟨rfl, by decide⟩, ⟨rfl, by decide⟩, fun _ _ => ⟨rfl, Nat.zero_le 30⟩, fun k hk => absurd hk (Nat.not_lt_zero k)⟩, fun k hk => absurd hk (Nat.not_lt_zero k), fun _ _ _ _ => Or.inl rfl, fun k hk => absurd hk (Nat.not_lt_zero k), fun k hk => absurd hk (Nat.not_lt_zero k), ⟨fun k hk => absurd hk (Nat.not_lt_zero k), fun k hk => absurd hk (Nat.not_lt_zero k)⟩, ⟨fun _ _ _ => ⟨fun _ _ _ => rfl, rfl, fun _ _ => rfl⟩, fun _ _ _ => ⟨rfl, rfl, rfl⟩, fun k hk => absurd hk (Nat.not_lt_zero k), fun k hk => absurd hk (Nat.not_lt_zero k)⟩, ⟨fun k hk => absurd hk (Nat.not_lt_zero k), fun i j _ hj => absurd hj (Nat.not_lt_zero j)⟩, fun k i hk => absurd hk (Nat.not_lt_zero k), fun k hk => absurd hk (Nat.not_lt_zero k), ⟨fun k j hk => absurd hk (Nat.not_lt_zero k), fun j k hj => absurd hj (Nat.not_lt_zero j)⟩, fun k hk => absurd hk (Nat.not_lt_zero k), fun k hk => absurd hk (Nat.not_lt_zero k)⟩

