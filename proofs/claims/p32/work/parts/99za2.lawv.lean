/-! THE LAW: one contract for each call of the class, on. -/
theorem st_no {σ : aS} (hI : IC σ) {x : Int32} (h : ¬ stP σ x) : ¬ ∃ k, k < cN σ 43 ∧ x = nI k := fun ⟨k, k1, k2⟩ => h (by
  subst k2
  have := of_ix (n := cN σ 43) (k := k) (by have := hI.2.2.2.2.2.1.2; omega) k1
  rw [← hI.2.2.2.2.2.1.1] at this
  exact this)
theorem u_seeBy (l : Launch) (hl : l.stackTraces = false) (G : gG) (S : sS) (ad : Nat → Nat → Nat) (σ : aS) (hC : RelC S ad σ) (hG : GU S ad) (hW : IW σ) (x : Int32) : CU [eB] l G yX8_seeBy cX8_seeBy 2 (Option.some FieldType.int) 7 1 6 [.int x] S ad (tC σ x) (some (.int (oSeeBy σ x).1)) (oSeeBy σ x).2 := by
  obtain ⟨wI, wS, wZ, wO, wN, wP, wQ, wT, wR, wA, wE, wD, wB⟩ := hW
  have hC0 : RelC S ad (sT σ 0) := RelC_56 (A := σ.1) (B := σ.2) hC
  have c16 := wI.2.1.2
  have c10 := wI.2.2.1.2
  have c100 := wI.2.2.2.2.2.1.2
  by_cases h : chP σ x
  · obtain ⟨k, k1, rfl⟩ := ch_ix wI h
    have e : tC σ (nI k) = 0 := gT_0 (bI_ne.mpr h) (by decide) (by decide)
    rw [oSeeBy, if_pos e, e, nx_nI (j := k) (by omega), mSeenBy_r (σ := sT σ 0) wR k1]
    exact CU_F hC hG (c_X8_seeBy l hl G S ad (sT σ 0) hC0 wI k k1)
  · have e : tC σ x = 1 := gT_1 (bI_eq.mpr h)
    rw [oSeeBy, if_neg (by rw [e]; decide), e]
    exact CU_X hC hG (Or.inl ⟨rfl, rfl⟩) (c_X8_seeByX l hl G S ad σ hC wI x (ch_no wI h))
theorem u_owed (l : Launch) (hl : l.stackTraces = false) (G : gG) (S : sS) (ad : Nat → Nat → Nat) (σ : aS) (hC : RelC S ad σ) (hG : GU S ad) (hW : IW σ) (x : Int32) : CU [eB] l G yX8_owed cX8_owed 2 (Option.some FieldType.int) 7 1 6 [.int x] S ad (tH σ x) (some (.int (oOwed σ x).1)) (oOwed σ x).2 := by
  obtain ⟨wI, wS, wZ, wO, wN, wP, wQ, wT, wR, wA, wE, wD, wB⟩ := hW
  have hC0 : RelC S ad (sT σ 0) := RelC_56 (A := σ.1) (B := σ.2) hC
  have c16 := wI.2.1.2
  have c10 := wI.2.2.1.2
  have c100 := wI.2.2.2.2.2.1.2
  by_cases h : hoP σ x
  · obtain ⟨k, k1, rfl⟩ := ho_ix wI h
    have e : tH σ (nI k) = 0 := gT_0 (bI_ne.mpr h) (by decide) (by decide)
    rw [oOwed, if_pos e, e, nx_nI (j := k) (by omega), show σ.1 24 k - σ.1 25 k = cOw (sT σ 0) k from (cOw_m (σ := sT σ 0) wD k1).symm]
    exact CU_F hC hG (c_X8_owed l hl G S ad (sT σ 0) hC0 wI wS k k1)
  · have e : tH σ x = 1 := gT_1 (bI_eq.mpr h)
    rw [oOwed, if_neg (by rw [e]; decide), e]
    exact CU_X hC hG (Or.inl ⟨rfl, rfl⟩) (c_X8_owedX l hl G S ad σ hC wI x (ho_no wI h))
theorem u_best (l : Launch) (hl : l.stackTraces = false) (G : gG) (S : sS) (ad : Nat → Nat → Nat) (σ : aS) (hC : RelC S ad σ) (hG : GU S ad) (hW : IW σ) (x : Int32) : CU [eB] l G yX8_best cX8_best 10 (Option.some FieldType.int) 7 1 6 [.int x] S ad (tC σ x) (some (.int (oBest σ x).1)) (oBest σ x).2 := by
  obtain ⟨wI, wS, wZ, wO, wN, wP, wQ, wT, wR, wA, wE, wD, wB⟩ := hW
  have hC0 : RelC S ad (sT σ 0) := RelC_56 (A := σ.1) (B := σ.2) hC
  have c16 := wI.2.1.2
  have c10 := wI.2.2.1.2
  have c100 := wI.2.2.2.2.2.1.2
  by_cases h : chP σ x
  · obtain ⟨k, k1, rfl⟩ := ch_ix wI h
    have e : tC σ (nI k) = 0 := gT_0 (bI_ne.mpr h) (by decide) (by decide)
    rw [oBest, if_pos e, e, nx_nI (j := k) (by omega)]
    exact CU_F hC hG (c_X8_best l hl G S ad (sT σ 0) hC0 wI wO wS wP k k1)
  · have e : tC σ x = 1 := gT_1 (bI_eq.mpr h)
    rw [oBest, if_neg (by rw [e]; decide), e]
    exact CU_X hC hG (Or.inl ⟨rfl, rfl⟩) (c_X8_bestX l hl G S ad σ hC wI x (ch_no wI h))
theorem u_wasAllowed (l : Launch) (hl : l.stackTraces = false) (G : gG) (S : sS) (ad : Nat → Nat → Nat) (σ : aS) (hC : RelC S ad σ) (hG : GU S ad) (hW : IW σ) (x : Int32) : CU [eB] l G yX8_wasAllowed cX8_wasAllowed 3 (Option.some FieldType.boolean) 7 1 6 [.int x] S ad (tSt σ x) (some (.int (oWas σ x).1)) (oWas σ x).2 := by
  obtain ⟨wI, wS, wZ, wO, wN, wP, wQ, wT, wR, wA, wE, wD, wB⟩ := hW
  have hC0 : RelC S ad (sT σ 0) := RelC_56 (A := σ.1) (B := σ.2) hC
  have c16 := wI.2.1.2
  have c10 := wI.2.2.1.2
  have c100 := wI.2.2.2.2.2.1.2
  by_cases h : stP σ x
  · obtain ⟨k, k1, rfl⟩ := st_ix wI h
    have e : tSt σ (nI k) = 0 := gT_0 (bI_ne.mpr h) (by decide) (by decide)
    rw [oWas, if_pos e, e, nx_nI (j := k) (by omega)]
    exact CU_F hC hG (c_X8_wasAllowed l hl G S ad (sT σ 0) hC0 wI wO wS k k1)
  · have e : tSt σ x = 1 := gT_1 (bI_eq.mpr h)
    rw [oWas, if_neg (by rw [e]; decide), e]
    exact CU_X hC hG (Or.inl ⟨rfl, rfl⟩) (c_X8_wasAllowedX l hl G S ad σ hC wI x (st_no wI h))
theorem u_why (l : Launch) (hl : l.stackTraces = false) (G : gG) (S : sS) (ad : Nat → Nat → Nat) (σ : aS) (hC : RelC S ad σ) (hG : GU S ad) (hW : IW σ) (x y : Int32) : CU [eB] l G yX8_why cX8_why 3 (Option.some FieldType.int) 7 2 12 [.int x, .int y] S ad (tCH σ x y) (some (.int (oWhy σ x y).1)) (oWhy σ x y).2 := by
  obtain ⟨wI, wS, wZ, wO, wN, wP, wQ, wT, wR, wA, wE, wD, wB⟩ := hW
  have hC0 : RelC S ad (sT σ 0) := RelC_56 (A := σ.1) (B := σ.2) hC
  have c16 := wI.2.1.2
  have c10 := wI.2.2.1.2
  have c100 := wI.2.2.2.2.2.1.2
  by_cases h : chP σ x ∧ hoP σ y
  · obtain ⟨k, k1, rfl⟩ := ch_ix wI h.1
    obtain ⟨w, w1, rfl⟩ := ho_ix wI h.2
    have e : tCH σ (nI k) (nI w) = 0 := gT_0 (pI9_ne.mpr h) (by decide) (by decide)
    rw [oWhy, if_pos e, e, nx_nI (j := k) (by omega), nx_nI (j := w) (by omega)]
    exact CU_F hC hG (c_X8_why l hl G S ad (sT σ 0) hC0 wI wO wS k k1 w w1)
  · have e : tCH σ x y = 1 := gT_1 (pI9_z.mpr h)
    rw [oWhy, if_neg (by rw [e]; decide), e]
    refine CU_X hC hG (Or.inl ⟨rfl, rfl⟩) (c_X8_whyX l hl G S ad σ hC wI x y ?_)
    by_cases hx : chP σ x
    · exact Or.inr (ho_no wI fun z => h ⟨hx, z⟩)
    · exact Or.inl (ch_no wI hx)
theorem u_worth (l : Launch) (hl : l.stackTraces = false) (G : gG) (S : sS) (ad : Nat → Nat → Nat) (σ : aS) (hC : RelC S ad σ) (hG : GU S ad) (hW : IW σ) (x y : Int32) : CU [eB] l G yX8_worth cX8_worth 3 (Option.some FieldType.int) 7 2 12 [.int x, .int y] S ad (tCH σ x y) (some (.int (oWorth σ x y).1)) (oWorth σ x y).2 := by
  obtain ⟨wI, wS, wZ, wO, wN, wP, wQ, wT, wR, wA, wE, wD, wB⟩ := hW
  have hC0 : RelC S ad (sT σ 0) := RelC_56 (A := σ.1) (B := σ.2) hC
  have c16 := wI.2.1.2
  have c10 := wI.2.2.1.2
  have c100 := wI.2.2.2.2.2.1.2
  by_cases h : chP σ x ∧ hoP σ y
  · obtain ⟨k, k1, rfl⟩ := ch_ix wI h.1
    obtain ⟨w, w1, rfl⟩ := ho_ix wI h.2
    have e : tCH σ (nI k) (nI w) = 0 := gT_0 (pI9_ne.mpr h) (by decide) (by decide)
    rw [oWorth, if_pos e, e, nx_nI (j := k) (by omega), nx_nI (j := w) (by omega)]
    exact CU_F hC hG (c_X8_worth l hl G S ad (sT σ 0) hC0 wI wS wP k k1 w w1)
  · have e : tCH σ x y = 1 := gT_1 (pI9_z.mpr h)
    rw [oWorth, if_neg (by rw [e]; decide), e]
    refine CU_X hC hG (Or.inl ⟨rfl, rfl⟩) (c_X8_worthX l hl G S ad σ hC wI x y ?_)
    by_cases hx : chP σ x
    · exact Or.inr (ho_no wI fun z => h ⟨hx, z⟩)
    · exact Or.inl (ch_no wI hx)
theorem u_counts (l : Launch) (hl : l.stackTraces = false) (G : gG) (S : sS) (ad : Nat → Nat → Nat) (σ : aS) (hC : RelC S ad σ) (hG : GU S ad) (hW : IW σ) (x w : Int32) : CU [eB, eA] l G yX8_counts cX8_counts 4 (Option.some FieldType.int) 7 2 12 [.int x, .int w] S ad (tCounts σ x w) (some (.int (oCounts σ x w).1)) (oCounts σ x w).2 := by
  obtain ⟨wI, wS, wZ, wO, wN, wP, wQ, wT, wR, wA, wE, wD, wB⟩ := hW
  have hC0 : RelC S ad (sT σ 0) := RelC_56 (A := σ.1) (B := σ.2) hC
  have c16 := wI.2.1.2
  have c10 := wI.2.2.1.2
  have c100 := wI.2.2.2.2.2.1.2
  by_cases h : chP σ x
  · obtain ⟨k, k1, rfl⟩ := ch_ix wI h
    by_cases h2 : inP w 0 30000
    · have e : tCounts σ (nI k) w = 0 := gT_0 (bI_ne.mpr h) (bI_ne.mpr h2) (by decide)
      rw [oCounts, if_pos e, e]
      exact CU_F hC hG (c_X8_counts l hl G S ad (sT σ 0) hC0 wI wO k k1 w h2)
    · have e : tCounts σ (nI k) w = 2 := gT_2 (bI_ne.mpr h) (bI_eq.mpr h2)
      rw [oCounts, if_neg (by rw [e]; decide), e]
      exact CU_X hC hG (Or.inr (Or.inl ⟨rfl, rfl⟩)) (c_X8_countsY l hl G S ad σ hC wI k k1 w h2)
  · have e : tCounts σ x w = 1 := gT_1 (bI_eq.mpr h)
    rw [oCounts, if_neg (by rw [e]; decide), e]
    exact CU_X hC hG (Or.inl ⟨rfl, rfl⟩) (c_X8_countsX l hl G S ad σ hC wI x w (ch_no wI h))
theorem u_stay (l : Launch) (hl : l.stackTraces = false) (G : gG) (S : sS) (ad : Nat → Nat → Nat) (σ : aS) (hC : RelC S ad σ) (hG : GU S ad) (hW : IW σ) (x w : Int32) : CU [eB, eA] l G yX8_stay cX8_stay 4 (Option.some FieldType.int) 7 2 12 [.int x, .int w] S ad (tStay σ x w) (some (.int (oStay σ x w).1)) (oStay σ x w).2 := by
  obtain ⟨wI, wS, wZ, wO, wN, wP, wQ, wT, wR, wA, wE, wD, wB⟩ := hW
  have hC0 : RelC S ad (sT σ 0) := RelC_56 (A := σ.1) (B := σ.2) hC
  have c16 := wI.2.1.2
  have c10 := wI.2.2.1.2
  have c100 := wI.2.2.2.2.2.1.2
  by_cases h : stP σ x
  · obtain ⟨k, k1, rfl⟩ := st_ix wI h
    by_cases h2 : inP w 0 4
    · have e : tStay σ (nI k) w = 0 := gT_0 (bI_ne.mpr h) (bI_ne.mpr h2) (by decide)
      rw [oStay, if_pos e, e, nx_nI (j := k) (by omega)]
      exact CU_F hC hG (c_X8_stay l hl G S ad (sT σ 0) hC0 wI wS k k1 w h2)
    · have e : tStay σ (nI k) w = 2 := gT_2 (bI_ne.mpr h) (bI_eq.mpr h2)
      rw [oStay, if_neg (by rw [e]; decide), e]
      exact CU_X hC hG (Or.inr (Or.inl ⟨rfl, rfl⟩)) (c_X8_stayY l hl G S ad σ hC wI k k1 w h2)
  · have e : tStay σ x w = 1 := gT_1 (bI_eq.mpr h)
    rw [oStay, if_neg (by rw [e]; decide), e]
    exact CU_X hC hG (Or.inl ⟨rfl, rfl⟩) (c_X8_stayX l hl G S ad σ hC wI x w (st_no wI h))
theorem u_childIs (l : Launch) (hl : l.stackTraces = false) (G : gG) (S : sS) (ad : Nat → Nat → Nat) (σ : aS) (hC : RelC S ad σ) (hG : GU S ad) (hW : IW σ) (x w : Int32) : CU [eB, eA] l G yX8_childIs cX8_childIs 4 (Option.some FieldType.int) 7 2 12 [.int x, .int w] S ad (tIs σ x w) (some (.int (oIs σ x w).1)) (oIs σ x w).2 := by
  obtain ⟨wI, wS, wZ, wO, wN, wP, wQ, wT, wR, wA, wE, wD, wB⟩ := hW
  have hC0 : RelC S ad (sT σ 0) := RelC_56 (A := σ.1) (B := σ.2) hC
  have c16 := wI.2.1.2
  have c10 := wI.2.2.1.2
  have c100 := wI.2.2.2.2.2.1.2
  by_cases h : chP σ x
  · obtain ⟨k, k1, rfl⟩ := ch_ix wI h
    by_cases h2 : inP w 0 6
    · have e : tIs σ (nI k) w = 0 := gT_0 (bI_ne.mpr h) (bI_ne.mpr h2) (by decide)
      rw [oIs, if_pos e, e, nx_nI (j := k) (by omega)]
      exact CU_F hC hG (c_X8_childIs l hl G S ad (sT σ 0) hC0 wI wS k k1 w h2)
    · have e : tIs σ (nI k) w = 2 := gT_2 (bI_ne.mpr h) (bI_eq.mpr h2)
      rw [oIs, if_neg (by rw [e]; decide), e]
      exact CU_X hC hG (Or.inr (Or.inl ⟨rfl, rfl⟩)) (c_X8_childIsY l hl G S ad σ hC wI k k1 w h2)
  · have e : tIs σ x w = 1 := gT_1 (bI_eq.mpr h)
    rw [oIs, if_neg (by rw [e]; decide), e]
    exact CU_X hC hG (Or.inl ⟨rfl, rfl⟩) (c_X8_childIsX l hl G S ad σ hC wI x w (ch_no wI h))
theorem u_load (l : Launch) (hl : l.stackTraces = false) (G : gG) (S : sS) (ad : Nat → Nat → Nat) (σ : aS) (hC : RelC S ad σ) (hG : GU S ad) (hW : IW σ) (w : Int32) : CU [eB] l G yX8_load cX8_load 2 (Option.some FieldType.int) 7 1 6 [.int w] S ad (tLoad σ w) (some (.int (oLoad σ w).1)) (oLoad σ w).2 := by
  obtain ⟨wI, wS, wZ, wO, wN, wP, wQ, wT, wR, wA, wE, wD, wB⟩ := hW
  have hC0 : RelC S ad (sT σ 0) := RelC_56 (A := σ.1) (B := σ.2) hC
  have c16 := wI.2.1.2
  have c10 := wI.2.2.1.2
  have c100 := wI.2.2.2.2.2.1.2
  by_cases h : inP w 0 4
  · have e : tLoad σ w = 0 := gT_0 (bI_ne.mpr h) (by decide) (by decide)
    rw [oLoad, if_pos e, e]
    exact CU_F hC hG (c_X8_load l hl G S ad (sT σ 0) hC0 wI wN w h)
  · have e : tLoad σ w = 1 := gT_1 (bI_eq.mpr h)
    rw [oLoad, if_neg (by rw [e]; decide), e]
    exact CU_X hC hG (Or.inl ⟨rfl, rfl⟩) (c_X8_loadX l hl G S ad σ hC w h)
theorem u_visits (l : Launch) (hl : l.stackTraces = false) (G : gG) (S : sS) (ad : Nat → Nat → Nat) (σ : aS) (hC : RelC S ad σ) (hG : GU S ad) (hW : IW σ) (x w : Int32) : CU [eB, eA] l G yX8_visits cX8_visits 5 (Option.some FieldType.int) 7 2 12 [.int x, .int w] S ad (tVisits σ x w) (some (.int (oVisits σ x w).1)) (oVisits σ x w).2 := by
  obtain ⟨wI, wS, wZ, wO, wN, wP, wQ, wT, wR, wA, wE, wD, wB⟩ := hW
  have hC0 : RelC S ad (sT σ 0) := RelC_56 (A := σ.1) (B := σ.2) hC
  have c16 := wI.2.1.2
  have c10 := wI.2.2.1.2
  have c100 := wI.2.2.2.2.2.1.2
  by_cases h : chP σ x
  · obtain ⟨k, k1, rfl⟩ := ch_ix wI h
    by_cases h2 : inP w 0 30
    · have e : tVisits σ (nI k) w = 0 := gT_0 (bI_ne.mpr h) (bI_ne.mpr h2) (by decide)
      rw [oVisits, if_pos e, e, nx_nI (j := k) (by omega)]
      exact CU_C hC hG (c_X8_visits l hl G S ad (sT σ 0) hC0 wI k k1 w h2)
    · have e : tVisits σ (nI k) w = 2 := gT_2 (bI_ne.mpr h) (bI_eq.mpr h2)
      rw [oVisits, if_neg (by rw [e]; decide), e]
      exact CU_X hC hG (Or.inr (Or.inl ⟨rfl, rfl⟩)) (c_X8_visitsY l hl G S ad σ hC wI k k1 w h2)
  · have e : tVisits σ x w = 1 := gT_1 (bI_eq.mpr h)
    rw [oVisits, if_neg (by rw [e]; decide), e]
    exact CU_X hC hG (Or.inl ⟨rfl, rfl⟩) (c_X8_visitsX l hl G S ad σ hC wI x w (ch_no wI h))

