/-! THE LAW: one contract for each call of the class: file, report, see. -/
theorem u_file (l : Launch) (hl : l.stackTraces = false) (G : gG) (S : sS) (ad : Nat → Nat → Nat) (σ : aS) (hC : RelC S ad σ) (hG : GU S ad) (hW : IW σ) (x w : Int32) : CU [eB, eS] l G yX8_file cX8_file 9 (Option.some FieldType.int) 7 2 12 [.int x, .int w] S ad (tFile σ x w) (some (.int (oFile σ x w).1)) (oFile σ x w).2 := by
  obtain ⟨wI, wS, wZ, wO, wN, wP, wQ, wT, wR, wA, wE, wD, wB⟩ := hW
  have hC0 : RelC S ad (sT σ 0) := RelC_56 (A := σ.1) (B := σ.2) hC
  have c16 := wI.2.1.2
  have c10 := wI.2.2.1.2
  have c100 := wI.2.2.2.2.2.1.2
  by_cases h : chP σ x ∧ 0 ≤ w
  · obtain ⟨k, k1, rfl⟩ := ch_ix wI h.1
    have ek : nx (nI k) = k := nx_nI (by omega)
    by_cases h2 : 18 ≤ mYears σ k (σ.2 0)
    · have e : tFile σ (nI k) w = 0 := gT_0 (pI9_ne.mpr h) (pI9_ne.mpr ⟨h, by rw [ek]; exact h2⟩) (by decide)
      rw [oFile, if_pos e, e]
      exact CU_F hC hG (c_X8_file l hl G S ad σ hC wI wS k k1 w h.2 h2)
    · have e : tFile σ (nI k) w = 2 := gT_2 (pI9_ne.mpr h) (pI9_z.mpr (by rw [ek]; exact fun z => h2 z.2))
      rw [oFile, if_neg (by rw [e]; decide), e]
      exact CU_X hC hG (Or.inr (Or.inl ⟨rfl, rfl⟩)) (c_X8_fileY l hl G S ad σ hC wI k k1 w h.2 h2)
  · have e : tFile σ x w = 1 := gT_1 (pI9_z.mpr h)
    rw [oFile, if_neg (by rw [e]; decide), e]
    by_cases hx : chP σ x
    · obtain ⟨k, k1, rfl⟩ := ch_ix wI hx
      exact CU_X hC hG (Or.inl ⟨rfl, rfl⟩) (c_X8_fileN l hl G S ad σ hC wI k k1 w fun z => h ⟨hx, z⟩)
    · exact CU_X hC hG (Or.inl ⟨rfl, rfl⟩) (c_X8_fileX l hl G S ad σ hC wI x w (ch_no wI hx))
theorem u_see (l : Launch) (hl : l.stackTraces = false) (G : gG) (S : sS) (ad : Nat → Nat → Nat) (σ : aS) (hC : RelC S ad σ) (hG : GU S ad) (hW : IW σ) (x : Int32) : CU [eB] l G yX8_see cX8_see 4 (Option.some FieldType.boolean) 7 1 6 [.int x] S ad (tC σ x) (some (.int (oSee σ x).1)) (oSee σ x).2 := by
  obtain ⟨wI, wS, wZ, wO, wN, wP, wQ, wT, wR, wA, wE, wD, wB⟩ := hW
  have hC0 : RelC S ad (sT σ 0) := RelC_56 (A := σ.1) (B := σ.2) hC
  have c16 := wI.2.1.2
  have c10 := wI.2.2.1.2
  have c100 := wI.2.2.2.2.2.1.2
  by_cases h : chP σ x
  · obtain ⟨k, k1, rfl⟩ := ch_ix wI h
    have e : tC σ (nI k) = 0 := gT_0 (bI_ne.mpr h) (by decide) (by decide)
    rw [oSee, if_pos e, e, nx_nI (j := k) (by omega), mSeenBy_r (σ := sT σ 0) wR k1]
    exact CU_C hC hG (c_X8_see l hl G S ad (sT σ 0) hC0 wI k k1)
  · have e : tC σ x = 1 := gT_1 (bI_eq.mpr h)
    rw [oSee, if_neg (by rw [e]; decide), e]
    exact CU_X hC hG (Or.inl ⟨rfl, rfl⟩) (c_X8_seeX l hl G S ad σ hC wI x (ch_no wI h))
theorem u_report (l : Launch) (hl : l.stackTraces = false) (G : gG) (S : sS) (ad : Nat → Nat → Nat) (σ : aS) (hC : RelC S ad σ) (hG : GU S ad) (hW : IW σ) (x a b : Int32) : CU [eB, eA, eS] l G yX8_report cX8_report 5 (Option.some FieldType.int) 7 4 30 [.int x, .int a, .int b] S ad (tReport σ x a b) (some (.int (oReport σ x a b).1)) (oReport σ x a b).2 := by
  obtain ⟨wI, wS, wZ, wO, wN, wP, wQ, wT, wR, wA, wE, wD, wB⟩ := hW
  have hC0 : RelC S ad (sT σ 0) := RelC_56 (A := σ.1) (B := σ.2) hC
  have c16 := wI.2.1.2
  have c10 := wI.2.2.1.2
  have c100 := wI.2.2.2.2.2.1.2
  by_cases h : chP σ x
  · obtain ⟨k, k1, rfl⟩ := ch_ix wI h
    have ek : nx (nI k) = k := nx_nI (by omega)
    have c7 := wI.2.2.2.2.2.2.1 k (by omega)
    by_cases h2 : inP a 0 9 ∧ inP b 1 9
    · by_cases h3 : σ.1 34 k < 30
      · have e : tReport σ (nI k) a b = 0 := gT_0 (bI_ne.mpr h) (pI9_ne.mpr h2) (pI9_ne.mpr ⟨h, by rw [ek]; exact h3⟩)
        have hr : rN σ k < 30 := by
          rw [c7.1, Int32.lt_iff_toInt_lt, nI_toInt (by omega)] at h3
          have e30 : (30 : Int32).toInt = 30 := rfl
          omega
        rw [oReport, if_pos e, e, ek, mRisk_r]
        unfold sReport
        rw [ek]
        have g := c_X8_report l hl G S ad (sT σ 0) hC0 wI k k1 a b h2 hr
        rw [← rAll_tell (σ := sT σ 0) wI k1 hr] at g
        exact CU_C hC hG g
      · have e : tReport σ (nI k) a b = 3 := gT_3 (bI_ne.mpr h) (pI9_ne.mpr h2) (pI9_z.mpr (by rw [ek]; exact fun z => h3 z.2))
        rw [oReport, if_neg (by rw [e]; decide), e]
        exact CU_X hC hG (Or.inr (Or.inr ⟨rfl, rfl⟩)) (c_X8_reportZ l hl G S ad σ hC wI k k1 a b h2 h3)
    · have e : tReport σ (nI k) a b = 2 := gT_2 (bI_ne.mpr h) (pI9_z.mpr h2)
      rw [oReport, if_neg (by rw [e]; decide), e]
      exact CU_X hC hG (Or.inr (Or.inl ⟨rfl, rfl⟩)) (c_X8_reportY l hl G S ad σ hC wI k k1 a b h2)
  · have e : tReport σ x a b = 1 := gT_1 (bI_eq.mpr h)
    rw [oReport, if_neg (by rw [e]; decide), e]
    exact CU_X hC hG (Or.inl ⟨rfl, rfl⟩) (c_X8_reportX l hl G S ad σ hC wI x a b (ch_no wI h))
