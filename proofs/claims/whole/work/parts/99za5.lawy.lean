/-! THE LAW: one contract for each call of the class: file, report, see. -/
theorem u_file (l : Launch) (hl : l.stackTraces = false) (G : gG) (S : sS) (ad : Nat → Nat → Nat) (σ : aS) (hC : RelC S ad σ) (hG : GU S ad) (hW : IW σ) (x w : Int32) : CU [eB, eS] l G yX8_file cX8_file 9 (Option.some FieldType.int) 7 2 12 [.int x, .int w] S ad (tFile σ x w) (some (.int (oFile σ x w).1)) (oFile σ x w).2 := by
  obtain ⟨wI, wS, wZ, wO, wN, wP, wQ, wT, wR, wA, wE, wD, wB⟩ := hW
  have hC0 : RelC S ad (sT σ 0) := RelC_56 (A := σ.1) (B := σ.2) hC
  have c16 := wI.2.1.2
  have c10 := wI.2.2.1.2
  have c100 := wI.2.2.2.2.2.1.2
  by_cases h : chP σ x ∧ 0 ≤ w
  · obtain ⟨k, k1, rfl⟩ := ch_ix wI h.1
    have ek : nx (nI k) = k := nx_nI (by omega)
    by_cases h2 : 18 ≤ mYears σ k (σ.2 0)
    · have e : tFile σ (nI k) w = 0 := gT_0 (pI9_ne.mpr h) (pI9_ne.mpr ⟨h, by rw [ek]; exact h2⟩) (by decide)
      rw [oFile, if_pos e, e]
      exact CU_F hC hG (c_X8_file l hl G S ad σ hC wI wS k k1 w h.2 h2)
    · have e : tFile σ (nI k) w = 2 := gT_2 (pI9_ne.mpr h) (pI9_z.mpr (by rw [ek]; exact fun z => h2 z.2))
      rw [oFile, if_neg (by rw [e]; decide), e]
      exact CU_X hC hG (Or.inr (Or.inl ⟨rfl, rfl⟩)) (c_X8_fileY l hl G S ad σ hC wI k k1 w h.2 h2)
  · have e : tFile σ x w = 1 := gT_1 (pI9_z.mpr h)
    rw [oFile, if_neg (by rw [e]; decide), e]
    by_cases hx : chP σ x
    · obtain ⟨k, k1, rfl⟩ := ch_ix wI hx
      exact CU_X hC hG (Or.inl ⟨rfl, rfl⟩) (c_X8_fileN l hl G S ad σ hC wI k k1 w fun z => h ⟨hx, z⟩)
    · exact CU_X hC hG (Or.inl ⟨rfl, rfl⟩) (c_X8_fileX l hl G S ad σ hC wI x w (ch_no wI hx))
theorem u_see (l : Launch) (hl : l.stackTraces = false) (G : gG) (S : sS) (ad : Nat → Nat → Nat) (σ : aS) (hC : RelC S ad σ) (hG : GU S ad) (hW : IW σ) (x : Int32) : CU [eB] l G yX8_see cX8_see 4 (Option.some FieldType.boolean) 7 1 6 [.int x] S ad (tC σ x) (some (.int (oSee σ x).1)) (oSee σ x).2 := by
  obtain ⟨wI, wS, wZ, wO, wN, wP, wQ, wT, wR, wA, wE, wD, wB⟩ := hW
  have hC0 : RelC S ad (sT σ 0) := RelC_56 (A := σ.1) (B := σ.2) hC
  have c16 := wI.2.1.2
  have c10 := wI.2.2.1.2
  have c100 := wI.2.2.2.2.2.1.2
  by_cases h : chP σ x
  · obtain ⟨k, k1, rfl⟩ := ch_ix wI h
    have e : tC σ (nI k) = 0 := gT_0 (bI_ne.mpr h) (by decide) (by decide)
    rw [oSee, if_pos e, e, nx_nI (j := k) (by omega), mSeenBy_r (σ := sT σ 0) wR k1]
    exact CU_C hC hG (c_X8_see l hl G S ad (sT σ 0) hC0 wI k k1)
  · have e : tC σ x = 1 := gT_1 (bI_eq.mpr h)
    rw [oSee, if_neg (by rw [e]; decide), e]
    exact CU_X hC hG (Or.inl ⟨rfl, rfl⟩) (c_X8_seeX l hl G S ad σ hC wI x (ch_no wI h))
