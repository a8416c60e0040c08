/-! THE LAW: one contract for each call of the class: pay, order, pass. -/
theorem u_pay (l : Launch) (hl : l.stackTraces = false) (G : gG) (S : sS) (ad : Nat → Nat → Nat) (σ : aS) (hC : RelC S ad σ) (hG : GU S ad) (hW : IW σ) (x w : Int32) : CU [eB, eA] l G yX8_pay cX8_pay 4 (Option.some FieldType.int) 7 2 12 [.int x, .int w] S ad (tPay σ x w) (some (.int (oPay σ x w).1)) (oPay σ x w).2 := by
  obtain ⟨wI, wS, wZ, wO, wN, wP, wQ, wT, wR, wA, wE, wD, wB⟩ := hW
  have hC0 : RelC S ad (sT σ 0) := RelC_56 (A := σ.1) (B := σ.2) hC
  have c16 := wI.2.1.2
  have c10 := wI.2.2.1.2
  have c100 := wI.2.2.2.2.2.1.2
  by_cases h : hoP σ x
  · obtain ⟨k, k1, rfl⟩ := ho_ix wI h
    by_cases h2 : inP w 1 100000
    · have e : tPay σ (nI k) w = 0 := gT_0 (bI_ne.mpr h) (bI_ne.mpr h2) (by decide)
      rw [oPay, if_pos e, e, nx_nI (j := k) (by omega)]
      have g := c_X8_pay l hl G S ad (sT σ 0) hC0 wI wS k k1 w h2
      have r : ∀ f, f ≠ 25 → up2 σ.1 25 k (σ.1 25 k + w) f = σ.1 f := fun f hf => up2_f hf
      have hD : ID (up2 σ.1 25 k (σ.1 25 k + w), σ.2) := ID_of wD (r 47 (by decide)) (r 46 (by decide)) (r 4 (by decide)) (r 44 (by decide)) (r 3 (by decide)) (r 2 (by decide)) (r 45 (by decide)) (r 24 (by decide)) rfl rfl rfl
      have eo : cOw (up2 σ.1 25 k (σ.1 25 k + w), σ.2) k = σ.1 24 k - (σ.1 25 k + w) := by
        rw [cOw_m hD k1]
        show up2 σ.1 25 k (σ.1 25 k + w) 24 k - up2 σ.1 25 k (σ.1 25 k + w) 25 k = _
        rw [up2_s, up2_n1 (by decide)]
      rw [← eo]
      exact CU_C hC hG g
    · have e : tPay σ (nI k) w = 2 := gT_2 (bI_ne.mpr h) (bI_eq.mpr h2)
      rw [oPay, if_neg (by rw [e]; decide), e]
      exact CU_X hC hG (Or.inr (Or.inl ⟨rfl, rfl⟩)) (c_X8_payY l hl G S ad σ hC wI k k1 w h2)
  · have e : tPay σ x w = 1 := gT_1 (bI_eq.mpr h)
    rw [oPay, if_neg (by rw [e]; decide), e]
    exact CU_X hC hG (Or.inl ⟨rfl, rfl⟩) (c_X8_payX l hl G S ad σ hC wI x w (ho_no wI h))
theorem u_order (l : Launch) (hl : l.stackTraces = false) (G : gG) (S : sS) (ad : Nat → Nat → Nat) (σ : aS) (hC : RelC S ad σ) (hG : GU S ad) (hW : IW σ) (x a b c : Int32) : CU [eB, eA, eS] l G yX8_order cX8_order 7 (Option.some FieldType.int) 7 8 60 [.int x, .int a, .int b, .int c] S ad (tOrder σ x a b c) (some (.int (oOrder σ x a b c).1)) (oOrder σ x a b c).2 := by
  obtain ⟨wI, wS, wZ, wO, wN, wP, wQ, wT, wR, wA, wE, wD, wB⟩ := hW
  have hC0 : RelC S ad (sT σ 0) := RelC_56 (A := σ.1) (B := σ.2) hC
  have c16 := wI.2.1.2
  have c10 := wI.2.2.1.2
  have c100 := wI.2.2.2.2.2.1.2
  have b1 : σ.2 38 = nI (cN σ 38) := wI.2.2.2.2.1.1
  have c60 := wI.2.2.2.2.1.2
  by_cases h : chP σ x
  · obtain ⟨k, k1, rfl⟩ := ch_ix wI h
    by_cases h2 : inP a 0 2 ∧ inP b (σ.2 0) 20000 ∧ inP c 1 7000
    · by_cases h3 : σ.2 38 < 60
      · have e : tOrder σ (nI k) a b c = 0 := gT_0 (bI_ne.mpr h) (pI9_ne.mpr h2) (bI_ne.mpr h3)
        have hn : cN σ 38 < 60 := by
          rw [b1, Int32.lt_iff_toInt_lt, nI_toInt (by omega)] at h3
          have e16 : (60 : Int32).toInt = 60 := rfl
          omega
        rw [oOrder, if_pos e, e]
        have e1 : σ.2 38 + 1 = nI (cN σ 38 + 1) := by rw [b1, nI_1]
        have g := c_X8_order l hl G S ad (sT σ 0) hC0 wI wS k k1 a b c h2 (cN σ 38) rfl hn
        rw [e1, nI_prv]
        exact CU_C hC hG g
      · have e : tOrder σ (nI k) a b c = 3 := gT_3 (bI_ne.mpr h) (pI9_ne.mpr h2) (bI_eq.mpr h3)
        rw [oOrder, if_neg (by rw [e]; decide), e]
        exact CU_X hC hG (Or.inr (Or.inr ⟨rfl, rfl⟩)) (c_X8_orderZ l hl G S ad σ hC wI k k1 a b c h2 h3)
    · have e : tOrder σ (nI k) a b c = 2 := gT_2 (bI_ne.mpr h) (pI9_z.mpr h2)
      rw [oOrder, if_neg (by rw [e]; decide), e]
      exact CU_X hC hG (Or.inr (Or.inl ⟨rfl, rfl⟩)) (c_X8_orderY l hl G S ad σ hC wI k k1 a b c h2)
  · have e : tOrder σ x a b c = 1 := gT_1 (bI_eq.mpr h)
    rw [oOrder, if_neg (by rw [e]; decide), e]
    exact CU_X hC hG (Or.inl ⟨rfl, rfl⟩) (c_X8_orderX l hl G S ad σ hC wI x a b c (ch_no wI h))
theorem u_pass (l : Launch) (hl : l.stackTraces = false) (G : gG) (S : sS) (ad : Nat → Nat → Nat) (σ : aS) (hC : RelC S ad σ) (hG : GU S ad) (hW : IW σ) (v : Int32) : CU [eA, eS] l G yX8_pass cX8_pass 8 (Option.some FieldType.int) 7 4 30 [.int v] S ad (tPass σ v) (some (.int (oPass σ v).1)) (oPass σ v).2 := by
  obtain ⟨wI, wS, wZ, wO, wN, wP, wQ, wT, wR, wA, wE, wD, wB⟩ := hW
  have hC0 : RelC S ad (sT σ 0) := RelC_56 (A := σ.1) (B := σ.2) hC
  have c16 := wI.2.1.2
  have c10 := wI.2.2.1.2
  have c100 := wI.2.2.2.2.2.1.2
  have h0 := wI.1
  by_cases h : inP v 1 400
  · obtain ⟨d, d1, rfl⟩ := nI_of (Int32.not_lt.mpr (Int32.le_trans (by decide) h.1))
    have u1 := h.1
    have u2 := h.2
    rw [Int32.le_iff_toInt_le, nI_toInt d1] at u1 u2
    have k1 : (400 : Int32).toInt = 400 := rfl
    have k2 : (1 : Int32).toInt = 1 := rfl
    by_cases h2 : σ.2 0 + nI d ≤ 12000
    · have e : tPass σ (nI d) = 0 := gT_0 (bI_ne.mpr h) (pI9_ne.mpr h2) (by decide)
      have h3 := h2
      rw [h0.1, nI_add, show (12000 : Int32) = nI 12000 from rfl, nI_leI (by omega) (by decide)] at h3
      have g := c_X8_pass l hl G S ad (sT σ 0) hC0 wI wO wZ wE d (by omega) (cN σ 0) rfl h3
      rw [oPass, if_pos e, e, nx_nI (j := d) d1]
      have r := (runDays_Stg (σ := sT σ 0) wI wE d 0 (sT σ 0) (by rw [Nat.add_zero]; exact h0.1) (fun _ _ => rfl) (Stg_0 (sT σ 0))).2.1
      rw [r, Nat.zero_add]
      exact CU_C hC hG g
    · have e : tPass σ (nI d) = 2 := gT_2 (bI_ne.mpr h) (pI9_z.mpr h2)
      rw [oPass, if_neg (by rw [e]; decide), e]
      exact CU_X hC hG (Or.inr (Or.inl ⟨rfl, rfl⟩)) (c_X8_passZ l hl G S ad σ hC (nI d) h h2)
  · have e : tPass σ v = 1 := gT_1 (bI_eq.mpr h)
    rw [oPass, if_neg (by rw [e]; decide), e]
    exact CU_X hC hG (Or.inl ⟨rfl, rfl⟩) (c_X8_passY l hl G S ad σ hC v h)

