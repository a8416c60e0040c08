/-! THE LAW: one contract for each call of the class, the writing ones. -/
theorem u_approve (l : Launch) (hl : l.stackTraces = false) (G : gG) (S : sS) (ad : Nat → Nat → Nat) (σ : aS) (hC : RelC S ad σ) (hG : GU S ad) (hW : IW σ) (x a b u : Int32) : CU [eB, eA] l G yX8_approve cX8_approve 6 none 7 8 60 [.int x, .int a, .int b, .int u] S ad (tHomeQ σ x (inP a 0 17 ∧ inP b a 17 ∧ inP u 0 20000)) none (oApprove σ x a b u) := by
  obtain ⟨wI, wS, wZ, wO, wN, wP, wQ, wT, wR, wA, wE, wD, wB⟩ := hW
  have hC0 : RelC S ad (sT σ 0) := RelC_56 (A := σ.1) (B := σ.2) hC
  have c16 := wI.2.1.2
  have c10 := wI.2.2.1.2
  have c100 := wI.2.2.2.2.2.1.2
  by_cases h : hoP σ x
  · obtain ⟨k, k1, rfl⟩ := ho_ix wI h
    by_cases h2 : inP a 0 17 ∧ inP b a 17 ∧ inP u 0 20000
    · have e : tHomeQ σ (nI k) (inP a 0 17 ∧ inP b a 17 ∧ inP u 0 20000) = 0 := gT_0 (bI_ne.mpr h) (pI9_ne.mpr h2) (by decide)
      rw [oApprove, if_pos e, e]
      exact CU_C hC hG (c_X8_approve l hl G S ad (sT σ 0) hC0 wI wS wT k k1 a b u h2)
    · have e : tHomeQ σ (nI k) (inP a 0 17 ∧ inP b a 17 ∧ inP u 0 20000) = 2 := gT_2 (bI_ne.mpr h) (pI9_z.mpr h2)
      rw [oApprove, if_neg (by rw [e]; decide), e]
      exact CU_X hC hG (Or.inr (Or.inl ⟨rfl, rfl⟩)) (c_X8_approveY l hl G S ad σ hC wI k k1 a b u h2)
  · have e : tHomeQ σ x (inP a 0 17 ∧ inP b a 17 ∧ inP u 0 20000) = 1 := gT_1 (bI_eq.mpr h)
    rw [oApprove, if_neg (by rw [e]; decide), e]
    exact CU_X hC hG (Or.inl ⟨rfl, rfl⟩) (c_X8_approveX l hl G S ad σ hC wI x a b u (ho_no wI h))
theorem u_train (l : Launch) (hl : l.stackTraces = false) (G : gG) (S : sS) (ad : Nat → Nat → Nat) (σ : aS) (hC : RelC S ad σ) (hG : GU S ad) (hW : IW σ) (x a u : Int32) : CU [eB, eA] l G yX8_train cX8_train 5 none 7 8 60 [.int x, .int a, .int u] S ad (tHomeQ σ x (inP a 0 15 ∧ inP u 0 20000)) none (oTrain σ x a u) := by
  obtain ⟨wI, wS, wZ, wO, wN, wP, wQ, wT, wR, wA, wE, wD, wB⟩ := hW
  have hC0 : RelC S ad (sT σ 0) := RelC_56 (A := σ.1) (B := σ.2) hC
  have c16 := wI.2.1.2
  have c10 := wI.2.2.1.2
  have c100 := wI.2.2.2.2.2.1.2
  by_cases h : hoP σ x
  · obtain ⟨k, k1, rfl⟩ := ho_ix wI h
    by_cases h2 : inP a 0 15 ∧ inP u 0 20000
    · have e : tHomeQ σ (nI k) (inP a 0 15 ∧ inP u 0 20000) = 0 := gT_0 (bI_ne.mpr h) (pI9_ne.mpr h2) (by decide)
      rw [oTrain, if_pos e, e]
      exact CU_C hC hG (c_X8_train l hl G S ad (sT σ 0) hC0 wI wS wT k k1 a u h2)
    · have e : tHomeQ σ (nI k) (inP a 0 15 ∧ inP u 0 20000) = 2 := gT_2 (bI_ne.mpr h) (pI9_z.mpr h2)
      rw [oTrain, if_neg (by rw [e]; decide), e]
      exact CU_X hC hG (Or.inr (Or.inl ⟨rfl, rfl⟩)) (c_X8_trainY l hl G S ad σ hC wI k k1 a u h2)
  · have e : tHomeQ σ x (inP a 0 15 ∧ inP u 0 20000) = 1 := gT_1 (bI_eq.mpr h)
    rw [oTrain, if_neg (by rw [e]; decide), e]
    exact CU_X hC hG (Or.inl ⟨rfl, rfl⟩) (c_X8_trainX l hl G S ad σ hC wI x a u (ho_no wI h))
theorem u_handOver (l : Launch) (hl : l.stackTraces = false) (G : gG) (S : sS) (ad : Nat → Nat → Nat) (σ : aS) (hC : RelC S ad σ) (hG : GU S ad) (hW : IW σ) (x w : Int32) : CU [eB] l G yX8_handOver cX8_handOver 5 (Option.some FieldType.int) 7 2 12 [.int x, .int w] S ad (tHand σ x w) (some (.int (oHand σ x w).1)) (oHand σ x w).2 := by
  obtain ⟨wI, wS, wZ, wO, wN, wP, wQ, wT, wR, wA, wE, wD, wB⟩ := hW
  have hC0 : RelC S ad (sT σ 0) := RelC_56 (A := σ.1) (B := σ.2) hC
  have c16 := wI.2.1.2
  have c10 := wI.2.2.1.2
  have c100 := wI.2.2.2.2.2.1.2
  by_cases h : chP σ x ∧ inP w 0 4
  · obtain ⟨k, k1, rfl⟩ := ch_ix wI h.1
    have e : tHand σ (nI k) w = 0 := gT_0 (pI9_ne.mpr h) (by decide) (by decide)
    rw [oHand, if_pos e, e, nx_nI (j := k) (by omega)]
    exact CU_C hC hG (c_X8_handOver l hl G S ad (sT σ 0) hC0 wI k k1 w h.2)
  · have e : tHand σ x w = 1 := gT_1 (pI9_z.mpr h)
    rw [oHand, if_neg (by rw [e]; decide), e]
    by_cases hx : chP σ x
    · obtain ⟨k, k1, rfl⟩ := ch_ix wI hx
      exact CU_X hC hG (Or.inl ⟨rfl, rfl⟩) (c_X8_handOverY l hl G S ad σ hC wI k k1 w fun z => h ⟨hx, z⟩)
    · exact CU_X hC hG (Or.inl ⟨rfl, rfl⟩) (c_X8_handOverX l hl G S ad σ hC wI x w (ch_no wI hx))
theorem u_home (l : Launch) (hl : l.stackTraces = false) (G : gG) (S : sS) (ad : Nat → Nat → Nat) (σ : aS) (hC : RelC S ad σ) (hG : GU S ad) (hW : IW σ) (a b c : Int32) : CU [eA, eS] l G yX8_home cX8_home 5 (Option.some FieldType.int) 7 2 24 [.int a, .int b, .int c] S ad (tHome σ a b c) (some (.int (oHome σ a b c).1)) (oHome σ a b c).2 := by
  obtain ⟨wI, wS, wZ, wO, wN, wP, wQ, wT, wR, wA, wE, wD, wB⟩ := hW
  have hC0 : RelC S ad (sT σ 0) := RelC_56 (A := σ.1) (B := σ.2) hC
  have c16 := wI.2.1.2
  have c10 := wI.2.2.1.2
  have c100 := wI.2.2.2.2.2.1.2
  have b1 : σ.2 20 = nI (cN σ 20) := wI.2.2.1.1
  by_cases h : inP a 0 50 ∧ inP b 0 3 ∧ inP c 1 5
  · by_cases h2 : σ.2 20 < 10
    · have e : tHome σ a b c = 0 := gT_0 (pI9_ne.mpr h) (bI_ne.mpr h2) (by decide)
      have hn : cN σ 20 < 10 := by
        rw [b1, Int32.lt_iff_toInt_lt, nI_toInt (by omega)] at h2
        have e16 : (10 : Int32).toInt = 10 := rfl
        omega
      rw [oHome, if_pos e, e]
      have e1 : σ.2 20 + 1 = nI (cN σ 20 + 1) := by rw [b1, nI_1]
      have g := c_X8_home l hl G S ad (sT σ 0) hC0 wI wS wQ a b c h (cN σ 20) rfl hn
      rw [e1, nI_prv]
      exact CU_C hC hG g
    · have e : tHome σ a b c = 2 := gT_2 (pI9_ne.mpr h) (bI_eq.mpr h2)
      rw [oHome, if_neg (by rw [e]; decide), e]
      exact CU_X hC hG (Or.inr (Or.inl ⟨rfl, rfl⟩)) (c_X8_homeZ l hl G S ad σ hC a b c h h2)
  · have e : tHome σ a b c = 1 := gT_1 (pI9_z.mpr h)
    rw [oHome, if_neg (by rw [e]; decide), e]
    exact CU_X hC hG (Or.inl ⟨rfl, rfl⟩) (c_X8_homeY l hl G S ad σ hC a b c h)
theorem u_child (l : Launch) (hl : l.stackTraces = false) (G : gG) (S : sS) (ad : Nat → Nat → Nat) (σ : aS) (hC : RelC S ad σ) (hG : GU S ad) (hW : IW σ) (a b c d e9 : Int32) : CU [eA, eS] l G yX8_child cX8_child 7 (Option.some FieldType.int) 7 16 200 [.int a, .int b, .int c, .int d, .int e9] S ad (tChild σ a b c d e9) (some (.int (oChild σ a b c d e9).1)) (oChild σ a b c d e9).2 := by
  obtain ⟨wI, wS, wZ, wO, wN, wP, wQ, wT, wR, wA, wE, wD, wB⟩ := hW
  have hC0 : RelC S ad (sT σ 0) := RelC_56 (A := σ.1) (B := σ.2) hC
  have c16 := wI.2.1.2
  have c10 := wI.2.2.1.2
  have c100 := wI.2.2.2.2.2.1.2
  have b1 : σ.2 1 = nI (cN σ 1) := wI.2.1.1
  by_cases h : inP a 0 7000 ∧ inP b 0 15 ∧ inP c 0 7 ∧ inP d 0 50 ∧ inP e9 0 3
  · by_cases h2 : σ.2 1 < 16
    · have e : tChild σ a b c d e9 = 0 := gT_0 (pI9_ne.mpr h) (bI_ne.mpr h2) (by decide)
      have hn : cN σ 1 < 16 := by
        rw [b1, Int32.lt_iff_toInt_lt, nI_toInt (by omega)] at h2
        have e16 : (16 : Int32).toInt = 16 := rfl
        omega
      rw [oChild, if_pos e, e]
      have e1 : σ.2 1 + 1 = nI (cN σ 1 + 1) := by rw [b1, nI_1]
      have g := c_X8_child l hl G S ad (sT σ 0) hC0 wI wS wN wQ a b c d e9 h (cN σ 1) rfl hn
      rw [e1, nI_prv]
      exact CU_C hC hG g
    · have e : tChild σ a b c d e9 = 2 := gT_2 (pI9_ne.mpr h) (bI_eq.mpr h2)
      rw [oChild, if_neg (by rw [e]; decide), e]
      exact CU_X hC hG (Or.inr (Or.inl ⟨rfl, rfl⟩)) (c_X8_childZ l hl G S ad σ hC a b c d e9 h h2)
  · have e : tChild σ a b c d e9 = 1 := gT_1 (pI9_z.mpr h)
    rw [oChild, if_neg (by rw [e]; decide), e]
    exact CU_X hC hG (Or.inl ⟨rfl, rfl⟩) (c_X8_childY l hl G S ad σ hC a b c d e9 h)
theorem u_wish (l : Launch) (hl : l.stackTraces = false) (G : gG) (S : sS) (ad : Nat → Nat → Nat) (σ : aS) (hC : RelC S ad σ) (hG : GU S ad) (hW : IW σ) (x y b : Int32) : CU [eB] l G yX8_wish cX8_wish 6 none 7 4 30 [.int x, .int y, .int b] S ad (tCH σ x y) none (oWish σ x y b) := by
  obtain ⟨wI, wS, wZ, wO, wN, wP, wQ, wT, wR, wA, wE, wD, wB⟩ := hW
  have hC0 : RelC S ad (sT σ 0) := RelC_56 (A := σ.1) (B := σ.2) hC
  have c16 := wI.2.1.2
  have c10 := wI.2.2.1.2
  have c100 := wI.2.2.2.2.2.1.2
  by_cases h : chP σ x ∧ hoP σ y
  · obtain ⟨k, k1, rfl⟩ := ch_ix wI h.1
    obtain ⟨w, w1, rfl⟩ := ho_ix wI h.2
    have e : tCH σ (nI k) (nI w) = 0 := gT_0 (pI9_ne.mpr h) (by decide) (by decide)
    rw [oWish, if_pos e, e, nx_nI (j := k) (by omega), nx_nI (j := w) (by omega)]
    exact CU_C hC hG (c_X8_wish l hl G S ad (sT σ 0) hC0 wI k k1 w w1 b)
  · have e : tCH σ x y = 1 := gT_1 (pI9_z.mpr h)
    rw [oWish, if_neg (by rw [e]; decide), e]
    refine CU_X hC hG (Or.inl ⟨rfl, rfl⟩) (c_X8_wishX l hl G S ad σ hC wI x y b ?_)
    by_cases hx : chP σ x
    · exact Or.inr (ho_no wI fun z => h ⟨hx, z⟩)
    · exact Or.inl (ch_no wI hx)
theorem u_place (l : Launch) (hl : l.stackTraces = false) (G : gG) (S : sS) (ad : Nat → Nat → Nat) (σ : aS) (hC : RelC S ad σ) (hG : GU S ad) (hW : IW σ) (x y : Int32) : CU [eB, eS] l G yX8_place cX8_place 5 (Option.some FieldType.int) 7 8 60 [.int x, .int y] S ad (tPlace σ x y) (some (.int (oPlace σ x y).1)) (oPlace σ x y).2 := by
  obtain ⟨wI, wS, wZ, wO, wN, wP, wQ, wT, wR, wA, wE, wD, wB⟩ := hW
  have hC0 : RelC S ad (sT σ 0) := RelC_56 (A := σ.1) (B := σ.2) hC
  have c16 := wI.2.1.2
  have c10 := wI.2.2.1.2
  have c100 := wI.2.2.2.2.2.1.2
  by_cases h : chP σ x ∧ hoP σ y
  · obtain ⟨k, k1, rfl⟩ := ch_ix wI h.1
    obtain ⟨w, w1, rfl⟩ := ho_ix wI h.2
    have ek : nx (nI k) = k := nx_nI (by omega)
    have ew : nx (nI w) = w := nx_nI (by omega)
    by_cases h2 : ¬ mHomeOf σ k = nI w ∧ mWhyNot σ k w = 0 ∧ σ.2 43 < 100
    · have e : tPlace σ (nI k) (nI w) = 0 := gT_0 (pI9_ne.mpr h) (pI9_ne.mpr ⟨h, by rw [ek, ew]; exact h2⟩) (by decide)
      rw [oPlace, if_pos e, e, ek]
      exact CU_C hC hG (c_X8_place l hl G S ad (sT σ 0) hC0 wI wS wO k k1 w w1 h2.1 h2.2.1 h2.2.2)
    · have e : tPlace σ (nI k) (nI w) = 2 := gT_2 (pI9_ne.mpr h) (pI9_z.mpr (by rw [ek, ew]; exact fun z => h2 z.2))
      rw [oPlace, if_neg (by rw [e]; decide), e]
      exact CU_X hC hG (Or.inr (Or.inl ⟨rfl, rfl⟩)) (c_X8_placeY l hl G S ad σ hC wI wS wO k k1 w w1 h2)
  · have e : tPlace σ x y = 1 := gT_1 (pI9_z.mpr h)
    rw [oPlace, if_neg (by rw [e]; decide), e]
    refine CU_X hC hG (Or.inl ⟨rfl, rfl⟩) (c_X8_placeX l hl G S ad σ hC wI x y ?_)
    by_cases hx : chP σ x
    · exact Or.inr (ho_no wI fun z => h ⟨hx, z⟩)
    · exact Or.inl (ch_no wI hx)

