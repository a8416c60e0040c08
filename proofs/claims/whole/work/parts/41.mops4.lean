/-! THE REFERENCE: see, risk, seeBy, order, counts, wish, why, worth, best, report. -/
theorem c_X9_see (l : Launch) (hl : l.stackTraces = false) (G : gG) (S : sS) (m : Nat) (σ : aS) (hR : RelR S m σ) (hI : IC σ) (x : Int32) : CtR l G yX9_see cX9_see 3 (Option.some FieldType.boolean) 4 [.ref m, .int x] S m (some (.int (oSee σ x).1)) (oSee σ x).2 := by
  have hm := hR.1
  have hRF := RF_0 hR
  have et : gT (bI (chP σ x)) 1 1 = tC σ x := rfl
  refine Ct_of (by decide) (cat1_all (by repeat first | exact trivial | refine ⟨by first | rfl | exact isR_c (isR_q _), ?_⟩)) (Nat.le_of_ble_eq_true rfl) hl fun X C hXl hin => ?_
  subst hXl
  dsimp only [lArgs, Nat.reduceAdd]
  have J : ∀ (b : Int32) (k : Nat) (h0 : tC σ (nI k) = 0) (ek : nx (nI k) = k) (hk16 : k < 16) (T : sS) (hRF : RF S T m σ.1 (up1 σ.2 56 0)) (hb : b = pI9 (¬ mSeenBy (sT σ 0) k = -1 ∧ mSeenBy (sT σ 0) k < σ.2 0)), V X G 3 (eQ X G (fun v T => v = some (.int (oSee σ (nI k)).1) ∧ RF S T m (oSee σ (nI k)).2.1 (oSee σ (nI k)).2.2) (fun _ _ => False) 0 0) 0 0 42 [(0, false, .ref m), (1, false, .int (nI k))] [.int b] T := fun b k h0 ek hk16 T hRF hb => by
    refine V_istore_n C dX9_see_42 (by decide) rfl ?_
    simp only [lset1, lset2, List.filter_cons, List.filter_nil, Nat.reduceBEq, Nat.reduceAdd, Bool.not_true, Bool.not_false, Bool.and_true, Bool.and_false, Bool.true_and, Bool.false_and, if_true, if_false, Bool.false_eq_true, reduceIte]
    refine V_aload_n C dX9_see_43 rfl (by first | exact isR_r _ | exact isR_q _ | exact isR_n) ?_
    refine V_mArr C 9 hRF rfl fl_X9_31 (by decide) dX9_see_44 (fun a44 ha44 => ?_)
    refine V_iload_n C dX9_see_47 rfl ?_
    refine V_aload_n C dX9_see_48 rfl (by first | exact isR_r _ | exact isR_q _ | exact isR_n) ?_
    refine V_mNum C 0 hRF fl_X9_187 (by decide) dX9_see_49 rfl ?_
    refine V_mSt C 9 hRF rfl rfl ha44 (by first | assumption | (show _ < _; omega)) dX9_see_52 (fun T hRF => ?_)
    refine V_iload_n C dX9_see_53 rfl ?_
    refine V_zret C (by rw [hb]; exact pI9_nz _) (by first | omega | decide) (by first | omega | decide) dX9_see_54 ?_
    refine ⟨?_, ?_⟩
    · unfold oSee
      rw [if_pos h0, hb, ek]
    · unfold oSee
      rw [if_pos h0, ek]
      exact hRF
  refine V_aload_n C dX9_see_0 rfl (by first | exact isR_r _ | exact isR_q _ | exact isR_n) ?_
  refine V_aload_n C dX9_see_1 rfl (by first | exact isR_r _ | exact isR_q _ | exact isR_n) ?_
  refine V_iload_n C dX9_see_2 rfl ?_
  refine V_fV C (c_X9_isChild _ hl G S m σ hR x) kv_X9_208 cf_9 (by decide) rfl hRF.1.1 (by decide) (by decide) rfl rfl (Nat.le_of_ble_eq_true rfl) dX9_see_3 ?_
  dsimp only [Option.toList_some, Option.toList_none, List.cons_append, List.nil_append]
  refine V_iconst C (v := 1) dX9_see_6 (by decide) ?_
  refine V_iconst C (v := 1) dX9_see_7 (by decide) ?_
  refine V_fV C (c_X9_goes _ hl G S m hm (bI (chP σ x)) 1 1) kv_X9_179 cf_9 (by decide) rfl hRF.1.1 (by decide) (by decide) rfl rfl (Nat.le_of_ble_eq_true rfl) dX9_see_8 ?_
  dsimp only [Option.toList_some, Option.toList_none, List.cons_append, List.nil_append]
  rw [et]
  refine V_genT (RF_I hRF (f := 56) rfl) (fun T hRF => ?_)
  refine V_if_ne C (tgt := 16) dX9_see_11 (by decide) (fun h11 => ?_) (fun h11 => ?_)
  · have h0 := bI_ne.mp h11
    rw [h0] at hRF
    obtain ⟨k, hk, rfl⟩ := ch_ix hI (bI_ne.mp (gT_x (et.trans h0)).1)
    have hk16 : k < 16 := by have := hI.2.1.2; omega
    have ek : nx (nI k) = k := nI_clamp (by omega)
    refine V_aload_n C dX9_see_16 rfl (by first | exact isR_r _ | exact isR_q _ | exact isR_n) ?_
    refine V_iload_n C dX9_see_17 rfl ?_
    refine V_fV C (c_X9_seenBy _ hl G _ m (sT σ 0) hRF.1 hI k hk16) kv_X9_214 cf_9 (by decide) rfl hRF.1.1 (by decide) (by decide) rfl rfl (Nat.le_of_ble_eq_true rfl) dX9_see_18 ?_
    dsimp only [Option.toList_some, Option.toList_none, List.cons_append, List.nil_append]
    refine V_iconst C (v := (-1)) dX9_see_21 (by decide) ?_
    refine V_icmp_eq C (tgt := 41) dX9_see_22 (by decide) (fun h22 => ?_) (fun h22 => ?_)
    · refine V_iconst C (v := 0) dX9_see_41 (by decide) ?_
      refine J _ _ h0 ek hk16 T hRF ?_
      first | exact Eq.symm (pI9_f (fun q => q.1 h22)) | exact Eq.symm (pI9_f (fun q => absurd q.2 (Int32.not_lt.mpr h34))) | exact Eq.symm (pI9_t ⟨h22, Int32.not_le.mp h34⟩)
    · refine V_aload_n C dX9_see_25 rfl (by first | exact isR_r _ | exact isR_q _ | exact isR_n) ?_
      refine V_mNum C 0 hRF fl_X9_187 (by decide) dX9_see_26 rfl ?_
      refine V_aload_n C dX9_see_29 rfl (by first | exact isR_r _ | exact isR_q _ | exact isR_n) ?_
      refine V_iload_n C dX9_see_30 rfl ?_
      refine V_fV C (c_X9_seenBy _ hl G _ m (sT σ 0) hRF.1 hI k hk16) kv_X9_214 cf_9 (by decide) rfl hRF.1.1 (by decide) (by decide) rfl rfl (Nat.le_of_ble_eq_true rfl) dX9_see_31 ?_
      dsimp only [Option.toList_some, Option.toList_none, List.cons_append, List.nil_append]
      refine V_icmp_le C (tgt := 41) dX9_see_34 (by decide) (fun h34 => ?_) (fun h34 => ?_)
      · refine V_iconst C (v := 0) dX9_see_41 (by decide) ?_
        refine J _ _ h0 ek hk16 T hRF ?_
        first | exact Eq.symm (pI9_f (fun q => q.1 h22)) | exact Eq.symm (pI9_f (fun q => absurd q.2 (Int32.not_lt.mpr h34))) | exact Eq.symm (pI9_t ⟨h22, Int32.not_le.mp h34⟩)
      · refine V_iconst C (v := 1) dX9_see_37 (by decide) ?_
        refine V_goto C (tgt := 42) dX9_see_38 (by decide) ?_
        refine J _ _ h0 ek hk16 T hRF ?_
        first | exact Eq.symm (pI9_f (fun q => q.1 h22)) | exact Eq.symm (pI9_f (fun q => absurd q.2 (Int32.not_lt.mpr h34))) | exact Eq.symm (pI9_t ⟨h22, Int32.not_le.mp h34⟩)
  · have h0 := bI_eq.mp h11
    refine V_iconst C (v := 0) dX9_see_14 (by decide) ?_
    refine V_zret C (by first | rfl | exact bI_nz _) (by first | omega | decide) (by first | omega | decide) dX9_see_15 ?_
    refine ⟨?_, ?_⟩
    · unfold oSee
      rw [if_neg h0]
    · unfold oSee
      rw [if_neg h0]
      exact hRF
theorem c_X9_risk (l : Launch) (hl : l.stackTraces = false) (G : gG) (S : sS) (m : Nat) (σ : aS) (hR : RelR S m σ) (hI : IC σ) (x : Int32) : CtR l G yX9_risk cX9_risk 2 (Option.some FieldType.int) 3 [.ref m, .int x] S m (some (.int (oRisk σ x).1)) (oRisk σ x).2 := by
  have hm := hR.1
  have hRF := RF_0 hR
  have et : gT (bI (chP σ x)) 1 1 = tC σ x := rfl
  refine Ct_of (by decide) (cat1_all (by repeat first | exact trivial | refine ⟨by first | rfl | exact isR_c (isR_q _), ?_⟩)) (Nat.le_of_ble_eq_true rfl) hl fun X C hXl hin => ?_
  subst hXl
  dsimp only [lArgs, Nat.reduceAdd]
  refine V_aload_n C dX9_risk_0 rfl (by first | exact isR_r _ | exact isR_q _ | exact isR_n) ?_
  refine V_aload_n C dX9_risk_1 rfl (by first | exact isR_r _ | exact isR_q _ | exact isR_n) ?_
  refine V_iload_n C dX9_risk_2 rfl ?_
  refine V_fV C (c_X9_isChild _ hl G S m σ hR x) kv_X9_208 cf_9 (by decide) rfl hRF.1.1 (by decide) (by decide) rfl rfl (Nat.le_of_ble_eq_true rfl) dX9_risk_3 ?_
  dsimp only [Option.toList_some, Option.toList_none, List.cons_append, List.nil_append]
  refine V_iconst C (v := 1) dX9_risk_6 (by decide) ?_
  refine V_iconst C (v := 1) dX9_risk_7 (by decide) ?_
  refine V_fV C (c_X9_goes _ hl G S m hm (bI (chP σ x)) 1 1) kv_X9_179 cf_9 (by decide) rfl hRF.1.1 (by decide) (by decide) rfl rfl (Nat.le_of_ble_eq_true rfl) dX9_risk_8 ?_
  dsimp only [Option.toList_some, Option.toList_none, List.cons_append, List.nil_append]
  rw [et]
  refine V_genT (RF_I hRF (f := 56) rfl) (fun T hRF => ?_)
  refine V_if_eq C (tgt := 22) dX9_risk_11 (by decide) (fun h11 => ?_) (fun h11 => ?_)
  · have h0 := bI_eq.mp h11
    refine V_iconst C (v := 0) dX9_risk_22 (by decide) ?_
    refine V_iret C (by first | omega | decide) (by first | omega | decide) dX9_risk_23 ?_
    unfold oRisk
    first | (rw [if_pos h0, ek]; exact ⟨rfl, hRF⟩) | (rw [if_neg h0]; exact ⟨rfl, hRF⟩)
  · have h0 := bI_ne.mp h11
    rw [h0] at hRF
    obtain ⟨k, hk, rfl⟩ := ch_ix hI (bI_ne.mp (gT_x (et.trans h0)).1)
    have hk16 : k < 16 := by have := hI.2.1.2; omega
    have ek : nx (nI k) = k := nI_clamp (by omega)
    refine V_aload_n C dX9_risk_14 rfl (by first | exact isR_r _ | exact isR_q _ | exact isR_n) ?_
    refine V_iload_n C dX9_risk_15 rfl ?_
    refine V_fV C (c_X9_riskOf _ hl G _ m (sT σ 0) hRF.1 hI k hk16) kv_X9_211 cf_9 (by decide) rfl hRF.1.1 (by decide) (by decide) rfl rfl (Nat.le_of_ble_eq_true rfl) dX9_risk_16 ?_
    dsimp only [Option.toList_some, Option.toList_none, List.cons_append, List.nil_append]
    refine V_goto C (tgt := 23) dX9_risk_19 (by decide) ?_
    refine V_iret C (by first | omega | decide) (by first | omega | decide) dX9_risk_23 ?_
    unfold oRisk
    first | (rw [if_pos h0, ek]; exact ⟨rfl, hRF⟩) | (rw [if_neg h0]; exact ⟨rfl, hRF⟩)
theorem c_X9_seeBy (l : Launch) (hl : l.stackTraces = false) (G : gG) (S : sS) (m : Nat) (σ : aS) (hR : RelR S m σ) (hI : IC σ) (x : Int32) : CtR l G yX9_seeBy cX9_seeBy 2 (Option.some FieldType.int) 4 [.ref m, .int x] S m (some (.int (oSeeBy σ x).1)) (oSeeBy σ x).2 := by
  have hm := hR.1
  have hRF := RF_0 hR
  have et : gT (bI (chP σ x)) 1 1 = tC σ x := rfl
  refine Ct_of (by decide) (cat1_all (by repeat first | exact trivial | refine ⟨by first | rfl | exact isR_c (isR_q _), ?_⟩)) (Nat.le_of_ble_eq_true rfl) hl fun X C hXl hin => ?_
  subst hXl
  dsimp only [lArgs, Nat.reduceAdd]
  refine V_aload_n C dX9_seeBy_0 rfl (by first | exact isR_r _ | exact isR_q _ | exact isR_n) ?_
  refine V_aload_n C dX9_seeBy_1 rfl (by first | exact isR_r _ | exact isR_q _ | exact isR_n) ?_
  refine V_iload_n C dX9_seeBy_2 rfl ?_
  refine V_fV C (c_X9_isChild _ hl G S m σ hR x) kv_X9_208 cf_9 (by decide) rfl hRF.1.1 (by decide) (by decide) rfl rfl (Nat.le_of_ble_eq_true rfl) dX9_seeBy_3 ?_
  dsimp only [Option.toList_some, Option.toList_none, List.cons_append, List.nil_append]
  refine V_iconst C (v := 1) dX9_seeBy_6 (by decide) ?_
  refine V_iconst C (v := 1) dX9_seeBy_7 (by decide) ?_
  refine V_fV C (c_X9_goes _ hl G S m hm (bI (chP σ x)) 1 1) kv_X9_179 cf_9 (by decide) rfl hRF.1.1 (by decide) (by decide) rfl rfl (Nat.le_of_ble_eq_true rfl) dX9_seeBy_8 ?_
  dsimp only [Option.toList_some, Option.toList_none, List.cons_append, List.nil_append]
  rw [et]
  refine V_genT (RF_I hRF (f := 56) rfl) (fun T hRF => ?_)
  refine V_if_eq C (tgt := 22) dX9_seeBy_11 (by decide) (fun h11 => ?_) (fun h11 => ?_)
  · have h0 := bI_eq.mp h11
    refine V_iconst C (v := 0) dX9_seeBy_22 (by decide) ?_
    refine V_iret C (by first | omega | decide) (by first | omega | decide) dX9_seeBy_23 ?_
    unfold oSeeBy
    first | (rw [if_pos h0, ek]; exact ⟨rfl, hRF⟩) | (rw [if_neg h0]; exact ⟨rfl, hRF⟩)
  · have h0 := bI_ne.mp h11
    rw [h0] at hRF
    obtain ⟨k, hk, rfl⟩ := ch_ix hI (bI_ne.mp (gT_x (et.trans h0)).1)
    have hk16 : k < 16 := by have := hI.2.1.2; omega
    have ek : nx (nI k) = k := nI_clamp (by omega)
    refine V_aload_n C dX9_seeBy_14 rfl (by first | exact isR_r _ | exact isR_q _ | exact isR_n) ?_
    refine V_iload_n C dX9_seeBy_15 rfl ?_
    refine V_fV C (c_X9_seenBy _ hl G _ m (sT σ 0) hRF.1 hI k hk16) kv_X9_214 cf_9 (by decide) rfl hRF.1.1 (by decide) (by decide) rfl rfl (Nat.le_of_ble_eq_true rfl) dX9_seeBy_16 ?_
    dsimp only [Option.toList_some, Option.toList_none, List.cons_append, List.nil_append]
    refine V_goto C (tgt := 23) dX9_seeBy_19 (by decide) ?_
    refine V_iret C (by first | omega | decide) (by first | omega | decide) dX9_seeBy_23 ?_
    unfold oSeeBy
    first | (rw [if_pos h0, ek]; exact ⟨rfl, hRF⟩) | (rw [if_neg h0]; exact ⟨rfl, hRF⟩)
theorem c_X9_counts (l : Launch) (hl : l.stackTraces = false) (G : gG) (S : sS) (m : Nat) (σ : aS) (hR : RelR S m σ) (hI : IC σ) (x on : Int32) : CtR l G yX9_counts cX9_counts 3 (Option.some FieldType.int) 3 [.ref m, .int x, .int on] S m (some (.int (oCounts σ x on).1)) (oCounts σ x on).2 := by
  have hm := hR.1
  have hRF := RF_0 hR
  have et : gT (bI (chP σ x)) (bI (inP on 0 30000)) 1 = tCounts σ x on := rfl
  refine Ct_of (by decide) (cat1_all (by repeat first | exact trivial | refine ⟨by first | rfl | exact isR_c (isR_q _), ?_⟩)) (Nat.le_of_ble_eq_true rfl) hl fun X C hXl hin => ?_
  subst hXl
  dsimp only [lArgs, Nat.reduceAdd]
  refine V_aload_n C dX9_counts_0 rfl (by first | exact isR_r _ | exact isR_q _ | exact isR_n) ?_
  refine V_aload_n C dX9_counts_1 rfl (by first | exact isR_r _ | exact isR_q _ | exact isR_n) ?_
  refine V_iload_n C dX9_counts_2 rfl ?_
  refine V_fV C (c_X9_isChild _ hl G S m σ hR x) kv_X9_208 cf_9 (by decide) rfl hRF.1.1 (by decide) (by decide) rfl rfl (Nat.le_of_ble_eq_true rfl) dX9_counts_3 ?_
  dsimp only [Option.toList_some, Option.toList_none, List.cons_append, List.nil_append]
  refine V_iload_n C dX9_counts_6 rfl ?_
  refine V_iconst C (v := 0) dX9_counts_7 (by decide) ?_
  refine V_sipush C (v := 30000) dX9_counts_8 (by decide) ?_
  refine V_fS C (c_X9_in _ hl G S on 0 30000) ks_X9_165 (by decide) (by decide) rfl rfl (Nat.le_of_ble_eq_true rfl) dX9_counts_11 ?_
  dsimp only [Option.toList_some, Option.toList_none, List.cons_append, List.nil_append]
  refine V_iconst C (v := 1) dX9_counts_14 (by decide) ?_
  refine V_fV C (c_X9_goes _ hl G S m hm (bI (chP σ x)) (bI (inP on 0 30000)) 1) kv_X9_179 cf_9 (by decide) rfl hRF.1.1 (by decide) (by decide) rfl rfl (Nat.le_of_ble_eq_true rfl) dX9_counts_15 ?_
  dsimp only [Option.toList_some, Option.toList_none, List.cons_append, List.nil_append]
  rw [et]
  refine V_genT (RF_I hRF (f := 56) rfl) (fun T hRF => ?_)
  refine V_if_eq C (tgt := 30) dX9_counts_18 (by decide) (fun h18 => ?_) (fun h18 => ?_)
  · have h0 := bI_eq.mp h18
    refine V_iconst C (v := 0) dX9_counts_30 (by decide) ?_
    refine V_iret C (by first | omega | decide) (by first | omega | decide) dX9_counts_31 ?_
    unfold oCounts
    first | (rw [if_pos h0]; exact ⟨rfl, hRF⟩) | (rw [if_neg h0]; exact ⟨rfl, hRF⟩)
  · have h0 := bI_ne.mp h18
    rw [h0] at hRF
    refine V_aload_n C dX9_counts_21 rfl (by first | exact isR_r _ | exact isR_q _ | exact isR_n) ?_
    refine V_iload_n C dX9_counts_22 rfl ?_
    refine V_iload_n C dX9_counts_23 rfl ?_
    refine V_fV C (c_X9_countsOn _ hl G _ m (sT σ 0) hRF.1 hI x on) kv_X9_220 cf_9 (by decide) rfl hRF.1.1 (by decide) (by decide) rfl rfl (Nat.le_of_ble_eq_true rfl) dX9_counts_24 ?_
    dsimp only [Option.toList_some, Option.toList_none, List.cons_append, List.nil_append]
    refine V_goto C (tgt := 31) dX9_counts_27 (by decide) ?_
    refine V_iret C (by first | omega | decide) (by first | omega | decide) dX9_counts_31 ?_
    unfold oCounts
    first | (rw [if_pos h0]; exact ⟨rfl, hRF⟩) | (rw [if_neg h0]; exact ⟨rfl, hRF⟩)
theorem c_X9_order (l : Launch) (hl : l.stackTraces = false) (G : gG) (S : sS) (m : Nat) (σ : aS) (hR : RelR S m σ) (hI : IC σ) (x kd fr dy : Int32) : CtR l G yX9_order cX9_order 5 (Option.some FieldType.int) 3 [.ref m, .int x, .int kd, .int fr, .int dy] S m (some (.int (oOrder σ x kd fr dy).1)) (oOrder σ x kd fr dy).2 := by
  have hm := hR.1
  have hRF := RF_0 hR
  obtain ⟨n, hn⟩ : ∃ n, n = cN σ 38 := ⟨_, rfl⟩
  have hn16 : n ≤ 60 := by rw [hn]; exact hI.2.2.2.2.1.2
  have en : σ.2 38 = nI n := by rw [hn]; exact hI.2.2.2.2.1.1
  refine Ct_of (by decide) (cat1_all (by repeat first | exact trivial | refine ⟨by first | rfl | exact isR_c (isR_q _), ?_⟩)) (Nat.le_of_ble_eq_true rfl) hl fun X C hXl hin => ?_
  subst hXl
  dsimp only [lArgs, Nat.reduceAdd]
  have J2 : ∀ (y z : Int32), y = pI9 (inP kd 0 2 ∧ inP fr (σ.2 0) 20000 ∧ inP dy 1 7000) → z = bI (σ.2 38 < 60) → V X G 5 (eQ X G (fun v T => v = some (.int (oOrder σ x kd fr dy).1) ∧ RF S T m (oOrder σ x kd fr dy).2.1 (oOrder σ x kd fr dy).2.2) (fun _ _ => False) 0 0) 0 0 60 [(0, false, .ref m), (1, false, .int x), (2, false, .int kd), (3, false, .int fr), (4, false, .int dy)] [.int z, .int y, .int (bI (chP σ x)), .ref m] S := fun y z hy hz => by
    have et : gT (bI (chP σ x)) y z = tOrder σ x kd fr dy := by rw [hy, hz]; rfl
    refine V_fV C (c_X9_goes _ hl G S m hm (bI (chP σ x)) y z) kv_X9_179 cf_9 (by decide) rfl hRF.1.1 (by decide) (by decide) rfl rfl (Nat.le_of_ble_eq_true rfl) dX9_order_60 ?_
    dsimp only [Option.toList_some, Option.toList_none, List.cons_append, List.nil_append]
    rw [et]
    refine V_genT (RF_I hRF (f := 56) rfl) (fun T hRF => ?_)
    refine V_if_ne C (tgt := 68) dX9_order_63 (by decide) (fun h63 => ?_) (fun h63 => ?_)
    · have h0 := bI_ne.mp h63
      rw [h0] at hRF
      have hlt : n < 60 := by
        have q := (gT_x (et.trans h0)).2.2
        rw [hz] at q
        have q2 := bI_ne.mp q
        rw [en] at q2
        exact (nI_ltI (by omega) (by decide)).mp q2
      refine V_aload_n C dX9_order_68 rfl (by first | exact isR_r _ | exact isR_q _ | exact isR_n) ?_
      refine V_mArr C 39 hRF rfl fl_X9_113 (by decide) dX9_order_69 (fun a69 ha69 => ?_)
      refine V_aload_n C dX9_order_72 rfl (by first | exact isR_r _ | exact isR_q _ | exact isR_n) ?_
      refine V_mNum C 38 hRF fl_X9_217 (by decide) dX9_order_73 en ?_
      refine V_iload_n C dX9_order_76 rfl ?_
      refine V_mSt C 39 hRF rfl rfl ha69 (by first | assumption | (show _ < _; omega)) dX9_order_77 (fun T hRF => ?_)
      refine V_aload_n C dX9_order_78 rfl (by first | exact isR_r _ | exact isR_q _ | exact isR_n) ?_
      refine V_mArr C 40 hRF rfl fl_X9_116 (by decide) dX9_order_79 (fun a79 ha79 => ?_)
      refine V_aload_n C dX9_order_82 rfl (by first | exact isR_r _ | exact isR_q _ | exact isR_n) ?_
      refine V_mNum C 38 hRF fl_X9_217 (by decide) dX9_order_83 en ?_
      refine V_iload_n C dX9_order_86 rfl ?_
      refine V_mSt C 40 hRF rfl rfl ha79 (by first | assumption | (show _ < _; omega)) dX9_order_87 (fun T hRF => ?_)
      refine V_aload_n C dX9_order_88 rfl (by first | exact isR_r _ | exact isR_q _ | exact isR_n) ?_
      refine V_mArr C 41 hRF rfl fl_X9_119 (by decide) dX9_order_89 (fun a89 ha89 => ?_)
      refine V_aload_n C dX9_order_92 rfl (by first | exact isR_r _ | exact isR_q _ | exact isR_n) ?_
      refine V_mNum C 38 hRF fl_X9_217 (by decide) dX9_order_93 en ?_
      refine V_iload_n C dX9_order_96 rfl ?_
      refine V_mSt C 41 hRF rfl rfl ha89 (by first | assumption | (show _ < _; omega)) dX9_order_97 (fun T hRF => ?_)
      refine V_aload_n C dX9_order_98 rfl (by first | exact isR_r _ | exact isR_q _ | exact isR_n) ?_
      refine V_mArr C 42 hRF rfl fl_X9_122 (by decide) dX9_order_99 (fun a99 ha99 => ?_)
      refine V_aload_n C dX9_order_102 rfl (by first | exact isR_r _ | exact isR_q _ | exact isR_n) ?_
      refine V_mNum C 38 hRF fl_X9_217 (by decide) dX9_order_103 en ?_
      refine V_iload_n C dX9_order_106 rfl ?_
      refine V_iload C dX9_order_107 rfl ?_
      refine V_iadd C dX9_order_109 ?_
      refine V_iconst C (v := 1) dX9_order_110 (by decide) ?_
      refine V_isub C dX9_order_111 ?_
      refine V_mSt C 42 hRF rfl rfl ha99 (by first | assumption | (show _ < _; omega)) dX9_order_112 (fun T hRF => ?_)
      refine V_aload_n C dX9_order_113 rfl (by first | exact isR_r _ | exact isR_q _ | exact isR_n) ?_
      refine V_dup C dX9_order_114 (by first | rfl | exact isR_c (isR_q _)) ?_
      refine V_mNum C 38 hRF fl_X9_217 (by decide) dX9_order_115 en ?_
      refine V_iconst C (v := 1) dX9_order_118 (by decide) ?_
      refine V_iadd C dX9_order_119 ?_
      refine V_mPut C 38 hRF pl_X9_217 (by decide) dX9_order_120 (fun T hRF => ?_)
      refine V_aload_n C dX9_order_123 rfl (by first | exact isR_r _ | exact isR_q _ | exact isR_n) ?_
      refine V_mNum C 38 hRF fl_X9_217 (by decide) dX9_order_124 up1_s ?_
      refine V_iconst C (v := 1) dX9_order_127 (by decide) ?_
      refine V_isub C dX9_order_128 ?_
      refine V_iret C (by first | omega | decide) (by first | omega | decide) dX9_order_129 ?_
      refine ⟨?_, ?_⟩
      · unfold oOrder
        rw [if_pos h0, en]
      · unfold oOrder
        rw [if_pos h0, en, ← hn]
        exact hRF
    · have h0 := bI_eq.mp h63
      refine V_iconst C (v := 0) dX9_order_66 (by decide) ?_
      refine V_iret C (by first | omega | decide) (by first | omega | decide) dX9_order_67 ?_
      refine ⟨?_, ?_⟩
      · unfold oOrder
        rw [if_neg h0]
      · unfold oOrder
        rw [if_neg h0]
        exact hRF
  have J : ∀ y : Int32, y = pI9 (inP kd 0 2 ∧ inP fr (σ.2 0) 20000 ∧ inP dy 1 7000) → V X G 5 (eQ X G (fun v T => v = some (.int (oOrder σ x kd fr dy).1) ∧ RF S T m (oOrder σ x kd fr dy).2.1 (oOrder σ x kd fr dy).2.2) (fun _ _ => False) 0 0) 0 0 46 [(0, false, .ref m), (1, false, .int x), (2, false, .int kd), (3, false, .int fr), (4, false, .int dy)] [.int y, .int (bI (chP σ x)), .ref m] S := fun y hy => by
    refine V_aload_n C dX9_order_46 rfl (by first | exact isR_r _ | exact isR_q _ | exact isR_n) ?_
    refine V_mNum C 38 hRF fl_X9_217 (by decide) dX9_order_47 en ?_
    refine V_bipush C (v := 60) dX9_order_50 (by decide) ?_
    rw [show (60 : Int32) = nI 60 from rfl]
    refine V_igeN C (tgt := 59) (by omega) (by omega) dX9_order_52 (by decide) (fun h52 => ?_) (fun h52 => ?_)
    · refine V_iconst C (v := 0) dX9_order_59 (by decide) ?_
      refine J2 _ _ hy ?_
      rw [en, show (60 : Int32) = nI 60 from rfl]
      first | exact (bI_t ((nI_ltI (by omega) (by decide)).mpr h52)).symm | exact (bI_f (fun q => absurd ((nI_ltI (by omega) (by decide)).mp q) (by omega))).symm
    · refine V_iconst C (v := 1) dX9_order_55 (by decide) ?_
      refine V_goto C (tgt := 60) dX9_order_56 (by decide) ?_
      refine J2 _ _ hy ?_
      rw [en, show (60 : Int32) = nI 60 from rfl]
      first | exact (bI_t ((nI_ltI (by omega) (by decide)).mpr h52)).symm | exact (bI_f (fun q => absurd ((nI_ltI (by omega) (by decide)).mp q) (by omega))).symm
  refine V_aload_n C dX9_order_0 rfl (by first | exact isR_r _ | exact isR_q _ | exact isR_n) ?_
  refine V_aload_n C dX9_order_1 rfl (by first | exact isR_r _ | exact isR_q _ | exact isR_n) ?_
  refine V_iload_n C dX9_order_2 rfl ?_
  refine V_fV C (c_X9_isChild _ hl G S m σ hR x) kv_X9_208 cf_9 (by decide) rfl hRF.1.1 (by decide) (by decide) rfl rfl (Nat.le_of_ble_eq_true rfl) dX9_order_3 ?_
  dsimp only [Option.toList_some, Option.toList_none, List.cons_append, List.nil_append]
  refine V_iload_n C dX9_order_6 rfl ?_
  refine V_iconst C (v := 0) dX9_order_7 (by decide) ?_
  refine V_iconst C (v := 2) dX9_order_8 (by decide) ?_
  refine V_fS C (c_X9_in _ hl G S kd 0 2) ks_X9_165 (by decide) (by decide) rfl rfl (Nat.le_of_ble_eq_true rfl) dX9_order_9 ?_
  dsimp only [Option.toList_some, Option.toList_none, List.cons_append, List.nil_append]
  refine V_if_eq C (tgt := 45) dX9_order_12 (by decide) (fun h12 => ?_) (fun h12 => ?_)
  · refine V_iconst C (v := 0) dX9_order_45 (by decide) ?_
    refine J _ ?_
    first | exact Eq.symm (pI9_t ⟨bI_ne.mp h12, bI_ne.mp h26, bI_ne.mp h38⟩) | exact Eq.symm (pI9_f (fun q => bI_eq.mp h12 q.1)) | exact Eq.symm (pI9_f (fun q => bI_eq.mp h26 q.2.1)) | exact Eq.symm (pI9_f (fun q => bI_eq.mp h38 q.2.2))
  · refine V_iload_n C dX9_order_15 rfl ?_
    refine V_aload_n C dX9_order_16 rfl (by first | exact isR_r _ | exact isR_q _ | exact isR_n) ?_
    refine V_mNum C 0 hRF fl_X9_187 (by decide) dX9_order_17 rfl ?_
    refine V_sipush C (v := 20000) dX9_order_20 (by decide) ?_
    refine V_fS C (c_X9_in _ hl G S fr (σ.2 0) 20000) ks_X9_165 (by decide) (by decide) rfl rfl (Nat.le_of_ble_eq_true rfl) dX9_order_23 ?_
    dsimp only [Option.toList_some, Option.toList_none, List.cons_append, List.nil_append]
    refine V_if_eq C (tgt := 45) dX9_order_26 (by decide) (fun h26 => ?_) (fun h26 => ?_)
    · refine V_iconst C (v := 0) dX9_order_45 (by decide) ?_
      refine J _ ?_
      first | exact Eq.symm (pI9_t ⟨bI_ne.mp h12, bI_ne.mp h26, bI_ne.mp h38⟩) | exact Eq.symm (pI9_f (fun q => bI_eq.mp h12 q.1)) | exact Eq.symm (pI9_f (fun q => bI_eq.mp h26 q.2.1)) | exact Eq.symm (pI9_f (fun q => bI_eq.mp h38 q.2.2))
    · refine V_iload C dX9_order_29 rfl ?_
      refine V_iconst C (v := 1) dX9_order_31 (by decide) ?_
      refine V_sipush C (v := 7000) dX9_order_32 (by decide) ?_
      refine V_fS C (c_X9_in _ hl G S dy 1 7000) ks_X9_165 (by decide) (by decide) rfl rfl (Nat.le_of_ble_eq_true rfl) dX9_order_35 ?_
      dsimp only [Option.toList_some, Option.toList_none, List.cons_append, List.nil_append]
      refine V_if_eq C (tgt := 45) dX9_order_38 (by decide) (fun h38 => ?_) (fun h38 => ?_)
      · refine V_iconst C (v := 0) dX9_order_45 (by decide) ?_
        refine J _ ?_
        first | exact Eq.symm (pI9_t ⟨bI_ne.mp h12, bI_ne.mp h26, bI_ne.mp h38⟩) | exact Eq.symm (pI9_f (fun q => bI_eq.mp h12 q.1)) | exact Eq.symm (pI9_f (fun q => bI_eq.mp h26 q.2.1)) | exact Eq.symm (pI9_f (fun q => bI_eq.mp h38 q.2.2))
      · refine V_iconst C (v := 1) dX9_order_41 (by decide) ?_
        refine V_goto C (tgt := 46) dX9_order_42 (by decide) ?_
        refine J _ ?_
        first | exact Eq.symm (pI9_t ⟨bI_ne.mp h12, bI_ne.mp h26, bI_ne.mp h38⟩) | exact Eq.symm (pI9_f (fun q => bI_eq.mp h12 q.1)) | exact Eq.symm (pI9_f (fun q => bI_eq.mp h26 q.2.1)) | exact Eq.symm (pI9_f (fun q => bI_eq.mp h38 q.2.2))
theorem c_X9_why (l : Launch) (hl : l.stackTraces = false) (G : gG) (S : sS) (m : Nat) (σ : aS) (hR : RelR S m σ) (hI : IC σ) (x h : Int32) : CtR l G yX9_why cX9_why 3 (Option.some FieldType.int) 6 [.ref m, .int x, .int h] S m (some (.int (oWhy σ x h).1)) (oWhy σ x h).2 := by
  have hm := hR.1
  have hRF := RF_0 hR
  refine Ct_of (by decide) (cat1_all (by repeat first | exact trivial | refine ⟨by first | rfl | exact isR_c (isR_q _), ?_⟩)) (Nat.le_of_ble_eq_true rfl) hl fun X C hXl hin => ?_
  subst hXl
  dsimp only [lArgs, Nat.reduceAdd]
  have J : ∀ y : Int32, y = pI9 (chP σ x ∧ hoP σ h) → V X G 3 (eQ X G (fun v T => v = some (.int (oWhy σ x h).1) ∧ RF S T m (oWhy σ x h).2.1 (oWhy σ x h).2.2) (fun _ _ => False) 0 0) 0 0 22 [(0, false, .ref m), (1, false, .int x), (2, false, .int h)] [.int y, .ref m] S := fun y hy => by
    have et : gT y 1 1 = tCH σ x h := by rw [hy]; rfl
    refine V_iconst C (v := 1) dX9_why_22 (by decide) ?_
    refine V_iconst C (v := 1) dX9_why_23 (by decide) ?_
    refine V_fV C (c_X9_goes _ hl G S m hm y 1 1) kv_X9_179 cf_9 (by decide) rfl hRF.1.1 (by decide) (by decide) rfl rfl (Nat.le_of_ble_eq_true rfl) dX9_why_24 ?_
    dsimp only [Option.toList_some, Option.toList_none, List.cons_append, List.nil_append]
    rw [et]
    refine V_genT (RF_I hRF (f := 56) rfl) (fun T hRF => ?_)
    refine V_if_eq C (tgt := 39) dX9_why_27 (by decide) (fun h27 => ?_) (fun h27 => ?_)
    · have h0 := bI_eq.mp h27
      refine V_iconst C (v := 0) dX9_why_39 (by decide) ?_
      refine V_iret C (by first | omega | decide) (by first | omega | decide) dX9_why_40 ?_
      unfold oWhy
      first | (rw [if_pos h0, ek, ej]; exact ⟨rfl, hRF⟩) | (rw [if_neg h0]; exact ⟨rfl, hRF⟩)
    · have h0 := bI_ne.mp h27
      rw [h0] at hRF
      have hq := (gT_x (et.trans h0)).1
      rw [hy] at hq
      obtain ⟨⟨k, hk, rfl⟩, ⟨j, hj, rfl⟩⟩ := And.intro (ch_ix hI (pI9_ne.mp hq).1) (ho_ix hI (pI9_ne.mp hq).2)
      have hk16 : k < 16 := by have := hI.2.1.2; omega
      have hj10 : j < 10 := by have := hI.2.2.1.2; omega
      have ek : nx (nI k) = k := nI_clamp (by omega)
      have ej : nx (nI j) = j := nI_clamp (by omega)
      refine V_aload_n C dX9_why_30 rfl (by first | exact isR_r _ | exact isR_q _ | exact isR_n) ?_
      refine V_iload_n C dX9_why_31 rfl ?_
      refine V_iload_n C dX9_why_32 rfl ?_
      refine V_fV C (c_X9_whyNot _ hl G _ m (sT σ 0) hRF.1 hI k hk16 j hj10) kv_X9_243 cf_9 (by decide) rfl hRF.1.1 (by decide) (by decide) rfl rfl (Nat.le_of_ble_eq_true rfl) dX9_why_33 ?_
      dsimp only [Option.toList_some, Option.toList_none, List.cons_append, List.nil_append]
      refine V_goto C (tgt := 40) dX9_why_36 (by decide) ?_
      refine V_iret C (by first | omega | decide) (by first | omega | decide) dX9_why_40 ?_
      unfold oWhy
      first | (rw [if_pos h0, ek, ej]; exact ⟨rfl, hRF⟩) | (rw [if_neg h0]; exact ⟨rfl, hRF⟩)
  refine V_aload_n C dX9_why_0 rfl (by first | exact isR_r _ | exact isR_q _ | exact isR_n) ?_
  refine V_aload_n C dX9_why_1 rfl (by first | exact isR_r _ | exact isR_q _ | exact isR_n) ?_
  refine V_iload_n C dX9_why_2 rfl ?_
  refine V_fV C (c_X9_isChild _ hl G S m σ hR x) kv_X9_208 cf_9 (by decide) rfl (by assumption) (by decide) (by decide) rfl rfl (Nat.le_of_ble_eq_true rfl) dX9_why_3 ?_
  dsimp only [Option.toList_some, Option.toList_none, List.cons_append, List.nil_append]
  refine V_if_eq C (tgt := 21) dX9_why_6 (by decide) (fun h6 => ?_) (fun h6 => ?_)
  · refine V_iconst C (v := 0) dX9_why_21 (by decide) ?_
    refine J _ ?_
    first | exact Eq.symm (pI9_t ⟨bI_ne.mp h6, bI_ne.mp h14⟩) | exact Eq.symm (pI9_f (fun q => bI_eq.mp h6 q.1)) | exact Eq.symm (pI9_f (fun q => bI_eq.mp h14 q.2))
  · refine V_aload_n C dX9_why_9 rfl (by first | exact isR_r _ | exact isR_q _ | exact isR_n) ?_
    refine V_iload_n C dX9_why_10 rfl ?_
    refine V_fV C (c_X9_isHome _ hl G S m σ hR h) kv_X9_193 cf_9 (by decide) rfl (by assumption) (by decide) (by decide) rfl rfl (Nat.le_of_ble_eq_true rfl) dX9_why_11 ?_
    dsimp only [Option.toList_some, Option.toList_none, List.cons_append, List.nil_append]
    refine V_if_eq C (tgt := 21) dX9_why_14 (by decide) (fun h14 => ?_) (fun h14 => ?_)
    · refine V_iconst C (v := 0) dX9_why_21 (by decide) ?_
      refine J _ ?_
      first | exact Eq.symm (pI9_t ⟨bI_ne.mp h6, bI_ne.mp h14⟩) | exact Eq.symm (pI9_f (fun q => bI_eq.mp h6 q.1)) | exact Eq.symm (pI9_f (fun q => bI_eq.mp h14 q.2))
    · refine V_iconst C (v := 1) dX9_why_17 (by decide) ?_
      refine V_goto C (tgt := 22) dX9_why_18 (by decide) ?_
      refine J _ ?_
      first | exact Eq.symm (pI9_t ⟨bI_ne.mp h6, bI_ne.mp h14⟩) | exact Eq.symm (pI9_f (fun q => bI_eq.mp h6 q.1)) | exact Eq.symm (pI9_f (fun q => bI_eq.mp h14 q.2))
theorem c_X9_worth (l : Launch) (hl : l.stackTraces = false) (G : gG) (S : sS) (m : Nat) (σ : aS) (hR : RelR S m σ) (hI : IC σ) (x h : Int32) : CtR l G yX9_worth cX9_worth 3 (Option.some FieldType.int) 3 [.ref m, .int x, .int h] S m (some (.int (oWorth σ x h).1)) (oWorth σ x h).2 := by
  have hm := hR.1
  have hRF := RF_0 hR
  refine Ct_of (by decide) (cat1_all (by repeat first | exact trivial | refine ⟨by first | rfl | exact isR_c (isR_q _), ?_⟩)) (Nat.le_of_ble_eq_true rfl) hl fun X C hXl hin => ?_
  subst hXl
  dsimp only [lArgs, Nat.reduceAdd]
  have J : ∀ y : Int32, y = pI9 (chP σ x ∧ hoP σ h) → V X G 3 (eQ X G (fun v T => v = some (.int (oWorth σ x h).1) ∧ RF S T m (oWorth σ x h).2.1 (oWorth σ x h).2.2) (fun _ _ => False) 0 0) 0 0 22 [(0, false, .ref m), (1, false, .int x), (2, false, .int h)] [.int y, .ref m] S := fun y hy => by
    have et : gT y 1 1 = tCH σ x h := by rw [hy]; rfl
    refine V_iconst C (v := 1) dX9_worth_22 (by decide) ?_
    refine V_iconst C (v := 1) dX9_worth_23 (by decide) ?_
    refine V_fV C (c_X9_goes _ hl G S m hm y 1 1) kv_X9_179 cf_9 (by decide) rfl hRF.1.1 (by decide) (by decide) rfl rfl (Nat.le_of_ble_eq_true rfl) dX9_worth_24 ?_
    dsimp only [Option.toList_some, Option.toList_none, List.cons_append, List.nil_append]
    rw [et]
    refine V_genT (RF_I hRF (f := 56) rfl) (fun T hRF => ?_)
    refine V_if_eq C (tgt := 39) dX9_worth_27 (by decide) (fun h27 => ?_) (fun h27 => ?_)
    · have h0 := bI_eq.mp h27
      refine V_iconst C (v := 0) dX9_worth_39 (by decide) ?_
      refine V_iret C (by first | omega | decide) (by first | omega | decide) dX9_worth_40 ?_
      unfold oWorth
      first | (rw [if_pos h0, ek, ej]; exact ⟨rfl, hRF⟩) | (rw [if_neg h0]; exact ⟨rfl, hRF⟩)
    · have h0 := bI_ne.mp h27
      rw [h0] at hRF
      have hq := (gT_x (et.trans h0)).1
      rw [hy] at hq
      obtain ⟨⟨k, hk, rfl⟩, ⟨j, hj, rfl⟩⟩ := And.intro (ch_ix hI (pI9_ne.mp hq).1) (ho_ix hI (pI9_ne.mp hq).2)
      have hk16 : k < 16 := by have := hI.2.1.2; omega
      have hj10 : j < 10 := by have := hI.2.2.1.2; omega
      have ek : nx (nI k) = k := nI_clamp (by omega)
      have ej : nx (nI j) = j := nI_clamp (by omega)
      refine V_aload_n C dX9_worth_30 rfl (by first | exact isR_r _ | exact isR_q _ | exact isR_n) ?_
      refine V_iload_n C dX9_worth_31 rfl ?_
      refine V_iload_n C dX9_worth_32 rfl ?_
      refine V_fV C (c_X9_worthOf _ hl G _ m (sT σ 0) hRF.1 hI k hk16 j hj10) kv_X9_246 cf_9 (by decide) rfl hRF.1.1 (by decide) (by decide) rfl rfl (Nat.le_of_ble_eq_true rfl) dX9_worth_33 ?_
      dsimp only [Option.toList_some, Option.toList_none, List.cons_append, List.nil_append]
      refine V_goto C (tgt := 40) dX9_worth_36 (by decide) ?_
      refine V_iret C (by first | omega | decide) (by first | omega | decide) dX9_worth_40 ?_
      unfold oWorth
      first | (rw [if_pos h0, ek, ej]; exact ⟨rfl, hRF⟩) | (rw [if_neg h0]; exact ⟨rfl, hRF⟩)
  refine V_aload_n C dX9_worth_0 rfl (by first | exact isR_r _ | exact isR_q _ | exact isR_n) ?_
  refine V_aload_n C dX9_worth_1 rfl (by first | exact isR_r _ | exact isR_q _ | exact isR_n) ?_
  refine V_iload_n C dX9_worth_2 rfl ?_
  refine V_fV C (c_X9_isChild _ hl G S m σ hR x) kv_X9_208 cf_9 (by decide) rfl (by assumption) (by decide) (by decide) rfl rfl (Nat.le_of_ble_eq_true rfl) dX9_worth_3 ?_
  dsimp only [Option.toList_some, Option.toList_none, List.cons_append, List.nil_append]
  refine V_if_eq C (tgt := 21) dX9_worth_6 (by decide) (fun h6 => ?_) (fun h6 => ?_)
  · refine V_iconst C (v := 0) dX9_worth_21 (by decide) ?_
    refine J _ ?_
    first | exact Eq.symm (pI9_t ⟨bI_ne.mp h6, bI_ne.mp h14⟩) | exact Eq.symm (pI9_f (fun q => bI_eq.mp h6 q.1)) | exact Eq.symm (pI9_f (fun q => bI_eq.mp h14 q.2))
  · refine V_aload_n C dX9_worth_9 rfl (by first | exact isR_r _ | exact isR_q _ | exact isR_n) ?_
    refine V_iload_n C dX9_worth_10 rfl ?_
    refine V_fV C (c_X9_isHome _ hl G S m σ hR h) kv_X9_193 cf_9 (by decide) rfl (by assumption) (by decide) (by decide) rfl rfl (Nat.le_of_ble_eq_true rfl) dX9_worth_11 ?_
    dsimp only [Option.toList_some, Option.toList_none, List.cons_append, List.nil_append]
    refine V_if_eq C (tgt := 21) dX9_worth_14 (by decide) (fun h14 => ?_) (fun h14 => ?_)
    · refine V_iconst C (v := 0) dX9_worth_21 (by decide) ?_
      refine J _ ?_
      first | exact Eq.symm (pI9_t ⟨bI_ne.mp h6, bI_ne.mp h14⟩) | exact Eq.symm (pI9_f (fun q => bI_eq.mp h6 q.1)) | exact Eq.symm (pI9_f (fun q => bI_eq.mp h14 q.2))
    · refine V_iconst C (v := 1) dX9_worth_17 (by decide) ?_
      refine V_goto C (tgt := 22) dX9_worth_18 (by decide) ?_
      refine J _ ?_
      first | exact Eq.symm (pI9_t ⟨bI_ne.mp h6, bI_ne.mp h14⟩) | exact Eq.symm (pI9_f (fun q => bI_eq.mp h6 q.1)) | exact Eq.symm (pI9_f (fun q => bI_eq.mp h14 q.2))
