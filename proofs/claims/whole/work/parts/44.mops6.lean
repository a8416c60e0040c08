/-! THE REFERENCE: visits, came, pay, owed, handOver, load, blacken, thrown. -/
/-- booleans are 0 and 1 -/
def IZ (σ : aS) : Prop := ∀ f j, mZ f = true → j < mLen f → σ.1 f j = 0 ∨ σ.1 f j = 1
noncomputable def tVisits (σ : aS) (x v : Int32) : Int32 := gT (bI (chP σ x)) (bI (inP v 0 30)) 1
noncomputable def oVisits (σ : aS) (x v : Int32) : Int32 × aS := if tVisits σ x v = 0 then (σ.1 12 (nx x), (up2 σ.1 12 (nx x) v, up1 σ.2 56 0)) else (0, sT σ (tVisits σ x v))
noncomputable def tCame (σ : aS) (x : Int32) : Int32 := gT (bI (chP σ x)) (pI9 (chP σ x ∧ ¬ σ.1 10 (nx x) = -1)) 1
noncomputable def oCame (σ : aS) (x : Int32) : aS := if tCame σ x = 0 then (up2 σ.1 13 (nx x) 1, up1 σ.2 56 0) else sT σ (tCame σ x)
noncomputable def tPay (σ : aS) (h v : Int32) : Int32 := gT (bI (hoP σ h)) (bI (inP v 1 100000)) 1
noncomputable def oPay (σ : aS) (h v : Int32) : Int32 × aS := if tPay σ h v = 0 then (σ.1 24 (nx h) - (σ.1 25 (nx h) + v), (up2 σ.1 25 (nx h) (σ.1 25 (nx h) + v), up1 σ.2 56 0)) else (0, sT σ (tPay σ h v))
noncomputable def tH (σ : aS) (h : Int32) : Int32 := gT (bI (hoP σ h)) 1 1
noncomputable def oOwed (σ : aS) (h : Int32) : Int32 × aS := if tH σ h = 0 then (σ.1 24 (nx h) - σ.1 25 (nx h), sT σ 0) else (0, sT σ (tH σ h))
noncomputable def tHand (σ : aS) (x w : Int32) : Int32 := gT (pI9 (chP σ x ∧ inP w 0 4)) 1 1
noncomputable def oHand (σ : aS) (x w : Int32) : Int32 × aS := if tHand σ x w = 0 then (σ.1 8 (nx x), (up2 σ.1 8 (nx x) w, up1 σ.2 56 0)) else (0, sT σ (tHand σ x w))
noncomputable def tLoad (σ : aS) (w : Int32) : Int32 := gT (bI (inP w 0 4)) 1 1
noncomputable def oLoad (σ : aS) (w : Int32) : Int32 × aS := if tLoad σ w = 0 then (mLoad (sT σ 0) w, sT σ 0) else (0, sT σ (tLoad σ w))
noncomputable def oBlacken (σ : aS) (h b : Int32) : Int32 × aS := if tH σ h = 0 then (σ.1 26 (nx h), (up2 σ.1 26 (nx h) b, up1 σ.2 56 0)) else (0, sT σ (tH σ h))
theorem narrow01 {b : Int32} (h : b = 0 ∨ b = 1) : narrow .boolean (.int b) = .int b := by rcases h with rfl | rfl <;> rfl
theorem c_X9_visits (l : Launch) (hl : l.stackTraces = false) (G : gG) (S : sS) (m : Nat) (σ : aS) (hR : RelR S m σ) (hI : IC σ)  (x v : Int32) : CtR l G yX9_visits cX9_visits 4 (Option.some FieldType.int) 3 [.ref m, .int x, .int v] S m (some (.int (oVisits σ x v).1)) (oVisits σ x v).2 := by
  have hm := hR.1
  have hRF := RF_0 hR
  have et : gT (bI (chP σ x)) (bI (inP v 0 30)) 1 = tVisits σ x v := rfl
  refine Ct_of (by decide) (cat1_all (by repeat first | exact trivial | refine ⟨by first | rfl | exact isR_c (isR_q _), ?_⟩)) (Nat.le_of_ble_eq_true rfl) hl fun X C hXl hin => ?_
  subst hXl
  dsimp only [lArgs, Nat.reduceAdd]
  refine V_aload_n C dX9_visits_0 rfl (by first | exact isR_r _ | exact isR_q _ | exact isR_n) ?_
  refine V_aload_n C dX9_visits_1 rfl (by first | exact isR_r _ | exact isR_q _ | exact isR_n) ?_
  refine V_iload_n C dX9_visits_2 rfl ?_
  refine V_fV C (c_X9_isChild _ hl G S m σ hR x) kv_X9_208 cf_9 (by decide) rfl hRF.1.1 (by decide) (by decide) rfl rfl (Nat.le_of_ble_eq_true rfl) dX9_visits_3 ?_
  dsimp only [Option.toList_some, Option.toList_none, List.cons_append, List.nil_append]
  refine V_iload_n C dX9_visits_6 rfl ?_
  refine V_iconst C (v := 0) dX9_visits_7 (by decide) ?_
  refine V_bipush C (v := 30) dX9_visits_8 (by decide) ?_
  refine V_fS C (c_X9_in _ hl G S v 0 30) ks_X9_165 (by decide) (by decide) rfl rfl (Nat.le_of_ble_eq_true rfl) dX9_visits_10 ?_
  dsimp only [Option.toList_some, Option.toList_none, List.cons_append, List.nil_append]
  refine V_iconst C (v := 1) dX9_visits_13 (by decide) ?_
  refine V_fV C (c_X9_goes _ hl G S m hm _ (bI (inP v 0 30)) 1) kv_X9_179 cf_9 (by decide) rfl hRF.1.1 (by decide) (by decide) rfl rfl (Nat.le_of_ble_eq_true rfl) dX9_visits_14 ?_
  dsimp only [Option.toList_some, Option.toList_none, List.cons_append, List.nil_append]
  rw [et]
  refine V_genT (RF_I hRF (f := 56) rfl) (fun T hRF => ?_)
  refine V_if_ne C (tgt := 22) dX9_visits_17 (by decide) (fun h17 => ?_) (fun h17 => ?_)
  · have h0 := bI_ne.mp h17
    rw [h0] at hRF
    obtain ⟨k, hk, rfl⟩ := ch_ix hI (bI_ne.mp (gT_x (et.trans h0)).1)
    have hk16 : k < 16 := by have := hI.2.1.2; omega
    have ek : nx (nI k) = k := nI_clamp (by omega)
    refine V_aload_n C dX9_visits_22 rfl (by first | exact isR_r _ | exact isR_q _ | exact isR_n) ?_
    refine V_mArr C 12 hRF rfl fl_X9_40 (by decide) dX9_visits_23 (fun a23 ha23 => ?_)
    refine V_iload_n C dX9_visits_26 rfl ?_
    refine V_mLd C 12 hRF rfl rfl ha23 (by first | assumption | (show _ < _; omega)) rfl dX9_visits_27 ?_
    refine V_istore_n C dX9_visits_28 (by decide) rfl ?_
    simp only [lset1, lset2, List.filter_cons, List.filter_nil, Nat.reduceBEq, Nat.reduceAdd, Bool.not_true, Bool.not_false, Bool.and_true, Bool.and_false, Bool.true_and, Bool.false_and, if_true, if_false, Bool.false_eq_true, reduceIte]
    refine V_aload_n C dX9_visits_29 rfl (by first | exact isR_r _ | exact isR_q _ | exact isR_n) ?_
    refine V_mArr C 12 hRF rfl fl_X9_40 (by decide) dX9_visits_30 (fun a30 ha30 => ?_)
    refine V_iload_n C dX9_visits_33 rfl ?_
    refine V_iload_n C dX9_visits_34 rfl ?_
    refine V_mSt C 12 hRF rfl rfl ha30 (by first | assumption | (show _ < _; omega)) dX9_visits_35 (fun T hRF => ?_)
    refine V_iload_n C dX9_visits_36 rfl ?_
    refine V_iret C (by first | omega | decide) (by first | omega | decide) dX9_visits_37 ?_
    unfold oVisits
    first | (rw [if_pos h0, ek]; exact ⟨rfl, hRF⟩) | (rw [if_pos h0]; exact ⟨rfl, hRF⟩) | (rw [if_neg h0]; exact ⟨rfl, hRF⟩)
  · have h0 := bI_eq.mp h17
    refine V_iconst C (v := 0) dX9_visits_20 (by decide) ?_
    refine V_iret C (by first | omega | decide) (by first | omega | decide) dX9_visits_21 ?_
    unfold oVisits
    first | (rw [if_pos h0, ek]; exact ⟨rfl, hRF⟩) | (rw [if_pos h0]; exact ⟨rfl, hRF⟩) | (rw [if_neg h0]; exact ⟨rfl, hRF⟩)
theorem c_X9_came (l : Launch) (hl : l.stackTraces = false) (G : gG) (S : sS) (m : Nat) (σ : aS) (hR : RelR S m σ) (hI : IC σ)  (x : Int32) : CtR l G yX9_came cX9_came 2 none 3 [.ref m, .int x] S m none (oCame σ x) := by
  have hm := hR.1
  have hRF := RF_0 hR
  refine Ct_of (by decide) (cat1_all (by repeat first | exact trivial | refine ⟨by first | rfl | exact isR_c (isR_q _), ?_⟩)) (Nat.le_of_ble_eq_true rfl) hl fun X C hXl hin => ?_
  subst hXl
  dsimp only [lArgs, Nat.reduceAdd]
  have J : ∀ y : Int32, y = pI9 (chP σ x ∧ ¬ σ.1 10 (nx x) = -1) → V X G 2 (eQ X G (fun v T => v = none ∧ RF S T m (oCame σ x).1 (oCame σ x).2) (fun _ _ => False) 0 0) 0 0 29 [(0, false, .ref m), (1, false, .int x)] [.int y, .int (bI (chP σ x)), .ref m] S := fun y hy => by
    have et : gT (bI (chP σ x)) y 1 = tCame σ x := by rw [hy]; rfl
    refine V_iconst C (v := 1) dX9_came_29 (by decide) ?_
    refine V_fV C (c_X9_goes _ hl G S m hm _ y 1) kv_X9_179 cf_9 (by decide) rfl hRF.1.1 (by decide) (by decide) rfl rfl (Nat.le_of_ble_eq_true rfl) dX9_came_30 ?_
    dsimp only [Option.toList_some, Option.toList_none, List.cons_append, List.nil_append]
    rw [et]
    refine V_genT (RF_I hRF (f := 56) rfl) (fun T hRF => ?_)
    refine V_if_eq C (tgt := 43) dX9_came_33 (by decide) (fun h33 => ?_) (fun h33 => ?_)
    · have h0 := bI_eq.mp h33
      refine V_vret C (by first | omega | decide) (by first | omega | decide) dX9_came_43 ?_
      unfold oCame
      first | (rw [if_pos h0, ek]; exact ⟨rfl, hRF⟩) | (rw [if_pos h0]; exact ⟨rfl, hRF⟩) | (rw [if_neg h0]; exact ⟨rfl, hRF⟩)
    · have h0 := bI_ne.mp h33
      rw [h0] at hRF
      obtain ⟨k, hk, rfl⟩ := ch_ix hI (bI_ne.mp (gT_x (et.trans h0)).1)
      have hk16 : k < 16 := by have := hI.2.1.2; omega
      have ek : nx (nI k) = k := nI_clamp (by omega)
      refine V_aload_n C dX9_came_36 rfl (by first | exact isR_r _ | exact isR_q _ | exact isR_n) ?_
      refine V_mArr C 13 hRF rfl fl_X9_43 (by decide) dX9_came_37 (fun a37 ha37 => ?_)
      refine V_iload_n C dX9_came_40 rfl ?_
      refine V_iconst C (v := 1) dX9_came_41 (by decide) ?_
      refine V_mStZ C 13 hRF rfl rfl ha37 (by first | assumption | (show _ < _; omega)) (by first | exact Or.inl rfl | exact Or.inr rfl | assumption) dX9_came_42 (fun T hRF => ?_)
      refine V_vret C (by first | omega | decide) (by first | omega | decide) dX9_came_43 ?_
      unfold oCame
      first | (rw [if_pos h0, ek]; exact ⟨rfl, hRF⟩) | (rw [if_pos h0]; exact ⟨rfl, hRF⟩) | (rw [if_neg h0]; exact ⟨rfl, hRF⟩)
  by_cases hc : chP σ x
  · obtain ⟨k, hk, rfl⟩ := ch_ix hI hc
    have hk16 : k < 16 := by have := hI.2.1.2; omega
    have ek : nx (nI k) = k := nI_clamp (by omega)
    refine V_aload_n C dX9_came_0 rfl (by first | exact isR_r _ | exact isR_q _ | exact isR_n) ?_
    refine V_aload_n C dX9_came_1 rfl (by first | exact isR_r _ | exact isR_q _ | exact isR_n) ?_
    refine V_iload_n C dX9_came_2 rfl ?_
    refine V_fV C (c_X9_isChild _ hl G S m σ hR _) kv_X9_208 cf_9 (by decide) rfl hRF.1.1 (by decide) (by decide) rfl rfl (Nat.le_of_ble_eq_true rfl) dX9_came_3 ?_
    dsimp only [Option.toList_some, Option.toList_none, List.cons_append, List.nil_append]
    refine V_aload_n C dX9_came_6 rfl (by first | exact isR_r _ | exact isR_q _ | exact isR_n) ?_
    refine V_iload_n C dX9_came_7 rfl ?_
    refine V_fV C (c_X9_isChild _ hl G S m σ hR _) kv_X9_208 cf_9 (by decide) rfl hRF.1.1 (by decide) (by decide) rfl rfl (Nat.le_of_ble_eq_true rfl) dX9_came_8 ?_
    dsimp only [Option.toList_some, Option.toList_none, List.cons_append, List.nil_append]
    refine V_if_eq C (tgt := 28) dX9_came_11 (by decide) (fun h11 => ?_) (fun h11 => ?_)
    · exact absurd (bI_eq.mp h11) (fun q => q hc)
    · refine V_aload_n C dX9_came_14 rfl (by first | exact isR_r _ | exact isR_q _ | exact isR_n) ?_
      refine V_mArr C 10 hRF rfl fl_X9_34 (by decide) dX9_came_15 (fun a15 ha15 => ?_)
      refine V_iload_n C dX9_came_18 rfl ?_
      refine V_mLd C 10 hRF rfl rfl ha15 (by first | assumption | (show _ < _; omega)) rfl dX9_came_19 ?_
      refine V_iconst C (v := (-1)) dX9_came_20 (by decide) ?_
      refine V_icmp_eq C (tgt := 28) dX9_came_21 (by decide) (fun h21 => ?_) (fun h21 => ?_)
      · refine V_iconst C (v := 0) dX9_came_28 (by decide) ?_
        refine J _ ?_
        first | exact Eq.symm (pI9_f (fun q => q.2 (by rw [ek]; exact h21))) | exact Eq.symm (pI9_t ⟨hc, by rw [ek]; exact h21⟩)
      · refine V_iconst C (v := 1) dX9_came_24 (by decide) ?_
        refine V_goto C (tgt := 29) dX9_came_25 (by decide) ?_
        refine J _ ?_
        first | exact Eq.symm (pI9_f (fun q => q.2 (by rw [ek]; exact h21))) | exact Eq.symm (pI9_t ⟨hc, by rw [ek]; exact h21⟩)
  · refine V_aload_n C dX9_came_0 rfl (by first | exact isR_r _ | exact isR_q _ | exact isR_n) ?_
    refine V_aload_n C dX9_came_1 rfl (by first | exact isR_r _ | exact isR_q _ | exact isR_n) ?_
    refine V_iload_n C dX9_came_2 rfl ?_
    refine V_fV C (c_X9_isChild _ hl G S m σ hR x) kv_X9_208 cf_9 (by decide) rfl hRF.1.1 (by decide) (by decide) rfl rfl (Nat.le_of_ble_eq_true rfl) dX9_came_3 ?_
    dsimp only [Option.toList_some, Option.toList_none, List.cons_append, List.nil_append]
    refine V_aload_n C dX9_came_6 rfl (by first | exact isR_r _ | exact isR_q _ | exact isR_n) ?_
    refine V_iload_n C dX9_came_7 rfl ?_
    refine V_fV C (c_X9_isChild _ hl G S m σ hR x) kv_X9_208 cf_9 (by decide) rfl hRF.1.1 (by decide) (by decide) rfl rfl (Nat.le_of_ble_eq_true rfl) dX9_came_8 ?_
    dsimp only [Option.toList_some, Option.toList_none, List.cons_append, List.nil_append]
    refine V_if_eq C (tgt := 28) dX9_came_11 (by decide) (fun h11 => ?_) (fun h11 => ?_)
    · refine V_iconst C (v := 0) dX9_came_28 (by decide) ?_
      refine J _ ?_
      exact Eq.symm (pI9_f (fun q => hc q.1))
    · exact absurd (bI_ne.mp h11) hc
theorem c_X9_pay (l : Launch) (hl : l.stackTraces = false) (G : gG) (S : sS) (m : Nat) (σ : aS) (hR : RelR S m σ) (hI : IC σ)  (h v : Int32) : CtR l G yX9_pay cX9_pay 3 (Option.some FieldType.int) 3 [.ref m, .int h, .int v] S m (some (.int (oPay σ h v).1)) (oPay σ h v).2 := by
  have hm := hR.1
  have hRF := RF_0 hR
  have et : gT (bI (hoP σ h)) (bI (inP v 1 100000)) 1 = tPay σ h v := rfl
  refine Ct_of (by decide) (cat1_all (by repeat first | exact trivial | refine ⟨by first | rfl | exact isR_c (isR_q _), ?_⟩)) (Nat.le_of_ble_eq_true rfl) hl fun X C hXl hin => ?_
  subst hXl
  dsimp only [lArgs, Nat.reduceAdd]
  refine V_aload_n C dX9_pay_0 rfl (by first | exact isR_r _ | exact isR_q _ | exact isR_n) ?_
  refine V_aload_n C dX9_pay_1 rfl (by first | exact isR_r _ | exact isR_q _ | exact isR_n) ?_
  refine V_iload_n C dX9_pay_2 rfl ?_
  refine V_fV C (c_X9_isHome _ hl G S m σ hR h) kv_X9_193 cf_9 (by decide) rfl hRF.1.1 (by decide) (by decide) rfl rfl (Nat.le_of_ble_eq_true rfl) dX9_pay_3 ?_
  dsimp only [Option.toList_some, Option.toList_none, List.cons_append, List.nil_append]
  refine V_iload_n C dX9_pay_6 rfl ?_
  refine V_iconst C (v := 1) dX9_pay_7 (by decide) ?_
  refine V_ldc_w C dX9_pay_8 cs_X9_276 ?_
  refine V_fS C (c_X9_in _ hl G S v 1 100000) ks_X9_165 (by decide) (by decide) rfl rfl (Nat.le_of_ble_eq_true rfl) dX9_pay_11 ?_
  dsimp only [Option.toList_some, Option.toList_none, List.cons_append, List.nil_append]
  refine V_iconst C (v := 1) dX9_pay_14 (by decide) ?_
  refine V_fV C (c_X9_goes _ hl G S m hm _ (bI (inP v 1 100000)) 1) kv_X9_179 cf_9 (by decide) rfl hRF.1.1 (by decide) (by decide) rfl rfl (Nat.le_of_ble_eq_true rfl) dX9_pay_15 ?_
  dsimp only [Option.toList_some, Option.toList_none, List.cons_append, List.nil_append]
  rw [et]
  refine V_genT (RF_I hRF (f := 56) rfl) (fun T hRF => ?_)
  refine V_if_ne C (tgt := 23) dX9_pay_18 (by decide) (fun h18 => ?_) (fun h18 => ?_)
  · have h0 := bI_ne.mp h18
    rw [h0] at hRF
    obtain ⟨k, hk, rfl⟩ := ho_ix hI (bI_ne.mp (gT_x (et.trans h0)).1)
    have hk16 : k < 10 := by have := hI.2.2.1.2; omega
    have ek : nx (nI k) = k := nI_clamp (by omega)
    refine V_aload_n C dX9_pay_23 rfl (by first | exact isR_r _ | exact isR_q _ | exact isR_n) ?_
    refine V_mArr C 25 hRF rfl fl_X9_77 (by decide) dX9_pay_24 (fun a24 ha24 => ?_)
    refine V_iload_n C dX9_pay_27 rfl ?_
    refine V_dup2 C dX9_pay_28 rfl rfl ?_
    refine V_mLd C 25 hRF rfl rfl ha24 (by first | assumption | (show _ < _; omega)) rfl dX9_pay_29 ?_
    refine V_iload_n C dX9_pay_30 rfl ?_
    refine V_iadd C dX9_pay_31 ?_
    refine V_mSt C 25 hRF rfl rfl ha24 (by first | assumption | (show _ < _; omega)) dX9_pay_32 (fun T hRF => ?_)
    refine V_aload_n C dX9_pay_33 rfl (by first | exact isR_r _ | exact isR_q _ | exact isR_n) ?_
    refine V_mArr C 24 hRF rfl fl_X9_74 (by decide) dX9_pay_34 (fun a34 ha34 => ?_)
    refine V_iload_n C dX9_pay_37 rfl ?_
    refine V_mLd C 24 hRF rfl rfl ha34 (by first | assumption | (show _ < _; omega)) (up2_n1 (by decide)) dX9_pay_38 ?_
    refine V_aload_n C dX9_pay_39 rfl (by first | exact isR_r _ | exact isR_q _ | exact isR_n) ?_
    refine V_mArr C 25 hRF rfl fl_X9_77 (by decide) dX9_pay_40 (fun a40 ha40 => ?_)
    refine V_iload_n C dX9_pay_43 rfl ?_
    refine V_mLd C 25 hRF rfl rfl ha40 (by first | assumption | (show _ < _; omega)) up2_s dX9_pay_44 ?_
    refine V_isub C dX9_pay_45 ?_
    refine V_iret C (by first | omega | decide) (by first | omega | decide) dX9_pay_46 ?_
    unfold oPay
    first | (rw [if_pos h0, ek]; exact ⟨rfl, hRF⟩) | (rw [if_pos h0]; exact ⟨rfl, hRF⟩) | (rw [if_neg h0]; exact ⟨rfl, hRF⟩)
  · have h0 := bI_eq.mp h18
    refine V_iconst C (v := 0) dX9_pay_21 (by decide) ?_
    refine V_iret C (by first | omega | decide) (by first | omega | decide) dX9_pay_22 ?_
    unfold oPay
    first | (rw [if_pos h0, ek]; exact ⟨rfl, hRF⟩) | (rw [if_pos h0]; exact ⟨rfl, hRF⟩) | (rw [if_neg h0]; exact ⟨rfl, hRF⟩)
theorem c_X9_owed (l : Launch) (hl : l.stackTraces = false) (G : gG) (S : sS) (m : Nat) (σ : aS) (hR : RelR S m σ) (hI : IC σ)  (h : Int32) : CtR l G yX9_owed cX9_owed 2 (Option.some FieldType.int) 3 [.ref m, .int h] S m (some (.int (oOwed σ h).1)) (oOwed σ h).2 := by
  have hm := hR.1
  have hRF := RF_0 hR
  have et : gT (bI (hoP σ h)) 1 1 = tH σ h := rfl
  refine Ct_of (by decide) (cat1_all (by repeat first | exact trivial | refine ⟨by first | rfl | exact isR_c (isR_q _), ?_⟩)) (Nat.le_of_ble_eq_true rfl) hl fun X C hXl hin => ?_
  subst hXl
  dsimp only [lArgs, Nat.reduceAdd]
  refine V_aload_n C dX9_owed_0 rfl (by first | exact isR_r _ | exact isR_q _ | exact isR_n) ?_
  refine V_aload_n C dX9_owed_1 rfl (by first | exact isR_r _ | exact isR_q _ | exact isR_n) ?_
  refine V_iload_n C dX9_owed_2 rfl ?_
  refine V_fV C (c_X9_isHome _ hl G S m σ hR h) kv_X9_193 cf_9 (by decide) rfl hRF.1.1 (by decide) (by decide) rfl rfl (Nat.le_of_ble_eq_true rfl) dX9_owed_3 ?_
  dsimp only [Option.toList_some, Option.toList_none, List.cons_append, List.nil_append]
  refine V_iconst C (v := 1) dX9_owed_6 (by decide) ?_
  refine V_iconst C (v := 1) dX9_owed_7 (by decide) ?_
  refine V_fV C (c_X9_goes _ hl G S m hm _ 1 1) kv_X9_179 cf_9 (by decide) rfl hRF.1.1 (by decide) (by decide) rfl rfl (Nat.le_of_ble_eq_true rfl) dX9_owed_8 ?_
  dsimp only [Option.toList_some, Option.toList_none, List.cons_append, List.nil_append]
  rw [et]
  refine V_genT (RF_I hRF (f := 56) rfl) (fun T hRF => ?_)
  refine V_if_eq C (tgt := 30) dX9_owed_11 (by decide) (fun h11 => ?_) (fun h11 => ?_)
  · have h0 := bI_eq.mp h11
    refine V_iconst C (v := 0) dX9_owed_30 (by decide) ?_
    refine V_iret C (by first | omega | decide) (by first | omega | decide) dX9_owed_31 ?_
    unfold oOwed
    first | (rw [if_pos h0, ek]; exact ⟨rfl, hRF⟩) | (rw [if_pos h0]; exact ⟨rfl, hRF⟩) | (rw [if_neg h0]; exact ⟨rfl, hRF⟩)
  · have h0 := bI_ne.mp h11
    rw [h0] at hRF
    obtain ⟨k, hk, rfl⟩ := ho_ix hI (bI_ne.mp (gT_x (et.trans h0)).1)
    have hk16 : k < 10 := by have := hI.2.2.1.2; omega
    have ek : nx (nI k) = k := nI_clamp (by omega)
    refine V_aload_n C dX9_owed_14 rfl (by first | exact isR_r _ | exact isR_q _ | exact isR_n) ?_
    refine V_mArr C 24 hRF rfl fl_X9_74 (by decide) dX9_owed_15 (fun a15 ha15 => ?_)
    refine V_iload_n C dX9_owed_18 rfl ?_
    refine V_mLd C 24 hRF rfl rfl ha15 (by first | assumption | (show _ < _; omega)) rfl dX9_owed_19 ?_
    refine V_aload_n C dX9_owed_20 rfl (by first | exact isR_r _ | exact isR_q _ | exact isR_n) ?_
    refine V_mArr C 25 hRF rfl fl_X9_77 (by decide) dX9_owed_21 (fun a21 ha21 => ?_)
    refine V_iload_n C dX9_owed_24 rfl ?_
    refine V_mLd C 25 hRF rfl rfl ha21 (by first | assumption | (show _ < _; omega)) rfl dX9_owed_25 ?_
    refine V_isub C dX9_owed_26 ?_
    refine V_goto C (tgt := 31) dX9_owed_27 (by decide) ?_
    refine V_iret C (by first | omega | decide) (by first | omega | decide) dX9_owed_31 ?_
    unfold oOwed
    first | (rw [if_pos h0, ek]; exact ⟨rfl, hRF⟩) | (rw [if_pos h0]; exact ⟨rfl, hRF⟩) | (rw [if_neg h0]; exact ⟨rfl, hRF⟩)
theorem c_X9_handOver (l : Launch) (hl : l.stackTraces = false) (G : gG) (S : sS) (m : Nat) (σ : aS) (hR : RelR S m σ) (hI : IC σ)  (x w : Int32) : CtR l G yX9_handOver cX9_handOver 4 (Option.some FieldType.int) 3 [.ref m, .int x, .int w] S m (some (.int (oHand σ x w).1)) (oHand σ x w).2 := by
  have hm := hR.1
  have hRF := RF_0 hR
  refine Ct_of (by decide) (cat1_all (by repeat first | exact trivial | refine ⟨by first | rfl | exact isR_c (isR_q _), ?_⟩)) (Nat.le_of_ble_eq_true rfl) hl fun X C hXl hin => ?_
  subst hXl
  dsimp only [lArgs, Nat.reduceAdd]
  have J : ∀ y : Int32, y = pI9 (chP σ x ∧ inP w 0 4) → V X G 4 (eQ X G (fun v T => v = some (.int (oHand σ x w).1) ∧ RF S T m (oHand σ x w).2.1 (oHand σ x w).2.2) (fun _ _ => False) 0 0) 0 0 23 [(0, false, .ref m), (1, false, .int x), (2, false, .int w)] [.int y, .ref m] S := fun y hy => by
    have et : gT y 1 1 = tHand σ x w := by rw [hy]; rfl
    refine V_iconst C (v := 1) dX9_handOver_23 (by decide) ?_
    refine V_iconst C (v := 1) dX9_handOver_24 (by decide) ?_
    refine V_fV C (c_X9_goes _ hl G S m hm y 1 1) kv_X9_179 cf_9 (by decide) rfl hRF.1.1 (by decide) (by decide) rfl rfl (Nat.le_of_ble_eq_true rfl) dX9_handOver_25 ?_
    dsimp only [Option.toList_some, Option.toList_none, List.cons_append, List.nil_append]
    rw [et]
    refine V_genT (RF_I hRF (f := 56) rfl) (fun T hRF => ?_)
    refine V_if_ne C (tgt := 33) dX9_handOver_28 (by decide) (fun h28 => ?_) (fun h28 => ?_)
    · have h0 := bI_ne.mp h28
      rw [h0] at hRF
      obtain ⟨k, hk, rfl⟩ := ch_ix hI (pI9_ne.mp (hy ▸ (gT_x (et.trans h0)).1)).1
      have hk16 : k < 16 := by have := hI.2.1.2; omega
      have ek : nx (nI k) = k := nI_clamp (by omega)
      refine V_aload_n C dX9_handOver_33 rfl (by first | exact isR_r _ | exact isR_q _ | exact isR_n) ?_
      refine V_mArr C 8 hRF rfl fl_X9_28 (by decide) dX9_handOver_34 (fun a34 ha34 => ?_)
      refine V_iload_n C dX9_handOver_37 rfl ?_
      refine V_mLd C 8 hRF rfl rfl ha34 (by first | assumption | (show _ < _; omega)) rfl dX9_handOver_38 ?_
      refine V_istore_n C dX9_handOver_39 (by decide) rfl ?_
      simp only [lset1, lset2, List.filter_cons, List.filter_nil, Nat.reduceBEq, Nat.reduceAdd, Bool.not_true, Bool.not_false, Bool.and_true, Bool.and_false, Bool.true_and, Bool.false_and, if_true, if_false, Bool.false_eq_true, reduceIte]
      refine V_aload_n C dX9_handOver_40 rfl (by first | exact isR_r _ | exact isR_q _ | exact isR_n) ?_
      refine V_mArr C 8 hRF rfl fl_X9_28 (by decide) dX9_handOver_41 (fun a41 ha41 => ?_)
      refine V_iload_n C dX9_handOver_44 rfl ?_
      refine V_iload_n C dX9_handOver_45 rfl ?_
      refine V_mSt C 8 hRF rfl rfl ha41 (by first | assumption | (show _ < _; omega)) dX9_handOver_46 (fun T hRF => ?_)
      refine V_iload_n C dX9_handOver_47 rfl ?_
      refine V_iret C (by first | omega | decide) (by first | omega | decide) dX9_handOver_48 ?_
      unfold oHand
      first | (rw [if_pos h0, ek]; exact ⟨rfl, hRF⟩) | (rw [if_pos h0]; exact ⟨rfl, hRF⟩) | (rw [if_neg h0]; exact ⟨rfl, hRF⟩)
    · have h0 := bI_eq.mp h28
      refine V_iconst C (v := 0) dX9_handOver_31 (by decide) ?_
      refine V_iret C (by first | omega | decide) (by first | omega | decide) dX9_handOver_32 ?_
      unfold oHand
      first | (rw [if_pos h0, ek]; exact ⟨rfl, hRF⟩) | (rw [if_pos h0]; exact ⟨rfl, hRF⟩) | (rw [if_neg h0]; exact ⟨rfl, hRF⟩)
  refine V_aload_n C dX9_handOver_0 rfl (by first | exact isR_r _ | exact isR_q _ | exact isR_n) ?_
  refine V_aload_n C dX9_handOver_1 rfl (by first | exact isR_r _ | exact isR_q _ | exact isR_n) ?_
  refine V_iload_n C dX9_handOver_2 rfl ?_
  refine V_fV C (c_X9_isChild _ hl G S m σ hR x) kv_X9_208 cf_9 (by decide) rfl hRF.1.1 (by decide) (by decide) rfl rfl (Nat.le_of_ble_eq_true rfl) dX9_handOver_3 ?_
  dsimp only [Option.toList_some, Option.toList_none, List.cons_append, List.nil_append]
  refine V_if_eq C (tgt := 22) dX9_handOver_6 (by decide) (fun h6 => ?_) (fun h6 => ?_)
  · refine V_iconst C (v := 0) dX9_handOver_22 (by decide) ?_
    refine J _ ?_
    first | exact Eq.symm (pI9_t ⟨bI_ne.mp h6, bI_ne.mp h15⟩) | exact Eq.symm (pI9_f (fun q => bI_eq.mp h6 q.1)) | exact Eq.symm (pI9_f (fun q => bI_eq.mp h15 q.2))
  · refine V_iload_n C dX9_handOver_9 rfl ?_
    refine V_iconst C (v := 0) dX9_handOver_10 (by decide) ?_
    refine V_iconst C (v := 4) dX9_handOver_11 (by decide) ?_
    refine V_fS C (c_X9_in _ hl G S w 0 4) ks_X9_165 (by decide) (by decide) rfl rfl (Nat.le_of_ble_eq_true rfl) dX9_handOver_12 ?_
    dsimp only [Option.toList_some, Option.toList_none, List.cons_append, List.nil_append]
    refine V_if_eq C (tgt := 22) dX9_handOver_15 (by decide) (fun h15 => ?_) (fun h15 => ?_)
    · refine V_iconst C (v := 0) dX9_handOver_22 (by decide) ?_
      refine J _ ?_
      first | exact Eq.symm (pI9_t ⟨bI_ne.mp h6, bI_ne.mp h15⟩) | exact Eq.symm (pI9_f (fun q => bI_eq.mp h6 q.1)) | exact Eq.symm (pI9_f (fun q => bI_eq.mp h15 q.2))
    · refine V_iconst C (v := 1) dX9_handOver_18 (by decide) ?_
      refine V_goto C (tgt := 23) dX9_handOver_19 (by decide) ?_
      refine J _ ?_
      first | exact Eq.symm (pI9_t ⟨bI_ne.mp h6, bI_ne.mp h15⟩) | exact Eq.symm (pI9_f (fun q => bI_eq.mp h6 q.1)) | exact Eq.symm (pI9_f (fun q => bI_eq.mp h15 q.2))
theorem c_X9_load (l : Launch) (hl : l.stackTraces = false) (G : gG) (S : sS) (m : Nat) (σ : aS) (hR : RelR S m σ) (hI : IC σ)  (w : Int32) : CtR l G yX9_load cX9_load 2 (Option.some FieldType.int) 3 [.ref m, .int w] S m (some (.int (oLoad σ w).1)) (oLoad σ w).2 := by
  have hm := hR.1
  have hRF := RF_0 hR
  have et : gT (bI (inP w 0 4)) 1 1 = tLoad σ w := rfl
  refine Ct_of (by decide) (cat1_all (by repeat first | exact trivial | refine ⟨by first | rfl | exact isR_c (isR_q _), ?_⟩)) (Nat.le_of_ble_eq_true rfl) hl fun X C hXl hin => ?_
  subst hXl
  dsimp only [lArgs, Nat.reduceAdd]
  refine V_aload_n C dX9_load_0 rfl (by first | exact isR_r _ | exact isR_q _ | exact isR_n) ?_
  refine V_iload_n C dX9_load_1 rfl ?_
  refine V_iconst C (v := 0) dX9_load_2 (by decide) ?_
  refine V_iconst C (v := 4) dX9_load_3 (by decide) ?_
  refine V_fS C (c_X9_in _ hl G S w 0 4) ks_X9_165 (by decide) (by decide) rfl rfl (Nat.le_of_ble_eq_true rfl) dX9_load_4 ?_
  dsimp only [Option.toList_some, Option.toList_none, List.cons_append, List.nil_append]
  refine V_iconst C (v := 1) dX9_load_7 (by decide) ?_
  refine V_iconst C (v := 1) dX9_load_8 (by decide) ?_
  refine V_fV C (c_X9_goes _ hl G S m hm _ 1 1) kv_X9_179 cf_9 (by decide) rfl hRF.1.1 (by decide) (by decide) rfl rfl (Nat.le_of_ble_eq_true rfl) dX9_load_9 ?_
  dsimp only [Option.toList_some, Option.toList_none, List.cons_append, List.nil_append]
  rw [et]
  refine V_genT (RF_I hRF (f := 56) rfl) (fun T hRF => ?_)
  refine V_if_eq C (tgt := 23) dX9_load_12 (by decide) (fun h12 => ?_) (fun h12 => ?_)
  · have h0 := bI_eq.mp h12
    refine V_iconst C (v := 0) dX9_load_23 (by decide) ?_
    refine V_iret C (by first | omega | decide) (by first | omega | decide) dX9_load_24 ?_
    unfold oLoad
    first | (rw [if_pos h0, ek]; exact ⟨rfl, hRF⟩) | (rw [if_pos h0]; exact ⟨rfl, hRF⟩) | (rw [if_neg h0]; exact ⟨rfl, hRF⟩)
  · have h0 := bI_ne.mp h12
    rw [h0] at hRF
    refine V_aload_n C dX9_load_15 rfl (by first | exact isR_r _ | exact isR_q _ | exact isR_n) ?_
    refine V_iload_n C dX9_load_16 rfl ?_
    refine V_fV C (c_X9_loadOf _ hl G _ m (sT σ 0) hRF.1 hI w) kv_X9_176 cf_9 (by decide) rfl hRF.1.1 (by decide) (by decide) rfl rfl (Nat.le_of_ble_eq_true rfl) dX9_load_17 ?_
    dsimp only [Option.toList_some, Option.toList_none, List.cons_append, List.nil_append]
    refine V_goto C (tgt := 24) dX9_load_20 (by decide) ?_
    refine V_iret C (by first | omega | decide) (by first | omega | decide) dX9_load_24 ?_
    unfold oLoad
    first | (rw [if_pos h0, ek]; exact ⟨rfl, hRF⟩) | (rw [if_pos h0]; exact ⟨rfl, hRF⟩) | (rw [if_neg h0]; exact ⟨rfl, hRF⟩)
theorem c_X9_blacken (l : Launch) (hl : l.stackTraces = false) (G : gG) (S : sS) (m : Nat) (σ : aS) (hR : RelR S m σ) (hI : IC σ) (hZ : IZ σ) (h b : Int32) (hb : b = 0 ∨ b = 1) : CtR l G yX9_blacken cX9_blacken 4 (Option.some FieldType.boolean) 3 [.ref m, .int h, .int b] S m (some (.int (oBlacken σ h b).1)) (oBlacken σ h b).2 := by
  have hm := hR.1
  have hRF := RF_0 hR
  have et : gT (bI (hoP σ h)) 1 1 = tH σ h := rfl
  refine Ct_of (by decide) (cat1_all (by repeat first | exact trivial | refine ⟨by first | rfl | exact isR_c (isR_q _), ?_⟩)) (Nat.le_of_ble_eq_true rfl) hl fun X C hXl hin => ?_
  subst hXl
  dsimp only [lArgs, Nat.reduceAdd]
  refine V_aload_n C dX9_blacken_0 rfl (by first | exact isR_r _ | exact isR_q _ | exact isR_n) ?_
  refine V_aload_n C dX9_blacken_1 rfl (by first | exact isR_r _ | exact isR_q _ | exact isR_n) ?_
  refine V_iload_n C dX9_blacken_2 rfl ?_
  refine V_fV C (c_X9_isHome _ hl G S m σ hR h) kv_X9_193 cf_9 (by decide) rfl hRF.1.1 (by decide) (by decide) rfl rfl (Nat.le_of_ble_eq_true rfl) dX9_blacken_3 ?_
  dsimp only [Option.toList_some, Option.toList_none, List.cons_append, List.nil_append]
  refine V_iconst C (v := 1) dX9_blacken_6 (by decide) ?_
  refine V_iconst C (v := 1) dX9_blacken_7 (by decide) ?_
  refine V_fV C (c_X9_goes _ hl G S m hm _ 1 1) kv_X9_179 cf_9 (by decide) rfl hRF.1.1 (by decide) (by decide) rfl rfl (Nat.le_of_ble_eq_true rfl) dX9_blacken_8 ?_
  dsimp only [Option.toList_some, Option.toList_none, List.cons_append, List.nil_append]
  rw [et]
  refine V_genT (RF_I hRF (f := 56) rfl) (fun T hRF => ?_)
  refine V_if_ne C (tgt := 16) dX9_blacken_11 (by decide) (fun h11 => ?_) (fun h11 => ?_)
  · have h0 := bI_ne.mp h11
    rw [h0] at hRF
    obtain ⟨k, hk, rfl⟩ := ho_ix hI (bI_ne.mp (gT_x (et.trans h0)).1)
    have hk16 : k < 10 := by have := hI.2.2.1.2; omega
    have ek : nx (nI k) = k := nI_clamp (by omega)
    refine V_aload_n C dX9_blacken_16 rfl (by first | exact isR_r _ | exact isR_q _ | exact isR_n) ?_
    refine V_mArr C 26 hRF rfl fl_X9_80 (by decide) dX9_blacken_17 (fun a17 ha17 => ?_)
    refine V_iload_n C dX9_blacken_20 rfl ?_
    refine V_mLdZ C 26 hRF rfl rfl ha17 (by first | assumption | (show _ < _; omega)) rfl dX9_blacken_21 ?_
    refine V_istore_n C dX9_blacken_22 (by decide) rfl ?_
    simp only [lset1, lset2, List.filter_cons, List.filter_nil, Nat.reduceBEq, Nat.reduceAdd, Bool.not_true, Bool.not_false, Bool.and_true, Bool.and_false, Bool.true_and, Bool.false_and, if_true, if_false, Bool.false_eq_true, reduceIte]
    refine V_aload_n C dX9_blacken_23 rfl (by first | exact isR_r _ | exact isR_q _ | exact isR_n) ?_
    refine V_mArr C 26 hRF rfl fl_X9_80 (by decide) dX9_blacken_24 (fun a24 ha24 => ?_)
    refine V_iload_n C dX9_blacken_27 rfl ?_
    refine V_iload_n C dX9_blacken_28 rfl ?_
    refine V_mStZ C 26 hRF rfl rfl ha24 (by first | assumption | (show _ < _; omega)) (by first | exact Or.inl rfl | exact Or.inr rfl | assumption) dX9_blacken_29 (fun T hRF => ?_)
    refine V_iload_n C dX9_blacken_30 rfl ?_
    refine V_zret C (narrow01 (hZ 26 _ rfl (by assumption))) (by first | omega | decide) (by first | omega | decide) dX9_blacken_31 ?_
    unfold oBlacken
    first | (rw [if_pos h0, ek]; exact ⟨rfl, hRF⟩) | (rw [if_pos h0]; exact ⟨rfl, hRF⟩) | (rw [if_neg h0]; exact ⟨rfl, hRF⟩)
  · have h0 := bI_eq.mp h11
    refine V_iconst C (v := 0) dX9_blacken_14 (by decide) ?_
    refine V_zret C (by rfl) (by first | omega | decide) (by first | omega | decide) dX9_blacken_15 ?_
    unfold oBlacken
    first | (rw [if_pos h0, ek]; exact ⟨rfl, hRF⟩) | (rw [if_pos h0]; exact ⟨rfl, hRF⟩) | (rw [if_neg h0]; exact ⟨rfl, hRF⟩)
theorem c_X9_thrown (l : Launch) (hl : l.stackTraces = false) (G : gG) (S : sS) (m : Nat) (σ : aS) (hR : RelR S m σ) : CtR l G yX9_thrown cX9_thrown 1 (Option.some FieldType.int) 1 [.ref m] S m (some (.int (σ.2 56))) σ := by
  have hm := hR.1
  have hRF := RF_0 hR
  refine Ct_of (by decide) (cat1_all (by repeat first | exact trivial | refine ⟨by first | rfl | exact isR_c (isR_q _), ?_⟩)) (Nat.le_of_ble_eq_true rfl) hl fun X C hXl hin => ?_
  subst hXl
  dsimp only [lArgs, Nat.reduceAdd]
  refine V_aload_n C dX9_thrown_0 rfl (by first | exact isR_r _ | exact isR_q _ | exact isR_n) ?_
  refine V_mNum C 56 hRF fl_X9_158 (by decide) dX9_thrown_1 rfl ?_
  refine V_iret C (by first | omega | decide) (by first | omega | decide) dX9_thrown_4 ?_
  exact ⟨rfl, hRF⟩
