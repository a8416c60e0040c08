/-! THE REFERENCE: approve, train, rest, child, home. -/
theorem c_X9_approve (l : Launch) (hl : l.stackTraces = false) (G : gG) (S : sS) (m : Nat) (σ : aS) (hR : RelR S m σ) (hI : IC σ) (h a b u : Int32) : CtR l G yX9_approve cX9_approve 5 none 3 [.ref m, .int h, .int a, .int b, .int u] S m none (oApprove σ h a b u) := by
  have hm := hR.1
  have hRF := RF_0 hR
  refine Ct_of (by decide) (cat1_all (by repeat first | exact trivial | refine ⟨by first | rfl | exact isR_c (isR_q _), ?_⟩)) (Nat.le_of_ble_eq_true rfl) hl fun X C hXl hin => ?_
  subst hXl
  dsimp only [lArgs, Nat.reduceAdd]
  have J : ∀ c : Int32, c = pI9 (inP a 0 17 ∧ inP b a 17 ∧ inP u 0 20000) → V X G 5 (eQ X G (fun v T => v = none ∧ RF S T m (oApprove σ h a b u).1 (oApprove σ h a b u).2) (fun _ _ => False) 0 0) 0 0 43 [(0, false, .ref m), (1, false, .int h), (2, false, .int a), (3, false, .int b), (4, false, .int u)] [.int c, .int (bI (0 ≤ h ∧ h ≤ σ.2 20 - 1)), .ref m] S := fun c hc => by
    subst hc
    have e : gT (bI (0 ≤ h ∧ h ≤ σ.2 20 - 1)) (pI9 (inP a 0 17 ∧ inP b a 17 ∧ inP u 0 20000)) 1 = tHomeQ σ h (inP a 0 17 ∧ inP b a 17 ∧ inP u 0 20000) := rfl
    refine V_iconst C (v := 1) dX9_approve_43 (by decide) ?_
    refine V_fV C (c_X9_goes _ hl G S m hm (bI (0 ≤ h ∧ h ≤ σ.2 20 - 1)) (pI9 (inP a 0 17 ∧ inP b a 17 ∧ inP u 0 20000)) 1) kv_X9_179 cf_9 (by decide) rfl (by assumption) (by decide) (by decide) rfl rfl (Nat.le_of_ble_eq_true rfl) dX9_approve_44 ?_
    dsimp only [Option.toList_some, Option.toList_none, List.cons_append, List.nil_append]
    rw [e]
    refine V_if_eq C (tgt := 60) dX9_approve_47 (by decide) (fun h47 => ?_) (fun h47 => ?_)
    · have h0 := bI_eq.mp h47
      refine V_vret C (by first | omega | decide) (by first | omega | decide) dX9_approve_60 ?_
      refine ⟨rfl, ?_⟩
      unfold oApprove
      first | (rw [if_neg h0]; exact RF_I hRF rfl) | (rw [if_pos h0]; exact RF_tr (RF_I hRF (f := 56) rfl) hT)
    · have h0 := bI_ne.mp h47
      rw [h0]
      refine V_aload_n C dX9_approve_50 rfl (by first | exact isR_r _ | exact isR_q _ | exact isR_n) ?_
      refine V_iload_n C dX9_approve_51 rfl ?_
      refine V_iconst C (v := 0) dX9_approve_52 (by decide) ?_
      refine V_iload_n C dX9_approve_53 rfl ?_
      refine V_iload_n C dX9_approve_54 rfl ?_
      refine V_iload C dX9_approve_55 rfl ?_
      refine V_callV C (c_X9_tells _ hl G (pI S 956 m 0) m (sT σ 0) (RelR_I hR 56 rfl) hI h 0 a b u) kv_X9_197 cf_9 (by decide) rfl (by assumption) (by decide) (by decide) rfl rfl (Nat.le_of_ble_eq_true rfl) dX9_approve_57 ?_ (fun _ _ h => h.elim)
      intro v T hT
      obtain ⟨rfl, hT⟩ := hT
      dsimp only [Option.toList_some, Option.toList_none, List.cons_append, List.nil_append]
      refine V_vret C (by first | omega | decide) (by first | omega | decide) dX9_approve_60 ?_
      refine ⟨rfl, ?_⟩
      unfold oApprove
      first | (rw [if_neg h0]; exact RF_I hRF rfl) | (rw [if_pos h0]; exact RF_tr (RF_I hRF (f := 56) rfl) hT)
  refine V_aload_n C dX9_approve_0 rfl (by first | exact isR_r _ | exact isR_q _ | exact isR_n) ?_
  refine V_aload_n C dX9_approve_1 rfl (by first | exact isR_r _ | exact isR_q _ | exact isR_n) ?_
  refine V_iload_n C dX9_approve_2 rfl ?_
  refine V_fV C (c_X9_isHome _ hl G S m σ hR h) kv_X9_193 cf_9 (by decide) rfl (by assumption) (by decide) (by decide) rfl rfl (Nat.le_of_ble_eq_true rfl) dX9_approve_3 ?_
  dsimp only [Option.toList_some, Option.toList_none, List.cons_append, List.nil_append]
  refine V_iload_n C dX9_approve_6 rfl ?_
  refine V_iconst C (v := 0) dX9_approve_7 (by decide) ?_
  refine V_bipush C (v := 17) dX9_approve_8 (by decide) ?_
  refine V_fS C (c_X9_in _ hl G S a 0 17) ks_X9_165 (by decide) (by decide) rfl rfl (Nat.le_of_ble_eq_true rfl) dX9_approve_10 ?_
  dsimp only [Option.toList_some, Option.toList_none, List.cons_append, List.nil_append]
  refine V_if_eq C (tgt := 42) dX9_approve_13 (by decide) (fun h13 => ?_) (fun h13 => ?_)
  · refine V_iconst C (v := 0) dX9_approve_42 (by decide) ?_
    refine J _ ?_
    first | exact Eq.symm (pI9_t ⟨bI_ne.mp h13, bI_ne.mp h23, bI_ne.mp h35⟩) | exact Eq.symm (pI9_f (fun q => bI_eq.mp h13 q.1)) | exact Eq.symm (pI9_f (fun q => bI_eq.mp h23 q.2.1)) | exact Eq.symm (pI9_f (fun q => bI_eq.mp h35 q.2.2))
  · refine V_iload_n C dX9_approve_16 rfl ?_
    refine V_iload_n C dX9_approve_17 rfl ?_
    refine V_bipush C (v := 17) dX9_approve_18 (by decide) ?_
    refine V_fS C (c_X9_in _ hl G S b a 17) ks_X9_165 (by decide) (by decide) rfl rfl (Nat.le_of_ble_eq_true rfl) dX9_approve_20 ?_
    dsimp only [Option.toList_some, Option.toList_none, List.cons_append, List.nil_append]
    refine V_if_eq C (tgt := 42) dX9_approve_23 (by decide) (fun h23 => ?_) (fun h23 => ?_)
    · refine V_iconst C (v := 0) dX9_approve_42 (by decide) ?_
      refine J _ ?_
      first | exact Eq.symm (pI9_t ⟨bI_ne.mp h13, bI_ne.mp h23, bI_ne.mp h35⟩) | exact Eq.symm (pI9_f (fun q => bI_eq.mp h13 q.1)) | exact Eq.symm (pI9_f (fun q => bI_eq.mp h23 q.2.1)) | exact Eq.symm (pI9_f (fun q => bI_eq.mp h35 q.2.2))
    · refine V_iload C dX9_approve_26 rfl ?_
      refine V_iconst C (v := 0) dX9_approve_28 (by decide) ?_
      refine V_sipush C (v := 20000) dX9_approve_29 (by decide) ?_
      refine V_fS C (c_X9_in _ hl G S u 0 20000) ks_X9_165 (by decide) (by decide) rfl rfl (Nat.le_of_ble_eq_true rfl) dX9_approve_32 ?_
      dsimp only [Option.toList_some, Option.toList_none, List.cons_append, List.nil_append]
      refine V_if_eq C (tgt := 42) dX9_approve_35 (by decide) (fun h35 => ?_) (fun h35 => ?_)
      · refine V_iconst C (v := 0) dX9_approve_42 (by decide) ?_
        refine J _ ?_
        first | exact Eq.symm (pI9_t ⟨bI_ne.mp h13, bI_ne.mp h23, bI_ne.mp h35⟩) | exact Eq.symm (pI9_f (fun q => bI_eq.mp h13 q.1)) | exact Eq.symm (pI9_f (fun q => bI_eq.mp h23 q.2.1)) | exact Eq.symm (pI9_f (fun q => bI_eq.mp h35 q.2.2))
      · refine V_iconst C (v := 1) dX9_approve_38 (by decide) ?_
        refine V_goto C (tgt := 43) dX9_approve_39 (by decide) ?_
        refine J _ ?_
        first | exact Eq.symm (pI9_t ⟨bI_ne.mp h13, bI_ne.mp h23, bI_ne.mp h35⟩) | exact Eq.symm (pI9_f (fun q => bI_eq.mp h13 q.1)) | exact Eq.symm (pI9_f (fun q => bI_eq.mp h23 q.2.1)) | exact Eq.symm (pI9_f (fun q => bI_eq.mp h35 q.2.2))
theorem c_X9_train (l : Launch) (hl : l.stackTraces = false) (G : gG) (S : sS) (m : Nat) (σ : aS) (hR : RelR S m σ) (hI : IC σ) (h a u : Int32) : CtR l G yX9_train cX9_train 4 none 3 [.ref m, .int h, .int a, .int u] S m none (oTrain σ h a u) := by
  have hm := hR.1
  have hRF := RF_0 hR
  refine Ct_of (by decide) (cat1_all (by repeat first | exact trivial | refine ⟨by first | rfl | exact isR_c (isR_q _), ?_⟩)) (Nat.le_of_ble_eq_true rfl) hl fun X C hXl hin => ?_
  subst hXl
  dsimp only [lArgs, Nat.reduceAdd]
  have J : ∀ c : Int32, c = pI9 (inP a 0 15 ∧ inP u 0 20000) → V X G 4 (eQ X G (fun v T => v = none ∧ RF S T m (oTrain σ h a u).1 (oTrain σ h a u).2) (fun _ _ => False) 0 0) 0 0 32 [(0, false, .ref m), (1, false, .int h), (2, false, .int a), (3, false, .int u)] [.int c, .int (bI (0 ≤ h ∧ h ≤ σ.2 20 - 1)), .ref m] S := fun c hc => by
    subst hc
    have e : gT (bI (0 ≤ h ∧ h ≤ σ.2 20 - 1)) (pI9 (inP a 0 15 ∧ inP u 0 20000)) 1 = tHomeQ σ h (inP a 0 15 ∧ inP u 0 20000) := rfl
    refine V_iconst C (v := 1) dX9_train_32 (by decide) ?_
    refine V_fV C (c_X9_goes _ hl G S m hm (bI (0 ≤ h ∧ h ≤ σ.2 20 - 1)) (pI9 (inP a 0 15 ∧ inP u 0 20000)) 1) kv_X9_179 cf_9 (by decide) rfl (by assumption) (by decide) (by decide) rfl rfl (Nat.le_of_ble_eq_true rfl) dX9_train_33 ?_
    dsimp only [Option.toList_some, Option.toList_none, List.cons_append, List.nil_append]
    rw [e]
    refine V_if_eq C (tgt := 48) dX9_train_36 (by decide) (fun h36 => ?_) (fun h36 => ?_)
    · have h0 := bI_eq.mp h36
      refine V_vret C (by first | omega | decide) (by first | omega | decide) dX9_train_48 ?_
      refine ⟨rfl, ?_⟩
      unfold oTrain
      first | (rw [if_neg h0]; exact RF_I hRF rfl) | (rw [if_pos h0]; exact RF_tr (RF_I hRF (f := 56) rfl) hT)
    · have h0 := bI_ne.mp h36
      rw [h0]
      refine V_aload_n C dX9_train_39 rfl (by first | exact isR_r _ | exact isR_q _ | exact isR_n) ?_
      refine V_iload_n C dX9_train_40 rfl ?_
      refine V_iconst C (v := 1) dX9_train_41 (by decide) ?_
      refine V_iload_n C dX9_train_42 rfl ?_
      refine V_iconst C (v := 0) dX9_train_43 (by decide) ?_
      refine V_iload_n C dX9_train_44 rfl ?_
      refine V_callV C (c_X9_tells _ hl G (pI S 956 m 0) m (sT σ 0) (RelR_I hR 56 rfl) hI h 1 a 0 u) kv_X9_197 cf_9 (by decide) rfl (by assumption) (by decide) (by decide) rfl rfl (Nat.le_of_ble_eq_true rfl) dX9_train_45 ?_ (fun _ _ h => h.elim)
      intro v T hT
      obtain ⟨rfl, hT⟩ := hT
      dsimp only [Option.toList_some, Option.toList_none, List.cons_append, List.nil_append]
      refine V_vret C (by first | omega | decide) (by first | omega | decide) dX9_train_48 ?_
      refine ⟨rfl, ?_⟩
      unfold oTrain
      first | (rw [if_neg h0]; exact RF_I hRF rfl) | (rw [if_pos h0]; exact RF_tr (RF_I hRF (f := 56) rfl) hT)
  refine V_aload_n C dX9_train_0 rfl (by first | exact isR_r _ | exact isR_q _ | exact isR_n) ?_
  refine V_aload_n C dX9_train_1 rfl (by first | exact isR_r _ | exact isR_q _ | exact isR_n) ?_
  refine V_iload_n C dX9_train_2 rfl ?_
  refine V_fV C (c_X9_isHome _ hl G S m σ hR h) kv_X9_193 cf_9 (by decide) rfl (by assumption) (by decide) (by decide) rfl rfl (Nat.le_of_ble_eq_true rfl) dX9_train_3 ?_
  dsimp only [Option.toList_some, Option.toList_none, List.cons_append, List.nil_append]
  refine V_iload_n C dX9_train_6 rfl ?_
  refine V_iconst C (v := 0) dX9_train_7 (by decide) ?_
  refine V_bipush C (v := 15) dX9_train_8 (by decide) ?_
  refine V_fS C (c_X9_in _ hl G S a 0 15) ks_X9_165 (by decide) (by decide) rfl rfl (Nat.le_of_ble_eq_true rfl) dX9_train_10 ?_
  dsimp only [Option.toList_some, Option.toList_none, List.cons_append, List.nil_append]
  refine V_if_eq C (tgt := 31) dX9_train_13 (by decide) (fun h13 => ?_) (fun h13 => ?_)
  · refine V_iconst C (v := 0) dX9_train_31 (by decide) ?_
    refine J _ ?_
    first | exact Eq.symm (pI9_t ⟨bI_ne.mp h13, bI_ne.mp h24⟩) | exact Eq.symm (pI9_f (fun q => bI_eq.mp h13 q.1)) | exact Eq.symm (pI9_f (fun q => bI_eq.mp h24 q.2))
  · refine V_iload_n C dX9_train_16 rfl ?_
    refine V_iconst C (v := 0) dX9_train_17 (by decide) ?_
    refine V_sipush C (v := 20000) dX9_train_18 (by decide) ?_
    refine V_fS C (c_X9_in _ hl G S u 0 20000) ks_X9_165 (by decide) (by decide) rfl rfl (Nat.le_of_ble_eq_true rfl) dX9_train_21 ?_
    dsimp only [Option.toList_some, Option.toList_none, List.cons_append, List.nil_append]
    refine V_if_eq C (tgt := 31) dX9_train_24 (by decide) (fun h24 => ?_) (fun h24 => ?_)
    · refine V_iconst C (v := 0) dX9_train_31 (by decide) ?_
      refine J _ ?_
      first | exact Eq.symm (pI9_t ⟨bI_ne.mp h13, bI_ne.mp h24⟩) | exact Eq.symm (pI9_f (fun q => bI_eq.mp h13 q.1)) | exact Eq.symm (pI9_f (fun q => bI_eq.mp h24 q.2))
    · refine V_iconst C (v := 1) dX9_train_27 (by decide) ?_
      refine V_goto C (tgt := 32) dX9_train_28 (by decide) ?_
      refine J _ ?_
      first | exact Eq.symm (pI9_t ⟨bI_ne.mp h13, bI_ne.mp h24⟩) | exact Eq.symm (pI9_f (fun q => bI_eq.mp h13 q.1)) | exact Eq.symm (pI9_f (fun q => bI_eq.mp h24 q.2))
theorem c_X9_rest (l : Launch) (hl : l.stackTraces = false) (G : gG) (S : sS) (m : Nat) (σ : aS) (hR : RelR S m σ) (hI : IC σ) (h a u : Int32) : CtR l G yX9_rest cX9_rest 4 none 3 [.ref m, .int h, .int a, .int u] S m none (oRest σ h a u) := by
  have hm := hR.1
  have hRF := RF_0 hR
  have n0 : sI S 900 m = σ.2 0 := hR.2.2 0
  refine Ct_of (by decide) (cat1_all (by repeat first | exact trivial | refine ⟨by first | rfl | exact isR_c (isR_q _), ?_⟩)) (Nat.le_of_ble_eq_true rfl) hl fun X C hXl hin => ?_
  subst hXl
  dsimp only [lArgs, Nat.reduceAdd]
  have J : ∀ c : Int32, c = pI9 (inP a (σ.2 0) 20000 ∧ inP u a 20000) → V X G 4 (eQ X G (fun v T => v = none ∧ RF S T m (oRest σ h a u).1 (oRest σ h a u).2) (fun _ _ => False) 0 0) 0 0 36 [(0, false, .ref m), (1, false, .int h), (2, false, .int a), (3, false, .int u)] [.int c, .int (bI (0 ≤ h ∧ h ≤ σ.2 20 - 1)), .ref m] S := fun c hc => by
    subst hc
    have e : gT (bI (0 ≤ h ∧ h ≤ σ.2 20 - 1)) (pI9 (inP a (σ.2 0) 20000 ∧ inP u a 20000)) 1 = tHomeQ σ h (inP a (σ.2 0) 20000 ∧ inP u a 20000) := rfl
    refine V_iconst C (v := 1) dX9_rest_36 (by decide) ?_
    refine V_fV C (c_X9_goes _ hl G S m hm (bI (0 ≤ h ∧ h ≤ σ.2 20 - 1)) (pI9 (inP a (σ.2 0) 20000 ∧ inP u a 20000)) 1) kv_X9_179 cf_9 (by decide) rfl (by assumption) (by decide) (by decide) rfl rfl (Nat.le_of_ble_eq_true rfl) dX9_rest_37 ?_
    dsimp only [Option.toList_some, Option.toList_none, List.cons_append, List.nil_append]
    rw [e]
    refine V_if_eq C (tgt := 52) dX9_rest_40 (by decide) (fun h40 => ?_) (fun h40 => ?_)
    · have h0 := bI_eq.mp h40
      refine V_vret C (by first | omega | decide) (by first | omega | decide) dX9_rest_52 ?_
      refine ⟨rfl, ?_⟩
      unfold oRest
      first | (rw [if_neg h0]; exact RF_I hRF rfl) | (rw [if_pos h0]; exact RF_tr (RF_I hRF (f := 56) rfl) hT)
    · have h0 := bI_ne.mp h40
      rw [h0]
      refine V_aload_n C dX9_rest_43 rfl (by first | exact isR_r _ | exact isR_q _ | exact isR_n) ?_
      refine V_iload_n C dX9_rest_44 rfl ?_
      refine V_iconst C (v := 2) dX9_rest_45 (by decide) ?_
      refine V_iload_n C dX9_rest_46 rfl ?_
      refine V_iconst C (v := 0) dX9_rest_47 (by decide) ?_
      refine V_iload_n C dX9_rest_48 rfl ?_
      refine V_callV C (c_X9_tells _ hl G (pI S 956 m 0) m (sT σ 0) (RelR_I hR 56 rfl) hI h 2 a 0 u) kv_X9_197 cf_9 (by decide) rfl (by assumption) (by decide) (by decide) rfl rfl (Nat.le_of_ble_eq_true rfl) dX9_rest_49 ?_ (fun _ _ h => h.elim)
      intro v T hT
      obtain ⟨rfl, hT⟩ := hT
      dsimp only [Option.toList_some, Option.toList_none, List.cons_append, List.nil_append]
      refine V_vret C (by first | omega | decide) (by first | omega | decide) dX9_rest_52 ?_
      refine ⟨rfl, ?_⟩
      unfold oRest
      first | (rw [if_neg h0]; exact RF_I hRF rfl) | (rw [if_pos h0]; exact RF_tr (RF_I hRF (f := 56) rfl) hT)
  refine V_aload_n C dX9_rest_0 rfl (by first | exact isR_r _ | exact isR_q _ | exact isR_n) ?_
  refine V_aload_n C dX9_rest_1 rfl (by first | exact isR_r _ | exact isR_q _ | exact isR_n) ?_
  refine V_iload_n C dX9_rest_2 rfl ?_
  refine V_fV C (c_X9_isHome _ hl G S m σ hR h) kv_X9_193 cf_9 (by decide) rfl (by assumption) (by decide) (by decide) rfl rfl (Nat.le_of_ble_eq_true rfl) dX9_rest_3 ?_
  dsimp only [Option.toList_some, Option.toList_none, List.cons_append, List.nil_append]
  refine V_iload_n C dX9_rest_6 rfl ?_
  refine V_aload_n C dX9_rest_7 rfl (by first | exact isR_r _ | exact isR_q _ | exact isR_n) ?_
  refine V_getIe C 9 0 rfl cf_9 fl_X9_187 (by decide) (by decide) dX9_rest_8 (by assumption) (by assumption) ?_
  refine V_sipush C (v := 20000) dX9_rest_11 (by decide) ?_
  refine V_fS C (c_X9_in _ hl G S a (σ.2 0) 20000) ks_X9_165 (by decide) (by decide) rfl rfl (Nat.le_of_ble_eq_true rfl) dX9_rest_14 ?_
  dsimp only [Option.toList_some, Option.toList_none, List.cons_append, List.nil_append]
  refine V_if_eq C (tgt := 35) dX9_rest_17 (by decide) (fun h17 => ?_) (fun h17 => ?_)
  · refine V_iconst C (v := 0) dX9_rest_35 (by decide) ?_
    refine J _ ?_
    first | exact Eq.symm (pI9_t ⟨bI_ne.mp h17, bI_ne.mp h28⟩) | exact Eq.symm (pI9_f (fun q => bI_eq.mp h17 q.1)) | exact Eq.symm (pI9_f (fun q => bI_eq.mp h28 q.2))
  · refine V_iload_n C dX9_rest_20 rfl ?_
    refine V_iload_n C dX9_rest_21 rfl ?_
    refine V_sipush C (v := 20000) dX9_rest_22 (by decide) ?_
    refine V_fS C (c_X9_in _ hl G S u a 20000) ks_X9_165 (by decide) (by decide) rfl rfl (Nat.le_of_ble_eq_true rfl) dX9_rest_25 ?_
    dsimp only [Option.toList_some, Option.toList_none, List.cons_append, List.nil_append]
    refine V_if_eq C (tgt := 35) dX9_rest_28 (by decide) (fun h28 => ?_) (fun h28 => ?_)
    · refine V_iconst C (v := 0) dX9_rest_35 (by decide) ?_
      refine J _ ?_
      first | exact Eq.symm (pI9_t ⟨bI_ne.mp h17, bI_ne.mp h28⟩) | exact Eq.symm (pI9_f (fun q => bI_eq.mp h17 q.1)) | exact Eq.symm (pI9_f (fun q => bI_eq.mp h28 q.2))
    · refine V_iconst C (v := 1) dX9_rest_31 (by decide) ?_
      refine V_goto C (tgt := 36) dX9_rest_32 (by decide) ?_
      refine J _ ?_
      first | exact Eq.symm (pI9_t ⟨bI_ne.mp h17, bI_ne.mp h28⟩) | exact Eq.symm (pI9_f (fun q => bI_eq.mp h17 q.1)) | exact Eq.symm (pI9_f (fun q => bI_eq.mp h28 q.2))
