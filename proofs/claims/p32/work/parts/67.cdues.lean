/-! THE CLASS: dues. -/
def ysum (d : Int32) : Int32 := 365 * (d / 365 * (d / 365 - 1) / 2) + (d - d / 365 * 365) * (d / 365)
def cBorn (σ : aS) (k : Nat) : Int32 := σ.1 3 k - σ.1 2 k
def cOver (σ : aS) (j : Nat) (day : Int32) : Int32 := if σ.1 47 j = -1 then day else σ.1 47 j
def cDues (σ : aS) (j : Nat) (day : Int32) : Int32 := (cOver σ j day - σ.1 46 j) * (10 + 5 * bcF (σ.1 4 (nx (σ.1 44 j)))) + ysum (cOver σ j day - cBorn σ (nx (σ.1 44 j))) - ysum (σ.1 46 j - cBorn σ (nx (σ.1 44 j)))
theorem c_X6_yearsSummed (l : Launch) (hl : l.stackTraces = false) (G : gG) (S : sS) (d : Int32) : CtF l G yX6_yearsSummed cX6_yearsSummed 2 (Option.some FieldType.int) 1 0 0 [.int d] S (some (.int (ysum d))) S := by
  refine Ct_of (by decide) (cat1_all (by repeat first | exact trivial | refine ⟨by first | rfl | exact isR_c (isR_q _), ?_⟩)) (Nat.le_of_ble_eq_true rfl) hl fun X C hXl hin => ?_
  subst hXl
  dsimp only [lArgs, Nat.reduceAdd]
  refine V_iload_n C dX6_yearsSummed_0 rfl ?_
  refine V_sipush C (v := 365) dX6_yearsSummed_1 (by decide) ?_
  refine V_idiv C dX6_yearsSummed_4 (by decide) ?_
  refine V_istore_n C dX6_yearsSummed_5 (by decide) rfl ?_
  simp only [lset1, lset2, List.filter_cons, List.filter_nil, Nat.reduceBEq, Nat.reduceAdd, Bool.not_true, Bool.not_false, Bool.and_true, Bool.and_false, Bool.true_and, Bool.false_and, if_true, if_false, Bool.false_eq_true, reduceIte]
  refine V_sipush C (v := 365) dX6_yearsSummed_6 (by decide) ?_
  refine V_iload_n C dX6_yearsSummed_9 rfl ?_
  refine V_iload_n C dX6_yearsSummed_10 rfl ?_
  refine V_iconst C (v := 1) dX6_yearsSummed_11 (by decide) ?_
  refine V_isub C dX6_yearsSummed_12 ?_
  refine V_imul C dX6_yearsSummed_13 ?_
  refine V_iconst C (v := 2) dX6_yearsSummed_14 (by decide) ?_
  refine V_idiv C dX6_yearsSummed_15 (by decide) ?_
  refine V_imul C dX6_yearsSummed_16 ?_
  refine V_iload_n C dX6_yearsSummed_17 rfl ?_
  refine V_sipush C (v := 365) dX6_yearsSummed_18 (by decide) ?_
  refine V_irem C dX6_yearsSummed_21 (by decide) ?_
  refine V_iload_n C dX6_yearsSummed_22 rfl ?_
  refine V_imul C dX6_yearsSummed_23 ?_
  refine V_iadd C dX6_yearsSummed_24 ?_
  refine V_iret C (by first | omega | decide) (by first | omega | decide) dX6_yearsSummed_25 ?_
  exact ⟨rfl, rfl⟩
theorem c_X6_duesUpTo (l : Launch) (hl : l.stackTraces = false) (G : gG) (S : sS) (ad : Nat → Nat → Nat) (σ : aS) (hC : RelC S ad σ) (hI : IC σ) (hS : IS σ) (j : Nat) (hj : j < cN σ 43) (day : Int32) : CtF l G yX6_duesUpTo cX6_duesUpTo 4 (Option.some FieldType.int) 2 0 0 [.ref (ad 6 j), .int day] S (some (.int (cDues σ j day))) S := by
  refine Ct_of (by decide) (cat1_all (by repeat first | exact trivial | refine ⟨by first | rfl | exact isR_c (isR_q _), ?_⟩)) (Nat.le_of_ble_eq_true rfl) hl fun X C hXl hin => ?_
  subst hXl
  dsimp only [lArgs, Nat.reduceAdd]
  obtain ⟨⟨k, hk, ek⟩, -⟩ := hS j hj
  have hk16 : k < 16 := by have := hI.2.1.2; omega
  have enk : nx (σ.1 44 j) = k := by rw [ek]; exact nI_clamp (by omega)
  have ks : sK S (ad 6 j) = 7 := RelC_K hC 6 (by decide) hj
  have rs_600 : sR S 600 (ad 6 j) = some (ad 0 (nx (σ.1 44 j))) := RelC_R hC 6 600 rfl (by unfold cFd; omega) rfl hj
  have is_602 : sI S 602 (ad 6 j) = σ.1 46 j := RelC_I hC 6 602 rfl (by unfold cFd; omega) rfl hj
  have is_604 : sI S 604 (ad 6 j) = σ.1 47 j := RelC_I hC 6 604 rfl (by unfold cFd; omega) rfl hj
  rw [enk] at rs_600
  have kc : sK S (ad 0 k) = 1 := RelC_K hC 0 (by decide) hk
  have ic_1 : sI S 1 (ad 0 k) = σ.1 3 k - σ.1 2 k := RelC_I hC 0 1 rfl (by unfold cFd; omega) rfl hk
  have ic_2 : sI S 2 (ad 0 k) = σ.1 4 k := RelC_I hC 0 2 rfl (by unfold cFd; omega) rfl hk
  have ic_1 : sI S 1 (ad 0 k) = cBorn σ k := ic_1
  have J : ∀ v : Int32, v = cOver σ j day → V X G 4 (eQ X G (fun v T => v = some (.int (cDues σ j day)) ∧ T = S) (fun _ _ => False) 0 0) 0 0 16 [(0, false, .ref (ad 6 j)), (1, false, .int day)] [.int v] S := fun v hv => by
    subst hv
    refine V_istore_n C dX6_duesUpTo_16 (by decide) rfl ?_
    simp only [lset1, lset2, List.filter_cons, List.filter_nil, Nat.reduceBEq, Nat.reduceAdd, Bool.not_true, Bool.not_false, Bool.and_true, Bool.and_false, Bool.true_and, Bool.false_and, if_true, if_false, Bool.false_eq_true, reduceIte]
    refine V_bipush C (v := 10) dX6_duesUpTo_17 (by decide) ?_
    refine V_iconst C (v := 5) dX6_duesUpTo_19 (by decide) ?_
    refine V_aload_n C dX6_duesUpTo_20 rfl (by first | exact isR_r _ | exact isR_q _ | exact isR_n) ?_
    refine V_getS C 6 0 rfl cf_6 fl_X6_9 (by decide) (by decide) dX6_duesUpTo_21 ks rs_600 ?_
    refine V_getIe C 0 2 rfl cf_0 fl_X6_29 (by decide) (by decide) dX6_duesUpTo_24 kc ic_2 ?_
    refine V_fS C (c_J6_bitCount _ hl G S _) ks_X6_34 (by decide) (by decide) rfl rfl (Nat.le_of_ble_eq_true rfl) dX6_duesUpTo_27 ?_
    dsimp only [Option.toList_some, Option.toList_none, List.cons_append, List.nil_append]
    refine V_imul C dX6_duesUpTo_30 ?_
    refine V_iadd C dX6_duesUpTo_31 ?_
    refine V_istore_n C dX6_duesUpTo_32 (by decide) rfl ?_
    simp only [lset1, lset2, List.filter_cons, List.filter_nil, Nat.reduceBEq, Nat.reduceAdd, Bool.not_true, Bool.not_false, Bool.and_true, Bool.and_false, Bool.true_and, Bool.false_and, if_true, if_false, Bool.false_eq_true, reduceIte]
    refine V_iload_n C dX6_duesUpTo_33 rfl ?_
    refine V_aload_n C dX6_duesUpTo_34 rfl (by first | exact isR_r _ | exact isR_q _ | exact isR_n) ?_
    refine V_getIe C 6 2 rfl cf_6 fl_X6_19 (by decide) (by decide) dX6_duesUpTo_35 ks is_602 ?_
    refine V_isub C dX6_duesUpTo_38 ?_
    refine V_iload_n C dX6_duesUpTo_39 rfl ?_
    refine V_imul C dX6_duesUpTo_40 ?_
    refine V_iload_n C dX6_duesUpTo_41 rfl ?_
    refine V_aload_n C dX6_duesUpTo_42 rfl (by first | exact isR_r _ | exact isR_q _ | exact isR_n) ?_
    refine V_getS C 6 0 rfl cf_6 fl_X6_9 (by decide) (by decide) dX6_duesUpTo_43 ks rs_600 ?_
    refine V_getIe C 0 1 rfl cf_0 fl_X6_40 (by decide) (by decide) dX6_duesUpTo_46 kc ic_1 ?_
    refine V_isub C dX6_duesUpTo_49 ?_
    refine V_fS C (c_X6_yearsSummed _ hl G S _) ks_X6_43 (by decide) (by decide) rfl rfl (Nat.le_of_ble_eq_true rfl) dX6_duesUpTo_50 ?_
    dsimp only [Option.toList_some, Option.toList_none, List.cons_append, List.nil_append]
    refine V_iadd C dX6_duesUpTo_53 ?_
    refine V_aload_n C dX6_duesUpTo_54 rfl (by first | exact isR_r _ | exact isR_q _ | exact isR_n) ?_
    refine V_getIe C 6 2 rfl cf_6 fl_X6_19 (by decide) (by decide) dX6_duesUpTo_55 ks is_602 ?_
    refine V_aload_n C dX6_duesUpTo_58 rfl (by first | exact isR_r _ | exact isR_q _ | exact isR_n) ?_
    refine V_getS C 6 0 rfl cf_6 fl_X6_9 (by decide) (by decide) dX6_duesUpTo_59 ks rs_600 ?_
    refine V_getIe C 0 1 rfl cf_0 fl_X6_40 (by decide) (by decide) dX6_duesUpTo_62 kc ic_1 ?_
    refine V_isub C dX6_duesUpTo_65 ?_
    refine V_fS C (c_X6_yearsSummed _ hl G S _) ks_X6_43 (by decide) (by decide) rfl rfl (Nat.le_of_ble_eq_true rfl) dX6_duesUpTo_66 ?_
    dsimp only [Option.toList_some, Option.toList_none, List.cons_append, List.nil_append]
    refine V_isub C dX6_duesUpTo_69 ?_
    refine V_iret C (by first | omega | decide) (by first | omega | decide) dX6_duesUpTo_70 ?_
    unfold cDues
    rw [enk]
    exact ⟨rfl, rfl⟩
  refine V_aload_n C dX6_duesUpTo_0 rfl (by first | exact isR_r _ | exact isR_q _ | exact isR_n) ?_
  refine V_getIe C 6 4 rfl cf_6 fl_X6_26 (by decide) (by decide) dX6_duesUpTo_1 ks is_604 ?_
  refine V_iconst C (v := (-1)) dX6_duesUpTo_4 (by decide) ?_
  refine V_icmp_ne C (tgt := 12) dX6_duesUpTo_5 (by decide) (fun h5 => ?_) (fun h5 => ?_)
  · have T0 : cOver σ j day = σ.1 47 j := if_neg h5
    refine V_aload_n C dX6_duesUpTo_12 rfl (by first | exact isR_r _ | exact isR_q _ | exact isR_n) ?_
    refine V_getIe C 6 4 rfl cf_6 fl_X6_26 (by decide) (by decide) dX6_duesUpTo_13 ks is_604 ?_
    exact J _ T0.symm
  · have T0 : cOver σ j day = day := if_pos h5
    refine V_iload_n C dX6_duesUpTo_8 rfl ?_
    refine V_goto C (tgt := 16) dX6_duesUpTo_9 (by decide) ?_
    exact J _ T0.symm

