/-! THE CLASS: stay. -/
theorem c_X8_stay (l : Launch) (hl : l.stackTraces = false) (G : gG) (S : sS) (ad : Nat → Nat → Nat) (σ : aS) (hC : RelC S ad σ) (hI : IC σ) (hS : IS σ) (j : Nat) (hj : j < cN σ 43) (w : Int32) (hw : 0 ≤ w ∧ w ≤ 4) : CtF l G yX8_stay cX8_stay 4 (Option.some FieldType.int) 7 2 12 [.ref (ad 8 0), .int (nI j), .int w] S (some (.int (mStay σ j w))) S := by
  refine Ct_of (by decide) (cat1_all (by repeat first | exact trivial | refine ⟨by first | rfl | exact isR_c (isR_q _), ?_⟩)) (Nat.le_of_ble_eq_true rfl) hl fun X C hXl hin => ?_
  subst hXl
  dsimp only [lArgs, Nat.reduceAdd]
  have kx : sK S (ad 8 0) = 9 := RelC_K hC 8 (by decide) rfl
  obtain ⟨⟨k, hk, ek⟩, ⟨h, hh, eh⟩⟩ := hS j hj
  have ks : sK S (ad 6 j) = 7 := RelC_K hC 6 (by decide) hj
  have rs_600 : sR S 600 (ad 6 j) = some (ad 0 (nx (σ.1 44 j))) := RelC_R hC 6 600 rfl (by unfold cFd; omega) rfl hj
  have rs_601 : sR S 601 (ad 6 j) = some (ad 2 (nx (σ.1 45 j))) := RelC_R hC 6 601 rfl (by unfold cFd; omega) rfl hj
  have is_602 : sI S 602 (ad 6 j) = σ.1 46 j := RelC_I hC 6 602 rfl (by unfold cFd; omega) rfl hj
  have is_603 : sI S 603 (ad 6 j) = σ.1 48 j := RelC_I hC 6 603 rfl (by unfold cFd; omega) rfl hj
  have is_604 : sI S 604 (ad 6 j) = σ.1 47 j := RelC_I hC 6 604 rfl (by unfold cFd; omega) rfl hj
  have hk16 : k < 16 := by have := hI.2.1.2; omega
  have hh10 : h < 10 := by have := hI.2.2.1.2; omega
  rw [ek, nx_nI (j := k) (by omega)] at rs_600
  rw [eh, nx_nI (j := h) (by omega)] at rs_601
  have kc : sK S (ad 0 k) = 1 := RelC_K hC 0 (by decide) hk
  have ic_0 : sI S 0 (ad 0 k) = nI k := RelC_I hC 0 0 rfl (by unfold cFd; omega) rfl hk
  have kh : sK S (ad 2 h) = 3 := RelC_K hC 2 (by decide) hh
  have ih_200 : sI S 200 (ad 2 h) = nI h := RelC_I hC 2 200 rfl (by unfold cFd; omega) rfl hh
  obtain ⟨i, hi, rfl⟩ := ix_of (n := 5) (by decide) hw
  obtain rfl | rfl | rfl | rfl | rfl : i = 0 ∨ i = 1 ∨ i = 2 ∨ i = 3 ∨ i = 4 := by omega
  · refine V_aload_n C dX8_stay_0 rfl (by first | exact isR_r _ | exact isR_q _ | exact isR_n) ?_
    refine V_iload_n C dX8_stay_1 rfl ?_
    refine V_fV C (c_X8_stayAt _ hl G S ad σ hC hI.2.2.2.2.2.1.2 j hj) kv_X8_241 cf_8 (by decide) rfl kx (by decide) (by decide) rfl rfl (Nat.le_of_ble_eq_true rfl) dX8_stay_2 ?_
    dsimp only [Option.toList_some, Option.toList_none, List.cons_append, List.nil_append]
    refine V_astore_n C dX8_stay_5 (by decide) (by first | exact isR_r _ | exact isR_q _ | exact isR_n) rfl ?_
    simp only [lset1, lset2, List.filter_cons, List.filter_nil, Nat.reduceBEq, Nat.reduceAdd, Bool.not_true, Bool.not_false, Bool.and_true, Bool.and_false, Bool.true_and, Bool.false_and, if_true, if_false, Bool.false_eq_true, reduceIte]
    refine V_iload_n C dX8_stay_6 rfl ?_
    refine V_tableIn C dX8_stay_7 (tgt := 40) (by decide) (by decide) rfl (by decide) ?_
    refine V_aload_n C dX8_stay_40 rfl (by first | exact isR_r _ | exact isR_q _ | exact isR_n) ?_
    refine V_getS C 6 0 rfl cf_6 fl_X8_245 (by decide) (by decide) dX8_stay_41 ks rs_600 ?_
    refine V_getIe C 0 0 rfl cf_0 fl_X8_249 (by decide) (by decide) dX8_stay_44 kc ic_0 ?_
    refine V_iret C (by first | omega | decide) (by first | omega | decide) dX8_stay_47 ?_
    rw [show mStay σ j (nI 0) = σ.1 44 j from rfl, ek]
    exact ⟨rfl, rfl⟩
  · refine V_aload_n C dX8_stay_0 rfl (by first | exact isR_r _ | exact isR_q _ | exact isR_n) ?_
    refine V_iload_n C dX8_stay_1 rfl ?_
    refine V_fV C (c_X8_stayAt _ hl G S ad σ hC hI.2.2.2.2.2.1.2 j hj) kv_X8_241 cf_8 (by decide) rfl kx (by decide) (by decide) rfl rfl (Nat.le_of_ble_eq_true rfl) dX8_stay_2 ?_
    dsimp only [Option.toList_some, Option.toList_none, List.cons_append, List.nil_append]
    refine V_astore_n C dX8_stay_5 (by decide) (by first | exact isR_r _ | exact isR_q _ | exact isR_n) rfl ?_
    simp only [lset1, lset2, List.filter_cons, List.filter_nil, Nat.reduceBEq, Nat.reduceAdd, Bool.not_true, Bool.not_false, Bool.and_true, Bool.and_false, Bool.true_and, Bool.false_and, if_true, if_false, Bool.false_eq_true, reduceIte]
    refine V_iload_n C dX8_stay_6 rfl ?_
    refine V_tableIn C dX8_stay_7 (tgt := 48) (by decide) (by decide) rfl (by decide) ?_
    refine V_aload_n C dX8_stay_48 rfl (by first | exact isR_r _ | exact isR_q _ | exact isR_n) ?_
    refine V_getS C 6 1 rfl cf_6 fl_X8_218 (by decide) (by decide) dX8_stay_49 ks rs_601 ?_
    refine V_getIe C 2 0 rfl cf_2 fl_X8_136 (by decide) (by decide) dX8_stay_52 kh ih_200 ?_
    refine V_iret C (by first | omega | decide) (by first | omega | decide) dX8_stay_55 ?_
    rw [show mStay σ j (nI 1) = σ.1 45 j from rfl, eh]
    exact ⟨rfl, rfl⟩
  · refine V_aload_n C dX8_stay_0 rfl (by first | exact isR_r _ | exact isR_q _ | exact isR_n) ?_
    refine V_iload_n C dX8_stay_1 rfl ?_
    refine V_fV C (c_X8_stayAt _ hl G S ad σ hC hI.2.2.2.2.2.1.2 j hj) kv_X8_241 cf_8 (by decide) rfl kx (by decide) (by decide) rfl rfl (Nat.le_of_ble_eq_true rfl) dX8_stay_2 ?_
    dsimp only [Option.toList_some, Option.toList_none, List.cons_append, List.nil_append]
    refine V_astore_n C dX8_stay_5 (by decide) (by first | exact isR_r _ | exact isR_q _ | exact isR_n) rfl ?_
    simp only [lset1, lset2, List.filter_cons, List.filter_nil, Nat.reduceBEq, Nat.reduceAdd, Bool.not_true, Bool.not_false, Bool.and_true, Bool.and_false, Bool.true_and, Bool.false_and, if_true, if_false, Bool.false_eq_true, reduceIte]
    refine V_iload_n C dX8_stay_6 rfl ?_
    refine V_tableIn C dX8_stay_7 (tgt := 56) (by decide) (by decide) rfl (by decide) ?_
    refine V_aload_n C dX8_stay_56 rfl (by first | exact isR_r _ | exact isR_q _ | exact isR_n) ?_
    refine V_getIe C 6 2 rfl cf_6 fl_X8_250 (by decide) (by decide) dX8_stay_57 ks is_602 ?_
    refine V_iret C (by first | omega | decide) (by first | omega | decide) dX8_stay_60 ?_
    rw [show mStay σ j (nI 2) = σ.1 46 j from rfl]
    exact ⟨rfl, rfl⟩
  · refine V_aload_n C dX8_stay_0 rfl (by first | exact isR_r _ | exact isR_q _ | exact isR_n) ?_
    refine V_iload_n C dX8_stay_1 rfl ?_
    refine V_fV C (c_X8_stayAt _ hl G S ad σ hC hI.2.2.2.2.2.1.2 j hj) kv_X8_241 cf_8 (by decide) rfl kx (by decide) (by decide) rfl rfl (Nat.le_of_ble_eq_true rfl) dX8_stay_2 ?_
    dsimp only [Option.toList_some, Option.toList_none, List.cons_append, List.nil_append]
    refine V_astore_n C dX8_stay_5 (by decide) (by first | exact isR_r _ | exact isR_q _ | exact isR_n) rfl ?_
    simp only [lset1, lset2, List.filter_cons, List.filter_nil, Nat.reduceBEq, Nat.reduceAdd, Bool.not_true, Bool.not_false, Bool.and_true, Bool.and_false, Bool.true_and, Bool.false_and, if_true, if_false, Bool.false_eq_true, reduceIte]
    refine V_iload_n C dX8_stay_6 rfl ?_
    refine V_tableIn C dX8_stay_7 (tgt := 61) (by decide) (by decide) rfl (by decide) ?_
    refine V_aload_n C dX8_stay_61 rfl (by first | exact isR_r _ | exact isR_q _ | exact isR_n) ?_
    refine V_getIe C 6 4 rfl cf_6 fl_X8_253 (by decide) (by decide) dX8_stay_62 ks is_604 ?_
    refine V_iret C (by first | omega | decide) (by first | omega | decide) dX8_stay_65 ?_
    rw [show mStay σ j (nI 3) = σ.1 47 j from rfl]
    exact ⟨rfl, rfl⟩
  · refine V_aload_n C dX8_stay_0 rfl (by first | exact isR_r _ | exact isR_q _ | exact isR_n) ?_
    refine V_iload_n C dX8_stay_1 rfl ?_
    refine V_fV C (c_X8_stayAt _ hl G S ad σ hC hI.2.2.2.2.2.1.2 j hj) kv_X8_241 cf_8 (by decide) rfl kx (by decide) (by decide) rfl rfl (Nat.le_of_ble_eq_true rfl) dX8_stay_2 ?_
    dsimp only [Option.toList_some, Option.toList_none, List.cons_append, List.nil_append]
    refine V_astore_n C dX8_stay_5 (by decide) (by first | exact isR_r _ | exact isR_q _ | exact isR_n) rfl ?_
    simp only [lset1, lset2, List.filter_cons, List.filter_nil, Nat.reduceBEq, Nat.reduceAdd, Bool.not_true, Bool.not_false, Bool.and_true, Bool.and_false, Bool.true_and, Bool.false_and, if_true, if_false, Bool.false_eq_true, reduceIte]
    refine V_iload_n C dX8_stay_6 rfl ?_
    refine V_tableIn C dX8_stay_7 (tgt := 66) (by decide) (by decide) rfl (by decide) ?_
    refine V_aload_n C dX8_stay_66 rfl (by first | exact isR_r _ | exact isR_q _ | exact isR_n) ?_
    refine V_getIe C 6 3 rfl cf_6 fl_X8_256 (by decide) (by decide) dX8_stay_67 ks is_603 ?_
    refine V_iret C (by first | omega | decide) (by first | omega | decide) dX8_stay_70 ?_
    rw [show mStay σ j (nI 4) = σ.1 48 j from rfl]
    exact ⟨rfl, rfl⟩
theorem c_X8_stayX (l : Launch) (hl : l.stackTraces = false) (G : gG) (S : sS) (ad : Nat → Nat → Nat) (σ : aS) (hC : RelC S ad σ) (hI : IC σ) (x w : Int32) (hx : ¬ ∃ k, k < cN σ 43 ∧ x = nI k) : CtX l G yX8_stay cX8_stay 4 (Option.some FieldType.int) 7 2 12 [.ref (ad 8 0), .int x, .int w] S "java/lang/IndexOutOfBoundsException" := by
  refine Ct_of (by decide) (cat1_all (by repeat first | exact trivial | refine ⟨by first | rfl | exact isR_c (isR_q _), ?_⟩)) (Nat.le_of_ble_eq_true rfl) hl fun X C hXl hin => ?_
  subst hXl
  dsimp only [lArgs, Nat.reduceAdd]
  have kx : sK S (ad 8 0) = 9 := RelC_K hC 8 (by decide) rfl
  refine V_aload_n C dX8_stay_0 rfl (by first | exact isR_r _ | exact isR_q _ | exact isR_n) ?_
  refine V_iload_n C dX8_stay_1 rfl ?_
  refine V_xV C (c_X8_stayAtX _ hl G S ad σ hC hI.2.2.2.2.2.1.2 x hx) kv_X8_241 cf_8 (by decide) rfl kx (by decide) (by decide) rfl rfl (Nat.le_of_ble_eq_true rfl) dX8_stay_2 (by first | omega | decide) (by first | omega | decide) ?_
  exact ⟨rfl, rfl⟩
theorem c_X8_stayY (l : Launch) (hl : l.stackTraces = false) (G : gG) (S : sS) (ad : Nat → Nat → Nat) (σ : aS) (hC : RelC S ad σ) (hI : IC σ) (j : Nat) (hj : j < cN σ 43) (w : Int32) (hw : ¬ (0 ≤ w ∧ w ≤ 4)) : CtX l G yX8_stay cX8_stay 4 (Option.some FieldType.int) 7 2 12 [.ref (ad 8 0), .int (nI j), .int w] S "java/lang/IllegalArgumentException" := by
  refine Ct_of (by decide) (cat1_all (by repeat first | exact trivial | refine ⟨by first | rfl | exact isR_c (isR_q _), ?_⟩)) (Nat.le_of_ble_eq_true rfl) hl fun X C hXl hin => ?_
  subst hXl
  dsimp only [lArgs, Nat.reduceAdd]
  have kx : sK S (ad 8 0) = 9 := RelC_K hC 8 (by decide) rfl
  have h9 : w.toInt < 0 ∨ 4 < w.toInt := by
    rw [Int32.le_iff_toInt_le, Int32.le_iff_toInt_le, show (0 : Int32).toInt = 0 from rfl, show (4 : Int32).toInt = 4 from rfl] at hw
    omega
  refine V_aload_n C dX8_stay_0 rfl (by first | exact isR_r _ | exact isR_q _ | exact isR_n) ?_
  refine V_iload_n C dX8_stay_1 rfl ?_
  refine V_fV C (c_X8_stayAt _ hl G S ad σ hC hI.2.2.2.2.2.1.2 j hj) kv_X8_241 cf_8 (by decide) rfl kx (by decide) (by decide) rfl rfl (Nat.le_of_ble_eq_true rfl) dX8_stay_2 ?_
  dsimp only [Option.toList_some, Option.toList_none, List.cons_append, List.nil_append]
  refine V_astore_n C dX8_stay_5 (by decide) (by first | exact isR_r _ | exact isR_q _ | exact isR_n) rfl ?_
  simp only [lset1, lset2, List.filter_cons, List.filter_nil, Nat.reduceBEq, Nat.reduceAdd, Bool.not_true, Bool.not_false, Bool.and_true, Bool.and_false, Bool.true_and, Bool.false_and, if_true, if_false, Bool.false_eq_true, reduceIte]
  refine V_iload_n C dX8_stay_6 rfl ?_
  refine V_tableOut C dX8_stay_7 (tgt := 71) h9 (by decide) ?_
  refine V_throwSW C tw_X8_236_259_240 dX8_stay_71 dX8_stay_74 dX8_stay_75 dX8_stay_78 dX8_stay_81 (by decide) (by first | omega | decide) (by first | omega | decide) ?_
  exact ⟨rfl, rfl⟩

