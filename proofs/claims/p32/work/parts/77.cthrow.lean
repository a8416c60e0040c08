/-! THE CLASS: best and file, thrown. -/
theorem c_X8_bestX (l : Launch) (hl : l.stackTraces = false) (G : gG) (S : sS) (ad : Nat → Nat → Nat) (σ : aS) (hC : RelC S ad σ) (hI : IC σ) (x : Int32) (hx : ¬ ∃ k, k < cN σ 1 ∧ x = nI k) : CtX l G yX8_best cX8_best 10 (Option.some FieldType.int) 7 1 6 [.ref (ad 8 0), .int x] S "java/lang/IndexOutOfBoundsException" := by
  refine Ct_of (by decide) (cat1_all (by repeat first | exact trivial | refine ⟨by first | rfl | exact isR_c (isR_q _), ?_⟩)) (Nat.le_of_ble_eq_true rfl) hl fun X C hXl hin => ?_
  subst hXl
  dsimp only [lArgs, Nat.reduceAdd]
  have kx : sK S (ad 8 0) = 9 := RelC_K hC 8 (by decide) rfl
  refine V_aload_n C dX8_best_0 rfl (by first | exact isR_r _ | exact isR_q _ | exact isR_n) ?_
  refine V_iload_n C dX8_best_1 rfl ?_
  refine V_xV C (c_X8_childAtX _ hl G S ad σ hC hI.2.1.2 x hx) kv_X8_90 cf_8 (by decide) rfl kx (by decide) (by decide) rfl rfl (Nat.le_of_ble_eq_true rfl) dX8_best_2 (by first | omega | decide) (by first | omega | decide) ?_
  exact ⟨rfl, rfl⟩
theorem c_X8_fileX (l : Launch) (hl : l.stackTraces = false) (G : gG) (S : sS) (ad : Nat → Nat → Nat) (σ : aS) (hC : RelC S ad σ) (hI : IC σ) (x w : Int32) (hx : ¬ ∃ k, k < cN σ 1 ∧ x = nI k) : CtX l G yX8_file cX8_file 9 (Option.some FieldType.int) 7 2 12 [.ref (ad 8 0), .int x, .int w] S "java/lang/IndexOutOfBoundsException" := by
  refine Ct_of (by decide) (cat1_all (by repeat first | exact trivial | refine ⟨by first | rfl | exact isR_c (isR_q _), ?_⟩)) (Nat.le_of_ble_eq_true rfl) hl fun X C hXl hin => ?_
  subst hXl
  dsimp only [lArgs, Nat.reduceAdd]
  have kx : sK S (ad 8 0) = 9 := RelC_K hC 8 (by decide) rfl
  refine V_aload_n C dX8_file_0 rfl (by first | exact isR_r _ | exact isR_q _ | exact isR_n) ?_
  refine V_iload_n C dX8_file_1 rfl ?_
  refine V_xV C (c_X8_childAtX _ hl G S ad σ hC hI.2.1.2 x hx) kv_X8_90 cf_8 (by decide) rfl kx (by decide) (by decide) rfl rfl (Nat.le_of_ble_eq_true rfl) dX8_file_2 (by first | omega | decide) (by first | omega | decide) ?_
  exact ⟨rfl, rfl⟩
theorem c_X8_fileN (l : Launch) (hl : l.stackTraces = false) (G : gG) (S : sS) (ad : Nat → Nat → Nat) (σ : aS) (hC : RelC S ad σ) (hI : IC σ) (k : Nat) (hk : k < cN σ 1) (w : Int32) (hw : ¬ 0 ≤ w) : CtX l G yX8_file cX8_file 9 (Option.some FieldType.int) 7 2 12 [.ref (ad 8 0), .int (nI k), .int w] S "java/lang/IndexOutOfBoundsException" := by
  refine Ct_of (by decide) (cat1_all (by repeat first | exact trivial | refine ⟨by first | rfl | exact isR_c (isR_q _), ?_⟩)) (Nat.le_of_ble_eq_true rfl) hl fun X C hXl hin => ?_
  subst hXl
  dsimp only [lArgs, Nat.reduceAdd]
  have kx : sK S (ad 8 0) = 9 := RelC_K hC 8 (by decide) rfl
  refine V_aload_n C dX8_file_0 rfl (by first | exact isR_r _ | exact isR_q _ | exact isR_n) ?_
  refine V_iload_n C dX8_file_1 rfl ?_
  refine V_fV C (c_X8_childAt _ hl G S ad σ hC hI.2.1.2 k hk) kv_X8_90 cf_8 (by decide) rfl kx (by decide) (by decide) rfl rfl (Nat.le_of_ble_eq_true rfl) dX8_file_2 ?_
  dsimp only [Option.toList_some, Option.toList_none, List.cons_append, List.nil_append]
  refine V_astore_n C dX8_file_5 (by decide) (by first | exact isR_r _ | exact isR_q _ | exact isR_n) rfl ?_
  simp only [lset1, lset2, List.filter_cons, List.filter_nil, Nat.reduceBEq, Nat.reduceAdd, Bool.not_true, Bool.not_false, Bool.and_true, Bool.and_false, Bool.true_and, Bool.false_and, if_true, if_false, Bool.false_eq_true, reduceIte]
  refine V_iload_n C dX8_file_6 rfl ?_
  refine V_if_ge C (tgt := 21) dX8_file_7 (by decide) (fun h7 => ?_) (fun h7 => ?_)
  · exact absurd h7 hw
  · refine V_throwSW C tw_X8_268_270_272 dX8_file_10 dX8_file_13 dX8_file_14 dX8_file_17 dX8_file_20 (by decide) (by first | omega | decide) (by first | omega | decide) ?_
    exact ⟨rfl, rfl⟩
theorem c_X8_fileY (l : Launch) (hl : l.stackTraces = false) (G : gG) (S : sS) (ad : Nat → Nat → Nat) (σ : aS) (hC : RelC S ad σ) (hI : IC σ) (k : Nat) (hk : k < cN σ 1) (w : Int32) (hw : 0 ≤ w) (hy : ¬ 18 ≤ mYears σ k (σ.2 0)) : CtX l G yX8_file cX8_file 9 (Option.some FieldType.int) 7 2 12 [.ref (ad 8 0), .int (nI k), .int w] S "java/lang/IllegalStateException" := by
  refine Ct_of (by decide) (cat1_all (by repeat first | exact trivial | refine ⟨by first | rfl | exact isR_c (isR_q _), ?_⟩)) (Nat.le_of_ble_eq_true rfl) hl fun X C hXl hin => ?_
  subst hXl
  dsimp only [lArgs, Nat.reduceAdd]
  have kx : sK S (ad 8 0) = 9 := RelC_K hC 8 (by decide) rfl
  have ix_808 : sI S 808 (ad 8 0) = σ.2 0 := RelC_I hC 8 808 rfl (by unfold cFd; omega) rfl rfl
  have kc : sK S (ad 0 k) = 1 := RelC_K hC 0 (by decide) hk
  refine V_aload_n C dX8_file_0 rfl (by first | exact isR_r _ | exact isR_q _ | exact isR_n) ?_
  refine V_iload_n C dX8_file_1 rfl ?_
  refine V_fV C (c_X8_childAt _ hl G S ad σ hC hI.2.1.2 k hk) kv_X8_90 cf_8 (by decide) rfl kx (by decide) (by decide) rfl rfl (Nat.le_of_ble_eq_true rfl) dX8_file_2 ?_
  dsimp only [Option.toList_some, Option.toList_none, List.cons_append, List.nil_append]
  refine V_astore_n C dX8_file_5 (by decide) (by first | exact isR_r _ | exact isR_q _ | exact isR_n) rfl ?_
  simp only [lset1, lset2, List.filter_cons, List.filter_nil, Nat.reduceBEq, Nat.reduceAdd, Bool.not_true, Bool.not_false, Bool.and_true, Bool.and_false, Bool.true_and, Bool.false_and, if_true, if_false, Bool.false_eq_true, reduceIte]
  refine V_iload_n C dX8_file_6 rfl ?_
  refine V_if_ge C (tgt := 21) dX8_file_7 (by decide) (fun h7 => ?_) (fun h7 => ?_)
  · refine V_aload_n C dX8_file_21 rfl (by first | exact isR_r _ | exact isR_q _ | exact isR_n) ?_
    refine V_aload_n C dX8_file_22 rfl (by first | exact isR_r _ | exact isR_q _ | exact isR_n) ?_
    refine V_getIe C 8 8 rfl cf_8 fl_X8_53 (by decide) (by decide) dX8_file_23 kx ix_808 ?_
    refine V_fV C (c_X0_years _ hl G S ad σ hC k hk _) kv_X8_222 cf_0 (by decide) rfl kc (by decide) (by decide) rfl rfl (Nat.le_of_ble_eq_true rfl) dX8_file_26 ?_
    dsimp only [Option.toList_some, Option.toList_none, List.cons_append, List.nil_append]
    refine V_bipush C (v := 18) dX8_file_29 (by decide) ?_
    refine V_icmp_ge C (tgt := 45) dX8_file_31 (by decide) (fun h31 => ?_) (fun h31 => ?_)
    · exact absurd h31 hy
    · refine V_throwSW C tw_X8_46_273_50 dX8_file_34 dX8_file_37 dX8_file_38 dX8_file_41 dX8_file_44 (by decide) (by first | omega | decide) (by first | omega | decide) ?_
      exact ⟨rfl, rfl⟩
  · exact absurd hw h7

