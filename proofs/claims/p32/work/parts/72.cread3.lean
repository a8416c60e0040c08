/-! THE CLASS: counts, stay. -/
theorem c_X8_counts (l : Launch) (hl : l.stackTraces = false) (G : gG) (S : sS) (ad : Nat → Nat → Nat) (σ : aS) (hC : RelC S ad σ) (hI : IC σ) (hO : IO σ) (k : Nat) (hk : k < cN σ 1) (on : Int32) (hon : 0 ≤ on ∧ on ≤ 30000) : CtF l G yX8_counts cX8_counts 4 (Option.some FieldType.int) 7 2 12 [.ref (ad 8 0), .int (nI k), .int on] S (some (.int (mCounts σ (nI k) on))) S := by
  refine Ct_of (by decide) (cat1_all (by repeat first | exact trivial | refine ⟨by first | rfl | exact isR_c (isR_q _), ?_⟩)) (Nat.le_of_ble_eq_true rfl) hl fun X C hXl hin => ?_
  subst hXl
  dsimp only [lArgs, Nat.reduceAdd]
  have kx : sK S (ad 8 0) = 9 := RelC_K hC 8 (by decide) rfl
  have kc : sK S (ad 0 k) = 1 := RelC_K hC 0 (by decide) hk
  refine V_aload_n C dX8_counts_0 rfl (by first | exact isR_r _ | exact isR_q _ | exact isR_n) ?_
  refine V_iload_n C dX8_counts_1 rfl ?_
  refine V_fV C (c_X8_childAt _ hl G S ad σ hC hI.2.1.2 k hk) kv_X8_90 cf_8 (by decide) rfl kx (by decide) (by decide) rfl rfl (Nat.le_of_ble_eq_true rfl) dX8_counts_2 ?_
  dsimp only [Option.toList_some, Option.toList_none, List.cons_append, List.nil_append]
  refine V_astore_n C dX8_counts_5 (by decide) (by first | exact isR_r _ | exact isR_q _ | exact isR_n) rfl ?_
  simp only [lset1, lset2, List.filter_cons, List.filter_nil, Nat.reduceBEq, Nat.reduceAdd, Bool.not_true, Bool.not_false, Bool.and_true, Bool.and_false, Bool.true_and, Bool.false_and, if_true, if_false, Bool.false_eq_true, reduceIte]
  refine V_iload_n C dX8_counts_6 rfl ?_
  refine V_iconst C (v := 0) dX8_counts_7 (by decide) ?_
  refine V_sipush C (v := 30000) dX8_counts_8 (by decide) ?_
  refine V_fS C (c_X8_isWithin _ hl G S _ _ _) ks_X8_34 (by decide) (by decide) rfl rfl (Nat.le_of_ble_eq_true rfl) dX8_counts_11 ?_
  dsimp only [Option.toList_some, Option.toList_none, List.cons_append, List.nil_append]
  rw [bI_t hon]
  refine V_fS C (c_X8_require1 _ hl G S) ks_X8_38 (by decide) (by decide) rfl rfl (Nat.le_of_ble_eq_true rfl) dX8_counts_14 ?_
  dsimp only [Option.toList_some, Option.toList_none, List.cons_append, List.nil_append]
  refine V_aload_n C dX8_counts_17 rfl (by first | exact isR_r _ | exact isR_q _ | exact isR_n) ?_
  refine V_iload_n C dX8_counts_18 rfl ?_
  refine V_fV C (c_X0_orderNumberOn _ hl G S ad σ hC k hk hO hI.2.2.2.2.1.2 on) kv_X8_133 cf_0 (by decide) rfl kc (by decide) (by decide) rfl rfl (Nat.le_of_ble_eq_true rfl) dX8_counts_19 ?_
  dsimp only [Option.toList_some, Option.toList_none, List.cons_append, List.nil_append]
  refine V_iret C (by first | omega | decide) (by first | omega | decide) dX8_counts_22 ?_
  exact ⟨rfl, rfl⟩
theorem c_X8_countsX (l : Launch) (hl : l.stackTraces = false) (G : gG) (S : sS) (ad : Nat → Nat → Nat) (σ : aS) (hC : RelC S ad σ) (hI : IC σ) (x on : Int32) (hx : ¬ ∃ k, k < cN σ 1 ∧ x = nI k) : CtX l G yX8_counts cX8_counts 4 (Option.some FieldType.int) 7 2 12 [.ref (ad 8 0), .int x, .int on] S "java/lang/IndexOutOfBoundsException" := by
  refine Ct_of (by decide) (cat1_all (by repeat first | exact trivial | refine ⟨by first | rfl | exact isR_c (isR_q _), ?_⟩)) (Nat.le_of_ble_eq_true rfl) hl fun X C hXl hin => ?_
  subst hXl
  dsimp only [lArgs, Nat.reduceAdd]
  have kx : sK S (ad 8 0) = 9 := RelC_K hC 8 (by decide) rfl
  refine V_aload_n C dX8_counts_0 rfl (by first | exact isR_r _ | exact isR_q _ | exact isR_n) ?_
  refine V_iload_n C dX8_counts_1 rfl ?_
  refine V_xV C (c_X8_childAtX _ hl G S ad σ hC hI.2.1.2 x hx) kv_X8_90 cf_8 (by decide) rfl kx (by decide) (by decide) rfl rfl (Nat.le_of_ble_eq_true rfl) dX8_counts_2 (by first | omega | decide) (by first | omega | decide) ?_
  exact ⟨rfl, rfl⟩
theorem c_X8_countsY (l : Launch) (hl : l.stackTraces = false) (G : gG) (S : sS) (ad : Nat → Nat → Nat) (σ : aS) (hC : RelC S ad σ) (hI : IC σ) (k : Nat) (hk : k < cN σ 1) (on : Int32) (hon : ¬ (0 ≤ on ∧ on ≤ 30000)) : CtX l G yX8_counts cX8_counts 4 (Option.some FieldType.int) 7 2 12 [.ref (ad 8 0), .int (nI k), .int on] S "java/lang/IllegalArgumentException" := by
  refine Ct_of (by decide) (cat1_all (by repeat first | exact trivial | refine ⟨by first | rfl | exact isR_c (isR_q _), ?_⟩)) (Nat.le_of_ble_eq_true rfl) hl fun X C hXl hin => ?_
  subst hXl
  dsimp only [lArgs, Nat.reduceAdd]
  have kx : sK S (ad 8 0) = 9 := RelC_K hC 8 (by decide) rfl
  refine V_aload_n C dX8_counts_0 rfl (by first | exact isR_r _ | exact isR_q _ | exact isR_n) ?_
  refine V_iload_n C dX8_counts_1 rfl ?_
  refine V_fV C (c_X8_childAt _ hl G S ad σ hC hI.2.1.2 k hk) kv_X8_90 cf_8 (by decide) rfl kx (by decide) (by decide) rfl rfl (Nat.le_of_ble_eq_true rfl) dX8_counts_2 ?_
  dsimp only [Option.toList_some, Option.toList_none, List.cons_append, List.nil_append]
  refine V_astore_n C dX8_counts_5 (by decide) (by first | exact isR_r _ | exact isR_q _ | exact isR_n) rfl ?_
  simp only [lset1, lset2, List.filter_cons, List.filter_nil, Nat.reduceBEq, Nat.reduceAdd, Bool.not_true, Bool.not_false, Bool.and_true, Bool.and_false, Bool.true_and, Bool.false_and, if_true, if_false, Bool.false_eq_true, reduceIte]
  refine V_iload_n C dX8_counts_6 rfl ?_
  refine V_iconst C (v := 0) dX8_counts_7 (by decide) ?_
  refine V_sipush C (v := 30000) dX8_counts_8 (by decide) ?_
  refine V_fS C (c_X8_isWithin _ hl G S _ _ _) ks_X8_34 (by decide) (by decide) rfl rfl (Nat.le_of_ble_eq_true rfl) dX8_counts_11 ?_
  dsimp only [Option.toList_some, Option.toList_none, List.cons_append, List.nil_append]
  rw [bI_f hon]
  refine V_xS C (c_X8_require0 _ hl G S) ks_X8_38 (by decide) (by decide) rfl rfl (Nat.le_of_ble_eq_true rfl) dX8_counts_14 (by first | omega | decide) (by first | omega | decide) ?_
  exact ⟨rfl, rfl⟩

