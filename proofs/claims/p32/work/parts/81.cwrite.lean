/-! THE CLASS: visits, came, pay, handOver, blacken, see. -/
theorem c_X8_visits (l : Launch) (hl : l.stackTraces = false) (G : gG) (S : sS) (ad : Nat → Nat → Nat) (σ : aS) (hC : RelC S ad σ) (hI : IC σ) (k : Nat) (hk : k < cN σ 1) (v : Int32) (hv : 0 ≤ v ∧ v ≤ 30) : CtC l G yX8_visits cX8_visits 5 (Option.some FieldType.int) 7 2 12 [.ref (ad 8 0), .int (nI k), .int v] S ad (some (.int (σ.1 12 k))) (up2 σ.1 12 k v, σ.2) := by
  refine Ct_of (by decide) (cat1_all (by repeat first | exact trivial | refine ⟨by first | rfl | exact isR_c (isR_q _), ?_⟩)) (Nat.le_of_ble_eq_true rfl) hl fun X C hXl hin => ?_
  subst hXl
  dsimp only [lArgs, Nat.reduceAdd]
  have kx : sK S (ad 8 0) = 9 := RelC_K hC 8 (by decide) rfl
  have kc : sK S (ad 0 k) = 1 := RelC_K hC 0 (by decide) hk
  have rc_8 : sR S 8 (ad 0 k) = some (ad 1 k) := RelC_R hC 0 8 rfl (by unfold cFd; omega) rfl hk
  have kf : sK S (ad 1 k) = 2 := RelC_K hC 1 (by decide) hk
  have if_100 : sI S 100 (ad 1 k) = σ.1 12 k := RelC_I hC 1 100 rfl (by unfold cFd; omega) rfl hk
  refine V_aload_n C dX8_visits_0 rfl (by first | exact isR_r _ | exact isR_q _ | exact isR_n) ?_
  refine V_iload_n C dX8_visits_1 rfl ?_
  refine V_fV C (c_X8_childAt _ hl G S ad σ hC hI.2.1.2 k hk) kv_X8_90 cf_8 (by decide) rfl kx (by decide) (by decide) rfl rfl (Nat.le_of_ble_eq_true rfl) dX8_visits_2 ?_
  dsimp only [Option.toList_some, Option.toList_none, List.cons_append, List.nil_append]
  refine V_astore_n C dX8_visits_5 (by decide) (by first | exact isR_r _ | exact isR_q _ | exact isR_n) rfl ?_
  simp only [lset1, lset2, List.filter_cons, List.filter_nil, Nat.reduceBEq, Nat.reduceAdd, Bool.not_true, Bool.not_false, Bool.and_true, Bool.and_false, Bool.true_and, Bool.false_and, if_true, if_false, Bool.false_eq_true, reduceIte]
  refine V_iload_n C dX8_visits_6 rfl ?_
  refine V_iconst C (v := 0) dX8_visits_7 (by decide) ?_
  refine V_bipush C (v := 30) dX8_visits_8 (by decide) ?_
  refine V_fS C (c_X8_isWithin _ hl G S _ _ _) ks_X8_34 (by decide) (by decide) rfl rfl (Nat.le_of_ble_eq_true rfl) dX8_visits_10 ?_
  dsimp only [Option.toList_some, Option.toList_none, List.cons_append, List.nil_append]
  rw [bI_t hv]
  refine V_fS C (c_X8_require1 _ hl G S) ks_X8_38 (by decide) (by decide) rfl rfl (Nat.le_of_ble_eq_true rfl) dX8_visits_13 ?_
  dsimp only [Option.toList_some, Option.toList_none, List.cons_append, List.nil_append]
  refine V_aload_n C dX8_visits_16 rfl (by first | exact isR_r _ | exact isR_q _ | exact isR_n) ?_
  refine V_getS C 0 8 rfl cf_0 fl_X8_177 (by decide) (by decide) dX8_visits_17 kc rc_8 ?_
  refine V_getIe C 1 0 rfl cf_1 fl_X8_181 (by decide) (by decide) dX8_visits_20 kf if_100 ?_
  refine V_istore C dX8_visits_23 (by decide) rfl ?_
  simp only [lset1, lset2, List.filter_cons, List.filter_nil, Nat.reduceBEq, Nat.reduceAdd, Bool.not_true, Bool.not_false, Bool.and_true, Bool.and_false, Bool.true_and, Bool.false_and, if_true, if_false, Bool.false_eq_true, reduceIte]
  refine V_aload_n C dX8_visits_25 rfl (by first | exact isR_r _ | exact isR_q _ | exact isR_n) ?_
  refine V_getS C 0 8 rfl cf_0 fl_X8_177 (by decide) (by decide) dX8_visits_26 kc rc_8 ?_
  refine V_iload_n C dX8_visits_29 rfl ?_
  refine V_putI C 1 0 rfl cf_1 pl_X8_181 (by decide) (by decide) dX8_visits_30 kf ?_
  refine V_iload C dX8_visits_33 rfl ?_
  refine V_iret C (by first | omega | decide) (by first | omega | decide) dX8_visits_35 ?_
  exact ⟨rfl, CQ_0 (RelC_up (A := σ.1) (B := σ.2) hC 1 100 (f := 12) rfl (by unfold cFd; omega) rfl rfl (by decide) (by unfold spF; omega) hk) (Fr_I (by rw [kf]; exact Or.inl ⟨by decide, by decide⟩))⟩
theorem c_X8_visitsX (l : Launch) (hl : l.stackTraces = false) (G : gG) (S : sS) (ad : Nat → Nat → Nat) (σ : aS) (hC : RelC S ad σ) (hI : IC σ) (x v : Int32) (hx : ¬ ∃ k, k < cN σ 1 ∧ x = nI k) : CtX l G yX8_visits cX8_visits 5 (Option.some FieldType.int) 7 2 12 [.ref (ad 8 0), .int x, .int v] S "java/lang/IndexOutOfBoundsException" := by
  refine Ct_of (by decide) (cat1_all (by repeat first | exact trivial | refine ⟨by first | rfl | exact isR_c (isR_q _), ?_⟩)) (Nat.le_of_ble_eq_true rfl) hl fun X C hXl hin => ?_
  subst hXl
  dsimp only [lArgs, Nat.reduceAdd]
  have kx : sK S (ad 8 0) = 9 := RelC_K hC 8 (by decide) rfl
  refine V_aload_n C dX8_visits_0 rfl (by first | exact isR_r _ | exact isR_q _ | exact isR_n) ?_
  refine V_iload_n C dX8_visits_1 rfl ?_
  refine V_xV C (c_X8_childAtX _ hl G S ad σ hC hI.2.1.2 x hx) kv_X8_90 cf_8 (by decide) rfl kx (by decide) (by decide) rfl rfl (Nat.le_of_ble_eq_true rfl) dX8_visits_2 (by first | omega | decide) (by first | omega | decide) ?_
  exact ⟨rfl, rfl⟩
theorem c_X8_visitsY (l : Launch) (hl : l.stackTraces = false) (G : gG) (S : sS) (ad : Nat → Nat → Nat) (σ : aS) (hC : RelC S ad σ) (hI : IC σ) (k : Nat) (hk : k < cN σ 1) (v : Int32) (hv : ¬ (0 ≤ v ∧ v ≤ 30)) : CtX l G yX8_visits cX8_visits 5 (Option.some FieldType.int) 7 2 12 [.ref (ad 8 0), .int (nI k), .int v] S "java/lang/IllegalArgumentException" := by
  refine Ct_of (by decide) (cat1_all (by repeat first | exact trivial | refine ⟨by first | rfl | exact isR_c (isR_q _), ?_⟩)) (Nat.le_of_ble_eq_true rfl) hl fun X C hXl hin => ?_
  subst hXl
  dsimp only [lArgs, Nat.reduceAdd]
  have kx : sK S (ad 8 0) = 9 := RelC_K hC 8 (by decide) rfl
  refine V_aload_n C dX8_visits_0 rfl (by first | exact isR_r _ | exact isR_q _ | exact isR_n) ?_
  refine V_iload_n C dX8_visits_1 rfl ?_
  refine V_fV C (c_X8_childAt _ hl G S ad σ hC hI.2.1.2 k hk) kv_X8_90 cf_8 (by decide) rfl kx (by decide) (by decide) rfl rfl (Nat.le_of_ble_eq_true rfl) dX8_visits_2 ?_
  dsimp only [Option.toList_some, Option.toList_none, List.cons_append, List.nil_append]
  refine V_astore_n C dX8_visits_5 (by decide) (by first | exact isR_r _ | exact isR_q _ | exact isR_n) rfl ?_
  simp only [lset1, lset2, List.filter_cons, List.filter_nil, Nat.reduceBEq, Nat.reduceAdd, Bool.not_true, Bool.not_false, Bool.and_true, Bool.and_false, Bool.true_and, Bool.false_and, if_true, if_false, Bool.false_eq_true, reduceIte]
  refine V_iload_n C dX8_visits_6 rfl ?_
  refine V_iconst C (v := 0) dX8_visits_7 (by decide) ?_
  refine V_bipush C (v := 30) dX8_visits_8 (by decide) ?_
  refine V_fS C (c_X8_isWithin _ hl G S _ _ _) ks_X8_34 (by decide) (by decide) rfl rfl (Nat.le_of_ble_eq_true rfl) dX8_visits_10 ?_
  dsimp only [Option.toList_some, Option.toList_none, List.cons_append, List.nil_append]
  rw [bI_f hv]
  refine V_xS C (c_X8_require0 _ hl G S) ks_X8_38 (by decide) (by decide) rfl rfl (Nat.le_of_ble_eq_true rfl) dX8_visits_13 (by first | omega | decide) (by first | omega | decide) ?_
  exact ⟨rfl, rfl⟩
theorem c_X8_came (l : Launch) (hl : l.stackTraces = false) (G : gG) (S : sS) (ad : Nat → Nat → Nat) (σ : aS) (hC : RelC S ad σ) (hI : IC σ) (k : Nat) (hk : k < cN σ 1) (hs : ¬ σ.1 10 k = -1) : CtC l G yX8_came cX8_came 3 none 7 2 12 [.ref (ad 8 0), .int (nI k)] S ad none (up2 σ.1 13 k 1, σ.2) := by
  refine Ct_of (by decide) (cat1_all (by repeat first | exact trivial | refine ⟨by first | rfl | exact isR_c (isR_q _), ?_⟩)) (Nat.le_of_ble_eq_true rfl) hl fun X C hXl hin => ?_
  subst hXl
  dsimp only [lArgs, Nat.reduceAdd]
  have kx : sK S (ad 8 0) = 9 := RelC_K hC 8 (by decide) rfl
  have kc : sK S (ad 0 k) = 1 := RelC_K hC 0 (by decide) hk
  have rc_8 : sR S 8 (ad 0 k) = some (ad 1 k) := RelC_R hC 0 8 rfl (by unfold cFd; omega) rfl hk
  have rc_11 : sR S 11 (ad 0 k) = (if σ.1 10 k = -1 then none else some (ad 6 (nx (σ.1 10 k)))) := RelC_R hC 0 11 rfl (by unfold cFd; omega) rfl hk
  have kf : sK S (ad 1 k) = 2 := RelC_K hC 1 (by decide) hk
  have if_101 : sI S 101 (ad 1 k) = σ.1 13 k := RelC_I hC 1 101 rfl (by unfold cFd; omega) rfl hk
  rw [if_neg hs] at rc_11
  refine V_aload_n C dX8_came_0 rfl (by first | exact isR_r _ | exact isR_q _ | exact isR_n) ?_
  refine V_iload_n C dX8_came_1 rfl ?_
  refine V_fV C (c_X8_childAt _ hl G S ad σ hC hI.2.1.2 k hk) kv_X8_90 cf_8 (by decide) rfl kx (by decide) (by decide) rfl rfl (Nat.le_of_ble_eq_true rfl) dX8_came_2 ?_
  dsimp only [Option.toList_some, Option.toList_none, List.cons_append, List.nil_append]
  refine V_astore_n C dX8_came_5 (by decide) (by first | exact isR_r _ | exact isR_q _ | exact isR_n) rfl ?_
  simp only [lset1, lset2, List.filter_cons, List.filter_nil, Nat.reduceBEq, Nat.reduceAdd, Bool.not_true, Bool.not_false, Bool.and_true, Bool.and_false, Bool.true_and, Bool.false_and, if_true, if_false, Bool.false_eq_true, reduceIte]
  refine V_aload_n C dX8_came_6 rfl (by first | exact isR_r _ | exact isR_q _ | exact isR_n) ?_
  refine V_getRe C 0 11 rfl cf_0 fl_X8_186 (by decide) (by decide) dX8_came_7 kc rc_11 ?_
  refine V_ifnonnull C (tgt := 23) dX8_came_10 (by decide) (fun a10 h10 => ?_) (fun h10 => ?_)
  · cases h10
    refine V_aload_n C dX8_came_23 rfl (by first | exact isR_r _ | exact isR_q _ | exact isR_n) ?_
    refine V_getS C 0 8 rfl cf_0 fl_X8_177 (by decide) (by decide) dX8_came_24 kc rc_8 ?_
    refine V_iconst C (v := 1) dX8_came_27 (by decide) ?_
    refine V_putZ C 1 1 rfl cf_1 pl_X8_192 (by decide) (by decide) dX8_came_28 kf (Or.inr rfl) ?_
    refine V_vret C (by first | omega | decide) (by first | omega | decide) dX8_came_31 ?_
    exact ⟨rfl, CQ_0 (RelC_up (A := σ.1) (B := σ.2) hC 1 101 (f := 13) rfl (by unfold cFd; omega) rfl rfl (by decide) (by unfold spF; omega) hk) (Fr_I (by rw [kf]; exact Or.inl ⟨by decide, by decide⟩))⟩
  · cases h10
theorem c_X8_cameX (l : Launch) (hl : l.stackTraces = false) (G : gG) (S : sS) (ad : Nat → Nat → Nat) (σ : aS) (hC : RelC S ad σ) (hI : IC σ) (x : Int32) (hx : ¬ ∃ k, k < cN σ 1 ∧ x = nI k) : CtX l G yX8_came cX8_came 3 none 7 2 12 [.ref (ad 8 0), .int x] S "java/lang/IndexOutOfBoundsException" := by
  refine Ct_of (by decide) (cat1_all (by repeat first | exact trivial | refine ⟨by first | rfl | exact isR_c (isR_q _), ?_⟩)) (Nat.le_of_ble_eq_true rfl) hl fun X C hXl hin => ?_
  subst hXl
  dsimp only [lArgs, Nat.reduceAdd]
  have kx : sK S (ad 8 0) = 9 := RelC_K hC 8 (by decide) rfl
  refine V_aload_n C dX8_came_0 rfl (by first | exact isR_r _ | exact isR_q _ | exact isR_n) ?_
  refine V_iload_n C dX8_came_1 rfl ?_
  refine V_xV C (c_X8_childAtX _ hl G S ad σ hC hI.2.1.2 x hx) kv_X8_90 cf_8 (by decide) rfl kx (by decide) (by decide) rfl rfl (Nat.le_of_ble_eq_true rfl) dX8_came_2 (by first | omega | decide) (by first | omega | decide) ?_
  exact ⟨rfl, rfl⟩
theorem c_X8_cameY (l : Launch) (hl : l.stackTraces = false) (G : gG) (S : sS) (ad : Nat → Nat → Nat) (σ : aS) (hC : RelC S ad σ) (hI : IC σ) (k : Nat) (hk : k < cN σ 1) (hs : σ.1 10 k = -1) : CtX l G yX8_came cX8_came 3 none 7 2 12 [.ref (ad 8 0), .int (nI k)] S "java/lang/IllegalStateException" := by
  refine Ct_of (by decide) (cat1_all (by repeat first | exact trivial | refine ⟨by first | rfl | exact isR_c (isR_q _), ?_⟩)) (Nat.le_of_ble_eq_true rfl) hl fun X C hXl hin => ?_
  subst hXl
  dsimp only [lArgs, Nat.reduceAdd]
  have kx : sK S (ad 8 0) = 9 := RelC_K hC 8 (by decide) rfl
  have kc : sK S (ad 0 k) = 1 := RelC_K hC 0 (by decide) hk
  have rc_8 : sR S 8 (ad 0 k) = some (ad 1 k) := RelC_R hC 0 8 rfl (by unfold cFd; omega) rfl hk
  have rc_11 : sR S 11 (ad 0 k) = (if σ.1 10 k = -1 then none else some (ad 6 (nx (σ.1 10 k)))) := RelC_R hC 0 11 rfl (by unfold cFd; omega) rfl hk
  rw [if_pos hs] at rc_11
  refine V_aload_n C dX8_came_0 rfl (by first | exact isR_r _ | exact isR_q _ | exact isR_n) ?_
  refine V_iload_n C dX8_came_1 rfl ?_
  refine V_fV C (c_X8_childAt _ hl G S ad σ hC hI.2.1.2 k hk) kv_X8_90 cf_8 (by decide) rfl kx (by decide) (by decide) rfl rfl (Nat.le_of_ble_eq_true rfl) dX8_came_2 ?_
  dsimp only [Option.toList_some, Option.toList_none, List.cons_append, List.nil_append]
  refine V_astore_n C dX8_came_5 (by decide) (by first | exact isR_r _ | exact isR_q _ | exact isR_n) rfl ?_
  simp only [lset1, lset2, List.filter_cons, List.filter_nil, Nat.reduceBEq, Nat.reduceAdd, Bool.not_true, Bool.not_false, Bool.and_true, Bool.and_false, Bool.true_and, Bool.false_and, if_true, if_false, Bool.false_eq_true, reduceIte]
  refine V_aload_n C dX8_came_6 rfl (by first | exact isR_r _ | exact isR_q _ | exact isR_n) ?_
  refine V_getRe C 0 11 rfl cf_0 fl_X8_186 (by decide) (by decide) dX8_came_7 kc rc_11 ?_
  refine V_ifnonnull C (tgt := 23) dX8_came_10 (by decide) (fun a10 h10 => ?_) (fun h10 => ?_)
  · cases h10
  · refine V_throwS C tw_X8_46_190_50 dX8_came_13 dX8_came_16 dX8_came_17 dX8_came_19 dX8_came_22 (by decide) (by first | omega | decide) (by first | omega | decide) ?_
    exact ⟨rfl, rfl⟩
theorem c_X8_handOver (l : Launch) (hl : l.stackTraces = false) (G : gG) (S : sS) (ad : Nat → Nat → Nat) (σ : aS) (hC : RelC S ad σ) (hI : IC σ) (k : Nat) (hk : k < cN σ 1) (w : Int32) (hw : 0 ≤ w ∧ w ≤ 4) : CtC l G yX8_handOver cX8_handOver 5 (Option.some FieldType.int) 7 2 12 [.ref (ad 8 0), .int (nI k), .int w] S ad (some (.int (σ.1 8 k))) (up2 σ.1 8 k w, σ.2) := by
  refine Ct_of (by decide) (cat1_all (by repeat first | exact trivial | refine ⟨by first | rfl | exact isR_c (isR_q _), ?_⟩)) (Nat.le_of_ble_eq_true rfl) hl fun X C hXl hin => ?_
  subst hXl
  dsimp only [lArgs, Nat.reduceAdd]
  have kx : sK S (ad 8 0) = 9 := RelC_K hC 8 (by decide) rfl
  have kc : sK S (ad 0 k) = 1 := RelC_K hC 0 (by decide) hk
  have ic_9 : sI S 9 (ad 0 k) = σ.1 8 k := RelC_I hC 0 9 rfl (by unfold cFd; omega) rfl hk
  refine V_aload_n C dX8_handOver_0 rfl (by first | exact isR_r _ | exact isR_q _ | exact isR_n) ?_
  refine V_iload_n C dX8_handOver_1 rfl ?_
  refine V_fV C (c_X8_childAt _ hl G S ad σ hC hI.2.1.2 k hk) kv_X8_90 cf_8 (by decide) rfl kx (by decide) (by decide) rfl rfl (Nat.le_of_ble_eq_true rfl) dX8_handOver_2 ?_
  dsimp only [Option.toList_some, Option.toList_none, List.cons_append, List.nil_append]
  refine V_astore_n C dX8_handOver_5 (by decide) (by first | exact isR_r _ | exact isR_q _ | exact isR_n) rfl ?_
  simp only [lset1, lset2, List.filter_cons, List.filter_nil, Nat.reduceBEq, Nat.reduceAdd, Bool.not_true, Bool.not_false, Bool.and_true, Bool.and_false, Bool.true_and, Bool.false_and, if_true, if_false, Bool.false_eq_true, reduceIte]
  refine V_iload_n C dX8_handOver_6 rfl ?_
  refine V_fS C (c_X8_requireWorker _ hl G S w hw) ks_X8_204 (by decide) (by decide) rfl rfl (Nat.le_of_ble_eq_true rfl) dX8_handOver_7 ?_
  dsimp only [Option.toList_some, Option.toList_none, List.cons_append, List.nil_append]
  refine V_aload_n C dX8_handOver_10 rfl (by first | exact isR_r _ | exact isR_q _ | exact isR_n) ?_
  refine V_getIe C 0 9 rfl cf_0 fl_X8_207 (by decide) (by decide) dX8_handOver_11 kc ic_9 ?_
  refine V_istore C dX8_handOver_14 (by decide) rfl ?_
  simp only [lset1, lset2, List.filter_cons, List.filter_nil, Nat.reduceBEq, Nat.reduceAdd, Bool.not_true, Bool.not_false, Bool.and_true, Bool.and_false, Bool.true_and, Bool.false_and, if_true, if_false, Bool.false_eq_true, reduceIte]
  refine V_aload_n C dX8_handOver_16 rfl (by first | exact isR_r _ | exact isR_q _ | exact isR_n) ?_
  refine V_iload_n C dX8_handOver_17 rfl ?_
  refine V_putI C 0 9 rfl cf_0 pl_X8_207 (by decide) (by decide) dX8_handOver_18 kc ?_
  refine V_iload C dX8_handOver_21 rfl ?_
  refine V_iret C (by first | omega | decide) (by first | omega | decide) dX8_handOver_23 ?_
  exact ⟨rfl, CQ_0 (RelC_up (A := σ.1) (B := σ.2) hC 0 9 (f := 8) rfl (by unfold cFd; omega) rfl rfl (by decide) (by unfold spF; omega) hk) (Fr_I (by rw [kc]; exact Or.inl ⟨by decide, by decide⟩))⟩
theorem c_X8_handOverX (l : Launch) (hl : l.stackTraces = false) (G : gG) (S : sS) (ad : Nat → Nat → Nat) (σ : aS) (hC : RelC S ad σ) (hI : IC σ) (x w : Int32) (hx : ¬ ∃ k, k < cN σ 1 ∧ x = nI k) : CtX l G yX8_handOver cX8_handOver 5 (Option.some FieldType.int) 7 2 12 [.ref (ad 8 0), .int x, .int w] S "java/lang/IndexOutOfBoundsException" := by
  refine Ct_of (by decide) (cat1_all (by repeat first | exact trivial | refine ⟨by first | rfl | exact isR_c (isR_q _), ?_⟩)) (Nat.le_of_ble_eq_true rfl) hl fun X C hXl hin => ?_
  subst hXl
  dsimp only [lArgs, Nat.reduceAdd]
  have kx : sK S (ad 8 0) = 9 := RelC_K hC 8 (by decide) rfl
  refine V_aload_n C dX8_handOver_0 rfl (by first | exact isR_r _ | exact isR_q _ | exact isR_n) ?_
  refine V_iload_n C dX8_handOver_1 rfl ?_
  refine V_xV C (c_X8_childAtX _ hl G S ad σ hC hI.2.1.2 x hx) kv_X8_90 cf_8 (by decide) rfl kx (by decide) (by decide) rfl rfl (Nat.le_of_ble_eq_true rfl) dX8_handOver_2 (by first | omega | decide) (by first | omega | decide) ?_
  exact ⟨rfl, rfl⟩
theorem c_X8_handOverY (l : Launch) (hl : l.stackTraces = false) (G : gG) (S : sS) (ad : Nat → Nat → Nat) (σ : aS) (hC : RelC S ad σ) (hI : IC σ) (k : Nat) (hk : k < cN σ 1) (w : Int32) (hw : ¬ (0 ≤ w ∧ w ≤ 4)) : CtX l G yX8_handOver cX8_handOver 5 (Option.some FieldType.int) 7 2 12 [.ref (ad 8 0), .int (nI k), .int w] S "java/lang/IndexOutOfBoundsException" := by
  refine Ct_of (by decide) (cat1_all (by repeat first | exact trivial | refine ⟨by first | rfl | exact isR_c (isR_q _), ?_⟩)) (Nat.le_of_ble_eq_true rfl) hl fun X C hXl hin => ?_
  subst hXl
  dsimp only [lArgs, Nat.reduceAdd]
  have kx : sK S (ad 8 0) = 9 := RelC_K hC 8 (by decide) rfl
  refine V_aload_n C dX8_handOver_0 rfl (by first | exact isR_r _ | exact isR_q _ | exact isR_n) ?_
  refine V_iload_n C dX8_handOver_1 rfl ?_
  refine V_fV C (c_X8_childAt _ hl G S ad σ hC hI.2.1.2 k hk) kv_X8_90 cf_8 (by decide) rfl kx (by decide) (by decide) rfl rfl (Nat.le_of_ble_eq_true rfl) dX8_handOver_2 ?_
  dsimp only [Option.toList_some, Option.toList_none, List.cons_append, List.nil_append]
  refine V_astore_n C dX8_handOver_5 (by decide) (by first | exact isR_r _ | exact isR_q _ | exact isR_n) rfl ?_
  simp only [lset1, lset2, List.filter_cons, List.filter_nil, Nat.reduceBEq, Nat.reduceAdd, Bool.not_true, Bool.not_false, Bool.and_true, Bool.and_false, Bool.true_and, Bool.false_and, if_true, if_false, Bool.false_eq_true, reduceIte]
  refine V_iload_n C dX8_handOver_6 rfl ?_
  refine V_xS C (c_X8_requireWorkerX _ hl G S w hw) ks_X8_204 (by decide) (by decide) rfl rfl (Nat.le_of_ble_eq_true rfl) dX8_handOver_7 (by first | omega | decide) (by first | omega | decide) ?_
  exact ⟨rfl, rfl⟩
theorem c_X8_pay (l : Launch) (hl : l.stackTraces = false) (G : gG) (S : sS) (ad : Nat → Nat → Nat) (σ : aS) (hC : RelC S ad σ) (hI : IC σ) (hS : IS σ) (k : Nat) (hk : k < cN σ 20) (v : Int32) (hv : 1 ≤ v ∧ v ≤ 100000) : CtC l G yX8_pay cX8_pay 4 (Option.some FieldType.int) 7 2 12 [.ref (ad 8 0), .int (nI k), .int v] S ad (some (.int (cOw (up2 σ.1 25 k (σ.1 25 k + v), σ.2) k))) (up2 σ.1 25 k (σ.1 25 k + v), σ.2) := by
  refine Ct_of (by decide) (cat1_all (by repeat first | exact trivial | refine ⟨by first | rfl | exact isR_c (isR_q _), ?_⟩)) (Nat.le_of_ble_eq_true rfl) hl fun X C hXl hin => ?_
  subst hXl
  dsimp only [lArgs, Nat.reduceAdd]
  have kx : sK S (ad 8 0) = 9 := RelC_K hC 8 (by decide) rfl
  have kc : sK S (ad 2 k) = 3 := RelC_K hC 2 (by decide) hk
  have ic_207 : sI S 207 (ad 2 k) = σ.1 25 k := RelC_I hC 2 207 rfl (by unfold cFd; omega) rfl hk
  have hC2 := RelC_up (A := σ.1) (B := σ.2) (v := σ.1 25 k + v) hC 2 207 (f := 25) rfl (by unfold cFd; omega) rfl rfl (by decide) (by unfold spF; omega) hk
  have hI2 : IC (up2 σ.1 25 k (σ.1 25 k + v), σ.2) := IC_A hI (by decide) (by decide)
  have hS2 : IS (up2 σ.1 25 k (σ.1 25 k + v), σ.2) := IS_A hS (by decide) (by decide)
  have kx2 : sK (pI S 207 (ad 2 k) (σ.1 25 k + v)) (ad 8 0) = 9 := kx
  have hfr : Fr isD S (pI S 207 (ad 2 k) (σ.1 25 k + v)) := Fr_I (by rw [kc]; exact Or.inl ⟨by decide, by decide⟩)
  refine V_aload_n C dX8_pay_0 rfl (by first | exact isR_r _ | exact isR_q _ | exact isR_n) ?_
  refine V_iload_n C dX8_pay_1 rfl ?_
  refine V_fV C (c_X8_homeAt _ hl G S ad σ hC hI.2.2.1.2 k hk) kv_X8_71 cf_8 (by decide) rfl kx (by decide) (by decide) rfl rfl (Nat.le_of_ble_eq_true rfl) dX8_pay_2 ?_
  dsimp only [Option.toList_some, Option.toList_none, List.cons_append, List.nil_append]
  refine V_astore_n C dX8_pay_5 (by decide) (by first | exact isR_r _ | exact isR_q _ | exact isR_n) rfl ?_
  simp only [lset1, lset2, List.filter_cons, List.filter_nil, Nat.reduceBEq, Nat.reduceAdd, Bool.not_true, Bool.not_false, Bool.and_true, Bool.and_false, Bool.true_and, Bool.false_and, if_true, if_false, Bool.false_eq_true, reduceIte]
  refine V_iload_n C dX8_pay_6 rfl ?_
  refine V_iconst C (v := 1) dX8_pay_7 (by decide) ?_
  refine V_ldc C dX8_pay_8 cs_X8_196 ?_
  refine V_fS C (c_X8_isWithin _ hl G S _ _ _) ks_X8_34 (by decide) (by decide) rfl rfl (Nat.le_of_ble_eq_true rfl) dX8_pay_10 ?_
  dsimp only [Option.toList_some, Option.toList_none, List.cons_append, List.nil_append]
  rw [bI_t hv]
  refine V_fS C (c_X8_require1 _ hl G S) ks_X8_38 (by decide) (by decide) rfl rfl (Nat.le_of_ble_eq_true rfl) dX8_pay_13 ?_
  dsimp only [Option.toList_some, Option.toList_none, List.cons_append, List.nil_append]
  refine V_aload_n C dX8_pay_16 rfl (by first | exact isR_r _ | exact isR_q _ | exact isR_n) ?_
  refine V_dup C dX8_pay_17 (by first | rfl | exact isR_c (isR_q _)) ?_
  refine V_getIe C 2 7 rfl cf_2 fl_X8_197 (by decide) (by decide) dX8_pay_18 kc ic_207 ?_
  refine V_iload_n C dX8_pay_21 rfl ?_
  refine V_iadd C dX8_pay_22 ?_
  refine V_putI C 2 7 rfl cf_2 pl_X8_197 (by decide) (by decide) dX8_pay_23 kc ?_
  refine V_aload_n C dX8_pay_26 rfl (by first | exact isR_r _ | exact isR_q _ | exact isR_n) ?_
  refine V_aload_n C dX8_pay_27 rfl (by first | exact isR_r _ | exact isR_q _ | exact isR_n) ?_
  refine V_fV C (c_X8_owedTo _ hl G _ ad _ hC2 hI2 hS2 k hk) kv_X8_200 cf_8 (by decide) rfl kx2 (by decide) (by decide) rfl rfl (Nat.le_of_ble_eq_true rfl) dX8_pay_28 ?_
  dsimp only [Option.toList_some, Option.toList_none, List.cons_append, List.nil_append]
  refine V_iret C (by first | omega | decide) (by first | omega | decide) dX8_pay_31 ?_
  exact ⟨rfl, CQ_0 hC2 hfr⟩
theorem c_X8_payX (l : Launch) (hl : l.stackTraces = false) (G : gG) (S : sS) (ad : Nat → Nat → Nat) (σ : aS) (hC : RelC S ad σ) (hI : IC σ) (x v : Int32) (hx : ¬ ∃ k, k < cN σ 20 ∧ x = nI k) : CtX l G yX8_pay cX8_pay 4 (Option.some FieldType.int) 7 2 12 [.ref (ad 8 0), .int x, .int v] S "java/lang/IndexOutOfBoundsException" := by
  refine Ct_of (by decide) (cat1_all (by repeat first | exact trivial | refine ⟨by first | rfl | exact isR_c (isR_q _), ?_⟩)) (Nat.le_of_ble_eq_true rfl) hl fun X C hXl hin => ?_
  subst hXl
  dsimp only [lArgs, Nat.reduceAdd]
  have kx : sK S (ad 8 0) = 9 := RelC_K hC 8 (by decide) rfl
  refine V_aload_n C dX8_pay_0 rfl (by first | exact isR_r _ | exact isR_q _ | exact isR_n) ?_
  refine V_iload_n C dX8_pay_1 rfl ?_
  refine V_xV C (c_X8_homeAtX _ hl G S ad σ hC hI.2.2.1.2 x hx) kv_X8_71 cf_8 (by decide) rfl kx (by decide) (by decide) rfl rfl (Nat.le_of_ble_eq_true rfl) dX8_pay_2 (by first | omega | decide) (by first | omega | decide) ?_
  exact ⟨rfl, rfl⟩
theorem c_X8_payY (l : Launch) (hl : l.stackTraces = false) (G : gG) (S : sS) (ad : Nat → Nat → Nat) (σ : aS) (hC : RelC S ad σ) (hI : IC σ) (k : Nat) (hk : k < cN σ 20) (v : Int32) (hv : ¬ (1 ≤ v ∧ v ≤ 100000)) : CtX l G yX8_pay cX8_pay 4 (Option.some FieldType.int) 7 2 12 [.ref (ad 8 0), .int (nI k), .int v] S "java/lang/IllegalArgumentException" := by
  refine Ct_of (by decide) (cat1_all (by repeat first | exact trivial | refine ⟨by first | rfl | exact isR_c (isR_q _), ?_⟩)) (Nat.le_of_ble_eq_true rfl) hl fun X C hXl hin => ?_
  subst hXl
  dsimp only [lArgs, Nat.reduceAdd]
  have kx : sK S (ad 8 0) = 9 := RelC_K hC 8 (by decide) rfl
  refine V_aload_n C dX8_pay_0 rfl (by first | exact isR_r _ | exact isR_q _ | exact isR_n) ?_
  refine V_iload_n C dX8_pay_1 rfl ?_
  refine V_fV C (c_X8_homeAt _ hl G S ad σ hC hI.2.2.1.2 k hk) kv_X8_71 cf_8 (by decide) rfl kx (by decide) (by decide) rfl rfl (Nat.le_of_ble_eq_true rfl) dX8_pay_2 ?_
  dsimp only [Option.toList_some, Option.toList_none, List.cons_append, List.nil_append]
  refine V_astore_n C dX8_pay_5 (by decide) (by first | exact isR_r _ | exact isR_q _ | exact isR_n) rfl ?_
  simp only [lset1, lset2, List.filter_cons, List.filter_nil, Nat.reduceBEq, Nat.reduceAdd, Bool.not_true, Bool.not_false, Bool.and_true, Bool.and_false, Bool.true_and, Bool.false_and, if_true, if_false, Bool.false_eq_true, reduceIte]
  refine V_iload_n C dX8_pay_6 rfl ?_
  refine V_iconst C (v := 1) dX8_pay_7 (by decide) ?_
  refine V_ldc C dX8_pay_8 cs_X8_196 ?_
  refine V_fS C (c_X8_isWithin _ hl G S _ _ _) ks_X8_34 (by decide) (by decide) rfl rfl (Nat.le_of_ble_eq_true rfl) dX8_pay_10 ?_
  dsimp only [Option.toList_some, Option.toList_none, List.cons_append, List.nil_append]
  rw [bI_f hv]
  refine V_xS C (c_X8_require0 _ hl G S) ks_X8_38 (by decide) (by decide) rfl rfl (Nat.le_of_ble_eq_true rfl) dX8_pay_13 (by first | omega | decide) (by first | omega | decide) ?_
  exact ⟨rfl, rfl⟩
theorem c_X8_see (l : Launch) (hl : l.stackTraces = false) (G : gG) (S : sS) (ad : Nat → Nat → Nat) (σ : aS) (hC : RelC S ad σ) (hI : IC σ) (k : Nat) (hk : k < cN σ 1) : CtC l G yX8_see cX8_see 4 (Option.some FieldType.boolean) 7 1 6 [.ref (ad 8 0), .int (nI k)] S ad (some (.int (pI9 (¬ rSee (rAll σ k) (σ.2 0) (σ.1 9 k) = -1 ∧ rSee (rAll σ k) (σ.2 0) (σ.1 9 k) < σ.2 0)))) (up2 σ.1 9 k (σ.2 0), σ.2) := by
  refine Ct_of (by decide) (cat1_all (by repeat first | exact trivial | refine ⟨by first | rfl | exact isR_c (isR_q _), ?_⟩)) (Nat.le_of_ble_eq_true rfl) hl fun X C hXl hin => ?_
  subst hXl
  dsimp only [lArgs, Nat.reduceAdd]
  have kx : sK S (ad 8 0) = 9 := RelC_K hC 8 (by decide) rfl
  have ix_808 : sI S 808 (ad 8 0) = σ.2 0 := RelC_I hC 8 808 rfl (by unfold cFd; omega) rfl rfl
  have kc : sK S (ad 0 k) = 1 := RelC_K hC 0 (by decide) hk
  have rc_7 : sR S 7 (ad 0 k) = some (ad 5 k) := RelC_R hC 0 7 rfl (by unfold cFd; omega) rfl hk
  have kr : sK S (ad 5 k) = 6 := RelC_K hC 5 (by decide) hk
  have i35 : sI (pI S 505 (ad 5 k) (σ.2 0)) 808 (ad 8 0) = σ.2 0 := (sI_n1 (by decide)).trans ix_808
  refine V_aload_n C dX8_see_0 rfl (by first | exact isR_r _ | exact isR_q _ | exact isR_n) ?_
  refine V_iload_n C dX8_see_1 rfl ?_
  refine V_fV C (c_X8_childAt _ hl G S ad σ hC hI.2.1.2 k hk) kv_X8_90 cf_8 (by decide) rfl kx (by decide) (by decide) rfl rfl (Nat.le_of_ble_eq_true rfl) dX8_see_2 ?_
  dsimp only [Option.toList_some, Option.toList_none, List.cons_append, List.nil_append]
  refine V_astore_n C dX8_see_5 (by decide) (by first | exact isR_r _ | exact isR_q _ | exact isR_n) rfl ?_
  simp only [lset1, lset2, List.filter_cons, List.filter_nil, Nat.reduceBEq, Nat.reduceAdd, Bool.not_true, Bool.not_false, Bool.and_true, Bool.and_false, Bool.true_and, Bool.false_and, if_true, if_false, Bool.false_eq_true, reduceIte]
  refine V_aload_n C dX8_see_6 rfl (by first | exact isR_r _ | exact isR_q _ | exact isR_n) ?_
  refine V_getS C 0 7 rfl cf_0 fl_X8_94 (by decide) (by decide) dX8_see_7 kc rc_7 ?_
  refine V_aload_n C dX8_see_10 rfl (by first | exact isR_r _ | exact isR_q _ | exact isR_n) ?_
  refine V_getIe C 8 8 rfl cf_8 fl_X8_53 (by decide) (by decide) dX8_see_11 kx ix_808 ?_
  refine V_fV C (c_X5_dayToSeeBy _ hl G S ad σ hC hI k hk _) kv_X8_113 cf_5 (by decide) rfl kr (by decide) (by decide) rfl rfl (Nat.le_of_ble_eq_true rfl) dX8_see_14 ?_
  dsimp only [Option.toList_some, Option.toList_none, List.cons_append, List.nil_append]
  refine V_istore_n C dX8_see_17 (by decide) rfl ?_
  simp only [lset1, lset2, List.filter_cons, List.filter_nil, Nat.reduceBEq, Nat.reduceAdd, Bool.not_true, Bool.not_false, Bool.and_true, Bool.and_false, Bool.true_and, Bool.false_and, if_true, if_false, Bool.false_eq_true, reduceIte]
  refine V_aload_n C dX8_see_18 rfl (by first | exact isR_r _ | exact isR_q _ | exact isR_n) ?_
  refine V_getS C 0 7 rfl cf_0 fl_X8_94 (by decide) (by decide) dX8_see_19 kc rc_7 ?_
  refine V_aload_n C dX8_see_22 rfl (by first | exact isR_r _ | exact isR_q _ | exact isR_n) ?_
  refine V_getIe C 8 8 rfl cf_8 fl_X8_53 (by decide) (by decide) dX8_see_23 kx ix_808 ?_
  refine V_putI C 5 5 rfl cf_5 pl_X8_116 (by decide) (by decide) dX8_see_26 kr ?_
  refine V_iload_n C dX8_see_29 rfl ?_
  refine V_iconst C (v := (-1)) dX8_see_30 (by decide) ?_
  refine V_icmp_eq C (tgt := 46) dX8_see_31 (by decide) (fun h31 => ?_) (fun h31 => ?_)
  · have T0 : pI9 (¬ rSee (rAll σ k) (σ.2 0) (σ.1 9 k) = -1 ∧ rSee (rAll σ k) (σ.2 0) (σ.1 9 k) < σ.2 0) = 0 := pI9_f (fun q => q.1 h31)
    refine V_iconst C (v := 0) dX8_see_46 (by decide) ?_
    refine V_zret C (by first | rfl | (rw [pI9_t ⟨h31, Int32.not_le.mp h39⟩]; rfl)) (by first | omega | decide) (by first | omega | decide) dX8_see_47 ?_
    rw [T0]
    exact ⟨rfl, CQ_0 (RelC_up (A := σ.1) (B := σ.2) hC 5 505 (f := 9) rfl (by unfold cFd; omega) rfl rfl (by decide) (by unfold spF; omega) hk) (Fr_I (by rw [kr]; exact Or.inl ⟨by decide, by decide⟩))⟩
  · refine V_aload_n C dX8_see_34 rfl (by first | exact isR_r _ | exact isR_q _ | exact isR_n) ?_
    refine V_getIe C 8 8 rfl cf_8 fl_X8_53 (by decide) (by decide) dX8_see_35 kx i35 ?_
    refine V_iload_n C dX8_see_38 rfl ?_
    refine V_icmp_le C (tgt := 46) dX8_see_39 (by decide) (fun h39 => ?_) (fun h39 => ?_)
    · have T0 : pI9 (¬ rSee (rAll σ k) (σ.2 0) (σ.1 9 k) = -1 ∧ rSee (rAll σ k) (σ.2 0) (σ.1 9 k) < σ.2 0) = 0 := pI9_f (fun q => Int32.not_le.mpr q.2 h39)
      refine V_iconst C (v := 0) dX8_see_46 (by decide) ?_
      refine V_zret C (by first | rfl | (rw [pI9_t ⟨h31, Int32.not_le.mp h39⟩]; rfl)) (by first | omega | decide) (by first | omega | decide) dX8_see_47 ?_
      rw [T0]
      exact ⟨rfl, CQ_0 (RelC_up (A := σ.1) (B := σ.2) hC 5 505 (f := 9) rfl (by unfold cFd; omega) rfl rfl (by decide) (by unfold spF; omega) hk) (Fr_I (by rw [kr]; exact Or.inl ⟨by decide, by decide⟩))⟩
    · have T0 : pI9 (¬ rSee (rAll σ k) (σ.2 0) (σ.1 9 k) = -1 ∧ rSee (rAll σ k) (σ.2 0) (σ.1 9 k) < σ.2 0) = 1 := pI9_t ⟨h31, Int32.not_le.mp h39⟩
      refine V_iconst C (v := 1) dX8_see_42 (by decide) ?_
      refine V_goto C (tgt := 47) dX8_see_43 (by decide) ?_
      refine V_zret C (by first | rfl | (rw [pI9_t ⟨h31, Int32.not_le.mp h39⟩]; rfl)) (by first | omega | decide) (by first | omega | decide) dX8_see_47 ?_
      rw [T0]
      exact ⟨rfl, CQ_0 (RelC_up (A := σ.1) (B := σ.2) hC 5 505 (f := 9) rfl (by unfold cFd; omega) rfl rfl (by decide) (by unfold spF; omega) hk) (Fr_I (by rw [kr]; exact Or.inl ⟨by decide, by decide⟩))⟩
theorem c_X8_seeX (l : Launch) (hl : l.stackTraces = false) (G : gG) (S : sS) (ad : Nat → Nat → Nat) (σ : aS) (hC : RelC S ad σ) (hI : IC σ) (x : Int32) (hx : ¬ ∃ k, k < cN σ 1 ∧ x = nI k) : CtX l G yX8_see cX8_see 4 (Option.some FieldType.boolean) 7 1 6 [.ref (ad 8 0), .int x] S "java/lang/IndexOutOfBoundsException" := by
  refine Ct_of (by decide) (cat1_all (by repeat first | exact trivial | refine ⟨by first | rfl | exact isR_c (isR_q _), ?_⟩)) (Nat.le_of_ble_eq_true rfl) hl fun X C hXl hin => ?_
  subst hXl
  dsimp only [lArgs, Nat.reduceAdd]
  have kx : sK S (ad 8 0) = 9 := RelC_K hC 8 (by decide) rfl
  refine V_aload_n C dX8_see_0 rfl (by first | exact isR_r _ | exact isR_q _ | exact isR_n) ?_
  refine V_iload_n C dX8_see_1 rfl ?_
  refine V_xV C (c_X8_childAtX _ hl G S ad σ hC hI.2.1.2 x hx) kv_X8_90 cf_8 (by decide) rfl kx (by decide) (by decide) rfl rfl (Nat.le_of_ble_eq_true rfl) dX8_see_2 (by first | omega | decide) (by first | omega | decide) ?_
  exact ⟨rfl, rfl⟩

