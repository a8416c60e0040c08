/-! THE REFERENCE: its reading methods with loops. -/
theorem c_X9_leastLoaded (l : Launch) (hl : l.stackTraces = false) (G : gG) (S : sS) (m : Nat) (σ : aS) (hR : RelR S m σ) (hI : IC σ) : CtF l G yX9_leastLoaded cX9_leastLoaded 3 (Option.some FieldType.int) 3 0 0 [.ref m] S (some (.int (mLeast σ))) S := by
  have hm := hR.1
  refine Ct_of (by decide) (cat1_all (by repeat first | exact trivial | refine ⟨by first | rfl | exact isR_c (isR_q _), ?_⟩)) (Nat.le_of_ble_eq_true rfl) hl fun X C hXl hin => ?_
  subst hXl
  dsimp only [lArgs, Nat.reduceAdd]
  have loop : ∀ t j : Nat, j + t = 4 → V X G 3 (eQ X G (fun v T => v = some (.int (mLeast σ)) ∧ T = S) (fun _ _ => False) 0 0) 0 0 4 [(0, false, .ref m), (1, false, .int (mLeastF σ j)), (2, false, .int (nI (j + 1)))] [] S := by
    intro t
    induction t with
    | zero =>
      intro j hj
      obtain rfl : j = 4 := by omega
      refine V_iload_n C dX9_leastLoaded_4 rfl ?_
      refine V_iconst C (v := 5) dX9_leastLoaded_5 (by decide) ?_
      refine V_icmp_ge C (tgt := 34) dX9_leastLoaded_6 (by decide) (fun h6 => ?_) (fun h6 => ?_)
      · refine V_iload_n C dX9_leastLoaded_34 rfl ?_
        refine V_iret C (by first | omega | decide) (by first | omega | decide) dX9_leastLoaded_35 ?_
        exact ⟨rfl, rfl⟩
      · exact absurd h6 (by decide)
    | succ t ih =>
      intro j hj
      refine V_iload_n C dX9_leastLoaded_4 rfl ?_
      refine V_iconst C (v := 5) dX9_leastLoaded_5 (by decide) ?_
      rw [show (5 : Int32) = nI 5 from rfl]
      refine V_igeN C (tgt := 34) (by omega) (by omega) dX9_leastLoaded_6 (by decide) (fun h6 => ?_) (fun h6 => ?_)
      · omega
      · refine V_aload_n C dX9_leastLoaded_9 rfl (by first | exact isR_r _ | exact isR_q _ | exact isR_n) ?_
        refine V_iload_n C dX9_leastLoaded_10 rfl ?_
        refine V_fV C (c_X9_loadOf _ hl G S m σ hR hI (nI (j + 1))) kv_X9_176 cf_9 (by decide) rfl (by assumption) (by decide) (by decide) rfl rfl (Nat.le_of_ble_eq_true rfl) dX9_leastLoaded_11 ?_
        dsimp only [Option.toList_some, Option.toList_none, List.cons_append, List.nil_append]
        refine V_aload_n C dX9_leastLoaded_14 rfl (by first | exact isR_r _ | exact isR_q _ | exact isR_n) ?_
        refine V_iload_n C dX9_leastLoaded_15 rfl ?_
        refine V_fV C (c_X9_loadOf _ hl G S m σ hR hI (mLeastF σ j)) kv_X9_176 cf_9 (by decide) rfl (by assumption) (by decide) (by decide) rfl rfl (Nat.le_of_ble_eq_true rfl) dX9_leastLoaded_16 ?_
        dsimp only [Option.toList_some, Option.toList_none, List.cons_append, List.nil_append]
        refine V_icmp_ge C (tgt := 26) dX9_leastLoaded_19 (by decide) (fun h19 => ?_) (fun h19 => ?_)
        · refine V_iload_n C dX9_leastLoaded_26 rfl ?_
          refine V_istore_n C dX9_leastLoaded_27 (by decide) rfl ?_
          simp only [lset1, lset2, List.filter_cons, List.filter_nil, Nat.reduceBEq, Nat.reduceAdd, Bool.not_true, Bool.not_false, Bool.and_true, Bool.and_false, Bool.true_and, Bool.false_and, if_true, if_false, Bool.false_eq_true, reduceIte]
          refine V_incN C dX9_leastLoaded_28 rfl (by decide) rfl ?_
          simp only [lset1, lset2, List.filter_cons, List.filter_nil, Nat.reduceBEq, Nat.reduceAdd, Bool.not_true, Bool.not_false, Bool.and_true, Bool.and_false, Bool.true_and, Bool.false_and, if_true, if_false, Bool.false_eq_true, reduceIte]
          refine V_goto C (tgt := 4) dX9_leastLoaded_31 (by decide) ?_
          refine V_sub ?_ (ih (j + 1) (by omega))
          refine ⟨rfl, ?_, rfl, trivial⟩
          first | (rw [show mLeastF σ (j + 1) = _ from if_neg (Int32.not_lt.mpr h19)]; rfl) | (rw [show mLeastF σ (j + 1) = _ from if_pos (Int32.not_le.mp h19)]; rfl)
        · refine V_iload_n C dX9_leastLoaded_22 rfl ?_
          refine V_goto C (tgt := 27) dX9_leastLoaded_23 (by decide) ?_
          refine V_istore_n C dX9_leastLoaded_27 (by decide) rfl ?_
          simp only [lset1, lset2, List.filter_cons, List.filter_nil, Nat.reduceBEq, Nat.reduceAdd, Bool.not_true, Bool.not_false, Bool.and_true, Bool.and_false, Bool.true_and, Bool.false_and, if_true, if_false, Bool.false_eq_true, reduceIte]
          refine V_incN C dX9_leastLoaded_28 rfl (by decide) rfl ?_
          simp only [lset1, lset2, List.filter_cons, List.filter_nil, Nat.reduceBEq, Nat.reduceAdd, Bool.not_true, Bool.not_false, Bool.and_true, Bool.and_false, Bool.true_and, Bool.false_and, if_true, if_false, Bool.false_eq_true, reduceIte]
          refine V_goto C (tgt := 4) dX9_leastLoaded_31 (by decide) ?_
          refine V_sub ?_ (ih (j + 1) (by omega))
          refine ⟨rfl, ?_, rfl, trivial⟩
          first | (rw [show mLeastF σ (j + 1) = _ from if_neg (Int32.not_lt.mpr h19)]; rfl) | (rw [show mLeastF σ (j + 1) = _ from if_pos (Int32.not_le.mp h19)]; rfl)
  refine V_iconst C (v := 0) dX9_leastLoaded_0 (by decide) ?_
  refine V_istore_n C dX9_leastLoaded_1 (by decide) rfl ?_
  simp only [lset1, lset2, List.filter_cons, List.filter_nil, Nat.reduceBEq, Nat.reduceAdd, Bool.not_true, Bool.not_false, Bool.and_true, Bool.and_false, Bool.true_and, Bool.false_and, if_true, if_false, Bool.false_eq_true, reduceIte]
  refine V_iconst C (v := 1) dX9_leastLoaded_2 (by decide) ?_
  refine V_istore_n C dX9_leastLoaded_3 (by decide) rfl ?_
  simp only [lset1, lset2, List.filter_cons, List.filter_nil, Nat.reduceBEq, Nat.reduceAdd, Bool.not_true, Bool.not_false, Bool.and_true, Bool.and_false, Bool.true_and, Bool.false_and, if_true, if_false, Bool.false_eq_true, reduceIte]
  refine V_sub ?_ (loop 4 0 (by omega))
  exact ⟨rfl, rfl, rfl, trivial⟩
theorem c_X9_toldOn (l : Launch) (hl : l.stackTraces = false) (G : gG) (S : sS) (m : Nat) (σ : aS) (hR : RelR S m σ) (hI : IC σ) (h s on : Int32) : CtF l G yX9_toldOn cX9_toldOn 6 (Option.some FieldType.int) 1 0 0 [.ref m, .int h, .int s, .int on] S (some (.int (mToldOn σ h s on))) S := by
  have hm := hR.1
  obtain ⟨n, hn⟩ : ∃ n, n = cN σ 27 := ⟨_, rfl⟩
  have hn16 : n ≤ 512 := by rw [hn]; exact hI.2.2.2.1.2
  have n1 : sI S 927 m = nI n := (hR.2.2 27).trans (by rw [hn]; exact hI.2.2.2.1.1)
  obtain ⟨a28, r28, k28, l28, e28⟩ : ∃ a, sR S 928 m = some a ∧ sK S a = 1281 ∧ sL S a = 1024 ∧ sA S a = σ.1 28 := hR.2.1 28 rfl
  obtain ⟨a29, r29, k29, l29, e29⟩ : ∃ a, sR S 929 m = some a ∧ sK S a = 1291 ∧ sL S a = 1024 ∧ sA S a = σ.1 29 := hR.2.1 29 rfl
  obtain ⟨a30, r30, k30, l30, e30⟩ : ∃ a, sR S 930 m = some a ∧ sK S a = 1301 ∧ sL S a = 1024 ∧ sA S a = σ.1 30 := hR.2.1 30 rfl
  refine Ct_of (by decide) (cat1_all (by repeat first | exact trivial | refine ⟨by first | rfl | exact isR_c (isR_q _), ?_⟩)) (Nat.le_of_ble_eq_true rfl) hl fun X C hXl hin => ?_
  subst hXl
  dsimp only [lArgs, Nat.reduceAdd]
  have loop : ∀ t j : Nat, j + t = n → V X G 6 (eQ X G (fun v T => v = some (.int (mToldOn σ h s on)) ∧ T = S) (fun _ _ => False) 0 0) 0 0 6 [(0, false, .ref m), (1, false, .int h), (2, false, .int s), (3, false, .int on), (4, false, .int (flast (fun j => σ.1 28 j = h ∧ σ.1 29 j = s ∧ σ.1 30 j ≤ on) j)), (5, false, .int (nI j))] [] S := by
    intro t
    induction t with
    | zero =>
      intro j hj
      refine V_iload C dX9_toldOn_6 rfl ?_
      refine V_aload_n C dX9_toldOn_8 rfl (by first | exact isR_r _ | exact isR_q _ | exact isR_n) ?_
      refine V_getIe C 9 27 rfl cf_9 fl_X9_190 (by decide) (by decide) dX9_toldOn_9 (by assumption) (by assumption) ?_
      refine V_igeN C (tgt := 63) (by omega) (by omega) dX9_toldOn_12 (by decide) (fun h12 => ?_) (fun h12 => ?_)
      · refine V_iload C dX9_toldOn_63 rfl ?_
        refine V_iret C (by first | omega | decide) (by first | omega | decide) dX9_toldOn_65 ?_
        exact ⟨by rw [show j = cN σ 27 by omega]; rfl, rfl⟩
      · omega
    | succ t ih =>
      intro j hj
      refine V_iload C dX9_toldOn_6 rfl ?_
      refine V_aload_n C dX9_toldOn_8 rfl (by first | exact isR_r _ | exact isR_q _ | exact isR_n) ?_
      refine V_getIe C 9 27 rfl cf_9 fl_X9_190 (by decide) (by decide) dX9_toldOn_9 (by assumption) (by assumption) ?_
      refine V_igeN C (tgt := 63) (by omega) (by omega) dX9_toldOn_12 (by decide) (fun h12 => ?_) (fun h12 => ?_)
      · omega
      · refine V_aload_n C dX9_toldOn_15 rfl (by first | exact isR_r _ | exact isR_q _ | exact isR_n) ?_
        refine V_getS C 9 28 rfl cf_9 fl_X9_83 (by decide) (by decide) dX9_toldOn_16 (by assumption) (by assumption) ?_
        refine V_iload C dX9_toldOn_19 rfl ?_
        refine V_ialdE C (by assumption) (by decide) (by assumption) (by assumption) (by first | assumption | omega) (by decide) dX9_toldOn_21 ?_
        refine V_iload_n C dX9_toldOn_22 rfl ?_
        refine V_icmp_ne C (tgt := 53) dX9_toldOn_23 (by decide) (fun h23 => ?_) (fun h23 => ?_)
        · refine V_iload C dX9_toldOn_53 rfl ?_
          refine V_istore C dX9_toldOn_55 (by decide) rfl ?_
          simp only [lset1, lset2, List.filter_cons, List.filter_nil, Nat.reduceBEq, Nat.reduceAdd, Bool.not_true, Bool.not_false, Bool.and_true, Bool.and_false, Bool.true_and, Bool.false_and, if_true, if_false, Bool.false_eq_true, reduceIte]
          refine V_incN C dX9_toldOn_57 rfl (by decide) rfl ?_
          simp only [lset1, lset2, List.filter_cons, List.filter_nil, Nat.reduceBEq, Nat.reduceAdd, Bool.not_true, Bool.not_false, Bool.and_true, Bool.and_false, Bool.true_and, Bool.false_and, if_true, if_false, Bool.false_eq_true, reduceIte]
          refine V_goto C (tgt := 6) dX9_toldOn_60 (by decide) ?_
          refine V_sub ?_ (ih (j + 1) (by omega))
          refine ⟨rfl, rfl, rfl, rfl, ?_, rfl, trivial⟩
          first | (rw [flast_f (fun q => h23 q.1)]; rfl) | (rw [flast_f (fun q => h34 q.2.1)]; rfl) | (rw [flast_f (fun q => absurd q.2.2 (Int32.not_le.mpr h45))]; rfl) | (rw [flast_t ⟨h23, h34, Int32.not_lt.mp h45⟩]; rfl)
        · refine V_aload_n C dX9_toldOn_26 rfl (by first | exact isR_r _ | exact isR_q _ | exact isR_n) ?_
          refine V_getS C 9 29 rfl cf_9 fl_X9_86 (by decide) (by decide) dX9_toldOn_27 (by assumption) (by assumption) ?_
          refine V_iload C dX9_toldOn_30 rfl ?_
          refine V_ialdE C (by assumption) (by decide) (by assumption) (by assumption) (by first | assumption | omega) (by decide) dX9_toldOn_32 ?_
          refine V_iload_n C dX9_toldOn_33 rfl ?_
          refine V_icmp_ne C (tgt := 53) dX9_toldOn_34 (by decide) (fun h34 => ?_) (fun h34 => ?_)
          · refine V_iload C dX9_toldOn_53 rfl ?_
            refine V_istore C dX9_toldOn_55 (by decide) rfl ?_
            simp only [lset1, lset2, List.filter_cons, List.filter_nil, Nat.reduceBEq, Nat.reduceAdd, Bool.not_true, Bool.not_false, Bool.and_true, Bool.and_false, Bool.true_and, Bool.false_and, if_true, if_false, Bool.false_eq_true, reduceIte]
            refine V_incN C dX9_toldOn_57 rfl (by decide) rfl ?_
            simp only [lset1, lset2, List.filter_cons, List.filter_nil, Nat.reduceBEq, Nat.reduceAdd, Bool.not_true, Bool.not_false, Bool.and_true, Bool.and_false, Bool.true_and, Bool.false_and, if_true, if_false, Bool.false_eq_true, reduceIte]
            refine V_goto C (tgt := 6) dX9_toldOn_60 (by decide) ?_
            refine V_sub ?_ (ih (j + 1) (by omega))
            refine ⟨rfl, rfl, rfl, rfl, ?_, rfl, trivial⟩
            first | (rw [flast_f (fun q => h23 q.1)]; rfl) | (rw [flast_f (fun q => h34 q.2.1)]; rfl) | (rw [flast_f (fun q => absurd q.2.2 (Int32.not_le.mpr h45))]; rfl) | (rw [flast_t ⟨h23, h34, Int32.not_lt.mp h45⟩]; rfl)
          · refine V_aload_n C dX9_toldOn_37 rfl (by first | exact isR_r _ | exact isR_q _ | exact isR_n) ?_
            refine V_getS C 9 30 rfl cf_9 fl_X9_89 (by decide) (by decide) dX9_toldOn_38 (by assumption) (by assumption) ?_
            refine V_iload C dX9_toldOn_41 rfl ?_
            refine V_ialdE C (by assumption) (by decide) (by assumption) (by assumption) (by first | assumption | omega) (by decide) dX9_toldOn_43 ?_
            refine V_iload_n C dX9_toldOn_44 rfl ?_
            refine V_icmp_gt C (tgt := 53) dX9_toldOn_45 (by decide) (fun h45 => ?_) (fun h45 => ?_)
            · refine V_iload C dX9_toldOn_53 rfl ?_
              refine V_istore C dX9_toldOn_55 (by decide) rfl ?_
              simp only [lset1, lset2, List.filter_cons, List.filter_nil, Nat.reduceBEq, Nat.reduceAdd, Bool.not_true, Bool.not_false, Bool.and_true, Bool.and_false, Bool.true_and, Bool.false_and, if_true, if_false, Bool.false_eq_true, reduceIte]
              refine V_incN C dX9_toldOn_57 rfl (by decide) rfl ?_
              simp only [lset1, lset2, List.filter_cons, List.filter_nil, Nat.reduceBEq, Nat.reduceAdd, Bool.not_true, Bool.not_false, Bool.and_true, Bool.and_false, Bool.true_and, Bool.false_and, if_true, if_false, Bool.false_eq_true, reduceIte]
              refine V_goto C (tgt := 6) dX9_toldOn_60 (by decide) ?_
              refine V_sub ?_ (ih (j + 1) (by omega))
              refine ⟨rfl, rfl, rfl, rfl, ?_, rfl, trivial⟩
              first | (rw [flast_f (fun q => h23 q.1)]; rfl) | (rw [flast_f (fun q => h34 q.2.1)]; rfl) | (rw [flast_f (fun q => absurd q.2.2 (Int32.not_le.mpr h45))]; rfl) | (rw [flast_t ⟨h23, h34, Int32.not_lt.mp h45⟩]; rfl)
            · refine V_iload C dX9_toldOn_48 rfl ?_
              refine V_goto C (tgt := 55) dX9_toldOn_50 (by decide) ?_
              refine V_istore C dX9_toldOn_55 (by decide) rfl ?_
              simp only [lset1, lset2, List.filter_cons, List.filter_nil, Nat.reduceBEq, Nat.reduceAdd, Bool.not_true, Bool.not_false, Bool.and_true, Bool.and_false, Bool.true_and, Bool.false_and, if_true, if_false, Bool.false_eq_true, reduceIte]
              refine V_incN C dX9_toldOn_57 rfl (by decide) rfl ?_
              simp only [lset1, lset2, List.filter_cons, List.filter_nil, Nat.reduceBEq, Nat.reduceAdd, Bool.not_true, Bool.not_false, Bool.and_true, Bool.and_false, Bool.true_and, Bool.false_and, if_true, if_false, Bool.false_eq_true, reduceIte]
              refine V_goto C (tgt := 6) dX9_toldOn_60 (by decide) ?_
              refine V_sub ?_ (ih (j + 1) (by omega))
              refine ⟨rfl, rfl, rfl, rfl, ?_, rfl, trivial⟩
              first | (rw [flast_f (fun q => h23 q.1)]; rfl) | (rw [flast_f (fun q => h34 q.2.1)]; rfl) | (rw [flast_f (fun q => absurd q.2.2 (Int32.not_le.mpr h45))]; rfl) | (rw [flast_t ⟨h23, h34, Int32.not_lt.mp h45⟩]; rfl)
  refine V_iconst C (v := (-1)) dX9_toldOn_0 (by decide) ?_
  refine V_istore C dX9_toldOn_1 (by decide) rfl ?_
  simp only [lset1, lset2, List.filter_cons, List.filter_nil, Nat.reduceBEq, Nat.reduceAdd, Bool.not_true, Bool.not_false, Bool.and_true, Bool.and_false, Bool.true_and, Bool.false_and, if_true, if_false, Bool.false_eq_true, reduceIte]
  refine V_iconst C (v := 0) dX9_toldOn_3 (by decide) ?_
  refine V_istore C dX9_toldOn_4 (by decide) rfl ?_
  simp only [lset1, lset2, List.filter_cons, List.filter_nil, Nat.reduceBEq, Nat.reduceAdd, Bool.not_true, Bool.not_false, Bool.and_true, Bool.and_false, Bool.true_and, Bool.false_and, if_true, if_false, Bool.false_eq_true, reduceIte]
  refine V_sub ?_ (loop n 0 (by omega))
  exact ⟨rfl, rfl, rfl, rfl, rfl, rfl, trivial⟩
theorem c_X9_isLate (l : Launch) (hl : l.stackTraces = false) (G : gG) (S : sS) (m : Nat) (σ : aS) (hR : RelR S m σ) (j : Nat) (hj : j < 480) : CtF l G yX9_isLate cX9_isLate 2 (Option.some FieldType.boolean) 1 0 0 [.ref m, .int (nI j)] S (some (.int (pI9 (mLate σ j)))) S := by
  have hm := hR.1
  have n0 : sI S 900 m = σ.2 0 := hR.2.2 0
  obtain ⟨a37, r37, k37, l37, e37⟩ : ∃ a, sR S 937 m = some a ∧ sK S a = 1371 ∧ sL S a = 480 ∧ sA S a = σ.1 37 := hR.2.1 37 rfl
  refine Ct_of (by decide) (cat1_all (by repeat first | exact trivial | refine ⟨by first | rfl | exact isR_c (isR_q _), ?_⟩)) (Nat.le_of_ble_eq_true rfl) hl fun X C hXl hin => ?_
  subst hXl
  dsimp only [lArgs, Nat.reduceAdd]
  refine V_aload_n C dX9_isLate_0 rfl (by first | exact isR_r _ | exact isR_q _ | exact isR_n) ?_
  refine V_getS C 9 37 rfl cf_9 fl_X9_110 (by decide) (by decide) dX9_isLate_1 (by assumption) (by assumption) ?_
  refine V_iload_n C dX9_isLate_4 rfl ?_
  refine V_ialdE C (by assumption) (by decide) (by assumption) (by assumption) (by first | assumption | omega) (by decide) dX9_isLate_5 ?_
  refine V_aload_n C dX9_isLate_6 rfl (by first | exact isR_r _ | exact isR_q _ | exact isR_n) ?_
  refine V_getIe C 9 0 rfl cf_9 fl_X9_187 (by decide) (by decide) dX9_isLate_7 (by assumption) (by assumption) ?_
  refine V_bipush C (v := 30) dX9_isLate_10 (by decide) ?_
  refine V_isub C dX9_isLate_12 ?_
  refine V_icmp_le C (tgt := 20) dX9_isLate_13 (by decide) (fun h13 => ?_) (fun h13 => ?_)
  · refine V_iconst C (v := 0) dX9_isLate_20 (by decide) ?_
    refine V_zret C rfl (by decide) (by decide) dX9_isLate_21 ?_
    exact ⟨by rw [pI9_f (show ¬ mLate σ j from fun q => absurd q (Int32.not_lt.mpr h13))], rfl⟩
  · refine V_iconst C (v := 1) dX9_isLate_16 (by decide) ?_
    refine V_goto C (tgt := 21) dX9_isLate_17 (by decide) ?_
    refine V_zret C (by first | rfl | exact bI_nz _) (by first | omega | decide) (by first | omega | decide) dX9_isLate_21 ?_
    exact ⟨by rw [pI9_t (show mLate σ j from Int32.not_le.mp h13)], rfl⟩
theorem c_X9_isGreatest (l : Launch) (hl : l.stackTraces = false) (G : gG) (S : sS) (m : Nat) (σ : aS) (hR : RelR S m σ) (hI : IC σ) (k : Nat) (hk : k < 16) (j : Nat) (hj : j < 480) : CtF l G yX9_isGreatest cX9_isGreatest 6 (Option.some FieldType.boolean) 1 0 0 [.ref m, .int (nI k), .int (nI j)] S (some (.int (pI9 (mGr σ k j)))) S := by
  have hm := hR.1
  obtain ⟨r, hr⟩ : ∃ r, r = rN σ k := ⟨_, rfl⟩
  have hr30 : r ≤ 30 := by rw [hr]; exact (hI.2.2.2.2.2.2.1 k hk).2
  have er : σ.1 34 k = nI r := by rw [hr]; exact (hI.2.2.2.2.2.2.1 k hk).1
  obtain ⟨a34, r34, k34, l34, e34⟩ : ∃ a, sR S 934 m = some a ∧ sK S a = 1341 ∧ sL S a = 16 ∧ sA S a = σ.1 34 := hR.2.1 34 rfl
  obtain ⟨a35, r35, k35, l35, e35⟩ : ∃ a, sR S 935 m = some a ∧ sK S a = 1351 ∧ sL S a = 480 ∧ sA S a = σ.1 35 := hR.2.1 35 rfl
  obtain ⟨a36, r36, k36, l36, e36⟩ : ∃ a, sR S 936 m = some a ∧ sK S a = 1361 ∧ sL S a = 480 ∧ sA S a = σ.1 36 := hR.2.1 36 rfl
  obtain ⟨a37, r37, k37, l37, e37⟩ : ∃ a, sR S 937 m = some a ∧ sK S a = 1371 ∧ sL S a = 480 ∧ sA S a = σ.1 37 := hR.2.1 37 rfl
  refine Ct_of (by decide) (cat1_all (by repeat first | exact trivial | refine ⟨by first | rfl | exact isR_c (isR_q _), ?_⟩)) (Nat.le_of_ble_eq_true rfl) hl fun X C hXl hin => ?_
  subst hXl
  dsimp only [lArgs, Nat.reduceAdd]
  have loop : ∀ t i : Nat, i + t = r → V X G 6 (eQ X G (fun v T => v = some (.int (pI9 (mGr σ k j))) ∧ T = S) (fun _ _ => False) 0 0) 0 0 8 [(0, false, .ref m), (1, false, .int (nI k)), (2, false, .int (nI j)), (3, false, .int (pI9 (∀ i', i' < i → mOkG σ j (30 * k + i')))), (4, false, .int (nI (30 * k + i)))] [] S := by
    intro t
    induction t with
    | zero =>
      intro i hi
      refine V_iload C dX9_isGreatest_8 rfl ?_
      refine V_bipush C (v := 30) dX9_isGreatest_10 (by decide) ?_
      refine V_iload_n C dX9_isGreatest_12 rfl ?_
      refine V_imul C dX9_isGreatest_13 ?_
      rw [show (30 : Int32) * nI k = nI (30 * k) from pk_mul 30 k]
      refine V_aload_n C dX9_isGreatest_14 rfl (by first | exact isR_r _ | exact isR_q _ | exact isR_n) ?_
      refine V_getS C 9 34 rfl cf_9 fl_X9_101 (by decide) (by decide) dX9_isGreatest_15 (by assumption) (by assumption) ?_
      refine V_iload_n C dX9_isGreatest_18 rfl ?_
      refine V_ialdE C (by assumption) (by decide) (by assumption) (by assumption) (by first | assumption | omega) (by decide) dX9_isGreatest_19 ?_
      refine V_iadd C dX9_isGreatest_20 ?_
      rw [er, nI_add]
      refine V_igeN C (tgt := 128) (by omega) (by omega) dX9_isGreatest_21 (by decide) (fun h21 => ?_) (fun h21 => ?_)
      · refine V_iload_n C dX9_isGreatest_128 rfl ?_
        refine V_zret C (pI9_nz _) (by first | omega | decide) (by first | omega | decide) dX9_isGreatest_129 ?_
        exact ⟨by rw [show i = rN σ k by omega]; rfl, rfl⟩
      · omega
    | succ t ih =>
      intro i hi
      have hx : ∀ p q : Prop, ((∀ i', i' < i + 1 → mOkG σ j (30 * k + i')) ↔ ((∀ i', i' < i → mOkG σ j (30 * k + i')) ∧ mOkG σ j (30 * k + i))) := fun _ _ => ⟨fun h => ⟨fun i' q => h i' (by omega), h i (by omega)⟩, fun h i' q => by
        rcases Nat.lt_succ_iff_lt_or_eq.mp q with q | q
        · exact h.1 i' q
        · rw [q]; exact h.2⟩
      have e1 : mOkG σ j (30 * k + i) → ∀ z : Int32, z = pI9 (∀ i', i' < i → mOkG σ j (30 * k + i')) → z = pI9 (∀ i', i' < i + 1 → mOkG σ j (30 * k + i')) := fun h z hz => by
        rw [hz]
        by_cases q : ∀ i', i' < i → mOkG σ j (30 * k + i')
        · rw [pI9_t q, pI9_t ((hx True True).mpr ⟨q, h⟩)]
        · rw [pI9_f q, pI9_f (fun w => q ((hx True True).mp w).1)]
      have e0 : (¬ ((∀ i', i' < i → mOkG σ j (30 * k + i')) ∧ mOkG σ j (30 * k + i))) → (0 : Int32) = pI9 (∀ i', i' < i + 1 → mOkG σ j (30 * k + i')) := fun h => (pI9_f (fun w => h ((hx True True).mp w))).symm
      have e2 : ((∀ i', i' < i → mOkG σ j (30 * k + i')) ∧ mOkG σ j (30 * k + i)) → (1 : Int32) = pI9 (∀ i', i' < i + 1 → mOkG σ j (30 * k + i')) := fun h => (pI9_t ((hx True True).mpr h)).symm
      have J : ∀ b : Int32, b = pI9 (∀ i', i' < i + 1 → mOkG σ j (30 * k + i')) → ∀ z : Int32, V X G 6 (eQ X G (fun v T => v = some (.int (pI9 (mGr σ k j))) ∧ T = S) (fun _ _ => False) 0 0) 0 0 121 [(5, false, .int z), (0, false, .ref m), (1, false, .int (nI k)), (2, false, .int (nI j)), (3, false, .int (pI9 (∀ i', i' < i → mOkG σ j (30 * k + i')))), (4, false, .int (nI (30 * k + i)))] [.int b] S := fun b hb z => by
        refine V_istore_n C dX9_isGreatest_121 (by decide) rfl ?_
        simp only [lset1, lset2, List.filter_cons, List.filter_nil, Nat.reduceBEq, Nat.reduceAdd, Bool.not_true, Bool.not_false, Bool.and_true, Bool.and_false, Bool.true_and, Bool.false_and, if_true, if_false, Bool.false_eq_true, reduceIte]
        refine V_incN C dX9_isGreatest_122 rfl (by decide) rfl ?_
        simp only [lset1, lset2, List.filter_cons, List.filter_nil, Nat.reduceBEq, Nat.reduceAdd, Bool.not_true, Bool.not_false, Bool.and_true, Bool.and_false, Bool.true_and, Bool.false_and, if_true, if_false, Bool.false_eq_true, reduceIte]
        refine V_goto C (tgt := 8) dX9_isGreatest_125 (by decide) ?_
        refine V_sub ?_ (ih (i + 1) (by omega))
        exact ⟨rfl, rfl, rfl, by rw [← hb]; rfl, rfl, trivial⟩
      have J2 : ∀ b : Int32, b = pI9 (mSame σ (30 * k + i) j) → V X G 6 (eQ X G (fun v T => v = some (.int (pI9 (mGr σ k j))) ∧ T = S) (fun _ _ => False) 0 0) 0 0 67 [(0, false, .ref m), (1, false, .int (nI k)), (2, false, .int (nI j)), (3, false, .int (pI9 (∀ i', i' < i → mOkG σ j (30 * k + i')))), (4, false, .int (nI (30 * k + i)))] [.int b] S := fun b hb => by
        refine V_istore C dX9_isGreatest_67 (by decide) rfl ?_
        simp only [lset1, lset2, List.filter_cons, List.filter_nil, Nat.reduceBEq, Nat.reduceAdd, Bool.not_true, Bool.not_false, Bool.and_true, Bool.and_false, Bool.true_and, Bool.false_and, if_true, if_false, Bool.false_eq_true, reduceIte]
        rw [hb]
        refine V_iload_n C dX9_isGreatest_69 rfl ?_
        refine V_if_eq C (tgt := 120) dX9_isGreatest_70 (by decide) (fun h70 => ?_) (fun h70 => ?_)
        · refine V_iconst C (v := 0) dX9_isGreatest_120 (by decide) ?_
          exact J 0 (e0 (fun q => absurd q.1 (pI9_z.mp h70))) _
        · refine V_iload C dX9_isGreatest_73 rfl ?_
          refine V_if_eq C (tgt := 116) dX9_isGreatest_75 (by decide) (fun h75 => ?_) (fun h75 => ?_)
          · refine V_iconst C (v := 1) dX9_isGreatest_116 (by decide) ?_
            refine V_goto C (tgt := 121) dX9_isGreatest_117 (by decide) ?_
            refine J 1 (e2 ⟨pI9_ne.mp h70, ?_⟩) _
            first | exact Or.inl (pI9_z.mp h75) | exact Or.inr (Or.inl h91) | exact Or.inr (Or.inr ⟨h107, h113⟩)
          · refine V_aload_n C dX9_isGreatest_78 rfl (by first | exact isR_r _ | exact isR_q _ | exact isR_n) ?_
            refine V_getS C 9 36 rfl cf_9 fl_X9_107 (by decide) (by decide) dX9_isGreatest_79 (by assumption) (by assumption) ?_
            refine V_iload C dX9_isGreatest_82 rfl ?_
            refine V_ialdE C (by assumption) (by decide) (by assumption) (by assumption) (by first | assumption | omega) (by decide) dX9_isGreatest_84 ?_
            refine V_aload_n C dX9_isGreatest_85 rfl (by first | exact isR_r _ | exact isR_q _ | exact isR_n) ?_
            refine V_getS C 9 36 rfl cf_9 fl_X9_107 (by decide) (by decide) dX9_isGreatest_86 (by assumption) (by assumption) ?_
            refine V_iload_n C dX9_isGreatest_89 rfl ?_
            refine V_ialdE C (by assumption) (by decide) (by assumption) (by assumption) (by first | assumption | omega) (by decide) dX9_isGreatest_90 ?_
            refine V_icmp_lt C (tgt := 116) dX9_isGreatest_91 (by decide) (fun h91 => ?_) (fun h91 => ?_)
            · refine V_iconst C (v := 1) dX9_isGreatest_116 (by decide) ?_
              refine V_goto C (tgt := 121) dX9_isGreatest_117 (by decide) ?_
              refine J 1 (e2 ⟨pI9_ne.mp h70, ?_⟩) _
              first | exact Or.inl (pI9_z.mp h75) | exact Or.inr (Or.inl h91) | exact Or.inr (Or.inr ⟨h107, h113⟩)
            · refine V_aload_n C dX9_isGreatest_94 rfl (by first | exact isR_r _ | exact isR_q _ | exact isR_n) ?_
              refine V_getS C 9 36 rfl cf_9 fl_X9_107 (by decide) (by decide) dX9_isGreatest_95 (by assumption) (by assumption) ?_
              refine V_iload C dX9_isGreatest_98 rfl ?_
              refine V_ialdE C (by assumption) (by decide) (by assumption) (by assumption) (by first | assumption | omega) (by decide) dX9_isGreatest_100 ?_
              refine V_aload_n C dX9_isGreatest_101 rfl (by first | exact isR_r _ | exact isR_q _ | exact isR_n) ?_
              refine V_getS C 9 36 rfl cf_9 fl_X9_107 (by decide) (by decide) dX9_isGreatest_102 (by assumption) (by assumption) ?_
              refine V_iload_n C dX9_isGreatest_105 rfl ?_
              refine V_ialdE C (by assumption) (by decide) (by assumption) (by assumption) (by first | assumption | omega) (by decide) dX9_isGreatest_106 ?_
              refine V_icmp_ne C (tgt := 120) dX9_isGreatest_107 (by decide) (fun h107 => ?_) (fun h107 => ?_)
              · refine V_iconst C (v := 0) dX9_isGreatest_120 (by decide) ?_
                refine J 0 (e0 (fun q => ?_)) _
                have h75' := pI9_ne.mp h75
                rcases q.2 with q | q | q
                · exact q h75'
                · exact absurd q h91
                · first | exact h107 q.1 | omega
              · refine V_iload C dX9_isGreatest_110 rfl ?_
                refine V_iload_n C dX9_isGreatest_112 rfl ?_
                refine V_ileN C (tgt := 120) (by omega) (by omega) dX9_isGreatest_113 (by decide) (fun h113 => ?_) (fun h113 => ?_)
                · refine V_iconst C (v := 0) dX9_isGreatest_120 (by decide) ?_
                  refine J 0 (e0 (fun q => ?_)) _
                  have h75' := pI9_ne.mp h75
                  rcases q.2 with q | q | q
                  · exact q h75'
                  · exact absurd q h91
                  · first | exact h107 q.1 | omega
                · refine V_iconst C (v := 1) dX9_isGreatest_116 (by decide) ?_
                  refine V_goto C (tgt := 121) dX9_isGreatest_117 (by decide) ?_
                  refine J 1 (e2 ⟨pI9_ne.mp h70, ?_⟩) _
                  first | exact Or.inl (pI9_z.mp h75) | exact Or.inr (Or.inl h91) | exact Or.inr (Or.inr ⟨h107, h113⟩)
      refine V_iload C dX9_isGreatest_8 rfl ?_
      refine V_bipush C (v := 30) dX9_isGreatest_10 (by decide) ?_
      refine V_iload_n C dX9_isGreatest_12 rfl ?_
      refine V_imul C dX9_isGreatest_13 ?_
      rw [show (30 : Int32) * nI k = nI (30 * k) from pk_mul 30 k]
      refine V_aload_n C dX9_isGreatest_14 rfl (by first | exact isR_r _ | exact isR_q _ | exact isR_n) ?_
      refine V_getS C 9 34 rfl cf_9 fl_X9_101 (by decide) (by decide) dX9_isGreatest_15 (by assumption) (by assumption) ?_
      refine V_iload_n C dX9_isGreatest_18 rfl ?_
      refine V_ialdE C (by assumption) (by decide) (by assumption) (by assumption) (by first | assumption | omega) (by decide) dX9_isGreatest_19 ?_
      refine V_iadd C dX9_isGreatest_20 ?_
      rw [er, nI_add]
      refine V_igeN C (tgt := 128) (by omega) (by omega) dX9_isGreatest_21 (by decide) (fun h21 => ?_) (fun h21 => ?_)
      · omega
      · refine V_iload C dX9_isGreatest_24 rfl ?_
        refine V_iload_n C dX9_isGreatest_26 rfl ?_
        refine V_ieqN C (tgt := 66) (by omega) (by omega) dX9_isGreatest_27 (by decide) (fun h27 => ?_) (fun h27 => ?_)
        · refine V_iconst C (v := 0) dX9_isGreatest_66 (by decide) ?_
          refine J2 _ ?_
          first | exact (pI9_f (show ¬ mSame σ (30 * k + i) j from fun q => q.1 h27)).symm | exact (pI9_f (show ¬ mSame σ (30 * k + i) j from fun q => h43 q.2.1)).symm | exact (pI9_f (show ¬ mSame σ (30 * k + i) j from fun q => h59 q.2.2)).symm | exact (pI9_t (show mSame σ (30 * k + i) j from ⟨h27, h43, h59⟩)).symm
        · refine V_aload_n C dX9_isGreatest_30 rfl (by first | exact isR_r _ | exact isR_q _ | exact isR_n) ?_
          refine V_getS C 9 35 rfl cf_9 fl_X9_104 (by decide) (by decide) dX9_isGreatest_31 (by assumption) (by assumption) ?_
          refine V_iload C dX9_isGreatest_34 rfl ?_
          refine V_ialdE C (by assumption) (by decide) (by assumption) (by assumption) (by first | assumption | omega) (by decide) dX9_isGreatest_36 ?_
          refine V_aload_n C dX9_isGreatest_37 rfl (by first | exact isR_r _ | exact isR_q _ | exact isR_n) ?_
          refine V_getS C 9 35 rfl cf_9 fl_X9_104 (by decide) (by decide) dX9_isGreatest_38 (by assumption) (by assumption) ?_
          refine V_iload_n C dX9_isGreatest_41 rfl ?_
          refine V_ialdE C (by assumption) (by decide) (by assumption) (by assumption) (by first | assumption | omega) (by decide) dX9_isGreatest_42 ?_
          refine V_icmp_ne C (tgt := 66) dX9_isGreatest_43 (by decide) (fun h43 => ?_) (fun h43 => ?_)
          · refine V_iconst C (v := 0) dX9_isGreatest_66 (by decide) ?_
            refine J2 _ ?_
            first | exact (pI9_f (show ¬ mSame σ (30 * k + i) j from fun q => q.1 h27)).symm | exact (pI9_f (show ¬ mSame σ (30 * k + i) j from fun q => h43 q.2.1)).symm | exact (pI9_f (show ¬ mSame σ (30 * k + i) j from fun q => h59 q.2.2)).symm | exact (pI9_t (show mSame σ (30 * k + i) j from ⟨h27, h43, h59⟩)).symm
          · refine V_aload_n C dX9_isGreatest_46 rfl (by first | exact isR_r _ | exact isR_q _ | exact isR_n) ?_
            refine V_getS C 9 37 rfl cf_9 fl_X9_110 (by decide) (by decide) dX9_isGreatest_47 (by assumption) (by assumption) ?_
            refine V_iload C dX9_isGreatest_50 rfl ?_
            refine V_ialdE C (by assumption) (by decide) (by assumption) (by assumption) (by first | assumption | omega) (by decide) dX9_isGreatest_52 ?_
            refine V_aload_n C dX9_isGreatest_53 rfl (by first | exact isR_r _ | exact isR_q _ | exact isR_n) ?_
            refine V_getS C 9 37 rfl cf_9 fl_X9_110 (by decide) (by decide) dX9_isGreatest_54 (by assumption) (by assumption) ?_
            refine V_iload_n C dX9_isGreatest_57 rfl ?_
            refine V_ialdE C (by assumption) (by decide) (by assumption) (by assumption) (by first | assumption | omega) (by decide) dX9_isGreatest_58 ?_
            refine V_icmp_ne C (tgt := 66) dX9_isGreatest_59 (by decide) (fun h59 => ?_) (fun h59 => ?_)
            · refine V_iconst C (v := 0) dX9_isGreatest_66 (by decide) ?_
              refine J2 _ ?_
              first | exact (pI9_f (show ¬ mSame σ (30 * k + i) j from fun q => q.1 h27)).symm | exact (pI9_f (show ¬ mSame σ (30 * k + i) j from fun q => h43 q.2.1)).symm | exact (pI9_f (show ¬ mSame σ (30 * k + i) j from fun q => h59 q.2.2)).symm | exact (pI9_t (show mSame σ (30 * k + i) j from ⟨h27, h43, h59⟩)).symm
            · refine V_iconst C (v := 1) dX9_isGreatest_62 (by decide) ?_
              refine V_goto C (tgt := 67) dX9_isGreatest_63 (by decide) ?_
              refine J2 _ ?_
              first | exact (pI9_f (show ¬ mSame σ (30 * k + i) j from fun q => q.1 h27)).symm | exact (pI9_f (show ¬ mSame σ (30 * k + i) j from fun q => h43 q.2.1)).symm | exact (pI9_f (show ¬ mSame σ (30 * k + i) j from fun q => h59 q.2.2)).symm | exact (pI9_t (show mSame σ (30 * k + i) j from ⟨h27, h43, h59⟩)).symm
  refine V_iconst C (v := 1) dX9_isGreatest_0 (by decide) ?_
  refine V_istore_n C dX9_isGreatest_1 (by decide) rfl ?_
  simp only [lset1, lset2, List.filter_cons, List.filter_nil, Nat.reduceBEq, Nat.reduceAdd, Bool.not_true, Bool.not_false, Bool.and_true, Bool.and_false, Bool.true_and, Bool.false_and, if_true, if_false, Bool.false_eq_true, reduceIte]
  refine V_bipush C (v := 30) dX9_isGreatest_2 (by decide) ?_
  refine V_iload_n C dX9_isGreatest_4 rfl ?_
  refine V_imul C dX9_isGreatest_5 ?_
  rw [show (30 : Int32) * nI k = nI (30 * k) from pk_mul 30 k]
  refine V_istore C dX9_isGreatest_6 (by decide) rfl ?_
  simp only [lset1, lset2, List.filter_cons, List.filter_nil, Nat.reduceBEq, Nat.reduceAdd, Bool.not_true, Bool.not_false, Bool.and_true, Bool.and_false, Bool.true_and, Bool.false_and, if_true, if_false, Bool.false_eq_true, reduceIte]
  refine V_sub ?_ (loop r 0 (by omega))
  exact ⟨rfl, rfl, rfl, by rw [pI9_t (fun i' q => absurd q (Nat.not_lt_zero i'))]; rfl, rfl, trivial⟩
