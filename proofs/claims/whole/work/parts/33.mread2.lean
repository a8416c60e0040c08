/-! THE REFERENCE: risks, orders, others. -/
theorem m1_lt {a b : Nat} (ha : a < 2 ^ 30) (hb : b < 2 ^ 30) : (nI a - 1 < nI b) ↔ a ≤ b := by
  rw [Int32.lt_iff_toInt_lt, show (1 : Int32) = nI 1 from rfl, pk_sub_toInt ha (by decide), nI_toInt (by omega)]
  omega
theorem dec1 (x : Int32) : x + Int32.ofInt (-1) = x - 1 := by
  rw [Int32.sub_eq_add_neg]
  rfl
theorem mOthersT_f {σ : aS} {x h : Int32} {j : Nat} (q : ¬ (¬ nI j = x ∧ mHomeOf σ j = h)) : mOthersT σ x h j = 0 := if_neg q
theorem mOthersT_t {σ : aS} {x h : Int32} {j : Nat} (q : ¬ nI j = x ∧ mHomeOf σ j = h) : mOthersT σ x h j = 1 := if_pos q
theorem mWorthT_f {σ : aS} {k h j : Nat} (q : ¬ (¬ nI j = nI k ∧ σ.1 5 j = σ.1 5 k ∧ mHomeOf σ j = nI h)) : mWorthT σ k h j = 0 := if_neg q
theorem mWorthT_t {σ : aS} {k h j : Nat} (q : ¬ nI j = nI k ∧ σ.1 5 j = σ.1 5 k ∧ mHomeOf σ j = nI h) : mWorthT σ k h j = 10 := if_pos q
theorem c_X9_riskOf (l : Launch) (hl : l.stackTraces = false) (G : gG) (S : sS) (m : Nat) (σ : aS) (hR : RelR S m σ) (hI : IC σ) (k : Nat) (hk : k < 16) : CtF l G yX9_riskOf cX9_riskOf 4 (Option.some FieldType.int) 2 0 0 [.ref m, .int (nI k)] S (some (.int (mRisk σ k))) S := by
  have hm := hR.1
  obtain ⟨r, hr⟩ : ∃ r, r = rN σ k := ⟨_, rfl⟩
  have hr30 : r ≤ 30 := by rw [hr]; exact (hI.2.2.2.2.2.2.1 k hk).2
  have er : σ.1 34 k = nI r := by rw [hr]; exact (hI.2.2.2.2.2.2.1 k hk).1
  obtain ⟨a34, r34, k34, l34, e34⟩ : ∃ a, sR S 934 m = some a ∧ sK S a = 1341 ∧ sL S a = 16 ∧ sA S a = σ.1 34 := hR.2.1 34 rfl
  obtain ⟨a36, r36, k36, l36, e36⟩ : ∃ a, sR S 936 m = some a ∧ sK S a = 1361 ∧ sL S a = 480 ∧ sA S a = σ.1 36 := hR.2.1 36 rfl
  refine Ct_of (by decide) (cat1_all (by repeat first | exact trivial | refine ⟨by first | rfl | exact isR_c (isR_q _), ?_⟩)) (Nat.le_of_ble_eq_true rfl) hl fun X C hXl hin => ?_
  subst hXl
  dsimp only [lArgs, Nat.reduceAdd]
  have loop : ∀ t i : Nat, i + t = r → V X G 4 (eQ X G (fun v T => v = some (.int (mRisk σ k)) ∧ T = S) (fun _ _ => False) 0 0) 0 0 7 [(0, false, .ref m), (1, false, .int (nI k)), (2, false, .int (fsum (mRiskT σ k) i)), (3, false, .int (nI (30 * k + i)))] [] S := by
    intro t
    induction t with
    | zero =>
      intro i hi
      refine V_iload_n C dX9_riskOf_7 rfl ?_
      refine V_bipush C (v := 30) dX9_riskOf_8 (by decide) ?_
      refine V_iload_n C dX9_riskOf_10 rfl ?_
      refine V_imul C dX9_riskOf_11 ?_
      rw [show (30 : Int32) * nI k = nI (30 * k) from pk_mul 30 k]
      refine V_aload_n C dX9_riskOf_12 rfl (by first | exact isR_r _ | exact isR_q _ | exact isR_n) ?_
      refine V_getS C 9 34 rfl cf_9 fl_X9_101 (by decide) (by decide) dX9_riskOf_13 (by assumption) (by assumption) ?_
      refine V_iload_n C dX9_riskOf_16 rfl ?_
      refine V_ialdE C (by assumption) (by decide) (by assumption) (by assumption) (by first | assumption | omega) (by decide) dX9_riskOf_17 ?_
      refine V_iadd C dX9_riskOf_18 ?_
      rw [er, nI_add]
      refine V_igeN C (tgt := 58) (by omega) (by omega) dX9_riskOf_19 (by decide) (fun h19 => ?_) (fun h19 => ?_)
      · refine V_iload_n C dX9_riskOf_58 rfl ?_
        refine V_iret C (by first | omega | decide) (by first | omega | decide) dX9_riskOf_59 ?_
        exact ⟨by rw [show i = rN σ k by omega]; rfl, rfl⟩
      · omega
    | succ t ih =>
      intro i hi
      refine V_iload_n C dX9_riskOf_7 rfl ?_
      refine V_bipush C (v := 30) dX9_riskOf_8 (by decide) ?_
      refine V_iload_n C dX9_riskOf_10 rfl ?_
      refine V_imul C dX9_riskOf_11 ?_
      rw [show (30 : Int32) * nI k = nI (30 * k) from pk_mul 30 k]
      refine V_aload_n C dX9_riskOf_12 rfl (by first | exact isR_r _ | exact isR_q _ | exact isR_n) ?_
      refine V_getS C 9 34 rfl cf_9 fl_X9_101 (by decide) (by decide) dX9_riskOf_13 (by assumption) (by assumption) ?_
      refine V_iload_n C dX9_riskOf_16 rfl ?_
      refine V_ialdE C (by assumption) (by decide) (by assumption) (by assumption) (by first | assumption | omega) (by decide) dX9_riskOf_17 ?_
      refine V_iadd C dX9_riskOf_18 ?_
      rw [er, nI_add]
      refine V_igeN C (tgt := 58) (by omega) (by omega) dX9_riskOf_19 (by decide) (fun h19 => ?_) (fun h19 => ?_)
      · omega
      · refine V_iload_n C dX9_riskOf_22 rfl ?_
        refine V_aload_n C dX9_riskOf_23 rfl (by first | exact isR_r _ | exact isR_q _ | exact isR_n) ?_
        refine V_iload_n C dX9_riskOf_24 rfl ?_
        refine V_fV C (c_X9_isLate _ hl G S m σ hR (30 * k + i) (by omega)) kv_X9_201 cf_9 (by decide) rfl (by assumption) (by decide) (by decide) rfl rfl (Nat.le_of_ble_eq_true rfl) dX9_riskOf_25 ?_
        dsimp only [Option.toList_some, Option.toList_none, List.cons_append, List.nil_append]
        refine V_if_eq C (tgt := 49) dX9_riskOf_28 (by decide) (fun h28 => ?_) (fun h28 => ?_)
        · refine V_iconst C (v := 0) dX9_riskOf_49 (by decide) ?_
          refine V_iadd C dX9_riskOf_50 ?_
          refine V_istore_n C dX9_riskOf_51 (by decide) rfl ?_
          simp only [lset1, lset2, List.filter_cons, List.filter_nil, Nat.reduceBEq, Nat.reduceAdd, Bool.not_true, Bool.not_false, Bool.and_true, Bool.and_false, Bool.true_and, Bool.false_and, if_true, if_false, Bool.false_eq_true, reduceIte]
          refine V_incN C dX9_riskOf_52 rfl (by decide) rfl ?_
          simp only [lset1, lset2, List.filter_cons, List.filter_nil, Nat.reduceBEq, Nat.reduceAdd, Bool.not_true, Bool.not_false, Bool.and_true, Bool.and_false, Bool.true_and, Bool.false_and, if_true, if_false, Bool.false_eq_true, reduceIte]
          refine V_goto C (tgt := 7) dX9_riskOf_55 (by decide) ?_
          refine V_sub ?_ (ih (i + 1) (by omega))
          refine ⟨rfl, rfl, ?_, rfl, trivial⟩
          show some (false, Value.int _) = some (false, Value.int (fsum (mRiskT σ k) i + mRiskT σ k i))
          first | (rw [show mRiskT σ k i = _ from iteP_f (fun q => pI9_z.mp h28 q.1)]) | (rw [show mRiskT σ k i = _ from iteP_f (fun q => pI9_z.mp h37 q.2)]) | (rw [show mRiskT σ k i = _ from iteP_t ⟨pI9_ne.mp h28, pI9_ne.mp h37⟩])
        · refine V_aload_n C dX9_riskOf_31 rfl (by first | exact isR_r _ | exact isR_q _ | exact isR_n) ?_
          refine V_iload_n C dX9_riskOf_32 rfl ?_
          refine V_iload_n C dX9_riskOf_33 rfl ?_
          refine V_fV C (c_X9_isGreatest _ hl G S m σ hR hI k hk (30 * k + i) (by omega)) kv_X9_204 cf_9 (by decide) rfl (by assumption) (by decide) (by decide) rfl rfl (Nat.le_of_ble_eq_true rfl) dX9_riskOf_34 ?_
          dsimp only [Option.toList_some, Option.toList_none, List.cons_append, List.nil_append]
          refine V_if_eq C (tgt := 49) dX9_riskOf_37 (by decide) (fun h37 => ?_) (fun h37 => ?_)
          · refine V_iconst C (v := 0) dX9_riskOf_49 (by decide) ?_
            refine V_iadd C dX9_riskOf_50 ?_
            refine V_istore_n C dX9_riskOf_51 (by decide) rfl ?_
            simp only [lset1, lset2, List.filter_cons, List.filter_nil, Nat.reduceBEq, Nat.reduceAdd, Bool.not_true, Bool.not_false, Bool.and_true, Bool.and_false, Bool.true_and, Bool.false_and, if_true, if_false, Bool.false_eq_true, reduceIte]
            refine V_incN C dX9_riskOf_52 rfl (by decide) rfl ?_
            simp only [lset1, lset2, List.filter_cons, List.filter_nil, Nat.reduceBEq, Nat.reduceAdd, Bool.not_true, Bool.not_false, Bool.and_true, Bool.and_false, Bool.true_and, Bool.false_and, if_true, if_false, Bool.false_eq_true, reduceIte]
            refine V_goto C (tgt := 7) dX9_riskOf_55 (by decide) ?_
            refine V_sub ?_ (ih (i + 1) (by omega))
            refine ⟨rfl, rfl, ?_, rfl, trivial⟩
            show some (false, Value.int _) = some (false, Value.int (fsum (mRiskT σ k) i + mRiskT σ k i))
            first | (rw [show mRiskT σ k i = _ from iteP_f (fun q => pI9_z.mp h28 q.1)]) | (rw [show mRiskT σ k i = _ from iteP_f (fun q => pI9_z.mp h37 q.2)]) | (rw [show mRiskT σ k i = _ from iteP_t ⟨pI9_ne.mp h28, pI9_ne.mp h37⟩])
          · refine V_aload_n C dX9_riskOf_40 rfl (by first | exact isR_r _ | exact isR_q _ | exact isR_n) ?_
            refine V_getS C 9 36 rfl cf_9 fl_X9_107 (by decide) (by decide) dX9_riskOf_41 (by assumption) (by assumption) ?_
            refine V_iload_n C dX9_riskOf_44 rfl ?_
            refine V_ialdE C (by assumption) (by decide) (by assumption) (by assumption) (by first | assumption | omega) (by decide) dX9_riskOf_45 ?_
            refine V_goto C (tgt := 50) dX9_riskOf_46 (by decide) ?_
            refine V_iadd C dX9_riskOf_50 ?_
            refine V_istore_n C dX9_riskOf_51 (by decide) rfl ?_
            simp only [lset1, lset2, List.filter_cons, List.filter_nil, Nat.reduceBEq, Nat.reduceAdd, Bool.not_true, Bool.not_false, Bool.and_true, Bool.and_false, Bool.true_and, Bool.false_and, if_true, if_false, Bool.false_eq_true, reduceIte]
            refine V_incN C dX9_riskOf_52 rfl (by decide) rfl ?_
            simp only [lset1, lset2, List.filter_cons, List.filter_nil, Nat.reduceBEq, Nat.reduceAdd, Bool.not_true, Bool.not_false, Bool.and_true, Bool.and_false, Bool.true_and, Bool.false_and, if_true, if_false, Bool.false_eq_true, reduceIte]
            refine V_goto C (tgt := 7) dX9_riskOf_55 (by decide) ?_
            refine V_sub ?_ (ih (i + 1) (by omega))
            refine ⟨rfl, rfl, ?_, rfl, trivial⟩
            show some (false, Value.int _) = some (false, Value.int (fsum (mRiskT σ k) i + mRiskT σ k i))
            first | (rw [show mRiskT σ k i = _ from iteP_f (fun q => pI9_z.mp h28 q.1)]) | (rw [show mRiskT σ k i = _ from iteP_f (fun q => pI9_z.mp h37 q.2)]) | (rw [show mRiskT σ k i = _ from iteP_t ⟨pI9_ne.mp h28, pI9_ne.mp h37⟩])
  refine V_iconst C (v := 0) dX9_riskOf_0 (by decide) ?_
  refine V_istore_n C dX9_riskOf_1 (by decide) rfl ?_
  simp only [lset1, lset2, List.filter_cons, List.filter_nil, Nat.reduceBEq, Nat.reduceAdd, Bool.not_true, Bool.not_false, Bool.and_true, Bool.and_false, Bool.true_and, Bool.false_and, if_true, if_false, Bool.false_eq_true, reduceIte]
  refine V_bipush C (v := 30) dX9_riskOf_2 (by decide) ?_
  refine V_iload_n C dX9_riskOf_4 rfl ?_
  refine V_imul C dX9_riskOf_5 ?_
  rw [show (30 : Int32) * nI k = nI (30 * k) from pk_mul 30 k]
  refine V_istore_n C dX9_riskOf_6 (by decide) rfl ?_
  simp only [lset1, lset2, List.filter_cons, List.filter_nil, Nat.reduceBEq, Nat.reduceAdd, Bool.not_true, Bool.not_false, Bool.and_true, Bool.and_false, Bool.true_and, Bool.false_and, if_true, if_false, Bool.false_eq_true, reduceIte]
  refine V_sub ?_ (loop r 0 (by omega))
  exact ⟨rfl, rfl, rfl, rfl, trivial⟩
theorem c_X9_seenBy (l : Launch) (hl : l.stackTraces = false) (G : gG) (S : sS) (m : Nat) (σ : aS) (hR : RelR S m σ) (hI : IC σ) (k : Nat) (hk : k < 16) : CtF l G yX9_seenBy cX9_seenBy 5 (Option.some FieldType.int) 3 0 0 [.ref m, .int (nI k)] S (some (.int (mSeenBy σ k))) S := by
  have hm := hR.1
  obtain ⟨r, hr⟩ : ∃ r, r = rN σ k := ⟨_, rfl⟩
  have hr30 : r ≤ 30 := by rw [hr]; exact (hI.2.2.2.2.2.2.1 k hk).2
  have er : σ.1 34 k = nI r := by rw [hr]; exact (hI.2.2.2.2.2.2.1 k hk).1
  obtain ⟨a9, r9, k9, l9, e9⟩ : ∃ a, sR S 909 m = some a ∧ sK S a = 1091 ∧ sL S a = 16 ∧ sA S a = σ.1 9 := hR.2.1 9 rfl
  obtain ⟨a34, r34, k34, l34, e34⟩ : ∃ a, sR S 934 m = some a ∧ sK S a = 1341 ∧ sL S a = 16 ∧ sA S a = σ.1 34 := hR.2.1 34 rfl
  obtain ⟨a37, r37, k37, l37, e37⟩ : ∃ a, sR S 937 m = some a ∧ sK S a = 1371 ∧ sL S a = 480 ∧ sA S a = σ.1 37 := hR.2.1 37 rfl
  refine Ct_of (by decide) (cat1_all (by repeat first | exact trivial | refine ⟨by first | rfl | exact isR_c (isR_q _), ?_⟩)) (Nat.le_of_ble_eq_true rfl) hl fun X C hXl hin => ?_
  subst hXl
  dsimp only [lArgs, Nat.reduceAdd]
  have loop : ∀ i d : Nat, d + i = r → V X G 5 (eQ X G (fun v T => v = some (.int (mSeenBy σ k)) ∧ T = S) (fun _ _ => False) 0 0) 0 0 23 [(0, false, .ref m), (1, false, .int (nI k)), (2, false, .int (mRisk σ k)), (3, false, .int (mFirstF σ k d)), (4, false, .int (nI (30 * k + i) - 1))] [] S := by
    intro i
    induction i with
    | zero =>
      intro d hd
      obtain rfl : d = rN σ k := by omega
      refine V_iload C dX9_seenBy_23 rfl ?_
      refine V_bipush C (v := 30) dX9_seenBy_25 (by decide) ?_
      refine V_iload_n C dX9_seenBy_27 rfl ?_
      refine V_imul C dX9_seenBy_28 ?_
      rw [show (30 : Int32) * nI k = nI (30 * k) from pk_mul 30 k]
      refine V_icmp_lt C (tgt := 75) dX9_seenBy_29 (by decide) (fun h29 => ?_) (fun h29 => ?_)
      · refine V_iload_n C dX9_seenBy_75 rfl ?_
        refine V_iconst C (v := (-1)) dX9_seenBy_76 (by decide) ?_
        refine V_icmp_ne C (tgt := 84) dX9_seenBy_77 (by decide) (fun h77 => ?_) (fun h77 => ?_)
        · refine V_iload_n C dX9_seenBy_84 rfl ?_
          refine V_iload_n C dX9_seenBy_85 rfl ?_
          refine V_bipush C (v := 12) dX9_seenBy_86 (by decide) ?_
          refine V_icmp_lt C (tgt := 95) dX9_seenBy_88 (by decide) (fun h88 => ?_) (fun h88 => ?_)
          · refine V_iload_n C dX9_seenBy_95 rfl ?_
            refine V_bipush C (v := 6) dX9_seenBy_96 (by decide) ?_
            refine V_icmp_lt C (tgt := 105) dX9_seenBy_98 (by decide) (fun h98 => ?_) (fun h98 => ?_)
            · refine V_bipush C (v := 20) dX9_seenBy_105 (by decide) ?_
              refine V_iadd C dX9_seenBy_107 ?_
              refine V_iret C (by first | omega | decide) (by first | omega | decide) dX9_seenBy_108 ?_
              refine ⟨?_, rfl⟩
              unfold mSeenBy mFirst daysTo
              first | (rw [if_pos h77]; done) | (rw [if_neg h77, if_pos (Int32.not_lt.mp h88)]; done) | (rw [if_neg h77, if_neg (Int32.not_le.mpr h88), if_pos (Int32.not_lt.mp h98)]; done) | (rw [if_neg h77, if_neg (Int32.not_le.mpr h88), if_neg (Int32.not_le.mpr h98)]; done)
            · refine V_iconst C (v := 5) dX9_seenBy_101 (by decide) ?_
              refine V_goto C (tgt := 107) dX9_seenBy_102 (by decide) ?_
              refine V_iadd C dX9_seenBy_107 ?_
              refine V_iret C (by first | omega | decide) (by first | omega | decide) dX9_seenBy_108 ?_
              refine ⟨?_, rfl⟩
              unfold mSeenBy mFirst daysTo
              first | (rw [if_pos h77]; done) | (rw [if_neg h77, if_pos (Int32.not_lt.mp h88)]; done) | (rw [if_neg h77, if_neg (Int32.not_le.mpr h88), if_pos (Int32.not_lt.mp h98)]; done) | (rw [if_neg h77, if_neg (Int32.not_le.mpr h88), if_neg (Int32.not_le.mpr h98)]; done)
          · refine V_iconst C (v := 1) dX9_seenBy_91 (by decide) ?_
            refine V_goto C (tgt := 107) dX9_seenBy_92 (by decide) ?_
            refine V_iadd C dX9_seenBy_107 ?_
            refine V_iret C (by first | omega | decide) (by first | omega | decide) dX9_seenBy_108 ?_
            refine ⟨?_, rfl⟩
            unfold mSeenBy mFirst daysTo
            first | (rw [if_pos h77]; done) | (rw [if_neg h77, if_pos (Int32.not_lt.mp h88)]; done) | (rw [if_neg h77, if_neg (Int32.not_le.mpr h88), if_pos (Int32.not_lt.mp h98)]; done) | (rw [if_neg h77, if_neg (Int32.not_le.mpr h88), if_neg (Int32.not_le.mpr h98)]; done)
        · refine V_iconst C (v := (-1)) dX9_seenBy_80 (by decide) ?_
          refine V_goto C (tgt := 108) dX9_seenBy_81 (by decide) ?_
          refine V_iret C (by first | omega | decide) (by first | omega | decide) dX9_seenBy_108 ?_
          refine ⟨?_, rfl⟩
          unfold mSeenBy mFirst daysTo
          first | (rw [if_pos h77]; done) | (rw [if_neg h77, if_pos (Int32.not_lt.mp h88)]; done) | (rw [if_neg h77, if_neg (Int32.not_le.mpr h88), if_pos (Int32.not_lt.mp h98)]; done) | (rw [if_neg h77, if_neg (Int32.not_le.mpr h88), if_neg (Int32.not_le.mpr h98)]; done)
      · exact absurd ((m1_lt (by omega) (by omega)).mpr (by omega)) h29
    | succ i ih =>
      intro d hd
      have ed : rN σ k - (d + 1) = i := by omega
      have ei : nI (30 * k + (i + 1)) - 1 = nI (30 * k + i) := nI_pred (30 * k + i)
      rw [ei]
      refine V_iload C dX9_seenBy_23 rfl ?_
      refine V_bipush C (v := 30) dX9_seenBy_25 (by decide) ?_
      refine V_iload_n C dX9_seenBy_27 rfl ?_
      refine V_imul C dX9_seenBy_28 ?_
      rw [show (30 : Int32) * nI k = nI (30 * k) from pk_mul 30 k]
      refine V_iltN C (tgt := 75) (by omega) (by omega) dX9_seenBy_29 (by decide) (fun h29 => ?_) (fun h29 => ?_)
      · omega
      · refine V_aload_n C dX9_seenBy_32 rfl (by first | exact isR_r _ | exact isR_q _ | exact isR_n) ?_
        refine V_iload C dX9_seenBy_33 rfl ?_
        refine V_fV C (c_X9_isLate _ hl G S m σ hR (30 * k + i) (by omega)) kv_X9_201 cf_9 (by decide) rfl (by assumption) (by decide) (by decide) rfl rfl (Nat.le_of_ble_eq_true rfl) dX9_seenBy_35 ?_
        dsimp only [Option.toList_some, Option.toList_none, List.cons_append, List.nil_append]
        refine V_if_eq C (tgt := 67) dX9_seenBy_38 (by decide) (fun h38 => ?_) (fun h38 => ?_)
        · refine V_iload_n C dX9_seenBy_67 rfl ?_
          refine V_istore_n C dX9_seenBy_68 (by decide) rfl ?_
          simp only [lset1, lset2, List.filter_cons, List.filter_nil, Nat.reduceBEq, Nat.reduceAdd, Bool.not_true, Bool.not_false, Bool.and_true, Bool.and_false, Bool.true_and, Bool.false_and, if_true, if_false, Bool.false_eq_true, reduceIte]
          refine V_iinc C (v := nI (30 * k + i) - 1) dX9_seenBy_69 rfl (dec1 _) (by decide) rfl ?_
          simp only [lset1, lset2, List.filter_cons, List.filter_nil, Nat.reduceBEq, Nat.reduceAdd, Bool.not_true, Bool.not_false, Bool.and_true, Bool.and_false, Bool.true_and, Bool.false_and, if_true, if_false, Bool.false_eq_true, reduceIte]
          refine V_goto C (tgt := 23) dX9_seenBy_72 (by decide) ?_
          refine V_sub ?_ (ih (d + 1) (by omega))
          refine ⟨rfl, rfl, rfl, ?_, rfl, trivial⟩
          show some (false, Value.int _) = some (false, Value.int (iteP (mLate σ (30 * k + (rN σ k - (d + 1))) ∧ σ.1 9 k < σ.1 37 (30 * k + (rN σ k - (d + 1)))) (σ.1 37 (30 * k + (rN σ k - (d + 1)))) (mFirstF σ k d)))
          rw [ed]
          first | (rw [iteP_f (fun q => pI9_z.mp h38 q.1)]) | (rw [iteP_f (fun q => absurd q.2 (Int32.not_lt.mpr h54))]) | (rw [iteP_t ⟨pI9_ne.mp h38, Int32.not_le.mp h54⟩])
        · refine V_aload_n C dX9_seenBy_41 rfl (by first | exact isR_r _ | exact isR_q _ | exact isR_n) ?_
          refine V_getS C 9 37 rfl cf_9 fl_X9_110 (by decide) (by decide) dX9_seenBy_42 (by assumption) (by assumption) ?_
          refine V_iload C dX9_seenBy_45 rfl ?_
          refine V_ialdE C (by assumption) (by decide) (by assumption) (by assumption) (by first | assumption | omega) (by decide) dX9_seenBy_47 ?_
          refine V_aload_n C dX9_seenBy_48 rfl (by first | exact isR_r _ | exact isR_q _ | exact isR_n) ?_
          refine V_getS C 9 9 rfl cf_9 fl_X9_31 (by decide) (by decide) dX9_seenBy_49 (by assumption) (by assumption) ?_
          refine V_iload_n C dX9_seenBy_52 rfl ?_
          refine V_ialdE C (by assumption) (by decide) (by assumption) (by assumption) (by first | assumption | omega) (by decide) dX9_seenBy_53 ?_
          refine V_icmp_le C (tgt := 67) dX9_seenBy_54 (by decide) (fun h54 => ?_) (fun h54 => ?_)
          · refine V_iload_n C dX9_seenBy_67 rfl ?_
            refine V_istore_n C dX9_seenBy_68 (by decide) rfl ?_
            simp only [lset1, lset2, List.filter_cons, List.filter_nil, Nat.reduceBEq, Nat.reduceAdd, Bool.not_true, Bool.not_false, Bool.and_true, Bool.and_false, Bool.true_and, Bool.false_and, if_true, if_false, Bool.false_eq_true, reduceIte]
            refine V_iinc C (v := nI (30 * k + i) - 1) dX9_seenBy_69 rfl (dec1 _) (by decide) rfl ?_
            simp only [lset1, lset2, List.filter_cons, List.filter_nil, Nat.reduceBEq, Nat.reduceAdd, Bool.not_true, Bool.not_false, Bool.and_true, Bool.and_false, Bool.true_and, Bool.false_and, if_true, if_false, Bool.false_eq_true, reduceIte]
            refine V_goto C (tgt := 23) dX9_seenBy_72 (by decide) ?_
            refine V_sub ?_ (ih (d + 1) (by omega))
            refine ⟨rfl, rfl, rfl, ?_, rfl, trivial⟩
            show some (false, Value.int _) = some (false, Value.int (iteP (mLate σ (30 * k + (rN σ k - (d + 1))) ∧ σ.1 9 k < σ.1 37 (30 * k + (rN σ k - (d + 1)))) (σ.1 37 (30 * k + (rN σ k - (d + 1)))) (mFirstF σ k d)))
            rw [ed]
            first | (rw [iteP_f (fun q => pI9_z.mp h38 q.1)]) | (rw [iteP_f (fun q => absurd q.2 (Int32.not_lt.mpr h54))]) | (rw [iteP_t ⟨pI9_ne.mp h38, Int32.not_le.mp h54⟩])
          · refine V_aload_n C dX9_seenBy_57 rfl (by first | exact isR_r _ | exact isR_q _ | exact isR_n) ?_
            refine V_getS C 9 37 rfl cf_9 fl_X9_110 (by decide) (by decide) dX9_seenBy_58 (by assumption) (by assumption) ?_
            refine V_iload C dX9_seenBy_61 rfl ?_
            refine V_ialdE C (by assumption) (by decide) (by assumption) (by assumption) (by first | assumption | omega) (by decide) dX9_seenBy_63 ?_
            refine V_goto C (tgt := 68) dX9_seenBy_64 (by decide) ?_
            refine V_istore_n C dX9_seenBy_68 (by decide) rfl ?_
            simp only [lset1, lset2, List.filter_cons, List.filter_nil, Nat.reduceBEq, Nat.reduceAdd, Bool.not_true, Bool.not_false, Bool.and_true, Bool.and_false, Bool.true_and, Bool.false_and, if_true, if_false, Bool.false_eq_true, reduceIte]
            refine V_iinc C (v := nI (30 * k + i) - 1) dX9_seenBy_69 rfl (dec1 _) (by decide) rfl ?_
            simp only [lset1, lset2, List.filter_cons, List.filter_nil, Nat.reduceBEq, Nat.reduceAdd, Bool.not_true, Bool.not_false, Bool.and_true, Bool.and_false, Bool.true_and, Bool.false_and, if_true, if_false, Bool.false_eq_true, reduceIte]
            refine V_goto C (tgt := 23) dX9_seenBy_72 (by decide) ?_
            refine V_sub ?_ (ih (d + 1) (by omega))
            refine ⟨rfl, rfl, rfl, ?_, rfl, trivial⟩
            show some (false, Value.int _) = some (false, Value.int (iteP (mLate σ (30 * k + (rN σ k - (d + 1))) ∧ σ.1 9 k < σ.1 37 (30 * k + (rN σ k - (d + 1)))) (σ.1 37 (30 * k + (rN σ k - (d + 1)))) (mFirstF σ k d)))
            rw [ed]
            first | (rw [iteP_f (fun q => pI9_z.mp h38 q.1)]) | (rw [iteP_f (fun q => absurd q.2 (Int32.not_lt.mpr h54))]) | (rw [iteP_t ⟨pI9_ne.mp h38, Int32.not_le.mp h54⟩])
  refine V_aload_n C dX9_seenBy_0 rfl (by first | exact isR_r _ | exact isR_q _ | exact isR_n) ?_
  refine V_iload_n C dX9_seenBy_1 rfl ?_
  refine V_fV C (c_X9_riskOf _ hl G S m σ hR hI k hk) kv_X9_211 cf_9 (by decide) rfl (by assumption) (by decide) (by decide) rfl rfl (Nat.le_of_ble_eq_true rfl) dX9_seenBy_2 ?_
  dsimp only [Option.toList_some, Option.toList_none, List.cons_append, List.nil_append]
  refine V_istore_n C dX9_seenBy_5 (by decide) rfl ?_
  simp only [lset1, lset2, List.filter_cons, List.filter_nil, Nat.reduceBEq, Nat.reduceAdd, Bool.not_true, Bool.not_false, Bool.and_true, Bool.and_false, Bool.true_and, Bool.false_and, if_true, if_false, Bool.false_eq_true, reduceIte]
  refine V_iconst C (v := (-1)) dX9_seenBy_6 (by decide) ?_
  refine V_istore_n C dX9_seenBy_7 (by decide) rfl ?_
  simp only [lset1, lset2, List.filter_cons, List.filter_nil, Nat.reduceBEq, Nat.reduceAdd, Bool.not_true, Bool.not_false, Bool.and_true, Bool.and_false, Bool.true_and, Bool.false_and, if_true, if_false, Bool.false_eq_true, reduceIte]
  refine V_bipush C (v := 30) dX9_seenBy_8 (by decide) ?_
  refine V_iload_n C dX9_seenBy_10 rfl ?_
  refine V_imul C dX9_seenBy_11 ?_
  rw [show (30 : Int32) * nI k = nI (30 * k) from pk_mul 30 k]
  refine V_aload_n C dX9_seenBy_12 rfl (by first | exact isR_r _ | exact isR_q _ | exact isR_n) ?_
  refine V_getS C 9 34 rfl cf_9 fl_X9_101 (by decide) (by decide) dX9_seenBy_13 (by assumption) (by assumption) ?_
  refine V_iload_n C dX9_seenBy_16 rfl ?_
  refine V_ialdE C (by assumption) (by decide) (by assumption) (by assumption) (by first | assumption | omega) (by decide) dX9_seenBy_17 ?_
  refine V_iadd C dX9_seenBy_18 ?_
  rw [er, nI_add]
  refine V_iconst C (v := 1) dX9_seenBy_19 (by decide) ?_
  refine V_isub C dX9_seenBy_20 ?_
  refine V_istore C dX9_seenBy_21 (by decide) rfl ?_
  simp only [lset1, lset2, List.filter_cons, List.filter_nil, Nat.reduceBEq, Nat.reduceAdd, Bool.not_true, Bool.not_false, Bool.and_true, Bool.and_false, Bool.true_and, Bool.false_and, if_true, if_false, Bool.false_eq_true, reduceIte]
  refine V_sub ?_ (loop r 0 (by omega))
  exact ⟨rfl, rfl, rfl, rfl, rfl, trivial⟩
theorem c_X9_countsOn (l : Launch) (hl : l.stackTraces = false) (G : gG) (S : sS) (m : Nat) (σ : aS) (hR : RelR S m σ) (hI : IC σ) (x on : Int32) : CtF l G yX9_countsOn cX9_countsOn 5 (Option.some FieldType.int) 2 0 0 [.ref m, .int x, .int on] S (some (.int (mCounts σ x on))) S := by
  have hm := hR.1
  obtain ⟨n, hn⟩ : ∃ n, n = cN σ 38 := ⟨_, rfl⟩
  have hn16 : n ≤ 60 := by rw [hn]; exact hI.2.2.2.2.1.2
  have n1 : sI S 938 m = nI n := (hR.2.2 38).trans (by rw [hn]; exact hI.2.2.2.2.1.1)
  obtain ⟨a39, r39, k39, l39, e39⟩ : ∃ a, sR S 939 m = some a ∧ sK S a = 1391 ∧ sL S a = 60 ∧ sA S a = σ.1 39 := hR.2.1 39 rfl
  obtain ⟨a41, r41, k41, l41, e41⟩ : ∃ a, sR S 941 m = some a ∧ sK S a = 1411 ∧ sL S a = 60 ∧ sA S a = σ.1 41 := hR.2.1 41 rfl
  obtain ⟨a42, r42, k42, l42, e42⟩ : ∃ a, sR S 942 m = some a ∧ sK S a = 1421 ∧ sL S a = 60 ∧ sA S a = σ.1 42 := hR.2.1 42 rfl
  refine Ct_of (by decide) (cat1_all (by repeat first | exact trivial | refine ⟨by first | rfl | exact isR_c (isR_q _), ?_⟩)) (Nat.le_of_ble_eq_true rfl) hl fun X C hXl hin => ?_
  subst hXl
  dsimp only [lArgs, Nat.reduceAdd]
  have loop : ∀ t j : Nat, j + t = n → V X G 5 (eQ X G (fun v T => v = some (.int (mCounts σ x on)) ∧ T = S) (fun _ _ => False) 0 0) 0 0 5 [(0, false, .ref m), (1, false, .int x), (2, false, .int on), (3, false, .int (flast (fun j => σ.1 39 j = x ∧ (σ.1 41 j ≤ on ∧ on ≤ σ.1 42 j)) j)), (4, false, .int (nI j))] [] S := by
    intro t
    induction t with
    | zero =>
      intro j hj
      refine V_iload C dX9_countsOn_5 rfl ?_
      refine V_aload_n C dX9_countsOn_7 rfl (by first | exact isR_r _ | exact isR_q _ | exact isR_n) ?_
      refine V_getIe C 9 38 rfl cf_9 fl_X9_217 (by decide) (by decide) dX9_countsOn_8 (by assumption) (by assumption) ?_
      refine V_igeN C (tgt := 59) (by omega) (by omega) dX9_countsOn_11 (by decide) (fun h11 => ?_) (fun h11 => ?_)
      · refine V_iload_n C dX9_countsOn_59 rfl ?_
        refine V_iret C (by first | omega | decide) (by first | omega | decide) dX9_countsOn_60 ?_
        exact ⟨by rw [show j = cN σ 38 by omega]; rfl, rfl⟩
      · omega
    | succ t ih =>
      intro j hj
      refine V_iload C dX9_countsOn_5 rfl ?_
      refine V_aload_n C dX9_countsOn_7 rfl (by first | exact isR_r _ | exact isR_q _ | exact isR_n) ?_
      refine V_getIe C 9 38 rfl cf_9 fl_X9_217 (by decide) (by decide) dX9_countsOn_8 (by assumption) (by assumption) ?_
      refine V_igeN C (tgt := 59) (by omega) (by omega) dX9_countsOn_11 (by decide) (fun h11 => ?_) (fun h11 => ?_)
      · omega
      · refine V_aload_n C dX9_countsOn_14 rfl (by first | exact isR_r _ | exact isR_q _ | exact isR_n) ?_
        refine V_getS C 9 39 rfl cf_9 fl_X9_113 (by decide) (by decide) dX9_countsOn_15 (by assumption) (by assumption) ?_
        refine V_iload C dX9_countsOn_18 rfl ?_
        refine V_ialdE C (by assumption) (by decide) (by assumption) (by assumption) (by first | assumption | omega) (by decide) dX9_countsOn_20 ?_
        refine V_iload_n C dX9_countsOn_21 rfl ?_
        refine V_icmp_ne C (tgt := 51) dX9_countsOn_22 (by decide) (fun h22 => ?_) (fun h22 => ?_)
        · refine V_iload_n C dX9_countsOn_51 rfl ?_
          refine V_istore_n C dX9_countsOn_52 (by decide) rfl ?_
          simp only [lset1, lset2, List.filter_cons, List.filter_nil, Nat.reduceBEq, Nat.reduceAdd, Bool.not_true, Bool.not_false, Bool.and_true, Bool.and_false, Bool.true_and, Bool.false_and, if_true, if_false, Bool.false_eq_true, reduceIte]
          refine V_incN C dX9_countsOn_53 rfl (by decide) rfl ?_
          simp only [lset1, lset2, List.filter_cons, List.filter_nil, Nat.reduceBEq, Nat.reduceAdd, Bool.not_true, Bool.not_false, Bool.and_true, Bool.and_false, Bool.true_and, Bool.false_and, if_true, if_false, Bool.false_eq_true, reduceIte]
          refine V_goto C (tgt := 5) dX9_countsOn_56 (by decide) ?_
          refine V_sub ?_ (ih (j + 1) (by omega))
          refine ⟨rfl, rfl, rfl, ?_, rfl, trivial⟩
          first | (rw [flast_f (fun q => h22 q.1)]; rfl) | (rw [flast_f (fun q => bI_eq.mp h43 q.2)]; rfl) | (rw [flast_t ⟨h22, bI_ne.mp h43⟩]; rfl)
        · refine V_iload_n C dX9_countsOn_25 rfl ?_
          refine V_aload_n C dX9_countsOn_26 rfl (by first | exact isR_r _ | exact isR_q _ | exact isR_n) ?_
          refine V_getS C 9 41 rfl cf_9 fl_X9_119 (by decide) (by decide) dX9_countsOn_27 (by assumption) (by assumption) ?_
          refine V_iload C dX9_countsOn_30 rfl ?_
          refine V_ialdE C (by assumption) (by decide) (by assumption) (by assumption) (by first | assumption | omega) (by decide) dX9_countsOn_32 ?_
          refine V_aload_n C dX9_countsOn_33 rfl (by first | exact isR_r _ | exact isR_q _ | exact isR_n) ?_
          refine V_getS C 9 42 rfl cf_9 fl_X9_122 (by decide) (by decide) dX9_countsOn_34 (by assumption) (by assumption) ?_
          refine V_iload C dX9_countsOn_37 rfl ?_
          refine V_ialdE C (by assumption) (by decide) (by assumption) (by assumption) (by first | assumption | omega) (by decide) dX9_countsOn_39 ?_
          refine V_fS C (c_X9_in _ hl G S on (σ.1 41 j) (σ.1 42 j)) ks_X9_165 (by decide) (by decide) rfl rfl (Nat.le_of_ble_eq_true rfl) dX9_countsOn_40 ?_
          dsimp only [Option.toList_some, Option.toList_none, List.cons_append, List.nil_append]
          refine V_if_eq C (tgt := 51) dX9_countsOn_43 (by decide) (fun h43 => ?_) (fun h43 => ?_)
          · refine V_iload_n C dX9_countsOn_51 rfl ?_
            refine V_istore_n C dX9_countsOn_52 (by decide) rfl ?_
            simp only [lset1, lset2, List.filter_cons, List.filter_nil, Nat.reduceBEq, Nat.reduceAdd, Bool.not_true, Bool.not_false, Bool.and_true, Bool.and_false, Bool.true_and, Bool.false_and, if_true, if_false, Bool.false_eq_true, reduceIte]
            refine V_incN C dX9_countsOn_53 rfl (by decide) rfl ?_
            simp only [lset1, lset2, List.filter_cons, List.filter_nil, Nat.reduceBEq, Nat.reduceAdd, Bool.not_true, Bool.not_false, Bool.and_true, Bool.and_false, Bool.true_and, Bool.false_and, if_true, if_false, Bool.false_eq_true, reduceIte]
            refine V_goto C (tgt := 5) dX9_countsOn_56 (by decide) ?_
            refine V_sub ?_ (ih (j + 1) (by omega))
            refine ⟨rfl, rfl, rfl, ?_, rfl, trivial⟩
            first | (rw [flast_f (fun q => h22 q.1)]; rfl) | (rw [flast_f (fun q => bI_eq.mp h43 q.2)]; rfl) | (rw [flast_t ⟨h22, bI_ne.mp h43⟩]; rfl)
          · refine V_iload C dX9_countsOn_46 rfl ?_
            refine V_goto C (tgt := 52) dX9_countsOn_48 (by decide) ?_
            refine V_istore_n C dX9_countsOn_52 (by decide) rfl ?_
            simp only [lset1, lset2, List.filter_cons, List.filter_nil, Nat.reduceBEq, Nat.reduceAdd, Bool.not_true, Bool.not_false, Bool.and_true, Bool.and_false, Bool.true_and, Bool.false_and, if_true, if_false, Bool.false_eq_true, reduceIte]
            refine V_incN C dX9_countsOn_53 rfl (by decide) rfl ?_
            simp only [lset1, lset2, List.filter_cons, List.filter_nil, Nat.reduceBEq, Nat.reduceAdd, Bool.not_true, Bool.not_false, Bool.and_true, Bool.and_false, Bool.true_and, Bool.false_and, if_true, if_false, Bool.false_eq_true, reduceIte]
            refine V_goto C (tgt := 5) dX9_countsOn_56 (by decide) ?_
            refine V_sub ?_ (ih (j + 1) (by omega))
            refine ⟨rfl, rfl, rfl, ?_, rfl, trivial⟩
            first | (rw [flast_f (fun q => h22 q.1)]; rfl) | (rw [flast_f (fun q => bI_eq.mp h43 q.2)]; rfl) | (rw [flast_t ⟨h22, bI_ne.mp h43⟩]; rfl)
  refine V_iconst C (v := (-1)) dX9_countsOn_0 (by decide) ?_
  refine V_istore_n C dX9_countsOn_1 (by decide) rfl ?_
  simp only [lset1, lset2, List.filter_cons, List.filter_nil, Nat.reduceBEq, Nat.reduceAdd, Bool.not_true, Bool.not_false, Bool.and_true, Bool.and_false, Bool.true_and, Bool.false_and, if_true, if_false, Bool.false_eq_true, reduceIte]
  refine V_iconst C (v := 0) dX9_countsOn_2 (by decide) ?_
  refine V_istore C dX9_countsOn_3 (by decide) rfl ?_
  simp only [lset1, lset2, List.filter_cons, List.filter_nil, Nat.reduceBEq, Nat.reduceAdd, Bool.not_true, Bool.not_false, Bool.and_true, Bool.and_false, Bool.true_and, Bool.false_and, if_true, if_false, Bool.false_eq_true, reduceIte]
  refine V_sub ?_ (loop n 0 (by omega))
  exact ⟨rfl, rfl, rfl, rfl, rfl, trivial⟩
theorem c_X9_kindOn (l : Launch) (hl : l.stackTraces = false) (G : gG) (S : sS) (m : Nat) (σ : aS) (hR : RelR S m σ) (hI : IC σ) (x on : Int32) : CtF l G yX9_kindOn cX9_kindOn 4 (Option.some FieldType.int) 3 0 0 [.ref m, .int x, .int on] S (some (.int (mKindOn σ x on))) S := by
  have hm := hR.1
  obtain ⟨a40, r40, k40, l40, e40⟩ : ∃ a, sR S 940 m = some a ∧ sK S a = 1401 ∧ sL S a = 60 ∧ sA S a = σ.1 40 := hR.2.1 40 rfl
  refine Ct_of (by decide) (cat1_all (by repeat first | exact trivial | refine ⟨by first | rfl | exact isR_c (isR_q _), ?_⟩)) (Nat.le_of_ble_eq_true rfl) hl fun X C hXl hin => ?_
  subst hXl
  dsimp only [lArgs, Nat.reduceAdd]
  have h60 := hI.2.2.2.2.1.2
  rcases flast_or (fun j => σ.1 39 j = x ∧ (σ.1 41 j ≤ on ∧ on ≤ σ.1 42 j)) (cN σ 38) with hs | ⟨j, hj, hs, -⟩
  · refine V_aload_n C dX9_kindOn_0 rfl (by first | exact isR_r _ | exact isR_q _ | exact isR_n) ?_
    refine V_iload_n C dX9_kindOn_1 rfl ?_
    refine V_iload_n C dX9_kindOn_2 rfl ?_
    refine V_fV C (c_X9_countsOn _ hl G S m σ hR hI x on) kv_X9_220 cf_9 (by decide) rfl (by assumption) (by decide) (by decide) rfl rfl (Nat.le_of_ble_eq_true rfl) dX9_kindOn_3 ?_
    dsimp only [Option.toList_some, Option.toList_none, List.cons_append, List.nil_append]
    refine V_istore_n C dX9_kindOn_6 (by decide) rfl ?_
    simp only [lset1, lset2, List.filter_cons, List.filter_nil, Nat.reduceBEq, Nat.reduceAdd, Bool.not_true, Bool.not_false, Bool.and_true, Bool.and_false, Bool.true_and, Bool.false_and, if_true, if_false, Bool.false_eq_true, reduceIte]
    refine V_iload_n C dX9_kindOn_7 rfl ?_
    refine V_iconst C (v := (-1)) dX9_kindOn_8 (by decide) ?_
    refine V_icmp_ne C (tgt := 16) dX9_kindOn_9 (by decide) (fun h9 => ?_) (fun h9 => ?_)
    · exact absurd hs h9
    · refine V_iconst C (v := (-1)) dX9_kindOn_12 (by decide) ?_
      refine V_goto C (tgt := 22) dX9_kindOn_13 (by decide) ?_
      refine V_iret C (by first | omega | decide) (by first | omega | decide) dX9_kindOn_22 ?_
      exact ⟨by unfold mKindOn; rw [if_pos (show mCounts σ x on = -1 from hs)], rfl⟩
  · have hj60 : j < 60 := by omega
    have hs' : mCounts σ x on = nI j := hs
    refine V_aload_n C dX9_kindOn_0 rfl (by first | exact isR_r _ | exact isR_q _ | exact isR_n) ?_
    refine V_iload_n C dX9_kindOn_1 rfl ?_
    refine V_iload_n C dX9_kindOn_2 rfl ?_
    refine V_fV C (c_X9_countsOn _ hl G S m σ hR hI x on) kv_X9_220 cf_9 (by decide) rfl (by assumption) (by decide) (by decide) rfl rfl (Nat.le_of_ble_eq_true rfl) dX9_kindOn_3 ?_
    dsimp only [Option.toList_some, Option.toList_none, List.cons_append, List.nil_append]
    rw [hs']
    refine V_istore_n C dX9_kindOn_6 (by decide) rfl ?_
    simp only [lset1, lset2, List.filter_cons, List.filter_nil, Nat.reduceBEq, Nat.reduceAdd, Bool.not_true, Bool.not_false, Bool.and_true, Bool.and_false, Bool.true_and, Bool.false_and, if_true, if_false, Bool.false_eq_true, reduceIte]
    refine V_iload_n C dX9_kindOn_7 rfl ?_
    refine V_iconst C (v := (-1)) dX9_kindOn_8 (by decide) ?_
    refine V_icmp_ne C (tgt := 16) dX9_kindOn_9 (by decide) (fun h9 => ?_) (fun h9 => ?_)
    · refine V_aload_n C dX9_kindOn_16 rfl (by first | exact isR_r _ | exact isR_q _ | exact isR_n) ?_
      refine V_getS C 9 40 rfl cf_9 fl_X9_116 (by decide) (by decide) dX9_kindOn_17 (by assumption) (by assumption) ?_
      refine V_iload_n C dX9_kindOn_20 rfl ?_
      refine V_ialdE C (by assumption) (by decide) (by assumption) (by assumption) (by first | assumption | omega) (by decide) dX9_kindOn_21 ?_
      refine V_iret C (by first | omega | decide) (by first | omega | decide) dX9_kindOn_22 ?_
      exact ⟨by unfold mKindOn; rw [hs', if_neg h9, nI_clamp (by omega)], rfl⟩
    · exact absurd h9 (nI_ne_m1 (by omega))
theorem c_X9_others (l : Launch) (hl : l.stackTraces = false) (G : gG) (S : sS) (m : Nat) (σ : aS) (hR : RelR S m σ) (hI : IC σ) (x h : Int32) : CtF l G yX9_others cX9_others 5 (Option.some FieldType.int) 2 0 0 [.ref m, .int x, .int h] S (some (.int (mOthers σ x h))) S := by
  have hm := hR.1
  obtain ⟨n, hn⟩ : ∃ n, n = cN σ 1 := ⟨_, rfl⟩
  have hn16 : n ≤ 16 := by rw [hn]; exact hI.2.1.2
  have n1 : sI S 901 m = nI n := (hR.2.2 1).trans (by rw [hn]; exact hI.2.1.1)
  refine Ct_of (by decide) (cat1_all (by repeat first | exact trivial | refine ⟨by first | rfl | exact isR_c (isR_q _), ?_⟩)) (Nat.le_of_ble_eq_true rfl) hl fun X C hXl hin => ?_
  subst hXl
  dsimp only [lArgs, Nat.reduceAdd]
  have loop : ∀ t j : Nat, j + t = n → V X G 5 (eQ X G (fun v T => v = some (.int (mOthers σ x h)) ∧ T = S) (fun _ _ => False) 0 0) 0 0 5 [(0, false, .ref m), (1, false, .int x), (2, false, .int h), (3, false, .int (fsum (mOthersT σ x h) j)), (4, false, .int (nI j))] [] S := by
    intro t
    induction t with
    | zero =>
      intro j hj
      refine V_iload C dX9_others_5 rfl ?_
      refine V_aload_n C dX9_others_7 rfl (by first | exact isR_r _ | exact isR_q _ | exact isR_n) ?_
      refine V_getIe C 9 1 rfl cf_9 fl_X9_162 (by decide) (by decide) dX9_others_8 (by assumption) (by assumption) ?_
      refine V_igeN C (tgt := 44) (by omega) (by omega) dX9_others_11 (by decide) (fun h11 => ?_) (fun h11 => ?_)
      · refine V_iload_n C dX9_others_44 rfl ?_
        refine V_iret C (by first | omega | decide) (by first | omega | decide) dX9_others_45 ?_
        exact ⟨by rw [show j = cN σ 1 by omega]; rfl, rfl⟩
      · omega
    | succ t ih =>
      intro j hj
      refine V_iload C dX9_others_5 rfl ?_
      refine V_aload_n C dX9_others_7 rfl (by first | exact isR_r _ | exact isR_q _ | exact isR_n) ?_
      refine V_getIe C 9 1 rfl cf_9 fl_X9_162 (by decide) (by decide) dX9_others_8 (by assumption) (by assumption) ?_
      refine V_igeN C (tgt := 44) (by omega) (by omega) dX9_others_11 (by decide) (fun h11 => ?_) (fun h11 => ?_)
      · omega
      · refine V_iload_n C dX9_others_14 rfl ?_
        refine V_iload C dX9_others_15 rfl ?_
        refine V_iload_n C dX9_others_17 rfl ?_
        refine V_icmp_eq C (tgt := 35) dX9_others_18 (by decide) (fun h18 => ?_) (fun h18 => ?_)
        · refine V_iconst C (v := 0) dX9_others_35 (by decide) ?_
          refine V_iadd C dX9_others_36 ?_
          refine V_istore_n C dX9_others_37 (by decide) rfl ?_
          simp only [lset1, lset2, List.filter_cons, List.filter_nil, Nat.reduceBEq, Nat.reduceAdd, Bool.not_true, Bool.not_false, Bool.and_true, Bool.and_false, Bool.true_and, Bool.false_and, if_true, if_false, Bool.false_eq_true, reduceIte]
          refine V_incN C dX9_others_38 rfl (by decide) rfl ?_
          simp only [lset1, lset2, List.filter_cons, List.filter_nil, Nat.reduceBEq, Nat.reduceAdd, Bool.not_true, Bool.not_false, Bool.and_true, Bool.and_false, Bool.true_and, Bool.false_and, if_true, if_false, Bool.false_eq_true, reduceIte]
          refine V_goto C (tgt := 5) dX9_others_41 (by decide) ?_
          refine V_sub ?_ (ih (j + 1) (by omega))
          refine ⟨rfl, rfl, rfl, ?_, rfl, trivial⟩
          show some (false, Value.int _) = some (false, Value.int (fsum (mOthersT σ x h) j + mOthersT σ x h j))
          first | (rw [mOthersT_f (fun q => q.1 h18)]) | (rw [mOthersT_f (fun q => h28 q.2)]) | (rw [mOthersT_t ⟨h18, h28⟩])
        · refine V_aload_n C dX9_others_21 rfl (by first | exact isR_r _ | exact isR_q _ | exact isR_n) ?_
          refine V_iload C dX9_others_22 rfl ?_
          refine V_fV C (c_X9_homeOf _ hl G S m σ hR hI j (by omega)) kv_X9_227 cf_9 (by decide) rfl (by assumption) (by decide) (by decide) rfl rfl (Nat.le_of_ble_eq_true rfl) dX9_others_24 ?_
          dsimp only [Option.toList_some, Option.toList_none, List.cons_append, List.nil_append]
          refine V_iload_n C dX9_others_27 rfl ?_
          refine V_icmp_ne C (tgt := 35) dX9_others_28 (by decide) (fun h28 => ?_) (fun h28 => ?_)
          · refine V_iconst C (v := 0) dX9_others_35 (by decide) ?_
            refine V_iadd C dX9_others_36 ?_
            refine V_istore_n C dX9_others_37 (by decide) rfl ?_
            simp only [lset1, lset2, List.filter_cons, List.filter_nil, Nat.reduceBEq, Nat.reduceAdd, Bool.not_true, Bool.not_false, Bool.and_true, Bool.and_false, Bool.true_and, Bool.false_and, if_true, if_false, Bool.false_eq_true, reduceIte]
            refine V_incN C dX9_others_38 rfl (by decide) rfl ?_
            simp only [lset1, lset2, List.filter_cons, List.filter_nil, Nat.reduceBEq, Nat.reduceAdd, Bool.not_true, Bool.not_false, Bool.and_true, Bool.and_false, Bool.true_and, Bool.false_and, if_true, if_false, Bool.false_eq_true, reduceIte]
            refine V_goto C (tgt := 5) dX9_others_41 (by decide) ?_
            refine V_sub ?_ (ih (j + 1) (by omega))
            refine ⟨rfl, rfl, rfl, ?_, rfl, trivial⟩
            show some (false, Value.int _) = some (false, Value.int (fsum (mOthersT σ x h) j + mOthersT σ x h j))
            first | (rw [mOthersT_f (fun q => q.1 h18)]) | (rw [mOthersT_f (fun q => h28 q.2)]) | (rw [mOthersT_t ⟨h18, h28⟩])
          · refine V_iconst C (v := 1) dX9_others_31 (by decide) ?_
            refine V_goto C (tgt := 36) dX9_others_32 (by decide) ?_
            refine V_iadd C dX9_others_36 ?_
            refine V_istore_n C dX9_others_37 (by decide) rfl ?_
            simp only [lset1, lset2, List.filter_cons, List.filter_nil, Nat.reduceBEq, Nat.reduceAdd, Bool.not_true, Bool.not_false, Bool.and_true, Bool.and_false, Bool.true_and, Bool.false_and, if_true, if_false, Bool.false_eq_true, reduceIte]
            refine V_incN C dX9_others_38 rfl (by decide) rfl ?_
            simp only [lset1, lset2, List.filter_cons, List.filter_nil, Nat.reduceBEq, Nat.reduceAdd, Bool.not_true, Bool.not_false, Bool.and_true, Bool.and_false, Bool.true_and, Bool.false_and, if_true, if_false, Bool.false_eq_true, reduceIte]
            refine V_goto C (tgt := 5) dX9_others_41 (by decide) ?_
            refine V_sub ?_ (ih (j + 1) (by omega))
            refine ⟨rfl, rfl, rfl, ?_, rfl, trivial⟩
            show some (false, Value.int _) = some (false, Value.int (fsum (mOthersT σ x h) j + mOthersT σ x h j))
            first | (rw [mOthersT_f (fun q => q.1 h18)]) | (rw [mOthersT_f (fun q => h28 q.2)]) | (rw [mOthersT_t ⟨h18, h28⟩])
  refine V_iconst C (v := 0) dX9_others_0 (by decide) ?_
  refine V_istore_n C dX9_others_1 (by decide) rfl ?_
  simp only [lset1, lset2, List.filter_cons, List.filter_nil, Nat.reduceBEq, Nat.reduceAdd, Bool.not_true, Bool.not_false, Bool.and_true, Bool.and_false, Bool.true_and, Bool.false_and, if_true, if_false, Bool.false_eq_true, reduceIte]
  refine V_iconst C (v := 0) dX9_others_2 (by decide) ?_
  refine V_istore C dX9_others_3 (by decide) rfl ?_
  simp only [lset1, lset2, List.filter_cons, List.filter_nil, Nat.reduceBEq, Nat.reduceAdd, Bool.not_true, Bool.not_false, Bool.and_true, Bool.and_false, Bool.true_and, Bool.false_and, if_true, if_false, Bool.false_eq_true, reduceIte]
  refine V_sub ?_ (loop n 0 (by omega))
  exact ⟨rfl, rfl, rfl, rfl, rfl, trivial⟩
