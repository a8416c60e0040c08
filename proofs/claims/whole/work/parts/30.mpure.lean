/-! THE REFERENCE: its small methods that write nothing. -/
theorem c_X9_in (l : Launch) (hl : l.stackTraces = false) (G : gG) (S : sS) (v a b : Int32) : CtF l G yX9_in cX9_in 3 (Option.some FieldType.boolean) 1 0 0 [.int v, .int a, .int b] S (some (.int (bI (a ≤ v ∧ v ≤ b)))) S := by
  refine Ct_of (by decide) (cat1_all (by repeat first | exact trivial | refine ⟨by first | rfl | exact isR_c (isR_q _), ?_⟩)) (Nat.le_of_ble_eq_true rfl) hl fun X C hXl hin => ?_
  subst hXl
  dsimp only [lArgs, Nat.reduceAdd]
  refine V_iload_n C dX9_in_0 rfl ?_
  refine V_iload_n C dX9_in_1 rfl ?_
  refine V_icmp_lt C (tgt := 14) dX9_in_2 (by decide) (fun h2 => ?_) (fun h2 => ?_)
  · refine V_iconst C (v := 0) dX9_in_14 (by decide) ?_
    refine V_zret C rfl (by decide) (by decide) dX9_in_15 ?_
    exact ⟨by rw [bI_f (by first | exact fun q => absurd q.1 (Int32.not_le.mpr h2) | exact fun q => absurd q.2 (Int32.not_le.mpr h7))], rfl⟩
  · refine V_iload_n C dX9_in_5 rfl ?_
    refine V_iload_n C dX9_in_6 rfl ?_
    refine V_icmp_gt C (tgt := 14) dX9_in_7 (by decide) (fun h7 => ?_) (fun h7 => ?_)
    · refine V_iconst C (v := 0) dX9_in_14 (by decide) ?_
      refine V_zret C rfl (by decide) (by decide) dX9_in_15 ?_
      exact ⟨by rw [bI_f (by first | exact fun q => absurd q.1 (Int32.not_le.mpr h2) | exact fun q => absurd q.2 (Int32.not_le.mpr h7))], rfl⟩
    · refine V_iconst C (v := 1) dX9_in_10 (by decide) ?_
      refine V_goto C (tgt := 15) dX9_in_11 (by decide) ?_
      refine V_zret C (by first | rfl | exact bI_nz _) (by first | omega | decide) (by first | omega | decide) dX9_in_15 ?_
      exact ⟨by rw [bI_t ⟨Int32.not_lt.mp h2, Int32.not_lt.mp h7⟩], rfl⟩
theorem c_X9_isChild (l : Launch) (hl : l.stackTraces = false) (G : gG) (S : sS) (m : Nat) (σ : aS) (hR : RelR S m σ) (x : Int32) : CtF l G yX9_isChild cX9_isChild 2 (Option.some FieldType.boolean) 2 0 0 [.ref m, .int x] S (some (.int (bI (0 ≤ x ∧ x ≤ σ.2 1 - 1)))) S := by
  have hm := hR.1
  have n1 : sI S 901 m = σ.2 1 := hR.2.2 1
  refine Ct_of (by decide) (cat1_all (by repeat first | exact trivial | refine ⟨by first | rfl | exact isR_c (isR_q _), ?_⟩)) (Nat.le_of_ble_eq_true rfl) hl fun X C hXl hin => ?_
  subst hXl
  dsimp only [lArgs, Nat.reduceAdd]
  refine V_iload_n C dX9_isChild_0 rfl ?_
  refine V_iconst C (v := 0) dX9_isChild_1 (by decide) ?_
  refine V_aload_n C dX9_isChild_2 rfl (by first | exact isR_r _ | exact isR_q _ | exact isR_n) ?_
  refine V_getIe C 9 1 rfl cf_9 fl_X9_162 (by decide) (by decide) dX9_isChild_3 (by assumption) (by assumption) ?_
  refine V_iconst C (v := 1) dX9_isChild_6 (by decide) ?_
  refine V_isub C dX9_isChild_7 ?_
  refine V_fS C (c_X9_in _ hl G S x 0 (σ.2 1 - 1)) ks_X9_165 (by decide) (by decide) rfl rfl (Nat.le_of_ble_eq_true rfl) dX9_isChild_8 ?_
  dsimp only [Option.toList_some, Option.toList_none, List.cons_append, List.nil_append]
  refine V_zret C (by first | rfl | exact bI_nz _) (by first | omega | decide) (by first | omega | decide) dX9_isChild_11 ?_
  exact ⟨rfl, rfl⟩
theorem c_X9_isHome (l : Launch) (hl : l.stackTraces = false) (G : gG) (S : sS) (m : Nat) (σ : aS) (hR : RelR S m σ) (x : Int32) : CtF l G yX9_isHome cX9_isHome 2 (Option.some FieldType.boolean) 2 0 0 [.ref m, .int x] S (some (.int (bI (0 ≤ x ∧ x ≤ σ.2 20 - 1)))) S := by
  have hm := hR.1
  have n20 : sI S 920 m = σ.2 20 := hR.2.2 20
  refine Ct_of (by decide) (cat1_all (by repeat first | exact trivial | refine ⟨by first | rfl | exact isR_c (isR_q _), ?_⟩)) (Nat.le_of_ble_eq_true rfl) hl fun X C hXl hin => ?_
  subst hXl
  dsimp only [lArgs, Nat.reduceAdd]
  refine V_iload_n C dX9_isHome_0 rfl ?_
  refine V_iconst C (v := 0) dX9_isHome_1 (by decide) ?_
  refine V_aload_n C dX9_isHome_2 rfl (by first | exact isR_r _ | exact isR_q _ | exact isR_n) ?_
  refine V_getIe C 9 20 rfl cf_9 fl_X9_169 (by decide) (by decide) dX9_isHome_3 (by assumption) (by assumption) ?_
  refine V_iconst C (v := 1) dX9_isHome_6 (by decide) ?_
  refine V_isub C dX9_isHome_7 ?_
  refine V_fS C (c_X9_in _ hl G S x 0 (σ.2 20 - 1)) ks_X9_165 (by decide) (by decide) rfl rfl (Nat.le_of_ble_eq_true rfl) dX9_isHome_8 ?_
  dsimp only [Option.toList_some, Option.toList_none, List.cons_append, List.nil_append]
  refine V_zret C (by first | rfl | exact bI_nz _) (by first | omega | decide) (by first | omega | decide) dX9_isHome_11 ?_
  exact ⟨rfl, rfl⟩
theorem c_X9_ones (l : Launch) (hl : l.stackTraces = false) (G : gG) (S : sS) (x : Int32) : CtF l G yX9_ones cX9_ones 1 (Option.some FieldType.int) 1 0 0 [.int x] S (some (.int (ones4 x))) S := by
  refine Ct_of (by decide) (cat1_all (by repeat first | exact trivial | refine ⟨by first | rfl | exact isR_c (isR_q _), ?_⟩)) (Nat.le_of_ble_eq_true rfl) hl fun X C hXl hin => ?_
  subst hXl
  dsimp only [lArgs, Nat.reduceAdd]
  refine V_iload_n C dX9_ones_0 rfl ?_
  refine V_iconst C (v := 1) dX9_ones_1 (by decide) ?_
  refine V_iand C dX9_ones_2 ?_
  refine V_iload_n C dX9_ones_3 rfl ?_
  refine V_iconst C (v := 1) dX9_ones_4 (by decide) ?_
  refine V_ishr C dX9_ones_5 ?_
  refine V_iconst C (v := 1) dX9_ones_6 (by decide) ?_
  refine V_iand C dX9_ones_7 ?_
  refine V_iadd C dX9_ones_8 ?_
  refine V_iload_n C dX9_ones_9 rfl ?_
  refine V_iconst C (v := 2) dX9_ones_10 (by decide) ?_
  refine V_ishr C dX9_ones_11 ?_
  refine V_iconst C (v := 1) dX9_ones_12 (by decide) ?_
  refine V_iand C dX9_ones_13 ?_
  refine V_iadd C dX9_ones_14 ?_
  refine V_iload_n C dX9_ones_15 rfl ?_
  refine V_iconst C (v := 3) dX9_ones_16 (by decide) ?_
  refine V_ishr C dX9_ones_17 ?_
  refine V_iconst C (v := 1) dX9_ones_18 (by decide) ?_
  refine V_iand C dX9_ones_19 ?_
  refine V_iadd C dX9_ones_20 ?_
  refine V_iret C (by first | omega | decide) (by first | omega | decide) dX9_ones_21 ?_
  exact ⟨rfl, rfl⟩
theorem c_X9_yearsOn (l : Launch) (hl : l.stackTraces = false) (G : gG) (S : sS) (m : Nat) (σ : aS) (hR : RelR S m σ) (k : Nat) (hk : k < 16) (on : Int32) : CtF l G yX9_yearsOn cX9_yearsOn 3 (Option.some FieldType.int) 1 0 0 [.ref m, .int (nI k), .int on] S (some (.int (mYears σ k on))) S := by
  have hm := hR.1
  obtain ⟨a2, r2, k2, l2, e2⟩ : ∃ a, sR S 902 m = some a ∧ sK S a = 1021 ∧ sL S a = 16 ∧ sA S a = σ.1 2 := hR.2.1 2 rfl
  obtain ⟨a3, r3, k3, l3, e3⟩ : ∃ a, sR S 903 m = some a ∧ sK S a = 1031 ∧ sL S a = 16 ∧ sA S a = σ.1 3 := hR.2.1 3 rfl
  refine Ct_of (by decide) (cat1_all (by repeat first | exact trivial | refine ⟨by first | rfl | exact isR_c (isR_q _), ?_⟩)) (Nat.le_of_ble_eq_true rfl) hl fun X C hXl hin => ?_
  subst hXl
  dsimp only [lArgs, Nat.reduceAdd]
  refine V_aload_n C dX9_yearsOn_0 rfl (by first | exact isR_r _ | exact isR_q _ | exact isR_n) ?_
  refine V_getS C 9 2 rfl cf_9 fl_X9_7 (by decide) (by decide) dX9_yearsOn_1 (by assumption) (by assumption) ?_
  refine V_iload_n C dX9_yearsOn_4 rfl ?_
  refine V_ialdE C (by assumption) (by decide) (by assumption) (by assumption) (by first | assumption | omega) (by decide) dX9_yearsOn_5 ?_
  refine V_iload_n C dX9_yearsOn_6 rfl ?_
  refine V_iadd C dX9_yearsOn_7 ?_
  refine V_aload_n C dX9_yearsOn_8 rfl (by first | exact isR_r _ | exact isR_q _ | exact isR_n) ?_
  refine V_getS C 9 3 rfl cf_9 fl_X9_13 (by decide) (by decide) dX9_yearsOn_9 (by assumption) (by assumption) ?_
  refine V_iload_n C dX9_yearsOn_12 rfl ?_
  refine V_ialdE C (by assumption) (by decide) (by assumption) (by assumption) (by first | assumption | omega) (by decide) dX9_yearsOn_13 ?_
  refine V_isub C dX9_yearsOn_14 ?_
  refine V_sipush C (v := 365) dX9_yearsOn_15 (by decide) ?_
  refine V_idiv C dX9_yearsOn_18 (by decide) ?_
  refine V_iret C (by first | omega | decide) (by first | omega | decide) dX9_yearsOn_19 ?_
  exact ⟨rfl, rfl⟩
theorem c_X9_homeOf (l : Launch) (hl : l.stackTraces = false) (G : gG) (S : sS) (m : Nat) (σ : aS) (hR : RelR S m σ) (hI : IC σ) (k : Nat) (hk : k < cN σ 1) : CtF l G yX9_homeOf cX9_homeOf 2 (Option.some FieldType.int) 1 0 0 [.ref m, .int (nI k)] S (some (.int (mHomeOf σ k))) S := by
  have hm := hR.1
  have hk16 : k < 16 := Nat.lt_of_lt_of_le hk hI.2.1.2
  have h100 := hI.2.2.2.2.2.1.2
  obtain ⟨a10, r10, k10, l10, e10⟩ : ∃ a, sR S 910 m = some a ∧ sK S a = 1101 ∧ sL S a = 16 ∧ sA S a = σ.1 10 := hR.2.1 10 rfl
  obtain ⟨a45, r45, k45, l45, e45⟩ : ∃ a, sR S 945 m = some a ∧ sK S a = 1451 ∧ sL S a = 100 ∧ sA S a = σ.1 45 := hR.2.1 45 rfl
  refine Ct_of (by decide) (cat1_all (by repeat first | exact trivial | refine ⟨by first | rfl | exact isR_c (isR_q _), ?_⟩)) (Nat.le_of_ble_eq_true rfl) hl fun X C hXl hin => ?_
  subst hXl
  dsimp only [lArgs, Nat.reduceAdd]
  rcases hI.2.2.2.2.2.2.2 k hk with hs | ⟨j, hj, hs⟩
  · refine V_aload_n C dX9_homeOf_0 rfl (by first | exact isR_r _ | exact isR_q _ | exact isR_n) ?_
    refine V_getS C 9 10 rfl cf_9 fl_X9_34 (by decide) (by decide) dX9_homeOf_1 (by assumption) (by assumption) ?_
    refine V_iload_n C dX9_homeOf_4 rfl ?_
    refine V_ialdE C (by assumption) (by decide) (by assumption) (by assumption) (by first | assumption | omega) (by decide) dX9_homeOf_5 ?_
    refine V_iconst C (v := (-1)) dX9_homeOf_6 (by decide) ?_
    refine V_icmp_ne C (tgt := 14) dX9_homeOf_7 (by decide) (fun h7 => ?_) (fun h7 => ?_)
    · exact absurd hs h7
    · refine V_iconst C (v := (-1)) dX9_homeOf_10 (by decide) ?_
      refine V_goto C (tgt := 25) dX9_homeOf_11 (by decide) ?_
      refine V_iret C (by first | omega | decide) (by first | omega | decide) dX9_homeOf_25 ?_
      exact ⟨by unfold mHomeOf; rw [if_pos hs], rfl⟩
  · have hj16 : j < 100 := by omega
    refine V_aload_n C dX9_homeOf_0 rfl (by first | exact isR_r _ | exact isR_q _ | exact isR_n) ?_
    refine V_getS C 9 10 rfl cf_9 fl_X9_34 (by decide) (by decide) dX9_homeOf_1 (by assumption) (by assumption) ?_
    refine V_iload_n C dX9_homeOf_4 rfl ?_
    refine V_ialdE C (by assumption) (by decide) (by assumption) (by assumption) (by first | assumption | omega) (by decide) dX9_homeOf_5 ?_
    refine V_iconst C (v := (-1)) dX9_homeOf_6 (by decide) ?_
    refine V_icmp_ne C (tgt := 14) dX9_homeOf_7 (by decide) (fun h7 => ?_) (fun h7 => ?_)
    · refine V_aload_n C dX9_homeOf_14 rfl (by first | exact isR_r _ | exact isR_q _ | exact isR_n) ?_
      refine V_getS C 9 45 rfl cf_9 fl_X9_128 (by decide) (by decide) dX9_homeOf_15 (by assumption) (by assumption) ?_
      refine V_aload_n C dX9_homeOf_18 rfl (by first | exact isR_r _ | exact isR_q _ | exact isR_n) ?_
      refine V_getS C 9 10 rfl cf_9 fl_X9_34 (by decide) (by decide) dX9_homeOf_19 (by assumption) (by assumption) ?_
      refine V_iload_n C dX9_homeOf_22 rfl ?_
      refine V_ialdE C (by assumption) (by decide) (by assumption) (by assumption) (by first | assumption | omega) (by decide) dX9_homeOf_23 ?_
      rw [hs]
      refine V_ialdE C (by assumption) (by decide) (by assumption) (by assumption) (by first | assumption | omega) (by decide) dX9_homeOf_24 ?_
      refine V_iret C (by first | omega | decide) (by first | omega | decide) dX9_homeOf_25 ?_
      exact ⟨by unfold mHomeOf; rw [if_neg h7, hs, nI_clamp (by omega)], rfl⟩
    · exact absurd (hs.symm.trans h7) (by intro q; have := nI_ge (show 0 < 1 by decide) (by decide); have q2 := congrArg Int32.toInt q; rw [nI_toInt (by omega)] at q2; revert q2; show (j : Int) = -1 → False; omega)
theorem c_X9_loadOf (l : Launch) (hl : l.stackTraces = false) (G : gG) (S : sS) (m : Nat) (σ : aS) (hR : RelR S m σ) (hI : IC σ) (w : Int32) : CtF l G yX9_loadOf cX9_loadOf 4 (Option.some FieldType.int) 2 0 0 [.ref m, .int w] S (some (.int (mLoad σ w))) S := by
  have hm := hR.1
  obtain ⟨n, hn⟩ : ∃ n, n = cN σ 1 := ⟨_, rfl⟩
  have hn16 : n ≤ 16 := by rw [hn]; exact hI.2.1.2
  have n1 : sI S 901 m = nI n := (hR.2.2 1).trans (by rw [hn]; exact hI.2.1.1)
  obtain ⟨a4, r4, k4, l4, e4⟩ : ∃ a, sR S 904 m = some a ∧ sK S a = 1041 ∧ sL S a = 16 ∧ sA S a = σ.1 4 := hR.2.1 4 rfl
  obtain ⟨a8, r8, k8, l8, e8⟩ : ∃ a, sR S 908 m = some a ∧ sK S a = 1081 ∧ sL S a = 16 ∧ sA S a = σ.1 8 := hR.2.1 8 rfl
  obtain ⟨a10, r10, k10, l10, e10⟩ : ∃ a, sR S 910 m = some a ∧ sK S a = 1101 ∧ sL S a = 16 ∧ sA S a = σ.1 10 := hR.2.1 10 rfl
  refine Ct_of (by decide) (cat1_all (by repeat first | exact trivial | refine ⟨by first | rfl | exact isR_c (isR_q _), ?_⟩)) (Nat.le_of_ble_eq_true rfl) hl fun X C hXl hin => ?_
  subst hXl
  dsimp only [lArgs, Nat.reduceAdd]
  have loop : ∀ t j : Nat, j + t = n → V X G 4 (eQ X G (fun v T => v = some (.int (mLoad σ w)) ∧ T = S) (fun _ _ => False) 0 0) 0 0 4 [(0, false, .ref m), (1, false, .int w), (2, false, .int (fsum (mLoadT σ w) j)), (3, false, .int (nI j))] [] S := by
    intro t
    induction t with
    | zero =>
      intro j hj
      refine V_iload_n C dX9_loadOf_4 rfl ?_
      refine V_aload_n C dX9_loadOf_5 rfl (by first | exact isR_r _ | exact isR_q _ | exact isR_n) ?_
      refine V_getIe C 9 1 rfl cf_9 fl_X9_162 (by decide) (by decide) dX9_loadOf_6 (by assumption) (by assumption) ?_
      refine V_igeN C (tgt := 62) (by omega) (by omega) dX9_loadOf_9 (by decide) (fun h9 => ?_) (fun h9 => ?_)
      · refine V_iload_n C dX9_loadOf_62 rfl ?_
        refine V_iret C (by first | omega | decide) (by first | omega | decide) dX9_loadOf_63 ?_
        exact ⟨by rw [show j = cN σ 1 by omega]; rfl, rfl⟩
      · omega
    | succ t ih =>
      intro j hj
      have hj16 : j < 16 := by omega
      refine V_iload_n C dX9_loadOf_4 rfl ?_
      refine V_aload_n C dX9_loadOf_5 rfl (by first | exact isR_r _ | exact isR_q _ | exact isR_n) ?_
      refine V_getIe C 9 1 rfl cf_9 fl_X9_162 (by decide) (by decide) dX9_loadOf_6 (by assumption) (by assumption) ?_
      refine V_igeN C (tgt := 62) (by omega) (by omega) dX9_loadOf_9 (by decide) (fun h9 => ?_) (fun h9 => ?_)
      · omega
      · refine V_iload_n C dX9_loadOf_12 rfl ?_
        refine V_aload_n C dX9_loadOf_13 rfl (by first | exact isR_r _ | exact isR_q _ | exact isR_n) ?_
        refine V_getS C 9 8 rfl cf_9 fl_X9_28 (by decide) (by decide) dX9_loadOf_14 (by assumption) (by assumption) ?_
        refine V_iload_n C dX9_loadOf_17 rfl ?_
        refine V_ialdE C (by assumption) (by decide) (by assumption) (by assumption) (by first | assumption | omega) (by decide) dX9_loadOf_18 ?_
        refine V_iload_n C dX9_loadOf_19 rfl ?_
        refine V_icmp_ne C (tgt := 53) dX9_loadOf_20 (by decide) (fun h20 => ?_) (fun h20 => ?_)
        · refine V_iconst C (v := 0) dX9_loadOf_53 (by decide) ?_
          refine V_iadd C dX9_loadOf_54 ?_
          refine V_istore_n C dX9_loadOf_55 (by decide) rfl ?_
          simp only [lset1, lset2, List.filter_cons, List.filter_nil, Nat.reduceBEq, Nat.reduceAdd, Bool.not_true, Bool.not_false, Bool.and_true, Bool.and_false, Bool.true_and, Bool.false_and, if_true, if_false, Bool.false_eq_true, reduceIte]
          refine V_incN C dX9_loadOf_56 rfl (by decide) rfl ?_
          simp only [lset1, lset2, List.filter_cons, List.filter_nil, Nat.reduceBEq, Nat.reduceAdd, Bool.not_true, Bool.not_false, Bool.and_true, Bool.and_false, Bool.true_and, Bool.false_and, if_true, if_false, Bool.false_eq_true, reduceIte]
          refine V_goto C (tgt := 4) dX9_loadOf_59 (by decide) ?_
          refine V_sub ?_ (ih (j + 1) (by omega))
          refine ⟨rfl, rfl, ?_, rfl, trivial⟩
          show some (false, Value.int _) = some (false, Value.int (fsum (mLoadT σ w) j + mLoadT σ w j))
          first | (rw [show mLoadT σ w j = _ from if_neg h20]) | (rw [show mLoadT σ w j = _ from if_pos h20, if_pos h41]) | (rw [show mLoadT σ w j = _ from if_pos h20, if_neg h41])
        · refine V_iconst C (v := 2) dX9_loadOf_23 (by decide) ?_
          refine V_aload_n C dX9_loadOf_24 rfl (by first | exact isR_r _ | exact isR_q _ | exact isR_n) ?_
          refine V_getS C 9 4 rfl cf_9 fl_X9_16 (by decide) (by decide) dX9_loadOf_25 (by assumption) (by assumption) ?_
          refine V_iload_n C dX9_loadOf_28 rfl ?_
          refine V_ialdE C (by assumption) (by decide) (by assumption) (by assumption) (by first | assumption | omega) (by decide) dX9_loadOf_29 ?_
          refine V_fS C (c_X9_ones _ hl G S (σ.1 4 j)) ks_X9_172 (by decide) (by decide) rfl rfl (Nat.le_of_ble_eq_true rfl) dX9_loadOf_30 ?_
          dsimp only [Option.toList_some, Option.toList_none, List.cons_append, List.nil_append]
          refine V_iadd C dX9_loadOf_33 ?_
          refine V_aload_n C dX9_loadOf_34 rfl (by first | exact isR_r _ | exact isR_q _ | exact isR_n) ?_
          refine V_getS C 9 10 rfl cf_9 fl_X9_34 (by decide) (by decide) dX9_loadOf_35 (by assumption) (by assumption) ?_
          refine V_iload_n C dX9_loadOf_38 rfl ?_
          refine V_ialdE C (by assumption) (by decide) (by assumption) (by assumption) (by first | assumption | omega) (by decide) dX9_loadOf_39 ?_
          refine V_iconst C (v := (-1)) dX9_loadOf_40 (by decide) ?_
          refine V_icmp_ne C (tgt := 48) dX9_loadOf_41 (by decide) (fun h41 => ?_) (fun h41 => ?_)
          · refine V_iconst C (v := 3) dX9_loadOf_48 (by decide) ?_
            refine V_iadd C dX9_loadOf_49 ?_
            refine V_goto C (tgt := 54) dX9_loadOf_50 (by decide) ?_
            refine V_iadd C dX9_loadOf_54 ?_
            refine V_istore_n C dX9_loadOf_55 (by decide) rfl ?_
            simp only [lset1, lset2, List.filter_cons, List.filter_nil, Nat.reduceBEq, Nat.reduceAdd, Bool.not_true, Bool.not_false, Bool.and_true, Bool.and_false, Bool.true_and, Bool.false_and, if_true, if_false, Bool.false_eq_true, reduceIte]
            refine V_incN C dX9_loadOf_56 rfl (by decide) rfl ?_
            simp only [lset1, lset2, List.filter_cons, List.filter_nil, Nat.reduceBEq, Nat.reduceAdd, Bool.not_true, Bool.not_false, Bool.and_true, Bool.and_false, Bool.true_and, Bool.false_and, if_true, if_false, Bool.false_eq_true, reduceIte]
            refine V_goto C (tgt := 4) dX9_loadOf_59 (by decide) ?_
            refine V_sub ?_ (ih (j + 1) (by omega))
            refine ⟨rfl, rfl, ?_, rfl, trivial⟩
            show some (false, Value.int _) = some (false, Value.int (fsum (mLoadT σ w) j + mLoadT σ w j))
            first | (rw [show mLoadT σ w j = _ from if_neg h20]) | (rw [show mLoadT σ w j = _ from if_pos h20, if_pos h41]) | (rw [show mLoadT σ w j = _ from if_pos h20, if_neg h41])
          · refine V_iconst C (v := 0) dX9_loadOf_44 (by decide) ?_
            refine V_goto C (tgt := 49) dX9_loadOf_45 (by decide) ?_
            refine V_iadd C dX9_loadOf_49 ?_
            refine V_goto C (tgt := 54) dX9_loadOf_50 (by decide) ?_
            refine V_iadd C dX9_loadOf_54 ?_
            refine V_istore_n C dX9_loadOf_55 (by decide) rfl ?_
            simp only [lset1, lset2, List.filter_cons, List.filter_nil, Nat.reduceBEq, Nat.reduceAdd, Bool.not_true, Bool.not_false, Bool.and_true, Bool.and_false, Bool.true_and, Bool.false_and, if_true, if_false, Bool.false_eq_true, reduceIte]
            refine V_incN C dX9_loadOf_56 rfl (by decide) rfl ?_
            simp only [lset1, lset2, List.filter_cons, List.filter_nil, Nat.reduceBEq, Nat.reduceAdd, Bool.not_true, Bool.not_false, Bool.and_true, Bool.and_false, Bool.true_and, Bool.false_and, if_true, if_false, Bool.false_eq_true, reduceIte]
            refine V_goto C (tgt := 4) dX9_loadOf_59 (by decide) ?_
            refine V_sub ?_ (ih (j + 1) (by omega))
            refine ⟨rfl, rfl, ?_, rfl, trivial⟩
            show some (false, Value.int _) = some (false, Value.int (fsum (mLoadT σ w) j + mLoadT σ w j))
            first | (rw [show mLoadT σ w j = _ from if_neg h20]) | (rw [show mLoadT σ w j = _ from if_pos h20, if_pos h41]) | (rw [show mLoadT σ w j = _ from if_pos h20, if_neg h41])
  refine V_iconst C (v := 0) dX9_loadOf_0 (by decide) ?_
  refine V_istore_n C dX9_loadOf_1 (by decide) rfl ?_
  simp only [lset1, lset2, List.filter_cons, List.filter_nil, Nat.reduceBEq, Nat.reduceAdd, Bool.not_true, Bool.not_false, Bool.and_true, Bool.and_false, Bool.true_and, Bool.false_and, if_true, if_false, Bool.false_eq_true, reduceIte]
  refine V_iconst C (v := 0) dX9_loadOf_2 (by decide) ?_
  refine V_istore_n C dX9_loadOf_3 (by decide) rfl ?_
  simp only [lset1, lset2, List.filter_cons, List.filter_nil, Nat.reduceBEq, Nat.reduceAdd, Bool.not_true, Bool.not_false, Bool.and_true, Bool.and_false, Bool.true_and, Bool.false_and, if_true, if_false, Bool.false_eq_true, reduceIte]
  refine V_sub ?_ (loop n 0 (by omega))
  exact ⟨rfl, rfl, rfl, rfl, trivial⟩
