/-! THE CLASS: childIs. -/
theorem c_X8_childIs (l : Launch) (hl : l.stackTraces = false) (G : gG) (S : sS) (ad : Nat → Nat → Nat) (σ : aS) (hC : RelC S ad σ) (hI : IC σ) (hS : IS σ) (k : Nat) (hk : k < cN σ 1) (w : Int32) (hw : 0 ≤ w ∧ w ≤ 6) : CtF l G yX8_childIs cX8_childIs 4 (Option.some FieldType.int) 7 2 12 [.ref (ad 8 0), .int (nI k), .int w] S (some (.int (mIs σ k w))) S := by
  refine Ct_of (by decide) (cat1_all (by repeat first | exact trivial | refine ⟨by first | rfl | exact isR_c (isR_q _), ?_⟩)) (Nat.le_of_ble_eq_true rfl) hl fun X C hXl hin => ?_
  subst hXl
  dsimp only [lArgs, Nat.reduceAdd]
  have kx : sK S (ad 8 0) = 9 := RelC_K hC 8 (by decide) rfl
  have ix_808 : sI S 808 (ad 8 0) = σ.2 0 := RelC_I hC 8 808 rfl (by unfold cFd; omega) rfl rfl
  have kc : sK S (ad 0 k) = 1 := RelC_K hC 0 (by decide) hk
  have rc_8 : sR S 8 (ad 0 k) = some (ad 1 k) := RelC_R hC 0 8 rfl (by unfold cFd; omega) rfl hk
  have ic_9 : sI S 9 (ad 0 k) = σ.1 8 k := RelC_I hC 0 9 rfl (by unfold cFd; omega) rfl hk
  have rc_11 : sR S 11 (ad 0 k) = (if σ.1 10 k = -1 then none else some (ad 6 (nx (σ.1 10 k)))) := RelC_R hC 0 11 rfl (by unfold cFd; omega) rfl hk
  have ic_12 : sI S 12 (ad 0 k) = σ.1 11 k := RelC_I hC 0 12 rfl (by unfold cFd; omega) rfl hk
  have kf : sK S (ad 1 k) = 2 := RelC_K hC 1 (by decide) hk
  have if_102 : sI S 102 (ad 1 k) = σ.1 14 k := RelC_I hC 1 102 rfl (by unfold cFd; omega) rfl hk
  have if_103 : sI S 103 (ad 1 k) = σ.1 15 k := RelC_I hC 1 103 rfl (by unfold cFd; omega) rfl hk
  have if_106 : sI S 106 (ad 1 k) = σ.1 18 k := RelC_I hC 1 106 rfl (by unfold cFd; omega) rfl hk
  obtain ⟨i, hi, rfl⟩ := ix_of (n := 7) (by decide) hw
  obtain rfl | rfl | rfl | rfl | rfl | rfl | rfl : i = 0 ∨ i = 1 ∨ i = 2 ∨ i = 3 ∨ i = 4 ∨ i = 5 ∨ i = 6 := by omega
  · rw [show mIs σ k (nI 0) = mHomeOf σ k from rfl]
    rcases hI.2.2.2.2.2.2.2 k hk with e | ⟨j, hj, e⟩
    · rw [if_pos e] at rc_11
      have eh : mHomeOf σ k = -1 := if_pos e
      rw [eh]
      refine V_aload_n C dX8_childIs_0 rfl (by first | exact isR_r _ | exact isR_q _ | exact isR_n) ?_
      refine V_iload_n C dX8_childIs_1 rfl ?_
      refine V_fV C (c_X8_childAt _ hl G S ad σ hC hI.2.1.2 k hk) kv_X8_90 cf_8 (by decide) rfl kx (by decide) (by decide) rfl rfl (Nat.le_of_ble_eq_true rfl) dX8_childIs_2 ?_
      dsimp only [Option.toList_some, Option.toList_none, List.cons_append, List.nil_append]
      refine V_astore_n C dX8_childIs_5 (by decide) (by first | exact isR_r _ | exact isR_q _ | exact isR_n) rfl ?_
      simp only [lset1, lset2, List.filter_cons, List.filter_nil, Nat.reduceBEq, Nat.reduceAdd, Bool.not_true, Bool.not_false, Bool.and_true, Bool.and_false, Bool.true_and, Bool.false_and, if_true, if_false, Bool.false_eq_true, reduceIte]
      refine V_iload_n C dX8_childIs_6 rfl ?_
      refine V_tableIn C dX8_childIs_7 (tgt := 48) (by decide) (by decide) rfl (by decide) ?_
      refine V_aload_n C dX8_childIs_48 rfl (by first | exact isR_r _ | exact isR_q _ | exact isR_n) ?_
      refine V_getRe C 0 11 rfl cf_0 fl_X8_186 (by decide) (by decide) dX8_childIs_49 kc rc_11 ?_
      refine V_ifnonnull C (tgt := 59) dX8_childIs_52 (by decide) (fun a52 h52 => ?_) (fun h52 => ?_)
      · cases h52
      · refine V_iconst C (v := (-1)) dX8_childIs_55 (by decide) ?_
        refine V_goto C (tgt := 69) dX8_childIs_56 (by decide) ?_
        refine V_iret C (by first | omega | decide) (by first | omega | decide) dX8_childIs_69 ?_
        exact ⟨rfl, rfl⟩
    · have hj100 : j < 100 := by have := hI.2.2.2.2.2.1.2; omega
      have ej : nx (σ.1 10 k) = j := by rw [e]; exact nI_clamp (by omega)
      have e9 : ¬ σ.1 10 k = -1 := by rw [e]; exact nI_ne_m1 (by omega)
      rw [if_neg e9, ej] at rc_11
      obtain ⟨-, z, hz, ez⟩ := hS j hj
      have hz10 : z < 10 := by have := hI.2.2.1.2; omega
      have ks : sK S (ad 6 j) = 7 := RelC_K hC 6 (by decide) hj
      have rs_601 : sR S 601 (ad 6 j) = some (ad 2 (nx (σ.1 45 j))) := RelC_R hC 6 601 rfl (by unfold cFd; omega) rfl hj
      rw [ez, nx_nI (j := z) (by omega)] at rs_601
      have kh : sK S (ad 2 z) = 3 := RelC_K hC 2 (by decide) hz
      have ih_200 : sI S 200 (ad 2 z) = nI z := RelC_I hC 2 200 rfl (by unfold cFd; omega) rfl hz
      have em : mHomeOf σ k = nI z := by
        unfold mHomeOf
        exact (if_neg e9).trans ((congrArg (σ.1 45) ej).trans ez)
      rw [em]
      refine V_aload_n C dX8_childIs_0 rfl (by first | exact isR_r _ | exact isR_q _ | exact isR_n) ?_
      refine V_iload_n C dX8_childIs_1 rfl ?_
      refine V_fV C (c_X8_childAt _ hl G S ad σ hC hI.2.1.2 k hk) kv_X8_90 cf_8 (by decide) rfl kx (by decide) (by decide) rfl rfl (Nat.le_of_ble_eq_true rfl) dX8_childIs_2 ?_
      dsimp only [Option.toList_some, Option.toList_none, List.cons_append, List.nil_append]
      refine V_astore_n C dX8_childIs_5 (by decide) (by first | exact isR_r _ | exact isR_q _ | exact isR_n) rfl ?_
      simp only [lset1, lset2, List.filter_cons, List.filter_nil, Nat.reduceBEq, Nat.reduceAdd, Bool.not_true, Bool.not_false, Bool.and_true, Bool.and_false, Bool.true_and, Bool.false_and, if_true, if_false, Bool.false_eq_true, reduceIte]
      refine V_iload_n C dX8_childIs_6 rfl ?_
      refine V_tableIn C dX8_childIs_7 (tgt := 48) (by decide) (by decide) rfl (by decide) ?_
      refine V_aload_n C dX8_childIs_48 rfl (by first | exact isR_r _ | exact isR_q _ | exact isR_n) ?_
      refine V_getRe C 0 11 rfl cf_0 fl_X8_186 (by decide) (by decide) dX8_childIs_49 kc rc_11 ?_
      refine V_ifnonnull C (tgt := 59) dX8_childIs_52 (by decide) (fun a52 h52 => ?_) (fun h52 => ?_)
      · cases h52
        refine V_aload_n C dX8_childIs_59 rfl (by first | exact isR_r _ | exact isR_q _ | exact isR_n) ?_
        refine V_getS C 0 11 rfl cf_0 fl_X8_186 (by decide) (by decide) dX8_childIs_60 kc rc_11 ?_
        refine V_getS C 6 1 rfl cf_6 fl_X8_218 (by decide) (by decide) dX8_childIs_63 ks rs_601 ?_
        refine V_getIe C 2 0 rfl cf_2 fl_X8_136 (by decide) (by decide) dX8_childIs_66 kh ih_200 ?_
        refine V_iret C (by first | omega | decide) (by first | omega | decide) dX8_childIs_69 ?_
        exact ⟨rfl, rfl⟩
      · cases h52
  · rw [show mIs σ k (nI 1) = mYears σ k (σ.2 0) from rfl]
    refine V_aload_n C dX8_childIs_0 rfl (by first | exact isR_r _ | exact isR_q _ | exact isR_n) ?_
    refine V_iload_n C dX8_childIs_1 rfl ?_
    refine V_fV C (c_X8_childAt _ hl G S ad σ hC hI.2.1.2 k hk) kv_X8_90 cf_8 (by decide) rfl kx (by decide) (by decide) rfl rfl (Nat.le_of_ble_eq_true rfl) dX8_childIs_2 ?_
    dsimp only [Option.toList_some, Option.toList_none, List.cons_append, List.nil_append]
    refine V_astore_n C dX8_childIs_5 (by decide) (by first | exact isR_r _ | exact isR_q _ | exact isR_n) rfl ?_
    simp only [lset1, lset2, List.filter_cons, List.filter_nil, Nat.reduceBEq, Nat.reduceAdd, Bool.not_true, Bool.not_false, Bool.and_true, Bool.and_false, Bool.true_and, Bool.false_and, if_true, if_false, Bool.false_eq_true, reduceIte]
    refine V_iload_n C dX8_childIs_6 rfl ?_
    refine V_tableIn C dX8_childIs_7 (tgt := 70) (by decide) (by decide) rfl (by decide) ?_
    refine V_aload_n C dX8_childIs_70 rfl (by first | exact isR_r _ | exact isR_q _ | exact isR_n) ?_
    refine V_aload_n C dX8_childIs_71 rfl (by first | exact isR_r _ | exact isR_q _ | exact isR_n) ?_
    refine V_getIe C 8 8 rfl cf_8 fl_X8_53 (by decide) (by decide) dX8_childIs_72 kx ix_808 ?_
    refine V_fV C (c_X0_years _ hl G S ad σ hC k hk _) kv_X8_222 cf_0 (by decide) rfl kc (by decide) (by decide) rfl rfl (Nat.le_of_ble_eq_true rfl) dX8_childIs_75 ?_
    dsimp only [Option.toList_some, Option.toList_none, List.cons_append, List.nil_append]
    refine V_iret C (by first | omega | decide) (by first | omega | decide) dX8_childIs_78 ?_
    exact ⟨rfl, rfl⟩
  · rw [show mIs σ k (nI 2) = σ.1 11 k from rfl]
    refine V_aload_n C dX8_childIs_0 rfl (by first | exact isR_r _ | exact isR_q _ | exact isR_n) ?_
    refine V_iload_n C dX8_childIs_1 rfl ?_
    refine V_fV C (c_X8_childAt _ hl G S ad σ hC hI.2.1.2 k hk) kv_X8_90 cf_8 (by decide) rfl kx (by decide) (by decide) rfl rfl (Nat.le_of_ble_eq_true rfl) dX8_childIs_2 ?_
    dsimp only [Option.toList_some, Option.toList_none, List.cons_append, List.nil_append]
    refine V_astore_n C dX8_childIs_5 (by decide) (by first | exact isR_r _ | exact isR_q _ | exact isR_n) rfl ?_
    simp only [lset1, lset2, List.filter_cons, List.filter_nil, Nat.reduceBEq, Nat.reduceAdd, Bool.not_true, Bool.not_false, Bool.and_true, Bool.and_false, Bool.true_and, Bool.false_and, if_true, if_false, Bool.false_eq_true, reduceIte]
    refine V_iload_n C dX8_childIs_6 rfl ?_
    refine V_tableIn C dX8_childIs_7 (tgt := 79) (by decide) (by decide) rfl (by decide) ?_
    refine V_aload_n C dX8_childIs_79 rfl (by first | exact isR_r _ | exact isR_q _ | exact isR_n) ?_
    refine V_getIe C 0 12 rfl cf_0 fl_X8_225 (by decide) (by decide) dX8_childIs_80 kc ic_12 ?_
    refine V_iret C (by first | omega | decide) (by first | omega | decide) dX8_childIs_83 ?_
    exact ⟨rfl, rfl⟩
  · rw [show mIs σ k (nI 3) = σ.1 14 k from rfl]
    refine V_aload_n C dX8_childIs_0 rfl (by first | exact isR_r _ | exact isR_q _ | exact isR_n) ?_
    refine V_iload_n C dX8_childIs_1 rfl ?_
    refine V_fV C (c_X8_childAt _ hl G S ad σ hC hI.2.1.2 k hk) kv_X8_90 cf_8 (by decide) rfl kx (by decide) (by decide) rfl rfl (Nat.le_of_ble_eq_true rfl) dX8_childIs_2 ?_
    dsimp only [Option.toList_some, Option.toList_none, List.cons_append, List.nil_append]
    refine V_astore_n C dX8_childIs_5 (by decide) (by first | exact isR_r _ | exact isR_q _ | exact isR_n) rfl ?_
    simp only [lset1, lset2, List.filter_cons, List.filter_nil, Nat.reduceBEq, Nat.reduceAdd, Bool.not_true, Bool.not_false, Bool.and_true, Bool.and_false, Bool.true_and, Bool.false_and, if_true, if_false, Bool.false_eq_true, reduceIte]
    refine V_iload_n C dX8_childIs_6 rfl ?_
    refine V_tableIn C dX8_childIs_7 (tgt := 84) (by decide) (by decide) rfl (by decide) ?_
    refine V_aload_n C dX8_childIs_84 rfl (by first | exact isR_r _ | exact isR_q _ | exact isR_n) ?_
    refine V_getS C 0 8 rfl cf_0 fl_X8_177 (by decide) (by decide) dX8_childIs_85 kc rc_8 ?_
    refine V_getIe C 1 2 rfl cf_1 fl_X8_227 (by decide) (by decide) dX8_childIs_88 kf if_102 ?_
    refine V_iret C (by first | omega | decide) (by first | omega | decide) dX8_childIs_91 ?_
    exact ⟨rfl, rfl⟩
  · rw [show mIs σ k (nI 4) = σ.1 15 k from rfl]
    refine V_aload_n C dX8_childIs_0 rfl (by first | exact isR_r _ | exact isR_q _ | exact isR_n) ?_
    refine V_iload_n C dX8_childIs_1 rfl ?_
    refine V_fV C (c_X8_childAt _ hl G S ad σ hC hI.2.1.2 k hk) kv_X8_90 cf_8 (by decide) rfl kx (by decide) (by decide) rfl rfl (Nat.le_of_ble_eq_true rfl) dX8_childIs_2 ?_
    dsimp only [Option.toList_some, Option.toList_none, List.cons_append, List.nil_append]
    refine V_astore_n C dX8_childIs_5 (by decide) (by first | exact isR_r _ | exact isR_q _ | exact isR_n) rfl ?_
    simp only [lset1, lset2, List.filter_cons, List.filter_nil, Nat.reduceBEq, Nat.reduceAdd, Bool.not_true, Bool.not_false, Bool.and_true, Bool.and_false, Bool.true_and, Bool.false_and, if_true, if_false, Bool.false_eq_true, reduceIte]
    refine V_iload_n C dX8_childIs_6 rfl ?_
    refine V_tableIn C dX8_childIs_7 (tgt := 92) (by decide) (by decide) rfl (by decide) ?_
    refine V_aload_n C dX8_childIs_92 rfl (by first | exact isR_r _ | exact isR_q _ | exact isR_n) ?_
    refine V_getS C 0 8 rfl cf_0 fl_X8_177 (by decide) (by decide) dX8_childIs_93 kc rc_8 ?_
    refine V_getIe C 1 3 rfl cf_1 fl_X8_230 (by decide) (by decide) dX8_childIs_96 kf if_103 ?_
    refine V_iret C (by first | omega | decide) (by first | omega | decide) dX8_childIs_99 ?_
    exact ⟨rfl, rfl⟩
  · rw [show mIs σ k (nI 5) = if σ.1 18 k = 0 then 0 else 1 from rfl]
    refine V_aload_n C dX8_childIs_0 rfl (by first | exact isR_r _ | exact isR_q _ | exact isR_n) ?_
    refine V_iload_n C dX8_childIs_1 rfl ?_
    refine V_fV C (c_X8_childAt _ hl G S ad σ hC hI.2.1.2 k hk) kv_X8_90 cf_8 (by decide) rfl kx (by decide) (by decide) rfl rfl (Nat.le_of_ble_eq_true rfl) dX8_childIs_2 ?_
    dsimp only [Option.toList_some, Option.toList_none, List.cons_append, List.nil_append]
    refine V_astore_n C dX8_childIs_5 (by decide) (by first | exact isR_r _ | exact isR_q _ | exact isR_n) rfl ?_
    simp only [lset1, lset2, List.filter_cons, List.filter_nil, Nat.reduceBEq, Nat.reduceAdd, Bool.not_true, Bool.not_false, Bool.and_true, Bool.and_false, Bool.true_and, Bool.false_and, if_true, if_false, Bool.false_eq_true, reduceIte]
    refine V_iload_n C dX8_childIs_6 rfl ?_
    refine V_tableIn C dX8_childIs_7 (tgt := 100) (by decide) (by decide) rfl (by decide) ?_
    refine V_aload_n C dX8_childIs_100 rfl (by first | exact isR_r _ | exact isR_q _ | exact isR_n) ?_
    refine V_getS C 0 8 rfl cf_0 fl_X8_177 (by decide) (by decide) dX8_childIs_101 kc rc_8 ?_
    refine V_getIe C 1 6 rfl cf_1 fl_X8_233 (by decide) (by decide) dX8_childIs_104 kf if_106 ?_
    refine V_if_eq C (tgt := 114) dX8_childIs_107 (by decide) (fun h107 => ?_) (fun h107 => ?_)
    · refine V_iconst C (v := 0) dX8_childIs_114 (by decide) ?_
      refine V_iret C (by first | omega | decide) (by first | omega | decide) dX8_childIs_115 ?_
      first | (rw [if_pos h107]; exact ⟨rfl, rfl⟩) | (rw [if_neg h107]; exact ⟨rfl, rfl⟩)
    · refine V_iconst C (v := 1) dX8_childIs_110 (by decide) ?_
      refine V_goto C (tgt := 115) dX8_childIs_111 (by decide) ?_
      refine V_iret C (by first | omega | decide) (by first | omega | decide) dX8_childIs_115 ?_
      first | (rw [if_pos h107]; exact ⟨rfl, rfl⟩) | (rw [if_neg h107]; exact ⟨rfl, rfl⟩)
  · rw [show mIs σ k (nI 6) = σ.1 8 k from rfl]
    refine V_aload_n C dX8_childIs_0 rfl (by first | exact isR_r _ | exact isR_q _ | exact isR_n) ?_
    refine V_iload_n C dX8_childIs_1 rfl ?_
    refine V_fV C (c_X8_childAt _ hl G S ad σ hC hI.2.1.2 k hk) kv_X8_90 cf_8 (by decide) rfl kx (by decide) (by decide) rfl rfl (Nat.le_of_ble_eq_true rfl) dX8_childIs_2 ?_
    dsimp only [Option.toList_some, Option.toList_none, List.cons_append, List.nil_append]
    refine V_astore_n C dX8_childIs_5 (by decide) (by first | exact isR_r _ | exact isR_q _ | exact isR_n) rfl ?_
    simp only [lset1, lset2, List.filter_cons, List.filter_nil, Nat.reduceBEq, Nat.reduceAdd, Bool.not_true, Bool.not_false, Bool.and_true, Bool.and_false, Bool.true_and, Bool.false_and, if_true, if_false, Bool.false_eq_true, reduceIte]
    refine V_iload_n C dX8_childIs_6 rfl ?_
    refine V_tableIn C dX8_childIs_7 (tgt := 116) (by decide) (by decide) rfl (by decide) ?_
    refine V_aload_n C dX8_childIs_116 rfl (by first | exact isR_r _ | exact isR_q _ | exact isR_n) ?_
    refine V_getIe C 0 9 rfl cf_0 fl_X8_207 (by decide) (by decide) dX8_childIs_117 kc ic_9 ?_
    refine V_iret C (by first | omega | decide) (by first | omega | decide) dX8_childIs_120 ?_
    exact ⟨rfl, rfl⟩
theorem c_X8_childIsX (l : Launch) (hl : l.stackTraces = false) (G : gG) (S : sS) (ad : Nat → Nat → Nat) (σ : aS) (hC : RelC S ad σ) (hI : IC σ) (x w : Int32) (hx : ¬ ∃ k, k < cN σ 1 ∧ x = nI k) : CtX l G yX8_childIs cX8_childIs 4 (Option.some FieldType.int) 7 2 12 [.ref (ad 8 0), .int x, .int w] S "java/lang/IndexOutOfBoundsException" := by
  refine Ct_of (by decide) (cat1_all (by repeat first | exact trivial | refine ⟨by first | rfl | exact isR_c (isR_q _), ?_⟩)) (Nat.le_of_ble_eq_true rfl) hl fun X C hXl hin => ?_
  subst hXl
  dsimp only [lArgs, Nat.reduceAdd]
  have kx : sK S (ad 8 0) = 9 := RelC_K hC 8 (by decide) rfl
  refine V_aload_n C dX8_childIs_0 rfl (by first | exact isR_r _ | exact isR_q _ | exact isR_n) ?_
  refine V_iload_n C dX8_childIs_1 rfl ?_
  refine V_xV C (c_X8_childAtX _ hl G S ad σ hC hI.2.1.2 x hx) kv_X8_90 cf_8 (by decide) rfl kx (by decide) (by decide) rfl rfl (Nat.le_of_ble_eq_true rfl) dX8_childIs_2 (by first | omega | decide) (by first | omega | decide) ?_
  exact ⟨rfl, rfl⟩
theorem c_X8_childIsY (l : Launch) (hl : l.stackTraces = false) (G : gG) (S : sS) (ad : Nat → Nat → Nat) (σ : aS) (hC : RelC S ad σ) (hI : IC σ) (k : Nat) (hk : k < cN σ 1) (w : Int32) (hw : ¬ (0 ≤ w ∧ w ≤ 6)) : CtX l G yX8_childIs cX8_childIs 4 (Option.some FieldType.int) 7 2 12 [.ref (ad 8 0), .int (nI k), .int w] S "java/lang/IllegalArgumentException" := by
  refine Ct_of (by decide) (cat1_all (by repeat first | exact trivial | refine ⟨by first | rfl | exact isR_c (isR_q _), ?_⟩)) (Nat.le_of_ble_eq_true rfl) hl fun X C hXl hin => ?_
  subst hXl
  dsimp only [lArgs, Nat.reduceAdd]
  have kx : sK S (ad 8 0) = 9 := RelC_K hC 8 (by decide) rfl
  have h9 : w.toInt < 0 ∨ 6 < w.toInt := by
    rw [Int32.le_iff_toInt_le, Int32.le_iff_toInt_le, show (0 : Int32).toInt = 0 from rfl, show (6 : Int32).toInt = 6 from rfl] at hw
    omega
  refine V_aload_n C dX8_childIs_0 rfl (by first | exact isR_r _ | exact isR_q _ | exact isR_n) ?_
  refine V_iload_n C dX8_childIs_1 rfl ?_
  refine V_fV C (c_X8_childAt _ hl G S ad σ hC hI.2.1.2 k hk) kv_X8_90 cf_8 (by decide) rfl kx (by decide) (by decide) rfl rfl (Nat.le_of_ble_eq_true rfl) dX8_childIs_2 ?_
  dsimp only [Option.toList_some, Option.toList_none, List.cons_append, List.nil_append]
  refine V_astore_n C dX8_childIs_5 (by decide) (by first | exact isR_r _ | exact isR_q _ | exact isR_n) rfl ?_
  simp only [lset1, lset2, List.filter_cons, List.filter_nil, Nat.reduceBEq, Nat.reduceAdd, Bool.not_true, Bool.not_false, Bool.and_true, Bool.and_false, Bool.true_and, Bool.false_and, if_true, if_false, Bool.false_eq_true, reduceIte]
  refine V_iload_n C dX8_childIs_6 rfl ?_
  refine V_tableOut C dX8_childIs_7 (tgt := 121) h9 (by decide) ?_
  refine V_throwS C tw_X8_236_238_240 dX8_childIs_121 dX8_childIs_124 dX8_childIs_125 dX8_childIs_127 dX8_childIs_130 (by decide) (by first | omega | decide) (by first | omega | decide) ?_
  exact ⟨rfl, rfl⟩

