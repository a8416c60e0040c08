/-! THE CLASS: loads; what bars a placing. -/
theorem c_X8_loadOf (l : Launch) (hl : l.stackTraces = false) (G : gG) (S : sS) (ad : Nat → Nat → Nat) (σ : aS) (hC : RelC S ad σ) (hI : IC σ) (hN : IN σ) (w : Int32) : CtF l G yX8_loadOf cX8_loadOf 7 (Option.some FieldType.int) 2 0 0 [.ref (ad 8 0), .int w] S (some (.int (mLoad σ w))) S := by
  refine Ct_of (by decide) (cat1_all (by repeat first | exact trivial | refine ⟨by first | rfl | exact isR_c (isR_q _), ?_⟩)) (Nat.le_of_ble_eq_true rfl) hl fun X C hXl hin => ?_
  subst hXl
  dsimp only [lArgs, Nat.reduceAdd]
  have kx : sK S (ad 8 0) = 9 := RelC_K hC 8 (by decide) rfl
  have rx_800 : sR S 800 (ad 8 0) = some (ad 15 0) := RelC_R hC 8 800 rfl (by unfold cFd; omega) rfl rfl
  have kq : sK S (ad 15 0) = 104 := hC.1 15 0 (by decide) (by decide) (by decide) rfl
  have lq : sL S (ad 15 0) = 16 := hC.2.2.2.2.1 15 0 (by decide) (by decide) rfl
  have aq := hC.2.2.2.2.2.2.1
  obtain ⟨n, hn⟩ : ∃ n, n = cN σ 1 := ⟨_, rfl⟩
  have hn16 : n ≤ 16 := by rw [hn]; exact hI.2.1.2
  rw [← hn] at aq
  have loop : ∀ (t i : Nat), i + t = 16 → V X G 7 (eQ X G (fun v T => v = some (.int (mLoad σ w)) ∧ T = S) (fun _ _ => False) 0 0) 0 0 14 [(5, false, .int (nI i)), (4, false, .int (nI 16)), (3, false, .ref (ad 15 0)), (2, false, .int (fsum (mLoadT σ w) (min i n))), (0, false, .ref (ad 8 0)), (1, false, .int w)] [] S := by
    intro t
    induction t with
    | zero =>
      intro i hi
      obtain rfl : i = 16 := by omega
      rw [Nat.min_eq_right hn16]
      refine V_iload C dX8_loadOf_14 rfl ?_
      refine V_iload C dX8_loadOf_16 rfl ?_
      refine V_igeN C (tgt := 74) (by omega) (by omega) dX8_loadOf_18 (by decide) (fun h18 => ?_) (fun h18 => ?_)
      · refine V_iload_n C dX8_loadOf_74 rfl ?_
        refine V_iret C (by first | omega | decide) (by first | omega | decide) dX8_loadOf_75 ?_
        rw [hn]
        exact ⟨rfl, rfl⟩
      · omega
    | succ t ih =>
      intro i hi
      have hi16 : i < 16 := by omega
      by_cases hin9 : i < n
      · have e := (aq i hi16).trans (if_pos hin9)
        have hk : i < cN σ 1 := hn ▸ hin9
        have kc : sK S (ad 0 i) = 1 := RelC_K hC 0 (by decide) hk
        have ic_2 : sI S 2 (ad 0 i) = σ.1 4 i := RelC_I hC 0 2 rfl (by unfold cFd; omega) rfl hk
        have ic_9 : sI S 9 (ad 0 i) = σ.1 8 i := RelC_I hC 0 9 rfl (by unfold cFd; omega) rfl hk
        have rc_11 : sR S 11 (ad 0 i) = (if σ.1 10 i = -1 then none else some (ad 6 (nx (σ.1 10 i)))) := RelC_R hC 0 11 rfl (by unfold cFd; omega) rfl hk
        have S9 : fsum (mLoadT σ w) (min (i + 1) n) = fsum (mLoadT σ w) (min i n) + mLoadT σ w i := by
          rw [Nat.min_eq_left (by omega : i + 1 ≤ n), Nat.min_eq_left (by omega : i ≤ n)]
          rfl
        have S0 : ¬ σ.1 8 i = w → fsum (mLoadT σ w) (min (i + 1) n) = fsum (mLoadT σ w) (min i n) := fun q => by
          rw [S9, mLoadT, if_neg q, Int32.add_zero]
        have S1 : ∀ b : Int32, (if σ.1 10 i = -1 then (0 : Int32) else 3) = b → σ.1 8 i = w → fsum (mLoadT σ w) (min (i + 1) n) = fsum (mLoadT σ w) (min i n) + (2 + b + bcF (σ.1 4 i)) := fun b hb q => by
          rw [S9, mLoadT, if_pos q, hb, bc_ones (hN i hk), Int32.add_assoc 2 b, Int32.add_comm b, ← Int32.add_assoc 2]
        by_cases e10 : σ.1 10 i = -1
        · rw [if_pos e10] at rc_11
          refine V_iload C dX8_loadOf_14 rfl ?_
          refine V_iload C dX8_loadOf_16 rfl ?_
          refine V_igeN C (tgt := 74) (by omega) (by omega) dX8_loadOf_18 (by decide) (fun h18 => ?_) (fun h18 => ?_)
          · omega
          · refine V_aload_n C dX8_loadOf_21 rfl (by first | exact isR_r _ | exact isR_q _ | exact isR_n) ?_
            refine V_iload C dX8_loadOf_22 rfl ?_
            refine V_aaldE C 4 (by decide) kq (by decide) lq rfl hi16 (by decide) dX8_loadOf_24 ?_
            rw [e]
            refine V_astore C dX8_loadOf_25 (by decide) (by first | exact isR_r _ | exact isR_q _ | exact isR_n) rfl ?_
            simp only [lset1, lset2, List.filter_cons, List.filter_nil, Nat.reduceBEq, Nat.reduceAdd, Bool.not_true, Bool.not_false, Bool.and_true, Bool.and_false, Bool.true_and, Bool.false_and, if_true, if_false, Bool.false_eq_true, reduceIte]
            refine V_aload C dX8_loadOf_27 rfl (by first | exact isR_r _ | exact isR_q _ | exact isR_n) ?_
            dsimp only
            refine V_ifnull C (tgt := 68) dX8_loadOf_29 (by decide) (fun h29 => ?_) (fun a29 h29 => ?_)
            · cases h29
            · cases h29
              refine V_aload C dX8_loadOf_32 rfl (by first | exact isR_r _ | exact isR_q _ | exact isR_n) ?_
              refine V_getIe C 0 9 rfl cf_0 fl_X8_207 (by decide) (by decide) dX8_loadOf_34 (by assumption) (by assumption) ?_
              refine V_iload_n C dX8_loadOf_37 rfl ?_
              refine V_icmp_ne C (tgt := 68) dX8_loadOf_38 (by decide) (fun h38 => ?_) (fun h38 => ?_)
              · have T0 := S0 h38
                refine V_incN C dX8_loadOf_68 rfl (by decide) rfl ?_
                simp only [lset1, lset2, List.filter_cons, List.filter_nil, Nat.reduceBEq, Nat.reduceAdd, Bool.not_true, Bool.not_false, Bool.and_true, Bool.and_false, Bool.true_and, Bool.false_and, if_true, if_false, Bool.false_eq_true, reduceIte]
                refine V_goto C (tgt := 14) dX8_loadOf_71 (by decide) ?_
                refine V_sub ?_ (ih (i + 1) (by omega))
                rw [T0]
                exact ⟨rfl, rfl, rfl, rfl, rfl, rfl, trivial⟩
              · have T0 := S1 0 (if_pos e10) h38
                refine V_iload_n C dX8_loadOf_41 rfl ?_
                refine V_iconst C (v := 2) dX8_loadOf_42 (by decide) ?_
                refine V_aload C dX8_loadOf_43 rfl (by first | exact isR_r _ | exact isR_q _ | exact isR_n) ?_
                refine V_getRe C 0 11 rfl cf_0 fl_X8_186 (by decide) (by decide) dX8_loadOf_45 (by assumption) (by assumption) ?_
                refine V_ifnull C (tgt := 55) dX8_loadOf_48 (by decide) (fun h48 => ?_) (fun a48 h48 => ?_)
                · refine V_iconst C (v := 0) dX8_loadOf_55 (by decide) ?_
                  refine V_iadd C dX8_loadOf_56 ?_
                  refine V_aload C dX8_loadOf_57 rfl (by first | exact isR_r _ | exact isR_q _ | exact isR_n) ?_
                  refine V_getIe C 0 2 rfl cf_0 fl_X8_302 (by decide) (by decide) dX8_loadOf_59 (by assumption) (by assumption) ?_
                  refine V_fS C (c_J6_bitCount _ hl G S _) ks_X8_375 (by decide) (by decide) rfl rfl (Nat.le_of_ble_eq_true rfl) dX8_loadOf_62 ?_
                  dsimp only [Option.toList_some, Option.toList_none, List.cons_append, List.nil_append]
                  refine V_iadd C dX8_loadOf_65 ?_
                  refine V_iadd C dX8_loadOf_66 ?_
                  refine V_istore_n C dX8_loadOf_67 (by decide) rfl ?_
                  simp only [lset1, lset2, List.filter_cons, List.filter_nil, Nat.reduceBEq, Nat.reduceAdd, Bool.not_true, Bool.not_false, Bool.and_true, Bool.and_false, Bool.true_and, Bool.false_and, if_true, if_false, Bool.false_eq_true, reduceIte]
                  refine V_incN C dX8_loadOf_68 rfl (by decide) rfl ?_
                  simp only [lset1, lset2, List.filter_cons, List.filter_nil, Nat.reduceBEq, Nat.reduceAdd, Bool.not_true, Bool.not_false, Bool.and_true, Bool.and_false, Bool.true_and, Bool.false_and, if_true, if_false, Bool.false_eq_true, reduceIte]
                  refine V_goto C (tgt := 14) dX8_loadOf_71 (by decide) ?_
                  refine V_sub ?_ (ih (i + 1) (by omega))
                  rw [T0]
                  exact ⟨rfl, rfl, rfl, rfl, rfl, rfl, trivial⟩
                · cases h48
        · rw [if_neg e10] at rc_11
          refine V_iload C dX8_loadOf_14 rfl ?_
          refine V_iload C dX8_loadOf_16 rfl ?_
          refine V_igeN C (tgt := 74) (by omega) (by omega) dX8_loadOf_18 (by decide) (fun h18 => ?_) (fun h18 => ?_)
          · omega
          · refine V_aload_n C dX8_loadOf_21 rfl (by first | exact isR_r _ | exact isR_q _ | exact isR_n) ?_
            refine V_iload C dX8_loadOf_22 rfl ?_
            refine V_aaldE C 4 (by decide) kq (by decide) lq rfl hi16 (by decide) dX8_loadOf_24 ?_
            rw [e]
            refine V_astore C dX8_loadOf_25 (by decide) (by first | exact isR_r _ | exact isR_q _ | exact isR_n) rfl ?_
            simp only [lset1, lset2, List.filter_cons, List.filter_nil, Nat.reduceBEq, Nat.reduceAdd, Bool.not_true, Bool.not_false, Bool.and_true, Bool.and_false, Bool.true_and, Bool.false_and, if_true, if_false, Bool.false_eq_true, reduceIte]
            refine V_aload C dX8_loadOf_27 rfl (by first | exact isR_r _ | exact isR_q _ | exact isR_n) ?_
            dsimp only
            refine V_ifnull C (tgt := 68) dX8_loadOf_29 (by decide) (fun h29 => ?_) (fun a29 h29 => ?_)
            · cases h29
            · cases h29
              refine V_aload C dX8_loadOf_32 rfl (by first | exact isR_r _ | exact isR_q _ | exact isR_n) ?_
              refine V_getIe C 0 9 rfl cf_0 fl_X8_207 (by decide) (by decide) dX8_loadOf_34 (by assumption) (by assumption) ?_
              refine V_iload_n C dX8_loadOf_37 rfl ?_
              refine V_icmp_ne C (tgt := 68) dX8_loadOf_38 (by decide) (fun h38 => ?_) (fun h38 => ?_)
              · have T0 := S0 h38
                refine V_incN C dX8_loadOf_68 rfl (by decide) rfl ?_
                simp only [lset1, lset2, List.filter_cons, List.filter_nil, Nat.reduceBEq, Nat.reduceAdd, Bool.not_true, Bool.not_false, Bool.and_true, Bool.and_false, Bool.true_and, Bool.false_and, if_true, if_false, Bool.false_eq_true, reduceIte]
                refine V_goto C (tgt := 14) dX8_loadOf_71 (by decide) ?_
                refine V_sub ?_ (ih (i + 1) (by omega))
                rw [T0]
                exact ⟨rfl, rfl, rfl, rfl, rfl, rfl, trivial⟩
              · have T0 := S1 3 (if_neg e10) h38
                refine V_iload_n C dX8_loadOf_41 rfl ?_
                refine V_iconst C (v := 2) dX8_loadOf_42 (by decide) ?_
                refine V_aload C dX8_loadOf_43 rfl (by first | exact isR_r _ | exact isR_q _ | exact isR_n) ?_
                refine V_getRe C 0 11 rfl cf_0 fl_X8_186 (by decide) (by decide) dX8_loadOf_45 (by assumption) (by assumption) ?_
                refine V_ifnull C (tgt := 55) dX8_loadOf_48 (by decide) (fun h48 => ?_) (fun a48 h48 => ?_)
                · cases h48
                · refine V_iconst C (v := 3) dX8_loadOf_51 (by decide) ?_
                  refine V_goto C (tgt := 56) dX8_loadOf_52 (by decide) ?_
                  refine V_iadd C dX8_loadOf_56 ?_
                  refine V_aload C dX8_loadOf_57 rfl (by first | exact isR_r _ | exact isR_q _ | exact isR_n) ?_
                  refine V_getIe C 0 2 rfl cf_0 fl_X8_302 (by decide) (by decide) dX8_loadOf_59 (by assumption) (by assumption) ?_
                  refine V_fS C (c_J6_bitCount _ hl G S _) ks_X8_375 (by decide) (by decide) rfl rfl (Nat.le_of_ble_eq_true rfl) dX8_loadOf_62 ?_
                  dsimp only [Option.toList_some, Option.toList_none, List.cons_append, List.nil_append]
                  refine V_iadd C dX8_loadOf_65 ?_
                  refine V_iadd C dX8_loadOf_66 ?_
                  refine V_istore_n C dX8_loadOf_67 (by decide) rfl ?_
                  simp only [lset1, lset2, List.filter_cons, List.filter_nil, Nat.reduceBEq, Nat.reduceAdd, Bool.not_true, Bool.not_false, Bool.and_true, Bool.and_false, Bool.true_and, Bool.false_and, if_true, if_false, Bool.false_eq_true, reduceIte]
                  refine V_incN C dX8_loadOf_68 rfl (by decide) rfl ?_
                  simp only [lset1, lset2, List.filter_cons, List.filter_nil, Nat.reduceBEq, Nat.reduceAdd, Bool.not_true, Bool.not_false, Bool.and_true, Bool.and_false, Bool.true_and, Bool.false_and, if_true, if_false, Bool.false_eq_true, reduceIte]
                  refine V_goto C (tgt := 14) dX8_loadOf_71 (by decide) ?_
                  refine V_sub ?_ (ih (i + 1) (by omega))
                  rw [T0]
                  exact ⟨rfl, rfl, rfl, rfl, rfl, rfl, trivial⟩
      · have e := (aq i hi16).trans (if_neg hin9)
        have T0 : min (i + 1) n = min i n := by omega
        refine V_iload C dX8_loadOf_14 rfl ?_
        refine V_iload C dX8_loadOf_16 rfl ?_
        refine V_igeN C (tgt := 74) (by omega) (by omega) dX8_loadOf_18 (by decide) (fun h18 => ?_) (fun h18 => ?_)
        · omega
        · refine V_aload_n C dX8_loadOf_21 rfl (by first | exact isR_r _ | exact isR_q _ | exact isR_n) ?_
          refine V_iload C dX8_loadOf_22 rfl ?_
          refine V_aaldE C 4 (by decide) kq (by decide) lq rfl hi16 (by decide) dX8_loadOf_24 ?_
          rw [e]
          refine V_astore C dX8_loadOf_25 (by decide) (by first | exact isR_r _ | exact isR_q _ | exact isR_n) rfl ?_
          simp only [lset1, lset2, List.filter_cons, List.filter_nil, Nat.reduceBEq, Nat.reduceAdd, Bool.not_true, Bool.not_false, Bool.and_true, Bool.and_false, Bool.true_and, Bool.false_and, if_true, if_false, Bool.false_eq_true, reduceIte]
          refine V_aload C dX8_loadOf_27 rfl (by first | exact isR_r _ | exact isR_q _ | exact isR_n) ?_
          dsimp only
          refine V_ifnull C (tgt := 68) dX8_loadOf_29 (by decide) (fun h29 => ?_) (fun a29 h29 => ?_)
          · refine V_incN C dX8_loadOf_68 rfl (by decide) rfl ?_
            simp only [lset1, lset2, List.filter_cons, List.filter_nil, Nat.reduceBEq, Nat.reduceAdd, Bool.not_true, Bool.not_false, Bool.and_true, Bool.and_false, Bool.true_and, Bool.false_and, if_true, if_false, Bool.false_eq_true, reduceIte]
            refine V_goto C (tgt := 14) dX8_loadOf_71 (by decide) ?_
            refine V_sub ?_ (ih (i + 1) (by omega))
            rw [T0]
            exact ⟨rfl, rfl, rfl, rfl, rfl, rfl, trivial⟩
          · cases h29
  refine V_iconst C (v := 0) dX8_loadOf_0 (by decide) ?_
  refine V_istore_n C dX8_loadOf_1 (by decide) rfl ?_
  simp only [lset1, lset2, List.filter_cons, List.filter_nil, Nat.reduceBEq, Nat.reduceAdd, Bool.not_true, Bool.not_false, Bool.and_true, Bool.and_false, Bool.true_and, Bool.false_and, if_true, if_false, Bool.false_eq_true, reduceIte]
  refine V_aload_n C dX8_loadOf_2 rfl (by first | exact isR_r _ | exact isR_q _ | exact isR_n) ?_
  refine V_getS C 8 0 rfl cf_8 fl_X8_11 (by decide) (by decide) dX8_loadOf_3 (by assumption) (by assumption) ?_
  refine V_astore_n C dX8_loadOf_6 (by decide) (by first | exact isR_r _ | exact isR_q _ | exact isR_n) rfl ?_
  simp only [lset1, lset2, List.filter_cons, List.filter_nil, Nat.reduceBEq, Nat.reduceAdd, Bool.not_true, Bool.not_false, Bool.and_true, Bool.and_false, Bool.true_and, Bool.false_and, if_true, if_false, Bool.false_eq_true, reduceIte]
  refine V_aload_n C dX8_loadOf_7 rfl (by first | exact isR_r _ | exact isR_q _ | exact isR_n) ?_
  refine V_alen C (v := nI 16) (by assumption) (by decide) (by rw [lq]; rfl) dX8_loadOf_8 ?_
  refine V_istore C dX8_loadOf_9 (by decide) rfl ?_
  simp only [lset1, lset2, List.filter_cons, List.filter_nil, Nat.reduceBEq, Nat.reduceAdd, Bool.not_true, Bool.not_false, Bool.and_true, Bool.and_false, Bool.true_and, Bool.false_and, if_true, if_false, Bool.false_eq_true, reduceIte]
  refine V_iconst C (v := 0) dX8_loadOf_11 (by decide) ?_
  refine V_istore C dX8_loadOf_12 (by decide) rfl ?_
  simp only [lset1, lset2, List.filter_cons, List.filter_nil, Nat.reduceBEq, Nat.reduceAdd, Bool.not_true, Bool.not_false, Bool.and_true, Bool.and_false, Bool.true_and, Bool.false_and, if_true, if_false, Bool.false_eq_true, reduceIte]
  refine V_sub ?_ (loop 16 0 (by omega))
  rw [Nat.zero_min]
  exact ⟨rfl, rfl, rfl, rfl, rfl, rfl, trivial⟩
theorem c_X8_leastLoadedWorker (l : Launch) (hl : l.stackTraces = false) (G : gG) (S : sS) (ad : Nat → Nat → Nat) (σ : aS) (hC : RelC S ad σ) (hI : IC σ) (hN : IN σ) : CtF l G yX8_leastLoadedWorker cX8_leastLoadedWorker 5 (Option.some FieldType.int) 3 0 0 [.ref (ad 8 0)] S (some (.int (mLeast σ))) S := by
  refine Ct_of (by decide) (cat1_all (by repeat first | exact trivial | refine ⟨by first | rfl | exact isR_c (isR_q _), ?_⟩)) (Nat.le_of_ble_eq_true rfl) hl fun X C hXl hin => ?_
  subst hXl
  dsimp only [lArgs, Nat.reduceAdd]
  have kx : sK S (ad 8 0) = 9 := RelC_K hC 8 (by decide) rfl
  have loop : ∀ (t j : Nat), j + t = 4 → V X G 5 (eQ X G (fun v T => v = some (.int (mLeast σ)) ∧ T = S) (fun _ _ => False) 0 0) 0 0 10 [(3, false, .int (nI (j + 1))), (2, false, .int (mLoad σ (mLeastF σ j))), (1, false, .int (mLeastF σ j)), (0, false, .ref (ad 8 0))] [] S := by
    intro t
    induction t with
    | zero =>
      intro j hj
      obtain rfl : j = 4 := by omega
      refine V_iload_n C dX8_leastLoadedWorker_10 rfl ?_
      refine V_iconst C (v := 5) dX8_leastLoadedWorker_11 (by decide) ?_
      rw [show (5 : Int32) = nI 5 from rfl]
      refine V_igeN C (tgt := 39) (by omega) (by omega) dX8_leastLoadedWorker_12 (by decide) (fun h12 => ?_) (fun h12 => ?_)
      · refine V_iload_n C dX8_leastLoadedWorker_39 rfl ?_
        refine V_iret C (by first | omega | decide) (by first | omega | decide) dX8_leastLoadedWorker_40 ?_
        exact ⟨rfl, rfl⟩
      · omega
    | succ t ih =>
      intro j hj
      refine V_iload_n C dX8_leastLoadedWorker_10 rfl ?_
      refine V_iconst C (v := 5) dX8_leastLoadedWorker_11 (by decide) ?_
      rw [show (5 : Int32) = nI 5 from rfl]
      refine V_igeN C (tgt := 39) (by omega) (by omega) dX8_leastLoadedWorker_12 (by decide) (fun h12 => ?_) (fun h12 => ?_)
      · omega
      · refine V_aload_n C dX8_leastLoadedWorker_15 rfl (by first | exact isR_r _ | exact isR_q _ | exact isR_n) ?_
        refine V_iload_n C dX8_leastLoadedWorker_16 rfl ?_
        refine V_fV C (c_X8_loadOf _ hl G S ad σ hC hI hN _) kv_X8_210 cf_8 (by decide) rfl (by assumption) (by decide) (by decide) rfl rfl (Nat.le_of_ble_eq_true rfl) dX8_leastLoadedWorker_17 ?_
        dsimp only [Option.toList_some, Option.toList_none, List.cons_append, List.nil_append]
        refine V_istore C dX8_leastLoadedWorker_20 (by decide) rfl ?_
        simp only [lset1, lset2, List.filter_cons, List.filter_nil, Nat.reduceBEq, Nat.reduceAdd, Bool.not_true, Bool.not_false, Bool.and_true, Bool.and_false, Bool.true_and, Bool.false_and, if_true, if_false, Bool.false_eq_true, reduceIte]
        refine V_iload C dX8_leastLoadedWorker_22 rfl ?_
        refine V_iload_n C dX8_leastLoadedWorker_24 rfl ?_
        refine V_icmp_ge C (tgt := 33) dX8_leastLoadedWorker_25 (by decide) (fun h25 => ?_) (fun h25 => ?_)
        · have T0 : mLeastF σ (j + 1) = mLeastF σ j := if_neg (Int32.not_lt.mpr h25)
          refine V_incN C dX8_leastLoadedWorker_33 rfl (by decide) rfl ?_
          simp only [lset1, lset2, List.filter_cons, List.filter_nil, Nat.reduceBEq, Nat.reduceAdd, Bool.not_true, Bool.not_false, Bool.and_true, Bool.and_false, Bool.true_and, Bool.false_and, if_true, if_false, Bool.false_eq_true, reduceIte]
          refine V_goto C (tgt := 10) dX8_leastLoadedWorker_36 (by decide) ?_
          refine V_sub ?_ (ih (j + 1) (by omega))
          rw [T0]
          exact ⟨rfl, rfl, rfl, rfl, trivial⟩
        · have T0 : mLeastF σ (j + 1) = nI (j + 1) := if_pos (Int32.not_le.mp h25)
          refine V_iload_n C dX8_leastLoadedWorker_28 rfl ?_
          refine V_istore_n C dX8_leastLoadedWorker_29 (by decide) rfl ?_
          simp only [lset1, lset2, List.filter_cons, List.filter_nil, Nat.reduceBEq, Nat.reduceAdd, Bool.not_true, Bool.not_false, Bool.and_true, Bool.and_false, Bool.true_and, Bool.false_and, if_true, if_false, Bool.false_eq_true, reduceIte]
          refine V_iload C dX8_leastLoadedWorker_30 rfl ?_
          refine V_istore_n C dX8_leastLoadedWorker_32 (by decide) rfl ?_
          simp only [lset1, lset2, List.filter_cons, List.filter_nil, Nat.reduceBEq, Nat.reduceAdd, Bool.not_true, Bool.not_false, Bool.and_true, Bool.and_false, Bool.true_and, Bool.false_and, if_true, if_false, Bool.false_eq_true, reduceIte]
          refine V_incN C dX8_leastLoadedWorker_33 rfl (by decide) rfl ?_
          simp only [lset1, lset2, List.filter_cons, List.filter_nil, Nat.reduceBEq, Nat.reduceAdd, Bool.not_true, Bool.not_false, Bool.and_true, Bool.and_false, Bool.true_and, Bool.false_and, if_true, if_false, Bool.false_eq_true, reduceIte]
          refine V_goto C (tgt := 10) dX8_leastLoadedWorker_36 (by decide) ?_
          refine V_sub ?_ (ih (j + 1) (by omega))
          rw [T0]
          exact ⟨rfl, rfl, rfl, rfl, trivial⟩
  refine V_iconst C (v := 0) dX8_leastLoadedWorker_0 (by decide) ?_
  refine V_istore_n C dX8_leastLoadedWorker_1 (by decide) rfl ?_
  simp only [lset1, lset2, List.filter_cons, List.filter_nil, Nat.reduceBEq, Nat.reduceAdd, Bool.not_true, Bool.not_false, Bool.and_true, Bool.and_false, Bool.true_and, Bool.false_and, if_true, if_false, Bool.false_eq_true, reduceIte]
  refine V_aload_n C dX8_leastLoadedWorker_2 rfl (by first | exact isR_r _ | exact isR_q _ | exact isR_n) ?_
  refine V_iconst C (v := 0) dX8_leastLoadedWorker_3 (by decide) ?_
  refine V_fV C (c_X8_loadOf _ hl G S ad σ hC hI hN _) kv_X8_210 cf_8 (by decide) rfl (by assumption) (by decide) (by decide) rfl rfl (Nat.le_of_ble_eq_true rfl) dX8_leastLoadedWorker_4 ?_
  dsimp only [Option.toList_some, Option.toList_none, List.cons_append, List.nil_append]
  refine V_istore_n C dX8_leastLoadedWorker_7 (by decide) rfl ?_
  simp only [lset1, lset2, List.filter_cons, List.filter_nil, Nat.reduceBEq, Nat.reduceAdd, Bool.not_true, Bool.not_false, Bool.and_true, Bool.and_false, Bool.true_and, Bool.false_and, if_true, if_false, Bool.false_eq_true, reduceIte]
  refine V_iconst C (v := 1) dX8_leastLoadedWorker_8 (by decide) ?_
  refine V_istore_n C dX8_leastLoadedWorker_9 (by decide) rfl ?_
  simp only [lset1, lset2, List.filter_cons, List.filter_nil, Nat.reduceBEq, Nat.reduceAdd, Bool.not_true, Bool.not_false, Bool.and_true, Bool.and_false, Bool.true_and, Bool.false_and, if_true, if_false, Bool.false_eq_true, reduceIte]
  refine V_sub ?_ (loop 4 0 (by omega))
  exact ⟨rfl, rfl, rfl, rfl, trivial⟩
theorem c_X8_barOnDay (l : Launch) (hl : l.stackTraces = false) (G : gG) (S : sS) (ad : Nat → Nat → Nat) (σ : aS) (hC : RelC S ad σ) (hI : IC σ) (hO : IO σ) (k : Nat) (hk : k < cN σ 1) (hh : Nat) (hhk : hh < cN σ 20) (on : Int32) : CtF l G yX8_barOnDay cX8_barOnDay 4 (Option.some FieldType.int) 4 0 0 [.ref (ad 0 k), .ref (ad 2 hh), .int on] S (some (.int (mWhyOn σ k (nI hh) on))) S := by
  refine Ct_of (by decide) (cat1_all (by repeat first | exact trivial | refine ⟨by first | rfl | exact isR_c (isR_q _), ?_⟩)) (Nat.le_of_ble_eq_true rfl) hl fun X C hXl hin => ?_
  subst hXl
  dsimp only [lArgs, Nat.reduceAdd]
  have h27 : cN σ 27 ≤ 512 := hI.2.2.2.1.2
  have kc : sK S (ad 0 k) = 1 := RelC_K hC 0 (by decide) hk
  have ic_2 : sI S 2 (ad 0 k) = σ.1 4 k := RelC_I hC 0 2 rfl (by unfold cFd; omega) rfl hk
  have kh : sK S (ad 2 hh) = 3 := RelC_K hC 2 (by decide) hhk
  have rh_204 : sR S 204 (ad 2 hh) = (trmL σ (nI hh) (nI 0) (cN σ 27)).map (ad 7) := RelC_R hC 2 204 rfl (by unfold cFd; omega) rfl hhk
  have rh_204 : sR S 204 (ad 2 hh) = (trmL σ (nI hh) 0 (cN σ 27)).map (ad 7) := rh_204
  have eM := mTold_C (σ := σ) (h := nI hh) (s := 0) (on := on)
  have cc := c_X7_toldBy _ hl G S ad σ hC (nI hh) 0 on (cN σ 27) (Nat.le_refl _)
  have ck := c_X0_orderKindOn _ hl G S ad σ hC k hk hO hI.2.2.2.2.1.2 on
  cases q : trmC σ (nI hh) 0 on (cN σ 27) with
  | none =>
    rw [q] at eM
    rw [q, Option.map_none] at cc
    have W : mWhyOn σ k (nI hh) on = if ¬ mKindOn σ (nI k) on = 0 then 1 else 2 := by
      unfold mWhyOn
      rw [if_pos (Or.inl eM : mToldOn σ (nI hh) 0 on = -1 ∨ _)]
    refine V_aload_n C dX8_barOnDay_0 rfl (by first | exact isR_r _ | exact isR_q _ | exact isR_n) ?_
    refine V_iload_n C dX8_barOnDay_1 rfl ?_
    refine V_fV C (ck) kv_X8_285 cf_0 (by decide) rfl (by assumption) (by decide) (by decide) rfl rfl (Nat.le_of_ble_eq_true rfl) dX8_barOnDay_2 ?_
    dsimp only [Option.toList_some, Option.toList_none, List.cons_append, List.nil_append]
    refine V_if_eq C (tgt := 10) dX8_barOnDay_5 (by decide) (fun h5 => ?_) (fun h5 => ?_)
    · have T0 := W.trans (if_neg (fun q => q h5))
      refine V_aload_n C dX8_barOnDay_10 rfl (by first | exact isR_r _ | exact isR_q _ | exact isR_n) ?_
      refine V_getRe C 2 4 rfl cf_2 fl_X8_77 (by decide) (by decide) dX8_barOnDay_11 (by assumption) (by assumption) ?_
      refine V_iload_n C dX8_barOnDay_14 rfl ?_
      refine V_fS C (cc) ks_X8_288 (by decide) (by decide) rfl rfl (Nat.le_of_ble_eq_true rfl) dX8_barOnDay_15 ?_
      dsimp only [Option.toList_some, Option.toList_none, List.cons_append, List.nil_append]
      refine V_astore_n C dX8_barOnDay_18 (by decide) (by first | exact isR_r _ | exact isR_q _ | exact isR_n) rfl ?_
      simp only [lset1, lset2, List.filter_cons, List.filter_nil, Nat.reduceBEq, Nat.reduceAdd, Bool.not_true, Bool.not_false, Bool.and_true, Bool.and_false, Bool.true_and, Bool.false_and, if_true, if_false, Bool.false_eq_true, reduceIte]
      refine V_aload_n C dX8_barOnDay_19 rfl (by first | exact isR_r _ | exact isR_q _ | exact isR_n) ?_
      dsimp only
      refine V_ifnull C (tgt := 31) dX8_barOnDay_20 (by decide) (fun h20 => ?_) (fun a20 h20 => ?_)
      · refine V_iconst C (v := 2) dX8_barOnDay_31 (by decide) ?_
        refine V_iret C (by first | omega | decide) (by first | omega | decide) dX8_barOnDay_32 ?_
        rw [T0]
        exact ⟨rfl, rfl⟩
      · cases h20
    · have T0 := W.trans (if_pos h5)
      refine V_iconst C (v := 1) dX8_barOnDay_8 (by decide) ?_
      refine V_iret C (by first | omega | decide) (by first | omega | decide) dX8_barOnDay_9 ?_
      rw [T0]
      exact ⟨rfl, rfl⟩
  | some j =>
    rw [q] at eM
    rw [q, Option.map_some] at cc
    obtain ⟨hj, ⟨-, e29⟩, e30⟩ := trmC_s q
    have eM : mToldOn σ (nI hh) 0 on = nI j := eM
    have W : mWhyOn σ k (nI hh) on = if ¬ mKindOn σ (nI k) on = 0 then 1 else if nI j = -1 ∨ σ.1 33 j < on then 2 else if ¬ (σ.1 31 j ≤ mYears σ k on ∧ mYears σ k on ≤ σ.1 32 j) then 3 else if ¬ σ.1 4 k &&& (mCan σ (nI hh) on ^^^ (-1)) = 0 then 4 else if ¬ mToldOn σ (nI hh) 2 on = -1 ∧ (σ.1 31 (mToldOn σ (nI hh) 2 on).toNatClampNeg ≤ on ∧ on ≤ σ.1 33 (mToldOn σ (nI hh) 2 on).toNatClampNeg) then 5 else 0 := by
      unfold mWhyOn
      rw [eM, nI_clamp (by omega)]
    have ef : trmF σ j = σ.1 30 j := by
      unfold trmF
      rw [e29]
      exact if_neg (by decide)
    have c9 := c_X7_holdsOn _ hl G S ad σ hC j hj on
    rw [ef] at c9
    have ka : sK S (ad 7 j) = 8 := RelC_K hC 7 (by decide) hj
    have ia_704 : sI S 704 (ad 7 j) = (if σ.1 29 j = 0 then σ.1 31 j else 0) := RelC_I hC 7 704 rfl (by unfold cFd; omega) rfl hj
    have ia_705 : sI S 705 (ad 7 j) = (if σ.1 29 j = 0 then σ.1 32 j else 0) := RelC_I hC 7 705 rfl (by unfold cFd; omega) rfl hj
    rw [if_pos e29] at ia_704 ia_705
    refine V_aload_n C dX8_barOnDay_0 rfl (by first | exact isR_r _ | exact isR_q _ | exact isR_n) ?_
    refine V_iload_n C dX8_barOnDay_1 rfl ?_
    refine V_fV C (ck) kv_X8_285 cf_0 (by decide) rfl (by assumption) (by decide) (by decide) rfl rfl (Nat.le_of_ble_eq_true rfl) dX8_barOnDay_2 ?_
    dsimp only [Option.toList_some, Option.toList_none, List.cons_append, List.nil_append]
    refine V_if_eq C (tgt := 10) dX8_barOnDay_5 (by decide) (fun h5 => ?_) (fun h5 => ?_)
    · have W1 := W.trans (if_neg (fun q => q h5))
      refine V_aload_n C dX8_barOnDay_10 rfl (by first | exact isR_r _ | exact isR_q _ | exact isR_n) ?_
      refine V_getRe C 2 4 rfl cf_2 fl_X8_77 (by decide) (by decide) dX8_barOnDay_11 (by assumption) (by assumption) ?_
      refine V_iload_n C dX8_barOnDay_14 rfl ?_
      refine V_fS C (cc) ks_X8_288 (by decide) (by decide) rfl rfl (Nat.le_of_ble_eq_true rfl) dX8_barOnDay_15 ?_
      dsimp only [Option.toList_some, Option.toList_none, List.cons_append, List.nil_append]
      refine V_astore_n C dX8_barOnDay_18 (by decide) (by first | exact isR_r _ | exact isR_q _ | exact isR_n) rfl ?_
      simp only [lset1, lset2, List.filter_cons, List.filter_nil, Nat.reduceBEq, Nat.reduceAdd, Bool.not_true, Bool.not_false, Bool.and_true, Bool.and_false, Bool.true_and, Bool.false_and, if_true, if_false, Bool.false_eq_true, reduceIte]
      refine V_aload_n C dX8_barOnDay_19 rfl (by first | exact isR_r _ | exact isR_q _ | exact isR_n) ?_
      dsimp only
      refine V_ifnull C (tgt := 31) dX8_barOnDay_20 (by decide) (fun h20 => ?_) (fun a20 h20 => ?_)
      · cases h20
      · cases h20
        refine V_aload_n C dX8_barOnDay_23 rfl (by first | exact isR_r _ | exact isR_q _ | exact isR_n) ?_
        refine V_iload_n C dX8_barOnDay_24 rfl ?_
        refine V_fV C (c9) kv_X8_292 cf_7 (by decide) rfl (by assumption) (by decide) (by decide) rfl rfl (Nat.le_of_ble_eq_true rfl) dX8_barOnDay_25 ?_
        dsimp only [Option.toList_some, Option.toList_none, List.cons_append, List.nil_append]
        refine V_if_ne C (tgt := 33) dX8_barOnDay_28 (by decide) (fun h28 => ?_) (fun h28 => ?_)
        · have W2 := W1.trans (if_neg (fun q => Or.elim q (nI_ne_m1 (by omega)) (fun z => absurd (pI9_ne.mp h28).2 (Int32.not_le.mpr z))))
          refine V_aload_n C dX8_barOnDay_33 rfl (by first | exact isR_r _ | exact isR_q _ | exact isR_n) ?_
          refine V_iload_n C dX8_barOnDay_34 rfl ?_
          refine V_fV C (c_X0_years _ hl G S ad σ hC k hk on) kv_X8_222 cf_0 (by decide) rfl (by assumption) (by decide) (by decide) rfl rfl (Nat.le_of_ble_eq_true rfl) dX8_barOnDay_35 ?_
          dsimp only [Option.toList_some, Option.toList_none, List.cons_append, List.nil_append]
          refine V_aload_n C dX8_barOnDay_38 rfl (by first | exact isR_r _ | exact isR_q _ | exact isR_n) ?_
          refine V_getIe C 7 4 rfl cf_7 fl_X8_296 (by decide) (by decide) dX8_barOnDay_39 (by assumption) (by assumption) ?_
          refine V_aload_n C dX8_barOnDay_42 rfl (by first | exact isR_r _ | exact isR_q _ | exact isR_n) ?_
          refine V_getIe C 7 5 rfl cf_7 fl_X8_299 (by decide) (by decide) dX8_barOnDay_43 (by assumption) (by assumption) ?_
          refine V_fS C (c_X8_isWithin _ hl G S _ _ _) ks_X8_34 (by decide) (by decide) rfl rfl (Nat.le_of_ble_eq_true rfl) dX8_barOnDay_46 ?_
          dsimp only [Option.toList_some, Option.toList_none, List.cons_append, List.nil_append]
          refine V_if_ne C (tgt := 54) dX8_barOnDay_49 (by decide) (fun h49 => ?_) (fun h49 => ?_)
          · have W3 := W2.trans (if_neg (fun q => q (bI_ne.mp h49)))
            refine V_aload_n C dX8_barOnDay_54 rfl (by first | exact isR_r _ | exact isR_q _ | exact isR_n) ?_
            refine V_aload_n C dX8_barOnDay_55 rfl (by first | exact isR_r _ | exact isR_q _ | exact isR_n) ?_
            refine V_getIe C 0 2 rfl cf_0 fl_X8_302 (by decide) (by decide) dX8_barOnDay_56 (by assumption) (by assumption) ?_
            refine V_iload_n C dX8_barOnDay_59 rfl ?_
            refine V_fV C (c_X2_isTrainedFor _ hl G S ad σ hC h27 hh hhk _ on) kv_X8_305 cf_2 (by decide) rfl (by assumption) (by decide) (by decide) rfl rfl (Nat.le_of_ble_eq_true rfl) dX8_barOnDay_60 ?_
            dsimp only [Option.toList_some, Option.toList_none, List.cons_append, List.nil_append]
            refine V_if_ne C (tgt := 68) dX8_barOnDay_63 (by decide) (fun h63 => ?_) (fun h63 => ?_)
            · have W4 := W3.trans (if_neg (fun q => q (pI9_ne.mp h63)))
              refine V_aload_n C dX8_barOnDay_68 rfl (by first | exact isR_r _ | exact isR_q _ | exact isR_n) ?_
              refine V_iload_n C dX8_barOnDay_69 rfl ?_
              refine V_fV C (c_X2_restsOn _ hl G S ad σ hC h27 hh hhk on) kv_X8_309 cf_2 (by decide) rfl (by assumption) (by decide) (by decide) rfl rfl (Nat.le_of_ble_eq_true rfl) dX8_barOnDay_70 ?_
              dsimp only [Option.toList_some, Option.toList_none, List.cons_append, List.nil_append]
              refine V_if_eq C (tgt := 80) dX8_barOnDay_73 (by decide) (fun h73 => ?_) (fun h73 => ?_)
              · have T0 := W4.trans (if_neg (pI9_z.mp h73))
                refine V_iconst C (v := 0) dX8_barOnDay_80 (by decide) ?_
                refine V_iret C (by first | omega | decide) (by first | omega | decide) dX8_barOnDay_81 ?_
                rw [T0]
                exact ⟨rfl, rfl⟩
              · have T0 := W4.trans (if_pos (pI9_ne.mp h73))
                refine V_iconst C (v := 5) dX8_barOnDay_76 (by decide) ?_
                refine V_goto C (tgt := 81) dX8_barOnDay_77 (by decide) ?_
                refine V_iret C (by first | omega | decide) (by first | omega | decide) dX8_barOnDay_81 ?_
                rw [T0]
                exact ⟨rfl, rfl⟩
            · have T0 := W3.trans (if_pos (pI9_z.mp h63))
              refine V_iconst C (v := 4) dX8_barOnDay_66 (by decide) ?_
              refine V_iret C (by first | omega | decide) (by first | omega | decide) dX8_barOnDay_67 ?_
              rw [T0]
              exact ⟨rfl, rfl⟩
          · have T0 := W2.trans (if_pos (bI_eq.mp h49))
            refine V_iconst C (v := 3) dX8_barOnDay_52 (by decide) ?_
            refine V_iret C (by first | omega | decide) (by first | omega | decide) dX8_barOnDay_53 ?_
            rw [T0]
            exact ⟨rfl, rfl⟩
        · have T0 := W1.trans (if_pos (Or.inr (Int32.not_le.mp (fun y => pI9_z.mp h28 ⟨e30, y⟩))))
          refine V_iconst C (v := 2) dX8_barOnDay_31 (by decide) ?_
          refine V_iret C (by first | omega | decide) (by first | omega | decide) dX8_barOnDay_32 ?_
          rw [T0]
          exact ⟨rfl, rfl⟩
    · have T0 := W.trans (if_pos h5)
      refine V_iconst C (v := 1) dX8_barOnDay_8 (by decide) ?_
      refine V_iret C (by first | omega | decide) (by first | omega | decide) dX8_barOnDay_9 ?_
      rw [T0]
      exact ⟨rfl, rfl⟩

