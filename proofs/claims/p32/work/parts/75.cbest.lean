/-! THE CLASS: best. -/
theorem c_X8_best (l : Launch) (hl : l.stackTraces = false) (G : gG) (S : sS) (ad : Nat → Nat → Nat) (σ : aS) (hC : RelC S ad σ) (hI : IC σ) (hO : IO σ) (hS : IS σ) (hP : IP σ) (k : Nat) (hk : k < cN σ 1) : CtF l G yX8_best cX8_best 10 (Option.some FieldType.int) 7 1 6 [.ref (ad 8 0), .int (nI k)] S (some (.int (mBestF σ k (cN σ 20)))) S := by
  refine Ct_of (by decide) (cat1_all (by repeat first | exact trivial | refine ⟨by first | rfl | exact isR_c (isR_q _), ?_⟩)) (Nat.le_of_ble_eq_true rfl) hl fun X C hXl hin => ?_
  subst hXl
  dsimp only [lArgs, Nat.reduceAdd]
  have kx : sK S (ad 8 0) = 9 := RelC_K hC 8 (by decide) rfl
  have rx_801 : sR S 801 (ad 8 0) = some (ad 16 0) := RelC_R hC 8 801 rfl (by unfold cFd; omega) rfl rfl
  have kq : sK S (ad 16 0) = 105 := hC.1 16 0 (by decide) (by decide) (by decide) rfl
  have lq : sL S (ad 16 0) = 10 := hC.2.2.2.2.1 16 0 (by decide) (by decide) rfl
  have aq := hC.2.2.2.2.2.2.2.1
  obtain ⟨n, hn⟩ : ∃ n, n = cN σ 20 := ⟨_, rfl⟩
  have hn10 : n ≤ 10 := by rw [hn]; exact hI.2.2.1.2
  rw [← hn] at aq
  rw [← hn]
  have loop : ∀ (t i : Nat) (bw : Int32), i + t = 10 → (mBestF σ k (min i n) = -1 ∨ bw = mWorth σ k (nx (mBestF σ k (min i n)))) → V X G 10 (eQ X G (fun v T => v = some (.int (mBestF σ k n)) ∧ T = S) (fun _ _ => False) 1 6) 1 6 25 [(7, false, .int (nI i)), (6, false, .int (nI 10)), (5, false, .ref (ad 16 0)), (4, false, .int bw), (3, false, .int (mBestF σ k (min i n))), (2, false, .ref (ad 0 k)), (0, false, .ref (ad 8 0)), (1, false, .int (nI k))] [] S := by
    intro t
    induction t with
    | zero =>
      intro i bw hi hb
      obtain rfl : i = 10 := by omega
      rw [Nat.min_eq_right hn10]
      refine V_iload C dX8_best_25 rfl ?_
      refine V_iload C dX8_best_27 rfl ?_
      refine V_igeN C (tgt := 94) (by omega) (by omega) dX8_best_29 (by decide) (fun h29 => ?_) (fun h29 => ?_)
      · refine V_iload_n C dX8_best_94 rfl ?_
        refine V_iret C (by first | omega | decide) (by first | omega | decide) dX8_best_95 ?_
        exact ⟨rfl, rfl⟩
      · omega
    | succ t ih =>
      intro i bw hi hb
      have hi10 : i < 10 := by omega
      by_cases hin9 : i < n
      · have e := (aq i hi10).trans (if_pos hin9)
        have hi1 : i < cN σ 20 := hn ▸ hin9
        have ih9 := ih (i + 1)
        rw [Nat.min_eq_left (by omega : i + 1 ≤ n)] at ih9
        rw [Nat.min_eq_left (by omega : i ≤ n)] at hb ⊢
        have kh : sK S (ad 2 i) = 3 := RelC_K hC 2 (by decide) hi1
        have ih_200 : sI S 200 (ad 2 i) = nI i := RelC_I hC 2 200 rfl (by unfold cFd; omega) rfl hi1
        refine V_iload C dX8_best_25 rfl ?_
        refine V_iload C dX8_best_27 rfl ?_
        refine V_igeN C (tgt := 94) (by omega) (by omega) dX8_best_29 (by decide) (fun h29 => ?_) (fun h29 => ?_)
        · omega
        · refine V_aload C dX8_best_32 rfl (by first | exact isR_r _ | exact isR_q _ | exact isR_n) ?_
          refine V_iload C dX8_best_34 rfl ?_
          refine V_aaldE C 5 (by decide) kq (by decide) lq rfl hi10 (by decide) dX8_best_36 ?_
          rw [e]
          refine V_astore C dX8_best_37 (by decide) (by first | exact isR_r _ | exact isR_q _ | exact isR_n) rfl ?_
          simp only [lset1, lset2, List.filter_cons, List.filter_nil, Nat.reduceBEq, Nat.reduceAdd, Bool.not_true, Bool.not_false, Bool.and_true, Bool.and_false, Bool.true_and, Bool.false_and, if_true, if_false, Bool.false_eq_true, reduceIte]
          refine V_aload C dX8_best_39 rfl (by first | exact isR_r _ | exact isR_q _ | exact isR_n) ?_
          dsimp only
          refine V_ifnull C (tgt := 88) dX8_best_41 (by decide) (fun h41 => ?_) (fun a41 h41 => ?_)
          · cases h41
          · cases h41
            refine V_aload_n C dX8_best_44 rfl (by first | exact isR_r _ | exact isR_q _ | exact isR_n) ?_
            refine V_aload_n C dX8_best_45 rfl (by first | exact isR_r _ | exact isR_q _ | exact isR_n) ?_
            refine V_aload C dX8_best_46 rfl (by first | exact isR_r _ | exact isR_q _ | exact isR_n) ?_
            refine V_fV C (c_X8_barToday _ hl G S ad σ hC hI hO hS k hk i hi1) kv_X8_143 cf_8 (by decide) rfl kx (by decide) (by decide) rfl rfl (Nat.le_of_ble_eq_true rfl) dX8_best_48 ?_
            dsimp only [Option.toList_some, Option.toList_none, List.cons_append, List.nil_append]
            refine V_if_eq C (tgt := 57) dX8_best_51 (by decide) (fun h51 => ?_) (fun h51 => ?_)
            · refine V_aload_n C dX8_best_57 rfl (by first | exact isR_r _ | exact isR_q _ | exact isR_n) ?_
              refine V_aload_n C dX8_best_58 rfl (by first | exact isR_r _ | exact isR_q _ | exact isR_n) ?_
              refine V_aload C dX8_best_59 rfl (by first | exact isR_r _ | exact isR_q _ | exact isR_n) ?_
              refine V_fV C (c_X8_worthFor _ hl G S ad σ hC hI hS hP k hk i hi1) kv_X8_147 cf_8 (by decide) rfl kx (by decide) (by decide) rfl rfl (Nat.le_of_ble_eq_true rfl) dX8_best_61 ?_
              dsimp only [Option.toList_some, Option.toList_none, List.cons_append, List.nil_append]
              refine V_istore C dX8_best_64 (by decide) rfl ?_
              simp only [lset1, lset2, List.filter_cons, List.filter_nil, Nat.reduceBEq, Nat.reduceAdd, Bool.not_true, Bool.not_false, Bool.and_true, Bool.and_false, Bool.true_and, Bool.false_and, if_true, if_false, Bool.false_eq_true, reduceIte]
              refine V_iload_n C dX8_best_66 rfl ?_
              refine V_iconst C (v := (-1)) dX8_best_67 (by decide) ?_
              refine V_icmp_eq C (tgt := 78) dX8_best_68 (by decide) (fun h68 => ?_) (fun h68 => ?_)
              · have T0 := mBestF_t (σ := σ) (k := k) (n := i) ⟨h51, Or.inl h68⟩
                have L := ih9 (mWorth σ k i) (by omega) (by rw [T0, nx_nI (j := i) (by omega)]; exact Or.inr rfl)
                rw [T0] at L
                refine V_aload C dX8_best_78 rfl (by first | exact isR_r _ | exact isR_q _ | exact isR_n) ?_
                refine V_getIe C 2 0 rfl cf_2 fl_X8_136 (by decide) (by decide) dX8_best_80 kh ih_200 ?_
                refine V_istore_n C dX8_best_83 (by decide) rfl ?_
                simp only [lset1, lset2, List.filter_cons, List.filter_nil, Nat.reduceBEq, Nat.reduceAdd, Bool.not_true, Bool.not_false, Bool.and_true, Bool.and_false, Bool.true_and, Bool.false_and, if_true, if_false, Bool.false_eq_true, reduceIte]
                refine V_iload C dX8_best_84 rfl ?_
                refine V_istore C dX8_best_86 (by decide) rfl ?_
                simp only [lset1, lset2, List.filter_cons, List.filter_nil, Nat.reduceBEq, Nat.reduceAdd, Bool.not_true, Bool.not_false, Bool.and_true, Bool.and_false, Bool.true_and, Bool.false_and, if_true, if_false, Bool.false_eq_true, reduceIte]
                refine V_incN C dX8_best_88 rfl (by decide) rfl ?_
                simp only [lset1, lset2, List.filter_cons, List.filter_nil, Nat.reduceBEq, Nat.reduceAdd, Bool.not_true, Bool.not_false, Bool.and_true, Bool.and_false, Bool.true_and, Bool.false_and, if_true, if_false, Bool.false_eq_true, reduceIte]
                refine V_goto C (tgt := 25) dX8_best_91 (by decide) ?_
                refine V_sub ?_ L
                exact ⟨rfl, rfl, rfl, rfl, rfl, rfl, rfl, rfl, trivial⟩
              · refine V_iload C dX8_best_71 rfl ?_
                refine V_iload C dX8_best_73 rfl ?_
                refine V_icmp_le C (tgt := 88) dX8_best_75 (by decide) (fun h75 => ?_) (fun h75 => ?_)
                · have T0 := mBestF_f (σ := σ) (k := k) (n := i) (fun q => Or.elim q.2 h68 (fun z => absurd (Or.resolve_left hb h68 ▸ h75) (Int32.not_le.mpr z)))
                  have L := ih9 bw (by omega) (by rw [T0]; exact hb)
                  rw [T0] at L
                  refine V_incN C dX8_best_88 rfl (by decide) rfl ?_
                  simp only [lset1, lset2, List.filter_cons, List.filter_nil, Nat.reduceBEq, Nat.reduceAdd, Bool.not_true, Bool.not_false, Bool.and_true, Bool.and_false, Bool.true_and, Bool.false_and, if_true, if_false, Bool.false_eq_true, reduceIte]
                  refine V_goto C (tgt := 25) dX8_best_91 (by decide) ?_
                  refine V_sub ?_ L
                  exact ⟨rfl, rfl, rfl, rfl, rfl, rfl, rfl, rfl, trivial⟩
                · have T0 := mBestF_t (σ := σ) (k := k) (n := i) ⟨h51, Or.inr (Or.resolve_left hb h68 ▸ Int32.not_le.mp h75)⟩
                  have L := ih9 (mWorth σ k i) (by omega) (by rw [T0, nx_nI (j := i) (by omega)]; exact Or.inr rfl)
                  rw [T0] at L
                  refine V_aload C dX8_best_78 rfl (by first | exact isR_r _ | exact isR_q _ | exact isR_n) ?_
                  refine V_getIe C 2 0 rfl cf_2 fl_X8_136 (by decide) (by decide) dX8_best_80 kh ih_200 ?_
                  refine V_istore_n C dX8_best_83 (by decide) rfl ?_
                  simp only [lset1, lset2, List.filter_cons, List.filter_nil, Nat.reduceBEq, Nat.reduceAdd, Bool.not_true, Bool.not_false, Bool.and_true, Bool.and_false, Bool.true_and, Bool.false_and, if_true, if_false, Bool.false_eq_true, reduceIte]
                  refine V_iload C dX8_best_84 rfl ?_
                  refine V_istore C dX8_best_86 (by decide) rfl ?_
                  simp only [lset1, lset2, List.filter_cons, List.filter_nil, Nat.reduceBEq, Nat.reduceAdd, Bool.not_true, Bool.not_false, Bool.and_true, Bool.and_false, Bool.true_and, Bool.false_and, if_true, if_false, Bool.false_eq_true, reduceIte]
                  refine V_incN C dX8_best_88 rfl (by decide) rfl ?_
                  simp only [lset1, lset2, List.filter_cons, List.filter_nil, Nat.reduceBEq, Nat.reduceAdd, Bool.not_true, Bool.not_false, Bool.and_true, Bool.and_false, Bool.true_and, Bool.false_and, if_true, if_false, Bool.false_eq_true, reduceIte]
                  refine V_goto C (tgt := 25) dX8_best_91 (by decide) ?_
                  refine V_sub ?_ L
                  exact ⟨rfl, rfl, rfl, rfl, rfl, rfl, rfl, rfl, trivial⟩
            · have T0 := mBestF_f (σ := σ) (k := k) (n := i) (fun q => h51 q.1)
              have L := ih9 bw (by omega) (by rw [T0]; exact hb)
              rw [T0] at L
              refine V_goto C (tgt := 88) dX8_best_54 (by decide) ?_
              refine V_incN C dX8_best_88 rfl (by decide) rfl ?_
              simp only [lset1, lset2, List.filter_cons, List.filter_nil, Nat.reduceBEq, Nat.reduceAdd, Bool.not_true, Bool.not_false, Bool.and_true, Bool.and_false, Bool.true_and, Bool.false_and, if_true, if_false, Bool.false_eq_true, reduceIte]
              refine V_goto C (tgt := 25) dX8_best_91 (by decide) ?_
              refine V_sub ?_ L
              exact ⟨rfl, rfl, rfl, rfl, rfl, rfl, rfl, rfl, trivial⟩
      · have e := (aq i hi10).trans (if_neg hin9)
        have T0 : min (i + 1) n = min i n := by omega
        have L := ih (i + 1) bw (by omega) (by rw [T0]; exact hb)
        rw [T0] at L
        refine V_iload C dX8_best_25 rfl ?_
        refine V_iload C dX8_best_27 rfl ?_
        refine V_igeN C (tgt := 94) (by omega) (by omega) dX8_best_29 (by decide) (fun h29 => ?_) (fun h29 => ?_)
        · omega
        · refine V_aload C dX8_best_32 rfl (by first | exact isR_r _ | exact isR_q _ | exact isR_n) ?_
          refine V_iload C dX8_best_34 rfl ?_
          refine V_aaldE C 5 (by decide) kq (by decide) lq rfl hi10 (by decide) dX8_best_36 ?_
          rw [e]
          refine V_astore C dX8_best_37 (by decide) (by first | exact isR_r _ | exact isR_q _ | exact isR_n) rfl ?_
          simp only [lset1, lset2, List.filter_cons, List.filter_nil, Nat.reduceBEq, Nat.reduceAdd, Bool.not_true, Bool.not_false, Bool.and_true, Bool.and_false, Bool.true_and, Bool.false_and, if_true, if_false, Bool.false_eq_true, reduceIte]
          refine V_aload C dX8_best_39 rfl (by first | exact isR_r _ | exact isR_q _ | exact isR_n) ?_
          dsimp only
          refine V_ifnull C (tgt := 88) dX8_best_41 (by decide) (fun h41 => ?_) (fun a41 h41 => ?_)
          · refine V_incN C dX8_best_88 rfl (by decide) rfl ?_
            simp only [lset1, lset2, List.filter_cons, List.filter_nil, Nat.reduceBEq, Nat.reduceAdd, Bool.not_true, Bool.not_false, Bool.and_true, Bool.and_false, Bool.true_and, Bool.false_and, if_true, if_false, Bool.false_eq_true, reduceIte]
            refine V_goto C (tgt := 25) dX8_best_91 (by decide) ?_
            refine V_sub ?_ L
            exact ⟨rfl, rfl, rfl, rfl, rfl, rfl, rfl, rfl, trivial⟩
          · cases h41
  have L := loop 10 0 0 (by omega) (by rw [Nat.zero_min]; exact Or.inl rfl)
  rw [Nat.zero_min] at L
  refine V_aload_n C dX8_best_0 rfl (by first | exact isR_r _ | exact isR_q _ | exact isR_n) ?_
  refine V_iload_n C dX8_best_1 rfl ?_
  refine V_fV C (c_X8_childAt _ hl G S ad σ hC hI.2.1.2 k hk) kv_X8_90 cf_8 (by decide) rfl kx (by decide) (by decide) rfl rfl (Nat.le_of_ble_eq_true rfl) dX8_best_2 ?_
  dsimp only [Option.toList_some, Option.toList_none, List.cons_append, List.nil_append]
  refine V_astore_n C dX8_best_5 (by decide) (by first | exact isR_r _ | exact isR_q _ | exact isR_n) rfl ?_
  simp only [lset1, lset2, List.filter_cons, List.filter_nil, Nat.reduceBEq, Nat.reduceAdd, Bool.not_true, Bool.not_false, Bool.and_true, Bool.and_false, Bool.true_and, Bool.false_and, if_true, if_false, Bool.false_eq_true, reduceIte]
  refine V_iconst C (v := (-1)) dX8_best_6 (by decide) ?_
  refine V_istore_n C dX8_best_7 (by decide) rfl ?_
  simp only [lset1, lset2, List.filter_cons, List.filter_nil, Nat.reduceBEq, Nat.reduceAdd, Bool.not_true, Bool.not_false, Bool.and_true, Bool.and_false, Bool.true_and, Bool.false_and, if_true, if_false, Bool.false_eq_true, reduceIte]
  refine V_iconst C (v := 0) dX8_best_8 (by decide) ?_
  refine V_istore C dX8_best_9 (by decide) rfl ?_
  simp only [lset1, lset2, List.filter_cons, List.filter_nil, Nat.reduceBEq, Nat.reduceAdd, Bool.not_true, Bool.not_false, Bool.and_true, Bool.and_false, Bool.true_and, Bool.false_and, if_true, if_false, Bool.false_eq_true, reduceIte]
  refine V_aload_n C dX8_best_11 rfl (by first | exact isR_r _ | exact isR_q _ | exact isR_n) ?_
  refine V_getS C 8 1 rfl cf_8 fl_X8_17 (by decide) (by decide) dX8_best_12 kx rx_801 ?_
  refine V_astore C dX8_best_15 (by decide) (by first | exact isR_r _ | exact isR_q _ | exact isR_n) rfl ?_
  simp only [lset1, lset2, List.filter_cons, List.filter_nil, Nat.reduceBEq, Nat.reduceAdd, Bool.not_true, Bool.not_false, Bool.and_true, Bool.and_false, Bool.true_and, Bool.false_and, if_true, if_false, Bool.false_eq_true, reduceIte]
  refine V_aload C dX8_best_17 rfl (by first | exact isR_r _ | exact isR_q _ | exact isR_n) ?_
  refine V_alen C (v := nI 10) kq (by decide) (by rw [lq]; rfl) dX8_best_19 ?_
  refine V_istore C dX8_best_20 (by decide) rfl ?_
  simp only [lset1, lset2, List.filter_cons, List.filter_nil, Nat.reduceBEq, Nat.reduceAdd, Bool.not_true, Bool.not_false, Bool.and_true, Bool.and_false, Bool.true_and, Bool.false_and, if_true, if_false, Bool.false_eq_true, reduceIte]
  refine V_iconst C (v := 0) dX8_best_22 (by decide) ?_
  refine V_istore C dX8_best_23 (by decide) rfl ?_
  simp only [lset1, lset2, List.filter_cons, List.filter_nil, Nat.reduceBEq, Nat.reduceAdd, Bool.not_true, Bool.not_false, Bool.and_true, Bool.and_false, Bool.true_and, Bool.false_and, if_true, if_false, Bool.false_eq_true, reduceIte]
  refine V_sub ?_ L
  exact ⟨rfl, rfl, rfl, rfl, rfl, rfl, rfl, rfl, trivial⟩

