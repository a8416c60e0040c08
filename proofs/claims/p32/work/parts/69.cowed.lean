/-! THE CLASS: what is owed. -/
def cOwT (σ : aS) (hh j : Nat) : Int32 := if σ.1 45 j = nI hh then cDues σ j (σ.2 0) else 0
def cOw (σ : aS) (hh : Nat) : Int32 := (-σ.1 25 hh) + fsum (cOwT σ hh) (cN σ 43)
theorem c_X8_owedTo (l : Launch) (hl : l.stackTraces = false) (G : gG) (S : sS) (ad : Nat → Nat → Nat) (σ : aS) (hC : RelC S ad σ) (hI : IC σ) (hS : IS σ) (hh : Nat) (hhk : hh < cN σ 20) : CtF l G yX8_owedTo cX8_owedTo 7 (Option.some FieldType.int) 3 0 0 [.ref (ad 8 0), .ref (ad 2 hh)] S (some (.int (cOw σ hh))) S := by
  refine Ct_of (by decide) (cat1_all (by repeat first | exact trivial | refine ⟨by first | rfl | exact isR_c (isR_q _), ?_⟩)) (Nat.le_of_ble_eq_true rfl) hl fun X C hXl hin => ?_
  subst hXl
  dsimp only [lArgs, Nat.reduceAdd]
  have hh10 : hh < 10 := by have := hI.2.2.1.2; omega
  have kx : sK S (ad 8 0) = 9 := RelC_K hC 8 (by decide) rfl
  have rx_802 : sR S 802 (ad 8 0) = some (ad 17 0) := RelC_R hC 8 802 rfl (by unfold cFd; omega) rfl rfl
  have ix_808 : sI S 808 (ad 8 0) = σ.2 0 := RelC_I hC 8 808 rfl (by unfold cFd; omega) rfl rfl
  have kh : sK S (ad 2 hh) = 3 := RelC_K hC 2 (by decide) hhk
  have ih_207 : sI S 207 (ad 2 hh) = σ.1 25 hh := RelC_I hC 2 207 rfl (by unfold cFd; omega) rfl hhk
  have kq : sK S (ad 17 0) = 106 := hC.1 17 0 (by decide) (by decide) (by decide) rfl
  have lq : sL S (ad 17 0) = 100 := hC.2.2.2.2.1 17 0 (by decide) (by decide) rfl
  have aq := hC.2.2.2.2.2.2.2.2.1
  obtain ⟨n, hn⟩ : ∃ n, n = cN σ 43 := ⟨_, rfl⟩
  have hn100 : n ≤ 100 := by rw [hn]; exact hI.2.2.2.2.2.1.2
  rw [← hn] at aq
  have loop : ∀ (t i : Nat), i + t = 100 → V X G 7 (eQ X G (fun v T => v = some (.int (cOw σ hh)) ∧ T = S) (fun _ _ => False) 0 0) 0 0 18 [(5, false, .int (nI i)), (4, false, .int (nI 100)), (3, false, .ref (ad 17 0)), (2, false, .int ((-σ.1 25 hh) + fsum (cOwT σ hh) (min i n))), (0, false, .ref (ad 8 0)), (1, false, .ref (ad 2 hh))] [] S := by
    intro t
    induction t with
    | zero =>
      intro i hi
      obtain rfl : i = 100 := by omega
      rw [Nat.min_eq_right hn100]
      refine V_iload C dX8_owedTo_18 rfl ?_
      refine V_iload C dX8_owedTo_20 rfl ?_
      refine V_igeN C (tgt := 63) (by omega) (by omega) dX8_owedTo_22 (by decide) (fun h22 => ?_) (fun h22 => ?_)
      · refine V_iload_n C dX8_owedTo_63 rfl ?_
        refine V_iret C (by first | omega | decide) (by first | omega | decide) dX8_owedTo_64 ?_
        rw [hn]
        exact ⟨rfl, rfl⟩
      · omega
    | succ t ih =>
      intro i hi
      have hi100 : i < 100 := by omega
      by_cases hin9 : i < n
      · have e := (aq i hi100).trans (if_pos hin9)
        have hi1 : i < cN σ 43 := hn ▸ hin9
        obtain ⟨-, z, hz, ez⟩ := hS i hi1
        have hz10 : z < 10 := by have := hI.2.2.1.2; omega
        have ks : sK S (ad 6 i) = 7 := RelC_K hC 6 (by decide) hi1
        have rs_601 : sR S 601 (ad 6 i) = some (ad 2 (nx (σ.1 45 i))) := RelC_R hC 6 601 rfl (by unfold cFd; omega) rfl hi1
        rw [ez, nx_nI (j := z) (by omega)] at rs_601
        have key : nI z = nI hh ↔ (some (ad 2 z) = some (ad 2 hh)) := by
          constructor
          · intro q
            have q2 := congrArg nx q
            rw [nx_nI (j := z) (by omega), nx_nI (j := hh) (by omega)] at q2
            rw [q2]
          · intro q
            have q2 := hC.2.1 2 z hh (by decide) (by decide) (by decide) hz hhk (Option.some.inj q)
            rw [q2]
        have S9 : fsum (cOwT σ hh) (min (i + 1) n) = fsum (cOwT σ hh) (min i n) + cOwT σ hh i := by
          rw [Nat.min_eq_left (by omega : i + 1 ≤ n), Nat.min_eq_left (by omega : i ≤ n)]
          rfl
        have S1 : σ.1 45 i = nI hh → (-σ.1 25 hh) + fsum (cOwT σ hh) (min (i + 1) n) = (-σ.1 25 hh) + fsum (cOwT σ hh) (min i n) + cDues σ i (σ.2 0) := fun q => by
          rw [S9, cOwT, if_pos q, Int32.add_assoc]
        have S0 : ¬ σ.1 45 i = nI hh → (-σ.1 25 hh) + fsum (cOwT σ hh) (min (i + 1) n) = (-σ.1 25 hh) + fsum (cOwT σ hh) (min i n) := fun q => by
          rw [S9, cOwT, if_neg q, Int32.add_zero]
        refine V_iload C dX8_owedTo_18 rfl ?_
        refine V_iload C dX8_owedTo_20 rfl ?_
        refine V_igeN C (tgt := 63) (by omega) (by omega) dX8_owedTo_22 (by decide) (fun h22 => ?_) (fun h22 => ?_)
        · omega
        · refine V_aload_n C dX8_owedTo_25 rfl (by first | exact isR_r _ | exact isR_q _ | exact isR_n) ?_
          refine V_iload C dX8_owedTo_26 rfl ?_
          refine V_aaldE C 6 (by decide) kq (by decide) lq rfl hi100 (by decide) dX8_owedTo_28 ?_
          rw [e]
          refine V_astore C dX8_owedTo_29 (by decide) (by first | exact isR_r _ | exact isR_q _ | exact isR_n) rfl ?_
          simp only [lset1, lset2, List.filter_cons, List.filter_nil, Nat.reduceBEq, Nat.reduceAdd, Bool.not_true, Bool.not_false, Bool.and_true, Bool.and_false, Bool.true_and, Bool.false_and, if_true, if_false, Bool.false_eq_true, reduceIte]
          refine V_aload C dX8_owedTo_31 rfl (by first | exact isR_r _ | exact isR_q _ | exact isR_n) ?_
          dsimp only
          refine V_ifnull C (tgt := 57) dX8_owedTo_33 (by decide) (fun h33 => ?_) (fun a33 h33 => ?_)
          · cases h33
          · cases h33
            refine V_aload C dX8_owedTo_36 rfl (by first | exact isR_r _ | exact isR_q _ | exact isR_n) ?_
            refine V_getRe C 6 1 rfl cf_6 fl_X8_218 (by decide) (by decide) dX8_owedTo_38 ks rs_601 ?_
            refine V_aload_n C dX8_owedTo_41 rfl (by first | exact isR_r _ | exact isR_q _ | exact isR_n) ?_
            refine V_acmp_ne C (tgt := 57) (rx := some (ad 2 z)) (ry := some (ad 2 hh)) dX8_owedTo_42 (by decide) (fun h42 => ?_) (fun h42 => ?_)
            · have T0 := S0 (fun q => h42 (key.mp (ez.symm.trans q)))
              refine V_incN C dX8_owedTo_57 rfl (by decide) rfl ?_
              simp only [lset1, lset2, List.filter_cons, List.filter_nil, Nat.reduceBEq, Nat.reduceAdd, Bool.not_true, Bool.not_false, Bool.and_true, Bool.and_false, Bool.true_and, Bool.false_and, if_true, if_false, Bool.false_eq_true, reduceIte]
              refine V_goto C (tgt := 18) dX8_owedTo_60 (by decide) ?_
              refine V_sub ?_ (ih (i + 1) (by omega))
              rw [T0]
              exact ⟨rfl, rfl, rfl, rfl, rfl, rfl, trivial⟩
            · have T0 := S1 (ez.trans (key.mpr h42))
              refine V_iload_n C dX8_owedTo_45 rfl ?_
              refine V_aload C dX8_owedTo_46 rfl (by first | exact isR_r _ | exact isR_q _ | exact isR_n) ?_
              refine V_aload_n C dX8_owedTo_48 rfl (by first | exact isR_r _ | exact isR_q _ | exact isR_n) ?_
              refine V_getIe C 8 8 rfl cf_8 fl_X8_53 (by decide) (by decide) dX8_owedTo_49 kx ix_808 ?_
              refine V_fV C (c_X6_duesUpTo _ hl G S ad σ hC hI hS i hi1 _) kv_X8_372 cf_6 (by decide) rfl ks (by decide) (by decide) rfl rfl (Nat.le_of_ble_eq_true rfl) dX8_owedTo_52 ?_
              dsimp only [Option.toList_some, Option.toList_none, List.cons_append, List.nil_append]
              refine V_iadd C dX8_owedTo_55 ?_
              refine V_istore_n C dX8_owedTo_56 (by decide) rfl ?_
              simp only [lset1, lset2, List.filter_cons, List.filter_nil, Nat.reduceBEq, Nat.reduceAdd, Bool.not_true, Bool.not_false, Bool.and_true, Bool.and_false, Bool.true_and, Bool.false_and, if_true, if_false, Bool.false_eq_true, reduceIte]
              refine V_incN C dX8_owedTo_57 rfl (by decide) rfl ?_
              simp only [lset1, lset2, List.filter_cons, List.filter_nil, Nat.reduceBEq, Nat.reduceAdd, Bool.not_true, Bool.not_false, Bool.and_true, Bool.and_false, Bool.true_and, Bool.false_and, if_true, if_false, Bool.false_eq_true, reduceIte]
              refine V_goto C (tgt := 18) dX8_owedTo_60 (by decide) ?_
              refine V_sub ?_ (ih (i + 1) (by omega))
              rw [T0]
              exact ⟨rfl, rfl, rfl, rfl, rfl, rfl, trivial⟩
      · have e := (aq i hi100).trans (if_neg hin9)
        have T0 : min (i + 1) n = min i n := by omega
        refine V_iload C dX8_owedTo_18 rfl ?_
        refine V_iload C dX8_owedTo_20 rfl ?_
        refine V_igeN C (tgt := 63) (by omega) (by omega) dX8_owedTo_22 (by decide) (fun h22 => ?_) (fun h22 => ?_)
        · omega
        · refine V_aload_n C dX8_owedTo_25 rfl (by first | exact isR_r _ | exact isR_q _ | exact isR_n) ?_
          refine V_iload C dX8_owedTo_26 rfl ?_
          refine V_aaldE C 6 (by decide) kq (by decide) lq rfl hi100 (by decide) dX8_owedTo_28 ?_
          rw [e]
          refine V_astore C dX8_owedTo_29 (by decide) (by first | exact isR_r _ | exact isR_q _ | exact isR_n) rfl ?_
          simp only [lset1, lset2, List.filter_cons, List.filter_nil, Nat.reduceBEq, Nat.reduceAdd, Bool.not_true, Bool.not_false, Bool.and_true, Bool.and_false, Bool.true_and, Bool.false_and, if_true, if_false, Bool.false_eq_true, reduceIte]
          refine V_aload C dX8_owedTo_31 rfl (by first | exact isR_r _ | exact isR_q _ | exact isR_n) ?_
          dsimp only
          refine V_ifnull C (tgt := 57) dX8_owedTo_33 (by decide) (fun h33 => ?_) (fun a33 h33 => ?_)
          · refine V_incN C dX8_owedTo_57 rfl (by decide) rfl ?_
            simp only [lset1, lset2, List.filter_cons, List.filter_nil, Nat.reduceBEq, Nat.reduceAdd, Bool.not_true, Bool.not_false, Bool.and_true, Bool.and_false, Bool.true_and, Bool.false_and, if_true, if_false, Bool.false_eq_true, reduceIte]
            refine V_goto C (tgt := 18) dX8_owedTo_60 (by decide) ?_
            refine V_sub ?_ (ih (i + 1) (by omega))
            rw [T0]
            exact ⟨rfl, rfl, rfl, rfl, rfl, rfl, trivial⟩
          · cases h33
  have L := loop 100 0 (by omega)
  rw [Nat.zero_min, show fsum (cOwT σ hh) 0 = 0 from rfl, Int32.add_zero] at L
  refine V_aload_n C dX8_owedTo_0 rfl (by first | exact isR_r _ | exact isR_q _ | exact isR_n) ?_
  refine V_getIe C 2 7 rfl cf_2 fl_X8_197 (by decide) (by decide) dX8_owedTo_1 kh ih_207 ?_
  refine V_ineg C dX8_owedTo_4 ?_
  refine V_istore_n C dX8_owedTo_5 (by decide) rfl ?_
  simp only [lset1, lset2, List.filter_cons, List.filter_nil, Nat.reduceBEq, Nat.reduceAdd, Bool.not_true, Bool.not_false, Bool.and_true, Bool.and_false, Bool.true_and, Bool.false_and, if_true, if_false, Bool.false_eq_true, reduceIte]
  refine V_aload_n C dX8_owedTo_6 rfl (by first | exact isR_r _ | exact isR_q _ | exact isR_n) ?_
  refine V_getS C 8 2 rfl cf_8 fl_X8_23 (by decide) (by decide) dX8_owedTo_7 kx rx_802 ?_
  refine V_astore_n C dX8_owedTo_10 (by decide) (by first | exact isR_r _ | exact isR_q _ | exact isR_n) rfl ?_
  simp only [lset1, lset2, List.filter_cons, List.filter_nil, Nat.reduceBEq, Nat.reduceAdd, Bool.not_true, Bool.not_false, Bool.and_true, Bool.and_false, Bool.true_and, Bool.false_and, if_true, if_false, Bool.false_eq_true, reduceIte]
  refine V_aload_n C dX8_owedTo_11 rfl (by first | exact isR_r _ | exact isR_q _ | exact isR_n) ?_
  refine V_alen C (v := nI 100) kq (by decide) (by rw [lq]; rfl) dX8_owedTo_12 ?_
  refine V_istore C dX8_owedTo_13 (by decide) rfl ?_
  simp only [lset1, lset2, List.filter_cons, List.filter_nil, Nat.reduceBEq, Nat.reduceAdd, Bool.not_true, Bool.not_false, Bool.and_true, Bool.and_false, Bool.true_and, Bool.false_and, if_true, if_false, Bool.false_eq_true, reduceIte]
  refine V_iconst C (v := 0) dX8_owedTo_15 (by decide) ?_
  refine V_istore C dX8_owedTo_16 (by decide) rfl ?_
  simp only [lset1, lset2, List.filter_cons, List.filter_nil, Nat.reduceBEq, Nat.reduceAdd, Bool.not_true, Bool.not_false, Bool.and_true, Bool.and_false, Bool.true_and, Bool.false_and, if_true, if_false, Bool.false_eq_true, reduceIte]
  refine V_sub ?_ L
  exact ⟨rfl, rfl, rfl, rfl, rfl, rfl, trivial⟩

