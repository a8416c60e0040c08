/-! THE CLASS: planChild, planFor. -/
/-- what the plan's row of the child k says of the home h -/
noncomputable def rowV (σ : aS) (k h : Nat) : Int32 := iteP (h < cN σ 20 ∧ mWhyOn σ k (nI h) (σ.2 0) = 0 ∧ ¬ σ.1 19 (10 * k + h) = 3) (mWorth σ k h) (-1000000)
theorem c_X8_planChildX (l : Launch) (hl : l.stackTraces = false) (G : gG) (S : sS) (ad : Nat → Nat → Nat) (σ : aS) (hC : RelC S ad σ) (i407 : sI S 407 (ad 4 0) = nI 5) (k : Nat) : CtX l G yX8_planChild cX8_planChild 7 none 6 1 6 [.ref (ad 8 0), .ref (ad 0 k)] S "java/lang/IllegalStateException" := by
  refine Ct_of (by decide) (cat1_all (by repeat first | exact trivial | refine ⟨by first | rfl | exact isR_c (isR_q _), ?_⟩)) (Nat.le_of_ble_eq_true rfl) hl fun X C hXl hin => ?_
  subst hXl
  dsimp only [lArgs, Nat.reduceAdd]
  have kx : sK S (ad 8 0) = 9 := RelC_K hC 8 (by decide) rfl
  have rx_803 : sR S 803 (ad 8 0) = some (ad 4 0) := RelC_R hC 8 803 rfl (by unfold cFd; omega) rfl rfl
  have kp : sK S (ad 4 0) = 5 := RelC_K hC 4 (by decide) rfl
  refine V_aload_n C dX8_planChild_0 rfl (by first | exact isR_r _ | exact isR_q _ | exact isR_n) ?_
  refine V_getS C 8 3 rfl cf_8 fl_X8_30 (by decide) (by decide) dX8_planChild_1 kx rx_803 ?_
  refine V_aload_n C dX8_planChild_4 rfl (by first | exact isR_r _ | exact isR_q _ | exact isR_n) ?_
  refine V_fV C (c_X4_addChildN _ hl G S ad σ hC i407 (ad 0 k)) kv_X8_363 cf_4 (by decide) rfl kp (by decide) (by decide) rfl rfl (Nat.le_of_ble_eq_true rfl) dX8_planChild_5 ?_
  dsimp only [Option.toList_some, Option.toList_none, List.cons_append, List.nil_append]
  refine V_istore_n C dX8_planChild_8 (by decide) rfl ?_
  simp only [lset1, lset2, List.filter_cons, List.filter_nil, Nat.reduceBEq, Nat.reduceAdd, Bool.not_true, Bool.not_false, Bool.and_true, Bool.and_false, Bool.true_and, Bool.false_and, if_true, if_false, Bool.false_eq_true, reduceIte]
  refine V_iload_n C dX8_planChild_9 rfl ?_
  refine V_iconst C (v := (-1)) dX8_planChild_10 (by decide) ?_
  refine V_icmp_ne C (tgt := 25) dX8_planChild_11 (by decide) (fun h11 => ?_) (fun h11 => ?_)
  · exact absurd rfl h11
  · refine V_throwSW C tw_X8_46_367_50 dX8_planChild_14 dX8_planChild_17 dX8_planChild_18 dX8_planChild_21 dX8_planChild_24 (by decide) (by first | omega | decide) (by first | omega | decide) ?_
    exact ⟨rfl, rfl⟩
theorem c_X8_planChild (l : Launch) (hl : l.stackTraces = false) (G : gG) (S : sS) (ad : Nat → Nat → Nat) (σ : aS) (hC : RelC S ad σ) (hI : IC σ) (hS : IS σ) (hO : IO σ) (hP : IP σ) (m : Nat) (hm : m < 5) (i407 : sI S 407 (ad 4 0) = nI m) (i408 : sI S 408 (ad 4 0) = nI (2 ^ m)) (k : Nat) (hk : k < cN σ 1) : Ct l G yX8_planChild cX8_planChild 7 none 6 0 0 [.ref (ad 8 0), .ref (ad 0 k)] S (fun v T => v = none ∧ FrP S T ∧ sQ T (ad 21 0) = up1 (sQ S (ad 21 0)) m (some (ad 0 k)) ∧ (∀ h, h < 10 → sA T (ad 24 m) h = rowV σ k h) ∧ (∀ a, a ≠ ad 24 m → sA T a = sA S a) ∧ sI T 407 (ad 4 0) = nI (m + 1) ∧ sI T 408 (ad 4 0) = nI (2 ^ (m + 1))) (fun _ _ => False) := by
  refine Ct_of (by decide) (cat1_all (by repeat first | exact trivial | refine ⟨by first | rfl | exact isR_c (isR_q _), ?_⟩)) (Nat.le_of_ble_eq_true rfl) hl fun X C hXl hin => ?_
  subst hXl
  dsimp only [lArgs, Nat.reduceAdd]
  have kx : sK S (ad 8 0) = 9 := RelC_K hC 8 (by decide) rfl
  have rx_803 : sR S 803 (ad 8 0) = some (ad 4 0) := RelC_R hC 8 803 rfl (by unfold cFd; omega) rfl rfl
  have rx_801 : sR S 801 (ad 8 0) = some (ad 16 0) := RelC_R hC 8 801 rfl (by unfold cFd; omega) rfl rfl
  have kp : sK S (ad 4 0) = 5 := RelC_K hC 4 (by decide) rfl
  have kc : sK S (ad 0 k) = 1 := RelC_K hC 0 (by decide) hk
  obtain ⟨n, hn⟩ : ∃ n, n = cN σ 20 := ⟨_, rfl⟩
  have hn10 : n ≤ 10 := by rw [hn]; exact hI.2.2.1.2
  have loop : ∀ (t i : Nat) (T : sS), i + t = 10 → (FrP S T ∧ sQ T (ad 21 0) = up1 (sQ S (ad 21 0)) m (some (ad 0 k)) ∧ (∀ h, h < i → sA T (ad 24 m) h = rowV σ k h) ∧ (∀ h, i ≤ h → h < 10 → sA T (ad 24 m) h = -1000000) ∧ (∀ a, a ≠ ad 24 m → sA T a = sA S a) ∧ sI T 407 (ad 4 0) = nI (m + 1) ∧ sI T 408 (ad 4 0) = nI (2 ^ (m + 1))) → V X G 7 (eQ X G (fun v T => v = none ∧ FrP S T ∧ sQ T (ad 21 0) = up1 (sQ S (ad 21 0)) m (some (ad 0 k)) ∧ (∀ h, h < 10 → sA T (ad 24 m) h = rowV σ k h) ∧ (∀ a, a ≠ ad 24 m → sA T a = sA S a) ∧ sI T 407 (ad 4 0) = nI (m + 1) ∧ sI T 408 (ad 4 0) = nI (2 ^ (m + 1))) (fun _ _ => False) 0 0) 0 0 37 [(5, false, .int (nI i)), (4, false, .int (nI 10)), (3, false, .ref (ad 16 0)), (2, false, .int (nI m)), (0, false, .ref (ad 8 0)), (1, false, .ref (ad 0 k))] [] T := by
    intro t
    induction t with
    | zero =>
      intro i T hi hT
      obtain rfl : i = 10 := by omega
      obtain ⟨f, t1, t2, t3, t4, t5, t6⟩ := hT
      refine V_iload C dX8_planChild_37 rfl ?_
      refine V_iload C dX8_planChild_39 rfl ?_
      refine V_igeN C (tgt := 106) (by omega) (by omega) dX8_planChild_41 (by decide) (fun h41 => ?_) (fun h41 => ?_)
      · refine V_vret C (by first | omega | decide) (by first | omega | decide) dX8_planChild_106 ?_
        exact ⟨rfl, f, t1, t2, t4, t5, t6⟩
      · omega
    | succ t ih =>
      intro i T hi hT
      have hi10 : i < 10 := by omega
      obtain ⟨f, t1, t2, t3, t4, t5, t6⟩ := hT
      have hR : RelC T ad σ := RelC_P hC f
      have kX : sK T (ad 8 0) = 9 := RelC_K hR 8 (by decide) rfl
      have kP2 : sK T (ad 4 0) = 5 := RelC_K hR 4 (by decide) rfl
      have kC2 : sK T (ad 0 k) = 1 := RelC_K hR 0 (by decide) hk
      have iX : sI T 808 (ad 8 0) = σ.2 0 := RelC_I hR 8 808 rfl (by unfold cFd; omega) rfl rfl
      have rX : sR T 803 (ad 8 0) = some (ad 4 0) := RelC_R hR 8 803 rfl (by unfold cFd; omega) rfl rfl
      have kq : sK T (ad 16 0) = 105 := RelC_kd hR 16 (by decide) rfl rfl
      have lq : sL T (ad 16 0) = 10 := RelC_ln hR 16 (by decide) rfl rfl
      have aq := hR.2.2.2.2.2.2.2.1 i hi10
      rw [← hn] at aq
      have skip9 : rowV σ k i = -1000000 → V X G 7 (eQ X G (fun v T => v = none ∧ FrP S T ∧ sQ T (ad 21 0) = up1 (sQ S (ad 21 0)) m (some (ad 0 k)) ∧ (∀ h, h < 10 → sA T (ad 24 m) h = rowV σ k h) ∧ (∀ a, a ≠ ad 24 m → sA T a = sA S a) ∧ sI T 407 (ad 4 0) = nI (m + 1) ∧ sI T 408 (ad 4 0) = nI (2 ^ (m + 1))) (fun _ _ => False) 0 0) 0 0 37 [(5, false, .int (nI (i + 1))), (4, false, .int (nI 10)), (3, false, .ref (ad 16 0)), (2, false, .int (nI m)), (0, false, .ref (ad 8 0)), (1, false, .ref (ad 0 k))] [] T := fun e => ih (i + 1) T (by omega) ⟨f, t1, fun h hh => by
        by_cases z : h = i
        · rw [z, e]; exact t3 i (Nat.le_refl i) hi10
        · exact t2 h (by omega), fun h h1 h2 => t3 h (by omega) h2, t4, t5, t6⟩
      by_cases hin : i < n
      · rw [if_pos hin] at aq
        have hi1 : i < cN σ 20 := hn ▸ hin
        have kh : sK T (ad 2 i) = 3 := RelC_K hR 2 (by decide) hi1
        have ih2 : sI T 200 (ad 2 i) = nI i := RelC_I hR 2 200 rfl (by unfold cFd; omega) rfl hi1
        have k24 : sK T (ad 24 m) = 161 := RelC_kd hR 24 (by decide) hm rfl
        refine V_iload C dX8_planChild_37 rfl ?_
        refine V_iload C dX8_planChild_39 rfl ?_
        refine V_igeN C (tgt := 106) (by omega) (by omega) dX8_planChild_41 (by decide) (fun h41 => ?_) (fun h41 => ?_)
        · omega
        · refine V_aload_n C dX8_planChild_44 rfl (by first | exact isR_r _ | exact isR_q _ | exact isR_n) ?_
          refine V_iload C dX8_planChild_45 rfl ?_
          refine V_aaldE C 5 (by decide) kq (by decide) lq rfl hi10 (by decide) dX8_planChild_47 ?_
          rw [aq]
          refine V_astore C dX8_planChild_48 (by decide) (by first | exact isR_r _ | exact isR_q _ | exact isR_n) rfl ?_
          simp only [lset1, lset2, List.filter_cons, List.filter_nil, Nat.reduceBEq, Nat.reduceAdd, Bool.not_true, Bool.not_false, Bool.and_true, Bool.and_false, Bool.true_and, Bool.false_and, if_true, if_false, Bool.false_eq_true, reduceIte]
          refine V_aload C dX8_planChild_50 rfl (by first | exact isR_r _ | exact isR_q _ | exact isR_n) ?_
          dsimp only
          refine V_ifnull C (tgt := 100) dX8_planChild_52 (by decide) (fun h52 => ?_) (fun a52 h52 => ?_)
          · cases h52
          · cases h52
            refine V_aload_n C dX8_planChild_55 rfl (by first | exact isR_r _ | exact isR_q _ | exact isR_n) ?_
            refine V_aload C dX8_planChild_56 rfl (by first | exact isR_r _ | exact isR_q _ | exact isR_n) ?_
            refine V_aload_n C dX8_planChild_58 rfl (by first | exact isR_r _ | exact isR_q _ | exact isR_n) ?_
            refine V_getIe C 8 8 rfl cf_8 fl_X8_53 (by decide) (by decide) dX8_planChild_59 kX iX ?_
            refine V_fS C (c_X8_barOnDay _ hl G T ad σ hR hI hO k hk i hi1 _) ks_X8_261 (by decide) (by decide) rfl rfl (Nat.le_of_ble_eq_true rfl) dX8_planChild_62 ?_
            dsimp only [Option.toList_some, Option.toList_none, List.cons_append, List.nil_append]
            refine V_if_ne C (tgt := 100) dX8_planChild_65 (by decide) (fun h65 => ?_) (fun h65 => ?_)
            · have T0 : rowV σ k i = -1000000 := iteP_f (fun z => h65 z.2.1)
              have L := skip9 T0
              refine V_incN C dX8_planChild_100 rfl (by decide) rfl ?_
              simp only [lset1, lset2, List.filter_cons, List.filter_nil, Nat.reduceBEq, Nat.reduceAdd, Bool.not_true, Bool.not_false, Bool.and_true, Bool.and_false, Bool.true_and, Bool.false_and, if_true, if_false, Bool.false_eq_true, reduceIte]
              refine V_goto C (tgt := 37) dX8_planChild_103 (by decide) ?_
              refine V_sub ?_ L
              exact ⟨rfl, rfl, rfl, rfl, rfl, rfl, trivial⟩
            · refine V_aload_n C dX8_planChild_68 rfl (by first | exact isR_r _ | exact isR_q _ | exact isR_n) ?_
              refine V_aload C dX8_planChild_69 rfl (by first | exact isR_r _ | exact isR_q _ | exact isR_n) ?_
              refine V_getIe C 2 0 rfl cf_2 fl_X8_136 (by decide) (by decide) dX8_planChild_71 kh ih2 ?_
              refine V_fV C (c_X0_refuses _ hl G T ad σ hR k hk i hi10) kv_X8_319 cf_0 (by decide) rfl kC2 (by decide) (by decide) rfl rfl (Nat.le_of_ble_eq_true rfl) dX8_planChild_74 ?_
              dsimp only [Option.toList_some, Option.toList_none, List.cons_append, List.nil_append]
              refine V_if_ne C (tgt := 100) dX8_planChild_77 (by decide) (fun h77 => ?_) (fun h77 => ?_)
              · have T0 : rowV σ k i = -1000000 := iteP_f (fun z => z.2.2 (pI9_ne.mp h77))
                have L := skip9 T0
                refine V_incN C dX8_planChild_100 rfl (by decide) rfl ?_
                simp only [lset1, lset2, List.filter_cons, List.filter_nil, Nat.reduceBEq, Nat.reduceAdd, Bool.not_true, Bool.not_false, Bool.and_true, Bool.and_false, Bool.true_and, Bool.false_and, if_true, if_false, Bool.false_eq_true, reduceIte]
                refine V_goto C (tgt := 37) dX8_planChild_103 (by decide) ?_
                refine V_sub ?_ L
                exact ⟨rfl, rfl, rfl, rfl, rfl, rfl, trivial⟩
              · refine V_aload_n C dX8_planChild_80 rfl (by first | exact isR_r _ | exact isR_q _ | exact isR_n) ?_
                refine V_getS C 8 3 rfl cf_8 fl_X8_30 (by decide) (by decide) dX8_planChild_81 kX rX ?_
                refine V_iload_n C dX8_planChild_84 rfl ?_
                refine V_aload C dX8_planChild_85 rfl (by first | exact isR_r _ | exact isR_q _ | exact isR_n) ?_
                refine V_getIe C 2 0 rfl cf_2 fl_X8_136 (by decide) (by decide) dX8_planChild_87 kh ih2 ?_
                refine V_aload_n C dX8_planChild_90 rfl (by first | exact isR_r _ | exact isR_q _ | exact isR_n) ?_
                refine V_aload_n C dX8_planChild_91 rfl (by first | exact isR_r _ | exact isR_q _ | exact isR_n) ?_
                refine V_aload C dX8_planChild_92 rfl (by first | exact isR_r _ | exact isR_q _ | exact isR_n) ?_
                refine V_fV C (c_X8_worthFor _ hl G T ad σ hR hI hS hP k hk i hi1) kv_X8_147 cf_8 (by decide) rfl kX (by decide) (by decide) rfl rfl (Nat.le_of_ble_eq_true rfl) dX8_planChild_94 ?_
                dsimp only [Option.toList_some, Option.toList_none, List.cons_append, List.nil_append]
                refine V_fV C (c_X4_allow _ hl G T ad σ hR m hm i hi10 _) kv_X8_369 cf_4 (by decide) rfl kP2 (by decide) (by decide) rfl rfl (Nat.le_of_ble_eq_true rfl) dX8_planChild_97 ?_
                dsimp only [Option.toList_some, Option.toList_none, List.cons_append, List.nil_append]
                have T0 : rowV σ k i = mWorth σ k i := iteP_t ⟨hi1, h65, pI9_z.mp h77⟩
                have L := ih (i + 1) (pA T (ad 24 m) i (mWorth σ k i)) (by omega) ⟨FrP_tr f (FrP_A (Or.inr (Or.inl k24))), t1, fun h hh => by
                    rw [sA_s]
                    by_cases z : h = i
                    · subst z; rw [up1_s, T0]
                    · rw [up1_n z]; exact t2 h (by omega), fun h h1 h2 => by
                    rw [sA_s, up1_n (by omega)]; exact t3 h (by omega) h2, fun a ha => (sA_n ha).trans (t4 a ha), t5, t6⟩
                refine V_incN C dX8_planChild_100 rfl (by decide) rfl ?_
                simp only [lset1, lset2, List.filter_cons, List.filter_nil, Nat.reduceBEq, Nat.reduceAdd, Bool.not_true, Bool.not_false, Bool.and_true, Bool.and_false, Bool.true_and, Bool.false_and, if_true, if_false, Bool.false_eq_true, reduceIte]
                refine V_goto C (tgt := 37) dX8_planChild_103 (by decide) ?_
                refine V_sub ?_ L
                exact ⟨rfl, rfl, rfl, rfl, rfl, rfl, trivial⟩
      · rw [if_neg hin] at aq
        have T0 : rowV σ k i = -1000000 := iteP_f fun z => hin (hn ▸ z.1)
        have L := skip9 T0
        refine V_iload C dX8_planChild_37 rfl ?_
        refine V_iload C dX8_planChild_39 rfl ?_
        refine V_igeN C (tgt := 106) (by omega) (by omega) dX8_planChild_41 (by decide) (fun h41 => ?_) (fun h41 => ?_)
        · omega
        · refine V_aload_n C dX8_planChild_44 rfl (by first | exact isR_r _ | exact isR_q _ | exact isR_n) ?_
          refine V_iload C dX8_planChild_45 rfl ?_
          refine V_aaldE C 5 (by decide) kq (by decide) lq rfl hi10 (by decide) dX8_planChild_47 ?_
          rw [aq]
          refine V_astore C dX8_planChild_48 (by decide) (by first | exact isR_r _ | exact isR_q _ | exact isR_n) rfl ?_
          simp only [lset1, lset2, List.filter_cons, List.filter_nil, Nat.reduceBEq, Nat.reduceAdd, Bool.not_true, Bool.not_false, Bool.and_true, Bool.and_false, Bool.true_and, Bool.false_and, if_true, if_false, Bool.false_eq_true, reduceIte]
          refine V_aload C dX8_planChild_50 rfl (by first | exact isR_r _ | exact isR_q _ | exact isR_n) ?_
          dsimp only
          refine V_ifnull C (tgt := 100) dX8_planChild_52 (by decide) (fun h52 => ?_) (fun a52 h52 => ?_)
          · refine V_incN C dX8_planChild_100 rfl (by decide) rfl ?_
            simp only [lset1, lset2, List.filter_cons, List.filter_nil, Nat.reduceBEq, Nat.reduceAdd, Bool.not_true, Bool.not_false, Bool.and_true, Bool.and_false, Bool.true_and, Bool.false_and, if_true, if_false, Bool.false_eq_true, reduceIte]
            refine V_goto C (tgt := 37) dX8_planChild_103 (by decide) ?_
            refine V_sub ?_ L
            exact ⟨rfl, rfl, rfl, rfl, rfl, rfl, trivial⟩
          · cases h52
  refine V_aload_n C dX8_planChild_0 rfl (by first | exact isR_r _ | exact isR_q _ | exact isR_n) ?_
  refine V_getS C 8 3 rfl cf_8 fl_X8_30 (by decide) (by decide) dX8_planChild_1 kx rx_803 ?_
  refine V_aload_n C dX8_planChild_4 rfl (by first | exact isR_r _ | exact isR_q _ | exact isR_n) ?_
  refine V_callV C (c_X4_addChild _ hl G S ad σ hC m hm i407 i408 (ad 0 k) kc) kv_X8_363 cf_4 (by decide) rfl kp (by decide) (by decide) rfl rfl (Nat.le_of_ble_eq_true rfl) dX8_planChild_5 ?_ (fun _ _ h => h.elim)
  intro w1 T hT
  obtain ⟨rfl, f, t1, t2, t3, t4, t5⟩ := hT
  dsimp only [Option.toList_some, Option.toList_none, List.cons_append, List.nil_append]
  have hR : RelC T ad σ := RelC_P hC f
  have kX : sK T (ad 8 0) = 9 := RelC_K hR 8 (by decide) rfl
  have rX : sR T 801 (ad 8 0) = some (ad 16 0) := RelC_R hR 8 801 rfl (by unfold cFd; omega) rfl rfl
  have kq : sK T (ad 16 0) = 105 := RelC_kd hR 16 (by decide) rfl rfl
  have lq : sL T (ad 16 0) = 10 := RelC_ln hR 16 (by decide) rfl rfl
  have L := loop 10 0 T (by omega) ⟨f, t1, fun h hh => absurd hh (Nat.not_lt_zero h), fun h _ h2 => t2 h h2, t3, t4, t5⟩
  refine V_istore_n C dX8_planChild_8 (by decide) rfl ?_
  simp only [lset1, lset2, List.filter_cons, List.filter_nil, Nat.reduceBEq, Nat.reduceAdd, Bool.not_true, Bool.not_false, Bool.and_true, Bool.and_false, Bool.true_and, Bool.false_and, if_true, if_false, Bool.false_eq_true, reduceIte]
  refine V_iload_n C dX8_planChild_9 rfl ?_
  refine V_iconst C (v := (-1)) dX8_planChild_10 (by decide) ?_
  refine V_icmp_ne C (tgt := 25) dX8_planChild_11 (by decide) (fun h11 => ?_) (fun h11 => ?_)
  · refine V_aload_n C dX8_planChild_25 rfl (by first | exact isR_r _ | exact isR_q _ | exact isR_n) ?_
    refine V_getS C 8 1 rfl cf_8 fl_X8_17 (by decide) (by decide) dX8_planChild_26 kX rX ?_
    refine V_astore_n C dX8_planChild_29 (by decide) (by first | exact isR_r _ | exact isR_q _ | exact isR_n) rfl ?_
    simp only [lset1, lset2, List.filter_cons, List.filter_nil, Nat.reduceBEq, Nat.reduceAdd, Bool.not_true, Bool.not_false, Bool.and_true, Bool.and_false, Bool.true_and, Bool.false_and, if_true, if_false, Bool.false_eq_true, reduceIte]
    refine V_aload_n C dX8_planChild_30 rfl (by first | exact isR_r _ | exact isR_q _ | exact isR_n) ?_
    refine V_alen C (v := nI 10) kq (by decide) (by rw [lq]; rfl) dX8_planChild_31 ?_
    refine V_istore C dX8_planChild_32 (by decide) rfl ?_
    simp only [lset1, lset2, List.filter_cons, List.filter_nil, Nat.reduceBEq, Nat.reduceAdd, Bool.not_true, Bool.not_false, Bool.and_true, Bool.and_false, Bool.true_and, Bool.false_and, if_true, if_false, Bool.false_eq_true, reduceIte]
    refine V_iconst C (v := 0) dX8_planChild_34 (by decide) ?_
    refine V_istore C dX8_planChild_35 (by decide) rfl ?_
    simp only [lset1, lset2, List.filter_cons, List.filter_nil, Nat.reduceBEq, Nat.reduceAdd, Bool.not_true, Bool.not_false, Bool.and_true, Bool.and_false, Bool.true_and, Bool.false_and, if_true, if_false, Bool.false_eq_true, reduceIte]
    refine V_sub ?_ L
    exact ⟨rfl, rfl, rfl, rfl, rfl, rfl, trivial⟩
  · exact absurd h11 (nI_ne_m1 (by omega))

