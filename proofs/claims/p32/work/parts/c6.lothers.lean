/-! THE LAW: others. -/
theorem c_others (l : Launch) (hl : l.stackTraces = false) (G : gG) (S : sS) (q : Nat) (a : Nat → Nat) (γ : Nat → Nat → Int32) (σ : aS) (hP : PW S q a γ σ) (hL : LJ σ γ) (h1 : 0 < cN σ 1) (h2 : 0 < cN σ 20) (x y : Int32) : Ct l G yL_others cL_others 12 (Option.some FieldType.boolean) 10 40 500 [.ref q, .ref (a 0), .ref (a 5), .int x, .int y] S (fun v T => v = some (.int 1) ∧ ∃ γ9 σ9, PW T q a γ9 σ9 ∧ WP σ γ σ9 γ9) (fun _ _ => False) := by
  refine Ct_of (by decide) (cat1_all (by repeat first | exact trivial | refine ⟨by first | rfl | exact isR_c (isR_r _), ?_⟩)) (Nat.le_of_ble_eq_true rfl) hl fun X C hXl hin => ?_
  subst hXl
  dsimp only [lArgs, Nat.reduceAdd]
  have hW := PW_W hP
  have n0 : cN σ 0 ≤ 12000 := hW.1.1.2
  have s0 : σ.2 0 = nI (cN σ 0) := hW.1.1.1
  have n1 : cN σ 1 ≤ 16 := hW.1.2.1.2
  have n43 : cN σ 43 ≤ 100 := hW.1.2.2.2.2.2.1.2
  obtain ⟨⟨e00, e01, e02, e03, e04⟩, ⟨n20, n38⟩, eK, eM, eO⟩ := id hL.1
  rw [s0] at e04
  have hi0 : lo y (cN σ 1) < cN σ 1 := lo_lt y h1
  have hh0 : lo (y >>> ((5 : Int32) &&& 31)) (cN σ 20) < cN σ 20 := lo_lt (y >>> ((5 : Int32) &&& 31)) h2
  have hYI := hL.2.1.1
  refine V_iload C dL_others_0 rfl ?_
  refine V_aload_n C dL_others_2 rfl (by first | exact isR_r _ | exact isR_q _ | exact isR_n) ?_
  refine V_iconst C (v := 0) dL_others_3 (by decide) ?_
  refine V_gl C hP 0 0 (by decide) (by decide) rfl e00 dL_others_4 ?_
  refine V_fS C (c_low _ hl G _ _ (cN σ 1) h1 (by omega)) ks_L_145 ⟨by decide, by decide⟩ ⟨by decide, by decide⟩ rfl rfl (Nat.le_of_ble_eq_true rfl) dL_others_5 ?_
  dsimp only [Option.toList_some, Option.toList_none, List.cons_append, List.nil_append]
  refine V_istore C dL_others_8 (by decide) rfl ?_
  simp only [lset1, lset2, List.filter_cons, List.filter_nil, Nat.reduceBEq, Nat.reduceAdd, Bool.not_true, Bool.not_false, Bool.and_true, Bool.and_false, Bool.true_and, Bool.false_and, if_true, if_false, Bool.false_eq_true, reduceIte]
  refine V_iload C dL_others_10 rfl ?_
  refine V_iconst C (v := 5) dL_others_12 (by decide) ?_
  refine V_ishr C dL_others_13 ?_
  refine V_aload_n C dL_others_14 rfl (by first | exact isR_r _ | exact isR_q _ | exact isR_n) ?_
  refine V_iconst C (v := 1) dL_others_15 (by decide) ?_
  refine V_gl C hP 0 1 (by decide) (by decide) rfl e01 dL_others_16 ?_
  refine V_fS C (c_low _ hl G _ _ (cN σ 20) h2 (by omega)) ks_L_145 ⟨by decide, by decide⟩ ⟨by decide, by decide⟩ rfl rfl (Nat.le_of_ble_eq_true rfl) dL_others_17 ?_
  dsimp only [Option.toList_some, Option.toList_none, List.cons_append, List.nil_append]
  refine V_istore C dL_others_20 (by decide) rfl ?_
  simp only [lset1, lset2, List.filter_cons, List.filter_nil, Nat.reduceBEq, Nat.reduceAdd, Bool.not_true, Bool.not_false, Bool.and_true, Bool.and_false, Bool.true_and, Bool.false_and, if_true, if_false, Bool.false_eq_true, reduceIte]
  refine V_iload_n C dL_others_22 rfl ?_
  refine V_bipush C (v := 7) dL_others_23 (by decide) ?_
  refine V_fS C (c_low _ hl G _ _ 7 (by decide) (by decide)) ks_L_145 ⟨by decide, by decide⟩ ⟨by decide, by decide⟩ rfl rfl (Nat.le_of_ble_eq_true rfl) dL_others_25 ?_
  dsimp only [Option.toList_some, Option.toList_none, List.cons_append, List.nil_append]
  refine V_istore C dL_others_28 (by decide) rfl ?_
  simp only [lset1, lset2, List.filter_cons, List.filter_nil, Nat.reduceBEq, Nat.reduceAdd, Bool.not_true, Bool.not_false, Bool.and_true, Bool.and_false, Bool.true_and, Bool.false_and, if_true, if_false, Bool.false_eq_true, reduceIte]
  refine V_iload C dL_others_30 rfl ?_
  refine V_if_ne C (tgt := 116) dL_others_32 (by decide) (fun h32 => ?_) (fun h32 => ?_)
  ·
    refine V_iload C dL_others_116 rfl ?_
    refine V_iconst C (v := 1) dL_others_118 (by decide) ?_
    refine V_icmp_ne C (tgt := 182) dL_others_119 (by decide) (fun h119 => ?_) (fun h119 => ?_)
    ·
      refine V_iload C dL_others_182 rfl ?_
      refine V_iconst C (v := 2) dL_others_184 (by decide) ?_
      refine V_icmp_ne C (tgt := 357) dL_others_185 (by decide) (fun h185 => ?_) (fun h185 => ?_)
      ·
        refine V_iload C dL_others_357 rfl ?_
        refine V_iconst C (v := 3) dL_others_359 (by decide) ?_
        refine V_icmp_ne C (tgt := 435) dL_others_360 (by decide) (fun h360 => ?_) (fun h360 => ?_)
        ·
          refine V_iload C dL_others_435 rfl ?_
          refine V_iconst C (v := 4) dL_others_437 (by decide) ?_
          refine V_icmp_ne C (tgt := 472) dL_others_438 (by decide) (fun h438 => ?_) (fun h438 => ?_)
          ·
            refine V_iload C dL_others_472 rfl ?_
            refine V_iconst C (v := 5) dL_others_474 (by decide) ?_
            refine V_icmp_ne C (tgt := 530) dL_others_475 (by decide) (fun h475 => ?_) (fun h475 => ?_)
            ·
              refine V_aload_n C dL_others_530 rfl (by first | exact isR_r _ | exact isR_q _ | exact isR_n) ?_
              refine V_iload C dL_others_531 rfl ?_
              refine V_bipush C (v := 6) dL_others_533 (by decide) ?_
              refine V_fH C (r_is6 _ hl G S q a γ σ hP  (lo y (cN σ 1)) hi0) kh_L_119 ⟨by decide, by decide⟩ ⟨by decide, by decide⟩ rfl rfl (Nat.le_of_ble_eq_true rfl) dL_others_535 ?_
              dsimp only [Option.toList_some, Option.toList_none, List.cons_append, List.nil_append]
              refine V_istore C dL_others_538 (by decide) rfl ?_
              simp only [lset1, lset2, List.filter_cons, List.filter_nil, Nat.reduceBEq, Nat.reduceAdd, Bool.not_true, Bool.not_false, Bool.and_true, Bool.and_false, Bool.true_and, Bool.false_and, if_true, if_false, Bool.false_eq_true, reduceIte]
              refine V_iload_n C dL_others_540 rfl ?_
              refine V_iconst C (v := 3) dL_others_541 (by decide) ?_
              refine V_ishr C dL_others_542 ?_
              refine V_iconst C (v := 5) dL_others_543 (by decide) ?_
              refine V_fS C (c_low _ hl G _ _ 5 (by decide) (by decide)) ks_L_145 ⟨by decide, by decide⟩ ⟨by decide, by decide⟩ rfl rfl (Nat.le_of_ble_eq_true rfl) dL_others_544 ?_
              dsimp only [Option.toList_some, Option.toList_none, List.cons_append, List.nil_append]
              refine V_istore C dL_others_547 (by decide) rfl ?_
              simp only [lset1, lset2, List.filter_cons, List.filter_nil, Nat.reduceBEq, Nat.reduceAdd, Bool.not_true, Bool.not_false, Bool.and_true, Bool.and_false, Bool.true_and, Bool.false_and, if_true, if_false, Bool.false_eq_true, reduceIte]
              have b1 := lo_lt (x >>> ((3 : Int32) &&& 31)) (n := 5) (by decide)
              obtain ⟨th, e1, e2, N1⟩ := k_hand hW.1 (w := lo (x >>> ((3 : Int32) &&& 31)) 5) hi0 (by omega)
              have LH := LJ_hand (x := nI (lo y (cN σ 1))) (w := nI (lo (x >>> ((3 : Int32) &&& 31)) 5)) hL
              have KH := KW_hand (x := nI (lo y (cN σ 1))) (w := nI (lo (x >>> ((3 : Int32) &&& 31)) 5)) hW
              refine V_aload_n C dL_others_549 rfl (by first | exact isR_r _ | exact isR_q _ | exact isR_n) ?_
              refine V_iload C dL_others_550 rfl ?_
              refine V_iload C dL_others_552 rfl ?_
              refine V_callH C (w_handOver _ hl G _ q a _ _ hP  (nI (lo y (cN σ 1))) (nI (lo (x >>> ((3 : Int32) &&& 31)) 5))) kh_L_180 ⟨by decide, by decide⟩ ⟨by decide, by decide⟩ rfl rfl (Nat.le_of_ble_eq_true rfl) dL_others_554 (fun v9 T9 h9 => ?_)
              obtain ⟨rfl, hP9⟩ := h9
              replace hP := hP9
              clear hP9
              dsimp only [Option.toList_some, Option.toList_none, List.cons_append, List.nil_append]
              rw [hR_0 th, e1]
              generalize (oHand σ (nI (lo y (cN σ 1))) (nI (lo (x >>> ((3 : Int32) &&& 31)) 5))).2 = σ1 at hP LH KH e2 N1
              refine V_iload C dL_others_557 rfl ?_
              refine V_icmp_ne C (tgt := 579) dL_others_559 (by decide) (fun h559 => absurd h559 (fun z => z rfl)) (fun h559 => ?_)
              refine V_aload_n C dL_others_562 rfl (by first | exact isR_r _ | exact isR_q _ | exact isR_n) ?_
              refine V_iload C dL_others_563 rfl ?_
              refine V_bipush C (v := 6) dL_others_565 (by decide) ?_
              refine V_fH C (r_is6 _ hl G _ q a _ _ hP  (lo y (cN σ 1)) (by rw [N1]; exact hi0)) kh_L_119 ⟨by decide, by decide⟩ ⟨by decide, by decide⟩ rfl rfl (Nat.le_of_ble_eq_true rfl) dL_others_567 ?_
              dsimp only [Option.toList_some, Option.toList_none, List.cons_append, List.nil_append]
              rw [e2]
              refine V_iload C dL_others_570 rfl ?_
              refine V_icmp_ne C (tgt := 579) dL_others_572 (by decide) (fun h572 => absurd h572 (fun z => z rfl)) (fun h572 => ?_)
              refine V_iconst C (v := 1) dL_others_575 (by decide) ?_
              refine V_goto C (tgt := 580) dL_others_576 (by decide) ?_
              refine V_zret C rfl (by first | omega | decide) (by first | omega | decide) dL_others_580 ?_
              exact ⟨rfl, _, _, hP, WP_of hL LH rfl (by have := KH.2; omega) rfl⟩
            ·
              refine V_aload_n C dL_others_478 rfl (by first | exact isR_r _ | exact isR_q _ | exact isR_n) ?_
              refine V_iload C dL_others_479 rfl ?_
              refine V_fH C (r_owed _ hl G S q a γ σ hP  (lo (y >>> ((5 : Int32) &&& 31)) (cN σ 20)) hh0) kh_L_141 ⟨by decide, by decide⟩ ⟨by decide, by decide⟩ rfl rfl (Nat.le_of_ble_eq_true rfl) dL_others_481 ?_
              dsimp only [Option.toList_some, Option.toList_none, List.cons_append, List.nil_append]
              refine V_istore C dL_others_484 (by decide) rfl ?_
              simp only [lset1, lset2, List.filter_cons, List.filter_nil, Nat.reduceBEq, Nat.reduceAdd, Bool.not_true, Bool.not_false, Bool.and_true, Bool.and_false, Bool.true_and, Bool.false_and, if_true, if_false, Bool.false_eq_true, reduceIte]
              refine V_iconst C (v := 1) dL_others_486 (by decide) ?_
              refine V_iload_n C dL_others_487 rfl ?_
              refine V_iconst C (v := 3) dL_others_488 (by decide) ?_
              refine V_ishr C dL_others_489 ?_
              refine V_sipush C (v := 5000) dL_others_490 (by decide) ?_
              refine V_fS C (c_low _ hl G _ _ 5000 (by decide) (by decide)) ks_L_145 ⟨by decide, by decide⟩ ⟨by decide, by decide⟩ rfl rfl (Nat.le_of_ble_eq_true rfl) dL_others_493 ?_
              dsimp only [Option.toList_some, Option.toList_none, List.cons_append, List.nil_append]
              refine V_iadd C dL_others_496 ?_
              rw [show (1 : Int32) + nI (lo (x >>> ((3 : Int32) &&& 31)) 5000) = nI (1 + lo (x >>> ((3 : Int32) &&& 31)) 5000) from nI_add 1 _]
              refine V_istore C dL_others_497 (by decide) rfl ?_
              simp only [lset1, lset2, List.filter_cons, List.filter_nil, Nat.reduceBEq, Nat.reduceAdd, Bool.not_true, Bool.not_false, Bool.and_true, Bool.and_false, Bool.true_and, Bool.false_and, if_true, if_false, Bool.false_eq_true, reduceIte]
              refine V_aload_n C dL_others_499 rfl (by first | exact isR_r _ | exact isR_q _ | exact isR_n) ?_
              refine V_iload C dL_others_500 rfl ?_
              refine V_dup2 C dL_others_502 rfl rfl ?_
              refine V_gl C hP 5 (lo (y >>> ((5 : Int32) &&& 31)) (cN σ 20)) (by decide) (show lo (y >>> ((5 : Int32) &&& 31)) (cN σ 20) < 4 by omega) rfl (eM (lo (y >>> ((5 : Int32) &&& 31)) (cN σ 20)) hh0).2 dL_others_503 ?_
              refine V_iload C dL_others_504 rfl ?_
              refine V_iadd C dL_others_506 ?_
              refine V_gs C hP 5 (lo (y >>> ((5 : Int32) &&& 31)) (cN σ 20)) (by decide) (show lo (y >>> ((5 : Int32) &&& 31)) (cN σ 20) < 4 by omega) rfl dL_others_507 (fun T9 hP9 => ?_)
              replace hP := hP9
              have b1 := lo_lt (x >>> ((3 : Int32) &&& 31)) (n := 5000) (by decide)
              obtain ⟨tp, e1, LP⟩ := LJ_pay hW hL (h := lo (y >>> ((5 : Int32) &&& 31)) (cN σ 20)) (v := 1 + lo (x >>> ((3 : Int32) &&& 31)) 5000) hh0 (by omega) (by omega)
              have KP := KW_pay (x := nI (lo (y >>> ((5 : Int32) &&& 31)) (cN σ 20))) (v := nI (1 + lo (x >>> ((3 : Int32) &&& 31)) 5000)) hW
              refine V_aload_n C dL_others_508 rfl (by first | exact isR_r _ | exact isR_q _ | exact isR_n) ?_
              refine V_iload C dL_others_509 rfl ?_
              refine V_iload C dL_others_511 rfl ?_
              refine V_callH C (w_pay _ hl G _ q a _ _ hP  (nI (lo (y >>> ((5 : Int32) &&& 31)) (cN σ 20))) (nI (1 + lo (x >>> ((3 : Int32) &&& 31)) 5000))) kh_L_178 ⟨by decide, by decide⟩ ⟨by decide, by decide⟩ rfl rfl (Nat.le_of_ble_eq_true rfl) dL_others_513 (fun v9 T9 h9 => ?_)
              obtain ⟨rfl, hP9⟩ := h9
              replace hP := hP9
              clear hP9
              dsimp only [Option.toList_some, Option.toList_none, List.cons_append, List.nil_append]
              rw [hR_0 tp, e1]
              refine V_iload C dL_others_516 rfl ?_
              refine V_iload C dL_others_518 rfl ?_
              refine V_isub C dL_others_520 ?_
              refine V_icmp_ne C (tgt := 528) dL_others_521 (by decide) (fun h521 => absurd h521 (fun z => z rfl)) (fun h521 => ?_)
              refine V_iconst C (v := 1) dL_others_524 (by decide) ?_
              refine V_goto C (tgt := 529) dL_others_525 (by decide) ?_
              refine V_zret C rfl (by first | omega | decide) (by first | omega | decide) dL_others_529 ?_
              exact ⟨rfl, _, _, hP, WP_of hL LP (up2_n1 (by decide)) (by have := KP.2; omega) (up2_n1 (by decide))⟩
          ·
            obtain ⟨kc1, kc2, kc3, N1⟩ := k_came hW.1 hi0
            have LC := LJ_came (x := nI (lo y (cN σ 1))) hL
            have KC := KW_came (x := nI (lo y (cN σ 1))) hW
            have hng := mHome_neg hW.1 hW.2.1 hi0
            refine V_aload_n C dL_others_441 rfl (by first | exact isR_r _ | exact isR_q _ | exact isR_n) ?_
            refine V_iload C dL_others_442 rfl ?_
            by_cases h10 : σ.1 10 (lo y (cN σ 1)) = -1
            ·
              refine V_callH C (w_came _ hl G _ q a _ _ hP  (nI (lo y (cN σ 1)))) kh_L_176 ⟨by decide, by decide⟩ ⟨by decide, by decide⟩ rfl rfl (Nat.le_of_ble_eq_true rfl) dL_others_444 (fun v9 T9 h9 => ?_)
              obtain ⟨rfl, hP9⟩ := h9
              replace hP := hP9
              clear hP9
              dsimp only [Option.toList_some, Option.toList_none, List.cons_append, List.nil_append]
              rw [hR_2 (kc1 h10)]
              generalize oCame σ (nI (lo y (cN σ 1))) = σ1 at hP LC KC kc3 N1
              refine V_aload_n C dL_others_447 rfl (by first | exact isR_r _ | exact isR_q _ | exact isR_n) ?_
              refine V_iload C dL_others_448 rfl ?_
              refine V_iconst C (v := 0) dL_others_450 (by decide) ?_
              refine V_fH C (r_is0 _ hl G _ q a _ _ hP  (lo y (cN σ 1)) (by rw [N1]; exact hi0)) kh_L_119 ⟨by decide, by decide⟩ ⟨by decide, by decide⟩ rfl rfl (Nat.le_of_ble_eq_true rfl) dL_others_451 ?_
              dsimp only [Option.toList_some, Option.toList_none, List.cons_append, List.nil_append]
              rw [kc3]
              refine V_if_ge C (tgt := 462) dL_others_454 (by decide) (fun h454 => absurd h454 (Int32.not_le.mpr (hng.mpr h10))) (fun h454 => ?_)
              refine V_ldc C dL_others_457 cs_L_21 ?_
              refine V_goto C (tgt := 463) dL_others_459 (by decide) ?_
              refine V_icmp_ne C (tgt := 470) dL_others_463 (by decide) (fun h463 => absurd h463 (fun z => z rfl)) (fun h463 => ?_)
              refine V_iconst C (v := 1) dL_others_466 (by decide) ?_
              refine V_goto C (tgt := 471) dL_others_467 (by decide) ?_
              refine V_zret C rfl (by first | omega | decide) (by first | omega | decide) dL_others_471 ?_
              exact ⟨rfl, _, _, hP, WP_of hL LC rfl (by have := KC.2; omega) rfl⟩
            ·
              refine V_callH C (w_came _ hl G _ q a _ _ hP  (nI (lo y (cN σ 1)))) kh_L_176 ⟨by decide, by decide⟩ ⟨by decide, by decide⟩ rfl rfl (Nat.le_of_ble_eq_true rfl) dL_others_444 (fun v9 T9 h9 => ?_)
              obtain ⟨rfl, hP9⟩ := h9
              replace hP := hP9
              clear hP9
              dsimp only [Option.toList_some, Option.toList_none, List.cons_append, List.nil_append]
              rw [hR_0 (kc2 h10)]
              generalize oCame σ (nI (lo y (cN σ 1))) = σ1 at hP LC KC kc3 N1
              refine V_aload_n C dL_others_447 rfl (by first | exact isR_r _ | exact isR_q _ | exact isR_n) ?_
              refine V_iload C dL_others_448 rfl ?_
              refine V_iconst C (v := 0) dL_others_450 (by decide) ?_
              refine V_fH C (r_is0 _ hl G _ q a _ _ hP  (lo y (cN σ 1)) (by rw [N1]; exact hi0)) kh_L_119 ⟨by decide, by decide⟩ ⟨by decide, by decide⟩ rfl rfl (Nat.le_of_ble_eq_true rfl) dL_others_451 ?_
              dsimp only [Option.toList_some, Option.toList_none, List.cons_append, List.nil_append]
              rw [kc3]
              refine V_if_ge C (tgt := 462) dL_others_454 (by decide) (fun h454 => ?_) (fun h454 => absurd (Int32.not_lt.mp fun z => h10 (hng.mp z)) h454)
              refine V_iconst C (v := 0) dL_others_462 (by decide) ?_
              refine V_icmp_ne C (tgt := 470) dL_others_463 (by decide) (fun h463 => absurd h463 (fun z => z rfl)) (fun h463 => ?_)
              refine V_iconst C (v := 1) dL_others_466 (by decide) ?_
              refine V_goto C (tgt := 471) dL_others_467 (by decide) ?_
              refine V_zret C rfl (by first | omega | decide) (by first | omega | decide) dL_others_471 ?_
              exact ⟨rfl, _, _, hP, WP_of hL LC rfl (by have := KC.2; omega) rfl⟩
        ·
          refine V_aload_n C dL_others_363 rfl (by first | exact isR_r _ | exact isR_q _ | exact isR_n) ?_
          refine V_iload C dL_others_364 rfl ?_
          refine V_iload_n C dL_others_366 rfl ?_
          refine V_iconst C (v := 3) dL_others_367 (by decide) ?_
          refine V_ishr C dL_others_368 ?_
          refine V_bipush C (v := 31) dL_others_369 (by decide) ?_
          refine V_fS C (c_low _ hl G _ _ 31 (by decide) (by decide)) ks_L_145 ⟨by decide, by decide⟩ ⟨by decide, by decide⟩ rfl rfl (Nat.le_of_ble_eq_true rfl) dL_others_371 ?_
          dsimp only [Option.toList_some, Option.toList_none, List.cons_append, List.nil_append]
          have b1 := lo_lt (x >>> ((3 : Int32) &&& 31)) (n := 31) (by decide)
          obtain ⟨tv, e1, ⟨u, u1, u2⟩, e2, N1⟩ := k_visits hW.1 hL.2.1.2 (v := lo (x >>> ((3 : Int32) &&& 31)) 31) hi0 (by omega)
          have LV := LJ_visits (x := nI (lo y (cN σ 1))) (v := nI (lo (x >>> ((3 : Int32) &&& 31)) 31)) hL
          have KV := KW_visits (x := nI (lo y (cN σ 1))) (v := nI (lo (x >>> ((3 : Int32) &&& 31)) 31)) hW
          refine V_callH C (w_visits _ hl G _ q a _ _ hP  (nI (lo y (cN σ 1))) (nI (lo (x >>> ((3 : Int32) &&& 31)) 31))) kh_L_174 ⟨by decide, by decide⟩ ⟨by decide, by decide⟩ rfl rfl (Nat.le_of_ble_eq_true rfl) dL_others_374 (fun v9 T9 h9 => ?_)
          obtain ⟨rfl, hP9⟩ := h9
          replace hP := hP9
          clear hP9
          dsimp only [Option.toList_some, Option.toList_none, List.cons_append, List.nil_append]
          rw [hR_0 tv, e1, u2]
          generalize (oVisits σ (nI (lo y (cN σ 1))) (nI (lo (x >>> ((3 : Int32) &&& 31)) 31))).2 = σ1 at hP LV KV e2 N1
          obtain ⟨W1, K1⟩ := KV
          have hi1 : lo y (cN σ 1) < cN σ1 1 := by rw [N1]; exact hi0
          obtain ⟨tv2, e3, -, e4, N2⟩ := k_visits W1.1 LV.2.1.2 (v := u) hi1 u1
          have LV2 := LJ_visits (x := nI (lo y (cN σ 1))) (v := nI u) LV
          have KV2 := KW_visits (x := nI (lo y (cN σ 1))) (v := nI u) W1
          refine V_istore C dL_others_377 (by decide) rfl ?_
          simp only [lset1, lset2, List.filter_cons, List.filter_nil, Nat.reduceBEq, Nat.reduceAdd, Bool.not_true, Bool.not_false, Bool.and_true, Bool.and_false, Bool.true_and, Bool.false_and, if_true, if_false, Bool.false_eq_true, reduceIte]
          refine V_iload C dL_others_379 rfl ?_
          refine V_if_lt C (tgt := 433) dL_others_381 (by decide) (fun h381 => absurd h381 (nI_pos (by omega))) (fun h381 => ?_)
          refine V_iload C dL_others_384 rfl ?_
          refine V_bipush C (v := nI 31) dL_others_386 (by decide) ?_
          refine V_igeN C (tgt := 433) (by omega) (by omega) dL_others_388 (by decide) (fun h388 => absurd h388 (by omega)) (fun h388 => ?_)
          refine V_aload_n C dL_others_391 rfl (by first | exact isR_r _ | exact isR_q _ | exact isR_n) ?_
          refine V_iload C dL_others_392 rfl ?_
          refine V_iload C dL_others_394 rfl ?_
          refine V_callH C (w_visits _ hl G _ q a _ _ hP  (nI (lo y (cN σ 1))) (nI u)) kh_L_174 ⟨by decide, by decide⟩ ⟨by decide, by decide⟩ rfl rfl (Nat.le_of_ble_eq_true rfl) dL_others_396 (fun v9 T9 h9 => ?_)
          obtain ⟨rfl, hP9⟩ := h9
          replace hP := hP9
          clear hP9
          dsimp only [Option.toList_some, Option.toList_none, List.cons_append, List.nil_append]
          rw [hR_0 tv2, e3, e2]
          generalize (oVisits σ1 (nI (lo y (cN σ 1))) (nI u)).2 = σ2 at hP LV2 KV2 e4 N2
          obtain ⟨W2, K2⟩ := KV2
          have hi2 : lo y (cN σ 1) < cN σ2 1 := by rw [N2]; exact hi1
          have b9 := lo_lt (x >>> ((3 : Int32) &&& 31)) (n := 9) (by decide)
          obtain ⟨tv3, e5, -, -, N3⟩ := k_visits W2.1 LV2.2.1.2 (v := lo (x >>> ((3 : Int32) &&& 31)) 9) hi2 (by omega)
          have LV3 := LJ_visits (x := nI (lo y (cN σ 1))) (v := nI (lo (x >>> ((3 : Int32) &&& 31)) 9)) LV2
          have KV3 := KW_visits (x := nI (lo y (cN σ 1))) (v := nI (lo (x >>> ((3 : Int32) &&& 31)) 9)) W2
          refine V_iload_n C dL_others_399 rfl ?_
          refine V_iconst C (v := 3) dL_others_400 (by decide) ?_
          refine V_ishr C dL_others_401 ?_
          refine V_bipush C (v := 31) dL_others_402 (by decide) ?_
          refine V_fS C (c_low _ hl G _ _ 31 (by decide) (by decide)) ks_L_145 ⟨by decide, by decide⟩ ⟨by decide, by decide⟩ rfl rfl (Nat.le_of_ble_eq_true rfl) dL_others_404 ?_
          dsimp only [Option.toList_some, Option.toList_none, List.cons_append, List.nil_append]
          refine V_icmp_ne C (tgt := 433) dL_others_407 (by decide) (fun h407 => absurd h407 (fun z => z rfl)) (fun h407 => ?_)
          refine V_aload_n C dL_others_410 rfl (by first | exact isR_r _ | exact isR_q _ | exact isR_n) ?_
          refine V_iload C dL_others_411 rfl ?_
          refine V_iload_n C dL_others_413 rfl ?_
          refine V_iconst C (v := 3) dL_others_414 (by decide) ?_
          refine V_ishr C dL_others_415 ?_
          refine V_bipush C (v := 9) dL_others_416 (by decide) ?_
          refine V_fS C (c_low _ hl G _ _ 9 (by decide) (by decide)) ks_L_145 ⟨by decide, by decide⟩ ⟨by decide, by decide⟩ rfl rfl (Nat.le_of_ble_eq_true rfl) dL_others_418 ?_
          dsimp only [Option.toList_some, Option.toList_none, List.cons_append, List.nil_append]
          refine V_callH C (w_visits _ hl G _ q a _ _ hP  (nI (lo y (cN σ 1))) (nI (lo (x >>> ((3 : Int32) &&& 31)) 9))) kh_L_174 ⟨by decide, by decide⟩ ⟨by decide, by decide⟩ rfl rfl (Nat.le_of_ble_eq_true rfl) dL_others_421 (fun v9 T9 h9 => ?_)
          obtain ⟨rfl, hP9⟩ := h9
          replace hP := hP9
          clear hP9
          dsimp only [Option.toList_some, Option.toList_none, List.cons_append, List.nil_append]
          rw [hR_0 tv3, e5, e4]
          generalize (oVisits σ2 (nI (lo y (cN σ 1))) (nI (lo (x >>> ((3 : Int32) &&& 31)) 9))).2 = σ3 at hP LV3 KV3
          refine V_iload C dL_others_424 rfl ?_
          refine V_icmp_ne C (tgt := 433) dL_others_426 (by decide) (fun h426 => absurd h426 (fun z => z rfl)) (fun h426 => ?_)
          refine V_iconst C (v := 1) dL_others_429 (by decide) ?_
          refine V_goto C (tgt := 434) dL_others_430 (by decide) ?_
          refine V_zret C rfl (by first | omega | decide) (by first | omega | decide) dL_others_434 ?_
          exact ⟨rfl, _, _, hP, WP_of hL LV3 rfl (by have := KV3.2; omega) rfl⟩
      ·
        obtain ⟨B9, b9t, b9f, b9c⟩ := pick (p := nI (lo (x >>> ((3 : Int32) &&& 31)) 2) = 0) 1 0
        refine V_or (tgt9 := 203) (st9 := [.int (nI B9)]) ?_ (fun J203 => ?_)
        ·
          refine V_istore C dL_others_203 (by decide) rfl ?_
          simp only [lset1, lset2, List.filter_cons, List.filter_nil, Nat.reduceBEq, Nat.reduceAdd, Bool.not_true, Bool.not_false, Bool.and_true, Bool.and_false, Bool.true_and, Bool.false_and, if_true, if_false, Bool.false_eq_true, reduceIte]
          refine V_aload_n C dL_others_205 rfl (by first | exact isR_r _ | exact isR_q _ | exact isR_n) ?_
          refine V_iload C dL_others_206 rfl ?_
          refine V_iload C dL_others_208 rfl ?_
          refine V_fH C (r_worth _ hl G S q a γ σ hP  (lo y (cN σ 1)) hi0 (lo (y >>> ((5 : Int32) &&& 31)) (cN σ 20)) hh0) kh_L_133 ⟨by decide, by decide⟩ ⟨by decide, by decide⟩ rfl rfl (Nat.le_of_ble_eq_true rfl) dL_others_210 ?_
          dsimp only [Option.toList_some, Option.toList_none, List.cons_append, List.nil_append]
          refine V_istore C dL_others_213 (by decide) rfl ?_
          simp only [lset1, lset2, List.filter_cons, List.filter_nil, Nat.reduceBEq, Nat.reduceAdd, Bool.not_true, Bool.not_false, Bool.and_true, Bool.and_false, Bool.true_and, Bool.false_and, if_true, if_false, Bool.false_eq_true, reduceIte]
          obtain ⟨tw, w1, w2, w3, w4⟩ := k_wish (b := nI B9) hW.1 hi0 hh0
          have LW := LJ_wish (x := nI (lo y (cN σ 1))) (h := nI (lo (y >>> ((5 : Int32) &&& 31)) (cN σ 20))) (b := nI B9) hL
          have KW1 := KW_wish (x := nI (lo y (cN σ 1))) (y := nI (lo (y >>> ((5 : Int32) &&& 31)) (cN σ 20))) (v := nI B9) hW
          obtain ⟨c1, c20, w5, w6⟩ := wish_2 (b := nI B9) hW.1 hi0 hh0 KW1.1.1
          refine V_aload_n C dL_others_215 rfl (by first | exact isR_r _ | exact isR_q _ | exact isR_n) ?_
          refine V_iload C dL_others_216 rfl ?_
          refine V_iload C dL_others_218 rfl ?_
          refine V_iload C dL_others_220 rfl ?_
          refine V_callH C (w_wish _ hl G _ q a _ _ hP  (nI (lo y (cN σ 1))) (nI (lo (y >>> ((5 : Int32) &&& 31)) (cN σ 20))) (nI B9)) kh_L_171 ⟨by decide, by decide⟩ ⟨by decide, by decide⟩ rfl rfl (Nat.le_of_ble_eq_true rfl) dL_others_222 (fun v9 T9 h9 => ?_)
          obtain ⟨rfl, hP9⟩ := h9
          replace hP := hP9
          clear hP9
          dsimp only [Option.toList_some, Option.toList_none, List.cons_append, List.nil_append]
          rw [hR_0 tw]
          generalize hs1 : oWish σ (nI (lo y (cN σ 1))) (nI (lo (y >>> ((5 : Int32) &&& 31)) (cN σ 20))) (nI B9) = σ1 at hP LW KW1 c1 c20 w1 w2 w3 w4 w5 w6
          obtain ⟨W1, K1⟩ := KW1
          have hi1 : lo y (cN σ 1) < cN σ1 1 := by rw [c1]; exact hi0
          have hh1 : lo (y >>> ((5 : Int32) &&& 31)) (cN σ 20) < cN σ1 20 := by rw [c20]; exact hh0
          refine V_if_ne C (tgt := 232) dL_others_225 (by decide) (fun h225 => absurd h225 (fun z => z rfl)) (fun h225 => ?_)
          refine V_iconst C (v := 1) dL_others_228 (by decide) ?_
          refine V_goto C (tgt := 233) dL_others_229 (by decide) ?_
          refine V_istore C dL_others_233 (by decide) rfl ?_
          simp only [lset1, lset2, List.filter_cons, List.filter_nil, Nat.reduceBEq, Nat.reduceAdd, Bool.not_true, Bool.not_false, Bool.and_true, Bool.and_false, Bool.true_and, Bool.false_and, if_true, if_false, Bool.false_eq_true, reduceIte]
          refine V_aload_n C dL_others_235 rfl (by first | exact isR_r _ | exact isR_q _ | exact isR_n) ?_
          refine V_iload C dL_others_236 rfl ?_
          refine V_iload C dL_others_238 rfl ?_
          refine V_fH C (r_worth _ hl G _ q a _ _ hP  (lo y (cN σ 1)) hi1 (lo (y >>> ((5 : Int32) &&& 31)) (cN σ 20)) hh1) kh_L_133 ⟨by decide, by decide⟩ ⟨by decide, by decide⟩ rfl rfl (Nat.le_of_ble_eq_true rfl) dL_others_240 ?_
          dsimp only [Option.toList_some, Option.toList_none, List.cons_append, List.nil_append]
          refine V_iload C dL_others_243 rfl ?_
          refine V_isub C dL_others_245 ?_
          rw [w1]
          refine V_istore C dL_others_246 (by decide) rfl ?_
          simp only [lset1, lset2, List.filter_cons, List.filter_nil, Nat.reduceBEq, Nat.reduceAdd, Bool.not_true, Bool.not_false, Bool.and_true, Bool.and_false, Bool.true_and, Bool.false_and, if_true, if_false, Bool.false_eq_true, reduceIte]
          refine V_iload C dL_others_248 rfl ?_
          refine V_if_eq C (tgt := 355) dL_others_250 (by decide) (fun h250 => absurd h250 (by decide)) (fun h250 => ?_)
          have w0 := wsW_3 (σ.1 19 (10 * (lo y (cN σ 1)) + (lo (y >>> ((5 : Int32) &&& 31)) (cN σ 20))))
          refine V_or (tgt9 := 299) (st9 := []) ?_ (fun J299 => ?_)
          ·
            obtain ⟨tw2, -⟩ := k_wish (b := nI B9) W1.1 hi1 hh1
            have LW2 := LJ_wish (x := nI (lo y (cN σ 1))) (h := nI (lo (y >>> ((5 : Int32) &&& 31)) (cN σ 20))) (b := nI B9) LW
            have KW2 := KW_wish (x := nI (lo y (cN σ 1))) (y := nI (lo (y >>> ((5 : Int32) &&& 31)) (cN σ 20))) (v := nI B9) W1
            obtain ⟨d1, d20, -, -⟩ := wish_2 (b := nI B9) W1.1 hi1 hh1 KW2.1.1
            refine V_aload_n C dL_others_299 rfl (by first | exact isR_r _ | exact isR_q _ | exact isR_n) ?_
            refine V_iload C dL_others_300 rfl ?_
            refine V_iload C dL_others_302 rfl ?_
            refine V_iload C dL_others_304 rfl ?_
            refine V_callH C (w_wish _ hl G _ q a _ _ hP  (nI (lo y (cN σ 1))) (nI (lo (y >>> ((5 : Int32) &&& 31)) (cN σ 20))) (nI B9)) kh_L_171 ⟨by decide, by decide⟩ ⟨by decide, by decide⟩ rfl rfl (Nat.le_of_ble_eq_true rfl) dL_others_306 (fun v9 T9 h9 => ?_)
            obtain ⟨rfl, hP9⟩ := h9
            replace hP := hP9
            clear hP9
            dsimp only [Option.toList_some, Option.toList_none, List.cons_append, List.nil_append]
            rw [hR_0 tw2]
            generalize oWish σ1 (nI (lo y (cN σ 1))) (nI (lo (y >>> ((5 : Int32) &&& 31)) (cN σ 20))) (nI B9) = σ2 at hP LW2 KW2 d1 d20 w5 w6
            have hi2 : lo y (cN σ 1) < cN σ2 1 := by rw [d1]; exact hi1
            have hh2 : lo (y >>> ((5 : Int32) &&& 31)) (cN σ 20) < cN σ2 20 := by rw [d20]; exact hh1
            refine V_if_ne C (tgt := 355) dL_others_309 (by decide) (fun h309 => absurd h309 (fun z => z rfl)) (fun h309 => ?_)
            refine V_aload_n C dL_others_312 rfl (by first | exact isR_r _ | exact isR_q _ | exact isR_n) ?_
            refine V_iload C dL_others_313 rfl ?_
            refine V_iload C dL_others_315 rfl ?_
            refine V_fH C (r_worth _ hl G _ q a _ _ hP  (lo y (cN σ 1)) hi2 (lo (y >>> ((5 : Int32) &&& 31)) (cN σ 20)) hh2) kh_L_133 ⟨by decide, by decide⟩ ⟨by decide, by decide⟩ rfl rfl (Nat.le_of_ble_eq_true rfl) dL_others_317 ?_
            dsimp only [Option.toList_some, Option.toList_none, List.cons_append, List.nil_append]
            rw [w5]
            refine V_iload C dL_others_320 rfl ?_
            refine V_iload C dL_others_322 rfl ?_
            refine V_iadd C dL_others_324 ?_
            refine V_icmp_ne C (tgt := 355) dL_others_325 (by decide) (fun h325 => absurd h325 (fun z => z (by rw [← w1]; exact worth_back _ _ 0 0))) (fun h325 => ?_)
            refine V_aload_n C dL_others_328 rfl (by first | exact isR_r _ | exact isR_q _ | exact isR_n) ?_
            refine V_iload C dL_others_329 rfl ?_
            refine V_iload C dL_others_331 rfl ?_
            refine V_fH C (r_why _ hl G _ q a _ _ hP  (lo y (cN σ 1)) hi2 (lo (y >>> ((5 : Int32) &&& 31)) (cN σ 20)) hh2) kh_L_131 ⟨by decide, by decide⟩ ⟨by decide, by decide⟩ rfl rfl (Nat.le_of_ble_eq_true rfl) dL_others_333 ?_
            dsimp only [Option.toList_some, Option.toList_none, List.cons_append, List.nil_append]
            refine V_iload C dL_others_336 rfl ?_
            refine V_if_eq C (tgt := 346) dL_others_338 (by decide) (fun h338 => ?_) (fun h338 => ?_)
            ·
              refine V_bipush C (v := 99) dL_others_346 (by decide) ?_
              refine V_icmp_eq C (tgt := 355) dL_others_348 (by decide) (fun h348 => absurd h348 (fun z => by
                  obtain ⟨m, m1, m2⟩ := mWhyNot_n σ2 (lo y (cN σ 1)) (lo (y >>> ((5 : Int32) &&& 31)) (cN σ 20))
                  have := (nI_eq (b := 99) (by omega) (by decide)).mp (m2.symm.trans z)
                  omega)) (fun h348 => ?_)
              refine V_iconst C (v := 1) dL_others_351 (by decide) ?_
              refine V_goto C (tgt := 356) dL_others_352 (by decide) ?_
              refine V_zret C rfl (by first | omega | decide) (by first | omega | decide) dL_others_356 ?_
              exact ⟨rfl, _, _, hP, WP_of hL LW2 rfl (by have := KW2.2; omega) rfl⟩
            ·
              refine V_bipush C (v := 7) dL_others_341 (by decide) ?_
              refine V_goto C (tgt := 348) dL_others_343 (by decide) ?_
              refine V_icmp_eq C (tgt := 355) dL_others_348 (by decide) (fun h348 => absurd h348 (why_7 (by rw [w6, if_pos h338]; decide))) (fun h348 => ?_)
              refine V_iconst C (v := 1) dL_others_351 (by decide) ?_
              refine V_goto C (tgt := 356) dL_others_352 (by decide) ?_
              refine V_zret C rfl (by first | omega | decide) (by first | omega | decide) dL_others_356 ?_
              exact ⟨rfl, _, _, hP, WP_of hL LW2 rfl (by have := KW2.2; omega) rfl⟩
          ·
            refine V_iload C dL_others_253 rfl ?_
            refine V_if_eq C (tgt := 280) dL_others_255 (by decide) (fun h255 => ?_) (fun h255 => ?_)
            ·
              rcases w0 with w0 | w0 | w0
              ·
                rw [show wsW (if ¬ nI B9 = 0 then 1 else if 12 ≤ mYears σ (lo y (cN σ 1)) (σ.2 0) then 3 else 2) - wsW (σ.1 19 (10 * (lo y (cN σ 1)) + (lo (y >>> ((5 : Int32) &&& 31)) (cN σ 20)))) = (-8) from by
                  rw [w0, if_neg (fun z => z h255)]
                  by_cases g : 12 ≤ mYears σ (lo y (cN σ 1)) (σ.2 0)
                  · rw [if_pos g]; decide
                  · rw [if_neg g]; decide] at J299 ⊢
                refine V_iload C dL_others_280 rfl ?_
                refine V_if_eq C (tgt := 299) dL_others_282 (by decide) (fun h282 => absurd h282 (by decide)) (fun h282 => ?_)
                refine V_iload C dL_others_285 rfl ?_
                refine V_bipush C (v := (-8)) dL_others_287 (by decide) ?_
                refine V_icmp_eq C (tgt := 299) dL_others_289 (by decide) (fun h289 => ?_) (fun h289 => absurd (rfl) h289)
                exact J299
              ·
                rw [show wsW (if ¬ nI B9 = 0 then 1 else if 12 ≤ mYears σ (lo y (cN σ 1)) (σ.2 0) then 3 else 2) - wsW (σ.1 19 (10 * (lo y (cN σ 1)) + (lo (y >>> ((5 : Int32) &&& 31)) (cN σ 20)))) = (-16) from by
                  rw [w0, if_neg (fun z => z h255)]
                  by_cases g : 12 ≤ mYears σ (lo y (cN σ 1)) (σ.2 0)
                  · rw [if_pos g]; decide
                  · rw [if_neg g]; decide] at J299 ⊢
                refine V_iload C dL_others_280 rfl ?_
                refine V_if_eq C (tgt := 299) dL_others_282 (by decide) (fun h282 => absurd h282 (by decide)) (fun h282 => ?_)
                refine V_iload C dL_others_285 rfl ?_
                refine V_bipush C (v := (-8)) dL_others_287 (by decide) ?_
                refine V_icmp_eq C (tgt := 299) dL_others_289 (by decide) (fun h289 => absurd h289 (by decide)) (fun h289 => ?_)
                refine V_iload C dL_others_292 rfl ?_
                refine V_bipush C (v := (-16)) dL_others_294 (by decide) ?_
                refine V_icmp_ne C (tgt := 355) dL_others_296 (by decide) (fun h296 => absurd h296 (fun z => z rfl)) (fun h296 => ?_)
                exact J299
              ·
                rw [show wsW (if ¬ nI B9 = 0 then 1 else if 12 ≤ mYears σ (lo y (cN σ 1)) (σ.2 0) then 3 else 2) - wsW (σ.1 19 (10 * (lo y (cN σ 1)) + (lo (y >>> ((5 : Int32) &&& 31)) (cN σ 20)))) = 0 from by
                  rw [w0, if_neg (fun z => z h255)]
                  by_cases g : 12 ≤ mYears σ (lo y (cN σ 1)) (σ.2 0)
                  · rw [if_pos g]; decide
                  · rw [if_neg g]; decide] at J299 ⊢
                refine V_iload C dL_others_280 rfl ?_
                refine V_if_eq C (tgt := 299) dL_others_282 (by decide) (fun h282 => ?_) (fun h282 => absurd (rfl) h282)
                exact J299
            ·
              rcases w0 with w0 | w0 | w0
              ·
                rw [show wsW (if ¬ nI B9 = 0 then 1 else if 12 ≤ mYears σ (lo y (cN σ 1)) (σ.2 0) then 3 else 2) - wsW (σ.1 19 (10 * (lo y (cN σ 1)) + (lo (y >>> ((5 : Int32) &&& 31)) (cN σ 20)))) = 8 from by
                  rw [w0, if_pos h255]
                  decide] at J299 ⊢
                refine V_iload C dL_others_258 rfl ?_
                refine V_if_eq C (tgt := 299) dL_others_260 (by decide) (fun h260 => absurd h260 (by decide)) (fun h260 => ?_)
                refine V_iload C dL_others_263 rfl ?_
                refine V_bipush C (v := 8) dL_others_265 (by decide) ?_
                refine V_icmp_eq C (tgt := 299) dL_others_267 (by decide) (fun h267 => ?_) (fun h267 => absurd (rfl) h267)
                exact J299
              ·
                rw [show wsW (if ¬ nI B9 = 0 then 1 else if 12 ≤ mYears σ (lo y (cN σ 1)) (σ.2 0) then 3 else 2) - wsW (σ.1 19 (10 * (lo y (cN σ 1)) + (lo (y >>> ((5 : Int32) &&& 31)) (cN σ 20)))) = 0 from by
                  rw [w0, if_pos h255]
                  decide] at J299 ⊢
                refine V_iload C dL_others_258 rfl ?_
                refine V_if_eq C (tgt := 299) dL_others_260 (by decide) (fun h260 => ?_) (fun h260 => absurd (rfl) h260)
                exact J299
              ·
                rw [show wsW (if ¬ nI B9 = 0 then 1 else if 12 ≤ mYears σ (lo y (cN σ 1)) (σ.2 0) then 3 else 2) - wsW (σ.1 19 (10 * (lo y (cN σ 1)) + (lo (y >>> ((5 : Int32) &&& 31)) (cN σ 20)))) = 16 from by
                  rw [w0, if_pos h255]
                  decide] at J299 ⊢
                refine V_iload C dL_others_258 rfl ?_
                refine V_if_eq C (tgt := 299) dL_others_260 (by decide) (fun h260 => absurd h260 (by decide)) (fun h260 => ?_)
                refine V_iload C dL_others_263 rfl ?_
                refine V_bipush C (v := 8) dL_others_265 (by decide) ?_
                refine V_icmp_eq C (tgt := 299) dL_others_267 (by decide) (fun h267 => absurd h267 (by decide)) (fun h267 => ?_)
                refine V_iload C dL_others_270 rfl ?_
                refine V_bipush C (v := 16) dL_others_272 (by decide) ?_
                refine V_icmp_ne C (tgt := 355) dL_others_274 (by decide) (fun h274 => absurd h274 (fun z => z rfl)) (fun h274 => ?_)
                refine V_goto C (tgt := 299) dL_others_277 (by decide) ?_
                exact J299
        ·
          refine V_iload_n C dL_others_188 rfl ?_
          refine V_iconst C (v := 3) dL_others_189 (by decide) ?_
          refine V_ishr C dL_others_190 ?_
          refine V_iconst C (v := 2) dL_others_191 (by decide) ?_
          refine V_fS C (c_low _ hl G _ _ 2 (by decide) (by decide)) ks_L_145 ⟨by decide, by decide⟩ ⟨by decide, by decide⟩ rfl rfl (Nat.le_of_ble_eq_true rfl) dL_others_192 ?_
          dsimp only [Option.toList_some, Option.toList_none, List.cons_append, List.nil_append]
          refine V_if_ne C (tgt := 202) dL_others_195 (by decide) (fun h195 => ?_) (fun h195 => ?_)
          ·
            refine V_iconst C (v := 0) dL_others_202 (by decide) ?_
            rw [show (0 : Int32) = nI B9 from (congrArg nI (b9f h195) : nI 0 = nI B9)]
            exact J203
          ·
            refine V_iconst C (v := 1) dL_others_198 (by decide) ?_
            refine V_goto C (tgt := 203) dL_others_199 (by decide) ?_
            rw [show nI B9 = (1 : Int32) from (congrArg nI (b9t h195) : nI 1 = nI B9).symm] at J203
            exact J203
    ·
      refine V_aload_n C dL_others_122 rfl (by first | exact isR_r _ | exact isR_q _ | exact isR_n) ?_
      refine V_iload C dL_others_123 rfl ?_
      refine V_fH C (r_seeBy _ hl G S q a γ σ hP  (lo y (cN σ 1)) hi0) kh_L_129 ⟨by decide, by decide⟩ ⟨by decide, by decide⟩ rfl rfl (Nat.le_of_ble_eq_true rfl) dL_others_125 ?_
      dsimp only [Option.toList_some, Option.toList_none, List.cons_append, List.nil_append]
      refine V_istore C dL_others_128 (by decide) rfl ?_
      simp only [lset1, lset2, List.filter_cons, List.filter_nil, Nat.reduceBEq, Nat.reduceAdd, Bool.not_true, Bool.not_false, Bool.and_true, Bool.and_false, Bool.true_and, Bool.false_and, if_true, if_false, Bool.false_eq_true, reduceIte]
      obtain ⟨ts, s1, N1, e0, e9⟩ := k_see hW hYI hi0
      have LS := LJ_see (x := nI (lo y (cN σ 1))) hL
      have KS := KW_see (x := nI (lo y (cN σ 1))) hW
      have hby := rSee_n (σ := σ) (k := lo y (cN σ 1)) (seen := σ.1 9 (lo y (cN σ 1))) hW.1 (hYI.2.2.2 (lo y (cN σ 1)) hi0)
      refine V_aload_n C dL_others_130 rfl (by first | exact isR_r _ | exact isR_q _ | exact isR_n) ?_
      refine V_iload C dL_others_131 rfl ?_
      refine V_callH C (w_see _ hl G _ q a _ _ hP  (nI (lo y (cN σ 1)))) kh_L_169 ⟨by decide, by decide⟩ ⟨by decide, by decide⟩ rfl rfl (Nat.le_of_ble_eq_true rfl) dL_others_133 (fun v9 T9 h9 => ?_)
      obtain ⟨rfl, hP9⟩ := h9
      replace hP := hP9
      clear hP9
      dsimp only [Option.toList_some, Option.toList_none, List.cons_append, List.nil_append]
      rw [hR_0 ts, s1]
      generalize (oSee σ (nI (lo y (cN σ 1)))).2 = σ1 at hP LS KS N1 e0 e9
      obtain ⟨W1, K1⟩ := KS
      have hi1 : lo y (cN σ 1) < cN σ1 1 := by rw [N1]; exact hi0
      have z1 : rSee (rAll σ1 (lo y (cN σ 1))) (σ1.2 0) (σ1.1 9 (lo y (cN σ 1))) = -1 := by
        rw [e9, ← e0]
        exact rSee_0 W1.1 (LS.2.1.1.2.2.2 (lo y (cN σ 1)) hi1)
      refine V_or (tgt9 := 154) (st9 := [.int (pI9 (¬ rSee (rAll σ (lo y (cN σ 1))) (σ.2 0) (σ.1 9 (lo y (cN σ 1))) = -1 ∧ rSee (rAll σ (lo y (cN σ 1))) (σ.2 0) (σ.1 9 (lo y (cN σ 1))) < σ.2 0)), .int (pI9 (¬ rSee (rAll σ (lo y (cN σ 1))) (σ.2 0) (σ.1 9 (lo y (cN σ 1))) = -1 ∧ rSee (rAll σ (lo y (cN σ 1))) (σ.2 0) (σ.1 9 (lo y (cN σ 1))) < σ.2 0))]) ?_ (fun J154 => ?_)
      ·
        refine V_icmp_ne C (tgt := 180) dL_others_154 (by decide) (fun h154 => absurd h154 (fun z => z rfl)) (fun h154 => ?_)
        refine V_aload_n C dL_others_157 rfl (by first | exact isR_r _ | exact isR_q _ | exact isR_n) ?_
        refine V_iload C dL_others_158 rfl ?_
        refine V_fH C (r_seeBy _ hl G _ q a _ _ hP  (lo y (cN σ 1)) hi1) kh_L_129 ⟨by decide, by decide⟩ ⟨by decide, by decide⟩ rfl rfl (Nat.le_of_ble_eq_true rfl) dL_others_160 ?_
        dsimp only [Option.toList_some, Option.toList_none, List.cons_append, List.nil_append]
        rw [z1]
        refine V_iconst C (v := (-1)) dL_others_163 (by decide) ?_
        refine V_icmp_ne C (tgt := 180) dL_others_164 (by decide) (fun h164 => absurd h164 (fun z => z rfl)) (fun h164 => ?_)
        obtain ⟨ts2, s2, -⟩ := k_see W1 LS.2.1.1 hi1
        rw [z1, pI9_f (fun z => z.1 rfl)] at s2
        have LS2 := LJ_see (x := nI (lo y (cN σ 1))) LS
        have KS2 := KW_see (x := nI (lo y (cN σ 1))) W1
        refine V_aload_n C dL_others_167 rfl (by first | exact isR_r _ | exact isR_q _ | exact isR_n) ?_
        refine V_iload C dL_others_168 rfl ?_
        refine V_callH C (w_see _ hl G _ q a _ _ hP  (nI (lo y (cN σ 1)))) kh_L_169 ⟨by decide, by decide⟩ ⟨by decide, by decide⟩ rfl rfl (Nat.le_of_ble_eq_true rfl) dL_others_170 (fun v9 T9 h9 => ?_)
        obtain ⟨rfl, hP9⟩ := h9
        replace hP := hP9
        clear hP9
        dsimp only [Option.toList_some, Option.toList_none, List.cons_append, List.nil_append]
        rw [hR_0 ts2, s2]
        generalize (oSee σ1 (nI (lo y (cN σ 1)))).2 = σ2 at hP LS2 KS2
        refine V_if_ne C (tgt := 180) dL_others_173 (by decide) (fun h173 => absurd h173 (fun z => z rfl)) (fun h173 => ?_)
        refine V_iconst C (v := 1) dL_others_176 (by decide) ?_
        refine V_goto C (tgt := 181) dL_others_177 (by decide) ?_
        refine V_zret C rfl (by first | omega | decide) (by first | omega | decide) dL_others_181 ?_
        exact ⟨rfl, _, _, hP, WP_of hL LS2 rfl (by have := KS2.2; omega) rfl⟩
      ·
        refine V_iload C dL_others_136 rfl ?_
        refine V_if_lt C (tgt := 153) dL_others_138 (by decide) (fun h138 => ?_) (fun h138 => ?_)
        ·
          refine V_iconst C (v := 0) dL_others_153 (by decide) ?_
          have J := J154
          rw [pI9_f (p := ¬ rSee (rAll σ (lo y (cN σ 1))) (σ.2 0) (σ.1 9 (lo y (cN σ 1))) = -1 ∧ rSee (rAll σ (lo y (cN σ 1))) (σ.2 0) (σ.1 9 (lo y (cN σ 1))) < σ.2 0) (fun z => by
            rcases hby with e | ⟨n, n1, e⟩
            · exact z.1 e
            · rw [e] at h138
              exact nI_pos (by omega) h138)] at J ⊢
          exact J
        ·
          refine V_aload_n C dL_others_141 rfl (by first | exact isR_r _ | exact isR_q _ | exact isR_n) ?_
          refine V_iconst C (v := 4) dL_others_142 (by decide) ?_
          refine V_gl C hP 0 4 (by decide) (by decide) rfl (e04.trans s0.symm) dL_others_143 ?_
          refine V_iload C dL_others_144 rfl ?_
          refine V_icmp_le C (tgt := 153) dL_others_146 (by decide) (fun h146 => ?_) (fun h146 => ?_)
          ·
            refine V_iconst C (v := 0) dL_others_153 (by decide) ?_
            have J := J154
            rw [pI9_f (p := ¬ rSee (rAll σ (lo y (cN σ 1))) (σ.2 0) (σ.1 9 (lo y (cN σ 1))) = -1 ∧ rSee (rAll σ (lo y (cN σ 1))) (σ.2 0) (σ.1 9 (lo y (cN σ 1))) < σ.2 0) (fun z => Int32.not_lt.mpr h146 z.2)] at J ⊢
            exact J
          ·
            refine V_iconst C (v := 1) dL_others_149 (by decide) ?_
            refine V_goto C (tgt := 154) dL_others_150 (by decide) ?_
            have J := J154
            rw [pI9_t (p := ¬ rSee (rAll σ (lo y (cN σ 1))) (σ.2 0) (σ.1 9 (lo y (cN σ 1))) = -1 ∧ rSee (rAll σ (lo y (cN σ 1))) (σ.2 0) (σ.1 9 (lo y (cN σ 1))) < σ.2 0) ⟨fun e => h138 (by rw [e]; decide), Int32.not_le.mp h146⟩] at J ⊢
            exact J
  ·
    refine V_aload_n C dL_others_35 rfl (by first | exact isR_r _ | exact isR_q _ | exact isR_n) ?_
    refine V_iload C dL_others_36 rfl ?_
    refine V_fH C (r_risk _ hl G S q a γ σ hP  (lo y (cN σ 1)) hi0) kh_L_127 ⟨by decide, by decide⟩ ⟨by decide, by decide⟩ rfl rfl (Nat.le_of_ble_eq_true rfl) dL_others_38 ?_
    dsimp only [Option.toList_some, Option.toList_none, List.cons_append, List.nil_append]
    refine V_istore C dL_others_41 (by decide) rfl ?_
    simp only [lset1, lset2, List.filter_cons, List.filter_nil, Nat.reduceBEq, Nat.reduceAdd, Bool.not_true, Bool.not_false, Bool.and_true, Bool.and_false, Bool.true_and, Bool.false_and, if_true, if_false, Bool.false_eq_true, reduceIte]
    refine V_aload_n C dL_others_43 rfl (by first | exact isR_r _ | exact isR_q _ | exact isR_n) ?_
    refine V_iload C dL_others_44 rfl ?_
    refine V_iload_n C dL_others_46 rfl ?_
    refine V_iconst C (v := 3) dL_others_47 (by decide) ?_
    refine V_ishr C dL_others_48 ?_
    refine V_bipush C (v := 10) dL_others_49 (by decide) ?_
    refine V_fS C (c_low _ hl G _ _ 10 (by decide) (by decide)) ks_L_145 ⟨by decide, by decide⟩ ⟨by decide, by decide⟩ rfl rfl (Nat.le_of_ble_eq_true rfl) dL_others_51 ?_
    dsimp only [Option.toList_some, Option.toList_none, List.cons_append, List.nil_append]
    refine V_iconst C (v := 1) dL_others_54 (by decide) ?_
    refine V_iload_n C dL_others_55 rfl ?_
    refine V_bipush C (v := 7) dL_others_56 (by decide) ?_
    refine V_ishr C dL_others_58 ?_
    refine V_bipush C (v := 9) dL_others_59 (by decide) ?_
    refine V_fS C (c_low _ hl G _ _ 9 (by decide) (by decide)) ks_L_145 ⟨by decide, by decide⟩ ⟨by decide, by decide⟩ rfl rfl (Nat.le_of_ble_eq_true rfl) dL_others_61 ?_
    dsimp only [Option.toList_some, Option.toList_none, List.cons_append, List.nil_append]
    refine V_iadd C dL_others_64 ?_
    rw [show (1 : Int32) + nI (lo (x >>> ((7 : Int32) &&& 31)) 9) = nI (1 + lo (x >>> ((7 : Int32) &&& 31)) 9) from nI_add 1 _]
    have b1 := lo_lt (x >>> ((3 : Int32) &&& 31)) (n := 10) (by decide)
    have b2 := lo_lt (x >>> ((7 : Int32) &&& 31)) (n := 9) (by decide)
    have kr := k_report hW hYI (x := lo y (cN σ 1)) (s := lo (x >>> ((3 : Int32) &&& 31)) 10) (w := 1 + lo (x >>> ((7 : Int32) &&& 31)) 9) hi0 (by omega) (by omega) (by omega)
    have LR := LJ_report (x := nI (lo y (cN σ 1))) (s := nI (lo (x >>> ((3 : Int32) &&& 31)) 10)) (w := nI (1 + lo (x >>> ((7 : Int32) &&& 31)) 9)) hW.1 hL
    have KR := KW_report (a := nI (lo y (cN σ 1))) (b := nI (lo (x >>> ((3 : Int32) &&& 31)) 10)) (c := nI (1 + lo (x >>> ((7 : Int32) &&& 31)) 9)) hW
    have c30 := (hW.1.2.2.2.2.2.2.1 (lo y (cN σ 1)) (by omega)).2
    rcases Nat.lt_or_ge (rN σ (lo y (cN σ 1))) 30 with hr30 | hr30
    ·
      obtain ⟨tr, N1, r, v, v1, v2, v3, v4, v5, v6⟩ := kr.2 hr30
      refine V_callH C (w_report _ hl G _ q a _ _ hP  (nI (lo y (cN σ 1))) (nI (lo (x >>> ((3 : Int32) &&& 31)) 10)) (nI (1 + lo (x >>> ((7 : Int32) &&& 31)) 9))) kh_L_167 ⟨by decide, by decide⟩ ⟨by decide, by decide⟩ rfl rfl (Nat.le_of_ble_eq_true rfl) dL_others_65 (fun v9 T9 h9 => ?_)
      obtain ⟨rfl, hP9⟩ := h9
      replace hP := hP9
      clear hP9
      dsimp only [Option.toList_some, Option.toList_none, List.cons_append, List.nil_append]
      rw [hR_0 tr, v5]
      generalize (oReport σ (nI (lo y (cN σ 1))) (nI (lo (x >>> ((3 : Int32) &&& 31)) 10)) (nI (1 + lo (x >>> ((7 : Int32) &&& 31)) 9))).2 = σ1 at hP LR KR N1 v6
      rw [v4]
      refine V_istore C dL_others_68 (by decide) rfl ?_
      simp only [lset1, lset2, List.filter_cons, List.filter_nil, Nat.reduceBEq, Nat.reduceAdd, Bool.not_true, Bool.not_false, Bool.and_true, Bool.and_false, Bool.true_and, Bool.false_and, if_true, if_false, Bool.false_eq_true, reduceIte]
      refine V_iload C dL_others_70 rfl ?_
      refine V_ldc C dL_others_72 cs_L_21 ?_
      refine V_icmp_eq C (tgt := 110) dL_others_74 (by decide) (fun h74 => absurd h74 (fun z => absurd (nI_pos' (n := r + v) (by omega)) (by rw [z]; decide))) (fun h74 => ?_)
      refine V_iload C dL_others_77 rfl ?_
      refine V_iload C dL_others_79 rfl ?_
      refine V_icmp_lt C (tgt := 114) dL_others_81 (by decide) (fun h81 => absurd h81 (Int32.not_lt.mpr (nI_le (by omega) (by omega)))) (fun h81 => ?_)
      refine V_iload C dL_others_84 rfl ?_
      refine V_iload C dL_others_86 rfl ?_
      refine V_bipush C (v := 9) dL_others_88 (by decide) ?_
      refine V_iadd C dL_others_90 ?_
      rw [show nI r + 9 = nI (r + 9) from nI_add r 9]
      refine V_icmp_gt C (tgt := 114) dL_others_91 (by decide) (fun h91 => absurd h91 (Int32.not_lt.mpr (nI_le (by omega) (by omega)))) (fun h91 => ?_)
      refine V_aload_n C dL_others_94 rfl (by first | exact isR_r _ | exact isR_q _ | exact isR_n) ?_
      refine V_iload C dL_others_95 rfl ?_
      refine V_fH C (r_risk _ hl G _ q a _ _ hP  (lo y (cN σ 1)) (by rw [N1]; exact hi0)) kh_L_127 ⟨by decide, by decide⟩ ⟨by decide, by decide⟩ rfl rfl (Nat.le_of_ble_eq_true rfl) dL_others_97 ?_
      dsimp only [Option.toList_some, Option.toList_none, List.cons_append, List.nil_append]
      rw [v6]
      refine V_iload C dL_others_100 rfl ?_
      refine V_icmp_ne C (tgt := 114) dL_others_102 (by decide) (fun h102 => absurd h102 (fun z => z rfl)) (fun h102 => ?_)
      refine V_iload C dL_others_105 rfl ?_
      refine V_if_le C (tgt := 114) dL_others_107 (by decide) (fun h107 => absurd h107 (nI_nle (by omega) (by omega))) (fun h107 => ?_)
      refine V_iconst C (v := 1) dL_others_110 (by decide) ?_
      refine V_goto C (tgt := 115) dL_others_111 (by decide) ?_
      refine V_zret C rfl (by first | omega | decide) (by first | omega | decide) dL_others_115 ?_
      exact ⟨rfl, _, _, hP, WP_of hL LR rfl (by have := KR.2; omega) rfl⟩
    ·
      obtain ⟨tr, er⟩ := kr.1 (by omega)
      refine V_callH C (w_report _ hl G _ q a _ _ hP  (nI (lo y (cN σ 1))) (nI (lo (x >>> ((3 : Int32) &&& 31)) 10)) (nI (1 + lo (x >>> ((7 : Int32) &&& 31)) 9))) kh_L_167 ⟨by decide, by decide⟩ ⟨by decide, by decide⟩ rfl rfl (Nat.le_of_ble_eq_true rfl) dL_others_65 (fun v9 T9 h9 => ?_)
      obtain ⟨rfl, hP9⟩ := h9
      replace hP := hP9
      clear hP9
      dsimp only [Option.toList_some, Option.toList_none, List.cons_append, List.nil_append]
      rw [hR_3 tr]
      refine V_istore C dL_others_68 (by decide) rfl ?_
      simp only [lset1, lset2, List.filter_cons, List.filter_nil, Nat.reduceBEq, Nat.reduceAdd, Bool.not_true, Bool.not_false, Bool.and_true, Bool.and_false, Bool.true_and, Bool.false_and, if_true, if_false, Bool.false_eq_true, reduceIte]
      refine V_iload C dL_others_70 rfl ?_
      refine V_ldc C dL_others_72 cs_L_21 ?_
      refine V_icmp_eq C (tgt := 110) dL_others_74 (by decide) (fun h74 => ?_) (fun h74 => absurd (rfl) h74)
      refine V_iconst C (v := 1) dL_others_110 (by decide) ?_
      refine V_goto C (tgt := 115) dL_others_111 (by decide) ?_
      refine V_zret C rfl (by first | omega | decide) (by first | omega | decide) dL_others_115 ?_
      exact ⟨rfl, _, _, hP, WP_of hL LR rfl (by have := KR.2; omega) rfl⟩
