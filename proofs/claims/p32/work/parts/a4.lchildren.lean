/-! THE LAW: areChildren. -/
theorem nI_0le (b : Nat) (h : b < 2 ^ 31) : (0 : Int32) ≤ nI b := by
  rw [Int32.le_iff_toInt_le, nI_toInt h, show (0 : Int32).toInt = 0 from rfl]
  omega
theorem c_areChildren (l : Launch) (hl : l.stackTraces = false) (G : gG) (S : sS) (q : Nat) (a : Nat → Nat) (γ : Nat → Nat → Int32) (σ : aS) (hP : PW S q a γ σ) (hL : IL σ γ) (hA : AC σ) : CtF l G yL_areChildren cL_areChildren 14 (Option.some FieldType.boolean) 10 80 600 [.ref q, .ref (a 0), .ref (a 1), .ref (a 2), .ref (a 4)] S (some (.int 1)) S := by
  refine Ct_of (by decide) (cat1_all (by repeat first | exact trivial | refine ⟨by first | rfl | exact isR_c (isR_r _), ?_⟩)) (Nat.le_of_ble_eq_true rfl) hl fun X C hXl hin => ?_
  subst hXl
  dsimp only [lArgs, Nat.reduceAdd]
  have hW := PW_W hP
  have n1 : cN σ 1 ≤ 16 := hW.1.2.1.2
  have n43 : cN σ 43 ≤ 100 := hW.1.2.2.2.2.2.1.2
  obtain ⟨⟨e00, e01, e02, e03, e04⟩, ⟨n20, n38⟩, eK, eM, eO⟩ := hL
  have L4 : ∀ m, m < cN σ 20 → ∀ t j, j + t = cN σ 1 → V X G 14 (eQ X G (fun v T => v = some (.int 1) ∧ T = S) (fun _ _ => False) 80 600) 66 396 480 [(8, false, .int (fsum (hmT σ m) (cN σ 1))), (7, false, .int (nI m)), (6, false, .int (fsum (σ.1 11) (cN σ 1))), (5, false, .int 1), (4, false, .ref (a 4)), (3, false, .ref (a 2)), (2, false, .ref (a 1)), (1, false, .ref (a 0)), (0, false, .ref q)] [] S → V X G 14 (eQ X G (fun v T => v = some (.int 1) ∧ T = S) (fun _ _ => False) 80 600) 66 396 444 [(9, false, .int (nI j)), (8, false, .int (fsum (hmT σ m) j)), (7, false, .int (nI m)), (6, false, .int (fsum (σ.1 11) (cN σ 1))), (5, false, .int 1), (4, false, .ref (a 4)), (3, false, .ref (a 2)), (2, false, .ref (a 1)), (1, false, .ref (a 0)), (0, false, .ref q)] [] S := by
    intro m hm t
    induction t with
    | zero =>
      intro j hj kk
      refine V_iload C dL_areChildren_444 rfl ?_
      refine V_aload_n C dL_areChildren_446 rfl (by first | exact isR_r _ | exact isR_q _ | exact isR_n) ?_
      refine V_iconst C (v := 0) dL_areChildren_447 (by decide) ?_
      refine V_gl C hP 0 0 (by decide) (by decide) rfl e00 dL_areChildren_448 ?_
      refine V_igeN C (tgt := 480) (by omega) (by omega) dL_areChildren_449 (by decide) (fun h449 => ?_) (fun h449 => ?_)
      ·
        obtain rfl : j = cN σ 1 := by omega
        exact V_sub (by repeat first | exact trivial | refine ⟨rfl, ?_⟩) kk
      ·
        omega
    | succ t ih =>
      intro j hj kk
      refine V_iload C dL_areChildren_444 rfl ?_
      refine V_aload_n C dL_areChildren_446 rfl (by first | exact isR_r _ | exact isR_q _ | exact isR_n) ?_
      refine V_iconst C (v := 0) dL_areChildren_447 (by decide) ?_
      refine V_gl C hP 0 0 (by decide) (by decide) rfl e00 dL_areChildren_448 ?_
      refine V_igeN C (tgt := 480) (by omega) (by omega) dL_areChildren_449 (by decide) (fun h449 => ?_) (fun h449 => ?_)
      ·
        obtain rfl : j = cN σ 1 := by omega
        exact V_sub (by repeat first | exact trivial | refine ⟨rfl, ?_⟩) kk
      ·
        refine V_iload C dL_areChildren_452 rfl ?_
        refine V_aload_n C dL_areChildren_454 rfl (by first | exact isR_r _ | exact isR_q _ | exact isR_n) ?_
        refine V_iload C dL_areChildren_455 rfl ?_
        refine V_iconst C (v := 0) dL_areChildren_457 (by decide) ?_
        refine V_fH C (r_is0 _ hl G S q a γ σ hP  j (by omega)) kh_L_119 (by decide) ⟨(by omega : _ ≤ 80), (by omega : _ ≤ 600)⟩ rfl rfl (Nat.le_of_ble_eq_true rfl) dL_areChildren_458 ?_
        dsimp only [Option.toList_some, Option.toList_none, List.cons_append, List.nil_append]
        refine V_iload C dL_areChildren_461 rfl ?_
        refine V_icmp_ne C (tgt := 470) dL_areChildren_463 (by decide) (fun h463 => ?_) (fun h463 => ?_)
        ·
          refine V_iconst C (v := 0) dL_areChildren_470 (by decide) ?_
          refine V_iadd C dL_areChildren_471 ?_
          rw [show fsum (hmT σ m) j + (0 : Int32) = fsum (hmT σ m) (j + 1) from congrArg (fsum (hmT σ m) j + ·) (if_neg h463).symm]
          refine V_istore C dL_areChildren_472 (by decide) rfl ?_
          simp only [lset1, lset2, List.filter_cons, List.filter_nil, Nat.reduceBEq, Nat.reduceAdd, Bool.not_true, Bool.not_false, Bool.and_true, Bool.and_false, Bool.true_and, Bool.false_and, if_true, if_false, Bool.false_eq_true, reduceIte]
          refine V_incN C dL_areChildren_474 rfl (by decide) rfl ?_
          simp only [lset1, lset2, List.filter_cons, List.filter_nil, Nat.reduceBEq, Nat.reduceAdd, Bool.not_true, Bool.not_false, Bool.and_true, Bool.and_false, Bool.true_and, Bool.false_and, if_true, if_false, Bool.false_eq_true, reduceIte]
          refine V_goto C (tgt := 444) dL_areChildren_477 (by decide) ?_
          exact V_sub (by repeat first | exact trivial | refine ⟨rfl, ?_⟩) (ih (j + 1) (by omega) kk)
        ·
          refine V_iconst C (v := 1) dL_areChildren_466 (by decide) ?_
          refine V_goto C (tgt := 471) dL_areChildren_467 (by decide) ?_
          refine V_iadd C dL_areChildren_471 ?_
          rw [show fsum (hmT σ m) j + (1 : Int32) = fsum (hmT σ m) (j + 1) from congrArg (fsum (hmT σ m) j + ·) (if_pos h463).symm]
          refine V_istore C dL_areChildren_472 (by decide) rfl ?_
          simp only [lset1, lset2, List.filter_cons, List.filter_nil, Nat.reduceBEq, Nat.reduceAdd, Bool.not_true, Bool.not_false, Bool.and_true, Bool.and_false, Bool.true_and, Bool.false_and, if_true, if_false, Bool.false_eq_true, reduceIte]
          refine V_incN C dL_areChildren_474 rfl (by decide) rfl ?_
          simp only [lset1, lset2, List.filter_cons, List.filter_nil, Nat.reduceBEq, Nat.reduceAdd, Bool.not_true, Bool.not_false, Bool.and_true, Bool.and_false, Bool.true_and, Bool.false_and, if_true, if_false, Bool.false_eq_true, reduceIte]
          refine V_goto C (tgt := 444) dL_areChildren_477 (by decide) ?_
          exact V_sub (by repeat first | exact trivial | refine ⟨rfl, ?_⟩) (ih (j + 1) (by omega) kk)
  have L3 : ∀ t m, m + t = cN σ 20 → V X G 14 (eQ X G (fun v T => v = some (.int 1) ∧ T = S) (fun _ _ => False) 80 600) 66 396 425 [(7, false, .int (nI m)), (6, false, .int (fsum (σ.1 11) (cN σ 1))), (5, false, .int 1), (4, false, .ref (a 4)), (3, false, .ref (a 2)), (2, false, .ref (a 1)), (1, false, .ref (a 0)), (0, false, .ref q)] [] S := by
    intro t
    induction t with
    | zero =>
      intro m hm
      refine V_iload C dL_areChildren_425 rfl ?_
      refine V_aload_n C dL_areChildren_427 rfl (by first | exact isR_r _ | exact isR_q _ | exact isR_n) ?_
      refine V_iconst C (v := 1) dL_areChildren_428 (by decide) ?_
      refine V_gl C hP 0 1 (by decide) (by decide) rfl e01 dL_areChildren_429 ?_
      refine V_igeN C (tgt := 503) (by omega) (by omega) dL_areChildren_430 (by decide) (fun h430 => ?_) (fun h430 => ?_)
      ·
        obtain rfl : m = cN σ 20 := by omega
        refine V_iload C dL_areChildren_503 rfl ?_
        refine V_if_eq C (tgt := 520) dL_areChildren_505 (by decide) (fun h505 => absurd h505 (by decide)) (fun h505 => ?_)
        refine V_iload C dL_areChildren_508 rfl ?_
        refine V_aload_n C dL_areChildren_510 rfl (by first | exact isR_r _ | exact isR_q _ | exact isR_n) ?_
        refine V_iconst C (v := 3) dL_areChildren_511 (by decide) ?_
        refine V_gl C hP 0 3 (by decide) (by decide) rfl e03 dL_areChildren_512 ?_
        refine V_icmp_ne C (tgt := 520) dL_areChildren_513 (by decide) (fun h513 => absurd h513 (fun z => z hA.2.2)) (fun h513 => ?_)
        refine V_iconst C (v := 1) dL_areChildren_516 (by decide) ?_
        refine V_goto C (tgt := 521) dL_areChildren_517 (by decide) ?_
        refine V_zret C rfl (by first | omega | decide) (by first | omega | decide) dL_areChildren_521 ?_
        exact ⟨rfl, rfl⟩
      ·
        omega
    | succ t ih =>
      intro m hm
      refine V_iload C dL_areChildren_425 rfl ?_
      refine V_aload_n C dL_areChildren_427 rfl (by first | exact isR_r _ | exact isR_q _ | exact isR_n) ?_
      refine V_iconst C (v := 1) dL_areChildren_428 (by decide) ?_
      refine V_gl C hP 0 1 (by decide) (by decide) rfl e01 dL_areChildren_429 ?_
      refine V_igeN C (tgt := 503) (by omega) (by omega) dL_areChildren_430 (by decide) (fun h430 => ?_) (fun h430 => ?_)
      ·
        obtain rfl : m = cN σ 20 := by omega
        refine V_iload C dL_areChildren_503 rfl ?_
        refine V_if_eq C (tgt := 520) dL_areChildren_505 (by decide) (fun h505 => absurd h505 (by decide)) (fun h505 => ?_)
        refine V_iload C dL_areChildren_508 rfl ?_
        refine V_aload_n C dL_areChildren_510 rfl (by first | exact isR_r _ | exact isR_q _ | exact isR_n) ?_
        refine V_iconst C (v := 3) dL_areChildren_511 (by decide) ?_
        refine V_gl C hP 0 3 (by decide) (by decide) rfl e03 dL_areChildren_512 ?_
        refine V_icmp_ne C (tgt := 520) dL_areChildren_513 (by decide) (fun h513 => absurd h513 (fun z => z hA.2.2)) (fun h513 => ?_)
        refine V_iconst C (v := 1) dL_areChildren_516 (by decide) ?_
        refine V_goto C (tgt := 521) dL_areChildren_517 (by decide) ?_
        refine V_zret C rfl (by first | omega | decide) (by first | omega | decide) dL_areChildren_521 ?_
        exact ⟨rfl, rfl⟩
      ·
        refine V_iload C dL_areChildren_433 rfl ?_
        refine V_if_eq C (tgt := 503) dL_areChildren_435 (by decide) (fun h435 => absurd h435 (by decide)) (fun h435 => ?_)
        refine V_iconst C (v := 0) dL_areChildren_438 (by decide) ?_
        refine V_istore C dL_areChildren_439 (by decide) rfl ?_
        simp only [lset1, lset2, List.filter_cons, List.filter_nil, Nat.reduceBEq, Nat.reduceAdd, Bool.not_true, Bool.not_false, Bool.and_true, Bool.and_false, Bool.true_and, Bool.false_and, if_true, if_false, Bool.false_eq_true, reduceIte]
        refine V_iconst C (v := 0) dL_areChildren_441 (by decide) ?_
        refine V_istore C dL_areChildren_442 (by decide) rfl ?_
        simp only [lset1, lset2, List.filter_cons, List.filter_nil, Nat.reduceBEq, Nat.reduceAdd, Bool.not_true, Bool.not_false, Bool.and_true, Bool.and_false, Bool.true_and, Bool.false_and, if_true, if_false, Bool.false_eq_true, reduceIte]
        refine L4 m (by omega) (cN σ 1) 0 (by omega) ?_
        refine V_iload C dL_areChildren_480 rfl ?_
        refine V_aload C dL_areChildren_482 rfl (by first | exact isR_r _ | exact isR_q _ | exact isR_n) ?_
        refine V_iload C dL_areChildren_484 rfl ?_
        refine V_gl C hP 4 m (by decide) (show m < 4 by omega) rfl (eM m (by omega)).1 dL_areChildren_486 ?_
        refine V_icmp_gt C (tgt := 494) dL_areChildren_487 (by decide) (fun h487 => absurd h487 (Int32.not_lt.mpr (hA.2.1 m (by omega)))) (fun h487 => ?_)
        refine V_iconst C (v := 1) dL_areChildren_490 (by decide) ?_
        refine V_goto C (tgt := 495) dL_areChildren_491 (by decide) ?_
        refine V_istore C dL_areChildren_495 (by decide) rfl ?_
        simp only [lset1, lset2, List.filter_cons, List.filter_nil, Nat.reduceBEq, Nat.reduceAdd, Bool.not_true, Bool.not_false, Bool.and_true, Bool.and_false, Bool.true_and, Bool.false_and, if_true, if_false, Bool.false_eq_true, reduceIte]
        refine V_incN C dL_areChildren_497 rfl (by decide) rfl ?_
        simp only [lset1, lset2, List.filter_cons, List.filter_nil, Nat.reduceBEq, Nat.reduceAdd, Bool.not_true, Bool.not_false, Bool.and_true, Bool.and_false, Bool.true_and, Bool.false_and, if_true, if_false, Bool.false_eq_true, reduceIte]
        refine V_goto C (tgt := 425) dL_areChildren_500 (by decide) ?_
        exact V_sub (by repeat first | exact trivial | refine ⟨rfl, ?_⟩) (ih (m + 1) (by omega))
  have L1 : ∀ t k, k + t = cN σ 1 → V X G 14 (eQ X G (fun v T => v = some (.int 1) ∧ T = S) (fun _ _ => False) 80 600) (2 + 4 * k) (12 + 24 * k) 26 [(7, false, .int (nI k)), (6, false, .int (fsum (σ.1 11) k)), (5, false, .int 1), (4, false, .ref (a 4)), (3, false, .ref (a 2)), (2, false, .ref (a 1)), (1, false, .ref (a 0)), (0, false, .ref q)] [] S := by
    intro t
    induction t with
    | zero =>
      intro k hk0
      refine V_iload C dL_areChildren_26 rfl ?_
      refine V_aload_n C dL_areChildren_28 rfl (by first | exact isR_r _ | exact isR_q _ | exact isR_n) ?_
      refine V_iconst C (v := 0) dL_areChildren_29 (by decide) ?_
      refine V_gl C hP 0 0 (by decide) (by decide) rfl e00 dL_areChildren_30 ?_
      refine V_igeN C (tgt := 422) (by omega) (by omega) dL_areChildren_31 (by decide) (fun h31 => ?_) (fun h31 => ?_)
      ·
        obtain rfl : k = cN σ 1 := by omega
        refine V_widen (k' := 66) (n' := 396) (by omega) (by omega) ?_
        refine V_iconst C (v := 0) dL_areChildren_422 (by decide) ?_
        refine V_istore C dL_areChildren_423 (by decide) rfl ?_
        simp only [lset1, lset2, List.filter_cons, List.filter_nil, Nat.reduceBEq, Nat.reduceAdd, Bool.not_true, Bool.not_false, Bool.and_true, Bool.and_false, Bool.true_and, Bool.false_and, if_true, if_false, Bool.false_eq_true, reduceIte]
        exact V_sub (by repeat first | exact trivial | refine ⟨rfl, ?_⟩) (L3 (cN σ 20) 0 (by omega))
      ·
        omega
    | succ t ih =>
      intro k hk0
      refine V_iload C dL_areChildren_26 rfl ?_
      refine V_aload_n C dL_areChildren_28 rfl (by first | exact isR_r _ | exact isR_q _ | exact isR_n) ?_
      refine V_iconst C (v := 0) dL_areChildren_29 (by decide) ?_
      refine V_gl C hP 0 0 (by decide) (by decide) rfl e00 dL_areChildren_30 ?_
      refine V_igeN C (tgt := 422) (by omega) (by omega) dL_areChildren_31 (by decide) (fun h31 => ?_) (fun h31 => ?_)
      ·
        obtain rfl : k = cN σ 1 := by omega
        refine V_widen (k' := 66) (n' := 396) (by omega) (by omega) ?_
        refine V_iconst C (v := 0) dL_areChildren_422 (by decide) ?_
        refine V_istore C dL_areChildren_423 (by decide) rfl ?_
        simp only [lset1, lset2, List.filter_cons, List.filter_nil, Nat.reduceBEq, Nat.reduceAdd, Bool.not_true, Bool.not_false, Bool.and_true, Bool.and_false, Bool.true_and, Bool.false_and, if_true, if_false, Bool.false_eq_true, reduceIte]
        exact V_sub (by repeat first | exact trivial | refine ⟨rfl, ?_⟩) (L3 (cN σ 20) 0 (by omega))
      ·
        refine V_iload C dL_areChildren_34 rfl ?_
        refine V_if_eq C (tgt := 422) dL_areChildren_36 (by decide) (fun h36 => absurd h36 (by decide)) (fun h36 => ?_)
        replace eK := eK k (by omega)
        have hk : k < cN σ 1 := by omega
        obtain ⟨⟨f1, f2⟩, fy, ⟨w1, w2⟩, ⟨r1, r2, r3⟩, ⟨v1, v2, v3⟩, ff, fs, fm⟩ := hA.1 k hk
        refine V_aload_n C dL_areChildren_39 rfl (by first | exact isR_r _ | exact isR_q _ | exact isR_n) ?_
        refine V_iload C dL_areChildren_40 rfl ?_
        refine V_iconst C (v := 0) dL_areChildren_42 (by decide) ?_
        refine V_fH C (r_is0 _ hl G S q a γ σ hP  k hk) kh_L_119 (by decide) ⟨(by omega : _ ≤ 80), (by omega : _ ≤ 600)⟩ rfl rfl (Nat.le_of_ble_eq_true rfl) dL_areChildren_43 ?_
        dsimp only [Option.toList_some, Option.toList_none, List.cons_append, List.nil_append]
        refine V_istore C dL_areChildren_46 (by decide) rfl ?_
        simp only [lset1, lset2, List.filter_cons, List.filter_nil, Nat.reduceBEq, Nat.reduceAdd, Bool.not_true, Bool.not_false, Bool.and_true, Bool.and_false, Bool.true_and, Bool.false_and, if_true, if_false, Bool.false_eq_true, reduceIte]
        refine V_aload_n C dL_areChildren_48 rfl (by first | exact isR_r _ | exact isR_q _ | exact isR_n) ?_
        refine V_iload C dL_areChildren_49 rfl ?_
        refine V_fH C (r_best _ hl G S q a γ σ hP  k hk) kh_L_124 (by decide) ⟨(by omega : _ ≤ 80), (by omega : _ ≤ 600)⟩ rfl rfl (Nat.le_of_ble_eq_true rfl) dL_areChildren_51 ?_
        dsimp only [Option.toList_some, Option.toList_none, List.cons_append, List.nil_append]
        refine V_istore C dL_areChildren_54 (by decide) rfl ?_
        simp only [lset1, lset2, List.filter_cons, List.filter_nil, Nat.reduceBEq, Nat.reduceAdd, Bool.not_true, Bool.not_false, Bool.and_true, Bool.and_false, Bool.true_and, Bool.false_and, if_true, if_false, Bool.false_eq_true, reduceIte]
        refine V_aload_n C dL_areChildren_56 rfl (by first | exact isR_r _ | exact isR_q _ | exact isR_n) ?_
        refine V_iload C dL_areChildren_57 rfl ?_
        refine V_fH C (r_risk _ hl G S q a γ σ hP  k hk) kh_L_127 (by decide) ⟨(by omega : _ ≤ 80), (by omega : _ ≤ 600)⟩ rfl rfl (Nat.le_of_ble_eq_true rfl) dL_areChildren_59 ?_
        dsimp only [Option.toList_some, Option.toList_none, List.cons_append, List.nil_append]
        refine V_istore C dL_areChildren_62 (by decide) rfl ?_
        simp only [lset1, lset2, List.filter_cons, List.filter_nil, Nat.reduceBEq, Nat.reduceAdd, Bool.not_true, Bool.not_false, Bool.and_true, Bool.and_false, Bool.true_and, Bool.false_and, if_true, if_false, Bool.false_eq_true, reduceIte]
        refine V_aload_n C dL_areChildren_64 rfl (by first | exact isR_r _ | exact isR_q _ | exact isR_n) ?_
        refine V_iload C dL_areChildren_65 rfl ?_
        refine V_fH C (r_seeBy _ hl G S q a γ σ hP  k hk) kh_L_129 (by decide) ⟨(by omega : _ ≤ 80), (by omega : _ ≤ 600)⟩ rfl rfl (Nat.le_of_ble_eq_true rfl) dL_areChildren_67 ?_
        dsimp only [Option.toList_some, Option.toList_none, List.cons_append, List.nil_append]
        refine V_istore C dL_areChildren_70 (by decide) rfl ?_
        simp only [lset1, lset2, List.filter_cons, List.filter_nil, Nat.reduceBEq, Nat.reduceAdd, Bool.not_true, Bool.not_false, Bool.and_true, Bool.and_false, Bool.true_and, Bool.false_and, if_true, if_false, Bool.false_eq_true, reduceIte]
        refine V_iload C dL_areChildren_72 rfl ?_
        refine V_aload_n C dL_areChildren_74 rfl (by first | exact isR_r _ | exact isR_q _ | exact isR_n) ?_
        refine V_iload C dL_areChildren_75 rfl ?_
        refine V_iconst C (v := 2) dL_areChildren_77 (by decide) ?_
        refine V_fH C (r_is2 _ hl G S q a γ σ hP  k hk) kh_L_119 (by decide) ⟨(by omega : _ ≤ 80), (by omega : _ ≤ 600)⟩ rfl rfl (Nat.le_of_ble_eq_true rfl) dL_areChildren_78 ?_
        dsimp only [Option.toList_some, Option.toList_none, List.cons_append, List.nil_append]
        refine V_iadd C dL_areChildren_81 ?_
        rw [show fsum (σ.1 11) k + σ.1 11 k = fsum (σ.1 11) (k + 1) from rfl]
        refine V_istore C dL_areChildren_82 (by decide) rfl ?_
        simp only [lset1, lset2, List.filter_cons, List.filter_nil, Nat.reduceBEq, Nat.reduceAdd, Bool.not_true, Bool.not_false, Bool.and_true, Bool.and_false, Bool.true_and, Bool.false_and, if_true, if_false, Bool.false_eq_true, reduceIte]
        refine V_iload C dL_areChildren_84 rfl ?_
        refine V_iconst C (v := (-1)) dL_areChildren_86 (by decide) ?_
        refine V_icmp_lt C (tgt := 234) dL_areChildren_87 (by decide) (fun h87 => absurd h87 (Int32.not_lt.mpr f1)) (fun h87 => ?_)
        refine V_iload C dL_areChildren_90 rfl ?_
        refine V_aload_n C dL_areChildren_92 rfl (by first | exact isR_r _ | exact isR_q _ | exact isR_n) ?_
        refine V_iconst C (v := 1) dL_areChildren_93 (by decide) ?_
        refine V_gl C hP 0 1 (by decide) (by decide) rfl e01 dL_areChildren_94 ?_
        refine V_icmp_ge C (tgt := 234) dL_areChildren_95 (by decide) (fun h95 => absurd h95 (Int32.not_le.mpr f2)) (fun h95 => ?_)
        refine V_aload_n C dL_areChildren_98 rfl (by first | exact isR_r _ | exact isR_q _ | exact isR_n) ?_
        refine V_iload C dL_areChildren_99 rfl ?_
        refine V_iconst C (v := 1) dL_areChildren_101 (by decide) ?_
        refine V_fH C (r_is1 _ hl G S q a γ σ hP  k hk) kh_L_119 (by decide) ⟨(by omega : _ ≤ 80), (by omega : _ ≤ 600)⟩ rfl rfl (Nat.le_of_ble_eq_true rfl) dL_areChildren_102 ?_
        dsimp only [Option.toList_some, Option.toList_none, List.cons_append, List.nil_append]
        refine V_aload_n C dL_areChildren_105 rfl (by first | exact isR_r _ | exact isR_q _ | exact isR_n) ?_
        refine V_iload C dL_areChildren_106 rfl ?_
        refine V_gl C hP 1 k (by decide) (show k < 16 by omega) rfl eK.1 dL_areChildren_108 ?_
        refine V_aload_n C dL_areChildren_109 rfl (by first | exact isR_r _ | exact isR_q _ | exact isR_n) ?_
        refine V_iconst C (v := 4) dL_areChildren_110 (by decide) ?_
        refine V_gl C hP 0 4 (by decide) (by decide) rfl e04 dL_areChildren_111 ?_
        refine V_iadd C dL_areChildren_112 ?_
        refine V_sipush C (v := 365) dL_areChildren_113 (by decide) ?_
        refine V_idiv C dL_areChildren_116 (by decide) ?_
        refine V_icmp_ne C (tgt := 234) dL_areChildren_117 (by decide) (fun h117 => absurd h117 (fun z => z fy)) (fun h117 => ?_)
        refine V_aload_n C dL_areChildren_120 rfl (by first | exact isR_r _ | exact isR_q _ | exact isR_n) ?_
        refine V_iload C dL_areChildren_121 rfl ?_
        refine V_bipush C (v := 6) dL_areChildren_123 (by decide) ?_
        refine V_fH C (r_is6 _ hl G S q a γ σ hP  k hk) kh_L_119 (by decide) ⟨(by omega : _ ≤ 80), (by omega : _ ≤ 600)⟩ rfl rfl (Nat.le_of_ble_eq_true rfl) dL_areChildren_125 ?_
        dsimp only [Option.toList_some, Option.toList_none, List.cons_append, List.nil_append]
        refine V_if_lt C (tgt := 234) dL_areChildren_128 (by decide) (fun h128 => absurd h128 (Int32.not_lt.mpr w1)) (fun h128 => ?_)
        refine V_aload_n C dL_areChildren_131 rfl (by first | exact isR_r _ | exact isR_q _ | exact isR_n) ?_
        refine V_iload C dL_areChildren_132 rfl ?_
        refine V_bipush C (v := 6) dL_areChildren_134 (by decide) ?_
        refine V_fH C (r_is6 _ hl G S q a γ σ hP  k hk) kh_L_119 (by decide) ⟨(by omega : _ ≤ 80), (by omega : _ ≤ 600)⟩ rfl rfl (Nat.le_of_ble_eq_true rfl) dL_areChildren_136 ?_
        dsimp only [Option.toList_some, Option.toList_none, List.cons_append, List.nil_append]
        refine V_iconst C (v := 5) dL_areChildren_139 (by decide) ?_
        refine V_icmp_ge C (tgt := 234) dL_areChildren_140 (by decide) (fun h140 => absurd h140 (Int32.not_le.mpr w2)) (fun h140 => ?_)
        refine V_iload C dL_areChildren_143 rfl ?_
        refine V_if_lt C (tgt := 234) dL_areChildren_145 (by decide) (fun h145 => absurd h145 (Int32.not_lt.mpr r1)) (fun h145 => ?_)
        refine V_or (tgt9 := 159) (st9 := []) ?_ (fun J159 => ?_)
        ·
          refine V_or (tgt9 := 176) (st9 := []) ?_ (fun J176 => ?_)
          ·
            refine V_aload_n C dL_areChildren_176 rfl (by first | exact isR_r _ | exact isR_q _ | exact isR_n) ?_
            refine V_iload C dL_areChildren_177 rfl ?_
            refine V_iconst C (v := 3) dL_areChildren_179 (by decide) ?_
            refine V_fH C (r_is3 _ hl G S q a γ σ hP  k hk) kh_L_119 (by decide) ⟨(by omega : _ ≤ 80), (by omega : _ ≤ 600)⟩ rfl rfl (Nat.le_of_ble_eq_true rfl) dL_areChildren_180 ?_
            dsimp only [Option.toList_some, Option.toList_none, List.cons_append, List.nil_append]
            refine V_if_lt C (tgt := 234) dL_areChildren_183 (by decide) (fun h183 => absurd h183 (Int32.not_lt.mpr v1)) (fun h183 => ?_)
            refine V_aload_n C dL_areChildren_186 rfl (by first | exact isR_r _ | exact isR_q _ | exact isR_n) ?_
            refine V_iload C dL_areChildren_187 rfl ?_
            refine V_iconst C (v := 4) dL_areChildren_189 (by decide) ?_
            refine V_fH C (r_is4 _ hl G S q a γ σ hP  k hk) kh_L_119 (by decide) ⟨(by omega : _ ≤ 80), (by omega : _ ≤ 600)⟩ rfl rfl (Nat.le_of_ble_eq_true rfl) dL_areChildren_190 ?_
            dsimp only [Option.toList_some, Option.toList_none, List.cons_append, List.nil_append]
            refine V_if_lt C (tgt := 234) dL_areChildren_193 (by decide) (fun h193 => absurd h193 (Int32.not_lt.mpr v2)) (fun h193 => ?_)
            refine V_or (tgt9 := 217) (st9 := []) ?_ (fun J217 => ?_)
            ·
              refine V_aload_n C dL_areChildren_217 rfl (by first | exact isR_r _ | exact isR_q _ | exact isR_n) ?_
              refine V_iload C dL_areChildren_218 rfl ?_
              refine V_bipush C (v := 7) dL_areChildren_220 (by decide) ?_
              refine V_fH C (r_childIsY _ hl G S q a γ σ hP  k hk 7 (by decide)) kh_L_119 (by decide) ⟨(by omega : _ ≤ 80), (by omega : _ ≤ 600)⟩ rfl rfl (Nat.le_of_ble_eq_true rfl) dL_areChildren_222 ?_
              dsimp only [Option.toList_some, Option.toList_none, List.cons_append, List.nil_append]
              refine V_ldc C dL_areChildren_225 cs_L_18 ?_
              refine V_icmp_ne C (tgt := 234) dL_areChildren_227 (by decide) (fun h227 => absurd h227 (fun z => z rfl)) (fun h227 => ?_)
              refine V_iconst C (v := 1) dL_areChildren_230 (by decide) ?_
              refine V_goto C (tgt := 235) dL_areChildren_231 (by decide) ?_
              refine V_istore C dL_areChildren_235 (by decide) rfl ?_
              simp only [lset1, lset2, List.filter_cons, List.filter_nil, Nat.reduceBEq, Nat.reduceAdd, Bool.not_true, Bool.not_false, Bool.and_true, Bool.and_false, Bool.true_and, Bool.false_and, if_true, if_false, Bool.false_eq_true, reduceIte]
              refine V_iconst C (v := 0) dL_areChildren_237 (by decide) ?_
              refine V_istore C dL_areChildren_238 (by decide) rfl ?_
              simp only [lset1, lset2, List.filter_cons, List.filter_nil, Nat.reduceBEq, Nat.reduceAdd, Bool.not_true, Bool.not_false, Bool.and_true, Bool.and_false, Bool.true_and, Bool.false_and, if_true, if_false, Bool.false_eq_true, reduceIte]
              have L2 : ∀ t2 m, m + t2 = cN σ 20 → V X G 14 (eQ X G (fun v T => v = some (.int 1) ∧ T = S) (fun _ _ => False) 80 600) (4 + 4 * k) (24 + 24 * k) 240 [(12, false, .int (nI m)), (11, false, .int (rSee (rAll σ k) (σ.2 0) (σ.1 9 k))), (10, false, .int (rSum (rAll σ k) (σ.2 0))), (9, false, .int (mBestF σ k (cN σ 20))), (8, false, .int (mHomeOf σ k)), (7, false, .int (nI k)), (6, false, .int (fsum (σ.1 11) (k + 1))), (5, false, .int 1), (4, false, .ref (a 4)), (3, false, .ref (a 2)), (2, false, .ref (a 1)), (1, false, .ref (a 0)), (0, false, .ref q)] [] S := by
                intro t2
                induction t2 with
                | zero =>
                  intro m hm
                  refine V_iload C dL_areChildren_240 rfl ?_
                  refine V_aload_n C dL_areChildren_242 rfl (by first | exact isR_r _ | exact isR_q _ | exact isR_n) ?_
                  refine V_iconst C (v := 1) dL_areChildren_243 (by decide) ?_
                  refine V_gl C hP 0 1 (by decide) (by decide) rfl e01 dL_areChildren_244 ?_
                  refine V_igeN C (tgt := 355) (by omega) (by omega) dL_areChildren_245 (by decide) (fun h245 => ?_) (fun h245 => ?_)
                  ·
                    obtain rfl : m = cN σ 20 := by omega
                    refine V_iload C dL_areChildren_355 rfl ?_
                    refine V_if_eq C (tgt := 413) dL_areChildren_357 (by decide) (fun h357 => absurd h357 (by decide)) (fun h357 => ?_)
                    refine V_orK (k9 := (4 + 4 * k + 2)) (n9 := (24 + 24 * k + 12)) (tgt9 := 409) (st9 := []) ?_ (fun J409 => ?_)
                    ·
                      refine V_iconst C (v := 1) dL_areChildren_409 (by decide) ?_
                      refine V_goto C (tgt := 414) dL_areChildren_410 (by decide) ?_
                      refine V_istore C dL_areChildren_414 (by decide) rfl ?_
                      simp only [lset1, lset2, List.filter_cons, List.filter_nil, Nat.reduceBEq, Nat.reduceAdd, Bool.not_true, Bool.not_false, Bool.and_true, Bool.and_false, Bool.true_and, Bool.false_and, if_true, if_false, Bool.false_eq_true, reduceIte]
                      refine V_incN C dL_areChildren_416 rfl (by decide) rfl ?_
                      simp only [lset1, lset2, List.filter_cons, List.filter_nil, Nat.reduceBEq, Nat.reduceAdd, Bool.not_true, Bool.not_false, Bool.and_true, Bool.and_false, Bool.true_and, Bool.false_and, if_true, if_false, Bool.false_eq_true, reduceIte]
                      refine V_goto C (tgt := 26) dL_areChildren_419 (by decide) ?_
                      exact V_widen (by omega) (by omega) (V_sub (by repeat first | exact trivial | refine ⟨rfl, ?_⟩) (ih (k + 1) (by omega)))
                    ·
                      refine V_aload_n C dL_areChildren_360 rfl (by first | exact isR_r _ | exact isR_q _ | exact isR_n) ?_
                      refine V_iload C dL_areChildren_361 rfl ?_
                      refine V_gl C hP 1 k (by decide) (show k < 16 by omega) rfl eK.1 dL_areChildren_363 ?_
                      refine V_aload_n C dL_areChildren_364 rfl (by first | exact isR_r _ | exact isR_q _ | exact isR_n) ?_
                      refine V_iconst C (v := 4) dL_areChildren_365 (by decide) ?_
                      refine V_gl C hP 0 4 (by decide) (by decide) rfl e04 dL_areChildren_366 ?_
                      refine V_iadd C dL_areChildren_367 ?_
                      refine V_sipush C (v := 365) dL_areChildren_368 (by decide) ?_
                      refine V_idiv C dL_areChildren_371 (by decide) ?_
                      refine V_bipush C (v := 18) dL_areChildren_372 (by decide) ?_
                      refine V_icmp_ge C (tgt := 392) dL_areChildren_374 (by decide) (fun h374 => ?_) (fun h374 => ?_)
                      ·
                        refine V_aload_n C dL_areChildren_392 rfl (by first | exact isR_r _ | exact isR_q _ | exact isR_n) ?_
                        refine V_iload C dL_areChildren_393 rfl ?_
                        refine V_aload_n C dL_areChildren_395 rfl (by first | exact isR_r _ | exact isR_q _ | exact isR_n) ?_
                        refine V_iload C dL_areChildren_396 rfl ?_
                        refine V_iconst C (v := 2) dL_areChildren_398 (by decide) ?_
                        refine V_fH C (r_is2 _ hl G S q a γ σ hP  k hk) kh_L_119 (by decide) ⟨(by omega : _ ≤ 80), (by omega : _ ≤ 600)⟩ rfl rfl (Nat.le_of_ble_eq_true rfl) dL_areChildren_399 ?_
                        dsimp only [Option.toList_some, Option.toList_none, List.cons_append, List.nil_append]
                        refine V_fH C (r_file _ hl G S q a γ σ hP  k hk (σ.1 11 k) fs (by rw [fy]; exact h374)) kh_L_135 (by decide) ⟨(by omega : _ ≤ 80), (by omega : _ ≤ 600)⟩ rfl rfl (Nat.le_of_ble_eq_true rfl) dL_areChildren_402 ?_
                        dsimp only [Option.toList_some, Option.toList_none, List.cons_append, List.nil_append]
                        rw [ff (by rw [fy]; exact h374)]
                        refine V_iconst C (v := (-1)) dL_areChildren_405 (by decide) ?_
                        refine V_icmp_ne C (tgt := 413) dL_areChildren_406 (by decide) (fun h406 => absurd h406 (fun z => z rfl)) (fun h406 => ?_)
                        exact V_widen (by omega) (by omega) J409
                      ·
                        refine V_aload_n C dL_areChildren_377 rfl (by first | exact isR_r _ | exact isR_q _ | exact isR_n) ?_
                        refine V_iload C dL_areChildren_378 rfl ?_
                        refine V_iconst C (v := 0) dL_areChildren_380 (by decide) ?_
                        refine V_fH C (r_fileY _ hl G S q a γ σ hP  k hk 0 (by decide) (by rw [fy]; exact h374)) kh_L_135 (by decide) ⟨(by omega : _ ≤ 80), (by omega : _ ≤ 600)⟩ rfl rfl (Nat.le_of_ble_eq_true rfl) dL_areChildren_381 ?_
                        dsimp only [Option.toList_some, Option.toList_none, List.cons_append, List.nil_append]
                        refine V_ldc C dL_areChildren_384 cs_L_21 ?_
                        refine V_icmp_ne C (tgt := 413) dL_areChildren_386 (by decide) (fun h386 => absurd h386 (fun z => z rfl)) (fun h386 => ?_)
                        refine V_goto C (tgt := 409) dL_areChildren_389 (by decide) ?_
                        exact V_widen (by omega) (by omega) J409
                  ·
                    omega
                | succ t2 ih2 =>
                  intro m hm
                  refine V_iload C dL_areChildren_240 rfl ?_
                  refine V_aload_n C dL_areChildren_242 rfl (by first | exact isR_r _ | exact isR_q _ | exact isR_n) ?_
                  refine V_iconst C (v := 1) dL_areChildren_243 (by decide) ?_
                  refine V_gl C hP 0 1 (by decide) (by decide) rfl e01 dL_areChildren_244 ?_
                  refine V_igeN C (tgt := 355) (by omega) (by omega) dL_areChildren_245 (by decide) (fun h245 => ?_) (fun h245 => ?_)
                  ·
                    obtain rfl : m = cN σ 20 := by omega
                    refine V_iload C dL_areChildren_355 rfl ?_
                    refine V_if_eq C (tgt := 413) dL_areChildren_357 (by decide) (fun h357 => absurd h357 (by decide)) (fun h357 => ?_)
                    refine V_orK (k9 := (4 + 4 * k + 2)) (n9 := (24 + 24 * k + 12)) (tgt9 := 409) (st9 := []) ?_ (fun J409 => ?_)
                    ·
                      refine V_iconst C (v := 1) dL_areChildren_409 (by decide) ?_
                      refine V_goto C (tgt := 414) dL_areChildren_410 (by decide) ?_
                      refine V_istore C dL_areChildren_414 (by decide) rfl ?_
                      simp only [lset1, lset2, List.filter_cons, List.filter_nil, Nat.reduceBEq, Nat.reduceAdd, Bool.not_true, Bool.not_false, Bool.and_true, Bool.and_false, Bool.true_and, Bool.false_and, if_true, if_false, Bool.false_eq_true, reduceIte]
                      refine V_incN C dL_areChildren_416 rfl (by decide) rfl ?_
                      simp only [lset1, lset2, List.filter_cons, List.filter_nil, Nat.reduceBEq, Nat.reduceAdd, Bool.not_true, Bool.not_false, Bool.and_true, Bool.and_false, Bool.true_and, Bool.false_and, if_true, if_false, Bool.false_eq_true, reduceIte]
                      refine V_goto C (tgt := 26) dL_areChildren_419 (by decide) ?_
                      exact V_widen (by omega) (by omega) (V_sub (by repeat first | exact trivial | refine ⟨rfl, ?_⟩) (ih (k + 1) (by omega)))
                    ·
                      refine V_aload_n C dL_areChildren_360 rfl (by first | exact isR_r _ | exact isR_q _ | exact isR_n) ?_
                      refine V_iload C dL_areChildren_361 rfl ?_
                      refine V_gl C hP 1 k (by decide) (show k < 16 by omega) rfl eK.1 dL_areChildren_363 ?_
                      refine V_aload_n C dL_areChildren_364 rfl (by first | exact isR_r _ | exact isR_q _ | exact isR_n) ?_
                      refine V_iconst C (v := 4) dL_areChildren_365 (by decide) ?_
                      refine V_gl C hP 0 4 (by decide) (by decide) rfl e04 dL_areChildren_366 ?_
                      refine V_iadd C dL_areChildren_367 ?_
                      refine V_sipush C (v := 365) dL_areChildren_368 (by decide) ?_
                      refine V_idiv C dL_areChildren_371 (by decide) ?_
                      refine V_bipush C (v := 18) dL_areChildren_372 (by decide) ?_
                      refine V_icmp_ge C (tgt := 392) dL_areChildren_374 (by decide) (fun h374 => ?_) (fun h374 => ?_)
                      ·
                        refine V_aload_n C dL_areChildren_392 rfl (by first | exact isR_r _ | exact isR_q _ | exact isR_n) ?_
                        refine V_iload C dL_areChildren_393 rfl ?_
                        refine V_aload_n C dL_areChildren_395 rfl (by first | exact isR_r _ | exact isR_q _ | exact isR_n) ?_
                        refine V_iload C dL_areChildren_396 rfl ?_
                        refine V_iconst C (v := 2) dL_areChildren_398 (by decide) ?_
                        refine V_fH C (r_is2 _ hl G S q a γ σ hP  k hk) kh_L_119 (by decide) ⟨(by omega : _ ≤ 80), (by omega : _ ≤ 600)⟩ rfl rfl (Nat.le_of_ble_eq_true rfl) dL_areChildren_399 ?_
                        dsimp only [Option.toList_some, Option.toList_none, List.cons_append, List.nil_append]
                        refine V_fH C (r_file _ hl G S q a γ σ hP  k hk (σ.1 11 k) fs (by rw [fy]; exact h374)) kh_L_135 (by decide) ⟨(by omega : _ ≤ 80), (by omega : _ ≤ 600)⟩ rfl rfl (Nat.le_of_ble_eq_true rfl) dL_areChildren_402 ?_
                        dsimp only [Option.toList_some, Option.toList_none, List.cons_append, List.nil_append]
                        rw [ff (by rw [fy]; exact h374)]
                        refine V_iconst C (v := (-1)) dL_areChildren_405 (by decide) ?_
                        refine V_icmp_ne C (tgt := 413) dL_areChildren_406 (by decide) (fun h406 => absurd h406 (fun z => z rfl)) (fun h406 => ?_)
                        exact V_widen (by omega) (by omega) J409
                      ·
                        refine V_aload_n C dL_areChildren_377 rfl (by first | exact isR_r _ | exact isR_q _ | exact isR_n) ?_
                        refine V_iload C dL_areChildren_378 rfl ?_
                        refine V_iconst C (v := 0) dL_areChildren_380 (by decide) ?_
                        refine V_fH C (r_fileY _ hl G S q a γ σ hP  k hk 0 (by decide) (by rw [fy]; exact h374)) kh_L_135 (by decide) ⟨(by omega : _ ≤ 80), (by omega : _ ≤ 600)⟩ rfl rfl (Nat.le_of_ble_eq_true rfl) dL_areChildren_381 ?_
                        dsimp only [Option.toList_some, Option.toList_none, List.cons_append, List.nil_append]
                        refine V_ldc C dL_areChildren_384 cs_L_21 ?_
                        refine V_icmp_ne C (tgt := 413) dL_areChildren_386 (by decide) (fun h386 => absurd h386 (fun z => z rfl)) (fun h386 => ?_)
                        refine V_goto C (tgt := 409) dL_areChildren_389 (by decide) ?_
                        exact V_widen (by omega) (by omega) J409
                  ·
                    refine V_iload C dL_areChildren_248 rfl ?_
                    refine V_if_eq C (tgt := 355) dL_areChildren_250 (by decide) (fun h250 => absurd h250 (by decide)) (fun h250 => ?_)
                    refine V_aload_n C dL_areChildren_253 rfl (by first | exact isR_r _ | exact isR_q _ | exact isR_n) ?_
                    refine V_iload C dL_areChildren_254 rfl ?_
                    refine V_iload C dL_areChildren_256 rfl ?_
                    refine V_fH C (r_why _ hl G S q a γ σ hP  k hk m (by omega)) kh_L_131 (by decide) ⟨(by omega : _ ≤ 80), (by omega : _ ≤ 600)⟩ rfl rfl (Nat.le_of_ble_eq_true rfl) dL_areChildren_258 ?_
                    dsimp only [Option.toList_some, Option.toList_none, List.cons_append, List.nil_append]
                    obtain ⟨⟨g1, g2⟩, g3, g4⟩ := fm m (by omega)
                    refine V_istore C dL_areChildren_261 (by decide) rfl ?_
                    simp only [lset1, lset2, List.filter_cons, List.filter_nil, Nat.reduceBEq, Nat.reduceAdd, Bool.not_true, Bool.not_false, Bool.and_true, Bool.and_false, Bool.true_and, Bool.false_and, if_true, if_false, Bool.false_eq_true, reduceIte]
                    refine V_iload C dL_areChildren_263 rfl ?_
                    refine V_if_lt C (tgt := 346) dL_areChildren_265 (by decide) (fun h265 => absurd h265 (Int32.not_lt.mpr g1)) (fun h265 => ?_)
                    refine V_iload C dL_areChildren_268 rfl ?_
                    refine V_bipush C (v := 8) dL_areChildren_270 (by decide) ?_
                    refine V_icmp_ge C (tgt := 346) dL_areChildren_272 (by decide) (fun h272 => absurd h272 (Int32.not_le.mpr g2)) (fun h272 => ?_)
                    refine V_or (tgt9 := 287) (st9 := []) ?_ (fun J287 => ?_)
                    ·
                      refine V_or (tgt9 := 342) (st9 := []) ?_ (fun J342 => ?_)
                      ·
                        refine V_iconst C (v := 1) dL_areChildren_342 (by decide) ?_
                        refine V_goto C (tgt := 347) dL_areChildren_343 (by decide) ?_
                        refine V_istore C dL_areChildren_347 (by decide) rfl ?_
                        simp only [lset1, lset2, List.filter_cons, List.filter_nil, Nat.reduceBEq, Nat.reduceAdd, Bool.not_true, Bool.not_false, Bool.and_true, Bool.and_false, Bool.true_and, Bool.false_and, if_true, if_false, Bool.false_eq_true, reduceIte]
                        refine V_incN C dL_areChildren_349 rfl (by decide) rfl ?_
                        simp only [lset1, lset2, List.filter_cons, List.filter_nil, Nat.reduceBEq, Nat.reduceAdd, Bool.not_true, Bool.not_false, Bool.and_true, Bool.and_false, Bool.true_and, Bool.false_and, if_true, if_false, Bool.false_eq_true, reduceIte]
                        refine V_goto C (tgt := 240) dL_areChildren_352 (by decide) ?_
                        exact V_sub (by repeat first | exact trivial | refine ⟨rfl, ?_⟩) (ih2 (m + 1) (by omega))
                      ·
                        refine V_iload C dL_areChildren_287 rfl ?_
                        refine V_if_ne C (tgt := 342) dL_areChildren_289 (by decide) (fun h289 => ?_) (fun h289 => ?_)
                        ·
                          exact J342
                        ·
                          obtain ⟨b, hb1, hb, hb2, hb3⟩ := g4 h289
                          rw [hb] at J342 ⊢
                          refine V_iload C dL_areChildren_292 rfl ?_
                          refine V_if_lt C (tgt := 346) dL_areChildren_294 (by decide) (fun h294 => absurd h294 (Int32.not_lt.mpr (nI_0le b (by omega)))) (fun h294 => ?_)
                          refine V_aload_n C dL_areChildren_297 rfl (by first | exact isR_r _ | exact isR_q _ | exact isR_n) ?_
                          refine V_iload C dL_areChildren_298 rfl ?_
                          refine V_iload C dL_areChildren_300 rfl ?_
                          refine V_fH C (r_worth _ hl G S q a γ σ hP  k hk b hb1) kh_L_133 (by decide) ⟨(by omega : _ ≤ 80), (by omega : _ ≤ 600)⟩ rfl rfl (Nat.le_of_ble_eq_true rfl) dL_areChildren_302 ?_
                          dsimp only [Option.toList_some, Option.toList_none, List.cons_append, List.nil_append]
                          refine V_aload_n C dL_areChildren_305 rfl (by first | exact isR_r _ | exact isR_q _ | exact isR_n) ?_
                          refine V_iload C dL_areChildren_306 rfl ?_
                          refine V_iload C dL_areChildren_308 rfl ?_
                          refine V_fH C (r_worth _ hl G S q a γ σ hP  k hk m (by omega)) kh_L_133 (by decide) ⟨(by omega : _ ≤ 80), (by omega : _ ≤ 600)⟩ rfl rfl (Nat.le_of_ble_eq_true rfl) dL_areChildren_310 ?_
                          dsimp only [Option.toList_some, Option.toList_none, List.cons_append, List.nil_append]
                          refine V_icmp_lt C (tgt := 346) dL_areChildren_313 (by decide) (fun h313 => absurd h313 (Int32.not_lt.mpr hb2)) (fun h313 => ?_)
                          refine V_aload_n C dL_areChildren_316 rfl (by first | exact isR_r _ | exact isR_q _ | exact isR_n) ?_
                          refine V_iload C dL_areChildren_317 rfl ?_
                          refine V_iload C dL_areChildren_319 rfl ?_
                          refine V_fH C (r_worth _ hl G S q a γ σ hP  k hk b hb1) kh_L_133 (by decide) ⟨(by omega : _ ≤ 80), (by omega : _ ≤ 600)⟩ rfl rfl (Nat.le_of_ble_eq_true rfl) dL_areChildren_321 ?_
                          dsimp only [Option.toList_some, Option.toList_none, List.cons_append, List.nil_append]
                          refine V_aload_n C dL_areChildren_324 rfl (by first | exact isR_r _ | exact isR_q _ | exact isR_n) ?_
                          refine V_iload C dL_areChildren_325 rfl ?_
                          refine V_iload C dL_areChildren_327 rfl ?_
                          refine V_fH C (r_worth _ hl G S q a γ σ hP  k hk m (by omega)) kh_L_133 (by decide) ⟨(by omega : _ ≤ 80), (by omega : _ ≤ 600)⟩ rfl rfl (Nat.le_of_ble_eq_true rfl) dL_areChildren_329 ?_
                          dsimp only [Option.toList_some, Option.toList_none, List.cons_append, List.nil_append]
                          refine V_icmp_gt C (tgt := 342) dL_areChildren_332 (by decide) (fun h332 => ?_) (fun h332 => ?_)
                          ·
                            exact J342
                          ·
                            refine V_iload C dL_areChildren_335 rfl ?_
                            refine V_iload C dL_areChildren_337 rfl ?_
                            refine V_icmp_gt C (tgt := 346) dL_areChildren_339 (by decide) (fun h339 => absurd h339 (Int32.not_lt.mpr (hb3.resolve_left h332))) (fun h339 => ?_)
                            exact J342
                    ·
                      refine V_iload C dL_areChildren_275 rfl ?_
                      refine V_iload C dL_areChildren_277 rfl ?_
                      refine V_icmp_ne C (tgt := 287) dL_areChildren_279 (by decide) (fun h279 => ?_) (fun h279 => ?_)
                      ·
                        exact J287
                      ·
                        refine V_iload C dL_areChildren_282 rfl ?_
                        refine V_if_ne C (tgt := 346) dL_areChildren_284 (by decide) (fun h284 => absurd h284 (fun z => z (g3 h279))) (fun h284 => ?_)
                        exact J287
              exact V_sub (by repeat first | exact trivial | refine ⟨rfl, ?_⟩) (V_widen (by omega) (by omega) (L2 (cN σ 20) 0 (by omega)))
            ·
              refine V_aload_n C dL_areChildren_196 rfl (by first | exact isR_r _ | exact isR_q _ | exact isR_n) ?_
              refine V_iload C dL_areChildren_197 rfl ?_
              refine V_iconst C (v := 5) dL_areChildren_199 (by decide) ?_
              refine V_fH C (r_is5 _ hl G S q a γ σ hP  k hk) kh_L_119 (by decide) ⟨(by omega : _ ≤ 80), (by omega : _ ≤ 600)⟩ rfl rfl (Nat.le_of_ble_eq_true rfl) dL_areChildren_200 ?_
              dsimp only [Option.toList_some, Option.toList_none, List.cons_append, List.nil_append]
              refine V_if_eq C (tgt := 217) dL_areChildren_203 (by decide) (fun h203 => ?_) (fun h203 => ?_)
              ·
                exact J217
              ·
                refine V_aload_n C dL_areChildren_206 rfl (by first | exact isR_r _ | exact isR_q _ | exact isR_n) ?_
                refine V_iload C dL_areChildren_207 rfl ?_
                refine V_iconst C (v := 4) dL_areChildren_209 (by decide) ?_
                refine V_fH C (r_is4 _ hl G S q a γ σ hP  k hk) kh_L_119 (by decide) ⟨(by omega : _ ≤ 80), (by omega : _ ≤ 600)⟩ rfl rfl (Nat.le_of_ble_eq_true rfl) dL_areChildren_210 ?_
                dsimp only [Option.toList_some, Option.toList_none, List.cons_append, List.nil_append]
                refine V_iconst C (v := 2) dL_areChildren_213 (by decide) ?_
                refine V_icmp_le C (tgt := 234) dL_areChildren_214 (by decide) (fun h214 => absurd h214 (Int32.not_le.mpr (v3.resolve_left fun z => h203 (if_pos z)))) (fun h214 => ?_)
                exact J217
          ·
            refine V_iload C dL_areChildren_159 rfl ?_
            refine V_iconst C (v := (-1)) dL_areChildren_161 (by decide) ?_
            refine V_icmp_eq C (tgt := 176) dL_areChildren_162 (by decide) (fun h162 => ?_) (fun h162 => ?_)
            ·
              exact J176
            ·
              refine V_iload C dL_areChildren_165 rfl ?_
              refine V_aload_n C dL_areChildren_167 rfl (by first | exact isR_r _ | exact isR_q _ | exact isR_n) ?_
              refine V_iconst C (v := 4) dL_areChildren_168 (by decide) ?_
              refine V_gl C hP 0 4 (by decide) (by decide) rfl e04 dL_areChildren_169 ?_
              refine V_bipush C (v := 30) dL_areChildren_170 (by decide) ?_
              refine V_isub C dL_areChildren_172 ?_
              refine V_icmp_le C (tgt := 234) dL_areChildren_173 (by decide) (fun h173 => absurd h173 (Int32.not_le.mpr (r3.resolve_left h162))) (fun h173 => ?_)
              exact J176
        ·
          refine V_iload C dL_areChildren_148 rfl ?_
          refine V_if_gt C (tgt := 159) dL_areChildren_150 (by decide) (fun h150 => ?_) (fun h150 => ?_)
          ·
            exact J159
          ·
            refine V_iload C dL_areChildren_153 rfl ?_
            refine V_iconst C (v := (-1)) dL_areChildren_155 (by decide) ?_
            refine V_icmp_ne C (tgt := 234) dL_areChildren_156 (by decide) (fun h156 => absurd h156 (fun z => z (r2.resolve_left h150))) (fun h156 => ?_)
            exact J159
  refine V_aload_n C dL_areChildren_0 rfl (by first | exact isR_r _ | exact isR_q _ | exact isR_n) ?_
  refine V_aload_n C dL_areChildren_1 rfl (by first | exact isR_r _ | exact isR_q _ | exact isR_n) ?_
  refine V_iconst C (v := 0) dL_areChildren_2 (by decide) ?_
  refine V_gl C hP 0 0 (by decide) (by decide) rfl e00 dL_areChildren_3 ?_
  refine V_iconst C (v := 0) dL_areChildren_4 (by decide) ?_
  refine V_fH C (r_childIsX _ hl G S q a γ σ hP  (nI (cN σ 1)) 0 (n_no (by omega))) kh_L_119 (by decide) ⟨(by omega : _ ≤ 80), (by omega : _ ≤ 600)⟩ rfl rfl (Nat.le_of_ble_eq_true rfl) dL_areChildren_5 ?_
  dsimp only [Option.toList_some, Option.toList_none, List.cons_append, List.nil_append]
  refine V_ldc C dL_areChildren_8 cs_L_32 ?_
  refine V_icmp_ne C (tgt := 17) dL_areChildren_10 (by decide) (fun h10 => absurd h10 (fun z => z rfl)) (fun h10 => ?_)
  refine V_iconst C (v := 1) dL_areChildren_13 (by decide) ?_
  refine V_goto C (tgt := 18) dL_areChildren_14 (by decide) ?_
  refine V_istore C dL_areChildren_18 (by decide) rfl ?_
  simp only [lset1, lset2, List.filter_cons, List.filter_nil, Nat.reduceBEq, Nat.reduceAdd, Bool.not_true, Bool.not_false, Bool.and_true, Bool.and_false, Bool.true_and, Bool.false_and, if_true, if_false, Bool.false_eq_true, reduceIte]
  refine V_iconst C (v := 0) dL_areChildren_20 (by decide) ?_
  refine V_istore C dL_areChildren_21 (by decide) rfl ?_
  simp only [lset1, lset2, List.filter_cons, List.filter_nil, Nat.reduceBEq, Nat.reduceAdd, Bool.not_true, Bool.not_false, Bool.and_true, Bool.and_false, Bool.true_and, Bool.false_and, if_true, if_false, Bool.false_eq_true, reduceIte]
  refine V_iconst C (v := 0) dL_areChildren_23 (by decide) ?_
  refine V_istore C dL_areChildren_24 (by decide) rfl ?_
  simp only [lset1, lset2, List.filter_cons, List.filter_nil, Nat.reduceBEq, Nat.reduceAdd, Bool.not_true, Bool.not_false, Bool.and_true, Bool.and_false, Bool.true_and, Bool.false_and, if_true, if_false, Bool.false_eq_true, reduceIte]
  exact V_sub (by repeat first | exact trivial | refine ⟨rfl, ?_⟩) (V_widen (by omega) (by omega) (L1 (cN σ 1) 0 (by omega)))
