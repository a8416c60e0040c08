/-! THE CLASS: place. -/
theorem c_X8_place (l : Launch) (hl : l.stackTraces = false) (G : gG) (S : sS) (ad : Nat → Nat → Nat) (σ : aS) (hC : RelC S ad σ) (hI : IC σ) (hS : IS σ) (hO : IO σ) (k : Nat) (hk : k < cN σ 1) (m : Nat) (hm : m < cN σ 20) (h1 : ¬ mHomeOf σ k = nI m) (h2 : mWhyNot σ k m = 0) (h3 : σ.2 43 < 100) : CtC l G yX8_place cX8_place 5 (Option.some FieldType.int) 7 8 60 [.ref (ad 8 0), .int (nI k), .int (nI m)] S ad (some (.int (oBegins σ k (nI m)).1)) (oBegins σ k (nI m)).2 := by
  refine Ct_of (by decide) (cat1_all (by repeat first | exact trivial | refine ⟨by first | rfl | exact isR_c (isR_q _), ?_⟩)) (Nat.le_of_ble_eq_true rfl) hl fun X C hXl hin => ?_
  subst hXl
  dsimp only [lArgs, Nat.reduceAdd]
  have kx : sK S (ad 8 0) = 9 := RelC_K hC 8 (by decide) rfl
  have kc : sK S (ad 0 k) = 1 := RelC_K hC 0 (by decide) hk
  have n100 : cN σ 43 < 100 := by
    have e := hI.2.2.2.2.2.1
    rw [e.1] at h3
    exact (nI_ltI (a := cN σ 43) (b := 100) (by omega) (by decide)).mp h3
  have ev : (oBegins σ k (nI m)).1 = nI (cN σ 43) := by
    show σ.2 43 + 1 - 1 = _
    rw [hI.2.2.2.2.2.1.1, nI_1, nI_prv, ← hI.2.2.2.2.2.1.1]
  refine V_aload_n C dX8_place_0 rfl (by first | exact isR_r _ | exact isR_q _ | exact isR_n) ?_
  refine V_iload_n C dX8_place_1 rfl ?_
  refine V_fV C (c_X8_childAt _ hl G S ad σ hC hI.2.1.2 k hk) kv_X8_90 cf_8 (by decide) rfl kx (by decide) (by decide) rfl rfl (Nat.le_of_ble_eq_true rfl) dX8_place_2 ?_
  dsimp only [Option.toList_some, Option.toList_none, List.cons_append, List.nil_append]
  refine V_astore_n C dX8_place_5 (by decide) (by first | exact isR_r _ | exact isR_q _ | exact isR_n) rfl ?_
  simp only [lset1, lset2, List.filter_cons, List.filter_nil, Nat.reduceBEq, Nat.reduceAdd, Bool.not_true, Bool.not_false, Bool.and_true, Bool.and_false, Bool.true_and, Bool.false_and, if_true, if_false, Bool.false_eq_true, reduceIte]
  refine V_aload_n C dX8_place_6 rfl (by first | exact isR_r _ | exact isR_q _ | exact isR_n) ?_
  refine V_iload_n C dX8_place_7 rfl ?_
  refine V_fV C (c_X8_homeAt _ hl G S ad σ hC hI.2.2.1.2 m hm) kv_X8_71 cf_8 (by decide) rfl kx (by decide) (by decide) rfl rfl (Nat.le_of_ble_eq_true rfl) dX8_place_8 ?_
  dsimp only [Option.toList_some, Option.toList_none, List.cons_append, List.nil_append]
  refine V_astore C dX8_place_11 (by decide) (by first | exact isR_r _ | exact isR_q _ | exact isR_n) rfl ?_
  simp only [lset1, lset2, List.filter_cons, List.filter_nil, Nat.reduceBEq, Nat.reduceAdd, Bool.not_true, Bool.not_false, Bool.and_true, Bool.and_false, Bool.true_and, Bool.false_and, if_true, if_false, Bool.false_eq_true, reduceIte]
  refine V_aload_n C dX8_place_13 rfl (by first | exact isR_r _ | exact isR_q _ | exact isR_n) ?_
  refine V_aload C dX8_place_14 rfl (by first | exact isR_r _ | exact isR_q _ | exact isR_n) ?_
  refine V_fV C (c_X0_isIn _ hl G S ad σ hC hI hS k hk m hm) kv_X8_150 cf_0 (by decide) rfl kc (by decide) (by decide) rfl rfl (Nat.le_of_ble_eq_true rfl) dX8_place_16 ?_
  dsimp only [Option.toList_some, Option.toList_none, List.cons_append, List.nil_append]
  refine V_if_ne C (tgt := 32) dX8_place_19 (by decide) (fun h19 => ?_) (fun h19 => ?_)
  · exact absurd (pI9_ne.mp h19) h1
  · refine V_aload_n C dX8_place_22 rfl (by first | exact isR_r _ | exact isR_q _ | exact isR_n) ?_
    refine V_aload_n C dX8_place_23 rfl (by first | exact isR_r _ | exact isR_q _ | exact isR_n) ?_
    refine V_aload C dX8_place_24 rfl (by first | exact isR_r _ | exact isR_q _ | exact isR_n) ?_
    refine V_fV C (c_X8_barToday _ hl G S ad σ hC hI hO hS k hk m hm) kv_X8_143 cf_8 (by decide) rfl kx (by decide) (by decide) rfl rfl (Nat.le_of_ble_eq_true rfl) dX8_place_26 ?_
    dsimp only [Option.toList_some, Option.toList_none, List.cons_append, List.nil_append]
    refine V_if_eq C (tgt := 42) dX8_place_29 (by decide) (fun h29 => ?_) (fun h29 => ?_)
    · refine V_aload_n C dX8_place_42 rfl (by first | exact isR_r _ | exact isR_q _ | exact isR_n) ?_
      refine V_aload_n C dX8_place_43 rfl (by first | exact isR_r _ | exact isR_q _ | exact isR_n) ?_
      refine V_aload C dX8_place_44 rfl (by first | exact isR_r _ | exact isR_q _ | exact isR_n) ?_
      refine V_callV C (c_X8_beginStay _ hl G S ad σ hC hI hS hO k hk m hm (cN σ 43) rfl n100) kv_X8_156 cf_8 (by decide) rfl kx (by decide) (by decide) rfl rfl (Nat.le_of_ble_eq_true rfl) dX8_place_46 ?_ (fun _ _ h => h.elim)
      intro w1 T hT
      obtain ⟨rfl, hT⟩ := hT
      dsimp only [Option.toList_some, Option.toList_none, List.cons_append, List.nil_append]
      refine V_iret C (by first | omega | decide) (by first | omega | decide) dX8_place_49 ?_
      exact ⟨by rw [ev], CQE_CQ hT⟩
    · exact absurd h2 h29
theorem c_X8_placeX (l : Launch) (hl : l.stackTraces = false) (G : gG) (S : sS) (ad : Nat → Nat → Nat) (σ : aS) (hC : RelC S ad σ) (hI : IC σ) (x y : Int32) (hx : (¬ ∃ k, k < cN σ 1 ∧ x = nI k) ∨ ¬ ∃ h, h < cN σ 20 ∧ y = nI h) : CtX l G yX8_place cX8_place 5 (Option.some FieldType.int) 7 8 60 [.ref (ad 8 0), .int x, .int y] S "java/lang/IndexOutOfBoundsException" := by
  refine Ct_of (by decide) (cat1_all (by repeat first | exact trivial | refine ⟨by first | rfl | exact isR_c (isR_q _), ?_⟩)) (Nat.le_of_ble_eq_true rfl) hl fun X C hXl hin => ?_
  subst hXl
  dsimp only [lArgs, Nat.reduceAdd]
  have kx : sK S (ad 8 0) = 9 := RelC_K hC 8 (by decide) rfl
  by_cases hx1 : ∃ k, k < cN σ 1 ∧ x = nI k
  · obtain ⟨k, hk, rfl⟩ := hx1
    have hy : ¬ ∃ h, h < cN σ 20 ∧ y = nI h := by
      rcases hx with q | q
      · exact absurd ⟨k, hk, rfl⟩ q
      · exact q
    refine V_aload_n C dX8_place_0 rfl (by first | exact isR_r _ | exact isR_q _ | exact isR_n) ?_
    refine V_iload_n C dX8_place_1 rfl ?_
    refine V_fV C (c_X8_childAt _ hl G S ad σ hC hI.2.1.2 k hk) kv_X8_90 cf_8 (by decide) rfl kx (by decide) (by decide) rfl rfl (Nat.le_of_ble_eq_true rfl) dX8_place_2 ?_
    dsimp only [Option.toList_some, Option.toList_none, List.cons_append, List.nil_append]
    refine V_astore_n C dX8_place_5 (by decide) (by first | exact isR_r _ | exact isR_q _ | exact isR_n) rfl ?_
    simp only [lset1, lset2, List.filter_cons, List.filter_nil, Nat.reduceBEq, Nat.reduceAdd, Bool.not_true, Bool.not_false, Bool.and_true, Bool.and_false, Bool.true_and, Bool.false_and, if_true, if_false, Bool.false_eq_true, reduceIte]
    refine V_aload_n C dX8_place_6 rfl (by first | exact isR_r _ | exact isR_q _ | exact isR_n) ?_
    refine V_iload_n C dX8_place_7 rfl ?_
    refine V_xV C (c_X8_homeAtX _ hl G S ad σ hC hI.2.2.1.2 y hy) kv_X8_71 cf_8 (by decide) rfl kx (by decide) (by decide) rfl rfl (Nat.le_of_ble_eq_true rfl) dX8_place_8 (by first | omega | decide) (by first | omega | decide) ?_
    exact ⟨rfl, rfl⟩
  · refine V_aload_n C dX8_place_0 rfl (by first | exact isR_r _ | exact isR_q _ | exact isR_n) ?_
    refine V_iload_n C dX8_place_1 rfl ?_
    refine V_xV C (c_X8_childAtX _ hl G S ad σ hC hI.2.1.2 x hx1) kv_X8_90 cf_8 (by decide) rfl kx (by decide) (by decide) rfl rfl (Nat.le_of_ble_eq_true rfl) dX8_place_2 (by first | omega | decide) (by first | omega | decide) ?_
    exact ⟨rfl, rfl⟩
theorem c_X8_placeY (l : Launch) (hl : l.stackTraces = false) (G : gG) (S : sS) (ad : Nat → Nat → Nat) (σ : aS) (hC : RelC S ad σ) (hI : IC σ) (hS : IS σ) (hO : IO σ) (k : Nat) (hk : k < cN σ 1) (m : Nat) (hm : m < cN σ 20) (hn : ¬ (¬ mHomeOf σ k = nI m ∧ mWhyNot σ k m = 0 ∧ σ.2 43 < 100)) : CtX l G yX8_place cX8_place 5 (Option.some FieldType.int) 7 8 60 [.ref (ad 8 0), .int (nI k), .int (nI m)] S "java/lang/IllegalStateException" := by
  refine Ct_of (by decide) (cat1_all (by repeat first | exact trivial | refine ⟨by first | rfl | exact isR_c (isR_q _), ?_⟩)) (Nat.le_of_ble_eq_true rfl) hl fun X C hXl hin => ?_
  subst hXl
  dsimp only [lArgs, Nat.reduceAdd]
  have kx : sK S (ad 8 0) = 9 := RelC_K hC 8 (by decide) rfl
  have kc : sK S (ad 0 k) = 1 := RelC_K hC 0 (by decide) hk
  refine V_aload_n C dX8_place_0 rfl (by first | exact isR_r _ | exact isR_q _ | exact isR_n) ?_
  refine V_iload_n C dX8_place_1 rfl ?_
  refine V_fV C (c_X8_childAt _ hl G S ad σ hC hI.2.1.2 k hk) kv_X8_90 cf_8 (by decide) rfl kx (by decide) (by decide) rfl rfl (Nat.le_of_ble_eq_true rfl) dX8_place_2 ?_
  dsimp only [Option.toList_some, Option.toList_none, List.cons_append, List.nil_append]
  refine V_astore_n C dX8_place_5 (by decide) (by first | exact isR_r _ | exact isR_q _ | exact isR_n) rfl ?_
  simp only [lset1, lset2, List.filter_cons, List.filter_nil, Nat.reduceBEq, Nat.reduceAdd, Bool.not_true, Bool.not_false, Bool.and_true, Bool.and_false, Bool.true_and, Bool.false_and, if_true, if_false, Bool.false_eq_true, reduceIte]
  refine V_aload_n C dX8_place_6 rfl (by first | exact isR_r _ | exact isR_q _ | exact isR_n) ?_
  refine V_iload_n C dX8_place_7 rfl ?_
  refine V_fV C (c_X8_homeAt _ hl G S ad σ hC hI.2.2.1.2 m hm) kv_X8_71 cf_8 (by decide) rfl kx (by decide) (by decide) rfl rfl (Nat.le_of_ble_eq_true rfl) dX8_place_8 ?_
  dsimp only [Option.toList_some, Option.toList_none, List.cons_append, List.nil_append]
  refine V_astore C dX8_place_11 (by decide) (by first | exact isR_r _ | exact isR_q _ | exact isR_n) rfl ?_
  simp only [lset1, lset2, List.filter_cons, List.filter_nil, Nat.reduceBEq, Nat.reduceAdd, Bool.not_true, Bool.not_false, Bool.and_true, Bool.and_false, Bool.true_and, Bool.false_and, if_true, if_false, Bool.false_eq_true, reduceIte]
  refine V_aload_n C dX8_place_13 rfl (by first | exact isR_r _ | exact isR_q _ | exact isR_n) ?_
  refine V_aload C dX8_place_14 rfl (by first | exact isR_r _ | exact isR_q _ | exact isR_n) ?_
  refine V_fV C (c_X0_isIn _ hl G S ad σ hC hI hS k hk m hm) kv_X8_150 cf_0 (by decide) rfl kc (by decide) (by decide) rfl rfl (Nat.le_of_ble_eq_true rfl) dX8_place_16 ?_
  dsimp only [Option.toList_some, Option.toList_none, List.cons_append, List.nil_append]
  refine V_if_ne C (tgt := 32) dX8_place_19 (by decide) (fun h19 => ?_) (fun h19 => ?_)
  · refine V_throwS C tw_X8_46_154_50 dX8_place_32 dX8_place_35 dX8_place_36 dX8_place_38 dX8_place_41 (by decide) (by first | omega | decide) (by first | omega | decide) ?_
    exact ⟨rfl, rfl⟩
  · refine V_aload_n C dX8_place_22 rfl (by first | exact isR_r _ | exact isR_q _ | exact isR_n) ?_
    refine V_aload_n C dX8_place_23 rfl (by first | exact isR_r _ | exact isR_q _ | exact isR_n) ?_
    refine V_aload C dX8_place_24 rfl (by first | exact isR_r _ | exact isR_q _ | exact isR_n) ?_
    refine V_fV C (c_X8_barToday _ hl G S ad σ hC hI hO hS k hk m hm) kv_X8_143 cf_8 (by decide) rfl kx (by decide) (by decide) rfl rfl (Nat.le_of_ble_eq_true rfl) dX8_place_26 ?_
    dsimp only [Option.toList_some, Option.toList_none, List.cons_append, List.nil_append]
    refine V_if_eq C (tgt := 42) dX8_place_29 (by decide) (fun h29 => ?_) (fun h29 => ?_)
    · refine V_aload_n C dX8_place_42 rfl (by first | exact isR_r _ | exact isR_q _ | exact isR_n) ?_
      refine V_aload_n C dX8_place_43 rfl (by first | exact isR_r _ | exact isR_q _ | exact isR_n) ?_
      refine V_aload C dX8_place_44 rfl (by first | exact isR_r _ | exact isR_q _ | exact isR_n) ?_
      refine V_xV C (c_X8_beginStayX _ hl G S ad σ hC m k (fun z => hn ⟨fun q => pI9_z.mp h19 q, h29, z⟩)) kv_X8_156 cf_8 (by decide) rfl kx (by decide) (by decide) rfl rfl (Nat.le_of_ble_eq_true rfl) dX8_place_46 (by first | omega | decide) (by first | omega | decide) ?_
      exact ⟨rfl, rfl⟩
    · refine V_throwS C tw_X8_46_154_50 dX8_place_32 dX8_place_35 dX8_place_36 dX8_place_38 dX8_place_41 (by decide) (by first | omega | decide) (by first | omega | decide) ?_
      exact ⟨rfl, rfl⟩

