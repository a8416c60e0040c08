/-! THE CLASS: calls that read. -/
theorem c_X8_risk (l : Launch) (hl : l.stackTraces = false) (G : gG) (S : sS) (ad : Nat → Nat → Nat) (σ : aS) (hC : RelC S ad σ) (hI : IC σ) (k : Nat) (hk : k < cN σ 1) : CtF l G yX8_risk cX8_risk 2 (Option.some FieldType.int) 7 1 6 [.ref (ad 8 0), .int (nI k)] S (some (.int (rSum (rAll σ k) (σ.2 0)))) S := by
  refine Ct_of (by decide) (cat1_all (by repeat first | exact trivial | refine ⟨by first | rfl | exact isR_c (isR_q _), ?_⟩)) (Nat.le_of_ble_eq_true rfl) hl fun X C hXl hin => ?_
  subst hXl
  dsimp only [lArgs, Nat.reduceAdd]
  have kx : sK S (ad 8 0) = 9 := RelC_K hC 8 (by decide) rfl
  have ix_808 : sI S 808 (ad 8 0) = σ.2 0 := RelC_I hC 8 808 rfl (by unfold cFd; omega) rfl rfl
  have kc : sK S (ad 0 k) = 1 := RelC_K hC 0 (by decide) hk
  have rc_7 : sR S 7 (ad 0 k) = some (ad 5 k) := RelC_R hC 0 7 rfl (by unfold cFd; omega) rfl hk
  have kr : sK S (ad 5 k) = 6 := RelC_K hC 5 (by decide) hk
  refine V_aload_n C dX8_risk_0 rfl (by first | exact isR_r _ | exact isR_q _ | exact isR_n) ?_
  refine V_iload_n C dX8_risk_1 rfl ?_
  refine V_fV C (c_X8_childAt _ hl G S ad σ hC hI.2.1.2 k hk) kv_X8_90 cf_8 (by decide) rfl kx (by decide) (by decide) rfl rfl (Nat.le_of_ble_eq_true rfl) dX8_risk_2 ?_
  dsimp only [Option.toList_some, Option.toList_none, List.cons_append, List.nil_append]
  refine V_getS C 0 7 rfl cf_0 fl_X8_94 (by decide) (by decide) dX8_risk_5 kc rc_7 ?_
  refine V_aload_n C dX8_risk_8 rfl (by first | exact isR_r _ | exact isR_q _ | exact isR_n) ?_
  refine V_getIe C 8 8 rfl cf_8 fl_X8_53 (by decide) (by decide) dX8_risk_9 kx ix_808 ?_
  refine V_fV C (c_X5_sumOn _ hl G S ad σ hC hI k hk (σ.2 0)) kv_X8_109 cf_5 (by decide) rfl kr (by decide) (by decide) rfl rfl (Nat.le_of_ble_eq_true rfl) dX8_risk_12 ?_
  dsimp only [Option.toList_some, Option.toList_none, List.cons_append, List.nil_append]
  refine V_iret C (by first | omega | decide) (by first | omega | decide) dX8_risk_15 ?_
  exact ⟨rfl, rfl⟩
theorem c_X8_riskX (l : Launch) (hl : l.stackTraces = false) (G : gG) (S : sS) (ad : Nat → Nat → Nat) (σ : aS) (hC : RelC S ad σ) (hI : IC σ) (x : Int32) (hx : ¬ ∃ k, k < cN σ 1 ∧ x = nI k) : CtX l G yX8_risk cX8_risk 2 (Option.some FieldType.int) 7 1 6 [.ref (ad 8 0), .int x] S "java/lang/IndexOutOfBoundsException" := by
  refine Ct_of (by decide) (cat1_all (by repeat first | exact trivial | refine ⟨by first | rfl | exact isR_c (isR_q _), ?_⟩)) (Nat.le_of_ble_eq_true rfl) hl fun X C hXl hin => ?_
  subst hXl
  dsimp only [lArgs, Nat.reduceAdd]
  have kx : sK S (ad 8 0) = 9 := RelC_K hC 8 (by decide) rfl
  refine V_aload_n C dX8_risk_0 rfl (by first | exact isR_r _ | exact isR_q _ | exact isR_n) ?_
  refine V_iload_n C dX8_risk_1 rfl ?_
  refine V_xV C (c_X8_childAtX _ hl G S ad σ hC hI.2.1.2 x hx) kv_X8_90 cf_8 (by decide) rfl kx (by decide) (by decide) rfl rfl (Nat.le_of_ble_eq_true rfl) dX8_risk_2 (by first | omega | decide) (by first | omega | decide) ?_
  exact ⟨rfl, rfl⟩
theorem c_X8_seeBy (l : Launch) (hl : l.stackTraces = false) (G : gG) (S : sS) (ad : Nat → Nat → Nat) (σ : aS) (hC : RelC S ad σ) (hI : IC σ) (k : Nat) (hk : k < cN σ 1) : CtF l G yX8_seeBy cX8_seeBy 2 (Option.some FieldType.int) 7 1 6 [.ref (ad 8 0), .int (nI k)] S (some (.int (rSee (rAll σ k) (σ.2 0) (σ.1 9 k)))) S := by
  refine Ct_of (by decide) (cat1_all (by repeat first | exact trivial | refine ⟨by first | rfl | exact isR_c (isR_q _), ?_⟩)) (Nat.le_of_ble_eq_true rfl) hl fun X C hXl hin => ?_
  subst hXl
  dsimp only [lArgs, Nat.reduceAdd]
  have kx : sK S (ad 8 0) = 9 := RelC_K hC 8 (by decide) rfl
  have ix_808 : sI S 808 (ad 8 0) = σ.2 0 := RelC_I hC 8 808 rfl (by unfold cFd; omega) rfl rfl
  have kc : sK S (ad 0 k) = 1 := RelC_K hC 0 (by decide) hk
  have rc_7 : sR S 7 (ad 0 k) = some (ad 5 k) := RelC_R hC 0 7 rfl (by unfold cFd; omega) rfl hk
  have kr : sK S (ad 5 k) = 6 := RelC_K hC 5 (by decide) hk
  refine V_aload_n C dX8_seeBy_0 rfl (by first | exact isR_r _ | exact isR_q _ | exact isR_n) ?_
  refine V_iload_n C dX8_seeBy_1 rfl ?_
  refine V_fV C (c_X8_childAt _ hl G S ad σ hC hI.2.1.2 k hk) kv_X8_90 cf_8 (by decide) rfl kx (by decide) (by decide) rfl rfl (Nat.le_of_ble_eq_true rfl) dX8_seeBy_2 ?_
  dsimp only [Option.toList_some, Option.toList_none, List.cons_append, List.nil_append]
  refine V_getS C 0 7 rfl cf_0 fl_X8_94 (by decide) (by decide) dX8_seeBy_5 kc rc_7 ?_
  refine V_aload_n C dX8_seeBy_8 rfl (by first | exact isR_r _ | exact isR_q _ | exact isR_n) ?_
  refine V_getIe C 8 8 rfl cf_8 fl_X8_53 (by decide) (by decide) dX8_seeBy_9 kx ix_808 ?_
  refine V_fV C (c_X5_dayToSeeBy _ hl G S ad σ hC hI k hk (σ.2 0)) kv_X8_113 cf_5 (by decide) rfl kr (by decide) (by decide) rfl rfl (Nat.le_of_ble_eq_true rfl) dX8_seeBy_12 ?_
  dsimp only [Option.toList_some, Option.toList_none, List.cons_append, List.nil_append]
  refine V_iret C (by first | omega | decide) (by first | omega | decide) dX8_seeBy_15 ?_
  exact ⟨rfl, rfl⟩
theorem c_X8_seeByX (l : Launch) (hl : l.stackTraces = false) (G : gG) (S : sS) (ad : Nat → Nat → Nat) (σ : aS) (hC : RelC S ad σ) (hI : IC σ) (x : Int32) (hx : ¬ ∃ k, k < cN σ 1 ∧ x = nI k) : CtX l G yX8_seeBy cX8_seeBy 2 (Option.some FieldType.int) 7 1 6 [.ref (ad 8 0), .int x] S "java/lang/IndexOutOfBoundsException" := by
  refine Ct_of (by decide) (cat1_all (by repeat first | exact trivial | refine ⟨by first | rfl | exact isR_c (isR_q _), ?_⟩)) (Nat.le_of_ble_eq_true rfl) hl fun X C hXl hin => ?_
  subst hXl
  dsimp only [lArgs, Nat.reduceAdd]
  have kx : sK S (ad 8 0) = 9 := RelC_K hC 8 (by decide) rfl
  refine V_aload_n C dX8_seeBy_0 rfl (by first | exact isR_r _ | exact isR_q _ | exact isR_n) ?_
  refine V_iload_n C dX8_seeBy_1 rfl ?_
  refine V_xV C (c_X8_childAtX _ hl G S ad σ hC hI.2.1.2 x hx) kv_X8_90 cf_8 (by decide) rfl kx (by decide) (by decide) rfl rfl (Nat.le_of_ble_eq_true rfl) dX8_seeBy_2 (by first | omega | decide) (by first | omega | decide) ?_
  exact ⟨rfl, rfl⟩
theorem c_X8_why (l : Launch) (hl : l.stackTraces = false) (G : gG) (S : sS) (ad : Nat → Nat → Nat) (σ : aS) (hC : RelC S ad σ) (hI : IC σ) (hO : IO σ) (hS : IS σ) (k : Nat) (hk : k < cN σ 1) (h : Nat) (hh : h < cN σ 20) : CtF l G yX8_why cX8_why 3 (Option.some FieldType.int) 7 2 12 [.ref (ad 8 0), .int (nI k), .int (nI h)] S (some (.int (mWhyNot σ k h))) S := by
  refine Ct_of (by decide) (cat1_all (by repeat first | exact trivial | refine ⟨by first | rfl | exact isR_c (isR_q _), ?_⟩)) (Nat.le_of_ble_eq_true rfl) hl fun X C hXl hin => ?_
  subst hXl
  dsimp only [lArgs, Nat.reduceAdd]
  have kx : sK S (ad 8 0) = 9 := RelC_K hC 8 (by decide) rfl
  refine V_aload_n C dX8_why_0 rfl (by first | exact isR_r _ | exact isR_q _ | exact isR_n) ?_
  refine V_aload_n C dX8_why_1 rfl (by first | exact isR_r _ | exact isR_q _ | exact isR_n) ?_
  refine V_iload_n C dX8_why_2 rfl ?_
  refine V_fV C (c_X8_childAt _ hl G S ad σ hC hI.2.1.2 k hk) kv_X8_90 cf_8 (by decide) rfl kx (by decide) (by decide) rfl rfl (Nat.le_of_ble_eq_true rfl) dX8_why_3 ?_
  dsimp only [Option.toList_some, Option.toList_none, List.cons_append, List.nil_append]
  refine V_aload_n C dX8_why_6 rfl (by first | exact isR_r _ | exact isR_q _ | exact isR_n) ?_
  refine V_iload_n C dX8_why_7 rfl ?_
  refine V_fV C (c_X8_homeAt _ hl G S ad σ hC hI.2.2.1.2 h hh) kv_X8_71 cf_8 (by decide) rfl kx (by decide) (by decide) rfl rfl (Nat.le_of_ble_eq_true rfl) dX8_why_8 ?_
  dsimp only [Option.toList_some, Option.toList_none, List.cons_append, List.nil_append]
  refine V_fV C (c_X8_barToday _ hl G S ad σ hC hI hO hS k hk h hh) kv_X8_143 cf_8 (by decide) rfl kx (by decide) (by decide) rfl rfl (Nat.le_of_ble_eq_true rfl) dX8_why_11 ?_
  dsimp only [Option.toList_some, Option.toList_none, List.cons_append, List.nil_append]
  refine V_iret C (by first | omega | decide) (by first | omega | decide) dX8_why_14 ?_
  exact ⟨rfl, rfl⟩
theorem c_X8_whyX (l : Launch) (hl : l.stackTraces = false) (G : gG) (S : sS) (ad : Nat → Nat → Nat) (σ : aS) (hC : RelC S ad σ) (hI : IC σ) (x y : Int32) (hx : (¬ ∃ k, k < cN σ 1 ∧ x = nI k) ∨ ¬ ∃ h, h < cN σ 20 ∧ y = nI h) : CtX l G yX8_why cX8_why 3 (Option.some FieldType.int) 7 2 12 [.ref (ad 8 0), .int x, .int y] S "java/lang/IndexOutOfBoundsException" := by
  refine Ct_of (by decide) (cat1_all (by repeat first | exact trivial | refine ⟨by first | rfl | exact isR_c (isR_q _), ?_⟩)) (Nat.le_of_ble_eq_true rfl) hl fun X C hXl hin => ?_
  subst hXl
  dsimp only [lArgs, Nat.reduceAdd]
  have kx : sK S (ad 8 0) = 9 := RelC_K hC 8 (by decide) rfl
  by_cases h1 : ∃ k, k < cN σ 1 ∧ x = nI k
  · have h2 := hx.resolve_left (fun z => z h1)
    obtain ⟨k, hk, rfl⟩ := h1
    refine V_aload_n C dX8_why_0 rfl (by first | exact isR_r _ | exact isR_q _ | exact isR_n) ?_
    refine V_aload_n C dX8_why_1 rfl (by first | exact isR_r _ | exact isR_q _ | exact isR_n) ?_
    refine V_iload_n C dX8_why_2 rfl ?_
    refine V_fV C (c_X8_childAt _ hl G S ad σ hC hI.2.1.2 k hk) kv_X8_90 cf_8 (by decide) rfl kx (by decide) (by decide) rfl rfl (Nat.le_of_ble_eq_true rfl) dX8_why_3 ?_
    dsimp only [Option.toList_some, Option.toList_none, List.cons_append, List.nil_append]
    refine V_aload_n C dX8_why_6 rfl (by first | exact isR_r _ | exact isR_q _ | exact isR_n) ?_
    refine V_iload_n C dX8_why_7 rfl ?_
    refine V_xV C (c_X8_homeAtX _ hl G S ad σ hC hI.2.2.1.2 y h2) kv_X8_71 cf_8 (by decide) rfl kx (by decide) (by decide) rfl rfl (Nat.le_of_ble_eq_true rfl) dX8_why_8 (by first | omega | decide) (by first | omega | decide) ?_
    exact ⟨rfl, rfl⟩
  · refine V_aload_n C dX8_why_0 rfl (by first | exact isR_r _ | exact isR_q _ | exact isR_n) ?_
    refine V_aload_n C dX8_why_1 rfl (by first | exact isR_r _ | exact isR_q _ | exact isR_n) ?_
    refine V_iload_n C dX8_why_2 rfl ?_
    refine V_xV C (c_X8_childAtX _ hl G S ad σ hC hI.2.1.2 x h1) kv_X8_90 cf_8 (by decide) rfl kx (by decide) (by decide) rfl rfl (Nat.le_of_ble_eq_true rfl) dX8_why_3 (by first | omega | decide) (by first | omega | decide) ?_
    exact ⟨rfl, rfl⟩
theorem c_X8_worth (l : Launch) (hl : l.stackTraces = false) (G : gG) (S : sS) (ad : Nat → Nat → Nat) (σ : aS) (hC : RelC S ad σ) (hI : IC σ) (hS : IS σ) (hP : IP σ) (k : Nat) (hk : k < cN σ 1) (h : Nat) (hh : h < cN σ 20) : CtF l G yX8_worth cX8_worth 3 (Option.some FieldType.int) 7 2 12 [.ref (ad 8 0), .int (nI k), .int (nI h)] S (some (.int (mWorth σ k h))) S := by
  refine Ct_of (by decide) (cat1_all (by repeat first | exact trivial | refine ⟨by first | rfl | exact isR_c (isR_q _), ?_⟩)) (Nat.le_of_ble_eq_true rfl) hl fun X C hXl hin => ?_
  subst hXl
  dsimp only [lArgs, Nat.reduceAdd]
  have kx : sK S (ad 8 0) = 9 := RelC_K hC 8 (by decide) rfl
  refine V_aload_n C dX8_worth_0 rfl (by first | exact isR_r _ | exact isR_q _ | exact isR_n) ?_
  refine V_aload_n C dX8_worth_1 rfl (by first | exact isR_r _ | exact isR_q _ | exact isR_n) ?_
  refine V_iload_n C dX8_worth_2 rfl ?_
  refine V_fV C (c_X8_childAt _ hl G S ad σ hC hI.2.1.2 k hk) kv_X8_90 cf_8 (by decide) rfl kx (by decide) (by decide) rfl rfl (Nat.le_of_ble_eq_true rfl) dX8_worth_3 ?_
  dsimp only [Option.toList_some, Option.toList_none, List.cons_append, List.nil_append]
  refine V_aload_n C dX8_worth_6 rfl (by first | exact isR_r _ | exact isR_q _ | exact isR_n) ?_
  refine V_iload_n C dX8_worth_7 rfl ?_
  refine V_fV C (c_X8_homeAt _ hl G S ad σ hC hI.2.2.1.2 h hh) kv_X8_71 cf_8 (by decide) rfl kx (by decide) (by decide) rfl rfl (Nat.le_of_ble_eq_true rfl) dX8_worth_8 ?_
  dsimp only [Option.toList_some, Option.toList_none, List.cons_append, List.nil_append]
  refine V_fV C (c_X8_worthFor _ hl G S ad σ hC hI hS hP k hk h hh) kv_X8_147 cf_8 (by decide) rfl kx (by decide) (by decide) rfl rfl (Nat.le_of_ble_eq_true rfl) dX8_worth_11 ?_
  dsimp only [Option.toList_some, Option.toList_none, List.cons_append, List.nil_append]
  refine V_iret C (by first | omega | decide) (by first | omega | decide) dX8_worth_14 ?_
  exact ⟨rfl, rfl⟩
theorem c_X8_worthX (l : Launch) (hl : l.stackTraces = false) (G : gG) (S : sS) (ad : Nat → Nat → Nat) (σ : aS) (hC : RelC S ad σ) (hI : IC σ) (x y : Int32) (hx : (¬ ∃ k, k < cN σ 1 ∧ x = nI k) ∨ ¬ ∃ h, h < cN σ 20 ∧ y = nI h) : CtX l G yX8_worth cX8_worth 3 (Option.some FieldType.int) 7 2 12 [.ref (ad 8 0), .int x, .int y] S "java/lang/IndexOutOfBoundsException" := by
  refine Ct_of (by decide) (cat1_all (by repeat first | exact trivial | refine ⟨by first | rfl | exact isR_c (isR_q _), ?_⟩)) (Nat.le_of_ble_eq_true rfl) hl fun X C hXl hin => ?_
  subst hXl
  dsimp only [lArgs, Nat.reduceAdd]
  have kx : sK S (ad 8 0) = 9 := RelC_K hC 8 (by decide) rfl
  by_cases h1 : ∃ k, k < cN σ 1 ∧ x = nI k
  · have h2 := hx.resolve_left (fun z => z h1)
    obtain ⟨k, hk, rfl⟩ := h1
    refine V_aload_n C dX8_worth_0 rfl (by first | exact isR_r _ | exact isR_q _ | exact isR_n) ?_
    refine V_aload_n C dX8_worth_1 rfl (by first | exact isR_r _ | exact isR_q _ | exact isR_n) ?_
    refine V_iload_n C dX8_worth_2 rfl ?_
    refine V_fV C (c_X8_childAt _ hl G S ad σ hC hI.2.1.2 k hk) kv_X8_90 cf_8 (by decide) rfl kx (by decide) (by decide) rfl rfl (Nat.le_of_ble_eq_true rfl) dX8_worth_3 ?_
    dsimp only [Option.toList_some, Option.toList_none, List.cons_append, List.nil_append]
    refine V_aload_n C dX8_worth_6 rfl (by first | exact isR_r _ | exact isR_q _ | exact isR_n) ?_
    refine V_iload_n C dX8_worth_7 rfl ?_
    refine V_xV C (c_X8_homeAtX _ hl G S ad σ hC hI.2.2.1.2 y h2) kv_X8_71 cf_8 (by decide) rfl kx (by decide) (by decide) rfl rfl (Nat.le_of_ble_eq_true rfl) dX8_worth_8 (by first | omega | decide) (by first | omega | decide) ?_
    exact ⟨rfl, rfl⟩
  · refine V_aload_n C dX8_worth_0 rfl (by first | exact isR_r _ | exact isR_q _ | exact isR_n) ?_
    refine V_aload_n C dX8_worth_1 rfl (by first | exact isR_r _ | exact isR_q _ | exact isR_n) ?_
    refine V_iload_n C dX8_worth_2 rfl ?_
    refine V_xV C (c_X8_childAtX _ hl G S ad σ hC hI.2.1.2 x h1) kv_X8_90 cf_8 (by decide) rfl kx (by decide) (by decide) rfl rfl (Nat.le_of_ble_eq_true rfl) dX8_worth_3 (by first | omega | decide) (by first | omega | decide) ?_
    exact ⟨rfl, rfl⟩

