/-! THE READING CALLS once more: nothing is made where nothing is thrown. -/
theorem c0_X8_require1 (l : Launch) (hl : l.stackTraces = false) (G : gG) (S : sS) : CtF l G yX8_require cX8_require 1 none 6 0 0 [.int 1] S none S := by
  refine Ct_of (by decide) (cat1_all (by repeat first | exact trivial | refine ⟨by first | rfl | exact isR_c (isR_q _), ?_⟩)) (Nat.le_of_ble_eq_true rfl) hl fun X C hXl hin => ?_
  subst hXl
  dsimp only [lArgs, Nat.reduceAdd]
  refine V_iload_n C dX8_require_0 rfl ?_
  refine V_if_ne C (tgt := 15) dX8_require_1 (by decide) (fun h1 => ?_) (fun h1 => ?_)
  · refine V_vret C (by first | omega | decide) (by first | omega | decide) dX8_require_15 ?_
    exact ⟨rfl, rfl⟩
  · exact absurd h1 (by decide)
theorem c0_X8_childAt (l : Launch) (hl : l.stackTraces = false) (G : gG) (S : sS) (ad : Nat → Nat → Nat) (σ : aS) (hC : RelC S ad σ) (hle : cN σ 1 ≤ 16) (k : Nat) (hk : k < cN σ 1) : CtF l G yX8_childAt cX8_childAt 3 (Option.some (FieldType.object "FosterHouse$Child")) 6 0 0 [.ref (ad 8 0), .int (nI k)] S (some (.ref (ad 0 k))) S := by
  refine Ct_of (by decide) (cat1_all (by repeat first | exact trivial | refine ⟨by first | rfl | exact isR_c (isR_q _), ?_⟩)) (Nat.le_of_ble_eq_true rfl) hl fun X C hXl hin => ?_
  subst hXl
  dsimp only [lArgs, Nat.reduceAdd]
  have kx : sK S (ad 8 0) = 9 := RelC_K hC 8 (by decide) rfl
  have rx_800 : sR S 800 (ad 8 0) = some (ad 15 0) := RelC_R hC 8 800 rfl (by unfold cFd; omega) rfl rfl
  have kq : sK S (ad 15 0) = 104 := hC.1 15 0 (by decide) (by decide) (by decide) rfl
  have lq : sL S (ad 15 0) = 16 := hC.2.2.2.2.1 15 0 (by decide) (by decide) rfl
  have aq := hC.2.2.2.2.2.2.1
  have hk9 : k < 16 := by omega
  have e := (aq k hk9).trans (if_pos hk)
  refine V_iload_n C dX8_childAt_0 rfl ?_
  refine V_if_lt C (tgt := 22) dX8_childAt_1 (by decide) (fun h1 => ?_) (fun h1 => ?_)
  · exact absurd h1 (Int32.not_lt.mpr (nI_pos' (by omega)))
  · refine V_iload_n C dX8_childAt_4 rfl ?_
    refine V_aload_n C dX8_childAt_5 rfl (by first | exact isR_r _ | exact isR_q _ | exact isR_n) ?_
    refine V_getS C 8 0 rfl cf_8 fl_X8_11 (by decide) (by decide) dX8_childAt_6 (by assumption) (by assumption) ?_
    refine V_alen C (v := nI 16) (by assumption) (by decide) (by rw [lq]; rfl) dX8_childAt_9 ?_
    refine V_igeN C (tgt := 22) (by omega) (by omega) dX8_childAt_10 (by decide) (fun h10 => ?_) (fun h10 => ?_)
    · omega
    · refine V_aload_n C dX8_childAt_13 rfl (by first | exact isR_r _ | exact isR_q _ | exact isR_n) ?_
      refine V_getS C 8 0 rfl cf_8 fl_X8_11 (by decide) (by decide) dX8_childAt_14 (by assumption) (by assumption) ?_
      refine V_iload_n C dX8_childAt_17 rfl ?_
      refine V_aaldE C 4 (by decide) kq (by decide) lq rfl hk9 (by decide) dX8_childAt_18 ?_
      rw [e]
      refine V_goto C (tgt := 23) dX8_childAt_19 (by decide) ?_
      refine V_astore_n C dX8_childAt_23 (by decide) (by first | exact isR_r _ | exact isR_q _ | exact isR_n) rfl ?_
      simp only [lset1, lset2, List.filter_cons, List.filter_nil, Nat.reduceBEq, Nat.reduceAdd, Bool.not_true, Bool.not_false, Bool.and_true, Bool.and_false, Bool.true_and, Bool.false_and, if_true, if_false, Bool.false_eq_true, reduceIte]
      refine V_aload_n C dX8_childAt_24 rfl (by first | exact isR_r _ | exact isR_q _ | exact isR_n) ?_
      dsimp only
      refine V_ifnonnull C (tgt := 39) dX8_childAt_25 (by decide) (fun a25 h25 => ?_) (fun h25 => ?_)
      · cases h25
        refine V_aload_n C dX8_childAt_39 rfl (by first | exact isR_r _ | exact isR_q _ | exact isR_n) ?_
        refine V_aret C (by first | exact Or.inl ⟨_, rfl⟩ | exact Or.inr ⟨_, rfl⟩) (by first | exact isR_r _ | exact isR_q _ | exact isR_n) (by first | omega | decide) (by first | omega | decide) dX8_childAt_40 ?_
        exact ⟨rfl, rfl⟩
      · cases h25
theorem c0_X8_homeAt (l : Launch) (hl : l.stackTraces = false) (G : gG) (S : sS) (ad : Nat → Nat → Nat) (σ : aS) (hC : RelC S ad σ) (hle : cN σ 20 ≤ 10) (k : Nat) (hk : k < cN σ 20) : CtF l G yX8_homeAt cX8_homeAt 3 (Option.some (FieldType.object "FosterHouse$Home")) 6 0 0 [.ref (ad 8 0), .int (nI k)] S (some (.ref (ad 2 k))) S := by
  refine Ct_of (by decide) (cat1_all (by repeat first | exact trivial | refine ⟨by first | rfl | exact isR_c (isR_q _), ?_⟩)) (Nat.le_of_ble_eq_true rfl) hl fun X C hXl hin => ?_
  subst hXl
  dsimp only [lArgs, Nat.reduceAdd]
  have kx : sK S (ad 8 0) = 9 := RelC_K hC 8 (by decide) rfl
  have rx_801 : sR S 801 (ad 8 0) = some (ad 16 0) := RelC_R hC 8 801 rfl (by unfold cFd; omega) rfl rfl
  have kq : sK S (ad 16 0) = 105 := hC.1 16 0 (by decide) (by decide) (by decide) rfl
  have lq : sL S (ad 16 0) = 10 := hC.2.2.2.2.1 16 0 (by decide) (by decide) rfl
  have aq := hC.2.2.2.2.2.2.2.1
  have hk9 : k < 10 := by omega
  have e := (aq k hk9).trans (if_pos hk)
  refine V_iload_n C dX8_homeAt_0 rfl ?_
  refine V_if_lt C (tgt := 22) dX8_homeAt_1 (by decide) (fun h1 => ?_) (fun h1 => ?_)
  · exact absurd h1 (Int32.not_lt.mpr (nI_pos' (by omega)))
  · refine V_iload_n C dX8_homeAt_4 rfl ?_
    refine V_aload_n C dX8_homeAt_5 rfl (by first | exact isR_r _ | exact isR_q _ | exact isR_n) ?_
    refine V_getS C 8 1 rfl cf_8 fl_X8_17 (by decide) (by decide) dX8_homeAt_6 (by assumption) (by assumption) ?_
    refine V_alen C (v := nI 10) (by assumption) (by decide) (by rw [lq]; rfl) dX8_homeAt_9 ?_
    refine V_igeN C (tgt := 22) (by omega) (by omega) dX8_homeAt_10 (by decide) (fun h10 => ?_) (fun h10 => ?_)
    · omega
    · refine V_aload_n C dX8_homeAt_13 rfl (by first | exact isR_r _ | exact isR_q _ | exact isR_n) ?_
      refine V_getS C 8 1 rfl cf_8 fl_X8_17 (by decide) (by decide) dX8_homeAt_14 (by assumption) (by assumption) ?_
      refine V_iload_n C dX8_homeAt_17 rfl ?_
      refine V_aaldE C 5 (by decide) kq (by decide) lq rfl hk9 (by decide) dX8_homeAt_18 ?_
      rw [e]
      refine V_goto C (tgt := 23) dX8_homeAt_19 (by decide) ?_
      refine V_astore_n C dX8_homeAt_23 (by decide) (by first | exact isR_r _ | exact isR_q _ | exact isR_n) rfl ?_
      simp only [lset1, lset2, List.filter_cons, List.filter_nil, Nat.reduceBEq, Nat.reduceAdd, Bool.not_true, Bool.not_false, Bool.and_true, Bool.and_false, Bool.true_and, Bool.false_and, if_true, if_false, Bool.false_eq_true, reduceIte]
      refine V_aload_n C dX8_homeAt_24 rfl (by first | exact isR_r _ | exact isR_q _ | exact isR_n) ?_
      dsimp only
      refine V_ifnonnull C (tgt := 39) dX8_homeAt_25 (by decide) (fun a25 h25 => ?_) (fun h25 => ?_)
      · cases h25
        refine V_aload_n C dX8_homeAt_39 rfl (by first | exact isR_r _ | exact isR_q _ | exact isR_n) ?_
        refine V_aret C (by first | exact Or.inl ⟨_, rfl⟩ | exact Or.inr ⟨_, rfl⟩) (by first | exact isR_r _ | exact isR_q _ | exact isR_n) (by first | omega | decide) (by first | omega | decide) dX8_homeAt_40 ?_
        exact ⟨rfl, rfl⟩
      · cases h25
theorem c0_X8_stayAt (l : Launch) (hl : l.stackTraces = false) (G : gG) (S : sS) (ad : Nat → Nat → Nat) (σ : aS) (hC : RelC S ad σ) (hle : cN σ 43 ≤ 100) (k : Nat) (hk : k < cN σ 43) : CtF l G yX8_stayAt cX8_stayAt 3 (Option.some (FieldType.object "FosterHouse$Stay")) 6 0 0 [.ref (ad 8 0), .int (nI k)] S (some (.ref (ad 6 k))) S := by
  refine Ct_of (by decide) (cat1_all (by repeat first | exact trivial | refine ⟨by first | rfl | exact isR_c (isR_q _), ?_⟩)) (Nat.le_of_ble_eq_true rfl) hl fun X C hXl hin => ?_
  subst hXl
  dsimp only [lArgs, Nat.reduceAdd]
  have kx : sK S (ad 8 0) = 9 := RelC_K hC 8 (by decide) rfl
  have rx_802 : sR S 802 (ad 8 0) = some (ad 17 0) := RelC_R hC 8 802 rfl (by unfold cFd; omega) rfl rfl
  have kq : sK S (ad 17 0) = 106 := hC.1 17 0 (by decide) (by decide) (by decide) rfl
  have lq : sL S (ad 17 0) = 100 := hC.2.2.2.2.1 17 0 (by decide) (by decide) rfl
  have aq := hC.2.2.2.2.2.2.2.2.1
  have hk9 : k < 100 := by omega
  have e := (aq k hk9).trans (if_pos hk)
  refine V_iload_n C dX8_stayAt_0 rfl ?_
  refine V_if_lt C (tgt := 22) dX8_stayAt_1 (by decide) (fun h1 => ?_) (fun h1 => ?_)
  · exact absurd h1 (Int32.not_lt.mpr (nI_pos' (by omega)))
  · refine V_iload_n C dX8_stayAt_4 rfl ?_
    refine V_aload_n C dX8_stayAt_5 rfl (by first | exact isR_r _ | exact isR_q _ | exact isR_n) ?_
    refine V_getS C 8 2 rfl cf_8 fl_X8_23 (by decide) (by decide) dX8_stayAt_6 (by assumption) (by assumption) ?_
    refine V_alen C (v := nI 100) (by assumption) (by decide) (by rw [lq]; rfl) dX8_stayAt_9 ?_
    refine V_igeN C (tgt := 22) (by omega) (by omega) dX8_stayAt_10 (by decide) (fun h10 => ?_) (fun h10 => ?_)
    · omega
    · refine V_aload_n C dX8_stayAt_13 rfl (by first | exact isR_r _ | exact isR_q _ | exact isR_n) ?_
      refine V_getS C 8 2 rfl cf_8 fl_X8_23 (by decide) (by decide) dX8_stayAt_14 (by assumption) (by assumption) ?_
      refine V_iload_n C dX8_stayAt_17 rfl ?_
      refine V_aaldE C 6 (by decide) kq (by decide) lq rfl hk9 (by decide) dX8_stayAt_18 ?_
      rw [e]
      refine V_goto C (tgt := 23) dX8_stayAt_19 (by decide) ?_
      refine V_astore_n C dX8_stayAt_23 (by decide) (by first | exact isR_r _ | exact isR_q _ | exact isR_n) rfl ?_
      simp only [lset1, lset2, List.filter_cons, List.filter_nil, Nat.reduceBEq, Nat.reduceAdd, Bool.not_true, Bool.not_false, Bool.and_true, Bool.and_false, Bool.true_and, Bool.false_and, if_true, if_false, Bool.false_eq_true, reduceIte]
      refine V_aload_n C dX8_stayAt_24 rfl (by first | exact isR_r _ | exact isR_q _ | exact isR_n) ?_
      dsimp only
      refine V_ifnonnull C (tgt := 39) dX8_stayAt_25 (by decide) (fun a25 h25 => ?_) (fun h25 => ?_)
      · cases h25
        refine V_aload_n C dX8_stayAt_39 rfl (by first | exact isR_r _ | exact isR_q _ | exact isR_n) ?_
        refine V_aret C (by first | exact Or.inl ⟨_, rfl⟩ | exact Or.inr ⟨_, rfl⟩) (by first | exact isR_r _ | exact isR_q _ | exact isR_n) (by first | omega | decide) (by first | omega | decide) dX8_stayAt_40 ?_
        exact ⟨rfl, rfl⟩
      · cases h25
theorem c0_X8_risk (l : Launch) (hl : l.stackTraces = false) (G : gG) (S : sS) (ad : Nat → Nat → Nat) (σ : aS) (hC : RelC S ad σ) (hI : IC σ) (k : Nat) (hk : k < cN σ 1) : CtF l G yX8_risk cX8_risk 2 (Option.some FieldType.int) 7 0 0 [.ref (ad 8 0), .int (nI k)] S (some (.int (rSum (rAll σ k) (σ.2 0)))) S := by
  refine Ct_of (by decide) (cat1_all (by repeat first | exact trivial | refine ⟨by first | rfl | exact isR_c (isR_q _), ?_⟩)) (Nat.le_of_ble_eq_true rfl) hl fun X C hXl hin => ?_
  subst hXl
  dsimp only [lArgs, Nat.reduceAdd]
  have kx : sK S (ad 8 0) = 9 := RelC_K hC 8 (by decide) rfl
  have ix_808 : sI S 808 (ad 8 0) = σ.2 0 := RelC_I hC 8 808 rfl (by unfold cFd; omega) rfl rfl
  have kc : sK S (ad 0 k) = 1 := RelC_K hC 0 (by decide) hk
  have rc_7 : sR S 7 (ad 0 k) = some (ad 5 k) := RelC_R hC 0 7 rfl (by unfold cFd; omega) rfl hk
  have kr : sK S (ad 5 k) = 6 := RelC_K hC 5 (by decide) hk
  refine V_aload_n C dX8_risk_0 rfl (by first | exact isR_r _ | exact isR_q _ | exact isR_n) ?_
  refine V_iload_n C dX8_risk_1 rfl ?_
  refine V_fV C (c0_X8_childAt _ hl G S ad σ hC hI.2.1.2 k hk) kv_X8_90 cf_8 (by decide) rfl kx (by decide) (by decide) rfl rfl (Nat.le_of_ble_eq_true rfl) dX8_risk_2 ?_
  dsimp only [Option.toList_some, Option.toList_none, List.cons_append, List.nil_append]
  refine V_getS C 0 7 rfl cf_0 fl_X8_94 (by decide) (by decide) dX8_risk_5 kc rc_7 ?_
  refine V_aload_n C dX8_risk_8 rfl (by first | exact isR_r _ | exact isR_q _ | exact isR_n) ?_
  refine V_getIe C 8 8 rfl cf_8 fl_X8_53 (by decide) (by decide) dX8_risk_9 kx ix_808 ?_
  refine V_fV C (c_X5_sumOn _ hl G S ad σ hC hI k hk (σ.2 0)) kv_X8_109 cf_5 (by decide) rfl kr (by decide) (by decide) rfl rfl (Nat.le_of_ble_eq_true rfl) dX8_risk_12 ?_
  dsimp only [Option.toList_some, Option.toList_none, List.cons_append, List.nil_append]
  refine V_iret C (by first | omega | decide) (by first | omega | decide) dX8_risk_15 ?_
  exact ⟨rfl, rfl⟩
theorem c0_X8_seeBy (l : Launch) (hl : l.stackTraces = false) (G : gG) (S : sS) (ad : Nat → Nat → Nat) (σ : aS) (hC : RelC S ad σ) (hI : IC σ) (k : Nat) (hk : k < cN σ 1) : CtF l G yX8_seeBy cX8_seeBy 2 (Option.some FieldType.int) 7 0 0 [.ref (ad 8 0), .int (nI k)] S (some (.int (rSee (rAll σ k) (σ.2 0) (σ.1 9 k)))) S := by
  refine Ct_of (by decide) (cat1_all (by repeat first | exact trivial | refine ⟨by first | rfl | exact isR_c (isR_q _), ?_⟩)) (Nat.le_of_ble_eq_true rfl) hl fun X C hXl hin => ?_
  subst hXl
  dsimp only [lArgs, Nat.reduceAdd]
  have kx : sK S (ad 8 0) = 9 := RelC_K hC 8 (by decide) rfl
  have ix_808 : sI S 808 (ad 8 0) = σ.2 0 := RelC_I hC 8 808 rfl (by unfold cFd; omega) rfl rfl
  have kc : sK S (ad 0 k) = 1 := RelC_K hC 0 (by decide) hk
  have rc_7 : sR S 7 (ad 0 k) = some (ad 5 k) := RelC_R hC 0 7 rfl (by unfold cFd; omega) rfl hk
  have kr : sK S (ad 5 k) = 6 := RelC_K hC 5 (by decide) hk
  refine V_aload_n C dX8_seeBy_0 rfl (by first | exact isR_r _ | exact isR_q _ | exact isR_n) ?_
  refine V_iload_n C dX8_seeBy_1 rfl ?_
  refine V_fV C (c0_X8_childAt _ hl G S ad σ hC hI.2.1.2 k hk) kv_X8_90 cf_8 (by decide) rfl kx (by decide) (by decide) rfl rfl (Nat.le_of_ble_eq_true rfl) dX8_seeBy_2 ?_
  dsimp only [Option.toList_some, Option.toList_none, List.cons_append, List.nil_append]
  refine V_getS C 0 7 rfl cf_0 fl_X8_94 (by decide) (by decide) dX8_seeBy_5 kc rc_7 ?_
  refine V_aload_n C dX8_seeBy_8 rfl (by first | exact isR_r _ | exact isR_q _ | exact isR_n) ?_
  refine V_getIe C 8 8 rfl cf_8 fl_X8_53 (by decide) (by decide) dX8_seeBy_9 kx ix_808 ?_
  refine V_fV C (c_X5_dayToSeeBy _ hl G S ad σ hC hI k hk (σ.2 0)) kv_X8_113 cf_5 (by decide) rfl kr (by decide) (by decide) rfl rfl (Nat.le_of_ble_eq_true rfl) dX8_seeBy_12 ?_
  dsimp only [Option.toList_some, Option.toList_none, List.cons_append, List.nil_append]
  refine V_iret C (by first | omega | decide) (by first | omega | decide) dX8_seeBy_15 ?_
  exact ⟨rfl, rfl⟩
theorem c0_X8_why (l : Launch) (hl : l.stackTraces = false) (G : gG) (S : sS) (ad : Nat → Nat → Nat) (σ : aS) (hC : RelC S ad σ) (hI : IC σ) (hO : IO σ) (hS : IS σ) (k : Nat) (hk : k < cN σ 1) (h : Nat) (hh : h < cN σ 20) : CtF l G yX8_why cX8_why 3 (Option.some FieldType.int) 7 0 0 [.ref (ad 8 0), .int (nI k), .int (nI h)] S (some (.int (mWhyNot σ k h))) S := by
  refine Ct_of (by decide) (cat1_all (by repeat first | exact trivial | refine ⟨by first | rfl | exact isR_c (isR_q _), ?_⟩)) (Nat.le_of_ble_eq_true rfl) hl fun X C hXl hin => ?_
  subst hXl
  dsimp only [lArgs, Nat.reduceAdd]
  have kx : sK S (ad 8 0) = 9 := RelC_K hC 8 (by decide) rfl
  refine V_aload_n C dX8_why_0 rfl (by first | exact isR_r _ | exact isR_q _ | exact isR_n) ?_
  refine V_aload_n C dX8_why_1 rfl (by first | exact isR_r _ | exact isR_q _ | exact isR_n) ?_
  refine V_iload_n C dX8_why_2 rfl ?_
  refine V_fV C (c0_X8_childAt _ hl G S ad σ hC hI.2.1.2 k hk) kv_X8_90 cf_8 (by decide) rfl kx (by decide) (by decide) rfl rfl (Nat.le_of_ble_eq_true rfl) dX8_why_3 ?_
  dsimp only [Option.toList_some, Option.toList_none, List.cons_append, List.nil_append]
  refine V_aload_n C dX8_why_6 rfl (by first | exact isR_r _ | exact isR_q _ | exact isR_n) ?_
  refine V_iload_n C dX8_why_7 rfl ?_
  refine V_fV C (c0_X8_homeAt _ hl G S ad σ hC hI.2.2.1.2 h hh) kv_X8_71 cf_8 (by decide) rfl kx (by decide) (by decide) rfl rfl (Nat.le_of_ble_eq_true rfl) dX8_why_8 ?_
  dsimp only [Option.toList_some, Option.toList_none, List.cons_append, List.nil_append]
  refine V_fV C (c_X8_barToday _ hl G S ad σ hC hI hO hS k hk h hh) kv_X8_143 cf_8 (by decide) rfl kx (by decide) (by decide) rfl rfl (Nat.le_of_ble_eq_true rfl) dX8_why_11 ?_
  dsimp only [Option.toList_some, Option.toList_none, List.cons_append, List.nil_append]
  refine V_iret C (by first | omega | decide) (by first | omega | decide) dX8_why_14 ?_
  exact ⟨rfl, rfl⟩
theorem c0_X8_worth (l : Launch) (hl : l.stackTraces = false) (G : gG) (S : sS) (ad : Nat → Nat → Nat) (σ : aS) (hC : RelC S ad σ) (hI : IC σ) (hS : IS σ) (hP : IP σ) (k : Nat) (hk : k < cN σ 1) (h : Nat) (hh : h < cN σ 20) : CtF l G yX8_worth cX8_worth 3 (Option.some FieldType.int) 7 0 0 [.ref (ad 8 0), .int (nI k), .int (nI h)] S (some (.int (mWorth σ k h))) S := by
  refine Ct_of (by decide) (cat1_all (by repeat first | exact trivial | refine ⟨by first | rfl | exact isR_c (isR_q _), ?_⟩)) (Nat.le_of_ble_eq_true rfl) hl fun X C hXl hin => ?_
  subst hXl
  dsimp only [lArgs, Nat.reduceAdd]
  have kx : sK S (ad 8 0) = 9 := RelC_K hC 8 (by decide) rfl
  refine V_aload_n C dX8_worth_0 rfl (by first | exact isR_r _ | exact isR_q _ | exact isR_n) ?_
  refine V_aload_n C dX8_worth_1 rfl (by first | exact isR_r _ | exact isR_q _ | exact isR_n) ?_
  refine V_iload_n C dX8_worth_2 rfl ?_
  refine V_fV C (c0_X8_childAt _ hl G S ad σ hC hI.2.1.2 k hk) kv_X8_90 cf_8 (by decide) rfl kx (by decide) (by decide) rfl rfl (Nat.le_of_ble_eq_true rfl) dX8_worth_3 ?_
  dsimp only [Option.toList_some, Option.toList_none, List.cons_append, List.nil_append]
  refine V_aload_n C dX8_worth_6 rfl (by first | exact isR_r _ | exact isR_q _ | exact isR_n) ?_
  refine V_iload_n C dX8_worth_7 rfl ?_
  refine V_fV C (c0_X8_homeAt _ hl G S ad σ hC hI.2.2.1.2 h hh) kv_X8_71 cf_8 (by decide) rfl kx (by decide) (by decide) rfl rfl (Nat.le_of_ble_eq_true rfl) dX8_worth_8 ?_
  dsimp only [Option.toList_some, Option.toList_none, List.cons_append, List.nil_append]
  refine V_fV C (c_X8_worthFor _ hl G S ad σ hC hI hS hP k hk h hh) kv_X8_147 cf_8 (by decide) rfl kx (by decide) (by decide) rfl rfl (Nat.le_of_ble_eq_true rfl) dX8_worth_11 ?_
  dsimp only [Option.toList_some, Option.toList_none, List.cons_append, List.nil_append]
  refine V_iret C (by first | omega | decide) (by first | omega | decide) dX8_worth_14 ?_
  exact ⟨rfl, rfl⟩
theorem c0_X8_owed (l : Launch) (hl : l.stackTraces = false) (G : gG) (S : sS) (ad : Nat → Nat → Nat) (σ : aS) (hC : RelC S ad σ) (hI : IC σ) (hS : IS σ) (h : Nat) (hh : h < cN σ 20) : CtF l G yX8_owed cX8_owed 2 (Option.some FieldType.int) 7 0 0 [.ref (ad 8 0), .int (nI h)] S (some (.int (cOw σ h))) S := by
  refine Ct_of (by decide) (cat1_all (by repeat first | exact trivial | refine ⟨by first | rfl | exact isR_c (isR_q _), ?_⟩)) (Nat.le_of_ble_eq_true rfl) hl fun X C hXl hin => ?_
  subst hXl
  dsimp only [lArgs, Nat.reduceAdd]
  have kx : sK S (ad 8 0) = 9 := RelC_K hC 8 (by decide) rfl
  refine V_aload_n C dX8_owed_0 rfl (by first | exact isR_r _ | exact isR_q _ | exact isR_n) ?_
  refine V_aload_n C dX8_owed_1 rfl (by first | exact isR_r _ | exact isR_q _ | exact isR_n) ?_
  refine V_iload_n C dX8_owed_2 rfl ?_
  refine V_fV C (c0_X8_homeAt _ hl G S ad σ hC hI.2.2.1.2 h hh) kv_X8_71 cf_8 (by decide) rfl kx (by decide) (by decide) rfl rfl (Nat.le_of_ble_eq_true rfl) dX8_owed_3 ?_
  dsimp only [Option.toList_some, Option.toList_none, List.cons_append, List.nil_append]
  refine V_fV C (c_X8_owedTo _ hl G S ad σ hC hI hS h hh) kv_X8_200 cf_8 (by decide) rfl kx (by decide) (by decide) rfl rfl (Nat.le_of_ble_eq_true rfl) dX8_owed_6 ?_
  dsimp only [Option.toList_some, Option.toList_none, List.cons_append, List.nil_append]
  refine V_iret C (by first | omega | decide) (by first | omega | decide) dX8_owed_9 ?_
  exact ⟨rfl, rfl⟩
theorem c0_X8_requireWorker (l : Launch) (hl : l.stackTraces = false) (G : gG) (S : sS) (w : Int32) (h : 0 ≤ w ∧ w ≤ 4) : CtF l G yX8_requireWorker cX8_requireWorker 1 none 6 0 0 [.int w] S none S := by
  refine Ct_of (by decide) (cat1_all (by repeat first | exact trivial | refine ⟨by first | rfl | exact isR_c (isR_q _), ?_⟩)) (Nat.le_of_ble_eq_true rfl) hl fun X C hXl hin => ?_
  subst hXl
  dsimp only [lArgs, Nat.reduceAdd]
  refine V_iload_n C dX8_requireWorker_0 rfl ?_
  refine V_iconst C (v := 0) dX8_requireWorker_1 (by decide) ?_
  refine V_iconst C (v := 4) dX8_requireWorker_2 (by decide) ?_
  refine V_fS C (c_X8_isWithin _ hl G S _ _ _) ks_X8_34 (by decide) (by decide) rfl rfl (Nat.le_of_ble_eq_true rfl) dX8_requireWorker_3 ?_
  dsimp only [Option.toList_some, Option.toList_none, List.cons_append, List.nil_append]
  refine V_if_ne C (tgt := 20) dX8_requireWorker_6 (by decide) (fun h6 => ?_) (fun h6 => ?_)
  · refine V_vret C (by first | omega | decide) (by first | omega | decide) dX8_requireWorker_20 ?_
    exact ⟨rfl, rfl⟩
  · exact absurd (bI_eq.mp h6) (fun z => z h)
theorem c0_X8_load (l : Launch) (hl : l.stackTraces = false) (G : gG) (S : sS) (ad : Nat → Nat → Nat) (σ : aS) (hC : RelC S ad σ) (hI : IC σ) (hN : IN σ) (w : Int32) (h : 0 ≤ w ∧ w ≤ 4) : CtF l G yX8_load cX8_load 2 (Option.some FieldType.int) 7 0 0 [.ref (ad 8 0), .int w] S (some (.int (mLoad σ w))) S := by
  refine Ct_of (by decide) (cat1_all (by repeat first | exact trivial | refine ⟨by first | rfl | exact isR_c (isR_q _), ?_⟩)) (Nat.le_of_ble_eq_true rfl) hl fun X C hXl hin => ?_
  subst hXl
  dsimp only [lArgs, Nat.reduceAdd]
  have kx : sK S (ad 8 0) = 9 := RelC_K hC 8 (by decide) rfl
  refine V_iload_n C dX8_load_0 rfl ?_
  refine V_fS C (c0_X8_requireWorker _ hl G S w h) ks_X8_204 (by decide) (by decide) rfl rfl (Nat.le_of_ble_eq_true rfl) dX8_load_1 ?_
  dsimp only [Option.toList_some, Option.toList_none, List.cons_append, List.nil_append]
  refine V_aload_n C dX8_load_4 rfl (by first | exact isR_r _ | exact isR_q _ | exact isR_n) ?_
  refine V_iload_n C dX8_load_5 rfl ?_
  refine V_fV C (c_X8_loadOf _ hl G S ad σ hC hI hN w) kv_X8_210 cf_8 (by decide) rfl kx (by decide) (by decide) rfl rfl (Nat.le_of_ble_eq_true rfl) dX8_load_6 ?_
  dsimp only [Option.toList_some, Option.toList_none, List.cons_append, List.nil_append]
  refine V_iret C (by first | omega | decide) (by first | omega | decide) dX8_load_9 ?_
  exact ⟨rfl, rfl⟩
theorem c0_X8_wasAllowed (l : Launch) (hl : l.stackTraces = false) (G : gG) (S : sS) (ad : Nat → Nat → Nat) (σ : aS) (hC : RelC S ad σ) (hI : IC σ) (hO : IO σ) (hS : IS σ) (j : Nat) (hj : j < cN σ 43) : CtF l G yX8_wasAllowed cX8_wasAllowed 3 (Option.some FieldType.boolean) 7 0 0 [.ref (ad 8 0), .int (nI j)] S (some (.int (pI9 (mWhyOn σ (nx (σ.1 44 j)) (σ.1 45 j) (σ.1 46 j) = 0)))) S := by
  refine Ct_of (by decide) (cat1_all (by repeat first | exact trivial | refine ⟨by first | rfl | exact isR_c (isR_q _), ?_⟩)) (Nat.le_of_ble_eq_true rfl) hl fun X C hXl hin => ?_
  subst hXl
  dsimp only [lArgs, Nat.reduceAdd]
  have kx : sK S (ad 8 0) = 9 := RelC_K hC 8 (by decide) rfl
  obtain ⟨⟨k, hk, ek⟩, ⟨h, hh, eh⟩⟩ := hS j hj
  have ks : sK S (ad 6 j) = 7 := RelC_K hC 6 (by decide) hj
  have rs_600 : sR S 600 (ad 6 j) = some (ad 0 (nx (σ.1 44 j))) := RelC_R hC 6 600 rfl (by unfold cFd; omega) rfl hj
  have rs_601 : sR S 601 (ad 6 j) = some (ad 2 (nx (σ.1 45 j))) := RelC_R hC 6 601 rfl (by unfold cFd; omega) rfl hj
  have is_602 : sI S 602 (ad 6 j) = σ.1 46 j := RelC_I hC 6 602 rfl (by unfold cFd; omega) rfl hj
  have hk16 : k < 16 := by have := hI.2.1.2; omega
  have hh10 : h < 10 := by have := hI.2.2.1.2; omega
  rw [ek, nx_nI (j := k) (by omega)] at rs_600
  rw [eh, nx_nI (j := h) (by omega)] at rs_601
  rw [ek, eh, nx_nI (j := k) (by omega)]
  refine V_aload_n C dX8_wasAllowed_0 rfl (by first | exact isR_r _ | exact isR_q _ | exact isR_n) ?_
  refine V_iload_n C dX8_wasAllowed_1 rfl ?_
  refine V_fV C (c0_X8_stayAt _ hl G S ad σ hC hI.2.2.2.2.2.1.2 j hj) kv_X8_241 cf_8 (by decide) rfl kx (by decide) (by decide) rfl rfl (Nat.le_of_ble_eq_true rfl) dX8_wasAllowed_2 ?_
  dsimp only [Option.toList_some, Option.toList_none, List.cons_append, List.nil_append]
  refine V_astore_n C dX8_wasAllowed_5 (by decide) (by first | exact isR_r _ | exact isR_q _ | exact isR_n) rfl ?_
  simp only [lset1, lset2, List.filter_cons, List.filter_nil, Nat.reduceBEq, Nat.reduceAdd, Bool.not_true, Bool.not_false, Bool.and_true, Bool.and_false, Bool.true_and, Bool.false_and, if_true, if_false, Bool.false_eq_true, reduceIte]
  refine V_aload_n C dX8_wasAllowed_6 rfl (by first | exact isR_r _ | exact isR_q _ | exact isR_n) ?_
  refine V_getS C 6 0 rfl cf_6 fl_X8_245 (by decide) (by decide) dX8_wasAllowed_7 ks rs_600 ?_
  refine V_aload_n C dX8_wasAllowed_10 rfl (by first | exact isR_r _ | exact isR_q _ | exact isR_n) ?_
  refine V_getS C 6 1 rfl cf_6 fl_X8_218 (by decide) (by decide) dX8_wasAllowed_11 ks rs_601 ?_
  refine V_aload_n C dX8_wasAllowed_14 rfl (by first | exact isR_r _ | exact isR_q _ | exact isR_n) ?_
  refine V_getIe C 6 2 rfl cf_6 fl_X8_250 (by decide) (by decide) dX8_wasAllowed_15 ks is_602 ?_
  refine V_fS C (c_X8_barOnDay _ hl G S ad σ hC hI hO k hk h hh _) ks_X8_261 (by decide) (by decide) rfl rfl (Nat.le_of_ble_eq_true rfl) dX8_wasAllowed_18 ?_
  dsimp only [Option.toList_some, Option.toList_none, List.cons_append, List.nil_append]
  refine V_if_ne C (tgt := 28) dX8_wasAllowed_21 (by decide) (fun h21 => ?_) (fun h21 => ?_)
  · refine V_iconst C (v := 0) dX8_wasAllowed_28 (by decide) ?_
    refine V_zret C (by first | rfl | exact bI_nz _) (by first | omega | decide) (by first | omega | decide) dX8_wasAllowed_29 ?_
    first | (rw [pI9_t h21]; exact ⟨rfl, rfl⟩) | (rw [pI9_f h21]; exact ⟨rfl, rfl⟩)
  · refine V_iconst C (v := 1) dX8_wasAllowed_24 (by decide) ?_
    refine V_goto C (tgt := 29) dX8_wasAllowed_25 (by decide) ?_
    refine V_zret C (by first | rfl | exact bI_nz _) (by first | omega | decide) (by first | omega | decide) dX8_wasAllowed_29 ?_
    first | (rw [pI9_t h21]; exact ⟨rfl, rfl⟩) | (rw [pI9_f h21]; exact ⟨rfl, rfl⟩)
theorem c0_X8_counts (l : Launch) (hl : l.stackTraces = false) (G : gG) (S : sS) (ad : Nat → Nat → Nat) (σ : aS) (hC : RelC S ad σ) (hI : IC σ) (hO : IO σ) (k : Nat) (hk : k < cN σ 1) (on : Int32) (hon : 0 ≤ on ∧ on ≤ 30000) : CtF l G yX8_counts cX8_counts 4 (Option.some FieldType.int) 7 0 0 [.ref (ad 8 0), .int (nI k), .int on] S (some (.int (mCounts σ (nI k) on))) S := by
  refine Ct_of (by decide) (cat1_all (by repeat first | exact trivial | refine ⟨by first | rfl | exact isR_c (isR_q _), ?_⟩)) (Nat.le_of_ble_eq_true rfl) hl fun X C hXl hin => ?_
  subst hXl
  dsimp only [lArgs, Nat.reduceAdd]
  have kx : sK S (ad 8 0) = 9 := RelC_K hC 8 (by decide) rfl
  have kc : sK S (ad 0 k) = 1 := RelC_K hC 0 (by decide) hk
  refine V_aload_n C dX8_counts_0 rfl (by first | exact isR_r _ | exact isR_q _ | exact isR_n) ?_
  refine V_iload_n C dX8_counts_1 rfl ?_
  refine V_fV C (c0_X8_childAt _ hl G S ad σ hC hI.2.1.2 k hk) kv_X8_90 cf_8 (by decide) rfl kx (by decide) (by decide) rfl rfl (Nat.le_of_ble_eq_true rfl) dX8_counts_2 ?_
  dsimp only [Option.toList_some, Option.toList_none, List.cons_append, List.nil_append]
  refine V_astore_n C dX8_counts_5 (by decide) (by first | exact isR_r _ | exact isR_q _ | exact isR_n) rfl ?_
  simp only [lset1, lset2, List.filter_cons, List.filter_nil, Nat.reduceBEq, Nat.reduceAdd, Bool.not_true, Bool.not_false, Bool.and_true, Bool.and_false, Bool.true_and, Bool.false_and, if_true, if_false, Bool.false_eq_true, reduceIte]
  refine V_iload_n C dX8_counts_6 rfl ?_
  refine V_iconst C (v := 0) dX8_counts_7 (by decide) ?_
  refine V_sipush C (v := 30000) dX8_counts_8 (by decide) ?_
  refine V_fS C (c_X8_isWithin _ hl G S _ _ _) ks_X8_34 (by decide) (by decide) rfl rfl (Nat.le_of_ble_eq_true rfl) dX8_counts_11 ?_
  dsimp only [Option.toList_some, Option.toList_none, List.cons_append, List.nil_append]
  rw [bI_t hon]
  refine V_fS C (c0_X8_require1 _ hl G S) ks_X8_38 (by decide) (by decide) rfl rfl (Nat.le_of_ble_eq_true rfl) dX8_counts_14 ?_
  dsimp only [Option.toList_some, Option.toList_none, List.cons_append, List.nil_append]
  refine V_aload_n C dX8_counts_17 rfl (by first | exact isR_r _ | exact isR_q _ | exact isR_n) ?_
  refine V_iload_n C dX8_counts_18 rfl ?_
  refine V_fV C (c_X0_orderNumberOn _ hl G S ad σ hC k hk hO hI.2.2.2.2.1.2 on) kv_X8_133 cf_0 (by decide) rfl kc (by decide) (by decide) rfl rfl (Nat.le_of_ble_eq_true rfl) dX8_counts_19 ?_
  dsimp only [Option.toList_some, Option.toList_none, List.cons_append, List.nil_append]
  refine V_iret C (by first | omega | decide) (by first | omega | decide) dX8_counts_22 ?_
  exact ⟨rfl, rfl⟩
theorem c0_X8_stay (l : Launch) (hl : l.stackTraces = false) (G : gG) (S : sS) (ad : Nat → Nat → Nat) (σ : aS) (hC : RelC S ad σ) (hI : IC σ) (hS : IS σ) (j : Nat) (hj : j < cN σ 43) (w : Int32) (hw : 0 ≤ w ∧ w ≤ 4) : CtF l G yX8_stay cX8_stay 4 (Option.some FieldType.int) 7 0 0 [.ref (ad 8 0), .int (nI j), .int w] S (some (.int (mStay σ j w))) S := by
  refine Ct_of (by decide) (cat1_all (by repeat first | exact trivial | refine ⟨by first | rfl | exact isR_c (isR_q _), ?_⟩)) (Nat.le_of_ble_eq_true rfl) hl fun X C hXl hin => ?_
  subst hXl
  dsimp only [lArgs, Nat.reduceAdd]
  have kx : sK S (ad 8 0) = 9 := RelC_K hC 8 (by decide) rfl
  obtain ⟨⟨k, hk, ek⟩, ⟨h, hh, eh⟩⟩ := hS j hj
  have ks : sK S (ad 6 j) = 7 := RelC_K hC 6 (by decide) hj
  have rs_600 : sR S 600 (ad 6 j) = some (ad 0 (nx (σ.1 44 j))) := RelC_R hC 6 600 rfl (by unfold cFd; omega) rfl hj
  have rs_601 : sR S 601 (ad 6 j) = some (ad 2 (nx (σ.1 45 j))) := RelC_R hC 6 601 rfl (by unfold cFd; omega) rfl hj
  have is_602 : sI S 602 (ad 6 j) = σ.1 46 j := RelC_I hC 6 602 rfl (by unfold cFd; omega) rfl hj
  have is_603 : sI S 603 (ad 6 j) = σ.1 48 j := RelC_I hC 6 603 rfl (by unfold cFd; omega) rfl hj
  have is_604 : sI S 604 (ad 6 j) = σ.1 47 j := RelC_I hC 6 604 rfl (by unfold cFd; omega) rfl hj
  have hk16 : k < 16 := by have := hI.2.1.2; omega
  have hh10 : h < 10 := by have := hI.2.2.1.2; omega
  rw [ek, nx_nI (j := k) (by omega)] at rs_600
  rw [eh, nx_nI (j := h) (by omega)] at rs_601
  have kc : sK S (ad 0 k) = 1 := RelC_K hC 0 (by decide) hk
  have ic_0 : sI S 0 (ad 0 k) = nI k := RelC_I hC 0 0 rfl (by unfold cFd; omega) rfl hk
  have kh : sK S (ad 2 h) = 3 := RelC_K hC 2 (by decide) hh
  have ih_200 : sI S 200 (ad 2 h) = nI h := RelC_I hC 2 200 rfl (by unfold cFd; omega) rfl hh
  obtain ⟨i, hi, rfl⟩ := ix_of (n := 5) (by decide) hw
  obtain rfl | rfl | rfl | rfl | rfl : i = 0 ∨ i = 1 ∨ i = 2 ∨ i = 3 ∨ i = 4 := by omega
  · refine V_aload_n C dX8_stay_0 rfl (by first | exact isR_r _ | exact isR_q _ | exact isR_n) ?_
    refine V_iload_n C dX8_stay_1 rfl ?_
    refine V_fV C (c0_X8_stayAt _ hl G S ad σ hC hI.2.2.2.2.2.1.2 j hj) kv_X8_241 cf_8 (by decide) rfl kx (by decide) (by decide) rfl rfl (Nat.le_of_ble_eq_true rfl) dX8_stay_2 ?_
    dsimp only [Option.toList_some, Option.toList_none, List.cons_append, List.nil_append]
    refine V_astore_n C dX8_stay_5 (by decide) (by first | exact isR_r _ | exact isR_q _ | exact isR_n) rfl ?_
    simp only [lset1, lset2, List.filter_cons, List.filter_nil, Nat.reduceBEq, Nat.reduceAdd, Bool.not_true, Bool.not_false, Bool.and_true, Bool.and_false, Bool.true_and, Bool.false_and, if_true, if_false, Bool.false_eq_true, reduceIte]
    refine V_iload_n C dX8_stay_6 rfl ?_
    refine V_tableIn C dX8_stay_7 (tgt := 40) (by decide) (by decide) rfl (by decide) ?_
    refine V_aload_n C dX8_stay_40 rfl (by first | exact isR_r _ | exact isR_q _ | exact isR_n) ?_
    refine V_getS C 6 0 rfl cf_6 fl_X8_245 (by decide) (by decide) dX8_stay_41 ks rs_600 ?_
    refine V_getIe C 0 0 rfl cf_0 fl_X8_249 (by decide) (by decide) dX8_stay_44 kc ic_0 ?_
    refine V_iret C (by first | omega | decide) (by first | omega | decide) dX8_stay_47 ?_
    rw [show mStay σ j (nI 0) = σ.1 44 j from rfl, ek]
    exact ⟨rfl, rfl⟩
  · refine V_aload_n C dX8_stay_0 rfl (by first | exact isR_r _ | exact isR_q _ | exact isR_n) ?_
    refine V_iload_n C dX8_stay_1 rfl ?_
    refine V_fV C (c0_X8_stayAt _ hl G S ad σ hC hI.2.2.2.2.2.1.2 j hj) kv_X8_241 cf_8 (by decide) rfl kx (by decide) (by decide) rfl rfl (Nat.le_of_ble_eq_true rfl) dX8_stay_2 ?_
    dsimp only [Option.toList_some, Option.toList_none, List.cons_append, List.nil_append]
    refine V_astore_n C dX8_stay_5 (by decide) (by first | exact isR_r _ | exact isR_q _ | exact isR_n) rfl ?_
    simp only [lset1, lset2, List.filter_cons, List.filter_nil, Nat.reduceBEq, Nat.reduceAdd, Bool.not_true, Bool.not_false, Bool.and_true, Bool.and_false, Bool.true_and, Bool.false_and, if_true, if_false, Bool.false_eq_true, reduceIte]
    refine V_iload_n C dX8_stay_6 rfl ?_
    refine V_tableIn C dX8_stay_7 (tgt := 48) (by decide) (by decide) rfl (by decide) ?_
    refine V_aload_n C dX8_stay_48 rfl (by first | exact isR_r _ | exact isR_q _ | exact isR_n) ?_
    refine V_getS C 6 1 rfl cf_6 fl_X8_218 (by decide) (by decide) dX8_stay_49 ks rs_601 ?_
    refine V_getIe C 2 0 rfl cf_2 fl_X8_136 (by decide) (by decide) dX8_stay_52 kh ih_200 ?_
    refine V_iret C (by first | omega | decide) (by first | omega | decide) dX8_stay_55 ?_
    rw [show mStay σ j (nI 1) = σ.1 45 j from rfl, eh]
    exact ⟨rfl, rfl⟩
  · refine V_aload_n C dX8_stay_0 rfl (by first | exact isR_r _ | exact isR_q _ | exact isR_n) ?_
    refine V_iload_n C dX8_stay_1 rfl ?_
    refine V_fV C (c0_X8_stayAt _ hl G S ad σ hC hI.2.2.2.2.2.1.2 j hj) kv_X8_241 cf_8 (by decide) rfl kx (by decide) (by decide) rfl rfl (Nat.le_of_ble_eq_true rfl) dX8_stay_2 ?_
    dsimp only [Option.toList_some, Option.toList_none, List.cons_append, List.nil_append]
    refine V_astore_n C dX8_stay_5 (by decide) (by first | exact isR_r _ | exact isR_q _ | exact isR_n) rfl ?_
    simp only [lset1, lset2, List.filter_cons, List.filter_nil, Nat.reduceBEq, Nat.reduceAdd, Bool.not_true, Bool.not_false, Bool.and_true, Bool.and_false, Bool.true_and, Bool.false_and, if_true, if_false, Bool.false_eq_true, reduceIte]
    refine V_iload_n C dX8_stay_6 rfl ?_
    refine V_tableIn C dX8_stay_7 (tgt := 56) (by decide) (by decide) rfl (by decide) ?_
    refine V_aload_n C dX8_stay_56 rfl (by first | exact isR_r _ | exact isR_q _ | exact isR_n) ?_
    refine V_getIe C 6 2 rfl cf_6 fl_X8_250 (by decide) (by decide) dX8_stay_57 ks is_602 ?_
    refine V_iret C (by first | omega | decide) (by first | omega | decide) dX8_stay_60 ?_
    rw [show mStay σ j (nI 2) = σ.1 46 j from rfl]
    exact ⟨rfl, rfl⟩
  · refine V_aload_n C dX8_stay_0 rfl (by first | exact isR_r _ | exact isR_q _ | exact isR_n) ?_
    refine V_iload_n C dX8_stay_1 rfl ?_
    refine V_fV C (c0_X8_stayAt _ hl G S ad σ hC hI.2.2.2.2.2.1.2 j hj) kv_X8_241 cf_8 (by decide) rfl kx (by decide) (by decide) rfl rfl (Nat.le_of_ble_eq_true rfl) dX8_stay_2 ?_
    dsimp only [Option.toList_some, Option.toList_none, List.cons_append, List.nil_append]
    refine V_astore_n C dX8_stay_5 (by decide) (by first | exact isR_r _ | exact isR_q _ | exact isR_n) rfl ?_
    simp only [lset1, lset2, List.filter_cons, List.filter_nil, Nat.reduceBEq, Nat.reduceAdd, Bool.not_true, Bool.not_false, Bool.and_true, Bool.and_false, Bool.true_and, Bool.false_and, if_true, if_false, Bool.false_eq_true, reduceIte]
    refine V_iload_n C dX8_stay_6 rfl ?_
    refine V_tableIn C dX8_stay_7 (tgt := 61) (by decide) (by decide) rfl (by decide) ?_
    refine V_aload_n C dX8_stay_61 rfl (by first | exact isR_r _ | exact isR_q _ | exact isR_n) ?_
    refine V_getIe C 6 4 rfl cf_6 fl_X8_253 (by decide) (by decide) dX8_stay_62 ks is_604 ?_
    refine V_iret C (by first | omega | decide) (by first | omega | decide) dX8_stay_65 ?_
    rw [show mStay σ j (nI 3) = σ.1 47 j from rfl]
    exact ⟨rfl, rfl⟩
  · refine V_aload_n C dX8_stay_0 rfl (by first | exact isR_r _ | exact isR_q _ | exact isR_n) ?_
    refine V_iload_n C dX8_stay_1 rfl ?_
    refine V_fV C (c0_X8_stayAt _ hl G S ad σ hC hI.2.2.2.2.2.1.2 j hj) kv_X8_241 cf_8 (by decide) rfl kx (by decide) (by decide) rfl rfl (Nat.le_of_ble_eq_true rfl) dX8_stay_2 ?_
    dsimp only [Option.toList_some, Option.toList_none, List.cons_append, List.nil_append]
    refine V_astore_n C dX8_stay_5 (by decide) (by first | exact isR_r _ | exact isR_q _ | exact isR_n) rfl ?_
    simp only [lset1, lset2, List.filter_cons, List.filter_nil, Nat.reduceBEq, Nat.reduceAdd, Bool.not_true, Bool.not_false, Bool.and_true, Bool.and_false, Bool.true_and, Bool.false_and, if_true, if_false, Bool.false_eq_true, reduceIte]
    refine V_iload_n C dX8_stay_6 rfl ?_
    refine V_tableIn C dX8_stay_7 (tgt := 66) (by decide) (by decide) rfl (by decide) ?_
    refine V_aload_n C dX8_stay_66 rfl (by first | exact isR_r _ | exact isR_q _ | exact isR_n) ?_
    refine V_getIe C 6 3 rfl cf_6 fl_X8_256 (by decide) (by decide) dX8_stay_67 ks is_603 ?_
    refine V_iret C (by first | omega | decide) (by first | omega | decide) dX8_stay_70 ?_
    rw [show mStay σ j (nI 4) = σ.1 48 j from rfl]
    exact ⟨rfl, rfl⟩
theorem c0_X8_childIs (l : Launch) (hl : l.stackTraces = false) (G : gG) (S : sS) (ad : Nat → Nat → Nat) (σ : aS) (hC : RelC S ad σ) (hI : IC σ) (hS : IS σ) (k : Nat) (hk : k < cN σ 1) (w : Int32) (hw : 0 ≤ w ∧ w ≤ 6) : CtF l G yX8_childIs cX8_childIs 4 (Option.some FieldType.int) 7 0 0 [.ref (ad 8 0), .int (nI k), .int w] S (some (.int (mIs σ k w))) S := by
  refine Ct_of (by decide) (cat1_all (by repeat first | exact trivial | refine ⟨by first | rfl | exact isR_c (isR_q _), ?_⟩)) (Nat.le_of_ble_eq_true rfl) hl fun X C hXl hin => ?_
  subst hXl
  dsimp only [lArgs, Nat.reduceAdd]
  have kx : sK S (ad 8 0) = 9 := RelC_K hC 8 (by decide) rfl
  have ix_808 : sI S 808 (ad 8 0) = σ.2 0 := RelC_I hC 8 808 rfl (by unfold cFd; omega) rfl rfl
  have kc : sK S (ad 0 k) = 1 := RelC_K hC 0 (by decide) hk
  have rc_8 : sR S 8 (ad 0 k) = some (ad 1 k) := RelC_R hC 0 8 rfl (by unfold cFd; omega) rfl hk
  have ic_9 : sI S 9 (ad 0 k) = σ.1 8 k := RelC_I hC 0 9 rfl (by unfold cFd; omega) rfl hk
  have rc_11 : sR S 11 (ad 0 k) = (if σ.1 10 k = -1 then none else some (ad 6 (nx (σ.1 10 k)))) := RelC_R hC 0 11 rfl (by unfold cFd; omega) rfl hk
  have ic_12 : sI S 12 (ad 0 k) = σ.1 11 k := RelC_I hC 0 12 rfl (by unfold cFd; omega) rfl hk
  have kf : sK S (ad 1 k) = 2 := RelC_K hC 1 (by decide) hk
  have if_102 : sI S 102 (ad 1 k) = σ.1 14 k := RelC_I hC 1 102 rfl (by unfold cFd; omega) rfl hk
  have if_103 : sI S 103 (ad 1 k) = σ.1 15 k := RelC_I hC 1 103 rfl (by unfold cFd; omega) rfl hk
  have if_106 : sI S 106 (ad 1 k) = σ.1 18 k := RelC_I hC 1 106 rfl (by unfold cFd; omega) rfl hk
  obtain ⟨i, hi, rfl⟩ := ix_of (n := 7) (by decide) hw
  obtain rfl | rfl | rfl | rfl | rfl | rfl | rfl : i = 0 ∨ i = 1 ∨ i = 2 ∨ i = 3 ∨ i = 4 ∨ i = 5 ∨ i = 6 := by omega
  · rw [show mIs σ k (nI 0) = mHomeOf σ k from rfl]
    rcases hI.2.2.2.2.2.2.2 k hk with e | ⟨j, hj, e⟩
    · rw [if_pos e] at rc_11
      have eh : mHomeOf σ k = -1 := if_pos e
      rw [eh]
      refine V_aload_n C dX8_childIs_0 rfl (by first | exact isR_r _ | exact isR_q _ | exact isR_n) ?_
      refine V_iload_n C dX8_childIs_1 rfl ?_
      refine V_fV C (c0_X8_childAt _ hl G S ad σ hC hI.2.1.2 k hk) kv_X8_90 cf_8 (by decide) rfl kx (by decide) (by decide) rfl rfl (Nat.le_of_ble_eq_true rfl) dX8_childIs_2 ?_
      dsimp only [Option.toList_some, Option.toList_none, List.cons_append, List.nil_append]
      refine V_astore_n C dX8_childIs_5 (by decide) (by first | exact isR_r _ | exact isR_q _ | exact isR_n) rfl ?_
      simp only [lset1, lset2, List.filter_cons, List.filter_nil, Nat.reduceBEq, Nat.reduceAdd, Bool.not_true, Bool.not_false, Bool.and_true, Bool.and_false, Bool.true_and, Bool.false_and, if_true, if_false, Bool.false_eq_true, reduceIte]
      refine V_iload_n C dX8_childIs_6 rfl ?_
      refine V_tableIn C dX8_childIs_7 (tgt := 48) (by decide) (by decide) rfl (by decide) ?_
      refine V_aload_n C dX8_childIs_48 rfl (by first | exact isR_r _ | exact isR_q _ | exact isR_n) ?_
      refine V_getRe C 0 11 rfl cf_0 fl_X8_186 (by decide) (by decide) dX8_childIs_49 kc rc_11 ?_
      refine V_ifnonnull C (tgt := 59) dX8_childIs_52 (by decide) (fun a52 h52 => ?_) (fun h52 => ?_)
      · cases h52
      · refine V_iconst C (v := (-1)) dX8_childIs_55 (by decide) ?_
        refine V_goto C (tgt := 69) dX8_childIs_56 (by decide) ?_
        refine V_iret C (by first | omega | decide) (by first | omega | decide) dX8_childIs_69 ?_
        exact ⟨rfl, rfl⟩
    · have hj100 : j < 100 := by have := hI.2.2.2.2.2.1.2; omega
      have ej : nx (σ.1 10 k) = j := by rw [e]; exact nI_clamp (by omega)
      have e9 : ¬ σ.1 10 k = -1 := by rw [e]; exact nI_ne_m1 (by omega)
      rw [if_neg e9, ej] at rc_11
      obtain ⟨-, z, hz, ez⟩ := hS j hj
      have hz10 : z < 10 := by have := hI.2.2.1.2; omega
      have ks : sK S (ad 6 j) = 7 := RelC_K hC 6 (by decide) hj
      have rs_601 : sR S 601 (ad 6 j) = some (ad 2 (nx (σ.1 45 j))) := RelC_R hC 6 601 rfl (by unfold cFd; omega) rfl hj
      rw [ez, nx_nI (j := z) (by omega)] at rs_601
      have kh : sK S (ad 2 z) = 3 := RelC_K hC 2 (by decide) hz
      have ih_200 : sI S 200 (ad 2 z) = nI z := RelC_I hC 2 200 rfl (by unfold cFd; omega) rfl hz
      have em : mHomeOf σ k = nI z := by
        unfold mHomeOf
        exact (if_neg e9).trans ((congrArg (σ.1 45) ej).trans ez)
      rw [em]
      refine V_aload_n C dX8_childIs_0 rfl (by first | exact isR_r _ | exact isR_q _ | exact isR_n) ?_
      refine V_iload_n C dX8_childIs_1 rfl ?_
      refine V_fV C (c0_X8_childAt _ hl G S ad σ hC hI.2.1.2 k hk) kv_X8_90 cf_8 (by decide) rfl kx (by decide) (by decide) rfl rfl (Nat.le_of_ble_eq_true rfl) dX8_childIs_2 ?_
      dsimp only [Option.toList_some, Option.toList_none, List.cons_append, List.nil_append]
      refine V_astore_n C dX8_childIs_5 (by decide) (by first | exact isR_r _ | exact isR_q _ | exact isR_n) rfl ?_
      simp only [lset1, lset2, List.filter_cons, List.filter_nil, Nat.reduceBEq, Nat.reduceAdd, Bool.not_true, Bool.not_false, Bool.and_true, Bool.and_false, Bool.true_and, Bool.false_and, if_true, if_false, Bool.false_eq_true, reduceIte]
      refine V_iload_n C dX8_childIs_6 rfl ?_
      refine V_tableIn C dX8_childIs_7 (tgt := 48) (by decide) (by decide) rfl (by decide) ?_
      refine V_aload_n C dX8_childIs_48 rfl (by first | exact isR_r _ | exact isR_q _ | exact isR_n) ?_
      refine V_getRe C 0 11 rfl cf_0 fl_X8_186 (by decide) (by decide) dX8_childIs_49 kc rc_11 ?_
      refine V_ifnonnull C (tgt := 59) dX8_childIs_52 (by decide) (fun a52 h52 => ?_) (fun h52 => ?_)
      · cases h52
        refine V_aload_n C dX8_childIs_59 rfl (by first | exact isR_r _ | exact isR_q _ | exact isR_n) ?_
        refine V_getS C 0 11 rfl cf_0 fl_X8_186 (by decide) (by decide) dX8_childIs_60 kc rc_11 ?_
        refine V_getS C 6 1 rfl cf_6 fl_X8_218 (by decide) (by decide) dX8_childIs_63 ks rs_601 ?_
        refine V_getIe C 2 0 rfl cf_2 fl_X8_136 (by decide) (by decide) dX8_childIs_66 kh ih_200 ?_
        refine V_iret C (by first | omega | decide) (by first | omega | decide) dX8_childIs_69 ?_
        exact ⟨rfl, rfl⟩
      · cases h52
  · rw [show mIs σ k (nI 1) = mYears σ k (σ.2 0) from rfl]
    refine V_aload_n C dX8_childIs_0 rfl (by first | exact isR_r _ | exact isR_q _ | exact isR_n) ?_
    refine V_iload_n C dX8_childIs_1 rfl ?_
    refine V_fV C (c0_X8_childAt _ hl G S ad σ hC hI.2.1.2 k hk) kv_X8_90 cf_8 (by decide) rfl kx (by decide) (by decide) rfl rfl (Nat.le_of_ble_eq_true rfl) dX8_childIs_2 ?_
    dsimp only [Option.toList_some, Option.toList_none, List.cons_append, List.nil_append]
    refine V_astore_n C dX8_childIs_5 (by decide) (by first | exact isR_r _ | exact isR_q _ | exact isR_n) rfl ?_
    simp only [lset1, lset2, List.filter_cons, List.filter_nil, Nat.reduceBEq, Nat.reduceAdd, Bool.not_true, Bool.not_false, Bool.and_true, Bool.and_false, Bool.true_and, Bool.false_and, if_true, if_false, Bool.false_eq_true, reduceIte]
    refine V_iload_n C dX8_childIs_6 rfl ?_
    refine V_tableIn C dX8_childIs_7 (tgt := 70) (by decide) (by decide) rfl (by decide) ?_
    refine V_aload_n C dX8_childIs_70 rfl (by first | exact isR_r _ | exact isR_q _ | exact isR_n) ?_
    refine V_aload_n C dX8_childIs_71 rfl (by first | exact isR_r _ | exact isR_q _ | exact isR_n) ?_
    refine V_getIe C 8 8 rfl cf_8 fl_X8_53 (by decide) (by decide) dX8_childIs_72 kx ix_808 ?_
    refine V_fV C (c_X0_years _ hl G S ad σ hC k hk _) kv_X8_222 cf_0 (by decide) rfl kc (by decide) (by decide) rfl rfl (Nat.le_of_ble_eq_true rfl) dX8_childIs_75 ?_
    dsimp only [Option.toList_some, Option.toList_none, List.cons_append, List.nil_append]
    refine V_iret C (by first | omega | decide) (by first | omega | decide) dX8_childIs_78 ?_
    exact ⟨rfl, rfl⟩
  · rw [show mIs σ k (nI 2) = σ.1 11 k from rfl]
    refine V_aload_n C dX8_childIs_0 rfl (by first | exact isR_r _ | exact isR_q _ | exact isR_n) ?_
    refine V_iload_n C dX8_childIs_1 rfl ?_
    refine V_fV C (c0_X8_childAt _ hl G S ad σ hC hI.2.1.2 k hk) kv_X8_90 cf_8 (by decide) rfl kx (by decide) (by decide) rfl rfl (Nat.le_of_ble_eq_true rfl) dX8_childIs_2 ?_
    dsimp only [Option.toList_some, Option.toList_none, List.cons_append, List.nil_append]
    refine V_astore_n C dX8_childIs_5 (by decide) (by first | exact isR_r _ | exact isR_q _ | exact isR_n) rfl ?_
    simp only [lset1, lset2, List.filter_cons, List.filter_nil, Nat.reduceBEq, Nat.reduceAdd, Bool.not_true, Bool.not_false, Bool.and_true, Bool.and_false, Bool.true_and, Bool.false_and, if_true, if_false, Bool.false_eq_true, reduceIte]
    refine V_iload_n C dX8_childIs_6 rfl ?_
    refine V_tableIn C dX8_childIs_7 (tgt := 79) (by decide) (by decide) rfl (by decide) ?_
    refine V_aload_n C dX8_childIs_79 rfl (by first | exact isR_r _ | exact isR_q _ | exact isR_n) ?_
    refine V_getIe C 0 12 rfl cf_0 fl_X8_225 (by decide) (by decide) dX8_childIs_80 kc ic_12 ?_
    refine V_iret C (by first | omega | decide) (by first | omega | decide) dX8_childIs_83 ?_
    exact ⟨rfl, rfl⟩
  · rw [show mIs σ k (nI 3) = σ.1 14 k from rfl]
    refine V_aload_n C dX8_childIs_0 rfl (by first | exact isR_r _ | exact isR_q _ | exact isR_n) ?_
    refine V_iload_n C dX8_childIs_1 rfl ?_
    refine V_fV C (c0_X8_childAt _ hl G S ad σ hC hI.2.1.2 k hk) kv_X8_90 cf_8 (by decide) rfl kx (by decide) (by decide) rfl rfl (Nat.le_of_ble_eq_true rfl) dX8_childIs_2 ?_
    dsimp only [Option.toList_some, Option.toList_none, List.cons_append, List.nil_append]
    refine V_astore_n C dX8_childIs_5 (by decide) (by first | exact isR_r _ | exact isR_q _ | exact isR_n) rfl ?_
    simp only [lset1, lset2, List.filter_cons, List.filter_nil, Nat.reduceBEq, Nat.reduceAdd, Bool.not_true, Bool.not_false, Bool.and_true, Bool.and_false, Bool.true_and, Bool.false_and, if_true, if_false, Bool.false_eq_true, reduceIte]
    refine V_iload_n C dX8_childIs_6 rfl ?_
    refine V_tableIn C dX8_childIs_7 (tgt := 84) (by decide) (by decide) rfl (by decide) ?_
    refine V_aload_n C dX8_childIs_84 rfl (by first | exact isR_r _ | exact isR_q _ | exact isR_n) ?_
    refine V_getS C 0 8 rfl cf_0 fl_X8_177 (by decide) (by decide) dX8_childIs_85 kc rc_8 ?_
    refine V_getIe C 1 2 rfl cf_1 fl_X8_227 (by decide) (by decide) dX8_childIs_88 kf if_102 ?_
    refine V_iret C (by first | omega | decide) (by first | omega | decide) dX8_childIs_91 ?_
    exact ⟨rfl, rfl⟩
  · rw [show mIs σ k (nI 4) = σ.1 15 k from rfl]
    refine V_aload_n C dX8_childIs_0 rfl (by first | exact isR_r _ | exact isR_q _ | exact isR_n) ?_
    refine V_iload_n C dX8_childIs_1 rfl ?_
    refine V_fV C (c0_X8_childAt _ hl G S ad σ hC hI.2.1.2 k hk) kv_X8_90 cf_8 (by decide) rfl kx (by decide) (by decide) rfl rfl (Nat.le_of_ble_eq_true rfl) dX8_childIs_2 ?_
    dsimp only [Option.toList_some, Option.toList_none, List.cons_append, List.nil_append]
    refine V_astore_n C dX8_childIs_5 (by decide) (by first | exact isR_r _ | exact isR_q _ | exact isR_n) rfl ?_
    simp only [lset1, lset2, List.filter_cons, List.filter_nil, Nat.reduceBEq, Nat.reduceAdd, Bool.not_true, Bool.not_false, Bool.and_true, Bool.and_false, Bool.true_and, Bool.false_and, if_true, if_false, Bool.false_eq_true, reduceIte]
    refine V_iload_n C dX8_childIs_6 rfl ?_
    refine V_tableIn C dX8_childIs_7 (tgt := 92) (by decide) (by decide) rfl (by decide) ?_
    refine V_aload_n C dX8_childIs_92 rfl (by first | exact isR_r _ | exact isR_q _ | exact isR_n) ?_
    refine V_getS C 0 8 rfl cf_0 fl_X8_177 (by decide) (by decide) dX8_childIs_93 kc rc_8 ?_
    refine V_getIe C 1 3 rfl cf_1 fl_X8_230 (by decide) (by decide) dX8_childIs_96 kf if_103 ?_
    refine V_iret C (by first | omega | decide) (by first | omega | decide) dX8_childIs_99 ?_
    exact ⟨rfl, rfl⟩
  · rw [show mIs σ k (nI 5) = if σ.1 18 k = 0 then 0 else 1 from rfl]
    refine V_aload_n C dX8_childIs_0 rfl (by first | exact isR_r _ | exact isR_q _ | exact isR_n) ?_
    refine V_iload_n C dX8_childIs_1 rfl ?_
    refine V_fV C (c0_X8_childAt _ hl G S ad σ hC hI.2.1.2 k hk) kv_X8_90 cf_8 (by decide) rfl kx (by decide) (by decide) rfl rfl (Nat.le_of_ble_eq_true rfl) dX8_childIs_2 ?_
    dsimp only [Option.toList_some, Option.toList_none, List.cons_append, List.nil_append]
    refine V_astore_n C dX8_childIs_5 (by decide) (by first | exact isR_r _ | exact isR_q _ | exact isR_n) rfl ?_
    simp only [lset1, lset2, List.filter_cons, List.filter_nil, Nat.reduceBEq, Nat.reduceAdd, Bool.not_true, Bool.not_false, Bool.and_true, Bool.and_false, Bool.true_and, Bool.false_and, if_true, if_false, Bool.false_eq_true, reduceIte]
    refine V_iload_n C dX8_childIs_6 rfl ?_
    refine V_tableIn C dX8_childIs_7 (tgt := 100) (by decide) (by decide) rfl (by decide) ?_
    refine V_aload_n C dX8_childIs_100 rfl (by first | exact isR_r _ | exact isR_q _ | exact isR_n) ?_
    refine V_getS C 0 8 rfl cf_0 fl_X8_177 (by decide) (by decide) dX8_childIs_101 kc rc_8 ?_
    refine V_getIe C 1 6 rfl cf_1 fl_X8_233 (by decide) (by decide) dX8_childIs_104 kf if_106 ?_
    refine V_if_eq C (tgt := 114) dX8_childIs_107 (by decide) (fun h107 => ?_) (fun h107 => ?_)
    · refine V_iconst C (v := 0) dX8_childIs_114 (by decide) ?_
      refine V_iret C (by first | omega | decide) (by first | omega | decide) dX8_childIs_115 ?_
      first | (rw [if_pos h107]; exact ⟨rfl, rfl⟩) | (rw [if_neg h107]; exact ⟨rfl, rfl⟩)
    · refine V_iconst C (v := 1) dX8_childIs_110 (by decide) ?_
      refine V_goto C (tgt := 115) dX8_childIs_111 (by decide) ?_
      refine V_iret C (by first | omega | decide) (by first | omega | decide) dX8_childIs_115 ?_
      first | (rw [if_pos h107]; exact ⟨rfl, rfl⟩) | (rw [if_neg h107]; exact ⟨rfl, rfl⟩)
  · rw [show mIs σ k (nI 6) = σ.1 8 k from rfl]
    refine V_aload_n C dX8_childIs_0 rfl (by first | exact isR_r _ | exact isR_q _ | exact isR_n) ?_
    refine V_iload_n C dX8_childIs_1 rfl ?_
    refine V_fV C (c0_X8_childAt _ hl G S ad σ hC hI.2.1.2 k hk) kv_X8_90 cf_8 (by decide) rfl kx (by decide) (by decide) rfl rfl (Nat.le_of_ble_eq_true rfl) dX8_childIs_2 ?_
    dsimp only [Option.toList_some, Option.toList_none, List.cons_append, List.nil_append]
    refine V_astore_n C dX8_childIs_5 (by decide) (by first | exact isR_r _ | exact isR_q _ | exact isR_n) rfl ?_
    simp only [lset1, lset2, List.filter_cons, List.filter_nil, Nat.reduceBEq, Nat.reduceAdd, Bool.not_true, Bool.not_false, Bool.and_true, Bool.and_false, Bool.true_and, Bool.false_and, if_true, if_false, Bool.false_eq_true, reduceIte]
    refine V_iload_n C dX8_childIs_6 rfl ?_
    refine V_tableIn C dX8_childIs_7 (tgt := 116) (by decide) (by decide) rfl (by decide) ?_
    refine V_aload_n C dX8_childIs_116 rfl (by first | exact isR_r _ | exact isR_q _ | exact isR_n) ?_
    refine V_getIe C 0 9 rfl cf_0 fl_X8_207 (by decide) (by decide) dX8_childIs_117 kc ic_9 ?_
    refine V_iret C (by first | omega | decide) (by first | omega | decide) dX8_childIs_120 ?_
    exact ⟨rfl, rfl⟩
theorem c0_X8_best (l : Launch) (hl : l.stackTraces = false) (G : gG) (S : sS) (ad : Nat → Nat → Nat) (σ : aS) (hC : RelC S ad σ) (hI : IC σ) (hO : IO σ) (hS : IS σ) (hP : IP σ) (k : Nat) (hk : k < cN σ 1) : CtF l G yX8_best cX8_best 10 (Option.some FieldType.int) 7 0 0 [.ref (ad 8 0), .int (nI k)] S (some (.int (mBestF σ k (cN σ 20)))) S := by
  refine Ct_of (by decide) (cat1_all (by repeat first | exact trivial | refine ⟨by first | rfl | exact isR_c (isR_q _), ?_⟩)) (Nat.le_of_ble_eq_true rfl) hl fun X C hXl hin => ?_
  subst hXl
  dsimp only [lArgs, Nat.reduceAdd]
  have kx : sK S (ad 8 0) = 9 := RelC_K hC 8 (by decide) rfl
  have rx_801 : sR S 801 (ad 8 0) = some (ad 16 0) := RelC_R hC 8 801 rfl (by unfold cFd; omega) rfl rfl
  have kq : sK S (ad 16 0) = 105 := hC.1 16 0 (by decide) (by decide) (by decide) rfl
  have lq : sL S (ad 16 0) = 10 := hC.2.2.2.2.1 16 0 (by decide) (by decide) rfl
  have aq := hC.2.2.2.2.2.2.2.1
  obtain ⟨n, hn⟩ : ∃ n, n = cN σ 20 := ⟨_, rfl⟩
  have hn10 : n ≤ 10 := by rw [hn]; exact hI.2.2.1.2
  rw [← hn] at aq
  rw [← hn]
  have loop : ∀ (t i : Nat) (bw : Int32), i + t = 10 → (mBestF σ k (min i n) = -1 ∨ bw = mWorth σ k (nx (mBestF σ k (min i n)))) → V X G 10 (eQ X G (fun v T => v = some (.int (mBestF σ k n)) ∧ T = S) (fun _ _ => False) 0 0) 0 0 25 [(7, false, .int (nI i)), (6, false, .int (nI 10)), (5, false, .ref (ad 16 0)), (4, false, .int bw), (3, false, .int (mBestF σ k (min i n))), (2, false, .ref (ad 0 k)), (0, false, .ref (ad 8 0)), (1, false, .int (nI k))] [] S := by
    intro t
    induction t with
    | zero =>
      intro i bw hi hb
      obtain rfl : i = 10 := by omega
      rw [Nat.min_eq_right hn10]
      refine V_iload C dX8_best_25 rfl ?_
      refine V_iload C dX8_best_27 rfl ?_
      refine V_igeN C (tgt := 94) (by omega) (by omega) dX8_best_29 (by decide) (fun h29 => ?_) (fun h29 => ?_)
      · refine V_iload_n C dX8_best_94 rfl ?_
        refine V_iret C (by first | omega | decide) (by first | omega | decide) dX8_best_95 ?_
        exact ⟨rfl, rfl⟩
      · omega
    | succ t ih =>
      intro i bw hi hb
      have hi10 : i < 10 := by omega
      by_cases hin9 : i < n
      · have e := (aq i hi10).trans (if_pos hin9)
        have hi1 : i < cN σ 20 := hn ▸ hin9
        have ih9 := ih (i + 1)
        rw [Nat.min_eq_left (by omega : i + 1 ≤ n)] at ih9
        rw [Nat.min_eq_left (by omega : i ≤ n)] at hb ⊢
        have kh : sK S (ad 2 i) = 3 := RelC_K hC 2 (by decide) hi1
        have ih_200 : sI S 200 (ad 2 i) = nI i := RelC_I hC 2 200 rfl (by unfold cFd; omega) rfl hi1
        refine V_iload C dX8_best_25 rfl ?_
        refine V_iload C dX8_best_27 rfl ?_
        refine V_igeN C (tgt := 94) (by omega) (by omega) dX8_best_29 (by decide) (fun h29 => ?_) (fun h29 => ?_)
        · omega
        · refine V_aload C dX8_best_32 rfl (by first | exact isR_r _ | exact isR_q _ | exact isR_n) ?_
          refine V_iload C dX8_best_34 rfl ?_
          refine V_aaldE C 5 (by decide) kq (by decide) lq rfl hi10 (by decide) dX8_best_36 ?_
          rw [e]
          refine V_astore C dX8_best_37 (by decide) (by first | exact isR_r _ | exact isR_q _ | exact isR_n) rfl ?_
          simp only [lset1, lset2, List.filter_cons, List.filter_nil, Nat.reduceBEq, Nat.reduceAdd, Bool.not_true, Bool.not_false, Bool.and_true, Bool.and_false, Bool.true_and, Bool.false_and, if_true, if_false, Bool.false_eq_true, reduceIte]
          refine V_aload C dX8_best_39 rfl (by first | exact isR_r _ | exact isR_q _ | exact isR_n) ?_
          dsimp only
          refine V_ifnull C (tgt := 88) dX8_best_41 (by decide) (fun h41 => ?_) (fun a41 h41 => ?_)
          · cases h41
          · cases h41
            refine V_aload_n C dX8_best_44 rfl (by first | exact isR_r _ | exact isR_q _ | exact isR_n) ?_
            refine V_aload_n C dX8_best_45 rfl (by first | exact isR_r _ | exact isR_q _ | exact isR_n) ?_
            refine V_aload C dX8_best_46 rfl (by first | exact isR_r _ | exact isR_q _ | exact isR_n) ?_
            refine V_fV C (c_X8_barToday _ hl G S ad σ hC hI hO hS k hk i hi1) kv_X8_143 cf_8 (by decide) rfl kx (by decide) (by decide) rfl rfl (Nat.le_of_ble_eq_true rfl) dX8_best_48 ?_
            dsimp only [Option.toList_some, Option.toList_none, List.cons_append, List.nil_append]
            refine V_if_eq C (tgt := 57) dX8_best_51 (by decide) (fun h51 => ?_) (fun h51 => ?_)
            · refine V_aload_n C dX8_best_57 rfl (by first | exact isR_r _ | exact isR_q _ | exact isR_n) ?_
              refine V_aload_n C dX8_best_58 rfl (by first | exact isR_r _ | exact isR_q _ | exact isR_n) ?_
              refine V_aload C dX8_best_59 rfl (by first | exact isR_r _ | exact isR_q _ | exact isR_n) ?_
              refine V_fV C (c_X8_worthFor _ hl G S ad σ hC hI hS hP k hk i hi1) kv_X8_147 cf_8 (by decide) rfl kx (by decide) (by decide) rfl rfl (Nat.le_of_ble_eq_true rfl) dX8_best_61 ?_
              dsimp only [Option.toList_some, Option.toList_none, List.cons_append, List.nil_append]
              refine V_istore C dX8_best_64 (by decide) rfl ?_
              simp only [lset1, lset2, List.filter_cons, List.filter_nil, Nat.reduceBEq, Nat.reduceAdd, Bool.not_true, Bool.not_false, Bool.and_true, Bool.and_false, Bool.true_and, Bool.false_and, if_true, if_false, Bool.false_eq_true, reduceIte]
              refine V_iload_n C dX8_best_66 rfl ?_
              refine V_iconst C (v := (-1)) dX8_best_67 (by decide) ?_
              refine V_icmp_eq C (tgt := 78) dX8_best_68 (by decide) (fun h68 => ?_) (fun h68 => ?_)
              · have T0 := mBestF_t (σ := σ) (k := k) (n := i) ⟨h51, Or.inl h68⟩
                have L := ih9 (mWorth σ k i) (by omega) (by rw [T0, nx_nI (j := i) (by omega)]; exact Or.inr rfl)
                rw [T0] at L
                refine V_aload C dX8_best_78 rfl (by first | exact isR_r _ | exact isR_q _ | exact isR_n) ?_
                refine V_getIe C 2 0 rfl cf_2 fl_X8_136 (by decide) (by decide) dX8_best_80 kh ih_200 ?_
                refine V_istore_n C dX8_best_83 (by decide) rfl ?_
                simp only [lset1, lset2, List.filter_cons, List.filter_nil, Nat.reduceBEq, Nat.reduceAdd, Bool.not_true, Bool.not_false, Bool.and_true, Bool.and_false, Bool.true_and, Bool.false_and, if_true, if_false, Bool.false_eq_true, reduceIte]
                refine V_iload C dX8_best_84 rfl ?_
                refine V_istore C dX8_best_86 (by decide) rfl ?_
                simp only [lset1, lset2, List.filter_cons, List.filter_nil, Nat.reduceBEq, Nat.reduceAdd, Bool.not_true, Bool.not_false, Bool.and_true, Bool.and_false, Bool.true_and, Bool.false_and, if_true, if_false, Bool.false_eq_true, reduceIte]
                refine V_incN C dX8_best_88 rfl (by decide) rfl ?_
                simp only [lset1, lset2, List.filter_cons, List.filter_nil, Nat.reduceBEq, Nat.reduceAdd, Bool.not_true, Bool.not_false, Bool.and_true, Bool.and_false, Bool.true_and, Bool.false_and, if_true, if_false, Bool.false_eq_true, reduceIte]
                refine V_goto C (tgt := 25) dX8_best_91 (by decide) ?_
                refine V_sub ?_ L
                exact ⟨rfl, rfl, rfl, rfl, rfl, rfl, rfl, rfl, trivial⟩
              · refine V_iload C dX8_best_71 rfl ?_
                refine V_iload C dX8_best_73 rfl ?_
                refine V_icmp_le C (tgt := 88) dX8_best_75 (by decide) (fun h75 => ?_) (fun h75 => ?_)
                · have T0 := mBestF_f (σ := σ) (k := k) (n := i) (fun q => Or.elim q.2 h68 (fun z => absurd (Or.resolve_left hb h68 ▸ h75) (Int32.not_le.mpr z)))
                  have L := ih9 bw (by omega) (by rw [T0]; exact hb)
                  rw [T0] at L
                  refine V_incN C dX8_best_88 rfl (by decide) rfl ?_
                  simp only [lset1, lset2, List.filter_cons, List.filter_nil, Nat.reduceBEq, Nat.reduceAdd, Bool.not_true, Bool.not_false, Bool.and_true, Bool.and_false, Bool.true_and, Bool.false_and, if_true, if_false, Bool.false_eq_true, reduceIte]
                  refine V_goto C (tgt := 25) dX8_best_91 (by decide) ?_
                  refine V_sub ?_ L
                  exact ⟨rfl, rfl, rfl, rfl, rfl, rfl, rfl, rfl, trivial⟩
                · have T0 := mBestF_t (σ := σ) (k := k) (n := i) ⟨h51, Or.inr (Or.resolve_left hb h68 ▸ Int32.not_le.mp h75)⟩
                  have L := ih9 (mWorth σ k i) (by omega) (by rw [T0, nx_nI (j := i) (by omega)]; exact Or.inr rfl)
                  rw [T0] at L
                  refine V_aload C dX8_best_78 rfl (by first | exact isR_r _ | exact isR_q _ | exact isR_n) ?_
                  refine V_getIe C 2 0 rfl cf_2 fl_X8_136 (by decide) (by decide) dX8_best_80 kh ih_200 ?_
                  refine V_istore_n C dX8_best_83 (by decide) rfl ?_
                  simp only [lset1, lset2, List.filter_cons, List.filter_nil, Nat.reduceBEq, Nat.reduceAdd, Bool.not_true, Bool.not_false, Bool.and_true, Bool.and_false, Bool.true_and, Bool.false_and, if_true, if_false, Bool.false_eq_true, reduceIte]
                  refine V_iload C dX8_best_84 rfl ?_
                  refine V_istore C dX8_best_86 (by decide) rfl ?_
                  simp only [lset1, lset2, List.filter_cons, List.filter_nil, Nat.reduceBEq, Nat.reduceAdd, Bool.not_true, Bool.not_false, Bool.and_true, Bool.and_false, Bool.true_and, Bool.false_and, if_true, if_false, Bool.false_eq_true, reduceIte]
                  refine V_incN C dX8_best_88 rfl (by decide) rfl ?_
                  simp only [lset1, lset2, List.filter_cons, List.filter_nil, Nat.reduceBEq, Nat.reduceAdd, Bool.not_true, Bool.not_false, Bool.and_true, Bool.and_false, Bool.true_and, Bool.false_and, if_true, if_false, Bool.false_eq_true, reduceIte]
                  refine V_goto C (tgt := 25) dX8_best_91 (by decide) ?_
                  refine V_sub ?_ L
                  exact ⟨rfl, rfl, rfl, rfl, rfl, rfl, rfl, rfl, trivial⟩
            · have T0 := mBestF_f (σ := σ) (k := k) (n := i) (fun q => h51 q.1)
              have L := ih9 bw (by omega) (by rw [T0]; exact hb)
              rw [T0] at L
              refine V_goto C (tgt := 88) dX8_best_54 (by decide) ?_
              refine V_incN C dX8_best_88 rfl (by decide) rfl ?_
              simp only [lset1, lset2, List.filter_cons, List.filter_nil, Nat.reduceBEq, Nat.reduceAdd, Bool.not_true, Bool.not_false, Bool.and_true, Bool.and_false, Bool.true_and, Bool.false_and, if_true, if_false, Bool.false_eq_true, reduceIte]
              refine V_goto C (tgt := 25) dX8_best_91 (by decide) ?_
              refine V_sub ?_ L
              exact ⟨rfl, rfl, rfl, rfl, rfl, rfl, rfl, rfl, trivial⟩
      · have e := (aq i hi10).trans (if_neg hin9)
        have T0 : min (i + 1) n = min i n := by omega
        have L := ih (i + 1) bw (by omega) (by rw [T0]; exact hb)
        rw [T0] at L
        refine V_iload C dX8_best_25 rfl ?_
        refine V_iload C dX8_best_27 rfl ?_
        refine V_igeN C (tgt := 94) (by omega) (by omega) dX8_best_29 (by decide) (fun h29 => ?_) (fun h29 => ?_)
        · omega
        · refine V_aload C dX8_best_32 rfl (by first | exact isR_r _ | exact isR_q _ | exact isR_n) ?_
          refine V_iload C dX8_best_34 rfl ?_
          refine V_aaldE C 5 (by decide) kq (by decide) lq rfl hi10 (by decide) dX8_best_36 ?_
          rw [e]
          refine V_astore C dX8_best_37 (by decide) (by first | exact isR_r _ | exact isR_q _ | exact isR_n) rfl ?_
          simp only [lset1, lset2, List.filter_cons, List.filter_nil, Nat.reduceBEq, Nat.reduceAdd, Bool.not_true, Bool.not_false, Bool.and_true, Bool.and_false, Bool.true_and, Bool.false_and, if_true, if_false, Bool.false_eq_true, reduceIte]
          refine V_aload C dX8_best_39 rfl (by first | exact isR_r _ | exact isR_q _ | exact isR_n) ?_
          dsimp only
          refine V_ifnull C (tgt := 88) dX8_best_41 (by decide) (fun h41 => ?_) (fun a41 h41 => ?_)
          · refine V_incN C dX8_best_88 rfl (by decide) rfl ?_
            simp only [lset1, lset2, List.filter_cons, List.filter_nil, Nat.reduceBEq, Nat.reduceAdd, Bool.not_true, Bool.not_false, Bool.and_true, Bool.and_false, Bool.true_and, Bool.false_and, if_true, if_false, Bool.false_eq_true, reduceIte]
            refine V_goto C (tgt := 25) dX8_best_91 (by decide) ?_
            refine V_sub ?_ L
            exact ⟨rfl, rfl, rfl, rfl, rfl, rfl, rfl, rfl, trivial⟩
          · cases h41
  have L := loop 10 0 0 (by omega) (by rw [Nat.zero_min]; exact Or.inl rfl)
  rw [Nat.zero_min] at L
  refine V_aload_n C dX8_best_0 rfl (by first | exact isR_r _ | exact isR_q _ | exact isR_n) ?_
  refine V_iload_n C dX8_best_1 rfl ?_
  refine V_fV C (c0_X8_childAt _ hl G S ad σ hC hI.2.1.2 k hk) kv_X8_90 cf_8 (by decide) rfl kx (by decide) (by decide) rfl rfl (Nat.le_of_ble_eq_true rfl) dX8_best_2 ?_
  dsimp only [Option.toList_some, Option.toList_none, List.cons_append, List.nil_append]
  refine V_astore_n C dX8_best_5 (by decide) (by first | exact isR_r _ | exact isR_q _ | exact isR_n) rfl ?_
  simp only [lset1, lset2, List.filter_cons, List.filter_nil, Nat.reduceBEq, Nat.reduceAdd, Bool.not_true, Bool.not_false, Bool.and_true, Bool.and_false, Bool.true_and, Bool.false_and, if_true, if_false, Bool.false_eq_true, reduceIte]
  refine V_iconst C (v := (-1)) dX8_best_6 (by decide) ?_
  refine V_istore_n C dX8_best_7 (by decide) rfl ?_
  simp only [lset1, lset2, List.filter_cons, List.filter_nil, Nat.reduceBEq, Nat.reduceAdd, Bool.not_true, Bool.not_false, Bool.and_true, Bool.and_false, Bool.true_and, Bool.false_and, if_true, if_false, Bool.false_eq_true, reduceIte]
  refine V_iconst C (v := 0) dX8_best_8 (by decide) ?_
  refine V_istore C dX8_best_9 (by decide) rfl ?_
  simp only [lset1, lset2, List.filter_cons, List.filter_nil, Nat.reduceBEq, Nat.reduceAdd, Bool.not_true, Bool.not_false, Bool.and_true, Bool.and_false, Bool.true_and, Bool.false_and, if_true, if_false, Bool.false_eq_true, reduceIte]
  refine V_aload_n C dX8_best_11 rfl (by first | exact isR_r _ | exact isR_q _ | exact isR_n) ?_
  refine V_getS C 8 1 rfl cf_8 fl_X8_17 (by decide) (by decide) dX8_best_12 kx rx_801 ?_
  refine V_astore C dX8_best_15 (by decide) (by first | exact isR_r _ | exact isR_q _ | exact isR_n) rfl ?_
  simp only [lset1, lset2, List.filter_cons, List.filter_nil, Nat.reduceBEq, Nat.reduceAdd, Bool.not_true, Bool.not_false, Bool.and_true, Bool.and_false, Bool.true_and, Bool.false_and, if_true, if_false, Bool.false_eq_true, reduceIte]
  refine V_aload C dX8_best_17 rfl (by first | exact isR_r _ | exact isR_q _ | exact isR_n) ?_
  refine V_alen C (v := nI 10) kq (by decide) (by rw [lq]; rfl) dX8_best_19 ?_
  refine V_istore C dX8_best_20 (by decide) rfl ?_
  simp only [lset1, lset2, List.filter_cons, List.filter_nil, Nat.reduceBEq, Nat.reduceAdd, Bool.not_true, Bool.not_false, Bool.and_true, Bool.and_false, Bool.true_and, Bool.false_and, if_true, if_false, Bool.false_eq_true, reduceIte]
  refine V_iconst C (v := 0) dX8_best_22 (by decide) ?_
  refine V_istore C dX8_best_23 (by decide) rfl ?_
  simp only [lset1, lset2, List.filter_cons, List.filter_nil, Nat.reduceBEq, Nat.reduceAdd, Bool.not_true, Bool.not_false, Bool.and_true, Bool.and_false, Bool.true_and, Bool.false_and, if_true, if_false, Bool.false_eq_true, reduceIte]
  refine V_sub ?_ L
  exact ⟨rfl, rfl, rfl, rfl, rfl, rfl, rfl, rfl, trivial⟩
theorem c0_X8_file (l : Launch) (hl : l.stackTraces = false) (G : gG) (S : sS) (ad : Nat → Nat → Nat) (σ : aS) (hC : RelC S ad σ) (hI : IC σ) (hS : IS σ) (k : Nat) (hk : k < cN σ 1) (w : Int32) (hw : 0 ≤ w) (hy : 18 ≤ mYears σ k (σ.2 0)) : CtF l G yX8_file cX8_file 9 (Option.some FieldType.int) 7 0 0 [.ref (ad 8 0), .int (nI k), .int w] S (some (.int (mFileF σ (nI k) (cN σ 43) w 0))) S := by
  refine Ct_of (by decide) (cat1_all (by repeat first | exact trivial | refine ⟨by first | rfl | exact isR_c (isR_q _), ?_⟩)) (Nat.le_of_ble_eq_true rfl) hl fun X C hXl hin => ?_
  subst hXl
  dsimp only [lArgs, Nat.reduceAdd]
  have kx : sK S (ad 8 0) = 9 := RelC_K hC 8 (by decide) rfl
  have rx_802 : sR S 802 (ad 8 0) = some (ad 17 0) := RelC_R hC 8 802 rfl (by unfold cFd; omega) rfl rfl
  have ix_808 : sI S 808 (ad 8 0) = σ.2 0 := RelC_I hC 8 808 rfl (by unfold cFd; omega) rfl rfl
  have kc : sK S (ad 0 k) = 1 := RelC_K hC 0 (by decide) hk
  have kq : sK S (ad 17 0) = 106 := hC.1 17 0 (by decide) (by decide) (by decide) rfl
  have lq : sL S (ad 17 0) = 100 := hC.2.2.2.2.1 17 0 (by decide) (by decide) rfl
  have aq := hC.2.2.2.2.2.2.2.2.1
  obtain ⟨n, hn⟩ : ∃ n, n = cN σ 43 := ⟨_, rfl⟩
  have hn100 : n ≤ 100 := by rw [hn]; exact hI.2.2.2.2.2.1.2
  rw [← hn] at aq
  rw [← hn]
  have loop : ∀ (t i : Nat) (left : Int32), i + t = 100 → mFileF σ (nI k) n w 0 = mFileF σ (nI k) (n - i) left i → V X G 9 (eQ X G (fun v T => v = some (.int (mFileF σ (nI k) n w 0)) ∧ T = S) (fun _ _ => False) 0 0) 0 0 62 [(7, false, .int (nI i)), (6, false, .int (nI 100)), (5, false, .ref (ad 17 0)), (4, false, .int left), (3, false, .ref (ad 0 k)), (0, false, .ref (ad 8 0)), (1, false, .int (nI k)), (2, false, .int w)] [] S := by
    intro t
    induction t with
    | zero =>
      intro i left hi e
      obtain rfl : i = 100 := by omega
      rw [show n - 100 = 0 by omega] at e
      refine V_iload C dX8_file_62 rfl ?_
      refine V_iload C dX8_file_64 rfl ?_
      refine V_igeN C (tgt := 132) (by omega) (by omega) dX8_file_66 (by decide) (fun h66 => ?_) (fun h66 => ?_)
      · refine V_iconst C (v := (-1)) dX8_file_132 (by decide) ?_
        refine V_iret C (by first | omega | decide) (by first | omega | decide) dX8_file_133 ?_
        rw [e]
        exact ⟨rfl, rfl⟩
      · omega
    | succ t ih =>
      intro i left hi e
      have hi100 : i < 100 := by omega
      by_cases hin9 : i < n
      · have e5 := (aq i hi100).trans (if_pos hin9)
        have hi1 : i < cN σ 43 := hn ▸ hin9
        obtain ⟨⟨z, hz, ez⟩, g, hg, eg⟩ := hS i hi1
        have hz16 : z < 16 := by have := hI.2.1.2; omega
        have hg10 : g < 10 := by have := hI.2.2.1.2; omega
        have ks : sK S (ad 6 i) = 7 := RelC_K hC 6 (by decide) hi1
        have rs_600 : sR S 600 (ad 6 i) = some (ad 0 (nx (σ.1 44 i))) := RelC_R hC 6 600 rfl (by unfold cFd; omega) rfl hi1
        have rs_601 : sR S 601 (ad 6 i) = some (ad 2 (nx (σ.1 45 i))) := RelC_R hC 6 601 rfl (by unfold cFd; omega) rfl hi1
        rw [ez, nx_nI (j := z) (by omega)] at rs_600
        rw [eg, nx_nI (j := g) (by omega)] at rs_601
        have kh : sK S (ad 2 g) = 3 := RelC_K hC 2 (by decide) hg
        have ih_200 : sI S 200 (ad 2 g) = nI g := RelC_I hC 2 200 rfl (by unfold cFd; omega) rfl hg
        have ih_208 : sI S 208 (ad 2 g) = σ.1 26 g := RelC_I hC 2 208 rfl (by unfold cFd; omega) rfl hg
        have key := ad_ch hC hI hk z hz
        have e1 : n - i = (n - (i + 1)) + 1 := by omega
        rw [e1] at e
        have e := e.trans mFileF_s
        rw [ez, eg, nx_nI (j := g) (by omega)] at e
        refine V_iload C dX8_file_62 rfl ?_
        refine V_iload C dX8_file_64 rfl ?_
        refine V_igeN C (tgt := 132) (by omega) (by omega) dX8_file_66 (by decide) (fun h66 => ?_) (fun h66 => ?_)
        · omega
        · refine V_aload C dX8_file_69 rfl (by first | exact isR_r _ | exact isR_q _ | exact isR_n) ?_
          refine V_iload C dX8_file_71 rfl ?_
          refine V_aaldE C 6 (by decide) kq (by decide) lq rfl hi100 (by decide) dX8_file_73 ?_
          rw [e5]
          refine V_astore C dX8_file_74 (by decide) (by first | exact isR_r _ | exact isR_q _ | exact isR_n) rfl ?_
          simp only [lset1, lset2, List.filter_cons, List.filter_nil, Nat.reduceBEq, Nat.reduceAdd, Bool.not_true, Bool.not_false, Bool.and_true, Bool.and_false, Bool.true_and, Bool.false_and, if_true, if_false, Bool.false_eq_true, reduceIte]
          refine V_aload C dX8_file_76 rfl (by first | exact isR_r _ | exact isR_q _ | exact isR_n) ?_
          dsimp only
          refine V_ifnull C (tgt := 126) dX8_file_78 (by decide) (fun h78 => ?_) (fun a78 h78 => ?_)
          · cases h78
          · cases h78
            refine V_aload C dX8_file_81 rfl (by first | exact isR_r _ | exact isR_q _ | exact isR_n) ?_
            refine V_getRe C 6 0 rfl cf_6 fl_X8_245 (by decide) (by decide) dX8_file_83 ks rs_600 ?_
            refine V_aload_n C dX8_file_86 rfl (by first | exact isR_r _ | exact isR_q _ | exact isR_n) ?_
            refine V_acmp_eq C (tgt := 93) (rx := some (ad 0 z)) (ry := some (ad 0 k)) dX8_file_87 (by decide) (fun h87 => ?_) (fun h87 => ?_)
            · have e := e.trans (if_pos (key.mp h87))
              refine V_iload C dX8_file_93 rfl ?_
              refine V_if_ne C (tgt := 123) dX8_file_95 (by decide) (fun h95 => ?_) (fun h95 => ?_)
              · have e := e.trans (if_neg h95)
                have L := ih (i + 1) (left + -1) (by omega) e
                refine V_iinc C dX8_file_123 rfl rfl (by decide) rfl ?_
                simp only [lset1, lset2, List.filter_cons, List.filter_nil, Nat.reduceBEq, Nat.reduceAdd, Bool.not_true, Bool.not_false, Bool.and_true, Bool.and_false, Bool.true_and, Bool.false_and, if_true, if_false, Bool.false_eq_true, reduceIte]
                refine V_incN C dX8_file_126 rfl (by decide) rfl ?_
                simp only [lset1, lset2, List.filter_cons, List.filter_nil, Nat.reduceBEq, Nat.reduceAdd, Bool.not_true, Bool.not_false, Bool.and_true, Bool.and_false, Bool.true_and, Bool.false_and, if_true, if_false, Bool.false_eq_true, reduceIte]
                refine V_goto C (tgt := 62) dX8_file_129 (by decide) ?_
                refine V_sub ?_ L
                exact ⟨rfl, rfl, rfl, rfl, rfl, rfl, rfl, rfl, trivial⟩
              · have e := e.trans (if_pos h95)
                refine V_aload C dX8_file_98 rfl (by first | exact isR_r _ | exact isR_q _ | exact isR_n) ?_
                refine V_getS C 6 1 rfl cf_6 fl_X8_218 (by decide) (by decide) dX8_file_100 ks rs_601 ?_
                refine V_getIe C 2 8 rfl cf_2 fl_X8_265 (by decide) (by decide) dX8_file_103 kh ih_208 ?_
                refine V_if_eq C (tgt := 114) dX8_file_106 (by decide) (fun h106 => ?_) (fun h106 => ?_)
                · have e := e.trans (if_pos h106)
                  refine V_aload C dX8_file_114 rfl (by first | exact isR_r _ | exact isR_q _ | exact isR_n) ?_
                  refine V_getS C 6 1 rfl cf_6 fl_X8_218 (by decide) (by decide) dX8_file_116 ks rs_601 ?_
                  refine V_getIe C 2 0 rfl cf_2 fl_X8_136 (by decide) (by decide) dX8_file_119 kh ih_200 ?_
                  refine V_iret C (by first | omega | decide) (by first | omega | decide) dX8_file_122 ?_
                  rw [e]
                  exact ⟨rfl, rfl⟩
                · have e := e.trans (if_neg h106)
                  refine V_bipush C (v := (-2)) dX8_file_109 (by decide) ?_
                  refine V_goto C (tgt := 122) dX8_file_111 (by decide) ?_
                  refine V_iret C (by first | omega | decide) (by first | omega | decide) dX8_file_122 ?_
                  rw [e]
                  exact ⟨rfl, rfl⟩
            · have e := e.trans (if_neg (fun q => h87 (key.mpr q)))
              have L := ih (i + 1) left (by omega) e
              refine V_goto C (tgt := 126) dX8_file_90 (by decide) ?_
              refine V_incN C dX8_file_126 rfl (by decide) rfl ?_
              simp only [lset1, lset2, List.filter_cons, List.filter_nil, Nat.reduceBEq, Nat.reduceAdd, Bool.not_true, Bool.not_false, Bool.and_true, Bool.and_false, Bool.true_and, Bool.false_and, if_true, if_false, Bool.false_eq_true, reduceIte]
              refine V_goto C (tgt := 62) dX8_file_129 (by decide) ?_
              refine V_sub ?_ L
              exact ⟨rfl, rfl, rfl, rfl, rfl, rfl, rfl, rfl, trivial⟩
      · have e5 := (aq i hi100).trans (if_neg hin9)
        have L := ih (i + 1) left (by omega) (by rw [e, show n - i = 0 by omega, show n - (i + 1) = 0 by omega]; rfl)
        refine V_iload C dX8_file_62 rfl ?_
        refine V_iload C dX8_file_64 rfl ?_
        refine V_igeN C (tgt := 132) (by omega) (by omega) dX8_file_66 (by decide) (fun h66 => ?_) (fun h66 => ?_)
        · omega
        · refine V_aload C dX8_file_69 rfl (by first | exact isR_r _ | exact isR_q _ | exact isR_n) ?_
          refine V_iload C dX8_file_71 rfl ?_
          refine V_aaldE C 6 (by decide) kq (by decide) lq rfl hi100 (by decide) dX8_file_73 ?_
          rw [e5]
          refine V_astore C dX8_file_74 (by decide) (by first | exact isR_r _ | exact isR_q _ | exact isR_n) rfl ?_
          simp only [lset1, lset2, List.filter_cons, List.filter_nil, Nat.reduceBEq, Nat.reduceAdd, Bool.not_true, Bool.not_false, Bool.and_true, Bool.and_false, Bool.true_and, Bool.false_and, if_true, if_false, Bool.false_eq_true, reduceIte]
          refine V_aload C dX8_file_76 rfl (by first | exact isR_r _ | exact isR_q _ | exact isR_n) ?_
          dsimp only
          refine V_ifnull C (tgt := 126) dX8_file_78 (by decide) (fun h78 => ?_) (fun a78 h78 => ?_)
          · refine V_incN C dX8_file_126 rfl (by decide) rfl ?_
            simp only [lset1, lset2, List.filter_cons, List.filter_nil, Nat.reduceBEq, Nat.reduceAdd, Bool.not_true, Bool.not_false, Bool.and_true, Bool.and_false, Bool.true_and, Bool.false_and, if_true, if_false, Bool.false_eq_true, reduceIte]
            refine V_goto C (tgt := 62) dX8_file_129 (by decide) ?_
            refine V_sub ?_ L
            exact ⟨rfl, rfl, rfl, rfl, rfl, rfl, rfl, rfl, trivial⟩
          · cases h78
  have L := loop 100 0 w (by omega) rfl
  refine V_aload_n C dX8_file_0 rfl (by first | exact isR_r _ | exact isR_q _ | exact isR_n) ?_
  refine V_iload_n C dX8_file_1 rfl ?_
  refine V_fV C (c0_X8_childAt _ hl G S ad σ hC hI.2.1.2 k hk) kv_X8_90 cf_8 (by decide) rfl kx (by decide) (by decide) rfl rfl (Nat.le_of_ble_eq_true rfl) dX8_file_2 ?_
  dsimp only [Option.toList_some, Option.toList_none, List.cons_append, List.nil_append]
  refine V_astore_n C dX8_file_5 (by decide) (by first | exact isR_r _ | exact isR_q _ | exact isR_n) rfl ?_
  simp only [lset1, lset2, List.filter_cons, List.filter_nil, Nat.reduceBEq, Nat.reduceAdd, Bool.not_true, Bool.not_false, Bool.and_true, Bool.and_false, Bool.true_and, Bool.false_and, if_true, if_false, Bool.false_eq_true, reduceIte]
  refine V_iload_n C dX8_file_6 rfl ?_
  refine V_if_ge C (tgt := 21) dX8_file_7 (by decide) (fun h7 => ?_) (fun h7 => ?_)
  · refine V_aload_n C dX8_file_21 rfl (by first | exact isR_r _ | exact isR_q _ | exact isR_n) ?_
    refine V_aload_n C dX8_file_22 rfl (by first | exact isR_r _ | exact isR_q _ | exact isR_n) ?_
    refine V_getIe C 8 8 rfl cf_8 fl_X8_53 (by decide) (by decide) dX8_file_23 kx ix_808 ?_
    refine V_fV C (c_X0_years _ hl G S ad σ hC k hk _) kv_X8_222 cf_0 (by decide) rfl kc (by decide) (by decide) rfl rfl (Nat.le_of_ble_eq_true rfl) dX8_file_26 ?_
    dsimp only [Option.toList_some, Option.toList_none, List.cons_append, List.nil_append]
    refine V_bipush C (v := 18) dX8_file_29 (by decide) ?_
    refine V_icmp_ge C (tgt := 45) dX8_file_31 (by decide) (fun h31 => ?_) (fun h31 => ?_)
    · refine V_iload_n C dX8_file_45 rfl ?_
      refine V_istore C dX8_file_46 (by decide) rfl ?_
      simp only [lset1, lset2, List.filter_cons, List.filter_nil, Nat.reduceBEq, Nat.reduceAdd, Bool.not_true, Bool.not_false, Bool.and_true, Bool.and_false, Bool.true_and, Bool.false_and, if_true, if_false, Bool.false_eq_true, reduceIte]
      refine V_aload_n C dX8_file_48 rfl (by first | exact isR_r _ | exact isR_q _ | exact isR_n) ?_
      refine V_getS C 8 2 rfl cf_8 fl_X8_23 (by decide) (by decide) dX8_file_49 kx rx_802 ?_
      refine V_astore C dX8_file_52 (by decide) (by first | exact isR_r _ | exact isR_q _ | exact isR_n) rfl ?_
      simp only [lset1, lset2, List.filter_cons, List.filter_nil, Nat.reduceBEq, Nat.reduceAdd, Bool.not_true, Bool.not_false, Bool.and_true, Bool.and_false, Bool.true_and, Bool.false_and, if_true, if_false, Bool.false_eq_true, reduceIte]
      refine V_aload C dX8_file_54 rfl (by first | exact isR_r _ | exact isR_q _ | exact isR_n) ?_
      refine V_alen C (v := nI 100) kq (by decide) (by rw [lq]; rfl) dX8_file_56 ?_
      refine V_istore C dX8_file_57 (by decide) rfl ?_
      simp only [lset1, lset2, List.filter_cons, List.filter_nil, Nat.reduceBEq, Nat.reduceAdd, Bool.not_true, Bool.not_false, Bool.and_true, Bool.and_false, Bool.true_and, Bool.false_and, if_true, if_false, Bool.false_eq_true, reduceIte]
      refine V_iconst C (v := 0) dX8_file_59 (by decide) ?_
      refine V_istore C dX8_file_60 (by decide) rfl ?_
      simp only [lset1, lset2, List.filter_cons, List.filter_nil, Nat.reduceBEq, Nat.reduceAdd, Bool.not_true, Bool.not_false, Bool.and_true, Bool.and_false, Bool.true_and, Bool.false_and, if_true, if_false, Bool.false_eq_true, reduceIte]
      refine V_sub ?_ L
      exact ⟨rfl, rfl, rfl, rfl, rfl, rfl, rfl, rfl, trivial⟩
    · exact absurd hy h31
  · exact absurd hw h7
