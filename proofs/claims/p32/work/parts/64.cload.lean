/-! THE CLASS: who is at a number; beds taken; loads. -/
/-- the needs of the children are sets of four -/
def IN (σ : aS) : Prop := ∀ k, k < cN σ 1 → 0 ≤ σ.1 4 k ∧ σ.1 4 k ≤ 15
theorem yr_eq (on s d : Int32) : on - (s - d) = d + on - s := by
  rw [Int32.sub_eq_add_neg, Int32.sub_eq_add_neg (a := s), Int32.neg_add, Int32.sub_eq_add_neg (a := -s), Int32.neg_neg, Int32.sub_eq_add_neg (a := d + on), Int32.add_comm d on, Int32.add_assoc, Int32.add_comm (-s) d]
theorem c_X0_years (l : Launch) (hl : l.stackTraces = false) (G : gG) (S : sS) (ad : Nat → Nat → Nat) (σ : aS) (hC : RelC S ad σ) (k : Nat) (hk : k < cN σ 1) (on : Int32) : CtF l G yX0_yearsOn cX0_yearsOn 2 (Option.some FieldType.int) 1 0 0 [.ref (ad 0 k), .int on] S (some (.int (mYears σ k on))) S := by
  have kc : sK S (ad 0 k) = 1 := RelC_K hC 0 (by decide) hk
  have i1 : sI S 1 (ad 0 k) = σ.1 3 k - σ.1 2 k := RelC_I hC 0 1 rfl (by unfold cFd; omega) rfl hk
  have c9 := c_X0_yearsOn l hl G S (ad 0 k) kc on
  rw [i1, yr_eq] at c9
  exact c9
theorem c_X8_childAt (l : Launch) (hl : l.stackTraces = false) (G : gG) (S : sS) (ad : Nat → Nat → Nat) (σ : aS) (hC : RelC S ad σ) (hle : cN σ 1 ≤ 16) (k : Nat) (hk : k < cN σ 1) : CtF l G yX8_childAt cX8_childAt 3 (Option.some (FieldType.object "FosterHouse$Child")) 6 1 6 [.ref (ad 8 0), .int (nI k)] S (some (.ref (ad 0 k))) S := by
  refine Ct_of (by decide) (cat1_all (by repeat first | exact trivial | refine ⟨by first | rfl | exact isR_c (isR_q _), ?_⟩)) (Nat.le_of_ble_eq_true rfl) hl fun X C hXl hin => ?_
  subst hXl
  dsimp only [lArgs, Nat.reduceAdd]
  have kx : sK S (ad 8 0) = 9 := RelC_K hC 8 (by decide) rfl
  have rx_800 : sR S 800 (ad 8 0) = some (ad 15 0) := RelC_R hC 8 800 rfl (by unfold cFd; omega) rfl rfl
  have kq : sK S (ad 15 0) = 104 := hC.1 15 0 (by decide) (by decide) (by decide) rfl
  have lq : sL S (ad 15 0) = 16 := hC.2.2.2.2.1 15 0 (by decide) (by decide) rfl
  have aq := hC.2.2.2.2.2.2.1
  have hk9 : k < 16 := by omega
  have e := (aq k hk9).trans (if_pos hk)
  refine V_iload_n C dX8_childAt_0 rfl ?_
  refine V_if_lt C (tgt := 22) dX8_childAt_1 (by decide) (fun h1 => ?_) (fun h1 => ?_)
  · exact absurd h1 (Int32.not_lt.mpr (nI_pos' (by omega)))
  · refine V_iload_n C dX8_childAt_4 rfl ?_
    refine V_aload_n C dX8_childAt_5 rfl (by first | exact isR_r _ | exact isR_q _ | exact isR_n) ?_
    refine V_getS C 8 0 rfl cf_8 fl_X8_11 (by decide) (by decide) dX8_childAt_6 (by assumption) (by assumption) ?_
    refine V_alen C (v := nI 16) (by assumption) (by decide) (by rw [lq]; rfl) dX8_childAt_9 ?_
    refine V_igeN C (tgt := 22) (by omega) (by omega) dX8_childAt_10 (by decide) (fun h10 => ?_) (fun h10 => ?_)
    · omega
    · refine V_aload_n C dX8_childAt_13 rfl (by first | exact isR_r _ | exact isR_q _ | exact isR_n) ?_
      refine V_getS C 8 0 rfl cf_8 fl_X8_11 (by decide) (by decide) dX8_childAt_14 (by assumption) (by assumption) ?_
      refine V_iload_n C dX8_childAt_17 rfl ?_
      refine V_aaldE C 4 (by decide) kq (by decide) lq rfl hk9 (by decide) dX8_childAt_18 ?_
      rw [e]
      refine V_goto C (tgt := 23) dX8_childAt_19 (by decide) ?_
      refine V_astore_n C dX8_childAt_23 (by decide) (by first | exact isR_r _ | exact isR_q _ | exact isR_n) rfl ?_
      simp only [lset1, lset2, List.filter_cons, List.filter_nil, Nat.reduceBEq, Nat.reduceAdd, Bool.not_true, Bool.not_false, Bool.and_true, Bool.and_false, Bool.true_and, Bool.false_and, if_true, if_false, Bool.false_eq_true, reduceIte]
      refine V_aload_n C dX8_childAt_24 rfl (by first | exact isR_r _ | exact isR_q _ | exact isR_n) ?_
      dsimp only
      refine V_ifnonnull C (tgt := 39) dX8_childAt_25 (by decide) (fun a25 h25 => ?_) (fun h25 => ?_)
      · cases h25
        refine V_aload_n C dX8_childAt_39 rfl (by first | exact isR_r _ | exact isR_q _ | exact isR_n) ?_
        refine V_aret C (by first | exact Or.inl ⟨_, rfl⟩ | exact Or.inr ⟨_, rfl⟩) (by first | exact isR_r _ | exact isR_q _ | exact isR_n) (by first | omega | decide) (by first | omega | decide) dX8_childAt_40 ?_
        exact ⟨rfl, rfl⟩
      · cases h25
theorem c_X8_childAtX (l : Launch) (hl : l.stackTraces = false) (G : gG) (S : sS) (ad : Nat → Nat → Nat) (σ : aS) (hC : RelC S ad σ) (hle : cN σ 1 ≤ 16) (x : Int32) (hx : ¬ ∃ k, k < cN σ 1 ∧ x = nI k) : CtX l G yX8_childAt cX8_childAt 3 (Option.some (FieldType.object "FosterHouse$Child")) 6 1 6 [.ref (ad 8 0), .int x] S "java/lang/IndexOutOfBoundsException" := by
  refine Ct_of (by decide) (cat1_all (by repeat first | exact trivial | refine ⟨by first | rfl | exact isR_c (isR_q _), ?_⟩)) (Nat.le_of_ble_eq_true rfl) hl fun X C hXl hin => ?_
  subst hXl
  dsimp only [lArgs, Nat.reduceAdd]
  have kx : sK S (ad 8 0) = 9 := RelC_K hC 8 (by decide) rfl
  have rx_800 : sR S 800 (ad 8 0) = some (ad 15 0) := RelC_R hC 8 800 rfl (by unfold cFd; omega) rfl rfl
  have kq : sK S (ad 15 0) = 104 := hC.1 15 0 (by decide) (by decide) (by decide) rfl
  have lq : sL S (ad 15 0) = 16 := hC.2.2.2.2.1 15 0 (by decide) (by decide) rfl
  have aq := hC.2.2.2.2.2.2.1
  have J : V X G 3 (eQ X G (fun _ _ => False) (fun F T => F = "java/lang/IndexOutOfBoundsException" ∧ T = S) 1 6) 0 0 23 [(0, false, .ref (ad 8 0)), (1, false, .int x)] [va_rf none] S := by
    refine V_astore_n C dX8_childAt_23 (by decide) (by first | exact isR_r _ | exact isR_q _ | exact isR_n) rfl ?_
    simp only [lset1, lset2, List.filter_cons, List.filter_nil, Nat.reduceBEq, Nat.reduceAdd, Bool.not_true, Bool.not_false, Bool.and_true, Bool.and_false, Bool.true_and, Bool.false_and, if_true, if_false, Bool.false_eq_true, reduceIte]
    refine V_aload_n C dX8_childAt_24 rfl (by first | exact isR_r _ | exact isR_q _ | exact isR_n) ?_
    dsimp only
    refine V_ifnonnull C (tgt := 39) dX8_childAt_25 (by decide) (fun a25 h25 => ?_) (fun h25 => ?_)
    · cases h25
    · refine V_throwSW C tw_X8_268_279_272 dX8_childAt_28 dX8_childAt_31 dX8_childAt_32 dX8_childAt_35 dX8_childAt_38 (by decide) (by first | omega | decide) (by first | omega | decide) ?_
      exact ⟨rfl, rfl⟩
  by_cases h0 : x < 0
  · refine V_iload_n C dX8_childAt_0 rfl ?_
    refine V_if_lt C (tgt := 22) dX8_childAt_1 (by decide) (fun h1 => ?_) (fun h1 => ?_)
    · refine V_aconst_null C dX8_childAt_22 ?_
      exact J
    · exact absurd h0 h1
  · obtain ⟨k, hk, rfl⟩ := nI_of h0
    refine V_iload_n C dX8_childAt_0 rfl ?_
    refine V_if_lt C (tgt := 22) dX8_childAt_1 (by decide) (fun h1 => ?_) (fun h1 => ?_)
    · exact absurd h1 h0
    · refine V_iload_n C dX8_childAt_4 rfl ?_
      refine V_aload_n C dX8_childAt_5 rfl (by first | exact isR_r _ | exact isR_q _ | exact isR_n) ?_
      refine V_getS C 8 0 rfl cf_8 fl_X8_11 (by decide) (by decide) dX8_childAt_6 (by assumption) (by assumption) ?_
      refine V_alen C (v := nI 16) (by assumption) (by decide) (by rw [lq]; rfl) dX8_childAt_9 ?_
      refine V_igeN C (tgt := 22) (by omega) (by omega) dX8_childAt_10 (by decide) (fun h10 => ?_) (fun h10 => ?_)
      · refine V_aconst_null C dX8_childAt_22 ?_
        exact J
      · refine V_aload_n C dX8_childAt_13 rfl (by first | exact isR_r _ | exact isR_q _ | exact isR_n) ?_
        refine V_getS C 8 0 rfl cf_8 fl_X8_11 (by decide) (by decide) dX8_childAt_14 (by assumption) (by assumption) ?_
        refine V_iload_n C dX8_childAt_17 rfl ?_
        refine V_aaldE C 4 (by decide) kq (by decide) lq rfl h10 (by decide) dX8_childAt_18 ?_
        rw [(aq k h10).trans (if_neg (fun z => hx ⟨k, z, rfl⟩))]
        refine V_goto C (tgt := 23) dX8_childAt_19 (by decide) ?_
        exact J
theorem c_X8_homeAt (l : Launch) (hl : l.stackTraces = false) (G : gG) (S : sS) (ad : Nat → Nat → Nat) (σ : aS) (hC : RelC S ad σ) (hle : cN σ 20 ≤ 10) (k : Nat) (hk : k < cN σ 20) : CtF l G yX8_homeAt cX8_homeAt 3 (Option.some (FieldType.object "FosterHouse$Home")) 6 1 6 [.ref (ad 8 0), .int (nI k)] S (some (.ref (ad 2 k))) S := by
  refine Ct_of (by decide) (cat1_all (by repeat first | exact trivial | refine ⟨by first | rfl | exact isR_c (isR_q _), ?_⟩)) (Nat.le_of_ble_eq_true rfl) hl fun X C hXl hin => ?_
  subst hXl
  dsimp only [lArgs, Nat.reduceAdd]
  have kx : sK S (ad 8 0) = 9 := RelC_K hC 8 (by decide) rfl
  have rx_801 : sR S 801 (ad 8 0) = some (ad 16 0) := RelC_R hC 8 801 rfl (by unfold cFd; omega) rfl rfl
  have kq : sK S (ad 16 0) = 105 := hC.1 16 0 (by decide) (by decide) (by decide) rfl
  have lq : sL S (ad 16 0) = 10 := hC.2.2.2.2.1 16 0 (by decide) (by decide) rfl
  have aq := hC.2.2.2.2.2.2.2.1
  have hk9 : k < 10 := by omega
  have e := (aq k hk9).trans (if_pos hk)
  refine V_iload_n C dX8_homeAt_0 rfl ?_
  refine V_if_lt C (tgt := 22) dX8_homeAt_1 (by decide) (fun h1 => ?_) (fun h1 => ?_)
  · exact absurd h1 (Int32.not_lt.mpr (nI_pos' (by omega)))
  · refine V_iload_n C dX8_homeAt_4 rfl ?_
    refine V_aload_n C dX8_homeAt_5 rfl (by first | exact isR_r _ | exact isR_q _ | exact isR_n) ?_
    refine V_getS C 8 1 rfl cf_8 fl_X8_17 (by decide) (by decide) dX8_homeAt_6 (by assumption) (by assumption) ?_
    refine V_alen C (v := nI 10) (by assumption) (by decide) (by rw [lq]; rfl) dX8_homeAt_9 ?_
    refine V_igeN C (tgt := 22) (by omega) (by omega) dX8_homeAt_10 (by decide) (fun h10 => ?_) (fun h10 => ?_)
    · omega
    · refine V_aload_n C dX8_homeAt_13 rfl (by first | exact isR_r _ | exact isR_q _ | exact isR_n) ?_
      refine V_getS C 8 1 rfl cf_8 fl_X8_17 (by decide) (by decide) dX8_homeAt_14 (by assumption) (by assumption) ?_
      refine V_iload_n C dX8_homeAt_17 rfl ?_
      refine V_aaldE C 5 (by decide) kq (by decide) lq rfl hk9 (by decide) dX8_homeAt_18 ?_
      rw [e]
      refine V_goto C (tgt := 23) dX8_homeAt_19 (by decide) ?_
      refine V_astore_n C dX8_homeAt_23 (by decide) (by first | exact isR_r _ | exact isR_q _ | exact isR_n) rfl ?_
      simp only [lset1, lset2, List.filter_cons, List.filter_nil, Nat.reduceBEq, Nat.reduceAdd, Bool.not_true, Bool.not_false, Bool.and_true, Bool.and_false, Bool.true_and, Bool.false_and, if_true, if_false, Bool.false_eq_true, reduceIte]
      refine V_aload_n C dX8_homeAt_24 rfl (by first | exact isR_r _ | exact isR_q _ | exact isR_n) ?_
      dsimp only
      refine V_ifnonnull C (tgt := 39) dX8_homeAt_25 (by decide) (fun a25 h25 => ?_) (fun h25 => ?_)
      · cases h25
        refine V_aload_n C dX8_homeAt_39 rfl (by first | exact isR_r _ | exact isR_q _ | exact isR_n) ?_
        refine V_aret C (by first | exact Or.inl ⟨_, rfl⟩ | exact Or.inr ⟨_, rfl⟩) (by first | exact isR_r _ | exact isR_q _ | exact isR_n) (by first | omega | decide) (by first | omega | decide) dX8_homeAt_40 ?_
        exact ⟨rfl, rfl⟩
      · cases h25
theorem c_X8_homeAtX (l : Launch) (hl : l.stackTraces = false) (G : gG) (S : sS) (ad : Nat → Nat → Nat) (σ : aS) (hC : RelC S ad σ) (hle : cN σ 20 ≤ 10) (x : Int32) (hx : ¬ ∃ k, k < cN σ 20 ∧ x = nI k) : CtX l G yX8_homeAt cX8_homeAt 3 (Option.some (FieldType.object "FosterHouse$Home")) 6 1 6 [.ref (ad 8 0), .int x] S "java/lang/IndexOutOfBoundsException" := by
  refine Ct_of (by decide) (cat1_all (by repeat first | exact trivial | refine ⟨by first | rfl | exact isR_c (isR_q _), ?_⟩)) (Nat.le_of_ble_eq_true rfl) hl fun X C hXl hin => ?_
  subst hXl
  dsimp only [lArgs, Nat.reduceAdd]
  have kx : sK S (ad 8 0) = 9 := RelC_K hC 8 (by decide) rfl
  have rx_801 : sR S 801 (ad 8 0) = some (ad 16 0) := RelC_R hC 8 801 rfl (by unfold cFd; omega) rfl rfl
  have kq : sK S (ad 16 0) = 105 := hC.1 16 0 (by decide) (by decide) (by decide) rfl
  have lq : sL S (ad 16 0) = 10 := hC.2.2.2.2.1 16 0 (by decide) (by decide) rfl
  have aq := hC.2.2.2.2.2.2.2.1
  have J : V X G 3 (eQ X G (fun _ _ => False) (fun F T => F = "java/lang/IndexOutOfBoundsException" ∧ T = S) 1 6) 0 0 23 [(0, false, .ref (ad 8 0)), (1, false, .int x)] [va_rf none] S := by
    refine V_astore_n C dX8_homeAt_23 (by decide) (by first | exact isR_r _ | exact isR_q _ | exact isR_n) rfl ?_
    simp only [lset1, lset2, List.filter_cons, List.filter_nil, Nat.reduceBEq, Nat.reduceAdd, Bool.not_true, Bool.not_false, Bool.and_true, Bool.and_false, Bool.true_and, Bool.false_and, if_true, if_false, Bool.false_eq_true, reduceIte]
    refine V_aload_n C dX8_homeAt_24 rfl (by first | exact isR_r _ | exact isR_q _ | exact isR_n) ?_
    dsimp only
    refine V_ifnonnull C (tgt := 39) dX8_homeAt_25 (by decide) (fun a25 h25 => ?_) (fun h25 => ?_)
    · cases h25
    · refine V_throwSW C tw_X8_268_281_272 dX8_homeAt_28 dX8_homeAt_31 dX8_homeAt_32 dX8_homeAt_35 dX8_homeAt_38 (by decide) (by first | omega | decide) (by first | omega | decide) ?_
      exact ⟨rfl, rfl⟩
  by_cases h0 : x < 0
  · refine V_iload_n C dX8_homeAt_0 rfl ?_
    refine V_if_lt C (tgt := 22) dX8_homeAt_1 (by decide) (fun h1 => ?_) (fun h1 => ?_)
    · refine V_aconst_null C dX8_homeAt_22 ?_
      exact J
    · exact absurd h0 h1
  · obtain ⟨k, hk, rfl⟩ := nI_of h0
    refine V_iload_n C dX8_homeAt_0 rfl ?_
    refine V_if_lt C (tgt := 22) dX8_homeAt_1 (by decide) (fun h1 => ?_) (fun h1 => ?_)
    · exact absurd h1 h0
    · refine V_iload_n C dX8_homeAt_4 rfl ?_
      refine V_aload_n C dX8_homeAt_5 rfl (by first | exact isR_r _ | exact isR_q _ | exact isR_n) ?_
      refine V_getS C 8 1 rfl cf_8 fl_X8_17 (by decide) (by decide) dX8_homeAt_6 (by assumption) (by assumption) ?_
      refine V_alen C (v := nI 10) (by assumption) (by decide) (by rw [lq]; rfl) dX8_homeAt_9 ?_
      refine V_igeN C (tgt := 22) (by omega) (by omega) dX8_homeAt_10 (by decide) (fun h10 => ?_) (fun h10 => ?_)
      · refine V_aconst_null C dX8_homeAt_22 ?_
        exact J
      · refine V_aload_n C dX8_homeAt_13 rfl (by first | exact isR_r _ | exact isR_q _ | exact isR_n) ?_
        refine V_getS C 8 1 rfl cf_8 fl_X8_17 (by decide) (by decide) dX8_homeAt_14 (by assumption) (by assumption) ?_
        refine V_iload_n C dX8_homeAt_17 rfl ?_
        refine V_aaldE C 5 (by decide) kq (by decide) lq rfl h10 (by decide) dX8_homeAt_18 ?_
        rw [(aq k h10).trans (if_neg (fun z => hx ⟨k, z, rfl⟩))]
        refine V_goto C (tgt := 23) dX8_homeAt_19 (by decide) ?_
        exact J
theorem c_X8_stayAt (l : Launch) (hl : l.stackTraces = false) (G : gG) (S : sS) (ad : Nat → Nat → Nat) (σ : aS) (hC : RelC S ad σ) (hle : cN σ 43 ≤ 100) (k : Nat) (hk : k < cN σ 43) : CtF l G yX8_stayAt cX8_stayAt 3 (Option.some (FieldType.object "FosterHouse$Stay")) 6 1 6 [.ref (ad 8 0), .int (nI k)] S (some (.ref (ad 6 k))) S := by
  refine Ct_of (by decide) (cat1_all (by repeat first | exact trivial | refine ⟨by first | rfl | exact isR_c (isR_q _), ?_⟩)) (Nat.le_of_ble_eq_true rfl) hl fun X C hXl hin => ?_
  subst hXl
  dsimp only [lArgs, Nat.reduceAdd]
  have kx : sK S (ad 8 0) = 9 := RelC_K hC 8 (by decide) rfl
  have rx_802 : sR S 802 (ad 8 0) = some (ad 17 0) := RelC_R hC 8 802 rfl (by unfold cFd; omega) rfl rfl
  have kq : sK S (ad 17 0) = 106 := hC.1 17 0 (by decide) (by decide) (by decide) rfl
  have lq : sL S (ad 17 0) = 100 := hC.2.2.2.2.1 17 0 (by decide) (by decide) rfl
  have aq := hC.2.2.2.2.2.2.2.2.1
  have hk9 : k < 100 := by omega
  have e := (aq k hk9).trans (if_pos hk)
  refine V_iload_n C dX8_stayAt_0 rfl ?_
  refine V_if_lt C (tgt := 22) dX8_stayAt_1 (by decide) (fun h1 => ?_) (fun h1 => ?_)
  · exact absurd h1 (Int32.not_lt.mpr (nI_pos' (by omega)))
  · refine V_iload_n C dX8_stayAt_4 rfl ?_
    refine V_aload_n C dX8_stayAt_5 rfl (by first | exact isR_r _ | exact isR_q _ | exact isR_n) ?_
    refine V_getS C 8 2 rfl cf_8 fl_X8_23 (by decide) (by decide) dX8_stayAt_6 (by assumption) (by assumption) ?_
    refine V_alen C (v := nI 100) (by assumption) (by decide) (by rw [lq]; rfl) dX8_stayAt_9 ?_
    refine V_igeN C (tgt := 22) (by omega) (by omega) dX8_stayAt_10 (by decide) (fun h10 => ?_) (fun h10 => ?_)
    · omega
    · refine V_aload_n C dX8_stayAt_13 rfl (by first | exact isR_r _ | exact isR_q _ | exact isR_n) ?_
      refine V_getS C 8 2 rfl cf_8 fl_X8_23 (by decide) (by decide) dX8_stayAt_14 (by assumption) (by assumption) ?_
      refine V_iload_n C dX8_stayAt_17 rfl ?_
      refine V_aaldE C 6 (by decide) kq (by decide) lq rfl hk9 (by decide) dX8_stayAt_18 ?_
      rw [e]
      refine V_goto C (tgt := 23) dX8_stayAt_19 (by decide) ?_
      refine V_astore_n C dX8_stayAt_23 (by decide) (by first | exact isR_r _ | exact isR_q _ | exact isR_n) rfl ?_
      simp only [lset1, lset2, List.filter_cons, List.filter_nil, Nat.reduceBEq, Nat.reduceAdd, Bool.not_true, Bool.not_false, Bool.and_true, Bool.and_false, Bool.true_and, Bool.false_and, if_true, if_false, Bool.false_eq_true, reduceIte]
      refine V_aload_n C dX8_stayAt_24 rfl (by first | exact isR_r _ | exact isR_q _ | exact isR_n) ?_
      dsimp only
      refine V_ifnonnull C (tgt := 39) dX8_stayAt_25 (by decide) (fun a25 h25 => ?_) (fun h25 => ?_)
      · cases h25
        refine V_aload_n C dX8_stayAt_39 rfl (by first | exact isR_r _ | exact isR_q _ | exact isR_n) ?_
        refine V_aret C (by first | exact Or.inl ⟨_, rfl⟩ | exact Or.inr ⟨_, rfl⟩) (by first | exact isR_r _ | exact isR_q _ | exact isR_n) (by first | omega | decide) (by first | omega | decide) dX8_stayAt_40 ?_
        exact ⟨rfl, rfl⟩
      · cases h25
theorem c_X8_stayAtX (l : Launch) (hl : l.stackTraces = false) (G : gG) (S : sS) (ad : Nat → Nat → Nat) (σ : aS) (hC : RelC S ad σ) (hle : cN σ 43 ≤ 100) (x : Int32) (hx : ¬ ∃ k, k < cN σ 43 ∧ x = nI k) : CtX l G yX8_stayAt cX8_stayAt 3 (Option.some (FieldType.object "FosterHouse$Stay")) 6 1 6 [.ref (ad 8 0), .int x] S "java/lang/IndexOutOfBoundsException" := by
  refine Ct_of (by decide) (cat1_all (by repeat first | exact trivial | refine ⟨by first | rfl | exact isR_c (isR_q _), ?_⟩)) (Nat.le_of_ble_eq_true rfl) hl fun X C hXl hin => ?_
  subst hXl
  dsimp only [lArgs, Nat.reduceAdd]
  have kx : sK S (ad 8 0) = 9 := RelC_K hC 8 (by decide) rfl
  have rx_802 : sR S 802 (ad 8 0) = some (ad 17 0) := RelC_R hC 8 802 rfl (by unfold cFd; omega) rfl rfl
  have kq : sK S (ad 17 0) = 106 := hC.1 17 0 (by decide) (by decide) (by decide) rfl
  have lq : sL S (ad 17 0) = 100 := hC.2.2.2.2.1 17 0 (by decide) (by decide) rfl
  have aq := hC.2.2.2.2.2.2.2.2.1
  have J : V X G 3 (eQ X G (fun _ _ => False) (fun F T => F = "java/lang/IndexOutOfBoundsException" ∧ T = S) 1 6) 0 0 23 [(0, false, .ref (ad 8 0)), (1, false, .int x)] [va_rf none] S := by
    refine V_astore_n C dX8_stayAt_23 (by decide) (by first | exact isR_r _ | exact isR_q _ | exact isR_n) rfl ?_
    simp only [lset1, lset2, List.filter_cons, List.filter_nil, Nat.reduceBEq, Nat.reduceAdd, Bool.not_true, Bool.not_false, Bool.and_true, Bool.and_false, Bool.true_and, Bool.false_and, if_true, if_false, Bool.false_eq_true, reduceIte]
    refine V_aload_n C dX8_stayAt_24 rfl (by first | exact isR_r _ | exact isR_q _ | exact isR_n) ?_
    dsimp only
    refine V_ifnonnull C (tgt := 39) dX8_stayAt_25 (by decide) (fun a25 h25 => ?_) (fun h25 => ?_)
    · cases h25
    · refine V_throwSW C tw_X8_268_283_272 dX8_stayAt_28 dX8_stayAt_31 dX8_stayAt_32 dX8_stayAt_35 dX8_stayAt_38 (by decide) (by first | omega | decide) (by first | omega | decide) ?_
      exact ⟨rfl, rfl⟩
  by_cases h0 : x < 0
  · refine V_iload_n C dX8_stayAt_0 rfl ?_
    refine V_if_lt C (tgt := 22) dX8_stayAt_1 (by decide) (fun h1 => ?_) (fun h1 => ?_)
    · refine V_aconst_null C dX8_stayAt_22 ?_
      exact J
    · exact absurd h0 h1
  · obtain ⟨k, hk, rfl⟩ := nI_of h0
    refine V_iload_n C dX8_stayAt_0 rfl ?_
    refine V_if_lt C (tgt := 22) dX8_stayAt_1 (by decide) (fun h1 => ?_) (fun h1 => ?_)
    · exact absurd h1 h0
    · refine V_iload_n C dX8_stayAt_4 rfl ?_
      refine V_aload_n C dX8_stayAt_5 rfl (by first | exact isR_r _ | exact isR_q _ | exact isR_n) ?_
      refine V_getS C 8 2 rfl cf_8 fl_X8_23 (by decide) (by decide) dX8_stayAt_6 (by assumption) (by assumption) ?_
      refine V_alen C (v := nI 100) (by assumption) (by decide) (by rw [lq]; rfl) dX8_stayAt_9 ?_
      refine V_igeN C (tgt := 22) (by omega) (by omega) dX8_stayAt_10 (by decide) (fun h10 => ?_) (fun h10 => ?_)
      · refine V_aconst_null C dX8_stayAt_22 ?_
        exact J
      · refine V_aload_n C dX8_stayAt_13 rfl (by first | exact isR_r _ | exact isR_q _ | exact isR_n) ?_
        refine V_getS C 8 2 rfl cf_8 fl_X8_23 (by decide) (by decide) dX8_stayAt_14 (by assumption) (by assumption) ?_
        refine V_iload_n C dX8_stayAt_17 rfl ?_
        refine V_aaldE C 6 (by decide) kq (by decide) lq rfl h10 (by decide) dX8_stayAt_18 ?_
        rw [(aq k h10).trans (if_neg (fun z => hx ⟨k, z, rfl⟩))]
        refine V_goto C (tgt := 23) dX8_stayAt_19 (by decide) ?_
        exact J
theorem c_X8_takenBeds (l : Launch) (hl : l.stackTraces = false) (G : gG) (S : sS) (ad : Nat → Nat → Nat) (σ : aS) (hC : RelC S ad σ) (hI : IC σ) (hS : IS σ) (hh : Nat) (hhk : hh < cN σ 20) (o : Option Nat) (x : Int32) (ho : ∀ i, i < cN σ 1 → (some (ad 0 i) = o ↔ nI i = x)) : CtF l G yX8_takenBeds cX8_takenBeds 8 (Option.some FieldType.int) 2 0 0 [.ref (ad 8 0), .ref (ad 2 hh), va_rf o] S (some (.int (mOthers σ x (nI hh)))) S := by
  refine Ct_of (by decide) (cat1_all (by repeat first | exact trivial | refine ⟨by first | rfl | exact isR_c (isR_q _), ?_⟩)) (Nat.le_of_ble_eq_true rfl) hl fun X C hXl hin => ?_
  subst hXl
  dsimp only [lArgs, Nat.reduceAdd]
  have kx : sK S (ad 8 0) = 9 := RelC_K hC 8 (by decide) rfl
  have rx_800 : sR S 800 (ad 8 0) = some (ad 15 0) := RelC_R hC 8 800 rfl (by unfold cFd; omega) rfl rfl
  have kq : sK S (ad 15 0) = 104 := hC.1 15 0 (by decide) (by decide) (by decide) rfl
  have lq : sL S (ad 15 0) = 16 := hC.2.2.2.2.1 15 0 (by decide) (by decide) rfl
  have aq := hC.2.2.2.2.2.2.1
  obtain ⟨n, hn⟩ : ∃ n, n = cN σ 1 := ⟨_, rfl⟩
  have hn16 : n ≤ 16 := by rw [hn]; exact hI.2.1.2
  rw [← hn] at aq
  have loop : ∀ (t i : Nat), i + t = 16 → V X G 8 (eQ X G (fun v T => v = some (.int (mOthers σ x (nI hh))) ∧ T = S) (fun _ _ => False) 0 0) 0 0 16 [(6, false, .int (nI i)), (5, false, .int (nI 16)), (4, false, .ref (ad 15 0)), (3, false, .int (fsum (mOthersT σ x (nI hh)) (min i n))), (0, false, .ref (ad 8 0)), (1, false, .ref (ad 2 hh)), (2, false, va_rf o)] [] S := by
    intro t
    induction t with
    | zero =>
      intro i hi
      obtain rfl : i = 16 := by omega
      rw [Nat.min_eq_right hn16]
      refine V_iload C dX8_takenBeds_16 rfl ?_
      refine V_iload C dX8_takenBeds_18 rfl ?_
      refine V_igeN C (tgt := 59) (by omega) (by omega) dX8_takenBeds_20 (by decide) (fun h20 => ?_) (fun h20 => ?_)
      · refine V_iload_n C dX8_takenBeds_59 rfl ?_
        refine V_iret C (by first | omega | decide) (by first | omega | decide) dX8_takenBeds_60 ?_
        rw [hn]
        exact ⟨rfl, rfl⟩
      · omega
    | succ t ih =>
      intro i hi
      have hi16 : i < 16 := by omega
      by_cases hin9 : i < n
      · have e := (aq i hi16).trans (if_pos hin9)
        have kc : sK S (ad 0 i) = 1 := RelC_K hC 0 (by decide) (hn ▸ hin9 : i < cN σ 1)
        have S1 : (¬ nI i = x ∧ mHomeOf σ i = nI hh) → fsum (mOthersT σ x (nI hh)) (min (i + 1) n) = fsum (mOthersT σ x (nI hh)) (min i n) + 1 := fun q => by
          rw [Nat.min_eq_left (by omega : i + 1 ≤ n), Nat.min_eq_left (by omega : i ≤ n)]
          show _ + (if ¬ nI i = x ∧ mHomeOf σ i = nI hh then (1 : Int32) else 0) = _
          rw [if_pos q]
        have S0 : ¬ (¬ nI i = x ∧ mHomeOf σ i = nI hh) → fsum (mOthersT σ x (nI hh)) (min (i + 1) n) = fsum (mOthersT σ x (nI hh)) (min i n) := fun q => by
          rw [Nat.min_eq_left (by omega : i + 1 ≤ n), Nat.min_eq_left (by omega : i ≤ n)]
          show _ + (if ¬ nI i = x ∧ mHomeOf σ i = nI hh then (1 : Int32) else 0) = _
          rw [if_neg q, Int32.add_zero]
        refine V_iload C dX8_takenBeds_16 rfl ?_
        refine V_iload C dX8_takenBeds_18 rfl ?_
        refine V_igeN C (tgt := 59) (by omega) (by omega) dX8_takenBeds_20 (by decide) (fun h20 => ?_) (fun h20 => ?_)
        · omega
        · refine V_aload C dX8_takenBeds_23 rfl (by first | exact isR_r _ | exact isR_q _ | exact isR_n) ?_
          refine V_iload C dX8_takenBeds_25 rfl ?_
          refine V_aaldE C 4 (by decide) kq (by decide) lq rfl hi16 (by decide) dX8_takenBeds_27 ?_
          rw [e]
          refine V_astore C dX8_takenBeds_28 (by decide) (by first | exact isR_r _ | exact isR_q _ | exact isR_n) rfl ?_
          simp only [lset1, lset2, List.filter_cons, List.filter_nil, Nat.reduceBEq, Nat.reduceAdd, Bool.not_true, Bool.not_false, Bool.and_true, Bool.and_false, Bool.true_and, Bool.false_and, if_true, if_false, Bool.false_eq_true, reduceIte]
          refine V_aload C dX8_takenBeds_30 rfl (by first | exact isR_r _ | exact isR_q _ | exact isR_n) ?_
          dsimp only
          refine V_ifnull C (tgt := 53) dX8_takenBeds_32 (by decide) (fun h32 => ?_) (fun a32 h32 => ?_)
          · cases h32
          · cases h32
            refine V_aload C dX8_takenBeds_35 rfl (by first | exact isR_r _ | exact isR_q _ | exact isR_n) ?_
            refine V_aload_n C dX8_takenBeds_37 rfl (by first | exact isR_r _ | exact isR_q _ | exact isR_n) ?_
            refine V_acmp_eq C (tgt := 53) (rx := some (ad 0 i)) (ry := o) dX8_takenBeds_38 (by decide) (fun h38 => ?_) (fun h38 => ?_)
            · have T0 := S0 (fun q => q.1 ((ho i (hn ▸ hin9)).mp h38))
              refine V_incN C dX8_takenBeds_53 rfl (by decide) rfl ?_
              simp only [lset1, lset2, List.filter_cons, List.filter_nil, Nat.reduceBEq, Nat.reduceAdd, Bool.not_true, Bool.not_false, Bool.and_true, Bool.and_false, Bool.true_and, Bool.false_and, if_true, if_false, Bool.false_eq_true, reduceIte]
              refine V_goto C (tgt := 16) dX8_takenBeds_56 (by decide) ?_
              refine V_sub ?_ (ih (i + 1) (by omega))
              rw [T0]
              exact ⟨rfl, rfl, rfl, rfl, rfl, rfl, rfl, trivial⟩
            · refine V_aload C dX8_takenBeds_41 rfl (by first | exact isR_r _ | exact isR_q _ | exact isR_n) ?_
              refine V_aload_n C dX8_takenBeds_43 rfl (by first | exact isR_r _ | exact isR_q _ | exact isR_n) ?_
              refine V_fV C (c_X0_isIn _ hl G S ad σ hC hI hS i (hn ▸ hin9) hh hhk) kv_X8_150 cf_0 (by decide) rfl (by assumption) (by decide) (by decide) rfl rfl (Nat.le_of_ble_eq_true rfl) dX8_takenBeds_44 ?_
              dsimp only [Option.toList_some, Option.toList_none, List.cons_append, List.nil_append]
              refine V_if_eq C (tgt := 53) dX8_takenBeds_47 (by decide) (fun h47 => ?_) (fun h47 => ?_)
              · have T0 := S0 (fun q => pI9_z.mp h47 q.2)
                refine V_incN C dX8_takenBeds_53 rfl (by decide) rfl ?_
                simp only [lset1, lset2, List.filter_cons, List.filter_nil, Nat.reduceBEq, Nat.reduceAdd, Bool.not_true, Bool.not_false, Bool.and_true, Bool.and_false, Bool.true_and, Bool.false_and, if_true, if_false, Bool.false_eq_true, reduceIte]
                refine V_goto C (tgt := 16) dX8_takenBeds_56 (by decide) ?_
                refine V_sub ?_ (ih (i + 1) (by omega))
                rw [T0]
                exact ⟨rfl, rfl, rfl, rfl, rfl, rfl, rfl, trivial⟩
              · have T0 := S1 ⟨fun q => h38 ((ho i (hn ▸ hin9)).mpr q), pI9_ne.mp h47⟩
                refine V_iinc C dX8_takenBeds_50 rfl rfl (by decide) rfl ?_
                simp only [lset1, lset2, List.filter_cons, List.filter_nil, Nat.reduceBEq, Nat.reduceAdd, Bool.not_true, Bool.not_false, Bool.and_true, Bool.and_false, Bool.true_and, Bool.false_and, if_true, if_false, Bool.false_eq_true, reduceIte]
                refine V_incN C dX8_takenBeds_53 rfl (by decide) rfl ?_
                simp only [lset1, lset2, List.filter_cons, List.filter_nil, Nat.reduceBEq, Nat.reduceAdd, Bool.not_true, Bool.not_false, Bool.and_true, Bool.and_false, Bool.true_and, Bool.false_and, if_true, if_false, Bool.false_eq_true, reduceIte]
                refine V_goto C (tgt := 16) dX8_takenBeds_56 (by decide) ?_
                refine V_sub ?_ (ih (i + 1) (by omega))
                rw [T0]
                exact ⟨rfl, rfl, rfl, rfl, rfl, rfl, rfl, trivial⟩
      · have e := (aq i hi16).trans (if_neg hin9)
        have T0 : min (i + 1) n = min i n := by omega
        refine V_iload C dX8_takenBeds_16 rfl ?_
        refine V_iload C dX8_takenBeds_18 rfl ?_
        refine V_igeN C (tgt := 59) (by omega) (by omega) dX8_takenBeds_20 (by decide) (fun h20 => ?_) (fun h20 => ?_)
        · omega
        · refine V_aload C dX8_takenBeds_23 rfl (by first | exact isR_r _ | exact isR_q _ | exact isR_n) ?_
          refine V_iload C dX8_takenBeds_25 rfl ?_
          refine V_aaldE C 4 (by decide) kq (by decide) lq rfl hi16 (by decide) dX8_takenBeds_27 ?_
          rw [e]
          refine V_astore C dX8_takenBeds_28 (by decide) (by first | exact isR_r _ | exact isR_q _ | exact isR_n) rfl ?_
          simp only [lset1, lset2, List.filter_cons, List.filter_nil, Nat.reduceBEq, Nat.reduceAdd, Bool.not_true, Bool.not_false, Bool.and_true, Bool.and_false, Bool.true_and, Bool.false_and, if_true, if_false, Bool.false_eq_true, reduceIte]
          refine V_aload C dX8_takenBeds_30 rfl (by first | exact isR_r _ | exact isR_q _ | exact isR_n) ?_
          dsimp only
          refine V_ifnull C (tgt := 53) dX8_takenBeds_32 (by decide) (fun h32 => ?_) (fun a32 h32 => ?_)
          · refine V_incN C dX8_takenBeds_53 rfl (by decide) rfl ?_
            simp only [lset1, lset2, List.filter_cons, List.filter_nil, Nat.reduceBEq, Nat.reduceAdd, Bool.not_true, Bool.not_false, Bool.and_true, Bool.and_false, Bool.true_and, Bool.false_and, if_true, if_false, Bool.false_eq_true, reduceIte]
            refine V_goto C (tgt := 16) dX8_takenBeds_56 (by decide) ?_
            refine V_sub ?_ (ih (i + 1) (by omega))
            rw [T0]
            exact ⟨rfl, rfl, rfl, rfl, rfl, rfl, rfl, trivial⟩
          · cases h32
  refine V_iconst C (v := 0) dX8_takenBeds_0 (by decide) ?_
  refine V_istore_n C dX8_takenBeds_1 (by decide) rfl ?_
  simp only [lset1, lset2, List.filter_cons, List.filter_nil, Nat.reduceBEq, Nat.reduceAdd, Bool.not_true, Bool.not_false, Bool.and_true, Bool.and_false, Bool.true_and, Bool.false_and, if_true, if_false, Bool.false_eq_true, reduceIte]
  refine V_aload_n C dX8_takenBeds_2 rfl (by first | exact isR_r _ | exact isR_q _ | exact isR_n) ?_
  refine V_getS C 8 0 rfl cf_8 fl_X8_11 (by decide) (by decide) dX8_takenBeds_3 (by assumption) (by assumption) ?_
  refine V_astore C dX8_takenBeds_6 (by decide) (by first | exact isR_r _ | exact isR_q _ | exact isR_n) rfl ?_
  simp only [lset1, lset2, List.filter_cons, List.filter_nil, Nat.reduceBEq, Nat.reduceAdd, Bool.not_true, Bool.not_false, Bool.and_true, Bool.and_false, Bool.true_and, Bool.false_and, if_true, if_false, Bool.false_eq_true, reduceIte]
  refine V_aload C dX8_takenBeds_8 rfl (by first | exact isR_r _ | exact isR_q _ | exact isR_n) ?_
  refine V_alen C (v := nI 16) (by assumption) (by decide) (by rw [lq]; rfl) dX8_takenBeds_10 ?_
  refine V_istore C dX8_takenBeds_11 (by decide) rfl ?_
  simp only [lset1, lset2, List.filter_cons, List.filter_nil, Nat.reduceBEq, Nat.reduceAdd, Bool.not_true, Bool.not_false, Bool.and_true, Bool.and_false, Bool.true_and, Bool.false_and, if_true, if_false, Bool.false_eq_true, reduceIte]
  refine V_iconst C (v := 0) dX8_takenBeds_13 (by decide) ?_
  refine V_istore C dX8_takenBeds_14 (by decide) rfl ?_
  simp only [lset1, lset2, List.filter_cons, List.filter_nil, Nat.reduceBEq, Nat.reduceAdd, Bool.not_true, Bool.not_false, Bool.and_true, Bool.and_false, Bool.true_and, Bool.false_and, if_true, if_false, Bool.false_eq_true, reduceIte]
  refine V_sub ?_ (loop 16 0 (by omega))
  rw [Nat.zero_min]
  exact ⟨rfl, rfl, rfl, rfl, rfl, rfl, rfl, trivial⟩

