/-! THE CLASS: orders. -/
theorem ordL_olast {σ : aS} {x : Int32} {n : Nat} : ordL σ x n = olast (fun i => σ.1 39 i = x) n := by
  unfold ordL
  exact @olast_congr (ordP σ x) (fun i => σ.1 39 i = x) (fun _ => Classical.propDecidable _) _ n (fun _ _ => Iff.rfl)
/-- the orders' days are few -/
def IO (σ : aS) : Prop := ∀ j, j < cN σ 38 → σ.1 42 j ≤ 30000
/-- the order of a child that counts on a day, if any -/
def ordC (σ : aS) (x on : Int32) (n : Nat) : Option Nat := olast (fun i => σ.1 39 i = x ∧ (σ.1 41 i ≤ on ∧ on ≤ σ.1 42 i)) n
theorem ordC_0 {σ : aS} {x on : Int32} {n : Nat} (h : ordL σ x n = none) : ordC σ x on n = none := by
  rw [ordL_olast] at h
  exact olast_and.1 h
theorem ordC_t {σ : aS} {x on : Int32} {n j : Nat} (h : ordL σ x n = some j) (q : σ.1 41 j ≤ on ∧ on ≤ σ.1 42 j) : ordC σ x on n = some j := by
  rw [ordL_olast] at h
  exact (olast_and.2 j h).trans (if_pos q)
theorem ordC_f {σ : aS} {x on : Int32} {n j : Nat} (h : ordL σ x n = some j) (q : ¬ (σ.1 41 j ≤ on ∧ on ≤ σ.1 42 j)) : ordC σ x on n = ordC σ x on j := by
  rw [ordL_olast] at h
  exact (olast_and.2 j h).trans (if_neg q)
theorem ordL_s {σ : aS} {x : Int32} {n j : Nat} (h : ordL σ x n = some j) : j < n ∧ σ.1 39 j = x := by
  rw [ordL_olast] at h
  exact olast_s h
theorem ordC_s {σ : aS} {x on : Int32} {n j : Nat} (h : ordC σ x on n = some j) : j < n ∧ σ.1 39 j = x := ⟨(olast_s h).1, (olast_s h).2.1⟩
theorem mCounts_C {σ : aS} {x on : Int32} : mCounts σ x on = match ordC σ x on (cN σ 38) with | none => -1 | some j => nI j := flast_olast _ _
theorem c_X3_holdsOn (l : Launch) (hl : l.stackTraces = false) (G : gG) (S : sS) (ad : Nat → Nat → Nat) (σ : aS) (hC : RelC S ad σ)  (j : Nat) (hj : j < cN σ 38) (hO : IO σ) (on : Int32) : CtF l G yX3_holdsOn cX3_holdsOn 2 (Option.some FieldType.boolean) 1 0 0 [.ref (ad 3 j), .int on] S (some (.int (pI9 (σ.1 41 j ≤ on ∧ on ≤ σ.1 42 j)))) S := by
  refine Ct_of (by decide) (cat1_all (by repeat first | exact trivial | refine ⟨by first | rfl | exact isR_c (isR_q _), ?_⟩)) (Nat.le_of_ble_eq_true rfl) hl fun X C hXl hin => ?_
  subst hXl
  dsimp only [lArgs, Nat.reduceAdd]
  have ka : sK S (ad 3 j) = 4 := RelC_K hC 3 (by decide) hj
  have ia_302 : sI S 302 (ad 3 j) = σ.1 41 j := RelC_I hC 3 302 rfl (by unfold cFd; omega) rfl hj
  have ia_303 : sI S 303 (ad 3 j) = σ.1 42 j + 1 := RelC_I hC 3 303 rfl (by unfold cFd; omega) rfl hj
  have e := lt_succ32 (y := on) (hO j hj)
  have J : ∀ v : Int32, v = pI9 (σ.1 41 j ≤ on ∧ on ≤ σ.1 42 j) → V X G 2 (eQ X G (fun v T => v = some (.int (pI9 (σ.1 41 j ≤ on ∧ on ≤ σ.1 42 j))) ∧ T = S) (fun _ _ => False) 0 0) 0 0 21 [(0, false, .ref (ad 3 j)), (1, false, .int on)] [.int v] S := fun v hv => by
    subst hv
    refine V_zret C (pI9_nz _) (by first | omega | decide) (by first | omega | decide) dX3_holdsOn_21 ?_
    exact ⟨rfl, rfl⟩
  refine V_aload_n C dX3_holdsOn_0 rfl (by first | exact isR_r _ | exact isR_q _ | exact isR_n) ?_
  refine V_getIe C 3 2 rfl cf_3 fl_X3_16 (by decide) (by decide) dX3_holdsOn_1 (by assumption) (by assumption) ?_
  refine V_iload_n C dX3_holdsOn_4 rfl ?_
  refine V_icmp_gt C (tgt := 20) dX3_holdsOn_5 (by decide) (fun h5 => ?_) (fun h5 => ?_)
  · refine V_iconst C (v := 0) dX3_holdsOn_20 (by decide) ?_
    first | exact J _ (pI9_t ⟨Int32.not_lt.mp h5, e.mp (Int32.not_le.mp h13)⟩).symm | exact J _ (pI9_f (fun q => absurd q.1 (Int32.not_le.mpr h5))).symm | exact J _ (pI9_f (fun q => absurd (e.mpr q.2) (Int32.not_lt.mpr h13))).symm
  · refine V_iload_n C dX3_holdsOn_8 rfl ?_
    refine V_aload_n C dX3_holdsOn_9 rfl (by first | exact isR_r _ | exact isR_q _ | exact isR_n) ?_
    refine V_getIe C 3 3 rfl cf_3 fl_X3_19 (by decide) (by decide) dX3_holdsOn_10 (by assumption) (by assumption) ?_
    refine V_icmp_ge C (tgt := 20) dX3_holdsOn_13 (by decide) (fun h13 => ?_) (fun h13 => ?_)
    · refine V_iconst C (v := 0) dX3_holdsOn_20 (by decide) ?_
      first | exact J _ (pI9_t ⟨Int32.not_lt.mp h5, e.mp (Int32.not_le.mp h13)⟩).symm | exact J _ (pI9_f (fun q => absurd q.1 (Int32.not_le.mpr h5))).symm | exact J _ (pI9_f (fun q => absurd (e.mpr q.2) (Int32.not_lt.mpr h13))).symm
    · refine V_iconst C (v := 1) dX3_holdsOn_16 (by decide) ?_
      refine V_goto C (tgt := 21) dX3_holdsOn_17 (by decide) ?_
      first | exact J _ (pI9_t ⟨Int32.not_lt.mp h5, e.mp (Int32.not_le.mp h13)⟩).symm | exact J _ (pI9_f (fun q => absurd q.1 (Int32.not_le.mpr h5))).symm | exact J _ (pI9_f (fun q => absurd (e.mpr q.2) (Int32.not_lt.mpr h13))).symm
theorem c_X0_orderOn (l : Launch) (hl : l.stackTraces = false) (G : gG) (S : sS) (ad : Nat → Nat → Nat) (σ : aS) (hC : RelC S ad σ) (k : Nat) (hk : k < cN σ 1) (hO : IO σ) (on : Int32) : CtF l G yX0_orderOn cX0_orderOn 3 (Option.some (FieldType.object "FosterHouse$Order")) 2 0 0 [.ref (ad 0 k), .int on] S (some (va_rf ((ordC σ (nI k) on (cN σ 38)).map (ad 3)))) S := by
  refine Ct_of (by decide) (cat1_all (by repeat first | exact trivial | refine ⟨by first | rfl | exact isR_c (isR_q _), ?_⟩)) (Nat.le_of_ble_eq_true rfl) hl fun X C hXl hin => ?_
  subst hXl
  dsimp only [lArgs, Nat.reduceAdd]
  have kc : sK S (ad 0 k) = 1 := RelC_K hC 0 (by decide) hk
  have rc_10 : sR S 10 (ad 0 k) = (ordL σ (nI k) (cN σ 38)).map (ad 3) := RelC_R hC 0 10 rfl (by unfold cFd; omega) rfl hk
  have loop : ∀ (N n : Nat), n < N → n ≤ cN σ 38 → ordC σ (nI k) on (cN σ 38) = ordC σ (nI k) on n → ∀ o, o = (ordL σ (nI k) n).map (ad 3) → V X G 3 (eQ X G (fun v T => v = some (va_rf ((ordC σ (nI k) on (cN σ 38)).map (ad 3))) ∧ T = S) (fun _ _ => False) 0 0) 0 0 5 [(2, false, va_rf o), (0, false, .ref (ad 0 k)), (1, false, .int on)] [] S := by
    intro N
    induction N with
    | zero => intro n h; omega
    | succ N ih =>
      intro n hn hle e o ho
      cases q : ordL σ (nI k) n with
      | none =>
        rw [q] at ho
        have ho : o = none := ho
        have e2 := ordC_0 (on := on) q
        refine V_aload_n C dX0_orderOn_5 rfl (by first | exact isR_r _ | exact isR_q _ | exact isR_n) ?_
        dsimp only
        refine V_ifnull C (tgt := 25) dX0_orderOn_6 (by decide) (fun h6 => ?_) (fun a6 h6 => ?_)
        · refine V_aload_n C dX0_orderOn_25 rfl (by first | exact isR_r _ | exact isR_q _ | exact isR_n) ?_
          refine V_aret C (by first | exact Or.inl ⟨_, rfl⟩ | exact Or.inr ⟨_, rfl⟩) (by first | exact isR_r _ | exact isR_q _ | exact isR_n) (by first | omega | decide) (by first | omega | decide) dX0_orderOn_26 ?_
          rw [e, e2, ho]
          exact ⟨rfl, rfl⟩
        · cases h6.symm.trans ho
      | some j =>
        rw [q] at ho
        have ho : o = some (ad 3 j) := ho
        obtain ⟨hj, ej⟩ := ordL_s q
        have hj2 : j < cN σ 38 := by omega
        have ka : sK S (ad 3 j) = 4 := RelC_K hC 3 (by decide) hj2
        have ra_304 : sR S 304 (ad 3 j) = (ordL σ (σ.1 39 j) j).map (ad 3) := RelC_R hC 3 304 rfl (by unfold cFd; omega) rfl hj2
        rw [ej] at ra_304
        have F : σ.1 41 j ≤ on ∧ on ≤ σ.1 42 j → ordC σ (nI k) on (cN σ 38) = some j := fun z => e.trans (ordC_t q z)
        refine V_aload_n C dX0_orderOn_5 rfl (by first | exact isR_r _ | exact isR_q _ | exact isR_n) ?_
        dsimp only
        refine V_ifnull C (tgt := 25) dX0_orderOn_6 (by decide) (fun h6 => ?_) (fun a6 h6 => ?_)
        · cases h6.symm.trans ho
        · subst ho
          cases h6
          refine V_aload_n C dX0_orderOn_9 rfl (by first | exact isR_r _ | exact isR_q _ | exact isR_n) ?_
          refine V_iload_n C dX0_orderOn_10 rfl ?_
          refine V_fV C (c_X3_holdsOn _ hl G S ad σ hC j hj2 hO on) kv_X0_65 cf_3 (by decide) rfl (by assumption) (by decide) (by decide) rfl rfl (Nat.le_of_ble_eq_true rfl) dX0_orderOn_11 ?_
          dsimp only [Option.toList_some, Option.toList_none, List.cons_append, List.nil_append]
          refine V_if_ne C (tgt := 25) dX0_orderOn_14 (by decide) (fun h14 => ?_) (fun h14 => ?_)
          · have F2 := F (pI9_ne.mp h14)
            refine V_aload_n C dX0_orderOn_25 rfl (by first | exact isR_r _ | exact isR_q _ | exact isR_n) ?_
            refine V_aret C (by first | exact Or.inl ⟨_, rfl⟩ | exact Or.inr ⟨_, rfl⟩) (by first | exact isR_r _ | exact isR_q _ | exact isR_n) (by first | omega | decide) (by first | omega | decide) dX0_orderOn_26 ?_
            rw [F2]
            exact ⟨rfl, rfl⟩
          · have F2 := ordC_f q (pI9_z.mp h14)
            refine V_aload_n C dX0_orderOn_17 rfl (by first | exact isR_r _ | exact isR_q _ | exact isR_n) ?_
            refine V_getRe C 3 4 rfl cf_3 fl_X0_71 (by decide) (by decide) dX0_orderOn_18 (by assumption) (by assumption) ?_
            refine V_astore_n C dX0_orderOn_21 (by decide) (by first | exact isR_r _ | exact isR_q _ | exact isR_n) rfl ?_
            simp only [lset1, lset2, List.filter_cons, List.filter_nil, Nat.reduceBEq, Nat.reduceAdd, Bool.not_true, Bool.not_false, Bool.and_true, Bool.and_false, Bool.true_and, Bool.false_and, if_true, if_false, Bool.false_eq_true, reduceIte]
            refine V_goto C (tgt := 5) dX0_orderOn_22 (by decide) ?_
            refine V_sub ?_ (ih j (by omega) (by omega) (e.trans F2) ((ordL σ (nI k) j).map (ad 3)) rfl)
            exact ⟨rfl, rfl, rfl, trivial⟩
  refine V_aload_n C dX0_orderOn_0 rfl (by first | exact isR_r _ | exact isR_q _ | exact isR_n) ?_
  refine V_getRe C 0 10 rfl cf_0 fl_X0_61 (by decide) (by decide) dX0_orderOn_1 (by assumption) (by assumption) ?_
  refine V_astore_n C dX0_orderOn_4 (by decide) (by first | exact isR_r _ | exact isR_q _ | exact isR_n) rfl ?_
  simp only [lset1, lset2, List.filter_cons, List.filter_nil, Nat.reduceBEq, Nat.reduceAdd, Bool.not_true, Bool.not_false, Bool.and_true, Bool.and_false, Bool.true_and, Bool.false_and, if_true, if_false, Bool.false_eq_true, reduceIte]
  refine V_sub ?_ (loop (cN σ 38 + 1) (cN σ 38) (by omega) (Nat.le_refl _) rfl _ rfl)
  exact ⟨rfl, rfl, rfl, trivial⟩
theorem c_X0_orderNumberOn (l : Launch) (hl : l.stackTraces = false) (G : gG) (S : sS) (ad : Nat → Nat → Nat) (σ : aS) (hC : RelC S ad σ) (k : Nat) (hk : k < cN σ 1) (hO : IO σ) (h60 : cN σ 38 ≤ 60) (on : Int32) : CtF l G yX0_orderNumberOn cX0_orderNumberOn 3 (Option.some FieldType.int) 3 0 0 [.ref (ad 0 k), .int on] S (some (.int (mCounts σ (nI k) on))) S := by
  refine Ct_of (by decide) (cat1_all (by repeat first | exact trivial | refine ⟨by first | rfl | exact isR_c (isR_q _), ?_⟩)) (Nat.le_of_ble_eq_true rfl) hl fun X C hXl hin => ?_
  subst hXl
  dsimp only [lArgs, Nat.reduceAdd]
  have kc : sK S (ad 0 k) = 1 := RelC_K hC 0 (by decide) hk
  have eM := mCounts_C (σ := σ) (x := nI k) (on := on)
  have cc := c_X0_orderOn _ hl G S ad σ hC k hk hO on
  cases q : ordC σ (nI k) on (cN σ 38) with
  | none =>
    rw [q] at eM
    rw [q, Option.map_none] at cc
    refine V_aload_n C dX0_orderNumberOn_0 rfl (by first | exact isR_r _ | exact isR_q _ | exact isR_n) ?_
    refine V_iload_n C dX0_orderNumberOn_1 rfl ?_
    refine V_fV C (cc) kv_X0_74 cf_0 (by decide) rfl (by assumption) (by decide) (by decide) rfl rfl (Nat.le_of_ble_eq_true rfl) dX0_orderNumberOn_2 ?_
    dsimp only [Option.toList_some, Option.toList_none, List.cons_append, List.nil_append]
    refine V_astore_n C dX0_orderNumberOn_5 (by decide) (by first | exact isR_r _ | exact isR_q _ | exact isR_n) rfl ?_
    simp only [lset1, lset2, List.filter_cons, List.filter_nil, Nat.reduceBEq, Nat.reduceAdd, Bool.not_true, Bool.not_false, Bool.and_true, Bool.and_false, Bool.true_and, Bool.false_and, if_true, if_false, Bool.false_eq_true, reduceIte]
    refine V_aload_n C dX0_orderNumberOn_6 rfl (by first | exact isR_r _ | exact isR_q _ | exact isR_n) ?_
    dsimp only
    refine V_ifnonnull C (tgt := 14) dX0_orderNumberOn_7 (by decide) (fun a7 h7 => ?_) (fun h7 => ?_)
    · cases h7
    · refine V_iconst C (v := (-1)) dX0_orderNumberOn_10 (by decide) ?_
      refine V_goto C (tgt := 18) dX0_orderNumberOn_11 (by decide) ?_
      refine V_iret C (by first | omega | decide) (by first | omega | decide) dX0_orderNumberOn_18 ?_
      rw [eM]
      exact ⟨rfl, rfl⟩
  | some j =>
    rw [q] at eM
    rw [q, Option.map_some] at cc
    obtain ⟨hj, -⟩ := ordC_s q
    have ka : sK S (ad 3 j) = 4 := RelC_K hC 3 (by decide) hj
    have ia_300 : sI S 300 (ad 3 j) = nI j := RelC_I hC 3 300 rfl (by unfold cFd; omega) rfl hj
    refine V_aload_n C dX0_orderNumberOn_0 rfl (by first | exact isR_r _ | exact isR_q _ | exact isR_n) ?_
    refine V_iload_n C dX0_orderNumberOn_1 rfl ?_
    refine V_fV C (cc) kv_X0_74 cf_0 (by decide) rfl (by assumption) (by decide) (by decide) rfl rfl (Nat.le_of_ble_eq_true rfl) dX0_orderNumberOn_2 ?_
    dsimp only [Option.toList_some, Option.toList_none, List.cons_append, List.nil_append]
    refine V_astore_n C dX0_orderNumberOn_5 (by decide) (by first | exact isR_r _ | exact isR_q _ | exact isR_n) rfl ?_
    simp only [lset1, lset2, List.filter_cons, List.filter_nil, Nat.reduceBEq, Nat.reduceAdd, Bool.not_true, Bool.not_false, Bool.and_true, Bool.and_false, Bool.true_and, Bool.false_and, if_true, if_false, Bool.false_eq_true, reduceIte]
    refine V_aload_n C dX0_orderNumberOn_6 rfl (by first | exact isR_r _ | exact isR_q _ | exact isR_n) ?_
    dsimp only
    refine V_ifnonnull C (tgt := 14) dX0_orderNumberOn_7 (by decide) (fun a7 h7 => ?_) (fun h7 => ?_)
    · cases h7
      refine V_aload_n C dX0_orderNumberOn_14 rfl (by first | exact isR_r _ | exact isR_q _ | exact isR_n) ?_
      refine V_getIe C 3 0 rfl cf_3 fl_X0_78 (by decide) (by decide) dX0_orderNumberOn_15 (by assumption) (by assumption) ?_
      refine V_iret C (by first | omega | decide) (by first | omega | decide) dX0_orderNumberOn_18 ?_
      rw [eM]
      exact ⟨rfl, rfl⟩
    · cases h7
theorem c_X0_orderKindOn (l : Launch) (hl : l.stackTraces = false) (G : gG) (S : sS) (ad : Nat → Nat → Nat) (σ : aS) (hC : RelC S ad σ) (k : Nat) (hk : k < cN σ 1) (hO : IO σ) (h60 : cN σ 38 ≤ 60) (on : Int32) : CtF l G yX0_orderKindOn cX0_orderKindOn 3 (Option.some FieldType.int) 3 0 0 [.ref (ad 0 k), .int on] S (some (.int (mKindOn σ (nI k) on))) S := by
  refine Ct_of (by decide) (cat1_all (by repeat first | exact trivial | refine ⟨by first | rfl | exact isR_c (isR_q _), ?_⟩)) (Nat.le_of_ble_eq_true rfl) hl fun X C hXl hin => ?_
  subst hXl
  dsimp only [lArgs, Nat.reduceAdd]
  have kc : sK S (ad 0 k) = 1 := RelC_K hC 0 (by decide) hk
  have eM := mCounts_C (σ := σ) (x := nI k) (on := on)
  have cc := c_X0_orderOn _ hl G S ad σ hC k hk hO on
  cases q : ordC σ (nI k) on (cN σ 38) with
  | none =>
    rw [q] at eM
    rw [q, Option.map_none] at cc
    refine V_aload_n C dX0_orderKindOn_0 rfl (by first | exact isR_r _ | exact isR_q _ | exact isR_n) ?_
    refine V_iload_n C dX0_orderKindOn_1 rfl ?_
    refine V_fV C (cc) kv_X0_74 cf_0 (by decide) rfl (by assumption) (by decide) (by decide) rfl rfl (Nat.le_of_ble_eq_true rfl) dX0_orderKindOn_2 ?_
    dsimp only [Option.toList_some, Option.toList_none, List.cons_append, List.nil_append]
    refine V_astore_n C dX0_orderKindOn_5 (by decide) (by first | exact isR_r _ | exact isR_q _ | exact isR_n) rfl ?_
    simp only [lset1, lset2, List.filter_cons, List.filter_nil, Nat.reduceBEq, Nat.reduceAdd, Bool.not_true, Bool.not_false, Bool.and_true, Bool.and_false, Bool.true_and, Bool.false_and, if_true, if_false, Bool.false_eq_true, reduceIte]
    refine V_aload_n C dX0_orderKindOn_6 rfl (by first | exact isR_r _ | exact isR_q _ | exact isR_n) ?_
    dsimp only
    refine V_ifnonnull C (tgt := 14) dX0_orderKindOn_7 (by decide) (fun a7 h7 => ?_) (fun h7 => ?_)
    · cases h7
    · refine V_iconst C (v := (-1)) dX0_orderKindOn_10 (by decide) ?_
      refine V_goto C (tgt := 18) dX0_orderKindOn_11 (by decide) ?_
      refine V_iret C (by first | omega | decide) (by first | omega | decide) dX0_orderKindOn_18 ?_
      unfold mKindOn
      rw [if_pos eM]
      exact ⟨rfl, rfl⟩
  | some j =>
    rw [q] at eM
    rw [q, Option.map_some] at cc
    obtain ⟨hj, -⟩ := ordC_s q
    have ka : sK S (ad 3 j) = 4 := RelC_K hC 3 (by decide) hj
    have ia_301 : sI S 301 (ad 3 j) = σ.1 40 j := RelC_I hC 3 301 rfl (by unfold cFd; omega) rfl hj
    refine V_aload_n C dX0_orderKindOn_0 rfl (by first | exact isR_r _ | exact isR_q _ | exact isR_n) ?_
    refine V_iload_n C dX0_orderKindOn_1 rfl ?_
    refine V_fV C (cc) kv_X0_74 cf_0 (by decide) rfl (by assumption) (by decide) (by decide) rfl rfl (Nat.le_of_ble_eq_true rfl) dX0_orderKindOn_2 ?_
    dsimp only [Option.toList_some, Option.toList_none, List.cons_append, List.nil_append]
    refine V_astore_n C dX0_orderKindOn_5 (by decide) (by first | exact isR_r _ | exact isR_q _ | exact isR_n) rfl ?_
    simp only [lset1, lset2, List.filter_cons, List.filter_nil, Nat.reduceBEq, Nat.reduceAdd, Bool.not_true, Bool.not_false, Bool.and_true, Bool.and_false, Bool.true_and, Bool.false_and, if_true, if_false, Bool.false_eq_true, reduceIte]
    refine V_aload_n C dX0_orderKindOn_6 rfl (by first | exact isR_r _ | exact isR_q _ | exact isR_n) ?_
    dsimp only
    refine V_ifnonnull C (tgt := 14) dX0_orderKindOn_7 (by decide) (fun a7 h7 => ?_) (fun h7 => ?_)
    · cases h7
      refine V_aload_n C dX0_orderKindOn_14 rfl (by first | exact isR_r _ | exact isR_q _ | exact isR_n) ?_
      refine V_getIe C 3 1 rfl cf_3 fl_X0_79 (by decide) (by decide) dX0_orderKindOn_15 (by assumption) (by assumption) ?_
      refine V_iret C (by first | omega | decide) (by first | omega | decide) dX0_orderKindOn_18 ?_
      unfold mKindOn
      rw [show mCounts σ (nI k) on = nI j from eM, if_neg (nI_ne_m1 (by omega)), nI_clamp (by omega)]
      exact ⟨rfl, rfl⟩
    · cases h7

