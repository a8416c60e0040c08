/-! THE CLASS: reports. -/
theorem rMrg_le (σ : aS) (k : Nat) : ∀ i, (rMrg σ k i).1 ≤ i
  | 0 => Nat.le_refl _
  | i + 1 => by
    have h := rMrg_le σ k i
    show (rTell (rMrg σ k i) _ _ _).1 ≤ i + 1
    unfold rTell
    split
    · exact Nat.le_succ_of_le h
    · exact Nat.succ_le_succ h
def rAll (σ : aS) (k : Nat) : rS := rMrg σ k (rN σ k)
def rSumT (R : rS) (day : Int32) (r : Nat) : Int32 := if day - 30 < R.2.1 r then R.2.2.2 r else 0
def rSum (R : rS) (day : Int32) : Int32 := fsum (rSumT R day) R.1
def rSeeF (R : rS) (day seen : Int32) : Nat → Nat → Int32
  | 0, _ => -1
  | t + 1, r => if day - 30 < R.2.1 r ∧ seen < R.2.1 r then R.2.1 r + daysTo (rSum R day) else rSeeF R day seen t (r + 1)
theorem rSeeF_s {R : rS} {day seen : Int32} {t r : Nat} : rSeeF R day seen (t + 1) r = if day - 30 < R.2.1 r ∧ seen < R.2.1 r then R.2.1 r + daysTo (rSum R day) else rSeeF R day seen t (r + 1) := rfl
def rSee (R : rS) (day seen : Int32) : Int32 := rSeeF R day seen R.1 0
theorem c_X5_daysToSee (l : Launch) (hl : l.stackTraces = false) (G : gG) (S : sS) (v : Int32) : CtF l G yX5_daysToSee cX5_daysToSee 1 (Option.some FieldType.int) 1 0 0 [.int v] S (some (.int (daysTo v))) S := by
  refine Ct_of (by decide) (cat1_all (by repeat first | exact trivial | refine ⟨by first | rfl | exact isR_c (isR_q _), ?_⟩)) (Nat.le_of_ble_eq_true rfl) hl fun X C hXl hin => ?_
  subst hXl
  dsimp only [lArgs, Nat.reduceAdd]
  refine V_iload_n C dX5_daysToSee_0 rfl ?_
  refine V_bipush C (v := 12) dX5_daysToSee_1 (by decide) ?_
  refine V_icmp_lt C (tgt := 8) dX5_daysToSee_3 (by decide) (fun h3 => ?_) (fun h3 => ?_)
  · have T1 : daysTo v = if 6 ≤ v then 5 else 20 := if_neg (Int32.not_le.mpr h3)
    refine V_iload_n C dX5_daysToSee_8 rfl ?_
    refine V_bipush C (v := 6) dX5_daysToSee_9 (by decide) ?_
    refine V_icmp_lt C (tgt := 18) dX5_daysToSee_11 (by decide) (fun h11 => ?_) (fun h11 => ?_)
    · have T0 := T1.trans (if_neg (Int32.not_le.mpr h11))
      refine V_bipush C (v := 20) dX5_daysToSee_18 (by decide) ?_
      refine V_iret C (by first | omega | decide) (by first | omega | decide) dX5_daysToSee_20 ?_
      rw [T0]
      exact ⟨rfl, rfl⟩
    · have T0 := T1.trans (if_pos (Int32.not_lt.mp h11))
      refine V_iconst C (v := 5) dX5_daysToSee_14 (by decide) ?_
      refine V_goto C (tgt := 20) dX5_daysToSee_15 (by decide) ?_
      refine V_iret C (by first | omega | decide) (by first | omega | decide) dX5_daysToSee_20 ?_
      rw [T0]
      exact ⟨rfl, rfl⟩
  · have T0 : daysTo v = 1 := if_pos (Int32.not_lt.mp h3)
    refine V_iconst C (v := 1) dX5_daysToSee_6 (by decide) ?_
    refine V_iret C (by first | omega | decide) (by first | omega | decide) dX5_daysToSee_7 ?_
    rw [T0]
    exact ⟨rfl, rfl⟩
theorem c_X5_sumOn (l : Launch) (hl : l.stackTraces = false) (G : gG) (S : sS) (ad : Nat → Nat → Nat) (σ : aS) (hC : RelC S ad σ) (hI : IC σ) (k : Nat) (hk : k < cN σ 1) (day : Int32) : CtF l G yX5_sumOn cX5_sumOn 4 (Option.some FieldType.int) 1 0 0 [.ref (ad 5 k), .int day] S (some (.int (rSum (rAll σ k) day))) S := by
  refine Ct_of (by decide) (cat1_all (by repeat first | exact trivial | refine ⟨by first | rfl | exact isR_c (isR_q _), ?_⟩)) (Nat.le_of_ble_eq_true rfl) hl fun X C hXl hin => ?_
  subst hXl
  dsimp only [lArgs, Nat.reduceAdd]
  have kr : sK S (ad 5 k) = 6 := RelC_K hC 5 (by decide) hk
  have rr_500 : sR S 500 (ad 5 k) = some (ad 12 k) := RelC_R hC 5 500 rfl (by unfold cFd; omega) rfl hk
  have rr_502 : sR S 502 (ad 5 k) = some (ad 14 k) := RelC_R hC 5 502 rfl (by unfold cFd; omega) rfl hk
  have ir_503 : sI S 503 (ad 5 k) = nI (rMrg σ k (rN σ k)).1 := RelC_I hC 5 503 rfl (by unfold cFd; omega) rfl hk
  have ir_505 : sI S 505 (ad 5 k) = σ.1 9 k := RelC_I hC 5 505 rfl (by unfold cFd; omega) rfl hk
  have kD : sK S (ad 12 k) = 121 := hC.1 12 k (by decide) (by decide) (by decide) hk
  have lD : sL S (ad 12 k) = 30 := hC.2.2.2.2.1 12 k (by decide) (by decide) hk
  have aD : sA S (ad 12 k) = (rAll σ k).2.1 := (hC.2.2.2.2.2.1 k hk).2.1
  have kW : sK S (ad 14 k) = 141 := hC.1 14 k (by decide) (by decide) (by decide) hk
  have lW : sL S (ad 14 k) = 30 := hC.2.2.2.2.1 14 k (by decide) (by decide) hk
  have aW : sA S (ad 14 k) = (rAll σ k).2.2.2 := (hC.2.2.2.2.2.1 k hk).2.2.2
  obtain ⟨n, hn⟩ : ∃ n, n = (rAll σ k).1 := ⟨_, rfl⟩
  have hn30 : n ≤ 30 := by
    have h1 := rMrg_le σ k (rN σ k)
    have h2 : (rAll σ k).1 ≤ rN σ k := h1
    have h3 := (hI.2.2.2.2.2.2.1 k (by have := hI.2.1.2; omega)).2
    omega
  have ir_503 : sI S 503 (ad 5 k) = nI n := by rw [hn]; exact ir_503
  have loop : ∀ (t i : Nat), i + t = n → V X G 4 (eQ X G (fun v T => v = some (.int (rSum (rAll σ k) day)) ∧ T = S) (fun _ _ => False) 0 0) 0 0 4 [(3, false, .int (nI i)), (2, false, .int (fsum (rSumT (rAll σ k) day) i)), (0, false, .ref (ad 5 k)), (1, false, .int day)] [] S := by
    intro t
    induction t with
    | zero =>
      intro i hi
      obtain rfl : i = n := by omega
      refine V_iload_n C dX5_sumOn_4 rfl ?_
      refine V_aload_n C dX5_sumOn_5 rfl (by first | exact isR_r _ | exact isR_q _ | exact isR_n) ?_
      refine V_getIe C 5 3 rfl cf_5 fl_X5_28 (by decide) (by decide) dX5_sumOn_6 kr ir_503 ?_
      refine V_igeN C (tgt := 46) (by omega) (by omega) dX5_sumOn_9 (by decide) (fun h9 => ?_) (fun h9 => ?_)
      · refine V_iload_n C dX5_sumOn_46 rfl ?_
        refine V_iret C (by first | omega | decide) (by first | omega | decide) dX5_sumOn_47 ?_
        rw [hn]
        exact ⟨rfl, rfl⟩
      · omega
    | succ t ih =>
      intro i hi
      have hi30 : i < 30 := by omega
      have S9 : fsum (rSumT (rAll σ k) day) (i + 1) = fsum (rSumT (rAll σ k) day) i + rSumT (rAll σ k) day i := rfl
      refine V_iload_n C dX5_sumOn_4 rfl ?_
      refine V_aload_n C dX5_sumOn_5 rfl (by first | exact isR_r _ | exact isR_q _ | exact isR_n) ?_
      refine V_getIe C 5 3 rfl cf_5 fl_X5_28 (by decide) (by decide) dX5_sumOn_6 kr ir_503 ?_
      refine V_igeN C (tgt := 46) (by omega) (by omega) dX5_sumOn_9 (by decide) (fun h9 => ?_) (fun h9 => ?_)
      · omega
      · refine V_iload_n C dX5_sumOn_12 rfl ?_
        refine V_bipush C (v := 30) dX5_sumOn_13 (by decide) ?_
        rw [show (30 : Int32) = nI 30 from rfl]
        refine V_igeN C (tgt := 46) (by omega) (by omega) dX5_sumOn_15 (by decide) (fun h15 => ?_) (fun h15 => ?_)
        · omega
        · refine V_aload_n C dX5_sumOn_18 rfl (by first | exact isR_r _ | exact isR_q _ | exact isR_n) ?_
          refine V_getS C 5 0 rfl cf_5 fl_X5_9 (by decide) (by decide) dX5_sumOn_19 kr rr_500 ?_
          refine V_iload_n C dX5_sumOn_22 rfl ?_
          refine V_ialdE C kD (by decide) lD aD (by omega) (by decide) dX5_sumOn_23 ?_
          refine V_iload_n C dX5_sumOn_24 rfl ?_
          refine V_bipush C (v := 30) dX5_sumOn_25 (by decide) ?_
          refine V_isub C dX5_sumOn_27 ?_
          refine V_icmp_le C (tgt := 40) dX5_sumOn_28 (by decide) (fun h28 => ?_) (fun h28 => ?_)
          · have T0 := S9.trans (congrArg _ (if_neg (Int32.not_lt.mpr h28)))
            rw [Int32.add_zero] at T0
            refine V_incN C dX5_sumOn_40 rfl (by decide) rfl ?_
            simp only [lset1, lset2, List.filter_cons, List.filter_nil, Nat.reduceBEq, Nat.reduceAdd, Bool.not_true, Bool.not_false, Bool.and_true, Bool.and_false, Bool.true_and, Bool.false_and, if_true, if_false, Bool.false_eq_true, reduceIte]
            refine V_goto C (tgt := 4) dX5_sumOn_43 (by decide) ?_
            refine V_sub ?_ (ih (i + 1) (by omega))
            rw [T0]
            exact ⟨rfl, rfl, rfl, rfl, trivial⟩
          · have T0 := S9.trans (congrArg _ (if_pos (Int32.not_le.mp h28)))
            refine V_iload_n C dX5_sumOn_31 rfl ?_
            refine V_aload_n C dX5_sumOn_32 rfl (by first | exact isR_r _ | exact isR_q _ | exact isR_n) ?_
            refine V_getS C 5 2 rfl cf_5 fl_X5_18 (by decide) (by decide) dX5_sumOn_33 kr rr_502 ?_
            refine V_iload_n C dX5_sumOn_36 rfl ?_
            refine V_ialdE C kW (by decide) lW aW (by omega) (by decide) dX5_sumOn_37 ?_
            refine V_iadd C dX5_sumOn_38 ?_
            refine V_istore_n C dX5_sumOn_39 (by decide) rfl ?_
            simp only [lset1, lset2, List.filter_cons, List.filter_nil, Nat.reduceBEq, Nat.reduceAdd, Bool.not_true, Bool.not_false, Bool.and_true, Bool.and_false, Bool.true_and, Bool.false_and, if_true, if_false, Bool.false_eq_true, reduceIte]
            refine V_incN C dX5_sumOn_40 rfl (by decide) rfl ?_
            simp only [lset1, lset2, List.filter_cons, List.filter_nil, Nat.reduceBEq, Nat.reduceAdd, Bool.not_true, Bool.not_false, Bool.and_true, Bool.and_false, Bool.true_and, Bool.false_and, if_true, if_false, Bool.false_eq_true, reduceIte]
            refine V_goto C (tgt := 4) dX5_sumOn_43 (by decide) ?_
            refine V_sub ?_ (ih (i + 1) (by omega))
            rw [T0]
            exact ⟨rfl, rfl, rfl, rfl, trivial⟩
  refine V_iconst C (v := 0) dX5_sumOn_0 (by decide) ?_
  refine V_istore_n C dX5_sumOn_1 (by decide) rfl ?_
  simp only [lset1, lset2, List.filter_cons, List.filter_nil, Nat.reduceBEq, Nat.reduceAdd, Bool.not_true, Bool.not_false, Bool.and_true, Bool.and_false, Bool.true_and, Bool.false_and, if_true, if_false, Bool.false_eq_true, reduceIte]
  refine V_iconst C (v := 0) dX5_sumOn_2 (by decide) ?_
  refine V_istore_n C dX5_sumOn_3 (by decide) rfl ?_
  simp only [lset1, lset2, List.filter_cons, List.filter_nil, Nat.reduceBEq, Nat.reduceAdd, Bool.not_true, Bool.not_false, Bool.and_true, Bool.and_false, Bool.true_and, Bool.false_and, if_true, if_false, Bool.false_eq_true, reduceIte]
  refine V_sub ?_ (loop n 0 (by omega))
  exact ⟨rfl, rfl, rfl, rfl, trivial⟩
theorem c_X5_dayToSeeBy (l : Launch) (hl : l.stackTraces = false) (G : gG) (S : sS) (ad : Nat → Nat → Nat) (σ : aS) (hC : RelC S ad σ) (hI : IC σ) (k : Nat) (hk : k < cN σ 1) (day : Int32) : CtF l G yX5_dayToSeeBy cX5_dayToSeeBy 3 (Option.some FieldType.int) 2 0 0 [.ref (ad 5 k), .int day] S (some (.int (rSee (rAll σ k) day (σ.1 9 k)))) S := by
  refine Ct_of (by decide) (cat1_all (by repeat first | exact trivial | refine ⟨by first | rfl | exact isR_c (isR_q _), ?_⟩)) (Nat.le_of_ble_eq_true rfl) hl fun X C hXl hin => ?_
  subst hXl
  dsimp only [lArgs, Nat.reduceAdd]
  have kr : sK S (ad 5 k) = 6 := RelC_K hC 5 (by decide) hk
  have rr_500 : sR S 500 (ad 5 k) = some (ad 12 k) := RelC_R hC 5 500 rfl (by unfold cFd; omega) rfl hk
  have rr_502 : sR S 502 (ad 5 k) = some (ad 14 k) := RelC_R hC 5 502 rfl (by unfold cFd; omega) rfl hk
  have ir_503 : sI S 503 (ad 5 k) = nI (rMrg σ k (rN σ k)).1 := RelC_I hC 5 503 rfl (by unfold cFd; omega) rfl hk
  have ir_505 : sI S 505 (ad 5 k) = σ.1 9 k := RelC_I hC 5 505 rfl (by unfold cFd; omega) rfl hk
  have kD : sK S (ad 12 k) = 121 := hC.1 12 k (by decide) (by decide) (by decide) hk
  have lD : sL S (ad 12 k) = 30 := hC.2.2.2.2.1 12 k (by decide) (by decide) hk
  have aD : sA S (ad 12 k) = (rAll σ k).2.1 := (hC.2.2.2.2.2.1 k hk).2.1
  have kW : sK S (ad 14 k) = 141 := hC.1 14 k (by decide) (by decide) (by decide) hk
  have lW : sL S (ad 14 k) = 30 := hC.2.2.2.2.1 14 k (by decide) (by decide) hk
  have aW : sA S (ad 14 k) = (rAll σ k).2.2.2 := (hC.2.2.2.2.2.1 k hk).2.2.2
  obtain ⟨n, hn⟩ : ∃ n, n = (rAll σ k).1 := ⟨_, rfl⟩
  have hn30 : n ≤ 30 := by
    have h1 := rMrg_le σ k (rN σ k)
    have h2 : (rAll σ k).1 ≤ rN σ k := h1
    have h3 := (hI.2.2.2.2.2.2.1 k (by have := hI.2.1.2; omega)).2
    omega
  have ir_503 : sI S 503 (ad 5 k) = nI n := by rw [hn]; exact ir_503
  have loop : ∀ (t i : Nat), i + t = n → rSee (rAll σ k) day (σ.1 9 k) = rSeeF (rAll σ k) day (σ.1 9 k) t i → V X G 3 (eQ X G (fun v T => v = some (.int (rSee (rAll σ k) day (σ.1 9 k))) ∧ T = S) (fun _ _ => False) 0 0) 0 0 2 [(2, false, .int (nI i)), (0, false, .ref (ad 5 k)), (1, false, .int day)] [] S := by
    intro t
    induction t with
    | zero =>
      intro i hi e
      obtain rfl : i = n := by omega
      refine V_iload_n C dX5_dayToSeeBy_2 rfl ?_
      refine V_aload_n C dX5_dayToSeeBy_3 rfl (by first | exact isR_r _ | exact isR_q _ | exact isR_n) ?_
      refine V_getIe C 5 3 rfl cf_5 fl_X5_28 (by decide) (by decide) dX5_dayToSeeBy_4 kr ir_503 ?_
      refine V_igeN C (tgt := 64) (by omega) (by omega) dX5_dayToSeeBy_7 (by decide) (fun h7 => ?_) (fun h7 => ?_)
      · refine V_iconst C (v := (-1)) dX5_dayToSeeBy_64 (by decide) ?_
        refine V_iret C (by first | omega | decide) (by first | omega | decide) dX5_dayToSeeBy_65 ?_
        rw [e]
        exact ⟨rfl, rfl⟩
      · omega
    | succ t ih =>
      intro i hi e
      have hi30 : i < 30 := by omega
      have e := e.trans rSeeF_s
      refine V_iload_n C dX5_dayToSeeBy_2 rfl ?_
      refine V_aload_n C dX5_dayToSeeBy_3 rfl (by first | exact isR_r _ | exact isR_q _ | exact isR_n) ?_
      refine V_getIe C 5 3 rfl cf_5 fl_X5_28 (by decide) (by decide) dX5_dayToSeeBy_4 kr ir_503 ?_
      refine V_igeN C (tgt := 64) (by omega) (by omega) dX5_dayToSeeBy_7 (by decide) (fun h7 => ?_) (fun h7 => ?_)
      · omega
      · refine V_iload_n C dX5_dayToSeeBy_10 rfl ?_
        refine V_bipush C (v := 30) dX5_dayToSeeBy_11 (by decide) ?_
        rw [show (30 : Int32) = nI 30 from rfl]
        refine V_igeN C (tgt := 64) (by omega) (by omega) dX5_dayToSeeBy_13 (by decide) (fun h13 => ?_) (fun h13 => ?_)
        · omega
        · refine V_aload_n C dX5_dayToSeeBy_16 rfl (by first | exact isR_r _ | exact isR_q _ | exact isR_n) ?_
          refine V_getS C 5 0 rfl cf_5 fl_X5_9 (by decide) (by decide) dX5_dayToSeeBy_17 kr rr_500 ?_
          refine V_iload_n C dX5_dayToSeeBy_20 rfl ?_
          refine V_ialdE C kD (by decide) lD aD (by omega) (by decide) dX5_dayToSeeBy_21 ?_
          refine V_iload_n C dX5_dayToSeeBy_22 rfl ?_
          refine V_bipush C (v := 30) dX5_dayToSeeBy_23 (by decide) ?_
          refine V_isub C dX5_dayToSeeBy_25 ?_
          refine V_icmp_le C (tgt := 58) dX5_dayToSeeBy_26 (by decide) (fun h26 => ?_) (fun h26 => ?_)
          · have e := e.trans (if_neg (fun q => absurd q.1 (Int32.not_lt.mpr h26)))
            refine V_incN C dX5_dayToSeeBy_58 rfl (by decide) rfl ?_
            simp only [lset1, lset2, List.filter_cons, List.filter_nil, Nat.reduceBEq, Nat.reduceAdd, Bool.not_true, Bool.not_false, Bool.and_true, Bool.and_false, Bool.true_and, Bool.false_and, if_true, if_false, Bool.false_eq_true, reduceIte]
            refine V_goto C (tgt := 2) dX5_dayToSeeBy_61 (by decide) ?_
            refine V_sub ?_ (ih (i + 1) (by omega) e)
            exact ⟨rfl, rfl, rfl, trivial⟩
          · refine V_aload_n C dX5_dayToSeeBy_29 rfl (by first | exact isR_r _ | exact isR_q _ | exact isR_n) ?_
            refine V_getS C 5 0 rfl cf_5 fl_X5_9 (by decide) (by decide) dX5_dayToSeeBy_30 kr rr_500 ?_
            refine V_iload_n C dX5_dayToSeeBy_33 rfl ?_
            refine V_ialdE C kD (by decide) lD aD (by omega) (by decide) dX5_dayToSeeBy_34 ?_
            refine V_aload_n C dX5_dayToSeeBy_35 rfl (by first | exact isR_r _ | exact isR_q _ | exact isR_n) ?_
            refine V_getIe C 5 5 rfl cf_5 fl_X5_21 (by decide) (by decide) dX5_dayToSeeBy_36 kr ir_505 ?_
            refine V_icmp_le C (tgt := 58) dX5_dayToSeeBy_39 (by decide) (fun h39 => ?_) (fun h39 => ?_)
            · have e := e.trans (if_neg (fun q => absurd q.2 (Int32.not_lt.mpr h39)))
              refine V_incN C dX5_dayToSeeBy_58 rfl (by decide) rfl ?_
              simp only [lset1, lset2, List.filter_cons, List.filter_nil, Nat.reduceBEq, Nat.reduceAdd, Bool.not_true, Bool.not_false, Bool.and_true, Bool.and_false, Bool.true_and, Bool.false_and, if_true, if_false, Bool.false_eq_true, reduceIte]
              refine V_goto C (tgt := 2) dX5_dayToSeeBy_61 (by decide) ?_
              refine V_sub ?_ (ih (i + 1) (by omega) e)
              exact ⟨rfl, rfl, rfl, trivial⟩
            · have e := e.trans (if_pos ⟨Int32.not_le.mp h26, Int32.not_le.mp h39⟩)
              refine V_aload_n C dX5_dayToSeeBy_42 rfl (by first | exact isR_r _ | exact isR_q _ | exact isR_n) ?_
              refine V_getS C 5 0 rfl cf_5 fl_X5_9 (by decide) (by decide) dX5_dayToSeeBy_43 kr rr_500 ?_
              refine V_iload_n C dX5_dayToSeeBy_46 rfl ?_
              refine V_ialdE C kD (by decide) lD aD (by omega) (by decide) dX5_dayToSeeBy_47 ?_
              refine V_aload_n C dX5_dayToSeeBy_48 rfl (by first | exact isR_r _ | exact isR_q _ | exact isR_n) ?_
              refine V_iload_n C dX5_dayToSeeBy_49 rfl ?_
              refine V_fV C (c_X5_sumOn _ hl G S ad σ hC hI k hk day) kv_X5_37 cf_5 (by decide) rfl kr (by decide) (by decide) rfl rfl (Nat.le_of_ble_eq_true rfl) dX5_dayToSeeBy_50 ?_
              dsimp only [Option.toList_some, Option.toList_none, List.cons_append, List.nil_append]
              refine V_fS C (c_X5_daysToSee _ hl G S _) ks_X5_41 (by decide) (by decide) rfl rfl (Nat.le_of_ble_eq_true rfl) dX5_dayToSeeBy_53 ?_
              dsimp only [Option.toList_some, Option.toList_none, List.cons_append, List.nil_append]
              refine V_iadd C dX5_dayToSeeBy_56 ?_
              refine V_iret C (by first | omega | decide) (by first | omega | decide) dX5_dayToSeeBy_57 ?_
              rw [e]
              exact ⟨rfl, rfl⟩
  refine V_iconst C (v := 0) dX5_dayToSeeBy_0 (by decide) ?_
  refine V_istore_n C dX5_dayToSeeBy_1 (by decide) rfl ?_
  simp only [lset1, lset2, List.filter_cons, List.filter_nil, Nat.reduceBEq, Nat.reduceAdd, Bool.not_true, Bool.not_false, Bool.and_true, Bool.and_false, Bool.true_and, Bool.false_and, if_true, if_false, Bool.false_eq_true, reduceIte]
  refine V_sub ?_ (loop n 0 (by omega) (by rw [hn]; rfl))
  exact ⟨rfl, rfl, rfl, trivial⟩

