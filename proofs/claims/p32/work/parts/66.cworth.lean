/-! THE CLASS: what bars a placing today; the worth of a home. -/
theorem mWhyOn_pos {σ : aS} {k : Nat} {h on : Int32} (q : ¬ mWhyOn σ k h on = 0) : 0 < mWhyOn σ k h on := by
  unfold mWhyOn at q ⊢
  by_cases h1 : ¬ mKindOn σ (nI k) on = 0
  · rw [if_pos h1]; decide
  · rw [if_neg h1] at q ⊢
    by_cases h2 : mToldOn σ h 0 on = -1 ∨ σ.1 33 (mToldOn σ h 0 on).toNatClampNeg < on
    · rw [if_pos h2]; decide
    · rw [if_neg h2] at q ⊢
      by_cases h3 : ¬ (σ.1 31 (mToldOn σ h 0 on).toNatClampNeg ≤ mYears σ k on ∧ mYears σ k on ≤ σ.1 32 (mToldOn σ h 0 on).toNatClampNeg)
      · rw [if_pos h3]; decide
      · rw [if_neg h3] at q ⊢
        by_cases h4 : ¬ σ.1 4 k &&& (mCan σ h on ^^^ (-1)) = 0
        · rw [if_pos h4]; decide
        · rw [if_neg h4] at q ⊢
          by_cases h5 : ¬ mToldOn σ h 2 on = -1 ∧ (σ.1 31 (mToldOn σ h 2 on).toNatClampNeg ≤ on ∧ on ≤ σ.1 33 (mToldOn σ h 2 on).toNatClampNeg)
          · rw [if_pos h5]; decide
          · rw [if_neg h5] at q; exact absurd rfl q
theorem ad_ch {S : sS} {ad : Nat → Nat → Nat} {σ : aS} (hC : RelC S ad σ) (hI : IC σ) {k : Nat} (hk : k < cN σ 1) : ∀ i, i < cN σ 1 → (some (ad 0 i) = some (ad 0 k) ↔ nI i = nI k) := by
  intro i hi
  have := hI.2.1.2
  constructor
  · intro q
    rw [hC.2.1 0 i k (by decide) (by decide) (by decide) hi hk (Option.some.inj q)]
  · intro q
    have q2 := congrArg nx q
    rw [nx_nI (j := i) (by omega), nx_nI (j := k) (by omega)] at q2
    rw [q2]
theorem c_X8_barToday (l : Launch) (hl : l.stackTraces = false) (G : gG) (S : sS) (ad : Nat → Nat → Nat) (σ : aS) (hC : RelC S ad σ) (hI : IC σ) (hO : IO σ) (hS : IS σ) (k : Nat) (hk : k < cN σ 1) (hh : Nat) (hhk : hh < cN σ 20) : CtF l G yX8_barToday cX8_barToday 4 (Option.some FieldType.int) 5 0 0 [.ref (ad 8 0), .ref (ad 0 k), .ref (ad 2 hh)] S (some (.int (mWhyNot σ k hh))) S := by
  refine Ct_of (by decide) (cat1_all (by repeat first | exact trivial | refine ⟨by first | rfl | exact isR_c (isR_q _), ?_⟩)) (Nat.le_of_ble_eq_true rfl) hl fun X C hXl hin => ?_
  subst hXl
  dsimp only [lArgs, Nat.reduceAdd]
  have hh10 : hh < 10 := by have := hI.2.2.1.2; omega
  have kx : sK S (ad 8 0) = 9 := RelC_K hC 8 (by decide) rfl
  have ix_808 : sI S 808 (ad 8 0) = σ.2 0 := RelC_I hC 8 808 rfl (by unfold cFd; omega) rfl rfl
  have kh : sK S (ad 2 hh) = 3 := RelC_K hC 2 (by decide) hhk
  have ih_200 : sI S 200 (ad 2 hh) = nI hh := RelC_I hC 2 200 rfl (by unfold cFd; omega) rfl hhk
  have ih_203 : sI S 203 (ad 2 hh) = σ.1 23 hh := RelC_I hC 2 203 rfl (by unfold cFd; omega) rfl hhk
  have kc : sK S (ad 0 k) = 1 := RelC_K hC 0 (by decide) hk
  have W : mWhyNot σ k hh = if 0 < mWhyOn σ k (nI hh) (σ.2 0) then mWhyOn σ k (nI hh) (σ.2 0) else if σ.1 23 hh ≤ mOthers σ (nI k) (nI hh) then 6 else if σ.1 19 (10 * k + hh) = 3 then 7 else 0 := rfl
  refine V_aload_n C dX8_barToday_0 rfl (by first | exact isR_r _ | exact isR_q _ | exact isR_n) ?_
  refine V_aload_n C dX8_barToday_1 rfl (by first | exact isR_r _ | exact isR_q _ | exact isR_n) ?_
  refine V_aload_n C dX8_barToday_2 rfl (by first | exact isR_r _ | exact isR_q _ | exact isR_n) ?_
  refine V_getIe C 8 8 rfl cf_8 fl_X8_53 (by decide) (by decide) dX8_barToday_3 (by assumption) (by assumption) ?_
  refine V_fS C (c_X8_barOnDay _ hl G S ad σ hC hI hO k hk hh hhk (σ.2 0)) ks_X8_261 (by decide) (by decide) rfl rfl (Nat.le_of_ble_eq_true rfl) dX8_barToday_6 ?_
  dsimp only [Option.toList_some, Option.toList_none, List.cons_append, List.nil_append]
  refine V_istore_n C dX8_barToday_9 (by decide) rfl ?_
  simp only [lset1, lset2, List.filter_cons, List.filter_nil, Nat.reduceBEq, Nat.reduceAdd, Bool.not_true, Bool.not_false, Bool.and_true, Bool.and_false, Bool.true_and, Bool.false_and, if_true, if_false, Bool.false_eq_true, reduceIte]
  refine V_iload_n C dX8_barToday_10 rfl ?_
  refine V_if_eq C (tgt := 16) dX8_barToday_11 (by decide) (fun h11 => ?_) (fun h11 => ?_)
  · have W1 := W.trans (if_neg (fun q => by rw [h11] at q; exact absurd q (by decide)))
    refine V_aload_n C dX8_barToday_16 rfl (by first | exact isR_r _ | exact isR_q _ | exact isR_n) ?_
    refine V_aload_n C dX8_barToday_17 rfl (by first | exact isR_r _ | exact isR_q _ | exact isR_n) ?_
    refine V_aload_n C dX8_barToday_18 rfl (by first | exact isR_r _ | exact isR_q _ | exact isR_n) ?_
    refine V_fV C (c_X8_takenBeds _ hl G S ad σ hC hI hS hh hhk (some (ad 0 k)) (nI k) (ad_ch hC hI hk)) kv_X8_312 cf_8 (by decide) rfl kx (by decide) (by decide) rfl rfl (Nat.le_of_ble_eq_true rfl) dX8_barToday_19 ?_
    dsimp only [Option.toList_some, Option.toList_none, List.cons_append, List.nil_append]
    refine V_aload_n C dX8_barToday_22 rfl (by first | exact isR_r _ | exact isR_q _ | exact isR_n) ?_
    refine V_getIe C 2 3 rfl cf_2 fl_X8_316 (by decide) (by decide) dX8_barToday_23 kh ih_203 ?_
    refine V_icmp_lt C (tgt := 32) dX8_barToday_26 (by decide) (fun h26 => ?_) (fun h26 => ?_)
    · have W2 := W1.trans (if_neg (Int32.not_le.mpr h26))
      refine V_aload_n C dX8_barToday_32 rfl (by first | exact isR_r _ | exact isR_q _ | exact isR_n) ?_
      refine V_aload_n C dX8_barToday_33 rfl (by first | exact isR_r _ | exact isR_q _ | exact isR_n) ?_
      refine V_getIe C 2 0 rfl cf_2 fl_X8_136 (by decide) (by decide) dX8_barToday_34 kh ih_200 ?_
      refine V_fV C (c_X0_refuses _ hl G S ad σ hC k hk hh hh10) kv_X8_319 cf_0 (by decide) rfl kc (by decide) (by decide) rfl rfl (Nat.le_of_ble_eq_true rfl) dX8_barToday_37 ?_
      dsimp only [Option.toList_some, Option.toList_none, List.cons_append, List.nil_append]
      refine V_if_eq C (tgt := 48) dX8_barToday_40 (by decide) (fun h40 => ?_) (fun h40 => ?_)
      · have T0 := W2.trans (if_neg (pI9_z.mp h40))
        refine V_iconst C (v := 0) dX8_barToday_48 (by decide) ?_
        refine V_iret C (by first | omega | decide) (by first | omega | decide) dX8_barToday_49 ?_
        rw [T0]
        exact ⟨rfl, rfl⟩
      · have T0 := W2.trans (if_pos (pI9_ne.mp h40))
        refine V_bipush C (v := 7) dX8_barToday_43 (by decide) ?_
        refine V_goto C (tgt := 49) dX8_barToday_45 (by decide) ?_
        refine V_iret C (by first | omega | decide) (by first | omega | decide) dX8_barToday_49 ?_
        rw [T0]
        exact ⟨rfl, rfl⟩
    · have T0 := W1.trans (if_pos (Int32.not_lt.mp h26))
      refine V_bipush C (v := 6) dX8_barToday_29 (by decide) ?_
      refine V_iret C (by first | omega | decide) (by first | omega | decide) dX8_barToday_31 ?_
      rw [T0]
      exact ⟨rfl, rfl⟩
  · have T0 := W.trans (if_pos (mWhyOn_pos h11))
    refine V_iload_n C dX8_barToday_14 rfl ?_
    refine V_iret C (by first | omega | decide) (by first | omega | decide) dX8_barToday_15 ?_
    rw [T0]
    exact ⟨rfl, rfl⟩
/-- places are near -/
def IP (σ : aS) : Prop := (∀ k, k < cN σ 1 → 0 ≤ σ.1 6 k ∧ σ.1 6 k ≤ 50) ∧ ∀ h, h < cN σ 20 → 0 ≤ σ.1 21 h ∧ σ.1 21 h ≤ 50
theorem abs_far {x y : Int32} (hx : 0 ≤ x ∧ x ≤ 50) (hy : 0 ≤ y ∧ y ≤ 50) : (if 0 ≤ x - y then x - y else 0 - (x - y)) = if x < y then y - x else x - y := by
  obtain ⟨a, ha, rfl⟩ := ix_of (n := 51) (by decide) hx
  obtain ⟨b, hb, rfl⟩ := ix_of (n := 51) (by decide) hy
  have e := pk_sub_toInt (a := a) (b := b) (by omega) (by omega)
  by_cases q : a < b
  · rw [if_pos ((nI_ltI (by omega) (by omega)).mpr q), if_neg, Int32.zero_sub, Int32.neg_sub]
    rw [Int32.le_iff_toInt_le, e, show (0 : Int32).toInt = 0 from rfl]
    omega
  · rw [if_neg (fun z => q ((nI_ltI (by omega) (by omega)).mp z)), if_pos]
    rw [Int32.le_iff_toInt_le, e, show (0 : Int32).toInt = 0 from rfl]
    omega
theorem c_X8_worthFor (l : Launch) (hl : l.stackTraces = false) (G : gG) (S : sS) (ad : Nat → Nat → Nat) (σ : aS) (hC : RelC S ad σ) (hI : IC σ) (hS : IS σ) (hP : IP σ) (k : Nat) (hk : k < cN σ 1) (hh : Nat) (hhk : hh < cN σ 20) : CtF l G yX8_worthFor cX8_worthFor 8 (Option.some FieldType.int) 3 0 0 [.ref (ad 8 0), .ref (ad 0 k), .ref (ad 2 hh)] S (some (.int (mWorth σ k hh))) S := by
  refine Ct_of (by decide) (cat1_all (by repeat first | exact trivial | refine ⟨by first | rfl | exact isR_c (isR_q _), ?_⟩)) (Nat.le_of_ble_eq_true rfl) hl fun X C hXl hin => ?_
  subst hXl
  dsimp only [lArgs, Nat.reduceAdd]
  have hh10 : hh < 10 := by have := hI.2.2.1.2; omega
  have kx : sK S (ad 8 0) = 9 := RelC_K hC 8 (by decide) rfl
  have rx_800 : sR S 800 (ad 8 0) = some (ad 15 0) := RelC_R hC 8 800 rfl (by unfold cFd; omega) rfl rfl
  have ix_808 : sI S 808 (ad 8 0) = σ.2 0 := RelC_I hC 8 808 rfl (by unfold cFd; omega) rfl rfl
  have kq : sK S (ad 15 0) = 104 := hC.1 15 0 (by decide) (by decide) (by decide) rfl
  have lq : sL S (ad 15 0) = 16 := hC.2.2.2.2.1 15 0 (by decide) (by decide) rfl
  have aq := hC.2.2.2.2.2.2.1
  obtain ⟨n, hn⟩ : ∃ n, n = cN σ 1 := ⟨_, rfl⟩
  have hn16 : n ≤ 16 := by rw [hn]; exact hI.2.1.2
  rw [← hn] at aq
  have kh : sK S (ad 2 hh) = 3 := RelC_K hC 2 (by decide) hhk
  have ih_200 : sI S 200 (ad 2 hh) = nI hh := RelC_I hC 2 200 rfl (by unfold cFd; omega) rfl hhk
  have ih_201 : sI S 201 (ad 2 hh) = σ.1 21 hh := RelC_I hC 2 201 rfl (by unfold cFd; omega) rfl hhk
  have ih_202 : sI S 202 (ad 2 hh) = σ.1 22 hh := RelC_I hC 2 202 rfl (by unfold cFd; omega) rfl hhk
  have kk : sK S (ad 0 k) = 1 := RelC_K hC 0 (by decide) hk
  have ik_3 : sI S 3 (ad 0 k) = σ.1 5 k := RelC_I hC 0 3 rfl (by unfold cFd; omega) rfl hk
  have ik_4 : sI S 4 (ad 0 k) = σ.1 6 k := RelC_I hC 0 4 rfl (by unfold cFd; omega) rfl hk
  have ik_5 : sI S 5 (ad 0 k) = σ.1 7 k := RelC_I hC 0 5 rfl (by unfold cFd; omega) rfl hk
  have ho := ad_ch hC hI hk
  have loop : ∀ (b : Int32), b + fsum (mWorthT σ k hh) n = mWorth σ k hh → ∀ (t i : Nat), i + t = 16 → V X G 8 (eQ X G (fun v T => v = some (.int (mWorth σ k hh)) ∧ T = S) (fun _ _ => False) 0 0) 0 0 52 [(6, false, .int (nI i)), (5, false, .int (nI 16)), (4, false, .ref (ad 15 0)), (3, false, .int (b + fsum (mWorthT σ k hh) (min i n))), (0, false, .ref (ad 8 0)), (1, false, .ref (ad 0 k)), (2, false, .ref (ad 2 hh))] [] S := by
    intro b hb t
    induction t with
    | zero =>
      intro i hi
      obtain rfl : i = 16 := by omega
      rw [Nat.min_eq_right hn16, hb]
      refine V_iload C dX8_worthFor_52 rfl ?_
      refine V_iload C dX8_worthFor_54 rfl ?_
      refine V_igeN C (tgt := 107) (by omega) (by omega) dX8_worthFor_56 (by decide) (fun h56 => ?_) (fun h56 => ?_)
      · refine V_iload_n C dX8_worthFor_107 rfl ?_
        refine V_iret C (by first | omega | decide) (by first | omega | decide) dX8_worthFor_108 ?_
        exact ⟨rfl, rfl⟩
      · omega
    | succ t ih =>
      intro i hi
      have hi16 : i < 16 := by omega
      by_cases hin9 : i < n
      · have e := (aq i hi16).trans (if_pos hin9)
        have hi1 : i < cN σ 1 := hn ▸ hin9
        have kc : sK S (ad 0 i) = 1 := RelC_K hC 0 (by decide) hi1
        have ic_3 : sI S 3 (ad 0 i) = σ.1 5 i := RelC_I hC 0 3 rfl (by unfold cFd; omega) rfl hi1
        have S9 : fsum (mWorthT σ k hh) (min (i + 1) n) = fsum (mWorthT σ k hh) (min i n) + mWorthT σ k hh i := by
          rw [Nat.min_eq_left (by omega : i + 1 ≤ n), Nat.min_eq_left (by omega : i ≤ n)]
          rfl
        have S1 : (¬ nI i = nI k ∧ σ.1 5 i = σ.1 5 k ∧ mHomeOf σ i = nI hh) → b + fsum (mWorthT σ k hh) (min (i + 1) n) = b + fsum (mWorthT σ k hh) (min i n) + 10 := fun q => by
          rw [S9, mWorthT, if_pos q, Int32.add_assoc]
        have S0 : ¬ (¬ nI i = nI k ∧ σ.1 5 i = σ.1 5 k ∧ mHomeOf σ i = nI hh) → b + fsum (mWorthT σ k hh) (min (i + 1) n) = b + fsum (mWorthT σ k hh) (min i n) := fun q => by
          rw [S9, mWorthT, if_neg q, Int32.add_zero]
        refine V_iload C dX8_worthFor_52 rfl ?_
        refine V_iload C dX8_worthFor_54 rfl ?_
        refine V_igeN C (tgt := 107) (by omega) (by omega) dX8_worthFor_56 (by decide) (fun h56 => ?_) (fun h56 => ?_)
        · omega
        · refine V_aload C dX8_worthFor_59 rfl (by first | exact isR_r _ | exact isR_q _ | exact isR_n) ?_
          refine V_iload C dX8_worthFor_61 rfl ?_
          refine V_aaldE C 4 (by decide) kq (by decide) lq rfl hi16 (by decide) dX8_worthFor_63 ?_
          rw [e]
          refine V_astore C dX8_worthFor_64 (by decide) (by first | exact isR_r _ | exact isR_q _ | exact isR_n) rfl ?_
          simp only [lset1, lset2, List.filter_cons, List.filter_nil, Nat.reduceBEq, Nat.reduceAdd, Bool.not_true, Bool.not_false, Bool.and_true, Bool.and_false, Bool.true_and, Bool.false_and, if_true, if_false, Bool.false_eq_true, reduceIte]
          refine V_aload C dX8_worthFor_66 rfl (by first | exact isR_r _ | exact isR_q _ | exact isR_n) ?_
          dsimp only
          refine V_ifnull C (tgt := 101) dX8_worthFor_68 (by decide) (fun h68 => ?_) (fun a68 h68 => ?_)
          · cases h68
          · cases h68
            refine V_aload C dX8_worthFor_71 rfl (by first | exact isR_r _ | exact isR_q _ | exact isR_n) ?_
            refine V_aload_n C dX8_worthFor_73 rfl (by first | exact isR_r _ | exact isR_q _ | exact isR_n) ?_
            refine V_acmp_eq C (tgt := 101) (rx := some (ad 0 i)) (ry := some (ad 0 k)) dX8_worthFor_74 (by decide) (fun h74 => ?_) (fun h74 => ?_)
            · have T0 := S0 (fun q => q.1 ((ho i hi1).mp h74))
              refine V_incN C dX8_worthFor_101 rfl (by decide) rfl ?_
              simp only [lset1, lset2, List.filter_cons, List.filter_nil, Nat.reduceBEq, Nat.reduceAdd, Bool.not_true, Bool.not_false, Bool.and_true, Bool.and_false, Bool.true_and, Bool.false_and, if_true, if_false, Bool.false_eq_true, reduceIte]
              refine V_goto C (tgt := 52) dX8_worthFor_104 (by decide) ?_
              refine V_sub ?_ (ih (i + 1) (by omega))
              rw [T0]
              exact ⟨rfl, rfl, rfl, rfl, rfl, rfl, rfl, trivial⟩
            · refine V_aload C dX8_worthFor_77 rfl (by first | exact isR_r _ | exact isR_q _ | exact isR_n) ?_
              refine V_getIe C 0 3 rfl cf_0 fl_X8_338 (by decide) (by decide) dX8_worthFor_79 (by assumption) (by assumption) ?_
              refine V_aload_n C dX8_worthFor_82 rfl (by first | exact isR_r _ | exact isR_q _ | exact isR_n) ?_
              refine V_getIe C 0 3 rfl cf_0 fl_X8_338 (by decide) (by decide) dX8_worthFor_83 (by assumption) (by assumption) ?_
              refine V_icmp_ne C (tgt := 101) dX8_worthFor_86 (by decide) (fun h86 => ?_) (fun h86 => ?_)
              · have T0 := S0 (fun q => h86 q.2.1)
                refine V_incN C dX8_worthFor_101 rfl (by decide) rfl ?_
                simp only [lset1, lset2, List.filter_cons, List.filter_nil, Nat.reduceBEq, Nat.reduceAdd, Bool.not_true, Bool.not_false, Bool.and_true, Bool.and_false, Bool.true_and, Bool.false_and, if_true, if_false, Bool.false_eq_true, reduceIte]
                refine V_goto C (tgt := 52) dX8_worthFor_104 (by decide) ?_
                refine V_sub ?_ (ih (i + 1) (by omega))
                rw [T0]
                exact ⟨rfl, rfl, rfl, rfl, rfl, rfl, rfl, trivial⟩
              · refine V_aload C dX8_worthFor_89 rfl (by first | exact isR_r _ | exact isR_q _ | exact isR_n) ?_
                refine V_aload_n C dX8_worthFor_91 rfl (by first | exact isR_r _ | exact isR_q _ | exact isR_n) ?_
                refine V_fV C (c_X0_isIn _ hl G S ad σ hC hI hS i hi1 hh hhk) kv_X8_150 cf_0 (by decide) rfl (by assumption) (by decide) (by decide) rfl rfl (Nat.le_of_ble_eq_true rfl) dX8_worthFor_92 ?_
                dsimp only [Option.toList_some, Option.toList_none, List.cons_append, List.nil_append]
                refine V_if_eq C (tgt := 101) dX8_worthFor_95 (by decide) (fun h95 => ?_) (fun h95 => ?_)
                · have T0 := S0 (fun q => pI9_z.mp h95 q.2.2)
                  refine V_incN C dX8_worthFor_101 rfl (by decide) rfl ?_
                  simp only [lset1, lset2, List.filter_cons, List.filter_nil, Nat.reduceBEq, Nat.reduceAdd, Bool.not_true, Bool.not_false, Bool.and_true, Bool.and_false, Bool.true_and, Bool.false_and, if_true, if_false, Bool.false_eq_true, reduceIte]
                  refine V_goto C (tgt := 52) dX8_worthFor_104 (by decide) ?_
                  refine V_sub ?_ (ih (i + 1) (by omega))
                  rw [T0]
                  exact ⟨rfl, rfl, rfl, rfl, rfl, rfl, rfl, trivial⟩
                · have T0 := S1 ⟨fun q => h74 ((ho i hi1).mpr q), h86, pI9_ne.mp h95⟩
                  refine V_iinc C dX8_worthFor_98 rfl rfl (by decide) rfl ?_
                  simp only [lset1, lset2, List.filter_cons, List.filter_nil, Nat.reduceBEq, Nat.reduceAdd, Bool.not_true, Bool.not_false, Bool.and_true, Bool.and_false, Bool.true_and, Bool.false_and, if_true, if_false, Bool.false_eq_true, reduceIte]
                  refine V_incN C dX8_worthFor_101 rfl (by decide) rfl ?_
                  simp only [lset1, lset2, List.filter_cons, List.filter_nil, Nat.reduceBEq, Nat.reduceAdd, Bool.not_true, Bool.not_false, Bool.and_true, Bool.and_false, Bool.true_and, Bool.false_and, if_true, if_false, Bool.false_eq_true, reduceIte]
                  refine V_goto C (tgt := 52) dX8_worthFor_104 (by decide) ?_
                  refine V_sub ?_ (ih (i + 1) (by omega))
                  rw [T0]
                  exact ⟨rfl, rfl, rfl, rfl, rfl, rfl, rfl, trivial⟩
      · have e := (aq i hi16).trans (if_neg hin9)
        have T0 : min (i + 1) n = min i n := by omega
        refine V_iload C dX8_worthFor_52 rfl ?_
        refine V_iload C dX8_worthFor_54 rfl ?_
        refine V_igeN C (tgt := 107) (by omega) (by omega) dX8_worthFor_56 (by decide) (fun h56 => ?_) (fun h56 => ?_)
        · omega
        · refine V_aload C dX8_worthFor_59 rfl (by first | exact isR_r _ | exact isR_q _ | exact isR_n) ?_
          refine V_iload C dX8_worthFor_61 rfl ?_
          refine V_aaldE C 4 (by decide) kq (by decide) lq rfl hi16 (by decide) dX8_worthFor_63 ?_
          rw [e]
          refine V_astore C dX8_worthFor_64 (by decide) (by first | exact isR_r _ | exact isR_q _ | exact isR_n) rfl ?_
          simp only [lset1, lset2, List.filter_cons, List.filter_nil, Nat.reduceBEq, Nat.reduceAdd, Bool.not_true, Bool.not_false, Bool.and_true, Bool.and_false, Bool.true_and, Bool.false_and, if_true, if_false, Bool.false_eq_true, reduceIte]
          refine V_aload C dX8_worthFor_66 rfl (by first | exact isR_r _ | exact isR_q _ | exact isR_n) ?_
          dsimp only
          refine V_ifnull C (tgt := 101) dX8_worthFor_68 (by decide) (fun h68 => ?_) (fun a68 h68 => ?_)
          · refine V_incN C dX8_worthFor_101 rfl (by decide) rfl ?_
            simp only [lset1, lset2, List.filter_cons, List.filter_nil, Nat.reduceBEq, Nat.reduceAdd, Bool.not_true, Bool.not_false, Bool.and_true, Bool.and_false, Bool.true_and, Bool.false_and, if_true, if_false, Bool.false_eq_true, reduceIte]
            refine V_goto C (tgt := 52) dX8_worthFor_104 (by decide) ?_
            refine V_sub ?_ (ih (i + 1) (by omega))
            rw [T0]
            exact ⟨rfl, rfl, rfl, rfl, rfl, rfl, rfl, trivial⟩
          · cases h68
  have W : mWorth σ k hh = fsum (mWorthT σ k hh) n + (if σ.1 7 k = σ.1 22 hh then 6 else 0) + (if σ.1 19 (10 * k + hh) = 0 then 0 else if σ.1 19 (10 * k + hh) = 1 then 8 else -8) - mFar σ k hh / 5 := by rw [hn]; rfl
  have FAR : (if 0 ≤ σ.1 6 k - σ.1 21 hh then σ.1 6 k - σ.1 21 hh else 0 - (σ.1 6 k - σ.1 21 hh)) = mFar σ k hh := abs_far (hP.1 k hk) (hP.2 hh hhk)
  refine V_aload_n C dX8_worthFor_0 rfl (by first | exact isR_r _ | exact isR_q _ | exact isR_n) ?_
  refine V_aload_n C dX8_worthFor_1 rfl (by first | exact isR_r _ | exact isR_q _ | exact isR_n) ?_
  refine V_getIe C 2 0 rfl cf_2 fl_X8_136 (by decide) (by decide) dX8_worthFor_2 (by assumption) (by assumption) ?_
  refine V_fV C (c_X0_wishWorth _ hl G S ad σ hC k hk hh hh10) kv_X8_322 cf_0 (by decide) rfl (by assumption) (by decide) (by decide) rfl rfl (Nat.le_of_ble_eq_true rfl) dX8_worthFor_5 ?_
  dsimp only [Option.toList_some, Option.toList_none, List.cons_append, List.nil_append]
  refine V_aload_n C dX8_worthFor_8 rfl (by first | exact isR_r _ | exact isR_q _ | exact isR_n) ?_
  refine V_getIe C 0 4 rfl cf_0 fl_X8_325 (by decide) (by decide) dX8_worthFor_9 (by assumption) (by assumption) ?_
  refine V_aload_n C dX8_worthFor_12 rfl (by first | exact isR_r _ | exact isR_q _ | exact isR_n) ?_
  refine V_getIe C 2 1 rfl cf_2 fl_X8_328 (by decide) (by decide) dX8_worthFor_13 (by assumption) (by assumption) ?_
  refine V_isub C dX8_worthFor_16 ?_
  refine V_abs C kj_X8_329 ⟨by decide, Nat.le_of_ble_eq_true rfl, by decide, by decide⟩ dX8_worthFor_17 ?_
  rw [FAR]
  refine V_iconst C (v := 5) dX8_worthFor_20 (by decide) ?_
  refine V_idiv C dX8_worthFor_21 (by decide) ?_
  refine V_isub C dX8_worthFor_22 ?_
  refine V_istore_n C dX8_worthFor_23 (by decide) rfl ?_
  simp only [lset1, lset2, List.filter_cons, List.filter_nil, Nat.reduceBEq, Nat.reduceAdd, Bool.not_true, Bool.not_false, Bool.and_true, Bool.and_false, Bool.true_and, Bool.false_and, if_true, if_false, Bool.false_eq_true, reduceIte]
  refine V_aload_n C dX8_worthFor_24 rfl (by first | exact isR_r _ | exact isR_q _ | exact isR_n) ?_
  refine V_getIe C 0 5 rfl cf_0 fl_X8_334 (by decide) (by decide) dX8_worthFor_25 (by assumption) (by assumption) ?_
  refine V_aload_n C dX8_worthFor_28 rfl (by first | exact isR_r _ | exact isR_q _ | exact isR_n) ?_
  refine V_getIe C 2 2 rfl cf_2 fl_X8_337 (by decide) (by decide) dX8_worthFor_29 (by assumption) (by assumption) ?_
  refine V_icmp_ne C (tgt := 38) dX8_worthFor_32 (by decide) (fun h32 => ?_) (fun h32 => ?_)
  · rw [if_neg h32] at W
    have hb : ((if σ.1 19 (10 * k + hh) = 0 then (0 : Int32) else if σ.1 19 (10 * k + hh) = 1 then 8 else -8) - mFar σ k hh / 5) + fsum (mWorthT σ k hh) n = mWorth σ k hh := by
      rw [W]
      simp only [Int32.sub_eq_add_neg, Int32.add_zero]
      ac_rfl
    refine V_aload_n C dX8_worthFor_38 rfl (by first | exact isR_r _ | exact isR_q _ | exact isR_n) ?_
    refine V_getS C 8 0 rfl cf_8 fl_X8_11 (by decide) (by decide) dX8_worthFor_39 (by assumption) (by assumption) ?_
    refine V_astore C dX8_worthFor_42 (by decide) (by first | exact isR_r _ | exact isR_q _ | exact isR_n) rfl ?_
    simp only [lset1, lset2, List.filter_cons, List.filter_nil, Nat.reduceBEq, Nat.reduceAdd, Bool.not_true, Bool.not_false, Bool.and_true, Bool.and_false, Bool.true_and, Bool.false_and, if_true, if_false, Bool.false_eq_true, reduceIte]
    refine V_aload C dX8_worthFor_44 rfl (by first | exact isR_r _ | exact isR_q _ | exact isR_n) ?_
    refine V_alen C (v := nI 16) (by assumption) (by decide) (by rw [lq]; rfl) dX8_worthFor_46 ?_
    refine V_istore C dX8_worthFor_47 (by decide) rfl ?_
    simp only [lset1, lset2, List.filter_cons, List.filter_nil, Nat.reduceBEq, Nat.reduceAdd, Bool.not_true, Bool.not_false, Bool.and_true, Bool.and_false, Bool.true_and, Bool.false_and, if_true, if_false, Bool.false_eq_true, reduceIte]
    refine V_iconst C (v := 0) dX8_worthFor_49 (by decide) ?_
    refine V_istore C dX8_worthFor_50 (by decide) rfl ?_
    simp only [lset1, lset2, List.filter_cons, List.filter_nil, Nat.reduceBEq, Nat.reduceAdd, Bool.not_true, Bool.not_false, Bool.and_true, Bool.and_false, Bool.true_and, Bool.false_and, if_true, if_false, Bool.false_eq_true, reduceIte]
    have L := loop _ hb 16 0 (by omega)
    rw [Nat.zero_min, show fsum (mWorthT σ k hh) 0 = 0 from rfl, Int32.add_zero] at L
    refine V_sub ?_ L
    exact ⟨rfl, rfl, rfl, rfl, rfl, rfl, rfl, trivial⟩
  · rw [if_pos h32] at W
    have hb : ((if σ.1 19 (10 * k + hh) = 0 then (0 : Int32) else if σ.1 19 (10 * k + hh) = 1 then 8 else -8) - mFar σ k hh / 5 + 6) + fsum (mWorthT σ k hh) n = mWorth σ k hh := by
      rw [W]
      simp only [Int32.sub_eq_add_neg, Int32.add_zero]
      ac_rfl
    refine V_iinc C dX8_worthFor_35 rfl rfl (by decide) rfl ?_
    simp only [lset1, lset2, List.filter_cons, List.filter_nil, Nat.reduceBEq, Nat.reduceAdd, Bool.not_true, Bool.not_false, Bool.and_true, Bool.and_false, Bool.true_and, Bool.false_and, if_true, if_false, Bool.false_eq_true, reduceIte]
    refine V_aload_n C dX8_worthFor_38 rfl (by first | exact isR_r _ | exact isR_q _ | exact isR_n) ?_
    refine V_getS C 8 0 rfl cf_8 fl_X8_11 (by decide) (by decide) dX8_worthFor_39 (by assumption) (by assumption) ?_
    refine V_astore C dX8_worthFor_42 (by decide) (by first | exact isR_r _ | exact isR_q _ | exact isR_n) rfl ?_
    simp only [lset1, lset2, List.filter_cons, List.filter_nil, Nat.reduceBEq, Nat.reduceAdd, Bool.not_true, Bool.not_false, Bool.and_true, Bool.and_false, Bool.true_and, Bool.false_and, if_true, if_false, Bool.false_eq_true, reduceIte]
    refine V_aload C dX8_worthFor_44 rfl (by first | exact isR_r _ | exact isR_q _ | exact isR_n) ?_
    refine V_alen C (v := nI 16) (by assumption) (by decide) (by rw [lq]; rfl) dX8_worthFor_46 ?_
    refine V_istore C dX8_worthFor_47 (by decide) rfl ?_
    simp only [lset1, lset2, List.filter_cons, List.filter_nil, Nat.reduceBEq, Nat.reduceAdd, Bool.not_true, Bool.not_false, Bool.and_true, Bool.and_false, Bool.true_and, Bool.false_and, if_true, if_false, Bool.false_eq_true, reduceIte]
    refine V_iconst C (v := 0) dX8_worthFor_49 (by decide) ?_
    refine V_istore C dX8_worthFor_50 (by decide) rfl ?_
    simp only [lset1, lset2, List.filter_cons, List.filter_nil, Nat.reduceBEq, Nat.reduceAdd, Bool.not_true, Bool.not_false, Bool.and_true, Bool.and_false, Bool.true_and, Bool.false_and, if_true, if_false, Bool.false_eq_true, reduceIte]
    have L := loop _ hb 16 0 (by omega)
    rw [Nat.zero_min, show fsum (mWorthT σ k hh) 0 = 0 from rfl, Int32.add_zero] at L
    refine V_sub ?_ L
    exact ⟨rfl, rfl, rfl, rfl, rfl, rfl, rfl, trivial⟩

