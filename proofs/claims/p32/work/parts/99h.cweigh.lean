/-! THE CLASS: the plan weighs. -/
def lZ (z : Int) : Int64 := Int64.ofInt z
theorem lZ_ti {z : Int} (h : -(2 ^ 62) ≤ z ∧ z ≤ 2 ^ 62) : (lZ z).toInt = z := by
  unfold lZ
  have e : ((Int64.size : Nat) : Int) = 18446744073709551616 := rfl
  rw [Int64.toInt_ofInt, Int.bmod_eq_of_le] <;> (rw [e]; omega)
theorem lZ_add (a b : Int) : lZ a + lZ b = lZ (a + b) := (Int64.ofInt_add a b).symm
theorem lZ_mul (a b : Int) : lZ a * lZ b = lZ (a * b) := (Int64.ofInt_mul a b).symm
theorem lZ_le {a b : Int} (ha : -(2 ^ 62) ≤ a ∧ a ≤ 2 ^ 62) (hb : -(2 ^ 62) ≤ b ∧ b ≤ 2 ^ 62) : lZ a ≤ lZ b ↔ a ≤ b := by
  rw [Int64.le_iff_toInt_le, lZ_ti ha, lZ_ti hb]
theorem lZ_lt {a b : Int} (ha : -(2 ^ 62) ≤ a ∧ a ≤ 2 ^ 62) (hb : -(2 ^ 62) ≤ b ∧ b ≤ 2 ^ 62) : lZ a < lZ b ↔ a < b := by
  rw [Int64.lt_iff_toInt_lt, lZ_ti ha, lZ_ti hb]
theorem lZ_i (x : Int32) : x.toInt64 = lZ x.toInt := by
  have h1 := Int32.le_toInt x
  have h2 := Int32.toInt_lt x
  refine Int64.toInt_inj.mp ?_
  rw [Int32.toInt_toInt64, lZ_ti (by omega)]
theorem bit32 : ∀ s, s < 32 → ∀ r, r < 5 → (nI s >>> (nI r &&& 31)) &&& 1 = if s.testBit r then 1 else 0 := by decide +kernel
theorem and32 : ∀ a, a < 32 → ∀ b, b < 32 → nI a &&& nI b = nI (a &&& b) := by decide +kernel
theorem sbt32 : ∀ a, a < 32 → ∀ b, b < 32 → nI a &&& (nI b ^^^ (-1)) = nI (sbt a b) := by decide +kernel
theorem bcF32 : ∀ s, s < 32 → (bcF (nI s)).toInt = cntB s 5 := by decide +kernel
/-- the plan's rows as data of the search -/
def okS (S : sS) (ad : Nat → Nat → Nat) (M : Nat) (r h : Nat) : Prop := r < M ∧ h < 10 ∧ ¬ sA S (ad 24 r) h = -1000000
def wS (S : sS) (ad : Nat → Nat → Nat) (r h : Nat) : Int := (sA S (ad 24 r) h).toInt
def FS (S : sS) (ad : Nat → Nat → Nat) (h : Nat) : Int := (sA S (ad 25 0) h).toInt
theorem setW_s {w : Nat → Nat → Int} {s h c : Nat} : setW w s h (c + 1) = setW w s h c + if s.testBit c then rowW w c h else 0 := rfl
theorem c_X4_gainOf (l : Launch) (hl : l.stackTraces = false) (G : gG) (S : sS) (ad : Nat → Nat → Nat) (σ : aS) (hC : RelC S ad σ) (M : Nat) (hM : M ≤ 5) (s : Nat) (hs : s < 2 ^ M) (h : Nat) (hh : h < 10) : CtF l G yX4_gainOf cX4_gainOf 6 (Option.some FieldType.long) 1 0 0 [.ref (ad 4 0), .int (nI s), .int (nI h)] S (some (.long (lZ (iteP (∃ r, r < 5 ∧ s.testBit r = true ∧ ¬ okS S ad M r h) (-1) (-536870912 + setW (wS S ad) s h 5))))) S := by
  refine Ct_of (by decide) (cat1_all (by repeat first | exact trivial | refine ⟨by first | rfl | exact isR_c (isR_q _), ?_⟩)) (Nat.le_of_ble_eq_true rfl) hl fun X C hXl hin => ?_
  subst hXl
  dsimp only [lArgs, Nat.reduceAdd]
  have hs32 : s < 32 := Nat.lt_of_lt_of_le hs (Nat.pow_le_pow_right (n := 2) (by decide) hM)
  have kp : sK S (ad 4 0) = 5 := RelC_K hC 4 (by decide) rfl
  have rp : sR S 402 (ad 4 0) = some (ad 23 0) := RelC_pR hC 402 23 (by decide) rfl rfl
  have k23 : sK S (ad 23 0) = 107 := RelC_kd hC 23 (by decide) rfl rfl
  have l23 : sL S (ad 23 0) = 5 := RelC_ln hC 23 (by decide) rfl rfl
  have loop : ∀ (t i : Nat), i + t = 5 → (∀ r, r < i → s.testBit r = true → okS S ad M r h) → V X G 6 (eQ X G (fun v T => v = some (.long (lZ (iteP (∃ r, r < 5 ∧ s.testBit r = true ∧ ¬ okS S ad M r h) (-1) (-536870912 + setW (wS S ad) s h 5)))) ∧ T = S) (fun _ _ => False) 0 0) 0 0 7 [(5, false, .int (nI i)), (3, true, .long (lZ (-536870912 + setW (wS S ad) s h i))), (0, false, .ref (ad 4 0)), (1, false, .int (nI s)), (2, false, .int (nI h))] [] S := by
    intro t
    induction t with
    | zero =>
      intro i hi hok
      obtain rfl : i = 5 := by omega
      have e : iteP (∃ r, r < 5 ∧ s.testBit r = true ∧ ¬ okS S ad M r h) (-1) (-536870912 + setW (wS S ad) s h 5) = -536870912 + setW (wS S ad) s h 5 := iteP_f fun z => by
        obtain ⟨r, z1, z2, z3⟩ := z
        exact z3 (hok r z1 z2)
      refine V_iload C dX4_gainOf_7 rfl ?_
      refine V_iconst C (v := 5) dX4_gainOf_9 (by decide) ?_
      refine V_icmp_ge C (tgt := 92) dX4_gainOf_10 (by decide) (fun h10 => ?_) (fun h10 => ?_)
      · refine V_lload_n C dX4_gainOf_92 rfl ?_
        refine V_lret C (by first | omega | decide) (by first | omega | decide) dX4_gainOf_93 ?_
        rw [e]
        exact ⟨rfl, rfl⟩
      · exact absurd (by decide) h10
    | succ t ih =>
      intro i hi hok
      have hi5 : i < 5 := by omega
      have hb := bit32 s hs32 i hi5
      have n10 : ¬ (5 : Int32) ≤ nI i := fun z => absurd ((nI_leI (a := 5) (b := i) (by decide) (by omega)).mp z) (by omega)
      have n19 : ¬ Int32.ofNat 5 ≤ nI i := n10
      have a23 := hC.2.2.2.2.2.2.2.2.2.1 i hi5
      have k24 : sK S (ad 24 i) = 161 := RelC_kd hC 24 (by decide) hi5 rfl
      have l24 : sL S (ad 24 i) = 10 := RelC_ln hC 24 (by decide) hi5 rfl
      by_cases b : s.testBit i = true
      · rw [if_pos b] at hb
        have hiM : i < M := Decidable.byContradiction fun z => by
          have : s.testBit i = false := Nat.testBit_lt_two_pow (Nat.lt_of_lt_of_le hs (Nat.pow_le_pow_right (by decide) (by omega)))
          rw [this] at b
          exact absurd b (by decide)
        by_cases q : sA S (ad 24 i) h = -1000000
        · have e : iteP (∃ r, r < 5 ∧ s.testBit r = true ∧ ¬ okS S ad M r h) (-1) (-536870912 + setW (wS S ad) s h 5) = -1 := iteP_t ⟨i, hi5, b, fun z => z.2.2 q⟩
          refine V_iload C dX4_gainOf_7 rfl ?_
          refine V_iconst C (v := 5) dX4_gainOf_9 (by decide) ?_
          refine V_icmp_ge C (tgt := 92) dX4_gainOf_10 (by decide) (fun h10 => ?_) (fun h10 => ?_)
          · exact absurd h10 n10
          · refine V_iload C dX4_gainOf_13 rfl ?_
            refine V_ranks C rk_X4_71 dX4_gainOf_15 (fun t9 hT9 => ?_)
            refine V_xlen C hT9 dX4_gainOf_18 ?_
            refine V_icmp_ge C (tgt := 92) dX4_gainOf_19 (by decide) (fun h19 => ?_) (fun h19 => ?_)
            · exact absurd h19 n19
            · refine V_iload_n C dX4_gainOf_22 rfl ?_
              refine V_iload C dX4_gainOf_23 rfl ?_
              refine V_ishr C dX4_gainOf_25 ?_
              refine V_iconst C (v := 1) dX4_gainOf_26 (by decide) ?_
              refine V_iand C dX4_gainOf_27 ?_
              rw [hb]
              refine V_if_ne C (tgt := 34) dX4_gainOf_28 (by decide) (fun h28 => ?_) (fun h28 => ?_)
              · refine V_aload_n C dX4_gainOf_34 rfl (by first | exact isR_r _ | exact isR_q _ | exact isR_n) ?_
                refine V_getS C 4 2 rfl cf_4 fl_X4_23 (by decide) (by decide) dX4_gainOf_35 kp rp ?_
                refine V_iload C dX4_gainOf_38 rfl ?_
                refine V_aaldE C 7 (by decide) k23 (by decide) l23 rfl hi5 (by decide) dX4_gainOf_40 ?_
                rw [a23]
                dsimp only [va_rf]
                refine V_iload_n C dX4_gainOf_41 rfl ?_
                refine V_ialdE C k24 (by decide) l24 rfl hh (by decide) dX4_gainOf_42 ?_
                refine V_ldc C dX4_gainOf_43 cs_X4_46 ?_
                refine V_icmp_ne C (tgt := 52) dX4_gainOf_45 (by decide) (fun h45 => ?_) (fun h45 => ?_)
                · exact absurd q h45
                · refine V_ldc2 C dX4_gainOf_48 cs_X4_47 ?_
                  refine V_lret C (by first | omega | decide) (by first | omega | decide) dX4_gainOf_51 ?_
                  rw [e]
                  exact ⟨rfl, rfl⟩
              · exact absurd h28 (by decide)
        · have eg : lZ (-536870912 + setW (wS S ad) s h i) + ((8589934592 : Int64) + (262144 : Int64) * (sA S (ad 24 i) h).toInt64 + ((10 - nI h) * nI ([14641, 1331, 121, 11, 1].getD i 0)).toInt64) = lZ (-536870912 + setW (wS S ad) s h (i + 1)) := by
            rw [setW_s, if_pos b]
            have e1 : (10 - nI h) * nI ([14641, 1331, 121, 11, 1].getD i 0) = nI ((10 - h) * 11 ^ (4 - i)) := by
              rw [show (10 : Int32) = nI 10 from rfl, pk_sub (by omega), pk_mul]
              have : ([14641, 1331, 121, 11, 1] : List Nat).getD i 0 = 11 ^ (4 - i) := by
                rcases (show i = 0 ∨ i = 1 ∨ i = 2 ∨ i = 3 ∨ i = 4 by omega) with rfl | rfl | rfl | rfl | rfl <;> rfl
              rw [this]
            have e2 : (nI ((10 - h) * 11 ^ (4 - i))).toInt = (10 - (h : Int)) * 11 ^ (4 - i) := by
              have hp : (10 - h) * 11 ^ (4 - i) ≤ 10 * 11 ^ 4 := Nat.mul_le_mul (by omega) (Nat.pow_le_pow_right (by decide) (by omega))
              rw [nI_toInt (by have : 10 * 11 ^ 4 = 146410 := rfl; omega), Int.natCast_mul, Int.natCast_pow, Int.ofNat_sub (by omega)]
              rfl
            rw [e1, lZ_i, lZ_i, e2, show (8589934592 : Int64) = lZ 8589934592 from rfl, show (262144 : Int64) = lZ 262144 from rfl, lZ_mul, lZ_add, lZ_add, lZ_add, Int.add_assoc]
            rfl
          have L := ih (i + 1) (by omega) fun r hr h2 => by
            by_cases z : r = i
            · subst z; exact ⟨hiM, hh, q⟩
            · exact hok r (by omega) h2
          rw [← eg] at L
          refine V_iload C dX4_gainOf_7 rfl ?_
          refine V_iconst C (v := 5) dX4_gainOf_9 (by decide) ?_
          refine V_icmp_ge C (tgt := 92) dX4_gainOf_10 (by decide) (fun h10 => ?_) (fun h10 => ?_)
          · exact absurd h10 n10
          · refine V_iload C dX4_gainOf_13 rfl ?_
            refine V_ranks C rk_X4_71 dX4_gainOf_15 (fun t9 hT9 => ?_)
            refine V_xlen C hT9 dX4_gainOf_18 ?_
            refine V_icmp_ge C (tgt := 92) dX4_gainOf_19 (by decide) (fun h19 => ?_) (fun h19 => ?_)
            · exact absurd h19 n19
            · refine V_iload_n C dX4_gainOf_22 rfl ?_
              refine V_iload C dX4_gainOf_23 rfl ?_
              refine V_ishr C dX4_gainOf_25 ?_
              refine V_iconst C (v := 1) dX4_gainOf_26 (by decide) ?_
              refine V_iand C dX4_gainOf_27 ?_
              rw [hb]
              refine V_if_ne C (tgt := 34) dX4_gainOf_28 (by decide) (fun h28 => ?_) (fun h28 => ?_)
              · refine V_aload_n C dX4_gainOf_34 rfl (by first | exact isR_r _ | exact isR_q _ | exact isR_n) ?_
                refine V_getS C 4 2 rfl cf_4 fl_X4_23 (by decide) (by decide) dX4_gainOf_35 kp rp ?_
                refine V_iload C dX4_gainOf_38 rfl ?_
                refine V_aaldE C 7 (by decide) k23 (by decide) l23 rfl hi5 (by decide) dX4_gainOf_40 ?_
                rw [a23]
                dsimp only [va_rf]
                refine V_iload_n C dX4_gainOf_41 rfl ?_
                refine V_ialdE C k24 (by decide) l24 rfl hh (by decide) dX4_gainOf_42 ?_
                refine V_ldc C dX4_gainOf_43 cs_X4_46 ?_
                refine V_icmp_ne C (tgt := 52) dX4_gainOf_45 (by decide) (fun h45 => ?_) (fun h45 => ?_)
                · refine V_lload_n C dX4_gainOf_52 rfl ?_
                  refine V_ldc2 C dX4_gainOf_53 cs_X4_74 ?_
                  refine V_ldc2 C dX4_gainOf_56 cs_X4_76 ?_
                  refine V_aload_n C dX4_gainOf_59 rfl (by first | exact isR_r _ | exact isR_q _ | exact isR_n) ?_
                  refine V_getS C 4 2 rfl cf_4 fl_X4_23 (by decide) (by decide) dX4_gainOf_60 kp rp ?_
                  refine V_iload C dX4_gainOf_63 rfl ?_
                  refine V_aaldE C 7 (by decide) k23 (by decide) l23 rfl hi5 (by decide) dX4_gainOf_65 ?_
                  rw [a23]
                  dsimp only [va_rf]
                  refine V_iload_n C dX4_gainOf_66 rfl ?_
                  refine V_ialdE C k24 (by decide) l24 rfl hh (by decide) dX4_gainOf_67 ?_
                  refine V_i2l C dX4_gainOf_68 ?_
                  refine V_lmul C dX4_gainOf_69 ?_
                  refine V_ladd C dX4_gainOf_70 ?_
                  refine V_bipush C (v := 10) dX4_gainOf_71 (by decide) ?_
                  refine V_iload_n C dX4_gainOf_73 rfl ?_
                  refine V_isub C dX4_gainOf_74 ?_
                  refine V_ranks C rk_X4_71 dX4_gainOf_75 (fun t8 hT8 => ?_)
                  refine V_iload C dX4_gainOf_78 rfl ?_
                  refine V_xld C hT8 (v := nI ([14641, 1331, 121, 11, 1].getD i 0)) (vp_in_nI hi5 (by decide)) (by rw [nI_clamp (by omega)]; rcases (show i = 0 ∨ i = 1 ∨ i = 2 ∨ i = 3 ∨ i = 4 by omega) with rfl | rfl | rfl | rfl | rfl <;> rfl) dX4_gainOf_80 ?_
                  refine V_imul C dX4_gainOf_81 ?_
                  refine V_i2l C dX4_gainOf_82 ?_
                  refine V_ladd C dX4_gainOf_83 ?_
                  refine V_ladd C dX4_gainOf_84 ?_
                  refine V_lstore_n C dX4_gainOf_85 (by decide) rfl ?_
                  simp only [lset1, lset2, List.filter_cons, List.filter_nil, Nat.reduceBEq, Nat.reduceAdd, Bool.not_true, Bool.not_false, Bool.and_true, Bool.and_false, Bool.true_and, Bool.false_and, if_true, if_false, Bool.false_eq_true, reduceIte]
                  refine V_incN C dX4_gainOf_86 rfl (by decide) rfl ?_
                  simp only [lset1, lset2, List.filter_cons, List.filter_nil, Nat.reduceBEq, Nat.reduceAdd, Bool.not_true, Bool.not_false, Bool.and_true, Bool.and_false, Bool.true_and, Bool.false_and, if_true, if_false, Bool.false_eq_true, reduceIte]
                  refine V_goto C (tgt := 7) dX4_gainOf_89 (by decide) ?_
                  refine V_sub ?_ L
                  exact ⟨rfl, rfl, rfl, rfl, rfl, trivial⟩
                · exact absurd h45 q
              · exact absurd h28 (by decide)
      · rw [if_neg b] at hb
        have b' := b
        simp only [Bool.not_eq_true] at b'
        have L := ih (i + 1) (by omega) fun r hr h2 => by
          by_cases z : r = i
          · subst z; exact absurd h2 b
          · exact hok r (by omega) h2
        have eW : setW (wS S ad) s h (i + 1) = setW (wS S ad) s h i := by rw [setW_s, b', if_neg (by decide), Int.add_zero]
        rw [eW] at L
        refine V_iload C dX4_gainOf_7 rfl ?_
        refine V_iconst C (v := 5) dX4_gainOf_9 (by decide) ?_
        refine V_icmp_ge C (tgt := 92) dX4_gainOf_10 (by decide) (fun h10 => ?_) (fun h10 => ?_)
        · exact absurd h10 n10
        · refine V_iload C dX4_gainOf_13 rfl ?_
          refine V_ranks C rk_X4_71 dX4_gainOf_15 (fun t9 hT9 => ?_)
          refine V_xlen C hT9 dX4_gainOf_18 ?_
          refine V_icmp_ge C (tgt := 92) dX4_gainOf_19 (by decide) (fun h19 => ?_) (fun h19 => ?_)
          · exact absurd h19 n19
          · refine V_iload_n C dX4_gainOf_22 rfl ?_
            refine V_iload C dX4_gainOf_23 rfl ?_
            refine V_ishr C dX4_gainOf_25 ?_
            refine V_iconst C (v := 1) dX4_gainOf_26 (by decide) ?_
            refine V_iand C dX4_gainOf_27 ?_
            rw [hb]
            refine V_if_ne C (tgt := 34) dX4_gainOf_28 (by decide) (fun h28 => ?_) (fun h28 => ?_)
            · exact absurd rfl h28
            · refine V_goto C (tgt := 86) dX4_gainOf_31 (by decide) ?_
              refine V_incN C dX4_gainOf_86 rfl (by decide) rfl ?_
              simp only [lset1, lset2, List.filter_cons, List.filter_nil, Nat.reduceBEq, Nat.reduceAdd, Bool.not_true, Bool.not_false, Bool.and_true, Bool.and_false, Bool.true_and, Bool.false_and, if_true, if_false, Bool.false_eq_true, reduceIte]
              refine V_goto C (tgt := 7) dX4_gainOf_89 (by decide) ?_
              refine V_sub ?_ L
              exact ⟨rfl, rfl, rfl, rfl, rfl, trivial⟩
  have L := loop 5 0 (by omega) fun r hr => absurd hr (Nat.not_lt_zero r)
  refine V_ldc2 C dX4_gainOf_0 cs_X4_69 ?_
  refine V_lstore_n C dX4_gainOf_3 (by decide) rfl ?_
  simp only [lset1, lset2, List.filter_cons, List.filter_nil, Nat.reduceBEq, Nat.reduceAdd, Bool.not_true, Bool.not_false, Bool.and_true, Bool.and_false, Bool.true_and, Bool.false_and, if_true, if_false, Bool.false_eq_true, reduceIte]
  refine V_iconst C (v := 0) dX4_gainOf_4 (by decide) ?_
  refine V_istore C dX4_gainOf_5 (by decide) rfl ?_
  simp only [lset1, lset2, List.filter_cons, List.filter_nil, Nat.reduceBEq, Nat.reduceAdd, Bool.not_true, Bool.not_false, Bool.and_true, Bool.and_false, Bool.true_and, Bool.false_and, if_true, if_false, Bool.false_eq_true, reduceIte]
  refine V_sub ?_ L
  exact ⟨rfl, rfl, rfl, rfl, rfl, trivial⟩
/-- a home's gains are laid -/
theorem c_X4_weighSets (l : Launch) (hl : l.stackTraces = false) (G : gG) (S : sS) (ad : Nat → Nat → Nat) (σ : aS) (hC : RelC S ad σ) (M : Nat) (hM : M ≤ 5) (i408 : sI S 408 (ad 4 0) = nI (2 ^ M)) (h : Nat) (hh : h < 10) : Ct l G yX4_weighSets cX4_weighSets 3 none 2 0 0 [.ref (ad 4 0), .int (nI h)] S (fun v T => v = none ∧ FrP S T ∧ (∀ s, 1 ≤ s → s < 2 ^ M → sJ T (ad 28 0) s = lZ (gnI (okS S ad M) (wS S ad) (FS S ad) s h)) ∧ (∀ a, a ≠ ad 28 0 → sJ T a = sJ S a) ∧ sA T = sA S ∧ sQ T = sQ S ∧ sI T = sI S) (fun _ _ => False) := by
  refine Ct_of (by decide) (cat1_all (by repeat first | exact trivial | refine ⟨by first | rfl | exact isR_c (isR_q _), ?_⟩)) (Nat.le_of_ble_eq_true rfl) hl fun X C hXl hin => ?_
  subst hXl
  dsimp only [lArgs, Nat.reduceAdd]
  have h32 : 2 ^ M ≤ 32 := Nat.pow_le_pow_right (n := 2) (by decide) hM
  have kp : sK S (ad 4 0) = 5 := RelC_K hC 4 (by decide) rfl
  have r5 : sR S 405 (ad 4 0) = some (ad 28 0) := RelC_pR hC 405 28 (by decide) rfl rfl
  have r3 : sR S 403 (ad 4 0) = some (ad 25 0) := RelC_pR hC 403 25 (by decide) rfl rfl
  have k28 : sK S (ad 28 0) = 103 := RelC_kd hC 28 (by decide) rfl rfl
  have l28 : sL S (ad 28 0) = 32 := RelC_ln hC 28 (by decide) rfl rfl
  have k25 : sK S (ad 25 0) = 171 := RelC_kd hC 25 (by decide) rfl rfl
  have l25 : sL S (ad 25 0) = 10 := RelC_ln hC 25 (by decide) rfl rfl
  have loop : ∀ (t i : Nat) (T : sS), i + t = 2 ^ M → 1 ≤ i → (FrP S T ∧ (∀ s, 1 ≤ s → s < i → sJ T (ad 28 0) s = lZ (gnI (okS S ad M) (wS S ad) (FS S ad) s h)) ∧ (∀ a, a ≠ ad 28 0 → sJ T a = sJ S a) ∧ sA T = sA S ∧ sQ T = sQ S ∧ sI T = sI S) → V X G 3 (eQ X G (fun v T => v = none ∧ FrP S T ∧ (∀ s, 1 ≤ s → s < 2 ^ M → sJ T (ad 28 0) s = lZ (gnI (okS S ad M) (wS S ad) (FS S ad) s h)) ∧ (∀ a, a ≠ ad 28 0 → sJ T a = sJ S a) ∧ sA T = sA S ∧ sQ T = sQ S ∧ sI T = sI S) (fun _ _ => False) 0 0) 0 0 2 [(2, false, .int (nI i)), (0, false, .ref (ad 4 0)), (1, false, .int (nI h))] [] T := by
    intro t
    induction t with
    | zero =>
      intro i T hi h1 hT
      obtain rfl : i = 2 ^ M := by omega
      have kp2 : sK T (ad 4 0) = 5 := by rw [hT.1.1]; exact kp
      have i2 : sI T 408 (ad 4 0) = nI (2 ^ M) := by rw [hT.2.2.2.2.2]; exact i408
      refine V_iload_n C dX4_weighSets_2 rfl ?_
      refine V_aload_n C dX4_weighSets_3 rfl (by first | exact isR_r _ | exact isR_q _ | exact isR_n) ?_
      refine V_getIe C 4 8 rfl cf_4 fl_X4_43 (by decide) (by decide) dX4_weighSets_4 kp2 i2 ?_
      refine V_igeN C (tgt := 53) (by omega) (by omega) dX4_weighSets_7 (by decide) (fun h7 => ?_) (fun h7 => ?_)
      · refine V_vret C (by first | omega | decide) (by first | omega | decide) dX4_weighSets_53 ?_
        exact ⟨rfl, hT⟩
      · omega
    | succ t ih =>
      intro i T hi h1 hT
      have hi2 : i < 2 ^ M := by omega
      have hi32 : i < 32 := by omega
      obtain ⟨f, t1, t2, t3, t4, t5⟩ := hT
      have hR : RelC T ad σ := RelC_P hC f
      have kp2 : sK T (ad 4 0) = 5 := by rw [f.1]; exact kp
      have i2 : sI T 408 (ad 4 0) = nI (2 ^ M) := by rw [t5]; exact i408
      have r52 : sR T 405 (ad 4 0) = some (ad 28 0) := by rw [f.2.2.1]; exact r5
      have r32 : sR T 403 (ad 4 0) = some (ad 25 0) := by rw [f.2.2.1]; exact r3
      have k282 : sK T (ad 28 0) = 103 := by rw [f.1]; exact k28
      have l282 : sL T (ad 28 0) = 32 := by rw [f.2.1]; exact l28
      have k252 : sK T (ad 25 0) = 171 := by rw [f.1]; exact k25
      have l252 : sL T (ad 25 0) = 10 := by rw [f.2.1]; exact l25
      have eo : okS T ad M = okS S ad M := by unfold okS; rw [t3]
      have ew : wS T ad = wS S ad := by unfold wS; rw [t3]
      have next : ∀ v, v = lZ (gnI (okS S ad M) (wS S ad) (FS S ad) i h) → V X G 3 (eQ X G (fun v T => v = none ∧ FrP S T ∧ (∀ s, 1 ≤ s → s < 2 ^ M → sJ T (ad 28 0) s = lZ (gnI (okS S ad M) (wS S ad) (FS S ad) s h)) ∧ (∀ a, a ≠ ad 28 0 → sJ T a = sJ S a) ∧ sA T = sA S ∧ sQ T = sQ S ∧ sI T = sI S) (fun _ _ => False) 0 0) 0 0 2 [(2, false, .int (nI (i + 1))), (0, false, .ref (ad 4 0)), (1, false, .int (nI h))] [] (pJ T (ad 28 0) i v) := fun v hv => ih (i + 1) _ (by omega) (by omega) ⟨FrP_tr f (FrP_J (Or.inl k282)), fun s s1 s2 => by
          show up2 (sJ T) (ad 28 0) i v (ad 28 0) s = _
          by_cases e : s = i
          · rw [e, up2_s]; exact hv
          · rw [up2_n2 e]; exact t1 s s1 (by omega), fun a ha => (up2_far ha).trans (t2 a ha), t3, t4, t5⟩
      by_cases q : FS S ad h < cntB i 5
      · have L := next (-1) (by
          unfold gnI
          rw [iteP_t (Or.inl q)]; rfl)
        have n31 : ¬ bcF (nI i) ≤ sA T (ad 25 0) h := fun z => by
          rw [Int32.le_iff_toInt_le, bcF32 i hi32, t3] at z
          unfold FS at q
          omega
        refine V_iload_n C dX4_weighSets_2 rfl ?_
        refine V_aload_n C dX4_weighSets_3 rfl (by first | exact isR_r _ | exact isR_q _ | exact isR_n) ?_
        refine V_getIe C 4 8 rfl cf_4 fl_X4_43 (by decide) (by decide) dX4_weighSets_4 kp2 i2 ?_
        refine V_igeN C (tgt := 53) (by omega) (by omega) dX4_weighSets_7 (by decide) (fun h7 => ?_) (fun h7 => ?_)
        · omega
        · refine V_iload_n C dX4_weighSets_10 rfl ?_
          refine V_bipush C (v := 32) dX4_weighSets_11 (by decide) ?_
          refine V_icmp_ge C (tgt := 53) dX4_weighSets_13 (by decide) (fun h13 => ?_) (fun h13 => ?_)
          · exact absurd ((nI_leI (a := 32) (b := i) (by decide) (by omega)).mp h13) (by omega)
          · refine V_aload_n C dX4_weighSets_16 rfl (by first | exact isR_r _ | exact isR_q _ | exact isR_n) ?_
            refine V_getS C 4 5 rfl cf_4 fl_X4_32 (by decide) (by decide) dX4_weighSets_17 kp2 r52 ?_
            refine V_iload_n C dX4_weighSets_20 rfl ?_
            refine V_iload_n C dX4_weighSets_21 rfl ?_
            refine V_fS C (c_J6_bitCount _ hl G T _) ks_X4_59 (by decide) (by decide) rfl rfl (Nat.le_of_ble_eq_true rfl) dX4_weighSets_22 ?_
            dsimp only [Option.toList_some, Option.toList_none, List.cons_append, List.nil_append]
            refine V_aload_n C dX4_weighSets_25 rfl (by first | exact isR_r _ | exact isR_q _ | exact isR_n) ?_
            refine V_getS C 4 3 rfl cf_4 fl_X4_26 (by decide) (by decide) dX4_weighSets_26 kp2 r32 ?_
            refine V_iload_n C dX4_weighSets_29 rfl ?_
            refine V_ialdE C k252 (by decide) l252 rfl hh (by decide) dX4_weighSets_30 ?_
            refine V_icmp_le C (tgt := 40) dX4_weighSets_31 (by decide) (fun h31 => ?_) (fun h31 => ?_)
            · exact absurd h31 n31
            · refine V_ldc2 C dX4_weighSets_34 cs_X4_47 ?_
              refine V_goto C (tgt := 46) dX4_weighSets_37 (by decide) ?_
              refine V_lastE C k282 (by decide) l282 hi32 (by decide) dX4_weighSets_46 ?_
              refine V_incN C dX4_weighSets_47 rfl (by decide) rfl ?_
              simp only [lset1, lset2, List.filter_cons, List.filter_nil, Nat.reduceBEq, Nat.reduceAdd, Bool.not_true, Bool.not_false, Bool.and_true, Bool.and_false, Bool.true_and, Bool.false_and, if_true, if_false, Bool.false_eq_true, reduceIte]
              refine V_goto C (tgt := 2) dX4_weighSets_50 (by decide) ?_
              refine V_sub ?_ L
              exact ⟨rfl, rfl, rfl, trivial⟩
      · have L := next (lZ (iteP (∃ r, r < 5 ∧ i.testBit r = true ∧ ¬ okS T ad M r h) (-1) (-536870912 + setW (wS T ad) i h 5))) (by
          rw [eo, ew]
          unfold gnI
          refine congrArg lZ ?_
          by_cases z : ∃ r, r < 5 ∧ i.testBit r = true ∧ ¬ okS S ad M r h
          · rw [iteP_t z, iteP_t (Or.inr z)]
          · rw [iteP_f z, iteP_f fun y => y.elim q z])
        have n31 : bcF (nI i) ≤ sA T (ad 25 0) h := by
          rw [Int32.le_iff_toInt_le, bcF32 i hi32, t3]
          unfold FS at q
          omega
        refine V_iload_n C dX4_weighSets_2 rfl ?_
        refine V_aload_n C dX4_weighSets_3 rfl (by first | exact isR_r _ | exact isR_q _ | exact isR_n) ?_
        refine V_getIe C 4 8 rfl cf_4 fl_X4_43 (by decide) (by decide) dX4_weighSets_4 kp2 i2 ?_
        refine V_igeN C (tgt := 53) (by omega) (by omega) dX4_weighSets_7 (by decide) (fun h7 => ?_) (fun h7 => ?_)
        · omega
        · refine V_iload_n C dX4_weighSets_10 rfl ?_
          refine V_bipush C (v := 32) dX4_weighSets_11 (by decide) ?_
          refine V_icmp_ge C (tgt := 53) dX4_weighSets_13 (by decide) (fun h13 => ?_) (fun h13 => ?_)
          · exact absurd ((nI_leI (a := 32) (b := i) (by decide) (by omega)).mp h13) (by omega)
          · refine V_aload_n C dX4_weighSets_16 rfl (by first | exact isR_r _ | exact isR_q _ | exact isR_n) ?_
            refine V_getS C 4 5 rfl cf_4 fl_X4_32 (by decide) (by decide) dX4_weighSets_17 kp2 r52 ?_
            refine V_iload_n C dX4_weighSets_20 rfl ?_
            refine V_iload_n C dX4_weighSets_21 rfl ?_
            refine V_fS C (c_J6_bitCount _ hl G T _) ks_X4_59 (by decide) (by decide) rfl rfl (Nat.le_of_ble_eq_true rfl) dX4_weighSets_22 ?_
            dsimp only [Option.toList_some, Option.toList_none, List.cons_append, List.nil_append]
            refine V_aload_n C dX4_weighSets_25 rfl (by first | exact isR_r _ | exact isR_q _ | exact isR_n) ?_
            refine V_getS C 4 3 rfl cf_4 fl_X4_26 (by decide) (by decide) dX4_weighSets_26 kp2 r32 ?_
            refine V_iload_n C dX4_weighSets_29 rfl ?_
            refine V_ialdE C k252 (by decide) l252 rfl hh (by decide) dX4_weighSets_30 ?_
            refine V_icmp_le C (tgt := 40) dX4_weighSets_31 (by decide) (fun h31 => ?_) (fun h31 => ?_)
            · refine V_aload_n C dX4_weighSets_40 rfl (by first | exact isR_r _ | exact isR_q _ | exact isR_n) ?_
              refine V_iload_n C dX4_weighSets_41 rfl ?_
              refine V_iload_n C dX4_weighSets_42 rfl ?_
              refine V_fV C (c_X4_gainOf _ hl G T ad σ hR M hM i hi2 h hh) kv_X4_65 cf_4 (by decide) rfl kp2 (by decide) (by decide) rfl rfl (Nat.le_of_ble_eq_true rfl) dX4_weighSets_43 ?_
              dsimp only [Option.toList_some, Option.toList_none, List.cons_append, List.nil_append]
              refine V_lastE C k282 (by decide) l282 hi32 (by decide) dX4_weighSets_46 ?_
              refine V_incN C dX4_weighSets_47 rfl (by decide) rfl ?_
              simp only [lset1, lset2, List.filter_cons, List.filter_nil, Nat.reduceBEq, Nat.reduceAdd, Bool.not_true, Bool.not_false, Bool.and_true, Bool.and_false, Bool.true_and, Bool.false_and, if_true, if_false, Bool.false_eq_true, reduceIte]
              refine V_goto C (tgt := 2) dX4_weighSets_50 (by decide) ?_
              refine V_sub ?_ L
              exact ⟨rfl, rfl, rfl, trivial⟩
            · exact absurd n31 h31
  have L := loop (2 ^ M - 1) 1 S (by have : 0 < 2 ^ M := Nat.pow_pos (by decide); omega) (Nat.le_refl 1) ⟨FrP_0, fun s s1 s2 => by omega, fun _ _ => rfl, rfl, rfl, rfl⟩
  refine V_iconst C (v := 1) dX4_weighSets_0 (by decide) ?_
  refine V_istore_n C dX4_weighSets_1 (by decide) rfl ?_
  simp only [lset1, lset2, List.filter_cons, List.filter_nil, Nat.reduceBEq, Nat.reduceAdd, Bool.not_true, Bool.not_false, Bool.and_true, Bool.and_false, Bool.true_and, Bool.false_and, if_true, if_false, Bool.false_eq_true, reduceIte]
  refine V_sub ?_ L
  exact ⟨rfl, rfl, rfl, trivial⟩

