/-! THE CLASS: the library's bitCount; a child's home and wishes; who is at a number. -/
theorem cs_J6_265 : Cond.constant RJ6 265 (1431655765) ∈ lw_good := lg_in 413 (by decide +kernel) (by decide +kernel)
theorem cs_J6_266 : Cond.constant RJ6 266 (858993459) ∈ lw_good := lg_in 414 (by decide +kernel) (by decide +kernel)
theorem cs_J6_267 : Cond.constant RJ6 267 (252645135) ∈ lw_good := lg_in 415 (by decide +kernel) (by decide +kernel)
def bU (x y : Int32) : Int32 := (x.toUInt32 >>> (y.toUInt32 &&& Int32.toUInt32 31)).toInt32
def bc1 (x : Int32) : Int32 := x - (bU x 1 &&& 1431655765)
def bc2 (x : Int32) : Int32 := (bc1 x &&& 858993459) + (bU (bc1 x) 2 &&& 858993459)
def bc3 (x : Int32) : Int32 := (bc2 x + bU (bc2 x) 4) &&& 252645135
def bc4 (x : Int32) : Int32 := bc3 x + bU (bc3 x) 8
def bc5 (x : Int32) : Int32 := bc4 x + bU (bc4 x) 16
def bcF (x : Int32) : Int32 := bc5 x &&& 63
theorem bc_ones {x : Int32} (h : 0 ≤ x ∧ x ≤ 15) : bcF x = ones4 x := by
  obtain ⟨k, hk, rfl⟩ := ix_of (n := 16) (by decide) h
  revert k
  decide
theorem c_J6_bitCount (l : Launch) (hl : l.stackTraces = false) (G : gG) (S : sS) (x : Int32) : CtF l G yJ6_bitCount_0f7a4 cJ6_bitCount_0f7a4 1 (Option.some FieldType.int) 1 0 0 [.int x] S (some (.int (bcF x))) S := by
  refine Ct_of (by decide) (cat1_all (by repeat first | exact trivial | refine ⟨by first | rfl | exact isR_c (isR_q _), ?_⟩)) (Nat.le_of_ble_eq_true rfl) hl fun X C hXl hin => ?_
  subst hXl
  dsimp only [lArgs, Nat.reduceAdd]
  refine V_iload_n C dJ6_bitCount_0f7a4_0 rfl ?_
  refine V_iload_n C dJ6_bitCount_0f7a4_1 rfl ?_
  refine V_iconst C (v := 1) dJ6_bitCount_0f7a4_2 (by decide) ?_
  refine V_iushr C dJ6_bitCount_0f7a4_3 ?_
  refine V_ldc_w C dJ6_bitCount_0f7a4_4 cs_J6_265 ?_
  refine V_iand C dJ6_bitCount_0f7a4_7 ?_
  refine V_isub C dJ6_bitCount_0f7a4_8 ?_
  refine V_istore_n C dJ6_bitCount_0f7a4_9 (by decide) rfl ?_
  simp only [lset1, lset2, List.filter_cons, List.filter_nil, Nat.reduceBEq, Nat.reduceAdd, Bool.not_true, Bool.not_false, Bool.and_true, Bool.and_false, Bool.true_and, Bool.false_and, if_true, if_false, Bool.false_eq_true, reduceIte]
  refine V_iload_n C dJ6_bitCount_0f7a4_10 rfl ?_
  refine V_ldc_w C dJ6_bitCount_0f7a4_11 cs_J6_266 ?_
  refine V_iand C dJ6_bitCount_0f7a4_14 ?_
  refine V_iload_n C dJ6_bitCount_0f7a4_15 rfl ?_
  refine V_iconst C (v := 2) dJ6_bitCount_0f7a4_16 (by decide) ?_
  refine V_iushr C dJ6_bitCount_0f7a4_17 ?_
  refine V_ldc_w C dJ6_bitCount_0f7a4_18 cs_J6_266 ?_
  refine V_iand C dJ6_bitCount_0f7a4_21 ?_
  refine V_iadd C dJ6_bitCount_0f7a4_22 ?_
  refine V_istore_n C dJ6_bitCount_0f7a4_23 (by decide) rfl ?_
  simp only [lset1, lset2, List.filter_cons, List.filter_nil, Nat.reduceBEq, Nat.reduceAdd, Bool.not_true, Bool.not_false, Bool.and_true, Bool.and_false, Bool.true_and, Bool.false_and, if_true, if_false, Bool.false_eq_true, reduceIte]
  refine V_iload_n C dJ6_bitCount_0f7a4_24 rfl ?_
  refine V_iload_n C dJ6_bitCount_0f7a4_25 rfl ?_
  refine V_iconst C (v := 4) dJ6_bitCount_0f7a4_26 (by decide) ?_
  refine V_iushr C dJ6_bitCount_0f7a4_27 ?_
  refine V_iadd C dJ6_bitCount_0f7a4_28 ?_
  refine V_ldc_w C dJ6_bitCount_0f7a4_29 cs_J6_267 ?_
  refine V_iand C dJ6_bitCount_0f7a4_32 ?_
  refine V_istore_n C dJ6_bitCount_0f7a4_33 (by decide) rfl ?_
  simp only [lset1, lset2, List.filter_cons, List.filter_nil, Nat.reduceBEq, Nat.reduceAdd, Bool.not_true, Bool.not_false, Bool.and_true, Bool.and_false, Bool.true_and, Bool.false_and, if_true, if_false, Bool.false_eq_true, reduceIte]
  refine V_iload_n C dJ6_bitCount_0f7a4_34 rfl ?_
  refine V_iload_n C dJ6_bitCount_0f7a4_35 rfl ?_
  refine V_bipush C (v := 8) dJ6_bitCount_0f7a4_36 (by decide) ?_
  refine V_iushr C dJ6_bitCount_0f7a4_38 ?_
  refine V_iadd C dJ6_bitCount_0f7a4_39 ?_
  refine V_istore_n C dJ6_bitCount_0f7a4_40 (by decide) rfl ?_
  simp only [lset1, lset2, List.filter_cons, List.filter_nil, Nat.reduceBEq, Nat.reduceAdd, Bool.not_true, Bool.not_false, Bool.and_true, Bool.and_false, Bool.true_and, Bool.false_and, if_true, if_false, Bool.false_eq_true, reduceIte]
  refine V_iload_n C dJ6_bitCount_0f7a4_41 rfl ?_
  refine V_iload_n C dJ6_bitCount_0f7a4_42 rfl ?_
  refine V_bipush C (v := 16) dJ6_bitCount_0f7a4_43 (by decide) ?_
  refine V_iushr C dJ6_bitCount_0f7a4_45 ?_
  refine V_iadd C dJ6_bitCount_0f7a4_46 ?_
  refine V_istore_n C dJ6_bitCount_0f7a4_47 (by decide) rfl ?_
  simp only [lset1, lset2, List.filter_cons, List.filter_nil, Nat.reduceBEq, Nat.reduceAdd, Bool.not_true, Bool.not_false, Bool.and_true, Bool.and_false, Bool.true_and, Bool.false_and, if_true, if_false, Bool.false_eq_true, reduceIte]
  refine V_iload_n C dJ6_bitCount_0f7a4_48 rfl ?_
  refine V_bipush C (v := 63) dJ6_bitCount_0f7a4_49 (by decide) ?_
  refine V_iand C dJ6_bitCount_0f7a4_51 ?_
  refine V_iret C (by decide) (by decide) dJ6_bitCount_0f7a4_52 ?_
  exact ⟨rfl, rfl⟩
theorem c_X0_isIn (l : Launch) (hl : l.stackTraces = false) (G : gG) (S : sS) (ad : Nat → Nat → Nat) (σ : aS) (hC : RelC S ad σ) (hI : IC σ) (hS : IS σ) (k : Nat) (hk : k < cN σ 1) (hh : Nat) (hhk : hh < cN σ 20) : CtF l G yX0_isIn cX0_isIn 2 (Option.some FieldType.boolean) 1 0 0 [.ref (ad 0 k), .ref (ad 2 hh)] S (some (.int (pI9 (mHomeOf σ k = nI hh)))) S := by
  refine Ct_of (by decide) (cat1_all (by repeat first | exact trivial | refine ⟨by first | rfl | exact isR_c (isR_q _), ?_⟩)) (Nat.le_of_ble_eq_true rfl) hl fun X C hXl hin => ?_
  subst hXl
  dsimp only [lArgs, Nat.reduceAdd]
  have kc : sK S (ad 0 k) = 1 := RelC_K hC 0 (by decide) hk
  have rc_11 : sR S 11 (ad 0 k) = (if σ.1 10 k = -1 then none else some (ad 6 (nx (σ.1 10 k)))) := RelC_R hC 0 11 rfl (by unfold cFd; omega) rfl hk
  rcases hI.2.2.2.2.2.2.2 k hk with e | ⟨j, hj, e⟩
  · rw [if_pos e] at rc_11
    have eh : ¬ mHomeOf σ k = nI hh := by
      unfold mHomeOf
      rw [if_pos e]
      exact fun z => nI_ne_m1 (by have := hI.2.2.1.2; omega) z.symm
    refine V_aload_n C dX0_isIn_0 rfl (by first | exact isR_r _ | exact isR_q _ | exact isR_n) ?_
    refine V_getRe C 0 11 rfl cf_0 fl_X0_51 (by decide) (by decide) dX0_isIn_1 (by assumption) (by assumption) ?_
    refine V_ifnull C (tgt := 22) dX0_isIn_4 (by decide) (fun h4 => ?_) (fun a4 h4 => ?_)
    · refine V_iconst C (v := 0) dX0_isIn_22 (by decide) ?_
      refine V_zret C (by first | rfl | exact bI_nz _) (by first | omega | decide) (by first | omega | decide) dX0_isIn_23 ?_
      rw [pI9_f eh]
      exact ⟨rfl, rfl⟩
    · cases h4
  · have hj100 : j < 100 := by have := hI.2.2.2.2.2.1.2; omega
    have ej : nx (σ.1 10 k) = j := by rw [e]; exact nI_clamp (by omega)
    have e9 : ¬ σ.1 10 k = -1 := by rw [e]; exact nI_ne_m1 (by omega)
    rw [if_neg e9, ej] at rc_11
    obtain ⟨-, z, hz, ez⟩ := hS j hj
    have ks : sK S (ad 6 j) = 7 := RelC_K hC 6 (by decide) hj
    have rs_601 : sR S 601 (ad 6 j) = some (ad 2 (nx (σ.1 45 j))) := RelC_R hC 6 601 rfl (by unfold cFd; omega) rfl hj
    have hz10 : z < 10 := by have := hI.2.2.1.2; omega
    have hh10 : hh < 10 := by have := hI.2.2.1.2; omega
    rw [ez, nx_nI (j := z) (by omega)] at rs_601
    have em : mHomeOf σ k = nI z := by
      unfold mHomeOf
      exact (if_neg e9).trans ((congrArg (σ.1 45) ej).trans ez)
    rw [em]
    have key : nI z = nI hh ↔ (some (ad 2 z) = some (ad 2 hh)) := by
      constructor
      · intro q
        have q2 := congrArg nx q
        rw [nx_nI (j := z) (by omega), nx_nI (j := hh) (by omega)] at q2
        rw [q2]
      · intro q
        have q2 := hC.2.1 2 z hh (by decide) (by decide) (by decide) hz hhk (Option.some.inj q)
        rw [q2]
    refine V_aload_n C dX0_isIn_0 rfl (by first | exact isR_r _ | exact isR_q _ | exact isR_n) ?_
    refine V_getRe C 0 11 rfl cf_0 fl_X0_51 (by decide) (by decide) dX0_isIn_1 (by assumption) (by assumption) ?_
    refine V_ifnull C (tgt := 22) dX0_isIn_4 (by decide) (fun h4 => ?_) (fun a4 h4 => ?_)
    · cases h4
    · cases h4
      refine V_aload_n C dX0_isIn_7 rfl (by first | exact isR_r _ | exact isR_q _ | exact isR_n) ?_
      refine V_getRe C 0 11 rfl cf_0 fl_X0_51 (by decide) (by decide) dX0_isIn_8 (by assumption) (by assumption) ?_
      refine V_getRe C 6 1 rfl cf_6 fl_X0_55 (by decide) (by decide) dX0_isIn_11 (by assumption) (by assumption) ?_
      refine V_aload_n C dX0_isIn_14 rfl (by first | exact isR_r _ | exact isR_q _ | exact isR_n) ?_
      refine V_acmp_ne C (tgt := 22) (rx := some (ad 2 z)) (ry := some (ad 2 hh)) dX0_isIn_15 (by decide) (fun h15 => ?_) (fun h15 => ?_)
      · refine V_iconst C (v := 0) dX0_isIn_22 (by decide) ?_
        refine V_zret C (by first | rfl | exact bI_nz _) (by first | omega | decide) (by first | omega | decide) dX0_isIn_23 ?_
        first | (rw [pI9_f (fun q => h15 (key.mp q))]; exact ⟨rfl, rfl⟩) | (rw [pI9_t (key.mpr h15)]; exact ⟨rfl, rfl⟩)
      · refine V_iconst C (v := 1) dX0_isIn_18 (by decide) ?_
        refine V_goto C (tgt := 23) dX0_isIn_19 (by decide) ?_
        refine V_zret C (by first | rfl | exact bI_nz _) (by first | omega | decide) (by first | omega | decide) dX0_isIn_23 ?_
        first | (rw [pI9_f (fun q => h15 (key.mp q))]; exact ⟨rfl, rfl⟩) | (rw [pI9_t (key.mpr h15)]; exact ⟨rfl, rfl⟩)
theorem c_X0_wishAbout (l : Launch) (hl : l.stackTraces = false) (G : gG) (S : sS) (ad : Nat → Nat → Nat) (σ : aS) (hC : RelC S ad σ) (k : Nat) (hk : k < cN σ 1) (hh : Nat) (hhk : hh < 10) : CtF l G yX0_wishAbout cX0_wishAbout 2 (Option.some FieldType.int) 1 0 0 [.ref (ad 0 k), .int (nI hh)] S (some (.int (σ.1 19 (10 * k + hh)))) S := by
  refine Ct_of (by decide) (cat1_all (by repeat first | exact trivial | refine ⟨by first | rfl | exact isR_c (isR_q _), ?_⟩)) (Nat.le_of_ble_eq_true rfl) hl fun X C hXl hin => ?_
  subst hXl
  dsimp only [lArgs, Nat.reduceAdd]
  have kc : sK S (ad 0 k) = 1 := RelC_K hC 0 (by decide) hk
  have rc_6 : sR S 6 (ad 0 k) = some (ad 11 k) := RelC_R hC 0 6 rfl (by unfold cFd; omega) rfl hk
  have kw : sK S (ad 11 k) = 111 := hC.1 11 k (by decide) (by decide) (by decide) hk
  have lw : sL S (ad 11 k) = 10 := hC.2.2.2.2.1 11 k (by decide) (by decide) hk
  have aw := (hC.2.2.2.2.2.1 k hk).1 hh hhk
  refine V_iload_n C dX0_wishAbout_0 rfl ?_
  refine V_if_lt C (tgt := 22) dX0_wishAbout_1 (by decide) (fun h1 => ?_) (fun h1 => ?_)
  · exact absurd h1 (Int32.not_lt.mpr (nI_pos' (by omega)))
  · refine V_iload_n C dX0_wishAbout_4 rfl ?_
    refine V_aload_n C dX0_wishAbout_5 rfl (by first | exact isR_r _ | exact isR_q _ | exact isR_n) ?_
    refine V_getS C 0 6 rfl cf_0 fl_X0_33 (by decide) (by decide) dX0_wishAbout_6 (by assumption) (by assumption) ?_
    refine V_alen C (v := nI 10) (by assumption) (by decide) (by rw [lw]; rfl) dX0_wishAbout_9 ?_
    refine V_igeN C (tgt := 22) (by omega) (by omega) dX0_wishAbout_10 (by decide) (fun h10 => ?_) (fun h10 => ?_)
    · omega
    · refine V_aload_n C dX0_wishAbout_13 rfl (by first | exact isR_r _ | exact isR_q _ | exact isR_n) ?_
      refine V_getS C 0 6 rfl cf_0 fl_X0_33 (by decide) (by decide) dX0_wishAbout_14 (by assumption) (by assumption) ?_
      refine V_iload_n C dX0_wishAbout_17 rfl ?_
      refine V_ialdE C (by assumption) (by decide) (by assumption) rfl (by omega) (by decide) dX0_wishAbout_18 ?_
      rw [aw]
      refine V_goto C (tgt := 23) dX0_wishAbout_19 (by decide) ?_
      refine V_iret C (by first | omega | decide) (by first | omega | decide) dX0_wishAbout_23 ?_
      exact ⟨rfl, rfl⟩
theorem c_X0_refuses (l : Launch) (hl : l.stackTraces = false) (G : gG) (S : sS) (ad : Nat → Nat → Nat) (σ : aS) (hC : RelC S ad σ) (k : Nat) (hk : k < cN σ 1) (hh : Nat) (hhk : hh < 10) : CtF l G yX0_refuses cX0_refuses 2 (Option.some FieldType.boolean) 2 0 0 [.ref (ad 0 k), .int (nI hh)] S (some (.int (pI9 (σ.1 19 (10 * k + hh) = 3)))) S := by
  refine Ct_of (by decide) (cat1_all (by repeat first | exact trivial | refine ⟨by first | rfl | exact isR_c (isR_q _), ?_⟩)) (Nat.le_of_ble_eq_true rfl) hl fun X C hXl hin => ?_
  subst hXl
  dsimp only [lArgs, Nat.reduceAdd]
  have kc : sK S (ad 0 k) = 1 := RelC_K hC 0 (by decide) hk
  refine V_aload_n C dX0_refuses_0 rfl (by first | exact isR_r _ | exact isR_q _ | exact isR_n) ?_
  refine V_iload_n C dX0_refuses_1 rfl ?_
  refine V_fV C (c_X0_wishAbout _ hl G S ad σ hC k hk hh hhk) kv_X0_86 cf_0 (by decide) rfl (by assumption) (by decide) (by decide) rfl rfl (Nat.le_of_ble_eq_true rfl) dX0_refuses_2 ?_
  dsimp only [Option.toList_some, Option.toList_none, List.cons_append, List.nil_append]
  refine V_iconst C (v := 3) dX0_refuses_5 (by decide) ?_
  refine V_icmp_ne C (tgt := 13) dX0_refuses_6 (by decide) (fun h6 => ?_) (fun h6 => ?_)
  · refine V_iconst C (v := 0) dX0_refuses_13 (by decide) ?_
    refine V_zret C (by first | rfl | exact bI_nz _) (by first | omega | decide) (by first | omega | decide) dX0_refuses_14 ?_
    first | (rw [pI9_t h6]; exact ⟨rfl, rfl⟩) | (rw [pI9_f h6]; exact ⟨rfl, rfl⟩)
  · refine V_iconst C (v := 1) dX0_refuses_9 (by decide) ?_
    refine V_goto C (tgt := 14) dX0_refuses_10 (by decide) ?_
    refine V_zret C (by first | rfl | exact bI_nz _) (by first | omega | decide) (by first | omega | decide) dX0_refuses_14 ?_
    first | (rw [pI9_t h6]; exact ⟨rfl, rfl⟩) | (rw [pI9_f h6]; exact ⟨rfl, rfl⟩)
theorem c_X0_wishWorth (l : Launch) (hl : l.stackTraces = false) (G : gG) (S : sS) (ad : Nat → Nat → Nat) (σ : aS) (hC : RelC S ad σ) (k : Nat) (hk : k < cN σ 1) (hh : Nat) (hhk : hh < 10) : CtF l G yX0_wishWorth cX0_wishWorth 3 (Option.some FieldType.int) 2 0 0 [.ref (ad 0 k), .int (nI hh)] S (some (.int (if σ.1 19 (10 * k + hh) = 0 then 0 else if σ.1 19 (10 * k + hh) = 1 then 8 else -8))) S := by
  refine Ct_of (by decide) (cat1_all (by repeat first | exact trivial | refine ⟨by first | rfl | exact isR_c (isR_q _), ?_⟩)) (Nat.le_of_ble_eq_true rfl) hl fun X C hXl hin => ?_
  subst hXl
  dsimp only [lArgs, Nat.reduceAdd]
  have kc : sK S (ad 0 k) = 1 := RelC_K hC 0 (by decide) hk
  refine V_aload_n C dX0_wishWorth_0 rfl (by first | exact isR_r _ | exact isR_q _ | exact isR_n) ?_
  refine V_iload_n C dX0_wishWorth_1 rfl ?_
  refine V_fV C (c_X0_wishAbout _ hl G S ad σ hC k hk hh hhk) kv_X0_86 cf_0 (by decide) rfl (by assumption) (by decide) (by decide) rfl rfl (Nat.le_of_ble_eq_true rfl) dX0_wishWorth_2 ?_
  dsimp only [Option.toList_some, Option.toList_none, List.cons_append, List.nil_append]
  refine V_istore_n C dX0_wishWorth_5 (by decide) rfl ?_
  simp only [lset1, lset2, List.filter_cons, List.filter_nil, Nat.reduceBEq, Nat.reduceAdd, Bool.not_true, Bool.not_false, Bool.and_true, Bool.and_false, Bool.true_and, Bool.false_and, if_true, if_false, Bool.false_eq_true, reduceIte]
  refine V_iload_n C dX0_wishWorth_6 rfl ?_
  refine V_if_ne C (tgt := 12) dX0_wishWorth_7 (by decide) (fun h7 => ?_) (fun h7 => ?_)
  · refine V_iload_n C dX0_wishWorth_12 rfl ?_
    refine V_iconst C (v := 1) dX0_wishWorth_13 (by decide) ?_
    refine V_icmp_ne C (tgt := 22) dX0_wishWorth_14 (by decide) (fun h14 => ?_) (fun h14 => ?_)
    · refine V_bipush C (v := (-8)) dX0_wishWorth_22 (by decide) ?_
      refine V_iret C (by first | omega | decide) (by first | omega | decide) dX0_wishWorth_24 ?_
      first | (rw [if_pos h7]; exact ⟨rfl, rfl⟩) | (rw [if_neg h7, if_pos h14]; exact ⟨rfl, rfl⟩) | (rw [if_neg h7, if_neg h14]; exact ⟨rfl, rfl⟩)
    · refine V_bipush C (v := 8) dX0_wishWorth_17 (by decide) ?_
      refine V_goto C (tgt := 24) dX0_wishWorth_19 (by decide) ?_
      refine V_iret C (by first | omega | decide) (by first | omega | decide) dX0_wishWorth_24 ?_
      first | (rw [if_pos h7]; exact ⟨rfl, rfl⟩) | (rw [if_neg h7, if_pos h14]; exact ⟨rfl, rfl⟩) | (rw [if_neg h7, if_neg h14]; exact ⟨rfl, rfl⟩)
  · refine V_iconst C (v := 0) dX0_wishWorth_10 (by decide) ?_
    refine V_iret C (by first | omega | decide) (by first | omega | decide) dX0_wishWorth_11 ?_
    first | (rw [if_pos h7]; exact ⟨rfl, rfl⟩) | (rw [if_neg h7, if_pos h14]; exact ⟨rfl, rfl⟩) | (rw [if_neg h7, if_neg h14]; exact ⟨rfl, rfl⟩)

