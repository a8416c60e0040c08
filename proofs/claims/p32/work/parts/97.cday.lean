/-! THE CLASS: a day of a family, of a child. -/
theorem c_X1_countVisit (l : Launch) (hl : l.stackTraces = false) (G : gG) (S : sS) (f : Nat) (kf : sK S f = 2) : Ct l G yX1_countVisit cX1_countVisit 1 none 1 0 0 [.ref f] S (fun w T => w = none ∧ (sK T f = 2 ∧ At S T f ∧ sI T 100 f = sI S 100 f ∧ sI T 101 f = sI S 101 f ∧ sI T 102 f = (if sI S 101 f = 0 then sI S 102 f else sI S 102 f + 1) ∧ sI T 103 f = (if sI S 101 f = 0 then sI S 103 f + 1 else sI S 103 f) ∧ sI T 104 f = (if sI S 101 f = 0 then 0 else sI S 104 f + 1) ∧ sI T 105 f = (if sI S 101 f = 0 then sI S 105 f + 1 else 0) ∧ sI T 106 f = (if 3 ≤ (if sI S 101 f = 0 then sI S 105 f + 1 else 0) then 1 else if 3 ≤ (if sI S 101 f = 0 then 0 else sI S 104 f + 1) then 0 else sI S 106 f))) (fun _ _ => False) := by
  refine Ct_of (by decide) (cat1_all (by repeat first | exact trivial | refine ⟨by first | rfl | exact isR_c (isR_q _), ?_⟩)) (Nat.le_of_ble_eq_true rfl) hl fun X C hXl hin => ?_
  subst hXl
  dsimp only [lArgs, Nat.reduceAdd]
  have tail : ∀ T, (sK T f = 2 ∧ At S T f ∧ sI T 100 f = sI S 100 f ∧ sI T 101 f = sI S 101 f ∧ sI T 102 f = (if sI S 101 f = 0 then sI S 102 f else sI S 102 f + 1) ∧ sI T 103 f = (if sI S 101 f = 0 then sI S 103 f + 1 else sI S 103 f) ∧ sI T 104 f = (if sI S 101 f = 0 then 0 else sI S 104 f + 1) ∧ sI T 105 f = (if sI S 101 f = 0 then sI S 105 f + 1 else 0) ∧ sI T 106 f = sI S 106 f) → V X G 1 (eQ X G (fun w T => w = none ∧ (sK T f = 2 ∧ At S T f ∧ sI T 100 f = sI S 100 f ∧ sI T 101 f = sI S 101 f ∧ sI T 102 f = (if sI S 101 f = 0 then sI S 102 f else sI S 102 f + 1) ∧ sI T 103 f = (if sI S 101 f = 0 then sI S 103 f + 1 else sI S 103 f) ∧ sI T 104 f = (if sI S 101 f = 0 then 0 else sI S 104 f + 1) ∧ sI T 105 f = (if sI S 101 f = 0 then sI S 105 f + 1 else 0) ∧ sI T 106 f = (if 3 ≤ (if sI S 101 f = 0 then sI S 105 f + 1 else 0) then 1 else if 3 ≤ (if sI S 101 f = 0 then 0 else sI S 104 f + 1) then 0 else sI S 106 f))) (fun _ _ => False) 0 0) 0 0 60 [(0, false, .ref f)] [] T := by
    intro T hT
    obtain ⟨kT, aT, j0, j1, j2, j3, j4, j5, j6⟩ := hT
    refine V_aload_n C dX1_countVisit_60 rfl (by first | exact isR_r _ | exact isR_q _ | exact isR_n) ?_
    refine V_getIe C 1 5 rfl cf_1 fl_X1_26 (by decide) (by decide) dX1_countVisit_61 kT j5 ?_
    refine V_iconst C (v := 3) dX1_countVisit_64 (by decide) ?_
    refine V_icmp_lt C (tgt := 76) dX1_countVisit_65 (by decide) (fun h65 => ?_) (fun h65 => ?_)
    · refine V_aload_n C dX1_countVisit_76 rfl (by first | exact isR_r _ | exact isR_q _ | exact isR_n) ?_
      refine V_getIe C 1 4 rfl cf_1 fl_X1_23 (by decide) (by decide) dX1_countVisit_77 kT j4 ?_
      refine V_iconst C (v := 3) dX1_countVisit_80 (by decide) ?_
      refine V_icmp_lt C (tgt := 89) dX1_countVisit_81 (by decide) (fun h81 => ?_) (fun h81 => ?_)
      · refine V_vret C (by first | omega | decide) (by first | omega | decide) dX1_countVisit_89 ?_
        first | (refine ⟨rfl, kT, At_I aT, (sI_n1 (by decide)).trans j0, (sI_n1 (by decide)).trans j1, (sI_n1 (by decide)).trans j2, (sI_n1 (by decide)).trans j3, (sI_n1 (by decide)).trans j4, (sI_n1 (by decide)).trans j5, ?_⟩; first | (rw [if_pos q65]; exact sI_s) | (rw [if_neg (Int32.not_le.mpr h65), if_pos q81]; exact sI_s)) | (refine ⟨rfl, kT, aT, j0, j1, j2, j3, j4, j5, ?_⟩; rw [if_neg (Int32.not_le.mpr h65), if_neg (Int32.not_le.mpr h81)]; exact j6)
      · have q81 := Int32.not_lt.mp h81
        refine V_aload_n C dX1_countVisit_84 rfl (by first | exact isR_r _ | exact isR_q _ | exact isR_n) ?_
        refine V_iconst C (v := 0) dX1_countVisit_85 (by decide) ?_
        refine V_putZ C 1 6 rfl cf_1 pl_X1_32 (by decide) (by decide) dX1_countVisit_86 kT (Or.inl rfl) ?_
        refine V_vret C (by first | omega | decide) (by first | omega | decide) dX1_countVisit_89 ?_
        first | (refine ⟨rfl, kT, At_I aT, (sI_n1 (by decide)).trans j0, (sI_n1 (by decide)).trans j1, (sI_n1 (by decide)).trans j2, (sI_n1 (by decide)).trans j3, (sI_n1 (by decide)).trans j4, (sI_n1 (by decide)).trans j5, ?_⟩; first | (rw [if_pos q65]; exact sI_s) | (rw [if_neg (Int32.not_le.mpr h65), if_pos q81]; exact sI_s)) | (refine ⟨rfl, kT, aT, j0, j1, j2, j3, j4, j5, ?_⟩; rw [if_neg (Int32.not_le.mpr h65), if_neg (Int32.not_le.mpr h81)]; exact j6)
    · have q65 := Int32.not_lt.mp h65
      refine V_aload_n C dX1_countVisit_68 rfl (by first | exact isR_r _ | exact isR_q _ | exact isR_n) ?_
      refine V_iconst C (v := 1) dX1_countVisit_69 (by decide) ?_
      refine V_putZ C 1 6 rfl cf_1 pl_X1_32 (by decide) (by decide) dX1_countVisit_70 kT (Or.inr rfl) ?_
      refine V_goto C (tgt := 89) dX1_countVisit_73 (by decide) ?_
      refine V_vret C (by first | omega | decide) (by first | omega | decide) dX1_countVisit_89 ?_
      first | (refine ⟨rfl, kT, At_I aT, (sI_n1 (by decide)).trans j0, (sI_n1 (by decide)).trans j1, (sI_n1 (by decide)).trans j2, (sI_n1 (by decide)).trans j3, (sI_n1 (by decide)).trans j4, (sI_n1 (by decide)).trans j5, ?_⟩; first | (rw [if_pos q65]; exact sI_s) | (rw [if_neg (Int32.not_le.mpr h65), if_pos q81]; exact sI_s)) | (refine ⟨rfl, kT, aT, j0, j1, j2, j3, j4, j5, ?_⟩; rw [if_neg (Int32.not_le.mpr h65), if_neg (Int32.not_le.mpr h81)]; exact j6)
  refine V_aload_n C dX1_countVisit_0 rfl (by first | exact isR_r _ | exact isR_q _ | exact isR_n) ?_
  refine V_getIe C 1 1 rfl cf_1 fl_X1_16 (by decide) (by decide) dX1_countVisit_1 kf rfl ?_
  refine V_if_eq C (tgt := 35) dX1_countVisit_4 (by decide) (fun h4 => ?_) (fun h4 => ?_)
  · refine V_aload_n C dX1_countVisit_35 rfl (by first | exact isR_r _ | exact isR_q _ | exact isR_n) ?_
    refine V_dup C dX1_countVisit_36 (by first | rfl | exact isR_c (isR_q _)) ?_
    refine V_getIe C 1 3 rfl cf_1 fl_X1_29 (by decide) (by decide) dX1_countVisit_37 kf rfl ?_
    refine V_iconst C (v := 1) dX1_countVisit_40 (by decide) ?_
    refine V_iadd C dX1_countVisit_41 ?_
    refine V_putI C 1 3 rfl cf_1 pl_X1_29 (by decide) (by decide) dX1_countVisit_42 kf ?_
    refine V_aload_n C dX1_countVisit_45 rfl (by first | exact isR_r _ | exact isR_q _ | exact isR_n) ?_
    refine V_dup C dX1_countVisit_46 (by first | rfl | exact isR_c (isR_q _)) ?_
    refine V_getIe C 1 5 rfl cf_1 fl_X1_26 (by decide) (by decide) dX1_countVisit_47 kf (show sI (pI S 103 f (sI S 103 f + 1)) 105 f = sI S 105 f from sI_n1 (by decide)) ?_
    refine V_iconst C (v := 1) dX1_countVisit_50 (by decide) ?_
    refine V_iadd C dX1_countVisit_51 ?_
    refine V_putI C 1 5 rfl cf_1 pl_X1_26 (by decide) (by decide) dX1_countVisit_52 kf ?_
    refine V_aload_n C dX1_countVisit_55 rfl (by first | exact isR_r _ | exact isR_q _ | exact isR_n) ?_
    refine V_iconst C (v := 0) dX1_countVisit_56 (by decide) ?_
    refine V_putI C 1 4 rfl cf_1 pl_X1_23 (by decide) (by decide) dX1_countVisit_57 kf ?_
    first | exact tail _ ⟨kf, At_I (At_I (At_I At_0)), (sI_n1 (by decide)).trans ((sI_n1 (by decide)).trans (sI_n1 (by decide))), (sI_n1 (by decide)).trans ((sI_n1 (by decide)).trans (sI_n1 (by decide))), by rw [if_neg h4]; exact (sI_n1 (by decide)).trans ((sI_n1 (by decide)).trans (sI_s)), by rw [if_neg h4]; exact (sI_n1 (by decide)).trans ((sI_n1 (by decide)).trans (sI_n1 (by decide))), by rw [if_neg h4]; exact (sI_n1 (by decide)).trans (sI_s), by rw [if_neg h4]; exact sI_s, (sI_n1 (by decide)).trans ((sI_n1 (by decide)).trans (sI_n1 (by decide)))⟩ | exact tail _ ⟨kf, At_I (At_I (At_I At_0)), (sI_n1 (by decide)).trans ((sI_n1 (by decide)).trans (sI_n1 (by decide))), (sI_n1 (by decide)).trans ((sI_n1 (by decide)).trans (sI_n1 (by decide))), by rw [if_pos h4]; exact (sI_n1 (by decide)).trans ((sI_n1 (by decide)).trans (sI_n1 (by decide))), by rw [if_pos h4]; exact (sI_n1 (by decide)).trans ((sI_n1 (by decide)).trans (sI_s)), by rw [if_pos h4]; exact sI_s, by rw [if_pos h4]; exact (sI_n1 (by decide)).trans (sI_s), (sI_n1 (by decide)).trans ((sI_n1 (by decide)).trans (sI_n1 (by decide)))⟩
  · refine V_aload_n C dX1_countVisit_7 rfl (by first | exact isR_r _ | exact isR_q _ | exact isR_n) ?_
    refine V_dup C dX1_countVisit_8 (by first | rfl | exact isR_c (isR_q _)) ?_
    refine V_getIe C 1 2 rfl cf_1 fl_X1_20 (by decide) (by decide) dX1_countVisit_9 kf rfl ?_
    refine V_iconst C (v := 1) dX1_countVisit_12 (by decide) ?_
    refine V_iadd C dX1_countVisit_13 ?_
    refine V_putI C 1 2 rfl cf_1 pl_X1_20 (by decide) (by decide) dX1_countVisit_14 kf ?_
    refine V_aload_n C dX1_countVisit_17 rfl (by first | exact isR_r _ | exact isR_q _ | exact isR_n) ?_
    refine V_dup C dX1_countVisit_18 (by first | rfl | exact isR_c (isR_q _)) ?_
    refine V_getIe C 1 4 rfl cf_1 fl_X1_23 (by decide) (by decide) dX1_countVisit_19 kf (show sI (pI S 102 f (sI S 102 f + 1)) 104 f = sI S 104 f from sI_n1 (by decide)) ?_
    refine V_iconst C (v := 1) dX1_countVisit_22 (by decide) ?_
    refine V_iadd C dX1_countVisit_23 ?_
    refine V_putI C 1 4 rfl cf_1 pl_X1_23 (by decide) (by decide) dX1_countVisit_24 kf ?_
    refine V_aload_n C dX1_countVisit_27 rfl (by first | exact isR_r _ | exact isR_q _ | exact isR_n) ?_
    refine V_iconst C (v := 0) dX1_countVisit_28 (by decide) ?_
    refine V_putI C 1 5 rfl cf_1 pl_X1_26 (by decide) (by decide) dX1_countVisit_29 kf ?_
    refine V_goto C (tgt := 60) dX1_countVisit_32 (by decide) ?_
    first | exact tail _ ⟨kf, At_I (At_I (At_I At_0)), (sI_n1 (by decide)).trans ((sI_n1 (by decide)).trans (sI_n1 (by decide))), (sI_n1 (by decide)).trans ((sI_n1 (by decide)).trans (sI_n1 (by decide))), by rw [if_neg h4]; exact (sI_n1 (by decide)).trans ((sI_n1 (by decide)).trans (sI_s)), by rw [if_neg h4]; exact (sI_n1 (by decide)).trans ((sI_n1 (by decide)).trans (sI_n1 (by decide))), by rw [if_neg h4]; exact (sI_n1 (by decide)).trans (sI_s), by rw [if_neg h4]; exact sI_s, (sI_n1 (by decide)).trans ((sI_n1 (by decide)).trans (sI_n1 (by decide)))⟩ | exact tail _ ⟨kf, At_I (At_I (At_I At_0)), (sI_n1 (by decide)).trans ((sI_n1 (by decide)).trans (sI_n1 (by decide))), (sI_n1 (by decide)).trans ((sI_n1 (by decide)).trans (sI_n1 (by decide))), by rw [if_pos h4]; exact (sI_n1 (by decide)).trans ((sI_n1 (by decide)).trans (sI_n1 (by decide))), by rw [if_pos h4]; exact (sI_n1 (by decide)).trans ((sI_n1 (by decide)).trans (sI_s)), by rw [if_pos h4]; exact sI_s, by rw [if_pos h4]; exact (sI_n1 (by decide)).trans (sI_s), (sI_n1 (by decide)).trans ((sI_n1 (by decide)).trans (sI_n1 (by decide)))⟩
theorem c_X1_beginDay (l : Launch) (hl : l.stackTraces = false) (G : gG) (S : sS) (f : Nat) (kf : sK S f = 2) (d : Int32) : Ct l G yX1_beginDay cX1_beginDay 2 none 2 0 0 [.ref f, .int d] S (fun w T => w = none ∧ ((¬ (¬ sI S 100 f ≤ 0 ∧ d - d / sI S 100 f * sI S 100 f = 0) ∧ T = S) ∨ ((¬ sI S 100 f ≤ 0 ∧ d - d / sI S 100 f * sI S 100 f = 0) ∧ sK T f = 2 ∧ At S T f ∧ sI T 100 f = sI S 100 f ∧ sI T 101 f = 0 ∧ sI T 102 f = (if sI S 101 f = 0 then sI S 102 f else sI S 102 f + 1) ∧ sI T 103 f = (if sI S 101 f = 0 then sI S 103 f + 1 else sI S 103 f) ∧ sI T 104 f = (if sI S 101 f = 0 then 0 else sI S 104 f + 1) ∧ sI T 105 f = (if sI S 101 f = 0 then sI S 105 f + 1 else 0) ∧ sI T 106 f = (if 3 ≤ (if sI S 101 f = 0 then sI S 105 f + 1 else 0) then 1 else if 3 ≤ (if sI S 101 f = 0 then 0 else sI S 104 f + 1) then 0 else sI S 106 f)))) (fun _ _ => False) := by
  refine Ct_of (by decide) (cat1_all (by repeat first | exact trivial | refine ⟨by first | rfl | exact isR_c (isR_q _), ?_⟩)) (Nat.le_of_ble_eq_true rfl) hl fun X C hXl hin => ?_
  subst hXl
  dsimp only [lArgs, Nat.reduceAdd]
  refine V_aload_n C dX1_beginDay_0 rfl (by first | exact isR_r _ | exact isR_q _ | exact isR_n) ?_
  refine V_getIe C 1 0 rfl cf_1 fl_X1_7 (by decide) (by decide) dX1_beginDay_1 kf rfl ?_
  refine V_if_le C (tgt := 25) dX1_beginDay_4 (by decide) (fun h4 => ?_) (fun h4 => ?_)
  · have T0 : ¬ (¬ sI S 100 f ≤ 0 ∧ d - d / sI S 100 f * sI S 100 f = 0) := fun z => z.1 h4
    refine V_vret C (by first | omega | decide) (by first | omega | decide) dX1_beginDay_25 ?_
    first | exact ⟨rfl, Or.inl ⟨T0, rfl⟩⟩ | exact ⟨rfl, Or.inr ⟨⟨h4, Decidable.not_not.mp h13⟩, kT, At_I aT, (sI_n1 (by decide)).trans j0, sI_s, (sI_n1 (by decide)).trans j2, (sI_n1 (by decide)).trans j3, (sI_n1 (by decide)).trans j4, (sI_n1 (by decide)).trans j5, (sI_n1 (by decide)).trans j6⟩⟩ | exact ⟨rfl, Or.inr ⟨⟨h4, h13⟩, kT, At_I aT, (sI_n1 (by decide)).trans j0, sI_s, (sI_n1 (by decide)).trans j2, (sI_n1 (by decide)).trans j3, (sI_n1 (by decide)).trans j4, (sI_n1 (by decide)).trans j5, (sI_n1 (by decide)).trans j6⟩⟩
  · refine V_iload_n C dX1_beginDay_7 rfl ?_
    refine V_aload_n C dX1_beginDay_8 rfl (by first | exact isR_r _ | exact isR_q _ | exact isR_n) ?_
    refine V_getIe C 1 0 rfl cf_1 fl_X1_7 (by decide) (by decide) dX1_beginDay_9 kf rfl ?_
    refine V_irem C dX1_beginDay_12 (fun z => h4 (by rw [z]; decide)) ?_
    refine V_if_ne C (tgt := 25) dX1_beginDay_13 (by decide) (fun h13 => ?_) (fun h13 => ?_)
    · have T0 : ¬ (¬ sI S 100 f ≤ 0 ∧ d - d / sI S 100 f * sI S 100 f = 0) := fun z => h13 z.2
      refine V_vret C (by first | omega | decide) (by first | omega | decide) dX1_beginDay_25 ?_
      first | exact ⟨rfl, Or.inl ⟨T0, rfl⟩⟩ | exact ⟨rfl, Or.inr ⟨⟨h4, Decidable.not_not.mp h13⟩, kT, At_I aT, (sI_n1 (by decide)).trans j0, sI_s, (sI_n1 (by decide)).trans j2, (sI_n1 (by decide)).trans j3, (sI_n1 (by decide)).trans j4, (sI_n1 (by decide)).trans j5, (sI_n1 (by decide)).trans j6⟩⟩ | exact ⟨rfl, Or.inr ⟨⟨h4, h13⟩, kT, At_I aT, (sI_n1 (by decide)).trans j0, sI_s, (sI_n1 (by decide)).trans j2, (sI_n1 (by decide)).trans j3, (sI_n1 (by decide)).trans j4, (sI_n1 (by decide)).trans j5, (sI_n1 (by decide)).trans j6⟩⟩
    · refine V_aload_n C dX1_beginDay_16 rfl (by first | exact isR_r _ | exact isR_q _ | exact isR_n) ?_
      refine V_callV C (c_X1_countVisit _ hl G S f kf) kv_X1_13 cf_1 (by decide) rfl kf (by decide) (by decide) rfl rfl (Nat.le_of_ble_eq_true rfl) dX1_beginDay_17 ?_ (fun _ _ h => h.elim)
      intro w1 T hT
      obtain ⟨rfl, kT, aT, j0, j1, j2, j3, j4, j5, j6⟩ := hT
      dsimp only [Option.toList_some, Option.toList_none, List.cons_append, List.nil_append]
      refine V_aload_n C dX1_beginDay_20 rfl (by first | exact isR_r _ | exact isR_q _ | exact isR_n) ?_
      refine V_iconst C (v := 0) dX1_beginDay_21 (by decide) ?_
      refine V_putZ C 1 1 rfl cf_1 pl_X1_16 (by decide) (by decide) dX1_beginDay_22 kT (Or.inl rfl) ?_
      refine V_vret C (by first | omega | decide) (by first | omega | decide) dX1_beginDay_25 ?_
      first | exact ⟨rfl, Or.inl ⟨T0, rfl⟩⟩ | exact ⟨rfl, Or.inr ⟨⟨h4, Decidable.not_not.mp h13⟩, kT, At_I aT, (sI_n1 (by decide)).trans j0, sI_s, (sI_n1 (by decide)).trans j2, (sI_n1 (by decide)).trans j3, (sI_n1 (by decide)).trans j4, (sI_n1 (by decide)).trans j5, (sI_n1 (by decide)).trans j6⟩⟩ | exact ⟨rfl, Or.inr ⟨⟨h4, h13⟩, kT, At_I aT, (sI_n1 (by decide)).trans j0, sI_s, (sI_n1 (by decide)).trans j2, (sI_n1 (by decide)).trans j3, (sI_n1 (by decide)).trans j4, (sI_n1 (by decide)).trans j5, (sI_n1 (by decide)).trans j6⟩⟩
theorem cKd_2 {i : Nat} (h : cKd i = 2) : i = 1 := by
  by_cases q : i < 10
  · rw [cKd, if_pos q] at h; omega
  · have := isC_kd (i := i) (by omega)
    rw [cKd, if_neg q] at h
    exfalso
    have k : 100 ≤ cKd i := by
      rw [cKd, if_neg q]
      repeat refine (ite_b (by decide) ?_).1
      all_goals first | decide | skip
      repeat refine ite_b (by decide) ?_
      all_goals decide
    rw [cKd, if_neg q] at k
    omega
theorem RelC_fam {S T : sS} {ad : Nat → Nat → Nat} {σ σ' : aS} {k : Nat} (h : RelC S ad σ) (hk : k < cN σ 1) (hA : At S T (ad 1 k)) (kT : sK T (ad 1 k) = 2) (h2 : σ'.2 = σ.2) (ho : ∀ f x, ¬ (12 ≤ f ∧ f ≤ 18 ∧ x = k) → σ'.1 f x = σ.1 f x) (hi : ∀ s, s < 7 → sI T (100 + s) (ad 1 k) = σ'.1 (12 + s) k) : RelC T ad σ' := by
  obtain ⟨a1, a2, a3, a4, a5, a6, a7, a8, a9, a10, a11⟩ := h
  have eN : ∀ x, cN σ' x = cN σ x := fun x => by unfold cN; rw [h2]
  have hlv : ∀ i j, cLv σ' i j = cLv σ i j := fun i j => cLv_congr (eN 1) (eN 20) (eN 27) (eN 38) (eN 43)
  have uf : ∀ x, ¬ (12 ≤ x ∧ x ≤ 18) → σ'.1 x = σ.1 x := fun x hx => funext fun j => ho x j fun z => hx ⟨z.1, z.2.1⟩
  have er : ∀ j, rMrg σ' j (rN σ' j) = rMrg σ j (rN σ j) := fun j => by
    rw [show rN σ' j = rN σ j from congrArg (fun z => (z j).toNatClampNeg) (uf 34 (by decide))]
    exact rMrg_congr (uf 35 (by decide)) (uf 36 (by decide)) (uf 37 (by decide)) _
  have ne : ∀ i j, i < 30 → i ≠ 9 → i ≠ 10 → cLv σ i j → ¬ (i = 1 ∧ j = k) → ad i j ≠ ad 1 k := fun i j h1 h2 h3 l hn e => by
    have q := a1 i j h1 h2 h3 l
    rw [e, a1 1 k (by decide) (by decide) (by decide) hk] at q
    have i1 : i = 1 := cKd_2 q.symm
    subst i1
    exact hn ⟨rfl, a2 1 j k (by decide) (by decide) (by decide) l hk e⟩
  have l0 : ∀ i, i = 15 ∨ i = 16 ∨ i = 17 ∨ i = 23 ∨ i = 26 → cLv σ i 0 := by
    rintro i (rfl | rfl | rfl | rfl | rfl) <;> exact (rfl : (0 : Nat) = 0)
  refine ⟨fun i j x y z l => ?_, fun i j j' x y z l l' => a2 i j j' x y z (by rw [← hlv]; exact l) (by rw [← hlv]; exact l'), fun g j x y l => ?_, fun g j x y l => ?_, fun i j x y l => ?_, fun k2 hk2 => ?_, fun j hj => ?_, fun j hj => ?_, fun j hj => ?_, fun j hj => ?_, fun j hj => ?_⟩
  · rw [hlv] at l
    by_cases e : i = 1 ∧ j = k
    · obtain ⟨rfl, rfl⟩ := e; exact kT
    · exact (hA _ (ne i j x y z l e)).1.trans (a1 i j x y z l)
  · rw [hlv] at l
    by_cases e : g / 100 = 1 ∧ j = k
    · obtain ⟨e, rfl⟩ := e
      have hm : g = 100 ∨ g = 101 ∨ g = 102 ∨ g = 103 ∨ g = 104 ∨ g = 105 ∨ g = 106 := by unfold cFd at x; omega
      rcases hm with rfl | rfl | rfl | rfl | rfl | rfl | rfl
      · exact hi 0 (by decide)
      · exact hi 1 (by decide)
      · exact hi 2 (by decide)
      · exact hi 3 (by decide)
      · exact hi 4 (by decide)
      · exact hi 5 (by decide)
      · exact hi 6 (by decide)
    · refine ((hA _ (ne _ j (by unfold cFd at x; omega) (by unfold cFd at x; omega) (by unfold cFd at x; omega) l e)).2.2.1 g).trans ((a3 g j x y l).trans ?_)
      by_cases g9 : g < 800
      · refine (cI_at x y g9 (fun z hz => ?_) (fun _ => er j)).symm
        refine ho z j fun w => e ⟨?_, w.2.2⟩
        have : z = 12 ∨ z = 13 ∨ z = 14 ∨ z = 15 ∨ z = 16 ∨ z = 17 ∨ z = 18 := by omega
        rcases this with rfl | rfl | rfl | rfl | rfl | rfl | rfl <;> exact hz.symm
      · exact (cI_8 x y g9 (by rw [h2])).symm
  · rw [hlv] at l
    refine ((hA _ (ne _ j (by unfold cFd at x; omega) (by unfold cFd at x; omega) (by unfold cFd at x; omega) l fun e => ?_)).2.2.2.1 g).trans ((a4 g j x y l).trans ?_)
    · have hh := lGR_m x y
      simp only [lGR, List.mem_cons, List.not_mem_nil, or_false] at hh
      omega
    · exact (cR_congr (uf 10 (by decide)) (uf 28 (by decide)) (uf 29 (by decide)) (uf 39 (by decide)) (uf 44 (by decide)) (uf 45 (by decide)) (eN 38) (eN 27)).symm
  · rw [hlv] at l
    exact (hA _ (ne i j y (by omega) (by omega) l (by omega))).2.1.trans (a5 i j x y l)
  · rw [eN] at hk2
    obtain ⟨b1, b2, b3, b4⟩ := a6 k2 hk2
    rw [er, uf 19 (by decide)]
    exact ⟨fun j hj => (congrFun (hA _ (ne 11 k2 (by decide) (by decide) (by decide) hk2 (by omega))).2.2.2.2.1 j).trans (b1 j hj), (hA _ (ne 12 k2 (by decide) (by decide) (by decide) hk2 (by omega))).2.2.2.2.1.trans b2, (hA _ (ne 13 k2 (by decide) (by decide) (by decide) hk2 (by omega))).2.2.2.2.1.trans b3, (hA _ (ne 14 k2 (by decide) (by decide) (by decide) hk2 (by omega))).2.2.2.2.1.trans b4⟩
  · rw [eN]; exact (congrFun (hA _ (ne 15 0 (by decide) (by decide) (by decide) (l0 15 (by omega)) (by omega))).2.2.2.2.2.2 j).trans (a7 j hj)
  · rw [eN]; exact (congrFun (hA _ (ne 16 0 (by decide) (by decide) (by decide) (l0 16 (by omega)) (by omega))).2.2.2.2.2.2 j).trans (a8 j hj)
  · rw [eN]; exact (congrFun (hA _ (ne 17 0 (by decide) (by decide) (by decide) (l0 17 (by omega)) (by omega))).2.2.2.2.2.2 j).trans (a9 j hj)
  · exact (congrFun (hA _ (ne 23 0 (by decide) (by decide) (by decide) (l0 23 (by omega)) (by omega))).2.2.2.2.2.2 j).trans (a10 j hj)
  · exact (congrFun (hA _ (ne 26 0 (by decide) (by decide) (by decide) (l0 26 (by omega)) (by omega))).2.2.2.2.2.2 j).trans (a11 j hj)
theorem RelC_visT {S T : sS} {ad : Nat → Nat → Nat} {σ : aS} {k : Nat} (hC : RelC S ad σ) (hk : k < cN σ 1) (hk16 : k < 16) (hZ : IZ σ) (aT : At S T (ad 1 k)) (kT : sK T (ad 1 k) = 2) (j0 : sI T 100 (ad 1 k) = σ.1 12 k) (j1 : sI T 101 (ad 1 k) = 0) (j2 : sI T 102 (ad 1 k) = (if σ.1 13 k = 0 then σ.1 14 k else σ.1 14 k + 1)) (j3 : sI T 103 (ad 1 k) = (if σ.1 13 k = 0 then σ.1 15 k + 1 else σ.1 15 k)) (j4 : sI T 104 (ad 1 k) = (if σ.1 13 k = 0 then 0 else σ.1 16 k + 1)) (j5 : sI T 105 (ad 1 k) = (if σ.1 13 k = 0 then σ.1 17 k + 1 else 0))
    (j6 : sI T 106 (ad 1 k) = (if 3 ≤ (if σ.1 13 k = 0 then σ.1 17 k + 1 else 0) then 1 else if 3 ≤ (if σ.1 13 k = 0 then 0 else σ.1 16 k + 1) then 0 else σ.1 18 k)) : RelC T ad (oVisited σ k) := by
  refine RelC_fam hC hk aT kT rfl (fun f x h => vis_o fun z => h ⟨by omega, z.2.1, z.2.2⟩) fun s hs => ?_
  have : s = 0 ∨ s = 1 ∨ s = 2 ∨ s = 3 ∨ s = 4 ∨ s = 5 ∨ s = 6 := by omega
  rcases this with rfl | rfl | rfl | rfl | rfl | rfl | rfl
  · exact j0.trans (vis_o (by omega)).symm
  · exact j1.trans ((oV_f (by decide)).trans (v5_13 _ _)).symm
  · refine j2.trans (Eq.trans ?_ ((oV_f (by decide)).trans (v5_14 σ k)).symm)
    by_cases z : σ.1 13 k = 0
    · rw [if_pos z, if_pos z, Int32.add_zero]
    · rw [if_neg z, if_neg z]
  · refine j3.trans (Eq.trans ?_ ((oV_f (by decide)).trans (v5_15 σ k)).symm)
    by_cases z : σ.1 13 k = 0
    · rw [if_pos z, if_pos z]
    · rw [if_neg z, if_neg z, Int32.add_zero]
  · exact j4.trans ((oV_f (by decide)).trans (v5_16 σ k)).symm
  · exact j5.trans ((oV_f (by decide)).trans (v5_17 σ k)).symm
  · refine j6.trans (Eq.trans ?_ (oV_18 σ k).symm)
    have z18 := hZ 18 k rfl hk16
    generalize (if σ.1 13 k = 0 then σ.1 17 k + 1 else 0) = a
    generalize (if σ.1 13 k = 0 then 0 else σ.1 16 k + 1) = b
    by_cases h1 : 3 ≤ a
    · rw [if_pos h1, pI9_t (Or.inl h1)]
    · rw [if_neg h1]
      by_cases h2 : 3 ≤ b
      · rw [if_pos h2, pI9_f (fun z => z.elim h1 fun w => w.2 h2)]
      · rw [if_neg h2]
        rcases z18 with z | z
        · rw [z, pI9_f (fun w => w.elim h1 fun y => y.1 rfl)]
        · rw [z, pI9_t (Or.inr ⟨by decide, h2⟩)]
theorem At_Fr {S T : sS} {q : Nat} (h : At S T q) (hk : isD (sK S q)) : Fr isD S T := fun a _ hn => h a fun e => hn (by rw [e]; exact hk)
theorem c_X0_beginDay (l : Launch) (hl : l.stackTraces = false) (G : gG) (S : sS) (ad : Nat → Nat → Nat) (σ : aS) (hC : RelC S ad σ) (hI : IC σ) (hO : IO σ) (hZ : IZ σ) (k : Nat) (hk : k < cN σ 1) (d : Int32) : Ct l G yX0_beginDay cX0_beginDay 3 none 4 0 0 [.ref (ad 0 k), .int d] S (fun w T => w = none ∧ RelC T ad (cStepD σ k d) ∧ Fr isD S T) (fun _ _ => False) := by
  refine Ct_of (by decide) (cat1_all (by repeat first | exact trivial | refine ⟨by first | rfl | exact isR_c (isR_q _), ?_⟩)) (Nat.le_of_ble_eq_true rfl) hl fun X C hXl hin => ?_
  subst hXl
  dsimp only [lArgs, Nat.reduceAdd]
  have kc : sK S (ad 0 k) = 1 := RelC_K hC 0 (by decide) hk
  have rc_8 : sR S 8 (ad 0 k) = some (ad 1 k) := RelC_R hC 0 8 rfl (by unfold cFd; omega) rfl hk
  have rc_11 : sR S 11 (ad 0 k) = (if σ.1 10 k = -1 then none else some (ad 6 (nx (σ.1 10 k)))) := RelC_R hC 0 11 rfl (by unfold cFd; omega) rfl hk
  have kf : sK S (ad 1 k) = 2 := RelC_K hC 1 (by decide) hk
  have hk16 : k < 16 := by have := hI.2.1.2; omega
  rcases cStepD_cases σ k d with ⟨q, e⟩ | ⟨q, q2, e⟩ | ⟨q, q2, q3, e⟩ | ⟨q, q2, q3, e⟩
  · rw [if_pos q] at rc_11
    refine V_aload_n C dX0_beginDay_0 rfl (by first | exact isR_r _ | exact isR_q _ | exact isR_n) ?_
    refine V_getRe C 0 11 rfl cf_0 fl_X0_51 (by decide) (by decide) dX0_beginDay_1 kc rc_11 ?_
    refine V_ifnonnull C (tgt := 8) dX0_beginDay_4 (by decide) (fun a4 h4 => ?_) (fun h4 => ?_)
    · cases h4
    · refine V_vret C (by first | omega | decide) (by first | omega | decide) dX0_beginDay_7 ?_
      rw [e]
      exact ⟨rfl, hC, Fr_rf⟩
  · have e2 : cStepD σ k d = oEndD σ k d := by
      rw [e]; unfold oEndD; rw [if_neg q]
    rw [if_neg q] at rc_11
    refine V_aload_n C dX0_beginDay_0 rfl (by first | exact isR_r _ | exact isR_q _ | exact isR_n) ?_
    refine V_getRe C 0 11 rfl cf_0 fl_X0_51 (by decide) (by decide) dX0_beginDay_1 kc rc_11 ?_
    refine V_ifnonnull C (tgt := 8) dX0_beginDay_4 (by decide) (fun a4 h4 => ?_) (fun h4 => ?_)
    · refine V_aload_n C dX0_beginDay_8 rfl (by first | exact isR_r _ | exact isR_q _ | exact isR_n) ?_
      refine V_iload_n C dX0_beginDay_9 rfl ?_
      refine V_fV C (c_X0_orderKindOn _ hl G S ad σ hC k hk hO hI.2.2.2.2.1.2 d) kv_X0_99 cf_0 (by decide) rfl kc (by decide) (by decide) rfl rfl (Nat.le_of_ble_eq_true rfl) dX0_beginDay_10 ?_
      dsimp only [Option.toList_some, Option.toList_none, List.cons_append, List.nil_append]
      refine V_istore_n C dX0_beginDay_13 (by decide) rfl ?_
      simp only [lset1, lset2, List.filter_cons, List.filter_nil, Nat.reduceBEq, Nat.reduceAdd, Bool.not_true, Bool.not_false, Bool.and_true, Bool.and_false, Bool.true_and, Bool.false_and, if_true, if_false, Bool.false_eq_true, reduceIte]
      refine V_iload_n C dX0_beginDay_14 rfl ?_
      refine V_if_eq C (tgt := 31) dX0_beginDay_15 (by decide) (fun h15 => ?_) (fun h15 => ?_)
      · exact absurd h15 q2.1
      · refine V_iload_n C dX0_beginDay_18 rfl ?_
        refine V_iconst C (v := 2) dX0_beginDay_19 (by decide) ?_
        refine V_icmp_eq C (tgt := 31) dX0_beginDay_20 (by decide) (fun h20 => ?_) (fun h20 => ?_)
        · exact absurd h20 q2.2
        · refine V_aload_n C dX0_beginDay_23 rfl (by first | exact isR_r _ | exact isR_q _ | exact isR_n) ?_
          refine V_iload_n C dX0_beginDay_24 rfl ?_
          refine V_callV C (c_X0_endStay _ hl G S ad σ hC hI k hk d) kv_X0_102 cf_0 (by decide) rfl kc (by decide) (by decide) rfl rfl (Nat.le_of_ble_eq_true rfl) dX0_beginDay_25 ?_ (fun _ _ h => h.elim)
          intro w1 T hT
          obtain ⟨rfl, hT⟩ := hT
          dsimp only [Option.toList_some, Option.toList_none, List.cons_append, List.nil_append]
          refine V_goto C (tgt := 47) dX0_beginDay_28 (by decide) ?_
          refine V_vret C (by first | omega | decide) (by first | omega | decide) dX0_beginDay_47 ?_
          rw [e2]
          exact ⟨rfl, hT.1, Fr_ED hT.2⟩
    · cases h4
  · obtain ⟨s, hs, es⟩ := (hI.2.2.2.2.2.2.2 k hk).resolve_left q
    have ns : nx (σ.1 10 k) = s := by rw [es]; exact nI_clamp (by have := hI.2.2.2.2.2.1.2; omega)
    rw [if_neg q, ns] at rc_11
    rw [ns] at q3
    have ks : sK S (ad 6 s) = 7 := RelC_K hC 6 (by decide) hs
    have is_602 : sI S 602 (ad 6 s) = σ.1 46 s := RelC_I hC 6 602 rfl (by unfold cFd; omega) rfl hs
    have kf : sK S (ad 1 k) = 2 := RelC_K hC 1 (by decide) hk
    have if_100 : sI S 100 (ad 1 k) = σ.1 12 k := RelC_I hC 1 100 rfl (by unfold cFd; omega) rfl hk
    have if_101 : sI S 101 (ad 1 k) = σ.1 13 k := RelC_I hC 1 101 rfl (by unfold cFd; omega) rfl hk
    have if_102 : sI S 102 (ad 1 k) = σ.1 14 k := RelC_I hC 1 102 rfl (by unfold cFd; omega) rfl hk
    have if_103 : sI S 103 (ad 1 k) = σ.1 15 k := RelC_I hC 1 103 rfl (by unfold cFd; omega) rfl hk
    have if_104 : sI S 104 (ad 1 k) = σ.1 16 k := RelC_I hC 1 104 rfl (by unfold cFd; omega) rfl hk
    have if_105 : sI S 105 (ad 1 k) = σ.1 17 k := RelC_I hC 1 105 rfl (by unfold cFd; omega) rfl hk
    have if_106 : sI S 106 (ad 1 k) = σ.1 18 k := RelC_I hC 1 106 rfl (by unfold cFd; omega) rfl hk
    have q2' : mKindOn σ (nI k) d = 0 ∨ mKindOn σ (nI k) d = 2 := by
      by_cases z : mKindOn σ (nI k) d = 0
      · exact Or.inl z
      · exact Or.inr (Decidable.not_not.mp fun w => q2 ⟨z, w⟩)
    refine V_aload_n C dX0_beginDay_0 rfl (by first | exact isR_r _ | exact isR_q _ | exact isR_n) ?_
    refine V_getRe C 0 11 rfl cf_0 fl_X0_51 (by decide) (by decide) dX0_beginDay_1 kc rc_11 ?_
    refine V_ifnonnull C (tgt := 8) dX0_beginDay_4 (by decide) (fun a4 h4 => ?_) (fun h4 => ?_)
    · refine V_aload_n C dX0_beginDay_8 rfl (by first | exact isR_r _ | exact isR_q _ | exact isR_n) ?_
      refine V_iload_n C dX0_beginDay_9 rfl ?_
      refine V_fV C (c_X0_orderKindOn _ hl G S ad σ hC k hk hO hI.2.2.2.2.1.2 d) kv_X0_99 cf_0 (by decide) rfl kc (by decide) (by decide) rfl rfl (Nat.le_of_ble_eq_true rfl) dX0_beginDay_10 ?_
      dsimp only [Option.toList_some, Option.toList_none, List.cons_append, List.nil_append]
      refine V_istore_n C dX0_beginDay_13 (by decide) rfl ?_
      simp only [lset1, lset2, List.filter_cons, List.filter_nil, Nat.reduceBEq, Nat.reduceAdd, Bool.not_true, Bool.not_false, Bool.and_true, Bool.and_false, Bool.true_and, Bool.false_and, if_true, if_false, Bool.false_eq_true, reduceIte]
      refine V_iload_n C dX0_beginDay_14 rfl ?_
      refine V_if_eq C (tgt := 31) dX0_beginDay_15 (by decide) (fun h15 => ?_) (fun h15 => ?_)
      · refine V_aload_n C dX0_beginDay_31 rfl (by first | exact isR_r _ | exact isR_q _ | exact isR_n) ?_
        refine V_getS C 0 8 rfl cf_0 fl_X0_47 (by decide) (by decide) dX0_beginDay_32 kc rc_8 ?_
        refine V_iload_n C dX0_beginDay_35 rfl ?_
        refine V_aload_n C dX0_beginDay_36 rfl (by first | exact isR_r _ | exact isR_q _ | exact isR_n) ?_
        refine V_getS C 0 11 rfl cf_0 fl_X0_51 (by decide) (by decide) dX0_beginDay_37 kc rc_11 ?_
        refine V_getIe C 6 2 rfl cf_6 fl_X0_106 (by decide) (by decide) dX0_beginDay_40 ks is_602 ?_
        refine V_isub C dX0_beginDay_43 ?_
        refine V_callV C (c_X1_beginDay _ hl G S (ad 1 k) kf _) kv_X0_109 cf_1 (by decide) rfl kf (by decide) (by decide) rfl rfl (Nat.le_of_ble_eq_true rfl) dX0_beginDay_44 ?_ (fun _ _ h => h.elim)
        intro w1 T hT
        obtain ⟨rfl, hT⟩ := hT
        dsimp only [Option.toList_some, Option.toList_none, List.cons_append, List.nil_append]
        rw [if_100, if_101, if_102, if_103, if_104, if_105, if_106] at hT
        rcases hT with ⟨z, -⟩ | ⟨-, kT, aT, j0, j1, j2, j3, j4, j5, j6⟩
        · exact absurd q3 z
        refine V_vret C (by first | omega | decide) (by first | omega | decide) dX0_beginDay_47 ?_
        rw [e]
        exact ⟨rfl, RelC_visT hC hk hk16 hZ aT kT j0 j1 j2 j3 j4 j5 j6, At_Fr aT (by rw [kf]; exact Or.inl ⟨by decide, by decide⟩)⟩
      · refine V_iload_n C dX0_beginDay_18 rfl ?_
        refine V_iconst C (v := 2) dX0_beginDay_19 (by decide) ?_
        refine V_icmp_eq C (tgt := 31) dX0_beginDay_20 (by decide) (fun h20 => ?_) (fun h20 => ?_)
        · refine V_aload_n C dX0_beginDay_31 rfl (by first | exact isR_r _ | exact isR_q _ | exact isR_n) ?_
          refine V_getS C 0 8 rfl cf_0 fl_X0_47 (by decide) (by decide) dX0_beginDay_32 kc rc_8 ?_
          refine V_iload_n C dX0_beginDay_35 rfl ?_
          refine V_aload_n C dX0_beginDay_36 rfl (by first | exact isR_r _ | exact isR_q _ | exact isR_n) ?_
          refine V_getS C 0 11 rfl cf_0 fl_X0_51 (by decide) (by decide) dX0_beginDay_37 kc rc_11 ?_
          refine V_getIe C 6 2 rfl cf_6 fl_X0_106 (by decide) (by decide) dX0_beginDay_40 ks is_602 ?_
          refine V_isub C dX0_beginDay_43 ?_
          refine V_callV C (c_X1_beginDay _ hl G S (ad 1 k) kf _) kv_X0_109 cf_1 (by decide) rfl kf (by decide) (by decide) rfl rfl (Nat.le_of_ble_eq_true rfl) dX0_beginDay_44 ?_ (fun _ _ h => h.elim)
          intro w1 T hT
          obtain ⟨rfl, hT⟩ := hT
          dsimp only [Option.toList_some, Option.toList_none, List.cons_append, List.nil_append]
          rw [if_100, if_101, if_102, if_103, if_104, if_105, if_106] at hT
          rcases hT with ⟨z, -⟩ | ⟨-, kT, aT, j0, j1, j2, j3, j4, j5, j6⟩
          · exact absurd q3 z
          refine V_vret C (by first | omega | decide) (by first | omega | decide) dX0_beginDay_47 ?_
          rw [e]
          exact ⟨rfl, RelC_visT hC hk hk16 hZ aT kT j0 j1 j2 j3 j4 j5 j6, At_Fr aT (by rw [kf]; exact Or.inl ⟨by decide, by decide⟩)⟩
        · exact absurd (q2'.resolve_left h15) h20
    · cases h4
  · obtain ⟨s, hs, es⟩ := (hI.2.2.2.2.2.2.2 k hk).resolve_left q
    have ns : nx (σ.1 10 k) = s := by rw [es]; exact nI_clamp (by have := hI.2.2.2.2.2.1.2; omega)
    rw [if_neg q, ns] at rc_11
    rw [ns] at q3
    have ks : sK S (ad 6 s) = 7 := RelC_K hC 6 (by decide) hs
    have is_602 : sI S 602 (ad 6 s) = σ.1 46 s := RelC_I hC 6 602 rfl (by unfold cFd; omega) rfl hs
    have kf : sK S (ad 1 k) = 2 := RelC_K hC 1 (by decide) hk
    have if_100 : sI S 100 (ad 1 k) = σ.1 12 k := RelC_I hC 1 100 rfl (by unfold cFd; omega) rfl hk
    have q2' : mKindOn σ (nI k) d = 0 ∨ mKindOn σ (nI k) d = 2 := by
      by_cases z : mKindOn σ (nI k) d = 0
      · exact Or.inl z
      · exact Or.inr (Decidable.not_not.mp fun w => q2 ⟨z, w⟩)
    refine V_aload_n C dX0_beginDay_0 rfl (by first | exact isR_r _ | exact isR_q _ | exact isR_n) ?_
    refine V_getRe C 0 11 rfl cf_0 fl_X0_51 (by decide) (by decide) dX0_beginDay_1 kc rc_11 ?_
    refine V_ifnonnull C (tgt := 8) dX0_beginDay_4 (by decide) (fun a4 h4 => ?_) (fun h4 => ?_)
    · refine V_aload_n C dX0_beginDay_8 rfl (by first | exact isR_r _ | exact isR_q _ | exact isR_n) ?_
      refine V_iload_n C dX0_beginDay_9 rfl ?_
      refine V_fV C (c_X0_orderKindOn _ hl G S ad σ hC k hk hO hI.2.2.2.2.1.2 d) kv_X0_99 cf_0 (by decide) rfl kc (by decide) (by decide) rfl rfl (Nat.le_of_ble_eq_true rfl) dX0_beginDay_10 ?_
      dsimp only [Option.toList_some, Option.toList_none, List.cons_append, List.nil_append]
      refine V_istore_n C dX0_beginDay_13 (by decide) rfl ?_
      simp only [lset1, lset2, List.filter_cons, List.filter_nil, Nat.reduceBEq, Nat.reduceAdd, Bool.not_true, Bool.not_false, Bool.and_true, Bool.and_false, Bool.true_and, Bool.false_and, if_true, if_false, Bool.false_eq_true, reduceIte]
      refine V_iload_n C dX0_beginDay_14 rfl ?_
      refine V_if_eq C (tgt := 31) dX0_beginDay_15 (by decide) (fun h15 => ?_) (fun h15 => ?_)
      · refine V_aload_n C dX0_beginDay_31 rfl (by first | exact isR_r _ | exact isR_q _ | exact isR_n) ?_
        refine V_getS C 0 8 rfl cf_0 fl_X0_47 (by decide) (by decide) dX0_beginDay_32 kc rc_8 ?_
        refine V_iload_n C dX0_beginDay_35 rfl ?_
        refine V_aload_n C dX0_beginDay_36 rfl (by first | exact isR_r _ | exact isR_q _ | exact isR_n) ?_
        refine V_getS C 0 11 rfl cf_0 fl_X0_51 (by decide) (by decide) dX0_beginDay_37 kc rc_11 ?_
        refine V_getIe C 6 2 rfl cf_6 fl_X0_106 (by decide) (by decide) dX0_beginDay_40 ks is_602 ?_
        refine V_isub C dX0_beginDay_43 ?_
        refine V_callV C (c_X1_beginDay _ hl G S (ad 1 k) kf _) kv_X0_109 cf_1 (by decide) rfl kf (by decide) (by decide) rfl rfl (Nat.le_of_ble_eq_true rfl) dX0_beginDay_44 ?_ (fun _ _ h => h.elim)
        intro w1 T hT
        obtain ⟨rfl, hT⟩ := hT
        dsimp only [Option.toList_some, Option.toList_none, List.cons_append, List.nil_append]
        rw [if_100] at hT
        obtain ⟨-, rfl⟩ := hT.resolve_right (fun z => q3 z.1)
        refine V_vret C (by first | omega | decide) (by first | omega | decide) dX0_beginDay_47 ?_
        rw [e]
        exact ⟨rfl, hC, Fr_rf⟩
      · refine V_iload_n C dX0_beginDay_18 rfl ?_
        refine V_iconst C (v := 2) dX0_beginDay_19 (by decide) ?_
        refine V_icmp_eq C (tgt := 31) dX0_beginDay_20 (by decide) (fun h20 => ?_) (fun h20 => ?_)
        · refine V_aload_n C dX0_beginDay_31 rfl (by first | exact isR_r _ | exact isR_q _ | exact isR_n) ?_
          refine V_getS C 0 8 rfl cf_0 fl_X0_47 (by decide) (by decide) dX0_beginDay_32 kc rc_8 ?_
          refine V_iload_n C dX0_beginDay_35 rfl ?_
          refine V_aload_n C dX0_beginDay_36 rfl (by first | exact isR_r _ | exact isR_q _ | exact isR_n) ?_
          refine V_getS C 0 11 rfl cf_0 fl_X0_51 (by decide) (by decide) dX0_beginDay_37 kc rc_11 ?_
          refine V_getIe C 6 2 rfl cf_6 fl_X0_106 (by decide) (by decide) dX0_beginDay_40 ks is_602 ?_
          refine V_isub C dX0_beginDay_43 ?_
          refine V_callV C (c_X1_beginDay _ hl G S (ad 1 k) kf _) kv_X0_109 cf_1 (by decide) rfl kf (by decide) (by decide) rfl rfl (Nat.le_of_ble_eq_true rfl) dX0_beginDay_44 ?_ (fun _ _ h => h.elim)
          intro w1 T hT
          obtain ⟨rfl, hT⟩ := hT
          dsimp only [Option.toList_some, Option.toList_none, List.cons_append, List.nil_append]
          rw [if_100] at hT
          obtain ⟨-, rfl⟩ := hT.resolve_right (fun z => q3 z.1)
          refine V_vret C (by first | omega | decide) (by first | omega | decide) dX0_beginDay_47 ?_
          rw [e]
          exact ⟨rfl, hC, Fr_rf⟩
        · exact absurd (q2'.resolve_left h15) h20
    · cases h4

