/-! THE LAW: its helpers. -/
def hR (c1 c2 c3 t x : Int32) : Int32 := if t = 0 then x else if t = 1 then c1 else if t = 2 then c2 else c3
theorem hR_0 {c1 c2 c3 t x : Int32} (h : t = 0) : hR c1 c2 c3 t x = x := if_pos h
theorem hR_1 {c1 c2 c3 t x : Int32} (h : t = 1) : hR c1 c2 c3 t x = c1 := by
  subst h
  exact (if_neg (by decide)).trans (if_pos rfl)
theorem hR_2 {c1 c2 c3 t x : Int32} (h : t = 2) : hR c1 c2 c3 t x = c2 := by
  subst h
  exact (if_neg (by decide)).trans ((if_neg (by decide)).trans (if_pos rfl))
theorem hR_3 {c1 c2 c3 t x : Int32} (h : t = 3) : hR c1 c2 c3 t x = c3 := by
  subst h
  exact (if_neg (by decide)).trans ((if_neg (by decide)).trans (if_neg (by decide)))
theorem a01_see (σ : aS) (x : Int32) : (oSee σ x).1 = 0 ∨ (oSee σ x).1 = 1 := by
  unfold oSee
  split
  · exact pI9_01 _
  · exact Or.inl rfl
theorem r_risk (l : Launch) (hl : l.stackTraces = false) (G : gG) (S : sS) (q : Nat) (a : Nat → Nat) (γ : Nat → Nat → Int32) (σ : aS) (hP : PW S q a γ σ) (k : Nat) (hk : k < cN σ 1) : ChF l G yL_risk cL_risk 3 (Option.some FieldType.int) [(0, 5, 6, 30)] 8 0 0 [.ref q, .int (nI k)] S (some (.int (rSum (rAll σ k) (σ.2 0)))) S := by
  obtain ⟨ad, rfl, hC, hG, hW, hL⟩ := hP
  refine Ch_of (by decide) (cat1_all (by repeat first | exact trivial | refine ⟨by first | rfl | exact isR_c (isR_r _), ?_⟩)) (Nat.le_of_ble_eq_true rfl) hl fun X C hXl => ?_
  subst hXl
  dsimp only [lArgs, Nat.reduceAdd]
  refine V_aload_n C dL_risk_0 rfl (by first | exact isR_r _ | exact isR_q _ | exact isR_n) ?_
  refine V_iload_n C dL_risk_1 rfl ?_
  refine V_fV C (c0_X8_risk _ hl G S ad σ hC hW.1 k hk) kv_L_47 cf_8 (by decide) rfl (RelC_K hC 8 (by decide) rfl) (by decide) (by decide) rfl rfl (Nat.le_of_ble_eq_true rfl) dL_risk_2 ?_
  dsimp only [Option.toList_some, Option.toList_none, List.cons_append, List.nil_append]
  refine V_iret C (by decide) (by decide) dL_risk_5 ?_
  exact ⟨rfl, rfl⟩
theorem r_seeBy (l : Launch) (hl : l.stackTraces = false) (G : gG) (S : sS) (q : Nat) (a : Nat → Nat) (γ : Nat → Nat → Int32) (σ : aS) (hP : PW S q a γ σ) (k : Nat) (hk : k < cN σ 1) : ChF l G yL_seeBy cL_seeBy 3 (Option.some FieldType.int) [(0, 5, 6, 30)] 8 0 0 [.ref q, .int (nI k)] S (some (.int (rSee (rAll σ k) (σ.2 0) (σ.1 9 k)))) S := by
  obtain ⟨ad, rfl, hC, hG, hW, hL⟩ := hP
  refine Ch_of (by decide) (cat1_all (by repeat first | exact trivial | refine ⟨by first | rfl | exact isR_c (isR_r _), ?_⟩)) (Nat.le_of_ble_eq_true rfl) hl fun X C hXl => ?_
  subst hXl
  dsimp only [lArgs, Nat.reduceAdd]
  refine V_aload_n C dL_seeBy_0 rfl (by first | exact isR_r _ | exact isR_q _ | exact isR_n) ?_
  refine V_iload_n C dL_seeBy_1 rfl ?_
  refine V_fV C (c0_X8_seeBy _ hl G S ad σ hC hW.1 k hk) kv_L_51 cf_8 (by decide) rfl (RelC_K hC 8 (by decide) rfl) (by decide) (by decide) rfl rfl (Nat.le_of_ble_eq_true rfl) dL_seeBy_2 ?_
  dsimp only [Option.toList_some, Option.toList_none, List.cons_append, List.nil_append]
  refine V_iret C (by decide) (by decide) dL_seeBy_5 ?_
  exact ⟨rfl, rfl⟩
theorem r_counts (l : Launch) (hl : l.stackTraces = false) (G : gG) (S : sS) (q : Nat) (a : Nat → Nat) (γ : Nat → Nat → Int32) (σ : aS) (hP : PW S q a γ σ) (k : Nat) (hk : k < cN σ 1) (on : Int32) (hon : 0 ≤ on ∧ on ≤ 30000) : ChF l G yL_counts cL_counts 4 (Option.some FieldType.int) [(0, 6, 7, 30), (0, 6, 11, 16)] 8 0 0 [.ref q, .int (nI k), .int on] S (some (.int (mCounts σ (nI k) on))) S := by
  obtain ⟨ad, rfl, hC, hG, hW, hL⟩ := hP
  refine Ch_of (by decide) (cat1_all (by repeat first | exact trivial | refine ⟨by first | rfl | exact isR_c (isR_r _), ?_⟩)) (Nat.le_of_ble_eq_true rfl) hl fun X C hXl => ?_
  subst hXl
  dsimp only [lArgs, Nat.reduceAdd]
  refine V_aload_n C dL_counts_0 rfl (by first | exact isR_r _ | exact isR_q _ | exact isR_n) ?_
  refine V_iload_n C dL_counts_1 rfl ?_
  refine V_iload_n C dL_counts_2 rfl ?_
  refine V_fV C (c0_X8_counts _ hl G S ad σ hC hW.1 hW.2.2.2.1 k hk on hon) kv_L_58 cf_8 (by decide) rfl (RelC_K hC 8 (by decide) rfl) (by decide) (by decide) rfl rfl (Nat.le_of_ble_eq_true rfl) dL_counts_3 ?_
  dsimp only [Option.toList_some, Option.toList_none, List.cons_append, List.nil_append]
  refine V_iret C (by decide) (by decide) dL_counts_6 ?_
  exact ⟨rfl, rfl⟩
theorem r_why (l : Launch) (hl : l.stackTraces = false) (G : gG) (S : sS) (q : Nat) (a : Nat → Nat) (γ : Nat → Nat → Int32) (σ : aS) (hP : PW S q a γ σ) (k : Nat) (hk : k < cN σ 1) (h : Nat) (hh : h < cN σ 20) : ChF l G yL_why cL_why 4 (Option.some FieldType.int) [(0, 6, 7, 30)] 8 0 0 [.ref q, .int (nI k), .int (nI h)] S (some (.int (mWhyNot σ k h))) S := by
  obtain ⟨ad, rfl, hC, hG, hW, hL⟩ := hP
  refine Ch_of (by decide) (cat1_all (by repeat first | exact trivial | refine ⟨by first | rfl | exact isR_c (isR_r _), ?_⟩)) (Nat.le_of_ble_eq_true rfl) hl fun X C hXl => ?_
  subst hXl
  dsimp only [lArgs, Nat.reduceAdd]
  refine V_aload_n C dL_why_0 rfl (by first | exact isR_r _ | exact isR_q _ | exact isR_n) ?_
  refine V_iload_n C dL_why_1 rfl ?_
  refine V_iload_n C dL_why_2 rfl ?_
  refine V_fV C (c0_X8_why _ hl G S ad σ hC hW.1 hW.2.2.2.1 hW.2.1 k hk h hh) kv_L_66 cf_8 (by decide) rfl (RelC_K hC 8 (by decide) rfl) (by decide) (by decide) rfl rfl (Nat.le_of_ble_eq_true rfl) dL_why_3 ?_
  dsimp only [Option.toList_some, Option.toList_none, List.cons_append, List.nil_append]
  refine V_iret C (by decide) (by decide) dL_why_6 ?_
  exact ⟨rfl, rfl⟩
theorem r_worth (l : Launch) (hl : l.stackTraces = false) (G : gG) (S : sS) (q : Nat) (a : Nat → Nat) (γ : Nat → Nat → Int32) (σ : aS) (hP : PW S q a γ σ) (k : Nat) (hk : k < cN σ 1) (h : Nat) (hh : h < cN σ 20) : ChF l G yL_worth cL_worth 4 (Option.some FieldType.int) [(0, 6, 7, 30)] 8 0 0 [.ref q, .int (nI k), .int (nI h)] S (some (.int (mWorth σ k h))) S := by
  obtain ⟨ad, rfl, hC, hG, hW, hL⟩ := hP
  refine Ch_of (by decide) (cat1_all (by repeat first | exact trivial | refine ⟨by first | rfl | exact isR_c (isR_r _), ?_⟩)) (Nat.le_of_ble_eq_true rfl) hl fun X C hXl => ?_
  subst hXl
  dsimp only [lArgs, Nat.reduceAdd]
  refine V_aload_n C dL_worth_0 rfl (by first | exact isR_r _ | exact isR_q _ | exact isR_n) ?_
  refine V_iload_n C dL_worth_1 rfl ?_
  refine V_iload_n C dL_worth_2 rfl ?_
  refine V_fV C (c0_X8_worth _ hl G S ad σ hC hW.1 hW.2.1 hW.2.2.2.2.2.1 k hk h hh) kv_L_69 cf_8 (by decide) rfl (RelC_K hC 8 (by decide) rfl) (by decide) (by decide) rfl rfl (Nat.le_of_ble_eq_true rfl) dL_worth_3 ?_
  dsimp only [Option.toList_some, Option.toList_none, List.cons_append, List.nil_append]
  refine V_iret C (by decide) (by decide) dL_worth_6 ?_
  exact ⟨rfl, rfl⟩
theorem r_best (l : Launch) (hl : l.stackTraces = false) (G : gG) (S : sS) (q : Nat) (a : Nat → Nat) (γ : Nat → Nat → Int32) (σ : aS) (hP : PW S q a γ σ) (k : Nat) (hk : k < cN σ 1) : ChF l G yL_best cL_best 3 (Option.some FieldType.int) [(0, 5, 6, 30)] 8 0 0 [.ref q, .int (nI k)] S (some (.int (mBestF σ k (cN σ 20)))) S := by
  obtain ⟨ad, rfl, hC, hG, hW, hL⟩ := hP
  refine Ch_of (by decide) (cat1_all (by repeat first | exact trivial | refine ⟨by first | rfl | exact isR_c (isR_r _), ?_⟩)) (Nat.le_of_ble_eq_true rfl) hl fun X C hXl => ?_
  subst hXl
  dsimp only [lArgs, Nat.reduceAdd]
  refine V_aload_n C dL_best_0 rfl (by first | exact isR_r _ | exact isR_q _ | exact isR_n) ?_
  refine V_iload_n C dL_best_1 rfl ?_
  refine V_fV C (c0_X8_best _ hl G S ad σ hC hW.1 hW.2.2.2.1 hW.2.1 hW.2.2.2.2.2.1 k hk) kv_L_72 cf_8 (by decide) rfl (RelC_K hC 8 (by decide) rfl) (by decide) (by decide) rfl rfl (Nat.le_of_ble_eq_true rfl) dL_best_2 ?_
  dsimp only [Option.toList_some, Option.toList_none, List.cons_append, List.nil_append]
  refine V_iret C (by decide) (by decide) dL_best_5 ?_
  exact ⟨rfl, rfl⟩
theorem r_owed (l : Launch) (hl : l.stackTraces = false) (G : gG) (S : sS) (q : Nat) (a : Nat → Nat) (γ : Nat → Nat → Int32) (σ : aS) (hP : PW S q a γ σ) (h : Nat) (hh : h < cN σ 20) : ChF l G yL_owed cL_owed 3 (Option.some FieldType.int) [(0, 5, 6, 30)] 8 0 0 [.ref q, .int (nI h)] S (some (.int (cOw σ h))) S := by
  obtain ⟨ad, rfl, hC, hG, hW, hL⟩ := hP
  refine Ch_of (by decide) (cat1_all (by repeat first | exact trivial | refine ⟨by first | rfl | exact isR_c (isR_r _), ?_⟩)) (Nat.le_of_ble_eq_true rfl) hl fun X C hXl => ?_
  subst hXl
  dsimp only [lArgs, Nat.reduceAdd]
  refine V_aload_n C dL_owed_0 rfl (by first | exact isR_r _ | exact isR_q _ | exact isR_n) ?_
  refine V_iload_n C dL_owed_1 rfl ?_
  refine V_fV C (c0_X8_owed _ hl G S ad σ hC hW.1 hW.2.1 h hh) kv_L_91 cf_8 (by decide) rfl (RelC_K hC 8 (by decide) rfl) (by decide) (by decide) rfl rfl (Nat.le_of_ble_eq_true rfl) dL_owed_2 ?_
  dsimp only [Option.toList_some, Option.toList_none, List.cons_append, List.nil_append]
  refine V_iret C (by decide) (by decide) dL_owed_5 ?_
  exact ⟨rfl, rfl⟩
theorem r_load (l : Launch) (hl : l.stackTraces = false) (G : gG) (S : sS) (q : Nat) (a : Nat → Nat) (γ : Nat → Nat → Int32) (σ : aS) (hP : PW S q a γ σ) (w : Int32) (hw : 0 ≤ w ∧ w ≤ 4) : ChF l G yL_load cL_load 3 (Option.some FieldType.int) [(0, 5, 6, 30)] 8 0 0 [.ref q, .int w] S (some (.int (mLoad σ w))) S := by
  obtain ⟨ad, rfl, hC, hG, hW, hL⟩ := hP
  refine Ch_of (by decide) (cat1_all (by repeat first | exact trivial | refine ⟨by first | rfl | exact isR_c (isR_r _), ?_⟩)) (Nat.le_of_ble_eq_true rfl) hl fun X C hXl => ?_
  subst hXl
  dsimp only [lArgs, Nat.reduceAdd]
  refine V_aload_n C dL_load_0 rfl (by first | exact isR_r _ | exact isR_q _ | exact isR_n) ?_
  refine V_iload_n C dL_load_1 rfl ?_
  refine V_fV C (c0_X8_load _ hl G S ad σ hC hW.1 hW.2.2.2.2.1 w hw) kv_L_97 cf_8 (by decide) rfl (RelC_K hC 8 (by decide) rfl) (by decide) (by decide) rfl rfl (Nat.le_of_ble_eq_true rfl) dL_load_2 ?_
  dsimp only [Option.toList_some, Option.toList_none, List.cons_append, List.nil_append]
  refine V_iret C (by decide) (by decide) dL_load_5 ?_
  exact ⟨rfl, rfl⟩
theorem r_childIs (l : Launch) (hl : l.stackTraces = false) (G : gG) (S : sS) (q : Nat) (a : Nat → Nat) (γ : Nat → Nat → Int32) (σ : aS) (hP : PW S q a γ σ) (k : Nat) (hk : k < cN σ 1) (w : Int32) (hw : 0 ≤ w ∧ w ≤ 6) : ChF l G yL_childIs cL_childIs 4 (Option.some FieldType.int) [(0, 6, 7, 30), (0, 6, 11, 16)] 8 0 0 [.ref q, .int (nI k), .int w] S (some (.int (mIs σ k w))) S := by
  obtain ⟨ad, rfl, hC, hG, hW, hL⟩ := hP
  refine Ch_of (by decide) (cat1_all (by repeat first | exact trivial | refine ⟨by first | rfl | exact isR_c (isR_r _), ?_⟩)) (Nat.le_of_ble_eq_true rfl) hl fun X C hXl => ?_
  subst hXl
  dsimp only [lArgs, Nat.reduceAdd]
  refine V_aload_n C dL_childIs_0 rfl (by first | exact isR_r _ | exact isR_q _ | exact isR_n) ?_
  refine V_iload_n C dL_childIs_1 rfl ?_
  refine V_iload_n C dL_childIs_2 rfl ?_
  refine V_fV C (c0_X8_childIs _ hl G S ad σ hC hW.1 hW.2.1 k hk w hw) kv_L_103 cf_8 (by decide) rfl (RelC_K hC 8 (by decide) rfl) (by decide) (by decide) rfl rfl (Nat.le_of_ble_eq_true rfl) dL_childIs_3 ?_
  dsimp only [Option.toList_some, Option.toList_none, List.cons_append, List.nil_append]
  refine V_iret C (by decide) (by decide) dL_childIs_6 ?_
  exact ⟨rfl, rfl⟩
theorem r_stay (l : Launch) (hl : l.stackTraces = false) (G : gG) (S : sS) (q : Nat) (a : Nat → Nat) (γ : Nat → Nat → Int32) (σ : aS) (hP : PW S q a γ σ) (j : Nat) (hj : j < cN σ 43) (w : Int32) (hw : 0 ≤ w ∧ w ≤ 4) : ChF l G yL_stay cL_stay 4 (Option.some FieldType.int) [(0, 6, 7, 30), (0, 6, 11, 16)] 8 0 0 [.ref q, .int (nI j), .int w] S (some (.int (mStay σ j w))) S := by
  obtain ⟨ad, rfl, hC, hG, hW, hL⟩ := hP
  refine Ch_of (by decide) (cat1_all (by repeat first | exact trivial | refine ⟨by first | rfl | exact isR_c (isR_r _), ?_⟩)) (Nat.le_of_ble_eq_true rfl) hl fun X C hXl => ?_
  subst hXl
  dsimp only [lArgs, Nat.reduceAdd]
  refine V_aload_n C dL_stay_0 rfl (by first | exact isR_r _ | exact isR_q _ | exact isR_n) ?_
  refine V_iload_n C dL_stay_1 rfl ?_
  refine V_iload_n C dL_stay_2 rfl ?_
  refine V_fV C (c0_X8_stay _ hl G S ad σ hC hW.1 hW.2.1 j hj w hw) kv_L_106 cf_8 (by decide) rfl (RelC_K hC 8 (by decide) rfl) (by decide) (by decide) rfl rfl (Nat.le_of_ble_eq_true rfl) dL_stay_3 ?_
  dsimp only [Option.toList_some, Option.toList_none, List.cons_append, List.nil_append]
  refine V_iret C (by decide) (by decide) dL_stay_6 ?_
  exact ⟨rfl, rfl⟩
theorem r_wasAllowed (l : Launch) (hl : l.stackTraces = false) (G : gG) (S : sS) (q : Nat) (a : Nat → Nat) (γ : Nat → Nat → Int32) (σ : aS) (hP : PW S q a γ σ) (j : Nat) (hj : j < cN σ 43) : ChF l G yL_wasAllowed cL_wasAllowed 3 (Option.some FieldType.int) [(0, 13, 14, 30)] 8 0 0 [.ref q, .int (nI j)] S (some (.int (pI9 (mWhyOn σ (nx (σ.1 44 j)) (σ.1 45 j) (σ.1 46 j) = 0)))) S := by
  obtain ⟨ad, rfl, hC, hG, hW, hL⟩ := hP
  refine Ch_of (by decide) (cat1_all (by repeat first | exact trivial | refine ⟨by first | rfl | exact isR_c (isR_r _), ?_⟩)) (Nat.le_of_ble_eq_true rfl) hl fun X C hXl => ?_
  subst hXl
  dsimp only [lArgs, Nat.reduceAdd]
  refine V_aload_n C dL_wasAllowed_0 rfl (by first | exact isR_r _ | exact isR_q _ | exact isR_n) ?_
  refine V_iload_n C dL_wasAllowed_1 rfl ?_
  refine V_fV C (c0_X8_wasAllowed _ hl G S ad σ hC hW.1 hW.2.2.2.1 hW.2.1 j hj) kv_L_109 cf_8 (by decide) rfl (RelC_K hC 8 (by decide) rfl) (by decide) (by decide) rfl rfl (Nat.le_of_ble_eq_true rfl) dL_wasAllowed_2 ?_
  dsimp only [Option.toList_some, Option.toList_none, List.cons_append, List.nil_append]
  refine V_if_eq C (tgt := 12) dL_wasAllowed_5 (by decide) (fun h9 => ?_) (fun h9 => ?_)
  ·
    refine V_iconst C (v := 0) dL_wasAllowed_12 (by decide) ?_
    refine V_iret C (by decide) (by decide) dL_wasAllowed_13 ?_
    exact ⟨by rw [h9], rfl⟩
  ·
    refine V_iconst C (v := 1) dL_wasAllowed_8 (by decide) ?_
    refine V_goto C (tgt := 13) dL_wasAllowed_9 (by decide) ?_
    refine V_iret C (by decide) (by decide) dL_wasAllowed_13 ?_
    exact ⟨by rw [(pI9_01 _).resolve_left h9], rfl⟩
theorem r_file (l : Launch) (hl : l.stackTraces = false) (G : gG) (S : sS) (q : Nat) (a : Nat → Nat) (γ : Nat → Nat → Int32) (σ : aS) (hP : PW S q a γ σ) (k : Nat) (hk : k < cN σ 1) (w : Int32) (hw : 0 ≤ w) (hy : 18 ≤ mYears σ k (σ.2 0)) : ChF l G yL_file cL_file 4 (Option.some FieldType.int) [(0, 6, 7, 30), (0, 6, 11, 19)] 8 0 0 [.ref q, .int (nI k), .int w] S (some (.int (mFileF σ (nI k) (cN σ 43) w 0))) S := by
  obtain ⟨ad, rfl, hC, hG, hW, hL⟩ := hP
  refine Ch_of (by decide) (cat1_all (by repeat first | exact trivial | refine ⟨by first | rfl | exact isR_c (isR_r _), ?_⟩)) (Nat.le_of_ble_eq_true rfl) hl fun X C hXl => ?_
  subst hXl
  dsimp only [lArgs, Nat.reduceAdd]
  refine V_aload_n C dL_file_0 rfl (by first | exact isR_r _ | exact isR_q _ | exact isR_n) ?_
  refine V_iload_n C dL_file_1 rfl ?_
  refine V_iload_n C dL_file_2 rfl ?_
  refine V_fV C (c0_X8_file _ hl G S ad σ hC hW.1 hW.2.1 k hk w hw hy) kv_L_116 cf_8 (by decide) rfl (RelC_K hC 8 (by decide) rfl) (by decide) (by decide) rfl rfl (Nat.le_of_ble_eq_true rfl) dL_file_3 ?_
  dsimp only [Option.toList_some, Option.toList_none, List.cons_append, List.nil_append]
  refine V_iret C (by decide) (by decide) dL_file_6 ?_
  exact ⟨rfl, rfl⟩
theorem r_childIsX (l : Launch) (hl : l.stackTraces = false) (G : gG) (S : sS) (q : Nat) (a : Nat → Nat) (γ : Nat → Nat → Int32) (σ : aS) (hP : PW S q a γ σ) (x w : Int32) (hx : ¬ ∃ k, k < cN σ 1 ∧ x = nI k) : ChF l G yL_childIs cL_childIs 4 (Option.some FieldType.int) [(0, 6, 7, 30), (0, 6, 11, 16)] 8 2 12 [.ref q, .int x, .int w] S (some (.int (-1000001))) S := by
  obtain ⟨ad, rfl, hC, hG, hW, hL⟩ := hP
  refine Ch_of (by decide) (cat1_all (by repeat first | exact trivial | refine ⟨by first | rfl | exact isR_c (isR_r _), ?_⟩)) (Nat.le_of_ble_eq_true rfl) hl fun X C hXl => ?_
  subst hXl
  dsimp only [lArgs, Nat.reduceAdd]
  refine V_aload_n C dL_childIs_0 rfl (by first | exact isR_r _ | exact isR_q _ | exact isR_n) ?_
  refine V_iload_n C dL_childIs_1 rfl ?_
  refine V_iload_n C dL_childIs_2 rfl ?_
  refine V_callV C (c_X8_childIsX _ hl G S ad σ hC hW.1 x w hx) kv_L_103 cf_8 (by decide) rfl (RelC_K hC 8 (by decide) rfl) (by decide) (by decide) rfl rfl (Nat.le_of_ble_eq_true rfl) dL_childIs_3 (fun _ _ h => h.elim) (fun E T hT => ?_)
  obtain ⟨rfl, rfl⟩ := hT
  refine VX_catch C [] (0, 6, 7, 30) [(0, 6, 11, 16)] rfl (fun z hz => nomatch hz) (by decide) (by decide) hl_30 (by decide) (fun q => ?_)
  refine V_astore_n C dL_childIs_7 (by decide) (by first | exact isR_r _ | exact isR_q _ | exact isR_n) rfl ?_
  refine V_ldc C dL_childIs_8 cs_L_32 ?_
  refine V_iret C (by decide) (by decide) dL_childIs_10 ?_
  exact ⟨rfl, rfl⟩
theorem r_childIsY (l : Launch) (hl : l.stackTraces = false) (G : gG) (S : sS) (q : Nat) (a : Nat → Nat) (γ : Nat → Nat → Int32) (σ : aS) (hP : PW S q a γ σ) (k : Nat) (hk : k < cN σ 1) (w : Int32) (hw : ¬ (0 ≤ w ∧ w ≤ 6)) : ChF l G yL_childIs cL_childIs 4 (Option.some FieldType.int) [(0, 6, 7, 30), (0, 6, 11, 16)] 8 2 12 [.ref q, .int (nI k), .int w] S (some (.int (-1000002))) S := by
  obtain ⟨ad, rfl, hC, hG, hW, hL⟩ := hP
  refine Ch_of (by decide) (cat1_all (by repeat first | exact trivial | refine ⟨by first | rfl | exact isR_c (isR_r _), ?_⟩)) (Nat.le_of_ble_eq_true rfl) hl fun X C hXl => ?_
  subst hXl
  dsimp only [lArgs, Nat.reduceAdd]
  refine V_aload_n C dL_childIs_0 rfl (by first | exact isR_r _ | exact isR_q _ | exact isR_n) ?_
  refine V_iload_n C dL_childIs_1 rfl ?_
  refine V_iload_n C dL_childIs_2 rfl ?_
  refine V_callV C (c_X8_childIsY _ hl G S ad σ hC hW.1 k hk w hw) kv_L_103 cf_8 (by decide) rfl (RelC_K hC 8 (by decide) rfl) (by decide) (by decide) rfl rfl (Nat.le_of_ble_eq_true rfl) dL_childIs_3 (fun _ _ h => h.elim) (fun E T hT => ?_)
  obtain ⟨rfl, rfl⟩ := hT
  refine VX_catch C [(0, 6, 7, 30)] (0, 6, 11, 16) [] rfl (fun z hz => by rw [List.mem_singleton.mp hz]; exact ⟨by decide, eB, by decide, by decide, hl_30⟩) (by decide) (by decide) hl_16 (by decide) (fun q => ?_)
  refine V_astore_n C dL_childIs_11 (by decide) (by first | exact isR_r _ | exact isR_q _ | exact isR_n) rfl ?_
  refine V_ldc C dL_childIs_12 cs_L_18 ?_
  refine V_iret C (by decide) (by decide) dL_childIs_14 ?_
  exact ⟨rfl, rfl⟩
theorem r_stayX (l : Launch) (hl : l.stackTraces = false) (G : gG) (S : sS) (q : Nat) (a : Nat → Nat) (γ : Nat → Nat → Int32) (σ : aS) (hP : PW S q a γ σ) (x w : Int32) (hx : ¬ ∃ k, k < cN σ 43 ∧ x = nI k) : ChF l G yL_stay cL_stay 4 (Option.some FieldType.int) [(0, 6, 7, 30), (0, 6, 11, 16)] 8 2 12 [.ref q, .int x, .int w] S (some (.int (-1000001))) S := by
  obtain ⟨ad, rfl, hC, hG, hW, hL⟩ := hP
  refine Ch_of (by decide) (cat1_all (by repeat first | exact trivial | refine ⟨by first | rfl | exact isR_c (isR_r _), ?_⟩)) (Nat.le_of_ble_eq_true rfl) hl fun X C hXl => ?_
  subst hXl
  dsimp only [lArgs, Nat.reduceAdd]
  refine V_aload_n C dL_stay_0 rfl (by first | exact isR_r _ | exact isR_q _ | exact isR_n) ?_
  refine V_iload_n C dL_stay_1 rfl ?_
  refine V_iload_n C dL_stay_2 rfl ?_
  refine V_callV C (c_X8_stayX _ hl G S ad σ hC hW.1 x w hx) kv_L_106 cf_8 (by decide) rfl (RelC_K hC 8 (by decide) rfl) (by decide) (by decide) rfl rfl (Nat.le_of_ble_eq_true rfl) dL_stay_3 (fun _ _ h => h.elim) (fun E T hT => ?_)
  obtain ⟨rfl, rfl⟩ := hT
  refine VX_catch C [] (0, 6, 7, 30) [(0, 6, 11, 16)] rfl (fun z hz => nomatch hz) (by decide) (by decide) hl_30 (by decide) (fun q => ?_)
  refine V_astore_n C dL_stay_7 (by decide) (by first | exact isR_r _ | exact isR_q _ | exact isR_n) rfl ?_
  refine V_ldc C dL_stay_8 cs_L_32 ?_
  refine V_iret C (by decide) (by decide) dL_stay_10 ?_
  exact ⟨rfl, rfl⟩
theorem r_stayY (l : Launch) (hl : l.stackTraces = false) (G : gG) (S : sS) (q : Nat) (a : Nat → Nat) (γ : Nat → Nat → Int32) (σ : aS) (hP : PW S q a γ σ) (j : Nat) (hj : j < cN σ 43) (w : Int32) (hw : ¬ (0 ≤ w ∧ w ≤ 4)) : ChF l G yL_stay cL_stay 4 (Option.some FieldType.int) [(0, 6, 7, 30), (0, 6, 11, 16)] 8 2 12 [.ref q, .int (nI j), .int w] S (some (.int (-1000002))) S := by
  obtain ⟨ad, rfl, hC, hG, hW, hL⟩ := hP
  refine Ch_of (by decide) (cat1_all (by repeat first | exact trivial | refine ⟨by first | rfl | exact isR_c (isR_r _), ?_⟩)) (Nat.le_of_ble_eq_true rfl) hl fun X C hXl => ?_
  subst hXl
  dsimp only [lArgs, Nat.reduceAdd]
  refine V_aload_n C dL_stay_0 rfl (by first | exact isR_r _ | exact isR_q _ | exact isR_n) ?_
  refine V_iload_n C dL_stay_1 rfl ?_
  refine V_iload_n C dL_stay_2 rfl ?_
  refine V_callV C (c_X8_stayY _ hl G S ad σ hC hW.1 j hj w hw) kv_L_106 cf_8 (by decide) rfl (RelC_K hC 8 (by decide) rfl) (by decide) (by decide) rfl rfl (Nat.le_of_ble_eq_true rfl) dL_stay_3 (fun _ _ h => h.elim) (fun E T hT => ?_)
  obtain ⟨rfl, rfl⟩ := hT
  refine VX_catch C [(0, 6, 7, 30)] (0, 6, 11, 16) [] rfl (fun z hz => by rw [List.mem_singleton.mp hz]; exact ⟨by decide, eB, by decide, by decide, hl_30⟩) (by decide) (by decide) hl_16 (by decide) (fun q => ?_)
  refine V_astore_n C dL_stay_11 (by decide) (by first | exact isR_r _ | exact isR_q _ | exact isR_n) rfl ?_
  refine V_ldc C dL_stay_12 cs_L_18 ?_
  refine V_iret C (by decide) (by decide) dL_stay_14 ?_
  exact ⟨rfl, rfl⟩
theorem r_wasAllowedX (l : Launch) (hl : l.stackTraces = false) (G : gG) (S : sS) (q : Nat) (a : Nat → Nat) (γ : Nat → Nat → Int32) (σ : aS) (hP : PW S q a γ σ) (x : Int32) (hx : ¬ ∃ k, k < cN σ 43 ∧ x = nI k) : ChF l G yL_wasAllowed cL_wasAllowed 3 (Option.some FieldType.int) [(0, 13, 14, 30)] 8 1 6 [.ref q, .int x] S (some (.int (-1000001))) S := by
  obtain ⟨ad, rfl, hC, hG, hW, hL⟩ := hP
  refine Ch_of (by decide) (cat1_all (by repeat first | exact trivial | refine ⟨by first | rfl | exact isR_c (isR_r _), ?_⟩)) (Nat.le_of_ble_eq_true rfl) hl fun X C hXl => ?_
  subst hXl
  dsimp only [lArgs, Nat.reduceAdd]
  refine V_aload_n C dL_wasAllowed_0 rfl (by first | exact isR_r _ | exact isR_q _ | exact isR_n) ?_
  refine V_iload_n C dL_wasAllowed_1 rfl ?_
  refine V_callV C (c_X8_wasAllowedX _ hl G S ad σ hC hW.1 x hx) kv_L_109 cf_8 (by decide) rfl (RelC_K hC 8 (by decide) rfl) (by decide) (by decide) rfl rfl (Nat.le_of_ble_eq_true rfl) dL_wasAllowed_2 (fun _ _ h => h.elim) (fun E T hT => ?_)
  obtain ⟨rfl, rfl⟩ := hT
  refine VX_catch C [] (0, 13, 14, 30) [] rfl (fun z hz => nomatch hz) (by decide) (by decide) hl_30 (by decide) (fun q => ?_)
  refine V_astore_n C dL_wasAllowed_14 (by decide) (by first | exact isR_r _ | exact isR_q _ | exact isR_n) rfl ?_
  refine V_ldc C dL_wasAllowed_15 cs_L_32 ?_
  refine V_iret C (by decide) (by decide) dL_wasAllowed_17 ?_
  exact ⟨rfl, rfl⟩
theorem r_fileY (l : Launch) (hl : l.stackTraces = false) (G : gG) (S : sS) (q : Nat) (a : Nat → Nat) (γ : Nat → Nat → Int32) (σ : aS) (hP : PW S q a γ σ) (k : Nat) (hk : k < cN σ 1) (w : Int32) (hw : 0 ≤ w) (hy : ¬ 18 ≤ mYears σ k (σ.2 0)) : ChF l G yL_file cL_file 4 (Option.some FieldType.int) [(0, 6, 7, 30), (0, 6, 11, 19)] 8 2 12 [.ref q, .int (nI k), .int w] S (some (.int (-1000003))) S := by
  obtain ⟨ad, rfl, hC, hG, hW, hL⟩ := hP
  refine Ch_of (by decide) (cat1_all (by repeat first | exact trivial | refine ⟨by first | rfl | exact isR_c (isR_r _), ?_⟩)) (Nat.le_of_ble_eq_true rfl) hl fun X C hXl => ?_
  subst hXl
  dsimp only [lArgs, Nat.reduceAdd]
  refine V_aload_n C dL_file_0 rfl (by first | exact isR_r _ | exact isR_q _ | exact isR_n) ?_
  refine V_iload_n C dL_file_1 rfl ?_
  refine V_iload_n C dL_file_2 rfl ?_
  refine V_callV C (c_X8_fileY _ hl G S ad σ hC hW.1 k hk w hw hy) kv_L_116 cf_8 (by decide) rfl (RelC_K hC 8 (by decide) rfl) (by decide) (by decide) rfl rfl (Nat.le_of_ble_eq_true rfl) dL_file_3 (fun _ _ h => h.elim) (fun E T hT => ?_)
  obtain ⟨rfl, rfl⟩ := hT
  refine VX_catch C [(0, 6, 7, 30)] (0, 6, 11, 19) [] rfl (fun z hz => by rw [List.mem_singleton.mp hz]; exact ⟨by decide, eB, by decide, by decide, hl_30⟩) (by decide) (by decide) hl_19 (by decide) (fun q => ?_)
  refine V_astore_n C dL_file_11 (by decide) (by first | exact isR_r _ | exact isR_q _ | exact isR_n) rfl ?_
  refine V_ldc C dL_file_12 cs_L_21 ?_
  refine V_iret C (by decide) (by decide) dL_file_14 ?_
  exact ⟨rfl, rfl⟩
theorem w_child (l : Launch) (hl : l.stackTraces = false) (G : gG) (S : sS) (q : Nat) (a : Nat → Nat) (γ : Nat → Nat → Int32) (σ : aS) (hP : PW S q a γ σ) (x b c d e9 : Int32)  : Ch l G yL_child cL_child 7 (Option.some FieldType.int) [(0, 11, 12, 16), (0, 11, 17, 19)] 8 16 200 [.ref q, .int x, .int b, .int c, .int d, .int e9] S (fun v T => v = some (.int (hR (-1000002) (-1000003) 0 (tChild σ x b c d e9) ((oChild σ x b c d e9).1))) ∧ PW T q a γ ((oChild σ x b c d e9).2)) := by
  obtain ⟨ad, rfl, hC, hG, hW, hL⟩ := hP
  have hW2 : IW ((oChild σ x b c d e9).2) := (KW_child hW).1
  refine Ch_of (by decide) (cat1_all (by repeat first | exact trivial | refine ⟨by first | rfl | exact isR_c (isR_r _), ?_⟩)) (Nat.le_of_ble_eq_true rfl) hl fun X C hXl => ?_
  subst hXl
  dsimp only [lArgs, Nat.reduceAdd]
  refine V_aload_n C dL_child_0 rfl (by first | exact isR_r _ | exact isR_q _ | exact isR_n) ?_
  refine V_iload_n C dL_child_1 rfl ?_
  refine V_iload_n C dL_child_2 rfl ?_
  refine V_iload_n C dL_child_3 rfl ?_
  refine V_iload C dL_child_4 rfl ?_
  refine V_iload C dL_child_6 rfl ?_
  refine V_callV C (u_child _ hl G S ad σ hC hG hW x b c d e9) kv_L_10 cf_8 (by decide) rfl (RelC_K hC 8 (by decide) rfl) (by decide) (by decide) rfl rfl (Nat.le_of_ble_eq_true rfl) dL_child_8 (fun w T hT => ?_) (fun E T hT => ?_)
  · obtain ⟨e, rfl, hQ⟩ := hT
    dsimp only [Option.toList_some, Option.toList_none, List.cons_append, List.nil_append]
    refine V_iret C (by decide) (by decide) dL_child_11 ?_
    exact ⟨by rw [hR_0 e], PW_Q rfl hL hQ hW2⟩
  · obtain ⟨hx, hQ⟩ := hT
    rcases hx with ⟨e, z⟩ | ⟨e, z⟩ | ⟨e, z⟩
    · cases z
      refine VX_catch C [] (0, 11, 12, 16) [(0, 11, 17, 19)] rfl (fun z hz => nomatch hz) (by decide) (by decide) hl_16 (by decide) (fun q => ?_)
      refine V_astore C dL_child_12 (by decide) (by first | exact isR_r _ | exact isR_q _ | exact isR_n) rfl ?_
      refine V_ldc C dL_child_14 cs_L_18 ?_
      refine V_iret C (by decide) (by decide) dL_child_16 ?_
      exact ⟨by rw [hR_1 e], PW_Q rfl hL hQ hW2⟩
    · cases z
      refine VX_catch C [(0, 11, 12, 16)] (0, 11, 17, 19) [] rfl (fun z hz => by rw [List.mem_singleton.mp hz]; exact ⟨by decide, eA, by decide, by decide, hl_16⟩) (by decide) (by decide) hl_19 (by decide) (fun q => ?_)
      refine V_astore C dL_child_17 (by decide) (by first | exact isR_r _ | exact isR_q _ | exact isR_n) rfl ?_
      refine V_ldc C dL_child_19 cs_L_21 ?_
      refine V_iret C (by decide) (by decide) dL_child_21 ?_
      exact ⟨by rw [hR_2 e], PW_Q rfl hL hQ hW2⟩
    · cases z
theorem w_home (l : Launch) (hl : l.stackTraces = false) (G : gG) (S : sS) (q : Nat) (a : Nat → Nat) (γ : Nat → Nat → Int32) (σ : aS) (hP : PW S q a γ σ) (x b c : Int32)  : Ch l G yL_home cL_home 5 (Option.some FieldType.int) [(0, 7, 8, 16), (0, 7, 13, 19)] 8 2 24 [.ref q, .int x, .int b, .int c] S (fun v T => v = some (.int (hR (-1000002) (-1000003) 0 (tHome σ x b c) ((oHome σ x b c).1))) ∧ PW T q a γ ((oHome σ x b c).2)) := by
  obtain ⟨ad, rfl, hC, hG, hW, hL⟩ := hP
  have hW2 : IW ((oHome σ x b c).2) := (KW_home hW).1
  refine Ch_of (by decide) (cat1_all (by repeat first | exact trivial | refine ⟨by first | rfl | exact isR_c (isR_r _), ?_⟩)) (Nat.le_of_ble_eq_true rfl) hl fun X C hXl => ?_
  subst hXl
  dsimp only [lArgs, Nat.reduceAdd]
  refine V_aload_n C dL_home_0 rfl (by first | exact isR_r _ | exact isR_q _ | exact isR_n) ?_
  refine V_iload_n C dL_home_1 rfl ?_
  refine V_iload_n C dL_home_2 rfl ?_
  refine V_iload_n C dL_home_3 rfl ?_
  refine V_callV C (u_home _ hl G S ad σ hC hG hW x b c) kv_L_22 cf_8 (by decide) rfl (RelC_K hC 8 (by decide) rfl) (by decide) (by decide) rfl rfl (Nat.le_of_ble_eq_true rfl) dL_home_4 (fun w T hT => ?_) (fun E T hT => ?_)
  · obtain ⟨e, rfl, hQ⟩ := hT
    dsimp only [Option.toList_some, Option.toList_none, List.cons_append, List.nil_append]
    refine V_iret C (by decide) (by decide) dL_home_7 ?_
    exact ⟨by rw [hR_0 e], PW_Q rfl hL hQ hW2⟩
  · obtain ⟨hx, hQ⟩ := hT
    rcases hx with ⟨e, z⟩ | ⟨e, z⟩ | ⟨e, z⟩
    · cases z
      refine VX_catch C [] (0, 7, 8, 16) [(0, 7, 13, 19)] rfl (fun z hz => nomatch hz) (by decide) (by decide) hl_16 (by decide) (fun q => ?_)
      refine V_astore C dL_home_8 (by decide) (by first | exact isR_r _ | exact isR_q _ | exact isR_n) rfl ?_
      refine V_ldc C dL_home_10 cs_L_18 ?_
      refine V_iret C (by decide) (by decide) dL_home_12 ?_
      exact ⟨by rw [hR_1 e], PW_Q rfl hL hQ hW2⟩
    · cases z
      refine VX_catch C [(0, 7, 8, 16)] (0, 7, 13, 19) [] rfl (fun z hz => by rw [List.mem_singleton.mp hz]; exact ⟨by decide, eA, by decide, by decide, hl_16⟩) (by decide) (by decide) hl_19 (by decide) (fun q => ?_)
      refine V_astore C dL_home_13 (by decide) (by first | exact isR_r _ | exact isR_q _ | exact isR_n) rfl ?_
      refine V_ldc C dL_home_15 cs_L_21 ?_
      refine V_iret C (by decide) (by decide) dL_home_17 ?_
      exact ⟨by rw [hR_2 e], PW_Q rfl hL hQ hW2⟩
    · cases z
theorem w_approve (l : Launch) (hl : l.stackTraces = false) (G : gG) (S : sS) (q : Nat) (a : Nat → Nat) (γ : Nat → Nat → Int32) (σ : aS) (hP : PW S q a γ σ) (x b c u : Int32) (hn : cN σ 27 < 512) : Ch l G yL_approve cL_approve 6 (Option.some FieldType.int) [(0, 10, 11, 30), (0, 10, 16, 16)] 8 8 60 [.ref q, .int x, .int b, .int c, .int u] S (fun v T => v = some (.int (hR (-1000001) (-1000002) 0 (tHomeQ σ x (inP b 0 17 ∧ inP c b 17 ∧ inP u 0 20000)) (0))) ∧ PW T q a γ (oApprove σ x b c u)) := by
  obtain ⟨ad, rfl, hC, hG, hW, hL⟩ := hP
  have hW2 : IW (oApprove σ x b c u) := (KW_approve hW hn).1
  refine Ch_of (by decide) (cat1_all (by repeat first | exact trivial | refine ⟨by first | rfl | exact isR_c (isR_r _), ?_⟩)) (Nat.le_of_ble_eq_true rfl) hl fun X C hXl => ?_
  subst hXl
  dsimp only [lArgs, Nat.reduceAdd]
  refine V_aload_n C dL_approve_0 rfl (by first | exact isR_r _ | exact isR_q _ | exact isR_n) ?_
  refine V_iload_n C dL_approve_1 rfl ?_
  refine V_iload_n C dL_approve_2 rfl ?_
  refine V_iload_n C dL_approve_3 rfl ?_
  refine V_iload C dL_approve_4 rfl ?_
  refine V_callV C (u_approve _ hl G S ad σ hC hG hW x b c u) kv_L_26 cf_8 (by decide) rfl (RelC_K hC 8 (by decide) rfl) (by decide) (by decide) rfl rfl (Nat.le_of_ble_eq_true rfl) dL_approve_6 (fun w T hT => ?_) (fun E T hT => ?_)
  · obtain ⟨e, rfl, hQ⟩ := hT
    dsimp only [Option.toList_some, Option.toList_none, List.cons_append, List.nil_append]
    refine V_iconst C (v := 0) dL_approve_9 (by decide) ?_
    refine V_iret C (by decide) (by decide) dL_approve_10 ?_
    exact ⟨by rw [hR_0 e], PW_Q rfl hL hQ hW2⟩
  · obtain ⟨hx, hQ⟩ := hT
    rcases hx with ⟨e, z⟩ | ⟨e, z⟩ | ⟨e, z⟩
    · cases z
      refine VX_catch C [] (0, 10, 11, 30) [(0, 10, 16, 16)] rfl (fun z hz => nomatch hz) (by decide) (by decide) hl_30 (by decide) (fun q => ?_)
      refine V_astore C dL_approve_11 (by decide) (by first | exact isR_r _ | exact isR_q _ | exact isR_n) rfl ?_
      refine V_ldc C dL_approve_13 cs_L_32 ?_
      refine V_iret C (by decide) (by decide) dL_approve_15 ?_
      exact ⟨by rw [hR_1 e], PW_Q rfl hL hQ hW2⟩
    · cases z
      refine VX_catch C [(0, 10, 11, 30)] (0, 10, 16, 16) [] rfl (fun z hz => by rw [List.mem_singleton.mp hz]; exact ⟨by decide, eB, by decide, by decide, hl_30⟩) (by decide) (by decide) hl_16 (by decide) (fun q => ?_)
      refine V_astore C dL_approve_16 (by decide) (by first | exact isR_r _ | exact isR_q _ | exact isR_n) rfl ?_
      refine V_ldc C dL_approve_18 cs_L_18 ?_
      refine V_iret C (by decide) (by decide) dL_approve_20 ?_
      exact ⟨by rw [hR_2 e], PW_Q rfl hL hQ hW2⟩
    · cases z
theorem w_train (l : Launch) (hl : l.stackTraces = false) (G : gG) (S : sS) (q : Nat) (a : Nat → Nat) (γ : Nat → Nat → Int32) (σ : aS) (hP : PW S q a γ σ) (x b u : Int32) (hn : cN σ 27 < 512) : Ch l G yL_train cL_train 5 (Option.some FieldType.int) [(0, 8, 9, 30), (0, 8, 14, 16)] 8 8 60 [.ref q, .int x, .int b, .int u] S (fun v T => v = some (.int (hR (-1000001) (-1000002) 0 (tHomeQ σ x (inP b 0 15 ∧ inP u 0 20000)) (0))) ∧ PW T q a γ (oTrain σ x b u)) := by
  obtain ⟨ad, rfl, hC, hG, hW, hL⟩ := hP
  have hW2 : IW (oTrain σ x b u) := (KW_train hW hn).1
  refine Ch_of (by decide) (cat1_all (by repeat first | exact trivial | refine ⟨by first | rfl | exact isR_c (isR_r _), ?_⟩)) (Nat.le_of_ble_eq_true rfl) hl fun X C hXl => ?_
  subst hXl
  dsimp only [lArgs, Nat.reduceAdd]
  refine V_aload_n C dL_train_0 rfl (by first | exact isR_r _ | exact isR_q _ | exact isR_n) ?_
  refine V_iload_n C dL_train_1 rfl ?_
  refine V_iload_n C dL_train_2 rfl ?_
  refine V_iload_n C dL_train_3 rfl ?_
  refine V_callV C (u_train _ hl G S ad σ hC hG hW x b u) kv_L_33 cf_8 (by decide) rfl (RelC_K hC 8 (by decide) rfl) (by decide) (by decide) rfl rfl (Nat.le_of_ble_eq_true rfl) dL_train_4 (fun w T hT => ?_) (fun E T hT => ?_)
  · obtain ⟨e, rfl, hQ⟩ := hT
    dsimp only [Option.toList_some, Option.toList_none, List.cons_append, List.nil_append]
    refine V_iconst C (v := 0) dL_train_7 (by decide) ?_
    refine V_iret C (by decide) (by decide) dL_train_8 ?_
    exact ⟨by rw [hR_0 e], PW_Q rfl hL hQ hW2⟩
  · obtain ⟨hx, hQ⟩ := hT
    rcases hx with ⟨e, z⟩ | ⟨e, z⟩ | ⟨e, z⟩
    · cases z
      refine VX_catch C [] (0, 8, 9, 30) [(0, 8, 14, 16)] rfl (fun z hz => nomatch hz) (by decide) (by decide) hl_30 (by decide) (fun q => ?_)
      refine V_astore C dL_train_9 (by decide) (by first | exact isR_r _ | exact isR_q _ | exact isR_n) rfl ?_
      refine V_ldc C dL_train_11 cs_L_32 ?_
      refine V_iret C (by decide) (by decide) dL_train_13 ?_
      exact ⟨by rw [hR_1 e], PW_Q rfl hL hQ hW2⟩
    · cases z
      refine VX_catch C [(0, 8, 9, 30)] (0, 8, 14, 16) [] rfl (fun z hz => by rw [List.mem_singleton.mp hz]; exact ⟨by decide, eB, by decide, by decide, hl_30⟩) (by decide) (by decide) hl_16 (by decide) (fun q => ?_)
      refine V_astore C dL_train_14 (by decide) (by first | exact isR_r _ | exact isR_q _ | exact isR_n) rfl ?_
      refine V_ldc C dL_train_16 cs_L_18 ?_
      refine V_iret C (by decide) (by decide) dL_train_18 ?_
      exact ⟨by rw [hR_2 e], PW_Q rfl hL hQ hW2⟩
    · cases z
theorem w_report (l : Launch) (hl : l.stackTraces = false) (G : gG) (S : sS) (q : Nat) (a : Nat → Nat) (γ : Nat → Nat → Int32) (σ : aS) (hP : PW S q a γ σ) (x b c : Int32)  : Ch l G yL_report cL_report 5 (Option.some FieldType.int) [(0, 7, 8, 30), (0, 7, 13, 16), (0, 7, 18, 19)] 8 4 30 [.ref q, .int x, .int b, .int c] S (fun v T => v = some (.int (hR (-1000001) (-1000002) (-1000003) (tReport σ x b c) ((oReport σ x b c).1))) ∧ PW T q a γ ((oReport σ x b c).2)) := by
  obtain ⟨ad, rfl, hC, hG, hW, hL⟩ := hP
  have hW2 : IW ((oReport σ x b c).2) := (KW_report hW).1
  refine Ch_of (by decide) (cat1_all (by repeat first | exact trivial | refine ⟨by first | rfl | exact isR_c (isR_r _), ?_⟩)) (Nat.le_of_ble_eq_true rfl) hl fun X C hXl => ?_
  subst hXl
  dsimp only [lArgs, Nat.reduceAdd]
  refine V_aload_n C dL_report_0 rfl (by first | exact isR_r _ | exact isR_q _ | exact isR_n) ?_
  refine V_iload_n C dL_report_1 rfl ?_
  refine V_iload_n C dL_report_2 rfl ?_
  refine V_iload_n C dL_report_3 rfl ?_
  refine V_callV C (u_report _ hl G S ad σ hC hG hW x b c) kv_L_40 cf_8 (by decide) rfl (RelC_K hC 8 (by decide) rfl) (by decide) (by decide) rfl rfl (Nat.le_of_ble_eq_true rfl) dL_report_4 (fun w T hT => ?_) (fun E T hT => ?_)
  · obtain ⟨e, rfl, hQ⟩ := hT
    dsimp only [Option.toList_some, Option.toList_none, List.cons_append, List.nil_append]
    refine V_iret C (by decide) (by decide) dL_report_7 ?_
    exact ⟨by rw [hR_0 e], PW_Q rfl hL hQ hW2⟩
  · obtain ⟨hx, hQ⟩ := hT
    rcases hx with ⟨e, z⟩ | ⟨e, z⟩ | ⟨e, z⟩
    · cases z
      refine VX_catch C [] (0, 7, 8, 30) [(0, 7, 13, 16), (0, 7, 18, 19)] rfl (fun z hz => nomatch hz) (by decide) (by decide) hl_30 (by decide) (fun q => ?_)
      refine V_astore C dL_report_8 (by decide) (by first | exact isR_r _ | exact isR_q _ | exact isR_n) rfl ?_
      refine V_ldc C dL_report_10 cs_L_32 ?_
      refine V_iret C (by decide) (by decide) dL_report_12 ?_
      exact ⟨by rw [hR_1 e], PW_Q rfl hL hQ hW2⟩
    · cases z
      refine VX_catch C [(0, 7, 8, 30)] (0, 7, 13, 16) [(0, 7, 18, 19)] rfl (fun z hz => by rw [List.mem_singleton.mp hz]; exact ⟨by decide, eB, by decide, by decide, hl_30⟩) (by decide) (by decide) hl_16 (by decide) (fun q => ?_)
      refine V_astore C dL_report_13 (by decide) (by first | exact isR_r _ | exact isR_q _ | exact isR_n) rfl ?_
      refine V_ldc C dL_report_15 cs_L_18 ?_
      refine V_iret C (by decide) (by decide) dL_report_17 ?_
      exact ⟨by rw [hR_2 e], PW_Q rfl hL hQ hW2⟩
    · cases z
      refine VX_catch C [(0, 7, 8, 30), (0, 7, 13, 16)] (0, 7, 18, 19) [] rfl (fun z hz => by
        rcases List.mem_cons.mp hz with h | h
        · rw [h]; exact ⟨by decide, eB, by decide, by decide, hl_30⟩
        · rw [List.mem_singleton.mp h]; exact ⟨by decide, eA, by decide, by decide, hl_16⟩) (by decide) (by decide) hl_19 (by decide) (fun q => ?_)
      refine V_astore C dL_report_18 (by decide) (by first | exact isR_r _ | exact isR_q _ | exact isR_n) rfl ?_
      refine V_ldc C dL_report_20 cs_L_21 ?_
      refine V_iret C (by decide) (by decide) dL_report_22 ?_
      exact ⟨by rw [hR_3 e], PW_Q rfl hL hQ hW2⟩
theorem w_see (l : Launch) (hl : l.stackTraces = false) (G : gG) (S : sS) (q : Nat) (a : Nat → Nat) (γ : Nat → Nat → Int32) (σ : aS) (hP : PW S q a γ σ) (x : Int32)  : Ch l G yL_see cL_see 3 (Option.some FieldType.int) [(0, 13, 14, 30)] 8 1 6 [.ref q, .int x] S (fun v T => v = some (.int (hR (-1000001) 0 0 (tC σ x) ((oSee σ x).1))) ∧ PW T q a γ ((oSee σ x).2)) := by
  obtain ⟨ad, rfl, hC, hG, hW, hL⟩ := hP
  have hW2 : IW ((oSee σ x).2) := (KW_see hW).1
  refine Ch_of (by decide) (cat1_all (by repeat first | exact trivial | refine ⟨by first | rfl | exact isR_c (isR_r _), ?_⟩)) (Nat.le_of_ble_eq_true rfl) hl fun X C hXl => ?_
  subst hXl
  dsimp only [lArgs, Nat.reduceAdd]
  refine V_aload_n C dL_see_0 rfl (by first | exact isR_r _ | exact isR_q _ | exact isR_n) ?_
  refine V_iload_n C dL_see_1 rfl ?_
  refine V_callV C (u_see _ hl G S ad σ hC hG hW x) kv_L_43 cf_8 (by decide) rfl (RelC_K hC 8 (by decide) rfl) (by decide) (by decide) rfl rfl (Nat.le_of_ble_eq_true rfl) dL_see_2 (fun w T hT => ?_) (fun E T hT => ?_)
  · obtain ⟨e, rfl, hQ⟩ := hT
    dsimp only [Option.toList_some, Option.toList_none, List.cons_append, List.nil_append]
    refine V_if_eq C (tgt := 12) dL_see_5 (by decide) (fun h9 => ?_) (fun h9 => ?_)
    ·
      refine V_iconst C (v := 0) dL_see_12 (by decide) ?_
      refine V_iret C (by decide) (by decide) dL_see_13 ?_
      exact ⟨by rw [hR_0 e, h9], PW_Q rfl hL hQ hW2⟩
    ·
      refine V_iconst C (v := 1) dL_see_8 (by decide) ?_
      refine V_goto C (tgt := 13) dL_see_9 (by decide) ?_
      refine V_iret C (by decide) (by decide) dL_see_13 ?_
      exact ⟨by rw [hR_0 e, (a01_see σ x).resolve_left h9], PW_Q rfl hL hQ hW2⟩
  · obtain ⟨hx, hQ⟩ := hT
    rcases hx with ⟨e, z⟩ | ⟨e, z⟩ | ⟨e, z⟩
    · cases z
      refine VX_catch C [] (0, 13, 14, 30) [] rfl (fun z hz => nomatch hz) (by decide) (by decide) hl_30 (by decide) (fun q => ?_)
      refine V_astore_n C dL_see_14 (by decide) (by first | exact isR_r _ | exact isR_q _ | exact isR_n) rfl ?_
      refine V_ldc C dL_see_15 cs_L_32 ?_
      refine V_iret C (by decide) (by decide) dL_see_17 ?_
      exact ⟨by rw [hR_1 e], PW_Q rfl hL hQ hW2⟩
    · cases z
    · cases z
theorem w_order (l : Launch) (hl : l.stackTraces = false) (G : gG) (S : sS) (q : Nat) (a : Nat → Nat) (γ : Nat → Nat → Int32) (σ : aS) (hP : PW S q a γ σ) (x b c d : Int32)  : Ch l G yL_order cL_order 6 (Option.some FieldType.int) [(0, 9, 10, 30), (0, 9, 15, 16), (0, 9, 20, 19)] 8 8 60 [.ref q, .int x, .int b, .int c, .int d] S (fun v T => v = some (.int (hR (-1000001) (-1000002) (-1000003) (tOrder σ x b c d) ((oOrder σ x b c d).1))) ∧ PW T q a γ ((oOrder σ x b c d).2)) := by
  obtain ⟨ad, rfl, hC, hG, hW, hL⟩ := hP
  have hW2 : IW ((oOrder σ x b c d).2) := (KW_order hW).1
  refine Ch_of (by decide) (cat1_all (by repeat first | exact trivial | refine ⟨by first | rfl | exact isR_c (isR_r _), ?_⟩)) (Nat.le_of_ble_eq_true rfl) hl fun X C hXl => ?_
  subst hXl
  dsimp only [lArgs, Nat.reduceAdd]
  refine V_aload_n C dL_order_0 rfl (by first | exact isR_r _ | exact isR_q _ | exact isR_n) ?_
  refine V_iload_n C dL_order_1 rfl ?_
  refine V_iload_n C dL_order_2 rfl ?_
  refine V_iload_n C dL_order_3 rfl ?_
  refine V_iload C dL_order_4 rfl ?_
  refine V_callV C (u_order _ hl G S ad σ hC hG hW x b c d) kv_L_54 cf_8 (by decide) rfl (RelC_K hC 8 (by decide) rfl) (by decide) (by decide) rfl rfl (Nat.le_of_ble_eq_true rfl) dL_order_6 (fun w T hT => ?_) (fun E T hT => ?_)
  · obtain ⟨e, rfl, hQ⟩ := hT
    dsimp only [Option.toList_some, Option.toList_none, List.cons_append, List.nil_append]
    refine V_iret C (by decide) (by decide) dL_order_9 ?_
    exact ⟨by rw [hR_0 e], PW_Q rfl hL hQ hW2⟩
  · obtain ⟨hx, hQ⟩ := hT
    rcases hx with ⟨e, z⟩ | ⟨e, z⟩ | ⟨e, z⟩
    · cases z
      refine VX_catch C [] (0, 9, 10, 30) [(0, 9, 15, 16), (0, 9, 20, 19)] rfl (fun z hz => nomatch hz) (by decide) (by decide) hl_30 (by decide) (fun q => ?_)
      refine V_astore C dL_order_10 (by decide) (by first | exact isR_r _ | exact isR_q _ | exact isR_n) rfl ?_
      refine V_ldc C dL_order_12 cs_L_32 ?_
      refine V_iret C (by decide) (by decide) dL_order_14 ?_
      exact ⟨by rw [hR_1 e], PW_Q rfl hL hQ hW2⟩
    · cases z
      refine VX_catch C [(0, 9, 10, 30)] (0, 9, 15, 16) [(0, 9, 20, 19)] rfl (fun z hz => by rw [List.mem_singleton.mp hz]; exact ⟨by decide, eB, by decide, by decide, hl_30⟩) (by decide) (by decide) hl_16 (by decide) (fun q => ?_)
      refine V_astore C dL_order_15 (by decide) (by first | exact isR_r _ | exact isR_q _ | exact isR_n) rfl ?_
      refine V_ldc C dL_order_17 cs_L_18 ?_
      refine V_iret C (by decide) (by decide) dL_order_19 ?_
      exact ⟨by rw [hR_2 e], PW_Q rfl hL hQ hW2⟩
    · cases z
      refine VX_catch C [(0, 9, 10, 30), (0, 9, 15, 16)] (0, 9, 20, 19) [] rfl (fun z hz => by
        rcases List.mem_cons.mp hz with h | h
        · rw [h]; exact ⟨by decide, eB, by decide, by decide, hl_30⟩
        · rw [List.mem_singleton.mp h]; exact ⟨by decide, eA, by decide, by decide, hl_16⟩) (by decide) (by decide) hl_19 (by decide) (fun q => ?_)
      refine V_astore C dL_order_20 (by decide) (by first | exact isR_r _ | exact isR_q _ | exact isR_n) rfl ?_
      refine V_ldc C dL_order_22 cs_L_21 ?_
      refine V_iret C (by decide) (by decide) dL_order_24 ?_
      exact ⟨by rw [hR_3 e], PW_Q rfl hL hQ hW2⟩
theorem w_wish (l : Launch) (hl : l.stackTraces = false) (G : gG) (S : sS) (q : Nat) (a : Nat → Nat) (γ : Nat → Nat → Int32) (σ : aS) (hP : PW S q a γ σ) (x y b : Int32)  : Ch l G yL_wish cL_wish 5 (Option.some FieldType.int) [(0, 8, 9, 30)] 8 4 30 [.ref q, .int x, .int y, .int b] S (fun v T => v = some (.int (hR (-1000001) 0 0 (tCH σ x y) (0))) ∧ PW T q a γ (oWish σ x y b)) := by
  obtain ⟨ad, rfl, hC, hG, hW, hL⟩ := hP
  have hW2 : IW (oWish σ x y b) := (KW_wish hW).1
  refine Ch_of (by decide) (cat1_all (by repeat first | exact trivial | refine ⟨by first | rfl | exact isR_c (isR_r _), ?_⟩)) (Nat.le_of_ble_eq_true rfl) hl fun X C hXl => ?_
  subst hXl
  dsimp only [lArgs, Nat.reduceAdd]
  refine V_aload_n C dL_wish_0 rfl (by first | exact isR_r _ | exact isR_q _ | exact isR_n) ?_
  refine V_iload_n C dL_wish_1 rfl ?_
  refine V_iload_n C dL_wish_2 rfl ?_
  refine V_iload_n C dL_wish_3 rfl ?_
  refine V_callV C (u_wish _ hl G S ad σ hC hG hW x y b) kv_L_62 cf_8 (by decide) rfl (RelC_K hC 8 (by decide) rfl) (by decide) (by decide) rfl rfl (Nat.le_of_ble_eq_true rfl) dL_wish_4 (fun w T hT => ?_) (fun E T hT => ?_)
  · obtain ⟨e, rfl, hQ⟩ := hT
    dsimp only [Option.toList_some, Option.toList_none, List.cons_append, List.nil_append]
    refine V_iconst C (v := 0) dL_wish_7 (by decide) ?_
    refine V_iret C (by decide) (by decide) dL_wish_8 ?_
    exact ⟨by rw [hR_0 e], PW_Q rfl hL hQ hW2⟩
  · obtain ⟨hx, hQ⟩ := hT
    rcases hx with ⟨e, z⟩ | ⟨e, z⟩ | ⟨e, z⟩
    · cases z
      refine VX_catch C [] (0, 8, 9, 30) [] rfl (fun z hz => nomatch hz) (by decide) (by decide) hl_30 (by decide) (fun q => ?_)
      refine V_astore C dL_wish_9 (by decide) (by first | exact isR_r _ | exact isR_q _ | exact isR_n) rfl ?_
      refine V_ldc C dL_wish_11 cs_L_32 ?_
      refine V_iret C (by decide) (by decide) dL_wish_13 ?_
      exact ⟨by rw [hR_1 e], PW_Q rfl hL hQ hW2⟩
    · cases z
    · cases z
theorem w_place (l : Launch) (hl : l.stackTraces = false) (G : gG) (S : sS) (q : Nat) (a : Nat → Nat) (γ : Nat → Nat → Int32) (σ : aS) (hP : PW S q a γ σ) (x y : Int32)  : Ch l G yL_place cL_place 4 (Option.some FieldType.int) [(0, 6, 7, 30), (0, 6, 11, 19)] 8 8 60 [.ref q, .int x, .int y] S (fun v T => v = some (.int (hR (-1000001) (-1000003) 0 (tPlace σ x y) ((oPlace σ x y).1))) ∧ PW T q a γ ((oPlace σ x y).2)) := by
  obtain ⟨ad, rfl, hC, hG, hW, hL⟩ := hP
  have hW2 : IW ((oPlace σ x y).2) := (KW_place hW).1
  refine Ch_of (by decide) (cat1_all (by repeat first | exact trivial | refine ⟨by first | rfl | exact isR_c (isR_r _), ?_⟩)) (Nat.le_of_ble_eq_true rfl) hl fun X C hXl => ?_
  subst hXl
  dsimp only [lArgs, Nat.reduceAdd]
  refine V_aload_n C dL_place_0 rfl (by first | exact isR_r _ | exact isR_q _ | exact isR_n) ?_
  refine V_iload_n C dL_place_1 rfl ?_
  refine V_iload_n C dL_place_2 rfl ?_
  refine V_callV C (u_place _ hl G S ad σ hC hG hW x y) kv_L_75 cf_8 (by decide) rfl (RelC_K hC 8 (by decide) rfl) (by decide) (by decide) rfl rfl (Nat.le_of_ble_eq_true rfl) dL_place_3 (fun w T hT => ?_) (fun E T hT => ?_)
  · obtain ⟨e, rfl, hQ⟩ := hT
    dsimp only [Option.toList_some, Option.toList_none, List.cons_append, List.nil_append]
    refine V_iret C (by decide) (by decide) dL_place_6 ?_
    exact ⟨by rw [hR_0 e], PW_Q rfl hL hQ hW2⟩
  · obtain ⟨hx, hQ⟩ := hT
    rcases hx with ⟨e, z⟩ | ⟨e, z⟩ | ⟨e, z⟩
    · cases z
      refine VX_catch C [] (0, 6, 7, 30) [(0, 6, 11, 19)] rfl (fun z hz => nomatch hz) (by decide) (by decide) hl_30 (by decide) (fun q => ?_)
      refine V_astore_n C dL_place_7 (by decide) (by first | exact isR_r _ | exact isR_q _ | exact isR_n) rfl ?_
      refine V_ldc C dL_place_8 cs_L_32 ?_
      refine V_iret C (by decide) (by decide) dL_place_10 ?_
      exact ⟨by rw [hR_1 e], PW_Q rfl hL hQ hW2⟩
    · cases z
      refine VX_catch C [(0, 6, 7, 30)] (0, 6, 11, 19) [] rfl (fun z hz => by rw [List.mem_singleton.mp hz]; exact ⟨by decide, eB, by decide, by decide, hl_30⟩) (by decide) (by decide) hl_19 (by decide) (fun q => ?_)
      refine V_astore_n C dL_place_11 (by decide) (by first | exact isR_r _ | exact isR_q _ | exact isR_n) rfl ?_
      refine V_ldc C dL_place_12 cs_L_21 ?_
      refine V_iret C (by decide) (by decide) dL_place_14 ?_
      exact ⟨by rw [hR_2 e], PW_Q rfl hL hQ hW2⟩
    · cases z
theorem w_placeAll (l : Launch) (hl : l.stackTraces = false) (G : gG) (S : sS) (q : Nat) (a : Nat → Nat) (γ : Nat → Nat → Int32) (σ : aS) (hP : PW S q a γ σ) (x : Int32)  : Ch l G yL_placeAll cL_placeAll 3 (Option.some FieldType.int) [(0, 5, 6, 16), (0, 5, 10, 19)] 9 40 400 [.ref q, .int x] S (fun v T => v = some (.int (hR (-1000002) (-1000003) 0 (paT σ x) ((oPlaceAll σ x).1))) ∧ PW T q a γ ((oPlaceAll σ x).2)) := by
  obtain ⟨ad, rfl, hC, hG, hW, hL⟩ := hP
  have hW2 : IW ((oPlaceAll σ x).2) := (KW_placeAll hW).1
  refine Ch_of (by decide) (cat1_all (by repeat first | exact trivial | refine ⟨by first | rfl | exact isR_c (isR_r _), ?_⟩)) (Nat.le_of_ble_eq_true rfl) hl fun X C hXl => ?_
  subst hXl
  dsimp only [lArgs, Nat.reduceAdd]
  refine V_aload_n C dL_placeAll_0 rfl (by first | exact isR_r _ | exact isR_q _ | exact isR_n) ?_
  refine V_iload_n C dL_placeAll_1 rfl ?_
  refine V_callV C (u_placeAll _ hl G S ad σ hC hG hW x) kv_L_78 cf_8 (by decide) rfl (RelC_K hC 8 (by decide) rfl) (by decide) (by decide) rfl rfl (Nat.le_of_ble_eq_true rfl) dL_placeAll_2 (fun w T hT => ?_) (fun E T hT => ?_)
  · obtain ⟨e, rfl, hQ⟩ := hT
    dsimp only [Option.toList_some, Option.toList_none, List.cons_append, List.nil_append]
    refine V_iret C (by decide) (by decide) dL_placeAll_5 ?_
    exact ⟨by rw [hR_0 e], PW_Q rfl hL hQ hW2⟩
  · obtain ⟨hx, hQ⟩ := hT
    rcases hx with ⟨e, z⟩ | ⟨e, z⟩ | ⟨e, z⟩
    · cases z
      refine VX_catch C [] (0, 5, 6, 16) [(0, 5, 10, 19)] rfl (fun z hz => nomatch hz) (by decide) (by decide) hl_16 (by decide) (fun q => ?_)
      refine V_astore_n C dL_placeAll_6 (by decide) (by first | exact isR_r _ | exact isR_q _ | exact isR_n) rfl ?_
      refine V_ldc C dL_placeAll_7 cs_L_18 ?_
      refine V_iret C (by decide) (by decide) dL_placeAll_9 ?_
      exact ⟨by rw [hR_1 e], PW_Q rfl hL hQ hW2⟩
    · cases z
      refine VX_catch C [(0, 5, 6, 16)] (0, 5, 10, 19) [] rfl (fun z hz => by rw [List.mem_singleton.mp hz]; exact ⟨by decide, eA, by decide, by decide, hl_16⟩) (by decide) (by decide) hl_19 (by decide) (fun q => ?_)
      refine V_astore_n C dL_placeAll_10 (by decide) (by first | exact isR_r _ | exact isR_q _ | exact isR_n) rfl ?_
      refine V_ldc C dL_placeAll_11 cs_L_21 ?_
      refine V_iret C (by decide) (by decide) dL_placeAll_13 ?_
      exact ⟨by rw [hR_2 e], PW_Q rfl hL hQ hW2⟩
    · cases z
theorem w_visits (l : Launch) (hl : l.stackTraces = false) (G : gG) (S : sS) (q : Nat) (a : Nat → Nat) (γ : Nat → Nat → Int32) (σ : aS) (hP : PW S q a γ σ) (x z9 : Int32)  : Ch l G yL_visits cL_visits 4 (Option.some FieldType.int) [(0, 6, 7, 30), (0, 6, 11, 16)] 8 2 12 [.ref q, .int x, .int z9] S (fun v T => v = some (.int (hR (-1000001) (-1000002) 0 (tVisits σ x z9) ((oVisits σ x z9).1))) ∧ PW T q a γ ((oVisits σ x z9).2)) := by
  obtain ⟨ad, rfl, hC, hG, hW, hL⟩ := hP
  have hW2 : IW ((oVisits σ x z9).2) := (KW_visits hW).1
  refine Ch_of (by decide) (cat1_all (by repeat first | exact trivial | refine ⟨by first | rfl | exact isR_c (isR_r _), ?_⟩)) (Nat.le_of_ble_eq_true rfl) hl fun X C hXl => ?_
  subst hXl
  dsimp only [lArgs, Nat.reduceAdd]
  refine V_aload_n C dL_visits_0 rfl (by first | exact isR_r _ | exact isR_q _ | exact isR_n) ?_
  refine V_iload_n C dL_visits_1 rfl ?_
  refine V_iload_n C dL_visits_2 rfl ?_
  refine V_callV C (u_visits _ hl G S ad σ hC hG hW x z9) kv_L_81 cf_8 (by decide) rfl (RelC_K hC 8 (by decide) rfl) (by decide) (by decide) rfl rfl (Nat.le_of_ble_eq_true rfl) dL_visits_3 (fun w T hT => ?_) (fun E T hT => ?_)
  · obtain ⟨e, rfl, hQ⟩ := hT
    dsimp only [Option.toList_some, Option.toList_none, List.cons_append, List.nil_append]
    refine V_iret C (by decide) (by decide) dL_visits_6 ?_
    exact ⟨by rw [hR_0 e], PW_Q rfl hL hQ hW2⟩
  · obtain ⟨hx, hQ⟩ := hT
    rcases hx with ⟨e, z⟩ | ⟨e, z⟩ | ⟨e, z⟩
    · cases z
      refine VX_catch C [] (0, 6, 7, 30) [(0, 6, 11, 16)] rfl (fun z hz => nomatch hz) (by decide) (by decide) hl_30 (by decide) (fun q => ?_)
      refine V_astore_n C dL_visits_7 (by decide) (by first | exact isR_r _ | exact isR_q _ | exact isR_n) rfl ?_
      refine V_ldc C dL_visits_8 cs_L_32 ?_
      refine V_iret C (by decide) (by decide) dL_visits_10 ?_
      exact ⟨by rw [hR_1 e], PW_Q rfl hL hQ hW2⟩
    · cases z
      refine VX_catch C [(0, 6, 7, 30)] (0, 6, 11, 16) [] rfl (fun z hz => by rw [List.mem_singleton.mp hz]; exact ⟨by decide, eB, by decide, by decide, hl_30⟩) (by decide) (by decide) hl_16 (by decide) (fun q => ?_)
      refine V_astore_n C dL_visits_11 (by decide) (by first | exact isR_r _ | exact isR_q _ | exact isR_n) rfl ?_
      refine V_ldc C dL_visits_12 cs_L_18 ?_
      refine V_iret C (by decide) (by decide) dL_visits_14 ?_
      exact ⟨by rw [hR_2 e], PW_Q rfl hL hQ hW2⟩
    · cases z
theorem w_came (l : Launch) (hl : l.stackTraces = false) (G : gG) (S : sS) (q : Nat) (a : Nat → Nat) (γ : Nat → Nat → Int32) (σ : aS) (hP : PW S q a γ σ) (x : Int32)  : Ch l G yL_came cL_came 3 (Option.some FieldType.int) [(0, 6, 7, 30), (0, 6, 11, 19)] 8 2 12 [.ref q, .int x] S (fun v T => v = some (.int (hR (-1000001) (-1000003) 0 (tCame σ x) (0))) ∧ PW T q a γ (oCame σ x)) := by
  obtain ⟨ad, rfl, hC, hG, hW, hL⟩ := hP
  have hW2 : IW (oCame σ x) := (KW_came hW).1
  refine Ch_of (by decide) (cat1_all (by repeat first | exact trivial | refine ⟨by first | rfl | exact isR_c (isR_r _), ?_⟩)) (Nat.le_of_ble_eq_true rfl) hl fun X C hXl => ?_
  subst hXl
  dsimp only [lArgs, Nat.reduceAdd]
  refine V_aload_n C dL_came_0 rfl (by first | exact isR_r _ | exact isR_q _ | exact isR_n) ?_
  refine V_iload_n C dL_came_1 rfl ?_
  refine V_callV C (u_came _ hl G S ad σ hC hG hW x) kv_L_84 cf_8 (by decide) rfl (RelC_K hC 8 (by decide) rfl) (by decide) (by decide) rfl rfl (Nat.le_of_ble_eq_true rfl) dL_came_2 (fun w T hT => ?_) (fun E T hT => ?_)
  · obtain ⟨e, rfl, hQ⟩ := hT
    dsimp only [Option.toList_some, Option.toList_none, List.cons_append, List.nil_append]
    refine V_iconst C (v := 0) dL_came_5 (by decide) ?_
    refine V_iret C (by decide) (by decide) dL_came_6 ?_
    exact ⟨by rw [hR_0 e], PW_Q rfl hL hQ hW2⟩
  · obtain ⟨hx, hQ⟩ := hT
    rcases hx with ⟨e, z⟩ | ⟨e, z⟩ | ⟨e, z⟩
    · cases z
      refine VX_catch C [] (0, 6, 7, 30) [(0, 6, 11, 19)] rfl (fun z hz => nomatch hz) (by decide) (by decide) hl_30 (by decide) (fun q => ?_)
      refine V_astore_n C dL_came_7 (by decide) (by first | exact isR_r _ | exact isR_q _ | exact isR_n) rfl ?_
      refine V_ldc C dL_came_8 cs_L_32 ?_
      refine V_iret C (by decide) (by decide) dL_came_10 ?_
      exact ⟨by rw [hR_1 e], PW_Q rfl hL hQ hW2⟩
    · cases z
      refine VX_catch C [(0, 6, 7, 30)] (0, 6, 11, 19) [] rfl (fun z hz => by rw [List.mem_singleton.mp hz]; exact ⟨by decide, eB, by decide, by decide, hl_30⟩) (by decide) (by decide) hl_19 (by decide) (fun q => ?_)
      refine V_astore_n C dL_came_11 (by decide) (by first | exact isR_r _ | exact isR_q _ | exact isR_n) rfl ?_
      refine V_ldc C dL_came_12 cs_L_21 ?_
      refine V_iret C (by decide) (by decide) dL_came_14 ?_
      exact ⟨by rw [hR_2 e], PW_Q rfl hL hQ hW2⟩
    · cases z
theorem w_pay (l : Launch) (hl : l.stackTraces = false) (G : gG) (S : sS) (q : Nat) (a : Nat → Nat) (γ : Nat → Nat → Int32) (σ : aS) (hP : PW S q a γ σ) (x z9 : Int32)  : Ch l G yL_pay cL_pay 4 (Option.some FieldType.int) [(0, 6, 7, 30), (0, 6, 11, 16)] 8 2 12 [.ref q, .int x, .int z9] S (fun v T => v = some (.int (hR (-1000001) (-1000002) 0 (tPay σ x z9) ((oPay σ x z9).1))) ∧ PW T q a γ ((oPay σ x z9).2)) := by
  obtain ⟨ad, rfl, hC, hG, hW, hL⟩ := hP
  have hW2 : IW ((oPay σ x z9).2) := (KW_pay hW).1
  refine Ch_of (by decide) (cat1_all (by repeat first | exact trivial | refine ⟨by first | rfl | exact isR_c (isR_r _), ?_⟩)) (Nat.le_of_ble_eq_true rfl) hl fun X C hXl => ?_
  subst hXl
  dsimp only [lArgs, Nat.reduceAdd]
  refine V_aload_n C dL_pay_0 rfl (by first | exact isR_r _ | exact isR_q _ | exact isR_n) ?_
  refine V_iload_n C dL_pay_1 rfl ?_
  refine V_iload_n C dL_pay_2 rfl ?_
  refine V_callV C (u_pay _ hl G S ad σ hC hG hW x z9) kv_L_88 cf_8 (by decide) rfl (RelC_K hC 8 (by decide) rfl) (by decide) (by decide) rfl rfl (Nat.le_of_ble_eq_true rfl) dL_pay_3 (fun w T hT => ?_) (fun E T hT => ?_)
  · obtain ⟨e, rfl, hQ⟩ := hT
    dsimp only [Option.toList_some, Option.toList_none, List.cons_append, List.nil_append]
    refine V_iret C (by decide) (by decide) dL_pay_6 ?_
    exact ⟨by rw [hR_0 e], PW_Q rfl hL hQ hW2⟩
  · obtain ⟨hx, hQ⟩ := hT
    rcases hx with ⟨e, z⟩ | ⟨e, z⟩ | ⟨e, z⟩
    · cases z
      refine VX_catch C [] (0, 6, 7, 30) [(0, 6, 11, 16)] rfl (fun z hz => nomatch hz) (by decide) (by decide) hl_30 (by decide) (fun q => ?_)
      refine V_astore_n C dL_pay_7 (by decide) (by first | exact isR_r _ | exact isR_q _ | exact isR_n) rfl ?_
      refine V_ldc C dL_pay_8 cs_L_32 ?_
      refine V_iret C (by decide) (by decide) dL_pay_10 ?_
      exact ⟨by rw [hR_1 e], PW_Q rfl hL hQ hW2⟩
    · cases z
      refine VX_catch C [(0, 6, 7, 30)] (0, 6, 11, 16) [] rfl (fun z hz => by rw [List.mem_singleton.mp hz]; exact ⟨by decide, eB, by decide, by decide, hl_30⟩) (by decide) (by decide) hl_16 (by decide) (fun q => ?_)
      refine V_astore_n C dL_pay_11 (by decide) (by first | exact isR_r _ | exact isR_q _ | exact isR_n) rfl ?_
      refine V_ldc C dL_pay_12 cs_L_18 ?_
      refine V_iret C (by decide) (by decide) dL_pay_14 ?_
      exact ⟨by rw [hR_2 e], PW_Q rfl hL hQ hW2⟩
    · cases z
theorem w_handOver (l : Launch) (hl : l.stackTraces = false) (G : gG) (S : sS) (q : Nat) (a : Nat → Nat) (γ : Nat → Nat → Int32) (σ : aS) (hP : PW S q a γ σ) (x w : Int32)  : Ch l G yL_handOver cL_handOver 4 (Option.some FieldType.int) [(0, 6, 7, 30)] 8 2 12 [.ref q, .int x, .int w] S (fun v T => v = some (.int (hR (-1000001) 0 0 (tHand σ x w) ((oHand σ x w).1))) ∧ PW T q a γ ((oHand σ x w).2)) := by
  obtain ⟨ad, rfl, hC, hG, hW, hL⟩ := hP
  have hW2 : IW ((oHand σ x w).2) := (KW_hand hW).1
  refine Ch_of (by decide) (cat1_all (by repeat first | exact trivial | refine ⟨by first | rfl | exact isR_c (isR_r _), ?_⟩)) (Nat.le_of_ble_eq_true rfl) hl fun X C hXl => ?_
  subst hXl
  dsimp only [lArgs, Nat.reduceAdd]
  refine V_aload_n C dL_handOver_0 rfl (by first | exact isR_r _ | exact isR_q _ | exact isR_n) ?_
  refine V_iload_n C dL_handOver_1 rfl ?_
  refine V_iload_n C dL_handOver_2 rfl ?_
  refine V_callV C (u_handOver _ hl G S ad σ hC hG hW x w) kv_L_94 cf_8 (by decide) rfl (RelC_K hC 8 (by decide) rfl) (by decide) (by decide) rfl rfl (Nat.le_of_ble_eq_true rfl) dL_handOver_3 (fun w T hT => ?_) (fun E T hT => ?_)
  · obtain ⟨e, rfl, hQ⟩ := hT
    dsimp only [Option.toList_some, Option.toList_none, List.cons_append, List.nil_append]
    refine V_iret C (by decide) (by decide) dL_handOver_6 ?_
    exact ⟨by rw [hR_0 e], PW_Q rfl hL hQ hW2⟩
  · obtain ⟨hx, hQ⟩ := hT
    rcases hx with ⟨e, z⟩ | ⟨e, z⟩ | ⟨e, z⟩
    · cases z
      refine VX_catch C [] (0, 6, 7, 30) [] rfl (fun z hz => nomatch hz) (by decide) (by decide) hl_30 (by decide) (fun q => ?_)
      refine V_astore_n C dL_handOver_7 (by decide) (by first | exact isR_r _ | exact isR_q _ | exact isR_n) rfl ?_
      refine V_ldc C dL_handOver_8 cs_L_32 ?_
      refine V_iret C (by decide) (by decide) dL_handOver_10 ?_
      exact ⟨by rw [hR_1 e], PW_Q rfl hL hQ hW2⟩
    · cases z
    · cases z
theorem w_pass (l : Launch) (hl : l.stackTraces = false) (G : gG) (S : sS) (q : Nat) (a : Nat → Nat) (γ : Nat → Nat → Int32) (σ : aS) (hP : PW S q a γ σ) (z9 : Int32)  : Ch l G yL_pass cL_pass 3 (Option.some FieldType.int) [(0, 5, 6, 16), (0, 5, 10, 19)] 8 4 30 [.ref q, .int z9] S (fun v T => v = some (.int (hR (-1000002) (-1000003) 0 (tPass σ z9) ((oPass σ z9).1))) ∧ PW T q a γ ((oPass σ z9).2)) := by
  obtain ⟨ad, rfl, hC, hG, hW, hL⟩ := hP
  have hW2 : IW ((oPass σ z9).2) := (KW_pass hW).1
  refine Ch_of (by decide) (cat1_all (by repeat first | exact trivial | refine ⟨by first | rfl | exact isR_c (isR_r _), ?_⟩)) (Nat.le_of_ble_eq_true rfl) hl fun X C hXl => ?_
  subst hXl
  dsimp only [lArgs, Nat.reduceAdd]
  refine V_aload_n C dL_pass_0 rfl (by first | exact isR_r _ | exact isR_q _ | exact isR_n) ?_
  refine V_iload_n C dL_pass_1 rfl ?_
  refine V_callV C (u_pass _ hl G S ad σ hC hG hW z9) kv_L_100 cf_8 (by decide) rfl (RelC_K hC 8 (by decide) rfl) (by decide) (by decide) rfl rfl (Nat.le_of_ble_eq_true rfl) dL_pass_2 (fun w T hT => ?_) (fun E T hT => ?_)
  · obtain ⟨e, rfl, hQ⟩ := hT
    dsimp only [Option.toList_some, Option.toList_none, List.cons_append, List.nil_append]
    refine V_iret C (by decide) (by decide) dL_pass_5 ?_
    exact ⟨by rw [hR_0 e], PW_Q rfl hL hQ hW2⟩
  · obtain ⟨hx, hQ⟩ := hT
    rcases hx with ⟨e, z⟩ | ⟨e, z⟩ | ⟨e, z⟩
    · cases z
      refine VX_catch C [] (0, 5, 6, 16) [(0, 5, 10, 19)] rfl (fun z hz => nomatch hz) (by decide) (by decide) hl_16 (by decide) (fun q => ?_)
      refine V_astore_n C dL_pass_6 (by decide) (by first | exact isR_r _ | exact isR_q _ | exact isR_n) rfl ?_
      refine V_ldc C dL_pass_7 cs_L_18 ?_
      refine V_iret C (by decide) (by decide) dL_pass_9 ?_
      exact ⟨by rw [hR_1 e], PW_Q rfl hL hQ hW2⟩
    · cases z
      refine VX_catch C [(0, 5, 6, 16)] (0, 5, 10, 19) [] rfl (fun z hz => by rw [List.mem_singleton.mp hz]; exact ⟨by decide, eA, by decide, by decide, hl_16⟩) (by decide) (by decide) hl_19 (by decide) (fun q => ?_)
      refine V_astore_n C dL_pass_10 (by decide) (by first | exact isR_r _ | exact isR_q _ | exact isR_n) rfl ?_
      refine V_ldc C dL_pass_11 cs_L_21 ?_
      refine V_iret C (by decide) (by decide) dL_pass_13 ?_
      exact ⟨by rw [hR_2 e], PW_Q rfl hL hQ hW2⟩
    · cases z
