/-! THE CLASS: calls that read, on. -/
theorem c_X8_owed (l : Launch) (hl : l.stackTraces = false) (G : gG) (S : sS) (ad : Nat → Nat → Nat) (σ : aS) (hC : RelC S ad σ) (hI : IC σ) (hS : IS σ) (h : Nat) (hh : h < cN σ 20) : CtF l G yX8_owed cX8_owed 2 (Option.some FieldType.int) 7 1 6 [.ref (ad 8 0), .int (nI h)] S (some (.int (cOw σ h))) S := by
  refine Ct_of (by decide) (cat1_all (by repeat first | exact trivial | refine ⟨by first | rfl | exact isR_c (isR_q _), ?_⟩)) (Nat.le_of_ble_eq_true rfl) hl fun X C hXl hin => ?_
  subst hXl
  dsimp only [lArgs, Nat.reduceAdd]
  have kx : sK S (ad 8 0) = 9 := RelC_K hC 8 (by decide) rfl
  refine V_aload_n C dX8_owed_0 rfl (by first | exact isR_r _ | exact isR_q _ | exact isR_n) ?_
  refine V_aload_n C dX8_owed_1 rfl (by first | exact isR_r _ | exact isR_q _ | exact isR_n) ?_
  refine V_iload_n C dX8_owed_2 rfl ?_
  refine V_fV C (c_X8_homeAt _ hl G S ad σ hC hI.2.2.1.2 h hh) kv_X8_71 cf_8 (by decide) rfl kx (by decide) (by decide) rfl rfl (Nat.le_of_ble_eq_true rfl) dX8_owed_3 ?_
  dsimp only [Option.toList_some, Option.toList_none, List.cons_append, List.nil_append]
  refine V_fV C (c_X8_owedTo _ hl G S ad σ hC hI hS h hh) kv_X8_200 cf_8 (by decide) rfl kx (by decide) (by decide) rfl rfl (Nat.le_of_ble_eq_true rfl) dX8_owed_6 ?_
  dsimp only [Option.toList_some, Option.toList_none, List.cons_append, List.nil_append]
  refine V_iret C (by first | omega | decide) (by first | omega | decide) dX8_owed_9 ?_
  exact ⟨rfl, rfl⟩
theorem c_X8_owedX (l : Launch) (hl : l.stackTraces = false) (G : gG) (S : sS) (ad : Nat → Nat → Nat) (σ : aS) (hC : RelC S ad σ) (hI : IC σ) (x : Int32) (hx : ¬ ∃ k, k < cN σ 20 ∧ x = nI k) : CtX l G yX8_owed cX8_owed 2 (Option.some FieldType.int) 7 1 6 [.ref (ad 8 0), .int x] S "java/lang/IndexOutOfBoundsException" := by
  refine Ct_of (by decide) (cat1_all (by repeat first | exact trivial | refine ⟨by first | rfl | exact isR_c (isR_q _), ?_⟩)) (Nat.le_of_ble_eq_true rfl) hl fun X C hXl hin => ?_
  subst hXl
  dsimp only [lArgs, Nat.reduceAdd]
  have kx : sK S (ad 8 0) = 9 := RelC_K hC 8 (by decide) rfl
  refine V_aload_n C dX8_owed_0 rfl (by first | exact isR_r _ | exact isR_q _ | exact isR_n) ?_
  refine V_aload_n C dX8_owed_1 rfl (by first | exact isR_r _ | exact isR_q _ | exact isR_n) ?_
  refine V_iload_n C dX8_owed_2 rfl ?_
  refine V_xV C (c_X8_homeAtX _ hl G S ad σ hC hI.2.2.1.2 x hx) kv_X8_71 cf_8 (by decide) rfl kx (by decide) (by decide) rfl rfl (Nat.le_of_ble_eq_true rfl) dX8_owed_3 (by first | omega | decide) (by first | omega | decide) ?_
  exact ⟨rfl, rfl⟩
theorem c_X8_requireWorker (l : Launch) (hl : l.stackTraces = false) (G : gG) (S : sS) (w : Int32) (h : 0 ≤ w ∧ w ≤ 4) : CtF l G yX8_requireWorker cX8_requireWorker 1 none 6 1 6 [.int w] S none S := by
  refine Ct_of (by decide) (cat1_all (by repeat first | exact trivial | refine ⟨by first | rfl | exact isR_c (isR_q _), ?_⟩)) (Nat.le_of_ble_eq_true rfl) hl fun X C hXl hin => ?_
  subst hXl
  dsimp only [lArgs, Nat.reduceAdd]
  refine V_iload_n C dX8_requireWorker_0 rfl ?_
  refine V_iconst C (v := 0) dX8_requireWorker_1 (by decide) ?_
  refine V_iconst C (v := 4) dX8_requireWorker_2 (by decide) ?_
  refine V_fS C (c_X8_isWithin _ hl G S _ _ _) ks_X8_34 (by decide) (by decide) rfl rfl (Nat.le_of_ble_eq_true rfl) dX8_requireWorker_3 ?_
  dsimp only [Option.toList_some, Option.toList_none, List.cons_append, List.nil_append]
  refine V_if_ne C (tgt := 20) dX8_requireWorker_6 (by decide) (fun h6 => ?_) (fun h6 => ?_)
  · refine V_vret C (by first | omega | decide) (by first | omega | decide) dX8_requireWorker_20 ?_
    exact ⟨rfl, rfl⟩
  · exact absurd (bI_eq.mp h6) (fun z => z h)
theorem c_X8_requireWorkerX (l : Launch) (hl : l.stackTraces = false) (G : gG) (S : sS) (w : Int32) (h : ¬ (0 ≤ w ∧ w ≤ 4)) : CtX l G yX8_requireWorker cX8_requireWorker 1 none 6 1 6 [.int w] S "java/lang/IndexOutOfBoundsException" := by
  refine Ct_of (by decide) (cat1_all (by repeat first | exact trivial | refine ⟨by first | rfl | exact isR_c (isR_q _), ?_⟩)) (Nat.le_of_ble_eq_true rfl) hl fun X C hXl hin => ?_
  subst hXl
  dsimp only [lArgs, Nat.reduceAdd]
  refine V_iload_n C dX8_requireWorker_0 rfl ?_
  refine V_iconst C (v := 0) dX8_requireWorker_1 (by decide) ?_
  refine V_iconst C (v := 4) dX8_requireWorker_2 (by decide) ?_
  refine V_fS C (c_X8_isWithin _ hl G S _ _ _) ks_X8_34 (by decide) (by decide) rfl rfl (Nat.le_of_ble_eq_true rfl) dX8_requireWorker_3 ?_
  dsimp only [Option.toList_some, Option.toList_none, List.cons_append, List.nil_append]
  refine V_if_ne C (tgt := 20) dX8_requireWorker_6 (by decide) (fun h6 => ?_) (fun h6 => ?_)
  · exact absurd (bI_ne.mp h6) h
  · refine V_throwSW C tw_X8_268_277_272 dX8_requireWorker_9 dX8_requireWorker_12 dX8_requireWorker_13 dX8_requireWorker_16 dX8_requireWorker_19 (by decide) (by first | omega | decide) (by first | omega | decide) ?_
    exact ⟨rfl, rfl⟩
theorem c_X8_load (l : Launch) (hl : l.stackTraces = false) (G : gG) (S : sS) (ad : Nat → Nat → Nat) (σ : aS) (hC : RelC S ad σ) (hI : IC σ) (hN : IN σ) (w : Int32) (h : 0 ≤ w ∧ w ≤ 4) : CtF l G yX8_load cX8_load 2 (Option.some FieldType.int) 7 1 6 [.ref (ad 8 0), .int w] S (some (.int (mLoad σ w))) S := by
  refine Ct_of (by decide) (cat1_all (by repeat first | exact trivial | refine ⟨by first | rfl | exact isR_c (isR_q _), ?_⟩)) (Nat.le_of_ble_eq_true rfl) hl fun X C hXl hin => ?_
  subst hXl
  dsimp only [lArgs, Nat.reduceAdd]
  have kx : sK S (ad 8 0) = 9 := RelC_K hC 8 (by decide) rfl
  refine V_iload_n C dX8_load_0 rfl ?_
  refine V_fS C (c_X8_requireWorker _ hl G S w h) ks_X8_204 (by decide) (by decide) rfl rfl (Nat.le_of_ble_eq_true rfl) dX8_load_1 ?_
  dsimp only [Option.toList_some, Option.toList_none, List.cons_append, List.nil_append]
  refine V_aload_n C dX8_load_4 rfl (by first | exact isR_r _ | exact isR_q _ | exact isR_n) ?_
  refine V_iload_n C dX8_load_5 rfl ?_
  refine V_fV C (c_X8_loadOf _ hl G S ad σ hC hI hN w) kv_X8_210 cf_8 (by decide) rfl kx (by decide) (by decide) rfl rfl (Nat.le_of_ble_eq_true rfl) dX8_load_6 ?_
  dsimp only [Option.toList_some, Option.toList_none, List.cons_append, List.nil_append]
  refine V_iret C (by first | omega | decide) (by first | omega | decide) dX8_load_9 ?_
  exact ⟨rfl, rfl⟩
theorem c_X8_loadX (l : Launch) (hl : l.stackTraces = false) (G : gG) (S : sS) (ad : Nat → Nat → Nat) (σ : aS) (hC : RelC S ad σ) (w : Int32) (h : ¬ (0 ≤ w ∧ w ≤ 4)) : CtX l G yX8_load cX8_load 2 (Option.some FieldType.int) 7 1 6 [.ref (ad 8 0), .int w] S "java/lang/IndexOutOfBoundsException" := by
  refine Ct_of (by decide) (cat1_all (by repeat first | exact trivial | refine ⟨by first | rfl | exact isR_c (isR_q _), ?_⟩)) (Nat.le_of_ble_eq_true rfl) hl fun X C hXl hin => ?_
  subst hXl
  dsimp only [lArgs, Nat.reduceAdd]
  refine V_iload_n C dX8_load_0 rfl ?_
  refine V_xS C (c_X8_requireWorkerX _ hl G S w h) ks_X8_204 (by decide) (by decide) rfl rfl (Nat.le_of_ble_eq_true rfl) dX8_load_1 (by first | omega | decide) (by first | omega | decide) ?_
  exact ⟨rfl, rfl⟩
theorem c_X8_wasAllowed (l : Launch) (hl : l.stackTraces = false) (G : gG) (S : sS) (ad : Nat → Nat → Nat) (σ : aS) (hC : RelC S ad σ) (hI : IC σ) (hO : IO σ) (hS : IS σ) (j : Nat) (hj : j < cN σ 43) : CtF l G yX8_wasAllowed cX8_wasAllowed 3 (Option.some FieldType.boolean) 7 1 6 [.ref (ad 8 0), .int (nI j)] S (some (.int (pI9 (mWhyOn σ (nx (σ.1 44 j)) (σ.1 45 j) (σ.1 46 j) = 0)))) S := by
  refine Ct_of (by decide) (cat1_all (by repeat first | exact trivial | refine ⟨by first | rfl | exact isR_c (isR_q _), ?_⟩)) (Nat.le_of_ble_eq_true rfl) hl fun X C hXl hin => ?_
  subst hXl
  dsimp only [lArgs, Nat.reduceAdd]
  have kx : sK S (ad 8 0) = 9 := RelC_K hC 8 (by decide) rfl
  obtain ⟨⟨k, hk, ek⟩, ⟨h, hh, eh⟩⟩ := hS j hj
  have ks : sK S (ad 6 j) = 7 := RelC_K hC 6 (by decide) hj
  have rs_600 : sR S 600 (ad 6 j) = some (ad 0 (nx (σ.1 44 j))) := RelC_R hC 6 600 rfl (by unfold cFd; omega) rfl hj
  have rs_601 : sR S 601 (ad 6 j) = some (ad 2 (nx (σ.1 45 j))) := RelC_R hC 6 601 rfl (by unfold cFd; omega) rfl hj
  have is_602 : sI S 602 (ad 6 j) = σ.1 46 j := RelC_I hC 6 602 rfl (by unfold cFd; omega) rfl hj
  have hk16 : k < 16 := by have := hI.2.1.2; omega
  have hh10 : h < 10 := by have := hI.2.2.1.2; omega
  rw [ek, nx_nI (j := k) (by omega)] at rs_600
  rw [eh, nx_nI (j := h) (by omega)] at rs_601
  rw [ek, eh, nx_nI (j := k) (by omega)]
  refine V_aload_n C dX8_wasAllowed_0 rfl (by first | exact isR_r _ | exact isR_q _ | exact isR_n) ?_
  refine V_iload_n C dX8_wasAllowed_1 rfl ?_
  refine V_fV C (c_X8_stayAt _ hl G S ad σ hC hI.2.2.2.2.2.1.2 j hj) kv_X8_241 cf_8 (by decide) rfl kx (by decide) (by decide) rfl rfl (Nat.le_of_ble_eq_true rfl) dX8_wasAllowed_2 ?_
  dsimp only [Option.toList_some, Option.toList_none, List.cons_append, List.nil_append]
  refine V_astore_n C dX8_wasAllowed_5 (by decide) (by first | exact isR_r _ | exact isR_q _ | exact isR_n) rfl ?_
  simp only [lset1, lset2, List.filter_cons, List.filter_nil, Nat.reduceBEq, Nat.reduceAdd, Bool.not_true, Bool.not_false, Bool.and_true, Bool.and_false, Bool.true_and, Bool.false_and, if_true, if_false, Bool.false_eq_true, reduceIte]
  refine V_aload_n C dX8_wasAllowed_6 rfl (by first | exact isR_r _ | exact isR_q _ | exact isR_n) ?_
  refine V_getS C 6 0 rfl cf_6 fl_X8_245 (by decide) (by decide) dX8_wasAllowed_7 ks rs_600 ?_
  refine V_aload_n C dX8_wasAllowed_10 rfl (by first | exact isR_r _ | exact isR_q _ | exact isR_n) ?_
  refine V_getS C 6 1 rfl cf_6 fl_X8_218 (by decide) (by decide) dX8_wasAllowed_11 ks rs_601 ?_
  refine V_aload_n C dX8_wasAllowed_14 rfl (by first | exact isR_r _ | exact isR_q _ | exact isR_n) ?_
  refine V_getIe C 6 2 rfl cf_6 fl_X8_250 (by decide) (by decide) dX8_wasAllowed_15 ks is_602 ?_
  refine V_fS C (c_X8_barOnDay _ hl G S ad σ hC hI hO k hk h hh _) ks_X8_261 (by decide) (by decide) rfl rfl (Nat.le_of_ble_eq_true rfl) dX8_wasAllowed_18 ?_
  dsimp only [Option.toList_some, Option.toList_none, List.cons_append, List.nil_append]
  refine V_if_ne C (tgt := 28) dX8_wasAllowed_21 (by decide) (fun h21 => ?_) (fun h21 => ?_)
  · refine V_iconst C (v := 0) dX8_wasAllowed_28 (by decide) ?_
    refine V_zret C (by first | rfl | exact bI_nz _) (by first | omega | decide) (by first | omega | decide) dX8_wasAllowed_29 ?_
    first | (rw [pI9_t h21]; exact ⟨rfl, rfl⟩) | (rw [pI9_f h21]; exact ⟨rfl, rfl⟩)
  · refine V_iconst C (v := 1) dX8_wasAllowed_24 (by decide) ?_
    refine V_goto C (tgt := 29) dX8_wasAllowed_25 (by decide) ?_
    refine V_zret C (by first | rfl | exact bI_nz _) (by first | omega | decide) (by first | omega | decide) dX8_wasAllowed_29 ?_
    first | (rw [pI9_t h21]; exact ⟨rfl, rfl⟩) | (rw [pI9_f h21]; exact ⟨rfl, rfl⟩)
theorem c_X8_wasAllowedX (l : Launch) (hl : l.stackTraces = false) (G : gG) (S : sS) (ad : Nat → Nat → Nat) (σ : aS) (hC : RelC S ad σ) (hI : IC σ) (x : Int32) (hx : ¬ ∃ k, k < cN σ 43 ∧ x = nI k) : CtX l G yX8_wasAllowed cX8_wasAllowed 3 (Option.some FieldType.boolean) 7 1 6 [.ref (ad 8 0), .int x] S "java/lang/IndexOutOfBoundsException" := by
  refine Ct_of (by decide) (cat1_all (by repeat first | exact trivial | refine ⟨by first | rfl | exact isR_c (isR_q _), ?_⟩)) (Nat.le_of_ble_eq_true rfl) hl fun X C hXl hin => ?_
  subst hXl
  dsimp only [lArgs, Nat.reduceAdd]
  have kx : sK S (ad 8 0) = 9 := RelC_K hC 8 (by decide) rfl
  refine V_aload_n C dX8_wasAllowed_0 rfl (by first | exact isR_r _ | exact isR_q _ | exact isR_n) ?_
  refine V_iload_n C dX8_wasAllowed_1 rfl ?_
  refine V_xV C (c_X8_stayAtX _ hl G S ad σ hC hI.2.2.2.2.2.1.2 x hx) kv_X8_241 cf_8 (by decide) rfl kx (by decide) (by decide) rfl rfl (Nat.le_of_ble_eq_true rfl) dX8_wasAllowed_2 (by first | omega | decide) (by first | omega | decide) ?_
  exact ⟨rfl, rfl⟩

