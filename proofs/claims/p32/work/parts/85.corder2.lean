/-! THE CLASS: order. -/
theorem c_X3_init (l : Launch) (hl : l.stackTraces = false) (G : gG) (S : sS) (q : Nat) (kq : sK S q = 4) (a b c d : Int32) (o : Option Nat) : Ct l G yX3_init cX3_init 6 none 1 0 0 [.ref q, .int a, .int b, .int c, .int d, va_rf o] S (fun w T => w = none ∧ sK T q = 4 ∧ At S T q ∧ sI T 300 q = a ∧ sI T 301 q = b ∧ sI T 302 q = c ∧ sI T 303 q = d ∧ sR T 304 q = o) (fun _ _ => False) := by
  refine Ct_of (by decide) (cat1_all (by repeat first | exact trivial | refine ⟨by first | rfl | exact isR_c (isR_q _), ?_⟩)) (Nat.le_of_ble_eq_true rfl) hl fun X C hXl hin => ?_
  subst hXl
  dsimp only [lArgs, Nat.reduceAdd]
  refine V_aload_n C dX3_init_0 rfl (by first | exact isR_r _ | exact isR_q _ | exact isR_n) ?_
  refine V_objI C ko_X3_1 ko_1 ko_2 (by decide) (by decide) dX3_init_1 ?_
  refine V_aload_n C dX3_init_4 rfl (by first | exact isR_r _ | exact isR_q _ | exact isR_n) ?_
  refine V_iload_n C dX3_init_5 rfl ?_
  refine V_putFI C hin 3 0 rfl cf_3 pl_X3_7 rfl (by decide) (by decide) dX3_init_6 kq ?_
  refine V_aload_n C dX3_init_9 rfl (by first | exact isR_r _ | exact isR_q _ | exact isR_n) ?_
  refine V_iload_n C dX3_init_10 rfl ?_
  refine V_putFI C hin 3 1 rfl cf_3 pl_X3_13 rfl (by decide) (by decide) dX3_init_11 kq ?_
  refine V_aload_n C dX3_init_14 rfl (by first | exact isR_r _ | exact isR_q _ | exact isR_n) ?_
  refine V_iload_n C dX3_init_15 rfl ?_
  refine V_putFI C hin 3 2 rfl cf_3 pl_X3_16 rfl (by decide) (by decide) dX3_init_16 kq ?_
  refine V_aload_n C dX3_init_19 rfl (by first | exact isR_r _ | exact isR_q _ | exact isR_n) ?_
  refine V_iload C dX3_init_20 rfl ?_
  refine V_putFI C hin 3 3 rfl cf_3 pl_X3_19 rfl (by decide) (by decide) dX3_init_22 kq ?_
  refine V_aload_n C dX3_init_25 rfl (by first | exact isR_r _ | exact isR_q _ | exact isR_n) ?_
  refine V_aload C dX3_init_26 rfl (by first | exact isR_r _ | exact isR_q _ | exact isR_n) ?_
  refine V_putFR C hin 3 4 rfl cf_3 pl_X3_22 rfl (by first | exact Or.inl ⟨_, rfl⟩ | exact Or.inr ⟨_, rfl⟩) (by decide) (by decide) dX3_init_28 kq ?_
  refine V_vret C (by first | omega | decide) (by first | omega | decide) dX3_init_31 ?_
  exact ⟨rfl, kq, At_R (At_I (At_I (At_I (At_I At_0)))), (by rw [sI_pR]; exact (sI_n1 (by decide)).trans ((sI_n1 (by decide)).trans ((sI_n1 (by decide)).trans sI_s))), (by rw [sI_pR]; exact (sI_n1 (by decide)).trans ((sI_n1 (by decide)).trans sI_s)), (by rw [sI_pR]; exact (sI_n1 (by decide)).trans sI_s), (by rw [sI_pR]; exact sI_s), sR_s⟩
theorem c_X8_order (l : Launch) (hl : l.stackTraces = false) (G : gG) (S : sS) (ad : Nat → Nat → Nat) (σ : aS) (hC : RelC S ad σ) (hI : IC σ) (hS : IS σ) (k : Nat) (hk : k < cN σ 1) (a b c : Int32) (hv : (0 ≤ a ∧ a ≤ 2) ∧ (σ.2 0 ≤ b ∧ b ≤ 20000) ∧ (1 ≤ c ∧ c ≤ 7000)) (n : Nat) (hn : cN σ 38 = n) (hn60 : n < 60) : CtC l G yX8_order cX8_order 7 (Option.some FieldType.int) 7 8 60 [.ref (ad 8 0), .int (nI k), .int a, .int b, .int c] S ad (some (.int (nI n))) (up2 (up2 (up2 (up2 σ.1 39 n (nI k)) 40 n a) 41 n b) 42 n (b + c - 1), up1 σ.2 38 (nI (n + 1))) := by
  refine Ct_of (by decide) (cat1_all (by repeat first | exact trivial | refine ⟨by first | rfl | exact isR_c (isR_q _), ?_⟩)) (Nat.le_of_ble_eq_true rfl) hl fun X C hXl hin => ?_
  subst hXl
  dsimp only [lArgs, Nat.reduceAdd]
  have kx : sK S (ad 8 0) = 9 := RelC_K hC 8 (by decide) rfl
  have ix_806 : sI S 806 (ad 8 0) = σ.2 38 := RelC_I hC 8 806 rfl (by unfold cFd; omega) rfl rfl
  have ix_808 : sI S 808 (ad 8 0) = σ.2 0 := RelC_I hC 8 808 rfl (by unfold cFd; omega) rfl rfl
  have kc : sK S (ad 0 k) = 1 := RelC_K hC 0 (by decide) hk
  have rc_10 : sR S 10 (ad 0 k) = (ordL σ (nI k) (cN σ 38)).map (ad 3) := RelC_R hC 0 10 rfl (by unfold cFd; omega) rfl hk
  have e38 : σ.2 38 = nI n := by rw [← hn]; exact hI.2.2.2.2.1.1
  rw [e38] at ix_806
  refine V_aload_n C dX8_order_0 rfl (by first | exact isR_r _ | exact isR_q _ | exact isR_n) ?_
  refine V_iload_n C dX8_order_1 rfl ?_
  refine V_fV C (c_X8_childAt _ hl G S ad σ hC hI.2.1.2 k hk) kv_X8_90 cf_8 (by decide) rfl kx (by decide) (by decide) rfl rfl (Nat.le_of_ble_eq_true rfl) dX8_order_2 ?_
  dsimp only [Option.toList_some, Option.toList_none, List.cons_append, List.nil_append]
  refine V_astore C dX8_order_5 (by decide) (by first | exact isR_r _ | exact isR_q _ | exact isR_n) rfl ?_
  simp only [lset1, lset2, List.filter_cons, List.filter_nil, Nat.reduceBEq, Nat.reduceAdd, Bool.not_true, Bool.not_false, Bool.and_true, Bool.and_false, Bool.true_and, Bool.false_and, if_true, if_false, Bool.false_eq_true, reduceIte]
  refine V_iload_n C dX8_order_7 rfl ?_
  refine V_iconst C (v := 0) dX8_order_8 (by decide) ?_
  refine V_iconst C (v := 2) dX8_order_9 (by decide) ?_
  refine V_fS C (c_X8_isWithin _ hl G S _ _ _) ks_X8_34 (by decide) (by decide) rfl rfl (Nat.le_of_ble_eq_true rfl) dX8_order_10 ?_
  dsimp only [Option.toList_some, Option.toList_none, List.cons_append, List.nil_append]
  rw [bI_t hv.1]
  refine V_if_eq C (tgt := 46) dX8_order_13 (by decide) (fun h13 => ?_) (fun h13 => ?_)
  · exact absurd h13 (by decide)
  · refine V_iload_n C dX8_order_16 rfl ?_
    refine V_aload_n C dX8_order_17 rfl (by first | exact isR_r _ | exact isR_q _ | exact isR_n) ?_
    refine V_getIe C 8 8 rfl cf_8 fl_X8_53 (by decide) (by decide) dX8_order_18 kx ix_808 ?_
    refine V_sipush C (v := 20000) dX8_order_21 (by decide) ?_
    refine V_fS C (c_X8_isWithin _ hl G S _ _ _) ks_X8_34 (by decide) (by decide) rfl rfl (Nat.le_of_ble_eq_true rfl) dX8_order_24 ?_
    dsimp only [Option.toList_some, Option.toList_none, List.cons_append, List.nil_append]
    rw [bI_t hv.2.1]
    refine V_if_eq C (tgt := 46) dX8_order_27 (by decide) (fun h27 => ?_) (fun h27 => ?_)
    · exact absurd h27 (by decide)
    · refine V_iload C dX8_order_30 rfl ?_
      refine V_iconst C (v := 1) dX8_order_32 (by decide) ?_
      refine V_sipush C (v := 7000) dX8_order_33 (by decide) ?_
      refine V_fS C (c_X8_isWithin _ hl G S _ _ _) ks_X8_34 (by decide) (by decide) rfl rfl (Nat.le_of_ble_eq_true rfl) dX8_order_36 ?_
      dsimp only [Option.toList_some, Option.toList_none, List.cons_append, List.nil_append]
      rw [bI_t hv.2.2]
      refine V_if_eq C (tgt := 46) dX8_order_39 (by decide) (fun h39 => ?_) (fun h39 => ?_)
      · exact absurd h39 (by decide)
      · refine V_iconst C (v := 1) dX8_order_42 (by decide) ?_
        refine V_goto C (tgt := 47) dX8_order_43 (by decide) ?_
        refine V_fS C (c_X8_require1 _ hl G S) ks_X8_38 (by decide) (by decide) rfl rfl (Nat.le_of_ble_eq_true rfl) dX8_order_47 ?_
        dsimp only [Option.toList_some, Option.toList_none, List.cons_append, List.nil_append]
        refine V_aload_n C dX8_order_50 rfl (by first | exact isR_r _ | exact isR_q _ | exact isR_n) ?_
        refine V_getIe C 8 6 rfl cf_8 fl_X8_119 (by decide) (by decide) dX8_order_51 kx ix_806 ?_
        refine V_bipush C (v := 60) dX8_order_54 (by decide) ?_
        refine V_icmp_lt C (tgt := 69) dX8_order_56 (by decide) (fun h56 => ?_) (fun h56 => ?_)
        · refine V_aload_n C dX8_order_69 rfl (by first | exact isR_r _ | exact isR_q _ | exact isR_n) ?_
          refine V_getIe C 8 6 rfl cf_8 fl_X8_119 (by decide) (by decide) dX8_order_70 kx ix_806 ?_
          refine V_istore C dX8_order_73 (by decide) rfl ?_
          simp only [lset1, lset2, List.filter_cons, List.filter_nil, Nat.reduceBEq, Nat.reduceAdd, Bool.not_true, Bool.not_false, Bool.and_true, Bool.and_false, Bool.true_and, Bool.false_and, if_true, if_false, Bool.false_eq_true, reduceIte]
          refine V_aload C dX8_order_75 rfl (by first | exact isR_r _ | exact isR_q _ | exact isR_n) ?_
          refine V_new C 3 cf_3 nw_X8_124 (by decide) (by decide) (by decide) dX8_order_77 (fun q hB hz => ?_)
          have zq : sK S q = 0 := hz q (Nat.le_refl q)
          have k3 : sK (nO S 4 q) q = 4 := up1_s
          have qc : ad 0 k ≠ q := fun e => by rw [e, zq] at kc; exact absurd kc (by decide)
          have q8 : ad 8 0 ≠ q := fun e => by rw [e, zq] at kx; exact absurd kx (by decide)
          have kO : sK (nO S 4 q) (ad 0 k) = 1 := (up1_n qc).trans kc
          have rO : sR (nO S 4 q) 10 (ad 0 k) = (ordL σ (nI k) (cN σ 38)).map (ad 3) := (if_neg qc).trans rc_10
          refine V_dup C dX8_order_80 (by first | rfl | exact isR_c (isR_q _)) ?_
          refine V_iload C dX8_order_81 rfl ?_
          refine V_iload_n C dX8_order_83 rfl ?_
          refine V_iload_n C dX8_order_84 rfl ?_
          refine V_iload_n C dX8_order_85 rfl ?_
          refine V_iload C dX8_order_86 rfl ?_
          refine V_iadd C dX8_order_88 ?_
          refine V_aload C dX8_order_89 rfl (by first | exact isR_r _ | exact isR_q _ | exact isR_n) ?_
          refine V_getRe C 0 10 rfl cf_0 fl_X8_126 (by decide) (by decide) dX8_order_91 kO rO ?_
          refine V_callI C (c_X3_init _ hl G _ q k3 _ _ _ _ _) ki_X8_130 (by decide) (by decide) rfl rfl (Nat.le_of_ble_eq_true rfl) dX8_order_94 ?_
          intro w1 T hT
          obtain ⟨rfl, kT, hAt, i0, i1, i2, i3, r4⟩ := hT
          dsimp only [Option.toList_some, Option.toList_none, List.cons_append, List.nil_append]
          have hF : FrN S T := FrN_At zq hAt
          have kC : sK T (ad 0 k) = 1 := (hF (ad 0 k) (by rw [kc]; decide) id).1.trans kc
          have kX : sK (pR T 10 (ad 0 k) (some q)) (ad 8 0) = 9 := (hF (ad 8 0) (by rw [kx]; decide) id).1.trans kx
          refine V_putR C 0 10 rfl cf_0 pl_X8_126 (by first | exact Or.inl ⟨_, rfl⟩ | exact Or.inr ⟨_, rfl⟩) (by decide) (by decide) dX8_order_97 kC (o := some q) ?_
          refine V_aload_n C dX8_order_100 rfl (by first | exact isR_r _ | exact isR_q _ | exact isR_n) ?_
          refine V_iload C dX8_order_101 rfl ?_
          refine V_iconst C (v := 1) dX8_order_103 (by decide) ?_
          refine V_iadd C dX8_order_104 ?_
          rw [nI_1]
          refine V_putI C 8 6 rfl cf_8 pl_X8_119 (by decide) (by decide) dX8_order_105 kX ?_
          refine V_iload C dX8_order_108 rfl ?_
          refine V_iret C (by first | omega | decide) (by first | omega | decide) dX8_order_110 ?_
          refine ⟨rfl, up2 ad 3 n q, ⟨up2_n1 (by decide), up2_f (by decide)⟩, ?_, ?_⟩
          · have hC1 : RelC T (up2 ad 3 n q) σ := RelC_ad hI hS (RelC_N hC hF) fun i j hi hl => by
              by_cases e : i = 3 ∧ j = n
              · obtain ⟨rfl, rfl⟩ := e
                exact absurd (show j < cN σ 38 from hl) (by omega)
              · exact if_neg e
            have es : up2 ad 3 n q 3 n = q := up2_s
            have em : (ordL σ (nI k) n).map (up2 ad 3 n q 3) = (ordL σ (nI k) (cN σ 38)).map (ad 3) := by
              rw [hn]
              cases hh : ordL σ (nI k) n with
              | none => rfl
              | some y => exact congrArg some (up2_n2 (by have := ordL_lt hh; omega))
            have hR := RelC_order (A := σ.1) (B := σ.2) (a := a) (b := b) (c := b + c - 1) hC1 hn hn60 hk hI.2.1.2 (by rw [es]; exact i0) (by rw [es]; exact i1) (by rw [es]; exact i2) (by rw [es, Int32.sub_add_cancel]; exact i3) (by rw [es]; exact r4.trans em.symm) (by rw [es]; exact kT) (fun j hj => by
              rw [es, up2_n2 (by omega)]
              exact fun e => RelC_k0 hC (i := 3) (j := j) (by decide) (by show j < cN σ 38; omega) (by rw [e]; exact zq))
            rw [es, up2_n1 (show (0 : Nat) ≠ 3 by decide), up2_n1 (show (8 : Nat) ≠ 3 by decide)] at hR
            exact hR
          · refine Fr_tr (Fr_N hF) (Fr_tr (Fr_R (by rw [kC]; exact Or.inl ⟨by decide, by decide⟩)) (Fr_I (by rw [kX]; exact Or.inl ⟨by decide, by decide⟩)))
        · exact absurd ((nI_ltI (a := n) (b := 60) (by omega) (by decide)).mpr hn60) h56
theorem c_X8_orderX (l : Launch) (hl : l.stackTraces = false) (G : gG) (S : sS) (ad : Nat → Nat → Nat) (σ : aS) (hC : RelC S ad σ) (hI : IC σ) (x a b c : Int32) (hx : ¬ ∃ k, k < cN σ 1 ∧ x = nI k) : CtX l G yX8_order cX8_order 7 (Option.some FieldType.int) 7 8 60 [.ref (ad 8 0), .int x, .int a, .int b, .int c] S "java/lang/IndexOutOfBoundsException" := by
  refine Ct_of (by decide) (cat1_all (by repeat first | exact trivial | refine ⟨by first | rfl | exact isR_c (isR_q _), ?_⟩)) (Nat.le_of_ble_eq_true rfl) hl fun X C hXl hin => ?_
  subst hXl
  dsimp only [lArgs, Nat.reduceAdd]
  have kx : sK S (ad 8 0) = 9 := RelC_K hC 8 (by decide) rfl
  refine V_aload_n C dX8_order_0 rfl (by first | exact isR_r _ | exact isR_q _ | exact isR_n) ?_
  refine V_iload_n C dX8_order_1 rfl ?_
  refine V_xV C (c_X8_childAtX _ hl G S ad σ hC hI.2.1.2 x hx) kv_X8_90 cf_8 (by decide) rfl kx (by decide) (by decide) rfl rfl (Nat.le_of_ble_eq_true rfl) dX8_order_2 (by first | omega | decide) (by first | omega | decide) ?_
  exact ⟨rfl, rfl⟩
theorem c_X8_orderY (l : Launch) (hl : l.stackTraces = false) (G : gG) (S : sS) (ad : Nat → Nat → Nat) (σ : aS) (hC : RelC S ad σ) (hI : IC σ) (k : Nat) (hk : k < cN σ 1) (a b c : Int32) (hv : ¬ ((0 ≤ a ∧ a ≤ 2) ∧ (σ.2 0 ≤ b ∧ b ≤ 20000) ∧ (1 ≤ c ∧ c ≤ 7000))) : CtX l G yX8_order cX8_order 7 (Option.some FieldType.int) 7 8 60 [.ref (ad 8 0), .int (nI k), .int a, .int b, .int c] S "java/lang/IllegalArgumentException" := by
  refine Ct_of (by decide) (cat1_all (by repeat first | exact trivial | refine ⟨by first | rfl | exact isR_c (isR_q _), ?_⟩)) (Nat.le_of_ble_eq_true rfl) hl fun X C hXl hin => ?_
  subst hXl
  dsimp only [lArgs, Nat.reduceAdd]
  have kx : sK S (ad 8 0) = 9 := RelC_K hC 8 (by decide) rfl
  have ix_806 : sI S 806 (ad 8 0) = σ.2 38 := RelC_I hC 8 806 rfl (by unfold cFd; omega) rfl rfl
  have ix_808 : sI S 808 (ad 8 0) = σ.2 0 := RelC_I hC 8 808 rfl (by unfold cFd; omega) rfl rfl
  refine V_aload_n C dX8_order_0 rfl (by first | exact isR_r _ | exact isR_q _ | exact isR_n) ?_
  refine V_iload_n C dX8_order_1 rfl ?_
  refine V_fV C (c_X8_childAt _ hl G S ad σ hC hI.2.1.2 k hk) kv_X8_90 cf_8 (by decide) rfl kx (by decide) (by decide) rfl rfl (Nat.le_of_ble_eq_true rfl) dX8_order_2 ?_
  dsimp only [Option.toList_some, Option.toList_none, List.cons_append, List.nil_append]
  refine V_astore C dX8_order_5 (by decide) (by first | exact isR_r _ | exact isR_q _ | exact isR_n) rfl ?_
  simp only [lset1, lset2, List.filter_cons, List.filter_nil, Nat.reduceBEq, Nat.reduceAdd, Bool.not_true, Bool.not_false, Bool.and_true, Bool.and_false, Bool.true_and, Bool.false_and, if_true, if_false, Bool.false_eq_true, reduceIte]
  refine V_iload_n C dX8_order_7 rfl ?_
  refine V_iconst C (v := 0) dX8_order_8 (by decide) ?_
  refine V_iconst C (v := 2) dX8_order_9 (by decide) ?_
  refine V_fS C (c_X8_isWithin _ hl G S _ _ _) ks_X8_34 (by decide) (by decide) rfl rfl (Nat.le_of_ble_eq_true rfl) dX8_order_10 ?_
  dsimp only [Option.toList_some, Option.toList_none, List.cons_append, List.nil_append]
  refine V_if_eq C (tgt := 46) dX8_order_13 (by decide) (fun h13 => ?_) (fun h13 => ?_)
  · refine V_iconst C (v := 0) dX8_order_46 (by decide) ?_
    refine V_xS C (c_X8_require0 _ hl G S) ks_X8_38 (by decide) (by decide) rfl rfl (Nat.le_of_ble_eq_true rfl) dX8_order_47 (by first | omega | decide) (by first | omega | decide) ?_
    exact ⟨rfl, rfl⟩
  · refine V_iload_n C dX8_order_16 rfl ?_
    refine V_aload_n C dX8_order_17 rfl (by first | exact isR_r _ | exact isR_q _ | exact isR_n) ?_
    refine V_getIe C 8 8 rfl cf_8 fl_X8_53 (by decide) (by decide) dX8_order_18 kx ix_808 ?_
    refine V_sipush C (v := 20000) dX8_order_21 (by decide) ?_
    refine V_fS C (c_X8_isWithin _ hl G S _ _ _) ks_X8_34 (by decide) (by decide) rfl rfl (Nat.le_of_ble_eq_true rfl) dX8_order_24 ?_
    dsimp only [Option.toList_some, Option.toList_none, List.cons_append, List.nil_append]
    refine V_if_eq C (tgt := 46) dX8_order_27 (by decide) (fun h27 => ?_) (fun h27 => ?_)
    · refine V_iconst C (v := 0) dX8_order_46 (by decide) ?_
      refine V_xS C (c_X8_require0 _ hl G S) ks_X8_38 (by decide) (by decide) rfl rfl (Nat.le_of_ble_eq_true rfl) dX8_order_47 (by first | omega | decide) (by first | omega | decide) ?_
      exact ⟨rfl, rfl⟩
    · refine V_iload C dX8_order_30 rfl ?_
      refine V_iconst C (v := 1) dX8_order_32 (by decide) ?_
      refine V_sipush C (v := 7000) dX8_order_33 (by decide) ?_
      refine V_fS C (c_X8_isWithin _ hl G S _ _ _) ks_X8_34 (by decide) (by decide) rfl rfl (Nat.le_of_ble_eq_true rfl) dX8_order_36 ?_
      dsimp only [Option.toList_some, Option.toList_none, List.cons_append, List.nil_append]
      refine V_if_eq C (tgt := 46) dX8_order_39 (by decide) (fun h39 => ?_) (fun h39 => ?_)
      · refine V_iconst C (v := 0) dX8_order_46 (by decide) ?_
        refine V_xS C (c_X8_require0 _ hl G S) ks_X8_38 (by decide) (by decide) rfl rfl (Nat.le_of_ble_eq_true rfl) dX8_order_47 (by first | omega | decide) (by first | omega | decide) ?_
        exact ⟨rfl, rfl⟩
      · exact absurd ⟨bI_ne.mp h13, bI_ne.mp h27, bI_ne.mp h39⟩ hv
theorem c_X8_orderZ (l : Launch) (hl : l.stackTraces = false) (G : gG) (S : sS) (ad : Nat → Nat → Nat) (σ : aS) (hC : RelC S ad σ) (hI : IC σ) (k : Nat) (hk : k < cN σ 1) (a b c : Int32) (hv : (0 ≤ a ∧ a ≤ 2) ∧ (σ.2 0 ≤ b ∧ b ≤ 20000) ∧ (1 ≤ c ∧ c ≤ 7000)) (hn : ¬ σ.2 38 < 60) : CtX l G yX8_order cX8_order 7 (Option.some FieldType.int) 7 8 60 [.ref (ad 8 0), .int (nI k), .int a, .int b, .int c] S "java/lang/IllegalStateException" := by
  refine Ct_of (by decide) (cat1_all (by repeat first | exact trivial | refine ⟨by first | rfl | exact isR_c (isR_q _), ?_⟩)) (Nat.le_of_ble_eq_true rfl) hl fun X C hXl hin => ?_
  subst hXl
  dsimp only [lArgs, Nat.reduceAdd]
  have kx : sK S (ad 8 0) = 9 := RelC_K hC 8 (by decide) rfl
  have ix_806 : sI S 806 (ad 8 0) = σ.2 38 := RelC_I hC 8 806 rfl (by unfold cFd; omega) rfl rfl
  have ix_808 : sI S 808 (ad 8 0) = σ.2 0 := RelC_I hC 8 808 rfl (by unfold cFd; omega) rfl rfl
  refine V_aload_n C dX8_order_0 rfl (by first | exact isR_r _ | exact isR_q _ | exact isR_n) ?_
  refine V_iload_n C dX8_order_1 rfl ?_
  refine V_fV C (c_X8_childAt _ hl G S ad σ hC hI.2.1.2 k hk) kv_X8_90 cf_8 (by decide) rfl kx (by decide) (by decide) rfl rfl (Nat.le_of_ble_eq_true rfl) dX8_order_2 ?_
  dsimp only [Option.toList_some, Option.toList_none, List.cons_append, List.nil_append]
  refine V_astore C dX8_order_5 (by decide) (by first | exact isR_r _ | exact isR_q _ | exact isR_n) rfl ?_
  simp only [lset1, lset2, List.filter_cons, List.filter_nil, Nat.reduceBEq, Nat.reduceAdd, Bool.not_true, Bool.not_false, Bool.and_true, Bool.and_false, Bool.true_and, Bool.false_and, if_true, if_false, Bool.false_eq_true, reduceIte]
  refine V_iload_n C dX8_order_7 rfl ?_
  refine V_iconst C (v := 0) dX8_order_8 (by decide) ?_
  refine V_iconst C (v := 2) dX8_order_9 (by decide) ?_
  refine V_fS C (c_X8_isWithin _ hl G S _ _ _) ks_X8_34 (by decide) (by decide) rfl rfl (Nat.le_of_ble_eq_true rfl) dX8_order_10 ?_
  dsimp only [Option.toList_some, Option.toList_none, List.cons_append, List.nil_append]
  rw [bI_t hv.1]
  refine V_if_eq C (tgt := 46) dX8_order_13 (by decide) (fun h13 => ?_) (fun h13 => ?_)
  · exact absurd h13 (by decide)
  · refine V_iload_n C dX8_order_16 rfl ?_
    refine V_aload_n C dX8_order_17 rfl (by first | exact isR_r _ | exact isR_q _ | exact isR_n) ?_
    refine V_getIe C 8 8 rfl cf_8 fl_X8_53 (by decide) (by decide) dX8_order_18 kx ix_808 ?_
    refine V_sipush C (v := 20000) dX8_order_21 (by decide) ?_
    refine V_fS C (c_X8_isWithin _ hl G S _ _ _) ks_X8_34 (by decide) (by decide) rfl rfl (Nat.le_of_ble_eq_true rfl) dX8_order_24 ?_
    dsimp only [Option.toList_some, Option.toList_none, List.cons_append, List.nil_append]
    rw [bI_t hv.2.1]
    refine V_if_eq C (tgt := 46) dX8_order_27 (by decide) (fun h27 => ?_) (fun h27 => ?_)
    · exact absurd h27 (by decide)
    · refine V_iload C dX8_order_30 rfl ?_
      refine V_iconst C (v := 1) dX8_order_32 (by decide) ?_
      refine V_sipush C (v := 7000) dX8_order_33 (by decide) ?_
      refine V_fS C (c_X8_isWithin _ hl G S _ _ _) ks_X8_34 (by decide) (by decide) rfl rfl (Nat.le_of_ble_eq_true rfl) dX8_order_36 ?_
      dsimp only [Option.toList_some, Option.toList_none, List.cons_append, List.nil_append]
      rw [bI_t hv.2.2]
      refine V_if_eq C (tgt := 46) dX8_order_39 (by decide) (fun h39 => ?_) (fun h39 => ?_)
      · exact absurd h39 (by decide)
      · refine V_iconst C (v := 1) dX8_order_42 (by decide) ?_
        refine V_goto C (tgt := 47) dX8_order_43 (by decide) ?_
        refine V_fS C (c_X8_require1 _ hl G S) ks_X8_38 (by decide) (by decide) rfl rfl (Nat.le_of_ble_eq_true rfl) dX8_order_47 ?_
        dsimp only [Option.toList_some, Option.toList_none, List.cons_append, List.nil_append]
        refine V_aload_n C dX8_order_50 rfl (by first | exact isR_r _ | exact isR_q _ | exact isR_n) ?_
        refine V_getIe C 8 6 rfl cf_8 fl_X8_119 (by decide) (by decide) dX8_order_51 kx ix_806 ?_
        refine V_bipush C (v := 60) dX8_order_54 (by decide) ?_
        refine V_icmp_lt C (tgt := 69) dX8_order_56 (by decide) (fun h56 => ?_) (fun h56 => ?_)
        · exact absurd h56 hn
        · refine V_throwS C tw_X8_46_122_50 dX8_order_59 dX8_order_62 dX8_order_63 dX8_order_65 dX8_order_68 (by decide) (by first | omega | decide) (by first | omega | decide) ?_
          exact ⟨rfl, rfl⟩

