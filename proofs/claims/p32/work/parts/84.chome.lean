/-! THE CLASS: home. -/
/-- what is not there yet is at its defaults; what was told is of what is there -/
def IQ (σ : aS) : Prop := (∀ k, cN σ 1 ≤ k → k < 16 → (∀ f, 11 ≤ f → f ≤ 18 → σ.1 f k = 0) ∧ σ.1 34 k = 0 ∧ ∀ j, j < 10 → σ.1 19 (10 * k + j) = 0) ∧ (∀ h, cN σ 20 ≤ h → h < 10 → σ.1 24 h = 0 ∧ σ.1 25 h = 0 ∧ σ.1 26 h = 0) ∧ (∀ i, i < cN σ 27 → ∃ h, h < cN σ 20 ∧ σ.1 28 i = nI h) ∧ ∀ i, i < cN σ 38 → ∃ k, k < cN σ 1 ∧ σ.1 39 i = nI k
/-- only the cell q has changed -/
def At (S T : sS) (q : Nat) : Prop := ∀ a, a ≠ q → sK T a = sK S a ∧ sL T a = sL S a ∧ (∀ f, sI T f a = sI S f a) ∧ (∀ f, sR T f a = sR S f a) ∧ sA T a = sA S a ∧ sJ T a = sJ S a ∧ sQ T a = sQ S a
theorem At_0 {S : sS} {q : Nat} : At S S q := fun a _ => ⟨rfl, rfl, fun _ => rfl, fun _ => rfl, rfl, rfl, rfl⟩
theorem At_I {S T : sS} {f q : Nat} {v : Int32} (h : At S T q) : At S (pI T f q v) q := fun a ha => by
  obtain ⟨a1, a2, a3, a4, a5, a6, a7⟩ := h a ha
  exact ⟨a1, a2, fun f => (sI_n2 ha).trans (a3 f), a4, a5, a6, a7⟩
theorem At_R {S T : sS} {f q : Nat} {v : Option Nat} (h : At S T q) : At S (pR T f q v) q := fun a ha => by
  obtain ⟨a1, a2, a3, a4, a5, a6, a7⟩ := h a ha
  exact ⟨a1, a2, a3, fun f => (sR_n2 ha).trans (a4 f), a5, a6, a7⟩
theorem sK_pI {S : sS} {f a : Nat} {v : Int32} : sK (pI S f a v) = sK S := rfl
theorem sK_pR {S : sS} {f a : Nat} {v : Option Nat} : sK (pR S f a v) = sK S := rfl
theorem sK_pQ {S : sS} {f a : Nat} {v : Option Nat} : sK (pQ S f a v) = sK S := rfl
theorem sL_pI {S : sS} {f a : Nat} {v : Int32} : sL (pI S f a v) = sL S := rfl
theorem sL_pR {S : sS} {f a : Nat} {v : Option Nat} : sL (pR S f a v) = sL S := rfl
theorem sL_pQ {S : sS} {f a : Nat} {v : Option Nat} : sL (pQ S f a v) = sL S := rfl
theorem sL_nO {S : sS} {k q : Nat} : sL (nO S k q) = sL S := rfl
theorem sI_pR {S : sS} {f a : Nat} {v : Option Nat} : sI (pR S f a v) = sI S := rfl
theorem sI_pQ {S : sS} {f a : Nat} {v : Option Nat} : sI (pQ S f a v) = sI S := rfl
theorem sR_pI {S : sS} {f a : Nat} {v : Int32} : sR (pI S f a v) = sR S := rfl
theorem sR_pQ {S : sS} {f a : Nat} {v : Option Nat} : sR (pQ S f a v) = sR S := rfl
theorem FrN_At {S T : sS} {k q : Nat} (hq : sK S q = 0) (h : At (nO S k q) T q) : FrN S T := fun a ha _ => by
  have e : a ≠ q := fun e => ha (e ▸ hq)
  obtain ⟨a1, a2, a3, a4, a5, a6, a7⟩ := h a e
  exact ⟨a1.trans (up1_n e), a2, fun f => (a3 f).trans (if_neg e), fun f => (a4 f).trans (if_neg e), a5, a6, a7⟩
theorem c_X2_init (l : Launch) (hl : l.stackTraces = false) (G : gG) (S : sS) (q : Nat) (kq : sK S q = 3) (a b c d : Int32) : Ct l G yX2_init cX2_init 5 none 1 0 0 [.ref q, .int a, .int b, .int c, .int d] S (fun w T => w = none ∧ sK T q = 3 ∧ At S T q ∧ sI T 200 q = a ∧ sI T 201 q = b ∧ sI T 202 q = c ∧ sI T 203 q = d ∧ (∀ g, g ≠ 200 → g ≠ 201 → g ≠ 202 → g ≠ 203 → sI T g q = sI S g q) ∧ ∀ g, sR T g q = sR S g q) (fun _ _ => False) := by
  refine Ct_of (by decide) (cat1_all (by repeat first | exact trivial | refine ⟨by first | rfl | exact isR_c (isR_q _), ?_⟩)) (Nat.le_of_ble_eq_true rfl) hl fun X C hXl hin => ?_
  subst hXl
  dsimp only [lArgs, Nat.reduceAdd]
  refine V_aload_n C dX2_init_0 rfl (by first | exact isR_r _ | exact isR_q _ | exact isR_n) ?_
  refine V_objI C ko_X2_1 ko_1 ko_2 (by decide) (by decide) dX2_init_1 ?_
  refine V_aload_n C dX2_init_4 rfl (by first | exact isR_r _ | exact isR_q _ | exact isR_n) ?_
  refine V_iload_n C dX2_init_5 rfl ?_
  refine V_putFI C hin 2 0 rfl cf_2 pl_X2_7 rfl (by decide) (by decide) dX2_init_6 kq ?_
  refine V_aload_n C dX2_init_9 rfl (by first | exact isR_r _ | exact isR_q _ | exact isR_n) ?_
  refine V_iload_n C dX2_init_10 rfl ?_
  refine V_putFI C hin 2 1 rfl cf_2 pl_X2_13 rfl (by decide) (by decide) dX2_init_11 kq ?_
  refine V_aload_n C dX2_init_14 rfl (by first | exact isR_r _ | exact isR_q _ | exact isR_n) ?_
  refine V_iload_n C dX2_init_15 rfl ?_
  refine V_putFI C hin 2 2 rfl cf_2 pl_X2_16 rfl (by decide) (by decide) dX2_init_16 kq ?_
  refine V_aload_n C dX2_init_19 rfl (by first | exact isR_r _ | exact isR_q _ | exact isR_n) ?_
  refine V_iload C dX2_init_20 rfl ?_
  refine V_putFI C hin 2 3 rfl cf_2 pl_X2_19 rfl (by decide) (by decide) dX2_init_22 kq ?_
  refine V_vret C (by first | omega | decide) (by first | omega | decide) dX2_init_25 ?_
  exact ⟨rfl, kq, At_I (At_I (At_I (At_I At_0))), (sI_n1 (by decide)).trans ((sI_n1 (by decide)).trans ((sI_n1 (by decide)).trans sI_s)), (sI_n1 (by decide)).trans ((sI_n1 (by decide)).trans sI_s), (sI_n1 (by decide)).trans sI_s, sI_s, fun g h0 h1 h2 h3 => (sI_n1 h3).trans ((sI_n1 h2).trans ((sI_n1 h1).trans (sI_n1 h0))), fun g => rfl⟩
theorem c_X8_home (l : Launch) (hl : l.stackTraces = false) (G : gG) (S : sS) (ad : Nat → Nat → Nat) (σ : aS) (hC : RelC S ad σ) (hI : IC σ) (hS : IS σ) (hQ : IQ σ) (a b c : Int32) (hv : (0 ≤ a ∧ a ≤ 50) ∧ (0 ≤ b ∧ b ≤ 3) ∧ (1 ≤ c ∧ c ≤ 5)) (n : Nat) (hn : cN σ 20 = n) (hn10 : n < 10) : CtC l G yX8_home cX8_home 5 (Option.some FieldType.int) 7 2 24 [.ref (ad 8 0), .int a, .int b, .int c] S ad (some (.int (nI n))) (up2 (up2 (up2 σ.1 21 n a) 22 n b) 23 n c, up1 σ.2 20 (nI (n + 1))) := by
  refine Ct_of (by decide) (cat1_all (by repeat first | exact trivial | refine ⟨by first | rfl | exact isR_c (isR_q _), ?_⟩)) (Nat.le_of_ble_eq_true rfl) hl fun X C hXl hin => ?_
  subst hXl
  dsimp only [lArgs, Nat.reduceAdd]
  have kx : sK S (ad 8 0) = 9 := RelC_K hC 8 (by decide) rfl
  have rx_801 : sR S 801 (ad 8 0) = some (ad 16 0) := RelC_R hC 8 801 rfl (by unfold cFd; omega) rfl rfl
  have ix_805 : sI S 805 (ad 8 0) = σ.2 20 := RelC_I hC 8 805 rfl (by unfold cFd; omega) rfl rfl
  have e20 : σ.2 20 = nI n := by rw [← hn]; exact hI.2.2.1.1
  rw [e20] at ix_805
  have kq : sK S (ad 16 0) = 105 := hC.1 16 0 (by decide) (by decide) (by decide) rfl
  have lq : sL S (ad 16 0) = 10 := hC.2.2.2.2.1 16 0 (by decide) (by decide) rfl
  refine V_iload_n C dX8_home_0 rfl ?_
  refine V_iconst C (v := 0) dX8_home_1 (by decide) ?_
  refine V_bipush C (v := 50) dX8_home_2 (by decide) ?_
  refine V_fS C (c_X8_isWithin _ hl G S _ _ _) ks_X8_34 (by decide) (by decide) rfl rfl (Nat.le_of_ble_eq_true rfl) dX8_home_4 ?_
  dsimp only [Option.toList_some, Option.toList_none, List.cons_append, List.nil_append]
  rw [bI_t hv.1]
  refine V_if_eq C (tgt := 32) dX8_home_7 (by decide) (fun h7 => ?_) (fun h7 => ?_)
  · exact absurd h7 (by decide)
  · refine V_iload_n C dX8_home_10 rfl ?_
    refine V_iconst C (v := 0) dX8_home_11 (by decide) ?_
    refine V_iconst C (v := 3) dX8_home_12 (by decide) ?_
    refine V_fS C (c_X8_isWithin _ hl G S _ _ _) ks_X8_34 (by decide) (by decide) rfl rfl (Nat.le_of_ble_eq_true rfl) dX8_home_13 ?_
    dsimp only [Option.toList_some, Option.toList_none, List.cons_append, List.nil_append]
    rw [bI_t hv.2.1]
    refine V_if_eq C (tgt := 32) dX8_home_16 (by decide) (fun h16 => ?_) (fun h16 => ?_)
    · exact absurd h16 (by decide)
    · refine V_iload_n C dX8_home_19 rfl ?_
      refine V_iconst C (v := 1) dX8_home_20 (by decide) ?_
      refine V_iconst C (v := 5) dX8_home_21 (by decide) ?_
      refine V_fS C (c_X8_isWithin _ hl G S _ _ _) ks_X8_34 (by decide) (by decide) rfl rfl (Nat.le_of_ble_eq_true rfl) dX8_home_22 ?_
      dsimp only [Option.toList_some, Option.toList_none, List.cons_append, List.nil_append]
      rw [bI_t hv.2.2]
      refine V_if_eq C (tgt := 32) dX8_home_25 (by decide) (fun h25 => ?_) (fun h25 => ?_)
      · exact absurd h25 (by decide)
      · refine V_iconst C (v := 1) dX8_home_28 (by decide) ?_
        refine V_goto C (tgt := 33) dX8_home_29 (by decide) ?_
        refine V_fS C (c_X8_require1 _ hl G S) ks_X8_38 (by decide) (by decide) rfl rfl (Nat.le_of_ble_eq_true rfl) dX8_home_33 ?_
        dsimp only [Option.toList_some, Option.toList_none, List.cons_append, List.nil_append]
        refine V_aload_n C dX8_home_36 rfl (by first | exact isR_r _ | exact isR_q _ | exact isR_n) ?_
        refine V_getIe C 8 5 rfl cf_8 fl_X8_63 (by decide) (by decide) dX8_home_37 kx ix_805 ?_
        refine V_aload_n C dX8_home_40 rfl (by first | exact isR_r _ | exact isR_q _ | exact isR_n) ?_
        refine V_getS C 8 1 rfl cf_8 fl_X8_17 (by decide) (by decide) dX8_home_41 kx rx_801 ?_
        refine V_alen C (v := nI 10) kq (by decide) (by rw [lq]; rfl) dX8_home_44 ?_
        refine V_iltN C (tgt := 58) (by omega) (by omega) dX8_home_45 (by decide) (fun h45 => ?_) (fun h45 => ?_)
        · refine V_aload_n C dX8_home_58 rfl (by first | exact isR_r _ | exact isR_q _ | exact isR_n) ?_
          refine V_getIe C 8 5 rfl cf_8 fl_X8_63 (by decide) (by decide) dX8_home_59 kx ix_805 ?_
          refine V_istore C dX8_home_62 (by decide) rfl ?_
          simp only [lset1, lset2, List.filter_cons, List.filter_nil, Nat.reduceBEq, Nat.reduceAdd, Bool.not_true, Bool.not_false, Bool.and_true, Bool.and_false, Bool.true_and, Bool.false_and, if_true, if_false, Bool.false_eq_true, reduceIte]
          refine V_aload_n C dX8_home_64 rfl (by first | exact isR_r _ | exact isR_q _ | exact isR_n) ?_
          refine V_getS C 8 1 rfl cf_8 fl_X8_17 (by decide) (by decide) dX8_home_65 kx rx_801 ?_
          refine V_iload C dX8_home_68 rfl ?_
          refine V_new C 2 cf_2 nw_X8_15 (by decide) (by decide) (by decide) dX8_home_70 (fun q hB hz => ?_)
          have zq : sK S q = 0 := hz q (Nat.le_refl q)
          have k3 : sK (nO S 3 q) q = 3 := up1_s
          have q16 : ad 16 0 ≠ q := fun e => by rw [e, zq] at kq; exact absurd kq (by decide)
          have q8 : ad 8 0 ≠ q := fun e => by rw [e, zq] at kx; exact absurd kx (by decide)
          refine V_dup C dX8_home_73 (by first | rfl | exact isR_c (isR_q _)) ?_
          refine V_iload C dX8_home_74 rfl ?_
          refine V_iload_n C dX8_home_76 rfl ?_
          refine V_iload_n C dX8_home_77 rfl ?_
          refine V_iload_n C dX8_home_78 rfl ?_
          refine V_callI C (c_X2_init _ hl G _ q k3 _ _ _ _) ki_X8_68 (by decide) (by decide) rfl rfl (Nat.le_of_ble_eq_true rfl) dX8_home_79 ?_
          intro w1 T hT
          obtain ⟨rfl, kT, hAt, i0, i1, i2, i3, iO, rO⟩ := hT
          dsimp only [Option.toList_some, Option.toList_none, List.cons_append, List.nil_append]
          have hF : FrN S T := FrN_At zq hAt
          have kQ : sK T (ad 16 0) = 105 := (hF (ad 16 0) (by rw [kq]; decide) id).1.trans kq
          have lQ : sL T (ad 16 0) = 10 := (hF (ad 16 0) (by rw [kq]; decide) id).2.1.trans lq
          have kX : sK (pQ T (ad 16 0) n (some q)) (ad 8 0) = 9 := (hF (ad 8 0) (by rw [kx]; decide) id).1.trans kx
          refine V_aastE C 5 2 (by decide) (by decide) ⟨_, rfl, rfl⟩ kQ (by decide) kT lQ hn10 (by decide) dX8_home_82 ?_
          refine V_aload_n C dX8_home_83 rfl (by first | exact isR_r _ | exact isR_q _ | exact isR_n) ?_
          refine V_iload C dX8_home_84 rfl ?_
          refine V_iconst C (v := 1) dX8_home_86 (by decide) ?_
          refine V_iadd C dX8_home_87 ?_
          rw [nI_1]
          refine V_putI C 8 5 rfl cf_8 pl_X8_63 (by decide) (by decide) dX8_home_88 kX ?_
          refine V_iload C dX8_home_91 rfl ?_
          refine V_iret C (by first | omega | decide) (by first | omega | decide) dX8_home_93 ?_
          refine ⟨rfl, up2 ad 2 n q, ⟨up2_n1 (by decide), up2_f (by decide)⟩, ?_, ?_⟩
          · have hC1 : RelC T (up2 ad 2 n q) σ := RelC_ad hI hS (RelC_N hC hF) fun i j hi hl => by
              by_cases e : i = 2 ∧ j = n
              · obtain ⟨rfl, rfl⟩ := e
                exact absurd (show j < cN σ 20 from hl) (by omega)
              · exact if_neg e
            have es : up2 ad 2 n q 2 n = q := up2_s
            have hR := RelC_home (A := σ.1) (B := σ.2) (a := a) (b := b) (c := c) hC1 hn hn10 (hQ.2.1 n (by omega) hn10).2.1 (hQ.2.1 n (by omega) hn10).2.2 (fun i hi e => by
              obtain ⟨h, hh, e2⟩ := hQ.2.2.1 i hi
              rw [e] at e2
              have := (nI_eq (by omega) (by omega)).mp e2
              omega) (by rw [es]; exact i0) (by rw [es]; exact i1) (by rw [es]; exact i2) (by rw [es]; exact i3) (by rw [es]; exact (iO 207 (by decide) (by decide) (by decide) (by decide)).trans sI_nO) (by rw [es]; exact (iO 208 (by decide) (by decide) (by decide) (by decide)).trans sI_nO) (fun s _ => by rw [es]; exact (rO _).trans sR_nO) (by rw [es]; exact kT) (fun j hj => by
              rw [es, up2_n2 (by omega)]
              exact fun e => RelC_k0 hC (i := 2) (j := j) (by decide) (by show j < cN σ 20; omega) (by rw [e]; exact zq))
            rw [es, up2_n1 (show (16 : Nat) ≠ 2 by decide), up2_n1 (show (8 : Nat) ≠ 2 by decide)] at hR
            exact hR
          · exact Fr_tr (Fr_N hF) (Fr_tr (Fr_Q (by rw [kQ]; exact Or.inr ⟨by decide, by decide⟩)) (Fr_I (by rw [kX]; exact Or.inl ⟨by decide, by decide⟩)))
        · omega
theorem c_X8_homeY (l : Launch) (hl : l.stackTraces = false) (G : gG) (S : sS) (ad : Nat → Nat → Nat) (σ : aS) (hC : RelC S ad σ) (a b c : Int32) (hv : ¬ ((0 ≤ a ∧ a ≤ 50) ∧ (0 ≤ b ∧ b ≤ 3) ∧ (1 ≤ c ∧ c ≤ 5))) : CtX l G yX8_home cX8_home 5 (Option.some FieldType.int) 7 2 24 [.ref (ad 8 0), .int a, .int b, .int c] S "java/lang/IllegalArgumentException" := by
  refine Ct_of (by decide) (cat1_all (by repeat first | exact trivial | refine ⟨by first | rfl | exact isR_c (isR_q _), ?_⟩)) (Nat.le_of_ble_eq_true rfl) hl fun X C hXl hin => ?_
  subst hXl
  dsimp only [lArgs, Nat.reduceAdd]
  refine V_iload_n C dX8_home_0 rfl ?_
  refine V_iconst C (v := 0) dX8_home_1 (by decide) ?_
  refine V_bipush C (v := 50) dX8_home_2 (by decide) ?_
  refine V_fS C (c_X8_isWithin _ hl G S _ _ _) ks_X8_34 (by decide) (by decide) rfl rfl (Nat.le_of_ble_eq_true rfl) dX8_home_4 ?_
  dsimp only [Option.toList_some, Option.toList_none, List.cons_append, List.nil_append]
  refine V_if_eq C (tgt := 32) dX8_home_7 (by decide) (fun h7 => ?_) (fun h7 => ?_)
  · refine V_iconst C (v := 0) dX8_home_32 (by decide) ?_
    refine V_xS C (c_X8_require0 _ hl G S) ks_X8_38 (by decide) (by decide) rfl rfl (Nat.le_of_ble_eq_true rfl) dX8_home_33 (by first | omega | decide) (by first | omega | decide) ?_
    exact ⟨rfl, rfl⟩
  · refine V_iload_n C dX8_home_10 rfl ?_
    refine V_iconst C (v := 0) dX8_home_11 (by decide) ?_
    refine V_iconst C (v := 3) dX8_home_12 (by decide) ?_
    refine V_fS C (c_X8_isWithin _ hl G S _ _ _) ks_X8_34 (by decide) (by decide) rfl rfl (Nat.le_of_ble_eq_true rfl) dX8_home_13 ?_
    dsimp only [Option.toList_some, Option.toList_none, List.cons_append, List.nil_append]
    refine V_if_eq C (tgt := 32) dX8_home_16 (by decide) (fun h16 => ?_) (fun h16 => ?_)
    · refine V_iconst C (v := 0) dX8_home_32 (by decide) ?_
      refine V_xS C (c_X8_require0 _ hl G S) ks_X8_38 (by decide) (by decide) rfl rfl (Nat.le_of_ble_eq_true rfl) dX8_home_33 (by first | omega | decide) (by first | omega | decide) ?_
      exact ⟨rfl, rfl⟩
    · refine V_iload_n C dX8_home_19 rfl ?_
      refine V_iconst C (v := 1) dX8_home_20 (by decide) ?_
      refine V_iconst C (v := 5) dX8_home_21 (by decide) ?_
      refine V_fS C (c_X8_isWithin _ hl G S _ _ _) ks_X8_34 (by decide) (by decide) rfl rfl (Nat.le_of_ble_eq_true rfl) dX8_home_22 ?_
      dsimp only [Option.toList_some, Option.toList_none, List.cons_append, List.nil_append]
      refine V_if_eq C (tgt := 32) dX8_home_25 (by decide) (fun h25 => ?_) (fun h25 => ?_)
      · refine V_iconst C (v := 0) dX8_home_32 (by decide) ?_
        refine V_xS C (c_X8_require0 _ hl G S) ks_X8_38 (by decide) (by decide) rfl rfl (Nat.le_of_ble_eq_true rfl) dX8_home_33 (by first | omega | decide) (by first | omega | decide) ?_
        exact ⟨rfl, rfl⟩
      · exact absurd ⟨bI_ne.mp h7, bI_ne.mp h16, bI_ne.mp h25⟩ hv
theorem c_X8_homeZ (l : Launch) (hl : l.stackTraces = false) (G : gG) (S : sS) (ad : Nat → Nat → Nat) (σ : aS) (hC : RelC S ad σ) (a b c : Int32) (hv : (0 ≤ a ∧ a ≤ 50) ∧ (0 ≤ b ∧ b ≤ 3) ∧ (1 ≤ c ∧ c ≤ 5)) (hn : ¬ σ.2 20 < 10) : CtX l G yX8_home cX8_home 5 (Option.some FieldType.int) 7 2 24 [.ref (ad 8 0), .int a, .int b, .int c] S "java/lang/IllegalStateException" := by
  refine Ct_of (by decide) (cat1_all (by repeat first | exact trivial | refine ⟨by first | rfl | exact isR_c (isR_q _), ?_⟩)) (Nat.le_of_ble_eq_true rfl) hl fun X C hXl hin => ?_
  subst hXl
  dsimp only [lArgs, Nat.reduceAdd]
  have kx : sK S (ad 8 0) = 9 := RelC_K hC 8 (by decide) rfl
  have rx_801 : sR S 801 (ad 8 0) = some (ad 16 0) := RelC_R hC 8 801 rfl (by unfold cFd; omega) rfl rfl
  have ix_805 : sI S 805 (ad 8 0) = σ.2 20 := RelC_I hC 8 805 rfl (by unfold cFd; omega) rfl rfl
  have kq : sK S (ad 16 0) = 105 := hC.1 16 0 (by decide) (by decide) (by decide) rfl
  have lq : sL S (ad 16 0) = 10 := hC.2.2.2.2.1 16 0 (by decide) (by decide) rfl
  refine V_iload_n C dX8_home_0 rfl ?_
  refine V_iconst C (v := 0) dX8_home_1 (by decide) ?_
  refine V_bipush C (v := 50) dX8_home_2 (by decide) ?_
  refine V_fS C (c_X8_isWithin _ hl G S _ _ _) ks_X8_34 (by decide) (by decide) rfl rfl (Nat.le_of_ble_eq_true rfl) dX8_home_4 ?_
  dsimp only [Option.toList_some, Option.toList_none, List.cons_append, List.nil_append]
  rw [bI_t hv.1]
  refine V_if_eq C (tgt := 32) dX8_home_7 (by decide) (fun h7 => ?_) (fun h7 => ?_)
  · exact absurd h7 (by decide)
  · refine V_iload_n C dX8_home_10 rfl ?_
    refine V_iconst C (v := 0) dX8_home_11 (by decide) ?_
    refine V_iconst C (v := 3) dX8_home_12 (by decide) ?_
    refine V_fS C (c_X8_isWithin _ hl G S _ _ _) ks_X8_34 (by decide) (by decide) rfl rfl (Nat.le_of_ble_eq_true rfl) dX8_home_13 ?_
    dsimp only [Option.toList_some, Option.toList_none, List.cons_append, List.nil_append]
    rw [bI_t hv.2.1]
    refine V_if_eq C (tgt := 32) dX8_home_16 (by decide) (fun h16 => ?_) (fun h16 => ?_)
    · exact absurd h16 (by decide)
    · refine V_iload_n C dX8_home_19 rfl ?_
      refine V_iconst C (v := 1) dX8_home_20 (by decide) ?_
      refine V_iconst C (v := 5) dX8_home_21 (by decide) ?_
      refine V_fS C (c_X8_isWithin _ hl G S _ _ _) ks_X8_34 (by decide) (by decide) rfl rfl (Nat.le_of_ble_eq_true rfl) dX8_home_22 ?_
      dsimp only [Option.toList_some, Option.toList_none, List.cons_append, List.nil_append]
      rw [bI_t hv.2.2]
      refine V_if_eq C (tgt := 32) dX8_home_25 (by decide) (fun h25 => ?_) (fun h25 => ?_)
      · exact absurd h25 (by decide)
      · refine V_iconst C (v := 1) dX8_home_28 (by decide) ?_
        refine V_goto C (tgt := 33) dX8_home_29 (by decide) ?_
        refine V_fS C (c_X8_require1 _ hl G S) ks_X8_38 (by decide) (by decide) rfl rfl (Nat.le_of_ble_eq_true rfl) dX8_home_33 ?_
        dsimp only [Option.toList_some, Option.toList_none, List.cons_append, List.nil_append]
        refine V_aload_n C dX8_home_36 rfl (by first | exact isR_r _ | exact isR_q _ | exact isR_n) ?_
        refine V_getIe C 8 5 rfl cf_8 fl_X8_63 (by decide) (by decide) dX8_home_37 kx ix_805 ?_
        refine V_aload_n C dX8_home_40 rfl (by first | exact isR_r _ | exact isR_q _ | exact isR_n) ?_
        refine V_getS C 8 1 rfl cf_8 fl_X8_17 (by decide) (by decide) dX8_home_41 kx rx_801 ?_
        refine V_alen C (v := nI 10) kq (by decide) (by rw [lq]; rfl) dX8_home_44 ?_
        refine V_icmp_lt C (tgt := 58) dX8_home_45 (by decide) (fun h45 => ?_) (fun h45 => ?_)
        · exact absurd h45 hn
        · refine V_throwS C tw_X8_46_66_50 dX8_home_48 dX8_home_51 dX8_home_52 dX8_home_54 dX8_home_57 (by decide) (by first | omega | decide) (by first | omega | decide) ?_
          exact ⟨rfl, rfl⟩

