/-! THE LAW: areLoads, areStays. -/
theorem nI_ofL {x y : Int32} {n : Nat} (h0 : 0 ≤ x) (h1 : x ≤ y) (e : y = nI n) (hn : n ≤ 12000 := by omega) : ∃ j, j ≤ n ∧ x = nI j := by
  subst e
  refine ⟨x.toNatClampNeg, ?_, ?_⟩
  · have a := Int32.le_iff_toInt_le.mp h0
    have b := Int32.le_iff_toInt_le.mp h1
    rw [nI_toInt (by omega)] at b
    rw [show (0 : Int32).toInt = 0 from rfl] at a
    have : x.toNatClampNeg = x.toInt.toNat := rfl
    omega
  · have a := Int32.le_iff_toInt_le.mp h0
    rw [show (0 : Int32).toInt = 0 from rfl] at a
    have e2 : x.toNatClampNeg = x.toInt.toNat := rfl
    have b := Int32.toInt_lt x
    apply Int32.toInt_inj.mp
    rw [nI_toInt (by omega), e2]
    omega
theorem c_areLoads (l : Launch) (hl : l.stackTraces = false) (G : gG) (S : sS) (q : Nat) (a : Nat → Nat) (γ : Nat → Nat → Int32) (σ : aS) (hP : PW S q a γ σ) (hL : IL σ γ) (hA : ALo σ) : CtF l G yL_areLoads cL_areLoads 7 (Option.some FieldType.boolean) 10 10 10 [.ref q, .ref (a 0), .ref (a 2)] S (some (.int 1)) S := by
  refine Ct_of (by decide) (cat1_all (by repeat first | exact trivial | refine ⟨by first | rfl | exact isR_c (isR_r _), ?_⟩)) (Nat.le_of_ble_eq_true rfl) hl fun X C hXl hin => ?_
  subst hXl
  dsimp only [lArgs, Nat.reduceAdd]
  have hW := PW_W hP
  have n1 : cN σ 1 ≤ 16 := hW.1.2.1.2
  have n43 : cN σ 43 ≤ 100 := hW.1.2.2.2.2.2.1.2
  obtain ⟨⟨e00, e01, e02, e03, e04⟩, ⟨n20, n38⟩, eK, eM, eO⟩ := hL
  have L2 : ∀ w, w < 5 → ∀ t k, k + t = cN σ 1 → V X G 7 (eQ X G (fun v T => v = some (.int 1) ∧ T = S) (fun _ _ => False) 10 10) 0 0 106 [(5, false, .int (fsum (ldT σ w) (cN σ 1))), (4, false, .int (nI w)), (3, false, .int 1), (2, false, .ref (a 2)), (1, false, .ref (a 0)), (0, false, .ref q)] [] S → V X G 7 (eQ X G (fun v T => v = some (.int 1) ∧ T = S) (fun _ _ => False) 10 10) 0 0 21 [(6, false, .int (nI k)), (5, false, .int (fsum (ldT σ w) k)), (4, false, .int (nI w)), (3, false, .int 1), (2, false, .ref (a 2)), (1, false, .ref (a 0)), (0, false, .ref q)] [] S := by
    intro w hw t
    induction t with
    | zero =>
      intro k hk0 kk
      refine V_iload C dL_areLoads_21 rfl ?_
      refine V_aload_n C dL_areLoads_23 rfl (by first | exact isR_r _ | exact isR_q _ | exact isR_n) ?_
      refine V_iconst C (v := 0) dL_areLoads_24 (by decide) ?_
      refine V_gl C hP 0 0 (by decide) (by decide) rfl e00 dL_areLoads_25 ?_
      refine V_igeN C (tgt := 106) (by omega) (by omega) dL_areLoads_26 (by decide) (fun h26 => ?_) (fun h26 => ?_)
      ·
        obtain rfl : k = cN σ 1 := by omega
        exact V_sub (by repeat first | exact trivial | refine ⟨rfl, ?_⟩) kk
      ·
        omega
    | succ t ih =>
      intro k hk0 kk
      refine V_iload C dL_areLoads_21 rfl ?_
      refine V_aload_n C dL_areLoads_23 rfl (by first | exact isR_r _ | exact isR_q _ | exact isR_n) ?_
      refine V_iconst C (v := 0) dL_areLoads_24 (by decide) ?_
      refine V_gl C hP 0 0 (by decide) (by decide) rfl e00 dL_areLoads_25 ?_
      refine V_igeN C (tgt := 106) (by omega) (by omega) dL_areLoads_26 (by decide) (fun h26 => ?_) (fun h26 => ?_)
      ·
        obtain rfl : k = cN σ 1 := by omega
        exact V_sub (by repeat first | exact trivial | refine ⟨rfl, ?_⟩) kk
      ·
        have hk : k < cN σ 1 := by omega
        replace eK := eK k hk
        refine V_iload C dL_areLoads_29 rfl ?_
        refine V_aload_n C dL_areLoads_31 rfl (by first | exact isR_r _ | exact isR_q _ | exact isR_n) ?_
        refine V_iload C dL_areLoads_32 rfl ?_
        refine V_bipush C (v := 6) dL_areLoads_34 (by decide) ?_
        refine V_fH C (r_is6 _ hl G S q a γ σ hP  k hk) kh_L_119 (by decide) ⟨(by omega : _ ≤ 10), (by omega : _ ≤ 10)⟩ rfl rfl (Nat.le_of_ble_eq_true rfl) dL_areLoads_36 ?_
        dsimp only [Option.toList_some, Option.toList_none, List.cons_append, List.nil_append]
        refine V_iload C dL_areLoads_39 rfl ?_
        refine V_icmp_ne C (tgt := 96) dL_areLoads_41 (by decide) (fun h41 => ?_) (fun h41 => ?_)
        ·
          refine V_iconst C (v := 0) dL_areLoads_96 (by decide) ?_
          refine V_iadd C dL_areLoads_97 ?_
          rw [show fsum (ldT σ w) k + (0 : Int32) = fsum (ldT σ w) (k + 1) from congrArg (fsum (ldT σ w) k + ·) (if_neg h41).symm]
          refine V_istore C dL_areLoads_98 (by decide) rfl ?_
          simp only [lset1, lset2, List.filter_cons, List.filter_nil, Nat.reduceBEq, Nat.reduceAdd, Bool.not_true, Bool.not_false, Bool.and_true, Bool.and_false, Bool.true_and, Bool.false_and, if_true, if_false, Bool.false_eq_true, reduceIte]
          refine V_incN C dL_areLoads_100 rfl (by decide) rfl ?_
          simp only [lset1, lset2, List.filter_cons, List.filter_nil, Nat.reduceBEq, Nat.reduceAdd, Bool.not_true, Bool.not_false, Bool.and_true, Bool.and_false, Bool.true_and, Bool.false_and, if_true, if_false, Bool.false_eq_true, reduceIte]
          refine V_goto C (tgt := 21) dL_areLoads_103 (by decide) ?_
          exact V_sub (by repeat first | exact trivial | refine ⟨rfl, ?_⟩) (ih (k + 1) (by omega) kk)
        ·
          refine V_iconst C (v := 2) dL_areLoads_44 (by decide) ?_
          refine V_aload_n C dL_areLoads_45 rfl (by first | exact isR_r _ | exact isR_q _ | exact isR_n) ?_
          refine V_iload C dL_areLoads_46 rfl ?_
          refine V_iconst C (v := 0) dL_areLoads_48 (by decide) ?_
          refine V_fH C (r_is0 _ hl G S q a γ σ hP  k hk) kh_L_119 (by decide) ⟨(by omega : _ ≤ 10), (by omega : _ ≤ 10)⟩ rfl rfl (Nat.le_of_ble_eq_true rfl) dL_areLoads_49 ?_
          dsimp only [Option.toList_some, Option.toList_none, List.cons_append, List.nil_append]
          refine V_if_ge C (tgt := 59) dL_areLoads_52 (by decide) (fun h52 => ?_) (fun h52 => ?_)
          ·
            refine V_iconst C (v := 3) dL_areLoads_59 (by decide) ?_
            refine V_iadd C dL_areLoads_60 ?_
            refine V_aload_n C dL_areLoads_61 rfl (by first | exact isR_r _ | exact isR_q _ | exact isR_n) ?_
            refine V_iload C dL_areLoads_62 rfl ?_
            refine V_gl C hP 2 k (by decide) (show k < 16 by omega) rfl eK.2.1 dL_areLoads_64 ?_
            refine V_iconst C (v := 1) dL_areLoads_65 (by decide) ?_
            refine V_iand C dL_areLoads_66 ?_
            refine V_iadd C dL_areLoads_67 ?_
            refine V_aload_n C dL_areLoads_68 rfl (by first | exact isR_r _ | exact isR_q _ | exact isR_n) ?_
            refine V_iload C dL_areLoads_69 rfl ?_
            refine V_gl C hP 2 k (by decide) (show k < 16 by omega) rfl eK.2.1 dL_areLoads_71 ?_
            refine V_iconst C (v := 1) dL_areLoads_72 (by decide) ?_
            refine V_ishr C dL_areLoads_73 ?_
            refine V_iconst C (v := 1) dL_areLoads_74 (by decide) ?_
            refine V_iand C dL_areLoads_75 ?_
            refine V_iadd C dL_areLoads_76 ?_
            refine V_aload_n C dL_areLoads_77 rfl (by first | exact isR_r _ | exact isR_q _ | exact isR_n) ?_
            refine V_iload C dL_areLoads_78 rfl ?_
            refine V_gl C hP 2 k (by decide) (show k < 16 by omega) rfl eK.2.1 dL_areLoads_80 ?_
            refine V_iconst C (v := 2) dL_areLoads_81 (by decide) ?_
            refine V_ishr C dL_areLoads_82 ?_
            refine V_iconst C (v := 1) dL_areLoads_83 (by decide) ?_
            refine V_iand C dL_areLoads_84 ?_
            refine V_iadd C dL_areLoads_85 ?_
            refine V_aload_n C dL_areLoads_86 rfl (by first | exact isR_r _ | exact isR_q _ | exact isR_n) ?_
            refine V_iload C dL_areLoads_87 rfl ?_
            refine V_gl C hP 2 k (by decide) (show k < 16 by omega) rfl eK.2.1 dL_areLoads_89 ?_
            refine V_iconst C (v := 3) dL_areLoads_90 (by decide) ?_
            refine V_ishr C dL_areLoads_91 ?_
            refine V_iadd C dL_areLoads_92 ?_
            refine V_goto C (tgt := 97) dL_areLoads_93 (by decide) ?_
            refine V_iadd C dL_areLoads_97 ?_
            have e9 : ldT σ w k = 2 + 3 + (σ.1 4 k &&& 1) + ((σ.1 4 k >>> ((1 : Int32) &&& 31)) &&& 1) + ((σ.1 4 k >>> ((2 : Int32) &&& 31)) &&& 1) + (σ.1 4 k >>> ((3 : Int32) &&& 31)) := by
              rw [ldT, if_pos h41, if_neg (fun z => absurd h52 (Int32.not_le.mpr ((hA.2 k hk).mpr z)))]
            rw [← e9]
            rw [show fsum (ldT σ w) k + ldT σ w k = fsum (ldT σ w) (k + 1) from rfl]
            refine V_istore C dL_areLoads_98 (by decide) rfl ?_
            simp only [lset1, lset2, List.filter_cons, List.filter_nil, Nat.reduceBEq, Nat.reduceAdd, Bool.not_true, Bool.not_false, Bool.and_true, Bool.and_false, Bool.true_and, Bool.false_and, if_true, if_false, Bool.false_eq_true, reduceIte]
            refine V_incN C dL_areLoads_100 rfl (by decide) rfl ?_
            simp only [lset1, lset2, List.filter_cons, List.filter_nil, Nat.reduceBEq, Nat.reduceAdd, Bool.not_true, Bool.not_false, Bool.and_true, Bool.and_false, Bool.true_and, Bool.false_and, if_true, if_false, Bool.false_eq_true, reduceIte]
            refine V_goto C (tgt := 21) dL_areLoads_103 (by decide) ?_
            exact V_sub (by repeat first | exact trivial | refine ⟨rfl, ?_⟩) (ih (k + 1) (by omega) kk)
          ·
            refine V_iconst C (v := 0) dL_areLoads_55 (by decide) ?_
            refine V_goto C (tgt := 60) dL_areLoads_56 (by decide) ?_
            refine V_iadd C dL_areLoads_60 ?_
            refine V_aload_n C dL_areLoads_61 rfl (by first | exact isR_r _ | exact isR_q _ | exact isR_n) ?_
            refine V_iload C dL_areLoads_62 rfl ?_
            refine V_gl C hP 2 k (by decide) (show k < 16 by omega) rfl eK.2.1 dL_areLoads_64 ?_
            refine V_iconst C (v := 1) dL_areLoads_65 (by decide) ?_
            refine V_iand C dL_areLoads_66 ?_
            refine V_iadd C dL_areLoads_67 ?_
            refine V_aload_n C dL_areLoads_68 rfl (by first | exact isR_r _ | exact isR_q _ | exact isR_n) ?_
            refine V_iload C dL_areLoads_69 rfl ?_
            refine V_gl C hP 2 k (by decide) (show k < 16 by omega) rfl eK.2.1 dL_areLoads_71 ?_
            refine V_iconst C (v := 1) dL_areLoads_72 (by decide) ?_
            refine V_ishr C dL_areLoads_73 ?_
            refine V_iconst C (v := 1) dL_areLoads_74 (by decide) ?_
            refine V_iand C dL_areLoads_75 ?_
            refine V_iadd C dL_areLoads_76 ?_
            refine V_aload_n C dL_areLoads_77 rfl (by first | exact isR_r _ | exact isR_q _ | exact isR_n) ?_
            refine V_iload C dL_areLoads_78 rfl ?_
            refine V_gl C hP 2 k (by decide) (show k < 16 by omega) rfl eK.2.1 dL_areLoads_80 ?_
            refine V_iconst C (v := 2) dL_areLoads_81 (by decide) ?_
            refine V_ishr C dL_areLoads_82 ?_
            refine V_iconst C (v := 1) dL_areLoads_83 (by decide) ?_
            refine V_iand C dL_areLoads_84 ?_
            refine V_iadd C dL_areLoads_85 ?_
            refine V_aload_n C dL_areLoads_86 rfl (by first | exact isR_r _ | exact isR_q _ | exact isR_n) ?_
            refine V_iload C dL_areLoads_87 rfl ?_
            refine V_gl C hP 2 k (by decide) (show k < 16 by omega) rfl eK.2.1 dL_areLoads_89 ?_
            refine V_iconst C (v := 3) dL_areLoads_90 (by decide) ?_
            refine V_ishr C dL_areLoads_91 ?_
            refine V_iadd C dL_areLoads_92 ?_
            refine V_goto C (tgt := 97) dL_areLoads_93 (by decide) ?_
            refine V_iadd C dL_areLoads_97 ?_
            have e9 : ldT σ w k = 2 + 0 + (σ.1 4 k &&& 1) + ((σ.1 4 k >>> ((1 : Int32) &&& 31)) &&& 1) + ((σ.1 4 k >>> ((2 : Int32) &&& 31)) &&& 1) + (σ.1 4 k >>> ((3 : Int32) &&& 31)) := by
              rw [ldT, if_pos h41, if_pos ((hA.2 k hk).mp (Int32.not_le.mp h52))]
            rw [← e9]
            rw [show fsum (ldT σ w) k + ldT σ w k = fsum (ldT σ w) (k + 1) from rfl]
            refine V_istore C dL_areLoads_98 (by decide) rfl ?_
            simp only [lset1, lset2, List.filter_cons, List.filter_nil, Nat.reduceBEq, Nat.reduceAdd, Bool.not_true, Bool.not_false, Bool.and_true, Bool.and_false, Bool.true_and, Bool.false_and, if_true, if_false, Bool.false_eq_true, reduceIte]
            refine V_incN C dL_areLoads_100 rfl (by decide) rfl ?_
            simp only [lset1, lset2, List.filter_cons, List.filter_nil, Nat.reduceBEq, Nat.reduceAdd, Bool.not_true, Bool.not_false, Bool.and_true, Bool.and_false, Bool.true_and, Bool.false_and, if_true, if_false, Bool.false_eq_true, reduceIte]
            refine V_goto C (tgt := 21) dL_areLoads_103 (by decide) ?_
            exact V_sub (by repeat first | exact trivial | refine ⟨rfl, ?_⟩) (ih (k + 1) (by omega) kk)
  have L1 : ∀ t w, w + t = 5 → V X G 7 (eQ X G (fun v T => v = some (.int 1) ∧ T = S) (fun _ _ => False) 10 10) 0 0 5 [(4, false, .int (nI w)), (3, false, .int 1), (2, false, .ref (a 2)), (1, false, .ref (a 0)), (0, false, .ref q)] [] S := by
    intro t
    induction t with
    | zero =>
      intro w hw0
      refine V_iload C dL_areLoads_5 rfl ?_
      refine V_iconst C (v := nI 5) dL_areLoads_7 (by decide) ?_
      refine V_igeN C (tgt := 129) (by omega) (by omega) dL_areLoads_8 (by decide) (fun h8 => ?_) (fun h8 => ?_)
      ·
        refine V_iload_n C dL_areLoads_129 rfl ?_
        refine V_zret C rfl (by first | omega | decide) (by first | omega | decide) dL_areLoads_130 ?_
        exact ⟨rfl, rfl⟩
      ·
        omega
    | succ t ih =>
      intro w hw0
      refine V_iload C dL_areLoads_5 rfl ?_
      refine V_iconst C (v := nI 5) dL_areLoads_7 (by decide) ?_
      refine V_igeN C (tgt := 129) (by omega) (by omega) dL_areLoads_8 (by decide) (fun h8 => ?_) (fun h8 => ?_)
      ·
        omega
      ·
        refine V_iload_n C dL_areLoads_11 rfl ?_
        refine V_if_eq C (tgt := 129) dL_areLoads_12 (by decide) (fun h12 => absurd h12 (by decide)) (fun h12 => ?_)
        refine V_iconst C (v := 0) dL_areLoads_15 (by decide) ?_
        refine V_istore C dL_areLoads_16 (by decide) rfl ?_
        simp only [lset1, lset2, List.filter_cons, List.filter_nil, Nat.reduceBEq, Nat.reduceAdd, Bool.not_true, Bool.not_false, Bool.and_true, Bool.and_false, Bool.true_and, Bool.false_and, if_true, if_false, Bool.false_eq_true, reduceIte]
        refine V_iconst C (v := 0) dL_areLoads_18 (by decide) ?_
        refine V_istore C dL_areLoads_19 (by decide) rfl ?_
        simp only [lset1, lset2, List.filter_cons, List.filter_nil, Nat.reduceBEq, Nat.reduceAdd, Bool.not_true, Bool.not_false, Bool.and_true, Bool.and_false, Bool.true_and, Bool.false_and, if_true, if_false, Bool.false_eq_true, reduceIte]
        refine L2 w (by omega) (cN σ 1) 0 (by omega) ?_
        refine V_aload_n C dL_areLoads_106 rfl (by first | exact isR_r _ | exact isR_q _ | exact isR_n) ?_
        refine V_iload C dL_areLoads_107 rfl ?_
        refine V_fH C (r_load _ hl G S q a γ σ hP  (nI w) ⟨nI_0le w (by omega), (show nI w ≤ nI 4 from (nI_leI (by omega) (by decide)).mpr (by omega))⟩) kh_L_143 (by decide) ⟨(by omega : _ ≤ 10), (by omega : _ ≤ 10)⟩ rfl rfl (Nat.le_of_ble_eq_true rfl) dL_areLoads_109 ?_
        dsimp only [Option.toList_some, Option.toList_none, List.cons_append, List.nil_append]
        refine V_iload C dL_areLoads_112 rfl ?_
        refine V_icmp_ne C (tgt := 121) dL_areLoads_114 (by decide) (fun h114 => absurd h114 (fun z => z (hA.1 w (by omega)))) (fun h114 => ?_)
        refine V_iconst C (v := 1) dL_areLoads_117 (by decide) ?_
        refine V_goto C (tgt := 122) dL_areLoads_118 (by decide) ?_
        refine V_istore_n C dL_areLoads_122 (by decide) rfl ?_
        simp only [lset1, lset2, List.filter_cons, List.filter_nil, Nat.reduceBEq, Nat.reduceAdd, Bool.not_true, Bool.not_false, Bool.and_true, Bool.and_false, Bool.true_and, Bool.false_and, if_true, if_false, Bool.false_eq_true, reduceIte]
        refine V_incN C dL_areLoads_123 rfl (by decide) rfl ?_
        simp only [lset1, lset2, List.filter_cons, List.filter_nil, Nat.reduceBEq, Nat.reduceAdd, Bool.not_true, Bool.not_false, Bool.and_true, Bool.and_false, Bool.true_and, Bool.false_and, if_true, if_false, Bool.false_eq_true, reduceIte]
        refine V_goto C (tgt := 5) dL_areLoads_126 (by decide) ?_
        exact V_sub (by repeat first | exact trivial | refine ⟨rfl, ?_⟩) (ih (w + 1) (by omega))
  refine V_iconst C (v := 1) dL_areLoads_0 (by decide) ?_
  refine V_istore_n C dL_areLoads_1 (by decide) rfl ?_
  simp only [lset1, lset2, List.filter_cons, List.filter_nil, Nat.reduceBEq, Nat.reduceAdd, Bool.not_true, Bool.not_false, Bool.and_true, Bool.and_false, Bool.true_and, Bool.false_and, if_true, if_false, Bool.false_eq_true, reduceIte]
  refine V_iconst C (v := 0) dL_areLoads_2 (by decide) ?_
  refine V_istore C dL_areLoads_3 (by decide) rfl ?_
  simp only [lset1, lset2, List.filter_cons, List.filter_nil, Nat.reduceBEq, Nat.reduceAdd, Bool.not_true, Bool.not_false, Bool.and_true, Bool.and_false, Bool.true_and, Bool.false_and, if_true, if_false, Bool.false_eq_true, reduceIte]
  exact V_sub (by repeat first | exact trivial | refine ⟨rfl, ?_⟩) (L1 5 0 (by omega))
theorem c_areStays (l : Launch) (hl : l.stackTraces = false) (G : gG) (S : sS) (q : Nat) (a : Nat → Nat) (γ : Nat → Nat → Int32) (σ : aS) (hP : PW S q a γ σ) (hL : IL σ γ) (hA : ASt σ) : CtF l G yL_areStays cL_areStays 12 (Option.some FieldType.boolean) 10 210 1300 [.ref q, .ref (a 0), .ref (a 1), .ref (a 2), .ref (a 5)] S (some (.int 1)) S := by
  refine Ct_of (by decide) (cat1_all (by repeat first | exact trivial | refine ⟨by first | rfl | exact isR_c (isR_r _), ?_⟩)) (Nat.le_of_ble_eq_true rfl) hl fun X C hXl hin => ?_
  subst hXl
  dsimp only [lArgs, Nat.reduceAdd]
  have hW := PW_W hP
  have n1 : cN σ 1 ≤ 16 := hW.1.2.1.2
  have n43 : cN σ 43 ≤ 100 := hW.1.2.2.2.2.2.1.2
  obtain ⟨⟨e00, e01, e02, e03, e04⟩, ⟨n20, n38⟩, eK, eM, eO⟩ := hL
  have n0 : cN σ 0 ≤ 12000 := hW.1.1.2
  have s0 : σ.2 0 = nI (cN σ 0) := hW.1.1.1
  have L6 : ∀ m j c B E D, m < cN σ 20 → j < cN σ 43 → c < cN σ 1 → B ≤ E → E ≤ 12000 → σ.1 45 j = nI m → ∀ t i, B + i + t = E → V X G 12 (eQ X G (fun v T => v = some (.int 1) ∧ T = S) (fun _ _ => False) 210 1300) 203 1218 402 [(8, false, .int (nI j)), (7, false, .int (D + fsum (fun i => dyD σ c (nI (B + i))) (E - B))), (6, false, .int (nI m)), (5, false, .int 1), (4, false, .ref (a 5)), (3, false, .ref (a 2)), (2, false, .ref (a 1)), (1, false, .ref (a 0)), (0, false, .ref q)] [] S → V X G 12 (eQ X G (fun v T => v = some (.int 1) ∧ T = S) (fun _ _ => False) 210 1300) 203 1218 324 [(11, false, .int (nI (B + i))), (10, false, .int (nI E)), (9, false, .int (nI c)), (8, false, .int (nI j)), (7, false, .int (D + fsum (fun i => dyD σ c (nI (B + i))) i)), (6, false, .int (nI m)), (5, false, .int 1), (4, false, .ref (a 5)), (3, false, .ref (a 2)), (2, false, .ref (a 1)), (1, false, .ref (a 0)), (0, false, .ref q)] [] S := by
    intro m j c B E D hm hj hc hBE hE h45 t
    induction t with
    | zero =>
      intro i hi kk
      refine V_iload C dL_areStays_324 rfl ?_
      refine V_iload C dL_areStays_326 rfl ?_
      refine V_igeN C (tgt := 402) (by omega) (by omega) dL_areStays_328 (by decide) (fun h328 => ?_) (fun h328 => ?_)
      ·
        obtain rfl : i = E - B := by omega
        exact V_sub (by repeat first | exact trivial | refine ⟨rfl, ?_⟩) kk
      ·
        omega
    | succ t ih =>
      intro i hi kk
      refine V_iload C dL_areStays_324 rfl ?_
      refine V_iload C dL_areStays_326 rfl ?_
      refine V_igeN C (tgt := 402) (by omega) (by omega) dL_areStays_328 (by decide) (fun h328 => ?_) (fun h328 => ?_)
      ·
        obtain rfl : i = E - B := by omega
        exact V_sub (by repeat first | exact trivial | refine ⟨rfl, ?_⟩) kk
      ·
        refine V_aload_n C dL_areStays_331 rfl (by first | exact isR_r _ | exact isR_q _ | exact isR_n) ?_
        refine V_iload C dL_areStays_332 rfl ?_
        refine V_iconst C (v := 1) dL_areStays_334 (by decide) ?_
        refine V_fH C (r_st1 _ hl G S q a γ σ hP  j hj) kh_L_137 (by decide) ⟨(by omega : _ ≤ 210), (by omega : _ ≤ 1300)⟩ rfl rfl (Nat.le_of_ble_eq_true rfl) dL_areStays_335 ?_
        dsimp only [Option.toList_some, Option.toList_none, List.cons_append, List.nil_append]
        refine V_iload C dL_areStays_338 rfl ?_
        refine V_icmp_ne C (tgt := 402) dL_areStays_340 (by decide) (fun h340 => absurd h340 (fun z => z h45)) (fun h340 => ?_)
        refine V_iload C dL_areStays_343 rfl ?_
        refine V_bipush C (v := 10) dL_areStays_345 (by decide) ?_
        refine V_aload_n C dL_areStays_347 rfl (by first | exact isR_r _ | exact isR_q _ | exact isR_n) ?_
        refine V_iload C dL_areStays_348 rfl ?_
        refine V_gl C hP 1 c (by decide) (show c < 16 by omega) rfl (eK c hc).1 dL_areStays_350 ?_
        refine V_iload C dL_areStays_351 rfl ?_
        refine V_iadd C dL_areStays_353 ?_
        refine V_sipush C (v := 365) dL_areStays_354 (by decide) ?_
        refine V_idiv C dL_areStays_357 (by decide) ?_
        refine V_iadd C dL_areStays_358 ?_
        refine V_iconst C (v := 5) dL_areStays_359 (by decide) ?_
        refine V_aload_n C dL_areStays_360 rfl (by first | exact isR_r _ | exact isR_q _ | exact isR_n) ?_
        refine V_iload C dL_areStays_361 rfl ?_
        refine V_gl C hP 2 c (by decide) (show c < 16 by omega) rfl (eK c hc).2.1 dL_areStays_363 ?_
        refine V_iconst C (v := 1) dL_areStays_364 (by decide) ?_
        refine V_iand C dL_areStays_365 ?_
        refine V_aload_n C dL_areStays_366 rfl (by first | exact isR_r _ | exact isR_q _ | exact isR_n) ?_
        refine V_iload C dL_areStays_367 rfl ?_
        refine V_gl C hP 2 c (by decide) (show c < 16 by omega) rfl (eK c hc).2.1 dL_areStays_369 ?_
        refine V_iconst C (v := 1) dL_areStays_370 (by decide) ?_
        refine V_ishr C dL_areStays_371 ?_
        refine V_iconst C (v := 1) dL_areStays_372 (by decide) ?_
        refine V_iand C dL_areStays_373 ?_
        refine V_iadd C dL_areStays_374 ?_
        refine V_aload_n C dL_areStays_375 rfl (by first | exact isR_r _ | exact isR_q _ | exact isR_n) ?_
        refine V_iload C dL_areStays_376 rfl ?_
        refine V_gl C hP 2 c (by decide) (show c < 16 by omega) rfl (eK c hc).2.1 dL_areStays_378 ?_
        refine V_iconst C (v := 2) dL_areStays_379 (by decide) ?_
        refine V_ishr C dL_areStays_380 ?_
        refine V_iconst C (v := 1) dL_areStays_381 (by decide) ?_
        refine V_iand C dL_areStays_382 ?_
        refine V_iadd C dL_areStays_383 ?_
        refine V_aload_n C dL_areStays_384 rfl (by first | exact isR_r _ | exact isR_q _ | exact isR_n) ?_
        refine V_iload C dL_areStays_385 rfl ?_
        refine V_gl C hP 2 c (by decide) (show c < 16 by omega) rfl (eK c hc).2.1 dL_areStays_387 ?_
        refine V_iconst C (v := 3) dL_areStays_388 (by decide) ?_
        refine V_ishr C dL_areStays_389 ?_
        refine V_iadd C dL_areStays_390 ?_
        refine V_imul C dL_areStays_391 ?_
        refine V_iadd C dL_areStays_392 ?_
        refine V_iadd C dL_areStays_393 ?_
        rw [Int32.add_assoc D]
        rw [show fsum (fun i => dyD σ c (nI (B + i))) i + (10 + (σ.1 2 c - σ.1 3 c + nI (B + i)) / 365 + 5 * ((σ.1 4 c &&& 1) + ((σ.1 4 c >>> ((1 : Int32) &&& 31)) &&& 1) + ((σ.1 4 c >>> ((2 : Int32) &&& 31)) &&& 1) + (σ.1 4 c >>> ((3 : Int32) &&& 31)))) = fsum (fun i => dyD σ c (nI (B + i))) (i + 1) from rfl]
        refine V_istore C dL_areStays_394 (by decide) rfl ?_
        simp only [lset1, lset2, List.filter_cons, List.filter_nil, Nat.reduceBEq, Nat.reduceAdd, Bool.not_true, Bool.not_false, Bool.and_true, Bool.and_false, Bool.true_and, Bool.false_and, if_true, if_false, Bool.false_eq_true, reduceIte]
        refine V_incN C dL_areStays_396 rfl (by decide) rfl ?_
        simp only [lset1, lset2, List.filter_cons, List.filter_nil, Nat.reduceBEq, Nat.reduceAdd, Bool.not_true, Bool.not_false, Bool.and_true, Bool.and_false, Bool.true_and, Bool.false_and, if_true, if_false, Bool.false_eq_true, reduceIte]
        refine V_goto C (tgt := 324) dL_areStays_399 (by decide) ?_
        exact V_sub (by repeat first | exact trivial | refine ⟨rfl, ?_⟩) (ih (i + 1) (by omega) kk)
  have L5 : ∀ m, m < cN σ 20 → ∀ t j, j + t = cN σ 43 → V X G 12 (eQ X G (fun v T => v = some (.int 1) ∧ T = S) (fun _ _ => False) 210 1300) 203 1218 408 [(7, false, .int (fsum (stD σ m) (cN σ 43))), (6, false, .int (nI m)), (5, false, .int 1), (4, false, .ref (a 5)), (3, false, .ref (a 2)), (2, false, .ref (a 1)), (1, false, .ref (a 0)), (0, false, .ref q)] [] S → V X G 12 (eQ X G (fun v T => v = some (.int 1) ∧ T = S) (fun _ _ => False) 210 1300) 203 1218 273 [(8, false, .int (nI j)), (7, false, .int (fsum (stD σ m) j)), (6, false, .int (nI m)), (5, false, .int 1), (4, false, .ref (a 5)), (3, false, .ref (a 2)), (2, false, .ref (a 1)), (1, false, .ref (a 0)), (0, false, .ref q)] [] S := by
    intro m hm t
    induction t with
    | zero =>
      intro j hj0 kk
      refine V_iload C dL_areStays_273 rfl ?_
      refine V_aload_n C dL_areStays_275 rfl (by first | exact isR_r _ | exact isR_q _ | exact isR_n) ?_
      refine V_iconst C (v := 3) dL_areStays_276 (by decide) ?_
      refine V_gl C hP 0 3 (by decide) (by decide) rfl e03 dL_areStays_277 ?_
      refine V_igeN C (tgt := 408) (by omega) (by omega) dL_areStays_278 (by decide) (fun h278 => ?_) (fun h278 => ?_)
      ·
        obtain rfl : j = cN σ 43 := by omega
        exact V_sub (by repeat first | exact trivial | refine ⟨rfl, ?_⟩) kk
      ·
        omega
    | succ t ih =>
      intro j hj0 kk
      refine V_iload C dL_areStays_273 rfl ?_
      refine V_aload_n C dL_areStays_275 rfl (by first | exact isR_r _ | exact isR_q _ | exact isR_n) ?_
      refine V_iconst C (v := 3) dL_areStays_276 (by decide) ?_
      refine V_gl C hP 0 3 (by decide) (by decide) rfl e03 dL_areStays_277 ?_
      refine V_igeN C (tgt := 408) (by omega) (by omega) dL_areStays_278 (by decide) (fun h278 => ?_) (fun h278 => ?_)
      ·
        obtain rfl : j = cN σ 43 := by omega
        exact V_sub (by repeat first | exact trivial | refine ⟨rfl, ?_⟩) kk
      ·
        have hj : j < cN σ 43 := by omega
        obtain ⟨⟨c, c1, c2, c3⟩, ⟨b1, b2⟩, en, -, -⟩ := hA.1 j hj
        obtain ⟨B, hB, eB9⟩ := nI_ofL b1 b2 s0
        obtain ⟨E, hE, hBE, eE, eT⟩ : ∃ E, E ≤ 12000 ∧ B ≤ E ∧ E = (if σ.1 47 j = -1 then cN σ 0 else nx (σ.1 47 j)) ∧ (¬ σ.1 47 j = -1 → σ.1 47 j = nI E) := by
          by_cases q : σ.1 47 j = -1
          · exact ⟨cN σ 0, n0, hB, (if_pos q).symm, fun z => absurd q z⟩
          · obtain ⟨p1, p2⟩ := en q
            obtain ⟨E, hE, eE⟩   := nI_ofL (Int32.le_trans b1 p1) p2 s0
            refine ⟨E, by omega, ?_, ?_, fun _ => eE⟩
            · rw [eB9, eE] at p1
              exact (nI_leI (by omega) (by omega)).mp p1
            · rw [if_neg q, eE, nx_nI (j := E) (by omega)]
        have eS : stD σ m j = if σ.1 45 j = nI m then fsum (fun i => dyD σ (nx (σ.1 44 j)) (nI (B + i))) (E - B) else 0 := by
          rw [stD, ← eE, eB9, nx_nI (j := B) (by omega)]
        refine V_aload_n C dL_areStays_281 rfl (by first | exact isR_r _ | exact isR_q _ | exact isR_n) ?_
        refine V_iload C dL_areStays_282 rfl ?_
        refine V_iconst C (v := 0) dL_areStays_284 (by decide) ?_
        refine V_fH C (r_st0 _ hl G S q a γ σ hP  j hj) kh_L_137 (by decide) ⟨(by omega : _ ≤ 210), (by omega : _ ≤ 1300)⟩ rfl rfl (Nat.le_of_ble_eq_true rfl) dL_areStays_285 ?_
        dsimp only [Option.toList_some, Option.toList_none, List.cons_append, List.nil_append]
        rw [c2]
        refine V_istore C dL_areStays_288 (by decide) rfl ?_
        simp only [lset1, lset2, List.filter_cons, List.filter_nil, Nat.reduceBEq, Nat.reduceAdd, Bool.not_true, Bool.not_false, Bool.and_true, Bool.and_false, Bool.true_and, Bool.false_and, if_true, if_false, Bool.false_eq_true, reduceIte]
        refine V_or (tgt9 := 313) (st9 := [.int (nI E)]) ?_ (fun J313 => ?_)
        ·
          refine V_istore C dL_areStays_313 (by decide) rfl ?_
          simp only [lset1, lset2, List.filter_cons, List.filter_nil, Nat.reduceBEq, Nat.reduceAdd, Bool.not_true, Bool.not_false, Bool.and_true, Bool.and_false, Bool.true_and, Bool.false_and, if_true, if_false, Bool.false_eq_true, reduceIte]
          refine V_aload_n C dL_areStays_315 rfl (by first | exact isR_r _ | exact isR_q _ | exact isR_n) ?_
          refine V_iload C dL_areStays_316 rfl ?_
          refine V_iconst C (v := 2) dL_areStays_318 (by decide) ?_
          refine V_fH C (r_st2 _ hl G S q a γ σ hP  j hj) kh_L_137 (by decide) ⟨(by omega : _ ≤ 210), (by omega : _ ≤ 1300)⟩ rfl rfl (Nat.le_of_ble_eq_true rfl) dL_areStays_319 ?_
          dsimp only [Option.toList_some, Option.toList_none, List.cons_append, List.nil_append]
          rw [eB9]
          refine V_istore C dL_areStays_322 (by decide) rfl ?_
          simp only [lset1, lset2, List.filter_cons, List.filter_nil, Nat.reduceBEq, Nat.reduceAdd, Bool.not_true, Bool.not_false, Bool.and_true, Bool.and_false, Bool.true_and, Bool.false_and, if_true, if_false, Bool.false_eq_true, reduceIte]
          have N9 : V X G 12 (eQ X G (fun v T => v = some (.int 1) ∧ T = S) (fun _ _ => False) 210 1300) 203 1218 402 [(8, false, .int (nI j)), (7, false, .int (fsum (stD σ m) (j + 1))), (6, false, .int (nI m)), (5, false, .int 1), (4, false, .ref (a 5)), (3, false, .ref (a 2)), (2, false, .ref (a 1)), (1, false, .ref (a 0)), (0, false, .ref q)] [] S := by
            refine V_incN C dL_areStays_402 rfl (by decide) rfl ?_
            simp only [lset1, lset2, List.filter_cons, List.filter_nil, Nat.reduceBEq, Nat.reduceAdd, Bool.not_true, Bool.not_false, Bool.and_true, Bool.and_false, Bool.true_and, Bool.false_and, if_true, if_false, Bool.false_eq_true, reduceIte]
            refine V_goto C (tgt := 273) dL_areStays_405 (by decide) ?_
            exact V_sub (by repeat first | exact trivial | refine ⟨rfl, ?_⟩) (ih (j + 1) (by omega) kk)
          by_cases h45 : σ.1 45 j = nI m
          · have e9 : fsum (stD σ m) (j + 1) = fsum (stD σ m) j + fsum (fun i => dyD σ c (nI (B + i))) (E - B) := by
              show fsum (stD σ m) j + stD σ m j = _
              rw [eS, if_pos h45, c2, nx_nI (j := c) (by omega)]
            rw [e9] at N9
            have L7 := L6 m j c B E (fsum (stD σ m) j) hm hj c1 hBE hE h45 (E - B) 0 (by omega) N9
            rw [show fsum (stD σ m) j + fsum (fun i => dyD σ c (nI (B + i))) 0 = fsum (stD σ m) j from Int32.add_zero _] at L7
            exact V_sub (by repeat first | exact trivial | refine ⟨rfl, ?_⟩) L7
          · have e9 : fsum (stD σ m) (j + 1) = fsum (stD σ m) j := by
              show fsum (stD σ m) j + stD σ m j = _
              rw [eS, if_neg h45, Int32.add_zero]
            rw [e9] at N9
            refine V_iload C dL_areStays_324 rfl ?_
            refine V_iload C dL_areStays_326 rfl ?_
            refine V_icmp_ge C (tgt := 402) dL_areStays_328 (by decide) (fun h328 => ?_) (fun h328 => ?_)
            ·
              refine V_sub (lo' := [(8, false, .int (nI j)), (7, false, .int (fsum (stD σ m) j)), (6, false, .int (nI m)), (5, false, .int 1), (4, false, .ref (a 5)), (3, false, .ref (a 2)), (2, false, .ref (a 1)), (1, false, .ref (a 0)), (0, false, .ref q)]) (by repeat first | exact trivial | refine ⟨rfl, ?_⟩) ?_
              exact N9
            ·
              refine V_aload_n C dL_areStays_331 rfl (by first | exact isR_r _ | exact isR_q _ | exact isR_n) ?_
              refine V_iload C dL_areStays_332 rfl ?_
              refine V_iconst C (v := 1) dL_areStays_334 (by decide) ?_
              refine V_fH C (r_st1 _ hl G S q a γ σ hP  j hj) kh_L_137 (by decide) ⟨(by omega : _ ≤ 210), (by omega : _ ≤ 1300)⟩ rfl rfl (Nat.le_of_ble_eq_true rfl) dL_areStays_335 ?_
              dsimp only [Option.toList_some, Option.toList_none, List.cons_append, List.nil_append]
              refine V_iload C dL_areStays_338 rfl ?_
              refine V_icmp_ne C (tgt := 402) dL_areStays_340 (by decide) (fun h340 => ?_) (fun h340 => absurd h340 (h45))
              refine V_sub (lo' := [(8, false, .int (nI j)), (7, false, .int (fsum (stD σ m) j)), (6, false, .int (nI m)), (5, false, .int 1), (4, false, .ref (a 5)), (3, false, .ref (a 2)), (2, false, .ref (a 1)), (1, false, .ref (a 0)), (0, false, .ref q)]) (by repeat first | exact trivial | refine ⟨rfl, ?_⟩) ?_
              exact N9
        ·
          refine V_aload_n C dL_areStays_290 rfl (by first | exact isR_r _ | exact isR_q _ | exact isR_n) ?_
          refine V_iload C dL_areStays_291 rfl ?_
          refine V_iconst C (v := 3) dL_areStays_293 (by decide) ?_
          refine V_fH C (r_st3 _ hl G S q a γ σ hP  j hj) kh_L_137 (by decide) ⟨(by omega : _ ≤ 210), (by omega : _ ≤ 1300)⟩ rfl rfl (Nat.le_of_ble_eq_true rfl) dL_areStays_294 ?_
          dsimp only [Option.toList_some, Option.toList_none, List.cons_append, List.nil_append]
          refine V_if_ge C (tgt := 306) dL_areStays_297 (by decide) (fun h297 => ?_) (fun h297 => ?_)
          ·
            refine V_aload_n C dL_areStays_306 rfl (by first | exact isR_r _ | exact isR_q _ | exact isR_n) ?_
            refine V_iload C dL_areStays_307 rfl ?_
            refine V_iconst C (v := 3) dL_areStays_309 (by decide) ?_
            refine V_fH C (r_st3 _ hl G S q a γ σ hP  j hj) kh_L_137 (by decide) ⟨(by omega : _ ≤ 210), (by omega : _ ≤ 1300)⟩ rfl rfl (Nat.le_of_ble_eq_true rfl) dL_areStays_310 ?_
            dsimp only [Option.toList_some, Option.toList_none, List.cons_append, List.nil_append]
            rw [eT (fun z => by rw [z] at h297; exact absurd h297 (by decide))]
            exact J313
          ·
            refine V_aload_n C dL_areStays_300 rfl (by first | exact isR_r _ | exact isR_q _ | exact isR_n) ?_
            refine V_iconst C (v := 4) dL_areStays_301 (by decide) ?_
            refine V_gl C hP 0 4 (by decide) (by decide) rfl e04 dL_areStays_302 ?_
            refine V_goto C (tgt := 313) dL_areStays_303 (by decide) ?_
            have q : σ.1 47 j = -1 := Classical.byContradiction fun q => h297 (Int32.le_trans b1 (en q).1)
            rw [if_pos q] at eE
            rw [s0, ← eE]
            exact J313
  have L4 : ∀ t m, m + t = cN σ 20 → V X G 12 (eQ X G (fun v T => v = some (.int 1) ∧ T = S) (fun _ _ => False) 210 1300) 203 1218 254 [(6, false, .int (nI m)), (5, false, .int 1), (4, false, .ref (a 5)), (3, false, .ref (a 2)), (2, false, .ref (a 1)), (1, false, .ref (a 0)), (0, false, .ref q)] [] S := by
    intro t
    induction t with
    | zero =>
      intro m hm0
      refine V_iload C dL_areStays_254 rfl ?_
      refine V_aload_n C dL_areStays_256 rfl (by first | exact isR_r _ | exact isR_q _ | exact isR_n) ?_
      refine V_iconst C (v := 1) dL_areStays_257 (by decide) ?_
      refine V_gl C hP 0 1 (by decide) (by decide) rfl e01 dL_areStays_258 ?_
      refine V_igeN C (tgt := 438) (by omega) (by omega) dL_areStays_259 (by decide) (fun h259 => ?_) (fun h259 => ?_)
      ·
        refine V_iload C dL_areStays_438 rfl ?_
        refine V_zret C rfl (by first | omega | decide) (by first | omega | decide) dL_areStays_440 ?_
        exact ⟨rfl, rfl⟩
      ·
        omega
    | succ t ih =>
      intro m hm0
      refine V_iload C dL_areStays_254 rfl ?_
      refine V_aload_n C dL_areStays_256 rfl (by first | exact isR_r _ | exact isR_q _ | exact isR_n) ?_
      refine V_iconst C (v := 1) dL_areStays_257 (by decide) ?_
      refine V_gl C hP 0 1 (by decide) (by decide) rfl e01 dL_areStays_258 ?_
      refine V_igeN C (tgt := 438) (by omega) (by omega) dL_areStays_259 (by decide) (fun h259 => ?_) (fun h259 => ?_)
      ·
        refine V_iload C dL_areStays_438 rfl ?_
        refine V_zret C rfl (by first | omega | decide) (by first | omega | decide) dL_areStays_440 ?_
        exact ⟨rfl, rfl⟩
      ·
        refine V_iload C dL_areStays_262 rfl ?_
        refine V_if_eq C (tgt := 438) dL_areStays_264 (by decide) (fun h264 => absurd h264 (by decide)) (fun h264 => ?_)
        refine V_iconst C (v := 0) dL_areStays_267 (by decide) ?_
        refine V_istore C dL_areStays_268 (by decide) rfl ?_
        simp only [lset1, lset2, List.filter_cons, List.filter_nil, Nat.reduceBEq, Nat.reduceAdd, Bool.not_true, Bool.not_false, Bool.and_true, Bool.and_false, Bool.true_and, Bool.false_and, if_true, if_false, Bool.false_eq_true, reduceIte]
        refine V_iconst C (v := 0) dL_areStays_270 (by decide) ?_
        refine V_istore C dL_areStays_271 (by decide) rfl ?_
        simp only [lset1, lset2, List.filter_cons, List.filter_nil, Nat.reduceBEq, Nat.reduceAdd, Bool.not_true, Bool.not_false, Bool.and_true, Bool.and_false, Bool.true_and, Bool.false_and, if_true, if_false, Bool.false_eq_true, reduceIte]
        refine V_sub (by repeat first | exact trivial | refine ⟨rfl, ?_⟩) (L5 m (by omega) (cN σ 43) 0 (by omega) ?_)
        refine V_aload_n C dL_areStays_408 rfl (by first | exact isR_r _ | exact isR_q _ | exact isR_n) ?_
        refine V_iload C dL_areStays_409 rfl ?_
        refine V_fH C (r_owed _ hl G S q a γ σ hP  m (by omega)) kh_L_141 (by decide) ⟨(by omega : _ ≤ 210), (by omega : _ ≤ 1300)⟩ rfl rfl (Nat.le_of_ble_eq_true rfl) dL_areStays_411 ?_
        dsimp only [Option.toList_some, Option.toList_none, List.cons_append, List.nil_append]
        refine V_iload C dL_areStays_414 rfl ?_
        refine V_aload C dL_areStays_416 rfl (by first | exact isR_r _ | exact isR_q _ | exact isR_n) ?_
        refine V_iload C dL_areStays_418 rfl ?_
        refine V_gl C hP 5 m (by decide) (show m < 4 by omega) rfl (eM m (by omega)).2 dL_areStays_420 ?_
        refine V_isub C dL_areStays_421 ?_
        refine V_icmp_ne C (tgt := 429) dL_areStays_422 (by decide) (fun h422 => absurd h422 (fun z => z (hA.2 m (by omega)))) (fun h422 => ?_)
        refine V_iconst C (v := 1) dL_areStays_425 (by decide) ?_
        refine V_goto C (tgt := 430) dL_areStays_426 (by decide) ?_
        refine V_istore C dL_areStays_430 (by decide) rfl ?_
        simp only [lset1, lset2, List.filter_cons, List.filter_nil, Nat.reduceBEq, Nat.reduceAdd, Bool.not_true, Bool.not_false, Bool.and_true, Bool.and_false, Bool.true_and, Bool.false_and, if_true, if_false, Bool.false_eq_true, reduceIte]
        refine V_incN C dL_areStays_432 rfl (by decide) rfl ?_
        simp only [lset1, lset2, List.filter_cons, List.filter_nil, Nat.reduceBEq, Nat.reduceAdd, Bool.not_true, Bool.not_false, Bool.and_true, Bool.and_false, Bool.true_and, Bool.false_and, if_true, if_false, Bool.false_eq_true, reduceIte]
        refine V_goto C (tgt := 254) dL_areStays_435 (by decide) ?_
        exact V_sub (by repeat first | exact trivial | refine ⟨rfl, ?_⟩) (ih (m + 1) (by omega))
  have L1 : ∀ t k, k + t = cN σ 43 → V X G 12 (eQ X G (fun v T => v = some (.int 1) ∧ T = S) (fun _ _ => False) 210 1300) (3 + 2 * k) (18 + 12 * k) 35 [(6, false, .int (nI k)), (5, false, .int 1), (4, false, .ref (a 5)), (3, false, .ref (a 2)), (2, false, .ref (a 1)), (1, false, .ref (a 0)), (0, false, .ref q)] [] S := by
    intro t
    induction t with
    | zero =>
      intro k hk0
      refine V_iload C dL_areStays_35 rfl ?_
      refine V_aload_n C dL_areStays_37 rfl (by first | exact isR_r _ | exact isR_q _ | exact isR_n) ?_
      refine V_iconst C (v := 3) dL_areStays_38 (by decide) ?_
      refine V_gl C hP 0 3 (by decide) (by decide) rfl e03 dL_areStays_39 ?_
      refine V_igeN C (tgt := 251) (by omega) (by omega) dL_areStays_40 (by decide) (fun h40 => ?_) (fun h40 => ?_)
      ·
        refine V_widen (k' := 203) (n' := 1218) (by omega) (by omega) ?_
        refine V_iconst C (v := 0) dL_areStays_251 (by decide) ?_
        refine V_istore C dL_areStays_252 (by decide) rfl ?_
        simp only [lset1, lset2, List.filter_cons, List.filter_nil, Nat.reduceBEq, Nat.reduceAdd, Bool.not_true, Bool.not_false, Bool.and_true, Bool.and_false, Bool.true_and, Bool.false_and, if_true, if_false, Bool.false_eq_true, reduceIte]
        exact V_sub (by repeat first | exact trivial | refine ⟨rfl, ?_⟩) (L4 (cN σ 20) 0 (by omega))
      ·
        omega
    | succ t ih =>
      intro k hk0
      refine V_iload C dL_areStays_35 rfl ?_
      refine V_aload_n C dL_areStays_37 rfl (by first | exact isR_r _ | exact isR_q _ | exact isR_n) ?_
      refine V_iconst C (v := 3) dL_areStays_38 (by decide) ?_
      refine V_gl C hP 0 3 (by decide) (by decide) rfl e03 dL_areStays_39 ?_
      refine V_igeN C (tgt := 251) (by omega) (by omega) dL_areStays_40 (by decide) (fun h40 => ?_) (fun h40 => ?_)
      ·
        refine V_widen (k' := 203) (n' := 1218) (by omega) (by omega) ?_
        refine V_iconst C (v := 0) dL_areStays_251 (by decide) ?_
        refine V_istore C dL_areStays_252 (by decide) rfl ?_
        simp only [lset1, lset2, List.filter_cons, List.filter_nil, Nat.reduceBEq, Nat.reduceAdd, Bool.not_true, Bool.not_false, Bool.and_true, Bool.and_false, Bool.true_and, Bool.false_and, if_true, if_false, Bool.false_eq_true, reduceIte]
        exact V_sub (by repeat first | exact trivial | refine ⟨rfl, ?_⟩) (L4 (cN σ 20) 0 (by omega))
      ·
        refine V_iload C dL_areStays_43 rfl ?_
        refine V_if_eq C (tgt := 251) dL_areStays_45 (by decide) (fun h45 => absurd h45 (by decide)) (fun h45 => ?_)
        have hk : k < cN σ 43 := by omega
        obtain ⟨⟨c, c1, c2, c3⟩, ⟨b1, b2⟩, en, ⟨o1, o2⟩, ch⟩ := hA.1 k hk
        refine V_aload_n C dL_areStays_48 rfl (by first | exact isR_r _ | exact isR_q _ | exact isR_n) ?_
        refine V_iload C dL_areStays_49 rfl ?_
        refine V_iconst C (v := 0) dL_areStays_51 (by decide) ?_
        refine V_fH C (r_st0 _ hl G S q a γ σ hP  k hk) kh_L_137 (by decide) ⟨(by omega : _ ≤ 210), (by omega : _ ≤ 1300)⟩ rfl rfl (Nat.le_of_ble_eq_true rfl) dL_areStays_52 ?_
        dsimp only [Option.toList_some, Option.toList_none, List.cons_append, List.nil_append]
        rw [c2]
        refine V_istore C dL_areStays_55 (by decide) rfl ?_
        simp only [lset1, lset2, List.filter_cons, List.filter_nil, Nat.reduceBEq, Nat.reduceAdd, Bool.not_true, Bool.not_false, Bool.and_true, Bool.and_false, Bool.true_and, Bool.false_and, if_true, if_false, Bool.false_eq_true, reduceIte]
        refine V_aload_n C dL_areStays_57 rfl (by first | exact isR_r _ | exact isR_q _ | exact isR_n) ?_
        refine V_iload C dL_areStays_58 rfl ?_
        refine V_iconst C (v := 2) dL_areStays_60 (by decide) ?_
        refine V_fH C (r_st2 _ hl G S q a γ σ hP  k hk) kh_L_137 (by decide) ⟨(by omega : _ ≤ 210), (by omega : _ ≤ 1300)⟩ rfl rfl (Nat.le_of_ble_eq_true rfl) dL_areStays_61 ?_
        dsimp only [Option.toList_some, Option.toList_none, List.cons_append, List.nil_append]
        refine V_istore C dL_areStays_64 (by decide) rfl ?_
        simp only [lset1, lset2, List.filter_cons, List.filter_nil, Nat.reduceBEq, Nat.reduceAdd, Bool.not_true, Bool.not_false, Bool.and_true, Bool.and_false, Bool.true_and, Bool.false_and, if_true, if_false, Bool.false_eq_true, reduceIte]
        refine V_aload_n C dL_areStays_66 rfl (by first | exact isR_r _ | exact isR_q _ | exact isR_n) ?_
        refine V_iload C dL_areStays_67 rfl ?_
        refine V_iconst C (v := 3) dL_areStays_69 (by decide) ?_
        refine V_fH C (r_st3 _ hl G S q a γ σ hP  k hk) kh_L_137 (by decide) ⟨(by omega : _ ≤ 210), (by omega : _ ≤ 1300)⟩ rfl rfl (Nat.le_of_ble_eq_true rfl) dL_areStays_70 ?_
        dsimp only [Option.toList_some, Option.toList_none, List.cons_append, List.nil_append]
        refine V_istore C dL_areStays_73 (by decide) rfl ?_
        simp only [lset1, lset2, List.filter_cons, List.filter_nil, Nat.reduceBEq, Nat.reduceAdd, Bool.not_true, Bool.not_false, Bool.and_true, Bool.and_false, Bool.true_and, Bool.false_and, if_true, if_false, Bool.false_eq_true, reduceIte]
        refine V_aload_n C dL_areStays_75 rfl (by first | exact isR_r _ | exact isR_q _ | exact isR_n) ?_
        refine V_iload C dL_areStays_76 rfl ?_
        refine V_iconst C (v := 4) dL_areStays_78 (by decide) ?_
        refine V_fH C (r_st4 _ hl G S q a γ σ hP  k hk) kh_L_137 (by decide) ⟨(by omega : _ ≤ 210), (by omega : _ ≤ 1300)⟩ rfl rfl (Nat.le_of_ble_eq_true rfl) dL_areStays_79 ?_
        dsimp only [Option.toList_some, Option.toList_none, List.cons_append, List.nil_append]
        refine V_istore C dL_areStays_82 (by decide) rfl ?_
        simp only [lset1, lset2, List.filter_cons, List.filter_nil, Nat.reduceBEq, Nat.reduceAdd, Bool.not_true, Bool.not_false, Bool.and_true, Bool.and_false, Bool.true_and, Bool.false_and, if_true, if_false, Bool.false_eq_true, reduceIte]
        refine V_iload C dL_areStays_84 rfl ?_
        refine V_if_lt C (tgt := 180) dL_areStays_86 (by decide) (fun h86 => absurd h86 (Int32.not_lt.mpr (nI_0le c (by omega)))) (fun h86 => ?_)
        refine V_iload C dL_areStays_89 rfl ?_
        refine V_aload_n C dL_areStays_91 rfl (by first | exact isR_r _ | exact isR_q _ | exact isR_n) ?_
        refine V_iconst C (v := 0) dL_areStays_92 (by decide) ?_
        refine V_gl C hP 0 0 (by decide) (by decide) rfl e00 dL_areStays_93 ?_
        refine V_igeN C (tgt := 180) (by omega) (by omega) dL_areStays_94 (by decide) (fun h94 => absurd h94 (by omega)) (fun h94 => ?_)
        refine V_iload C dL_areStays_97 rfl ?_
        refine V_if_lt C (tgt := 180) dL_areStays_99 (by decide) (fun h99 => absurd h99 (Int32.not_lt.mpr b1)) (fun h99 => ?_)
        refine V_iload C dL_areStays_102 rfl ?_
        refine V_aload_n C dL_areStays_104 rfl (by first | exact isR_r _ | exact isR_q _ | exact isR_n) ?_
        refine V_iconst C (v := 4) dL_areStays_105 (by decide) ?_
        refine V_gl C hP 0 4 (by decide) (by decide) rfl e04 dL_areStays_106 ?_
        refine V_icmp_gt C (tgt := 180) dL_areStays_107 (by decide) (fun h107 => absurd h107 (Int32.not_lt.mpr b2)) (fun h107 => ?_)
        refine V_or (tgt9 := 151) (st9 := []) ?_ (fun J151 => ?_)
        ·
          refine V_iload C dL_areStays_151 rfl ?_
          refine V_if_lt C (tgt := 180) dL_areStays_153 (by decide) (fun h153 => absurd h153 (Int32.not_lt.mpr o1)) (fun h153 => ?_)
          refine V_iload C dL_areStays_156 rfl ?_
          refine V_aload_n C dL_areStays_158 rfl (by first | exact isR_r _ | exact isR_q _ | exact isR_n) ?_
          refine V_iconst C (v := 2) dL_areStays_159 (by decide) ?_
          refine V_gl C hP 0 2 (by decide) (by decide) rfl e02 dL_areStays_160 ?_
          refine V_icmp_ge C (tgt := 180) dL_areStays_161 (by decide) (fun h161 => absurd h161 (Int32.not_le.mpr o2)) (fun h161 => ?_)
          refine V_aload_n C dL_areStays_164 rfl (by first | exact isR_r _ | exact isR_q _ | exact isR_n) ?_
          refine V_iload C dL_areStays_165 rfl ?_
          refine V_iconst C (v := 5) dL_areStays_167 (by decide) ?_
          refine V_fH C (r_stayY _ hl G S q a γ σ hP  k hk 5 (by decide)) kh_L_137 (by decide) ⟨(by omega : _ ≤ 210), (by omega : _ ≤ 1300)⟩ rfl rfl (Nat.le_of_ble_eq_true rfl) dL_areStays_168 ?_
          dsimp only [Option.toList_some, Option.toList_none, List.cons_append, List.nil_append]
          refine V_ldc C dL_areStays_171 cs_L_18 ?_
          refine V_icmp_ne C (tgt := 180) dL_areStays_173 (by decide) (fun h173 => absurd h173 (fun z => z rfl)) (fun h173 => ?_)
          refine V_iconst C (v := 1) dL_areStays_176 (by decide) ?_
          refine V_goto C (tgt := 181) dL_areStays_177 (by decide) ?_
          refine V_istore C dL_areStays_181 (by decide) rfl ?_
          simp only [lset1, lset2, List.filter_cons, List.filter_nil, Nat.reduceBEq, Nat.reduceAdd, Bool.not_true, Bool.not_false, Bool.and_true, Bool.and_false, Bool.true_and, Bool.false_and, if_true, if_false, Bool.false_eq_true, reduceIte]
          refine V_iconst C (v := 0) dL_areStays_183 (by decide) ?_
          refine V_istore C dL_areStays_184 (by decide) rfl ?_
          simp only [lset1, lset2, List.filter_cons, List.filter_nil, Nat.reduceBEq, Nat.reduceAdd, Bool.not_true, Bool.not_false, Bool.and_true, Bool.and_false, Bool.true_and, Bool.false_and, if_true, if_false, Bool.false_eq_true, reduceIte]
          have L2 : ∀ t2 m, m + t2 = k → V X G 12 (eQ X G (fun v T => v = some (.int 1) ∧ T = S) (fun _ _ => False) 210 1300) (5 + 2 * k) (30 + 12 * k) 186 [(11, false, .int (nI m)), (8, false, .int (σ.1 46 k)), (7, false, .int (nI c)), (6, false, .int (nI k)), (5, false, .int 1), (4, false, .ref (a 5)), (3, false, .ref (a 2)), (2, false, .ref (a 1)), (1, false, .ref (a 0)), (0, false, .ref q)] [] S := by
            intro t2
            induction t2 with
            | zero =>
              intro m hm
              refine V_iload C dL_areStays_186 rfl ?_
              refine V_iload C dL_areStays_188 rfl ?_
              refine V_igeN C (tgt := 245) (by omega) (by omega) dL_areStays_190 (by decide) (fun h190 => ?_) (fun h190 => ?_)
              ·
                obtain rfl : m = k := by omega
                refine V_incN C dL_areStays_245 rfl (by decide) rfl ?_
                simp only [lset1, lset2, List.filter_cons, List.filter_nil, Nat.reduceBEq, Nat.reduceAdd, Bool.not_true, Bool.not_false, Bool.and_true, Bool.and_false, Bool.true_and, Bool.false_and, if_true, if_false, Bool.false_eq_true, reduceIte]
                refine V_goto C (tgt := 35) dL_areStays_248 (by decide) ?_
                exact V_widen (by omega) (by omega) (V_sub (by repeat first | exact trivial | refine ⟨rfl, ?_⟩) (ih (m + 1) (by omega)))
              ·
                omega
            | succ t2 ih2 =>
              intro m hm
              refine V_iload C dL_areStays_186 rfl ?_
              refine V_iload C dL_areStays_188 rfl ?_
              refine V_igeN C (tgt := 245) (by omega) (by omega) dL_areStays_190 (by decide) (fun h190 => ?_) (fun h190 => ?_)
              ·
                omega
              ·
                refine V_iload C dL_areStays_193 rfl ?_
                refine V_if_eq C (tgt := 245) dL_areStays_195 (by decide) (fun h195 => absurd h195 (by decide)) (fun h195 => ?_)
                refine V_or (tgt9 := 232) (st9 := []) ?_ (fun J232 => ?_)
                ·
                  refine V_iconst C (v := 1) dL_areStays_232 (by decide) ?_
                  refine V_goto C (tgt := 237) dL_areStays_233 (by decide) ?_
                  refine V_istore C dL_areStays_237 (by decide) rfl ?_
                  simp only [lset1, lset2, List.filter_cons, List.filter_nil, Nat.reduceBEq, Nat.reduceAdd, Bool.not_true, Bool.not_false, Bool.and_true, Bool.and_false, Bool.true_and, Bool.false_and, if_true, if_false, Bool.false_eq_true, reduceIte]
                  refine V_incN C dL_areStays_239 rfl (by decide) rfl ?_
                  simp only [lset1, lset2, List.filter_cons, List.filter_nil, Nat.reduceBEq, Nat.reduceAdd, Bool.not_true, Bool.not_false, Bool.and_true, Bool.and_false, Bool.true_and, Bool.false_and, if_true, if_false, Bool.false_eq_true, reduceIte]
                  refine V_goto C (tgt := 186) dL_areStays_242 (by decide) ?_
                  exact V_sub (by repeat first | exact trivial | refine ⟨rfl, ?_⟩) (ih2 (m + 1) (by omega))
                ·
                  refine V_aload_n C dL_areStays_198 rfl (by first | exact isR_r _ | exact isR_q _ | exact isR_n) ?_
                  refine V_iload C dL_areStays_199 rfl ?_
                  refine V_iconst C (v := 0) dL_areStays_201 (by decide) ?_
                  refine V_fH C (r_st0 _ hl G S q a γ σ hP  m (by omega)) kh_L_137 (by decide) ⟨(by omega : _ ≤ 210), (by omega : _ ≤ 1300)⟩ rfl rfl (Nat.le_of_ble_eq_true rfl) dL_areStays_202 ?_
                  dsimp only [Option.toList_some, Option.toList_none, List.cons_append, List.nil_append]
                  refine V_iload C dL_areStays_205 rfl ?_
                  refine V_icmp_ne C (tgt := 232) dL_areStays_207 (by decide) (fun h207 => ?_) (fun h207 => ?_)
                  ·
                    exact J232
                  ·
                    obtain ⟨g1, g2⟩ := ch m (by omega) (h207.trans c2.symm)
                    refine V_aload_n C dL_areStays_210 rfl (by first | exact isR_r _ | exact isR_q _ | exact isR_n) ?_
                    refine V_iload C dL_areStays_211 rfl ?_
                    refine V_iconst C (v := 3) dL_areStays_213 (by decide) ?_
                    refine V_fH C (r_st3 _ hl G S q a γ σ hP  m (by omega)) kh_L_137 (by decide) ⟨(by omega : _ ≤ 210), (by omega : _ ≤ 1300)⟩ rfl rfl (Nat.le_of_ble_eq_true rfl) dL_areStays_214 ?_
                    dsimp only [Option.toList_some, Option.toList_none, List.cons_append, List.nil_append]
                    refine V_if_lt C (tgt := 236) dL_areStays_217 (by decide) (fun h217 => absurd h217 (Int32.not_lt.mpr g1)) (fun h217 => ?_)
                    refine V_aload_n C dL_areStays_220 rfl (by first | exact isR_r _ | exact isR_q _ | exact isR_n) ?_
                    refine V_iload C dL_areStays_221 rfl ?_
                    refine V_iconst C (v := 3) dL_areStays_223 (by decide) ?_
                    refine V_fH C (r_st3 _ hl G S q a γ σ hP  m (by omega)) kh_L_137 (by decide) ⟨(by omega : _ ≤ 210), (by omega : _ ≤ 1300)⟩ rfl rfl (Nat.le_of_ble_eq_true rfl) dL_areStays_224 ?_
                    dsimp only [Option.toList_some, Option.toList_none, List.cons_append, List.nil_append]
                    refine V_iload C dL_areStays_227 rfl ?_
                    refine V_icmp_gt C (tgt := 236) dL_areStays_229 (by decide) (fun h229 => absurd h229 (Int32.not_lt.mpr g2)) (fun h229 => ?_)
                    exact J232
          exact V_sub (by repeat first | exact trivial | refine ⟨rfl, ?_⟩) (V_widen (by omega) (by omega) (L2 k 0 (by omega)))
        ·
          refine V_iload C dL_areStays_110 rfl ?_
          refine V_iconst C (v := (-1)) dL_areStays_112 (by decide) ?_
          refine V_icmp_ne C (tgt := 136) dL_areStays_113 (by decide) (fun h113 => ?_) (fun h113 => ?_)
          ·
            refine V_iload C dL_areStays_136 rfl ?_
            refine V_iload C dL_areStays_138 rfl ?_
            refine V_icmp_lt C (tgt := 180) dL_areStays_140 (by decide) (fun h140 => absurd h140 (Int32.not_lt.mpr (en h113).1)) (fun h140 => ?_)
            refine V_iload C dL_areStays_143 rfl ?_
            refine V_aload_n C dL_areStays_145 rfl (by first | exact isR_r _ | exact isR_q _ | exact isR_n) ?_
            refine V_iconst C (v := 4) dL_areStays_146 (by decide) ?_
            refine V_gl C hP 0 4 (by decide) (by decide) rfl e04 dL_areStays_147 ?_
            refine V_icmp_gt C (tgt := 180) dL_areStays_148 (by decide) (fun h148 => absurd h148 (Int32.not_lt.mpr (en h113).2)) (fun h148 => ?_)
            exact J151
          ·
            refine V_aload_n C dL_areStays_116 rfl (by first | exact isR_r _ | exact isR_q _ | exact isR_n) ?_
            refine V_iload C dL_areStays_117 rfl ?_
            refine V_iconst C (v := 0) dL_areStays_119 (by decide) ?_
            refine V_fH C (r_is0 _ hl G S q a γ σ hP  c c1) kh_L_119 (by decide) ⟨(by omega : _ ≤ 210), (by omega : _ ≤ 1300)⟩ rfl rfl (Nat.le_of_ble_eq_true rfl) dL_areStays_120 ?_
            dsimp only [Option.toList_some, Option.toList_none, List.cons_append, List.nil_append]
            refine V_aload_n C dL_areStays_123 rfl (by first | exact isR_r _ | exact isR_q _ | exact isR_n) ?_
            refine V_iload C dL_areStays_124 rfl ?_
            refine V_iconst C (v := 1) dL_areStays_126 (by decide) ?_
            refine V_fH C (r_st1 _ hl G S q a γ σ hP  k hk) kh_L_137 (by decide) ⟨(by omega : _ ≤ 210), (by omega : _ ≤ 1300)⟩ rfl rfl (Nat.le_of_ble_eq_true rfl) dL_areStays_127 ?_
            dsimp only [Option.toList_some, Option.toList_none, List.cons_append, List.nil_append]
            refine V_icmp_ne C (tgt := 180) dL_areStays_130 (by decide) (fun h130 => absurd h130 (fun z => z (c3 h113))) (fun h130 => ?_)
            refine V_goto C (tgt := 151) dL_areStays_133 (by decide) ?_
            exact J151
  refine V_aload_n C dL_areStays_0 rfl (by first | exact isR_r _ | exact isR_q _ | exact isR_n) ?_
  refine V_aload_n C dL_areStays_1 rfl (by first | exact isR_r _ | exact isR_q _ | exact isR_n) ?_
  refine V_iconst C (v := 3) dL_areStays_2 (by decide) ?_
  refine V_gl C hP 0 3 (by decide) (by decide) rfl e03 dL_areStays_3 ?_
  refine V_iconst C (v := 0) dL_areStays_4 (by decide) ?_
  refine V_fH C (r_stayX _ hl G S q a γ σ hP  (nI (cN σ 43)) 0 (n_no (by omega))) kh_L_137 (by decide) ⟨(by omega : _ ≤ 210), (by omega : _ ≤ 1300)⟩ rfl rfl (Nat.le_of_ble_eq_true rfl) dL_areStays_5 ?_
  dsimp only [Option.toList_some, Option.toList_none, List.cons_append, List.nil_append]
  refine V_ldc C dL_areStays_8 cs_L_32 ?_
  refine V_icmp_ne C (tgt := 29) dL_areStays_10 (by decide) (fun h10 => absurd h10 (fun z => z rfl)) (fun h10 => ?_)
  refine V_aload_n C dL_areStays_13 rfl (by first | exact isR_r _ | exact isR_q _ | exact isR_n) ?_
  refine V_aload_n C dL_areStays_14 rfl (by first | exact isR_r _ | exact isR_q _ | exact isR_n) ?_
  refine V_iconst C (v := 3) dL_areStays_15 (by decide) ?_
  refine V_gl C hP 0 3 (by decide) (by decide) rfl e03 dL_areStays_16 ?_
  refine V_fH C (r_wasAllowedX _ hl G S q a γ σ hP  (nI (cN σ 43)) (n_no (by omega))) kh_L_139 (by decide) ⟨(by omega : _ ≤ 210), (by omega : _ ≤ 1300)⟩ rfl rfl (Nat.le_of_ble_eq_true rfl) dL_areStays_17 ?_
  dsimp only [Option.toList_some, Option.toList_none, List.cons_append, List.nil_append]
  refine V_ldc C dL_areStays_20 cs_L_32 ?_
  refine V_icmp_ne C (tgt := 29) dL_areStays_22 (by decide) (fun h22 => absurd h22 (fun z => z rfl)) (fun h22 => ?_)
  refine V_iconst C (v := 1) dL_areStays_25 (by decide) ?_
  refine V_goto C (tgt := 30) dL_areStays_26 (by decide) ?_
  refine V_istore C dL_areStays_30 (by decide) rfl ?_
  simp only [lset1, lset2, List.filter_cons, List.filter_nil, Nat.reduceBEq, Nat.reduceAdd, Bool.not_true, Bool.not_false, Bool.and_true, Bool.and_false, Bool.true_and, Bool.false_and, if_true, if_false, Bool.false_eq_true, reduceIte]
  refine V_iconst C (v := 0) dL_areStays_32 (by decide) ?_
  refine V_istore C dL_areStays_33 (by decide) rfl ?_
  simp only [lset1, lset2, List.filter_cons, List.filter_nil, Nat.reduceBEq, Nat.reduceAdd, Bool.not_true, Bool.not_false, Bool.and_true, Bool.and_false, Bool.true_and, Bool.false_and, if_true, if_false, Bool.false_eq_true, reduceIte]
  exact V_sub (by repeat first | exact trivial | refine ⟨rfl, ?_⟩) (L1 (cN σ 43) 0 (by omega))
