/-! THE LAW: orders, places. -/
theorem c_orders (l : Launch) (hl : l.stackTraces = false) (G : gG) (S : sS) (q : Nat) (a : Nat → Nat) (γ : Nat → Nat → Int32) (σ : aS) (hP : PW S q a γ σ) (hL : LJ σ γ) (h1 : 0 < cN σ 1) (x y : Int32) : Ct l G yL_orders cL_orders 15 (Option.some FieldType.boolean) 10 40 500 [.ref q, .ref (a 0), .ref (a 6), .ref (a 7), .int x, .int y] S (fun v T => v = some (.int 1) ∧ ∃ γ9 σ9, PW T q a γ9 σ9 ∧ WP σ γ σ9 γ9) (fun _ _ => False) := by
  refine Ct_of (by decide) (cat1_all (by repeat first | exact trivial | refine ⟨by first | rfl | exact isR_c (isR_r _), ?_⟩)) (Nat.le_of_ble_eq_true rfl) hl fun X C hXl hin => ?_
  subst hXl
  dsimp only [lArgs, Nat.reduceAdd]
  have hW := PW_W hP
  have n0 : cN σ 0 ≤ 12000 := hW.1.1.2
  have s0 : σ.2 0 = nI (cN σ 0) := hW.1.1.1
  have n1 : cN σ 1 ≤ 16 := hW.1.2.1.2
  have n43 : cN σ 43 ≤ 100 := hW.1.2.2.2.2.2.1.2
  obtain ⟨⟨e00, e01, e02, e03, e04⟩, ⟨n20, n38⟩, eK, eM, eO⟩ := id hL.1
  rw [s0] at e04
  refine V_aload_n C dL_orders_0 rfl (by first | exact isR_r _ | exact isR_q _ | exact isR_n) ?_
  refine V_iconst C (v := 2) dL_orders_1 (by decide) ?_
  refine V_gl C hP 0 2 (by decide) (by decide) rfl e02 dL_orders_2 ?_
  refine V_bipush C (v := nI 32) dL_orders_3 (by decide) ?_
  refine V_icmp_ne C (tgt := 10) dL_orders_5 (by decide) (fun h5 => ?_) (fun h5 => ?_)
  ·
    have h38 : cN σ 38 < 32 := Nat.lt_of_le_of_ne n38 fun z => h5 (congrArg nI z)
    have hi0 : lo x (cN σ 1) < cN σ 1 := lo_lt x h1
    refine V_iload C dL_orders_10 rfl ?_
    refine V_aload_n C dL_orders_12 rfl (by first | exact isR_r _ | exact isR_q _ | exact isR_n) ?_
    refine V_iconst C (v := 0) dL_orders_13 (by decide) ?_
    refine V_gl C hP 0 0 (by decide) (by decide) rfl e00 dL_orders_14 ?_
    refine V_fS C (c_low _ hl G _ _ (cN σ 1) h1 (by omega)) ks_L_145 ⟨by decide, by decide⟩ ⟨by decide, by decide⟩ rfl rfl (Nat.le_of_ble_eq_true rfl) dL_orders_15 ?_
    dsimp only [Option.toList_some, Option.toList_none, List.cons_append, List.nil_append]
    refine V_istore C dL_orders_18 (by decide) rfl ?_
    simp only [lset1, lset2, List.filter_cons, List.filter_nil, Nat.reduceBEq, Nat.reduceAdd, Bool.not_true, Bool.not_false, Bool.and_true, Bool.and_false, Bool.true_and, Bool.false_and, if_true, if_false, Bool.false_eq_true, reduceIte]
    obtain ⟨K9, k9t, k9f, k9c⟩ := pick (p := nI (lo (x >>> ((5 : Int32) &&& 31)) 4) ≤ 0) (1 + lo (x >>> ((7 : Int32) &&& 31)) 2) 0
    have k9b : K9 ≤ 2 := by
      have := lo_lt (x >>> ((7 : Int32) &&& 31)) (n := 2) (by decide)
      omega
    refine V_or (tgt9 := 46) (st9 := [.int (nI K9)]) ?_ (fun J46 => ?_)
    ·
      refine V_istore C dL_orders_46 (by decide) rfl ?_
      simp only [lset1, lset2, List.filter_cons, List.filter_nil, Nat.reduceBEq, Nat.reduceAdd, Bool.not_true, Bool.not_false, Bool.and_true, Bool.and_false, Bool.true_and, Bool.false_and, if_true, if_false, Bool.false_eq_true, reduceIte]
      refine V_aload_n C dL_orders_48 rfl (by first | exact isR_r _ | exact isR_q _ | exact isR_n) ?_
      refine V_iconst C (v := 4) dL_orders_49 (by decide) ?_
      refine V_gl C hP 0 4 (by decide) (by decide) rfl e04 dL_orders_50 ?_
      obtain ⟨F9, f9t, f9f, f9c⟩ := pick (p := nI (lo y 3) ≤ 0) (lo (y >>> ((2 : Int32) &&& 31)) 30) 0
      have f9b : F9 ≤ 29 := by
        have := lo_lt (y >>> ((2 : Int32) &&& 31)) (n := 30) (by decide)
        omega
      refine V_or (tgt9 := 73) (st9 := [.int (nI F9), .int (nI (cN σ 0))]) ?_ (fun J73 => ?_)
      ·
        refine V_iadd C dL_orders_73 ?_
        rw [nI_add]
        refine V_istore C dL_orders_74 (by decide) rfl ?_
        simp only [lset1, lset2, List.filter_cons, List.filter_nil, Nat.reduceBEq, Nat.reduceAdd, Bool.not_true, Bool.not_false, Bool.and_true, Bool.and_false, Bool.true_and, Bool.false_and, if_true, if_false, Bool.false_eq_true, reduceIte]
        refine V_iconst C (v := 1) dL_orders_76 (by decide) ?_
        refine V_iload C dL_orders_77 rfl ?_
        refine V_bipush C (v := 7) dL_orders_79 (by decide) ?_
        refine V_ishr C dL_orders_81 ?_
        obtain ⟨D9, d9t, d9f, d9c⟩ := pick (p := nI K9 = 0) 300 10
        refine V_or (tgt9 := 95) (st9 := [.int (nI D9), .int (y >>> ((7 : Int32) &&& 31)), .int 1]) ?_ (fun J95 => ?_)
        ·
          refine V_fS C (c_low _ hl G _ _ D9 (by omega) (by omega)) ks_L_145 ⟨by decide, by decide⟩ ⟨by decide, by decide⟩ rfl rfl (Nat.le_of_ble_eq_true rfl) dL_orders_95 ?_
          dsimp only [Option.toList_some, Option.toList_none, List.cons_append, List.nil_append]
          refine V_iadd C dL_orders_98 ?_
          rw [show (1 : Int32) + nI (lo (y >>> ((7 : Int32) &&& 31)) D9) = nI (1 + lo (y >>> ((7 : Int32) &&& 31)) D9) from nI_add 1 _]
          refine V_istore C dL_orders_99 (by decide) rfl ?_
          simp only [lset1, lset2, List.filter_cons, List.filter_nil, Nat.reduceBEq, Nat.reduceAdd, Bool.not_true, Bool.not_false, Bool.and_true, Bool.and_false, Bool.true_and, Bool.false_and, if_true, if_false, Bool.false_eq_true, reduceIte]
          have hd9 := lo_lt (y >>> ((7 : Int32) &&& 31)) (n := D9) (by omega)
          obtain ⟨ko, ko1, LO, N1, m1, m2, m3⟩ := LJ_order hW hL (x := lo x (cN σ 1)) (kd := K9) (A := cN σ 0 + F9) (D := 1 + lo (y >>> ((7 : Int32) &&& 31)) D9) hi0 k9b (by omega) (by omega) (by omega) (by omega) h38
          have KO := KW_order (a := nI (lo x (cN σ 1))) (b := nI K9) (c := nI (cN σ 0 + F9)) (d := nI (1 + lo (y >>> ((7 : Int32) &&& 31)) D9)) hW
          refine V_aload_n C dL_orders_101 rfl (by first | exact isR_r _ | exact isR_q _ | exact isR_n) ?_
          refine V_iload C dL_orders_102 rfl ?_
          refine V_iload C dL_orders_104 rfl ?_
          refine V_iload C dL_orders_106 rfl ?_
          refine V_iload C dL_orders_108 rfl ?_
          refine V_callH C (w_order _ hl G _ q a _ _ hP  (nI (lo x (cN σ 1))) (nI K9) (nI (cN σ 0 + F9)) (nI (1 + lo (y >>> ((7 : Int32) &&& 31)) D9))) kh_L_159 ⟨by decide, by decide⟩ ⟨by decide, by decide⟩ rfl rfl (Nat.le_of_ble_eq_true rfl) dL_orders_110 (fun v9 T9 h9 => ?_)
          obtain ⟨rfl, hP9⟩ := h9
          replace hP := hP9
          clear hP9
          dsimp only [Option.toList_some, Option.toList_none, List.cons_append, List.nil_append]
          rw [hR_0 ko, ko1]
          generalize (oOrder σ (nI (lo x (cN σ 1))) (nI K9) (nI (cN σ 0 + F9)) (nI (1 + lo (y >>> ((7 : Int32) &&& 31)) D9))).2 = σ1 at hP LO N1 m1 m2 m3 KO
          obtain ⟨W1, K1⟩ := KO
          refine V_istore C dL_orders_113 (by decide) rfl ?_
          simp only [lset1, lset2, List.filter_cons, List.filter_nil, Nat.reduceBEq, Nat.reduceAdd, Bool.not_true, Bool.not_false, Bool.and_true, Bool.and_false, Bool.true_and, Bool.false_and, if_true, if_false, Bool.false_eq_true, reduceIte]
          refine V_aload_n C dL_orders_115 rfl (by first | exact isR_r _ | exact isR_q _ | exact isR_n) ?_
          refine V_aload_n C dL_orders_116 rfl (by first | exact isR_r _ | exact isR_q _ | exact isR_n) ?_
          refine V_iconst C (v := 2) dL_orders_117 (by decide) ?_
          refine V_gl C hP 0 2 (by decide) (by decide) rfl e02 dL_orders_118 ?_
          refine V_iload C dL_orders_119 rfl ?_
          refine V_gs C hP 6 (cN σ 38) (by decide) (show (cN σ 38) < 32 by omega) rfl dL_orders_121 (fun T9 hP9 => ?_)
          replace hP := hP9
          refine V_aload_n C dL_orders_122 rfl (by first | exact isR_r _ | exact isR_q _ | exact isR_n) ?_
          refine V_iconst C (v := 2) dL_orders_123 (by decide) ?_
          refine V_aload_n C dL_orders_124 rfl (by first | exact isR_r _ | exact isR_q _ | exact isR_n) ?_
          refine V_iconst C (v := 2) dL_orders_125 (by decide) ?_
          refine V_gl C hP 0 2 (by decide) (by decide) rfl ((up2_n1 (by decide)).trans e02) dL_orders_126 ?_
          refine V_imul C dL_orders_127 ?_
          rw [show (2 : Int32) * nI (cN σ 38) = nI (2 * cN σ 38) from pk_mul 2 _]
          refine V_iload C dL_orders_128 rfl ?_
          refine V_gs C hP 7 (2 * cN σ 38) (by decide) (show (2 * cN σ 38) < 64 by omega) rfl dL_orders_130 (fun T9 hP9 => ?_)
          replace hP := hP9
          refine V_aload_n C dL_orders_131 rfl (by first | exact isR_r _ | exact isR_q _ | exact isR_n) ?_
          refine V_iconst C (v := 2) dL_orders_132 (by decide) ?_
          refine V_aload_n C dL_orders_133 rfl (by first | exact isR_r _ | exact isR_q _ | exact isR_n) ?_
          refine V_iconst C (v := 2) dL_orders_134 (by decide) ?_
          refine V_gl C hP 0 2 (by decide) (by decide) rfl ((up2_n1 (by decide)).trans ((up2_n1 (by decide)).trans e02)) dL_orders_135 ?_
          refine V_imul C dL_orders_136 ?_
          rw [show (2 : Int32) * nI (cN σ 38) = nI (2 * cN σ 38) from pk_mul 2 _]
          refine V_iconst C (v := 1) dL_orders_137 (by decide) ?_
          refine V_iadd C dL_orders_138 ?_
          rw [nI_1]
          refine V_iload C dL_orders_139 rfl ?_
          refine V_iload C dL_orders_141 rfl ?_
          refine V_iadd C dL_orders_143 ?_
          rw [nI_add]
          refine V_iconst C (v := 1) dL_orders_144 (by decide) ?_
          refine V_isub C dL_orders_145 ?_
          rw [show nI (cN σ 0 + F9 + (1 + lo (y >>> ((7 : Int32) &&& 31)) D9)) - 1 = nI (cN σ 0 + F9 + (1 + lo (y >>> ((7 : Int32) &&& 31)) D9) - 1) from pk_sub (a := cN σ 0 + F9 + (1 + lo (y >>> ((7 : Int32) &&& 31)) D9)) (b := 1) (by omega)]
          refine V_gs C hP 7 (2 * cN σ 38 + 1) (by decide) (show (2 * cN σ 38 + 1) < 64 by omega) rfl dL_orders_146 (fun T9 hP9 => ?_)
          replace hP := hP9
          refine V_aload_n C dL_orders_147 rfl (by first | exact isR_r _ | exact isR_q _ | exact isR_n) ?_
          refine V_iconst C (v := 2) dL_orders_148 (by decide) ?_
          refine V_dup2 C dL_orders_149 rfl rfl ?_
          refine V_gl C hP 0 2 (by decide) (by decide) rfl ((up2_n1 (by decide)).trans ((up2_n1 (by decide)).trans ((up2_n1 (by decide)).trans e02))) dL_orders_150 ?_
          refine V_iconst C (v := 1) dL_orders_151 (by decide) ?_
          refine V_iadd C dL_orders_152 ?_
          rw [nI_1]
          refine V_gs C hP 0 2 (by decide) (by decide) rfl dL_orders_153 (fun T9 hP9 => ?_)
          replace hP := hP9
          have LW : WP σ γ σ1 _ := WP_of hL LO (by rw [up2_n2 (by decide), up2_n1 (by decide), up2_n1 (by decide), up2_n1 (by decide)]) (by omega) (by rw [up2_n2 (by decide), up2_n1 (by decide), up2_n1 (by decide), up2_n1 (by decide)])
          have hi1 : lo x (cN σ 1) < cN σ1 1 := by rw [N1]; exact hi0
          refine V_iload C dL_orders_154 rfl ?_
          refine V_aload_n C dL_orders_156 rfl (by first | exact isR_r _ | exact isR_q _ | exact isR_n) ?_
          refine V_iconst C (v := 2) dL_orders_157 (by decide) ?_
          refine V_gl C hP 0 2 (by decide) (by decide) rfl up2_s dL_orders_158 ?_
          refine V_iconst C (v := 1) dL_orders_159 (by decide) ?_
          refine V_isub C dL_orders_160 ?_
          rw [nI_prv]
          refine V_icmp_ne C (tgt := 215) dL_orders_161 (by decide) (fun h161 => absurd h161 (fun z => z rfl)) (fun h161 => ?_)
          refine V_aload_n C dL_orders_164 rfl (by first | exact isR_r _ | exact isR_q _ | exact isR_n) ?_
          refine V_iload C dL_orders_165 rfl ?_
          refine V_iload C dL_orders_167 rfl ?_
          refine V_fH C (r_counts _ hl G _ q a _ _ hP  (lo x (cN σ 1)) hi1 (nI (cN σ 0 + F9)) ⟨nI_pos' (by omega), nI_le (b := 30000) (by omega) (by decide)⟩) kh_L_161 ⟨by decide, by decide⟩ ⟨by decide, by decide⟩ rfl rfl (Nat.le_of_ble_eq_true rfl) dL_orders_169 ?_
          dsimp only [Option.toList_some, Option.toList_none, List.cons_append, List.nil_append]
          rw [m1]
          refine V_iload C dL_orders_172 rfl ?_
          refine V_icmp_ne C (tgt := 215) dL_orders_174 (by decide) (fun h174 => absurd h174 (fun z => z rfl)) (fun h174 => ?_)
          refine V_aload_n C dL_orders_177 rfl (by first | exact isR_r _ | exact isR_q _ | exact isR_n) ?_
          refine V_iload C dL_orders_178 rfl ?_
          refine V_iload C dL_orders_180 rfl ?_
          refine V_iload C dL_orders_182 rfl ?_
          refine V_iadd C dL_orders_184 ?_
          rw [nI_add]
          refine V_iconst C (v := 1) dL_orders_185 (by decide) ?_
          refine V_isub C dL_orders_186 ?_
          rw [show nI (cN σ 0 + F9 + (1 + lo (y >>> ((7 : Int32) &&& 31)) D9)) - 1 = nI (cN σ 0 + F9 + (1 + lo (y >>> ((7 : Int32) &&& 31)) D9) - 1) from pk_sub (a := cN σ 0 + F9 + (1 + lo (y >>> ((7 : Int32) &&& 31)) D9)) (b := 1) (by omega)]
          refine V_fH C (r_counts _ hl G _ q a _ _ hP  (lo x (cN σ 1)) hi1 (nI (cN σ 0 + F9 + (1 + lo (y >>> ((7 : Int32) &&& 31)) D9) - 1)) ⟨nI_pos' (by omega), nI_le (b := 30000) (by omega) (by decide)⟩) kh_L_161 ⟨by decide, by decide⟩ ⟨by decide, by decide⟩ rfl rfl (Nat.le_of_ble_eq_true rfl) dL_orders_187 ?_
          dsimp only [Option.toList_some, Option.toList_none, List.cons_append, List.nil_append]
          rw [m2]
          refine V_iload C dL_orders_190 rfl ?_
          refine V_icmp_ne C (tgt := 215) dL_orders_192 (by decide) (fun h192 => absurd h192 (fun z => z rfl)) (fun h192 => ?_)
          refine V_aload_n C dL_orders_195 rfl (by first | exact isR_r _ | exact isR_q _ | exact isR_n) ?_
          refine V_iload C dL_orders_196 rfl ?_
          refine V_iload C dL_orders_198 rfl ?_
          refine V_iload C dL_orders_200 rfl ?_
          refine V_iadd C dL_orders_202 ?_
          rw [nI_add]
          refine V_fH C (r_counts _ hl G _ q a _ _ hP  (lo x (cN σ 1)) hi1 (nI (cN σ 0 + F9 + (1 + lo (y >>> ((7 : Int32) &&& 31)) D9))) ⟨nI_pos' (by omega), nI_le (b := 30000) (by omega) (by decide)⟩) kh_L_161 ⟨by decide, by decide⟩ ⟨by decide, by decide⟩ rfl rfl (Nat.le_of_ble_eq_true rfl) dL_orders_203 ?_
          dsimp only [Option.toList_some, Option.toList_none, List.cons_append, List.nil_append]
          refine V_iload C dL_orders_206 rfl ?_
          refine V_icmp_eq C (tgt := 215) dL_orders_208 (by decide) (fun h208 => absurd h208 (m3)) (fun h208 => ?_)
          refine V_iconst C (v := 1) dL_orders_211 (by decide) ?_
          refine V_goto C (tgt := 216) dL_orders_212 (by decide) ?_
          refine V_istore C dL_orders_216 (by decide) rfl ?_
          simp only [lset1, lset2, List.filter_cons, List.filter_nil, Nat.reduceBEq, Nat.reduceAdd, Bool.not_true, Bool.not_false, Bool.and_true, Bool.and_false, Bool.true_and, Bool.false_and, if_true, if_false, Bool.false_eq_true, reduceIte]
          have b6 := lo_lt (y >>> ((3 : Int32) &&& 31)) (n := 600) (by decide)
          refine V_iload C dL_orders_218 rfl ?_
          refine V_iconst C (v := 3) dL_orders_220 (by decide) ?_
          refine V_ishr C dL_orders_221 ?_
          refine V_sipush C (v := 600) dL_orders_222 (by decide) ?_
          refine V_fS C (c_low _ hl G _ _ 600 (by decide) (by decide)) ks_L_145 ⟨by decide, by decide⟩ ⟨by decide, by decide⟩ rfl rfl (Nat.le_of_ble_eq_true rfl) dL_orders_225 ?_
          dsimp only [Option.toList_some, Option.toList_none, List.cons_append, List.nil_append]
          refine V_istore C dL_orders_228 (by decide) rfl ?_
          simp only [lset1, lset2, List.filter_cons, List.filter_nil, Nat.reduceBEq, Nat.reduceAdd, Bool.not_true, Bool.not_false, Bool.and_true, Bool.and_false, Bool.true_and, Bool.false_and, if_true, if_false, Bool.false_eq_true, reduceIte]
          refine V_iconst C (v := (-1)) dL_orders_230 (by decide) ?_
          refine V_istore C dL_orders_231 (by decide) rfl ?_
          simp only [lset1, lset2, List.filter_cons, List.filter_nil, Nat.reduceBEq, Nat.reduceAdd, Bool.not_true, Bool.not_false, Bool.and_true, Bool.and_false, Bool.true_and, Bool.false_and, if_true, if_false, Bool.false_eq_true, reduceIte]
          refine V_iconst C (v := 0) dL_orders_233 (by decide) ?_
          refine V_istore C dL_orders_234 (by decide) rfl ?_
          simp only [lset1, lset2, List.filter_cons, List.filter_nil, Nat.reduceBEq, Nat.reduceAdd, Bool.not_true, Bool.not_false, Bool.and_true, Bool.and_false, Bool.true_and, Bool.false_and, if_true, if_false, Bool.false_eq_true, reduceIte]
          have f02 := LO.1.1.2.2.1
          have fO := LO.1.2.2.2.2
          have n38b := LO.1.2.1.2
          have L1 : ∀ t k, k + t = cN σ1 38 → V X G 15 (eQ X G (fun v T => v = some (.int 1) ∧ ∃ γ9 σ9, PW T q a γ9 σ9 ∧ WP σ γ σ9 γ9) (fun _ _ => False) 40 500) 8 60 236 [(14, false, .int (nI k)), (13, false, .int (flast (fun j => σ1.1 39 j = nI (lo x (cN σ 1)) ∧ (σ1.1 41 j ≤ nI (lo (y >>> ((3 : Int32) &&& 31)) 600) ∧ nI (lo (y >>> ((3 : Int32) &&& 31)) 600) ≤ σ1.1 42 j)) k)), (12, false, .int (nI (lo (y >>> ((3 : Int32) &&& 31)) 600))), (11, false, .int 1), (6, false, .int (nI (lo x (cN σ 1)))), (3, false, .ref (a 7)), (2, false, .ref (a 6)), (1, false, .ref (a 0)), (0, false, .ref q)] [] T9 := by
            intro t
            induction t with
            | zero =>
              intro k hk0
              refine V_iload C dL_orders_236 rfl ?_
              refine V_aload_n C dL_orders_238 rfl (by first | exact isR_r _ | exact isR_q _ | exact isR_n) ?_
              refine V_iconst C (v := 2) dL_orders_239 (by decide) ?_
              refine V_gl C hP 0 2 (by decide) (by decide) rfl f02 dL_orders_240 ?_
              refine V_igeN C (tgt := 292) (by omega) (by omega) dL_orders_241 (by decide) (fun h241 => ?_) (fun h241 => ?_)
              ·
                obtain rfl : k = cN σ1 38 := by omega
                refine V_iload C dL_orders_292 rfl ?_
                refine V_if_eq C (tgt := 314) dL_orders_294 (by decide) (fun h294 => absurd h294 (by decide)) (fun h294 => ?_)
                refine V_aload_n C dL_orders_297 rfl (by first | exact isR_r _ | exact isR_q _ | exact isR_n) ?_
                refine V_iload C dL_orders_298 rfl ?_
                refine V_iload C dL_orders_300 rfl ?_
                refine V_fH C (r_counts _ hl G _ q a _ _ hP  (lo x (cN σ 1)) hi1 (nI (lo (y >>> ((3 : Int32) &&& 31)) 600)) ⟨nI_pos' (by omega), nI_le (b := 30000) (by omega) (by decide)⟩) kh_L_161 ⟨by decide, by decide⟩ ⟨by decide, by decide⟩ rfl rfl (Nat.le_of_ble_eq_true rfl) dL_orders_302 ?_
                dsimp only [Option.toList_some, Option.toList_none, List.cons_append, List.nil_append]
                refine V_iload C dL_orders_305 rfl ?_
                refine V_icmp_ne C (tgt := 314) dL_orders_307 (by decide) (fun h307 => absurd h307 (fun z => z rfl)) (fun h307 => ?_)
                refine V_iconst C (v := 1) dL_orders_310 (by decide) ?_
                refine V_goto C (tgt := 315) dL_orders_311 (by decide) ?_
                refine V_zret C rfl (by first | omega | decide) (by first | omega | decide) dL_orders_315 ?_
                exact ⟨rfl, _, _, hP, LW⟩
              ·
                omega
            | succ t ih =>
              intro k hk0
              refine V_iload C dL_orders_236 rfl ?_
              refine V_aload_n C dL_orders_238 rfl (by first | exact isR_r _ | exact isR_q _ | exact isR_n) ?_
              refine V_iconst C (v := 2) dL_orders_239 (by decide) ?_
              refine V_gl C hP 0 2 (by decide) (by decide) rfl f02 dL_orders_240 ?_
              refine V_igeN C (tgt := 292) (by omega) (by omega) dL_orders_241 (by decide) (fun h241 => ?_) (fun h241 => ?_)
              ·
                omega
              ·
                have hk : k < cN σ1 38 := by omega
                obtain ⟨o1, o2, o3⟩ := fO k hk
                refine V_or (tgt9 := 284) (st9 := [.int (flast (fun j => σ1.1 39 j = nI (lo x (cN σ 1)) ∧ (σ1.1 41 j ≤ nI (lo (y >>> ((3 : Int32) &&& 31)) 600) ∧ nI (lo (y >>> ((3 : Int32) &&& 31)) 600) ≤ σ1.1 42 j)) (k + 1))]) ?_ (fun J284 => ?_)
                ·
                  refine V_istore C dL_orders_284 (by decide) rfl ?_
                  simp only [lset1, lset2, List.filter_cons, List.filter_nil, Nat.reduceBEq, Nat.reduceAdd, Bool.not_true, Bool.not_false, Bool.and_true, Bool.and_false, Bool.true_and, Bool.false_and, if_true, if_false, Bool.false_eq_true, reduceIte]
                  refine V_incN C dL_orders_286 rfl (by decide) rfl ?_
                  simp only [lset1, lset2, List.filter_cons, List.filter_nil, Nat.reduceBEq, Nat.reduceAdd, Bool.not_true, Bool.not_false, Bool.and_true, Bool.and_false, Bool.true_and, Bool.false_and, if_true, if_false, Bool.false_eq_true, reduceIte]
                  refine V_goto C (tgt := 236) dL_orders_289 (by decide) ?_
                  exact V_sub (by repeat first | exact trivial | refine ⟨rfl, ?_⟩) (ih (k + 1) (by omega))
                ·
                  refine V_aload_n C dL_orders_244 rfl (by first | exact isR_r _ | exact isR_q _ | exact isR_n) ?_
                  refine V_iload C dL_orders_245 rfl ?_
                  refine V_gl C hP 6 k (by decide) (show k < 32 by omega) rfl o1 dL_orders_247 ?_
                  refine V_iload C dL_orders_248 rfl ?_
                  refine V_icmp_ne C (tgt := 282) dL_orders_250 (by decide) (fun h250 => ?_) (fun h250 => ?_)
                  ·
                    refine V_iload C dL_orders_282 rfl ?_
                    rw [flast_f (fun z => h250 z.1)] at J284
                    exact J284
                  ·
                    refine V_aload_n C dL_orders_253 rfl (by first | exact isR_r _ | exact isR_q _ | exact isR_n) ?_
                    refine V_iconst C (v := 2) dL_orders_254 (by decide) ?_
                    refine V_iload C dL_orders_255 rfl ?_
                    refine V_imul C dL_orders_257 ?_
                    rw [show (2 : Int32) * nI k = nI (2 * k) from pk_mul 2 _]
                    refine V_gl C hP 7 (2 * k) (by decide) (show (2 * k) < 64 by omega) rfl o2 dL_orders_258 ?_
                    refine V_iload C dL_orders_259 rfl ?_
                    refine V_icmp_gt C (tgt := 282) dL_orders_261 (by decide) (fun h261 => ?_) (fun h261 => ?_)
                    ·
                      refine V_iload C dL_orders_282 rfl ?_
                      rw [flast_f (fun z => Int32.not_lt.mpr z.2.1 h261)] at J284
                      exact J284
                    ·
                      refine V_iload C dL_orders_264 rfl ?_
                      refine V_aload_n C dL_orders_266 rfl (by first | exact isR_r _ | exact isR_q _ | exact isR_n) ?_
                      refine V_iconst C (v := 2) dL_orders_267 (by decide) ?_
                      refine V_iload C dL_orders_268 rfl ?_
                      refine V_imul C dL_orders_270 ?_
                      rw [show (2 : Int32) * nI k = nI (2 * k) from pk_mul 2 _]
                      refine V_iconst C (v := 1) dL_orders_271 (by decide) ?_
                      refine V_iadd C dL_orders_272 ?_
                      rw [nI_1]
                      refine V_gl C hP 7 (2 * k + 1) (by decide) (show (2 * k + 1) < 64 by omega) rfl o3 dL_orders_273 ?_
                      refine V_icmp_gt C (tgt := 282) dL_orders_274 (by decide) (fun h274 => ?_) (fun h274 => ?_)
                      ·
                        refine V_iload C dL_orders_282 rfl ?_
                        rw [flast_f (fun z => Int32.not_lt.mpr z.2.2 h274)] at J284
                        exact J284
                      ·
                        refine V_iload C dL_orders_277 rfl ?_
                        refine V_goto C (tgt := 284) dL_orders_279 (by decide) ?_
                        rw [flast_t ⟨h250, Int32.not_lt.mp h261, Int32.not_lt.mp h274⟩] at J284
                        exact J284
          exact V_sub (by repeat first | exact trivial | refine ⟨rfl, ?_⟩) (L1 (cN σ1 38) 0 (by omega))
        ·
          refine V_iload C dL_orders_82 rfl ?_
          refine V_if_ne C (tgt := 93) dL_orders_84 (by decide) (fun h84 => ?_) (fun h84 => ?_)
          ·
            refine V_bipush C (v := 10) dL_orders_93 (by decide) ?_
            rw [show (10 : Int32) = nI D9 from (congrArg nI (d9f h84) : nI 10 = nI D9)]
            exact J95
          ·
            refine V_sipush C (v := 300) dL_orders_87 (by decide) ?_
            refine V_goto C (tgt := 95) dL_orders_90 (by decide) ?_
            rw [show (300 : Int32) = nI D9 from (congrArg nI (d9t h84) : nI 300 = nI D9)]
            exact J95
      ·
        refine V_iload C dL_orders_51 rfl ?_
        refine V_iconst C (v := 3) dL_orders_53 (by decide) ?_
        refine V_fS C (c_low _ hl G _ _ 3 (by decide) (by decide)) ks_L_145 ⟨by decide, by decide⟩ ⟨by decide, by decide⟩ rfl rfl (Nat.le_of_ble_eq_true rfl) dL_orders_54 ?_
        dsimp only [Option.toList_some, Option.toList_none, List.cons_append, List.nil_append]
        refine V_if_le C (tgt := 64) dL_orders_57 (by decide) (fun h57 => ?_) (fun h57 => ?_)
        ·
          refine V_iload C dL_orders_64 rfl ?_
          refine V_iconst C (v := 2) dL_orders_66 (by decide) ?_
          refine V_ishr C dL_orders_67 ?_
          refine V_bipush C (v := 30) dL_orders_68 (by decide) ?_
          refine V_fS C (c_low _ hl G _ _ 30 (by decide) (by decide)) ks_L_145 ⟨by decide, by decide⟩ ⟨by decide, by decide⟩ rfl rfl (Nat.le_of_ble_eq_true rfl) dL_orders_70 ?_
          dsimp only [Option.toList_some, Option.toList_none, List.cons_append, List.nil_append]
          rw [f9t h57]
          exact J73
        ·
          refine V_iconst C (v := 0) dL_orders_60 (by decide) ?_
          refine V_goto C (tgt := 73) dL_orders_61 (by decide) ?_
          rw [show (0 : Int32) = nI F9 from (congrArg nI (f9f h57) : nI 0 = nI F9)]
          exact J73
    ·
      refine V_iload C dL_orders_20 rfl ?_
      refine V_iconst C (v := 5) dL_orders_22 (by decide) ?_
      refine V_ishr C dL_orders_23 ?_
      refine V_iconst C (v := 4) dL_orders_24 (by decide) ?_
      refine V_fS C (c_low _ hl G _ _ 4 (by decide) (by decide)) ks_L_145 ⟨by decide, by decide⟩ ⟨by decide, by decide⟩ rfl rfl (Nat.le_of_ble_eq_true rfl) dL_orders_25 ?_
      dsimp only [Option.toList_some, Option.toList_none, List.cons_append, List.nil_append]
      refine V_if_le C (tgt := 35) dL_orders_28 (by decide) (fun h28 => ?_) (fun h28 => ?_)
      ·
        refine V_iconst C (v := 1) dL_orders_35 (by decide) ?_
        refine V_iload C dL_orders_36 rfl ?_
        refine V_bipush C (v := 7) dL_orders_38 (by decide) ?_
        refine V_ishr C dL_orders_40 ?_
        refine V_iconst C (v := 2) dL_orders_41 (by decide) ?_
        refine V_fS C (c_low _ hl G _ _ 2 (by decide) (by decide)) ks_L_145 ⟨by decide, by decide⟩ ⟨by decide, by decide⟩ rfl rfl (Nat.le_of_ble_eq_true rfl) dL_orders_42 ?_
        dsimp only [Option.toList_some, Option.toList_none, List.cons_append, List.nil_append]
        refine V_iadd C dL_orders_45 ?_
        rw [show (1 : Int32) + nI (lo (x >>> ((7 : Int32) &&& 31)) 2) = nI (1 + lo (x >>> ((7 : Int32) &&& 31)) 2) from nI_add 1 _]
        rw [k9t h28]
        exact J46
      ·
        refine V_iconst C (v := 0) dL_orders_31 (by decide) ?_
        refine V_goto C (tgt := 46) dL_orders_32 (by decide) ?_
        rw [show (0 : Int32) = nI K9 from (congrArg nI (k9f h28) : nI 0 = nI K9)]
        exact J46
  ·
    refine V_iconst C (v := 1) dL_orders_8 (by decide) ?_
    refine V_zret C rfl (by first | omega | decide) (by first | omega | decide) dL_orders_9 ?_
    exact ⟨rfl, γ, σ, hP, WP_of hL hL rfl (by omega) rfl⟩
