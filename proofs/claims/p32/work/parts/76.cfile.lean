/-! THE CLASS: file. -/
theorem c_X8_file (l : Launch) (hl : l.stackTraces = false) (G : gG) (S : sS) (ad : Nat → Nat → Nat) (σ : aS) (hC : RelC S ad σ) (hI : IC σ) (hS : IS σ) (k : Nat) (hk : k < cN σ 1) (w : Int32) (hw : 0 ≤ w) (hy : 18 ≤ mYears σ k (σ.2 0)) : CtF l G yX8_file cX8_file 9 (Option.some FieldType.int) 7 2 12 [.ref (ad 8 0), .int (nI k), .int w] S (some (.int (mFileF σ (nI k) (cN σ 43) w 0))) S := by
  refine Ct_of (by decide) (cat1_all (by repeat first | exact trivial | refine ⟨by first | rfl | exact isR_c (isR_q _), ?_⟩)) (Nat.le_of_ble_eq_true rfl) hl fun X C hXl hin => ?_
  subst hXl
  dsimp only [lArgs, Nat.reduceAdd]
  have kx : sK S (ad 8 0) = 9 := RelC_K hC 8 (by decide) rfl
  have rx_802 : sR S 802 (ad 8 0) = some (ad 17 0) := RelC_R hC 8 802 rfl (by unfold cFd; omega) rfl rfl
  have ix_808 : sI S 808 (ad 8 0) = σ.2 0 := RelC_I hC 8 808 rfl (by unfold cFd; omega) rfl rfl
  have kc : sK S (ad 0 k) = 1 := RelC_K hC 0 (by decide) hk
  have kq : sK S (ad 17 0) = 106 := hC.1 17 0 (by decide) (by decide) (by decide) rfl
  have lq : sL S (ad 17 0) = 100 := hC.2.2.2.2.1 17 0 (by decide) (by decide) rfl
  have aq := hC.2.2.2.2.2.2.2.2.1
  obtain ⟨n, hn⟩ : ∃ n, n = cN σ 43 := ⟨_, rfl⟩
  have hn100 : n ≤ 100 := by rw [hn]; exact hI.2.2.2.2.2.1.2
  rw [← hn] at aq
  rw [← hn]
  have loop : ∀ (t i : Nat) (left : Int32), i + t = 100 → mFileF σ (nI k) n w 0 = mFileF σ (nI k) (n - i) left i → V X G 9 (eQ X G (fun v T => v = some (.int (mFileF σ (nI k) n w 0)) ∧ T = S) (fun _ _ => False) 2 12) 1 6 62 [(7, false, .int (nI i)), (6, false, .int (nI 100)), (5, false, .ref (ad 17 0)), (4, false, .int left), (3, false, .ref (ad 0 k)), (0, false, .ref (ad 8 0)), (1, false, .int (nI k)), (2, false, .int w)] [] S := by
    intro t
    induction t with
    | zero =>
      intro i left hi e
      obtain rfl : i = 100 := by omega
      rw [show n - 100 = 0 by omega] at e
      refine V_iload C dX8_file_62 rfl ?_
      refine V_iload C dX8_file_64 rfl ?_
      refine V_igeN C (tgt := 132) (by omega) (by omega) dX8_file_66 (by decide) (fun h66 => ?_) (fun h66 => ?_)
      · refine V_iconst C (v := (-1)) dX8_file_132 (by decide) ?_
        refine V_iret C (by first | omega | decide) (by first | omega | decide) dX8_file_133 ?_
        rw [e]
        exact ⟨rfl, rfl⟩
      · omega
    | succ t ih =>
      intro i left hi e
      have hi100 : i < 100 := by omega
      by_cases hin9 : i < n
      · have e5 := (aq i hi100).trans (if_pos hin9)
        have hi1 : i < cN σ 43 := hn ▸ hin9
        obtain ⟨⟨z, hz, ez⟩, g, hg, eg⟩ := hS i hi1
        have hz16 : z < 16 := by have := hI.2.1.2; omega
        have hg10 : g < 10 := by have := hI.2.2.1.2; omega
        have ks : sK S (ad 6 i) = 7 := RelC_K hC 6 (by decide) hi1
        have rs_600 : sR S 600 (ad 6 i) = some (ad 0 (nx (σ.1 44 i))) := RelC_R hC 6 600 rfl (by unfold cFd; omega) rfl hi1
        have rs_601 : sR S 601 (ad 6 i) = some (ad 2 (nx (σ.1 45 i))) := RelC_R hC 6 601 rfl (by unfold cFd; omega) rfl hi1
        rw [ez, nx_nI (j := z) (by omega)] at rs_600
        rw [eg, nx_nI (j := g) (by omega)] at rs_601
        have kh : sK S (ad 2 g) = 3 := RelC_K hC 2 (by decide) hg
        have ih_200 : sI S 200 (ad 2 g) = nI g := RelC_I hC 2 200 rfl (by unfold cFd; omega) rfl hg
        have ih_208 : sI S 208 (ad 2 g) = σ.1 26 g := RelC_I hC 2 208 rfl (by unfold cFd; omega) rfl hg
        have key := ad_ch hC hI hk z hz
        have e1 : n - i = (n - (i + 1)) + 1 := by omega
        rw [e1] at e
        have e := e.trans mFileF_s
        rw [ez, eg, nx_nI (j := g) (by omega)] at e
        refine V_iload C dX8_file_62 rfl ?_
        refine V_iload C dX8_file_64 rfl ?_
        refine V_igeN C (tgt := 132) (by omega) (by omega) dX8_file_66 (by decide) (fun h66 => ?_) (fun h66 => ?_)
        · omega
        · refine V_aload C dX8_file_69 rfl (by first | exact isR_r _ | exact isR_q _ | exact isR_n) ?_
          refine V_iload C dX8_file_71 rfl ?_
          refine V_aaldE C 6 (by decide) kq (by decide) lq rfl hi100 (by decide) dX8_file_73 ?_
          rw [e5]
          refine V_astore C dX8_file_74 (by decide) (by first | exact isR_r _ | exact isR_q _ | exact isR_n) rfl ?_
          simp only [lset1, lset2, List.filter_cons, List.filter_nil, Nat.reduceBEq, Nat.reduceAdd, Bool.not_true, Bool.not_false, Bool.and_true, Bool.and_false, Bool.true_and, Bool.false_and, if_true, if_false, Bool.false_eq_true, reduceIte]
          refine V_aload C dX8_file_76 rfl (by first | exact isR_r _ | exact isR_q _ | exact isR_n) ?_
          dsimp only
          refine V_ifnull C (tgt := 126) dX8_file_78 (by decide) (fun h78 => ?_) (fun a78 h78 => ?_)
          · cases h78
          · cases h78
            refine V_aload C dX8_file_81 rfl (by first | exact isR_r _ | exact isR_q _ | exact isR_n) ?_
            refine V_getRe C 6 0 rfl cf_6 fl_X8_245 (by decide) (by decide) dX8_file_83 ks rs_600 ?_
            refine V_aload_n C dX8_file_86 rfl (by first | exact isR_r _ | exact isR_q _ | exact isR_n) ?_
            refine V_acmp_eq C (tgt := 93) (rx := some (ad 0 z)) (ry := some (ad 0 k)) dX8_file_87 (by decide) (fun h87 => ?_) (fun h87 => ?_)
            · have e := e.trans (if_pos (key.mp h87))
              refine V_iload C dX8_file_93 rfl ?_
              refine V_if_ne C (tgt := 123) dX8_file_95 (by decide) (fun h95 => ?_) (fun h95 => ?_)
              · have e := e.trans (if_neg h95)
                have L := ih (i + 1) (left + -1) (by omega) e
                refine V_iinc C dX8_file_123 rfl rfl (by decide) rfl ?_
                simp only [lset1, lset2, List.filter_cons, List.filter_nil, Nat.reduceBEq, Nat.reduceAdd, Bool.not_true, Bool.not_false, Bool.and_true, Bool.and_false, Bool.true_and, Bool.false_and, if_true, if_false, Bool.false_eq_true, reduceIte]
                refine V_incN C dX8_file_126 rfl (by decide) rfl ?_
                simp only [lset1, lset2, List.filter_cons, List.filter_nil, Nat.reduceBEq, Nat.reduceAdd, Bool.not_true, Bool.not_false, Bool.and_true, Bool.and_false, Bool.true_and, Bool.false_and, if_true, if_false, Bool.false_eq_true, reduceIte]
                refine V_goto C (tgt := 62) dX8_file_129 (by decide) ?_
                refine V_sub ?_ L
                exact ⟨rfl, rfl, rfl, rfl, rfl, rfl, rfl, rfl, trivial⟩
              · have e := e.trans (if_pos h95)
                refine V_aload C dX8_file_98 rfl (by first | exact isR_r _ | exact isR_q _ | exact isR_n) ?_
                refine V_getS C 6 1 rfl cf_6 fl_X8_218 (by decide) (by decide) dX8_file_100 ks rs_601 ?_
                refine V_getIe C 2 8 rfl cf_2 fl_X8_265 (by decide) (by decide) dX8_file_103 kh ih_208 ?_
                refine V_if_eq C (tgt := 114) dX8_file_106 (by decide) (fun h106 => ?_) (fun h106 => ?_)
                · have e := e.trans (if_pos h106)
                  refine V_aload C dX8_file_114 rfl (by first | exact isR_r _ | exact isR_q _ | exact isR_n) ?_
                  refine V_getS C 6 1 rfl cf_6 fl_X8_218 (by decide) (by decide) dX8_file_116 ks rs_601 ?_
                  refine V_getIe C 2 0 rfl cf_2 fl_X8_136 (by decide) (by decide) dX8_file_119 kh ih_200 ?_
                  refine V_iret C (by first | omega | decide) (by first | omega | decide) dX8_file_122 ?_
                  rw [e]
                  exact ⟨rfl, rfl⟩
                · have e := e.trans (if_neg h106)
                  refine V_bipush C (v := (-2)) dX8_file_109 (by decide) ?_
                  refine V_goto C (tgt := 122) dX8_file_111 (by decide) ?_
                  refine V_iret C (by first | omega | decide) (by first | omega | decide) dX8_file_122 ?_
                  rw [e]
                  exact ⟨rfl, rfl⟩
            · have e := e.trans (if_neg (fun q => h87 (key.mpr q)))
              have L := ih (i + 1) left (by omega) e
              refine V_goto C (tgt := 126) dX8_file_90 (by decide) ?_
              refine V_incN C dX8_file_126 rfl (by decide) rfl ?_
              simp only [lset1, lset2, List.filter_cons, List.filter_nil, Nat.reduceBEq, Nat.reduceAdd, Bool.not_true, Bool.not_false, Bool.and_true, Bool.and_false, Bool.true_and, Bool.false_and, if_true, if_false, Bool.false_eq_true, reduceIte]
              refine V_goto C (tgt := 62) dX8_file_129 (by decide) ?_
              refine V_sub ?_ L
              exact ⟨rfl, rfl, rfl, rfl, rfl, rfl, rfl, rfl, trivial⟩
      · have e5 := (aq i hi100).trans (if_neg hin9)
        have L := ih (i + 1) left (by omega) (by rw [e, show n - i = 0 by omega, show n - (i + 1) = 0 by omega]; rfl)
        refine V_iload C dX8_file_62 rfl ?_
        refine V_iload C dX8_file_64 rfl ?_
        refine V_igeN C (tgt := 132) (by omega) (by omega) dX8_file_66 (by decide) (fun h66 => ?_) (fun h66 => ?_)
        · omega
        · refine V_aload C dX8_file_69 rfl (by first | exact isR_r _ | exact isR_q _ | exact isR_n) ?_
          refine V_iload C dX8_file_71 rfl ?_
          refine V_aaldE C 6 (by decide) kq (by decide) lq rfl hi100 (by decide) dX8_file_73 ?_
          rw [e5]
          refine V_astore C dX8_file_74 (by decide) (by first | exact isR_r _ | exact isR_q _ | exact isR_n) rfl ?_
          simp only [lset1, lset2, List.filter_cons, List.filter_nil, Nat.reduceBEq, Nat.reduceAdd, Bool.not_true, Bool.not_false, Bool.and_true, Bool.and_false, Bool.true_and, Bool.false_and, if_true, if_false, Bool.false_eq_true, reduceIte]
          refine V_aload C dX8_file_76 rfl (by first | exact isR_r _ | exact isR_q _ | exact isR_n) ?_
          dsimp only
          refine V_ifnull C (tgt := 126) dX8_file_78 (by decide) (fun h78 => ?_) (fun a78 h78 => ?_)
          · refine V_incN C dX8_file_126 rfl (by decide) rfl ?_
            simp only [lset1, lset2, List.filter_cons, List.filter_nil, Nat.reduceBEq, Nat.reduceAdd, Bool.not_true, Bool.not_false, Bool.and_true, Bool.and_false, Bool.true_and, Bool.false_and, if_true, if_false, Bool.false_eq_true, reduceIte]
            refine V_goto C (tgt := 62) dX8_file_129 (by decide) ?_
            refine V_sub ?_ L
            exact ⟨rfl, rfl, rfl, rfl, rfl, rfl, rfl, rfl, trivial⟩
          · cases h78
  have L := loop 100 0 w (by omega) rfl
  refine V_aload_n C dX8_file_0 rfl (by first | exact isR_r _ | exact isR_q _ | exact isR_n) ?_
  refine V_iload_n C dX8_file_1 rfl ?_
  refine V_fV C (c_X8_childAt _ hl G S ad σ hC hI.2.1.2 k hk) kv_X8_90 cf_8 (by decide) rfl kx (by decide) (by decide) rfl rfl (Nat.le_of_ble_eq_true rfl) dX8_file_2 ?_
  dsimp only [Option.toList_some, Option.toList_none, List.cons_append, List.nil_append]
  refine V_astore_n C dX8_file_5 (by decide) (by first | exact isR_r _ | exact isR_q _ | exact isR_n) rfl ?_
  simp only [lset1, lset2, List.filter_cons, List.filter_nil, Nat.reduceBEq, Nat.reduceAdd, Bool.not_true, Bool.not_false, Bool.and_true, Bool.and_false, Bool.true_and, Bool.false_and, if_true, if_false, Bool.false_eq_true, reduceIte]
  refine V_iload_n C dX8_file_6 rfl ?_
  refine V_if_ge C (tgt := 21) dX8_file_7 (by decide) (fun h7 => ?_) (fun h7 => ?_)
  · refine V_aload_n C dX8_file_21 rfl (by first | exact isR_r _ | exact isR_q _ | exact isR_n) ?_
    refine V_aload_n C dX8_file_22 rfl (by first | exact isR_r _ | exact isR_q _ | exact isR_n) ?_
    refine V_getIe C 8 8 rfl cf_8 fl_X8_53 (by decide) (by decide) dX8_file_23 kx ix_808 ?_
    refine V_fV C (c_X0_years _ hl G S ad σ hC k hk _) kv_X8_222 cf_0 (by decide) rfl kc (by decide) (by decide) rfl rfl (Nat.le_of_ble_eq_true rfl) dX8_file_26 ?_
    dsimp only [Option.toList_some, Option.toList_none, List.cons_append, List.nil_append]
    refine V_bipush C (v := 18) dX8_file_29 (by decide) ?_
    refine V_icmp_ge C (tgt := 45) dX8_file_31 (by decide) (fun h31 => ?_) (fun h31 => ?_)
    · refine V_iload_n C dX8_file_45 rfl ?_
      refine V_istore C dX8_file_46 (by decide) rfl ?_
      simp only [lset1, lset2, List.filter_cons, List.filter_nil, Nat.reduceBEq, Nat.reduceAdd, Bool.not_true, Bool.not_false, Bool.and_true, Bool.and_false, Bool.true_and, Bool.false_and, if_true, if_false, Bool.false_eq_true, reduceIte]
      refine V_aload_n C dX8_file_48 rfl (by first | exact isR_r _ | exact isR_q _ | exact isR_n) ?_
      refine V_getS C 8 2 rfl cf_8 fl_X8_23 (by decide) (by decide) dX8_file_49 kx rx_802 ?_
      refine V_astore C dX8_file_52 (by decide) (by first | exact isR_r _ | exact isR_q _ | exact isR_n) rfl ?_
      simp only [lset1, lset2, List.filter_cons, List.filter_nil, Nat.reduceBEq, Nat.reduceAdd, Bool.not_true, Bool.not_false, Bool.and_true, Bool.and_false, Bool.true_and, Bool.false_and, if_true, if_false, Bool.false_eq_true, reduceIte]
      refine V_aload C dX8_file_54 rfl (by first | exact isR_r _ | exact isR_q _ | exact isR_n) ?_
      refine V_alen C (v := nI 100) kq (by decide) (by rw [lq]; rfl) dX8_file_56 ?_
      refine V_istore C dX8_file_57 (by decide) rfl ?_
      simp only [lset1, lset2, List.filter_cons, List.filter_nil, Nat.reduceBEq, Nat.reduceAdd, Bool.not_true, Bool.not_false, Bool.and_true, Bool.and_false, Bool.true_and, Bool.false_and, if_true, if_false, Bool.false_eq_true, reduceIte]
      refine V_iconst C (v := 0) dX8_file_59 (by decide) ?_
      refine V_istore C dX8_file_60 (by decide) rfl ?_
      simp only [lset1, lset2, List.filter_cons, List.filter_nil, Nat.reduceBEq, Nat.reduceAdd, Bool.not_true, Bool.not_false, Bool.and_true, Bool.and_false, Bool.true_and, Bool.false_and, if_true, if_false, Bool.false_eq_true, reduceIte]
      refine V_sub ?_ L
      exact ⟨rfl, rfl, rfl, rfl, rfl, rfl, rfl, rfl, trivial⟩
    · exact absurd hy h31
  · exact absurd hw h7

