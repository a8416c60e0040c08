/-! THE CLASS: planFor. -/
theorem cw_o {σ : aS} {kin : Int32} {f : Nat} (hf : f ≠ 50) : ∀ j, (cw σ kin j).2 f = σ.1 f
  | 0 => rfl
  | j + 1 => by
    by_cases h : cwP σ kin (cw σ kin j) j
    · by_cases h5 : (cw σ kin j).1 < 5
      · rw [cw_t h h5]; exact (up2_f hf).trans (cw_o hf j)
      · rw [cw_5 h h5]; exact cw_o hf j
    · rw [cw_f h]; exact cw_o hf j
theorem cw_m {σ : aS} {kin : Int32} {j : Nat} : ∀ t, (cw σ kin j).1 ≤ (cw σ kin (j + t)).1
  | 0 => Nat.le_refl _
  | t + 1 => by
    have ih := cw_m (σ := σ) (kin := kin) (j := j) t
    refine Nat.le_trans ih ?_
    show _ ≤ (cw σ kin (j + t + 1)).1
    by_cases h : cwP σ kin (cw σ kin (j + t)) (j + t)
    · by_cases h5 : (cw σ kin (j + t)).1 < 5
      · rw [cw_t h h5]; exact Nat.le_succ _
      · rw [cw_5 h h5]; exact Nat.le_succ _
    · rw [cw_f h]; exact Nat.le_refl _
theorem cwP_iff {σ : aS} {kin : Int32} {j : Nat} : cwP σ kin (cw σ kin j) j ↔ σ.1 5 j = kin ∧ σ.1 10 j = -1 ∧ mKindOn σ (nI j) (σ.2 0) = 0 := by
  unfold cwP
  rw [cw_o (by decide) j, cw_o (by decide) j, mKindOn_congr (σ := σ) (σ' := ((cw σ kin j).2, σ.2)) (cw_o (by decide) j) (cw_o (by decide) j) (cw_o (by decide) j) (cw_o (by decide) j) rfl]
theorem c_X8_planFor (l : Launch) (hl : l.stackTraces = false) (G : gG) (S : sS) (ad : Nat → Nat → Nat) (σ : aS) (hC : RelC S ad σ) (hI : IC σ) (hS : IS σ) (hO : IO σ) (hP : IP σ) (kin : Int32) : Ct l G yX8_planFor cX8_planFor 6 none 7 1 6 [.ref (ad 8 0), .int kin] S (fun v T => v = none ∧ (cw σ kin (cN σ 1)).1 ≤ 5 ∧ FrP S T ∧ (∀ h, h < cN σ 20 → sA T (ad 25 0) h = σ.1 23 h - mOthers σ (-1) (nI h)) ∧ sI T 407 (ad 4 0) = nI (cw σ kin (cN σ 1)).1 ∧ sI T 408 (ad 4 0) = nI (2 ^ (cw σ kin (cN σ 1)).1) ∧ (∀ r, r < (cw σ kin (cN σ 1)).1 → ∃ c, c < cN σ 1 ∧ (cw σ kin (cN σ 1)).2 50 r = nI c ∧ sQ T (ad 21 0) r = some (ad 0 c) ∧ ∀ h, h < 10 → sA T (ad 24 r) h = rowV σ c h)) (fun E T => E = "java/lang/IllegalStateException" ∧ 5 < (cw σ kin (cN σ 1)).1 ∧ FrP S T) := by
  refine Ct_of (by decide) (cat1_all (by repeat first | exact trivial | refine ⟨by first | rfl | exact isR_c (isR_q _), ?_⟩)) (Nat.le_of_ble_eq_true rfl) hl fun X C hXl hin => ?_
  subst hXl
  dsimp only [lArgs, Nat.reduceAdd]
  have kx : sK S (ad 8 0) = 9 := RelC_K hC 8 (by decide) rfl
  have rx_803 : sR S 803 (ad 8 0) = some (ad 4 0) := RelC_R hC 8 803 rfl (by unfold cFd; omega) rfl rfl
  have rx_801 : sR S 801 (ad 8 0) = some (ad 16 0) := RelC_R hC 8 801 rfl (by unfold cFd; omega) rfl rfl
  have kp : sK S (ad 4 0) = 5 := RelC_K hC 4 (by decide) rfl
  obtain ⟨n, hn⟩ : ∃ n, n = cN σ 20 := ⟨_, rfl⟩
  have hn10 : n ≤ 10 := by rw [hn]; exact hI.2.2.1.2
  obtain ⟨N, hN⟩ : ∃ N, N = cN σ 1 := ⟨_, rfl⟩
  have hN16 : N ≤ 16 := by rw [hN]; exact hI.2.1.2
  have kids : ∀ (t j : Nat) (T : sS), j + t = 16 → (cw σ kin (min j N)).1 ≤ 5 → (FrP S T ∧ (∀ h, h < cN σ 20 → sA T (ad 25 0) h = σ.1 23 h - mOthers σ (-1) (nI h)) ∧ sI T 407 (ad 4 0) = nI (cw σ kin (min j N)).1 ∧ sI T 408 (ad 4 0) = nI (2 ^ (cw σ kin (min j N)).1) ∧ (∀ r, r < (cw σ kin (min j N)).1 → ∃ c, c < min j N ∧ (cw σ kin (min j N)).2 50 r = nI c ∧ sQ T (ad 21 0) r = some (ad 0 c) ∧ ∀ h, h < 10 → sA T (ad 24 r) h = rowV σ c h)) → V X G 6 (eQ X G (fun v T => v = none ∧ (cw σ kin (cN σ 1)).1 ≤ 5 ∧ FrP S T ∧ (∀ h, h < cN σ 20 → sA T (ad 25 0) h = σ.1 23 h - mOthers σ (-1) (nI h)) ∧ sI T 407 (ad 4 0) = nI (cw σ kin (cN σ 1)).1 ∧ sI T 408 (ad 4 0) = nI (2 ^ (cw σ kin (cN σ 1)).1) ∧ (∀ r, r < (cw σ kin (cN σ 1)).1 → ∃ c, c < cN σ 1 ∧ (cw σ kin (cN σ 1)).2 50 r = nI c ∧ sQ T (ad 21 0) r = some (ad 0 c) ∧ ∀ h, h < 10 → sA T (ad 24 r) h = rowV σ c h)) (fun E T => E = "java/lang/IllegalStateException" ∧ 5 < (cw σ kin (cN σ 1)).1 ∧ FrP S T) 1 6) 0 0 77 [(4, false, .int (nI j)), (3, false, .int (nI 16)), (2, false, .ref (ad 15 0)), (0, false, .ref (ad 8 0)), (1, false, .int kin)] [] T := by
    intro t
    induction t with
    | zero =>
      intro j T hj h5 hT
      obtain rfl : j = 16 := by omega
      rw [Nat.min_eq_right hN16, hN] at hT h5
      refine V_iload C dX8_planFor_77 rfl ?_
      refine V_iload_n C dX8_planFor_79 rfl ?_
      refine V_igeN C (tgt := 135) (by omega) (by omega) dX8_planFor_80 (by decide) (fun h80 => ?_) (fun h80 => ?_)
      · refine V_vret C (by first | omega | decide) (by first | omega | decide) dX8_planFor_135 ?_
        exact ⟨rfl, h5, hT⟩
      · omega
    | succ t ih =>
      intro j T hj h5 hT
      have hj16 : j < 16 := by omega
      obtain ⟨f, t1, t2, t3, t4⟩ := hT
      have hR : RelC T ad σ := RelC_P hC f
      have kX : sK T (ad 8 0) = 9 := RelC_K hR 8 (by decide) rfl
      have iX : sI T 808 (ad 8 0) = σ.2 0 := RelC_I hR 8 808 rfl (by unfold cFd; omega) rfl rfl
      have kq : sK T (ad 15 0) = 104 := RelC_kd hR 15 (by decide) rfl rfl
      have lq : sL T (ad 15 0) = 16 := RelC_ln hR 15 (by decide) rfl rfl
      have aq := hR.2.2.2.2.2.2.1 j hj16
      rw [← hN] at aq
      by_cases hjN : j < N
      · rw [if_pos hjN] at aq
        have hj1 : j < cN σ 1 := hN ▸ hjN
        have kc : sK T (ad 0 j) = 1 := RelC_K hR 0 (by decide) hj1
        have ic3 : sI T 3 (ad 0 j) = σ.1 5 j := RelC_I hR 0 3 rfl (by unfold cFd; omega) rfl hj1
        have rc : sR T 11 (ad 0 j) = (if σ.1 10 j = -1 then none else some (ad 6 (nx (σ.1 10 j)))) := RelC_R hR 0 11 rfl (by unfold cFd; omega) rfl hj1
        rw [Nat.min_eq_left (by omega : j ≤ N)] at h5 t2 t3 t4
        have ihj := ih (j + 1)
        rw [Nat.min_eq_left (by omega : j + 1 ≤ N)] at ihj
        by_cases q : cwP σ kin (cw σ kin j) j
        · obtain ⟨q1, q2, q3⟩ := cwP_iff.mp q
          rw [if_pos q2] at rc
          by_cases h6 : (cw σ kin j).1 < 5
          · rw [cw_t q h6] at ihj
            have D24 : ∀ r r', r < 5 → r' < 5 → ad 24 r = ad 24 r' → r = r' := fun r r' a b e => hC.2.1 24 r r' (by decide) (by decide) (by decide) a b e
            have n25 : ∀ r, r < 5 → ad 25 0 ≠ ad 24 r := fun r hr e => by
              have a : sK S (ad 25 0) = 171 := RelC_kd hC 25 (by decide) rfl rfl
              have b : sK S (ad 24 r) = 161 := RelC_kd hC 24 (by decide) hr rfl
              rw [e, b] at a; exact absurd a (by decide)
            refine V_iload C dX8_planFor_77 rfl ?_
            refine V_iload_n C dX8_planFor_79 rfl ?_
            refine V_igeN C (tgt := 135) (by omega) (by omega) dX8_planFor_80 (by decide) (fun h80 => ?_) (fun h80 => ?_)
            · omega
            · refine V_aload_n C dX8_planFor_83 rfl (by first | exact isR_r _ | exact isR_q _ | exact isR_n) ?_
              refine V_iload C dX8_planFor_84 rfl ?_
              refine V_aaldE C 4 (by decide) kq (by decide) lq rfl hj16 (by decide) dX8_planFor_86 ?_
              rw [aq]
              refine V_astore C dX8_planFor_87 (by decide) (by first | exact isR_r _ | exact isR_q _ | exact isR_n) rfl ?_
              simp only [lset1, lset2, List.filter_cons, List.filter_nil, Nat.reduceBEq, Nat.reduceAdd, Bool.not_true, Bool.not_false, Bool.and_true, Bool.and_false, Bool.true_and, Bool.false_and, if_true, if_false, Bool.false_eq_true, reduceIte]
              refine V_aload C dX8_planFor_89 rfl (by first | exact isR_r _ | exact isR_q _ | exact isR_n) ?_
              dsimp only
              refine V_ifnull C (tgt := 129) dX8_planFor_91 (by decide) (fun h91 => ?_) (fun a91 h91 => ?_)
              · cases h91
              · cases h91
                refine V_aload C dX8_planFor_94 rfl (by first | exact isR_r _ | exact isR_q _ | exact isR_n) ?_
                refine V_getIe C 0 3 rfl cf_0 fl_X8_338 (by decide) (by decide) dX8_planFor_96 kc ic3 ?_
                refine V_iload_n C dX8_planFor_99 rfl ?_
                refine V_icmp_ne C (tgt := 129) dX8_planFor_100 (by decide) (fun h100 => ?_) (fun h100 => ?_)
                · exact absurd q1 h100
                · refine V_aload C dX8_planFor_103 rfl (by first | exact isR_r _ | exact isR_q _ | exact isR_n) ?_
                  refine V_getRe C 0 11 rfl cf_0 fl_X8_186 (by decide) (by decide) dX8_planFor_105 kc rc ?_
                  refine V_ifnonnull C (tgt := 129) dX8_planFor_108 (by decide) (fun a108 h108 => ?_) (fun h108 => ?_)
                  · cases h108
                  · refine V_aload C dX8_planFor_111 rfl (by first | exact isR_r _ | exact isR_q _ | exact isR_n) ?_
                    refine V_aload_n C dX8_planFor_113 rfl (by first | exact isR_r _ | exact isR_q _ | exact isR_n) ?_
                    refine V_getIe C 8 8 rfl cf_8 fl_X8_53 (by decide) (by decide) dX8_planFor_114 kX iX ?_
                    refine V_fV C (c_X0_orderKindOn _ hl G T ad σ hR j hj1 hO hI.2.2.2.2.1.2 _) kv_X8_285 cf_0 (by decide) rfl kc (by decide) (by decide) rfl rfl (Nat.le_of_ble_eq_true rfl) dX8_planFor_117 ?_
                    dsimp only [Option.toList_some, Option.toList_none, List.cons_append, List.nil_append]
                    refine V_if_ne C (tgt := 129) dX8_planFor_120 (by decide) (fun h120 => ?_) (fun h120 => ?_)
                    · exact absurd q3 h120
                    · refine V_aload_n C dX8_planFor_123 rfl (by first | exact isR_r _ | exact isR_q _ | exact isR_n) ?_
                      refine V_aload C dX8_planFor_124 rfl (by first | exact isR_r _ | exact isR_q _ | exact isR_n) ?_
                      refine V_callV C (c_X8_planChild _ hl G T ad σ hR hI hS hO hP (cw σ kin j).1 h6 t2 t3 j hj1) kv_X8_359 cf_8 (by decide) rfl kX (by decide) (by decide) rfl rfl (Nat.le_of_ble_eq_true rfl) dX8_planFor_126 ?_ (fun _ _ h => h.elim)
                      intro w1 T1 hT1
                      obtain ⟨rfl, f1, u1, u2, u3, u4, u5⟩ := hT1
                      dsimp only [Option.toList_some, Option.toList_none, List.cons_append, List.nil_append]
                      have L := ihj T1 (by omega) h6 ⟨FrP_tr f f1, fun h hh => by rw [u3 _ (n25 _ h6)]; exact t1 h hh, u4, u5, fun r hr => by
                          have hr : r < (cw σ kin j).1 + 1 := hr
                          by_cases e : r = (cw σ kin j).1
                          · subst e
                            exact ⟨j, Nat.lt_succ_self j, up2_s, by rw [u1, up1_s], u2⟩
                          · obtain ⟨c, c1, c2, c3, c4⟩ := t4 r (by omega)
                            exact ⟨c, by omega, (up2_n2 e).trans c2, by rw [u1, up1_n e]; exact c3, fun h hh => by rw [u3 _ fun y => e (D24 r _ (by omega) h6 y)]; exact c4 h hh⟩⟩
                      refine V_incN C dX8_planFor_129 rfl (by decide) rfl ?_
                      simp only [lset1, lset2, List.filter_cons, List.filter_nil, Nat.reduceBEq, Nat.reduceAdd, Bool.not_true, Bool.not_false, Bool.and_true, Bool.and_false, Bool.true_and, Bool.false_and, if_true, if_false, Bool.false_eq_true, reduceIte]
                      refine V_goto C (tgt := 77) dX8_planFor_132 (by decide) ?_
                      refine V_sub ?_ L
                      exact ⟨rfl, rfl, rfl, rfl, rfl, trivial⟩
          · have e5 : (cw σ kin j).1 = 5 := by omega
            rw [e5] at t2
            have big : 5 < (cw σ kin (cN σ 1)).1 := by
              have a := cw_m (σ := σ) (kin := kin) (j := j + 1) (cN σ 1 - (j + 1))
              rw [cw_5 q h6, show j + 1 + (cN σ 1 - (j + 1)) = cN σ 1 by omega] at a
              have a : (cw σ kin j).1 + 1 ≤ (cw σ kin (cN σ 1)).1 := a
              omega
            refine V_iload C dX8_planFor_77 rfl ?_
            refine V_iload_n C dX8_planFor_79 rfl ?_
            refine V_igeN C (tgt := 135) (by omega) (by omega) dX8_planFor_80 (by decide) (fun h80 => ?_) (fun h80 => ?_)
            · omega
            · refine V_aload_n C dX8_planFor_83 rfl (by first | exact isR_r _ | exact isR_q _ | exact isR_n) ?_
              refine V_iload C dX8_planFor_84 rfl ?_
              refine V_aaldE C 4 (by decide) kq (by decide) lq rfl hj16 (by decide) dX8_planFor_86 ?_
              rw [aq]
              refine V_astore C dX8_planFor_87 (by decide) (by first | exact isR_r _ | exact isR_q _ | exact isR_n) rfl ?_
              simp only [lset1, lset2, List.filter_cons, List.filter_nil, Nat.reduceBEq, Nat.reduceAdd, Bool.not_true, Bool.not_false, Bool.and_true, Bool.and_false, Bool.true_and, Bool.false_and, if_true, if_false, Bool.false_eq_true, reduceIte]
              refine V_aload C dX8_planFor_89 rfl (by first | exact isR_r _ | exact isR_q _ | exact isR_n) ?_
              dsimp only
              refine V_ifnull C (tgt := 129) dX8_planFor_91 (by decide) (fun h91 => ?_) (fun a91 h91 => ?_)
              · cases h91
              · cases h91
                refine V_aload C dX8_planFor_94 rfl (by first | exact isR_r _ | exact isR_q _ | exact isR_n) ?_
                refine V_getIe C 0 3 rfl cf_0 fl_X8_338 (by decide) (by decide) dX8_planFor_96 kc ic3 ?_
                refine V_iload_n C dX8_planFor_99 rfl ?_
                refine V_icmp_ne C (tgt := 129) dX8_planFor_100 (by decide) (fun h100 => ?_) (fun h100 => ?_)
                · exact absurd q1 h100
                · refine V_aload C dX8_planFor_103 rfl (by first | exact isR_r _ | exact isR_q _ | exact isR_n) ?_
                  refine V_getRe C 0 11 rfl cf_0 fl_X8_186 (by decide) (by decide) dX8_planFor_105 kc rc ?_
                  refine V_ifnonnull C (tgt := 129) dX8_planFor_108 (by decide) (fun a108 h108 => ?_) (fun h108 => ?_)
                  · cases h108
                  · refine V_aload C dX8_planFor_111 rfl (by first | exact isR_r _ | exact isR_q _ | exact isR_n) ?_
                    refine V_aload_n C dX8_planFor_113 rfl (by first | exact isR_r _ | exact isR_q _ | exact isR_n) ?_
                    refine V_getIe C 8 8 rfl cf_8 fl_X8_53 (by decide) (by decide) dX8_planFor_114 kX iX ?_
                    refine V_fV C (c_X0_orderKindOn _ hl G T ad σ hR j hj1 hO hI.2.2.2.2.1.2 _) kv_X8_285 cf_0 (by decide) rfl kc (by decide) (by decide) rfl rfl (Nat.le_of_ble_eq_true rfl) dX8_planFor_117 ?_
                    dsimp only [Option.toList_some, Option.toList_none, List.cons_append, List.nil_append]
                    refine V_if_ne C (tgt := 129) dX8_planFor_120 (by decide) (fun h120 => ?_) (fun h120 => ?_)
                    · exact absurd q3 h120
                    · refine V_aload_n C dX8_planFor_123 rfl (by first | exact isR_r _ | exact isR_q _ | exact isR_n) ?_
                      refine V_aload C dX8_planFor_124 rfl (by first | exact isR_r _ | exact isR_q _ | exact isR_n) ?_
                      refine V_xV C (c_X8_planChildX _ hl G T ad σ hR t2 j) kv_X8_359 cf_8 (by decide) rfl kX (by decide) (by decide) rfl rfl (Nat.le_of_ble_eq_true rfl) dX8_planFor_126 (by first | omega | decide) (by first | omega | decide) ?_
                      exact ⟨rfl, big, f⟩
        · rw [cw_f q] at ihj
          have L := ihj T (by omega) h5 ⟨f, t1, t2, t3, fun r hr => by
            obtain ⟨c, c1, c2⟩ := t4 r hr
            exact ⟨c, by omega, c2⟩⟩
          have nq : ¬ (σ.1 5 j = kin ∧ σ.1 10 j = -1 ∧ mKindOn σ (nI j) (σ.2 0) = 0) := fun z => q (cwP_iff.mpr z)
          by_cases q2 : σ.1 10 j = -1
          · rw [if_pos q2] at rc
            refine V_iload C dX8_planFor_77 rfl ?_
            refine V_iload_n C dX8_planFor_79 rfl ?_
            refine V_igeN C (tgt := 135) (by omega) (by omega) dX8_planFor_80 (by decide) (fun h80 => ?_) (fun h80 => ?_)
            · omega
            · refine V_aload_n C dX8_planFor_83 rfl (by first | exact isR_r _ | exact isR_q _ | exact isR_n) ?_
              refine V_iload C dX8_planFor_84 rfl ?_
              refine V_aaldE C 4 (by decide) kq (by decide) lq rfl hj16 (by decide) dX8_planFor_86 ?_
              rw [aq]
              refine V_astore C dX8_planFor_87 (by decide) (by first | exact isR_r _ | exact isR_q _ | exact isR_n) rfl ?_
              simp only [lset1, lset2, List.filter_cons, List.filter_nil, Nat.reduceBEq, Nat.reduceAdd, Bool.not_true, Bool.not_false, Bool.and_true, Bool.and_false, Bool.true_and, Bool.false_and, if_true, if_false, Bool.false_eq_true, reduceIte]
              refine V_aload C dX8_planFor_89 rfl (by first | exact isR_r _ | exact isR_q _ | exact isR_n) ?_
              dsimp only
              refine V_ifnull C (tgt := 129) dX8_planFor_91 (by decide) (fun h91 => ?_) (fun a91 h91 => ?_)
              · cases h91
              · cases h91
                refine V_aload C dX8_planFor_94 rfl (by first | exact isR_r _ | exact isR_q _ | exact isR_n) ?_
                refine V_getIe C 0 3 rfl cf_0 fl_X8_338 (by decide) (by decide) dX8_planFor_96 kc ic3 ?_
                refine V_iload_n C dX8_planFor_99 rfl ?_
                refine V_icmp_ne C (tgt := 129) dX8_planFor_100 (by decide) (fun h100 => ?_) (fun h100 => ?_)
                · refine V_incN C dX8_planFor_129 rfl (by decide) rfl ?_
                  simp only [lset1, lset2, List.filter_cons, List.filter_nil, Nat.reduceBEq, Nat.reduceAdd, Bool.not_true, Bool.not_false, Bool.and_true, Bool.and_false, Bool.true_and, Bool.false_and, if_true, if_false, Bool.false_eq_true, reduceIte]
                  refine V_goto C (tgt := 77) dX8_planFor_132 (by decide) ?_
                  refine V_sub ?_ L
                  exact ⟨rfl, rfl, rfl, rfl, rfl, trivial⟩
                · refine V_aload C dX8_planFor_103 rfl (by first | exact isR_r _ | exact isR_q _ | exact isR_n) ?_
                  refine V_getRe C 0 11 rfl cf_0 fl_X8_186 (by decide) (by decide) dX8_planFor_105 kc rc ?_
                  refine V_ifnonnull C (tgt := 129) dX8_planFor_108 (by decide) (fun a108 h108 => ?_) (fun h108 => ?_)
                  · cases h108
                  · refine V_aload C dX8_planFor_111 rfl (by first | exact isR_r _ | exact isR_q _ | exact isR_n) ?_
                    refine V_aload_n C dX8_planFor_113 rfl (by first | exact isR_r _ | exact isR_q _ | exact isR_n) ?_
                    refine V_getIe C 8 8 rfl cf_8 fl_X8_53 (by decide) (by decide) dX8_planFor_114 kX iX ?_
                    refine V_fV C (c_X0_orderKindOn _ hl G T ad σ hR j hj1 hO hI.2.2.2.2.1.2 _) kv_X8_285 cf_0 (by decide) rfl kc (by decide) (by decide) rfl rfl (Nat.le_of_ble_eq_true rfl) dX8_planFor_117 ?_
                    dsimp only [Option.toList_some, Option.toList_none, List.cons_append, List.nil_append]
                    refine V_if_ne C (tgt := 129) dX8_planFor_120 (by decide) (fun h120 => ?_) (fun h120 => ?_)
                    · refine V_incN C dX8_planFor_129 rfl (by decide) rfl ?_
                      simp only [lset1, lset2, List.filter_cons, List.filter_nil, Nat.reduceBEq, Nat.reduceAdd, Bool.not_true, Bool.not_false, Bool.and_true, Bool.and_false, Bool.true_and, Bool.false_and, if_true, if_false, Bool.false_eq_true, reduceIte]
                      refine V_goto C (tgt := 77) dX8_planFor_132 (by decide) ?_
                      refine V_sub ?_ L
                      exact ⟨rfl, rfl, rfl, rfl, rfl, trivial⟩
                    · exact absurd ⟨h100, q2, h120⟩ nq
          · rw [if_neg q2] at rc
            refine V_iload C dX8_planFor_77 rfl ?_
            refine V_iload_n C dX8_planFor_79 rfl ?_
            refine V_igeN C (tgt := 135) (by omega) (by omega) dX8_planFor_80 (by decide) (fun h80 => ?_) (fun h80 => ?_)
            · omega
            · refine V_aload_n C dX8_planFor_83 rfl (by first | exact isR_r _ | exact isR_q _ | exact isR_n) ?_
              refine V_iload C dX8_planFor_84 rfl ?_
              refine V_aaldE C 4 (by decide) kq (by decide) lq rfl hj16 (by decide) dX8_planFor_86 ?_
              rw [aq]
              refine V_astore C dX8_planFor_87 (by decide) (by first | exact isR_r _ | exact isR_q _ | exact isR_n) rfl ?_
              simp only [lset1, lset2, List.filter_cons, List.filter_nil, Nat.reduceBEq, Nat.reduceAdd, Bool.not_true, Bool.not_false, Bool.and_true, Bool.and_false, Bool.true_and, Bool.false_and, if_true, if_false, Bool.false_eq_true, reduceIte]
              refine V_aload C dX8_planFor_89 rfl (by first | exact isR_r _ | exact isR_q _ | exact isR_n) ?_
              dsimp only
              refine V_ifnull C (tgt := 129) dX8_planFor_91 (by decide) (fun h91 => ?_) (fun a91 h91 => ?_)
              · cases h91
              · cases h91
                refine V_aload C dX8_planFor_94 rfl (by first | exact isR_r _ | exact isR_q _ | exact isR_n) ?_
                refine V_getIe C 0 3 rfl cf_0 fl_X8_338 (by decide) (by decide) dX8_planFor_96 kc ic3 ?_
                refine V_iload_n C dX8_planFor_99 rfl ?_
                refine V_icmp_ne C (tgt := 129) dX8_planFor_100 (by decide) (fun h100 => ?_) (fun h100 => ?_)
                · refine V_incN C dX8_planFor_129 rfl (by decide) rfl ?_
                  simp only [lset1, lset2, List.filter_cons, List.filter_nil, Nat.reduceBEq, Nat.reduceAdd, Bool.not_true, Bool.not_false, Bool.and_true, Bool.and_false, Bool.true_and, Bool.false_and, if_true, if_false, Bool.false_eq_true, reduceIte]
                  refine V_goto C (tgt := 77) dX8_planFor_132 (by decide) ?_
                  refine V_sub ?_ L
                  exact ⟨rfl, rfl, rfl, rfl, rfl, trivial⟩
                · refine V_aload C dX8_planFor_103 rfl (by first | exact isR_r _ | exact isR_q _ | exact isR_n) ?_
                  refine V_getRe C 0 11 rfl cf_0 fl_X8_186 (by decide) (by decide) dX8_planFor_105 kc rc ?_
                  refine V_ifnonnull C (tgt := 129) dX8_planFor_108 (by decide) (fun a108 h108 => ?_) (fun h108 => ?_)
                  · refine V_incN C dX8_planFor_129 rfl (by decide) rfl ?_
                    simp only [lset1, lset2, List.filter_cons, List.filter_nil, Nat.reduceBEq, Nat.reduceAdd, Bool.not_true, Bool.not_false, Bool.and_true, Bool.and_false, Bool.true_and, Bool.false_and, if_true, if_false, Bool.false_eq_true, reduceIte]
                    refine V_goto C (tgt := 77) dX8_planFor_132 (by decide) ?_
                    refine V_sub ?_ L
                    exact ⟨rfl, rfl, rfl, rfl, rfl, trivial⟩
                  · cases h108
      · rw [if_neg hjN] at aq
        have e9 : min (j + 1) N = min j N := by omega
        have ihj := ih (j + 1)
        rw [e9] at ihj
        have L := ihj T (by omega) h5 ⟨f, t1, t2, t3, t4⟩
        refine V_iload C dX8_planFor_77 rfl ?_
        refine V_iload_n C dX8_planFor_79 rfl ?_
        refine V_igeN C (tgt := 135) (by omega) (by omega) dX8_planFor_80 (by decide) (fun h80 => ?_) (fun h80 => ?_)
        · omega
        · refine V_aload_n C dX8_planFor_83 rfl (by first | exact isR_r _ | exact isR_q _ | exact isR_n) ?_
          refine V_iload C dX8_planFor_84 rfl ?_
          refine V_aaldE C 4 (by decide) kq (by decide) lq rfl hj16 (by decide) dX8_planFor_86 ?_
          rw [aq]
          refine V_astore C dX8_planFor_87 (by decide) (by first | exact isR_r _ | exact isR_q _ | exact isR_n) rfl ?_
          simp only [lset1, lset2, List.filter_cons, List.filter_nil, Nat.reduceBEq, Nat.reduceAdd, Bool.not_true, Bool.not_false, Bool.and_true, Bool.and_false, Bool.true_and, Bool.false_and, if_true, if_false, Bool.false_eq_true, reduceIte]
          refine V_aload C dX8_planFor_89 rfl (by first | exact isR_r _ | exact isR_q _ | exact isR_n) ?_
          dsimp only
          refine V_ifnull C (tgt := 129) dX8_planFor_91 (by decide) (fun h91 => ?_) (fun a91 h91 => ?_)
          · refine V_incN C dX8_planFor_129 rfl (by decide) rfl ?_
            simp only [lset1, lset2, List.filter_cons, List.filter_nil, Nat.reduceBEq, Nat.reduceAdd, Bool.not_true, Bool.not_false, Bool.and_true, Bool.and_false, Bool.true_and, Bool.false_and, if_true, if_false, Bool.false_eq_true, reduceIte]
            refine V_goto C (tgt := 77) dX8_planFor_132 (by decide) ?_
            refine V_sub ?_ L
            exact ⟨rfl, rfl, rfl, rfl, rfl, trivial⟩
          · cases h91
  have beds : ∀ (t i : Nat) (T : sS), i + t = 10 → (FrP S T ∧ (∀ h, h < i → h < n → sA T (ad 25 0) h = σ.1 23 h - mOthers σ (-1) (nI h)) ∧ sI T 407 (ad 4 0) = 0 ∧ sI T 408 (ad 4 0) = 1) → V X G 6 (eQ X G (fun v T => v = none ∧ (cw σ kin (cN σ 1)).1 ≤ 5 ∧ FrP S T ∧ (∀ h, h < cN σ 20 → sA T (ad 25 0) h = σ.1 23 h - mOthers σ (-1) (nI h)) ∧ sI T 407 (ad 4 0) = nI (cw σ kin (cN σ 1)).1 ∧ sI T 408 (ad 4 0) = nI (2 ^ (cw σ kin (cN σ 1)).1) ∧ (∀ r, r < (cw σ kin (cN σ 1)).1 → ∃ c, c < cN σ 1 ∧ (cw σ kin (cN σ 1)).2 50 r = nI c ∧ sQ T (ad 21 0) r = some (ad 0 c) ∧ ∀ h, h < 10 → sA T (ad 24 r) h = rowV σ c h)) (fun E T => E = "java/lang/IllegalStateException" ∧ 5 < (cw σ kin (cN σ 1)).1 ∧ FrP S T) 1 6) 0 0 18 [(4, false, .int (nI i)), (3, false, .int (nI 10)), (2, false, .ref (ad 16 0)), (0, false, .ref (ad 8 0)), (1, false, .int kin)] [] T := by
    intro t
    induction t with
    | zero =>
      intro i T hi hT
      obtain rfl : i = 10 := by omega
      obtain ⟨f, t1, t2, t3⟩ := hT
      have hR : RelC T ad σ := RelC_P hC f
      have kX : sK T (ad 8 0) = 9 := RelC_K hR 8 (by decide) rfl
      have rX : sR T 800 (ad 8 0) = some (ad 15 0) := RelC_R hR 8 800 rfl (by unfold cFd; omega) rfl rfl
      have kq : sK T (ad 15 0) = 104 := RelC_kd hR 15 (by decide) rfl rfl
      have lq : sL T (ad 15 0) = 16 := RelC_ln hR 15 (by decide) rfl rfl
      have L := kids 16 0 T (by omega) (by rw [Nat.zero_min]; exact Nat.zero_le 5) ⟨f, fun h hh => t1 h (by omega) (hn ▸ hh), by rw [Nat.zero_min]; exact t2, by rw [Nat.zero_min]; exact t3, fun r hr => by
        rw [Nat.zero_min] at hr
        exact absurd hr (Nat.not_lt_zero r)⟩
      refine V_iload C dX8_planFor_18 rfl ?_
      refine V_iload_n C dX8_planFor_20 rfl ?_
      refine V_igeN C (tgt := 66) (by omega) (by omega) dX8_planFor_21 (by decide) (fun h21 => ?_) (fun h21 => ?_)
      · refine V_aload_n C dX8_planFor_66 rfl (by first | exact isR_r _ | exact isR_q _ | exact isR_n) ?_
        refine V_getS C 8 0 rfl cf_8 fl_X8_11 (by decide) (by decide) dX8_planFor_67 kX rX ?_
        refine V_astore_n C dX8_planFor_70 (by decide) (by first | exact isR_r _ | exact isR_q _ | exact isR_n) rfl ?_
        simp only [lset1, lset2, List.filter_cons, List.filter_nil, Nat.reduceBEq, Nat.reduceAdd, Bool.not_true, Bool.not_false, Bool.and_true, Bool.and_false, Bool.true_and, Bool.false_and, if_true, if_false, Bool.false_eq_true, reduceIte]
        refine V_aload_n C dX8_planFor_71 rfl (by first | exact isR_r _ | exact isR_q _ | exact isR_n) ?_
        refine V_alen C (v := nI 16) kq (by decide) (by rw [lq]; rfl) dX8_planFor_72 ?_
        refine V_istore_n C dX8_planFor_73 (by decide) rfl ?_
        simp only [lset1, lset2, List.filter_cons, List.filter_nil, Nat.reduceBEq, Nat.reduceAdd, Bool.not_true, Bool.not_false, Bool.and_true, Bool.and_false, Bool.true_and, Bool.false_and, if_true, if_false, Bool.false_eq_true, reduceIte]
        refine V_iconst C (v := 0) dX8_planFor_74 (by decide) ?_
        refine V_istore C dX8_planFor_75 (by decide) rfl ?_
        simp only [lset1, lset2, List.filter_cons, List.filter_nil, Nat.reduceBEq, Nat.reduceAdd, Bool.not_true, Bool.not_false, Bool.and_true, Bool.and_false, Bool.true_and, Bool.false_and, if_true, if_false, Bool.false_eq_true, reduceIte]
        refine V_sub ?_ L
        exact ⟨rfl, rfl, rfl, rfl, rfl, trivial⟩
      · omega
    | succ t ih =>
      intro i T hi hT
      have hi10 : i < 10 := by omega
      obtain ⟨f, t1, t2, t3⟩ := hT
      have hR : RelC T ad σ := RelC_P hC f
      have kX : sK T (ad 8 0) = 9 := RelC_K hR 8 (by decide) rfl
      have rX : sR T 803 (ad 8 0) = some (ad 4 0) := RelC_R hR 8 803 rfl (by unfold cFd; omega) rfl rfl
      have kP2 : sK T (ad 4 0) = 5 := RelC_K hR 4 (by decide) rfl
      have kq : sK T (ad 16 0) = 105 := RelC_kd hR 16 (by decide) rfl rfl
      have lq : sL T (ad 16 0) = 10 := RelC_ln hR 16 (by decide) rfl rfl
      have aq := hR.2.2.2.2.2.2.2.1 i hi10
      rw [← hn] at aq
      by_cases hin : i < n
      · rw [if_pos hin] at aq
        have hi1 : i < cN σ 20 := hn ▸ hin
        have kh : sK T (ad 2 i) = 3 := RelC_K hR 2 (by decide) hi1
        have ih2 : sI T 200 (ad 2 i) = nI i := RelC_I hR 2 200 rfl (by unfold cFd; omega) rfl hi1
        have ih3 : sI T 203 (ad 2 i) = σ.1 23 i := RelC_I hR 2 203 rfl (by unfold cFd; omega) rfl hi1
        have k25 : sK T (ad 25 0) = 171 := RelC_kd hR 25 (by decide) rfl rfl
        have L := ih (i + 1) (pA T (ad 25 0) i (σ.1 23 i - mOthers σ (-1) (nI i))) (by omega) ⟨FrP_tr f (FrP_A (Or.inr (Or.inr (Or.inl k25)))), fun h h1 h2 => by
          rw [sA_s]
          by_cases z : h = i
          · subst z; exact up1_s
          · rw [up1_n z]; exact t1 h (by omega) h2, t2, t3⟩
        refine V_iload C dX8_planFor_18 rfl ?_
        refine V_iload_n C dX8_planFor_20 rfl ?_
        refine V_igeN C (tgt := 66) (by omega) (by omega) dX8_planFor_21 (by decide) (fun h21 => ?_) (fun h21 => ?_)
        · omega
        · refine V_aload_n C dX8_planFor_24 rfl (by first | exact isR_r _ | exact isR_q _ | exact isR_n) ?_
          refine V_iload C dX8_planFor_25 rfl ?_
          refine V_aaldE C 5 (by decide) kq (by decide) lq rfl hi10 (by decide) dX8_planFor_27 ?_
          rw [aq]
          refine V_astore C dX8_planFor_28 (by decide) (by first | exact isR_r _ | exact isR_q _ | exact isR_n) rfl ?_
          simp only [lset1, lset2, List.filter_cons, List.filter_nil, Nat.reduceBEq, Nat.reduceAdd, Bool.not_true, Bool.not_false, Bool.and_true, Bool.and_false, Bool.true_and, Bool.false_and, if_true, if_false, Bool.false_eq_true, reduceIte]
          refine V_aload C dX8_planFor_30 rfl (by first | exact isR_r _ | exact isR_q _ | exact isR_n) ?_
          dsimp only
          refine V_ifnull C (tgt := 60) dX8_planFor_32 (by decide) (fun h32 => ?_) (fun a32 h32 => ?_)
          · cases h32
          · cases h32
            refine V_aload_n C dX8_planFor_35 rfl (by first | exact isR_r _ | exact isR_q _ | exact isR_n) ?_
            refine V_getS C 8 3 rfl cf_8 fl_X8_30 (by decide) (by decide) dX8_planFor_36 kX rX ?_
            refine V_aload C dX8_planFor_39 rfl (by first | exact isR_r _ | exact isR_q _ | exact isR_n) ?_
            refine V_getIe C 2 0 rfl cf_2 fl_X8_136 (by decide) (by decide) dX8_planFor_41 kh ih2 ?_
            refine V_aload C dX8_planFor_44 rfl (by first | exact isR_r _ | exact isR_q _ | exact isR_n) ?_
            refine V_getIe C 2 3 rfl cf_2 fl_X8_316 (by decide) (by decide) dX8_planFor_46 kh ih3 ?_
            refine V_aload_n C dX8_planFor_49 rfl (by first | exact isR_r _ | exact isR_q _ | exact isR_n) ?_
            refine V_aload C dX8_planFor_50 rfl (by first | exact isR_r _ | exact isR_q _ | exact isR_n) ?_
            refine V_aconst_null C dX8_planFor_52 ?_
            refine V_fV C (As := [.ref (ad 2 i), va_rf none]) (c_X8_takenBeds _ hl G T ad σ hR hI hS i hi1 none (-1) (fun j hj => ⟨fun z => (by cases z), fun z => absurd z (nI_ne_m1 (j := j) (by have := hI.2.1.2; omega))⟩)) kv_X8_312 cf_8 (by decide) rfl kX (by decide) (by decide) rfl rfl (Nat.le_of_ble_eq_true rfl) dX8_planFor_53 ?_
            dsimp only [Option.toList_some, Option.toList_none, List.cons_append, List.nil_append]
            refine V_isub C dX8_planFor_56 ?_
            refine V_fV C (c_X4_setBeds _ hl G T ad σ hR i hi10 _) kv_X8_355 cf_4 (by decide) rfl kP2 (by decide) (by decide) rfl rfl (Nat.le_of_ble_eq_true rfl) dX8_planFor_57 ?_
            dsimp only [Option.toList_some, Option.toList_none, List.cons_append, List.nil_append]
            refine V_incN C dX8_planFor_60 rfl (by decide) rfl ?_
            simp only [lset1, lset2, List.filter_cons, List.filter_nil, Nat.reduceBEq, Nat.reduceAdd, Bool.not_true, Bool.not_false, Bool.and_true, Bool.and_false, Bool.true_and, Bool.false_and, if_true, if_false, Bool.false_eq_true, reduceIte]
            refine V_goto C (tgt := 18) dX8_planFor_63 (by decide) ?_
            refine V_sub ?_ L
            exact ⟨rfl, rfl, rfl, rfl, rfl, trivial⟩
      · rw [if_neg hin] at aq
        have L := ih (i + 1) T (by omega) ⟨f, fun h h1 h2 => t1 h (by omega) h2, t2, t3⟩
        refine V_iload C dX8_planFor_18 rfl ?_
        refine V_iload_n C dX8_planFor_20 rfl ?_
        refine V_igeN C (tgt := 66) (by omega) (by omega) dX8_planFor_21 (by decide) (fun h21 => ?_) (fun h21 => ?_)
        · omega
        · refine V_aload_n C dX8_planFor_24 rfl (by first | exact isR_r _ | exact isR_q _ | exact isR_n) ?_
          refine V_iload C dX8_planFor_25 rfl ?_
          refine V_aaldE C 5 (by decide) kq (by decide) lq rfl hi10 (by decide) dX8_planFor_27 ?_
          rw [aq]
          refine V_astore C dX8_planFor_28 (by decide) (by first | exact isR_r _ | exact isR_q _ | exact isR_n) rfl ?_
          simp only [lset1, lset2, List.filter_cons, List.filter_nil, Nat.reduceBEq, Nat.reduceAdd, Bool.not_true, Bool.not_false, Bool.and_true, Bool.and_false, Bool.true_and, Bool.false_and, if_true, if_false, Bool.false_eq_true, reduceIte]
          refine V_aload C dX8_planFor_30 rfl (by first | exact isR_r _ | exact isR_q _ | exact isR_n) ?_
          dsimp only
          refine V_ifnull C (tgt := 60) dX8_planFor_32 (by decide) (fun h32 => ?_) (fun a32 h32 => ?_)
          · refine V_incN C dX8_planFor_60 rfl (by decide) rfl ?_
            simp only [lset1, lset2, List.filter_cons, List.filter_nil, Nat.reduceBEq, Nat.reduceAdd, Bool.not_true, Bool.not_false, Bool.and_true, Bool.and_false, Bool.true_and, Bool.false_and, if_true, if_false, Bool.false_eq_true, reduceIte]
            refine V_goto C (tgt := 18) dX8_planFor_63 (by decide) ?_
            refine V_sub ?_ L
            exact ⟨rfl, rfl, rfl, rfl, rfl, trivial⟩
          · cases h32
  have kp1 : sK (pI S 407 (ad 4 0) 0) (ad 4 0) = 5 := kp
  have L := beds 10 0 (pI (pI S 407 (ad 4 0) 0) 408 (ad 4 0) 1) (by omega) ⟨FrP_tr (FrP_I (Or.inl rfl) kp) (FrP_I (Or.inr rfl) kp1), fun h hh => absurd hh (Nat.not_lt_zero h), (sI_n1 (by decide)).trans sI_s, sI_s⟩
  have kX2 : sK (pI (pI S 407 (ad 4 0) 0) 408 (ad 4 0) 1) (ad 8 0) = 9 := kx
  have rX2 : sR (pI (pI S 407 (ad 4 0) 0) 408 (ad 4 0) 1) 801 (ad 8 0) = some (ad 16 0) := rx_801
  have kq2 : sK (pI (pI S 407 (ad 4 0) 0) 408 (ad 4 0) 1) (ad 16 0) = 105 := RelC_kd hC 16 (by decide) rfl rfl
  have lq2 : sL (pI (pI S 407 (ad 4 0) 0) 408 (ad 4 0) 1) (ad 16 0) = 10 := RelC_ln hC 16 (by decide) rfl rfl
  refine V_aload_n C dX8_planFor_0 rfl (by first | exact isR_r _ | exact isR_q _ | exact isR_n) ?_
  refine V_getS C 8 3 rfl cf_8 fl_X8_30 (by decide) (by decide) dX8_planFor_1 kx rx_803 ?_
  refine V_fV C (c_X4_clear _ hl G S ad σ hC) kv_X8_352 cf_4 (by decide) rfl kp (by decide) (by decide) rfl rfl (Nat.le_of_ble_eq_true rfl) dX8_planFor_4 ?_
  dsimp only [Option.toList_some, Option.toList_none, List.cons_append, List.nil_append]
  refine V_aload_n C dX8_planFor_7 rfl (by first | exact isR_r _ | exact isR_q _ | exact isR_n) ?_
  refine V_getS C 8 1 rfl cf_8 fl_X8_17 (by decide) (by decide) dX8_planFor_8 kX2 rX2 ?_
  refine V_astore_n C dX8_planFor_11 (by decide) (by first | exact isR_r _ | exact isR_q _ | exact isR_n) rfl ?_
  simp only [lset1, lset2, List.filter_cons, List.filter_nil, Nat.reduceBEq, Nat.reduceAdd, Bool.not_true, Bool.not_false, Bool.and_true, Bool.and_false, Bool.true_and, Bool.false_and, if_true, if_false, Bool.false_eq_true, reduceIte]
  refine V_aload_n C dX8_planFor_12 rfl (by first | exact isR_r _ | exact isR_q _ | exact isR_n) ?_
  refine V_alen C (v := nI 10) kq2 (by decide) (by rw [lq2]; rfl) dX8_planFor_13 ?_
  refine V_istore_n C dX8_planFor_14 (by decide) rfl ?_
  simp only [lset1, lset2, List.filter_cons, List.filter_nil, Nat.reduceBEq, Nat.reduceAdd, Bool.not_true, Bool.not_false, Bool.and_true, Bool.and_false, Bool.true_and, Bool.false_and, if_true, if_false, Bool.false_eq_true, reduceIte]
  refine V_iconst C (v := 0) dX8_planFor_15 (by decide) ?_
  refine V_istore C dX8_planFor_16 (by decide) rfl ?_
  simp only [lset1, lset2, List.filter_cons, List.filter_nil, Nat.reduceBEq, Nat.reduceAdd, Bool.not_true, Bool.not_false, Bool.and_true, Bool.and_false, Bool.true_and, Bool.false_and, if_true, if_false, Bool.false_eq_true, reduceIte]
  refine V_sub ?_ L
  exact ⟨rfl, rfl, rfl, rfl, rfl, trivial⟩

