/-! THE CLASS: the plan chooses. -/
theorem dpG_le {gn : Nat → Nat → Int} {L h s : Nat} : dpG gn L h s ≤ s := by
  unfold dpG
  split
  · exact dpI_2 _
  · exact Nat.zero_le s
theorem c_X4_choose (l : Launch) (hl : l.stackTraces = false) (G : gG) (S : sS) (ad : Nat → Nat → Nat) (σ : aS) (hC : RelC S ad σ) (n M : Nat) (hn : n ≤ 10) (hM : M ≤ 5) (gn : Nat → Nat → Int) (L0 : Nat) (b : Nat) (hb : b < 32) (d : Nat → Nat) (hμ : ∀ x, x < 10 → dpM gn L0 10 b x = muW n M d x) (hG : ∀ x, x < 10 → ∀ s, s ≤ b → sA S (ad 27 x) s = nI (dpG gn L0 x s)) : Ct l G yX4_choose cX4_choose 6 none 1 0 0 [.ref (ad 4 0), .int (nI b)] S (fun v T => v = none ∧ FrP S T ∧ (∀ r, r < 5 → sA T (ad 22 0) r = (if r < M ∧ d r < n then nI (d r) else -1)) ∧ (∀ a, a ≠ ad 22 0 → sA T a = sA S a) ∧ sQ T = sQ S ∧ sI T = sI S ∧ sJ T = sJ S) (fun _ _ => False) := by
  refine Ct_of (by decide) (cat1_all (by repeat first | exact trivial | refine ⟨by first | rfl | exact isR_c (isR_q _), ?_⟩)) (Nat.le_of_ble_eq_true rfl) hl fun X C hXl hin => ?_
  subst hXl
  dsimp only [lArgs, Nat.reduceAdd]
  have kp : sK S (ad 4 0) = 5 := RelC_K hC 4 (by decide) rfl
  have n22 : ∀ x, x < 10 → ad 27 x ≠ ad 22 0 := fun x hx e => by
    have a : sK S (ad 27 x) = 181 := RelC_kd hC 27 (by decide) hx rfl
    have c : sK S (ad 22 0) = 151 := RelC_kd hC 22 (by decide) rfl rfl
    rw [e, c] at a
    exact absurd a (by decide)
  have outer : ∀ (h : Nat) (left : Nat) (T : sS), h ≤ 10 → left ≤ b → (∀ x, x < h → dpM gn L0 h left x = muW n M d x) → (FrP S T ∧ (∀ r, r < 5 → sA T (ad 22 0) r = (if r < M ∧ h ≤ d r ∧ d r < n then nI (d r) else -1)) ∧ (∀ a, a ≠ ad 22 0 → sA T a = sA S a) ∧ sQ T = sQ S ∧ sI T = sI S ∧ sJ T = sJ S) → V X G 6 (eQ X G (fun v T => v = none ∧ FrP S T ∧ (∀ r, r < 5 → sA T (ad 22 0) r = (if r < M ∧ d r < n then nI (d r) else -1)) ∧ (∀ a, a ≠ ad 22 0 → sA T a = sA S a) ∧ sQ T = sQ S ∧ sI T = sI S ∧ sJ T = sJ S) (fun _ _ => False) 0 0) 0 0 25 [(3, false, .int (nI h + (-1))), (2, false, .int (nI left)), (0, false, .ref (ad 4 0))] [] T := by
    intro h
    induction h with
    | zero =>
      intro left T _ _ _ hT
      obtain ⟨f, t1, t2, t3, t4, t5⟩ := hT
      refine V_iload_n C dX4_choose_25 rfl ?_
      refine V_if_lt C (tgt := 99) dX4_choose_26 (by decide) (fun h26 => ?_) (fun h26 => ?_)
      · refine V_vret C (by first | omega | decide) (by first | omega | decide) dX4_choose_99 ?_
        exact ⟨rfl, f, fun r hr => (t1 r hr).trans (by
          by_cases z : r < M ∧ d r < n
          · rw [if_pos z, if_pos ⟨z.1, Nat.zero_le _, z.2⟩]
          · rw [if_neg z, if_neg fun y => z ⟨y.1, y.2.2⟩]), t2, t3, t4, t5⟩
      · exact absurd (by decide) h26
    | succ h ih =>
      intro left T hh hle hd hT
      have hh9 : h < 10 := by omega
      have hl32 : left < 32 := by omega
      have g0 : dpG gn L0 h left = muW n M d h := by
        have := hd h (Nat.lt_succ_self h)
        rw [dpM, if_pos rfl] at this
        exact this
      obtain ⟨g, hg⟩ : ∃ g, g = dpG gn L0 h left := ⟨_, rfl⟩
      have gl : g ≤ left := by rw [hg]; exact dpG_le
      have g32 : g < 32 := by omega
      have gb : ∀ r, g.testBit r = (decide (h < n) && (decide (r < M) && (d r == h))) := fun r => by rw [hg, g0, muW_bit]
      have hd2 : ∀ x, x < h → dpM gn L0 h (sbt left g) x = muW n M d x := fun x hx => by
        have := hd x (by omega)
        rw [dpM, if_neg (by omega), ← hg] at this
        exact this
      have inner : ∀ (t i : Nat) (T : sS), i + t = 5 → (FrP S T ∧ (∀ r, r < 5 → sA T (ad 22 0) r = (if r < M ∧ (if r < i then h else h + 1) ≤ d r ∧ d r < n then nI (d r) else -1)) ∧ (∀ a, a ≠ ad 22 0 → sA T a = sA S a) ∧ sQ T = sQ S ∧ sI T = sI S ∧ sJ T = sJ S) → V X G 6 (eQ X G (fun v T => v = none ∧ FrP S T ∧ (∀ r, r < 5 → sA T (ad 22 0) r = (if r < M ∧ d r < n then nI (d r) else -1)) ∧ (∀ a, a ≠ ad 22 0 → sA T a = sA S a) ∧ sQ T = sQ S ∧ sI T = sI S ∧ sJ T = sJ S) (fun _ _ => False) 0 0) 0 0 56 [(5, false, .int (nI i)), (4, false, .int (nI g)), (3, false, .int (nI h)), (2, false, .int (nI left)), (0, false, .ref (ad 4 0))] [] T := by
        intro t
        induction t with
        | zero =>
          intro i T hi hT
          obtain rfl : i = 5 := by omega
          have es := sbt32 left hl32 g g32
          have sl : sbt left g ≤ left := sbt_le
          have L := ih (sbt left g) T (by omega) (by omega) hd2 ⟨hT.1, fun r hr => by rw [hT.2.1 r hr, if_pos hr], hT.2.2⟩
          refine V_iload C dX4_choose_56 rfl ?_
          refine V_iconst C (v := 5) dX4_choose_58 (by decide) ?_
          refine V_icmp_ge C (tgt := 86) dX4_choose_59 (by decide) (fun h59 => ?_) (fun h59 => ?_)
          · refine V_iload_n C dX4_choose_86 rfl ?_
            refine V_iload C dX4_choose_87 rfl ?_
            refine V_iconst C (v := (-1)) dX4_choose_89 (by decide) ?_
            refine V_ixor C dX4_choose_90 ?_
            refine V_iand C dX4_choose_91 ?_
            rw [es]
            refine V_istore_n C dX4_choose_92 (by decide) rfl ?_
            simp only [lset1, lset2, List.filter_cons, List.filter_nil, Nat.reduceBEq, Nat.reduceAdd, Bool.not_true, Bool.not_false, Bool.and_true, Bool.and_false, Bool.true_and, Bool.false_and, if_true, if_false, Bool.false_eq_true, reduceIte]
            refine V_iinc C dX4_choose_93 rfl (v := nI h + (-1)) rfl (by decide) rfl ?_
            simp only [lset1, lset2, List.filter_cons, List.filter_nil, Nat.reduceBEq, Nat.reduceAdd, Bool.not_true, Bool.not_false, Bool.and_true, Bool.and_false, Bool.true_and, Bool.false_and, if_true, if_false, Bool.false_eq_true, reduceIte]
            refine V_goto C (tgt := 25) dX4_choose_96 (by decide) ?_
            refine V_sub ?_ L
            exact ⟨rfl, rfl, rfl, trivial⟩
          · exact absurd (by decide) h59
        | succ t iht =>
          intro i T hi hT
          have hi5 : i < 5 := by omega
          obtain ⟨f, t1, t2, t3, t4, t5⟩ := hT
          have hR : RelC T ad σ := RelC_P hC f
          have kp2 : sK T (ad 4 0) = 5 := RelC_K hR 4 (by decide) rfl
          have r1 : sR T 401 (ad 4 0) = some (ad 22 0) := RelC_pR hR 401 22 (by decide) rfl rfl
          have k22 : sK T (ad 22 0) = 151 := RelC_kd hR 22 (by decide) rfl rfl
          have l22 : sL T (ad 22 0) = 5 := RelC_ln hR 22 (by decide) rfl rfl
          have hbit := bit32 g g32 i hi5
          have n5 : ¬ (5 : Int32) ≤ nI i := fun z => absurd ((nI_leI (a := 5) (b := i) (by decide) (by omega)).mp z) (by omega)
          by_cases q : g.testBit i = true
          · rw [if_pos q] at hbit
            have q2 : h < n ∧ i < M ∧ d i = h := by
              rw [gb, Bool.and_eq_true, Bool.and_eq_true] at q
              exact ⟨of_decide_eq_true q.1, of_decide_eq_true q.2.1, beq_iff_eq.mp q.2.2⟩
            have L := iht (i + 1) (pA T (ad 22 0) i (nI h)) (by omega) ⟨FrP_tr f (FrP_A (Or.inl k22)), fun r hr => by
              rw [sA_s]
              by_cases e : r = i
              · subst e
                rw [up1_s, if_pos ⟨q2.2.1, by rw [if_pos (Nat.lt_succ_self r)]; omega, by omega⟩, q2.2.2]
              · have e2 : (if r < i then h else h + 1) = (if r < i + 1 then h else h + 1) := by
                  by_cases z : r < i
                  · rw [if_pos z, if_pos (by omega)]
                  · rw [if_neg z, if_neg (by omega)]
                rw [up1_n e, t1 r hr, e2], fun a ha => (sA_n ha).trans (t2 a ha), t3, t4, t5⟩
            refine V_iload C dX4_choose_56 rfl ?_
            refine V_iconst C (v := 5) dX4_choose_58 (by decide) ?_
            refine V_icmp_ge C (tgt := 86) dX4_choose_59 (by decide) (fun h59 => ?_) (fun h59 => ?_)
            · exact absurd h59 n5
            · refine V_iload C dX4_choose_62 rfl ?_
              refine V_iload C dX4_choose_64 rfl ?_
              refine V_ishr C dX4_choose_66 ?_
              refine V_iconst C (v := 1) dX4_choose_67 (by decide) ?_
              refine V_iand C dX4_choose_68 ?_
              rw [hbit]
              refine V_if_eq C (tgt := 80) dX4_choose_69 (by decide) (fun h69 => ?_) (fun h69 => ?_)
              · exact absurd h69 (by decide)
              · refine V_aload_n C dX4_choose_72 rfl (by first | exact isR_r _ | exact isR_q _ | exact isR_n) ?_
                refine V_getS C 4 1 rfl cf_4 fl_X4_17 (by decide) (by decide) dX4_choose_73 kp2 r1 ?_
                refine V_iload C dX4_choose_76 rfl ?_
                refine V_iload_n C dX4_choose_78 rfl ?_
                refine V_iastE C k22 (by decide) l22 hi5 (by decide) dX4_choose_79 ?_
                refine V_incN C dX4_choose_80 rfl (by decide) rfl ?_
                simp only [lset1, lset2, List.filter_cons, List.filter_nil, Nat.reduceBEq, Nat.reduceAdd, Bool.not_true, Bool.not_false, Bool.and_true, Bool.and_false, Bool.true_and, Bool.false_and, if_true, if_false, Bool.false_eq_true, reduceIte]
                refine V_goto C (tgt := 56) dX4_choose_83 (by decide) ?_
                refine V_sub ?_ L
                exact ⟨rfl, rfl, rfl, rfl, rfl, trivial⟩
          · rw [if_neg q] at hbit
            have L := iht (i + 1) T (by omega) ⟨f, fun r hr => by
              rw [t1 r hr]
              by_cases e : r = i
              · subst e
                rw [if_neg (Nat.lt_irrefl r), if_pos (Nat.lt_succ_self r)]
                by_cases z : r < M ∧ h + 1 ≤ d r ∧ d r < n
                · rw [if_pos z, if_pos ⟨z.1, by omega, z.2.2⟩]
                · rw [if_neg z, if_neg fun y => z ⟨y.1, by
                    by_cases w : d r = h
                    · exfalso
                      refine q ?_
                      rw [gb, decide_eq_true (show h < n by omega), decide_eq_true y.1, beq_iff_eq.mpr w]; rfl
                    · omega, y.2.2⟩]
              · have e2 : (if r < i then h else h + 1) = (if r < i + 1 then h else h + 1) := by
                  by_cases z : r < i
                  · rw [if_pos z, if_pos (by omega)]
                  · rw [if_neg z, if_neg (by omega)]
                rw [e2], t2, t3, t4, t5⟩
            refine V_iload C dX4_choose_56 rfl ?_
            refine V_iconst C (v := 5) dX4_choose_58 (by decide) ?_
            refine V_icmp_ge C (tgt := 86) dX4_choose_59 (by decide) (fun h59 => ?_) (fun h59 => ?_)
            · exact absurd h59 n5
            · refine V_iload C dX4_choose_62 rfl ?_
              refine V_iload C dX4_choose_64 rfl ?_
              refine V_ishr C dX4_choose_66 ?_
              refine V_iconst C (v := 1) dX4_choose_67 (by decide) ?_
              refine V_iand C dX4_choose_68 ?_
              rw [hbit]
              refine V_if_eq C (tgt := 80) dX4_choose_69 (by decide) (fun h69 => ?_) (fun h69 => ?_)
              · refine V_incN C dX4_choose_80 rfl (by decide) rfl ?_
                simp only [lset1, lset2, List.filter_cons, List.filter_nil, Nat.reduceBEq, Nat.reduceAdd, Bool.not_true, Bool.not_false, Bool.and_true, Bool.and_false, Bool.true_and, Bool.false_and, if_true, if_false, Bool.false_eq_true, reduceIte]
                refine V_goto C (tgt := 56) dX4_choose_83 (by decide) ?_
                refine V_sub ?_ L
                exact ⟨rfl, rfl, rfl, rfl, rfl, trivial⟩
              · exact absurd rfl h69
      obtain ⟨f, t1, t2, t3, t4, t5⟩ := hT
      have hR : RelC T ad σ := RelC_P hC f
      have kp2 : sK T (ad 4 0) = 5 := RelC_K hR 4 (by decide) rfl
      have r4 : sR T 404 (ad 4 0) = some (ad 26 0) := RelC_pR hR 404 26 (by decide) rfl rfl
      have k26 : sK T (ad 26 0) = 117 := RelC_kd hR 26 (by decide) rfl rfl
      have l26 : sL T (ad 26 0) = 10 := RelC_ln hR 26 (by decide) rfl rfl
      have a26 := hR.2.2.2.2.2.2.2.2.2.2 h hh9
      have k27 : sK T (ad 27 h) = 181 := RelC_kd hR 27 (by decide) hh9 rfl
      have l27 : sL T (ad 27 h) = 32 := RelC_ln hR 27 (by decide) hh9 rfl
      have eg : sA T (ad 27 h) left = nI g := by rw [t2 _ (n22 h hh9), hG h hh9 left hle, hg]
      have L := inner 5 0 T (by omega) ⟨f, fun r hr => by rw [t1 r hr, if_neg (Nat.not_lt_zero r)], t2, t3, t4, t5⟩
      rw [nI_dec]
      refine V_iload_n C dX4_choose_25 rfl ?_
      refine V_if_lt C (tgt := 99) dX4_choose_26 (by decide) (fun h26 => ?_) (fun h26 => ?_)
      · exact absurd h26 (nI_pos (by omega))
      · refine V_iload_n C dX4_choose_29 rfl ?_
        refine V_if_lt C (tgt := 50) dX4_choose_30 (by decide) (fun h30 => ?_) (fun h30 => ?_)
        · exact absurd h30 (nI_pos (by omega))
        · refine V_iload_n C dX4_choose_33 rfl ?_
          refine V_bipush C (v := 32) dX4_choose_34 (by decide) ?_
          refine V_icmp_ge C (tgt := 50) dX4_choose_36 (by decide) (fun h36 => ?_) (fun h36 => ?_)
          · exact absurd ((nI_leI (a := 32) (b := left) (by decide) (by omega)).mp h36) (by omega)
          · refine V_aload_n C dX4_choose_39 rfl (by first | exact isR_r _ | exact isR_q _ | exact isR_n) ?_
            refine V_getS C 4 4 rfl cf_4 fl_X4_29 (by decide) (by decide) dX4_choose_40 kp2 r4 ?_
            refine V_iload_n C dX4_choose_43 rfl ?_
            refine V_aaldE C 7 (by decide) k26 (by decide) l26 rfl hh9 (by decide) dX4_choose_44 ?_
            rw [a26]
            dsimp only [va_rf]
            refine V_iload_n C dX4_choose_45 rfl ?_
            refine V_ialdE C k27 (by decide) l27 rfl hl32 (by decide) dX4_choose_46 ?_
            rw [eg]
            refine V_goto C (tgt := 51) dX4_choose_47 (by decide) ?_
            refine V_istore C dX4_choose_51 (by decide) rfl ?_
            simp only [lset1, lset2, List.filter_cons, List.filter_nil, Nat.reduceBEq, Nat.reduceAdd, Bool.not_true, Bool.not_false, Bool.and_true, Bool.and_false, Bool.true_and, Bool.false_and, if_true, if_false, Bool.false_eq_true, reduceIte]
            refine V_iconst C (v := 0) dX4_choose_53 (by decide) ?_
            refine V_istore C dX4_choose_54 (by decide) rfl ?_
            simp only [lset1, lset2, List.filter_cons, List.filter_nil, Nat.reduceBEq, Nat.reduceAdd, Bool.not_true, Bool.not_false, Bool.and_true, Bool.and_false, Bool.true_and, Bool.false_and, if_true, if_false, Bool.false_eq_true, reduceIte]
            refine V_sub ?_ L
            exact ⟨rfl, rfl, rfl, rfl, rfl, trivial⟩
  have first : ∀ (t i : Nat) (T : sS), i + t = 5 → (FrP S T ∧ (∀ r, r < i → sA T (ad 22 0) r = -1) ∧ (∀ a, a ≠ ad 22 0 → sA T a = sA S a) ∧ sQ T = sQ S ∧ sI T = sI S ∧ sJ T = sJ S) → V X G 6 (eQ X G (fun v T => v = none ∧ FrP S T ∧ (∀ r, r < 5 → sA T (ad 22 0) r = (if r < M ∧ d r < n then nI (d r) else -1)) ∧ (∀ a, a ≠ ad 22 0 → sA T a = sA S a) ∧ sQ T = sQ S ∧ sI T = sI S ∧ sJ T = sJ S) (fun _ _ => False) 0 0) 0 0 4 [(3, false, .int (nI i)), (2, false, .int (nI b)), (0, false, .ref (ad 4 0))] [] T := by
    intro t
    induction t with
    | zero =>
      intro i T hi hT
      obtain rfl : i = 5 := by omega
      obtain ⟨f, t1, t2, t3, t4, t5⟩ := hT
      have L := outer 10 b T (Nat.le_refl 10) (Nat.le_refl b) hμ ⟨f, fun r hr => by rw [t1 r hr, if_neg fun z => by omega], t2, t3, t4, t5⟩
      refine V_iload_n C dX4_choose_4 rfl ?_
      refine V_iconst C (v := 5) dX4_choose_5 (by decide) ?_
      refine V_icmp_ge C (tgt := 22) dX4_choose_6 (by decide) (fun h6 => ?_) (fun h6 => ?_)
      · refine V_bipush C (v := 9) dX4_choose_22 (by decide) ?_
        refine V_istore_n C dX4_choose_24 (by decide) rfl ?_
        simp only [lset1, lset2, List.filter_cons, List.filter_nil, Nat.reduceBEq, Nat.reduceAdd, Bool.not_true, Bool.not_false, Bool.and_true, Bool.and_false, Bool.true_and, Bool.false_and, if_true, if_false, Bool.false_eq_true, reduceIte]
        refine V_sub ?_ L
        exact ⟨rfl, rfl, rfl, trivial⟩
      · exact absurd (by decide) h6
    | succ t ih =>
      intro i T hi hT
      have hi5 : i < 5 := by omega
      obtain ⟨f, t1, t2, t3, t4, t5⟩ := hT
      have hR : RelC T ad σ := RelC_P hC f
      have kp2 : sK T (ad 4 0) = 5 := RelC_K hR 4 (by decide) rfl
      have r1 : sR T 401 (ad 4 0) = some (ad 22 0) := RelC_pR hR 401 22 (by decide) rfl rfl
      have k22 : sK T (ad 22 0) = 151 := RelC_kd hR 22 (by decide) rfl rfl
      have l22 : sL T (ad 22 0) = 5 := RelC_ln hR 22 (by decide) rfl rfl
      have L := ih (i + 1) (pA T (ad 22 0) i (-1)) (by omega) ⟨FrP_tr f (FrP_A (Or.inl k22)), fun r hr => by
        rw [sA_s]
        by_cases e : r = i
        · subst e; exact up1_s
        · rw [up1_n e]; exact t1 r (by omega), fun a ha => (sA_n ha).trans (t2 a ha), t3, t4, t5⟩
      refine V_iload_n C dX4_choose_4 rfl ?_
      refine V_iconst C (v := 5) dX4_choose_5 (by decide) ?_
      refine V_icmp_ge C (tgt := 22) dX4_choose_6 (by decide) (fun h6 => ?_) (fun h6 => ?_)
      · exact absurd ((nI_leI (a := 5) (b := i) (by decide) (by omega)).mp h6) (by omega)
      · refine V_aload_n C dX4_choose_9 rfl (by first | exact isR_r _ | exact isR_q _ | exact isR_n) ?_
        refine V_getS C 4 1 rfl cf_4 fl_X4_17 (by decide) (by decide) dX4_choose_10 kp2 r1 ?_
        refine V_iload_n C dX4_choose_13 rfl ?_
        refine V_iconst C (v := (-1)) dX4_choose_14 (by decide) ?_
        refine V_iastE C k22 (by decide) l22 hi5 (by decide) dX4_choose_15 ?_
        refine V_incN C dX4_choose_16 rfl (by decide) rfl ?_
        simp only [lset1, lset2, List.filter_cons, List.filter_nil, Nat.reduceBEq, Nat.reduceAdd, Bool.not_true, Bool.not_false, Bool.and_true, Bool.and_false, Bool.true_and, Bool.false_and, if_true, if_false, Bool.false_eq_true, reduceIte]
        refine V_goto C (tgt := 4) dX4_choose_19 (by decide) ?_
        refine V_sub ?_ L
        exact ⟨rfl, rfl, rfl, trivial⟩
  have L := first 5 0 S (by omega) ⟨FrP_0, fun r hr => absurd hr (Nat.not_lt_zero r), fun _ _ => rfl, rfl, rfl, rfl⟩
  refine V_iload_n C dX4_choose_0 rfl ?_
  refine V_istore_n C dX4_choose_1 (by decide) rfl ?_
  simp only [lset1, lset2, List.filter_cons, List.filter_nil, Nat.reduceBEq, Nat.reduceAdd, Bool.not_true, Bool.not_false, Bool.and_true, Bool.and_false, Bool.true_and, Bool.false_and, if_true, if_false, Bool.false_eq_true, reduceIte]
  refine V_iconst C (v := 0) dX4_choose_2 (by decide) ?_
  refine V_istore_n C dX4_choose_3 (by decide) rfl ?_
  simp only [lset1, lset2, List.filter_cons, List.filter_nil, Nat.reduceBEq, Nat.reduceAdd, Bool.not_true, Bool.not_false, Bool.and_true, Bool.and_false, Bool.true_and, Bool.false_and, if_true, if_false, Bool.false_eq_true, reduceIte]
  refine V_sub ?_ L
  exact ⟨rfl, rfl, rfl, trivial⟩

