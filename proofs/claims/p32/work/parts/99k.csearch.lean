/-! THE CLASS: the plan searches. -/
noncomputable def wP (S : sS) (ad : Nat → Nat → Nat) (M : Nat) (r h : Nat) : Int := iteP (okS S ad M r h) (wS S ad r h) 0
theorem gnI_w {ok : Nat → Nat → Prop} {w w' : Nat → Nat → Int} {F : Nat → Int} {s h : Nat} (e : ∀ r, ok r h → w r h = w' r h) : gnI ok w F s h = gnI ok w' F s h := by
  unfold gnI
  by_cases z : F h < cntB s 5 ∨ ∃ r, r < 5 ∧ s.testBit r = true ∧ ¬ ok r h
  · rw [iteP_t z, iteP_t z]
  · rw [iteP_f z, iteP_f z]
    refine congrArg (-536870912 + ·) ?_
    unfold setW
    refine isum_congr 5 fun r hr => ?_
    by_cases b : s.testBit r = true
    · rw [if_pos b, if_pos b]
      unfold rowW
      rw [e r (Classical.byContradiction fun y => z (Or.inr ⟨r, hr, b, y⟩))]
    · rw [if_neg b, if_neg b]
theorem gnI_b {ok : Nat → Nat → Prop} {w : Nat → Nat → Int} {F : Nat → Int} {h : Nat} (hh : h < 10) (hw : ∀ r, r < 5 → -100 ≤ w r h ∧ w r h ≤ 200) (s : Nat) : -(2 ^ 40) ≤ gnI ok w F s h ∧ gnI ok w F s h ≤ 2 ^ 40 := by
  unfold gnI
  by_cases z : F h < cntB s 5 ∨ ∃ r, r < 5 ∧ s.testBit r = true ∧ ¬ ok r h
  · rw [iteP_t z]; omega
  · rw [iteP_f z]
    have := isum_b (f := fun r => if s.testBit r then rowW w r h else 0) (lo := 0) (hi := 17179869184) 5 fun r hr => by
      by_cases b : s.testBit r = true
      · rw [if_pos b]
        have a1 := row_pos (hw r hr).1 hh
        have a2 : rowW w r h ≤ 17179869184 := by
          unfold rowW
          have p : (10 - (h : Int)) * 11 ^ (4 - r) ≤ 10 * 11 ^ 4 := Int.mul_le_mul (by omega) (by
            rcases (show r = 0 ∨ r = 1 ∨ r = 2 ∨ r = 3 ∨ r = 4 by omega) with rfl | rfl | rfl | rfl | rfl <;> decide) (Int.pow_nonneg (by decide)) (by decide)
          have e : (10 : Int) * 11 ^ 4 = 146410 := rfl
          have := (hw r hr).2
          omega
        exact ⟨by omega, a2⟩
      · rw [if_neg b]; omega
    unfold setW
    omega
theorem dpD_b {gn : Nat → Nat → Int} {L : Nat} (hg : ∀ x, x < 10 → ∀ s, gn s x ≤ 2 ^ 40) : ∀ h, h ≤ 10 → ∀ s, -1 ≤ dpD gn L h s ∧ dpD gn L h s ≤ (h : Int) * 2 ^ 40
  | 0, _, s => by
    show -1 ≤ (if s = 0 then (0 : Int) else -1) ∧ (if s = 0 then (0 : Int) else -1) ≤ ((0 : Nat) : Int) * 2 ^ 40
    by_cases e : s = 0
    · rw [if_pos e]; omega
    · rw [if_neg e]; omega
  | h + 1, hh, s => by
    have ih := dpD_b (L := L) hg h (by omega)
    show -1 ≤ (if 1 ≤ s ∧ s < L then (dpI gn (dpD gn L h) h s (s + 1)).1 else dpD gn L h s) ∧ (if 1 ≤ s ∧ s < L then (dpI gn (dpD gn L h) h s (s + 1)).1 else dpD gn L h s) ≤ ((h + 1 : Nat) : Int) * 2 ^ 40
    have a := ih s
    by_cases w : 1 ≤ s ∧ s < L
    · rw [if_pos w]
      have l := dpI_le (gn := gn) (D := dpD gn L h) (h := h) (s := s) (j := 0) (s + 1)
      rw [Nat.zero_add] at l
      have l' : dpD gn L h s ≤ (dpI gn (dpD gn L h) h s (s + 1)).1 := l
      rcases dpI_at (gn := gn) (D := dpD gn L h) (h := h) (s := s) (s + 1) with ⟨-, z⟩ | ⟨-, -, -, -, -, z⟩
      · rw [z]; omega
      · have b := ih (sbt s (dpI gn (dpD gn L h) h s (s + 1)).2)
        have c := hg h (by omega) (dpI gn (dpD gn L h) h s (s + 1)).2
        omega
    · rw [if_neg w]; omega
theorem dpB_lt2 {gn : Nat → Nat → Int} {L : Nat} (hL : 1 ≤ L) : dpB (dpD gn L 10) 32 < L := Decidable.byContradiction fun z => by
  have h0 := dpB_le (D := dpD gn L 10) (k := 32) (s := 0) (by decide)
  rw [dpD_zero] at h0
  rw [dpD_big (by omega) z] at h0
  exact absurd h0 (by decide)
theorem c_X4_search (l : Launch) (hl : l.stackTraces = false) (G : gG) (S : sS) (ad : Nat → Nat → Nat) (σ : aS) (hC : RelC S ad σ) (n M : Nat) (hn : n ≤ 10) (hM : M ≤ 5) (i408 : sI S 408 (ad 4 0) = nI (2 ^ M)) (g0 : ∀ x, x < 10 → sA S (ad 27 x) 0 = 0) (hok : ∀ r h, okS S ad M r h → r < M ∧ h < n) (hwb : ∀ r h, r < M → h < n → okS S ad M r h → -100 ≤ wS S ad r h ∧ wS S ad r h ≤ 200) (d : Nat → Nat) (hd : ∀ r, r < M → d r ≤ n) (hf : feaW (okS S ad M) (FS S ad) n M d)
    (hb : ∀ c : Nat → Nat, (∀ r, r < M → c r ≤ n) → feaW (okS S ad M) (FS S ad) n M c → valI (wP S ad M) n M c < valI (wP S ad M) n M d ∨ (valI (wP S ad M) n M c = valI (wP S ad M) n M d ∧ rkN n d M ≤ rkN n c M)) : Ct l G yX4_search cX4_search 3 (Option.some FieldType.int) 3 0 0 [.ref (ad 4 0)] S (fun v T => v = some (.int (nI (cnP n d M))) ∧ FrP S T ∧ (∀ r, r < 5 → sA T (ad 22 0) r = (if r < M ∧ d r < n then nI (d r) else -1)) ∧ sQ T = sQ S ∧ sI T = sI S) (fun _ _ => False) := by
  refine Ct_of (by decide) (cat1_all (by repeat first | exact trivial | refine ⟨by first | rfl | exact isR_c (isR_q _), ?_⟩)) (Nat.le_of_ble_eq_true rfl) hl fun X C hXl hin => ?_
  subst hXl
  dsimp only [lArgs, Nat.reduceAdd]
  have h32 : 2 ^ M ≤ 32 := Nat.pow_le_pow_right (n := 2) (by decide) hM
  have hpos : 0 < 2 ^ M := Nat.pow_pos (by decide)
  have hwP : ∀ r h, r < 5 → h < 10 → -100 ≤ wP S ad M r h ∧ wP S ad M r h ≤ 200 := fun r h _ _ => by
    unfold wP
    by_cases z : okS S ad M r h
    · rw [iteP_t z]
      have := hok r h z
      exact hwb r h this.1 this.2 z
    · rw [iteP_f z]; omega
  obtain ⟨gn, hgn⟩ : ∃ gn, gn = gnI (okS S ad M) (wP S ad M) (FS S ad) := ⟨_, rfl⟩
  obtain ⟨e1, e2⟩ := search_is hn hM hok hwP hd hf hb
  rw [← hgn] at e1 e2
  have gb : ∀ x, x < 10 → ∀ s, -(2 ^ 40) ≤ gn s x ∧ gn s x ≤ 2 ^ 40 := fun x hx s => by rw [hgn]; exact gnI_b hx (fun r hr => hwP r x hr hx) s
  have Db := dpD_b (gn := gn) (L := 2 ^ M) fun x hx s => (gb x hx s).2
  have Db2 : ∀ h, h ≤ 10 → ∀ s, -(2 ^ 62) ≤ dpD gn (2 ^ M) h s ∧ dpD gn (2 ^ M) h s ≤ 2 ^ 62 := fun h hh s => by
    have := Db h hh s
    omega
  have bl : dpB (dpD gn (2 ^ M) 10) 32 < 2 ^ M := dpB_lt2 hpos
  have n2728 : ∀ x, x < 10 → ∀ i, (i = 22 ∨ i = 25) → ad i 0 ≠ ad 27 x := fun x hx i hi e => by
    have a : sK S (ad 27 x) = 181 := RelC_kd hC 27 (by decide) hx rfl
    rcases hi with rfl | rfl
    · have c : sK S (ad 22 0) = 151 := RelC_kd hC 22 (by decide) rfl rfl
      rw [← e, c] at a; exact absurd a (by decide)
    · have c : sK S (ad 25 0) = 171 := RelC_kd hC 25 (by decide) rfl rfl
      rw [← e, c] at a; exact absurd a (by decide)
  have n2724 : ∀ x, x < 10 → ∀ r, r < 5 → ad 24 r ≠ ad 27 x := fun x hx r hr e => by
    have a : sK S (ad 27 x) = 181 := RelC_kd hC 27 (by decide) hx rfl
    have c : sK S (ad 24 r) = 161 := RelC_kd hC 24 (by decide) hr rfl
    rw [← e, c] at a; exact absurd a (by decide)
  have i2729 : ∀ x y, x < 10 → y < 10 → ad 27 x = ad 27 y → x = y := fun x y hx hy e => hC.2.1 27 x y (by decide) (by decide) (by decide) hx hy e
  have n2829 : ad 29 0 ≠ ad 28 0 := fun e => by
    have a : sK S (ad 28 0) = 103 := RelC_kd hC 28 (by decide) rfl rfl
    have c : sK S (ad 29 0) = 113 := RelC_kd hC 29 (by decide) rfl rfl
    rw [← e, c] at a; exact absurd a (by decide)
  have cntE : bcF (nI (dpB (dpD gn (2 ^ M) 10) 32)) = nI (cnP n d M) := by
    refine Int32.toInt_inj.mp ?_
    have cl := cnP_le (n := n) (a := d) M
    rw [bcF32 _ (by omega), nI_toInt (by omega), ← ctP_n]
    unfold cntB ctP
    have q := isum_tail (f := fun r => if r < M ∧ d r < n then (1 : Int) else 0) (M := M) (5 - M) fun r h1 h2 => if_neg fun z => by omega
    rw [show M + (5 - M) = 5 by omega] at q
    rw [isum_congr (g := fun r => if r < M ∧ d r < n then (1 : Int) else 0) 5 fun r hr => by
      by_cases z : r < M ∧ d r < n
      · rw [if_pos ((e2 r hr).mpr z), if_pos z]
      · rw [if_neg fun y => z ((e2 r hr).mp y), if_neg z], q]
    refine isum_congr M fun r hr => ?_
    by_cases z : d r < n
    · rw [if_pos ⟨hr, z⟩, if_pos z]
    · rw [if_neg fun y => z y.2, if_neg z]
  -- the best set, and the choice
  have best : ∀ (t k : Nat) (T : sS), k + t = 32 → 1 ≤ k → (FrP S T ∧ (∀ s, s < 32 → sJ T (ad 29 0) s = lZ (dpD gn (2 ^ M) 10 s)) ∧ (∀ x, x < 10 → ∀ s, s < 2 ^ M → sA T (ad 27 x) s = nI (dpG gn (2 ^ M) x s)) ∧ sQ T = sQ S ∧ sI T = sI S) → V X G 3 (eQ X G (fun v T => v = some (.int (nI (cnP n d M))) ∧ FrP S T ∧ (∀ r, r < 5 → sA T (ad 22 0) r = (if r < M ∧ d r < n then nI (d r) else -1)) ∧ sQ T = sQ S ∧ sI T = sI S) (fun _ _ => False) 0 0) 0 0 58 [(2, false, .int (nI k)), (1, false, .int (nI (dpB (dpD gn (2 ^ M) 10) k))), (0, false, .ref (ad 4 0))] [] T := by
    intro t
    induction t with
    | zero =>
      intro k T hk h1 hT
      obtain rfl : k = 32 := by omega
      obtain ⟨f, t1, t2, t3, t4⟩ := hT
      have hR : RelC T ad σ := RelC_P hC f
      have kp2 : sK T (ad 4 0) = 5 := RelC_K hR 4 (by decide) rfl
      refine V_iload_n C dX4_search_58 rfl ?_
      refine V_bipush C (v := 32) dX4_search_59 (by decide) ?_
      refine V_icmp_ge C (tgt := 88) dX4_search_61 (by decide) (fun h61 => ?_) (fun h61 => ?_)
      · refine V_aload_n C dX4_search_88 rfl (by first | exact isR_r _ | exact isR_q _ | exact isR_n) ?_
        refine V_iload_n C dX4_search_89 rfl ?_
        refine V_callV C (c_X4_choose _ hl G T ad σ hR n M hn hM gn (2 ^ M) (dpB (dpD gn (2 ^ M) 10) 32) (by omega) d e1 (fun x hx s hs => t2 x hx s (by omega))) kv_X4_56 cf_4 (by decide) rfl kp2 (by decide) (by decide) rfl rfl (Nat.le_of_ble_eq_true rfl) dX4_search_90 ?_ (fun _ _ h => h.elim)
        intro w1 T1 hT1
        obtain ⟨rfl, f1, u1, u2, u3, u4, u5⟩ := hT1
        dsimp only [Option.toList_some, Option.toList_none, List.cons_append, List.nil_append]
        refine V_iload_n C dX4_search_93 rfl ?_
        refine V_fS C (c_J6_bitCount _ hl G T1 _) ks_X4_59 (by decide) (by decide) rfl rfl (Nat.le_of_ble_eq_true rfl) dX4_search_94 ?_
        dsimp only [Option.toList_some, Option.toList_none, List.cons_append, List.nil_append]
        refine V_iret C (by first | omega | decide) (by first | omega | decide) dX4_search_97 ?_
        rw [cntE]
        exact ⟨rfl, FrP_tr f f1, u1, u3.trans t3, u4.trans t4⟩
      · exact absurd (by decide) h61
    | succ t ih =>
      intro k T hk h1 hT
      have hk32 : k < 32 := by omega
      obtain ⟨f, t1, t2, t3, t4⟩ := hT
      have hR : RelC T ad σ := RelC_P hC f
      have kp2 : sK T (ad 4 0) = 5 := RelC_K hR 4 (by decide) rfl
      have r6 : sR T 406 (ad 4 0) = some (ad 29 0) := RelC_pR hR 406 29 (by decide) rfl rfl
      have k29 : sK T (ad 29 0) = 113 := RelC_kd hR 29 (by decide) rfl rfl
      have l29 : sL T (ad 29 0) = 32 := RelC_ln hR 29 (by decide) rfl rfl
      have bk : dpB (dpD gn (2 ^ M) 10) k < 32 := by
        have := dpB_lt (D := dpD gn (2 ^ M) 10) (k - 1)
        rw [show k - 1 + 1 = k by omega] at this
        omega
      have v1 := t1 k hk32
      have v2 := t1 _ bk
      have L := ih (k + 1) T (by omega) (by omega) ⟨f, t1, t2, t3, t4⟩
      by_cases q : dpD gn (2 ^ M) 10 (dpB (dpD gn (2 ^ M) 10) k) < dpD gn (2 ^ M) 10 k
      · rw [dpB, if_pos q] at L
        refine V_iload_n C dX4_search_58 rfl ?_
        refine V_bipush C (v := 32) dX4_search_59 (by decide) ?_
        refine V_icmp_ge C (tgt := 88) dX4_search_61 (by decide) (fun h61 => ?_) (fun h61 => ?_)
        · exact absurd ((nI_leI (a := 32) (b := k) (by decide) (by omega)).mp h61) (by omega)
        · refine V_aload_n C dX4_search_64 rfl (by first | exact isR_r _ | exact isR_q _ | exact isR_n) ?_
          refine V_getS C 4 6 rfl cf_4 fl_X4_36 (by decide) (by decide) dX4_search_65 kp2 r6 ?_
          refine V_iload_n C dX4_search_68 rfl ?_
          refine V_laldE C k29 (by decide) l29 rfl hk32 (by decide) dX4_search_69 ?_
          rw [v1]
          refine V_aload_n C dX4_search_70 rfl (by first | exact isR_r _ | exact isR_q _ | exact isR_n) ?_
          refine V_getS C 4 6 rfl cf_4 fl_X4_36 (by decide) (by decide) dX4_search_71 kp2 r6 ?_
          refine V_iload_n C dX4_search_74 rfl ?_
          refine V_laldE C k29 (by decide) l29 rfl bk (by decide) dX4_search_75 ?_
          rw [v2]
          refine V_lcmp C dX4_search_76 ?_
          refine V_if_le C (tgt := 82) dX4_search_77 (by decide) (fun h77 => ?_) (fun h77 => ?_)
          · exact absurd ((lZ_le (Db2 10 (by decide) _) (Db2 10 (by decide) _)).mp ((lg_cmp_le _ _).mp h77)) (by omega)
          · refine V_iload_n C dX4_search_80 rfl ?_
            refine V_istore_n C dX4_search_81 (by decide) rfl ?_
            simp only [lset1, lset2, List.filter_cons, List.filter_nil, Nat.reduceBEq, Nat.reduceAdd, Bool.not_true, Bool.not_false, Bool.and_true, Bool.and_false, Bool.true_and, Bool.false_and, if_true, if_false, Bool.false_eq_true, reduceIte]
            refine V_incN C dX4_search_82 rfl (by decide) rfl ?_
            simp only [lset1, lset2, List.filter_cons, List.filter_nil, Nat.reduceBEq, Nat.reduceAdd, Bool.not_true, Bool.not_false, Bool.and_true, Bool.and_false, Bool.true_and, Bool.false_and, if_true, if_false, Bool.false_eq_true, reduceIte]
            refine V_goto C (tgt := 58) dX4_search_85 (by decide) ?_
            refine V_sub ?_ L
            exact ⟨rfl, rfl, rfl, trivial⟩
      · rw [dpB, if_neg q] at L
        refine V_iload_n C dX4_search_58 rfl ?_
        refine V_bipush C (v := 32) dX4_search_59 (by decide) ?_
        refine V_icmp_ge C (tgt := 88) dX4_search_61 (by decide) (fun h61 => ?_) (fun h61 => ?_)
        · exact absurd ((nI_leI (a := 32) (b := k) (by decide) (by omega)).mp h61) (by omega)
        · refine V_aload_n C dX4_search_64 rfl (by first | exact isR_r _ | exact isR_q _ | exact isR_n) ?_
          refine V_getS C 4 6 rfl cf_4 fl_X4_36 (by decide) (by decide) dX4_search_65 kp2 r6 ?_
          refine V_iload_n C dX4_search_68 rfl ?_
          refine V_laldE C k29 (by decide) l29 rfl hk32 (by decide) dX4_search_69 ?_
          rw [v1]
          refine V_aload_n C dX4_search_70 rfl (by first | exact isR_r _ | exact isR_q _ | exact isR_n) ?_
          refine V_getS C 4 6 rfl cf_4 fl_X4_36 (by decide) (by decide) dX4_search_71 kp2 r6 ?_
          refine V_iload_n C dX4_search_74 rfl ?_
          refine V_laldE C k29 (by decide) l29 rfl bk (by decide) dX4_search_75 ?_
          rw [v2]
          refine V_lcmp C dX4_search_76 ?_
          refine V_if_le C (tgt := 82) dX4_search_77 (by decide) (fun h77 => ?_) (fun h77 => ?_)
          · refine V_incN C dX4_search_82 rfl (by decide) rfl ?_
            simp only [lset1, lset2, List.filter_cons, List.filter_nil, Nat.reduceBEq, Nat.reduceAdd, Bool.not_true, Bool.not_false, Bool.and_true, Bool.and_false, Bool.true_and, Bool.false_and, if_true, if_false, Bool.false_eq_true, reduceIte]
            refine V_goto C (tgt := 58) dX4_search_85 (by decide) ?_
            refine V_sub ?_ L
            exact ⟨rfl, rfl, rfl, trivial⟩
          · exact absurd ((lg_cmp_le _ _).mpr ((lZ_le (Db2 10 (by decide) _) (Db2 10 (by decide) _)).mpr (Int.not_lt.mp q))) h77
  -- the homes, one after the other
  have homes : ∀ (t h : Nat) (T : sS), h + t = 10 → (FrP S T ∧ (∀ s, s < 32 → sJ T (ad 29 0) s = lZ (dpD gn (2 ^ M) h s)) ∧ (∀ x, x < h → ∀ s, s < 2 ^ M → sA T (ad 27 x) s = nI (dpG gn (2 ^ M) x s)) ∧ (∀ a, (∀ x, x < 10 → a ≠ ad 27 x) → sA T a = sA S a) ∧ sQ T = sQ S ∧ sI T = sI S) → V X G 3 (eQ X G (fun v T => v = some (.int (nI (cnP n d M))) ∧ FrP S T ∧ (∀ r, r < 5 → sA T (ad 22 0) r = (if r < M ∧ d r < n then nI (d r) else -1)) ∧ sQ T = sQ S ∧ sI T = sI S) (fun _ _ => False) 0 0) 0 0 32 [(1, false, .int (nI h)), (0, false, .ref (ad 4 0))] [] T := by
    intro t
    induction t with
    | zero =>
      intro h T hh hT
      obtain rfl : h = 10 := by omega
      obtain ⟨f, t1, t2, t3, t4, t5⟩ := hT
      have L := best 31 1 T (by omega) (Nat.le_refl 1) ⟨f, t1, t2, t4, t5⟩
      rw [show dpB (dpD gn (2 ^ M) 10) 1 = 0 by
        show (if dpD gn (2 ^ M) 10 0 < dpD gn (2 ^ M) 10 0 then 0 else 0) = 0
        split <;> rfl] at L
      refine V_iload_n C dX4_search_32 rfl ?_
      refine V_bipush C (v := 10) dX4_search_33 (by decide) ?_
      refine V_icmp_ge C (tgt := 54) dX4_search_35 (by decide) (fun h35 => ?_) (fun h35 => ?_)
      · refine V_iconst C (v := 0) dX4_search_54 (by decide) ?_
        refine V_istore_n C dX4_search_55 (by decide) rfl ?_
        simp only [lset1, lset2, List.filter_cons, List.filter_nil, Nat.reduceBEq, Nat.reduceAdd, Bool.not_true, Bool.not_false, Bool.and_true, Bool.and_false, Bool.true_and, Bool.false_and, if_true, if_false, Bool.false_eq_true, reduceIte]
        refine V_iconst C (v := 1) dX4_search_56 (by decide) ?_
        refine V_istore_n C dX4_search_57 (by decide) rfl ?_
        simp only [lset1, lset2, List.filter_cons, List.filter_nil, Nat.reduceBEq, Nat.reduceAdd, Bool.not_true, Bool.not_false, Bool.and_true, Bool.and_false, Bool.true_and, Bool.false_and, if_true, if_false, Bool.false_eq_true, reduceIte]
        refine V_sub ?_ L
        exact ⟨rfl, rfl, rfl, trivial⟩
      · exact absurd (by decide) h35
    | succ t ih =>
      intro h T hh hT
      have hh9 : h < 10 := by omega
      obtain ⟨f, t1, t2, t3, t4, t5⟩ := hT
      have hR : RelC T ad σ := RelC_P hC f
      have kp2 : sK T (ad 4 0) = 5 := RelC_K hR 4 (by decide) rfl
      have i2 : sI T 408 (ad 4 0) = nI (2 ^ M) := by rw [t5]; exact i408
      have eo : okS T ad M = okS S ad M := by
        unfold okS
        funext r x
        by_cases z : r < M
        · rw [t3 _ fun y hy => n2724 y hy r (by omega)]
        · exact propext ⟨fun q => absurd q.1 z, fun q => absurd q.1 z⟩
      have eF : FS T ad = FS S ad := by
        unfold FS
        rw [t3 _ fun y hy => n2728 y hy 25 (by omega)]
      have ew : ∀ r x, okS S ad M r x → wS T ad r x = wP S ad M r x := fun r x q => by
        unfold wP
        rw [iteP_t q]
        unfold wS
        rw [t3 _ fun y hy => n2724 y hy r (by have := q.1; omega)]
      refine V_iload_n C dX4_search_32 rfl ?_
      refine V_bipush C (v := 10) dX4_search_33 (by decide) ?_
      refine V_icmp_ge C (tgt := 54) dX4_search_35 (by decide) (fun h35 => ?_) (fun h35 => ?_)
      · exact absurd ((nI_leI (a := 10) (b := h) (by decide) (by omega)).mp h35) (by omega)
      · refine V_aload_n C dX4_search_38 rfl (by first | exact isR_r _ | exact isR_q _ | exact isR_n) ?_
        refine V_iload_n C dX4_search_39 rfl ?_
        refine V_callV C (c_X4_weighSets _ hl G T ad σ hR M hM i2 h hh9) kv_X4_49 cf_4 (by decide) rfl kp2 (by decide) (by decide) rfl rfl (Nat.le_of_ble_eq_true rfl) dX4_search_40 ?_ (fun _ _ h => h.elim)
        intro w1 T1 hT1
        obtain ⟨rfl, f1, u1, u2, u3, u4, u5⟩ := hT1
        dsimp only [Option.toList_some, Option.toList_none, List.cons_append, List.nil_append]
        have hR1 : RelC T1 ad σ := RelC_P hR f1
        have kp3 : sK T1 (ad 4 0) = 5 := RelC_K hR1 4 (by decide) rfl
        have i3 : sI T1 408 (ad 4 0) = nI (2 ^ M) := by rw [u5]; exact i2
        have hG1 : ∀ s, 1 ≤ s → s < 2 ^ M → sJ T1 (ad 28 0) s = lZ (gn s h) := fun s s1 s2 => by
          rw [u1 s s1 s2, eo, eF, gnI_w (w' := wP S ad M) fun r q => ew r h q, hgn]
        have hV1 : ∀ s, s < 2 ^ M → sJ T1 (ad 29 0) s = lZ (dpD gn (2 ^ M) h s) := fun s hs => by
          rw [u2 _ n2829]; exact t1 s (by omega)
        refine V_aload_n C dX4_search_43 rfl (by first | exact isR_r _ | exact isR_q _ | exact isR_n) ?_
        refine V_iload_n C dX4_search_44 rfl ?_
        refine V_callV C (c_X4_addHome _ hl G T1 ad σ hR1 M hM i3 h hh9 gn (dpD gn (2 ^ M) h) (fun s _ => by have := Db h (by omega) s; omega) (fun s => by have := gb h hh9 s; omega) hG1 hV1) kv_X4_53 cf_4 (by decide) rfl kp3 (by decide) (by decide) rfl rfl (Nat.le_of_ble_eq_true rfl) dX4_search_45 ?_ (fun _ _ h => h.elim)
        intro w2 T2 hT2
        obtain ⟨rfl, f2, v1, v2, v3, v4, v5, v6, v7⟩ := hT2
        dsimp only [Option.toList_some, Option.toList_none, List.cons_append, List.nil_append]
        have L := ih (h + 1) T2 (by omega) ⟨FrP_tr f (FrP_tr f1 f2), fun s hs => by
            by_cases z : s < 2 ^ M
            · rw [v1 s z]
              refine congrArg lZ ?_
              show _ = if 1 ≤ s ∧ s < 2 ^ M then (dpI gn (dpD gn (2 ^ M) h) h s (s + 1)).1 else dpD gn (2 ^ M) h s
              by_cases y : 1 ≤ s
              · rw [if_pos y, if_pos ⟨y, z⟩]
              · rw [if_neg y, if_neg fun q => y q.1]
            · rw [v2 s z, u2 _ n2829, t1 s hs]
              refine congrArg lZ ?_
              exact (if_neg fun q => z q.2).symm, fun x hx s hs => by
            by_cases y : x = h
            · subst y
              by_cases w : 1 ≤ s
              · rw [v3 s w hs]
                refine congrArg nI ?_
                exact (if_pos ⟨w, hs⟩).symm
              · obtain rfl : s = 0 := by omega
                have a0 := (FrP_tr f (FrP_tr f1 f2)).2.2.2.2.2.2.2 (ad 27 x) (RelC_kd hC 27 (by decide) hh9 rfl)
                rw [a0, g0 x hh9, show dpG gn (2 ^ M) x 0 = 0 from if_neg fun q => w q.1]; rfl
            · rw [v5 _ (fun q => y (i2729 x h (by omega) hh9 q)), u3]
              exact t2 x (by omega) s hs, fun a ha => by rw [v5 a (ha h hh9), u3]; exact t3 a ha, v6.trans (u4.trans t4), v7.trans (u5.trans t5)⟩
        refine V_incN C dX4_search_48 rfl (by decide) rfl ?_
        simp only [lset1, lset2, List.filter_cons, List.filter_nil, Nat.reduceBEq, Nat.reduceAdd, Bool.not_true, Bool.not_false, Bool.and_true, Bool.and_false, Bool.true_and, Bool.false_and, if_true, if_false, Bool.false_eq_true, reduceIte]
        refine V_goto C (tgt := 32) dX4_search_51 (by decide) ?_
        refine V_sub ?_ L
        exact ⟨rfl, rfl, trivial⟩
  -- the values at first
  have first : ∀ (t i : Nat) (T : sS), i + t = 32 → 1 ≤ i → (FrP S T ∧ (∀ s, s < i → sJ T (ad 29 0) s = lZ (if s = 0 then 0 else -1)) ∧ sA T = sA S ∧ sQ T = sQ S ∧ sI T = sI S) → V X G 3 (eQ X G (fun v T => v = some (.int (nI (cnP n d M))) ∧ FrP S T ∧ (∀ r, r < 5 → sA T (ad 22 0) r = (if r < M ∧ d r < n then nI (d r) else -1)) ∧ sQ T = sQ S ∧ sI T = sI S) (fun _ _ => False) 0 0) 0 0 9 [(1, false, .int (nI i)), (0, false, .ref (ad 4 0))] [] T := by
    intro t
    induction t with
    | zero =>
      intro i T hi h1 hT
      obtain rfl : i = 32 := by omega
      obtain ⟨f, t1, t2, t3, t4⟩ := hT
      have L := homes 10 0 T (by omega) ⟨f, t1, fun x hx => absurd hx (Nat.not_lt_zero x), fun a _ => by rw [t2], t3, t4⟩
      refine V_iload_n C dX4_search_9 rfl ?_
      refine V_bipush C (v := 32) dX4_search_10 (by decide) ?_
      refine V_icmp_ge C (tgt := 30) dX4_search_12 (by decide) (fun h12 => ?_) (fun h12 => ?_)
      · refine V_iconst C (v := 0) dX4_search_30 (by decide) ?_
        refine V_istore_n C dX4_search_31 (by decide) rfl ?_
        simp only [lset1, lset2, List.filter_cons, List.filter_nil, Nat.reduceBEq, Nat.reduceAdd, Bool.not_true, Bool.not_false, Bool.and_true, Bool.and_false, Bool.true_and, Bool.false_and, if_true, if_false, Bool.false_eq_true, reduceIte]
        refine V_sub ?_ L
        exact ⟨rfl, rfl, trivial⟩
      · exact absurd (by decide) h12
    | succ t ih =>
      intro i T hi h1 hT
      have hi32 : i < 32 := by omega
      obtain ⟨f, t1, t2, t3, t4⟩ := hT
      have hR : RelC T ad σ := RelC_P hC f
      have kp2 : sK T (ad 4 0) = 5 := RelC_K hR 4 (by decide) rfl
      have r6 : sR T 406 (ad 4 0) = some (ad 29 0) := RelC_pR hR 406 29 (by decide) rfl rfl
      have k29 : sK T (ad 29 0) = 113 := RelC_kd hR 29 (by decide) rfl rfl
      have l29 : sL T (ad 29 0) = 32 := RelC_ln hR 29 (by decide) rfl rfl
      have L := ih (i + 1) (pJ T (ad 29 0) i (-1)) (by omega) (by omega) ⟨FrP_tr f (FrP_J (Or.inr k29)), fun s hs => by
        rw [sJ_s]
        by_cases e : s = i
        · subst e; rw [up1_s, if_neg (by omega)]; rfl
        · rw [up1_n e]; exact t1 s (by omega), t2, t3, t4⟩
      refine V_iload_n C dX4_search_9 rfl ?_
      refine V_bipush C (v := 32) dX4_search_10 (by decide) ?_
      refine V_icmp_ge C (tgt := 30) dX4_search_12 (by decide) (fun h12 => ?_) (fun h12 => ?_)
      · exact absurd ((nI_leI (a := 32) (b := i) (by decide) (by omega)).mp h12) (by omega)
      · refine V_aload_n C dX4_search_15 rfl (by first | exact isR_r _ | exact isR_q _ | exact isR_n) ?_
        refine V_getS C 4 6 rfl cf_4 fl_X4_36 (by decide) (by decide) dX4_search_16 kp2 r6 ?_
        refine V_iload_n C dX4_search_19 rfl ?_
        refine V_ldc2 C dX4_search_20 cs_X4_47 ?_
        refine V_lastE C k29 (by decide) l29 hi32 (by decide) dX4_search_23 ?_
        refine V_incN C dX4_search_24 rfl (by decide) rfl ?_
        simp only [lset1, lset2, List.filter_cons, List.filter_nil, Nat.reduceBEq, Nat.reduceAdd, Bool.not_true, Bool.not_false, Bool.and_true, Bool.and_false, Bool.true_and, Bool.false_and, if_true, if_false, Bool.false_eq_true, reduceIte]
        refine V_goto C (tgt := 9) dX4_search_27 (by decide) ?_
        refine V_sub ?_ L
        exact ⟨rfl, rfl, trivial⟩
  have kp : sK S (ad 4 0) = 5 := RelC_K hC 4 (by decide) rfl
  have r6 : sR S 406 (ad 4 0) = some (ad 29 0) := RelC_pR hC 406 29 (by decide) rfl rfl
  have k29 : sK S (ad 29 0) = 113 := RelC_kd hC 29 (by decide) rfl rfl
  have l29 : sL S (ad 29 0) = 32 := RelC_ln hC 29 (by decide) rfl rfl
  have L := first 31 1 (pJ S (ad 29 0) 0 0) (by omega) (Nat.le_refl 1) ⟨FrP_J (Or.inr k29), fun s hs => by
    obtain rfl : s = 0 := by omega
    rw [sJ_s, up1_s]; rfl, rfl, rfl, rfl⟩
  refine V_aload_n C dX4_search_0 rfl (by first | exact isR_r _ | exact isR_q _ | exact isR_n) ?_
  refine V_getS C 4 6 rfl cf_4 fl_X4_36 (by decide) (by decide) dX4_search_1 kp r6 ?_
  refine V_iconst C (v := 0) dX4_search_4 (by decide) ?_
  refine V_lconst C (v := 0) dX4_search_5 (by decide) ?_
  refine V_lastE C (j := 0) k29 (by decide) l29 (by decide) (by decide) dX4_search_6 ?_
  refine V_iconst C (v := 1) dX4_search_7 (by decide) ?_
  refine V_istore_n C dX4_search_8 (by decide) rfl ?_
  simp only [lset1, lset2, List.filter_cons, List.filter_nil, Nat.reduceBEq, Nat.reduceAdd, Bool.not_true, Bool.not_false, Bool.and_true, Bool.and_false, Bool.true_and, Bool.false_and, if_true, if_false, Bool.false_eq_true, reduceIte]
  refine V_sub ?_ L
  exact ⟨rfl, rfl, trivial⟩

