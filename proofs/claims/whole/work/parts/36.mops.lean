/-! THE REFERENCE: what is told of homes and children. -/
theorem c_X9_goes (l : Launch) (hl : l.stackTraces = false) (G : gG) (S : sS) (m : Nat) (hm : sK S m = 10) (x y z : Int32) : CtF l G yX9_goes cX9_goes 4 (Option.some FieldType.boolean) 1 0 0 [.ref m, .int x, .int y, .int z] S (some (.int (bI (gT x y z = 0)))) (pI S 956 m (gT x y z)) := by
  refine Ct_of (by decide) (cat1_all (by repeat first | exact trivial | refine ⟨by first | rfl | exact isR_c (isR_q _), ?_⟩)) (Nat.le_of_ble_eq_true rfl) hl fun X C hXl hin => ?_
  subst hXl
  dsimp only [lArgs, Nat.reduceAdd]
  have e : sI (pI S 956 m (gT x y z)) 956 m = gT x y z := up2_s
  have J : ∀ t : Int32, t = gT x y z → V X G 4 (eQ X G (fun v T => v = some (.int (bI (gT x y z = 0))) ∧ T = pI S 956 m (gT x y z)) (fun _ _ => False) 0 0) 0 0 26 [(0, false, .ref m), (1, false, .int x), (2, false, .int y), (3, false, .int z)] [.int t, .ref m] S := fun t ht => by
    subst ht
    refine V_putI C 9 56 rfl cf_9 pl_X9_158 (by decide) (by decide) dX9_goes_26 (by assumption) ?_
    refine V_aload_n C dX9_goes_29 rfl (by first | exact isR_r _ | exact isR_q _ | exact isR_n) ?_
    refine V_getIe C 9 56 rfl cf_9 fl_X9_158 (by decide) (by decide) dX9_goes_30 (by assumption) e ?_
    refine V_if_ne C (tgt := 40) dX9_goes_33 (by decide) (fun h33 => ?_) (fun h33 => ?_)
    · refine V_iconst C (v := 0) dX9_goes_40 (by decide) ?_
      refine V_zret C rfl (by decide) (by decide) dX9_goes_41 ?_
      exact ⟨by rw [bI_f h33], rfl⟩
    · refine V_iconst C (v := 1) dX9_goes_36 (by decide) ?_
      refine V_goto C (tgt := 41) dX9_goes_37 (by decide) ?_
      refine V_zret C (by first | rfl | exact bI_nz _) (by first | omega | decide) (by first | omega | decide) dX9_goes_41 ?_
      exact ⟨by rw [bI_t h33], rfl⟩
  refine V_aload_n C dX9_goes_0 rfl (by first | exact isR_r _ | exact isR_q _ | exact isR_n) ?_
  refine V_iload_n C dX9_goes_1 rfl ?_
  refine V_if_ne C (tgt := 9) dX9_goes_2 (by decide) (fun h2 => ?_) (fun h2 => ?_)
  · refine V_iload_n C dX9_goes_9 rfl ?_
    refine V_if_ne C (tgt := 17) dX9_goes_10 (by decide) (fun h10 => ?_) (fun h10 => ?_)
    · refine V_iload_n C dX9_goes_17 rfl ?_
      refine V_if_ne C (tgt := 25) dX9_goes_18 (by decide) (fun h18 => ?_) (fun h18 => ?_)
      · refine V_iconst C (v := 0) dX9_goes_25 (by decide) ?_
        refine J _ ?_
        unfold gT
        first | (rw [if_pos h2]; done) | (rw [if_neg h2, if_pos h10]; done) | (rw [if_neg h2, if_neg h10, if_pos h18]; done) | (rw [if_neg h2, if_neg h10, if_neg h18]; done)
      · refine V_iconst C (v := 3) dX9_goes_21 (by decide) ?_
        refine V_goto C (tgt := 26) dX9_goes_22 (by decide) ?_
        refine J _ ?_
        unfold gT
        first | (rw [if_pos h2]; done) | (rw [if_neg h2, if_pos h10]; done) | (rw [if_neg h2, if_neg h10, if_pos h18]; done) | (rw [if_neg h2, if_neg h10, if_neg h18]; done)
    · refine V_iconst C (v := 2) dX9_goes_13 (by decide) ?_
      refine V_goto C (tgt := 26) dX9_goes_14 (by decide) ?_
      refine J _ ?_
      unfold gT
      first | (rw [if_pos h2]; done) | (rw [if_neg h2, if_pos h10]; done) | (rw [if_neg h2, if_neg h10, if_pos h18]; done) | (rw [if_neg h2, if_neg h10, if_neg h18]; done)
  · refine V_iconst C (v := 1) dX9_goes_5 (by decide) ?_
    refine V_goto C (tgt := 26) dX9_goes_6 (by decide) ?_
    refine J _ ?_
    unfold gT
    first | (rw [if_pos h2]; done) | (rw [if_neg h2, if_pos h10]; done) | (rw [if_neg h2, if_neg h10, if_pos h18]; done) | (rw [if_neg h2, if_neg h10, if_neg h18]; done)
theorem tTells_or {σ : aS} {h s : Int32} : ∀ n, tTells σ h s n = σ.2 27 ∨ ∃ j, j < n ∧ tTells σ h s n = nI j
  | 0 => Or.inl rfl
  | n + 1 => by
    unfold tTells
    by_cases q : σ.1 28 n = h ∧ σ.1 29 n = s ∧ σ.1 30 n = σ.2 0
    · rw [if_pos q]; exact Or.inr ⟨n, Nat.lt_succ_self n, rfl⟩
    · rw [if_neg q]
      rcases tTells_or n with e | ⟨j, h1, h2⟩
      · exact Or.inl e
      · exact Or.inr ⟨j, Nat.lt_succ_of_lt h1, h2⟩
theorem tTells_f {σ : aS} {h s : Int32} {n : Nat} (q : ¬ (σ.1 28 n = h ∧ σ.1 29 n = s ∧ σ.1 30 n = σ.2 0)) : tTells σ h s (n + 1) = tTells σ h s n := if_neg q
theorem tTells_t {σ : aS} {h s : Int32} {n : Nat} (q : σ.1 28 n = h ∧ σ.1 29 n = s ∧ σ.1 30 n = σ.2 0) : tTells σ h s (n + 1) = nI n := if_pos q
theorem c_X9_tells (l : Launch) (hl : l.stackTraces = false) (G : gG) (S : sS) (m : Nat) (σ : aS) (hR : RelR S m σ) (hI : IC σ) (h s a b u : Int32) : CtR l G yX9_tells cX9_tells 8 none 1 [.ref m, .int h, .int s, .int a, .int b, .int u] S m none (oTells σ h s a b u) := by
  have hm := hR.1
  obtain ⟨n, hn⟩ : ∃ n, n = cN σ 27 := ⟨_, rfl⟩
  have hn16 : n ≤ 512 := by rw [hn]; exact hI.2.2.2.1.2
  have en : σ.2 27 = nI n := by rw [hn]; exact hI.2.2.2.1.1
  have n1 : sI S 927 m = nI n := (hR.2.2 27).trans en
  obtain ⟨w, hw, ew⟩ : ∃ w, w < 1024 ∧ tTells σ h s n = nI w := by
    rcases tTells_or (σ := σ) (h := h) (s := s) n with e | ⟨j, h1, h2⟩
    · exact ⟨n, by omega, e.trans en⟩
    · exact ⟨j, by omega, h2⟩
  have n0 : sI S 900 m = σ.2 0 := hR.2.2 0
  obtain ⟨a28, r28, k28, l28, e28⟩ : ∃ a, sR S 928 m = some a ∧ sK S a = 1281 ∧ sL S a = 1024 ∧ sA S a = σ.1 28 := hR.2.1 28 rfl
  obtain ⟨a29, r29, k29, l29, e29⟩ : ∃ a, sR S 929 m = some a ∧ sK S a = 1291 ∧ sL S a = 1024 ∧ sA S a = σ.1 29 := hR.2.1 29 rfl
  obtain ⟨a30, r30, k30, l30, e30⟩ : ∃ a, sR S 930 m = some a ∧ sK S a = 1301 ∧ sL S a = 1024 ∧ sA S a = σ.1 30 := hR.2.1 30 rfl
  obtain ⟨a31, r31, k31, l31, e31⟩ : ∃ a, sR S 931 m = some a ∧ sK S a = 1311 ∧ sL S a = 1024 ∧ sA S a = σ.1 31 := hR.2.1 31 rfl
  obtain ⟨a32, r32, k32, l32, e32⟩ : ∃ a, sR S 932 m = some a ∧ sK S a = 1321 ∧ sL S a = 1024 ∧ sA S a = σ.1 32 := hR.2.1 32 rfl
  obtain ⟨a33, r33, k33, l33, e33⟩ : ∃ a, sR S 933 m = some a ∧ sK S a = 1331 ∧ sL S a = 1024 ∧ sA S a = σ.1 33 := hR.2.1 33 rfl
  have hRF := RF_0 hR
  refine Ct_of (by decide) (cat1_all (by repeat first | exact trivial | refine ⟨by first | rfl | exact isR_c (isR_q _), ?_⟩)) (Nat.le_of_ble_eq_true rfl) hl fun X C hXl hin => ?_
  subst hXl
  dsimp only [lArgs, Nat.reduceAdd]
  have fin : V X G 8 (eQ X G (fun v T => v = none ∧ RF S T m (oTells σ h s a b u).1 (oTells σ h s a b u).2) (fun _ _ => False) 0 0) 0 0 69 [(0, false, .ref m), (1, false, .int h), (2, false, .int s), (3, false, .int a), (4, false, .int b), (5, false, .int u), (6, false, .int (nI w))] [] S := by
    refine V_aload_n C dX9_tells_69 rfl (by first | exact isR_r _ | exact isR_q _ | exact isR_n) ?_
    refine V_getS C 9 28 rfl cf_9 fl_X9_83 (by decide) (by decide) dX9_tells_70 (by assumption) (by assumption) ?_
    refine V_iload C dX9_tells_73 rfl ?_
    refine V_iload_n C dX9_tells_75 rfl ?_
    refine V_iastE C (by assumption) (by decide) (by assumption) (by first | assumption | omega) (by decide) dX9_tells_76 ?_
    refine V_aload_n C dX9_tells_77 rfl (by first | exact isR_r _ | exact isR_q _ | exact isR_n) ?_
    refine V_getS C 9 29 rfl cf_9 fl_X9_86 (by decide) (by decide) dX9_tells_78 (by assumption) (by assumption) ?_
    refine V_iload C dX9_tells_81 rfl ?_
    refine V_iload_n C dX9_tells_83 rfl ?_
    refine V_iastE C (by assumption) (by decide) (by assumption) (by first | assumption | omega) (by decide) dX9_tells_84 ?_
    refine V_aload_n C dX9_tells_85 rfl (by first | exact isR_r _ | exact isR_q _ | exact isR_n) ?_
    refine V_getS C 9 30 rfl cf_9 fl_X9_89 (by decide) (by decide) dX9_tells_86 (by assumption) (by assumption) ?_
    refine V_iload C dX9_tells_89 rfl ?_
    refine V_aload_n C dX9_tells_91 rfl (by first | exact isR_r _ | exact isR_q _ | exact isR_n) ?_
    refine V_getIe C 9 0 rfl cf_9 fl_X9_187 (by decide) (by decide) dX9_tells_92 (by assumption) (by assumption) ?_
    refine V_iastE C (by assumption) (by decide) (by assumption) (by first | assumption | omega) (by decide) dX9_tells_95 ?_
    refine V_aload_n C dX9_tells_96 rfl (by first | exact isR_r _ | exact isR_q _ | exact isR_n) ?_
    refine V_getS C 9 31 rfl cf_9 fl_X9_92 (by decide) (by decide) dX9_tells_97 (by assumption) (by assumption) ?_
    refine V_iload C dX9_tells_100 rfl ?_
    refine V_iload_n C dX9_tells_102 rfl ?_
    refine V_iastE C (by assumption) (by decide) (by assumption) (by first | assumption | omega) (by decide) dX9_tells_103 ?_
    refine V_aload_n C dX9_tells_104 rfl (by first | exact isR_r _ | exact isR_q _ | exact isR_n) ?_
    refine V_getS C 9 32 rfl cf_9 fl_X9_95 (by decide) (by decide) dX9_tells_105 (by assumption) (by assumption) ?_
    refine V_iload C dX9_tells_108 rfl ?_
    refine V_iload C dX9_tells_110 rfl ?_
    refine V_iastE C (by assumption) (by decide) (by assumption) (by first | assumption | omega) (by decide) dX9_tells_112 ?_
    refine V_aload_n C dX9_tells_113 rfl (by first | exact isR_r _ | exact isR_q _ | exact isR_n) ?_
    refine V_getS C 9 33 rfl cf_9 fl_X9_98 (by decide) (by decide) dX9_tells_114 (by assumption) (by assumption) ?_
    refine V_iload C dX9_tells_117 rfl ?_
    refine V_iload C dX9_tells_119 rfl ?_
    refine V_iastE C (by assumption) (by decide) (by assumption) (by first | assumption | omega) (by decide) dX9_tells_121 ?_
    refine V_aload_n C dX9_tells_122 rfl (by first | exact isR_r _ | exact isR_q _ | exact isR_n) ?_
    refine V_dup C dX9_tells_123 (by first | rfl | exact isR_c (isR_q _)) ?_
    refine V_getIe C 9 27 rfl cf_9 fl_X9_190 (by decide) (by decide) dX9_tells_124 (by assumption) (by assumption) ?_
    refine V_iload C dX9_tells_127 rfl ?_
    refine V_aload_n C dX9_tells_129 rfl (by first | exact isR_r _ | exact isR_q _ | exact isR_n) ?_
    refine V_getIe C 9 27 rfl cf_9 fl_X9_190 (by decide) (by decide) dX9_tells_130 (by assumption) (by assumption) ?_
    refine V_ineN C (tgt := 140) (by omega) (by omega) dX9_tells_133 (by decide) (fun h133 => ?_) (fun h133 => ?_)
    · refine V_iconst C (v := 0) dX9_tells_140 (by decide) ?_
      refine V_iadd C dX9_tells_141 ?_
      refine V_putI C 9 27 rfl cf_9 pl_X9_190 (by decide) (by decide) dX9_tells_142 (by assumption) ?_
      refine V_vret C (by first | omega | decide) (by first | omega | decide) dX9_tells_145 ?_
      refine ⟨rfl, ?_⟩
      unfold oTells
      rw [← hn, ew, nI_clamp (by omega), en]
      first | rw [if_pos (congrArg nI h133)] | rw [if_neg (fun q => h133 ((nI_eq (by omega) (by omega)).mp q))]
      exact (RF_I (RF_A (RF_A (RF_A (RF_A (RF_A (RF_A hRF (f := 28) rfl r28) (f := 29) rfl r29) (f := 30) rfl r30) (f := 31) rfl r31) (f := 32) rfl r32) (f := 33) rfl r33) (f := 27) rfl)
    · refine V_iconst C (v := 1) dX9_tells_136 (by decide) ?_
      refine V_goto C (tgt := 141) dX9_tells_137 (by decide) ?_
      refine V_iadd C dX9_tells_141 ?_
      refine V_putI C 9 27 rfl cf_9 pl_X9_190 (by decide) (by decide) dX9_tells_142 (by assumption) ?_
      refine V_vret C (by first | omega | decide) (by first | omega | decide) dX9_tells_145 ?_
      refine ⟨rfl, ?_⟩
      unfold oTells
      rw [← hn, ew, nI_clamp (by omega), en]
      first | rw [if_pos (congrArg nI h133)] | rw [if_neg (fun q => h133 ((nI_eq (by omega) (by omega)).mp q))]
      exact (RF_I (RF_A (RF_A (RF_A (RF_A (RF_A (RF_A hRF (f := 28) rfl r28) (f := 29) rfl r29) (f := 30) rfl r30) (f := 31) rfl r31) (f := 32) rfl r32) (f := 33) rfl r33) (f := 27) rfl)
  have loop : ∀ t j : Nat, j + t = n → V X G 8 (eQ X G (fun v T => v = none ∧ RF S T m (oTells σ h s a b u).1 (oTells σ h s a b u).2) (fun _ _ => False) 0 0) 0 0 9 [(0, false, .ref m), (1, false, .int h), (2, false, .int s), (3, false, .int a), (4, false, .int b), (5, false, .int u), (6, false, .int (tTells σ h s j)), (7, false, .int (nI j))] [] S := by
    intro t
    induction t with
    | zero =>
      intro j hj
      obtain rfl : j = n := by omega
      refine V_iload C dX9_tells_9 rfl ?_
      refine V_aload_n C dX9_tells_11 rfl (by first | exact isR_r _ | exact isR_q _ | exact isR_n) ?_
      refine V_getIe C 9 27 rfl cf_9 fl_X9_190 (by decide) (by decide) dX9_tells_12 (by assumption) (by assumption) ?_
      refine V_igeN C (tgt := 69) (by omega) (by omega) dX9_tells_15 (by decide) (fun h15 => ?_) (fun h15 => ?_)
      · rw [ew]
        refine V_sub ?_ fin
        exact ⟨rfl, rfl, rfl, rfl, rfl, rfl, rfl, trivial⟩
      · omega
    | succ t ih =>
      intro j hj
      refine V_iload C dX9_tells_9 rfl ?_
      refine V_aload_n C dX9_tells_11 rfl (by first | exact isR_r _ | exact isR_q _ | exact isR_n) ?_
      refine V_getIe C 9 27 rfl cf_9 fl_X9_190 (by decide) (by decide) dX9_tells_12 (by assumption) (by assumption) ?_
      refine V_igeN C (tgt := 69) (by omega) (by omega) dX9_tells_15 (by decide) (fun h15 => ?_) (fun h15 => ?_)
      · omega
      · refine V_aload_n C dX9_tells_18 rfl (by first | exact isR_r _ | exact isR_q _ | exact isR_n) ?_
        refine V_getS C 9 28 rfl cf_9 fl_X9_83 (by decide) (by decide) dX9_tells_19 (by assumption) (by assumption) ?_
        refine V_iload C dX9_tells_22 rfl ?_
        refine V_ialdE C (by assumption) (by decide) (by assumption) (by assumption) (by first | assumption | omega) (by decide) dX9_tells_24 ?_
        refine V_iload_n C dX9_tells_25 rfl ?_
        refine V_icmp_ne C (tgt := 59) dX9_tells_26 (by decide) (fun h26 => ?_) (fun h26 => ?_)
        · refine V_iload C dX9_tells_59 rfl ?_
          refine V_istore C dX9_tells_61 (by decide) rfl ?_
          simp only [lset1, lset2, List.filter_cons, List.filter_nil, Nat.reduceBEq, Nat.reduceAdd, Bool.not_true, Bool.not_false, Bool.and_true, Bool.and_false, Bool.true_and, Bool.false_and, if_true, if_false, Bool.false_eq_true, reduceIte]
          refine V_incN C dX9_tells_63 rfl (by decide) rfl ?_
          simp only [lset1, lset2, List.filter_cons, List.filter_nil, Nat.reduceBEq, Nat.reduceAdd, Bool.not_true, Bool.not_false, Bool.and_true, Bool.and_false, Bool.true_and, Bool.false_and, if_true, if_false, Bool.false_eq_true, reduceIte]
          refine V_goto C (tgt := 9) dX9_tells_66 (by decide) ?_
          refine V_sub ?_ (ih (j + 1) (by omega))
          refine ⟨rfl, rfl, rfl, rfl, rfl, rfl, ?_, rfl, trivial⟩
          first | (rw [tTells_f (fun q => h26 q.1)]; rfl) | (rw [tTells_f (fun q => h37 q.2.1)]; rfl) | (rw [tTells_f (fun q => h51 q.2.2)]; rfl) | (rw [tTells_t ⟨h26, h37, h51⟩]; rfl)
        · refine V_aload_n C dX9_tells_29 rfl (by first | exact isR_r _ | exact isR_q _ | exact isR_n) ?_
          refine V_getS C 9 29 rfl cf_9 fl_X9_86 (by decide) (by decide) dX9_tells_30 (by assumption) (by assumption) ?_
          refine V_iload C dX9_tells_33 rfl ?_
          refine V_ialdE C (by assumption) (by decide) (by assumption) (by assumption) (by first | assumption | omega) (by decide) dX9_tells_35 ?_
          refine V_iload_n C dX9_tells_36 rfl ?_
          refine V_icmp_ne C (tgt := 59) dX9_tells_37 (by decide) (fun h37 => ?_) (fun h37 => ?_)
          · refine V_iload C dX9_tells_59 rfl ?_
            refine V_istore C dX9_tells_61 (by decide) rfl ?_
            simp only [lset1, lset2, List.filter_cons, List.filter_nil, Nat.reduceBEq, Nat.reduceAdd, Bool.not_true, Bool.not_false, Bool.and_true, Bool.and_false, Bool.true_and, Bool.false_and, if_true, if_false, Bool.false_eq_true, reduceIte]
            refine V_incN C dX9_tells_63 rfl (by decide) rfl ?_
            simp only [lset1, lset2, List.filter_cons, List.filter_nil, Nat.reduceBEq, Nat.reduceAdd, Bool.not_true, Bool.not_false, Bool.and_true, Bool.and_false, Bool.true_and, Bool.false_and, if_true, if_false, Bool.false_eq_true, reduceIte]
            refine V_goto C (tgt := 9) dX9_tells_66 (by decide) ?_
            refine V_sub ?_ (ih (j + 1) (by omega))
            refine ⟨rfl, rfl, rfl, rfl, rfl, rfl, ?_, rfl, trivial⟩
            first | (rw [tTells_f (fun q => h26 q.1)]; rfl) | (rw [tTells_f (fun q => h37 q.2.1)]; rfl) | (rw [tTells_f (fun q => h51 q.2.2)]; rfl) | (rw [tTells_t ⟨h26, h37, h51⟩]; rfl)
          · refine V_aload_n C dX9_tells_40 rfl (by first | exact isR_r _ | exact isR_q _ | exact isR_n) ?_
            refine V_getS C 9 30 rfl cf_9 fl_X9_89 (by decide) (by decide) dX9_tells_41 (by assumption) (by assumption) ?_
            refine V_iload C dX9_tells_44 rfl ?_
            refine V_ialdE C (by assumption) (by decide) (by assumption) (by assumption) (by first | assumption | omega) (by decide) dX9_tells_46 ?_
            refine V_aload_n C dX9_tells_47 rfl (by first | exact isR_r _ | exact isR_q _ | exact isR_n) ?_
            refine V_getIe C 9 0 rfl cf_9 fl_X9_187 (by decide) (by decide) dX9_tells_48 (by assumption) (by assumption) ?_
            refine V_icmp_ne C (tgt := 59) dX9_tells_51 (by decide) (fun h51 => ?_) (fun h51 => ?_)
            · refine V_iload C dX9_tells_59 rfl ?_
              refine V_istore C dX9_tells_61 (by decide) rfl ?_
              simp only [lset1, lset2, List.filter_cons, List.filter_nil, Nat.reduceBEq, Nat.reduceAdd, Bool.not_true, Bool.not_false, Bool.and_true, Bool.and_false, Bool.true_and, Bool.false_and, if_true, if_false, Bool.false_eq_true, reduceIte]
              refine V_incN C dX9_tells_63 rfl (by decide) rfl ?_
              simp only [lset1, lset2, List.filter_cons, List.filter_nil, Nat.reduceBEq, Nat.reduceAdd, Bool.not_true, Bool.not_false, Bool.and_true, Bool.and_false, Bool.true_and, Bool.false_and, if_true, if_false, Bool.false_eq_true, reduceIte]
              refine V_goto C (tgt := 9) dX9_tells_66 (by decide) ?_
              refine V_sub ?_ (ih (j + 1) (by omega))
              refine ⟨rfl, rfl, rfl, rfl, rfl, rfl, ?_, rfl, trivial⟩
              first | (rw [tTells_f (fun q => h26 q.1)]; rfl) | (rw [tTells_f (fun q => h37 q.2.1)]; rfl) | (rw [tTells_f (fun q => h51 q.2.2)]; rfl) | (rw [tTells_t ⟨h26, h37, h51⟩]; rfl)
            · refine V_iload C dX9_tells_54 rfl ?_
              refine V_goto C (tgt := 61) dX9_tells_56 (by decide) ?_
              refine V_istore C dX9_tells_61 (by decide) rfl ?_
              simp only [lset1, lset2, List.filter_cons, List.filter_nil, Nat.reduceBEq, Nat.reduceAdd, Bool.not_true, Bool.not_false, Bool.and_true, Bool.and_false, Bool.true_and, Bool.false_and, if_true, if_false, Bool.false_eq_true, reduceIte]
              refine V_incN C dX9_tells_63 rfl (by decide) rfl ?_
              simp only [lset1, lset2, List.filter_cons, List.filter_nil, Nat.reduceBEq, Nat.reduceAdd, Bool.not_true, Bool.not_false, Bool.and_true, Bool.and_false, Bool.true_and, Bool.false_and, if_true, if_false, Bool.false_eq_true, reduceIte]
              refine V_goto C (tgt := 9) dX9_tells_66 (by decide) ?_
              refine V_sub ?_ (ih (j + 1) (by omega))
              refine ⟨rfl, rfl, rfl, rfl, rfl, rfl, ?_, rfl, trivial⟩
              first | (rw [tTells_f (fun q => h26 q.1)]; rfl) | (rw [tTells_f (fun q => h37 q.2.1)]; rfl) | (rw [tTells_f (fun q => h51 q.2.2)]; rfl) | (rw [tTells_t ⟨h26, h37, h51⟩]; rfl)
  refine V_aload_n C dX9_tells_0 rfl (by first | exact isR_r _ | exact isR_q _ | exact isR_n) ?_
  refine V_getIe C 9 27 rfl cf_9 fl_X9_190 (by decide) (by decide) dX9_tells_1 (by assumption) (by assumption) ?_
  refine V_istore C dX9_tells_4 (by decide) rfl ?_
  simp only [lset1, lset2, List.filter_cons, List.filter_nil, Nat.reduceBEq, Nat.reduceAdd, Bool.not_true, Bool.not_false, Bool.and_true, Bool.and_false, Bool.true_and, Bool.false_and, if_true, if_false, Bool.false_eq_true, reduceIte]
  refine V_iconst C (v := 0) dX9_tells_6 (by decide) ?_
  refine V_istore C dX9_tells_7 (by decide) rfl ?_
  simp only [lset1, lset2, List.filter_cons, List.filter_nil, Nat.reduceBEq, Nat.reduceAdd, Bool.not_true, Bool.not_false, Bool.and_true, Bool.and_false, Bool.true_and, Bool.false_and, if_true, if_false, Bool.false_eq_true, reduceIte]
  refine V_sub ?_ (loop n 0 (by omega))
  exact ⟨rfl, rfl, rfl, rfl, rfl, rfl, by rw [show tTells σ h s 0 = nI n from en]; rfl, rfl, trivial⟩
