/-! THE REFERENCE: why, worth, best. -/
section VD
variable {X : xX} {G : gG} {own : String} {cc : ByteArray} {nL : Nat} {ret : Option FieldType} {rm : Room} {tb : List ExceptionTableEntry} {Q : State → Prop} {k n pc : Nat} {lo : lO} {st : List Value} {S : sS}
theorem V_ialdC (C : Cx X G own cc nL ret rm tb) {a c N : Nat} {x : Int32} {f : Nat → Int32} (hK : sK S a = c) (hc : 100 ≤ c ∧ c % 10 = 1) (hL : sL S a = N) (hA : sA S a = f) (hx : ∃ j, j < N ∧ x = nI j) (hN : N < 2 ^ 31) (d : decode cc pc = .ok (.iaload, 1)) (kk : V X G nL Q k n (pc + 1) lo (.int (f x.toNatClampNeg) :: st) S) : V X G nL Q k n pc lo (.int x :: .ref a :: st) S := by
  obtain ⟨j, hj, rfl⟩ := hx
  rw [nI_clamp (by omega)] at kk
  exact V_ialdE C hK hc hL hA hj hN d kk
theorem V_zaldC (C : Cx X G own cc nL ret rm tb) {a c N : Nat} {x : Int32} {f : Nat → Int32} (hK : sK S a = c) (hc : 100 ≤ c ∧ c % 10 = 2) (hL : sL S a = N) (hA : sA S a = f) (hx : ∃ j, j < N ∧ x = nI j) (hN : N < 2 ^ 31) (d : decode cc pc = .ok (.baload, 1)) (kk : V X G nL Q k n (pc + 1) lo (.int (f x.toNatClampNeg) :: st) S) : V X G nL Q k n pc lo (.int x :: .ref a :: st) S := by
  obtain ⟨j, hj, rfl⟩ := hx
  rw [nI_clamp (by omega)] at kk
  exact V_zaldE C hK hc hL hA hj hN d kk
end VD
theorem told_ix {σ : aS} (hI : IC σ) {h s on : Int32} (q : ¬ mToldOn σ h s on = -1) : ∃ j, j < 1024 ∧ mToldOn σ h s on = nI j := by
  rcases flast_or (fun j => σ.1 28 j = h ∧ σ.1 29 j = s ∧ σ.1 30 j ≤ on) (cN σ 27) with e | ⟨j, hj, e, -⟩
  · exact absurd e q
  · exact ⟨j, by have := hI.2.2.2.1.2; omega, e⟩
theorem c_X9_whyOn (l : Launch) (hl : l.stackTraces = false) (G : gG) (S : sS) (m : Nat) (σ : aS) (hR : RelR S m σ) (hI : IC σ) (k : Nat) (hk : k < 16) (h on : Int32) : CtF l G yX9_whyOn cX9_whyOn 8 (Option.some FieldType.int) 4 0 0 [.ref m, .int (nI k), .int h, .int on] S (some (.int (mWhyOn σ k h on))) S := by
  have hm := hR.1
  obtain ⟨a4, r4, k4, l4, e4⟩ : ∃ a, sR S 904 m = some a ∧ sK S a = 1041 ∧ sL S a = 16 ∧ sA S a = σ.1 4 := hR.2.1 4 rfl
  obtain ⟨a31, r31, k31, l31, e31⟩ : ∃ a, sR S 931 m = some a ∧ sK S a = 1311 ∧ sL S a = 1024 ∧ sA S a = σ.1 31 := hR.2.1 31 rfl
  obtain ⟨a32, r32, k32, l32, e32⟩ : ∃ a, sR S 932 m = some a ∧ sK S a = 1321 ∧ sL S a = 1024 ∧ sA S a = σ.1 32 := hR.2.1 32 rfl
  obtain ⟨a33, r33, k33, l33, e33⟩ : ∃ a, sR S 933 m = some a ∧ sK S a = 1331 ∧ sL S a = 1024 ∧ sA S a = σ.1 33 := hR.2.1 33 rfl
  refine Ct_of (by decide) (cat1_all (by repeat first | exact trivial | refine ⟨by first | rfl | exact isR_c (isR_q _), ?_⟩)) (Nat.le_of_ble_eq_true rfl) hl fun X C hXl hin => ?_
  subst hXl
  dsimp only [lArgs, Nat.reduceAdd]
  have J : ∀ c : Int32, c = mCan σ h on → V X G 8 (eQ X G (fun v T => v = some (.int (mWhyOn σ k h on)) ∧ T = S) (fun _ _ => False) 0 0) 0 0 55 [(6, false, .int (mToldOn σ h 2 on)), (5, false, .int (mToldOn σ h 1 on)), (4, false, .int (mToldOn σ h 0 on)), (0, false, .ref m), (1, false, .int (nI k)), (2, false, .int h), (3, false, .int on)] [.int c] S := fun c hc => by
    have A2 : ∀ (q : ¬ mToldOn σ h 0 on = -1) (q2 : on ≤ σ.1 33 (mToldOn σ h 0 on).toNatClampNeg), ¬ (mToldOn σ h 0 on = -1 ∨ σ.1 33 (mToldOn σ h 0 on).toNatClampNeg < on) := fun q q2 z => z.elim q (fun z => absurd z (Int32.not_lt.mpr q2))
    refine V_istore C dX9_whyOn_55 (by decide) rfl ?_
    simp only [lset1, lset2, List.filter_cons, List.filter_nil, Nat.reduceBEq, Nat.reduceAdd, Bool.not_true, Bool.not_false, Bool.and_true, Bool.and_false, Bool.true_and, Bool.false_and, if_true, if_false, Bool.false_eq_true, reduceIte]
    rw [hc]
    refine V_aload_n C dX9_whyOn_57 rfl (by first | exact isR_r _ | exact isR_q _ | exact isR_n) ?_
    refine V_iload_n C dX9_whyOn_58 rfl ?_
    refine V_iload_n C dX9_whyOn_59 rfl ?_
    refine V_fV C (c_X9_kindOn _ hl G S m σ hR hI (nI k) on) kv_X9_234 cf_9 (by decide) rfl (by assumption) (by decide) (by decide) rfl rfl (Nat.le_of_ble_eq_true rfl) dX9_whyOn_60 ?_
    dsimp only [Option.toList_some, Option.toList_none, List.cons_append, List.nil_append]
    refine V_if_eq C (tgt := 68) dX9_whyOn_63 (by decide) (fun h63 => ?_) (fun h63 => ?_)
    · refine V_iload C dX9_whyOn_68 rfl ?_
      refine V_iconst C (v := (-1)) dX9_whyOn_70 (by decide) ?_
      refine V_icmp_eq C (tgt := 85) dX9_whyOn_71 (by decide) (fun h71 => ?_) (fun h71 => ?_)
      · refine V_iconst C (v := 2) dX9_whyOn_85 (by decide) ?_
        refine V_iret C (by first | omega | decide) (by first | omega | decide) dX9_whyOn_86 ?_
        refine ⟨?_, rfl⟩
        unfold mWhyOn
        first | (rw [if_neg (fun q => q h63), if_pos (Or.inl h71)]; done) | (rw [if_neg (fun q => q h63), if_pos (Or.inr (Int32.not_le.mp h82))]; done)
      · refine V_iload_n C dX9_whyOn_74 rfl ?_
        refine V_aload_n C dX9_whyOn_75 rfl (by first | exact isR_r _ | exact isR_q _ | exact isR_n) ?_
        refine V_getS C 9 33 rfl cf_9 fl_X9_98 (by decide) (by decide) dX9_whyOn_76 (by assumption) (by assumption) ?_
        refine V_iload C dX9_whyOn_79 rfl ?_
        refine V_ialdC C (by assumption) (by decide) (by assumption) (by assumption) (told_ix hI h71) (by decide) dX9_whyOn_81 ?_
        refine V_icmp_le C (tgt := 87) dX9_whyOn_82 (by decide) (fun h82 => ?_) (fun h82 => ?_)
        · refine V_aload_n C dX9_whyOn_87 rfl (by first | exact isR_r _ | exact isR_q _ | exact isR_n) ?_
          refine V_iload_n C dX9_whyOn_88 rfl ?_
          refine V_iload_n C dX9_whyOn_89 rfl ?_
          refine V_fV C (c_X9_yearsOn _ hl G S m σ hR k hk on) kv_X9_224 cf_9 (by decide) rfl (by assumption) (by decide) (by decide) rfl rfl (Nat.le_of_ble_eq_true rfl) dX9_whyOn_90 ?_
          dsimp only [Option.toList_some, Option.toList_none, List.cons_append, List.nil_append]
          refine V_aload_n C dX9_whyOn_93 rfl (by first | exact isR_r _ | exact isR_q _ | exact isR_n) ?_
          refine V_getS C 9 31 rfl cf_9 fl_X9_92 (by decide) (by decide) dX9_whyOn_94 (by assumption) (by assumption) ?_
          refine V_iload C dX9_whyOn_97 rfl ?_
          refine V_ialdC C (by assumption) (by decide) (by assumption) (by assumption) (told_ix hI h71) (by decide) dX9_whyOn_99 ?_
          refine V_aload_n C dX9_whyOn_100 rfl (by first | exact isR_r _ | exact isR_q _ | exact isR_n) ?_
          refine V_getS C 9 32 rfl cf_9 fl_X9_95 (by decide) (by decide) dX9_whyOn_101 (by assumption) (by assumption) ?_
          refine V_iload C dX9_whyOn_104 rfl ?_
          refine V_ialdC C (by assumption) (by decide) (by assumption) (by assumption) (told_ix hI h71) (by decide) dX9_whyOn_106 ?_
          refine V_fS C (c_X9_in _ hl G S (mYears σ k on) (σ.1 31 (mToldOn σ h 0 on).toNatClampNeg) (σ.1 32 (mToldOn σ h 0 on).toNatClampNeg)) ks_X9_165 (by decide) (by decide) rfl rfl (Nat.le_of_ble_eq_true rfl) dX9_whyOn_107 ?_
          dsimp only [Option.toList_some, Option.toList_none, List.cons_append, List.nil_append]
          refine V_if_ne C (tgt := 115) dX9_whyOn_110 (by decide) (fun h110 => ?_) (fun h110 => ?_)
          · refine V_aload_n C dX9_whyOn_115 rfl (by first | exact isR_r _ | exact isR_q _ | exact isR_n) ?_
            refine V_getS C 9 4 rfl cf_9 fl_X9_16 (by decide) (by decide) dX9_whyOn_116 (by assumption) (by assumption) ?_
            refine V_iload_n C dX9_whyOn_119 rfl ?_
            refine V_ialdE C (by assumption) (by decide) (by assumption) (by assumption) (by first | assumption | omega) (by decide) dX9_whyOn_120 ?_
            refine V_iload C dX9_whyOn_121 rfl ?_
            refine V_iconst C (v := (-1)) dX9_whyOn_123 (by decide) ?_
            refine V_ixor C dX9_whyOn_124 ?_
            refine V_iand C dX9_whyOn_125 ?_
            refine V_if_eq C (tgt := 133) dX9_whyOn_126 (by decide) (fun h126 => ?_) (fun h126 => ?_)
            · refine V_iload C dX9_whyOn_133 rfl ?_
              refine V_iconst C (v := (-1)) dX9_whyOn_135 (by decide) ?_
              refine V_icmp_eq C (tgt := 164) dX9_whyOn_136 (by decide) (fun h136 => ?_) (fun h136 => ?_)
              · refine V_iconst C (v := 0) dX9_whyOn_164 (by decide) ?_
                refine V_iret C (by first | omega | decide) (by first | omega | decide) dX9_whyOn_165 ?_
                refine ⟨?_, rfl⟩
                unfold mWhyOn
                rw [if_neg (fun q => q h63), if_neg (A2 h71 h82), if_neg (fun q => q (bI_ne.mp h110))]
                first | (rw [if_pos h126]; done) | (rw [if_neg (fun q => q h126), if_neg (fun q => q.1 h136)]; done) | (rw [if_neg (fun q => q h126), if_neg (fun q => bI_eq.mp h157 q.2)]; done) | (rw [if_neg (fun q => q h126), if_pos ⟨h136, bI_ne.mp h157⟩]; done)
              · refine V_iload_n C dX9_whyOn_139 rfl ?_
                refine V_aload_n C dX9_whyOn_140 rfl (by first | exact isR_r _ | exact isR_q _ | exact isR_n) ?_
                refine V_getS C 9 31 rfl cf_9 fl_X9_92 (by decide) (by decide) dX9_whyOn_141 (by assumption) (by assumption) ?_
                refine V_iload C dX9_whyOn_144 rfl ?_
                refine V_ialdC C (by assumption) (by decide) (by assumption) (by assumption) (told_ix hI h136) (by decide) dX9_whyOn_146 ?_
                refine V_aload_n C dX9_whyOn_147 rfl (by first | exact isR_r _ | exact isR_q _ | exact isR_n) ?_
                refine V_getS C 9 33 rfl cf_9 fl_X9_98 (by decide) (by decide) dX9_whyOn_148 (by assumption) (by assumption) ?_
                refine V_iload C dX9_whyOn_151 rfl ?_
                refine V_ialdC C (by assumption) (by decide) (by assumption) (by assumption) (told_ix hI h136) (by decide) dX9_whyOn_153 ?_
                refine V_fS C (c_X9_in _ hl G S on (σ.1 31 (mToldOn σ h 2 on).toNatClampNeg) (σ.1 33 (mToldOn σ h 2 on).toNatClampNeg)) ks_X9_165 (by decide) (by decide) rfl rfl (Nat.le_of_ble_eq_true rfl) dX9_whyOn_154 ?_
                dsimp only [Option.toList_some, Option.toList_none, List.cons_append, List.nil_append]
                refine V_if_eq C (tgt := 164) dX9_whyOn_157 (by decide) (fun h157 => ?_) (fun h157 => ?_)
                · refine V_iconst C (v := 0) dX9_whyOn_164 (by decide) ?_
                  refine V_iret C (by first | omega | decide) (by first | omega | decide) dX9_whyOn_165 ?_
                  refine ⟨?_, rfl⟩
                  unfold mWhyOn
                  rw [if_neg (fun q => q h63), if_neg (A2 h71 h82), if_neg (fun q => q (bI_ne.mp h110))]
                  first | (rw [if_pos h126]; done) | (rw [if_neg (fun q => q h126), if_neg (fun q => q.1 h136)]; done) | (rw [if_neg (fun q => q h126), if_neg (fun q => bI_eq.mp h157 q.2)]; done) | (rw [if_neg (fun q => q h126), if_pos ⟨h136, bI_ne.mp h157⟩]; done)
                · refine V_iconst C (v := 5) dX9_whyOn_160 (by decide) ?_
                  refine V_goto C (tgt := 165) dX9_whyOn_161 (by decide) ?_
                  refine V_iret C (by first | omega | decide) (by first | omega | decide) dX9_whyOn_165 ?_
                  refine ⟨?_, rfl⟩
                  unfold mWhyOn
                  rw [if_neg (fun q => q h63), if_neg (A2 h71 h82), if_neg (fun q => q (bI_ne.mp h110))]
                  first | (rw [if_pos h126]; done) | (rw [if_neg (fun q => q h126), if_neg (fun q => q.1 h136)]; done) | (rw [if_neg (fun q => q h126), if_neg (fun q => bI_eq.mp h157 q.2)]; done) | (rw [if_neg (fun q => q h126), if_pos ⟨h136, bI_ne.mp h157⟩]; done)
            · refine V_iconst C (v := 4) dX9_whyOn_129 (by decide) ?_
              refine V_goto C (tgt := 165) dX9_whyOn_130 (by decide) ?_
              refine V_iret C (by first | omega | decide) (by first | omega | decide) dX9_whyOn_165 ?_
              refine ⟨?_, rfl⟩
              unfold mWhyOn
              rw [if_neg (fun q => q h63), if_neg (A2 h71 h82), if_neg (fun q => q (bI_ne.mp h110))]
              first | (rw [if_pos h126]; done) | (rw [if_neg (fun q => q h126), if_neg (fun q => q.1 h136)]; done) | (rw [if_neg (fun q => q h126), if_neg (fun q => bI_eq.mp h157 q.2)]; done) | (rw [if_neg (fun q => q h126), if_pos ⟨h136, bI_ne.mp h157⟩]; done)
          · refine V_iconst C (v := 3) dX9_whyOn_113 (by decide) ?_
            refine V_iret C (by first | omega | decide) (by first | omega | decide) dX9_whyOn_114 ?_
            refine ⟨?_, rfl⟩
            unfold mWhyOn
            rw [if_neg (fun q => q h63), if_neg (A2 h71 h82), if_pos (bI_eq.mp h110)]
        · refine V_iconst C (v := 2) dX9_whyOn_85 (by decide) ?_
          refine V_iret C (by first | omega | decide) (by first | omega | decide) dX9_whyOn_86 ?_
          refine ⟨?_, rfl⟩
          unfold mWhyOn
          first | (rw [if_neg (fun q => q h63), if_pos (Or.inl h71)]; done) | (rw [if_neg (fun q => q h63), if_pos (Or.inr (Int32.not_le.mp h82))]; done)
    · refine V_iconst C (v := 1) dX9_whyOn_66 (by decide) ?_
      refine V_iret C (by first | omega | decide) (by first | omega | decide) dX9_whyOn_67 ?_
      refine ⟨?_, rfl⟩
      unfold mWhyOn
      rw [if_pos h63]
  refine V_aload_n C dX9_whyOn_0 rfl (by first | exact isR_r _ | exact isR_q _ | exact isR_n) ?_
  refine V_iload_n C dX9_whyOn_1 rfl ?_
  refine V_iconst C (v := 0) dX9_whyOn_2 (by decide) ?_
  refine V_iload_n C dX9_whyOn_3 rfl ?_
  refine V_fV C (c_X9_toldOn _ hl G S m σ hR hI h 0 on) kv_X9_230 cf_9 (by decide) rfl (by assumption) (by decide) (by decide) rfl rfl (Nat.le_of_ble_eq_true rfl) dX9_whyOn_4 ?_
  dsimp only [Option.toList_some, Option.toList_none, List.cons_append, List.nil_append]
  refine V_istore C dX9_whyOn_7 (by decide) rfl ?_
  simp only [lset1, lset2, List.filter_cons, List.filter_nil, Nat.reduceBEq, Nat.reduceAdd, Bool.not_true, Bool.not_false, Bool.and_true, Bool.and_false, Bool.true_and, Bool.false_and, if_true, if_false, Bool.false_eq_true, reduceIte]
  refine V_aload_n C dX9_whyOn_9 rfl (by first | exact isR_r _ | exact isR_q _ | exact isR_n) ?_
  refine V_iload_n C dX9_whyOn_10 rfl ?_
  refine V_iconst C (v := 1) dX9_whyOn_11 (by decide) ?_
  refine V_iload_n C dX9_whyOn_12 rfl ?_
  refine V_fV C (c_X9_toldOn _ hl G S m σ hR hI h 1 on) kv_X9_230 cf_9 (by decide) rfl (by assumption) (by decide) (by decide) rfl rfl (Nat.le_of_ble_eq_true rfl) dX9_whyOn_13 ?_
  dsimp only [Option.toList_some, Option.toList_none, List.cons_append, List.nil_append]
  refine V_istore C dX9_whyOn_16 (by decide) rfl ?_
  simp only [lset1, lset2, List.filter_cons, List.filter_nil, Nat.reduceBEq, Nat.reduceAdd, Bool.not_true, Bool.not_false, Bool.and_true, Bool.and_false, Bool.true_and, Bool.false_and, if_true, if_false, Bool.false_eq_true, reduceIte]
  refine V_aload_n C dX9_whyOn_18 rfl (by first | exact isR_r _ | exact isR_q _ | exact isR_n) ?_
  refine V_iload_n C dX9_whyOn_19 rfl ?_
  refine V_iconst C (v := 2) dX9_whyOn_20 (by decide) ?_
  refine V_iload_n C dX9_whyOn_21 rfl ?_
  refine V_fV C (c_X9_toldOn _ hl G S m σ hR hI h 2 on) kv_X9_230 cf_9 (by decide) rfl (by assumption) (by decide) (by decide) rfl rfl (Nat.le_of_ble_eq_true rfl) dX9_whyOn_22 ?_
  dsimp only [Option.toList_some, Option.toList_none, List.cons_append, List.nil_append]
  refine V_istore C dX9_whyOn_25 (by decide) rfl ?_
  simp only [lset1, lset2, List.filter_cons, List.filter_nil, Nat.reduceBEq, Nat.reduceAdd, Bool.not_true, Bool.not_false, Bool.and_true, Bool.and_false, Bool.true_and, Bool.false_and, if_true, if_false, Bool.false_eq_true, reduceIte]
  refine V_iload C dX9_whyOn_27 rfl ?_
  refine V_iconst C (v := (-1)) dX9_whyOn_29 (by decide) ?_
  refine V_icmp_eq C (tgt := 44) dX9_whyOn_30 (by decide) (fun h30 => ?_) (fun h30 => ?_)
  · refine V_iconst C (v := 0) dX9_whyOn_44 (by decide) ?_
    refine V_goto C (tgt := 55) dX9_whyOn_45 (by decide) ?_
    refine J _ ?_
    unfold mCan
    first | (rw [if_pos (Or.inl h30)]; done) | (rw [if_pos (Or.inr (Int32.not_le.mp h41))]; done) | (rw [if_neg (fun z => z.elim h30 (fun z => absurd z (Int32.not_lt.mpr h41)))]; done)
  · refine V_iload_n C dX9_whyOn_33 rfl ?_
    refine V_aload_n C dX9_whyOn_34 rfl (by first | exact isR_r _ | exact isR_q _ | exact isR_n) ?_
    refine V_getS C 9 33 rfl cf_9 fl_X9_98 (by decide) (by decide) dX9_whyOn_35 (by assumption) (by assumption) ?_
    refine V_iload C dX9_whyOn_38 rfl ?_
    refine V_ialdC C (by assumption) (by decide) (by assumption) (by assumption) (told_ix hI h30) (by decide) dX9_whyOn_40 ?_
    refine V_icmp_le C (tgt := 48) dX9_whyOn_41 (by decide) (fun h41 => ?_) (fun h41 => ?_)
    · refine V_aload_n C dX9_whyOn_48 rfl (by first | exact isR_r _ | exact isR_q _ | exact isR_n) ?_
      refine V_getS C 9 31 rfl cf_9 fl_X9_92 (by decide) (by decide) dX9_whyOn_49 (by assumption) (by assumption) ?_
      refine V_iload C dX9_whyOn_52 rfl ?_
      refine V_ialdC C (by assumption) (by decide) (by assumption) (by assumption) (told_ix hI h30) (by decide) dX9_whyOn_54 ?_
      refine J _ ?_
      unfold mCan
      first | (rw [if_pos (Or.inl h30)]; done) | (rw [if_pos (Or.inr (Int32.not_le.mp h41))]; done) | (rw [if_neg (fun z => z.elim h30 (fun z => absurd z (Int32.not_lt.mpr h41)))]; done)
    · refine V_iconst C (v := 0) dX9_whyOn_44 (by decide) ?_
      refine V_goto C (tgt := 55) dX9_whyOn_45 (by decide) ?_
      refine J _ ?_
      unfold mCan
      first | (rw [if_pos (Or.inl h30)]; done) | (rw [if_pos (Or.inr (Int32.not_le.mp h41))]; done) | (rw [if_neg (fun z => z.elim h30 (fun z => absurd z (Int32.not_lt.mpr h41)))]; done)
theorem c_X9_whyNot (l : Launch) (hl : l.stackTraces = false) (G : gG) (S : sS) (m : Nat) (σ : aS) (hR : RelR S m σ) (hI : IC σ) (k : Nat) (hk : k < 16) (h : Nat) (hh : h < 10) : CtF l G yX9_whyNot cX9_whyNot 4 (Option.some FieldType.int) 5 0 0 [.ref m, .int (nI k), .int (nI h)] S (some (.int (mWhyNot σ k h))) S := by
  have hm := hR.1
  have n0 : sI S 900 m = σ.2 0 := hR.2.2 0
  obtain ⟨a19, r19, k19, l19, e19⟩ : ∃ a, sR S 919 m = some a ∧ sK S a = 1191 ∧ sL S a = 160 ∧ sA S a = σ.1 19 := hR.2.1 19 rfl
  obtain ⟨a23, r23, k23, l23, e23⟩ : ∃ a, sR S 923 m = some a ∧ sK S a = 1231 ∧ sL S a = 10 ∧ sA S a = σ.1 23 := hR.2.1 23 rfl
  refine Ct_of (by decide) (cat1_all (by repeat first | exact trivial | refine ⟨by first | rfl | exact isR_c (isR_q _), ?_⟩)) (Nat.le_of_ble_eq_true rfl) hl fun X C hXl hin => ?_
  subst hXl
  dsimp only [lArgs, Nat.reduceAdd]
  refine V_aload_n C dX9_whyNot_0 rfl (by first | exact isR_r _ | exact isR_q _ | exact isR_n) ?_
  refine V_iload_n C dX9_whyNot_1 rfl ?_
  refine V_iload_n C dX9_whyNot_2 rfl ?_
  refine V_aload_n C dX9_whyNot_3 rfl (by first | exact isR_r _ | exact isR_q _ | exact isR_n) ?_
  refine V_getIe C 9 0 rfl cf_9 fl_X9_187 (by decide) (by decide) dX9_whyNot_4 (by assumption) (by assumption) ?_
  refine V_fV C (c_X9_whyOn _ hl G S m σ hR hI k hk (nI h) (σ.2 0)) kv_X9_237 cf_9 (by decide) rfl (by assumption) (by decide) (by decide) rfl rfl (Nat.le_of_ble_eq_true rfl) dX9_whyNot_7 ?_
  dsimp only [Option.toList_some, Option.toList_none, List.cons_append, List.nil_append]
  refine V_istore_n C dX9_whyNot_10 (by decide) rfl ?_
  simp only [lset1, lset2, List.filter_cons, List.filter_nil, Nat.reduceBEq, Nat.reduceAdd, Bool.not_true, Bool.not_false, Bool.and_true, Bool.and_false, Bool.true_and, Bool.false_and, if_true, if_false, Bool.false_eq_true, reduceIte]
  refine V_iload_n C dX9_whyNot_11 rfl ?_
  refine V_if_le C (tgt := 19) dX9_whyNot_12 (by decide) (fun h12 => ?_) (fun h12 => ?_)
  · refine V_aload_n C dX9_whyNot_19 rfl (by first | exact isR_r _ | exact isR_q _ | exact isR_n) ?_
    refine V_iload_n C dX9_whyNot_20 rfl ?_
    refine V_iload_n C dX9_whyNot_21 rfl ?_
    refine V_fV C (c_X9_others _ hl G S m σ hR hI (nI k) (nI h)) kv_X9_240 cf_9 (by decide) rfl (by assumption) (by decide) (by decide) rfl rfl (Nat.le_of_ble_eq_true rfl) dX9_whyNot_22 ?_
    dsimp only [Option.toList_some, Option.toList_none, List.cons_append, List.nil_append]
    refine V_aload_n C dX9_whyNot_25 rfl (by first | exact isR_r _ | exact isR_q _ | exact isR_n) ?_
    refine V_getS C 9 23 rfl cf_9 fl_X9_71 (by decide) (by decide) dX9_whyNot_26 (by assumption) (by assumption) ?_
    refine V_iload_n C dX9_whyNot_29 rfl ?_
    refine V_ialdE C (by assumption) (by decide) (by assumption) (by assumption) (by first | assumption | omega) (by decide) dX9_whyNot_30 ?_
    refine V_icmp_lt C (tgt := 39) dX9_whyNot_31 (by decide) (fun h31 => ?_) (fun h31 => ?_)
    · refine V_aload_n C dX9_whyNot_39 rfl (by first | exact isR_r _ | exact isR_q _ | exact isR_n) ?_
      refine V_getS C 9 19 rfl cf_9 fl_X9_62 (by decide) (by decide) dX9_whyNot_40 (by assumption) (by assumption) ?_
      refine V_bipush C (v := 10) dX9_whyNot_43 (by decide) ?_
      refine V_iload_n C dX9_whyNot_45 rfl ?_
      refine V_imul C dX9_whyNot_46 ?_
      rw [show (10 : Int32) * nI k = nI (10 * k) from pk_mul 10 k]
      refine V_iload_n C dX9_whyNot_47 rfl ?_
      refine V_iadd C dX9_whyNot_48 ?_
      rw [nI_add]
      refine V_ialdE C (by assumption) (by decide) (by assumption) (by assumption) (by first | assumption | omega) (by decide) dX9_whyNot_49 ?_
      refine V_iconst C (v := 3) dX9_whyNot_50 (by decide) ?_
      refine V_icmp_ne C (tgt := 59) dX9_whyNot_51 (by decide) (fun h51 => ?_) (fun h51 => ?_)
      · refine V_iconst C (v := 0) dX9_whyNot_59 (by decide) ?_
        refine V_iret C (by first | omega | decide) (by first | omega | decide) dX9_whyNot_60 ?_
        refine ⟨?_, rfl⟩
        unfold mWhyNot
        first | (rw [if_pos (Int32.not_le.mp h12)]; done) | (rw [if_neg (Int32.not_lt.mpr h12), if_pos (Int32.not_lt.mp h31)]; done) | (rw [if_neg (Int32.not_lt.mpr h12), if_neg (Int32.not_le.mpr h31), if_pos h51]; done) | (rw [if_neg (Int32.not_lt.mpr h12), if_neg (Int32.not_le.mpr h31), if_neg h51]; done)
      · refine V_bipush C (v := 7) dX9_whyNot_54 (by decide) ?_
        refine V_goto C (tgt := 60) dX9_whyNot_56 (by decide) ?_
        refine V_iret C (by first | omega | decide) (by first | omega | decide) dX9_whyNot_60 ?_
        refine ⟨?_, rfl⟩
        unfold mWhyNot
        first | (rw [if_pos (Int32.not_le.mp h12)]; done) | (rw [if_neg (Int32.not_lt.mpr h12), if_pos (Int32.not_lt.mp h31)]; done) | (rw [if_neg (Int32.not_lt.mpr h12), if_neg (Int32.not_le.mpr h31), if_pos h51]; done) | (rw [if_neg (Int32.not_lt.mpr h12), if_neg (Int32.not_le.mpr h31), if_neg h51]; done)
    · refine V_bipush C (v := 6) dX9_whyNot_34 (by decide) ?_
      refine V_goto C (tgt := 60) dX9_whyNot_36 (by decide) ?_
      refine V_iret C (by first | omega | decide) (by first | omega | decide) dX9_whyNot_60 ?_
      refine ⟨?_, rfl⟩
      unfold mWhyNot
      first | (rw [if_pos (Int32.not_le.mp h12)]; done) | (rw [if_neg (Int32.not_lt.mpr h12), if_pos (Int32.not_lt.mp h31)]; done) | (rw [if_neg (Int32.not_lt.mpr h12), if_neg (Int32.not_le.mpr h31), if_pos h51]; done) | (rw [if_neg (Int32.not_lt.mpr h12), if_neg (Int32.not_le.mpr h31), if_neg h51]; done)
  · refine V_iload_n C dX9_whyNot_15 rfl ?_
    refine V_goto C (tgt := 60) dX9_whyNot_16 (by decide) ?_
    refine V_iret C (by first | omega | decide) (by first | omega | decide) dX9_whyNot_60 ?_
    refine ⟨?_, rfl⟩
    unfold mWhyNot
    first | (rw [if_pos (Int32.not_le.mp h12)]; done) | (rw [if_neg (Int32.not_lt.mpr h12), if_pos (Int32.not_lt.mp h31)]; done) | (rw [if_neg (Int32.not_lt.mpr h12), if_neg (Int32.not_le.mpr h31), if_pos h51]; done) | (rw [if_neg (Int32.not_lt.mpr h12), if_neg (Int32.not_le.mpr h31), if_neg h51]; done)
theorem c_X9_worthOf (l : Launch) (hl : l.stackTraces = false) (G : gG) (S : sS) (m : Nat) (σ : aS) (hR : RelR S m σ) (hI : IC σ) (k : Nat) (hk : k < 16) (h : Nat) (hh : h < 10) : CtF l G yX9_worthOf cX9_worthOf 6 (Option.some FieldType.int) 2 0 0 [.ref m, .int (nI k), .int (nI h)] S (some (.int (mWorth σ k h))) S := by
  have hm := hR.1
  obtain ⟨n, hn⟩ : ∃ n, n = cN σ 1 := ⟨_, rfl⟩
  have hn16 : n ≤ 16 := by rw [hn]; exact hI.2.1.2
  have n1 : sI S 901 m = nI n := (hR.2.2 1).trans (by rw [hn]; exact hI.2.1.1)
  obtain ⟨a5, r5, k5, l5, e5⟩ : ∃ a, sR S 905 m = some a ∧ sK S a = 1051 ∧ sL S a = 16 ∧ sA S a = σ.1 5 := hR.2.1 5 rfl
  obtain ⟨a6, r6, k6, l6, e6⟩ : ∃ a, sR S 906 m = some a ∧ sK S a = 1061 ∧ sL S a = 16 ∧ sA S a = σ.1 6 := hR.2.1 6 rfl
  obtain ⟨a7, r7, k7, l7, e7⟩ : ∃ a, sR S 907 m = some a ∧ sK S a = 1071 ∧ sL S a = 16 ∧ sA S a = σ.1 7 := hR.2.1 7 rfl
  obtain ⟨a19, r19, k19, l19, e19⟩ : ∃ a, sR S 919 m = some a ∧ sK S a = 1191 ∧ sL S a = 160 ∧ sA S a = σ.1 19 := hR.2.1 19 rfl
  obtain ⟨a21, r21, k21, l21, e21⟩ : ∃ a, sR S 921 m = some a ∧ sK S a = 1211 ∧ sL S a = 10 ∧ sA S a = σ.1 21 := hR.2.1 21 rfl
  obtain ⟨a22, r22, k22, l22, e22⟩ : ∃ a, sR S 922 m = some a ∧ sK S a = 1221 ∧ sL S a = 10 ∧ sA S a = σ.1 22 := hR.2.1 22 rfl
  refine Ct_of (by decide) (cat1_all (by repeat first | exact trivial | refine ⟨by first | rfl | exact isR_c (isR_q _), ?_⟩)) (Nat.le_of_ble_eq_true rfl) hl fun X C hXl hin => ?_
  subst hXl
  dsimp only [lArgs, Nat.reduceAdd]
  have JE : ∀ (w b : Int32) (hw : w = (if σ.1 19 (10 * k + h) = 0 then 0 else if σ.1 19 (10 * k + h) = 1 then 8 else -8)) (hb : b = fsum (mWorthT σ k h) n + (if σ.1 7 k = σ.1 22 h then 6 else 0)) (z : Int32), z = mFar σ k h → ∀ y : Int32, V X G 6 (eQ X G (fun v T => v = some (.int (mWorth σ k h)) ∧ T = S) (fun _ _ => False) 0 0) 0 0 165 [(5, false, .int z), (4, false, .int y), (0, false, .ref m), (1, false, .int (nI k)), (2, false, .int (nI h)), (3, false, .int (fsum (mWorthT σ k h) n))] [.int w, .int b] S := fun w b hw hb z hz y => by
    refine V_iadd C dX9_worthOf_165 ?_
    refine V_iload C dX9_worthOf_166 rfl ?_
    refine V_iconst C (v := 5) dX9_worthOf_168 (by decide) ?_
    refine V_idiv C dX9_worthOf_169 (by decide) ?_
    refine V_isub C dX9_worthOf_170 ?_
    refine V_iret C (by first | omega | decide) (by first | omega | decide) dX9_worthOf_171 ?_
    exact ⟨by rw [hw, hb, hz, hn]; rfl, rfl⟩
  have JD : ∀ z : Int32, z = mFar σ k h → V X G 6 (eQ X G (fun v T => v = some (.int (mWorth σ k h)) ∧ T = S) (fun _ _ => False) 0 0) 0 0 118 [(4, false, .int (σ.1 19 (10 * k + h))), (0, false, .ref m), (1, false, .int (nI k)), (2, false, .int (nI h)), (3, false, .int (fsum (mWorthT σ k h) n))] [.int z] S := fun z hz => by
    refine V_istore C dX9_worthOf_118 (by decide) rfl ?_
    simp only [lset1, lset2, List.filter_cons, List.filter_nil, Nat.reduceBEq, Nat.reduceAdd, Bool.not_true, Bool.not_false, Bool.and_true, Bool.and_false, Bool.true_and, Bool.false_and, if_true, if_false, Bool.false_eq_true, reduceIte]
    refine V_iload_n C dX9_worthOf_120 rfl ?_
    refine V_aload_n C dX9_worthOf_121 rfl (by first | exact isR_r _ | exact isR_q _ | exact isR_n) ?_
    refine V_getS C 9 7 rfl cf_9 fl_X9_25 (by decide) (by decide) dX9_worthOf_122 (by assumption) (by assumption) ?_
    refine V_iload_n C dX9_worthOf_125 rfl ?_
    refine V_ialdE C (by assumption) (by decide) (by assumption) (by assumption) (by first | assumption | omega) (by decide) dX9_worthOf_126 ?_
    refine V_aload_n C dX9_worthOf_127 rfl (by first | exact isR_r _ | exact isR_q _ | exact isR_n) ?_
    refine V_getS C 9 22 rfl cf_9 fl_X9_68 (by decide) (by decide) dX9_worthOf_128 (by assumption) (by assumption) ?_
    refine V_iload_n C dX9_worthOf_131 rfl ?_
    refine V_ialdE C (by assumption) (by decide) (by assumption) (by assumption) (by first | assumption | omega) (by decide) dX9_worthOf_132 ?_
    refine V_icmp_ne C (tgt := 141) dX9_worthOf_133 (by decide) (fun h133 => ?_) (fun h133 => ?_)
    · refine V_iconst C (v := 0) dX9_worthOf_141 (by decide) ?_
      refine V_iadd C dX9_worthOf_142 ?_
      refine V_iload C dX9_worthOf_143 rfl ?_
      refine V_if_ne C (tgt := 152) dX9_worthOf_145 (by decide) (fun h145 => ?_) (fun h145 => ?_)
      · refine V_iload C dX9_worthOf_152 rfl ?_
        refine V_iconst C (v := 1) dX9_worthOf_154 (by decide) ?_
        refine V_icmp_ne C (tgt := 163) dX9_worthOf_155 (by decide) (fun h155 => ?_) (fun h155 => ?_)
        · refine V_bipush C (v := (-8)) dX9_worthOf_163 (by decide) ?_
          refine JE _ _ ?_ ?_ z hz _
          · first | (rw [if_pos h145]; done) | (rw [if_neg h145, if_pos h155]; done) | (rw [if_neg h145, if_neg h155]; done)
          · first | (rw [if_pos h133]; done) | (rw [if_neg h133]; done)
        · refine V_bipush C (v := 8) dX9_worthOf_158 (by decide) ?_
          refine V_goto C (tgt := 165) dX9_worthOf_160 (by decide) ?_
          refine JE _ _ ?_ ?_ z hz _
          · first | (rw [if_pos h145]; done) | (rw [if_neg h145, if_pos h155]; done) | (rw [if_neg h145, if_neg h155]; done)
          · first | (rw [if_pos h133]; done) | (rw [if_neg h133]; done)
      · refine V_iconst C (v := 0) dX9_worthOf_148 (by decide) ?_
        refine V_goto C (tgt := 165) dX9_worthOf_149 (by decide) ?_
        refine JE _ _ ?_ ?_ z hz _
        · first | (rw [if_pos h145]; done) | (rw [if_neg h145, if_pos h155]; done) | (rw [if_neg h145, if_neg h155]; done)
        · first | (rw [if_pos h133]; done) | (rw [if_neg h133]; done)
    · refine V_bipush C (v := 6) dX9_worthOf_136 (by decide) ?_
      refine V_goto C (tgt := 142) dX9_worthOf_138 (by decide) ?_
      refine V_iadd C dX9_worthOf_142 ?_
      refine V_iload C dX9_worthOf_143 rfl ?_
      refine V_if_ne C (tgt := 152) dX9_worthOf_145 (by decide) (fun h145 => ?_) (fun h145 => ?_)
      · refine V_iload C dX9_worthOf_152 rfl ?_
        refine V_iconst C (v := 1) dX9_worthOf_154 (by decide) ?_
        refine V_icmp_ne C (tgt := 163) dX9_worthOf_155 (by decide) (fun h155 => ?_) (fun h155 => ?_)
        · refine V_bipush C (v := (-8)) dX9_worthOf_163 (by decide) ?_
          refine JE _ _ ?_ ?_ z hz _
          · first | (rw [if_pos h145]; done) | (rw [if_neg h145, if_pos h155]; done) | (rw [if_neg h145, if_neg h155]; done)
          · first | (rw [if_pos h133]; done) | (rw [if_neg h133]; done)
        · refine V_bipush C (v := 8) dX9_worthOf_158 (by decide) ?_
          refine V_goto C (tgt := 165) dX9_worthOf_160 (by decide) ?_
          refine JE _ _ ?_ ?_ z hz _
          · first | (rw [if_pos h145]; done) | (rw [if_neg h145, if_pos h155]; done) | (rw [if_neg h145, if_neg h155]; done)
          · first | (rw [if_pos h133]; done) | (rw [if_neg h133]; done)
      · refine V_iconst C (v := 0) dX9_worthOf_148 (by decide) ?_
        refine V_goto C (tgt := 165) dX9_worthOf_149 (by decide) ?_
        refine JE _ _ ?_ ?_ z hz _
        · first | (rw [if_pos h145]; done) | (rw [if_neg h145, if_pos h155]; done) | (rw [if_neg h145, if_neg h155]; done)
        · first | (rw [if_pos h133]; done) | (rw [if_neg h133]; done)
  have loop : ∀ t j : Nat, j + t = n → V X G 6 (eQ X G (fun v T => v = some (.int (mWorth σ k h)) ∧ T = S) (fun _ _ => False) 0 0) 0 0 5 [(0, false, .ref m), (1, false, .int (nI k)), (2, false, .int (nI h)), (3, false, .int (fsum (mWorthT σ k h) j)), (4, false, .int (nI j))] [] S := by
    intro t
    induction t with
    | zero =>
      intro j hj
      obtain rfl : j = n := by omega
      refine V_iload C dX9_worthOf_5 rfl ?_
      refine V_aload_n C dX9_worthOf_7 rfl (by first | exact isR_r _ | exact isR_q _ | exact isR_n) ?_
      refine V_getIe C 9 1 rfl cf_9 fl_X9_162 (by decide) (by decide) dX9_worthOf_8 (by assumption) (by assumption) ?_
      refine V_igeN C (tgt := 61) (by omega) (by omega) dX9_worthOf_11 (by decide) (fun h11 => ?_) (fun h11 => ?_)
      · refine V_aload_n C dX9_worthOf_61 rfl (by first | exact isR_r _ | exact isR_q _ | exact isR_n) ?_
        refine V_getS C 9 19 rfl cf_9 fl_X9_62 (by decide) (by decide) dX9_worthOf_62 (by assumption) (by assumption) ?_
        refine V_bipush C (v := 10) dX9_worthOf_65 (by decide) ?_
        refine V_iload_n C dX9_worthOf_67 rfl ?_
        refine V_imul C dX9_worthOf_68 ?_
        rw [show (10 : Int32) * nI k = nI (10 * k) from pk_mul 10 k]
        refine V_iload_n C dX9_worthOf_69 rfl ?_
        refine V_iadd C dX9_worthOf_70 ?_
        rw [nI_add]
        refine V_ialdE C (by assumption) (by decide) (by assumption) (by assumption) (by first | assumption | omega) (by decide) dX9_worthOf_71 ?_
        refine V_istore C dX9_worthOf_72 (by decide) rfl ?_
        simp only [lset1, lset2, List.filter_cons, List.filter_nil, Nat.reduceBEq, Nat.reduceAdd, Bool.not_true, Bool.not_false, Bool.and_true, Bool.and_false, Bool.true_and, Bool.false_and, if_true, if_false, Bool.false_eq_true, reduceIte]
        refine V_aload_n C dX9_worthOf_74 rfl (by first | exact isR_r _ | exact isR_q _ | exact isR_n) ?_
        refine V_getS C 9 6 rfl cf_9 fl_X9_22 (by decide) (by decide) dX9_worthOf_75 (by assumption) (by assumption) ?_
        refine V_iload_n C dX9_worthOf_78 rfl ?_
        refine V_ialdE C (by assumption) (by decide) (by assumption) (by assumption) (by first | assumption | omega) (by decide) dX9_worthOf_79 ?_
        refine V_aload_n C dX9_worthOf_80 rfl (by first | exact isR_r _ | exact isR_q _ | exact isR_n) ?_
        refine V_getS C 9 21 rfl cf_9 fl_X9_65 (by decide) (by decide) dX9_worthOf_81 (by assumption) (by assumption) ?_
        refine V_iload_n C dX9_worthOf_84 rfl ?_
        refine V_ialdE C (by assumption) (by decide) (by assumption) (by assumption) (by first | assumption | omega) (by decide) dX9_worthOf_85 ?_
        refine V_icmp_ge C (tgt := 105) dX9_worthOf_86 (by decide) (fun h86 => ?_) (fun h86 => ?_)
        · refine V_aload_n C dX9_worthOf_105 rfl (by first | exact isR_r _ | exact isR_q _ | exact isR_n) ?_
          refine V_getS C 9 6 rfl cf_9 fl_X9_22 (by decide) (by decide) dX9_worthOf_106 (by assumption) (by assumption) ?_
          refine V_iload_n C dX9_worthOf_109 rfl ?_
          refine V_ialdE C (by assumption) (by decide) (by assumption) (by assumption) (by first | assumption | omega) (by decide) dX9_worthOf_110 ?_
          refine V_aload_n C dX9_worthOf_111 rfl (by first | exact isR_r _ | exact isR_q _ | exact isR_n) ?_
          refine V_getS C 9 21 rfl cf_9 fl_X9_65 (by decide) (by decide) dX9_worthOf_112 (by assumption) (by assumption) ?_
          refine V_iload_n C dX9_worthOf_115 rfl ?_
          refine V_ialdE C (by assumption) (by decide) (by assumption) (by assumption) (by first | assumption | omega) (by decide) dX9_worthOf_116 ?_
          refine V_isub C dX9_worthOf_117 ?_
          refine JD _ ?_
          unfold mFar
          first | (rw [if_pos (Int32.not_le.mp h86)]; done) | (rw [if_neg (Int32.not_lt.mpr h86)]; done)
        · refine V_aload_n C dX9_worthOf_89 rfl (by first | exact isR_r _ | exact isR_q _ | exact isR_n) ?_
          refine V_getS C 9 21 rfl cf_9 fl_X9_65 (by decide) (by decide) dX9_worthOf_90 (by assumption) (by assumption) ?_
          refine V_iload_n C dX9_worthOf_93 rfl ?_
          refine V_ialdE C (by assumption) (by decide) (by assumption) (by assumption) (by first | assumption | omega) (by decide) dX9_worthOf_94 ?_
          refine V_aload_n C dX9_worthOf_95 rfl (by first | exact isR_r _ | exact isR_q _ | exact isR_n) ?_
          refine V_getS C 9 6 rfl cf_9 fl_X9_22 (by decide) (by decide) dX9_worthOf_96 (by assumption) (by assumption) ?_
          refine V_iload_n C dX9_worthOf_99 rfl ?_
          refine V_ialdE C (by assumption) (by decide) (by assumption) (by assumption) (by first | assumption | omega) (by decide) dX9_worthOf_100 ?_
          refine V_isub C dX9_worthOf_101 ?_
          refine V_goto C (tgt := 118) dX9_worthOf_102 (by decide) ?_
          refine JD _ ?_
          unfold mFar
          first | (rw [if_pos (Int32.not_le.mp h86)]; done) | (rw [if_neg (Int32.not_lt.mpr h86)]; done)
      · omega
    | succ t ih =>
      intro j hj
      refine V_iload C dX9_worthOf_5 rfl ?_
      refine V_aload_n C dX9_worthOf_7 rfl (by first | exact isR_r _ | exact isR_q _ | exact isR_n) ?_
      refine V_getIe C 9 1 rfl cf_9 fl_X9_162 (by decide) (by decide) dX9_worthOf_8 (by assumption) (by assumption) ?_
      refine V_igeN C (tgt := 61) (by omega) (by omega) dX9_worthOf_11 (by decide) (fun h11 => ?_) (fun h11 => ?_)
      · omega
      · refine V_iload_n C dX9_worthOf_14 rfl ?_
        refine V_iload C dX9_worthOf_15 rfl ?_
        refine V_iload_n C dX9_worthOf_17 rfl ?_
        refine V_icmp_eq C (tgt := 52) dX9_worthOf_18 (by decide) (fun h18 => ?_) (fun h18 => ?_)
        · refine V_iconst C (v := 0) dX9_worthOf_52 (by decide) ?_
          refine V_iadd C dX9_worthOf_53 ?_
          refine V_istore_n C dX9_worthOf_54 (by decide) rfl ?_
          simp only [lset1, lset2, List.filter_cons, List.filter_nil, Nat.reduceBEq, Nat.reduceAdd, Bool.not_true, Bool.not_false, Bool.and_true, Bool.and_false, Bool.true_and, Bool.false_and, if_true, if_false, Bool.false_eq_true, reduceIte]
          refine V_incN C dX9_worthOf_55 rfl (by decide) rfl ?_
          simp only [lset1, lset2, List.filter_cons, List.filter_nil, Nat.reduceBEq, Nat.reduceAdd, Bool.not_true, Bool.not_false, Bool.and_true, Bool.and_false, Bool.true_and, Bool.false_and, if_true, if_false, Bool.false_eq_true, reduceIte]
          refine V_goto C (tgt := 5) dX9_worthOf_58 (by decide) ?_
          refine V_sub ?_ (ih (j + 1) (by omega))
          refine ⟨rfl, rfl, rfl, ?_, rfl, trivial⟩
          show some (false, Value.int _) = some (false, Value.int (fsum (mWorthT σ k h) j + mWorthT σ k h j))
          first | (rw [mWorthT_f (fun q => q.1 h18)]; done) | (rw [mWorthT_f (fun q => h34 q.2.1)]; done) | (rw [mWorthT_f (fun q => h44 q.2.2)]; done) | (rw [mWorthT_t ⟨h18, h34, h44⟩]; done)
        · refine V_aload_n C dX9_worthOf_21 rfl (by first | exact isR_r _ | exact isR_q _ | exact isR_n) ?_
          refine V_getS C 9 5 rfl cf_9 fl_X9_19 (by decide) (by decide) dX9_worthOf_22 (by assumption) (by assumption) ?_
          refine V_iload C dX9_worthOf_25 rfl ?_
          refine V_ialdE C (by assumption) (by decide) (by assumption) (by assumption) (by first | assumption | omega) (by decide) dX9_worthOf_27 ?_
          refine V_aload_n C dX9_worthOf_28 rfl (by first | exact isR_r _ | exact isR_q _ | exact isR_n) ?_
          refine V_getS C 9 5 rfl cf_9 fl_X9_19 (by decide) (by decide) dX9_worthOf_29 (by assumption) (by assumption) ?_
          refine V_iload_n C dX9_worthOf_32 rfl ?_
          refine V_ialdE C (by assumption) (by decide) (by assumption) (by assumption) (by first | assumption | omega) (by decide) dX9_worthOf_33 ?_
          refine V_icmp_ne C (tgt := 52) dX9_worthOf_34 (by decide) (fun h34 => ?_) (fun h34 => ?_)
          · refine V_iconst C (v := 0) dX9_worthOf_52 (by decide) ?_
            refine V_iadd C dX9_worthOf_53 ?_
            refine V_istore_n C dX9_worthOf_54 (by decide) rfl ?_
            simp only [lset1, lset2, List.filter_cons, List.filter_nil, Nat.reduceBEq, Nat.reduceAdd, Bool.not_true, Bool.not_false, Bool.and_true, Bool.and_false, Bool.true_and, Bool.false_and, if_true, if_false, Bool.false_eq_true, reduceIte]
            refine V_incN C dX9_worthOf_55 rfl (by decide) rfl ?_
            simp only [lset1, lset2, List.filter_cons, List.filter_nil, Nat.reduceBEq, Nat.reduceAdd, Bool.not_true, Bool.not_false, Bool.and_true, Bool.and_false, Bool.true_and, Bool.false_and, if_true, if_false, Bool.false_eq_true, reduceIte]
            refine V_goto C (tgt := 5) dX9_worthOf_58 (by decide) ?_
            refine V_sub ?_ (ih (j + 1) (by omega))
            refine ⟨rfl, rfl, rfl, ?_, rfl, trivial⟩
            show some (false, Value.int _) = some (false, Value.int (fsum (mWorthT σ k h) j + mWorthT σ k h j))
            first | (rw [mWorthT_f (fun q => q.1 h18)]; done) | (rw [mWorthT_f (fun q => h34 q.2.1)]; done) | (rw [mWorthT_f (fun q => h44 q.2.2)]; done) | (rw [mWorthT_t ⟨h18, h34, h44⟩]; done)
          · refine V_aload_n C dX9_worthOf_37 rfl (by first | exact isR_r _ | exact isR_q _ | exact isR_n) ?_
            refine V_iload C dX9_worthOf_38 rfl ?_
            refine V_fV C (c_X9_homeOf _ hl G S m σ hR hI j (by omega)) kv_X9_227 cf_9 (by decide) rfl (by assumption) (by decide) (by decide) rfl rfl (Nat.le_of_ble_eq_true rfl) dX9_worthOf_40 ?_
            dsimp only [Option.toList_some, Option.toList_none, List.cons_append, List.nil_append]
            refine V_iload_n C dX9_worthOf_43 rfl ?_
            refine V_icmp_ne C (tgt := 52) dX9_worthOf_44 (by decide) (fun h44 => ?_) (fun h44 => ?_)
            · refine V_iconst C (v := 0) dX9_worthOf_52 (by decide) ?_
              refine V_iadd C dX9_worthOf_53 ?_
              refine V_istore_n C dX9_worthOf_54 (by decide) rfl ?_
              simp only [lset1, lset2, List.filter_cons, List.filter_nil, Nat.reduceBEq, Nat.reduceAdd, Bool.not_true, Bool.not_false, Bool.and_true, Bool.and_false, Bool.true_and, Bool.false_and, if_true, if_false, Bool.false_eq_true, reduceIte]
              refine V_incN C dX9_worthOf_55 rfl (by decide) rfl ?_
              simp only [lset1, lset2, List.filter_cons, List.filter_nil, Nat.reduceBEq, Nat.reduceAdd, Bool.not_true, Bool.not_false, Bool.and_true, Bool.and_false, Bool.true_and, Bool.false_and, if_true, if_false, Bool.false_eq_true, reduceIte]
              refine V_goto C (tgt := 5) dX9_worthOf_58 (by decide) ?_
              refine V_sub ?_ (ih (j + 1) (by omega))
              refine ⟨rfl, rfl, rfl, ?_, rfl, trivial⟩
              show some (false, Value.int _) = some (false, Value.int (fsum (mWorthT σ k h) j + mWorthT σ k h j))
              first | (rw [mWorthT_f (fun q => q.1 h18)]; done) | (rw [mWorthT_f (fun q => h34 q.2.1)]; done) | (rw [mWorthT_f (fun q => h44 q.2.2)]; done) | (rw [mWorthT_t ⟨h18, h34, h44⟩]; done)
            · refine V_bipush C (v := 10) dX9_worthOf_47 (by decide) ?_
              refine V_goto C (tgt := 53) dX9_worthOf_49 (by decide) ?_
              refine V_iadd C dX9_worthOf_53 ?_
              refine V_istore_n C dX9_worthOf_54 (by decide) rfl ?_
              simp only [lset1, lset2, List.filter_cons, List.filter_nil, Nat.reduceBEq, Nat.reduceAdd, Bool.not_true, Bool.not_false, Bool.and_true, Bool.and_false, Bool.true_and, Bool.false_and, if_true, if_false, Bool.false_eq_true, reduceIte]
              refine V_incN C dX9_worthOf_55 rfl (by decide) rfl ?_
              simp only [lset1, lset2, List.filter_cons, List.filter_nil, Nat.reduceBEq, Nat.reduceAdd, Bool.not_true, Bool.not_false, Bool.and_true, Bool.and_false, Bool.true_and, Bool.false_and, if_true, if_false, Bool.false_eq_true, reduceIte]
              refine V_goto C (tgt := 5) dX9_worthOf_58 (by decide) ?_
              refine V_sub ?_ (ih (j + 1) (by omega))
              refine ⟨rfl, rfl, rfl, ?_, rfl, trivial⟩
              show some (false, Value.int _) = some (false, Value.int (fsum (mWorthT σ k h) j + mWorthT σ k h j))
              first | (rw [mWorthT_f (fun q => q.1 h18)]; done) | (rw [mWorthT_f (fun q => h34 q.2.1)]; done) | (rw [mWorthT_f (fun q => h44 q.2.2)]; done) | (rw [mWorthT_t ⟨h18, h34, h44⟩]; done)
  refine V_iconst C (v := 0) dX9_worthOf_0 (by decide) ?_
  refine V_istore_n C dX9_worthOf_1 (by decide) rfl ?_
  simp only [lset1, lset2, List.filter_cons, List.filter_nil, Nat.reduceBEq, Nat.reduceAdd, Bool.not_true, Bool.not_false, Bool.and_true, Bool.and_false, Bool.true_and, Bool.false_and, if_true, if_false, Bool.false_eq_true, reduceIte]
  refine V_iconst C (v := 0) dX9_worthOf_2 (by decide) ?_
  refine V_istore C dX9_worthOf_3 (by decide) rfl ?_
  simp only [lset1, lset2, List.filter_cons, List.filter_nil, Nat.reduceBEq, Nat.reduceAdd, Bool.not_true, Bool.not_false, Bool.and_true, Bool.and_false, Bool.true_and, Bool.false_and, if_true, if_false, Bool.false_eq_true, reduceIte]
  refine V_sub ?_ (loop n 0 (by omega))
  exact ⟨rfl, rfl, rfl, rfl, rfl, trivial⟩
