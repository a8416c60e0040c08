/-! THE REFERENCE: child, home. -/
theorem gT_y {x y z : Int32} (h : gT x y z = 0) : ¬ x = 0 ∧ ¬ y = 0 ∧ ¬ z = 0 := by
  unfold gT at h
  split at h
  · exact absurd h (by decide)
  · split at h
    · exact absurd h (by decide)
    · split at h
      · exact absurd h (by decide)
      · exact ⟨‹_›, ‹_›, ‹_›⟩
theorem c_X9_child (l : Launch) (hl : l.stackTraces = false) (G : gG) (S : sS) (m : Nat) (σ : aS) (hR : RelR S m σ) (hI : IC σ) (a b c d e : Int32) : CtR l G yX9_child cX9_child 8 (Option.some FieldType.int) 4 [.ref m, .int a, .int b, .int c, .int d, .int e] S m (some (.int (oChild σ a b c d e).1)) (oChild σ a b c d e).2 := by
  have hm := hR.1
  have hRF := RF_0 hR
  obtain ⟨n, hn⟩ : ∃ n, n = cN σ 1 := ⟨_, rfl⟩
  have hn16 : n ≤ 16 := by rw [hn]; exact hI.2.1.2
  have en : σ.2 1 = nI n := by rw [hn]; exact hI.2.1.1
  have n1 : sI S 901 m = nI n := (hR.2.2 1).trans en
  refine Ct_of (by decide) (cat1_all (by repeat first | exact trivial | refine ⟨by first | rfl | exact isR_c (isR_q _), ?_⟩)) (Nat.le_of_ble_eq_true rfl) hl fun X C hXl hin => ?_
  subst hXl
  dsimp only [lArgs, Nat.reduceAdd]
  have J2 : ∀ (x y : Int32), x = pI9 (inP a 0 7000 ∧ inP b 0 15 ∧ inP c 0 7 ∧ inP d 0 50 ∧ inP e 0 3) → y = bI (σ.2 1 < 16) → V X G 8 (eQ X G (fun v T => v = some (.int (oChild σ a b c d e).1) ∧ RF S T m (oChild σ a b c d e).2.1 (oChild σ a b c d e).2.2) (fun _ _ => False) 0 0) 0 0 76 [(6, false, .int x), (0, false, .ref m), (1, false, .int a), (2, false, .int b), (3, false, .int c), (4, false, .int d), (5, false, .int e)] [.int y, .int x, .ref m] S := fun x y hx hy => by
    have et : gT x y 1 = tChild σ a b c d e := by rw [hx, hy]; rfl
    refine V_iconst C (v := 1) dX9_child_76 (by decide) ?_
    refine V_fV C (c_X9_goes _ hl G S m hm x y 1) kv_X9_179 cf_9 (by decide) rfl hRF.1.1 (by decide) (by decide) rfl rfl (Nat.le_of_ble_eq_true rfl) dX9_child_77 ?_
    dsimp only [Option.toList_some, Option.toList_none, List.cons_append, List.nil_append]
    rw [et]
    refine V_genT (RF_I hRF (f := 56) rfl) (fun T hRF => ?_)
    refine V_if_ne C (tgt := 85) dX9_child_80 (by decide) (fun h80 => ?_) (fun h80 => ?_)
    · have h0 := bI_ne.mp h80
      rw [h0] at hRF
      have hlt : n < 16 := by
        have q := (gT_y (et.trans h0)).2.1
        rw [hy] at q
        have q2 := bI_ne.mp q
        rw [en] at q2
        exact (nI_ltI (by omega) (by decide)).mp q2
      refine V_aload_n C dX9_child_85 rfl (by first | exact isR_r _ | exact isR_q _ | exact isR_n) ?_
      refine V_fV C (c_X9_leastLoaded _ hl G _ m (sT σ 0) hRF.1 hI) kv_X9_183 cf_9 (by decide) rfl hRF.1.1 (by decide) (by decide) rfl rfl (Nat.le_of_ble_eq_true rfl) dX9_child_86 ?_
      dsimp only [Option.toList_some, Option.toList_none, List.cons_append, List.nil_append]
      refine V_istore C dX9_child_89 (by decide) rfl ?_
      simp only [lset1, lset2, List.filter_cons, List.filter_nil, Nat.reduceBEq, Nat.reduceAdd, Bool.not_true, Bool.not_false, Bool.and_true, Bool.and_false, Bool.true_and, Bool.false_and, if_true, if_false, Bool.false_eq_true, reduceIte]
      refine V_aload_n C dX9_child_91 rfl (by first | exact isR_r _ | exact isR_q _ | exact isR_n) ?_
      refine V_mArr C 2 hRF rfl fl_X9_7 (by decide) dX9_child_92 (fun a92 ha92 => ?_)
      refine V_aload_n C dX9_child_95 rfl (by first | exact isR_r _ | exact isR_q _ | exact isR_n) ?_
      refine V_mNum C 1 hRF fl_X9_162 (by decide) dX9_child_96 en ?_
      refine V_iload_n C dX9_child_99 rfl ?_
      refine V_mSt C 2 hRF rfl rfl ha92 (by first | assumption | (show _ < _; omega)) dX9_child_100 (fun T hRF => ?_)
      refine V_aload_n C dX9_child_101 rfl (by first | exact isR_r _ | exact isR_q _ | exact isR_n) ?_
      refine V_mArr C 3 hRF rfl fl_X9_13 (by decide) dX9_child_102 (fun a102 ha102 => ?_)
      refine V_aload_n C dX9_child_105 rfl (by first | exact isR_r _ | exact isR_q _ | exact isR_n) ?_
      refine V_mNum C 1 hRF fl_X9_162 (by decide) dX9_child_106 en ?_
      refine V_aload_n C dX9_child_109 rfl (by first | exact isR_r _ | exact isR_q _ | exact isR_n) ?_
      refine V_mNum C 0 hRF fl_X9_187 (by decide) dX9_child_110 rfl ?_
      refine V_mSt C 3 hRF rfl rfl ha102 (by first | assumption | (show _ < _; omega)) dX9_child_113 (fun T hRF => ?_)
      refine V_aload_n C dX9_child_114 rfl (by first | exact isR_r _ | exact isR_q _ | exact isR_n) ?_
      refine V_mArr C 4 hRF rfl fl_X9_16 (by decide) dX9_child_115 (fun a115 ha115 => ?_)
      refine V_aload_n C dX9_child_118 rfl (by first | exact isR_r _ | exact isR_q _ | exact isR_n) ?_
      refine V_mNum C 1 hRF fl_X9_162 (by decide) dX9_child_119 en ?_
      refine V_iload_n C dX9_child_122 rfl ?_
      refine V_mSt C 4 hRF rfl rfl ha115 (by first | assumption | (show _ < _; omega)) dX9_child_123 (fun T hRF => ?_)
      refine V_aload_n C dX9_child_124 rfl (by first | exact isR_r _ | exact isR_q _ | exact isR_n) ?_
      refine V_mArr C 5 hRF rfl fl_X9_19 (by decide) dX9_child_125 (fun a125 ha125 => ?_)
      refine V_aload_n C dX9_child_128 rfl (by first | exact isR_r _ | exact isR_q _ | exact isR_n) ?_
      refine V_mNum C 1 hRF fl_X9_162 (by decide) dX9_child_129 en ?_
      refine V_iload_n C dX9_child_132 rfl ?_
      refine V_mSt C 5 hRF rfl rfl ha125 (by first | assumption | (show _ < _; omega)) dX9_child_133 (fun T hRF => ?_)
      refine V_aload_n C dX9_child_134 rfl (by first | exact isR_r _ | exact isR_q _ | exact isR_n) ?_
      refine V_mArr C 6 hRF rfl fl_X9_22 (by decide) dX9_child_135 (fun a135 ha135 => ?_)
      refine V_aload_n C dX9_child_138 rfl (by first | exact isR_r _ | exact isR_q _ | exact isR_n) ?_
      refine V_mNum C 1 hRF fl_X9_162 (by decide) dX9_child_139 en ?_
      refine V_iload C dX9_child_142 rfl ?_
      refine V_mSt C 6 hRF rfl rfl ha135 (by first | assumption | (show _ < _; omega)) dX9_child_144 (fun T hRF => ?_)
      refine V_aload_n C dX9_child_145 rfl (by first | exact isR_r _ | exact isR_q _ | exact isR_n) ?_
      refine V_mArr C 7 hRF rfl fl_X9_25 (by decide) dX9_child_146 (fun a146 ha146 => ?_)
      refine V_aload_n C dX9_child_149 rfl (by first | exact isR_r _ | exact isR_q _ | exact isR_n) ?_
      refine V_mNum C 1 hRF fl_X9_162 (by decide) dX9_child_150 en ?_
      refine V_iload C dX9_child_153 rfl ?_
      refine V_mSt C 7 hRF rfl rfl ha146 (by first | assumption | (show _ < _; omega)) dX9_child_155 (fun T hRF => ?_)
      refine V_aload_n C dX9_child_156 rfl (by first | exact isR_r _ | exact isR_q _ | exact isR_n) ?_
      refine V_mArr C 8 hRF rfl fl_X9_28 (by decide) dX9_child_157 (fun a157 ha157 => ?_)
      refine V_aload_n C dX9_child_160 rfl (by first | exact isR_r _ | exact isR_q _ | exact isR_n) ?_
      refine V_mNum C 1 hRF fl_X9_162 (by decide) dX9_child_161 en ?_
      refine V_iload C dX9_child_164 rfl ?_
      refine V_mSt C 8 hRF rfl rfl ha157 (by first | assumption | (show _ < _; omega)) dX9_child_166 (fun T hRF => ?_)
      refine V_aload_n C dX9_child_167 rfl (by first | exact isR_r _ | exact isR_q _ | exact isR_n) ?_
      refine V_mArr C 9 hRF rfl fl_X9_31 (by decide) dX9_child_168 (fun a168 ha168 => ?_)
      refine V_aload_n C dX9_child_171 rfl (by first | exact isR_r _ | exact isR_q _ | exact isR_n) ?_
      refine V_mNum C 1 hRF fl_X9_162 (by decide) dX9_child_172 en ?_
      refine V_iconst C (v := (-1)) dX9_child_175 (by decide) ?_
      refine V_mSt C 9 hRF rfl rfl ha168 (by first | assumption | (show _ < _; omega)) dX9_child_176 (fun T hRF => ?_)
      refine V_aload_n C dX9_child_177 rfl (by first | exact isR_r _ | exact isR_q _ | exact isR_n) ?_
      refine V_mArr C 10 hRF rfl fl_X9_34 (by decide) dX9_child_178 (fun a178 ha178 => ?_)
      refine V_aload_n C dX9_child_181 rfl (by first | exact isR_r _ | exact isR_q _ | exact isR_n) ?_
      refine V_mNum C 1 hRF fl_X9_162 (by decide) dX9_child_182 en ?_
      refine V_iconst C (v := (-1)) dX9_child_185 (by decide) ?_
      refine V_mSt C 10 hRF rfl rfl ha178 (by first | assumption | (show _ < _; omega)) dX9_child_186 (fun T hRF => ?_)
      refine V_aload_n C dX9_child_187 rfl (by first | exact isR_r _ | exact isR_q _ | exact isR_n) ?_
      refine V_dup C dX9_child_188 (by first | rfl | exact isR_c (isR_q _)) ?_
      refine V_mNum C 1 hRF fl_X9_162 (by decide) dX9_child_189 en ?_
      refine V_iconst C (v := 1) dX9_child_192 (by decide) ?_
      refine V_iadd C dX9_child_193 ?_
      refine V_mPut C 1 hRF pl_X9_162 (by decide) dX9_child_194 (fun T hRF => ?_)
      refine V_aload_n C dX9_child_197 rfl (by first | exact isR_r _ | exact isR_q _ | exact isR_n) ?_
      refine V_mNum C 1 hRF fl_X9_162 (by decide) dX9_child_198 up1_s ?_
      refine V_iconst C (v := 1) dX9_child_201 (by decide) ?_
      refine V_isub C dX9_child_202 ?_
      refine V_iret C (by first | omega | decide) (by first | omega | decide) dX9_child_203 ?_
      refine ⟨?_, ?_⟩
      · unfold oChild
        rw [if_pos h0, en]
      · unfold oChild
        rw [if_pos h0, en, ← hn]
        exact hRF
    · have h0 := bI_eq.mp h80
      refine V_iconst C (v := 0) dX9_child_83 (by decide) ?_
      refine V_iret C (by first | omega | decide) (by first | omega | decide) dX9_child_84 ?_
      refine ⟨?_, ?_⟩
      · unfold oChild
        rw [if_neg h0]
      · unfold oChild
        rw [if_neg h0]
        exact hRF
  have J : ∀ x : Int32, x = pI9 (inP a 0 7000 ∧ inP b 0 15 ∧ inP c 0 7 ∧ inP d 0 50 ∧ inP e 0 3) → V X G 8 (eQ X G (fun v T => v = some (.int (oChild σ a b c d e).1) ∧ RF S T m (oChild σ a b c d e).2.1 (oChild σ a b c d e).2.2) (fun _ _ => False) 0 0) 0 0 57 [(0, false, .ref m), (1, false, .int a), (2, false, .int b), (3, false, .int c), (4, false, .int d), (5, false, .int e)] [.int x] S := fun x hx => by
    refine V_istore C dX9_child_57 (by decide) rfl ?_
    simp only [lset1, lset2, List.filter_cons, List.filter_nil, Nat.reduceBEq, Nat.reduceAdd, Bool.not_true, Bool.not_false, Bool.and_true, Bool.and_false, Bool.true_and, Bool.false_and, if_true, if_false, Bool.false_eq_true, reduceIte]
    refine V_aload_n C dX9_child_59 rfl (by first | exact isR_r _ | exact isR_q _ | exact isR_n) ?_
    refine V_iload C dX9_child_60 rfl ?_
    refine V_aload_n C dX9_child_62 rfl (by first | exact isR_r _ | exact isR_q _ | exact isR_n) ?_
    refine V_mNum C 1 hRF fl_X9_162 (by decide) dX9_child_63 en ?_
    refine V_bipush C (v := 16) dX9_child_66 (by decide) ?_
    rw [show (16 : Int32) = nI 16 from rfl]
    refine V_igeN C (tgt := 75) (by omega) (by omega) dX9_child_68 (by decide) (fun h68 => ?_) (fun h68 => ?_)
    · refine V_iconst C (v := 0) dX9_child_75 (by decide) ?_
      refine J2 _ _ hx ?_
      rw [en, show (16 : Int32) = nI 16 from rfl]
      first | exact (bI_t ((nI_ltI (by omega) (by decide)).mpr h68)).symm | exact (bI_f (fun q => absurd ((nI_ltI (by omega) (by decide)).mp q) (by omega))).symm
    · refine V_iconst C (v := 1) dX9_child_71 (by decide) ?_
      refine V_goto C (tgt := 76) dX9_child_72 (by decide) ?_
      refine J2 _ _ hx ?_
      rw [en, show (16 : Int32) = nI 16 from rfl]
      first | exact (bI_t ((nI_ltI (by omega) (by decide)).mpr h68)).symm | exact (bI_f (fun q => absurd ((nI_ltI (by omega) (by decide)).mp q) (by omega))).symm
  refine V_iload_n C dX9_child_0 rfl ?_
  refine V_iconst C (v := 0) dX9_child_1 (by decide) ?_
  refine V_sipush C (v := 7000) dX9_child_2 (by decide) ?_
  refine V_fS C (c_X9_in _ hl G S a 0 7000) ks_X9_165 (by decide) (by decide) rfl rfl (Nat.le_of_ble_eq_true rfl) dX9_child_5 ?_
  dsimp only [Option.toList_some, Option.toList_none, List.cons_append, List.nil_append]
  refine V_if_eq C (tgt := 56) dX9_child_8 (by decide) (fun h8 => ?_) (fun h8 => ?_)
  · refine V_iconst C (v := 0) dX9_child_56 (by decide) ?_
    refine J _ ?_
    first | exact Eq.symm (pI9_t ⟨bI_ne.mp h8, bI_ne.mp h18, bI_ne.mp h28, bI_ne.mp h39, bI_ne.mp h49⟩) | exact Eq.symm (pI9_f (fun q => bI_eq.mp h8 q.1)) | exact Eq.symm (pI9_f (fun q => bI_eq.mp h18 q.2.1)) | exact Eq.symm (pI9_f (fun q => bI_eq.mp h28 q.2.2.1)) | exact Eq.symm (pI9_f (fun q => bI_eq.mp h39 q.2.2.2.1)) | exact Eq.symm (pI9_f (fun q => bI_eq.mp h49 q.2.2.2.2))
  · refine V_iload_n C dX9_child_11 rfl ?_
    refine V_iconst C (v := 0) dX9_child_12 (by decide) ?_
    refine V_bipush C (v := 15) dX9_child_13 (by decide) ?_
    refine V_fS C (c_X9_in _ hl G S b 0 15) ks_X9_165 (by decide) (by decide) rfl rfl (Nat.le_of_ble_eq_true rfl) dX9_child_15 ?_
    dsimp only [Option.toList_some, Option.toList_none, List.cons_append, List.nil_append]
    refine V_if_eq C (tgt := 56) dX9_child_18 (by decide) (fun h18 => ?_) (fun h18 => ?_)
    · refine V_iconst C (v := 0) dX9_child_56 (by decide) ?_
      refine J _ ?_
      first | exact Eq.symm (pI9_t ⟨bI_ne.mp h8, bI_ne.mp h18, bI_ne.mp h28, bI_ne.mp h39, bI_ne.mp h49⟩) | exact Eq.symm (pI9_f (fun q => bI_eq.mp h8 q.1)) | exact Eq.symm (pI9_f (fun q => bI_eq.mp h18 q.2.1)) | exact Eq.symm (pI9_f (fun q => bI_eq.mp h28 q.2.2.1)) | exact Eq.symm (pI9_f (fun q => bI_eq.mp h39 q.2.2.2.1)) | exact Eq.symm (pI9_f (fun q => bI_eq.mp h49 q.2.2.2.2))
    · refine V_iload_n C dX9_child_21 rfl ?_
      refine V_iconst C (v := 0) dX9_child_22 (by decide) ?_
      refine V_bipush C (v := 7) dX9_child_23 (by decide) ?_
      refine V_fS C (c_X9_in _ hl G S c 0 7) ks_X9_165 (by decide) (by decide) rfl rfl (Nat.le_of_ble_eq_true rfl) dX9_child_25 ?_
      dsimp only [Option.toList_some, Option.toList_none, List.cons_append, List.nil_append]
      refine V_if_eq C (tgt := 56) dX9_child_28 (by decide) (fun h28 => ?_) (fun h28 => ?_)
      · refine V_iconst C (v := 0) dX9_child_56 (by decide) ?_
        refine J _ ?_
        first | exact Eq.symm (pI9_t ⟨bI_ne.mp h8, bI_ne.mp h18, bI_ne.mp h28, bI_ne.mp h39, bI_ne.mp h49⟩) | exact Eq.symm (pI9_f (fun q => bI_eq.mp h8 q.1)) | exact Eq.symm (pI9_f (fun q => bI_eq.mp h18 q.2.1)) | exact Eq.symm (pI9_f (fun q => bI_eq.mp h28 q.2.2.1)) | exact Eq.symm (pI9_f (fun q => bI_eq.mp h39 q.2.2.2.1)) | exact Eq.symm (pI9_f (fun q => bI_eq.mp h49 q.2.2.2.2))
      · refine V_iload C dX9_child_31 rfl ?_
        refine V_iconst C (v := 0) dX9_child_33 (by decide) ?_
        refine V_bipush C (v := 50) dX9_child_34 (by decide) ?_
        refine V_fS C (c_X9_in _ hl G S d 0 50) ks_X9_165 (by decide) (by decide) rfl rfl (Nat.le_of_ble_eq_true rfl) dX9_child_36 ?_
        dsimp only [Option.toList_some, Option.toList_none, List.cons_append, List.nil_append]
        refine V_if_eq C (tgt := 56) dX9_child_39 (by decide) (fun h39 => ?_) (fun h39 => ?_)
        · refine V_iconst C (v := 0) dX9_child_56 (by decide) ?_
          refine J _ ?_
          first | exact Eq.symm (pI9_t ⟨bI_ne.mp h8, bI_ne.mp h18, bI_ne.mp h28, bI_ne.mp h39, bI_ne.mp h49⟩) | exact Eq.symm (pI9_f (fun q => bI_eq.mp h8 q.1)) | exact Eq.symm (pI9_f (fun q => bI_eq.mp h18 q.2.1)) | exact Eq.symm (pI9_f (fun q => bI_eq.mp h28 q.2.2.1)) | exact Eq.symm (pI9_f (fun q => bI_eq.mp h39 q.2.2.2.1)) | exact Eq.symm (pI9_f (fun q => bI_eq.mp h49 q.2.2.2.2))
        · refine V_iload C dX9_child_42 rfl ?_
          refine V_iconst C (v := 0) dX9_child_44 (by decide) ?_
          refine V_iconst C (v := 3) dX9_child_45 (by decide) ?_
          refine V_fS C (c_X9_in _ hl G S e 0 3) ks_X9_165 (by decide) (by decide) rfl rfl (Nat.le_of_ble_eq_true rfl) dX9_child_46 ?_
          dsimp only [Option.toList_some, Option.toList_none, List.cons_append, List.nil_append]
          refine V_if_eq C (tgt := 56) dX9_child_49 (by decide) (fun h49 => ?_) (fun h49 => ?_)
          · refine V_iconst C (v := 0) dX9_child_56 (by decide) ?_
            refine J _ ?_
            first | exact Eq.symm (pI9_t ⟨bI_ne.mp h8, bI_ne.mp h18, bI_ne.mp h28, bI_ne.mp h39, bI_ne.mp h49⟩) | exact Eq.symm (pI9_f (fun q => bI_eq.mp h8 q.1)) | exact Eq.symm (pI9_f (fun q => bI_eq.mp h18 q.2.1)) | exact Eq.symm (pI9_f (fun q => bI_eq.mp h28 q.2.2.1)) | exact Eq.symm (pI9_f (fun q => bI_eq.mp h39 q.2.2.2.1)) | exact Eq.symm (pI9_f (fun q => bI_eq.mp h49 q.2.2.2.2))
          · refine V_iconst C (v := 1) dX9_child_52 (by decide) ?_
            refine V_goto C (tgt := 57) dX9_child_53 (by decide) ?_
            refine J _ ?_
            first | exact Eq.symm (pI9_t ⟨bI_ne.mp h8, bI_ne.mp h18, bI_ne.mp h28, bI_ne.mp h39, bI_ne.mp h49⟩) | exact Eq.symm (pI9_f (fun q => bI_eq.mp h8 q.1)) | exact Eq.symm (pI9_f (fun q => bI_eq.mp h18 q.2.1)) | exact Eq.symm (pI9_f (fun q => bI_eq.mp h28 q.2.2.1)) | exact Eq.symm (pI9_f (fun q => bI_eq.mp h39 q.2.2.2.1)) | exact Eq.symm (pI9_f (fun q => bI_eq.mp h49 q.2.2.2.2))
theorem c_X9_home (l : Launch) (hl : l.stackTraces = false) (G : gG) (S : sS) (m : Nat) (σ : aS) (hR : RelR S m σ) (hI : IC σ) (a b c : Int32) : CtR l G yX9_home cX9_home 4 (Option.some FieldType.int) 2 [.ref m, .int a, .int b, .int c] S m (some (.int (oHome σ a b c).1)) (oHome σ a b c).2 := by
  have hm := hR.1
  have hRF := RF_0 hR
  obtain ⟨n, hn⟩ : ∃ n, n = cN σ 20 := ⟨_, rfl⟩
  have hn16 : n ≤ 10 := by rw [hn]; exact hI.2.2.1.2
  have en : σ.2 20 = nI n := by rw [hn]; exact hI.2.2.1.1
  refine Ct_of (by decide) (cat1_all (by repeat first | exact trivial | refine ⟨by first | rfl | exact isR_c (isR_q _), ?_⟩)) (Nat.le_of_ble_eq_true rfl) hl fun X C hXl hin => ?_
  subst hXl
  dsimp only [lArgs, Nat.reduceAdd]
  have J2 : ∀ (x y : Int32), x = pI9 (inP a 0 50 ∧ inP b 0 3 ∧ inP c 1 5) → y = bI (σ.2 20 < 10) → V X G 4 (eQ X G (fun v T => v = some (.int (oHome σ a b c).1) ∧ RF S T m (oHome σ a b c).2.1 (oHome σ a b c).2.2) (fun _ _ => False) 0 0) 0 0 48 [(0, false, .ref m), (1, false, .int a), (2, false, .int b), (3, false, .int c)] [.int y, .int x, .ref m] S := fun x y hx hy => by
    have et : gT x y 1 = tHome σ a b c := by rw [hx, hy]; rfl
    refine V_iconst C (v := 1) dX9_home_48 (by decide) ?_
    refine V_fV C (c_X9_goes _ hl G S m hm x y 1) kv_X9_179 cf_9 (by decide) rfl hRF.1.1 (by decide) (by decide) rfl rfl (Nat.le_of_ble_eq_true rfl) dX9_home_49 ?_
    dsimp only [Option.toList_some, Option.toList_none, List.cons_append, List.nil_append]
    rw [et]
    refine V_genT (RF_I hRF (f := 56) rfl) (fun T hRF => ?_)
    refine V_if_ne C (tgt := 57) dX9_home_52 (by decide) (fun h52 => ?_) (fun h52 => ?_)
    · have h0 := bI_ne.mp h52
      rw [h0] at hRF
      have hlt : n < 10 := by
        have q := (gT_y (et.trans h0)).2.1
        rw [hy] at q
        have q2 := bI_ne.mp q
        rw [en] at q2
        exact (nI_ltI (by omega) (by decide)).mp q2
      refine V_aload_n C dX9_home_57 rfl (by first | exact isR_r _ | exact isR_q _ | exact isR_n) ?_
      refine V_mArr C 21 hRF rfl fl_X9_65 (by decide) dX9_home_58 (fun a58 ha58 => ?_)
      refine V_aload_n C dX9_home_61 rfl (by first | exact isR_r _ | exact isR_q _ | exact isR_n) ?_
      refine V_mNum C 20 hRF fl_X9_169 (by decide) dX9_home_62 en ?_
      refine V_iload_n C dX9_home_65 rfl ?_
      refine V_mSt C 21 hRF rfl rfl ha58 (by first | assumption | (show _ < _; omega)) dX9_home_66 (fun T hRF => ?_)
      refine V_aload_n C dX9_home_67 rfl (by first | exact isR_r _ | exact isR_q _ | exact isR_n) ?_
      refine V_mArr C 22 hRF rfl fl_X9_68 (by decide) dX9_home_68 (fun a68 ha68 => ?_)
      refine V_aload_n C dX9_home_71 rfl (by first | exact isR_r _ | exact isR_q _ | exact isR_n) ?_
      refine V_mNum C 20 hRF fl_X9_169 (by decide) dX9_home_72 en ?_
      refine V_iload_n C dX9_home_75 rfl ?_
      refine V_mSt C 22 hRF rfl rfl ha68 (by first | assumption | (show _ < _; omega)) dX9_home_76 (fun T hRF => ?_)
      refine V_aload_n C dX9_home_77 rfl (by first | exact isR_r _ | exact isR_q _ | exact isR_n) ?_
      refine V_mArr C 23 hRF rfl fl_X9_71 (by decide) dX9_home_78 (fun a78 ha78 => ?_)
      refine V_aload_n C dX9_home_81 rfl (by first | exact isR_r _ | exact isR_q _ | exact isR_n) ?_
      refine V_mNum C 20 hRF fl_X9_169 (by decide) dX9_home_82 en ?_
      refine V_iload_n C dX9_home_85 rfl ?_
      refine V_mSt C 23 hRF rfl rfl ha78 (by first | assumption | (show _ < _; omega)) dX9_home_86 (fun T hRF => ?_)
      refine V_aload_n C dX9_home_87 rfl (by first | exact isR_r _ | exact isR_q _ | exact isR_n) ?_
      refine V_dup C dX9_home_88 (by first | rfl | exact isR_c (isR_q _)) ?_
      refine V_mNum C 20 hRF fl_X9_169 (by decide) dX9_home_89 en ?_
      refine V_iconst C (v := 1) dX9_home_92 (by decide) ?_
      refine V_iadd C dX9_home_93 ?_
      refine V_mPut C 20 hRF pl_X9_169 (by decide) dX9_home_94 (fun T hRF => ?_)
      refine V_aload_n C dX9_home_97 rfl (by first | exact isR_r _ | exact isR_q _ | exact isR_n) ?_
      refine V_mNum C 20 hRF fl_X9_169 (by decide) dX9_home_98 up1_s ?_
      refine V_iconst C (v := 1) dX9_home_101 (by decide) ?_
      refine V_isub C dX9_home_102 ?_
      refine V_iret C (by first | omega | decide) (by first | omega | decide) dX9_home_103 ?_
      refine ⟨?_, ?_⟩
      · unfold oHome
        rw [if_pos h0, en]
      · unfold oHome
        rw [if_pos h0, en, ← hn]
        exact hRF
    · have h0 := bI_eq.mp h52
      refine V_iconst C (v := 0) dX9_home_55 (by decide) ?_
      refine V_iret C (by first | omega | decide) (by first | omega | decide) dX9_home_56 ?_
      refine ⟨?_, ?_⟩
      · unfold oHome
        rw [if_neg h0]
      · unfold oHome
        rw [if_neg h0]
        exact hRF
  have J : ∀ x : Int32, x = pI9 (inP a 0 50 ∧ inP b 0 3 ∧ inP c 1 5) → V X G 4 (eQ X G (fun v T => v = some (.int (oHome σ a b c).1) ∧ RF S T m (oHome σ a b c).2.1 (oHome σ a b c).2.2) (fun _ _ => False) 0 0) 0 0 34 [(0, false, .ref m), (1, false, .int a), (2, false, .int b), (3, false, .int c)] [.int x, .ref m] S := fun x hx => by
    refine V_aload_n C dX9_home_34 rfl (by first | exact isR_r _ | exact isR_q _ | exact isR_n) ?_
    refine V_mNum C 20 hRF fl_X9_169 (by decide) dX9_home_35 en ?_
    refine V_bipush C (v := 10) dX9_home_38 (by decide) ?_
    rw [show (10 : Int32) = nI 10 from rfl]
    refine V_igeN C (tgt := 47) (by omega) (by omega) dX9_home_40 (by decide) (fun h40 => ?_) (fun h40 => ?_)
    · refine V_iconst C (v := 0) dX9_home_47 (by decide) ?_
      refine J2 _ _ hx ?_
      rw [en, show (10 : Int32) = nI 10 from rfl]
      first | exact (bI_t ((nI_ltI (by omega) (by decide)).mpr h40)).symm | exact (bI_f (fun q => absurd ((nI_ltI (by omega) (by decide)).mp q) (by omega))).symm
    · refine V_iconst C (v := 1) dX9_home_43 (by decide) ?_
      refine V_goto C (tgt := 48) dX9_home_44 (by decide) ?_
      refine J2 _ _ hx ?_
      rw [en, show (10 : Int32) = nI 10 from rfl]
      first | exact (bI_t ((nI_ltI (by omega) (by decide)).mpr h40)).symm | exact (bI_f (fun q => absurd ((nI_ltI (by omega) (by decide)).mp q) (by omega))).symm
  refine V_aload_n C dX9_home_0 rfl (by first | exact isR_r _ | exact isR_q _ | exact isR_n) ?_
  refine V_iload_n C dX9_home_1 rfl ?_
  refine V_iconst C (v := 0) dX9_home_2 (by decide) ?_
  refine V_bipush C (v := 50) dX9_home_3 (by decide) ?_
  refine V_fS C (c_X9_in _ hl G S a 0 50) ks_X9_165 (by decide) (by decide) rfl rfl (Nat.le_of_ble_eq_true rfl) dX9_home_5 ?_
  dsimp only [Option.toList_some, Option.toList_none, List.cons_append, List.nil_append]
  refine V_if_eq C (tgt := 33) dX9_home_8 (by decide) (fun h8 => ?_) (fun h8 => ?_)
  · refine V_iconst C (v := 0) dX9_home_33 (by decide) ?_
    refine J _ ?_
    first | exact Eq.symm (pI9_t ⟨bI_ne.mp h8, bI_ne.mp h17, bI_ne.mp h26⟩) | exact Eq.symm (pI9_f (fun q => bI_eq.mp h8 q.1)) | exact Eq.symm (pI9_f (fun q => bI_eq.mp h17 q.2.1)) | exact Eq.symm (pI9_f (fun q => bI_eq.mp h26 q.2.2))
  · refine V_iload_n C dX9_home_11 rfl ?_
    refine V_iconst C (v := 0) dX9_home_12 (by decide) ?_
    refine V_iconst C (v := 3) dX9_home_13 (by decide) ?_
    refine V_fS C (c_X9_in _ hl G S b 0 3) ks_X9_165 (by decide) (by decide) rfl rfl (Nat.le_of_ble_eq_true rfl) dX9_home_14 ?_
    dsimp only [Option.toList_some, Option.toList_none, List.cons_append, List.nil_append]
    refine V_if_eq C (tgt := 33) dX9_home_17 (by decide) (fun h17 => ?_) (fun h17 => ?_)
    · refine V_iconst C (v := 0) dX9_home_33 (by decide) ?_
      refine J _ ?_
      first | exact Eq.symm (pI9_t ⟨bI_ne.mp h8, bI_ne.mp h17, bI_ne.mp h26⟩) | exact Eq.symm (pI9_f (fun q => bI_eq.mp h8 q.1)) | exact Eq.symm (pI9_f (fun q => bI_eq.mp h17 q.2.1)) | exact Eq.symm (pI9_f (fun q => bI_eq.mp h26 q.2.2))
    · refine V_iload_n C dX9_home_20 rfl ?_
      refine V_iconst C (v := 1) dX9_home_21 (by decide) ?_
      refine V_iconst C (v := 5) dX9_home_22 (by decide) ?_
      refine V_fS C (c_X9_in _ hl G S c 1 5) ks_X9_165 (by decide) (by decide) rfl rfl (Nat.le_of_ble_eq_true rfl) dX9_home_23 ?_
      dsimp only [Option.toList_some, Option.toList_none, List.cons_append, List.nil_append]
      refine V_if_eq C (tgt := 33) dX9_home_26 (by decide) (fun h26 => ?_) (fun h26 => ?_)
      · refine V_iconst C (v := 0) dX9_home_33 (by decide) ?_
        refine J _ ?_
        first | exact Eq.symm (pI9_t ⟨bI_ne.mp h8, bI_ne.mp h17, bI_ne.mp h26⟩) | exact Eq.symm (pI9_f (fun q => bI_eq.mp h8 q.1)) | exact Eq.symm (pI9_f (fun q => bI_eq.mp h17 q.2.1)) | exact Eq.symm (pI9_f (fun q => bI_eq.mp h26 q.2.2))
      · refine V_iconst C (v := 1) dX9_home_29 (by decide) ?_
        refine V_goto C (tgt := 34) dX9_home_30 (by decide) ?_
        refine J _ ?_
        first | exact Eq.symm (pI9_t ⟨bI_ne.mp h8, bI_ne.mp h17, bI_ne.mp h26⟩) | exact Eq.symm (pI9_f (fun q => bI_eq.mp h8 q.1)) | exact Eq.symm (pI9_f (fun q => bI_eq.mp h17 q.2.1)) | exact Eq.symm (pI9_f (fun q => bI_eq.mp h26 q.2.2))
