/-! THE LAW: low, at; makes. -/
theorem LJ_20 {σ σ' : aS} {γ : Nat → Nat → Int32} (h : LJ σ γ) (h' : LJ σ' γ) : cN σ' 20 = cN σ 20 := by
  have e := h'.1.1.2.1.symm.trans h.1.1.2.1
  have a := h.1.2.1.1
  have b := h'.1.2.1.1
  exact (nI_eq (by omega) (by omega)).mp e
theorem WP_of {σ σ' : aS} {γ γ' : Nat → Nat → Int32} (hL : LJ σ γ) (h : LJ σ' γ') (e4 : γ' 0 4 = γ 0 4) (n27 : cN σ' 27 ≤ cN σ 27 + 3) (e5 : γ' 0 5 = γ 0 5) : WP σ γ σ' γ' := by
  refine ⟨h, ?_, n27, e5⟩
  have e : σ'.2 0 = σ.2 0 := h.1.1.2.2.2.2.symm.trans (e4.trans hL.1.1.2.2.2.2)
  have : cN σ' 0 = cN σ 0 := congrArg Int32.toNatClampNeg e
  omega
theorem c_low (l : Launch) (hl : l.stackTraces = false) (G : gG) (S : sS) (v : Int32) (n : Nat) (h0 : 0 < n) (hn : n < 2 ^ 31) : CtF l G yL_low cL_low 2 (Option.some FieldType.int) 1 0 0 [.int v, .int (nI n)] S (some (.int (nI (lo v n)))) S := by
  refine Ct_of (by decide) (cat1_all (by repeat first | exact trivial | refine ⟨by first | rfl | exact isR_c (isR_r _), ?_⟩)) (Nat.le_of_ble_eq_true rfl) hl fun X C hXl hin => ?_
  subst hXl
  dsimp only [lArgs, Nat.reduceAdd]
  refine V_iload_n C dL_low_0 rfl ?_
  refine V_ldc C dL_low_1 cs_L_9 ?_
  refine V_iand C dL_low_3 ?_
  refine V_iload_n C dL_low_4 rfl ?_
  refine V_irem C dL_low_5 (nI_ne0 h0 hn) ?_
  rw [lo_is v h0 hn]
  refine V_iret C (by decide) (by decide) dL_low_6 ?_
  exact ⟨rfl, rfl⟩
/-- the script, in the heap at the law's entry -/
def scr (G : gG) (b L : Nat) (f : Nat → Int32) : Prop := ∃ cell : Cell, G.2.2[b]? = some cell ∧ cell.cls = G.2.1 8 ∧ (∀ k, cell.vm ≠ .statics k) ∧ cell.vm ≠ .unknown ∧ L ≤ cell.slots.size ∧ cell.slots.size.toInt32 = Int32.ofNat L ∧ ∀ j : Nat, j < L → cell.slots[j]? = some (.int (f j))
theorem scr_T {G : gG} {b L : Nat} {f : Nat → Int32} {U : State} (h : scr G b L f) (hA : ArrOfT U (G.2.1 8) .int) : va_T .int b L (fun j => .int (f j)) (wN G) U G.2.2 := by
  obtain ⟨cell, h1, h2, h3, h4, h5, h6, h7⟩ := h
  refine ⟨cell, h1, ⟨h3, ?_⟩, h4, h5, h6, h7, ?_⟩
  · have := (hA 0 (fun _ => .int 0)).2
    rw [h2]
    exact this
  · exact Nat.not_le.mpr (Array.getElem?_eq_some_iff.mp h1).1
theorem c_at (l : Launch) (hl : l.stackTraces = false) (G : gG) (S : sS) {b L : Nat} {f : Nat → Int32} (hs : scr G b L f) (hL : L ≤ 260) (k : Nat) (hk : k < 1000) : Ct l G yL_at cL_at 2 (Option.some FieldType.int) 1 0 0 [.ref b, .int (nI k)] S (fun w T => (∃ z, w = some (.int z)) ∧ T = S) (fun _ _ => False) := by
  refine Ct_of (by decide) (cat1_all (by repeat first | exact trivial | refine ⟨by first | rfl | exact isR_c (isR_r _), ?_⟩)) (Nat.le_of_ble_eq_true rfl) hl fun X C hXl hin => ?_
  subst hXl
  dsimp only [lArgs, Nat.reduceAdd]
  have hT := scr_T hs C.2.2.2.2.2.1.2.2.2.1.2
  refine V_iload_n C dL_at_0 rfl ?_
  refine V_aload_n C dL_at_1 rfl (isR_r _) ?_
  refine V_xlen C hT dL_at_2 ?_
  refine V_igeN (b := L) C (tgt := 12) (by omega) (by omega) dL_at_3 (by decide) (fun h3 => ?_) (fun h3 => ?_)
  · refine V_ldc C dL_at_12 cs_L_7 ?_
    refine V_iload_n C dL_at_14 rfl ?_
    refine V_iconst C (v := 1) dL_at_15 (by decide) ?_
    refine V_iadd C dL_at_16 ?_
    refine V_imul C dL_at_17 ?_
    refine V_ldc C dL_at_18 cs_L_8 ?_
    refine V_iadd C dL_at_20 ?_
    refine V_iret C (by decide) (by decide) dL_at_21 ?_
    exact ⟨⟨_, rfl⟩, rfl⟩
  · refine V_aload_n C dL_at_6 rfl (isR_r _) ?_
    refine V_iload_n C dL_at_7 rfl ?_
    refine V_xld C hT (vp_in_nI h3 (by omega)) rfl dL_at_8 ?_
    refine V_goto C (tgt := 21) dL_at_9 (by decide) ?_
    refine V_iret C (by decide) (by decide) dL_at_21 ?_
    exact ⟨⟨_, rfl⟩, rfl⟩
theorem c_makes (l : Launch) (hl : l.stackTraces = false) (G : gG) (S : sS) (q : Nat) (a : Nat → Nat) (γ : Nat → Nat → Int32) (σ : aS) (hP : PW S q a γ σ) (hL : LJ σ γ) (hn : cN σ 27 < 500) (x y : Int32) : Ct l G yL_makes cL_makes 12 (Option.some FieldType.boolean) 10 40 500 [.ref q, .ref (a 0), .ref (a 1), .ref (a 2), .ref (a 3), .ref (a 4), .int x, .int y] S (fun v T => v = some (.int 1) ∧ ∃ γ9 σ9, PW T q a γ9 σ9 ∧ WP σ γ σ9 γ9) (fun _ _ => False) := by
  refine Ct_of (by decide) (cat1_all (by repeat first | exact trivial | refine ⟨by first | rfl | exact isR_c (isR_r _), ?_⟩)) (Nat.le_of_ble_eq_true rfl) hl fun X C hXl hin => ?_
  subst hXl
  dsimp only [lArgs, Nat.reduceAdd]
  have hW := PW_W hP
  have n0 : cN σ 0 ≤ 12000 := hW.1.1.2
  have s0 : σ.2 0 = nI (cN σ 0) := hW.1.1.1
  have n1 : cN σ 1 ≤ 16 := hW.1.2.1.2
  have n43 : cN σ 43 ≤ 100 := hW.1.2.2.2.2.2.1.2
  obtain ⟨⟨e00, e01, e02, e03, e04⟩, ⟨n20, n38⟩, eK, eM, eO⟩ := id hL.1
  rw [s0] at e04
  refine V_or (tgt9 := 16) (st9 := []) ?_ (fun J16 => ?_)
  ·
    refine V_iload C dL_makes_16 rfl ?_
    refine V_sipush C (v := 6500) dL_makes_18 (by decide) ?_
    refine V_fS C (c_low _ hl G _ _ 6500 (by decide) (by decide)) ks_L_145 ⟨by decide, by decide⟩ ⟨by decide, by decide⟩ rfl rfl (Nat.le_of_ble_eq_true rfl) dL_makes_21 ?_
    dsimp only [Option.toList_some, Option.toList_none, List.cons_append, List.nil_append]
    refine V_istore C dL_makes_24 (by decide) rfl ?_
    simp only [lset1, lset2, List.filter_cons, List.filter_nil, Nat.reduceBEq, Nat.reduceAdd, Bool.not_true, Bool.not_false, Bool.and_true, Bool.and_false, Bool.true_and, Bool.false_and, if_true, if_false, Bool.false_eq_true, reduceIte]
    obtain ⟨W9, w9t, w9f, w9c⟩ := pick (p := nI (lo (y >>> ((13 : Int32) &&& 31)) 3) = 0) (lo (y >>> ((15 : Int32) &&& 31)) 16) 0
    have w9b : W9 ≤ 15 := by
      have := lo_lt (y >>> ((15 : Int32) &&& 31)) (n := 16) (by decide)
      omega
    refine V_or (tgt9 := 52) (st9 := [.int (nI W9)]) ?_ (fun J52 => ?_)
    ·
      refine V_istore C dL_makes_52 (by decide) rfl ?_
      simp only [lset1, lset2, List.filter_cons, List.filter_nil, Nat.reduceBEq, Nat.reduceAdd, Bool.not_true, Bool.not_false, Bool.and_true, Bool.and_false, Bool.true_and, Bool.false_and, if_true, if_false, Bool.false_eq_true, reduceIte]
      refine V_iload C dL_makes_54 rfl ?_
      refine V_bipush C (v := 19) dL_makes_56 (by decide) ?_
      refine V_ishr C dL_makes_58 ?_
      refine V_iconst C (v := 3) dL_makes_59 (by decide) ?_
      refine V_fS C (c_low _ hl G _ _ 3 (by decide) (by decide)) ks_L_145 ⟨by decide, by decide⟩ ⟨by decide, by decide⟩ rfl rfl (Nat.le_of_ble_eq_true rfl) dL_makes_60 ?_
      dsimp only [Option.toList_some, Option.toList_none, List.cons_append, List.nil_append]
      refine V_istore C dL_makes_63 (by decide) rfl ?_
      simp only [lset1, lset2, List.filter_cons, List.filter_nil, Nat.reduceBEq, Nat.reduceAdd, Bool.not_true, Bool.not_false, Bool.and_true, Bool.and_false, Bool.true_and, Bool.false_and, if_true, if_false, Bool.false_eq_true, reduceIte]
      have b1 := lo_lt y (n := 6500) (by decide)
      have b3 := lo_lt (y >>> ((19 : Int32) &&& 31)) (n := 3) (by decide)
      have b4 := lo_lt (x >>> ((2 : Int32) &&& 31)) (n := 51) (by decide)
      have b5 := lo_lt (x >>> ((8 : Int32) &&& 31)) (n := 4) (by decide)
      have kc := k_child hW.1 (a := lo y 6500) (b := W9) (c := lo (y >>> ((19 : Int32) &&& 31)) 3) (d := lo (x >>> ((2 : Int32) &&& 31)) 51) (e := lo (x >>> ((8 : Int32) &&& 31)) 4) (by omega) w9b (by omega) (by omega) (by omega)
      have KC := KW_child (a := nI (lo y 6500)) (b := nI W9) (c := nI (lo (y >>> ((19 : Int32) &&& 31)) 3)) (d := nI (lo (x >>> ((2 : Int32) &&& 31)) 51)) (e := nI (lo (x >>> ((8 : Int32) &&& 31)) 4)) hW
      refine V_aload_n C dL_makes_65 rfl (by first | exact isR_r _ | exact isR_q _ | exact isR_n) ?_
      refine V_iload C dL_makes_66 rfl ?_
      refine V_iload C dL_makes_68 rfl ?_
      refine V_iload C dL_makes_70 rfl ?_
      refine V_iload C dL_makes_72 rfl ?_
      refine V_iconst C (v := 2) dL_makes_74 (by decide) ?_
      refine V_ishr C dL_makes_75 ?_
      refine V_bipush C (v := 51) dL_makes_76 (by decide) ?_
      refine V_fS C (c_low _ hl G _ _ 51 (by decide) (by decide)) ks_L_145 ⟨by decide, by decide⟩ ⟨by decide, by decide⟩ rfl rfl (Nat.le_of_ble_eq_true rfl) dL_makes_78 ?_
      dsimp only [Option.toList_some, Option.toList_none, List.cons_append, List.nil_append]
      refine V_iload C dL_makes_81 rfl ?_
      refine V_bipush C (v := 8) dL_makes_83 (by decide) ?_
      refine V_ishr C dL_makes_85 ?_
      refine V_iconst C (v := 4) dL_makes_86 (by decide) ?_
      refine V_fS C (c_low _ hl G _ _ 4 (by decide) (by decide)) ks_L_145 ⟨by decide, by decide⟩ ⟨by decide, by decide⟩ rfl rfl (Nat.le_of_ble_eq_true rfl) dL_makes_87 ?_
      dsimp only [Option.toList_some, Option.toList_none, List.cons_append, List.nil_append]
      refine V_callH C (w_child _ hl G _ q a _ _ hP  (nI (lo y 6500)) (nI W9) (nI (lo (y >>> ((19 : Int32) &&& 31)) 3)) (nI (lo (x >>> ((2 : Int32) &&& 31)) 51)) (nI (lo (x >>> ((8 : Int32) &&& 31)) 4))) kh_L_148 ⟨by decide, by decide⟩ ⟨by decide, by decide⟩ rfl rfl (Nat.le_of_ble_eq_true rfl) dL_makes_90 (fun v9 T9 h9 => ?_)
      obtain ⟨rfl, hP9⟩ := h9
      replace hP := hP9
      clear hP9
      dsimp only [Option.toList_some, Option.toList_none, List.cons_append, List.nil_append]
      refine V_istore C dL_makes_93 (by decide) rfl ?_
      simp only [lset1, lset2, List.filter_cons, List.filter_nil, Nat.reduceBEq, Nat.reduceAdd, Bool.not_true, Bool.not_false, Bool.and_true, Bool.and_false, Bool.true_and, Bool.false_and, if_true, if_false, Bool.false_eq_true, reduceIte]
      refine V_aload_n C dL_makes_95 rfl (by first | exact isR_r _ | exact isR_q _ | exact isR_n) ?_
      refine V_iconst C (v := 0) dL_makes_96 (by decide) ?_
      refine V_gl C hP 0 0 (by decide) (by decide) rfl e00 dL_makes_97 ?_
      refine V_bipush C (v := nI 16) dL_makes_98 (by decide) ?_
      refine V_icmp_ne C (tgt := 116) dL_makes_100 (by decide) (fun h100 => ?_) (fun h100 => ?_)
      ·
        have h16 : cN σ 1 < 16 := by
          refine Nat.lt_of_le_of_ne n1 fun z => h100 (congrArg nI z)
        obtain ⟨kc1, kc2⟩ := kc.2 h16
        rw [hR_0 kc1, kc2]
        refine V_aload_n C dL_makes_116 rfl (by first | exact isR_r _ | exact isR_q _ | exact isR_n) ?_
        refine V_aload_n C dL_makes_117 rfl (by first | exact isR_r _ | exact isR_q _ | exact isR_n) ?_
        refine V_iconst C (v := 0) dL_makes_118 (by decide) ?_
        refine V_gl C hP 0 0 (by decide) (by decide) rfl e00 dL_makes_119 ?_
        refine V_iload C dL_makes_120 rfl ?_
        refine V_aload_n C dL_makes_122 rfl (by first | exact isR_r _ | exact isR_q _ | exact isR_n) ?_
        refine V_iconst C (v := 4) dL_makes_123 (by decide) ?_
        refine V_gl C hP 0 4 (by decide) (by decide) rfl e04 dL_makes_124 ?_
        refine V_isub C dL_makes_125 ?_
        refine V_gs C hP 1 (cN σ 1) (by decide) (show (cN σ 1) < 16 by omega) rfl dL_makes_126 (fun T9 hP9 => ?_)
        replace hP := hP9
        refine V_aload_n C dL_makes_127 rfl (by first | exact isR_r _ | exact isR_q _ | exact isR_n) ?_
        refine V_aload_n C dL_makes_128 rfl (by first | exact isR_r _ | exact isR_q _ | exact isR_n) ?_
        refine V_iconst C (v := 0) dL_makes_129 (by decide) ?_
        refine V_gl C hP 0 0 (by decide) (by decide) rfl ((up2_n1 (by decide)).trans e00) dL_makes_130 ?_
        refine V_iload C dL_makes_131 rfl ?_
        refine V_gs C hP 2 (cN σ 1) (by decide) (show (cN σ 1) < 16 by omega) rfl dL_makes_133 (fun T9 hP9 => ?_)
        replace hP := hP9
        refine V_aload C dL_makes_134 rfl (by first | exact isR_r _ | exact isR_q _ | exact isR_n) ?_
        refine V_aload_n C dL_makes_136 rfl (by first | exact isR_r _ | exact isR_q _ | exact isR_n) ?_
        refine V_iconst C (v := 0) dL_makes_137 (by decide) ?_
        refine V_gl C hP 0 0 (by decide) (by decide) rfl ((up2_n1 (by decide)).trans ((up2_n1 (by decide)).trans e00)) dL_makes_138 ?_
        refine V_iload C dL_makes_139 rfl ?_
        refine V_gs C hP 3 (cN σ 1) (by decide) (show (cN σ 1) < 16 by omega) rfl dL_makes_141 (fun T9 hP9 => ?_)
        replace hP := hP9
        refine V_aload_n C dL_makes_142 rfl (by first | exact isR_r _ | exact isR_q _ | exact isR_n) ?_
        refine V_iconst C (v := 0) dL_makes_143 (by decide) ?_
        refine V_dup2 C dL_makes_144 rfl rfl ?_
        refine V_gl C hP 0 0 (by decide) (by decide) rfl ((up2_n1 (by decide)).trans ((up2_n1 (by decide)).trans ((up2_n1 (by decide)).trans e00))) dL_makes_145 ?_
        refine V_iconst C (v := 1) dL_makes_146 (by decide) ?_
        refine V_iadd C dL_makes_147 ?_
        rw [nI_1]
        refine V_gs C hP 0 0 (by decide) (by decide) rfl dL_makes_148 (fun T9 hP9 => ?_)
        replace hP := hP9
        refine V_iload C dL_makes_149 rfl ?_
        refine V_aload_n C dL_makes_151 rfl (by first | exact isR_r _ | exact isR_q _ | exact isR_n) ?_
        refine V_iconst C (v := 0) dL_makes_152 (by decide) ?_
        refine V_gl C hP 0 0 (by decide) (by decide) rfl up2_s dL_makes_153 ?_
        refine V_iconst C (v := 1) dL_makes_154 (by decide) ?_
        refine V_isub C dL_makes_155 ?_
        rw [nI_prv]
        refine V_icmp_ne C (tgt := 163) dL_makes_156 (by decide) (fun h156 => absurd h156 (fun z => z rfl)) (fun h156 => ?_)
        refine V_iconst C (v := 1) dL_makes_159 (by decide) ?_
        refine V_goto C (tgt := 164) dL_makes_160 (by decide) ?_
        refine V_zret C rfl (by first | omega | decide) (by first | omega | decide) dL_makes_164 ?_
        refine ⟨rfl, _, _, hP, ?_⟩
        rw [← s0]
        exact WP_of hL (LJ_child hW hL kc1 h16) (by rw [up2_n2 (by decide), up2_n1 (by decide), up2_n1 (by decide), up2_n1 (by decide)]) (by have := KC.2; omega) (by rw [up2_n2 (by decide), up2_n1 (by decide), up2_n1 (by decide), up2_n1 (by decide)])
      ·
        have h16 := (nI_eq (by omega) (by decide)).mp h100
        rw [hR_2 (kc.1 h16)]
        refine V_iload C dL_makes_103 rfl ?_
        refine V_ldc C dL_makes_105 cs_L_21 ?_
        refine V_icmp_ne C (tgt := 114) dL_makes_107 (by decide) (fun h107 => absurd h107 (fun z => z rfl)) (fun h107 => ?_)
        refine V_iconst C (v := 1) dL_makes_110 (by decide) ?_
        refine V_goto C (tgt := 115) dL_makes_111 (by decide) ?_
        refine V_zret C rfl (by first | omega | decide) (by first | omega | decide) dL_makes_115 ?_
        refine ⟨rfl, γ, _, hP, ?_⟩
        have e : (oChild σ (nI (lo y 6500)) (nI W9) (nI (lo (y >>> ((19 : Int32) &&& 31)) 3)) (nI (lo (x >>> ((2 : Int32) &&& 31)) 51)) (nI (lo (x >>> ((8 : Int32) &&& 31)) 4))).2 = sT σ 2 := by
          rw [oChild, if_neg (by rw [kc.1 h16]; decide), kc.1 h16]
        rw [e] at KC ⊢
        exact WP_of hL (LJ_sT hL) rfl (by have := KC.2; omega) rfl
    ·
      refine V_iload C dL_makes_26 rfl ?_
      refine V_bipush C (v := 13) dL_makes_28 (by decide) ?_
      refine V_ishr C dL_makes_30 ?_
      refine V_iconst C (v := nI 3) dL_makes_31 (by decide) ?_
      refine V_fS C (c_low _ hl G _ _ 3 (by decide) (by decide)) ks_L_145 ⟨by decide, by decide⟩ ⟨by decide, by decide⟩ rfl rfl (Nat.le_of_ble_eq_true rfl) dL_makes_32 ?_
      dsimp only [Option.toList_some, Option.toList_none, List.cons_append, List.nil_append]
      refine V_if_ne C (tgt := 51) dL_makes_35 (by decide) (fun h35 => ?_) (fun h35 => ?_)
      ·
        refine V_iconst C (v := 0) dL_makes_51 (by decide) ?_
        rw [show (0 : Int32) = nI W9 from (congrArg nI (w9f h35) : nI 0 = nI W9)]
        exact J52
      ·
        refine V_iload C dL_makes_38 rfl ?_
        refine V_bipush C (v := 15) dL_makes_40 (by decide) ?_
        refine V_ishr C dL_makes_42 ?_
        refine V_bipush C (v := 16) dL_makes_43 (by decide) ?_
        refine V_fS C (c_low _ hl G _ _ 16 (by decide) (by decide)) ks_L_145 ⟨by decide, by decide⟩ ⟨by decide, by decide⟩ rfl rfl (Nat.le_of_ble_eq_true rfl) dL_makes_45 ?_
        dsimp only [Option.toList_some, Option.toList_none, List.cons_append, List.nil_append]
        refine V_goto C (tgt := 52) dL_makes_48 (by decide) ?_
        rw [w9t h35]
        exact J52
  ·
    refine V_iload C dL_makes_0 rfl ?_
    refine V_iconst C (v := 3) dL_makes_2 (by decide) ?_
    refine V_fS C (c_low _ hl G _ _ 3 (by decide) (by decide)) ks_L_145 ⟨by decide, by decide⟩ ⟨by decide, by decide⟩ rfl rfl (Nat.le_of_ble_eq_true rfl) dL_makes_3 ?_
    dsimp only [Option.toList_some, Option.toList_none, List.cons_append, List.nil_append]
    refine V_if_gt C (tgt := 16) dL_makes_6 (by decide) (fun h6 => ?_) (fun h6 => ?_)
    ·
      exact J16
    ·
      refine V_aload_n C dL_makes_9 rfl (by first | exact isR_r _ | exact isR_q _ | exact isR_n) ?_
      refine V_iconst C (v := 1) dL_makes_10 (by decide) ?_
      refine V_gl C hP 0 1 (by decide) (by decide) rfl e01 dL_makes_11 ?_
      refine V_iconst C (v := nI 4) dL_makes_12 (by decide) ?_
      refine V_icmp_ne C (tgt := 165) dL_makes_13 (by decide) (fun h13 => ?_) (fun h13 => ?_)
      ·
        have h4 : cN σ 20 < 4 := Nat.lt_of_le_of_ne n20 fun z => h13 (congrArg nI z)
        refine V_aload C dL_makes_165 rfl (by first | exact isR_r _ | exact isR_q _ | exact isR_n) ?_
        refine V_aload_n C dL_makes_167 rfl (by first | exact isR_r _ | exact isR_q _ | exact isR_n) ?_
        refine V_iconst C (v := 1) dL_makes_168 (by decide) ?_
        refine V_gl C hP 0 1 (by decide) (by decide) rfl e01 dL_makes_169 ?_
        refine V_iconst C (v := 1) dL_makes_170 (by decide) ?_
        refine V_iload C dL_makes_171 rfl ?_
        refine V_iconst C (v := 4) dL_makes_173 (by decide) ?_
        refine V_fS C (c_low _ hl G _ _ 4 (by decide) (by decide)) ks_L_145 ⟨by decide, by decide⟩ ⟨by decide, by decide⟩ rfl rfl (Nat.le_of_ble_eq_true rfl) dL_makes_174 ?_
        dsimp only [Option.toList_some, Option.toList_none, List.cons_append, List.nil_append]
        refine V_iadd C dL_makes_177 ?_
        rw [show (1 : Int32) + nI (lo y 4) = nI (1 + lo y 4) from nI_add 1 _]
        refine V_gs C hP 4 (cN σ 20) (by decide) (show (cN σ 20) < 4 by omega) rfl dL_makes_178 (fun T9 hP9 => ?_)
        replace hP := hP9
        refine V_aload_n C dL_makes_179 rfl (by first | exact isR_r _ | exact isR_q _ | exact isR_n) ?_
        refine V_iconst C (v := 1) dL_makes_180 (by decide) ?_
        refine V_dup2 C dL_makes_181 rfl rfl ?_
        refine V_gl C hP 0 1 (by decide) (by decide) rfl ((up2_n1 (by decide)).trans e01) dL_makes_182 ?_
        refine V_iconst C (v := 1) dL_makes_183 (by decide) ?_
        refine V_iadd C dL_makes_184 ?_
        rw [nI_1]
        refine V_gs C hP 0 1 (by decide) (by decide) rfl dL_makes_185 (fun T9 hP9 => ?_)
        replace hP := hP9
        have b1 := lo_lt y (n := 4) (by decide)
        have b2 := lo_lt (x >>> ((2 : Int32) &&& 31)) (n := 51) (by decide)
        have b3 := lo_lt (x >>> ((8 : Int32) &&& 31)) (n := 4) (by decide)
        have b4 := lo_lt (y >>> ((4 : Int32) &&& 31)) (n := 900) (by decide)
        have b5 := lo_lt (y >>> ((14 : Int32) &&& 31)) (n := 900) (by decide)
        have kh := k_home hW.1 (a := lo (x >>> ((2 : Int32) &&& 31)) 51) (b := lo (x >>> ((8 : Int32) &&& 31)) 4) (c := 1 + lo y 4) (by omega) (by omega) (by omega) (by omega) (by omega)
        have LH := LJ_home hW hL kh.1 h4
        have KH := KW_home (a := nI (lo (x >>> ((2 : Int32) &&& 31)) 51)) (b := nI (lo (x >>> ((8 : Int32) &&& 31)) 4)) (c := nI (1 + lo y 4)) hW
        refine V_aload_n C dL_makes_186 rfl (by first | exact isR_r _ | exact isR_q _ | exact isR_n) ?_
        refine V_iload C dL_makes_187 rfl ?_
        refine V_iconst C (v := 2) dL_makes_189 (by decide) ?_
        refine V_ishr C dL_makes_190 ?_
        refine V_bipush C (v := 51) dL_makes_191 (by decide) ?_
        refine V_fS C (c_low _ hl G _ _ 51 (by decide) (by decide)) ks_L_145 ⟨by decide, by decide⟩ ⟨by decide, by decide⟩ rfl rfl (Nat.le_of_ble_eq_true rfl) dL_makes_193 ?_
        dsimp only [Option.toList_some, Option.toList_none, List.cons_append, List.nil_append]
        refine V_iload C dL_makes_196 rfl ?_
        refine V_bipush C (v := 8) dL_makes_198 (by decide) ?_
        refine V_ishr C dL_makes_200 ?_
        refine V_iconst C (v := 4) dL_makes_201 (by decide) ?_
        refine V_fS C (c_low _ hl G _ _ 4 (by decide) (by decide)) ks_L_145 ⟨by decide, by decide⟩ ⟨by decide, by decide⟩ rfl rfl (Nat.le_of_ble_eq_true rfl) dL_makes_202 ?_
        dsimp only [Option.toList_some, Option.toList_none, List.cons_append, List.nil_append]
        refine V_aload C dL_makes_205 rfl (by first | exact isR_r _ | exact isR_q _ | exact isR_n) ?_
        refine V_aload_n C dL_makes_207 rfl (by first | exact isR_r _ | exact isR_q _ | exact isR_n) ?_
        refine V_iconst C (v := 1) dL_makes_208 (by decide) ?_
        refine V_gl C hP 0 1 (by decide) (by decide) rfl up2_s dL_makes_209 ?_
        refine V_iconst C (v := 1) dL_makes_210 (by decide) ?_
        refine V_isub C dL_makes_211 ?_
        rw [nI_prv]
        refine V_gl C hP 4 (cN σ 20) (by decide) (show (cN σ 20) < 4 by omega) rfl ((up2_n1 (by decide)).trans up2_s) dL_makes_212 ?_
        refine V_callH C (w_home _ hl G _ q a _ _ hP  (nI (lo (x >>> ((2 : Int32) &&& 31)) 51)) (nI (lo (x >>> ((8 : Int32) &&& 31)) 4)) (nI (1 + lo y 4))) kh_L_151 ⟨by decide, by decide⟩ ⟨by decide, by decide⟩ rfl rfl (Nat.le_of_ble_eq_true rfl) dL_makes_213 (fun v9 T9 h9 => ?_)
        obtain ⟨rfl, hP9⟩ := h9
        replace hP := hP9
        clear hP9
        dsimp only [Option.toList_some, Option.toList_none, List.cons_append, List.nil_append]
        rw [hR_0 kh.1, kh.2]
        generalize (oHome σ (nI (lo (x >>> ((2 : Int32) &&& 31)) 51)) (nI (lo (x >>> ((8 : Int32) &&& 31)) 4)) (nI (1 + lo y 4))).2 = σ1 at hP LH KH
        obtain ⟨W1, K1⟩ := KH
        obtain ⟨LH, N1⟩ := LH
        refine V_aload_n C dL_makes_216 rfl (by first | exact isR_r _ | exact isR_q _ | exact isR_n) ?_
        refine V_iconst C (v := 1) dL_makes_217 (by decide) ?_
        refine V_gl C hP 0 1 (by decide) (by decide) rfl up2_s dL_makes_218 ?_
        refine V_iconst C (v := 1) dL_makes_219 (by decide) ?_
        refine V_isub C dL_makes_220 ?_
        rw [nI_prv]
        refine V_icmp_ne C (tgt := 286) dL_makes_221 (by decide) (fun h221 => absurd h221 (fun z => z rfl)) (fun h221 => ?_)
        refine V_aload_n C dL_makes_224 rfl (by first | exact isR_r _ | exact isR_q _ | exact isR_n) ?_
        refine V_aload_n C dL_makes_225 rfl (by first | exact isR_r _ | exact isR_q _ | exact isR_n) ?_
        refine V_iconst C (v := 1) dL_makes_226 (by decide) ?_
        refine V_gl C hP 0 1 (by decide) (by decide) rfl up2_s dL_makes_227 ?_
        refine V_iconst C (v := 1) dL_makes_228 (by decide) ?_
        refine V_isub C dL_makes_229 ?_
        rw [nI_prv]
        refine V_iconst C (v := 0) dL_makes_230 (by decide) ?_
        refine V_bipush C (v := 17) dL_makes_231 (by decide) ?_
        refine V_aload_n C dL_makes_233 rfl (by first | exact isR_r _ | exact isR_q _ | exact isR_n) ?_
        refine V_iconst C (v := 4) dL_makes_234 (by decide) ?_
        refine V_gl C hP 0 4 (by decide) (by decide) rfl ((up2_n2 (by decide)).trans ((up2_n1 (by decide)).trans e04)) dL_makes_235 ?_
        refine V_iload C dL_makes_236 rfl ?_
        refine V_iconst C (v := 4) dL_makes_238 (by decide) ?_
        refine V_ishr C dL_makes_239 ?_
        refine V_sipush C (v := 900) dL_makes_240 (by decide) ?_
        refine V_fS C (c_low _ hl G _ _ 900 (by decide) (by decide)) ks_L_145 ⟨by decide, by decide⟩ ⟨by decide, by decide⟩ rfl rfl (Nat.le_of_ble_eq_true rfl) dL_makes_243 ?_
        dsimp only [Option.toList_some, Option.toList_none, List.cons_append, List.nil_append]
        refine V_iadd C dL_makes_246 ?_
        rw [nI_add]
        have ka : tHomeQ σ1 (nI (cN σ 20)) (inP 0 0 17 ∧ inP 17 0 17 ∧ inP (nI (cN σ 0 + lo (y >>> ((4 : Int32) &&& 31)) 900)) 0 20000) = 0 := k_tells W1.1 (by omega) ⟨by decide, by decide, in_n (a := 0) (b := 20000) (Nat.zero_le _) (by omega) (by decide)⟩
        have LA := LJ_approve (h := nI (cN σ 20)) (a := 0) (b := 17) (u := nI (cN σ 0 + lo (y >>> ((4 : Int32) &&& 31)) 900)) LH
        have KA := KW_approve (x := nI (cN σ 20)) (a := 0) (b := 17) (u := nI (cN σ 0 + lo (y >>> ((4 : Int32) &&& 31)) 900)) W1 (by omega)
        have NA : cN (oApprove σ1 (nI (cN σ 20)) 0 17 (nI (cN σ 0 + lo (y >>> ((4 : Int32) &&& 31)) 900))) 20 = cN σ1 20 := LJ_20 LH LA
        refine V_callH C (w_approve _ hl G _ q a _ _ hP  (nI (cN σ 20)) 0 17 (nI (cN σ 0 + lo (y >>> ((4 : Int32) &&& 31)) 900)) (by omega)) kh_L_154 ⟨by decide, by decide⟩ ⟨by decide, by decide⟩ rfl rfl (Nat.le_of_ble_eq_true rfl) dL_makes_247 (fun v9 T9 h9 => ?_)
        obtain ⟨rfl, hP9⟩ := h9
        replace hP := hP9
        clear hP9
        dsimp only [Option.toList_some, Option.toList_none, List.cons_append, List.nil_append]
        rw [hR_0 ka]
        generalize oApprove σ1 (nI (cN σ 20)) 0 17 (nI (cN σ 0 + lo (y >>> ((4 : Int32) &&& 31)) 900)) = σ2 at hP LA KA NA
        obtain ⟨W2, K2⟩ := KA
        refine V_if_ne C (tgt := 286) dL_makes_250 (by decide) (fun h250 => absurd h250 (fun z => z rfl)) (fun h250 => ?_)
        refine V_aload_n C dL_makes_253 rfl (by first | exact isR_r _ | exact isR_q _ | exact isR_n) ?_
        refine V_aload_n C dL_makes_254 rfl (by first | exact isR_r _ | exact isR_q _ | exact isR_n) ?_
        refine V_iconst C (v := 1) dL_makes_255 (by decide) ?_
        refine V_gl C hP 0 1 (by decide) (by decide) rfl up2_s dL_makes_256 ?_
        refine V_iconst C (v := 1) dL_makes_257 (by decide) ?_
        refine V_isub C dL_makes_258 ?_
        rw [nI_prv]
        refine V_bipush C (v := 15) dL_makes_259 (by decide) ?_
        refine V_aload_n C dL_makes_261 rfl (by first | exact isR_r _ | exact isR_q _ | exact isR_n) ?_
        refine V_iconst C (v := 4) dL_makes_262 (by decide) ?_
        refine V_gl C hP 0 4 (by decide) (by decide) rfl ((up2_n2 (by decide)).trans ((up2_n1 (by decide)).trans e04)) dL_makes_263 ?_
        refine V_iload C dL_makes_264 rfl ?_
        refine V_bipush C (v := 14) dL_makes_266 (by decide) ?_
        refine V_ishr C dL_makes_268 ?_
        refine V_sipush C (v := 900) dL_makes_269 (by decide) ?_
        refine V_fS C (c_low _ hl G _ _ 900 (by decide) (by decide)) ks_L_145 ⟨by decide, by decide⟩ ⟨by decide, by decide⟩ rfl rfl (Nat.le_of_ble_eq_true rfl) dL_makes_272 ?_
        dsimp only [Option.toList_some, Option.toList_none, List.cons_append, List.nil_append]
        refine V_iadd C dL_makes_275 ?_
        rw [nI_add]
        have kt : tHomeQ σ2 (nI (cN σ 20)) (inP 15 0 15 ∧ inP (nI (cN σ 0 + lo (y >>> ((14 : Int32) &&& 31)) 900)) 0 20000) = 0 := k_tells W2.1 (by omega) ⟨by decide, in_n (a := 0) (b := 20000) (Nat.zero_le _) (by omega) (by decide)⟩
        have LT := LJ_train (h := nI (cN σ 20)) (a := 15) (u := nI (cN σ 0 + lo (y >>> ((14 : Int32) &&& 31)) 900)) LA
        have KT := KW_train (x := nI (cN σ 20)) (a := 15) (u := nI (cN σ 0 + lo (y >>> ((14 : Int32) &&& 31)) 900)) W2 (by omega)
        refine V_callH C (w_train _ hl G _ q a _ _ hP  (nI (cN σ 20)) 15 (nI (cN σ 0 + lo (y >>> ((14 : Int32) &&& 31)) 900)) (by omega)) kh_L_157 ⟨by decide, by decide⟩ ⟨by decide, by decide⟩ rfl rfl (Nat.le_of_ble_eq_true rfl) dL_makes_276 (fun v9 T9 h9 => ?_)
        obtain ⟨rfl, hP9⟩ := h9
        replace hP := hP9
        clear hP9
        dsimp only [Option.toList_some, Option.toList_none, List.cons_append, List.nil_append]
        rw [hR_0 kt]
        refine V_if_ne C (tgt := 286) dL_makes_279 (by decide) (fun h279 => absurd h279 (fun z => z rfl)) (fun h279 => ?_)
        refine V_iconst C (v := 1) dL_makes_282 (by decide) ?_
        refine V_goto C (tgt := 287) dL_makes_283 (by decide) ?_
        refine V_zret C rfl (by first | omega | decide) (by first | omega | decide) dL_makes_287 ?_
        refine ⟨rfl, _, _, hP, ?_⟩
        exact WP_of hL LT (by rw [up2_n2 (by decide), up2_n1 (by decide)]) (by have := KT.2; omega) (by rw [up2_n2 (by decide), up2_n1 (by decide)])
      ·
        exact J16
