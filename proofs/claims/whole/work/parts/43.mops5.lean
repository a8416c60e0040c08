/-! THE REFERENCE: wish, best, report. -/
theorem c_X9_wish (l : Launch) (hl : l.stackTraces = false) (G : gG) (S : sS) (m : Nat) (σ : aS) (hR : RelR S m σ) (hI : IC σ) (x h b : Int32) : CtR l G yX9_wish cX9_wish 4 none 3 [.ref m, .int x, .int h, .int b] S m none (oWish σ x h b) := by
  have hm := hR.1
  have hRF := RF_0 hR
  refine Ct_of (by decide) (cat1_all (by repeat first | exact trivial | refine ⟨by first | rfl | exact isR_c (isR_q _), ?_⟩)) (Nat.le_of_ble_eq_true rfl) hl fun X C hXl hin => ?_
  subst hXl
  dsimp only [lArgs, Nat.reduceAdd]
  have J : ∀ y : Int32, y = pI9 (chP σ x ∧ hoP σ h) → V X G 4 (eQ X G (fun v T => v = none ∧ RF S T m (oWish σ x h b).1 (oWish σ x h b).2) (fun _ _ => False) 0 0) 0 0 22 [(0, false, .ref m), (1, false, .int x), (2, false, .int h), (3, false, .int b)] [.int y, .ref m] S := fun y hy => by
    have et : gT y 1 1 = tCH σ x h := by rw [hy]; rfl
    refine V_iconst C (v := 1) dX9_wish_22 (by decide) ?_
    refine V_iconst C (v := 1) dX9_wish_23 (by decide) ?_
    refine V_fV C (c_X9_goes _ hl G S m hm y 1 1) kv_X9_179 cf_9 (by decide) rfl hRF.1.1 (by decide) (by decide) rfl rfl (Nat.le_of_ble_eq_true rfl) dX9_wish_24 ?_
    dsimp only [Option.toList_some, Option.toList_none, List.cons_append, List.nil_append]
    rw [et]
    refine V_genT (RF_I hRF (f := 56) rfl) (fun T hRF => ?_)
    refine V_if_eq C (tgt := 68) dX9_wish_27 (by decide) (fun h27 => ?_) (fun h27 => ?_)
    · have h0 := bI_eq.mp h27
      refine V_vret C (by first | omega | decide) (by first | omega | decide) dX9_wish_68 ?_
      unfold oWish
      first | (rw [if_neg h0]; exact ⟨rfl, hRF⟩) | (rw [if_pos h0, ek, ej]; first | (rw [if_pos h41]; exact ⟨rfl, hRF⟩) | (rw [if_neg (fun q => q h41), if_pos (Int32.not_lt.mp h59)]; exact ⟨rfl, hRF⟩) | (rw [if_neg (fun q => q h41), if_neg (Int32.not_le.mpr h59)]; exact ⟨rfl, hRF⟩))
    · have h0 := bI_ne.mp h27
      rw [h0] at hRF
      have hq := (gT_x (et.trans h0)).1
      rw [hy] at hq
      obtain ⟨⟨k, hk, rfl⟩, ⟨j, hj, rfl⟩⟩ := And.intro (ch_ix hI (pI9_ne.mp hq).1) (ho_ix hI (pI9_ne.mp hq).2)
      have hk16 : k < 16 := by have := hI.2.1.2; omega
      have hj10 : j < 10 := by have := hI.2.2.1.2; omega
      have ek : nx (nI k) = k := nI_clamp (by omega)
      have ej : nx (nI j) = j := nI_clamp (by omega)
      refine V_aload_n C dX9_wish_30 rfl (by first | exact isR_r _ | exact isR_q _ | exact isR_n) ?_
      refine V_mArr C 19 hRF rfl fl_X9_62 (by decide) dX9_wish_31 (fun a31 ha31 => ?_)
      refine V_bipush C (v := 10) dX9_wish_34 (by decide) ?_
      refine V_iload_n C dX9_wish_36 rfl ?_
      refine V_imul C dX9_wish_37 ?_
      rw [show (10 : Int32) * nI k = nI (10 * k) from pk_mul 10 k]
      refine V_iload_n C dX9_wish_38 rfl ?_
      refine V_iadd C dX9_wish_39 ?_
      rw [nI_add]
      refine V_iload_n C dX9_wish_40 rfl ?_
      refine V_if_eq C (tgt := 48) dX9_wish_41 (by decide) (fun h41 => ?_) (fun h41 => ?_)
      · refine V_aload_n C dX9_wish_48 rfl (by first | exact isR_r _ | exact isR_q _ | exact isR_n) ?_
        refine V_iload_n C dX9_wish_49 rfl ?_
        refine V_aload_n C dX9_wish_50 rfl (by first | exact isR_r _ | exact isR_q _ | exact isR_n) ?_
        refine V_mNum C 0 hRF fl_X9_187 (by decide) dX9_wish_51 rfl ?_
        refine V_fV C (c_X9_yearsOn _ hl G _ m (sT σ 0) hRF.1 k hk16 (σ.2 0)) kv_X9_224 cf_9 (by decide) rfl hRF.1.1 (by decide) (by decide) rfl rfl (Nat.le_of_ble_eq_true rfl) dX9_wish_54 ?_
        dsimp only [Option.toList_some, Option.toList_none, List.cons_append, List.nil_append]
        refine V_bipush C (v := 12) dX9_wish_57 (by decide) ?_
        refine V_icmp_lt C (tgt := 66) dX9_wish_59 (by decide) (fun h59 => ?_) (fun h59 => ?_)
        · refine V_iconst C (v := 2) dX9_wish_66 (by decide) ?_
          refine V_mSt C 19 hRF rfl rfl ha31 (show 10 * k + j < 160 by omega) dX9_wish_67 (fun T hRF => ?_)
          refine V_vret C (by first | omega | decide) (by first | omega | decide) dX9_wish_68 ?_
          unfold oWish
          first | (rw [if_neg h0]; exact ⟨rfl, hRF⟩) | (rw [if_pos h0, ek, ej]; first | (rw [if_pos h41]; exact ⟨rfl, hRF⟩) | (rw [if_neg (fun q => q h41), if_pos (Int32.not_lt.mp h59)]; exact ⟨rfl, hRF⟩) | (rw [if_neg (fun q => q h41), if_neg (Int32.not_le.mpr h59)]; exact ⟨rfl, hRF⟩))
        · refine V_iconst C (v := 3) dX9_wish_62 (by decide) ?_
          refine V_goto C (tgt := 67) dX9_wish_63 (by decide) ?_
          refine V_mSt C 19 hRF rfl rfl ha31 (show 10 * k + j < 160 by omega) dX9_wish_67 (fun T hRF => ?_)
          refine V_vret C (by first | omega | decide) (by first | omega | decide) dX9_wish_68 ?_
          unfold oWish
          first | (rw [if_neg h0]; exact ⟨rfl, hRF⟩) | (rw [if_pos h0, ek, ej]; first | (rw [if_pos h41]; exact ⟨rfl, hRF⟩) | (rw [if_neg (fun q => q h41), if_pos (Int32.not_lt.mp h59)]; exact ⟨rfl, hRF⟩) | (rw [if_neg (fun q => q h41), if_neg (Int32.not_le.mpr h59)]; exact ⟨rfl, hRF⟩))
      · refine V_iconst C (v := 1) dX9_wish_44 (by decide) ?_
        refine V_goto C (tgt := 67) dX9_wish_45 (by decide) ?_
        refine V_mSt C 19 hRF rfl rfl ha31 (show 10 * k + j < 160 by omega) dX9_wish_67 (fun T hRF => ?_)
        refine V_vret C (by first | omega | decide) (by first | omega | decide) dX9_wish_68 ?_
        unfold oWish
        first | (rw [if_neg h0]; exact ⟨rfl, hRF⟩) | (rw [if_pos h0, ek, ej]; first | (rw [if_pos h41]; exact ⟨rfl, hRF⟩) | (rw [if_neg (fun q => q h41), if_pos (Int32.not_lt.mp h59)]; exact ⟨rfl, hRF⟩) | (rw [if_neg (fun q => q h41), if_neg (Int32.not_le.mpr h59)]; exact ⟨rfl, hRF⟩))
  refine V_aload_n C dX9_wish_0 rfl (by first | exact isR_r _ | exact isR_q _ | exact isR_n) ?_
  refine V_aload_n C dX9_wish_1 rfl (by first | exact isR_r _ | exact isR_q _ | exact isR_n) ?_
  refine V_iload_n C dX9_wish_2 rfl ?_
  refine V_fV C (c_X9_isChild _ hl G S m σ hR x) kv_X9_208 cf_9 (by decide) rfl (by assumption) (by decide) (by decide) rfl rfl (Nat.le_of_ble_eq_true rfl) dX9_wish_3 ?_
  dsimp only [Option.toList_some, Option.toList_none, List.cons_append, List.nil_append]
  refine V_if_eq C (tgt := 21) dX9_wish_6 (by decide) (fun h6 => ?_) (fun h6 => ?_)
  · refine V_iconst C (v := 0) dX9_wish_21 (by decide) ?_
    refine J _ ?_
    first | exact Eq.symm (pI9_t ⟨bI_ne.mp h6, bI_ne.mp h14⟩) | exact Eq.symm (pI9_f (fun q => bI_eq.mp h6 q.1)) | exact Eq.symm (pI9_f (fun q => bI_eq.mp h14 q.2))
  · refine V_aload_n C dX9_wish_9 rfl (by first | exact isR_r _ | exact isR_q _ | exact isR_n) ?_
    refine V_iload_n C dX9_wish_10 rfl ?_
    refine V_fV C (c_X9_isHome _ hl G S m σ hR h) kv_X9_193 cf_9 (by decide) rfl (by assumption) (by decide) (by decide) rfl rfl (Nat.le_of_ble_eq_true rfl) dX9_wish_11 ?_
    dsimp only [Option.toList_some, Option.toList_none, List.cons_append, List.nil_append]
    refine V_if_eq C (tgt := 21) dX9_wish_14 (by decide) (fun h14 => ?_) (fun h14 => ?_)
    · refine V_iconst C (v := 0) dX9_wish_21 (by decide) ?_
      refine J _ ?_
      first | exact Eq.symm (pI9_t ⟨bI_ne.mp h6, bI_ne.mp h14⟩) | exact Eq.symm (pI9_f (fun q => bI_eq.mp h6 q.1)) | exact Eq.symm (pI9_f (fun q => bI_eq.mp h14 q.2))
    · refine V_iconst C (v := 1) dX9_wish_17 (by decide) ?_
      refine V_goto C (tgt := 22) dX9_wish_18 (by decide) ?_
      refine J _ ?_
      first | exact Eq.symm (pI9_t ⟨bI_ne.mp h6, bI_ne.mp h14⟩) | exact Eq.symm (pI9_f (fun q => bI_eq.mp h6 q.1)) | exact Eq.symm (pI9_f (fun q => bI_eq.mp h14 q.2))
theorem c_X9_best (l : Launch) (hl : l.stackTraces = false) (G : gG) (S : sS) (m : Nat) (σ : aS) (hR : RelR S m σ) (hI : IC σ) (x : Int32) : CtR l G yX9_best cX9_best 4 (Option.some FieldType.int) 6 [.ref m, .int x] S m (some (.int (oBest σ x).1)) (oBest σ x).2 := by
  have hm := hR.1
  have hRF := RF_0 hR
  have et : gT (bI (chP σ x)) 1 1 = tC σ x := rfl
  obtain ⟨n, hn⟩ : ∃ n, n = cN σ 20 := ⟨_, rfl⟩
  have hn16 : n ≤ 10 := by rw [hn]; exact hI.2.2.1.2
  have en : σ.2 20 = nI n := by rw [hn]; exact hI.2.2.1.1
  refine Ct_of (by decide) (cat1_all (by repeat first | exact trivial | refine ⟨by first | rfl | exact isR_c (isR_q _), ?_⟩)) (Nat.le_of_ble_eq_true rfl) hl fun X C hXl hin => ?_
  subst hXl
  dsimp only [lArgs, Nat.reduceAdd]
  have loop : ∀ (T : sS) (hRF : RF S T m σ.1 (up1 σ.2 56 0)) (k : Nat) (hk16 : k < 16) (h0 : tC σ (nI k) = 0) (t j : Nat), j + t = n → V X G 4 (eQ X G (fun v T => v = some (.int (oBest σ (nI k)).1) ∧ RF S T m (oBest σ (nI k)).2.1 (oBest σ (nI k)).2.2) (fun _ _ => False) 0 0) 0 0 20 [(0, false, .ref m), (1, false, .int (nI k)), (2, false, .int (mBestF (sT σ 0) k j)), (3, false, .int (nI j))] [] T := by
    intro T hRF k hk16 h0 t
    have ek : nx (nI k) = k := nI_clamp (by omega)
    induction t with
    | zero =>
      intro j hj
      obtain rfl : j = n := by omega
      refine V_iload_n C dX9_best_20 rfl ?_
      refine V_aload_n C dX9_best_21 rfl (by first | exact isR_r _ | exact isR_q _ | exact isR_n) ?_
      refine V_mNum C 20 hRF fl_X9_169 (by decide) dX9_best_22 en ?_
      refine V_igeN C (tgt := 69) (by omega) (by omega) dX9_best_25 (by decide) (fun h25 => ?_) (fun h25 => ?_)
      · refine V_iload_n C dX9_best_69 rfl ?_
        refine V_iret C (by first | omega | decide) (by first | omega | decide) dX9_best_70 ?_
        unfold oBest
        rw [if_pos h0, ek, ← hn]
        exact ⟨rfl, hRF⟩
      · omega
    | succ t ih =>
      intro j hj
      have hj10 : j < 10 := by omega
      rcases mBestF_or (σ := sT σ 0) (k := k) j with e1 | ⟨i, hi, e1⟩
      · refine V_iload_n C dX9_best_20 rfl ?_
        refine V_aload_n C dX9_best_21 rfl (by first | exact isR_r _ | exact isR_q _ | exact isR_n) ?_
        refine V_mNum C 20 hRF fl_X9_169 (by decide) dX9_best_22 en ?_
        refine V_igeN C (tgt := 69) (by omega) (by omega) dX9_best_25 (by decide) (fun h25 => ?_) (fun h25 => ?_)
        · omega
        · refine V_aload_n C dX9_best_28 rfl (by first | exact isR_r _ | exact isR_q _ | exact isR_n) ?_
          refine V_iload_n C dX9_best_29 rfl ?_
          refine V_iload_n C dX9_best_30 rfl ?_
          refine V_fV C (c_X9_whyNot _ hl G _ m (sT σ 0) hRF.1 hI k hk16 j hj10) kv_X9_243 cf_9 (by decide) rfl hRF.1.1 (by decide) (by decide) rfl rfl (Nat.le_of_ble_eq_true rfl) dX9_best_31 ?_
          dsimp only [Option.toList_some, Option.toList_none, List.cons_append, List.nil_append]
          refine V_if_ne C (tgt := 61) dX9_best_34 (by decide) (fun h34 => ?_) (fun h34 => ?_)
          · refine V_iload_n C dX9_best_61 rfl ?_
            refine V_istore_n C dX9_best_62 (by decide) rfl ?_
            simp only [lset1, lset2, List.filter_cons, List.filter_nil, Nat.reduceBEq, Nat.reduceAdd, Bool.not_true, Bool.not_false, Bool.and_true, Bool.and_false, Bool.true_and, Bool.false_and, if_true, if_false, Bool.false_eq_true, reduceIte]
            refine V_incN C dX9_best_63 rfl (by decide) rfl ?_
            simp only [lset1, lset2, List.filter_cons, List.filter_nil, Nat.reduceBEq, Nat.reduceAdd, Bool.not_true, Bool.not_false, Bool.and_true, Bool.and_false, Bool.true_and, Bool.false_and, if_true, if_false, Bool.false_eq_true, reduceIte]
            refine V_goto C (tgt := 20) dX9_best_66 (by decide) ?_
            refine V_sub ?_ (ih (j + 1) (by omega))
            refine ⟨rfl, rfl, ?_, rfl, trivial⟩
            first | (rw [mBestF_f (fun q => h34 q.1)]; rfl) | (rw [mBestF_t ⟨Classical.not_not.mp h34, Or.inl h39⟩]; rfl) | (rw [mBestF_t ⟨h34, Or.inl h39⟩]; rfl)
          · refine V_iload_n C dX9_best_37 rfl ?_
            refine V_iconst C (v := (-1)) dX9_best_38 (by decide) ?_
            refine V_icmp_eq C (tgt := 57) dX9_best_39 (by decide) (fun h39 => ?_) (fun h39 => ?_)
            · refine V_iload_n C dX9_best_57 rfl ?_
              refine V_goto C (tgt := 62) dX9_best_58 (by decide) ?_
              refine V_istore_n C dX9_best_62 (by decide) rfl ?_
              simp only [lset1, lset2, List.filter_cons, List.filter_nil, Nat.reduceBEq, Nat.reduceAdd, Bool.not_true, Bool.not_false, Bool.and_true, Bool.and_false, Bool.true_and, Bool.false_and, if_true, if_false, Bool.false_eq_true, reduceIte]
              refine V_incN C dX9_best_63 rfl (by decide) rfl ?_
              simp only [lset1, lset2, List.filter_cons, List.filter_nil, Nat.reduceBEq, Nat.reduceAdd, Bool.not_true, Bool.not_false, Bool.and_true, Bool.and_false, Bool.true_and, Bool.false_and, if_true, if_false, Bool.false_eq_true, reduceIte]
              refine V_goto C (tgt := 20) dX9_best_66 (by decide) ?_
              refine V_sub ?_ (ih (j + 1) (by omega))
              refine ⟨rfl, rfl, ?_, rfl, trivial⟩
              first | (rw [mBestF_f (fun q => h34 q.1)]; rfl) | (rw [mBestF_t ⟨Classical.not_not.mp h34, Or.inl h39⟩]; rfl) | (rw [mBestF_t ⟨h34, Or.inl h39⟩]; rfl)
            · exact absurd e1 h39
      · have hi10 : i < 10 := by omega
        have ei : nx (mBestF (sT σ 0) k j) = i := by rw [e1]; exact nI_clamp (by omega)
        refine V_iload_n C dX9_best_20 rfl ?_
        refine V_aload_n C dX9_best_21 rfl (by first | exact isR_r _ | exact isR_q _ | exact isR_n) ?_
        refine V_mNum C 20 hRF fl_X9_169 (by decide) dX9_best_22 en ?_
        refine V_igeN C (tgt := 69) (by omega) (by omega) dX9_best_25 (by decide) (fun h25 => ?_) (fun h25 => ?_)
        · omega
        · refine V_aload_n C dX9_best_28 rfl (by first | exact isR_r _ | exact isR_q _ | exact isR_n) ?_
          refine V_iload_n C dX9_best_29 rfl ?_
          refine V_iload_n C dX9_best_30 rfl ?_
          refine V_fV C (c_X9_whyNot _ hl G _ m (sT σ 0) hRF.1 hI k hk16 j hj10) kv_X9_243 cf_9 (by decide) rfl hRF.1.1 (by decide) (by decide) rfl rfl (Nat.le_of_ble_eq_true rfl) dX9_best_31 ?_
          dsimp only [Option.toList_some, Option.toList_none, List.cons_append, List.nil_append]
          refine V_if_ne C (tgt := 61) dX9_best_34 (by decide) (fun h34 => ?_) (fun h34 => ?_)
          · refine V_iload_n C dX9_best_61 rfl ?_
            refine V_istore_n C dX9_best_62 (by decide) rfl ?_
            simp only [lset1, lset2, List.filter_cons, List.filter_nil, Nat.reduceBEq, Nat.reduceAdd, Bool.not_true, Bool.not_false, Bool.and_true, Bool.and_false, Bool.true_and, Bool.false_and, if_true, if_false, Bool.false_eq_true, reduceIte]
            refine V_incN C dX9_best_63 rfl (by decide) rfl ?_
            simp only [lset1, lset2, List.filter_cons, List.filter_nil, Nat.reduceBEq, Nat.reduceAdd, Bool.not_true, Bool.not_false, Bool.and_true, Bool.and_false, Bool.true_and, Bool.false_and, if_true, if_false, Bool.false_eq_true, reduceIte]
            refine V_goto C (tgt := 20) dX9_best_66 (by decide) ?_
            refine V_sub ?_ (ih (j + 1) (by omega))
            refine ⟨rfl, rfl, ?_, rfl, trivial⟩
            first | (rw [mBestF_f (fun q => h34 q.1)]; rfl) | (rw [mBestF_f (fun q => q.2.elim h39 (fun z => by rw [ei] at z; exact absurd z (Int32.not_lt.mpr h54))), e1]; rfl) | (rw [mBestF_t ⟨h34, Or.inr (by rw [ei]; exact Int32.not_le.mp h54)⟩]; rfl)
          · refine V_iload_n C dX9_best_37 rfl ?_
            refine V_iconst C (v := (-1)) dX9_best_38 (by decide) ?_
            refine V_icmp_eq C (tgt := 57) dX9_best_39 (by decide) (fun h39 => ?_) (fun h39 => ?_)
            · exact absurd (e1.symm.trans h39) (nI_ne_m1 (by omega))
            · refine V_aload_n C dX9_best_42 rfl (by first | exact isR_r _ | exact isR_q _ | exact isR_n) ?_
              refine V_iload_n C dX9_best_43 rfl ?_
              refine V_iload_n C dX9_best_44 rfl ?_
              refine V_fV C (c_X9_worthOf _ hl G _ m (sT σ 0) hRF.1 hI k hk16 j hj10) kv_X9_246 cf_9 (by decide) rfl hRF.1.1 (by decide) (by decide) rfl rfl (Nat.le_of_ble_eq_true rfl) dX9_best_45 ?_
              dsimp only [Option.toList_some, Option.toList_none, List.cons_append, List.nil_append]
              refine V_aload_n C dX9_best_48 rfl (by first | exact isR_r _ | exact isR_q _ | exact isR_n) ?_
              refine V_iload_n C dX9_best_49 rfl ?_
              refine V_iload_n C dX9_best_50 rfl ?_
              rw [e1]
              refine V_fV C (c_X9_worthOf _ hl G _ m (sT σ 0) hRF.1 hI k hk16 i hi10) kv_X9_246 cf_9 (by decide) rfl hRF.1.1 (by decide) (by decide) rfl rfl (Nat.le_of_ble_eq_true rfl) dX9_best_51 ?_
              dsimp only [Option.toList_some, Option.toList_none, List.cons_append, List.nil_append]
              refine V_icmp_le C (tgt := 61) dX9_best_54 (by decide) (fun h54 => ?_) (fun h54 => ?_)
              · refine V_iload_n C dX9_best_61 rfl ?_
                refine V_istore_n C dX9_best_62 (by decide) rfl ?_
                simp only [lset1, lset2, List.filter_cons, List.filter_nil, Nat.reduceBEq, Nat.reduceAdd, Bool.not_true, Bool.not_false, Bool.and_true, Bool.and_false, Bool.true_and, Bool.false_and, if_true, if_false, Bool.false_eq_true, reduceIte]
                refine V_incN C dX9_best_63 rfl (by decide) rfl ?_
                simp only [lset1, lset2, List.filter_cons, List.filter_nil, Nat.reduceBEq, Nat.reduceAdd, Bool.not_true, Bool.not_false, Bool.and_true, Bool.and_false, Bool.true_and, Bool.false_and, if_true, if_false, Bool.false_eq_true, reduceIte]
                refine V_goto C (tgt := 20) dX9_best_66 (by decide) ?_
                refine V_sub ?_ (ih (j + 1) (by omega))
                refine ⟨rfl, rfl, ?_, rfl, trivial⟩
                first | (rw [mBestF_f (fun q => h34 q.1)]; rfl) | (rw [mBestF_f (fun q => q.2.elim h39 (fun z => by rw [ei] at z; exact absurd z (Int32.not_lt.mpr h54))), e1]; rfl) | (rw [mBestF_t ⟨h34, Or.inr (by rw [ei]; exact Int32.not_le.mp h54)⟩]; rfl)
              · refine V_iload_n C dX9_best_57 rfl ?_
                refine V_goto C (tgt := 62) dX9_best_58 (by decide) ?_
                refine V_istore_n C dX9_best_62 (by decide) rfl ?_
                simp only [lset1, lset2, List.filter_cons, List.filter_nil, Nat.reduceBEq, Nat.reduceAdd, Bool.not_true, Bool.not_false, Bool.and_true, Bool.and_false, Bool.true_and, Bool.false_and, if_true, if_false, Bool.false_eq_true, reduceIte]
                refine V_incN C dX9_best_63 rfl (by decide) rfl ?_
                simp only [lset1, lset2, List.filter_cons, List.filter_nil, Nat.reduceBEq, Nat.reduceAdd, Bool.not_true, Bool.not_false, Bool.and_true, Bool.and_false, Bool.true_and, Bool.false_and, if_true, if_false, Bool.false_eq_true, reduceIte]
                refine V_goto C (tgt := 20) dX9_best_66 (by decide) ?_
                refine V_sub ?_ (ih (j + 1) (by omega))
                refine ⟨rfl, rfl, ?_, rfl, trivial⟩
                first | (rw [mBestF_f (fun q => h34 q.1)]; rfl) | (rw [mBestF_f (fun q => q.2.elim h39 (fun z => by rw [ei] at z; exact absurd z (Int32.not_lt.mpr h54))), e1]; rfl) | (rw [mBestF_t ⟨h34, Or.inr (by rw [ei]; exact Int32.not_le.mp h54)⟩]; rfl)
  refine V_aload_n C dX9_best_0 rfl (by first | exact isR_r _ | exact isR_q _ | exact isR_n) ?_
  refine V_aload_n C dX9_best_1 rfl (by first | exact isR_r _ | exact isR_q _ | exact isR_n) ?_
  refine V_iload_n C dX9_best_2 rfl ?_
  refine V_fV C (c_X9_isChild _ hl G S m σ hR x) kv_X9_208 cf_9 (by decide) rfl hRF.1.1 (by decide) (by decide) rfl rfl (Nat.le_of_ble_eq_true rfl) dX9_best_3 ?_
  dsimp only [Option.toList_some, Option.toList_none, List.cons_append, List.nil_append]
  refine V_iconst C (v := 1) dX9_best_6 (by decide) ?_
  refine V_iconst C (v := 1) dX9_best_7 (by decide) ?_
  refine V_fV C (c_X9_goes _ hl G S m hm (bI (chP σ x)) 1 1) kv_X9_179 cf_9 (by decide) rfl hRF.1.1 (by decide) (by decide) rfl rfl (Nat.le_of_ble_eq_true rfl) dX9_best_8 ?_
  dsimp only [Option.toList_some, Option.toList_none, List.cons_append, List.nil_append]
  rw [et]
  refine V_genT (RF_I hRF (f := 56) rfl) (fun T hRF => ?_)
  refine V_if_ne C (tgt := 16) dX9_best_11 (by decide) (fun h11 => ?_) (fun h11 => ?_)
  · have h0 := bI_ne.mp h11
    rw [h0] at hRF
    obtain ⟨k, hk, rfl⟩ := ch_ix hI (bI_ne.mp (gT_x (et.trans h0)).1)
    have hk16 : k < 16 := by have := hI.2.1.2; omega
    refine V_iconst C (v := (-1)) dX9_best_16 (by decide) ?_
    refine V_istore_n C dX9_best_17 (by decide) rfl ?_
    simp only [lset1, lset2, List.filter_cons, List.filter_nil, Nat.reduceBEq, Nat.reduceAdd, Bool.not_true, Bool.not_false, Bool.and_true, Bool.and_false, Bool.true_and, Bool.false_and, if_true, if_false, Bool.false_eq_true, reduceIte]
    refine V_iconst C (v := 0) dX9_best_18 (by decide) ?_
    refine V_istore_n C dX9_best_19 (by decide) rfl ?_
    simp only [lset1, lset2, List.filter_cons, List.filter_nil, Nat.reduceBEq, Nat.reduceAdd, Bool.not_true, Bool.not_false, Bool.and_true, Bool.and_false, Bool.true_and, Bool.false_and, if_true, if_false, Bool.false_eq_true, reduceIte]
    refine V_sub ?_ (loop _ hRF k hk16 h0 n 0 (by omega))
    exact ⟨rfl, rfl, rfl, rfl, trivial⟩
  · have h0 := bI_eq.mp h11
    refine V_iconst C (v := 0) dX9_best_14 (by decide) ?_
    refine V_iret C (by first | omega | decide) (by first | omega | decide) dX9_best_15 ?_
    unfold oBest
    rw [if_neg h0]
    exact ⟨rfl, hRF⟩
theorem c_X9_report (l : Launch) (hl : l.stackTraces = false) (G : gG) (S : sS) (m : Nat) (σ : aS) (hR : RelR S m σ) (hI : IC σ) (x s w : Int32) : CtR l G yX9_report cX9_report 6 (Option.some FieldType.int) 3 [.ref m, .int x, .int s, .int w] S m (some (.int (oReport σ x s w).1)) (oReport σ x s w).2 := by
  have hm := hR.1
  have hRF := RF_0 hR
  refine Ct_of (by decide) (cat1_all (by repeat first | exact trivial | refine ⟨by first | rfl | exact isR_c (isR_q _), ?_⟩)) (Nat.le_of_ble_eq_true rfl) hl fun X C hXl hin => ?_
  subst hXl
  dsimp only [lArgs, Nat.reduceAdd]
  have J2 : ∀ (y z : Int32), y = pI9 (inP s 0 9 ∧ inP w 1 9) → z = pI9 (chP σ x ∧ σ.1 34 (nx x) < 30) → V X G 6 (eQ X G (fun v T => v = some (.int (oReport σ x s w).1) ∧ RF S T m (oReport σ x s w).2.1 (oReport σ x s w).2.2) (fun _ _ => False) 0 0) 0 0 65 [(4, false, .int (bI (chP σ x))), (0, false, .ref m), (1, false, .int x), (2, false, .int s), (3, false, .int w)] [.int z, .int y, .int (bI (chP σ x)), .ref m] S := fun y z hy hz => by
    have et : gT (bI (chP σ x)) y z = tReport σ x s w := by rw [hy, hz]; rfl
    refine V_fV C (c_X9_goes _ hl G S m hm (bI (chP σ x)) y z) kv_X9_179 cf_9 (by decide) rfl hRF.1.1 (by decide) (by decide) rfl rfl (Nat.le_of_ble_eq_true rfl) dX9_report_65 ?_
    dsimp only [Option.toList_some, Option.toList_none, List.cons_append, List.nil_append]
    rw [et]
    refine V_genT (RF_I hRF (f := 56) rfl) (fun T hRF => ?_)
    refine V_if_ne C (tgt := 73) dX9_report_68 (by decide) (fun h68 => ?_) (fun h68 => ?_)
    · have h0 := bI_ne.mp h68
      rw [h0] at hRF
      have hq := (gT_x (et.trans h0)).2.2
      rw [hz] at hq
      have hq2 := (pI9_ne.mp hq).2
      obtain ⟨k, hk, rfl⟩ := ch_ix hI (bI_ne.mp (gT_x (et.trans h0)).1)
      have hk16 : k < 16 := by have := hI.2.1.2; omega
      have ek : nx (nI k) = k := nI_clamp (by omega)
      rw [ek] at hq2
      obtain ⟨r, hr⟩ : ∃ r, r = rN σ k := ⟨_, rfl⟩
      have er : σ.1 34 k = nI r := by rw [hr]; exact (hI.2.2.2.2.2.2.1 k hk16).1
      have hr30' : r ≤ 30 := by rw [hr]; exact (hI.2.2.2.2.2.2.1 k hk16).2
      have hr30 : r < 30 := by
        rw [er, show (30 : Int32) = nI 30 from rfl] at hq2
        exact (nI_ltI (by omega) (by decide)).mp hq2
      have hI' : IC (sReport σ (nI k) s w) := by
        unfold sReport
        rw [ek]
        exact IC_34 (A := up2 (up2 (up2 σ.1 35 (30 * k + rN σ k) s) 36 (30 * k + rN σ k) w) 37 (30 * k + rN σ k) (σ.2 0)) (IC_A (IC_A (IC_A (IC_56 hI) (by decide) (by decide)) (by decide) (by decide)) (by decide) (by decide)) hk16 (show rN σ k < 30 by rw [← hr]; exact hr30)
      refine V_bipush C (v := 30) dX9_report_73 (by decide) ?_
      refine V_iload_n C dX9_report_75 rfl ?_
      refine V_imul C dX9_report_76 ?_
      rw [show (30 : Int32) * nI k = nI (30 * k) from pk_mul 30 k]
      refine V_aload_n C dX9_report_77 rfl (by first | exact isR_r _ | exact isR_q _ | exact isR_n) ?_
      refine V_mArr C 34 hRF rfl fl_X9_101 (by decide) dX9_report_78 (fun a78 ha78 => ?_)
      refine V_iload_n C dX9_report_81 rfl ?_
      refine V_mLd C 34 hRF rfl rfl ha78 (by first | assumption | (show _ < _; omega)) er dX9_report_82 ?_
      refine V_iadd C dX9_report_83 ?_
      rw [nI_add]
      refine V_istore C dX9_report_84 (by decide) rfl ?_
      simp only [lset1, lset2, List.filter_cons, List.filter_nil, Nat.reduceBEq, Nat.reduceAdd, Bool.not_true, Bool.not_false, Bool.and_true, Bool.and_false, Bool.true_and, Bool.false_and, if_true, if_false, Bool.false_eq_true, reduceIte]
      refine V_aload_n C dX9_report_86 rfl (by first | exact isR_r _ | exact isR_q _ | exact isR_n) ?_
      refine V_mArr C 35 hRF rfl fl_X9_104 (by decide) dX9_report_87 (fun a87 ha87 => ?_)
      refine V_iload C dX9_report_90 rfl ?_
      refine V_iload_n C dX9_report_92 rfl ?_
      refine V_mSt C 35 hRF rfl rfl ha87 (show 30 * k + r < 480 by omega) dX9_report_93 (fun T hRF => ?_)
      refine V_aload_n C dX9_report_94 rfl (by first | exact isR_r _ | exact isR_q _ | exact isR_n) ?_
      refine V_mArr C 36 hRF rfl fl_X9_107 (by decide) dX9_report_95 (fun a95 ha95 => ?_)
      refine V_iload C dX9_report_98 rfl ?_
      refine V_iload_n C dX9_report_100 rfl ?_
      refine V_mSt C 36 hRF rfl rfl ha95 (show 30 * k + r < 480 by omega) dX9_report_101 (fun T hRF => ?_)
      refine V_aload_n C dX9_report_102 rfl (by first | exact isR_r _ | exact isR_q _ | exact isR_n) ?_
      refine V_mArr C 37 hRF rfl fl_X9_110 (by decide) dX9_report_103 (fun a103 ha103 => ?_)
      refine V_iload C dX9_report_106 rfl ?_
      refine V_aload_n C dX9_report_108 rfl (by first | exact isR_r _ | exact isR_q _ | exact isR_n) ?_
      refine V_mNum C 0 hRF fl_X9_187 (by decide) dX9_report_109 rfl ?_
      refine V_mSt C 37 hRF rfl rfl ha103 (show 30 * k + r < 480 by omega) dX9_report_112 (fun T hRF => ?_)
      refine V_aload_n C dX9_report_113 rfl (by first | exact isR_r _ | exact isR_q _ | exact isR_n) ?_
      refine V_mArr C 34 hRF rfl fl_X9_101 (by decide) dX9_report_114 (fun a114 ha114 => ?_)
      refine V_iload_n C dX9_report_117 rfl ?_
      refine V_dup2 C dX9_report_118 rfl rfl ?_
      refine V_mLd C 34 hRF rfl rfl ha114 (by first | assumption | (show _ < _; omega)) er dX9_report_119 ?_
      refine V_iconst C (v := 1) dX9_report_120 (by decide) ?_
      refine V_iadd C dX9_report_121 ?_
      refine V_mSt C 34 hRF rfl rfl ha114 (by first | assumption | (show _ < _; omega)) dX9_report_122 (fun T hRF => ?_)
      have eS : sReport σ (nI k) s w = (_, _) := rfl
      refine V_aload_n C dX9_report_123 rfl (by first | exact isR_r _ | exact isR_q _ | exact isR_n) ?_
      refine V_iload_n C dX9_report_124 rfl ?_
      refine V_fV C (c_X9_riskOf _ hl G _ m (sReport σ (nI k) s w) (by unfold sReport; rw [ek, ← hr, er]; exact hRF.1) hI' k hk16) kv_X9_211 cf_9 (by decide) rfl hRF.1.1 (by decide) (by decide) rfl rfl (Nat.le_of_ble_eq_true rfl) dX9_report_125 ?_
      dsimp only [Option.toList_some, Option.toList_none, List.cons_append, List.nil_append]
      refine V_iret C (by first | omega | decide) (by first | omega | decide) dX9_report_128 ?_
      unfold oReport
      rw [if_pos h0, ek]
      refine ⟨rfl, ?_⟩
      unfold sReport
      rw [ek, ← hr, er]
      exact hRF
    · have h0 := bI_eq.mp h68
      refine V_iconst C (v := 0) dX9_report_71 (by decide) ?_
      refine V_iret C (by first | omega | decide) (by first | omega | decide) dX9_report_72 ?_
      unfold oReport
      rw [if_neg h0]
      exact ⟨rfl, hRF⟩
  have J : ∀ y : Int32, y = pI9 (inP s 0 9 ∧ inP w 1 9) → V X G 6 (eQ X G (fun v T => v = some (.int (oReport σ x s w).1) ∧ RF S T m (oReport σ x s w).2.1 (oReport σ x s w).2.2) (fun _ _ => False) 0 0) 0 0 35 [(4, false, .int (bI (chP σ x))), (0, false, .ref m), (1, false, .int x), (2, false, .int s), (3, false, .int w)] [.int y, .int (bI (chP σ x)), .ref m] S := fun y hy => by
    by_cases hc : chP σ x
    · obtain ⟨k, hk, rfl⟩ := ch_ix hI hc
      have hk16 : k < 16 := by have := hI.2.1.2; omega
      have ek : nx (nI k) = k := nI_clamp (by omega)
      refine V_iload C dX9_report_35 rfl ?_
      refine V_if_eq C (tgt := 64) dX9_report_37 (by decide) (fun h37 => ?_) (fun h37 => ?_)
      · exact absurd (bI_eq.mp h37) (fun q => q hc)
      · refine V_aload_n C dX9_report_40 rfl (by first | exact isR_r _ | exact isR_q _ | exact isR_n) ?_
        refine V_mArr C 34 hRF rfl fl_X9_101 (by decide) dX9_report_41 (fun a41 ha41 => ?_)
        refine V_iload C dX9_report_44 rfl ?_
        refine V_if_eq C (tgt := 53) dX9_report_46 (by decide) (fun h46 => ?_) (fun h46 => ?_)
        · exact absurd (bI_eq.mp h46) (fun q => q hc)
        · refine V_iload_n C dX9_report_49 rfl ?_
          refine V_goto C (tgt := 54) dX9_report_50 (by decide) ?_
          refine V_mLd C 34 hRF rfl rfl ha41 (by first | assumption | (show _ < _; omega)) rfl dX9_report_54 ?_
          refine V_bipush C (v := 30) dX9_report_55 (by decide) ?_
          refine V_icmp_ge C (tgt := 64) dX9_report_57 (by decide) (fun h57 => ?_) (fun h57 => ?_)
          · refine V_iconst C (v := 0) dX9_report_64 (by decide) ?_
            refine J2 _ _ hy ?_
            first | exact Eq.symm (pI9_t ⟨hc, by rw [ek]; exact Int32.not_le.mp h57⟩) | exact Eq.symm (pI9_f (fun q => absurd q.2 (by rw [ek]; exact Int32.not_lt.mpr h57)))
          · refine V_iconst C (v := 1) dX9_report_60 (by decide) ?_
            refine V_goto C (tgt := 65) dX9_report_61 (by decide) ?_
            refine J2 _ _ hy ?_
            first | exact Eq.symm (pI9_t ⟨hc, by rw [ek]; exact Int32.not_le.mp h57⟩) | exact Eq.symm (pI9_f (fun q => absurd q.2 (by rw [ek]; exact Int32.not_lt.mpr h57)))
    · refine V_iload C dX9_report_35 rfl ?_
      refine V_if_eq C (tgt := 64) dX9_report_37 (by decide) (fun h37 => ?_) (fun h37 => ?_)
      · refine V_iconst C (v := 0) dX9_report_64 (by decide) ?_
        refine J2 _ _ hy ?_
        exact Eq.symm (pI9_f (fun q => hc q.1))
      · exact absurd (bI_ne.mp h37) hc
  refine V_aload_n C dX9_report_0 rfl (by first | exact isR_r _ | exact isR_q _ | exact isR_n) ?_
  refine V_iload_n C dX9_report_1 rfl ?_
  refine V_fV C (c_X9_isChild _ hl G S m σ hR x) kv_X9_208 cf_9 (by decide) rfl hRF.1.1 (by decide) (by decide) rfl rfl (Nat.le_of_ble_eq_true rfl) dX9_report_2 ?_
  dsimp only [Option.toList_some, Option.toList_none, List.cons_append, List.nil_append]
  refine V_istore C dX9_report_5 (by decide) rfl ?_
  simp only [lset1, lset2, List.filter_cons, List.filter_nil, Nat.reduceBEq, Nat.reduceAdd, Bool.not_true, Bool.not_false, Bool.and_true, Bool.and_false, Bool.true_and, Bool.false_and, if_true, if_false, Bool.false_eq_true, reduceIte]
  refine V_aload_n C dX9_report_7 rfl (by first | exact isR_r _ | exact isR_q _ | exact isR_n) ?_
  refine V_iload C dX9_report_8 rfl ?_
  refine V_iload_n C dX9_report_10 rfl ?_
  refine V_iconst C (v := 0) dX9_report_11 (by decide) ?_
  refine V_bipush C (v := 9) dX9_report_12 (by decide) ?_
  refine V_fS C (c_X9_in _ hl G S s 0 9) ks_X9_165 (by decide) (by decide) rfl rfl (Nat.le_of_ble_eq_true rfl) dX9_report_14 ?_
  dsimp only [Option.toList_some, Option.toList_none, List.cons_append, List.nil_append]
  refine V_if_eq C (tgt := 34) dX9_report_17 (by decide) (fun h17 => ?_) (fun h17 => ?_)
  · refine V_iconst C (v := 0) dX9_report_34 (by decide) ?_
    refine J _ ?_
    first | exact Eq.symm (pI9_t ⟨bI_ne.mp h17, bI_ne.mp h27⟩) | exact Eq.symm (pI9_f (fun q => bI_eq.mp h17 q.1)) | exact Eq.symm (pI9_f (fun q => bI_eq.mp h27 q.2))
  · refine V_iload_n C dX9_report_20 rfl ?_
    refine V_iconst C (v := 1) dX9_report_21 (by decide) ?_
    refine V_bipush C (v := 9) dX9_report_22 (by decide) ?_
    refine V_fS C (c_X9_in _ hl G S w 1 9) ks_X9_165 (by decide) (by decide) rfl rfl (Nat.le_of_ble_eq_true rfl) dX9_report_24 ?_
    dsimp only [Option.toList_some, Option.toList_none, List.cons_append, List.nil_append]
    refine V_if_eq C (tgt := 34) dX9_report_27 (by decide) (fun h27 => ?_) (fun h27 => ?_)
    · refine V_iconst C (v := 0) dX9_report_34 (by decide) ?_
      refine J _ ?_
      first | exact Eq.symm (pI9_t ⟨bI_ne.mp h17, bI_ne.mp h27⟩) | exact Eq.symm (pI9_f (fun q => bI_eq.mp h17 q.1)) | exact Eq.symm (pI9_f (fun q => bI_eq.mp h27 q.2))
    · refine V_iconst C (v := 1) dX9_report_30 (by decide) ?_
      refine V_goto C (tgt := 35) dX9_report_31 (by decide) ?_
      refine J _ ?_
      first | exact Eq.symm (pI9_t ⟨bI_ne.mp h17, bI_ne.mp h27⟩) | exact Eq.symm (pI9_f (fun q => bI_eq.mp h17 q.1)) | exact Eq.symm (pI9_f (fun q => bI_eq.mp h27 q.2))
