/-! THE CLASS: child. -/
def adC (ad : Nat → Nat → Nat) (n q aF aR aW a1 a2 a3 : Nat) (i j : Nat) : Nat := if j = n then (match i with
  | 0 => q | 1 => aF | 5 => aR | 11 => aW | 12 => a1 | 13 => a2 | 14 => a3 | _ => ad i j) else ad i j
theorem adC_n {ad : Nat → Nat → Nat} {n q aF aR aW a1 a2 a3 i j : Nat} (h : j ≠ n) : adC ad n q aF aR aW a1 a2 a3 i j = ad i j := if_neg h
theorem c_X8_child (l : Launch) (hl : l.stackTraces = false) (G : gG) (S : sS) (ad : Nat → Nat → Nat) (σ : aS) (hC : RelC S ad σ) (hI : IC σ) (hS : IS σ) (hN : IN σ) (hQ : IQ σ) (a b c d e : Int32) (hv : (0 ≤ a ∧ a ≤ 7000) ∧ (0 ≤ b ∧ b ≤ 15) ∧ (0 ≤ c ∧ c ≤ 7) ∧ (0 ≤ d ∧ d ≤ 50) ∧ (0 ≤ e ∧ e ≤ 3)) (n : Nat) (hn : cN σ 1 = n) (hn16 : n < 16) : CtC l G yX8_child cX8_child 7 (Option.some FieldType.int) 7 16 200 [.ref (ad 8 0), .int a, .int b, .int c, .int d, .int e] S ad (some (.int (nI n))) (up2 (up2 (up2 (up2 (up2 (up2 (up2 (up2 (up2 σ.1 2 n a) 3 n (σ.2 0)) 4 n b) 5 n c) 6 n d) 7 n e) 8 n (mLeast σ)) 9 n (-1)) 10 n (-1), up1 σ.2 1 (nI (n + 1))) := by
  refine Ct_of (by decide) (cat1_all (by repeat first | exact trivial | refine ⟨by first | rfl | exact isR_c (isR_q _), ?_⟩)) (Nat.le_of_ble_eq_true rfl) hl fun X C hXl hin => ?_
  subst hXl
  dsimp only [lArgs, Nat.reduceAdd]
  have kx : sK S (ad 8 0) = 9 := RelC_K hC 8 (by decide) rfl
  have rx_800 : sR S 800 (ad 8 0) = some (ad 15 0) := RelC_R hC 8 800 rfl (by unfold cFd; omega) rfl rfl
  have ix_804 : sI S 804 (ad 8 0) = σ.2 1 := RelC_I hC 8 804 rfl (by unfold cFd; omega) rfl rfl
  have ix_808 : sI S 808 (ad 8 0) = σ.2 0 := RelC_I hC 8 808 rfl (by unfold cFd; omega) rfl rfl
  have e1 : σ.2 1 = nI n := by rw [← hn]; exact hI.2.1.1
  rw [e1] at ix_804
  have kq : sK S (ad 15 0) = 104 := hC.1 15 0 (by decide) (by decide) (by decide) rfl
  have lq : sL S (ad 15 0) = 16 := hC.2.2.2.2.1 15 0 (by decide) (by decide) rfl
  refine V_iload_n C dX8_child_0 rfl ?_
  refine V_iconst C (v := 0) dX8_child_1 (by decide) ?_
  refine V_sipush C (v := 7000) dX8_child_2 (by decide) ?_
  refine V_fS C (c_X8_isWithin _ hl G S _ _ _) ks_X8_34 (by decide) (by decide) rfl rfl (Nat.le_of_ble_eq_true rfl) dX8_child_5 ?_
  dsimp only [Option.toList_some, Option.toList_none, List.cons_append, List.nil_append]
  rw [bI_t hv.1]
  refine V_if_eq C (tgt := 56) dX8_child_8 (by decide) (fun h8 => ?_) (fun h8 => ?_)
  · exact absurd h8 (by decide)
  · refine V_iload_n C dX8_child_11 rfl ?_
    refine V_iconst C (v := 0) dX8_child_12 (by decide) ?_
    refine V_bipush C (v := 15) dX8_child_13 (by decide) ?_
    refine V_fS C (c_X8_isWithin _ hl G S _ _ _) ks_X8_34 (by decide) (by decide) rfl rfl (Nat.le_of_ble_eq_true rfl) dX8_child_15 ?_
    dsimp only [Option.toList_some, Option.toList_none, List.cons_append, List.nil_append]
    rw [bI_t hv.2.1]
    refine V_if_eq C (tgt := 56) dX8_child_18 (by decide) (fun h18 => ?_) (fun h18 => ?_)
    · exact absurd h18 (by decide)
    · refine V_iload_n C dX8_child_21 rfl ?_
      refine V_iconst C (v := 0) dX8_child_22 (by decide) ?_
      refine V_bipush C (v := 7) dX8_child_23 (by decide) ?_
      refine V_fS C (c_X8_isWithin _ hl G S _ _ _) ks_X8_34 (by decide) (by decide) rfl rfl (Nat.le_of_ble_eq_true rfl) dX8_child_25 ?_
      dsimp only [Option.toList_some, Option.toList_none, List.cons_append, List.nil_append]
      rw [bI_t hv.2.2.1]
      refine V_if_eq C (tgt := 56) dX8_child_28 (by decide) (fun h28 => ?_) (fun h28 => ?_)
      · exact absurd h28 (by decide)
      · refine V_iload C dX8_child_31 rfl ?_
        refine V_iconst C (v := 0) dX8_child_33 (by decide) ?_
        refine V_bipush C (v := 50) dX8_child_34 (by decide) ?_
        refine V_fS C (c_X8_isWithin _ hl G S _ _ _) ks_X8_34 (by decide) (by decide) rfl rfl (Nat.le_of_ble_eq_true rfl) dX8_child_36 ?_
        dsimp only [Option.toList_some, Option.toList_none, List.cons_append, List.nil_append]
        rw [bI_t hv.2.2.2.1]
        refine V_if_eq C (tgt := 56) dX8_child_39 (by decide) (fun h39 => ?_) (fun h39 => ?_)
        · exact absurd h39 (by decide)
        · refine V_iload C dX8_child_42 rfl ?_
          refine V_iconst C (v := 0) dX8_child_44 (by decide) ?_
          refine V_iconst C (v := 3) dX8_child_45 (by decide) ?_
          refine V_fS C (c_X8_isWithin _ hl G S _ _ _) ks_X8_34 (by decide) (by decide) rfl rfl (Nat.le_of_ble_eq_true rfl) dX8_child_46 ?_
          dsimp only [Option.toList_some, Option.toList_none, List.cons_append, List.nil_append]
          rw [bI_t hv.2.2.2.2]
          refine V_if_eq C (tgt := 56) dX8_child_49 (by decide) (fun h49 => ?_) (fun h49 => ?_)
          · exact absurd h49 (by decide)
          · refine V_iconst C (v := 1) dX8_child_52 (by decide) ?_
            refine V_goto C (tgt := 57) dX8_child_53 (by decide) ?_
            refine V_fS C (c_X8_require1 _ hl G S) ks_X8_38 (by decide) (by decide) rfl rfl (Nat.le_of_ble_eq_true rfl) dX8_child_57 ?_
            dsimp only [Option.toList_some, Option.toList_none, List.cons_append, List.nil_append]
            refine V_aload_n C dX8_child_60 rfl (by first | exact isR_r _ | exact isR_q _ | exact isR_n) ?_
            refine V_getIe C 8 4 rfl cf_8 fl_X8_42 (by decide) (by decide) dX8_child_61 kx ix_804 ?_
            refine V_aload_n C dX8_child_64 rfl (by first | exact isR_r _ | exact isR_q _ | exact isR_n) ?_
            refine V_getS C 8 0 rfl cf_8 fl_X8_11 (by decide) (by decide) dX8_child_65 kx rx_800 ?_
            refine V_alen C (v := nI 16) kq (by decide) (by rw [lq]; rfl) dX8_child_68 ?_
            refine V_iltN C (tgt := 82) (by omega) (by omega) dX8_child_69 (by decide) (fun h69 => ?_) (fun h69 => ?_)
            · refine V_aload_n C dX8_child_82 rfl (by first | exact isR_r _ | exact isR_q _ | exact isR_n) ?_
              refine V_getIe C 8 4 rfl cf_8 fl_X8_42 (by decide) (by decide) dX8_child_83 kx ix_804 ?_
              refine V_istore C dX8_child_86 (by decide) rfl ?_
              simp only [lset1, lset2, List.filter_cons, List.filter_nil, Nat.reduceBEq, Nat.reduceAdd, Bool.not_true, Bool.not_false, Bool.and_true, Bool.and_false, Bool.true_and, Bool.false_and, if_true, if_false, Bool.false_eq_true, reduceIte]
              refine V_aload_n C dX8_child_88 rfl (by first | exact isR_r _ | exact isR_q _ | exact isR_n) ?_
              refine V_getS C 8 0 rfl cf_8 fl_X8_11 (by decide) (by decide) dX8_child_89 kx rx_800 ?_
              refine V_iload C dX8_child_92 rfl ?_
              refine V_new C 0 cf_0 nw_X8_9 (by decide) (by decide) (by decide) dX8_child_94 (fun q hB hz => ?_)
              have zq : sK S q = 0 := hz q (Nat.le_refl q)
              have k3 : sK (nO S 1 q) q = 1 := up1_s
              have hC0 : RelC (nO S 1 q) ad σ := RelC_N hC (FrN_O Fr_rf zq)
              have kX0 : sK (nO S 1 q) (ad 8 0) = 9 := RelC_K hC0 8 (by decide) rfl
              have iX0 : sI (nO S 1 q) 808 (ad 8 0) = σ.2 0 := RelC_I hC0 8 808 rfl (by unfold cFd; omega) rfl rfl
              refine V_dup C dX8_child_97 (by first | rfl | exact isR_c (isR_q _)) ?_
              refine V_iload C dX8_child_98 rfl ?_
              refine V_aload_n C dX8_child_100 rfl (by first | exact isR_r _ | exact isR_q _ | exact isR_n) ?_
              refine V_getIe C 8 8 rfl cf_8 fl_X8_53 (by decide) (by decide) dX8_child_101 kX0 iX0 ?_
              refine V_iload_n C dX8_child_104 rfl ?_
              refine V_isub C dX8_child_105 ?_
              refine V_iload_n C dX8_child_106 rfl ?_
              refine V_iload_n C dX8_child_107 rfl ?_
              refine V_iload C dX8_child_108 rfl ?_
              refine V_iload C dX8_child_110 rfl ?_
              refine V_aload_n C dX8_child_112 rfl (by first | exact isR_r _ | exact isR_q _ | exact isR_n) ?_
              refine V_fV12 C (c_X8_leastLoadedWorker _ hl G _ ad σ hC0 hI hN) kv_X8_56 cf_8 (by decide) rfl kX0 (by decide) (by decide) rfl rfl (Nat.le_of_ble_eq_true rfl) dX8_child_113 ?_
              dsimp only [Option.toList_some, Option.toList_none, List.cons_append, List.nil_append]
              refine V_callI C (c_X0_init _ hl G _ q k3 _ _ _ _ _ _ _) ki_X8_60 (by decide) (by decide) rfl rfl (Nat.le_of_ble_eq_true rfl) dX8_child_116 ?_
              intro w1 T hT
              obtain ⟨rfl, kT, hE, ⟨i0, i1, i2, i3, i4, i5, i9, i12, r10, r11⟩, aW, aR, aF, a1, a2, a3, zW, zR, zF, z1, z2, z3, ⟨kW, lW, sW_, rW⟩, ⟨kR, rR, i503, i504, i505⟩, ⟨kF, rF, iF⟩, ⟨k1, l1, s1, r1⟩, ⟨k2, l2, s2, r2⟩, ⟨k5, l5, s5, r5⟩⟩ := hT
              dsimp only [Option.toList_some, Option.toList_none, List.cons_append, List.nil_append]
              have hF : FrN S T := FrN_E zq hE
              have kQ : sK T (ad 15 0) = 104 := (hF (ad 15 0) (by rw [kq]; decide) id).1.trans kq
              have lQ : sL T (ad 15 0) = 16 := (hF (ad 15 0) (by rw [kq]; decide) id).2.1.trans lq
              have kX : sK (pQ T (ad 15 0) n (some q)) (ad 8 0) = 9 := (hF (ad 8 0) (by rw [kx]; decide) id).1.trans kx
              refine V_aastE C 4 0 (by decide) (by decide) ⟨_, rfl, rfl⟩ kQ (by decide) kT lQ hn16 (by decide) dX8_child_119 ?_
              refine V_aload_n C dX8_child_120 rfl (by first | exact isR_r _ | exact isR_q _ | exact isR_n) ?_
              refine V_iload C dX8_child_121 rfl ?_
              refine V_iconst C (v := 1) dX8_child_123 (by decide) ?_
              refine V_iadd C dX8_child_124 ?_
              rw [nI_1]
              refine V_putI C 8 4 rfl cf_8 pl_X8_42 (by decide) (by decide) dX8_child_125 kX ?_
              refine V_iload C dX8_child_128 rfl ?_
              refine V_iret C (by first | omega | decide) (by first | omega | decide) dX8_child_130 ?_
              have zz : ∀ {x : Nat}, sK (nO S 1 q) x = 0 → sK S x = 0 := fun {x} h => by
                by_cases z : x = q
                · rw [z, k3] at h; exact absurd h (by decide)
                · exact (up1_n z).symm.trans h
              have fr2 : Fr isD S (pI (pQ T (ad 15 0) n (some q)) 804 (ad 8 0) (nI (n + 1))) := Fr_tr (Fr_N hF) (Fr_tr (Fr_Q (by rw [kQ]; exact Or.inr ⟨by decide, by decide⟩)) (Fr_I (by rw [kX]; exact Or.inl ⟨by decide, by decide⟩)))
              obtain ⟨Z1, Z34, Z19⟩ := hQ.1 n (by omega) hn16
              have live : ∀ i j x, i < 30 ∧ i ≠ 9 ∧ i ≠ 10 → cLv σ i j → sK S x = 0 → ad i j ≠ x := fun i j x hi hl hx z => RelC_k0 hC hi hl (by rw [z]; exact hx)
              obtain ⟨ad', had⟩ : ∃ ad', ad' = adC ad n q aF aR aW a1 a2 a3 := ⟨_, rfl⟩
              have d0 : ad' 0 n = q := by rw [had]; exact if_pos rfl
              have d1 : ad' 1 n = aF := by rw [had]; exact if_pos rfl
              have d5 : ad' 5 n = aR := by rw [had]; exact if_pos rfl
              have d11 : ad' 11 n = aW := by rw [had]; exact if_pos rfl
              have d12 : ad' 12 n = a1 := by rw [had]; exact if_pos rfl
              have d13 : ad' 13 n = a2 := by rw [had]; exact if_pos rfl
              have d14 : ad' 14 n = a3 := by rw [had]; exact if_pos rfl
              have dn : ∀ i j, j ≠ n → ad' i j = ad i j := fun i j h => by rw [had]; exact adC_n h
              have d15 : ad' 15 0 = ad 15 0 := by
                rw [had]; unfold adC
                split <;> rfl
              have d8 : ad' 8 0 = ad 8 0 := by
                rw [had]; unfold adC
                split <;> rfl
              have d27 : ad' 27 = ad 27 := by
                rw [had]
                funext j
                unfold adC
                split <;> rfl
              have dl : ∀ i j, i < 30 → cLv σ i j → ad' i j = ad i j := fun i j hi hl => by
                by_cases z : j = n
                · subst z
                  rw [had]; unfold adC
                  rw [if_pos rfl]
                  split <;> first | rfl | exact absurd (show j < cN σ 1 from hl) (by omega)
                · exact dn i j z
              clear had
              refine ⟨rfl, ad', ⟨d8, d27⟩, ?_, fr2⟩
              have hC1 : RelC T ad' σ := RelC_ad hI hS (RelC_N hC hF) dl
              have lv : ∀ i, (i = 0 ∨ i = 1 ∨ i = 5 ∨ (11 ≤ i ∧ i ≤ 14)) → ∀ j, j < n → cLv σ i j := fun i hi j hj => by
                rw [← hn] at hj
                rcases hi with rfl | rfl | rfl | ⟨q1, q2⟩
                · exact hj
                · exact hj
                · exact hj
                · rcases (show i = 11 ∨ i = 12 ∨ i = 13 ∨ i = 14 by omega) with rfl | rfl | rfl | rfl <;> exact hj
              have hR := RelC_child (A := σ.1) (B := σ.2) (n := n) (a := a) (b := σ.2 0) (c := b) (d := c) (e := d) (f := e) (w := mLeast σ) hC1 hn hn16 Z1 Z34 Z19 (fun i hi z => by
                  obtain ⟨h, hh, e2⟩ := hQ.2.2.2 i hi
                  rw [z] at e2
                  have := (nI_eq (by omega) (by omega)).mp e2
                  omega) (by rw [d0]; exact i0) (by rw [d0]; exact i1) (by rw [d0]; exact i2) (by rw [d0]; exact i3) (by rw [d0]; exact i4) (by rw [d0]; exact i5) (by rw [d0]; exact i9) (by rw [d0]; exact i12.trans sI_nO) (fun s _ => by rw [d1]; exact iF _) (by rw [d5]; exact i503) (by rw [d5]; exact i504) (by rw [d5]; exact i505) (by rw [d0, d11]; exact rW) (by rw [d0, d5]; exact rR) (by rw [d0, d1]; exact rF) (by rw [d0]; exact r10.trans sR_nO) (by rw [d0]; exact r11.trans sR_nO) (by rw [d5, d12]; exact r1) (by rw [d5, d13]; exact r2) (by rw [d5, d14]; exact r5) (by rw [d11]; exact sW_) (by rw [d12]; exact s1) (by rw [d13]; exact s2) (by rw [d14]; exact s5) (by rw [d11]; exact lW) (by rw [d12]; exact l1) (by rw [d13]; exact l2) (by rw [d14]; exact l5) (by rw [d0]; exact kT) (by rw [d1]; exact kF) (by rw [d5]; exact kR) (by rw [d11]; exact kW) (by rw [d12]; exact k1) (by rw [d13]; exact k2) (by rw [d14]; exact k5)
                  (fun j hj => by rw [d0, dn 0 j (by omega)]; exact live 0 j q (by decide) (lv 0 (by omega) j hj) zq) (fun j hj => by rw [d1, dn 1 j (by omega)]; exact live 1 j aF (by decide) (lv 1 (by omega) j hj) (zz zF)) (fun j hj => by rw [d5, dn 5 j (by omega)]; exact live 5 j aR (by decide) (lv 5 (by omega) j hj) (zz zR)) (fun j hj => by rw [d11, dn 11 j (by omega)]; exact live 11 j aW (by decide) (lv 11 (by omega) j hj) (zz zW)) (fun j hj => by rw [d12, dn 12 j (by omega)]; exact live 12 j a1 (by decide) (lv 12 (by omega) j hj) (zz z1)) (fun j hj => by rw [d13, dn 13 j (by omega)]; exact live 13 j a2 (by decide) (lv 13 (by omega) j hj) (zz z2)) (fun j hj => by rw [d14, dn 14 j (by omega)]; exact live 14 j a3 (by decide) (lv 14 (by omega) j hj) (zz z3))
              rw [d0, d15, d8] at hR
              exact hR
            · omega
theorem c_X8_childY (l : Launch) (hl : l.stackTraces = false) (G : gG) (S : sS) (ad : Nat → Nat → Nat) (σ : aS) (hC : RelC S ad σ) (a b c d e : Int32) (hv : ¬ ((0 ≤ a ∧ a ≤ 7000) ∧ (0 ≤ b ∧ b ≤ 15) ∧ (0 ≤ c ∧ c ≤ 7) ∧ (0 ≤ d ∧ d ≤ 50) ∧ (0 ≤ e ∧ e ≤ 3))) : CtX l G yX8_child cX8_child 7 (Option.some FieldType.int) 7 16 200 [.ref (ad 8 0), .int a, .int b, .int c, .int d, .int e] S "java/lang/IllegalArgumentException" := by
  refine Ct_of (by decide) (cat1_all (by repeat first | exact trivial | refine ⟨by first | rfl | exact isR_c (isR_q _), ?_⟩)) (Nat.le_of_ble_eq_true rfl) hl fun X C hXl hin => ?_
  subst hXl
  dsimp only [lArgs, Nat.reduceAdd]
  refine V_iload_n C dX8_child_0 rfl ?_
  refine V_iconst C (v := 0) dX8_child_1 (by decide) ?_
  refine V_sipush C (v := 7000) dX8_child_2 (by decide) ?_
  refine V_fS C (c_X8_isWithin _ hl G S _ _ _) ks_X8_34 (by decide) (by decide) rfl rfl (Nat.le_of_ble_eq_true rfl) dX8_child_5 ?_
  dsimp only [Option.toList_some, Option.toList_none, List.cons_append, List.nil_append]
  refine V_if_eq C (tgt := 56) dX8_child_8 (by decide) (fun h8 => ?_) (fun h8 => ?_)
  · refine V_iconst C (v := 0) dX8_child_56 (by decide) ?_
    refine V_xS C (c_X8_require0 _ hl G S) ks_X8_38 (by decide) (by decide) rfl rfl (Nat.le_of_ble_eq_true rfl) dX8_child_57 (by first | omega | decide) (by first | omega | decide) ?_
    exact ⟨rfl, rfl⟩
  · refine V_iload_n C dX8_child_11 rfl ?_
    refine V_iconst C (v := 0) dX8_child_12 (by decide) ?_
    refine V_bipush C (v := 15) dX8_child_13 (by decide) ?_
    refine V_fS C (c_X8_isWithin _ hl G S _ _ _) ks_X8_34 (by decide) (by decide) rfl rfl (Nat.le_of_ble_eq_true rfl) dX8_child_15 ?_
    dsimp only [Option.toList_some, Option.toList_none, List.cons_append, List.nil_append]
    refine V_if_eq C (tgt := 56) dX8_child_18 (by decide) (fun h18 => ?_) (fun h18 => ?_)
    · refine V_iconst C (v := 0) dX8_child_56 (by decide) ?_
      refine V_xS C (c_X8_require0 _ hl G S) ks_X8_38 (by decide) (by decide) rfl rfl (Nat.le_of_ble_eq_true rfl) dX8_child_57 (by first | omega | decide) (by first | omega | decide) ?_
      exact ⟨rfl, rfl⟩
    · refine V_iload_n C dX8_child_21 rfl ?_
      refine V_iconst C (v := 0) dX8_child_22 (by decide) ?_
      refine V_bipush C (v := 7) dX8_child_23 (by decide) ?_
      refine V_fS C (c_X8_isWithin _ hl G S _ _ _) ks_X8_34 (by decide) (by decide) rfl rfl (Nat.le_of_ble_eq_true rfl) dX8_child_25 ?_
      dsimp only [Option.toList_some, Option.toList_none, List.cons_append, List.nil_append]
      refine V_if_eq C (tgt := 56) dX8_child_28 (by decide) (fun h28 => ?_) (fun h28 => ?_)
      · refine V_iconst C (v := 0) dX8_child_56 (by decide) ?_
        refine V_xS C (c_X8_require0 _ hl G S) ks_X8_38 (by decide) (by decide) rfl rfl (Nat.le_of_ble_eq_true rfl) dX8_child_57 (by first | omega | decide) (by first | omega | decide) ?_
        exact ⟨rfl, rfl⟩
      · refine V_iload C dX8_child_31 rfl ?_
        refine V_iconst C (v := 0) dX8_child_33 (by decide) ?_
        refine V_bipush C (v := 50) dX8_child_34 (by decide) ?_
        refine V_fS C (c_X8_isWithin _ hl G S _ _ _) ks_X8_34 (by decide) (by decide) rfl rfl (Nat.le_of_ble_eq_true rfl) dX8_child_36 ?_
        dsimp only [Option.toList_some, Option.toList_none, List.cons_append, List.nil_append]
        refine V_if_eq C (tgt := 56) dX8_child_39 (by decide) (fun h39 => ?_) (fun h39 => ?_)
        · refine V_iconst C (v := 0) dX8_child_56 (by decide) ?_
          refine V_xS C (c_X8_require0 _ hl G S) ks_X8_38 (by decide) (by decide) rfl rfl (Nat.le_of_ble_eq_true rfl) dX8_child_57 (by first | omega | decide) (by first | omega | decide) ?_
          exact ⟨rfl, rfl⟩
        · refine V_iload C dX8_child_42 rfl ?_
          refine V_iconst C (v := 0) dX8_child_44 (by decide) ?_
          refine V_iconst C (v := 3) dX8_child_45 (by decide) ?_
          refine V_fS C (c_X8_isWithin _ hl G S _ _ _) ks_X8_34 (by decide) (by decide) rfl rfl (Nat.le_of_ble_eq_true rfl) dX8_child_46 ?_
          dsimp only [Option.toList_some, Option.toList_none, List.cons_append, List.nil_append]
          refine V_if_eq C (tgt := 56) dX8_child_49 (by decide) (fun h49 => ?_) (fun h49 => ?_)
          · refine V_iconst C (v := 0) dX8_child_56 (by decide) ?_
            refine V_xS C (c_X8_require0 _ hl G S) ks_X8_38 (by decide) (by decide) rfl rfl (Nat.le_of_ble_eq_true rfl) dX8_child_57 (by first | omega | decide) (by first | omega | decide) ?_
            exact ⟨rfl, rfl⟩
          · exact absurd ⟨bI_ne.mp h8, bI_ne.mp h18, bI_ne.mp h28, bI_ne.mp h39, bI_ne.mp h49⟩ hv
theorem c_X8_childZ (l : Launch) (hl : l.stackTraces = false) (G : gG) (S : sS) (ad : Nat → Nat → Nat) (σ : aS) (hC : RelC S ad σ) (a b c d e : Int32) (hv : (0 ≤ a ∧ a ≤ 7000) ∧ (0 ≤ b ∧ b ≤ 15) ∧ (0 ≤ c ∧ c ≤ 7) ∧ (0 ≤ d ∧ d ≤ 50) ∧ (0 ≤ e ∧ e ≤ 3)) (hn : ¬ σ.2 1 < 16) : CtX l G yX8_child cX8_child 7 (Option.some FieldType.int) 7 16 200 [.ref (ad 8 0), .int a, .int b, .int c, .int d, .int e] S "java/lang/IllegalStateException" := by
  refine Ct_of (by decide) (cat1_all (by repeat first | exact trivial | refine ⟨by first | rfl | exact isR_c (isR_q _), ?_⟩)) (Nat.le_of_ble_eq_true rfl) hl fun X C hXl hin => ?_
  subst hXl
  dsimp only [lArgs, Nat.reduceAdd]
  have kx : sK S (ad 8 0) = 9 := RelC_K hC 8 (by decide) rfl
  have rx_800 : sR S 800 (ad 8 0) = some (ad 15 0) := RelC_R hC 8 800 rfl (by unfold cFd; omega) rfl rfl
  have ix_804 : sI S 804 (ad 8 0) = σ.2 1 := RelC_I hC 8 804 rfl (by unfold cFd; omega) rfl rfl
  have kq : sK S (ad 15 0) = 104 := hC.1 15 0 (by decide) (by decide) (by decide) rfl
  have lq : sL S (ad 15 0) = 16 := hC.2.2.2.2.1 15 0 (by decide) (by decide) rfl
  refine V_iload_n C dX8_child_0 rfl ?_
  refine V_iconst C (v := 0) dX8_child_1 (by decide) ?_
  refine V_sipush C (v := 7000) dX8_child_2 (by decide) ?_
  refine V_fS C (c_X8_isWithin _ hl G S _ _ _) ks_X8_34 (by decide) (by decide) rfl rfl (Nat.le_of_ble_eq_true rfl) dX8_child_5 ?_
  dsimp only [Option.toList_some, Option.toList_none, List.cons_append, List.nil_append]
  rw [bI_t hv.1]
  refine V_if_eq C (tgt := 56) dX8_child_8 (by decide) (fun h8 => ?_) (fun h8 => ?_)
  · exact absurd h8 (by decide)
  · refine V_iload_n C dX8_child_11 rfl ?_
    refine V_iconst C (v := 0) dX8_child_12 (by decide) ?_
    refine V_bipush C (v := 15) dX8_child_13 (by decide) ?_
    refine V_fS C (c_X8_isWithin _ hl G S _ _ _) ks_X8_34 (by decide) (by decide) rfl rfl (Nat.le_of_ble_eq_true rfl) dX8_child_15 ?_
    dsimp only [Option.toList_some, Option.toList_none, List.cons_append, List.nil_append]
    rw [bI_t hv.2.1]
    refine V_if_eq C (tgt := 56) dX8_child_18 (by decide) (fun h18 => ?_) (fun h18 => ?_)
    · exact absurd h18 (by decide)
    · refine V_iload_n C dX8_child_21 rfl ?_
      refine V_iconst C (v := 0) dX8_child_22 (by decide) ?_
      refine V_bipush C (v := 7) dX8_child_23 (by decide) ?_
      refine V_fS C (c_X8_isWithin _ hl G S _ _ _) ks_X8_34 (by decide) (by decide) rfl rfl (Nat.le_of_ble_eq_true rfl) dX8_child_25 ?_
      dsimp only [Option.toList_some, Option.toList_none, List.cons_append, List.nil_append]
      rw [bI_t hv.2.2.1]
      refine V_if_eq C (tgt := 56) dX8_child_28 (by decide) (fun h28 => ?_) (fun h28 => ?_)
      · exact absurd h28 (by decide)
      · refine V_iload C dX8_child_31 rfl ?_
        refine V_iconst C (v := 0) dX8_child_33 (by decide) ?_
        refine V_bipush C (v := 50) dX8_child_34 (by decide) ?_
        refine V_fS C (c_X8_isWithin _ hl G S _ _ _) ks_X8_34 (by decide) (by decide) rfl rfl (Nat.le_of_ble_eq_true rfl) dX8_child_36 ?_
        dsimp only [Option.toList_some, Option.toList_none, List.cons_append, List.nil_append]
        rw [bI_t hv.2.2.2.1]
        refine V_if_eq C (tgt := 56) dX8_child_39 (by decide) (fun h39 => ?_) (fun h39 => ?_)
        · exact absurd h39 (by decide)
        · refine V_iload C dX8_child_42 rfl ?_
          refine V_iconst C (v := 0) dX8_child_44 (by decide) ?_
          refine V_iconst C (v := 3) dX8_child_45 (by decide) ?_
          refine V_fS C (c_X8_isWithin _ hl G S _ _ _) ks_X8_34 (by decide) (by decide) rfl rfl (Nat.le_of_ble_eq_true rfl) dX8_child_46 ?_
          dsimp only [Option.toList_some, Option.toList_none, List.cons_append, List.nil_append]
          rw [bI_t hv.2.2.2.2]
          refine V_if_eq C (tgt := 56) dX8_child_49 (by decide) (fun h49 => ?_) (fun h49 => ?_)
          · exact absurd h49 (by decide)
          · refine V_iconst C (v := 1) dX8_child_52 (by decide) ?_
            refine V_goto C (tgt := 57) dX8_child_53 (by decide) ?_
            refine V_fS C (c_X8_require1 _ hl G S) ks_X8_38 (by decide) (by decide) rfl rfl (Nat.le_of_ble_eq_true rfl) dX8_child_57 ?_
            dsimp only [Option.toList_some, Option.toList_none, List.cons_append, List.nil_append]
            refine V_aload_n C dX8_child_60 rfl (by first | exact isR_r _ | exact isR_q _ | exact isR_n) ?_
            refine V_getIe C 8 4 rfl cf_8 fl_X8_42 (by decide) (by decide) dX8_child_61 kx ix_804 ?_
            refine V_aload_n C dX8_child_64 rfl (by first | exact isR_r _ | exact isR_q _ | exact isR_n) ?_
            refine V_getS C 8 0 rfl cf_8 fl_X8_11 (by decide) (by decide) dX8_child_65 kx rx_800 ?_
            refine V_alen C (v := nI 16) kq (by decide) (by rw [lq]; rfl) dX8_child_68 ?_
            refine V_icmp_lt C (tgt := 82) dX8_child_69 (by decide) (fun h69 => ?_) (fun h69 => ?_)
            · exact absurd h69 hn
            · refine V_throwS C tw_X8_46_48_50 dX8_child_72 dX8_child_75 dX8_child_76 dX8_child_78 dX8_child_81 (by decide) (by first | omega | decide) (by first | omega | decide) ?_
              exact ⟨rfl, rfl⟩

