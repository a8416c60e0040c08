/-! THE LAW: its branches. -/
section VL9
variable {X : xX} {G : gG} {tb : List ExceptionTableEntry} {Q : State → Prop} {k n b m c : Nat} {i : Int32} {S : sS} {ad : Nat → Nat → Nat} {σ : aS}
theorem lb_see {y : Nat → Int32} (C : Cx X G RL cL_law 7 (some .boolean) room_1 tb) (hl : X.2.1.stackTraces = false) (hs : SC X G b i y) (hk : k + 40 ≤ 601024 ∧ n + 400 ≤ 7293034) (hW : LW S m c ad σ) (hn : cN σ 27 < 512) (kk : ∀ T ad' σ', LW T m c ad' σ' → ad' 8 0 = ad 8 0 → cN σ' 27 ≤ cN σ 27 + 1 → V X G 7 Q (k + 40) (n + 400) 2121 [(4, false, .int i), (3, false, .ref c), (2, false, .ref m), (1, false, .ref (ad 8 0)), (0, false, .ref b)] [] T) : V X G 7 Q k n 628 [(4, false, .int i), (3, false, .ref c), (2, false, .ref m), (1, false, .ref (ad 8 0)), (0, false, .ref b)] [] S := by
  obtain ⟨hR, hC, hG, hI, hc⟩ := hW
  have hN : NX σ (oSee σ (y 1)).2 (tC σ (y 1)) := NX_See (σ := σ) hI
  refine V_aload_n C dL_law_628 rfl (isR_r _) ?_
  refine V_arg C hs 1 1 (by decide) dL_law_629 dL_law_630 dL_law_632 dL_law_633 dL_law_634 ?_
  refine V_aload_n C dL_law_635 rfl (isR_r _) ?_
  refine V_callH C (h_see X.2.1 hl G S ad σ hC hG hI c hc (y 1) (a01_see σ _)) kh_L_145 ⟨by decide, by decide⟩ ⟨Nat.le_trans (Nat.add_le_add_left (by decide) _) hk.1, Nat.le_trans (Nat.add_le_add_left (by decide) _) hk.2⟩ rfl rfl (Nat.le_of_ble_eq_true rfl) dL_law_636 (fun v T hT => ?_)
  obtain ⟨rfl, hL, hcT, hJ⟩ := hT
  refine V_widen (k' := k + 40) (n' := n + 400) (Nat.add_le_add_left (by decide) _) (Nat.add_le_add_left (by decide) _) ?_
  dsimp only [Option.toList_some, Option.toList_none, List.cons_append, List.nil_append]
  have hRT : RelR T m σ := RelR_LH hR hL
  refine V_istore C dL_law_639 (by decide) rfl ?_
  refine V_aload_n C dL_law_641 rfl (isR_r _) ?_
  refine V_arg C hs 1 1 (by decide) dL_law_642 dL_law_643 dL_law_645 dL_law_646 dL_law_647 ?_
  refine V_callV C (c_X9_see X.2.1 hl G T m σ hRT hI.1 (y 1)) kv_L_148 cf_9 (by decide) rfl hRT.1 ⟨by decide, by decide⟩ ⟨hk.1, hk.2⟩ rfl rfl (Nat.le_of_ble_eq_true rfl) dL_law_648 (fun w U hU => ?_) (fun _ _ z => z.elim)
  obtain ⟨rfl, hRU, hFU⟩ := hU
  dsimp only [Option.toList_some, Option.toList_none, List.cons_append, List.nil_append]
  refine V_istore C dL_law_651 (by decide) rfl ?_
  refine V_aload_n C dL_law_653 rfl (isR_r _) ?_
  refine V_callV C (c_X9_thrown X.2.1 hl G U m (oSee σ (y 1)).2 hRU) kv_L_123 cf_9 (by decide) rfl hRU.1 ⟨by decide, by decide⟩ ⟨hk.1, hk.2⟩ rfl rfl (Nat.le_of_ble_eq_true rfl) dL_law_654 (fun w W9 hW9 => ?_) (fun _ _ z => z.elim)
  obtain ⟨rfl, hRW, hFW⟩ := hW9
  dsimp only [Option.toList_some, Option.toList_none, List.cons_append, List.nil_append]
  refine V_iload C dL_law_657 rfl ?_
  refine V_icmp_eq C (tgt := 664) dL_law_659 (by decide) (fun _ => ?_) (fun z => absurd hN.2 z)
  have hF := Fr_tr hFU hFW
  have fin : ∀ lo9, lsub [(4, false, .int i), (3, false, .ref c), (2, false, .ref m), (1, false, .ref (ad 8 0)), (0, false, .ref b)] lo9 → V X G 7 Q (k + 40) (n + 400) 2121 lo9 [] W9 := fun lo9 h9 => V_sub h9 (lb_fin hL hcT hF ⟨hRW.1, hRW.2⟩ hN.1 kk)
  refine V_iload C dL_law_664 rfl ?_
  refine V_if_ne C (tgt := 688) dL_law_666 (by decide) (fun _ => ?_) (fun h0 => ?_)
  · exact V_goto C (tgt := 2121) dL_law_688 (by decide) (fin _ (by repeat first | exact trivial | refine ⟨rfl, ?_⟩))
  · refine V_aload_n C dL_law_669 rfl (isR_r _) ?_
    refine V_iconst C (v := 0) dL_law_670 (by decide) ?_
    obtain ⟨w1, w2, w3⟩ := row_M hcT hF
    refine V_lald C w1 (by decide) (by rw [w2]; exact (show ¬ ((0 : Int32) < 0 ∨ 1 ≤ Int32.toNatClampNeg 0) by decide)) dL_law_671 ?_
    rw [show sJ W9 c (Int32.toNatClampNeg 0) = (oSee σ (y 1)).1.toInt64 from (w3 0).trans (hJ h0)]
    refine V_iload C dL_law_672 rfl ?_
    refine V_if_eq C (tgt := 681) dL_law_674 (by decide) (fun h9 => ?_) (fun h9 => ?_)
    · refine V_lconst C (v := 0) dL_law_681 (by decide) ?_
      rw [h9]
      refine V_lcmp C dL_law_682 ?_
      refine V_if_eq C (tgt := 688) dL_law_683 (by decide) (fun _ => ?_) (fun z => absurd (lc_self _) z)
      exact V_goto C (tgt := 2121) dL_law_688 (by decide) (fin _ (by repeat first | exact trivial | refine ⟨rfl, ?_⟩))
    · refine V_lconst C (v := 1) dL_law_677 (by decide) ?_
      refine V_goto C (tgt := 682) dL_law_678 (by decide) ?_
      rw [(a01_see σ (y 1)).resolve_left h9]
      refine V_lcmp C dL_law_682 ?_
      refine V_if_eq C (tgt := 688) dL_law_683 (by decide) (fun _ => ?_) (fun z => absurd (lc_self _) z)
      exact V_goto C (tgt := 2121) dL_law_688 (by decide) (fin _ (by repeat first | exact trivial | refine ⟨rfl, ?_⟩))
theorem lb_risk {y : Nat → Int32} (C : Cx X G RL cL_law 7 (some .boolean) room_1 tb) (hl : X.2.1.stackTraces = false) (hs : SC X G b i y) (hk : k + 40 ≤ 601024 ∧ n + 400 ≤ 7293034) (hW : LW S m c ad σ) (hn : cN σ 27 < 512) (kk : ∀ T ad' σ', LW T m c ad' σ' → ad' 8 0 = ad 8 0 → cN σ' 27 ≤ cN σ 27 + 1 → V X G 7 Q (k + 40) (n + 400) 2121 [(4, false, .int i), (3, false, .ref c), (2, false, .ref m), (1, false, .ref (ad 8 0)), (0, false, .ref b)] [] T) : V X G 7 Q k n 691 [(4, false, .int i), (3, false, .ref c), (2, false, .ref m), (1, false, .ref (ad 8 0)), (0, false, .ref b)] [] S := by
  obtain ⟨hR, hC, hG, hI, hc⟩ := hW
  have hN : NX σ (oRisk σ (y 1)).2 (tC σ (y 1)) := NX_Risk (σ := σ) hI
  refine V_aload_n C dL_law_691 rfl (isR_r _) ?_
  refine V_arg C hs 1 1 (by decide) dL_law_692 dL_law_693 dL_law_695 dL_law_696 dL_law_697 ?_
  refine V_aload_n C dL_law_698 rfl (isR_r _) ?_
  refine V_callH C (h_risk X.2.1 hl G S ad σ hC hG hI c hc (y 1)) kh_L_149 ⟨by decide, by decide⟩ ⟨Nat.le_trans (Nat.add_le_add_left (by decide) _) hk.1, Nat.le_trans (Nat.add_le_add_left (by decide) _) hk.2⟩ rfl rfl (Nat.le_of_ble_eq_true rfl) dL_law_699 (fun v T hT => ?_)
  obtain ⟨rfl, hL, hcT, hJ⟩ := hT
  refine V_widen (k' := k + 40) (n' := n + 400) (Nat.add_le_add_left (by decide) _) (Nat.add_le_add_left (by decide) _) ?_
  dsimp only [Option.toList_some, Option.toList_none, List.cons_append, List.nil_append]
  have hRT : RelR T m σ := RelR_LH hR hL
  refine V_istore C dL_law_702 (by decide) rfl ?_
  refine V_aload_n C dL_law_704 rfl (isR_r _) ?_
  refine V_arg C hs 1 1 (by decide) dL_law_705 dL_law_706 dL_law_708 dL_law_709 dL_law_710 ?_
  refine V_callV C (c_X9_risk X.2.1 hl G T m σ hRT hI.1 (y 1)) kv_L_151 cf_9 (by decide) rfl hRT.1 ⟨by decide, by decide⟩ ⟨hk.1, hk.2⟩ rfl rfl (Nat.le_of_ble_eq_true rfl) dL_law_711 (fun w U hU => ?_) (fun _ _ z => z.elim)
  obtain ⟨rfl, hRU, hFU⟩ := hU
  dsimp only [Option.toList_some, Option.toList_none, List.cons_append, List.nil_append]
  refine V_istore C dL_law_714 (by decide) rfl ?_
  refine V_aload_n C dL_law_716 rfl (isR_r _) ?_
  refine V_callV C (c_X9_thrown X.2.1 hl G U m (oRisk σ (y 1)).2 hRU) kv_L_123 cf_9 (by decide) rfl hRU.1 ⟨by decide, by decide⟩ ⟨hk.1, hk.2⟩ rfl rfl (Nat.le_of_ble_eq_true rfl) dL_law_717 (fun w W9 hW9 => ?_) (fun _ _ z => z.elim)
  obtain ⟨rfl, hRW, hFW⟩ := hW9
  dsimp only [Option.toList_some, Option.toList_none, List.cons_append, List.nil_append]
  refine V_iload C dL_law_720 rfl ?_
  refine V_icmp_eq C (tgt := 727) dL_law_722 (by decide) (fun _ => ?_) (fun z => absurd hN.2 z)
  have hF := Fr_tr hFU hFW
  have fin : ∀ lo9, lsub [(4, false, .int i), (3, false, .ref c), (2, false, .ref m), (1, false, .ref (ad 8 0)), (0, false, .ref b)] lo9 → V X G 7 Q (k + 40) (n + 400) 2121 lo9 [] W9 := fun lo9 h9 => V_sub h9 (lb_fin hL hcT hF ⟨hRW.1, hRW.2⟩ hN.1 kk)
  refine V_iload C dL_law_727 rfl ?_
  refine V_if_ne C (tgt := 744) dL_law_729 (by decide) (fun _ => ?_) (fun h0 => ?_)
  · exact V_goto C (tgt := 2121) dL_law_744 (by decide) (fin _ (by repeat first | exact trivial | refine ⟨rfl, ?_⟩))
  · refine V_aload_n C dL_law_732 rfl (isR_r _) ?_
    refine V_iconst C (v := 0) dL_law_733 (by decide) ?_
    obtain ⟨w1, w2, w3⟩ := row_M hcT hF
    refine V_lald C w1 (by decide) (by rw [w2]; exact (show ¬ ((0 : Int32) < 0 ∨ 1 ≤ Int32.toNatClampNeg 0) by decide)) dL_law_734 ?_
    rw [show sJ W9 c (Int32.toNatClampNeg 0) = (oRisk σ (y 1)).1.toInt64 from (w3 0).trans (hJ h0)]
    refine V_iload C dL_law_735 rfl ?_
    refine V_i2l C dL_law_737 ?_
    refine V_lcmp C dL_law_738 ?_
    refine V_if_eq C (tgt := 744) dL_law_739 (by decide) (fun _ => ?_) (fun z => absurd (lc_self _) z)
    exact V_goto C (tgt := 2121) dL_law_744 (by decide) (fin _ (by repeat first | exact trivial | refine ⟨rfl, ?_⟩))
theorem lb_seeBy {y : Nat → Int32} (C : Cx X G RL cL_law 7 (some .boolean) room_1 tb) (hl : X.2.1.stackTraces = false) (hs : SC X G b i y) (hk : k + 40 ≤ 601024 ∧ n + 400 ≤ 7293034) (hW : LW S m c ad σ) (hn : cN σ 27 < 512) (kk : ∀ T ad' σ', LW T m c ad' σ' → ad' 8 0 = ad 8 0 → cN σ' 27 ≤ cN σ 27 + 1 → V X G 7 Q (k + 40) (n + 400) 2121 [(4, false, .int i), (3, false, .ref c), (2, false, .ref m), (1, false, .ref (ad 8 0)), (0, false, .ref b)] [] T) : V X G 7 Q k n 747 [(4, false, .int i), (3, false, .ref c), (2, false, .ref m), (1, false, .ref (ad 8 0)), (0, false, .ref b)] [] S := by
  obtain ⟨hR, hC, hG, hI, hc⟩ := hW
  have hN : NX σ (oSeeBy σ (y 1)).2 (tC σ (y 1)) := NX_SeeBy (σ := σ) hI
  refine V_aload_n C dL_law_747 rfl (isR_r _) ?_
  refine V_arg C hs 1 1 (by decide) dL_law_748 dL_law_749 dL_law_751 dL_law_752 dL_law_753 ?_
  refine V_aload_n C dL_law_754 rfl (isR_r _) ?_
  refine V_callH C (h_seeBy X.2.1 hl G S ad σ hC hG hI c hc (y 1)) kh_L_152 ⟨by decide, by decide⟩ ⟨Nat.le_trans (Nat.add_le_add_left (by decide) _) hk.1, Nat.le_trans (Nat.add_le_add_left (by decide) _) hk.2⟩ rfl rfl (Nat.le_of_ble_eq_true rfl) dL_law_755 (fun v T hT => ?_)
  obtain ⟨rfl, hL, hcT, hJ⟩ := hT
  refine V_widen (k' := k + 40) (n' := n + 400) (Nat.add_le_add_left (by decide) _) (Nat.add_le_add_left (by decide) _) ?_
  dsimp only [Option.toList_some, Option.toList_none, List.cons_append, List.nil_append]
  have hRT : RelR T m σ := RelR_LH hR hL
  refine V_istore C dL_law_758 (by decide) rfl ?_
  refine V_aload_n C dL_law_760 rfl (isR_r _) ?_
  refine V_arg C hs 1 1 (by decide) dL_law_761 dL_law_762 dL_law_764 dL_law_765 dL_law_766 ?_
  refine V_callV C (c_X9_seeBy X.2.1 hl G T m σ hRT hI.1 (y 1)) kv_L_154 cf_9 (by decide) rfl hRT.1 ⟨by decide, by decide⟩ ⟨hk.1, hk.2⟩ rfl rfl (Nat.le_of_ble_eq_true rfl) dL_law_767 (fun w U hU => ?_) (fun _ _ z => z.elim)
  obtain ⟨rfl, hRU, hFU⟩ := hU
  dsimp only [Option.toList_some, Option.toList_none, List.cons_append, List.nil_append]
  refine V_istore C dL_law_770 (by decide) rfl ?_
  refine V_aload_n C dL_law_772 rfl (isR_r _) ?_
  refine V_callV C (c_X9_thrown X.2.1 hl G U m (oSeeBy σ (y 1)).2 hRU) kv_L_123 cf_9 (by decide) rfl hRU.1 ⟨by decide, by decide⟩ ⟨hk.1, hk.2⟩ rfl rfl (Nat.le_of_ble_eq_true rfl) dL_law_773 (fun w W9 hW9 => ?_) (fun _ _ z => z.elim)
  obtain ⟨rfl, hRW, hFW⟩ := hW9
  dsimp only [Option.toList_some, Option.toList_none, List.cons_append, List.nil_append]
  refine V_iload C dL_law_776 rfl ?_
  refine V_icmp_eq C (tgt := 783) dL_law_778 (by decide) (fun _ => ?_) (fun z => absurd hN.2 z)
  have hF := Fr_tr hFU hFW
  have fin : ∀ lo9, lsub [(4, false, .int i), (3, false, .ref c), (2, false, .ref m), (1, false, .ref (ad 8 0)), (0, false, .ref b)] lo9 → V X G 7 Q (k + 40) (n + 400) 2121 lo9 [] W9 := fun lo9 h9 => V_sub h9 (lb_fin hL hcT hF ⟨hRW.1, hRW.2⟩ hN.1 kk)
  refine V_iload C dL_law_783 rfl ?_
  refine V_if_ne C (tgt := 800) dL_law_785 (by decide) (fun _ => ?_) (fun h0 => ?_)
  · exact V_goto C (tgt := 2121) dL_law_800 (by decide) (fin _ (by repeat first | exact trivial | refine ⟨rfl, ?_⟩))
  · refine V_aload_n C dL_law_788 rfl (isR_r _) ?_
    refine V_iconst C (v := 0) dL_law_789 (by decide) ?_
    obtain ⟨w1, w2, w3⟩ := row_M hcT hF
    refine V_lald C w1 (by decide) (by rw [w2]; exact (show ¬ ((0 : Int32) < 0 ∨ 1 ≤ Int32.toNatClampNeg 0) by decide)) dL_law_790 ?_
    rw [show sJ W9 c (Int32.toNatClampNeg 0) = (oSeeBy σ (y 1)).1.toInt64 from (w3 0).trans (hJ h0)]
    refine V_iload C dL_law_791 rfl ?_
    refine V_i2l C dL_law_793 ?_
    refine V_lcmp C dL_law_794 ?_
    refine V_if_eq C (tgt := 800) dL_law_795 (by decide) (fun _ => ?_) (fun z => absurd (lc_self _) z)
    exact V_goto C (tgt := 2121) dL_law_800 (by decide) (fin _ (by repeat first | exact trivial | refine ⟨rfl, ?_⟩))
theorem lb_order {y : Nat → Int32} (C : Cx X G RL cL_law 7 (some .boolean) room_1 tb) (hl : X.2.1.stackTraces = false) (hs : SC X G b i y) (hk : k + 40 ≤ 601024 ∧ n + 400 ≤ 7293034) (hW : LW S m c ad σ) (hn : cN σ 27 < 512) (kk : ∀ T ad' σ', LW T m c ad' σ' → ad' 8 0 = ad 8 0 → cN σ' 27 ≤ cN σ 27 + 1 → V X G 7 Q (k + 40) (n + 400) 2121 [(4, false, .int i), (3, false, .ref c), (2, false, .ref m), (1, false, .ref (ad 8 0)), (0, false, .ref b)] [] T) : V X G 7 Q k n 803 [(4, false, .int i), (3, false, .ref c), (2, false, .ref m), (1, false, .ref (ad 8 0)), (0, false, .ref b)] [] S := by
  obtain ⟨hR, hC, hG, hI, hc⟩ := hW
  have hN : NX σ (oOrder σ (y 1) (y 2) (y 3) (y 4)).2 (tOrder σ (y 1) (y 2) (y 3) (y 4)) := NX_Order (σ := σ) hI
  refine V_aload_n C dL_law_803 rfl (isR_r _) ?_
  refine V_arg C hs 1 1 (by decide) dL_law_804 dL_law_805 dL_law_807 dL_law_808 dL_law_809 ?_
  refine V_arg C hs 2 2 (by decide) dL_law_810 dL_law_811 dL_law_813 dL_law_814 dL_law_815 ?_
  refine V_arg C hs 3 3 (by decide) dL_law_816 dL_law_817 dL_law_819 dL_law_820 dL_law_821 ?_
  refine V_arg C hs 4 4 (by decide) dL_law_822 dL_law_823 dL_law_825 dL_law_826 dL_law_827 ?_
  refine V_aload_n C dL_law_828 rfl (isR_r _) ?_
  refine V_callH C (h_order X.2.1 hl G S ad σ hC hG hI c hc (y 1) (y 2) (y 3) (y 4)) kh_L_155 ⟨by decide, by decide⟩ ⟨Nat.le_trans (Nat.add_le_add_left (by decide) _) hk.1, Nat.le_trans (Nat.add_le_add_left (by decide) _) hk.2⟩ rfl rfl (Nat.le_of_ble_eq_true rfl) dL_law_829 (fun v T hT => ?_)
  obtain ⟨rfl, hL, hcT, hJ⟩ := hT
  refine V_widen (k' := k + 40) (n' := n + 400) (Nat.add_le_add_left (by decide) _) (Nat.add_le_add_left (by decide) _) ?_
  dsimp only [Option.toList_some, Option.toList_none, List.cons_append, List.nil_append]
  have hRT : RelR T m σ := RelR_LH hR hL
  refine V_istore C dL_law_832 (by decide) rfl ?_
  refine V_aload_n C dL_law_834 rfl (isR_r _) ?_
  refine V_arg C hs 1 1 (by decide) dL_law_835 dL_law_836 dL_law_838 dL_law_839 dL_law_840 ?_
  refine V_arg C hs 2 2 (by decide) dL_law_841 dL_law_842 dL_law_844 dL_law_845 dL_law_846 ?_
  refine V_arg C hs 3 3 (by decide) dL_law_847 dL_law_848 dL_law_850 dL_law_851 dL_law_852 ?_
  refine V_arg C hs 4 4 (by decide) dL_law_853 dL_law_854 dL_law_856 dL_law_857 dL_law_858 ?_
  refine V_callV C (c_X9_order X.2.1 hl G T m σ hRT hI.1 (y 1) (y 2) (y 3) (y 4)) kv_L_158 cf_9 (by decide) rfl hRT.1 ⟨by decide, by decide⟩ ⟨hk.1, hk.2⟩ rfl rfl (Nat.le_of_ble_eq_true rfl) dL_law_859 (fun w U hU => ?_) (fun _ _ z => z.elim)
  obtain ⟨rfl, hRU, hFU⟩ := hU
  dsimp only [Option.toList_some, Option.toList_none, List.cons_append, List.nil_append]
  refine V_istore C dL_law_862 (by decide) rfl ?_
  refine V_aload_n C dL_law_864 rfl (isR_r _) ?_
  refine V_callV C (c_X9_thrown X.2.1 hl G U m (oOrder σ (y 1) (y 2) (y 3) (y 4)).2 hRU) kv_L_123 cf_9 (by decide) rfl hRU.1 ⟨by decide, by decide⟩ ⟨hk.1, hk.2⟩ rfl rfl (Nat.le_of_ble_eq_true rfl) dL_law_865 (fun w W9 hW9 => ?_) (fun _ _ z => z.elim)
  obtain ⟨rfl, hRW, hFW⟩ := hW9
  dsimp only [Option.toList_some, Option.toList_none, List.cons_append, List.nil_append]
  refine V_iload C dL_law_868 rfl ?_
  refine V_icmp_eq C (tgt := 875) dL_law_870 (by decide) (fun _ => ?_) (fun z => absurd hN.2 z)
  have hF := Fr_tr hFU hFW
  have fin : ∀ lo9, lsub [(4, false, .int i), (3, false, .ref c), (2, false, .ref m), (1, false, .ref (ad 8 0)), (0, false, .ref b)] lo9 → V X G 7 Q (k + 40) (n + 400) 2121 lo9 [] W9 := fun lo9 h9 => V_sub h9 (lb_fin hL hcT hF ⟨hRW.1, hRW.2⟩ hN.1 kk)
  refine V_iload C dL_law_875 rfl ?_
  refine V_if_ne C (tgt := 892) dL_law_877 (by decide) (fun _ => ?_) (fun h0 => ?_)
  · exact V_goto C (tgt := 2121) dL_law_892 (by decide) (fin _ (by repeat first | exact trivial | refine ⟨rfl, ?_⟩))
  · refine V_aload_n C dL_law_880 rfl (isR_r _) ?_
    refine V_iconst C (v := 0) dL_law_881 (by decide) ?_
    obtain ⟨w1, w2, w3⟩ := row_M hcT hF
    refine V_lald C w1 (by decide) (by rw [w2]; exact (show ¬ ((0 : Int32) < 0 ∨ 1 ≤ Int32.toNatClampNeg 0) by decide)) dL_law_882 ?_
    rw [show sJ W9 c (Int32.toNatClampNeg 0) = (oOrder σ (y 1) (y 2) (y 3) (y 4)).1.toInt64 from (w3 0).trans (hJ h0)]
    refine V_iload C dL_law_883 rfl ?_
    refine V_i2l C dL_law_885 ?_
    refine V_lcmp C dL_law_886 ?_
    refine V_if_eq C (tgt := 892) dL_law_887 (by decide) (fun _ => ?_) (fun z => absurd (lc_self _) z)
    exact V_goto C (tgt := 2121) dL_law_892 (by decide) (fin _ (by repeat first | exact trivial | refine ⟨rfl, ?_⟩))
theorem lb_counts {y : Nat → Int32} (C : Cx X G RL cL_law 7 (some .boolean) room_1 tb) (hl : X.2.1.stackTraces = false) (hs : SC X G b i y) (hk : k + 40 ≤ 601024 ∧ n + 400 ≤ 7293034) (hW : LW S m c ad σ) (hn : cN σ 27 < 512) (kk : ∀ T ad' σ', LW T m c ad' σ' → ad' 8 0 = ad 8 0 → cN σ' 27 ≤ cN σ 27 + 1 → V X G 7 Q (k + 40) (n + 400) 2121 [(4, false, .int i), (3, false, .ref c), (2, false, .ref m), (1, false, .ref (ad 8 0)), (0, false, .ref b)] [] T) : V X G 7 Q k n 895 [(4, false, .int i), (3, false, .ref c), (2, false, .ref m), (1, false, .ref (ad 8 0)), (0, false, .ref b)] [] S := by
  obtain ⟨hR, hC, hG, hI, hc⟩ := hW
  have hN : NX σ (oCounts σ (y 1) (y 2)).2 (tCounts σ (y 1) (y 2)) := NX_Counts (σ := σ) hI
  refine V_aload_n C dL_law_895 rfl (isR_r _) ?_
  refine V_arg C hs 1 1 (by decide) dL_law_896 dL_law_897 dL_law_899 dL_law_900 dL_law_901 ?_
  refine V_arg C hs 2 2 (by decide) dL_law_902 dL_law_903 dL_law_905 dL_law_906 dL_law_907 ?_
  refine V_aload_n C dL_law_908 rfl (isR_r _) ?_
  refine V_callH C (h_counts X.2.1 hl G S ad σ hC hG hI c hc (y 1) (y 2)) kh_L_159 ⟨by decide, by decide⟩ ⟨Nat.le_trans (Nat.add_le_add_left (by decide) _) hk.1, Nat.le_trans (Nat.add_le_add_left (by decide) _) hk.2⟩ rfl rfl (Nat.le_of_ble_eq_true rfl) dL_law_909 (fun v T hT => ?_)
  obtain ⟨rfl, hL, hcT, hJ⟩ := hT
  refine V_widen (k' := k + 40) (n' := n + 400) (Nat.add_le_add_left (by decide) _) (Nat.add_le_add_left (by decide) _) ?_
  dsimp only [Option.toList_some, Option.toList_none, List.cons_append, List.nil_append]
  have hRT : RelR T m σ := RelR_LH hR hL
  refine V_istore C dL_law_912 (by decide) rfl ?_
  refine V_aload_n C dL_law_914 rfl (isR_r _) ?_
  refine V_arg C hs 1 1 (by decide) dL_law_915 dL_law_916 dL_law_918 dL_law_919 dL_law_920 ?_
  refine V_arg C hs 2 2 (by decide) dL_law_921 dL_law_922 dL_law_924 dL_law_925 dL_law_926 ?_
  refine V_callV C (c_X9_counts X.2.1 hl G T m σ hRT hI.1 (y 1) (y 2)) kv_L_162 cf_9 (by decide) rfl hRT.1 ⟨by decide, by decide⟩ ⟨hk.1, hk.2⟩ rfl rfl (Nat.le_of_ble_eq_true rfl) dL_law_927 (fun w U hU => ?_) (fun _ _ z => z.elim)
  obtain ⟨rfl, hRU, hFU⟩ := hU
  dsimp only [Option.toList_some, Option.toList_none, List.cons_append, List.nil_append]
  refine V_istore C dL_law_930 (by decide) rfl ?_
  refine V_aload_n C dL_law_932 rfl (isR_r _) ?_
  refine V_callV C (c_X9_thrown X.2.1 hl G U m (oCounts σ (y 1) (y 2)).2 hRU) kv_L_123 cf_9 (by decide) rfl hRU.1 ⟨by decide, by decide⟩ ⟨hk.1, hk.2⟩ rfl rfl (Nat.le_of_ble_eq_true rfl) dL_law_933 (fun w W9 hW9 => ?_) (fun _ _ z => z.elim)
  obtain ⟨rfl, hRW, hFW⟩ := hW9
  dsimp only [Option.toList_some, Option.toList_none, List.cons_append, List.nil_append]
  refine V_iload C dL_law_936 rfl ?_
  refine V_icmp_eq C (tgt := 943) dL_law_938 (by decide) (fun _ => ?_) (fun z => absurd hN.2 z)
  have hF := Fr_tr hFU hFW
  have fin : ∀ lo9, lsub [(4, false, .int i), (3, false, .ref c), (2, false, .ref m), (1, false, .ref (ad 8 0)), (0, false, .ref b)] lo9 → V X G 7 Q (k + 40) (n + 400) 2121 lo9 [] W9 := fun lo9 h9 => V_sub h9 (lb_fin hL hcT hF ⟨hRW.1, hRW.2⟩ hN.1 kk)
  refine V_iload C dL_law_943 rfl ?_
  refine V_if_ne C (tgt := 960) dL_law_945 (by decide) (fun _ => ?_) (fun h0 => ?_)
  · exact V_goto C (tgt := 2121) dL_law_960 (by decide) (fin _ (by repeat first | exact trivial | refine ⟨rfl, ?_⟩))
  · refine V_aload_n C dL_law_948 rfl (isR_r _) ?_
    refine V_iconst C (v := 0) dL_law_949 (by decide) ?_
    obtain ⟨w1, w2, w3⟩ := row_M hcT hF
    refine V_lald C w1 (by decide) (by rw [w2]; exact (show ¬ ((0 : Int32) < 0 ∨ 1 ≤ Int32.toNatClampNeg 0) by decide)) dL_law_950 ?_
    rw [show sJ W9 c (Int32.toNatClampNeg 0) = (oCounts σ (y 1) (y 2)).1.toInt64 from (w3 0).trans (hJ h0)]
    refine V_iload C dL_law_951 rfl ?_
    refine V_i2l C dL_law_953 ?_
    refine V_lcmp C dL_law_954 ?_
    refine V_if_eq C (tgt := 960) dL_law_955 (by decide) (fun _ => ?_) (fun z => absurd (lc_self _) z)
    exact V_goto C (tgt := 2121) dL_law_960 (by decide) (fin _ (by repeat first | exact trivial | refine ⟨rfl, ?_⟩))
theorem lb_wish {y : Nat → Int32} (C : Cx X G RL cL_law 7 (some .boolean) room_1 tb) (hl : X.2.1.stackTraces = false) (hs : SC X G b i y) (hk : k + 40 ≤ 601024 ∧ n + 400 ≤ 7293034) (hW : LW S m c ad σ) (hn : cN σ 27 < 512) (kk : ∀ T ad' σ', LW T m c ad' σ' → ad' 8 0 = ad 8 0 → cN σ' 27 ≤ cN σ 27 + 1 → V X G 7 Q (k + 40) (n + 400) 2121 [(4, false, .int i), (3, false, .ref c), (2, false, .ref m), (1, false, .ref (ad 8 0)), (0, false, .ref b)] [] T) : V X G 7 Q k n 963 [(4, false, .int i), (3, false, .ref c), (2, false, .ref m), (1, false, .ref (ad 8 0)), (0, false, .ref b)] [] S := by
  obtain ⟨hR, hC, hG, hI, hc⟩ := hW
  have hN : NX σ (oWish σ (y 1) (y 2) (bz (y 3))) (tCH σ (y 1) (y 2)) := NX_Wish (σ := σ) hI
  refine V_aload_n C dL_law_963 rfl (isR_r _) ?_
  refine V_arg C hs 1 1 (by decide) dL_law_964 dL_law_965 dL_law_967 dL_law_968 dL_law_969 ?_
  refine V_arg C hs 2 2 (by decide) dL_law_970 dL_law_971 dL_law_973 dL_law_974 dL_law_975 ?_
  refine V_arg C hs 3 3 (by decide) dL_law_976 dL_law_977 dL_law_979 dL_law_980 dL_law_981 ?_
  refine V_nz C dL_law_982 dL_law_985 dL_law_986 dL_law_989 ?_
  refine V_callH C (h_wish X.2.1 hl G S ad σ hC hG hI c hc (y 1) (y 2) (bz (y 3))) kh_L_163 ⟨by decide, by decide⟩ ⟨Nat.le_trans (Nat.add_le_add_left (by decide) _) hk.1, Nat.le_trans (Nat.add_le_add_left (by decide) _) hk.2⟩ rfl rfl (Nat.le_of_ble_eq_true rfl) dL_law_990 (fun v T hT => ?_)
  obtain ⟨rfl, hL, hcT⟩ := hT
  refine V_widen (k' := k + 40) (n' := n + 400) (Nat.add_le_add_left (by decide) _) (Nat.add_le_add_left (by decide) _) ?_
  dsimp only [Option.toList_some, Option.toList_none, List.cons_append, List.nil_append]
  have hRT : RelR T m σ := RelR_LH hR hL
  refine V_istore C dL_law_993 (by decide) rfl ?_
  refine V_aload_n C dL_law_995 rfl (isR_r _) ?_
  refine V_arg C hs 1 1 (by decide) dL_law_996 dL_law_997 dL_law_999 dL_law_1000 dL_law_1001 ?_
  refine V_arg C hs 2 2 (by decide) dL_law_1002 dL_law_1003 dL_law_1005 dL_law_1006 dL_law_1007 ?_
  refine V_arg C hs 3 3 (by decide) dL_law_1008 dL_law_1009 dL_law_1011 dL_law_1012 dL_law_1013 ?_
  refine V_nz C dL_law_1014 dL_law_1017 dL_law_1018 dL_law_1021 ?_
  refine V_callV C (c_X9_wish X.2.1 hl G T m σ hRT hI.1 (y 1) (y 2) (bz (y 3))) kv_L_166 cf_9 (by decide) rfl hRT.1 ⟨by decide, by decide⟩ ⟨hk.1, hk.2⟩ rfl rfl (Nat.le_of_ble_eq_true rfl) dL_law_1022 (fun w U hU => ?_) (fun _ _ z => z.elim)
  obtain ⟨rfl, hRU, hFU⟩ := hU
  dsimp only [Option.toList_some, Option.toList_none, List.cons_append, List.nil_append]
  refine V_aload_n C dL_law_1025 rfl (isR_r _) ?_
  refine V_callV C (c_X9_thrown X.2.1 hl G U m (oWish σ (y 1) (y 2) (bz (y 3))) hRU) kv_L_123 cf_9 (by decide) rfl hRU.1 ⟨by decide, by decide⟩ ⟨hk.1, hk.2⟩ rfl rfl (Nat.le_of_ble_eq_true rfl) dL_law_1026 (fun w W9 hW9 => ?_) (fun _ _ z => z.elim)
  obtain ⟨rfl, hRW, hFW⟩ := hW9
  dsimp only [Option.toList_some, Option.toList_none, List.cons_append, List.nil_append]
  refine V_iload C dL_law_1029 rfl ?_
  refine V_icmp_eq C (tgt := 1036) dL_law_1031 (by decide) (fun _ => ?_) (fun z => absurd hN.2 z)
  have hF := Fr_tr hFU hFW
  have fin : ∀ lo9, lsub [(4, false, .int i), (3, false, .ref c), (2, false, .ref m), (1, false, .ref (ad 8 0)), (0, false, .ref b)] lo9 → V X G 7 Q (k + 40) (n + 400) 2121 lo9 [] W9 := fun lo9 h9 => V_sub h9 (lb_fin hL hcT hF ⟨hRW.1, hRW.2⟩ hN.1 kk)
  exact V_goto C (tgt := 2121) dL_law_1036 (by decide) (fin _ (by repeat first | exact trivial | refine ⟨rfl, ?_⟩))
end VL9
