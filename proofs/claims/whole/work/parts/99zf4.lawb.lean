/-! THE LAW: its branches. -/
section VL9
variable {X : xX} {G : gG} {tb : List ExceptionTableEntry} {Q : State → Prop} {k n b m c : Nat} {i : Int32} {S : sS} {ad : Nat → Nat → Nat} {σ : aS}
theorem lb_childIs {y : Nat → Int32} (C : Cx X G RL cL_law 7 (some .boolean) room_1 tb) (hl : X.2.1.stackTraces = false) (hs : SC X G b i y) (hk : k + 40 ≤ 601024 ∧ n + 400 ≤ 7293034) (hW : LW S m c ad σ) (hn : cN σ 27 < 512) (kk : ∀ T ad' σ', LW T m c ad' σ' → ad' 8 0 = ad 8 0 → cN σ' 27 ≤ cN σ 27 + 1 → V X G 7 Q (k + 40) (n + 400) 2121 [(4, false, .int i), (3, false, .ref c), (2, false, .ref m), (1, false, .ref (ad 8 0)), (0, false, .ref b)] [] T) : V X G 7 Q k n 1763 [(4, false, .int i), (3, false, .ref c), (2, false, .ref m), (1, false, .ref (ad 8 0)), (0, false, .ref b)] [] S := by
  obtain ⟨hR, hC, hG, hI, hc⟩ := hW
  have hN : NX σ (oIs σ (y 1) (y 2)).2 (tIs σ (y 1) (y 2)) := NX_Is (σ := σ) hI
  refine V_aload_n C dL_law_1763 rfl (isR_r _) ?_
  refine V_arg C hs 1 1 (by decide) dL_law_1764 dL_law_1765 dL_law_1767 dL_law_1768 dL_law_1769 ?_
  refine V_arg C hs 2 2 (by decide) dL_law_1770 dL_law_1771 dL_law_1773 dL_law_1774 dL_law_1775 ?_
  refine V_aload_n C dL_law_1776 rfl (isR_r _) ?_
  refine V_callH C (h_childIs X.2.1 hl G S ad σ hC hG hI c hc (y 1) (y 2)) kh_L_204 ⟨by decide, by decide⟩ ⟨Nat.le_trans (Nat.add_le_add_left (by decide) _) hk.1, Nat.le_trans (Nat.add_le_add_left (by decide) _) hk.2⟩ rfl rfl (Nat.le_of_ble_eq_true rfl) dL_law_1777 (fun v T hT => ?_)
  obtain ⟨rfl, hL, hcT, hJ⟩ := hT
  refine V_widen (k' := k + 40) (n' := n + 400) (Nat.add_le_add_left (by decide) _) (Nat.add_le_add_left (by decide) _) ?_
  dsimp only [Option.toList_some, Option.toList_none, List.cons_append, List.nil_append]
  have hRT : RelR T m σ := RelR_LH hR hL
  refine V_istore C dL_law_1780 (by decide) rfl ?_
  refine V_aload_n C dL_law_1782 rfl (isR_r _) ?_
  refine V_arg C hs 1 1 (by decide) dL_law_1783 dL_law_1784 dL_law_1786 dL_law_1787 dL_law_1788 ?_
  refine V_arg C hs 2 2 (by decide) dL_law_1789 dL_law_1790 dL_law_1792 dL_law_1793 dL_law_1794 ?_
  refine V_callV C (c_X9_childIs X.2.1 hl G T m σ hRT hI.1 (y 1) (y 2)) kv_L_206 cf_9 (by decide) rfl hRT.1 ⟨by decide, by decide⟩ ⟨hk.1, hk.2⟩ rfl rfl (Nat.le_of_ble_eq_true rfl) dL_law_1795 (fun w U hU => ?_) (fun _ _ z => z.elim)
  obtain ⟨rfl, hRU, hFU⟩ := hU
  dsimp only [Option.toList_some, Option.toList_none, List.cons_append, List.nil_append]
  refine V_istore C dL_law_1798 (by decide) rfl ?_
  refine V_aload_n C dL_law_1800 rfl (isR_r _) ?_
  refine V_callV C (c_X9_thrown X.2.1 hl G U m (oIs σ (y 1) (y 2)).2 hRU) kv_L_123 cf_9 (by decide) rfl hRU.1 ⟨by decide, by decide⟩ ⟨hk.1, hk.2⟩ rfl rfl (Nat.le_of_ble_eq_true rfl) dL_law_1801 (fun w W9 hW9 => ?_) (fun _ _ z => z.elim)
  obtain ⟨rfl, hRW, hFW⟩ := hW9
  dsimp only [Option.toList_some, Option.toList_none, List.cons_append, List.nil_append]
  refine V_iload C dL_law_1804 rfl ?_
  refine V_icmp_eq C (tgt := 1811) dL_law_1806 (by decide) (fun _ => ?_) (fun z => absurd hN.2 z)
  have hF := Fr_tr hFU hFW
  have fin : ∀ lo9, lsub [(4, false, .int i), (3, false, .ref c), (2, false, .ref m), (1, false, .ref (ad 8 0)), (0, false, .ref b)] lo9 → V X G 7 Q (k + 40) (n + 400) 2121 lo9 [] W9 := fun lo9 h9 => V_sub h9 (lb_fin hL hcT hF ⟨hRW.1, hRW.2⟩ hN.1 kk)
  refine V_iload C dL_law_1811 rfl ?_
  refine V_if_ne C (tgt := 1828) dL_law_1813 (by decide) (fun _ => ?_) (fun h0 => ?_)
  · exact V_goto C (tgt := 2121) dL_law_1828 (by decide) (fin _ (by repeat first | exact trivial | refine ⟨rfl, ?_⟩))
  · refine V_aload_n C dL_law_1816 rfl (isR_r _) ?_
    refine V_iconst C (v := 0) dL_law_1817 (by decide) ?_
    obtain ⟨w1, w2, w3⟩ := row_M hcT hF
    refine V_lald C w1 (by decide) (by rw [w2]; exact (show ¬ ((0 : Int32) < 0 ∨ 1 ≤ Int32.toNatClampNeg 0) by decide)) dL_law_1818 ?_
    rw [show sJ W9 c (Int32.toNatClampNeg 0) = (oIs σ (y 1) (y 2)).1.toInt64 from (w3 0).trans (hJ h0)]
    refine V_iload C dL_law_1819 rfl ?_
    refine V_i2l C dL_law_1821 ?_
    refine V_lcmp C dL_law_1822 ?_
    refine V_if_eq C (tgt := 1828) dL_law_1823 (by decide) (fun _ => ?_) (fun z => absurd (lc_self _) z)
    exact V_goto C (tgt := 2121) dL_law_1828 (by decide) (fin _ (by repeat first | exact trivial | refine ⟨rfl, ?_⟩))
theorem lb_stay {y : Nat → Int32} (C : Cx X G RL cL_law 7 (some .boolean) room_1 tb) (hl : X.2.1.stackTraces = false) (hs : SC X G b i y) (hk : k + 40 ≤ 601024 ∧ n + 400 ≤ 7293034) (hW : LW S m c ad σ) (hn : cN σ 27 < 512) (kk : ∀ T ad' σ', LW T m c ad' σ' → ad' 8 0 = ad 8 0 → cN σ' 27 ≤ cN σ 27 + 1 → V X G 7 Q (k + 40) (n + 400) 2121 [(4, false, .int i), (3, false, .ref c), (2, false, .ref m), (1, false, .ref (ad 8 0)), (0, false, .ref b)] [] T) : V X G 7 Q k n 1831 [(4, false, .int i), (3, false, .ref c), (2, false, .ref m), (1, false, .ref (ad 8 0)), (0, false, .ref b)] [] S := by
  obtain ⟨hR, hC, hG, hI, hc⟩ := hW
  have hN : NX σ (oStay σ (y 1) (y 2)).2 (tStay σ (y 1) (y 2)) := NX_Stay (σ := σ) hI
  refine V_aload_n C dL_law_1831 rfl (isR_r _) ?_
  refine V_arg C hs 1 1 (by decide) dL_law_1832 dL_law_1833 dL_law_1835 dL_law_1836 dL_law_1837 ?_
  refine V_arg C hs 2 2 (by decide) dL_law_1838 dL_law_1839 dL_law_1841 dL_law_1842 dL_law_1843 ?_
  refine V_aload_n C dL_law_1844 rfl (isR_r _) ?_
  refine V_callH C (h_stay X.2.1 hl G S ad σ hC hG hI c hc (y 1) (y 2)) kh_L_207 ⟨by decide, by decide⟩ ⟨Nat.le_trans (Nat.add_le_add_left (by decide) _) hk.1, Nat.le_trans (Nat.add_le_add_left (by decide) _) hk.2⟩ rfl rfl (Nat.le_of_ble_eq_true rfl) dL_law_1845 (fun v T hT => ?_)
  obtain ⟨rfl, hL, hcT, hJ⟩ := hT
  refine V_widen (k' := k + 40) (n' := n + 400) (Nat.add_le_add_left (by decide) _) (Nat.add_le_add_left (by decide) _) ?_
  dsimp only [Option.toList_some, Option.toList_none, List.cons_append, List.nil_append]
  have hRT : RelR T m σ := RelR_LH hR hL
  refine V_istore C dL_law_1848 (by decide) rfl ?_
  refine V_aload_n C dL_law_1850 rfl (isR_r _) ?_
  refine V_arg C hs 1 1 (by decide) dL_law_1851 dL_law_1852 dL_law_1854 dL_law_1855 dL_law_1856 ?_
  refine V_arg C hs 2 2 (by decide) dL_law_1857 dL_law_1858 dL_law_1860 dL_law_1861 dL_law_1862 ?_
  refine V_callV C (c_X9_stay X.2.1 hl G T m σ hRT hI.1 (y 1) (y 2)) kv_L_209 cf_9 (by decide) rfl hRT.1 ⟨by decide, by decide⟩ ⟨hk.1, hk.2⟩ rfl rfl (Nat.le_of_ble_eq_true rfl) dL_law_1863 (fun w U hU => ?_) (fun _ _ z => z.elim)
  obtain ⟨rfl, hRU, hFU⟩ := hU
  dsimp only [Option.toList_some, Option.toList_none, List.cons_append, List.nil_append]
  refine V_istore C dL_law_1866 (by decide) rfl ?_
  refine V_aload_n C dL_law_1868 rfl (isR_r _) ?_
  refine V_callV C (c_X9_thrown X.2.1 hl G U m (oStay σ (y 1) (y 2)).2 hRU) kv_L_123 cf_9 (by decide) rfl hRU.1 ⟨by decide, by decide⟩ ⟨hk.1, hk.2⟩ rfl rfl (Nat.le_of_ble_eq_true rfl) dL_law_1869 (fun w W9 hW9 => ?_) (fun _ _ z => z.elim)
  obtain ⟨rfl, hRW, hFW⟩ := hW9
  dsimp only [Option.toList_some, Option.toList_none, List.cons_append, List.nil_append]
  refine V_iload C dL_law_1872 rfl ?_
  refine V_icmp_eq C (tgt := 1879) dL_law_1874 (by decide) (fun _ => ?_) (fun z => absurd hN.2 z)
  have hF := Fr_tr hFU hFW
  have fin : ∀ lo9, lsub [(4, false, .int i), (3, false, .ref c), (2, false, .ref m), (1, false, .ref (ad 8 0)), (0, false, .ref b)] lo9 → V X G 7 Q (k + 40) (n + 400) 2121 lo9 [] W9 := fun lo9 h9 => V_sub h9 (lb_fin hL hcT hF ⟨hRW.1, hRW.2⟩ hN.1 kk)
  refine V_iload C dL_law_1879 rfl ?_
  refine V_if_ne C (tgt := 1896) dL_law_1881 (by decide) (fun _ => ?_) (fun h0 => ?_)
  · exact V_goto C (tgt := 2121) dL_law_1896 (by decide) (fin _ (by repeat first | exact trivial | refine ⟨rfl, ?_⟩))
  · refine V_aload_n C dL_law_1884 rfl (isR_r _) ?_
    refine V_iconst C (v := 0) dL_law_1885 (by decide) ?_
    obtain ⟨w1, w2, w3⟩ := row_M hcT hF
    refine V_lald C w1 (by decide) (by rw [w2]; exact (show ¬ ((0 : Int32) < 0 ∨ 1 ≤ Int32.toNatClampNeg 0) by decide)) dL_law_1886 ?_
    rw [show sJ W9 c (Int32.toNatClampNeg 0) = (oStay σ (y 1) (y 2)).1.toInt64 from (w3 0).trans (hJ h0)]
    refine V_iload C dL_law_1887 rfl ?_
    refine V_i2l C dL_law_1889 ?_
    refine V_lcmp C dL_law_1890 ?_
    refine V_if_eq C (tgt := 1896) dL_law_1891 (by decide) (fun _ => ?_) (fun z => absurd (lc_self _) z)
    exact V_goto C (tgt := 2121) dL_law_1896 (by decide) (fin _ (by repeat first | exact trivial | refine ⟨rfl, ?_⟩))
theorem lb_wasAllowed {y : Nat → Int32} (C : Cx X G RL cL_law 7 (some .boolean) room_1 tb) (hl : X.2.1.stackTraces = false) (hs : SC X G b i y) (hk : k + 40 ≤ 601024 ∧ n + 400 ≤ 7293034) (hW : LW S m c ad σ) (hn : cN σ 27 < 512) (kk : ∀ T ad' σ', LW T m c ad' σ' → ad' 8 0 = ad 8 0 → cN σ' 27 ≤ cN σ 27 + 1 → V X G 7 Q (k + 40) (n + 400) 2121 [(4, false, .int i), (3, false, .ref c), (2, false, .ref m), (1, false, .ref (ad 8 0)), (0, false, .ref b)] [] T) : V X G 7 Q k n 1899 [(4, false, .int i), (3, false, .ref c), (2, false, .ref m), (1, false, .ref (ad 8 0)), (0, false, .ref b)] [] S := by
  obtain ⟨hR, hC, hG, hI, hc⟩ := hW
  have hN : NX σ (oWas σ (y 1)).2 (tSt σ (y 1)) := NX_Was (σ := σ) hI
  refine V_aload_n C dL_law_1899 rfl (isR_r _) ?_
  refine V_arg C hs 1 1 (by decide) dL_law_1900 dL_law_1901 dL_law_1903 dL_law_1904 dL_law_1905 ?_
  refine V_aload_n C dL_law_1906 rfl (isR_r _) ?_
  refine V_callH C (h_wasAllowed X.2.1 hl G S ad σ hC hG hI c hc (y 1) (a01_wasAllowed σ _)) kh_L_210 ⟨by decide, by decide⟩ ⟨Nat.le_trans (Nat.add_le_add_left (by decide) _) hk.1, Nat.le_trans (Nat.add_le_add_left (by decide) _) hk.2⟩ rfl rfl (Nat.le_of_ble_eq_true rfl) dL_law_1907 (fun v T hT => ?_)
  obtain ⟨rfl, hL, hcT, hJ⟩ := hT
  refine V_widen (k' := k + 40) (n' := n + 400) (Nat.add_le_add_left (by decide) _) (Nat.add_le_add_left (by decide) _) ?_
  dsimp only [Option.toList_some, Option.toList_none, List.cons_append, List.nil_append]
  have hRT : RelR T m σ := RelR_LH hR hL
  refine V_istore C dL_law_1910 (by decide) rfl ?_
  refine V_aload_n C dL_law_1912 rfl (isR_r _) ?_
  refine V_arg C hs 1 1 (by decide) dL_law_1913 dL_law_1914 dL_law_1916 dL_law_1917 dL_law_1918 ?_
  refine V_callV C (c_X9_wasAllowed X.2.1 hl G T m σ hRT hI.1 hI.2.1 (y 1)) kv_L_212 cf_9 (by decide) rfl hRT.1 ⟨by decide, by decide⟩ ⟨hk.1, hk.2⟩ rfl rfl (Nat.le_of_ble_eq_true rfl) dL_law_1919 (fun w U hU => ?_) (fun _ _ z => z.elim)
  obtain ⟨rfl, hRU, hFU⟩ := hU
  dsimp only [Option.toList_some, Option.toList_none, List.cons_append, List.nil_append]
  refine V_istore C dL_law_1922 (by decide) rfl ?_
  refine V_aload_n C dL_law_1924 rfl (isR_r _) ?_
  refine V_callV C (c_X9_thrown X.2.1 hl G U m (oWas σ (y 1)).2 hRU) kv_L_123 cf_9 (by decide) rfl hRU.1 ⟨by decide, by decide⟩ ⟨hk.1, hk.2⟩ rfl rfl (Nat.le_of_ble_eq_true rfl) dL_law_1925 (fun w W9 hW9 => ?_) (fun _ _ z => z.elim)
  obtain ⟨rfl, hRW, hFW⟩ := hW9
  dsimp only [Option.toList_some, Option.toList_none, List.cons_append, List.nil_append]
  refine V_iload C dL_law_1928 rfl ?_
  refine V_icmp_eq C (tgt := 1935) dL_law_1930 (by decide) (fun _ => ?_) (fun z => absurd hN.2 z)
  have hF := Fr_tr hFU hFW
  have fin : ∀ lo9, lsub [(4, false, .int i), (3, false, .ref c), (2, false, .ref m), (1, false, .ref (ad 8 0)), (0, false, .ref b)] lo9 → V X G 7 Q (k + 40) (n + 400) 2121 lo9 [] W9 := fun lo9 h9 => V_sub h9 (lb_fin hL hcT hF ⟨hRW.1, hRW.2⟩ hN.1 kk)
  refine V_iload C dL_law_1935 rfl ?_
  refine V_if_ne C (tgt := 1959) dL_law_1937 (by decide) (fun _ => ?_) (fun h0 => ?_)
  · exact V_goto C (tgt := 2121) dL_law_1959 (by decide) (fin _ (by repeat first | exact trivial | refine ⟨rfl, ?_⟩))
  · refine V_aload_n C dL_law_1940 rfl (isR_r _) ?_
    refine V_iconst C (v := 0) dL_law_1941 (by decide) ?_
    obtain ⟨w1, w2, w3⟩ := row_M hcT hF
    refine V_lald C w1 (by decide) (by rw [w2]; exact (show ¬ ((0 : Int32) < 0 ∨ 1 ≤ Int32.toNatClampNeg 0) by decide)) dL_law_1942 ?_
    rw [show sJ W9 c (Int32.toNatClampNeg 0) = (oWas σ (y 1)).1.toInt64 from (w3 0).trans (hJ h0)]
    refine V_iload C dL_law_1943 rfl ?_
    refine V_if_eq C (tgt := 1952) dL_law_1945 (by decide) (fun h9 => ?_) (fun h9 => ?_)
    · refine V_lconst C (v := 0) dL_law_1952 (by decide) ?_
      rw [h9]
      refine V_lcmp C dL_law_1953 ?_
      refine V_if_eq C (tgt := 1959) dL_law_1954 (by decide) (fun _ => ?_) (fun z => absurd (lc_self _) z)
      exact V_goto C (tgt := 2121) dL_law_1959 (by decide) (fin _ (by repeat first | exact trivial | refine ⟨rfl, ?_⟩))
    · refine V_lconst C (v := 1) dL_law_1948 (by decide) ?_
      refine V_goto C (tgt := 1953) dL_law_1949 (by decide) ?_
      rw [(a01_wasAllowed σ (y 1)).resolve_left h9]
      refine V_lcmp C dL_law_1953 ?_
      refine V_if_eq C (tgt := 1959) dL_law_1954 (by decide) (fun _ => ?_) (fun z => absurd (lc_self _) z)
      exact V_goto C (tgt := 2121) dL_law_1959 (by decide) (fin _ (by repeat first | exact trivial | refine ⟨rfl, ?_⟩))
theorem lb_blacken {y : Nat → Int32} (C : Cx X G RL cL_law 7 (some .boolean) room_1 tb) (hl : X.2.1.stackTraces = false) (hs : SC X G b i y) (hk : k + 40 ≤ 601024 ∧ n + 400 ≤ 7293034) (hW : LW S m c ad σ) (hn : cN σ 27 < 512) (kk : ∀ T ad' σ', LW T m c ad' σ' → ad' 8 0 = ad 8 0 → cN σ' 27 ≤ cN σ 27 + 1 → V X G 7 Q (k + 40) (n + 400) 2121 [(4, false, .int i), (3, false, .ref c), (2, false, .ref m), (1, false, .ref (ad 8 0)), (0, false, .ref b)] [] T) : V X G 7 Q k n 1962 [(4, false, .int i), (3, false, .ref c), (2, false, .ref m), (1, false, .ref (ad 8 0)), (0, false, .ref b)] [] S := by
  obtain ⟨hR, hC, hG, hI, hc⟩ := hW
  have hN : NX σ (oBlacken σ (y 1) (bz (y 2))).2 (tH σ (y 1)) := NX_Blacken (σ := σ) hI (b := (bz (y 2))) (x := (y 1)) (bz_01 _)
  refine V_aload_n C dL_law_1962 rfl (isR_r _) ?_
  refine V_arg C hs 1 1 (by decide) dL_law_1963 dL_law_1964 dL_law_1966 dL_law_1967 dL_law_1968 ?_
  refine V_arg C hs 2 2 (by decide) dL_law_1969 dL_law_1970 dL_law_1972 dL_law_1973 dL_law_1974 ?_
  refine V_nz C dL_law_1975 dL_law_1978 dL_law_1979 dL_law_1982 ?_
  refine V_aload_n C dL_law_1983 rfl (isR_r _) ?_
  refine V_callH C (h_blacken X.2.1 hl G S ad σ hC hG hI c hc (y 1) (bz (y 2)) (a01_blacken hI _ _) (bz_01 _)) kh_L_213 ⟨by decide, by decide⟩ ⟨Nat.le_trans (Nat.add_le_add_left (by decide) _) hk.1, Nat.le_trans (Nat.add_le_add_left (by decide) _) hk.2⟩ rfl rfl (Nat.le_of_ble_eq_true rfl) dL_law_1984 (fun v T hT => ?_)
  obtain ⟨rfl, hL, hcT, hJ⟩ := hT
  refine V_widen (k' := k + 40) (n' := n + 400) (Nat.add_le_add_left (by decide) _) (Nat.add_le_add_left (by decide) _) ?_
  dsimp only [Option.toList_some, Option.toList_none, List.cons_append, List.nil_append]
  have hRT : RelR T m σ := RelR_LH hR hL
  refine V_istore C dL_law_1987 (by decide) rfl ?_
  refine V_aload_n C dL_law_1989 rfl (isR_r _) ?_
  refine V_arg C hs 1 1 (by decide) dL_law_1990 dL_law_1991 dL_law_1993 dL_law_1994 dL_law_1995 ?_
  refine V_arg C hs 2 2 (by decide) dL_law_1996 dL_law_1997 dL_law_1999 dL_law_2000 dL_law_2001 ?_
  refine V_nz C dL_law_2002 dL_law_2005 dL_law_2006 dL_law_2009 ?_
  refine V_callV C (c_X9_blacken X.2.1 hl G T m σ hRT hI.1 hI.2.2.1 (y 1) (bz (y 2)) (bz_01 _)) kv_L_216 cf_9 (by decide) rfl hRT.1 ⟨by decide, by decide⟩ ⟨hk.1, hk.2⟩ rfl rfl (Nat.le_of_ble_eq_true rfl) dL_law_2010 (fun w U hU => ?_) (fun _ _ z => z.elim)
  obtain ⟨rfl, hRU, hFU⟩ := hU
  dsimp only [Option.toList_some, Option.toList_none, List.cons_append, List.nil_append]
  refine V_istore C dL_law_2013 (by decide) rfl ?_
  refine V_aload_n C dL_law_2015 rfl (isR_r _) ?_
  refine V_callV C (c_X9_thrown X.2.1 hl G U m (oBlacken σ (y 1) (bz (y 2))).2 hRU) kv_L_123 cf_9 (by decide) rfl hRU.1 ⟨by decide, by decide⟩ ⟨hk.1, hk.2⟩ rfl rfl (Nat.le_of_ble_eq_true rfl) dL_law_2016 (fun w W9 hW9 => ?_) (fun _ _ z => z.elim)
  obtain ⟨rfl, hRW, hFW⟩ := hW9
  dsimp only [Option.toList_some, Option.toList_none, List.cons_append, List.nil_append]
  refine V_iload C dL_law_2019 rfl ?_
  refine V_icmp_eq C (tgt := 2026) dL_law_2021 (by decide) (fun _ => ?_) (fun z => absurd hN.2 z)
  have hF := Fr_tr hFU hFW
  have fin : ∀ lo9, lsub [(4, false, .int i), (3, false, .ref c), (2, false, .ref m), (1, false, .ref (ad 8 0)), (0, false, .ref b)] lo9 → V X G 7 Q (k + 40) (n + 400) 2121 lo9 [] W9 := fun lo9 h9 => V_sub h9 (lb_fin hL hcT hF ⟨hRW.1, hRW.2⟩ hN.1 kk)
  refine V_iload C dL_law_2026 rfl ?_
  refine V_if_ne C (tgt := 2050) dL_law_2028 (by decide) (fun _ => ?_) (fun h0 => ?_)
  · exact V_goto C (tgt := 2121) dL_law_2050 (by decide) (fin _ (by repeat first | exact trivial | refine ⟨rfl, ?_⟩))
  · refine V_aload_n C dL_law_2031 rfl (isR_r _) ?_
    refine V_iconst C (v := 0) dL_law_2032 (by decide) ?_
    obtain ⟨w1, w2, w3⟩ := row_M hcT hF
    refine V_lald C w1 (by decide) (by rw [w2]; exact (show ¬ ((0 : Int32) < 0 ∨ 1 ≤ Int32.toNatClampNeg 0) by decide)) dL_law_2033 ?_
    rw [show sJ W9 c (Int32.toNatClampNeg 0) = (oBlacken σ (y 1) (bz (y 2))).1.toInt64 from (w3 0).trans (hJ h0)]
    refine V_iload C dL_law_2034 rfl ?_
    refine V_if_eq C (tgt := 2043) dL_law_2036 (by decide) (fun h9 => ?_) (fun h9 => ?_)
    · refine V_lconst C (v := 0) dL_law_2043 (by decide) ?_
      rw [h9]
      refine V_lcmp C dL_law_2044 ?_
      refine V_if_eq C (tgt := 2050) dL_law_2045 (by decide) (fun _ => ?_) (fun z => absurd (lc_self _) z)
      exact V_goto C (tgt := 2121) dL_law_2050 (by decide) (fin _ (by repeat first | exact trivial | refine ⟨rfl, ?_⟩))
    · refine V_lconst C (v := 1) dL_law_2039 (by decide) ?_
      refine V_goto C (tgt := 2044) dL_law_2040 (by decide) ?_
      rw [(a01_blacken hI (y 1) (bz (y 2))).resolve_left h9]
      refine V_lcmp C dL_law_2044 ?_
      refine V_if_eq C (tgt := 2050) dL_law_2045 (by decide) (fun _ => ?_) (fun z => absurd (lc_self _) z)
      exact V_goto C (tgt := 2121) dL_law_2050 (by decide) (fin _ (by repeat first | exact trivial | refine ⟨rfl, ?_⟩))
theorem lb_file {y : Nat → Int32} (C : Cx X G RL cL_law 7 (some .boolean) room_1 tb) (hl : X.2.1.stackTraces = false) (hs : SC X G b i y) (hk : k + 40 ≤ 601024 ∧ n + 400 ≤ 7293034) (hW : LW S m c ad σ) (hn : cN σ 27 < 512) (kk : ∀ T ad' σ', LW T m c ad' σ' → ad' 8 0 = ad 8 0 → cN σ' 27 ≤ cN σ 27 + 1 → V X G 7 Q (k + 40) (n + 400) 2121 [(4, false, .int i), (3, false, .ref c), (2, false, .ref m), (1, false, .ref (ad 8 0)), (0, false, .ref b)] [] T) : V X G 7 Q k n 2053 [(4, false, .int i), (3, false, .ref c), (2, false, .ref m), (1, false, .ref (ad 8 0)), (0, false, .ref b)] [] S := by
  obtain ⟨hR, hC, hG, hI, hc⟩ := hW
  have hN : NX σ (oFile σ (y 1) (y 2)).2 (tFile σ (y 1) (y 2)) := NX_File (σ := σ) hI
  refine V_aload_n C dL_law_2053 rfl (isR_r _) ?_
  refine V_arg C hs 1 1 (by decide) dL_law_2054 dL_law_2055 dL_law_2057 dL_law_2058 dL_law_2059 ?_
  refine V_arg C hs 2 2 (by decide) dL_law_2060 dL_law_2061 dL_law_2063 dL_law_2064 dL_law_2065 ?_
  refine V_aload_n C dL_law_2066 rfl (isR_r _) ?_
  refine V_callH C (h_file X.2.1 hl G S ad σ hC hG hI c hc (y 1) (y 2)) kh_L_217 ⟨by decide, by decide⟩ ⟨Nat.le_trans (Nat.add_le_add_left (by decide) _) hk.1, Nat.le_trans (Nat.add_le_add_left (by decide) _) hk.2⟩ rfl rfl (Nat.le_of_ble_eq_true rfl) dL_law_2067 (fun v T hT => ?_)
  obtain ⟨rfl, hL, hcT, hJ⟩ := hT
  refine V_widen (k' := k + 40) (n' := n + 400) (Nat.add_le_add_left (by decide) _) (Nat.add_le_add_left (by decide) _) ?_
  dsimp only [Option.toList_some, Option.toList_none, List.cons_append, List.nil_append]
  have hRT : RelR T m σ := RelR_LH hR hL
  refine V_istore C dL_law_2070 (by decide) rfl ?_
  refine V_aload_n C dL_law_2072 rfl (isR_r _) ?_
  refine V_arg C hs 1 1 (by decide) dL_law_2073 dL_law_2074 dL_law_2076 dL_law_2077 dL_law_2078 ?_
  refine V_arg C hs 2 2 (by decide) dL_law_2079 dL_law_2080 dL_law_2082 dL_law_2083 dL_law_2084 ?_
  refine V_callV C (c_X9_file X.2.1 hl G T m σ hRT hI.1 hI.2.1 (y 1) (y 2)) kv_L_219 cf_9 (by decide) rfl hRT.1 ⟨by decide, by decide⟩ ⟨hk.1, hk.2⟩ rfl rfl (Nat.le_of_ble_eq_true rfl) dL_law_2085 (fun w U hU => ?_) (fun _ _ z => z.elim)
  obtain ⟨rfl, hRU, hFU⟩ := hU
  dsimp only [Option.toList_some, Option.toList_none, List.cons_append, List.nil_append]
  refine V_istore C dL_law_2088 (by decide) rfl ?_
  refine V_aload_n C dL_law_2090 rfl (isR_r _) ?_
  refine V_callV C (c_X9_thrown X.2.1 hl G U m (oFile σ (y 1) (y 2)).2 hRU) kv_L_123 cf_9 (by decide) rfl hRU.1 ⟨by decide, by decide⟩ ⟨hk.1, hk.2⟩ rfl rfl (Nat.le_of_ble_eq_true rfl) dL_law_2091 (fun w W9 hW9 => ?_) (fun _ _ z => z.elim)
  obtain ⟨rfl, hRW, hFW⟩ := hW9
  dsimp only [Option.toList_some, Option.toList_none, List.cons_append, List.nil_append]
  refine V_iload C dL_law_2094 rfl ?_
  refine V_icmp_eq C (tgt := 2101) dL_law_2096 (by decide) (fun _ => ?_) (fun z => absurd hN.2 z)
  have hF := Fr_tr hFU hFW
  have fin : ∀ lo9, lsub [(4, false, .int i), (3, false, .ref c), (2, false, .ref m), (1, false, .ref (ad 8 0)), (0, false, .ref b)] lo9 → V X G 7 Q (k + 40) (n + 400) 2121 lo9 [] W9 := fun lo9 h9 => V_sub h9 (lb_fin hL hcT hF ⟨hRW.1, hRW.2⟩ hN.1 kk)
  refine V_iload C dL_law_2101 rfl ?_
  refine V_if_ne C (tgt := 2118) dL_law_2103 (by decide) (fun _ => ?_) (fun h0 => ?_)
  · exact V_goto C (tgt := 2121) dL_law_2118 (by decide) (fin _ (by repeat first | exact trivial | refine ⟨rfl, ?_⟩))
  · refine V_aload_n C dL_law_2106 rfl (isR_r _) ?_
    refine V_iconst C (v := 0) dL_law_2107 (by decide) ?_
    obtain ⟨w1, w2, w3⟩ := row_M hcT hF
    refine V_lald C w1 (by decide) (by rw [w2]; exact (show ¬ ((0 : Int32) < 0 ∨ 1 ≤ Int32.toNatClampNeg 0) by decide)) dL_law_2108 ?_
    rw [show sJ W9 c (Int32.toNatClampNeg 0) = (oFile σ (y 1) (y 2)).1.toInt64 from (w3 0).trans (hJ h0)]
    refine V_iload C dL_law_2109 rfl ?_
    refine V_i2l C dL_law_2111 ?_
    refine V_lcmp C dL_law_2112 ?_
    refine V_if_eq C (tgt := 2118) dL_law_2113 (by decide) (fun _ => ?_) (fun z => absurd (lc_self _) z)
    exact V_goto C (tgt := 2121) dL_law_2118 (by decide) (fin _ (by repeat first | exact trivial | refine ⟨rfl, ?_⟩))
end VL9
