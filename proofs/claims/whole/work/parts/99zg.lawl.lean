/-! THE LAW: its loop, its beginning. -/
section VL8
variable {X : xX} {G : gG} {tb : List ExceptionTableEntry} {Q : State → Prop} {k n b m c : Nat}
theorem law_br {i : Int32} {S : sS} {ad : Nat → Nat → Nat} {σ : aS} {y : Nat → Int32} (C : Cx X G RL cL_law 7 (some .boolean) room_1 tb) (hl : X.2.1.stackTraces = false) (hs : SC X G b i y) (hk : k + 40 ≤ 601024 ∧ n + 400 ≤ 7293034) (hW : LW S m c ad σ) (hn : cN σ 27 < 512) (op : Int32) (kk : ∀ T ad' σ', LW T m c ad' σ' → ad' 8 0 = ad 8 0 → cN σ' 27 ≤ cN σ 27 + 1 → V X G 7 Q (k + 40) (n + 400) 2121 [(4, false, .int i), (3, false, .ref c), (2, false, .ref m), (1, false, .ref (ad 8 0)), (0, false, .ref b)] [] T) : V X G 7 Q k n 40 [(4, false, .int i), (3, false, .ref c), (2, false, .ref m), (1, false, .ref (ad 8 0)), (0, false, .ref b)] [.int op] S := by
  by_cases h1 : op.toInt < 0 ∨ 28 < op.toInt
  · exact V_tableOut C (tgt := 2121) dL_law_40 h1 (by decide) (V_widen (Nat.le_add_right _ _) (Nat.le_add_right _ _) (kk S ad σ hW rfl (Nat.le_succ _)))
  · rcases (show op.toInt = 0 ∨ op.toInt = 1 ∨ op.toInt = 2 ∨ op.toInt = 3 ∨ op.toInt = 4 ∨ op.toInt = 5 ∨ op.toInt = 6 ∨ op.toInt = 7 ∨ op.toInt = 8 ∨ op.toInt = 9 ∨ op.toInt = 10 ∨ op.toInt = 11 ∨ op.toInt = 12 ∨ op.toInt = 13 ∨ op.toInt = 14 ∨ op.toInt = 15 ∨ op.toInt = 16 ∨ op.toInt = 17 ∨ op.toInt = 18 ∨ op.toInt = 19 ∨ op.toInt = 20 ∨ op.toInt = 21 ∨ op.toInt = 22 ∨ op.toInt = 23 ∨ op.toInt = 24 ∨ op.toInt = 25 ∨ op.toInt = 26 ∨ op.toInt = 27 ∨ op.toInt = 28 by omega) with h | h | h | h | h | h | h | h | h | h | h | h | h | h | h | h | h | h | h | h | h | h | h | h | h | h | h | h | h
    · exact V_tableIn C (off := 132) (tgt := 172) dL_law_40 (by omega) (by omega) (by rw [h]; rfl) (by decide) (lb_child C hl hs hk hW hn kk)
    · exact V_tableIn C (off := 236) (tgt := 276) dL_law_40 (by omega) (by omega) (by rw [h]; rfl) (by decide) (lb_home C hl hs hk hW hn kk)
    · exact V_tableIn C (off := 316) (tgt := 356) dL_law_40 (by omega) (by omega) (by rw [h]; rfl) (by decide) (lb_approve C hl hs hk hW hn kk)
    · exact V_tableIn C (off := 388) (tgt := 428) dL_law_40 (by omega) (by omega) (by rw [h]; rfl) (by decide) (lb_train C hl hs hk hW hn kk)
    · exact V_tableIn C (off := 448) (tgt := 488) dL_law_40 (by omega) (by omega) (by rw [h]; rfl) (by decide) (lb_rest C hl hs hk hW hn kk)
    · exact V_tableIn C (off := 508) (tgt := 548) dL_law_40 (by omega) (by omega) (by rw [h]; rfl) (by decide) (lb_report C hl hs hk hW hn kk)
    · exact V_tableIn C (off := 588) (tgt := 628) dL_law_40 (by omega) (by omega) (by rw [h]; rfl) (by decide) (lb_see C hl hs hk hW hn kk)
    · exact V_tableIn C (off := 651) (tgt := 691) dL_law_40 (by omega) (by omega) (by rw [h]; rfl) (by decide) (lb_risk C hl hs hk hW hn kk)
    · exact V_tableIn C (off := 707) (tgt := 747) dL_law_40 (by omega) (by omega) (by rw [h]; rfl) (by decide) (lb_seeBy C hl hs hk hW hn kk)
    · exact V_tableIn C (off := 763) (tgt := 803) dL_law_40 (by omega) (by omega) (by rw [h]; rfl) (by decide) (lb_order C hl hs hk hW hn kk)
    · exact V_tableIn C (off := 855) (tgt := 895) dL_law_40 (by omega) (by omega) (by rw [h]; rfl) (by decide) (lb_counts C hl hs hk hW hn kk)
    · exact V_tableIn C (off := 923) (tgt := 963) dL_law_40 (by omega) (by omega) (by rw [h]; rfl) (by decide) (lb_wish C hl hs hk hW hn kk)
    · exact V_tableIn C (off := 999) (tgt := 1039) dL_law_40 (by omega) (by omega) (by rw [h]; rfl) (by decide) (lb_why C hl hs hk hW hn kk)
    · exact V_tableIn C (off := 1067) (tgt := 1107) dL_law_40 (by omega) (by omega) (by rw [h]; rfl) (by decide) (lb_worth C hl hs hk hW hn kk)
    · exact V_tableIn C (off := 1135) (tgt := 1175) dL_law_40 (by omega) (by omega) (by rw [h]; rfl) (by decide) (lb_best C hl hs hk hW hn kk)
    · exact V_tableIn C (off := 1191) (tgt := 1231) dL_law_40 (by omega) (by omega) (by rw [h]; rfl) (by decide) (lb_place C hl hs hk hW hn kk)
    · exact V_tableIn C (off := 1259) (tgt := 1299) dL_law_40 (by omega) (by omega) (by rw [h]; rfl) (by decide) (lb_placeAll C hl hs hk hW hn kk)
    · exact V_tableIn C (off := 1315) (tgt := 1355) dL_law_40 (by omega) (by omega) (by rw [h]; rfl) (by decide) (lb_visits C hl hs hk hW hn kk)
    · exact V_tableIn C (off := 1383) (tgt := 1423) dL_law_40 (by omega) (by omega) (by rw [h]; rfl) (by decide) (lb_came C hl hs hk hW hn kk)
    · exact V_tableIn C (off := 1419) (tgt := 1459) dL_law_40 (by omega) (by omega) (by rw [h]; rfl) (by decide) (lb_pay C hl hs hk hW hn kk)
    · exact V_tableIn C (off := 1487) (tgt := 1527) dL_law_40 (by omega) (by omega) (by rw [h]; rfl) (by decide) (lb_owed C hl hs hk hW hn kk)
    · exact V_tableIn C (off := 1543) (tgt := 1583) dL_law_40 (by omega) (by omega) (by rw [h]; rfl) (by decide) (lb_handOver C hl hs hk hW hn kk)
    · exact V_tableIn C (off := 1611) (tgt := 1651) dL_law_40 (by omega) (by omega) (by rw [h]; rfl) (by decide) (lb_load C hl hs hk hW hn kk)
    · exact V_tableIn C (off := 1667) (tgt := 1707) dL_law_40 (by omega) (by omega) (by rw [h]; rfl) (by decide) (lb_pass C hl hs hk hW hn kk)
    · exact V_tableIn C (off := 1723) (tgt := 1763) dL_law_40 (by omega) (by omega) (by rw [h]; rfl) (by decide) (lb_childIs C hl hs hk hW hn kk)
    · exact V_tableIn C (off := 1791) (tgt := 1831) dL_law_40 (by omega) (by omega) (by rw [h]; rfl) (by decide) (lb_stay C hl hs hk hW hn kk)
    · exact V_tableIn C (off := 1859) (tgt := 1899) dL_law_40 (by omega) (by omega) (by rw [h]; rfl) (by decide) (lb_wasAllowed C hl hs hk hW hn kk)
    · exact V_tableIn C (off := 1922) (tgt := 1962) dL_law_40 (by omega) (by omega) (by rw [h]; rfl) (by decide) (lb_blacken C hl hs hk hW hn kk)
    · exact V_tableIn C (off := 2013) (tgt := 2053) dL_law_40 (by omega) (by omega) (by rw [h]; rfl) (by decide) (lb_file C hl hs hk hW hn kk)
theorem hd_cmp {L j : Nat} (hL : L ≤ 3072) (hj : j ≤ 513) : (nI L - 6 < nI (6 * j)) ↔ L < 6 * j + 6 := by
  by_cases h : 6 ≤ L
  · have e : nI L - 6 = nI (L - 6) := by
      have h1 := nI_add (L - 6) 6
      rw [Nat.sub_add_cancel h] at h1
      rw [← h1]
      exact Int32.add_sub_cancel _ _
    rw [e, nI_ltI (by omega) (by omega)]
    omega
  · refine ⟨fun _ => by omega, fun _ => ?_⟩
    have h0 : nI L - 6 < 0 := by
      rcases (show L = 0 ∨ L = 1 ∨ L = 2 ∨ L = 3 ∨ L = 4 ∨ L = 5 by omega) with rfl | rfl | rfl | rfl | rfl | rfl <;> decide
    exact Int32.lt_of_lt_of_le h0 (nI_pos' (by omega))
theorem law_loop {L q : Nat} {xs : Nat → Int32} (C : Cx X G RL cL_law 7 (some .boolean) room_1 tb) (hl : X.2.1.stackTraces = false) (hL : L ≤ 3072) (hT : va_T .int b L (fun j => .int (xs j)) (wN G) X.2.2.2.2.1 G.2.2) (kend : ∀ (k n : Nat) (lo : lO) (S : sS), k ≤ 601024 → n ≤ 7293034 → V X G 7 Q k n 2127 lo [] S) : ∀ (r j : Nat) (S : sS) (ad : Nat → Nat → Nat) (σ : aS), j + r = 513 → LW S m c ad σ → ad 8 0 = q → cN σ 27 ≤ j → V X G 7 Q (100 + 40 * j) (20000 + 400 * j) 23 [(4, false, .int (nI (6 * j))), (3, false, .ref c), (2, false, .ref m), (1, false, .ref (q)), (0, false, .ref b)] [] S := by
  intro r
  induction r with
  | zero =>
    intro j S ad σ hj hW hq hn
    refine V_iload C dL_law_23 rfl ?_
    refine V_aload_n C dL_law_25 rfl (isR_r _) ?_
    refine V_xlen C hT dL_law_26 ?_
    refine V_bipush C (v := 6) dL_law_27 (by decide) ?_
    refine V_isub C dL_law_29 ?_
    refine V_icmp_gt C (tgt := 2127) dL_law_30 (by decide) (fun h => ?_) (fun h => ?_)
    · exact kend _ _ _ _ (by omega) (by omega)
    · exact absurd ((hd_cmp hL (by omega)).mpr (by omega)) h
  | succ r ih =>
    intro j S ad σ hj hW hq hn
    refine V_iload C dL_law_23 rfl ?_
    refine V_aload_n C dL_law_25 rfl (isR_r _) ?_
    refine V_xlen C hT dL_law_26 ?_
    refine V_bipush C (v := 6) dL_law_27 (by decide) ?_
    refine V_isub C dL_law_29 ?_
    refine V_icmp_gt C (tgt := 2127) dL_law_30 (by decide) (fun h => ?_) (fun h => ?_)
    · exact kend _ _ _ _ (by omega) (by omega)
    · have hx : 6 * j + 6 ≤ L := Nat.not_lt.mp fun z => h ((hd_cmp hL (by omega)).mpr z)
      have hin : ∀ u : Nat, u ≤ 5 → nI (6 * j) + Int32.ofInt (u : Int) = nI (6 * j + u) := fun u hu => by
        rw [← nI_add]
        rcases (show u = 0 ∨ u = 1 ∨ u = 2 ∨ u = 3 ∨ u = 4 ∨ u = 5 by omega) with rfl | rfl | rfl | rfl | rfl | rfl <;> rfl
      refine V_aload_n C dL_law_33 rfl (isR_r _) ?_
      refine V_iload C dL_law_34 rfl ?_
      refine V_xld C hT (v := xs (nI (6 * j)).toNatClampNeg) (nI_in (by omega) (by omega)) rfl dL_law_36 ?_
      refine V_bipush C (v := 31) dL_law_37 (by decide) ?_
      refine V_iand C dL_law_39 ?_
      subst hq
      refine law_br (y := fun u => xs (nI (6 * j) + Int32.ofInt (u : Int)).toNatClampNeg) C hl ⟨L, _, hT, fun u hu => ⟨by rw [hin u hu]; exact nI_in (by omega) (by omega), rfl⟩⟩ ⟨by omega, by omega⟩ hW (by omega) _ (fun T ad' σ' hW' hq' hn' => ?_)
      refine V_iinc C (v := nI (6 * (j + 1))) dL_law_2121 rfl (by rw [show 6 * (j + 1) = 6 * j + 6 by omega, ← nI_add]; rfl) (by decide) rfl ?_
      refine V_goto C (tgt := 23) dL_law_2124 (by decide) ?_
      exact V_widen (by omega) (by omega) (ih (j + 1) T ad' σ' (by omega) hW' hq' (by omega))
def S00 : sS := (fun _ => 0, fun _ => 0, fun _ _ => 0, fun _ _ => none, fun _ _ => 0, fun _ _ => 0, fun _ _ => none)
theorem Fr_E {P : Nat → Prop} {S T : sS} {q : Nat} (h : FrE S T q) (hz : P (sK S q)) : Fr P S T := fun a ha hp => h a ha fun e => hp (by rw [e]; exact hz)
theorem law_walk {L : Nat} {xs : Nat → Int32} (C : Cx X G RL cL_law 7 (some .boolean) room_1 tb) (hl : X.2.1.stackTraces = false) (hL : L ≤ 3072) (hT : va_T .int b L (fun j => .int (xs j)) (wN G) X.2.2.2.2.1 G.2.2) (kend : ∀ (k n : Nat) (lo : lO) (S : sS), k ≤ 601024 → n ≤ 7293034 → V X G 7 Q k n 2127 lo [] S) : V X G 7 Q 0 0 0 [(0, false, .ref b)] [] S00 := by
  refine V_new C 8 cf_8 nw_L_8 (by decide) (Nat.le_of_ble_eq_true rfl) (Nat.le_of_ble_eq_true rfl) dL_law_0 (fun q hq0 hq => ?_)
  refine V_dup C dL_law_3 rfl ?_
  refine V_callI C (c_X8_init X.2.1 hl G _ q up1_s (fun f => if_pos rfl)) ki_L_113 ⟨by decide, by decide⟩ ⟨Nat.le_of_ble_eq_true rfl, Nat.le_of_ble_eq_true rfl⟩ rfl rfl (Nat.le_of_ble_eq_true rfl) dL_law_4 (fun w T hT1 => ?_)
  obtain ⟨rfl, ⟨ad, e8, hC, hG⟩, hE⟩ := hT1
  refine V_astore_n C dL_law_7 (by decide) (isR_r _) rfl ?_
  refine V_new C 9 cf_9 nw_L_114 (by decide) (Nat.le_of_ble_eq_true rfl) (Nat.le_of_ble_eq_true rfl) dL_law_8 (fun m hm0 hm => ?_)
  refine V_dup C dL_law_11 rfl ?_
  refine V_callI C (c_X9_init X.2.1 hl G _ m up1_s (fun f => if_pos rfl)) ki_L_116 ⟨by decide, by decide⟩ ⟨Nat.le_of_ble_eq_true rfl, Nat.le_of_ble_eq_true rfl⟩ rfl rfl (Nat.le_of_ble_eq_true rfl) dL_law_12 (fun w U hU => ?_)
  obtain ⟨rfl, hR, hF⟩ := hU
  refine V_astore_n C dL_law_15 (by decide) (isR_r _) rfl ?_
  refine V_iconst C (v := 1) dL_law_16 (by decide) ?_
  refine V_newarr C 2003 (t := 3) (m := 1) rfl (by decide) (by decide) m_116 (by decide) (by decide) (by decide) (Nat.le_of_ble_eq_true rfl) (Nat.le_of_ble_eq_true rfl) dL_law_17 (fun c hc0 hc => ?_)
  refine V_astore_n C dL_law_19 (by decide) (isR_r _) rfl ?_
  refine V_iconst C (v := 0) dL_law_20 (by decide) ?_
  refine V_istore C dL_law_21 (by decide) rfl ?_
  have z1 : sK T m = 0 := hm m (Nat.le_refl m)
  have z2 : sK U c = 0 := hc c (Nat.le_refl c)
  have hF1 : Fr isM T U := Fr_tr (Fr_nO z1) hF
  have hF2 : Fr isM T (nA U 2003 1 c) := Fr_tr hF1 (Fr_nA z2)
  have hCU : RelC (nA U 2003 1 c) ad σ0 := RelC_fr hC hF2
  have hGU : GU (nA U 2003 1 c) ad := fun j hj => by
    have hk : sK T (ad 27 j) = 181 := hC.1 27 j (by decide) (by decide) (by decide) hj
    have e := (hF2 (ad 27 j) (by rw [hk]; decide) (by rw [hk]; unfold isM; omega)).2.2.2.2.1
    rw [e]
    exact hG j hj
  have hRU : RelR (nA U 2003 1 c) m σ0 := RelR_fr hR (Fr_nA z2)
  exact V_widen (Nat.le_of_ble_eq_true rfl) (Nat.le_of_ble_eq_true rfl) (law_loop C hl hL hT kend 513 0 (nA U 2003 1 c) ad σ0 rfl ⟨hRU, hCU, hGU, IW_0, up1_s, up1_s⟩ e8 (Nat.le_refl 0))
end VL8
