/-! THE LAW: its branches. -/
section VL9
variable {X : xX} {G : gG} {tb : List ExceptionTableEntry} {Q : State → Prop} {k n b m c : Nat} {i : Int32} {S : sS} {ad : Nat → Nat → Nat} {σ : aS}
theorem lb_why {y : Nat → Int32} (C : Cx X G RL cL_law 7 (some .boolean) room_1 tb) (hl : X.2.1.stackTraces = false) (hs : SC X G b i y) (hk : k + 40 ≤ 601024 ∧ n + 400 ≤ 7293034) (hW : LW S m c ad σ) (hn : cN σ 27 < 512) (kk : ∀ T ad' σ', LW T m c ad' σ' → ad' 8 0 = ad 8 0 → cN σ' 27 ≤ cN σ 27 + 1 → V X G 7 Q (k + 40) (n + 400) 2121 [(4, false, .int i), (3, false, .ref c), (2, false, .ref m), (1, false, .ref (ad 8 0)), (0, false, .ref b)] [] T) : V X G 7 Q k n 1039 [(4, false, .int i), (3, false, .ref c), (2, false, .ref m), (1, false, .ref (ad 8 0)), (0, false, .ref b)] [] S := by
  obtain ⟨hR, hC, hG, hI, hc⟩ := hW
  have hN : NX σ (oWhy σ (y 1) (y 2)).2 (tCH σ (y 1) (y 2)) := NX_Why (σ := σ) hI
  refine V_aload_n C dL_law_1039 rfl (isR_r _) ?_
  refine V_arg C hs 1 1 (by decide) dL_law_1040 dL_law_1041 dL_law_1043 dL_law_1044 dL_law_1045 ?_
  refine V_arg C hs 2 2 (by decide) dL_law_1046 dL_law_1047 dL_law_1049 dL_law_1050 dL_law_1051 ?_
  refine V_aload_n C dL_law_1052 rfl (isR_r _) ?_
  refine V_callH C (h_why X.2.1 hl G S ad σ hC hG hI c hc (y 1) (y 2)) kh_L_167 ⟨by decide, by decide⟩ ⟨Nat.le_trans (Nat.add_le_add_left (by decide) _) hk.1, Nat.le_trans (Nat.add_le_add_left (by decide) _) hk.2⟩ rfl rfl (Nat.le_of_ble_eq_true rfl) dL_law_1053 (fun v T hT => ?_)
  obtain ⟨rfl, hL, hcT, hJ⟩ := hT
  refine V_widen (k' := k + 40) (n' := n + 400) (Nat.add_le_add_left (by decide) _) (Nat.add_le_add_left (by decide) _) ?_
  dsimp only [Option.toList_some, Option.toList_none, List.cons_append, List.nil_append]
  have hRT : RelR T m σ := RelR_LH hR hL
  refine V_istore C dL_law_1056 (by decide) rfl ?_
  refine V_aload_n C dL_law_1058 rfl (isR_r _) ?_
  refine V_arg C hs 1 1 (by decide) dL_law_1059 dL_law_1060 dL_law_1062 dL_law_1063 dL_law_1064 ?_
  refine V_arg C hs 2 2 (by decide) dL_law_1065 dL_law_1066 dL_law_1068 dL_law_1069 dL_law_1070 ?_
  refine V_callV C (c_X9_why X.2.1 hl G T m σ hRT hI.1 (y 1) (y 2)) kv_L_169 cf_9 (by decide) rfl hRT.1 ⟨by decide, by decide⟩ ⟨hk.1, hk.2⟩ rfl rfl (Nat.le_of_ble_eq_true rfl) dL_law_1071 (fun w U hU => ?_) (fun _ _ z => z.elim)
  obtain ⟨rfl, hRU, hFU⟩ := hU
  dsimp only [Option.toList_some, Option.toList_none, List.cons_append, List.nil_append]
  refine V_istore C dL_law_1074 (by decide) rfl ?_
  refine V_aload_n C dL_law_1076 rfl (isR_r _) ?_
  refine V_callV C (c_X9_thrown X.2.1 hl G U m (oWhy σ (y 1) (y 2)).2 hRU) kv_L_123 cf_9 (by decide) rfl hRU.1 ⟨by decide, by decide⟩ ⟨hk.1, hk.2⟩ rfl rfl (Nat.le_of_ble_eq_true rfl) dL_law_1077 (fun w W9 hW9 => ?_) (fun _ _ z => z.elim)
  obtain ⟨rfl, hRW, hFW⟩ := hW9
  dsimp only [Option.toList_some, Option.toList_none, List.cons_append, List.nil_append]
  refine V_iload C dL_law_1080 rfl ?_
  refine V_icmp_eq C (tgt := 1087) dL_law_1082 (by decide) (fun _ => ?_) (fun z => absurd hN.2 z)
  have hF := Fr_tr hFU hFW
  have fin : ∀ lo9, lsub [(4, false, .int i), (3, false, .ref c), (2, false, .ref m), (1, false, .ref (ad 8 0)), (0, false, .ref b)] lo9 → V X G 7 Q (k + 40) (n + 400) 2121 lo9 [] W9 := fun lo9 h9 => V_sub h9 (lb_fin hL hcT hF ⟨hRW.1, hRW.2⟩ hN.1 kk)
  refine V_iload C dL_law_1087 rfl ?_
  refine V_if_ne C (tgt := 1104) dL_law_1089 (by decide) (fun _ => ?_) (fun h0 => ?_)
  · exact V_goto C (tgt := 2121) dL_law_1104 (by decide) (fin _ (by repeat first | exact trivial | refine ⟨rfl, ?_⟩))
  · refine V_aload_n C dL_law_1092 rfl (isR_r _) ?_
    refine V_iconst C (v := 0) dL_law_1093 (by decide) ?_
    obtain ⟨w1, w2, w3⟩ := row_M hcT hF
    refine V_lald C w1 (by decide) (by rw [w2]; exact (show ¬ ((0 : Int32) < 0 ∨ 1 ≤ Int32.toNatClampNeg 0) by decide)) dL_law_1094 ?_
    rw [show sJ W9 c (Int32.toNatClampNeg 0) = (oWhy σ (y 1) (y 2)).1.toInt64 from (w3 0).trans (hJ h0)]
    refine V_iload C dL_law_1095 rfl ?_
    refine V_i2l C dL_law_1097 ?_
    refine V_lcmp C dL_law_1098 ?_
    refine V_if_eq C (tgt := 1104) dL_law_1099 (by decide) (fun _ => ?_) (fun z => absurd (lc_self _) z)
    exact V_goto C (tgt := 2121) dL_law_1104 (by decide) (fin _ (by repeat first | exact trivial | refine ⟨rfl, ?_⟩))
theorem lb_worth {y : Nat → Int32} (C : Cx X G RL cL_law 7 (some .boolean) room_1 tb) (hl : X.2.1.stackTraces = false) (hs : SC X G b i y) (hk : k + 40 ≤ 601024 ∧ n + 400 ≤ 7293034) (hW : LW S m c ad σ) (hn : cN σ 27 < 512) (kk : ∀ T ad' σ', LW T m c ad' σ' → ad' 8 0 = ad 8 0 → cN σ' 27 ≤ cN σ 27 + 1 → V X G 7 Q (k + 40) (n + 400) 2121 [(4, false, .int i), (3, false, .ref c), (2, false, .ref m), (1, false, .ref (ad 8 0)), (0, false, .ref b)] [] T) : V X G 7 Q k n 1107 [(4, false, .int i), (3, false, .ref c), (2, false, .ref m), (1, false, .ref (ad 8 0)), (0, false, .ref b)] [] S := by
  obtain ⟨hR, hC, hG, hI, hc⟩ := hW
  have hN : NX σ (oWorth σ (y 1) (y 2)).2 (tCH σ (y 1) (y 2)) := NX_Worth (σ := σ) hI
  refine V_aload_n C dL_law_1107 rfl (isR_r _) ?_
  refine V_arg C hs 1 1 (by decide) dL_law_1108 dL_law_1109 dL_law_1111 dL_law_1112 dL_law_1113 ?_
  refine V_arg C hs 2 2 (by decide) dL_law_1114 dL_law_1115 dL_law_1117 dL_law_1118 dL_law_1119 ?_
  refine V_aload_n C dL_law_1120 rfl (isR_r _) ?_
  refine V_callH C (h_worth X.2.1 hl G S ad σ hC hG hI c hc (y 1) (y 2)) kh_L_170 ⟨by decide, by decide⟩ ⟨Nat.le_trans (Nat.add_le_add_left (by decide) _) hk.1, Nat.le_trans (Nat.add_le_add_left (by decide) _) hk.2⟩ rfl rfl (Nat.le_of_ble_eq_true rfl) dL_law_1121 (fun v T hT => ?_)
  obtain ⟨rfl, hL, hcT, hJ⟩ := hT
  refine V_widen (k' := k + 40) (n' := n + 400) (Nat.add_le_add_left (by decide) _) (Nat.add_le_add_left (by decide) _) ?_
  dsimp only [Option.toList_some, Option.toList_none, List.cons_append, List.nil_append]
  have hRT : RelR T m σ := RelR_LH hR hL
  refine V_istore C dL_law_1124 (by decide) rfl ?_
  refine V_aload_n C dL_law_1126 rfl (isR_r _) ?_
  refine V_arg C hs 1 1 (by decide) dL_law_1127 dL_law_1128 dL_law_1130 dL_law_1131 dL_law_1132 ?_
  refine V_arg C hs 2 2 (by decide) dL_law_1133 dL_law_1134 dL_law_1136 dL_law_1137 dL_law_1138 ?_
  refine V_callV C (c_X9_worth X.2.1 hl G T m σ hRT hI.1 (y 1) (y 2)) kv_L_172 cf_9 (by decide) rfl hRT.1 ⟨by decide, by decide⟩ ⟨hk.1, hk.2⟩ rfl rfl (Nat.le_of_ble_eq_true rfl) dL_law_1139 (fun w U hU => ?_) (fun _ _ z => z.elim)
  obtain ⟨rfl, hRU, hFU⟩ := hU
  dsimp only [Option.toList_some, Option.toList_none, List.cons_append, List.nil_append]
  refine V_istore C dL_law_1142 (by decide) rfl ?_
  refine V_aload_n C dL_law_1144 rfl (isR_r _) ?_
  refine V_callV C (c_X9_thrown X.2.1 hl G U m (oWorth σ (y 1) (y 2)).2 hRU) kv_L_123 cf_9 (by decide) rfl hRU.1 ⟨by decide, by decide⟩ ⟨hk.1, hk.2⟩ rfl rfl (Nat.le_of_ble_eq_true rfl) dL_law_1145 (fun w W9 hW9 => ?_) (fun _ _ z => z.elim)
  obtain ⟨rfl, hRW, hFW⟩ := hW9
  dsimp only [Option.toList_some, Option.toList_none, List.cons_append, List.nil_append]
  refine V_iload C dL_law_1148 rfl ?_
  refine V_icmp_eq C (tgt := 1155) dL_law_1150 (by decide) (fun _ => ?_) (fun z => absurd hN.2 z)
  have hF := Fr_tr hFU hFW
  have fin : ∀ lo9, lsub [(4, false, .int i), (3, false, .ref c), (2, false, .ref m), (1, false, .ref (ad 8 0)), (0, false, .ref b)] lo9 → V X G 7 Q (k + 40) (n + 400) 2121 lo9 [] W9 := fun lo9 h9 => V_sub h9 (lb_fin hL hcT hF ⟨hRW.1, hRW.2⟩ hN.1 kk)
  refine V_iload C dL_law_1155 rfl ?_
  refine V_if_ne C (tgt := 1172) dL_law_1157 (by decide) (fun _ => ?_) (fun h0 => ?_)
  · exact V_goto C (tgt := 2121) dL_law_1172 (by decide) (fin _ (by repeat first | exact trivial | refine ⟨rfl, ?_⟩))
  · refine V_aload_n C dL_law_1160 rfl (isR_r _) ?_
    refine V_iconst C (v := 0) dL_law_1161 (by decide) ?_
    obtain ⟨w1, w2, w3⟩ := row_M hcT hF
    refine V_lald C w1 (by decide) (by rw [w2]; exact (show ¬ ((0 : Int32) < 0 ∨ 1 ≤ Int32.toNatClampNeg 0) by decide)) dL_law_1162 ?_
    rw [show sJ W9 c (Int32.toNatClampNeg 0) = (oWorth σ (y 1) (y 2)).1.toInt64 from (w3 0).trans (hJ h0)]
    refine V_iload C dL_law_1163 rfl ?_
    refine V_i2l C dL_law_1165 ?_
    refine V_lcmp C dL_law_1166 ?_
    refine V_if_eq C (tgt := 1172) dL_law_1167 (by decide) (fun _ => ?_) (fun z => absurd (lc_self _) z)
    exact V_goto C (tgt := 2121) dL_law_1172 (by decide) (fin _ (by repeat first | exact trivial | refine ⟨rfl, ?_⟩))
theorem lb_best {y : Nat → Int32} (C : Cx X G RL cL_law 7 (some .boolean) room_1 tb) (hl : X.2.1.stackTraces = false) (hs : SC X G b i y) (hk : k + 40 ≤ 601024 ∧ n + 400 ≤ 7293034) (hW : LW S m c ad σ) (hn : cN σ 27 < 512) (kk : ∀ T ad' σ', LW T m c ad' σ' → ad' 8 0 = ad 8 0 → cN σ' 27 ≤ cN σ 27 + 1 → V X G 7 Q (k + 40) (n + 400) 2121 [(4, false, .int i), (3, false, .ref c), (2, false, .ref m), (1, false, .ref (ad 8 0)), (0, false, .ref b)] [] T) : V X G 7 Q k n 1175 [(4, false, .int i), (3, false, .ref c), (2, false, .ref m), (1, false, .ref (ad 8 0)), (0, false, .ref b)] [] S := by
  obtain ⟨hR, hC, hG, hI, hc⟩ := hW
  have hN : NX σ (oBest σ (y 1)).2 (tC σ (y 1)) := NX_Best (σ := σ) hI
  refine V_aload_n C dL_law_1175 rfl (isR_r _) ?_
  refine V_arg C hs 1 1 (by decide) dL_law_1176 dL_law_1177 dL_law_1179 dL_law_1180 dL_law_1181 ?_
  refine V_aload_n C dL_law_1182 rfl (isR_r _) ?_
  refine V_callH C (h_best X.2.1 hl G S ad σ hC hG hI c hc (y 1)) kh_L_173 ⟨by decide, by decide⟩ ⟨Nat.le_trans (Nat.add_le_add_left (by decide) _) hk.1, Nat.le_trans (Nat.add_le_add_left (by decide) _) hk.2⟩ rfl rfl (Nat.le_of_ble_eq_true rfl) dL_law_1183 (fun v T hT => ?_)
  obtain ⟨rfl, hL, hcT, hJ⟩ := hT
  refine V_widen (k' := k + 40) (n' := n + 400) (Nat.add_le_add_left (by decide) _) (Nat.add_le_add_left (by decide) _) ?_
  dsimp only [Option.toList_some, Option.toList_none, List.cons_append, List.nil_append]
  have hRT : RelR T m σ := RelR_LH hR hL
  refine V_istore C dL_law_1186 (by decide) rfl ?_
  refine V_aload_n C dL_law_1188 rfl (isR_r _) ?_
  refine V_arg C hs 1 1 (by decide) dL_law_1189 dL_law_1190 dL_law_1192 dL_law_1193 dL_law_1194 ?_
  refine V_callV C (c_X9_best X.2.1 hl G T m σ hRT hI.1 (y 1)) kv_L_175 cf_9 (by decide) rfl hRT.1 ⟨by decide, by decide⟩ ⟨hk.1, hk.2⟩ rfl rfl (Nat.le_of_ble_eq_true rfl) dL_law_1195 (fun w U hU => ?_) (fun _ _ z => z.elim)
  obtain ⟨rfl, hRU, hFU⟩ := hU
  dsimp only [Option.toList_some, Option.toList_none, List.cons_append, List.nil_append]
  refine V_istore C dL_law_1198 (by decide) rfl ?_
  refine V_aload_n C dL_law_1200 rfl (isR_r _) ?_
  refine V_callV C (c_X9_thrown X.2.1 hl G U m (oBest σ (y 1)).2 hRU) kv_L_123 cf_9 (by decide) rfl hRU.1 ⟨by decide, by decide⟩ ⟨hk.1, hk.2⟩ rfl rfl (Nat.le_of_ble_eq_true rfl) dL_law_1201 (fun w W9 hW9 => ?_) (fun _ _ z => z.elim)
  obtain ⟨rfl, hRW, hFW⟩ := hW9
  dsimp only [Option.toList_some, Option.toList_none, List.cons_append, List.nil_append]
  refine V_iload C dL_law_1204 rfl ?_
  refine V_icmp_eq C (tgt := 1211) dL_law_1206 (by decide) (fun _ => ?_) (fun z => absurd hN.2 z)
  have hF := Fr_tr hFU hFW
  have fin : ∀ lo9, lsub [(4, false, .int i), (3, false, .ref c), (2, false, .ref m), (1, false, .ref (ad 8 0)), (0, false, .ref b)] lo9 → V X G 7 Q (k + 40) (n + 400) 2121 lo9 [] W9 := fun lo9 h9 => V_sub h9 (lb_fin hL hcT hF ⟨hRW.1, hRW.2⟩ hN.1 kk)
  refine V_iload C dL_law_1211 rfl ?_
  refine V_if_ne C (tgt := 1228) dL_law_1213 (by decide) (fun _ => ?_) (fun h0 => ?_)
  · exact V_goto C (tgt := 2121) dL_law_1228 (by decide) (fin _ (by repeat first | exact trivial | refine ⟨rfl, ?_⟩))
  · refine V_aload_n C dL_law_1216 rfl (isR_r _) ?_
    refine V_iconst C (v := 0) dL_law_1217 (by decide) ?_
    obtain ⟨w1, w2, w3⟩ := row_M hcT hF
    refine V_lald C w1 (by decide) (by rw [w2]; exact (show ¬ ((0 : Int32) < 0 ∨ 1 ≤ Int32.toNatClampNeg 0) by decide)) dL_law_1218 ?_
    rw [show sJ W9 c (Int32.toNatClampNeg 0) = (oBest σ (y 1)).1.toInt64 from (w3 0).trans (hJ h0)]
    refine V_iload C dL_law_1219 rfl ?_
    refine V_i2l C dL_law_1221 ?_
    refine V_lcmp C dL_law_1222 ?_
    refine V_if_eq C (tgt := 1228) dL_law_1223 (by decide) (fun _ => ?_) (fun z => absurd (lc_self _) z)
    exact V_goto C (tgt := 2121) dL_law_1228 (by decide) (fin _ (by repeat first | exact trivial | refine ⟨rfl, ?_⟩))
theorem lb_place {y : Nat → Int32} (C : Cx X G RL cL_law 7 (some .boolean) room_1 tb) (hl : X.2.1.stackTraces = false) (hs : SC X G b i y) (hk : k + 40 ≤ 601024 ∧ n + 400 ≤ 7293034) (hW : LW S m c ad σ) (hn : cN σ 27 < 512) (kk : ∀ T ad' σ', LW T m c ad' σ' → ad' 8 0 = ad 8 0 → cN σ' 27 ≤ cN σ 27 + 1 → V X G 7 Q (k + 40) (n + 400) 2121 [(4, false, .int i), (3, false, .ref c), (2, false, .ref m), (1, false, .ref (ad 8 0)), (0, false, .ref b)] [] T) : V X G 7 Q k n 1231 [(4, false, .int i), (3, false, .ref c), (2, false, .ref m), (1, false, .ref (ad 8 0)), (0, false, .ref b)] [] S := by
  obtain ⟨hR, hC, hG, hI, hc⟩ := hW
  have hN : NX σ (oPlace σ (y 1) (y 2)).2 (tPlace σ (y 1) (y 2)) := NX_Place (σ := σ) hI
  refine V_aload_n C dL_law_1231 rfl (isR_r _) ?_
  refine V_arg C hs 1 1 (by decide) dL_law_1232 dL_law_1233 dL_law_1235 dL_law_1236 dL_law_1237 ?_
  refine V_arg C hs 2 2 (by decide) dL_law_1238 dL_law_1239 dL_law_1241 dL_law_1242 dL_law_1243 ?_
  refine V_aload_n C dL_law_1244 rfl (isR_r _) ?_
  refine V_callH C (h_place X.2.1 hl G S ad σ hC hG hI c hc (y 1) (y 2)) kh_L_176 ⟨by decide, by decide⟩ ⟨Nat.le_trans (Nat.add_le_add_left (by decide) _) hk.1, Nat.le_trans (Nat.add_le_add_left (by decide) _) hk.2⟩ rfl rfl (Nat.le_of_ble_eq_true rfl) dL_law_1245 (fun v T hT => ?_)
  obtain ⟨rfl, hL, hcT, hJ⟩ := hT
  refine V_widen (k' := k + 40) (n' := n + 400) (Nat.add_le_add_left (by decide) _) (Nat.add_le_add_left (by decide) _) ?_
  dsimp only [Option.toList_some, Option.toList_none, List.cons_append, List.nil_append]
  have hRT : RelR T m σ := RelR_LH hR hL
  refine V_istore C dL_law_1248 (by decide) rfl ?_
  refine V_aload_n C dL_law_1250 rfl (isR_r _) ?_
  refine V_arg C hs 1 1 (by decide) dL_law_1251 dL_law_1252 dL_law_1254 dL_law_1255 dL_law_1256 ?_
  refine V_arg C hs 2 2 (by decide) dL_law_1257 dL_law_1258 dL_law_1260 dL_law_1261 dL_law_1262 ?_
  refine V_callV C (c_X9_place X.2.1 hl G T m σ hRT hI.1 (y 1) (y 2)) kv_L_178 cf_9 (by decide) rfl hRT.1 ⟨by decide, by decide⟩ ⟨hk.1, hk.2⟩ rfl rfl (Nat.le_of_ble_eq_true rfl) dL_law_1263 (fun w U hU => ?_) (fun _ _ z => z.elim)
  obtain ⟨rfl, hRU, hFU⟩ := hU
  dsimp only [Option.toList_some, Option.toList_none, List.cons_append, List.nil_append]
  refine V_istore C dL_law_1266 (by decide) rfl ?_
  refine V_aload_n C dL_law_1268 rfl (isR_r _) ?_
  refine V_callV C (c_X9_thrown X.2.1 hl G U m (oPlace σ (y 1) (y 2)).2 hRU) kv_L_123 cf_9 (by decide) rfl hRU.1 ⟨by decide, by decide⟩ ⟨hk.1, hk.2⟩ rfl rfl (Nat.le_of_ble_eq_true rfl) dL_law_1269 (fun w W9 hW9 => ?_) (fun _ _ z => z.elim)
  obtain ⟨rfl, hRW, hFW⟩ := hW9
  dsimp only [Option.toList_some, Option.toList_none, List.cons_append, List.nil_append]
  refine V_iload C dL_law_1272 rfl ?_
  refine V_icmp_eq C (tgt := 1279) dL_law_1274 (by decide) (fun _ => ?_) (fun z => absurd hN.2 z)
  have hF := Fr_tr hFU hFW
  have fin : ∀ lo9, lsub [(4, false, .int i), (3, false, .ref c), (2, false, .ref m), (1, false, .ref (ad 8 0)), (0, false, .ref b)] lo9 → V X G 7 Q (k + 40) (n + 400) 2121 lo9 [] W9 := fun lo9 h9 => V_sub h9 (lb_fin hL hcT hF ⟨hRW.1, hRW.2⟩ hN.1 kk)
  refine V_iload C dL_law_1279 rfl ?_
  refine V_if_ne C (tgt := 1296) dL_law_1281 (by decide) (fun _ => ?_) (fun h0 => ?_)
  · exact V_goto C (tgt := 2121) dL_law_1296 (by decide) (fin _ (by repeat first | exact trivial | refine ⟨rfl, ?_⟩))
  · refine V_aload_n C dL_law_1284 rfl (isR_r _) ?_
    refine V_iconst C (v := 0) dL_law_1285 (by decide) ?_
    obtain ⟨w1, w2, w3⟩ := row_M hcT hF
    refine V_lald C w1 (by decide) (by rw [w2]; exact (show ¬ ((0 : Int32) < 0 ∨ 1 ≤ Int32.toNatClampNeg 0) by decide)) dL_law_1286 ?_
    rw [show sJ W9 c (Int32.toNatClampNeg 0) = (oPlace σ (y 1) (y 2)).1.toInt64 from (w3 0).trans (hJ h0)]
    refine V_iload C dL_law_1287 rfl ?_
    refine V_i2l C dL_law_1289 ?_
    refine V_lcmp C dL_law_1290 ?_
    refine V_if_eq C (tgt := 1296) dL_law_1291 (by decide) (fun _ => ?_) (fun z => absurd (lc_self _) z)
    exact V_goto C (tgt := 2121) dL_law_1296 (by decide) (fin _ (by repeat first | exact trivial | refine ⟨rfl, ?_⟩))
theorem lb_placeAll {y : Nat → Int32} (C : Cx X G RL cL_law 7 (some .boolean) room_1 tb) (hl : X.2.1.stackTraces = false) (hs : SC X G b i y) (hk : k + 40 ≤ 601024 ∧ n + 400 ≤ 7293034) (hW : LW S m c ad σ) (hn : cN σ 27 < 512) (kk : ∀ T ad' σ', LW T m c ad' σ' → ad' 8 0 = ad 8 0 → cN σ' 27 ≤ cN σ 27 + 1 → V X G 7 Q (k + 40) (n + 400) 2121 [(4, false, .int i), (3, false, .ref c), (2, false, .ref m), (1, false, .ref (ad 8 0)), (0, false, .ref b)] [] T) : V X G 7 Q k n 1299 [(4, false, .int i), (3, false, .ref c), (2, false, .ref m), (1, false, .ref (ad 8 0)), (0, false, .ref b)] [] S := by
  obtain ⟨hR, hC, hG, hI, hc⟩ := hW
  have hN : NX σ (oPlaceAll σ (y 1)).2 (paT σ (y 1)) := NX_PlaceAll (σ := σ) hI
  refine V_aload_n C dL_law_1299 rfl (isR_r _) ?_
  refine V_arg C hs 1 1 (by decide) dL_law_1300 dL_law_1301 dL_law_1303 dL_law_1304 dL_law_1305 ?_
  refine V_aload_n C dL_law_1306 rfl (isR_r _) ?_
  refine V_callH C (h_placeAll X.2.1 hl G S ad σ hC hG hI c hc (y 1)) kh_L_179 ⟨by decide, by decide⟩ ⟨Nat.le_trans (Nat.add_le_add_left (by decide) _) hk.1, Nat.le_trans (Nat.add_le_add_left (by decide) _) hk.2⟩ rfl rfl (Nat.le_of_ble_eq_true rfl) dL_law_1307 (fun v T hT => ?_)
  obtain ⟨rfl, hL, hcT, hJ⟩ := hT
  refine V_widen (k' := k + 40) (n' := n + 400) (Nat.add_le_add_left (by decide) _) (Nat.add_le_add_left (by decide) _) ?_
  dsimp only [Option.toList_some, Option.toList_none, List.cons_append, List.nil_append]
  have hRT : RelR T m σ := RelR_LH hR hL
  refine V_istore C dL_law_1310 (by decide) rfl ?_
  refine V_aload_n C dL_law_1312 rfl (isR_r _) ?_
  refine V_arg C hs 1 1 (by decide) dL_law_1313 dL_law_1314 dL_law_1316 dL_law_1317 dL_law_1318 ?_
  refine V_callV C (c_X9_placeAll X.2.1 hl G T m σ hRT hI.1 (y 1)) kv_L_181 cf_9 (by decide) rfl hRT.1 ⟨by decide, by decide⟩ ⟨hk.1, hk.2⟩ rfl rfl (Nat.le_of_ble_eq_true rfl) dL_law_1319 (fun w U hU => ?_) (fun _ _ z => z.elim)
  obtain ⟨rfl, hRU, hFU⟩ := hU
  dsimp only [Option.toList_some, Option.toList_none, List.cons_append, List.nil_append]
  refine V_istore C dL_law_1322 (by decide) rfl ?_
  refine V_aload_n C dL_law_1324 rfl (isR_r _) ?_
  refine V_callV C (c_X9_thrown X.2.1 hl G U m (oPlaceAll σ (y 1)).2 hRU) kv_L_123 cf_9 (by decide) rfl hRU.1 ⟨by decide, by decide⟩ ⟨hk.1, hk.2⟩ rfl rfl (Nat.le_of_ble_eq_true rfl) dL_law_1325 (fun w W9 hW9 => ?_) (fun _ _ z => z.elim)
  obtain ⟨rfl, hRW, hFW⟩ := hW9
  dsimp only [Option.toList_some, Option.toList_none, List.cons_append, List.nil_append]
  refine V_iload C dL_law_1328 rfl ?_
  refine V_icmp_eq C (tgt := 1335) dL_law_1330 (by decide) (fun _ => ?_) (fun z => absurd hN.2 z)
  have hF := Fr_tr hFU hFW
  have fin : ∀ lo9, lsub [(4, false, .int i), (3, false, .ref c), (2, false, .ref m), (1, false, .ref (ad 8 0)), (0, false, .ref b)] lo9 → V X G 7 Q (k + 40) (n + 400) 2121 lo9 [] W9 := fun lo9 h9 => V_sub h9 (lb_fin hL hcT hF ⟨hRW.1, hRW.2⟩ hN.1 kk)
  refine V_iload C dL_law_1335 rfl ?_
  refine V_if_ne C (tgt := 1352) dL_law_1337 (by decide) (fun _ => ?_) (fun h0 => ?_)
  · exact V_goto C (tgt := 2121) dL_law_1352 (by decide) (fin _ (by repeat first | exact trivial | refine ⟨rfl, ?_⟩))
  · refine V_aload_n C dL_law_1340 rfl (isR_r _) ?_
    refine V_iconst C (v := 0) dL_law_1341 (by decide) ?_
    obtain ⟨w1, w2, w3⟩ := row_M hcT hF
    refine V_lald C w1 (by decide) (by rw [w2]; exact (show ¬ ((0 : Int32) < 0 ∨ 1 ≤ Int32.toNatClampNeg 0) by decide)) dL_law_1342 ?_
    rw [show sJ W9 c (Int32.toNatClampNeg 0) = (oPlaceAll σ (y 1)).1.toInt64 from (w3 0).trans (hJ h0)]
    refine V_iload C dL_law_1343 rfl ?_
    refine V_i2l C dL_law_1345 ?_
    refine V_lcmp C dL_law_1346 ?_
    refine V_if_eq C (tgt := 1352) dL_law_1347 (by decide) (fun _ => ?_) (fun z => absurd (lc_self _) z)
    exact V_goto C (tgt := 2121) dL_law_1352 (by decide) (fin _ (by repeat first | exact trivial | refine ⟨rfl, ?_⟩))
theorem lb_visits {y : Nat → Int32} (C : Cx X G RL cL_law 7 (some .boolean) room_1 tb) (hl : X.2.1.stackTraces = false) (hs : SC X G b i y) (hk : k + 40 ≤ 601024 ∧ n + 400 ≤ 7293034) (hW : LW S m c ad σ) (hn : cN σ 27 < 512) (kk : ∀ T ad' σ', LW T m c ad' σ' → ad' 8 0 = ad 8 0 → cN σ' 27 ≤ cN σ 27 + 1 → V X G 7 Q (k + 40) (n + 400) 2121 [(4, false, .int i), (3, false, .ref c), (2, false, .ref m), (1, false, .ref (ad 8 0)), (0, false, .ref b)] [] T) : V X G 7 Q k n 1355 [(4, false, .int i), (3, false, .ref c), (2, false, .ref m), (1, false, .ref (ad 8 0)), (0, false, .ref b)] [] S := by
  obtain ⟨hR, hC, hG, hI, hc⟩ := hW
  have hN : NX σ (oVisits σ (y 1) (y 2)).2 (tVisits σ (y 1) (y 2)) := NX_Visits (σ := σ) hI
  refine V_aload_n C dL_law_1355 rfl (isR_r _) ?_
  refine V_arg C hs 1 1 (by decide) dL_law_1356 dL_law_1357 dL_law_1359 dL_law_1360 dL_law_1361 ?_
  refine V_arg C hs 2 2 (by decide) dL_law_1362 dL_law_1363 dL_law_1365 dL_law_1366 dL_law_1367 ?_
  refine V_aload_n C dL_law_1368 rfl (isR_r _) ?_
  refine V_callH C (h_visits X.2.1 hl G S ad σ hC hG hI c hc (y 1) (y 2)) kh_L_182 ⟨by decide, by decide⟩ ⟨Nat.le_trans (Nat.add_le_add_left (by decide) _) hk.1, Nat.le_trans (Nat.add_le_add_left (by decide) _) hk.2⟩ rfl rfl (Nat.le_of_ble_eq_true rfl) dL_law_1369 (fun v T hT => ?_)
  obtain ⟨rfl, hL, hcT, hJ⟩ := hT
  refine V_widen (k' := k + 40) (n' := n + 400) (Nat.add_le_add_left (by decide) _) (Nat.add_le_add_left (by decide) _) ?_
  dsimp only [Option.toList_some, Option.toList_none, List.cons_append, List.nil_append]
  have hRT : RelR T m σ := RelR_LH hR hL
  refine V_istore C dL_law_1372 (by decide) rfl ?_
  refine V_aload_n C dL_law_1374 rfl (isR_r _) ?_
  refine V_arg C hs 1 1 (by decide) dL_law_1375 dL_law_1376 dL_law_1378 dL_law_1379 dL_law_1380 ?_
  refine V_arg C hs 2 2 (by decide) dL_law_1381 dL_law_1382 dL_law_1384 dL_law_1385 dL_law_1386 ?_
  refine V_callV C (c_X9_visits X.2.1 hl G T m σ hRT hI.1 (y 1) (y 2)) kv_L_184 cf_9 (by decide) rfl hRT.1 ⟨by decide, by decide⟩ ⟨hk.1, hk.2⟩ rfl rfl (Nat.le_of_ble_eq_true rfl) dL_law_1387 (fun w U hU => ?_) (fun _ _ z => z.elim)
  obtain ⟨rfl, hRU, hFU⟩ := hU
  dsimp only [Option.toList_some, Option.toList_none, List.cons_append, List.nil_append]
  refine V_istore C dL_law_1390 (by decide) rfl ?_
  refine V_aload_n C dL_law_1392 rfl (isR_r _) ?_
  refine V_callV C (c_X9_thrown X.2.1 hl G U m (oVisits σ (y 1) (y 2)).2 hRU) kv_L_123 cf_9 (by decide) rfl hRU.1 ⟨by decide, by decide⟩ ⟨hk.1, hk.2⟩ rfl rfl (Nat.le_of_ble_eq_true rfl) dL_law_1393 (fun w W9 hW9 => ?_) (fun _ _ z => z.elim)
  obtain ⟨rfl, hRW, hFW⟩ := hW9
  dsimp only [Option.toList_some, Option.toList_none, List.cons_append, List.nil_append]
  refine V_iload C dL_law_1396 rfl ?_
  refine V_icmp_eq C (tgt := 1403) dL_law_1398 (by decide) (fun _ => ?_) (fun z => absurd hN.2 z)
  have hF := Fr_tr hFU hFW
  have fin : ∀ lo9, lsub [(4, false, .int i), (3, false, .ref c), (2, false, .ref m), (1, false, .ref (ad 8 0)), (0, false, .ref b)] lo9 → V X G 7 Q (k + 40) (n + 400) 2121 lo9 [] W9 := fun lo9 h9 => V_sub h9 (lb_fin hL hcT hF ⟨hRW.1, hRW.2⟩ hN.1 kk)
  refine V_iload C dL_law_1403 rfl ?_
  refine V_if_ne C (tgt := 1420) dL_law_1405 (by decide) (fun _ => ?_) (fun h0 => ?_)
  · exact V_goto C (tgt := 2121) dL_law_1420 (by decide) (fin _ (by repeat first | exact trivial | refine ⟨rfl, ?_⟩))
  · refine V_aload_n C dL_law_1408 rfl (isR_r _) ?_
    refine V_iconst C (v := 0) dL_law_1409 (by decide) ?_
    obtain ⟨w1, w2, w3⟩ := row_M hcT hF
    refine V_lald C w1 (by decide) (by rw [w2]; exact (show ¬ ((0 : Int32) < 0 ∨ 1 ≤ Int32.toNatClampNeg 0) by decide)) dL_law_1410 ?_
    rw [show sJ W9 c (Int32.toNatClampNeg 0) = (oVisits σ (y 1) (y 2)).1.toInt64 from (w3 0).trans (hJ h0)]
    refine V_iload C dL_law_1411 rfl ?_
    refine V_i2l C dL_law_1413 ?_
    refine V_lcmp C dL_law_1414 ?_
    refine V_if_eq C (tgt := 1420) dL_law_1415 (by decide) (fun _ => ?_) (fun z => absurd (lc_self _) z)
    exact V_goto C (tgt := 2121) dL_law_1420 (by decide) (fin _ (by repeat first | exact trivial | refine ⟨rfl, ?_⟩))
end VL9
