/-! THE LAW: its helpers. The long row has a kind of its own. -/
def isL (k : Nat) : Prop := isC k ∨ k = 2003
def LH (S : sS) (ad : Nat → Nat → Nat) (σ' : aS) (T : sS) : Prop := ∃ ad', ad' 8 0 = ad 8 0 ∧ RelC T ad' σ' ∧ GU T ad' ∧ Fr isL S T
theorem LH_Q {S T : sS} {ad : Nat → Nat → Nat} {σ' : aS} (h : LQ S ad σ' T) : LH S ad σ' T := by
  obtain ⟨ad', h1, h2, h3, h4⟩ := h
  exact ⟨ad', h1, h2, h3, fun a ha hn => h4 a ha fun z => hn (Or.inl z)⟩
theorem LH_J {S T : sS} {ad : Nat → Nat → Nat} {σ' : aS} {c : Nat} {v : Int64} (h : LQ S ad σ' T) (hc : sK S c = 2003) : LH S ad σ' (pJ T c 0 v) := by
  obtain ⟨ad', h1, h2, h3, h4⟩ := h
  refine ⟨ad', h1, h2, h3, fun a ha hn => ?_⟩
  obtain ⟨b1, b2, b3, b4, b5, b6, b7⟩ := h4 a ha fun z => hn (Or.inl z)
  have na : a ≠ c := fun e => hn (Or.inr (by rw [e]; exact hc))
  exact ⟨b1, b2, b3, b4, b5, (up2_f na).trans b6, b7⟩
theorem LQ_c {S T : sS} {ad : Nat → Nat → Nat} {σ' : aS} {c : Nat} (h : LQ S ad σ' T) (hc : sK S c = 2003 ∧ sL S c = 1) : sK T c = 2003 ∧ sL T c = 1 := by
  obtain ⟨ad', h1, h2, h3, h4⟩ := h
  obtain ⟨b1, b2, -⟩ := h4 c (by rw [hc.1]; decide) (by rw [hc.1]; unfold isC; omega)
  exact ⟨b1.trans hc.1, b2.trans hc.2⟩
/-- what a helper that writes the long row gives; one that does not -/
def HJ (S : sS) (ad : Nat → Nat → Nat) (c : Nat) (t a : Int32) (σ' : aS) (v : Option Value) (T : sS) : Prop := v = some (.int t) ∧ LH S ad σ' T ∧ (sK T c = 2003 ∧ sL T c = 1) ∧ (t = 0 → sJ T c 0 = a.toInt64)
def HN (S : sS) (ad : Nat → Nat → Nat) (c : Nat) (t : Int32) (σ' : aS) (v : Option Value) (T : sS) : Prop := v = some (.int t) ∧ LH S ad σ' T ∧ (sK T c = 2003 ∧ sL T c = 1)
theorem h_placeAll (l : Launch) (hl : l.stackTraces = false) (G : gG) (S : sS) (ad : Nat → Nat → Nat) (σ : aS) (hC : RelC S ad σ) (hG : GU S ad) (hW : IW σ) (c : Nat) (hc : sK S c = 2003 ∧ sL S c = 1) (x : Int32) : Ch l G yL_placeAll cL_placeAll 4 (Option.some FieldType.int) [(0, 9, 12, 13), (0, 9, 15, 15)] 9 40 400 [.ref (ad 8 0), .int x, .ref c] S (HJ S ad c (paT σ x) ((oPlaceAll σ x).1) ((oPlaceAll σ x).2)) := by
  refine Ch_of (by decide) (cat1_all (by repeat first | exact trivial | refine ⟨by first | rfl | exact isR_c (isR_r _), ?_⟩)) (Nat.le_of_ble_eq_true rfl) hl fun X C hXl => ?_
  subst hXl
  dsimp only [lArgs, Nat.reduceAdd]
  refine V_aload_n C dL_placeAll_0 rfl (by first | exact isR_r _ | exact isR_q _ | exact isR_n) ?_
  refine V_iconst C (v := 0) dL_placeAll_1 (by decide) ?_
  refine V_aload_n C dL_placeAll_2 rfl (by first | exact isR_r _ | exact isR_q _ | exact isR_n) ?_
  refine V_iload_n C dL_placeAll_3 rfl ?_
  refine V_callV C (u_placeAll _ hl G S ad σ hC hG hW x) kv_L_72 cf_8 (by decide) rfl (RelC_K hC 8 (by decide) rfl) (by decide) (by decide) rfl rfl (Nat.le_of_ble_eq_true rfl) dL_placeAll_4 (fun w T hT => ?_) (fun E T hT => ?_)
  · obtain ⟨e, rfl, hL⟩ := hT
    have hcT := LQ_c hL hc
    dsimp only [Option.toList_some, Option.toList_none, List.cons_append, List.nil_append]
    refine V_i2l C dL_placeAll_7 ?_
    refine V_last C hcT.1 (by decide) (by rw [hcT.2]; exact (show ¬ ((0 : Int32) < 0 ∨ 1 ≤ Int32.toNatClampNeg 0) by decide)) dL_placeAll_8 ?_
    refine V_goto C (tgt := 18) dL_placeAll_9 (by decide) ?_
    refine V_iconst C (v := 0) dL_placeAll_18 (by decide) ?_
    refine V_iret C (by decide) (by decide) dL_placeAll_19 ?_
    exact ⟨by rw [e], LH_J hL hc.1, hcT, fun _ => up2_s⟩
  · obtain ⟨hx, hL⟩ := hT
    have hcT := LQ_c hL hc
    rcases hx with ⟨e, q⟩ | ⟨e, q⟩ | ⟨e, q⟩
    · cases q
      refine VX_catch C [] (0, 9, 12, 13) [(0, 9, 15, 15)] rfl (fun z hz => nomatch hz) (by decide) (by decide) hl_13 (by decide) (fun q => ?_)
      refine V_astore_n C dL_placeAll_12 (by decide) (by first | exact isR_r _ | exact isR_q _ | exact isR_n) rfl ?_
      refine V_iconst C (v := 1) dL_placeAll_13 (by decide) ?_
      refine V_iret C (by decide) (by decide) dL_placeAll_14 ?_
      exact ⟨by rw [e], LH_Q hL, hcT, fun z => by rw [e] at z; exact absurd z (by decide)⟩
    · cases q
      refine VX_catch C [(0, 9, 12, 13)] (0, 9, 15, 15) [] rfl (fun z hz => by rw [List.mem_singleton.mp hz]; exact ⟨by decide, eA, by decide, by decide, hl_13⟩) (by decide) (by decide) hl_15 (by decide) (fun q => ?_)
      refine V_astore_n C dL_placeAll_15 (by decide) (by first | exact isR_r _ | exact isR_q _ | exact isR_n) rfl ?_
      refine V_iconst C (v := 2) dL_placeAll_16 (by decide) ?_
      refine V_iret C (by decide) (by decide) dL_placeAll_17 ?_
      exact ⟨by rw [e], LH_Q hL, hcT, fun z => by rw [e] at z; exact absurd z (by decide)⟩
    · cases q
theorem h_wasAllowed (l : Launch) (hl : l.stackTraces = false) (G : gG) (S : sS) (ad : Nat → Nat → Nat) (σ : aS) (hC : RelC S ad σ) (hG : GU S ad) (hW : IW σ) (c : Nat) (hc : sK S c = 2003 ∧ sL S c = 1) (x : Int32) (ha : (oWas σ x).1 = 0 ∨ (oWas σ x).1 = 1) : Ch l G yL_wasAllowed cL_wasAllowed 4 (Option.some FieldType.int) [(0, 16, 19, 25)] 8 1 6 [.ref (ad 8 0), .int x, .ref c] S (HJ S ad c (tSt σ x) ((oWas σ x).1) ((oWas σ x).2)) := by
  refine Ch_of (by decide) (cat1_all (by repeat first | exact trivial | refine ⟨by first | rfl | exact isR_c (isR_r _), ?_⟩)) (Nat.le_of_ble_eq_true rfl) hl fun X C hXl => ?_
  subst hXl
  dsimp only [lArgs, Nat.reduceAdd]
  refine V_aload_n C dL_wasAllowed_0 rfl (by first | exact isR_r _ | exact isR_q _ | exact isR_n) ?_
  refine V_iconst C (v := 0) dL_wasAllowed_1 (by decide) ?_
  refine V_aload_n C dL_wasAllowed_2 rfl (by first | exact isR_r _ | exact isR_q _ | exact isR_n) ?_
  refine V_iload_n C dL_wasAllowed_3 rfl ?_
  refine V_callV C (u_wasAllowed _ hl G S ad σ hC hG hW x) kv_L_103 cf_8 (by decide) rfl (RelC_K hC 8 (by decide) rfl) (by decide) (by decide) rfl rfl (Nat.le_of_ble_eq_true rfl) dL_wasAllowed_4 (fun w T hT => ?_) (fun E T hT => ?_)
  · obtain ⟨e, rfl, hL⟩ := hT
    have hcT := LQ_c hL hc
    dsimp only [Option.toList_some, Option.toList_none, List.cons_append, List.nil_append]
    refine V_if_eq C (tgt := 14) dL_wasAllowed_7 (by decide) (fun h9 => ?_) (fun h9 => ?_)
    ·
      refine V_lconst C (v := 0) dL_wasAllowed_14 (by decide) ?_
      refine V_last C hcT.1 (by decide) (by rw [hcT.2]; exact (show ¬ ((0 : Int32) < 0 ∨ 1 ≤ Int32.toNatClampNeg 0) by decide)) dL_wasAllowed_15 ?_
      refine V_goto C (tgt := 22) dL_wasAllowed_16 (by decide) ?_
      refine V_iconst C (v := 0) dL_wasAllowed_22 (by decide) ?_
      refine V_iret C (by decide) (by decide) dL_wasAllowed_23 ?_
      exact ⟨by rw [e], LH_J hL hc.1, hcT, fun _ => by rw [h9]; exact up2_s⟩
    ·
      refine V_lconst C (v := 1) dL_wasAllowed_10 (by decide) ?_
      refine V_goto C (tgt := 15) dL_wasAllowed_11 (by decide) ?_
      refine V_last C hcT.1 (by decide) (by rw [hcT.2]; exact (show ¬ ((0 : Int32) < 0 ∨ 1 ≤ Int32.toNatClampNeg 0) by decide)) dL_wasAllowed_15 ?_
      refine V_goto C (tgt := 22) dL_wasAllowed_16 (by decide) ?_
      refine V_iconst C (v := 0) dL_wasAllowed_22 (by decide) ?_
      refine V_iret C (by decide) (by decide) dL_wasAllowed_23 ?_
      exact ⟨by rw [e], LH_J hL hc.1, hcT, fun _ => by rw [(ha.resolve_left h9)]; exact up2_s⟩
  · obtain ⟨hx, hL⟩ := hT
    have hcT := LQ_c hL hc
    rcases hx with ⟨e, q⟩ | ⟨e, q⟩ | ⟨e, q⟩
    · cases q
      refine VX_catch C [] (0, 16, 19, 25) [] rfl (fun z hz => nomatch hz) (by decide) (by decide) hl_25 (by decide) (fun q => ?_)
      refine V_astore_n C dL_wasAllowed_19 (by decide) (by first | exact isR_r _ | exact isR_q _ | exact isR_n) rfl ?_
      refine V_iconst C (v := 1) dL_wasAllowed_20 (by decide) ?_
      refine V_iret C (by decide) (by decide) dL_wasAllowed_21 ?_
      exact ⟨by rw [e], LH_Q hL, hcT, fun z => by rw [e] at z; exact absurd z (by decide)⟩
    · cases q
    · cases q
theorem h_see (l : Launch) (hl : l.stackTraces = false) (G : gG) (S : sS) (ad : Nat → Nat → Nat) (σ : aS) (hC : RelC S ad σ) (hG : GU S ad) (hW : IW σ) (c : Nat) (hc : sK S c = 2003 ∧ sL S c = 1) (x : Int32) (ha : (oSee σ x).1 = 0 ∨ (oSee σ x).1 = 1) : Ch l G yL_see cL_see 4 (Option.some FieldType.int) [(0, 16, 19, 25)] 8 1 6 [.ref (ad 8 0), .int x, .ref c] S (HJ S ad c (tC σ x) ((oSee σ x).1) ((oSee σ x).2)) := by
  refine Ch_of (by decide) (cat1_all (by repeat first | exact trivial | refine ⟨by first | rfl | exact isR_c (isR_r _), ?_⟩)) (Nat.le_of_ble_eq_true rfl) hl fun X C hXl => ?_
  subst hXl
  dsimp only [lArgs, Nat.reduceAdd]
  refine V_aload_n C dL_see_0 rfl (by first | exact isR_r _ | exact isR_q _ | exact isR_n) ?_
  refine V_iconst C (v := 0) dL_see_1 (by decide) ?_
  refine V_aload_n C dL_see_2 rfl (by first | exact isR_r _ | exact isR_q _ | exact isR_n) ?_
  refine V_iload_n C dL_see_3 rfl ?_
  refine V_callV C (u_see _ hl G S ad σ hC hG hW x) kv_L_37 cf_8 (by decide) rfl (RelC_K hC 8 (by decide) rfl) (by decide) (by decide) rfl rfl (Nat.le_of_ble_eq_true rfl) dL_see_4 (fun w T hT => ?_) (fun E T hT => ?_)
  · obtain ⟨e, rfl, hL⟩ := hT
    have hcT := LQ_c hL hc
    dsimp only [Option.toList_some, Option.toList_none, List.cons_append, List.nil_append]
    refine V_if_eq C (tgt := 14) dL_see_7 (by decide) (fun h9 => ?_) (fun h9 => ?_)
    ·
      refine V_lconst C (v := 0) dL_see_14 (by decide) ?_
      refine V_last C hcT.1 (by decide) (by rw [hcT.2]; exact (show ¬ ((0 : Int32) < 0 ∨ 1 ≤ Int32.toNatClampNeg 0) by decide)) dL_see_15 ?_
      refine V_goto C (tgt := 22) dL_see_16 (by decide) ?_
      refine V_iconst C (v := 0) dL_see_22 (by decide) ?_
      refine V_iret C (by decide) (by decide) dL_see_23 ?_
      exact ⟨by rw [e], LH_J hL hc.1, hcT, fun _ => by rw [h9]; exact up2_s⟩
    ·
      refine V_lconst C (v := 1) dL_see_10 (by decide) ?_
      refine V_goto C (tgt := 15) dL_see_11 (by decide) ?_
      refine V_last C hcT.1 (by decide) (by rw [hcT.2]; exact (show ¬ ((0 : Int32) < 0 ∨ 1 ≤ Int32.toNatClampNeg 0) by decide)) dL_see_15 ?_
      refine V_goto C (tgt := 22) dL_see_16 (by decide) ?_
      refine V_iconst C (v := 0) dL_see_22 (by decide) ?_
      refine V_iret C (by decide) (by decide) dL_see_23 ?_
      exact ⟨by rw [e], LH_J hL hc.1, hcT, fun _ => by rw [(ha.resolve_left h9)]; exact up2_s⟩
  · obtain ⟨hx, hL⟩ := hT
    have hcT := LQ_c hL hc
    rcases hx with ⟨e, q⟩ | ⟨e, q⟩ | ⟨e, q⟩
    · cases q
      refine VX_catch C [] (0, 16, 19, 25) [] rfl (fun z hz => nomatch hz) (by decide) (by decide) hl_25 (by decide) (fun q => ?_)
      refine V_astore_n C dL_see_19 (by decide) (by first | exact isR_r _ | exact isR_q _ | exact isR_n) rfl ?_
      refine V_iconst C (v := 1) dL_see_20 (by decide) ?_
      refine V_iret C (by decide) (by decide) dL_see_21 ?_
      exact ⟨by rw [e], LH_Q hL, hcT, fun z => by rw [e] at z; exact absurd z (by decide)⟩
    · cases q
    · cases q
theorem h_blacken (l : Launch) (hl : l.stackTraces = false) (G : gG) (S : sS) (ad : Nat → Nat → Nat) (σ : aS) (hC : RelC S ad σ) (hG : GU S ad) (hW : IW σ) (c : Nat) (hc : sK S c = 2003 ∧ sL S c = 1) (x b : Int32) (ha : (oBlacken σ x b).1 = 0 ∨ (oBlacken σ x b).1 = 1) (hb : b = 0 ∨ b = 1) : Ch l G yL_blacken cL_blacken 5 (Option.some FieldType.int) [(0, 17, 20, 25)] 8 1 6 [.ref (ad 8 0), .int x, .int b, .ref c] S (HJ S ad c (tH σ x) ((oBlacken σ x b).1) ((oBlacken σ x b).2)) := by
  refine Ch_of (by decide) (cat1_all (by repeat first | exact trivial | refine ⟨by first | rfl | exact isR_c (isR_r _), ?_⟩)) (Nat.le_of_ble_eq_true rfl) hl fun X C hXl => ?_
  subst hXl
  dsimp only [lArgs, Nat.reduceAdd]
  refine V_aload_n C dL_blacken_0 rfl (by first | exact isR_r _ | exact isR_q _ | exact isR_n) ?_
  refine V_iconst C (v := 0) dL_blacken_1 (by decide) ?_
  refine V_aload_n C dL_blacken_2 rfl (by first | exact isR_r _ | exact isR_q _ | exact isR_n) ?_
  refine V_iload_n C dL_blacken_3 rfl ?_
  refine V_iload_n C dL_blacken_4 rfl ?_
  refine V_callV C (u_blacken _ hl G S ad σ hC hG hW x b hb) kv_L_106 cf_8 (by decide) rfl (RelC_K hC 8 (by decide) rfl) (by decide) (by decide) rfl rfl (Nat.le_of_ble_eq_true rfl) dL_blacken_5 (fun w T hT => ?_) (fun E T hT => ?_)
  · obtain ⟨e, rfl, hL⟩ := hT
    have hcT := LQ_c hL hc
    dsimp only [Option.toList_some, Option.toList_none, List.cons_append, List.nil_append]
    refine V_if_eq C (tgt := 15) dL_blacken_8 (by decide) (fun h9 => ?_) (fun h9 => ?_)
    ·
      refine V_lconst C (v := 0) dL_blacken_15 (by decide) ?_
      refine V_last C hcT.1 (by decide) (by rw [hcT.2]; exact (show ¬ ((0 : Int32) < 0 ∨ 1 ≤ Int32.toNatClampNeg 0) by decide)) dL_blacken_16 ?_
      refine V_goto C (tgt := 24) dL_blacken_17 (by decide) ?_
      refine V_iconst C (v := 0) dL_blacken_24 (by decide) ?_
      refine V_iret C (by decide) (by decide) dL_blacken_25 ?_
      exact ⟨by rw [e], LH_J hL hc.1, hcT, fun _ => by rw [h9]; exact up2_s⟩
    ·
      refine V_lconst C (v := 1) dL_blacken_11 (by decide) ?_
      refine V_goto C (tgt := 16) dL_blacken_12 (by decide) ?_
      refine V_last C hcT.1 (by decide) (by rw [hcT.2]; exact (show ¬ ((0 : Int32) < 0 ∨ 1 ≤ Int32.toNatClampNeg 0) by decide)) dL_blacken_16 ?_
      refine V_goto C (tgt := 24) dL_blacken_17 (by decide) ?_
      refine V_iconst C (v := 0) dL_blacken_24 (by decide) ?_
      refine V_iret C (by decide) (by decide) dL_blacken_25 ?_
      exact ⟨by rw [e], LH_J hL hc.1, hcT, fun _ => by rw [(ha.resolve_left h9)]; exact up2_s⟩
  · obtain ⟨hx, hL⟩ := hT
    have hcT := LQ_c hL hc
    rcases hx with ⟨e, q⟩ | ⟨e, q⟩ | ⟨e, q⟩
    · cases q
      refine VX_catch C [] (0, 17, 20, 25) [] rfl (fun z hz => nomatch hz) (by decide) (by decide) hl_25 (by decide) (fun q => ?_)
      refine V_astore C dL_blacken_20 (by decide) (by first | exact isR_r _ | exact isR_q _ | exact isR_n) rfl ?_
      refine V_iconst C (v := 1) dL_blacken_22 (by decide) ?_
      refine V_iret C (by decide) (by decide) dL_blacken_23 ?_
      exact ⟨by rw [e], LH_Q hL, hcT, fun z => by rw [e] at z; exact absurd z (by decide)⟩
    · cases q
    · cases q
theorem h_report (l : Launch) (hl : l.stackTraces = false) (G : gG) (S : sS) (ad : Nat → Nat → Nat) (σ : aS) (hC : RelC S ad σ) (hG : GU S ad) (hW : IW σ) (c : Nat) (hc : sK S c = 2003 ∧ sL S c = 1) (x a b : Int32) : Ch l G yL_report cL_report 6 (Option.some FieldType.int) [(0, 12, 15, 25), (0, 12, 19, 13), (0, 12, 23, 15)] 8 4 30 [.ref (ad 8 0), .int x, .int a, .int b, .ref c] S (HJ S ad c (tReport σ x a b) ((oReport σ x a b).1) ((oReport σ x a b).2)) := by
  refine Ch_of (by decide) (cat1_all (by repeat first | exact trivial | refine ⟨by first | rfl | exact isR_c (isR_r _), ?_⟩)) (Nat.le_of_ble_eq_true rfl) hl fun X C hXl => ?_
  subst hXl
  dsimp only [lArgs, Nat.reduceAdd]
  refine V_aload C dL_report_0 rfl (by first | exact isR_r _ | exact isR_q _ | exact isR_n) ?_
  refine V_iconst C (v := 0) dL_report_2 (by decide) ?_
  refine V_aload_n C dL_report_3 rfl (by first | exact isR_r _ | exact isR_q _ | exact isR_n) ?_
  refine V_iload_n C dL_report_4 rfl ?_
  refine V_iload_n C dL_report_5 rfl ?_
  refine V_iload_n C dL_report_6 rfl ?_
  refine V_callV C (u_report _ hl G S ad σ hC hG hW x a b) kv_L_34 cf_8 (by decide) rfl (RelC_K hC 8 (by decide) rfl) (by decide) (by decide) rfl rfl (Nat.le_of_ble_eq_true rfl) dL_report_7 (fun w T hT => ?_) (fun E T hT => ?_)
  · obtain ⟨e, rfl, hL⟩ := hT
    have hcT := LQ_c hL hc
    dsimp only [Option.toList_some, Option.toList_none, List.cons_append, List.nil_append]
    refine V_i2l C dL_report_10 ?_
    refine V_last C hcT.1 (by decide) (by rw [hcT.2]; exact (show ¬ ((0 : Int32) < 0 ∨ 1 ≤ Int32.toNatClampNeg 0) by decide)) dL_report_11 ?_
    refine V_goto C (tgt := 27) dL_report_12 (by decide) ?_
    refine V_iconst C (v := 0) dL_report_27 (by decide) ?_
    refine V_iret C (by decide) (by decide) dL_report_28 ?_
    exact ⟨by rw [e], LH_J hL hc.1, hcT, fun _ => up2_s⟩
  · obtain ⟨hx, hL⟩ := hT
    have hcT := LQ_c hL hc
    rcases hx with ⟨e, q⟩ | ⟨e, q⟩ | ⟨e, q⟩
    · cases q
      refine VX_catch C [] (0, 12, 15, 25) [(0, 12, 19, 13), (0, 12, 23, 15)] rfl (fun z hz => nomatch hz) (by decide) (by decide) hl_25 (by decide) (fun q => ?_)
      refine V_astore C dL_report_15 (by decide) (by first | exact isR_r _ | exact isR_q _ | exact isR_n) rfl ?_
      refine V_iconst C (v := 1) dL_report_17 (by decide) ?_
      refine V_iret C (by decide) (by decide) dL_report_18 ?_
      exact ⟨by rw [e], LH_Q hL, hcT, fun z => by rw [e] at z; exact absurd z (by decide)⟩
    · cases q
      refine VX_catch C [(0, 12, 15, 25)] (0, 12, 19, 13) [(0, 12, 23, 15)] rfl (fun z hz => by rw [List.mem_singleton.mp hz]; exact ⟨by decide, eB, by decide, by decide, hl_25⟩) (by decide) (by decide) hl_13 (by decide) (fun q => ?_)
      refine V_astore C dL_report_19 (by decide) (by first | exact isR_r _ | exact isR_q _ | exact isR_n) rfl ?_
      refine V_iconst C (v := 2) dL_report_21 (by decide) ?_
      refine V_iret C (by decide) (by decide) dL_report_22 ?_
      exact ⟨by rw [e], LH_Q hL, hcT, fun z => by rw [e] at z; exact absurd z (by decide)⟩
    · cases q
      refine VX_catch C [(0, 12, 15, 25), (0, 12, 19, 13)] (0, 12, 23, 15) [] rfl (fun z hz => by
        rcases List.mem_cons.mp hz with h | h
        · rw [h]; exact ⟨by decide, eB, by decide, by decide, hl_25⟩
        · rw [List.mem_singleton.mp h]; exact ⟨by decide, eA, by decide, by decide, hl_13⟩) (by decide) (by decide) hl_15 (by decide) (fun q => ?_)
      refine V_astore C dL_report_23 (by decide) (by first | exact isR_r _ | exact isR_q _ | exact isR_n) rfl ?_
      refine V_iconst C (v := 3) dL_report_25 (by decide) ?_
      refine V_iret C (by decide) (by decide) dL_report_26 ?_
      exact ⟨by rw [e], LH_Q hL, hcT, fun z => by rw [e] at z; exact absurd z (by decide)⟩
theorem h_file (l : Launch) (hl : l.stackTraces = false) (G : gG) (S : sS) (ad : Nat → Nat → Nat) (σ : aS) (hC : RelC S ad σ) (hG : GU S ad) (hW : IW σ) (c : Nat) (hc : sK S c = 2003 ∧ sL S c = 1) (x w : Int32) : Ch l G yL_file cL_file 5 (Option.some FieldType.int) [(0, 10, 13, 25), (0, 10, 17, 15)] 8 2 12 [.ref (ad 8 0), .int x, .int w, .ref c] S (HJ S ad c (tFile σ x w) ((oFile σ x w).1) ((oFile σ x w).2)) := by
  refine Ch_of (by decide) (cat1_all (by repeat first | exact trivial | refine ⟨by first | rfl | exact isR_c (isR_r _), ?_⟩)) (Nat.le_of_ble_eq_true rfl) hl fun X C hXl => ?_
  subst hXl
  dsimp only [lArgs, Nat.reduceAdd]
  refine V_aload_n C dL_file_0 rfl (by first | exact isR_r _ | exact isR_q _ | exact isR_n) ?_
  refine V_iconst C (v := 0) dL_file_1 (by decide) ?_
  refine V_aload_n C dL_file_2 rfl (by first | exact isR_r _ | exact isR_q _ | exact isR_n) ?_
  refine V_iload_n C dL_file_3 rfl ?_
  refine V_iload_n C dL_file_4 rfl ?_
  refine V_callV C (u_file _ hl G S ad σ hC hG hW x w) kv_L_110 cf_8 (by decide) rfl (RelC_K hC 8 (by decide) rfl) (by decide) (by decide) rfl rfl (Nat.le_of_ble_eq_true rfl) dL_file_5 (fun w T hT => ?_) (fun E T hT => ?_)
  · obtain ⟨e, rfl, hL⟩ := hT
    have hcT := LQ_c hL hc
    dsimp only [Option.toList_some, Option.toList_none, List.cons_append, List.nil_append]
    refine V_i2l C dL_file_8 ?_
    refine V_last C hcT.1 (by decide) (by rw [hcT.2]; exact (show ¬ ((0 : Int32) < 0 ∨ 1 ≤ Int32.toNatClampNeg 0) by decide)) dL_file_9 ?_
    refine V_goto C (tgt := 21) dL_file_10 (by decide) ?_
    refine V_iconst C (v := 0) dL_file_21 (by decide) ?_
    refine V_iret C (by decide) (by decide) dL_file_22 ?_
    exact ⟨by rw [e], LH_J hL hc.1, hcT, fun _ => up2_s⟩
  · obtain ⟨hx, hL⟩ := hT
    have hcT := LQ_c hL hc
    rcases hx with ⟨e, q⟩ | ⟨e, q⟩ | ⟨e, q⟩
    · cases q
      refine VX_catch C [] (0, 10, 13, 25) [(0, 10, 17, 15)] rfl (fun z hz => nomatch hz) (by decide) (by decide) hl_25 (by decide) (fun q => ?_)
      refine V_astore C dL_file_13 (by decide) (by first | exact isR_r _ | exact isR_q _ | exact isR_n) rfl ?_
      refine V_iconst C (v := 1) dL_file_15 (by decide) ?_
      refine V_iret C (by decide) (by decide) dL_file_16 ?_
      exact ⟨by rw [e], LH_Q hL, hcT, fun z => by rw [e] at z; exact absurd z (by decide)⟩
    · cases q
      refine VX_catch C [(0, 10, 13, 25)] (0, 10, 17, 15) [] rfl (fun z hz => by rw [List.mem_singleton.mp hz]; exact ⟨by decide, eB, by decide, by decide, hl_25⟩) (by decide) (by decide) hl_15 (by decide) (fun q => ?_)
      refine V_astore C dL_file_17 (by decide) (by first | exact isR_r _ | exact isR_q _ | exact isR_n) rfl ?_
      refine V_iconst C (v := 2) dL_file_19 (by decide) ?_
      refine V_iret C (by decide) (by decide) dL_file_20 ?_
      exact ⟨by rw [e], LH_Q hL, hcT, fun z => by rw [e] at z; exact absurd z (by decide)⟩
    · cases q
theorem h_pay (l : Launch) (hl : l.stackTraces = false) (G : gG) (S : sS) (ad : Nat → Nat → Nat) (σ : aS) (hC : RelC S ad σ) (hG : GU S ad) (hW : IW σ) (c : Nat) (hc : sK S c = 2003 ∧ sL S c = 1) (x w : Int32) : Ch l G yL_pay cL_pay 5 (Option.some FieldType.int) [(0, 10, 13, 25), (0, 10, 17, 13)] 8 2 12 [.ref (ad 8 0), .int x, .int w, .ref c] S (HJ S ad c (tPay σ x w) ((oPay σ x w).1) ((oPay σ x w).2)) := by
  refine Ch_of (by decide) (cat1_all (by repeat first | exact trivial | refine ⟨by first | rfl | exact isR_c (isR_r _), ?_⟩)) (Nat.le_of_ble_eq_true rfl) hl fun X C hXl => ?_
  subst hXl
  dsimp only [lArgs, Nat.reduceAdd]
  refine V_aload_n C dL_pay_0 rfl (by first | exact isR_r _ | exact isR_q _ | exact isR_n) ?_
  refine V_iconst C (v := 0) dL_pay_1 (by decide) ?_
  refine V_aload_n C dL_pay_2 rfl (by first | exact isR_r _ | exact isR_q _ | exact isR_n) ?_
  refine V_iload_n C dL_pay_3 rfl ?_
  refine V_iload_n C dL_pay_4 rfl ?_
  refine V_callV C (u_pay _ hl G S ad σ hC hG hW x w) kv_L_82 cf_8 (by decide) rfl (RelC_K hC 8 (by decide) rfl) (by decide) (by decide) rfl rfl (Nat.le_of_ble_eq_true rfl) dL_pay_5 (fun w T hT => ?_) (fun E T hT => ?_)
  · obtain ⟨e, rfl, hL⟩ := hT
    have hcT := LQ_c hL hc
    dsimp only [Option.toList_some, Option.toList_none, List.cons_append, List.nil_append]
    refine V_i2l C dL_pay_8 ?_
    refine V_last C hcT.1 (by decide) (by rw [hcT.2]; exact (show ¬ ((0 : Int32) < 0 ∨ 1 ≤ Int32.toNatClampNeg 0) by decide)) dL_pay_9 ?_
    refine V_goto C (tgt := 21) dL_pay_10 (by decide) ?_
    refine V_iconst C (v := 0) dL_pay_21 (by decide) ?_
    refine V_iret C (by decide) (by decide) dL_pay_22 ?_
    exact ⟨by rw [e], LH_J hL hc.1, hcT, fun _ => up2_s⟩
  · obtain ⟨hx, hL⟩ := hT
    have hcT := LQ_c hL hc
    rcases hx with ⟨e, q⟩ | ⟨e, q⟩ | ⟨e, q⟩
    · cases q
      refine VX_catch C [] (0, 10, 13, 25) [(0, 10, 17, 13)] rfl (fun z hz => nomatch hz) (by decide) (by decide) hl_25 (by decide) (fun q => ?_)
      refine V_astore C dL_pay_13 (by decide) (by first | exact isR_r _ | exact isR_q _ | exact isR_n) rfl ?_
      refine V_iconst C (v := 1) dL_pay_15 (by decide) ?_
      refine V_iret C (by decide) (by decide) dL_pay_16 ?_
      exact ⟨by rw [e], LH_Q hL, hcT, fun z => by rw [e] at z; exact absurd z (by decide)⟩
    · cases q
      refine VX_catch C [(0, 10, 13, 25)] (0, 10, 17, 13) [] rfl (fun z hz => by rw [List.mem_singleton.mp hz]; exact ⟨by decide, eB, by decide, by decide, hl_25⟩) (by decide) (by decide) hl_13 (by decide) (fun q => ?_)
      refine V_astore C dL_pay_17 (by decide) (by first | exact isR_r _ | exact isR_q _ | exact isR_n) rfl ?_
      refine V_iconst C (v := 2) dL_pay_19 (by decide) ?_
      refine V_iret C (by decide) (by decide) dL_pay_20 ?_
      exact ⟨by rw [e], LH_Q hL, hcT, fun z => by rw [e] at z; exact absurd z (by decide)⟩
    · cases q
theorem h_order (l : Launch) (hl : l.stackTraces = false) (G : gG) (S : sS) (ad : Nat → Nat → Nat) (σ : aS) (hC : RelC S ad σ) (hG : GU S ad) (hW : IW σ) (c : Nat) (hc : sK S c = 2003 ∧ sL S c = 1) (x a b d : Int32) : Ch l G yL_order cL_order 7 (Option.some FieldType.int) [(0, 14, 17, 25), (0, 14, 21, 13), (0, 14, 25, 15)] 8 8 60 [.ref (ad 8 0), .int x, .int a, .int b, .int d, .ref c] S (HJ S ad c (tOrder σ x a b d) ((oOrder σ x a b d).1) ((oOrder σ x a b d).2)) := by
  refine Ch_of (by decide) (cat1_all (by repeat first | exact trivial | refine ⟨by first | rfl | exact isR_c (isR_r _), ?_⟩)) (Nat.le_of_ble_eq_true rfl) hl fun X C hXl => ?_
  subst hXl
  dsimp only [lArgs, Nat.reduceAdd]
  refine V_aload C dL_order_0 rfl (by first | exact isR_r _ | exact isR_q _ | exact isR_n) ?_
  refine V_iconst C (v := 0) dL_order_2 (by decide) ?_
  refine V_aload_n C dL_order_3 rfl (by first | exact isR_r _ | exact isR_q _ | exact isR_n) ?_
  refine V_iload_n C dL_order_4 rfl ?_
  refine V_iload_n C dL_order_5 rfl ?_
  refine V_iload_n C dL_order_6 rfl ?_
  refine V_iload C dL_order_7 rfl ?_
  refine V_callV C (u_order _ hl G S ad σ hC hG hW x a b d) kv_L_48 cf_8 (by decide) rfl (RelC_K hC 8 (by decide) rfl) (by decide) (by decide) rfl rfl (Nat.le_of_ble_eq_true rfl) dL_order_9 (fun w T hT => ?_) (fun E T hT => ?_)
  · obtain ⟨e, rfl, hL⟩ := hT
    have hcT := LQ_c hL hc
    dsimp only [Option.toList_some, Option.toList_none, List.cons_append, List.nil_append]
    refine V_i2l C dL_order_12 ?_
    refine V_last C hcT.1 (by decide) (by rw [hcT.2]; exact (show ¬ ((0 : Int32) < 0 ∨ 1 ≤ Int32.toNatClampNeg 0) by decide)) dL_order_13 ?_
    refine V_goto C (tgt := 29) dL_order_14 (by decide) ?_
    refine V_iconst C (v := 0) dL_order_29 (by decide) ?_
    refine V_iret C (by decide) (by decide) dL_order_30 ?_
    exact ⟨by rw [e], LH_J hL hc.1, hcT, fun _ => up2_s⟩
  · obtain ⟨hx, hL⟩ := hT
    have hcT := LQ_c hL hc
    rcases hx with ⟨e, q⟩ | ⟨e, q⟩ | ⟨e, q⟩
    · cases q
      refine VX_catch C [] (0, 14, 17, 25) [(0, 14, 21, 13), (0, 14, 25, 15)] rfl (fun z hz => nomatch hz) (by decide) (by decide) hl_25 (by decide) (fun q => ?_)
      refine V_astore C dL_order_17 (by decide) (by first | exact isR_r _ | exact isR_q _ | exact isR_n) rfl ?_
      refine V_iconst C (v := 1) dL_order_19 (by decide) ?_
      refine V_iret C (by decide) (by decide) dL_order_20 ?_
      exact ⟨by rw [e], LH_Q hL, hcT, fun z => by rw [e] at z; exact absurd z (by decide)⟩
    · cases q
      refine VX_catch C [(0, 14, 17, 25)] (0, 14, 21, 13) [(0, 14, 25, 15)] rfl (fun z hz => by rw [List.mem_singleton.mp hz]; exact ⟨by decide, eB, by decide, by decide, hl_25⟩) (by decide) (by decide) hl_13 (by decide) (fun q => ?_)
      refine V_astore C dL_order_21 (by decide) (by first | exact isR_r _ | exact isR_q _ | exact isR_n) rfl ?_
      refine V_iconst C (v := 2) dL_order_23 (by decide) ?_
      refine V_iret C (by decide) (by decide) dL_order_24 ?_
      exact ⟨by rw [e], LH_Q hL, hcT, fun z => by rw [e] at z; exact absurd z (by decide)⟩
    · cases q
      refine VX_catch C [(0, 14, 17, 25), (0, 14, 21, 13)] (0, 14, 25, 15) [] rfl (fun z hz => by
        rcases List.mem_cons.mp hz with h | h
        · rw [h]; exact ⟨by decide, eB, by decide, by decide, hl_25⟩
        · rw [List.mem_singleton.mp h]; exact ⟨by decide, eA, by decide, by decide, hl_13⟩) (by decide) (by decide) hl_15 (by decide) (fun q => ?_)
      refine V_astore C dL_order_25 (by decide) (by first | exact isR_r _ | exact isR_q _ | exact isR_n) rfl ?_
      refine V_iconst C (v := 3) dL_order_27 (by decide) ?_
      refine V_iret C (by decide) (by decide) dL_order_28 ?_
      exact ⟨by rw [e], LH_Q hL, hcT, fun z => by rw [e] at z; exact absurd z (by decide)⟩
theorem h_pass (l : Launch) (hl : l.stackTraces = false) (G : gG) (S : sS) (ad : Nat → Nat → Nat) (σ : aS) (hC : RelC S ad σ) (hG : GU S ad) (hW : IW σ) (c : Nat) (hc : sK S c = 2003 ∧ sL S c = 1) (v : Int32) : Ch l G yL_pass cL_pass 4 (Option.some FieldType.int) [(0, 9, 12, 13), (0, 9, 15, 15)] 8 4 30 [.ref (ad 8 0), .int v, .ref c] S (HJ S ad c (tPass σ v) ((oPass σ v).1) ((oPass σ v).2)) := by
  refine Ch_of (by decide) (cat1_all (by repeat first | exact trivial | refine ⟨by first | rfl | exact isR_c (isR_r _), ?_⟩)) (Nat.le_of_ble_eq_true rfl) hl fun X C hXl => ?_
  subst hXl
  dsimp only [lArgs, Nat.reduceAdd]
  refine V_aload_n C dL_pass_0 rfl (by first | exact isR_r _ | exact isR_q _ | exact isR_n) ?_
  refine V_iconst C (v := 0) dL_pass_1 (by decide) ?_
  refine V_aload_n C dL_pass_2 rfl (by first | exact isR_r _ | exact isR_q _ | exact isR_n) ?_
  refine V_iload_n C dL_pass_3 rfl ?_
  refine V_callV C (u_pass _ hl G S ad σ hC hG hW v) kv_L_94 cf_8 (by decide) rfl (RelC_K hC 8 (by decide) rfl) (by decide) (by decide) rfl rfl (Nat.le_of_ble_eq_true rfl) dL_pass_4 (fun w T hT => ?_) (fun E T hT => ?_)
  · obtain ⟨e, rfl, hL⟩ := hT
    have hcT := LQ_c hL hc
    dsimp only [Option.toList_some, Option.toList_none, List.cons_append, List.nil_append]
    refine V_i2l C dL_pass_7 ?_
    refine V_last C hcT.1 (by decide) (by rw [hcT.2]; exact (show ¬ ((0 : Int32) < 0 ∨ 1 ≤ Int32.toNatClampNeg 0) by decide)) dL_pass_8 ?_
    refine V_goto C (tgt := 18) dL_pass_9 (by decide) ?_
    refine V_iconst C (v := 0) dL_pass_18 (by decide) ?_
    refine V_iret C (by decide) (by decide) dL_pass_19 ?_
    exact ⟨by rw [e], LH_J hL hc.1, hcT, fun _ => up2_s⟩
  · obtain ⟨hx, hL⟩ := hT
    have hcT := LQ_c hL hc
    rcases hx with ⟨e, q⟩ | ⟨e, q⟩ | ⟨e, q⟩
    · cases q
      refine VX_catch C [] (0, 9, 12, 13) [(0, 9, 15, 15)] rfl (fun z hz => nomatch hz) (by decide) (by decide) hl_13 (by decide) (fun q => ?_)
      refine V_astore_n C dL_pass_12 (by decide) (by first | exact isR_r _ | exact isR_q _ | exact isR_n) rfl ?_
      refine V_iconst C (v := 1) dL_pass_13 (by decide) ?_
      refine V_iret C (by decide) (by decide) dL_pass_14 ?_
      exact ⟨by rw [e], LH_Q hL, hcT, fun z => by rw [e] at z; exact absurd z (by decide)⟩
    · cases q
      refine VX_catch C [(0, 9, 12, 13)] (0, 9, 15, 15) [] rfl (fun z hz => by rw [List.mem_singleton.mp hz]; exact ⟨by decide, eA, by decide, by decide, hl_13⟩) (by decide) (by decide) hl_15 (by decide) (fun q => ?_)
      refine V_astore_n C dL_pass_15 (by decide) (by first | exact isR_r _ | exact isR_q _ | exact isR_n) rfl ?_
      refine V_iconst C (v := 2) dL_pass_16 (by decide) ?_
      refine V_iret C (by decide) (by decide) dL_pass_17 ?_
      exact ⟨by rw [e], LH_Q hL, hcT, fun z => by rw [e] at z; exact absurd z (by decide)⟩
    · cases q
theorem h_approve (l : Launch) (hl : l.stackTraces = false) (G : gG) (S : sS) (ad : Nat → Nat → Nat) (σ : aS) (hC : RelC S ad σ) (hG : GU S ad) (hW : IW σ) (c : Nat) (hc : sK S c = 2003 ∧ sL S c = 1) (x a b u : Int32) : Ch l G yL_approve cL_approve 6 (Option.some FieldType.int) [(0, 9, 12, 25), (0, 9, 16, 13)] 8 8 60 [.ref (ad 8 0), .int x, .int a, .int b, .int u] S (HN S ad c (tHomeQ σ x (inP a 0 17 ∧ inP b a 17 ∧ inP u 0 20000)) (oApprove σ x a b u)) := by
  refine Ch_of (by decide) (cat1_all (by repeat first | exact trivial | refine ⟨by first | rfl | exact isR_c (isR_r _), ?_⟩)) (Nat.le_of_ble_eq_true rfl) hl fun X C hXl => ?_
  subst hXl
  dsimp only [lArgs, Nat.reduceAdd]
  refine V_aload_n C dL_approve_0 rfl (by first | exact isR_r _ | exact isR_q _ | exact isR_n) ?_
  refine V_iload_n C dL_approve_1 rfl ?_
  refine V_iload_n C dL_approve_2 rfl ?_
  refine V_iload_n C dL_approve_3 rfl ?_
  refine V_iload C dL_approve_4 rfl ?_
  refine V_callV C (u_approve _ hl G S ad σ hC hG hW x a b u) kv_L_21 cf_8 (by decide) rfl (RelC_K hC 8 (by decide) rfl) (by decide) (by decide) rfl rfl (Nat.le_of_ble_eq_true rfl) dL_approve_6 (fun w T hT => ?_) (fun E T hT => ?_)
  · obtain ⟨e, rfl, hL⟩ := hT
    have hcT := LQ_c hL hc
    dsimp only [Option.toList_some, Option.toList_none, List.cons_append, List.nil_append]
    refine V_goto C (tgt := 20) dL_approve_9 (by decide) ?_
    refine V_iconst C (v := 0) dL_approve_20 (by decide) ?_
    refine V_iret C (by decide) (by decide) dL_approve_21 ?_
    exact ⟨by rw [e], LH_Q hL, hcT⟩
  · obtain ⟨hx, hL⟩ := hT
    have hcT := LQ_c hL hc
    rcases hx with ⟨e, q⟩ | ⟨e, q⟩ | ⟨e, q⟩
    · cases q
      refine VX_catch C [] (0, 9, 12, 25) [(0, 9, 16, 13)] rfl (fun z hz => nomatch hz) (by decide) (by decide) hl_25 (by decide) (fun q => ?_)
      refine V_astore C dL_approve_12 (by decide) (by first | exact isR_r _ | exact isR_q _ | exact isR_n) rfl ?_
      refine V_iconst C (v := 1) dL_approve_14 (by decide) ?_
      refine V_iret C (by decide) (by decide) dL_approve_15 ?_
      exact ⟨by rw [e], LH_Q hL, hcT⟩
    · cases q
      refine VX_catch C [(0, 9, 12, 25)] (0, 9, 16, 13) [] rfl (fun z hz => by rw [List.mem_singleton.mp hz]; exact ⟨by decide, eB, by decide, by decide, hl_25⟩) (by decide) (by decide) hl_13 (by decide) (fun q => ?_)
      refine V_astore C dL_approve_16 (by decide) (by first | exact isR_r _ | exact isR_q _ | exact isR_n) rfl ?_
      refine V_iconst C (v := 2) dL_approve_18 (by decide) ?_
      refine V_iret C (by decide) (by decide) dL_approve_19 ?_
      exact ⟨by rw [e], LH_Q hL, hcT⟩
    · cases q
theorem h_train (l : Launch) (hl : l.stackTraces = false) (G : gG) (S : sS) (ad : Nat → Nat → Nat) (σ : aS) (hC : RelC S ad σ) (hG : GU S ad) (hW : IW σ) (c : Nat) (hc : sK S c = 2003 ∧ sL S c = 1) (x a u : Int32) : Ch l G yL_train cL_train 5 (Option.some FieldType.int) [(0, 7, 10, 25), (0, 7, 14, 13)] 8 8 60 [.ref (ad 8 0), .int x, .int a, .int u] S (HN S ad c (tHomeQ σ x (inP a 0 15 ∧ inP u 0 20000)) (oTrain σ x a u)) := by
  refine Ch_of (by decide) (cat1_all (by repeat first | exact trivial | refine ⟨by first | rfl | exact isR_c (isR_r _), ?_⟩)) (Nat.le_of_ble_eq_true rfl) hl fun X C hXl => ?_
  subst hXl
  dsimp only [lArgs, Nat.reduceAdd]
  refine V_aload_n C dL_train_0 rfl (by first | exact isR_r _ | exact isR_q _ | exact isR_n) ?_
  refine V_iload_n C dL_train_1 rfl ?_
  refine V_iload_n C dL_train_2 rfl ?_
  refine V_iload_n C dL_train_3 rfl ?_
  refine V_callV C (u_train _ hl G S ad σ hC hG hW x a u) kv_L_27 cf_8 (by decide) rfl (RelC_K hC 8 (by decide) rfl) (by decide) (by decide) rfl rfl (Nat.le_of_ble_eq_true rfl) dL_train_4 (fun w T hT => ?_) (fun E T hT => ?_)
  · obtain ⟨e, rfl, hL⟩ := hT
    have hcT := LQ_c hL hc
    dsimp only [Option.toList_some, Option.toList_none, List.cons_append, List.nil_append]
    refine V_goto C (tgt := 18) dL_train_7 (by decide) ?_
    refine V_iconst C (v := 0) dL_train_18 (by decide) ?_
    refine V_iret C (by decide) (by decide) dL_train_19 ?_
    exact ⟨by rw [e], LH_Q hL, hcT⟩
  · obtain ⟨hx, hL⟩ := hT
    have hcT := LQ_c hL hc
    rcases hx with ⟨e, q⟩ | ⟨e, q⟩ | ⟨e, q⟩
    · cases q
      refine VX_catch C [] (0, 7, 10, 25) [(0, 7, 14, 13)] rfl (fun z hz => nomatch hz) (by decide) (by decide) hl_25 (by decide) (fun q => ?_)
      refine V_astore C dL_train_10 (by decide) (by first | exact isR_r _ | exact isR_q _ | exact isR_n) rfl ?_
      refine V_iconst C (v := 1) dL_train_12 (by decide) ?_
      refine V_iret C (by decide) (by decide) dL_train_13 ?_
      exact ⟨by rw [e], LH_Q hL, hcT⟩
    · cases q
      refine VX_catch C [(0, 7, 10, 25)] (0, 7, 14, 13) [] rfl (fun z hz => by rw [List.mem_singleton.mp hz]; exact ⟨by decide, eB, by decide, by decide, hl_25⟩) (by decide) (by decide) hl_13 (by decide) (fun q => ?_)
      refine V_astore C dL_train_14 (by decide) (by first | exact isR_r _ | exact isR_q _ | exact isR_n) rfl ?_
      refine V_iconst C (v := 2) dL_train_16 (by decide) ?_
      refine V_iret C (by decide) (by decide) dL_train_17 ?_
      exact ⟨by rw [e], LH_Q hL, hcT⟩
    · cases q
theorem h_rest (l : Launch) (hl : l.stackTraces = false) (G : gG) (S : sS) (ad : Nat → Nat → Nat) (σ : aS) (hC : RelC S ad σ) (hG : GU S ad) (hW : IW σ) (c : Nat) (hc : sK S c = 2003 ∧ sL S c = 1) (x a u : Int32) : Ch l G yL_rest cL_rest 5 (Option.some FieldType.int) [(0, 7, 10, 25), (0, 7, 14, 13)] 8 8 60 [.ref (ad 8 0), .int x, .int a, .int u] S (HN S ad c (tHomeQ σ x (inP a (σ.2 0) 20000 ∧ inP u a 20000)) (oRest σ x a u)) := by
  refine Ch_of (by decide) (cat1_all (by repeat first | exact trivial | refine ⟨by first | rfl | exact isR_c (isR_r _), ?_⟩)) (Nat.le_of_ble_eq_true rfl) hl fun X C hXl => ?_
  subst hXl
  dsimp only [lArgs, Nat.reduceAdd]
  refine V_aload_n C dL_rest_0 rfl (by first | exact isR_r _ | exact isR_q _ | exact isR_n) ?_
  refine V_iload_n C dL_rest_1 rfl ?_
  refine V_iload_n C dL_rest_2 rfl ?_
  refine V_iload_n C dL_rest_3 rfl ?_
  refine V_callV C (u_rest _ hl G S ad σ hC hG hW x a u) kv_L_31 cf_8 (by decide) rfl (RelC_K hC 8 (by decide) rfl) (by decide) (by decide) rfl rfl (Nat.le_of_ble_eq_true rfl) dL_rest_4 (fun w T hT => ?_) (fun E T hT => ?_)
  · obtain ⟨e, rfl, hL⟩ := hT
    have hcT := LQ_c hL hc
    dsimp only [Option.toList_some, Option.toList_none, List.cons_append, List.nil_append]
    refine V_goto C (tgt := 18) dL_rest_7 (by decide) ?_
    refine V_iconst C (v := 0) dL_rest_18 (by decide) ?_
    refine V_iret C (by decide) (by decide) dL_rest_19 ?_
    exact ⟨by rw [e], LH_Q hL, hcT⟩
  · obtain ⟨hx, hL⟩ := hT
    have hcT := LQ_c hL hc
    rcases hx with ⟨e, q⟩ | ⟨e, q⟩ | ⟨e, q⟩
    · cases q
      refine VX_catch C [] (0, 7, 10, 25) [(0, 7, 14, 13)] rfl (fun z hz => nomatch hz) (by decide) (by decide) hl_25 (by decide) (fun q => ?_)
      refine V_astore C dL_rest_10 (by decide) (by first | exact isR_r _ | exact isR_q _ | exact isR_n) rfl ?_
      refine V_iconst C (v := 1) dL_rest_12 (by decide) ?_
      refine V_iret C (by decide) (by decide) dL_rest_13 ?_
      exact ⟨by rw [e], LH_Q hL, hcT⟩
    · cases q
      refine VX_catch C [(0, 7, 10, 25)] (0, 7, 14, 13) [] rfl (fun z hz => by rw [List.mem_singleton.mp hz]; exact ⟨by decide, eB, by decide, by decide, hl_25⟩) (by decide) (by decide) hl_13 (by decide) (fun q => ?_)
      refine V_astore C dL_rest_14 (by decide) (by first | exact isR_r _ | exact isR_q _ | exact isR_n) rfl ?_
      refine V_iconst C (v := 2) dL_rest_16 (by decide) ?_
      refine V_iret C (by decide) (by decide) dL_rest_17 ?_
      exact ⟨by rw [e], LH_Q hL, hcT⟩
    · cases q
theorem h_handOver (l : Launch) (hl : l.stackTraces = false) (G : gG) (S : sS) (ad : Nat → Nat → Nat) (σ : aS) (hC : RelC S ad σ) (hG : GU S ad) (hW : IW σ) (c : Nat) (hc : sK S c = 2003 ∧ sL S c = 1) (x w : Int32) : Ch l G yL_handOver cL_handOver 5 (Option.some FieldType.int) [(0, 10, 13, 25)] 8 2 12 [.ref (ad 8 0), .int x, .int w, .ref c] S (HJ S ad c (tHand σ x w) ((oHand σ x w).1) ((oHand σ x w).2)) := by
  refine Ch_of (by decide) (cat1_all (by repeat first | exact trivial | refine ⟨by first | rfl | exact isR_c (isR_r _), ?_⟩)) (Nat.le_of_ble_eq_true rfl) hl fun X C hXl => ?_
  subst hXl
  dsimp only [lArgs, Nat.reduceAdd]
  refine V_aload_n C dL_handOver_0 rfl (by first | exact isR_r _ | exact isR_q _ | exact isR_n) ?_
  refine V_iconst C (v := 0) dL_handOver_1 (by decide) ?_
  refine V_aload_n C dL_handOver_2 rfl (by first | exact isR_r _ | exact isR_q _ | exact isR_n) ?_
  refine V_iload_n C dL_handOver_3 rfl ?_
  refine V_iload_n C dL_handOver_4 rfl ?_
  refine V_callV C (u_handOver _ hl G S ad σ hC hG hW x w) kv_L_88 cf_8 (by decide) rfl (RelC_K hC 8 (by decide) rfl) (by decide) (by decide) rfl rfl (Nat.le_of_ble_eq_true rfl) dL_handOver_5 (fun w T hT => ?_) (fun E T hT => ?_)
  · obtain ⟨e, rfl, hL⟩ := hT
    have hcT := LQ_c hL hc
    dsimp only [Option.toList_some, Option.toList_none, List.cons_append, List.nil_append]
    refine V_i2l C dL_handOver_8 ?_
    refine V_last C hcT.1 (by decide) (by rw [hcT.2]; exact (show ¬ ((0 : Int32) < 0 ∨ 1 ≤ Int32.toNatClampNeg 0) by decide)) dL_handOver_9 ?_
    refine V_goto C (tgt := 17) dL_handOver_10 (by decide) ?_
    refine V_iconst C (v := 0) dL_handOver_17 (by decide) ?_
    refine V_iret C (by decide) (by decide) dL_handOver_18 ?_
    exact ⟨by rw [e], LH_J hL hc.1, hcT, fun _ => up2_s⟩
  · obtain ⟨hx, hL⟩ := hT
    have hcT := LQ_c hL hc
    rcases hx with ⟨e, q⟩ | ⟨e, q⟩ | ⟨e, q⟩
    · cases q
      refine VX_catch C [] (0, 10, 13, 25) [] rfl (fun z hz => nomatch hz) (by decide) (by decide) hl_25 (by decide) (fun q => ?_)
      refine V_astore C dL_handOver_13 (by decide) (by first | exact isR_r _ | exact isR_q _ | exact isR_n) rfl ?_
      refine V_iconst C (v := 1) dL_handOver_15 (by decide) ?_
      refine V_iret C (by decide) (by decide) dL_handOver_16 ?_
      exact ⟨by rw [e], LH_Q hL, hcT, fun z => by rw [e] at z; exact absurd z (by decide)⟩
    · cases q
    · cases q
theorem h_home (l : Launch) (hl : l.stackTraces = false) (G : gG) (S : sS) (ad : Nat → Nat → Nat) (σ : aS) (hC : RelC S ad σ) (hG : GU S ad) (hW : IW σ) (c : Nat) (hc : sK S c = 2003 ∧ sL S c = 1) (a b d : Int32) : Ch l G yL_home cL_home 6 (Option.some FieldType.int) [(0, 12, 15, 13), (0, 12, 19, 15)] 8 2 24 [.ref (ad 8 0), .int a, .int b, .int d, .ref c] S (HJ S ad c (tHome σ a b d) ((oHome σ a b d).1) ((oHome σ a b d).2)) := by
  refine Ch_of (by decide) (cat1_all (by repeat first | exact trivial | refine ⟨by first | rfl | exact isR_c (isR_r _), ?_⟩)) (Nat.le_of_ble_eq_true rfl) hl fun X C hXl => ?_
  subst hXl
  dsimp only [lArgs, Nat.reduceAdd]
  refine V_aload C dL_home_0 rfl (by first | exact isR_r _ | exact isR_q _ | exact isR_n) ?_
  refine V_iconst C (v := 0) dL_home_2 (by decide) ?_
  refine V_aload_n C dL_home_3 rfl (by first | exact isR_r _ | exact isR_q _ | exact isR_n) ?_
  refine V_iload_n C dL_home_4 rfl ?_
  refine V_iload_n C dL_home_5 rfl ?_
  refine V_iload_n C dL_home_6 rfl ?_
  refine V_callV C (u_home _ hl G S ad σ hC hG hW a b d) kv_L_17 cf_8 (by decide) rfl (RelC_K hC 8 (by decide) rfl) (by decide) (by decide) rfl rfl (Nat.le_of_ble_eq_true rfl) dL_home_7 (fun w T hT => ?_) (fun E T hT => ?_)
  · obtain ⟨e, rfl, hL⟩ := hT
    have hcT := LQ_c hL hc
    dsimp only [Option.toList_some, Option.toList_none, List.cons_append, List.nil_append]
    refine V_i2l C dL_home_10 ?_
    refine V_last C hcT.1 (by decide) (by rw [hcT.2]; exact (show ¬ ((0 : Int32) < 0 ∨ 1 ≤ Int32.toNatClampNeg 0) by decide)) dL_home_11 ?_
    refine V_goto C (tgt := 23) dL_home_12 (by decide) ?_
    refine V_iconst C (v := 0) dL_home_23 (by decide) ?_
    refine V_iret C (by decide) (by decide) dL_home_24 ?_
    exact ⟨by rw [e], LH_J hL hc.1, hcT, fun _ => up2_s⟩
  · obtain ⟨hx, hL⟩ := hT
    have hcT := LQ_c hL hc
    rcases hx with ⟨e, q⟩ | ⟨e, q⟩ | ⟨e, q⟩
    · cases q
      refine VX_catch C [] (0, 12, 15, 13) [(0, 12, 19, 15)] rfl (fun z hz => nomatch hz) (by decide) (by decide) hl_13 (by decide) (fun q => ?_)
      refine V_astore C dL_home_15 (by decide) (by first | exact isR_r _ | exact isR_q _ | exact isR_n) rfl ?_
      refine V_iconst C (v := 1) dL_home_17 (by decide) ?_
      refine V_iret C (by decide) (by decide) dL_home_18 ?_
      exact ⟨by rw [e], LH_Q hL, hcT, fun z => by rw [e] at z; exact absurd z (by decide)⟩
    · cases q
      refine VX_catch C [(0, 12, 15, 13)] (0, 12, 19, 15) [] rfl (fun z hz => by rw [List.mem_singleton.mp hz]; exact ⟨by decide, eA, by decide, by decide, hl_13⟩) (by decide) (by decide) hl_15 (by decide) (fun q => ?_)
      refine V_astore C dL_home_19 (by decide) (by first | exact isR_r _ | exact isR_q _ | exact isR_n) rfl ?_
      refine V_iconst C (v := 2) dL_home_21 (by decide) ?_
      refine V_iret C (by decide) (by decide) dL_home_22 ?_
      exact ⟨by rw [e], LH_Q hL, hcT, fun z => by rw [e] at z; exact absurd z (by decide)⟩
    · cases q
theorem h_child (l : Launch) (hl : l.stackTraces = false) (G : gG) (S : sS) (ad : Nat → Nat → Nat) (σ : aS) (hC : RelC S ad σ) (hG : GU S ad) (hW : IW σ) (c : Nat) (hc : sK S c = 2003 ∧ sL S c = 1) (a b d f g : Int32) : Ch l G yL_child cL_child 8 (Option.some FieldType.int) [(0, 16, 19, 13), (0, 16, 23, 15)] 8 16 200 [.ref (ad 8 0), .int a, .int b, .int d, .int f, .int g, .ref c] S (HJ S ad c (tChild σ a b d f g) ((oChild σ a b d f g).1) ((oChild σ a b d f g).2)) := by
  refine Ch_of (by decide) (cat1_all (by repeat first | exact trivial | refine ⟨by first | rfl | exact isR_c (isR_r _), ?_⟩)) (Nat.le_of_ble_eq_true rfl) hl fun X C hXl => ?_
  subst hXl
  dsimp only [lArgs, Nat.reduceAdd]
  refine V_aload C dL_child_0 rfl (by first | exact isR_r _ | exact isR_q _ | exact isR_n) ?_
  refine V_iconst C (v := 0) dL_child_2 (by decide) ?_
  refine V_aload_n C dL_child_3 rfl (by first | exact isR_r _ | exact isR_q _ | exact isR_n) ?_
  refine V_iload_n C dL_child_4 rfl ?_
  refine V_iload_n C dL_child_5 rfl ?_
  refine V_iload_n C dL_child_6 rfl ?_
  refine V_iload C dL_child_7 rfl ?_
  refine V_iload C dL_child_9 rfl ?_
  refine V_callV C (u_child _ hl G S ad σ hC hG hW a b d f g) kv_L_7 cf_8 (by decide) rfl (RelC_K hC 8 (by decide) rfl) (by decide) (by decide) rfl rfl (Nat.le_of_ble_eq_true rfl) dL_child_11 (fun w T hT => ?_) (fun E T hT => ?_)
  · obtain ⟨e, rfl, hL⟩ := hT
    have hcT := LQ_c hL hc
    dsimp only [Option.toList_some, Option.toList_none, List.cons_append, List.nil_append]
    refine V_i2l C dL_child_14 ?_
    refine V_last C hcT.1 (by decide) (by rw [hcT.2]; exact (show ¬ ((0 : Int32) < 0 ∨ 1 ≤ Int32.toNatClampNeg 0) by decide)) dL_child_15 ?_
    refine V_goto C (tgt := 27) dL_child_16 (by decide) ?_
    refine V_iconst C (v := 0) dL_child_27 (by decide) ?_
    refine V_iret C (by decide) (by decide) dL_child_28 ?_
    exact ⟨by rw [e], LH_J hL hc.1, hcT, fun _ => up2_s⟩
  · obtain ⟨hx, hL⟩ := hT
    have hcT := LQ_c hL hc
    rcases hx with ⟨e, q⟩ | ⟨e, q⟩ | ⟨e, q⟩
    · cases q
      refine VX_catch C [] (0, 16, 19, 13) [(0, 16, 23, 15)] rfl (fun z hz => nomatch hz) (by decide) (by decide) hl_13 (by decide) (fun q => ?_)
      refine V_astore C dL_child_19 (by decide) (by first | exact isR_r _ | exact isR_q _ | exact isR_n) rfl ?_
      refine V_iconst C (v := 1) dL_child_21 (by decide) ?_
      refine V_iret C (by decide) (by decide) dL_child_22 ?_
      exact ⟨by rw [e], LH_Q hL, hcT, fun z => by rw [e] at z; exact absurd z (by decide)⟩
    · cases q
      refine VX_catch C [(0, 16, 19, 13)] (0, 16, 23, 15) [] rfl (fun z hz => by rw [List.mem_singleton.mp hz]; exact ⟨by decide, eA, by decide, by decide, hl_13⟩) (by decide) (by decide) hl_15 (by decide) (fun q => ?_)
      refine V_astore C dL_child_23 (by decide) (by first | exact isR_r _ | exact isR_q _ | exact isR_n) rfl ?_
      refine V_iconst C (v := 2) dL_child_25 (by decide) ?_
      refine V_iret C (by decide) (by decide) dL_child_26 ?_
      exact ⟨by rw [e], LH_Q hL, hcT, fun z => by rw [e] at z; exact absurd z (by decide)⟩
    · cases q
theorem h_wish (l : Launch) (hl : l.stackTraces = false) (G : gG) (S : sS) (ad : Nat → Nat → Nat) (σ : aS) (hC : RelC S ad σ) (hG : GU S ad) (hW : IW σ) (c : Nat) (hc : sK S c = 2003 ∧ sL S c = 1) (x y b : Int32) : Ch l G yL_wish cL_wish 5 (Option.some FieldType.int) [(0, 7, 10, 25)] 8 4 30 [.ref (ad 8 0), .int x, .int y, .int b] S (HN S ad c (tCH σ x y) (oWish σ x y b)) := by
  refine Ch_of (by decide) (cat1_all (by repeat first | exact trivial | refine ⟨by first | rfl | exact isR_c (isR_r _), ?_⟩)) (Nat.le_of_ble_eq_true rfl) hl fun X C hXl => ?_
  subst hXl
  dsimp only [lArgs, Nat.reduceAdd]
  refine V_aload_n C dL_wish_0 rfl (by first | exact isR_r _ | exact isR_q _ | exact isR_n) ?_
  refine V_iload_n C dL_wish_1 rfl ?_
  refine V_iload_n C dL_wish_2 rfl ?_
  refine V_iload_n C dL_wish_3 rfl ?_
  refine V_callV C (u_wish _ hl G S ad σ hC hG hW x y b) kv_L_56 cf_8 (by decide) rfl (RelC_K hC 8 (by decide) rfl) (by decide) (by decide) rfl rfl (Nat.le_of_ble_eq_true rfl) dL_wish_4 (fun w T hT => ?_) (fun E T hT => ?_)
  · obtain ⟨e, rfl, hL⟩ := hT
    have hcT := LQ_c hL hc
    dsimp only [Option.toList_some, Option.toList_none, List.cons_append, List.nil_append]
    refine V_goto C (tgt := 14) dL_wish_7 (by decide) ?_
    refine V_iconst C (v := 0) dL_wish_14 (by decide) ?_
    refine V_iret C (by decide) (by decide) dL_wish_15 ?_
    exact ⟨by rw [e], LH_Q hL, hcT⟩
  · obtain ⟨hx, hL⟩ := hT
    have hcT := LQ_c hL hc
    rcases hx with ⟨e, q⟩ | ⟨e, q⟩ | ⟨e, q⟩
    · cases q
      refine VX_catch C [] (0, 7, 10, 25) [] rfl (fun z hz => nomatch hz) (by decide) (by decide) hl_25 (by decide) (fun q => ?_)
      refine V_astore C dL_wish_10 (by decide) (by first | exact isR_r _ | exact isR_q _ | exact isR_n) rfl ?_
      refine V_iconst C (v := 1) dL_wish_12 (by decide) ?_
      refine V_iret C (by decide) (by decide) dL_wish_13 ?_
      exact ⟨by rw [e], LH_Q hL, hcT⟩
    · cases q
    · cases q
theorem h_place (l : Launch) (hl : l.stackTraces = false) (G : gG) (S : sS) (ad : Nat → Nat → Nat) (σ : aS) (hC : RelC S ad σ) (hG : GU S ad) (hW : IW σ) (c : Nat) (hc : sK S c = 2003 ∧ sL S c = 1) (x y : Int32) : Ch l G yL_place cL_place 5 (Option.some FieldType.int) [(0, 10, 13, 25), (0, 10, 17, 15)] 8 8 60 [.ref (ad 8 0), .int x, .int y, .ref c] S (HJ S ad c (tPlace σ x y) ((oPlace σ x y).1) ((oPlace σ x y).2)) := by
  refine Ch_of (by decide) (cat1_all (by repeat first | exact trivial | refine ⟨by first | rfl | exact isR_c (isR_r _), ?_⟩)) (Nat.le_of_ble_eq_true rfl) hl fun X C hXl => ?_
  subst hXl
  dsimp only [lArgs, Nat.reduceAdd]
  refine V_aload_n C dL_place_0 rfl (by first | exact isR_r _ | exact isR_q _ | exact isR_n) ?_
  refine V_iconst C (v := 0) dL_place_1 (by decide) ?_
  refine V_aload_n C dL_place_2 rfl (by first | exact isR_r _ | exact isR_q _ | exact isR_n) ?_
  refine V_iload_n C dL_place_3 rfl ?_
  refine V_iload_n C dL_place_4 rfl ?_
  refine V_callV C (u_place _ hl G S ad σ hC hG hW x y) kv_L_69 cf_8 (by decide) rfl (RelC_K hC 8 (by decide) rfl) (by decide) (by decide) rfl rfl (Nat.le_of_ble_eq_true rfl) dL_place_5 (fun w T hT => ?_) (fun E T hT => ?_)
  · obtain ⟨e, rfl, hL⟩ := hT
    have hcT := LQ_c hL hc
    dsimp only [Option.toList_some, Option.toList_none, List.cons_append, List.nil_append]
    refine V_i2l C dL_place_8 ?_
    refine V_last C hcT.1 (by decide) (by rw [hcT.2]; exact (show ¬ ((0 : Int32) < 0 ∨ 1 ≤ Int32.toNatClampNeg 0) by decide)) dL_place_9 ?_
    refine V_goto C (tgt := 21) dL_place_10 (by decide) ?_
    refine V_iconst C (v := 0) dL_place_21 (by decide) ?_
    refine V_iret C (by decide) (by decide) dL_place_22 ?_
    exact ⟨by rw [e], LH_J hL hc.1, hcT, fun _ => up2_s⟩
  · obtain ⟨hx, hL⟩ := hT
    have hcT := LQ_c hL hc
    rcases hx with ⟨e, q⟩ | ⟨e, q⟩ | ⟨e, q⟩
    · cases q
      refine VX_catch C [] (0, 10, 13, 25) [(0, 10, 17, 15)] rfl (fun z hz => nomatch hz) (by decide) (by decide) hl_25 (by decide) (fun q => ?_)
      refine V_astore C dL_place_13 (by decide) (by first | exact isR_r _ | exact isR_q _ | exact isR_n) rfl ?_
      refine V_iconst C (v := 1) dL_place_15 (by decide) ?_
      refine V_iret C (by decide) (by decide) dL_place_16 ?_
      exact ⟨by rw [e], LH_Q hL, hcT, fun z => by rw [e] at z; exact absurd z (by decide)⟩
    · cases q
      refine VX_catch C [(0, 10, 13, 25)] (0, 10, 17, 15) [] rfl (fun z hz => by rw [List.mem_singleton.mp hz]; exact ⟨by decide, eB, by decide, by decide, hl_25⟩) (by decide) (by decide) hl_15 (by decide) (fun q => ?_)
      refine V_astore C dL_place_17 (by decide) (by first | exact isR_r _ | exact isR_q _ | exact isR_n) rfl ?_
      refine V_iconst C (v := 2) dL_place_19 (by decide) ?_
      refine V_iret C (by decide) (by decide) dL_place_20 ?_
      exact ⟨by rw [e], LH_Q hL, hcT, fun z => by rw [e] at z; exact absurd z (by decide)⟩
    · cases q
theorem h_seeBy (l : Launch) (hl : l.stackTraces = false) (G : gG) (S : sS) (ad : Nat → Nat → Nat) (σ : aS) (hC : RelC S ad σ) (hG : GU S ad) (hW : IW σ) (c : Nat) (hc : sK S c = 2003 ∧ sL S c = 1) (x : Int32) : Ch l G yL_seeBy cL_seeBy 4 (Option.some FieldType.int) [(0, 9, 12, 25)] 8 1 6 [.ref (ad 8 0), .int x, .ref c] S (HJ S ad c (tC σ x) ((oSeeBy σ x).1) ((oSeeBy σ x).2)) := by
  refine Ch_of (by decide) (cat1_all (by repeat first | exact trivial | refine ⟨by first | rfl | exact isR_c (isR_r _), ?_⟩)) (Nat.le_of_ble_eq_true rfl) hl fun X C hXl => ?_
  subst hXl
  dsimp only [lArgs, Nat.reduceAdd]
  refine V_aload_n C dL_seeBy_0 rfl (by first | exact isR_r _ | exact isR_q _ | exact isR_n) ?_
  refine V_iconst C (v := 0) dL_seeBy_1 (by decide) ?_
  refine V_aload_n C dL_seeBy_2 rfl (by first | exact isR_r _ | exact isR_q _ | exact isR_n) ?_
  refine V_iload_n C dL_seeBy_3 rfl ?_
  refine V_callV C (u_seeBy _ hl G S ad σ hC hG hW x) kv_L_45 cf_8 (by decide) rfl (RelC_K hC 8 (by decide) rfl) (by decide) (by decide) rfl rfl (Nat.le_of_ble_eq_true rfl) dL_seeBy_4 (fun w T hT => ?_) (fun E T hT => ?_)
  · obtain ⟨e, rfl, hL⟩ := hT
    have hcT := LQ_c hL hc
    dsimp only [Option.toList_some, Option.toList_none, List.cons_append, List.nil_append]
    refine V_i2l C dL_seeBy_7 ?_
    refine V_last C hcT.1 (by decide) (by rw [hcT.2]; exact (show ¬ ((0 : Int32) < 0 ∨ 1 ≤ Int32.toNatClampNeg 0) by decide)) dL_seeBy_8 ?_
    refine V_goto C (tgt := 15) dL_seeBy_9 (by decide) ?_
    refine V_iconst C (v := 0) dL_seeBy_15 (by decide) ?_
    refine V_iret C (by decide) (by decide) dL_seeBy_16 ?_
    exact ⟨by rw [e], LH_J hL hc.1, hcT, fun _ => up2_s⟩
  · obtain ⟨hx, hL⟩ := hT
    have hcT := LQ_c hL hc
    rcases hx with ⟨e, q⟩ | ⟨e, q⟩ | ⟨e, q⟩
    · cases q
      refine VX_catch C [] (0, 9, 12, 25) [] rfl (fun z hz => nomatch hz) (by decide) (by decide) hl_25 (by decide) (fun q => ?_)
      refine V_astore_n C dL_seeBy_12 (by decide) (by first | exact isR_r _ | exact isR_q _ | exact isR_n) rfl ?_
      refine V_iconst C (v := 1) dL_seeBy_13 (by decide) ?_
      refine V_iret C (by decide) (by decide) dL_seeBy_14 ?_
      exact ⟨by rw [e], LH_Q hL, hcT, fun z => by rw [e] at z; exact absurd z (by decide)⟩
    · cases q
    · cases q
theorem h_owed (l : Launch) (hl : l.stackTraces = false) (G : gG) (S : sS) (ad : Nat → Nat → Nat) (σ : aS) (hC : RelC S ad σ) (hG : GU S ad) (hW : IW σ) (c : Nat) (hc : sK S c = 2003 ∧ sL S c = 1) (x : Int32) : Ch l G yL_owed cL_owed 4 (Option.some FieldType.int) [(0, 9, 12, 25)] 8 1 6 [.ref (ad 8 0), .int x, .ref c] S (HJ S ad c (tH σ x) ((oOwed σ x).1) ((oOwed σ x).2)) := by
  refine Ch_of (by decide) (cat1_all (by repeat first | exact trivial | refine ⟨by first | rfl | exact isR_c (isR_r _), ?_⟩)) (Nat.le_of_ble_eq_true rfl) hl fun X C hXl => ?_
  subst hXl
  dsimp only [lArgs, Nat.reduceAdd]
  refine V_aload_n C dL_owed_0 rfl (by first | exact isR_r _ | exact isR_q _ | exact isR_n) ?_
  refine V_iconst C (v := 0) dL_owed_1 (by decide) ?_
  refine V_aload_n C dL_owed_2 rfl (by first | exact isR_r _ | exact isR_q _ | exact isR_n) ?_
  refine V_iload_n C dL_owed_3 rfl ?_
  refine V_callV C (u_owed _ hl G S ad σ hC hG hW x) kv_L_85 cf_8 (by decide) rfl (RelC_K hC 8 (by decide) rfl) (by decide) (by decide) rfl rfl (Nat.le_of_ble_eq_true rfl) dL_owed_4 (fun w T hT => ?_) (fun E T hT => ?_)
  · obtain ⟨e, rfl, hL⟩ := hT
    have hcT := LQ_c hL hc
    dsimp only [Option.toList_some, Option.toList_none, List.cons_append, List.nil_append]
    refine V_i2l C dL_owed_7 ?_
    refine V_last C hcT.1 (by decide) (by rw [hcT.2]; exact (show ¬ ((0 : Int32) < 0 ∨ 1 ≤ Int32.toNatClampNeg 0) by decide)) dL_owed_8 ?_
    refine V_goto C (tgt := 15) dL_owed_9 (by decide) ?_
    refine V_iconst C (v := 0) dL_owed_15 (by decide) ?_
    refine V_iret C (by decide) (by decide) dL_owed_16 ?_
    exact ⟨by rw [e], LH_J hL hc.1, hcT, fun _ => up2_s⟩
  · obtain ⟨hx, hL⟩ := hT
    have hcT := LQ_c hL hc
    rcases hx with ⟨e, q⟩ | ⟨e, q⟩ | ⟨e, q⟩
    · cases q
      refine VX_catch C [] (0, 9, 12, 25) [] rfl (fun z hz => nomatch hz) (by decide) (by decide) hl_25 (by decide) (fun q => ?_)
      refine V_astore_n C dL_owed_12 (by decide) (by first | exact isR_r _ | exact isR_q _ | exact isR_n) rfl ?_
      refine V_iconst C (v := 1) dL_owed_13 (by decide) ?_
      refine V_iret C (by decide) (by decide) dL_owed_14 ?_
      exact ⟨by rw [e], LH_Q hL, hcT, fun z => by rw [e] at z; exact absurd z (by decide)⟩
    · cases q
    · cases q
theorem h_best (l : Launch) (hl : l.stackTraces = false) (G : gG) (S : sS) (ad : Nat → Nat → Nat) (σ : aS) (hC : RelC S ad σ) (hG : GU S ad) (hW : IW σ) (c : Nat) (hc : sK S c = 2003 ∧ sL S c = 1) (x : Int32) : Ch l G yL_best cL_best 4 (Option.some FieldType.int) [(0, 9, 12, 25)] 8 1 6 [.ref (ad 8 0), .int x, .ref c] S (HJ S ad c (tC σ x) ((oBest σ x).1) ((oBest σ x).2)) := by
  refine Ch_of (by decide) (cat1_all (by repeat first | exact trivial | refine ⟨by first | rfl | exact isR_c (isR_r _), ?_⟩)) (Nat.le_of_ble_eq_true rfl) hl fun X C hXl => ?_
  subst hXl
  dsimp only [lArgs, Nat.reduceAdd]
  refine V_aload_n C dL_best_0 rfl (by first | exact isR_r _ | exact isR_q _ | exact isR_n) ?_
  refine V_iconst C (v := 0) dL_best_1 (by decide) ?_
  refine V_aload_n C dL_best_2 rfl (by first | exact isR_r _ | exact isR_q _ | exact isR_n) ?_
  refine V_iload_n C dL_best_3 rfl ?_
  refine V_callV C (u_best _ hl G S ad σ hC hG hW x) kv_L_66 cf_8 (by decide) rfl (RelC_K hC 8 (by decide) rfl) (by decide) (by decide) rfl rfl (Nat.le_of_ble_eq_true rfl) dL_best_4 (fun w T hT => ?_) (fun E T hT => ?_)
  · obtain ⟨e, rfl, hL⟩ := hT
    have hcT := LQ_c hL hc
    dsimp only [Option.toList_some, Option.toList_none, List.cons_append, List.nil_append]
    refine V_i2l C dL_best_7 ?_
    refine V_last C hcT.1 (by decide) (by rw [hcT.2]; exact (show ¬ ((0 : Int32) < 0 ∨ 1 ≤ Int32.toNatClampNeg 0) by decide)) dL_best_8 ?_
    refine V_goto C (tgt := 15) dL_best_9 (by decide) ?_
    refine V_iconst C (v := 0) dL_best_15 (by decide) ?_
    refine V_iret C (by decide) (by decide) dL_best_16 ?_
    exact ⟨by rw [e], LH_J hL hc.1, hcT, fun _ => up2_s⟩
  · obtain ⟨hx, hL⟩ := hT
    have hcT := LQ_c hL hc
    rcases hx with ⟨e, q⟩ | ⟨e, q⟩ | ⟨e, q⟩
    · cases q
      refine VX_catch C [] (0, 9, 12, 25) [] rfl (fun z hz => nomatch hz) (by decide) (by decide) hl_25 (by decide) (fun q => ?_)
      refine V_astore_n C dL_best_12 (by decide) (by first | exact isR_r _ | exact isR_q _ | exact isR_n) rfl ?_
      refine V_iconst C (v := 1) dL_best_13 (by decide) ?_
      refine V_iret C (by decide) (by decide) dL_best_14 ?_
      exact ⟨by rw [e], LH_Q hL, hcT, fun z => by rw [e] at z; exact absurd z (by decide)⟩
    · cases q
    · cases q
theorem h_why (l : Launch) (hl : l.stackTraces = false) (G : gG) (S : sS) (ad : Nat → Nat → Nat) (σ : aS) (hC : RelC S ad σ) (hG : GU S ad) (hW : IW σ) (c : Nat) (hc : sK S c = 2003 ∧ sL S c = 1) (x y : Int32) : Ch l G yL_why cL_why 5 (Option.some FieldType.int) [(0, 10, 13, 25)] 8 2 12 [.ref (ad 8 0), .int x, .int y, .ref c] S (HJ S ad c (tCH σ x y) ((oWhy σ x y).1) ((oWhy σ x y).2)) := by
  refine Ch_of (by decide) (cat1_all (by repeat first | exact trivial | refine ⟨by first | rfl | exact isR_c (isR_r _), ?_⟩)) (Nat.le_of_ble_eq_true rfl) hl fun X C hXl => ?_
  subst hXl
  dsimp only [lArgs, Nat.reduceAdd]
  refine V_aload_n C dL_why_0 rfl (by first | exact isR_r _ | exact isR_q _ | exact isR_n) ?_
  refine V_iconst C (v := 0) dL_why_1 (by decide) ?_
  refine V_aload_n C dL_why_2 rfl (by first | exact isR_r _ | exact isR_q _ | exact isR_n) ?_
  refine V_iload_n C dL_why_3 rfl ?_
  refine V_iload_n C dL_why_4 rfl ?_
  refine V_callV C (u_why _ hl G S ad σ hC hG hW x y) kv_L_60 cf_8 (by decide) rfl (RelC_K hC 8 (by decide) rfl) (by decide) (by decide) rfl rfl (Nat.le_of_ble_eq_true rfl) dL_why_5 (fun w T hT => ?_) (fun E T hT => ?_)
  · obtain ⟨e, rfl, hL⟩ := hT
    have hcT := LQ_c hL hc
    dsimp only [Option.toList_some, Option.toList_none, List.cons_append, List.nil_append]
    refine V_i2l C dL_why_8 ?_
    refine V_last C hcT.1 (by decide) (by rw [hcT.2]; exact (show ¬ ((0 : Int32) < 0 ∨ 1 ≤ Int32.toNatClampNeg 0) by decide)) dL_why_9 ?_
    refine V_goto C (tgt := 17) dL_why_10 (by decide) ?_
    refine V_iconst C (v := 0) dL_why_17 (by decide) ?_
    refine V_iret C (by decide) (by decide) dL_why_18 ?_
    exact ⟨by rw [e], LH_J hL hc.1, hcT, fun _ => up2_s⟩
  · obtain ⟨hx, hL⟩ := hT
    have hcT := LQ_c hL hc
    rcases hx with ⟨e, q⟩ | ⟨e, q⟩ | ⟨e, q⟩
    · cases q
      refine VX_catch C [] (0, 10, 13, 25) [] rfl (fun z hz => nomatch hz) (by decide) (by decide) hl_25 (by decide) (fun q => ?_)
      refine V_astore C dL_why_13 (by decide) (by first | exact isR_r _ | exact isR_q _ | exact isR_n) rfl ?_
      refine V_iconst C (v := 1) dL_why_15 (by decide) ?_
      refine V_iret C (by decide) (by decide) dL_why_16 ?_
      exact ⟨by rw [e], LH_Q hL, hcT, fun z => by rw [e] at z; exact absurd z (by decide)⟩
    · cases q
    · cases q
theorem h_worth (l : Launch) (hl : l.stackTraces = false) (G : gG) (S : sS) (ad : Nat → Nat → Nat) (σ : aS) (hC : RelC S ad σ) (hG : GU S ad) (hW : IW σ) (c : Nat) (hc : sK S c = 2003 ∧ sL S c = 1) (x y : Int32) : Ch l G yL_worth cL_worth 5 (Option.some FieldType.int) [(0, 10, 13, 25)] 8 2 12 [.ref (ad 8 0), .int x, .int y, .ref c] S (HJ S ad c (tCH σ x y) ((oWorth σ x y).1) ((oWorth σ x y).2)) := by
  refine Ch_of (by decide) (cat1_all (by repeat first | exact trivial | refine ⟨by first | rfl | exact isR_c (isR_r _), ?_⟩)) (Nat.le_of_ble_eq_true rfl) hl fun X C hXl => ?_
  subst hXl
  dsimp only [lArgs, Nat.reduceAdd]
  refine V_aload_n C dL_worth_0 rfl (by first | exact isR_r _ | exact isR_q _ | exact isR_n) ?_
  refine V_iconst C (v := 0) dL_worth_1 (by decide) ?_
  refine V_aload_n C dL_worth_2 rfl (by first | exact isR_r _ | exact isR_q _ | exact isR_n) ?_
  refine V_iload_n C dL_worth_3 rfl ?_
  refine V_iload_n C dL_worth_4 rfl ?_
  refine V_callV C (u_worth _ hl G S ad σ hC hG hW x y) kv_L_63 cf_8 (by decide) rfl (RelC_K hC 8 (by decide) rfl) (by decide) (by decide) rfl rfl (Nat.le_of_ble_eq_true rfl) dL_worth_5 (fun w T hT => ?_) (fun E T hT => ?_)
  · obtain ⟨e, rfl, hL⟩ := hT
    have hcT := LQ_c hL hc
    dsimp only [Option.toList_some, Option.toList_none, List.cons_append, List.nil_append]
    refine V_i2l C dL_worth_8 ?_
    refine V_last C hcT.1 (by decide) (by rw [hcT.2]; exact (show ¬ ((0 : Int32) < 0 ∨ 1 ≤ Int32.toNatClampNeg 0) by decide)) dL_worth_9 ?_
    refine V_goto C (tgt := 17) dL_worth_10 (by decide) ?_
    refine V_iconst C (v := 0) dL_worth_17 (by decide) ?_
    refine V_iret C (by decide) (by decide) dL_worth_18 ?_
    exact ⟨by rw [e], LH_J hL hc.1, hcT, fun _ => up2_s⟩
  · obtain ⟨hx, hL⟩ := hT
    have hcT := LQ_c hL hc
    rcases hx with ⟨e, q⟩ | ⟨e, q⟩ | ⟨e, q⟩
    · cases q
      refine VX_catch C [] (0, 10, 13, 25) [] rfl (fun z hz => nomatch hz) (by decide) (by decide) hl_25 (by decide) (fun q => ?_)
      refine V_astore C dL_worth_13 (by decide) (by first | exact isR_r _ | exact isR_q _ | exact isR_n) rfl ?_
      refine V_iconst C (v := 1) dL_worth_15 (by decide) ?_
      refine V_iret C (by decide) (by decide) dL_worth_16 ?_
      exact ⟨by rw [e], LH_Q hL, hcT, fun z => by rw [e] at z; exact absurd z (by decide)⟩
    · cases q
    · cases q
theorem h_counts (l : Launch) (hl : l.stackTraces = false) (G : gG) (S : sS) (ad : Nat → Nat → Nat) (σ : aS) (hC : RelC S ad σ) (hG : GU S ad) (hW : IW σ) (c : Nat) (hc : sK S c = 2003 ∧ sL S c = 1) (x w : Int32) : Ch l G yL_counts cL_counts 5 (Option.some FieldType.int) [(0, 10, 13, 25), (0, 10, 17, 13)] 8 2 12 [.ref (ad 8 0), .int x, .int w, .ref c] S (HJ S ad c (tCounts σ x w) ((oCounts σ x w).1) ((oCounts σ x w).2)) := by
  refine Ch_of (by decide) (cat1_all (by repeat first | exact trivial | refine ⟨by first | rfl | exact isR_c (isR_r _), ?_⟩)) (Nat.le_of_ble_eq_true rfl) hl fun X C hXl => ?_
  subst hXl
  dsimp only [lArgs, Nat.reduceAdd]
  refine V_aload_n C dL_counts_0 rfl (by first | exact isR_r _ | exact isR_q _ | exact isR_n) ?_
  refine V_iconst C (v := 0) dL_counts_1 (by decide) ?_
  refine V_aload_n C dL_counts_2 rfl (by first | exact isR_r _ | exact isR_q _ | exact isR_n) ?_
  refine V_iload_n C dL_counts_3 rfl ?_
  refine V_iload_n C dL_counts_4 rfl ?_
  refine V_callV C (u_counts _ hl G S ad σ hC hG hW x w) kv_L_52 cf_8 (by decide) rfl (RelC_K hC 8 (by decide) rfl) (by decide) (by decide) rfl rfl (Nat.le_of_ble_eq_true rfl) dL_counts_5 (fun w T hT => ?_) (fun E T hT => ?_)
  · obtain ⟨e, rfl, hL⟩ := hT
    have hcT := LQ_c hL hc
    dsimp only [Option.toList_some, Option.toList_none, List.cons_append, List.nil_append]
    refine V_i2l C dL_counts_8 ?_
    refine V_last C hcT.1 (by decide) (by rw [hcT.2]; exact (show ¬ ((0 : Int32) < 0 ∨ 1 ≤ Int32.toNatClampNeg 0) by decide)) dL_counts_9 ?_
    refine V_goto C (tgt := 21) dL_counts_10 (by decide) ?_
    refine V_iconst C (v := 0) dL_counts_21 (by decide) ?_
    refine V_iret C (by decide) (by decide) dL_counts_22 ?_
    exact ⟨by rw [e], LH_J hL hc.1, hcT, fun _ => up2_s⟩
  · obtain ⟨hx, hL⟩ := hT
    have hcT := LQ_c hL hc
    rcases hx with ⟨e, q⟩ | ⟨e, q⟩ | ⟨e, q⟩
    · cases q
      refine VX_catch C [] (0, 10, 13, 25) [(0, 10, 17, 13)] rfl (fun z hz => nomatch hz) (by decide) (by decide) hl_25 (by decide) (fun q => ?_)
      refine V_astore C dL_counts_13 (by decide) (by first | exact isR_r _ | exact isR_q _ | exact isR_n) rfl ?_
      refine V_iconst C (v := 1) dL_counts_15 (by decide) ?_
      refine V_iret C (by decide) (by decide) dL_counts_16 ?_
      exact ⟨by rw [e], LH_Q hL, hcT, fun z => by rw [e] at z; exact absurd z (by decide)⟩
    · cases q
      refine VX_catch C [(0, 10, 13, 25)] (0, 10, 17, 13) [] rfl (fun z hz => by rw [List.mem_singleton.mp hz]; exact ⟨by decide, eB, by decide, by decide, hl_25⟩) (by decide) (by decide) hl_13 (by decide) (fun q => ?_)
      refine V_astore C dL_counts_17 (by decide) (by first | exact isR_r _ | exact isR_q _ | exact isR_n) rfl ?_
      refine V_iconst C (v := 2) dL_counts_19 (by decide) ?_
      refine V_iret C (by decide) (by decide) dL_counts_20 ?_
      exact ⟨by rw [e], LH_Q hL, hcT, fun z => by rw [e] at z; exact absurd z (by decide)⟩
    · cases q
theorem h_stay (l : Launch) (hl : l.stackTraces = false) (G : gG) (S : sS) (ad : Nat → Nat → Nat) (σ : aS) (hC : RelC S ad σ) (hG : GU S ad) (hW : IW σ) (c : Nat) (hc : sK S c = 2003 ∧ sL S c = 1) (x w : Int32) : Ch l G yL_stay cL_stay 5 (Option.some FieldType.int) [(0, 10, 13, 25), (0, 10, 17, 13)] 8 2 12 [.ref (ad 8 0), .int x, .int w, .ref c] S (HJ S ad c (tStay σ x w) ((oStay σ x w).1) ((oStay σ x w).2)) := by
  refine Ch_of (by decide) (cat1_all (by repeat first | exact trivial | refine ⟨by first | rfl | exact isR_c (isR_r _), ?_⟩)) (Nat.le_of_ble_eq_true rfl) hl fun X C hXl => ?_
  subst hXl
  dsimp only [lArgs, Nat.reduceAdd]
  refine V_aload_n C dL_stay_0 rfl (by first | exact isR_r _ | exact isR_q _ | exact isR_n) ?_
  refine V_iconst C (v := 0) dL_stay_1 (by decide) ?_
  refine V_aload_n C dL_stay_2 rfl (by first | exact isR_r _ | exact isR_q _ | exact isR_n) ?_
  refine V_iload_n C dL_stay_3 rfl ?_
  refine V_iload_n C dL_stay_4 rfl ?_
  refine V_callV C (u_stay _ hl G S ad σ hC hG hW x w) kv_L_100 cf_8 (by decide) rfl (RelC_K hC 8 (by decide) rfl) (by decide) (by decide) rfl rfl (Nat.le_of_ble_eq_true rfl) dL_stay_5 (fun w T hT => ?_) (fun E T hT => ?_)
  · obtain ⟨e, rfl, hL⟩ := hT
    have hcT := LQ_c hL hc
    dsimp only [Option.toList_some, Option.toList_none, List.cons_append, List.nil_append]
    refine V_i2l C dL_stay_8 ?_
    refine V_last C hcT.1 (by decide) (by rw [hcT.2]; exact (show ¬ ((0 : Int32) < 0 ∨ 1 ≤ Int32.toNatClampNeg 0) by decide)) dL_stay_9 ?_
    refine V_goto C (tgt := 21) dL_stay_10 (by decide) ?_
    refine V_iconst C (v := 0) dL_stay_21 (by decide) ?_
    refine V_iret C (by decide) (by decide) dL_stay_22 ?_
    exact ⟨by rw [e], LH_J hL hc.1, hcT, fun _ => up2_s⟩
  · obtain ⟨hx, hL⟩ := hT
    have hcT := LQ_c hL hc
    rcases hx with ⟨e, q⟩ | ⟨e, q⟩ | ⟨e, q⟩
    · cases q
      refine VX_catch C [] (0, 10, 13, 25) [(0, 10, 17, 13)] rfl (fun z hz => nomatch hz) (by decide) (by decide) hl_25 (by decide) (fun q => ?_)
      refine V_astore C dL_stay_13 (by decide) (by first | exact isR_r _ | exact isR_q _ | exact isR_n) rfl ?_
      refine V_iconst C (v := 1) dL_stay_15 (by decide) ?_
      refine V_iret C (by decide) (by decide) dL_stay_16 ?_
      exact ⟨by rw [e], LH_Q hL, hcT, fun z => by rw [e] at z; exact absurd z (by decide)⟩
    · cases q
      refine VX_catch C [(0, 10, 13, 25)] (0, 10, 17, 13) [] rfl (fun z hz => by rw [List.mem_singleton.mp hz]; exact ⟨by decide, eB, by decide, by decide, hl_25⟩) (by decide) (by decide) hl_13 (by decide) (fun q => ?_)
      refine V_astore C dL_stay_17 (by decide) (by first | exact isR_r _ | exact isR_q _ | exact isR_n) rfl ?_
      refine V_iconst C (v := 2) dL_stay_19 (by decide) ?_
      refine V_iret C (by decide) (by decide) dL_stay_20 ?_
      exact ⟨by rw [e], LH_Q hL, hcT, fun z => by rw [e] at z; exact absurd z (by decide)⟩
    · cases q
theorem h_childIs (l : Launch) (hl : l.stackTraces = false) (G : gG) (S : sS) (ad : Nat → Nat → Nat) (σ : aS) (hC : RelC S ad σ) (hG : GU S ad) (hW : IW σ) (c : Nat) (hc : sK S c = 2003 ∧ sL S c = 1) (x w : Int32) : Ch l G yL_childIs cL_childIs 5 (Option.some FieldType.int) [(0, 10, 13, 25), (0, 10, 17, 13)] 8 2 12 [.ref (ad 8 0), .int x, .int w, .ref c] S (HJ S ad c (tIs σ x w) ((oIs σ x w).1) ((oIs σ x w).2)) := by
  refine Ch_of (by decide) (cat1_all (by repeat first | exact trivial | refine ⟨by first | rfl | exact isR_c (isR_r _), ?_⟩)) (Nat.le_of_ble_eq_true rfl) hl fun X C hXl => ?_
  subst hXl
  dsimp only [lArgs, Nat.reduceAdd]
  refine V_aload_n C dL_childIs_0 rfl (by first | exact isR_r _ | exact isR_q _ | exact isR_n) ?_
  refine V_iconst C (v := 0) dL_childIs_1 (by decide) ?_
  refine V_aload_n C dL_childIs_2 rfl (by first | exact isR_r _ | exact isR_q _ | exact isR_n) ?_
  refine V_iload_n C dL_childIs_3 rfl ?_
  refine V_iload_n C dL_childIs_4 rfl ?_
  refine V_callV C (u_childIs _ hl G S ad σ hC hG hW x w) kv_L_97 cf_8 (by decide) rfl (RelC_K hC 8 (by decide) rfl) (by decide) (by decide) rfl rfl (Nat.le_of_ble_eq_true rfl) dL_childIs_5 (fun w T hT => ?_) (fun E T hT => ?_)
  · obtain ⟨e, rfl, hL⟩ := hT
    have hcT := LQ_c hL hc
    dsimp only [Option.toList_some, Option.toList_none, List.cons_append, List.nil_append]
    refine V_i2l C dL_childIs_8 ?_
    refine V_last C hcT.1 (by decide) (by rw [hcT.2]; exact (show ¬ ((0 : Int32) < 0 ∨ 1 ≤ Int32.toNatClampNeg 0) by decide)) dL_childIs_9 ?_
    refine V_goto C (tgt := 21) dL_childIs_10 (by decide) ?_
    refine V_iconst C (v := 0) dL_childIs_21 (by decide) ?_
    refine V_iret C (by decide) (by decide) dL_childIs_22 ?_
    exact ⟨by rw [e], LH_J hL hc.1, hcT, fun _ => up2_s⟩
  · obtain ⟨hx, hL⟩ := hT
    have hcT := LQ_c hL hc
    rcases hx with ⟨e, q⟩ | ⟨e, q⟩ | ⟨e, q⟩
    · cases q
      refine VX_catch C [] (0, 10, 13, 25) [(0, 10, 17, 13)] rfl (fun z hz => nomatch hz) (by decide) (by decide) hl_25 (by decide) (fun q => ?_)
      refine V_astore C dL_childIs_13 (by decide) (by first | exact isR_r _ | exact isR_q _ | exact isR_n) rfl ?_
      refine V_iconst C (v := 1) dL_childIs_15 (by decide) ?_
      refine V_iret C (by decide) (by decide) dL_childIs_16 ?_
      exact ⟨by rw [e], LH_Q hL, hcT, fun z => by rw [e] at z; exact absurd z (by decide)⟩
    · cases q
      refine VX_catch C [(0, 10, 13, 25)] (0, 10, 17, 13) [] rfl (fun z hz => by rw [List.mem_singleton.mp hz]; exact ⟨by decide, eB, by decide, by decide, hl_25⟩) (by decide) (by decide) hl_13 (by decide) (fun q => ?_)
      refine V_astore C dL_childIs_17 (by decide) (by first | exact isR_r _ | exact isR_q _ | exact isR_n) rfl ?_
      refine V_iconst C (v := 2) dL_childIs_19 (by decide) ?_
      refine V_iret C (by decide) (by decide) dL_childIs_20 ?_
      exact ⟨by rw [e], LH_Q hL, hcT, fun z => by rw [e] at z; exact absurd z (by decide)⟩
    · cases q
theorem h_load (l : Launch) (hl : l.stackTraces = false) (G : gG) (S : sS) (ad : Nat → Nat → Nat) (σ : aS) (hC : RelC S ad σ) (hG : GU S ad) (hW : IW σ) (c : Nat) (hc : sK S c = 2003 ∧ sL S c = 1) (w : Int32) : Ch l G yL_load cL_load 4 (Option.some FieldType.int) [(0, 9, 12, 25)] 8 1 6 [.ref (ad 8 0), .int w, .ref c] S (HJ S ad c (tLoad σ w) ((oLoad σ w).1) ((oLoad σ w).2)) := by
  refine Ch_of (by decide) (cat1_all (by repeat first | exact trivial | refine ⟨by first | rfl | exact isR_c (isR_r _), ?_⟩)) (Nat.le_of_ble_eq_true rfl) hl fun X C hXl => ?_
  subst hXl
  dsimp only [lArgs, Nat.reduceAdd]
  refine V_aload_n C dL_load_0 rfl (by first | exact isR_r _ | exact isR_q _ | exact isR_n) ?_
  refine V_iconst C (v := 0) dL_load_1 (by decide) ?_
  refine V_aload_n C dL_load_2 rfl (by first | exact isR_r _ | exact isR_q _ | exact isR_n) ?_
  refine V_iload_n C dL_load_3 rfl ?_
  refine V_callV C (u_load _ hl G S ad σ hC hG hW w) kv_L_91 cf_8 (by decide) rfl (RelC_K hC 8 (by decide) rfl) (by decide) (by decide) rfl rfl (Nat.le_of_ble_eq_true rfl) dL_load_4 (fun w T hT => ?_) (fun E T hT => ?_)
  · obtain ⟨e, rfl, hL⟩ := hT
    have hcT := LQ_c hL hc
    dsimp only [Option.toList_some, Option.toList_none, List.cons_append, List.nil_append]
    refine V_i2l C dL_load_7 ?_
    refine V_last C hcT.1 (by decide) (by rw [hcT.2]; exact (show ¬ ((0 : Int32) < 0 ∨ 1 ≤ Int32.toNatClampNeg 0) by decide)) dL_load_8 ?_
    refine V_goto C (tgt := 15) dL_load_9 (by decide) ?_
    refine V_iconst C (v := 0) dL_load_15 (by decide) ?_
    refine V_iret C (by decide) (by decide) dL_load_16 ?_
    exact ⟨by rw [e], LH_J hL hc.1, hcT, fun _ => up2_s⟩
  · obtain ⟨hx, hL⟩ := hT
    have hcT := LQ_c hL hc
    rcases hx with ⟨e, q⟩ | ⟨e, q⟩ | ⟨e, q⟩
    · cases q
      refine VX_catch C [] (0, 9, 12, 25) [] rfl (fun z hz => nomatch hz) (by decide) (by decide) hl_25 (by decide) (fun q => ?_)
      refine V_astore_n C dL_load_12 (by decide) (by first | exact isR_r _ | exact isR_q _ | exact isR_n) rfl ?_
      refine V_iconst C (v := 1) dL_load_13 (by decide) ?_
      refine V_iret C (by decide) (by decide) dL_load_14 ?_
      exact ⟨by rw [e], LH_Q hL, hcT, fun z => by rw [e] at z; exact absurd z (by decide)⟩
    · cases q
    · cases q
theorem h_visits (l : Launch) (hl : l.stackTraces = false) (G : gG) (S : sS) (ad : Nat → Nat → Nat) (σ : aS) (hC : RelC S ad σ) (hG : GU S ad) (hW : IW σ) (c : Nat) (hc : sK S c = 2003 ∧ sL S c = 1) (x w : Int32) : Ch l G yL_visits cL_visits 5 (Option.some FieldType.int) [(0, 10, 13, 25), (0, 10, 17, 13)] 8 2 12 [.ref (ad 8 0), .int x, .int w, .ref c] S (HJ S ad c (tVisits σ x w) ((oVisits σ x w).1) ((oVisits σ x w).2)) := by
  refine Ch_of (by decide) (cat1_all (by repeat first | exact trivial | refine ⟨by first | rfl | exact isR_c (isR_r _), ?_⟩)) (Nat.le_of_ble_eq_true rfl) hl fun X C hXl => ?_
  subst hXl
  dsimp only [lArgs, Nat.reduceAdd]
  refine V_aload_n C dL_visits_0 rfl (by first | exact isR_r _ | exact isR_q _ | exact isR_n) ?_
  refine V_iconst C (v := 0) dL_visits_1 (by decide) ?_
  refine V_aload_n C dL_visits_2 rfl (by first | exact isR_r _ | exact isR_q _ | exact isR_n) ?_
  refine V_iload_n C dL_visits_3 rfl ?_
  refine V_iload_n C dL_visits_4 rfl ?_
  refine V_callV C (u_visits _ hl G S ad σ hC hG hW x w) kv_L_75 cf_8 (by decide) rfl (RelC_K hC 8 (by decide) rfl) (by decide) (by decide) rfl rfl (Nat.le_of_ble_eq_true rfl) dL_visits_5 (fun w T hT => ?_) (fun E T hT => ?_)
  · obtain ⟨e, rfl, hL⟩ := hT
    have hcT := LQ_c hL hc
    dsimp only [Option.toList_some, Option.toList_none, List.cons_append, List.nil_append]
    refine V_i2l C dL_visits_8 ?_
    refine V_last C hcT.1 (by decide) (by rw [hcT.2]; exact (show ¬ ((0 : Int32) < 0 ∨ 1 ≤ Int32.toNatClampNeg 0) by decide)) dL_visits_9 ?_
    refine V_goto C (tgt := 21) dL_visits_10 (by decide) ?_
    refine V_iconst C (v := 0) dL_visits_21 (by decide) ?_
    refine V_iret C (by decide) (by decide) dL_visits_22 ?_
    exact ⟨by rw [e], LH_J hL hc.1, hcT, fun _ => up2_s⟩
  · obtain ⟨hx, hL⟩ := hT
    have hcT := LQ_c hL hc
    rcases hx with ⟨e, q⟩ | ⟨e, q⟩ | ⟨e, q⟩
    · cases q
      refine VX_catch C [] (0, 10, 13, 25) [(0, 10, 17, 13)] rfl (fun z hz => nomatch hz) (by decide) (by decide) hl_25 (by decide) (fun q => ?_)
      refine V_astore C dL_visits_13 (by decide) (by first | exact isR_r _ | exact isR_q _ | exact isR_n) rfl ?_
      refine V_iconst C (v := 1) dL_visits_15 (by decide) ?_
      refine V_iret C (by decide) (by decide) dL_visits_16 ?_
      exact ⟨by rw [e], LH_Q hL, hcT, fun z => by rw [e] at z; exact absurd z (by decide)⟩
    · cases q
      refine VX_catch C [(0, 10, 13, 25)] (0, 10, 17, 13) [] rfl (fun z hz => by rw [List.mem_singleton.mp hz]; exact ⟨by decide, eB, by decide, by decide, hl_25⟩) (by decide) (by decide) hl_13 (by decide) (fun q => ?_)
      refine V_astore C dL_visits_17 (by decide) (by first | exact isR_r _ | exact isR_q _ | exact isR_n) rfl ?_
      refine V_iconst C (v := 2) dL_visits_19 (by decide) ?_
      refine V_iret C (by decide) (by decide) dL_visits_20 ?_
      exact ⟨by rw [e], LH_Q hL, hcT, fun z => by rw [e] at z; exact absurd z (by decide)⟩
    · cases q
theorem h_risk (l : Launch) (hl : l.stackTraces = false) (G : gG) (S : sS) (ad : Nat → Nat → Nat) (σ : aS) (hC : RelC S ad σ) (hG : GU S ad) (hW : IW σ) (c : Nat) (hc : sK S c = 2003 ∧ sL S c = 1) (x : Int32) : Ch l G yL_risk cL_risk 4 (Option.some FieldType.int) [(0, 9, 12, 25)] 8 1 6 [.ref (ad 8 0), .int x, .ref c] S (HJ S ad c (tC σ x) ((oRisk σ x).1) ((oRisk σ x).2)) := by
  refine Ch_of (by decide) (cat1_all (by repeat first | exact trivial | refine ⟨by first | rfl | exact isR_c (isR_r _), ?_⟩)) (Nat.le_of_ble_eq_true rfl) hl fun X C hXl => ?_
  subst hXl
  dsimp only [lArgs, Nat.reduceAdd]
  refine V_aload_n C dL_risk_0 rfl (by first | exact isR_r _ | exact isR_q _ | exact isR_n) ?_
  refine V_iconst C (v := 0) dL_risk_1 (by decide) ?_
  refine V_aload_n C dL_risk_2 rfl (by first | exact isR_r _ | exact isR_q _ | exact isR_n) ?_
  refine V_iload_n C dL_risk_3 rfl ?_
  refine V_callV C (u_risk _ hl G S ad σ hC hG hW x) kv_L_41 cf_8 (by decide) rfl (RelC_K hC 8 (by decide) rfl) (by decide) (by decide) rfl rfl (Nat.le_of_ble_eq_true rfl) dL_risk_4 (fun w T hT => ?_) (fun E T hT => ?_)
  · obtain ⟨e, rfl, hL⟩ := hT
    have hcT := LQ_c hL hc
    dsimp only [Option.toList_some, Option.toList_none, List.cons_append, List.nil_append]
    refine V_i2l C dL_risk_7 ?_
    refine V_last C hcT.1 (by decide) (by rw [hcT.2]; exact (show ¬ ((0 : Int32) < 0 ∨ 1 ≤ Int32.toNatClampNeg 0) by decide)) dL_risk_8 ?_
    refine V_goto C (tgt := 15) dL_risk_9 (by decide) ?_
    refine V_iconst C (v := 0) dL_risk_15 (by decide) ?_
    refine V_iret C (by decide) (by decide) dL_risk_16 ?_
    exact ⟨by rw [e], LH_J hL hc.1, hcT, fun _ => up2_s⟩
  · obtain ⟨hx, hL⟩ := hT
    have hcT := LQ_c hL hc
    rcases hx with ⟨e, q⟩ | ⟨e, q⟩ | ⟨e, q⟩
    · cases q
      refine VX_catch C [] (0, 9, 12, 25) [] rfl (fun z hz => nomatch hz) (by decide) (by decide) hl_25 (by decide) (fun q => ?_)
      refine V_astore_n C dL_risk_12 (by decide) (by first | exact isR_r _ | exact isR_q _ | exact isR_n) rfl ?_
      refine V_iconst C (v := 1) dL_risk_13 (by decide) ?_
      refine V_iret C (by decide) (by decide) dL_risk_14 ?_
      exact ⟨by rw [e], LH_Q hL, hcT, fun z => by rw [e] at z; exact absurd z (by decide)⟩
    · cases q
    · cases q
theorem h_came (l : Launch) (hl : l.stackTraces = false) (G : gG) (S : sS) (ad : Nat → Nat → Nat) (σ : aS) (hC : RelC S ad σ) (hG : GU S ad) (hW : IW σ) (c : Nat) (hc : sK S c = 2003 ∧ sL S c = 1) (x : Int32) : Ch l G yL_came cL_came 3 (Option.some FieldType.int) [(0, 5, 8, 25), (0, 5, 11, 15)] 8 2 12 [.ref (ad 8 0), .int x] S (HN S ad c (tCame σ x) (oCame σ x)) := by
  refine Ch_of (by decide) (cat1_all (by repeat first | exact trivial | refine ⟨by first | rfl | exact isR_c (isR_r _), ?_⟩)) (Nat.le_of_ble_eq_true rfl) hl fun X C hXl => ?_
  subst hXl
  dsimp only [lArgs, Nat.reduceAdd]
  refine V_aload_n C dL_came_0 rfl (by first | exact isR_r _ | exact isR_q _ | exact isR_n) ?_
  refine V_iload_n C dL_came_1 rfl ?_
  refine V_callV C (u_came _ hl G S ad σ hC hG hW x) kv_L_78 cf_8 (by decide) rfl (RelC_K hC 8 (by decide) rfl) (by decide) (by decide) rfl rfl (Nat.le_of_ble_eq_true rfl) dL_came_2 (fun w T hT => ?_) (fun E T hT => ?_)
  · obtain ⟨e, rfl, hL⟩ := hT
    have hcT := LQ_c hL hc
    dsimp only [Option.toList_some, Option.toList_none, List.cons_append, List.nil_append]
    refine V_goto C (tgt := 14) dL_came_5 (by decide) ?_
    refine V_iconst C (v := 0) dL_came_14 (by decide) ?_
    refine V_iret C (by decide) (by decide) dL_came_15 ?_
    exact ⟨by rw [e], LH_Q hL, hcT⟩
  · obtain ⟨hx, hL⟩ := hT
    have hcT := LQ_c hL hc
    rcases hx with ⟨e, q⟩ | ⟨e, q⟩ | ⟨e, q⟩
    · cases q
      refine VX_catch C [] (0, 5, 8, 25) [(0, 5, 11, 15)] rfl (fun z hz => nomatch hz) (by decide) (by decide) hl_25 (by decide) (fun q => ?_)
      refine V_astore_n C dL_came_8 (by decide) (by first | exact isR_r _ | exact isR_q _ | exact isR_n) rfl ?_
      refine V_iconst C (v := 1) dL_came_9 (by decide) ?_
      refine V_iret C (by decide) (by decide) dL_came_10 ?_
      exact ⟨by rw [e], LH_Q hL, hcT⟩
    · cases q
      refine VX_catch C [(0, 5, 8, 25)] (0, 5, 11, 15) [] rfl (fun z hz => by rw [List.mem_singleton.mp hz]; exact ⟨by decide, eB, by decide, by decide, hl_25⟩) (by decide) (by decide) hl_15 (by decide) (fun q => ?_)
      refine V_astore_n C dL_came_11 (by decide) (by first | exact isR_r _ | exact isR_q _ | exact isR_n) rfl ?_
      refine V_iconst C (v := 2) dL_came_12 (by decide) ?_
      refine V_iret C (by decide) (by decide) dL_came_13 ?_
      exact ⟨by rw [e], LH_Q hL, hcT⟩
    · cases q
