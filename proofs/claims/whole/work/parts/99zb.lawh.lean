/-! THE LAW: its helpers. The long row has a kind of its own. -/
def isL (k : Nat) : Prop := isC k ∨ k = 2003
def LH (S : sS) (ad : Nat → Nat → Nat) (σ' : aS) (T : sS) : Prop := ∃ ad', ad' 8 0 = ad 8 0 ∧ RelC T ad' σ' ∧ GU T ad' ∧ Fr isL S T
theorem LH_Q {S T : sS} {ad : Nat → Nat → Nat} {σ' : aS} (h : LQ S ad σ' T) : LH S ad σ' T := by
  obtain ⟨ad', h1, h2, h3, h4⟩ := h
  exact ⟨ad', h1, h2, h3, fun a ha hn => h4 a ha fun z => hn (Or.inl z)⟩
theorem LH_J {S T : sS} {ad : Nat → Nat → Nat} {σ' : aS} {c : Nat} {v : Int64} (h : LQ S ad σ' T) (hc : sK S c = 2003) : LH S ad σ' (pJ T c 0 v) := by
  obtain ⟨ad', h1, h2, h3, h4⟩ := h
  refine ⟨ad', h1, h2, h3, fun a ha hn => ?_⟩
  obtain ⟨b1, b2, b3, b4, b5, b6, b7⟩ := h4 a ha fun z => hn (Or.inl z)
  have na : a ≠ c := fun e => hn (Or.inr (by rw [e]; exact hc))
  exact ⟨b1, b2, b3, b4, b5, (up2_f na).trans b6, b7⟩
theorem LQ_c {S T : sS} {ad : Nat → Nat → Nat} {σ' : aS} {c : Nat} (h : LQ S ad σ' T) (hc : sK S c = 2003 ∧ sL S c = 1) : sK T c = 2003 ∧ sL T c = 1 := by
  obtain ⟨ad', h1, h2, h3, h4⟩ := h
  obtain ⟨b1, b2, -⟩ := h4 c (by rw [hc.1]; decide) (by rw [hc.1]; unfold isC; omega)
  exact ⟨b1.trans hc.1, b2.trans hc.2⟩
/-- what a helper that writes the long row gives; one that does not -/
def HJ (S : sS) (ad : Nat → Nat → Nat) (c : Nat) (t a : Int32) (σ' : aS) (v : Option Value) (T : sS) : Prop := v = some (.int t) ∧ LH S ad σ' T ∧ (sK T c = 2003 ∧ sL T c = 1) ∧ (t = 0 → sJ T c 0 = a.toInt64)
def HN (S : sS) (ad : Nat → Nat → Nat) (c : Nat) (t : Int32) (σ' : aS) (v : Option Value) (T : sS) : Prop := v = some (.int t) ∧ LH S ad σ' T ∧ (sK T c = 2003 ∧ sL T c = 1)
theorem h_risk (l : Launch) (hl : l.stackTraces = false) (G : gG) (S : sS) (ad : Nat → Nat → Nat) (σ : aS) (hC : RelC S ad σ) (hG : GU S ad) (hW : IW σ) (c : Nat) (hc : sK S c = 2003 ∧ sL S c = 1) (x : Int32) : Ch l G yL_risk cL_risk 4 (Option.some FieldType.int) [(0, 9, 12, 25)] 8 1 6 [.ref (ad 8 0), .int x, .ref c] S (HJ S ad c (tC σ x) ((oRisk σ x).1) ((oRisk σ x).2)) := by
  refine Ch_of (by decide) (cat1_all (by repeat first | exact trivial | refine ⟨by first | rfl | exact isR_c (isR_r _), ?_⟩)) (Nat.le_of_ble_eq_true rfl) hl fun X C hXl => ?_
  subst hXl
  dsimp only [lArgs, Nat.reduceAdd]
  refine V_aload_n C dL_risk_0 rfl (by first | exact isR_r _ | exact isR_q _ | exact isR_n) ?_
  refine V_iconst C (v := 0) dL_risk_1 (by decide) ?_
  refine V_aload_n C dL_risk_2 rfl (by first | exact isR_r _ | exact isR_q _ | exact isR_n) ?_
  refine V_iload_n C dL_risk_3 rfl ?_
  refine V_callV C (u_risk _ hl G S ad σ hC hG hW x) kv_L_41 cf_8 (by decide) rfl (RelC_K hC 8 (by decide) rfl) (by decide) (by decide) rfl rfl (Nat.le_of_ble_eq_true rfl) dL_risk_4 (fun w T hT => ?_) (fun E T hT => ?_)
  · obtain ⟨e, rfl, hL⟩ := hT
    have hcT := LQ_c hL hc
    dsimp only [Option.toList_some, Option.toList_none, List.cons_append, List.nil_append]
    refine V_i2l C dL_risk_7 ?_
    refine V_last C hcT.1 (by decide) (by rw [hcT.2]; exact (show ¬ ((0 : Int32) < 0 ∨ 1 ≤ Int32.toNatClampNeg 0) by decide)) dL_risk_8 ?_
    refine V_goto C (tgt := 15) dL_risk_9 (by decide) ?_
    refine V_iconst C (v := 0) dL_risk_15 (by decide) ?_
    refine V_iret C (by decide) (by decide) dL_risk_16 ?_
    exact ⟨by rw [e], LH_J hL hc.1, hcT, fun _ => up2_s⟩
  · obtain ⟨hx, hL⟩ := hT
    have hcT := LQ_c hL hc
    rcases hx with ⟨e, q⟩ | ⟨e, q⟩ | ⟨e, q⟩
    · cases q
      refine VX_catch C [] (0, 9, 12, 25) [] rfl (fun z hz => nomatch hz) (by decide) (by decide) hl_25 (by decide) (fun q => ?_)
      refine V_astore_n C dL_risk_12 (by decide) (by first | exact isR_r _ | exact isR_q _ | exact isR_n) rfl ?_
      refine V_iconst C (v := 1) dL_risk_13 (by decide) ?_
      refine V_iret C (by decide) (by decide) dL_risk_14 ?_
      exact ⟨by rw [e], LH_Q hL, hcT, fun z => by rw [e] at z; exact absurd z (by decide)⟩
    · cases q
    · cases q
theorem h_came (l : Launch) (hl : l.stackTraces = false) (G : gG) (S : sS) (ad : Nat → Nat → Nat) (σ : aS) (hC : RelC S ad σ) (hG : GU S ad) (hW : IW σ) (c : Nat) (hc : sK S c = 2003 ∧ sL S c = 1) (x : Int32) : Ch l G yL_came cL_came 3 (Option.some FieldType.int) [(0, 5, 8, 25), (0, 5, 11, 15)] 8 2 12 [.ref (ad 8 0), .int x] S (HN S ad c (tCame σ x) (oCame σ x)) := by
  refine Ch_of (by decide) (cat1_all (by repeat first | exact trivial | refine ⟨by first | rfl | exact isR_c (isR_r _), ?_⟩)) (Nat.le_of_ble_eq_true rfl) hl fun X C hXl => ?_
  subst hXl
  dsimp only [lArgs, Nat.reduceAdd]
  refine V_aload_n C dL_came_0 rfl (by first | exact isR_r _ | exact isR_q _ | exact isR_n) ?_
  refine V_iload_n C dL_came_1 rfl ?_
  refine V_callV C (u_came _ hl G S ad σ hC hG hW x) kv_L_78 cf_8 (by decide) rfl (RelC_K hC 8 (by decide) rfl) (by decide) (by decide) rfl rfl (Nat.le_of_ble_eq_true rfl) dL_came_2 (fun w T hT => ?_) (fun E T hT => ?_)
  · obtain ⟨e, rfl, hL⟩ := hT
    have hcT := LQ_c hL hc
    dsimp only [Option.toList_some, Option.toList_none, List.cons_append, List.nil_append]
    refine V_goto C (tgt := 14) dL_came_5 (by decide) ?_
    refine V_iconst C (v := 0) dL_came_14 (by decide) ?_
    refine V_iret C (by decide) (by decide) dL_came_15 ?_
    exact ⟨by rw [e], LH_Q hL, hcT⟩
  · obtain ⟨hx, hL⟩ := hT
    have hcT := LQ_c hL hc
    rcases hx with ⟨e, q⟩ | ⟨e, q⟩ | ⟨e, q⟩
    · cases q
      refine VX_catch C [] (0, 5, 8, 25) [(0, 5, 11, 15)] rfl (fun z hz => nomatch hz) (by decide) (by decide) hl_25 (by decide) (fun q => ?_)
      refine V_astore_n C dL_came_8 (by decide) (by first | exact isR_r _ | exact isR_q _ | exact isR_n) rfl ?_
      refine V_iconst C (v := 1) dL_came_9 (by decide) ?_
      refine V_iret C (by decide) (by decide) dL_came_10 ?_
      exact ⟨by rw [e], LH_Q hL, hcT⟩
    · cases q
      refine VX_catch C [(0, 5, 8, 25)] (0, 5, 11, 15) [] rfl (fun z hz => by rw [List.mem_singleton.mp hz]; exact ⟨by decide, eB, by decide, by decide, hl_25⟩) (by decide) (by decide) hl_15 (by decide) (fun q => ?_)
      refine V_astore_n C dL_came_11 (by decide) (by first | exact isR_r _ | exact isR_q _ | exact isR_n) rfl ?_
      refine V_iconst C (v := 2) dL_came_12 (by decide) ?_
      refine V_iret C (by decide) (by decide) dL_came_13 ?_
      exact ⟨by rw [e], LH_Q hL, hcT⟩
    · cases q
