/-! THE LAW: one contract for each call of the class, thrown or not, in the reference's words. -/
def GU (S : sS) (ad : Nat → Nat → Nat) : Prop := ∀ j, j < 10 → sA S (ad 27 j) 0 = 0
/-- the class after a call -/
def LQ (S : sS) (ad : Nat → Nat → Nat) (σ' : aS) (T : sS) : Prop := ∃ ad', ad' 8 0 = ad 8 0 ∧ RelC T ad' σ' ∧ GU T ad' ∧ Fr isC S T
/-- the number of an exception: its place among those that the call's document names -/
abbrev eB : String := "java/lang/IndexOutOfBoundsException"
abbrev eA : String := "java/lang/IllegalArgumentException"
abbrev eS : String := "java/lang/IllegalStateException"
def xN (XS : List String) (t : Int32) (E : String) : Prop := (t = 1 ∧ XS[0]? = some E) ∨ (t = 2 ∧ XS[1]? = some E) ∨ (t = 3 ∧ XS[2]? = some E)
def CU (XS : List String) (l : Launch) (G : gG) (y : MethodName) (cc : ByteArray) (mL : Nat) (ret : Option FieldType) (d k n : Nat) (As : List Value) (S : sS) (ad : Nat → Nat → Nat) (t : Int32) (v : Option Value) (σ' : aS) : Prop :=
  Ct l G y cc mL ret d k n (.ref (ad 8 0) :: As) S (fun w T => t = 0 ∧ w = v ∧ LQ S ad σ' T) (fun E T => xN XS t E ∧ LQ S ad σ' T)
theorem LQ_0 {S : sS} {ad : Nat → Nat → Nat} {σ : aS} {t : Int32} (hC : RelC S ad σ) (hG : GU S ad) : LQ S ad (sT σ t) S := ⟨ad, rfl, RelC_56 (A := σ.1) (B := σ.2) hC, hG, Fr_rf⟩
theorem LQ_C {S T : sS} {ad : Nat → Nat → Nat} {σ σ' : aS} (hC : RelC S ad σ) (hG : GU S ad) (h : CQ S ad σ' T) : LQ S ad σ' T := by
  obtain ⟨ad', ⟨h8, h27⟩, hR, hF⟩ := h
  refine ⟨ad', by rw [h8], hR, fun j hj => ?_, Fr_DC hF⟩
  have hk : sK S (ad 27 j) = 181 := hC.1 27 j (by decide) (by decide) (by decide) hj
  have e := (hF (ad 27 j) (by rw [hk]; decide) (by rw [hk]; unfold isD; omega)).2.2.2.2.1
  rw [h27, e]
  exact hG j hj
theorem CU_F {XS : List String} {l : Launch} {G : gG} {y : MethodName} {cc : ByteArray} {mL : Nat} {ret : Option FieldType} {d k n : Nat} {As : List Value} {S : sS} {ad : Nat → Nat → Nat} {σ : aS} {v : Option Value} (hC : RelC S ad σ) (hG : GU S ad) (h : CtF l G y cc mL ret d k n (.ref (ad 8 0) :: As) S v S) : CU XS l G y cc mL ret d k n As S ad 0 v (sT σ 0) :=
  Ct_to h (fun w T ⟨e1, e2⟩ => ⟨rfl, e1, by rw [e2]; exact LQ_0 hC hG⟩) (fun _ _ z => z.elim)
theorem CU_C {XS : List String} {l : Launch} {G : gG} {y : MethodName} {cc : ByteArray} {mL : Nat} {ret : Option FieldType} {d k n : Nat} {As : List Value} {S : sS} {ad : Nat → Nat → Nat} {σ σ' : aS} {v : Option Value} (hC : RelC S ad σ) (hG : GU S ad) (h : CtC l G y cc mL ret d k n (.ref (ad 8 0) :: As) S ad v σ') : CU XS l G y cc mL ret d k n As S ad 0 v σ' :=
  Ct_to h (fun w T ⟨e1, e2⟩ => ⟨rfl, e1, LQ_C hC hG e2⟩) (fun _ _ z => z.elim)
theorem CU_X {XS : List String} {l : Launch} {G : gG} {y : MethodName} {cc : ByteArray} {mL : Nat} {ret : Option FieldType} {d k n : Nat} {As : List Value} {S : sS} {ad : Nat → Nat → Nat} {σ : aS} {v : Option Value} {t : Int32} {E : String} (hC : RelC S ad σ) (hG : GU S ad) (ht : xN XS t E) (h : CtX l G y cc mL ret d k n (.ref (ad 8 0) :: As) S E) : CU XS l G y cc mL ret d k n As S ad t v (sT σ t) :=
  Ct_to h (fun _ _ z => z.elim) (fun F T ⟨e1, e2⟩ => ⟨by rw [e1]; exact ht, by rw [e2]; exact LQ_0 hC hG⟩)
theorem gT_1 {x y z : Int32} (h : x = 0) : gT x y z = 1 := if_pos h
theorem gT_2 {x y z : Int32} (h1 : ¬ x = 0) (h : y = 0) : gT x y z = 2 := (if_neg h1).trans (if_pos h)
theorem gT_3 {x y z : Int32} (h1 : ¬ x = 0) (h2 : ¬ y = 0) (h : z = 0) : gT x y z = 3 := (if_neg h1).trans ((if_neg h2).trans (if_pos h))
theorem gT_0 {x y z : Int32} (h1 : ¬ x = 0) (h2 : ¬ y = 0) (h : ¬ z = 0) : gT x y z = 0 := (if_neg h1).trans ((if_neg h2).trans (if_neg h))
theorem ch_no {σ : aS} (hI : IC σ) {x : Int32} (h : ¬ chP σ x) : ¬ ∃ k, k < cN σ 1 ∧ x = nI k := fun ⟨k, k1, k2⟩ => h (by
  subst k2
  have := of_ix (n := cN σ 1) (k := k) (by have := hI.2.1.2; omega) k1
  rw [← hI.2.1.1] at this
  exact this)
theorem ho_no {σ : aS} (hI : IC σ) {x : Int32} (h : ¬ hoP σ x) : ¬ ∃ k, k < cN σ 20 ∧ x = nI k := fun ⟨k, k1, k2⟩ => h (by
  subst k2
  have := of_ix (n := cN σ 20) (k := k) (by have := hI.2.2.1.2; omega) k1
  rw [← hI.2.2.1.1] at this
  exact this)
theorem u_risk (l : Launch) (hl : l.stackTraces = false) (G : gG) (S : sS) (ad : Nat → Nat → Nat) (σ : aS) (hC : RelC S ad σ) (hG : GU S ad) (hW : IW σ) (x : Int32) : CU [eB] l G yX8_risk cX8_risk 2 (Option.some FieldType.int) 7 1 6 [.int x] S ad (tC σ x) (some (.int (oRisk σ x).1)) (oRisk σ x).2 := by
  by_cases h : chP σ x
  · obtain ⟨k, k1, rfl⟩ := ch_ix hW.1 h
    have e : tC σ (nI k) = 0 := gT_0 (bI_ne.mpr h) (by decide) (by decide)
    rw [oRisk, if_pos e, e, nx_nI (j := k) (by have := hW.1.2.1.2; omega), mRisk_r]
    exact CU_F hC hG (c_X8_risk l hl G S ad (sT σ 0) (RelC_56 (A := σ.1) (B := σ.2) hC) hW.1 k k1)
  · have e : tC σ x = 1 := gT_1 (bI_eq.mpr h)
    rw [oRisk, if_neg (by rw [e]; decide), e]
    exact CU_X hC hG (Or.inl ⟨rfl, rfl⟩) (c_X8_riskX l hl G S ad σ hC hW.1 x (ch_no hW.1 h))
theorem u_came (l : Launch) (hl : l.stackTraces = false) (G : gG) (S : sS) (ad : Nat → Nat → Nat) (σ : aS) (hC : RelC S ad σ) (hG : GU S ad) (hW : IW σ) (x : Int32) : CU [eB, eS] l G yX8_came cX8_came 3 none 7 2 12 [.int x] S ad (tCame σ x) none (oCame σ x) := by
  by_cases h : chP σ x
  · obtain ⟨k, k1, rfl⟩ := ch_ix hW.1 h
    have ek : nx (nI k) = k := nx_nI (j := k) (by have := hW.1.2.1.2; omega)
    by_cases h10 : σ.1 10 k = -1
    · have e : tCame σ (nI k) = 2 := gT_2 (bI_ne.mpr h) (pI9_z.mpr (by rw [ek]; exact fun z => z.2 h10))
      rw [oCame, if_neg (by rw [e]; decide), e]
      exact CU_X hC hG (Or.inr (Or.inl ⟨rfl, rfl⟩)) (c_X8_cameY l hl G S ad σ hC hW.1 k k1 h10)
    · have e : tCame σ (nI k) = 0 := gT_0 (bI_ne.mpr h) (pI9_ne.mpr ⟨h, by rw [ek]; exact h10⟩) (by decide)
      rw [oCame, if_pos e, e, ek]
      exact CU_C hC hG (c_X8_came l hl G S ad (sT σ 0) (RelC_56 (A := σ.1) (B := σ.2) hC) hW.1 k k1 h10)
  · have e : tCame σ x = 1 := gT_1 (bI_eq.mpr h)
    rw [oCame, if_neg (by rw [e]; decide), e]
    exact CU_X hC hG (Or.inl ⟨rfl, rfl⟩) (c_X8_cameX l hl G S ad σ hC hW.1 x (ch_no hW.1 h))

