/-! THE REFERENCE: ends, begins, place, childIs, stay, wasAllowed, file. -/
/-- the rows of stays are of children and homes -/
def IS (σ : aS) : Prop := ∀ j, j < cN σ 43 → (∃ k, k < cN σ 1 ∧ σ.1 44 j = nI k) ∧ ∃ h, h < cN σ 20 ∧ σ.1 45 j = nI h
noncomputable def oEnds (σ : aS) (k : Nat) : aS := if σ.1 10 k = -1 then σ else (up2 (up2 σ.1 47 (nx (σ.1 10 k)) (σ.2 0)) 10 k (-1), σ.2)
theorem oEnds_2 {σ : aS} {k : Nat} : (oEnds σ k).2 = σ.2 := by
  unfold oEnds
  split <;> rfl
theorem IC_10 {A : Nat → Nat → Int32} {B : Nat → Int32} {k : Nat} (h : IC (A, B)) : IC (up2 A 10 k (-1), B) := by
  obtain ⟨a1, a2, a3, a4, a5, a6, a7, a8⟩ := h
  refine ⟨a1, a2, a3, a4, a5, a6, fun i hi => ?_, fun i hi => ?_⟩
  · have e : ∀ i, up2 A 10 k (-1) 34 i = A 34 i := fun i => up2_n1 (by decide)
    have := a7 i hi
    simp only [rN, e] at this ⊢
    exact this
  · by_cases q : i = k
    · subst q
      exact Or.inl up2_s
    · have e : up2 A 10 k (-1) 10 i = A 10 i := up2_n2 q
      have := a8 i hi
      simp only [e]
      exact this
theorem IC_ends {σ : aS} {k : Nat} (h : IC σ) : IC (oEnds σ k) := by
  unfold oEnds
  split
  · exact h
  · exact IC_10 (IC_A h (by decide) (by decide))
noncomputable def oBeg1 (σ : aS) (k n : Nat) (h : Int32) : aS := (up2 (up2 (up2 (up2 (oEnds σ k).1 44 n (nI k)) 45 n h) 46 n (σ.2 0)) 47 n (-1), σ.2)
theorem IC_beg1 {σ : aS} {k n : Nat} {h : Int32} (hI : IC σ) : IC (oBeg1 σ k n h) := by
  have q : IC ((oEnds σ k).1, σ.2) := by
    have := IC_ends (k := k) hI
    rw [show oEnds σ k = ((oEnds σ k).1, (oEnds σ k).2) from rfl, oEnds_2] at this
    exact this
  exact IC_A (IC_A (IC_A (IC_A q (by decide) (by decide)) (by decide) (by decide)) (by decide) (by decide)) (by decide) (by decide)
noncomputable def oBegins (σ : aS) (k : Nat) (h : Int32) : Int32 × aS := (σ.2 43 + 1 - 1,
  (up2 (up2 (up2 (up2 (oBeg1 σ k (cN σ 43) h).1 48 (cN σ 43) (mCounts (oBeg1 σ k (cN σ 43) h) (nI k) (σ.2 0))) 10 k (nI (cN σ 43))) 11 k ((oEnds σ k).1 11 k + 1)) 13 k 0, up1 σ.2 43 (σ.2 43 + 1)))
noncomputable def tPlace (σ : aS) (x h : Int32) : Int32 := gT (pI9 (chP σ x ∧ hoP σ h)) (pI9 ((chP σ x ∧ hoP σ h) ∧ ¬ mHomeOf σ (nx x) = h ∧ mWhyNot σ (nx x) (nx h) = 0 ∧ σ.2 43 < 100)) 1
noncomputable def oPlace (σ : aS) (x h : Int32) : Int32 × aS := if tPlace σ x h = 0 then oBegins (sT σ 0) (nx x) h else (0, sT σ (tPlace σ x h))
def mIs (σ : aS) (k : Nat) (w : Int32) : Int32 := if w = 0 then mHomeOf σ k else if w = 1 then mYears σ k (σ.2 0) else if w = 2 then σ.1 11 k else if w = 3 then σ.1 14 k else if w = 4 then σ.1 15 k else if w = 5 then (if σ.1 18 k = 0 then 0 else 1) else σ.1 8 k
noncomputable def tIs (σ : aS) (x w : Int32) : Int32 := gT (bI (chP σ x)) (bI (inP w 0 6)) 1
noncomputable def oIs (σ : aS) (x w : Int32) : Int32 × aS := if tIs σ x w = 0 then (mIs (sT σ 0) (nx x) w, sT σ 0) else (0, sT σ (tIs σ x w))
abbrev stP (σ : aS) (x : Int32) : Prop := 0 ≤ x ∧ x ≤ σ.2 43 - 1
theorem st_ix {σ : aS} (hI : IC σ) {x : Int32} (h : stP σ x) : ∃ k, k < cN σ 43 ∧ x = nI k := by
  have h' : 0 ≤ x ∧ x ≤ nI (cN σ 43) - 1 := by rw [← hI.2.2.2.2.2.1.1]; exact h
  exact ix_of (by have := hI.2.2.2.2.2.1.2; omega) h'
def mStay (σ : aS) (i : Nat) (w : Int32) : Int32 := if w = 0 then σ.1 44 i else if w = 1 then σ.1 45 i else if w = 2 then σ.1 46 i else if w = 3 then σ.1 47 i else σ.1 48 i
noncomputable def tStay (σ : aS) (x w : Int32) : Int32 := gT (bI (stP σ x)) (bI (inP w 0 4)) 1
noncomputable def oStay (σ : aS) (x w : Int32) : Int32 × aS := if tStay σ x w = 0 then (mStay σ (nx x) w, sT σ 0) else (0, sT σ (tStay σ x w))
noncomputable def tSt (σ : aS) (x : Int32) : Int32 := gT (bI (stP σ x)) 1 1
noncomputable def oWas (σ : aS) (x : Int32) : Int32 × aS := if tSt σ x = 0 then (pI9 (mWhyOn (sT σ 0) (nx (σ.1 44 (nx x))) (σ.1 45 (nx x)) (σ.1 46 (nx x)) = 0), sT σ 0) else (0, sT σ (tSt σ x))
def mFileF (σ : aS) (x : Int32) : Nat → Int32 → Nat → Int32
  | 0, _, _ => -1
  | t + 1, left, i => if σ.1 44 i = x then (if left = 0 then (if σ.1 26 (nx (σ.1 45 i)) = 0 then σ.1 45 i else -2) else mFileF σ x t (left + -1) (i + 1)) else mFileF σ x t left (i + 1)
theorem mFileF_s {σ : aS} {x left : Int32} {t i : Nat} : mFileF σ x (t + 1) left i = if σ.1 44 i = x then (if left = 0 then (if σ.1 26 (nx (σ.1 45 i)) = 0 then σ.1 45 i else -2) else mFileF σ x t (left + -1) (i + 1)) else mFileF σ x t left (i + 1) := rfl
noncomputable def tFile (σ : aS) (x w : Int32) : Int32 := gT (pI9 (chP σ x ∧ 0 ≤ w)) (pI9 ((chP σ x ∧ 0 ≤ w) ∧ 18 ≤ mYears σ (nx x) (σ.2 0))) 1
noncomputable def oFile (σ : aS) (x w : Int32) : Int32 × aS := if tFile σ x w = 0 then (mFileF σ x (cN σ 43) w 0, sT σ 0) else (0, sT σ (tFile σ x w))
theorem c_X9_ends (l : Launch) (hl : l.stackTraces = false) (G : gG) (S : sS) (m : Nat) (σ : aS) (hR : RelR S m σ) (hI : IC σ)  (k : Nat) (hk : k < cN σ 1) : CtR l G yX9_ends cX9_ends 2 none 1 [.ref m, .int (nI k)] S m none (oEnds σ k) := by
  have hm := hR.1
  have hRF := RF_0 hR
  have hk16 : k < 16 := by have := hI.2.1.2; omega
  refine Ct_of (by decide) (cat1_all (by repeat first | exact trivial | refine ⟨by first | rfl | exact isR_c (isR_q _), ?_⟩)) (Nat.le_of_ble_eq_true rfl) hl fun X C hXl hin => ?_
  subst hXl
  dsimp only [lArgs, Nat.reduceAdd]
  rcases hI.2.2.2.2.2.2.2 k hk with e | ⟨j, hj, e⟩
  · refine V_aload_n C dX9_ends_0 rfl (by first | exact isR_r _ | exact isR_q _ | exact isR_n) ?_
    refine V_mArr C 10 hRF rfl fl_X9_34 (by decide) dX9_ends_1 (fun a1 ha1 => ?_)
    refine V_iload_n C dX9_ends_4 rfl ?_
    refine V_mLd C 10 hRF rfl rfl ha1 (by first | assumption | (show _ < _; omega)) e dX9_ends_5 ?_
    refine V_iconst C (v := (-1)) dX9_ends_6 (by decide) ?_
    refine V_icmp_eq C (tgt := 32) dX9_ends_7 (by decide) (fun h7 => ?_) (fun h7 => ?_)
    · refine V_vret C (by first | omega | decide) (by first | omega | decide) dX9_ends_32 ?_
      unfold oEnds
      rw [if_pos e]
      exact ⟨rfl, hRF⟩
    · exact absurd rfl h7
  · have hj100 : j < 100 := by have := hI.2.2.2.2.2.1.2; omega
    have e9 : ¬ σ.1 10 k = -1 := by rw [e]; exact nI_ne_m1 (by omega)
    have ej : nx (σ.1 10 k) = j := by rw [e]; exact nI_clamp (by omega)
    refine V_aload_n C dX9_ends_0 rfl (by first | exact isR_r _ | exact isR_q _ | exact isR_n) ?_
    refine V_mArr C 10 hRF rfl fl_X9_34 (by decide) dX9_ends_1 (fun a1 ha1 => ?_)
    refine V_iload_n C dX9_ends_4 rfl ?_
    refine V_mLd C 10 hRF rfl rfl ha1 (by first | assumption | (show _ < _; omega)) e dX9_ends_5 ?_
    refine V_iconst C (v := (-1)) dX9_ends_6 (by decide) ?_
    refine V_icmp_eq C (tgt := 32) dX9_ends_7 (by decide) (fun h7 => ?_) (fun h7 => ?_)
    · exact absurd h7 (nI_ne_m1 (by omega))
    · refine V_aload_n C dX9_ends_10 rfl (by first | exact isR_r _ | exact isR_q _ | exact isR_n) ?_
      refine V_mArr C 47 hRF rfl fl_X9_134 (by decide) dX9_ends_11 (fun a11 ha11 => ?_)
      refine V_aload_n C dX9_ends_14 rfl (by first | exact isR_r _ | exact isR_q _ | exact isR_n) ?_
      refine V_mArr C 10 hRF rfl fl_X9_34 (by decide) dX9_ends_15 (fun a15 ha15 => ?_)
      refine V_iload_n C dX9_ends_18 rfl ?_
      refine V_mLd C 10 hRF rfl rfl ha15 (by first | assumption | (show _ < _; omega)) e dX9_ends_19 ?_
      refine V_aload_n C dX9_ends_20 rfl (by first | exact isR_r _ | exact isR_q _ | exact isR_n) ?_
      refine V_mNum C 0 hRF fl_X9_187 (by decide) dX9_ends_21 rfl ?_
      refine V_mSt C 47 hRF rfl rfl ha11 (by first | assumption | (show _ < _; omega)) dX9_ends_24 (fun T hRF => ?_)
      refine V_aload_n C dX9_ends_25 rfl (by first | exact isR_r _ | exact isR_q _ | exact isR_n) ?_
      refine V_mArr C 10 hRF rfl fl_X9_34 (by decide) dX9_ends_26 (fun a26 ha26 => ?_)
      refine V_iload_n C dX9_ends_29 rfl ?_
      refine V_iconst C (v := (-1)) dX9_ends_30 (by decide) ?_
      refine V_mSt C 10 hRF rfl rfl ha26 (by first | assumption | (show _ < _; omega)) dX9_ends_31 (fun T hRF => ?_)
      refine V_vret C (by first | omega | decide) (by first | omega | decide) dX9_ends_32 ?_
      unfold oEnds
      rw [if_neg e9, ej]
      exact ⟨rfl, hRF⟩
theorem c_X9_begins (l : Launch) (hl : l.stackTraces = false) (G : gG) (S : sS) (m : Nat) (σ : aS) (hR : RelR S m σ) (hI : IC σ)  (k : Nat) (h : Int32) (hk : k < cN σ 1) (hc : cN σ 43 < 100) : CtR l G yX9_begins cX9_begins 3 (Option.some FieldType.int) 3 [.ref m, .int (nI k), .int h] S m (some (.int (oBegins σ k h).1)) (oBegins σ k h).2 := by
  have hm := hR.1
  have hRF := RF_0 hR
  have hk16 : k < 16 := by have := hI.2.1.2; omega
  obtain ⟨n, hn⟩ : ∃ n, n = cN σ 43 := ⟨_, rfl⟩
  have hn16 : n < 100 := by rw [hn]; exact hc
  have en : σ.2 43 = nI n := by rw [hn]; exact hI.2.2.2.2.2.1.1
  refine Ct_of (by decide) (cat1_all (by repeat first | exact trivial | refine ⟨by first | rfl | exact isR_c (isR_q _), ?_⟩)) (Nat.le_of_ble_eq_true rfl) hl fun X C hXl hin => ?_
  subst hXl
  dsimp only [lArgs, Nat.reduceAdd]
  refine V_aload_n C dX9_begins_0 rfl (by first | exact isR_r _ | exact isR_q _ | exact isR_n) ?_
  refine V_iload_n C dX9_begins_1 rfl ?_
  refine V_callV C (c_X9_ends _ hl G S m σ hR hI k hk) kv_X9_249 cf_9 (by decide) rfl hRF.1.1 (by decide) (by decide) rfl rfl (Nat.le_of_ble_eq_true rfl) dX9_begins_2 ?_ (fun _ _ h => h.elim)
  intro v9 T9 hT
  obtain ⟨rfl, hT⟩ := hT
  have hRF := RF_tr hRF hT
  dsimp only [Option.toList_some, Option.toList_none, List.cons_append, List.nil_append]
  rw [oEnds_2] at hRF
  refine V_aload_n C dX9_begins_5 rfl (by first | exact isR_r _ | exact isR_q _ | exact isR_n) ?_
  refine V_mArr C 44 hRF rfl fl_X9_125 (by decide) dX9_begins_6 (fun a6 ha6 => ?_)
  refine V_aload_n C dX9_begins_9 rfl (by first | exact isR_r _ | exact isR_q _ | exact isR_n) ?_
  refine V_mNum C 43 hRF fl_X9_253 (by decide) dX9_begins_10 en ?_
  refine V_iload_n C dX9_begins_13 rfl ?_
  refine V_mSt C 44 hRF rfl rfl ha6 (by first | assumption | (show _ < _; omega)) dX9_begins_14 (fun T hRF => ?_)
  refine V_aload_n C dX9_begins_15 rfl (by first | exact isR_r _ | exact isR_q _ | exact isR_n) ?_
  refine V_mArr C 45 hRF rfl fl_X9_128 (by decide) dX9_begins_16 (fun a16 ha16 => ?_)
  refine V_aload_n C dX9_begins_19 rfl (by first | exact isR_r _ | exact isR_q _ | exact isR_n) ?_
  refine V_mNum C 43 hRF fl_X9_253 (by decide) dX9_begins_20 en ?_
  refine V_iload_n C dX9_begins_23 rfl ?_
  refine V_mSt C 45 hRF rfl rfl ha16 (by first | assumption | (show _ < _; omega)) dX9_begins_24 (fun T hRF => ?_)
  refine V_aload_n C dX9_begins_25 rfl (by first | exact isR_r _ | exact isR_q _ | exact isR_n) ?_
  refine V_mArr C 46 hRF rfl fl_X9_131 (by decide) dX9_begins_26 (fun a26 ha26 => ?_)
  refine V_aload_n C dX9_begins_29 rfl (by first | exact isR_r _ | exact isR_q _ | exact isR_n) ?_
  refine V_mNum C 43 hRF fl_X9_253 (by decide) dX9_begins_30 en ?_
  refine V_aload_n C dX9_begins_33 rfl (by first | exact isR_r _ | exact isR_q _ | exact isR_n) ?_
  refine V_mNum C 0 hRF fl_X9_187 (by decide) dX9_begins_34 rfl ?_
  refine V_mSt C 46 hRF rfl rfl ha26 (by first | assumption | (show _ < _; omega)) dX9_begins_37 (fun T hRF => ?_)
  refine V_aload_n C dX9_begins_38 rfl (by first | exact isR_r _ | exact isR_q _ | exact isR_n) ?_
  refine V_mArr C 47 hRF rfl fl_X9_134 (by decide) dX9_begins_39 (fun a39 ha39 => ?_)
  refine V_aload_n C dX9_begins_42 rfl (by first | exact isR_r _ | exact isR_q _ | exact isR_n) ?_
  refine V_mNum C 43 hRF fl_X9_253 (by decide) dX9_begins_43 en ?_
  refine V_iconst C (v := (-1)) dX9_begins_46 (by decide) ?_
  refine V_mSt C 47 hRF rfl rfl ha39 (by first | assumption | (show _ < _; omega)) dX9_begins_47 (fun T hRF => ?_)
  refine V_aload_n C dX9_begins_48 rfl (by first | exact isR_r _ | exact isR_q _ | exact isR_n) ?_
  refine V_mArr C 48 hRF rfl fl_X9_137 (by decide) dX9_begins_49 (fun a49 ha49 => ?_)
  refine V_aload_n C dX9_begins_52 rfl (by first | exact isR_r _ | exact isR_q _ | exact isR_n) ?_
  refine V_mNum C 43 hRF fl_X9_253 (by decide) dX9_begins_53 en ?_
  refine V_aload_n C dX9_begins_56 rfl (by first | exact isR_r _ | exact isR_q _ | exact isR_n) ?_
  refine V_iload_n C dX9_begins_57 rfl ?_
  refine V_aload_n C dX9_begins_58 rfl (by first | exact isR_r _ | exact isR_q _ | exact isR_n) ?_
  refine V_mNum C 0 hRF fl_X9_187 (by decide) dX9_begins_59 rfl ?_
  refine V_fV C (c_X9_countsOn _ hl G _ m (oBeg1 σ k n h) hRF.1 (IC_beg1 hI) (nI k) (σ.2 0)) kv_X9_220 cf_9 (by decide) rfl hRF.1.1 (by decide) (by decide) rfl rfl (Nat.le_of_ble_eq_true rfl) dX9_begins_62 ?_
  dsimp only [Option.toList_some, Option.toList_none, List.cons_append, List.nil_append]
  refine V_mSt C 48 hRF rfl rfl ha49 (by first | assumption | (show _ < _; omega)) dX9_begins_65 (fun T hRF => ?_)
  refine V_aload_n C dX9_begins_66 rfl (by first | exact isR_r _ | exact isR_q _ | exact isR_n) ?_
  refine V_mArr C 10 hRF rfl fl_X9_34 (by decide) dX9_begins_67 (fun a67 ha67 => ?_)
  refine V_iload_n C dX9_begins_70 rfl ?_
  refine V_aload_n C dX9_begins_71 rfl (by first | exact isR_r _ | exact isR_q _ | exact isR_n) ?_
  refine V_mNum C 43 hRF fl_X9_253 (by decide) dX9_begins_72 en ?_
  refine V_mSt C 10 hRF rfl rfl ha67 (by first | assumption | (show _ < _; omega)) dX9_begins_75 (fun T hRF => ?_)
  refine V_aload_n C dX9_begins_76 rfl (by first | exact isR_r _ | exact isR_q _ | exact isR_n) ?_
  refine V_mArr C 11 hRF rfl fl_X9_37 (by decide) dX9_begins_77 (fun a77 ha77 => ?_)
  refine V_iload_n C dX9_begins_80 rfl ?_
  refine V_dup2 C dX9_begins_81 rfl rfl ?_
  refine V_mLd C 11 hRF rfl rfl ha77 (by first | assumption | (show _ < _; omega)) rfl dX9_begins_82 ?_
  refine V_iconst C (v := 1) dX9_begins_83 (by decide) ?_
  refine V_iadd C dX9_begins_84 ?_
  refine V_mSt C 11 hRF rfl rfl ha77 (by first | assumption | (show _ < _; omega)) dX9_begins_85 (fun T hRF => ?_)
  refine V_aload_n C dX9_begins_86 rfl (by first | exact isR_r _ | exact isR_q _ | exact isR_n) ?_
  refine V_mArr C 13 hRF rfl fl_X9_43 (by decide) dX9_begins_87 (fun a87 ha87 => ?_)
  refine V_iload_n C dX9_begins_90 rfl ?_
  refine V_iconst C (v := 0) dX9_begins_91 (by decide) ?_
  refine V_mStZ C 13 hRF rfl rfl ha87 (by first | assumption | (show _ < _; omega)) (by first | exact Or.inl rfl | exact Or.inr rfl | assumption) dX9_begins_92 (fun T hRF => ?_)
  refine V_aload_n C dX9_begins_93 rfl (by first | exact isR_r _ | exact isR_q _ | exact isR_n) ?_
  refine V_dup C dX9_begins_94 (by first | rfl | exact isR_c (isR_q _)) ?_
  refine V_mNum C 43 hRF fl_X9_253 (by decide) dX9_begins_95 en ?_
  refine V_iconst C (v := 1) dX9_begins_98 (by decide) ?_
  refine V_iadd C dX9_begins_99 ?_
  refine V_mPut C 43 hRF pl_X9_253 (by decide) dX9_begins_100 (fun T hRF => ?_)
  refine V_aload_n C dX9_begins_103 rfl (by first | exact isR_r _ | exact isR_q _ | exact isR_n) ?_
  refine V_mNum C 43 hRF fl_X9_253 (by decide) dX9_begins_104 up1_s ?_
  refine V_iconst C (v := 1) dX9_begins_107 (by decide) ?_
  refine V_isub C dX9_begins_108 ?_
  refine V_iret C (by first | omega | decide) (by first | omega | decide) dX9_begins_109 ?_
  unfold oBegins
  rw [← hn, en]
  exact ⟨rfl, hRF⟩
theorem c_X9_place (l : Launch) (hl : l.stackTraces = false) (G : gG) (S : sS) (m : Nat) (σ : aS) (hR : RelR S m σ) (hI : IC σ)  (x : Int32) (h : Int32)  : CtR l G yX9_place cX9_place 4 (Option.some FieldType.int) 6 [.ref m, .int x, .int h] S m (some (.int (oPlace σ x h).1)) (oPlace σ x h).2 := by
  have hm := hR.1
  have hRF := RF_0 hR
  obtain ⟨n, hn⟩ : ∃ n, n = cN σ 43 := ⟨_, rfl⟩
  have hn16 : n ≤ 100 := by rw [hn]; exact hI.2.2.2.2.2.1.2
  have en : σ.2 43 = nI n := by rw [hn]; exact hI.2.2.2.2.2.1.1
  refine Ct_of (by decide) (cat1_all (by repeat first | exact trivial | refine ⟨by first | rfl | exact isR_c (isR_q _), ?_⟩)) (Nat.le_of_ble_eq_true rfl) hl fun X C hXl hin => ?_
  subst hXl
  dsimp only [lArgs, Nat.reduceAdd]
  have J2 : ∀ y z : Int32, y = pI9 (chP σ x ∧ hoP σ h) → z = pI9 ((chP σ x ∧ hoP σ h) ∧ ¬ mHomeOf σ (nx x) = h ∧ mWhyNot σ (nx x) (nx h) = 0 ∧ σ.2 43 < 100) → V X G 4 (eQ X G (fun v T => v = some (.int (oPlace σ x h).1) ∧ RF S T m (oPlace σ x h).2.1 (oPlace σ x h).2.2) (fun _ _ => False) 0 0) 0 0 60 [(3, false, .int y), (0, false, .ref m), (1, false, .int x), (2, false, .int h)] [.int z, .int y, .ref m] S := fun y z hy hz => by
    have et : gT y z 1 = tPlace σ x h := by rw [hy, hz]; rfl
    refine V_iconst C (v := 1) dX9_place_60 (by decide) ?_
    refine V_fV C (c_X9_goes _ hl G S m hm y z 1) kv_X9_179 cf_9 (by decide) rfl hRF.1.1 (by decide) (by decide) rfl rfl (Nat.le_of_ble_eq_true rfl) dX9_place_61 ?_
    dsimp only [Option.toList_some, Option.toList_none, List.cons_append, List.nil_append]
    rw [et]
    refine V_genT (RF_I hRF (f := 56) rfl) (fun T hRF => ?_)
    refine V_if_ne C (tgt := 69) dX9_place_64 (by decide) (fun h64 => ?_) (fun h64 => ?_)
    · have h0 := bI_ne.mp h64
      rw [h0] at hRF
      obtain ⟨k, hk, rfl⟩ := ch_ix hI (pI9_ne.mp (hy ▸ (gT_x (et.trans h0)).1)).1
      have hk16 : k < 16 := by have := hI.2.1.2; omega
      have ek : nx (nI k) = k := nI_clamp (by omega)
      have hq := pI9_ne.mp (hz ▸ (gT_x (et.trans h0)).2.1)
      have hlt : cN σ 43 < 100 := by
        have q2 := hq.2.2.2
        rw [en, show (100 : Int32) = nI 100 from rfl] at q2
        rw [← hn]
        exact (nI_ltI (by omega) (by decide)).mp q2
      refine V_aload_n C dX9_place_69 rfl (by first | exact isR_r _ | exact isR_q _ | exact isR_n) ?_
      refine V_iload_n C dX9_place_70 rfl ?_
      refine V_iload_n C dX9_place_71 rfl ?_
      refine V_callV C (c_X9_begins _ hl G _ m (sT σ 0) hRF.1 hI k h hk hlt) kv_X9_256 cf_9 (by decide) rfl hRF.1.1 (by decide) (by decide) rfl rfl (Nat.le_of_ble_eq_true rfl) dX9_place_72 ?_ (fun _ _ h => h.elim)
      intro v9 T9 hT
      obtain ⟨rfl, hT⟩ := hT
      have hRF := RF_tr hRF hT
      dsimp only [Option.toList_some, Option.toList_none, List.cons_append, List.nil_append]
      refine V_iret C (by first | omega | decide) (by first | omega | decide) dX9_place_75 ?_
      unfold oPlace
      first | (rw [if_pos h0, ek]; exact ⟨rfl, hRF⟩) | (rw [if_pos h0]; exact ⟨rfl, hRF⟩) | (rw [if_neg h0]; exact ⟨rfl, hRF⟩)
    · have h0 := bI_eq.mp h64
      refine V_iconst C (v := 0) dX9_place_67 (by decide) ?_
      refine V_iret C (by first | omega | decide) (by first | omega | decide) dX9_place_68 ?_
      unfold oPlace
      first | (rw [if_pos h0, ek]; exact ⟨rfl, hRF⟩) | (rw [if_pos h0]; exact ⟨rfl, hRF⟩) | (rw [if_neg h0]; exact ⟨rfl, hRF⟩)
  have J1 : ∀ y : Int32, y = pI9 (chP σ x ∧ hoP σ h) → V X G 4 (eQ X G (fun v T => v = some (.int (oPlace σ x h).1) ∧ RF S T m (oPlace σ x h).2.1 (oPlace σ x h).2.2) (fun _ _ => False) 0 0) 0 0 21 [(0, false, .ref m), (1, false, .int x), (2, false, .int h)] [.int y] S := fun y hy => by
    by_cases hc : chP σ x ∧ hoP σ h
    · obtain ⟨⟨k, hk, rfl⟩, ⟨j, hj, rfl⟩⟩ := And.intro (ch_ix hI hc.1) (ho_ix hI hc.2)
      have hk16 : k < 16 := by have := hI.2.1.2; omega
      have hj10 : j < 10 := by have := hI.2.2.1.2; omega
      have ek : nx (nI k) = k := nI_clamp (by omega)
      have ej : nx (nI j) = j := nI_clamp (by omega)
      refine V_istore_n C dX9_place_21 (by decide) rfl ?_
      simp only [lset1, lset2, List.filter_cons, List.filter_nil, Nat.reduceBEq, Nat.reduceAdd, Bool.not_true, Bool.not_false, Bool.and_true, Bool.and_false, Bool.true_and, Bool.false_and, if_true, if_false, Bool.false_eq_true, reduceIte]
      refine V_aload_n C dX9_place_22 rfl (by first | exact isR_r _ | exact isR_q _ | exact isR_n) ?_
      refine V_iload_n C dX9_place_23 rfl ?_
      refine V_iload_n C dX9_place_24 rfl ?_
      refine V_if_eq C (tgt := 59) dX9_place_25 (by decide) (fun h25 => ?_) (fun h25 => ?_)
      · exact absurd h25 (fun q => absurd (hy ▸ q) (pI9_ne.mpr hc))
      · refine V_aload_n C dX9_place_28 rfl (by first | exact isR_r _ | exact isR_q _ | exact isR_n) ?_
        refine V_iload_n C dX9_place_29 rfl ?_
        refine V_fV C (c_X9_homeOf _ hl G S m σ hR hI k hk) kv_X9_227 cf_9 (by decide) rfl hRF.1.1 (by decide) (by decide) rfl rfl (Nat.le_of_ble_eq_true rfl) dX9_place_30 ?_
        dsimp only [Option.toList_some, Option.toList_none, List.cons_append, List.nil_append]
        refine V_iload_n C dX9_place_33 rfl ?_
        refine V_icmp_eq C (tgt := 59) dX9_place_34 (by decide) (fun h34 => ?_) (fun h34 => ?_)
        · refine V_iconst C (v := 0) dX9_place_59 (by decide) ?_
          refine J2 _ _ hy ?_
          rw [ek, ej]
          first | exact Eq.symm (pI9_f (fun q => q.2.1 h34)) | exact Eq.symm (pI9_f (fun q => h43 q.2.2.1)) | exact Eq.symm (pI9_f (fun q => absurd ((nI_ltI (by omega) (by decide)).mp (en ▸ q.2.2.2 : nI n < nI 100)) (by omega))) | exact Eq.symm (pI9_t ⟨hc, h34, h43, by rw [en]; exact (nI_ltI (by omega) (by decide)).mpr h52⟩)
        · refine V_aload_n C dX9_place_37 rfl (by first | exact isR_r _ | exact isR_q _ | exact isR_n) ?_
          refine V_iload_n C dX9_place_38 rfl ?_
          refine V_iload_n C dX9_place_39 rfl ?_
          refine V_fV C (c_X9_whyNot _ hl G S m σ hR hI k hk16 j hj10) kv_X9_243 cf_9 (by decide) rfl hRF.1.1 (by decide) (by decide) rfl rfl (Nat.le_of_ble_eq_true rfl) dX9_place_40 ?_
          dsimp only [Option.toList_some, Option.toList_none, List.cons_append, List.nil_append]
          refine V_if_ne C (tgt := 59) dX9_place_43 (by decide) (fun h43 => ?_) (fun h43 => ?_)
          · refine V_iconst C (v := 0) dX9_place_59 (by decide) ?_
            refine J2 _ _ hy ?_
            rw [ek, ej]
            first | exact Eq.symm (pI9_f (fun q => q.2.1 h34)) | exact Eq.symm (pI9_f (fun q => h43 q.2.2.1)) | exact Eq.symm (pI9_f (fun q => absurd ((nI_ltI (by omega) (by decide)).mp (en ▸ q.2.2.2 : nI n < nI 100)) (by omega))) | exact Eq.symm (pI9_t ⟨hc, h34, h43, by rw [en]; exact (nI_ltI (by omega) (by decide)).mpr h52⟩)
          · refine V_aload_n C dX9_place_46 rfl (by first | exact isR_r _ | exact isR_q _ | exact isR_n) ?_
            refine V_mNum C 43 hRF fl_X9_253 (by decide) dX9_place_47 en ?_
            refine V_bipush C (v := 100) dX9_place_50 (by decide) ?_
            rw [show (100 : Int32) = nI 100 from rfl]
            refine V_igeN C (tgt := 59) (by omega) (by omega) dX9_place_52 (by decide) (fun h52 => ?_) (fun h52 => ?_)
            · refine V_iconst C (v := 0) dX9_place_59 (by decide) ?_
              refine J2 _ _ hy ?_
              rw [ek, ej]
              first | exact Eq.symm (pI9_f (fun q => q.2.1 h34)) | exact Eq.symm (pI9_f (fun q => h43 q.2.2.1)) | exact Eq.symm (pI9_f (fun q => absurd ((nI_ltI (by omega) (by decide)).mp (en ▸ q.2.2.2 : nI n < nI 100)) (by omega))) | exact Eq.symm (pI9_t ⟨hc, h34, h43, by rw [en]; exact (nI_ltI (by omega) (by decide)).mpr h52⟩)
            · refine V_iconst C (v := 1) dX9_place_55 (by decide) ?_
              refine V_goto C (tgt := 60) dX9_place_56 (by decide) ?_
              refine J2 _ _ hy ?_
              rw [ek, ej]
              first | exact Eq.symm (pI9_f (fun q => q.2.1 h34)) | exact Eq.symm (pI9_f (fun q => h43 q.2.2.1)) | exact Eq.symm (pI9_f (fun q => absurd ((nI_ltI (by omega) (by decide)).mp (en ▸ q.2.2.2 : nI n < nI 100)) (by omega))) | exact Eq.symm (pI9_t ⟨hc, h34, h43, by rw [en]; exact (nI_ltI (by omega) (by decide)).mpr h52⟩)
    · refine V_istore_n C dX9_place_21 (by decide) rfl ?_
      simp only [lset1, lset2, List.filter_cons, List.filter_nil, Nat.reduceBEq, Nat.reduceAdd, Bool.not_true, Bool.not_false, Bool.and_true, Bool.and_false, Bool.true_and, Bool.false_and, if_true, if_false, Bool.false_eq_true, reduceIte]
      refine V_aload_n C dX9_place_22 rfl (by first | exact isR_r _ | exact isR_q _ | exact isR_n) ?_
      refine V_iload_n C dX9_place_23 rfl ?_
      refine V_iload_n C dX9_place_24 rfl ?_
      refine V_if_eq C (tgt := 59) dX9_place_25 (by decide) (fun h25 => ?_) (fun h25 => ?_)
      · refine V_iconst C (v := 0) dX9_place_59 (by decide) ?_
        refine J2 _ _ hy ?_
        exact Eq.symm (pI9_f (fun q => hc q.1))
      · exact absurd (hy.trans (pI9_f hc)) h25
  refine V_aload_n C dX9_place_0 rfl (by first | exact isR_r _ | exact isR_q _ | exact isR_n) ?_
  refine V_iload_n C dX9_place_1 rfl ?_
  refine V_fV C (c_X9_isChild _ hl G S m σ hR x) kv_X9_208 cf_9 (by decide) rfl hRF.1.1 (by decide) (by decide) rfl rfl (Nat.le_of_ble_eq_true rfl) dX9_place_2 ?_
  dsimp only [Option.toList_some, Option.toList_none, List.cons_append, List.nil_append]
  refine V_if_eq C (tgt := 20) dX9_place_5 (by decide) (fun h5 => ?_) (fun h5 => ?_)
  · refine V_iconst C (v := 0) dX9_place_20 (by decide) ?_
    refine J1 _ ?_
    first | exact Eq.symm (pI9_t ⟨bI_ne.mp h5, bI_ne.mp h13⟩) | exact Eq.symm (pI9_f (fun q => bI_eq.mp h5 q.1)) | exact Eq.symm (pI9_f (fun q => bI_eq.mp h13 q.2))
  · refine V_aload_n C dX9_place_8 rfl (by first | exact isR_r _ | exact isR_q _ | exact isR_n) ?_
    refine V_iload_n C dX9_place_9 rfl ?_
    refine V_fV C (c_X9_isHome _ hl G S m σ hR h) kv_X9_193 cf_9 (by decide) rfl hRF.1.1 (by decide) (by decide) rfl rfl (Nat.le_of_ble_eq_true rfl) dX9_place_10 ?_
    dsimp only [Option.toList_some, Option.toList_none, List.cons_append, List.nil_append]
    refine V_if_eq C (tgt := 20) dX9_place_13 (by decide) (fun h13 => ?_) (fun h13 => ?_)
    · refine V_iconst C (v := 0) dX9_place_20 (by decide) ?_
      refine J1 _ ?_
      first | exact Eq.symm (pI9_t ⟨bI_ne.mp h5, bI_ne.mp h13⟩) | exact Eq.symm (pI9_f (fun q => bI_eq.mp h5 q.1)) | exact Eq.symm (pI9_f (fun q => bI_eq.mp h13 q.2))
    · refine V_iconst C (v := 1) dX9_place_16 (by decide) ?_
      refine V_goto C (tgt := 21) dX9_place_17 (by decide) ?_
      refine J1 _ ?_
      first | exact Eq.symm (pI9_t ⟨bI_ne.mp h5, bI_ne.mp h13⟩) | exact Eq.symm (pI9_f (fun q => bI_eq.mp h5 q.1)) | exact Eq.symm (pI9_f (fun q => bI_eq.mp h13 q.2))
theorem c_X9_childIs (l : Launch) (hl : l.stackTraces = false) (G : gG) (S : sS) (m : Nat) (σ : aS) (hR : RelR S m σ) (hI : IC σ)  (x : Int32) (w : Int32)  : CtR l G yX9_childIs cX9_childIs 3 (Option.some FieldType.int) 3 [.ref m, .int x, .int w] S m (some (.int (oIs σ x w).1)) (oIs σ x w).2 := by
  have hm := hR.1
  have hRF := RF_0 hR
  have et : gT (bI (chP σ x)) (bI (inP w 0 6)) 1 = tIs σ x w := rfl
  refine Ct_of (by decide) (cat1_all (by repeat first | exact trivial | refine ⟨by first | rfl | exact isR_c (isR_q _), ?_⟩)) (Nat.le_of_ble_eq_true rfl) hl fun X C hXl hin => ?_
  subst hXl
  dsimp only [lArgs, Nat.reduceAdd]
  have J : ∀ (k : Nat) (hk : k < cN σ 1) (w : Int32) (h0 : tIs σ (nI k) w = 0) (hw : ∃ j, j < 7 ∧ w = nI j) (T : sS) (hRF : RF S T m σ.1 (up1 σ.2 56 0)), V X G 3 (eQ X G (fun v T => v = some (.int (oIs σ (nI k) w).1) ∧ RF S T m (oIs σ (nI k) w).2.1 (oIs σ (nI k) w).2.2) (fun _ _ => False) 0 0) 0 0 22 [(0, false, .ref m), (1, false, .int (nI k)), (2, false, .int w)] [] T := by
    intro k hk w h0 hw T hRF
    have hk16 : k < 16 := by have := hI.2.1.2; omega
    have ek : nx (nI k) = k := nI_clamp (by omega)
    obtain ⟨j, hj, rfl⟩ := hw
    obtain rfl | rfl | rfl | rfl | rfl | rfl | rfl : j = 0 ∨ j = 1 ∨ j = 2 ∨ j = 3 ∨ j = 4 ∨ j = 5 ∨ j = 6 := by omega
    · refine V_iload_n C dX9_childIs_22 rfl ?_
      refine V_tableIn C dX9_childIs_23 (tgt := 60) (by decide) (by decide) rfl (by decide) ?_
      refine V_aload_n C dX9_childIs_60 rfl (by first | exact isR_r _ | exact isR_q _ | exact isR_n) ?_
      refine V_iload_n C dX9_childIs_61 rfl ?_
      refine V_fV C (c_X9_homeOf _ hl G _ m (sT σ 0) hRF.1 hI k hk) kv_X9_227 cf_9 (by decide) rfl hRF.1.1 (by decide) (by decide) rfl rfl (Nat.le_of_ble_eq_true rfl) dX9_childIs_62 ?_
      dsimp only [Option.toList_some, Option.toList_none, List.cons_append, List.nil_append]
      refine V_iret C (by first | omega | decide) (by first | omega | decide) dX9_childIs_65 ?_
      unfold oIs
      rw [if_pos h0, ek]
      exact ⟨rfl, hRF⟩
    · refine V_iload_n C dX9_childIs_22 rfl ?_
      refine V_tableIn C dX9_childIs_23 (tgt := 66) (by decide) (by decide) rfl (by decide) ?_
      refine V_aload_n C dX9_childIs_66 rfl (by first | exact isR_r _ | exact isR_q _ | exact isR_n) ?_
      refine V_iload_n C dX9_childIs_67 rfl ?_
      refine V_aload_n C dX9_childIs_68 rfl (by first | exact isR_r _ | exact isR_q _ | exact isR_n) ?_
      refine V_mNum C 0 hRF fl_X9_187 (by decide) dX9_childIs_69 rfl ?_
      refine V_fV C (c_X9_yearsOn _ hl G _ m (sT σ 0) hRF.1 k hk16 (σ.2 0)) kv_X9_224 cf_9 (by decide) rfl hRF.1.1 (by decide) (by decide) rfl rfl (Nat.le_of_ble_eq_true rfl) dX9_childIs_72 ?_
      dsimp only [Option.toList_some, Option.toList_none, List.cons_append, List.nil_append]
      refine V_iret C (by first | omega | decide) (by first | omega | decide) dX9_childIs_75 ?_
      unfold oIs
      rw [if_pos h0, ek]
      exact ⟨rfl, hRF⟩
    · refine V_iload_n C dX9_childIs_22 rfl ?_
      refine V_tableIn C dX9_childIs_23 (tgt := 76) (by decide) (by decide) rfl (by decide) ?_
      refine V_aload_n C dX9_childIs_76 rfl (by first | exact isR_r _ | exact isR_q _ | exact isR_n) ?_
      refine V_mArr C 11 hRF rfl fl_X9_37 (by decide) dX9_childIs_77 (fun a77 ha77 => ?_)
      refine V_iload_n C dX9_childIs_80 rfl ?_
      refine V_mLd C 11 hRF rfl rfl ha77 (by first | assumption | (show _ < _; omega)) rfl dX9_childIs_81 ?_
      refine V_iret C (by first | omega | decide) (by first | omega | decide) dX9_childIs_82 ?_
      unfold oIs
      rw [if_pos h0, ek]
      exact ⟨rfl, hRF⟩
    · refine V_iload_n C dX9_childIs_22 rfl ?_
      refine V_tableIn C dX9_childIs_23 (tgt := 83) (by decide) (by decide) rfl (by decide) ?_
      refine V_aload_n C dX9_childIs_83 rfl (by first | exact isR_r _ | exact isR_q _ | exact isR_n) ?_
      refine V_mArr C 14 hRF rfl fl_X9_47 (by decide) dX9_childIs_84 (fun a84 ha84 => ?_)
      refine V_iload_n C dX9_childIs_87 rfl ?_
      refine V_mLd C 14 hRF rfl rfl ha84 (by first | assumption | (show _ < _; omega)) rfl dX9_childIs_88 ?_
      refine V_iret C (by first | omega | decide) (by first | omega | decide) dX9_childIs_89 ?_
      unfold oIs
      rw [if_pos h0, ek]
      exact ⟨rfl, hRF⟩
    · refine V_iload_n C dX9_childIs_22 rfl ?_
      refine V_tableIn C dX9_childIs_23 (tgt := 90) (by decide) (by decide) rfl (by decide) ?_
      refine V_aload_n C dX9_childIs_90 rfl (by first | exact isR_r _ | exact isR_q _ | exact isR_n) ?_
      refine V_mArr C 15 hRF rfl fl_X9_50 (by decide) dX9_childIs_91 (fun a91 ha91 => ?_)
      refine V_iload_n C dX9_childIs_94 rfl ?_
      refine V_mLd C 15 hRF rfl rfl ha91 (by first | assumption | (show _ < _; omega)) rfl dX9_childIs_95 ?_
      refine V_iret C (by first | omega | decide) (by first | omega | decide) dX9_childIs_96 ?_
      unfold oIs
      rw [if_pos h0, ek]
      exact ⟨rfl, hRF⟩
    · refine V_iload_n C dX9_childIs_22 rfl ?_
      refine V_tableIn C dX9_childIs_23 (tgt := 97) (by decide) (by decide) rfl (by decide) ?_
      refine V_aload_n C dX9_childIs_97 rfl (by first | exact isR_r _ | exact isR_q _ | exact isR_n) ?_
      refine V_mArr C 18 hRF rfl fl_X9_59 (by decide) dX9_childIs_98 (fun a98 ha98 => ?_)
      refine V_iload_n C dX9_childIs_101 rfl ?_
      refine V_mLdZ C 18 hRF rfl rfl ha98 (by first | assumption | (show _ < _; omega)) rfl dX9_childIs_102 ?_
      refine V_if_eq C (tgt := 110) dX9_childIs_103 (by decide) (fun h103 => ?_) (fun h103 => ?_)
      · refine V_iconst C (v := 0) dX9_childIs_110 (by decide) ?_
        refine V_iret C (by first | omega | decide) (by first | omega | decide) dX9_childIs_111 ?_
        unfold oIs
        rw [if_pos h0, ek]
        refine ⟨?_, hRF⟩
        rw [show mIs (sT σ 0) k (nI 5) = if σ.1 18 k = 0 then 0 else 1 from rfl]
        first | rw [if_pos h103] | rw [if_neg h103]
      · refine V_iconst C (v := 1) dX9_childIs_106 (by decide) ?_
        refine V_goto C (tgt := 111) dX9_childIs_107 (by decide) ?_
        refine V_iret C (by first | omega | decide) (by first | omega | decide) dX9_childIs_111 ?_
        unfold oIs
        rw [if_pos h0, ek]
        refine ⟨?_, hRF⟩
        rw [show mIs (sT σ 0) k (nI 5) = if σ.1 18 k = 0 then 0 else 1 from rfl]
        first | rw [if_pos h103] | rw [if_neg h103]
    · refine V_iload_n C dX9_childIs_22 rfl ?_
      refine V_tableOut C dX9_childIs_23 (tgt := 112) (Or.inr (by decide)) (by decide) ?_
      refine V_aload_n C dX9_childIs_112 rfl (by first | exact isR_r _ | exact isR_q _ | exact isR_n) ?_
      refine V_mArr C 8 hRF rfl fl_X9_28 (by decide) dX9_childIs_113 (fun a113 ha113 => ?_)
      refine V_iload_n C dX9_childIs_116 rfl ?_
      refine V_mLd C 8 hRF rfl rfl ha113 (by first | assumption | (show _ < _; omega)) rfl dX9_childIs_117 ?_
      refine V_iret C (by first | omega | decide) (by first | omega | decide) dX9_childIs_118 ?_
      unfold oIs
      rw [if_pos h0, ek]
      exact ⟨rfl, hRF⟩
  refine V_aload_n C dX9_childIs_0 rfl (by first | exact isR_r _ | exact isR_q _ | exact isR_n) ?_
  refine V_aload_n C dX9_childIs_1 rfl (by first | exact isR_r _ | exact isR_q _ | exact isR_n) ?_
  refine V_iload_n C dX9_childIs_2 rfl ?_
  refine V_fV C (c_X9_isChild _ hl G S m σ hR x) kv_X9_208 cf_9 (by decide) rfl hRF.1.1 (by decide) (by decide) rfl rfl (Nat.le_of_ble_eq_true rfl) dX9_childIs_3 ?_
  dsimp only [Option.toList_some, Option.toList_none, List.cons_append, List.nil_append]
  refine V_iload_n C dX9_childIs_6 rfl ?_
  refine V_iconst C (v := 0) dX9_childIs_7 (by decide) ?_
  refine V_bipush C (v := 6) dX9_childIs_8 (by decide) ?_
  refine V_fS C (c_X9_in _ hl G S w 0 6) ks_X9_165 (by decide) (by decide) rfl rfl (Nat.le_of_ble_eq_true rfl) dX9_childIs_10 ?_
  dsimp only [Option.toList_some, Option.toList_none, List.cons_append, List.nil_append]
  refine V_iconst C (v := 1) dX9_childIs_13 (by decide) ?_
  refine V_fV C (c_X9_goes _ hl G S m hm _ (bI (inP w 0 6)) 1) kv_X9_179 cf_9 (by decide) rfl hRF.1.1 (by decide) (by decide) rfl rfl (Nat.le_of_ble_eq_true rfl) dX9_childIs_14 ?_
  dsimp only [Option.toList_some, Option.toList_none, List.cons_append, List.nil_append]
  rw [et]
  refine V_genT (RF_I hRF (f := 56) rfl) (fun T hRF => ?_)
  refine V_if_ne C (tgt := 22) dX9_childIs_17 (by decide) (fun h17 => ?_) (fun h17 => ?_)
  · have h0 := bI_ne.mp h17
    rw [h0] at hRF
    obtain ⟨k, hk, rfl⟩ := ch_ix hI (bI_ne.mp (gT_x (et.trans h0)).1)
    have hk16 : k < 16 := by have := hI.2.1.2; omega
    have ek : nx (nI k) = k := nI_clamp (by omega)
    exact J k hk w h0 (ix_of (n := 7) (by decide) (bI_ne.mp (gT_x (et.trans h0)).2.1)) _ hRF
  · have h0 := bI_eq.mp h17
    refine V_iconst C (v := 0) dX9_childIs_20 (by decide) ?_
    refine V_iret C (by first | omega | decide) (by first | omega | decide) dX9_childIs_21 ?_
    unfold oIs
    first | (rw [if_pos h0, ek]; exact ⟨rfl, hRF⟩) | (rw [if_pos h0]; exact ⟨rfl, hRF⟩) | (rw [if_neg h0]; exact ⟨rfl, hRF⟩)
theorem c_X9_stay (l : Launch) (hl : l.stackTraces = false) (G : gG) (S : sS) (m : Nat) (σ : aS) (hR : RelR S m σ) (hI : IC σ)  (x : Int32) (w : Int32)  : CtR l G yX9_stay cX9_stay 3 (Option.some FieldType.int) 2 [.ref m, .int x, .int w] S m (some (.int (oStay σ x w).1)) (oStay σ x w).2 := by
  have hm := hR.1
  have hRF := RF_0 hR
  have et : gT (bI (stP σ x)) (bI (inP w 0 4)) 1 = tStay σ x w := rfl
  refine Ct_of (by decide) (cat1_all (by repeat first | exact trivial | refine ⟨by first | rfl | exact isR_c (isR_q _), ?_⟩)) (Nat.le_of_ble_eq_true rfl) hl fun X C hXl hin => ?_
  subst hXl
  dsimp only [lArgs, Nat.reduceAdd]
  refine V_aload_n C dX9_stay_0 rfl (by first | exact isR_r _ | exact isR_q _ | exact isR_n) ?_
  refine V_iload_n C dX9_stay_1 rfl ?_
  refine V_iconst C (v := 0) dX9_stay_2 (by decide) ?_
  refine V_aload_n C dX9_stay_3 rfl (by first | exact isR_r _ | exact isR_q _ | exact isR_n) ?_
  refine V_mNum C 43 hRF fl_X9_253 (by decide) dX9_stay_4 rfl ?_
  refine V_iconst C (v := 1) dX9_stay_7 (by decide) ?_
  refine V_isub C dX9_stay_8 ?_
  refine V_fS C (c_X9_in _ hl G S x 0 _) ks_X9_165 (by decide) (by decide) rfl rfl (Nat.le_of_ble_eq_true rfl) dX9_stay_9 ?_
  dsimp only [Option.toList_some, Option.toList_none, List.cons_append, List.nil_append]
  refine V_iload_n C dX9_stay_12 rfl ?_
  refine V_iconst C (v := 0) dX9_stay_13 (by decide) ?_
  refine V_iconst C (v := 4) dX9_stay_14 (by decide) ?_
  refine V_fS C (c_X9_in _ hl G S w 0 4) ks_X9_165 (by decide) (by decide) rfl rfl (Nat.le_of_ble_eq_true rfl) dX9_stay_15 ?_
  dsimp only [Option.toList_some, Option.toList_none, List.cons_append, List.nil_append]
  refine V_iconst C (v := 1) dX9_stay_18 (by decide) ?_
  refine V_fV C (c_X9_goes _ hl G S m hm (bI (stP σ x)) (bI (inP w 0 4)) 1) kv_X9_179 cf_9 (by decide) rfl hRF.1.1 (by decide) (by decide) rfl rfl (Nat.le_of_ble_eq_true rfl) dX9_stay_19 ?_
  dsimp only [Option.toList_some, Option.toList_none, List.cons_append, List.nil_append]
  rw [et]
  refine V_genT (RF_I hRF (f := 56) rfl) (fun T hRF => ?_)
  refine V_if_ne C (tgt := 27) dX9_stay_22 (by decide) (fun h22 => ?_) (fun h22 => ?_)
  · have h0 := bI_ne.mp h22
    rw [h0] at hRF
    obtain ⟨k, hk, rfl⟩ := st_ix hI (bI_ne.mp (gT_x (et.trans h0)).1)
    have hk16 : k < 100 := by have := hI.2.2.2.2.2.1.2; omega
    have ek : nx (nI k) = k := nI_clamp (by omega)
    refine V_iload_n C dX9_stay_27 rfl ?_
    refine V_if_ne C (tgt := 40) dX9_stay_28 (by decide) (fun h28 => ?_) (fun h28 => ?_)
    · refine V_iload_n C dX9_stay_40 rfl ?_
      refine V_iconst C (v := 1) dX9_stay_41 (by decide) ?_
      refine V_icmp_ne C (tgt := 54) dX9_stay_42 (by decide) (fun h42 => ?_) (fun h42 => ?_)
      · refine V_iload_n C dX9_stay_54 rfl ?_
        refine V_iconst C (v := 2) dX9_stay_55 (by decide) ?_
        refine V_icmp_ne C (tgt := 68) dX9_stay_56 (by decide) (fun h56 => ?_) (fun h56 => ?_)
        · refine V_iload_n C dX9_stay_68 rfl ?_
          refine V_iconst C (v := 3) dX9_stay_69 (by decide) ?_
          refine V_icmp_ne C (tgt := 82) dX9_stay_70 (by decide) (fun h70 => ?_) (fun h70 => ?_)
          · refine V_aload_n C dX9_stay_82 rfl (by first | exact isR_r _ | exact isR_q _ | exact isR_n) ?_
            refine V_mArr C 48 hRF rfl fl_X9_137 (by decide) dX9_stay_83 (fun a83 ha83 => ?_)
            refine V_iload_n C dX9_stay_86 rfl ?_
            refine V_mLd C 48 hRF rfl rfl ha83 (by first | assumption | (show _ < _; omega)) rfl dX9_stay_87 ?_
            refine V_iret C (by first | omega | decide) (by first | omega | decide) dX9_stay_88 ?_
            unfold oStay
            first | (rw [if_neg h0]; exact ⟨rfl, hRF⟩) | (rw [if_pos h0, ek]; unfold mStay; first | (rw [if_pos h28]; exact ⟨rfl, hRF⟩) | (rw [if_neg h28, if_pos h42]; exact ⟨rfl, hRF⟩) | (rw [if_neg h28, if_neg h42, if_pos h56]; exact ⟨rfl, hRF⟩) | (rw [if_neg h28, if_neg h42, if_neg h56, if_pos h70]; exact ⟨rfl, hRF⟩) | (rw [if_neg h28, if_neg h42, if_neg h56, if_neg h70]; exact ⟨rfl, hRF⟩))
          · refine V_aload_n C dX9_stay_73 rfl (by first | exact isR_r _ | exact isR_q _ | exact isR_n) ?_
            refine V_mArr C 47 hRF rfl fl_X9_134 (by decide) dX9_stay_74 (fun a74 ha74 => ?_)
            refine V_iload_n C dX9_stay_77 rfl ?_
            refine V_mLd C 47 hRF rfl rfl ha74 (by first | assumption | (show _ < _; omega)) rfl dX9_stay_78 ?_
            refine V_goto C (tgt := 88) dX9_stay_79 (by decide) ?_
            refine V_iret C (by first | omega | decide) (by first | omega | decide) dX9_stay_88 ?_
            unfold oStay
            first | (rw [if_neg h0]; exact ⟨rfl, hRF⟩) | (rw [if_pos h0, ek]; unfold mStay; first | (rw [if_pos h28]; exact ⟨rfl, hRF⟩) | (rw [if_neg h28, if_pos h42]; exact ⟨rfl, hRF⟩) | (rw [if_neg h28, if_neg h42, if_pos h56]; exact ⟨rfl, hRF⟩) | (rw [if_neg h28, if_neg h42, if_neg h56, if_pos h70]; exact ⟨rfl, hRF⟩) | (rw [if_neg h28, if_neg h42, if_neg h56, if_neg h70]; exact ⟨rfl, hRF⟩))
        · refine V_aload_n C dX9_stay_59 rfl (by first | exact isR_r _ | exact isR_q _ | exact isR_n) ?_
          refine V_mArr C 46 hRF rfl fl_X9_131 (by decide) dX9_stay_60 (fun a60 ha60 => ?_)
          refine V_iload_n C dX9_stay_63 rfl ?_
          refine V_mLd C 46 hRF rfl rfl ha60 (by first | assumption | (show _ < _; omega)) rfl dX9_stay_64 ?_
          refine V_goto C (tgt := 88) dX9_stay_65 (by decide) ?_
          refine V_iret C (by first | omega | decide) (by first | omega | decide) dX9_stay_88 ?_
          unfold oStay
          first | (rw [if_neg h0]; exact ⟨rfl, hRF⟩) | (rw [if_pos h0, ek]; unfold mStay; first | (rw [if_pos h28]; exact ⟨rfl, hRF⟩) | (rw [if_neg h28, if_pos h42]; exact ⟨rfl, hRF⟩) | (rw [if_neg h28, if_neg h42, if_pos h56]; exact ⟨rfl, hRF⟩) | (rw [if_neg h28, if_neg h42, if_neg h56, if_pos h70]; exact ⟨rfl, hRF⟩) | (rw [if_neg h28, if_neg h42, if_neg h56, if_neg h70]; exact ⟨rfl, hRF⟩))
      · refine V_aload_n C dX9_stay_45 rfl (by first | exact isR_r _ | exact isR_q _ | exact isR_n) ?_
        refine V_mArr C 45 hRF rfl fl_X9_128 (by decide) dX9_stay_46 (fun a46 ha46 => ?_)
        refine V_iload_n C dX9_stay_49 rfl ?_
        refine V_mLd C 45 hRF rfl rfl ha46 (by first | assumption | (show _ < _; omega)) rfl dX9_stay_50 ?_
        refine V_goto C (tgt := 88) dX9_stay_51 (by decide) ?_
        refine V_iret C (by first | omega | decide) (by first | omega | decide) dX9_stay_88 ?_
        unfold oStay
        first | (rw [if_neg h0]; exact ⟨rfl, hRF⟩) | (rw [if_pos h0, ek]; unfold mStay; first | (rw [if_pos h28]; exact ⟨rfl, hRF⟩) | (rw [if_neg h28, if_pos h42]; exact ⟨rfl, hRF⟩) | (rw [if_neg h28, if_neg h42, if_pos h56]; exact ⟨rfl, hRF⟩) | (rw [if_neg h28, if_neg h42, if_neg h56, if_pos h70]; exact ⟨rfl, hRF⟩) | (rw [if_neg h28, if_neg h42, if_neg h56, if_neg h70]; exact ⟨rfl, hRF⟩))
    · refine V_aload_n C dX9_stay_31 rfl (by first | exact isR_r _ | exact isR_q _ | exact isR_n) ?_
      refine V_mArr C 44 hRF rfl fl_X9_125 (by decide) dX9_stay_32 (fun a32 ha32 => ?_)
      refine V_iload_n C dX9_stay_35 rfl ?_
      refine V_mLd C 44 hRF rfl rfl ha32 (by first | assumption | (show _ < _; omega)) rfl dX9_stay_36 ?_
      refine V_goto C (tgt := 88) dX9_stay_37 (by decide) ?_
      refine V_iret C (by first | omega | decide) (by first | omega | decide) dX9_stay_88 ?_
      unfold oStay
      first | (rw [if_neg h0]; exact ⟨rfl, hRF⟩) | (rw [if_pos h0, ek]; unfold mStay; first | (rw [if_pos h28]; exact ⟨rfl, hRF⟩) | (rw [if_neg h28, if_pos h42]; exact ⟨rfl, hRF⟩) | (rw [if_neg h28, if_neg h42, if_pos h56]; exact ⟨rfl, hRF⟩) | (rw [if_neg h28, if_neg h42, if_neg h56, if_pos h70]; exact ⟨rfl, hRF⟩) | (rw [if_neg h28, if_neg h42, if_neg h56, if_neg h70]; exact ⟨rfl, hRF⟩))
  · have h0 := bI_eq.mp h22
    refine V_iconst C (v := 0) dX9_stay_25 (by decide) ?_
    refine V_iret C (by first | omega | decide) (by first | omega | decide) dX9_stay_26 ?_
    unfold oStay
    first | (rw [if_neg h0]; exact ⟨rfl, hRF⟩) | (rw [if_pos h0, ek]; unfold mStay; first | (rw [if_pos h28]; exact ⟨rfl, hRF⟩) | (rw [if_neg h28, if_pos h42]; exact ⟨rfl, hRF⟩) | (rw [if_neg h28, if_neg h42, if_pos h56]; exact ⟨rfl, hRF⟩) | (rw [if_neg h28, if_neg h42, if_neg h56, if_pos h70]; exact ⟨rfl, hRF⟩) | (rw [if_neg h28, if_neg h42, if_neg h56, if_neg h70]; exact ⟨rfl, hRF⟩))
theorem c_X9_wasAllowed (l : Launch) (hl : l.stackTraces = false) (G : gG) (S : sS) (m : Nat) (σ : aS) (hR : RelR S m σ) (hI : IC σ) (hS : IS σ) (x : Int32)  : CtR l G yX9_wasAllowed cX9_wasAllowed 2 (Option.some FieldType.boolean) 5 [.ref m, .int x] S m (some (.int (oWas σ x).1)) (oWas σ x).2 := by
  have hm := hR.1
  have hRF := RF_0 hR
  have et : gT (bI (stP σ x)) 1 1 = tSt σ x := rfl
  refine Ct_of (by decide) (cat1_all (by repeat first | exact trivial | refine ⟨by first | rfl | exact isR_c (isR_q _), ?_⟩)) (Nat.le_of_ble_eq_true rfl) hl fun X C hXl hin => ?_
  subst hXl
  dsimp only [lArgs, Nat.reduceAdd]
  refine V_aload_n C dX9_wasAllowed_0 rfl (by first | exact isR_r _ | exact isR_q _ | exact isR_n) ?_
  refine V_iload_n C dX9_wasAllowed_1 rfl ?_
  refine V_iconst C (v := 0) dX9_wasAllowed_2 (by decide) ?_
  refine V_aload_n C dX9_wasAllowed_3 rfl (by first | exact isR_r _ | exact isR_q _ | exact isR_n) ?_
  refine V_mNum C 43 hRF fl_X9_253 (by decide) dX9_wasAllowed_4 rfl ?_
  refine V_iconst C (v := 1) dX9_wasAllowed_7 (by decide) ?_
  refine V_isub C dX9_wasAllowed_8 ?_
  refine V_fS C (c_X9_in _ hl G S x 0 _) ks_X9_165 (by decide) (by decide) rfl rfl (Nat.le_of_ble_eq_true rfl) dX9_wasAllowed_9 ?_
  dsimp only [Option.toList_some, Option.toList_none, List.cons_append, List.nil_append]
  refine V_iconst C (v := 1) dX9_wasAllowed_12 (by decide) ?_
  refine V_iconst C (v := 1) dX9_wasAllowed_13 (by decide) ?_
  refine V_fV C (c_X9_goes _ hl G S m hm (bI (stP σ x)) 1 1) kv_X9_179 cf_9 (by decide) rfl hRF.1.1 (by decide) (by decide) rfl rfl (Nat.le_of_ble_eq_true rfl) dX9_wasAllowed_14 ?_
  dsimp only [Option.toList_some, Option.toList_none, List.cons_append, List.nil_append]
  rw [et]
  refine V_genT (RF_I hRF (f := 56) rfl) (fun T hRF => ?_)
  refine V_if_eq C (tgt := 49) dX9_wasAllowed_17 (by decide) (fun h17 => ?_) (fun h17 => ?_)
  · have h0 := bI_eq.mp h17
    refine V_iconst C (v := 0) dX9_wasAllowed_49 (by decide) ?_
    refine V_zret C (by first | rfl | exact bI_nz _) (by first | omega | decide) (by first | omega | decide) dX9_wasAllowed_50 ?_
    unfold oWas
    first | (rw [if_neg h0]; exact ⟨rfl, hRF⟩) | (rw [if_pos h0, ek, eg]; first | (rw [pI9_t h42]; exact ⟨rfl, hRF⟩) | (rw [pI9_f h42]; exact ⟨rfl, hRF⟩))
  · have h0 := bI_ne.mp h17
    rw [h0] at hRF
    obtain ⟨k, hk, rfl⟩ := st_ix hI (bI_ne.mp (gT_x (et.trans h0)).1)
    have hk16 : k < 100 := by have := hI.2.2.2.2.2.1.2; omega
    have ek : nx (nI k) = k := nI_clamp (by omega)
    obtain ⟨⟨g, hg, e44⟩, -⟩ := hS k hk
    have hg16 : g < 16 := by have := hI.2.1.2; omega
    have eg : nx (σ.1 44 k) = g := by rw [e44]; exact nI_clamp (by omega)
    refine V_aload_n C dX9_wasAllowed_20 rfl (by first | exact isR_r _ | exact isR_q _ | exact isR_n) ?_
    refine V_aload_n C dX9_wasAllowed_21 rfl (by first | exact isR_r _ | exact isR_q _ | exact isR_n) ?_
    refine V_mArr C 44 hRF rfl fl_X9_125 (by decide) dX9_wasAllowed_22 (fun a22 ha22 => ?_)
    refine V_iload_n C dX9_wasAllowed_25 rfl ?_
    refine V_mLd C 44 hRF rfl rfl ha22 (by first | assumption | (show _ < _; omega)) e44 dX9_wasAllowed_26 ?_
    refine V_aload_n C dX9_wasAllowed_27 rfl (by first | exact isR_r _ | exact isR_q _ | exact isR_n) ?_
    refine V_mArr C 45 hRF rfl fl_X9_128 (by decide) dX9_wasAllowed_28 (fun a28 ha28 => ?_)
    refine V_iload_n C dX9_wasAllowed_31 rfl ?_
    refine V_mLd C 45 hRF rfl rfl ha28 (by first | assumption | (show _ < _; omega)) rfl dX9_wasAllowed_32 ?_
    refine V_aload_n C dX9_wasAllowed_33 rfl (by first | exact isR_r _ | exact isR_q _ | exact isR_n) ?_
    refine V_mArr C 46 hRF rfl fl_X9_131 (by decide) dX9_wasAllowed_34 (fun a34 ha34 => ?_)
    refine V_iload_n C dX9_wasAllowed_37 rfl ?_
    refine V_mLd C 46 hRF rfl rfl ha34 (by first | assumption | (show _ < _; omega)) rfl dX9_wasAllowed_38 ?_
    refine V_fV C (c_X9_whyOn _ hl G _ m (sT σ 0) hRF.1 hI g hg16 _ _) kv_X9_237 cf_9 (by decide) rfl hRF.1.1 (by decide) (by decide) rfl rfl (Nat.le_of_ble_eq_true rfl) dX9_wasAllowed_39 ?_
    dsimp only [Option.toList_some, Option.toList_none, List.cons_append, List.nil_append]
    refine V_if_ne C (tgt := 49) dX9_wasAllowed_42 (by decide) (fun h42 => ?_) (fun h42 => ?_)
    · refine V_iconst C (v := 0) dX9_wasAllowed_49 (by decide) ?_
      refine V_zret C (by first | rfl | exact bI_nz _) (by first | omega | decide) (by first | omega | decide) dX9_wasAllowed_50 ?_
      unfold oWas
      first | (rw [if_neg h0]; exact ⟨rfl, hRF⟩) | (rw [if_pos h0, ek, eg]; first | (rw [pI9_t h42]; exact ⟨rfl, hRF⟩) | (rw [pI9_f h42]; exact ⟨rfl, hRF⟩))
    · refine V_iconst C (v := 1) dX9_wasAllowed_45 (by decide) ?_
      refine V_goto C (tgt := 50) dX9_wasAllowed_46 (by decide) ?_
      refine V_zret C (by first | rfl | exact bI_nz _) (by first | omega | decide) (by first | omega | decide) dX9_wasAllowed_50 ?_
      unfold oWas
      first | (rw [if_neg h0]; exact ⟨rfl, hRF⟩) | (rw [if_pos h0, ek, eg]; first | (rw [pI9_t h42]; exact ⟨rfl, hRF⟩) | (rw [pI9_f h42]; exact ⟨rfl, hRF⟩))
theorem c_X9_file (l : Launch) (hl : l.stackTraces = false) (G : gG) (S : sS) (m : Nat) (σ : aS) (hR : RelR S m σ) (hI : IC σ) (hS : IS σ) (x : Int32) (w : Int32)  : CtR l G yX9_file cX9_file 6 (Option.some FieldType.int) 3 [.ref m, .int x, .int w] S m (some (.int (oFile σ x w).1)) (oFile σ x w).2 := by
  have hm := hR.1
  have hRF := RF_0 hR
  obtain ⟨n, hn⟩ : ∃ n, n = cN σ 43 := ⟨_, rfl⟩
  have hn16 : n ≤ 100 := by rw [hn]; exact hI.2.2.2.2.2.1.2
  have en : σ.2 43 = nI n := by rw [hn]; exact hI.2.2.2.2.2.1.1
  refine Ct_of (by decide) (cat1_all (by repeat first | exact trivial | refine ⟨by first | rfl | exact isR_c (isR_q _), ?_⟩)) (Nat.le_of_ble_eq_true rfl) hl fun X C hXl hin => ?_
  subst hXl
  dsimp only [lArgs, Nat.reduceAdd]
  have loop : ∀ (y : Int32) (h0 : tFile σ x w = 0) (T : sS) (hRF : RF S T m σ.1 (up1 σ.2 56 0)) (t i : Nat) (left : Int32), i + t = n → mFileF σ x (cN σ 43) w 0 = mFileF σ x t left i → V X G 6 (eQ X G (fun v T => v = some (.int (oFile σ x w).1) ∧ RF S T m (oFile σ x w).2.1 (oFile σ x w).2.2) (fun _ _ => False) 0 0) 0 0 58 [(5, false, .int (nI i)), (4, false, .int left), (3, false, .int y), (0, false, .ref m), (1, false, .int x), (2, false, .int w)] [] T := by
    intro y h0 T hRF t
    induction t with
    | zero =>
      intro i left hi e
      obtain rfl : i = n := by omega
      refine V_iload C dX9_file_58 rfl ?_
      refine V_aload_n C dX9_file_60 rfl (by first | exact isR_r _ | exact isR_q _ | exact isR_n) ?_
      refine V_mNum C 43 hRF fl_X9_253 (by decide) dX9_file_61 en ?_
      refine V_igeN C (tgt := 120) (by omega) (by omega) dX9_file_64 (by decide) (fun h64 => ?_) (fun h64 => ?_)
      · refine V_iconst C (v := (-1)) dX9_file_120 (by decide) ?_
        refine V_iret C (by first | omega | decide) (by first | omega | decide) dX9_file_121 ?_
        unfold oFile
        rw [if_pos h0, e]
        exact ⟨rfl, hRF⟩
      · omega
    | succ t ih =>
      intro i left hi e
      have hi100 : i < 100 := by omega
      obtain ⟨-, g, hg, e45⟩ := hS i (by omega)
      have hg10 : g < 10 := by have := hI.2.2.1.2; omega
      have eg : nx (σ.1 45 i) = g := by rw [e45]; exact nI_clamp (by omega)
      have e := e.trans mFileF_s
      refine V_iload C dX9_file_58 rfl ?_
      refine V_aload_n C dX9_file_60 rfl (by first | exact isR_r _ | exact isR_q _ | exact isR_n) ?_
      refine V_mNum C 43 hRF fl_X9_253 (by decide) dX9_file_61 en ?_
      refine V_igeN C (tgt := 120) (by omega) (by omega) dX9_file_64 (by decide) (fun h64 => ?_) (fun h64 => ?_)
      · omega
      · refine V_aload_n C dX9_file_67 rfl (by first | exact isR_r _ | exact isR_q _ | exact isR_n) ?_
        refine V_mArr C 44 hRF rfl fl_X9_125 (by decide) dX9_file_68 (fun a68 ha68 => ?_)
        refine V_iload C dX9_file_71 rfl ?_
        refine V_mLd C 44 hRF rfl rfl ha68 (by first | assumption | (show _ < _; omega)) rfl dX9_file_73 ?_
        refine V_iload_n C dX9_file_74 rfl ?_
        refine V_icmp_ne C (tgt := 114) dX9_file_75 (by decide) (fun h75 => ?_) (fun h75 => ?_)
        · refine V_incN C dX9_file_114 rfl (by decide) rfl ?_
          simp only [lset1, lset2, List.filter_cons, List.filter_nil, Nat.reduceBEq, Nat.reduceAdd, Bool.not_true, Bool.not_false, Bool.and_true, Bool.and_false, Bool.true_and, Bool.false_and, if_true, if_false, Bool.false_eq_true, reduceIte]
          refine V_goto C (tgt := 58) dX9_file_117 (by decide) ?_
          first | refine V_sub ?_ (ih (i + 1) left (by omega) (e.trans (if_neg h75))) | refine V_sub ?_ (ih (i + 1) (left + -1) (by omega) (e.trans ((if_pos h75).trans (if_neg h80))))
          exact ⟨rfl, rfl, rfl, rfl, rfl, rfl, trivial⟩
        · refine V_iload C dX9_file_78 rfl ?_
          refine V_if_ne C (tgt := 111) dX9_file_80 (by decide) (fun h80 => ?_) (fun h80 => ?_)
          · refine V_iinc C dX9_file_111 rfl rfl (by decide) rfl ?_
            simp only [lset1, lset2, List.filter_cons, List.filter_nil, Nat.reduceBEq, Nat.reduceAdd, Bool.not_true, Bool.not_false, Bool.and_true, Bool.and_false, Bool.true_and, Bool.false_and, if_true, if_false, Bool.false_eq_true, reduceIte]
            refine V_incN C dX9_file_114 rfl (by decide) rfl ?_
            simp only [lset1, lset2, List.filter_cons, List.filter_nil, Nat.reduceBEq, Nat.reduceAdd, Bool.not_true, Bool.not_false, Bool.and_true, Bool.and_false, Bool.true_and, Bool.false_and, if_true, if_false, Bool.false_eq_true, reduceIte]
            refine V_goto C (tgt := 58) dX9_file_117 (by decide) ?_
            first | refine V_sub ?_ (ih (i + 1) left (by omega) (e.trans (if_neg h75))) | refine V_sub ?_ (ih (i + 1) (left + -1) (by omega) (e.trans ((if_pos h75).trans (if_neg h80))))
            exact ⟨rfl, rfl, rfl, rfl, rfl, rfl, trivial⟩
          · refine V_aload_n C dX9_file_83 rfl (by first | exact isR_r _ | exact isR_q _ | exact isR_n) ?_
            refine V_mArr C 26 hRF rfl fl_X9_80 (by decide) dX9_file_84 (fun a84 ha84 => ?_)
            refine V_aload_n C dX9_file_87 rfl (by first | exact isR_r _ | exact isR_q _ | exact isR_n) ?_
            refine V_mArr C 45 hRF rfl fl_X9_128 (by decide) dX9_file_88 (fun a88 ha88 => ?_)
            refine V_iload C dX9_file_91 rfl ?_
            refine V_mLd C 45 hRF rfl rfl ha88 (by first | assumption | (show _ < _; omega)) e45 dX9_file_93 ?_
            refine V_mLdZ C 26 hRF rfl rfl ha84 (by first | assumption | (show _ < _; omega)) rfl dX9_file_94 ?_
            refine V_if_eq C (tgt := 103) dX9_file_95 (by decide) (fun h95 => ?_) (fun h95 => ?_)
            · refine V_aload_n C dX9_file_103 rfl (by first | exact isR_r _ | exact isR_q _ | exact isR_n) ?_
              refine V_mArr C 45 hRF rfl fl_X9_128 (by decide) dX9_file_104 (fun a104 ha104 => ?_)
              refine V_iload C dX9_file_107 rfl ?_
              refine V_mLd C 45 hRF rfl rfl ha104 (by first | assumption | (show _ < _; omega)) rfl dX9_file_109 ?_
              refine V_iret C (by first | omega | decide) (by first | omega | decide) dX9_file_110 ?_
              unfold oFile
              rw [if_pos h0, e, if_pos h75, if_pos h80, eg]
              first | (rw [if_pos h95]; exact ⟨rfl, hRF⟩) | (rw [if_neg h95]; exact ⟨rfl, hRF⟩)
            · refine V_bipush C (v := (-2)) dX9_file_98 (by decide) ?_
              refine V_goto C (tgt := 110) dX9_file_100 (by decide) ?_
              refine V_iret C (by first | omega | decide) (by first | omega | decide) dX9_file_110 ?_
              unfold oFile
              rw [if_pos h0, e, if_pos h75, if_pos h80, eg]
              first | (rw [if_pos h95]; exact ⟨rfl, hRF⟩) | (rw [if_neg h95]; exact ⟨rfl, hRF⟩)
  have J2 : ∀ y z : Int32, y = pI9 (chP σ x ∧ 0 ≤ w) → z = pI9 ((chP σ x ∧ 0 ≤ w) ∧ 18 ≤ mYears σ (nx x) (σ.2 0)) → V X G 6 (eQ X G (fun v T => v = some (.int (oFile σ x w).1) ∧ RF S T m (oFile σ x w).2.1 (oFile σ x w).2.2) (fun _ _ => False) 0 0) 0 0 43 [(3, false, .int y), (0, false, .ref m), (1, false, .int x), (2, false, .int w)] [.int z, .int y, .ref m] S := fun y z hy hz => by
    have et : gT y z 1 = tFile σ x w := by rw [hy, hz]; rfl
    refine V_iconst C (v := 1) dX9_file_43 (by decide) ?_
    refine V_fV C (c_X9_goes _ hl G S m hm y z 1) kv_X9_179 cf_9 (by decide) rfl hRF.1.1 (by decide) (by decide) rfl rfl (Nat.le_of_ble_eq_true rfl) dX9_file_44 ?_
    dsimp only [Option.toList_some, Option.toList_none, List.cons_append, List.nil_append]
    rw [et]
    refine V_genT (RF_I hRF (f := 56) rfl) (fun T hRF => ?_)
    refine V_if_ne C (tgt := 52) dX9_file_47 (by decide) (fun h47 => ?_) (fun h47 => ?_)
    · have h0 := bI_ne.mp h47
      rw [h0] at hRF
      refine V_iload_n C dX9_file_52 rfl ?_
      refine V_istore C dX9_file_53 (by decide) rfl ?_
      simp only [lset1, lset2, List.filter_cons, List.filter_nil, Nat.reduceBEq, Nat.reduceAdd, Bool.not_true, Bool.not_false, Bool.and_true, Bool.and_false, Bool.true_and, Bool.false_and, if_true, if_false, Bool.false_eq_true, reduceIte]
      refine V_iconst C (v := 0) dX9_file_55 (by decide) ?_
      refine V_istore C dX9_file_56 (by decide) rfl ?_
      simp only [lset1, lset2, List.filter_cons, List.filter_nil, Nat.reduceBEq, Nat.reduceAdd, Bool.not_true, Bool.not_false, Bool.and_true, Bool.and_false, Bool.true_and, Bool.false_and, if_true, if_false, Bool.false_eq_true, reduceIte]
      refine V_sub ?_ (loop y h0 _ hRF n 0 w (by omega) (by rw [hn]))
      exact ⟨rfl, rfl, rfl, rfl, rfl, rfl, trivial⟩
    · have h0 := bI_eq.mp h47
      refine V_iconst C (v := 0) dX9_file_50 (by decide) ?_
      refine V_iret C (by first | omega | decide) (by first | omega | decide) dX9_file_51 ?_
      unfold oFile
      rw [if_neg h0]
      exact ⟨rfl, hRF⟩
  have J1 : ∀ y : Int32, y = pI9 (chP σ x ∧ 0 ≤ w) → V X G 6 (eQ X G (fun v T => v = some (.int (oFile σ x w).1) ∧ RF S T m (oFile σ x w).2.1 (oFile σ x w).2.2) (fun _ _ => False) 0 0) 0 0 17 [(0, false, .ref m), (1, false, .int x), (2, false, .int w)] [.int y] S := fun y hy => by
    by_cases hc : chP σ x ∧ 0 ≤ w
    · obtain ⟨k, hk, rfl⟩ := ch_ix hI hc.1
      have hk16 : k < 16 := by have := hI.2.1.2; omega
      have ek : nx (nI k) = k := nI_clamp (by omega)
      refine V_istore_n C dX9_file_17 (by decide) rfl ?_
      simp only [lset1, lset2, List.filter_cons, List.filter_nil, Nat.reduceBEq, Nat.reduceAdd, Bool.not_true, Bool.not_false, Bool.and_true, Bool.and_false, Bool.true_and, Bool.false_and, if_true, if_false, Bool.false_eq_true, reduceIte]
      refine V_aload_n C dX9_file_18 rfl (by first | exact isR_r _ | exact isR_q _ | exact isR_n) ?_
      refine V_iload_n C dX9_file_19 rfl ?_
      refine V_iload_n C dX9_file_20 rfl ?_
      refine V_if_eq C (tgt := 42) dX9_file_21 (by decide) (fun h21 => ?_) (fun h21 => ?_)
      · exact absurd h21 (fun q => absurd (hy ▸ q) (pI9_ne.mpr hc))
      · refine V_aload_n C dX9_file_24 rfl (by first | exact isR_r _ | exact isR_q _ | exact isR_n) ?_
        refine V_iload_n C dX9_file_25 rfl ?_
        refine V_aload_n C dX9_file_26 rfl (by first | exact isR_r _ | exact isR_q _ | exact isR_n) ?_
        refine V_mNum C 0 hRF fl_X9_187 (by decide) dX9_file_27 rfl ?_
        refine V_fV C (c_X9_yearsOn _ hl G S m σ hR k hk16 (σ.2 0)) kv_X9_224 cf_9 (by decide) rfl hRF.1.1 (by decide) (by decide) rfl rfl (Nat.le_of_ble_eq_true rfl) dX9_file_30 ?_
        dsimp only [Option.toList_some, Option.toList_none, List.cons_append, List.nil_append]
        refine V_bipush C (v := 18) dX9_file_33 (by decide) ?_
        refine V_icmp_lt C (tgt := 42) dX9_file_35 (by decide) (fun h35 => ?_) (fun h35 => ?_)
        · refine V_iconst C (v := 0) dX9_file_42 (by decide) ?_
          refine J2 _ _ hy ?_
          rw [ek]
          first | exact Eq.symm (pI9_f (fun q => absurd q.2 (Int32.not_le.mpr h35))) | exact Eq.symm (pI9_t ⟨hc, Int32.not_lt.mp h35⟩)
        · refine V_iconst C (v := 1) dX9_file_38 (by decide) ?_
          refine V_goto C (tgt := 43) dX9_file_39 (by decide) ?_
          refine J2 _ _ hy ?_
          rw [ek]
          first | exact Eq.symm (pI9_f (fun q => absurd q.2 (Int32.not_le.mpr h35))) | exact Eq.symm (pI9_t ⟨hc, Int32.not_lt.mp h35⟩)
    · refine V_istore_n C dX9_file_17 (by decide) rfl ?_
      simp only [lset1, lset2, List.filter_cons, List.filter_nil, Nat.reduceBEq, Nat.reduceAdd, Bool.not_true, Bool.not_false, Bool.and_true, Bool.and_false, Bool.true_and, Bool.false_and, if_true, if_false, Bool.false_eq_true, reduceIte]
      refine V_aload_n C dX9_file_18 rfl (by first | exact isR_r _ | exact isR_q _ | exact isR_n) ?_
      refine V_iload_n C dX9_file_19 rfl ?_
      refine V_iload_n C dX9_file_20 rfl ?_
      refine V_if_eq C (tgt := 42) dX9_file_21 (by decide) (fun h21 => ?_) (fun h21 => ?_)
      · refine V_iconst C (v := 0) dX9_file_42 (by decide) ?_
        refine J2 _ _ hy ?_
        exact Eq.symm (pI9_f (fun q => hc q.1))
      · exact absurd (hy.trans (pI9_f hc)) h21
  refine V_aload_n C dX9_file_0 rfl (by first | exact isR_r _ | exact isR_q _ | exact isR_n) ?_
  refine V_iload_n C dX9_file_1 rfl ?_
  refine V_fV C (c_X9_isChild _ hl G S m σ hR x) kv_X9_208 cf_9 (by decide) rfl hRF.1.1 (by decide) (by decide) rfl rfl (Nat.le_of_ble_eq_true rfl) dX9_file_2 ?_
  dsimp only [Option.toList_some, Option.toList_none, List.cons_append, List.nil_append]
  refine V_if_eq C (tgt := 16) dX9_file_5 (by decide) (fun h5 => ?_) (fun h5 => ?_)
  · refine V_iconst C (v := 0) dX9_file_16 (by decide) ?_
    refine J1 _ ?_
    first | exact Eq.symm (pI9_f (fun q => bI_eq.mp h5 q.1)) | exact Eq.symm (pI9_f (fun q => absurd q.2 (Int32.not_le.mpr h9))) | exact Eq.symm (pI9_t ⟨bI_ne.mp h5, Int32.not_lt.mp h9⟩)
  · refine V_iload_n C dX9_file_8 rfl ?_
    refine V_if_lt C (tgt := 16) dX9_file_9 (by decide) (fun h9 => ?_) (fun h9 => ?_)
    · refine V_iconst C (v := 0) dX9_file_16 (by decide) ?_
      refine J1 _ ?_
      first | exact Eq.symm (pI9_f (fun q => bI_eq.mp h5 q.1)) | exact Eq.symm (pI9_f (fun q => absurd q.2 (Int32.not_le.mpr h9))) | exact Eq.symm (pI9_t ⟨bI_ne.mp h5, Int32.not_lt.mp h9⟩)
    · refine V_iconst C (v := 1) dX9_file_12 (by decide) ?_
      refine V_goto C (tgt := 17) dX9_file_13 (by decide) ?_
      refine J1 _ ?_
      first | exact Eq.symm (pI9_f (fun q => bI_eq.mp h5 q.1)) | exact Eq.symm (pI9_f (fun q => absurd q.2 (Int32.not_le.mpr h9))) | exact Eq.symm (pI9_t ⟨bI_ne.mp h5, Int32.not_lt.mp h9⟩)
