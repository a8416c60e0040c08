/-! THE REFERENCE: countsWaiting, valueOf, isNext. -/
def cwP (σ : aS) (kin : Int32) (p : Nat × (Nat → Nat → Int32)) (j : Nat) : Prop := p.2 5 j = kin ∧ p.2 10 j = -1 ∧ mKindOn (p.2, σ.2) (nI j) (σ.2 0) = 0
noncomputable def cw (σ : aS) (kin : Int32) : Nat → Nat × (Nat → Nat → Int32)
  | 0 => (0, σ.1)
  | j + 1 => iteP (cwP σ kin (cw σ kin j) j) ((cw σ kin j).1 + 1, iteP ((cw σ kin j).1 < 5) (up2 (cw σ kin j).2 50 (cw σ kin j).1 (nI j)) (cw σ kin j).2) (cw σ kin j)
theorem cw_t {σ : aS} {kin : Int32} {j : Nat} (h : cwP σ kin (cw σ kin j) j) (h5 : (cw σ kin j).1 < 5) : cw σ kin (j + 1) = ((cw σ kin j).1 + 1, up2 (cw σ kin j).2 50 (cw σ kin j).1 (nI j)) := (iteP_t h).trans (by rw [iteP_t h5])
theorem cw_5 {σ : aS} {kin : Int32} {j : Nat} (h : cwP σ kin (cw σ kin j) j) (h5 : ¬ (cw σ kin j).1 < 5) : cw σ kin (j + 1) = ((cw σ kin j).1 + 1, (cw σ kin j).2) := (iteP_t h).trans (by rw [iteP_f h5])
theorem cw_f {σ : aS} {kin : Int32} {j : Nat} (h : ¬ cwP σ kin (cw σ kin j) j) : cw σ kin (j + 1) = cw σ kin j := iteP_f h
theorem cw_le (σ : aS) (kin : Int32) : ∀ j, (cw σ kin j).1 ≤ j
  | 0 => Nat.le_refl _
  | j + 1 => by
    have := cw_le σ kin j
    by_cases h : cwP σ kin (cw σ kin j) j
    · by_cases h5 : (cw σ kin j).1 < 5
      · rw [cw_t h h5]; exact Nat.succ_le_succ this
      · rw [cw_5 h h5]; exact Nat.succ_le_succ this
    · rw [cw_f h]; exact Nat.le_succ_of_le this
theorem IC_cw {σ : aS} {kin : Int32} (hI : IC σ) : ∀ j, IC ((cw σ kin j).2, σ.2)
  | 0 => hI
  | j + 1 => by
    by_cases h : cwP σ kin (cw σ kin j) j
    · by_cases h5 : (cw σ kin j).1 < 5
      · rw [cw_t h h5]; exact IC_A (IC_cw hI j) (by decide) (by decide)
      · rw [cw_5 h h5]; exact IC_cw hI j
    · rw [cw_f h]; exact IC_cw hI j
theorem IS_cw {σ : aS} {kin : Int32} (hI : IS σ) : ∀ j, IS ((cw σ kin j).2, σ.2)
  | 0 => hI
  | j + 1 => by
    by_cases h : cwP σ kin (cw σ kin j) j
    · by_cases h5 : (cw σ kin j).1 < 5
      · rw [cw_t h h5]; exact IS_A (IS_cw hI j) (by decide) (by decide)
      · rw [cw_5 h h5]; exact IS_cw hI j
    · rw [cw_f h]; exact IS_cw hI j
/-- the row of those that wait holds children -/
theorem cw_w (σ : aS) (kin : Int32) : ∀ j i, i < (cw σ kin j).1 → i < 5 → ∃ c, c < j ∧ (cw σ kin j).2 50 i = nI c
  | 0, i, h, _ => absurd h (Nat.not_lt_zero i)
  | j + 1, i, h, hi => by
    by_cases q : cwP σ kin (cw σ kin j) j
    · by_cases h5 : (cw σ kin j).1 < 5
      · rw [cw_t q h5] at h ⊢
        by_cases e : i = (cw σ kin j).1
        · subst e; exact ⟨j, Nat.lt_succ_self j, up2_s⟩
        · obtain ⟨c, h1, h2⟩ := cw_w σ kin j i (by have h : i < (cw σ kin j).1 + 1 := h; omega) hi
          exact ⟨c, Nat.lt_succ_of_lt h1, (up2_n2 e).trans h2⟩
      · rw [cw_5 q h5] at h ⊢
        obtain ⟨c, h1, h2⟩ := cw_w σ kin j i (by omega) hi
        exact ⟨c, Nat.lt_succ_of_lt h1, h2⟩
    · rw [cw_f q] at h ⊢
      obtain ⟨c, h1, h2⟩ := cw_w σ kin j i h hi
      exact ⟨c, Nat.lt_succ_of_lt h1, h2⟩
abbrev mAheadP (σ : aS) (w : Int32) (i : Nat) : Prop := σ.1 51 i = w
def mAhead (σ : aS) (w : Int32) (k : Nat) : Int32 := fsum (fun i => if mAheadP σ w i then 1 else 0) k
theorem mAhead_t {σ : aS} {w : Int32} {k : Nat} (h : σ.1 51 k = w) : mAhead σ w (k + 1) = mAhead σ w k + 1 := by
  show _ + (if mAheadP σ w k then (1 : Int32) else 0) = _
  rw [if_pos h]; rfl
theorem mAhead_f {σ : aS} {w : Int32} {k : Nat} (h : ¬ σ.1 51 k = w) : mAhead σ w (k + 1) = mAhead σ w k + 0 := by
  show _ + (if mAheadP σ w k then (1 : Int32) else 0) = _
  rw [if_neg h]; rfl
def mValF (σ : aS) : Nat → Nat → Int32 → Int32 → Int32 → Int32
  | 0, _, pl, un, wo => 1000000 * pl + 10000 * (9 - un) + wo + 2000
  | t + 1, k, pl, un, wo => if σ.2 20 ≤ σ.1 51 k then mValF σ t (k + 1) pl un wo
    else if σ.1 53 (10 * k + nx (σ.1 51 k)) = 0 ∨ mAhead σ (σ.1 51 k) k = σ.1 55 (nx (σ.1 51 k)) then -1
    else mValF σ t (k + 1) (pl + 1) (un + if mAhead σ (σ.1 51 k) k = 0 then 1 else 0) (wo + σ.1 54 (10 * k + nx (σ.1 51 k)))
theorem mValF_s {σ : aS} {t k : Nat} {pl un wo : Int32} : mValF σ (t + 1) k pl un wo = if σ.2 20 ≤ σ.1 51 k then mValF σ t (k + 1) pl un wo
    else if σ.1 53 (10 * k + nx (σ.1 51 k)) = 0 ∨ mAhead σ (σ.1 51 k) k = σ.1 55 (nx (σ.1 51 k)) then -1
    else mValF σ t (k + 1) (pl + 1) (un + if mAhead σ (σ.1 51 k) k = 0 then 1 else 0) (wo + σ.1 54 (10 * k + nx (σ.1 51 k))) := rfl
def mVal (σ : aS) (M : Nat) : Int32 := mValF σ M 0 0 0 0
/-- what is tried: homes, or none -/
def IT (σ : aS) (M : Nat) : Prop := ∀ k, k < M → ∃ w, w ≤ cN σ 20 ∧ σ.1 51 k = nI w
noncomputable def nxt (h : Int32) : Nat → (Nat → Nat → Int32) → Int32 × (Nat → Nat → Int32)
  | 0, A => (0, A)
  | c + 1, A => iteP (A 51 c = h) (nxt h c (up2 A 51 c 0)) (1, up2 A 51 c (A 51 c + 1))
theorem nI_dec (c : Nat) : nI (c + 1) + (-1) = nI c := by
  rw [← nI_1, Int32.add_assoc, show (1 : Int32) + -1 = 0 by decide, Int32.add_zero]
theorem nI_prv (j : Nat) : nI (j + 1) - 1 = nI j := by
  rw [← nI_1, Int32.add_sub_cancel]
theorem c_X9_countsWaiting (l : Launch) (hl : l.stackTraces = false) (G : gG) (S : sS) (m : Nat) (σ : aS) (hR : RelR S m σ) (hI : IC σ) (kin : Int32) : CtR l G yX9_countsWaiting cX9_countsWaiting 4 (Option.some FieldType.int) 4 [.ref m, .int kin] S m (some (.int (nI (cw σ kin (cN σ 1)).1))) ((cw σ kin (cN σ 1)).2, σ.2) := by
  have hm := hR.1
  have hRF := RF_0 hR
  obtain ⟨n, hn⟩ : ∃ n, n = cN σ 1 := ⟨_, rfl⟩
  have hn16 : n ≤ 16 := by rw [hn]; exact hI.2.1.2
  have en : σ.2 1 = nI n := by rw [hn]; exact hI.2.1.1
  rw [← hn]
  refine Ct_of (by decide) (cat1_all (by repeat first | exact trivial | refine ⟨by first | rfl | exact isR_c (isR_q _), ?_⟩)) (Nat.le_of_ble_eq_true rfl) hl fun X C hXl hin => ?_
  subst hXl
  dsimp only [lArgs, Nat.reduceAdd]
  have loop : ∀ (t j : Nat) (T : sS) (hRF : RF S T m (cw σ kin j).2 σ.2), j + t = n → V X G 4 (eQ X G (fun v T => v = some (.int (nI (cw σ kin n).1)) ∧ RF S T m (cw σ kin n).2 σ.2) (fun _ _ => False) 0 0) 0 0 4 [(3, false, .int (nI j)), (2, false, .int (nI (cw σ kin j).1)), (0, false, .ref m), (1, false, .int kin)] [] T := by
    intro t
    induction t with
    | zero =>
      intro j T hRF hj
      obtain rfl : j = n := by omega
      refine V_iload_n C dX9_countsWaiting_4 rfl ?_
      refine V_aload_n C dX9_countsWaiting_5 rfl (by first | exact isR_r _ | exact isR_q _ | exact isR_n) ?_
      refine V_mNum C 1 hRF fl_X9_162 (by decide) dX9_countsWaiting_6 en ?_
      refine V_igeN C (tgt := 65) (by omega) (by omega) dX9_countsWaiting_9 (by decide) (fun h9 => ?_) (fun h9 => ?_)
      · refine V_iload_n C dX9_countsWaiting_65 rfl ?_
        refine V_iret C (by first | omega | decide) (by first | omega | decide) dX9_countsWaiting_66 ?_
        exact ⟨rfl, hRF⟩
      · omega
    | succ t ih =>
      intro j T hRF hj
      have hj16 : j < 16 := by omega
      have hc16 := cw_le σ kin j
      obtain ⟨c, hc⟩ : ∃ c, c = (cw σ kin j).1 := ⟨_, rfl⟩
      rw [← hc]
      have nxt9 : ∀ T c', RF S T m (cw σ kin (j + 1)).2 σ.2 → c' = (cw σ kin (j + 1)).1 → V X G 4 (eQ X G (fun v T => v = some (.int (nI (cw σ kin n).1)) ∧ RF S T m (cw σ kin n).2 σ.2) (fun _ _ => False) 0 0) 0 0 59 [(3, false, .int (nI j)), (2, false, .int (nI c')), (0, false, .ref m), (1, false, .int kin)] [] T := fun T c' hRF e => by
        subst e
        refine V_incN C dX9_countsWaiting_59 rfl (by decide) rfl ?_
        simp only [lset1, lset2, List.filter_cons, List.filter_nil, Nat.reduceBEq, Nat.reduceAdd, Bool.not_true, Bool.not_false, Bool.and_true, Bool.and_false, Bool.true_and, Bool.false_and, if_true, if_false, Bool.false_eq_true, reduceIte]
        refine V_goto C (tgt := 4) dX9_countsWaiting_62 (by decide) ?_
        refine V_sub ?_ (ih (j + 1) T hRF (by omega))
        exact ⟨rfl, rfl, rfl, rfl, trivial⟩
      refine V_iload_n C dX9_countsWaiting_4 rfl ?_
      refine V_aload_n C dX9_countsWaiting_5 rfl (by first | exact isR_r _ | exact isR_q _ | exact isR_n) ?_
      refine V_mNum C 1 hRF fl_X9_162 (by decide) dX9_countsWaiting_6 en ?_
      refine V_igeN C (tgt := 65) (by omega) (by omega) dX9_countsWaiting_9 (by decide) (fun h9 => ?_) (fun h9 => ?_)
      · omega
      · refine V_aload_n C dX9_countsWaiting_12 rfl (by first | exact isR_r _ | exact isR_q _ | exact isR_n) ?_
        refine V_mArr C 5 hRF rfl fl_X9_19 (by decide) dX9_countsWaiting_13 (fun a13 ha13 => ?_)
        refine V_iload_n C dX9_countsWaiting_16 rfl ?_
        refine V_mLd C 5 hRF rfl rfl ha13 (by first | assumption | (show _ < _; omega)) rfl dX9_countsWaiting_17 ?_
        refine V_iload_n C dX9_countsWaiting_18 rfl ?_
        refine V_icmp_ne C (tgt := 59) dX9_countsWaiting_19 (by decide) (fun h19 => ?_) (fun h19 => ?_)
        · first | refine V_sub ?_ (nxt9 T (c + 1) (by rw [eR]; exact hRF) (by rw [eR])) | refine V_sub ?_ (nxt9 T (c + 1) (by rw [cw_5 ⟨h19, h29, h41⟩ (hc ▸ Nat.not_lt.mpr h46)]; exact hRF) (by rw [cw_5 ⟨h19, h29, h41⟩ (hc ▸ Nat.not_lt.mpr h46), ← hc])) | refine V_sub ?_ (nxt9 T c (by rw [cw_f (fun q => h41 q.2.2)]; exact hRF) (by rw [cw_f (fun q => h41 q.2.2), ← hc])) | refine V_sub ?_ (nxt9 T c (by rw [cw_f (fun q => h29 q.2.1)]; exact hRF) (by rw [cw_f (fun q => h29 q.2.1), ← hc])) | refine V_sub ?_ (nxt9 T c (by rw [cw_f (fun q => h19 q.1)]; exact hRF) (by rw [cw_f (fun q => h19 q.1), ← hc]))
          exact ⟨rfl, rfl, rfl, rfl, trivial⟩
        · refine V_aload_n C dX9_countsWaiting_22 rfl (by first | exact isR_r _ | exact isR_q _ | exact isR_n) ?_
          refine V_mArr C 10 hRF rfl fl_X9_34 (by decide) dX9_countsWaiting_23 (fun a23 ha23 => ?_)
          refine V_iload_n C dX9_countsWaiting_26 rfl ?_
          refine V_mLd C 10 hRF rfl rfl ha23 (by first | assumption | (show _ < _; omega)) rfl dX9_countsWaiting_27 ?_
          refine V_iconst C (v := (-1)) dX9_countsWaiting_28 (by decide) ?_
          refine V_icmp_ne C (tgt := 59) dX9_countsWaiting_29 (by decide) (fun h29 => ?_) (fun h29 => ?_)
          · first | refine V_sub ?_ (nxt9 T (c + 1) (by rw [eR]; exact hRF) (by rw [eR])) | refine V_sub ?_ (nxt9 T (c + 1) (by rw [cw_5 ⟨h19, h29, h41⟩ (hc ▸ Nat.not_lt.mpr h46)]; exact hRF) (by rw [cw_5 ⟨h19, h29, h41⟩ (hc ▸ Nat.not_lt.mpr h46), ← hc])) | refine V_sub ?_ (nxt9 T c (by rw [cw_f (fun q => h41 q.2.2)]; exact hRF) (by rw [cw_f (fun q => h41 q.2.2), ← hc])) | refine V_sub ?_ (nxt9 T c (by rw [cw_f (fun q => h29 q.2.1)]; exact hRF) (by rw [cw_f (fun q => h29 q.2.1), ← hc])) | refine V_sub ?_ (nxt9 T c (by rw [cw_f (fun q => h19 q.1)]; exact hRF) (by rw [cw_f (fun q => h19 q.1), ← hc]))
            exact ⟨rfl, rfl, rfl, rfl, trivial⟩
          · refine V_aload_n C dX9_countsWaiting_32 rfl (by first | exact isR_r _ | exact isR_q _ | exact isR_n) ?_
            refine V_iload_n C dX9_countsWaiting_33 rfl ?_
            refine V_aload_n C dX9_countsWaiting_34 rfl (by first | exact isR_r _ | exact isR_q _ | exact isR_n) ?_
            refine V_mNum C 0 hRF fl_X9_187 (by decide) dX9_countsWaiting_35 rfl ?_
            refine V_fV C (c_X9_kindOn _ hl G T m ((cw σ kin j).2, σ.2) hRF.1 (IC_cw hI j) (nI j) (σ.2 0)) kv_X9_234 cf_9 (by decide) rfl hRF.1.1 (by decide) (by decide) rfl rfl (Nat.le_of_ble_eq_true rfl) dX9_countsWaiting_38 ?_
            dsimp only [Option.toList_some, Option.toList_none, List.cons_append, List.nil_append]
            refine V_if_ne C (tgt := 59) dX9_countsWaiting_41 (by decide) (fun h41 => ?_) (fun h41 => ?_)
            · first | refine V_sub ?_ (nxt9 T (c + 1) (by rw [eR]; exact hRF) (by rw [eR])) | refine V_sub ?_ (nxt9 T (c + 1) (by rw [cw_5 ⟨h19, h29, h41⟩ (hc ▸ Nat.not_lt.mpr h46)]; exact hRF) (by rw [cw_5 ⟨h19, h29, h41⟩ (hc ▸ Nat.not_lt.mpr h46), ← hc])) | refine V_sub ?_ (nxt9 T c (by rw [cw_f (fun q => h41 q.2.2)]; exact hRF) (by rw [cw_f (fun q => h41 q.2.2), ← hc])) | refine V_sub ?_ (nxt9 T c (by rw [cw_f (fun q => h29 q.2.1)]; exact hRF) (by rw [cw_f (fun q => h29 q.2.1), ← hc])) | refine V_sub ?_ (nxt9 T c (by rw [cw_f (fun q => h19 q.1)]; exact hRF) (by rw [cw_f (fun q => h19 q.1), ← hc]))
              exact ⟨rfl, rfl, rfl, rfl, trivial⟩
            · refine V_iload_n C dX9_countsWaiting_44 rfl ?_
              refine V_iconst C (v := 5) dX9_countsWaiting_45 (by decide) ?_
              rw [show (5 : Int32) = nI 5 from rfl]
              refine V_igeN C (tgt := 56) (by omega) (by omega) dX9_countsWaiting_46 (by decide) (fun h46 => ?_) (fun h46 => ?_)
              · refine V_incN C dX9_countsWaiting_56 rfl (by decide) rfl ?_
                simp only [lset1, lset2, List.filter_cons, List.filter_nil, Nat.reduceBEq, Nat.reduceAdd, Bool.not_true, Bool.not_false, Bool.and_true, Bool.and_false, Bool.true_and, Bool.false_and, if_true, if_false, Bool.false_eq_true, reduceIte]
                first | refine V_sub ?_ (nxt9 T (c + 1) (by rw [eR]; exact hRF) (by rw [eR])) | refine V_sub ?_ (nxt9 T (c + 1) (by rw [cw_5 ⟨h19, h29, h41⟩ (hc ▸ Nat.not_lt.mpr h46)]; exact hRF) (by rw [cw_5 ⟨h19, h29, h41⟩ (hc ▸ Nat.not_lt.mpr h46), ← hc])) | refine V_sub ?_ (nxt9 T c (by rw [cw_f (fun q => h41 q.2.2)]; exact hRF) (by rw [cw_f (fun q => h41 q.2.2), ← hc])) | refine V_sub ?_ (nxt9 T c (by rw [cw_f (fun q => h29 q.2.1)]; exact hRF) (by rw [cw_f (fun q => h29 q.2.1), ← hc])) | refine V_sub ?_ (nxt9 T c (by rw [cw_f (fun q => h19 q.1)]; exact hRF) (by rw [cw_f (fun q => h19 q.1), ← hc]))
                exact ⟨rfl, rfl, rfl, rfl, trivial⟩
              · have eR := cw_t ⟨h19, h29, h41⟩ (hc ▸ h46)
                rw [← hc] at eR
                refine V_aload_n C dX9_countsWaiting_49 rfl (by first | exact isR_r _ | exact isR_q _ | exact isR_n) ?_
                refine V_mArr C 50 hRF rfl fl_X9_140 (by decide) dX9_countsWaiting_50 (fun a50 ha50 => ?_)
                refine V_iload_n C dX9_countsWaiting_53 rfl ?_
                refine V_iload_n C dX9_countsWaiting_54 rfl ?_
                refine V_mSt C 50 hRF rfl rfl ha50 (by first | assumption | (show _ < _; omega)) dX9_countsWaiting_55 (fun T hRF => ?_)
                refine V_incN C dX9_countsWaiting_56 rfl (by decide) rfl ?_
                simp only [lset1, lset2, List.filter_cons, List.filter_nil, Nat.reduceBEq, Nat.reduceAdd, Bool.not_true, Bool.not_false, Bool.and_true, Bool.and_false, Bool.true_and, Bool.false_and, if_true, if_false, Bool.false_eq_true, reduceIte]
                first | refine V_sub ?_ (nxt9 T (c + 1) (by rw [eR]; exact hRF) (by rw [eR])) | refine V_sub ?_ (nxt9 T (c + 1) (by rw [cw_5 ⟨h19, h29, h41⟩ (hc ▸ Nat.not_lt.mpr h46)]; exact hRF) (by rw [cw_5 ⟨h19, h29, h41⟩ (hc ▸ Nat.not_lt.mpr h46), ← hc])) | refine V_sub ?_ (nxt9 T c (by rw [cw_f (fun q => h41 q.2.2)]; exact hRF) (by rw [cw_f (fun q => h41 q.2.2), ← hc])) | refine V_sub ?_ (nxt9 T c (by rw [cw_f (fun q => h29 q.2.1)]; exact hRF) (by rw [cw_f (fun q => h29 q.2.1), ← hc])) | refine V_sub ?_ (nxt9 T c (by rw [cw_f (fun q => h19 q.1)]; exact hRF) (by rw [cw_f (fun q => h19 q.1), ← hc]))
                exact ⟨rfl, rfl, rfl, rfl, trivial⟩
  refine V_iconst C (v := 0) dX9_countsWaiting_0 (by decide) ?_
  refine V_istore_n C dX9_countsWaiting_1 (by decide) rfl ?_
  simp only [lset1, lset2, List.filter_cons, List.filter_nil, Nat.reduceBEq, Nat.reduceAdd, Bool.not_true, Bool.not_false, Bool.and_true, Bool.and_false, Bool.true_and, Bool.false_and, if_true, if_false, Bool.false_eq_true, reduceIte]
  refine V_iconst C (v := 0) dX9_countsWaiting_2 (by decide) ?_
  refine V_istore_n C dX9_countsWaiting_3 (by decide) rfl ?_
  simp only [lset1, lset2, List.filter_cons, List.filter_nil, Nat.reduceBEq, Nat.reduceAdd, Bool.not_true, Bool.not_false, Bool.and_true, Bool.and_false, Bool.true_and, Bool.false_and, if_true, if_false, Bool.false_eq_true, reduceIte]
  refine V_sub ?_ (loop n 0 _ hRF (by omega))
  exact ⟨rfl, rfl, rfl, rfl, trivial⟩
theorem c_X9_valueOf (l : Launch) (hl : l.stackTraces = false) (G : gG) (S : sS) (m : Nat) (σ : aS) (hR : RelR S m σ) (hI : IC σ) (M : Nat) (hM : M ≤ 5) (eM : σ.2 49 = nI M) (hT : IT σ M) : CtF l G yX9_valueOf cX9_valueOf 8 (Option.some FieldType.int) 1 0 0 [.ref m] S (some (.int (mVal σ M))) S := by
  have hm := hR.1
  have hRF := RF_0 hR
  obtain ⟨n, hn⟩ : ∃ n, n = cN σ 20 := ⟨_, rfl⟩
  have hn10 : n ≤ 10 := by rw [hn]; exact hI.2.2.1.2
  have en : σ.2 20 = nI n := by rw [hn]; exact hI.2.2.1.1
  refine Ct_of (by decide) (cat1_all (by repeat first | exact trivial | refine ⟨by first | rfl | exact isR_c (isR_q _), ?_⟩)) (Nat.le_of_ble_eq_true rfl) hl fun X C hXl hin => ?_
  subst hXl
  dsimp only [lArgs, Nat.reduceAdd]
  have loop : ∀ (t k : Nat) (pl un wo : Int32), k + t = M → mValF σ t k pl un wo = mVal σ M → V X G 8 (eQ X G (fun v T => v = some (.int (mVal σ M)) ∧ T = S) (fun _ _ => False) 0 0) 0 0 9 [(4, false, .int (nI k)), (3, false, .int wo), (2, false, .int un), (1, false, .int pl), (0, false, .ref m)] [] S := by
    intro t
    induction t with
    | zero =>
      intro k pl un wo hk e
      obtain rfl : k = M := by omega
      have e : 1000000 * pl + 10000 * (9 - un) + wo + 2000 = mVal σ k := e
      refine V_iload C dX9_valueOf_9 rfl ?_
      refine V_aload_n C dX9_valueOf_11 rfl (by first | exact isR_r _ | exact isR_q _ | exact isR_n) ?_
      refine V_mNum C 49 hRF fl_X9_259 (by decide) dX9_valueOf_12 eM ?_
      refine V_igeN C (tgt := 145) (by omega) (by omega) dX9_valueOf_15 (by decide) (fun h15 => ?_) (fun h15 => ?_)
      · refine V_ldc_w C dX9_valueOf_145 cs_X9_262 ?_
        refine V_iload_n C dX9_valueOf_148 rfl ?_
        refine V_imul C dX9_valueOf_149 ?_
        refine V_sipush C (v := 10000) dX9_valueOf_150 (by decide) ?_
        refine V_bipush C (v := 9) dX9_valueOf_153 (by decide) ?_
        refine V_iload_n C dX9_valueOf_155 rfl ?_
        refine V_isub C dX9_valueOf_156 ?_
        refine V_imul C dX9_valueOf_157 ?_
        refine V_iadd C dX9_valueOf_158 ?_
        refine V_iload_n C dX9_valueOf_159 rfl ?_
        refine V_iadd C dX9_valueOf_160 ?_
        refine V_sipush C (v := 2000) dX9_valueOf_161 (by decide) ?_
        refine V_iadd C dX9_valueOf_164 ?_
        refine V_iret C (by first | omega | decide) (by first | omega | decide) dX9_valueOf_165 ?_
        rw [e]
        exact ⟨rfl, rfl⟩
      · omega
    | succ t ih =>
      intro k pl un wo hk e
      have hk5 : k < 5 := by omega
      have e := mValF_s.symm.trans e
      obtain ⟨w, hw, et⟩ := hT k (by omega)
      have hw10 : w ≤ n := by omega
      have ew : nx (σ.1 51 k) = w := by rw [et]; exact nI_clamp (by omega)
      rw [ew, et, en] at e
      have goOn : ∀ (pl un wo : Int32), mValF σ t (k + 1) pl un wo = mVal σ M → V X G 8 (eQ X G (fun v T => v = some (.int (mVal σ M)) ∧ T = S) (fun _ _ => False) 0 0) 0 0 139 [(4, false, .int (nI k)), (3, false, .int wo), (2, false, .int un), (1, false, .int pl), (0, false, .ref m)] [] S := by
        intro pl un wo e
        refine V_incN C dX9_valueOf_139 rfl (by decide) rfl ?_
        simp only [lset1, lset2, List.filter_cons, List.filter_nil, Nat.reduceBEq, Nat.reduceAdd, Bool.not_true, Bool.not_false, Bool.and_true, Bool.and_false, Bool.true_and, Bool.false_and, if_true, if_false, Bool.false_eq_true, reduceIte]
        refine V_goto C (tgt := 9) dX9_valueOf_142 (by decide) ?_
        refine V_sub ?_ (ih (k + 1) pl un wo (by omega) e)
        exact ⟨rfl, rfl, rfl, rfl, rfl, trivial⟩
      have inner : w < n → ∀ (s i : Nat), i + s = k → V X G 8 (eQ X G (fun v T => v = some (.int (mVal σ M)) ∧ T = S) (fun _ _ => False) 0 0) 0 0 42 [(7, false, .int (nI i)), (6, false, .int (mAhead σ (nI w) i)), (5, false, .int (nI w)), (4, false, .int (nI k)), (3, false, .int wo), (2, false, .int un), (1, false, .int pl), (0, false, .ref m)] [] S := by
        intro hwn s
        have e := (if_neg (by rw [nI_leI (by omega) (by omega)]; omega : ¬ nI n ≤ nI w)).symm.trans e
        induction s with
        | zero =>
          intro i hi
          obtain rfl : i = k := by omega
          refine V_iload C dX9_valueOf_42 rfl ?_
          refine V_iload C dX9_valueOf_44 rfl ?_
          refine V_igeN C (tgt := 77) (by omega) (by omega) dX9_valueOf_46 (by decide) (fun h46 => ?_) (fun h46 => ?_)
          · refine V_aload_n C dX9_valueOf_77 rfl (by first | exact isR_r _ | exact isR_q _ | exact isR_n) ?_
            refine V_mArr C 53 hRF rfl fl_X9_149 (by decide) dX9_valueOf_78 (fun a78 ha78 => ?_)
            refine V_bipush C (v := 10) dX9_valueOf_81 (by decide) ?_
            refine V_iload C dX9_valueOf_83 rfl ?_
            refine V_imul C dX9_valueOf_85 ?_
            rw [show (10 : Int32) * nI i = nI (10 * i) from pk_mul 10 i]
            refine V_iload C dX9_valueOf_86 rfl ?_
            refine V_iadd C dX9_valueOf_88 ?_
            rw [nI_add]
            refine V_mLdZ C 53 hRF rfl rfl ha78 (show 10 * i + w < 50 by omega) rfl dX9_valueOf_89 ?_
            refine V_if_eq C (tgt := 105) dX9_valueOf_90 (by decide) (fun h90 => ?_) (fun h90 => ?_)
            · refine V_iconst C (v := (-1)) dX9_valueOf_105 (by decide) ?_
              refine V_iret C (by first | omega | decide) (by first | omega | decide) dX9_valueOf_106 ?_
              first | exact ⟨congrArg (fun z => some (Value.int z)) ((if_pos (Or.inl h90)).symm.trans e), rfl⟩ | exact ⟨congrArg (fun z => some (Value.int z)) ((if_pos (Or.inr (Classical.not_not.mp h102))).symm.trans e), rfl⟩ | exact ⟨congrArg (fun z => some (Value.int z)) ((if_pos (Or.inr h102)).symm.trans e), rfl⟩
            · refine V_iload C dX9_valueOf_93 rfl ?_
              refine V_aload_n C dX9_valueOf_95 rfl (by first | exact isR_r _ | exact isR_q _ | exact isR_n) ?_
              refine V_mArr C 55 hRF rfl fl_X9_155 (by decide) dX9_valueOf_96 (fun a96 ha96 => ?_)
              refine V_iload C dX9_valueOf_99 rfl ?_
              refine V_mLd C 55 hRF rfl rfl ha96 (show w < 10 by omega) rfl dX9_valueOf_101 ?_
              refine V_icmp_ne C (tgt := 107) dX9_valueOf_102 (by decide) (fun h102 => ?_) (fun h102 => ?_)
              · refine V_iinc C dX9_valueOf_107 rfl rfl (by decide) rfl ?_
                simp only [lset1, lset2, List.filter_cons, List.filter_nil, Nat.reduceBEq, Nat.reduceAdd, Bool.not_true, Bool.not_false, Bool.and_true, Bool.and_false, Bool.true_and, Bool.false_and, if_true, if_false, Bool.false_eq_true, reduceIte]
                refine V_iload_n C dX9_valueOf_110 rfl ?_
                refine V_iload C dX9_valueOf_111 rfl ?_
                refine V_if_ne C (tgt := 120) dX9_valueOf_113 (by decide) (fun h113 => ?_) (fun h113 => ?_)
                · refine V_iconst C (v := 0) dX9_valueOf_120 (by decide) ?_
                  refine V_iadd C dX9_valueOf_121 ?_
                  refine V_istore_n C dX9_valueOf_122 (by decide) rfl ?_
                  simp only [lset1, lset2, List.filter_cons, List.filter_nil, Nat.reduceBEq, Nat.reduceAdd, Bool.not_true, Bool.not_false, Bool.and_true, Bool.and_false, Bool.true_and, Bool.false_and, if_true, if_false, Bool.false_eq_true, reduceIte]
                  refine V_iload_n C dX9_valueOf_123 rfl ?_
                  refine V_aload_n C dX9_valueOf_124 rfl (by first | exact isR_r _ | exact isR_q _ | exact isR_n) ?_
                  refine V_mArr C 54 hRF rfl fl_X9_152 (by decide) dX9_valueOf_125 (fun a125 ha125 => ?_)
                  refine V_bipush C (v := 10) dX9_valueOf_128 (by decide) ?_
                  refine V_iload C dX9_valueOf_130 rfl ?_
                  refine V_imul C dX9_valueOf_132 ?_
                  rw [show (10 : Int32) * nI i = nI (10 * i) from pk_mul 10 i]
                  refine V_iload C dX9_valueOf_133 rfl ?_
                  refine V_iadd C dX9_valueOf_135 ?_
                  rw [nI_add]
                  refine V_mLd C 54 hRF rfl rfl ha125 (show 10 * i + w < 50 by omega) rfl dX9_valueOf_136 ?_
                  refine V_iadd C dX9_valueOf_137 ?_
                  refine V_istore_n C dX9_valueOf_138 (by decide) rfl ?_
                  simp only [lset1, lset2, List.filter_cons, List.filter_nil, Nat.reduceBEq, Nat.reduceAdd, Bool.not_true, Bool.not_false, Bool.and_true, Bool.and_false, Bool.true_and, Bool.false_and, if_true, if_false, Bool.false_eq_true, reduceIte]
                  have e := (if_neg (fun q => Or.elim q h90 h102)).symm.trans e
                  first | rw [if_pos h113] at e | rw [if_neg h113] at e
                  refine V_sub ?_ (goOn _ _ _ e)
                  exact ⟨rfl, rfl, rfl, rfl, rfl, trivial⟩
                · refine V_iconst C (v := 1) dX9_valueOf_116 (by decide) ?_
                  refine V_goto C (tgt := 121) dX9_valueOf_117 (by decide) ?_
                  refine V_iadd C dX9_valueOf_121 ?_
                  refine V_istore_n C dX9_valueOf_122 (by decide) rfl ?_
                  simp only [lset1, lset2, List.filter_cons, List.filter_nil, Nat.reduceBEq, Nat.reduceAdd, Bool.not_true, Bool.not_false, Bool.and_true, Bool.and_false, Bool.true_and, Bool.false_and, if_true, if_false, Bool.false_eq_true, reduceIte]
                  refine V_iload_n C dX9_valueOf_123 rfl ?_
                  refine V_aload_n C dX9_valueOf_124 rfl (by first | exact isR_r _ | exact isR_q _ | exact isR_n) ?_
                  refine V_mArr C 54 hRF rfl fl_X9_152 (by decide) dX9_valueOf_125 (fun a125 ha125 => ?_)
                  refine V_bipush C (v := 10) dX9_valueOf_128 (by decide) ?_
                  refine V_iload C dX9_valueOf_130 rfl ?_
                  refine V_imul C dX9_valueOf_132 ?_
                  rw [show (10 : Int32) * nI i = nI (10 * i) from pk_mul 10 i]
                  refine V_iload C dX9_valueOf_133 rfl ?_
                  refine V_iadd C dX9_valueOf_135 ?_
                  rw [nI_add]
                  refine V_mLd C 54 hRF rfl rfl ha125 (show 10 * i + w < 50 by omega) rfl dX9_valueOf_136 ?_
                  refine V_iadd C dX9_valueOf_137 ?_
                  refine V_istore_n C dX9_valueOf_138 (by decide) rfl ?_
                  simp only [lset1, lset2, List.filter_cons, List.filter_nil, Nat.reduceBEq, Nat.reduceAdd, Bool.not_true, Bool.not_false, Bool.and_true, Bool.and_false, Bool.true_and, Bool.false_and, if_true, if_false, Bool.false_eq_true, reduceIte]
                  have e := (if_neg (fun q => Or.elim q h90 h102)).symm.trans e
                  first | rw [if_pos h113] at e | rw [if_neg h113] at e
                  refine V_sub ?_ (goOn _ _ _ e)
                  exact ⟨rfl, rfl, rfl, rfl, rfl, trivial⟩
              · refine V_iconst C (v := (-1)) dX9_valueOf_105 (by decide) ?_
                refine V_iret C (by first | omega | decide) (by first | omega | decide) dX9_valueOf_106 ?_
                first | exact ⟨congrArg (fun z => some (Value.int z)) ((if_pos (Or.inl h90)).symm.trans e), rfl⟩ | exact ⟨congrArg (fun z => some (Value.int z)) ((if_pos (Or.inr (Classical.not_not.mp h102))).symm.trans e), rfl⟩ | exact ⟨congrArg (fun z => some (Value.int z)) ((if_pos (Or.inr h102)).symm.trans e), rfl⟩
          · omega
        | succ s ih2 =>
          intro i hi
          have hi5 : i < 5 := by omega
          refine V_iload C dX9_valueOf_42 rfl ?_
          refine V_iload C dX9_valueOf_44 rfl ?_
          refine V_igeN C (tgt := 77) (by omega) (by omega) dX9_valueOf_46 (by decide) (fun h46 => ?_) (fun h46 => ?_)
          · omega
          · refine V_iload C dX9_valueOf_49 rfl ?_
            refine V_aload_n C dX9_valueOf_51 rfl (by first | exact isR_r _ | exact isR_q _ | exact isR_n) ?_
            refine V_mArr C 51 hRF rfl fl_X9_143 (by decide) dX9_valueOf_52 (fun a52 ha52 => ?_)
            refine V_iload C dX9_valueOf_55 rfl ?_
            refine V_mLd C 51 hRF rfl rfl ha52 (by first | assumption | (show _ < _; omega)) rfl dX9_valueOf_57 ?_
            refine V_iload C dX9_valueOf_58 rfl ?_
            refine V_icmp_ne C (tgt := 67) dX9_valueOf_60 (by decide) (fun h60 => ?_) (fun h60 => ?_)
            · refine V_iconst C (v := 0) dX9_valueOf_67 (by decide) ?_
              refine V_iadd C dX9_valueOf_68 ?_
              refine V_istore C dX9_valueOf_69 (by decide) rfl ?_
              simp only [lset1, lset2, List.filter_cons, List.filter_nil, Nat.reduceBEq, Nat.reduceAdd, Bool.not_true, Bool.not_false, Bool.and_true, Bool.and_false, Bool.true_and, Bool.false_and, if_true, if_false, Bool.false_eq_true, reduceIte]
              refine V_incN C dX9_valueOf_71 rfl (by decide) rfl ?_
              simp only [lset1, lset2, List.filter_cons, List.filter_nil, Nat.reduceBEq, Nat.reduceAdd, Bool.not_true, Bool.not_false, Bool.and_true, Bool.and_false, Bool.true_and, Bool.false_and, if_true, if_false, Bool.false_eq_true, reduceIte]
              refine V_goto C (tgt := 42) dX9_valueOf_74 (by decide) ?_
              refine V_sub ?_ (ih2 (i + 1) (by omega))
              first | rw [mAhead_t h60] | rw [mAhead_f h60]
              exact ⟨rfl, rfl, rfl, rfl, rfl, rfl, rfl, rfl, trivial⟩
            · refine V_iconst C (v := 1) dX9_valueOf_63 (by decide) ?_
              refine V_goto C (tgt := 68) dX9_valueOf_64 (by decide) ?_
              refine V_iadd C dX9_valueOf_68 ?_
              refine V_istore C dX9_valueOf_69 (by decide) rfl ?_
              simp only [lset1, lset2, List.filter_cons, List.filter_nil, Nat.reduceBEq, Nat.reduceAdd, Bool.not_true, Bool.not_false, Bool.and_true, Bool.and_false, Bool.true_and, Bool.false_and, if_true, if_false, Bool.false_eq_true, reduceIte]
              refine V_incN C dX9_valueOf_71 rfl (by decide) rfl ?_
              simp only [lset1, lset2, List.filter_cons, List.filter_nil, Nat.reduceBEq, Nat.reduceAdd, Bool.not_true, Bool.not_false, Bool.and_true, Bool.and_false, Bool.true_and, Bool.false_and, if_true, if_false, Bool.false_eq_true, reduceIte]
              refine V_goto C (tgt := 42) dX9_valueOf_74 (by decide) ?_
              refine V_sub ?_ (ih2 (i + 1) (by omega))
              first | rw [mAhead_t h60] | rw [mAhead_f h60]
              exact ⟨rfl, rfl, rfl, rfl, rfl, rfl, rfl, rfl, trivial⟩
      refine V_iload C dX9_valueOf_9 rfl ?_
      refine V_aload_n C dX9_valueOf_11 rfl (by first | exact isR_r _ | exact isR_q _ | exact isR_n) ?_
      refine V_mNum C 49 hRF fl_X9_259 (by decide) dX9_valueOf_12 eM ?_
      refine V_igeN C (tgt := 145) (by omega) (by omega) dX9_valueOf_15 (by decide) (fun h15 => ?_) (fun h15 => ?_)
      · omega
      · refine V_aload_n C dX9_valueOf_18 rfl (by first | exact isR_r _ | exact isR_q _ | exact isR_n) ?_
        refine V_mArr C 51 hRF rfl fl_X9_143 (by decide) dX9_valueOf_19 (fun a19 ha19 => ?_)
        refine V_iload C dX9_valueOf_22 rfl ?_
        refine V_mLd C 51 hRF rfl rfl ha19 (by first | assumption | (show _ < _; omega)) et dX9_valueOf_24 ?_
        refine V_istore C dX9_valueOf_25 (by decide) rfl ?_
        simp only [lset1, lset2, List.filter_cons, List.filter_nil, Nat.reduceBEq, Nat.reduceAdd, Bool.not_true, Bool.not_false, Bool.and_true, Bool.and_false, Bool.true_and, Bool.false_and, if_true, if_false, Bool.false_eq_true, reduceIte]
        refine V_iload C dX9_valueOf_27 rfl ?_
        refine V_aload_n C dX9_valueOf_29 rfl (by first | exact isR_r _ | exact isR_q _ | exact isR_n) ?_
        refine V_mNum C 20 hRF fl_X9_169 (by decide) dX9_valueOf_30 en ?_
        refine V_igeN C (tgt := 139) (by omega) (by omega) dX9_valueOf_33 (by decide) (fun h33 => ?_) (fun h33 => ?_)
        · refine V_sub ?_ (goOn pl un wo ((if_pos ((nI_leI (by omega) (by omega)).mpr h33)).symm.trans e))
          exact ⟨rfl, rfl, rfl, rfl, rfl, trivial⟩
        · refine V_iconst C (v := 0) dX9_valueOf_36 (by decide) ?_
          refine V_istore C dX9_valueOf_37 (by decide) rfl ?_
          simp only [lset1, lset2, List.filter_cons, List.filter_nil, Nat.reduceBEq, Nat.reduceAdd, Bool.not_true, Bool.not_false, Bool.and_true, Bool.and_false, Bool.true_and, Bool.false_and, if_true, if_false, Bool.false_eq_true, reduceIte]
          refine V_iconst C (v := 0) dX9_valueOf_39 (by decide) ?_
          refine V_istore C dX9_valueOf_40 (by decide) rfl ?_
          simp only [lset1, lset2, List.filter_cons, List.filter_nil, Nat.reduceBEq, Nat.reduceAdd, Bool.not_true, Bool.not_false, Bool.and_true, Bool.and_false, Bool.true_and, Bool.false_and, if_true, if_false, Bool.false_eq_true, reduceIte]
          refine V_sub ?_ (inner h33 k 0 (by omega))
          exact ⟨rfl, rfl, rfl, rfl, rfl, rfl, rfl, rfl, trivial⟩
  refine V_iconst C (v := 0) dX9_valueOf_0 (by decide) ?_
  refine V_istore_n C dX9_valueOf_1 (by decide) rfl ?_
  simp only [lset1, lset2, List.filter_cons, List.filter_nil, Nat.reduceBEq, Nat.reduceAdd, Bool.not_true, Bool.not_false, Bool.and_true, Bool.and_false, Bool.true_and, Bool.false_and, if_true, if_false, Bool.false_eq_true, reduceIte]
  refine V_iconst C (v := 0) dX9_valueOf_2 (by decide) ?_
  refine V_istore_n C dX9_valueOf_3 (by decide) rfl ?_
  simp only [lset1, lset2, List.filter_cons, List.filter_nil, Nat.reduceBEq, Nat.reduceAdd, Bool.not_true, Bool.not_false, Bool.and_true, Bool.and_false, Bool.true_and, Bool.false_and, if_true, if_false, Bool.false_eq_true, reduceIte]
  refine V_iconst C (v := 0) dX9_valueOf_4 (by decide) ?_
  refine V_istore_n C dX9_valueOf_5 (by decide) rfl ?_
  simp only [lset1, lset2, List.filter_cons, List.filter_nil, Nat.reduceBEq, Nat.reduceAdd, Bool.not_true, Bool.not_false, Bool.and_true, Bool.and_false, Bool.true_and, Bool.false_and, if_true, if_false, Bool.false_eq_true, reduceIte]
  refine V_iconst C (v := 0) dX9_valueOf_6 (by decide) ?_
  refine V_istore C dX9_valueOf_7 (by decide) rfl ?_
  simp only [lset1, lset2, List.filter_cons, List.filter_nil, Nat.reduceBEq, Nat.reduceAdd, Bool.not_true, Bool.not_false, Bool.and_true, Bool.and_false, Bool.true_and, Bool.false_and, if_true, if_false, Bool.false_eq_true, reduceIte]
  refine V_sub ?_ (loop M 0 0 0 0 (by omega) rfl)
  exact ⟨rfl, rfl, rfl, rfl, rfl, trivial⟩
theorem c_X9_isNext (l : Launch) (hl : l.stackTraces = false) (G : gG) (S : sS) (m : Nat) (σ : aS) (hR : RelR S m σ) (hI : IC σ) (M : Nat) (hM : M ≤ 5) (eM : σ.2 49 = nI M) : CtR l G yX9_isNext cX9_isNext 2 (Option.some FieldType.boolean) 1 [.ref m] S m (some (.int (nxt (σ.2 20) M σ.1).1)) ((nxt (σ.2 20) M σ.1).2, σ.2) := by
  have hm := hR.1
  have hRF := RF_0 hR
  refine Ct_of (by decide) (cat1_all (by repeat first | exact trivial | refine ⟨by first | rfl | exact isR_c (isR_q _), ?_⟩)) (Nat.le_of_ble_eq_true rfl) hl fun X C hXl hin => ?_
  subst hXl
  dsimp only [lArgs, Nat.reduceAdd]
  have loop : ∀ (c : Nat) (hc : c ≤ 5) (A : Nat → Nat → Int32) (T : sS) (hRF : RF S T m A σ.2) (v : Int32), (c = 0 ∧ v = -1 ∨ ∃ j, c = j + 1 ∧ v = nI j) → nxt (σ.2 20) c A = nxt (σ.2 20) M σ.1 → V X G 2 (eQ X G (fun v T => v = some (.int (nxt (σ.2 20) M σ.1).1) ∧ RF S T m (nxt (σ.2 20) M σ.1).2 σ.2) (fun _ _ => False) 0 0) 0 0 7 [(1, false, .int v), (0, false, .ref m)] [] T := by
    intro c
    induction c with
    | zero =>
      intro hc A T hRF v hv e
      obtain rfl : v = -1 := by
        rcases hv with h | ⟨j, h, -⟩
        · exact h.2
        · omega
      have e : (0, A) = nxt (σ.2 20) M σ.1 := e
      rw [← e]
      refine V_iload_n C dX9_isNext_7 rfl ?_
      refine V_if_lt C (tgt := 37) dX9_isNext_8 (by decide) (fun h8 => ?_) (fun h8 => ?_)
      · refine V_iload_n C dX9_isNext_37 rfl ?_
        refine V_if_lt C (tgt := 51) dX9_isNext_38 (by decide) (fun h38 => ?_) (fun h38 => ?_)
        · refine V_iload_n C dX9_isNext_51 rfl ?_
          refine V_if_lt C (tgt := 59) dX9_isNext_52 (by decide) (fun h52 => ?_) (fun h52 => ?_)
          · refine V_iconst C (v := 0) dX9_isNext_59 (by decide) ?_
            refine V_zret C (by rfl) (by first | omega | decide) (by first | omega | decide) dX9_isNext_60 ?_
            exact ⟨rfl, hRF⟩
          · exact absurd (by decide) h52
        · exact absurd (by decide) h38
      · exact absurd (by decide) h8
    | succ c ih =>
      intro hc A T hRF v hv e
      obtain rfl : v = nI c := by
        rcases hv with h | ⟨j, h, q⟩
        · omega
        · rw [q, show c = j by omega]
      have hc5 : c < 5 := by omega
      have hpos : ¬ nI c < 0 := Int32.not_lt.mpr (nI_pos' (by omega))
      by_cases q : A 51 c = σ.2 20
      · have e := (iteP_t q).symm.trans e
        refine V_iload_n C dX9_isNext_7 rfl ?_
        refine V_if_lt C (tgt := 37) dX9_isNext_8 (by decide) (fun h8 => ?_) (fun h8 => ?_)
        · exact absurd h8 hpos
        · refine V_aload_n C dX9_isNext_11 rfl (by first | exact isR_r _ | exact isR_q _ | exact isR_n) ?_
          refine V_mArr C 51 hRF rfl fl_X9_143 (by decide) dX9_isNext_12 (fun a12 ha12 => ?_)
          refine V_iload_n C dX9_isNext_15 rfl ?_
          refine V_mLd C 51 hRF rfl rfl ha12 (by first | assumption | (show _ < _; omega)) rfl dX9_isNext_16 ?_
          refine V_aload_n C dX9_isNext_17 rfl (by first | exact isR_r _ | exact isR_q _ | exact isR_n) ?_
          refine V_mNum C 20 hRF fl_X9_169 (by decide) dX9_isNext_18 rfl ?_
          refine V_icmp_ne C (tgt := 37) dX9_isNext_21 (by decide) (fun h21 => ?_) (fun h21 => ?_)
          · exact absurd q h21
          · refine V_aload_n C dX9_isNext_24 rfl (by first | exact isR_r _ | exact isR_q _ | exact isR_n) ?_
            refine V_mArr C 51 hRF rfl fl_X9_143 (by decide) dX9_isNext_25 (fun a25 ha25 => ?_)
            refine V_iload_n C dX9_isNext_28 rfl ?_
            refine V_iconst C (v := 0) dX9_isNext_29 (by decide) ?_
            refine V_mSt C 51 hRF rfl rfl ha25 (by first | assumption | (show _ < _; omega)) dX9_isNext_30 (fun T hRF => ?_)
            refine V_iinc C dX9_isNext_31 rfl rfl (by decide) rfl ?_
            simp only [lset1, lset2, List.filter_cons, List.filter_nil, Nat.reduceBEq, Nat.reduceAdd, Bool.not_true, Bool.not_false, Bool.and_true, Bool.and_false, Bool.true_and, Bool.false_and, if_true, if_false, Bool.false_eq_true, reduceIte]
            refine V_goto C (tgt := 7) dX9_isNext_34 (by decide) ?_
            refine V_sub ?_ (ih (by omega) _ _ hRF (nI c + (-1)) ?_ e)
            exact ⟨rfl, rfl, trivial⟩
            cases c with
            | zero => exact Or.inl ⟨rfl, by decide⟩
            | succ j => exact Or.inr ⟨j, rfl, nI_dec j⟩
      · have e := (iteP_f q).symm.trans e
        rw [← e]
        refine V_iload_n C dX9_isNext_7 rfl ?_
        refine V_if_lt C (tgt := 37) dX9_isNext_8 (by decide) (fun h8 => ?_) (fun h8 => ?_)
        · exact absurd h8 hpos
        · refine V_aload_n C dX9_isNext_11 rfl (by first | exact isR_r _ | exact isR_q _ | exact isR_n) ?_
          refine V_mArr C 51 hRF rfl fl_X9_143 (by decide) dX9_isNext_12 (fun a12 ha12 => ?_)
          refine V_iload_n C dX9_isNext_15 rfl ?_
          refine V_mLd C 51 hRF rfl rfl ha12 (by first | assumption | (show _ < _; omega)) rfl dX9_isNext_16 ?_
          refine V_aload_n C dX9_isNext_17 rfl (by first | exact isR_r _ | exact isR_q _ | exact isR_n) ?_
          refine V_mNum C 20 hRF fl_X9_169 (by decide) dX9_isNext_18 rfl ?_
          refine V_icmp_ne C (tgt := 37) dX9_isNext_21 (by decide) (fun h21 => ?_) (fun h21 => ?_)
          · refine V_iload_n C dX9_isNext_37 rfl ?_
            refine V_if_lt C (tgt := 51) dX9_isNext_38 (by decide) (fun h38 => ?_) (fun h38 => ?_)
            · exact absurd h38 hpos
            · refine V_aload_n C dX9_isNext_41 rfl (by first | exact isR_r _ | exact isR_q _ | exact isR_n) ?_
              refine V_mArr C 51 hRF rfl fl_X9_143 (by decide) dX9_isNext_42 (fun a42 ha42 => ?_)
              refine V_iload_n C dX9_isNext_45 rfl ?_
              refine V_dup2 C dX9_isNext_46 rfl rfl ?_
              refine V_mLd C 51 hRF rfl rfl ha42 (by first | assumption | (show _ < _; omega)) rfl dX9_isNext_47 ?_
              refine V_iconst C (v := 1) dX9_isNext_48 (by decide) ?_
              refine V_iadd C dX9_isNext_49 ?_
              refine V_mSt C 51 hRF rfl rfl ha42 (by first | assumption | (show _ < _; omega)) dX9_isNext_50 (fun T hRF => ?_)
              refine V_iload_n C dX9_isNext_51 rfl ?_
              refine V_if_lt C (tgt := 59) dX9_isNext_52 (by decide) (fun h52 => ?_) (fun h52 => ?_)
              · exact absurd h52 hpos
              · refine V_iconst C (v := 1) dX9_isNext_55 (by decide) ?_
                refine V_goto C (tgt := 60) dX9_isNext_56 (by decide) ?_
                refine V_zret C (by rfl) (by first | omega | decide) (by first | omega | decide) dX9_isNext_60 ?_
                exact ⟨rfl, hRF⟩
          · exact absurd (Classical.not_not.mp (fun z => z h21)) q
  refine V_aload_n C dX9_isNext_0 rfl (by first | exact isR_r _ | exact isR_q _ | exact isR_n) ?_
  refine V_mNum C 49 hRF fl_X9_259 (by decide) dX9_isNext_1 eM ?_
  refine V_iconst C (v := 1) dX9_isNext_4 (by decide) ?_
  refine V_isub C dX9_isNext_5 ?_
  refine V_istore_n C dX9_isNext_6 (by decide) rfl ?_
  simp only [lset1, lset2, List.filter_cons, List.filter_nil, Nat.reduceBEq, Nat.reduceAdd, Bool.not_true, Bool.not_false, Bool.and_true, Bool.and_false, Bool.true_and, Bool.false_and, if_true, if_false, Bool.false_eq_true, reduceIte]
  refine V_sub ?_ (loop M hM σ.1 _ hRF (nI M - 1) ?_ rfl)
  exact ⟨rfl, rfl, trivial⟩
  cases M with
  | zero => exact Or.inl ⟨rfl, by decide⟩
  | succ j => exact Or.inr ⟨j, rfl, nI_prv j⟩
