/-! THE REFERENCE: visited, passes, pass. -/
noncomputable def vis1 (σ : aS) (k : Nat) : Nat → Nat → Int32 := up2 σ.1 13 k 0
noncomputable def vis2 (σ : aS) (k : Nat) : Nat → Nat → Int32 := up2 (vis1 σ k) 14 k (vis1 σ k 14 k + if σ.1 13 k = 0 then 0 else 1)
noncomputable def vis3 (σ : aS) (k : Nat) : Nat → Nat → Int32 := up2 (vis2 σ k) 15 k (vis2 σ k 15 k + if σ.1 13 k = 0 then 1 else 0)
noncomputable def vis4 (σ : aS) (k : Nat) : Nat → Nat → Int32 := up2 (vis3 σ k) 16 k (if σ.1 13 k = 0 then 0 else vis3 σ k 16 k + 1)
noncomputable def vis5 (σ : aS) (k : Nat) : Nat → Nat → Int32 := up2 (vis4 σ k) 17 k (if σ.1 13 k = 0 then vis4 σ k 17 k + 1 else 0)
def visW (σ : aS) (k : Nat) : Prop := 3 ≤ vis5 σ k 17 k ∨ (¬ vis5 σ k 18 k = 0 ∧ ¬ 3 ≤ vis5 σ k 16 k)
noncomputable def oVisited (σ : aS) (k : Nat) : aS := (up2 (vis5 σ k) 18 k (pI9 (visW σ k)), σ.2)
theorem vis5_t {σ : aS} {k : Nat} (h : σ.1 13 k = 0) : vis5 σ k = up2 (up2 (up2 (up2 (up2 σ.1 13 k 0) 14 k ((up2 σ.1 13 k 0) 14 k + 0)) 15 k ((up2 (up2 σ.1 13 k 0) 14 k ((up2 σ.1 13 k 0) 14 k + 0)) 15 k + 1)) 16 k 0) 17 k ((up2 (up2 (up2 (up2 σ.1 13 k 0) 14 k ((up2 σ.1 13 k 0) 14 k + 0)) 15 k ((up2 (up2 σ.1 13 k 0) 14 k ((up2 σ.1 13 k 0) 14 k + 0)) 15 k + 1)) 16 k 0) 17 k + 1) := by
  simp only [vis5, vis4, vis3, vis2, vis1, if_pos h]
theorem vis5_f {σ : aS} {k : Nat} (h : ¬ σ.1 13 k = 0) : vis5 σ k = up2 (up2 (up2 (up2 (up2 σ.1 13 k 0) 14 k ((up2 σ.1 13 k 0) 14 k + 1)) 15 k ((up2 (up2 σ.1 13 k 0) 14 k ((up2 σ.1 13 k 0) 14 k + 1)) 15 k + 0)) 16 k ((up2 (up2 (up2 σ.1 13 k 0) 14 k ((up2 σ.1 13 k 0) 14 k + 1)) 15 k ((up2 (up2 σ.1 13 k 0) 14 k ((up2 σ.1 13 k 0) 14 k + 1)) 15 k + 0)) 16 k + 1)) 17 k 0 := by
  simp only [vis5, vis4, vis3, vis2, vis1, if_neg h]
theorem IC_vis {σ : aS} {k : Nat} (h : IC σ) : IC (oVisited σ k) := by
  unfold oVisited vis5 vis4 vis3 vis2 vis1
  exact IC_A (IC_A (IC_A (IC_A (IC_A (IC_A h (by decide) (by decide)) (by decide) (by decide)) (by decide) (by decide)) (by decide) (by decide)) (by decide) (by decide)) (by decide) (by decide)
theorem IS_A {A : Nat → Nat → Int32} {B : Nat → Int32} {f j : Nat} {v : Int32} (h : IS (A, B)) (h1 : f ≠ 44) (h2 : f ≠ 45) : IS (up2 A f j v, B) := by
  intro i hi
  have e1 : up2 A f j v 44 i = A 44 i := up2_n1 (fun q => h1 q.symm)
  have e2 : up2 A f j v 45 i = A 45 i := up2_n1 (fun q => h2 q.symm)
  have := h i hi
  simp only [e1, e2]
  exact this
theorem IS_vis {σ : aS} {k : Nat} (h : IS σ) : IS (oVisited σ k) := by
  unfold oVisited vis5 vis4 vis3 vis2 vis1
  exact IS_A (IS_A (IS_A (IS_A (IS_A (IS_A h (by decide) (by decide)) (by decide) (by decide)) (by decide) (by decide)) (by decide) (by decide)) (by decide) (by decide)) (by decide) (by decide)
theorem IS_ends {σ : aS} {k : Nat} (h : IS σ) : IS (oEnds σ k) := by
  unfold oEnds
  split
  · exact h
  · exact IS_A (IS_A h (by decide) (by decide)) (by decide) (by decide)
theorem IC_0 {A : Nat → Nat → Int32} {B : Nat → Int32} (h : IC (A, B)) (hd : cN (A, B) 0 < 12000) : IC (A, up1 B 0 (B 0 + 1)) := by
  obtain ⟨a1, a2, a3, a4, a5, a6, a7, a8⟩ := h
  have e : B 0 + 1 = nI (cN (A, B) 0 + 1) := by
    have q : B 0 = nI (cN (A, B) 0) := a1.1
    rw [q, nI_1]
  have e2 : cN (A, up1 B 0 (B 0 + 1)) 0 = cN (A, B) 0 + 1 := by
    show (up1 B 0 (B 0 + 1) 0).toNatClampNeg = _
    rw [up1_s, e, nI_clamp (by omega)]
  exact ⟨⟨by rw [e2]; show up1 B 0 (B 0 + 1) 0 = _; rw [up1_s, e], by omega⟩, a2, a3, a4, a5, a6, a7, a8⟩
noncomputable def earnF (σ : aS) : Nat → Nat → Nat → Int32
  | 0 => σ.1
  | j + 1 => iteP (earnF σ j 10 j = -1) (earnF σ j) (up2 (earnF σ j) 24 (nx (mHomeOf (earnF σ j, σ.2) j)) (earnF σ j 24 (nx (mHomeOf (earnF σ j, σ.2) j)) + (10 + mYears (earnF σ j, σ.2) j (σ.2 0) + 5 * ones4 (earnF σ j 4 j))))
theorem earnF_t {σ : aS} {j : Nat} (h : earnF σ j 10 j = -1) : earnF σ (j + 1) = earnF σ j := iteP_t h
theorem earnF_f {σ : aS} {j : Nat} (h : ¬ earnF σ j 10 j = -1) : earnF σ (j + 1) = up2 (earnF σ j) 24 (nx (mHomeOf (earnF σ j, σ.2) j)) (earnF σ j 24 (nx (mHomeOf (earnF σ j, σ.2) j)) + (10 + mYears (earnF σ j, σ.2) j (σ.2 0) + 5 * ones4 (earnF σ j 4 j))) := iteP_f h
theorem IC_earn {σ : aS} (h : IC σ) : ∀ j, IC (earnF σ j, σ.2)
  | 0 => h
  | j + 1 => by
    by_cases e : earnF σ j 10 j = -1
    · rw [earnF_t e]; exact IC_earn h j
    · rw [earnF_f e]; exact IC_A (IC_earn h j) (by decide) (by decide)
theorem IS_earn {σ : aS} (h : IS σ) : ∀ j, IS (earnF σ j, σ.2)
  | 0 => h
  | j + 1 => by
    by_cases e : earnF σ j 10 j = -1
    · rw [earnF_t e]; exact IS_earn h j
    · rw [earnF_f e]; exact IS_A (IS_earn h j) (by decide) (by decide)
theorem mHome_ix {σ : aS} (hI : IC σ) (hS : IS σ) {j : Nat} (hj : j < cN σ 1) (e : ¬ σ.1 10 j = -1) : ∃ h, h < cN σ 20 ∧ mHomeOf σ j = nI h := by
  rcases hI.2.2.2.2.2.2.2 j hj with q | ⟨s, hs, q⟩
  · exact absurd q e
  · obtain ⟨-, h, hh, q2⟩ := hS s hs
    refine ⟨h, hh, ?_⟩
    unfold mHomeOf
    rw [if_neg e, q, nI_clamp (by have := hI.2.2.2.2.2.1.2; omega), q2]
noncomputable def dStep (τ : aS) (j : Nat) : aS :=
  iteP (τ.1 10 j = -1) τ (iteP (¬ mKindOn τ (nI j) (τ.2 0) = 0 ∧ ¬ mKindOn τ (nI j) (τ.2 0) = 2) (oEnds τ j)
    (iteP (¬ τ.1 12 j ≤ 0 ∧ (τ.2 0 - τ.1 46 (nx (τ.1 10 j))) - (τ.2 0 - τ.1 46 (nx (τ.1 10 j))) / τ.1 12 j * τ.1 12 j = 0) (oVisited τ j) τ))
theorem dStep_2 {τ : aS} {j : Nat} : (dStep τ j).2 = τ.2 := by
  by_cases h1 : τ.1 10 j = -1
  · rw [dStep, iteP_t h1]
  · rw [dStep, iteP_f h1]
    by_cases h2 : ¬ mKindOn τ (nI j) (τ.2 0) = 0 ∧ ¬ mKindOn τ (nI j) (τ.2 0) = 2
    · rw [iteP_t h2, oEnds_2]
    · rw [iteP_f h2]
      by_cases h3 : ¬ τ.1 12 j ≤ 0 ∧ (τ.2 0 - τ.1 46 (nx (τ.1 10 j))) - (τ.2 0 - τ.1 46 (nx (τ.1 10 j))) / τ.1 12 j * τ.1 12 j = 0
      · rw [iteP_t h3]; rfl
      · rw [iteP_f h3]
theorem dStep_I {τ : aS} {j : Nat} (h : IC τ) (hS : IS τ) : IC (dStep τ j) ∧ IS (dStep τ j) := by
  by_cases h1 : τ.1 10 j = -1
  · rw [dStep, iteP_t h1]; exact ⟨h, hS⟩
  · rw [dStep, iteP_f h1]
    by_cases h2 : ¬ mKindOn τ (nI j) (τ.2 0) = 0 ∧ ¬ mKindOn τ (nI j) (τ.2 0) = 2
    · rw [iteP_t h2]; exact ⟨IC_ends h, IS_ends hS⟩
    · rw [iteP_f h2]
      by_cases h3 : ¬ τ.1 12 j ≤ 0 ∧ (τ.2 0 - τ.1 46 (nx (τ.1 10 j))) - (τ.2 0 - τ.1 46 (nx (τ.1 10 j))) / τ.1 12 j * τ.1 12 j = 0
      · rw [iteP_t h3]; exact ⟨IC_vis h, IS_vis hS⟩
      · rw [iteP_f h3]; exact ⟨h, hS⟩
theorem iteP_f1 {α : Type} {p q : Prop} {a b : α} (h : p) : iteP (¬ p ∧ q) a b = b := iteP_f (fun z => z.1 h)
theorem iteP_f2 {α : Type} {p q : Prop} {a b : α} (h : q) : iteP (p ∧ ¬ q) a b = b := iteP_f (fun z => z.2 h)
theorem iteP_f3 {α : Type} {p q : Prop} {a b : α} (h : ¬ q) : iteP (p ∧ q) a b = b := iteP_f (fun z => h z.2)
theorem RF_st {S T : sS} {m : Nat} {σ τ : aS} (h : σ = τ) (hRF : RF S T m τ.1 τ.2) : RF S T m σ.1 σ.2 := h ▸ hRF
noncomputable def dRun : Nat → Nat → aS → aS
  | 0, _, τ => τ
  | t + 1, j, τ => dRun t (j + 1) (dStep τ j)
theorem dRun_2 : ∀ (t j : Nat) (τ : aS), (dRun t j τ).2 = τ.2
  | 0, _, _ => rfl
  | t + 1, j, τ => (dRun_2 t (j + 1) (dStep τ j)).trans dStep_2
theorem dRun_I : ∀ (t j : Nat) (τ : aS), IC τ → IS τ → IC (dRun t j τ) ∧ IS (dRun t j τ)
  | 0, _, _, h, hS => ⟨h, hS⟩
  | t + 1, j, τ, h, hS => dRun_I t (j + 1) (dStep τ j) (dStep_I h hS).1 (dStep_I h hS).2
noncomputable def oDay (σ : aS) : aS := dRun (cN σ 1) 0 (earnF σ (cN σ 1), up1 σ.2 0 (σ.2 0 + 1))
theorem oDay_I {σ : aS} (h : IC σ) (hS : IS σ) (hd : cN σ 0 < 12000) : IC (oDay σ) ∧ IS (oDay σ) :=
  dRun_I _ _ _ (IC_0 (IC_earn h _) hd) (IS_earn hS _)
noncomputable def runDays : Nat → aS → aS
  | 0, τ => τ
  | c + 1, τ => runDays c (oDay τ)
noncomputable def tPass (σ : aS) (v : Int32) : Int32 := gT (bI (inP v 1 400)) (pI9 (σ.2 0 + v ≤ 12000)) 1
noncomputable def oPass (σ : aS) (v : Int32) : Int32 × aS := if tPass σ v = 0 then ((runDays (nx v) (sT σ 0)).2 0, runDays (nx v) (sT σ 0)) else (0, sT σ (tPass σ v))
theorem c_X9_visited (l : Launch) (hl : l.stackTraces = false) (G : gG) (S : sS) (m : Nat) (σ : aS) (hR : RelR S m σ) (hI : IC σ)  (k : Nat) (hk : k < 16) : CtR l G yX9_visited cX9_visited 3 none 1 [.ref m, .int (nI k)] S m none (oVisited σ k) := by
  have hm := hR.1
  have hRF := RF_0 hR
  refine Ct_of (by decide) (cat1_all (by repeat first | exact trivial | refine ⟨by first | rfl | exact isR_c (isR_q _), ?_⟩)) (Nat.le_of_ble_eq_true rfl) hl fun X C hXl hin => ?_
  subst hXl
  dsimp only [lArgs, Nat.reduceAdd]
  by_cases hb : σ.1 13 k = 0
  · have e5 := vis5_t hb
    refine V_aload_n C dX9_visited_0 rfl (by first | exact isR_r _ | exact isR_q _ | exact isR_n) ?_
    refine V_mArr C 13 hRF rfl fl_X9_43 (by decide) dX9_visited_1 (fun a1 ha1 => ?_)
    refine V_iload_n C dX9_visited_4 rfl ?_
    refine V_mLdZ C 13 hRF rfl rfl ha1 (by first | assumption | (show _ < _; omega)) rfl dX9_visited_5 ?_
    refine V_istore_n C dX9_visited_6 (by decide) rfl ?_
    simp only [lset1, lset2, List.filter_cons, List.filter_nil, Nat.reduceBEq, Nat.reduceAdd, Bool.not_true, Bool.not_false, Bool.and_true, Bool.and_false, Bool.true_and, Bool.false_and, if_true, if_false, Bool.false_eq_true, reduceIte]
    refine V_aload_n C dX9_visited_7 rfl (by first | exact isR_r _ | exact isR_q _ | exact isR_n) ?_
    refine V_mArr C 13 hRF rfl fl_X9_43 (by decide) dX9_visited_8 (fun a8 ha8 => ?_)
    refine V_iload_n C dX9_visited_11 rfl ?_
    refine V_iconst C (v := 0) dX9_visited_12 (by decide) ?_
    refine V_mStZ C 13 hRF rfl rfl ha8 (by first | assumption | (show _ < _; omega)) (by first | exact Or.inl rfl | exact Or.inr rfl | assumption) dX9_visited_13 (fun T hRF => ?_)
    refine V_aload_n C dX9_visited_14 rfl (by first | exact isR_r _ | exact isR_q _ | exact isR_n) ?_
    refine V_mArr C 14 hRF rfl fl_X9_47 (by decide) dX9_visited_15 (fun a15 ha15 => ?_)
    refine V_iload_n C dX9_visited_18 rfl ?_
    refine V_dup2 C dX9_visited_19 rfl rfl ?_
    refine V_mLd C 14 hRF rfl rfl ha15 (by first | assumption | (show _ < _; omega)) rfl dX9_visited_20 ?_
    refine V_iload_n C dX9_visited_21 rfl ?_
    refine V_if_eq C (tgt := 29) dX9_visited_22 (by decide) (fun h22 => ?_) (fun h22 => ?_)
    · refine V_iconst C (v := 0) dX9_visited_29 (by decide) ?_
      refine V_iadd C dX9_visited_30 ?_
      refine V_mSt C 14 hRF rfl rfl ha15 (by first | assumption | (show _ < _; omega)) dX9_visited_31 (fun T hRF => ?_)
      refine V_aload_n C dX9_visited_32 rfl (by first | exact isR_r _ | exact isR_q _ | exact isR_n) ?_
      refine V_mArr C 15 hRF rfl fl_X9_50 (by decide) dX9_visited_33 (fun a33 ha33 => ?_)
      refine V_iload_n C dX9_visited_36 rfl ?_
      refine V_dup2 C dX9_visited_37 rfl rfl ?_
      refine V_mLd C 15 hRF rfl rfl ha33 (by first | assumption | (show _ < _; omega)) rfl dX9_visited_38 ?_
      refine V_iload_n C dX9_visited_39 rfl ?_
      refine V_if_eq C (tgt := 47) dX9_visited_40 (by decide) (fun h40 => ?_) (fun h40 => ?_)
      · refine V_iconst C (v := 1) dX9_visited_47 (by decide) ?_
        refine V_iadd C dX9_visited_48 ?_
        refine V_mSt C 15 hRF rfl rfl ha33 (by first | assumption | (show _ < _; omega)) dX9_visited_49 (fun T hRF => ?_)
        refine V_aload_n C dX9_visited_50 rfl (by first | exact isR_r _ | exact isR_q _ | exact isR_n) ?_
        refine V_mArr C 16 hRF rfl fl_X9_53 (by decide) dX9_visited_51 (fun a51 ha51 => ?_)
        refine V_iload_n C dX9_visited_54 rfl ?_
        refine V_iload_n C dX9_visited_55 rfl ?_
        refine V_if_eq C (tgt := 70) dX9_visited_56 (by decide) (fun h56 => ?_) (fun h56 => ?_)
        · refine V_iconst C (v := 0) dX9_visited_70 (by decide) ?_
          refine V_mSt C 16 hRF rfl rfl ha51 (by first | assumption | (show _ < _; omega)) dX9_visited_71 (fun T hRF => ?_)
          refine V_aload_n C dX9_visited_72 rfl (by first | exact isR_r _ | exact isR_q _ | exact isR_n) ?_
          refine V_mArr C 17 hRF rfl fl_X9_56 (by decide) dX9_visited_73 (fun a73 ha73 => ?_)
          refine V_iload_n C dX9_visited_76 rfl ?_
          refine V_iload_n C dX9_visited_77 rfl ?_
          refine V_if_eq C (tgt := 85) dX9_visited_78 (by decide) (fun h78 => ?_) (fun h78 => ?_)
          · refine V_aload_n C dX9_visited_85 rfl (by first | exact isR_r _ | exact isR_q _ | exact isR_n) ?_
            refine V_mArr C 17 hRF rfl fl_X9_56 (by decide) dX9_visited_86 (fun a86 ha86 => ?_)
            refine V_iload_n C dX9_visited_89 rfl ?_
            refine V_mLd C 17 hRF rfl rfl ha86 (by first | assumption | (show _ < _; omega)) rfl dX9_visited_90 ?_
            refine V_iconst C (v := 1) dX9_visited_91 (by decide) ?_
            refine V_iadd C dX9_visited_92 ?_
            refine V_mSt C 17 hRF rfl rfl ha73 (by first | assumption | (show _ < _; omega)) dX9_visited_93 (fun T hRF => ?_)
            rw [← e5] at hRF
            refine V_aload_n C dX9_visited_94 rfl (by first | exact isR_r _ | exact isR_q _ | exact isR_n) ?_
            refine V_mArr C 18 hRF rfl fl_X9_59 (by decide) dX9_visited_95 (fun a95 ha95 => ?_)
            refine V_iload_n C dX9_visited_98 rfl ?_
            refine V_aload_n C dX9_visited_99 rfl (by first | exact isR_r _ | exact isR_q _ | exact isR_n) ?_
            refine V_mArr C 17 hRF rfl fl_X9_56 (by decide) dX9_visited_100 (fun a100 ha100 => ?_)
            refine V_iload_n C dX9_visited_103 rfl ?_
            refine V_mLd C 17 hRF rfl rfl ha100 (by first | assumption | (show _ < _; omega)) rfl dX9_visited_104 ?_
            refine V_iconst C (v := 3) dX9_visited_105 (by decide) ?_
            refine V_icmp_ge C (tgt := 128) dX9_visited_106 (by decide) (fun h106 => ?_) (fun h106 => ?_)
            · refine V_iconst C (v := 1) dX9_visited_128 (by decide) ?_
              refine V_goto C (tgt := 133) dX9_visited_129 (by decide) ?_
              refine V_mStZ C 18 hRF rfl rfl ha95 (by first | assumption | (show _ < _; omega)) (by first | exact Or.inl rfl | exact Or.inr rfl | assumption) dX9_visited_133 (fun T hRF => ?_)
              refine V_vret C (by first | omega | decide) (by first | omega | decide) dX9_visited_134 ?_
              first | exact ⟨rfl, RF_eq hRF (congrArg (up2 (vis5 σ k) 18 k) (Eq.symm (pI9_t (Or.inl h106)))) rfl⟩ | exact ⟨rfl, RF_eq hRF (congrArg (up2 (vis5 σ k) 18 k) (Eq.symm (pI9_f (fun q => Or.elim q h106 (fun z => z.1 h115))))) rfl⟩ | exact ⟨rfl, RF_eq hRF (congrArg (up2 (vis5 σ k) 18 k) (Eq.symm (pI9_f (fun q => Or.elim q h106 (fun z => z.2 h125))))) rfl⟩ | exact ⟨rfl, RF_eq hRF (congrArg (up2 (vis5 σ k) 18 k) (Eq.symm (pI9_t (Or.inr ⟨h115, h125⟩)))) rfl⟩
            · refine V_aload_n C dX9_visited_109 rfl (by first | exact isR_r _ | exact isR_q _ | exact isR_n) ?_
              refine V_mArr C 18 hRF rfl fl_X9_59 (by decide) dX9_visited_110 (fun a110 ha110 => ?_)
              refine V_iload_n C dX9_visited_113 rfl ?_
              refine V_mLdZ C 18 hRF rfl rfl ha110 (by first | assumption | (show _ < _; omega)) rfl dX9_visited_114 ?_
              refine V_if_eq C (tgt := 132) dX9_visited_115 (by decide) (fun h115 => ?_) (fun h115 => ?_)
              · refine V_iconst C (v := 0) dX9_visited_132 (by decide) ?_
                refine V_mStZ C 18 hRF rfl rfl ha95 (by first | assumption | (show _ < _; omega)) (by first | exact Or.inl rfl | exact Or.inr rfl | assumption) dX9_visited_133 (fun T hRF => ?_)
                refine V_vret C (by first | omega | decide) (by first | omega | decide) dX9_visited_134 ?_
                first | exact ⟨rfl, RF_eq hRF (congrArg (up2 (vis5 σ k) 18 k) (Eq.symm (pI9_t (Or.inl h106)))) rfl⟩ | exact ⟨rfl, RF_eq hRF (congrArg (up2 (vis5 σ k) 18 k) (Eq.symm (pI9_f (fun q => Or.elim q h106 (fun z => z.1 h115))))) rfl⟩ | exact ⟨rfl, RF_eq hRF (congrArg (up2 (vis5 σ k) 18 k) (Eq.symm (pI9_f (fun q => Or.elim q h106 (fun z => z.2 h125))))) rfl⟩ | exact ⟨rfl, RF_eq hRF (congrArg (up2 (vis5 σ k) 18 k) (Eq.symm (pI9_t (Or.inr ⟨h115, h125⟩)))) rfl⟩
              · refine V_aload_n C dX9_visited_118 rfl (by first | exact isR_r _ | exact isR_q _ | exact isR_n) ?_
                refine V_mArr C 16 hRF rfl fl_X9_53 (by decide) dX9_visited_119 (fun a119 ha119 => ?_)
                refine V_iload_n C dX9_visited_122 rfl ?_
                refine V_mLd C 16 hRF rfl rfl ha119 (by first | assumption | (show _ < _; omega)) rfl dX9_visited_123 ?_
                refine V_iconst C (v := 3) dX9_visited_124 (by decide) ?_
                refine V_icmp_ge C (tgt := 132) dX9_visited_125 (by decide) (fun h125 => ?_) (fun h125 => ?_)
                · refine V_iconst C (v := 0) dX9_visited_132 (by decide) ?_
                  refine V_mStZ C 18 hRF rfl rfl ha95 (by first | assumption | (show _ < _; omega)) (by first | exact Or.inl rfl | exact Or.inr rfl | assumption) dX9_visited_133 (fun T hRF => ?_)
                  refine V_vret C (by first | omega | decide) (by first | omega | decide) dX9_visited_134 ?_
                  first | exact ⟨rfl, RF_eq hRF (congrArg (up2 (vis5 σ k) 18 k) (Eq.symm (pI9_t (Or.inl h106)))) rfl⟩ | exact ⟨rfl, RF_eq hRF (congrArg (up2 (vis5 σ k) 18 k) (Eq.symm (pI9_f (fun q => Or.elim q h106 (fun z => z.1 h115))))) rfl⟩ | exact ⟨rfl, RF_eq hRF (congrArg (up2 (vis5 σ k) 18 k) (Eq.symm (pI9_f (fun q => Or.elim q h106 (fun z => z.2 h125))))) rfl⟩ | exact ⟨rfl, RF_eq hRF (congrArg (up2 (vis5 σ k) 18 k) (Eq.symm (pI9_t (Or.inr ⟨h115, h125⟩)))) rfl⟩
                · refine V_iconst C (v := 1) dX9_visited_128 (by decide) ?_
                  refine V_goto C (tgt := 133) dX9_visited_129 (by decide) ?_
                  refine V_mStZ C 18 hRF rfl rfl ha95 (by first | assumption | (show _ < _; omega)) (by first | exact Or.inl rfl | exact Or.inr rfl | assumption) dX9_visited_133 (fun T hRF => ?_)
                  refine V_vret C (by first | omega | decide) (by first | omega | decide) dX9_visited_134 ?_
                  first | exact ⟨rfl, RF_eq hRF (congrArg (up2 (vis5 σ k) 18 k) (Eq.symm (pI9_t (Or.inl h106)))) rfl⟩ | exact ⟨rfl, RF_eq hRF (congrArg (up2 (vis5 σ k) 18 k) (Eq.symm (pI9_f (fun q => Or.elim q h106 (fun z => z.1 h115))))) rfl⟩ | exact ⟨rfl, RF_eq hRF (congrArg (up2 (vis5 σ k) 18 k) (Eq.symm (pI9_f (fun q => Or.elim q h106 (fun z => z.2 h125))))) rfl⟩ | exact ⟨rfl, RF_eq hRF (congrArg (up2 (vis5 σ k) 18 k) (Eq.symm (pI9_t (Or.inr ⟨h115, h125⟩)))) rfl⟩
          · exact absurd hb h78
        · exact absurd hb h56
      · exact absurd hb h40
    · exact absurd hb h22
  · have e5 := vis5_f hb
    refine V_aload_n C dX9_visited_0 rfl (by first | exact isR_r _ | exact isR_q _ | exact isR_n) ?_
    refine V_mArr C 13 hRF rfl fl_X9_43 (by decide) dX9_visited_1 (fun a1 ha1 => ?_)
    refine V_iload_n C dX9_visited_4 rfl ?_
    refine V_mLdZ C 13 hRF rfl rfl ha1 (by first | assumption | (show _ < _; omega)) rfl dX9_visited_5 ?_
    refine V_istore_n C dX9_visited_6 (by decide) rfl ?_
    simp only [lset1, lset2, List.filter_cons, List.filter_nil, Nat.reduceBEq, Nat.reduceAdd, Bool.not_true, Bool.not_false, Bool.and_true, Bool.and_false, Bool.true_and, Bool.false_and, if_true, if_false, Bool.false_eq_true, reduceIte]
    refine V_aload_n C dX9_visited_7 rfl (by first | exact isR_r _ | exact isR_q _ | exact isR_n) ?_
    refine V_mArr C 13 hRF rfl fl_X9_43 (by decide) dX9_visited_8 (fun a8 ha8 => ?_)
    refine V_iload_n C dX9_visited_11 rfl ?_
    refine V_iconst C (v := 0) dX9_visited_12 (by decide) ?_
    refine V_mStZ C 13 hRF rfl rfl ha8 (by first | assumption | (show _ < _; omega)) (by first | exact Or.inl rfl | exact Or.inr rfl | assumption) dX9_visited_13 (fun T hRF => ?_)
    refine V_aload_n C dX9_visited_14 rfl (by first | exact isR_r _ | exact isR_q _ | exact isR_n) ?_
    refine V_mArr C 14 hRF rfl fl_X9_47 (by decide) dX9_visited_15 (fun a15 ha15 => ?_)
    refine V_iload_n C dX9_visited_18 rfl ?_
    refine V_dup2 C dX9_visited_19 rfl rfl ?_
    refine V_mLd C 14 hRF rfl rfl ha15 (by first | assumption | (show _ < _; omega)) rfl dX9_visited_20 ?_
    refine V_iload_n C dX9_visited_21 rfl ?_
    refine V_if_eq C (tgt := 29) dX9_visited_22 (by decide) (fun h22 => ?_) (fun h22 => ?_)
    · exact absurd h22 hb
    · refine V_iconst C (v := 1) dX9_visited_25 (by decide) ?_
      refine V_goto C (tgt := 30) dX9_visited_26 (by decide) ?_
      refine V_iadd C dX9_visited_30 ?_
      refine V_mSt C 14 hRF rfl rfl ha15 (by first | assumption | (show _ < _; omega)) dX9_visited_31 (fun T hRF => ?_)
      refine V_aload_n C dX9_visited_32 rfl (by first | exact isR_r _ | exact isR_q _ | exact isR_n) ?_
      refine V_mArr C 15 hRF rfl fl_X9_50 (by decide) dX9_visited_33 (fun a33 ha33 => ?_)
      refine V_iload_n C dX9_visited_36 rfl ?_
      refine V_dup2 C dX9_visited_37 rfl rfl ?_
      refine V_mLd C 15 hRF rfl rfl ha33 (by first | assumption | (show _ < _; omega)) rfl dX9_visited_38 ?_
      refine V_iload_n C dX9_visited_39 rfl ?_
      refine V_if_eq C (tgt := 47) dX9_visited_40 (by decide) (fun h40 => ?_) (fun h40 => ?_)
      · exact absurd h40 hb
      · refine V_iconst C (v := 0) dX9_visited_43 (by decide) ?_
        refine V_goto C (tgt := 48) dX9_visited_44 (by decide) ?_
        refine V_iadd C dX9_visited_48 ?_
        refine V_mSt C 15 hRF rfl rfl ha33 (by first | assumption | (show _ < _; omega)) dX9_visited_49 (fun T hRF => ?_)
        refine V_aload_n C dX9_visited_50 rfl (by first | exact isR_r _ | exact isR_q _ | exact isR_n) ?_
        refine V_mArr C 16 hRF rfl fl_X9_53 (by decide) dX9_visited_51 (fun a51 ha51 => ?_)
        refine V_iload_n C dX9_visited_54 rfl ?_
        refine V_iload_n C dX9_visited_55 rfl ?_
        refine V_if_eq C (tgt := 70) dX9_visited_56 (by decide) (fun h56 => ?_) (fun h56 => ?_)
        · exact absurd h56 hb
        · refine V_aload_n C dX9_visited_59 rfl (by first | exact isR_r _ | exact isR_q _ | exact isR_n) ?_
          refine V_mArr C 16 hRF rfl fl_X9_53 (by decide) dX9_visited_60 (fun a60 ha60 => ?_)
          refine V_iload_n C dX9_visited_63 rfl ?_
          refine V_mLd C 16 hRF rfl rfl ha60 (by first | assumption | (show _ < _; omega)) rfl dX9_visited_64 ?_
          refine V_iconst C (v := 1) dX9_visited_65 (by decide) ?_
          refine V_iadd C dX9_visited_66 ?_
          refine V_goto C (tgt := 71) dX9_visited_67 (by decide) ?_
          refine V_mSt C 16 hRF rfl rfl ha51 (by first | assumption | (show _ < _; omega)) dX9_visited_71 (fun T hRF => ?_)
          refine V_aload_n C dX9_visited_72 rfl (by first | exact isR_r _ | exact isR_q _ | exact isR_n) ?_
          refine V_mArr C 17 hRF rfl fl_X9_56 (by decide) dX9_visited_73 (fun a73 ha73 => ?_)
          refine V_iload_n C dX9_visited_76 rfl ?_
          refine V_iload_n C dX9_visited_77 rfl ?_
          refine V_if_eq C (tgt := 85) dX9_visited_78 (by decide) (fun h78 => ?_) (fun h78 => ?_)
          · exact absurd h78 hb
          · refine V_iconst C (v := 0) dX9_visited_81 (by decide) ?_
            refine V_goto C (tgt := 93) dX9_visited_82 (by decide) ?_
            refine V_mSt C 17 hRF rfl rfl ha73 (by first | assumption | (show _ < _; omega)) dX9_visited_93 (fun T hRF => ?_)
            rw [← e5] at hRF
            refine V_aload_n C dX9_visited_94 rfl (by first | exact isR_r _ | exact isR_q _ | exact isR_n) ?_
            refine V_mArr C 18 hRF rfl fl_X9_59 (by decide) dX9_visited_95 (fun a95 ha95 => ?_)
            refine V_iload_n C dX9_visited_98 rfl ?_
            refine V_aload_n C dX9_visited_99 rfl (by first | exact isR_r _ | exact isR_q _ | exact isR_n) ?_
            refine V_mArr C 17 hRF rfl fl_X9_56 (by decide) dX9_visited_100 (fun a100 ha100 => ?_)
            refine V_iload_n C dX9_visited_103 rfl ?_
            refine V_mLd C 17 hRF rfl rfl ha100 (by first | assumption | (show _ < _; omega)) rfl dX9_visited_104 ?_
            refine V_iconst C (v := 3) dX9_visited_105 (by decide) ?_
            refine V_icmp_ge C (tgt := 128) dX9_visited_106 (by decide) (fun h106 => ?_) (fun h106 => ?_)
            · refine V_iconst C (v := 1) dX9_visited_128 (by decide) ?_
              refine V_goto C (tgt := 133) dX9_visited_129 (by decide) ?_
              refine V_mStZ C 18 hRF rfl rfl ha95 (by first | assumption | (show _ < _; omega)) (by first | exact Or.inl rfl | exact Or.inr rfl | assumption) dX9_visited_133 (fun T hRF => ?_)
              refine V_vret C (by first | omega | decide) (by first | omega | decide) dX9_visited_134 ?_
              first | exact ⟨rfl, RF_eq hRF (congrArg (up2 (vis5 σ k) 18 k) (Eq.symm (pI9_t (Or.inl h106)))) rfl⟩ | exact ⟨rfl, RF_eq hRF (congrArg (up2 (vis5 σ k) 18 k) (Eq.symm (pI9_f (fun q => Or.elim q h106 (fun z => z.1 h115))))) rfl⟩ | exact ⟨rfl, RF_eq hRF (congrArg (up2 (vis5 σ k) 18 k) (Eq.symm (pI9_f (fun q => Or.elim q h106 (fun z => z.2 h125))))) rfl⟩ | exact ⟨rfl, RF_eq hRF (congrArg (up2 (vis5 σ k) 18 k) (Eq.symm (pI9_t (Or.inr ⟨h115, h125⟩)))) rfl⟩
            · refine V_aload_n C dX9_visited_109 rfl (by first | exact isR_r _ | exact isR_q _ | exact isR_n) ?_
              refine V_mArr C 18 hRF rfl fl_X9_59 (by decide) dX9_visited_110 (fun a110 ha110 => ?_)
              refine V_iload_n C dX9_visited_113 rfl ?_
              refine V_mLdZ C 18 hRF rfl rfl ha110 (by first | assumption | (show _ < _; omega)) rfl dX9_visited_114 ?_
              refine V_if_eq C (tgt := 132) dX9_visited_115 (by decide) (fun h115 => ?_) (fun h115 => ?_)
              · refine V_iconst C (v := 0) dX9_visited_132 (by decide) ?_
                refine V_mStZ C 18 hRF rfl rfl ha95 (by first | assumption | (show _ < _; omega)) (by first | exact Or.inl rfl | exact Or.inr rfl | assumption) dX9_visited_133 (fun T hRF => ?_)
                refine V_vret C (by first | omega | decide) (by first | omega | decide) dX9_visited_134 ?_
                first | exact ⟨rfl, RF_eq hRF (congrArg (up2 (vis5 σ k) 18 k) (Eq.symm (pI9_t (Or.inl h106)))) rfl⟩ | exact ⟨rfl, RF_eq hRF (congrArg (up2 (vis5 σ k) 18 k) (Eq.symm (pI9_f (fun q => Or.elim q h106 (fun z => z.1 h115))))) rfl⟩ | exact ⟨rfl, RF_eq hRF (congrArg (up2 (vis5 σ k) 18 k) (Eq.symm (pI9_f (fun q => Or.elim q h106 (fun z => z.2 h125))))) rfl⟩ | exact ⟨rfl, RF_eq hRF (congrArg (up2 (vis5 σ k) 18 k) (Eq.symm (pI9_t (Or.inr ⟨h115, h125⟩)))) rfl⟩
              · refine V_aload_n C dX9_visited_118 rfl (by first | exact isR_r _ | exact isR_q _ | exact isR_n) ?_
                refine V_mArr C 16 hRF rfl fl_X9_53 (by decide) dX9_visited_119 (fun a119 ha119 => ?_)
                refine V_iload_n C dX9_visited_122 rfl ?_
                refine V_mLd C 16 hRF rfl rfl ha119 (by first | assumption | (show _ < _; omega)) rfl dX9_visited_123 ?_
                refine V_iconst C (v := 3) dX9_visited_124 (by decide) ?_
                refine V_icmp_ge C (tgt := 132) dX9_visited_125 (by decide) (fun h125 => ?_) (fun h125 => ?_)
                · refine V_iconst C (v := 0) dX9_visited_132 (by decide) ?_
                  refine V_mStZ C 18 hRF rfl rfl ha95 (by first | assumption | (show _ < _; omega)) (by first | exact Or.inl rfl | exact Or.inr rfl | assumption) dX9_visited_133 (fun T hRF => ?_)
                  refine V_vret C (by first | omega | decide) (by first | omega | decide) dX9_visited_134 ?_
                  first | exact ⟨rfl, RF_eq hRF (congrArg (up2 (vis5 σ k) 18 k) (Eq.symm (pI9_t (Or.inl h106)))) rfl⟩ | exact ⟨rfl, RF_eq hRF (congrArg (up2 (vis5 σ k) 18 k) (Eq.symm (pI9_f (fun q => Or.elim q h106 (fun z => z.1 h115))))) rfl⟩ | exact ⟨rfl, RF_eq hRF (congrArg (up2 (vis5 σ k) 18 k) (Eq.symm (pI9_f (fun q => Or.elim q h106 (fun z => z.2 h125))))) rfl⟩ | exact ⟨rfl, RF_eq hRF (congrArg (up2 (vis5 σ k) 18 k) (Eq.symm (pI9_t (Or.inr ⟨h115, h125⟩)))) rfl⟩
                · refine V_iconst C (v := 1) dX9_visited_128 (by decide) ?_
                  refine V_goto C (tgt := 133) dX9_visited_129 (by decide) ?_
                  refine V_mStZ C 18 hRF rfl rfl ha95 (by first | assumption | (show _ < _; omega)) (by first | exact Or.inl rfl | exact Or.inr rfl | assumption) dX9_visited_133 (fun T hRF => ?_)
                  refine V_vret C (by first | omega | decide) (by first | omega | decide) dX9_visited_134 ?_
                  first | exact ⟨rfl, RF_eq hRF (congrArg (up2 (vis5 σ k) 18 k) (Eq.symm (pI9_t (Or.inl h106)))) rfl⟩ | exact ⟨rfl, RF_eq hRF (congrArg (up2 (vis5 σ k) 18 k) (Eq.symm (pI9_f (fun q => Or.elim q h106 (fun z => z.1 h115))))) rfl⟩ | exact ⟨rfl, RF_eq hRF (congrArg (up2 (vis5 σ k) 18 k) (Eq.symm (pI9_f (fun q => Or.elim q h106 (fun z => z.2 h125))))) rfl⟩ | exact ⟨rfl, RF_eq hRF (congrArg (up2 (vis5 σ k) 18 k) (Eq.symm (pI9_t (Or.inr ⟨h115, h125⟩)))) rfl⟩
theorem c_X9_passes (l : Launch) (hl : l.stackTraces = false) (G : gG) (S : sS) (m : Nat) (σ : aS) (hR : RelR S m σ) (hI : IC σ) (hS : IS σ) (hd : cN σ 0 < 12000) : CtR l G yX9_passes cX9_passes 3 none 4 [.ref m] S m none (oDay σ) := by
  have hm := hR.1
  have hRF := RF_0 hR
  obtain ⟨n, hn⟩ : ∃ n, n = cN σ 1 := ⟨_, rfl⟩
  have hn16 : n ≤ 16 := by rw [hn]; exact hI.2.1.2
  have en : σ.2 1 = nI n := by rw [hn]; exact hI.2.1.1
  refine Ct_of (by decide) (cat1_all (by repeat first | exact trivial | refine ⟨by first | rfl | exact isR_c (isR_q _), ?_⟩)) (Nat.le_of_ble_eq_true rfl) hl fun X C hXl hin => ?_
  subst hXl
  dsimp only [lArgs, Nat.reduceAdd]
  have loop2 : ∀ (t j : Nat) (τ : aS) (T : sS) (hRF : RF S T m τ.1 τ.2) (hI : IC τ) (hS : IS τ) (en : τ.2 1 = nI n) (hn : n = cN τ 1), j + t = n → dRun t j τ = oDay σ → V X G 3 (eQ X G (fun v T => v = none ∧ RF S T m (oDay σ).1 (oDay σ).2) (fun _ _ => False) 0 0) 0 0 75 [(1, false, .int (nI j)), (0, false, .ref m)] [] T := by
    intro t
    induction t with
    | zero =>
      intro j τ T hRF hI hS en hn hj e
      obtain rfl : j = n := by omega
      have e : τ = oDay σ := e
      refine V_iload_n C dX9_passes_75 rfl ?_
      refine V_aload_n C dX9_passes_76 rfl (by first | exact isR_r _ | exact isR_q _ | exact isR_n) ?_
      refine V_mNum C 1 hRF fl_X9_162 (by decide) dX9_passes_77 en ?_
      refine V_igeN C (tgt := 166) (by omega) (by omega) dX9_passes_80 (by decide) (fun h80 => ?_) (fun h80 => ?_)
      · refine V_vret C (by first | omega | decide) (by first | omega | decide) dX9_passes_166 ?_
        exact ⟨rfl, e ▸ hRF⟩
      · omega
    | succ t ih =>
      intro j τ T hRF hI hS en hn hj e
      have hj16 : j < 16 := by omega
      have e : dRun t (j + 1) (dStep τ j) = oDay σ := e
      have fin : ∀ T, RF S T m (dStep τ j).1 (dStep τ j).2 → V X G 3 (eQ X G (fun v T => v = none ∧ RF S T m (oDay σ).1 (oDay σ).2) (fun _ _ => False) 0 0) 0 0 160 [(1, false, .int (nI j)), (0, false, .ref m)] [] T := by
        intro T hRF
        refine V_incN C dX9_passes_160 rfl (by decide) rfl ?_
        simp only [lset1, lset2, List.filter_cons, List.filter_nil, Nat.reduceBEq, Nat.reduceAdd, Bool.not_true, Bool.not_false, Bool.and_true, Bool.and_false, Bool.true_and, Bool.false_and, if_true, if_false, Bool.false_eq_true, reduceIte]
        refine V_goto C (tgt := 75) dX9_passes_163 (by decide) ?_
        refine V_sub ?_ (ih (j + 1) (dStep τ j) T hRF (dStep_I hI hS).1 (dStep_I hI hS).2 (by rw [dStep_2]; exact en) (by unfold cN; rw [dStep_2]; exact hn) (by omega) e)
        exact ⟨rfl, rfl, trivial⟩
      rcases hI.2.2.2.2.2.2.2 j (by omega) with q | ⟨s, hs, q⟩
      · have ed : dStep τ j = τ := iteP_t q
        refine V_iload_n C dX9_passes_75 rfl ?_
        refine V_aload_n C dX9_passes_76 rfl (by first | exact isR_r _ | exact isR_q _ | exact isR_n) ?_
        refine V_mNum C 1 hRF fl_X9_162 (by decide) dX9_passes_77 en ?_
        refine V_igeN C (tgt := 166) (by omega) (by omega) dX9_passes_80 (by decide) (fun h80 => ?_) (fun h80 => ?_)
        · omega
        · refine V_aload_n C dX9_passes_83 rfl (by first | exact isR_r _ | exact isR_q _ | exact isR_n) ?_
          refine V_mArr C 10 hRF rfl fl_X9_34 (by decide) dX9_passes_84 (fun a84 ha84 => ?_)
          refine V_iload_n C dX9_passes_87 rfl ?_
          refine V_mLd C 10 hRF rfl rfl ha84 (by first | assumption | (show _ < _; omega)) q dX9_passes_88 ?_
          refine V_iconst C (v := (-1)) dX9_passes_89 (by decide) ?_
          refine V_icmp_eq C (tgt := 160) dX9_passes_90 (by decide) (fun h90 => ?_) (fun h90 => ?_)
          · refine V_sub ?_ (fin T (by rw [ed]; exact hRF))
            exact ⟨rfl, rfl, trivial⟩
          · exact absurd rfl h90
      · have hs100 : s < 100 := by have := hI.2.2.2.2.2.1.2; omega
        have q9 : ¬ τ.1 10 j = -1 := by rw [q]; exact nI_ne_m1 (by omega)
        have es : nx (τ.1 10 j) = s := by rw [q]; exact nI_clamp (by omega)
        have ed := iteP_f (b := (iteP (¬ mKindOn τ (nI j) (τ.2 0) = 0 ∧ ¬ mKindOn τ (nI j) (τ.2 0) = 2) (oEnds τ j) (iteP (¬ τ.1 12 j ≤ 0 ∧ (τ.2 0 - τ.1 46 (nx (τ.1 10 j))) - (τ.2 0 - τ.1 46 (nx (τ.1 10 j))) / τ.1 12 j * τ.1 12 j = 0) (oVisited τ j) τ))) (a := τ) q9
        have ed : dStep τ j = _ := ed
        rw [es] at ed
        refine V_iload_n C dX9_passes_75 rfl ?_
        refine V_aload_n C dX9_passes_76 rfl (by first | exact isR_r _ | exact isR_q _ | exact isR_n) ?_
        refine V_mNum C 1 hRF fl_X9_162 (by decide) dX9_passes_77 en ?_
        refine V_igeN C (tgt := 166) (by omega) (by omega) dX9_passes_80 (by decide) (fun h80 => ?_) (fun h80 => ?_)
        · omega
        · refine V_aload_n C dX9_passes_83 rfl (by first | exact isR_r _ | exact isR_q _ | exact isR_n) ?_
          refine V_mArr C 10 hRF rfl fl_X9_34 (by decide) dX9_passes_84 (fun a84 ha84 => ?_)
          refine V_iload_n C dX9_passes_87 rfl ?_
          refine V_mLd C 10 hRF rfl rfl ha84 (by first | assumption | (show _ < _; omega)) q dX9_passes_88 ?_
          refine V_iconst C (v := (-1)) dX9_passes_89 (by decide) ?_
          refine V_icmp_eq C (tgt := 160) dX9_passes_90 (by decide) (fun h90 => ?_) (fun h90 => ?_)
          · exact absurd h90 (nI_ne_m1 (by omega))
          · refine V_aload_n C dX9_passes_93 rfl (by first | exact isR_r _ | exact isR_q _ | exact isR_n) ?_
            refine V_iload_n C dX9_passes_94 rfl ?_
            refine V_aload_n C dX9_passes_95 rfl (by first | exact isR_r _ | exact isR_q _ | exact isR_n) ?_
            refine V_mNum C 0 hRF fl_X9_187 (by decide) dX9_passes_96 rfl ?_
            refine V_fV C (c_X9_kindOn _ hl G T m τ hRF.1 hI (nI j) (τ.2 0)) kv_X9_234 cf_9 (by decide) rfl hRF.1.1 (by decide) (by decide) rfl rfl (Nat.le_of_ble_eq_true rfl) dX9_passes_99 ?_
            dsimp only [Option.toList_some, Option.toList_none, List.cons_append, List.nil_append]
            refine V_istore_n C dX9_passes_102 (by decide) rfl ?_
            simp only [lset1, lset2, List.filter_cons, List.filter_nil, Nat.reduceBEq, Nat.reduceAdd, Bool.not_true, Bool.not_false, Bool.and_true, Bool.and_false, Bool.true_and, Bool.false_and, if_true, if_false, Bool.false_eq_true, reduceIte]
            refine V_iload_n C dX9_passes_103 rfl ?_
            refine V_if_eq C (tgt := 120) dX9_passes_104 (by decide) (fun h104 => ?_) (fun h104 => ?_)
            · refine V_aload_n C dX9_passes_120 rfl (by first | exact isR_r _ | exact isR_q _ | exact isR_n) ?_
              refine V_mArr C 12 hRF rfl fl_X9_40 (by decide) dX9_passes_121 (fun a121 ha121 => ?_)
              refine V_iload_n C dX9_passes_124 rfl ?_
              refine V_mLd C 12 hRF rfl rfl ha121 (by first | assumption | (show _ < _; omega)) rfl dX9_passes_125 ?_
              refine V_if_le C (tgt := 160) dX9_passes_126 (by decide) (fun h126 => ?_) (fun h126 => ?_)
              · refine V_sub ?_ (fin _ ?_)
                exact ⟨rfl, rfl, trivial⟩
                first | exact RF_st (ed.trans (iteP_t ⟨h104, h109⟩)) hRF | exact RF_st (ed.trans ((iteP_f1 h104).trans (iteP_f1 h126))) hRF | exact RF_st (ed.trans ((iteP_f1 h104).trans (iteP_f3 h152))) hRF | exact RF_st (ed.trans ((iteP_f1 h104).trans (iteP_t ⟨h126, h152⟩))) hRF | exact RF_st (ed.trans ((iteP_f2 h109).trans (iteP_f1 h126))) hRF | exact RF_st (ed.trans ((iteP_f2 h109).trans (iteP_f3 h152))) hRF | exact RF_st (ed.trans ((iteP_f2 h109).trans (iteP_t ⟨h126, h152⟩))) hRF
              · refine V_aload_n C dX9_passes_129 rfl (by first | exact isR_r _ | exact isR_q _ | exact isR_n) ?_
                refine V_mNum C 0 hRF fl_X9_187 (by decide) dX9_passes_130 rfl ?_
                refine V_aload_n C dX9_passes_133 rfl (by first | exact isR_r _ | exact isR_q _ | exact isR_n) ?_
                refine V_mArr C 46 hRF rfl fl_X9_131 (by decide) dX9_passes_134 (fun a134 ha134 => ?_)
                refine V_aload_n C dX9_passes_137 rfl (by first | exact isR_r _ | exact isR_q _ | exact isR_n) ?_
                refine V_mArr C 10 hRF rfl fl_X9_34 (by decide) dX9_passes_138 (fun a138 ha138 => ?_)
                refine V_iload_n C dX9_passes_141 rfl ?_
                refine V_mLd C 10 hRF rfl rfl ha138 (by first | assumption | (show _ < _; omega)) q dX9_passes_142 ?_
                refine V_mLd C 46 hRF rfl rfl ha134 (by first | assumption | (show _ < _; omega)) rfl dX9_passes_143 ?_
                refine V_isub C dX9_passes_144 ?_
                refine V_aload_n C dX9_passes_145 rfl (by first | exact isR_r _ | exact isR_q _ | exact isR_n) ?_
                refine V_mArr C 12 hRF rfl fl_X9_40 (by decide) dX9_passes_146 (fun a146 ha146 => ?_)
                refine V_iload_n C dX9_passes_149 rfl ?_
                refine V_mLd C 12 hRF rfl rfl ha146 (by first | assumption | (show _ < _; omega)) rfl dX9_passes_150 ?_
                refine V_irem C dX9_passes_151 (fun z => h126 (by rw [z]; decide)) ?_
                refine V_if_ne C (tgt := 160) dX9_passes_152 (by decide) (fun h152 => ?_) (fun h152 => ?_)
                · refine V_sub ?_ (fin _ ?_)
                  exact ⟨rfl, rfl, trivial⟩
                  first | exact RF_st (ed.trans (iteP_t ⟨h104, h109⟩)) hRF | exact RF_st (ed.trans ((iteP_f1 h104).trans (iteP_f1 h126))) hRF | exact RF_st (ed.trans ((iteP_f1 h104).trans (iteP_f3 h152))) hRF | exact RF_st (ed.trans ((iteP_f1 h104).trans (iteP_t ⟨h126, h152⟩))) hRF | exact RF_st (ed.trans ((iteP_f2 h109).trans (iteP_f1 h126))) hRF | exact RF_st (ed.trans ((iteP_f2 h109).trans (iteP_f3 h152))) hRF | exact RF_st (ed.trans ((iteP_f2 h109).trans (iteP_t ⟨h126, h152⟩))) hRF
                · refine V_aload_n C dX9_passes_155 rfl (by first | exact isR_r _ | exact isR_q _ | exact isR_n) ?_
                  refine V_iload_n C dX9_passes_156 rfl ?_
                  refine V_callV C (c_X9_visited _ hl G T m τ hRF.1 hI j hj16) kv_X9_277 cf_9 (by decide) rfl hRF.1.1 (by decide) (by decide) rfl rfl (Nat.le_of_ble_eq_true rfl) dX9_passes_157 ?_ (fun _ _ h => h.elim)
                  intro v9 T9 hT
                  obtain ⟨rfl, hT⟩ := hT
                  have hRF := RF_tr hRF hT
                  dsimp only [Option.toList_some, Option.toList_none, List.cons_append, List.nil_append]
                  refine V_sub ?_ (fin _ ?_)
                  exact ⟨rfl, rfl, trivial⟩
                  first | exact RF_st (ed.trans (iteP_t ⟨h104, h109⟩)) hRF | exact RF_st (ed.trans ((iteP_f1 h104).trans (iteP_f1 h126))) hRF | exact RF_st (ed.trans ((iteP_f1 h104).trans (iteP_f3 h152))) hRF | exact RF_st (ed.trans ((iteP_f1 h104).trans (iteP_t ⟨h126, h152⟩))) hRF | exact RF_st (ed.trans ((iteP_f2 h109).trans (iteP_f1 h126))) hRF | exact RF_st (ed.trans ((iteP_f2 h109).trans (iteP_f3 h152))) hRF | exact RF_st (ed.trans ((iteP_f2 h109).trans (iteP_t ⟨h126, h152⟩))) hRF
            · refine V_iload_n C dX9_passes_107 rfl ?_
              refine V_iconst C (v := 2) dX9_passes_108 (by decide) ?_
              refine V_icmp_eq C (tgt := 120) dX9_passes_109 (by decide) (fun h109 => ?_) (fun h109 => ?_)
              · refine V_aload_n C dX9_passes_120 rfl (by first | exact isR_r _ | exact isR_q _ | exact isR_n) ?_
                refine V_mArr C 12 hRF rfl fl_X9_40 (by decide) dX9_passes_121 (fun a121 ha121 => ?_)
                refine V_iload_n C dX9_passes_124 rfl ?_
                refine V_mLd C 12 hRF rfl rfl ha121 (by first | assumption | (show _ < _; omega)) rfl dX9_passes_125 ?_
                refine V_if_le C (tgt := 160) dX9_passes_126 (by decide) (fun h126 => ?_) (fun h126 => ?_)
                · refine V_sub ?_ (fin _ ?_)
                  exact ⟨rfl, rfl, trivial⟩
                  first | exact RF_st (ed.trans (iteP_t ⟨h104, h109⟩)) hRF | exact RF_st (ed.trans ((iteP_f1 h104).trans (iteP_f1 h126))) hRF | exact RF_st (ed.trans ((iteP_f1 h104).trans (iteP_f3 h152))) hRF | exact RF_st (ed.trans ((iteP_f1 h104).trans (iteP_t ⟨h126, h152⟩))) hRF | exact RF_st (ed.trans ((iteP_f2 h109).trans (iteP_f1 h126))) hRF | exact RF_st (ed.trans ((iteP_f2 h109).trans (iteP_f3 h152))) hRF | exact RF_st (ed.trans ((iteP_f2 h109).trans (iteP_t ⟨h126, h152⟩))) hRF
                · refine V_aload_n C dX9_passes_129 rfl (by first | exact isR_r _ | exact isR_q _ | exact isR_n) ?_
                  refine V_mNum C 0 hRF fl_X9_187 (by decide) dX9_passes_130 rfl ?_
                  refine V_aload_n C dX9_passes_133 rfl (by first | exact isR_r _ | exact isR_q _ | exact isR_n) ?_
                  refine V_mArr C 46 hRF rfl fl_X9_131 (by decide) dX9_passes_134 (fun a134 ha134 => ?_)
                  refine V_aload_n C dX9_passes_137 rfl (by first | exact isR_r _ | exact isR_q _ | exact isR_n) ?_
                  refine V_mArr C 10 hRF rfl fl_X9_34 (by decide) dX9_passes_138 (fun a138 ha138 => ?_)
                  refine V_iload_n C dX9_passes_141 rfl ?_
                  refine V_mLd C 10 hRF rfl rfl ha138 (by first | assumption | (show _ < _; omega)) q dX9_passes_142 ?_
                  refine V_mLd C 46 hRF rfl rfl ha134 (by first | assumption | (show _ < _; omega)) rfl dX9_passes_143 ?_
                  refine V_isub C dX9_passes_144 ?_
                  refine V_aload_n C dX9_passes_145 rfl (by first | exact isR_r _ | exact isR_q _ | exact isR_n) ?_
                  refine V_mArr C 12 hRF rfl fl_X9_40 (by decide) dX9_passes_146 (fun a146 ha146 => ?_)
                  refine V_iload_n C dX9_passes_149 rfl ?_
                  refine V_mLd C 12 hRF rfl rfl ha146 (by first | assumption | (show _ < _; omega)) rfl dX9_passes_150 ?_
                  refine V_irem C dX9_passes_151 (fun z => h126 (by rw [z]; decide)) ?_
                  refine V_if_ne C (tgt := 160) dX9_passes_152 (by decide) (fun h152 => ?_) (fun h152 => ?_)
                  · refine V_sub ?_ (fin _ ?_)
                    exact ⟨rfl, rfl, trivial⟩
                    first | exact RF_st (ed.trans (iteP_t ⟨h104, h109⟩)) hRF | exact RF_st (ed.trans ((iteP_f1 h104).trans (iteP_f1 h126))) hRF | exact RF_st (ed.trans ((iteP_f1 h104).trans (iteP_f3 h152))) hRF | exact RF_st (ed.trans ((iteP_f1 h104).trans (iteP_t ⟨h126, h152⟩))) hRF | exact RF_st (ed.trans ((iteP_f2 h109).trans (iteP_f1 h126))) hRF | exact RF_st (ed.trans ((iteP_f2 h109).trans (iteP_f3 h152))) hRF | exact RF_st (ed.trans ((iteP_f2 h109).trans (iteP_t ⟨h126, h152⟩))) hRF
                  · refine V_aload_n C dX9_passes_155 rfl (by first | exact isR_r _ | exact isR_q _ | exact isR_n) ?_
                    refine V_iload_n C dX9_passes_156 rfl ?_
                    refine V_callV C (c_X9_visited _ hl G T m τ hRF.1 hI j hj16) kv_X9_277 cf_9 (by decide) rfl hRF.1.1 (by decide) (by decide) rfl rfl (Nat.le_of_ble_eq_true rfl) dX9_passes_157 ?_ (fun _ _ h => h.elim)
                    intro v9 T9 hT
                    obtain ⟨rfl, hT⟩ := hT
                    have hRF := RF_tr hRF hT
                    dsimp only [Option.toList_some, Option.toList_none, List.cons_append, List.nil_append]
                    refine V_sub ?_ (fin _ ?_)
                    exact ⟨rfl, rfl, trivial⟩
                    first | exact RF_st (ed.trans (iteP_t ⟨h104, h109⟩)) hRF | exact RF_st (ed.trans ((iteP_f1 h104).trans (iteP_f1 h126))) hRF | exact RF_st (ed.trans ((iteP_f1 h104).trans (iteP_f3 h152))) hRF | exact RF_st (ed.trans ((iteP_f1 h104).trans (iteP_t ⟨h126, h152⟩))) hRF | exact RF_st (ed.trans ((iteP_f2 h109).trans (iteP_f1 h126))) hRF | exact RF_st (ed.trans ((iteP_f2 h109).trans (iteP_f3 h152))) hRF | exact RF_st (ed.trans ((iteP_f2 h109).trans (iteP_t ⟨h126, h152⟩))) hRF
              · refine V_aload_n C dX9_passes_112 rfl (by first | exact isR_r _ | exact isR_q _ | exact isR_n) ?_
                refine V_iload_n C dX9_passes_113 rfl ?_
                refine V_callV C (c_X9_ends _ hl G T m τ hRF.1 hI j (by omega)) kv_X9_249 cf_9 (by decide) rfl hRF.1.1 (by decide) (by decide) rfl rfl (Nat.le_of_ble_eq_true rfl) dX9_passes_114 ?_ (fun _ _ h => h.elim)
                intro v9 T9 hT
                obtain ⟨rfl, hT⟩ := hT
                have hRF := RF_tr hRF hT
                dsimp only [Option.toList_some, Option.toList_none, List.cons_append, List.nil_append]
                refine V_goto C (tgt := 160) dX9_passes_117 (by decide) ?_
                refine V_sub ?_ (fin _ ?_)
                exact ⟨rfl, rfl, trivial⟩
                first | exact RF_st (ed.trans (iteP_t ⟨h104, h109⟩)) hRF | exact RF_st (ed.trans ((iteP_f1 h104).trans (iteP_f1 h126))) hRF | exact RF_st (ed.trans ((iteP_f1 h104).trans (iteP_f3 h152))) hRF | exact RF_st (ed.trans ((iteP_f1 h104).trans (iteP_t ⟨h126, h152⟩))) hRF | exact RF_st (ed.trans ((iteP_f2 h109).trans (iteP_f1 h126))) hRF | exact RF_st (ed.trans ((iteP_f2 h109).trans (iteP_f3 h152))) hRF | exact RF_st (ed.trans ((iteP_f2 h109).trans (iteP_t ⟨h126, h152⟩))) hRF
  have loop1 : ∀ (t j : Nat) (T : sS) (hRF : RF S T m (earnF σ j) σ.2), j + t = n → V X G 3 (eQ X G (fun v T => v = none ∧ RF S T m (oDay σ).1 (oDay σ).2) (fun _ _ => False) 0 0) 0 0 2 [(1, false, .int (nI j)), (0, false, .ref m)] [] T := by
    intro t
    induction t with
    | zero =>
      intro j T hRF hj
      obtain rfl : j = n := by omega
      refine V_iload_n C dX9_passes_2 rfl ?_
      refine V_aload_n C dX9_passes_3 rfl (by first | exact isR_r _ | exact isR_q _ | exact isR_n) ?_
      refine V_mNum C 1 hRF fl_X9_162 (by decide) dX9_passes_4 en ?_
      refine V_igeN C (tgt := 63) (by omega) (by omega) dX9_passes_7 (by decide) (fun h7 => ?_) (fun h7 => ?_)
      · refine V_aload_n C dX9_passes_63 rfl (by first | exact isR_r _ | exact isR_q _ | exact isR_n) ?_
        refine V_dup C dX9_passes_64 (by first | rfl | exact isR_c (isR_q _)) ?_
        refine V_mNum C 0 hRF fl_X9_187 (by decide) dX9_passes_65 rfl ?_
        refine V_iconst C (v := 1) dX9_passes_68 (by decide) ?_
        refine V_iadd C dX9_passes_69 ?_
        refine V_mPut C 0 hRF pl_X9_187 (by decide) dX9_passes_70 (fun T hRF => ?_)
        refine V_iconst C (v := 0) dX9_passes_73 (by decide) ?_
        refine V_istore_n C dX9_passes_74 (by decide) rfl ?_
        simp only [lset1, lset2, List.filter_cons, List.filter_nil, Nat.reduceBEq, Nat.reduceAdd, Bool.not_true, Bool.not_false, Bool.and_true, Bool.and_false, Bool.true_and, Bool.false_and, if_true, if_false, Bool.false_eq_true, reduceIte]
        refine V_sub ?_ (loop2 j 0 (earnF σ j, up1 σ.2 0 (σ.2 0 + 1)) _ hRF (IC_0 (IC_earn hI j) hd) (IS_earn hS j) en hn (by omega) (by rw [hn]; rfl))
        exact ⟨rfl, rfl, trivial⟩
      · omega
    | succ t ih =>
      intro j T hRF hj
      have hj16 : j < 16 := by omega
      by_cases q : earnF σ j 10 j = -1
      · refine V_iload_n C dX9_passes_2 rfl ?_
        refine V_aload_n C dX9_passes_3 rfl (by first | exact isR_r _ | exact isR_q _ | exact isR_n) ?_
        refine V_mNum C 1 hRF fl_X9_162 (by decide) dX9_passes_4 en ?_
        refine V_igeN C (tgt := 63) (by omega) (by omega) dX9_passes_7 (by decide) (fun h7 => ?_) (fun h7 => ?_)
        · omega
        · refine V_aload_n C dX9_passes_10 rfl (by first | exact isR_r _ | exact isR_q _ | exact isR_n) ?_
          refine V_mArr C 10 hRF rfl fl_X9_34 (by decide) dX9_passes_11 (fun a11 ha11 => ?_)
          refine V_iload_n C dX9_passes_14 rfl ?_
          refine V_mLd C 10 hRF rfl rfl ha11 (by first | assumption | (show _ < _; omega)) q dX9_passes_15 ?_
          refine V_iconst C (v := (-1)) dX9_passes_16 (by decide) ?_
          refine V_icmp_eq C (tgt := 57) dX9_passes_17 (by decide) (fun h17 => ?_) (fun h17 => ?_)
          · refine V_incN C dX9_passes_57 rfl (by decide) rfl ?_
            simp only [lset1, lset2, List.filter_cons, List.filter_nil, Nat.reduceBEq, Nat.reduceAdd, Bool.not_true, Bool.not_false, Bool.and_true, Bool.and_false, Bool.true_and, Bool.false_and, if_true, if_false, Bool.false_eq_true, reduceIte]
            refine V_goto C (tgt := 2) dX9_passes_60 (by decide) ?_
            refine V_sub ?_ (ih (j + 1) _ (by rw [earnF_t q]; exact hRF) (by omega))
            exact ⟨rfl, rfl, trivial⟩
          · exact absurd rfl h17
      · obtain ⟨h, hh, eh⟩ := mHome_ix (IC_earn hI j) (IS_earn hS j) (show j < cN (earnF σ j, σ.2) 1 from hn ▸ (by omega : j < n)) q
        have hh10 : h < 10 := by have := (IC_earn hI j).2.2.1.2; omega
        have eh2 : nx (mHomeOf (earnF σ j, σ.2) j) = h := by rw [eh]; exact nI_clamp (by omega)
        refine V_iload_n C dX9_passes_2 rfl ?_
        refine V_aload_n C dX9_passes_3 rfl (by first | exact isR_r _ | exact isR_q _ | exact isR_n) ?_
        refine V_mNum C 1 hRF fl_X9_162 (by decide) dX9_passes_4 en ?_
        refine V_igeN C (tgt := 63) (by omega) (by omega) dX9_passes_7 (by decide) (fun h7 => ?_) (fun h7 => ?_)
        · omega
        · refine V_aload_n C dX9_passes_10 rfl (by first | exact isR_r _ | exact isR_q _ | exact isR_n) ?_
          refine V_mArr C 10 hRF rfl fl_X9_34 (by decide) dX9_passes_11 (fun a11 ha11 => ?_)
          refine V_iload_n C dX9_passes_14 rfl ?_
          refine V_mLd C 10 hRF rfl rfl ha11 (by first | assumption | (show _ < _; omega)) rfl dX9_passes_15 ?_
          refine V_iconst C (v := (-1)) dX9_passes_16 (by decide) ?_
          refine V_icmp_eq C (tgt := 57) dX9_passes_17 (by decide) (fun h17 => ?_) (fun h17 => ?_)
          · exact absurd h17 q
          · refine V_aload_n C dX9_passes_20 rfl (by first | exact isR_r _ | exact isR_q _ | exact isR_n) ?_
            refine V_mArr C 24 hRF rfl fl_X9_74 (by decide) dX9_passes_21 (fun a21 ha21 => ?_)
            refine V_aload_n C dX9_passes_24 rfl (by first | exact isR_r _ | exact isR_q _ | exact isR_n) ?_
            refine V_iload_n C dX9_passes_25 rfl ?_
            refine V_fV C (c_X9_homeOf _ hl G T m (earnF σ j, σ.2) hRF.1 (IC_earn hI j) j (show j < cN (earnF σ j, σ.2) 1 from hn ▸ (by omega : j < n))) kv_X9_227 cf_9 (by decide) rfl hRF.1.1 (by decide) (by decide) rfl rfl (Nat.le_of_ble_eq_true rfl) dX9_passes_26 ?_
            dsimp only [Option.toList_some, Option.toList_none, List.cons_append, List.nil_append]
            rw [eh]
            refine V_dup2 C dX9_passes_29 rfl rfl ?_
            refine V_mLd C 24 hRF rfl rfl ha21 (by first | assumption | (show _ < _; omega)) rfl dX9_passes_30 ?_
            refine V_bipush C (v := 10) dX9_passes_31 (by decide) ?_
            refine V_aload_n C dX9_passes_33 rfl (by first | exact isR_r _ | exact isR_q _ | exact isR_n) ?_
            refine V_iload_n C dX9_passes_34 rfl ?_
            refine V_aload_n C dX9_passes_35 rfl (by first | exact isR_r _ | exact isR_q _ | exact isR_n) ?_
            refine V_mNum C 0 hRF fl_X9_187 (by decide) dX9_passes_36 rfl ?_
            refine V_fV C (c_X9_yearsOn _ hl G T m (earnF σ j, σ.2) hRF.1 j hj16 (σ.2 0)) kv_X9_224 cf_9 (by decide) rfl hRF.1.1 (by decide) (by decide) rfl rfl (Nat.le_of_ble_eq_true rfl) dX9_passes_39 ?_
            dsimp only [Option.toList_some, Option.toList_none, List.cons_append, List.nil_append]
            refine V_iadd C dX9_passes_42 ?_
            refine V_iconst C (v := 5) dX9_passes_43 (by decide) ?_
            refine V_aload_n C dX9_passes_44 rfl (by first | exact isR_r _ | exact isR_q _ | exact isR_n) ?_
            refine V_mArr C 4 hRF rfl fl_X9_16 (by decide) dX9_passes_45 (fun a45 ha45 => ?_)
            refine V_iload_n C dX9_passes_48 rfl ?_
            refine V_mLd C 4 hRF rfl rfl ha45 (by first | assumption | (show _ < _; omega)) rfl dX9_passes_49 ?_
            refine V_fS C (c_X9_ones _ hl G T _) ks_X9_172 (by decide) (by decide) rfl rfl (Nat.le_of_ble_eq_true rfl) dX9_passes_50 ?_
            dsimp only [Option.toList_some, Option.toList_none, List.cons_append, List.nil_append]
            refine V_imul C dX9_passes_53 ?_
            refine V_iadd C dX9_passes_54 ?_
            refine V_iadd C dX9_passes_55 ?_
            refine V_mSt C 24 hRF rfl rfl ha21 (by first | assumption | (show _ < _; omega)) dX9_passes_56 (fun T hRF => ?_)
            refine V_incN C dX9_passes_57 rfl (by decide) rfl ?_
            simp only [lset1, lset2, List.filter_cons, List.filter_nil, Nat.reduceBEq, Nat.reduceAdd, Bool.not_true, Bool.not_false, Bool.and_true, Bool.and_false, Bool.true_and, Bool.false_and, if_true, if_false, Bool.false_eq_true, reduceIte]
            refine V_goto C (tgt := 2) dX9_passes_60 (by decide) ?_
            refine V_sub ?_ (ih (j + 1) _ (by rw [earnF_f q, eh2]; exact hRF) (by omega))
            exact ⟨rfl, rfl, trivial⟩
  refine V_iconst C (v := 0) dX9_passes_0 (by decide) ?_
  refine V_istore_n C dX9_passes_1 (by decide) rfl ?_
  simp only [lset1, lset2, List.filter_cons, List.filter_nil, Nat.reduceBEq, Nat.reduceAdd, Bool.not_true, Bool.not_false, Bool.and_true, Bool.and_false, Bool.true_and, Bool.false_and, if_true, if_false, Bool.false_eq_true, reduceIte]
  exact loop1 n 0 _ hRF (by omega)
theorem c_X9_pass (l : Launch) (hl : l.stackTraces = false) (G : gG) (S : sS) (m : Nat) (σ : aS) (hR : RelR S m σ) (hI : IC σ) (hS : IS σ) (v : Int32)  : CtR l G yX9_pass cX9_pass 3 (Option.some FieldType.int) 5 [.ref m, .int v] S m (some (.int (oPass σ v).1)) (oPass σ v).2 := by
  have hm := hR.1
  have hRF := RF_0 hR
  obtain ⟨d, hd⟩ : ∃ d, d = cN σ 0 := ⟨_, rfl⟩
  have hd12 : d ≤ 12000 := by rw [hd]; exact hI.1.2
  have ed : σ.2 0 = nI d := by rw [hd]; exact hI.1.1
  refine Ct_of (by decide) (cat1_all (by repeat first | exact trivial | refine ⟨by first | rfl | exact isR_c (isR_q _), ?_⟩)) (Nat.le_of_ble_eq_true rfl) hl fun X C hXl hin => ?_
  subst hXl
  dsimp only [lArgs, Nat.reduceAdd]
  have loop : ∀ (c : Nat) (hc : c < 2 ^ 30) (hv : v = nI c) (h0 : tPass σ v = 0) (t j : Nat) (τ : aS) (T : sS) (hRF : RF S T m τ.1 τ.2) (hI : IC τ) (hS : IS τ), j + t = c → cN τ 0 + t ≤ 12000 → runDays t τ = runDays c (sT σ 0) → V X G 3 (eQ X G (fun v9 T => v9 = some (.int (oPass σ v).1) ∧ RF S T m (oPass σ v).2.1 (oPass σ v).2.2) (fun _ _ => False) 0 0) 0 0 37 [(2, false, .int (nI j)), (0, false, .ref m), (1, false, .int (nI c))] [] T := by
    intro c hc hv h0 t
    induction t with
    | zero =>
      intro j τ T hRF hI hS hj hd e
      obtain rfl : j = c := by omega
      have e : τ = runDays j (sT σ 0) := e
      have ej : nx v = j := by rw [hv]; exact nI_clamp (by omega)
      refine V_iload_n C dX9_pass_37 rfl ?_
      refine V_iload_n C dX9_pass_38 rfl ?_
      refine V_igeN C (tgt := 52) (by omega) (by omega) dX9_pass_39 (by decide) (fun h39 => ?_) (fun h39 => ?_)
      · refine V_aload_n C dX9_pass_52 rfl (by first | exact isR_r _ | exact isR_q _ | exact isR_n) ?_
        refine V_mNum C 0 hRF fl_X9_187 (by decide) dX9_pass_53 rfl ?_
        refine V_iret C (by first | omega | decide) (by first | omega | decide) dX9_pass_56 ?_
        unfold oPass
        rw [if_pos h0, ej, ← e]
        exact ⟨rfl, hRF⟩
      · omega
    | succ t ih =>
      intro j τ T hRF hI hS hj hd e
      have hlt : cN τ 0 < 12000 := by omega
      have e : runDays t (oDay τ) = runDays c (sT σ 0) := e
      have ecn : cN (oDay τ) 0 = cN τ 0 + 1 := by
        show ((oDay τ).2 0).toNatClampNeg = _
        unfold oDay
        rw [dRun_2]
        show (τ.2 0 + 1).toNatClampNeg = _
        rw [hI.1.1, nI_1, nI_clamp (by omega)]
      refine V_iload_n C dX9_pass_37 rfl ?_
      refine V_iload_n C dX9_pass_38 rfl ?_
      refine V_igeN C (tgt := 52) (by omega) (by omega) dX9_pass_39 (by decide) (fun h39 => ?_) (fun h39 => ?_)
      · omega
      · refine V_aload_n C dX9_pass_42 rfl (by first | exact isR_r _ | exact isR_q _ | exact isR_n) ?_
        refine V_callV C (c_X9_passes _ hl G T m τ hRF.1 hI hS hlt) kv_X9_280 cf_9 (by decide) rfl hRF.1.1 (by decide) (by decide) rfl rfl (Nat.le_of_ble_eq_true rfl) dX9_pass_43 ?_ (fun _ _ h => h.elim)
        intro v9 T9 hT
        obtain ⟨rfl, hT⟩ := hT
        have hRF := RF_tr hRF hT
        dsimp only [Option.toList_some, Option.toList_none, List.cons_append, List.nil_append]
        refine V_incN C dX9_pass_46 rfl (by decide) rfl ?_
        simp only [lset1, lset2, List.filter_cons, List.filter_nil, Nat.reduceBEq, Nat.reduceAdd, Bool.not_true, Bool.not_false, Bool.and_true, Bool.and_false, Bool.true_and, Bool.false_and, if_true, if_false, Bool.false_eq_true, reduceIte]
        refine V_goto C (tgt := 37) dX9_pass_49 (by decide) ?_
        refine V_sub ?_ (ih (j + 1) (oDay τ) _ hRF (oDay_I hI hS hlt).1 (oDay_I hI hS hlt).2 (by omega) (by omega) e)
        exact ⟨rfl, rfl, rfl, trivial⟩
  have J : ∀ y : Int32, y = pI9 (σ.2 0 + v ≤ 12000) → V X G 3 (eQ X G (fun v9 T => v9 = some (.int (oPass σ v).1) ∧ RF S T m (oPass σ v).2.1 (oPass σ v).2.2) (fun _ _ => False) 0 0) 0 0 26 [(0, false, .ref m), (1, false, .int v)] [.int y, .int (bI (inP v 1 400)), .ref m] S := fun y hy => by
    have et : gT (bI (inP v 1 400)) y 1 = tPass σ v := by rw [hy]; rfl
    refine V_iconst C (v := 1) dX9_pass_26 (by decide) ?_
    refine V_fV C (c_X9_goes _ hl G S m hm _ y 1) kv_X9_179 cf_9 (by decide) rfl hRF.1.1 (by decide) (by decide) rfl rfl (Nat.le_of_ble_eq_true rfl) dX9_pass_27 ?_
    dsimp only [Option.toList_some, Option.toList_none, List.cons_append, List.nil_append]
    rw [et]
    refine V_genT (RF_I hRF (f := 56) rfl) (fun T hRF => ?_)
    refine V_if_ne C (tgt := 35) dX9_pass_30 (by decide) (fun h30 => ?_) (fun h30 => ?_)
    · have h0 := bI_ne.mp h30
      rw [h0] at hRF
      have hq := gT_x (et.trans h0)
      have h1 := bI_ne.mp hq.1
      obtain ⟨c, hc, ec⟩ := ix_of (n := 401) (x := v) (by decide) ⟨Int32.le_trans (show (0 : Int32) ≤ 1 by decide) h1.1, h1.2⟩
      have h2 := pI9_ne.mp (hy ▸ hq.2.1)
      have hdc : d + c ≤ 12000 := by
        rw [ed, ec, nI_add, show (12000 : Int32) = nI 12000 from rfl] at h2
        exact (nI_leI (by omega) (by decide)).mp h2
      refine V_iconst C (v := 0) dX9_pass_35 (by decide) ?_
      refine V_istore_n C dX9_pass_36 (by decide) rfl ?_
      simp only [lset1, lset2, List.filter_cons, List.filter_nil, Nat.reduceBEq, Nat.reduceAdd, Bool.not_true, Bool.not_false, Bool.and_true, Bool.and_false, Bool.true_and, Bool.false_and, if_true, if_false, Bool.false_eq_true, reduceIte]
      refine V_sub ?_ (loop c (by omega) ec h0 c 0 (sT σ 0) _ hRF hI hS (by omega) (show cN σ 0 + c ≤ 12000 by omega) rfl)
      rw [ec]
      exact ⟨rfl, rfl, rfl, trivial⟩
    · have h0 := bI_eq.mp h30
      refine V_iconst C (v := 0) dX9_pass_33 (by decide) ?_
      refine V_iret C (by first | omega | decide) (by first | omega | decide) dX9_pass_34 ?_
      unfold oPass
      rw [if_neg h0]
      exact ⟨rfl, hRF⟩
  refine V_aload_n C dX9_pass_0 rfl (by first | exact isR_r _ | exact isR_q _ | exact isR_n) ?_
  refine V_iload_n C dX9_pass_1 rfl ?_
  refine V_iconst C (v := 1) dX9_pass_2 (by decide) ?_
  refine V_sipush C (v := 400) dX9_pass_3 (by decide) ?_
  refine V_fS C (c_X9_in _ hl G S v 1 400) ks_X9_165 (by decide) (by decide) rfl rfl (Nat.le_of_ble_eq_true rfl) dX9_pass_6 ?_
  dsimp only [Option.toList_some, Option.toList_none, List.cons_append, List.nil_append]
  refine V_aload_n C dX9_pass_9 rfl (by first | exact isR_r _ | exact isR_q _ | exact isR_n) ?_
  refine V_mNum C 0 hRF fl_X9_187 (by decide) dX9_pass_10 rfl ?_
  refine V_iload_n C dX9_pass_13 rfl ?_
  refine V_iadd C dX9_pass_14 ?_
  refine V_sipush C (v := 12000) dX9_pass_15 (by decide) ?_
  refine V_icmp_gt C (tgt := 25) dX9_pass_18 (by decide) (fun h18 => ?_) (fun h18 => ?_)
  · refine V_iconst C (v := 0) dX9_pass_25 (by decide) ?_
    refine J _ ?_
    first | exact Eq.symm (pI9_f (fun q => absurd q (Int32.not_le.mpr h18))) | exact Eq.symm (pI9_t (Int32.not_lt.mp h18)) | exact Eq.symm (pI9_f (fun q => h18 q)) | exact Eq.symm (pI9_t h18)
  · refine V_iconst C (v := 1) dX9_pass_21 (by decide) ?_
    refine V_goto C (tgt := 26) dX9_pass_22 (by decide) ?_
    refine J _ ?_
    first | exact Eq.symm (pI9_f (fun q => absurd q (Int32.not_le.mpr h18))) | exact Eq.symm (pI9_t (Int32.not_lt.mp h18)) | exact Eq.symm (pI9_f (fun q => h18 q)) | exact Eq.symm (pI9_t h18)
