/-! WHAT HOLDS BETWEEN CALLS, more: stays end and begin, days pass. -/
theorem nsum_congr {g h : Nat → Nat} : ∀ n, (∀ i, i < n → g i = h i) → nsum g n = nsum h n
  | 0, _ => rfl
  | n + 1, e => by
    show nsum g n + g n = nsum h n + h n
    rw [nsum_congr n fun i hi => e i (by omega), e n (Nat.lt_succ_self n)]
/-- how many are in a home, as a number -/
def hmN (σ : aS) (m k : Nat) : Nat := nx (hmT σ m k)
theorem hmT_nI (σ : aS) (m k : Nat) : hmT σ m k = nI (hmN σ m k) ∧ hmN σ m k ≤ 1 := by
  unfold hmN hmT
  split
  · exact ⟨rfl, by decide⟩
  · exact ⟨rfl, by decide⟩
theorem fsum_hm (σ : aS) (m : Nat) : ∀ n, fsum (hmT σ m) n = nI (nsum (hmN σ m) n) := fun n => fsum_nI n fun i _ => (hmT_nI σ m i).1
theorem nsum_hm (σ : aS) (m : Nat) : ∀ n, nsum (hmN σ m) n ≤ n := fun n => by
  have := nsum_le (c := 1) n fun i _ => (hmT_nI σ m i).2
  omega
theorem oEnds_47 {σ : aS} {k j : Nat} (h : ¬ (¬ σ.1 10 k = -1 ∧ j = nx (σ.1 10 k))) : (oEnds σ k).1 47 j = σ.1 47 j := by
  unfold oEnds
  by_cases e : σ.1 10 k = -1
  · rw [if_pos e]
  · rw [if_neg e]
    dsimp only
    rw [up2_f (by decide), up2_n2 fun z => h ⟨e, z⟩]
theorem oEnds_47s {σ : aS} {k : Nat} (e : ¬ σ.1 10 k = -1) : (oEnds σ k).1 47 (nx (σ.1 10 k)) = σ.2 0 := by
  unfold oEnds
  rw [if_neg e]
  dsimp only
  rw [up2_f (by decide), up2_s]
theorem oEnds_10o {σ : aS} {k j : Nat} (h : j ≠ k) : (oEnds σ k).1 10 j = σ.1 10 j := by
  unfold oEnds
  by_cases e : σ.1 10 k = -1
  · rw [if_pos e]
  · rw [if_neg e]
    dsimp only
    rw [up2_n2 h, up2_f (by decide)]
/-- a stay's row behind an end -/
theorem YS_ends {σ : aS} {k j : Nat} (hW : IW σ) (hk : k < cN σ 1) (hj : j < cN σ 43) (h3 : ∀ j, j < cN σ 43 → YS σ j) : YS (oEnds σ k) j := by
  have hI := hW.1
  have n0 := hI.1.2
  have n43 := hI.2.2.2.2.2.1.2
  have e0 : σ.2 0 = nI (cN σ 0) := hI.1.1
  have eN : ∀ x, cN (oEnds σ k) x = cN σ x := fun x => congrArg Int32.toNatClampNeg (congrFun oEnds_2 x)
  have r : ∀ f, f ≠ 10 → f ≠ 47 → (oEnds σ k).1 f = σ.1 f := fun f h1 h2 => oEnds_o h1 h2
  obtain ⟨b, b1, b2, b3, ⟨o, o1, o2⟩, b5, s, b6, b7⟩ := h3 j hj
  have key : ∀ i e, σ.1 47 i = nI e → e ≤ 12000 → i < cN σ 43 → (oEnds σ k).1 47 i = nI e := fun i e he he2 hi => by
    have nz : ¬ (¬ σ.1 10 k = -1 ∧ i = nx (σ.1 10 k)) := by
      rintro ⟨z1, z2⟩
      rcases hI.2.2.2.2.2.2.2 k hk with q | ⟨x, x1, x2⟩
      · exact z1 q
      · rw [x2, nx_nI (j := x) (by omega)] at z2
        subst z2
        have := (hW.2.2.2.2.2.2.2.2.2.2.1.1 k i hk hi x2).2
        exact nI_ne_m1 (by omega) (he.symm.trans this)
    rw [oEnds_47 nz]
    exact he
  refine ⟨b, by rw [eN]; exact b1, (congrFun (r 46 (by decide) (by decide)) j).trans b2, ?_, ⟨o, by rw [eN]; exact o1, (congrFun (r 48 (by decide) (by decide)) j).trans o2⟩, fun i hi q => ?_, s, b6, ?_⟩
  · rw [eN]
    rcases b3 with q | ⟨e, g1, g2, g3⟩
    · by_cases z : ¬ σ.1 10 k = -1 ∧ j = nx (σ.1 10 k)
      · refine Or.inr ⟨cN σ 0, b1, Nat.le_refl _, ?_⟩
        have := oEnds_47s z.1
        rw [← z.2, e0] at this
        exact this
      · exact Or.inl ((oEnds_47 z).trans q)
    · exact Or.inr ⟨e, g1, g2, key j e g3 (by omega) hj⟩
  · rw [r 44 (by decide) (by decide)] at q
    obtain ⟨e, g1, g2⟩ := b5 i hi q
    exact ⟨e, g1, key i e g2 (by omega) (by omega)⟩
  · rw [r 44 (by decide) (by decide), r 3 (by decide) (by decide)]
    exact b7
theorem nx_0 : nx (0 : Int32) = 0 := by
  rw [← nI_0]
  exact nI_clamp (by decide)
theorem ends_hz {σ : aS} {m k : Nat} (hm : m < 1000) : hmT (oEnds σ k) m k = 0 := by
  have e10 : (oEnds σ k).1 10 k = -1 := oEnds_10
  have e : mHomeOf (oEnds σ k) k = -1 := if_pos e10
  unfold hmT
  rw [e, if_neg fun z => nI_ne_m1 (by omega) z.symm]
theorem ends_ho {σ : aS} {m k n : Nat} (q : n ≠ k) : hmT (oEnds σ k) m n = hmT σ m n := by
  unfold hmT mHomeOf
  rw [oEnds_10o q, oEnds_o (by decide) (by decide)]
theorem nsum_mono {g h : Nat → Nat} : ∀ n, (∀ i, i < n → g i ≤ h i) → nsum g n ≤ nsum h n
  | 0, _ => Nat.le_refl _
  | n + 1, e => Nat.add_le_add (nsum_mono n fun i hi => e i (by omega)) (e n (Nat.lt_succ_self n))
theorem ends_h1 {σ : aS} {m k i : Nat} (hm : m < 1000) : hmN (oEnds σ k) m i ≤ hmN σ m i := by
  unfold hmN
  by_cases q : i = k
  · subst q
    rw [ends_hz hm, nx_0]
    exact Nat.zero_le _
  · rw [ends_ho q]
    exact Nat.le_refl _
theorem ends_hm {σ : aS} {m k : Nat} (hm : m < 1000) (n : Nat) : nsum (hmN (oEnds σ k) m) n ≤ nsum (hmN σ m) n := nsum_mono n fun _ _ => ends_h1 hm
theorem IY_ends {σ : aS} {k : Nat} (hW : IW σ) (hY : IY σ) (hk : k < cN σ 1) : IY (oEnds σ k) := by
  have hI := hW.1
  have n1 := hI.2.1.2
  have eN : ∀ x, cN (oEnds σ k) x = cN σ x := fun x => congrArg Int32.toNatClampNeg (congrFun oEnds_2 x)
  have r : ∀ f, f ≠ 10 → f ≠ 47 → (oEnds σ k).1 f = σ.1 f := fun f h1 h2 => oEnds_o h1 h2
  obtain ⟨h1, h2, h3, h4⟩ := hY
  refine ⟨fun x hx => ?_, fun m hm => ?_, fun j hj => YS_ends hW hk (eN 43 ▸ hj) h3, fun x hx i hi => ?_⟩
  · rw [eN] at hx
    obtain ⟨a1, a2, a3⟩ := h1 x hx
    exact ⟨by rw [r 8 (by decide) (by decide)]; exact a1, VB_of a2 (congrFun (r 14 (by decide) (by decide)) x) (congrFun (r 15 (by decide) (by decide)) x) (congrFun (r 17 (by decide) (by decide)) x) (congrFun (r 18 (by decide) (by decide)) x) (by rw [eN]; exact Nat.le_refl _), by rw [r 11 (by decide) (by decide), r 44 (by decide) (by decide), eN]; exact a3⟩
  · rw [eN] at hm
    have h2' := h2 m hm
    rw [eN, r 23 (by decide) (by decide)]
    refine Int32.le_trans ?_ h2'
    rw [fsum_hm, fsum_hm]
    refine nI_le ?_ (by have := nsum_hm σ m (cN σ 1); omega)
    exact ends_hm (by have := hI.2.2.1.2; omega) _
  · rw [eN] at hx
    refine YR_of (h4 x hx i ?_) (congrFun (r 36 (by decide) (by decide)) _) (congrFun (r 37 (by decide) (by decide)) _) (by rw [eN]; exact Nat.le_refl _)
    unfold rN at hi ⊢
    rw [r 34 (by decide) (by decide)] at hi
    exact hi
/-! a stay begins -/
theorem flast_is {p : Nat → Prop} [DecidablePred p] : ∀ n, flast p n = -1 ∨ ∃ j, j < n ∧ flast p n = nI j ∧ p j
  | 0 => Or.inl rfl
  | n + 1 => by
    by_cases q : p n
    · rw [flast_t q]
      exact Or.inr ⟨n, Nat.lt_succ_self n, rfl, q⟩
    · rw [flast_f q]
      rcases flast_is (p := p) n with e | ⟨j, j1, j2⟩
      · exact Or.inl e
      · exact Or.inr ⟨j, by omega, j2⟩
theorem kind_ok {σ : aS} {x on : Int32} (h : mKindOn σ x on = 0) : ∃ o, o < cN σ 38 ∧ mCounts σ x on = nI o := by
  unfold mKindOn at h
  rcases flast_is (p := fun j => σ.1 39 j = x ∧ (σ.1 41 j ≤ on ∧ on ≤ σ.1 42 j)) (cN σ 38) with e | ⟨j, j1, j2, -⟩
  · rw [if_pos (show mCounts σ x on = -1 from e)] at h
    exact absurd h (by decide)
  · exact ⟨j, j1, j2⟩
theorem why_0 {σ : aS} {k h : Nat} (q : mWhyNot σ k h = 0) : mWhyOn σ k (nI h) (σ.2 0) = 0 ∧ mKindOn σ (nI k) (σ.2 0) = 0 ∧ ¬ σ.1 23 h ≤ mOthers σ (nI k) (nI h) ∧ ¬ σ.1 19 (10 * k + h) = 3 := by
  have e0 : mWhyOn σ k (nI h) (σ.2 0) = 0 := by
    refine Classical.byContradiction fun z => ?_
    rw [mWhyNot, if_pos (mWhyOn_pos z)] at q
    exact z q
  unfold mWhyNot at q
  rw [e0, if_neg (by decide)] at q
  refine ⟨e0, ?_, ?_, ?_⟩
  · refine Classical.byContradiction fun z => ?_
    rw [mWhyOn, if_pos z] at e0
    exact absurd e0 (by decide)
  · intro z
    rw [if_pos z] at q
    exact absurd q (by decide)
  · intro z
    by_cases y : σ.1 23 h ≤ mOthers σ (nI k) (nI h)
    · rw [if_pos y] at q
      exact absurd q (by decide)
    · rw [if_neg y, if_pos z] at q
      exact absurd q (by decide)
section BG
variable {σ : aS} {k : Nat} {h : Int32}
theorem oBeg_row {j : Nat} {f : Nat} (hf : 44 ≤ f ∧ f ≤ 48) (hj : j ≠ cN σ 43) : (oBegins σ k h).2.1 f j = (oEnds σ k).1 f j := by
  unfold oBegins oBeg1
  dsimp only
  rw [up2_n1 (by omega), up2_n1 (by omega), up2_n1 (by omega), up2_n2 hj, up2_n2 hj, up2_n2 hj, up2_n2 hj, up2_n2 hj]
theorem oBeg_44 : (oBegins σ k h).2.1 44 (cN σ 43) = nI k := by
  unfold oBegins oBeg1
  dsimp only
  rw [up2_n1 (by decide), up2_n1 (by decide), up2_n1 (by decide), up2_n1 (by decide), up2_n1 (by decide), up2_n1 (by decide), up2_n1 (by decide), up2_s]
theorem oBeg_45 : (oBegins σ k h).2.1 45 (cN σ 43) = h := by
  unfold oBegins oBeg1
  dsimp only
  rw [up2_n1 (by decide), up2_n1 (by decide), up2_n1 (by decide), up2_n1 (by decide), up2_n1 (by decide), up2_n1 (by decide), up2_s]
theorem oBeg_46 : (oBegins σ k h).2.1 46 (cN σ 43) = σ.2 0 := by
  unfold oBegins oBeg1
  dsimp only
  rw [up2_n1 (by decide), up2_n1 (by decide), up2_n1 (by decide), up2_n1 (by decide), up2_n1 (by decide), up2_s]
theorem oBeg_47 : (oBegins σ k h).2.1 47 (cN σ 43) = -1 := by
  unfold oBegins oBeg1
  dsimp only
  rw [up2_n1 (by decide), up2_n1 (by decide), up2_n1 (by decide), up2_n1 (by decide), up2_s]
theorem oBeg_48 : (oBegins σ k h).2.1 48 (cN σ 43) = mCounts (oBeg1 σ k (cN σ 43) h) (nI k) (σ.2 0) := by
  unfold oBegins
  dsimp only
  rw [up2_n1 (by decide), up2_n1 (by decide), up2_n1 (by decide), up2_s]
theorem oBeg_10 : (oBegins σ k h).2.1 10 k = nI (cN σ 43) := by
  unfold oBegins
  dsimp only
  rw [up2_n1 (by decide), up2_n1 (by decide), up2_s]
theorem oBeg_10o {j : Nat} (hj : j ≠ k) : (oBegins σ k h).2.1 10 j = σ.1 10 j := by
  unfold oBegins oBeg1
  dsimp only
  rw [up2_n1 (by decide), up2_n1 (by decide), up2_n2 hj, up2_n1 (by decide), up2_n1 (by decide), up2_n1 (by decide), up2_n1 (by decide), up2_n1 (by decide), oEnds_10o hj]
theorem oBeg_11 : (oBegins σ k h).2.1 11 k = σ.1 11 k + 1 := by
  unfold oBegins
  dsimp only
  rw [up2_n1 (by decide), up2_s, oEnds_o (by decide) (by decide)]
theorem oBeg_11o {j : Nat} (hj : j ≠ k) : (oBegins σ k h).2.1 11 j = σ.1 11 j := by
  unfold oBegins oBeg1
  dsimp only
  rw [up2_n1 (by decide), up2_n2 hj, up2_n1 (by decide), up2_n1 (by decide), up2_n1 (by decide), up2_n1 (by decide), up2_n1 (by decide), up2_n1 (by decide), oEnds_o (by decide) (by decide)]
theorem oBeg_cnt : mCounts (oBeg1 σ k (cN σ 43) h) (nI k) (σ.2 0) = mCounts σ (nI k) (σ.2 0) := by
  have r : ∀ f, f ≠ 10 → f < 44 → (oBeg1 σ k (cN σ 43) h).1 f = σ.1 f := fun f f1 f2 => by
    unfold oBeg1
    dsimp only
    rw [up2_f (by omega), up2_f (by omega), up2_f (by omega), up2_f (by omega), oEnds_o f1 (by omega)]
  exact mCounts_congr (r 39 (by decide) (by decide)) (r 41 (by decide) (by decide)) (r 42 (by decide) (by decide)) rfl
end BG
theorem IY_begins {σ : aS} {k w : Nat} (hW : IW σ) (hY : IY σ) (hk : k < cN σ 1) (hw : w < cN σ 20) (hc : cN σ 43 < 100) (hK : mKindOn σ (nI k) (σ.2 0) = 0) (hB : ¬ σ.1 23 w ≤ mOthers σ (nI k) (nI w)) : IY (oBegins σ k (nI w)).2 := by
  have hI := hW.1
  have n0 := hI.1.2
  have n1 := hI.2.1.2
  have n20 := hI.2.2.1.2
  have e0 : σ.2 0 = nI (cN σ 0) := hI.1.1
  obtain ⟨o, o1, o2⟩ := kind_ok hK
  have hE := IY_ends hW hY hk
  have WE := IW_ends hW hk
  have e43 := (IC_begins (k := k) (h := nI w) hI hc).2
  have eN : ∀ x, x ≠ 43 → cN (oBegins σ k (nI w)).2 x = cN σ x := fun x hx => congrArg Int32.toNatClampNeg (show (oBegins σ k (nI w)).2.2 x = σ.2 x from by rw [oBeg_2]; exact up1_n hx)
  have eE : ∀ x, cN (oEnds σ k) x = cN σ x := fun x => congrArg Int32.toNatClampNeg (congrFun oEnds_2 x)
  have r : ∀ f, f ≠ 10 → f ≠ 11 → f ≠ 13 → f < 44 → (oBegins σ k (nI w)).2.1 f = σ.1 f := fun f f1 f2 f3 f4 => oBeg_f f1 f2 f3 (by omega)
  have g44 := oBeg_44 (σ := σ) (k := k) (h := nI w)
  have g45 := oBeg_45 (σ := σ) (k := k) (h := nI w)
  have g46 := oBeg_46 (σ := σ) (k := k) (h := nI w)
  have g47 := oBeg_47 (σ := σ) (k := k) (h := nI w)
  have g48 := (oBeg_48 (σ := σ) (k := k) (h := nI w)).trans (oBeg_cnt.trans o2)
  have g10 := oBeg_10 (σ := σ) (k := k) (h := nI w)
  have g10o : ∀ j, j ≠ k → (oBegins σ k (nI w)).2.1 10 j = σ.1 10 j := fun j hj => oBeg_10o hj
  have g11 := oBeg_11 (σ := σ) (k := k) (h := nI w)
  have g11o : ∀ j, j ≠ k → (oBegins σ k (nI w)).2.1 11 j = σ.1 11 j := fun j hj => oBeg_11o hj
  have row : ∀ f j, 44 ≤ f → f ≤ 48 → j ≠ cN σ 43 → (oBegins σ k (nI w)).2.1 f j = (oEnds σ k).1 f j := fun f j f1 f2 hj => oBeg_row ⟨f1, f2⟩ hj
  generalize (oBegins σ k (nI w)).2 = τ at *
  obtain ⟨h1, h2, h3, h4⟩ := hY
  have rowo : ∀ f j, 44 ≤ f → f ≤ 48 → f ≠ 47 → j ≠ cN σ 43 → τ.1 f j = σ.1 f j := fun f j f1 f2 f3 hj => (row f j f1 f2 hj).trans (congrFun (oEnds_o (by omega) f3) j)
  have cnt : ∀ x, x < cN σ 1 → nC (τ.1 44) (nI x) (cN σ 43 + 1) = nC (σ.1 44) (nI x) (cN σ 43) + if k = x then 1 else 0 := fun x hx => by
    show nC (τ.1 44) (nI x) (cN σ 43) + (if τ.1 44 (cN σ 43) = nI x then 1 else 0) = _
    rw [g44, nC_congr (g := σ.1 44) _ fun i hi => rowo 44 i (by decide) (by decide) (by decide) (by omega)]
    congr 1
    by_cases q : k = x
    · subst q; rw [if_pos rfl, if_pos rfl]
    · rw [if_neg q, if_neg fun z => q ((nI_eq (by omega) (by omega)).mp z)]
  refine ⟨fun x hx => ?_, fun m hm => ?_, fun j hj => ?_, fun x hx i hi => ?_⟩
  · rw [eN 1 (by decide)] at hx
    obtain ⟨a1, a2, a3⟩ := h1 x hx
    refine ⟨by rw [r 8 (by decide) (by decide) (by decide) (by decide)]; exact a1, VB_of a2 (congrFun (r 14 (by decide) (by decide) (by decide) (by decide)) x) (congrFun (r 15 (by decide) (by decide) (by decide) (by decide)) x) (congrFun (r 17 (by decide) (by decide) (by decide) (by decide)) x) (congrFun (r 18 (by decide) (by decide) (by decide) (by decide)) x) (by rw [eN 0 (by decide)]; exact Nat.le_refl _), ?_⟩
    rw [e43, cnt x hx]
    by_cases q : x = k
    · subst q
      rw [g11, a3, nI_1, if_pos rfl]
    · rw [g11o x q, a3, if_neg fun z => q z.symm, Nat.add_zero]
  · rw [eN 20 (by decide)] at hm
    rw [eN 1 (by decide), r 23 (by decide) (by decide) (by decide) (by decide)]
    have hE2 := hE.2.1 m (by rw [eE]; exact hm)
    rw [eE, oEnds_o (by decide) (by decide)] at hE2
    have eo : ∀ x, x < cN σ 1 → x ≠ k → hmT τ m x = hmT (oEnds σ k) m x := fun x hx q => by
      unfold hmT mHomeOf
      rw [g10o x q, oEnds_10o q]
      rcases hI.2.2.2.2.2.2.2 x hx with z | ⟨y, y1, y2⟩
      · rw [if_pos z, if_pos z]
      · rw [y2, nI_clamp (by omega), row 45 y (by decide) (by decide) (by omega)]
    have eE10 : (oEnds σ k).1 10 k = -1 := oEnds_10
    have zE : hmT (oEnds σ k) m k = 0 := ends_hz (by omega)
    have ek : hmT τ m k = if w = m then 1 else 0 := by
      have eh : mHomeOf τ k = nI w := by
        unfold mHomeOf
        rw [if_neg (by rw [g10]; exact nI_ne_m1 (by omega)), g10, nI_clamp (by omega), g45]
      unfold hmT
      rw [eh]
      by_cases q : w = m
      · subst q; rw [if_pos rfl, if_pos rfl]
      · rw [if_neg q, if_neg fun z => q ((nI_eq (by omega) (by omega)).mp z)]
    have ch := fsum_ch (F := hmT (oEnds σ k) m) (F' := hmT τ m) (i0 := k) hk fun x hx q => (eo x hx q).symm
    rw [zE, Int32.add_zero] at ch
    rw [ch, ek]
    by_cases q : w = m
    · subst q
      rw [if_pos rfl]
      have eO : fsum (hmT (oEnds σ k) w) (cN σ 1) = mOthers σ (nI k) (nI w) := by
        refine fsum_congr _ fun x hx => ?_
        unfold mOthersT
        by_cases z : x = k
        · subst z
          rw [zE, if_neg fun z => z.1 rfl]
        · have e : hmT (oEnds σ k) w x = hmT σ w x := by
            unfold hmT mHomeOf
            rw [oEnds_10o z, oEnds_o (by decide) (by decide)]
          rw [e, hmT]
          by_cases y : mHomeOf σ x = nI w
          · rw [if_pos y, if_pos ⟨fun z2 => z ((nI_eq (by omega) (by omega)).mp z2), y⟩]
          · rw [if_neg y, if_neg fun z2 => y z2.2]
      rw [fsum_hm] at eO
      have hle := nsum_hm (oEnds σ k) w (cN σ 1)
      have hbd := hW.2.2.2.2.2.2.2.2.2.2.2.2 w hw
      obtain ⟨b, b1, b2⟩ := nI_ofL (Int32.le_trans (by decide) hbd.1) hbd.2 (n := 5) rfl
      rw [← eO, b2] at hB
      rw [fsum_hm, b2, nI_1]
      refine nI_le ?_ (by omega)
      refine Nat.lt_of_not_le fun z => hB (nI_le z (by omega))
    · rw [if_neg q, Int32.add_zero]
      exact hE2
  · rw [e43] at hj
    by_cases q : j = cN σ 43
    · subst q
      obtain ⟨-, s, s1, s2⟩ := hW.2.2.2.2.2.2.2.2.2.1 k hk
      refine ⟨cN σ 0, by rw [eN 0 (by decide)]; exact Nat.le_refl _, g46.trans e0, Or.inl g47, ⟨o, by rw [eN 38 (by decide)]; exact o1, g48⟩, fun i hi z => ?_, s, s1, ?_⟩
      · rw [g44, rowo 44 i (by decide) (by decide) (by decide) (by omega)] at z
        rw [row 47 i (by decide) (by decide) (by omega)]
        by_cases y : σ.1 47 i = -1
        · have q10 := hW.2.2.2.2.2.2.2.2.2.2.1.2 i k hi hk y z
          have := oEnds_47s (σ := σ) (k := k) (by rw [q10]; exact nI_ne_m1 (by omega))
          rw [q10, nx_nI (j := i) (by omega)] at this
          exact ⟨cN σ 0, Nat.le_refl _, this.trans e0⟩
        · obtain ⟨b, b1, b2, b3, -, -, -⟩ := h3 i hi
          rcases b3 with g | ⟨e, t1, t2, t3⟩
          · exact absurd g y
          · refine ⟨e, t2, ?_⟩
            have nz : ¬ (¬ σ.1 10 k = -1 ∧ i = nx (σ.1 10 k)) := by
              rintro ⟨z1, z2⟩
              rcases hI.2.2.2.2.2.2.2 k hk with g | ⟨x, x1, x2⟩
              · exact z1 g
              · rw [x2, nx_nI (j := x) (by omega)] at z2
                subst z2
                exact y (hW.2.2.2.2.2.2.2.2.2.2.1.1 k i hk hi x2).2
            rw [oEnds_47 nz]
            exact t3
      · rw [g44, nx_nI (j := k) (by omega), r 3 (by decide) (by decide) (by decide) (by decide)]
        exact s2
    · have hj' : j < cN σ 43 := by omega
      obtain ⟨b, b1, b2, b3, ⟨o', t1, t2⟩, b5, s, b6, b7⟩ := hE.2.2.1 j (by rw [eE]; exact hj')
      rw [eE] at b1 b3 t1
      refine ⟨b, by rw [eN 0 (by decide)]; exact b1, (row 46 j (by decide) (by decide) q).trans b2, ?_, ⟨o', by rw [eN 38 (by decide)]; exact t1, (row 48 j (by decide) (by decide) q).trans t2⟩, fun i hi z => ?_, s, b6, ?_⟩
      · rw [eN 0 (by decide), row 47 j (by decide) (by decide) q]
        exact b3
      · rw [row 44 i (by decide) (by decide) (by omega), row 44 j (by decide) (by decide) q] at z
        rw [row 47 i (by decide) (by decide) (by omega)]
        exact b5 i hi z
      · rw [row 44 j (by decide) (by decide) q, r 3 (by decide) (by decide) (by decide) (by decide)]
        rw [show (oEnds σ k).1 3 = σ.1 3 from oEnds_o (by decide) (by decide)] at b7
        exact b7
  · rw [eN 1 (by decide)] at hx
    refine YR_of (h4 x hx i ?_) (congrFun (r 36 (by decide) (by decide) (by decide) (by decide)) _) (congrFun (r 37 (by decide) (by decide) (by decide) (by decide)) _) (by rw [eN 0 (by decide)]; exact Nat.le_refl _)
    unfold rN at hi ⊢
    rw [r 34 (by decide) (by decide) (by decide) (by decide)] at hi
    exact hi
