/-! PASSING DAYS: child by child, or day by day: the same. -/
/-- a child's day d -/
noncomputable def cStepD (τ : aS) (j : Nat) (d : Int32) : aS :=
  iteP (τ.1 10 j = -1) τ (iteP (¬ mKindOn τ (nI j) d = 0 ∧ ¬ mKindOn τ (nI j) d = 2) (oEndD τ j d)
    (iteP (¬ τ.1 12 j ≤ 0 ∧ (d - τ.1 46 (nx (τ.1 10 j))) - (d - τ.1 46 (nx (τ.1 10 j))) / τ.1 12 j * τ.1 12 j = 0) (oVisited τ j) τ))
theorem dStep_c (τ : aS) (j : Nat) : dStep τ j = cStepD τ j (τ.2 0) := rfl
theorem oEndD_2 {τ : aS} {j : Nat} {d : Int32} : (oEndD τ j d).2 = τ.2 := by
  unfold oEndD
  split <;> rfl
theorem cStepD_cases (τ : aS) (j : Nat) (d : Int32) : (τ.1 10 j = -1 ∧ cStepD τ j d = τ) ∨ (¬ τ.1 10 j = -1 ∧ (¬ mKindOn τ (nI j) d = 0 ∧ ¬ mKindOn τ (nI j) d = 2) ∧ cStepD τ j d = (up2 (up2 τ.1 47 (nx (τ.1 10 j)) d) 10 j (-1), τ.2)) ∨
    (¬ τ.1 10 j = -1 ∧ ¬ (¬ mKindOn τ (nI j) d = 0 ∧ ¬ mKindOn τ (nI j) d = 2) ∧ (¬ τ.1 12 j ≤ 0 ∧ (d - τ.1 46 (nx (τ.1 10 j))) - (d - τ.1 46 (nx (τ.1 10 j))) / τ.1 12 j * τ.1 12 j = 0) ∧ cStepD τ j d = oVisited τ j) ∨
    (¬ τ.1 10 j = -1 ∧ ¬ (¬ mKindOn τ (nI j) d = 0 ∧ ¬ mKindOn τ (nI j) d = 2) ∧ ¬ (¬ τ.1 12 j ≤ 0 ∧ (d - τ.1 46 (nx (τ.1 10 j))) - (d - τ.1 46 (nx (τ.1 10 j))) / τ.1 12 j * τ.1 12 j = 0) ∧ cStepD τ j d = τ) := by
  unfold cStepD
  by_cases h1 : τ.1 10 j = -1
  · rw [iteP_t h1]; exact Or.inl ⟨h1, rfl⟩
  · rw [iteP_f h1]
    refine Or.inr ?_
    by_cases h2 : ¬ mKindOn τ (nI j) d = 0 ∧ ¬ mKindOn τ (nI j) d = 2
    · rw [iteP_t h2]
      refine Or.inl ⟨h1, h2, ?_⟩
      unfold oEndD
      rw [if_neg h1]
    · rw [iteP_f h2]
      refine Or.inr ?_
      by_cases h3 : ¬ τ.1 12 j ≤ 0 ∧ (d - τ.1 46 (nx (τ.1 10 j))) - (d - τ.1 46 (nx (τ.1 10 j))) / τ.1 12 j * τ.1 12 j = 0
      · rw [iteP_t h3]; exact Or.inl ⟨h1, h2, h3, rfl⟩
      · rw [iteP_f h3]; exact Or.inr ⟨h1, h2, h3, rfl⟩
theorem cStepD_2 (τ : aS) (j : Nat) (d : Int32) : (cStepD τ j d).2 = τ.2 := by
  rcases cStepD_cases τ j d with ⟨-, e⟩ | ⟨-, -, e⟩ | ⟨-, -, -, e⟩ | ⟨-, -, -, e⟩ <;> rw [e] <;> rfl
/-- the fields of a child that a day may change -/
def fDay (f : Nat) : Prop := f = 10 ∨ (13 ≤ f ∧ f ≤ 18)
theorem vis_o {τ : aS} {j f x : Nat} (h : ¬ (13 ≤ f ∧ f ≤ 18 ∧ x = j)) : (oVisited τ j).1 f x = τ.1 f x := by
  have u : ∀ {A : Nat → Nat → Int32} {g : Nat} {v : Int32}, 13 ≤ g → g ≤ 18 → up2 A g j v f x = A f x := fun {A g v} h1 h2 => if_neg fun z => h ⟨by omega, by omega, z.2⟩
  show up2 (vis5 τ j) 18 j _ f x = _
  rw [u (by decide) (by decide)]
  unfold vis5
  rw [u (by decide) (by decide)]
  unfold vis4
  rw [u (by decide) (by decide)]
  unfold vis3
  rw [u (by decide) (by decide)]
  unfold vis2
  rw [u (by decide) (by decide)]
  unfold vis1
  rw [u (by decide) (by decide)]
theorem v5_13 (τ : aS) (j : Nat) : vis5 τ j 13 j = 0 := by
  unfold vis5 vis4 vis3 vis2 vis1
  rw [up2_n1 (by decide), up2_n1 (by decide), up2_n1 (by decide), up2_n1 (by decide), up2_s]
theorem v5_14 (τ : aS) (j : Nat) : vis5 τ j 14 j = τ.1 14 j + if τ.1 13 j = 0 then 0 else 1 := by
  unfold vis5 vis4 vis3 vis2 vis1
  rw [up2_n1 (by decide), up2_n1 (by decide), up2_n1 (by decide), up2_s, up2_n1 (by decide)]
theorem v5_15 (τ : aS) (j : Nat) : vis5 τ j 15 j = τ.1 15 j + if τ.1 13 j = 0 then 1 else 0 := by
  unfold vis5 vis4 vis3
  rw [up2_n1 (by decide), up2_n1 (by decide), up2_s]
  unfold vis2 vis1
  rw [up2_n1 (by decide), up2_n1 (by decide)]
theorem v5_16 (τ : aS) (j : Nat) : vis5 τ j 16 j = if τ.1 13 j = 0 then 0 else τ.1 16 j + 1 := by
  unfold vis5 vis4
  rw [up2_n1 (by decide), up2_s]
  unfold vis3 vis2 vis1
  rw [up2_n1 (by decide), up2_n1 (by decide), up2_n1 (by decide)]
theorem v5_17 (τ : aS) (j : Nat) : vis5 τ j 17 j = if τ.1 13 j = 0 then τ.1 17 j + 1 else 0 := by
  unfold vis5
  rw [up2_s]
  unfold vis4 vis3 vis2 vis1
  rw [up2_n1 (by decide), up2_n1 (by decide), up2_n1 (by decide), up2_n1 (by decide)]
theorem v5_18 (τ : aS) (j : Nat) : vis5 τ j 18 j = τ.1 18 j := by
  unfold vis5 vis4 vis3 vis2 vis1
  rw [up2_n1 (by decide), up2_n1 (by decide), up2_n1 (by decide), up2_n1 (by decide), up2_n1 (by decide)]
theorem oV_f {τ : aS} {j f : Nat} (h : f ≠ 18) : (oVisited τ j).1 f j = vis5 τ j f j := up2_n1 h
theorem oV_18 (τ : aS) (j : Nat) : (oVisited τ j).1 18 j = pI9 (3 ≤ (if τ.1 13 j = 0 then τ.1 17 j + 1 else 0) ∨ (¬ τ.1 18 j = 0 ∧ ¬ 3 ≤ (if τ.1 13 j = 0 then 0 else τ.1 16 j + 1))) := by
  show up2 (vis5 τ j) 18 j (pI9 (visW τ j)) 18 j = _
  rw [up2_s]
  unfold visW
  rw [v5_16, v5_17, v5_18]
/-- what a child's day leaves as it was -/
theorem cStepD_o {τ : aS} {j : Nat} {d : Int32} {f x : Nat} (h1 : ¬ (fDay f ∧ x = j)) (h2 : ¬ (f = 47 ∧ ¬ τ.1 10 j = -1 ∧ x = nx (τ.1 10 j))) : (cStepD τ j d).1 f x = τ.1 f x := by
  unfold fDay at h1
  rcases cStepD_cases τ j d with ⟨-, e⟩ | ⟨q, -, e⟩ | ⟨-, -, -, e⟩ | ⟨-, -, -, e⟩
  · rw [e]
  · rw [e]
    show up2 (up2 τ.1 47 (nx (τ.1 10 j)) d) 10 j (-1) f x = _
    rw [show up2 (up2 τ.1 47 (nx (τ.1 10 j)) d) 10 j (-1) f x = up2 τ.1 47 (nx (τ.1 10 j)) d f x from if_neg fun z => h1 ⟨Or.inl z.1, z.2⟩]
    exact if_neg fun z => h2 ⟨z.1, q, z.2⟩
  · rw [e]; exact vis_o fun z => h1 ⟨Or.inr ⟨z.1, z.2.1⟩, z.2.2⟩
  · rw [e]
/-- a child's own words decide what its day brings -/
def LocE (τ τ' : aS) (j : Nat) : Prop := τ'.1 10 j = τ.1 10 j ∧ (∀ f, 13 ≤ f → f ≤ 18 → τ'.1 f j = τ.1 f j) ∧ τ'.1 12 j = τ.1 12 j ∧ τ'.1 46 = τ.1 46 ∧ τ'.1 39 = τ.1 39 ∧ τ'.1 40 = τ.1 40 ∧ τ'.1 41 = τ.1 41 ∧ τ'.1 42 = τ.1 42 ∧ cN τ' 38 = cN τ 38
theorem mKindOn_congr {σ σ' : aS} (h39 : σ'.1 39 = σ.1 39) (h40 : σ'.1 40 = σ.1 40) (h41 : σ'.1 41 = σ.1 41) (h42 : σ'.1 42 = σ.1 42) (n38 : cN σ' 38 = cN σ 38) {x on : Int32} : mKindOn σ' x on = mKindOn σ x on := by
  unfold mKindOn
  rw [mCounts_congr h39 h41 h42 n38, h40]
theorem cStepD_l {τ τ' : aS} {j : Nat} {d : Int32} (h : LocE τ τ' j) : (∀ f, fDay f → (cStepD τ' j d).1 f j = (cStepD τ j d).1 f j) ∧ ∀ x, τ'.1 47 x = τ.1 47 x → (cStepD τ' j d).1 47 x = (cStepD τ j d).1 47 x := by
  obtain ⟨e10, eD, e12, e46, e39, e40, e41, e42, n38⟩ := h
  have eK : mKindOn τ' (nI j) d = mKindOn τ (nI j) d := mKindOn_congr e39 e40 e41 e42 n38
  have fd : ∀ f, fDay f → τ'.1 f j = τ.1 f j := fun f hf => by
    rcases hf with rfl | ⟨h1, h2⟩
    · exact e10
    · exact eD f h1 h2
  rcases cStepD_cases τ j d with ⟨q, e⟩ | ⟨q, q2, e⟩ | ⟨q, q2, q3, e⟩ | ⟨q, q2, q3, e⟩
  · have e' : cStepD τ' j d = τ' := by
      unfold cStepD
      exact iteP_t (by rw [e10]; exact q)
    rw [e, e']
    exact ⟨fd, fun x hx => hx⟩
  · have e' : cStepD τ' j d = (up2 (up2 τ'.1 47 (nx (τ'.1 10 j)) d) 10 j (-1), τ'.2) := by
      unfold cStepD
      rw [iteP_f (by rw [e10]; exact q), iteP_t (by rw [eK]; exact q2)]
      unfold oEndD
      rw [if_neg (by rw [e10]; exact q)]
    rw [e, e', e10]
    refine ⟨fun f hf => ?_, fun x hx => ?_⟩
    · show up2 (up2 τ'.1 47 (nx (τ.1 10 j)) d) 10 j (-1) f j = up2 (up2 τ.1 47 (nx (τ.1 10 j)) d) 10 j (-1) f j
      by_cases z : f = 10
      · subst z; rw [up2_s, up2_s]
      · rw [up2_n1 z, up2_n1 z, up2_n1 (by unfold fDay at hf; omega), up2_n1 (by unfold fDay at hf; omega)]
        exact fd f hf
    · show up2 (up2 τ'.1 47 (nx (τ.1 10 j)) d) 10 j (-1) 47 x = up2 (up2 τ.1 47 (nx (τ.1 10 j)) d) 10 j (-1) 47 x
      rw [show up2 (up2 τ'.1 47 (nx (τ.1 10 j)) d) 10 j (-1) 47 x = up2 τ'.1 47 (nx (τ.1 10 j)) d 47 x from up2_n1 (by decide), show up2 (up2 τ.1 47 (nx (τ.1 10 j)) d) 10 j (-1) 47 x = up2 τ.1 47 (nx (τ.1 10 j)) d 47 x from up2_n1 (by decide)]
      by_cases z : x = nx (τ.1 10 j)
      · subst z; rw [up2_s, up2_s]
      · rw [up2_n2 z, up2_n2 z]; exact hx
  · have e' : cStepD τ' j d = oVisited τ' j := by
      unfold cStepD
      rw [iteP_f (by rw [e10]; exact q), iteP_f (by rw [eK]; exact q2), iteP_t (by rw [e10, e12, e46]; exact q3)]
    rw [e, e']
    have a13 := eD 13 (by decide) (by decide)
    have a14 := eD 14 (by decide) (by decide)
    have a15 := eD 15 (by decide) (by decide)
    have a16 := eD 16 (by decide) (by decide)
    have a17 := eD 17 (by decide) (by decide)
    have a18 := eD 18 (by decide) (by decide)
    refine ⟨fun f hf => ?_, fun x hx => ?_⟩
    · have : f = 10 ∨ f = 13 ∨ f = 14 ∨ f = 15 ∨ f = 16 ∨ f = 17 ∨ f = 18 := by unfold fDay at hf; omega
      rcases this with rfl | rfl | rfl | rfl | rfl | rfl | rfl
      · rw [vis_o (by omega), vis_o (by omega)]; exact e10
      · rw [oV_f (by decide), oV_f (by decide), v5_13, v5_13]
      · rw [oV_f (by decide), oV_f (by decide), v5_14, v5_14, a13, a14]
      · rw [oV_f (by decide), oV_f (by decide), v5_15, v5_15, a13, a15]
      · rw [oV_f (by decide), oV_f (by decide), v5_16, v5_16, a13, a16]
      · rw [oV_f (by decide), oV_f (by decide), v5_17, v5_17, a13, a17]
      · rw [oV_18, oV_18, a13, a16, a17, a18]
    · rw [vis_o (by omega), vis_o (by omega)]; exact hx
  · have e' : cStepD τ' j d = τ' := by
      unfold cStepD
      rw [iteP_f (by rw [e10]; exact q), iteP_f (by rw [eK]; exact q2), iteP_f (by rw [e10, e12, e46]; exact q3)]
    rw [e, e']
    exact ⟨fd, fun x hx => hx⟩
/-- the child j alone, t days on -/
noncomputable def lam (σ : aS) (j : Nat) : Nat → aS
  | 0 => σ
  | t + 1 => cStepD (lam σ j t) j (nI (cN σ 0 + t + 1))
theorem lam_10 (σ : aS) (j : Nat) : ∀ t, (lam σ j t).1 10 j = σ.1 10 j ∨ (lam σ j t).1 10 j = -1
  | 0 => Or.inl rfl
  | t + 1 => by
    have ih := lam_10 σ j t
    show (cStepD (lam σ j t) j _).1 10 j = _ ∨ (cStepD (lam σ j t) j _).1 10 j = _
    rcases cStepD_cases (lam σ j t) j (nI (cN σ 0 + t + 1)) with ⟨-, e⟩ | ⟨-, -, e⟩ | ⟨-, -, -, e⟩ | ⟨-, -, -, e⟩
    · rw [e]; exact ih
    · rw [e]; exact Or.inr up2_s
    · rw [e, vis_o (by omega)]; exact ih
    · rw [e]; exact ih
theorem lam_o (σ : aS) (j : Nat) {f x : Nat} (h1 : ¬ (fDay f ∧ x = j)) (h2 : f ≠ 47) : ∀ t, (lam σ j t).1 f x = σ.1 f x
  | 0 => rfl
  | t + 1 => (cStepD_o h1 (fun z => h2 z.1)).trans (lam_o σ j h1 h2 t)
theorem lam_2 (σ : aS) (j : Nat) : ∀ t, (lam σ j t).2 = σ.2
  | 0 => rfl
  | t + 1 => (cStepD_2 _ _ _).trans (lam_2 σ j t)
/-- a state in which each child j is t j days on; what is earned aside -/
def Stg (σ : aS) (t : Nat → Nat) (τ : aS) : Prop :=
  (∀ j f, j < cN σ 1 → fDay f → τ.1 f j = (lam σ j (t j)).1 f j) ∧ (∀ j s, j < cN σ 1 → s < cN σ 43 → σ.1 10 j = nI s → τ.1 47 s = (lam σ j (t j)).1 47 s) ∧
  ∀ f x, f ≠ 24 → ¬ (fDay f ∧ x < cN σ 1) → ¬ (f = 47 ∧ ∃ j, j < cN σ 1 ∧ x < cN σ 43 ∧ σ.1 10 j = nI x) → τ.1 f x = σ.1 f x
theorem Stg_0 (σ : aS) : Stg σ (fun _ => 0) σ := ⟨fun _ _ _ _ => rfl, fun _ _ _ _ _ => rfl, fun _ _ _ _ _ => rfl⟩
theorem Stg_eq {σ τ τ' : aS} {t : Nat → Nat} (h : Stg σ t τ) (h' : Stg σ t τ') {f : Nat} (hf : f ≠ 24) : τ'.1 f = τ.1 f := funext fun x => by
  by_cases h1 : fDay f ∧ x < cN σ 1
  · rw [h.1 x f h1.2 h1.1, h'.1 x f h1.2 h1.1]
  · by_cases h2 : f = 47 ∧ ∃ j, j < cN σ 1 ∧ x < cN σ 43 ∧ σ.1 10 j = nI x
    · obtain ⟨rfl, j, hj, hx, e⟩ := h2
      rw [h.2.1 j x hj hx e, h'.2.1 j x hj hx e]
    · rw [h.2.2 f x hf h1 h2, h'.2.2 f x hf h1 h2]
theorem Stg_t {σ τ : aS} {t t' : Nat → Nat} (h : Stg σ t τ) (e : ∀ j, j < cN σ 1 → t' j = t j) : Stg σ t' τ :=
  ⟨fun j f hj hf => by rw [e j hj]; exact h.1 j f hj hf, fun j s hj hs q => by rw [e j hj]; exact h.2.1 j s hj hs q, h.2.2⟩
theorem Stg_24 {σ τ τ' : aS} {t : Nat → Nat} (h : Stg σ t τ) (e : ∀ f, f ≠ 24 → τ'.1 f = τ.1 f) : Stg σ t τ' :=
  ⟨fun j f hj hf => by rw [e f (by unfold fDay at hf; omega)]; exact h.1 j f hj hf, fun j s hj hs q => by rw [e 47 (by decide)]; exact h.2.1 j s hj hs q, fun f x hf h1 h2 => by rw [e f hf]; exact h.2.2 f x hf h1 h2⟩
/-- one child goes a day on -/
theorem Stg_s {σ τ : aS} {t : Nat → Nat} (hI : IC σ) (hE : IE σ) (h : Stg σ t τ) (n38 : cN τ 38 = cN σ 38) {j : Nat} (hj : j < cN σ 1) : Stg σ (fun i => if i = j then t j + 1 else t i) (cStepD τ j (nI (cN σ 0 + t j + 1))) := by
  obtain ⟨h1, h2, h3⟩ := h
  have c1 := hI.2.1.2
  have c43 := hI.2.2.2.2.2.1.2
  have hl : LocE (lam σ j (t j)) τ j := by
    have q : ∀ f, f ≠ 24 → f ≠ 47 → ¬ fDay f → ∀ x, τ.1 f x = (lam σ j (t j)).1 f x := fun f ha hb hc x => (h3 f x ha (fun z => hc z.1) (fun z => hb z.1)).trans (lam_o σ j (fun z => hc z.1) hb _).symm
    have q' : ∀ f, f ≠ 24 → f ≠ 47 → ¬ fDay f → τ.1 f = (lam σ j (t j)).1 f := fun f ha hb hc => funext (q f ha hb hc)
    exact ⟨h1 j 10 hj (Or.inl rfl), fun f a b => h1 j f hj (Or.inr ⟨a, b⟩), q 12 (by decide) (by decide) (by unfold fDay; omega) j, q' 46 (by decide) (by decide) (by unfold fDay; omega), q' 39 (by decide) (by decide) (by unfold fDay; omega), q' 40 (by decide) (by decide) (by unfold fDay; omega), q' 41 (by decide) (by decide) (by unfold fDay; omega), q' 42 (by decide) (by decide) (by unfold fDay; omega), by rw [n38]; unfold cN; rw [lam_2]⟩
  obtain ⟨l1, l2⟩ := cStepD_l (d := nI (cN σ 0 + t j + 1)) hl
  have e10 : τ.1 10 j = σ.1 10 j ∨ τ.1 10 j = -1 := by
    rw [h1 j 10 hj (Or.inl rfl)]
    exact lam_10 σ j (t j)
  have own : ¬ τ.1 10 j = -1 → ∃ s, s < cN σ 43 ∧ σ.1 10 j = nI s ∧ nx (τ.1 10 j) = s := fun q => by
    rcases e10 with e | e
    · obtain ⟨s, hs, es⟩ := (hI.2.2.2.2.2.2.2 j hj).resolve_left (fun z => q (e.trans z))
      exact ⟨s, hs, es, by rw [e, es]; exact nI_clamp (by omega)⟩
    · exact absurd e q
  refine ⟨fun i f hi hf => ?_, fun i s hi hs e => ?_, fun f x hf g1 g2 => ?_⟩
  · by_cases z : i = j
    · subst z
      dsimp only
      rw [if_pos rfl]
      exact l1 f hf
    · dsimp only
      rw [if_neg z, cStepD_o (fun w => z w.2) (fun w => by have := w.1; unfold fDay at hf; omega)]
      exact h1 i f hi hf
  · by_cases z : i = j
    · subst z
      dsimp only
      rw [if_pos rfl]
      exact l2 s (h2 i s hi hs e)
    · dsimp only
      rw [if_neg z, cStepD_o (fun w => by have := w.1; unfold fDay at this; omega) (fun w => by
        obtain ⟨-, w2, w3⟩ := w
        obtain ⟨s', hs', es', en⟩ := own w2
        rw [en] at w3
        subst w3
        have a := (hE.1 i s hi hs e).1
        have b := (hE.1 j s hj hs es').1
        rw [a] at b
        exact z ((nI_eq (by omega) (by omega)).mp b))]
      exact h2 i s hi hs e
  · rw [cStepD_o (fun w => g1 ⟨w.1, by rw [w.2]; exact hj⟩) (fun w => by
      obtain ⟨w1, w2, w3⟩ := w
      obtain ⟨s', hs', es', en⟩ := own w2
      rw [en] at w3
      subst w3
      exact g2 ⟨w1, j, hj, hs', es'⟩)]
    exact h3 f x hf g1 g2
/-- a child in no home: its days bring nothing -/
theorem Stg_e {σ τ : aS} {t : Nat → Nat} (hI : IC σ) (hE : IE σ) (h : Stg σ t τ) (n38 : cN τ 38 = cN σ 38) {j : Nat} (hj : j < cN σ 1) (e : τ.1 10 j = -1) : ∀ m, Stg σ (fun i => if i = j then t j + m else t i) τ
  | 0 => Stg_t h fun i _ => by
    by_cases z : i = j
    · rw [if_pos z, z]; rfl
    · rw [if_neg z]
  | m + 1 => by
    have ih := Stg_e hI hE h n38 hj e m
    have q := Stg_s hI hE ih n38 hj
    have e2 : ∀ d, cStepD τ j d = τ := fun d => by
      unfold cStepD
      exact iteP_t e
    rw [e2] at q
    refine Stg_t q fun i _ => ?_
    by_cases z : i = j
    · rw [if_pos z, if_pos z, if_pos rfl]; rfl
    · rw [if_neg z, if_neg z, if_neg z]
theorem runD_Stg {σ : aS} (hI : IC σ) (hE : IE σ) (c : Nat) : ∀ (m j : Nat) (τ : aS), j + m = cN σ 1 → τ.2 0 = nI (cN σ 0 + c + 1) → cN τ 38 = cN σ 38 → Stg σ (fun i => if i < j then c + 1 else c) τ → Stg σ (fun _ => c + 1) (dRun m j τ)
  | 0, j, τ, h, _, _, hs => Stg_t hs fun i hi => (if_pos (by omega)).symm
  | m + 1, j, τ, h, h0, n38, hs => by
    refine runD_Stg hI hE c m (j + 1) (dStep τ j) (by omega) (by rw [dStep_2]; exact h0) (by unfold cN at n38 ⊢; rw [dStep_2]; exact n38) ?_
    have q := Stg_s hI hE hs n38 (j := j) (by omega)
    rw [if_neg (Nat.lt_irrefl j), ← h0, ← dStep_c] at q
    refine Stg_t q fun i _ => ?_
    by_cases z : i = j
    · rw [if_pos z, if_pos (by omega)]
    · by_cases w : i < j
      · rw [if_neg z, if_pos w, if_pos (by omega)]
      · rw [if_neg z, if_neg w, if_neg (by omega)]
/-- number 0 aside, the numbers stay -/
theorem oDay_2 {τ : aS} : (oDay τ).2 = up1 τ.2 0 (τ.2 0 + 1) := dRun_2 _ _ _
theorem runDays_Stg {σ : aS} (hI : IC σ) (hE : IE σ) : ∀ (m c : Nat) (τ : aS), τ.2 0 = nI (cN σ 0 + c) → (∀ x, x ≠ 0 → τ.2 x = σ.2 x) → Stg σ (fun _ => c) τ → Stg σ (fun _ => c + m) (runDays m τ) ∧ (runDays m τ).2 0 = nI (cN σ 0 + (c + m)) ∧ ∀ x, x ≠ 0 → (runDays m τ).2 x = σ.2 x
  | 0, c, τ, h0, hx, hs => ⟨hs, h0, hx⟩
  | m + 1, c, τ, h0, hx, hs => by
    have e0 : (oDay τ).2 0 = nI (cN σ 0 + (c + 1)) := by
      rw [oDay_2, up1_s, h0, nI_1, Nat.add_assoc]
    have ex : ∀ x, x ≠ 0 → (oDay τ).2 x = σ.2 x := fun x h => by
      rw [oDay_2, up1_n h]; exact hx x h
    have n1 : cN τ 1 = cN σ 1 := congrArg Int32.toNatClampNeg (hx 1 (by decide))
    have hs1 : Stg σ (fun _ => c + 1) (oDay τ) := by
      unfold oDay
      rw [n1]
      refine runD_Stg hI hE c (cN σ 1) 0 _ (by omega) (by show up1 τ.2 0 (τ.2 0 + 1) 0 = _; rw [up1_s, h0, nI_1]) (congrArg Int32.toNatClampNeg (show up1 τ.2 0 (τ.2 0 + 1) 38 = σ.2 38 from (up1_n (by decide)).trans (hx 38 (by decide)))) ?_
      exact Stg_t (Stg_24 hs fun f hf => earnF_o hf _) fun i _ => if_neg (Nat.not_lt_zero i)
    have q := runDays_Stg hI hE m (c + 1) (oDay τ) e0 ex hs1
    rw [show c + 1 + m = c + (m + 1) by omega] at q
    exact q

