/-! THE REFERENCE: placeAll. -/
theorem oEnds_o {σ : aS} {k f : Nat} (h1 : f ≠ 10) (h2 : f ≠ 47) : (oEnds σ k).1 f = σ.1 f := by
  unfold oEnds
  split
  · rfl
  · exact (up2_far h1).trans (up2_far h2)
theorem IC_43 {A : Nat → Nat → Int32} {B : Nat → Int32} (h : IC (A, B)) (hd : cN (A, B) 43 < 100) : IC (A, up1 B 43 (B 43 + 1)) ∧ cN (A, up1 B 43 (B 43 + 1)) 43 = cN (A, B) 43 + 1 := by
  obtain ⟨a1, a2, a3, a4, a5, a6, a7, a8⟩ := h
  have e : B 43 + 1 = nI (cN (A, B) 43 + 1) := by
    have q : B 43 = nI (cN (A, B) 43) := a6.1
    rw [q, nI_1]
  have e2 : cN (A, up1 B 43 (B 43 + 1)) 43 = cN (A, B) 43 + 1 := by
    show (up1 B 43 (B 43 + 1) 43).toNatClampNeg = _
    rw [up1_s, e, nI_clamp (by omega)]
  refine ⟨⟨a1, a2, a3, a4, a5, ⟨by rw [e2]; show up1 B 43 (B 43 + 1) 43 = _; rw [up1_s, e], by omega⟩, a7, fun k hk => ?_⟩, e2⟩
  rcases a8 k hk with q | ⟨j, hj, q⟩
  · exact Or.inl q
  · exact Or.inr ⟨j, by omega, q⟩
theorem IC_10s {A : Nat → Nat → Int32} {B : Nat → Int32} {k n : Nat} (h : IC (A, B)) (hn : n < cN (A, B) 43) : IC (up2 A 10 k (nI n), B) := by
  obtain ⟨a1, a2, a3, a4, a5, a6, a7, a8⟩ := h
  refine ⟨a1, a2, a3, a4, a5, a6, fun i hi => ?_, fun i hi => ?_⟩
  · have e : ∀ i, up2 A 10 k (nI n) 34 i = A 34 i := fun i => up2_n1 (by decide)
    have := a7 i hi
    simp only [rN, e] at this ⊢
    exact this
  · by_cases q : i = k
    · subst q
      exact Or.inr ⟨n, hn, up2_s⟩
    · have e : up2 A 10 k (nI n) 10 i = A 10 i := up2_n2 q
      have := a8 i hi
      simp only [e]
      exact this
theorem IC_begins {σ : aS} {k : Nat} {h : Int32} (hI : IC σ) (hc : cN σ 43 < 100) : IC (oBegins σ k h).2 ∧ cN (oBegins σ k h).2 43 = cN σ 43 + 1 := by
  have q := IC_43 (IC_beg1 (k := k) (n := cN σ 43) (h := h) hI) hc
  refine ⟨?_, q.2⟩
  exact IC_A (IC_A (IC_10s (IC_A q.1 (by decide) (by decide)) (show cN σ 43 < _ from by rw [show cN (up2 (oBeg1 σ k (cN σ 43) h).1 48 (cN σ 43) (mCounts (oBeg1 σ k (cN σ 43) h) (nI k) (σ.2 0)), up1 σ.2 43 (σ.2 43 + 1)) 43 = cN σ 43 + 1 from q.2]; exact Nat.lt_succ_self _)) (by decide) (by decide)) (by decide) (by decide)
theorem IS_begins {σ : aS} {k w : Nat} (hI : IC σ) (hS : IS σ) (hc : cN σ 43 < 100) (hk : k < cN σ 1) (hw : w < cN σ 20) : IS (oBegins σ k (nI w)).2 := by
  intro j hj
  rw [(IC_begins hI hc).2] at hj
  have e44 : (oBegins σ k (nI w)).2.1 44 = up2 (oEnds σ k).1 44 (cN σ 43) (nI k) 44 := by
    unfold oBegins oBeg1
    dsimp only
    simp only [up2_far (show (44 : Nat) ≠ 13 by decide), up2_far (show (44 : Nat) ≠ 11 by decide), up2_far (show (44 : Nat) ≠ 10 by decide), up2_far (show (44 : Nat) ≠ 48 by decide), up2_far (show (44 : Nat) ≠ 47 by decide), up2_far (show (44 : Nat) ≠ 46 by decide), up2_far (show (44 : Nat) ≠ 45 by decide)]
  have e45 : (oBegins σ k (nI w)).2.1 45 = up2 (up2 (oEnds σ k).1 44 (cN σ 43) (nI k)) 45 (cN σ 43) (nI w) 45 := by
    unfold oBegins oBeg1
    dsimp only
    simp only [up2_far (show (45 : Nat) ≠ 13 by decide), up2_far (show (45 : Nat) ≠ 11 by decide), up2_far (show (45 : Nat) ≠ 10 by decide), up2_far (show (45 : Nat) ≠ 48 by decide), up2_far (show (45 : Nat) ≠ 47 by decide), up2_far (show (45 : Nat) ≠ 46 by decide)]
  rw [e44, e45]
  by_cases q : j = cN σ 43
  · subst q
    exact ⟨⟨k, hk, up2_s⟩, ⟨w, hw, up2_s⟩⟩
  · rw [up2_n2 q, up2_n2 q, up2_n1 (by decide), show (oEnds σ k).1 44 = σ.1 44 from oEnds_o (by decide) (by decide), show (oEnds σ k).1 45 = σ.1 45 from oEnds_o (by decide) (by decide)]
    exact hS j (by omega)
def cntU (n : Nat) (a : Nat → Int32) : Nat → Nat
  | 0 => 0
  | k + 1 => cntU n a k + if a k < nI n then 1 else 0
theorem cntU_le {n : Nat} {a : Nat → Int32} : ∀ {t k : Nat}, cntU n a k ≤ cntU n a (k + t)
  | 0, _ => Nat.le_refl _
  | t + 1, k => by
    have := cntU_le (n := n) (a := a) (t := t) (k := k)
    show _ ≤ cntU n a (k + t) + _
    omega
theorem cntU_le2 {n : Nat} {a : Nat → Int32} : ∀ k, cntU n a k ≤ k
  | 0 => Nat.le_refl _
  | k + 1 => by
    have := cntU_le2 (n := n) (a := a) k
    show cntU n a k + (if a k < nI n then 1 else 0) ≤ k + 1
    split <;> omega
theorem plc_cnt {n : Nat} {a : Nat → Int32} : ∀ k, plc (nI n) a k = nI (cntU n a k)
  | 0 => rfl
  | k + 1 => by
    by_cases q : a k < nI n
    · rw [plc_t q, plc_cnt k, nI_1]
      show _ = nI (cntU n a k + if a k < nI n then 1 else 0)
      rw [if_pos q]
    · rw [plc_f q, plc_cnt k, Int32.add_zero]
      show _ = nI (cntU n a k + if a k < nI n then 1 else 0)
      rw [if_neg q]; rfl
noncomputable def paC (σ : aS) (kin : Int32) : Nat × (Nat → Nat → Int32) := iteP (inP kin 0 7) (cw σ kin (cN σ 1)) (0, σ.1)
noncomputable def paF (σ : aS) (kin : Int32) : Int32 × (Nat → Nat → Int32) := oFinds ((paC σ kin).2, up1 σ.2 49 (nI (paC σ kin).1)) (paC σ kin).1
noncomputable def paY (σ : aS) (kin : Int32) : Int32 := iteP ((paC σ kin).1 ≤ 5) (pI9 (σ.2 43 + (paF σ kin).1 ≤ 100)) 0
noncomputable def paA (σ : aS) (kin : Int32) : Nat → Nat → Int32 := iteP ((paC σ kin).1 ≤ 5) (paF σ kin).2 (paC σ kin).2
noncomputable def paT (σ : aS) (kin : Int32) : Int32 := gT (bI (inP kin 0 7)) (paY σ kin) 1
noncomputable def bRun : Nat → Nat → aS → Int32 → Int32 × aS
  | 0, _, τ, pl => (pl, τ)
  | t + 1, k, τ, pl => iteP (τ.1 52 k < τ.2 20) (bRun t (k + 1) (oBegins τ (nx (τ.1 50 k)) (τ.1 52 k)).2 (pl + 1)) (bRun t (k + 1) τ pl)
noncomputable def oPlaceAll (σ : aS) (kin : Int32) : Int32 × aS := iteP (paT σ kin = 0) (bRun (paC σ kin).1 0 (paA σ kin, up1 (up1 σ.2 49 (nI (paC σ kin).1)) 56 0) 0) (0, (paA σ kin, up1 (up1 σ.2 49 (nI (paC σ kin).1)) 56 (paT σ kin)))
theorem paC_w {σ : aS} {kin : Int32} (h5 : (paC σ kin).1 ≤ 5) : ∀ k, k < (paC σ kin).1 → ∃ c, c < cN σ 1 ∧ (paC σ kin).2 50 k = nI c := by
  by_cases q : inP kin 0 7
  · rw [paC, iteP_t q] at h5 ⊢
    exact fun k hk => cw_w σ kin _ k hk (by omega)
  · rw [paC, iteP_f q]
    exact fun k hk => absurd hk (Nat.not_lt_zero k)
theorem paF_p {σ : aS} {kin : Int32} (hI : IC σ) : keepsW (cN σ 20) (paC σ kin).1 (paF σ kin).2 (paF σ kin).1 ∧ ∀ g, g ≠ 51 → g ≠ 52 → g ≠ 53 → g ≠ 54 → g ≠ 55 → (paF σ kin).2 g = (paC σ kin).2 g := by
  have r := srch_p (B := up1 σ.2 49 (nI (paC σ kin).1)) (n := cN σ 20) (M := (paC σ kin).1) hI.2.2.1.1 hI.2.2.1.2 ((cN σ 20 + 1) ^ (paC σ kin).1) (fil2 ((paC σ kin).2, up1 σ.2 49 (nI (paC σ kin).1)) (paC σ kin).1) (-1) 0
    (fun i hi => ⟨0, Nat.zero_le _, fil2_51 _ i hi⟩) (by
      have h0 : ∀ c, c ≤ (paC σ kin).1 → rk (cN σ 20) (fil2 ((paC σ kin).2, up1 σ.2 49 (nI (paC σ kin).1)) (paC σ kin).1 51) c = 0 := by
        intro c
        induction c with
        | zero => exact fun _ => rfl
        | succ c ihc =>
          intro hc
          show rk (cN σ 20) (fil2 ((paC σ kin).2, up1 σ.2 49 (nI (paC σ kin).1)) (paC σ kin).1 51) c * (cN σ 20 + 1) + nx (fil2 ((paC σ kin).2, up1 σ.2 49 (nI (paC σ kin).1)) (paC σ kin).1 51 c) = 0
          rw [ihc (by omega), fil2_51 _ c (by omega), Nat.zero_mul]
          rfl
      rw [h0 _ (Nat.le_refl _), Nat.zero_add]) (Or.inl rfl)
  exact ⟨r.1, fun g g1 g2 g3 g4 g5 => (r.2 g g1 g2).trans (fil2_o g1 g3 g4 g5 _)⟩
