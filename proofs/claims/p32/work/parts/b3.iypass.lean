/-! WHAT HOLDS BETWEEN CALLS, more: place, pass. -/
theorem IY_place {σ : aS} {x h : Int32} (hW : IW σ) (hY : IY σ) : IY (oPlace σ x h).2 := by
  unfold oPlace
  by_cases ht : tPlace σ x h = 0
  · rw [if_pos ht]
    obtain ⟨g1, g2, -⟩ := gT_x ht
    rw [pI9_ne] at g1 g2
    obtain ⟨-, g3, g4, g5⟩ := g2
    obtain ⟨k, k1, rfl⟩ := ch_ix hW.1 g1.1
    obtain ⟨w, w1, rfl⟩ := ho_ix hW.1 g1.2
    have n1 := hW.1.2.1.2
    have n20 := hW.1.2.2.1.2
    rw [nx_nI (j := k) (by omega)] at g4 ⊢
    rw [nx_nI (j := w) (by omega)] at g4
    have n43 := hW.1.2.2.2.2.2.1
    rw [n43.1] at g5
    have g6 := (nI_ltI (by omega) (by decide)).mp (show nI (cN σ 43) < nI 100 from g5)
    obtain ⟨-, q1, q2, -⟩ := why_0 g4
    exact IY_begins (σ := sT σ 0) hW hY k1 w1 g6 q1 q2
  · rw [if_neg ht]
    exact IY_sT hY
theorem nI_add1 (n : Nat) : nI n + 1 = nI (n + 1) := nI_1 n
theorem VB_vis {σ : aS} {k b : Nat} (hb : b < 12000) (h : VB σ k b) : VB (oVisited σ k) k (b + 1) := by
  obtain ⟨c, m, d, h1, h2, h3, h4, h5, h6, h7⟩ := h
  have v14 : (oVisited σ k).1 14 k = σ.1 14 k + if σ.1 13 k = 0 then 0 else 1 := by
    unfold oVisited vis5 vis4 vis3 vis2 vis1
    dsimp only
    rw [up2_n1 (by decide), up2_n1 (by decide), up2_n1 (by decide), up2_n1 (by decide), up2_s, up2_n1 (by decide)]
  have v15 : (oVisited σ k).1 15 k = σ.1 15 k + if σ.1 13 k = 0 then 1 else 0 := by
    unfold oVisited vis5 vis4 vis3 vis2 vis1
    dsimp only
    rw [up2_n1 (by decide), up2_n1 (by decide), up2_n1 (by decide), up2_s, up2_n1 (by decide), up2_n1 (by decide)]
  have w17 : vis5 σ k 17 k = if σ.1 13 k = 0 then σ.1 17 k + 1 else 0 := by
    unfold vis5 vis4 vis3 vis2 vis1
    rw [up2_s, up2_n1 (by decide), up2_n1 (by decide), up2_n1 (by decide), up2_n1 (by decide)]
  have v17 : (oVisited σ k).1 17 k = if σ.1 13 k = 0 then σ.1 17 k + 1 else 0 := by
    unfold oVisited
    dsimp only
    rw [up2_n1 (by decide), w17]
  have v18 : (oVisited σ k).1 18 k = pI9 (visW σ k) := by
    unfold oVisited
    dsimp only
    rw [up2_s]
  have w18 : vis5 σ k 18 k = σ.1 18 k := by
    unfold vis5 vis4 vis3 vis2 vis1
    rw [up2_n1 (by decide), up2_n1 (by decide), up2_n1 (by decide), up2_n1 (by decide), up2_n1 (by decide)]
  have k18 : ∀ m', m ≤ m' → (∀ e, e ≤ 12000 → vis5 σ k 17 k = nI e → e ≤ m') → vis5 σ k 17 k = (if σ.1 13 k = 0 then nI (d + 1) else nI 0) → pI9 (visW σ k) = 0 ∨ 3 ≤ m' := fun m' hm he hv => by
    by_cases q : visW σ k
    · refine Or.inr ?_
      unfold visW at q
      rcases q with q | ⟨q, -⟩
      · by_cases z : σ.1 13 k = 0
        · rw [if_pos z] at hv
          have := he (d + 1) (by omega) hv
          rw [hv] at q
          have := (nI_leI (by decide) (by omega)).mp (show nI 3 ≤ nI (d + 1) from q)
          omega
        · rw [if_neg z] at hv
          rw [hv] at q
          exact absurd q (by decide)
      · rw [w18] at q
        rcases h7 with z | z
        · exact absurd z q
        · omega
    · exact Or.inl (pI9_f q)
  by_cases z : σ.1 13 k = 0
  · rw [if_pos z] at v14 v15 v17
    have e17 : vis5 σ k 17 k = nI (d + 1) := by rw [w17, if_pos z, h6, nI_1]
    refine ⟨c, m + 1, d + 1, by omega, by omega, by omega, by rw [v14, h4, Int32.add_zero], by rw [v15, h5, nI_1], by rw [v17, h6, nI_1], ?_⟩
    rw [v18]
    refine k18 (m + 1) (by omega) (fun e he q => ?_) (by rw [if_pos z]; exact e17)
    have := (nI_eq (by omega) (by omega)).mp (e17.symm.trans q)
    omega
  · rw [if_neg z] at v14 v15 v17
    refine ⟨c + 1, m, 0, by omega, by omega, Nat.zero_le _, by rw [v14, h4, nI_1], by rw [v15, h5, Int32.add_zero], v17, ?_⟩
    rw [v18]
    have e17 : vis5 σ k 17 k = nI 0 := by rw [w17, if_neg z]; rfl
    refine k18 m (Nat.le_refl _) (fun e he q => ?_) (by rw [if_neg z]; exact e17)
    have := (nI_eq (by omega) (by omega)).mp (e17.symm.trans q)
    omega
theorem vis_ff {σ : aS} {k f : Nat} (h : f < 13 ∨ 18 < f) : (oVisited σ k).1 f = σ.1 f := by
  unfold oVisited vis5 vis4 vis3 vis2 vis1
  dsimp only
  rw [up2_f (by omega), up2_f (by omega), up2_f (by omega), up2_f (by omega), up2_f (by omega), up2_f (by omega)]
theorem vis_oo {σ : aS} {k f j : Nat} (h : j ≠ k) : (oVisited σ k).1 f j = σ.1 f j := by
  unfold oVisited vis5 vis4 vis3 vis2 vis1
  dsimp only
  rw [up2_n2 h, up2_n2 h, up2_n2 h, up2_n2 h, up2_n2 h, up2_n2 h]
theorem IY_vis {σ : aS} {k b : Nat} (hY : IY σ) (hI : IC σ) (hb : b + 1 ≤ cN σ 0) (hv : VB σ k b) : IY (oVisited σ k) := by
  have n0 := hI.1.2
  obtain ⟨h1, h2, h3, h4⟩ := hY
  have r : ∀ f, f < 13 ∨ 18 < f → (oVisited σ k).1 f = σ.1 f := fun f hf => vis_ff hf
  have eN : ∀ x, cN (oVisited σ k) x = cN σ x := fun _ => rfl
  refine ⟨fun x hx => ?_, fun m hm => ?_, fun j hj => ?_, fun x hx i hi => ?_⟩
  · obtain ⟨a1, a2, a3⟩ := h1 x hx
    refine ⟨by rw [r 8 (by decide)]; exact a1, ?_, by rw [r 11 (by decide), r 44 (by decide)]; exact a3⟩
    by_cases q : x = k
    · subst q
      have := VB_vis (by omega) hv
      obtain ⟨c, m, d, t1, t2, t3⟩ := this
      exact ⟨c, m, d, Nat.le_trans t1 hb, Nat.le_trans t2 hb, t3⟩
    · exact VB_of a2 (vis_oo q) (vis_oo q) (vis_oo q) (vis_oo q) (Nat.le_refl _)
  · rw [hmT_of (r 10 (by decide)) (r 45 (by decide)), r 23 (by decide)]
    exact h2 m hm
  · exact YS_of (h3 j hj) (r 3 (by decide)) (r 44 (by decide)) (r 46 (by decide)) (r 47 (by decide)) (r 48 (by decide)) (Nat.le_refl _) (Nat.le_refl _)
  · refine YR_of (h4 x hx i ?_) (congrFun (r 36 (by decide)) _) (congrFun (r 37 (by decide)) _) (Nat.le_refl _)
    unfold rN at hi ⊢
    rw [r 34 (by decide)] at hi
    exact hi
theorem IY_dStep {τ : aS} {j b : Nat} (hW : IW τ) (hY : IY τ) (hj : j < cN τ 1) (hb : b + 1 ≤ cN τ 0) (hv : VB τ j b) : IY (dStep τ j) ∧ ∀ x, x ≠ j → VB τ x b → VB (dStep τ j) x b := by
  by_cases h1 : τ.1 10 j = -1
  · rw [dStep, iteP_t h1]; exact ⟨hY, fun _ _ h => h⟩
  · rw [dStep, iteP_f h1]
    by_cases h2 : ¬ mKindOn τ (nI j) (τ.2 0) = 0 ∧ ¬ mKindOn τ (nI j) (τ.2 0) = 2
    · rw [iteP_t h2]
      exact ⟨IY_ends hW hY hj, fun x _ h => VB_of h (congrFun (oEnds_o (by decide) (by decide)) x) (congrFun (oEnds_o (by decide) (by decide)) x) (congrFun (oEnds_o (by decide) (by decide)) x) (congrFun (oEnds_o (by decide) (by decide)) x) (Nat.le_refl _)⟩
    · rw [iteP_f h2]
      by_cases h3 : ¬ τ.1 12 j ≤ 0 ∧ (τ.2 0 - τ.1 46 (nx (τ.1 10 j))) - (τ.2 0 - τ.1 46 (nx (τ.1 10 j))) / τ.1 12 j * τ.1 12 j = 0
      · rw [iteP_t h3]
        exact ⟨IY_vis hY hW.1 hb hv, fun x hx h => VB_of h (vis_oo hx) (vis_oo hx) (vis_oo hx) (vis_oo hx) (Nat.le_refl _)⟩
      · rw [iteP_f h3]; exact ⟨hY, fun _ _ h => h⟩
theorem IY_dRun {b : Nat} : ∀ (t j : Nat) (τ : aS), IW τ → IY τ → j + t ≤ cN τ 1 → b + 1 ≤ cN τ 0 → (∀ x, j ≤ x → x < cN τ 1 → VB τ x b) → IY (dRun t j τ)
  | 0, _, _, _, h, _, _, _ => h
  | t + 1, j, τ, hW, hY, hj, hb, hv => by
    obtain ⟨y1, y2⟩ := IY_dStep hW hY (show j < cN τ 1 by omega) hb (hv j (Nat.le_refl _) (by omega))
    have eN : ∀ x, cN (dStep τ j) x = cN τ x := fun x => congrArg Int32.toNatClampNeg (congrFun dStep_2 x)
    exact IY_dRun t (j + 1) (dStep τ j) (IW_dStep hW (by omega)) y1 (by rw [eN]; omega) (by rw [eN]; exact hb) (fun x x1 x2 => y2 x (by omega) (hv x (by omega) (by rw [eN] at x2; exact x2)))
theorem IW_earned {σ : aS} (h : IW σ) (hd : cN σ 0 < 12000) : IW (earnF σ (cN σ 1), up1 σ.2 0 (σ.2 0 + 1)) := by
  have hI := h.1
  obtain ⟨a1, a2, a3, a4, a5, a6, a7, a8, a9, a10, a11, a12, a13⟩ := h
  have e1 : σ.2 0 + 1 = nI (cN σ 0 + 1) := by rw [show σ.2 0 = nI (cN σ 0) from a1.1.1, nI_1]
  have n0 : ∀ A, cN (A, up1 σ.2 0 (σ.2 0 + 1)) 0 = cN σ 0 + 1 := fun A => by rw [e1]; exact cN_at (by omega)
  have r : ∀ f, f ≠ 24 → earnF σ (cN σ 1) f = σ.1 f := fun f hf => earnF_o hf _
  exact ⟨IC_0 (IC_earn a1 _) hd, IS_earn a2 _, IZ_of a3 (fun f hf => r f (by have := mZ_is hf; omega)), IO_of a4 (r 42 (by decide)) rfl, IN_of a5 (r 4 (by decide)) rfl, IP_of a6 (r 6 (by decide)) (r 21 (by decide)) rfl rfl, IQ_earn a1 a2 a7 _ (Nat.le_refl _), JT_of a8 (r 28 (by decide)) (r 29 (by decide)) (r 30 (by decide)) (by rw [n0]; omega) rfl, IR_of a9 (r 37 (by decide)) (r 34 (by decide)) rfl, IA_of a10 (r 2 (by decide)) (r 3 (by decide)) rfl (by rw [n0]; omega), IE_of a11 (r 10 (by decide)) (r 44 (by decide)) (r 47 (by decide)) rfl rfl, ID_earn a1 a2 a10 a5 a11 a12 hd, IBd_of a13 (r 23 (by decide)) rfl⟩
theorem IY_day {σ : aS} (h : IW σ) (hY : IY σ) (hd : cN σ 0 < 12000) : IY (oDay σ) := by
  have hI := h.1
  have hW0 := h
  obtain ⟨a1, a2, a3, a4, a5, a6, a7, a8, a9, a10, a11, a12, a13⟩ := h
  have e1 : σ.2 0 + 1 = nI (cN σ 0 + 1) := by rw [show σ.2 0 = nI (cN σ 0) from a1.1.1, nI_1]
  have n0 : ∀ A, cN (A, up1 σ.2 0 (σ.2 0 + 1)) 0 = cN σ 0 + 1 := fun A => by rw [e1]; exact cN_at (by omega)
  have r : ∀ f, f ≠ 24 → earnF σ (cN σ 1) f = σ.1 f := fun f hf => earnF_o hf _
  have W := IW_earned hW0 hd
  refine IY_dRun (b := cN σ 0) _ _ _ W ?_ (by rw [Nat.zero_add]; exact Nat.le_refl _) (by rw [n0]; exact Nat.le_refl _) (fun x _ hx => ?_)
  · refine IY_of hY (fun f hf => r f fun e => by subst e; exact absurd hf (by decide)) rfl rfl rfl (by rw [n0]; omega) (Nat.le_refl _)
  · exact VB_of (hY.1 x hx).2.1 (congrFun (r 14 (by decide)) x) (congrFun (r 15 (by decide)) x) (congrFun (r 17 (by decide)) x) (congrFun (r 18 (by decide)) x) (Nat.le_refl _)
theorem IY_days : ∀ (c : Nat) {σ : aS}, IW σ → IY σ → cN σ 0 + c ≤ 12000 → IY (runDays c σ) ∧ cN (runDays c σ) 0 = cN σ 0 + c
  | 0, _, _, h, _ => ⟨h, rfl⟩
  | c + 1, σ, h, hY, hc => by
    obtain ⟨d1, d2, d3⟩ := IW_day h (by omega)
    obtain ⟨e1, e2⟩ := IY_days c d1 (IY_day h hY (by omega)) (by omega)
    exact ⟨e1, by rw [show runDays (c + 1) σ = runDays c (oDay σ) from rfl, e2, d3]; omega⟩
theorem tPass_d {σ : aS} {v : Int32} (hI : IC σ) (ht : tPass σ v = 0) : ∃ n, 1 ≤ n ∧ n ≤ 400 ∧ v = nI n ∧ cN σ 0 + n ≤ 12000 := by
  obtain ⟨g1, g2, -⟩ := gT_x ht
  rw [bI_ne] at g1
  rw [pI9_ne] at g2
  obtain ⟨n, n1, rfl⟩ := nI_ofL (Int32.le_trans (by decide) g1.1) g1.2 (n := 400) rfl
  have g3 := (nI_leI (by decide) (by omega)).mp (show nI 1 ≤ nI n from g1.1)
  rw [hI.1.1, nI_add] at g2
  have := hI.1.2
  exact ⟨n, g3, n1, rfl, (nI_leI (by omega) (by decide)).mp (show nI (cN σ 0 + n) ≤ nI 12000 from g2)⟩
theorem IY_pass {σ : aS} {v : Int32} (h : IW σ) (hY : IY σ) : IY (oPass σ v).2 := by
  unfold oPass
  by_cases ht : tPass σ v = 0
  · rw [if_pos ht]
    obtain ⟨n, n1, n2, rfl, n3⟩ := tPass_d h.1 ht
    rw [nx_nI (j := n) (by omega)]
    exact (IY_days n (σ := sT σ 0) h hY n3).1
  · rw [if_neg ht]
    exact IY_sT hY
