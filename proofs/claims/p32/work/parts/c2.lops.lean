/-! THE LAW: what its acts say of an order, a placing, the others. -/
theorem cnt_last {σ : aS} {n A D : Nat} {x : Int32} (eN : cN σ 38 = n + 1) (r39 : σ.1 39 n = x) (r41 : σ.1 41 n = nI A) (r42 : σ.1 42 n = nI (A + D - 1)) (hD : 1 ≤ D) (h : A + D < 30000) (hn : n < 1000) :
    mCounts σ x (nI A) = nI n ∧ mCounts σ x (nI (A + D - 1)) = nI n ∧ ¬ mCounts σ x (nI (A + D)) = nI n := by
  unfold mCounts
  rw [eN]
  refine ⟨flast_t ⟨r39, by rw [r41]; exact Int32.le_refl _, by rw [r42]; exact nI_le (by omega) (by omega)⟩, flast_t ⟨r39, by rw [r41]; exact nI_le (by omega) (by omega), by rw [r42]; exact Int32.le_refl _⟩, ?_⟩
  have ng : ¬ (σ.1 39 n = x ∧ (σ.1 41 n ≤ nI (A + D) ∧ nI (A + D) ≤ σ.1 42 n)) := fun z => by
    have := z.2.2
    rw [r42] at this
    have := (nI_leI (by omega) (by omega)).mp this
    omega
  rw [flast_f ng]
  intro z
  rcases flast_is (p := fun j => σ.1 39 j = x ∧ (σ.1 41 j ≤ nI (A + D) ∧ nI (A + D) ≤ σ.1 42 j)) n with e | ⟨j, j1, j2, -⟩
  · exact nI_ne_m1 (by omega) (z.symm.trans e)
  · have := (nI_eq (by omega) (by omega)).mp (j2.symm.trans z)
    omega
theorem LJ_order {σ : aS} {γ : Nat → Nat → Int32} (hW : IW σ) (hL : LJ σ γ) {x kd A D : Nat} (hx : x < cN σ 1) (hk : kd ≤ 2) (hA : cN σ 0 ≤ A) (hA2 : A ≤ 13000) (hD : 1 ≤ D) (hD2 : D ≤ 300) (h38 : cN σ 38 < 32) :
    tOrder σ (nI x) (nI kd) (nI A) (nI D) = 0 ∧ (oOrder σ (nI x) (nI kd) (nI A) (nI D)).1 = nI (cN σ 38) ∧ LJ (oOrder σ (nI x) (nI kd) (nI A) (nI D)).2 (up2 (up2 (up2 (up2 γ 6 (cN σ 38) (nI x)) 7 (2 * cN σ 38) (nI A)) 7 (2 * cN σ 38 + 1) (nI (A + D - 1))) 0 2 (nI (cN σ 38 + 1))) ∧
    cN (oOrder σ (nI x) (nI kd) (nI A) (nI D)).2 1 = cN σ 1 ∧ mCounts (oOrder σ (nI x) (nI kd) (nI A) (nI D)).2 (nI x) (nI A) = nI (cN σ 38) ∧ mCounts (oOrder σ (nI x) (nI kd) (nI A) (nI D)).2 (nI x) (nI (A + D - 1)) = nI (cN σ 38) ∧ ¬ mCounts (oOrder σ (nI x) (nI kd) (nI A) (nI D)).2 (nI x) (nI (A + D)) = nI (cN σ 38) := by
  have hI := hW.1
  have n0 := hI.1.2
  have t : tOrder σ (nI x) (nI kd) (nI A) (nI D) = 0 := by
    refine gT_0 (bI_ne.mpr (ch_p hI hx)) (pI9_ne.mpr ⟨in_n (Nat.zero_le _) hk (by decide), ?_, in_n hD (b := 7000) (by omega) (by decide)⟩) (bI_ne.mpr ?_)
    · rw [hI.1.1]
      exact in_n hA (b := 20000) (by omega) (by decide)
    · rw [hI.2.2.2.2.1.1]
      exact nI_lt (b := 60) (by omega) (by decide)
  have Y := IYV_order (x := nI x) (a := nI kd) (b := nI A) (c := nI D) hI hL.2.1
  refine ⟨t, ?_, ?_⟩
  · rw [oOrder, if_pos t]
    show σ.2 38 + 1 - 1 = _
    rw [hI.2.2.2.2.1.1, nI_1, nI_prv]
  have hz := hL.2.2
  rw [oOrder, if_pos t] at Y ⊢
  obtain ⟨⟨a0, a1, a2, a3, a4⟩, ⟨a5, a6⟩, h3, h4, h5⟩ := hL.1
  have e1 : σ.2 38 + 1 = nI (cN σ 38 + 1) := by rw [hI.2.2.2.2.1.1, nI_1]
  have eD : nI A + nI D - 1 = nI (A + D - 1) := by rw [nI_add]; exact pk_sub (a := A + D) (b := 1) (by omega)
  dsimp only at Y ⊢
  rw [e1, eD] at Y ⊢
  obtain ⟨A0, B⟩ := σ
  generalize hn : cN (A0, B) 38 = n at *
  have eN : ∀ A', cN (A', up1 (up1 B 56 0) 38 (nI (n + 1))) 38 = n + 1 := fun A' => cN_at (by omega)
  have g0 : ∀ j, j ≠ 2 → up2 (up2 (up2 (up2 γ 6 n (nI x)) 7 (2 * n) (nI A)) 7 (2 * n + 1) (nI (A + D - 1))) 0 2 (nI (n + 1)) 0 j = γ 0 j := fun j h2 => by
    rw [up2_n2 h2, up2_n1 (by decide), up2_n1 (by decide), up2_n1 (by decide)]
  have gf : ∀ f j, f ≠ 0 → f < 6 → up2 (up2 (up2 (up2 γ 6 n (nI x)) 7 (2 * n) (nI A)) 7 (2 * n + 1) (nI (A + D - 1))) 0 2 (nI (n + 1)) f j = γ f j := fun f j h1 h2 => by
    rw [up2_n1 h1, up2_n1 (by omega), up2_n1 (by omega), up2_n1 (by omega)]
  have r : ∀ f j, f < 39 ∨ 42 < f ∨ j ≠ n → up2 (up2 (up2 (up2 A0 39 n (nI x)) 40 n (nI kd)) 41 n (nI A)) 42 n (nI (A + D - 1)) f j = A0 f j := fun f j hf => by
    by_cases q : j = n
    · rw [up2_n1 (by omega), up2_n1 (by omega), up2_n1 (by omega), up2_n1 (by omega)]
    · rw [up2_n2 q, up2_n2 q, up2_n2 q, up2_n2 q]
  have r39 : up2 (up2 (up2 (up2 A0 39 n (nI x)) 40 n (nI kd)) 41 n (nI A)) 42 n (nI (A + D - 1)) 39 n = nI x := by
    rw [up2_n1 (by decide), up2_n1 (by decide), up2_n1 (by decide), up2_s]
  have r41 : up2 (up2 (up2 (up2 A0 39 n (nI x)) 40 n (nI kd)) 41 n (nI A)) 42 n (nI (A + D - 1)) 41 n = nI A := by
    rw [up2_n1 (by decide), up2_s]
  have r42 : up2 (up2 (up2 (up2 A0 39 n (nI x)) 40 n (nI kd)) 41 n (nI A)) 42 n (nI (A + D - 1)) 42 n = nI (A + D - 1) := up2_s
  refine ⟨⟨⟨⟨?_, ?_, ?_, ?_, ?_⟩, ⟨a5, by rw [eN]; omega⟩, fun k hk => ?_, fun m hm => ?_, fun i hi => ?_⟩, Y, fun m h1 h2 => ?_⟩, rfl, ?_, ?_, ?_⟩
  · exact (g0 0 (by decide)).trans a0
  · exact (g0 1 (by decide)).trans a1
  · rw [eN]; exact up2_s
  · exact (g0 3 (by decide)).trans a3
  · exact (g0 4 (by decide)).trans a4
  · obtain ⟨q1, q2, q3⟩ := h3 k hk
    dsimp only
    rw [gf 1 k (by decide) (by decide), gf 2 k (by decide) (by decide), gf 3 k (by decide) (by decide), r 2 k (by omega), r 3 k (by omega), r 4 k (by omega), r 5 k (by omega)]
    exact ⟨q1, q2, q3⟩
  · obtain ⟨q1, q2⟩ := h4 m hm
    dsimp only
    rw [gf 4 m (by decide) (by decide), gf 5 m (by decide) (by decide), r 23 m (by omega), r 25 m (by omega)]
    exact ⟨q1, q2⟩
  · rw [eN] at hi
    dsimp only
    by_cases q : i = n
    · subst q
      rw [r39, r41, r42]
      refine ⟨?_, ?_, ?_⟩
      · rw [up2_n1 (by decide), up2_n1 (by decide), up2_n1 (by decide), up2_s]
      · rw [up2_n1 (by decide), up2_n2 (by omega), up2_s]
      · rw [up2_n1 (by decide), up2_s]
    · obtain ⟨q1, q2, q3⟩ := h5 i (by omega)
      rw [r 39 i (Or.inr (Or.inr q)), r 41 i (Or.inr (Or.inr q)), r 42 i (Or.inr (Or.inr q))]
      refine ⟨?_, ?_, ?_⟩
      · rw [up2_n1 (by decide), up2_n1 (by decide), up2_n1 (by decide), up2_n2 q]; exact q1
      · rw [up2_n1 (by decide), up2_n2 (by omega), up2_n2 (by omega), up2_n1 (by decide)]; exact q2
      · rw [up2_n1 (by decide), up2_n2 (by omega), up2_n2 (by omega), up2_n1 (by decide)]; exact q3
  · rw [gf 5 m (by decide) (by decide)]
    exact hz m h1 h2
  · exact (cnt_last (eN _) r39 r41 r42 hD (by omega) (by omega)).1
  · exact (cnt_last (eN _) r39 r41 r42 hD (by omega) (by omega)).2.1
  · exact (cnt_last (eN _) r39 r41 r42 hD (by omega) (by omega)).2.2
/-! a placing -/
theorem mWhyOn_c2 {σ σ' : aS} (r : ∀ f, f ≤ 42 → f ≠ 10 → f ≠ 11 → f ≠ 13 → σ'.1 f = σ.1 f) (n38 : cN σ' 38 = cN σ 38) (n27 : cN σ' 27 = cN σ 27) {c : Nat} {x on : Int32} : mWhyOn σ' c x on = mWhyOn σ c x on := by
  have eK : mKindOn σ' (nI c) on = mKindOn σ (nI c) on := mKindOn_congr (r 39 (by decide) (by decide) (by decide) (by decide)) (r 40 (by decide) (by decide) (by decide) (by decide)) (r 41 (by decide) (by decide) (by decide) (by decide)) (r 42 (by decide) (by decide) (by decide) (by decide)) n38
  have eT : ∀ s, mToldOn σ' x s on = mToldOn σ x s on := fun s => by
    unfold mToldOn
    rw [r 28 (by decide) (by decide) (by decide) (by decide), r 29 (by decide) (by decide) (by decide) (by decide), r 30 (by decide) (by decide) (by decide) (by decide), n27]
  unfold mWhyOn mCan mYears
  rw [eK, eT, eT, eT, r 31 (by decide) (by decide) (by decide) (by decide), r 32 (by decide) (by decide) (by decide) (by decide), r 33 (by decide) (by decide) (by decide) (by decide), r 2 (by decide) (by decide) (by decide) (by decide), r 3 (by decide) (by decide) (by decide) (by decide), r 4 (by decide) (by decide) (by decide) (by decide)]
theorem LJ_place {σ : aS} {γ : Nat → Nat → Int32} (hW : IW σ) (hL : LJ σ γ) {x h : Nat} (hx : x < cN σ 1) (hh : h < cN σ 20) (h0 : mWhyNot σ x h = 0) (h1 : ¬ mHomeOf σ x = nI h) (h2 : cN σ 43 < 100) :
    tPlace σ (nI x) (nI h) = 0 ∧ (oPlace σ (nI x) (nI h)).1 = nI (cN σ 43) ∧ LJ (oPlace σ (nI x) (nI h)).2 (up2 γ 0 3 (nI (cN σ 43 + 1))) ∧ (cN (oPlace σ (nI x) (nI h)).2 1 = cN σ 1 ∧ cN (oPlace σ (nI x) (nI h)).2 20 = cN σ 20 ∧ cN (oPlace σ (nI x) (nI h)).2 43 = cN σ 43 + 1) ∧
    mHomeOf (oPlace σ (nI x) (nI h)).2 x = nI h ∧ pI9 (mWhyOn (oPlace σ (nI x) (nI h)).2 (nx ((oPlace σ (nI x) (nI h)).2.1 44 (cN σ 43))) ((oPlace σ (nI x) (nI h)).2.1 45 (cN σ 43)) ((oPlace σ (nI x) (nI h)).2.1 46 (cN σ 43)) = 0) = 1 ∧ mWhyNot (oPlace σ (nI x) (nI h)).2 x h = 0 ∧ (oPlace σ (nI x) (nI h)).2.1 48 (cN σ 43) = mCounts (oPlace σ (nI x) (nI h)).2 (nI x) (σ.2 0) := by
  have hI := hW.1
  have n1 := hI.2.1.2
  have n20 := hI.2.2.1.2
  have ex : nx (nI x) = x := nx_nI (by omega)
  have eh : nx (nI h) = h := nx_nI (by omega)
  have t : tPlace σ (nI x) (nI h) = 0 := by
    refine gT_0 (pI9_ne.mpr ⟨ch_p hI hx, ho_p hI hh⟩) (pI9_ne.mpr ⟨⟨ch_p hI hx, ho_p hI hh⟩, by rw [ex]; exact h1, by rw [ex, eh]; exact h0, ?_⟩) (by decide)
    rw [hI.2.2.2.2.2.1.1]
    exact nI_lt (b := 100) h2 (by decide)
  have Y := IYV_place (x := nI x) (h := nI h) hW hL.2.1
  refine ⟨t, ?_, ?_⟩
  · rw [oPlace, if_pos t]
    show σ.2 43 + 1 - 1 = _
    rw [hI.2.2.2.2.2.1.1, nI_1, nI_prv]
  have hz := hL.2.2
  have w0 := why_0 h0
  rw [oPlace, if_pos t, ex] at Y ⊢
  have e43 := (IC_begins (σ := sT σ 0) (k := x) (h := nI h) hI h2).2
  have b2 : ∀ y, y ≠ 43 → y ≠ 56 → (oBegins (sT σ 0) x (nI h)).2.2 y = σ.2 y := fun y h1 h2 => by rw [oBeg_2, up1_n h1]; exact up1_n h2
  have bN : ∀ y, y ≠ 43 → y ≠ 56 → cN (oBegins (sT σ 0) x (nI h)).2 y = cN σ y := fun y h1 h2 => congrArg Int32.toNatClampNeg (b2 y h1 h2)
  have r : ∀ f, f ≠ 10 → f ≠ 11 → f ≠ 13 → ¬ (44 ≤ f ∧ f ≤ 48) → (oBegins (sT σ 0) x (nI h)).2.1 f = σ.1 f := fun f f1 f2 f3 f4 => oBeg_f f1 f2 f3 f4
  have g10 := oBeg_10 (σ := sT σ 0) (k := x) (h := nI h)
  have g44 := oBeg_44 (σ := sT σ 0) (k := x) (h := nI h)
  have g45 := oBeg_45 (σ := sT σ 0) (k := x) (h := nI h)
  have g46 := oBeg_46 (σ := sT σ 0) (k := x) (h := nI h)
  have g48 := (oBeg_48 (σ := sT σ 0) (k := x) (h := nI h)).trans oBeg_cnt
  have g10o : ∀ j, j ≠ x → (oBegins (sT σ 0) x (nI h)).2.1 10 j = σ.1 10 j := fun j hj => oBeg_10o hj
  have row : ∀ j, j ≠ cN σ 43 → (oBegins (sT σ 0) x (nI h)).2.1 45 j = (oEnds (sT σ 0) x).1 45 j := fun j hj => oBeg_row (by decide) hj
  have eE : (oEnds (sT σ 0) x).1 45 = σ.1 45 := oEnds_o (by decide) (by decide)
  rw [eE] at row
  generalize (oBegins (sT σ 0) x (nI h)).2 = τ at *
  have e43' : cN τ 43 = cN σ 43 + 1 := e43
  obtain ⟨⟨a0, a1, a2, a3, a4⟩, ⟨a5, a6⟩, h3, h4, h5⟩ := hL.1
  have g0 : ∀ j, j ≠ 3 → up2 γ 0 3 (nI (cN σ 43 + 1)) 0 j = γ 0 j := fun j h2 => up2_n2 h2
  have gf : ∀ f j, f ≠ 0 → up2 γ 0 3 (nI (cN σ 43 + 1)) f j = γ f j := fun f j h1 => up2_n1 h1
  have eo : mWhyOn τ x (nI h) (σ.2 0) = mWhyOn σ x (nI h) (σ.2 0) := mWhyOn_c2 (fun f f1 f2 f3 f4 => r f f2 f3 f4 (by omega)) (bN 38 (by decide) (by decide)) (bN 27 (by decide) (by decide))
  have eH : mHomeOf τ x = nI h := by
    have g10' : τ.1 10 x = nI (cN σ 43) := g10
    unfold mHomeOf
    rw [g10', if_neg (nI_ne_m1 (by omega)), nI_clamp (by omega)]
    exact g45
  refine ⟨⟨⟨⟨?_, ?_, ?_, ?_, ?_⟩, ⟨by rw [bN 20 (by decide) (by decide)]; exact a5, by rw [bN 38 (by decide) (by decide)]; exact a6⟩, fun k hk => ?_, fun m hm => ?_, fun i hi => ?_⟩, Y, fun m h1 h2 => ?_⟩, ⟨bN 1 (by decide) (by decide), bN 20 (by decide) (by decide), e43'⟩, eH, ?_, ?_, ?_⟩
  · rw [bN 1 (by decide) (by decide)]; exact (g0 0 (by decide)).trans a0
  · rw [bN 20 (by decide) (by decide)]; exact (g0 1 (by decide)).trans a1
  · rw [bN 38 (by decide) (by decide)]; exact (g0 2 (by decide)).trans a2
  · rw [e43']; exact up2_s
  · rw [b2 0 (by decide) (by decide)]; exact (g0 4 (by decide)).trans a4
  · rw [bN 1 (by decide) (by decide)] at hk
    rw [gf 1 k (by decide), gf 2 k (by decide), gf 3 k (by decide), r 2 (by decide) (by decide) (by decide) (by decide), r 3 (by decide) (by decide) (by decide) (by decide), r 4 (by decide) (by decide) (by decide) (by decide), r 5 (by decide) (by decide) (by decide) (by decide)]
    exact h3 k hk
  · rw [bN 20 (by decide) (by decide)] at hm
    rw [gf 4 m (by decide), gf 5 m (by decide), r 23 (by decide) (by decide) (by decide) (by decide), r 25 (by decide) (by decide) (by decide) (by decide)]
    exact h4 m hm
  · rw [bN 38 (by decide) (by decide)] at hi
    rw [gf 6 i (by decide), gf 7 _ (by decide), gf 7 _ (by decide), r 39 (by decide) (by decide) (by decide) (by decide), r 41 (by decide) (by decide) (by decide) (by decide), r 42 (by decide) (by decide) (by decide) (by decide)]
    exact h5 i hi
  · rw [bN 20 (by decide) (by decide)] at h1
    rw [gf 5 m (by decide)]
    exact hz m h1 h2
  · rw [show τ.1 44 (cN σ 43) = nI x from g44, show τ.1 45 (cN σ 43) = nI h from g45, show τ.1 46 (cN σ 43) = σ.2 0 from g46, ex, eo]
    exact pI9_t w0.1
  · refine why_iff.mpr ⟨?_, ?_, ?_⟩
    · rw [b2 0 (by decide) (by decide), eo]; exact w0.1
    · have eO : mOthers τ (nI x) (nI h) = mOthers σ (nI x) (nI h) := by
        unfold mOthers
        rw [bN 1 (by decide) (by decide)]
        refine fsum_congr _ fun j hj => ?_
        unfold mOthersT
        by_cases q : nI j = nI x
        · rw [if_neg fun z => z.1 q, if_neg fun z => z.1 q]
        · have e : mHomeOf τ j = mHomeOf σ j := by
            unfold mHomeOf
            rw [g10o j fun z => q (congrArg nI z)]
            rcases hI.2.2.2.2.2.2.2 j hj with z | ⟨y, y1, y2⟩
            · rw [if_pos z, if_pos z]
            · rw [y2, nI_clamp (by omega), row y (by omega)]
          rw [e]
      rw [r 23 (by decide) (by decide) (by decide) (by decide), eO]
      exact w0.2.2.1
    · rw [r 19 (by decide) (by decide) (by decide) (by decide)]
      exact w0.2.2.2
  · refine Eq.trans g48 ?_
    exact (mCounts_congr (r 39 (by decide) (by decide) (by decide) (by decide)) (r 41 (by decide) (by decide) (by decide) (by decide)) (r 42 (by decide) (by decide) (by decide) (by decide)) (bN 38 (by decide) (by decide))).symm
theorem k_placeN {σ : aS} (hI : IC σ) {x h : Nat} (hx : x < cN σ 1) (hh : h < cN σ 20) (hb : ¬ (mWhyNot σ x h = 0 ∧ ¬ mHomeOf σ x = nI h ∧ cN σ 43 < 100)) : tPlace σ (nI x) (nI h) = 2 ∧ (oPlace σ (nI x) (nI h)).2 = sT σ 2 := by
  have n1 := hI.2.1.2
  have n20 := hI.2.2.1.2
  have n43 := hI.2.2.2.2.2.1
  have ex : nx (nI x) = x := nx_nI (by omega)
  have eh : nx (nI h) = h := nx_nI (by omega)
  have t : tPlace σ (nI x) (nI h) = 2 := by
    refine gT_2 (pI9_ne.mpr ⟨ch_p hI hx, ho_p hI hh⟩) (pI9_f fun z => hb ?_)
    rw [ex, eh] at z
    refine ⟨z.2.2.1, z.2.1, ?_⟩
    have := z.2.2.2
    rw [n43.1] at this
    exact (nI_ltI (by omega) (by decide)).mp (show nI (cN σ 43) < nI 100 from this)
  refine ⟨t, ?_⟩
  rw [oPlace, if_neg (by rw [t]; decide), t]
/-- placeAll, with the law's count of stays -/
theorem LJ_all {σ : aS} {γ : Nat → Nat → Int32} (hW : IW σ) (hL : LJ σ γ) {x : Nat} (hx : x ≤ 7) : LJ (oPlaceAll σ (nI x)).2 (up2 γ 0 3 (nI (cN (oPlaceAll σ (nI x)).2 43))) := by
  obtain ⟨⟨-, y2, y3⟩, -⟩ := pa_all hx hW hL.2.1.1
  have Y := IYV_all hx hW hL.2.1
  have hz := hL.2.2
  generalize (oPlaceAll σ (nI x)).2 = τ at *
  have bN : ∀ y, y < 43 → cN τ y = cN σ y := fun y hy => congrArg Int32.toNatClampNeg (y3 y hy)
  obtain ⟨⟨a0, a1, a2, a3, a4⟩, ⟨a5, a6⟩, h3, h4, h5⟩ := hL.1
  have g0 : ∀ j, j ≠ 3 → up2 γ 0 3 (nI (cN τ 43)) 0 j = γ 0 j := fun j h2 => up2_n2 h2
  have gf : ∀ f j, f ≠ 0 → up2 γ 0 3 (nI (cN τ 43)) f j = γ f j := fun f j h1 => up2_n1 h1
  have r : ∀ f, f < 44 → f ≠ 10 → f ≠ 11 → f ≠ 13 → τ.1 f = σ.1 f := y2
  refine ⟨⟨⟨?_, ?_, ?_, up2_s, ?_⟩, ⟨by rw [bN 20 (by decide)]; exact a5, by rw [bN 38 (by decide)]; exact a6⟩, fun k hk => ?_, fun m hm => ?_, fun i hi => ?_⟩, Y, fun m h1 h2 => ?_⟩
  · rw [bN 1 (by decide)]; exact (g0 0 (by decide)).trans a0
  · rw [bN 20 (by decide)]; exact (g0 1 (by decide)).trans a1
  · rw [bN 38 (by decide)]; exact (g0 2 (by decide)).trans a2
  · rw [y3 0 (by decide)]; exact (g0 4 (by decide)).trans a4
  · rw [bN 1 (by decide)] at hk
    rw [gf 1 k (by decide), gf 2 k (by decide), gf 3 k (by decide), r 2 (by decide) (by decide) (by decide) (by decide), r 3 (by decide) (by decide) (by decide) (by decide), r 4 (by decide) (by decide) (by decide) (by decide), r 5 (by decide) (by decide) (by decide) (by decide)]
    exact h3 k hk
  · rw [bN 20 (by decide)] at hm
    rw [gf 4 m (by decide), gf 5 m (by decide), r 23 (by decide) (by decide) (by decide) (by decide), r 25 (by decide) (by decide) (by decide) (by decide)]
    exact h4 m hm
  · rw [bN 38 (by decide)] at hi
    rw [gf 6 i (by decide), gf 7 _ (by decide), gf 7 _ (by decide), r 39 (by decide) (by decide) (by decide) (by decide), r 41 (by decide) (by decide) (by decide) (by decide), r 42 (by decide) (by decide) (by decide) (by decide)]
    exact h5 i hi
  · rw [bN 20 (by decide)] at h1
    rw [gf 5 m (by decide)]
    exact hz m h1 h2
/-! days, money -/
theorem LJ_pass {σ : aS} {γ : Nat → Nat → Int32} (hW : IW σ) (hL : LJ σ γ) {n : Nat} (h1 : 1 ≤ n) (h2 : n ≤ 400) (h3 : cN σ 0 + n ≤ 12000) : tPass σ (nI n) = 0 ∧ (oPass σ (nI n)).1 = nI (cN σ 0 + n) ∧ LJ (oPass σ (nI n)).2 (up2 γ 0 4 (nI (cN σ 0 + n))) ∧ cN (oPass σ (nI n)).2 0 = cN σ 0 + n := by
  have hI := hW.1
  have t : tPass σ (nI n) = 0 := by
    refine gT_0 (bI_ne.mpr (in_n h1 h2 (by decide))) (pI9_ne.mpr ?_) (by decide)
    rw [hI.1.1, nI_add]
    exact nI_le (b := 12000) h3 (by decide)
  have Y := IYV_pass (v := nI n) hW hL.2.1
  have W := (KW_pass (v := nI n) hW).1
  have hz := hL.2.2
  rw [oPass, if_pos t, nx_nI (j := n) (by omega)] at Y W ⊢
  have e0 := (IY_days n (σ := sT σ 0) hW hL.2.1.1 h3).2
  have y3 := (IW_days n (σ := sT σ 0) hW h3).2
  have r : ∀ f, dF f → (runDays n (sT σ 0)).1 f = σ.1 f := fun f hf => runDays_f hf n (sT σ 0)
  dsimp only at Y W ⊢
  generalize runDays n (sT σ 0) = τ at *
  have e0' : cN τ 0 = cN σ 0 + n := e0
  have b2 : ∀ y, y ≠ 0 → y ≠ 56 → τ.2 y = σ.2 y := fun y h1 h2 => (y3 y h1).trans (up1_n h2)
  have bN : ∀ y, y ≠ 0 → y ≠ 56 → cN τ y = cN σ y := fun y h1 h2 => congrArg Int32.toNatClampNeg (b2 y h1 h2)
  obtain ⟨⟨a0, a1, a2, a3, a4⟩, ⟨a5, a6⟩, h3, h4, h5⟩ := hL.1
  have g0 : ∀ j, j ≠ 4 → up2 γ 0 4 (nI (cN σ 0 + n)) 0 j = γ 0 j := fun j h2 => up2_n2 h2
  have gf : ∀ f j, f ≠ 0 → up2 γ 0 4 (nI (cN σ 0 + n)) f j = γ f j := fun f j h1 => up2_n1 h1
  have eT : τ.2 0 = nI (cN σ 0 + n) := by rw [W.1.1.1, e0']
  refine ⟨t, eT, ⟨⟨⟨?_, ?_, ?_, ?_, ?_⟩, ⟨by rw [bN 20 (by decide) (by decide)]; exact a5, by rw [bN 38 (by decide) (by decide)]; exact a6⟩, fun k hk => ?_, fun m hm => ?_, fun i hi => ?_⟩, Y, fun m h1 h2 => ?_⟩, e0'⟩
  · rw [bN 1 (by decide) (by decide)]; exact (g0 0 (by decide)).trans a0
  · rw [bN 20 (by decide) (by decide)]; exact (g0 1 (by decide)).trans a1
  · rw [bN 38 (by decide) (by decide)]; exact (g0 2 (by decide)).trans a2
  · rw [bN 43 (by decide) (by decide)]; exact (g0 3 (by decide)).trans a3
  · rw [eT]; exact up2_s
  · rw [bN 1 (by decide) (by decide)] at hk
    rw [gf 1 k (by decide), gf 2 k (by decide), gf 3 k (by decide), r 2 (by unfold dF; decide), r 3 (by unfold dF; decide), r 4 (by unfold dF; decide), r 5 (by unfold dF; decide)]
    exact h3 k hk
  · rw [bN 20 (by decide) (by decide)] at hm
    rw [gf 4 m (by decide), gf 5 m (by decide), r 23 (by unfold dF; decide), r 25 (by unfold dF; decide)]
    exact h4 m hm
  · rw [bN 38 (by decide) (by decide)] at hi
    rw [gf 6 i (by decide), gf 7 _ (by decide), gf 7 _ (by decide), r 39 (by unfold dF; decide), r 41 (by unfold dF; decide), r 42 (by unfold dF; decide)]
    exact h5 i hi
  · rw [bN 20 (by decide) (by decide)] at h1
    rw [gf 5 m (by decide)]
    exact hz m h1 h2
theorem pay_ring (a b v : Int32) : a - (b + v) = a - b - v := by grind
theorem LJ_pay {σ : aS} {γ : Nat → Nat → Int32} (hW : IW σ) (hL : LJ σ γ) {h v : Nat} (hh : h < cN σ 20) (h1 : 1 ≤ v) (h2 : v ≤ 100000) : tPay σ (nI h) (nI v) = 0 ∧ (oPay σ (nI h) (nI v)).1 = cOw σ h - nI v ∧ LJ (oPay σ (nI h) (nI v)).2 (up2 γ 5 h (σ.1 25 h + nI v)) := by
  have hI := hW.1
  have n20 := hI.2.2.1.2
  have t : tPay σ (nI h) (nI v) = 0 := gT_0 (bI_ne.mpr (ho_p hI hh)) (bI_ne.mpr (in_n h1 h2 (by decide))) (by decide)
  have Y := IYV_pay (x := nI h) (v := nI v) hL.2.1
  have hz := hL.2.2
  have hD := cOw_m hW.2.2.2.2.2.2.2.2.2.2.2.1 hh
  rw [oPay, if_pos t, nx_nI (j := h) (by omega)] at Y ⊢
  refine ⟨t, ?_, ?_⟩
  · dsimp only
    rw [pay_ring, hD]
  obtain ⟨⟨a0, a1, a2, a3, a4⟩, ⟨a5, a6⟩, h3, h4, h5⟩ := hL.1
  obtain ⟨A, B⟩ := σ
  have r : ∀ f j, f ≠ 25 → up2 A 25 h (A 25 h + nI v) f j = A f j := fun f j hf => up2_n1 hf
  have g : ∀ f j, f ≠ 5 → up2 γ 5 h (A 25 h + nI v) f j = γ f j := fun f j hf => up2_n1 hf
  refine ⟨⟨⟨?_, ?_, ?_, ?_, ?_⟩, ⟨a5, a6⟩, fun k hk => ?_, fun m hm => ?_, fun i hi => ?_⟩, Y, fun m g1 g2 => ?_⟩
  · exact (up2_n1 (by decide)).trans a0
  · exact (up2_n1 (by decide)).trans a1
  · exact (up2_n1 (by decide)).trans a2
  · exact (up2_n1 (by decide)).trans a3
  · exact (up2_n1 (by decide)).trans a4
  · show up2 γ 5 h (A 25 h + nI v) 1 k = up2 A 25 h (A 25 h + nI v) 2 k - up2 A 25 h (A 25 h + nI v) 3 k ∧ up2 γ 5 h (A 25 h + nI v) 2 k = up2 A 25 h (A 25 h + nI v) 4 k ∧ up2 γ 5 h (A 25 h + nI v) 3 k = up2 A 25 h (A 25 h + nI v) 5 k
    rw [g 1 k (by decide), g 2 k (by decide), g 3 k (by decide), r 2 k (by decide), r 3 k (by decide), r 4 k (by decide), r 5 k (by decide)]
    exact h3 k hk
  · show up2 γ 5 h (A 25 h + nI v) 4 m = up2 A 25 h (A 25 h + nI v) 23 m ∧ up2 γ 5 h (A 25 h + nI v) 5 m = up2 A 25 h (A 25 h + nI v) 25 m
    rw [g 4 m (by decide), r 23 m (by decide)]
    refine ⟨(h4 m hm).1, ?_⟩
    by_cases q : m = h
    · subst q; rw [up2_s, up2_s]
    · rw [up2_n2 q, up2_n2 q]; exact (h4 m hm).2
  · show up2 γ 5 h (A 25 h + nI v) 6 i = up2 A 25 h (A 25 h + nI v) 39 i ∧ up2 γ 5 h (A 25 h + nI v) 7 (2 * i) = up2 A 25 h (A 25 h + nI v) 41 i ∧ up2 γ 5 h (A 25 h + nI v) 7 (2 * i + 1) = up2 A 25 h (A 25 h + nI v) 42 i
    rw [g 6 i (by decide), g 7 _ (by decide), g 7 _ (by decide), r 39 i (by decide), r 41 i (by decide), r 42 i (by decide)]
    exact h5 i hi
  · have : cN (A, B) 20 ≤ m := g1
    rw [up2_n2 (by omega)]
    exact hz m g1 g2
