/-! WHAT HOLDS BETWEEN CALLS, more: the placing of all. -/
theorem pw_way {σ : aS} {kin : Int32} {M n : Nat} (hI : IC σ) (hP : IP σ) (hB : IBd σ) (en : cN σ 20 = n) (eM : (cw σ kin (cN σ 1)).1 = M) (hM : M ≤ 5) :
    ∃ d : Nat → Nat, (∀ r, r < M → d r ≤ n ∧ (oFinds ((cw σ kin (cN σ 1)).2, up1 σ.2 49 (nI M)) M).2 52 r = nI (d r)) ∧ (∀ r, r < M → d r < n → ∃ c, c < cN σ 1 ∧ (cw σ kin (cN σ 1)).2 50 r = nI c ∧ σ.1 10 c = -1 ∧ mWhyNot σ c (d r) = 0) ∧ ∀ x, x < n → cnA d x M = 0 ∨ (cnA d x M : Int) ≤ (σ.1 23 x - mOthers σ (-1) (nI x)).toInt := by
  have n1 := hI.2.1.2
  have n10 : n ≤ 10 := by rw [← en]; exact hI.2.2.1.2
  obtain ⟨τ, hτ⟩ : ∃ τ : aS, τ = ((cw σ kin (cN σ 1)).2, up1 σ.2 49 (nI M)) := ⟨_, rfl⟩
  have t50 : ∀ f, f < 50 → τ.1 f = σ.1 f := fun f hf => by rw [hτ]; exact cw_o (by omega) _
  have tn : ∀ x, x ≠ 49 → τ.2 x = σ.2 x := fun x hx => by rw [hτ]; exact up1_n hx
  have tc : ∀ x, x ≠ 49 → cN τ x = cN σ x := fun x hx => congrArg Int32.toNatClampNeg (tn x hx)
  have en2 : cN τ 20 = n := (tc 20 (by decide)).trans en
  have t50' : (cw σ kin (cN σ 1)).2 50 = τ.1 50 := by rw [hτ]
  rw [← hτ, t50']
  have ch : ∀ r, r < M → ∃ c, c < cN σ 1 ∧ τ.1 50 r = nI c ∧ σ.1 10 c = -1 := fun r hr => by
    obtain ⟨c', d1, d2, d3⟩ := cw_10 σ kin (cN σ 1) r (by omega) (by omega)
    exact ⟨c', d1, by rw [hτ]; exact d2, d3⟩
  obtain ⟨f1, f2⟩ := fil2_v (σ := τ) (by rw [en2]; exact n10) M
  rw [en2] at f1 f2
  have eW : ∀ c h, mWorth τ c h = mWorth σ c h := fun c h => mWorth_cg t50 (tc 1 (by decide))
  have eN : ∀ c h, mWhyNot τ c h = mWhyNot σ c h := fun c h => mWhyNot_cg t50 (tc 38 (by decide)) (tc 27 (by decide)) (tc 1 (by decide)) (tn 0 (by decide))
  have eO : ∀ x h, mOthers τ x h = mOthers σ x h := fun x h => mOthers_congr (t50 10 (by decide)) (t50 45 (by decide)) (tc 1 (by decide))
  have cW : ∀ {c h : Nat}, c < cN σ 1 → h < n → -100 ≤ (mWorth σ c h).toInt ∧ (mWorth σ c h).toInt ≤ 200 := fun {c h} h1 h2 => mWorth_b hI hP h1 (by rw [en]; exact h2)
  have okRI : ∀ r h, r < M → h < n → (okR (fil2 τ M) r h ↔ ∃ c, c < cN σ 1 ∧ τ.1 50 r = nI c ∧ mWhyNot σ c h = 0) := fun r h hr hh => by
    obtain ⟨c, c1, c2, -⟩ := ch r hr
    unfold okR
    rw [(f1 r h hr hh).1, pI9_ne, c2, show nx (nI c) = c from nI_clamp (by omega), eN]
    constructor
    · intro q; exact ⟨c, c1, rfl, q⟩
    · rintro ⟨c', d1, d2, d3⟩
      have e := (nI_eq (by omega) (by omega)).mp d2
      subst e
      exact d3
  have wRI : ∀ r h, r < M → h < n → ∀ c, c < cN σ 1 → τ.1 50 r = nI c → wR (fil2 τ M) r h = (mWorth σ c h).toInt := fun r h hr hh c c1 c2 => by
    unfold wR
    rw [(f1 r h hr hh).2, c2, show nx (nI c) = c from nI_clamp (by omega), eW]
  have FRI : ∀ h, 0 < M → h < n → FR (fil2 τ M) h = (σ.1 23 h - mOthers σ (-1) (nI h)).toInt := fun h h0 hh => by
    unfold FR
    rw [f2 h h0 hh, t50 23 (by decide), eO]
  have free : ∀ c h, c < cN σ 1 → σ.1 10 c = -1 → h < n → (1 ≤ (σ.1 23 h - mOthers σ (-1) (nI h)).toInt ↔ ¬ σ.1 23 h ≤ mOthers σ (nI c) (nI h)) := fun c h h1 h2 h3 => by
    rw [mOthers_w h2 (by omega) n1 (by omega)]
    exact free_i hI hB (by rw [en]; exact h3)
  have hdat : datR (fil2 τ M) n M := ⟨fun r h hr hh => by
      obtain ⟨c, c1, c2, -⟩ := ch r hr
      rw [wRI r h hr hh c c1 c2]
      exact cW c1 hh, fun r h hr hh q => by
      obtain ⟨c', d1, d2, d3⟩ := ch r hr
      obtain ⟨c, c1, c2, c3⟩ := (okRI r h hr hh).mp q
      rw [c2] at d2
      have e := (nI_eq (by omega) (by omega)).mp d2
      subst e
      rw [FRI h (by omega) hh]
      exact (free c h c1 d3 hh).mpr (why_iff.mp c3).2.1⟩
  obtain ⟨d, d1, d2, -⟩ := oFinds_b (σ := τ) (n := n) (M := M) (by rw [tn 20 (by decide), hI.2.2.1.1, en]) en2 n10 hM hdat
  refine ⟨d, d1, fun r hr hd => ?_, fun x hx => ?_⟩
  · obtain ⟨c, c1, c2, c3⟩ := (okRI r (d r) hr hd).mp (d2.1 r hr hd)
    obtain ⟨c', e1, e2, e3⟩ := ch r hr
    rw [c2] at e2
    have e := (nI_eq (by omega) (by omega)).mp e2
    subst e
    exact ⟨c, c1, c2, e3, c3⟩
  · by_cases z : cnA d x M = 0
    · exact Or.inl z
    · refine Or.inr ?_
      have h0 : 0 < M := Nat.pos_of_ne_zero fun y => by subst y; exact z rfl
      rcases d2.2 x hx with q | q
      · exfalso
        have := mu0_iff.mp q
        exact z ((cnA_0 M).mpr fun i hi e => this ⟨hx, i, hi, e⟩)
      · rw [cntB_mu hM hx, FRI x h0 hx] at q
        exact q
/-- a beginning's homes -/
theorem beg_hm {σ : aS} {k w m : Nat} (hI : IC σ) (hk : k < cN σ 1) (hw : w < cN σ 20) (hm : m < cN σ 20) : nsum (hmN (oBegins σ k (nI w)).2 m) (cN σ 1) ≤ nsum (hmN σ m) (cN σ 1) + if w = m then 1 else 0 := by
  have n1 := hI.2.1.2
  have n20 := hI.2.2.1.2
  have n43 := hI.2.2.2.2.2.1.2
  have g10 := oBeg_10 (σ := σ) (k := k) (h := nI w)
  have g45 := oBeg_45 (σ := σ) (k := k) (h := nI w)
  have g10o : ∀ j, j ≠ k → (oBegins σ k (nI w)).2.1 10 j = σ.1 10 j := fun j hj => oBeg_10o hj
  have row : ∀ f j, 44 ≤ f → f ≤ 48 → j ≠ cN σ 43 → (oBegins σ k (nI w)).2.1 f j = (oEnds σ k).1 f j := fun f j f1 f2 hj => oBeg_row ⟨f1, f2⟩ hj
  generalize (oBegins σ k (nI w)).2 = τ at *
  have eo : ∀ x, x < cN σ 1 → x ≠ k → hmT τ m x = hmT (oEnds σ k) m x := fun x hx q => by
    unfold hmT mHomeOf
    rw [g10o x q, oEnds_10o q]
    rcases hI.2.2.2.2.2.2.2 x hx with z | ⟨y, y1, y2⟩
    · rw [if_pos z, if_pos z]
    · rw [y2, nI_clamp (by omega), row 45 y (by decide) (by decide) (by omega)]
  have zE : hmT (oEnds σ k) m k = 0 := ends_hz (by omega)
  have ek : hmT τ m k = if w = m then 1 else 0 := by
    have eh : mHomeOf τ k = nI w := by
      unfold mHomeOf
      rw [if_neg (by rw [g10]; exact nI_ne_m1 (by omega)), g10, nI_clamp (by omega), g45]
    unfold hmT
    rw [eh]
    by_cases q : w = m
    · subst q; rw [if_pos rfl, if_pos rfl]
    · rw [if_neg q, if_neg fun z => q ((nI_eq (by omega) (by omega)).mp z)]
  have ch := fsum_ch (F := hmT (oEnds σ k) m) (F' := hmT τ m) (i0 := k) hk fun x hx q => (eo x hx q).symm
  rw [zE, Int32.add_zero, ek, fsum_hm, fsum_hm] at ch
  have e1 := nsum_hm τ m (cN σ 1)
  have e2 := nsum_hm (oEnds σ k) m (cN σ 1)
  have e3 := ends_hm (σ := σ) (m := m) (k := k) (by omega) (cN σ 1)
  by_cases q : w = m
  · rw [if_pos q] at ch ⊢
    rw [nI_1] at ch
    have := (nI_eq (by omega) (by omega)).mp ch
    omega
  · rw [if_neg q, Int32.add_zero] at ch
    rw [if_neg q]
    have := (nI_eq (by omega) (by omega)).mp ch
    omega
theorem oth_hm {σ : aS} {x : Int32} {m : Nat} : ∃ c, c ≤ nsum (hmN σ m) (cN σ 1) ∧ mOthers σ x (nI m) = nI c := by
  have hg : ∀ i, mOthersT σ x (nI m) i = nI (nx (mOthersT σ x (nI m) i)) ∧ nx (mOthersT σ x (nI m) i) ≤ hmN σ m i := fun i => by
    unfold mOthersT hmN hmT
    by_cases q : ¬ nI i = x ∧ mHomeOf σ i = nI m
    · rw [if_pos q, if_pos q.2]
      exact ⟨rfl, Nat.le_refl _⟩
    · rw [if_neg q]
      refine ⟨rfl, ?_⟩
      rw [nx_0]
      exact Nat.zero_le _
  exact ⟨_, nsum_mono _ fun i _ => (hg i).2, fsum_nI _ fun i _ => (hg i).1⟩
theorem oth_m1 {σ : aS} {m : Nat} (hN : cN σ 1 ≤ 16) : mOthers σ (-1) (nI m) = nI (nsum (hmN σ m) (cN σ 1)) := by
  rw [← fsum_hm]
  refine fsum_congr _ fun i hi => ?_
  unfold mOthersT hmT
  by_cases q : mHomeOf σ i = nI m
  · rw [if_pos q, if_pos ⟨nI_ne_m1 (by omega), q⟩]
  · rw [if_neg q, if_neg fun z => q z.2]
theorem cnA_mono {a : Nat → Nat} {x k : Nat} : ∀ t, cnA a x k ≤ cnA a x (k + t)
  | 0 => Nat.le_refl _
  | t + 1 => Nat.le_trans (cnA_mono t) (Nat.le_add_right _ _)
theorem IY_bRun {σ : aS} {n M : Nat} {d c : Nat → Nat} {b : Nat → Nat} (hn : n ≤ 10) (e20 : cN σ 20 = n) (hd : ∀ r, r < M → d r ≤ n) (hc : ∀ r, r < M → d r < n → c r < cN σ 1 ∧ mKindOn σ (nI (c r)) (σ.2 0) = 0) (hb : ∀ x, x < n → σ.1 23 x = nI (b x) ∧ b x ≤ 5) (hA : ∀ x, x < n → cnA d x M = 0 ∨ nsum (hmN σ x) (cN σ 1) + cnA d x M ≤ b x) :
    ∀ (t k : Nat) (τ : aS) (pl : Int32), k + t = M → IW τ → IY τ → (∀ f, f = 23 ∨ f = 39 ∨ f = 40 ∨ f = 41 ∨ f = 42 → τ.1 f = σ.1 f) → (∀ x, x = 0 ∨ x = 1 ∨ x = 20 ∨ x = 38 → τ.2 x = σ.2 x) → (∀ r, r < M → τ.1 52 r = nI (d r)) → (∀ r, r < M → d r < n → τ.1 50 r = nI (c r)) → (∀ x, x < n → nsum (hmN τ x) (cN σ 1) ≤ nsum (hmN σ x) (cN σ 1) + cnA d x k) → cN τ 43 + (cnP n d M - cnP n d k) ≤ 100 →
      IY (bRun t k τ pl).2 ∧ cN (bRun t k τ pl).2 43 = cN τ 43 + (cnP n d M - cnP n d k) ∧ (bRun t k τ pl).2.2 0 = σ.2 0 ∧ (∀ f, f < 44 → f ≠ 10 → f ≠ 11 → f ≠ 13 → (bRun t k τ pl).2.1 f = τ.1 f) ∧ (∀ x, x ≠ 43 → (bRun t k τ pl).2.2 x = τ.2 x)
  | 0, k, τ, _, hk, _, hY, _, t2, _, _, _, _ => ⟨hY, by rw [← hk, Nat.add_zero, Nat.sub_self]; rfl, t2 0 (by decide), fun _ _ _ _ _ => rfl, fun _ _ => rfl⟩
  | t + 1, k, τ, pl, hk, hW, hY, t1, t2, t52, t50, tH, t43 => by
    have n1 := hW.1.2.1.2
    have tc : ∀ x, x = 0 ∨ x = 1 ∨ x = 20 ∨ x = 38 → cN τ x = cN σ x := fun x hx => congrArg Int32.toNatClampNeg (t2 x hx)
    have tN1 : cN τ 1 = cN σ 1 := tc 1 (by decide)
    have tN20 : cN τ 20 = n := (tc 20 (by decide)).trans e20
    have e2 : τ.2 20 = nI n := by rw [hW.1.2.2.1.1, tN20]
    have hkM : k < M := by omega
    have es : cnP n d (k + 1) = cnP n d k + if d k < n then 1 else 0 := rfl
    have mono : cnP n d (k + 1) ≤ cnP n d M := by
      have := cnP_mono (n := n) (d := d) (k := k + 1) t
      rw [show k + 1 + t = M by omega] at this
      exact this
    have eA : ∀ x, cnA d x (k + 1) = cnA d x k + if d k = x then 1 else 0 := fun _ => rfl
    by_cases z : τ.1 52 k < τ.2 20
    · have z' := z
      rw [t52 k hkM, e2] at z'
      have hz : d k < n := (nI_ltI (by have := hd k hkM; omega) (by omega)).mp z'
      rw [if_pos hz] at es
      obtain ⟨c1, c2⟩ := hc k hkM hz
      rw [bRun, iteP_t z, t50 k hkM hz, t52 k hkM, nx_nI (j := c k) (by omega)]
      have h43 : cN τ 43 < 100 := by omega
      have eK : mKindOn τ (nI (c k)) (τ.2 0) = 0 := by
        rw [mKindOn_congr (t1 39 (by decide)) (t1 40 (by decide)) (t1 41 (by decide)) (t1 42 (by decide)) (tc 38 (by decide)), t2 0 (by decide)]
        exact c2
      have hBd : ¬ τ.1 23 (d k) ≤ mOthers τ (nI (c k)) (nI (d k)) := by
        obtain ⟨o, o1, o2⟩ := oth_hm (σ := τ) (x := nI (c k)) (m := d k)
        rw [tN1] at o1
        have tHk := tH (d k) hz
        have e1 := eA (d k)
        rw [if_pos rfl] at e1
        have m2 := cnA_mono (a := d) (x := d k) (k := k + 1) t
        rw [show k + 1 + t = M by omega] at m2
        obtain ⟨b1, b2⟩ := hb (d k) hz
        rw [t1 23 (by decide), b1, o2]
        intro y
        have y2 := (nI_leI (by omega) (by have := nsum_hm τ (d k) (cN σ 1); omega)).mp y
        rcases hA (d k) hz with g | g <;> omega
      have hkc : c k < cN τ 1 := by rw [tN1]; exact c1
      have hwd : d k < cN τ 20 := by rw [tN20]; exact hz
      have Y' := IY_begins hW hY hkc hwd h43 eK hBd
      have W' := IW_begins (k := c k) (w := d k) hW hkc hwd h43
      have e43 := (IC_begins (k := c k) (h := nI (d k)) hW.1 h43).2
      have bh : ∀ m, m < cN τ 20 → nsum (hmN (oBegins τ (c k) (nI (d k))).2 m) (cN τ 1) ≤ nsum (hmN τ m) (cN τ 1) + if d k = m then 1 else 0 := fun m hm => beg_hm hW.1 hkc hwd hm
      have bf : ∀ f, f ≠ 10 → f ≠ 11 → f ≠ 13 → ¬ (44 ≤ f ∧ f ≤ 48) → (oBegins τ (c k) (nI (d k))).2.1 f = τ.1 f := fun f f1 f2 f3 f4 => oBeg_f f1 f2 f3 f4
      have b2 : ∀ x, x ≠ 43 → (oBegins τ (c k) (nI (d k))).2.2 x = τ.2 x := fun x hx => by rw [oBeg_2]; exact up1_n hx
      generalize (oBegins τ (c k) (nI (d k))).2 = ρ at *
      obtain ⟨g1, g2, g3, g4, g5⟩ := IY_bRun hn e20 hd hc hb hA t (k + 1) ρ (pl + 1) (by omega) W' Y' (fun f hf => (bf f (by omega) (by omega) (by omega) (by omega)).trans (t1 f hf)) (fun x hx => (b2 x (by omega)).trans (t2 x hx)) (fun r hr => (congrFun (bf 52 (by decide) (by decide) (by decide) (by decide)) r).trans (t52 r hr)) (fun r hr hr2 => (congrFun (bf 50 (by decide) (by decide) (by decide) (by decide)) r).trans (t50 r hr hr2)) (fun x hx => by
        have h1 := bh x (by rw [tN20]; exact hx)
        rw [tN1] at h1
        have h2 := tH x hx
        rw [eA x]
        omega) (by omega)
      exact ⟨g1, by omega, g3, fun f f1 f2 f3 f4 => (g4 f f1 f2 f3 f4).trans (bf f f2 f3 f4 (by omega)), fun x hx => (g5 x hx).trans (b2 x hx)⟩
    · have z' := z
      rw [t52 k hkM, e2] at z'
      have hz : ¬ d k < n := fun y => z' (nI_lt y (by omega))
      rw [if_neg hz] at es
      rw [bRun, iteP_f z]
      obtain ⟨g1, g2, g3⟩ := IY_bRun hn e20 hd hc hb hA t (k + 1) τ pl (by omega) hW hY t1 t2 t52 t50 (fun x hx => by
        have h2 := tH x hx
        rw [eA x, if_neg (by omega)]
        exact h2) (by omega)
      exact ⟨g1, by omega, g3⟩
def wtN (σ : aS) (kin : Int32) (k : Nat) : Nat := if σ.1 5 k = kin ∧ σ.1 10 k = -1 then 1 else 0
theorem cw_le {σ : aS} {kin : Int32} : ∀ j, (cw σ kin j).1 ≤ nsum (wtN σ kin) j
  | 0 => Nat.le_refl _
  | j + 1 => by
    have ih := cw_le (σ := σ) (kin := kin) j
    show _ ≤ nsum (wtN σ kin) j + wtN σ kin j
    by_cases q : cwP σ kin (cw σ kin j) j
    · obtain ⟨q1, q2, -⟩ := cwP_iff.mp q
      have e : wtN σ kin j = 1 := if_pos ⟨q1, q2⟩
      rw [e]
      by_cases h5 : (cw σ kin j).1 < 5
      · rw [cw_t q h5]; exact Nat.add_le_add_right ih 1
      · rw [cw_5 q h5]; exact Nat.add_le_add_right ih 1
    · rw [cw_f q]
      exact Nat.le_trans ih (Nat.le_add_right _ _)
theorem IY_R {A A' : Nat → Nat → Int32} {B B' : Nat → Int32} (h : IY (A, B)) (r : ∀ f, f < 49 → A' f = A f) (rB : ∀ x, x < 49 → B' x = B x) : IY (A', B') :=
  IY_of (σ := (A, B)) (σ' := (A', B')) h (fun f hf => r f (by
    have : ∀ f ∈ [3, 8, 10, 11, 14, 15, 17, 18, 23, 34, 36, 37, 44, 45, 46, 47, 48], f < 49 := by decide
    exact this f hf)) (congrArg Int32.toNatClampNeg (rB 1 (by decide))) (congrArg Int32.toNatClampNeg (rB 20 (by decide))) (congrArg Int32.toNatClampNeg (rB 43 (by decide))) (Nat.le_of_eq (congrArg Int32.toNatClampNeg (rB 0 (by decide)).symm)) (Nat.le_of_eq (congrArg Int32.toNatClampNeg (rB 38 (by decide)).symm))
/-- what placeAll leaves and what it tells -/
theorem pa_all {σ : aS} {x : Nat} (hx : x ≤ 7) (hW : IW σ) (hY : IY σ) :
    (IY (oPlaceAll σ (nI x)).2 ∧ (∀ f, f < 44 → f ≠ 10 → f ≠ 11 → f ≠ 13 → (oPlaceAll σ (nI x)).2.1 f = σ.1 f) ∧ ∀ y, y < 43 → (oPlaceAll σ (nI x)).2.2 y = σ.2 y) ∧
    ((paT σ (nI x) = 0 ∧ ∃ p, p ≤ 5 ∧ p ≤ nsum (wtN σ (nI x)) (cN σ 1) ∧ (oPlaceAll σ (nI x)).1 = nI p ∧ cN (oPlaceAll σ (nI x)).2 43 = cN σ 43 + p) ∨
      (paT σ (nI x) = 2 ∧ cN (oPlaceAll σ (nI x)).2 43 = cN σ 43 ∧ (5 < nsum (wtN σ (nI x)) (cN σ 1) ∨ 95 < cN σ 43))) := by
  have hI := hW.1
  have n1 := hI.2.1.2
  have n20 := hI.2.2.1.2
  have n43 := hI.2.2.2.2.2.1
  have hv : inP (nI x) 0 7 := ⟨nI_pos' (by omega), nI_le (b := 7) hx (by decide)⟩
  have ePC : paC σ (nI x) = cw σ (nI x) (cN σ 1) := iteP_t hv
  have hcl := cw_le (σ := σ) (kin := nI x) (cN σ 1)
  obtain ⟨M, eM⟩ : ∃ M, (cw σ (nI x) (cN σ 1)).1 = M := ⟨_, rfl⟩
  have eM' : (paC σ (nI x)).1 = M := by rw [ePC]; exact eM
  rw [eM] at hcl
  obtain ⟨⟨k1, k2⟩, k3⟩ := paF_p (σ := σ) (kin := nI x) hI
  have W := IW_paA (kin := nI x) hW
  have pa49 : ∀ f, f < 49 → paA σ (nI x) f = σ.1 f := fun f hf => by
    by_cases h5 : (paC σ (nI x)).1 ≤ 5
    · rw [paA, iteP_t h5, k3 f (by omega) (by omega) (by omega) (by omega) (by omega), paC_o (by omega)]
    · rw [paA, iteP_f h5, paC_o (by omega)]
  have g1 : ¬ bI (inP (nI x) 0 7) = 0 := bI_ne.mpr hv
  by_cases h5 : M ≤ 5
  · have h5' : (paC σ (nI x)).1 ≤ 5 := by rw [eM']; exact h5
    obtain ⟨d, d1, d2, d3⟩ := pw_way (σ := σ) (kin := nI x) hI hW.2.2.2.2.2.1 hW.2.2.2.2.2.2.2.2.2.2.2.2 rfl eM h5
    have eF : oFinds ((cw σ (nI x) (cN σ 1)).2, up1 σ.2 49 (nI M)) M = paF σ (nI x) := by
      unfold paF
      rw [ePC, eM]
    rw [eF] at d1
    have eA : paA σ (nI x) = (paF σ (nI x)).2 := iteP_t h5'
    have ePl : (paF σ (nI x)).1 = nI (cnP (cN σ 20) d M) := by
      rw [k2, plc_cnt, eM', cntU_P n20 M fun r hr => d1 r hr]
    have cp := cnP_le (n := cN σ 20) (a := d) M
    have eY : paY σ (nI x) = pI9 (σ.2 43 + (paF σ (nI x)).1 ≤ 100) := iteP_t h5'
    have e100 : (σ.2 43 + (paF σ (nI x)).1 ≤ 100) ↔ cN σ 43 + cnP (cN σ 20) d M ≤ 100 := by
      rw [ePl, n43.1, nI_add]
      exact nI_leI (b := 100) (by omega) (by decide)
    by_cases hc : cN σ 43 + cnP (cN σ 20) d M ≤ 100
    · have et : paT σ (nI x) = 0 := by
        rw [paT, eY]
        exact gT_0 g1 (pI9_ne.mpr (e100.mpr hc)) (by decide)
      have eo : oPlaceAll σ (nI x) = bRun M 0 (paA σ (nI x), up1 (up1 σ.2 49 (nI M)) 56 0) 0 := by
        rw [oPlaceAll, iteP_t et, eM']
      rw [eo]
      obtain ⟨c, hcc⟩ : ∃ c : Nat → Nat, ∀ r, r < M → d r < cN σ 20 → c r < cN σ 1 ∧ (cw σ (nI x) (cN σ 1)).2 50 r = nI (c r) ∧ mKindOn σ (nI (c r)) (σ.2 0) = 0 := by
        refine ⟨fun r => nx ((cw σ (nI x) (cN σ 1)).2 50 r), fun r hr hd => ?_⟩
        obtain ⟨c, c1, c2, c3, c4⟩ := d2 r hr hd
        have e : nx ((cw σ (nI x) (cN σ 1)).2 50 r) = c := by rw [c2]; exact nx_nI (by omega)
        dsimp only
        rw [e]
        exact ⟨c1, c2, (why_0 c4).2.1⟩
      have hbd := hW.2.2.2.2.2.2.2.2.2.2.2.2
      have hb2 : ∀ y, y < cN σ 20 → σ.1 23 y = nI (nx (σ.1 23 y)) ∧ nx (σ.1 23 y) ≤ 5 := fun y hy => by
        obtain ⟨b, b1, b2⟩ := nI_ofL (Int32.le_trans (by decide) (hbd y hy).1) (hbd y hy).2 (n := 5) rfl
        rw [b2, nx_nI (j := b) (by omega)]
        exact ⟨rfl, b1⟩
      have hA : ∀ y, y < cN σ 20 → cnA d y M = 0 ∨ nsum (hmN σ y) (cN σ 1) + cnA d y M ≤ nx (σ.1 23 y) := fun y hy => by
        rcases d3 y hy with q | q
        · exact Or.inl q
        · refine Or.inr ?_
          obtain ⟨b1, b2⟩ := hb2 y hy
          have e := nsum_hm σ y (cN σ 1)
          rw [oth_m1 n1, b1, pk_sub_toInt (by omega) (by omega)] at q
          omega
      have Y0 : IY (paA σ (nI x), up1 (up1 σ.2 49 (nI M)) 56 0) := IY_R (A := σ.1) (B := σ.2) hY pa49 (fun y hy => (up1_n (by omega)).trans (up1_n (by omega)))
      have t2 : ∀ y, y ≠ 49 → y ≠ 56 → (paA σ (nI x), up1 (up1 σ.2 49 (nI M)) 56 0).2 y = σ.2 y := fun y y1 y2 => (up1_n y2).trans (up1_n y1)
      have hh : ∀ y, hmN (paA σ (nI x), up1 (up1 σ.2 49 (nI M)) 56 0) y = hmN σ y := fun y => by
        unfold hmN
        rw [hmT_of (σ := σ) (pa49 10 (by decide)) (pa49 45 (by decide))]
      obtain ⟨r1, r2, -, r4, r5⟩ := IY_bRun (σ := σ) (n := cN σ 20) (M := M) (d := d) (c := c) (b := fun y => nx (σ.1 23 y)) n20 rfl (fun r hr => (d1 r hr).1) (fun r hr hd => ⟨(hcc r hr hd).1, (hcc r hr hd).2.2⟩) hb2 hA M 0 (paA σ (nI x), up1 (up1 σ.2 49 (nI M)) 56 0) 0 (by omega) W Y0 (fun f hf => pa49 f (by omega)) (fun y hy => t2 y (by omega) (by omega)) (fun r hr => by
        show paA σ (nI x) 52 r = _
        rw [eA]
        exact (d1 r hr).2) (fun r hr hd => by
        show paA σ (nI x) 50 r = _
        rw [eA, k3 50 (by decide) (by decide) (by decide) (by decide) (by decide), ePC]
        exact (hcc r hr hd).2.1) (fun y hy => by
        rw [hh y]
        exact Nat.le_add_right _ _) (by
        show cN σ 43 + _ ≤ 100
        omega)
      refine ⟨⟨r1, fun f f1 f2 f3 f4 => (r4 f f1 f2 f3 f4).trans (pa49 f (by omega)), fun y hy => (r5 y (by omega)).trans (t2 y (by omega) (by omega))⟩, Or.inl ⟨et, cnP (cN σ 20) d M, by omega, by omega, ?_, ?_⟩⟩
      · have := bRun_1 (n := cN σ 20) n20 (d := d) M 0 (paA σ (nI x), up1 (up1 σ.2 49 (nI M)) 56 0) 0 (by rw [t2 20 (by decide) (by decide)]; exact hI.2.2.1.1) (fun r hr => by
          refine ⟨(d1 r (by omega)).1, ?_⟩
          show paA σ (nI x) 52 r = _
          rw [eA]
          exact (d1 r (by omega)).2)
        rw [Nat.zero_add, Nat.zero_add] at this
        refine Eq.trans this ?_
        show nI (cnP (cN σ 20) d M - 0) = _
        rw [Nat.sub_zero]
      · rw [r2]
        show cN σ 43 + (cnP (cN σ 20) d M - 0) = _
        rw [Nat.sub_zero]
    · have et : paT σ (nI x) = 2 := by
        rw [paT, eY]
        exact gT_2 g1 (by rw [pI9_f fun z => hc (e100.mp z)])
      have eo : oPlaceAll σ (nI x) = (0, (paA σ (nI x), up1 (up1 σ.2 49 (nI M)) 56 2)) := by
        rw [oPlaceAll, et, iteP_f (by decide), eM']
      rw [eo]
      exact ⟨⟨IY_R (A := σ.1) (B := σ.2) hY pa49 (fun y hy => (up1_n (by omega)).trans (up1_n (by omega))), fun f f1 _ _ _ => pa49 f (by omega), fun y hy => (up1_n (by omega)).trans (up1_n (by omega))⟩, Or.inr ⟨et, rfl, Or.inr (by omega)⟩⟩
  · have eY : paY σ (nI x) = 0 := iteP_f (by rw [eM']; exact h5)
    have et : paT σ (nI x) = 2 := by
      rw [paT, eY]
      exact gT_2 g1 rfl
    have eo : oPlaceAll σ (nI x) = (0, (paA σ (nI x), up1 (up1 σ.2 49 (nI M)) 56 2)) := by
      rw [oPlaceAll, et, iteP_f (by decide), eM']
    rw [eo]
    exact ⟨⟨IY_R (A := σ.1) (B := σ.2) hY pa49 (fun y hy => (up1_n (by omega)).trans (up1_n (by omega))), fun f f1 _ _ _ => pa49 f (by omega), fun y hy => (up1_n (by omega)).trans (up1_n (by omega))⟩, Or.inr ⟨et, rfl, Or.inl (by omega)⟩⟩
