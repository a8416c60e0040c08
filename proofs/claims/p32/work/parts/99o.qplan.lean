/-! THE SEARCH: the plan's rows and the reference's rows ask for the same way. -/
theorem cw_10 (σ : aS) (kin : Int32) : ∀ j i, i < (cw σ kin j).1 → i < 5 → ∃ c, c < j ∧ (cw σ kin j).2 50 i = nI c ∧ σ.1 10 c = -1
  | 0, i, h, _ => absurd h (Nat.not_lt_zero i)
  | j + 1, i, h, hi => by
    by_cases q : cwP σ kin (cw σ kin j) j
    · have q10 := (cwP_iff.mp q).2.1
      by_cases h5 : (cw σ kin j).1 < 5
      · rw [cw_t q h5] at h ⊢
        by_cases e : i = (cw σ kin j).1
        · subst e; exact ⟨j, Nat.lt_succ_self j, up2_s, q10⟩
        · obtain ⟨c, h1, h2, h3⟩ := cw_10 σ kin j i (by have h : i < (cw σ kin j).1 + 1 := h; omega) hi
          exact ⟨c, Nat.lt_succ_of_lt h1, (up2_n2 e).trans h2, h3⟩
      · rw [cw_5 q h5] at h ⊢
        obtain ⟨c, h1, h2, h3⟩ := cw_10 σ kin j i (by omega) hi
        exact ⟨c, Nat.lt_succ_of_lt h1, h2, h3⟩
    · rw [cw_f q] at h ⊢
      obtain ⟨c, h1, h2, h3⟩ := cw_10 σ kin j i h hi
      exact ⟨c, Nat.lt_succ_of_lt h1, h2, h3⟩
theorem plan_way {T : sS} {ad : Nat → Nat → Nat} {σ : aS} {kin : Int32} {M n : Nat} (hI : IC σ) (hP : IP σ) (hB : IBd σ) (en : cN σ 20 = n) (eM : (cw σ kin (cN σ 1)).1 = M) (hM : M ≤ 5)
    (hF : ∀ h, h < n → sA T (ad 25 0) h = σ.1 23 h - mOthers σ (-1) (nI h)) (hR : ∀ r, r < M → ∃ c, c < cN σ 1 ∧ (cw σ kin (cN σ 1)).2 50 r = nI c ∧ ∀ h, h < 10 → sA T (ad 24 r) h = rowV σ c h) :
    (∀ r h, okS T ad M r h → r < M ∧ h < n) ∧ (∀ r h, r < M → h < n → okS T ad M r h → -100 ≤ wS T ad r h ∧ wS T ad r h ≤ 200) ∧ ∃ d : Nat → Nat, (∀ r, r < M → d r ≤ n ∧ (oFinds ((cw σ kin (cN σ 1)).2, up1 σ.2 49 (nI M)) M).2 52 r = nI (d r)) ∧ feaW (okS T ad M) (FS T ad) n M d ∧
      ∀ c : Nat → Nat, (∀ r, r < M → c r ≤ n) → feaW (okS T ad M) (FS T ad) n M c → valI (wP T ad M) n M c < valI (wP T ad M) n M d ∨ (valI (wP T ad M) n M c = valI (wP T ad M) n M d ∧ rkN n d M ≤ rkN n c M) := by
  have n1 := hI.2.1.2
  have n10 : n ≤ 10 := by rw [← en]; exact hI.2.2.1.2
  obtain ⟨τ, hτ⟩ : ∃ τ : aS, τ = ((cw σ kin (cN σ 1)).2, up1 σ.2 49 (nI M)) := ⟨_, rfl⟩
  have t50 : ∀ f, f < 50 → τ.1 f = σ.1 f := fun f hf => by rw [hτ]; exact cw_o (by omega) _
  have tn : ∀ x, x ≠ 49 → τ.2 x = σ.2 x := fun x hx => by rw [hτ]; exact up1_n hx
  have tc : ∀ x, x ≠ 49 → cN τ x = cN σ x := fun x hx => congrArg Int32.toNatClampNeg (tn x hx)
  have en2 : cN τ 20 = n := (tc 20 (by decide)).trans en
  rw [← hτ]
  have ch : ∀ r, r < M → ∃ c, c < cN σ 1 ∧ τ.1 50 r = nI c ∧ σ.1 10 c = -1 ∧ ∀ h, h < 10 → sA T (ad 24 r) h = rowV σ c h := fun r hr => by
    obtain ⟨c, c1, c2, c3⟩ := hR r hr
    obtain ⟨c', d1, d2, d3⟩ := cw_10 σ kin (cN σ 1) r (by omega) (by omega)
    rw [c2] at d2
    have e := (nI_eq (by omega) (by omega)).mp d2
    subst e
    exact ⟨c, c1, by rw [hτ]; exact c2, d3, c3⟩
  obtain ⟨f1, f2⟩ := fil2_v (σ := τ) (by rw [en2]; exact n10) M
  rw [en2] at f1 f2
  have eW : ∀ c h, mWorth τ c h = mWorth σ c h := fun c h => mWorth_cg t50 (tc 1 (by decide))
  have eN : ∀ c h, mWhyNot τ c h = mWhyNot σ c h := fun c h => mWhyNot_cg t50 (tc 38 (by decide)) (tc 27 (by decide)) (tc 1 (by decide)) (tn 0 (by decide))
  have eO : ∀ x h, mOthers τ x h = mOthers σ x h := fun x h => mOthers_congr (t50 10 (by decide)) (t50 45 (by decide)) (tc 1 (by decide))
  have cW : ∀ {c h : Nat}, c < cN σ 1 → h < n → -100 ≤ (mWorth σ c h).toInt ∧ (mWorth σ c h).toInt ≤ 200 := fun {c h} h1 h2 => mWorth_b hI hP h1 (by rw [en]; exact h2)
  have okI : ∀ r h, okS T ad M r h ↔ r < M ∧ h < n ∧ ∃ c, c < cN σ 1 ∧ τ.1 50 r = nI c ∧ mWhyOn σ c (nI h) (σ.2 0) = 0 ∧ ¬ σ.1 19 (10 * c + h) = 3 := fun r h => by
    constructor
    · rintro ⟨a1, a2, a3⟩
      obtain ⟨c, c1, c2, c3, c4⟩ := ch r a1
      rw [c4 h a2] at a3
      have q : h < cN σ 20 ∧ mWhyOn σ c (nI h) (σ.2 0) = 0 ∧ ¬ σ.1 19 (10 * c + h) = 3 := Classical.byContradiction fun z => a3 (iteP_f z)
      exact ⟨a1, by rw [← en]; exact q.1, c, c1, c2, q.2⟩
    · rintro ⟨a1, a2, c, c1, c2, c3, c4⟩
      refine ⟨a1, by omega, ?_⟩
      obtain ⟨c', d1, d2, -, d4⟩ := ch r a1
      rw [c2] at d2
      have e := (nI_eq (by omega) (by omega)).mp d2
      subst e
      rw [d4 h (by omega), rowV, iteP_t ⟨by rw [en]; exact a2, c3, c4⟩]
      intro z
      have b := cW c1 a2
      rw [z, show (-1000000 : Int32).toInt = -1000000 from rfl] at b
      omega
  have wI : ∀ r h, okS T ad M r h → ∃ c, c < cN σ 1 ∧ τ.1 50 r = nI c ∧ wS T ad r h = (mWorth σ c h).toInt := fun r h q => by
    obtain ⟨a1, a2, c, c1, c2, c3, c4⟩ := (okI r h).mp q
    obtain ⟨c', d1, d2, -, d4⟩ := ch r a1
    have d2' := d2
    rw [c2] at d2'
    have e := (nI_eq (by omega) (by omega)).mp d2'
    subst e
    refine ⟨c, c1, c2, ?_⟩
    unfold wS
    rw [d4 h (by omega), rowV, iteP_t ⟨by rw [en]; exact a2, c3, c4⟩]
  have okRI : ∀ r h, r < M → h < n → (okR (fil2 τ M) r h ↔ ∃ c, c < cN σ 1 ∧ τ.1 50 r = nI c ∧ mWhyNot σ c h = 0) := fun r h hr hh => by
    obtain ⟨c, c1, c2, -⟩ := ch r hr
    unfold okR
    rw [(f1 r h hr hh).1, pI9_ne, c2, show nx (nI c) = c from nI_clamp (by omega), eN]
    constructor
    · intro q; exact ⟨c, c1, rfl, q⟩
    · rintro ⟨c', d1, d2, d3⟩
      have e := (nI_eq (by omega) (by omega)).mp d2
      subst e
      exact d3
  have wRI : ∀ r h, r < M → h < n → ∀ c, c < cN σ 1 → τ.1 50 r = nI c → wR (fil2 τ M) r h = (mWorth σ c h).toInt := fun r h hr hh c c1 c2 => by
    unfold wR
    rw [(f1 r h hr hh).2, c2, show nx (nI c) = c from nI_clamp (by omega), eW]
  have FRI : ∀ h, 0 < M → h < n → FR (fil2 τ M) h = (σ.1 23 h - mOthers σ (-1) (nI h)).toInt := fun h h0 hh => by
    unfold FR
    rw [f2 h h0 hh, t50 23 (by decide), eO]
  have FSI : ∀ h, h < n → FS T ad h = (σ.1 23 h - mOthers σ (-1) (nI h)).toInt := fun h hh => by
    unfold FS
    rw [hF h hh]
  have free : ∀ c h, c < cN σ 1 → σ.1 10 c = -1 → h < n → (1 ≤ (σ.1 23 h - mOthers σ (-1) (nI h)).toInt ↔ ¬ σ.1 23 h ≤ mOthers σ (nI c) (nI h)) := fun c h h1 h2 h3 => by
    rw [mOthers_w h2 (by omega) n1 (by omega)]
    exact free_i hI hB (by rw [en]; exact h3)
  have hdat : datR (fil2 τ M) n M := ⟨fun r h hr hh => by
      obtain ⟨c, c1, c2, -⟩ := ch r hr
      rw [wRI r h hr hh c c1 c2]
      exact cW c1 hh, fun r h hr hh q => by
      obtain ⟨c', d1, d2, d3, -⟩ := ch r hr
      obtain ⟨c, c1, c2, c3⟩ := (okRI r h hr hh).mp q
      rw [c2] at d2
      have e := (nI_eq (by omega) (by omega)).mp d2
      subst e
      rw [FRI h (by omega) hh]
      exact (free c h c1 d3 hh).mpr (why_iff.mp c3).2.1⟩
  have FF : ∀ x a, x < n → muW n M a x ≠ 0 → FR (fil2 τ M) x = FS T ad x := fun x a hx hz => by
    have h0 : 0 < M := by
      refine Nat.pos_of_ne_zero fun z => hz (mu0_iff.mpr fun y => ?_)
      obtain ⟨-, r, y1, -⟩ := y
      omega
    rw [FRI x h0 hx, FSI x hx]
  have S_R : ∀ a, feaW (okS T ad M) (FS T ad) n M a → feaW (okR (fil2 τ M)) (FR (fil2 τ M)) n M a := fun a q => by
    have q2 : ∀ x, x < n → muW n M a x = 0 ∨ cntB (muW n M a x) 5 ≤ FR (fil2 τ M) x := fun x hx => by
      by_cases z : muW n M a x = 0
      · exact Or.inl z
      · rw [FF x a hx z]; exact q.2 x hx
    refine ⟨fun r hr hn => ?_, q2⟩
    obtain ⟨-, -, c, c1, c2, c3, c4⟩ := (okI r (a r)).mp (q.1 r hr hn)
    obtain ⟨c', d1, d2, d3, -⟩ := ch r hr
    have d2' := d2
    rw [c2] at d2'
    have e := (nI_eq (by omega) (by omega)).mp d2'
    subst e
    refine (okRI r (a r) hr hn).mpr ⟨c, c1, c2, why_iff.mpr ⟨c3, (free c (a r) c1 d3 hn).mp ?_, c4⟩⟩
    have hz : muW n M a (a r) ≠ 0 := fun z => (mu0_iff.mp z) ⟨hn, r, hr, rfl⟩
    have cc := (q.2 (a r) hn).resolve_left hz
    rw [FSI (a r) hn, cntB_mu hM hn] at cc
    have : cnA a (a r) M ≠ 0 := fun z => (cnA_0 M).mp z r hr rfl
    omega
  have R_S : ∀ a, feaW (okR (fil2 τ M)) (FR (fil2 τ M)) n M a → feaW (okS T ad M) (FS T ad) n M a := fun a q => by
    refine ⟨fun r hr hn => ?_, fun x hx => ?_⟩
    · obtain ⟨c, c1, c2, c3⟩ := (okRI r (a r) hr hn).mp (q.1 r hr hn)
      have w := why_iff.mp c3
      exact (okI r (a r)).mpr ⟨hr, hn, c, c1, c2, w.1, w.2.2⟩
    · by_cases z : muW n M a x = 0
      · exact Or.inl z
      · rw [← FF x a hx z]; exact q.2 x hx
  have val : ∀ a, feaW (okS T ad M) (FS T ad) n M a → valI (wR (fil2 τ M)) n M a = valI (wP T ad M) n M a := fun a q => by
    unfold valI ctW
    have e : isum (fun r => if a r < n then wR (fil2 τ M) r (a r) else 0) M = isum (fun r => if a r < n then wP T ad M r (a r) else 0) M := isum_congr M fun r hr => by
      by_cases z : a r < n
      · rw [if_pos z, if_pos z, wP, iteP_t (q.1 r hr z)]
        obtain ⟨c, c1, c2, c3⟩ := wI r (a r) (q.1 r hr z)
        rw [c3, wRI r (a r) hr z c c1 c2]
      · rw [if_neg z, if_neg z]
    rw [e]
  obtain ⟨d, d1, d2, d3⟩ := oFinds_b (σ := τ) (n := n) (M := M) (by rw [tn 20 (by decide), hI.2.2.1.1, en]) en2 n10 hM hdat
  refine ⟨fun r h q => ⟨((okI r h).mp q).1, ((okI r h).mp q).2.1⟩, fun r h hr hh q => ?_, d, d1, R_S d d2, fun c hc hf => ?_⟩
  · obtain ⟨c, c1, -, c3⟩ := wI r h q
    rw [c3]
    exact cW c1 hh
  · have := d3 c hc (S_R c hf)
    rw [val c hf, val d (R_S d d2)] at this
    exact this

