/-! WHAT HOLDS BETWEEN CALLS, more: what the law's checks rest on. -/
def nC (f : Nat → Int32) (x : Int32) : Nat → Nat
  | 0 => 0
  | n + 1 => nC f x n + if f n = x then 1 else 0
def nsum (g : Nat → Nat) : Nat → Nat
  | 0 => 0
  | n + 1 => nsum g n + g n
def VB (σ : aS) (k b : Nat) : Prop := ∃ c m d : Nat, c ≤ b ∧ m ≤ b ∧ d ≤ m ∧ σ.1 14 k = nI c ∧ σ.1 15 k = nI m ∧ σ.1 17 k = nI d ∧ (σ.1 18 k = 0 ∨ 3 ≤ m)
def YS (σ : aS) (j : Nat) : Prop := ∃ b, b ≤ cN σ 0 ∧ σ.1 46 j = nI b ∧ (σ.1 47 j = -1 ∨ ∃ e, b ≤ e ∧ e ≤ cN σ 0 ∧ σ.1 47 j = nI e) ∧ (∃ o, o < cN σ 38 ∧ σ.1 48 j = nI o) ∧ (∀ i, i < j → σ.1 44 i = σ.1 44 j → ∃ e, e ≤ b ∧ σ.1 47 i = nI e) ∧ ∃ s, s ≤ b ∧ σ.1 3 (nx (σ.1 44 j)) = nI s
def YR (σ : aS) (k i : Nat) : Prop := (∃ d, d ≤ cN σ 0 ∧ σ.1 37 (30 * k + i) = nI d) ∧ ∃ w, 1 ≤ w ∧ w ≤ 9 ∧ σ.1 36 (30 * k + i) = nI w
def IY (σ : aS) : Prop :=
  (∀ k, k < cN σ 1 → (0 ≤ σ.1 8 k ∧ σ.1 8 k < 5) ∧ VB σ k (cN σ 0) ∧ σ.1 11 k = nI (nC (σ.1 44) (nI k) (cN σ 43))) ∧
  (∀ m, m < cN σ 20 → fsum (hmT σ m) (cN σ 1) ≤ σ.1 23 m) ∧ (∀ j, j < cN σ 43 → YS σ j) ∧ ∀ k, k < cN σ 1 → ∀ i, i < rN σ k → YR σ k i
theorem hmT_of {σ σ' : aS} (r10 : σ'.1 10 = σ.1 10) (r45 : σ'.1 45 = σ.1 45) : hmT σ' = hmT σ := funext fun m => funext fun k => by
  unfold hmT mHomeOf
  rw [r10, r45]
theorem YS_of {σ σ' : aS} {j : Nat} (h : YS σ j) (r3 : σ'.1 3 = σ.1 3) (r44 : σ'.1 44 = σ.1 44) (r46 : σ'.1 46 = σ.1 46) (r47 : σ'.1 47 = σ.1 47) (r48 : σ'.1 48 = σ.1 48) (n0 : cN σ 0 ≤ cN σ' 0) (n38 : cN σ 38 ≤ cN σ' 38) : YS σ' j := by
  obtain ⟨b, b1, b2, b3, ⟨o, o1, o2⟩, b5, b6⟩ := h
  refine ⟨b, Nat.le_trans b1 n0, by rw [r46]; exact b2, ?_, ⟨o, Nat.lt_of_lt_of_le o1 n38, by rw [r48]; exact o2⟩, fun i hi e => ?_, ?_⟩
  · rw [r47]
    rcases b3 with q | ⟨e, e1, e2, e3⟩
    · exact Or.inl q
    · exact Or.inr ⟨e, e1, Nat.le_trans e2 n0, e3⟩
  · rw [r44] at e
    rw [r47]
    exact b5 i hi e
  · rw [r44, r3]
    exact b6
theorem VB_of {σ σ' : aS} {k b b' : Nat} (h : VB σ k b) (e14 : σ'.1 14 k = σ.1 14 k) (e15 : σ'.1 15 k = σ.1 15 k) (e17 : σ'.1 17 k = σ.1 17 k) (e18 : σ'.1 18 k = σ.1 18 k) (hb : b ≤ b') : VB σ' k b' := by
  obtain ⟨c, m, d, h1, h2, h3, h4, h5, h6, h7⟩ := h
  exact ⟨c, m, d, Nat.le_trans h1 hb, Nat.le_trans h2 hb, h3, e14.trans h4, e15.trans h5, e17.trans h6, by rw [e18]; exact h7⟩
theorem YR_of {σ σ' : aS} {k i : Nat} (h : YR σ k i) (e36 : σ'.1 36 (30 * k + i) = σ.1 36 (30 * k + i)) (e37 : σ'.1 37 (30 * k + i) = σ.1 37 (30 * k + i)) (n0 : cN σ 0 ≤ cN σ' 0) : YR σ' k i := by
  obtain ⟨⟨d, d1, d2⟩, w, w1, w2, w3⟩ := h
  exact ⟨⟨d, Nat.le_trans d1 n0, e37.trans d2⟩, w, w1, w2, e36.trans w3⟩
theorem IY_of {σ σ' : aS} (h : IY σ) (r : ∀ f, f ∈ [3, 8, 10, 11, 14, 15, 17, 18, 23, 34, 36, 37, 44, 45, 46, 47, 48] → σ'.1 f = σ.1 f) (n1 : cN σ' 1 = cN σ 1) (n20 : cN σ' 20 = cN σ 20) (n43 : cN σ' 43 = cN σ 43) (n0 : cN σ 0 ≤ cN σ' 0) (n38 : cN σ 38 ≤ cN σ' 38) : IY σ' := by
  obtain ⟨h1, h2, h3, h4⟩ := h
  refine ⟨fun k hk => ?_, fun m hm => ?_, fun j hj => ?_, fun k hk i hi => ?_⟩
  · obtain ⟨a1, a2, a3⟩ := h1 k (n1 ▸ hk)
    exact ⟨by rw [r 8 (by decide)]; exact a1, VB_of a2 (congrFun (r 14 (by decide)) k) (congrFun (r 15 (by decide)) k) (congrFun (r 17 (by decide)) k) (congrFun (r 18 (by decide)) k) n0, by rw [r 11 (by decide), r 44 (by decide), n43]; exact a3⟩
  · rw [hmT_of (r 10 (by decide)) (r 45 (by decide)), n1, r 23 (by decide)]
    exact h2 m (n20 ▸ hm)
  · exact YS_of (h3 j (n43 ▸ hj)) (r 3 (by decide)) (r 44 (by decide)) (r 46 (by decide)) (r 47 (by decide)) (r 48 (by decide)) n0 n38
  · refine YR_of (h4 k (n1 ▸ hk) i ?_) (congrFun (r 36 (by decide)) _) (congrFun (r 37 (by decide)) _) n0
    unfold rN at hi ⊢
    rw [r 34 (by decide)] at hi
    exact hi
theorem IY_A {A : Nat → Nat → Int32} {B : Nat → Int32} {f j : Nat} {v : Int32} (h : IY (A, B)) (hf : f ∉ [3, 8, 10, 11, 14, 15, 17, 18, 23, 34, 36, 37, 44, 45, 46, 47, 48]) : IY (up2 A f j v, B) :=
  IY_of (σ := (A, B)) (σ' := (up2 A f j v, B)) h (fun _ hg => up2_f fun e => hf (e ▸ hg)) rfl rfl rfl (Nat.le_refl _) (Nat.le_refl _)
theorem IY_56 {A : Nat → Nat → Int32} {B : Nat → Int32} {v : Int32} (h : IY (A, B)) : IY (A, up1 B 56 v) := h
theorem IY_49 {A : Nat → Nat → Int32} {B : Nat → Int32} {v : Int32} (h : IY (A, B)) : IY (A, up1 B 49 v) := h
theorem IY_sT {σ : aS} {t : Int32} (h : IY σ) : IY (sT σ t) := h
/-! sums as numbers -/
theorem fsum_nI {F : Nat → Int32} {g : Nat → Nat} : ∀ n, (∀ i, i < n → F i = nI (g i)) → fsum F n = nI (nsum g n)
  | 0, _ => rfl
  | n + 1, h => by
    show fsum F n + F n = _
    rw [fsum_nI n fun i hi => h i (by omega), h n (Nat.lt_succ_self n), nI_add]
    rfl
theorem nsum_le {g : Nat → Nat} {c : Nat} : ∀ n, (∀ i, i < n → g i ≤ c) → nsum g n ≤ c * n
  | 0, _ => Nat.le_refl _
  | n + 1, h => by
    have h1 := nsum_le n fun i hi => h i (by omega)
    have h2 := h n (Nat.lt_succ_self n)
    rw [Nat.mul_succ]
    exact Nat.add_le_add h1 h2
theorem nsum_ge {g : Nat → Nat} : ∀ {n i : Nat}, i < n → g i ≤ nsum g n
  | n + 1, i, h => by
    by_cases e : i = n
    · subst e; exact Nat.le_add_left _ _
    · exact Nat.le_trans (nsum_ge (n := n) (by omega)) (Nat.le_add_right _ _)
theorem nsum_add {g h : Nat → Nat} : ∀ n, nsum (fun i => g i + h i) n = nsum g n + nsum h n
  | 0 => rfl
  | n + 1 => by
    show nsum (fun i => g i + h i) n + (g n + h n) = (nsum g n + g n) + (nsum h n + h n)
    rw [nsum_add n]
    omega
theorem nsum_0 {g : Nat → Nat} : ∀ n, (∀ i, i < n → g i = 0) → nsum g n = 0
  | 0, _ => rfl
  | n + 1, h => by
    show nsum g n + g n = 0
    rw [nsum_0 n fun i hi => h i (by omega), h n (Nat.lt_succ_self n)]
theorem nsum_1 {g : Nat → Nat} {c : Nat} (hc : g c = 1) (h0 : ∀ i, i ≠ c → g i = 0) : ∀ n, c < n → nsum g n = 1
  | n + 1, h => by
    show nsum g n + g n = 1
    by_cases e : c = n
    · subst e
      rw [nsum_0 c fun i hi => h0 i (by omega), hc]
    · rw [nsum_1 hc h0 n (by omega), h0 n (fun z => e z.symm)]
theorem nC_le {f : Nat → Int32} {x : Int32} : ∀ n, nC f x n ≤ n
  | 0 => Nat.le_refl _
  | n + 1 => by
    have := nC_le (f := f) (x := x) n
    show nC f x n + (if f n = x then 1 else 0) ≤ n + 1
    split <;> omega
theorem nC_congr {f g : Nat → Int32} {x : Int32} : ∀ n, (∀ i, i < n → f i = g i) → nC f x n = nC g x n
  | 0, _ => rfl
  | n + 1, h => by
    show nC f x n + (if f n = x then 1 else 0) = nC g x n + (if g n = x then 1 else 0)
    rw [nC_congr n fun i hi => h i (by omega), h n (Nat.lt_succ_self n)]
/-- each stay is of one child -/
theorem nC_all {f : Nat → Int32} {N : Nat} (hN : N ≤ 1000) : ∀ n, (∀ j, j < n → ∃ k, k < N ∧ f j = nI k) → nsum (fun k => nC f (nI k) n) N = n
  | 0, _ => nsum_0 N fun _ _ => rfl
  | n + 1, h => by
    show nsum (fun k => nC f (nI k) n + (if f n = nI k then 1 else 0)) N = n + 1
    rw [nsum_add, nC_all hN n fun j hj => h j (by omega)]
    obtain ⟨c, c1, c2⟩ := h n (Nat.lt_succ_self n)
    have e : nsum (fun k => if f n = nI k then 1 else 0) N = nsum (fun k => if k = c then 1 else 0) N := by
      have key : ∀ M, M ≤ N → nsum (fun k => if f n = nI k then 1 else 0) M = nsum (fun k => if k = c then 1 else 0) M := by
        intro M
        induction M with
        | zero => intro _; rfl
        | succ M ih =>
          intro hM
          show nsum _ M + (if f n = nI M then 1 else 0) = nsum _ M + (if M = c then 1 else 0)
          rw [ih (by omega)]
          congr 1
          rw [c2]
          by_cases q : M = c
          · subst q; rw [if_pos rfl, if_pos rfl]
          · rw [if_neg q, if_neg fun z => q ((nI_eq (by omega) (by omega)).mp z).symm]
      exact key N (Nat.le_refl _)
    rw [e, nsum_1 (g := fun k => if k = c then 1 else 0) (c := c) (if_pos rfl) (fun i hi => if_neg hi) N c1]
/-! reports: the sum and the day to be seen by -/
theorem rPos {σ : aS} {k : Nat} (hY : ∀ i, i < rN σ k → YR σ k i) : ∀ n, n ≤ rN σ k → ∀ r, r < (rMrg σ k n).1 → (∃ d, d ≤ cN σ 0 ∧ (rMrg σ k n).2.1 r = nI d) ∧ ∃ w, 1 ≤ w ∧ w ≤ 9 ∧ (rMrg σ k n).2.2.2 r = nI w
  | 0, _, r, hr => absurd hr (Nat.not_lt_zero r)
  | n + 1, hn, r, hr => by
    have ih := rPos hY n (by omega)
    obtain ⟨⟨d, d1, d2⟩, w, w1, w2, w3⟩ := hY n (by omega)
    have es : rMrg σ k (n + 1) = rTell (rMrg σ k n) (σ.1 37 (30 * k + n)) (σ.1 35 (30 * k + n)) (σ.1 36 (30 * k + n)) := rfl
    rw [es] at hr ⊢
    cases hf : rFind (σ.1 37 (30 * k + n)) (σ.1 35 (30 * k + n)) (rMrg σ k n).2.1 (rMrg σ k n).2.2.1 (rMrg σ k n).1 0 with
    | none =>
      rw [rTell_none hf] at hr ⊢
      dsimp only at hr ⊢
      by_cases e : r = (rMrg σ k n).1
      · rw [e, up1_s, up1_s]
        exact ⟨⟨d, d1, d2⟩, w, w1, w2, w3⟩
      · rw [up1_n e, up1_n e]
        exact ih r (by omega)
    | some q =>
      rw [rTell_some hf] at hr ⊢
      dsimp only at hr ⊢
      refine ⟨(ih r hr).1, ?_⟩
      by_cases e : r = q
      · subst e
        rw [up1_s]
        split
        · exact ⟨w, w1, w2, w3⟩
        · exact (ih r hr).2
      · rw [up1_n e]
        exact (ih r hr).2
theorem rSum_n {σ : aS} {k : Nat} {R : rS} {day : Int32} (h : ∀ r, r < R.1 → (∃ d, d ≤ cN σ 0 ∧ R.2.1 r = nI d) ∧ ∃ w, 1 ≤ w ∧ w ≤ 9 ∧ R.2.2.2 r = nI w) : ∃ s, s ≤ 9 * R.1 ∧ rSum R day = nI s ∧ ∀ r, r < R.1 → day - 30 < R.2.1 r → 1 ≤ s := by
  have hg : ∀ r, r < R.1 → rSumT R day r = nI (nx (rSumT R day r)) ∧ nx (rSumT R day r) ≤ 9 ∧ (day - 30 < R.2.1 r → 1 ≤ nx (rSumT R day r)) := fun r hr => by
    obtain ⟨-, w, w1, w2, w3⟩ := h r hr
    unfold rSumT
    by_cases q : day - 30 < R.2.1 r
    · rw [if_pos q, w3, nx_nI (j := w) (by omega)]
      exact ⟨rfl, w2, fun _ => w1⟩
    · rw [if_neg q]
      exact ⟨rfl, by decide, fun z => absurd z q⟩
  refine ⟨nsum (fun r => nx (rSumT R day r)) R.1, nsum_le _ fun i hi => (hg i hi).2.1, fsum_nI _ fun i hi => (hg i hi).1, fun r hr hd => ?_⟩
  exact Nat.le_trans ((hg r hr).2.2 hd) (nsum_ge (g := fun r => nx (rSumT R day r)) hr)
theorem rSeeF_is {R : rS} {day seen : Int32} : ∀ t r, rSeeF R day seen t r = -1 ∨ ∃ q, r ≤ q ∧ q < r + t ∧ (day - 30 < R.2.1 q ∧ seen < R.2.1 q) ∧ rSeeF R day seen t r = R.2.1 q + daysTo (rSum R day)
  | 0, _ => Or.inl rfl
  | t + 1, r => by
    rw [rSeeF_s]
    by_cases c : day - 30 < R.2.1 r ∧ seen < R.2.1 r
    · rw [if_pos c]
      exact Or.inr ⟨r, Nat.le_refl _, by omega, c, rfl⟩
    · rw [if_neg c]
      rcases rSeeF_is (R := R) (day := day) (seen := seen) t (r + 1) with e | ⟨q, q1, q2, q3⟩
      · exact Or.inl e
      · exact Or.inr ⟨q, by omega, by omega, q3⟩
theorem daysTo_n (x : Int32) : ∃ n, 1 ≤ n ∧ n ≤ 20 ∧ daysTo x = nI n := by
  unfold daysTo
  split
  · exact ⟨1, by decide, by decide, rfl⟩
  · split
    · exact ⟨5, by decide, by decide, rfl⟩
    · exact ⟨20, by decide, by decide, rfl⟩
theorem rep_ok {σ : aS} {k : Nat} (hI : IC σ) (hk : k < cN σ 1) (hY : ∀ i, i < rN σ k → YR σ k i) : 0 ≤ rSum (rAll σ k) (σ.2 0) ∧ (0 < rSum (rAll σ k) (σ.2 0) ∨ rSee (rAll σ k) (σ.2 0) (σ.1 9 k) = -1) ∧ (rSee (rAll σ k) (σ.2 0) (σ.1 9 k) = -1 ∨ σ.2 0 - 30 < rSee (rAll σ k) (σ.2 0) (σ.1 9 k)) := by
  have hp := rPos hY (rN σ k) (Nat.le_refl _)
  have hr : (rAll σ k).1 ≤ 30 := Nat.le_trans (rMrg_le σ k _) (hI.2.2.2.2.2.2.1 k (by have := hI.2.1.2; omega)).2
  obtain ⟨s, s1, s2, s3⟩ := rSum_n (σ := σ) (k := k) (R := rAll σ k) (day := σ.2 0) hp
  refine ⟨by rw [s2]; exact nI_pos' (by omega), ?_, ?_⟩
  · rcases rSeeF_is (R := rAll σ k) (day := σ.2 0) (seen := σ.1 9 k) (rAll σ k).1 0 with e | ⟨q, q1, q2, q3, -⟩
    · exact Or.inr e
    · refine Or.inl ?_
      rw [s2]
      exact nI_lt (a := 0) (s3 q (by omega) q3.1) (by omega)
  · rcases rSeeF_is (R := rAll σ k) (day := σ.2 0) (seen := σ.1 9 k) (rAll σ k).1 0 with e | ⟨q, q1, q2, q3, q4⟩
    · exact Or.inl e
    · refine Or.inr ?_
      obtain ⟨⟨d, d1, d2⟩, -⟩ := hp q (show q < (rAll σ k).1 by omega)
      obtain ⟨n, n1, n2, n3⟩ := daysTo_n (rSum (rAll σ k) (σ.2 0))
      show σ.2 0 - 30 < rSeeF _ _ _ _ _
      have := hI.1.2
      have d2' : (rAll σ k).2.1 q = nI d := d2
      rw [q4, n3, d2', nI_add]
      refine Int32.lt_trans q3.1 ?_
      rw [d2']
      exact nI_lt (by omega) (by omega)
/-! why, best -/
theorem mWhyOn_n (σ : aS) (k : Nat) (h on : Int32) : ∃ n, n ≤ 5 ∧ mWhyOn σ k h on = nI n := by
  unfold mWhyOn
  split
  · exact ⟨1, by decide, rfl⟩
  · split
    · exact ⟨2, by decide, rfl⟩
    · split
      · exact ⟨3, by decide, rfl⟩
      · split
        · exact ⟨4, by decide, rfl⟩
        · split
          · exact ⟨5, by decide, rfl⟩
          · exact ⟨0, by decide, rfl⟩
theorem mWhyNot_n (σ : aS) (k h : Nat) : ∃ n, n ≤ 7 ∧ mWhyNot σ k h = nI n := by
  unfold mWhyNot
  split
  · obtain ⟨n, n1, n2⟩ := mWhyOn_n σ k (nI h) (σ.2 0)
    exact ⟨n, by omega, n2⟩
  · split
    · exact ⟨6, by decide, rfl⟩
    · split
      · exact ⟨7, by decide, rfl⟩
      · exact ⟨0, by decide, rfl⟩
theorem mBest_is {σ : aS} {k : Nat} : ∀ n, n ≤ 1000 → (mBestF σ k n = -1 ∧ ∀ m, m < n → ¬ mWhyNot σ k m = 0) ∨ ∃ b, b < n ∧ mBestF σ k n = nI b ∧ mWhyNot σ k b = 0 ∧ ∀ m, m < n → mWhyNot σ k m = 0 → mWorth σ k m ≤ mWorth σ k b ∧ (mWorth σ k m < mWorth σ k b ∨ nI b ≤ nI m)
  | 0, _ => Or.inl ⟨rfl, fun m hm => absurd hm (Nat.not_lt_zero m)⟩
  | n + 1, hn => by
    rcases mBest_is (σ := σ) (k := k) n (by omega) with ⟨e, h0⟩ | ⟨b, b1, b2, b3, b4⟩
    · by_cases q : mWhyNot σ k n = 0
      · rw [mBestF_t ⟨q, Or.inl e⟩]
        refine Or.inr ⟨n, Nat.lt_succ_self n, rfl, q, fun m hm hw => ?_⟩
        by_cases z : m = n
        · subst z
          exact ⟨Int32.le_refl _, Or.inr (Int32.le_refl _)⟩
        · exact absurd hw (h0 m (by omega))
      · rw [mBestF_f fun z => q z.1]
        refine Or.inl ⟨e, fun m hm => ?_⟩
        by_cases z : m = n
        · subst z; exact q
        · exact h0 m (by omega)
    · by_cases q : mWhyNot σ k n = 0 ∧ (mBestF σ k n = -1 ∨ mWorth σ k (nx (mBestF σ k n)) < mWorth σ k n)
      · rw [mBestF_t q]
        refine Or.inr ⟨n, Nat.lt_succ_self n, rfl, q.1, fun m hm hw => ?_⟩
        have g : mWorth σ k b < mWorth σ k n := by
          rcases q.2 with z | z
          · exact absurd (b2.symm.trans z) (nI_ne_m1 (by omega))
          · rw [b2, nx_nI (j := b) (by omega)] at z
            exact z
        by_cases z : m = n
        · subst z
          exact ⟨Int32.le_refl _, Or.inr (Int32.le_refl _)⟩
        · have := (b4 m (by omega) hw).1
          exact ⟨Int32.le_of_lt (Int32.lt_of_le_of_lt this g), Or.inl (Int32.lt_of_le_of_lt this g)⟩
      · rw [mBestF_f q]
        refine Or.inr ⟨b, by omega, b2, b3, fun m hm hw => ?_⟩
        by_cases z : m = n
        · subst z
          have g : ¬ mWorth σ k b < mWorth σ k m := fun y => q ⟨hw, Or.inr (by rw [b2, nx_nI (j := b) (by omega)]; exact y)⟩
          exact ⟨Int32.not_lt.mp g, Or.inr ((nI_leI (by omega) (by omega)).mpr (by omega))⟩
        · exact b4 m (by omega) hw
/-! a file's end -/
theorem pred_ring (c : Nat) : nI (c + 1) + -1 = nI c := by
  rw [← nI_1]
  generalize nI c = x
  grind
theorem mFile_end {σ : aS} {x : Int32} : ∀ t i c, nC (σ.1 44) x (i + t) = nC (σ.1 44) x i + c → c ≤ 1000 → mFileF σ x t (nI c) i = -1
  | 0, _, _, _, _ => rfl
  | t + 1, i, c, h, hc => by
    rw [mFileF_s]
    have e1 : i + (t + 1) = i + 1 + t := by omega
    have e2 : nC (σ.1 44) x (i + 1) = nC (σ.1 44) x i + if σ.1 44 i = x then 1 else 0 := rfl
    rw [e1] at h
    by_cases q : σ.1 44 i = x
    · rw [if_pos q]
      rw [if_pos q] at e2
      have mono : nC (σ.1 44) x (i + 1) ≤ nC (σ.1 44) x (i + 1 + t) := by
        clear h
        induction t with
        | zero => exact Nat.le_refl _
        | succ t ih => exact Nat.le_trans (ih (by omega)) (Nat.le_add_right _ _)
      obtain ⟨c', rfl⟩ : ∃ c', c = c' + 1 := ⟨c - 1, by omega⟩
      rw [if_neg (nI_ne0 (by omega) (by omega)), pred_ring c']
      exact mFile_end t (i + 1) c' (by omega) (by omega)
    · rw [if_neg q]
      rw [if_neg q] at e2
      exact mFile_end t (i + 1) c (by omega) hc
theorem mHome_neg {σ : aS} (hI : IC σ) (hS : IS σ) {k : Nat} (hk : k < cN σ 1) : mHomeOf σ k < 0 ↔ σ.1 10 k = -1 := by
  by_cases e : σ.1 10 k = -1
  · have q : mHomeOf σ k = -1 := if_pos e
    rw [q]
    exact ⟨fun _ => e, fun _ => by decide⟩
  · obtain ⟨h, h1, h2⟩ := mHome_ix hI hS hk e
    rw [h2]
    exact ⟨fun z => absurd z (nI_pos (by have := hI.2.2.1.2; omega)), fun z => absurd z e⟩
theorem years_ring (a t s : Int32) : a + t - s = a - s + t := by grind
theorem AC_of {σ : aS} (hW : IW σ) (hY : IY σ) : AC σ := by
  obtain ⟨h1, h2, h3, h4⟩ := hY
  have hI := hW.1
  have n1 := hI.2.1.2
  have n20 := hI.2.2.1.2
  have n43 := hI.2.2.2.2.2.1.2
  refine ⟨fun k hk => ?_, h2, ?_⟩
  · obtain ⟨w, ⟨c, m, d, v1, v2, v3, v4, v5, v6, v7⟩, h11⟩ := h1 k hk
    have n0 := hI.1.2
    have hle := nC_le (f := σ.1 44) (x := nI k) (cN σ 43)
    refine ⟨?_, ?_, w, rep_ok hI hk (h4 k hk), ⟨by rw [v4]; exact nI_pos' (by omega), by rw [v5]; exact nI_pos' (by omega), ?_⟩, fun _ => ?_, by rw [h11]; exact nI_pos' (by omega), fun m hm => ?_⟩
    · by_cases e : σ.1 10 k = -1
      · rw [show mHomeOf σ k = -1 from if_pos e]
        exact ⟨Int32.le_refl _, Int32.lt_of_lt_of_le (by decide) (nI_pos' (n := cN σ 20) (by omega))⟩
      · obtain ⟨h, e1, e2⟩ := mHome_ix hI hW.2.1 hk e
        rw [e2]
        exact ⟨Int32.le_trans (by decide) (nI_pos' (n := h) (by omega)), nI_lt e1 (by omega)⟩
    · unfold mYears
      rw [years_ring]
    · rcases v7 with q | q
      · exact Or.inl q
      · refine Or.inr ?_
        rw [v5]
        exact nI_lt (a := 2) (by omega) (by omega)
    · rw [h11]
      exact mFile_end (cN σ 43) 0 _ (by rw [Nat.zero_add]; show _ = 0 + _; rw [Nat.zero_add]) (by omega)
    · obtain ⟨y, y1, y2⟩ := mWhyNot_n σ k m
      refine ⟨by rw [y2]; exact ⟨nI_pos' (by omega), nI_lt (b := 8) (by omega) (by omega)⟩, ?_, ?_⟩
      · rcases mBest_is (σ := σ) (k := k) (cN σ 20) (by omega) with ⟨e, -⟩ | ⟨b, b1, b2, b3, -⟩
        · exact fun z => absurd (z.symm.trans e) (nI_ne_m1 (by omega))
        · intro z
          rw [b2] at z
          have := (nI_eq (by omega) (by omega)).mp z
          rw [← this]
          exact b3
      · intro z
        rcases mBest_is (σ := σ) (k := k) (cN σ 20) (by omega) with ⟨-, e⟩ | ⟨b, b1, b2, b3, b4⟩
        · exact absurd z (e m hm)
        · exact ⟨b, b1, b2, b4 m hm z⟩
  · rw [fsum_nI (g := fun k => nC (σ.1 44) (nI k) (cN σ 43)) _ fun k hk => (h1 k hk).2.2, nC_all (by omega) _ fun j hj => (hW.2.1 j hj).1]
theorem bit3 {x : Int32} (h : 0 ≤ x ∧ x ≤ 15) : (x >>> ((3 : Int32) &&& 31)) = ((x >>> ((3 : Int32) &&& 31)) &&& 1) := by
  obtain ⟨n, n1, rfl⟩ := nI_ofL h.1 h.2 (n := 15) rfl
  have key : ∀ n : Nat, n < 16 → (nI n >>> ((3 : Int32) &&& 31)) = ((nI n >>> ((3 : Int32) &&& 31)) &&& 1) := by decide
  exact key n (by omega)
theorem load_ring (b0 b1 b2 b3 c : Int32) : 2 + (b0 + b1 + b2 + b3) + c = 2 + c + b0 + b1 + b2 + b3 := by grind
theorem ALo_of {σ : aS} (hW : IW σ) : ALo σ := by
  refine ⟨fun w hw => ?_, fun k hk => mHome_neg hW.1 hW.2.1 hk⟩
  refine fsum_congr _ fun k hk => ?_
  unfold mLoadT ldT
  by_cases e : σ.1 8 k = nI w
  · rw [if_pos e, if_pos e]
    unfold ones4
    rw [load_ring, ← bit3 (hW.2.2.2.2.1 k hk)]
  · rw [if_neg e, if_neg e]
/-! dues, day by day -/
theorem due_age (a s d : Int32) : a - s + d = d + a - s := by grind
theorem cDues_n {σ : aS} {j c a s B v : Nat} (hc : c < 16) (e44 : σ.1 44 j = nI c) (ha : a ≤ 7000) (e2 : σ.1 2 c = nI a) (e3 : σ.1 3 c = nI s) (hs : s ≤ B) (e4 : v = v) (hn : 0 ≤ σ.1 4 c ∧ σ.1 4 c ≤ 15) : ∀ i, B + i ≤ 12000 → (nI (B + i) - nI B) * (10 + 5 * bcF (σ.1 4 c)) + ysum (nI (B + i) - cBorn σ c) - ysum (nI B - cBorn σ c) = fsum (fun i => dyD σ c (nI (B + i))) i
  | 0, _ => by
    show (nI B - nI B) * (10 + 5 * bcF (σ.1 4 c)) + ysum (nI B - cBorn σ c) - ysum (nI B - cBorn σ c) = 0
    rw [Int32.sub_self, Int32.zero_mul, Int32.zero_add, Int32.sub_self]
  | i + 1, hi => by
    have ih := cDues_n (v := v) hc e44 ha e2 e3 hs e4 hn i (by omega)
    have y : ∀ x, s ≤ x → nI x - cBorn σ c = nI (x + a - s) := fun x hx => by
      unfold cBorn
      rw [e2, e3, sub_sub32, nI_add, pk_sub (by omega)]
    show _ = fsum (fun i => dyD σ c (nI (B + i))) i + dyD σ c (nI (B + i))
    rw [← ih, y _ (by omega), y _ (by omega), y _ (by omega), show B + (i + 1) + a - s = (B + i + a - s) + 1 by omega, ysum_s (by omega), show B + (i + 1) = B + i + 1 by omega, ← nI_1]
    have eD : dyD σ c (nI (B + i)) = 10 + nI ((B + i + a - s) / 365) + 5 * bcF (σ.1 4 c) := by
      unfold dyD
      rw [e2, e3, due_age, nI_add, pk_sub (by omega), show (365 : Int32) = nI 365 from rfl, pk_div (by omega) (by decide) (by decide), bc_ones hn, bit3 hn]
      rfl
    rw [eD]
    exact due_ring _ _ _ _ _ _
theorem ASt_of {σ : aS} (hW : IW σ) (hY : IY σ) : ASt σ := by
  obtain ⟨h1, h2, h3, h4⟩ := hY
  have hI := hW.1
  have n0 := hI.1.2
  have n1 := hI.2.1.2
  have n38 := hI.2.2.2.2.1.2
  have n43 := hI.2.2.2.2.2.1.2
  have e0 : σ.2 0 = nI (cN σ 0) := hI.1.1
  refine ⟨fun j hj => ?_, fun m hm => ?_⟩
  · obtain ⟨b, b1, b2, b3, ⟨o, o1, o2⟩, b5, -⟩ := h3 j hj
    obtain ⟨⟨c, c1, c2⟩, h, hh, eh⟩ := hW.2.1 j hj
    refine ⟨⟨c, c1, c2, fun q => ?_⟩, ⟨by rw [b2]; exact nI_pos' (by omega), by rw [b2, e0]; exact nI_le b1 (by omega)⟩, fun q => ?_, ⟨by rw [o2]; exact nI_pos' (by omega), by rw [o2]; exact nI_lt o1 (by omega)⟩, fun i hi e => ?_⟩
    · have q10 : σ.1 10 c = nI j := hW.2.2.2.2.2.2.2.2.2.2.1.2 j c hj c1 q c2
      unfold mHomeOf
      rw [if_neg (by rw [q10]; exact nI_ne_m1 (by omega)), q10, nI_clamp (by omega)]
    · rcases b3 with z | ⟨e, e1, e2, e3⟩
      · exact absurd z q
      · rw [e3, b2, e0]
        exact ⟨nI_le e1 (by omega), nI_le e2 (by omega)⟩
    · obtain ⟨x, x1, x2⟩ := b5 i hi e
      rw [x2, b2]
      exact ⟨nI_pos' (by omega), nI_le x1 (by omega)⟩
  · have eO : cOw σ m = fsum (cOwT σ m) (cN σ 43) - σ.1 25 m := by
      unfold cOw
      rw [Int32.sub_eq_add_neg, Int32.add_comm]
    rw [eO]
    congr 1
    refine fsum_congr _ fun j hj => ?_
    unfold cOwT stD
    by_cases q : σ.1 45 j = nI m
    · rw [if_pos q, if_pos q]
      obtain ⟨b, b1, b2, b3, -, -, s, s1, s2⟩ := h3 j hj
      obtain ⟨⟨c, c1, c2⟩, -⟩ := hW.2.1 j hj
      have ec : nx (σ.1 44 j) = c := by rw [c2]; exact nI_clamp (by omega)
      obtain ⟨⟨a, a1, a2⟩, -⟩ := hW.2.2.2.2.2.2.2.2.2.1 c c1
      rw [ec] at s2
      rw [ec, b2, nx_nI (j := b) (by omega)]
      obtain ⟨E, E1, E2, E3, E4⟩ : ∃ E, b ≤ E ∧ E ≤ cN σ 0 ∧ cOver σ j (σ.2 0) = nI E ∧ (if σ.1 47 j = -1 then cN σ 0 else nx (σ.1 47 j)) = E := by
        unfold cOver
        rcases b3 with z | ⟨e, g1, g2, g3⟩
        · exact ⟨cN σ 0, b1, Nat.le_refl _, by rw [if_pos z, e0], if_pos z⟩
        · have nz : ¬ σ.1 47 j = -1 := by rw [g3]; exact nI_ne_m1 (by omega)
          exact ⟨e, g1, g2, by rw [if_neg nz, g3], by rw [if_neg nz, g3]; exact nI_clamp (by omega)⟩
      rw [E4]
      have key := cDues_n (σ := σ) (j := j) (c := c) (a := a) (s := s) (B := b) (v := 0) (by omega) c2 a1 a2 s2 s1 rfl (hW.2.2.2.2.1 c c1) (E - b) (by omega)
      rw [show b + (E - b) = E by omega] at key
      unfold cDues
      rw [ec, E3, b2]
      exact key
    · rw [if_neg q, if_neg q]
