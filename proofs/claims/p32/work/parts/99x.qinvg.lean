/-! WHAT HOLDS BETWEEN CALLS: the placing of all, and the calls, each. -/
theorem srch_o {B : Nat → Int32} {M g : Nat} (g1 : g ≠ 51) (g2 : g ≠ 52) : ∀ (f : Nat) (A : Nat → Nat → Int32) (b p : Int32), (srch B M f A b p).2 g = A g
  | 0, _, _, _ => rfl
  | f + 1, A, b, p => by
    have key : ∀ (A' : Nat → Nat → Int32) (b' p' : Int32), A' g = A g → (iteP ((nxt (B 20) M A').1 = 0) (p', (nxt (B 20) M A').2) (srch B M f (nxt (B 20) M A').2 b' p')).2 g = A g := fun A' b' p' h => by
      by_cases q : (nxt (B 20) M A').1 = 0
      · rw [iteP_t q]; exact (nxt_o g1 M A').trans h
      · rw [iteP_f q]; exact (srch_o g1 g2 f _ b' p').trans ((nxt_o g1 M A').trans h)
    by_cases hv : b < mVal (A, B) M
    · rw [srch, iteP_t hv]; exact key _ _ _ (cop_o g2 M)
    · rw [srch, iteP_f hv]; exact key _ _ _ rfl
theorem IZ_fil1 {B : Nat → Int32} {k c : Nat} {A : Nat → Nat → Int32} (h : IZ (A, B)) : ∀ w, IZ (fil1 B k c A w, B)
  | 0 => h
  | w + 1 => by
    show IZ (filC B k c w (fil1 B k c A w), B)
    unfold filC filB filA
    exact IZ_A (IZ_A (IZ_A (IZ_fil1 h w) (fun _ => pI9_01 _)) (fun q => absurd q (by decide))) (fun q => absurd q (by decide))
theorem IZ_fil2 {A : Nat → Nat → Int32} {B : Nat → Int32} (h : IZ (A, B)) : ∀ k, IZ (fil2 (A, B) k, B)
  | 0 => h
  | k + 1 => IZ_fil1 (IZ_A (IZ_fil2 h k) (fun q => absurd q (by decide))) _
theorem IW_R {A A' : Nat → Nat → Int32} {B : Nat → Int32} (h : IW (A, B)) (r : ∀ f, f < 49 → A' f = A f) (z : ∀ j, j < mLen 53 → A' 53 j = 0 ∨ A' 53 j = 1) : IW (A', B) := by
  obtain ⟨a1, a2, a3, a4, a5, a6, a7, a8, a9, a10, a11, a12, a13⟩ := h
  refine ⟨IC_of a1 (r 34 (by decide)) (r 10 (by decide)), IS_of a2 (r 44 (by decide)) (r 45 (by decide)), fun f j hf hj => ?_, IO_of a4 (r 42 (by decide)) rfl, IN_of a5 (r 4 (by decide)) rfl, IP_of a6 (r 6 (by decide)) (r 21 (by decide)) rfl rfl, IQ_of a7 (fun f hf => r f (by omega)) rfl rfl rfl rfl, JT_of a8 (r 28 (by decide)) (r 29 (by decide)) (r 30 (by decide)) (Nat.le_refl _) rfl, IR_of a9 (r 37 (by decide)) (r 34 (by decide)) rfl, IA_of a10 (r 2 (by decide)) (r 3 (by decide)) rfl (Nat.le_refl _), IE_of a11 (r 10 (by decide)) (r 44 (by decide)) (r 47 (by decide)) rfl rfl, ID_of a12 (r 47 (by decide)) (r 46 (by decide)) (r 4 (by decide)) (r 44 (by decide)) (r 3 (by decide)) (r 2 (by decide)) (r 45 (by decide)) (r 24 (by decide)) rfl rfl rfl, IBd_of a13 (r 23 (by decide)) rfl⟩
  rcases mZ_is hf with rfl | rfl | rfl | rfl
  · rw [show (A', B).1 13 = A 13 from r 13 (by decide)]; exact a3 13 j hf hj
  · rw [show (A', B).1 18 = A 18 from r 18 (by decide)]; exact a3 18 j hf hj
  · rw [show (A', B).1 26 = A 26 from r 26 (by decide)]; exact a3 26 j hf hj
  · exact z j hj
theorem paC_o {σ : aS} {kin : Int32} {f : Nat} (hf : f ≠ 50) : (paC σ kin).2 f = σ.1 f := by
  by_cases q : inP kin 0 7
  · rw [paC, iteP_t q]; exact cw_o hf _
  · rw [paC, iteP_f q]
theorem IW_paA {σ : aS} {kin : Int32} (h : IW σ) : IW (paA σ kin, σ.2) := by
  obtain ⟨A, B⟩ := σ
  have W : IW ((paC (A, B) kin).2, B) := IW_R h (fun f hf => paC_o (by omega)) (fun j hj => by rw [paC_o (by decide)]; exact h.2.2.1 53 j rfl hj)
  by_cases h5 : (paC (A, B) kin).1 ≤ 5
  · rw [paA, iteP_t h5]
    obtain ⟨-, p2⟩ := paF_p (σ := (A, B)) (kin := kin) h.1
    refine IW_R W (fun f hf => p2 f (by omega) (by omega) (by omega) (by omega) (by omega)) (fun j hj => ?_)
    have e : (paF (A, B) kin).2 53 = fil2 ((paC (A, B) kin).2, up1 B 49 (nI (paC (A, B) kin).1)) (paC (A, B) kin).1 53 := srch_o (by decide) (by decide) _ _ _ _
    rw [e]
    exact IZ_fil2 (show IZ ((paC (A, B) kin).2, up1 B 49 (nI (paC (A, B) kin).1)) from W.2.2.1) _ 53 j rfl hj
  · rw [paA, iteP_f h5]; exact W
theorem IW_bRun {n : Nat} {a : Nat → Int32} (hn : n ≤ 10) : ∀ (t k : Nat) (τ : aS) (pl : Int32), IW τ → cN τ 20 = n → τ.1 52 = a → (∀ r, r < k + t → ∃ w, w ≤ n ∧ a r = nI w) → (∀ r, r < k + t → ∃ c, c < cN τ 1 ∧ τ.1 50 r = nI c) → cN τ 43 + (cntU n a (k + t) - cntU n a k) ≤ 100 → IW (bRun t k τ pl).2 ∧ cN (bRun t k τ pl).2 27 = cN τ 27
  | 0, _, _, _, h, _, _, _, _, _ => ⟨h, rfl⟩
  | t + 1, k, τ, pl, h, h20, h52, hd, h50, hc => by
    have ea : k + (t + 1) = k + 1 + t := by omega
    rw [ea] at hd h50 hc
    have mono : cntU n a (k + 1) ≤ cntU n a (k + 1 + t) := cntU_le
    have es : cntU n a (k + 1) = cntU n a k + if a k < nI n then 1 else 0 := rfl
    have e20 : τ.2 20 = nI n := by rw [h.1.2.2.1.1, h20]
    by_cases z : τ.1 52 k < τ.2 20
    · rw [bRun, iteP_t z]
      obtain ⟨w, w1, w2⟩ := hd k (by omega)
      obtain ⟨c, c1, c2⟩ := h50 k (by omega)
      have z' := z
      rw [h52, e20] at z'
      rw [if_pos z'] at es
      have hw : w < n := by
        rw [w2] at z'
        exact (nI_ltI (by omega) (by omega)).mp z'
      have c16 := h.1.2.1.2
      have hh : τ.1 52 k = nI w := by rw [h52]; exact w2
      rw [hh, c2, nx_nI (by omega)]
      have W := IW_begins (k := c) (w := w) h c1 (by rw [h20]; exact hw) (by omega)
      have e43 := (IC_begins (k := c) (h := nI w) h.1 (by omega)).2
      have e2 : ∀ x, x ≠ 43 → cN (oBegins τ c (nI w)).2 x = cN τ x := fun x hx => congrArg Int32.toNatClampNeg (show (oBegins τ c (nI w)).2.2 x = τ.2 x from by rw [oBeg_2]; exact up1_n hx)
      obtain ⟨g1, g2⟩ := IW_bRun hn t (k + 1) (oBegins τ c (nI w)).2 (pl + 1) W ((e2 20 (by decide)).trans h20) ((oBeg_f (by decide) (by decide) (by decide) (by omega)).trans h52) hd (fun r hr => by
        obtain ⟨x, x1, x2⟩ := h50 r hr
        exact ⟨x, by rw [e2 1 (by decide)]; exact x1, (congrFun (oBeg_f (by decide) (by decide) (by decide) (by omega)) r).trans x2⟩) (by rw [e43]; omega)
      exact ⟨g1, g2.trans (e2 27 (by decide))⟩
    · rw [bRun, iteP_f z]
      have z' := z
      rw [h52, e20] at z'
      rw [if_neg z'] at es
      exact IW_bRun hn t (k + 1) τ pl h h20 h52 hd h50 (by omega)
theorem IW_placeAll {σ : aS} {kin : Int32} (h : IW σ) : IW (oPlaceAll σ kin).2 ∧ cN (oPlaceAll σ kin).2 27 = cN σ 27 := by
  obtain ⟨A, B⟩ := σ
  have W := IW_paA (kin := kin) h
  unfold oPlaceAll
  by_cases ht : paT (A, B) kin = 0
  · rw [iteP_t ht]
    obtain ⟨g1, g2, -⟩ := gT_x ht
    rw [bI_ne] at g1
    by_cases h5 : (paC (A, B) kin).1 ≤ 5
    · rw [paY, iteP_t h5, pI9_ne] at g2
      obtain ⟨⟨k1, k2⟩, k3⟩ := paF_p (σ := (A, B)) (kin := kin) h.1
      have eA : paA (A, B) kin = (paF (A, B) kin).2 := iteP_t h5
      have hn := h.1.2.2.1.2
      have h43 := h.1.2.2.2.2.2.1
      have c2 := cntU_le2 (n := cN (A, B) 20) (a := (paF (A, B) kin).2 52) (paC (A, B) kin).1
      rw [k2, plc_cnt, show (A, B).2 43 = nI (cN (A, B) 43) from h43.1, nI_add, show (100 : Int32) = nI 100 from rfl, nI_leI (by omega) (by decide)] at g2
      refine IW_bRun (n := cN (A, B) 20) (a := (paF (A, B) kin).2 52) hn (paC (A, B) kin).1 0 (paA (A, B) kin, up1 (up1 B 49 (nI (paC (A, B) kin).1)) 56 0) 0 W rfl (by rw [eA]) (fun r hr => k1 r (by omega)) (fun r hr => ?_) ?_
      · obtain ⟨c, c1, c3⟩ := paC_w (σ := (A, B)) (kin := kin) h5 r (by omega)
        refine ⟨c, c1, ?_⟩
        show paA (A, B) kin 50 r = nI c
        rw [eA, k3 50 (by decide) (by decide) (by decide) (by decide) (by decide)]
        exact c3
      · rw [Nat.zero_add]
        show cN (A, B) 43 + (cntU (cN (A, B) 20) ((paF (A, B) kin).2 52) (paC (A, B) kin).1 - cntU (cN (A, B) 20) ((paF (A, B) kin).2 52) 0) ≤ 100
        omega
    · rw [paY, iteP_f h5] at g2
      exact absurd rfl g2
  · rw [iteP_f ht]
    exact ⟨W, rfl⟩

