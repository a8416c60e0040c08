/-! THE REFERENCE: finds. What is filled, tried, kept. -/
theorem IC_of {A A' : Nat → Nat → Int32} {B : Nat → Int32} (h : IC (A, B)) (h34 : A' 34 = A 34) (h10 : A' 10 = A 10) : IC (A', B) := by
  obtain ⟨a1, a2, a3, a4, a5, a6, a7, a8⟩ := h
  refine ⟨a1, a2, a3, a4, a5, a6, fun k hk => ?_, fun k hk => ?_⟩
  · have := a7 k hk
    simp only [rN, h34] at this ⊢
    exact this
  · have := a8 k hk
    simp only [h10] at this ⊢
    exact this
theorem IS_of {A A' : Nat → Nat → Int32} {B : Nat → Int32} (h : IS (A, B)) (h44 : A' 44 = A 44) (h45 : A' 45 = A 45) : IS (A', B) := by
  intro i hi
  have := h i hi
  simp only [h44, h45] at this ⊢
  exact this
theorem fsum_congr {F F' : Nat → Int32} : ∀ n, (∀ i, i < n → F i = F' i) → fsum F n = fsum F' n
  | 0, _ => rfl
  | n + 1, h => by
    show fsum F n + F n = fsum F' n + F' n
    rw [fsum_congr n (fun i hi => h i (Nat.lt_succ_of_lt hi)), h n (Nat.lt_succ_self n)]
noncomputable def filA (B : Nat → Int32) (k c w : Nat) (P : Nat → Nat → Int32) : Nat → Nat → Int32 := up2 P 53 (10 * k + w) (pI9 (mWhyNot (P, B) c w = 0))
noncomputable def filB (B : Nat → Int32) (k c w : Nat) (P : Nat → Nat → Int32) : Nat → Nat → Int32 := up2 (filA B k c w P) 54 (10 * k + w) (mWorth (filA B k c w P, B) c w)
noncomputable def filC (B : Nat → Int32) (k c w : Nat) (P : Nat → Nat → Int32) : Nat → Nat → Int32 := up2 (filB B k c w P) 55 w (filB B k c w P 23 w - mOthers (filB B k c w P, B) (-1) (nI w))
theorem filA_o {B : Nat → Int32} {k c w : Nat} {P : Nat → Nat → Int32} {f : Nat} (h1 : f ≠ 53) : filA B k c w P f = P f := up2_far h1
theorem filB_o {B : Nat → Int32} {k c w : Nat} {P : Nat → Nat → Int32} {f : Nat} (h1 : f ≠ 53) (h2 : f ≠ 54) : filB B k c w P f = P f := (up2_far h2).trans (filA_o h1)
theorem filC_o {B : Nat → Int32} {k c w : Nat} {P : Nat → Nat → Int32} {f : Nat} (h1 : f ≠ 53) (h2 : f ≠ 54) (h3 : f ≠ 55) : filC B k c w P f = P f := (up2_far h3).trans (filB_o h1 h2)
noncomputable def fil1 (B : Nat → Int32) (k c : Nat) (A : Nat → Nat → Int32) : Nat → Nat → Nat → Int32
  | 0 => A
  | w + 1 => filC B k c w (fil1 B k c A w)
theorem fil1_o {B : Nat → Int32} {k c : Nat} {A : Nat → Nat → Int32} {f : Nat} (h1 : f ≠ 53) (h2 : f ≠ 54) (h3 : f ≠ 55) : ∀ w, fil1 B k c A w f = A f
  | 0 => rfl
  | w + 1 => (filC_o h1 h2 h3).trans (fil1_o h1 h2 h3 w)
noncomputable def fil2 (σ : aS) : Nat → Nat → Nat → Int32
  | 0 => σ.1
  | k + 1 => fil1 σ.2 k (nx (σ.1 50 k)) (up2 (fil2 σ k) 51 k 0) (cN σ 20)
theorem fil2_o {σ : aS} {f : Nat} (h : f ≠ 51) (h1 : f ≠ 53) (h2 : f ≠ 54) (h3 : f ≠ 55) : ∀ k, fil2 σ k f = σ.1 f
  | 0 => rfl
  | k + 1 => (fil1_o h1 h2 h3 _).trans ((up2_far h).trans (fil2_o h h1 h2 h3 k))
theorem fil2_51 {σ : aS} : ∀ k i, i < k → fil2 σ k 51 i = 0
  | 0, i, h => absurd h (Nat.not_lt_zero i)
  | k + 1, i, h => by
    show fil1 σ.2 k (nx (σ.1 50 k)) (up2 (fil2 σ k) 51 k 0) (cN σ 20) 51 i = 0
    rw [fil1_o (by decide) (by decide) (by decide)]
    by_cases e : i = k
    · subst e; exact up2_s
    · rw [up2_n2 e]; exact fil2_51 k i (by omega)
noncomputable def cop (A : Nat → Nat → Int32) : Nat → Nat → Nat → Int32
  | 0 => A
  | k + 1 => up2 (cop A k) 52 k (A 51 k)
theorem cop_o {A : Nat → Nat → Int32} {f : Nat} (h : f ≠ 52) : ∀ k, cop A k f = A f
  | 0 => rfl
  | k + 1 => (up2_far h).trans (cop_o h k)
theorem cop_52 {A : Nat → Nat → Int32} : ∀ k i, i < k → cop A k 52 i = A 51 i
  | 0, i, h => absurd h (Nat.not_lt_zero i)
  | k + 1, i, h => by
    show up2 (cop A k) 52 k (A 51 k) 52 i = _
    by_cases e : i = k
    · subst e; exact up2_s
    · rw [up2_n2 e]; exact cop_52 k i (by omega)
/-- of a row f, how many below h -/
def plc (h : Int32) (a : Nat → Int32) (M : Nat) : Int32 := fsum (fun k => if a k < h then 1 else 0) M
theorem plc_t {h : Int32} {a : Nat → Int32} {k : Nat} (q : a k < h) : plc h a (k + 1) = plc h a k + 1 := by
  show _ + (if a k < h then (1 : Int32) else 0) = _
  rw [if_pos q]; rfl
theorem plc_f {h : Int32} {a : Nat → Int32} {k : Nat} (q : ¬ a k < h) : plc h a (k + 1) = plc h a k + 0 := by
  show _ + (if a k < h then (1 : Int32) else 0) = _
  rw [if_neg q]; rfl
noncomputable def srch (B : Nat → Int32) (M : Nat) : Nat → (Nat → Nat → Int32) → Int32 → Int32 → Int32 × (Nat → Nat → Int32)
  | 0, A, _, p => (p, A)
  | f + 1, A, b, p => iteP (b < mVal (A, B) M)
    (iteP ((nxt (B 20) M (cop A M)).1 = 0) (plc (B 20) (A 51) M, (nxt (B 20) M (cop A M)).2) (srch B M f (nxt (B 20) M (cop A M)).2 (mVal (A, B) M) (plc (B 20) (A 51) M)))
    (iteP ((nxt (B 20) M A).1 = 0) (p, (nxt (B 20) M A).2) (srch B M f (nxt (B 20) M A).2 b p))
theorem nx_nI {j : Nat} (h : j < 2 ^ 31) : nx (nI j) = j := nI_clamp h
/-- the ways behind: the digits to the base n + 1 -/
def rk (n : Nat) (a : Nat → Int32) : Nat → Nat
  | 0 => 0
  | c + 1 => rk n a c * (n + 1) + nx (a c)
def dig (n : Nat) (a : Nat → Int32) (M : Nat) : Prop := ∀ k, k < M → ∃ w, w ≤ n ∧ a k = nI w
theorem rk_lt {n : Nat} {a : Nat → Int32} (hn : n ≤ 10) : ∀ c, dig n a c → rk n a c < (n + 1) ^ c
  | 0, _ => Nat.zero_lt_one
  | c + 1, h => by
    have h1 := rk_lt hn c (fun k hk => h k (Nat.lt_succ_of_lt hk))
    obtain ⟨w, hw, e⟩ := h c (Nat.lt_succ_self c)
    show rk n a c * (n + 1) + nx (a c) < _
    rw [e, nx_nI (by omega), Nat.pow_succ]
    have h2 : rk n a c + 1 ≤ (n + 1) ^ c := h1
    have h3 := Nat.mul_le_mul_right (n + 1) h2
    rw [Nat.add_mul] at h3
    omega
theorem rk_congr {n : Nat} {a b : Nat → Int32} : ∀ c, (∀ k, k < c → a k = b k) → rk n a c = rk n b c
  | 0, _ => rfl
  | c + 1, h => by
    show rk n a c * (n + 1) + nx (a c) = rk n b c * (n + 1) + nx (b c)
    rw [rk_congr c (fun k hk => h k (Nat.lt_succ_of_lt hk)), h c (Nat.lt_succ_self c)]
theorem nxt_o {h : Int32} {f : Nat} (hf : f ≠ 51) : ∀ (c : Nat) (A : Nat → Nat → Int32), (nxt h c A).2 f = A f
  | 0, _ => rfl
  | c + 1, A => by
    by_cases e : A 51 c = h
    · rw [nxt, iteP_t e, nxt_o hf c]; exact up2_far hf
    · rw [nxt, iteP_f e]; exact up2_far hf
theorem nxt_51 {h : Int32} : ∀ (c : Nat) (A : Nat → Nat → Int32) (i : Nat), c ≤ i → (nxt h c A).2 51 i = A 51 i
  | 0, _, _, _ => rfl
  | c + 1, A, i, hi => by
    by_cases e : A 51 c = h
    · rw [nxt, iteP_t e, nxt_51 c _ i (by omega)]; exact up2_n2 (by omega)
    · rw [nxt, iteP_f e]; exact up2_n2 (by omega)
theorem nxt_m {n : Nat} (hn : n ≤ 10) : ∀ (c : Nat) (A : Nat → Nat → Int32), dig n (A 51) c → dig n ((nxt (nI n) c A).2 51) c ∧ ((nxt (nI n) c A).1 = 0 ∧ (∀ k, k < c → A 51 k = nI n) ∨ (nxt (nI n) c A).1 = 1 ∧ rk n ((nxt (nI n) c A).2 51) c = rk n (A 51) c + 1)
  | 0, A, h => ⟨h, Or.inl ⟨rfl, fun k hk => absurd hk (Nat.not_lt_zero k)⟩⟩
  | c + 1, A, h => by
    by_cases e : A 51 c = nI n
    · rw [nxt, iteP_t e]
      have h0 : ∀ k, k < c → up2 A 51 c 0 51 k = A 51 k := fun k hk => up2_n2 (by omega)
      obtain ⟨h1, h2⟩ := nxt_m hn c (up2 A 51 c 0) (fun k hk => by rw [h0 k hk]; exact h k (Nat.lt_succ_of_lt hk))
      have h3 : (nxt (nI n) c (up2 A 51 c 0)).2 51 c = 0 := (nxt_51 c _ c (Nat.le_refl c)).trans up2_s
      refine ⟨fun k hk => ?_, ?_⟩
      · by_cases q : k = c
        · subst q; exact ⟨0, Nat.zero_le n, h3⟩
        · exact h1 k (by omega)
      · rcases h2 with ⟨h4, h5⟩ | ⟨h4, h5⟩
        · refine Or.inl ⟨h4, fun k hk => ?_⟩
          by_cases q : k = c
          · subst q; exact e
          · rw [← h0 k (by omega)]; exact h5 k (by omega)
        · refine Or.inr ⟨h4, ?_⟩
          show rk n _ c * (n + 1) + nx ((nxt (nI n) c (up2 A 51 c 0)).2 51 c) = rk n (A 51) c * (n + 1) + nx (A 51 c) + 1
          rw [h5, h3, e, rk_congr c h0, nx_nI (j := n) (by omega), Nat.add_mul, show nx (0 : Int32) = 0 from rfl]
          omega
    · rw [nxt, iteP_f e]
      obtain ⟨w, hw, q⟩ := h c (Nat.lt_succ_self c)
      have hw' : w < n := by
        rcases Nat.lt_or_ge w n with z | z
        · exact z
        · exact absurd (by rw [q, show w = n by omega]) e
      refine ⟨fun k hk => ?_, Or.inr ⟨rfl, ?_⟩⟩
      · by_cases q2 : k = c
        · subst q2; exact ⟨w + 1, hw', up2_s.trans (by rw [q, nI_1])⟩
        · obtain ⟨w2, h1, h2⟩ := h k hk
          exact ⟨w2, h1, (up2_n2 q2).trans h2⟩
      · show rk n _ c * (n + 1) + nx (up2 A 51 c (A 51 c + 1) 51 c) = rk n (A 51) c * (n + 1) + nx (A 51 c) + 1
        rw [up2_s, q, nI_1, nx_nI (j := w + 1) (by omega), nx_nI (j := w) (by omega), show rk n (fun y => up2 A 51 c (nI (w + 1)) 51 y) c = rk n (A 51) c from rk_congr c (fun k hk => up2_n2 (by omega))]
        omega
noncomputable def oFinds (σ : aS) (M : Nat) : Int32 × (Nat → Nat → Int32) := srch σ.2 M ((cN σ 20 + 1) ^ M) (fil2 σ M) (-1) 0
theorem mValF_n {σ : aS} {n : Nat} (en : σ.2 20 = nI n) (hn : n ≤ 10) : ∀ (t k : Nat) (pl un wo : Int32), (∀ i, k ≤ i → i < k + t → σ.1 51 i = nI n) → mValF σ t k pl un wo = 1000000 * pl + 10000 * (9 - un) + wo + 2000
  | 0, _, _, _, _, _ => rfl
  | t + 1, k, pl, un, wo, h => by
    rw [mValF_s, h k (Nat.le_refl k) (by omega), en, if_pos Int32.le_rfl]
    exact mValF_n en hn t (k + 1) pl un wo (fun i h1 h2 => h i (by omega) (by omega))
/-- what is kept is a way; how many it places -/
def keepsW (n M : Nat) (A : Nat → Nat → Int32) (p : Int32) : Prop := dig n (A 52) M ∧ p = plc (nI n) (A 52) M
theorem srch_p {B : Nat → Int32} {n M : Nat} (en : B 20 = nI n) (hn : n ≤ 10) : ∀ (f : Nat) (A : Nat → Nat → Int32) (b p : Int32), dig n (A 51) M → rk n (A 51) M + f = (n + 1) ^ M → (b = -1 ∨ keepsW n M A p) →
    keepsW n M (srch B M f A b p).2 (srch B M f A b p).1 ∧ ∀ g, g ≠ 51 → g ≠ 52 → (srch B M f A b p).2 g = A g
  | 0, A, b, p, hd, hr, _ => absurd (rk_lt hn M hd) (by omega)
  | f + 1, A, b, p, hd, hr, hb => by
    have key : ∀ (A' : Nat → Nat → Int32) (b' p' : Int32), A' 51 = A 51 → (∀ g, g ≠ 51 → g ≠ 52 → A' g = A g) → (b' = -1 ∨ keepsW n M A' p') → (b' = -1 → ¬ ∀ k, k < M → A 51 k = nI n) →
        keepsW n M (iteP ((nxt (B 20) M A').1 = 0) (p', (nxt (B 20) M A').2) (srch B M f (nxt (B 20) M A').2 b' p')).2 (iteP ((nxt (B 20) M A').1 = 0) (p', (nxt (B 20) M A').2) (srch B M f (nxt (B 20) M A').2 b' p')).1 ∧
        ∀ g, g ≠ 51 → g ≠ 52 → (iteP ((nxt (B 20) M A').1 = 0) (p', (nxt (B 20) M A').2) (srch B M f (nxt (B 20) M A').2 b' p')).2 g = A g := by
      intro A' b' p' h1 h2 h3 h4
      have hd' : dig n (A' 51) M := by rw [h1]; exact hd
      have h52 : (nxt (B 20) M A').2 52 = A' 52 := nxt_o (by decide) M A'
      rw [en] at h52 ⊢
      obtain ⟨m1, m2⟩ := nxt_m hn M A' hd'
      rcases m2 with ⟨q, q2⟩ | ⟨q, q2⟩
      · rw [iteP_t q]
        refine ⟨?_, fun g g1 g2 => (nxt_o g1 M A').trans (h2 g g1 g2)⟩
        rcases h3 with z | z
        · exact absurd (fun k hk => by rw [← h1]; exact q2 k hk) (h4 z)
        · show keepsW n M (nxt (nI n) M A').2 p'
          unfold keepsW
          rw [h52]
          exact z
      · rw [iteP_f (by rw [q]; decide)]
        have r := srch_p en hn f (nxt (nI n) M A').2 b' p' m1 (by rw [q2, h1]; omega) (by
          rcases h3 with z | z
          · exact Or.inl z
          · exact Or.inr (by unfold keepsW; rw [h52]; exact z))
        exact ⟨r.1, fun g g1 g2 => (r.2 g g1 g2).trans ((nxt_o g1 M A').trans (h2 g g1 g2))⟩
    have h92 : (∀ k, k < M → A 51 k = nI n) → mVal (A, B) M = 92000 := fun h => by
      unfold mVal
      rw [mValF_n (σ := (A, B)) en hn M 0 0 0 0 (fun i _ h2 => h i (by omega))]
      decide
    by_cases hv : b < mVal (A, B) M
    · rw [srch, iteP_t hv]
      refine key (cop A M) _ _ (cop_o (by decide) M) (fun g _ g2 => cop_o g2 M) (Or.inr ⟨fun k hk => ?_, ?_⟩) (fun z h => ?_)
      · rw [cop_52 M k hk]; exact hd k hk
      · rw [en]
        exact fsum_congr M (fun i hi => by rw [cop_52 M i hi])
      · rw [h92 h] at z; exact absurd z (by decide)
    · rw [srch, iteP_f hv]
      refine key A b p rfl (fun _ _ _ => rfl) hb (fun z h => hv ?_)
      rw [z, h92 h]; decide

