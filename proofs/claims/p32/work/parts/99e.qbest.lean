/-! THE SEARCH: what the reference keeps at its end. -/
theorem muW_congr {n M : Nat} {a c : Nat → Nat} (h : ∀ r, r < M → a r = c r) (x : Nat) : muW n M a x = muW n M c x := Nat.eq_of_testBit_eq fun r => by
  rw [muW_bit, muW_bit]
  by_cases z : r < M
  · rw [h r z]
  · rw [decide_eq_false z, Bool.false_and, Bool.false_and]
theorem feaW_congr {ok : Nat → Nat → Prop} {F : Nat → Int} {n M : Nat} {a c : Nat → Nat} (h : ∀ r, r < M → a r = c r) (hf : feaW ok F n M a) : feaW ok F n M c :=
  ⟨fun r hr hn => by rw [← h r hr] at hn ⊢; exact hf.1 r hr hn, fun x hx => by rw [← muW_congr h x]; exact hf.2 x hx⟩
theorem valI_congr {w : Nat → Nat → Int} {n M : Nat} {a c : Nat → Nat} (h : ∀ r, r < M → a r = c r) : valI w n M a = valI w n M c := by
  unfold valI ctP ctU ctW
  have e1 : isum (fun r => if a r < n then (1 : Int) else 0) M = isum (fun r => if c r < n then (1 : Int) else 0) M := isum_congr M fun r hr => by rw [h r hr]
  have e2 : isum (fun r => iteP (newH n a r) (1 : Int) 0) M = isum (fun r => iteP (newH n c r) (1 : Int) 0) M := isum_congr M fun r hr => by
    have : newH n a r ↔ newH n c r := by
      unfold newH
      rw [h r hr]
      constructor
      · rintro ⟨h1, h2⟩
        exact ⟨h1, fun i hi => by rw [← h i (by omega)]; exact h2 i hi⟩
      · rintro ⟨h1, h2⟩
        exact ⟨h1, fun i hi => by rw [h i (by omega)]; exact h2 i hi⟩
    rw [this]
  have e3 : isum (fun r => if a r < n then w r (a r) else 0) M = isum (fun r => if c r < n then w r (c r) else 0) M := isum_congr M fun r hr => by rw [h r hr]
  rw [e1, e2, e3]
theorem val9_congr {A A' : Nat → Nat → Int32} {n M : Nat} {a c : Nat → Nat} (h : ∀ r, r < M → a r = c r) (h53 : A' 53 = A 53) (h54 : A' 54 = A 54) (h55 : A' 55 = A 55) : val9 A' n M a = val9 A n M c := by
  have e1 : okR A' = okR A := by unfold okR; rw [h53]
  have e2 : wR A' = wR A := by unfold wR; rw [h54]
  have e3 : FR A' = FR A := by unfold FR; rw [h55]
  unfold val9
  rw [e1, e2, e3, valI_congr h]
  have : feaW (okR A) (FR A) n M a ↔ feaW (okR A) (FR A) n M c := ⟨feaW_congr h, feaW_congr fun r hr => (h r hr).symm⟩
  rw [this]
theorem datR_congr {A A' : Nat → Nat → Int32} {n M : Nat} (h53 : A' 53 = A 53) (h54 : A' 54 = A 54) (h55 : A' 55 = A 55) (h : datR A n M) : datR A' n M := by
  have e1 : okR A' = okR A := by unfold okR; rw [h53]
  have e2 : wR A' = wR A := by unfold wR; rw [h54]
  have e3 : FR A' = FR A := by unfold FR; rw [h55]
  unfold datR
  rw [e1, e2, e3]
  exact h
theorem rk_N {n : Nat} {b : Nat → Int32} {a : Nat → Nat} : ∀ c, (∀ r, r < c → a r ≤ 10 ∧ b r = nI (a r)) → rk n b c = rkN n a c
  | 0, _ => rfl
  | c + 1, h => by
    show rk n b c * (n + 1) + nx (b c) = rkN n a c * (n + 1) + a c
    rw [rk_N c fun r hr => h r (by omega), (h c (Nat.lt_succ_self c)).2, nx_nI (by have := (h c (Nat.lt_succ_self c)).1; omega)]
theorem rkN_lt {n : Nat} {a : Nat → Nat} : ∀ c, (∀ r, r < c → a r ≤ n) → rkN n a c < (n + 1) ^ c
  | 0, _ => Nat.zero_lt_one
  | c + 1, h => by
    have h1 := rkN_lt c fun r hr => h r (by omega)
    have h2 := h c (Nat.lt_succ_self c)
    show rkN n a c * (n + 1) + a c < _
    rw [Nat.pow_succ]
    have h3 := Nat.mul_le_mul_right (n + 1) (show rkN n a c + 1 ≤ (n + 1) ^ c from h1)
    rw [Nat.add_mul, Nat.one_mul] at h3
    omega
theorem rkN_top {n : Nat} {a : Nat → Nat} : ∀ c, (∀ r, r < c → a r = n) → rkN n a c + 1 = (n + 1) ^ c
  | 0, _ => rfl
  | c + 1, h => by
    have h1 := rkN_top c fun r hr => h r (by omega)
    show rkN n a c * (n + 1) + a c + 1 = _
    rw [Nat.pow_succ, ← h1, h c (Nat.lt_succ_self c), Nat.add_mul, Nat.one_mul]
    omega
/-- of the ways ahead of rank ρ the first of the best -/
def keepB (A : Nat → Nat → Int32) (n M ρ : Nat) (b : Int32) : Prop :=
  (b = -1 ∧ ∀ c : Nat → Nat, (∀ r, r < M → c r ≤ n) → rkN n c M < ρ → val9 A n M c = -1) ∨
  ∃ d : Nat → Nat, (∀ r, r < M → d r ≤ n ∧ A 52 r = nI (d r)) ∧ b.toInt = val9 A n M d ∧ 0 ≤ val9 A n M d ∧ rkN n d M < ρ ∧ ∀ c : Nat → Nat, (∀ r, r < M → c r ≤ n) → rkN n c M < ρ → val9 A n M c ≤ val9 A n M d ∧ (val9 A n M c = val9 A n M d → rkN n d M ≤ rkN n c M)
theorem val9_m1 {A : Nat → Nat → Int32} {n M : Nat} {a : Nat → Nat} (hn : n ≤ 10) (hM : M ≤ 5) (hd : datR A n M) : val9 A n M a = -1 ∨ 0 ≤ val9 A n M a := by
  unfold val9
  by_cases z : feaW (okR A) (FR A) n M a
  · rw [iteP_t z]; exact Or.inr (valI_pos hn hM hd).1
  · rw [iteP_f z]; exact Or.inl rfl
/-- the next way looked at -/
theorem keepB_t {A A' : Nat → Nat → Int32} {n M : Nat} {b b' : Int32} {a : Nat → Nat} (hn : n ≤ 10) (hM : M ≤ 5) (hd : datR A n M) (ha : ∀ r, r < M → a r ≤ n) (hk : keepB A n M (rkN n a M) b) (h53 : A' 53 = A 53) (h54 : A' 54 = A 54) (h55 : A' 55 = A 55) (hv : b'.toInt = val9 A n M a) (hlt : b < b') (h52 : ∀ r, r < M → A' 52 r = nI (a r)) : keepB A' n M (rkN n a M + 1) b' := by
  have vc : ∀ c, val9 A' n M c = val9 A n M c := fun c => val9_congr (fun _ _ => rfl) h53 h54 h55
  have hlt' := Int32.lt_iff_toInt_lt.mp hlt
  have h0 : 0 ≤ val9 A n M a := by
    rcases val9_m1 (a := a) hn hM hd with z | z
    · exfalso
      rw [hv, z] at hlt'
      rcases hk with ⟨q, -⟩ | ⟨d, -, q1, q2, -⟩
      · rw [q, show (-1 : Int32).toInt = -1 from rfl] at hlt'; omega
      · omega
    · exact z
  have same : ∀ c : Nat → Nat, (∀ r, r < M → c r ≤ n) → rkN n c M = rkN n a M → val9 A n M c = val9 A n M a := fun c hc e => val9_congr (((tHr_lex hn (a := c) (b := a) M) fun r hr => ⟨hc r hr, ha r hr⟩).2 e) rfl rfl rfl
  refine Or.inr ⟨a, fun r hr => ⟨ha r hr, h52 r hr⟩, by rw [vc]; exact hv, by rw [vc]; exact h0, Nat.lt_succ_self _, fun c hc hr => ?_⟩
  rw [vc, vc]
  by_cases e : rkN n c M = rkN n a M
  · rw [same c hc e]
    exact ⟨Int.le_refl _, fun _ => by omega⟩
  · have hr2 : rkN n c M < rkN n a M := by omega
    have hl : val9 A n M c < val9 A n M a := by
      rcases hk with ⟨q, q2⟩ | ⟨d, -, q1, q2, q3, q4⟩
      · rw [q2 c hc hr2]; omega
      · have := (q4 c hc hr2).1
        omega
    exact ⟨by omega, fun z => by omega⟩
theorem keepB_f {A : Nat → Nat → Int32} {n M : Nat} {b : Int32} {a : Nat → Nat} (hn : n ≤ 10) (hM : M ≤ 5) (hd : datR A n M) (ha : ∀ r, r < M → a r ≤ n) (hk : keepB A n M (rkN n a M) b) {v : Int32} (hv : v.toInt = val9 A n M a) (hlt : ¬ b < v) : keepB A n M (rkN n a M + 1) b := by
  have hlt' : val9 A n M a ≤ b.toInt := by
    rw [← hv]
    rw [Int32.lt_iff_toInt_lt] at hlt
    omega
  have same : ∀ c : Nat → Nat, (∀ r, r < M → c r ≤ n) → rkN n c M = rkN n a M → val9 A n M c = val9 A n M a := fun c hc e => val9_congr (((tHr_lex hn (a := c) (b := a) M) fun r hr => ⟨hc r hr, ha r hr⟩).2 e) rfl rfl rfl
  rcases hk with ⟨q, q2⟩ | ⟨d, q0, q1, q2, q3, q4⟩
  · refine Or.inl ⟨q, fun c hc hr => ?_⟩
    by_cases e : rkN n c M = rkN n a M
    · rw [same c hc e]
      rw [q, show (-1 : Int32).toInt = -1 from rfl] at hlt'
      rcases val9_m1 (a := a) hn hM hd with z | z
      · exact z
      · omega
    · exact q2 c hc (by omega)
  · refine Or.inr ⟨d, q0, q1, q2, by omega, fun c hc hr => ?_⟩
    by_cases e : rkN n c M = rkN n a M
    · rw [same c hc e]
      exact ⟨by omega, fun _ => by omega⟩
    · exact q4 c hc (by omega)
theorem keepB_52 {A A' : Nat → Nat → Int32} {n M ρ : Nat} {b : Int32} (h : keepB A n M ρ b) (h52 : A' 52 = A 52) (h53 : A' 53 = A 53) (h54 : A' 54 = A 54) (h55 : A' 55 = A 55) : keepB A' n M ρ b := by
  have vc : ∀ c, val9 A' n M c = val9 A n M c := fun c => val9_congr (fun _ _ => rfl) h53 h54 h55
  rcases h with ⟨q, q2⟩ | ⟨d, q0, q1, q2, q3, q4⟩
  · exact Or.inl ⟨q, fun c hc hr => by rw [vc]; exact q2 c hc hr⟩
  · exact Or.inr ⟨d, fun r hr => by rw [h52]; exact q0 r hr, by rw [vc]; exact q1, by rw [vc]; exact q2, q3, fun c hc hr => by rw [vc, vc]; exact q4 c hc hr⟩
theorem srch_b {B : Nat → Int32} {n M : Nat} (en : B 20 = nI n) (hn : n ≤ 10) (hM : M ≤ 5) : ∀ (f : Nat) (A : Nat → Nat → Int32) (b p : Int32) (a : Nat → Nat), datR A n M → (∀ r, r < M → a r ≤ n ∧ A 51 r = nI (a r)) → rkN n a M + f = (n + 1) ^ M → keepB A n M (rkN n a M) b → ∃ b', keepB (srch B M f A b p).2 n M ((n + 1) ^ M) b' ∧ ∀ g, g ≠ 51 → g ≠ 52 → (srch B M f A b p).2 g = A g
  | 0, A, b, p, a, hd, ha, hr, hk => absurd (rkN_lt (n := n) (a := a) M fun r hr => (ha r hr).1) (by omega)
  | f + 1, A, b, p, a, hd, ha, hr, hk => by
    have ha1 : ∀ r, r < M → a r ≤ n := fun r hr => (ha r hr).1
    have hv := mVal_v (B := B) en hn hM hd ha
    have key : ∀ (A' : Nat → Nat → Int32) (b' p' : Int32), A' 51 = A 51 → (∀ g, g ≠ 51 → g ≠ 52 → A' g = A g) → keepB A' n M (rkN n a M + 1) b' →
        ∃ b2, keepB (iteP ((nxt (B 20) M A').1 = 0) (p', (nxt (B 20) M A').2) (srch B M f (nxt (B 20) M A').2 b' p')).2 n M ((n + 1) ^ M) b2 ∧
        ∀ g, g ≠ 51 → g ≠ 52 → (iteP ((nxt (B 20) M A').1 = 0) (p', (nxt (B 20) M A').2) (srch B M f (nxt (B 20) M A').2 b' p')).2 g = A g := by
      intro A' b' p' h1 h2 h3
      have hdig : dig n (A' 51) M := fun r hr => ⟨a r, (ha r hr).1, by rw [h1]; exact (ha r hr).2⟩
      have ho : ∀ g, g ≠ 51 → (nxt (B 20) M A').2 g = A' g := fun g hg => nxt_o hg M A'
      have h3' := keepB_52 h3 (ho 52 (by decide)) (ho 53 (by decide)) (ho 54 (by decide)) (ho 55 (by decide))
      have ho2 : ∀ g, g ≠ 51 → g ≠ 52 → (nxt (B 20) M A').2 g = A g := fun g g1 g2 => (ho g g1).trans (h2 g g1 g2)
      rw [en] at h3' ho2 ⊢
      obtain ⟨m1, m2⟩ := nxt_m hn M A' hdig
      rcases m2 with ⟨q, q2⟩ | ⟨q, q2⟩
      · rw [iteP_t q]
        have top : rkN n a M + 1 = (n + 1) ^ M := rkN_top M fun r hr => by
          have := q2 r hr
          rw [h1, (ha r hr).2] at this
          exact (nI_eq (by have := (ha r hr).1; omega) (by omega)).mp this
        rw [← top]
        exact ⟨b', h3', ho2⟩
      · rw [iteP_f (by rw [q]; decide)]
        have hex : ∀ r, r < M → ∃ w, w ≤ n ∧ (nxt (nI n) M A').2 51 r = nI w := m1
        obtain ⟨a2, ha2⟩ : ∃ a2 : Nat → Nat, ∀ r, r < M → a2 r ≤ n ∧ (nxt (nI n) M A').2 51 r = nI (a2 r) := ⟨fun r => nx ((nxt (nI n) M A').2 51 r), fun r hr => by
          obtain ⟨w, w1, w2⟩ := hex r hr
          have e : nx ((nxt (nI n) M A').2 51 r) = w := by rw [w2, nx_nI (by omega)]
          dsimp only
          rw [e]
          exact ⟨w1, w2⟩⟩
        have er : rkN n a2 M = rkN n a M + 1 := by
          rw [← rk_N (b := (nxt (nI n) M A').2 51) M fun r hr => ⟨by have := (ha2 r hr).1; omega, (ha2 r hr).2⟩, q2, rk_N (a := a) M fun r hr => ⟨by have := (ha r hr).1; omega, by rw [h1]; exact (ha r hr).2⟩]
        obtain ⟨b2, r1, r2⟩ := srch_b en hn hM f (nxt (nI n) M A').2 b' p' a2 (datR_congr (ho2 53 (by decide) (by decide)) (ho2 54 (by decide) (by decide)) (ho2 55 (by decide) (by decide)) hd) ha2 (by rw [er]; omega) (by rw [er]; exact h3')
        exact ⟨b2, r1, fun g g1 g2 => (r2 g g1 g2).trans (ho2 g g1 g2)⟩
    by_cases h : b < mVal (A, B) M
    · rw [srch, iteP_t h]
      refine key (cop A M) _ _ (cop_o (by decide) M) (fun g _ g2 => cop_o g2 M) ?_
      exact keepB_t hn hM hd ha1 hk (cop_o (by decide) M) (cop_o (by decide) M) (cop_o (by decide) M) hv h fun r hr => by rw [cop_52 M r hr]; exact (ha r hr).2
    · rw [srch, iteP_f h]
      exact key A b p rfl (fun _ _ _ => rfl) (keepB_f hn hM hd ha1 hk hv h)
/-- none placed is a way -/
theorem fea_none {ok : Nat → Nat → Prop} {F : Nat → Int} {n M : Nat} : feaW ok F n M (fun _ => n) :=
  ⟨fun r _ h => absurd h (Nat.lt_irrefl n), fun x hx => Or.inl (mu0_iff.mpr fun z => by
    obtain ⟨h1, r, -, h2⟩ := z
    omega)⟩
theorem oFinds_b {σ : aS} {n M : Nat} (en : σ.2 20 = nI n) (ec : cN σ 20 = n) (hn : n ≤ 10) (hM : M ≤ 5) (hd : datR (fil2 σ M) n M) : ∃ d : Nat → Nat, (∀ r, r < M → d r ≤ n ∧ (oFinds σ M).2 52 r = nI (d r)) ∧ feaW (okR (fil2 σ M)) (FR (fil2 σ M)) n M d ∧ ∀ c : Nat → Nat, (∀ r, r < M → c r ≤ n) → feaW (okR (fil2 σ M)) (FR (fil2 σ M)) n M c → valI (wR (fil2 σ M)) n M c < valI (wR (fil2 σ M)) n M d ∨ (valI (wR (fil2 σ M)) n M c = valI (wR (fil2 σ M)) n M d ∧ rkN n d M ≤ rkN n c M) := by
  have h0 : ∀ c, c ≤ M → rkN n (fun _ => 0) c = 0 := by
    intro c
    induction c with
    | zero => exact fun _ => rfl
    | succ c ih =>
      intro hc
      show rkN n (fun _ => 0) c * (n + 1) + 0 = 0
      rw [ih (by omega), Nat.zero_mul]
  obtain ⟨b', k1, k2⟩ := srch_b (B := σ.2) en hn hM ((n + 1) ^ M) (fil2 σ M) (-1) 0 (fun _ => 0) hd (fun r hr => ⟨Nat.zero_le n, fil2_51 M r hr⟩) (by rw [h0 M (Nat.le_refl M), Nat.zero_add]) (by
    rw [h0 M (Nat.le_refl M)]
    exact Or.inl ⟨rfl, fun c _ hr => absurd hr (Nat.not_lt_zero _)⟩)
  have eo : oFinds σ M = srch σ.2 M ((n + 1) ^ M) (fil2 σ M) (-1) 0 := by unfold oFinds; rw [ec]
  rw [eo]
  have vc : ∀ c, val9 (srch σ.2 M ((n + 1) ^ M) (fil2 σ M) (-1) 0).2 n M c = val9 (fil2 σ M) n M c := fun c => val9_congr (fun _ _ => rfl) (k2 53 (by decide) (by decide)) (k2 54 (by decide) (by decide)) (k2 55 (by decide) (by decide))
  have fv : ∀ c, feaW (okR (fil2 σ M)) (FR (fil2 σ M)) n M c → val9 (fil2 σ M) n M c = valI (wR (fil2 σ M)) n M c := fun c hc => iteP_t hc
  have all : ∀ c : Nat → Nat, (∀ r, r < M → c r ≤ n) → rkN n c M < (n + 1) ^ M := fun c hc => rkN_lt M hc
  rcases k1 with ⟨-, q⟩ | ⟨d, q0, q1, q2, q3, q4⟩
  · exfalso
    have z := q (fun _ => n) (fun _ _ => Nat.le_refl n) (all _ fun _ _ => Nat.le_refl n)
    rw [vc, fv _ fea_none] at z
    have := (valI_pos (a := fun _ => n) hn hM hd).1
    omega
  · rw [vc] at q2
    have fd : feaW (okR (fil2 σ M)) (FR (fil2 σ M)) n M d := by
      by_cases z : feaW (okR (fil2 σ M)) (FR (fil2 σ M)) n M d
      · exact z
      · unfold val9 at q2
        rw [iteP_f z] at q2
        exact absurd q2 (by decide)
    refine ⟨d, q0, fd, fun c hc hf => ?_⟩
    obtain ⟨z1, z2⟩ := q4 c hc (all c hc)
    rw [vc, vc, fv c hf, fv d fd] at z1 z2
    rcases Int.lt_or_eq_of_le z1 with y | y
    · exact Or.inl y
    · exact Or.inr ⟨y, z2 y⟩

