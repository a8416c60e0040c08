/-! THE SEARCH: the reference tries all ways in their order and keeps the first of the best. -/
def cnA (a : Nat → Nat) (x : Nat) : Nat → Nat
  | 0 => 0
  | c + 1 => cnA a x c + if a c = x then 1 else 0
def cnP (n : Nat) (a : Nat → Nat) : Nat → Nat
  | 0 => 0
  | c + 1 => cnP n a c + if a c < n then 1 else 0
def cnU (n : Nat) (a : Nat → Nat) : Nat → Nat
  | 0 => 0
  | c + 1 => cnU n a c + if a c < n ∧ cnA a (a c) c = 0 then 1 else 0
theorem cnA_le {a : Nat → Nat} {x : Nat} : ∀ c, cnA a x c ≤ c
  | 0 => Nat.le_refl _
  | c + 1 => by
    have := cnA_le (a := a) (x := x) c
    show cnA a x c + (if a c = x then 1 else 0) ≤ c + 1
    split <;> omega
theorem cnU_le {n : Nat} {a : Nat → Nat} : ∀ c, cnU n a c ≤ c
  | 0 => Nat.le_refl _
  | c + 1 => by
    have := cnU_le (n := n) (a := a) c
    show cnU n a c + (if a c < n ∧ cnA a (a c) c = 0 then 1 else 0) ≤ c + 1
    split <;> omega
theorem cnP_le {n : Nat} {a : Nat → Nat} : ∀ c, cnP n a c ≤ c
  | 0 => Nat.le_refl _
  | c + 1 => by
    have := cnP_le (n := n) (a := a) c
    show cnP n a c + (if a c < n then 1 else 0) ≤ c + 1
    split <;> omega
theorem cnA_0 {a : Nat → Nat} {x : Nat} : ∀ c, cnA a x c = 0 ↔ ∀ i, i < c → a i ≠ x
  | 0 => ⟨fun _ i h => absurd h (Nat.not_lt_zero i), fun _ => rfl⟩
  | c + 1 => by
    show cnA a x c + (if a c = x then 1 else 0) = 0 ↔ _
    by_cases e : a c = x
    · rw [if_pos e]
      exact ⟨fun z => by omega, fun z => absurd e (z c (Nat.lt_succ_self c))⟩
    · rw [if_neg e, Nat.add_zero, cnA_0 c]
      exact ⟨fun z i hi => by
        by_cases q : i = c
        · rw [q]; exact e
        · exact z i (by omega), fun z i hi => z i (by omega)⟩
theorem ctP_n {n : Nat} {a : Nat → Nat} : ∀ c, ctP n a c = (cnP n a c : Int)
  | 0 => rfl
  | c + 1 => by
    show ctP n a c + (if a c < n then 1 else 0) = ((cnP n a c + if a c < n then 1 else 0 : Nat) : Int)
    rw [ctP_n c]
    split <;> omega
theorem ctU_n {n : Nat} {a : Nat → Nat} : ∀ c, ctU n a c = (cnU n a c : Int)
  | 0 => rfl
  | c + 1 => by
    show ctU n a c + iteP (newH n a c) 1 0 = ((cnU n a c + if a c < n ∧ cnA a (a c) c = 0 then 1 else 0 : Nat) : Int)
    rw [ctU_n c]
    by_cases z : newH n a c
    · rw [iteP_t z, if_pos ⟨z.1, (cnA_0 c).mpr z.2⟩]; omega
    · rw [iteP_f z, if_neg fun y => z ⟨y.1, (cnA_0 c).mp y.2⟩]; omega
theorem cntB_mu {n M : Nat} {a : Nat → Nat} {x : Nat} (hM : M ≤ 5) (hx : x < n) : cntB (muW n M a x) 5 = (cnA a x M : Int) := by
  have e := isum_tail (f := fun r => if (muW n M a x).testBit r then (1 : Int) else 0) (M := M) (5 - M) fun r h1 h2 => by
    rw [muW_bit, decide_eq_false (show ¬ r < M by omega), Bool.false_and, Bool.and_false]; rfl
  rw [show M + (5 - M) = 5 by omega] at e
  unfold cntB
  rw [e]
  have q : ∀ c, c ≤ M → isum (fun r => if (muW n M a x).testBit r then (1 : Int) else 0) c = (cnA a x c : Int) := by
    intro c
    induction c with
    | zero => intro _; rfl
    | succ c ih =>
      intro hc
      show isum _ c + _ = ((cnA a x c + if a c = x then 1 else 0 : Nat) : Int)
      rw [ih (by omega)]
      dsimp only
      rw [muW_bit, decide_eq_true hx, decide_eq_true (show c < M by omega), Bool.true_and, Bool.true_and]
      by_cases z : a c = x
      · rw [if_pos z, if_pos (beq_iff_eq.mpr z)]; omega
      · rw [if_neg z, if_neg (by rw [beq_eq_false_iff_ne.mpr z]; decide)]; omega
  exact q M (Nat.le_refl M)
/-- the reference's rows as data of the search -/
def okR (A : Nat → Nat → Int32) (r h : Nat) : Prop := ¬ A 53 (10 * r + h) = 0
def wR (A : Nat → Nat → Int32) (r h : Nat) : Int := (A 54 (10 * r + h)).toInt
def FR (A : Nat → Nat → Int32) (h : Nat) : Int := (A 55 h).toInt
def badR (A : Nat → Nat → Int32) (a : Nat → Nat) (k : Nat) : Prop := A 53 (10 * k + a k) = 0 ∨ nI (cnA a (a k) k) = A 55 (a k)
def datR (A : Nat → Nat → Int32) (n M : Nat) : Prop := (∀ r h, r < M → h < n → -100 ≤ wR A r h ∧ wR A r h ≤ 200) ∧ ∀ r h, r < M → h < n → okR A r h → 1 ≤ FR A h
theorem good_fea {A : Nat → Nat → Int32} {n M : Nat} {a : Nat → Nat} (hM : M ≤ 5) (hd : datR A n M) : (∀ r, r < M → a r < n → ¬ badR A a r) ↔ feaW (okR A) (FR A) n M a := by
  have ei : ∀ k x, k ≤ 5 → (nI (cnA a x k) = A 55 x ↔ (cnA a x k : Int) = FR A x) := fun k x hk => by
    have := cnA_le (a := a) (x := x) k
    rw [← Int32.toInt_inj, nI_toInt (by omega)]
    rfl
  constructor
  · intro hg
    refine ⟨fun r hr h => fun z => hg r hr h (Or.inl z), fun x hx => ?_⟩
    by_cases z : muW n M a x = 0
    · exact Or.inl z
    · refine Or.inr ?_
      rw [cntB_mu hM hx]
      obtain ⟨-, r0, hr0, er0⟩ : x < n ∧ ∃ r, r < M ∧ a r = x := Decidable.byContradiction fun y => z (mu0_iff.mpr y)
      have hF : 1 ≤ FR A x := hd.2 r0 x hr0 hx (fun y => hg r0 hr0 (by rw [er0]; exact hx) (Or.inl (by rw [er0]; exact y)))
      have q : ∀ c, c ≤ M → (cnA a x c : Int) ≤ FR A x := by
        intro c
        induction c with
        | zero => intro _; show (0 : Int) ≤ _; omega
        | succ c ih =>
          intro hc
          have h1 := ih (by omega)
          show ((cnA a x c + if a c = x then 1 else 0 : Nat) : Int) ≤ _
          by_cases y : a c = x
          · rw [if_pos y]
            have h2 : ¬ (cnA a x c : Int) = FR A x := fun v => hg c (by omega) (by rw [y]; exact hx) (Or.inr (by rw [y]; exact (ei c x (by omega)).mpr v))
            omega
          · rw [if_neg y]; omega
      exact q M (Nat.le_refl M)
  · rintro ⟨h1, h2⟩ r hr hn hb
    rcases hb with z | z
    · exact h1 r hr hn z
    · have z := (ei r (a r) (by omega)).mp z
      have h3 := (h2 (a r) hn).resolve_left fun y => (mu0_iff.mp y) ⟨hn, r, hr, rfl⟩
      rw [cntB_mu hM hn] at h3
      have q : ∀ c, r < c → cnA a (a r) r + 1 ≤ cnA a (a r) c := by
        intro c
        induction c with
        | zero => intro y; omega
        | succ c ih =>
          intro y
          show _ ≤ cnA a (a r) c + if a c = a r then 1 else 0
          by_cases v : r = c
          · subst v; rw [if_pos rfl]; exact Nat.le_refl _
          · have := ih (by omega)
            omega
      have := q M hr
      omega
theorem mAhead_n {σ : aS} {a : Nat → Nat} {x : Nat} (hx : x ≤ 10) : ∀ k, (∀ i, i < k → a i ≤ 10 ∧ σ.1 51 i = nI (a i)) → mAhead σ (nI x) k = nI (cnA a x k)
  | 0, _ => rfl
  | k + 1, h => by
    obtain ⟨h1, h2⟩ := h k (Nat.lt_succ_self k)
    have ih := mAhead_n (σ := σ) hx k fun i hi => h i (by omega)
    show _ = nI (cnA a x k + if a k = x then 1 else 0)
    by_cases e : a k = x
    · rw [mAhead_t (by rw [h2, e]), ih, if_pos e, nI_1]
    · rw [mAhead_f (fun z => e ((nI_eq (by omega) (by omega)).mp (h2.symm.trans z))), ih, if_neg e, Int32.add_zero]; rfl
def woR (A : Nat → Nat → Int32) (n : Nat) (a : Nat → Nat) : Nat → Int32
  | 0 => 0
  | c + 1 => if a c < n then woR A n a c + A 54 (10 * c + a c) else woR A n a c
theorem woR_i {A : Nat → Nat → Int32} {n M : Nat} {a : Nat → Nat} (hM : M ≤ 5) (hd : datR A n M) : ∀ c, c ≤ M → (woR A n a c).toInt = ctW (wR A) n a c ∧ -100 * (c : Int) ≤ ctW (wR A) n a c ∧ ctW (wR A) n a c ≤ 200 * (c : Int)
  | 0, _ => ⟨rfl, by show -100 * ((0 : Nat) : Int) ≤ 0; omega, by show (0 : Int) ≤ 200 * ((0 : Nat) : Int); omega⟩
  | c + 1, hc => by
    obtain ⟨h1, h2, h3⟩ := woR_i (a := a) hM hd c (by omega)
    have e : ctW (wR A) n a (c + 1) = ctW (wR A) n a c + if a c < n then wR A c (a c) else 0 := rfl
    by_cases z : a c < n
    · obtain ⟨w1, w2⟩ := hd.1 c (a c) (by omega) z
      rw [e, if_pos z]
      show (if a c < n then woR A n a c + A 54 (10 * c + a c) else woR A n a c).toInt = _ ∧ _
      rw [if_pos z, Int32.toInt_add, h1, show (A 54 (10 * c + a c)).toInt = wR A c (a c) from rfl, Int.bmod_eq_of_le (by omega) (by omega)]
      omega
    · rw [e, if_neg z]
      show (if a c < n then woR A n a c + A 54 (10 * c + a c) else woR A n a c).toInt = _ ∧ _
      rw [if_neg z, h1]
      omega
theorem mValF_g {A : Nat → Nat → Int32} {B : Nat → Int32} {n M : Nat} {a : Nat → Nat} (en : B 20 = nI n) (hn : n ≤ 10) (hM : M ≤ 5) (ha : ∀ r, r < M → a r ≤ n ∧ A 51 r = nI (a r)) : ∀ t k, k + t = M → (∀ r, k ≤ r → r < M → a r < n → ¬ badR A a r) → mValF (A, B) t k (nI (cnP n a k)) (nI (cnU n a k)) (woR A n a k) = 1000000 * nI (cnP n a M) + 10000 * (9 - nI (cnU n a M)) + woR A n a M + 2000
  | 0, k, h, _ => by
    obtain rfl : k = M := by omega
    rfl
  | t + 1, k, h, hg => by
    obtain ⟨h1, h2⟩ := ha k (by omega)
    have ih := mValF_g en hn hM ha t (k + 1) (by omega) fun r q1 q2 => hg r (by omega) q2
    rw [mValF_s]
    show (if B 20 ≤ A 51 k then _ else if A 53 (10 * k + nx (A 51 k)) = 0 ∨ mAhead (A, B) (A 51 k) k = A 55 (nx (A 51 k)) then _ else mValF (A, B) t (k + 1) (nI (cnP n a k) + 1) (nI (cnU n a k) + if mAhead (A, B) (A 51 k) k = 0 then 1 else 0) (woR A n a k + A 54 (10 * k + nx (A 51 k)))) = _
    rw [h2, en, show nx (nI (a k)) = a k from nI_clamp (by omega), mAhead_n (σ := (A, B)) (a := a) (by omega) k fun i hi => ⟨by have := (ha i (by omega)).1; omega, (ha i (by omega)).2⟩]
    by_cases z : a k < n
    · rw [if_neg (fun y => absurd ((nI_leI (by omega) (by omega)).mp y) (by omega)), if_neg (show ¬ (A 53 (10 * k + a k) = 0 ∨ nI (cnA a (a k) k) = A 55 (a k)) from hg k (Nat.le_refl k) (by omega) z)]
      have e1 : nI (cnP n a k) + 1 = nI (cnP n a (k + 1)) := by
        rw [nI_1]
        show _ = nI (cnP n a k + if a k < n then 1 else 0)
        rw [if_pos z]
      have e2 : (nI (cnU n a k) + if nI (cnA a (a k) k) = 0 then 1 else 0) = nI (cnU n a (k + 1)) := by
        show _ = nI (cnU n a k + if a k < n ∧ cnA a (a k) k = 0 then 1 else 0)
        have hc := cnA_le (a := a) (x := a k) k
        by_cases y : cnA a (a k) k = 0
        · rw [if_pos (show nI (cnA a (a k) k) = 0 by rw [y]; rfl), if_pos ⟨z, y⟩, nI_1]
        · rw [if_neg (nI_ne0 (by omega) (by omega)), if_neg (fun v => y v.2), Int32.add_zero]; rfl
      have e3 : woR A n a k + A 54 (10 * k + a k) = woR A n a (k + 1) := (if_pos z).symm
      rw [e1, e2, e3]
      exact ih
    · rw [if_pos ((nI_leI (by omega) (by omega)).mpr (by omega))]
      have e1 : cnP n a (k + 1) = cnP n a k := by
        show cnP n a k + (if a k < n then 1 else 0) = _
        rw [if_neg z]; rfl
      have e2 : cnU n a (k + 1) = cnU n a k := by
        show cnU n a k + (if a k < n ∧ cnA a (a k) k = 0 then 1 else 0) = _
        rw [if_neg (fun v => z v.1)]; rfl
      have e3 : woR A n a (k + 1) = woR A n a k := if_neg z
      rw [e1, e2, e3] at ih
      exact ih
theorem mValF_b {A : Nat → Nat → Int32} {B : Nat → Int32} {n M : Nat} {a : Nat → Nat} (en : B 20 = nI n) (hn : n ≤ 10) (ha : ∀ r, r < M → a r ≤ n ∧ A 51 r = nI (a r)) : ∀ t k pl un wo, k + t = M → (∃ r, k ≤ r ∧ r < M ∧ a r < n ∧ badR A a r) → mValF (A, B) t k pl un wo = -1
  | 0, k, _, _, _, h, hb => by
    obtain ⟨r, h1, h2, -⟩ := hb
    omega
  | t + 1, k, pl, un, wo, h, hb => by
    obtain ⟨h1, h2⟩ := ha k (by omega)
    rw [mValF_s]
    show (if B 20 ≤ A 51 k then _ else if A 53 (10 * k + nx (A 51 k)) = 0 ∨ mAhead (A, B) (A 51 k) k = A 55 (nx (A 51 k)) then _ else _) = _
    rw [h2, en, show nx (nI (a k)) = a k from nI_clamp (by omega), mAhead_n (σ := (A, B)) (a := a) (by omega) k fun i hi => ⟨by have := (ha i (by omega)).1; omega, (ha i (by omega)).2⟩]
    obtain ⟨r, r1, r2, r3, r4⟩ := hb
    by_cases z : a k < n
    · rw [if_neg (fun y => absurd ((nI_leI (by omega) (by omega)).mp y) (by omega))]
      by_cases y : A 53 (10 * k + a k) = 0 ∨ nI (cnA a (a k) k) = A 55 (a k)
      · rw [if_pos y]
      · rw [if_neg y]
        have hk : k ≠ r := fun v => y (by rw [v]; exact r4)
        exact mValF_b en hn ha t (k + 1) _ _ _ (by omega) ⟨r, by omega, r2, r3, r4⟩
    · rw [if_pos ((nI_leI (by omega) (by omega)).mpr (by omega))]
      have hk : k ≠ r := fun v => z (by rw [v]; exact r3)
      exact mValF_b en hn ha t (k + 1) _ _ _ (by omega) ⟨r, by omega, r2, r3, r4⟩
noncomputable def val9 (A : Nat → Nat → Int32) (n M : Nat) (a : Nat → Nat) : Int := iteP (feaW (okR A) (FR A) n M a) (valI (wR A) n M a) (-1)
theorem valI_pos {A : Nat → Nat → Int32} {n M : Nat} {a : Nat → Nat} (hn : n ≤ 10) (hM : M ≤ 5) (hd : datR A n M) : 0 ≤ valI (wR A) n M a ∧ valI (wR A) n M a ≤ 6000000 := by
  obtain ⟨h1, h2, h3, -⟩ := ct_b (w := wR A) (a := a) hn hM hd.1
  unfold valI
  omega
theorem mVal_v {A : Nat → Nat → Int32} {B : Nat → Int32} {n M : Nat} {a : Nat → Nat} (en : B 20 = nI n) (hn : n ≤ 10) (hM : M ≤ 5) (hd : datR A n M) (ha : ∀ r, r < M → a r ≤ n ∧ A 51 r = nI (a r)) : (mVal (A, B) M).toInt = val9 A n M a := by
  unfold val9 mVal
  by_cases z : ∃ r, r < M ∧ a r < n ∧ badR A a r
  · obtain ⟨r, r1, r2, r3⟩ := z
    rw [mValF_b en hn ha M 0 0 0 0 (by omega) ⟨r, Nat.zero_le r, r1, r2, r3⟩, iteP_f fun y => (good_fea hM hd).mpr y r r1 r2 r3]
    rfl
  · have hg : ∀ r, r < M → a r < n → ¬ badR A a r := fun r h1 h2 h3 => z ⟨r, h1, h2, h3⟩
    have e := mValF_g en hn hM ha M 0 (by omega) fun r _ => hg r
    rw [show nI (cnP n a 0) = 0 from rfl, show nI (cnU n a 0) = 0 from rfl, show woR A n a 0 = 0 from rfl] at e
    rw [e, iteP_t ((good_fea hM hd).mp hg)]
    obtain ⟨w1, w2, w3⟩ := woR_i (a := a) hM hd M (Nat.le_refl M)
    have p1 := cnP_le (n := n) (a := a) M
    have u1 := cnU_le (n := n) (a := a) M
    unfold valI
    rw [ctP_n, ctU_n, ← w1]
    rw [← w1] at w2 w3
    generalize woR A n a M = wo at w1 w2 w3 ⊢
    have e1 : (1000000 : Int32) * nI (cnP n a M) + 10000 * (9 - nI (cnU n a M)) = nI (1000000 * cnP n a M + 10000 * (9 - cnU n a M)) := by
      rw [show (1000000 : Int32) = nI 1000000 from rfl, show (10000 : Int32) = nI 10000 from rfl, show (9 : Int32) = nI 9 from rfl, pk_mul, pk_sub (by omega), pk_mul, nI_add]
    rw [e1, Int32.toInt_add, Int32.toInt_add, nI_toInt (by omega), show (2000 : Int32).toInt = 2000 from rfl]
    have e2 : ((1000000 * cnP n a M + 10000 * (9 - cnU n a M) : Nat) : Int) = 1000000 * (cnP n a M : Int) + 10000 * (9 - (cnU n a M : Int)) := by omega
    rw [e2, Int.bmod_eq_of_le (n := 1000000 * (cnP n a M : Int) + 10000 * (9 - (cnU n a M : Int)) + wo.toInt) (by omega) (by omega), Int.bmod_eq_of_le (by omega) (by omega)]

