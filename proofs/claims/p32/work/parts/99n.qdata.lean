/-! THE SEARCH: the rows that the two sides fill. -/
theorem mOthers_congr {σ σ' : aS} (h10 : σ'.1 10 = σ.1 10) (h45 : σ'.1 45 = σ.1 45) (n1 : cN σ' 1 = cN σ 1) {x h : Int32} : mOthers σ' x h = mOthers σ x h := by
  unfold mOthers mOthersT mHomeOf
  rw [h10, h45, n1]
theorem mWhyOn_congr {σ σ' : aS} (h : ∀ f, f < 50 → σ'.1 f = σ.1 f) (n38 : cN σ' 38 = cN σ 38) (n27 : cN σ' 27 = cN σ 27) {c : Nat} {x on : Int32} : mWhyOn σ' c x on = mWhyOn σ c x on := by
  have k := mKindOn_congr (σ := σ) (σ' := σ') (h 39 (by decide)) (h 40 (by decide)) (h 41 (by decide)) (h 42 (by decide)) n38 (x := nI c) (on := on)
  have t : ∀ s, mToldOn σ' x s on = mToldOn σ x s on := fun s => by
    unfold mToldOn
    rw [h 28 (by decide), h 29 (by decide), h 30 (by decide), n27]
  have y : mYears σ' c on = mYears σ c on := by
    unfold mYears
    rw [h 2 (by decide), h 3 (by decide)]
  have m : mCan σ' x on = mCan σ x on := by
    unfold mCan
    rw [t, h 31 (by decide), h 33 (by decide)]
  unfold mWhyOn
  rw [k, t, t, y, m, h 31 (by decide), h 32 (by decide), h 33 (by decide), h 4 (by decide)]
theorem mWhyNot_cg {σ σ' : aS} (h : ∀ f, f < 50 → σ'.1 f = σ.1 f) (n38 : cN σ' 38 = cN σ 38) (n27 : cN σ' 27 = cN σ 27) (n1 : cN σ' 1 = cN σ 1) (n0 : σ'.2 0 = σ.2 0) {c w : Nat} : mWhyNot σ' c w = mWhyNot σ c w := by
  unfold mWhyNot
  rw [n0, mWhyOn_congr h n38 n27, mOthers_congr (h 10 (by decide)) (h 45 (by decide)) n1, h 23 (by decide), h 19 (by decide)]
theorem mWorth_cg {σ σ' : aS} (h : ∀ f, f < 50 → σ'.1 f = σ.1 f) (n1 : cN σ' 1 = cN σ 1) {c w : Nat} : mWorth σ' c w = mWorth σ c w := by
  have t : mWorthT σ' c w = mWorthT σ c w := funext fun j => by
    unfold mWorthT mHomeOf
    rw [h 5 (by decide), h 10 (by decide), h 45 (by decide)]
  have f : mFar σ' c w = mFar σ c w := by
    unfold mFar
    rw [h 6 (by decide), h 21 (by decide)]
  unfold mWorth
  rw [t, f, n1, h 7 (by decide), h 22 (by decide), h 19 (by decide)]
theorem mWhyNot_congr {A A' : Nat → Nat → Int32} {B : Nat → Int32} (h : ∀ f, f < 50 → A' f = A f) {c w : Nat} : mWhyNot (A', B) c w = mWhyNot (A, B) c w := mWhyNot_cg (σ := (A, B)) (σ' := (A', B)) h rfl rfl rfl rfl
theorem mWorth_congr {A A' : Nat → Nat → Int32} {B : Nat → Int32} (h : ∀ f, f < 50 → A' f = A f) {c w : Nat} : mWorth (A', B) c w = mWorth (A, B) c w := mWorth_cg (σ := (A, B)) (σ' := (A', B)) h rfl
theorem fil1_v {B : Nat → Int32} {k c : Nat} {A : Nat → Nat → Int32} : ∀ w, w ≤ 10 →
    (∀ x, x < w → fil1 B k c A w 53 (10 * k + x) = pI9 (mWhyNot (A, B) c x = 0) ∧ fil1 B k c A w 54 (10 * k + x) = mWorth (A, B) c x ∧ fil1 B k c A w 55 x = A 23 x - mOthers (A, B) (-1) (nI x)) ∧
    (∀ x, ¬ (10 * k ≤ x ∧ x < 10 * k + w) → fil1 B k c A w 53 x = A 53 x ∧ fil1 B k c A w 54 x = A 54 x)
  | 0, _ => ⟨fun x h => absurd h (Nat.not_lt_zero x), fun x _ => ⟨rfl, rfl⟩⟩
  | w + 1, hw => by
    obtain ⟨h1, h2⟩ := fil1_v (B := B) (k := k) (c := c) (A := A) w (by omega)
    obtain ⟨P, hP⟩ : ∃ P, P = fil1 B k c A w := ⟨_, rfl⟩
    have ho : ∀ f, f < 50 → P f = A f := fun f hf => by rw [hP]; exact fil1_o (by omega) (by omega) (by omega) w
    have hoA : ∀ f, f < 50 → filA B k c w P f = A f := fun f hf => (filA_o (by omega)).trans (ho f hf)
    have hoB : ∀ f, f < 50 → filB B k c w P f = A f := fun f hf => (filB_o (by omega) (by omega)).trans (ho f hf)
    show (∀ x, x < w + 1 → filC B k c w (fil1 B k c A w) 53 (10 * k + x) = _ ∧ filC B k c w (fil1 B k c A w) 54 (10 * k + x) = _ ∧ filC B k c w (fil1 B k c A w) 55 x = _) ∧ ∀ x, _ → filC B k c w (fil1 B k c A w) 53 x = _ ∧ filC B k c w (fil1 B k c A w) 54 x = _
    rw [← hP] at h1 h2 ⊢
    have c53 : ∀ x, filC B k c w P 53 x = if x = 10 * k + w then pI9 (mWhyNot (A, B) c w = 0) else P 53 x := fun x => by
      show up2 (up2 (up2 P 53 (10 * k + w) (pI9 (mWhyNot (P, B) c w = 0))) 54 _ _) 55 _ _ 53 x = _
      rw [up2_n1 (by decide), up2_n1 (by decide)]
      by_cases e : x = 10 * k + w
      · rw [if_pos e, e, up2_s, mWhyNot_congr ho]
      · rw [if_neg e, up2_n2 e]
    have c54 : ∀ x, filC B k c w P 54 x = if x = 10 * k + w then mWorth (A, B) c w else P 54 x := fun x => by
      show up2 (up2 (filA B k c w P) 54 (10 * k + w) (mWorth (filA B k c w P, B) c w)) 55 _ _ 54 x = _
      rw [up2_n1 (by decide)]
      by_cases e : x = 10 * k + w
      · rw [if_pos e, e, up2_s, mWorth_congr hoA]
      · rw [if_neg e, up2_n2 e]
        exact up2_n1 (by decide)
    have c55 : ∀ x, filC B k c w P 55 x = if x = w then A 23 w - mOthers (A, B) (-1) (nI w) else P 55 x := fun x => by
      show up2 (filB B k c w P) 55 w (filB B k c w P 23 w - mOthers (filB B k c w P, B) (-1) (nI w)) 55 x = _
      by_cases e : x = w
      · rw [if_pos e, e, up2_s, hoB 23 (by decide), mOthers_congr (σ := (A, B)) (σ' := (filB B k c w P, B)) (hoB 10 (by decide)) (hoB 45 (by decide)) rfl]
      · rw [if_neg e, up2_n2 e]
        exact (up2_n1 (by decide)).trans (up2_n1 (by decide))
    refine ⟨fun x hx => ?_, fun x hx => ?_⟩
    · rw [c53, c54, c55]
      by_cases e : x = w
      · subst e
        rw [if_pos rfl, if_pos rfl, if_pos rfl]
        exact ⟨rfl, rfl, rfl⟩
      · rw [if_neg (by omega), if_neg (by omega), if_neg e]
        exact h1 x (by omega)
    · rw [c53, c54, if_neg (by omega), if_neg (by omega)]
      exact h2 x (by omega)
theorem fil2_v {σ : aS} (hn : cN σ 20 ≤ 10) : ∀ M, (∀ k x, k < M → x < cN σ 20 → fil2 σ M 53 (10 * k + x) = pI9 (mWhyNot σ (nx (σ.1 50 k)) x = 0) ∧ fil2 σ M 54 (10 * k + x) = mWorth σ (nx (σ.1 50 k)) x) ∧ ∀ x, 0 < M → x < cN σ 20 → fil2 σ M 55 x = σ.1 23 x - mOthers σ (-1) (nI x)
  | 0 => ⟨fun k x h => absurd h (Nat.not_lt_zero k), fun x h => absurd h (Nat.lt_irrefl 0)⟩
  | M + 1 => by
    obtain ⟨h1, -⟩ := fil2_v hn M
    obtain ⟨P, hP⟩ : ∃ P, P = up2 (fil2 σ M) 51 M 0 := ⟨_, rfl⟩
    have ho : ∀ f, f < 50 → P f = σ.1 f := fun f hf => by
      rw [hP]
      exact (up2_f (by omega)).trans (fil2_o (by omega) (by omega) (by omega) (by omega) M)
    have hp : ∀ f, f ≠ 51 → P f = fil2 σ M f := fun f hf => by rw [hP]; exact up2_f hf
    obtain ⟨v1, v2⟩ := fil1_v (B := σ.2) (k := M) (c := nx (σ.1 50 M)) (A := P) (cN σ 20) hn
    show (∀ k x, k < M + 1 → x < cN σ 20 → fil1 σ.2 M (nx (σ.1 50 M)) (up2 (fil2 σ M) 51 M 0) (cN σ 20) 53 (10 * k + x) = _ ∧ fil1 σ.2 M (nx (σ.1 50 M)) (up2 (fil2 σ M) 51 M 0) (cN σ 20) 54 (10 * k + x) = _) ∧ ∀ x, _ → _ → fil1 σ.2 M (nx (σ.1 50 M)) (up2 (fil2 σ M) 51 M 0) (cN σ 20) 55 x = _
    rw [← hP]
    refine ⟨fun k x hk hx => ?_, fun x _ hx => ?_⟩
    · by_cases e : k = M
      · subst e
        obtain ⟨a, b, -⟩ := v1 x hx
        rw [a, b, mWhyNot_congr (A := σ.1) (A' := P) ho, mWorth_congr (A := σ.1) (A' := P) ho]
        exact ⟨rfl, rfl⟩
      · obtain ⟨a, b⟩ := v2 (10 * k + x) (by omega)
        rw [a, b, hp 53 (by decide), hp 54 (by decide)]
        exact h1 k x (by omega) hx
    · obtain ⟨-, -, a⟩ := v1 x hx
      rw [a, ho 23 (by decide), mOthers_congr (σ := σ) (σ' := (P, σ.2)) (ho 10 (by decide)) (ho 45 (by decide)) rfl]
/-- counts and worths as numbers -/
theorem fsum_n {f : Nat → Int32} {u : Nat} : ∀ n, (∀ i, i < n → f i = 0 ∨ f i = nI u) → ∃ c, c ≤ n ∧ fsum f n = nI (u * c)
  | 0, _ => ⟨0, Nat.le_refl 0, by rw [Nat.mul_zero]; rfl⟩
  | n + 1, h => by
    obtain ⟨c, c1, c2⟩ := fsum_n n fun i hi => h i (by omega)
    show ∃ c, c ≤ n + 1 ∧ fsum f n + f n = nI (u * c)
    rcases h n (Nat.lt_succ_self n) with z | z
    · exact ⟨c, by omega, by rw [c2, z, Int32.add_zero]⟩
    · exact ⟨c + 1, by omega, by rw [c2, z, nI_add, Nat.mul_add, Nat.mul_one]⟩
theorem mOthers_n (σ : aS) (x h : Int32) : ∃ c, c ≤ cN σ 1 ∧ mOthers σ x h = nI c := by
  obtain ⟨c, c1, c2⟩ := fsum_n (f := mOthersT σ x h) (u := 1) (cN σ 1) fun i _ => by
    unfold mOthersT
    split
    · exact Or.inr rfl
    · exact Or.inl rfl
  exact ⟨c, c1, by rw [show mOthers σ x h = fsum (mOthersT σ x h) (cN σ 1) from rfl, c2, Nat.one_mul]⟩
theorem mWorth_b {σ : aS} (hI : IC σ) (hP : IP σ) {k h : Nat} (hk : k < cN σ 1) (hh : h < cN σ 20) : -100 ≤ (mWorth σ k h).toInt ∧ (mWorth σ k h).toInt ≤ 200 := by
  have c1 := hI.2.1.2
  obtain ⟨c, d1, d2⟩ := fsum_n (f := mWorthT σ k h) (u := 10) (cN σ 1) fun i _ => by
    unfold mWorthT
    split
    · exact Or.inr rfl
    · exact Or.inl rfl
  obtain ⟨x, hx, ex⟩ := ix_of (n := 51) (by decide) (hP.1 k hk)
  obtain ⟨y, hy, ey⟩ := ix_of (n := 51) (by decide) (hP.2 h hh)
  have ef : ∃ f, f ≤ 50 ∧ mFar σ k h = nI f := by
    unfold mFar
    rw [ex, ey]
    by_cases z : nI x < nI y
    · rw [if_pos z]
      have := (nI_ltI (by omega) (by omega)).mp z
      exact ⟨y - x, by omega, pk_sub (by omega)⟩
    · rw [if_neg z]
      have : ¬ x < y := fun w => z ((nI_ltI (by omega) (by omega)).mpr w)
      exact ⟨x - y, by omega, pk_sub (by omega)⟩
  obtain ⟨f, f1, f2⟩ := ef
  unfold mWorth
  rw [d2, f2, show (5 : Int32) = nI 5 from rfl, pk_div (by omega) (by decide) (by decide)]
  have t1 : ∃ t : Int, (if σ.1 7 k = σ.1 22 h then (6 : Int32) else 0).toInt = t ∧ 0 ≤ t ∧ t ≤ 6 := by
    split
    · exact ⟨6, rfl, by decide, by decide⟩
    · exact ⟨0, rfl, by decide, by decide⟩
  have t2 : ∃ t : Int, (if σ.1 19 (10 * k + h) = 0 then (0 : Int32) else if σ.1 19 (10 * k + h) = 1 then 8 else -8).toInt = t ∧ -8 ≤ t ∧ t ≤ 8 := by
    split
    · exact ⟨0, rfl, by decide, by decide⟩
    · split
      · exact ⟨8, rfl, by decide, by decide⟩
      · exact ⟨-8, rfl, by decide, by decide⟩
  obtain ⟨a, a1, a2, a3⟩ := t1
  obtain ⟨b, b1, b2, b3⟩ := t2
  generalize (if σ.1 7 k = σ.1 22 h then (6 : Int32) else 0) = p at a1 ⊢
  generalize (if σ.1 19 (10 * k + h) = 0 then (0 : Int32) else if σ.1 19 (10 * k + h) = 1 then 8 else -8) = q at b1 ⊢
  have s1 : (nI (10 * c) + p).toInt = ((10 * c : Nat) : Int) + a := by
    rw [Int32.toInt_add, nI_toInt (by omega), a1, Int.bmod_eq_of_le] <;> omega
  have s2 : (nI (10 * c) + p + q).toInt = ((10 * c : Nat) : Int) + a + b := by
    rw [Int32.toInt_add, s1, b1, Int.bmod_eq_of_le] <;> omega
  have s3 : (nI (10 * c) + p + q - nI (f / 5)).toInt = ((10 * c : Nat) : Int) + a + b - ((f / 5 : Nat) : Int) := by
    rw [Int32.toInt_sub, s2, nI_toInt (by omega), Int.bmod_eq_of_le] <;> omega
  rw [s3]
  omega
/-- homes' beds -/
def IBd (σ : aS) : Prop := ∀ h, h < cN σ 20 → 1 ≤ σ.1 23 h ∧ σ.1 23 h ≤ 5
theorem free_i {σ : aS} (hI : IC σ) (hB : IBd σ) {h : Nat} (hh : h < cN σ 20) : (1 ≤ (σ.1 23 h - mOthers σ (-1) (nI h)).toInt ↔ ¬ σ.1 23 h ≤ mOthers σ (-1) (nI h)) := by
  obtain ⟨c, c1, c2⟩ := mOthers_n σ (-1) (nI h)
  have n1 := hI.2.1.2
  obtain ⟨b1, b2⟩ := hB h hh
  rw [Int32.le_iff_toInt_le] at b1 b2
  rw [show (1 : Int32).toInt = 1 from rfl] at b1
  rw [show (5 : Int32).toInt = 5 from rfl] at b2
  rw [c2, Int32.toInt_sub, nI_toInt (by omega), Int32.le_iff_toInt_le, nI_toInt (by omega), Int.bmod_eq_of_le (by omega) (by omega)]
  omega
theorem mOthers_w {σ : aS} {k h : Nat} (hk : σ.1 10 k = -1) (hk31 : k < 2 ^ 31) (h16 : cN σ 1 ≤ 16) (hh : h < 2 ^ 31) : mOthers σ (nI k) (nI h) = mOthers σ (-1) (nI h) := by
  unfold mOthers
  refine fsum_congr _ fun j hj => ?_
  unfold mOthersT
  by_cases e : j = k
  · subst e
    have : ¬ mHomeOf σ j = nI h := fun z => by
      unfold mHomeOf at z
      rw [if_pos hk] at z
      exact nI_ne_m1 hh z.symm
    rw [if_neg fun z => this z.2, if_neg fun z => this z.2]
  · by_cases z : mHomeOf σ j = nI h
    · by_cases y : nI j = nI k
      · rw [if_neg fun w => w.1 y]
        exact absurd ((nI_eq (by omega) hk31).mp y) e
      · rw [if_pos ⟨y, z⟩, if_pos ⟨nI_ne_m1 (by omega), z⟩]
    · rw [if_neg fun w => z w.2, if_neg fun w => z w.2]
theorem mWhyOn_nn (σ : aS) (k : Nat) (h on : Int32) : ¬ 0 < mWhyOn σ k h on ↔ mWhyOn σ k h on = 0 := by
  unfold mWhyOn
  constructor
  · intro z
    revert z
    split
    · exact fun z => absurd (by decide) z
    · split
      · exact fun z => absurd (by decide) z
      · split
        · exact fun z => absurd (by decide) z
        · split
          · exact fun z => absurd (by decide) z
          · split
            · exact fun z => absurd (by decide) z
            · exact fun _ => rfl
  · intro z
    rw [z]; decide
theorem why_iff {σ : aS} {k h : Nat} : mWhyNot σ k h = 0 ↔ mWhyOn σ k (nI h) (σ.2 0) = 0 ∧ ¬ σ.1 23 h ≤ mOthers σ (nI k) (nI h) ∧ ¬ σ.1 19 (10 * k + h) = 3 := by
  unfold mWhyNot
  by_cases z : 0 < mWhyOn σ k (nI h) (σ.2 0)
  · rw [if_pos z]
    constructor
    · intro y; rw [y] at z; exact absurd z (by decide)
    · intro y; rw [y.1] at z; exact absurd z (by decide)
  · rw [if_neg z]
    have e := (mWhyOn_nn _ _ _ _).mp z
    by_cases y : σ.1 23 h ≤ mOthers σ (nI k) (nI h)
    · rw [if_pos y]
      exact ⟨fun w => absurd w (by decide), fun w => absurd y w.2.1⟩
    · rw [if_neg y]
      by_cases v : σ.1 19 (10 * k + h) = 3
      · rw [if_pos v]
        exact ⟨fun w => absurd w (by decide), fun w => absurd v w.2.2⟩
      · rw [if_neg v]
        exact ⟨fun _ => ⟨e, y, v⟩, fun _ => rfl⟩

