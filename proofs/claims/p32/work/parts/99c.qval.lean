/-! THE SEARCH: a way's weight in the class, its value in the reference: the order is the same. -/
def feaW (ok : Nat → Nat → Prop) (F : Nat → Int) (n M : Nat) (a : Nat → Nat) : Prop := (∀ r, r < M → a r < n → ok r (a r)) ∧ ∀ x, x < n → muW n M a x = 0 ∨ cntB (muW n M a x) 5 ≤ F x
theorem isum_tail {f : Nat → Int} {M : Nat} : ∀ t, (∀ r, M ≤ r → r < M + t → f r = 0) → isum f (M + t) = isum f M
  | 0, _ => rfl
  | t + 1, h => by
    show isum f (M + t) + f (M + t) = _
    rw [isum_tail t fun r h1 h2 => h r h1 (by omega), h (M + t) (by omega) (by omega), Int.add_zero]
theorem setW_way {w : Nat → Nat → Int} {n M : Nat} {a : Nat → Nat} {x : Nat} (hM : M ≤ 5) : setW w (muW n M a x) x 5 = isum (fun r => if x < n ∧ a r = x then rowW w r x else 0) M := by
  unfold setW
  have e := isum_tail (f := fun r => if (muW n M a x).testBit r then rowW w r x else 0) (M := M) (5 - M) fun r h1 h2 => by
    rw [muW_bit, decide_eq_false (show ¬ r < M by omega), Bool.false_and, Bool.and_false]; rfl
  rw [show M + (5 - M) = 5 by omega] at e
  rw [e]
  refine isum_congr M fun r hr => ?_
  have hb : (muW n M a x).testBit r = (decide (x < n) && (a r == x)) := by rw [muW_bit, decide_eq_true hr, Bool.true_and]
  by_cases z : x < n ∧ a r = x
  · rw [if_pos z, if_pos (by rw [hb, decide_eq_true z.1, beq_iff_eq.mpr z.2]; rfl)]
  · rw [if_neg z, if_neg fun y => z (by
      rw [hb, Bool.and_eq_true] at y
      exact ⟨of_decide_eq_true y.1, beq_iff_eq.mp y.2⟩)]
theorem gnI_way {ok : Nat → Nat → Prop} {w : Nat → Nat → Int} {F : Nat → Int} {n M : Nat} {a : Nat → Nat} (hf : feaW ok F n M a) {x : Nat} (hx : muW n M a x ≠ 0) : gnI ok w F (muW n M a x) x = -536870912 + setW w (muW n M a x) x 5 := by
  unfold gnI
  have h1 : x < n := by
    refine Decidable.byContradiction fun z => hx (if_neg z)
  refine iteP_f fun z => ?_
  rcases z with z | ⟨r, z1, z2, z3⟩
  · have := (hf.2 x h1).resolve_left hx
    omega
  · rw [muW_bit, decide_eq_true h1, Bool.true_and, Bool.and_eq_true] at z2
    obtain ⟨z4, z5⟩ := z2
    have e := beq_iff_eq.mp z5
    have := hf.1 r (of_decide_eq_true z4) (by rw [e]; exact h1)
    rw [e] at this
    exact z3 this
theorem row_pos {w : Nat → Nat → Int} {r h : Nat} (hw : -100 ≤ w r h) (hh : h < 10) : 8000000000 ≤ rowW w r h := by
  unfold rowW
  have a : 0 ≤ (10 - (h : Int)) * 11 ^ (4 - r) := Int.mul_nonneg (by omega) (by exact Int.pow_nonneg (by decide))
  omega
theorem isum_ge {f : Nat → Int} : ∀ n, (∀ i, i < n → 0 ≤ f i) → 0 ≤ isum f n
  | 0, _ => Int.le_refl _
  | n + 1, h => by
    have a := isum_ge n fun i hi => h i (by omega)
    have b := h n (by omega)
    show 0 ≤ isum f n + f n
    omega
theorem isum_ge1 {f : Nat → Int} {i0 : Nat} {c : Int} (hi : c ≤ f i0) : ∀ n, i0 < n → (∀ i, i < n → 0 ≤ f i) → c ≤ isum f n
  | 0, h, _ => absurd h (Nat.not_lt_zero _)
  | n + 1, h, hp => by
    show c ≤ isum f n + f n
    have b := hp n (by omega)
    by_cases e : i0 = n
    · rw [e] at hi
      have a := isum_ge n fun i hi => hp i (by omega)
      omega
    · have a := isum_ge1 hi n (by omega) fun i hi => hp i (by omega)
      omega
/-- a set with a row in it weighs -/
theorem setW_pos {w : Nat → Nat → Int} {s h : Nat} (hw : ∀ r, r < 5 → -100 ≤ w r h) (hh : h < 10) {r : Nat} (hr : r < 5) (hb : s.testBit r = true) : 8000000000 ≤ setW w s h 5 := by
  unfold setW
  refine isum_ge1 (i0 := r) (by rw [if_pos hb]; exact row_pos (hw r hr) hh) 5 hr fun i hi => ?_
  by_cases z : s.testBit i
  · rw [if_pos z]
    have := row_pos (hw i hi) hh
    omega
  · rw [if_neg z]; exact Int.le_refl _
theorem isum_mul {c : Int} {f : Nat → Int} : ∀ n, isum (fun i => c * f i) n = c * isum f n
  | 0 => by show 0 = c * 0; rw [Int.mul_zero]
  | n + 1 => by
    show isum (fun i => c * f i) n + c * f n = c * (isum f n + f n)
    rw [isum_mul n, Int.mul_add]
theorem Vm_way {ok : Nat → Nat → Prop} {w : Nat → Nat → Int} {F : Nat → Int} {n M : Nat} {a : Nat → Nat} (hn : n ≤ 10) (hM : M ≤ 5) (hf : feaW ok F n M a) : Vm (gnI ok w F) 10 (muW n M a) = 8589934592 * ctP n a M + 262144 * ctW w n a M + ctT n a M - 536870912 * ctU n a M := by
  rw [Vm_isum]
  have e1 : isum (fun x => if muW n M a x = 0 then 0 else gnI ok w F (muW n M a x) x) 10 = isum (fun x => (-536870912) * (if muW n M a x = 0 then 0 else 1) + isum (fun r => if x < n ∧ a r = x then rowW w r x else 0) M) 10 := isum_congr 10 fun x hx => by
    rw [← setW_way hM]
    by_cases z : muW n M a x = 0
    · rw [if_pos z, if_pos z, z]
      unfold setW
      rw [isum_congr (g := fun _ => 0) 5 fun r _ => by rw [Nat.zero_testBit]; rfl, isum_0]; rfl
    · rw [if_neg z, if_neg z, gnI_way hf z]; omega
  rw [e1, isum_add, isum_mul, sum_unl hn, sum_rows hn]
  have e2 : isum (fun r => if a r < n then rowW w r (a r) else 0) M = 8589934592 * ctP n a M + 262144 * ctW w n a M + ctT n a M := by
    unfold ctP ctW ctT
    rw [← isum_mul, ← isum_mul, ← isum_add, ← isum_add]
    refine isum_congr M fun r _ => ?_
    by_cases z : a r < n
    · rw [if_pos z, if_pos z, if_pos z, if_pos z]; unfold rowW; omega
    · rw [if_neg z, if_neg z, if_neg z, if_neg z]; rfl
  rw [e2]
  omega
/-- the ranks, the last row the least -/
def tdg (n x : Nat) : Int := if x < n then 10 - (x : Int) else 0
def tHr (n : Nat) (a : Nat → Nat) : Nat → Int
  | 0 => 0
  | c + 1 => 11 * tHr n a c + tdg n (a c)
theorem tdg_b {n x : Nat} (hn : n ≤ 10) : 0 ≤ tdg n x ∧ tdg n x ≤ 10 := by
  unfold tdg
  split <;> omega
theorem tHr_b {n : Nat} {a : Nat → Nat} (hn : n ≤ 10) : ∀ c, 0 ≤ tHr n a c ∧ tHr n a c ≤ 11 ^ c - 1
  | 0 => ⟨Int.le_refl _, (by decide : (0 : Int) ≤ 11 ^ 0 - 1)⟩
  | c + 1 => by
    obtain ⟨h1, h2⟩ := tHr_b (n := n) (a := a) hn c
    obtain ⟨h3, h4⟩ := tdg_b (n := n) (x := a c) hn
    show 0 ≤ 11 * tHr n a c + tdg n (a c) ∧ 11 * tHr n a c + tdg n (a c) ≤ 11 ^ (c + 1) - 1
    rw [Int.pow_succ]
    omega
theorem ctT_tHr {n : Nat} {a : Nat → Nat} : ∀ c, c ≤ 5 → ctT n a c = 11 ^ (5 - c) * tHr n a c
  | 0, _ => by show 0 = 11 ^ 5 * 0; rw [Int.mul_zero]
  | c + 1, hc => by
    have ih := ctT_tHr (n := n) (a := a) c (by omega)
    show ctT n a c + (if a c < n then (10 - (a c : Int)) * 11 ^ (4 - c) else 0) = 11 ^ (5 - (c + 1)) * (11 * tHr n a c + tdg n (a c))
    rw [ih, show 5 - c = (4 - c) + 1 by omega, show 5 - (c + 1) = 4 - c by omega, Int.pow_succ, Int.mul_add, Int.mul_assoc]
    refine congrArg _ ?_
    unfold tdg
    by_cases z : a c < n
    · rw [if_pos z, if_pos z, Int.mul_comm]
    · rw [if_neg z, if_neg z, Int.mul_zero]
def rkN (n : Nat) (a : Nat → Nat) : Nat → Nat
  | 0 => 0
  | c + 1 => rkN n a c * (n + 1) + a c
theorem tHr_lex {n : Nat} (hn : n ≤ 10) {a b : Nat → Nat} : ∀ c, (∀ r, r < c → a r ≤ n ∧ b r ≤ n) → (rkN n a c < rkN n b c → tHr n b c < tHr n a c) ∧ (rkN n a c = rkN n b c → ∀ r, r < c → a r = b r)
  | 0, _ => ⟨fun h => absurd h (Nat.lt_irrefl _), fun _ r h => absurd h (Nat.not_lt_zero r)⟩
  | c + 1, h => by
    obtain ⟨h1, h2⟩ := tHr_lex hn c fun r hr => h r (by omega)
    obtain ⟨ha, hb⟩ := h c (Nat.lt_succ_self c)
    obtain ⟨ta1, ta2⟩ := tdg_b (n := n) (x := a c) hn
    obtain ⟨tb1, tb2⟩ := tdg_b (n := n) (x := b c) hn
    have key : ∀ {x y : Nat}, x < y → x * (n + 1) + (n + 1) ≤ y * (n + 1) := fun {x y} hxy => by
      have := Nat.mul_le_mul_right (n + 1) (show x + 1 ≤ y from hxy)
      rw [Nat.add_mul, Nat.one_mul] at this
      exact this
    refine ⟨fun q => ?_, fun q => ?_⟩
    · have q : rkN n a c * (n + 1) + a c < rkN n b c * (n + 1) + b c := q
      show 11 * tHr n b c + tdg n (b c) < 11 * tHr n a c + tdg n (a c)
      rcases Nat.lt_trichotomy (rkN n a c) (rkN n b c) with z | z | z
      · have := h1 z
        omega
      · have e := h2 z
        have et : ∀ m, m ≤ c → tHr n a m = tHr n b m := by
          intro m
          induction m with
          | zero => intro _; rfl
          | succ m ih =>
            intro hm
            show 11 * tHr n a m + tdg n (a m) = 11 * tHr n b m + tdg n (b m)
            rw [ih (by omega), e m (by omega)]
        rw [et c (Nat.le_refl c)]
        rw [z] at q
        have : tdg n (b c) < tdg n (a c) := by
          unfold tdg
          by_cases y : b c < n
          · rw [if_pos y, if_pos (by omega)]; omega
          · rw [if_neg y, if_pos (by omega)]; omega
        omega
      · have := key z
        omega
    · have q : rkN n a c * (n + 1) + a c = rkN n b c * (n + 1) + b c := q
      have z : rkN n a c = rkN n b c := by
        rcases Nat.lt_trichotomy (rkN n a c) (rkN n b c) with z | z | z
        · have := key z; omega
        · exact z
        · have := key z; omega
      intro r hr
      by_cases e : r = c
      · rw [e]
        rw [z] at q
        omega
      · exact h2 z r (by omega)
noncomputable def valI (w : Nat → Nat → Int) (n M : Nat) (a : Nat → Nat) : Int := 1000000 * ctP n a M + 10000 * (9 - ctU n a M) + ctW w n a M + 2000
noncomputable def wgtI (w : Nat → Nat → Int) (n M : Nat) (a : Nat → Nat) : Int := 8589934592 * ctP n a M + 262144 * ctW w n a M + ctT n a M - 536870912 * ctU n a M
theorem isum_b {f : Nat → Int} {lo hi : Int} : ∀ n : Nat, (∀ i, i < n → lo ≤ f i ∧ f i ≤ hi) → (n : Int) * lo ≤ isum f n ∧ isum f n ≤ (n : Int) * hi
  | 0, _ => by
    show ((0 : Nat) : Int) * lo ≤ 0 ∧ 0 ≤ ((0 : Nat) : Int) * hi
    rw [Int.ofNat_zero, Int.zero_mul, Int.zero_mul]
    exact ⟨Int.le_refl _, Int.le_refl _⟩
  | n + 1, h => by
    obtain ⟨h1, h2⟩ := isum_b n fun i hi => h i (by omega)
    obtain ⟨h3, h4⟩ := h n (by omega)
    show ((n + 1 : Nat) : Int) * lo ≤ isum f n + f n ∧ isum f n + f n ≤ ((n + 1 : Nat) : Int) * hi
    rw [Int.natCast_succ, Int.add_mul, Int.add_mul, Int.one_mul, Int.one_mul]
    omega
theorem ct_b {w : Nat → Nat → Int} {n M : Nat} {a : Nat → Nat} (hn : n ≤ 10) (hM : M ≤ 5) (hw : ∀ r h, r < M → h < n → -100 ≤ w r h ∧ w r h ≤ 200) : (0 ≤ ctP n a M ∧ ctP n a M ≤ 5) ∧ (0 ≤ ctU n a M ∧ ctU n a M ≤ 5) ∧ (-500 ≤ ctW w n a M ∧ ctW w n a M ≤ 1000) ∧ 0 ≤ ctT n a M ∧ ctT n a M ≤ 161050 := by
  have hp : 0 ≤ ctP n a M ∧ ctP n a M ≤ 5 := by
    have := isum_b (f := fun r => if a r < n then 1 else 0) (lo := 0) (hi := 1) M fun i _ => by
      split <;> omega
    unfold ctP
    omega
  have hu : 0 ≤ ctU n a M ∧ ctU n a M ≤ 5 := by
    have := isum_b (f := fun r => iteP (newH n a r) (1 : Int) 0) (lo := 0) (hi := 1) M fun i _ => by
      by_cases z : newH n a i
      · rw [iteP_t z]; omega
      · rw [iteP_f z]; omega
    unfold ctU
    omega
  have hw2 : -500 ≤ ctW w n a M ∧ ctW w n a M ≤ 1000 := by
    have := isum_b (f := fun r => if a r < n then w r (a r) else 0) (lo := -100) (hi := 200) M fun i hi => by
      by_cases z : a i < n
      · rw [if_pos z]; exact hw i (a i) hi z
      · rw [if_neg z]; omega
    unfold ctW
    omega
  refine ⟨hp, hu, hw2, ?_⟩
  rw [ctT_tHr M hM]
  obtain ⟨h1, h2⟩ := tHr_b (n := n) (a := a) hn M
  rcases (show M = 0 ∨ M = 1 ∨ M = 2 ∨ M = 3 ∨ M = 4 ∨ M = 5 by omega) with rfl | rfl | rfl | rfl | rfl | rfl <;> (simp only [Nat.reduceSub] at *; omega)
/-- a greater value weighs more; of like values the way that comes first -/
theorem wgt_lex {w : Nat → Nat → Int} {n M : Nat} {a b : Nat → Nat} (hn : n ≤ 10) (hM : M ≤ 5) (hw : ∀ r h, r < M → h < n → -100 ≤ w r h ∧ w r h ≤ 200) (hab : ∀ r, r < M → a r ≤ n ∧ b r ≤ n) (h : valI w n M b < valI w n M a ∨ (valI w n M b = valI w n M a ∧ rkN n a M < rkN n b M)) : wgtI w n M b < wgtI w n M a := by
  obtain ⟨a1, a2, a3, a4⟩ := ct_b (a := a) hn hM hw
  obtain ⟨b1, b2, b3, b4⟩ := ct_b (a := b) hn hM hw
  unfold valI at h
  unfold wgtI
  rcases h with h | ⟨h, hr⟩
  · rcases Int.lt_trichotomy (ctP n a M) (ctP n b M) with z | z | z
    · omega
    · rw [z] at h ⊢
      rcases Int.lt_trichotomy (ctU n a M) (ctU n b M) with y | y | y
      · omega
      · rw [y] at h ⊢
        omega
      · omega
    · omega
  · have hP : ctP n a M = ctP n b M := by omega
    rw [hP] at h ⊢
    have hU : ctU n a M = ctU n b M := by omega
    rw [hU] at h ⊢
    have hW : ctW w n a M = ctW w n b M := by omega
    rw [hW]
    have hT : ctT n b M < ctT n a M := by
      rw [ctT_tHr M hM, ctT_tHr M hM]
      exact Int.mul_lt_mul_of_pos_left ((tHr_lex hn M hab).1 hr) (Int.pow_pos (by decide))
    omega

