/-! THE SEARCH: ways as sets at homes; what they weigh. -/
def msk (p : Nat → Bool) : Nat → Nat
  | 0 => 0
  | c + 1 => msk p c ||| (if p c then 2 ^ c else 0)
theorem msk_bit {p : Nat → Bool} : ∀ (c r : Nat), (msk p c).testBit r = (decide (r < c) && p r)
  | 0, r => by
    show (0 : Nat).testBit r = _
    rw [Nat.zero_testBit, show decide (r < 0) = false from decide_eq_false (Nat.not_lt_zero r)]; rfl
  | c + 1, r => by
    show (msk p c ||| (if p c then 2 ^ c else 0)).testBit r = _
    rw [Nat.testBit_or, msk_bit c r]
    by_cases e : r = c
    · subst e
      rw [show decide (r < r) = false from decide_eq_false (Nat.lt_irrefl r), show decide (r < r + 1) = true from decide_eq_true (Nat.lt_succ_self r)]
      by_cases q : p r
      · rw [if_pos q, Nat.testBit_two_pow_self, q]; rfl
      · rw [if_neg q, Nat.zero_testBit]
        simp only [Bool.not_eq_true] at q
        rw [q]; rfl
    · have hz : (if p c then 2 ^ c else 0 : Nat).testBit r = false := by
        by_cases q : p c
        · rw [if_pos q, Nat.testBit_two_pow]
          exact decide_eq_false fun z => e z.symm
        · rw [if_neg q, Nat.zero_testBit]
      rw [hz, Bool.or_false]
      by_cases z : r < c
      · rw [show decide (r < c) = true from decide_eq_true z, show decide (r < c + 1) = true from decide_eq_true (by omega)]
      · rw [show decide (r < c) = false from decide_eq_false z, show decide (r < c + 1) = false from decide_eq_false (by omega)]
theorem msk_lt {p : Nat → Bool} (c : Nat) : msk p c < 2 ^ c := Nat.lt_pow_two_of_testBit _ fun i hi => by
  rw [msk_bit, show decide (i < c) = false from decide_eq_false (by omega)]; rfl
theorem bit_31 {r : Nat} : (31 : Nat).testBit r = decide (r < 5) := by
  rw [show (31 : Nat) = 2 ^ 5 - 1 from rfl, Nat.testBit_two_pow_sub_one]
theorem sbt_bit (s k r : Nat) : (sbt s k).testBit r = (s.testBit r && (decide (r < 5) ^^ k.testBit r)) := by
  unfold sbt
  rw [Nat.testBit_and, Nat.testBit_xor, bit_31]
/-- sums -/
def isum (f : Nat → Int) : Nat → Int
  | 0 => 0
  | n + 1 => isum f n + f n
theorem isum_congr {f g : Nat → Int} : ∀ n, (∀ i, i < n → f i = g i) → isum f n = isum g n
  | 0, _ => rfl
  | n + 1, h => by
    show isum f n + f n = isum g n + g n
    rw [isum_congr n fun i hi => h i (by omega), h n (by omega)]
theorem isum_0 : ∀ n, isum (fun _ => 0) n = 0
  | 0 => rfl
  | n + 1 => by
    show isum (fun _ => 0) n + 0 = 0
    rw [isum_0 n]; rfl
theorem isum_add {f g : Nat → Int} : ∀ n, isum (fun i => f i + g i) n = isum f n + isum g n
  | 0 => rfl
  | n + 1 => by
    show isum (fun i => f i + g i) n + (f n + g n) = isum f n + f n + (isum g n + g n)
    rw [isum_add n]; omega
theorem isum_at {c : Int} {x0 : Nat} : ∀ n, isum (fun x => if x = x0 then c else 0) n = if x0 < n then c else 0
  | 0 => rfl
  | n + 1 => by
    show isum (fun x => if x = x0 then c else 0) n + (if n = x0 then c else 0) = _
    rw [isum_at n]
    by_cases e : n = x0
    · rw [if_pos e, if_neg (by omega), if_pos (by omega)]; omega
    · rw [if_neg e]
      by_cases z : x0 < n
      · rw [if_pos z, if_pos (by omega)]; omega
      · rw [if_neg z, if_neg (by omega)]; rfl
/-- what a row weighs at a home; what a set weighs there -/
def rowW (w : Nat → Nat → Int) (r h : Nat) : Int := 8589934592 + 262144 * w r h + (10 - (h : Int)) * 11 ^ (4 - r)
def setW (w : Nat → Nat → Int) (s h : Nat) (c : Nat) : Int := isum (fun r => if s.testBit r then rowW w r h else 0) c
def cntB (s : Nat) (c : Nat) : Int := isum (fun r => if s.testBit r then 1 else 0) c
noncomputable def gnI (ok : Nat → Nat → Prop) (w : Nat → Nat → Int) (F : Nat → Int) (s h : Nat) : Int := iteP (F h < cntB s 5 ∨ ∃ r, r < 5 ∧ s.testBit r = true ∧ ¬ ok r h) (-1) (-536870912 + setW w s h 5)
/-- a way: the home of each row, n or more for none -/
def muW (n M : Nat) (a : Nat → Nat) (x : Nat) : Nat := if x < n then msk (fun r => a r == x) M else 0
def setA (n M : Nat) (a : Nat → Nat) (h : Nat) : Nat := msk (fun r => decide (a r < h) && decide (a r < n)) M
theorem muW_bit {n M : Nat} {a : Nat → Nat} {x r : Nat} : (muW n M a x).testBit r = (decide (x < n) && (decide (r < M) && (a r == x))) := by
  unfold muW
  by_cases h : x < n
  · rw [if_pos h, msk_bit, show decide (x < n) = true from decide_eq_true h, Bool.true_and]
  · rw [if_neg h, Nat.zero_testBit, show decide (x < n) = false from decide_eq_false h]; rfl
theorem muW_lt {n M : Nat} {a : Nat → Nat} {x : Nat} (hM : M ≤ 5) : muW n M a x < 32 := by
  unfold muW
  by_cases h : x < n
  · rw [if_pos h]
    exact Nat.lt_of_lt_of_le (msk_lt M) (Nat.pow_le_pow_right (by decide) hM)
  · rw [if_neg h]; decide
theorem Fe_way {gn : Nat → Nat → Int} {n M : Nat} {a : Nat → Nat} (hM : M ≤ 5) (hg : ∀ x, x < n → muW n M a x = 0 ∨ 0 ≤ gn (muW n M a x) x) : ∀ h, Fe gn h (setA n M a h) (muW n M a)
  | 0 => by
    show setA n M a 0 = 0
    refine Nat.eq_of_testBit_eq fun r => ?_
    unfold setA
    rw [msk_bit, Nat.zero_testBit, show decide (a r < 0) = false from decide_eq_false (Nat.not_lt_zero _), Bool.false_and, Bool.and_false]
  | h + 1 => by
    refine ⟨Nat.eq_of_testBit_eq fun r => ?_, ?_, ?_⟩
    · rw [Nat.testBit_and, muW_bit]
      unfold setA
      rw [msk_bit]
      by_cases h1 : h < n
      · by_cases h2 : r < M
        · by_cases h3 : a r = h
          · have h4 : (a r == h) = true := beq_iff_eq.mpr h3
            rw [h4, decide_eq_true h1, decide_eq_true h2, decide_eq_true (show a r < h + 1 by omega), decide_eq_true (show a r < n by omega)]; rfl
          · have h4 : (a r == h) = false := beq_eq_false_iff_ne.mpr h3
            rw [h4, Bool.and_false, Bool.and_false, Bool.false_and]
        · rw [decide_eq_false h2, Bool.false_and, Bool.and_false, Bool.false_and]
      · rw [decide_eq_false h1, Bool.false_and, Bool.false_and]
    · by_cases h1 : h < n
      · exact hg h h1
      · exact Or.inl (if_neg h1)
    · have e : sbt (setA n M a (h + 1)) (muW n M a h) = setA n M a h := Nat.eq_of_testBit_eq fun r => by
        rw [sbt_bit, muW_bit]
        unfold setA
        rw [msk_bit, msk_bit]
        by_cases h2 : r < M
        · rw [decide_eq_true h2, decide_eq_true (show r < 5 by omega), Bool.true_and, Bool.true_and, Bool.true_and]
          by_cases h1 : a r < n
          · rw [decide_eq_true h1, Bool.and_true, Bool.and_true]
            by_cases h3 : a r = h
            · have h4 : (a r == h) = true := beq_iff_eq.mpr h3
              rw [h4, decide_eq_true (show h < n by omega), decide_eq_false (show ¬ a r < h by omega)]
              simp
            · have h4 : (a r == h) = false := beq_eq_false_iff_ne.mpr h3
              rw [h4, Bool.and_false]
              by_cases h5 : a r < h
              · rw [decide_eq_true h5, decide_eq_true (show a r < h + 1 by omega)]; rfl
              · rw [decide_eq_false h5, decide_eq_false (show ¬ a r < h + 1 by omega)]; rfl
          · rw [decide_eq_false h1, Bool.and_false, Bool.and_false, Bool.false_and]
        · rw [decide_eq_false h2, Bool.false_and, Bool.false_and, Bool.false_and]
      rw [e]
      exact Fe_way hM hg h
/-- a way's counts: placed, unlike homes, worths, ranks -/
def ctP (n : Nat) (a : Nat → Nat) (c : Nat) : Int := isum (fun r => if a r < n then 1 else 0) c
def ctW (w : Nat → Nat → Int) (n : Nat) (a : Nat → Nat) (c : Nat) : Int := isum (fun r => if a r < n then w r (a r) else 0) c
def ctT (n : Nat) (a : Nat → Nat) (c : Nat) : Int := isum (fun r => if a r < n then (10 - (a r : Int)) * 11 ^ (4 - r) else 0) c
def newH (n : Nat) (a : Nat → Nat) (r : Nat) : Prop := a r < n ∧ ∀ i, i < r → a i ≠ a r
noncomputable def ctU (n : Nat) (a : Nat → Nat) (c : Nat) : Int := isum (fun r => iteP (newH n a r) 1 0) c
theorem Vm_isum {gn : Nat → Nat → Int} {μ : Nat → Nat} : ∀ h, Vm gn h μ = isum (fun x => if μ x = 0 then 0 else gn (μ x) x) h
  | 0 => rfl
  | h + 1 => by
    show Vm gn h μ + _ = isum _ h + _
    rw [Vm_isum h]
theorem mu0_iff {n M : Nat} {a : Nat → Nat} {x : Nat} : muW n M a x = 0 ↔ ¬ (x < n ∧ ∃ r, r < M ∧ a r = x) := by
  constructor
  · rintro h ⟨h1, r, h2, h3⟩
    have := muW_bit (n := n) (M := M) (a := a) (x := x) (r := r)
    rw [h, Nat.zero_testBit, decide_eq_true h1, decide_eq_true h2, beq_iff_eq.mpr h3] at this
    exact absurd this (by decide)
  · intro h
    refine Nat.eq_of_testBit_eq fun r => ?_
    rw [Nat.zero_testBit, muW_bit]
    by_cases h1 : x < n
    · by_cases h2 : r < M
      · have h3 : ¬ a r = x := fun z => h ⟨h1, r, h2, z⟩
        rw [beq_eq_false_iff_ne.mpr h3, Bool.and_false, Bool.and_false]
      · rw [decide_eq_false h2, Bool.false_and, Bool.and_false]
    · rw [decide_eq_false h1, Bool.false_and]
/-- all homes' sets weigh what the rows weigh -/
theorem sum_rows {w : Nat → Nat → Int} {n : Nat} {a : Nat → Nat} (hn : n ≤ 10) : ∀ M, isum (fun x => isum (fun r => if x < n ∧ a r = x then rowW w r x else 0) M) 10 = isum (fun r => if a r < n then rowW w r (a r) else 0) M
  | 0 => isum_0 10
  | M + 1 => by
    have e : isum (fun x => isum (fun r => if x < n ∧ a r = x then rowW w r x else 0) (M + 1)) 10 = isum (fun x => isum (fun r => if x < n ∧ a r = x then rowW w r x else 0) M + if x < n ∧ a M = x then rowW w M x else 0) 10 := rfl
    rw [e, isum_add, sum_rows hn M]
    show _ = isum _ M + _
    refine congrArg _ ?_
    dsimp only
    by_cases h : a M < n
    · rw [if_pos h, isum_congr (g := fun x => if x = a M then rowW w M (a M) else 0) 10 fun x hx => by
        by_cases z : x = a M
        · subst z; rw [if_pos ⟨h, rfl⟩, if_pos rfl]
        · rw [if_neg fun y => z y.2.symm, if_neg z], isum_at, if_pos (by omega)]
    · rw [if_neg h, isum_congr (g := fun _ => 0) 10 fun x hx => if_neg fun y => h (by omega), isum_0]
theorem sum_unl {n : Nat} {a : Nat → Nat} (hn : n ≤ 10) : ∀ M, isum (fun x => if muW n M a x = 0 then 0 else 1) 10 = ctU n a M
  | 0 => by
    rw [isum_congr (g := fun _ => 0) 10 fun x hx => if_pos (mu0_iff.mpr fun z => by
      obtain ⟨-, r, h, -⟩ := z
      exact absurd h (Nat.not_lt_zero r)), isum_0]
    rfl
  | M + 1 => by
    show _ = isum _ M + iteP (newH n a M) 1 0
    rw [show isum (fun r => iteP (newH n a r) (1 : Int) 0) M = ctU n a M from rfl, ← sum_unl hn M]
    by_cases h : newH n a M
    · rw [iteP_t h, isum_congr (g := fun x => (if muW n M a x = 0 then 0 else 1) + if x = a M then 1 else 0) 10 fun x hx => by
        by_cases z : x = a M
        · subst z
          rw [if_neg (fun y => (mu0_iff.mp y) ⟨h.1, M, Nat.lt_succ_self M, rfl⟩), if_pos (mu0_iff.mpr fun y => by
            obtain ⟨-, r, y1, y2⟩ := y
            exact h.2 r y1 y2), if_pos rfl]; rfl
        · rw [if_neg z, Int.add_zero]
          by_cases y : muW n M a x = 0
          · rw [if_pos y, if_pos (mu0_iff.mpr fun v => by
              obtain ⟨v1, r, v2, v3⟩ := v
              by_cases u : r = M
              · rw [u] at v3; exact z v3.symm
              · exact (mu0_iff.mp y) ⟨v1, r, by omega, v3⟩)]
          · rw [if_neg y, if_neg fun v => y (mu0_iff.mpr fun u => by
              obtain ⟨u1, r, u2, u3⟩ := u
              exact (mu0_iff.mp v) ⟨u1, r, by omega, u3⟩)], isum_add, isum_at, if_pos (by have := h.1; omega)]
    · rw [iteP_f h, Int.add_zero]
      refine isum_congr 10 fun x hx => ?_
      by_cases y : muW n M a x = 0
      · rw [if_pos y, if_pos (mu0_iff.mpr fun v => by
          obtain ⟨v1, r, v2, v3⟩ := v
          by_cases u : r = M
          · subst u
            refine h ⟨by omega, fun i hi q => ?_⟩
            exact (mu0_iff.mp y) ⟨v1, i, hi, q.trans v3⟩
          · exact (mu0_iff.mp y) ⟨v1, r, by omega, v3⟩)]
      · rw [if_neg y, if_neg fun v => y (mu0_iff.mpr fun u => by
          obtain ⟨u1, r, u2, u3⟩ := u
          exact (mu0_iff.mp v) ⟨u1, r, by omega, u3⟩)]

