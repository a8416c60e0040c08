/-! THE REFERENCE: countsWaiting, valueOf, isNext. -/
def cwP (σ : aS) (kin : Int32) (p : Nat × (Nat → Nat → Int32)) (j : Nat) : Prop := p.2 5 j = kin ∧ p.2 10 j = -1 ∧ mKindOn (p.2, σ.2) (nI j) (σ.2 0) = 0
noncomputable def cw (σ : aS) (kin : Int32) : Nat → Nat × (Nat → Nat → Int32)
  | 0 => (0, σ.1)
  | j + 1 => iteP (cwP σ kin (cw σ kin j) j) ((cw σ kin j).1 + 1, iteP ((cw σ kin j).1 < 5) (up2 (cw σ kin j).2 50 (cw σ kin j).1 (nI j)) (cw σ kin j).2) (cw σ kin j)
theorem cw_t {σ : aS} {kin : Int32} {j : Nat} (h : cwP σ kin (cw σ kin j) j) (h5 : (cw σ kin j).1 < 5) : cw σ kin (j + 1) = ((cw σ kin j).1 + 1, up2 (cw σ kin j).2 50 (cw σ kin j).1 (nI j)) := (iteP_t h).trans (by rw [iteP_t h5])
theorem cw_5 {σ : aS} {kin : Int32} {j : Nat} (h : cwP σ kin (cw σ kin j) j) (h5 : ¬ (cw σ kin j).1 < 5) : cw σ kin (j + 1) = ((cw σ kin j).1 + 1, (cw σ kin j).2) := (iteP_t h).trans (by rw [iteP_f h5])
theorem cw_f {σ : aS} {kin : Int32} {j : Nat} (h : ¬ cwP σ kin (cw σ kin j) j) : cw σ kin (j + 1) = cw σ kin j := iteP_f h
/-- the row of those that wait holds children -/
theorem cw_w (σ : aS) (kin : Int32) : ∀ j i, i < (cw σ kin j).1 → i < 5 → ∃ c, c < j ∧ (cw σ kin j).2 50 i = nI c
  | 0, i, h, _ => absurd h (Nat.not_lt_zero i)
  | j + 1, i, h, hi => by
    by_cases q : cwP σ kin (cw σ kin j) j
    · by_cases h5 : (cw σ kin j).1 < 5
      · rw [cw_t q h5] at h ⊢
        by_cases e : i = (cw σ kin j).1
        · subst e; exact ⟨j, Nat.lt_succ_self j, up2_s⟩
        · obtain ⟨c, h1, h2⟩ := cw_w σ kin j i (by have h : i < (cw σ kin j).1 + 1 := h; omega) hi
          exact ⟨c, Nat.lt_succ_of_lt h1, (up2_n2 e).trans h2⟩
      · rw [cw_5 q h5] at h ⊢
        obtain ⟨c, h1, h2⟩ := cw_w σ kin j i (by omega) hi
        exact ⟨c, Nat.lt_succ_of_lt h1, h2⟩
    · rw [cw_f q] at h ⊢
      obtain ⟨c, h1, h2⟩ := cw_w σ kin j i h hi
      exact ⟨c, Nat.lt_succ_of_lt h1, h2⟩
abbrev mAheadP (σ : aS) (w : Int32) (i : Nat) : Prop := σ.1 51 i = w
def mAhead (σ : aS) (w : Int32) (k : Nat) : Int32 := fsum (fun i => if mAheadP σ w i then 1 else 0) k
theorem mAhead_t {σ : aS} {w : Int32} {k : Nat} (h : σ.1 51 k = w) : mAhead σ w (k + 1) = mAhead σ w k + 1 := by
  show _ + (if mAheadP σ w k then (1 : Int32) else 0) = _
  rw [if_pos h]; rfl
theorem mAhead_f {σ : aS} {w : Int32} {k : Nat} (h : ¬ σ.1 51 k = w) : mAhead σ w (k + 1) = mAhead σ w k + 0 := by
  show _ + (if mAheadP σ w k then (1 : Int32) else 0) = _
  rw [if_neg h]; rfl
def mValF (σ : aS) : Nat → Nat → Int32 → Int32 → Int32 → Int32
  | 0, _, pl, un, wo => 1000000 * pl + 10000 * (9 - un) + wo + 2000
  | t + 1, k, pl, un, wo => if σ.2 20 ≤ σ.1 51 k then mValF σ t (k + 1) pl un wo
    else if σ.1 53 (10 * k + nx (σ.1 51 k)) = 0 ∨ mAhead σ (σ.1 51 k) k = σ.1 55 (nx (σ.1 51 k)) then -1
    else mValF σ t (k + 1) (pl + 1) (un + if mAhead σ (σ.1 51 k) k = 0 then 1 else 0) (wo + σ.1 54 (10 * k + nx (σ.1 51 k)))
theorem mValF_s {σ : aS} {t k : Nat} {pl un wo : Int32} : mValF σ (t + 1) k pl un wo = if σ.2 20 ≤ σ.1 51 k then mValF σ t (k + 1) pl un wo
    else if σ.1 53 (10 * k + nx (σ.1 51 k)) = 0 ∨ mAhead σ (σ.1 51 k) k = σ.1 55 (nx (σ.1 51 k)) then -1
    else mValF σ t (k + 1) (pl + 1) (un + if mAhead σ (σ.1 51 k) k = 0 then 1 else 0) (wo + σ.1 54 (10 * k + nx (σ.1 51 k))) := rfl
def mVal (σ : aS) (M : Nat) : Int32 := mValF σ M 0 0 0 0
noncomputable def nxt (h : Int32) : Nat → (Nat → Nat → Int32) → Int32 × (Nat → Nat → Int32)
  | 0, A => (0, A)
  | c + 1, A => iteP (A 51 c = h) (nxt h c (up2 A 51 c 0)) (1, up2 A 51 c (A 51 c + 1))
theorem nI_dec (c : Nat) : nI (c + 1) + (-1) = nI c := by
  rw [← nI_1, Int32.add_assoc, show (1 : Int32) + -1 = 0 by decide, Int32.add_zero]
theorem nI_prv (j : Nat) : nI (j + 1) - 1 = nI j := by
  rw [← nI_1, Int32.add_sub_cancel]
