/-! WHAT THE REFERENCE'S READING METHODS ANSWER, in words of its state. -/
theorem flast_t {p : Nat → Prop} [DecidablePred p] {n : Nat} (h : p n) : flast p (n + 1) = nI n := if_pos h
theorem flast_f {p : Nat → Prop} [DecidablePred p] {n : Nat} (h : ¬ p n) : flast p (n + 1) = flast p n := if_neg h
theorem nI_ne_m1 {j : Nat} (h : j < 2 ^ 31) : ¬ nI j = -1 := fun q => by
  have q2 := congrArg Int32.toInt q
  rw [nI_toInt h] at q2
  revert q2
  show (j : Int) = -1 → False
  omega
def mToldOn (σ : aS) (h sort on : Int32) : Int32 := flast (fun j => σ.1 28 j = h ∧ σ.1 29 j = sort ∧ σ.1 30 j ≤ on) (cN σ 27)
def mLate (σ : aS) (j : Nat) : Prop := σ.2 0 - 30 < σ.1 37 j
def mSame (σ : aS) (i j : Nat) : Prop := i ≠ j ∧ σ.1 35 i = σ.1 35 j ∧ σ.1 37 i = σ.1 37 j
def mOkG (σ : aS) (j i : Nat) : Prop := ¬ mSame σ i j ∨ σ.1 36 i < σ.1 36 j ∨ (σ.1 36 i = σ.1 36 j ∧ j < i)
noncomputable def pI9 (p : Prop) : Int32 := @bI p (Classical.propDecidable p)
theorem pI9_t {p : Prop} (h : p) : pI9 p = 1 := @bI_t _ (Classical.propDecidable p) h
theorem pI9_f {p : Prop} (h : ¬ p) : pI9 p = 0 := @bI_f _ (Classical.propDecidable p) h
theorem pI9_01 (p : Prop) : pI9 p = 0 ∨ pI9 p = 1 := @bI_01 p (Classical.propDecidable p)
theorem pI9_nz (p : Prop) : narrow .boolean (.int (pI9 p)) = .int (pI9 p) := @bI_nz p (Classical.propDecidable p)
theorem pI9_ne {p : Prop} : (¬ pI9 p = 0) ↔ p := @bI_ne p (Classical.propDecidable p)
theorem pI9_z {p : Prop} : pI9 p = 0 ↔ ¬ p := @bI_eq p (Classical.propDecidable p)
noncomputable def iteP {α : Type} (p : Prop) (a b : α) : α := @ite α p (Classical.propDecidable p) a b
theorem iteP_t {α : Type} {p : Prop} {a b : α} (h : p) : iteP p a b = a := @if_pos p (Classical.propDecidable p) h α a b
theorem iteP_f {α : Type} {p : Prop} {a b : α} (h : ¬ p) : iteP p a b = b := @if_neg p (Classical.propDecidable p) h α a b
def mGr (σ : aS) (k j : Nat) : Prop := ∀ i, i < rN σ k → mOkG σ j (30 * k + i)
noncomputable def mRiskT (σ : aS) (k i : Nat) : Int32 := iteP (mLate σ (30 * k + i) ∧ mGr σ k (30 * k + i)) (σ.1 36 (30 * k + i)) 0
noncomputable def mRisk (σ : aS) (k : Nat) : Int32 := fsum (mRiskT σ k) (rN σ k)
/-- the day of the first report, of those from r - d on, that is late and behind the one seen -/
noncomputable def mFirstF (σ : aS) (k : Nat) : Nat → Int32
  | 0 => -1
  | d + 1 => iteP (mLate σ (30 * k + (rN σ k - (d + 1))) ∧ σ.1 9 k < σ.1 37 (30 * k + (rN σ k - (d + 1)))) (σ.1 37 (30 * k + (rN σ k - (d + 1)))) (mFirstF σ k d)
noncomputable def mFirst (σ : aS) (k : Nat) : Int32 := mFirstF σ k (rN σ k)
def daysTo (r : Int32) : Int32 := if 12 ≤ r then 1 else if 6 ≤ r then 5 else 20
noncomputable def mSeenBy (σ : aS) (k : Nat) : Int32 := if mFirst σ k = -1 then -1 else mFirst σ k + daysTo (mRisk σ k)
def mCounts (σ : aS) (x on : Int32) : Int32 := flast (fun j => σ.1 39 j = x ∧ (σ.1 41 j ≤ on ∧ on ≤ σ.1 42 j)) (cN σ 38)
def mKindOn (σ : aS) (x on : Int32) : Int32 := if mCounts σ x on = -1 then -1 else σ.1 40 (mCounts σ x on).toNatClampNeg
def mOthersT (σ : aS) (x h : Int32) (j : Nat) : Int32 := if ¬ nI j = x ∧ mHomeOf σ j = h then 1 else 0
def mOthers (σ : aS) (x h : Int32) : Int32 := fsum (mOthersT σ x h) (cN σ 1)
def mCan (σ : aS) (h on : Int32) : Int32 := if mToldOn σ h 1 on = -1 ∨ σ.1 33 (mToldOn σ h 1 on).toNatClampNeg < on then 0 else σ.1 31 (mToldOn σ h 1 on).toNatClampNeg
def mWhyOn (σ : aS) (k : Nat) (h on : Int32) : Int32 :=
  if ¬ mKindOn σ (nI k) on = 0 then 1
  else if mToldOn σ h 0 on = -1 ∨ σ.1 33 (mToldOn σ h 0 on).toNatClampNeg < on then 2
  else if ¬ (σ.1 31 (mToldOn σ h 0 on).toNatClampNeg ≤ mYears σ k on ∧ mYears σ k on ≤ σ.1 32 (mToldOn σ h 0 on).toNatClampNeg) then 3
  else if ¬ σ.1 4 k &&& (mCan σ h on ^^^ (-1)) = 0 then 4
  else if ¬ mToldOn σ h 2 on = -1 ∧ (σ.1 31 (mToldOn σ h 2 on).toNatClampNeg ≤ on ∧ on ≤ σ.1 33 (mToldOn σ h 2 on).toNatClampNeg) then 5 else 0
def mWhyNot (σ : aS) (k h : Nat) : Int32 := if 0 < mWhyOn σ k (nI h) (σ.2 0) then mWhyOn σ k (nI h) (σ.2 0) else if σ.1 23 h ≤ mOthers σ (nI k) (nI h) then 6 else if σ.1 19 (10 * k + h) = 3 then 7 else 0
def mWorthT (σ : aS) (k h j : Nat) : Int32 := if ¬ nI j = nI k ∧ σ.1 5 j = σ.1 5 k ∧ mHomeOf σ j = nI h then 10 else 0
def mFar (σ : aS) (k h : Nat) : Int32 := if σ.1 6 k < σ.1 21 h then σ.1 21 h - σ.1 6 k else σ.1 6 k - σ.1 21 h
def mWorth (σ : aS) (k h : Nat) : Int32 := fsum (mWorthT σ k h) (cN σ 1) + (if σ.1 7 k = σ.1 22 h then 6 else 0) + (if σ.1 19 (10 * k + h) = 0 then 0 else if σ.1 19 (10 * k + h) = 1 then 8 else -8) - mFar σ k h / 5

