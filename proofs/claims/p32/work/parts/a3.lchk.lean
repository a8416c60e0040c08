/-! THE LAW: what its checks say of the state; reading calls by their second number. -/
def hmT (σ : aS) (m k : Nat) : Int32 := if mHomeOf σ k = nI m then 1 else 0
def IL (σ : aS) (γ : Nat → Nat → Int32) : Prop := (γ 0 0 = nI (cN σ 1) ∧ γ 0 1 = nI (cN σ 20) ∧ γ 0 2 = nI (cN σ 38) ∧ γ 0 3 = nI (cN σ 43) ∧ γ 0 4 = σ.2 0) ∧ (cN σ 20 ≤ 4 ∧ cN σ 38 ≤ 32) ∧ (∀ k, k < cN σ 1 → γ 1 k = σ.1 2 k - σ.1 3 k ∧ γ 2 k = σ.1 4 k ∧ γ 3 k = σ.1 5 k) ∧ (∀ m, m < cN σ 20 → γ 4 m = σ.1 23 m ∧ γ 5 m = σ.1 25 m) ∧ ∀ i, i < cN σ 38 → γ 6 i = σ.1 39 i ∧ γ 7 (2 * i) = σ.1 41 i ∧ γ 7 (2 * i + 1) = σ.1 42 i
def ACk (σ : aS) (k : Nat) : Prop :=
  (-1 ≤ mHomeOf σ k ∧ mHomeOf σ k < nI (cN σ 20)) ∧ mYears σ k (σ.2 0) = (σ.1 2 k - σ.1 3 k + σ.2 0) / 365 ∧ (0 ≤ σ.1 8 k ∧ σ.1 8 k < 5) ∧
  (0 ≤ rSum (rAll σ k) (σ.2 0) ∧ (0 < rSum (rAll σ k) (σ.2 0) ∨ rSee (rAll σ k) (σ.2 0) (σ.1 9 k) = -1) ∧ (rSee (rAll σ k) (σ.2 0) (σ.1 9 k) = -1 ∨ σ.2 0 - 30 < rSee (rAll σ k) (σ.2 0) (σ.1 9 k))) ∧
  (0 ≤ σ.1 14 k ∧ 0 ≤ σ.1 15 k ∧ (σ.1 18 k = 0 ∨ 2 < σ.1 15 k)) ∧ (18 ≤ mYears σ k (σ.2 0) → mFileF σ (nI k) (cN σ 43) (σ.1 11 k) 0 = -1) ∧ 0 ≤ σ.1 11 k ∧
  ∀ m, m < cN σ 20 → (0 ≤ mWhyNot σ k m ∧ mWhyNot σ k m < 8) ∧ (mBestF σ k (cN σ 20) = nI m → mWhyNot σ k m = 0) ∧ (mWhyNot σ k m = 0 → ∃ b, b < cN σ 20 ∧ mBestF σ k (cN σ 20) = nI b ∧ mWorth σ k m ≤ mWorth σ k b ∧ (mWorth σ k m < mWorth σ k b ∨ nI b ≤ nI m))
def AC (σ : aS) : Prop := (∀ k, k < cN σ 1 → ACk σ k) ∧ (∀ m, m < cN σ 20 → fsum (hmT σ m) (cN σ 1) ≤ σ.1 23 m) ∧ fsum (σ.1 11) (cN σ 1) = nI (cN σ 43)
/-- a home's dues: of a stay, from its first day up to one -/
def dyD (σ : aS) (c : Nat) (d : Int32) : Int32 := 10 + (σ.1 2 c - σ.1 3 c + d) / 365 + 5 * ((σ.1 4 c &&& 1) + ((σ.1 4 c >>> ((1 : Int32) &&& 31)) &&& 1) + ((σ.1 4 c >>> ((2 : Int32) &&& 31)) &&& 1) + (σ.1 4 c >>> ((3 : Int32) &&& 31)))
def stD (σ : aS) (m j : Nat) : Int32 := if σ.1 45 j = nI m then fsum (fun i => dyD σ (nx (σ.1 44 j)) (nI (nx (σ.1 46 j) + i))) ((if σ.1 47 j = -1 then cN σ 0 else nx (σ.1 47 j)) - nx (σ.1 46 j)) else 0
def ldT (σ : aS) (w : Nat) (k : Nat) : Int32 := if σ.1 8 k = nI w then 2 + (if σ.1 10 k = -1 then 0 else 3) + (σ.1 4 k &&& 1) + ((σ.1 4 k >>> ((1 : Int32) &&& 31)) &&& 1) + ((σ.1 4 k >>> ((2 : Int32) &&& 31)) &&& 1) + (σ.1 4 k >>> ((3 : Int32) &&& 31)) else 0
def ALo (σ : aS) : Prop := (∀ w, w < 5 → mLoad σ (nI w) = fsum (ldT σ w) (cN σ 1)) ∧ ∀ k, k < cN σ 1 → (mHomeOf σ k < 0 ↔ σ.1 10 k = -1)
def ASk (σ : aS) (j : Nat) : Prop := (∃ c, c < cN σ 1 ∧ σ.1 44 j = nI c ∧ (σ.1 47 j = -1 → mHomeOf σ c = σ.1 45 j)) ∧ (0 ≤ σ.1 46 j ∧ σ.1 46 j ≤ σ.2 0) ∧ (¬ σ.1 47 j = -1 → σ.1 46 j ≤ σ.1 47 j ∧ σ.1 47 j ≤ σ.2 0) ∧ (0 ≤ σ.1 48 j ∧ σ.1 48 j < nI (cN σ 38)) ∧ ∀ i, i < j → σ.1 44 i = σ.1 44 j → 0 ≤ σ.1 47 i ∧ σ.1 47 i ≤ σ.1 46 j
def ASt (σ : aS) : Prop := (∀ j, j < cN σ 43 → ASk σ j) ∧ ∀ m, m < cN σ 20 → cOw σ m = fsum (stD σ m) (cN σ 43) - σ.1 25 m
theorem n_no {n : Nat} (h : n ≤ 1000) : ¬ ∃ k, k < n ∧ nI n = nI k := fun ⟨k, k1, k2⟩ => by
  have z := congrArg Int32.toNatClampNeg k2
  rw [nI_clamp (by omega), nI_clamp (by omega)] at z
  omega
section VJ
variable {X : xX} {G : gG} {nL : Nat} {Q : State → Prop} {k n pc k9 n9 tgt9 : Nat} {lo : lO} {st st9 : List Value} {S : sS}
theorem V_or (kk : V X G nL Q k n tgt9 lo st9 S) (h : V X G nL Q k n tgt9 lo st9 S → V X G nL Q k n pc lo st S) : V X G nL Q k n pc lo st S := h kk
theorem V_orK (kk : V X G nL Q k9 n9 tgt9 lo st9 S) (h : V X G nL Q k9 n9 tgt9 lo st9 S → V X G nL Q k n pc lo st S) : V X G nL Q k n pc lo st S := h kk
end VJ
theorem mIs_0 {σ : aS} {k : Nat} : mIs σ k 0 = mHomeOf σ k := if_pos rfl
theorem mIs_1 {σ : aS} {k : Nat} : mIs σ k 1 = mYears σ k (σ.2 0) := (if_neg (by decide)).trans (if_pos rfl)
theorem mIs_2 {σ : aS} {k : Nat} : mIs σ k 2 = σ.1 11 k := (if_neg (by decide)).trans ((if_neg (by decide)).trans (if_pos rfl))
theorem mIs_3 {σ : aS} {k : Nat} : mIs σ k 3 = σ.1 14 k := (if_neg (by decide)).trans ((if_neg (by decide)).trans ((if_neg (by decide)).trans (if_pos rfl)))
theorem mIs_4 {σ : aS} {k : Nat} : mIs σ k 4 = σ.1 15 k := (if_neg (by decide)).trans ((if_neg (by decide)).trans ((if_neg (by decide)).trans ((if_neg (by decide)).trans (if_pos rfl))))
theorem mIs_5 {σ : aS} {k : Nat} : mIs σ k 5 = if σ.1 18 k = 0 then 0 else 1 := (if_neg (by decide)).trans ((if_neg (by decide)).trans ((if_neg (by decide)).trans ((if_neg (by decide)).trans ((if_neg (by decide)).trans (if_pos rfl)))))
theorem mIs_6 {σ : aS} {k : Nat} : mIs σ k 6 = σ.1 8 k := (if_neg (by decide)).trans ((if_neg (by decide)).trans ((if_neg (by decide)).trans ((if_neg (by decide)).trans ((if_neg (by decide)).trans (if_neg (by decide))))))
theorem mStay_0 {σ : aS} {k : Nat} : mStay σ k 0 = σ.1 44 k := if_pos rfl
theorem mStay_1 {σ : aS} {k : Nat} : mStay σ k 1 = σ.1 45 k := (if_neg (by decide)).trans (if_pos rfl)
theorem mStay_2 {σ : aS} {k : Nat} : mStay σ k 2 = σ.1 46 k := (if_neg (by decide)).trans ((if_neg (by decide)).trans (if_pos rfl))
theorem mStay_3 {σ : aS} {k : Nat} : mStay σ k 3 = σ.1 47 k := (if_neg (by decide)).trans ((if_neg (by decide)).trans ((if_neg (by decide)).trans (if_pos rfl)))
theorem mStay_4 {σ : aS} {k : Nat} : mStay σ k 4 = σ.1 48 k := (if_neg (by decide)).trans ((if_neg (by decide)).trans ((if_neg (by decide)).trans (if_neg (by decide))))
theorem r_is0 (l : Launch) (hl : l.stackTraces = false) (G : gG) (S : sS) (q : Nat) (a : Nat → Nat) (γ : Nat → Nat → Int32) (σ : aS) (hP : PW S q a γ σ) (k : Nat) (hk : k < cN σ 1) : ChF l G yL_childIs cL_childIs 4 (Option.some FieldType.int) [(0, 6, 7, 30), (0, 6, 11, 16)] 8 0 0 [.ref q, .int (nI k), .int 0] S (some (.int (mHomeOf σ k))) S := by
  have h := r_childIs l hl G S q a γ σ hP k hk 0 (by decide)
  rw [mIs_0] at h
  exact h
theorem r_is1 (l : Launch) (hl : l.stackTraces = false) (G : gG) (S : sS) (q : Nat) (a : Nat → Nat) (γ : Nat → Nat → Int32) (σ : aS) (hP : PW S q a γ σ) (k : Nat) (hk : k < cN σ 1) : ChF l G yL_childIs cL_childIs 4 (Option.some FieldType.int) [(0, 6, 7, 30), (0, 6, 11, 16)] 8 0 0 [.ref q, .int (nI k), .int 1] S (some (.int (mYears σ k (σ.2 0)))) S := by
  have h := r_childIs l hl G S q a γ σ hP k hk 1 (by decide)
  rw [mIs_1] at h
  exact h
theorem r_is2 (l : Launch) (hl : l.stackTraces = false) (G : gG) (S : sS) (q : Nat) (a : Nat → Nat) (γ : Nat → Nat → Int32) (σ : aS) (hP : PW S q a γ σ) (k : Nat) (hk : k < cN σ 1) : ChF l G yL_childIs cL_childIs 4 (Option.some FieldType.int) [(0, 6, 7, 30), (0, 6, 11, 16)] 8 0 0 [.ref q, .int (nI k), .int 2] S (some (.int (σ.1 11 k))) S := by
  have h := r_childIs l hl G S q a γ σ hP k hk 2 (by decide)
  rw [mIs_2] at h
  exact h
theorem r_is3 (l : Launch) (hl : l.stackTraces = false) (G : gG) (S : sS) (q : Nat) (a : Nat → Nat) (γ : Nat → Nat → Int32) (σ : aS) (hP : PW S q a γ σ) (k : Nat) (hk : k < cN σ 1) : ChF l G yL_childIs cL_childIs 4 (Option.some FieldType.int) [(0, 6, 7, 30), (0, 6, 11, 16)] 8 0 0 [.ref q, .int (nI k), .int 3] S (some (.int (σ.1 14 k))) S := by
  have h := r_childIs l hl G S q a γ σ hP k hk 3 (by decide)
  rw [mIs_3] at h
  exact h
theorem r_is4 (l : Launch) (hl : l.stackTraces = false) (G : gG) (S : sS) (q : Nat) (a : Nat → Nat) (γ : Nat → Nat → Int32) (σ : aS) (hP : PW S q a γ σ) (k : Nat) (hk : k < cN σ 1) : ChF l G yL_childIs cL_childIs 4 (Option.some FieldType.int) [(0, 6, 7, 30), (0, 6, 11, 16)] 8 0 0 [.ref q, .int (nI k), .int 4] S (some (.int (σ.1 15 k))) S := by
  have h := r_childIs l hl G S q a γ σ hP k hk 4 (by decide)
  rw [mIs_4] at h
  exact h
theorem r_is5 (l : Launch) (hl : l.stackTraces = false) (G : gG) (S : sS) (q : Nat) (a : Nat → Nat) (γ : Nat → Nat → Int32) (σ : aS) (hP : PW S q a γ σ) (k : Nat) (hk : k < cN σ 1) : ChF l G yL_childIs cL_childIs 4 (Option.some FieldType.int) [(0, 6, 7, 30), (0, 6, 11, 16)] 8 0 0 [.ref q, .int (nI k), .int 5] S (some (.int (if σ.1 18 k = 0 then 0 else 1))) S := by
  have h := r_childIs l hl G S q a γ σ hP k hk 5 (by decide)
  rw [mIs_5] at h
  exact h
theorem r_is6 (l : Launch) (hl : l.stackTraces = false) (G : gG) (S : sS) (q : Nat) (a : Nat → Nat) (γ : Nat → Nat → Int32) (σ : aS) (hP : PW S q a γ σ) (k : Nat) (hk : k < cN σ 1) : ChF l G yL_childIs cL_childIs 4 (Option.some FieldType.int) [(0, 6, 7, 30), (0, 6, 11, 16)] 8 0 0 [.ref q, .int (nI k), .int 6] S (some (.int (σ.1 8 k))) S := by
  have h := r_childIs l hl G S q a γ σ hP k hk 6 (by decide)
  rw [mIs_6] at h
  exact h
theorem r_st0 (l : Launch) (hl : l.stackTraces = false) (G : gG) (S : sS) (q : Nat) (a : Nat → Nat) (γ : Nat → Nat → Int32) (σ : aS) (hP : PW S q a γ σ) (k : Nat) (hk : k < cN σ 43) : ChF l G yL_stay cL_stay 4 (Option.some FieldType.int) [(0, 6, 7, 30), (0, 6, 11, 16)] 8 0 0 [.ref q, .int (nI k), .int 0] S (some (.int (σ.1 44 k))) S := by
  have h := r_stay l hl G S q a γ σ hP k hk 0 (by decide)
  rw [mStay_0] at h
  exact h
theorem r_st1 (l : Launch) (hl : l.stackTraces = false) (G : gG) (S : sS) (q : Nat) (a : Nat → Nat) (γ : Nat → Nat → Int32) (σ : aS) (hP : PW S q a γ σ) (k : Nat) (hk : k < cN σ 43) : ChF l G yL_stay cL_stay 4 (Option.some FieldType.int) [(0, 6, 7, 30), (0, 6, 11, 16)] 8 0 0 [.ref q, .int (nI k), .int 1] S (some (.int (σ.1 45 k))) S := by
  have h := r_stay l hl G S q a γ σ hP k hk 1 (by decide)
  rw [mStay_1] at h
  exact h
theorem r_st2 (l : Launch) (hl : l.stackTraces = false) (G : gG) (S : sS) (q : Nat) (a : Nat → Nat) (γ : Nat → Nat → Int32) (σ : aS) (hP : PW S q a γ σ) (k : Nat) (hk : k < cN σ 43) : ChF l G yL_stay cL_stay 4 (Option.some FieldType.int) [(0, 6, 7, 30), (0, 6, 11, 16)] 8 0 0 [.ref q, .int (nI k), .int 2] S (some (.int (σ.1 46 k))) S := by
  have h := r_stay l hl G S q a γ σ hP k hk 2 (by decide)
  rw [mStay_2] at h
  exact h
theorem r_st3 (l : Launch) (hl : l.stackTraces = false) (G : gG) (S : sS) (q : Nat) (a : Nat → Nat) (γ : Nat → Nat → Int32) (σ : aS) (hP : PW S q a γ σ) (k : Nat) (hk : k < cN σ 43) : ChF l G yL_stay cL_stay 4 (Option.some FieldType.int) [(0, 6, 7, 30), (0, 6, 11, 16)] 8 0 0 [.ref q, .int (nI k), .int 3] S (some (.int (σ.1 47 k))) S := by
  have h := r_stay l hl G S q a γ σ hP k hk 3 (by decide)
  rw [mStay_3] at h
  exact h
theorem r_st4 (l : Launch) (hl : l.stackTraces = false) (G : gG) (S : sS) (q : Nat) (a : Nat → Nat) (γ : Nat → Nat → Int32) (σ : aS) (hP : PW S q a γ σ) (k : Nat) (hk : k < cN σ 43) : ChF l G yL_stay cL_stay 4 (Option.some FieldType.int) [(0, 6, 7, 30), (0, 6, 11, 16)] 8 0 0 [.ref q, .int (nI k), .int 4] S (some (.int (σ.1 48 k))) S := by
  have h := r_stay l hl G S q a γ σ hP k hk 4 (by decide)
  rw [mStay_4] at h
  exact h
