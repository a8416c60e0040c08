/-! ROWS OF THE REFERENCE'S OWN CELLS, the store kept closed: what is known of it is RF alone. -/
theorem RF_tr {S0 S1 T : sS} {m : Nat} {A A' : Nat → Nat → Int32} {B B' : Nat → Int32} (h1 : RF S0 S1 m A B) (h2 : RF S1 T m A' B') : RF S0 T m A' B' := ⟨h2.1, Fr_tr h1.2 h2.2⟩
theorem mLen_lt (f : Nat) : mLen f < 2 ^ 31 := by
  unfold mLen
  repeat' split
  all_goals decide
theorem RF_eq {S0 S : sS} {m : Nat} {A A' : Nat → Nat → Int32} {B B' : Nat → Int32} (h : RF S0 S m A B) (h1 : A = A') (h2 : B = B') : RF S0 S m A' B' := h1 ▸ h2 ▸ h
section VMR
variable {X : xX} {G : gG} {own : String} {cc : ByteArray} {nL : Nat} {ret : Option FieldType} {rm : Room} {tb : List ExceptionTableEntry} {Q : State → Prop} {k n pc : Nat} {lo : lO} {st : List Value} {S S0 : sS} {m : Nat} {A : Nat → Nat → Int32} {B : Nat → Int32}
theorem V_genT (h : RF S0 S m A B) (kk : ∀ T, RF S0 T m A B → V X G nL Q k n pc lo st T) : V X G nL Q k n pc lo st S := kk S h
theorem V_mArr (C : Cx X G own cc nL ret rm tb) (kf : Nat) {idx : Nat} (hRF : RF S0 S m A B) (hf : mArr kf = true) (hL : fL own idx 9 kf) (hr : fRef (100 * 9 + kf) = true) (d : decode cc pc = .ok (.getfield idx, 3)) (kk : ∀ a, sR S (900 + kf) m = some a → V X G nL Q k n (pc + 3) lo (.ref a :: st) S) : V X G nL Q k n pc lo (.ref m :: st) S := by
  obtain ⟨a, h1, -⟩ := hRF.1.2.1 kf hf
  exact V_getS C 9 kf rfl cf_9 hL (by decide) hr d hRF.1.1 h1 (kk a h1)
theorem V_mNum (C : Cx X G own cc nL ret rm tb) (kf : Nat) {idx : Nat} {v : Int32} (hRF : RF S0 S m A B) (hL : fL own idx 9 kf) (hr : fRef (100 * 9 + kf) = false) (d : decode cc pc = .ok (.getfield idx, 3)) (hv : B kf = v) (kk : V X G nL Q k n (pc + 3) lo (.int v :: st) S) : V X G nL Q k n pc lo (.ref m :: st) S :=
  V_getIe C 9 kf rfl cf_9 hL (by decide) hr d hRF.1.1 ((hRF.1.2.2 kf).trans hv) kk
theorem V_mLd (C : Cx X G own cc nL ret rm tb) (f : Nat) {a j : Nat} {v : Int32} (hRF : RF S0 S m A B) (hf : mArr f = true) (hz : mZ f = false) (ha : sR S (900 + f) m = some a) (hj : j < mLen f) (hv : A f j = v) (d : decode cc pc = .ok (.iaload, 1)) (kk : V X G nL Q k n (pc + 1) lo (.int v :: st) S) : V X G nL Q k n pc lo (.int (nI j) :: .ref a :: st) S := by
  obtain ⟨a', h1, h2, h3, h4⟩ := hRF.1.2.1 f hf
  rw [ha] at h1
  cases h1
  refine V_ialdE C h2 ⟨by unfold mKd; omega, by unfold mKd; rw [hz]; simp only [Bool.false_eq_true, if_false]; omega⟩ h3 h4 hj (mLen_lt f) d ?_
  rw [show ((A, B) : aS).1 f j = v from hv]
  exact kk
theorem V_mLdZ (C : Cx X G own cc nL ret rm tb) (f : Nat) {a j : Nat} {v : Int32} (hRF : RF S0 S m A B) (hf : mArr f = true) (hz : mZ f = true) (ha : sR S (900 + f) m = some a) (hj : j < mLen f) (hv : A f j = v) (d : decode cc pc = .ok (.baload, 1)) (kk : V X G nL Q k n (pc + 1) lo (.int v :: st) S) : V X G nL Q k n pc lo (.int (nI j) :: .ref a :: st) S := by
  obtain ⟨a', h1, h2, h3, h4⟩ := hRF.1.2.1 f hf
  rw [ha] at h1
  cases h1
  refine V_zaldE C h2 ⟨by unfold mKd; omega, by unfold mKd; rw [hz]; simp only [if_true]; omega⟩ h3 h4 hj (mLen_lt f) d ?_
  rw [show ((A, B) : aS).1 f j = v from hv]
  exact kk
theorem V_mSt (C : Cx X G own cc nL ret rm tb) (f : Nat) {a j : Nat} {v : Int32} (hRF : RF S0 S m A B) (hf : mArr f = true) (hz : mZ f = false) (ha : sR S (900 + f) m = some a) (hj : j < mLen f) (d : decode cc pc = .ok (.iastore, 1)) (kk : ∀ T, RF S0 T m (up2 A f j v) B → V X G nL Q k n (pc + 1) lo st T) : V X G nL Q k n pc lo (.int v :: .int (nI j) :: .ref a :: st) S := by
  obtain ⟨a', h1, h2, h3, h4⟩ := hRF.1.2.1 f hf
  rw [ha] at h1
  cases h1
  exact V_iastE C h2 ⟨by unfold mKd; omega, by unfold mKd; rw [hz]; simp only [Bool.false_eq_true, if_false]; omega⟩ h3 hj (mLen_lt f) d (kk _ (RF_A hRF hf ha))
theorem V_mStZ (C : Cx X G own cc nL ret rm tb) (f : Nat) {a j : Nat} {v : Int32} (hRF : RF S0 S m A B) (hf : mArr f = true) (hz : mZ f = true) (ha : sR S (900 + f) m = some a) (hj : j < mLen f) (h01 : v = 0 ∨ v = 1) (d : decode cc pc = .ok (.bastore, 1)) (kk : ∀ T, RF S0 T m (up2 A f j v) B → V X G nL Q k n (pc + 1) lo st T) : V X G nL Q k n pc lo (.int v :: .int (nI j) :: .ref a :: st) S := by
  obtain ⟨a', h1, h2, h3, h4⟩ := hRF.1.2.1 f hf
  rw [ha] at h1
  cases h1
  exact V_zastE C h2 ⟨by unfold mKd; omega, by unfold mKd; rw [hz]; simp only [if_true]; omega⟩ h3 hj (mLen_lt f) h01 d (kk _ (RF_A hRF hf ha))
theorem V_mPut (C : Cx X G own cc nL ret rm tb) (kf : Nat) {idx : Nat} {v : Int32} (hRF : RF S0 S m A B) (hL : pL own idx 9 kf false .int) (hr : fRef (100 * 9 + kf) = false) (d : decode cc pc = .ok (.putfield idx, 3)) (kk : ∀ T, RF S0 T m A (up1 B kf v) → V X G nL Q k n (pc + 3) lo st T) : V X G nL Q k n pc lo (.int v :: .ref m :: st) S :=
  V_putI C 9 kf rfl cf_9 hL (by decide) hr d hRF.1.1 (kk _ (RF_I hRF rfl))
end VMR
