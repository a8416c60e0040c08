/-! THE REFERENCE'S CALLS AS FUNCTIONS OF ITS STATE: what is answered, the state behind it (number 56: what is thrown). -/
/-- the reference's part of S holds (A, B); nothing but the reference's cells has changed since S0 -/
def RF (S0 S : sS) (m : Nat) (A : Nat → Nat → Int32) (B : Nat → Int32) : Prop := RelR S m (A, B) ∧ Fr isM S0 S
theorem RF_0 {S : sS} {m : Nat} {σ : aS} (h : RelR S m σ) : RF S S m σ.1 σ.2 := ⟨h, Fr_rf⟩
theorem RF_I {S0 S : sS} {m : Nat} {A : Nat → Nat → Int32} {B : Nat → Int32} {f g : Nat} {v : Int32} (h : RF S0 S m A B) (hg : g = 900 + f) : RF S0 (pI S g m v) m A (up1 B f v) :=
  ⟨RelR_I h.1 f hg, Fr_tr h.2 (Fr_I (by rw [h.1.1]; exact Or.inl rfl))⟩
theorem RF_A {S0 S : sS} {m : Nat} {A : Nat → Nat → Int32} {B : Nat → Int32} {f a j : Nat} {v : Int32} (h : RF S0 S m A B) (hf : mArr f = true) (ha : sR S (900 + f) m = some a) : RF S0 (pA S a j v) m (up2 A f j v) B := by
  refine ⟨RelR_A h.1 f hf ha, Fr_tr h.2 (Fr_A ?_)⟩
  obtain ⟨a', a1, a2, -⟩ := h.1.2.1 f hf
  rw [ha] at a1
  cases a1
  rw [a2]
  exact mKd_M hf
def gT (x y z : Int32) : Int32 := if x = 0 then 1 else if y = 0 then 2 else if z = 0 then 3 else 0
def sT (σ : aS) (t : Int32) : aS := (σ.1, up1 σ.2 56 t)
/-- the contract of a call of the reference: answers v, the state is o behind it -/
def CtR (l : Launch) (G : gG) (y : MethodName) (cc : ByteArray) (mL : Nat) (ret : Option FieldType) (d : Nat) (av : List Value) (S : sS) (m : Nat) (v : Option Value) (o : aS) : Prop := Ct l G y cc mL ret d 0 0 av S (fun w T => w = v ∧ RF S T m o.1 o.2) (fun _ _ => False)
abbrev inP (v a b : Int32) : Prop := a ≤ v ∧ v ≤ b
noncomputable def tTells (σ : aS) (h s : Int32) : Nat → Int32
  | 0 => σ.2 27
  | n + 1 => if σ.1 28 n = h ∧ σ.1 29 n = s ∧ σ.1 30 n = σ.2 0 then nI n else tTells σ h s n
noncomputable def oTells (σ : aS) (h s a b u : Int32) : aS :=
  (up2 (up2 (up2 (up2 (up2 (up2 σ.1 28 (tTells σ h s (cN σ 27)).toNatClampNeg h) 29 (tTells σ h s (cN σ 27)).toNatClampNeg s) 30 (tTells σ h s (cN σ 27)).toNatClampNeg (σ.2 0)) 31 (tTells σ h s (cN σ 27)).toNatClampNeg a) 32 (tTells σ h s (cN σ 27)).toNatClampNeg b) 33 (tTells σ h s (cN σ 27)).toNatClampNeg u,
   up1 σ.2 27 (σ.2 27 + if tTells σ h s (cN σ 27) = σ.2 27 then 1 else 0))
noncomputable def tHomeQ (σ : aS) (h : Int32) (P : Prop) : Int32 := gT (bI (0 ≤ h ∧ h ≤ σ.2 20 - 1)) (pI9 P) 1
noncomputable def oApprove (σ : aS) (h a b u : Int32) : aS := if tHomeQ σ h (inP a 0 17 ∧ inP b a 17 ∧ inP u 0 20000) = 0 then oTells (sT σ 0) h 0 a b u else sT σ (tHomeQ σ h (inP a 0 17 ∧ inP b a 17 ∧ inP u 0 20000))
noncomputable def oTrain (σ : aS) (h a u : Int32) : aS := if tHomeQ σ h (inP a 0 15 ∧ inP u 0 20000) = 0 then oTells (sT σ 0) h 1 a 0 u else sT σ (tHomeQ σ h (inP a 0 15 ∧ inP u 0 20000))
noncomputable def oRest (σ : aS) (h a u : Int32) : aS := if tHomeQ σ h (inP a (σ.2 0) 20000 ∧ inP u a 20000) = 0 then oTells (sT σ 0) h 2 a 0 u else sT σ (tHomeQ σ h (inP a (σ.2 0) 20000 ∧ inP u a 20000))
noncomputable def tChild (σ : aS) (a b c d e : Int32) : Int32 := gT (pI9 (inP a 0 7000 ∧ inP b 0 15 ∧ inP c 0 7 ∧ inP d 0 50 ∧ inP e 0 3)) (bI (σ.2 1 < 16)) 1
noncomputable def oChild (σ : aS) (a b c d e : Int32) : Int32 × aS := if tChild σ a b c d e = 0 then
  (σ.2 1 + 1 - 1, (up2 (up2 (up2 (up2 (up2 (up2 (up2 (up2 (up2 σ.1 2 (cN σ 1) a) 3 (cN σ 1) (σ.2 0)) 4 (cN σ 1) b) 5 (cN σ 1) c) 6 (cN σ 1) d) 7 (cN σ 1) e) 8 (cN σ 1) (mLeast σ)) 9 (cN σ 1) (-1)) 10 (cN σ 1) (-1), up1 (up1 σ.2 56 0) 1 (σ.2 1 + 1)))
  else (0, sT σ (tChild σ a b c d e))
noncomputable def tHome (σ : aS) (a b c : Int32) : Int32 := gT (pI9 (inP a 0 50 ∧ inP b 0 3 ∧ inP c 1 5)) (bI (σ.2 20 < 10)) 1
noncomputable def oHome (σ : aS) (a b c : Int32) : Int32 × aS := if tHome σ a b c = 0 then
  (σ.2 20 + 1 - 1, (up2 (up2 (up2 σ.1 21 (cN σ 20) a) 22 (cN σ 20) b) 23 (cN σ 20) c, up1 (up1 σ.2 56 0) 20 (σ.2 20 + 1))) else (0, sT σ (tHome σ a b c))
