/-! THE REFERENCE'S CALLS AS FUNCTIONS OF ITS STATE: what is answered, the state behind it (number 56: what is thrown). -/
def gT (x y z : Int32) : Int32 := if x = 0 then 1 else if y = 0 then 2 else if z = 0 then 3 else 0
def sT (σ : aS) (t : Int32) : aS := (σ.1, up1 σ.2 56 t)
abbrev inP (v a b : Int32) : Prop := a ≤ v ∧ v ≤ b
noncomputable def tTells (σ : aS) (h s : Int32) : Nat → Int32
  | 0 => σ.2 27
  | n + 1 => if σ.1 28 n = h ∧ σ.1 29 n = s ∧ σ.1 30 n = σ.2 0 then nI n else tTells σ h s n
noncomputable def oTells (σ : aS) (h s a b u : Int32) : aS :=
  (up2 (up2 (up2 (up2 (up2 (up2 σ.1 28 (tTells σ h s (cN σ 27)).toNatClampNeg h) 29 (tTells σ h s (cN σ 27)).toNatClampNeg s) 30 (tTells σ h s (cN σ 27)).toNatClampNeg (σ.2 0)) 31 (tTells σ h s (cN σ 27)).toNatClampNeg a) 32 (tTells σ h s (cN σ 27)).toNatClampNeg b) 33 (tTells σ h s (cN σ 27)).toNatClampNeg u,
   up1 σ.2 27 (σ.2 27 + if tTells σ h s (cN σ 27) = σ.2 27 then 1 else 0))
noncomputable def tHomeQ (σ : aS) (h : Int32) (P : Prop) : Int32 := gT (bI (0 ≤ h ∧ h ≤ σ.2 20 - 1)) (pI9 P) 1
noncomputable def oApprove (σ : aS) (h a b u : Int32) : aS := if tHomeQ σ h (inP a 0 17 ∧ inP b a 17 ∧ inP u 0 20000) = 0 then oTells (sT σ 0) h 0 a b u else sT σ (tHomeQ σ h (inP a 0 17 ∧ inP b a 17 ∧ inP u 0 20000))
noncomputable def oTrain (σ : aS) (h a u : Int32) : aS := if tHomeQ σ h (inP a 0 15 ∧ inP u 0 20000) = 0 then oTells (sT σ 0) h 1 a 0 u else sT σ (tHomeQ σ h (inP a 0 15 ∧ inP u 0 20000))
noncomputable def oRest (σ : aS) (h a u : Int32) : aS := if tHomeQ σ h (inP a (σ.2 0) 20000 ∧ inP u a 20000) = 0 then oTells (sT σ 0) h 2 a 0 u else sT σ (tHomeQ σ h (inP a (σ.2 0) 20000 ∧ inP u a 20000))
noncomputable def tChild (σ : aS) (a b c d e : Int32) : Int32 := gT (pI9 (inP a 0 7000 ∧ inP b 0 15 ∧ inP c 0 7 ∧ inP d 0 50 ∧ inP e 0 3)) (bI (σ.2 1 < 16)) 1
noncomputable def oChild (σ : aS) (a b c d e : Int32) : Int32 × aS := if tChild σ a b c d e = 0 then
  (σ.2 1 + 1 - 1, (up2 (up2 (up2 (up2 (up2 (up2 (up2 (up2 (up2 σ.1 2 (cN σ 1) a) 3 (cN σ 1) (σ.2 0)) 4 (cN σ 1) b) 5 (cN σ 1) c) 6 (cN σ 1) d) 7 (cN σ 1) e) 8 (cN σ 1) (mLeast σ)) 9 (cN σ 1) (-1)) 10 (cN σ 1) (-1), up1 (up1 σ.2 56 0) 1 (σ.2 1 + 1)))
  else (0, sT σ (tChild σ a b c d e))
noncomputable def tHome (σ : aS) (a b c : Int32) : Int32 := gT (pI9 (inP a 0 50 ∧ inP b 0 3 ∧ inP c 1 5)) (bI (σ.2 20 < 10)) 1
noncomputable def oHome (σ : aS) (a b c : Int32) : Int32 × aS := if tHome σ a b c = 0 then
  (σ.2 20 + 1 - 1, (up2 (up2 (up2 σ.1 21 (cN σ 20) a) 22 (cN σ 20) b) 23 (cN σ 20) c, up1 (up1 σ.2 56 0) 20 (σ.2 20 + 1))) else (0, sT σ (tHome σ a b c))

