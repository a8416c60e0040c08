/-! THE REFERENCE: visits, came, pay, owed, handOver, load, blacken, thrown. -/
/-- booleans are 0 and 1 -/
def IZ (σ : aS) : Prop := ∀ f j, mZ f = true → j < mLen f → σ.1 f j = 0 ∨ σ.1 f j = 1
noncomputable def tVisits (σ : aS) (x v : Int32) : Int32 := gT (bI (chP σ x)) (bI (inP v 0 30)) 1
noncomputable def oVisits (σ : aS) (x v : Int32) : Int32 × aS := if tVisits σ x v = 0 then (σ.1 12 (nx x), (up2 σ.1 12 (nx x) v, up1 σ.2 56 0)) else (0, sT σ (tVisits σ x v))
noncomputable def tCame (σ : aS) (x : Int32) : Int32 := gT (bI (chP σ x)) (pI9 (chP σ x ∧ ¬ σ.1 10 (nx x) = -1)) 1
noncomputable def oCame (σ : aS) (x : Int32) : aS := if tCame σ x = 0 then (up2 σ.1 13 (nx x) 1, up1 σ.2 56 0) else sT σ (tCame σ x)
noncomputable def tPay (σ : aS) (h v : Int32) : Int32 := gT (bI (hoP σ h)) (bI (inP v 1 100000)) 1
noncomputable def oPay (σ : aS) (h v : Int32) : Int32 × aS := if tPay σ h v = 0 then (σ.1 24 (nx h) - (σ.1 25 (nx h) + v), (up2 σ.1 25 (nx h) (σ.1 25 (nx h) + v), up1 σ.2 56 0)) else (0, sT σ (tPay σ h v))
noncomputable def tH (σ : aS) (h : Int32) : Int32 := gT (bI (hoP σ h)) 1 1
noncomputable def oOwed (σ : aS) (h : Int32) : Int32 × aS := if tH σ h = 0 then (σ.1 24 (nx h) - σ.1 25 (nx h), sT σ 0) else (0, sT σ (tH σ h))
noncomputable def tHand (σ : aS) (x w : Int32) : Int32 := gT (pI9 (chP σ x ∧ inP w 0 4)) 1 1
noncomputable def oHand (σ : aS) (x w : Int32) : Int32 × aS := if tHand σ x w = 0 then (σ.1 8 (nx x), (up2 σ.1 8 (nx x) w, up1 σ.2 56 0)) else (0, sT σ (tHand σ x w))
noncomputable def tLoad (σ : aS) (w : Int32) : Int32 := gT (bI (inP w 0 4)) 1 1
noncomputable def oLoad (σ : aS) (w : Int32) : Int32 × aS := if tLoad σ w = 0 then (mLoad (sT σ 0) w, sT σ 0) else (0, sT σ (tLoad σ w))
noncomputable def oBlacken (σ : aS) (h b : Int32) : Int32 × aS := if tH σ h = 0 then (σ.1 26 (nx h), (up2 σ.1 26 (nx h) b, up1 σ.2 56 0)) else (0, sT σ (tH σ h))
