/-! THE LAW: one contract for the placing of all. -/
theorem paA_o {σ : aS} {kin : Int32} (hI : IC σ) {f : Nat} (hf : f < 49) : paA σ kin f = σ.1 f := by
  by_cases h5 : (paC σ kin).1 ≤ 5
  · rw [paA, iteP_t h5]
    obtain ⟨-, p2⟩ := paF_p (σ := σ) (kin := kin) hI
    rw [p2 f (by omega) (by omega) (by omega) (by omega) (by omega)]
    exact paC_o (by omega)
  · rw [paA, iteP_f h5]; exact paC_o (by omega)
theorem u_placeAll (l : Launch) (hl : l.stackTraces = false) (G : gG) (S : sS) (ad : Nat → Nat → Nat) (σ : aS) (hC : RelC S ad σ) (hG : GU S ad) (hW : IW σ) (x : Int32) : CU [eA, eS] l G yX8_placeAll cX8_placeAll 6 (Option.some FieldType.int) 8 40 400 [.int x] S ad (paT σ x) (some (.int (oPlaceAll σ x).1)) (oPlaceAll σ x).2 := by
  obtain ⟨wI, wS, wZ, wO, wN, wP, wQ, wT, wR, wA, wE, wD, wB⟩ := hW
  have thr : ∀ {T : sS} {t : Int32}, RelC T ad σ → RelC T ad (paA σ x, up1 (up1 σ.2 49 (nI (paC σ x).1)) 56 t) := fun {T t} h => RelC_56 (RelC_49 (RelC_49f (A := σ.1) (B := σ.2) h fun f hf => paA_o wI (by omega)))
  by_cases h : inP x 0 7
  · refine Ct_to (c_X8_placeAll l hl G S ad σ hC wI wS wO wP wB hG x h) (fun w T hT => ?_) (fun E T hT => ?_)
    · obtain ⟨hY, hw, ad', ⟨h8, h27⟩, hR, hF, g⟩ := hT
      have e : paT σ x = 0 := gT_0 (bI_ne.mpr h) hY (by decide)
      have eo : oPlaceAll σ x = bRun (paC σ x).1 0 (paA σ x, up1 (up1 σ.2 49 (nI (paC σ x).1)) 56 0) 0 := iteP_t e
      exact ⟨e, by rw [hw, eo], ad', h8, by rw [eo]; exact hR, fun j hj => by rw [h27]; exact g j hj, hF⟩
    · obtain ⟨hY, hE, hR, hF, g⟩ := hT
      have e : paT σ x = 2 := gT_2 (bI_ne.mpr h) hY
      have eo : oPlaceAll σ x = (0, (paA σ x, up1 (up1 σ.2 49 (nI (paC σ x).1)) 56 (paT σ x))) := iteP_f (by rw [e]; decide)
      exact ⟨Or.inr (Or.inl ⟨e, by rw [hE]; rfl⟩), ad, rfl, by rw [eo]; exact thr hR, g, hF⟩
  · have e : paT σ x = 1 := gT_1 (bI_eq.mpr h)
    have eo : oPlaceAll σ x = (0, (paA σ x, up1 (up1 σ.2 49 (nI (paC σ x).1)) 56 (paT σ x))) := iteP_f (by rw [e]; decide)
    refine Ct_to (c_X8_placeAllY l hl G S ad σ hC x h) (fun _ _ z => z.elim) (fun E T hT => ?_)
    obtain ⟨hE, rfl⟩ := hT
    exact ⟨Or.inl ⟨e, by rw [hE]; rfl⟩, ad, rfl, by rw [eo]; exact thr hC, hG, Fr_rf⟩

