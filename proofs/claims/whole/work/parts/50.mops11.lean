/-! THE REFERENCE: placeAll. -/
theorem oEnds_o {σ : aS} {k f : Nat} (h1 : f ≠ 10) (h2 : f ≠ 47) : (oEnds σ k).1 f = σ.1 f := by
  unfold oEnds
  split
  · rfl
  · exact (up2_far h1).trans (up2_far h2)
theorem oBeg_o {σ : aS} {k f : Nat} {h : Int32} (h1 : f ≠ 10) (h2 : f ≠ 11) (h3 : f ≠ 13) (h4 : f ≠ 44) (h5 : f ≠ 45) (h6 : f ≠ 46) (h7 : f ≠ 47) (h8 : f ≠ 48) : (oBegins σ k h).2.1 f = σ.1 f :=
  (up2_far h3).trans ((up2_far h2).trans ((up2_far h1).trans ((up2_far h8).trans ((up2_far h7).trans ((up2_far h6).trans ((up2_far h5).trans ((up2_far h4).trans (oEnds_o h1 h7))))))))
theorem IC_43 {A : Nat → Nat → Int32} {B : Nat → Int32} (h : IC (A, B)) (hd : cN (A, B) 43 < 100) : IC (A, up1 B 43 (B 43 + 1)) ∧ cN (A, up1 B 43 (B 43 + 1)) 43 = cN (A, B) 43 + 1 := by
  obtain ⟨a1, a2, a3, a4, a5, a6, a7, a8⟩ := h
  have e : B 43 + 1 = nI (cN (A, B) 43 + 1) := by
    have q : B 43 = nI (cN (A, B) 43) := a6.1
    rw [q, nI_1]
  have e2 : cN (A, up1 B 43 (B 43 + 1)) 43 = cN (A, B) 43 + 1 := by
    show (up1 B 43 (B 43 + 1) 43).toNatClampNeg = _
    rw [up1_s, e, nI_clamp (by omega)]
  refine ⟨⟨a1, a2, a3, a4, a5, ⟨by rw [e2]; show up1 B 43 (B 43 + 1) 43 = _; rw [up1_s, e], by omega⟩, a7, fun k hk => ?_⟩, e2⟩
  rcases a8 k hk with q | ⟨j, hj, q⟩
  · exact Or.inl q
  · exact Or.inr ⟨j, by omega, q⟩
theorem IC_10s {A : Nat → Nat → Int32} {B : Nat → Int32} {k n : Nat} (h : IC (A, B)) (hn : n < cN (A, B) 43) : IC (up2 A 10 k (nI n), B) := by
  obtain ⟨a1, a2, a3, a4, a5, a6, a7, a8⟩ := h
  refine ⟨a1, a2, a3, a4, a5, a6, fun i hi => ?_, fun i hi => ?_⟩
  · have e : ∀ i, up2 A 10 k (nI n) 34 i = A 34 i := fun i => up2_n1 (by decide)
    have := a7 i hi
    simp only [rN, e] at this ⊢
    exact this
  · by_cases q : i = k
    · subst q
      exact Or.inr ⟨n, hn, up2_s⟩
    · have e : up2 A 10 k (nI n) 10 i = A 10 i := up2_n2 q
      have := a8 i hi
      simp only [e]
      exact this
theorem IC_begins {σ : aS} {k : Nat} {h : Int32} (hI : IC σ) (hc : cN σ 43 < 100) : IC (oBegins σ k h).2 ∧ cN (oBegins σ k h).2 43 = cN σ 43 + 1 := by
  have q := IC_43 (IC_beg1 (k := k) (n := cN σ 43) (h := h) hI) hc
  refine ⟨?_, q.2⟩
  exact IC_A (IC_A (IC_10s (IC_A q.1 (by decide) (by decide)) (show cN σ 43 < _ from by rw [show cN (up2 (oBeg1 σ k (cN σ 43) h).1 48 (cN σ 43) (mCounts (oBeg1 σ k (cN σ 43) h) (nI k) (σ.2 0)), up1 σ.2 43 (σ.2 43 + 1)) 43 = cN σ 43 + 1 from q.2]; exact Nat.lt_succ_self _)) (by decide) (by decide)) (by decide) (by decide)
theorem IS_begins {σ : aS} {k w : Nat} (hI : IC σ) (hS : IS σ) (hc : cN σ 43 < 100) (hk : k < cN σ 1) (hw : w < cN σ 20) : IS (oBegins σ k (nI w)).2 := by
  intro j hj
  rw [(IC_begins hI hc).2] at hj
  have e44 : (oBegins σ k (nI w)).2.1 44 = up2 (oEnds σ k).1 44 (cN σ 43) (nI k) 44 := by
    unfold oBegins oBeg1
    dsimp only
    simp only [up2_far (show (44 : Nat) ≠ 13 by decide), up2_far (show (44 : Nat) ≠ 11 by decide), up2_far (show (44 : Nat) ≠ 10 by decide), up2_far (show (44 : Nat) ≠ 48 by decide), up2_far (show (44 : Nat) ≠ 47 by decide), up2_far (show (44 : Nat) ≠ 46 by decide), up2_far (show (44 : Nat) ≠ 45 by decide)]
  have e45 : (oBegins σ k (nI w)).2.1 45 = up2 (up2 (oEnds σ k).1 44 (cN σ 43) (nI k)) 45 (cN σ 43) (nI w) 45 := by
    unfold oBegins oBeg1
    dsimp only
    simp only [up2_far (show (45 : Nat) ≠ 13 by decide), up2_far (show (45 : Nat) ≠ 11 by decide), up2_far (show (45 : Nat) ≠ 10 by decide), up2_far (show (45 : Nat) ≠ 48 by decide), up2_far (show (45 : Nat) ≠ 47 by decide), up2_far (show (45 : Nat) ≠ 46 by decide)]
  rw [e44, e45]
  by_cases q : j = cN σ 43
  · subst q
    exact ⟨⟨k, hk, up2_s⟩, ⟨w, hw, up2_s⟩⟩
  · rw [up2_n2 q, up2_n2 q, up2_n1 (by decide), show (oEnds σ k).1 44 = σ.1 44 from oEnds_o (by decide) (by decide), show (oEnds σ k).1 45 = σ.1 45 from oEnds_o (by decide) (by decide)]
    exact hS j (by omega)
def cntU (n : Nat) (a : Nat → Int32) : Nat → Nat
  | 0 => 0
  | k + 1 => cntU n a k + if a k < nI n then 1 else 0
theorem cntU_le {n : Nat} {a : Nat → Int32} : ∀ {t k : Nat}, cntU n a k ≤ cntU n a (k + t)
  | 0, _ => Nat.le_refl _
  | t + 1, k => by
    have := cntU_le (n := n) (a := a) (t := t) (k := k)
    show _ ≤ cntU n a (k + t) + _
    omega
theorem cntU_le2 {n : Nat} {a : Nat → Int32} : ∀ k, cntU n a k ≤ k
  | 0 => Nat.le_refl _
  | k + 1 => by
    have := cntU_le2 (n := n) (a := a) k
    show cntU n a k + (if a k < nI n then 1 else 0) ≤ k + 1
    split <;> omega
theorem plc_cnt {n : Nat} {a : Nat → Int32} : ∀ k, plc (nI n) a k = nI (cntU n a k)
  | 0 => rfl
  | k + 1 => by
    by_cases q : a k < nI n
    · rw [plc_t q, plc_cnt k, nI_1]
      show _ = nI (cntU n a k + if a k < nI n then 1 else 0)
      rw [if_pos q]
    · rw [plc_f q, plc_cnt k, Int32.add_zero]
      show _ = nI (cntU n a k + if a k < nI n then 1 else 0)
      rw [if_neg q]; rfl
noncomputable def paC (σ : aS) (kin : Int32) : Nat × (Nat → Nat → Int32) := iteP (inP kin 0 7) (cw σ kin (cN σ 1)) (0, σ.1)
noncomputable def paF (σ : aS) (kin : Int32) : Int32 × (Nat → Nat → Int32) := oFinds ((paC σ kin).2, up1 σ.2 49 (nI (paC σ kin).1)) (paC σ kin).1
noncomputable def paY (σ : aS) (kin : Int32) : Int32 := iteP ((paC σ kin).1 ≤ 5) (pI9 (σ.2 43 + (paF σ kin).1 ≤ 100)) 0
noncomputable def paA (σ : aS) (kin : Int32) : Nat → Nat → Int32 := iteP ((paC σ kin).1 ≤ 5) (paF σ kin).2 (paC σ kin).2
noncomputable def paT (σ : aS) (kin : Int32) : Int32 := gT (bI (inP kin 0 7)) (paY σ kin) 1
noncomputable def bRun : Nat → Nat → aS → Int32 → Int32 × aS
  | 0, _, τ, pl => (pl, τ)
  | t + 1, k, τ, pl => iteP (τ.1 52 k < τ.2 20) (bRun t (k + 1) (oBegins τ (nx (τ.1 50 k)) (τ.1 52 k)).2 (pl + 1)) (bRun t (k + 1) τ pl)
noncomputable def oPlaceAll (σ : aS) (kin : Int32) : Int32 × aS := iteP (paT σ kin = 0) (bRun (paC σ kin).1 0 (paA σ kin, up1 (up1 σ.2 49 (nI (paC σ kin).1)) 56 0) 0) (0, (paA σ kin, up1 (up1 σ.2 49 (nI (paC σ kin).1)) 56 (paT σ kin)))
theorem paC_le (σ : aS) (kin : Int32) : (paC σ kin).1 ≤ cN σ 1 := by
  by_cases q : inP kin 0 7
  · rw [paC, iteP_t q]; exact cw_le σ kin _
  · rw [paC, iteP_f q]; exact Nat.zero_le _
theorem paC_w {σ : aS} {kin : Int32} (h5 : (paC σ kin).1 ≤ 5) : ∀ k, k < (paC σ kin).1 → ∃ c, c < cN σ 1 ∧ (paC σ kin).2 50 k = nI c := by
  by_cases q : inP kin 0 7
  · rw [paC, iteP_t q] at h5 ⊢
    exact fun k hk => cw_w σ kin _ k hk (by omega)
  · rw [paC, iteP_f q]
    exact fun k hk => absurd hk (Nat.not_lt_zero k)
theorem paC_I {σ : aS} {kin : Int32} (h : IC σ) : IC ((paC σ kin).2, σ.2) := by
  by_cases q : inP kin 0 7
  · rw [paC, iteP_t q]; exact IC_cw h _
  · rw [paC, iteP_f q]; exact h
theorem paF_p {σ : aS} {kin : Int32} (hI : IC σ) : keepsW (cN σ 20) (paC σ kin).1 (paF σ kin).2 (paF σ kin).1 ∧ ∀ g, g ≠ 51 → g ≠ 52 → g ≠ 53 → g ≠ 54 → g ≠ 55 → (paF σ kin).2 g = (paC σ kin).2 g := by
  have r := srch_p (B := up1 σ.2 49 (nI (paC σ kin).1)) (n := cN σ 20) (M := (paC σ kin).1) hI.2.2.1.1 hI.2.2.1.2 ((cN σ 20 + 1) ^ (paC σ kin).1) (fil2 ((paC σ kin).2, up1 σ.2 49 (nI (paC σ kin).1)) (paC σ kin).1) (-1) 0
    (fun i hi => ⟨0, Nat.zero_le _, fil2_51 _ i hi⟩) (by
      have h0 : ∀ c, c ≤ (paC σ kin).1 → rk (cN σ 20) (fil2 ((paC σ kin).2, up1 σ.2 49 (nI (paC σ kin).1)) (paC σ kin).1 51) c = 0 := by
        intro c
        induction c with
        | zero => exact fun _ => rfl
        | succ c ihc =>
          intro hc
          show rk (cN σ 20) (fil2 ((paC σ kin).2, up1 σ.2 49 (nI (paC σ kin).1)) (paC σ kin).1 51) c * (cN σ 20 + 1) + nx (fil2 ((paC σ kin).2, up1 σ.2 49 (nI (paC σ kin).1)) (paC σ kin).1 51 c) = 0
          rw [ihc (by omega), fil2_51 _ c (by omega), Nat.zero_mul]
          rfl
      rw [h0 _ (Nat.le_refl _), Nat.zero_add]) (Or.inl rfl)
  exact ⟨r.1, fun g g1 g2 g3 g4 g5 => (r.2 g g1 g2).trans (fil2_o g1 g3 g4 g5 _)⟩
theorem c_X9_placeAll (l : Launch) (hl : l.stackTraces = false) (G : gG) (S : sS) (m : Nat) (σ : aS) (hR : RelR S m σ) (hI : IC σ) (kin : Int32) : CtR l G yX9_placeAll cX9_placeAll 6 (Option.some FieldType.int) 7 [.ref m, .int kin] S m (some (.int (oPlaceAll σ kin).1)) (oPlaceAll σ kin).2 := by
  have hm := hR.1
  have hRF := RF_0 hR
  obtain ⟨n, hn⟩ : ∃ n, n = cN σ 20 := ⟨_, rfl⟩
  have hn10 : n ≤ 10 := by rw [hn]; exact hI.2.2.1.2
  have en : σ.2 20 = nI n := by rw [hn]; exact hI.2.2.1.1
  obtain ⟨n1, hn1⟩ : ∃ n, n = cN σ 1 := ⟨_, rfl⟩
  have hn16 : n1 ≤ 16 := by rw [hn1]; exact hI.2.1.2
  have en1 : σ.2 1 = nI n1 := by rw [hn1]; exact hI.2.1.1
  obtain ⟨s, hs⟩ : ∃ n, n = cN σ 43 := ⟨_, rfl⟩
  have hs100 : s ≤ 100 := by rw [hs]; exact hI.2.2.2.2.2.1.2
  have es : σ.2 43 = nI s := by rw [hs]; exact hI.2.2.2.2.2.1.1
  obtain ⟨c, hc⟩ : ∃ c, c = (paC σ kin).1 := ⟨_, rfl⟩
  have hc16 : c ≤ 16 := by have := paC_le σ kin; omega
  refine Ct_of (by decide) (cat1_all (by repeat first | exact trivial | refine ⟨by first | rfl | exact isR_c (isR_q _), ?_⟩)) (Nat.le_of_ble_eq_true rfl) hl fun X C hXl hin => ?_
  subst hXl
  dsimp only [lArgs, Nat.reduceAdd]
  have loop : ∀ (a : Nat → Int32) (t k : Nat) (τ : aS) (pl : Int32) (T : sS) (hRF : RF S T m τ.1 τ.2) (hI : IC τ), k + t = c → c ≤ 5 → τ.2 49 = nI c → τ.2 20 = nI n → τ.2 1 = nI n1 → (∀ k, k < c → ∃ z, z < n1 ∧ τ.1 50 k = nI z) → τ.1 52 = a → dig n a c → cN τ 43 + cntU n a c ≤ 100 + cntU n a k → bRun t k τ pl = oPlaceAll σ kin → V X G 6 (eQ X G (fun v T => v = some (.int (oPlaceAll σ kin).1) ∧ RF S T m (oPlaceAll σ kin).2.1 (oPlaceAll σ kin).2.2) (fun _ _ => False) 0 0) 0 0 80 [(4, false, .int (nI k)), (3, false, .int pl), (2, false, .int (bI (inP kin 0 7))), (0, false, .ref m), (1, false, .int kin)] [] T := by
    intro a t
    induction t with
    | zero =>
      intro k τ pl T hRF hI hk hc5 e49 e20 e1 hw e52 hd hr e
      obtain rfl : k = c := by omega
      have e : (pl, τ) = oPlaceAll σ kin := e
      rw [← e]
      refine V_iload C dX9_placeAll_80 rfl ?_
      refine V_aload_n C dX9_placeAll_82 rfl (by first | exact isR_r _ | exact isR_q _ | exact isR_n) ?_
      refine V_mNum C 49 hRF fl_X9_259 (by decide) dX9_placeAll_83 e49 ?_
      refine V_igeN C (tgt := 132) (by omega) (by omega) dX9_placeAll_86 (by decide) (fun h86 => ?_) (fun h86 => ?_)
      · refine V_iload_n C dX9_placeAll_132 rfl ?_
        refine V_iret C (by first | omega | decide) (by first | omega | decide) dX9_placeAll_133 ?_
        exact ⟨rfl, hRF⟩
      · omega
    | succ t ih =>
      intro k τ pl T hRF hI hk hc5 e49 e20 e1 hw e52 hd hr e
      have hk5 : k < 5 := by omega
      obtain ⟨z, hz, ez⟩ := hw k (by omega)
      obtain ⟨w, hw2, ew⟩ := hd k (by omega)
      have ek52 : τ.1 52 k = nI w := by rw [e52]; exact ew
      have ecn1 : cN τ 1 = n1 := by unfold cN; rw [e1]; exact nI_clamp (by omega)
      have ecn20 : cN τ 20 = n := by unfold cN; rw [e20]; exact nI_clamp (by omega)
      have enz : nx (τ.1 50 k) = z := by rw [ez]; exact nI_clamp (by omega)
      have estep : cntU n a (k + 1) = cntU n a k + if nI w < nI n then 1 else 0 := by
        show cntU n a k + (if a k < nI n then 1 else 0) = _
        rw [ew]
      have emono : cntU n a (k + 1) ≤ cntU n a c := by
        have := cntU_le (n := n) (a := a) (t := t) (k := k + 1)
        rwa [show k + 1 + t = c by omega] at this
      by_cases q : w < n
      · have q' : nI w < nI n := (nI_ltI (by omega) (by omega)).mpr q
        rw [if_pos q'] at estep
        have hlt : cN τ 43 < 100 := by omega
        have e := (iteP_t (show τ.1 52 k < τ.2 20 by rw [ek52, e20]; exact q')).symm.trans e
        rw [enz, ek52] at e
        have hB := IC_begins (k := z) (h := nI w) hI hlt
        have eo : ∀ f, f ≠ 10 → f ≠ 11 → f ≠ 13 → f ≠ 44 → f ≠ 45 → f ≠ 46 → f ≠ 47 → f ≠ 48 → (oBegins τ z (nI w)).2.1 f = τ.1 f := fun f => oBeg_o
        refine V_iload C dX9_placeAll_80 rfl ?_
        refine V_aload_n C dX9_placeAll_82 rfl (by first | exact isR_r _ | exact isR_q _ | exact isR_n) ?_
        refine V_mNum C 49 hRF fl_X9_259 (by decide) dX9_placeAll_83 e49 ?_
        refine V_igeN C (tgt := 132) (by omega) (by omega) dX9_placeAll_86 (by decide) (fun h86 => ?_) (fun h86 => ?_)
        · omega
        · refine V_aload_n C dX9_placeAll_89 rfl (by first | exact isR_r _ | exact isR_q _ | exact isR_n) ?_
          refine V_mArr C 52 hRF rfl fl_X9_146 (by decide) dX9_placeAll_90 (fun a90 ha90 => ?_)
          refine V_iload C dX9_placeAll_93 rfl ?_
          refine V_mLd C 52 hRF rfl rfl ha90 (by first | assumption | (show _ < _; omega)) ek52 dX9_placeAll_95 ?_
          refine V_aload_n C dX9_placeAll_96 rfl (by first | exact isR_r _ | exact isR_q _ | exact isR_n) ?_
          refine V_mNum C 20 hRF fl_X9_169 (by decide) dX9_placeAll_97 e20 ?_
          refine V_igeN C (tgt := 126) (by omega) (by omega) dX9_placeAll_100 (by decide) (fun h100 => ?_) (fun h100 => ?_)
          · omega
          · refine V_aload_n C dX9_placeAll_103 rfl (by first | exact isR_r _ | exact isR_q _ | exact isR_n) ?_
            refine V_aload_n C dX9_placeAll_104 rfl (by first | exact isR_r _ | exact isR_q _ | exact isR_n) ?_
            refine V_mArr C 50 hRF rfl fl_X9_140 (by decide) dX9_placeAll_105 (fun a105 ha105 => ?_)
            refine V_iload C dX9_placeAll_108 rfl ?_
            refine V_mLd C 50 hRF rfl rfl ha105 (by first | assumption | (show _ < _; omega)) ez dX9_placeAll_110 ?_
            refine V_aload_n C dX9_placeAll_111 rfl (by first | exact isR_r _ | exact isR_q _ | exact isR_n) ?_
            refine V_mArr C 52 hRF rfl fl_X9_146 (by decide) dX9_placeAll_112 (fun a112 ha112 => ?_)
            refine V_iload C dX9_placeAll_115 rfl ?_
            refine V_mLd C 52 hRF rfl rfl ha112 (by first | assumption | (show _ < _; omega)) ek52 dX9_placeAll_117 ?_
            refine V_callV C (c_X9_begins _ hl G T m τ hRF.1 hI z (nI w) (by rw [ecn1]; exact hz) hlt) kv_X9_256 cf_9 (by decide) rfl hRF.1.1 (by decide) (by decide) rfl rfl (Nat.le_of_ble_eq_true rfl) dX9_placeAll_118 ?_ (fun _ _ h => h.elim)
            intro v9 T9 hT
            obtain ⟨rfl, hT⟩ := hT
            have hRF := RF_tr hRF hT
            dsimp only [Option.toList_some, Option.toList_none, List.cons_append, List.nil_append]
            refine V_istore C dX9_placeAll_121 (by decide) rfl ?_
            simp only [lset1, lset2, List.filter_cons, List.filter_nil, Nat.reduceBEq, Nat.reduceAdd, Bool.not_true, Bool.not_false, Bool.and_true, Bool.and_false, Bool.true_and, Bool.false_and, if_true, if_false, Bool.false_eq_true, reduceIte]
            refine V_iinc C dX9_placeAll_123 rfl rfl (by decide) rfl ?_
            simp only [lset1, lset2, List.filter_cons, List.filter_nil, Nat.reduceBEq, Nat.reduceAdd, Bool.not_true, Bool.not_false, Bool.and_true, Bool.and_false, Bool.true_and, Bool.false_and, if_true, if_false, Bool.false_eq_true, reduceIte]
            refine V_incN C dX9_placeAll_126 rfl (by decide) rfl ?_
            simp only [lset1, lset2, List.filter_cons, List.filter_nil, Nat.reduceBEq, Nat.reduceAdd, Bool.not_true, Bool.not_false, Bool.and_true, Bool.and_false, Bool.true_and, Bool.false_and, if_true, if_false, Bool.false_eq_true, reduceIte]
            refine V_goto C (tgt := 80) dX9_placeAll_129 (by decide) ?_
            refine V_sub ?_ (ih (k + 1) (oBegins τ z (nI w)).2 (pl + 1) _ hRF hB.1 (by omega) hc5 e49 e20 e1 (fun i hi => by rw [eo 50 (by decide) (by decide) (by decide) (by decide) (by decide) (by decide) (by decide) (by decide)]; exact hw i hi) ((eo 52 (by decide) (by decide) (by decide) (by decide) (by decide) (by decide) (by decide) (by decide)).trans e52) hd (by rw [hB.2]; omega) e)
            exact ⟨rfl, rfl, rfl, rfl, rfl, trivial⟩
      · have q' : ¬ nI w < nI n := fun z => q ((nI_ltI (by omega) (by omega)).mp z)
        rw [if_neg q'] at estep
        have e := (iteP_f (show ¬ τ.1 52 k < τ.2 20 by rw [ek52, e20]; exact q')).symm.trans e
        refine V_iload C dX9_placeAll_80 rfl ?_
        refine V_aload_n C dX9_placeAll_82 rfl (by first | exact isR_r _ | exact isR_q _ | exact isR_n) ?_
        refine V_mNum C 49 hRF fl_X9_259 (by decide) dX9_placeAll_83 e49 ?_
        refine V_igeN C (tgt := 132) (by omega) (by omega) dX9_placeAll_86 (by decide) (fun h86 => ?_) (fun h86 => ?_)
        · omega
        · refine V_aload_n C dX9_placeAll_89 rfl (by first | exact isR_r _ | exact isR_q _ | exact isR_n) ?_
          refine V_mArr C 52 hRF rfl fl_X9_146 (by decide) dX9_placeAll_90 (fun a90 ha90 => ?_)
          refine V_iload C dX9_placeAll_93 rfl ?_
          refine V_mLd C 52 hRF rfl rfl ha90 (by first | assumption | (show _ < _; omega)) ek52 dX9_placeAll_95 ?_
          refine V_aload_n C dX9_placeAll_96 rfl (by first | exact isR_r _ | exact isR_q _ | exact isR_n) ?_
          refine V_mNum C 20 hRF fl_X9_169 (by decide) dX9_placeAll_97 e20 ?_
          refine V_igeN C (tgt := 126) (by omega) (by omega) dX9_placeAll_100 (by decide) (fun h100 => ?_) (fun h100 => ?_)
          · refine V_incN C dX9_placeAll_126 rfl (by decide) rfl ?_
            simp only [lset1, lset2, List.filter_cons, List.filter_nil, Nat.reduceBEq, Nat.reduceAdd, Bool.not_true, Bool.not_false, Bool.and_true, Bool.and_false, Bool.true_and, Bool.false_and, if_true, if_false, Bool.false_eq_true, reduceIte]
            refine V_goto C (tgt := 80) dX9_placeAll_129 (by decide) ?_
            refine V_sub ?_ (ih (k + 1) τ pl T hRF hI (by omega) hc5 e49 e20 e1 hw e52 hd (by omega) e)
            exact ⟨rfl, rfl, rfl, rfl, rfl, trivial⟩
          · omega
  have J66 : ∀ (y : Int32) (A : Nat → Nat → Int32) (T : sS) (hRF : RF S T m A (up1 σ.2 49 (nI c))), y = paY σ kin → A = paA σ kin → V X G 6 (eQ X G (fun v T => v = some (.int (oPlaceAll σ kin).1) ∧ RF S T m (oPlaceAll σ kin).2.1 (oPlaceAll σ kin).2.2) (fun _ _ => False) 0 0) 0 0 66 [(2, false, .int (bI (inP kin 0 7))), (0, false, .ref m), (1, false, .int kin)] [.int y, .int (bI (inP kin 0 7)), .ref m] T := fun y A T hRF hy hA => by
    subst hy
    have et : gT (bI (inP kin 0 7)) (paY σ kin) 1 = paT σ kin := rfl
    refine V_iconst C (v := 1) dX9_placeAll_66 (by decide) ?_
    refine V_fV C (c_X9_goes _ hl G T m hRF.1.1 (bI (inP kin 0 7)) (paY σ kin) 1) kv_X9_179 cf_9 (by decide) rfl hRF.1.1 (by decide) (by decide) rfl rfl (Nat.le_of_ble_eq_true rfl) dX9_placeAll_67 ?_
    dsimp only [Option.toList_some, Option.toList_none, List.cons_append, List.nil_append]
    rw [et]
    refine V_genT (RF_I hRF (f := 56) rfl) (fun T hRF => ?_)
    refine V_if_ne C (tgt := 75) dX9_placeAll_70 (by decide) (fun h70 => ?_) (fun h70 => ?_)
    · have h0 := bI_ne.mp h70
      rw [h0] at hRF
      have hq := (gT_x (et.trans h0)).2.1
      have hc5 : c ≤ 5 := by
        refine Classical.byContradiction fun z => hq ?_
        exact iteP_f (hc ▸ z)
      have ey : paY σ kin = pI9 (σ.2 43 + (paF σ kin).1 ≤ 100) := iteP_t (hc ▸ hc5)
      have ea : A = (paF σ kin).2 := hA.trans (iteP_t (hc ▸ hc5))
      have hle := pI9_ne.mp (ey ▸ hq)
      obtain ⟨pK, pO⟩ := paF_p (kin := kin) hI
      rw [← hc, ← hn, ← ea] at pK
      have pI : IC (A, up1 (up1 σ.2 49 (nI c)) 56 0) := by
        rw [ea]
        exact IC_of (B := up1 (up1 σ.2 49 (nI c)) 56 0) (A := (paC σ kin).2) (paC_I hI) (pO 34 (by decide) (by decide) (by decide) (by decide) (by decide)) (pO 10 (by decide) (by decide) (by decide) (by decide) (by decide))
      have pW : ∀ k, k < c → ∃ z, z < n1 ∧ A 50 k = nI z := by
        rw [ea, pO 50 (by decide) (by decide) (by decide) (by decide) (by decide), hn1, hc]
        exact paC_w (hc ▸ hc5)
      have pRoom : cN σ 43 + cntU n (A 52) c ≤ 100 + cntU n (A 52) 0 := by
        have p2 := pK.2
        rw [plc_cnt] at p2
        rw [p2, es, nI_add, show (100 : Int32) = nI 100 from rfl] at hle
        have q9 := cntU_le2 (n := n) (a := A 52) c
        have q8 := (nI_leI (by omega) (by decide)).mp hle
        rw [← hs]
        omega
      refine V_iconst C (v := 0) dX9_placeAll_75 (by decide) ?_
      refine V_istore_n C dX9_placeAll_76 (by decide) rfl ?_
      simp only [lset1, lset2, List.filter_cons, List.filter_nil, Nat.reduceBEq, Nat.reduceAdd, Bool.not_true, Bool.not_false, Bool.and_true, Bool.and_false, Bool.true_and, Bool.false_and, if_true, if_false, Bool.false_eq_true, reduceIte]
      refine V_iconst C (v := 0) dX9_placeAll_77 (by decide) ?_
      refine V_istore C dX9_placeAll_78 (by decide) rfl ?_
      simp only [lset1, lset2, List.filter_cons, List.filter_nil, Nat.reduceBEq, Nat.reduceAdd, Bool.not_true, Bool.not_false, Bool.and_true, Bool.and_false, Bool.true_and, Bool.false_and, if_true, if_false, Bool.false_eq_true, reduceIte]
      refine V_sub ?_ (loop (A 52) c 0 (A, up1 (up1 σ.2 49 (nI c)) 56 0) 0 _ hRF pI (by omega) hc5 rfl en en1 pW rfl pK.1 pRoom ?_)
      exact ⟨rfl, rfl, rfl, rfl, rfl, trivial⟩
      rw [hA, hc]
      exact (iteP_t h0).symm
    · have h0 := bI_eq.mp h70
      refine V_iconst C (v := 0) dX9_placeAll_73 (by decide) ?_
      refine V_iret C (by first | omega | decide) (by first | omega | decide) dX9_placeAll_74 ?_
      unfold oPlaceAll
      rw [iteP_f h0, ← hc, ← hA]
      exact ⟨rfl, hRF⟩
  have J22 : ∀ (A : Nat → Nat → Int32) (T : sS) (hRF : RF S T m A σ.2), A = (paC σ kin).2 → V X G 6 (eQ X G (fun v T => v = some (.int (oPlaceAll σ kin).1) ∧ RF S T m (oPlaceAll σ kin).2.1 (oPlaceAll σ kin).2.2) (fun _ _ => False) 0 0) 0 0 22 [(2, false, .int (bI (inP kin 0 7))), (0, false, .ref m), (1, false, .int kin)] [.int (nI c), .ref m] T := fun A T hRF hA => by
    have pI : IC (A, up1 σ.2 49 (nI c)) := by
      rw [hA]
      exact paC_I hI
    by_cases h5 : c ≤ 5
    · have eF : oFinds (A, up1 σ.2 49 (nI c)) c = paF σ kin := by rw [hA, hc]; rfl
      have ea : (paF σ kin).2 = paA σ kin := (iteP_t (hc ▸ h5)).symm
      have ey : pI9 (σ.2 43 + (paF σ kin).1 ≤ 100) = paY σ kin := (iteP_t (hc ▸ h5)).symm
      refine V_mPut C 49 hRF pl_X9_259 (by decide) dX9_placeAll_22 (fun T hRF => ?_)
      refine V_aload_n C dX9_placeAll_25 rfl (by first | exact isR_r _ | exact isR_q _ | exact isR_n) ?_
      refine V_iload_n C dX9_placeAll_26 rfl ?_
      refine V_aload_n C dX9_placeAll_27 rfl (by first | exact isR_r _ | exact isR_q _ | exact isR_n) ?_
      refine V_mNum C 49 hRF fl_X9_259 (by decide) dX9_placeAll_28 up1_s ?_
      refine V_iconst C (v := 5) dX9_placeAll_31 (by decide) ?_
      rw [show (5 : Int32) = nI 5 from rfl]
      refine V_igtN C (tgt := 65) (by omega) (by omega) dX9_placeAll_32 (by decide) (fun h32 => ?_) (fun h32 => ?_)
      · omega
      · refine V_aload_n C dX9_placeAll_35 rfl (by first | exact isR_r _ | exact isR_q _ | exact isR_n) ?_
        refine V_mNum C 43 hRF fl_X9_253 (by decide) dX9_placeAll_36 (up1_n (by decide)) ?_
        refine V_aload_n C dX9_placeAll_39 rfl (by first | exact isR_r _ | exact isR_q _ | exact isR_n) ?_
        refine V_mNum C 49 hRF fl_X9_259 (by decide) dX9_placeAll_40 up1_s ?_
        refine V_iconst C (v := 5) dX9_placeAll_43 (by decide) ?_
        rw [show (5 : Int32) = nI 5 from rfl]
        refine V_igtN C (tgt := 54) (by omega) (by omega) dX9_placeAll_44 (by decide) (fun h44 => ?_) (fun h44 => ?_)
        · omega
        · refine V_aload_n C dX9_placeAll_47 rfl (by first | exact isR_r _ | exact isR_q _ | exact isR_n) ?_
          refine V_callV C (c_X9_finds _ hl G _ m (A, up1 σ.2 49 (nI c)) hRF.1 pI c h5 (show up1 σ.2 49 (nI c) 49 = nI c from up1_s) (by rw [hA, hc]; exact paC_w (hc ▸ h5))) kv_X9_273 cf_9 (by decide) rfl hRF.1.1 (by decide) (by decide) rfl rfl (Nat.le_of_ble_eq_true rfl) dX9_placeAll_48 ?_ (fun _ _ h => h.elim)
          intro v9 T9 hT
          obtain ⟨rfl, hT⟩ := hT
          have hRF := RF_tr hRF hT
          dsimp only [Option.toList_some, Option.toList_none, List.cons_append, List.nil_append]
          rw [eF] at hRF ⊢
          refine V_goto C (tgt := 55) dX9_placeAll_51 (by decide) ?_
          refine V_iadd C dX9_placeAll_55 ?_
          refine V_bipush C (v := 100) dX9_placeAll_56 (by decide) ?_
          refine V_icmp_gt C (tgt := 65) dX9_placeAll_58 (by decide) (fun h58 => ?_) (fun h58 => ?_)
          · refine V_iconst C (v := 0) dX9_placeAll_65 (by decide) ?_
            refine J66 _ _ _ hRF ?_ ea
            rw [← ey]
            first | exact (pI9_t (Int32.not_lt.mp h58)).symm | exact (pI9_f (Int32.not_le.mpr h58)).symm
          · refine V_iconst C (v := 1) dX9_placeAll_61 (by decide) ?_
            refine V_goto C (tgt := 66) dX9_placeAll_62 (by decide) ?_
            refine J66 _ _ _ hRF ?_ ea
            rw [← ey]
            first | exact (pI9_t (Int32.not_lt.mp h58)).symm | exact (pI9_f (Int32.not_le.mpr h58)).symm
    · have ea : A = paA σ kin := hA.trans (iteP_f (hc ▸ h5)).symm
      have ey : 0 = paY σ kin := (iteP_f (hc ▸ h5)).symm
      refine V_mPut C 49 hRF pl_X9_259 (by decide) dX9_placeAll_22 (fun T hRF => ?_)
      refine V_aload_n C dX9_placeAll_25 rfl (by first | exact isR_r _ | exact isR_q _ | exact isR_n) ?_
      refine V_iload_n C dX9_placeAll_26 rfl ?_
      refine V_aload_n C dX9_placeAll_27 rfl (by first | exact isR_r _ | exact isR_q _ | exact isR_n) ?_
      refine V_mNum C 49 hRF fl_X9_259 (by decide) dX9_placeAll_28 up1_s ?_
      refine V_iconst C (v := 5) dX9_placeAll_31 (by decide) ?_
      rw [show (5 : Int32) = nI 5 from rfl]
      refine V_igtN C (tgt := 65) (by omega) (by omega) dX9_placeAll_32 (by decide) (fun h32 => ?_) (fun h32 => ?_)
      · refine V_iconst C (v := 0) dX9_placeAll_65 (by decide) ?_
        exact J66 _ _ _ hRF ey ea
      · omega
  by_cases hk : inP kin 0 7
  · have ec : paC σ kin = cw σ kin (cN σ 1) := iteP_t hk
    refine V_iload_n C dX9_placeAll_0 rfl ?_
    refine V_iconst C (v := 0) dX9_placeAll_1 (by decide) ?_
    refine V_bipush C (v := 7) dX9_placeAll_2 (by decide) ?_
    refine V_fS C (c_X9_in _ hl G S kin 0 7) ks_X9_165 (by decide) (by decide) rfl rfl (Nat.le_of_ble_eq_true rfl) dX9_placeAll_4 ?_
    dsimp only [Option.toList_some, Option.toList_none, List.cons_append, List.nil_append]
    refine V_istore_n C dX9_placeAll_7 (by decide) rfl ?_
    simp only [lset1, lset2, List.filter_cons, List.filter_nil, Nat.reduceBEq, Nat.reduceAdd, Bool.not_true, Bool.not_false, Bool.and_true, Bool.and_false, Bool.true_and, Bool.false_and, if_true, if_false, Bool.false_eq_true, reduceIte]
    refine V_aload_n C dX9_placeAll_8 rfl (by first | exact isR_r _ | exact isR_q _ | exact isR_n) ?_
    refine V_iload_n C dX9_placeAll_9 rfl ?_
    refine V_if_eq C (tgt := 21) dX9_placeAll_10 (by decide) (fun h10 => ?_) (fun h10 => ?_)
    · exact absurd (bI_eq.mp h10) (fun q => q hk)
    · refine V_aload_n C dX9_placeAll_13 rfl (by first | exact isR_r _ | exact isR_q _ | exact isR_n) ?_
      refine V_iload_n C dX9_placeAll_14 rfl ?_
      refine V_callV C (c_X9_countsWaiting _ hl G _ m σ hR hI kin) kv_X9_270 cf_9 (by decide) rfl hRF.1.1 (by decide) (by decide) rfl rfl (Nat.le_of_ble_eq_true rfl) dX9_placeAll_15 ?_ (fun _ _ h => h.elim)
      intro v9 T9 hT
      obtain ⟨rfl, hT⟩ := hT
      have hRF := RF_tr hRF hT
      dsimp only [Option.toList_some, Option.toList_none, List.cons_append, List.nil_append]
      rw [← ec, ← hc]
      refine V_goto C (tgt := 22) dX9_placeAll_18 (by decide) ?_
      refine J22 _ _ hRF (by rw [ec])
  · have ec : paC σ kin = (0, σ.1) := iteP_f hk
    have ec0 : c = 0 := by rw [hc, ec]
    refine V_iload_n C dX9_placeAll_0 rfl ?_
    refine V_iconst C (v := 0) dX9_placeAll_1 (by decide) ?_
    refine V_bipush C (v := 7) dX9_placeAll_2 (by decide) ?_
    refine V_fS C (c_X9_in _ hl G S kin 0 7) ks_X9_165 (by decide) (by decide) rfl rfl (Nat.le_of_ble_eq_true rfl) dX9_placeAll_4 ?_
    dsimp only [Option.toList_some, Option.toList_none, List.cons_append, List.nil_append]
    refine V_istore_n C dX9_placeAll_7 (by decide) rfl ?_
    simp only [lset1, lset2, List.filter_cons, List.filter_nil, Nat.reduceBEq, Nat.reduceAdd, Bool.not_true, Bool.not_false, Bool.and_true, Bool.and_false, Bool.true_and, Bool.false_and, if_true, if_false, Bool.false_eq_true, reduceIte]
    refine V_aload_n C dX9_placeAll_8 rfl (by first | exact isR_r _ | exact isR_q _ | exact isR_n) ?_
    refine V_iload_n C dX9_placeAll_9 rfl ?_
    refine V_if_eq C (tgt := 21) dX9_placeAll_10 (by decide) (fun h10 => ?_) (fun h10 => ?_)
    · refine V_iconst C (v := 0) dX9_placeAll_21 (by decide) ?_
      have J := J22 _ _ hRF (by rw [ec])
      rw [ec0] at J
      exact J
    · exact absurd (bI_ne.mp h10) hk
