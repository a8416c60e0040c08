/-! THE CLASS: placeAll. -/
theorem fFam_big {z : Nat} (h : 49 ≤ z) : fFam z = 99 := by
  unfold fFam
  split <;> first | omega | rfl
theorem RelC_49f {S : sS} {ad : Nat → Nat → Nat} {A A' : Nat → Nat → Int32} {B : Nat → Int32} (h : RelC S ad (A, B)) (u : ∀ f, f < 49 → A' f = A f) : RelC S ad (A', B) := by
  obtain ⟨a1, a2, a3, a4, a5, a6, a7, a8, a9, a10, a11⟩ := h
  have er : ∀ j, rMrg (A', B) j (rN (A', B) j) = rMrg (A, B) j (rN (A, B) j) := fun j => by
    rw [show rN (A', B) j = rN (A, B) j from congrArg (fun z => (z j).toNatClampNeg) (u 34 (by decide))]
    exact rMrg_congr (σ := (A, B)) (σ' := (A', B)) (u 35 (by decide)) (u 36 (by decide)) (u 37 (by decide)) _
  refine ⟨a1, a2, fun g j x y l => (a3 g j x y l).trans ?_, fun g j x y l => (a4 g j x y l).trans (cR_congr (σ := (A, B)) (σ' := (A', B)) (u 10 (by decide)) (u 28 (by decide)) (u 29 (by decide)) (u 39 (by decide)) (u 44 (by decide)) (u 45 (by decide)) rfl rfl).symm, a5, fun k hk => ?_, a7, a8, a9, a10, a11⟩
  · by_cases g9 : g < 800
    · exact (cI_at (σ := (A, B)) (σ' := (A', B)) x y g9 (fun z hz => congrFun (u z (Decidable.byContradiction fun w => by
        have := fFam_big (z := z) (by omega)
        omega)) j) (fun _ => er j)).symm
    · exact (cI_8 (σ := (A, B)) (σ' := (A', B)) x y g9 rfl).symm
  · rw [er]
    obtain ⟨b1, b2, b3, b4⟩ := a6 k hk
    exact ⟨fun j hj => (b1 j hj).trans (congrFun (u 19 (by decide)) _).symm, b2, b3, b4⟩
theorem oBeg_f {τ : aS} {k : Nat} {h : Int32} {f : Nat} (h1 : f ≠ 10) (h2 : f ≠ 11) (h3 : f ≠ 13) (h4 : ¬ (44 ≤ f ∧ f ≤ 48)) : (oBegins τ k h).2.1 f = τ.1 f := by
  have e : (oEnds τ k).1 f = τ.1 f := by
    unfold oEnds
    split
    · rfl
    · exact (up2_f h1).trans (up2_f (by omega))
  unfold oBegins
  dsimp only
  rw [up2_f h3, up2_f h2, up2_f h1, up2_f (by omega)]
  unfold oBeg1
  dsimp only
  rw [up2_f (by omega), up2_f (by omega), up2_f (by omega), up2_f (by omega)]
  exact e
theorem oBeg_2 {τ : aS} {k : Nat} {h : Int32} : (oBegins τ k h).2.2 = up1 τ.2 43 (τ.2 43 + 1) := rfl
/-- how many a run of beginnings places -/
theorem bRun_1 {n : Nat} (hn : n ≤ 10) {d : Nat → Nat} : ∀ (t k : Nat) (τ : aS) (pl : Nat), τ.2 20 = nI n → (∀ r, r < k + t → d r ≤ n ∧ τ.1 52 r = nI (d r)) → (bRun t k τ (nI pl)).1 = nI (pl + (cnP n d (k + t) - cnP n d k))
  | 0, k, τ, pl, _, _ => by
    show nI pl = nI (pl + (cnP n d k - cnP n d k))
    rw [Nat.sub_self]; rfl
  | t + 1, k, τ, pl, h20, h52 => by
    obtain ⟨e1, e2⟩ := h52 k (by omega)
    have mono : ∀ t, cnP n d (k + 1) ≤ cnP n d (k + 1 + t) := by
      intro t
      induction t with
      | zero => exact Nat.le_refl _
      | succ t ih =>
        refine Nat.le_trans ih ?_
        show _ ≤ cnP n d (k + 1 + t) + _
        exact Nat.le_add_right _ _
    have m := mono t
    have es : cnP n d (k + 1) = cnP n d k + if d k < n then 1 else 0 := rfl
    have ea : k + (t + 1) = k + 1 + t := by omega
    by_cases z : τ.1 52 k < τ.2 20
    · have hz : d k < n := by
        rw [e2, h20] at z
        exact (nI_ltI (by omega) (by omega)).mp z
      rw [if_pos hz] at es
      rw [bRun, iteP_t z, nI_1, bRun_1 hn t (k + 1) _ (pl + 1) (by rw [oBeg_2, up1_n (by decide)]; exact h20) fun r hr => ⟨(h52 r (by omega)).1, (congrFun (oBeg_f (by decide) (by decide) (by decide) (by omega)) r).trans (h52 r (by omega)).2⟩, ea]
      refine congrArg nI ?_
      omega
    · have hz : ¬ d k < n := fun w => z (by rw [e2, h20]; exact (nI_ltI (by omega) (by omega)).mpr w)
      rw [if_neg hz] at es
      rw [bRun, iteP_f z, bRun_1 hn t (k + 1) τ pl h20 fun r hr => h52 r (by omega), ea]
      refine congrArg nI ?_
      omega
theorem cntU_P {n : Nat} (hn : n ≤ 10) {a : Nat → Int32} {d : Nat → Nat} : ∀ M, (∀ r, r < M → d r ≤ n ∧ a r = nI (d r)) → cntU n a M = cnP n d M
  | 0, _ => rfl
  | M + 1, h => by
    obtain ⟨e1, e2⟩ := h M (Nat.lt_succ_self M)
    show cntU n a M + (if a M < nI n then 1 else 0) = cnP n d M + if d M < n then 1 else 0
    rw [cntU_P hn M fun r hr => h r (by omega), e2]
    by_cases z : d M < n
    · rw [if_pos z, if_pos ((nI_ltI (by omega) (by omega)).mpr z)]
    · rw [if_neg z, if_neg fun w => z ((nI_ltI (by omega) (by omega)).mp w)]
theorem cnP_mono {n : Nat} {d : Nat → Nat} {k : Nat} : ∀ t, cnP n d k ≤ cnP n d (k + t)
  | 0 => Nat.le_refl _
  | t + 1 => Nat.le_trans (cnP_mono t) (Nat.le_add_right _ _)
theorem c_X8_placeAllY (l : Launch) (hl : l.stackTraces = false) (G : gG) (S : sS) (ad : Nat → Nat → Nat) (σ : aS) (hC : RelC S ad σ) (kin : Int32) (hv : ¬ (0 ≤ kin ∧ kin ≤ 7)) : CtX l G yX8_placeAll cX8_placeAll 6 (Option.some FieldType.int) 8 40 400 [.ref (ad 8 0), .int kin] S "java/lang/IllegalArgumentException" := by
  refine Ct_of (by decide) (cat1_all (by repeat first | exact trivial | refine ⟨by first | rfl | exact isR_c (isR_q _), ?_⟩)) (Nat.le_of_ble_eq_true rfl) hl fun X C hXl hin => ?_
  subst hXl
  dsimp only [lArgs, Nat.reduceAdd]
  refine V_iload_n C dX8_placeAll_0 rfl ?_
  refine V_iconst C (v := 0) dX8_placeAll_1 (by decide) ?_
  refine V_bipush C (v := 7) dX8_placeAll_2 (by decide) ?_
  refine V_fS C (c_X8_isWithin _ hl G S _ _ _) ks_X8_34 (by decide) (by decide) rfl rfl (Nat.le_of_ble_eq_true rfl) dX8_placeAll_4 ?_
  dsimp only [Option.toList_some, Option.toList_none, List.cons_append, List.nil_append]
  rw [bI_f hv]
  refine V_xS C (c_X8_require0 _ hl G S) ks_X8_38 (by decide) (by decide) rfl rfl (Nat.le_of_ble_eq_true rfl) dX8_placeAll_7 (by first | omega | decide) (by first | omega | decide) ?_
  exact ⟨rfl, rfl⟩
theorem c_X8_placeAll (l : Launch) (hl : l.stackTraces = false) (G : gG) (S : sS) (ad : Nat → Nat → Nat) (σ : aS) (hC : RelC S ad σ) (hI : IC σ) (hS : IS σ) (hO : IO σ) (hP : IP σ) (hB : IBd σ) (g0 : ∀ x, x < 10 → sA S (ad 27 x) 0 = 0) (kin : Int32) (hv : 0 ≤ kin ∧ kin ≤ 7) : Ct l G yX8_placeAll cX8_placeAll 6 (Option.some FieldType.int) 8 40 400 [.ref (ad 8 0), .int kin] S (fun v T => ¬ paY σ kin = 0 ∧ v = some (.int (bRun (paC σ kin).1 0 (paA σ kin, up1 (up1 σ.2 49 (nI (paC σ kin).1)) 56 0) 0).1) ∧ ∃ ad', (ad' 8 0 = ad 8 0 ∧ ad' 27 = ad 27) ∧ RelC T ad' (bRun (paC σ kin).1 0 (paA σ kin, up1 (up1 σ.2 49 (nI (paC σ kin).1)) 56 0) 0).2 ∧ Fr isC S T ∧ ∀ x, x < 10 → sA T (ad 27 x) 0 = 0) (fun E T => paY σ kin = 0 ∧ E = "java/lang/IllegalStateException" ∧ RelC T ad σ ∧ Fr isC S T ∧ ∀ x, x < 10 → sA T (ad 27 x) 0 = 0) := by
  refine Ct_of (by decide) (cat1_all (by repeat first | exact trivial | refine ⟨by first | rfl | exact isR_c (isR_q _), ?_⟩)) (Nat.le_of_ble_eq_true rfl) hl fun X C hXl hin => ?_
  subst hXl
  dsimp only [lArgs, Nat.reduceAdd]
  have kx : sK S (ad 8 0) = 9 := RelC_K hC 8 (by decide) rfl
  have ePC : paC σ kin = cw σ kin (cN σ 1) := iteP_t hv
  obtain ⟨M, hM⟩ : ∃ M, M = (cw σ kin (cN σ 1)).1 := ⟨_, rfl⟩
  obtain ⟨n, hn⟩ : ∃ n, n = cN σ 20 := ⟨_, rfl⟩
  have n10 : n ≤ 10 := by rw [hn]; exact hI.2.2.1.2
  have eM1 : (paC σ kin).1 = M := by rw [ePC, hM]
  have k27 : ∀ x, x < 10 → sK S (ad 27 x) = 181 := fun x hx => RelC_kd hC 27 (by decide) hx rfl
  have G0 : ∀ T, FrP S T → ∀ x, x < 10 → sA T (ad 27 x) 0 = 0 := fun T f x hx => (f.2.2.2.2.2.2.2 _ (k27 x hx)).trans (g0 x hx)
  have HX : ∀ E T, (E = "java/lang/IllegalStateException" ∧ 5 < (cw σ kin (cN σ 1)).1 ∧ FrP S T) → paY σ kin = 0 ∧ E = "java/lang/IllegalStateException" ∧ RelC T ad σ ∧ Fr isC S T ∧ ∀ x, x < 10 → sA T (ad 27 x) 0 = 0 := fun E T h => ⟨by
    unfold paY
    exact iteP_f (by rw [ePC]; omega), h.1, RelC_P hC h.2.2, FrP_C h.2.2, G0 T h.2.2⟩
  refine V_iload_n C dX8_placeAll_0 rfl ?_
  refine V_iconst C (v := 0) dX8_placeAll_1 (by decide) ?_
  refine V_bipush C (v := 7) dX8_placeAll_2 (by decide) ?_
  refine V_fS C (c_X8_isWithin _ hl G S _ _ _) ks_X8_34 (by decide) (by decide) rfl rfl (Nat.le_of_ble_eq_true rfl) dX8_placeAll_4 ?_
  dsimp only [Option.toList_some, Option.toList_none, List.cons_append, List.nil_append]
  rw [bI_t hv]
  refine V_fS C (c_X8_require1 _ hl G S) ks_X8_38 (by decide) (by decide) rfl rfl (Nat.le_of_ble_eq_true rfl) dX8_placeAll_7 ?_
  dsimp only [Option.toList_some, Option.toList_none, List.cons_append, List.nil_append]
  refine V_aload_n C dX8_placeAll_10 rfl (by first | exact isR_r _ | exact isR_q _ | exact isR_n) ?_
  refine V_iload_n C dX8_placeAll_11 rfl ?_
  refine V_callV C (c_X8_planFor _ hl G S ad σ hC hI hS hO hP kin) kv_X8_159 cf_8 (by decide) rfl kx (by decide) (by decide) rfl rfl (Nat.le_of_ble_eq_true rfl) dX8_placeAll_12 ?_ (fun E T hx => VX_out C (by decide) (by decide) (HX E T hx))
  intro w1 T hT
  obtain ⟨rfl, h5, f, t1, t2, t3, t4⟩ := hT
  dsimp only [Option.toList_some, Option.toList_none, List.cons_append, List.nil_append]
  skip
  rw [← hM] at h5 t2 t3 t4
  rw [← hn] at t1
  have hR : RelC T ad σ := RelC_P hC f
  have kX : sK T (ad 8 0) = 9 := RelC_K hR 8 (by decide) rfl
  have kP : sK T (ad 4 0) = 5 := RelC_K hR 4 (by decide) rfl
  have rX : sR T 803 (ad 8 0) = some (ad 4 0) := RelC_R hR 8 803 rfl (by unfold cFd; omega) rfl rfl
  obtain ⟨p1, p2, d, d1, d2, d3⟩ := plan_way (T := T) (ad := ad) hI hP hB hn.symm hM.symm h5 t1 (fun r hr => by
    obtain ⟨c, c1, c2, c3, c4⟩ := t4 r hr
    exact ⟨c, c1, c2, c4⟩)
  have ePF : paF σ kin = oFinds ((cw σ kin (cN σ 1)).2, up1 σ.2 49 (nI M)) M := by
    unfold paF
    rw [ePC, ← hM]
  rw [← ePF] at d1
  have ePA : paA σ kin = (paF σ kin).2 := iteP_t (by rw [eM1]; exact h5)
  obtain ⟨⟨kw1, kw2⟩, kw3⟩ := paF_p (σ := σ) (kin := kin) hI
  rw [eM1, ← hn] at kw2
  have eP1 : (paF σ kin).1 = nI (cnP n d M) := by
    rw [kw2, plc_cnt, cntU_P n10 M d1]
  have cl := cnP_le (n := n) (a := d) M
  have c43 := hI.2.2.2.2.2.1
  have a50 : ∀ f, f ≠ 50 → f ≠ 51 → f ≠ 52 → f ≠ 53 → f ≠ 54 → f ≠ 55 → paA σ kin f = σ.1 f := fun f q0 q1 q2 q3 q4 q5 => by
    rw [ePA, kw3 f q1 q2 q3 q4 q5, ePC]
    exact cw_o q0 _
  have A50 : ∀ r, r < M → ∃ c, c < cN σ 1 ∧ paA σ kin 50 r = nI c ∧ sQ T (ad 21 0) r = some (ad 0 c) := fun r hr => by
    obtain ⟨c, c1, c2, c3, c4⟩ := t4 r hr
    refine ⟨c, c1, ?_, c3⟩
    rw [ePA, kw3 50 (by decide) (by decide) (by decide) (by decide) (by decide), ePC]
    exact c2
  have A52 : ∀ r, r < M → d r ≤ n ∧ paA σ kin 52 r = nI (d r) := fun r hr => by rw [ePA]; exact d1 r hr
  obtain ⟨τ0, hτ0⟩ : ∃ τ0 : aS, τ0 = (paA σ kin, up1 (up1 σ.2 49 (nI M)) 56 0) := ⟨_, rfl⟩
  have z20 : τ0.2 20 = nI n := by
    rw [hτ0, hn]
    show up1 (up1 σ.2 49 (nI M)) 56 0 20 = nI (cN σ 20)
    rw [up1_n (by decide), up1_n (by decide)]
    exact hI.2.2.1.1
  have eFIN : (bRun (paC σ kin).1 0 (paA σ kin, up1 (up1 σ.2 49 (nI (paC σ kin).1)) 56 0) 0) = bRun M 0 τ0 0 := by rw [eM1, hτ0]
  have eF1 : (bRun M 0 τ0 0).1 = nI (cnP n d M) := by
    have := bRun_1 n10 (d := d) M 0 τ0 0 z20 (fun r hr => by
      rw [hτ0]
      exact A52 r (by omega))
    rw [Nat.zero_add, Nat.zero_add] at this
    exact this
  rw [eFIN]
  have bY : paY σ kin = pI9 (σ.2 43 + nI (cnP n d M) ≤ 100) := by
    unfold paY
    rw [iteP_t (by rw [eM1]; exact h5), eP1]
  have rm1 : ∀ a b : Nat, a ≤ 40 → b ≤ 400 → a ≤ (rmD 8 40 400).cells ∧ b ≤ (rmD 8 40 400).slots := fun a b h1 h2 => ⟨h1, h2⟩
  have s407 : sI T 407 (ad 4 0) = nI M := t2
  refine V_aload_n C dX8_placeAll_15 rfl (by first | exact isR_r _ | exact isR_q _ | exact isR_n) ?_
  refine V_getS C 8 3 rfl cf_8 fl_X8_30 (by decide) (by decide) dX8_placeAll_16 kX rX ?_
  refine V_callV C (c_X4_search _ hl G T ad σ hR n M n10 h5 t3 (G0 T f) p1 p2 d (fun r hr => (d1 r hr).1) d2 d3) kv_X8_163 cf_4 (by decide) rfl kP (by decide) (by decide) rfl rfl (Nat.le_of_ble_eq_true rfl) dX8_placeAll_19 ?_ (fun _ _ h => h.elim)
  intro w1 T1 hT1
  obtain ⟨rfl, f1, u1, u2, u3⟩ := hT1
  dsimp only [Option.toList_some, Option.toList_none, List.cons_append, List.nil_append]
  skip
  have fS : FrP S T1 := FrP_tr f f1
  have hR1 : RelC T1 ad σ := RelC_P hC fS
  have kX1 : sK T1 (ad 8 0) = 9 := RelC_K hR1 8 (by decide) rfl
  have i807 : sI T1 807 (ad 8 0) = σ.2 43 := RelC_I hR1 8 807 rfl (by unfold cFd; omega) rfl rfl
  have r802 : sR T1 802 (ad 8 0) = some (ad 17 0) := RelC_R hR1 8 802 rfl (by unfold cFd; omega) rfl rfl
  have kq : sK T1 (ad 17 0) = 106 := RelC_kd hR1 17 (by decide) rfl rfl
  have lq : sL T1 (ad 17 0) = 100 := RelC_ln hR1 17 (by decide) rfl rfl
  have A50' : ∀ r, r < M → ∃ c, c < cN σ 1 ∧ paA σ kin 50 r = nI c ∧ sQ T1 (ad 21 0) r = some (ad 0 c) := fun r hr => by
    obtain ⟨c, c1, c2, c3⟩ := A50 r hr
    exact ⟨c, c1, c2, by rw [u2]; exact c3⟩
  have j407 : sI T1 407 (ad 4 0) = nI M := by rw [u3]; exact s407
  have kk1 : ∀ i c, i < 30 ∧ i ≠ 9 ∧ i ≠ 10 → cLv σ i 0 → cKd i = c → sK T1 (ad i 0) = c := fun i c h1 h2 h3 => RelC_kd hR1 i h1 h2 h3
  -- the places taken, row by row
  have rows : ∀ (t r : Nat) (U : sS) (ad' : Nat → Nat → Nat) (τ : aS) (pl : Int32), r + t = 5 → σ.2 43 + nI (cnP n d M) ≤ 100 → (∀ i, i ≠ 6 → ad' i = ad i) → RelC U ad' τ → IC τ → IS τ → IO τ → (τ.2 20 = nI n ∧ cN τ 20 = n ∧ cN τ 1 = cN σ 1 ∧ cN τ 43 = cN σ 43 + cnP n d (min r M)) → τ.1 50 = paA σ kin 50 → τ.1 52 = paA σ kin 52 → bRun (M - min r M) (min r M) τ pl = bRun M 0 τ0 0 → Fr isE T1 U →
      V X G 6 (eQ X G (fun v T => ¬ paY σ kin = 0 ∧ v = some (.int (bRun M 0 τ0 0).1) ∧ ∃ ad', (ad' 8 0 = ad 8 0 ∧ ad' 27 = ad 27) ∧ RelC T ad' (bRun M 0 τ0 0).2 ∧ Fr isC S T ∧ ∀ x, x < 10 → sA T (ad 27 x) 0 = 0) (fun E T => paY σ kin = 0 ∧ E = "java/lang/IllegalStateException" ∧ RelC T ad σ ∧ Fr isC S T ∧ ∀ x, x < 10 → sA T (ad 27 x) 0 = 0) 40 400) (10 + 5 * r) (60 + 46 * r) 49 [(3, false, .int (nI r)), (2, false, .int (nI (cnP n d M))), (0, false, .ref (ad 8 0)), (1, false, .int kin)] [] U := by
    intro t
    induction t with
    | zero =>
      intro r U ad' τ pl hr hle ha hRU hIU hSU hOU hcU h50 h52 hb hFU
      obtain rfl : r = 5 := by omega
      rw [Nat.min_eq_right h5, Nat.sub_self] at hb
      have hb2 : τ = (bRun M 0 τ0 0).2 := congrArg Prod.snd hb
      have fin : ∃ ad', (ad' 8 0 = ad 8 0 ∧ ad' 27 = ad 27) ∧ RelC U ad' (bRun M 0 τ0 0).2 ∧ Fr isC S U ∧ ∀ x, x < 10 → sA U (ad 27 x) 0 = 0 := ⟨ad', ⟨by rw [ha 8 (by decide)], ha 27 (by decide)⟩, by rw [← hb2]; exact hRU, Fr_tr (FrP_C fS) (Fr_DC (Fr_ED hFU)), fun x hx => by
        have k2 : sK T1 (ad 27 x) = 181 := by rw [fS.1]; exact k27 x hx
        rw [(hFU (ad 27 x) (by rw [k2]; decide) (by rw [k2]; unfold isE; decide)).2.2.2.2.1]
        exact G0 T1 fS x hx⟩
      refine V_iload_n C dX8_placeAll_49 rfl ?_
      refine V_iconst C (v := 5) dX8_placeAll_50 (by decide) ?_
      refine V_icmp_ge C (tgt := 104) dX8_placeAll_51 (by decide) (fun h51 => ?_) (fun h51 => ?_)
      · refine V_iload_n C dX8_placeAll_104 rfl ?_
        refine V_iret C (by first | omega | decide) (by first | omega | decide) dX8_placeAll_105 ?_
        exact ⟨by rw [bY, pI9_t hle]; decide, by rw [eF1], fin⟩
      · exact absurd (by decide) h51
    | succ t ih =>
      intro r U ad' τ pl hr hle ha hRU hIU hSU hOU hcU h50 h52 hb hFU
      have hr5 : r < 5 := by omega
      have n51 : ¬ (5 : Int32) ≤ nI r := fun z => absurd ((nI_leI (a := 5) (b := r) (by decide) (by omega)).mp z) (by omega)
      obtain ⟨q20, q20n, q1, q43⟩ := hcU
      have kX2 : sK U (ad 8 0) = 9 := by
        have := RelC_K hRU 8 (by decide) (j := 0) rfl
        rw [ha 8 (by decide)] at this
        exact this
      have kP2 : sK U (ad' 4 0) = 5 := RelC_K hRU 4 (by decide) rfl
      have rX2 : sR U 803 (ad 8 0) = some (ad' 4 0) := by
        have := RelC_R hRU 8 803 (j := 0) rfl (by unfold cFd; omega) rfl rfl
        rw [ha 8 (by decide)] at this
        exact this
      have keep : ∀ i c, i < 30 ∧ i ≠ 9 ∧ i ≠ 10 → i ≠ 6 → cLv σ i 0 → cKd i = c → c ≠ 0 → ¬ isE c → (∀ g, sI U g (ad' i 0) = sI T1 g (ad i 0)) ∧ sA U (ad' i 0) = sA T1 (ad i 0) ∧ sQ U (ad' i 0) = sQ T1 (ad i 0) := fun i c h1 h6 h2 h3 h4 hE => by
        have k := kk1 i c h1 h2 h3
        obtain ⟨-, -, x3, -, x5, -, x7⟩ := hFU (ad i 0) (by rw [k]; exact h4) (by rw [k]; exact hE)
        rw [ha i h6]
        exact ⟨x3, x5, x7⟩
      have i4 : sI U 407 (ad' 4 0) = nI M := by rw [(keep 4 5 (by decide) (by decide) rfl rfl (by decide) (by unfold isE; decide)).1 407]; exact j407
      have i21 : sQ U (ad' 21 0) = sQ T1 (ad 21 0) := (keep 21 114 (by decide) (by decide) rfl rfl (by decide) (by unfold isE; decide)).2.2
      have i22 : sA U (ad' 22 0) r = (if r < M ∧ d r < n then nI (d r) else -1) := by rw [(keep 22 151 (by decide) (by decide) rfl rfl (by decide) (by unfold isE; decide)).2.1]; exact u1 r hr5
      by_cases hrM : r < M
      · rw [Nat.min_eq_left (by omega : r ≤ M)] at q43 hb
        obtain ⟨c, c1, c2, c3⟩ := A50' r hrM
        have ec : (if r < M then sQ U (ad' 21 0) r else none) = some (ad' 0 c) := by
          rw [if_pos hrM, i21, c3, ha 0 (by decide)]
        have hdr := A52 r hrM
        have e50 : τ.1 50 r = nI c := by rw [h50]; exact c2
        have e52 : τ.1 52 r = nI (d r) := by rw [h52]; exact hdr.2
        have eM2 : M - r = (M - (r + 1)) + 1 := by omega
        have ihr := ih (r + 1)
        rw [Nat.min_eq_left (by omega : r + 1 ≤ M)] at ihr
        have kC : sK U (ad' 0 c) = 1 := RelC_K hRU 0 (by decide) (by show c < cN τ 1; rw [q1]; exact c1)
        by_cases hdn : d r < n
        · have eh : (if r < M then sA U (ad' 22 0) r else -1) = nI (d r) := by rw [if_pos hrM, i22, if_pos ⟨hrM, hdn⟩]
          have hcc : c < cN τ 1 := by rw [q1]; exact c1
          have hdd : d r < cN τ 20 := by rw [q20n]; exact hdn
          have es : cnP n d (r + 1) = cnP n d r + 1 := by
            show cnP n d r + (if d r < n then 1 else 0) = _
            rw [if_pos hdn]
          have m1 := cnP_mono (n := n) (d := d) (k := r + 1) (M - (r + 1))
          rw [show r + 1 + (M - (r + 1)) = M by omega] at m1
          have hl100 : cN σ 43 + cnP n d M ≤ 100 := by
            rw [c43.1, nI_add] at hle
            exact (nI_leI (a := cN σ 43 + cnP n d M) (b := 100) (by omega) (by decide)).mp hle
          have h43 : cN τ 43 < 100 := by omega
          have bI := IC_begins (σ := τ) (k := c) (h := nI (d r)) hIU h43
          have hb' : bRun (M - (r + 1)) (r + 1) (oBegins τ c (nI (d r))).2 (pl + 1) = bRun M 0 τ0 0 := by
            rw [← hb, eM2, bRun, iteP_t (by rw [e52, q20]; exact (nI_ltI (by omega) (by omega)).mpr hdn), e50, e52, show nx (nI c) = c from nI_clamp (by have := hI.2.1.2; omega)]
          refine V_iload_n C dX8_placeAll_49 rfl ?_
          refine V_iconst C (v := 5) dX8_placeAll_50 (by decide) ?_
          refine V_icmp_ge C (tgt := 104) dX8_placeAll_51 (by decide) (fun h51 => ?_) (fun h51 => ?_)
          · exact absurd h51 n51
          · refine V_aload_n C dX8_placeAll_54 rfl (by first | exact isR_r _ | exact isR_q _ | exact isR_n) ?_
            refine V_getS C 8 3 rfl cf_8 fl_X8_30 (by decide) (by decide) dX8_placeAll_55 kX2 rX2 ?_
            refine V_iload_n C dX8_placeAll_58 rfl ?_
            refine V_fV C (c_X4_childAtRow _ hl G U ad' τ hRU M h5 i4 r hr5) kv_X8_171 cf_4 (by decide) rfl kP2 (by decide) (rm1 _ _ (by omega) (by omega)) rfl rfl (Nat.le_of_ble_eq_true rfl) dX8_placeAll_59 ?_
            dsimp only [Option.toList_some, Option.toList_none, List.cons_append, List.nil_append]
            rw [ec]
            refine V_astore C dX8_placeAll_62 (by decide) (by first | exact isR_r _ | exact isR_q _ | exact isR_n) rfl ?_
            simp only [lset1, lset2, List.filter_cons, List.filter_nil, Nat.reduceBEq, Nat.reduceAdd, Bool.not_true, Bool.not_false, Bool.and_true, Bool.and_false, Bool.true_and, Bool.false_and, if_true, if_false, Bool.false_eq_true, reduceIte]
            refine V_aload_n C dX8_placeAll_64 rfl (by first | exact isR_r _ | exact isR_q _ | exact isR_n) ?_
            refine V_getS C 8 3 rfl cf_8 fl_X8_30 (by decide) (by decide) dX8_placeAll_65 kX2 rX2 ?_
            refine V_iload_n C dX8_placeAll_68 rfl ?_
            refine V_fV C (c_X4_homeAtRow _ hl G U ad' τ hRU M h5 i4 r hr5) kv_X8_174 cf_4 (by decide) rfl kP2 (by decide) (rm1 _ _ (by omega) (by omega)) rfl rfl (Nat.le_of_ble_eq_true rfl) dX8_placeAll_69 ?_
            dsimp only [Option.toList_some, Option.toList_none, List.cons_append, List.nil_append]
            rw [eh]
            refine V_istore C dX8_placeAll_72 (by decide) rfl ?_
            simp only [lset1, lset2, List.filter_cons, List.filter_nil, Nat.reduceBEq, Nat.reduceAdd, Bool.not_true, Bool.not_false, Bool.and_true, Bool.and_false, Bool.true_and, Bool.false_and, if_true, if_false, Bool.false_eq_true, reduceIte]
            refine V_aload C dX8_placeAll_74 rfl (by first | exact isR_r _ | exact isR_q _ | exact isR_n) ?_
            dsimp only
            refine V_ifnull C (tgt := 98) dX8_placeAll_76 (by decide) (fun h76 => ?_) (fun a76 h76 => ?_)
            · cases h76
            · cases h76
              refine V_iload C dX8_placeAll_79 rfl ?_
              refine V_iconst C (v := (-1)) dX8_placeAll_81 (by decide) ?_
              refine V_icmp_eq C (tgt := 98) dX8_placeAll_82 (by decide) (fun h82 => ?_) (fun h82 => ?_)
              · exact absurd h82 (nI_ne_m1 (by omega))
              · refine V_aload_n C dX8_placeAll_85 rfl (by first | exact isR_r _ | exact isR_q _ | exact isR_n) ?_
                refine V_aload C dX8_placeAll_86 rfl (by first | exact isR_r _ | exact isR_q _ | exact isR_n) ?_
                refine V_aload_n C dX8_placeAll_88 rfl (by first | exact isR_r _ | exact isR_q _ | exact isR_n) ?_
                refine V_iload C dX8_placeAll_89 rfl ?_
                rw [← ha 8 (by decide)]
                refine V_fV C (c_X8_homeAt _ hl G U ad' τ hRU (by rw [q20n]; exact n10) (d r) hdd) kv_X8_71 cf_8 (by decide) rfl (by rw [ha 8 (by decide)]; exact kX2) (by decide) (rm1 _ _ (by omega) (by omega)) rfl rfl (Nat.le_of_ble_eq_true rfl) dX8_placeAll_91 ?_
                dsimp only [Option.toList_some, Option.toList_none, List.cons_append, List.nil_append]
                refine V_callV C (c_X8_beginStay _ hl G U ad' τ hRU hIU hSU hOU c hcc (d r) hdd (cN τ 43) rfl h43) kv_X8_156 cf_8 (by decide) rfl (by rw [ha 8 (by decide)]; exact kX2) (by decide) (rm1 _ _ (by omega) (by omega)) rfl rfl (Nat.le_of_ble_eq_true rfl) dX8_placeAll_94 ?_ (fun _ _ h => h.elim)
                intro w2 U2 hU2
                obtain ⟨rfl, ad2, b1, b2, b3⟩ := hU2
                dsimp only [Option.toList_some, Option.toList_none, List.cons_append, List.nil_append]
                have L := ihr U2 ad2 _ (pl + 1) (by omega) hle (fun i hi => (b1 i hi).trans (ha i hi)) b2 bI.1 (IS_begins hIU hSU h43 hcc hdd) (IO_of hOU (oBeg_f (by decide) (by decide) (by decide) (by omega)) rfl) ⟨(show up1 τ.2 43 (τ.2 43 + 1) 20 = nI n from (up1_n (by decide)).trans q20), q20n, q1, by rw [bI.2, q43, es]; omega⟩ ((oBeg_f (by decide) (by decide) (by decide) (by omega)).trans h50) ((oBeg_f (by decide) (by decide) (by decide) (by omega)).trans h52) hb' (Fr_tr hFU b3)
                rw [ha 8 (by decide)]
                refine V_pop C dX8_placeAll_97 (by first | rfl | exact isR_c (isR_q _)) ?_
                refine V_incN C dX8_placeAll_98 rfl (by decide) rfl ?_
                simp only [lset1, lset2, List.filter_cons, List.filter_nil, Nat.reduceBEq, Nat.reduceAdd, Bool.not_true, Bool.not_false, Bool.and_true, Bool.and_false, Bool.true_and, Bool.false_and, if_true, if_false, Bool.false_eq_true, reduceIte]
                refine V_goto C (tgt := 49) dX8_placeAll_101 (by decide) ?_
                refine V_widen (by omega) (by omega) (V_sub ?_ L)
                exact ⟨rfl, rfl, rfl, rfl, trivial⟩
        · have eh : (if r < M then sA U (ad' 22 0) r else -1) = -1 := by rw [if_pos hrM, i22, if_neg fun z => hdn z.2]
          have es : cnP n d (r + 1) = cnP n d r := by
            show cnP n d r + (if d r < n then 1 else 0) = _
            rw [if_neg hdn]; rfl
          have hb' : bRun (M - (r + 1)) (r + 1) τ pl = bRun M 0 τ0 0 := by
            rw [← hb, eM2, bRun, iteP_f (by rw [e52, q20]; exact fun z => hdn ((nI_ltI (by omega) (by omega)).mp z))]
          have L := ihr U ad' τ pl (by omega) hle ha hRU hIU hSU hOU ⟨q20, q20n, q1, by rw [q43, es]⟩ h50 h52 hb' hFU
          refine V_iload_n C dX8_placeAll_49 rfl ?_
          refine V_iconst C (v := 5) dX8_placeAll_50 (by decide) ?_
          refine V_icmp_ge C (tgt := 104) dX8_placeAll_51 (by decide) (fun h51 => ?_) (fun h51 => ?_)
          · exact absurd h51 n51
          · refine V_aload_n C dX8_placeAll_54 rfl (by first | exact isR_r _ | exact isR_q _ | exact isR_n) ?_
            refine V_getS C 8 3 rfl cf_8 fl_X8_30 (by decide) (by decide) dX8_placeAll_55 kX2 rX2 ?_
            refine V_iload_n C dX8_placeAll_58 rfl ?_
            refine V_fV C (c_X4_childAtRow _ hl G U ad' τ hRU M h5 i4 r hr5) kv_X8_171 cf_4 (by decide) rfl kP2 (by decide) (rm1 _ _ (by omega) (by omega)) rfl rfl (Nat.le_of_ble_eq_true rfl) dX8_placeAll_59 ?_
            dsimp only [Option.toList_some, Option.toList_none, List.cons_append, List.nil_append]
            rw [ec]
            refine V_astore C dX8_placeAll_62 (by decide) (by first | exact isR_r _ | exact isR_q _ | exact isR_n) rfl ?_
            simp only [lset1, lset2, List.filter_cons, List.filter_nil, Nat.reduceBEq, Nat.reduceAdd, Bool.not_true, Bool.not_false, Bool.and_true, Bool.and_false, Bool.true_and, Bool.false_and, if_true, if_false, Bool.false_eq_true, reduceIte]
            refine V_aload_n C dX8_placeAll_64 rfl (by first | exact isR_r _ | exact isR_q _ | exact isR_n) ?_
            refine V_getS C 8 3 rfl cf_8 fl_X8_30 (by decide) (by decide) dX8_placeAll_65 kX2 rX2 ?_
            refine V_iload_n C dX8_placeAll_68 rfl ?_
            refine V_fV C (c_X4_homeAtRow _ hl G U ad' τ hRU M h5 i4 r hr5) kv_X8_174 cf_4 (by decide) rfl kP2 (by decide) (rm1 _ _ (by omega) (by omega)) rfl rfl (Nat.le_of_ble_eq_true rfl) dX8_placeAll_69 ?_
            dsimp only [Option.toList_some, Option.toList_none, List.cons_append, List.nil_append]
            rw [eh]
            refine V_istore C dX8_placeAll_72 (by decide) rfl ?_
            simp only [lset1, lset2, List.filter_cons, List.filter_nil, Nat.reduceBEq, Nat.reduceAdd, Bool.not_true, Bool.not_false, Bool.and_true, Bool.and_false, Bool.true_and, Bool.false_and, if_true, if_false, Bool.false_eq_true, reduceIte]
            refine V_aload C dX8_placeAll_74 rfl (by first | exact isR_r _ | exact isR_q _ | exact isR_n) ?_
            dsimp only
            refine V_ifnull C (tgt := 98) dX8_placeAll_76 (by decide) (fun h76 => ?_) (fun a76 h76 => ?_)
            · cases h76
            · cases h76
              refine V_iload C dX8_placeAll_79 rfl ?_
              refine V_iconst C (v := (-1)) dX8_placeAll_81 (by decide) ?_
              refine V_icmp_eq C (tgt := 98) dX8_placeAll_82 (by decide) (fun h82 => ?_) (fun h82 => ?_)
              · refine V_incN C dX8_placeAll_98 rfl (by decide) rfl ?_
                simp only [lset1, lset2, List.filter_cons, List.filter_nil, Nat.reduceBEq, Nat.reduceAdd, Bool.not_true, Bool.not_false, Bool.and_true, Bool.and_false, Bool.true_and, Bool.false_and, if_true, if_false, Bool.false_eq_true, reduceIte]
                refine V_goto C (tgt := 49) dX8_placeAll_101 (by decide) ?_
                refine V_widen (by omega) (by omega) (V_sub ?_ L)
                exact ⟨rfl, rfl, rfl, rfl, trivial⟩
              · exact absurd rfl h82
      · have ec : (if r < M then sQ U (ad' 21 0) r else none) = none := if_neg hrM
        have eh : (if r < M then sA U (ad' 22 0) r else -1) = -1 := if_neg hrM
        have e1 : min (r + 1) M = min r M := by omega
        have ihr := ih (r + 1)
        rw [e1] at ihr
        have L := ihr U ad' τ pl (by omega) hle ha hRU hIU hSU hOU ⟨q20, q20n, q1, q43⟩ h50 h52 hb hFU
        refine V_iload_n C dX8_placeAll_49 rfl ?_
        refine V_iconst C (v := 5) dX8_placeAll_50 (by decide) ?_
        refine V_icmp_ge C (tgt := 104) dX8_placeAll_51 (by decide) (fun h51 => ?_) (fun h51 => ?_)
        · exact absurd h51 n51
        · refine V_aload_n C dX8_placeAll_54 rfl (by first | exact isR_r _ | exact isR_q _ | exact isR_n) ?_
          refine V_getS C 8 3 rfl cf_8 fl_X8_30 (by decide) (by decide) dX8_placeAll_55 kX2 rX2 ?_
          refine V_iload_n C dX8_placeAll_58 rfl ?_
          refine V_fV C (c_X4_childAtRow _ hl G U ad' τ hRU M h5 i4 r hr5) kv_X8_171 cf_4 (by decide) rfl kP2 (by decide) (rm1 _ _ (by omega) (by omega)) rfl rfl (Nat.le_of_ble_eq_true rfl) dX8_placeAll_59 ?_
          dsimp only [Option.toList_some, Option.toList_none, List.cons_append, List.nil_append]
          rw [ec]
          refine V_astore C dX8_placeAll_62 (by decide) (by first | exact isR_r _ | exact isR_q _ | exact isR_n) rfl ?_
          simp only [lset1, lset2, List.filter_cons, List.filter_nil, Nat.reduceBEq, Nat.reduceAdd, Bool.not_true, Bool.not_false, Bool.and_true, Bool.and_false, Bool.true_and, Bool.false_and, if_true, if_false, Bool.false_eq_true, reduceIte]
          refine V_aload_n C dX8_placeAll_64 rfl (by first | exact isR_r _ | exact isR_q _ | exact isR_n) ?_
          refine V_getS C 8 3 rfl cf_8 fl_X8_30 (by decide) (by decide) dX8_placeAll_65 kX2 rX2 ?_
          refine V_iload_n C dX8_placeAll_68 rfl ?_
          refine V_fV C (c_X4_homeAtRow _ hl G U ad' τ hRU M h5 i4 r hr5) kv_X8_174 cf_4 (by decide) rfl kP2 (by decide) (rm1 _ _ (by omega) (by omega)) rfl rfl (Nat.le_of_ble_eq_true rfl) dX8_placeAll_69 ?_
          dsimp only [Option.toList_some, Option.toList_none, List.cons_append, List.nil_append]
          rw [eh]
          refine V_istore C dX8_placeAll_72 (by decide) rfl ?_
          simp only [lset1, lset2, List.filter_cons, List.filter_nil, Nat.reduceBEq, Nat.reduceAdd, Bool.not_true, Bool.not_false, Bool.and_true, Bool.and_false, Bool.true_and, Bool.false_and, if_true, if_false, Bool.false_eq_true, reduceIte]
          refine V_aload C dX8_placeAll_74 rfl (by first | exact isR_r _ | exact isR_q _ | exact isR_n) ?_
          dsimp only
          refine V_ifnull C (tgt := 98) dX8_placeAll_76 (by decide) (fun h76 => ?_) (fun a76 h76 => ?_)
          · refine V_incN C dX8_placeAll_98 rfl (by decide) rfl ?_
            simp only [lset1, lset2, List.filter_cons, List.filter_nil, Nat.reduceBEq, Nat.reduceAdd, Bool.not_true, Bool.not_false, Bool.and_true, Bool.and_false, Bool.true_and, Bool.false_and, if_true, if_false, Bool.false_eq_true, reduceIte]
            refine V_goto C (tgt := 49) dX8_placeAll_101 (by decide) ?_
            refine V_widen (by omega) (by omega) (V_sub ?_ L)
            exact ⟨rfl, rfl, rfl, rfl, trivial⟩
          · cases h76
  have hRt : RelC T1 ad τ0 := by
    rw [hτ0]
    exact RelC_56 (RelC_49 (RelC_49f (A := σ.1) (B := σ.2) hR1 fun f hf => a50 f (by omega) (by omega) (by omega) (by omega) (by omega) (by omega)))
  have hIt : IC τ0 := by
    rw [hτ0]
    have q : IC (paA σ kin, σ.2) := IC_of (A := σ.1) (B := σ.2) hI (a50 34 (by decide) (by decide) (by decide) (by decide) (by decide) (by decide)) (a50 10 (by decide) (by decide) (by decide) (by decide) (by decide) (by decide))
    exact q
  have hSt : IS τ0 := by
    rw [hτ0]
    have q : IS (paA σ kin, σ.2) := IS_of (A := σ.1) (B := σ.2) hS (a50 44 (by decide) (by decide) (by decide) (by decide) (by decide) (by decide)) (a50 45 (by decide) (by decide) (by decide) (by decide) (by decide) (by decide))
    exact q
  have hOt : IO τ0 := by
    rw [hτ0]
    have q : IO (paA σ kin, σ.2) := IO_of hO (a50 42 (by decide) (by decide) (by decide) (by decide) (by decide) (by decide)) rfl
    exact q
  have ex : ∀ x, x ≠ 49 → x ≠ 56 → cN τ0 x = cN σ x := fun x h1 h2 => by
    rw [hτ0]
    exact congrArg Int32.toNatClampNeg ((up1_n h2).trans (up1_n h1))
  have L : σ.2 43 + nI (cnP n d M) ≤ 100 → _ := fun hle => rows 5 0 T1 ad τ0 0 (by omega) hle (fun _ _ => rfl) hRt hIt hSt hOt ⟨z20, by rw [ex 20 (by decide) (by decide), hn], ex 1 (by decide) (by decide), by rw [ex 43 (by decide) (by decide), Nat.zero_min]; rfl⟩ (by rw [hτ0]) (by rw [hτ0]) (by rw [Nat.zero_min, Nat.sub_zero]) Fr_rf
  refine V_istore_n C dX8_placeAll_22 (by decide) rfl ?_
  simp only [lset1, lset2, List.filter_cons, List.filter_nil, Nat.reduceBEq, Nat.reduceAdd, Bool.not_true, Bool.not_false, Bool.and_true, Bool.and_false, Bool.true_and, Bool.false_and, if_true, if_false, Bool.false_eq_true, reduceIte]
  refine V_aload_n C dX8_placeAll_23 rfl (by first | exact isR_r _ | exact isR_q _ | exact isR_n) ?_
  refine V_getIe C 8 7 rfl cf_8 fl_X8_166 (by decide) (by decide) dX8_placeAll_24 kX1 i807 ?_
  refine V_iload_n C dX8_placeAll_27 rfl ?_
  refine V_iadd C dX8_placeAll_28 ?_
  refine V_aload_n C dX8_placeAll_29 rfl (by first | exact isR_r _ | exact isR_q _ | exact isR_n) ?_
  refine V_getS C 8 2 rfl cf_8 fl_X8_23 (by decide) (by decide) dX8_placeAll_30 kX1 r802 ?_
  refine V_alen C (v := nI 100) kq (by decide) (by rw [lq]; rfl) dX8_placeAll_33 ?_
  refine V_icmp_le C (tgt := 47) dX8_placeAll_34 (by decide) (fun h34 => ?_) (fun h34 => ?_)
  · have hle : σ.2 43 + nI (cnP n d M) ≤ 100 := h34
    refine V_iconst C (v := 0) dX8_placeAll_47 (by decide) ?_
    refine V_istore_n C dX8_placeAll_48 (by decide) rfl ?_
    simp only [lset1, lset2, List.filter_cons, List.filter_nil, Nat.reduceBEq, Nat.reduceAdd, Bool.not_true, Bool.not_false, Bool.and_true, Bool.and_false, Bool.true_and, Bool.false_and, if_true, if_false, Bool.false_eq_true, reduceIte]
    refine V_widen (by omega) (by omega) (V_sub ?_ (L hle))
    exact ⟨rfl, rfl, rfl, rfl, trivial⟩
  · refine V_throwS C tw_X8_46_169_50 dX8_placeAll_37 dX8_placeAll_40 dX8_placeAll_41 dX8_placeAll_43 dX8_placeAll_46 (by decide) (by first | omega | decide) (by first | omega | decide) ?_
    exact ⟨by rw [bY]; exact pI9_f h34, rfl, hR1, FrP_C fS, G0 T1 fS⟩

