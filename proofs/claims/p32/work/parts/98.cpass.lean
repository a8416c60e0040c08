/-! THE CLASS: pass. -/
theorem RelC_808 {S : sS} {ad : Nat → Nat → Nat} {A : Nat → Nat → Int32} {B : Nat → Int32} {v : Int32} (h : RelC S ad (A, B)) : RelC (pI S 808 (ad 8 0) v) ad (A, up1 B 0 v) := by
  refine RelC_pI (σ' := (A, up1 B 0 v)) (i := 8) (k := 0) h rfl (by unfold cFd; omega) rfl (fun i j => cLv_congr (cN_of (by decide)) (cN_of (by decide)) (cN_of (by decide)) (cN_of (by decide)) (cN_of (by decide))) (fun g j x y l => ?_) (fun g j => cR_congr (σ := (A, B)) (σ' := (A, up1 B 0 v)) rfl rfl rfl rfl rfl rfl (cN_of (by decide)) (cN_of (by decide))) rfl (fun k => rMrg_congr (σ := (A, B)) (σ' := (A, up1 B 0 v)) rfl rfl rfl _)
  by_cases g9 : g < 800
  · rw [if_neg (by omega)]
    exact cI_at (σ := (A, B)) (σ' := (A, up1 B 0 v)) x y g9 (fun z hz => rfl) (fun _ => rMrg_congr (σ := (A, B)) (σ' := (A, up1 B 0 v)) rfl rfl rfl _)
  · rcases g8_c x y g9 with rfl | rfl | rfl | rfl | rfl
    · rw [if_neg (fun z => absurd z.1 (by decide))]
      show up1 B 0 v 1 = B 1
      exact up1_n (by decide)
    · rw [if_neg (fun z => absurd z.1 (by decide))]
      show up1 B 0 v 20 = B 20
      exact up1_n (by decide)
    · rw [if_neg (fun z => absurd z.1 (by decide))]
      show up1 B 0 v 38 = B 38
      exact up1_n (by decide)
    · rw [if_neg (fun z => absurd z.1 (by decide))]
      show up1 B 0 v 43 = B 43
      exact up1_n (by decide)
    · have : j = 0 := cLv_8 l
      subst this
      rw [if_pos ⟨rfl, rfl⟩]
      show up1 B 0 v 0 = v
      exact up1_s
/-- what homes have earned is not kept by the class -/
theorem RelC_24 {S : sS} {ad : Nat → Nat → Nat} {A A' : Nat → Nat → Int32} {B : Nat → Int32} (h : RelC S ad (A, B)) (u : ∀ f, f ≠ 24 → A' f = A f) : RelC S ad (A', B) := by
  obtain ⟨a1, a2, a3, a4, a5, a6, a7, a8, a9, a10, a11⟩ := h
  have er : ∀ j, rMrg (A', B) j (rN (A', B) j) = rMrg (A, B) j (rN (A, B) j) := fun j => by
    rw [show rN (A', B) j = rN (A, B) j from congrArg (fun z => (z j).toNatClampNeg) (u 34 (by decide))]
    exact rMrg_congr (σ := (A, B)) (σ' := (A', B)) (u 35 (by decide)) (u 36 (by decide)) (u 37 (by decide)) _
  refine ⟨a1, a2, fun g j x y l => (a3 g j x y l).trans ?_, fun g j x y l => (a4 g j x y l).trans (cR_congr (σ := (A, B)) (σ' := (A', B)) (u 10 (by decide)) (u 28 (by decide)) (u 29 (by decide)) (u 39 (by decide)) (u 44 (by decide)) (u 45 (by decide)) rfl rfl).symm, a5, fun k hk => ?_, a7, a8, a9, a10, a11⟩
  · by_cases g9 : g < 800
    · exact (cI_at (σ := (A, B)) (σ' := (A', B)) x y g9 (fun z hz => congrFun (u z (fun q => by subst q; have : 99 = g / 100 := hz; omega)) j) (fun _ => er j)).symm
    · exact (cI_8 (σ := (A, B)) (σ' := (A', B)) x y g9 rfl).symm
  · rw [er]
    obtain ⟨b1, b2, b3, b4⟩ := a6 k hk
    exact ⟨fun j hj => (b1 j hj).trans (congrFun (u 19 (by decide)) _).symm, b2, b3, b4⟩
theorem IZ_A {A : Nat → Nat → Int32} {B : Nat → Int32} {f j : Nat} {v : Int32} (h : IZ (A, B)) (hv : mZ f = true → v = 0 ∨ v = 1) : IZ (up2 A f j v, B) := fun g i hg hi => by
  show up2 A f j v g i = 0 ∨ up2 A f j v g i = 1
  by_cases e : g = f ∧ i = j
  · obtain ⟨rfl, rfl⟩ := e
    rw [up2_s]; exact hv hg
  · rw [show up2 A f j v g i = A g i from if_neg e]; exact h g i hg hi
theorem IZ_vis {σ : aS} {k : Nat} (h : IZ σ) : IZ (oVisited σ k) := by
  have q : IZ (vis5 σ k, σ.2) := by
    unfold vis5 vis4 vis3 vis2 vis1
    exact IZ_A (IZ_A (IZ_A (IZ_A (IZ_A h (fun _ => Or.inl rfl)) (fun z => absurd z (by decide))) (fun z => absurd z (by decide))) (fun z => absurd z (by decide))) (fun z => absurd z (by decide))
  exact IZ_A q fun _ => pI9_01 _
theorem IC_endD {σ : aS} {k : Nat} {d : Int32} (h : IC σ) : IC (oEndD σ k d) := by
  unfold oEndD
  split
  · exact h
  · exact IC_10 (IC_A h (by decide) (by decide))
theorem cStepD_I {σ : aS} {k : Nat} {d : Int32} (hI : IC σ) (hO : IO σ) (hZ : IZ σ) : IC (cStepD σ k d) ∧ IO (cStepD σ k d) ∧ IZ (cStepD σ k d) := by
  rcases cStepD_cases σ k d with ⟨-, e⟩ | ⟨q, -, e⟩ | ⟨-, -, -, e⟩ | ⟨-, -, -, e⟩
  · rw [e]; exact ⟨hI, hO, hZ⟩
  · rw [e]
    exact ⟨IC_10 (IC_A hI (by decide) (by decide)), IO_of hO (show up2 (up2 σ.1 47 (nx (σ.1 10 k)) d) 10 k (-1) 42 = σ.1 42 from (up2_f (by decide)).trans (up2_f (by decide))) rfl, IZ_A (IZ_A hZ (fun z => absurd z (by decide))) (fun z => absurd z (by decide))⟩
  · rw [e]
    exact ⟨IC_vis hI, IO_of hO (funext fun x => vis_o (by omega)) rfl, IZ_vis hZ⟩
  · rw [e]; exact ⟨hI, hO, hZ⟩
theorem c_X8_pass (l : Launch) (hl : l.stackTraces = false) (G : gG) (S : sS) (ad : Nat → Nat → Nat) (σ : aS) (hC : RelC S ad σ) (hI : IC σ) (hO : IO σ) (hZ : IZ σ) (hE : IE σ) (c : Nat) (hc : 1 ≤ c ∧ c ≤ 400) (d0 : Nat) (hd : cN σ 0 = d0) (hd2 : d0 + c ≤ 12000) : CtC l G yX8_pass cX8_pass 8 (Option.some FieldType.int) 7 4 30 [.ref (ad 8 0), .int (nI c)] S ad (some (.int (nI (d0 + c)))) (runDays c σ) := by
  refine Ct_of (by decide) (cat1_all (by repeat first | exact trivial | refine ⟨by first | rfl | exact isR_c (isR_q _), ?_⟩)) (Nat.le_of_ble_eq_true rfl) hl fun X C hXl hin => ?_
  subst hXl
  dsimp only [lArgs, Nat.reduceAdd]
  have kx : sK S (ad 8 0) = 9 := RelC_K hC 8 (by decide) rfl
  have rx_800 : sR S 800 (ad 8 0) = some (ad 15 0) := RelC_R hC 8 800 rfl (by unfold cFd; omega) rfl rfl
  have ix_808 : sI S 808 (ad 8 0) = σ.2 0 := RelC_I hC 8 808 rfl (by unfold cFd; omega) rfl rfl
  have e0 : σ.2 0 = nI d0 := by rw [← hd]; exact hI.1.1
  rw [e0] at ix_808
  have hv : (1 : Int32) ≤ nI c ∧ nI c ≤ 400 := ⟨(nI_leI (a := 1) (by decide) (by omega)).mpr hc.1, (nI_leI (b := 400) (by omega) (by decide)).mpr hc.2⟩
  have kq0 : sK S (ad 15 0) = 104 := hC.1 15 0 (by decide) (by decide) (by decide) rfl
  have lq0 : sL S (ad 15 0) = 16 := hC.2.2.2.2.1 15 0 (by decide) (by decide) rfl
  obtain ⟨n, hn⟩ : ∃ n, n = cN σ 1 := ⟨_, rfl⟩
  have hn16 : n ≤ 16 := by rw [hn]; exact hI.2.1.2
  have fin : ∀ T τ, RelC T ad τ ∧ τ.2 = σ.2 ∧ IC τ ∧ IO τ ∧ IZ τ ∧ Fr isD S T → Stg σ (fun _ => c) τ → CQ S ad (runDays c σ) (pI T 808 (ad 8 0) (nI (d0 + c))) := by
    intro T τ hT hs
    obtain ⟨hR, h2, -, -, -, hF⟩ := hT
    obtain ⟨s1, s2, s3⟩ := runDays_Stg hI hE c 0 σ hI.1.1 (fun _ _ => rfl) (Stg_0 σ)
    rw [Nat.zero_add] at s1 s2
    have kx : sK T (ad 8 0) = 9 := RelC_K hR 8 (by decide) rfl
    refine CQ_0 ?_ (Fr_tr hF (Fr_I (by rw [kx]; exact Or.inl ⟨by decide, by decide⟩)))
    have q := RelC_24 (RelC_808 (A := τ.1) (B := τ.2) (v := nI (d0 + c)) hR) (A' := (runDays c σ).1) fun f hf => Stg_eq hs s1 hf
    have n0 : (runDays c σ).2 0 = up1 τ.2 0 (nI (d0 + c)) 0 := by rw [up1_s, s2, hd]
    have nx9 : ∀ x, x ≠ 0 → (runDays c σ).2 x = up1 τ.2 0 (nI (d0 + c)) x := fun x hx => by rw [up1_n hx, s3 x hx, h2]
    exact RelC_num q n0 (nx9 1 (by decide)) (nx9 20 (by decide)) (nx9 27 (by decide)) (nx9 38 (by decide)) (nx9 43 (by decide))
  have outer : ∀ (r j : Nat) (T : sS) (τ : aS), j + r = 16 → RelC T ad τ ∧ τ.2 = σ.2 ∧ IC τ ∧ IO τ ∧ IZ τ ∧ Fr isD S T → Stg σ (fun i => if i < j then c else 0) τ → V X G 8 (eQ X G (fun w T => w = some (.int (nI (d0 + c))) ∧ CQ S ad (runDays c σ) T) (fun _ _ => False) 4 30) 1 6 52 [(5, false, .int (nI j)), (4, false, .int (nI 16)), (3, false, .ref (ad 15 0)), (2, false, .int (nI (d0 + c))), (0, false, .ref (ad 8 0))] [] T := by
    intro r
    induction r with
    | zero =>
      intro j T τ hj hT hs
      obtain rfl : j = 16 := by omega
      have kX : sK T (ad 8 0) = 9 := RelC_K hT.1 8 (by decide) rfl
      have hs2 : Stg σ (fun _ => c) τ := Stg_t hs fun i hi => (if_pos (by omega)).symm
      refine V_iload C dX8_pass_52 rfl ?_
      refine V_iload C dX8_pass_54 rfl ?_
      refine V_igeN C (tgt := 111) (by omega) (by omega) dX8_pass_56 (by decide) (fun h56 => ?_) (fun h56 => ?_)
      · refine V_aload_n C dX8_pass_111 rfl (by first | exact isR_r _ | exact isR_q _ | exact isR_n) ?_
        refine V_iload_n C dX8_pass_112 rfl ?_
        refine V_putI C 8 8 rfl cf_8 pl_X8_53 (by decide) (by decide) dX8_pass_113 kX ?_
        refine V_iload_n C dX8_pass_116 rfl ?_
        refine V_iret C (by first | omega | decide) (by first | omega | decide) dX8_pass_117 ?_
        exact ⟨rfl, fin T τ hT hs2⟩
      · omega
    | succ r ih =>
      intro j T τ hj hT hs
      have hj16 : j < 16 := by omega
      obtain ⟨hR, h2, hI2, hO2, hZ2, hF⟩ := hT
      have kX : sK T (ad 8 0) = 9 := RelC_K hR 8 (by decide) rfl
      have iX : sI T 808 (ad 8 0) = nI d0 := (RelC_I hR 8 808 rfl (by unfold cFd; omega) rfl rfl).trans ((congrFun h2 0).trans e0)
      have kq : sK T (ad 15 0) = 104 := hR.1 15 0 (by decide) (by decide) (by decide) rfl
      have lq : sL T (ad 15 0) = 16 := hR.2.2.2.2.1 15 0 (by decide) (by decide) rfl
      have aq := hR.2.2.2.2.2.2.1 j hj16
      have n1 : cN τ 1 = n := by rw [hn]; exact congrArg Int32.toNatClampNeg (congrFun h2 1)
      rw [n1] at aq
      by_cases hjn : j < n
      · rw [if_pos hjn] at aq
        have inner : ∀ (m t : Nat) (T : sS) (τ : aS), t + m = c → RelC T ad τ ∧ τ.2 = σ.2 ∧ IC τ ∧ IO τ ∧ IZ τ ∧ Fr isD S T → Stg σ (fun i => if i < j then c else if i = j then t else 0) τ → V X G 8 (eQ X G (fun w T => w = some (.int (nI (d0 + c))) ∧ CQ S ad (runDays c σ) T) (fun _ _ => False) 4 30) 1 6 73 [(7, false, .int (nI (d0 + t + 1))), (6, false, va_rf (some (ad 0 j))), (5, false, .int (nI j)), (4, false, .int (nI 16)), (3, false, .ref (ad 15 0)), (2, false, .int (nI (d0 + c))), (0, false, .ref (ad 8 0))] [] T := by
          clear hs hR h2 hI2 hO2 hZ2 hF kX iX kq lq n1 aq
          clear τ T
          intro m
          induction m with
          | zero =>
            intro t T τ ht hT hs
            obtain rfl : t = c := by omega
            have hR := hT.1
            have hk : j < cN τ 1 := by rw [show cN τ 1 = n by rw [hn]; exact congrArg Int32.toNatClampNeg (congrFun hT.2.1 1)]; exact hjn
            have L := ih (j + 1) T τ (by omega) hT (Stg_t hs fun i hi => by
              by_cases z : i < j
              · rw [if_pos z, if_pos (by omega)]
              · rw [if_neg z]
                by_cases w : i = j
                · rw [if_pos w, if_pos (by omega)]
                · rw [if_neg w, if_neg (by omega)])
            have kc : sK T (ad 0 j) = 1 := RelC_K hR 0 (by decide) hk
            have rc_11 : sR T 11 (ad 0 j) = (if τ.1 10 j = -1 then none else some (ad 6 (nx (τ.1 10 j)))) := RelC_R hR 0 11 rfl (by unfold cFd; omega) rfl hk
            refine V_aload C dX8_pass_73 rfl (by first | exact isR_r _ | exact isR_q _ | exact isR_n) ?_
            dsimp only
            refine V_ifnull C (tgt := 105) dX8_pass_75 (by decide) (fun h75 => ?_) (fun a75 h75 => ?_)
            · cases h75
            · cases h75
              refine V_aload C dX8_pass_78 rfl (by first | exact isR_r _ | exact isR_q _ | exact isR_n) ?_
              refine V_getRe C 0 11 rfl cf_0 fl_X8_186 (by decide) (by decide) dX8_pass_80 kc rc_11 ?_
              refine V_ifnull C (tgt := 105) dX8_pass_83 (by decide) (fun h83 => ?_) (fun a83 h83 => ?_)
              · refine V_incN C dX8_pass_105 rfl (by decide) rfl ?_
                simp only [lset1, lset2, List.filter_cons, List.filter_nil, Nat.reduceBEq, Nat.reduceAdd, Bool.not_true, Bool.not_false, Bool.and_true, Bool.and_false, Bool.true_and, Bool.false_and, if_true, if_false, Bool.false_eq_true, reduceIte]
                refine V_goto C (tgt := 52) dX8_pass_108 (by decide) ?_
                refine V_sub ?_ L
                exact ⟨rfl, rfl, rfl, rfl, rfl, trivial⟩
              · refine V_iload C dX8_pass_86 rfl ?_
                refine V_iload_n C dX8_pass_88 rfl ?_
                refine V_igtN C (tgt := 105) (by omega) (by omega) dX8_pass_89 (by decide) (fun h89 => ?_) (fun h89 => ?_)
                · refine V_incN C dX8_pass_105 rfl (by decide) rfl ?_
                  simp only [lset1, lset2, List.filter_cons, List.filter_nil, Nat.reduceBEq, Nat.reduceAdd, Bool.not_true, Bool.not_false, Bool.and_true, Bool.and_false, Bool.true_and, Bool.false_and, if_true, if_false, Bool.false_eq_true, reduceIte]
                  refine V_goto C (tgt := 52) dX8_pass_108 (by decide) ?_
                  refine V_sub ?_ L
                  exact ⟨rfl, rfl, rfl, rfl, rfl, trivial⟩
                · omega
          | succ m ihm =>
            intro t T τ ht hT hs
            obtain ⟨hR, h2, hI2, hO2, hZ2, hF⟩ := hT
            have hjs : j < cN σ 1 := by rw [← hn]; exact hjn
            have hk : j < cN τ 1 := by rw [show cN τ 1 = n by rw [hn]; exact congrArg Int32.toNatClampNeg (congrFun h2 1)]; exact hjn
            have n38 : cN τ 38 = cN σ 38 := congrArg Int32.toNatClampNeg (congrFun h2 38)
            have tj : (if j < j then c else if j = j then t else 0) = t := by
              rw [if_neg (Nat.lt_irrefl j), if_pos rfl]
            have kc : sK T (ad 0 j) = 1 := RelC_K hR 0 (by decide) hk
            have rc_11 : sR T 11 (ad 0 j) = (if τ.1 10 j = -1 then none else some (ad 6 (nx (τ.1 10 j)))) := RelC_R hR 0 11 rfl (by unfold cFd; omega) rfl hk
            by_cases e : τ.1 10 j = -1
            · rw [if_pos e] at rc_11
              have L := ih (j + 1) T τ (by omega) ⟨hR, h2, hI2, hO2, hZ2, hF⟩ (Stg_t (Stg_e hI hE hs n38 hjs e (m + 1)) fun i hi => by
                rw [tj]
                by_cases z : i < j
                · rw [if_pos (by omega), if_neg (by omega), if_pos z]
                · by_cases w : i = j
                  · rw [if_pos w, if_pos (by omega)]; omega
                  · rw [if_neg w, if_neg (by omega), if_neg z, if_neg w])
              refine V_aload C dX8_pass_73 rfl (by first | exact isR_r _ | exact isR_q _ | exact isR_n) ?_
              dsimp only
              refine V_ifnull C (tgt := 105) dX8_pass_75 (by decide) (fun h75 => ?_) (fun a75 h75 => ?_)
              · cases h75
              · cases h75
                refine V_aload C dX8_pass_78 rfl (by first | exact isR_r _ | exact isR_q _ | exact isR_n) ?_
                refine V_getRe C 0 11 rfl cf_0 fl_X8_186 (by decide) (by decide) dX8_pass_80 kc rc_11 ?_
                refine V_ifnull C (tgt := 105) dX8_pass_83 (by decide) (fun h83 => ?_) (fun a83 h83 => ?_)
                · refine V_incN C dX8_pass_105 rfl (by decide) rfl ?_
                  simp only [lset1, lset2, List.filter_cons, List.filter_nil, Nat.reduceBEq, Nat.reduceAdd, Bool.not_true, Bool.not_false, Bool.and_true, Bool.and_false, Bool.true_and, Bool.false_and, if_true, if_false, Bool.false_eq_true, reduceIte]
                  refine V_goto C (tgt := 52) dX8_pass_108 (by decide) ?_
                  refine V_sub ?_ L
                  exact ⟨rfl, rfl, rfl, rfl, rfl, trivial⟩
                · cases h83
            · rw [if_neg e] at rc_11
              have q := Stg_s hI hE hs n38 hjs
              rw [tj, hd] at q
              have q2 : Stg σ (fun i => if i < j then c else if i = j then t + 1 else 0) (cStepD τ j (nI (d0 + t + 1))) := Stg_t q fun i hi => by
                by_cases z : i < j
                · rw [if_pos z, if_neg (by omega), if_pos z]
                · by_cases w : i = j
                  · rw [if_neg z, if_pos w, if_pos w]
                  · rw [if_neg z, if_neg w, if_neg w, if_neg z, if_neg w]
              obtain ⟨g1, g2, g3⟩ := cStepD_I (k := j) (d := nI (d0 + t + 1)) hI2 hO2 hZ2
              refine V_aload C dX8_pass_73 rfl (by first | exact isR_r _ | exact isR_q _ | exact isR_n) ?_
              dsimp only
              refine V_ifnull C (tgt := 105) dX8_pass_75 (by decide) (fun h75 => ?_) (fun a75 h75 => ?_)
              · cases h75
              · cases h75
                refine V_aload C dX8_pass_78 rfl (by first | exact isR_r _ | exact isR_q _ | exact isR_n) ?_
                refine V_getRe C 0 11 rfl cf_0 fl_X8_186 (by decide) (by decide) dX8_pass_80 kc rc_11 ?_
                refine V_ifnull C (tgt := 105) dX8_pass_83 (by decide) (fun h83 => ?_) (fun a83 h83 => ?_)
                · cases h83
                · refine V_iload C dX8_pass_86 rfl ?_
                  refine V_iload_n C dX8_pass_88 rfl ?_
                  refine V_igtN C (tgt := 105) (by omega) (by omega) dX8_pass_89 (by decide) (fun h89 => ?_) (fun h89 => ?_)
                  · omega
                  · refine V_aload C dX8_pass_92 rfl (by first | exact isR_r _ | exact isR_q _ | exact isR_n) ?_
                    refine V_iload C dX8_pass_94 rfl ?_
                    refine V_callV C (c_X0_beginDay _ hl G T ad τ hR hI2 hO2 hZ2 j hk (nI (d0 + t + 1))) kv_X8_215 cf_0 (by decide) rfl kc (by decide) (by decide) rfl rfl (Nat.le_of_ble_eq_true rfl) dX8_pass_96 ?_ (fun _ _ h => h.elim)
                    intro w1 T1 hT1
                    obtain ⟨rfl, hR1, hF1⟩ := hT1
                    dsimp only [Option.toList_some, Option.toList_none, List.cons_append, List.nil_append]
                    have L := ihm (t + 1) T1 _ (by omega) ⟨hR1, (cStepD_2 _ _ _).trans h2, g1, g2, g3, Fr_tr hF hF1⟩ q2
                    refine V_incN C dX8_pass_99 rfl (by decide) rfl ?_
                    simp only [lset1, lset2, List.filter_cons, List.filter_nil, Nat.reduceBEq, Nat.reduceAdd, Bool.not_true, Bool.not_false, Bool.and_true, Bool.and_false, Bool.true_and, Bool.false_and, if_true, if_false, Bool.false_eq_true, reduceIte]
                    refine V_goto C (tgt := 73) dX8_pass_102 (by decide) ?_
                    refine V_sub ?_ L
                    exact ⟨rfl, rfl, rfl, rfl, rfl, rfl, rfl, trivial⟩
        have L := inner c 0 T τ (by omega) ⟨hR, h2, hI2, hO2, hZ2, hF⟩ (Stg_t hs fun i hi => by
          by_cases z : i < j
          · rw [if_pos z, if_pos z]
          · rw [if_neg z, if_neg z]
            split <;> rfl)
        refine V_iload C dX8_pass_52 rfl ?_
        refine V_iload C dX8_pass_54 rfl ?_
        refine V_igeN C (tgt := 111) (by omega) (by omega) dX8_pass_56 (by decide) (fun h56 => ?_) (fun h56 => ?_)
        · omega
        · refine V_aload_n C dX8_pass_59 rfl (by first | exact isR_r _ | exact isR_q _ | exact isR_n) ?_
          refine V_iload C dX8_pass_60 rfl ?_
          refine V_aaldE C 4 (by decide) kq (by decide) lq rfl hj16 (by decide) dX8_pass_62 ?_
          rw [aq]
          refine V_astore C dX8_pass_63 (by decide) (by first | exact isR_r _ | exact isR_q _ | exact isR_n) rfl ?_
          simp only [lset1, lset2, List.filter_cons, List.filter_nil, Nat.reduceBEq, Nat.reduceAdd, Bool.not_true, Bool.not_false, Bool.and_true, Bool.and_false, Bool.true_and, Bool.false_and, if_true, if_false, Bool.false_eq_true, reduceIte]
          refine V_aload_n C dX8_pass_65 rfl (by first | exact isR_r _ | exact isR_q _ | exact isR_n) ?_
          refine V_getIe C 8 8 rfl cf_8 fl_X8_53 (by decide) (by decide) dX8_pass_66 kX iX ?_
          refine V_iconst C (v := 1) dX8_pass_69 (by decide) ?_
          refine V_iadd C dX8_pass_70 ?_
          rw [nI_1]
          refine V_istore C dX8_pass_71 (by decide) rfl ?_
          simp only [lset1, lset2, List.filter_cons, List.filter_nil, Nat.reduceBEq, Nat.reduceAdd, Bool.not_true, Bool.not_false, Bool.and_true, Bool.and_false, Bool.true_and, Bool.false_and, if_true, if_false, Bool.false_eq_true, reduceIte]
          refine V_sub ?_ L
          exact ⟨rfl, rfl, rfl, rfl, rfl, rfl, rfl, trivial⟩
      · rw [if_neg hjn] at aq
        have L := ih (j + 1) T τ (by omega) ⟨hR, h2, hI2, hO2, hZ2, hF⟩ (Stg_t hs fun i hi => by
          rw [if_pos (by omega), if_pos (by omega)])
        refine V_iload C dX8_pass_52 rfl ?_
        refine V_iload C dX8_pass_54 rfl ?_
        refine V_igeN C (tgt := 111) (by omega) (by omega) dX8_pass_56 (by decide) (fun h56 => ?_) (fun h56 => ?_)
        · omega
        · refine V_aload_n C dX8_pass_59 rfl (by first | exact isR_r _ | exact isR_q _ | exact isR_n) ?_
          refine V_iload C dX8_pass_60 rfl ?_
          refine V_aaldE C 4 (by decide) kq (by decide) lq rfl hj16 (by decide) dX8_pass_62 ?_
          rw [aq]
          refine V_astore C dX8_pass_63 (by decide) (by first | exact isR_r _ | exact isR_q _ | exact isR_n) rfl ?_
          simp only [lset1, lset2, List.filter_cons, List.filter_nil, Nat.reduceBEq, Nat.reduceAdd, Bool.not_true, Bool.not_false, Bool.and_true, Bool.and_false, Bool.true_and, Bool.false_and, if_true, if_false, Bool.false_eq_true, reduceIte]
          refine V_aload_n C dX8_pass_65 rfl (by first | exact isR_r _ | exact isR_q _ | exact isR_n) ?_
          refine V_getIe C 8 8 rfl cf_8 fl_X8_53 (by decide) (by decide) dX8_pass_66 kX iX ?_
          refine V_iconst C (v := 1) dX8_pass_69 (by decide) ?_
          refine V_iadd C dX8_pass_70 ?_
          refine V_istore C dX8_pass_71 (by decide) rfl ?_
          simp only [lset1, lset2, List.filter_cons, List.filter_nil, Nat.reduceBEq, Nat.reduceAdd, Bool.not_true, Bool.not_false, Bool.and_true, Bool.and_false, Bool.true_and, Bool.false_and, if_true, if_false, Bool.false_eq_true, reduceIte]
          refine V_aload C dX8_pass_73 rfl (by first | exact isR_r _ | exact isR_q _ | exact isR_n) ?_
          dsimp only
          refine V_ifnull C (tgt := 105) dX8_pass_75 (by decide) (fun h75 => ?_) (fun a75 h75 => ?_)
          · refine V_incN C dX8_pass_105 rfl (by decide) rfl ?_
            simp only [lset1, lset2, List.filter_cons, List.filter_nil, Nat.reduceBEq, Nat.reduceAdd, Bool.not_true, Bool.not_false, Bool.and_true, Bool.and_false, Bool.true_and, Bool.false_and, if_true, if_false, Bool.false_eq_true, reduceIte]
            refine V_goto C (tgt := 52) dX8_pass_108 (by decide) ?_
            refine V_sub ?_ L
            exact ⟨rfl, rfl, rfl, rfl, rfl, trivial⟩
          · cases h75
  have L := outer 16 0 S σ (by omega) ⟨hC, rfl, hI, hO, hZ, Fr_rf⟩ (Stg_t (Stg_0 σ) fun i _ => if_neg (Nat.not_lt_zero i))
  refine V_iload_n C dX8_pass_0 rfl ?_
  refine V_iconst C (v := 1) dX8_pass_1 (by decide) ?_
  refine V_sipush C (v := 400) dX8_pass_2 (by decide) ?_
  refine V_fS C (c_X8_isWithin _ hl G S _ _ _) ks_X8_34 (by decide) (by decide) rfl rfl (Nat.le_of_ble_eq_true rfl) dX8_pass_5 ?_
  dsimp only [Option.toList_some, Option.toList_none, List.cons_append, List.nil_append]
  rw [bI_t hv]
  refine V_fS C (c_X8_require1 _ hl G S) ks_X8_38 (by decide) (by decide) rfl rfl (Nat.le_of_ble_eq_true rfl) dX8_pass_8 ?_
  dsimp only [Option.toList_some, Option.toList_none, List.cons_append, List.nil_append]
  refine V_aload_n C dX8_pass_11 rfl (by first | exact isR_r _ | exact isR_q _ | exact isR_n) ?_
  refine V_getIe C 8 8 rfl cf_8 fl_X8_53 (by decide) (by decide) dX8_pass_12 kx ix_808 ?_
  refine V_iload_n C dX8_pass_15 rfl ?_
  refine V_iadd C dX8_pass_16 ?_
  rw [nI_add]
  refine V_sipush C (v := 12000) dX8_pass_17 (by decide) ?_
  refine V_icmp_le C (tgt := 33) dX8_pass_20 (by decide) (fun h20 => ?_) (fun h20 => ?_)
  · refine V_aload_n C dX8_pass_33 rfl (by first | exact isR_r _ | exact isR_q _ | exact isR_n) ?_
    refine V_getIe C 8 8 rfl cf_8 fl_X8_53 (by decide) (by decide) dX8_pass_34 kx ix_808 ?_
    refine V_iload_n C dX8_pass_37 rfl ?_
    refine V_iadd C dX8_pass_38 ?_
    rw [nI_add]
    refine V_istore_n C dX8_pass_39 (by decide) rfl ?_
    simp only [lset1, lset2, List.filter_cons, List.filter_nil, Nat.reduceBEq, Nat.reduceAdd, Bool.not_true, Bool.not_false, Bool.and_true, Bool.and_false, Bool.true_and, Bool.false_and, if_true, if_false, Bool.false_eq_true, reduceIte]
    refine V_aload_n C dX8_pass_40 rfl (by first | exact isR_r _ | exact isR_q _ | exact isR_n) ?_
    refine V_getS C 8 0 rfl cf_8 fl_X8_11 (by decide) (by decide) dX8_pass_41 kx rx_800 ?_
    refine V_astore_n C dX8_pass_44 (by decide) (by first | exact isR_r _ | exact isR_q _ | exact isR_n) rfl ?_
    simp only [lset1, lset2, List.filter_cons, List.filter_nil, Nat.reduceBEq, Nat.reduceAdd, Bool.not_true, Bool.not_false, Bool.and_true, Bool.and_false, Bool.true_and, Bool.false_and, if_true, if_false, Bool.false_eq_true, reduceIte]
    refine V_aload_n C dX8_pass_45 rfl (by first | exact isR_r _ | exact isR_q _ | exact isR_n) ?_
    refine V_alen C (v := nI 16) kq0 (by decide) (by rw [lq0]; rfl) dX8_pass_46 ?_
    refine V_istore C dX8_pass_47 (by decide) rfl ?_
    simp only [lset1, lset2, List.filter_cons, List.filter_nil, Nat.reduceBEq, Nat.reduceAdd, Bool.not_true, Bool.not_false, Bool.and_true, Bool.and_false, Bool.true_and, Bool.false_and, if_true, if_false, Bool.false_eq_true, reduceIte]
    refine V_iconst C (v := 0) dX8_pass_49 (by decide) ?_
    refine V_istore C dX8_pass_50 (by decide) rfl ?_
    simp only [lset1, lset2, List.filter_cons, List.filter_nil, Nat.reduceBEq, Nat.reduceAdd, Bool.not_true, Bool.not_false, Bool.and_true, Bool.and_false, Bool.true_and, Bool.false_and, if_true, if_false, Bool.false_eq_true, reduceIte]
    refine V_sub ?_ L
    exact ⟨rfl, rfl, rfl, rfl, rfl, trivial⟩
  · exact absurd ((nI_leI (a := d0 + c) (b := 12000) (by omega) (by decide)).mpr hd2) h20
theorem c_X8_passY (l : Launch) (hl : l.stackTraces = false) (G : gG) (S : sS) (ad : Nat → Nat → Nat) (σ : aS) (hC : RelC S ad σ) (v : Int32) (hv : ¬ (1 ≤ v ∧ v ≤ 400)) : CtX l G yX8_pass cX8_pass 8 (Option.some FieldType.int) 7 4 30 [.ref (ad 8 0), .int v] S "java/lang/IllegalArgumentException" := by
  refine Ct_of (by decide) (cat1_all (by repeat first | exact trivial | refine ⟨by first | rfl | exact isR_c (isR_q _), ?_⟩)) (Nat.le_of_ble_eq_true rfl) hl fun X C hXl hin => ?_
  subst hXl
  dsimp only [lArgs, Nat.reduceAdd]
  refine V_iload_n C dX8_pass_0 rfl ?_
  refine V_iconst C (v := 1) dX8_pass_1 (by decide) ?_
  refine V_sipush C (v := 400) dX8_pass_2 (by decide) ?_
  refine V_fS C (c_X8_isWithin _ hl G S _ _ _) ks_X8_34 (by decide) (by decide) rfl rfl (Nat.le_of_ble_eq_true rfl) dX8_pass_5 ?_
  dsimp only [Option.toList_some, Option.toList_none, List.cons_append, List.nil_append]
  rw [bI_f hv]
  refine V_xS C (c_X8_require0 _ hl G S) ks_X8_38 (by decide) (by decide) rfl rfl (Nat.le_of_ble_eq_true rfl) dX8_pass_8 (by first | omega | decide) (by first | omega | decide) ?_
  exact ⟨rfl, rfl⟩
theorem c_X8_passZ (l : Launch) (hl : l.stackTraces = false) (G : gG) (S : sS) (ad : Nat → Nat → Nat) (σ : aS) (hC : RelC S ad σ) (v : Int32) (hv : 1 ≤ v ∧ v ≤ 400) (hd : ¬ σ.2 0 + v ≤ 12000) : CtX l G yX8_pass cX8_pass 8 (Option.some FieldType.int) 7 4 30 [.ref (ad 8 0), .int v] S "java/lang/IllegalStateException" := by
  refine Ct_of (by decide) (cat1_all (by repeat first | exact trivial | refine ⟨by first | rfl | exact isR_c (isR_q _), ?_⟩)) (Nat.le_of_ble_eq_true rfl) hl fun X C hXl hin => ?_
  subst hXl
  dsimp only [lArgs, Nat.reduceAdd]
  have kx : sK S (ad 8 0) = 9 := RelC_K hC 8 (by decide) rfl
  have ix_808 : sI S 808 (ad 8 0) = σ.2 0 := RelC_I hC 8 808 rfl (by unfold cFd; omega) rfl rfl
  refine V_iload_n C dX8_pass_0 rfl ?_
  refine V_iconst C (v := 1) dX8_pass_1 (by decide) ?_
  refine V_sipush C (v := 400) dX8_pass_2 (by decide) ?_
  refine V_fS C (c_X8_isWithin _ hl G S _ _ _) ks_X8_34 (by decide) (by decide) rfl rfl (Nat.le_of_ble_eq_true rfl) dX8_pass_5 ?_
  dsimp only [Option.toList_some, Option.toList_none, List.cons_append, List.nil_append]
  rw [bI_t hv]
  refine V_fS C (c_X8_require1 _ hl G S) ks_X8_38 (by decide) (by decide) rfl rfl (Nat.le_of_ble_eq_true rfl) dX8_pass_8 ?_
  dsimp only [Option.toList_some, Option.toList_none, List.cons_append, List.nil_append]
  refine V_aload_n C dX8_pass_11 rfl (by first | exact isR_r _ | exact isR_q _ | exact isR_n) ?_
  refine V_getIe C 8 8 rfl cf_8 fl_X8_53 (by decide) (by decide) dX8_pass_12 kx ix_808 ?_
  refine V_iload_n C dX8_pass_15 rfl ?_
  refine V_iadd C dX8_pass_16 ?_
  refine V_sipush C (v := 12000) dX8_pass_17 (by decide) ?_
  refine V_icmp_le C (tgt := 33) dX8_pass_20 (by decide) (fun h20 => ?_) (fun h20 => ?_)
  · exact absurd h20 hd
  · refine V_throwS C tw_X8_46_213_50 dX8_pass_23 dX8_pass_26 dX8_pass_27 dX8_pass_29 dX8_pass_32 (by decide) (by first | omega | decide) (by first | omega | decide) ?_
    exact ⟨rfl, rfl⟩

