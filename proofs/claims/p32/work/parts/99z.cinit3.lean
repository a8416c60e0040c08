/-! THE CLASS: its own constructor, walked. -/
theorem PM_S {S T U W : sS} {p q f co m1 ci m2 : Nat} (h : PM (nO T 5 p) U p f co m1 ci m2) (hp : sK U p = 5) (hS : ∀ a, sK T a = 0 → sK S a = 0) (hW : FrE U W q) (hq : sK U q = 9) (hr : sR W f p = sR U f p) (hc : co ≠ 0 ∧ co ≠ 9 ∧ ci ≠ 0 ∧ ci ≠ 9) : PM S W p f co m1 ci m2 := by
  obtain ⟨a, r, h1, h2, h3, h4, h5, h6⟩ := h
  have z : ∀ x, sK (nO T 5 p) x = 0 → sK S x = 0 := fun x hx => by
    have e : x ≠ p := fun e => by
      rw [e, show sK (nO T 5 p) p = 5 from up1_s] at hx
      exact absurd hx (by decide)
    exact hS x ((up1_n e).symm.trans hx)
  have na : a ≠ q := fun e => hc.2.1 (by rw [← h2, e, hq])
  obtain ⟨b1, b2, b3, b4, b5, b6, b7⟩ := hW a (by rw [h2]; exact hc.1) na
  refine ⟨a, r, z a h1, b1.trans h2, b2.trans h3, hr.trans h4, fun j hj => ?_, h6⟩
  obtain ⟨c1, c2, c3, c4, c5⟩ := h5 j hj
  have nr : r j ≠ q := fun e => hc.2.2.2 (by rw [← c3, e, hq])
  obtain ⟨d1, d2, d3, d4, d5, d6, d7⟩ := hW (r j) (by rw [c3]; exact hc.2.2.1) nr
  exact ⟨(congrFun b7 j).trans c1, z _ c2, d1.trans c3, d2.trans c4, d5.trans c5⟩
theorem FrE_R {T : sS} {f q : Nat} {v : Option Nat} : FrE T (pR T f q v) q := fun _ _ hn => ⟨rfl, rfl, fun _ => rfl, fun _ => up2_n2 hn, rfl, rfl, rfl⟩
theorem PQ_of {S T U : sS} {q p : Nat} (hPP : PP (nO T 5 p) U p) (hS : ∀ a, sK T a = 0 → sK S a = 0) (hz : sK T p = 0) (hq : sK U q = 9) : PQ S (pR U 803 q (some p)) p := by
  obtain ⟨h1, h2, h3⟩ := hPP
  have nq : p ≠ q := fun e => by
    have := h1.1
    rw [e, hq] at this
    exact absurd this (by decide)
  refine ⟨hS p hz, h1.1, fun f hf => ?_, PM_S h2 h1.1 hS FrE_R hq (sR_n1 (by decide)) (by decide), PM_S h3 h1.1 hS FrE_R hq (sR_n1 (by decide)) (by decide)⟩
  obtain ⟨a, a1, a2, a3, a4, a5⟩ := PX_get h1 f hf
  exact ⟨a, a2, a3, (up2_n2 nq).trans a5⟩
theorem c_X8_init (l : Launch) (hl : l.stackTraces = false) (G : gG) (S : sS) (q : Nat) (kq : sK S q = 9) (h0 : ∀ f, sI S f q = 0) : Ct l G yX8_init cX8_init 1 none 2 26 604 [.ref q] S (fun w T => w = none ∧ (∃ ad, ad 8 0 = q ∧ RelC T ad σ0 ∧ ∀ j, j < 10 → sA T (ad 27 j) 0 = 0) ∧ FrE S T q) (fun _ _ => False) := by
  refine Ct_of (by decide) (cat1_all (by repeat first | exact trivial | refine ⟨by first | rfl | exact isR_c (isR_q _), ?_⟩)) (Nat.le_of_ble_eq_true rfl) hl fun X C hXl hin => ?_
  subst hXl
  dsimp only [lArgs, Nat.reduceAdd]
  refine V_aload_n C dX8_init_0 rfl (by first | exact isR_r _ | exact isR_q _ | exact isR_n) ?_
  refine V_objI C ko_X8_1 ko_1 ko_2 (by decide) (by decide) dX8_init_1 ?_
  refine V_gnr (P := fun T => PX 9 S T q []) (PX_0 kq) (fun T hP => ?_)
  refine V_aload_n C dX8_init_4 rfl (by first | exact isR_r _ | exact isR_q _ | exact isR_n) ?_
  refine V_bipush C (v := 16) dX8_init_5 (by decide) ?_
  refine V_anew C 104 (t := 4) (m := 16) rfl (by decide) (by decide) cl_X8_9 (by decide) rfl (by decide) (by decide) (by decide) dX8_init_7 (fun a7 hB hz => ?_)
  have hN := PX_s (f := 800) (c := 104) (m := 16) hP (by decide) (hz a7 (Nat.le_refl _)) (by decide)
  refine V_putFR C hin 8 0 (o := some a7) rfl cf_8 pl_X8_11 rfl (Or.inr ⟨_, rfl⟩) (by decide) (by decide) dX8_init_10 hN.1 ?_
  refine V_gnr (P := fun T => PX 9 S T q [(800, 104, 16)]) hN (fun T hP => ?_)
  refine V_aload_n C dX8_init_13 rfl (by first | exact isR_r _ | exact isR_q _ | exact isR_n) ?_
  refine V_bipush C (v := 10) dX8_init_14 (by decide) ?_
  refine V_anew C 105 (t := 5) (m := 10) rfl (by decide) (by decide) cl_X8_15 (by decide) rfl (by decide) (by decide) (by decide) dX8_init_16 (fun a16 hB hz => ?_)
  have hN := PX_s (f := 801) (c := 105) (m := 10) hP (by decide) (hz a16 (Nat.le_refl _)) (by decide)
  refine V_putFR C hin 8 1 (o := some a16) rfl cf_8 pl_X8_17 rfl (Or.inr ⟨_, rfl⟩) (by decide) (by decide) dX8_init_19 hN.1 ?_
  refine V_gnr (P := fun T => PX 9 S T q [(801, 105, 10), (800, 104, 16)]) hN (fun T hP => ?_)
  refine V_aload_n C dX8_init_22 rfl (by first | exact isR_r _ | exact isR_q _ | exact isR_n) ?_
  refine V_bipush C (v := 100) dX8_init_23 (by decide) ?_
  refine V_anew C 106 (t := 6) (m := 100) rfl (by decide) (by decide) cl_X8_21 (by decide) rfl (by decide) (by decide) (by decide) dX8_init_25 (fun a25 hB hz => ?_)
  have hN := PX_s (f := 802) (c := 106) (m := 100) hP (by decide) (hz a25 (Nat.le_refl _)) (by decide)
  refine V_putFR C hin 8 2 (o := some a25) rfl cf_8 pl_X8_23 rfl (Or.inr ⟨_, rfl⟩) (by decide) (by decide) dX8_init_28 hN.1 ?_
  refine V_gnr (P := fun T => PX 9 S T q [(802, 106, 100), (801, 105, 10), (800, 104, 16)]) hN (fun T hP => ?_)
  refine V_aload_n C dX8_init_31 rfl (by first | exact isR_r _ | exact isR_q _ | exact isR_n) ?_
  refine V_new C 4 cf_4 nw_X8_27 (by decide) (by decide) (by decide) dX8_init_32 (fun p hB hz => ?_)
  have zp := hz p (Nat.le_refl p)
  have kp : sK (nO T 5 p) p = 5 := up1_s
  refine V_dup C dX8_init_35 (by first | rfl | exact isR_c (isR_q _)) ?_
  refine V_callI C (c_X4_init _ hl G _ p kp) ki_X8_29 (by decide) (by decide) rfl rfl (Nat.le_of_ble_eq_true rfl) dX8_init_36 ?_
  intro w1 U hU
  obtain ⟨rfl, hPP⟩ := hU
  dsimp only [Option.toList_some, Option.toList_none, List.cons_append, List.nil_append]
  have fTU : FrN T U := FrN_E zp hPP.1.2.1
  obtain ⟨gq1, gq2, gq3, gq4, -⟩ := fTU q (by rw [hP.1]; decide) id
  have kU : sK U q = 9 := gq1.trans hP.1
  have hPU := PX_up hP (FrE_N fTU) gq1 gq3 (fun x hx => ⟨(show ∀ x ∈ [(802, 106, 100), (801, 105, 10), (800, 104, 16)], x.2.1 ≠ 0 by decide) x hx, (show ∀ x ∈ [(802, 106, 100), (801, 105, 10), (800, 104, 16)], x.2.1 ≠ 9 by decide) x hx, gq4 x.1⟩)
  refine V_putFR C hin 8 3 (o := some p) rfl cf_8 pl_X8_30 rfl (Or.inl ⟨_, rfl⟩) (by decide) (by decide) dX8_init_39 kU ?_
  refine V_vret C (by first | omega | decide) (by first | omega | decide) dX8_init_42 ?_
  have hPW : PX 9 S (pR U 803 q (some p)) q [(802, 106, 100), (801, 105, 10), (800, 104, 16)] := PX_up hPU FrE_R rfl (fun _ => rfl) (fun x hx => ⟨(show ∀ x ∈ [(802, 106, 100), (801, 105, 10), (800, 104, 16)], x.2.1 ≠ 0 by decide) x hx, (show ∀ x ∈ [(802, 106, 100), (801, 105, 10), (800, 104, 16)], x.2.1 ≠ 9 by decide) x hx, up2_n1 ((show ∀ x ∈ [(802, 106, 100), (801, 105, 10), (800, 104, 16)], x.1 ≠ 803 by decide) x hx)⟩)
  exact ⟨rfl, RelC_0 hPW up2_s (PQ_of hPP (fun a ha => FrE_z hP.2.1 (by rw [hP.1]; decide) ha) zp kU) h0, hPW.2.1⟩

