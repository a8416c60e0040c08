/-! THE CLASS: the constructors of the plan and of the class itself. -/
/-- a new object q, its new rows behind the fields that L names -/
def PX (K0 : Nat) (S0 T : sS) (q : Nat) (L : List (Nat × Nat × Nat)) : Prop := sK T q = K0 ∧ FrE S0 T q ∧ (∀ g, sI T g q = sI S0 g q) ∧ ∀ p ∈ L, ∃ a, sK S0 a = 0 ∧ sK T a = p.2.1 ∧ sL T a = p.2.2 ∧ (sQ T a = fun _ => none) ∧ sR T p.1 q = some a
/-- a new row of rows behind its field f -/
def PM (S0 T : sS) (q f co m1 ci m2 : Nat) : Prop := ∃ (a : Nat) (r : Nat → Nat), sK S0 a = 0 ∧ sK T a = co ∧ sL T a = m1 ∧ sR T f q = some a ∧ (∀ j, j < m1 → sQ T a j = some (r j) ∧ sK S0 (r j) = 0 ∧ sK T (r j) = ci ∧ sL T (r j) = m2 ∧ (sA T (r j) = fun _ => 0)) ∧ ∀ j j', r j = r j' → j = j'
theorem PX_0 {K0 : Nat} {S : sS} {q : Nat} (h : sK S q = K0) : PX K0 S S q [] := ⟨h, FrE_0, fun _ => rfl, fun p hp => nomatch hp⟩
theorem PX_up {K0 : Nat} {S0 T U : sS} {q : Nat} {L : List (Nat × Nat × Nat)} (h : PX K0 S0 T q L) (hU : FrE T U q) (hk : sK U q = sK T q) (hi : ∀ g, sI U g q = sI T g q) (hL : ∀ p ∈ L, p.2.1 ≠ 0 ∧ p.2.1 ≠ K0 ∧ sR U p.1 q = sR T p.1 q) : PX K0 S0 U q L := by
  obtain ⟨h1, h2, h3, h4⟩ := h
  refine ⟨hk.trans h1, FrE_tr h2 hU, fun g => (hi g).trans (h3 g), fun p hp => ?_⟩
  obtain ⟨a, a1, a2, a3, a4, a5⟩ := h4 p hp
  obtain ⟨l1, l2, l3⟩ := hL p hp
  have na : a ≠ q := fun e => l2 (by rw [← a2, e, h1])
  obtain ⟨b1, b2, b3, b4, b5, b6, b7⟩ := hU a (by rw [a2]; exact l1) na
  exact ⟨a, a1, b1.trans a2, b2.trans a3, b7.trans a4, l3.trans a5⟩
theorem PM_up {K0 : Nat} {S0 T U : sS} {q f co m1 ci m2 : Nat} (h : PM S0 T q f co m1 ci m2) (hT : sK T q = K0) (hU : FrE T U q) (hr : sR U f q = sR T f q) (hc : co ≠ 0 ∧ co ≠ K0 ∧ ci ≠ 0 ∧ ci ≠ K0) : PM S0 U q f co m1 ci m2 := by
  obtain ⟨a, r, h1, h2, h3, h4, h5, h6⟩ := h
  have na : a ≠ q := fun e => hc.2.1 (by rw [← h2, e, hT])
  obtain ⟨b1, b2, b3, b4, b5, b6, b7⟩ := hU a (by rw [h2]; exact hc.1) na
  refine ⟨a, r, h1, b1.trans h2, b2.trans h3, hr.trans h4, fun j hj => ?_, h6⟩
  obtain ⟨c1, c2, c3, c4, c5⟩ := h5 j hj
  have nr : r j ≠ q := fun e => hc.2.2.2 (by rw [← c3, e, hT])
  obtain ⟨d1, d2, d3, d4, d5, d6, d7⟩ := hU (r j) (by rw [c3]; exact hc.2.2.1) nr
  exact ⟨(congrFun b7 j).trans c1, c2, d1.trans c3, d2.trans c4, d5.trans c5⟩
theorem FrE_A {T : sS} {c m a f q : Nat} (hz : sK T a = 0) : FrE T (pR (nA T c m a) f q (some a)) q := fun b hb hn => by
  have eb : b ≠ a := fun z => hb (z ▸ hz)
  exact ⟨up1_n eb, up1_n eb, fun _ => rfl, fun _ => up2_n2 hn, if_neg eb, if_neg eb, if_neg eb⟩
theorem FrE_M {T : sS} {co ci m1 m2 a f q : Nat} (hz : ∀ x, a ≤ x → sK T x = 0) : FrE T (pR (nM T co ci m1 m2 a) f q (some a)) q := fun b hb hn => by
  have e1 : b ≠ a := fun z => hb (z ▸ hz a (Nat.le_refl a))
  have e2 : ¬ (a < b ∧ b ≤ a + m1) := fun z => hb (hz b (Nat.le_of_lt z.1))
  exact ⟨(if_neg e1).trans (if_neg e2), (if_neg e1).trans (if_neg e2), fun _ => rfl, fun _ => up2_n2 hn, if_neg e2, rfl, if_neg e1⟩
theorem sR_A {T : sS} {c m a f q g : Nat} {v : Option Nat} (h : g ≠ f) : sR (pR (nA T c m a) f q v) g q = sR T g q := up2_n1 h
theorem sR_M {T : sS} {co ci m1 m2 a f q g : Nat} {v : Option Nat} (h : g ≠ f) : sR (pR (nM T co ci m1 m2 a) f q v) g q = sR T g q := up2_n1 h
theorem PX_s {K0 : Nat} {S0 T : sS} {q : Nat} {L : List (Nat × Nat × Nat)} {f c m a : Nat} (h : PX K0 S0 T q L) (hK : K0 ≠ 0) (hz : sK T a = 0) (hL : ∀ p ∈ L, p.1 ≠ f ∧ p.2.1 ≠ 0 ∧ p.2.1 ≠ K0) : PX K0 S0 (pR (nA T c m a) f q (some a)) q ((f, c, m) :: L) := by
  have nq : q ≠ a := fun e => hK (by rw [← h.1, e, hz])
  obtain ⟨g1, g2, g3, g4⟩ := PX_up h (FrE_A (c := c) (m := m) (f := f) hz) (up1_n nq) (fun _ => rfl) fun p hp => ⟨(hL p hp).2.1, (hL p hp).2.2, up2_n1 (hL p hp).1⟩
  refine ⟨g1, g2, g3, fun p hp => ?_⟩
  rcases List.mem_cons.mp hp with e | e
  · subst e
    exact ⟨a, FrE_z h.2.1 (by rw [h.1]; exact hK) hz, up1_s, up1_s, if_pos rfl, up2_s⟩
  · exact g4 p e
theorem PX_m {K0 : Nat} {S0 T : sS} {q : Nat} {L : List (Nat × Nat × Nat)} {f co m1 ci m2 a : Nat} (h : PX K0 S0 T q L) (hK : K0 ≠ 0) (hz : ∀ x, a ≤ x → sK T x = 0) (hL : ∀ p ∈ L, p.1 ≠ f ∧ p.2.1 ≠ 0 ∧ p.2.1 ≠ K0) : PX K0 S0 (pR (nM T co ci m1 m2 a) f q (some a)) q L ∧ PM S0 (pR (nM T co ci m1 m2 a) f q (some a)) q f co m1 ci m2 := by
  have hq : sK T q ≠ 0 := by rw [h.1]; exact hK
  have nq : q ≠ a := fun e => hq (by rw [e]; exact hz a (Nat.le_refl a))
  have nm : ¬ (a < q ∧ q ≤ a + m1) := fun z => hq (hz q (Nat.le_of_lt z.1))
  refine ⟨PX_up h (FrE_M hz) ((if_neg nq).trans (if_neg nm)) (fun _ => rfl) fun p hp => ⟨(hL p hp).2.1, (hL p hp).2.2, up2_n1 (hL p hp).1⟩, a, fun j => a + 1 + j, FrE_z h.2.1 hq (hz a (Nat.le_refl a)), if_pos rfl, if_pos rfl, up2_s, fun j hj => ?_, fun j j' e => Nat.add_left_cancel e⟩
  have e1 : a + 1 + j ≠ a := by omega
  have e2 : a < a + 1 + j ∧ a + 1 + j ≤ a + m1 := by omega
  exact ⟨(congrFun (if_pos rfl : (if a = a then (fun i => if i < m1 then some (a + 1 + i) else none) else sQ T a) = _) j).trans (if_pos hj), (show sK S0 (a + 1 + j) = 0 from FrE_z h.2.1 hq (hz (a + 1 + j) (by omega))), (if_neg e1).trans (if_pos e2), (if_neg e1).trans (if_pos e2), if_pos e2⟩
/-- the plan's rows -/
def PP (S0 T : sS) (q : Nat) : Prop := PX 5 S0 T q [(406, 113, 32), (405, 103, 32), (403, 171, 10), (401, 151, 5), (400, 114, 5)] ∧ PM S0 T q 402 107 5 161 10 ∧ PM S0 T q 404 117 10 181 32
theorem c_X4_init (l : Launch) (hl : l.stackTraces = false) (G : gG) (S : sS) (q : Nat) (kq : sK S q = 5) : Ct l G yX4_init cX4_init 1 none 1 22 469 [.ref q] S (fun w T => w = none ∧ PP S T q) (fun _ _ => False) := by
  refine Ct_of (by decide) (cat1_all (by repeat first | exact trivial | refine ⟨by first | rfl | exact isR_c (isR_q _), ?_⟩)) (Nat.le_of_ble_eq_true rfl) hl fun X C hXl hin => ?_
  subst hXl
  dsimp only [lArgs, Nat.reduceAdd]
  refine V_aload_n C dX4_init_0 rfl (by first | exact isR_r _ | exact isR_q _ | exact isR_n) ?_
  refine V_objI C ko_X4_3 ko_1 ko_2 (by decide) (by decide) dX4_init_1 ?_
  refine V_gnr (P := fun T => PX 5 S T q []) (PX_0 kq) (fun T hP => ?_)
  refine V_aload_n C dX4_init_4 rfl (by first | exact isR_r _ | exact isR_q _ | exact isR_n) ?_
  refine V_iconst C (v := 5) dX4_init_5 (by decide) ?_
  refine V_anew C 114 (t := 4) (m := 5) rfl (by decide) (by decide) cl_X4_9 (by decide) rfl (by decide) (by decide) (by decide) dX4_init_6 (fun a6 hB hz => ?_)
  have hN := PX_s (f := 400) (c := 114) (m := 5) hP (by decide) (hz a6 (Nat.le_refl _)) (by decide)
  refine V_putFR C hin 4 0 (o := some a6) rfl cf_4 pl_X4_11 rfl (Or.inr ⟨_, rfl⟩) (by decide) (by decide) dX4_init_9 hN.1 ?_
  refine V_gnr (P := fun T => PX 5 S T q [(400, 114, 5)]) (hN) (fun T hP => ?_)
  refine V_aload_n C dX4_init_12 rfl (by first | exact isR_r _ | exact isR_q _ | exact isR_n) ?_
  refine V_iconst C (v := 5) dX4_init_13 (by decide) ?_
  refine V_newarr C 151 (t := 1) (m := 5) rfl (by decide) (by decide) ac_int (by decide) rfl (by decide) (by decide) (by decide) dX4_init_14 (fun a14 hB hz => ?_)
  have hN := PX_s (f := 401) (c := 151) (m := 5) hP (by decide) (hz a14 (Nat.le_refl _)) (by decide)
  refine V_putFR C hin 4 1 (o := some a14) rfl cf_4 pl_X4_17 rfl (Or.inr ⟨_, rfl⟩) (by decide) (by decide) dX4_init_16 hN.1 ?_
  refine V_gnr (P := fun T => PX 5 S T q [(401, 151, 5), (400, 114, 5)]) (hN) (fun T hP => ?_)
  refine V_aload_n C dX4_init_19 rfl (by first | exact isR_r _ | exact isR_q _ | exact isR_n) ?_
  refine V_iconst C (v := 5) dX4_init_20 (by decide) ?_
  refine V_bipush C (v := 10) dX4_init_21 (by decide) ?_
  refine V_mna C 107 161 (m1 := 5) (m2 := 10) cl_X4_21 ac_int (by decide) (by decide) (by decide) (by decide) rfl rfl (by decide) (by decide) (by decide) (by decide) dX4_init_23 (fun a23 hB hz => ?_)
  have hN := PX_m (f := 402) (co := 107) (m1 := 5) (ci := 161) (m2 := 10) hP (by decide) hz (by decide)
  refine V_putFR C hin 4 2 (o := some a23) rfl cf_4 pl_X4_23 rfl (Or.inr ⟨_, rfl⟩) (by decide) (by decide) dX4_init_27 hN.1.1 ?_
  refine V_gnr (P := fun T => PX 5 S T q [(401, 151, 5), (400, 114, 5)] ∧ PM S T q 402 107 5 161 10) ⟨hN.1, hN.2⟩ (fun T hP => ?_)
  refine V_aload_n C dX4_init_30 rfl (by first | exact isR_r _ | exact isR_q _ | exact isR_n) ?_
  refine V_bipush C (v := 10) dX4_init_31 (by decide) ?_
  refine V_newarr C 171 (t := 1) (m := 10) rfl (by decide) (by decide) ac_int (by decide) rfl (by decide) (by decide) (by decide) dX4_init_33 (fun a33 hB hz => ?_)
  have hN := PX_s (f := 403) (c := 171) (m := 10) hP.1 (by decide) (hz a33 (Nat.le_refl _)) (by decide)
  refine V_putFR C hin 4 3 (o := some a33) rfl cf_4 pl_X4_26 rfl (Or.inr ⟨_, rfl⟩) (by decide) (by decide) dX4_init_35 hN.1 ?_
  refine V_gnr (P := fun T => PX 5 S T q [(403, 171, 10), (401, 151, 5), (400, 114, 5)] ∧ PM S T q 402 107 5 161 10) ⟨hN, PM_up hP.2 hP.1.1 (FrE_A (hz a33 (Nat.le_refl _))) (sR_A (by decide)) (by decide)⟩ (fun T hP => ?_)
  refine V_aload_n C dX4_init_38 rfl (by first | exact isR_r _ | exact isR_q _ | exact isR_n) ?_
  refine V_bipush C (v := 10) dX4_init_39 (by decide) ?_
  refine V_bipush C (v := 32) dX4_init_41 (by decide) ?_
  refine V_mna C 117 181 (m1 := 10) (m2 := 32) cl_X4_21 ac_int (by decide) (by decide) (by decide) (by decide) rfl rfl (by decide) (by decide) (by decide) (by decide) dX4_init_43 (fun a43 hB hz => ?_)
  have hN := PX_m (f := 404) (co := 117) (m1 := 10) (ci := 181) (m2 := 32) hP.1 (by decide) hz (by decide)
  refine V_putFR C hin 4 4 (o := some a43) rfl cf_4 pl_X4_29 rfl (Or.inr ⟨_, rfl⟩) (by decide) (by decide) dX4_init_47 hN.1.1 ?_
  refine V_gnr (P := fun T => PX 5 S T q [(403, 171, 10), (401, 151, 5), (400, 114, 5)] ∧ PM S T q 402 107 5 161 10 ∧ PM S T q 404 117 10 181 32) ⟨hN.1, PM_up hP.2 hP.1.1 (FrE_M hz) (sR_M (by decide)) (by decide), hN.2⟩ (fun T hP => ?_)
  refine V_aload_n C dX4_init_50 rfl (by first | exact isR_r _ | exact isR_q _ | exact isR_n) ?_
  refine V_bipush C (v := 32) dX4_init_51 (by decide) ?_
  refine V_newarr C 103 (t := 3) (m := 32) rfl (by decide) (by decide) ac_long (by decide) rfl (by decide) (by decide) (by decide) dX4_init_53 (fun a53 hB hz => ?_)
  have hN := PX_s (f := 405) (c := 103) (m := 32) hP.1 (by decide) (hz a53 (Nat.le_refl _)) (by decide)
  refine V_putFR C hin 4 5 (o := some a53) rfl cf_4 pl_X4_32 rfl (Or.inr ⟨_, rfl⟩) (by decide) (by decide) dX4_init_55 hN.1 ?_
  refine V_gnr (P := fun T => PX 5 S T q [(405, 103, 32), (403, 171, 10), (401, 151, 5), (400, 114, 5)] ∧ PM S T q 402 107 5 161 10 ∧ PM S T q 404 117 10 181 32) ⟨hN, PM_up hP.2.1 hP.1.1 (FrE_A (hz a53 (Nat.le_refl _))) (sR_A (by decide)) (by decide), PM_up hP.2.2 hP.1.1 (FrE_A (hz a53 (Nat.le_refl _))) (sR_A (by decide)) (by decide)⟩ (fun T hP => ?_)
  refine V_aload_n C dX4_init_58 rfl (by first | exact isR_r _ | exact isR_q _ | exact isR_n) ?_
  refine V_bipush C (v := 32) dX4_init_59 (by decide) ?_
  refine V_newarr C 113 (t := 3) (m := 32) rfl (by decide) (by decide) ac_long (by decide) rfl (by decide) (by decide) (by decide) dX4_init_61 (fun a61 hB hz => ?_)
  have hN := PX_s (f := 406) (c := 113) (m := 32) hP.1 (by decide) (hz a61 (Nat.le_refl _)) (by decide)
  refine V_putFR C hin 4 6 (o := some a61) rfl cf_4 pl_X4_36 rfl (Or.inr ⟨_, rfl⟩) (by decide) (by decide) dX4_init_63 hN.1 ?_
  refine V_gnr (P := fun T => PX 5 S T q [(406, 113, 32), (405, 103, 32), (403, 171, 10), (401, 151, 5), (400, 114, 5)] ∧ PM S T q 402 107 5 161 10 ∧ PM S T q 404 117 10 181 32) ⟨hN, PM_up hP.2.1 hP.1.1 (FrE_A (hz a61 (Nat.le_refl _))) (sR_A (by decide)) (by decide), PM_up hP.2.2 hP.1.1 (FrE_A (hz a61 (Nat.le_refl _))) (sR_A (by decide)) (by decide)⟩ (fun T hP => ?_)
  refine V_vret C (by first | omega | decide) (by first | omega | decide) dX4_init_66 ?_
  exact ⟨rfl, hP⟩

