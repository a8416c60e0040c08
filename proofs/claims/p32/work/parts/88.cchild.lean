/-! THE CLASS: the constructors of a child's reports, family, and of a child. -/
/-- what was there is as it was, the cell q aside -/
def FrE (S T : sS) (q : Nat) : Prop := ∀ a, sK S a ≠ 0 → a ≠ q → sK T a = sK S a ∧ sL T a = sL S a ∧ (∀ f, sI T f a = sI S f a) ∧ (∀ f, sR T f a = sR S f a) ∧ sA T a = sA S a ∧ sJ T a = sJ S a ∧ sQ T a = sQ S a
theorem FrE_0 {S : sS} {q : Nat} : FrE S S q := fun a _ _ => ⟨rfl, rfl, fun _ => rfl, fun _ => rfl, rfl, rfl, rfl⟩
theorem FrE_tr {S T U : sS} {q : Nat} (h1 : FrE S T q) (h2 : FrE T U q) : FrE S U q := fun a ha hn => by
  obtain ⟨a1, a2, a3, a4, a5, a6, a7⟩ := h1 a ha hn
  obtain ⟨b1, b2, b3, b4, b5, b6, b7⟩ := h2 a (by rw [a1]; exact ha) hn
  exact ⟨b1.trans a1, b2.trans a2, fun f => (b3 f).trans (a3 f), fun f => (b4 f).trans (a4 f), b5.trans a5, b6.trans a6, b7.trans a7⟩
theorem FrE_At {S T : sS} {q : Nat} (h : At S T q) : FrE S T q := fun a _ hn => h a hn
theorem FrE_N {S T : sS} {q : Nat} (h : FrN S T) : FrE S T q := fun a ha _ => h a ha id
theorem FrE_z {S T : sS} {q b : Nat} (h : FrE S T q) (hq : sK T q ≠ 0) (hb : sK T b = 0) : sK S b = 0 := by
  by_cases e : sK S b = 0
  · exact e
  · have n : b ≠ q := fun z => hq (z ▸ hb)
    rw [(h b e n).1] at hb
    exact absurd hb e
theorem FrN_E {S T : sS} {k q : Nat} (hq : sK S q = 0) (h : FrE (nO S k q) T q) : FrN S T := fun a ha _ => by
  have e : a ≠ q := fun e => ha (e ▸ hq)
  obtain ⟨a1, a2, a3, a4, a5, a6, a7⟩ := h a (by rw [show sK (nO S k q) a = sK S a from up1_n e]; exact ha) e
  exact ⟨a1.trans (up1_n e), a2, fun f => (a3 f).trans (if_neg e), fun f => (a4 f).trans (if_neg e), a5, a6, a7⟩
/-- a new row behind the field f of q -/
def NAP (S T : sS) (q f c m a : Nat) : Prop := sK S a = 0 ∧ sK T a = c ∧ sL T a = m ∧ (sA T a = fun _ => 0) ∧ sR T f q = some a ∧ (∀ g, g ≠ f → sR T g q = sR S g q) ∧ (∀ g, sI T g q = sI S g q) ∧ sK T q = sK S q ∧ FrE S T q
section VN2
variable {X : xX} {G : gG} {own : String} {cc : ByteArray} {nL : Nat} {ret : Option FieldType} {rm : Room} {tb : List ExceptionTableEntry} {Q : State → Prop} {k n pc : Nat} {lo : lO} {st : List Value} {S S0 : sS}
theorem V_gnr {P : sS → Prop} (h : P S) (kk : ∀ T, P T → V X G nL Q k n pc lo st T) : V X G nL Q k n pc lo st S := kk S h
theorem V_nap (C : Cx X G own cc nL ret rm tb) (hin2 : X.2.2.2.2.2.2.2.2.1.name = "<init>") (ci kf c m : Nat) {q f : Nat} {idx : Nat} {i : Int32} {ty : FieldType} (hf : 100 * ci + kf = f) (hF : cF ci) (hci : ci < 50) (hq : sK S q = ci + 1)
    (hc : 100 ≤ c ∧ c % 10 = 1) (hi : ¬ i < 0) (hm : i.toNatClampNeg = m) (hbytes : m * 8 ≤ 536870912) (hcells : k + 1 ≤ rm.cells) (hslots : n + m ≤ rm.slots)
    (hL : pL own idx ci kf true ty) (hdecl : ((vC ci).2.1 kf).1 = own) (hty2 : (∃ c, ty = .object c) ∨ ∃ t, ty = .array t) (hr : fRef f = true) (d : decode cc pc = .ok (.newarray .int, 2)) (d2 : decode cc (pc + 2) = .ok (.putfield idx, 3))
    (kk : ∀ T a, NAP S T q f c m a → V X G nL Q (k + 1) (n + m) (pc + 5) lo st T) : V X G nL Q k n pc lo (.int i :: .ref q :: st) S := by
  refine V_newarr C c (t := 1) rfl (by decide) hc ac_int hi hm hbytes hcells hslots d (fun a hB hz => ?_)
  have ha := hz a (Nat.le_refl a)
  have em : q ≠ a := fun e => by rw [e, ha] at hq; omega
  subst hf
  refine V_putFR C hin2 ci kf (o := some a) rfl hF hL hdecl hty2 hci hr d2 ((up1_n em).trans hq) (kk _ a ⟨ha, up1_s, up1_s, if_pos rfl, up2_s, fun g hg => up2_n1 hg, fun g => rfl, up1_n em, fun b hb hn => ?_⟩)
  have eb : b ≠ a := fun z => hb (z ▸ ha)
  exact ⟨up1_n eb, up1_n eb, fun _ => rfl, fun _ => up2_n2 hn, if_neg eb, if_neg eb, if_neg eb⟩
end VN2
theorem c_X1_init (l : Launch) (hl : l.stackTraces = false) (G : gG) (S : sS) (q : Nat) : CtF l G yX1_init cX1_init 1 none 1 0 0 [.ref q] S none S := by
  refine Ct_of (by decide) (cat1_all (by repeat first | exact trivial | refine ⟨by first | rfl | exact isR_c (isR_q _), ?_⟩)) (Nat.le_of_ble_eq_true rfl) hl fun X C hXl hin => ?_
  subst hXl
  dsimp only [lArgs, Nat.reduceAdd]
  refine V_aload_n C dX1_init_0 rfl (by first | exact isR_r _ | exact isR_q _ | exact isR_n) ?_
  refine V_objI C ko_X1_1 ko_1 ko_2 (by decide) (by decide) dX1_init_1 ?_
  refine V_vret C (by first | omega | decide) (by first | omega | decide) dX1_init_4 ?_
  exact ⟨rfl, rfl⟩
theorem c_X5_init (l : Launch) (hl : l.stackTraces = false) (G : gG) (S : sS) (q : Nat) (kq : sK S q = 6) : Ct l G yX5_init cX5_init 1 none 1 3 90 [.ref q] S (fun w T => w = none ∧ sK T q = 6 ∧ FrE S T q ∧ (∃ a b c, sK S a = 0 ∧ sK S b = 0 ∧ sK S c = 0 ∧ (sK T a = 121 ∧ sL T a = 30 ∧ (sA T a = fun _ => 0) ∧ sR T 500 q = some a) ∧ (sK T b = 131 ∧ sL T b = 30 ∧ (sA T b = fun _ => 0) ∧ sR T 501 q = some b) ∧ (sK T c = 141 ∧ sL T c = 30 ∧ (sA T c = fun _ => 0) ∧ sR T 502 q = some c)) ∧ sI T 503 q = sI S 503 q ∧ sI T 504 q = sI S 504 q ∧ sI T 505 q = -1) (fun _ _ => False) := by
  refine Ct_of (by decide) (cat1_all (by repeat first | exact trivial | refine ⟨by first | rfl | exact isR_c (isR_q _), ?_⟩)) (Nat.le_of_ble_eq_true rfl) hl fun X C hXl hin => ?_
  subst hXl
  dsimp only [lArgs, Nat.reduceAdd]
  refine V_aload_n C dX5_init_0 rfl (by first | exact isR_r _ | exact isR_q _ | exact isR_n) ?_
  refine V_objI C ko_X5_3 ko_1 ko_2 (by decide) (by decide) dX5_init_1 ?_
  refine V_aload_n C dX5_init_4 rfl (by first | exact isR_r _ | exact isR_q _ | exact isR_n) ?_
  refine V_bipush C (v := 30) dX5_init_5 (by decide) ?_
  refine V_nap C hin 5 0 121 30 rfl cf_5 (by decide) kq (by decide) (by decide) rfl (by decide) (by decide) (by decide) pl_X5_9 rfl (Or.inr ⟨_, rfl⟩) (by decide) dX5_init_7 dX5_init_9 (fun A aA nA => ?_)
  obtain ⟨zA, kA, lA, sA_, rA, roA, ioA, qA, fA⟩ := nA
  refine V_aload_n C dX5_init_12 rfl (by first | exact isR_r _ | exact isR_q _ | exact isR_n) ?_
  refine V_bipush C (v := 30) dX5_init_13 (by decide) ?_
  refine V_nap C hin 5 1 131 30 rfl cf_5 (by decide) (qA.trans kq) (by decide) (by decide) rfl (by decide) (by decide) (by decide) pl_X5_15 rfl (Or.inr ⟨_, rfl⟩) (by decide) dX5_init_15 dX5_init_17 (fun B aB nB => ?_)
  obtain ⟨zB, kB, lB, sB_, rB, roB, ioB, qB, fB⟩ := nB
  refine V_aload_n C dX5_init_20 rfl (by first | exact isR_r _ | exact isR_q _ | exact isR_n) ?_
  refine V_bipush C (v := 30) dX5_init_21 (by decide) ?_
  refine V_nap C hin 5 2 141 30 rfl cf_5 (by decide) (qB.trans (qA.trans kq)) (by decide) (by decide) rfl (by decide) (by decide) (by decide) pl_X5_18 rfl (Or.inr ⟨_, rfl⟩) (by decide) dX5_init_23 dX5_init_25 (fun D aD nD => ?_)
  obtain ⟨zD, kD, lD, sD_, rD, roD, ioD, qD, fD⟩ := nD
  refine V_aload_n C dX5_init_28 rfl (by first | exact isR_r _ | exact isR_q _ | exact isR_n) ?_
  refine V_iconst C (v := (-1)) dX5_init_29 (by decide) ?_
  refine V_putI C 5 5 rfl cf_5 pl_X5_21 (by decide) (by decide) dX5_init_30 (qD.trans (qB.trans (qA.trans kq))) ?_
  refine V_vret C (by first | omega | decide) (by first | omega | decide) dX5_init_33 ?_
  have tA : sK A q = 6 := qA.trans kq
  have tB : sK B q = 6 := qB.trans tA
  have tD : sK D q = 6 := qD.trans tB
  have nA : aA ≠ q := fun e => by rw [e, kq] at zA; exact absurd zA (by decide)
  have nB : aB ≠ q := fun e => by rw [e, tA] at zB; exact absurd zB (by decide)
  have nD : aD ≠ q := fun e => by rw [e, tB] at zD; exact absurd zD (by decide)
  obtain ⟨gA1, gA2, -, -, gA5, -⟩ := fB aA (by rw [kA]; decide) nA
  obtain ⟨gB1, gB2, -, -, gB5, -⟩ := fD aB (by rw [kB]; decide) nB
  obtain ⟨hA1, hA2, -, -, hA5, -⟩ := fD aA (by rw [gA1, kA]; decide) nA
  exact ⟨rfl, tD, FrE_tr fA (FrE_tr fB (FrE_tr fD (FrE_At (At_I At_0)))), ⟨aA, aB, aD, zA, FrE_z fA (by rw [tA]; decide) zB, FrE_z (FrE_tr fA fB) (by rw [tB]; decide) zD, ⟨hA1.trans (gA1.trans kA), hA2.trans (gA2.trans lA), hA5.trans (gA5.trans sA_), (roD 500 (by decide)).trans ((roB 500 (by decide)).trans rA)⟩, ⟨gB1.trans kB, gB2.trans lB, gB5.trans sB_, (roD 501 (by decide)).trans rB⟩, ⟨kD, lD, sD_, rD⟩⟩, (sI_n1 (by decide)).trans ((ioD _).trans ((ioB _).trans (ioA _))), (sI_n1 (by decide)).trans ((ioD _).trans ((ioB _).trans (ioA _))), sI_s⟩

theorem c_X0_init (l : Launch) (hl : l.stackTraces = false) (G : gG) (S : sS) (q : Nat) (kq : sK S q = 1) (n b x c e f w : Int32) : Ct l G yX0_init cX0_init 8 none 2 6 113 [.ref q, .int n, .int b, .int x, .int c, .int e, .int f, .int w] S (fun w9 T => w9 = none ∧ sK T q = 1 ∧ FrE S T q ∧ (sI T 0 q = n ∧ sI T 1 q = b ∧ sI T 2 q = x ∧ sI T 3 q = c ∧ sI T 4 q = e ∧ sI T 5 q = f ∧ sI T 9 q = w ∧ sI T 12 q = sI S 12 q ∧ sR T 10 q = sR S 10 q ∧ sR T 11 q = sR S 11 q) ∧
    ∃ aW aR aF a1 a2 a3, sK S aW = 0 ∧ sK S aR = 0 ∧ sK S aF = 0 ∧ sK S a1 = 0 ∧ sK S a2 = 0 ∧ sK S a3 = 0 ∧ (sK T aW = 111 ∧ sL T aW = 10 ∧ (sA T aW = fun _ => 0) ∧ sR T 6 q = some aW) ∧ (sK T aR = 6 ∧ sR T 7 q = some aR ∧ sI T 503 aR = 0 ∧ sI T 504 aR = 0 ∧ sI T 505 aR = -1) ∧ (sK T aF = 2 ∧ sR T 8 q = some aF ∧ ∀ g, sI T g aF = 0) ∧ (sK T a1 = 121 ∧ sL T a1 = 30 ∧ (sA T a1 = fun _ => 0) ∧ sR T 500 aR = some a1) ∧ (sK T a2 = 131 ∧ sL T a2 = 30 ∧ (sA T a2 = fun _ => 0) ∧ sR T 501 aR = some a2) ∧ (sK T a3 = 141 ∧ sL T a3 = 30 ∧ (sA T a3 = fun _ => 0) ∧ sR T 502 aR = some a3)) (fun _ _ => False) := by
  refine Ct_of (by decide) (cat1_all (by repeat first | exact trivial | refine ⟨by first | rfl | exact isR_c (isR_q _), ?_⟩)) (Nat.le_of_ble_eq_true rfl) hl fun X C hXl hin => ?_
  subst hXl
  dsimp only [lArgs, Nat.reduceAdd]
  refine V_aload_n C dX0_init_0 rfl (by first | exact isR_r _ | exact isR_q _ | exact isR_n) ?_
  refine V_objI C ko_X0_3 ko_1 ko_2 (by decide) (by decide) dX0_init_1 ?_
  refine V_aload_n C dX0_init_4 rfl (by first | exact isR_r _ | exact isR_q _ | exact isR_n) ?_
  refine V_iload_n C dX0_init_5 rfl ?_
  refine V_putFI C hin 0 0 rfl cf_0 pl_X0_9 rfl (by decide) (by decide) dX0_init_6 kq ?_
  refine V_aload_n C dX0_init_9 rfl (by first | exact isR_r _ | exact isR_q _ | exact isR_n) ?_
  refine V_iload_n C dX0_init_10 rfl ?_
  refine V_putFI C hin 0 1 rfl cf_0 pl_X0_15 rfl (by decide) (by decide) dX0_init_11 kq ?_
  refine V_aload_n C dX0_init_14 rfl (by first | exact isR_r _ | exact isR_q _ | exact isR_n) ?_
  refine V_iload_n C dX0_init_15 rfl ?_
  refine V_putFI C hin 0 2 rfl cf_0 pl_X0_18 rfl (by decide) (by decide) dX0_init_16 kq ?_
  refine V_aload_n C dX0_init_19 rfl (by first | exact isR_r _ | exact isR_q _ | exact isR_n) ?_
  refine V_iload C dX0_init_20 rfl ?_
  refine V_putFI C hin 0 3 rfl cf_0 pl_X0_21 rfl (by decide) (by decide) dX0_init_22 kq ?_
  refine V_aload_n C dX0_init_25 rfl (by first | exact isR_r _ | exact isR_q _ | exact isR_n) ?_
  refine V_iload C dX0_init_26 rfl ?_
  refine V_putFI C hin 0 4 rfl cf_0 pl_X0_24 rfl (by decide) (by decide) dX0_init_28 kq ?_
  refine V_aload_n C dX0_init_31 rfl (by first | exact isR_r _ | exact isR_q _ | exact isR_n) ?_
  refine V_iload C dX0_init_32 rfl ?_
  refine V_putFI C hin 0 5 rfl cf_0 pl_X0_27 rfl (by decide) (by decide) dX0_init_34 kq ?_
  refine V_aload_n C dX0_init_37 rfl (by first | exact isR_r _ | exact isR_q _ | exact isR_n) ?_
  refine V_iload C dX0_init_38 rfl ?_
  refine V_putI C 0 9 rfl cf_0 pl_X0_30 (by decide) (by decide) dX0_init_40 kq ?_
  refine V_gnr (P := fun T => sK T q = 1 ∧ At S T q ∧ (sI T 0 q = n ∧ sI T 1 q = b ∧ sI T 2 q = x ∧ sI T 3 q = c ∧ sI T 4 q = e ∧ sI T 5 q = f ∧ sI T 9 q = w ∧ sI T 12 q = sI S 12 q) ∧ ∀ g, sR T g q = sR S g q) ⟨kq, At_I (At_I (At_I (At_I (At_I (At_I (At_I At_0)))))), ⟨(sI_n1 (by decide)).trans ((sI_n1 (by decide)).trans ((sI_n1 (by decide)).trans ((sI_n1 (by decide)).trans ((sI_n1 (by decide)).trans ((sI_n1 (by decide)).trans (sI_s)))))), (sI_n1 (by decide)).trans ((sI_n1 (by decide)).trans ((sI_n1 (by decide)).trans ((sI_n1 (by decide)).trans ((sI_n1 (by decide)).trans (sI_s))))), (sI_n1 (by decide)).trans ((sI_n1 (by decide)).trans ((sI_n1 (by decide)).trans ((sI_n1 (by decide)).trans (sI_s)))), (sI_n1 (by decide)).trans ((sI_n1 (by decide)).trans ((sI_n1 (by decide)).trans (sI_s))), (sI_n1 (by decide)).trans ((sI_n1 (by decide)).trans (sI_s)), (sI_n1 (by decide)).trans (sI_s), sI_s, (sI_n1 (by decide)).trans ((sI_n1 (by decide)).trans ((sI_n1 (by decide)).trans ((sI_n1 (by decide)).trans ((sI_n1 (by decide)).trans ((sI_n1 (by decide)).trans (sI_n1 (by decide)))))))⟩, fun g => by simp only [sR_pI]⟩ (fun T0 hT0 => ?_)
  obtain ⟨kq0, fq0, ⟨i0, i1, i2, i3, i4, i5, i9, i12⟩, rr0⟩ := hT0
  refine V_aload_n C dX0_init_43 rfl (by first | exact isR_r _ | exact isR_q _ | exact isR_n) ?_
  refine V_bipush C (v := 10) dX0_init_44 (by decide) ?_
  refine V_nap C hin 0 6 111 10 rfl cf_0 (by decide) kq0 (by decide) (by decide) rfl (by decide) (by decide) (by decide) pl_X0_33 rfl (Or.inr ⟨_, rfl⟩) (by decide) dX0_init_46 dX0_init_48 (fun W aW nW => ?_)
  obtain ⟨zW, kW, lW, sW_, rW, roW, ioW, qW, fW⟩ := nW
  refine V_aload_n C dX0_init_51 rfl (by first | exact isR_r _ | exact isR_q _ | exact isR_n) ?_
  refine V_new C 5 cf_5 nw_X0_37 (by decide) (by decide) (by decide) dX0_init_52 (fun aR hBR hzR => ?_)
  have zR := hzR aR (Nat.le_refl aR)
  have kR0 : sK (nO W 6 aR) aR = 6 := up1_s
  refine V_dup C dX0_init_55 (by first | rfl | exact isR_c (isR_q _)) ?_
  refine V_callI C (c_X5_init _ hl G _ aR kR0) ki_X0_39 (by decide) (by decide) rfl rfl (Nat.le_of_ble_eq_true rfl) dX0_init_56 ?_
  intro w1 T hT
  obtain ⟨rfl, kR, fR, ⟨a1, a2, a3, z1, z2, z3, ⟨k1, l1, s1, r1⟩, ⟨k2, l2, s2, r2⟩, ⟨k3, l3, s3, r3⟩⟩, i503, i504, i505⟩ := hT
  dsimp only [Option.toList_some, Option.toList_none, List.cons_append, List.nil_append]
  have tW : sK W q = 1 := qW.trans kq0
  have fWT : FrN W T := FrN_E zR fR
  obtain ⟨gq1, gq2, gq3, gq4, -⟩ := fWT q (by rw [tW]; decide) id
  have tT : sK T q = 1 := gq1.trans tW
  refine V_putFR C hin 0 7 (o := some aR) rfl cf_0 pl_X0_40 rfl (Or.inl ⟨_, rfl⟩) (by decide) (by decide) dX0_init_59 tT ?_
  refine V_aload_n C dX0_init_62 rfl (by first | exact isR_r _ | exact isR_q _ | exact isR_n) ?_
  refine V_new C 1 cf_1 nw_X0_44 (by decide) (by decide) (by decide) dX0_init_63 (fun aF hBF hzF => ?_)
  have zF : sK T aF = 0 := hzF aF (Nat.le_refl aF)
  have nqF : q ≠ aF := fun z => by rw [z, zF] at tT; exact absurd tT (by decide)
  refine V_dup C dX0_init_66 (by first | rfl | exact isR_c (isR_q _)) ?_
  refine V_callIN C (c_X1_init _ hl G _ aF) kn_1 kn_2 kn_3 (by decide) (by decide) (Nat.le_of_ble_eq_true rfl) dX0_init_67 ?_
  intro w2 T2 hT2
  obtain ⟨rfl, rfl⟩ := hT2
  dsimp only [Option.toList_some, Option.toList_none, List.cons_append, List.nil_append]
  refine V_putFR C hin 0 8 (o := some aF) rfl cf_0 pl_X0_47 rfl (Or.inl ⟨_, rfl⟩) (by decide) (by decide) dX0_init_70 ((up1_n nqF).trans tT) ?_
  refine V_vret C (by first | omega | decide) (by first | omega | decide) dX0_init_73 ?_
  have key : ∀ a, sK T a ≠ 0 → a ≠ q → sK (pR (nO (pR T 7 q (some aR)) 2 aF) 8 q (some aF)) a = sK T a ∧ sL (pR (nO (pR T 7 q (some aR)) 2 aF) 8 q (some aF)) a = sL T a ∧ (∀ f, sI (pR (nO (pR T 7 q (some aR)) 2 aF) 8 q (some aF)) f a = sI T f a) ∧ (∀ f, sR (pR (nO (pR T 7 q (some aR)) 2 aF) 8 q (some aF)) f a = sR T f a) ∧ sA (pR (nO (pR T 7 q (some aR)) 2 aF) 8 q (some aF)) a = sA T a ∧ sJ (pR (nO (pR T 7 q (some aR)) 2 aF) 8 q (some aF)) a = sJ T a ∧ sQ (pR (nO (pR T 7 q (some aR)) 2 aF) 8 q (some aF)) a = sQ T a := fun a ha hn => by
    have hF : a ≠ aF := fun z => ha (z ▸ zF)
    exact ⟨up1_n hF, rfl, fun f => if_neg hF, fun f => (up2_n2 hn).trans ((if_neg hF).trans (up2_n2 hn)), rfl, rfl, rfl⟩
  have qI : ∀ g, sI (pR (nO (pR T 7 q (some aR)) 2 aF) 8 q (some aF)) g q = sI T0 g q := fun g => (if_neg nqF : (if q = aF then 0 else sI T g q) = sI T g q).trans ((gq3 g).trans (ioW g))
  have qR : ∀ g, g ≠ 8 → g ≠ 7 → sR (pR (nO (pR T 7 q (some aR)) 2 aF) 8 q (some aF)) g q = sR T g q := fun g h8 h7 => (up2_n1 h8).trans ((if_neg nqF).trans (up2_n1 h7))
  have qR7 : sR (pR (nO (pR T 7 q (some aR)) 2 aF) 8 q (some aF)) 7 q = some aR := (sR_n1 (by decide)).trans ((if_neg nqF : (if q = aF then none else sR (pR T 7 q (some aR)) 7 q) = sR (pR T 7 q (some aR)) 7 q).trans sR_s)
  have qR8 : sR (pR (nO (pR T 7 q (some aR)) 2 aF) 8 q (some aF)) 8 q = some aF := up2_s
  have qK : sK (pR (nO (pR T 7 q (some aR)) 2 aF) 8 q (some aF)) q = 1 := (up1_n nqF).trans tT
  have FK : sK (pR (nO (pR T 7 q (some aR)) 2 aF) 8 q (some aF)) aF = 2 := up1_s
  have FI : ∀ g, sI (pR (nO (pR T 7 q (some aR)) 2 aF) 8 q (some aF)) g aF = 0 := fun g => if_pos rfl
  generalize pR (nO (pR T 7 q (some aR)) 2 aF) 8 q (some aF) = U at key qI qR qR7 qR8 qK FK FI ⊢
  have nz : ∀ {a k : Nat}, sK T a = k → k ≠ 1 → a ≠ q := fun h1 h2 z => by rw [z, tT] at h1; exact h2 h1.symm
  have nW : aW ≠ q := fun z => by rw [z, kq0] at zW; exact absurd zW (by decide)
  obtain ⟨gW1, gW2, -, -, gW5, -⟩ := fWT aW (by rw [kW]; decide) id
  have kWT : sK T aW = 111 := gW1.trans kW
  obtain ⟨uW1, uW2, -, -, uW5, -⟩ := key aW (by rw [kWT]; decide) (nz kWT (by decide))
  obtain ⟨uR1, -, uR3, uR4, -⟩ := key aR (by rw [kR]; decide) (nz kR (by decide))
  obtain ⟨u11, u12, -, -, u15, -⟩ := key a1 (by rw [k1]; decide) (nz k1 (by decide))
  obtain ⟨u21, u22, -, -, u25, -⟩ := key a2 (by rw [k2]; decide) (nz k2 (by decide))
  obtain ⟨u31, u32, -, -, u35, -⟩ := key a3 (by rw [k3]; decide) (nz k3 (by decide))
  have fST : FrE S T0 q := FrE_At fq0
  have fSW : FrE S W q := FrE_tr fST fW
  have fSTT : FrE S T q := FrE_tr fSW (FrE_N fWT)
  have zero : ∀ {a : Nat}, sK (nO W 6 aR) a = 0 → sK S a = 0 := fun {a} h => by
    by_cases z : a = aR
    · rw [z, kR0] at h; exact absurd h (by decide)
    · exact FrE_z fSW (by rw [tW]; decide) ((up1_n z).symm.trans h)
  refine ⟨rfl, qK, FrE_tr fSTT (fun a ha hn => key a ha hn), ⟨(qI 0).trans i0, (qI 1).trans i1, (qI 2).trans i2, (qI 3).trans i3, (qI 4).trans i4, (qI 5).trans i5, (qI 9).trans i9, (qI 12).trans i12, (qR 10 (by decide) (by decide)).trans ((gq4 10).trans ((roW 10 (by decide)).trans (rr0 10))), (qR 11 (by decide) (by decide)).trans ((gq4 11).trans ((roW 11 (by decide)).trans (rr0 11)))⟩, aW, aR, aF, a1, a2, a3, FrE_z fST (by rw [kq0]; decide) zW, FrE_z fSW (by rw [tW]; decide) zR, FrE_z fSTT (by rw [tT]; decide) zF, zero z1, zero z2, zero z3, ⟨uW1.trans kWT, uW2.trans (gW2.trans lW), uW5.trans (gW5.trans sW_), (qR 6 (by decide) (by decide)).trans ((gq4 6).trans rW)⟩, ⟨uR1.trans kR, qR7, (uR3 503).trans (i503.trans sI_nO), (uR3 504).trans (i504.trans sI_nO), (uR3 505).trans i505⟩, ⟨FK, qR8, FI⟩, ⟨u11.trans k1, u12.trans l1, u15.trans s1, (uR4 500).trans r1⟩, ⟨u21.trans k2, u22.trans l2, u25.trans s2, (uR4 501).trans r2⟩, ⟨u31.trans k3, u32.trans l3, u35.trans s3, (uR4 502).trans r3⟩⟩

