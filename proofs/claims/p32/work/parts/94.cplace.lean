/-! THE CLASS: stays end and begin; place. -/
theorem RelC_R11 {S : sS} {ad : Nat → Nat → Nat} {A : Nat → Nat → Int32} {B : Nat → Int32} {k : Nat} {v : Int32} {o : Option Nat} (h : RelC S ad (A, B)) (hk : k < cN (A, B) 1) (ho : o = if v = -1 then none else some (ad 6 (nx v))) : RelC (pR S 11 (ad 0 k) o) ad (up2 A 10 k v, B) := by
  have u : ∀ x, x ≠ 10 → up2 A 10 k v x = A x := fun x h => up2_f h
  have er : ∀ j, rMrg (up2 A 10 k v, B) j (rN (up2 A 10 k v, B) j) = rMrg (A, B) j (rN (A, B) j) := fun j => by
    rw [show rN (up2 A 10 k v, B) j = rN (A, B) j from congrArg (fun z => (z j).toNatClampNeg) (u 34 (by decide))]
    exact rMrg_congr (σ := (A, B)) (σ' := (up2 A 10 k v, B)) (u 35 (by decide)) (u 36 (by decide)) (u 37 (by decide)) _
  obtain ⟨a1, a2, a3, a4, a5, a6, a7, a8, a9, a10, a11⟩ := h
  refine ⟨a1, a2, fun g j x y l => ?_, fun g j x y l => ?_, a5, fun k2 hk2 => ?_, a7, a8, a9, a10, a11⟩
  · refine (a3 g j x y l).trans ?_
    by_cases g9 : g < 800
    · exact (cI_at (σ := (A, B)) (σ' := (up2 A 10 k v, B)) x y g9 (fun z hz => congrFun (u z (fun q => by subst q; have : 99 = g / 100 := hz; omega)) j) (fun _ => er j)).symm
    · exact (cI_8 (σ := (A, B)) (σ' := (up2 A 10 k v, B)) x y g9 rfl).symm
  · show up2 (sR S) 11 (ad 0 k) o g (ad (g / 100) j) = _
    by_cases gp : g = 11 ∧ j = k
    · obtain ⟨rfl, rfl⟩ := gp
      refine up2_s.trans ?_
      rw [cR_g11, ho]
      show _ = if up2 A 10 j v 10 j = -1 then none else some (ad 6 (nx (up2 A 10 j v 10 j)))
      rw [up2_s]
    · have e : up2 (sR S) 11 (ad 0 k) o g (ad (g / 100) j) = sR S g (ad (g / 100) j) := by
        by_cases g0 : g = 11
        · subst g0
          exact up2_n2 fun e => gp ⟨rfl, a2 0 j k (by decide) (by decide) (by decide) l hk e⟩
        · exact up2_n1 g0
      rw [e, a4 g j x y l]
      exact (cR_at (σ := (A, B)) (σ' := (up2 A 10 k v, B)) x y (fun z => by subst z; exact up2_n2 fun q => gp ⟨rfl, q⟩) (fun _ => ordL_congr fun i _ => congrFun (u 39 (by decide)) i) (fun s _ _ => trmL_congr fun i _ => ⟨congrFun (u 28 (by decide)) i, congrFun (u 29 (by decide)) i⟩) (fun _ => by rw [show (up2 A 10 k v, B).1 39 = (A, B).1 39 from u 39 (by decide)]; exact ordL_congr fun i _ => congrFun (u 39 (by decide)) i) (fun _ => congrFun (u 44 (by decide)) j) (fun _ => congrFun (u 45 (by decide)) j) (fun _ => by rw [show (up2 A 10 k v, B).1 28 = (A, B).1 28 from u 28 (by decide), show (up2 A 10 k v, B).1 29 = (A, B).1 29 from u 29 (by decide)]; exact trmL_congr fun i _ => ⟨congrFun (u 28 (by decide)) i, congrFun (u 29 (by decide)) i⟩)).symm
  · obtain ⟨b1, b2, b3, b4⟩ := a6 k2 hk2
    rw [er]
    exact ⟨fun j hj => (b1 j hj).trans (congrFun (u 19 (by decide)) _).symm, b2, b3, b4⟩
/-- the kinds that a stay's end and beginning touch -/
def isE (k : Nat) : Prop := k = 1 ∨ k = 2 ∨ k = 7 ∨ k = 9 ∨ k = 106
theorem Fr_ED {S T : sS} (h : Fr isE S T) : Fr isD S T := fun a ha hn => h a ha fun z => hn (by unfold isE at z; unfold isD; omega)
/-- the state behind a stay's beginning -/
def CQE (S : sS) (ad : Nat → Nat → Nat) (σ' : aS) (T : sS) : Prop := ∃ ad', (∀ i, i ≠ 6 → ad' i = ad i) ∧ RelC T ad' σ' ∧ Fr isE S T
theorem CQE_CQ {S T : sS} {ad : Nat → Nat → Nat} {σ' : aS} (h : CQE S ad σ' T) : CQ S ad σ' T := by
  obtain ⟨ad', h1, h2, h3⟩ := h
  exact ⟨ad', ⟨by rw [h1 8 (by decide)], h1 27 (by decide)⟩, h2, Fr_ED h3⟩
noncomputable def oEndD (σ : aS) (k : Nat) (d : Int32) : aS := if σ.1 10 k = -1 then σ else (up2 (up2 σ.1 47 (nx (σ.1 10 k)) d) 10 k (-1), σ.2)
theorem oEndD_0 (σ : aS) (k : Nat) : oEndD σ k (σ.2 0) = oEnds σ k := rfl
theorem c_X0_endStay (l : Launch) (hl : l.stackTraces = false) (G : gG) (S : sS) (ad : Nat → Nat → Nat) (σ : aS) (hC : RelC S ad σ) (hI : IC σ) (k : Nat) (hk : k < cN σ 1) (d : Int32) : Ct l G yX0_endStay cX0_endStay 2 none 1 0 0 [.ref (ad 0 k), .int d] S (fun w T => w = none ∧ RelC T ad (oEndD σ k d) ∧ Fr isE S T) (fun _ _ => False) := by
  refine Ct_of (by decide) (cat1_all (by repeat first | exact trivial | refine ⟨by first | rfl | exact isR_c (isR_q _), ?_⟩)) (Nat.le_of_ble_eq_true rfl) hl fun X C hXl hin => ?_
  subst hXl
  dsimp only [lArgs, Nat.reduceAdd]
  have kc : sK S (ad 0 k) = 1 := RelC_K hC 0 (by decide) hk
  have rc_11 : sR S 11 (ad 0 k) = (if σ.1 10 k = -1 then none else some (ad 6 (nx (σ.1 10 k)))) := RelC_R hC 0 11 rfl (by unfold cFd; omega) rfl hk
  by_cases e : σ.1 10 k = -1
  · rw [if_pos e] at rc_11
    have T0 : oEndD σ k d = σ := if_pos e
    refine V_aload_n C dX0_endStay_0 rfl (by first | exact isR_r _ | exact isR_q _ | exact isR_n) ?_
    refine V_getRe C 0 11 rfl cf_0 fl_X0_51 (by decide) (by decide) dX0_endStay_1 kc rc_11 ?_
    refine V_ifnull C (tgt := 20) dX0_endStay_4 (by decide) (fun h4 => ?_) (fun a4 h4 => ?_)
    · refine V_vret C (by first | omega | decide) (by first | omega | decide) dX0_endStay_20 ?_
      rw [T0]
      exact ⟨rfl, hC, Fr_rf⟩
    · cases h4
  · obtain ⟨s, hs, es⟩ := (hI.2.2.2.2.2.2.2 k hk).resolve_left e
    have T0 : oEndD σ k d = (up2 (up2 σ.1 47 s d) 10 k (-1), σ.2) := by
      unfold oEndD
      rw [if_neg e, es, show nx (nI s) = s from nI_clamp (by have := hI.2.2.2.2.2.1.2; omega)]
    rw [if_neg e, es, show nx (nI s) = s from nI_clamp (by have := hI.2.2.2.2.2.1.2; omega)] at rc_11
    have ks : sK S (ad 6 s) = 7 := RelC_K hC 6 (by decide) hs
    have hC2 := RelC_up (A := σ.1) (B := σ.2) (v := d) hC 6 604 (f := 47) rfl (by unfold cFd; omega) rfl rfl (by decide) (by unfold spF; omega) hs
    have hC3 := RelC_R11 (v := -1) (o := none) hC2 hk (if_pos rfl).symm
    have kc2 : sK (pI S 604 (ad 6 s) d) (ad 0 k) = 1 := kc
    refine V_aload_n C dX0_endStay_0 rfl (by first | exact isR_r _ | exact isR_q _ | exact isR_n) ?_
    refine V_getRe C 0 11 rfl cf_0 fl_X0_51 (by decide) (by decide) dX0_endStay_1 kc rc_11 ?_
    refine V_ifnull C (tgt := 20) dX0_endStay_4 (by decide) (fun h4 => ?_) (fun a4 h4 => ?_)
    · cases h4
    · cases h4
      refine V_aload_n C dX0_endStay_7 rfl (by first | exact isR_r _ | exact isR_q _ | exact isR_n) ?_
      refine V_getS C 0 11 rfl cf_0 fl_X0_51 (by decide) (by decide) dX0_endStay_8 kc rc_11 ?_
      refine V_iload_n C dX0_endStay_11 rfl ?_
      refine V_putI C 6 4 rfl cf_6 pl_X0_96 (by decide) (by decide) dX0_endStay_12 ks ?_
      refine V_aload_n C dX0_endStay_15 rfl (by first | exact isR_r _ | exact isR_q _ | exact isR_n) ?_
      refine V_aconst_null C dX0_endStay_16 ?_
      refine V_putR C 0 11 rfl cf_0 pl_X0_51 (by first | exact Or.inl ⟨_, rfl⟩ | exact Or.inr ⟨_, rfl⟩) (by decide) (by decide) dX0_endStay_17 kc2 (o := none) ?_
      refine V_vret C (by first | omega | decide) (by first | omega | decide) dX0_endStay_20 ?_
      rw [T0]
      exact ⟨rfl, hC3, Fr_tr (Fr_I (by rw [ks]; unfold isE; decide)) (Fr_R (by rw [kc2]; unfold isE; decide))⟩
theorem c_X6_init (l : Launch) (hl : l.stackTraces = false) (G : gG) (S : sS) (q : Nat) (kq : sK S q = 7) (c h : Nat) (a b : Int32) : Ct l G yX6_init cX6_init 5 none 1 0 0 [.ref q, .ref c, .ref h, .int a, .int b] S (fun w T => w = none ∧ sK T q = 7 ∧ At S T q ∧ sR T 600 q = some c ∧ sR T 601 q = some h ∧ sI T 602 q = a ∧ sI T 603 q = b ∧ sI T 604 q = -1) (fun _ _ => False) := by
  refine Ct_of (by decide) (cat1_all (by repeat first | exact trivial | refine ⟨by first | rfl | exact isR_c (isR_q _), ?_⟩)) (Nat.le_of_ble_eq_true rfl) hl fun X C hXl hin => ?_
  subst hXl
  dsimp only [lArgs, Nat.reduceAdd]
  refine V_aload_n C dX6_init_0 rfl (by first | exact isR_r _ | exact isR_q _ | exact isR_n) ?_
  refine V_objI C ko_X6_3 ko_1 ko_2 (by decide) (by decide) dX6_init_1 ?_
  refine V_aload_n C dX6_init_4 rfl (by first | exact isR_r _ | exact isR_q _ | exact isR_n) ?_
  refine V_aload_n C dX6_init_5 rfl (by first | exact isR_r _ | exact isR_q _ | exact isR_n) ?_
  refine V_putFR C hin 6 0 (o := some c) rfl cf_6 pl_X6_9 rfl (Or.inl ⟨_, rfl⟩) (by decide) (by decide) dX6_init_6 kq ?_
  refine V_aload_n C dX6_init_9 rfl (by first | exact isR_r _ | exact isR_q _ | exact isR_n) ?_
  refine V_aload_n C dX6_init_10 rfl (by first | exact isR_r _ | exact isR_q _ | exact isR_n) ?_
  refine V_putFR C hin 6 1 (o := some h) rfl cf_6 pl_X6_15 rfl (Or.inl ⟨_, rfl⟩) (by decide) (by decide) dX6_init_11 kq ?_
  refine V_aload_n C dX6_init_14 rfl (by first | exact isR_r _ | exact isR_q _ | exact isR_n) ?_
  refine V_iload_n C dX6_init_15 rfl ?_
  refine V_putFI C hin 6 2 rfl cf_6 pl_X6_19 rfl (by decide) (by decide) dX6_init_16 kq ?_
  refine V_aload_n C dX6_init_19 rfl (by first | exact isR_r _ | exact isR_q _ | exact isR_n) ?_
  refine V_iload C dX6_init_20 rfl ?_
  refine V_putFI C hin 6 3 rfl cf_6 pl_X6_23 rfl (by decide) (by decide) dX6_init_22 kq ?_
  refine V_aload_n C dX6_init_25 rfl (by first | exact isR_r _ | exact isR_q _ | exact isR_n) ?_
  refine V_iconst C (v := (-1)) dX6_init_26 (by decide) ?_
  refine V_putI C 6 4 rfl cf_6 pl_X6_26 (by decide) (by decide) dX6_init_27 kq ?_
  refine V_vret C (by first | omega | decide) (by first | omega | decide) dX6_init_30 ?_
  exact ⟨rfl, kq, At_I (At_I (At_I (At_R (At_R At_0)))), (by simp only [sR_pI]; exact (sR_n1 (by decide)).trans sR_s), (by simp only [sR_pI]; exact sR_s), (sI_n1 (by decide)).trans ((sI_n1 (by decide)).trans sI_s), (sI_n1 (by decide)).trans sI_s, sI_s⟩
theorem c_X0_beginStay (l : Launch) (hl : l.stackTraces = false) (G : gG) (S : sS) (c f q : Nat) (kc : sK S c = 1) (rf : sR S 8 c = some f) (kf : sK S f = 2) : CtF l G yX0_beginStay cX0_beginStay 2 none 1 0 0 [.ref c, .ref q] S none (pI (pI (pR S 11 c (some q)) 12 c (sI S 12 c + 1)) 101 f 0) := by
  refine Ct_of (by decide) (cat1_all (by repeat first | exact trivial | refine ⟨by first | rfl | exact isR_c (isR_q _), ?_⟩)) (Nat.le_of_ble_eq_true rfl) hl fun X C hXl hin => ?_
  subst hXl
  dsimp only [lArgs, Nat.reduceAdd]
  have kc1 : sK (pR S 11 c (some q)) c = 1 := kc
  have kc2 : sK (pI (pR S 11 c (some q)) 12 c (sI S 12 c + 1)) c = 1 := kc
  have rf2 : sR (pI (pR S 11 c (some q)) 12 c (sI S 12 c + 1)) 8 c = some f := by rw [sR_pI]; exact (sR_n1 (by decide)).trans rf
  have kf2 : sK (pI (pR S 11 c (some q)) 12 c (sI S 12 c + 1)) f = 2 := kf
  refine V_aload_n C dX0_beginStay_0 rfl (by first | exact isR_r _ | exact isR_q _ | exact isR_n) ?_
  refine V_aload_n C dX0_beginStay_1 rfl (by first | exact isR_r _ | exact isR_q _ | exact isR_n) ?_
  refine V_putR C 0 11 rfl cf_0 pl_X0_51 (by first | exact Or.inl ⟨_, rfl⟩ | exact Or.inr ⟨_, rfl⟩) (by decide) (by decide) dX0_beginStay_2 kc (o := some q) ?_
  refine V_aload_n C dX0_beginStay_5 rfl (by first | exact isR_r _ | exact isR_q _ | exact isR_n) ?_
  refine V_dup C dX0_beginStay_6 (by first | rfl | exact isR_c (isR_q _)) ?_
  refine V_getIe C 0 12 rfl cf_0 fl_X0_89 (by decide) (by decide) dX0_beginStay_7 kc1 (show sI (pR S 11 c (some q)) 12 c = sI S 12 c from rfl) ?_
  refine V_iconst C (v := 1) dX0_beginStay_10 (by decide) ?_
  refine V_iadd C dX0_beginStay_11 ?_
  refine V_putI C 0 12 rfl cf_0 pl_X0_89 (by decide) (by decide) dX0_beginStay_12 kc1 ?_
  refine V_aload_n C dX0_beginStay_15 rfl (by first | exact isR_r _ | exact isR_q _ | exact isR_n) ?_
  refine V_getS C 0 8 rfl cf_0 fl_X0_47 (by decide) (by decide) dX0_beginStay_16 kc2 rf2 ?_
  refine V_iconst C (v := 0) dX0_beginStay_19 (by decide) ?_
  refine V_putZ C 1 1 rfl cf_1 pl_X0_92 (by decide) (by decide) dX0_beginStay_20 kf2 (Or.inl rfl) ?_
  refine V_vret C (by first | omega | decide) (by first | omega | decide) dX0_beginStay_23 ?_
  exact ⟨rfl, rfl⟩
theorem up2_cm {α : Type} {f : Nat → Nat → α} {a b c d : Nat} {v w : α} (h : a ≠ c) : up2 (up2 f a b v) c d w = up2 (up2 f c d w) a b v := funext fun x => funext fun y => by
  by_cases e1 : x = c ∧ y = d
  · obtain ⟨rfl, rfl⟩ := e1
    rw [up2_s, up2_n1 (fun z => h z.symm), up2_s]
  · rw [show up2 (up2 f a b v) c d w x y = up2 f a b v x y from if_neg e1]
    by_cases e2 : x = a ∧ y = b
    · obtain ⟨rfl, rfl⟩ := e2
      rw [up2_s, up2_s]
    · rw [show up2 f a b v x y = f x y from if_neg e2, show up2 (up2 f c d w) a b v x y = up2 f c d w x y from if_neg e2, show up2 f c d w x y = f x y from if_neg e1]
theorem st_cm {S : sS} {c f q n x b : Nat} {v w z : Int32} : pI (pQ (pI (pI (pR S 11 c (some q)) 12 c v) 101 f w) x n (some q)) 807 b z = pI (pI (pR (pI (pQ S x n (some q)) 807 b z) 11 c (some q)) 12 c v) 101 f w := by
  show (_, _, up2 (up2 (up2 (sI S) 12 c v) 101 f w) 807 b z, _, _, _, _) = (_, _, up2 (up2 (up2 (sI S) 807 b z) 12 c v) 101 f w, _, _, _, _)
  rw [up2_cm (a := 101) (c := 807) (by decide), up2_cm (a := 12) (c := 807) (by decide)]
  rfl
theorem mCounts_congr {σ σ' : aS} (h39 : σ'.1 39 = σ.1 39) (h41 : σ'.1 41 = σ.1 41) (h42 : σ'.1 42 = σ.1 42) (n38 : cN σ' 38 = cN σ 38) {x on : Int32} : mCounts σ' x on = mCounts σ x on := by
  unfold mCounts
  rw [h39, h41, h42, n38]
theorem IO_of {σ σ' : aS} (h : IO σ) (h42 : σ'.1 42 = σ.1 42) (n38 : cN σ' 38 = cN σ 38) : IO σ' := fun j hj => by
  rw [h42]; exact h j (by rw [← n38]; exact hj)
theorem c_X8_beginStay (l : Launch) (hl : l.stackTraces = false) (G : gG) (S : sS) (ad : Nat → Nat → Nat) (σ : aS) (hC : RelC S ad σ) (hI : IC σ) (hS : IS σ) (hO : IO σ) (k : Nat) (hk : k < cN σ 1) (m : Nat) (hm : m < cN σ 20) (n : Nat) (hn : cN σ 43 = n) (hn1 : n < 100) : Ct l G yX8_beginStay cX8_beginStay 5 (Option.some FieldType.int) 6 4 40 [.ref (ad 8 0), .ref (ad 0 k), .ref (ad 2 m)] S (fun w T => w = some (.int (nI n)) ∧ CQE S ad (oBegins σ k (nI m)).2 T) (fun _ _ => False) := by
  refine Ct_of (by decide) (cat1_all (by repeat first | exact trivial | refine ⟨by first | rfl | exact isR_c (isR_q _), ?_⟩)) (Nat.le_of_ble_eq_true rfl) hl fun X C hXl hin => ?_
  subst hXl
  dsimp only [lArgs, Nat.reduceAdd]
  have kx : sK S (ad 8 0) = 9 := RelC_K hC 8 (by decide) rfl
  have rx_802 : sR S 802 (ad 8 0) = some (ad 17 0) := RelC_R hC 8 802 rfl (by unfold cFd; omega) rfl rfl
  have ix_807 : sI S 807 (ad 8 0) = σ.2 43 := RelC_I hC 8 807 rfl (by unfold cFd; omega) rfl rfl
  have ix_808 : sI S 808 (ad 8 0) = σ.2 0 := RelC_I hC 8 808 rfl (by unfold cFd; omega) rfl rfl
  have kc : sK S (ad 0 k) = 1 := RelC_K hC 0 (by decide) hk
  have rc_8 : sR S 8 (ad 0 k) = some (ad 1 k) := RelC_R hC 0 8 rfl (by unfold cFd; omega) rfl hk
  have e43 : σ.2 43 = nI n := by rw [← hn]; exact hI.2.2.2.2.2.1.1
  rw [e43] at ix_807
  have kq : sK S (ad 17 0) = 106 := hC.1 17 0 (by decide) (by decide) (by decide) rfl
  have lq : sL S (ad 17 0) = 100 := hC.2.2.2.2.1 17 0 (by decide) (by decide) rfl
  obtain ⟨τ, hτ⟩ : ∃ τ, τ = oEnds σ k := ⟨_, rfl⟩
  have τ2 : τ.2 = σ.2 := by rw [hτ]; exact oEnds_2
  have hI2 : IC τ := by rw [hτ]; exact IC_ends hI
  have hS2 : IS τ := by rw [hτ]; exact IS_ends hS
  have τf : ∀ x, x ≠ 10 → x ≠ 47 → τ.1 x = σ.1 x := fun x h1 h2 => by
    rw [hτ]
    unfold oEnds
    by_cases e : σ.1 10 k = -1
    · rw [if_pos e]
    · rw [if_neg e]; exact (up2_f h1).trans (up2_f h2)
  have cn : ∀ x, cN τ x = cN σ x := fun x => by unfold cN; rw [τ2]
  have hO2 : IO τ := IO_of hO (τf 42 (by decide) (by decide)) (cn 38)
  have hk2 : k < cN τ 1 := by rw [cn]; exact hk
  have hk16 : k < 16 := by have := hI.2.1.2; omega
  have hm10 : m < 10 := by have := hI.2.2.1.2; omega
  refine V_aload_n C dX8_beginStay_0 rfl (by first | exact isR_r _ | exact isR_q _ | exact isR_n) ?_
  refine V_getIe C 8 7 rfl cf_8 fl_X8_166 (by decide) (by decide) dX8_beginStay_1 kx ix_807 ?_
  refine V_istore_n C dX8_beginStay_4 (by decide) rfl ?_
  simp only [lset1, lset2, List.filter_cons, List.filter_nil, Nat.reduceBEq, Nat.reduceAdd, Bool.not_true, Bool.not_false, Bool.and_true, Bool.and_false, Bool.true_and, Bool.false_and, if_true, if_false, Bool.false_eq_true, reduceIte]
  refine V_iload_n C dX8_beginStay_5 rfl ?_
  refine V_aload_n C dX8_beginStay_6 rfl (by first | exact isR_r _ | exact isR_q _ | exact isR_n) ?_
  refine V_getS C 8 2 rfl cf_8 fl_X8_23 (by decide) (by decide) dX8_beginStay_7 kx rx_802 ?_
  refine V_alen C (v := nI 100) kq (by decide) (by rw [lq]; rfl) dX8_beginStay_10 ?_
  refine V_iltN C (tgt := 25) (by omega) (by omega) dX8_beginStay_11 (by decide) (fun h11 => ?_) (fun h11 => ?_)
  · refine V_aload_n C dX8_beginStay_25 rfl (by first | exact isR_r _ | exact isR_q _ | exact isR_n) ?_
    refine V_aload_n C dX8_beginStay_26 rfl (by first | exact isR_r _ | exact isR_q _ | exact isR_n) ?_
    refine V_getIe C 8 8 rfl cf_8 fl_X8_53 (by decide) (by decide) dX8_beginStay_27 kx ix_808 ?_
    refine V_callV C (c_X0_endStay _ hl G S ad σ hC hI k hk (σ.2 0)) kv_X8_343 cf_0 (by decide) rfl kc (by decide) (by decide) rfl rfl (Nat.le_of_ble_eq_true rfl) dX8_beginStay_30 ?_ (fun _ _ h => h.elim)
    intro w0 T0 hT0
    obtain ⟨rfl, hC1, hF0⟩ := hT0
    dsimp only [Option.toList_some, Option.toList_none, List.cons_append, List.nil_append]
    rw [oEndD_0, ← hτ] at hC1
    clear hC
    have kx1 : sK T0 (ad 8 0) = 9 := RelC_K hC1 8 (by decide) rfl
    have kc1 : sK T0 (ad 0 k) = 1 := RelC_K hC1 0 (by decide) hk2
    have rx1 : sR T0 802 (ad 8 0) = some (ad 17 0) := RelC_R hC1 8 802 rfl (by unfold cFd; omega) rfl rfl
    refine V_new C 6 cf_6 nw_X8_21 (by decide) (by decide) (by decide) dX8_beginStay_33 (fun q hB hz => ?_)
    have zq : sK T0 q = 0 := hz q (Nat.le_refl q)
    have k3 : sK (nO T0 7 q) q = 7 := up1_s
    have hC2 : RelC (nO T0 7 q) ad τ := RelC_N hC1 (FrN_O Fr_rf zq)
    have kx2 : sK (nO T0 7 q) (ad 8 0) = 9 := RelC_K hC2 8 (by decide) rfl
    have kc2 : sK (nO T0 7 q) (ad 0 k) = 1 := RelC_K hC2 0 (by decide) hk2
    have ix2 : sI (nO T0 7 q) 808 (ad 8 0) = τ.2 0 := RelC_I hC2 8 808 rfl (by unfold cFd; omega) rfl rfl
    refine V_dup C dX8_beginStay_36 (by first | rfl | exact isR_c (isR_q _)) ?_
    refine V_aload_n C dX8_beginStay_37 rfl (by first | exact isR_r _ | exact isR_q _ | exact isR_n) ?_
    refine V_aload_n C dX8_beginStay_38 rfl (by first | exact isR_r _ | exact isR_q _ | exact isR_n) ?_
    refine V_aload_n C dX8_beginStay_39 rfl (by first | exact isR_r _ | exact isR_q _ | exact isR_n) ?_
    refine V_getIe C 8 8 rfl cf_8 fl_X8_53 (by decide) (by decide) dX8_beginStay_40 kx2 ix2 ?_
    refine V_aload_n C dX8_beginStay_43 rfl (by first | exact isR_r _ | exact isR_q _ | exact isR_n) ?_
    refine V_aload_n C dX8_beginStay_44 rfl (by first | exact isR_r _ | exact isR_q _ | exact isR_n) ?_
    refine V_getIe C 8 8 rfl cf_8 fl_X8_53 (by decide) (by decide) dX8_beginStay_45 kx2 ix2 ?_
    refine V_fV C (c_X0_orderNumberOn _ hl G _ ad τ hC2 k hk2 hO2 hI2.2.2.2.2.1.2 _) kv_X8_133 cf_0 (by decide) rfl kc2 (by decide) (by decide) rfl rfl (Nat.le_of_ble_eq_true rfl) dX8_beginStay_48 ?_
    dsimp only [Option.toList_some, Option.toList_none, List.cons_append, List.nil_append]
    refine V_callI C (c_X6_init _ hl G _ q k3 (ad 0 k) (ad 2 m) _ _) ki_X8_346 (by decide) (by decide) rfl rfl (Nat.le_of_ble_eq_true rfl) dX8_beginStay_51 ?_
    intro w1 T hT
    obtain ⟨rfl, kT, hAt, r0, r1, i2, i3, i4⟩ := hT
    dsimp only [Option.toList_some, Option.toList_none, List.cons_append, List.nil_append]
    have hF : FrN T0 T := FrN_At zq hAt
    have hC3 := RelC_N hC1 hF
    have kc3 : sK T (ad 0 k) = 1 := RelC_K hC3 0 (by decide) hk2
    have rf3 : sR T 8 (ad 0 k) = some (ad 1 k) := RelC_R hC3 0 8 rfl (by unfold cFd; omega) rfl hk2
    have kf3 : sK T (ad 1 k) = 2 := RelC_K hC3 1 (by decide) hk2
    have kx3 : sK T (ad 8 0) = 9 := RelC_K hC3 8 (by decide) rfl
    have ic3 : sI T 12 (ad 0 k) = τ.1 11 k := RelC_I hC3 0 12 rfl (by unfold cFd; omega) rfl hk2
    have rx3 : sR (pI (pI (pR T 11 (ad 0 k) (some q)) 12 (ad 0 k) (sI T 12 (ad 0 k) + 1)) 101 (ad 1 k) 0) 802 (ad 8 0) = some (ad 17 0) := by
      simp only [sR_pI]
      exact (sR_n1 (by decide)).trans (RelC_R hC3 8 802 rfl (by unfold cFd; omega) rfl rfl)
    have kx4 : sK (pI (pI (pR T 11 (ad 0 k) (some q)) 12 (ad 0 k) (sI T 12 (ad 0 k) + 1)) 101 (ad 1 k) 0) (ad 8 0) = 9 := kx3
    have kq4 : sK (pI (pI (pR T 11 (ad 0 k) (some q)) 12 (ad 0 k) (sI T 12 (ad 0 k) + 1)) 101 (ad 1 k) 0) (ad 17 0) = 106 := hC3.1 17 0 (by decide) (by decide) (by decide) rfl
    have lq4 : sL (pI (pI (pR T 11 (ad 0 k) (some q)) 12 (ad 0 k) (sI T 12 (ad 0 k) + 1)) 101 (ad 1 k) 0) (ad 17 0) = 100 := hC3.2.2.2.2.1 17 0 (by decide) (by decide) rfl
    have kT4 : sK (pI (pI (pR T 11 (ad 0 k) (some q)) 12 (ad 0 k) (sI T 12 (ad 0 k) + 1)) 101 (ad 1 k) 0) q = 7 := kT
    have kx5 : sK (pQ (pI (pI (pR T 11 (ad 0 k) (some q)) 12 (ad 0 k) (sI T 12 (ad 0 k) + 1)) 101 (ad 1 k) 0) (ad 17 0) n (some q)) (ad 8 0) = 9 := kx3
    refine V_astore C dX8_beginStay_54 (by decide) (by first | exact isR_r _ | exact isR_q _ | exact isR_n) rfl ?_
    simp only [lset1, lset2, List.filter_cons, List.filter_nil, Nat.reduceBEq, Nat.reduceAdd, Bool.not_true, Bool.not_false, Bool.and_true, Bool.and_false, Bool.true_and, Bool.false_and, if_true, if_false, Bool.false_eq_true, reduceIte]
    refine V_aload_n C dX8_beginStay_56 rfl (by first | exact isR_r _ | exact isR_q _ | exact isR_n) ?_
    refine V_aload C dX8_beginStay_57 rfl (by first | exact isR_r _ | exact isR_q _ | exact isR_n) ?_
    refine V_fV C (c_X0_beginStay _ hl G _ (ad 0 k) (ad 1 k) q kc3 rf3 kf3) kv_X8_349 cf_0 (by decide) rfl kc3 (by decide) (by decide) rfl rfl (Nat.le_of_ble_eq_true rfl) dX8_beginStay_59 ?_
    dsimp only [Option.toList_some, Option.toList_none, List.cons_append, List.nil_append]
    refine V_aload_n C dX8_beginStay_62 rfl (by first | exact isR_r _ | exact isR_q _ | exact isR_n) ?_
    refine V_getS C 8 2 rfl cf_8 fl_X8_23 (by decide) (by decide) dX8_beginStay_63 kx4 rx3 ?_
    refine V_iload_n C dX8_beginStay_66 rfl ?_
    refine V_aload C dX8_beginStay_67 rfl (by first | exact isR_r _ | exact isR_q _ | exact isR_n) ?_
    refine V_aastE C 6 6 (by decide) (by decide) ⟨_, rfl, rfl⟩ kq4 (by decide) kT4 lq4 hn1 (by decide) dX8_beginStay_69 ?_
    refine V_aload_n C dX8_beginStay_70 rfl (by first | exact isR_r _ | exact isR_q _ | exact isR_n) ?_
    refine V_iload_n C dX8_beginStay_71 rfl ?_
    refine V_iconst C (v := 1) dX8_beginStay_72 (by decide) ?_
    refine V_iadd C dX8_beginStay_73 ?_
    rw [nI_1]
    refine V_putI C 8 7 rfl cf_8 pl_X8_166 (by decide) (by decide) dX8_beginStay_74 kx5 ?_
    refine V_iload_n C dX8_beginStay_77 rfl ?_
    refine V_iret C (by first | omega | decide) (by first | omega | decide) dX8_beginStay_78 ?_
    have es : up2 ad 6 n q 6 n = q := up2_s
    have dn : ∀ i j, ¬ (i = 6 ∧ j = n) → up2 ad 6 n q i j = ad i j := fun i j h => if_neg h
    have c43 : cN τ 43 = n := by rw [cn]; exact hn
    have hC4 : RelC T (up2 ad 6 n q) τ := RelC_ad hI2 hS2 hC3 fun i j hi hl => dn i j fun e => by
      obtain ⟨rfl, rfl⟩ := e
      exact absurd (show j < cN τ 43 from hl) (by omega)
    have d0 : ∀ j, up2 ad 6 n q 0 j = ad 0 j := fun j => dn 0 j fun e => absurd e.1 (by decide)
    have d1 : ∀ j, up2 ad 6 n q 1 j = ad 1 j := fun j => dn 1 j fun e => absurd e.1 (by decide)
    have hC5 := RelC_stay (A := τ.1) (B := τ.2) (k := k) (m := m) (a := τ.2 0) (b := -1) (c := mCounts τ (nI k) (τ.2 0)) hC4 c43 hn1 hk16 hm10 (by rw [es]; exact i2) (by rw [es]; exact i4) (by rw [es]; exact i3) (by rw [es, d0]; exact r0) (by rw [es, dn 2 m fun e => absurd e.1 (by decide)]; exact r1) (by rw [es]; exact kT) (fun j hj => by
      rw [es, dn 6 j fun e => by omega]
      exact fun e => RelC_k0 hC1 (i := 6) (j := j) (by decide) (by show j < cN τ 43; omega) (by rw [e]; exact zq))
    have hk5 : k < cN (up2 (up2 (up2 (up2 (up2 τ.1 44 n (nI k)) 45 n (nI m)) 46 n (τ.2 0)) 47 n (-1)) 48 n (mCounts τ (nI k) (τ.2 0)), up1 τ.2 43 (nI (n + 1))) 1 := by
      rw [cN_of (A := τ.1) (by decide)]; exact hk2
    have hC6 := RelC_R11 (v := nI n) (o := some q) hC5 hk5 (by rw [if_neg (nI_ne_m1 (by omega)), show nx (nI n) = n from nI_clamp (by omega), es])
    have hk6 : k < cN (up2 (up2 (up2 (up2 (up2 (up2 τ.1 44 n (nI k)) 45 n (nI m)) 46 n (τ.2 0)) 47 n (-1)) 48 n (mCounts τ (nI k) (τ.2 0))) 10 k (nI n), up1 τ.2 43 (nI (n + 1))) 1 := hk5
    have hC7 := RelC_up (v := τ.1 11 k + 1) hC6 0 12 (f := 11) rfl (by unfold cFd; omega) rfl rfl (by decide) (by unfold spF; omega) hk6
    have hC8 := RelC_up (v := 0) hC7 1 101 (f := 13) rfl (by unfold cFd; omega) rfl rfl (by decide) (by unfold spF; omega) hk6
    rw [d0, d1, es, dn 17 0 (fun e => absurd e.1 (by decide)), dn 8 0 (fun e => absurd e.1 (by decide)), ← ic3, ← st_cm] at hC8
    have eO : (oBegins σ k (nI m)).2 = (up2 (up2 (up2 (up2 (up2 (up2 (up2 (up2 τ.1 44 n (nI k)) 45 n (nI m)) 46 n (τ.2 0)) 47 n (-1)) 48 n (mCounts τ (nI k) (τ.2 0))) 10 k (nI n)) 11 k (sI T 12 (ad 0 k) + 1)) 13 k 0, up1 τ.2 43 (nI (n + 1))) := by
      have mc : mCounts (oBeg1 σ k n (nI m)) (nI k) (σ.2 0) = mCounts τ (nI k) (τ.2 0) := by
        rw [τ2]
        unfold oBeg1
        rw [← hτ]
        have u4 : ∀ x, x ≠ 44 → x ≠ 45 → x ≠ 46 → x ≠ 47 → up2 (up2 (up2 (up2 τ.1 44 n (nI k)) 45 n (nI m)) 46 n (σ.2 0)) 47 n (-1) x = τ.1 x := fun x h1 h2 h3 h4 => (up2_f h4).trans ((up2_f h3).trans ((up2_f h2).trans (up2_f h1)))
        exact mCounts_congr (σ := τ) (σ' := (up2 (up2 (up2 (up2 τ.1 44 n (nI k)) 45 n (nI m)) 46 n (σ.2 0)) 47 n (-1), σ.2)) (u4 39 (by decide) (by decide) (by decide) (by decide)) (u4 41 (by decide) (by decide) (by decide) (by decide)) (u4 42 (by decide) (by decide) (by decide) (by decide)) (cn 38).symm
      unfold oBegins
      rw [hn, mc, e43, nI_1, ic3]
      unfold oBeg1
      rw [← hτ, τ2]
    rw [eO]
    exact ⟨rfl, up2 ad 6 n q, fun i hi => up2_f hi, hC8, Fr_tr hF0 (Fr_tr (Fr_N hF) (Fr_tr (Fr_R (by rw [kc3]; unfold isE; decide)) (Fr_tr (Fr_I (by rw [sK_pR, kc3]; unfold isE; decide)) (Fr_tr (Fr_I (by rw [sK_pI, sK_pR, kf3]; unfold isE; decide)) (Fr_tr (Fr_Q (by rw [kq4]; unfold isE; decide)) (Fr_I (by rw [kx5]; unfold isE; decide)))))))⟩
  · omega
theorem c_X8_beginStayX (l : Launch) (hl : l.stackTraces = false) (G : gG) (S : sS) (ad : Nat → Nat → Nat) (σ : aS) (hC : RelC S ad σ) (m : Nat) (k : Nat) (hn : ¬ σ.2 43 < 100) : CtX l G yX8_beginStay cX8_beginStay 5 (Option.some FieldType.int) 6 4 40 [.ref (ad 8 0), .ref (ad 0 k), .ref (ad 2 m)] S "java/lang/IllegalStateException" := by
  refine Ct_of (by decide) (cat1_all (by repeat first | exact trivial | refine ⟨by first | rfl | exact isR_c (isR_q _), ?_⟩)) (Nat.le_of_ble_eq_true rfl) hl fun X C hXl hin => ?_
  subst hXl
  dsimp only [lArgs, Nat.reduceAdd]
  have kx : sK S (ad 8 0) = 9 := RelC_K hC 8 (by decide) rfl
  have rx_802 : sR S 802 (ad 8 0) = some (ad 17 0) := RelC_R hC 8 802 rfl (by unfold cFd; omega) rfl rfl
  have ix_807 : sI S 807 (ad 8 0) = σ.2 43 := RelC_I hC 8 807 rfl (by unfold cFd; omega) rfl rfl
  have ix_808 : sI S 808 (ad 8 0) = σ.2 0 := RelC_I hC 8 808 rfl (by unfold cFd; omega) rfl rfl
  have kq : sK S (ad 17 0) = 106 := hC.1 17 0 (by decide) (by decide) (by decide) rfl
  have lq : sL S (ad 17 0) = 100 := hC.2.2.2.2.1 17 0 (by decide) (by decide) rfl
  refine V_aload_n C dX8_beginStay_0 rfl (by first | exact isR_r _ | exact isR_q _ | exact isR_n) ?_
  refine V_getIe C 8 7 rfl cf_8 fl_X8_166 (by decide) (by decide) dX8_beginStay_1 kx ix_807 ?_
  refine V_istore_n C dX8_beginStay_4 (by decide) rfl ?_
  simp only [lset1, lset2, List.filter_cons, List.filter_nil, Nat.reduceBEq, Nat.reduceAdd, Bool.not_true, Bool.not_false, Bool.and_true, Bool.and_false, Bool.true_and, Bool.false_and, if_true, if_false, Bool.false_eq_true, reduceIte]
  refine V_iload_n C dX8_beginStay_5 rfl ?_
  refine V_aload_n C dX8_beginStay_6 rfl (by first | exact isR_r _ | exact isR_q _ | exact isR_n) ?_
  refine V_getS C 8 2 rfl cf_8 fl_X8_23 (by decide) (by decide) dX8_beginStay_7 kx rx_802 ?_
  refine V_alen C (v := nI 100) kq (by decide) (by rw [lq]; rfl) dX8_beginStay_10 ?_
  refine V_icmp_lt C (tgt := 25) dX8_beginStay_11 (by decide) (fun h11 => ?_) (fun h11 => ?_)
  · exact absurd h11 hn
  · refine V_throwSW C tw_X8_46_341_50 dX8_beginStay_14 dX8_beginStay_17 dX8_beginStay_18 dX8_beginStay_21 dX8_beginStay_24 (by decide) (by first | omega | decide) (by first | omega | decide) ?_
    exact ⟨rfl, rfl⟩

