/-! THE CLASS: approve, train, rest. -/
theorem c_X7_init (l : Launch) (hl : l.stackTraces = false) (G : gG) (S : sS) (q : Nat) (kq : sK S q = 8) (o bf : Option Nat) (t f u x y z : Int32) (hb : (o = none ∧ bf = none) ∨ ∃ a, o = some a ∧ sK S a = 8 ∧ ((sI S 701 a = t ∧ sR S 700 a = bf) ∨ (¬ sI S 701 a = t ∧ bf = some a))) : Ct l G yX7_init cX7_init 8 none 1 0 0 [.ref q, va_rf o, .int t, .int f, .int u, .int x, .int y, .int z] S (fun w T => w = none ∧ sK T q = 8 ∧ At S T q ∧ sI T 701 q = t ∧ sI T 702 q = f ∧ sI T 703 q = u ∧ sI T 704 q = x ∧ sI T 705 q = y ∧ sI T 706 q = z ∧ sR T 700 q = bf) (fun _ _ => False) := by
  refine Ct_of (by decide) (cat1_all (by repeat first | exact trivial | refine ⟨by first | rfl | exact isR_c (isR_q _), ?_⟩)) (Nat.le_of_ble_eq_true rfl) hl fun X C hXl hin => ?_
  subst hXl
  dsimp only [lArgs, Nat.reduceAdd]
  rcases hb with ⟨rfl, rfl⟩ | ⟨a, rfl, ka, ⟨e1, e2⟩ | ⟨e1, rfl⟩⟩
  · refine V_aload_n C dX7_init_0 rfl (by first | exact isR_r _ | exact isR_q _ | exact isR_n) ?_
    refine V_objI C ko_X7_1 ko_1 ko_2 (by decide) (by decide) dX7_init_1 ?_
    refine V_aload_n C dX7_init_4 rfl (by first | exact isR_r _ | exact isR_q _ | exact isR_n) ?_
    refine V_aload_n C dX7_init_5 rfl (by first | exact isR_r _ | exact isR_q _ | exact isR_n) ?_
    dsimp only
    refine V_ifnull C (tgt := 24) dX7_init_6 (by decide) (fun h6 => ?_) (fun a6 h6 => ?_)
    · refine V_aload_n C dX7_init_24 rfl (by first | exact isR_r _ | exact isR_q _ | exact isR_n) ?_
      dsimp only
      refine V_putFR C hin 7 0 rfl cf_7 pl_X7_13 rfl (by first | exact Or.inl ⟨_, rfl⟩ | exact Or.inr ⟨_, rfl⟩) (by decide) (by decide) dX7_init_25 kq ?_
      refine V_aload_n C dX7_init_28 rfl (by first | exact isR_r _ | exact isR_q _ | exact isR_n) ?_
      refine V_iload_n C dX7_init_29 rfl ?_
      refine V_putFI C hin 7 1 rfl cf_7 pl_X7_7 rfl (by decide) (by decide) dX7_init_30 kq ?_
      refine V_aload_n C dX7_init_33 rfl (by first | exact isR_r _ | exact isR_q _ | exact isR_n) ?_
      refine V_iload_n C dX7_init_34 rfl ?_
      refine V_putFI C hin 7 2 rfl cf_7 pl_X7_17 rfl (by decide) (by decide) dX7_init_35 kq ?_
      refine V_aload_n C dX7_init_38 rfl (by first | exact isR_r _ | exact isR_q _ | exact isR_n) ?_
      refine V_iload C dX7_init_39 rfl ?_
      refine V_putFI C hin 7 3 rfl cf_7 pl_X7_20 rfl (by decide) (by decide) dX7_init_41 kq ?_
      refine V_aload_n C dX7_init_44 rfl (by first | exact isR_r _ | exact isR_q _ | exact isR_n) ?_
      refine V_iload C dX7_init_45 rfl ?_
      refine V_putFI C hin 7 4 rfl cf_7 pl_X7_23 rfl (by decide) (by decide) dX7_init_47 kq ?_
      refine V_aload_n C dX7_init_50 rfl (by first | exact isR_r _ | exact isR_q _ | exact isR_n) ?_
      refine V_iload C dX7_init_51 rfl ?_
      refine V_putFI C hin 7 5 rfl cf_7 pl_X7_26 rfl (by decide) (by decide) dX7_init_53 kq ?_
      refine V_aload_n C dX7_init_56 rfl (by first | exact isR_r _ | exact isR_q _ | exact isR_n) ?_
      refine V_iload C dX7_init_57 rfl ?_
      refine V_putFI C hin 7 6 rfl cf_7 pl_X7_29 rfl (by decide) (by decide) dX7_init_59 kq ?_
      refine V_vret C (by first | omega | decide) (by first | omega | decide) dX7_init_62 ?_
      exact ⟨rfl, kq, At_I (At_I (At_I (At_I (At_I (At_I (At_R At_0)))))), (sI_n1 (by decide)).trans ((sI_n1 (by decide)).trans ((sI_n1 (by decide)).trans ((sI_n1 (by decide)).trans ((sI_n1 (by decide)).trans (sI_s))))), (sI_n1 (by decide)).trans ((sI_n1 (by decide)).trans ((sI_n1 (by decide)).trans ((sI_n1 (by decide)).trans (sI_s)))), (sI_n1 (by decide)).trans ((sI_n1 (by decide)).trans ((sI_n1 (by decide)).trans (sI_s))), (sI_n1 (by decide)).trans ((sI_n1 (by decide)).trans (sI_s)), (sI_n1 (by decide)).trans (sI_s), sI_s, (by simp only [sR_pI]; exact sR_s)⟩
    · cases h6
  · refine V_aload_n C dX7_init_0 rfl (by first | exact isR_r _ | exact isR_q _ | exact isR_n) ?_
    refine V_objI C ko_X7_1 ko_1 ko_2 (by decide) (by decide) dX7_init_1 ?_
    refine V_aload_n C dX7_init_4 rfl (by first | exact isR_r _ | exact isR_q _ | exact isR_n) ?_
    refine V_aload_n C dX7_init_5 rfl (by first | exact isR_r _ | exact isR_q _ | exact isR_n) ?_
    dsimp only
    refine V_ifnull C (tgt := 24) dX7_init_6 (by decide) (fun h6 => ?_) (fun a6 h6 => ?_)
    · cases h6
    · cases h6
      refine V_aload_n C dX7_init_9 rfl (by first | exact isR_r _ | exact isR_q _ | exact isR_n) ?_
      refine V_getIe C 7 1 rfl cf_7 fl_X7_7 (by decide) (by decide) dX7_init_10 ka e1 ?_
      refine V_iload_n C dX7_init_13 rfl ?_
      refine V_icmp_ne C (tgt := 24) dX7_init_14 (by decide) (fun h14 => ?_) (fun h14 => ?_)
      · exact absurd rfl h14
      · refine V_aload_n C dX7_init_17 rfl (by first | exact isR_r _ | exact isR_q _ | exact isR_n) ?_
        refine V_getRe C 7 0 rfl cf_7 fl_X7_13 (by decide) (by decide) dX7_init_18 ka e2 ?_
        refine V_goto C (tgt := 25) dX7_init_21 (by decide) ?_
        refine V_putFR C hin 7 0 rfl cf_7 pl_X7_13 rfl (by first | exact Or.inl ⟨_, rfl⟩ | exact Or.inr ⟨_, rfl⟩) (by decide) (by decide) dX7_init_25 kq ?_
        refine V_aload_n C dX7_init_28 rfl (by first | exact isR_r _ | exact isR_q _ | exact isR_n) ?_
        refine V_iload_n C dX7_init_29 rfl ?_
        refine V_putFI C hin 7 1 rfl cf_7 pl_X7_7 rfl (by decide) (by decide) dX7_init_30 kq ?_
        refine V_aload_n C dX7_init_33 rfl (by first | exact isR_r _ | exact isR_q _ | exact isR_n) ?_
        refine V_iload_n C dX7_init_34 rfl ?_
        refine V_putFI C hin 7 2 rfl cf_7 pl_X7_17 rfl (by decide) (by decide) dX7_init_35 kq ?_
        refine V_aload_n C dX7_init_38 rfl (by first | exact isR_r _ | exact isR_q _ | exact isR_n) ?_
        refine V_iload C dX7_init_39 rfl ?_
        refine V_putFI C hin 7 3 rfl cf_7 pl_X7_20 rfl (by decide) (by decide) dX7_init_41 kq ?_
        refine V_aload_n C dX7_init_44 rfl (by first | exact isR_r _ | exact isR_q _ | exact isR_n) ?_
        refine V_iload C dX7_init_45 rfl ?_
        refine V_putFI C hin 7 4 rfl cf_7 pl_X7_23 rfl (by decide) (by decide) dX7_init_47 kq ?_
        refine V_aload_n C dX7_init_50 rfl (by first | exact isR_r _ | exact isR_q _ | exact isR_n) ?_
        refine V_iload C dX7_init_51 rfl ?_
        refine V_putFI C hin 7 5 rfl cf_7 pl_X7_26 rfl (by decide) (by decide) dX7_init_53 kq ?_
        refine V_aload_n C dX7_init_56 rfl (by first | exact isR_r _ | exact isR_q _ | exact isR_n) ?_
        refine V_iload C dX7_init_57 rfl ?_
        refine V_putFI C hin 7 6 rfl cf_7 pl_X7_29 rfl (by decide) (by decide) dX7_init_59 kq ?_
        refine V_vret C (by first | omega | decide) (by first | omega | decide) dX7_init_62 ?_
        exact ⟨rfl, kq, At_I (At_I (At_I (At_I (At_I (At_I (At_R At_0)))))), (sI_n1 (by decide)).trans ((sI_n1 (by decide)).trans ((sI_n1 (by decide)).trans ((sI_n1 (by decide)).trans ((sI_n1 (by decide)).trans (sI_s))))), (sI_n1 (by decide)).trans ((sI_n1 (by decide)).trans ((sI_n1 (by decide)).trans ((sI_n1 (by decide)).trans (sI_s)))), (sI_n1 (by decide)).trans ((sI_n1 (by decide)).trans ((sI_n1 (by decide)).trans (sI_s))), (sI_n1 (by decide)).trans ((sI_n1 (by decide)).trans (sI_s)), (sI_n1 (by decide)).trans (sI_s), sI_s, (by simp only [sR_pI]; exact sR_s)⟩
  · refine V_aload_n C dX7_init_0 rfl (by first | exact isR_r _ | exact isR_q _ | exact isR_n) ?_
    refine V_objI C ko_X7_1 ko_1 ko_2 (by decide) (by decide) dX7_init_1 ?_
    refine V_aload_n C dX7_init_4 rfl (by first | exact isR_r _ | exact isR_q _ | exact isR_n) ?_
    refine V_aload_n C dX7_init_5 rfl (by first | exact isR_r _ | exact isR_q _ | exact isR_n) ?_
    dsimp only
    refine V_ifnull C (tgt := 24) dX7_init_6 (by decide) (fun h6 => ?_) (fun a6 h6 => ?_)
    · cases h6
    · cases h6
      refine V_aload_n C dX7_init_9 rfl (by first | exact isR_r _ | exact isR_q _ | exact isR_n) ?_
      refine V_getIe C 7 1 rfl cf_7 fl_X7_7 (by decide) (by decide) dX7_init_10 ka rfl ?_
      refine V_iload_n C dX7_init_13 rfl ?_
      refine V_icmp_ne C (tgt := 24) dX7_init_14 (by decide) (fun h14 => ?_) (fun h14 => ?_)
      · refine V_aload_n C dX7_init_24 rfl (by first | exact isR_r _ | exact isR_q _ | exact isR_n) ?_
        dsimp only
        refine V_putFR C hin 7 0 rfl cf_7 pl_X7_13 rfl (by first | exact Or.inl ⟨_, rfl⟩ | exact Or.inr ⟨_, rfl⟩) (by decide) (by decide) dX7_init_25 kq ?_
        refine V_aload_n C dX7_init_28 rfl (by first | exact isR_r _ | exact isR_q _ | exact isR_n) ?_
        refine V_iload_n C dX7_init_29 rfl ?_
        refine V_putFI C hin 7 1 rfl cf_7 pl_X7_7 rfl (by decide) (by decide) dX7_init_30 kq ?_
        refine V_aload_n C dX7_init_33 rfl (by first | exact isR_r _ | exact isR_q _ | exact isR_n) ?_
        refine V_iload_n C dX7_init_34 rfl ?_
        refine V_putFI C hin 7 2 rfl cf_7 pl_X7_17 rfl (by decide) (by decide) dX7_init_35 kq ?_
        refine V_aload_n C dX7_init_38 rfl (by first | exact isR_r _ | exact isR_q _ | exact isR_n) ?_
        refine V_iload C dX7_init_39 rfl ?_
        refine V_putFI C hin 7 3 rfl cf_7 pl_X7_20 rfl (by decide) (by decide) dX7_init_41 kq ?_
        refine V_aload_n C dX7_init_44 rfl (by first | exact isR_r _ | exact isR_q _ | exact isR_n) ?_
        refine V_iload C dX7_init_45 rfl ?_
        refine V_putFI C hin 7 4 rfl cf_7 pl_X7_23 rfl (by decide) (by decide) dX7_init_47 kq ?_
        refine V_aload_n C dX7_init_50 rfl (by first | exact isR_r _ | exact isR_q _ | exact isR_n) ?_
        refine V_iload C dX7_init_51 rfl ?_
        refine V_putFI C hin 7 5 rfl cf_7 pl_X7_26 rfl (by decide) (by decide) dX7_init_53 kq ?_
        refine V_aload_n C dX7_init_56 rfl (by first | exact isR_r _ | exact isR_q _ | exact isR_n) ?_
        refine V_iload C dX7_init_57 rfl ?_
        refine V_putFI C hin 7 6 rfl cf_7 pl_X7_29 rfl (by decide) (by decide) dX7_init_59 kq ?_
        refine V_vret C (by first | omega | decide) (by first | omega | decide) dX7_init_62 ?_
        exact ⟨rfl, kq, At_I (At_I (At_I (At_I (At_I (At_I (At_R At_0)))))), (sI_n1 (by decide)).trans ((sI_n1 (by decide)).trans ((sI_n1 (by decide)).trans ((sI_n1 (by decide)).trans ((sI_n1 (by decide)).trans (sI_s))))), (sI_n1 (by decide)).trans ((sI_n1 (by decide)).trans ((sI_n1 (by decide)).trans ((sI_n1 (by decide)).trans (sI_s)))), (sI_n1 (by decide)).trans ((sI_n1 (by decide)).trans ((sI_n1 (by decide)).trans (sI_s))), (sI_n1 (by decide)).trans ((sI_n1 (by decide)).trans (sI_s)), (sI_n1 (by decide)).trans (sI_s), sI_s, (by simp only [sR_pI]; exact sR_s)⟩
      · exact absurd h14 e1
theorem oTells_A {σ : aS} {h s a b u : Int32} (hI : IC σ) (e : tTells σ h s (cN σ 27) = σ.2 27) : oTells σ h s a b u = (up2 (up2 (up2 (up2 (up2 (up2 σ.1 28 (cN σ 27) h) 29 (cN σ 27) s) 30 (cN σ 27) (σ.2 0)) 31 (cN σ 27) a) 32 (cN σ 27) b) 33 (cN σ 27) u, up1 σ.2 27 (nI (cN σ 27 + 1))) := by
  unfold oTells
  rw [e, if_pos rfl, ← nI_1, ← hI.2.2.2.1.1]
  rfl
theorem oTells_R {σ : aS} {h s a b u : Int32} {m : Nat} (hI : IC σ) (hm : m < cN σ 27) (e : tTells σ h s (cN σ 27) = nI m) : oTells σ h s a b u = (up2 (up2 (up2 (up2 (up2 (up2 σ.1 28 m h) 29 m s) 30 m (σ.2 0)) 31 m a) 32 m b) 33 m u, σ.2) := by
  have c := hI.2.2.2.1.2
  unfold oTells
  rw [e, show (nI m).toNatClampNeg = m from nI_clamp (by omega), if_neg (fun z => by
    rw [hI.2.2.2.1.1] at z
    have := (nI_eq (by omega) (by omega)).mp z
    omega), Int32.add_zero]
  have : up1 σ.2 27 (σ.2 27) = σ.2 := funext fun x => by
    by_cases q : x = 27
    · rw [q, up1_s]
    · exact up1_n q
  rw [this]
noncomputable def bfT (σ : aS) (ad : Nat → Nat → Nat) (k s : Nat) : Option Nat := match trmL σ (nI k) (nI s) (cN σ 27) with
  | none => none
  | some m => if σ.1 30 m = σ.2 0 then (trmL σ (nI k) (nI s) m).map (ad 7) else some (ad 7 m)
theorem hb_T {S : sS} {ad : Nat → Nat → Nat} {σ : aS} (hC : RelC S ad σ) {k s q : Nat} (zq : sK S q = 0) : ((trmL σ (nI k) (nI s) (cN σ 27)).map (ad 7) = none ∧ bfT σ ad k s = none) ∨ ∃ a, (trmL σ (nI k) (nI s) (cN σ 27)).map (ad 7) = some a ∧ sK (nO S 8 q) a = 8 ∧ ((sI (nO S 8 q) 701 a = σ.2 0 ∧ sR (nO S 8 q) 700 a = bfT σ ad k s) ∨ (¬ sI (nO S 8 q) 701 a = σ.2 0 ∧ bfT σ ad k s = some a)) := by
  unfold bfT
  cases hm : trmL σ (nI k) (nI s) (cN σ 27) with
  | none => exact Or.inl ⟨rfl, rfl⟩
  | some m =>
    obtain ⟨m1, m2, m3⟩ := trmL_lt hm
    have km : sK S (ad 7 m) = 8 := RelC_K hC 7 (by decide) m1
    have nq : ad 7 m ≠ q := fun e => by rw [e, zq] at km; exact absurd km (by decide)
    have e1 : sI (nO S 8 q) 701 (ad 7 m) = σ.1 30 m := (if_neg nq).trans (RelC_I hC 7 701 rfl (by unfold cFd; omega) rfl m1)
    have e0 : sR (nO S 8 q) 700 (ad 7 m) = (trmL σ (σ.1 28 m) (σ.1 29 m) m).map (ad 7) := (if_neg nq).trans (RelC_R hC 7 700 rfl (by unfold cFd; omega) rfl m1)
    refine Or.inr ⟨ad 7 m, rfl, (up1_n nq).trans km, ?_⟩
    by_cases h : σ.1 30 m = σ.2 0
    · refine Or.inl ⟨e1.trans h, e0.trans ?_⟩
      show _ = if σ.1 30 m = σ.2 0 then _ else _
      rw [if_pos h, m2, m3]
    · refine Or.inr ⟨fun z => h (e1.symm.trans z), ?_⟩
      show (if σ.1 30 m = σ.2 0 then _ else _) = _
      rw [if_neg h]
theorem CQ_tells {S T : sS} {ad : Nat → Nat → Nat} {σ : aS} (hC : RelC S ad σ) (hI : IC σ) (hS : IS σ) (hT : JT σ) {k s q : Nat} (hk : k < cN σ 20) (hs : s < 3) (zq : sK S q = 0) (f u x y z b c : Int32) (e2 : f = (if nI s = 2 then b else σ.2 0)) (e4 : x = (if nI s = 0 then b else 0)) (e5 : y = (if nI s = 0 then c else 0)) (e6 : z = (if nI s = 1 then b else 0))
    (kT : sK T q = 8) (hF : FrN S T) (i1 : sI T 701 q = σ.2 0) (i2 : sI T 702 q = f) (i3 : sI T 703 q = u) (i4 : sI T 704 q = x) (i5 : sI T 705 q = y) (i6 : sI T 706 q = z) (r0 : sR T 700 q = bfT σ ad k s) : CQ S ad (oTells σ (nI k) (nI s) b c u) (pR T (204 + s) (ad 2 k) (some q)) := by
  have kh : sK S (ad 2 k) = 3 := RelC_K hC 2 (by decide) hk
  have kh2 : sK T (ad 2 k) = 3 := (hF (ad 2 k) (by rw [kh]; decide) id).1.trans kh
  have fr : Fr isD S (pR T (204 + s) (ad 2 k) (some q)) := Fr_tr (Fr_N hF) (Fr_R (by rw [kh2]; exact Or.inl ⟨by decide, by decide⟩))
  have hC1 := RelC_N hC hF
  have hne : ∀ j, j < cN σ 27 → ad 7 j ≠ q := fun j hj e => RelC_k0 hC (i := 7) (j := j) (by decide) hj (by rw [e]; exact zq)
  have c20 := hI.2.2.1.2
  have c27 := hI.2.2.2.1.2
  by_cases hm : ∃ m, trmL σ (nI k) (nI s) (cN σ 27) = some m ∧ σ.1 30 m = σ.2 0
  · obtain ⟨m, hm, h30⟩ := hm
    have eb : bfT σ ad k s = (trmL σ (nI k) (nI s) m).map (ad 7) := by
      unfold bfT
      rw [hm]
      exact if_pos h30
    rw [oTells_R hI (trmL_lt hm).1 (tTells_R hm h30)]
    have hR := RelC_termR (A := σ.1) (B := σ.2) (a := σ.2 0) (b := b) (c := c) (d := u) hC1 hk c20 hs hm h30 i1 (i2.trans e2) i3 (i4.trans e4) (i5.trans e5) (i6.trans e6) (r0.trans eb) kT hne
    exact ⟨up2 ad 7 m q, ⟨up2_n1 (by decide), up2_f (by decide)⟩, hR, fr⟩
  · have hno : ∀ m, trmL σ (nI k) (nI s) (cN σ 27) = some m → ¬ σ.1 30 m = σ.2 0 := fun m h1 h2 => hm ⟨m, h1, h2⟩
    have eb : bfT σ ad k s = (trmL σ (nI k) (nI s) (cN σ 27)).map (ad 7) := by
      unfold bfT
      cases h : trmL σ (nI k) (nI s) (cN σ 27) with
      | none => rfl
      | some m => exact if_neg (hno m h)
    rw [oTells_A hI (tTells_A hI hT hno)]
    have es : up2 ad 7 (cN σ 27) q 7 (cN σ 27) = q := up2_s
    have hC2 := RelC_ad (ad' := up2 ad 7 (cN σ 27) q) hI hS hC1 fun i j hi hl => by
      by_cases e : i = 7 ∧ j = cN σ 27
      · obtain ⟨rfl, rfl⟩ := e
        exact absurd (show cN σ 27 < cN σ 27 from hl) (Nat.lt_irrefl _)
      · exact if_neg e
    have em : (trmL σ (nI k) (nI s) (cN σ 27)).map (up2 ad 7 (cN σ 27) q 7) = (trmL σ (nI k) (nI s) (cN σ 27)).map (ad 7) := by
      cases hh : trmL σ (nI k) (nI s) (cN σ 27) with
      | none => rfl
      | some w => exact congrArg some (up2_n2 (by have := (trmL_lt hh).1; omega))
    have hR := RelC_term (A := σ.1) (B := σ.2) (n := cN σ 27) (a := σ.2 0) (b := b) (c := c) (d := u) hC2 rfl (by omega) hk c20 hs (by rw [es]; exact i1) (by rw [es]; exact i2.trans e2) (by rw [es]; exact i3) (by rw [es]; exact i4.trans e4) (by rw [es]; exact i5.trans e5) (by rw [es]; exact i6.trans e6) (by rw [es, em]; exact r0.trans eb) (by rw [es]; exact kT) (fun j hj => by
      rw [es, up2_n2 (by omega)]
      exact hne j hj)
    rw [es, up2_n1 (show (2 : Nat) ≠ 7 by decide)] at hR
    exact ⟨up2 ad 7 (cN σ 27) q, ⟨up2_n1 (by decide), up2_f (by decide)⟩, hR, fr⟩
theorem c_X8_approve (l : Launch) (hl : l.stackTraces = false) (G : gG) (S : sS) (ad : Nat → Nat → Nat) (σ : aS) (hC : RelC S ad σ) (hI : IC σ) (hS : IS σ) (hT : JT σ) (k : Nat) (hk : k < cN σ 20) (a b u : Int32) (hv : (0 ≤ a ∧ a ≤ 17) ∧ (a ≤ b ∧ b ≤ 17) ∧ (0 ≤ u ∧ u ≤ 20000)) : CtC l G yX8_approve cX8_approve 6 none 7 8 60 [.ref (ad 8 0), .int (nI k), .int a, .int b, .int u] S ad none (oTells σ (nI k) 0 a b u) := by
  refine Ct_of (by decide) (cat1_all (by repeat first | exact trivial | refine ⟨by first | rfl | exact isR_c (isR_q _), ?_⟩)) (Nat.le_of_ble_eq_true rfl) hl fun X C hXl hin => ?_
  subst hXl
  dsimp only [lArgs, Nat.reduceAdd]
  have kx : sK S (ad 8 0) = 9 := RelC_K hC 8 (by decide) rfl
  have ix_808 : sI S 808 (ad 8 0) = σ.2 0 := RelC_I hC 8 808 rfl (by unfold cFd; omega) rfl rfl
  have kh : sK S (ad 2 k) = 3 := RelC_K hC 2 (by decide) hk
  have rh_204 : sR S 204 (ad 2 k) = (trmL σ (nI k) (nI 0) (cN σ 27)).map (ad 7) := RelC_R hC 2 204 rfl (by unfold cFd; omega) rfl hk
  refine V_aload_n C dX8_approve_0 rfl (by first | exact isR_r _ | exact isR_q _ | exact isR_n) ?_
  refine V_iload_n C dX8_approve_1 rfl ?_
  refine V_fV C (c_X8_homeAt _ hl G S ad σ hC hI.2.2.1.2 k hk) kv_X8_71 cf_8 (by decide) rfl kx (by decide) (by decide) rfl rfl (Nat.le_of_ble_eq_true rfl) dX8_approve_2 ?_
  dsimp only [Option.toList_some, Option.toList_none, List.cons_append, List.nil_append]
  refine V_astore C dX8_approve_5 (by decide) (by first | exact isR_r _ | exact isR_q _ | exact isR_n) rfl ?_
  simp only [lset1, lset2, List.filter_cons, List.filter_nil, Nat.reduceBEq, Nat.reduceAdd, Bool.not_true, Bool.not_false, Bool.and_true, Bool.and_false, Bool.true_and, Bool.false_and, if_true, if_false, Bool.false_eq_true, reduceIte]
  refine V_iload_n C dX8_approve_7 rfl ?_
  refine V_iconst C (v := 0) dX8_approve_8 (by decide) ?_
  refine V_bipush C (v := 17) dX8_approve_9 (by decide) ?_
  refine V_fS C (c_X8_isWithin _ hl G S _ _ _) ks_X8_34 (by decide) (by decide) rfl rfl (Nat.le_of_ble_eq_true rfl) dX8_approve_11 ?_
  dsimp only [Option.toList_some, Option.toList_none, List.cons_append, List.nil_append]
  rw [bI_t hv.1]
  refine V_if_eq C (tgt := 43) dX8_approve_14 (by decide) (fun h14 => ?_) (fun h14 => ?_)
  · exact absurd h14 (by decide)
  · refine V_iload_n C dX8_approve_17 rfl ?_
    refine V_iload_n C dX8_approve_18 rfl ?_
    refine V_bipush C (v := 17) dX8_approve_19 (by decide) ?_
    refine V_fS C (c_X8_isWithin _ hl G S _ _ _) ks_X8_34 (by decide) (by decide) rfl rfl (Nat.le_of_ble_eq_true rfl) dX8_approve_21 ?_
    dsimp only [Option.toList_some, Option.toList_none, List.cons_append, List.nil_append]
    rw [bI_t hv.2.1]
    refine V_if_eq C (tgt := 43) dX8_approve_24 (by decide) (fun h24 => ?_) (fun h24 => ?_)
    · exact absurd h24 (by decide)
    · refine V_iload C dX8_approve_27 rfl ?_
      refine V_iconst C (v := 0) dX8_approve_29 (by decide) ?_
      refine V_sipush C (v := 20000) dX8_approve_30 (by decide) ?_
      refine V_fS C (c_X8_isWithin _ hl G S _ _ _) ks_X8_34 (by decide) (by decide) rfl rfl (Nat.le_of_ble_eq_true rfl) dX8_approve_33 ?_
      dsimp only [Option.toList_some, Option.toList_none, List.cons_append, List.nil_append]
      rw [bI_t hv.2.2]
      refine V_if_eq C (tgt := 43) dX8_approve_36 (by decide) (fun h36 => ?_) (fun h36 => ?_)
      · exact absurd h36 (by decide)
      · refine V_iconst C (v := 1) dX8_approve_39 (by decide) ?_
        refine V_goto C (tgt := 44) dX8_approve_40 (by decide) ?_
        refine V_fS C (c_X8_require1 _ hl G S) ks_X8_38 (by decide) (by decide) rfl rfl (Nat.le_of_ble_eq_true rfl) dX8_approve_44 ?_
        dsimp only [Option.toList_some, Option.toList_none, List.cons_append, List.nil_append]
        refine V_aload C dX8_approve_47 rfl (by first | exact isR_r _ | exact isR_q _ | exact isR_n) ?_
        refine V_new C 7 cf_7 nw_X8_75 (by decide) (by decide) (by decide) dX8_approve_49 (fun q hB hz => ?_)
        have zq : sK S q = 0 := hz q (Nat.le_refl q)
        have k3 : sK (nO S 8 q) q = 8 := up1_s
        have nh : ad 2 k ≠ q := fun e => by rw [e, zq] at kh; exact absurd kh (by decide)
        have n8 : ad 8 0 ≠ q := fun e => by rw [e, zq] at kx; exact absurd kx (by decide)
        have kH : sK (nO S 8 q) (ad 2 k) = 3 := (up1_n nh).trans kh
        have kX : sK (nO S 8 q) (ad 8 0) = 9 := (up1_n n8).trans kx
        have rH : sR (nO S 8 q) 204 (ad 2 k) = (trmL σ (nI k) (nI 0) (cN σ 27)).map (ad 7) := (if_neg nh).trans rh_204
        have iX : sI (nO S 8 q) 808 (ad 8 0) = σ.2 0 := (if_neg n8).trans ix_808
        refine V_dup C dX8_approve_52 (by first | rfl | exact isR_c (isR_q _)) ?_
        refine V_aload C dX8_approve_53 rfl (by first | exact isR_r _ | exact isR_q _ | exact isR_n) ?_
        refine V_getRe C 2 4 rfl cf_2 fl_X8_77 (by decide) (by decide) dX8_approve_55 kH rH ?_
        refine V_aload_n C dX8_approve_58 rfl (by first | exact isR_r _ | exact isR_q _ | exact isR_n) ?_
        refine V_getIe C 8 8 rfl cf_8 fl_X8_53 (by decide) (by decide) dX8_approve_59 kX iX ?_
        refine V_aload_n C dX8_approve_62 rfl (by first | exact isR_r _ | exact isR_q _ | exact isR_n) ?_
        refine V_getIe C 8 8 rfl cf_8 fl_X8_53 (by decide) (by decide) dX8_approve_63 kX iX ?_
        refine V_iload C dX8_approve_66 rfl ?_
        refine V_iload_n C dX8_approve_68 rfl ?_
        refine V_iload_n C dX8_approve_69 rfl ?_
        refine V_iconst C (v := 0) dX8_approve_70 (by decide) ?_
        refine V_callI C (c_X7_init _ hl G _ q k3 _ (bfT σ ad k 0) _ _ _ _ _ _ (hb_T hC zq)) ki_X8_81 (by decide) (by decide) rfl rfl (Nat.le_of_ble_eq_true rfl) dX8_approve_71 ?_
        intro w1 T hT1
        obtain ⟨rfl, kT, hAt, i1, i2, i3, i4, i5, i6, r0⟩ := hT1
        dsimp only [Option.toList_some, Option.toList_none, List.cons_append, List.nil_append]
        have hF : FrN S T := FrN_At zq hAt
        have kP : sK T (ad 2 k) = 3 := (hF (ad 2 k) (by rw [kh]; decide) id).1.trans kh
        refine V_putR C 2 4 rfl cf_2 pl_X8_77 (by first | exact Or.inl ⟨_, rfl⟩ | exact Or.inr ⟨_, rfl⟩) (by decide) (by decide) dX8_approve_74 kP (o := some q) ?_
        refine V_vret C (by first | omega | decide) (by first | omega | decide) dX8_approve_77 ?_
        exact ⟨rfl, CQ_tells (s := 0) hC hI hS hT hk (by decide) zq (σ.2 0) u a b 0 a b (by first | exact (if_pos rfl).symm | exact (if_neg (by decide)).symm) (by first | exact (if_pos rfl).symm | exact (if_neg (by decide)).symm) (by first | exact (if_pos rfl).symm | exact (if_neg (by decide)).symm) (by first | exact (if_pos rfl).symm | exact (if_neg (by decide)).symm) kT hF i1 i2 i3 i4 i5 i6 r0⟩
theorem c_X8_approveX (l : Launch) (hl : l.stackTraces = false) (G : gG) (S : sS) (ad : Nat → Nat → Nat) (σ : aS) (hC : RelC S ad σ) (hI : IC σ) (x9 a b u : Int32) (hx : ¬ ∃ k, k < cN σ 20 ∧ x9 = nI k) : CtX l G yX8_approve cX8_approve 6 none 7 8 60 [.ref (ad 8 0), .int x9, .int a, .int b, .int u] S "java/lang/IndexOutOfBoundsException" := by
  refine Ct_of (by decide) (cat1_all (by repeat first | exact trivial | refine ⟨by first | rfl | exact isR_c (isR_q _), ?_⟩)) (Nat.le_of_ble_eq_true rfl) hl fun X C hXl hin => ?_
  subst hXl
  dsimp only [lArgs, Nat.reduceAdd]
  have kx : sK S (ad 8 0) = 9 := RelC_K hC 8 (by decide) rfl
  refine V_aload_n C dX8_approve_0 rfl (by first | exact isR_r _ | exact isR_q _ | exact isR_n) ?_
  refine V_iload_n C dX8_approve_1 rfl ?_
  refine V_xV C (c_X8_homeAtX _ hl G S ad σ hC hI.2.2.1.2 x9 hx) kv_X8_71 cf_8 (by decide) rfl kx (by decide) (by decide) rfl rfl (Nat.le_of_ble_eq_true rfl) dX8_approve_2 (by first | omega | decide) (by first | omega | decide) ?_
  exact ⟨rfl, rfl⟩
theorem c_X8_approveY (l : Launch) (hl : l.stackTraces = false) (G : gG) (S : sS) (ad : Nat → Nat → Nat) (σ : aS) (hC : RelC S ad σ) (hI : IC σ) (k : Nat) (hk : k < cN σ 20) (a b u : Int32) (hv : ¬ ((0 ≤ a ∧ a ≤ 17) ∧ (a ≤ b ∧ b ≤ 17) ∧ (0 ≤ u ∧ u ≤ 20000))) : CtX l G yX8_approve cX8_approve 6 none 7 8 60 [.ref (ad 8 0), .int (nI k), .int a, .int b, .int u] S "java/lang/IllegalArgumentException" := by
  refine Ct_of (by decide) (cat1_all (by repeat first | exact trivial | refine ⟨by first | rfl | exact isR_c (isR_q _), ?_⟩)) (Nat.le_of_ble_eq_true rfl) hl fun X C hXl hin => ?_
  subst hXl
  dsimp only [lArgs, Nat.reduceAdd]
  have kx : sK S (ad 8 0) = 9 := RelC_K hC 8 (by decide) rfl
  have ix_808 : sI S 808 (ad 8 0) = σ.2 0 := RelC_I hC 8 808 rfl (by unfold cFd; omega) rfl rfl
  refine V_aload_n C dX8_approve_0 rfl (by first | exact isR_r _ | exact isR_q _ | exact isR_n) ?_
  refine V_iload_n C dX8_approve_1 rfl ?_
  refine V_fV C (c_X8_homeAt _ hl G S ad σ hC hI.2.2.1.2 k hk) kv_X8_71 cf_8 (by decide) rfl kx (by decide) (by decide) rfl rfl (Nat.le_of_ble_eq_true rfl) dX8_approve_2 ?_
  dsimp only [Option.toList_some, Option.toList_none, List.cons_append, List.nil_append]
  refine V_astore C dX8_approve_5 (by decide) (by first | exact isR_r _ | exact isR_q _ | exact isR_n) rfl ?_
  simp only [lset1, lset2, List.filter_cons, List.filter_nil, Nat.reduceBEq, Nat.reduceAdd, Bool.not_true, Bool.not_false, Bool.and_true, Bool.and_false, Bool.true_and, Bool.false_and, if_true, if_false, Bool.false_eq_true, reduceIte]
  refine V_iload_n C dX8_approve_7 rfl ?_
  refine V_iconst C (v := 0) dX8_approve_8 (by decide) ?_
  refine V_bipush C (v := 17) dX8_approve_9 (by decide) ?_
  refine V_fS C (c_X8_isWithin _ hl G S _ _ _) ks_X8_34 (by decide) (by decide) rfl rfl (Nat.le_of_ble_eq_true rfl) dX8_approve_11 ?_
  dsimp only [Option.toList_some, Option.toList_none, List.cons_append, List.nil_append]
  refine V_if_eq C (tgt := 43) dX8_approve_14 (by decide) (fun h14 => ?_) (fun h14 => ?_)
  · refine V_iconst C (v := 0) dX8_approve_43 (by decide) ?_
    refine V_xS C (c_X8_require0 _ hl G S) ks_X8_38 (by decide) (by decide) rfl rfl (Nat.le_of_ble_eq_true rfl) dX8_approve_44 (by first | omega | decide) (by first | omega | decide) ?_
    exact ⟨rfl, rfl⟩
  · refine V_iload_n C dX8_approve_17 rfl ?_
    refine V_iload_n C dX8_approve_18 rfl ?_
    refine V_bipush C (v := 17) dX8_approve_19 (by decide) ?_
    refine V_fS C (c_X8_isWithin _ hl G S _ _ _) ks_X8_34 (by decide) (by decide) rfl rfl (Nat.le_of_ble_eq_true rfl) dX8_approve_21 ?_
    dsimp only [Option.toList_some, Option.toList_none, List.cons_append, List.nil_append]
    refine V_if_eq C (tgt := 43) dX8_approve_24 (by decide) (fun h24 => ?_) (fun h24 => ?_)
    · refine V_iconst C (v := 0) dX8_approve_43 (by decide) ?_
      refine V_xS C (c_X8_require0 _ hl G S) ks_X8_38 (by decide) (by decide) rfl rfl (Nat.le_of_ble_eq_true rfl) dX8_approve_44 (by first | omega | decide) (by first | omega | decide) ?_
      exact ⟨rfl, rfl⟩
    · refine V_iload C dX8_approve_27 rfl ?_
      refine V_iconst C (v := 0) dX8_approve_29 (by decide) ?_
      refine V_sipush C (v := 20000) dX8_approve_30 (by decide) ?_
      refine V_fS C (c_X8_isWithin _ hl G S _ _ _) ks_X8_34 (by decide) (by decide) rfl rfl (Nat.le_of_ble_eq_true rfl) dX8_approve_33 ?_
      dsimp only [Option.toList_some, Option.toList_none, List.cons_append, List.nil_append]
      refine V_if_eq C (tgt := 43) dX8_approve_36 (by decide) (fun h36 => ?_) (fun h36 => ?_)
      · refine V_iconst C (v := 0) dX8_approve_43 (by decide) ?_
        refine V_xS C (c_X8_require0 _ hl G S) ks_X8_38 (by decide) (by decide) rfl rfl (Nat.le_of_ble_eq_true rfl) dX8_approve_44 (by first | omega | decide) (by first | omega | decide) ?_
        exact ⟨rfl, rfl⟩
      · exact absurd ⟨bI_ne.mp h14, bI_ne.mp h24, bI_ne.mp h36⟩ hv
theorem c_X8_train (l : Launch) (hl : l.stackTraces = false) (G : gG) (S : sS) (ad : Nat → Nat → Nat) (σ : aS) (hC : RelC S ad σ) (hI : IC σ) (hS : IS σ) (hT : JT σ) (k : Nat) (hk : k < cN σ 20) (a u : Int32) (hv : (0 ≤ a ∧ a ≤ 15) ∧ (0 ≤ u ∧ u ≤ 20000)) : CtC l G yX8_train cX8_train 5 none 7 8 60 [.ref (ad 8 0), .int (nI k), .int a, .int u] S ad none (oTells σ (nI k) 1 a 0 u) := by
  refine Ct_of (by decide) (cat1_all (by repeat first | exact trivial | refine ⟨by first | rfl | exact isR_c (isR_q _), ?_⟩)) (Nat.le_of_ble_eq_true rfl) hl fun X C hXl hin => ?_
  subst hXl
  dsimp only [lArgs, Nat.reduceAdd]
  have kx : sK S (ad 8 0) = 9 := RelC_K hC 8 (by decide) rfl
  have ix_808 : sI S 808 (ad 8 0) = σ.2 0 := RelC_I hC 8 808 rfl (by unfold cFd; omega) rfl rfl
  have kh : sK S (ad 2 k) = 3 := RelC_K hC 2 (by decide) hk
  have rh_205 : sR S 205 (ad 2 k) = (trmL σ (nI k) (nI 1) (cN σ 27)).map (ad 7) := RelC_R hC 2 205 rfl (by unfold cFd; omega) rfl hk
  refine V_aload_n C dX8_train_0 rfl (by first | exact isR_r _ | exact isR_q _ | exact isR_n) ?_
  refine V_iload_n C dX8_train_1 rfl ?_
  refine V_fV C (c_X8_homeAt _ hl G S ad σ hC hI.2.2.1.2 k hk) kv_X8_71 cf_8 (by decide) rfl kx (by decide) (by decide) rfl rfl (Nat.le_of_ble_eq_true rfl) dX8_train_2 ?_
  dsimp only [Option.toList_some, Option.toList_none, List.cons_append, List.nil_append]
  refine V_astore C dX8_train_5 (by decide) (by first | exact isR_r _ | exact isR_q _ | exact isR_n) rfl ?_
  simp only [lset1, lset2, List.filter_cons, List.filter_nil, Nat.reduceBEq, Nat.reduceAdd, Bool.not_true, Bool.not_false, Bool.and_true, Bool.and_false, Bool.true_and, Bool.false_and, if_true, if_false, Bool.false_eq_true, reduceIte]
  refine V_iload_n C dX8_train_7 rfl ?_
  refine V_iconst C (v := 0) dX8_train_8 (by decide) ?_
  refine V_bipush C (v := 15) dX8_train_9 (by decide) ?_
  refine V_fS C (c_X8_isWithin _ hl G S _ _ _) ks_X8_34 (by decide) (by decide) rfl rfl (Nat.le_of_ble_eq_true rfl) dX8_train_11 ?_
  dsimp only [Option.toList_some, Option.toList_none, List.cons_append, List.nil_append]
  rw [bI_t hv.1]
  refine V_if_eq C (tgt := 32) dX8_train_14 (by decide) (fun h14 => ?_) (fun h14 => ?_)
  · exact absurd h14 (by decide)
  · refine V_iload_n C dX8_train_17 rfl ?_
    refine V_iconst C (v := 0) dX8_train_18 (by decide) ?_
    refine V_sipush C (v := 20000) dX8_train_19 (by decide) ?_
    refine V_fS C (c_X8_isWithin _ hl G S _ _ _) ks_X8_34 (by decide) (by decide) rfl rfl (Nat.le_of_ble_eq_true rfl) dX8_train_22 ?_
    dsimp only [Option.toList_some, Option.toList_none, List.cons_append, List.nil_append]
    rw [bI_t hv.2]
    refine V_if_eq C (tgt := 32) dX8_train_25 (by decide) (fun h25 => ?_) (fun h25 => ?_)
    · exact absurd h25 (by decide)
    · refine V_iconst C (v := 1) dX8_train_28 (by decide) ?_
      refine V_goto C (tgt := 33) dX8_train_29 (by decide) ?_
      refine V_fS C (c_X8_require1 _ hl G S) ks_X8_38 (by decide) (by decide) rfl rfl (Nat.le_of_ble_eq_true rfl) dX8_train_33 ?_
      dsimp only [Option.toList_some, Option.toList_none, List.cons_append, List.nil_append]
      refine V_aload C dX8_train_36 rfl (by first | exact isR_r _ | exact isR_q _ | exact isR_n) ?_
      refine V_new C 7 cf_7 nw_X8_75 (by decide) (by decide) (by decide) dX8_train_38 (fun q hB hz => ?_)
      have zq : sK S q = 0 := hz q (Nat.le_refl q)
      have k3 : sK (nO S 8 q) q = 8 := up1_s
      have nh : ad 2 k ≠ q := fun e => by rw [e, zq] at kh; exact absurd kh (by decide)
      have n8 : ad 8 0 ≠ q := fun e => by rw [e, zq] at kx; exact absurd kx (by decide)
      have kH : sK (nO S 8 q) (ad 2 k) = 3 := (up1_n nh).trans kh
      have kX : sK (nO S 8 q) (ad 8 0) = 9 := (up1_n n8).trans kx
      have rH : sR (nO S 8 q) 205 (ad 2 k) = (trmL σ (nI k) (nI 1) (cN σ 27)).map (ad 7) := (if_neg nh).trans rh_205
      have iX : sI (nO S 8 q) 808 (ad 8 0) = σ.2 0 := (if_neg n8).trans ix_808
      refine V_dup C dX8_train_41 (by first | rfl | exact isR_c (isR_q _)) ?_
      refine V_aload C dX8_train_42 rfl (by first | exact isR_r _ | exact isR_q _ | exact isR_n) ?_
      refine V_getRe C 2 5 rfl cf_2 fl_X8_84 (by decide) (by decide) dX8_train_44 kH rH ?_
      refine V_aload_n C dX8_train_47 rfl (by first | exact isR_r _ | exact isR_q _ | exact isR_n) ?_
      refine V_getIe C 8 8 rfl cf_8 fl_X8_53 (by decide) (by decide) dX8_train_48 kX iX ?_
      refine V_aload_n C dX8_train_51 rfl (by first | exact isR_r _ | exact isR_q _ | exact isR_n) ?_
      refine V_getIe C 8 8 rfl cf_8 fl_X8_53 (by decide) (by decide) dX8_train_52 kX iX ?_
      refine V_iload_n C dX8_train_55 rfl ?_
      refine V_iconst C (v := 0) dX8_train_56 (by decide) ?_
      refine V_iconst C (v := 0) dX8_train_57 (by decide) ?_
      refine V_iload_n C dX8_train_58 rfl ?_
      refine V_callI C (c_X7_init _ hl G _ q k3 _ (bfT σ ad k 1) _ _ _ _ _ _ (hb_T hC zq)) ki_X8_81 (by decide) (by decide) rfl rfl (Nat.le_of_ble_eq_true rfl) dX8_train_59 ?_
      intro w1 T hT1
      obtain ⟨rfl, kT, hAt, i1, i2, i3, i4, i5, i6, r0⟩ := hT1
      dsimp only [Option.toList_some, Option.toList_none, List.cons_append, List.nil_append]
      have hF : FrN S T := FrN_At zq hAt
      have kP : sK T (ad 2 k) = 3 := (hF (ad 2 k) (by rw [kh]; decide) id).1.trans kh
      refine V_putR C 2 5 rfl cf_2 pl_X8_84 (by first | exact Or.inl ⟨_, rfl⟩ | exact Or.inr ⟨_, rfl⟩) (by decide) (by decide) dX8_train_62 kP (o := some q) ?_
      refine V_vret C (by first | omega | decide) (by first | omega | decide) dX8_train_65 ?_
      exact ⟨rfl, CQ_tells (s := 1) hC hI hS hT hk (by decide) zq (σ.2 0) u 0 0 a a 0 (by first | exact (if_pos rfl).symm | exact (if_neg (by decide)).symm) (by first | exact (if_pos rfl).symm | exact (if_neg (by decide)).symm) (by first | exact (if_pos rfl).symm | exact (if_neg (by decide)).symm) (by first | exact (if_pos rfl).symm | exact (if_neg (by decide)).symm) kT hF i1 i2 i3 i4 i5 i6 r0⟩
theorem c_X8_trainX (l : Launch) (hl : l.stackTraces = false) (G : gG) (S : sS) (ad : Nat → Nat → Nat) (σ : aS) (hC : RelC S ad σ) (hI : IC σ) (x9 a u : Int32) (hx : ¬ ∃ k, k < cN σ 20 ∧ x9 = nI k) : CtX l G yX8_train cX8_train 5 none 7 8 60 [.ref (ad 8 0), .int x9, .int a, .int u] S "java/lang/IndexOutOfBoundsException" := by
  refine Ct_of (by decide) (cat1_all (by repeat first | exact trivial | refine ⟨by first | rfl | exact isR_c (isR_q _), ?_⟩)) (Nat.le_of_ble_eq_true rfl) hl fun X C hXl hin => ?_
  subst hXl
  dsimp only [lArgs, Nat.reduceAdd]
  have kx : sK S (ad 8 0) = 9 := RelC_K hC 8 (by decide) rfl
  refine V_aload_n C dX8_train_0 rfl (by first | exact isR_r _ | exact isR_q _ | exact isR_n) ?_
  refine V_iload_n C dX8_train_1 rfl ?_
  refine V_xV C (c_X8_homeAtX _ hl G S ad σ hC hI.2.2.1.2 x9 hx) kv_X8_71 cf_8 (by decide) rfl kx (by decide) (by decide) rfl rfl (Nat.le_of_ble_eq_true rfl) dX8_train_2 (by first | omega | decide) (by first | omega | decide) ?_
  exact ⟨rfl, rfl⟩
theorem c_X8_trainY (l : Launch) (hl : l.stackTraces = false) (G : gG) (S : sS) (ad : Nat → Nat → Nat) (σ : aS) (hC : RelC S ad σ) (hI : IC σ) (k : Nat) (hk : k < cN σ 20) (a u : Int32) (hv : ¬ ((0 ≤ a ∧ a ≤ 15) ∧ (0 ≤ u ∧ u ≤ 20000))) : CtX l G yX8_train cX8_train 5 none 7 8 60 [.ref (ad 8 0), .int (nI k), .int a, .int u] S "java/lang/IllegalArgumentException" := by
  refine Ct_of (by decide) (cat1_all (by repeat first | exact trivial | refine ⟨by first | rfl | exact isR_c (isR_q _), ?_⟩)) (Nat.le_of_ble_eq_true rfl) hl fun X C hXl hin => ?_
  subst hXl
  dsimp only [lArgs, Nat.reduceAdd]
  have kx : sK S (ad 8 0) = 9 := RelC_K hC 8 (by decide) rfl
  have ix_808 : sI S 808 (ad 8 0) = σ.2 0 := RelC_I hC 8 808 rfl (by unfold cFd; omega) rfl rfl
  refine V_aload_n C dX8_train_0 rfl (by first | exact isR_r _ | exact isR_q _ | exact isR_n) ?_
  refine V_iload_n C dX8_train_1 rfl ?_
  refine V_fV C (c_X8_homeAt _ hl G S ad σ hC hI.2.2.1.2 k hk) kv_X8_71 cf_8 (by decide) rfl kx (by decide) (by decide) rfl rfl (Nat.le_of_ble_eq_true rfl) dX8_train_2 ?_
  dsimp only [Option.toList_some, Option.toList_none, List.cons_append, List.nil_append]
  refine V_astore C dX8_train_5 (by decide) (by first | exact isR_r _ | exact isR_q _ | exact isR_n) rfl ?_
  simp only [lset1, lset2, List.filter_cons, List.filter_nil, Nat.reduceBEq, Nat.reduceAdd, Bool.not_true, Bool.not_false, Bool.and_true, Bool.and_false, Bool.true_and, Bool.false_and, if_true, if_false, Bool.false_eq_true, reduceIte]
  refine V_iload_n C dX8_train_7 rfl ?_
  refine V_iconst C (v := 0) dX8_train_8 (by decide) ?_
  refine V_bipush C (v := 15) dX8_train_9 (by decide) ?_
  refine V_fS C (c_X8_isWithin _ hl G S _ _ _) ks_X8_34 (by decide) (by decide) rfl rfl (Nat.le_of_ble_eq_true rfl) dX8_train_11 ?_
  dsimp only [Option.toList_some, Option.toList_none, List.cons_append, List.nil_append]
  refine V_if_eq C (tgt := 32) dX8_train_14 (by decide) (fun h14 => ?_) (fun h14 => ?_)
  · refine V_iconst C (v := 0) dX8_train_32 (by decide) ?_
    refine V_xS C (c_X8_require0 _ hl G S) ks_X8_38 (by decide) (by decide) rfl rfl (Nat.le_of_ble_eq_true rfl) dX8_train_33 (by first | omega | decide) (by first | omega | decide) ?_
    exact ⟨rfl, rfl⟩
  · refine V_iload_n C dX8_train_17 rfl ?_
    refine V_iconst C (v := 0) dX8_train_18 (by decide) ?_
    refine V_sipush C (v := 20000) dX8_train_19 (by decide) ?_
    refine V_fS C (c_X8_isWithin _ hl G S _ _ _) ks_X8_34 (by decide) (by decide) rfl rfl (Nat.le_of_ble_eq_true rfl) dX8_train_22 ?_
    dsimp only [Option.toList_some, Option.toList_none, List.cons_append, List.nil_append]
    refine V_if_eq C (tgt := 32) dX8_train_25 (by decide) (fun h25 => ?_) (fun h25 => ?_)
    · refine V_iconst C (v := 0) dX8_train_32 (by decide) ?_
      refine V_xS C (c_X8_require0 _ hl G S) ks_X8_38 (by decide) (by decide) rfl rfl (Nat.le_of_ble_eq_true rfl) dX8_train_33 (by first | omega | decide) (by first | omega | decide) ?_
      exact ⟨rfl, rfl⟩
    · exact absurd ⟨bI_ne.mp h14, bI_ne.mp h25⟩ hv
