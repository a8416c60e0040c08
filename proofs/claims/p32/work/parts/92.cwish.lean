/-! THE CLASS: wish, report. -/
theorem sA_s {S : sS} {a j : Nat} {v : Int32} : sA (pA S a j v) a = up1 (sA S a) j v := funext fun x => by
  show up2 (sA S) a j v a x = up1 (sA S a) j v x
  by_cases e : x = j
  · subst e; rw [up2_s, up1_s]
  · rw [up2_n2 e, up1_n e]
theorem sA_n {S : sS} {a b j : Nat} {v : Int32} (h : b ≠ a) : sA (pA S a j v) b = sA S b := up2_far h
theorem sA_pI {S : sS} {f a : Nat} {v : Int32} : sA (pI S f a v) = sA S := rfl
theorem sI_pA {S : sS} {f a : Nat} {v : Int32} : sI (pA S f a v) = sI S := rfl
/-- a state of the same numbers and references, whose other words the class keeps elsewhere -/
theorem RelC_wish {S : sS} {ad : Nat → Nat → Nat} {A : Nat → Nat → Int32} {B : Nat → Int32} {k h : Nat} {v : Int32} (hC : RelC S ad (A, B)) (hk : k < cN (A, B) 1) (hh : h < 10) : RelC (pA S (ad 11 k) h v) ad (up2 A 19 (10 * k + h) v, B) := by
  have u : ∀ x, x ≠ 19 → up2 A 19 (10 * k + h) v x = A x := fun x h => up2_f h
  have hne : ∀ i j, (i = 12 ∨ i = 13 ∨ i = 14) → cLv (A, B) i j → ad i j ≠ ad 11 k := fun i j hi l => RelC_ne hC (by omega) (by decide) l hk (by rcases hi with rfl | rfl | rfl <;> decide)
  obtain ⟨a1, a2, a3, a4, a5, a6, a7, a8, a9, a10, a11⟩ := hC
  refine ⟨a1, a2, fun g j x y l => ?_, fun g j x y l => ?_, a5, fun k2 hk2 => ?_, a7, a8, a9, a10, a11⟩
  · refine (a3 g j x y l).trans ?_
    by_cases g9 : g < 800
    · exact (cI_at (σ := (A, B)) (σ' := (up2 A 19 (10 * k + h) v, B)) x y g9 (fun z hz => congrFun (u z (fun q => by subst q; have : 99 = g / 100 := hz; omega)) j) (fun _ => by
        rw [show rN (up2 A 19 (10 * k + h) v, B) j = rN (A, B) j from congrArg (fun z => (z j).toNatClampNeg) (u 34 (by decide))]
        exact rMrg_congr (σ := (A, B)) (σ' := (up2 A 19 (10 * k + h) v, B)) (u 35 (by decide)) (u 36 (by decide)) (u 37 (by decide)) _)).symm
    · exact (cI_8 (σ := (A, B)) (σ' := (up2 A 19 (10 * k + h) v, B)) x y g9 rfl).symm
  · exact (a4 g j x y l).trans (cR_congr (σ := (A, B)) (σ' := (up2 A 19 (10 * k + h) v, B)) (u 10 (by decide)) (u 28 (by decide)) (u 29 (by decide)) (u 39 (by decide)) (u 44 (by decide)) (u 45 (by decide)) rfl rfl).symm
  · obtain ⟨b1, b2, b3, b4⟩ := a6 k2 hk2
    have er : rMrg (up2 A 19 (10 * k + h) v, B) k2 (rN (up2 A 19 (10 * k + h) v, B) k2) = rMrg (A, B) k2 (rN (A, B) k2) := by
      rw [show rN (up2 A 19 (10 * k + h) v, B) k2 = rN (A, B) k2 from congrArg (fun z => (z k2).toNatClampNeg) (u 34 (by decide))]
      exact rMrg_congr (σ := (A, B)) (σ' := (up2 A 19 (10 * k + h) v, B)) (u 35 (by decide)) (u 36 (by decide)) (u 37 (by decide)) _
    rw [er, sA_n (hne 12 k2 (by omega) hk2), sA_n (hne 13 k2 (by omega) hk2), sA_n (hne 14 k2 (by omega) hk2)]
    refine ⟨fun j hj => ?_, b2, b3, b4⟩
    show sA (pA S (ad 11 k) h v) (ad 11 k2) j = up2 A 19 (10 * k + h) v 19 (10 * k2 + j)
    by_cases e : k2 = k
    · subst e
      rw [sA_s]
      by_cases e2 : j = h
      · subst e2; rw [up1_s, up2_s]
      · rw [up1_n e2, up2_n2 (by omega)]; exact b1 j hj
    · rw [sA_n (fun z => e (a2 11 k2 k (by decide) (by decide) (by decide) hk2 hk z)), up2_n2 (by omega)]
      exact b1 j hj
theorem c_X0_tellWish (l : Launch) (hl : l.stackTraces = false) (G : gG) (S : sS) (ad : Nat → Nat → Nat) (σ : aS) (hC : RelC S ad σ) (k : Nat) (hk : k < cN σ 1) (h : Nat) (hh : h < 10) (b on : Int32) : CtF l G yX0_tellWish cX0_tellWish 4 none 2 1 6 [.ref (ad 0 k), .int (nI h), .int b, .int on] S none (pA S (ad 11 k) h (if ¬ b = 0 then 1 else if 12 ≤ mYears σ k on then 3 else 2)) := by
  refine Ct_of (by decide) (cat1_all (by repeat first | exact trivial | refine ⟨by first | rfl | exact isR_c (isR_q _), ?_⟩)) (Nat.le_of_ble_eq_true rfl) hl fun X C hXl hin => ?_
  subst hXl
  dsimp only [lArgs, Nat.reduceAdd]
  have kc : sK S (ad 0 k) = 1 := RelC_K hC 0 (by decide) hk
  have rc_6 : sR S 6 (ad 0 k) = some (ad 11 k) := RelC_R hC 0 6 rfl (by unfold cFd; omega) rfl hk
  have kw : sK S (ad 11 k) = 111 := hC.1 11 k (by decide) (by decide) (by decide) hk
  have lw : sL S (ad 11 k) = 10 := hC.2.2.2.2.1 11 k (by decide) (by decide) hk
  refine V_iload_n C dX0_tellWish_0 rfl ?_
  refine V_if_lt C (tgt := 13) dX0_tellWish_1 (by decide) (fun h1 => ?_) (fun h1 => ?_)
  · exact absurd h1 (nI_pos (by omega))
  · refine V_iload_n C dX0_tellWish_4 rfl ?_
    refine V_aload_n C dX0_tellWish_5 rfl (by first | exact isR_r _ | exact isR_q _ | exact isR_n) ?_
    refine V_getS C 0 6 rfl cf_0 fl_X0_33 (by decide) (by decide) dX0_tellWish_6 kc rc_6 ?_
    refine V_alen C (v := nI 10) kw (by decide) (by rw [lw]; rfl) dX0_tellWish_9 ?_
    refine V_iltN C (tgt := 14) (by omega) (by omega) dX0_tellWish_10 (by decide) (fun h10 => ?_) (fun h10 => ?_)
    · refine V_iload_n C dX0_tellWish_14 rfl ?_
      refine V_if_eq C (tgt := 28) dX0_tellWish_15 (by decide) (fun h15 => ?_) (fun h15 => ?_)
      · have T0 : (if ¬ b = 0 then (1 : Int32) else if 12 ≤ mYears σ k on then 3 else 2) = if 12 ≤ mYears σ k on then 3 else 2 := if_neg (fun z => z h15)
        refine V_aload_n C dX0_tellWish_28 rfl (by first | exact isR_r _ | exact isR_q _ | exact isR_n) ?_
        refine V_getS C 0 6 rfl cf_0 fl_X0_33 (by decide) (by decide) dX0_tellWish_29 kc rc_6 ?_
        refine V_iload_n C dX0_tellWish_32 rfl ?_
        refine V_aload_n C dX0_tellWish_33 rfl (by first | exact isR_r _ | exact isR_q _ | exact isR_n) ?_
        refine V_iload_n C dX0_tellWish_34 rfl ?_
        refine V_fV C (c_X0_years _ hl G S ad σ hC k hk on) kv_X0_82 cf_0 (by decide) rfl kc (by decide) (by decide) rfl rfl (Nat.le_of_ble_eq_true rfl) dX0_tellWish_35 ?_
        dsimp only [Option.toList_some, Option.toList_none, List.cons_append, List.nil_append]
        refine V_bipush C (v := 12) dX0_tellWish_38 (by decide) ?_
        refine V_icmp_lt C (tgt := 47) dX0_tellWish_40 (by decide) (fun h40 => ?_) (fun h40 => ?_)
        · have T1 := T0.trans (if_neg (fun z => absurd (Int32.lt_of_lt_of_le h40 z) (Int32.lt_irrefl)))
          refine V_iconst C (v := 2) dX0_tellWish_47 (by decide) ?_
          refine V_iastE C kw (by decide) lw hh (by decide) dX0_tellWish_48 ?_
          refine V_vret C (by first | omega | decide) (by first | omega | decide) dX0_tellWish_49 ?_
          first | (rw [T1]; exact ⟨rfl, rfl⟩) | (rw [T0]; exact ⟨rfl, rfl⟩)
        · have T1 := T0.trans (if_pos (Int32.not_lt.mp h40))
          refine V_iconst C (v := 3) dX0_tellWish_43 (by decide) ?_
          refine V_goto C (tgt := 48) dX0_tellWish_44 (by decide) ?_
          refine V_iastE C kw (by decide) lw hh (by decide) dX0_tellWish_48 ?_
          refine V_vret C (by first | omega | decide) (by first | omega | decide) dX0_tellWish_49 ?_
          first | (rw [T1]; exact ⟨rfl, rfl⟩) | (rw [T0]; exact ⟨rfl, rfl⟩)
      · have T0 : (if ¬ b = 0 then (1 : Int32) else if 12 ≤ mYears σ k on then 3 else 2) = 1 := if_pos h15
        refine V_aload_n C dX0_tellWish_18 rfl (by first | exact isR_r _ | exact isR_q _ | exact isR_n) ?_
        refine V_getS C 0 6 rfl cf_0 fl_X0_33 (by decide) (by decide) dX0_tellWish_19 kc rc_6 ?_
        refine V_iload_n C dX0_tellWish_22 rfl ?_
        refine V_iconst C (v := 1) dX0_tellWish_23 (by decide) ?_
        refine V_iastE C kw (by decide) lw hh (by decide) dX0_tellWish_24 ?_
        refine V_goto C (tgt := 49) dX0_tellWish_25 (by decide) ?_
        refine V_vret C (by first | omega | decide) (by first | omega | decide) dX0_tellWish_49 ?_
        first | (rw [T1]; exact ⟨rfl, rfl⟩) | (rw [T0]; exact ⟨rfl, rfl⟩)
    · omega
theorem c_X8_wish (l : Launch) (hl : l.stackTraces = false) (G : gG) (S : sS) (ad : Nat → Nat → Nat) (σ : aS) (hC : RelC S ad σ) (hI : IC σ) (k : Nat) (hk : k < cN σ 1) (h : Nat) (hh : h < cN σ 20) (b : Int32) : CtC l G yX8_wish cX8_wish 6 none 7 4 30 [.ref (ad 8 0), .int (nI k), .int (nI h), .int b] S ad none (up2 σ.1 19 (10 * k + h) (if ¬ b = 0 then 1 else if 12 ≤ mYears σ k (σ.2 0) then 3 else 2), σ.2) := by
  refine Ct_of (by decide) (cat1_all (by repeat first | exact trivial | refine ⟨by first | rfl | exact isR_c (isR_q _), ?_⟩)) (Nat.le_of_ble_eq_true rfl) hl fun X C hXl hin => ?_
  subst hXl
  dsimp only [lArgs, Nat.reduceAdd]
  have kx : sK S (ad 8 0) = 9 := RelC_K hC 8 (by decide) rfl
  have ix_808 : sI S 808 (ad 8 0) = σ.2 0 := RelC_I hC 8 808 rfl (by unfold cFd; omega) rfl rfl
  have kh : sK S (ad 2 h) = 3 := RelC_K hC 2 (by decide) hh
  have ih_200 : sI S 200 (ad 2 h) = nI h := RelC_I hC 2 200 rfl (by unfold cFd; omega) rfl hh
  have kc : sK S (ad 0 k) = 1 := RelC_K hC 0 (by decide) hk
  have hh10 : h < 10 := by have := hI.2.2.1.2; omega
  have kw : sK S (ad 11 k) = 111 := hC.1 11 k (by decide) (by decide) (by decide) hk
  refine V_aload_n C dX8_wish_0 rfl (by first | exact isR_r _ | exact isR_q _ | exact isR_n) ?_
  refine V_iload_n C dX8_wish_1 rfl ?_
  refine V_fV C (c_X8_childAt _ hl G S ad σ hC hI.2.1.2 k hk) kv_X8_90 cf_8 (by decide) rfl kx (by decide) (by decide) rfl rfl (Nat.le_of_ble_eq_true rfl) dX8_wish_2 ?_
  dsimp only [Option.toList_some, Option.toList_none, List.cons_append, List.nil_append]
  refine V_astore C dX8_wish_5 (by decide) (by first | exact isR_r _ | exact isR_q _ | exact isR_n) rfl ?_
  simp only [lset1, lset2, List.filter_cons, List.filter_nil, Nat.reduceBEq, Nat.reduceAdd, Bool.not_true, Bool.not_false, Bool.and_true, Bool.and_false, Bool.true_and, Bool.false_and, if_true, if_false, Bool.false_eq_true, reduceIte]
  refine V_aload_n C dX8_wish_7 rfl (by first | exact isR_r _ | exact isR_q _ | exact isR_n) ?_
  refine V_iload_n C dX8_wish_8 rfl ?_
  refine V_fV C (c_X8_homeAt _ hl G S ad σ hC hI.2.2.1.2 h hh) kv_X8_71 cf_8 (by decide) rfl kx (by decide) (by decide) rfl rfl (Nat.le_of_ble_eq_true rfl) dX8_wish_9 ?_
  dsimp only [Option.toList_some, Option.toList_none, List.cons_append, List.nil_append]
  refine V_astore C dX8_wish_12 (by decide) (by first | exact isR_r _ | exact isR_q _ | exact isR_n) rfl ?_
  simp only [lset1, lset2, List.filter_cons, List.filter_nil, Nat.reduceBEq, Nat.reduceAdd, Bool.not_true, Bool.not_false, Bool.and_true, Bool.and_false, Bool.true_and, Bool.false_and, if_true, if_false, Bool.false_eq_true, reduceIte]
  refine V_aload C dX8_wish_14 rfl (by first | exact isR_r _ | exact isR_q _ | exact isR_n) ?_
  refine V_aload C dX8_wish_16 rfl (by first | exact isR_r _ | exact isR_q _ | exact isR_n) ?_
  refine V_getIe C 2 0 rfl cf_2 fl_X8_136 (by decide) (by decide) dX8_wish_18 kh ih_200 ?_
  refine V_iload_n C dX8_wish_21 rfl ?_
  refine V_aload_n C dX8_wish_22 rfl (by first | exact isR_r _ | exact isR_q _ | exact isR_n) ?_
  refine V_getIe C 8 8 rfl cf_8 fl_X8_53 (by decide) (by decide) dX8_wish_23 kx ix_808 ?_
  refine V_fV C (c_X0_tellWish _ hl G S ad σ hC k hk h hh10 b (σ.2 0)) kv_X8_139 cf_0 (by decide) rfl kc (by decide) (by decide) rfl rfl (Nat.le_of_ble_eq_true rfl) dX8_wish_26 ?_
  dsimp only [Option.toList_some, Option.toList_none, List.cons_append, List.nil_append]
  refine V_vret C (by first | omega | decide) (by first | omega | decide) dX8_wish_29 ?_
  exact ⟨rfl, CQ_0 (RelC_wish (A := σ.1) (B := σ.2) hC hk hh10) (Fr_A (by rw [kw]; exact Or.inr ⟨by decide, by decide⟩))⟩
theorem c_X8_wishX (l : Launch) (hl : l.stackTraces = false) (G : gG) (S : sS) (ad : Nat → Nat → Nat) (σ : aS) (hC : RelC S ad σ) (hI : IC σ) (x y b : Int32) (hx : (¬ ∃ k, k < cN σ 1 ∧ x = nI k) ∨ ¬ ∃ h, h < cN σ 20 ∧ y = nI h) : CtX l G yX8_wish cX8_wish 6 none 7 4 30 [.ref (ad 8 0), .int x, .int y, .int b] S "java/lang/IndexOutOfBoundsException" := by
  refine Ct_of (by decide) (cat1_all (by repeat first | exact trivial | refine ⟨by first | rfl | exact isR_c (isR_q _), ?_⟩)) (Nat.le_of_ble_eq_true rfl) hl fun X C hXl hin => ?_
  subst hXl
  dsimp only [lArgs, Nat.reduceAdd]
  have kx : sK S (ad 8 0) = 9 := RelC_K hC 8 (by decide) rfl
  by_cases hx1 : ∃ k, k < cN σ 1 ∧ x = nI k
  · obtain ⟨k, hk, rfl⟩ := hx1
    have hy : ¬ ∃ h, h < cN σ 20 ∧ y = nI h := by
      rcases hx with q | q
      · exact absurd ⟨k, hk, rfl⟩ q
      · exact q
    refine V_aload_n C dX8_wish_0 rfl (by first | exact isR_r _ | exact isR_q _ | exact isR_n) ?_
    refine V_iload_n C dX8_wish_1 rfl ?_
    refine V_fV C (c_X8_childAt _ hl G S ad σ hC hI.2.1.2 k hk) kv_X8_90 cf_8 (by decide) rfl kx (by decide) (by decide) rfl rfl (Nat.le_of_ble_eq_true rfl) dX8_wish_2 ?_
    dsimp only [Option.toList_some, Option.toList_none, List.cons_append, List.nil_append]
    refine V_astore C dX8_wish_5 (by decide) (by first | exact isR_r _ | exact isR_q _ | exact isR_n) rfl ?_
    simp only [lset1, lset2, List.filter_cons, List.filter_nil, Nat.reduceBEq, Nat.reduceAdd, Bool.not_true, Bool.not_false, Bool.and_true, Bool.and_false, Bool.true_and, Bool.false_and, if_true, if_false, Bool.false_eq_true, reduceIte]
    refine V_aload_n C dX8_wish_7 rfl (by first | exact isR_r _ | exact isR_q _ | exact isR_n) ?_
    refine V_iload_n C dX8_wish_8 rfl ?_
    refine V_xV C (c_X8_homeAtX _ hl G S ad σ hC hI.2.2.1.2 y hy) kv_X8_71 cf_8 (by decide) rfl kx (by decide) (by decide) rfl rfl (Nat.le_of_ble_eq_true rfl) dX8_wish_9 (by first | omega | decide) (by first | omega | decide) ?_
    exact ⟨rfl, rfl⟩
  · refine V_aload_n C dX8_wish_0 rfl (by first | exact isR_r _ | exact isR_q _ | exact isR_n) ?_
    refine V_iload_n C dX8_wish_1 rfl ?_
    refine V_xV C (c_X8_childAtX _ hl G S ad σ hC hI.2.1.2 x hx1) kv_X8_90 cf_8 (by decide) rfl kx (by decide) (by decide) rfl rfl (Nat.le_of_ble_eq_true rfl) dX8_wish_2 (by first | omega | decide) (by first | omega | decide) ?_
    exact ⟨rfl, rfl⟩

