/-! THE CLASS: what homes were told. -/
theorem trmL_olast {σ : aS} {h s : Int32} {n : Nat} : trmL σ h s n = olast (fun i => σ.1 28 i = h ∧ σ.1 29 i = s) n := by
  unfold trmL
  exact @olast_congr (trmP σ h s) (fun i => σ.1 28 i = h ∧ σ.1 29 i = s) (fun _ => Classical.propDecidable _) _ n (fun _ _ => Iff.rfl)
def trmC (σ : aS) (h s on : Int32) (n : Nat) : Option Nat := olast (fun i => (σ.1 28 i = h ∧ σ.1 29 i = s) ∧ σ.1 30 i ≤ on) n
theorem trmC_0 {σ : aS} {h s on : Int32} {n : Nat} (e : trmL σ h s n = none) : trmC σ h s on n = none := by
  rw [trmL_olast] at e
  exact olast_and.1 e
theorem trmC_t {σ : aS} {h s on : Int32} {n j : Nat} (e : trmL σ h s n = some j) (q : σ.1 30 j ≤ on) : trmC σ h s on n = some j := by
  rw [trmL_olast] at e
  exact (olast_and.2 j e).trans (if_pos q)
theorem trmC_f {σ : aS} {h s on : Int32} {n j : Nat} (e : trmL σ h s n = some j) (q : ¬ σ.1 30 j ≤ on) : trmC σ h s on n = trmC σ h s on j := by
  rw [trmL_olast] at e
  exact (olast_and.2 j e).trans (if_neg q)
theorem trmL_s {σ : aS} {h s : Int32} {n j : Nat} (e : trmL σ h s n = some j) : j < n ∧ σ.1 28 j = h ∧ σ.1 29 j = s := by
  rw [trmL_olast] at e
  exact olast_s e
theorem trmC_s {σ : aS} {h s on : Int32} {n j : Nat} (e : trmC σ h s on n = some j) : j < n ∧ (σ.1 28 j = h ∧ σ.1 29 j = s) ∧ σ.1 30 j ≤ on := olast_s e
theorem mTold_C {σ : aS} {h s on : Int32} : mToldOn σ h s on = match trmC σ h s on (cN σ 27) with | none => -1 | some j => nI j := by
  unfold trmC
  rw [olast_congr (q := fun i => σ.1 28 i = h ∧ σ.1 29 i = s ∧ σ.1 30 i ≤ on) (fun i _ => and_assoc)]
  exact flast_olast _ _
noncomputable def trmF (σ : aS) (j : Nat) : Int32 := if σ.1 29 j = 2 then σ.1 31 j else σ.1 30 j
theorem c_X7_holdsOn (l : Launch) (hl : l.stackTraces = false) (G : gG) (S : sS) (ad : Nat → Nat → Nat) (σ : aS) (hC : RelC S ad σ) (j : Nat) (hj : j < cN σ 27) (on : Int32) : CtF l G yX7_holdsOn cX7_holdsOn 2 (Option.some FieldType.boolean) 1 0 0 [.ref (ad 7 j), .int on] S (some (.int (pI9 (trmF σ j ≤ on ∧ on ≤ σ.1 33 j)))) S := by
  refine Ct_of (by decide) (cat1_all (by repeat first | exact trivial | refine ⟨by first | rfl | exact isR_c (isR_q _), ?_⟩)) (Nat.le_of_ble_eq_true rfl) hl fun X C hXl hin => ?_
  subst hXl
  dsimp only [lArgs, Nat.reduceAdd]
  have ka : sK S (ad 7 j) = 8 := RelC_K hC 7 (by decide) hj
  have ia_702 : sI S 702 (ad 7 j) = (if σ.1 29 j = 2 then σ.1 31 j else σ.1 30 j) := RelC_I hC 7 702 rfl (by unfold cFd; omega) rfl hj
  have ia_703 : sI S 703 (ad 7 j) = σ.1 33 j := RelC_I hC 7 703 rfl (by unfold cFd; omega) rfl hj
  have ia_702 : sI S 702 (ad 7 j) = trmF σ j := ia_702
  have J : ∀ v : Int32, v = pI9 (trmF σ j ≤ on ∧ on ≤ σ.1 33 j) → V X G 2 (eQ X G (fun v T => v = some (.int (pI9 (trmF σ j ≤ on ∧ on ≤ σ.1 33 j))) ∧ T = S) (fun _ _ => False) 0 0) 0 0 21 [(0, false, .ref (ad 7 j)), (1, false, .int on)] [.int v] S := fun v hv => by
    subst hv
    refine V_zret C (pI9_nz _) (by first | omega | decide) (by first | omega | decide) dX7_holdsOn_21 ?_
    exact ⟨rfl, rfl⟩
  refine V_aload_n C dX7_holdsOn_0 rfl (by first | exact isR_r _ | exact isR_q _ | exact isR_n) ?_
  refine V_getIe C 7 2 rfl cf_7 fl_X7_17 (by decide) (by decide) dX7_holdsOn_1 (by assumption) (by assumption) ?_
  refine V_iload_n C dX7_holdsOn_4 rfl ?_
  refine V_icmp_gt C (tgt := 20) dX7_holdsOn_5 (by decide) (fun h5 => ?_) (fun h5 => ?_)
  · refine V_iconst C (v := 0) dX7_holdsOn_20 (by decide) ?_
    first | exact J _ (pI9_t ⟨Int32.not_lt.mp h5, Int32.not_lt.mp h13⟩).symm | exact J _ (pI9_f (fun q => absurd q.1 (Int32.not_le.mpr h5))).symm | exact J _ (pI9_f (fun q => absurd q.2 (Int32.not_le.mpr h13))).symm
  · refine V_iload_n C dX7_holdsOn_8 rfl ?_
    refine V_aload_n C dX7_holdsOn_9 rfl (by first | exact isR_r _ | exact isR_q _ | exact isR_n) ?_
    refine V_getIe C 7 3 rfl cf_7 fl_X7_20 (by decide) (by decide) dX7_holdsOn_10 (by assumption) (by assumption) ?_
    refine V_icmp_gt C (tgt := 20) dX7_holdsOn_13 (by decide) (fun h13 => ?_) (fun h13 => ?_)
    · refine V_iconst C (v := 0) dX7_holdsOn_20 (by decide) ?_
      first | exact J _ (pI9_t ⟨Int32.not_lt.mp h5, Int32.not_lt.mp h13⟩).symm | exact J _ (pI9_f (fun q => absurd q.1 (Int32.not_le.mpr h5))).symm | exact J _ (pI9_f (fun q => absurd q.2 (Int32.not_le.mpr h13))).symm
    · refine V_iconst C (v := 1) dX7_holdsOn_16 (by decide) ?_
      refine V_goto C (tgt := 21) dX7_holdsOn_17 (by decide) ?_
      first | exact J _ (pI9_t ⟨Int32.not_lt.mp h5, Int32.not_lt.mp h13⟩).symm | exact J _ (pI9_f (fun q => absurd q.1 (Int32.not_le.mpr h5))).symm | exact J _ (pI9_f (fun q => absurd q.2 (Int32.not_le.mpr h13))).symm
theorem c_X7_toldBy (l : Launch) (hl : l.stackTraces = false) (G : gG) (S : sS) (ad : Nat → Nat → Nat) (σ : aS) (hC : RelC S ad σ) (h s on : Int32) (n0 : Nat) (hn0 : n0 ≤ cN σ 27) : CtF l G yX7_toldBy cX7_toldBy 3 (Option.some (FieldType.object "FosterHouse$Term")) 1 0 0 [va_rf ((trmL σ h s n0).map (ad 7)), .int on] S (some (va_rf ((trmC σ h s on n0).map (ad 7)))) S := by
  refine Ct_of (by decide) (cat1_all (by repeat first | exact trivial | refine ⟨by first | rfl | exact isR_c (isR_q _), ?_⟩)) (Nat.le_of_ble_eq_true rfl) hl fun X C hXl hin => ?_
  subst hXl
  dsimp only [lArgs, Nat.reduceAdd]
  have loop : ∀ (N n : Nat), n < N → n ≤ cN σ 27 → trmC σ h s on n0 = trmC σ h s on n → ∀ o, o = (trmL σ h s n).map (ad 7) → V X G 3 (eQ X G (fun v T => v = some (va_rf ((trmC σ h s on n0).map (ad 7))) ∧ T = S) (fun _ _ => False) 0 0) 0 0 2 [(2, false, va_rf o), (1, false, .int on)] [] S := by
    intro N
    induction N with
    | zero => intro n h; omega
    | succ N ih =>
      intro n hn hle e o ho
      cases q : trmL σ h s n with
      | none =>
        rw [q] at ho
        have ho : o = none := ho
        have e2 := trmC_0 (on := on) q
        refine V_aload_n C dX7_toldBy_2 rfl (by first | exact isR_r _ | exact isR_q _ | exact isR_n) ?_
        dsimp only
        refine V_ifnull C (tgt := 22) dX7_toldBy_3 (by decide) (fun h3 => ?_) (fun a3 h3 => ?_)
        · refine V_aload_n C dX7_toldBy_22 rfl (by first | exact isR_r _ | exact isR_q _ | exact isR_n) ?_
          refine V_aret C (by first | exact Or.inl ⟨_, rfl⟩ | exact Or.inr ⟨_, rfl⟩) (by first | exact isR_r _ | exact isR_q _ | exact isR_n) (by first | omega | decide) (by first | omega | decide) dX7_toldBy_23 ?_
          rw [e, e2, ho]
          exact ⟨rfl, rfl⟩
        · cases h3.symm.trans ho
      | some j =>
        rw [q] at ho
        have ho : o = some (ad 7 j) := ho
        obtain ⟨hj, e28, e29⟩ := trmL_s q
        have hj2 : j < cN σ 27 := by omega
        have ka : sK S (ad 7 j) = 8 := RelC_K hC 7 (by decide) hj2
        have ra_700 : sR S 700 (ad 7 j) = (trmL σ (σ.1 28 j) (σ.1 29 j) j).map (ad 7) := RelC_R hC 7 700 rfl (by unfold cFd; omega) rfl hj2
        have ia_701 : sI S 701 (ad 7 j) = σ.1 30 j := RelC_I hC 7 701 rfl (by unfold cFd; omega) rfl hj2
        rw [e28, e29] at ra_700
        have F : σ.1 30 j ≤ on → trmC σ h s on n0 = some j := fun z => e.trans (trmC_t q z)
        refine V_aload_n C dX7_toldBy_2 rfl (by first | exact isR_r _ | exact isR_q _ | exact isR_n) ?_
        dsimp only
        refine V_ifnull C (tgt := 22) dX7_toldBy_3 (by decide) (fun h3 => ?_) (fun a3 h3 => ?_)
        · cases h3.symm.trans ho
        · subst ho
          cases h3
          refine V_aload_n C dX7_toldBy_6 rfl (by first | exact isR_r _ | exact isR_q _ | exact isR_n) ?_
          refine V_getIe C 7 1 rfl cf_7 fl_X7_7 (by decide) (by decide) dX7_toldBy_7 (by assumption) (by assumption) ?_
          refine V_iload_n C dX7_toldBy_10 rfl ?_
          refine V_icmp_le C (tgt := 22) dX7_toldBy_11 (by decide) (fun h11 => ?_) (fun h11 => ?_)
          · have F2 := F h11
            refine V_aload_n C dX7_toldBy_22 rfl (by first | exact isR_r _ | exact isR_q _ | exact isR_n) ?_
            refine V_aret C (by first | exact Or.inl ⟨_, rfl⟩ | exact Or.inr ⟨_, rfl⟩) (by first | exact isR_r _ | exact isR_q _ | exact isR_n) (by first | omega | decide) (by first | omega | decide) dX7_toldBy_23 ?_
            rw [F2]
            exact ⟨rfl, rfl⟩
          · have F2 := trmC_f (on := on) q h11
            refine V_aload_n C dX7_toldBy_14 rfl (by first | exact isR_r _ | exact isR_q _ | exact isR_n) ?_
            refine V_getRe C 7 0 rfl cf_7 fl_X7_13 (by decide) (by decide) dX7_toldBy_15 (by assumption) (by assumption) ?_
            refine V_astore_n C dX7_toldBy_18 (by decide) (by first | exact isR_r _ | exact isR_q _ | exact isR_n) rfl ?_
            simp only [lset1, lset2, List.filter_cons, List.filter_nil, Nat.reduceBEq, Nat.reduceAdd, Bool.not_true, Bool.not_false, Bool.and_true, Bool.and_false, Bool.true_and, Bool.false_and, if_true, if_false, Bool.false_eq_true, reduceIte]
            refine V_goto C (tgt := 2) dX7_toldBy_19 (by decide) ?_
            refine V_sub ?_ (ih j (by omega) (by omega) (e.trans F2) ((trmL σ h s j).map (ad 7)) rfl)
            exact ⟨rfl, rfl, trivial⟩
  refine V_aload_n C dX7_toldBy_0 rfl (by first | exact isR_r _ | exact isR_q _ | exact isR_n) ?_
  refine V_astore_n C dX7_toldBy_1 (by decide) (by first | exact isR_r _ | exact isR_q _ | exact isR_n) rfl ?_
  simp only [lset1, lset2, List.filter_cons, List.filter_nil, Nat.reduceBEq, Nat.reduceAdd, Bool.not_true, Bool.not_false, Bool.and_true, Bool.and_false, Bool.true_and, Bool.false_and, if_true, if_false, Bool.false_eq_true, reduceIte]
  refine V_sub ?_ (loop (n0 + 1) n0 (by omega) hn0 rfl _ rfl)
  exact ⟨rfl, rfl, trivial⟩
theorem c_X2_isTrainedFor (l : Launch) (hl : l.stackTraces = false) (G : gG) (S : sS) (ad : Nat → Nat → Nat) (σ : aS) (hC : RelC S ad σ) (h60 : cN σ 27 ≤ 512) (hh : Nat) (hk : hh < cN σ 20) (nd on : Int32) : CtF l G yX2_isTrainedFor cX2_isTrainedFor 5 (Option.some FieldType.boolean) 2 0 0 [.ref (ad 2 hh), .int nd, .int on] S (some (.int (pI9 (nd &&& (mCan σ (nI hh) on ^^^ (-1)) = 0)))) S := by
  refine Ct_of (by decide) (cat1_all (by repeat first | exact trivial | refine ⟨by first | rfl | exact isR_c (isR_q _), ?_⟩)) (Nat.le_of_ble_eq_true rfl) hl fun X C hXl hin => ?_
  subst hXl
  dsimp only [lArgs, Nat.reduceAdd]
  have kc : sK S (ad 2 hh) = 3 := RelC_K hC 2 (by decide) hk
  have rc_205 : sR S 205 (ad 2 hh) = (trmL σ (nI hh) (nI 1) (cN σ 27)).map (ad 7) := RelC_R hC 2 205 rfl (by unfold cFd; omega) rfl hk
  have rc_205 : sR S 205 (ad 2 hh) = (trmL σ (nI hh) 1 (cN σ 27)).map (ad 7) := rc_205
  have eM := mTold_C (σ := σ) (h := nI hh) (s := 1) (on := on)
  have cc := c_X7_toldBy _ hl G S ad σ hC (nI hh) 1 on (cN σ 27) (Nat.le_refl _)
  have J : ∀ (v : Int32) (o : Option Nat), v = mCan σ (nI hh) on → V X G 5 (eQ X G (fun v T => v = some (.int (pI9 (nd &&& (mCan σ (nI hh) on ^^^ (-1)) = 0))) ∧ T = S) (fun _ _ => False) 0 0) 0 0 29 [(3, false, va_rf o), (0, false, .ref (ad 2 hh)), (1, false, .int nd), (2, false, .int on)] [.int v] S := fun v o hv => by
    subst hv
    refine V_istore C dX2_isTrainedFor_29 (by decide) rfl ?_
    simp only [lset1, lset2, List.filter_cons, List.filter_nil, Nat.reduceBEq, Nat.reduceAdd, Bool.not_true, Bool.not_false, Bool.and_true, Bool.and_false, Bool.true_and, Bool.false_and, if_true, if_false, Bool.false_eq_true, reduceIte]
    refine V_iload_n C dX2_isTrainedFor_31 rfl ?_
    refine V_iload C dX2_isTrainedFor_32 rfl ?_
    refine V_iconst C (v := (-1)) dX2_isTrainedFor_34 (by decide) ?_
    refine V_ixor C dX2_isTrainedFor_35 ?_
    refine V_iand C dX2_isTrainedFor_36 ?_
    refine V_if_ne C (tgt := 44) dX2_isTrainedFor_37 (by decide) (fun h37 => ?_) (fun h37 => ?_)
    · refine V_iconst C (v := 0) dX2_isTrainedFor_44 (by decide) ?_
      refine V_zret C (by first | rfl | exact bI_nz _) (by first | omega | decide) (by first | omega | decide) dX2_isTrainedFor_45 ?_
      first | (rw [pI9_t h37]; exact ⟨rfl, rfl⟩) | (rw [pI9_f h37]; exact ⟨rfl, rfl⟩)
    · refine V_iconst C (v := 1) dX2_isTrainedFor_40 (by decide) ?_
      refine V_goto C (tgt := 45) dX2_isTrainedFor_41 (by decide) ?_
      refine V_zret C (by first | rfl | exact bI_nz _) (by first | omega | decide) (by first | omega | decide) dX2_isTrainedFor_45 ?_
      first | (rw [pI9_t h37]; exact ⟨rfl, rfl⟩) | (rw [pI9_f h37]; exact ⟨rfl, rfl⟩)
  cases q : trmC σ (nI hh) 1 on (cN σ 27) with
  | none =>
    rw [q] at eM
    rw [q, Option.map_none] at cc
    have em : mCan σ (nI hh) on = 0 := by
      unfold mCan
      exact if_pos (Or.inl eM)
    refine V_aload_n C dX2_isTrainedFor_0 rfl (by first | exact isR_r _ | exact isR_q _ | exact isR_n) ?_
    refine V_getRe C 2 5 rfl cf_2 fl_X2_22 (by decide) (by decide) dX2_isTrainedFor_1 (by assumption) (by assumption) ?_
    refine V_iload_n C dX2_isTrainedFor_4 rfl ?_
    refine V_fS C (cc) ks_X2_26 (by decide) (by decide) rfl rfl (Nat.le_of_ble_eq_true rfl) dX2_isTrainedFor_5 ?_
    dsimp only [Option.toList_some, Option.toList_none, List.cons_append, List.nil_append]
    refine V_astore_n C dX2_isTrainedFor_8 (by decide) (by first | exact isR_r _ | exact isR_q _ | exact isR_n) rfl ?_
    simp only [lset1, lset2, List.filter_cons, List.filter_nil, Nat.reduceBEq, Nat.reduceAdd, Bool.not_true, Bool.not_false, Bool.and_true, Bool.and_false, Bool.true_and, Bool.false_and, if_true, if_false, Bool.false_eq_true, reduceIte]
    refine V_aload_n C dX2_isTrainedFor_9 rfl (by first | exact isR_r _ | exact isR_q _ | exact isR_n) ?_
    dsimp only
    refine V_ifnull C (tgt := 28) dX2_isTrainedFor_10 (by decide) (fun h10 => ?_) (fun a10 h10 => ?_)
    · refine V_iconst C (v := 0) dX2_isTrainedFor_28 (by decide) ?_
      exact J _ none em.symm
    · cases h10
  | some j =>
    rw [q] at eM
    rw [q, Option.map_some] at cc
    obtain ⟨hj, ⟨-, e29⟩, e30⟩ := trmC_s q
    have ka : sK S (ad 7 j) = 8 := RelC_K hC 7 (by decide) hj
    have ia_706 : sI S 706 (ad 7 j) = (if σ.1 29 j = 1 then σ.1 31 j else 0) := RelC_I hC 7 706 rfl (by unfold cFd; omega) rfl hj
    rw [if_pos e29] at ia_706
    have eM : mToldOn σ (nI hh) 1 on = nI j := eM
    have ef : trmF σ j = σ.1 30 j := by
      unfold trmF
      rw [e29]
      exact if_neg (by decide)
    have em : mCan σ (nI hh) on = if σ.1 33 j < on then 0 else σ.1 31 j := by
      unfold mCan
      rw [eM, nI_clamp (by omega)]
      by_cases z : σ.1 33 j < on
      · rw [if_pos z, if_pos (Or.inr z)]
      · rw [if_neg z, if_neg (fun y => Or.elim y (nI_ne_m1 (by omega)) z)]
    have c9 := c_X7_holdsOn _ hl G S ad σ hC j hj on
    rw [ef] at c9
    refine V_aload_n C dX2_isTrainedFor_0 rfl (by first | exact isR_r _ | exact isR_q _ | exact isR_n) ?_
    refine V_getRe C 2 5 rfl cf_2 fl_X2_22 (by decide) (by decide) dX2_isTrainedFor_1 (by assumption) (by assumption) ?_
    refine V_iload_n C dX2_isTrainedFor_4 rfl ?_
    refine V_fS C (cc) ks_X2_26 (by decide) (by decide) rfl rfl (Nat.le_of_ble_eq_true rfl) dX2_isTrainedFor_5 ?_
    dsimp only [Option.toList_some, Option.toList_none, List.cons_append, List.nil_append]
    refine V_astore_n C dX2_isTrainedFor_8 (by decide) (by first | exact isR_r _ | exact isR_q _ | exact isR_n) rfl ?_
    simp only [lset1, lset2, List.filter_cons, List.filter_nil, Nat.reduceBEq, Nat.reduceAdd, Bool.not_true, Bool.not_false, Bool.and_true, Bool.and_false, Bool.true_and, Bool.false_and, if_true, if_false, Bool.false_eq_true, reduceIte]
    refine V_aload_n C dX2_isTrainedFor_9 rfl (by first | exact isR_r _ | exact isR_q _ | exact isR_n) ?_
    dsimp only
    refine V_ifnull C (tgt := 28) dX2_isTrainedFor_10 (by decide) (fun h10 => ?_) (fun a10 h10 => ?_)
    · cases h10
    · cases h10
      refine V_aload_n C dX2_isTrainedFor_13 rfl (by first | exact isR_r _ | exact isR_q _ | exact isR_n) ?_
      refine V_iload_n C dX2_isTrainedFor_14 rfl ?_
      refine V_fV C (c9) kv_X2_32 cf_7 (by decide) rfl (by assumption) (by decide) (by decide) rfl rfl (Nat.le_of_ble_eq_true rfl) dX2_isTrainedFor_15 ?_
      dsimp only [Option.toList_some, Option.toList_none, List.cons_append, List.nil_append]
      refine V_if_eq C (tgt := 28) dX2_isTrainedFor_18 (by decide) (fun h18 => ?_) (fun h18 => ?_)
      · have z := pI9_z.mp h18
        refine V_iconst C (v := 0) dX2_isTrainedFor_28 (by decide) ?_
        first | exact J _ (some (ad 7 j)) (em.trans (if_neg (Int32.not_lt.mpr z))).symm | exact J _ (some (ad 7 j)) (em.trans (if_pos (Int32.not_le.mp (fun y => z ⟨e30, y⟩)))).symm
      · have z := (pI9_ne.mp h18).2
        refine V_aload_n C dX2_isTrainedFor_21 rfl (by first | exact isR_r _ | exact isR_q _ | exact isR_n) ?_
        refine V_getIe C 7 6 rfl cf_7 fl_X2_36 (by decide) (by decide) dX2_isTrainedFor_22 (by assumption) (by assumption) ?_
        refine V_goto C (tgt := 29) dX2_isTrainedFor_25 (by decide) ?_
        first | exact J _ (some (ad 7 j)) (em.trans (if_neg (Int32.not_lt.mpr z))).symm | exact J _ (some (ad 7 j)) (em.trans (if_pos (Int32.not_le.mp (fun y => z ⟨e30, y⟩)))).symm
theorem c_X2_restsOn (l : Launch) (hl : l.stackTraces = false) (G : gG) (S : sS) (ad : Nat → Nat → Nat) (σ : aS) (hC : RelC S ad σ) (h60 : cN σ 27 ≤ 512) (hh : Nat) (hk : hh < cN σ 20) (on : Int32) : CtF l G yX2_restsOn cX2_restsOn 3 (Option.some FieldType.boolean) 2 0 0 [.ref (ad 2 hh), .int on] S (some (.int (pI9 (¬ mToldOn σ (nI hh) 2 on = -1 ∧ (σ.1 31 (mToldOn σ (nI hh) 2 on).toNatClampNeg ≤ on ∧ on ≤ σ.1 33 (mToldOn σ (nI hh) 2 on).toNatClampNeg))))) S := by
  refine Ct_of (by decide) (cat1_all (by repeat first | exact trivial | refine ⟨by first | rfl | exact isR_c (isR_q _), ?_⟩)) (Nat.le_of_ble_eq_true rfl) hl fun X C hXl hin => ?_
  subst hXl
  dsimp only [lArgs, Nat.reduceAdd]
  have kc : sK S (ad 2 hh) = 3 := RelC_K hC 2 (by decide) hk
  have rc_206 : sR S 206 (ad 2 hh) = (trmL σ (nI hh) (nI 2) (cN σ 27)).map (ad 7) := RelC_R hC 2 206 rfl (by unfold cFd; omega) rfl hk
  have rc_206 : sR S 206 (ad 2 hh) = (trmL σ (nI hh) 2 (cN σ 27)).map (ad 7) := rc_206
  have eM := mTold_C (σ := σ) (h := nI hh) (s := 2) (on := on)
  have cc := c_X7_toldBy _ hl G S ad σ hC (nI hh) 2 on (cN σ 27) (Nat.le_refl _)
  cases q : trmC σ (nI hh) 2 on (cN σ 27) with
  | none =>
    rw [q] at eM
    rw [q, Option.map_none] at cc
    refine V_aload_n C dX2_restsOn_0 rfl (by first | exact isR_r _ | exact isR_q _ | exact isR_n) ?_
    refine V_getRe C 2 6 rfl cf_2 fl_X2_39 (by decide) (by decide) dX2_restsOn_1 (by assumption) (by assumption) ?_
    refine V_iload_n C dX2_restsOn_4 rfl ?_
    refine V_fS C (cc) ks_X2_26 (by decide) (by decide) rfl rfl (Nat.le_of_ble_eq_true rfl) dX2_restsOn_5 ?_
    dsimp only [Option.toList_some, Option.toList_none, List.cons_append, List.nil_append]
    refine V_astore_n C dX2_restsOn_8 (by decide) (by first | exact isR_r _ | exact isR_q _ | exact isR_n) rfl ?_
    simp only [lset1, lset2, List.filter_cons, List.filter_nil, Nat.reduceBEq, Nat.reduceAdd, Bool.not_true, Bool.not_false, Bool.and_true, Bool.and_false, Bool.true_and, Bool.false_and, if_true, if_false, Bool.false_eq_true, reduceIte]
    refine V_aload_n C dX2_restsOn_9 rfl (by first | exact isR_r _ | exact isR_q _ | exact isR_n) ?_
    dsimp only
    refine V_ifnull C (tgt := 25) dX2_restsOn_10 (by decide) (fun h10 => ?_) (fun a10 h10 => ?_)
    · refine V_iconst C (v := 0) dX2_restsOn_25 (by decide) ?_
      refine V_zret C (by first | rfl | exact bI_nz _) (by first | omega | decide) (by first | omega | decide) dX2_restsOn_26 ?_
      rw [pI9_f (fun z => z.1 eM)]
      exact ⟨rfl, rfl⟩
    · cases h10
  | some j =>
    rw [q] at eM
    rw [q, Option.map_some] at cc
    obtain ⟨hj, ⟨-, e29⟩, e30⟩ := trmC_s q
    have eM : mToldOn σ (nI hh) 2 on = nI j := eM
    have ef : trmF σ j = σ.1 31 j := by
      unfold trmF
      exact if_pos e29
    have c9 := c_X7_holdsOn _ hl G S ad σ hC j hj on
    have k7 : sK S (ad 7 j) = 8 := RelC_K hC 7 (by decide) hj
    rw [ef] at c9
    rw [eM, nI_clamp (by omega)]
    refine V_aload_n C dX2_restsOn_0 rfl (by first | exact isR_r _ | exact isR_q _ | exact isR_n) ?_
    refine V_getRe C 2 6 rfl cf_2 fl_X2_39 (by decide) (by decide) dX2_restsOn_1 (by assumption) (by assumption) ?_
    refine V_iload_n C dX2_restsOn_4 rfl ?_
    refine V_fS C (cc) ks_X2_26 (by decide) (by decide) rfl rfl (Nat.le_of_ble_eq_true rfl) dX2_restsOn_5 ?_
    dsimp only [Option.toList_some, Option.toList_none, List.cons_append, List.nil_append]
    refine V_astore_n C dX2_restsOn_8 (by decide) (by first | exact isR_r _ | exact isR_q _ | exact isR_n) rfl ?_
    simp only [lset1, lset2, List.filter_cons, List.filter_nil, Nat.reduceBEq, Nat.reduceAdd, Bool.not_true, Bool.not_false, Bool.and_true, Bool.and_false, Bool.true_and, Bool.false_and, if_true, if_false, Bool.false_eq_true, reduceIte]
    refine V_aload_n C dX2_restsOn_9 rfl (by first | exact isR_r _ | exact isR_q _ | exact isR_n) ?_
    dsimp only
    refine V_ifnull C (tgt := 25) dX2_restsOn_10 (by decide) (fun h10 => ?_) (fun a10 h10 => ?_)
    · cases h10
    · cases h10
      refine V_aload_n C dX2_restsOn_13 rfl (by first | exact isR_r _ | exact isR_q _ | exact isR_n) ?_
      refine V_iload_n C dX2_restsOn_14 rfl ?_
      refine V_fV C (c9) kv_X2_32 cf_7 (by decide) rfl (by assumption) (by decide) (by decide) rfl rfl (Nat.le_of_ble_eq_true rfl) dX2_restsOn_15 ?_
      dsimp only [Option.toList_some, Option.toList_none, List.cons_append, List.nil_append]
      refine V_if_eq C (tgt := 25) dX2_restsOn_18 (by decide) (fun h18 => ?_) (fun h18 => ?_)
      · have z := pI9_z.mp h18
        refine V_iconst C (v := 0) dX2_restsOn_25 (by decide) ?_
        refine V_zret C (by first | rfl | exact bI_nz _) (by first | omega | decide) (by first | omega | decide) dX2_restsOn_26 ?_
        first | (rw [pI9_t ⟨nI_ne_m1 (by omega), z⟩]; exact ⟨rfl, rfl⟩) | (rw [pI9_f (fun y => z y.2)]; exact ⟨rfl, rfl⟩)
      · have z := pI9_ne.mp h18
        refine V_iconst C (v := 1) dX2_restsOn_21 (by decide) ?_
        refine V_goto C (tgt := 26) dX2_restsOn_22 (by decide) ?_
        refine V_zret C (by first | rfl | exact bI_nz _) (by first | omega | decide) (by first | omega | decide) dX2_restsOn_26 ?_
        first | (rw [pI9_t ⟨nI_ne_m1 (by omega), z⟩]; exact ⟨rfl, rfl⟩) | (rw [pI9_f (fun y => z y.2)]; exact ⟨rfl, rfl⟩)

