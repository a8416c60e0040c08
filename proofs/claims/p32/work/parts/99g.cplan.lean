/-! THE CLASS: the plan's small methods. -/
/-- only the plan's own words have changed, and of a home's guests never the first -/
def FrP (S T : sS) : Prop := sK T = sK S ∧ sL T = sL S ∧ sR T = sR S ∧ (∀ g a, ¬ ((g = 407 ∨ g = 408) ∧ sK S a = 5) → sI T g a = sI S g a) ∧ (∀ a, sK S a ≠ 114 → sQ T a = sQ S a) ∧ (∀ a, sK S a ≠ 151 → sK S a ≠ 161 → sK S a ≠ 171 → sK S a ≠ 181 → sA T a = sA S a) ∧ (∀ a, sK S a ≠ 103 → sK S a ≠ 113 → sJ T a = sJ S a) ∧ ∀ a, sK S a = 181 → sA T a 0 = sA S a 0
theorem FrP_0 {S : sS} : FrP S S := ⟨rfl, rfl, rfl, fun _ _ _ => rfl, fun _ _ => rfl, fun _ _ _ _ _ => rfl, fun _ _ _ => rfl, fun _ _ => rfl⟩
theorem FrP_tr {S T U : sS} (h : FrP S T) (k : FrP T U) : FrP S U := by
  obtain ⟨h1, h2, h3, h4, h5, h6, h7, h8⟩ := h
  obtain ⟨k1, k2, k3, k4, k5, k6, k7, k8⟩ := k
  rw [h1] at k4 k5 k6 k7 k8
  exact ⟨k1.trans h1, k2.trans h2, k3.trans h3, fun g a z => (k4 g a z).trans (h4 g a z), fun a z => (k5 a z).trans (h5 a z), fun a z1 z2 z3 z4 => (k6 a z1 z2 z3 z4).trans (h6 a z1 z2 z3 z4), fun a z1 z2 => (k7 a z1 z2).trans (h7 a z1 z2), fun a z => (k8 a z).trans (h8 a z)⟩
theorem FrP_I {S : sS} {g a : Nat} {v : Int32} (hg : g = 407 ∨ g = 408) (ha : sK S a = 5) : FrP S (pI S g a v) := ⟨rfl, rfl, rfl, fun f b z => by
  by_cases e : f = g
  · exact sI_n2 fun y => z ⟨by rw [e]; exact hg, by rw [y]; exact ha⟩
  · exact sI_n1 e, fun _ _ => rfl, fun _ _ _ _ _ => rfl, fun _ _ _ => rfl, fun _ _ => rfl⟩
theorem FrP_Q {S : sS} {a j : Nat} {v : Option Nat} (ha : sK S a = 114) : FrP S (pQ S a j v) := ⟨rfl, rfl, rfl, fun _ _ _ => rfl, fun b z => up2_far fun e => z (by rw [e]; exact ha), fun _ _ _ _ _ => rfl, fun _ _ _ => rfl, fun _ _ => rfl⟩
theorem FrP_A {S : sS} {a j : Nat} {v : Int32} (ha : sK S a = 151 ∨ sK S a = 161 ∨ sK S a = 171 ∨ (sK S a = 181 ∧ j ≠ 0)) : FrP S (pA S a j v) := ⟨rfl, rfl, rfl, fun _ _ _ => rfl, fun _ _ => rfl, fun b z1 z2 z3 z4 => sA_n fun e => by
  subst e
  rcases ha with y | y | y | y
  · exact z1 y
  · exact z2 y
  · exact z3 y
  · exact z4 y.1, fun _ _ _ => rfl, fun b z => by
  by_cases e : b = a
  · subst e
    rw [sA_s]
    refine up1_n ?_
    rcases ha with y | y | y | y
    · rw [z] at y; exact absurd y (by decide)
    · rw [z] at y; exact absurd y (by decide)
    · rw [z] at y; exact absurd y (by decide)
    · exact fun w => y.2 w.symm
  · rw [sA_n e]⟩
theorem FrP_J {S : sS} {a j : Nat} {v : Int64} (ha : sK S a = 103 ∨ sK S a = 113) : FrP S (pJ S a j v) := ⟨rfl, rfl, rfl, fun _ _ _ => rfl, fun _ _ => rfl, fun _ _ _ _ _ => rfl, fun b z1 z2 => up2_far fun e => by
  subst e
  rcases ha with y | y
  · exact z1 y
  · exact z2 y, fun _ _ => rfl⟩
theorem FrP_C {S T : sS} (h : FrP S T) : Fr isC S T := fun a _ hn => by
  obtain ⟨h1, h2, h3, h4, h5, h6, h7, h8⟩ := h
  have q : ∀ k, isC k → sK S a ≠ k := fun k hk e => hn (by rw [e]; exact hk)
  have c : ∀ k, 100 ≤ k → k < 1000 → sK S a ≠ k := fun k x y => q k (Or.inr ⟨x, y⟩)
  exact ⟨by rw [h1], by rw [h2], fun g => h4 g a fun z => q 5 (Or.inl ⟨by decide, by decide⟩) z.2, fun g => by rw [h3], h6 a (c _ (by decide) (by decide)) (c _ (by decide) (by decide)) (c _ (by decide) (by decide)) (c _ (by decide) (by decide)), h7 a (c _ (by decide) (by decide)) (c _ (by decide) (by decide)), h5 a (c _ (by decide) (by decide))⟩
theorem RelC_P {S T : sS} {ad : Nat → Nat → Nat} {σ : aS} (h : RelC S ad σ) (hf : FrP S T) : RelC T ad σ := by
  obtain ⟨f1, f2, f3, f4, f5, f6, f7, f8⟩ := hf
  obtain ⟨a1, a2, a3, a4, a5, a6, a7, a8, a9, a10, a11⟩ := h
  have l0 : ∀ i, i = 15 ∨ i = 16 ∨ i = 17 ∨ i = 23 ∨ i = 26 → cLv σ i 0 := by
    rintro i (rfl | rfl | rfl | rfl | rfl) <;> exact (rfl : (0 : Nat) = 0)
  refine ⟨fun i j x y z l => by rw [f1]; exact a1 i j x y z l, a2, fun g j x y l => (f4 g _ fun z => ?_).trans (a3 g j x y l), fun g j x y l => by rw [f3]; exact a4 g j x y l, fun i j x y l => by rw [f2]; exact a5 i j x y l, fun k hk => ?_, fun j hj => ?_, fun j hj => ?_, fun j hj => ?_, fun j hj => ?_, fun j hj => ?_⟩
  · unfold cFd at x
    omega
  · have q : ∀ i, i = 11 ∨ i = 12 ∨ i = 13 ∨ i = 14 → sA T (ad i k) = sA S (ad i k) := fun i hi => by
      have e : sK S (ad i k) = cKd i := a1 i k (by omega) (by omega) (by omega) (by rcases hi with rfl | rfl | rfl | rfl <;> exact hk)
      rcases hi with rfl | rfl | rfl | rfl <;> exact f6 _ (by rw [e]; decide) (by rw [e]; decide) (by rw [e]; decide) (by rw [e]; decide)
    rw [q 11 (by omega), q 12 (by omega), q 13 (by omega), q 14 (by omega)]
    exact a6 k hk
  · rw [f5 _ (by rw [a1 15 0 (by decide) (by decide) (by decide) (l0 15 (by omega))]; decide)]; exact a7 j hj
  · rw [f5 _ (by rw [a1 16 0 (by decide) (by decide) (by decide) (l0 16 (by omega))]; decide)]; exact a8 j hj
  · rw [f5 _ (by rw [a1 17 0 (by decide) (by decide) (by decide) (l0 17 (by omega))]; decide)]; exact a9 j hj
  · rw [f5 _ (by rw [a1 23 0 (by decide) (by decide) (by decide) (l0 23 (by omega))]; decide)]; exact a10 j hj
  · rw [f5 _ (by rw [a1 26 0 (by decide) (by decide) (by decide) (l0 26 (by omega))]; decide)]; exact a11 j hj
theorem RelC_kd {S : sS} {ad : Nat → Nat → Nat} {σ : aS} (h : RelC S ad σ) (i : Nat) {j c : Nat} (hi : i < 30 ∧ i ≠ 9 ∧ i ≠ 10) (hl : cLv σ i j) (hc : cKd i = c) : sK S (ad i j) = c := hc ▸ h.1 i j hi.1 hi.2.1 hi.2.2 hl
theorem RelC_ln {S : sS} {ad : Nat → Nat → Nat} {σ : aS} (h : RelC S ad σ) (i : Nat) {j c : Nat} (hi : 11 ≤ i ∧ i < 30) (hl : cLv σ i j) (hc : cLen i = c) : sL S (ad i j) = c := hc ▸ h.2.2.2.2.1 i j hi.1 hi.2 hl
theorem RelC_pR {S : sS} {ad : Nat → Nat → Nat} {σ : aS} (h : RelC S ad σ) (g i : Nat) (hg : 400 ≤ g ∧ g ≤ 406) (he : cR σ ad g 0 = some (ad i 0)) (hr : fRef g = true) : sR S g (ad 4 0) = some (ad i 0) := (RelC_R h 4 g (by omega) (by unfold cFd; omega) hr rfl).trans he
theorem c_X4_clear (l : Launch) (hl : l.stackTraces = false) (G : gG) (S : sS) (ad : Nat → Nat → Nat) (σ : aS) (hC : RelC S ad σ) : CtF l G yX4_clear cX4_clear 1 none 1 0 0 [.ref (ad 4 0)] S none (pI (pI S 407 (ad 4 0) 0) 408 (ad 4 0) 1) := by
  refine Ct_of (by decide) (cat1_all (by repeat first | exact trivial | refine ⟨by first | rfl | exact isR_c (isR_q _), ?_⟩)) (Nat.le_of_ble_eq_true rfl) hl fun X C hXl hin => ?_
  subst hXl
  dsimp only [lArgs, Nat.reduceAdd]
  have kp : sK S (ad 4 0) = 5 := RelC_K hC 4 (by decide) rfl
  refine V_aload_n C dX4_clear_0 rfl (by first | exact isR_r _ | exact isR_q _ | exact isR_n) ?_
  refine V_iconst C (v := 0) dX4_clear_1 (by decide) ?_
  refine V_putI C 4 7 rfl cf_4 pl_X4_39 (by decide) (by decide) dX4_clear_2 kp ?_
  refine V_aload_n C dX4_clear_5 rfl (by first | exact isR_r _ | exact isR_q _ | exact isR_n) ?_
  refine V_iconst C (v := 1) dX4_clear_6 (by decide) ?_
  refine V_putI C 4 8 rfl cf_4 pl_X4_43 (by decide) (by decide) dX4_clear_7 kp ?_
  refine V_vret C (by first | omega | decide) (by first | omega | decide) dX4_clear_10 ?_
  exact ⟨rfl, rfl⟩
theorem c_X4_setBeds (l : Launch) (hl : l.stackTraces = false) (G : gG) (S : sS) (ad : Nat → Nat → Nat) (σ : aS) (hC : RelC S ad σ) (h : Nat) (hh : h < 10) (v : Int32) : CtF l G yX4_setBeds cX4_setBeds 3 none 1 0 0 [.ref (ad 4 0), .int (nI h), .int v] S none (pA S (ad 25 0) h v) := by
  refine Ct_of (by decide) (cat1_all (by repeat first | exact trivial | refine ⟨by first | rfl | exact isR_c (isR_q _), ?_⟩)) (Nat.le_of_ble_eq_true rfl) hl fun X C hXl hin => ?_
  subst hXl
  dsimp only [lArgs, Nat.reduceAdd]
  have kp : sK S (ad 4 0) = 5 := RelC_K hC 4 (by decide) rfl
  have rp : sR S 403 (ad 4 0) = some (ad 25 0) := RelC_pR hC 403 25 (by decide) rfl rfl
  have kf : sK S (ad 25 0) = 171 := RelC_kd hC 25 (by decide) rfl rfl
  have lf : sL S (ad 25 0) = 10 := RelC_ln hC 25 (by decide) rfl rfl
  refine V_iload_n C dX4_setBeds_0 rfl ?_
  refine V_if_lt C (tgt := 17) dX4_setBeds_1 (by decide) (fun h1 => ?_) (fun h1 => ?_)
  · exact absurd h1 (nI_pos (by omega))
  · refine V_iload_n C dX4_setBeds_4 rfl ?_
    refine V_bipush C (v := 10) dX4_setBeds_5 (by decide) ?_
    refine V_icmp_ge C (tgt := 17) dX4_setBeds_7 (by decide) (fun h7 => ?_) (fun h7 => ?_)
    · exact absurd ((nI_leI (a := 10) (b := h) (by decide) (by omega)).mp h7) (by omega)
    · refine V_aload_n C dX4_setBeds_10 rfl (by first | exact isR_r _ | exact isR_q _ | exact isR_n) ?_
      refine V_getS C 4 3 rfl cf_4 fl_X4_26 (by decide) (by decide) dX4_setBeds_11 kp rp ?_
      refine V_iload_n C dX4_setBeds_14 rfl ?_
      refine V_iload_n C dX4_setBeds_15 rfl ?_
      refine V_iastE C kf (by decide) lf hh (by decide) dX4_setBeds_16 ?_
      refine V_vret C (by first | omega | decide) (by first | omega | decide) dX4_setBeds_17 ?_
      exact ⟨rfl, rfl⟩
theorem c_X4_allow (l : Launch) (hl : l.stackTraces = false) (G : gG) (S : sS) (ad : Nat → Nat → Nat) (σ : aS) (hC : RelC S ad σ) (r : Nat) (hr : r < 5) (h : Nat) (hh : h < 10) (v : Int32) : CtF l G yX4_allow cX4_allow 4 none 1 0 0 [.ref (ad 4 0), .int (nI r), .int (nI h), .int v] S none (pA S (ad 24 r) h v) := by
  refine Ct_of (by decide) (cat1_all (by repeat first | exact trivial | refine ⟨by first | rfl | exact isR_c (isR_q _), ?_⟩)) (Nat.le_of_ble_eq_true rfl) hl fun X C hXl hin => ?_
  subst hXl
  dsimp only [lArgs, Nat.reduceAdd]
  have kp : sK S (ad 4 0) = 5 := RelC_K hC 4 (by decide) rfl
  have rp : sR S 402 (ad 4 0) = some (ad 23 0) := RelC_pR hC 402 23 (by decide) rfl rfl
  have kq : sK S (ad 23 0) = 107 := RelC_kd hC 23 (by decide) rfl rfl
  have lq : sL S (ad 23 0) = 5 := RelC_ln hC 23 (by decide) rfl rfl
  have aq := hC.2.2.2.2.2.2.2.2.2.1 r hr
  have kf : sK S (ad 24 r) = 161 := RelC_kd hC 24 (by decide) hr rfl
  have lf : sL S (ad 24 r) = 10 := RelC_ln hC 24 (by decide) hr rfl
  refine V_iload_n C dX4_allow_0 rfl ?_
  refine V_if_lt C (tgt := 28) dX4_allow_1 (by decide) (fun h1 => ?_) (fun h1 => ?_)
  · exact absurd h1 (nI_pos (by omega))
  · refine V_iload_n C dX4_allow_4 rfl ?_
    refine V_iconst C (v := 5) dX4_allow_5 (by decide) ?_
    refine V_icmp_ge C (tgt := 28) dX4_allow_6 (by decide) (fun h6 => ?_) (fun h6 => ?_)
    · exact absurd ((nI_leI (a := 5) (b := r) (by decide) (by omega)).mp h6) (by omega)
    · refine V_iload_n C dX4_allow_9 rfl ?_
      refine V_if_lt C (tgt := 28) dX4_allow_10 (by decide) (fun h10 => ?_) (fun h10 => ?_)
      · exact absurd h10 (nI_pos (by omega))
      · refine V_iload_n C dX4_allow_13 rfl ?_
        refine V_bipush C (v := 10) dX4_allow_14 (by decide) ?_
        refine V_icmp_ge C (tgt := 28) dX4_allow_16 (by decide) (fun h16 => ?_) (fun h16 => ?_)
        · exact absurd ((nI_leI (a := 10) (b := h) (by decide) (by omega)).mp h16) (by omega)
        · refine V_aload_n C dX4_allow_19 rfl (by first | exact isR_r _ | exact isR_q _ | exact isR_n) ?_
          refine V_getS C 4 2 rfl cf_4 fl_X4_23 (by decide) (by decide) dX4_allow_20 kp rp ?_
          refine V_iload_n C dX4_allow_23 rfl ?_
          refine V_aaldE C 7 (by decide) kq (by decide) lq rfl hr (by decide) dX4_allow_24 ?_
          rw [aq]
          dsimp only [va_rf]
          refine V_iload_n C dX4_allow_25 rfl ?_
          refine V_iload_n C dX4_allow_26 rfl ?_
          refine V_iastE C kf (by decide) lf hh (by decide) dX4_allow_27 ?_
          refine V_vret C (by first | omega | decide) (by first | omega | decide) dX4_allow_28 ?_
          exact ⟨rfl, rfl⟩
theorem c_X4_childAtRow (l : Launch) (hl : l.stackTraces = false) (G : gG) (S : sS) (ad : Nat → Nat → Nat) (σ : aS) (hC : RelC S ad σ) (m : Nat) (hm : m ≤ 5) (i407 : sI S 407 (ad 4 0) = nI m) (r : Nat) (hr : r < 5) : CtF l G yX4_childAtRow cX4_childAtRow 2 (Option.some (FieldType.object "FosterHouse$Child")) 1 0 0 [.ref (ad 4 0), .int (nI r)] S (some (va_rf (if r < m then sQ S (ad 21 0) r else none))) S := by
  refine Ct_of (by decide) (cat1_all (by repeat first | exact trivial | refine ⟨by first | rfl | exact isR_c (isR_q _), ?_⟩)) (Nat.le_of_ble_eq_true rfl) hl fun X C hXl hin => ?_
  subst hXl
  dsimp only [lArgs, Nat.reduceAdd]
  have kp : sK S (ad 4 0) = 5 := RelC_K hC 4 (by decide) rfl
  have rp : sR S 400 (ad 4 0) = some (ad 21 0) := RelC_pR hC 400 21 (by decide) rfl rfl
  have kf : sK S (ad 21 0) = 114 := RelC_kd hC 21 (by decide) rfl rfl
  have lf : sL S (ad 21 0) = 5 := RelC_ln hC 21 (by decide) rfl rfl
  by_cases q : r < m
  · rw [if_pos q]
    refine V_iload_n C dX4_childAtRow_0 rfl ?_
    refine V_if_lt C (tgt := 26) dX4_childAtRow_1 (by decide) (fun h1 => ?_) (fun h1 => ?_)
    · exact absurd h1 (nI_pos (by omega))
    · refine V_iload_n C dX4_childAtRow_4 rfl ?_
      refine V_aload_n C dX4_childAtRow_5 rfl (by first | exact isR_r _ | exact isR_q _ | exact isR_n) ?_
      refine V_getIe C 4 7 rfl cf_4 fl_X4_39 (by decide) (by decide) dX4_childAtRow_6 kp i407 ?_
      refine V_igeN C (tgt := 26) (by omega) (by omega) dX4_childAtRow_9 (by decide) (fun h9 => ?_) (fun h9 => ?_)
      · omega
      · refine V_iload_n C dX4_childAtRow_12 rfl ?_
        refine V_iconst C (v := 5) dX4_childAtRow_13 (by decide) ?_
        refine V_icmp_ge C (tgt := 26) dX4_childAtRow_14 (by decide) (fun h14 => ?_) (fun h14 => ?_)
        · exact absurd ((nI_leI (a := 5) (b := r) (by decide) (by omega)).mp h14) (by omega)
        · refine V_aload_n C dX4_childAtRow_17 rfl (by first | exact isR_r _ | exact isR_q _ | exact isR_n) ?_
          refine V_getS C 4 0 rfl cf_4 fl_X4_11 (by decide) (by decide) dX4_childAtRow_18 kp rp ?_
          refine V_iload_n C dX4_childAtRow_21 rfl ?_
          refine V_aald C 4 (by decide) kf (by decide) (by rw [lf]; exact vp_in_nI hr (by decide)) dX4_childAtRow_22 ?_
          rw [nI_clamp (by omega)]
          refine V_goto C (tgt := 27) dX4_childAtRow_23 (by decide) ?_
          refine V_aret C (by first | exact Or.inl ⟨_, rfl⟩ | exact Or.inr ⟨_, rfl⟩) (by first | exact isR_r _ | exact isR_q _ | exact isR_n) (by first | omega | decide) (by first | omega | decide) dX4_childAtRow_27 ?_
          exact ⟨rfl, rfl⟩
  · rw [if_neg q]
    refine V_iload_n C dX4_childAtRow_0 rfl ?_
    refine V_if_lt C (tgt := 26) dX4_childAtRow_1 (by decide) (fun h1 => ?_) (fun h1 => ?_)
    · exact absurd h1 (nI_pos (by omega))
    · refine V_iload_n C dX4_childAtRow_4 rfl ?_
      refine V_aload_n C dX4_childAtRow_5 rfl (by first | exact isR_r _ | exact isR_q _ | exact isR_n) ?_
      refine V_getIe C 4 7 rfl cf_4 fl_X4_39 (by decide) (by decide) dX4_childAtRow_6 kp i407 ?_
      refine V_igeN C (tgt := 26) (by omega) (by omega) dX4_childAtRow_9 (by decide) (fun h9 => ?_) (fun h9 => ?_)
      · refine V_aconst_null C dX4_childAtRow_26 ?_
        refine V_aret C (by first | exact Or.inl ⟨_, rfl⟩ | exact Or.inr ⟨_, rfl⟩) (by first | exact isR_r _ | exact isR_q _ | exact isR_n) (by first | omega | decide) (by first | omega | decide) dX4_childAtRow_27 ?_
        exact ⟨rfl, rfl⟩
      · omega
theorem c_X4_homeAtRow (l : Launch) (hl : l.stackTraces = false) (G : gG) (S : sS) (ad : Nat → Nat → Nat) (σ : aS) (hC : RelC S ad σ) (m : Nat) (hm : m ≤ 5) (i407 : sI S 407 (ad 4 0) = nI m) (r : Nat) (hr : r < 5) : CtF l G yX4_homeAtRow cX4_homeAtRow 2 (Option.some FieldType.int) 1 0 0 [.ref (ad 4 0), .int (nI r)] S (some (.int (if r < m then sA S (ad 22 0) r else -1))) S := by
  refine Ct_of (by decide) (cat1_all (by repeat first | exact trivial | refine ⟨by first | rfl | exact isR_c (isR_q _), ?_⟩)) (Nat.le_of_ble_eq_true rfl) hl fun X C hXl hin => ?_
  subst hXl
  dsimp only [lArgs, Nat.reduceAdd]
  have kp : sK S (ad 4 0) = 5 := RelC_K hC 4 (by decide) rfl
  have rp : sR S 401 (ad 4 0) = some (ad 22 0) := RelC_pR hC 401 22 (by decide) rfl rfl
  have kf : sK S (ad 22 0) = 151 := RelC_kd hC 22 (by decide) rfl rfl
  have lf : sL S (ad 22 0) = 5 := RelC_ln hC 22 (by decide) rfl rfl
  by_cases q : r < m
  · rw [if_pos q]
    refine V_iload_n C dX4_homeAtRow_0 rfl ?_
    refine V_if_lt C (tgt := 26) dX4_homeAtRow_1 (by decide) (fun h1 => ?_) (fun h1 => ?_)
    · exact absurd h1 (nI_pos (by omega))
    · refine V_iload_n C dX4_homeAtRow_4 rfl ?_
      refine V_aload_n C dX4_homeAtRow_5 rfl (by first | exact isR_r _ | exact isR_q _ | exact isR_n) ?_
      refine V_getIe C 4 7 rfl cf_4 fl_X4_39 (by decide) (by decide) dX4_homeAtRow_6 kp i407 ?_
      refine V_igeN C (tgt := 26) (by omega) (by omega) dX4_homeAtRow_9 (by decide) (fun h9 => ?_) (fun h9 => ?_)
      · omega
      · refine V_iload_n C dX4_homeAtRow_12 rfl ?_
        refine V_iconst C (v := 5) dX4_homeAtRow_13 (by decide) ?_
        refine V_icmp_ge C (tgt := 26) dX4_homeAtRow_14 (by decide) (fun h14 => ?_) (fun h14 => ?_)
        · exact absurd ((nI_leI (a := 5) (b := r) (by decide) (by omega)).mp h14) (by omega)
        · refine V_aload_n C dX4_homeAtRow_17 rfl (by first | exact isR_r _ | exact isR_q _ | exact isR_n) ?_
          refine V_getS C 4 1 rfl cf_4 fl_X4_17 (by decide) (by decide) dX4_homeAtRow_18 kp rp ?_
          refine V_iload_n C dX4_homeAtRow_21 rfl ?_
          refine V_ialdE C kf (by decide) lf rfl hr (by decide) dX4_homeAtRow_22 ?_
          refine V_goto C (tgt := 27) dX4_homeAtRow_23 (by decide) ?_
          refine V_iret C (by first | omega | decide) (by first | omega | decide) dX4_homeAtRow_27 ?_
          exact ⟨rfl, rfl⟩
  · rw [if_neg q]
    refine V_iload_n C dX4_homeAtRow_0 rfl ?_
    refine V_if_lt C (tgt := 26) dX4_homeAtRow_1 (by decide) (fun h1 => ?_) (fun h1 => ?_)
    · exact absurd h1 (nI_pos (by omega))
    · refine V_iload_n C dX4_homeAtRow_4 rfl ?_
      refine V_aload_n C dX4_homeAtRow_5 rfl (by first | exact isR_r _ | exact isR_q _ | exact isR_n) ?_
      refine V_getIe C 4 7 rfl cf_4 fl_X4_39 (by decide) (by decide) dX4_homeAtRow_6 kp i407 ?_
      refine V_igeN C (tgt := 26) (by omega) (by omega) dX4_homeAtRow_9 (by decide) (fun h9 => ?_) (fun h9 => ?_)
      · refine V_iconst C (v := (-1)) dX4_homeAtRow_26 (by decide) ?_
        refine V_iret C (by first | omega | decide) (by first | omega | decide) dX4_homeAtRow_27 ?_
        exact ⟨rfl, rfl⟩
      · omega
theorem c_X4_addChildN (l : Launch) (hl : l.stackTraces = false) (G : gG) (S : sS) (ad : Nat → Nat → Nat) (σ : aS) (hC : RelC S ad σ) (i407 : sI S 407 (ad 4 0) = nI 5) (c : Nat) : CtF l G yX4_addChild cX4_addChild 4 (Option.some FieldType.int) 1 0 0 [.ref (ad 4 0), .ref c] S (some (.int (-1))) S := by
  refine Ct_of (by decide) (cat1_all (by repeat first | exact trivial | refine ⟨by first | rfl | exact isR_c (isR_q _), ?_⟩)) (Nat.le_of_ble_eq_true rfl) hl fun X C hXl hin => ?_
  subst hXl
  dsimp only [lArgs, Nat.reduceAdd]
  have kp : sK S (ad 4 0) = 5 := RelC_K hC 4 (by decide) rfl
  refine V_aload_n C dX4_addChild_0 rfl (by first | exact isR_r _ | exact isR_q _ | exact isR_n) ?_
  refine V_getIe C 4 7 rfl cf_4 fl_X4_39 (by decide) (by decide) dX4_addChild_1 kp i407 ?_
  refine V_istore_n C dX4_addChild_4 (by decide) rfl ?_
  simp only [lset1, lset2, List.filter_cons, List.filter_nil, Nat.reduceBEq, Nat.reduceAdd, Bool.not_true, Bool.not_false, Bool.and_true, Bool.and_false, Bool.true_and, Bool.false_and, if_true, if_false, Bool.false_eq_true, reduceIte]
  refine V_iload_n C dX4_addChild_5 rfl ?_
  refine V_iconst C (v := 5) dX4_addChild_6 (by decide) ?_
  refine V_icmp_lt C (tgt := 12) dX4_addChild_7 (by decide) (fun h7 => ?_) (fun h7 => ?_)
  · exact absurd h7 (by decide)
  · refine V_iconst C (v := (-1)) dX4_addChild_10 (by decide) ?_
    refine V_iret C (by first | omega | decide) (by first | omega | decide) dX4_addChild_11 ?_
    exact ⟨rfl, rfl⟩
theorem c_X4_addChild (l : Launch) (hl : l.stackTraces = false) (G : gG) (S : sS) (ad : Nat → Nat → Nat) (σ : aS) (hC : RelC S ad σ) (m : Nat) (hm : m < 5) (i407 : sI S 407 (ad 4 0) = nI m) (i408 : sI S 408 (ad 4 0) = nI (2 ^ m)) (c : Nat) (kc : sK S c = 1) : Ct l G yX4_addChild cX4_addChild 4 (Option.some FieldType.int) 1 0 0 [.ref (ad 4 0), .ref c] S (fun v T => v = some (.int (nI m)) ∧ FrP S T ∧ sQ T (ad 21 0) = up1 (sQ S (ad 21 0)) m (some c) ∧ (∀ h, h < 10 → sA T (ad 24 m) h = -1000000) ∧ (∀ a, a ≠ ad 24 m → sA T a = sA S a) ∧ sI T 407 (ad 4 0) = nI (m + 1) ∧ sI T 408 (ad 4 0) = nI (2 ^ (m + 1))) (fun _ _ => False) := by
  refine Ct_of (by decide) (cat1_all (by repeat first | exact trivial | refine ⟨by first | rfl | exact isR_c (isR_q _), ?_⟩)) (Nat.le_of_ble_eq_true rfl) hl fun X C hXl hin => ?_
  subst hXl
  dsimp only [lArgs, Nat.reduceAdd]
  have kp : sK S (ad 4 0) = 5 := RelC_K hC 4 (by decide) rfl
  have rk9 : sR S 400 (ad 4 0) = some (ad 21 0) := RelC_pR hC 400 21 (by decide) rfl rfl
  have rp : sR S 402 (ad 4 0) = some (ad 23 0) := RelC_pR hC 402 23 (by decide) rfl rfl
  have k21 : sK S (ad 21 0) = 114 := RelC_kd hC 21 (by decide) rfl rfl
  have l21 : sL S (ad 21 0) = 5 := RelC_ln hC 21 (by decide) rfl rfl
  have k23 : sK S (ad 23 0) = 107 := RelC_kd hC 23 (by decide) rfl rfl
  have l23 : sL S (ad 23 0) = 5 := RelC_ln hC 23 (by decide) rfl rfl
  have a23 := hC.2.2.2.2.2.2.2.2.2.1 m hm
  have k24 : sK S (ad 24 m) = 161 := RelC_kd hC 24 (by decide) hm rfl
  have l24 : sL S (ad 24 m) = 10 := RelC_ln hC 24 (by decide) hm rfl
  have n21 : ad 23 0 ≠ ad 21 0 := fun e => by rw [e, k21] at k23; exact absurd k23 (by decide)
  have loop : ∀ (t i : Nat) (T : sS), i + t = 10 → (FrP S T ∧ sQ T (ad 21 0) = up1 (sQ S (ad 21 0)) m (some c) ∧ (∀ h, h < i → sA T (ad 24 m) h = -1000000) ∧ (∀ a, a ≠ ad 24 m → sA T a = sA S a) ∧ sI T = sI S) → V X G 4 (eQ X G (fun v T => v = some (.int (nI m)) ∧ FrP S T ∧ sQ T (ad 21 0) = up1 (sQ S (ad 21 0)) m (some c) ∧ (∀ h, h < 10 → sA T (ad 24 m) h = -1000000) ∧ (∀ a, a ≠ ad 24 m → sA T a = sA S a) ∧ sI T 407 (ad 4 0) = nI (m + 1) ∧ sI T 408 (ad 4 0) = nI (2 ^ (m + 1))) (fun _ _ => False) 0 0) 0 0 21 [(3, false, .int (nI i)), (2, false, .int (nI m)), (0, false, .ref (ad 4 0)), (1, false, .ref c)] [] T := by
    intro t
    induction t with
    | zero =>
      intro i T hi hT
      obtain rfl : i = 10 := by omega
      obtain ⟨f, t1, t2, t3, t4⟩ := hT
      have kp2 : sK T (ad 4 0) = 5 := by rw [f.1]; exact kp
      have kp3 : sK (pI T 407 (ad 4 0) (nI (m + 1))) (ad 4 0) = 5 := kp2
      have i8 : sI (pI T 407 (ad 4 0) (nI (m + 1))) 408 (ad 4 0) = nI (2 ^ m) := (sI_n1 (by decide)).trans (by rw [t4]; exact i408)
      refine V_iload_n C dX4_addChild_21 rfl ?_
      refine V_bipush C (v := 10) dX4_addChild_22 (by decide) ?_
      refine V_icmp_ge C (tgt := 43) dX4_addChild_24 (by decide) (fun h24 => ?_) (fun h24 => ?_)
      · refine V_aload_n C dX4_addChild_43 rfl (by first | exact isR_r _ | exact isR_q _ | exact isR_n) ?_
        refine V_iload_n C dX4_addChild_44 rfl ?_
        refine V_iconst C (v := 1) dX4_addChild_45 (by decide) ?_
        refine V_iadd C dX4_addChild_46 ?_
        rw [nI_1]
        refine V_putI C 4 7 rfl cf_4 pl_X4_39 (by decide) (by decide) dX4_addChild_47 kp2 ?_
        refine V_aload_n C dX4_addChild_50 rfl (by first | exact isR_r _ | exact isR_q _ | exact isR_n) ?_
        refine V_iconst C (v := 2) dX4_addChild_51 (by decide) ?_
        refine V_aload_n C dX4_addChild_52 rfl (by first | exact isR_r _ | exact isR_q _ | exact isR_n) ?_
        refine V_getIe C 4 8 rfl cf_4 fl_X4_43 (by decide) (by decide) dX4_addChild_53 kp3 i8 ?_
        refine V_imul C dX4_addChild_56 ?_
        rw [show (2 : Int32) = nI 2 from rfl, pk_mul, show 2 * 2 ^ m = 2 ^ (m + 1) by rw [Nat.pow_succ, Nat.mul_comm]]
        refine V_putI C 4 8 rfl cf_4 pl_X4_43 (by decide) (by decide) dX4_addChild_57 kp3 ?_
        refine V_iload_n C dX4_addChild_60 rfl ?_
        refine V_iret C (by first | omega | decide) (by first | omega | decide) dX4_addChild_61 ?_
        exact ⟨rfl, FrP_tr f (FrP_tr (FrP_I (Or.inl rfl) kp2) (FrP_I (Or.inr rfl) kp3)), t1, t2, t3, (sI_n1 (by decide)).trans sI_s, sI_s⟩
      · exact absurd (by decide) h24
    | succ t ih =>
      intro i T hi hT
      have hi10 : i < 10 := by omega
      obtain ⟨f, t1, t2, t3, t4⟩ := hT
      have kp2 : sK T (ad 4 0) = 5 := by rw [f.1]; exact kp
      have rp2 : sR T 402 (ad 4 0) = some (ad 23 0) := by rw [f.2.2.1]; exact rp
      have k23' : sK T (ad 23 0) = 107 := by rw [f.1]; exact k23
      have l23' : sL T (ad 23 0) = 5 := by rw [f.2.1]; exact l23
      have a23' : sQ T (ad 23 0) m = some (ad 24 m) := by rw [f.2.2.2.2.1 _ (by rw [k23]; decide)]; exact a23
      have k24' : sK T (ad 24 m) = 161 := by rw [f.1]; exact k24
      have l24' : sL T (ad 24 m) = 10 := by rw [f.2.1]; exact l24
      have L := ih (i + 1) (pA T (ad 24 m) i (-1000000)) (by omega) ⟨FrP_tr f (FrP_A (Or.inr (Or.inl k24'))), t1, fun h hh => by
        rw [sA_s]
        by_cases e : h = i
        · subst e; exact up1_s
        · rw [up1_n e]; exact t2 h (by omega), fun a ha => (sA_n ha).trans (t3 a ha), t4⟩
      refine V_iload_n C dX4_addChild_21 rfl ?_
      refine V_bipush C (v := 10) dX4_addChild_22 (by decide) ?_
      refine V_icmp_ge C (tgt := 43) dX4_addChild_24 (by decide) (fun h24 => ?_) (fun h24 => ?_)
      · exact absurd ((nI_leI (a := 10) (b := i) (by decide) (by omega)).mp h24) (by omega)
      · refine V_aload_n C dX4_addChild_27 rfl (by first | exact isR_r _ | exact isR_q _ | exact isR_n) ?_
        refine V_getS C 4 2 rfl cf_4 fl_X4_23 (by decide) (by decide) dX4_addChild_28 kp2 rp2 ?_
        refine V_iload_n C dX4_addChild_31 rfl ?_
        refine V_aaldE C 7 (by decide) k23' (by decide) l23' rfl hm (by decide) dX4_addChild_32 ?_
        rw [a23']
        dsimp only [va_rf]
        refine V_iload_n C dX4_addChild_33 rfl ?_
        refine V_ldc C dX4_addChild_34 cs_X4_46 ?_
        refine V_iastE C k24' (by decide) l24' hi10 (by decide) dX4_addChild_36 ?_
        refine V_incN C dX4_addChild_37 rfl (by decide) rfl ?_
        simp only [lset1, lset2, List.filter_cons, List.filter_nil, Nat.reduceBEq, Nat.reduceAdd, Bool.not_true, Bool.not_false, Bool.and_true, Bool.and_false, Bool.true_and, Bool.false_and, if_true, if_false, Bool.false_eq_true, reduceIte]
        refine V_goto C (tgt := 21) dX4_addChild_40 (by decide) ?_
        refine V_sub ?_ L
        exact ⟨rfl, rfl, rfl, rfl, trivial⟩
  have L := loop 10 0 (pQ S (ad 21 0) m (some c)) (by omega) ⟨FrP_Q k21, funext fun x => by
    show up2 (sQ S) (ad 21 0) m (some c) (ad 21 0) x = _
    by_cases e : x = m
    · rw [e, up2_s, up1_s]
    · rw [up2_n2 e, up1_n e], fun h hh => absurd hh (Nat.not_lt_zero h), fun _ _ => rfl, rfl⟩
  refine V_aload_n C dX4_addChild_0 rfl (by first | exact isR_r _ | exact isR_q _ | exact isR_n) ?_
  refine V_getIe C 4 7 rfl cf_4 fl_X4_39 (by decide) (by decide) dX4_addChild_1 kp i407 ?_
  refine V_istore_n C dX4_addChild_4 (by decide) rfl ?_
  simp only [lset1, lset2, List.filter_cons, List.filter_nil, Nat.reduceBEq, Nat.reduceAdd, Bool.not_true, Bool.not_false, Bool.and_true, Bool.and_false, Bool.true_and, Bool.false_and, if_true, if_false, Bool.false_eq_true, reduceIte]
  refine V_iload_n C dX4_addChild_5 rfl ?_
  refine V_iconst C (v := 5) dX4_addChild_6 (by decide) ?_
  refine V_icmp_lt C (tgt := 12) dX4_addChild_7 (by decide) (fun h7 => ?_) (fun h7 => ?_)
  · refine V_aload_n C dX4_addChild_12 rfl (by first | exact isR_r _ | exact isR_q _ | exact isR_n) ?_
    refine V_getS C 4 0 rfl cf_4 fl_X4_11 (by decide) (by decide) dX4_addChild_13 kp rk9 ?_
    refine V_iload_n C dX4_addChild_16 rfl ?_
    refine V_aload_n C dX4_addChild_17 rfl (by first | exact isR_r _ | exact isR_q _ | exact isR_n) ?_
    refine V_aastE C 4 0 (by decide) (by decide) ⟨_, rfl, rfl⟩ k21 (by decide) kc l21 hm (by decide) dX4_addChild_18 ?_
    refine V_iconst C (v := 0) dX4_addChild_19 (by decide) ?_
    refine V_istore_n C dX4_addChild_20 (by decide) rfl ?_
    simp only [lset1, lset2, List.filter_cons, List.filter_nil, Nat.reduceBEq, Nat.reduceAdd, Bool.not_true, Bool.not_false, Bool.and_true, Bool.and_false, Bool.true_and, Bool.false_and, if_true, if_false, Bool.false_eq_true, reduceIte]
    refine V_sub ?_ L
    exact ⟨rfl, rfl, rfl, rfl, trivial⟩
  · exact absurd ((nI_ltI (a := m) (b := 5) (by omega) (by decide)).mpr hm) h7

