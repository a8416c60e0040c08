/-! WHAT HOLDS BETWEEN CALLS, more: the plain calls keep it. -/
theorem IY_tells {σ : aS} {h s a b u : Int32} (hY : IY σ) : IY (oTells σ h s a b u) := by
  refine IY_of hY (fun f hf => ?_) rfl rfl rfl (Nat.le_refl _) (Nat.le_refl _)
  have g : ∀ x, x = 28 ∨ x = 29 ∨ x = 30 ∨ x = 31 ∨ x = 32 ∨ x = 33 → f ≠ x := fun x hx e => by
    subst e
    rcases hx with rfl | rfl | rfl | rfl | rfl | rfl <;> exact absurd hf (by decide)
  unfold oTells
  dsimp only
  rw [up2_f (g 33 (by decide)), up2_f (g 32 (by decide)), up2_f (g 31 (by decide)), up2_f (g 30 (by decide)), up2_f (g 29 (by decide)), up2_f (g 28 (by decide))]
theorem IY_approve {σ : aS} {h a b u : Int32} (hY : IY σ) : IY (oApprove σ h a b u) := by
  unfold oApprove
  split
  · exact IY_tells (IY_sT hY)
  · exact IY_sT hY
theorem IY_train {σ : aS} {h a u : Int32} (hY : IY σ) : IY (oTrain σ h a u) := by
  unfold oTrain
  split
  · exact IY_tells (IY_sT hY)
  · exact IY_sT hY
theorem IY_see {σ : aS} {x : Int32} (hY : IY σ) : IY (oSee σ x).2 := by
  unfold oSee
  split
  · exact IY_56 (IY_A (A := σ.1) (B := σ.2) hY (by decide))
  · exact IY_sT hY
theorem IY_wish {σ : aS} {x h b : Int32} (hY : IY σ) : IY (oWish σ x h b) := by
  unfold oWish
  split
  · exact IY_56 (IY_A (A := σ.1) (B := σ.2) hY (by decide))
  · exact IY_sT hY
theorem IY_visits {σ : aS} {x v : Int32} (hY : IY σ) : IY (oVisits σ x v).2 := by
  unfold oVisits
  split
  · exact IY_56 (IY_A (A := σ.1) (B := σ.2) hY (by decide))
  · exact IY_sT hY
theorem IY_came {σ : aS} {x : Int32} (hY : IY σ) : IY (oCame σ x) := by
  unfold oCame
  split
  · exact IY_56 (IY_A (A := σ.1) (B := σ.2) hY (by decide))
  · exact IY_sT hY
theorem IY_pay {σ : aS} {x v : Int32} (hY : IY σ) : IY (oPay σ x v).2 := by
  unfold oPay
  split
  · exact IY_56 (IY_A (A := σ.1) (B := σ.2) hY (by decide))
  · exact IY_sT hY
theorem IY_hand {σ : aS} {x w : Int32} (hY : IY σ) : IY (oHand σ x w).2 := by
  unfold oHand
  by_cases ht : tHand σ x w = 0
  · rw [if_pos ht]
    have hw := (pI9_ne.mp (gT_x ht).1).2
    obtain ⟨h1, h2, h3, h4⟩ := hY
    have hv : 0 ≤ w ∧ w < 5 := ⟨hw.1, Int32.lt_of_le_of_lt hw.2 (by decide)⟩
    obtain ⟨A, B⟩ := σ
    refine IY_56 (B := B) ?_
    have r : ∀ f, f ≠ 8 → up2 A 8 (nx x) w f = A f := fun f hf => up2_f hf
    refine ⟨fun k hk => ?_, fun m hm => ?_, fun j hj => ?_, fun k hk i hi => ?_⟩
    · obtain ⟨a1, a2, a3⟩ := h1 k hk
      refine ⟨?_, VB_of a2 (congrFun (r 14 (by decide)) k) (congrFun (r 15 (by decide)) k) (congrFun (r 17 (by decide)) k) (congrFun (r 18 (by decide)) k) (Nat.le_refl _), ?_⟩
      · show 0 ≤ up2 A 8 (nx x) w 8 k ∧ up2 A 8 (nx x) w 8 k < 5
        by_cases e : k = nx x
        · subst e; rw [up2_s]; exact hv
        · rw [up2_n2 e]; exact a1
      · show up2 A 8 (nx x) w 11 k = nI (nC (up2 A 8 (nx x) w 44) _ _)
        rw [r 11 (by decide), r 44 (by decide)]
        exact a3
    · rw [hmT_of (σ := (A, B)) (σ' := (up2 A 8 (nx x) w, B)) (r 10 (by decide)) (r 45 (by decide))]
      show _ ≤ up2 A 8 (nx x) w 23 m
      rw [r 23 (by decide)]
      exact h2 m hm
    · exact YS_of (h3 j hj) (r 3 (by decide)) (r 44 (by decide)) (r 46 (by decide)) (r 47 (by decide)) (r 48 (by decide)) (Nat.le_refl _) (Nat.le_refl _)
    · refine YR_of (h4 k hk i ?_) (congrFun (r 36 (by decide)) _) (congrFun (r 37 (by decide)) _) (Nat.le_refl _)
      unfold rN at hi ⊢
      rw [show (up2 A 8 (nx x) w, B).1 34 = A 34 from r 34 (by decide)] at hi
      exact hi
  · rw [if_neg ht]
    exact IY_sT hY
theorem IY_order {σ : aS} {x a b c : Int32} (hI : IC σ) (hY : IY σ) : IY (oOrder σ x a b c).2 := by
  unfold oOrder
  split
  · refine IY_of hY (fun f hf => ?_) rfl rfl rfl (Nat.le_refl _) ?_
    · have g : ∀ x, x = 39 ∨ x = 40 ∨ x = 41 ∨ x = 42 → f ≠ x := fun x hx e => by
        subst e
        rcases hx with rfl | rfl | rfl | rfl <;> exact absurd hf (by decide)
      dsimp only
      rw [up2_f (g 42 (by decide)), up2_f (g 41 (by decide)), up2_f (g 40 (by decide)), up2_f (g 39 (by decide))]
    · have h38 := hI.2.2.2.2.1
      have e : σ.2 38 + 1 = nI (cN σ 38 + 1) := by rw [h38.1, nI_1]
      dsimp only
      rw [e, cN_at (by omega)]
      omega
  · exact IY_sT hY
theorem mLeastF_n (σ : aS) : ∀ n, ∃ j, j ≤ n ∧ mLeastF σ n = nI j
  | 0 => ⟨0, Nat.le_refl _, rfl⟩
  | n + 1 => by
    unfold mLeastF
    split
    · exact ⟨n + 1, Nat.le_refl _, rfl⟩
    · obtain ⟨j, j1, j2⟩ := mLeastF_n σ n
      exact ⟨j, by omega, j2⟩
theorem nC_0 {f : Nat → Int32} {x : Int32} : ∀ n, (∀ i, i < n → ¬ f i = x) → nC f x n = 0
  | 0, _ => rfl
  | n + 1, h => by
    show nC f x n + (if f n = x then 1 else 0) = 0
    rw [nC_0 n fun i hi => h i (by omega), if_neg (h n (Nat.lt_succ_self n))]
theorem IY_child {σ : aS} {a b c d e : Int32} (hW : IW σ) (hY : IY σ) : IY (oChild σ a b c d e).2 := by
  unfold oChild
  by_cases ht : tChild σ a b c d e = 0
  · rw [if_pos ht]
    have hI := hW.1
    have hlt := bI_ne.mp (gT_x ht).2.1
    obtain ⟨h1, h2, h3, h4⟩ := hY
    have hS := hW.2.1
    have hQ := hW.2.2.2.2.2.2.1.1
    have n16 : cN σ 1 < 16 := by
      rw [hI.2.1.1] at hlt
      exact (nI_ltI (by have := hI.2.1.2; omega) (by decide)).mp (show nI (cN σ 1) < nI 16 from hlt)
    have e1 : σ.2 1 + 1 = nI (cN σ 1 + 1) := by rw [hI.2.1.1, nI_1]
    obtain ⟨w, w1, w2⟩ : ∃ j, j ≤ 4 ∧ mLeast σ = nI j := mLeastF_n σ 4
    dsimp only
    rw [e1, w2]
    obtain ⟨A, B⟩ := σ
    generalize hn : cN (A, B) 1 = n at *
    generalize hB' : up1 (up1 B 56 0) 1 (nI (n + 1)) = B'
    have eN : ∀ A', cN (A', B') 1 = n + 1 := fun A' => by rw [← hB']; exact cN_at (by omega)
    have eB : ∀ x, x ≠ 1 → x ≠ 56 → B' x = B x := fun x x1 x2 => by rw [← hB']; exact (up1_n x1).trans (up1_n x2)
    have eM : ∀ A' x, x ≠ 1 → x ≠ 56 → cN (A', B') x = cN (A, B) x := fun A' x x1 x2 => congrArg Int32.toNatClampNeg (eB x x1 x2)
    have r : ∀ f, f < 2 ∨ 10 < f → up2 (up2 (up2 (up2 (up2 (up2 (up2 (up2 (up2 A 2 n a) 3 n (B 0)) 4 n b) 5 n c) 6 n d) 7 n e) 8 n (nI w)) 9 n (-1)) 10 n (-1) f = A f := fun f hf => by
      rw [up2_f (by omega), up2_f (by omega), up2_f (by omega), up2_f (by omega), up2_f (by omega), up2_f (by omega), up2_f (by omega), up2_f (by omega), up2_f (by omega)]
    have ro : ∀ f j, j ≠ n → up2 (up2 (up2 (up2 (up2 (up2 (up2 (up2 (up2 A 2 n a) 3 n (B 0)) 4 n b) 5 n c) 6 n d) 7 n e) 8 n (nI w)) 9 n (-1)) 10 n (-1) f j = A f j := fun f j hj => by
      rw [up2_n2 hj, up2_n2 hj, up2_n2 hj, up2_n2 hj, up2_n2 hj, up2_n2 hj, up2_n2 hj, up2_n2 hj, up2_n2 hj]
    have r10 : up2 (up2 (up2 (up2 (up2 (up2 (up2 (up2 (up2 A 2 n a) 3 n (B 0)) 4 n b) 5 n c) 6 n d) 7 n e) 8 n (nI w)) 9 n (-1)) 10 n (-1) 10 n = -1 := up2_s
    have r8 : up2 (up2 (up2 (up2 (up2 (up2 (up2 (up2 (up2 A 2 n a) 3 n (B 0)) 4 n b) 5 n c) 6 n d) 7 n e) 8 n (nI w)) 9 n (-1)) 10 n (-1) 8 n = nI w := (up2_n1 (by decide)).trans ((up2_n1 (by decide)).trans up2_s)
    generalize up2 (up2 (up2 (up2 (up2 (up2 (up2 (up2 (up2 A 2 n a) 3 n (B 0)) 4 n b) 5 n c) 6 n d) 7 n e) 8 n (nI w)) 9 n (-1)) 10 n (-1) = A' at r ro r10 r8 ⊢
    have e0 := eM A' 0 (by decide) (by decide)
    have e20 := eM A' 20 (by decide) (by decide)
    have e38 := eM A' 38 (by decide) (by decide)
    have e43 := eM A' 43 (by decide) (by decide)
    have hm : ∀ m k, k ≠ n → hmT (A', B') m k = hmT (A, B) m k := fun m k hk => by
      unfold hmT mHomeOf
      rw [show (A', B').1 10 k = A 10 k from ro 10 k hk, show (A', B').1 45 = A 45 from r 45 (by decide)]
    refine ⟨fun k hk => ?_, fun m hm2 => ?_, fun j hj => ?_, fun k hk i hi => ?_⟩
    · rw [eN A'] at hk
      rw [e0, e43, show (A', B').1 44 = A 44 from r 44 (by decide)]
      by_cases q : k = n
      · subst q
        obtain ⟨z, -, -⟩ := hQ k (Nat.le_refl _) n16
        have rr : ∀ f, 11 ≤ f → f ≤ 18 → A' f k = 0 := fun f f1 f2 => (congrFun (r f (by omega)) k).trans (z f f1 f2)
        refine ⟨by rw [show (A', B').1 8 k = nI w from r8]; exact ⟨nI_pos' (by omega), nI_lt (b := 5) (by omega) (by decide)⟩, ⟨0, 0, 0, Nat.zero_le _, Nat.zero_le _, Nat.le_refl _, rr 14 (by decide) (by decide), rr 15 (by decide) (by decide), rr 17 (by decide) (by decide), Or.inl (rr 18 (by decide) (by decide))⟩, ?_⟩
        rw [show (A', B').1 11 k = 0 from rr 11 (by decide) (by decide), nC_0 _ fun i hi q => ?_]
        · rfl
        · obtain ⟨⟨x, x1, x2⟩, -⟩ := hS i hi
          rw [hn] at x1
          have := (nI_eq (by omega) (by omega)).mp (x2.symm.trans q)
          omega
      · obtain ⟨a1, a2, a3⟩ := h1 k (by omega)
        exact ⟨by rw [show (A', B').1 8 k = A 8 k from ro 8 k q]; exact a1, VB_of a2 (ro 14 k q) (ro 15 k q) (ro 17 k q) (ro 18 k q) (Nat.le_refl _), (ro 11 k q).trans a3⟩
    · rw [eN A']
      show fsum (hmT (A', B') m) n + hmT (A', B') m n ≤ A' 23 m
      rw [e20] at hm2
      have z : hmT (A', B') m n = 0 := if_neg fun z => by
        have : mHomeOf (A', B') n = -1 := if_pos r10
        exact nI_ne_m1 (by have := hI.2.2.1.2; omega) (z.symm.trans this)
      rw [z, Int32.add_zero, fsum_congr n fun k hk => hm m k (by omega), r 23 (by decide)]
      exact h2 m hm2
    · rw [e43] at hj
      obtain ⟨⟨x, x1, x2⟩, -⟩ := hS j hj
      rw [hn] at x1
      obtain ⟨b', b1, b2, b3, ⟨o, o1, o2⟩, b5, s, b6, b7⟩ := h3 j hj
      have x2' : A 44 j = nI x := x2
      refine ⟨b', by rw [e0]; exact b1, (congrFun (r 46 (by decide)) j).trans b2, ?_, ⟨o, by rw [e38]; exact o1, (congrFun (r 48 (by decide)) j).trans o2⟩, fun i hi q => ?_, s, b6, ?_⟩
      · rw [e0, show (A', B').1 47 = A 47 from r 47 (by decide)]; exact b3
      · rw [show (A', B').1 44 = A 44 from r 44 (by decide)] at q
        rw [show (A', B').1 47 = A 47 from r 47 (by decide)]
        exact b5 i hi q
      · rw [show (A', B').1 44 = A 44 from r 44 (by decide), x2', nx_nI (j := x) (by omega)]
        rw [show (A, B).1 44 j = nI x from x2, nx_nI (j := x) (by omega)] at b7
        exact (ro 3 x (by omega)).trans b7
    · rw [eN A'] at hk
      have rr : rN (A', B') k = rN (A, B) k := by
        unfold rN
        rw [show (A', B').1 34 = A 34 from r 34 (by decide)]
      rw [rr] at hi
      by_cases q : k = n
      · subst q
        obtain ⟨-, z, -⟩ := hQ k (Nat.le_refl _) n16
        have : rN (A, B) k = 0 := by
          unfold rN
          rw [z]
          rfl
        omega
      · exact YR_of (h4 k (by omega) i hi) (congrFun (r 36 (by decide)) _) (congrFun (r 37 (by decide)) _) (by rw [e0]; exact Nat.le_refl _)
  · rw [if_neg ht]
    exact IY_sT hY
theorem IY_home {σ : aS} {a b c : Int32} (hW : IW σ) (hY : IY σ) : IY (oHome σ a b c).2 := by
  unfold oHome
  by_cases ht : tHome σ a b c = 0
  · rw [if_pos ht]
    have hI := hW.1
    have hc := (pI9_ne.mp (gT_x ht).1).2.2
    have hlt := bI_ne.mp (gT_x ht).2.1
    obtain ⟨h1, h2, h3, h4⟩ := hY
    have n10 : cN σ 20 < 10 := by
      rw [hI.2.2.1.1] at hlt
      exact (nI_ltI (by have := hI.2.2.1.2; omega) (by decide)).mp (show nI (cN σ 20) < nI 10 from hlt)
    have e1 : σ.2 20 + 1 = nI (cN σ 20 + 1) := by rw [hI.2.2.1.1, nI_1]
    have hho : ∀ k, k < cN σ 1 → hmT σ (cN σ 20) k = 0 := fun k hk => if_neg fun z => by
      by_cases q : σ.1 10 k = -1
      · rw [show mHomeOf σ k = -1 from if_pos q] at z
        exact nI_ne_m1 (by omega) z.symm
      · obtain ⟨x, x1, x2⟩ := mHome_ix hI hW.2.1 hk q
        have := (nI_eq (by omega) (by omega)).mp (x2.symm.trans z)
        omega
    dsimp only
    rw [e1]
    obtain ⟨A, B⟩ := σ
    generalize hn : cN (A, B) 20 = n at *
    generalize hB' : up1 (up1 B 56 0) 20 (nI (n + 1)) = B'
    have eN : ∀ A', cN (A', B') 20 = n + 1 := fun A' => by rw [← hB']; exact cN_at (by omega)
    have eB : ∀ x, x ≠ 20 → x ≠ 56 → B' x = B x := fun x x1 x2 => by rw [← hB']; exact (up1_n x1).trans (up1_n x2)
    have eM : ∀ A' x, x ≠ 20 → x ≠ 56 → cN (A', B') x = cN (A, B) x := fun A' x x1 x2 => congrArg Int32.toNatClampNeg (eB x x1 x2)
    have r : ∀ f, f < 21 ∨ 23 < f → up2 (up2 (up2 A 21 n a) 22 n b) 23 n c f = A f := fun f hf => by
      rw [up2_f (by omega), up2_f (by omega), up2_f (by omega)]
    have r23 : up2 (up2 (up2 A 21 n a) 22 n b) 23 n c 23 n = c := up2_s
    have r23o : ∀ j, j ≠ n → up2 (up2 (up2 A 21 n a) 22 n b) 23 n c 23 j = A 23 j := fun j hj => by
      rw [up2_n2 hj, up2_n2 hj, up2_n2 hj]
    generalize up2 (up2 (up2 A 21 n a) 22 n b) 23 n c = A' at r r23 r23o ⊢
    have e0 := eM A' 0 (by decide) (by decide)
    have e1' := eM A' 1 (by decide) (by decide)
    have e38 := eM A' 38 (by decide) (by decide)
    have e43 := eM A' 43 (by decide) (by decide)
    refine ⟨fun k hk => ?_, fun m hm => ?_, fun j hj => ?_, fun k hk i hi => ?_⟩
    · obtain ⟨a1, a2, a3⟩ := h1 k (e1' ▸ hk)
      exact ⟨by rw [show (A', B').1 8 = A 8 from r 8 (by decide)]; exact a1, VB_of a2 (congrFun (r 14 (by decide)) k) (congrFun (r 15 (by decide)) k) (congrFun (r 17 (by decide)) k) (congrFun (r 18 (by decide)) k) (by rw [e0]; exact Nat.le_refl _), by rw [show (A', B').1 11 = A 11 from r 11 (by decide), show (A', B').1 44 = A 44 from r 44 (by decide), e43]; exact a3⟩
    · rw [eN A'] at hm
      rw [hmT_of (σ := (A, B)) (σ' := (A', B')) (r 10 (by decide)) (r 45 (by decide)), e1']
      by_cases q : m = n
      · subst q
        rw [fsum_z _ fun k hk => hho k hk, show (A', B').1 23 m = c from r23]
        exact Int32.le_trans (by decide) hc.1
      · rw [show (A', B').1 23 m = A 23 m from r23o m q]
        exact h2 m (by omega)
    · exact YS_of (h3 j (e43 ▸ hj)) (r 3 (by decide)) (r 44 (by decide)) (r 46 (by decide)) (r 47 (by decide)) (r 48 (by decide)) (by rw [e0]; exact Nat.le_refl _) (by rw [e38]; exact Nat.le_refl _)
    · refine YR_of (h4 k (e1' ▸ hk) i ?_) (congrFun (r 36 (by decide)) _) (congrFun (r 37 (by decide)) _) (by rw [e0]; exact Nat.le_refl _)
      unfold rN at hi ⊢
      rw [show (A', B').1 34 = A 34 from r 34 (by decide)] at hi
      exact hi
  · rw [if_neg ht]
    exact IY_sT hY
theorem IY_report {σ : aS} {x s w : Int32} (hI : IC σ) (hY : IY σ) : IY (oReport σ x s w).2 := by
  unfold oReport
  by_cases ht : tReport σ x s w = 0
  · rw [if_pos ht]
    obtain ⟨g1, g2, g3⟩ := gT_x ht
    rw [bI_ne] at g1
    rw [pI9_ne] at g2 g3
    obtain ⟨k, k1, rfl⟩ := ch_ix hI g1
    have c16 := hI.2.1.2
    have c0 := hI.1.2
    have ek : nx (nI k) = k := nI_clamp (by omega)
    have g4 := g3.2
    rw [ek] at g4
    obtain ⟨c7a, c7b⟩ := hI.2.2.2.2.2.2.1 k (by omega)
    have hr : rN σ k < 30 := by
      rw [c7a] at g4
      exact (nI_ltI (by omega) (by decide)).mp (show nI (rN σ k) < nI 30 from g4)
    obtain ⟨v, v1, v2⟩ := nI_ofL (Int32.le_trans (by decide) g2.2.1) g2.2.2 (n := 9) rfl
    have v0 : 1 ≤ v := by
      have := g2.2.1
      rw [v2] at this
      exact (nI_leI (by decide) (by omega)).mp (show nI 1 ≤ nI v from this)
    have hrn : ∀ k', k' < cN σ 1 → rN σ k' ≤ 30 := fun k' hk' => (hI.2.2.2.2.2.2.1 k' (by omega)).2
    have e0 : σ.2 0 = nI (cN σ 0) := hI.1.1
    dsimp only
    unfold sReport
    rw [ek, c7a, nI_1, v2, e0]
    obtain ⟨h1, h2, h3, h4⟩ := hY
    obtain ⟨A, B⟩ := σ
    refine IY_56 (B := B) ?_
    generalize hn : rN (A, B) k = n at *
    have r : ∀ f, f < 34 ∨ 37 < f → up2 (up2 (up2 (up2 A 35 (30 * k + n) s) 36 (30 * k + n) (nI v)) 37 (30 * k + n) (nI (cN (A, B) 0))) 34 k (nI (n + 1)) f = A f := fun f hf => by
      rw [up2_f (by omega), up2_f (by omega), up2_f (by omega), up2_f (by omega)]
    have r34 : up2 (up2 (up2 (up2 A 35 (30 * k + n) s) 36 (30 * k + n) (nI v)) 37 (30 * k + n) (nI (cN (A, B) 0))) 34 k (nI (n + 1)) 34 k = nI (n + 1) := up2_s
    have r34o : ∀ j, j ≠ k → up2 (up2 (up2 (up2 A 35 (30 * k + n) s) 36 (30 * k + n) (nI v)) 37 (30 * k + n) (nI (cN (A, B) 0))) 34 k (nI (n + 1)) 34 j = A 34 j := fun j hj => by
      rw [up2_n2 hj, up2_n1 (by decide), up2_n1 (by decide), up2_n1 (by decide)]
    have r36 : up2 (up2 (up2 (up2 A 35 (30 * k + n) s) 36 (30 * k + n) (nI v)) 37 (30 * k + n) (nI (cN (A, B) 0))) 34 k (nI (n + 1)) 36 (30 * k + n) = nI v := by
      rw [up2_n1 (by decide), up2_n1 (by decide), up2_s]
    have r37 : up2 (up2 (up2 (up2 A 35 (30 * k + n) s) 36 (30 * k + n) (nI v)) 37 (30 * k + n) (nI (cN (A, B) 0))) 34 k (nI (n + 1)) 37 (30 * k + n) = nI (cN (A, B) 0) := by
      rw [up2_n1 (by decide), up2_s]
    have ro : ∀ f j, f = 36 ∨ f = 37 → j ≠ 30 * k + n → up2 (up2 (up2 (up2 A 35 (30 * k + n) s) 36 (30 * k + n) (nI v)) 37 (30 * k + n) (nI (cN (A, B) 0))) 34 k (nI (n + 1)) f j = A f j := fun f j hf hj => by
      rw [up2_n1 (by omega), up2_n2 hj, up2_n2 hj, up2_n2 hj]
    generalize up2 (up2 (up2 (up2 A 35 (30 * k + n) s) 36 (30 * k + n) (nI v)) 37 (30 * k + n) (nI (cN (A, B) 0))) 34 k (nI (n + 1)) = A' at r r34 r34o r36 r37 ro ⊢
    refine ⟨fun k hk => ?_, fun m hm => ?_, fun j hj => ?_, fun k' hk i hi => ?_⟩
    · obtain ⟨a1, a2, a3⟩ := h1 k hk
      exact ⟨by rw [show (A', B).1 8 = A 8 from r 8 (by decide)]; exact a1, VB_of a2 (congrFun (r 14 (by decide)) k) (congrFun (r 15 (by decide)) k) (congrFun (r 17 (by decide)) k) (congrFun (r 18 (by decide)) k) (Nat.le_refl _), by rw [show (A', B).1 11 = A 11 from r 11 (by decide), show (A', B).1 44 = A 44 from r 44 (by decide)]; exact a3⟩
    · rw [hmT_of (σ := (A, B)) (σ' := (A', B)) (r 10 (by decide)) (r 45 (by decide)), show (A', B).1 23 = A 23 from r 23 (by decide)]
      exact h2 m hm
    · exact YS_of (h3 j hj) (r 3 (by decide)) (r 44 (by decide)) (r 46 (by decide)) (r 47 (by decide)) (r 48 (by decide)) (Nat.le_refl _) (Nat.le_refl _)
    · by_cases q : k' = k
      · subst q
        have e : rN (A', B) k' = n + 1 := by
          show (A' 34 k').toNatClampNeg = _
          rw [r34, nI_clamp (by omega)]
        rw [e] at hi
        by_cases q2 : i = n
        · subst q2
          exact ⟨⟨cN (A, B) 0, Nat.le_refl _, r37⟩, v, v0, v1, r36⟩
        · exact YR_of (h4 k' hk i (by rw [hn]; omega)) (ro 36 _ (by decide) (by omega)) (ro 37 _ (by decide) (by omega)) (Nat.le_refl _)
      · have e : rN (A', B) k' = rN (A, B) k' := by
          show (A' 34 k').toNatClampNeg = _
          rw [r34o k' q]
          rfl
        rw [e] at hi
        have hk' := hrn k' hk
        exact YR_of (h4 k' hk i hi) (ro 36 _ (by decide) (by omega)) (ro 37 _ (by decide) (by omega)) (Nat.le_refl _)
  · rw [if_neg ht]
    exact IY_sT hY
