/-! WHAT HOLDS BETWEEN CALLS: the calls themselves. -/
theorem nx_ix {k : Nat} (h : k < 2 ^ 31) : nx (nI k) = k := nI_clamp h
theorem IW_report {σ : aS} {x s w : Int32} (h : IW σ) (ht : tReport σ x s w = 0) : IW (sReport σ x s w) ∧ cN (sReport σ x s w) 27 = cN σ 27 := by
  have hI0 := h.1
  obtain ⟨A, B⟩ := σ
  obtain ⟨g1, g2, g3⟩ := gT_x ht
  rw [bI_ne] at g1
  rw [pI9_ne] at g2 g3
  obtain ⟨k, k1, rfl⟩ := ch_ix hI0 g1
  have c16 := hI0.2.1.2
  have ek : nx (nI k) = k := nI_clamp (by omega)
  have g4 := g3.2
  rw [ek] at g4
  obtain ⟨c7a, c7b⟩ := hI0.2.2.2.2.2.2.1 k (by omega)
  have hr : rN (A, B) k < 30 := by
    rw [c7a, Int32.lt_iff_toInt_lt, nI_toInt (by omega)] at g4
    have e30 : (30 : Int32).toInt = 30 := rfl
    omega
  refine ⟨?_, rfl⟩
  unfold sReport
  rw [ek]
  have W := IW_F (f := 36) (j := 30 * k + rN (A, B) k) (v := w) (IW_F (f := 35) (j := 30 * k + rN (A, B) k) (v := s) h (by decide)) (by decide)
  show IW (up2 (up2 (up2 (up2 A 35 (30 * k + rN (A, B) k) s) 36 (30 * k + rN (A, B) k) w) 37 (30 * k + rN (A, B) k) (B 0)) 34 k (A 34 k + 1), up1 B 56 0)
  refine IW_56 (B := B) ?_
  have e34 : A 34 = up2 (up2 A 35 (30 * k + rN (A, B) k) s) 36 (30 * k + rN (A, B) k) w 34 := ((up2_f (by decide)).trans (up2_f (by decide))).symm
  have er : rN (A, B) k = rN (up2 (up2 A 35 (30 * k + rN (A, B) k) s) 36 (30 * k + rN (A, B) k) w, B) k := congrArg Int32.toNatClampNeg (congrFun e34 k)
  rw [e34]
  have hr2 : rN (up2 (up2 A 35 (30 * k + rN (A, B) k) s) 36 (30 * k + rN (A, B) k) w, B) k < 30 := er ▸ hr
  generalize hn : rN (A, B) k = n at *
  generalize up2 (up2 A 35 (30 * k + n) s) 36 (30 * k + n) w = A1 at W er hr2 ⊢
  obtain ⟨a1, a2, a3, a4, a5, a6, a7, a8, a9, a10, a11, a12, a13⟩ := W
  have I37 : IC (up2 A1 37 (30 * k + n) (B 0), B) := IC_A a1 (by decide) (by decide)
  have f34 : up2 A1 37 (30 * k + n) (B 0) 34 = A1 34 := up2_f (by decide)
  have h34 := IC_34 (k := k) I37 (by omega) (by
    show (up2 A1 37 (30 * k + n) (B 0) 34 k).toNatClampNeg < 30
    rw [f34]; exact hr2)
  rw [f34] at h34
  have r : ∀ f, f ≠ 34 → f ≠ 37 → up2 (up2 A1 37 (30 * k + n) (B 0)) 34 k (A1 34 k + 1) f = A1 f := fun f f1 f2 => (up2_f f1).trans (up2_f f2)
  have b0 : (0 : Int32) ≤ B 0 := by
    rw [show B 0 = nI (cN (A1, B) 0) from a1.1.1]
    exact nI_pos' (by have := a1.1.2; omega)
  refine ⟨h34, IS_of (B := B) a2 (r 44 (by decide) (by decide)) (r 45 (by decide) (by decide)), IZ_of a3 (fun f hf => r f (by have := mZ_is hf; omega) (by have := mZ_is hf; omega)), IO_of a4 (r 42 (by decide) (by decide)) rfl, IN_of a5 (r 4 (by decide) (by decide)) rfl, IP_of a6 (r 6 (by decide) (by decide)) (r 21 (by decide) (by decide)) rfl rfl, IQ_A (IQ_A a7 (by decide) (by decide) (fun q => absurd q (by decide)) (fun q => absurd q (by decide)) (fun q => absurd q (by decide))) (by decide) (by decide) (fun _ => k1) (fun q => absurd q (by decide)) (fun q => absurd q (by decide)), JT_of a8 (r 28 (by decide) (by decide)) (r 29 (by decide) (by decide)) (r 30 (by decide) (by decide)) (Nat.le_refl _) rfl, fun k' i hk' hi => ?_, IA_of a10 (r 2 (by decide) (by decide)) (r 3 (by decide) (by decide)) rfl (Nat.le_refl _), IE_of a11 (r 10 (by decide) (by decide)) (r 44 (by decide) (by decide)) (r 47 (by decide) (by decide)) rfl rfl, ID_of a12 (r 47 (by decide) (by decide)) (r 46 (by decide) (by decide)) (r 4 (by decide) (by decide)) (r 44 (by decide) (by decide)) (r 3 (by decide) (by decide)) (r 2 (by decide) (by decide)) (r 45 (by decide) (by decide)) (r 24 (by decide) (by decide)) rfl rfl rfl, IBd_of a13 (r 23 (by decide) (by decide)) rfl⟩
  have b30 := (h34.2.2.2.2.2.2.1 k' (by have : k' < cN (A1, B) 1 := hk'; have := a1.2.1.2; omega)).2
  show 0 ≤ up2 (up2 A1 37 (30 * k + n) (B 0)) 34 k (A1 34 k + 1) 37 (30 * k' + i)
  rw [up2_n1 (by decide)]
  by_cases z : 30 * k' + i = 30 * k + n
  · rw [z, up2_s]; exact b0
  · rw [up2_n2 z]
    refine a9 k' i hk' ?_
    have hi2 : i < (up2 (up2 A1 37 (30 * k + n) (B 0)) 34 k (A1 34 k + 1) 34 k').toNatClampNeg := hi
    by_cases zk : k' = k
    · subst zk
      rw [up2_s] at hi2
      have e7 : A1 34 k' = nI (rN (A1, B) k') := (a1.2.2.2.2.2.2.1 k' (by omega)).1
      rw [e7, nI_1, nI_clamp (by omega)] at hi2
      rw [← er] at hi2 ⊢
      omega
    · rw [up2_n2 zk, up2_f (by decide)] at hi2
      exact hi2

