/-! WHAT HOLDS BETWEEN CALLS, on: stays end and begin, days pass. -/
theorem IQ_of {σ σ' : aS} (h : IQ σ) (r : ∀ f, (11 ≤ f ∧ f ≤ 19) ∨ f = 34 ∨ (24 ≤ f ∧ f ≤ 26) ∨ f = 28 ∨ f = 39 → σ'.1 f = σ.1 f) (n1 : cN σ' 1 = cN σ 1) (n20 : cN σ' 20 = cN σ 20) (n27 : cN σ' 27 = cN σ 27) (n38 : cN σ' 38 = cN σ 38) : IQ σ' := by
  obtain ⟨q1, q2, q3, q4⟩ := h
  refine ⟨fun k hk hk2 => ?_, fun x hx hx2 => ?_, fun i hi => ?_, fun i hi => ?_⟩
  · obtain ⟨p1, p2, p3⟩ := q1 k (n1 ▸ hk) hk2
    exact ⟨fun f f1 f2 => (congrFun (r f (by omega)) k).trans (p1 f f1 f2), (congrFun (r 34 (by omega)) k).trans p2, fun y hy => (congrFun (r 19 (by omega)) _).trans (p3 y hy)⟩
  · obtain ⟨p1, p2, p3⟩ := q2 x (n20 ▸ hx) hx2
    exact ⟨(congrFun (r 24 (by omega)) x).trans p1, (congrFun (r 25 (by omega)) x).trans p2, (congrFun (r 26 (by omega)) x).trans p3⟩
  · obtain ⟨x, x1, x2⟩ := q3 i (n27 ▸ hi)
    exact ⟨x, n20.symm ▸ x1, (congrFun (r 28 (by omega)) i).trans x2⟩
  · obtain ⟨x, x1, x2⟩ := q4 i (n38 ▸ hi)
    exact ⟨x, n1.symm ▸ x1, (congrFun (r 39 (by omega)) i).trans x2⟩
theorem IZ_of {σ σ' : aS} (h : IZ σ) (r : ∀ f, mZ f = true → σ'.1 f = σ.1 f) : IZ σ' := fun f j hf hj => by rw [r f hf]; exact h f j hf hj
theorem mZ_is {f : Nat} (h : mZ f = true) : f = 13 ∨ f = 18 ∨ f = 26 ∨ f = 53 := by
  unfold mZ at h
  simpa using h
theorem IW_ends {σ : aS} {k : Nat} (h : IW σ) (hk : k < cN σ 1) : IW (oEnds σ k) := by
  obtain ⟨a1, a2, a3, a4, a5, a6, a7, a8, a9, a10, a11, a12, a13⟩ := h
  have r : ∀ f, f ≠ 10 → f ≠ 47 → (oEnds σ k).1 f = σ.1 f := fun f => oEnds_o
  have n : ∀ x, cN (oEnds σ k) x = cN σ x := fun x => congrArg Int32.toNatClampNeg (congrFun oEnds_2 x)
  exact ⟨IC_ends a1, IS_ends a2, IZ_of a3 (fun f hf => r f (by have := mZ_is hf; omega) (by have := mZ_is hf; omega)), IO_of a4 (r 42 (by decide) (by decide)) (n 38), IN_of a5 (r 4 (by decide) (by decide)) (n 1), IP_of a6 (r 6 (by decide) (by decide)) (r 21 (by decide) (by decide)) (n 1) (n 20), IQ_of a7 (fun f hf => r f (by omega) (by omega)) (n 1) (n 20) (n 27) (n 38), JT_of a8 (r 28 (by decide) (by decide)) (r 29 (by decide) (by decide)) (r 30 (by decide) (by decide)) (Nat.le_of_eq (n 0).symm) (n 27), IR_of a9 (r 37 (by decide) (by decide)) (r 34 (by decide) (by decide)) (n 1), IA_of a10 (r 2 (by decide) (by decide)) (r 3 (by decide) (by decide)) (n 1) (Nat.le_of_eq (n 0).symm), IE_ends a1 a2 a11 hk, ID_ends a1 a11 a12 hk, IBd_of a13 (r 23 (by decide) (by decide)) (n 20)⟩
theorem IW_vis {σ : aS} {k : Nat} (h : IW σ) (hk : k < cN σ 1) : IW (oVisited σ k) := by
  obtain ⟨A, B⟩ := σ
  have st : ∀ {A' : Nat → Nat → Int32} {f : Nat} {v : Int32}, IW (A', B) → (f = 14 ∨ f = 15 ∨ f = 16 ∨ f = 17) → IW (up2 A' f k v, B) := fun {A' f v} h hf => IW_A h (by rcases hf with rfl | rfl | rfl | rfl <;> decide) (fun q => by have := mZ_is q; omega) (fun _ => hk) (fun q => by omega) (fun q => by omega)
  unfold oVisited vis5 vis4 vis3 vis2 vis1
  exact IW_A (st (st (st (st (IW_A h (by decide) (fun _ => Or.inl rfl) (fun _ => hk) (fun q => absurd q (by decide)) (fun q => absurd q (by decide))) (by decide)) (by decide)) (by decide)) (by decide)) (by decide) (fun _ => pI9_01 _) (fun _ => hk) (fun q => absurd q (by decide)) (fun q => absurd q (by decide))
theorem IW_dStep {τ : aS} {j : Nat} (h : IW τ) (hj : j < cN τ 1) : IW (dStep τ j) := by
  by_cases h1 : τ.1 10 j = -1
  · rw [dStep, iteP_t h1]; exact h
  · rw [dStep, iteP_f h1]
    by_cases h2 : ¬ mKindOn τ (nI j) (τ.2 0) = 0 ∧ ¬ mKindOn τ (nI j) (τ.2 0) = 2
    · rw [iteP_t h2]; exact IW_ends h hj
    · rw [iteP_f h2]
      by_cases h3 : ¬ τ.1 12 j ≤ 0 ∧ (τ.2 0 - τ.1 46 (nx (τ.1 10 j))) - (τ.2 0 - τ.1 46 (nx (τ.1 10 j))) / τ.1 12 j * τ.1 12 j = 0
      · rw [iteP_t h3]; exact IW_vis h hj
      · rw [iteP_f h3]; exact h
theorem IW_dRun : ∀ (t j : Nat) (τ : aS), IW τ → j + t ≤ cN τ 1 → IW (dRun t j τ)
  | 0, _, _, h, _ => h
  | t + 1, j, τ, h, hj => IW_dRun t (j + 1) (dStep τ j) (IW_dStep h (by omega)) (by rw [show cN (dStep τ j) 1 = cN τ 1 from congrArg Int32.toNatClampNeg (congrFun dStep_2 1)]; omega)
theorem IQ_earn {σ : aS} (hI : IC σ) (hS : IS σ) (h : IQ σ) : ∀ j, j ≤ cN σ 1 → IQ (earnF σ j, σ.2)
  | 0, _ => h
  | j + 1, hj => by
    by_cases e : earnF σ j 10 j = -1
    · rw [earnF_t e]; exact IQ_earn hI hS h j (by omega)
    · rw [earnF_f e]
      obtain ⟨x, x1, x2⟩ := mHome_ix (σ := (earnF σ j, σ.2)) (IC_earn hI j) (IS_earn hS j) (j := j) (show j < cN σ 1 by omega) e
      rw [x2, show nx (nI x) = x from nI_clamp (by have := hI.2.2.1.2; have : x < cN σ 20 := x1; omega)]
      exact IQ_A (IQ_earn hI hS h j (by omega)) (by decide) (by decide) (fun q => absurd q (by decide)) (fun q => absurd q (by decide)) (fun _ => x1)
theorem IW_day {σ : aS} (h : IW σ) (hd : cN σ 0 < 12000) : IW (oDay σ) ∧ (∀ x, x ≠ 0 → (oDay σ).2 x = σ.2 x) ∧ cN (oDay σ) 0 = cN σ 0 + 1 := by
  have hI := h.1
  obtain ⟨a1, a2, a3, a4, a5, a6, a7, a8, a9, a10, a11, a12, a13⟩ := h
  have e1 : σ.2 0 + 1 = nI (cN σ 0 + 1) := by rw [show σ.2 0 = nI (cN σ 0) from a1.1.1, nI_1]
  have n0 : ∀ A, cN (A, up1 σ.2 0 (σ.2 0 + 1)) 0 = cN σ 0 + 1 := fun A => by rw [e1]; exact cN_at (by omega)
  have r : ∀ f, f ≠ 24 → earnF σ (cN σ 1) f = σ.1 f := fun f hf => earnF_o hf _
  have W : IW (earnF σ (cN σ 1), up1 σ.2 0 (σ.2 0 + 1)) := ⟨IC_0 (IC_earn a1 _) hd, IS_earn a2 _, IZ_of a3 (fun f hf => r f (by have := mZ_is hf; omega)), IO_of a4 (r 42 (by decide)) rfl, IN_of a5 (r 4 (by decide)) rfl, IP_of a6 (r 6 (by decide)) (r 21 (by decide)) rfl rfl, IQ_earn a1 a2 a7 _ (Nat.le_refl _), JT_of a8 (r 28 (by decide)) (r 29 (by decide)) (r 30 (by decide)) (by rw [n0]; omega) rfl, IR_of a9 (r 37 (by decide)) (r 34 (by decide)) rfl, IA_of a10 (r 2 (by decide)) (r 3 (by decide)) rfl (by rw [n0]; omega), IE_of a11 (r 10 (by decide)) (r 44 (by decide)) (r 47 (by decide)) rfl rfl, ID_earn a1 a2 a10 a5 a11 a12 hd, IBd_of a13 (r 23 (by decide)) rfl⟩
  have e2 : (oDay σ).2 = up1 σ.2 0 (σ.2 0 + 1) := dRun_2 _ _ _
  refine ⟨IW_dRun _ _ _ W (by rw [Nat.zero_add]; exact Nat.le_refl _), fun x hx => by rw [e2]; exact up1_n hx, ?_⟩
  rw [← n0 (oDay σ).1, ← e2]
theorem IW_days : ∀ (c : Nat) {σ : aS}, IW σ → cN σ 0 + c ≤ 12000 → IW (runDays c σ) ∧ ∀ x, x ≠ 0 → (runDays c σ).2 x = σ.2 x
  | 0, _, h, _ => ⟨h, fun _ _ => rfl⟩
  | c + 1, σ, h, hc => by
    obtain ⟨d1, d2, d3⟩ := IW_day h (by omega)
    obtain ⟨e1, e2⟩ := IW_days c d1 (by omega)
    exact ⟨e1, fun x hx => (e2 x hx).trans (d2 x hx)⟩
theorem IW_bg {A : Nat → Nat → Int32} {B : Nat → Int32} {k w : Nat} {v : Int32} (h : IW (A, B)) (hk : k < cN (A, B) 1) (hw : w < cN (A, B) 20) (hc : cN (A, B) 43 < 100) (h10 : A 10 k = -1) : IW (up2 (up2 (up2 (up2 (up2 (up2 A 44 (cN (A, B) 43) (nI k)) 45 (cN (A, B) 43) (nI w)) 46 (cN (A, B) 43) (B 0)) 47 (cN (A, B) 43) (-1)) 48 (cN (A, B) 43) v) 10 k (nI (cN (A, B) 43)), up1 B 43 (B 43 + 1)) := by
  obtain ⟨a1, a2, a3, a4, a5, a6, a7, a8, a9, a10, a11, a12, a13⟩ := h
  obtain ⟨c1, c2, c3, c4, c5, c6, c7, c8⟩ := a1
  have b1 : B 43 = nI (cN (A, B) 43) := c6.1
  have e1 : B 43 + 1 = nI (cN (A, B) 43 + 1) := by rw [b1, nI_1]
  have b0 : ¬ B 0 = -1 := by rw [show B 0 = nI (cN (A, B) 0) from c1.1]; exact nI_ne_m1 (by have := c1.2; omega)
  generalize hB' : up1 B 43 (B 43 + 1) = B'
  have eN : ∀ A', cN (A', B') 43 = cN (A, B) 43 + 1 := fun A' => by rw [← hB', e1]; exact cN_at (by omega)
  have eB : ∀ x, x ≠ 43 → B' x = B x := fun x x1 => by rw [← hB']; exact up1_n x1
  have eM : ∀ A' x, x ≠ 43 → cN (A', B') x = cN (A, B) x := fun A' x x1 => congrArg Int32.toNatClampNeg (eB x x1)
  have eB1 : B' 43 = B 43 + 1 := by rw [← hB']; exact up1_s
  generalize hn9 : cN (A, B) 43 = n at *
  have r : ∀ f, f ≠ 10 → f < 44 ∨ 48 < f → up2 (up2 (up2 (up2 (up2 (up2 A 44 n (nI k)) 45 n (nI w)) 46 n (B 0)) 47 n (-1)) 48 n v) 10 k (nI n) f = A f := fun f h0 hf => (up2_f h0).trans ((up2_f (by omega)).trans ((up2_f (by omega)).trans ((up2_f (by omega)).trans ((up2_f (by omega)).trans (up2_f (by omega))))))
  have ro : ∀ f j, f ≠ 10 → j ≠ n → up2 (up2 (up2 (up2 (up2 (up2 A 44 n (nI k)) 45 n (nI w)) 46 n (B 0)) 47 n (-1)) 48 n v) 10 k (nI n) f j = A f j := fun f j h0 hj => (up2_n1 h0).trans ((up2_n2 hj).trans ((up2_n2 hj).trans ((up2_n2 hj).trans ((up2_n2 hj).trans (up2_n2 hj)))))
  have r10 : up2 (up2 (up2 (up2 (up2 (up2 A 44 n (nI k)) 45 n (nI w)) 46 n (B 0)) 47 n (-1)) 48 n v) 10 k (nI n) 10 k = nI n := up2_s
  have r10o : ∀ j, j ≠ k → up2 (up2 (up2 (up2 (up2 (up2 A 44 n (nI k)) 45 n (nI w)) 46 n (B 0)) 47 n (-1)) 48 n v) 10 k (nI n) 10 j = A 10 j := fun j hj => (up2_n2 hj).trans ((up2_n1 (by decide)).trans ((up2_n1 (by decide)).trans ((up2_n1 (by decide)).trans ((up2_n1 (by decide)).trans (up2_n1 (by decide))))))
  have r47 : up2 (up2 (up2 (up2 (up2 (up2 A 44 n (nI k)) 45 n (nI w)) 46 n (B 0)) 47 n (-1)) 48 n v) 10 k (nI n) 47 n = -1 := (up2_n1 (by decide)).trans ((up2_n1 (by decide)).trans up2_s)
  have r46 : up2 (up2 (up2 (up2 (up2 (up2 A 44 n (nI k)) 45 n (nI w)) 46 n (B 0)) 47 n (-1)) 48 n v) 10 k (nI n) 46 n = B 0 := (up2_n1 (by decide)).trans ((up2_n1 (by decide)).trans ((up2_n1 (by decide)).trans up2_s))
  have r45 : up2 (up2 (up2 (up2 (up2 (up2 A 44 n (nI k)) 45 n (nI w)) 46 n (B 0)) 47 n (-1)) 48 n v) 10 k (nI n) 45 n = nI w := (up2_n1 (by decide)).trans ((up2_n1 (by decide)).trans ((up2_n1 (by decide)).trans ((up2_n1 (by decide)).trans up2_s)))
  have r44 : up2 (up2 (up2 (up2 (up2 (up2 A 44 n (nI k)) 45 n (nI w)) 46 n (B 0)) 47 n (-1)) 48 n v) 10 k (nI n) 44 n = nI k := (up2_n1 (by decide)).trans ((up2_n1 (by decide)).trans ((up2_n1 (by decide)).trans ((up2_n1 (by decide)).trans ((up2_n1 (by decide)).trans up2_s))))
  generalize up2 (up2 (up2 (up2 (up2 (up2 A 44 n (nI k)) 45 n (nI w)) 46 n (B 0)) 47 n (-1)) 48 n v) 10 k (nI n) = A' at r ro r10 r10o r47 r46 r45 r44 ⊢
  have e0 := eM A' 0 (by decide)
  have eC := eM A' 1 (by decide)
  have e20 := eM A' 20 (by decide)
  have e27 := eM A' 27 (by decide)
  have e38 := eM A' 38 (by decide)
  have lt : ∀ {j : Nat}, j < cN (A', B') 43 → j = n ∨ j < n := fun {j} hj => by rw [eN A'] at hj; omega
  refine ⟨⟨⟨(eB 0 (by decide)).trans (c1.1.trans (congrArg nI e0.symm)), by rw [e0]; exact c1.2⟩, ⟨(eB 1 (by decide)).trans (c2.1.trans (congrArg nI eC.symm)), by rw [eC]; exact c2.2⟩, ⟨(eB 20 (by decide)).trans (c3.1.trans (congrArg nI e20.symm)), by rw [e20]; exact c3.2⟩, ⟨(eB 27 (by decide)).trans (c4.1.trans (congrArg nI e27.symm)), by rw [e27]; exact c4.2⟩, ⟨(eB 38 (by decide)).trans (c5.1.trans (congrArg nI e38.symm)), by rw [e38]; exact c5.2⟩, ⟨by rw [eN A']; exact eB1.trans e1, by rw [eN A']; omega⟩, fun i hi => ?_, fun i hi => ?_⟩, fun j hj => ?_, IZ_of a3 (fun f hf => r f (by have := mZ_is hf; omega) (by have := mZ_is hf; omega)), IO_of a4 (r 42 (by decide) (by decide)) e38, IN_of a5 (r 4 (by decide) (by decide)) eC, IP_of a6 (r 6 (by decide) (by decide)) (r 21 (by decide) (by decide)) eC e20, IQ_of a7 (fun f hf => r f (by omega) (by omega)) eC e20 e27 e38, JT_of a8 (r 28 (by decide) (by decide)) (r 29 (by decide) (by decide)) (r 30 (by decide) (by decide)) (Nat.le_of_eq e0.symm) e27, IR_of a9 (r 37 (by decide) (by decide)) (r 34 (by decide) (by decide)) eC, IA_of a10 (r 2 (by decide) (by decide)) (r 3 (by decide) (by decide)) eC (Nat.le_of_eq e0.symm), ⟨fun i j hi hj hA => ?_, fun j i hj hi h47 h44 => ?_⟩, fun x hx => ?_, IBd_of a13 (r 23 (by decide) (by decide)) e20⟩
  · have e := c7 i hi
    unfold rN at e ⊢
    rw [show (A', B').1 34 = A 34 from r 34 (by decide) (by decide)]
    exact e
  · rw [eN A']
    by_cases z : i = k
    · subst z; exact Or.inr ⟨n, Nat.lt_succ_self n, r10⟩
    · rcases c8 i (eC ▸ hi) with q | ⟨j, j1, j2⟩
      · exact Or.inl ((r10o i z).trans q)
      · exact Or.inr ⟨j, by omega, (r10o i z).trans j2⟩
  · rcases lt hj with rfl | hj'
    · exact ⟨⟨k, eC.symm ▸ hk, r44⟩, w, e20.symm ▸ hw, r45⟩
    · obtain ⟨⟨x, x1, x2⟩, y, y1, y2⟩ := a2 j (by rw [hn9]; exact hj')
      exact ⟨⟨x, eC.symm ▸ x1, (ro 44 j (by decide) (by omega)).trans x2⟩, y, e20.symm ▸ y1, (ro 45 j (by decide) (by omega)).trans y2⟩
  · have c43 := c6.2
    by_cases z : i = k
    · subst z
      rw [show (A', B').1 10 i = nI n from r10] at hA
      have z2 := congrArg Int32.toNatClampNeg hA
      have hj2 := lt hj
      rw [nI_clamp (by omega), nI_clamp (by omega)] at z2
      subst z2
      exact ⟨r44, r47⟩
    · rw [show (A', B').1 10 i = A 10 i from r10o i z] at hA
      rcases c8 i (eC ▸ hi) with q | ⟨j', j1, j2⟩
      · exact absurd (hA.symm.trans q) (nI_ne_m1 (by have := lt hj; omega))
      · have z2 := congrArg Int32.toNatClampNeg (hA.symm.trans j2)
        have hj2 := lt hj
        rw [nI_clamp (by omega), nI_clamp (by omega)] at z2
        subst z2
        obtain ⟨y1, y2⟩ := a11.1 i j (eC ▸ hi) (by rw [hn9]; exact j1) hA
        exact ⟨(ro 44 j (by decide) (by omega)).trans y1, (ro 47 j (by decide) (by omega)).trans y2⟩
  · have hi' : i < cN (A, B) 1 := eC ▸ hi
    have c16 := c2.2
    rcases lt hj with rfl | hj'
    · have z2 := congrArg Int32.toNatClampNeg (r44.symm.trans h44)
      rw [nI_clamp (by omega), nI_clamp (by omega)] at z2
      subst z2
      exact r10
    · have k47 : A 47 j = -1 := (ro 47 j (by decide) (by omega)).symm.trans h47
      have k44 : A 44 j = nI i := (ro 44 j (by decide) (by omega)).symm.trans h44
      have q := a11.2 j i (by rw [hn9]; exact hj') hi' k47 k44
      by_cases z : i = k
      · subst z
        exact absurd (q.symm.trans h10) (nI_ne_m1 (by omega))
      · exact (r10o i z).trans q
  · rw [e20] at hx
    show A' 24 x = fsum (cOwT (A', B') x) (cN (A', B') 43)
    rw [eN A', r 24 (by decide) (by decide), show A 24 x = fsum (cOwT (A, B) x) n from hn9 ▸ a12 x hx]
    show _ = fsum (cOwT (A', B') x) n + cOwT (A', B') x n
    have hz : cOwT (A', B') x n = 0 := by
      unfold cOwT
      by_cases z : (A', B').1 45 n = nI x
      · rw [if_pos z]
        unfold cDues cOver
        rw [show (A', B').1 47 n = -1 from r47, if_pos rfl, show (A', B').1 46 n = B 0 from r46, show (A', B').2 0 = B 0 from eB 0 (by decide), Int32.sub_self, Int32.zero_mul, Int32.zero_add, Int32.sub_self]
      · rw [if_neg z]
    rw [hz, Int32.add_zero]
    refine fsum_congr _ fun i hi => ?_
    unfold cOwT
    rw [show (A', B').1 45 i = A 45 i from ro 45 i (by decide) (by omega), show (A', B').2 0 = B 0 from eB 0 (by decide), cDues_at (σ := (A, B)) (σ' := (A', B')) (ro 47 i (by decide) (by omega)) (ro 46 i (by decide) (by omega)) (ro 44 i (by decide) (by omega)) (fun f hf => congrFun (r f (by omega) (by omega)) _)]
theorem oEnds_10 {σ : aS} {k : Nat} : (oEnds σ k).1 10 k = -1 := by
  unfold oEnds
  by_cases e : σ.1 10 k = -1
  · rw [if_pos e]; exact e
  · rw [if_neg e]; exact up2_s
theorem IW_begins {σ : aS} {k w : Nat} (h : IW σ) (hk : k < cN σ 1) (hw : w < cN σ 20) (hc : cN σ 43 < 100) : IW (oBegins σ k (nI w)).2 := by
  have W := IW_ends h hk
  have e2 : (oEnds σ k).2 = σ.2 := oEnds_2
  have e10 := oEnds_10 (σ := σ) (k := k)
  unfold oBegins oBeg1
  dsimp only
  generalize mCounts _ (nI k) (σ.2 0) = v
  generalize (oEnds σ k).1 11 k + 1 = v'
  obtain ⟨A, B⟩ := σ
  generalize hE : oEnds (A, B) k = E at *
  obtain ⟨A1, B1⟩ := E
  have eB : B1 = B := e2
  subst eB
  have g := IW_bg (v := v) W hk hw hc e10
  exact IW_A (IW_A g (by decide) (fun q => absurd q (by decide)) (fun _ => hk) (fun q => absurd q (by decide)) (fun q => absurd q (by decide))) (by decide) (fun _ => Or.inl rfl) (fun _ => hk) (fun q => absurd q (by decide)) (fun q => absurd q (by decide))

