/-! WHAT HOLDS BETWEEN CALLS: a child, a home, a report, an order. -/
theorem cDues_at {σ σ' : aS} {j : Nat} (h47 : σ'.1 47 j = σ.1 47 j) (h46 : σ'.1 46 j = σ.1 46 j) (h44 : σ'.1 44 j = σ.1 44 j) (hk : ∀ f, f = 2 ∨ f = 3 ∨ f = 4 → σ'.1 f (nx (σ.1 44 j)) = σ.1 f (nx (σ.1 44 j))) {d : Int32} : cDues σ' j d = cDues σ j d := by
  unfold cDues cOver cBorn
  rw [h47, h46, h44, hk 2 (by decide), hk 3 (by decide), hk 4 (by decide)]
theorem fsum_z {F : Nat → Int32} : ∀ n, (∀ i, i < n → F i = 0) → fsum F n = 0
  | 0, _ => rfl
  | n + 1, h => by
    show fsum F n + F n = 0
    rw [fsum_z n (fun i hi => h i (by omega)), h n (Nat.lt_succ_self n)]; rfl
theorem IW_child {σ : aS} {a b c d e : Int32} (h : IW σ) (ht : tChild σ a b c d e = 0) : IW (oChild σ a b c d e).2 ∧ cN (oChild σ a b c d e).2 27 = cN σ 27 := by
  obtain ⟨A, B⟩ := σ
  rw [oChild, if_pos ht]
  obtain ⟨g1, g2, -⟩ := gT_x ht
  rw [pI9_ne] at g1
  rw [bI_ne] at g2
  obtain ⟨ia, ib, ic, id, ie⟩ := g1
  obtain ⟨a1, a2, a3, a4, a5, a6, a7, a8, a9, a10, a11, a12, a13⟩ := h
  obtain ⟨c1, c2, c3, c4, c5, c6, c7, c8⟩ := a1
  have b1 : B 1 = nI (cN (A, B) 1) := c2.1
  have b0 : B 0 = nI (cN (A, B) 0) := c1.1
  have hn : cN (A, B) 1 < 16 := by
    rw [show (A, B).2 1 = nI (cN (A, B) 1) from b1, Int32.lt_iff_toInt_lt, nI_toInt (by have := c2.2; omega)] at g2
    have e16 : (16 : Int32).toInt = 16 := rfl
    omega
  have e1 : B 1 + 1 = nI (cN (A, B) 1 + 1) := by rw [b1, nI_1]
  generalize hB' : up1 (up1 B 56 0) 1 (B 1 + 1) = B'
  have eN : ∀ A', cN (A', B') 1 = cN (A, B) 1 + 1 := fun A' => by rw [← hB', e1]; exact cN_at (by omega)
  have eB : ∀ x, x ≠ 1 → x ≠ 56 → B' x = B x := fun x x1 x2 => by rw [← hB']; exact (up1_n x1).trans (up1_n x2)
  have eM : ∀ A' x, x ≠ 1 → x ≠ 56 → cN (A', B') x = cN (A, B) x := fun A' x x1 x2 => congrArg Int32.toNatClampNeg (eB x x1 x2)
  have eB1 : B' 1 = B 1 + 1 := by rw [← hB']; exact up1_s
  refine ⟨?_, eM _ 27 (by decide) (by decide)⟩
  show IW (up2 (up2 (up2 (up2 (up2 (up2 (up2 (up2 (up2 A 2 (cN (A, B) 1) a) 3 (cN (A, B) 1) (B 0)) 4 (cN (A, B) 1) b) 5 (cN (A, B) 1) c) 6 (cN (A, B) 1) d) 7 (cN (A, B) 1) e) 8 (cN (A, B) 1) (mLeast (A, B))) 9 (cN (A, B) 1) (-1)) 10 (cN (A, B) 1) (-1), B')
  generalize hn9 : cN (A, B) 1 = n at *
  generalize mLeast (A, B) = w
  have r : ∀ f, f < 2 ∨ 10 < f → up2 (up2 (up2 (up2 (up2 (up2 (up2 (up2 (up2 A 2 n a) 3 n (B 0)) 4 n b) 5 n c) 6 n d) 7 n e) 8 n w) 9 n (-1)) 10 n (-1) f = A f := fun f hf => (up2_f (by omega)).trans ((up2_f (by omega)).trans ((up2_f (by omega)).trans ((up2_f (by omega)).trans ((up2_f (by omega)).trans ((up2_f (by omega)).trans ((up2_f (by omega)).trans ((up2_f (by omega)).trans (up2_f (by omega)))))))))
  have ro : ∀ f j, j ≠ n → up2 (up2 (up2 (up2 (up2 (up2 (up2 (up2 (up2 A 2 n a) 3 n (B 0)) 4 n b) 5 n c) 6 n d) 7 n e) 8 n w) 9 n (-1)) 10 n (-1) f j = A f j := fun f j hj => (up2_n2 hj).trans ((up2_n2 hj).trans ((up2_n2 hj).trans ((up2_n2 hj).trans ((up2_n2 hj).trans ((up2_n2 hj).trans ((up2_n2 hj).trans ((up2_n2 hj).trans (up2_n2 hj))))))))
  have r10 : up2 (up2 (up2 (up2 (up2 (up2 (up2 (up2 (up2 A 2 n a) 3 n (B 0)) 4 n b) 5 n c) 6 n d) 7 n e) 8 n w) 9 n (-1)) 10 n (-1) 10 n = -1 := up2_s
  have r6 : up2 (up2 (up2 (up2 (up2 (up2 (up2 (up2 (up2 A 2 n a) 3 n (B 0)) 4 n b) 5 n c) 6 n d) 7 n e) 8 n w) 9 n (-1)) 10 n (-1) 6 n = d := (up2_n1 (by decide)).trans ((up2_n1 (by decide)).trans ((up2_n1 (by decide)).trans ((up2_n1 (by decide)).trans up2_s)))
  have r4 : up2 (up2 (up2 (up2 (up2 (up2 (up2 (up2 (up2 A 2 n a) 3 n (B 0)) 4 n b) 5 n c) 6 n d) 7 n e) 8 n w) 9 n (-1)) 10 n (-1) 4 n = b := (up2_n1 (by decide)).trans ((up2_n1 (by decide)).trans ((up2_n1 (by decide)).trans ((up2_n1 (by decide)).trans ((up2_n1 (by decide)).trans ((up2_n1 (by decide)).trans up2_s)))))
  have r3 : up2 (up2 (up2 (up2 (up2 (up2 (up2 (up2 (up2 A 2 n a) 3 n (B 0)) 4 n b) 5 n c) 6 n d) 7 n e) 8 n w) 9 n (-1)) 10 n (-1) 3 n = B 0 := (up2_n1 (by decide)).trans ((up2_n1 (by decide)).trans ((up2_n1 (by decide)).trans ((up2_n1 (by decide)).trans ((up2_n1 (by decide)).trans ((up2_n1 (by decide)).trans ((up2_n1 (by decide)).trans up2_s))))))
  have r2 : up2 (up2 (up2 (up2 (up2 (up2 (up2 (up2 (up2 A 2 n a) 3 n (B 0)) 4 n b) 5 n c) 6 n d) 7 n e) 8 n w) 9 n (-1)) 10 n (-1) 2 n = a := (up2_n1 (by decide)).trans ((up2_n1 (by decide)).trans ((up2_n1 (by decide)).trans ((up2_n1 (by decide)).trans ((up2_n1 (by decide)).trans ((up2_n1 (by decide)).trans ((up2_n1 (by decide)).trans ((up2_n1 (by decide)).trans up2_s)))))))
  generalize up2 (up2 (up2 (up2 (up2 (up2 (up2 (up2 (up2 A 2 n a) 3 n (B 0)) 4 n b) 5 n c) 6 n d) 7 n e) 8 n w) 9 n (-1)) 10 n (-1) = A' at r ro r10 r6 r4 r3 r2 ⊢
  obtain ⟨q1, q2, q3, q4⟩ := a7
  have e43 := eM A' 43 (by decide) (by decide)
  have e20 := eM A' 20 (by decide) (by decide)
  have e0 := eM A' 0 (by decide) (by decide)
  have e27 := eM A' 27 (by decide) (by decide)
  have e38 := eM A' 38 (by decide) (by decide)
  have zN : rN (A, B) n = 0 := by
    have := (q1 n (Nat.le_of_eq hn9) hn).2.1
    show (A 34 n).toNatClampNeg = 0
    rw [show A 34 n = 0 from this]; rfl
  have rr : ∀ k, rN (A', B') k = rN (A, B) k := fun k => congrArg Int32.toNatClampNeg (congrFun (r 34 (by decide)) k)
  have lt : ∀ {k : Nat}, k < cN (A', B') 1 → k = n ∨ k < n := fun {k} hk => by rw [eN A'] at hk; omega
  refine ⟨⟨⟨(eB 0 (by decide) (by decide)).trans (c1.1.trans (congrArg nI e0.symm)), by rw [e0]; exact c1.2⟩, ⟨by rw [eN A']; exact eB1.trans e1, by rw [eN A']; omega⟩, ⟨(eB 20 (by decide) (by decide)).trans (c3.1.trans (congrArg nI e20.symm)), by rw [e20]; exact c3.2⟩, ⟨(eB 27 (by decide) (by decide)).trans (c4.1.trans (congrArg nI e27.symm)), by rw [e27]; exact c4.2⟩, ⟨(eB 38 (by decide) (by decide)).trans (c5.1.trans (congrArg nI e38.symm)), by rw [e38]; exact c5.2⟩, ⟨(eB 43 (by decide) (by decide)).trans (c6.1.trans (congrArg nI e43.symm)), by rw [e43]; exact c6.2⟩, fun k hk => ?_, fun k hk => ?_⟩, fun j hj => ?_, fun f j hf hj => ?_, IO_of a4 (r 42 (by decide)) e38, fun k hk => ?_, ⟨fun k hk => ?_, fun x hx => ?_⟩, ⟨fun k hk hk2 => ?_, fun x hx hx2 => ?_, fun i hi => ?_, fun i hi => ?_⟩, JT_of a8 (r 28 (by decide)) (r 29 (by decide)) (r 30 (by decide)) (Nat.le_of_eq e0.symm) e27, fun k i hk hi => ?_, fun k hk => ?_, ⟨fun k j hk hj hA => ?_, fun j k hj hk h47 h44 => ?_⟩, fun x hx => ?_, IBd_of a13 (r 23 (by decide)) e20⟩
  · rw [rr k]
    have := c7 k hk
    rw [show (A', B').1 34 k = A 34 k from congrFun (r 34 (by decide)) k]
    exact this
  · rw [e43]
    rcases lt hk with rfl | hk'
    · exact Or.inl r10
    · rw [show (A', B').1 10 k = A 10 k from ro 10 k (by omega)]
      exact c8 k hk'
  · rw [e43] at hj
    obtain ⟨⟨k, k1, k2⟩, x, x1, x2⟩ := a2 j hj
    exact ⟨⟨k, by rw [eN A']; rw [hn9] at k1; omega, (congrFun (r 44 (by decide)) j).trans k2⟩, x, by rw [e20]; exact x1, (congrFun (r 45 (by decide)) j).trans x2⟩
  · have e : A' f = A f := r f (Classical.byContradiction fun z => by
      have : f = 2 ∨ f = 3 ∨ f = 4 ∨ f = 5 ∨ f = 6 ∨ f = 7 ∨ f = 8 ∨ f = 9 ∨ f = 10 := by omega
      rcases this with rfl | rfl | rfl | rfl | rfl | rfl | rfl | rfl | rfl <;> exact absurd hf (by decide))
    show A' f j = 0 ∨ A' f j = 1
    rw [e]; exact a3 f j hf hj
  · show 0 ≤ A' 4 k ∧ A' 4 k ≤ 15
    rcases lt hk with rfl | hk'
    · rw [r4]; exact ib
    · rw [ro 4 k (by omega)]; exact a5 k (by rw [hn9]; exact hk')
  · show 0 ≤ A' 6 k ∧ A' 6 k ≤ 50
    rcases lt hk with rfl | hk'
    · rw [r6]; exact id
    · rw [ro 6 k (by omega)]; exact a6.1 k (by rw [hn9]; exact hk')
  · show 0 ≤ A' 21 x ∧ A' 21 x ≤ 50
    rw [r 21 (by decide)]
    exact a6.2 x (e20 ▸ hx)
  · rw [eN A'] at hk
    obtain ⟨p1, p2, p3⟩ := q1 k (by rw [hn9]; omega) hk2
    exact ⟨fun f f1 f2 => (congrFun (r f (by omega)) k).trans (p1 f f1 f2), (congrFun (r 34 (by decide)) k).trans p2, fun y hy => (congrFun (r 19 (by decide)) _).trans (p3 y hy)⟩
  · obtain ⟨p1, p2, p3⟩ := q2 x (e20 ▸ hx) hx2
    exact ⟨(congrFun (r 24 (by decide)) x).trans p1, (congrFun (r 25 (by decide)) x).trans p2, (congrFun (r 26 (by decide)) x).trans p3⟩
  · obtain ⟨x, x1, x2⟩ := q3 i (e27 ▸ hi)
    exact ⟨x, e20 ▸ x1, (congrFun (r 28 (by decide)) i).trans x2⟩
  · obtain ⟨x, x1, x2⟩ := q4 i (e38 ▸ hi)
    exact ⟨x, by rw [eN A']; rw [hn9] at x1; omega, (congrFun (r 39 (by decide)) i).trans x2⟩
  · rw [rr k] at hi
    rcases lt hk with rfl | hk'
    · rw [zN] at hi; exact absurd hi (Nat.not_lt_zero i)
    · show 0 ≤ A' 37 (30 * k + i)
      rw [r 37 (by decide)]
      exact a9 k i (by rw [hn9]; exact hk') hi
  · rcases lt hk with rfl | hk'
    · refine ⟨?_, cN (A, B) 0, Nat.le_of_eq e0.symm, r3.trans b0⟩
      obtain ⟨x, x1, rfl⟩ := nI_of (Int32.not_lt.mpr ia.1)
      refine ⟨x, ?_, r2⟩
      have h2 := ia.2
      rw [Int32.le_iff_toInt_le, nI_toInt x1] at h2
      have e7 : (7000 : Int32).toInt = 7000 := rfl
      omega
    · obtain ⟨⟨x, x1, x2⟩, s, s1, s2⟩ := a10 k (by rw [hn9]; exact hk')
      exact ⟨⟨x, x1, (ro 2 k (by omega)).trans x2⟩, s, by rw [e0]; exact s1, (ro 3 k (by omega)).trans s2⟩
  · rw [e43] at hj
    have hj9 : cN (A, B) 43 ≤ 100 := c6.2
    rcases lt hk with rfl | hk'
    · rw [show (A', B').1 10 k = -1 from r10] at hA
      exact absurd hA.symm (nI_ne_m1 (by omega))
    · rw [show (A', B').1 10 k = A 10 k from ro 10 k (by omega)] at hA
      obtain ⟨x1, x2⟩ := a11.1 k j (by rw [hn9]; exact hk') hj hA
      exact ⟨(congrFun (r 44 (by decide)) j).trans x1, (congrFun (r 47 (by decide)) j).trans x2⟩
  · rw [e43] at hj
    have h47' : A 47 j = -1 := (congrFun (r 47 (by decide)) j).symm.trans h47
    have h44' : A 44 j = nI k := (congrFun (r 44 (by decide)) j).symm.trans h44
    rcases lt hk with rfl | hk'
    · obtain ⟨⟨k', k1, k2⟩, -⟩ := a2 j hj
      rw [hn9] at k1
      have z := congrArg Int32.toNatClampNeg (h44'.symm.trans k2)
      rw [nI_clamp (by omega), nI_clamp (by omega)] at z
      omega
    · exact (ro 10 k (by omega)).trans (a11.2 j k hj (by rw [hn9]; exact hk') h47' h44')
  · rw [e20] at hx
    show A' 24 x = fsum (cOwT (A', B') x) (cN (A', B') 43)
    rw [r 24 (by decide), e43, show A 24 x = fsum (cOwT (A, B) x) (cN (A, B) 43) from a12 x hx]
    refine fsum_congr _ fun i hi => ?_
    unfold cOwT
    rw [show (A', B').1 45 = A 45 from r 45 (by decide), show (A', B').2 0 = B 0 from eB 0 (by decide) (by decide)]
    obtain ⟨⟨k, k1, k2⟩, -⟩ := a2 i hi
    have ek : nx (A 44 i) = k := by
      rw [show A 44 i = nI k from k2]
      exact nI_clamp (by have := c2.2; omega)
    rw [cDues_at (σ := (A, B)) (σ' := (A', B')) (congrFun (r 47 (by decide)) i) (congrFun (r 46 (by decide)) i) (congrFun (r 44 (by decide)) i) (fun f hf => by
      show A' f (nx (A 44 i)) = A f (nx (A 44 i))
      rw [ek]; exact ro f k (by rw [hn9] at k1; omega))]

