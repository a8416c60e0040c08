/-! WHAT HOLDS BETWEEN CALLS, on: a home, an order, a report. -/
theorem IW_home {σ : aS} {a b c : Int32} (h : IW σ) (ht : tHome σ a b c = 0) : IW (oHome σ a b c).2 ∧ cN (oHome σ a b c).2 27 = cN σ 27 := by
  obtain ⟨A, B⟩ := σ
  rw [oHome, if_pos ht]
  obtain ⟨g1, g2, -⟩ := gT_x ht
  rw [pI9_ne] at g1
  rw [bI_ne] at g2
  obtain ⟨ia, ib, ic⟩ := g1
  obtain ⟨a1, a2, a3, a4, a5, a6, a7, a8, a9, a10, a11, a12, a13⟩ := h
  obtain ⟨c1, c2, c3, c4, c5, c6, c7, c8⟩ := a1
  have b1 : B 20 = nI (cN (A, B) 20) := c3.1
  have hn : cN (A, B) 20 < 10 := by
    rw [show (A, B).2 20 = nI (cN (A, B) 20) from b1, Int32.lt_iff_toInt_lt, nI_toInt (by have := c3.2; omega)] at g2
    have e16 : (10 : Int32).toInt = 10 := rfl
    omega
  have e1 : B 20 + 1 = nI (cN (A, B) 20 + 1) := by rw [b1, nI_1]
  generalize hB' : up1 (up1 B 56 0) 20 (B 20 + 1) = B'
  have eN : ∀ A', cN (A', B') 20 = cN (A, B) 20 + 1 := fun A' => by rw [← hB', e1]; exact cN_at (by omega)
  have eB : ∀ x, x ≠ 20 → x ≠ 56 → B' x = B x := fun x x1 x2 => by rw [← hB']; exact (up1_n x1).trans (up1_n x2)
  have eM : ∀ A' x, x ≠ 20 → x ≠ 56 → cN (A', B') x = cN (A, B) x := fun A' x x1 x2 => congrArg Int32.toNatClampNeg (eB x x1 x2)
  have eB1 : B' 20 = B 20 + 1 := by rw [← hB']; exact up1_s
  refine ⟨?_, eM _ 27 (by decide) (by decide)⟩
  show IW (up2 (up2 (up2 A 21 (cN (A, B) 20) a) 22 (cN (A, B) 20) b) 23 (cN (A, B) 20) c, B')
  generalize hn9 : cN (A, B) 20 = n at *
  have r : ∀ f, f < 21 ∨ 23 < f → up2 (up2 (up2 A 21 n a) 22 n b) 23 n c f = A f := fun f hf => (up2_f (by omega)).trans ((up2_f (by omega)).trans (up2_f (by omega)))
  have ro : ∀ f j, j ≠ n → up2 (up2 (up2 A 21 n a) 22 n b) 23 n c f j = A f j := fun f j hj => (up2_n2 hj).trans ((up2_n2 hj).trans (up2_n2 hj))
  have r23 : up2 (up2 (up2 A 21 n a) 22 n b) 23 n c 23 n = c := up2_s
  have r21 : up2 (up2 (up2 A 21 n a) 22 n b) 23 n c 21 n = a := (up2_n1 (by decide)).trans ((up2_n1 (by decide)).trans up2_s)
  generalize up2 (up2 (up2 A 21 n a) 22 n b) 23 n c = A' at r ro r21 r23 ⊢
  obtain ⟨q1, q2, q3, q4⟩ := a7
  have e43 := eM A' 43 (by decide) (by decide)
  have eC := eM A' 1 (by decide) (by decide)
  have e0 := eM A' 0 (by decide) (by decide)
  have e27 := eM A' 27 (by decide) (by decide)
  have e38 := eM A' 38 (by decide) (by decide)
  have lt : ∀ {k : Nat}, k < cN (A', B') 20 → k = n ∨ k < n := fun {k} hk => by rw [eN A'] at hk; omega
  refine ⟨⟨⟨(eB 0 (by decide) (by decide)).trans (c1.1.trans (congrArg nI e0.symm)), by rw [e0]; exact c1.2⟩, ⟨(eB 1 (by decide) (by decide)).trans (c2.1.trans (congrArg nI eC.symm)), by rw [eC]; exact c2.2⟩, ⟨by rw [eN A']; exact eB1.trans e1, by rw [eN A']; omega⟩, ⟨(eB 27 (by decide) (by decide)).trans (c4.1.trans (congrArg nI e27.symm)), by rw [e27]; exact c4.2⟩, ⟨(eB 38 (by decide) (by decide)).trans (c5.1.trans (congrArg nI e38.symm)), by rw [e38]; exact c5.2⟩, ⟨(eB 43 (by decide) (by decide)).trans (c6.1.trans (congrArg nI e43.symm)), by rw [e43]; exact c6.2⟩, fun k hk => ?_, fun k hk => ?_⟩, fun j hj => ?_, fun f j hf hj => ?_, IO_of a4 (r 42 (by decide)) e38, IN_of a5 (r 4 (by decide)) eC, ⟨fun k hk => ?_, fun x hx => ?_⟩, ⟨fun k hk hk2 => ?_, fun x hx hx2 => ?_, fun i hi => ?_, fun i hi => ?_⟩, JT_of a8 (r 28 (by decide)) (r 29 (by decide)) (r 30 (by decide)) (Nat.le_of_eq e0.symm) e27, IR_of a9 (r 37 (by decide)) (r 34 (by decide)) eC, IA_of a10 (r 2 (by decide)) (r 3 (by decide)) eC (Nat.le_of_eq e0.symm), IE_of a11 (r 10 (by decide)) (r 44 (by decide)) (r 47 (by decide)) eC e43, fun x hx => ?_, fun x hx => ?_⟩
  · have e := c7 k hk
    unfold rN at e ⊢
    rw [show (A', B').1 34 = A 34 from r 34 (by decide)]
    exact e
  · rw [e43, show (A', B').1 10 = A 10 from r 10 (by decide)]
    exact c8 k (eC ▸ hk)
  · rw [e43] at hj
    obtain ⟨⟨k, k1, k2⟩, x, x1, x2⟩ := a2 j hj
    exact ⟨⟨k, by rw [eC]; exact k1, (congrFun (r 44 (by decide)) j).trans k2⟩, x, by rw [eN A']; rw [hn9] at x1; omega, (congrFun (r 45 (by decide)) j).trans x2⟩
  · have e : A' f = A f := r f (Classical.byContradiction fun z => by
      have : f = 21 ∨ f = 22 ∨ f = 23 := by omega
      rcases this with rfl | rfl | rfl <;> exact absurd hf (by decide))
    show A' f j = 0 ∨ A' f j = 1
    rw [e]; exact a3 f j hf hj
  · show 0 ≤ A' 6 k ∧ A' 6 k ≤ 50
    rw [r 6 (by decide)]
    exact a6.1 k (eC ▸ hk)
  · show 0 ≤ A' 21 x ∧ A' 21 x ≤ 50
    rcases lt hx with rfl | hx'
    · rw [r21]; exact ia
    · rw [ro 21 x (by omega)]; exact a6.2 x (by rw [hn9]; exact hx')
  · obtain ⟨p1, p2, p3⟩ := q1 k (eC ▸ hk) hk2
    exact ⟨fun f f1 f2 => (congrFun (r f (by omega)) k).trans (p1 f f1 f2), (congrFun (r 34 (by decide)) k).trans p2, fun y hy => (congrFun (r 19 (by decide)) _).trans (p3 y hy)⟩
  · rw [eN A'] at hx
    obtain ⟨p1, p2, p3⟩ := q2 x (by rw [hn9]; omega) hx2
    exact ⟨(congrFun (r 24 (by decide)) x).trans p1, (congrFun (r 25 (by decide)) x).trans p2, (congrFun (r 26 (by decide)) x).trans p3⟩
  · obtain ⟨x, x1, x2⟩ := q3 i (e27 ▸ hi)
    exact ⟨x, by rw [eN A']; rw [hn9] at x1; omega, (congrFun (r 28 (by decide)) i).trans x2⟩
  · obtain ⟨x, x1, x2⟩ := q4 i (e38 ▸ hi)
    exact ⟨x, eC.symm ▸ x1, (congrFun (r 39 (by decide)) i).trans x2⟩
  · show A' 24 x = fsum (cOwT (A', B') x) (cN (A', B') 43)
    have hs : fsum (cOwT (A', B') x) (cN (A', B') 43) = fsum (cOwT (A, B) x) (cN (A, B) 43) := by
      rw [e43]
      refine fsum_congr _ fun i hi => ?_
      unfold cOwT
      rw [show (A', B').1 45 = A 45 from r 45 (by decide), show (A', B').2 0 = B 0 from eB 0 (by decide) (by decide), cDues_congr (σ := (A, B)) (σ' := (A', B')) (r 47 (by decide)) (r 46 (by decide)) (r 4 (by decide)) (r 44 (by decide)) (r 3 (by decide)) (r 2 (by decide))]
    rw [hs, r 24 (by decide)]
    rcases lt hx with rfl | hx'
    · rw [show A 24 x = 0 from (q2 x (Nat.le_of_eq hn9) hn).1]
      refine (fsum_z _ fun i hi => ?_).symm
      refine if_neg fun z => ?_
      obtain ⟨-, y, y1, y2⟩ := a2 i hi
      rw [hn9] at y1
      have z2 := congrArg Int32.toNatClampNeg (z.symm.trans y2)
      rw [nI_clamp (by omega), nI_clamp (by omega)] at z2
      omega
    · exact a12 x (by rw [hn9]; exact hx')
  · show 1 ≤ A' 23 x ∧ A' 23 x ≤ 5
    rcases lt hx with rfl | hx'
    · rw [r23]; exact ic
    · rw [ro 23 x (by omega)]; exact a13 x (by rw [hn9]; exact hx')
theorem IW_order {σ : aS} {x kd fr dy : Int32} (h : IW σ) (ht : tOrder σ x kd fr dy = 0) : IW (oOrder σ x kd fr dy).2 ∧ cN (oOrder σ x kd fr dy).2 27 = cN σ 27 := by
  have hI0 := h.1
  obtain ⟨A, B⟩ := σ
  rw [oOrder, if_pos ht]
  obtain ⟨g1, g2, g3⟩ := gT_x ht
  rw [bI_ne] at g1 g3
  rw [pI9_ne] at g2
  obtain ⟨w, w1, rfl⟩ := ch_ix hI0 g1
  obtain ⟨ikd, ifr, idy⟩ := g2
  obtain ⟨a1, a2, a3, a4, a5, a6, a7, a8, a9, a10, a11, a12, a13⟩ := h
  obtain ⟨c1, c2, c3, c4, c5, c6, c7, c8⟩ := a1
  have b1 : B 38 = nI (cN (A, B) 38) := c5.1
  have hn : cN (A, B) 38 < 60 := by
    rw [show (A, B).2 38 = nI (cN (A, B) 38) from b1, Int32.lt_iff_toInt_lt, nI_toInt (by have := c5.2; omega)] at g3
    have e16 : (60 : Int32).toInt = 60 := rfl
    omega
  have e1 : B 38 + 1 = nI (cN (A, B) 38 + 1) := by rw [b1, nI_1]
  have hend : fr + dy - 1 ≤ 30000 := by
    have h0 : (0 : Int32) ≤ fr := by
      refine Int32.le_trans ?_ ifr.1
      rw [show (A, B).2 0 = nI (cN (A, B) 0) from c1.1]
      exact nI_pos' (by have := c1.2; omega)
    obtain ⟨f9, f1, rfl⟩ := nI_of (Int32.not_lt.mpr h0)
    obtain ⟨d9, d1, rfl⟩ := nI_of (Int32.not_lt.mpr (Int32.le_trans (by decide) idy.1))
    have u1 := ifr.2
    have u2 := idy.2
    have u3 := idy.1
    rw [Int32.le_iff_toInt_le, nI_toInt f1] at u1
    rw [Int32.le_iff_toInt_le, nI_toInt d1] at u2
    rw [Int32.le_iff_toInt_le, nI_toInt d1] at u3
    have k1 : (20000 : Int32).toInt = 20000 := rfl
    have k2 : (7000 : Int32).toInt = 7000 := rfl
    have k3 : (1 : Int32).toInt = 1 := rfl
    rw [nI_add, show (1 : Int32) = nI 1 from rfl, Int32.le_iff_toInt_le, pk_sub_toInt (by omega) (by decide)]
    have k4 : (30000 : Int32).toInt = 30000 := rfl
    omega
  generalize hB' : up1 (up1 B 56 0) 38 (B 38 + 1) = B'
  have eN : ∀ A', cN (A', B') 38 = cN (A, B) 38 + 1 := fun A' => by rw [← hB', e1]; exact cN_at (by omega)
  have eB : ∀ x, x ≠ 38 → x ≠ 56 → B' x = B x := fun x x1 x2 => by rw [← hB']; exact (up1_n x1).trans (up1_n x2)
  have eM : ∀ A' x, x ≠ 38 → x ≠ 56 → cN (A', B') x = cN (A, B) x := fun A' x x1 x2 => congrArg Int32.toNatClampNeg (eB x x1 x2)
  have eB1 : B' 38 = B 38 + 1 := by rw [← hB']; exact up1_s
  refine ⟨?_, eM _ 27 (by decide) (by decide)⟩
  show IW (up2 (up2 (up2 (up2 A 39 (cN (A, B) 38) (nI w)) 40 (cN (A, B) 38) kd) 41 (cN (A, B) 38) fr) 42 (cN (A, B) 38) (fr + dy - 1), B')
  generalize hn9 : cN (A, B) 38 = n at *
  generalize fr + dy - 1 = en at hend ⊢
  have r : ∀ f, f < 39 ∨ 42 < f → up2 (up2 (up2 (up2 A 39 n (nI w)) 40 n kd) 41 n fr) 42 n en f = A f := fun f hf => (up2_f (by omega)).trans ((up2_f (by omega)).trans ((up2_f (by omega)).trans (up2_f (by omega))))
  have ro : ∀ f j, j ≠ n → up2 (up2 (up2 (up2 A 39 n (nI w)) 40 n kd) 41 n fr) 42 n en f j = A f j := fun f j hj => (up2_n2 hj).trans ((up2_n2 hj).trans ((up2_n2 hj).trans (up2_n2 hj)))
  have r42 : up2 (up2 (up2 (up2 A 39 n (nI w)) 40 n kd) 41 n fr) 42 n en 42 n = en := up2_s
  have r39 : up2 (up2 (up2 (up2 A 39 n (nI w)) 40 n kd) 41 n fr) 42 n en 39 n = nI w := (up2_n1 (by decide)).trans ((up2_n1 (by decide)).trans ((up2_n1 (by decide)).trans up2_s))
  generalize up2 (up2 (up2 (up2 A 39 n (nI w)) 40 n kd) 41 n fr) 42 n en = A' at r ro r39 r42 ⊢
  obtain ⟨q1, q2, q3, q4⟩ := a7
  have e43 := eM A' 43 (by decide) (by decide)
  have eC := eM A' 1 (by decide) (by decide)
  have e20 := eM A' 20 (by decide) (by decide)
  have e0 := eM A' 0 (by decide) (by decide)
  have e27 := eM A' 27 (by decide) (by decide)
  have lt : ∀ {k : Nat}, k < cN (A', B') 38 → k = n ∨ k < n := fun {k} hk => by rw [eN A'] at hk; omega
  refine ⟨⟨⟨(eB 0 (by decide) (by decide)).trans (c1.1.trans (congrArg nI e0.symm)), by rw [e0]; exact c1.2⟩, ⟨(eB 1 (by decide) (by decide)).trans (c2.1.trans (congrArg nI eC.symm)), by rw [eC]; exact c2.2⟩, ⟨(eB 20 (by decide) (by decide)).trans (c3.1.trans (congrArg nI e20.symm)), by rw [e20]; exact c3.2⟩, ⟨(eB 27 (by decide) (by decide)).trans (c4.1.trans (congrArg nI e27.symm)), by rw [e27]; exact c4.2⟩, ⟨by rw [eN A']; exact eB1.trans e1, by rw [eN A']; omega⟩, ⟨(eB 43 (by decide) (by decide)).trans (c6.1.trans (congrArg nI e43.symm)), by rw [e43]; exact c6.2⟩, fun k hk => ?_, fun k hk => ?_⟩, fun j hj => ?_, fun f j hf hj => ?_, fun j hj => ?_, IN_of a5 (r 4 (by decide)) eC, IP_of a6 (r 6 (by decide)) (r 21 (by decide)) eC e20, ⟨fun k hk hk2 => ?_, fun x hx hx2 => ?_, fun i hi => ?_, fun i hi => ?_⟩, JT_of a8 (r 28 (by decide)) (r 29 (by decide)) (r 30 (by decide)) (Nat.le_of_eq e0.symm) e27, IR_of a9 (r 37 (by decide)) (r 34 (by decide)) eC, IA_of a10 (r 2 (by decide)) (r 3 (by decide)) eC (Nat.le_of_eq e0.symm), IE_of a11 (r 10 (by decide)) (r 44 (by decide)) (r 47 (by decide)) eC e43, ID_of a12 (r 47 (by decide)) (r 46 (by decide)) (r 4 (by decide)) (r 44 (by decide)) (r 3 (by decide)) (r 2 (by decide)) (r 45 (by decide)) (r 24 (by decide)) (eB 0 (by decide) (by decide)) e20 e43, IBd_of a13 (r 23 (by decide)) e20⟩
  · have e := c7 k hk
    unfold rN at e ⊢
    rw [show (A', B').1 34 = A 34 from r 34 (by decide)]
    exact e
  · rw [e43, show (A', B').1 10 = A 10 from r 10 (by decide)]
    exact c8 k (eC ▸ hk)
  · rw [e43] at hj
    obtain ⟨⟨k, k1, k2⟩, x, x1, x2⟩ := a2 j hj
    exact ⟨⟨k, by rw [eC]; exact k1, (congrFun (r 44 (by decide)) j).trans k2⟩, x, by rw [e20]; exact x1, (congrFun (r 45 (by decide)) j).trans x2⟩
  · have e : A' f = A f := r f (Classical.byContradiction fun z => by
      have : f = 39 ∨ f = 40 ∨ f = 41 ∨ f = 42 := by omega
      rcases this with rfl | rfl | rfl | rfl <;> exact absurd hf (by decide))
    show A' f j = 0 ∨ A' f j = 1
    rw [e]; exact a3 f j hf hj
  · show A' 42 j ≤ 30000
    rcases lt hj with rfl | hj'
    · rw [r42]; exact hend
    · rw [ro 42 j (by omega)]; exact a4 j (by rw [hn9]; exact hj')
  · obtain ⟨p1, p2, p3⟩ := q1 k (eC ▸ hk) hk2
    exact ⟨fun f f1 f2 => (congrFun (r f (by omega)) k).trans (p1 f f1 f2), (congrFun (r 34 (by decide)) k).trans p2, fun y hy => (congrFun (r 19 (by decide)) _).trans (p3 y hy)⟩
  · obtain ⟨p1, p2, p3⟩ := q2 x (e20 ▸ hx) hx2
    exact ⟨(congrFun (r 24 (by decide)) x).trans p1, (congrFun (r 25 (by decide)) x).trans p2, (congrFun (r 26 (by decide)) x).trans p3⟩
  · obtain ⟨x, x1, x2⟩ := q3 i (e27 ▸ hi)
    exact ⟨x, e20.symm ▸ x1, (congrFun (r 28 (by decide)) i).trans x2⟩
  · rcases lt hi with rfl | hi'
    · exact ⟨w, eC.symm ▸ w1, r39⟩
    · obtain ⟨x, x1, x2⟩ := q4 i (by rw [hn9]; exact hi')
      exact ⟨x, eC.symm ▸ x1, (ro 39 i (by omega)).trans x2⟩

