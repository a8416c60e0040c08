/-! WHAT HOLDS BETWEEN CALLS, all of it, and that the calls keep it. -/
def IW (σ : aS) : Prop := IC σ ∧ IS σ ∧ IZ σ ∧ IO σ ∧ IN σ ∧ IP σ ∧ IQ σ ∧ JT σ ∧ IR σ ∧ IA σ ∧ IE σ ∧ ID σ ∧ IBd σ
theorem IN_of {σ σ' : aS} (h : IN σ) (h4 : σ'.1 4 = σ.1 4) (n1 : cN σ' 1 = cN σ 1) : IN σ' := fun k hk => by rw [h4]; exact h k (n1 ▸ hk)
theorem IP_of {σ σ' : aS} (h : IP σ) (h6 : σ'.1 6 = σ.1 6) (h21 : σ'.1 21 = σ.1 21) (n1 : cN σ' 1 = cN σ 1) (n20 : cN σ' 20 = cN σ 20) : IP σ' := ⟨fun k hk => by rw [h6]; exact h.1 k (n1 ▸ hk), fun k hk => by rw [h21]; exact h.2 k (n20 ▸ hk)⟩
theorem JT_of {σ σ' : aS} (h : JT σ) (h28 : σ'.1 28 = σ.1 28) (h29 : σ'.1 29 = σ.1 29) (h30 : σ'.1 30 = σ.1 30) (n0 : cN σ 0 ≤ cN σ' 0) (n27 : cN σ' 27 = cN σ 27) : JT σ' := ⟨fun i hi => by
  obtain ⟨d, d1, d2⟩ := h.1 i (n27 ▸ hi)
  exact ⟨d, Nat.le_trans d1 n0, by rw [h30]; exact d2⟩, fun i j hij hj a b => by rw [h30]; exact h.2 i j hij (n27 ▸ hj) (by rw [← h28]; exact a) (by rw [← h29]; exact b)⟩
theorem IR_of {σ σ' : aS} (h : IR σ) (h37 : σ'.1 37 = σ.1 37) (h34 : σ'.1 34 = σ.1 34) (n1 : cN σ' 1 = cN σ 1) : IR σ' := fun k i hk hi => by
  rw [h37]
  refine h k i (n1 ▸ hk) ?_
  unfold rN at hi ⊢
  rw [h34] at hi
  exact hi
theorem IA_of {σ σ' : aS} (h : IA σ) (h2 : σ'.1 2 = σ.1 2) (h3 : σ'.1 3 = σ.1 3) (n1 : cN σ' 1 = cN σ 1) (n0 : cN σ 0 ≤ cN σ' 0) : IA σ' := fun k hk => by
  obtain ⟨a, s, s1, s2⟩ := h k (n1 ▸ hk)
  exact ⟨by rw [h2]; exact a, s, Nat.le_trans s1 n0, by rw [h3]; exact s2⟩
theorem IE_of {σ σ' : aS} (h : IE σ) (h10 : σ'.1 10 = σ.1 10) (h44 : σ'.1 44 = σ.1 44) (h47 : σ'.1 47 = σ.1 47) (n1 : cN σ' 1 = cN σ 1) (n43 : cN σ' 43 = cN σ 43) : IE σ' := by
  unfold IE
  rw [h10, h44, h47, n1, n43]
  exact h
theorem IBd_of {σ σ' : aS} (h : IBd σ) (h23 : σ'.1 23 = σ.1 23) (n20 : cN σ' 20 = cN σ 20) : IBd σ' := fun k hk => by rw [h23]; exact h k (n20 ▸ hk)
theorem IQ_A {A : Nat → Nat → Int32} {B : Nat → Int32} {f j : Nat} {v : Int32} (h : IQ (A, B)) (h28 : f ≠ 28) (h39 : f ≠ 39) (hq : (11 ≤ f ∧ f ≤ 18) ∨ f = 34 → j < cN (A, B) 1) (h19 : f = 19 → ∃ k x, k < cN (A, B) 1 ∧ x < 10 ∧ j = 10 * k + x) (h25 : f = 24 ∨ f = 25 ∨ f = 26 → j < cN (A, B) 20) : IQ (up2 A f j v, B) := by
  obtain ⟨q1, q2, q3, q4⟩ := h
  refine ⟨fun k hk hk2 => ?_, fun x hx hx2 => ?_, fun i hi => ?_, fun i hi => ?_⟩
  · obtain ⟨p1, p2, p3⟩ := q1 k hk hk2
    have hk' : cN (A, B) 1 ≤ k := hk
    refine ⟨fun g g1 g2 => ?_, ?_, fun y hy => ?_⟩
    · by_cases e : g = f
      · subst e
        exact (up2_n2 (by have := hq (Or.inl ⟨g1, g2⟩); omega)).trans (p1 g g1 g2)
      · exact (up2_n1 e).trans (p1 g g1 g2)
    · by_cases e : 34 = f
      · subst e
        exact (up2_n2 (by have := hq (Or.inr rfl); omega)).trans p2
      · exact (up2_n1 e).trans p2
    · by_cases e : 19 = f
      · subst e
        obtain ⟨k', x', l1, l2, l3⟩ := h19 rfl
        exact (up2_n2 (by omega)).trans (p3 y hy)
      · exact (up2_n1 e).trans (p3 y hy)
  · obtain ⟨p1, p2, p3⟩ := q2 x hx hx2
    have hx' : cN (A, B) 20 ≤ x := hx
    have key : ∀ g, g = 24 ∨ g = 25 ∨ g = 26 → up2 A f j v g x = A g x := fun g hg => by
      by_cases e : g = f
      · subst e
        exact up2_n2 (by have := h25 hg; omega)
      · exact up2_n1 e
    exact ⟨(key 24 (by decide)).trans p1, (key 25 (by decide)).trans p2, (key 26 (by decide)).trans p3⟩
  · obtain ⟨w, w1, w2⟩ := q3 i hi
    exact ⟨w, w1, (up2_n1 (Ne.symm h28)).trans w2⟩
  · obtain ⟨w, w1, w2⟩ := q4 i hi
    exact ⟨w, w1, (up2_n1 (Ne.symm h39)).trans w2⟩
/-- a write that no other part speaks of -/
theorem IW_A {A : Nat → Nat → Int32} {B : Nat → Int32} {f j : Nat} {v : Int32} (h : IW (A, B)) (hf : f ∉ [34, 10, 44, 45, 42, 4, 6, 21, 28, 39, 30, 29, 37, 2, 3, 47, 46, 24, 23]) (hz : mZ f = true → v = 0 ∨ v = 1) (hq : 11 ≤ f ∧ f ≤ 18 → j < cN (A, B) 1) (h19 : f = 19 → ∃ k x, k < cN (A, B) 1 ∧ x < 10 ∧ j = 10 * k + x) (h25 : f = 25 ∨ f = 26 → j < cN (A, B) 20) : IW (up2 A f j v, B) := by
  obtain ⟨a1, a2, a3, a4, a5, a6, a7, a8, a9, a10, a11, a12, a13⟩ := h
  have ne : ∀ g, g ∈ [34, 10, 44, 45, 42, 4, 6, 21, 28, 39, 30, 29, 37, 2, 3, 47, 46, 24, 23] → g ≠ f := fun g hg e => hf (e ▸ hg)
  have e : ∀ g, g ∈ [34, 10, 44, 45, 42, 4, 6, 21, 28, 39, 30, 29, 37, 2, 3, 47, 46, 24, 23] → up2 A f j v g = A g := fun g hg => up2_f (ne g hg)
  exact ⟨IC_A a1 (ne 34 (by decide)).symm (ne 10 (by decide)).symm, IS_A a2 (ne 44 (by decide)).symm (ne 45 (by decide)).symm, IZ_A a3 hz, IO_of a4 (e 42 (by decide)) rfl, IN_of a5 (e 4 (by decide)) rfl, IP_of a6 (e 6 (by decide)) (e 21 (by decide)) rfl rfl,
    IQ_A a7 (ne 28 (by decide)).symm (ne 39 (by decide)).symm (fun q => q.elim hq fun q => absurd q (ne 34 (by decide)).symm) h19 (fun q => q.elim (fun q => absurd q (ne 24 (by decide)).symm) h25),
    JT_of a8 (e 28 (by decide)) (e 29 (by decide)) (e 30 (by decide)) (Nat.le_refl _) rfl, IR_of a9 (e 37 (by decide)) (e 34 (by decide)) rfl, IA_of a10 (e 2 (by decide)) (e 3 (by decide)) rfl (Nat.le_refl _), IE_of a11 (e 10 (by decide)) (e 44 (by decide)) (e 47 (by decide)) rfl rfl,
    ID_of a12 (e 47 (by decide)) (e 46 (by decide)) (e 4 (by decide)) (e 44 (by decide)) (e 3 (by decide)) (e 2 (by decide)) (e 45 (by decide)) (e 24 (by decide)) rfl rfl rfl, IBd_of a13 (e 23 (by decide)) rfl⟩
/-- a row that none of the parts speaks of -/
theorem IW_F {A : Nat → Nat → Int32} {B : Nat → Int32} {f j : Nat} {v : Int32} (h : IW (A, B)) (hf : f ∈ [5, 7, 8, 9, 22, 31, 32, 33, 35, 36, 40, 41, 48, 49, 50, 51, 52, 54, 55]) : IW (up2 A f j v, B) := by
  have key : ∀ g ∈ [5, 7, 8, 9, 22, 31, 32, 33, 35, 36, 40, 41, 48, 49, 50, 51, 52, 54, 55], g ∉ [34, 10, 44, 45, 42, 4, 6, 21, 28, 39, 30, 29, 37, 2, 3, 47, 46, 24, 23] ∧ mZ g = false ∧ ¬ (11 ≤ g ∧ g ≤ 18) ∧ g ≠ 19 ∧ ¬ (g = 25 ∨ g = 26) := by decide
  obtain ⟨k1, k2, k3, k4, k5⟩ := key f hf
  exact IW_A h k1 (fun q => by rw [k2] at q; exact absurd q (by decide)) (fun q => absurd q k3) (fun q => absurd q k4) (fun q => absurd q k5)
theorem IW_56 {A : Nat → Nat → Int32} {B : Nat → Int32} {v : Int32} (h : IW (A, B)) : IW (A, up1 B 56 v) := h
theorem IW_49 {A : Nat → Nat → Int32} {B : Nat → Int32} {v : Int32} (h : IW (A, B)) : IW (A, up1 B 49 v) := h
theorem IW_sT {σ : aS} {t : Int32} (h : IW σ) : IW (sT σ t) := h
/-! a term told -/
theorem IW_tn {A : Nat → Nat → Int32} {B : Nat → Int32} {w : Nat} {s : Int32} (h : IW (A, B)) (hw : w < cN (A, B) 20) (hn : cN (A, B) 27 < 512) : IW (up2 (up2 (up2 A 28 (cN (A, B) 27) (nI w)) 29 (cN (A, B) 27) s) 30 (cN (A, B) 27) (B 0), up1 B 27 (B 27 + 1)) ∧ cN (A, up1 B 27 (B 27 + 1)) 27 = cN (A, B) 27 + 1 := by
  obtain ⟨a1, a2, a3, a4, a5, a6, a7, a8, a9, a10, a11, a12, a13⟩ := h
  have b27 : B 27 = nI (cN (A, B) 27) := a1.2.2.2.1.1
  have b0 : B 0 = nI (cN (A, B) 0) := a1.1.1
  have e1 : B 27 + 1 = nI (cN (A, B) 27 + 1) := by rw [b27, nI_1]
  have eN : ∀ A', cN (A', up1 B 27 (B 27 + 1)) 27 = cN (A, B) 27 + 1 := fun A' => by rw [e1]; exact cN_at (by omega)
  refine ⟨?_, eN A⟩
  generalize hn9 : cN (A, B) 27 = n at *
  have r : ∀ g, g ≠ 28 → g ≠ 29 → g ≠ 30 → up2 (up2 (up2 A 28 n (nI w)) 29 n s) 30 n (B 0) g = A g := fun g g1 g2 g3 => (up2_f g3).trans ((up2_f g2).trans (up2_f g1))
  have r30 : up2 (up2 (up2 A 28 n (nI w)) 29 n s) 30 n (B 0) 30 = up1 (A 30) n (B 0) := funext fun j => by
    by_cases e : j = n
    · subst e; exact up2_s.trans up1_s.symm
    · exact (up2_n2 e).trans (((up2_n1 (by decide)).trans (up2_n1 (by decide))).trans (up1_n e).symm)
  have r29 : up2 (up2 (up2 A 28 n (nI w)) 29 n s) 30 n (B 0) 29 = up1 (A 29) n s := funext fun j => by
    refine (up2_n1 (by decide)).trans ?_
    by_cases e : j = n
    · subst e; exact up2_s.trans up1_s.symm
    · exact (up2_n2 e).trans ((up2_n1 (by decide)).trans (up1_n e).symm)
  have r28 : up2 (up2 (up2 A 28 n (nI w)) 29 n s) 30 n (B 0) 28 = up1 (A 28) n (nI w) := funext fun j => by
    refine (up2_n1 (by decide)).trans ((up2_n1 (by decide)).trans ?_)
    by_cases e : j = n
    · subst e; exact up2_s.trans up1_s.symm
    · exact (up2_n2 e).trans (up1_n e).symm
  generalize up2 (up2 (up2 A 28 n (nI w)) 29 n s) 30 n (B 0) = A' at r r28 r29 r30 ⊢
  obtain ⟨c1, c2, c3, c4, c5, c6, c7, c8⟩ := a1
  obtain ⟨q1, q2, q3, q4⟩ := a7
  refine ⟨⟨c1, c2, c3, ⟨by rw [eN A']; exact e1, by rw [eN A']; omega⟩, c5, c6, fun k hk => ?_, fun k hk => ?_⟩, IS_of (B := up1 B 27 (B 27 + 1)) a2 (r 44 (by decide) (by decide) (by decide)) (r 45 (by decide) (by decide) (by decide)), fun f j hf hj => ?_, IO_of a4 (r 42 (by decide) (by decide) (by decide)) rfl, IN_of a5 (r 4 (by decide) (by decide) (by decide)) rfl, IP_of a6 (r 6 (by decide) (by decide) (by decide)) (r 21 (by decide) (by decide) (by decide)) rfl rfl, ⟨fun k hk hk2 => ?_, fun x hx hx2 => ?_, fun i hi => ?_, fun i hi => ?_⟩, ⟨fun i hi => ?_, fun i j hij hj h28 h29 => ?_⟩, IR_of a9 (r 37 (by decide) (by decide) (by decide)) (r 34 (by decide) (by decide) (by decide)) rfl, IA_of a10 (r 2 (by decide) (by decide) (by decide)) (r 3 (by decide) (by decide) (by decide)) rfl (Nat.le_refl _), IE_of a11 (r 10 (by decide) (by decide) (by decide)) (r 44 (by decide) (by decide) (by decide)) (r 47 (by decide) (by decide) (by decide)) rfl rfl, ID_of a12 (r 47 (by decide) (by decide) (by decide)) (r 46 (by decide) (by decide) (by decide)) (r 4 (by decide) (by decide) (by decide)) (r 44 (by decide) (by decide) (by decide)) (r 3 (by decide) (by decide) (by decide)) (r 2 (by decide) (by decide) (by decide)) (r 45 (by decide) (by decide) (by decide)) (r 24 (by decide) (by decide) (by decide)) rfl rfl rfl, IBd_of a13 (r 23 (by decide) (by decide) (by decide)) rfl⟩
  · have := c7 k hk
    unfold rN at this ⊢
    rw [show (A', up1 B 27 (B 27 + 1)).1 34 = A 34 from r 34 (by decide) (by decide) (by decide)]
    exact this
  · rw [show (A', up1 B 27 (B 27 + 1)).1 10 = A 10 from r 10 (by decide) (by decide) (by decide)]
    exact c8 k hk
  · have e : A' f = A f := r f (fun z => by subst z; exact absurd hf (by decide)) (fun z => by subst z; exact absurd hf (by decide)) (fun z => by subst z; exact absurd hf (by decide))
    show A' f j = 0 ∨ A' f j = 1
    rw [e]; exact a3 f j hf hj
  · obtain ⟨p1, p2, p3⟩ := q1 k hk hk2
    exact ⟨fun f f1 f2 => (congrFun (r f (by omega) (by omega) (by omega)) k).trans (p1 f f1 f2), (congrFun (r 34 (by decide) (by decide) (by decide)) k).trans p2, fun y hy => (congrFun (r 19 (by decide) (by decide) (by decide)) _).trans (p3 y hy)⟩
  · obtain ⟨p1, p2, p3⟩ := q2 x hx hx2
    exact ⟨(congrFun (r 24 (by decide) (by decide) (by decide)) x).trans p1, (congrFun (r 25 (by decide) (by decide) (by decide)) x).trans p2, (congrFun (r 26 (by decide) (by decide) (by decide)) x).trans p3⟩
  · rw [eN A'] at hi
    show ∃ h, h < cN (A, B) 20 ∧ A' 28 i = nI h
    rw [r28]
    by_cases e : i = n
    · subst e; exact ⟨w, hw, up1_s⟩
    · obtain ⟨x, x1, x2⟩ := q3 i (by rw [hn9]; omega)
      exact ⟨x, x1, (up1_n e).trans x2⟩
  · obtain ⟨x, x1, x2⟩ := q4 i hi
    exact ⟨x, x1, (congrFun (r 39 (by decide) (by decide) (by decide)) i).trans x2⟩
  · rw [eN A'] at hi
    show ∃ d, d ≤ cN (A, B) 0 ∧ A' 30 i = nI d
    rw [r30]
    by_cases e : i = n
    · subst e; exact ⟨cN (A, B) 0, Nat.le_refl _, up1_s.trans b0⟩
    · obtain ⟨x, x1, x2⟩ := a8.1 i (by rw [hn9]; omega)
      exact ⟨x, x1, (up1_n e).trans x2⟩
  · rw [eN A'] at hj
    have g28 : A' 28 i = A' 28 j := h28
    have g29 : A' 29 i = A' 29 j := h29
    show A' 30 i ≤ A' 30 j
    rw [r28] at g28
    rw [r29] at g29
    rw [r30]
    have ei : i ≠ n := by omega
    rw [up1_n ei] at g28 g29 ⊢
    by_cases e : j = n
    · subst e
      rw [up1_s]
      obtain ⟨d, d1, d2⟩ := a8.1 i (by rw [hn9]; exact hij)
      rw [show A 30 i = nI d from d2, b0]
      have := c1.2
      rw [Int32.le_iff_toInt_le, nI_toInt (by omega), nI_toInt (by omega)]
      omega
    · rw [up1_n e] at g28 g29 ⊢
      exact a8.2 i j hij (by rw [hn9]; omega) g28 g29
theorem up2_id {α : Type} {A : Nat → Nat → α} {f j : Nat} {v : α} (h : A f j = v) : up2 A f j v = A := funext fun x => funext fun y => by
  by_cases e : x = f ∧ y = j
  · obtain ⟨rfl, rfl⟩ := e
    exact (if_pos ⟨rfl, rfl⟩).trans h.symm
  · exact if_neg e
theorem tTells_is {σ : aS} {h s : Int32} (hI : IC σ) : ∀ n, n ≤ cN σ 27 → tTells σ h s n = σ.2 27 ∨ ∃ j, j < n ∧ tTells σ h s n = nI j ∧ σ.1 28 j = h ∧ σ.1 29 j = s ∧ σ.1 30 j = σ.2 0
  | 0, _ => Or.inl rfl
  | n + 1, hn => by
    by_cases q : σ.1 28 n = h ∧ σ.1 29 n = s ∧ σ.1 30 n = σ.2 0
    · exact Or.inr ⟨n, Nat.lt_succ_self n, tTells_t q, q.1, q.2.1, q.2.2⟩
    · rw [tTells_f q]
      rcases tTells_is hI n (by omega) with e | ⟨j, j1, j2⟩
      · exact Or.inl e
      · exact Or.inr ⟨j, by omega, j2⟩
theorem IW_tells {σ : aS} {w : Nat} {s a b u : Int32} (h : IW σ) (hw : w < cN σ 20) (hn : cN σ 27 < 512) : IW (oTells σ (nI w) s a b u) ∧ cN (oTells σ (nI w) s a b u) 27 ≤ cN σ 27 + 1 := by
  obtain ⟨A, B⟩ := σ
  have b27 : B 27 = nI (cN (A, B) 27) := h.1.2.2.2.1.1
  unfold oTells
  rcases tTells_is (h := nI w) (s := s) h.1 _ (Nat.le_refl _) with e | ⟨j, j1, e, e28, e29, e30⟩
  · rw [if_pos e, e]
    rw [show ((A, B).2 27).toNatClampNeg = cN (A, B) 27 from rfl]
    obtain ⟨k1, k2⟩ := IW_tn (s := s) h hw hn
    exact ⟨IW_F (IW_F (IW_F k1 (by decide)) (by decide)) (by decide), Nat.le_of_eq k2⟩
  · have hne : ¬ tTells (A, B) (nI w) s (cN (A, B) 27) = (A, B).2 27 := fun z => by
      have z : nI j = nI (cN (A, B) 27) := e.symm.trans (z.trans b27)
      have z2 := congrArg Int32.toNatClampNeg z
      have := h.1.2.2.2.1.2
      rw [nI_clamp (by omega), nI_clamp (by omega)] at z2
      omega
    rw [if_neg hne, e, nI_clamp (by omega)]
    have e0 : up1 B 27 (B 27 + 0) = B := funext fun x => by
      by_cases q : x = 27
      · subst q; exact up1_s.trans (Int32.add_zero _)
      · exact up1_n q
    show IW (up2 (up2 (up2 (up2 (up2 (up2 A 28 j (nI w)) 29 j s) 30 j (B 0)) 31 j a) 32 j b) 33 j u, up1 B 27 (B 27 + 0)) ∧ cN (A, up1 B 27 (B 27 + 0)) 27 ≤ _
    rw [e0, up2_id (A := A) e28, up2_id (A := A) e29, up2_id (A := A) e30]
    exact ⟨IW_F (IW_F (IW_F h (by decide)) (by decide)) (by decide), Nat.le_succ _⟩

