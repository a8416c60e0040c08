/-! THE CLASS: its own constructor. -/
theorem FrE_P {S0 T U : sS} {q p : Nat} (h : PX 5 S0 U p []) (hp : sK T p = 0) (h0 : FrN T S0) : FrN T U := fun a ha _ => by
  have e : a ≠ p := fun e => ha (e ▸ hp)
  obtain ⟨b1, b2, b3, b4, b5, b6, b7⟩ := h0 a ha id
  obtain ⟨c1, c2, c3, c4, c5, c6, c7⟩ := h.2.1 a (by rw [b1]; exact ha) e
  exact ⟨c1.trans b1, c2.trans b2, fun f => (c3 f).trans (b3 f), fun f => (c4 f).trans (b4 f), c5.trans b5, c6.trans b6, c7.trans b7⟩
def σ0 : aS := (fun _ _ => 0, fun _ => 0)
/-- the plan's object and rows, as the class's constructor leaves them -/
def PQ (S0 T : sS) (p : Nat) : Prop := sK S0 p = 0 ∧ sK T p = 5 ∧ (∀ f ∈ [(406, 113, 32), (405, 103, 32), (403, 171, 10), (401, 151, 5), (400, 114, 5)], ∃ a, sK T a = f.2.1 ∧ sL T a = f.2.2 ∧ sR T f.1 p = some a) ∧ PM S0 T p 402 107 5 161 10 ∧ PM S0 T p 404 117 10 181 32
theorem PX_get {K0 : Nat} {S0 T : sS} {q : Nat} {L : List (Nat × Nat × Nat)} (h : PX K0 S0 T q L) (p : Nat × Nat × Nat) (hp : p ∈ L) : ∃ a, sK S0 a = 0 ∧ sK T a = p.2.1 ∧ sL T a = p.2.2 ∧ (sQ T a = fun _ => none) ∧ sR T p.1 q = some a := h.2.2.2 p hp
theorem cLv_0 {i j : Nat} (h : cLv σ0 i j) : (i = 24 ∧ j < 5) ∨ (i = 27 ∧ j < 10) ∨ ((i = 4 ∨ 8 ≤ i) ∧ ¬ (11 ≤ i ∧ i ≤ 14) ∧ i ≠ 24 ∧ i ≠ 27 ∧ j = 0) := by
  unfold cLv at h
  have e : ∀ n, cN σ0 n = 0 := fun n => rfl
  simp only [e] at h
  by_cases a2 : i = 2
  · rw [if_pos a2] at h; omega
  rw [if_neg a2] at h
  by_cases a3 : i = 3
  · rw [if_pos a3] at h; omega
  rw [if_neg a3] at h
  by_cases a6 : i = 6
  · rw [if_pos a6] at h; omega
  rw [if_neg a6] at h
  by_cases a7 : i = 7
  · rw [if_pos a7] at h; omega
  rw [if_neg a7] at h
  by_cases a0 : i = 0 ∨ i = 1 ∨ i = 5 ∨ (11 ≤ i ∧ i ≤ 14)
  · rw [if_pos a0] at h; omega
  rw [if_neg a0] at h
  by_cases a24 : i = 24
  · rw [if_pos a24] at h; exact Or.inl ⟨a24, h⟩
  rw [if_neg a24] at h
  by_cases a27 : i = 27
  · rw [if_pos a27] at h; exact Or.inr (Or.inl ⟨a27, h⟩)
  rw [if_neg a27] at h
  refine Or.inr (Or.inr ⟨by omega, by omega, a24, a27, h⟩)
/-- the objects by family and index -/
def ad0 (q p a15 a16 a17 a21 a22 a23 a25 a26 a28 a29 : Nat) (r24 r27 : Nat → Nat) (i j : Nat) : Nat := if i = 24 then r24 j else if i = 27 then r27 j else if i = 8 then q else if i = 4 then p else if i = 15 then a15 else if i = 16 then a16 else if i = 17 then a17 else if i = 21 then a21 else if i = 22 then a22 else if i = 23 then a23 else if i = 25 then a25 else if i = 26 then a26 else if i = 28 then a28 else a29
theorem RelC_0 {S T : sS} {q p : Nat} (h : PX 9 S T q [(802, 106, 100), (801, 105, 10), (800, 104, 16)]) (h3 : sR T 803 q = some p) (hP : PQ S T p) (h0 : ∀ f, sI S f q = 0) : ∃ ad, ad 8 0 = q ∧ RelC T ad σ0 ∧ ∀ j, j < 10 → sA T (ad 27 j) 0 = 0 := by
  obtain ⟨a17, -, k17, l17, q17, r17⟩ := PX_get h (802, 106, 100) (by decide)
  obtain ⟨a16, -, k16, l16, q16, r16⟩ := PX_get h (801, 105, 10) (by decide)
  obtain ⟨a15, -, k15, l15, q15, r15⟩ := PX_get h (800, 104, 16) (by decide)
  obtain ⟨-, kp, hf, ⟨a23, r24, -, k23, l23, r23, w24, i24⟩, a26, r27, -, k26, l26, r26, w27, i27⟩ := hP
  obtain ⟨a29, k29, l29, r29⟩ := hf (406, 113, 32) (by decide)
  obtain ⟨a28, k28, l28, r28⟩ := hf (405, 103, 32) (by decide)
  obtain ⟨a25, k25, l25, r25⟩ := hf (403, 171, 10) (by decide)
  obtain ⟨a22, k22, l22, r22⟩ := hf (401, 151, 5) (by decide)
  obtain ⟨a21, k21, l21, r21⟩ := hf (400, 114, 5) (by decide)
  obtain ⟨kq, -, iq, -⟩ := h
  refine ⟨ad0 q p a15 a16 a17 a21 a22 a23 a25 a26 a28 a29 r24 r27, rfl, ⟨?_, ?_, ?_, ?_, ?_, fun k hk => absurd hk (Nat.not_lt_zero k), fun j hj => congrFun q15 j, fun j hj => congrFun q16 j, fun j hj => congrFun q17 j, fun j hj => (w24 j hj).1, fun j hj => (w27 j hj).1⟩, fun j hj => congrFun (w27 j hj).2.2.2.2 0⟩
  · intro i j hi h9 h10 hl
    rcases cLv_0 hl with ⟨rfl, hj⟩ | ⟨rfl, hj⟩ | ⟨a, b, c, d, rfl⟩
    · exact (w24 j hj).2.2.1
    · exact (w27 j hj).2.2.1
    · rcases (show i = 4 ∨ i = 8 ∨ i = 15 ∨ i = 16 ∨ i = 17 ∨ i = 18 ∨ i = 19 ∨ i = 20 ∨ i = 21 ∨ i = 22 ∨ i = 23 ∨ i = 25 ∨ i = 26 ∨ i = 28 ∨ i = 29 by omega) with rfl | rfl | rfl | rfl | rfl | rfl | rfl | rfl | rfl | rfl | rfl | rfl | rfl | rfl | rfl
      · exact kp
      · exact kq
      · exact k15
      · exact k16
      · exact k17
      · exact k29
      · exact k29
      · exact k29
      · exact k21
      · exact k22
      · exact k23
      · exact k25
      · exact k26
      · exact k28
      · exact k29
  · intro i j j' hi h9 h10 hl hl' e
    rcases cLv_0 hl with ⟨rfl, hj⟩ | ⟨rfl, hj⟩ | ⟨a, b, c, d, rfl⟩
    · exact i24 j j' e
    · exact i27 j j' e
    · rcases cLv_0 hl' with ⟨rfl, hj⟩ | ⟨rfl, hj⟩ | ⟨a', b', c', d', rfl⟩
      · exact absurd rfl c
      · exact absurd rfl d
      · rfl
  · intro g j hg hr hl
    rcases cLv_0 hl with ⟨e, hj⟩ | ⟨e, hj⟩ | ⟨a, b, c, d, rfl⟩
    · unfold cFd at hg; omega
    · unfold cFd at hg; omega
    · rcases (show g = 400 ∨ g = 401 ∨ g = 402 ∨ g = 403 ∨ g = 404 ∨ g = 405 ∨ g = 406 ∨ g = 800 ∨ g = 801 ∨ g = 802 ∨ g = 803 ∨ g = 804 ∨ g = 805 ∨ g = 806 ∨ g = 807 ∨ g = 808 by unfold cFd at hg; omega) with rfl | rfl | rfl | rfl | rfl | rfl | rfl | rfl | rfl | rfl | rfl | rfl | rfl | rfl | rfl | rfl
      iterate 11 (exact absurd hr (by decide))
      all_goals exact (iq _).trans (h0 _)
  · intro g j hg hr hl
    rcases cLv_0 hl with ⟨e, hj⟩ | ⟨e, hj⟩ | ⟨a, b, c, d, rfl⟩
    · unfold cFd at hg; omega
    · unfold cFd at hg; omega
    · rcases (show g = 400 ∨ g = 401 ∨ g = 402 ∨ g = 403 ∨ g = 404 ∨ g = 405 ∨ g = 406 ∨ g = 800 ∨ g = 801 ∨ g = 802 ∨ g = 803 ∨ g = 804 ∨ g = 805 ∨ g = 806 ∨ g = 807 ∨ g = 808 by unfold cFd at hg; omega) with rfl | rfl | rfl | rfl | rfl | rfl | rfl | rfl | rfl | rfl | rfl | rfl | rfl | rfl | rfl | rfl
      · exact r21
      · exact r22
      · exact r23
      · exact r25
      · exact r26
      · exact r28
      · exact r29
      · exact r15
      · exact r16
      · exact r17
      · exact h3
      all_goals exact absurd hr (by decide)
  · intro i j h11 hi hl
    rcases cLv_0 hl with ⟨rfl, hj⟩ | ⟨rfl, hj⟩ | ⟨a, b, c, d, rfl⟩
    · exact (w24 j hj).2.2.2.1
    · exact (w27 j hj).2.2.2.1
    · rcases (show i = 15 ∨ i = 16 ∨ i = 17 ∨ i = 18 ∨ i = 19 ∨ i = 20 ∨ i = 21 ∨ i = 22 ∨ i = 23 ∨ i = 25 ∨ i = 26 ∨ i = 28 ∨ i = 29 by omega) with rfl | rfl | rfl | rfl | rfl | rfl | rfl | rfl | rfl | rfl | rfl | rfl | rfl
      · exact l15
      · exact l16
      · exact l17
      · exact l29
      · exact l29
      · exact l29
      · exact l21
      · exact l22
      · exact l23
      · exact l25
      · exact l26
      · exact l28
      · exact l29

