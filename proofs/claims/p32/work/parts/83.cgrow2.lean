/-! THE CLASS GROWS: a home, an order, a stay, a term, a child more. -/
def n8 : Nat → Nat
  | 804 => 1 | 805 => 20 | 806 => 38 | 807 => 43 | 808 => 0 | _ => 99
theorem g8_c {g : Nat} (hg : cFd g) (hr : fRef g = false) (h8 : ¬ g < 800) : g = 804 ∨ g = 805 ∨ g = 806 ∨ g = 807 ∨ g = 808 := by
  have hh := lGI_m hg hr
  simp only [lGI, List.mem_cons, List.not_mem_nil, or_false] at hh
  omega
theorem cI_8 {σ σ' : aS} {g j : Nat} (hg : cFd g) (hr : fRef g = false) (h8 : ¬ g < 800) (h : σ'.2 (n8 g) = σ.2 (n8 g)) : cI σ' g j = cI σ g j := by
  rcases g8_c hg hr h8 with rfl | rfl | rfl | rfl | rfl
  · exact h
  · exact h
  · exact h
  · exact h
  · exact h
theorem cLv_8 {σ : aS} {j : Nat} (h : cLv σ 8 j) : j = 0 := h
theorem RelC_ne {S : sS} {ad : Nat → Nat → Nat} {σ : aS} (h : RelC S ad σ) {i i' j j' : Nat} (hi : i < 30 ∧ i ≠ 9 ∧ i ≠ 10) (hi' : i' < 30 ∧ i' ≠ 9 ∧ i' ≠ 10) (hl : cLv σ i j) (hl' : cLv σ i' j') (hk : cKd i ≠ cKd i') : ad i j ≠ ad i' j' := fun e => hk (by
  rw [← h.1 i j hi.1 hi.2.1 hi.2.2 hl, ← h.1 i' j' hi'.1 hi'.2.1 hi'.2.2 hl', e])
theorem cN_of {B : Nat → Int32} {A A' : Nat → Nat → Int32} {x y : Nat} {v : Int32} (h : x ≠ y) : cN (A', up1 B y v) x = cN (A, B) x := congrArg Int32.toNatClampNeg (up1_n h)
theorem cN_at {B : Nat → Int32} {A : Nat → Nat → Int32} {y n : Nat} (h : n < 2 ^ 31) : cN (A, up1 B y (nI n)) y = n := by
  show (up1 B y (nI n) y).toNatClampNeg = n
  rw [up1_s, nI_clamp h]
/-- a home more -/
theorem RelC_home {S : sS} {ad : Nat → Nat → Nat} {A : Nat → Nat → Int32} {B : Nat → Int32} {n : Nat} {a b c : Int32} (h : RelC S ad (A, B)) (hn : cN (A, B) 20 = n) (hlt : n < 10) (z25 : A 25 n = 0) (z26 : A 26 n = 0) (z28 : ∀ i, i < cN (A, B) 27 → ¬ A 28 i = nI n) (i200 : sI S 200 (ad 2 n) = nI n) (i201 : sI S 201 (ad 2 n) = a) (i202 : sI S 202 (ad 2 n) = b) (i203 : sI S 203 (ad 2 n) = c) (i207 : sI S 207 (ad 2 n) = 0) (i208 : sI S 208 (ad 2 n) = 0) (r204 : ∀ s, s < 3 → sR S (204 + s) (ad 2 n) = none) (k2 : sK S (ad 2 n) = 3) (w2 : ∀ j, j < n → ad 2 j ≠ ad 2 n) : RelC (pI (pQ S (ad 16 0) n (some (ad 2 n))) 805 (ad 8 0) (nI (n + 1))) ad (up2 (up2 (up2 A 21 n a) 22 n b) 23 n c, up1 B 20 (nI (n + 1))) := by
  have uf : ∀ x, x ≠ 21 → x ≠ 22 → x ≠ 23 → (up2 (up2 (up2 A 21 n a) 22 n b) 23 n c) x = A x := fun x h21 h22 h23 => (up2_f h23).trans ((up2_f h22).trans (up2_f h21))
  have uj : ∀ x j, j ≠ n → (up2 (up2 (up2 A 21 n a) 22 n b) 23 n c) x j = A x j := fun x j hj => (up2_n2 hj).trans ((up2_n2 hj).trans (up2_n2 hj))
  have ey : cN (up2 (up2 (up2 A 21 n a) 22 n b) 23 n c, up1 B 20 (nI (n + 1))) 20 = n + 1 := cN_at (by omega)
  have ex : ∀ x, x ≠ 20 → cN (up2 (up2 (up2 A 21 n a) 22 n b) 23 n c, up1 B 20 (nI (n + 1))) x = cN (A, B) x := fun x hx => cN_of hx
  have hlv : ∀ i j, ¬ (i = 2) → cLv (up2 (up2 (up2 A 21 n a) 22 n b) 23 n c, up1 B 20 (nI (n + 1))) i j = cLv (A, B) i j := fun i j hi => by
    unfold cLv
    rw [ex 1 (by decide), ex 27 (by decide), ex 38 (by decide), ex 43 (by decide), if_neg hi, if_neg hi]
  obtain ⟨σ', hσ⟩ : ∃ σ', σ' = (up2 (up2 (up2 A 21 n a) 22 n b) 23 n c, up1 B 20 (nI (n + 1))) := ⟨_, rfl⟩
  have eA : σ'.1 = up2 (up2 (up2 A 21 n a) 22 n b) 23 n c := by rw [hσ]
  have eB : σ'.2 = up1 B 20 (nI (n + 1)) := by rw [hσ]
  rw [← hσ] at ey ex hlv ⊢
  rw [← eA] at uf uj
  have v21 : σ'.1 21 n = a := by rw [eA]; exact (up2_n1 (by decide)).trans ((up2_n1 (by decide)).trans (up2_s))
  have v22 : σ'.1 22 n = b := by rw [eA]; exact (up2_n1 (by decide)).trans (up2_s)
  have v23 : σ'.1 23 n = c := by rw [eA]; exact up2_s
  have us : ∀ x, x ≠ 21 → x ≠ 22 → x ≠ 23 → ∀ j, σ'.1 x j = A x j := fun x h21 h22 h23 j => congrFun (uf x h21 h22 h23) j
  have hlF : ∀ i j, (i = 2) → cLv σ' i j → cLv (A, B) i j ∨ j = n := fun i j hi l => by
    have l2 : j < cN σ' 20 := by
      subst hi
      exact l
    rw [ey] at l2
    have l3 : j < cN (A, B) 20 → cLv (A, B) i j := fun z => by
      subst hi
      exact z
    by_cases e : j = n
    · exact Or.inr e
    · exact Or.inl (l3 (by omega))
  have hl : ∀ i j, cLv σ' i j → cLv (A, B) i j ∨ ((i = 2) ∧ j = n) := fun i j l => by
    by_cases e : i = 2
    · exact (hlF i j e l).imp id fun z => ⟨e, z⟩
    · rw [hlv i j e] at l; exact Or.inl l
  have lt : ∀ i j, (i = 2) → cLv (A, B) i j → j < n := fun i j hi l => by
    rw [← hn]
    subst hi
    exact l
  have em : ∀ k, rMrg σ' k (rN σ' k) = rMrg (A, B) k (rN (A, B) k) := fun k => by
    rw [show rN σ' k = rN (A, B) k by unfold rN; rw [uf 34 (by decide) (by decide) (by decide)]]
    exact rMrg_congr (uf 35 (by decide) (by decide) (by decide)) (uf 36 (by decide) (by decide) (by decide)) (uf 37 (by decide) (by decide) (by decide)) _
  have hne : ∀ i, i < 30 ∧ i ≠ 9 ∧ i ≠ 10 → cKd i ≠ 105 → cLv (A, B) i 0 → ad i 0 ≠ ad 16 0 := fun i hi hk l => RelC_ne h hi (by decide) l rfl hk
  have h' := h
  obtain ⟨h1, h2, h3, h4, h5, h6, h7, h8, h9, h10, h11⟩ := h'
  refine ⟨fun i j a1 a2 a3 l => ?_, fun i j j' a1 a2 a3 l l' e => ?_, fun g j x y l => ?_, fun g j x y l => ?_, fun i j x y l => ?_, fun k hk => ?_, fun j hj => ?_, fun j hj => ?_, fun j hj => ?_, fun j hj => ?_, fun j hj => ?_⟩
  · rcases hl i j l with l | ⟨rfl, rfl⟩
    · exact h1 i j a1 a2 a3 l
    · exact k2
  · rcases hl i j l with l | ⟨q, rfl⟩
    · rcases hl i j' l' with l' | ⟨q, rfl⟩
      · exact h2 i j j' a1 a2 a3 l l' e
      · subst q
        exact absurd e (w2 j (lt _ j rfl l))
    · rcases hl i j' l' with l' | ⟨-, rfl⟩
      · subst q
        exact absurd e.symm (w2 j' (lt _ j' rfl l'))
      · rfl
  · show up2 (sI S) 805 (ad 8 0) (nI (n + 1)) g (ad (g / 100) j) = _
    by_cases g8 : g = 805
    · subst g8
      have : j = 0 := cLv_8 (by rcases hl 8 j l with z | ⟨z, -⟩; exact z; exact absurd z (by decide))
      subst this
      rw [show (805 : Nat) / 100 = 8 from rfl, up2_s]
      show _ = σ'.2 20
      rw [eB, up1_s]
    rw [up2_n1 g8]
    rcases hl _ j l with l0 | ⟨e, q⟩
    · rw [h3 g j x y l0]
      by_cases g9 : g < 800
      · refine (cI_at x y g9 (fun z hz => ?_) (fun _ => em j)).symm
        by_cases e : g / 100 = 2
        · exact uj z j fun q => Nat.lt_irrefl n (by have := lt _ j e l0; omega)
        · exact us z (fun q => by subst q; have hz2 : 2 = g / 100 := hz; omega) (fun q => by subst q; have hz2 : 2 = g / 100 := hz; omega) (fun q => by subst q; have hz2 : 2 = g / 100 := hz; omega) j
      · refine (cI_8 x y g9 ?_).symm
        rw [eB]
        rcases g8_c x y g9 with rfl | rfl | rfl | rfl | rfl
        · exact up1_n (by decide)
        · exact absurd rfl g8
        · exact up1_n (by decide)
        · exact up1_n (by decide)
        · exact up1_n (by decide)
    · subst q
      have hm : g = 200 ∨ g = 201 ∨ g = 202 ∨ g = 203 ∨ g = 207 ∨ g = 208 := by
        have hh := lGI_m x y
        simp only [lGI, List.mem_cons, List.not_mem_nil, or_false] at hh
        omega
      rcases hm with rfl | rfl | rfl | rfl | rfl | rfl
      · exact i200
      · refine i201.trans ?_
        exact v21.symm
      · refine i202.trans ?_
        exact v22.symm
      · refine i203.trans ?_
        exact v23.symm
      · refine i207.trans ?_
        exact ((us 25 (by decide) (by decide) (by decide) j).trans z25).symm
      · refine i208.trans ?_
        exact ((us 26 (by decide) (by decide) (by decide) j).trans z26).symm
  · show sR S g (ad (g / 100) j) = _
    rcases hl _ j l with l0 | ⟨e, q⟩
    · rw [h4 g j x y l0]
      refine (cR_at x y (fun z => by subst z; exact us 10 (by decide) (by decide) (by decide) j) (fun z => ?_) (fun s9 z hs9 => ?_) (fun z => ?_) (fun z => by subst z; exact us 44 (by decide) (by decide) (by decide) j) (fun z => by subst z; exact us 45 (by decide) (by decide) (by decide) j) (fun z => ?_)).symm
      · subst z
        rw [ex 38 (by decide)]
        exact ordL_congr fun i _ => us 39 (by decide) (by decide) (by decide) i
      · subst z
        rw [ex 27 (by decide)]
        exact trmL_congr fun i _ => ⟨us 28 (by decide) (by decide) (by decide) i, us 29 (by decide) (by decide) (by decide) i⟩
      · subst z
        rw [us 39 (by decide) (by decide) (by decide)]
        exact ordL_congr fun i _ => us 39 (by decide) (by decide) (by decide) i
      · subst z
        rw [us 28 (by decide) (by decide) (by decide), us 29 (by decide) (by decide) (by decide)]
        exact trmL_congr fun i _ => ⟨us 28 (by decide) (by decide) (by decide) i, us 29 (by decide) (by decide) (by decide) i⟩
    · subst q
      have hm : g = 204 ∨ g = 205 ∨ g = 206 := by
        have hh := lGR_m x y
        simp only [lGR, List.mem_cons, List.not_mem_nil, or_false] at hh
        omega
      rcases hm with rfl | rfl | rfl
      · have no : trmL σ' (nI j) (nI 0) (cN σ' 27) = none := trmL_no fun i hi => by
          rw [ex 27 (by decide)] at hi
          rw [us 28 (by decide) (by decide) (by decide)]
          exact z28 i hi
        refine (r204 0 (by decide)).trans ?_
        show none = (trmL σ' (nI j) (nI 0) (cN σ' 27)).map (ad 7)
        rw [no]
        rfl
      · have no : trmL σ' (nI j) (nI 1) (cN σ' 27) = none := trmL_no fun i hi => by
          rw [ex 27 (by decide)] at hi
          rw [us 28 (by decide) (by decide) (by decide)]
          exact z28 i hi
        refine (r204 1 (by decide)).trans ?_
        show none = (trmL σ' (nI j) (nI 1) (cN σ' 27)).map (ad 7)
        rw [no]
        rfl
      · have no : trmL σ' (nI j) (nI 2) (cN σ' 27) = none := trmL_no fun i hi => by
          rw [ex 27 (by decide)] at hi
          rw [us 28 (by decide) (by decide) (by decide)]
          exact z28 i hi
        refine (r204 2 (by decide)).trans ?_
        show none = (trmL σ' (nI j) (nI 2) (cN σ' 27)).map (ad 7)
        rw [no]
        rfl
  · rcases hl i j l with l | ⟨rfl, -⟩
    · exact h5 i j x y l
    · exact absurd x (by decide)
  · rw [ex 1 (by decide)] at hk
    rw [em, uf 19 (by decide) (by decide) (by decide)]
    exact h6 k hk
  · rw [ex 1 (by decide)]
    exact (up2_n1 (hne 15 (by decide) (by decide) rfl)).trans (h7 j hj)
  · rw [ey]
    show up2 (sQ S) (ad 16 0) n (some (ad 2 n)) (ad 16 0) j = _
    by_cases q : j = n
    · rw [q, up2_s, if_pos (by omega)]
    · rw [up2_n2 q, h8 j hj, hn]
      by_cases q2 : j < n
      · rw [if_pos q2, if_pos (by omega)]
      · rw [if_neg q2, if_neg (by omega)]
  · rw [ex 43 (by decide)]
    exact (up2_n1 (hne 17 (by decide) (by decide) rfl)).trans (h9 j hj)
  · exact (up2_n1 (hne 23 (by decide) (by decide) rfl)).trans (h10 j hj)
  · exact (up2_n1 (hne 26 (by decide) (by decide) rfl)).trans (h11 j hj)
/-- an order more -/
theorem RelC_order {S : sS} {ad : Nat → Nat → Nat} {A : Nat → Nat → Int32} {B : Nat → Int32} {n : Nat} {k : Nat} {a b c : Int32} (h : RelC S ad (A, B)) (hn : cN (A, B) 38 = n) (hlt : n < 60) (hk : k < cN (A, B) 1) (hk16 : cN (A, B) 1 ≤ 16) (i300 : sI S 300 (ad 3 n) = nI n) (i301 : sI S 301 (ad 3 n) = a) (i302 : sI S 302 (ad 3 n) = b) (i303 : sI S 303 (ad 3 n) = c + 1) (r304 : sR S 304 (ad 3 n) = (ordL (A, B) (nI k) n).map (ad 3)) (k3 : sK S (ad 3 n) = 4) (w3 : ∀ j, j < n → ad 3 j ≠ ad 3 n) : RelC (pI (pR S 10 (ad 0 k) (some (ad 3 n))) 806 (ad 8 0) (nI (n + 1))) ad (up2 (up2 (up2 (up2 A 39 n ((nI k))) 40 n a) 41 n b) 42 n c, up1 B 38 (nI (n + 1))) := by
  have uf : ∀ x, x ≠ 39 → x ≠ 40 → x ≠ 41 → x ≠ 42 → (up2 (up2 (up2 (up2 A 39 n ((nI k))) 40 n a) 41 n b) 42 n c) x = A x := fun x h39 h40 h41 h42 => (up2_f h42).trans ((up2_f h41).trans ((up2_f h40).trans (up2_f h39)))
  have uj : ∀ x j, j ≠ n → (up2 (up2 (up2 (up2 A 39 n ((nI k))) 40 n a) 41 n b) 42 n c) x j = A x j := fun x j hj => (up2_n2 hj).trans ((up2_n2 hj).trans ((up2_n2 hj).trans (up2_n2 hj)))
  have ey : cN (up2 (up2 (up2 (up2 A 39 n ((nI k))) 40 n a) 41 n b) 42 n c, up1 B 38 (nI (n + 1))) 38 = n + 1 := cN_at (by omega)
  have ex : ∀ x, x ≠ 38 → cN (up2 (up2 (up2 (up2 A 39 n ((nI k))) 40 n a) 41 n b) 42 n c, up1 B 38 (nI (n + 1))) x = cN (A, B) x := fun x hx => cN_of hx
  have hlv : ∀ i j, ¬ (i = 3) → cLv (up2 (up2 (up2 (up2 A 39 n ((nI k))) 40 n a) 41 n b) 42 n c, up1 B 38 (nI (n + 1))) i j = cLv (A, B) i j := fun i j hi => by
    unfold cLv
    rw [ex 1 (by decide), ex 20 (by decide), ex 27 (by decide), ex 43 (by decide), if_neg hi, if_neg hi]
  obtain ⟨σ', hσ⟩ : ∃ σ', σ' = (up2 (up2 (up2 (up2 A 39 n ((nI k))) 40 n a) 41 n b) 42 n c, up1 B 38 (nI (n + 1))) := ⟨_, rfl⟩
  have eA : σ'.1 = up2 (up2 (up2 (up2 A 39 n ((nI k))) 40 n a) 41 n b) 42 n c := by rw [hσ]
  have eB : σ'.2 = up1 B 38 (nI (n + 1)) := by rw [hσ]
  rw [← hσ] at ey ex hlv ⊢
  rw [← eA] at uf uj
  have v39 : σ'.1 39 n = (nI k) := by rw [eA]; exact (up2_n1 (by decide)).trans ((up2_n1 (by decide)).trans ((up2_n1 (by decide)).trans (up2_s)))
  have v40 : σ'.1 40 n = a := by rw [eA]; exact (up2_n1 (by decide)).trans ((up2_n1 (by decide)).trans (up2_s))
  have v41 : σ'.1 41 n = b := by rw [eA]; exact (up2_n1 (by decide)).trans (up2_s)
  have v42 : σ'.1 42 n = c := by rw [eA]; exact up2_s
  have us : ∀ x, x ≠ 39 → x ≠ 40 → x ≠ 41 → x ≠ 42 → ∀ j, σ'.1 x j = A x j := fun x h39 h40 h41 h42 j => congrFun (uf x h39 h40 h41 h42) j
  have hlF : ∀ i j, (i = 3) → cLv σ' i j → cLv (A, B) i j ∨ j = n := fun i j hi l => by
    have l2 : j < cN σ' 38 := by
      subst hi
      exact l
    rw [ey] at l2
    have l3 : j < cN (A, B) 38 → cLv (A, B) i j := fun z => by
      subst hi
      exact z
    by_cases e : j = n
    · exact Or.inr e
    · exact Or.inl (l3 (by omega))
  have hl : ∀ i j, cLv σ' i j → cLv (A, B) i j ∨ ((i = 3) ∧ j = n) := fun i j l => by
    by_cases e : i = 3
    · exact (hlF i j e l).imp id fun z => ⟨e, z⟩
    · rw [hlv i j e] at l; exact Or.inl l
  have lt : ∀ i j, (i = 3) → cLv (A, B) i j → j < n := fun i j hi l => by
    rw [← hn]
    subst hi
    exact l
  have em : ∀ k, rMrg σ' k (rN σ' k) = rMrg (A, B) k (rN (A, B) k) := fun k => by
    rw [show rN σ' k = rN (A, B) k by unfold rN; rw [uf 34 (by decide) (by decide) (by decide) (by decide)]]
    exact rMrg_congr (uf 35 (by decide) (by decide) (by decide) (by decide)) (uf 36 (by decide) (by decide) (by decide) (by decide)) (uf 37 (by decide) (by decide) (by decide) (by decide)) _
  have h' := h
  obtain ⟨h1, h2, h3, h4, h5, h6, h7, h8, h9, h10, h11⟩ := h'
  refine ⟨fun i j a1 a2 a3 l => ?_, fun i j j' a1 a2 a3 l l' e => ?_, fun g j x y l => ?_, fun g j x y l => ?_, fun i j x y l => ?_, fun k hk => ?_, fun j hj => ?_, fun j hj => ?_, fun j hj => ?_, fun j hj => ?_, fun j hj => ?_⟩
  · rcases hl i j l with l | ⟨rfl, rfl⟩
    · exact h1 i j a1 a2 a3 l
    · exact k3
  · rcases hl i j l with l | ⟨q, rfl⟩
    · rcases hl i j' l' with l' | ⟨q, rfl⟩
      · exact h2 i j j' a1 a2 a3 l l' e
      · subst q
        exact absurd e (w3 j (lt _ j rfl l))
    · rcases hl i j' l' with l' | ⟨-, rfl⟩
      · subst q
        exact absurd e.symm (w3 j' (lt _ j' rfl l'))
      · rfl
  · show up2 (sI S) 806 (ad 8 0) (nI (n + 1)) g (ad (g / 100) j) = _
    by_cases g8 : g = 806
    · subst g8
      have : j = 0 := cLv_8 (by rcases hl 8 j l with z | ⟨z, -⟩; exact z; exact absurd z (by decide))
      subst this
      rw [show (806 : Nat) / 100 = 8 from rfl, up2_s]
      show _ = σ'.2 38
      rw [eB, up1_s]
    rw [up2_n1 g8]
    rcases hl _ j l with l0 | ⟨e, q⟩
    · rw [h3 g j x y l0]
      by_cases g9 : g < 800
      · refine (cI_at x y g9 (fun z hz => ?_) (fun _ => em j)).symm
        by_cases e : g / 100 = 3
        · exact uj z j fun q => Nat.lt_irrefl n (by have := lt _ j e l0; omega)
        · exact us z (fun q => by subst q; have hz2 : 99 = g / 100 := hz; omega) (fun q => by subst q; have hz2 : 3 = g / 100 := hz; omega) (fun q => by subst q; have hz2 : 3 = g / 100 := hz; omega) (fun q => by subst q; have hz2 : 3 = g / 100 := hz; omega) j
      · refine (cI_8 x y g9 ?_).symm
        rw [eB]
        rcases g8_c x y g9 with rfl | rfl | rfl | rfl | rfl
        · exact up1_n (by decide)
        · exact up1_n (by decide)
        · exact absurd rfl g8
        · exact up1_n (by decide)
        · exact up1_n (by decide)
    · subst q
      have hm : g = 300 ∨ g = 301 ∨ g = 302 ∨ g = 303 := by
        have hh := lGI_m x y
        simp only [lGI, List.mem_cons, List.not_mem_nil, or_false] at hh
        omega
      rcases hm with rfl | rfl | rfl | rfl
      · exact i300
      · refine i301.trans ?_
        exact v40.symm
      · refine i302.trans ?_
        exact v41.symm
      · refine i303.trans ?_
        show c + 1 = σ'.1 42 j + 1
        rw [v42]
  · show up2 (sR S) 10 (ad 0 k) (some (ad 3 n)) g (ad (g / 100) j) = _
    have up2_o : ∀ g j, cFd g → cLv (A, B) (g / 100) j → ¬ (g = 10 ∧ j = k) → up2 (sR S) 10 (ad 0 k) (some (ad 3 n)) g (ad (g / 100) j) = sR S g (ad (g / 100) j) := fun g j x l z => by
      by_cases g0 : g = 10
      · subst g0
        exact up2_n2 fun e => z ⟨rfl, h2 0 j k (by decide) (by decide) (by decide) l hk e⟩
      · exact up2_n1 g0
    by_cases gp : g = 10 ∧ j = k
    · obtain ⟨rfl, rfl⟩ := gp
      refine up2_s.trans ?_
      show _ = (ordL σ' (nI j) (cN σ' 38)).map (ad 3)
      rw [ey, ordL_t v39]
      rfl
    rcases hl _ j l with l0 | ⟨e, q⟩
    · rw [up2_o g j x l0 gp, h4 g j x y l0]
      refine (cR_at x y (fun z => by subst z; exact us 10 (by decide) (by decide) (by decide) (by decide) j) (fun z => ?_) (fun s9 z hs9 => ?_) (fun z => ?_) (fun z => by subst z; exact us 44 (by decide) (by decide) (by decide) (by decide) j) (fun z => by subst z; exact us 45 (by decide) (by decide) (by decide) (by decide) j) (fun z => ?_)).symm
      · subst z
        have hj : ¬ σ'.1 39 n = nI j := fun e => gp ⟨rfl, by
          rw [v39] at e
          have l1 : j < cN (A, B) 1 := l0
          exact ((nI_eq (by omega) (by omega)).mp e).symm⟩
        rw [ey, ordL_f hj, hn]
        exact ordL_congr fun i hi => uj 39 i (by omega)
      · subst z
        rw [ex 27 (by decide)]
        exact trmL_congr fun i _ => ⟨us 28 (by decide) (by decide) (by decide) (by decide) i, us 29 (by decide) (by decide) (by decide) (by decide) i⟩
      · subst z
        have l1 : j < n := lt _ j rfl l0
        rw [uj 39 j (by omega)]
        exact ordL_congr fun i hi => uj 39 i (by omega)
      · subst z
        rw [us 28 (by decide) (by decide) (by decide) (by decide), us 29 (by decide) (by decide) (by decide) (by decide)]
        exact trmL_congr fun i _ => ⟨us 28 (by decide) (by decide) (by decide) (by decide) i, us 29 (by decide) (by decide) (by decide) (by decide) i⟩
    · subst q
      have hm : g = 304 := by
        have hh := lGR_m x y
        simp only [lGR, List.mem_cons, List.not_mem_nil, or_false] at hh
        omega
      rcases hm with rfl
      · refine (up2_n1 (by decide)).trans (r304.trans ?_)
        show _ = (ordL σ' (σ'.1 39 j) j).map (ad 3)
        rw [v39]
        exact congrArg _ (ordL_congr fun i hi => uj 39 i (by omega)).symm
  · rcases hl i j l with l | ⟨rfl, -⟩
    · exact h5 i j x y l
    · exact absurd x (by decide)
  · rw [ex 1 (by decide)] at hk
    rw [em, uf 19 (by decide) (by decide) (by decide) (by decide)]
    exact h6 k hk
  · rw [ex 1 (by decide)]
    exact h7 j hj
  · rw [ex 20 (by decide)]
    exact h8 j hj
  · rw [ex 43 (by decide)]
    exact h9 j hj
  · exact h10 j hj
  · exact h11 j hj
/-- a stay more -/
theorem RelC_stay {S : sS} {ad : Nat → Nat → Nat} {A : Nat → Nat → Int32} {B : Nat → Int32} {n : Nat} {k m : Nat} {a b c : Int32} (h : RelC S ad (A, B)) (hn : cN (A, B) 43 = n) (hlt : n < 100) (hk : k < 16) (hm9 : m < 10) (i602 : sI S 602 (ad 6 n) = a) (i604 : sI S 604 (ad 6 n) = b) (i603 : sI S 603 (ad 6 n) = c) (r600 : sR S 600 (ad 6 n) = some (ad 0 k)) (r601 : sR S 601 (ad 6 n) = some (ad 2 m)) (k6 : sK S (ad 6 n) = 7) (w6 : ∀ j, j < n → ad 6 j ≠ ad 6 n) : RelC (pI (pQ S (ad 17 0) n (some (ad 6 n))) 807 (ad 8 0) (nI (n + 1))) ad (up2 (up2 (up2 (up2 (up2 A 44 n ((nI k))) 45 n ((nI m))) 46 n a) 47 n b) 48 n c, up1 B 43 (nI (n + 1))) := by
  have uf : ∀ x, x ≠ 44 → x ≠ 45 → x ≠ 46 → x ≠ 47 → x ≠ 48 → (up2 (up2 (up2 (up2 (up2 A 44 n ((nI k))) 45 n ((nI m))) 46 n a) 47 n b) 48 n c) x = A x := fun x h44 h45 h46 h47 h48 => (up2_f h48).trans ((up2_f h47).trans ((up2_f h46).trans ((up2_f h45).trans (up2_f h44))))
  have uj : ∀ x j, j ≠ n → (up2 (up2 (up2 (up2 (up2 A 44 n ((nI k))) 45 n ((nI m))) 46 n a) 47 n b) 48 n c) x j = A x j := fun x j hj => (up2_n2 hj).trans ((up2_n2 hj).trans ((up2_n2 hj).trans ((up2_n2 hj).trans (up2_n2 hj))))
  have ey : cN (up2 (up2 (up2 (up2 (up2 A 44 n ((nI k))) 45 n ((nI m))) 46 n a) 47 n b) 48 n c, up1 B 43 (nI (n + 1))) 43 = n + 1 := cN_at (by omega)
  have ex : ∀ x, x ≠ 43 → cN (up2 (up2 (up2 (up2 (up2 A 44 n ((nI k))) 45 n ((nI m))) 46 n a) 47 n b) 48 n c, up1 B 43 (nI (n + 1))) x = cN (A, B) x := fun x hx => cN_of hx
  have hlv : ∀ i j, ¬ (i = 6) → cLv (up2 (up2 (up2 (up2 (up2 A 44 n ((nI k))) 45 n ((nI m))) 46 n a) 47 n b) 48 n c, up1 B 43 (nI (n + 1))) i j = cLv (A, B) i j := fun i j hi => by
    unfold cLv
    rw [ex 1 (by decide), ex 20 (by decide), ex 27 (by decide), ex 38 (by decide), if_neg hi, if_neg hi]
  obtain ⟨σ', hσ⟩ : ∃ σ', σ' = (up2 (up2 (up2 (up2 (up2 A 44 n ((nI k))) 45 n ((nI m))) 46 n a) 47 n b) 48 n c, up1 B 43 (nI (n + 1))) := ⟨_, rfl⟩
  have eA : σ'.1 = up2 (up2 (up2 (up2 (up2 A 44 n ((nI k))) 45 n ((nI m))) 46 n a) 47 n b) 48 n c := by rw [hσ]
  have eB : σ'.2 = up1 B 43 (nI (n + 1)) := by rw [hσ]
  rw [← hσ] at ey ex hlv ⊢
  rw [← eA] at uf uj
  have v44 : σ'.1 44 n = (nI k) := by rw [eA]; exact (up2_n1 (by decide)).trans ((up2_n1 (by decide)).trans ((up2_n1 (by decide)).trans ((up2_n1 (by decide)).trans (up2_s))))
  have v45 : σ'.1 45 n = (nI m) := by rw [eA]; exact (up2_n1 (by decide)).trans ((up2_n1 (by decide)).trans ((up2_n1 (by decide)).trans (up2_s)))
  have v46 : σ'.1 46 n = a := by rw [eA]; exact (up2_n1 (by decide)).trans ((up2_n1 (by decide)).trans (up2_s))
  have v47 : σ'.1 47 n = b := by rw [eA]; exact (up2_n1 (by decide)).trans (up2_s)
  have v48 : σ'.1 48 n = c := by rw [eA]; exact up2_s
  have us : ∀ x, x ≠ 44 → x ≠ 45 → x ≠ 46 → x ≠ 47 → x ≠ 48 → ∀ j, σ'.1 x j = A x j := fun x h44 h45 h46 h47 h48 j => congrFun (uf x h44 h45 h46 h47 h48) j
  have hlF : ∀ i j, (i = 6) → cLv σ' i j → cLv (A, B) i j ∨ j = n := fun i j hi l => by
    have l2 : j < cN σ' 43 := by
      subst hi
      exact l
    rw [ey] at l2
    have l3 : j < cN (A, B) 43 → cLv (A, B) i j := fun z => by
      subst hi
      exact z
    by_cases e : j = n
    · exact Or.inr e
    · exact Or.inl (l3 (by omega))
  have hl : ∀ i j, cLv σ' i j → cLv (A, B) i j ∨ ((i = 6) ∧ j = n) := fun i j l => by
    by_cases e : i = 6
    · exact (hlF i j e l).imp id fun z => ⟨e, z⟩
    · rw [hlv i j e] at l; exact Or.inl l
  have lt : ∀ i j, (i = 6) → cLv (A, B) i j → j < n := fun i j hi l => by
    rw [← hn]
    subst hi
    exact l
  have em : ∀ k, rMrg σ' k (rN σ' k) = rMrg (A, B) k (rN (A, B) k) := fun k => by
    rw [show rN σ' k = rN (A, B) k by unfold rN; rw [uf 34 (by decide) (by decide) (by decide) (by decide) (by decide)]]
    exact rMrg_congr (uf 35 (by decide) (by decide) (by decide) (by decide) (by decide)) (uf 36 (by decide) (by decide) (by decide) (by decide) (by decide)) (uf 37 (by decide) (by decide) (by decide) (by decide) (by decide)) _
  have hne : ∀ i, i < 30 ∧ i ≠ 9 ∧ i ≠ 10 → cKd i ≠ 106 → cLv (A, B) i 0 → ad i 0 ≠ ad 17 0 := fun i hi hk l => RelC_ne h hi (by decide) l rfl hk
  have h' := h
  obtain ⟨h1, h2, h3, h4, h5, h6, h7, h8, h9, h10, h11⟩ := h'
  refine ⟨fun i j a1 a2 a3 l => ?_, fun i j j' a1 a2 a3 l l' e => ?_, fun g j x y l => ?_, fun g j x y l => ?_, fun i j x y l => ?_, fun k hk => ?_, fun j hj => ?_, fun j hj => ?_, fun j hj => ?_, fun j hj => ?_, fun j hj => ?_⟩
  · rcases hl i j l with l | ⟨rfl, rfl⟩
    · exact h1 i j a1 a2 a3 l
    · exact k6
  · rcases hl i j l with l | ⟨q, rfl⟩
    · rcases hl i j' l' with l' | ⟨q, rfl⟩
      · exact h2 i j j' a1 a2 a3 l l' e
      · subst q
        exact absurd e (w6 j (lt _ j rfl l))
    · rcases hl i j' l' with l' | ⟨-, rfl⟩
      · subst q
        exact absurd e.symm (w6 j' (lt _ j' rfl l'))
      · rfl
  · show up2 (sI S) 807 (ad 8 0) (nI (n + 1)) g (ad (g / 100) j) = _
    by_cases g8 : g = 807
    · subst g8
      have : j = 0 := cLv_8 (by rcases hl 8 j l with z | ⟨z, -⟩; exact z; exact absurd z (by decide))
      subst this
      rw [show (807 : Nat) / 100 = 8 from rfl, up2_s]
      show _ = σ'.2 43
      rw [eB, up1_s]
    rw [up2_n1 g8]
    rcases hl _ j l with l0 | ⟨e, q⟩
    · rw [h3 g j x y l0]
      by_cases g9 : g < 800
      · refine (cI_at x y g9 (fun z hz => ?_) (fun _ => em j)).symm
        by_cases e : g / 100 = 6
        · exact uj z j fun q => Nat.lt_irrefl n (by have := lt _ j e l0; omega)
        · exact us z (fun q => by subst q; have hz2 : 99 = g / 100 := hz; omega) (fun q => by subst q; have hz2 : 99 = g / 100 := hz; omega) (fun q => by subst q; have hz2 : 6 = g / 100 := hz; omega) (fun q => by subst q; have hz2 : 6 = g / 100 := hz; omega) (fun q => by subst q; have hz2 : 6 = g / 100 := hz; omega) j
      · refine (cI_8 x y g9 ?_).symm
        rw [eB]
        rcases g8_c x y g9 with rfl | rfl | rfl | rfl | rfl
        · exact up1_n (by decide)
        · exact up1_n (by decide)
        · exact up1_n (by decide)
        · exact absurd rfl g8
        · exact up1_n (by decide)
    · subst q
      have hm : g = 602 ∨ g = 603 ∨ g = 604 := by
        have hh := lGI_m x y
        simp only [lGI, List.mem_cons, List.not_mem_nil, or_false] at hh
        omega
      rcases hm with rfl | rfl | rfl
      · refine i602.trans ?_
        exact v46.symm
      · refine i603.trans ?_
        exact v48.symm
      · refine i604.trans ?_
        exact v47.symm
  · show sR S g (ad (g / 100) j) = _
    rcases hl _ j l with l0 | ⟨e, q⟩
    · rw [h4 g j x y l0]
      refine (cR_at x y (fun z => by subst z; exact us 10 (by decide) (by decide) (by decide) (by decide) (by decide) j) (fun z => ?_) (fun s9 z hs9 => ?_) (fun z => ?_) (fun z => by subst z; exact (uj 44 j fun q => Nat.lt_irrefl n (by have := lt _ j (by first | exact Or.inl rfl | rfl) l0; omega))) (fun z => by subst z; exact (uj 45 j fun q => Nat.lt_irrefl n (by have := lt _ j (by first | exact Or.inl rfl | rfl) l0; omega))) (fun z => ?_)).symm
      · subst z
        rw [ex 38 (by decide)]
        exact ordL_congr fun i _ => us 39 (by decide) (by decide) (by decide) (by decide) (by decide) i
      · subst z
        rw [ex 27 (by decide)]
        exact trmL_congr fun i _ => ⟨us 28 (by decide) (by decide) (by decide) (by decide) (by decide) i, us 29 (by decide) (by decide) (by decide) (by decide) (by decide) i⟩
      · subst z
        rw [us 39 (by decide) (by decide) (by decide) (by decide) (by decide)]
        exact ordL_congr fun i _ => us 39 (by decide) (by decide) (by decide) (by decide) (by decide) i
      · subst z
        rw [us 28 (by decide) (by decide) (by decide) (by decide) (by decide), us 29 (by decide) (by decide) (by decide) (by decide) (by decide)]
        exact trmL_congr fun i _ => ⟨us 28 (by decide) (by decide) (by decide) (by decide) (by decide) i, us 29 (by decide) (by decide) (by decide) (by decide) (by decide) i⟩
    · subst q
      have hm : g = 600 ∨ g = 601 := by
        have hh := lGR_m x y
        simp only [lGR, List.mem_cons, List.not_mem_nil, or_false] at hh
        omega
      rcases hm with rfl | rfl
      · refine r600.trans ?_
        show _ = some (ad 0 (nx (σ'.1 44 j)))
        rw [v44, show nx (nI k) = k from nI_clamp (by omega)]
      · refine r601.trans ?_
        show _ = some (ad 2 (nx (σ'.1 45 j)))
        rw [v45, show nx (nI m) = m from nI_clamp (by omega)]
  · rcases hl i j l with l | ⟨rfl, -⟩
    · exact h5 i j x y l
    · exact absurd x (by decide)
  · rw [ex 1 (by decide)] at hk
    rw [em, uf 19 (by decide) (by decide) (by decide) (by decide) (by decide)]
    exact h6 k hk
  · rw [ex 1 (by decide)]
    exact (up2_n1 (hne 15 (by decide) (by decide) rfl)).trans (h7 j hj)
  · rw [ex 20 (by decide)]
    exact (up2_n1 (hne 16 (by decide) (by decide) rfl)).trans (h8 j hj)
  · rw [ey]
    show up2 (sQ S) (ad 17 0) n (some (ad 6 n)) (ad 17 0) j = _
    by_cases q : j = n
    · rw [q, up2_s, if_pos (by omega)]
    · rw [up2_n2 q, h9 j hj, hn]
      by_cases q2 : j < n
      · rw [if_pos q2, if_pos (by omega)]
      · rw [if_neg q2, if_neg (by omega)]
  · exact (up2_n1 (hne 23 (by decide) (by decide) rfl)).trans (h10 j hj)
  · exact (up2_n1 (hne 26 (by decide) (by decide) rfl)).trans (h11 j hj)
/-- a term more -/
theorem RelC_term {S : sS} {ad : Nat → Nat → Nat} {A : Nat → Nat → Int32} {B : Nat → Int32} {n : Nat} {k s : Nat} {a b c d : Int32} (h : RelC S ad (A, B)) (hn : cN (A, B) 27 = n) (hlt : n < 1024) (hk : k < cN (A, B) 20) (hk10 : cN (A, B) 20 ≤ 10) (hs : s < 3) (i701 : sI S 701 (ad 7 n) = a) (i702 : sI S 702 (ad 7 n) = (if nI s = 2 then b else a)) (i703 : sI S 703 (ad 7 n) = d) (i704 : sI S 704 (ad 7 n) = (if nI s = 0 then b else 0)) (i705 : sI S 705 (ad 7 n) = (if nI s = 0 then c else 0)) (i706 : sI S 706 (ad 7 n) = (if nI s = 1 then b else 0)) (r700 : sR S 700 (ad 7 n) = (trmL (A, B) (nI k) (nI s) n).map (ad 7)) (k7 : sK S (ad 7 n) = 8) (w7 : ∀ j, j < n → ad 7 j ≠ ad 7 n) : RelC (pR S (204 + s) (ad 2 k) (some (ad 7 n))) ad (up2 (up2 (up2 (up2 (up2 (up2 A 28 n ((nI k))) 29 n ((nI s))) 30 n a) 31 n b) 32 n c) 33 n d, up1 B 27 (nI (n + 1))) := by
  have uf : ∀ x, x ≠ 28 → x ≠ 29 → x ≠ 30 → x ≠ 31 → x ≠ 32 → x ≠ 33 → (up2 (up2 (up2 (up2 (up2 (up2 A 28 n ((nI k))) 29 n ((nI s))) 30 n a) 31 n b) 32 n c) 33 n d) x = A x := fun x h28 h29 h30 h31 h32 h33 => (up2_f h33).trans ((up2_f h32).trans ((up2_f h31).trans ((up2_f h30).trans ((up2_f h29).trans (up2_f h28)))))
  have uj : ∀ x j, j ≠ n → (up2 (up2 (up2 (up2 (up2 (up2 A 28 n ((nI k))) 29 n ((nI s))) 30 n a) 31 n b) 32 n c) 33 n d) x j = A x j := fun x j hj => (up2_n2 hj).trans ((up2_n2 hj).trans ((up2_n2 hj).trans ((up2_n2 hj).trans ((up2_n2 hj).trans (up2_n2 hj)))))
  have ey : cN (up2 (up2 (up2 (up2 (up2 (up2 A 28 n ((nI k))) 29 n ((nI s))) 30 n a) 31 n b) 32 n c) 33 n d, up1 B 27 (nI (n + 1))) 27 = n + 1 := cN_at (by omega)
  have ex : ∀ x, x ≠ 27 → cN (up2 (up2 (up2 (up2 (up2 (up2 A 28 n ((nI k))) 29 n ((nI s))) 30 n a) 31 n b) 32 n c) 33 n d, up1 B 27 (nI (n + 1))) x = cN (A, B) x := fun x hx => cN_of hx
  have hlv : ∀ i j, ¬ (i = 7) → cLv (up2 (up2 (up2 (up2 (up2 (up2 A 28 n ((nI k))) 29 n ((nI s))) 30 n a) 31 n b) 32 n c) 33 n d, up1 B 27 (nI (n + 1))) i j = cLv (A, B) i j := fun i j hi => by
    unfold cLv
    rw [ex 1 (by decide), ex 20 (by decide), ex 38 (by decide), ex 43 (by decide), if_neg hi, if_neg hi]
  obtain ⟨σ', hσ⟩ : ∃ σ', σ' = (up2 (up2 (up2 (up2 (up2 (up2 A 28 n ((nI k))) 29 n ((nI s))) 30 n a) 31 n b) 32 n c) 33 n d, up1 B 27 (nI (n + 1))) := ⟨_, rfl⟩
  have eA : σ'.1 = up2 (up2 (up2 (up2 (up2 (up2 A 28 n ((nI k))) 29 n ((nI s))) 30 n a) 31 n b) 32 n c) 33 n d := by rw [hσ]
  have eB : σ'.2 = up1 B 27 (nI (n + 1)) := by rw [hσ]
  rw [← hσ] at ey ex hlv ⊢
  rw [← eA] at uf uj
  have v28 : σ'.1 28 n = (nI k) := by rw [eA]; exact (up2_n1 (by decide)).trans ((up2_n1 (by decide)).trans ((up2_n1 (by decide)).trans ((up2_n1 (by decide)).trans ((up2_n1 (by decide)).trans (up2_s)))))
  have v29 : σ'.1 29 n = (nI s) := by rw [eA]; exact (up2_n1 (by decide)).trans ((up2_n1 (by decide)).trans ((up2_n1 (by decide)).trans ((up2_n1 (by decide)).trans (up2_s))))
  have v30 : σ'.1 30 n = a := by rw [eA]; exact (up2_n1 (by decide)).trans ((up2_n1 (by decide)).trans ((up2_n1 (by decide)).trans (up2_s)))
  have v31 : σ'.1 31 n = b := by rw [eA]; exact (up2_n1 (by decide)).trans ((up2_n1 (by decide)).trans (up2_s))
  have v32 : σ'.1 32 n = c := by rw [eA]; exact (up2_n1 (by decide)).trans (up2_s)
  have v33 : σ'.1 33 n = d := by rw [eA]; exact up2_s
  have us : ∀ x, x ≠ 28 → x ≠ 29 → x ≠ 30 → x ≠ 31 → x ≠ 32 → x ≠ 33 → ∀ j, σ'.1 x j = A x j := fun x h28 h29 h30 h31 h32 h33 j => congrFun (uf x h28 h29 h30 h31 h32 h33) j
  have hlF : ∀ i j, (i = 7) → cLv σ' i j → cLv (A, B) i j ∨ j = n := fun i j hi l => by
    have l2 : j < cN σ' 27 := by
      subst hi
      exact l
    rw [ey] at l2
    have l3 : j < cN (A, B) 27 → cLv (A, B) i j := fun z => by
      subst hi
      exact z
    by_cases e : j = n
    · exact Or.inr e
    · exact Or.inl (l3 (by omega))
  have hl : ∀ i j, cLv σ' i j → cLv (A, B) i j ∨ ((i = 7) ∧ j = n) := fun i j l => by
    by_cases e : i = 7
    · exact (hlF i j e l).imp id fun z => ⟨e, z⟩
    · rw [hlv i j e] at l; exact Or.inl l
  have lt : ∀ i j, (i = 7) → cLv (A, B) i j → j < n := fun i j hi l => by
    rw [← hn]
    subst hi
    exact l
  have em : ∀ k, rMrg σ' k (rN σ' k) = rMrg (A, B) k (rN (A, B) k) := fun k => by
    rw [show rN σ' k = rN (A, B) k by unfold rN; rw [uf 34 (by decide) (by decide) (by decide) (by decide) (by decide) (by decide)]]
    exact rMrg_congr (uf 35 (by decide) (by decide) (by decide) (by decide) (by decide) (by decide)) (uf 36 (by decide) (by decide) (by decide) (by decide) (by decide) (by decide)) (uf 37 (by decide) (by decide) (by decide) (by decide) (by decide) (by decide)) _
  have h' := h
  obtain ⟨h1, h2, h3, h4, h5, h6, h7, h8, h9, h10, h11⟩ := h'
  refine ⟨fun i j a1 a2 a3 l => ?_, fun i j j' a1 a2 a3 l l' e => ?_, fun g j x y l => ?_, fun g j x y l => ?_, fun i j x y l => ?_, fun k hk => ?_, fun j hj => ?_, fun j hj => ?_, fun j hj => ?_, fun j hj => ?_, fun j hj => ?_⟩
  · rcases hl i j l with l | ⟨rfl, rfl⟩
    · exact h1 i j a1 a2 a3 l
    · exact k7
  · rcases hl i j l with l | ⟨q, rfl⟩
    · rcases hl i j' l' with l' | ⟨q, rfl⟩
      · exact h2 i j j' a1 a2 a3 l l' e
      · subst q
        exact absurd e (w7 j (lt _ j rfl l))
    · rcases hl i j' l' with l' | ⟨-, rfl⟩
      · subst q
        exact absurd e.symm (w7 j' (lt _ j' rfl l'))
      · rfl
  · show sI S g (ad (g / 100) j) = _
    have g8 : True := trivial
    rcases hl _ j l with l0 | ⟨e, q⟩
    · rw [h3 g j x y l0]
      by_cases g9 : g < 800
      · refine (cI_at x y g9 (fun z hz => ?_) (fun _ => em j)).symm
        by_cases e : g / 100 = 7
        · exact uj z j fun q => Nat.lt_irrefl n (by have := lt _ j e l0; omega)
        · exact us z (fun q => by subst q; have hz2 : 99 = g / 100 := hz; omega) (fun q => by subst q; have hz2 : 7 = g / 100 := hz; omega) (fun q => by subst q; have hz2 : 7 = g / 100 := hz; omega) (fun q => by subst q; have hz2 : 7 = g / 100 := hz; omega) (fun q => by subst q; have hz2 : 7 = g / 100 := hz; omega) (fun q => by subst q; have hz2 : 7 = g / 100 := hz; omega) j
      · refine (cI_8 x y g9 ?_).symm
        rw [eB]
        rcases g8_c x y g9 with rfl | rfl | rfl | rfl | rfl
        · exact up1_n (by decide)
        · exact up1_n (by decide)
        · exact up1_n (by decide)
        · exact up1_n (by decide)
        · exact up1_n (by decide)
    · subst q
      have hm : g = 701 ∨ g = 702 ∨ g = 703 ∨ g = 704 ∨ g = 705 ∨ g = 706 := by
        have hh := lGI_m x y
        simp only [lGI, List.mem_cons, List.not_mem_nil, or_false] at hh
        omega
      rcases hm with rfl | rfl | rfl | rfl | rfl | rfl
      · refine i701.trans ?_
        exact v30.symm
      · refine i702.trans ?_
        show _ = if σ'.1 29 j = 2 then σ'.1 31 j else σ'.1 30 j
        rw [v29, v30, v31]
      · refine i703.trans ?_
        exact v33.symm
      · refine i704.trans ?_
        show _ = if σ'.1 29 j = 0 then σ'.1 31 j else 0
        rw [v29, v31]
      · refine i705.trans ?_
        show _ = if σ'.1 29 j = 0 then σ'.1 32 j else 0
        rw [v29, v32]
      · refine i706.trans ?_
        show _ = if σ'.1 29 j = 1 then σ'.1 31 j else 0
        rw [v29, v31]
  · show up2 (sR S) (204 + s) (ad 2 k) (some (ad 7 n)) g (ad (g / 100) j) = _
    have up2_o : ∀ g j, cFd g → cLv (A, B) (g / 100) j → ¬ (g = 204 + s ∧ j = k) → up2 (sR S) (204 + s) (ad 2 k) (some (ad 7 n)) g (ad (g / 100) j) = sR S g (ad (g / 100) j) := fun g j x l z => by
      by_cases g0 : g = 204 + s
      · subst g0
        have e2 : (204 + s) / 100 = 2 := by omega
        rw [e2] at l ⊢
        exact up2_n2 fun e => z ⟨rfl, h2 2 j k (by decide) (by decide) (by decide) l hk e⟩
      · exact up2_n1 g0
    by_cases gp : g = 204 + s ∧ j = k
    · obtain ⟨rfl, rfl⟩ := gp
      rw [show (204 + s) / 100 = 2 by omega]
      refine up2_s.trans ?_
      have ec : cR σ' ad (204 + s) j = (trmL σ' (nI j) (nI s) (cN σ' 27)).map (ad 7) := by
        rcases (show s = 0 ∨ s = 1 ∨ s = 2 by omega) with rfl | rfl | rfl <;> rfl
      rw [ec, ey, trmL_t ⟨v28, v29⟩]
      rfl
    rcases hl _ j l with l0 | ⟨e, q⟩
    · rw [up2_o g j x l0 gp, h4 g j x y l0]
      refine (cR_at x y (fun z => by subst z; exact us 10 (by decide) (by decide) (by decide) (by decide) (by decide) (by decide) j) (fun z => ?_) (fun s9 z hs9 => ?_) (fun z => ?_) (fun z => by subst z; exact us 44 (by decide) (by decide) (by decide) (by decide) (by decide) (by decide) j) (fun z => by subst z; exact us 45 (by decide) (by decide) (by decide) (by decide) (by decide) (by decide) j) (fun z => ?_)).symm
      · subst z
        rw [ex 38 (by decide)]
        exact ordL_congr fun i _ => us 39 (by decide) (by decide) (by decide) (by decide) (by decide) (by decide) i
      · subst z
        have hj : ¬ (σ'.1 28 n = nI j ∧ σ'.1 29 n = nI s9) := fun e => gp (by
          have l1 : j < cN (A, B) 20 := by
            rw [show (204 + s9) / 100 = 2 by omega] at l0
            exact l0
          rw [v28, v29] at e
          have q1 := (nI_eq (by omega) (by omega)).mp e.1
          have q2 := (nI_eq (by omega) (by omega)).mp e.2
          exact ⟨by omega, q1.symm⟩)
        rw [ey, trmL_f hj, hn]
        exact trmL_congr fun i hi => ⟨uj 28 i (by omega), uj 29 i (by omega)⟩
      · subst z
        rw [us 39 (by decide) (by decide) (by decide) (by decide) (by decide) (by decide)]
        exact ordL_congr fun i _ => us 39 (by decide) (by decide) (by decide) (by decide) (by decide) (by decide) i
      · subst z
        have l1 : j < n := lt _ j rfl l0
        rw [uj 28 j (by omega), uj 29 j (by omega)]
        exact trmL_congr fun i hi => ⟨uj 28 i (by omega), uj 29 i (by omega)⟩
    · subst q
      have hm : g = 700 := by
        have hh := lGR_m x y
        simp only [lGR, List.mem_cons, List.not_mem_nil, or_false] at hh
        omega
      rcases hm with rfl
      · refine (up2_n1 (by omega)).trans (r700.trans ?_)
        show _ = (trmL σ' (σ'.1 28 j) (σ'.1 29 j) j).map (ad 7)
        rw [v28, v29]
        exact congrArg _ (trmL_congr fun i hi => ⟨uj 28 i (by omega), uj 29 i (by omega)⟩).symm
  · rcases hl i j l with l | ⟨rfl, -⟩
    · exact h5 i j x y l
    · exact absurd x (by decide)
  · rw [ex 1 (by decide)] at hk
    rw [em, uf 19 (by decide) (by decide) (by decide) (by decide) (by decide) (by decide)]
    exact h6 k hk
  · rw [ex 1 (by decide)]
    exact h7 j hj
  · rw [ex 20 (by decide)]
    exact h8 j hj
  · rw [ex 43 (by decide)]
    exact h9 j hj
  · exact h10 j hj
  · exact h11 j hj
/-- a child more -/
theorem RelC_child {S : sS} {ad : Nat → Nat → Nat} {A : Nat → Nat → Int32} {B : Nat → Int32} {n : Nat} {a b c d e f w : Int32} (h : RelC S ad (A, B)) (hn : cN (A, B) 1 = n) (hlt : n < 16) (z1 : ∀ f, 11 ≤ f → f ≤ 18 → A f n = 0) (z34 : A 34 n = 0) (z19 : ∀ j, j < 10 → A 19 (10 * n + j) = 0) (z39 : ∀ i, i < cN (A, B) 38 → ¬ A 39 i = nI n) (i0 : sI S 0 (ad 0 n) = nI n) (i1 : sI S 1 (ad 0 n) = b - a) (i2 : sI S 2 (ad 0 n) = c) (i3 : sI S 3 (ad 0 n) = d) (i4 : sI S 4 (ad 0 n) = e) (i5 : sI S 5 (ad 0 n) = f) (i9 : sI S 9 (ad 0 n) = w) (i12 : sI S 12 (ad 0 n) = 0) (i100 : ∀ s, s < 7 → sI S (100 + s) (ad 1 n) = 0) (i503 : sI S 503 (ad 5 n) = 0) (i504 : sI S 504 (ad 5 n) = 0) (i505 : sI S 505 (ad 5 n) = -1) (r6 : sR S 6 (ad 0 n) = some (ad 11 n)) (r7 : sR S 7 (ad 0 n) = some (ad 5 n)) (r8 : sR S 8 (ad 0 n) = some (ad 1 n)) (r10 : sR S 10 (ad 0 n) = none) (r11 : sR S 11 (ad 0 n) = none) (r500 : sR S 500 (ad 5 n) = some (ad 12 n)) (r501 : sR S 501 (ad 5 n) = some (ad 13 n)) (r502 : sR S 502 (ad 5 n) = some (ad 14 n)) (a11 : sA S (ad 11 n) = fun _ => 0) (a12 : sA S (ad 12 n) = fun _ => 0) (a13 : sA S (ad 13 n) = fun _ => 0) (a14 : sA S (ad 14 n) = fun _ => 0) (l11 : sL S (ad 11 n) = 10) (l12 : sL S (ad 12 n) = 30) (l13 : sL S (ad 13 n) = 30) (l14 : sL S (ad 14 n) = 30) (k0 : sK S (ad 0 n) = 1) (k1 : sK S (ad 1 n) = 2) (k5 : sK S (ad 5 n) = 6) (k11 : sK S (ad 11 n) = 111) (k12 : sK S (ad 12 n) = 121) (k13 : sK S (ad 13 n) = 131) (k14 : sK S (ad 14 n) = 141) (w0 : ∀ j, j < n → ad 0 j ≠ ad 0 n) (w1 : ∀ j, j < n → ad 1 j ≠ ad 1 n) (w5 : ∀ j, j < n → ad 5 j ≠ ad 5 n) (w11 : ∀ j, j < n → ad 11 j ≠ ad 11 n) (w12 : ∀ j, j < n → ad 12 j ≠ ad 12 n) (w13 : ∀ j, j < n → ad 13 j ≠ ad 13 n) (w14 : ∀ j, j < n → ad 14 j ≠ ad 14 n) : RelC (pI (pQ S (ad 15 0) n (some (ad 0 n))) 804 (ad 8 0) (nI (n + 1))) ad (up2 (up2 (up2 (up2 (up2 (up2 (up2 (up2 (up2 A 2 n a) 3 n b) 4 n c) 5 n d) 6 n e) 7 n f) 8 n w) 9 n (-1)) 10 n (-1), up1 B 1 (nI (n + 1))) := by
  have uf : ∀ x, x ≠ 2 → x ≠ 3 → x ≠ 4 → x ≠ 5 → x ≠ 6 → x ≠ 7 → x ≠ 8 → x ≠ 9 → x ≠ 10 → (up2 (up2 (up2 (up2 (up2 (up2 (up2 (up2 (up2 A 2 n a) 3 n b) 4 n c) 5 n d) 6 n e) 7 n f) 8 n w) 9 n (-1)) 10 n (-1)) x = A x := fun x h2 h3 h4 h5 h6 h7 h8 h9 h10 => (up2_f h10).trans ((up2_f h9).trans ((up2_f h8).trans ((up2_f h7).trans ((up2_f h6).trans ((up2_f h5).trans ((up2_f h4).trans ((up2_f h3).trans (up2_f h2))))))))
  have uj : ∀ x j, j ≠ n → (up2 (up2 (up2 (up2 (up2 (up2 (up2 (up2 (up2 A 2 n a) 3 n b) 4 n c) 5 n d) 6 n e) 7 n f) 8 n w) 9 n (-1)) 10 n (-1)) x j = A x j := fun x j hj => (up2_n2 hj).trans ((up2_n2 hj).trans ((up2_n2 hj).trans ((up2_n2 hj).trans ((up2_n2 hj).trans ((up2_n2 hj).trans ((up2_n2 hj).trans ((up2_n2 hj).trans (up2_n2 hj))))))))
  have ey : cN (up2 (up2 (up2 (up2 (up2 (up2 (up2 (up2 (up2 A 2 n a) 3 n b) 4 n c) 5 n d) 6 n e) 7 n f) 8 n w) 9 n (-1)) 10 n (-1), up1 B 1 (nI (n + 1))) 1 = n + 1 := cN_at (by omega)
  have ex : ∀ x, x ≠ 1 → cN (up2 (up2 (up2 (up2 (up2 (up2 (up2 (up2 (up2 A 2 n a) 3 n b) 4 n c) 5 n d) 6 n e) 7 n f) 8 n w) 9 n (-1)) 10 n (-1), up1 B 1 (nI (n + 1))) x = cN (A, B) x := fun x hx => cN_of hx
  have hlv : ∀ i j, ¬ (i = 0 ∨ i = 1 ∨ i = 5 ∨ (11 ≤ i ∧ i ≤ 14)) → cLv (up2 (up2 (up2 (up2 (up2 (up2 (up2 (up2 (up2 A 2 n a) 3 n b) 4 n c) 5 n d) 6 n e) 7 n f) 8 n w) 9 n (-1)) 10 n (-1), up1 B 1 (nI (n + 1))) i j = cLv (A, B) i j := fun i j hi => by
    unfold cLv
    rw [ex 20 (by decide), ex 27 (by decide), ex 38 (by decide), ex 43 (by decide), if_neg hi, if_neg hi]
  obtain ⟨σ', hσ⟩ : ∃ σ', σ' = (up2 (up2 (up2 (up2 (up2 (up2 (up2 (up2 (up2 A 2 n a) 3 n b) 4 n c) 5 n d) 6 n e) 7 n f) 8 n w) 9 n (-1)) 10 n (-1), up1 B 1 (nI (n + 1))) := ⟨_, rfl⟩
  have eA : σ'.1 = up2 (up2 (up2 (up2 (up2 (up2 (up2 (up2 (up2 A 2 n a) 3 n b) 4 n c) 5 n d) 6 n e) 7 n f) 8 n w) 9 n (-1)) 10 n (-1) := by rw [hσ]
  have eB : σ'.2 = up1 B 1 (nI (n + 1)) := by rw [hσ]
  rw [← hσ] at ey ex hlv ⊢
  rw [← eA] at uf uj
  have v2 : σ'.1 2 n = a := by rw [eA]; exact (up2_n1 (by decide)).trans ((up2_n1 (by decide)).trans ((up2_n1 (by decide)).trans ((up2_n1 (by decide)).trans ((up2_n1 (by decide)).trans ((up2_n1 (by decide)).trans ((up2_n1 (by decide)).trans ((up2_n1 (by decide)).trans (up2_s))))))))
  have v3 : σ'.1 3 n = b := by rw [eA]; exact (up2_n1 (by decide)).trans ((up2_n1 (by decide)).trans ((up2_n1 (by decide)).trans ((up2_n1 (by decide)).trans ((up2_n1 (by decide)).trans ((up2_n1 (by decide)).trans ((up2_n1 (by decide)).trans (up2_s)))))))
  have v4 : σ'.1 4 n = c := by rw [eA]; exact (up2_n1 (by decide)).trans ((up2_n1 (by decide)).trans ((up2_n1 (by decide)).trans ((up2_n1 (by decide)).trans ((up2_n1 (by decide)).trans ((up2_n1 (by decide)).trans (up2_s))))))
  have v5 : σ'.1 5 n = d := by rw [eA]; exact (up2_n1 (by decide)).trans ((up2_n1 (by decide)).trans ((up2_n1 (by decide)).trans ((up2_n1 (by decide)).trans ((up2_n1 (by decide)).trans (up2_s)))))
  have v6 : σ'.1 6 n = e := by rw [eA]; exact (up2_n1 (by decide)).trans ((up2_n1 (by decide)).trans ((up2_n1 (by decide)).trans ((up2_n1 (by decide)).trans (up2_s))))
  have v7 : σ'.1 7 n = f := by rw [eA]; exact (up2_n1 (by decide)).trans ((up2_n1 (by decide)).trans ((up2_n1 (by decide)).trans (up2_s)))
  have v8 : σ'.1 8 n = w := by rw [eA]; exact (up2_n1 (by decide)).trans ((up2_n1 (by decide)).trans (up2_s))
  have v9 : σ'.1 9 n = (-1) := by rw [eA]; exact (up2_n1 (by decide)).trans (up2_s)
  have v10 : σ'.1 10 n = (-1) := by rw [eA]; exact up2_s
  have us : ∀ x, x ≠ 2 → x ≠ 3 → x ≠ 4 → x ≠ 5 → x ≠ 6 → x ≠ 7 → x ≠ 8 → x ≠ 9 → x ≠ 10 → ∀ j, σ'.1 x j = A x j := fun x h2 h3 h4 h5 h6 h7 h8 h9 h10 j => congrFun (uf x h2 h3 h4 h5 h6 h7 h8 h9 h10) j
  have hlF : ∀ i j, (i = 0 ∨ i = 1 ∨ i = 5 ∨ (11 ≤ i ∧ i ≤ 14)) → cLv σ' i j → cLv (A, B) i j ∨ j = n := fun i j hi l => by
    have l2 : j < cN σ' 1 := by
      rcases hi with rfl | rfl | rfl | ⟨q1, q2⟩
      · exact l
      · exact l
      · exact l
      · rcases (show i = 11 ∨ i = 12 ∨ i = 13 ∨ i = 14 by omega) with rfl | rfl | rfl | rfl <;> exact l
    rw [ey] at l2
    have l3 : j < cN (A, B) 1 → cLv (A, B) i j := fun z => by
      rcases hi with rfl | rfl | rfl | ⟨q1, q2⟩
      · exact z
      · exact z
      · exact z
      · rcases (show i = 11 ∨ i = 12 ∨ i = 13 ∨ i = 14 by omega) with rfl | rfl | rfl | rfl <;> exact z
    by_cases e : j = n
    · exact Or.inr e
    · exact Or.inl (l3 (by omega))
  have hl : ∀ i j, cLv σ' i j → cLv (A, B) i j ∨ ((i = 0 ∨ i = 1 ∨ i = 5 ∨ (11 ≤ i ∧ i ≤ 14)) ∧ j = n) := fun i j l => by
    by_cases e : i = 0 ∨ i = 1 ∨ i = 5 ∨ (11 ≤ i ∧ i ≤ 14)
    · exact (hlF i j e l).imp id fun z => ⟨e, z⟩
    · rw [hlv i j e] at l; exact Or.inl l
  have lt : ∀ i j, (i = 0 ∨ i = 1 ∨ i = 5 ∨ (11 ≤ i ∧ i ≤ 14)) → cLv (A, B) i j → j < n := fun i j hi l => by
    rw [← hn]
    rcases hi with rfl | rfl | rfl | ⟨q1, q2⟩
    · exact l
    · exact l
    · exact l
    · rcases (show i = 11 ∨ i = 12 ∨ i = 13 ∨ i = 14 by omega) with rfl | rfl | rfl | rfl <;> exact l
  have em : ∀ k, rMrg σ' k (rN σ' k) = rMrg (A, B) k (rN (A, B) k) := fun k => by
    rw [show rN σ' k = rN (A, B) k by unfold rN; rw [uf 34 (by decide) (by decide) (by decide) (by decide) (by decide) (by decide) (by decide) (by decide) (by decide)]]
    exact rMrg_congr (uf 35 (by decide) (by decide) (by decide) (by decide) (by decide) (by decide) (by decide) (by decide) (by decide)) (uf 36 (by decide) (by decide) (by decide) (by decide) (by decide) (by decide) (by decide) (by decide) (by decide)) (uf 37 (by decide) (by decide) (by decide) (by decide) (by decide) (by decide) (by decide) (by decide) (by decide)) _
  have hne : ∀ i, i < 30 ∧ i ≠ 9 ∧ i ≠ 10 → cKd i ≠ 104 → cLv (A, B) i 0 → ad i 0 ≠ ad 15 0 := fun i hi hk l => RelC_ne h hi (by decide) l rfl hk
  have h' := h
  obtain ⟨h1, h2, h3, h4, h5, h6, h7, h8, h9, h10, h11⟩ := h'
  refine ⟨fun i j a1 a2 a3 l => ?_, fun i j j' a1 a2 a3 l l' e => ?_, fun g j x y l => ?_, fun g j x y l => ?_, fun i j x y l => ?_, fun k hk => ?_, fun j hj => ?_, fun j hj => ?_, fun j hj => ?_, fun j hj => ?_, fun j hj => ?_⟩
  · rcases hl i j l with l | ⟨q, rfl⟩
    · exact h1 i j a1 a2 a3 l
    · rcases (show i = 0 ∨ i = 1 ∨ i = 5 ∨ i = 11 ∨ i = 12 ∨ i = 13 ∨ i = 14 by omega) with rfl | rfl | rfl | rfl | rfl | rfl | rfl
      · exact k0
      · exact k1
      · exact k5
      · exact k11
      · exact k12
      · exact k13
      · exact k14
  · have w : ∀ i, (i = 0 ∨ i = 1 ∨ i = 5 ∨ (11 ≤ i ∧ i ≤ 14)) → ∀ j, j < n → ad i j ≠ ad i n := fun i q => by
      rcases (show i = 0 ∨ i = 1 ∨ i = 5 ∨ i = 11 ∨ i = 12 ∨ i = 13 ∨ i = 14 by omega) with rfl | rfl | rfl | rfl | rfl | rfl | rfl
      · exact w0
      · exact w1
      · exact w5
      · exact w11
      · exact w12
      · exact w13
      · exact w14
    rcases hl i j l with l | ⟨q, rfl⟩
    · rcases hl i j' l' with l' | ⟨q, rfl⟩
      · exact h2 i j j' a1 a2 a3 l l' e
      · exact absurd e (w i q j (lt _ j q l))
    · rcases hl i j' l' with l' | ⟨-, rfl⟩
      · exact absurd e.symm (w i q j' (lt _ j' q l'))
      · rfl
  · show up2 (sI S) 804 (ad 8 0) (nI (n + 1)) g (ad (g / 100) j) = _
    by_cases g8 : g = 804
    · subst g8
      have : j = 0 := cLv_8 (by rcases hl 8 j l with z | ⟨z, -⟩; exact z; exact absurd z (by decide))
      subst this
      rw [show (804 : Nat) / 100 = 8 from rfl, up2_s]
      show _ = σ'.2 1
      rw [eB, up1_s]
    rw [up2_n1 g8]
    rcases hl _ j l with l0 | ⟨e, q⟩
    · rw [h3 g j x y l0]
      by_cases g9 : g < 800
      · refine (cI_at x y g9 (fun z hz => ?_) (fun _ => em j)).symm
        by_cases e : g / 100 = 0 ∨ g / 100 = 1 ∨ g / 100 = 5 ∨ (11 ≤ g / 100 ∧ g / 100 ≤ 14)
        · exact uj z j fun q => Nat.lt_irrefl n (by have := lt _ j e l0; omega)
        · exact us z (fun q => by subst q; have hz2 : 0 = g / 100 := hz; omega) (fun q => by subst q; have hz2 : 0 = g / 100 := hz; omega) (fun q => by subst q; have hz2 : 0 = g / 100 := hz; omega) (fun q => by subst q; have hz2 : 0 = g / 100 := hz; omega) (fun q => by subst q; have hz2 : 0 = g / 100 := hz; omega) (fun q => by subst q; have hz2 : 0 = g / 100 := hz; omega) (fun q => by subst q; have hz2 : 0 = g / 100 := hz; omega) (fun q => by subst q; have hz2 : 5 = g / 100 := hz; omega) (fun q => by subst q; have hz2 : 99 = g / 100 := hz; omega) j
      · refine (cI_8 x y g9 ?_).symm
        rw [eB]
        rcases g8_c x y g9 with rfl | rfl | rfl | rfl | rfl
        · exact absurd rfl g8
        · exact up1_n (by decide)
        · exact up1_n (by decide)
        · exact up1_n (by decide)
        · exact up1_n (by decide)
    · subst q
      have hm : g = 0 ∨ g = 1 ∨ g = 2 ∨ g = 3 ∨ g = 4 ∨ g = 5 ∨ g = 9 ∨ g = 12 ∨ g = 100 ∨ g = 101 ∨ g = 102 ∨ g = 103 ∨ g = 104 ∨ g = 105 ∨ g = 106 ∨ g = 503 ∨ g = 504 ∨ g = 505 := by
        have hh := lGI_m x y
        simp only [lGI, List.mem_cons, List.not_mem_nil, or_false] at hh
        omega
      rcases hm with rfl | rfl | rfl | rfl | rfl | rfl | rfl | rfl | rfl | rfl | rfl | rfl | rfl | rfl | rfl | rfl | rfl | rfl
      · exact i0
      · refine i1.trans ?_
        show b - a = σ'.1 3 j - σ'.1 2 j
        rw [v3, v2]
      · refine i2.trans ?_
        exact v4.symm
      · refine i3.trans ?_
        exact v5.symm
      · refine i4.trans ?_
        exact v6.symm
      · refine i5.trans ?_
        exact v7.symm
      · refine i9.trans ?_
        exact v8.symm
      · refine i12.trans ?_
        exact ((us 11 (by decide) (by decide) (by decide) (by decide) (by decide) (by decide) (by decide) (by decide) (by decide) j).trans (z1 11 (by decide) (by decide))).symm
      · refine (i100 0 (by decide)).trans ?_
        exact ((us 12 (by decide) (by decide) (by decide) (by decide) (by decide) (by decide) (by decide) (by decide) (by decide) j).trans (z1 12 (by decide) (by decide))).symm
      · refine (i100 1 (by decide)).trans ?_
        exact ((us 13 (by decide) (by decide) (by decide) (by decide) (by decide) (by decide) (by decide) (by decide) (by decide) j).trans (z1 13 (by decide) (by decide))).symm
      · refine (i100 2 (by decide)).trans ?_
        exact ((us 14 (by decide) (by decide) (by decide) (by decide) (by decide) (by decide) (by decide) (by decide) (by decide) j).trans (z1 14 (by decide) (by decide))).symm
      · refine (i100 3 (by decide)).trans ?_
        exact ((us 15 (by decide) (by decide) (by decide) (by decide) (by decide) (by decide) (by decide) (by decide) (by decide) j).trans (z1 15 (by decide) (by decide))).symm
      · refine (i100 4 (by decide)).trans ?_
        exact ((us 16 (by decide) (by decide) (by decide) (by decide) (by decide) (by decide) (by decide) (by decide) (by decide) j).trans (z1 16 (by decide) (by decide))).symm
      · refine (i100 5 (by decide)).trans ?_
        exact ((us 17 (by decide) (by decide) (by decide) (by decide) (by decide) (by decide) (by decide) (by decide) (by decide) j).trans (z1 17 (by decide) (by decide))).symm
      · refine (i100 6 (by decide)).trans ?_
        exact ((us 18 (by decide) (by decide) (by decide) (by decide) (by decide) (by decide) (by decide) (by decide) (by decide) j).trans (z1 18 (by decide) (by decide))).symm
      · refine i503.trans ?_
        show 0 = nI (rMrg σ' j (rN σ' j)).1
        rw [em, show rN (A, B) j = 0 from congrArg Int32.toNatClampNeg z34]
        rfl
      · refine i504.trans ?_
        exact ((us 34 (by decide) (by decide) (by decide) (by decide) (by decide) (by decide) (by decide) (by decide) (by decide) j).trans z34).symm
      · refine i505.trans ?_
        exact v9.symm
  · show sR S g (ad (g / 100) j) = _
    rcases hl _ j l with l0 | ⟨e, q⟩
    · rw [h4 g j x y l0]
      refine (cR_at x y (fun z => by subst z; exact (uj 10 j fun q => Nat.lt_irrefl n (by have := lt _ j (by first | exact Or.inl rfl | rfl) l0; omega))) (fun z => ?_) (fun s9 z hs9 => ?_) (fun z => ?_) (fun z => by subst z; exact us 44 (by decide) (by decide) (by decide) (by decide) (by decide) (by decide) (by decide) (by decide) (by decide) j) (fun z => by subst z; exact us 45 (by decide) (by decide) (by decide) (by decide) (by decide) (by decide) (by decide) (by decide) (by decide) j) (fun z => ?_)).symm
      · subst z
        rw [ex 38 (by decide)]
        exact ordL_congr fun i _ => us 39 (by decide) (by decide) (by decide) (by decide) (by decide) (by decide) (by decide) (by decide) (by decide) i
      · subst z
        rw [ex 27 (by decide)]
        exact trmL_congr fun i _ => ⟨us 28 (by decide) (by decide) (by decide) (by decide) (by decide) (by decide) (by decide) (by decide) (by decide) i, us 29 (by decide) (by decide) (by decide) (by decide) (by decide) (by decide) (by decide) (by decide) (by decide) i⟩
      · subst z
        rw [us 39 (by decide) (by decide) (by decide) (by decide) (by decide) (by decide) (by decide) (by decide) (by decide)]
        exact ordL_congr fun i _ => us 39 (by decide) (by decide) (by decide) (by decide) (by decide) (by decide) (by decide) (by decide) (by decide) i
      · subst z
        rw [us 28 (by decide) (by decide) (by decide) (by decide) (by decide) (by decide) (by decide) (by decide) (by decide), us 29 (by decide) (by decide) (by decide) (by decide) (by decide) (by decide) (by decide) (by decide) (by decide)]
        exact trmL_congr fun i _ => ⟨us 28 (by decide) (by decide) (by decide) (by decide) (by decide) (by decide) (by decide) (by decide) (by decide) i, us 29 (by decide) (by decide) (by decide) (by decide) (by decide) (by decide) (by decide) (by decide) (by decide) i⟩
    · subst q
      have hm : g = 6 ∨ g = 7 ∨ g = 8 ∨ g = 10 ∨ g = 11 ∨ g = 500 ∨ g = 501 ∨ g = 502 := by
        have hh := lGR_m x y
        simp only [lGR, List.mem_cons, List.not_mem_nil, or_false] at hh
        omega
      rcases hm with rfl | rfl | rfl | rfl | rfl | rfl | rfl | rfl
      · exact r6
      · exact r7
      · exact r8
      · refine r10.trans ?_
        show none = (ordL σ' (nI j) (cN σ' 38)).map (ad 3)
        rw [ordL_no fun i hi => by
          rw [ex 38 (by decide)] at hi
          rw [us 39 (by decide) (by decide) (by decide) (by decide) (by decide) (by decide) (by decide) (by decide) (by decide)]
          exact z39 i hi]
        rfl
      · refine r11.trans ?_
        show none = if σ'.1 10 j = -1 then none else some (ad 6 (nx (σ'.1 10 j)))
        rw [v10, if_pos rfl]
      · exact r500
      · exact r501
      · exact r502
  · rcases hl i j l with l | ⟨q, rfl⟩
    · exact h5 i j x y l
    · rcases (show i = 11 ∨ i = 12 ∨ i = 13 ∨ i = 14 by omega) with rfl | rfl | rfl | rfl
      · exact l11
      · exact l12
      · exact l13
      · exact l14
  · rw [ey] at hk
    rw [em, uf 19 (by decide) (by decide) (by decide) (by decide) (by decide) (by decide) (by decide) (by decide) (by decide)]
    by_cases q : k = n
    · subst q
      rw [show rN (A, B) k = 0 from congrArg Int32.toNatClampNeg z34]
      refine ⟨fun j hj => ?_, a12, a13, a14⟩
      rw [z19 j hj]
      exact congrFun a11 j
    · exact h6 k (by omega)
  · rw [ey]
    show up2 (sQ S) (ad 15 0) n (some (ad 0 n)) (ad 15 0) j = _
    by_cases q : j = n
    · rw [q, up2_s, if_pos (by omega)]
    · rw [up2_n2 q, h7 j hj, hn]
      by_cases q2 : j < n
      · rw [if_pos q2, if_pos (by omega)]
      · rw [if_neg q2, if_neg (by omega)]
  · rw [ex 20 (by decide)]
    exact (up2_n1 (hne 16 (by decide) (by decide) rfl)).trans (h8 j hj)
  · rw [ex 43 (by decide)]
    exact (up2_n1 (hne 17 (by decide) (by decide) rfl)).trans (h9 j hj)
  · exact (up2_n1 (hne 23 (by decide) (by decide) rfl)).trans (h10 j hj)
  · exact (up2_n1 (hne 26 (by decide) (by decide) rfl)).trans (h11 j hj)

