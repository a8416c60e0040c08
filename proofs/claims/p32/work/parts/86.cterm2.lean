/-! THE CLASS: a term in place of the same told today. -/
theorem RelC_termR {S : sS} {ad : Nat → Nat → Nat} {A : Nat → Nat → Int32} {B : Nat → Int32} {k s m q : Nat} {a b c d : Int32} (h : RelC S ad (A, B)) (hk : k < cN (A, B) 20) (hk10 : cN (A, B) 20 ≤ 10) (hs : s < 3) (hm : trmL (A, B) (nI k) (nI s) (cN (A, B) 27) = some m) (e30 : A 30 m = a)
    (i701 : sI S 701 q = a) (i702 : sI S 702 q = (if nI s = 2 then b else a)) (i703 : sI S 703 q = d) (i704 : sI S 704 q = (if nI s = 0 then b else 0)) (i705 : sI S 705 q = (if nI s = 0 then c else 0)) (i706 : sI S 706 q = (if nI s = 1 then b else 0)) (r700 : sR S 700 q = (trmL (A, B) (nI k) (nI s) m).map (ad 7)) (kq : sK S q = 8) (hq : ∀ j, j < cN (A, B) 27 → ad 7 j ≠ q) : RelC (pR S (204 + s) (ad 2 k) (some q)) (up2 ad 7 m q) (up2 (up2 (up2 (up2 (up2 (up2 A 28 m (nI k)) 29 m (nI s)) 30 m a) 31 m b) 32 m c) 33 m d, B) := by
  obtain ⟨hmN, m28, m29⟩ := trmL_lt hm
  have uf : ∀ x, x ≠ 31 → x ≠ 32 → x ≠ 33 → (up2 (up2 (up2 (up2 (up2 (up2 A 28 m (nI k)) 29 m (nI s)) 30 m a) 31 m b) 32 m c) 33 m d) x = A x := fun x h31 h32 h33 => funext fun j => by
    rw [up2_n1 h33, up2_n1 h32, up2_n1 h31]
    by_cases q0 : j = m
    · subst q0
      by_cases q1 : x = 30
      · subst q1; exact up2_s.trans e30.symm
      · rw [up2_n1 q1]
        by_cases q2 : x = 29
        · subst q2; exact up2_s.trans m29.symm
        · rw [up2_n1 q2]
          by_cases q3 : x = 28
          · subst q3; exact up2_s.trans m28.symm
          · rw [up2_n1 q3]
    · rw [up2_n2 q0, up2_n2 q0, up2_n2 q0]
  have uj : ∀ x j, j ≠ m → (up2 (up2 (up2 (up2 (up2 (up2 A 28 m (nI k)) 29 m (nI s)) 30 m a) 31 m b) 32 m c) 33 m d) x j = A x j := fun x j hj => (up2_n2 hj).trans ((up2_n2 hj).trans ((up2_n2 hj).trans ((up2_n2 hj).trans ((up2_n2 hj).trans (up2_n2 hj)))))
  obtain ⟨σ', hσ⟩ : ∃ σ', σ' = (up2 (up2 (up2 (up2 (up2 (up2 A 28 m (nI k)) 29 m (nI s)) 30 m a) 31 m b) 32 m c) 33 m d, B) := ⟨_, rfl⟩
  have eA : σ'.1 = up2 (up2 (up2 (up2 (up2 (up2 A 28 m (nI k)) 29 m (nI s)) 30 m a) 31 m b) 32 m c) 33 m d := by rw [hσ]
  have eB : σ'.2 = B := by rw [hσ]
  rw [← hσ]
  rw [← eA] at uf uj
  have v33 : σ'.1 33 m = d := by rw [eA]; exact up2_s
  have v32 : σ'.1 32 m = c := by rw [eA]; exact (up2_n1 (by decide)).trans up2_s
  have v31 : σ'.1 31 m = b := by rw [eA]; exact (up2_n1 (by decide)).trans ((up2_n1 (by decide)).trans up2_s)
  have v30 : σ'.1 30 m = a := (congrFun (uf 30 (by decide) (by decide) (by decide)) m).trans e30
  have v29 : σ'.1 29 m = nI s := (congrFun (uf 29 (by decide) (by decide) (by decide)) m).trans m29
  have v28 : σ'.1 28 m = nI k := (congrFun (uf 28 (by decide) (by decide) (by decide)) m).trans m28
  have hlv : ∀ i j, cLv σ' i j = cLv (A, B) i j := fun i j => cLv_congr (by unfold cN; rw [eB]) (by unfold cN; rw [eB]) (by unfold cN; rw [eB]) (by unfold cN; rw [eB]) (by unfold cN; rw [eB])
  have eN : ∀ x, cN σ' x = cN (A, B) x := fun x => by unfold cN; rw [eB]
  have tL : ∀ x y n, trmL σ' x y n = trmL (A, B) x y n := fun x y n => trmL_congr fun i _ => ⟨congrFun (uf 28 (by decide) (by decide) (by decide)) i, congrFun (uf 29 (by decide) (by decide) (by decide)) i⟩
  have em : ∀ k, rMrg σ' k (rN σ' k) = rMrg (A, B) k (rN (A, B) k) := fun k => by
    rw [show rN σ' k = rN (A, B) k by unfold rN; rw [uf 34 (by decide) (by decide) (by decide)]]
    exact rMrg_congr (uf 35 (by decide) (by decide) (by decide)) (uf 36 (by decide) (by decide) (by decide)) (uf 37 (by decide) (by decide) (by decide)) _
  have ao : ∀ i j, ¬ (i = 7 ∧ j = m) → up2 ad 7 m q i j = ad i j := fun i j z => if_neg z
  have ae : up2 ad 7 m q 7 m = q := up2_s
  have h' := h
  obtain ⟨h1, h2, h3, h4, h5, h6, h7, h8, h9, h10, h11⟩ := h'
  -- the last of its home and sort: no other list reads it
  have nt : ∀ x y n j, n ≤ cN (A, B) 27 → trmL (A, B) x y n = some j → (x = nI k ∧ y = nI s ∧ n = cN (A, B) 27) ∨ j ≠ m ∨ (x = nI k ∧ y = nI s) := fun x y n j _ hj => by
    by_cases e : j = m
    · subst e
      obtain ⟨-, a1, a2⟩ := trmL_lt hj
      exact Or.inr (Or.inr ⟨a1.symm.trans m28, a2.symm.trans m29⟩)
    · exact Or.inr (Or.inl e)
  have nb : ∀ i, i < cN (A, B) 27 → i ≠ m → ∀ j, trmL (A, B) (A 28 i) (A 29 i) i = some j → j ≠ m := fun i hi him j hj e => by
    subst e
    obtain ⟨a0, a1, a2⟩ := trmL_lt hj
    have a1' : A 28 i = nI k := a1.symm.trans m28
    have a2' : A 29 i = nI s := a2.symm.trans m29
    have : ∀ n, i < n → n ≤ cN (A, B) 27 → ∀ j, trmL (A, B) (nI k) (nI s) n = some j → i ≤ j := by
      intro n
      induction n with
      | zero => intro z; omega
      | succ n ih =>
        intro z1 z2 j2 hj2
        by_cases p : A 28 n = nI k ∧ A 29 n = nI s
        · rw [trmL_t (σ := (A, B)) p] at hj2
          cases hj2
          omega
        · rw [trmL_f (σ := (A, B)) p] at hj2
          by_cases z3 : i = n
          · subst z3; exact absurd ⟨a1', a2'⟩ p
          · exact ih (by omega) (by omega) j2 hj2
    have := this _ hi (Nat.le_refl _) j hm
    omega
  have mp : ∀ o : Option Nat, (∀ j, o = some j → j ≠ m) → o.map (up2 ad 7 m q 7) = o.map (ad 7) := fun o z => by
    cases o with
    | none => rfl
    | some j => exact congrArg some (up2_n2 (z j rfl))
  refine ⟨fun i j a1 a2 a3 l => ?_, fun i j j' a1 a2 a3 l l' e => ?_, fun g j x y l => ?_, fun g j x y l => ?_, fun i j x y l => ?_, fun k hk => ?_, fun j hj => ?_, fun j hj => ?_, fun j hj => ?_, fun j hj => ?_, fun j hj => ?_⟩
  · rw [hlv] at l
    by_cases e : i = 7 ∧ j = m
    · obtain ⟨rfl, rfl⟩ := e
      rw [ae]; exact kq
    · rw [ao i j e]; exact h1 i j a1 a2 a3 l
  · rw [hlv] at l l'
    by_cases e1 : i = 7 ∧ j = m
    · obtain ⟨rfl, rfl⟩ := e1
      by_cases e2 : j' = j
      · exact e2.symm
      · rw [ae, ao 7 j' fun z => e2 z.2] at e
        exact absurd e.symm (hq j' l')
    · rw [ao i j e1] at e
      by_cases e2 : i = 7 ∧ j' = m
      · obtain ⟨rfl, rfl⟩ := e2
        rw [ae] at e
        exact absurd e (hq j l)
      · rw [ao i j' e2] at e
        exact h2 i j j' a1 a2 a3 l l' e
  · rw [hlv] at l
    show sI S g _ = _
    by_cases e : g / 100 = 7 ∧ j = m
    · obtain ⟨e1, rfl⟩ := e
      rw [e1, ae]
      have hm : g = 701 ∨ g = 702 ∨ g = 703 ∨ g = 704 ∨ g = 705 ∨ g = 706 := by
        have hh := lGI_m x y
        simp only [lGI, List.mem_cons, List.not_mem_nil, or_false] at hh
        omega
      rcases hm with rfl | rfl | rfl | rfl | rfl | rfl
      · exact i701.trans v30.symm
      · refine i702.trans ?_
        show _ = if σ'.1 29 j = 2 then σ'.1 31 j else σ'.1 30 j
        rw [v29, v30, v31]
      · exact i703.trans v33.symm
      · refine i704.trans ?_
        show _ = if σ'.1 29 j = 0 then σ'.1 31 j else 0
        rw [v29, v31]
      · refine i705.trans ?_
        show _ = if σ'.1 29 j = 0 then σ'.1 32 j else 0
        rw [v29, v32]
      · refine i706.trans ?_
        show _ = if σ'.1 29 j = 1 then σ'.1 31 j else 0
        rw [v29, v31]
    · rw [ao _ j e, h3 g j x y l]
      by_cases g9 : g < 800
      · refine (cI_at x y g9 (fun z hz => ?_) (fun _ => em j)).symm
        by_cases e7 : g / 100 = 7
        · exact uj z j fun w => e ⟨e7, w⟩
        · exact congrFun (uf z (fun w => by subst w; exact e7 hz.symm) (fun w => by subst w; exact e7 hz.symm) (fun w => by subst w; exact e7 hz.symm)) j
      · refine (cI_8 x y g9 ?_).symm
        rw [eB]
  · rw [hlv] at l
    show up2 (sR S) (204 + s) (ad 2 k) (some q) g (up2 ad 7 m q (g / 100) j) = _
    by_cases gp : g = 204 + s ∧ j = k
    · obtain ⟨rfl, rfl⟩ := gp
      rw [show (204 + s) / 100 = 2 by omega, ao 2 j fun z => absurd z.1 (by decide)]
      refine up2_s.trans ?_
      have ec : cR σ' (up2 ad 7 m q) (204 + s) j = (trmL σ' (nI j) (nI s) (cN σ' 27)).map (up2 ad 7 m q 7) := by
        rcases (show s = 0 ∨ s = 1 ∨ s = 2 by omega) with rfl | rfl | rfl <;> rfl
      rw [ec, tL, eN, hm]
      exact congrArg some ae.symm
    · by_cases e : g / 100 = 7 ∧ j = m
      · obtain ⟨e1, rfl⟩ := e
        have hm2 : g = 700 := by
          have hh := lGR_m x y
          simp only [lGR, List.mem_cons, List.not_mem_nil, or_false] at hh
          omega
        subst hm2
        rw [show (700 : Nat) / 100 = 7 from rfl, ae]
        refine (up2_n1 (by omega)).trans (r700.trans ?_)
        show _ = (trmL σ' (σ'.1 28 j) (σ'.1 29 j) j).map (up2 ad 7 j q 7)
        rw [v28, v29, tL]
        exact (mp _ fun y hy => by have := (trmL_lt hy).1; omega).symm
      · rw [ao _ j e]
        have up2_o : up2 (sR S) (204 + s) (ad 2 k) (some q) g (ad (g / 100) j) = sR S g (ad (g / 100) j) := by
          by_cases g0 : g = 204 + s
          · subst g0
            have e2 : (204 + s) / 100 = 2 := by omega
            rw [e2] at l ⊢
            exact up2_n2 fun w => gp ⟨rfl, h2 2 j k (by decide) (by decide) (by decide) l hk w⟩
          · exact up2_n1 g0
        rw [up2_o, h4 g j x y l]
        have hc : cR σ' ad g j = cR (A, B) ad g j := cR_at x y (fun _ => congrFun (uf 10 (by decide) (by decide) (by decide)) j) (fun _ => by rw [eN]; exact ordL_congr fun i _ => congrFun (uf 39 (by decide) (by decide) (by decide)) i) (fun s _ _ => by rw [eN, tL]) (fun _ => by rw [uf 39 (by decide) (by decide) (by decide)]; exact ordL_congr fun i _ => congrFun (uf 39 (by decide) (by decide) (by decide)) i) (fun _ => congrFun (uf 44 (by decide) (by decide) (by decide)) j) (fun _ => congrFun (uf 45 (by decide) (by decide) (by decide)) j) (fun _ => by rw [tL, uf 28 (by decide) (by decide) (by decide), uf 29 (by decide) (by decide) (by decide)])
        rw [← hc]
        have hm2 := lGR_m x y
        simp only [lGR, List.mem_cons, List.not_mem_nil, or_false] at hm2
        have o7 : ∀ i j, i ≠ 7 → up2 ad 7 m q i j = ad i j := fun i j z => ao i j fun w => z w.1
        have o7f : ∀ i, i ≠ 7 → up2 ad 7 m q i = ad i := fun i z => funext fun j => o7 i j z
        rcases hm2 with rfl | rfl | rfl | rfl | rfl | rfl | rfl | rfl | rfl | rfl | rfl | rfl | rfl | rfl | rfl | rfl | rfl | rfl | rfl | rfl | rfl | rfl | rfl | rfl | rfl | rfl
        · exact congrArg some (o7 _ _ (by decide)).symm
        · exact congrArg some (o7 _ _ (by decide)).symm
        · exact congrArg some (o7 _ _ (by decide)).symm
        · exact congrArg (fun f => Option.map f _) (o7f 3 (by decide)).symm
        · show (if σ'.1 10 j = -1 then none else some (ad 6 (nx (σ'.1 10 j)))) = (if σ'.1 10 j = -1 then none else some (up2 ad 7 m q 6 (nx (σ'.1 10 j))))
          rw [o7 6 _ (by decide)]
        · show (trmL σ' (nI j) (nI 0) (cN σ' 27)).map (ad 7) = (trmL σ' (nI j) (nI 0) (cN σ' 27)).map (up2 ad 7 m q 7)
          refine (mp _ fun y hy w => ?_).symm
          subst w
          rw [tL] at hy
          obtain ⟨-, a1, a2⟩ := trmL_lt hy
          have b1 := (nI_eq (by omega) (by have : j < cN (A, B) 20 := l; omega)).mp (m28.symm.trans a1)
          have b2 := (nI_eq (by omega) (by omega)).mp (m29.symm.trans a2)
          exact gp ⟨by omega, b1.symm⟩
        · show (trmL σ' (nI j) (nI 1) (cN σ' 27)).map (ad 7) = (trmL σ' (nI j) (nI 1) (cN σ' 27)).map (up2 ad 7 m q 7)
          refine (mp _ fun y hy w => ?_).symm
          subst w
          rw [tL] at hy
          obtain ⟨-, a1, a2⟩ := trmL_lt hy
          have b1 := (nI_eq (by omega) (by have : j < cN (A, B) 20 := l; omega)).mp (m28.symm.trans a1)
          have b2 := (nI_eq (by omega) (by omega)).mp (m29.symm.trans a2)
          exact gp ⟨by omega, b1.symm⟩
        · show (trmL σ' (nI j) (nI 2) (cN σ' 27)).map (ad 7) = (trmL σ' (nI j) (nI 2) (cN σ' 27)).map (up2 ad 7 m q 7)
          refine (mp _ fun y hy w => ?_).symm
          subst w
          rw [tL] at hy
          obtain ⟨-, a1, a2⟩ := trmL_lt hy
          have b1 := (nI_eq (by omega) (by have : j < cN (A, B) 20 := l; omega)).mp (m28.symm.trans a1)
          have b2 := (nI_eq (by omega) (by omega)).mp (m29.symm.trans a2)
          exact gp ⟨by omega, b1.symm⟩
        · exact congrArg (fun f => Option.map f _) (o7f 3 (by decide)).symm
        · exact congrArg some (o7 _ _ (by decide)).symm
        · exact congrArg some (o7 _ _ (by decide)).symm
        · exact congrArg some (o7 _ _ (by decide)).symm
        · exact congrArg some (o7 _ _ (by decide)).symm
        · exact congrArg some (o7 _ _ (by decide)).symm
        · exact congrArg some (o7 _ _ (by decide)).symm
        · exact congrArg some (o7 _ _ (by decide)).symm
        · exact congrArg some (o7 _ _ (by decide)).symm
        · exact congrArg some (o7 _ _ (by decide)).symm
        · exact congrArg some (o7 _ _ (by decide)).symm
        · exact congrArg some (o7 _ _ (by decide)).symm
        · exact congrArg some (o7 _ _ (by decide)).symm
        · show (trmL σ' (σ'.1 28 j) (σ'.1 29 j) j).map (ad 7) = (trmL σ' (σ'.1 28 j) (σ'.1 29 j) j).map (up2 ad 7 m q 7)
          refine (mp _ fun y hy => ?_).symm
          rw [tL, uf 28 (by decide) (by decide) (by decide), uf 29 (by decide) (by decide) (by decide)] at hy
          exact nb j l (fun w => e ⟨rfl, w⟩) y hy
        · exact congrArg some (o7 _ _ (by decide)).symm
        · exact congrArg some (o7 _ _ (by decide)).symm
        · exact congrArg some (o7 _ _ (by decide)).symm
        · exact congrArg some (o7 _ _ (by decide)).symm
  · rw [hlv] at l
    rw [ao i j fun z => by omega]
    exact h5 i j x y l
  · rw [eN] at hk
    rw [em, uf 19 (by decide) (by decide) (by decide), ao 11 k fun z => absurd z.1 (by decide), ao 12 k fun z => absurd z.1 (by decide), ao 13 k fun z => absurd z.1 (by decide), ao 14 k fun z => absurd z.1 (by decide)]
    exact h6 k hk
  · rw [eN, ao 15 0 fun z => absurd z.1 (by decide), ao 0 j fun z => absurd z.1 (by decide)]
    exact h7 j hj
  · rw [eN, ao 16 0 fun z => absurd z.1 (by decide), ao 2 j fun z => absurd z.1 (by decide)]
    exact h8 j hj
  · rw [eN, ao 17 0 fun z => absurd z.1 (by decide), ao 6 j fun z => absurd z.1 (by decide)]
    exact h9 j hj
  · rw [ao 23 0 fun z => absurd z.1 (by decide), ao 24 j fun z => absurd z.1 (by decide)]
    exact h10 j hj
  · rw [ao 26 0 fun z => absurd z.1 (by decide), ao 27 j fun z => absurd z.1 (by decide)]
    exact h11 j hj
/-- what homes were told: in the order of days, at most today -/
def JT (σ : aS) : Prop := (∀ i, i < cN σ 27 → ∃ d, d ≤ cN σ 0 ∧ σ.1 30 i = nI d) ∧ ∀ i j, i < j → j < cN σ 27 → σ.1 28 i = σ.1 28 j → σ.1 29 i = σ.1 29 j → σ.1 30 i ≤ σ.1 30 j
theorem trmL_last {σ : aS} {x y : Int32} : ∀ {n m : Nat}, trmL σ x y n = some m → ∀ i, m < i → i < n → ¬ (σ.1 28 i = x ∧ σ.1 29 i = y)
  | 0, _, _ => fun i _ hi => absurd hi (Nat.not_lt_zero _)
  | n + 1, m, h => fun i h1 h2 => by
    by_cases p : σ.1 28 n = x ∧ σ.1 29 n = y
    · rw [trmL_t p] at h
      cases h
      omega
    · rw [trmL_f p] at h
      by_cases e : i = n
      · rw [e]; exact p
      · exact trmL_last h i h1 (by omega)
theorem trmL_nn {σ : aS} {x y : Int32} : ∀ {n : Nat}, trmL σ x y n = none → ∀ i, i < n → ¬ (σ.1 28 i = x ∧ σ.1 29 i = y)
  | 0, _ => fun i hi => absurd hi (Nat.not_lt_zero _)
  | n + 1, h => fun i hi => by
    by_cases p : σ.1 28 n = x ∧ σ.1 29 n = y
    · rw [trmL_t p] at h
      cases h
    · rw [trmL_f p] at h
      by_cases e : i = n
      · rw [e]; exact p
      · exact trmL_nn h i (by omega)
theorem tTells_no {σ : aS} {x y : Int32} : ∀ {n : Nat}, (∀ i, i < n → ¬ (σ.1 28 i = x ∧ σ.1 29 i = y ∧ σ.1 30 i = σ.2 0)) → tTells σ x y n = σ.2 27
  | 0, _ => rfl
  | n + 1, h => by
    unfold tTells
    rw [if_neg (h n (Nat.lt_succ_self n))]
    exact tTells_no fun i hi => h i (by omega)
theorem tTells_at {σ : aS} {x y : Int32} {m : Nat} (hm : σ.1 28 m = x ∧ σ.1 29 m = y ∧ σ.1 30 m = σ.2 0) : ∀ {n : Nat}, m < n → (∀ i, m < i → i < n → ¬ (σ.1 28 i = x ∧ σ.1 29 i = y)) → tTells σ x y n = nI m
  | 0, h, _ => absurd h (Nat.not_lt_zero _)
  | n + 1, h, hl => by
    unfold tTells
    by_cases e : m = n
    · subst e; exact if_pos hm
    · rw [if_neg fun z => hl n (by omega) (Nat.lt_succ_self n) ⟨z.1, z.2.1⟩]
      exact tTells_at hm (by omega) fun i h1 h2 => hl i h1 (by omega)
/-- the reference writes over the last of its home and sort where that was told today, else behind all -/
theorem tTells_R {σ : aS} {x y : Int32} {m : Nat} (hm : trmL σ x y (cN σ 27) = some m) (h30 : σ.1 30 m = σ.2 0) : tTells σ x y (cN σ 27) = nI m :=
  tTells_at ⟨(trmL_lt hm).2.1, (trmL_lt hm).2.2, h30⟩ (trmL_lt hm).1 fun i h1 h2 => trmL_last hm i h1 h2
theorem tTells_A {σ : aS} {x y : Int32} (hI : IC σ) (hT : JT σ) (h : ∀ m, trmL σ x y (cN σ 27) = some m → ¬ σ.1 30 m = σ.2 0) : tTells σ x y (cN σ 27) = σ.2 27 := tTells_no fun i hi q => by
  have c0 := hI.1.2
  cases hm : trmL σ x y (cN σ 27) with
  | none => exact trmL_nn hm i hi ⟨q.1, q.2.1⟩
  | some m =>
    obtain ⟨m1, m2, m3⟩ := trmL_lt hm
    by_cases e : i = m
    · subst e; exact h i hm q.2.2
    · by_cases e2 : i < m
      · have q2 := hT.2 i m e2 m1 (q.1.trans m2.symm) (q.2.1.trans m3.symm)
        obtain ⟨d, d1, d2⟩ := hT.1 m m1
        rw [q.2.2, d2, hI.1.1] at q2
        have := (nI_leI (by omega) (by omega)).mp q2
        exact h m hm (by rw [d2, hI.1.1, show d = cN σ 0 by omega])
      · exact trmL_last hm i (by omega) hi ⟨q.1, q.2.1⟩

