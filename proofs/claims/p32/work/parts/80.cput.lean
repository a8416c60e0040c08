/-! THE CLASS WRITES: one field of one object; what else of the state may change. -/
def fmq : Nat → Nat
  | 2 => 4 | 3 => 5 | 4 => 6 | 5 => 7 | 9 => 8 | 12 => 11 | 100 => 12 | 101 => 13 | 102 => 14 | 103 => 15 | 104 => 16 | 105 => 17 | 106 => 18 | 201 => 21 | 202 => 22 | 203 => 23 | 207 => 25 | 208 => 26 | 301 => 40 | 302 => 41 | 505 => 9 | 602 => 46 | 603 => 48 | 604 => 47 | 703 => 33 | _ => 99
def gmq : Nat → Nat
  | 4 => 2 | 5 => 3 | 6 => 4 | 7 => 5 | 8 => 9 | 11 => 12 | 12 => 100 | 13 => 101 | 14 => 102 | 15 => 103 | 16 => 104 | 17 => 105 | 18 => 106 | 21 => 201 | 22 => 202 | 23 => 203 | 25 => 207 | 26 => 208 | 40 => 301 | 41 => 302 | 9 => 505 | 46 => 602 | 48 => 603 | 47 => 604 | 33 => 703 | _ => 999
/-- the fields of the state that the class keeps in another form -/
def spF (f : Nat) : Prop := f = 2 ∨ f = 3 ∨ f = 10 ∨ f = 19 ∨ f = 28 ∨ f = 29 ∨ f = 30 ∨ f = 31 ∨ f = 32 ∨ f = 34 ∨ f = 35 ∨ f = 36 ∨ f = 37 ∨ f = 39 ∨ f = 42 ∨ f = 44 ∨ f = 45
def lGI : List Nat := [0, 1, 2, 3, 4, 5, 9, 12, 100, 101, 102, 103, 104, 105, 106, 200, 201, 202, 203, 207, 208, 300, 301, 302, 303, 503, 504, 505, 602, 603, 604, 701, 702, 703, 704, 705, 706, 804, 805, 806, 807, 808]
theorem lGI_m {g : Nat} (h : cFd g) (hr : fRef g = false) : g ∈ lGI := by
  unfold cFd at h
  have : g = 0 ∨ g = 1 ∨ g = 2 ∨ g = 3 ∨ g = 4 ∨ g = 5 ∨ g = 6 ∨ g = 7 ∨ g = 8 ∨ g = 9 ∨ g = 10 ∨ g = 11 ∨ g = 12 ∨ g = 100 ∨ g = 101 ∨ g = 102 ∨ g = 103 ∨ g = 104 ∨ g = 105 ∨ g = 106 ∨ g = 200 ∨ g = 201 ∨ g = 202 ∨ g = 203 ∨ g = 204 ∨ g = 205 ∨ g = 206 ∨ g = 207 ∨ g = 208 ∨ g = 300 ∨ g = 301 ∨ g = 302 ∨ g = 303 ∨ g = 304 ∨ g = 400 ∨ g = 401 ∨ g = 402 ∨ g = 403 ∨ g = 404 ∨ g = 405 ∨ g = 406 ∨ g = 500 ∨ g = 501 ∨ g = 502 ∨ g = 503 ∨ g = 504 ∨ g = 505 ∨ g = 600 ∨ g = 601 ∨ g = 602 ∨ g = 603 ∨ g = 604 ∨ g = 700 ∨ g = 701 ∨ g = 702 ∨ g = 703 ∨ g = 704 ∨ g = 705 ∨ g = 706 ∨ g = 800 ∨ g = 801 ∨ g = 802 ∨ g = 803 ∨ g = 804 ∨ g = 805 ∨ g = 806 ∨ g = 807 ∨ g = 808 := by omega
  clear h
  rcases this with rfl | rfl | rfl | rfl | rfl | rfl | rfl | rfl | rfl | rfl | rfl | rfl | rfl | rfl | rfl | rfl | rfl | rfl | rfl | rfl | rfl | rfl | rfl | rfl | rfl | rfl | rfl | rfl | rfl | rfl | rfl | rfl | rfl | rfl | rfl | rfl | rfl | rfl | rfl | rfl | rfl | rfl | rfl | rfl | rfl | rfl | rfl | rfl | rfl | rfl | rfl | rfl | rfl | rfl | rfl | rfl | rfl | rfl | rfl | rfl | rfl | rfl | rfl | rfl | rfl | rfl | rfl | rfl
  · decide
  · decide
  · decide
  · decide
  · decide
  · decide
  · exact absurd hr (by decide)
  · exact absurd hr (by decide)
  · exact absurd hr (by decide)
  · decide
  · exact absurd hr (by decide)
  · exact absurd hr (by decide)
  · decide
  · decide
  · decide
  · decide
  · decide
  · decide
  · decide
  · decide
  · decide
  · decide
  · decide
  · decide
  · exact absurd hr (by decide)
  · exact absurd hr (by decide)
  · exact absurd hr (by decide)
  · decide
  · decide
  · decide
  · decide
  · decide
  · decide
  · exact absurd hr (by decide)
  · exact absurd hr (by decide)
  · exact absurd hr (by decide)
  · exact absurd hr (by decide)
  · exact absurd hr (by decide)
  · exact absurd hr (by decide)
  · exact absurd hr (by decide)
  · exact absurd hr (by decide)
  · exact absurd hr (by decide)
  · exact absurd hr (by decide)
  · exact absurd hr (by decide)
  · decide
  · decide
  · decide
  · exact absurd hr (by decide)
  · exact absurd hr (by decide)
  · decide
  · decide
  · decide
  · exact absurd hr (by decide)
  · decide
  · decide
  · decide
  · decide
  · decide
  · decide
  · exact absurd hr (by decide)
  · exact absurd hr (by decide)
  · exact absurd hr (by decide)
  · exact absurd hr (by decide)
  · decide
  · decide
  · decide
  · decide
  · decide
theorem fmq_inv {g : Nat} (h : cFd g) (hr : fRef g = false) (h9 : fmq g ≠ 99) : gmq (fmq g) = g := by
  have : ∀ n ∈ lGI, fmq n ≠ 99 → gmq (fmq n) = n := by decide
  exact this g (lGI_m h hr) h9
theorem rMrg_congr {σ σ' : aS} (h35 : σ'.1 35 = σ.1 35) (h36 : σ'.1 36 = σ.1 36) (h37 : σ'.1 37 = σ.1 37) {k : Nat} : ∀ n, rMrg σ' k n = rMrg σ k n
  | 0 => rfl
  | n + 1 => by
    rw [rMrg, rMrg, rMrg_congr h35 h36 h37 n, h35, h36, h37]
theorem cR_congr {σ σ' : aS} (h10 : σ'.1 10 = σ.1 10) (h28 : σ'.1 28 = σ.1 28) (h29 : σ'.1 29 = σ.1 29) (h39 : σ'.1 39 = σ.1 39) (h44 : σ'.1 44 = σ.1 44) (h45 : σ'.1 45 = σ.1 45) (n38 : cN σ' 38 = cN σ 38) (n27 : cN σ' 27 = cN σ 27) {ad : Nat → Nat → Nat} {g j : Nat} : cR σ' ad g j = cR σ ad g j := by
  unfold cR ordL trmL ordP trmP
  rw [h10, h28, h29, h39, h44, h45, n38, n27]
theorem cLv_congr {σ σ' : aS} (h1 : cN σ' 1 = cN σ 1) (h20 : cN σ' 20 = cN σ 20) (h27 : cN σ' 27 = cN σ 27) (h38 : cN σ' 38 = cN σ 38) (h43 : cN σ' 43 = cN σ 43) {i j : Nat} : cLv σ' i j = cLv σ i j := by
  unfold cLv
  rw [h1, h20, h27, h38, h43]

theorem cI_up {A : Nat → Nat → Int32} {B : Nat → Int32} {f k : Nat} {v : Int32} (hs : ¬ spF f) (h9 : f ≠ 99) {g j : Nat} (hg : cFd g) (hr : fRef g = false) : cI (up2 A f k v, B) g j = if fmq g = f ∧ j = k then v else cI (A, B) g j := by
  unfold spF at hs
  have n9 : ∀ {a b : Int32}, a = b → a = if 99 = f ∧ j = k then v else b := fun e => by rw [if_neg (fun z => h9 z.1.symm)]; exact e
  have h := lGI_m hg hr
  clear hg hr
  have u : ∀ x j, x ≠ f → up2 A f k v x j = A x j := fun x j h => up2_n1 h
  have um : ∀ n, rMrg (up2 A f k v, B) j n = rMrg (A, B) j n := rMrg_congr (funext fun q => u 35 q (by omega)) (funext fun q => u 36 q (by omega)) (funext fun q => u 37 q (by omega))
  have un : rN (up2 A f k v, B) j = rN (A, B) j := congrArg Int32.toNatClampNeg (u 34 j (by omega))
  simp only [lGI, List.mem_cons, List.not_mem_nil, or_false] at h
  rcases h with rfl | rfl | rfl | rfl | rfl | rfl | rfl | rfl | rfl | rfl | rfl | rfl | rfl | rfl | rfl | rfl | rfl | rfl | rfl | rfl | rfl | rfl | rfl | rfl | rfl | rfl | rfl | rfl | rfl | rfl | rfl | rfl | rfl | rfl | rfl | rfl | rfl | rfl | rfl | rfl | rfl | rfl
  · exact n9 rfl
  · refine n9 ?_
    show up2 A f k v 3 j - up2 A f k v 2 j = A 3 j - A 2 j
    rw [u 3 j (by omega), u 2 j (by omega)]
  · rfl
  · rfl
  · rfl
  · rfl
  · rfl
  · rfl
  · rfl
  · rfl
  · rfl
  · rfl
  · rfl
  · rfl
  · rfl
  · exact n9 rfl
  · rfl
  · rfl
  · rfl
  · rfl
  · rfl
  · exact n9 rfl
  · rfl
  · rfl
  · refine n9 ?_
    show up2 A f k v 42 j + 1 = A 42 j + 1
    rw [u 42 j (by omega)]
  · refine n9 ?_
    show nI (rMrg (up2 A f k v, B) j (rN (up2 A f k v, B) j)).1 = nI (rMrg (A, B) j (rN (A, B) j)).1
    rw [um, un]
  · refine n9 ?_
    exact u 34 j (by omega)
  · rfl
  · rfl
  · rfl
  · rfl
  · refine n9 ?_
    exact u 30 j (by omega)
  · refine n9 ?_
    show (if up2 A f k v 29 j = 2 then up2 A f k v 31 j else up2 A f k v 30 j) = (if A 29 j = 2 then A 31 j else A 30 j)
    rw [u 29 j (by omega), u 31 j (by omega), u 30 j (by omega)]
  · rfl
  · refine n9 ?_
    show (if up2 A f k v 29 j = 0 then up2 A f k v 31 j else 0) = (if A 29 j = 0 then A 31 j else 0)
    rw [u 29 j (by omega), u 31 j (by omega)]
  · refine n9 ?_
    show (if up2 A f k v 29 j = 0 then up2 A f k v 32 j else 0) = (if A 29 j = 0 then A 32 j else 0)
    rw [u 29 j (by omega), u 32 j (by omega)]
  · refine n9 ?_
    show (if up2 A f k v 29 j = 1 then up2 A f k v 31 j else 0) = (if A 29 j = 1 then A 31 j else 0)
    rw [u 29 j (by omega), u 31 j (by omega)]
  · exact n9 rfl
  · exact n9 rfl
  · exact n9 rfl
  · exact n9 rfl
  · exact n9 rfl
/-- an int field of a live object is written, and the state with it -/
theorem RelC_pI {S : sS} {ad : Nat → Nat → Nat} {σ σ' : aS} (h : RelC S ad σ) {i g k : Nat} (hg : g / 100 = i) (hf : cFd g) (hl : cLv σ i k) {v : Int32} (e1 : ∀ i j, cLv σ' i j = cLv σ i j)
    (e2 : ∀ g' j, cFd g' → fRef g' = false → cLv σ (g' / 100) j → cI σ' g' j = if g' = g ∧ j = k then v else cI σ g' j)
    (e3 : ∀ g' j, cR σ' ad g' j = cR σ ad g' j) (e4 : σ'.1 19 = σ.1 19) (e5 : ∀ k, rMrg σ' k (rN σ' k) = rMrg σ k (rN σ k)) : RelC (pI S g (ad i k) v) ad σ' := by
  subst hg
  obtain ⟨h1, h2, h3, h4, h5, h6, h7, h8, h9, h10, h11⟩ := h
  have hi : g / 100 < 9 := by unfold cFd at hf; omega
  have c1 : cN σ' 1 = cN σ 1 := by
    have q : ∀ j, (j < cN σ' 1) = (j < cN σ 1) := fun j => e1 0 j
    have a := q (cN σ' 1)
    have b := q (cN σ 1)
    simp only [Nat.lt_irrefl, eq_iff_iff, false_iff, iff_false, Nat.not_lt] at a b
    omega
  have c20 : cN σ' 20 = cN σ 20 := by
    have q : ∀ j, (j < cN σ' 20) = (j < cN σ 20) := fun j => e1 2 j
    have a := q (cN σ' 20)
    have b := q (cN σ 20)
    simp only [Nat.lt_irrefl, eq_iff_iff, false_iff, iff_false, Nat.not_lt] at a b
    omega
  have c43 : cN σ' 43 = cN σ 43 := by
    have q : ∀ j, (j < cN σ' 43) = (j < cN σ 43) := fun j => e1 6 j
    have a := q (cN σ' 43)
    have b := q (cN σ 43)
    simp only [Nat.lt_irrefl, eq_iff_iff, false_iff, iff_false, Nat.not_lt] at a b
    omega
  refine ⟨fun i j a1 a2 a3 l => h1 i j a1 a2 a3 (by rw [← e1]; exact l), fun i j j' a1 a2 a3 l l' => h2 i j j' a1 a2 a3 (by rw [← e1]; exact l) (by rw [← e1]; exact l'), fun g' j a b l => ?_, fun g' j a b l => ?_, fun i j a b l => h5 i j a b (by rw [← e1]; exact l), fun k hk => ?_, ?_, ?_, ?_, h10, h11⟩
  · rw [e1] at l
    rw [e2 g' j a b l]
    show up2 (sI S) g (ad (g / 100) k) v g' (ad (g' / 100) j) = _
    by_cases q : g' = g ∧ j = k
    · rw [if_pos q, q.1, q.2]; exact up2_s
    · rw [if_neg q, ← h3 g' j a b l]
      refine if_neg fun z => q ?_
      obtain ⟨rfl, z2⟩ := z
      exact ⟨rfl, h2 _ j k (by omega) (by omega) (by omega) l hl z2⟩
  · rw [e1] at l
    rw [e3]
    exact h4 g' j a b l
  · rw [c1] at hk
    obtain ⟨a1, a2, a3, a4⟩ := h6 k hk
    refine ⟨fun j hj => (a1 j hj).trans (by rw [e4]), ?_, ?_, ?_⟩
    · rw [e5]; exact a2
    · rw [e5]; exact a3
    · rw [e5]; exact a4
  · rw [c1]; exact h7
  · rw [c20]; exact h8
  · rw [c43]; exact h9
/-- a field that the class keeps as the reference does -/
theorem RelC_up {S : sS} {ad : Nat → Nat → Nat} {A : Nat → Nat → Int32} {B : Nat → Int32} (h : RelC S ad (A, B)) (i g : Nat) {f k : Nat} {v : Int32} (hg : g / 100 = i) (hf : cFd g) (hr : fRef g = false) (hm : fmq g = f) (h9 : f ≠ 99) (hs : ¬ spF f) (hl : cLv (A, B) i k) : RelC (pI S g (ad i k) v) ad (up2 A f k v, B) := by
  have u : ∀ x, x ≠ f → up2 A f k v x = A x := fun x h => funext fun j => up2_n1 h
  have hs' := hs
  unfold spF at hs'
  refine RelC_pI h hg hf hl (fun _ _ => rfl) (fun g' j a b l => ?_) (fun g' j => cR_congr (σ := (A, B)) (σ' := (up2 A f k v, B)) (u 10 (by omega)) (u 28 (by omega)) (u 29 (by omega)) (u 39 (by omega)) (u 44 (by omega)) (u 45 (by omega)) rfl rfl) (u 19 (by omega)) (fun k2 => ?_)
  · rw [cI_up hs h9 a b]
    by_cases q : fmq g' = f ∧ j = k
    · have e : g' = g := by
        have a1 := fmq_inv a b (by rw [q.1]; exact h9)
        have a2 := fmq_inv hf hr (by rw [hm]; exact h9)
        rw [← a1, ← a2, q.1, hm]
      rw [if_pos q, if_pos ⟨e, q.2⟩]
    · rw [if_neg q, if_neg fun z => q ⟨by rw [z.1]; exact hm, z.2⟩]
  · rw [rMrg_congr (σ := (A, B)) (σ' := (up2 A f k v, B)) (u 35 (by omega)) (u 36 (by omega)) (u 37 (by omega))]
    have : rN (up2 A f k v, B) k2 = rN (A, B) k2 := congrArg (fun z => (z k2).toNatClampNeg) (u 34 (by omega))
    rw [this]
/-- numbers that the class does not keep -/
theorem RelC_num {S : sS} {ad : Nat → Nat → Nat} {A : Nat → Nat → Int32} {B B' : Nat → Int32} (h : RelC S ad (A, B)) (h0 : B' 0 = B 0) (h1 : B' 1 = B 1) (h20 : B' 20 = B 20) (h27 : B' 27 = B 27) (h38 : B' 38 = B 38) (h43 : B' 43 = B 43) : RelC S ad (A, B') := by
  have n1 : cN (A, B') 1 = cN (A, B) 1 := congrArg Int32.toNatClampNeg h1
  have n20 : cN (A, B') 20 = cN (A, B) 20 := congrArg Int32.toNatClampNeg h20
  have n27 : cN (A, B') 27 = cN (A, B) 27 := congrArg Int32.toNatClampNeg h27
  have n38 : cN (A, B') 38 = cN (A, B) 38 := congrArg Int32.toNatClampNeg h38
  have n43 : cN (A, B') 43 = cN (A, B) 43 := congrArg Int32.toNatClampNeg h43
  have e1 : ∀ i j, cLv (A, B') i j = cLv (A, B) i j := fun i j => cLv_congr n1 n20 n27 n38 n43
  have em : ∀ k n, rMrg (A, B') k n = rMrg (A, B) k n := fun k => rMrg_congr (σ := (A, B)) (σ' := (A, B')) rfl rfl rfl
  have e2 : ∀ g j, cI (A, B') g j = cI (A, B) g j := fun g j => by
    unfold cI
    rw [em, show rN (A, B') j = rN (A, B) j from rfl]
    dsimp only
    rw [h0, h1, h20, h38, h43]
  have e3 : ∀ g j, cR (A, B') ad g j = cR (A, B) ad g j := fun g j => cR_congr (σ := (A, B)) (σ' := (A, B')) rfl rfl rfl rfl rfl rfl n38 n27
  obtain ⟨a1, a2, a3, a4, a5, a6, a7, a8, a9, a10, a11⟩ := h
  refine ⟨fun i j x y z l => a1 i j x y z (by rw [← e1]; exact l), fun i j j' x y z l l' => a2 i j j' x y z (by rw [← e1]; exact l) (by rw [← e1]; exact l'), fun g j x y l => (a3 g j x y (by rw [← e1]; exact l)).trans (e2 g j).symm, fun g j x y l => (a4 g j x y (by rw [← e1]; exact l)).trans (e3 g j).symm, fun i j x y l => a5 i j x y (by rw [← e1]; exact l), fun k hk => ?_, fun j hj => ?_, fun j hj => ?_, fun j hj => ?_, a10, a11⟩
  · rw [em, show rN (A, B') k = rN (A, B) k from rfl]
    exact a6 k (by rw [← n1]; exact hk)
  · rw [n1]; exact a7 j hj
  · rw [n20]; exact a8 j hj
  · rw [n43]; exact a9 j hj
theorem RelC_56 {S : sS} {ad : Nat → Nat → Nat} {A : Nat → Nat → Int32} {B : Nat → Int32} {t : Int32} (h : RelC S ad (A, B)) : RelC S ad (A, up1 B 56 t) := RelC_num h (up1_n (by decide)) (up1_n (by decide)) (up1_n (by decide)) (up1_n (by decide)) (up1_n (by decide)) (up1_n (by decide))
theorem RelC_49 {S : sS} {ad : Nat → Nat → Nat} {A : Nat → Nat → Int32} {B : Nat → Int32} {t : Int32} (h : RelC S ad (A, B)) : RelC S ad (A, up1 B 49 t) := RelC_num h (up1_n (by decide)) (up1_n (by decide)) (up1_n (by decide)) (up1_n (by decide)) (up1_n (by decide)) (up1_n (by decide))
theorem up2_f {α : Type} {f : Nat → Nat → α} {a b x : Nat} {v : α} (h : x ≠ a) : up2 f a b v x = f x := funext fun _ => up2_n1 h
theorem sI_n1 {S : sS} {f a g b : Nat} {v : Int32} (h : g ≠ f) : sI (pI S f a v) g b = sI S g b := up2_n1 h
theorem sI_n2 {S : sS} {f a g b : Nat} {v : Int32} (h : b ≠ a) : sI (pI S f a v) g b = sI S g b := up2_n2 h
theorem sI_s {S : sS} {f a : Nat} {v : Int32} : sI (pI S f a v) f a = v := up2_s
theorem sR_n1 {S : sS} {f a g b : Nat} {v : Option Nat} (h : g ≠ f) : sR (pR S f a v) g b = sR S g b := up2_n1 h
theorem sR_n2 {S : sS} {f a g b : Nat} {v : Option Nat} (h : b ≠ a) : sR (pR S f a v) g b = sR S g b := up2_n2 h
theorem sR_s {S : sS} {f a : Nat} {v : Option Nat} : sR (pR S f a v) f a = v := up2_s
theorem sI_nO {S : sS} {k q f : Nat} : sI (nO S k q) f q = 0 := if_pos rfl
theorem sR_nO {S : sS} {k q f : Nat} : sR (nO S k q) f q = none := if_pos rfl
/-- the class's own kinds but the rows of guests -/
def isD (k : Nat) : Prop := (1 ≤ k ∧ k < 10) ∨ (100 ≤ k ∧ k < 1000 ∧ k ≠ 181)
theorem Fr_DC {S T : sS} (h : Fr isD S T) : Fr isC S T := fun a ha hn => h a ha fun z => hn (by unfold isD at z; unfold isC; omega)
theorem isD_kd {i : Nat} (h : i < 30) (h9 : i ≠ 9) (h27 : i ≠ 27) : isD (cKd i) := by
  have : ∀ i, i < 30 → i ≠ 9 → i ≠ 27 → (1 ≤ cKd i ∧ cKd i < 10) ∨ (100 ≤ cKd i ∧ cKd i < 1000 ∧ cKd i ≠ 181) ∨ cKd i = 10 := by decide
  rcases this i h h9 h27 with z | z | z
  · exact Or.inl z
  · exact Or.inr z
  · exfalso
    have := isC_kd h9
    rw [z] at this
    unfold isC at this
    omega
/-- the state behind a call of the class -/
def CQ (S : sS) (ad : Nat → Nat → Nat) (σ' : aS) (T : sS) : Prop := ∃ ad', (ad' 8 0 = ad 8 0 ∧ ad' 27 = ad 27) ∧ RelC T ad' σ' ∧ Fr isD S T
/-- the contract of a call of the class that writes -/
def CtC (l : Launch) (G : gG) (y : MethodName) (cc : ByteArray) (mL : Nat) (ret : Option FieldType) (d k n : Nat) (av : List Value) (S : sS) (ad : Nat → Nat → Nat) (v : Option Value) (σ' : aS) : Prop := Ct l G y cc mL ret d k n av S (fun w T => w = v ∧ CQ S ad σ' T) (fun _ _ => False)
theorem CQ_0 {S T : sS} {ad : Nat → Nat → Nat} {σ' : aS} (h : RelC T ad σ') (hf : Fr isD S T) : CQ S ad σ' T := ⟨ad, ⟨rfl, rfl⟩, h, hf⟩

