/-! THE CLASS'S STATE: its objects by family and index (ad), what each holds as a function of the reference's state. -/
def olast (p : Nat → Prop) [DecidablePred p] : Nat → Option Nat
  | 0 => none
  | n + 1 => if p n then some n else olast p n
theorem olast_t {p : Nat → Prop} [DecidablePred p] {n : Nat} (h : p n) : olast p (n + 1) = some n := if_pos h
theorem olast_f {p : Nat → Prop} [DecidablePred p] {n : Nat} (h : ¬ p n) : olast p (n + 1) = olast p n := if_neg h
theorem olast_s {p : Nat → Prop} [DecidablePred p] : ∀ {n j : Nat}, olast p n = some j → j < n ∧ p j
  | 0, j, h => by cases h
  | n + 1, j, h => by
    by_cases q : p n
    · rw [olast_t q] at h
      cases h
      exact ⟨Nat.lt_succ_self _, q⟩
    · rw [olast_f q] at h
      have := olast_s h
      exact ⟨Nat.lt_succ_of_lt this.1, this.2⟩
theorem flast_olast (p : Nat → Prop) [DecidablePred p] : ∀ n, flast p n = match olast p n with | none => -1 | some j => nI j
  | 0 => rfl
  | n + 1 => by
    by_cases q : p n
    · rw [flast_t q, olast_t q]
    · rw [flast_f q, olast_f q]; exact flast_olast p n
/-- of those with p, the last one with q besides: none, if there is none with p; the last one itself, or one ahead of it -/
theorem olast_and {p q : Nat → Prop} [DecidablePred p] [DecidablePred q] : ∀ {n : Nat}, (olast p n = none → olast (fun i => p i ∧ q i) n = none) ∧ ∀ j, olast p n = some j → olast (fun i => p i ∧ q i) n = if q j then some j else olast (fun i => p i ∧ q i) j
  | 0 => ⟨fun _ => rfl, fun j h => by cases h⟩
  | n + 1 => by
    obtain ⟨h1, h2⟩ := olast_and (p := p) (q := q) (n := n)
    by_cases hp : p n
    · rw [olast_t hp]
      refine ⟨fun h => (by cases h), fun j h => ?_⟩
      cases h
      by_cases hq : q n
      · rw [if_pos hq]; exact if_pos ⟨hp, hq⟩
      · rw [if_neg hq]; exact if_neg fun z => hq z.2
    · rw [olast_f hp]
      have e : olast (fun i => p i ∧ q i) (n + 1) = olast (fun i => p i ∧ q i) n := if_neg fun z => hp z.1
      rw [e]
      exact ⟨h1, h2⟩
theorem olast_congr {p q : Nat → Prop} [DecidablePred p] [DecidablePred q] : ∀ {n : Nat}, (∀ i, i < n → (p i ↔ q i)) → olast p n = olast q n
  | 0, _ => rfl
  | n + 1, h => by
    by_cases hp : p n
    · rw [olast_t hp, olast_t ((h n (Nat.lt_succ_self n)).mp hp)]
    · rw [olast_f hp, olast_f fun z => hp ((h n (Nat.lt_succ_self n)).mpr z)]
      exact olast_congr fun i hi => h i (Nat.lt_succ_of_lt hi)
/-- a child's reports, merged: how many rows; their days, sources, weights -/
abbrev rS : Type := Nat × (Nat → Int32) × (Nat → Int32) × (Nat → Int32)
def rFind (d s : Int32) (D S : Nat → Int32) : Nat → Nat → Option Nat
  | 0, _ => none
  | t + 1, r => if D r = d ∧ S r = s then some r else rFind d s D S t (r + 1)
def rTell (R : rS) (d s w : Int32) : rS := match rFind d s R.2.1 R.2.2.1 R.1 0 with
  | some r => (R.1, R.2.1, R.2.2.1, up1 R.2.2.2 r (if R.2.2.2 r < w then w else R.2.2.2 r))
  | none => (R.1 + 1, up1 R.2.1 R.1 d, up1 R.2.2.1 R.1 s, up1 R.2.2.2 R.1 w)
def rMrg (σ : aS) (k : Nat) : Nat → rS
  | 0 => (0, fun _ => 0, fun _ => 0, fun _ => 0)
  | i + 1 => rTell (rMrg σ k i) (σ.1 37 (30 * k + i)) (σ.1 35 (30 * k + i)) (σ.1 36 (30 * k + i))
/-- kinds and lengths of the families -/
def cKd (i : Nat) : Nat := if i < 10 then i + 1 else if i = 11 then 111 else if i = 12 then 121 else if i = 13 then 131 else if i = 14 then 141 else if i = 15 then 104 else if i = 16 then 105 else if i = 17 then 106 else if i = 21 then 114 else if i = 22 then 151 else if i = 23 then 107 else if i = 24 then 161 else if i = 25 then 171 else if i = 26 then 117 else if i = 27 then 181 else if i = 28 then 103 else 113
def cLen (i : Nat) : Nat := if i = 11 then 10 else if i ≤ 14 then 30 else if i = 15 then 16 else if i = 16 then 10 else if i = 17 then 100 else if i ≤ 20 then 32 else if i ≤ 23 then 5 else if i ≤ 26 then 10 else 32
def cLv (σ : aS) (i j : Nat) : Prop := if i = 2 then j < cN σ 20 else if i = 3 then j < cN σ 38 else if i = 6 then j < cN σ 43 else if i = 7 then j < cN σ 27 else if i = 0 ∨ i = 1 ∨ i = 5 ∨ (11 ≤ i ∧ i ≤ 14) then j < cN σ 1 else if i = 24 then j < 5 else if i = 27 then j < 10 else j = 0
def cI (σ : aS) (g j : Nat) : Int32 :=
  if g < 100 then (if g = 0 then nI j else if g = 1 then σ.1 3 j - σ.1 2 j else if g = 2 then σ.1 4 j else if g = 3 then σ.1 5 j else if g = 4 then σ.1 6 j else if g = 5 then σ.1 7 j else if g = 9 then σ.1 8 j else σ.1 11 j)
  else if g < 200 then (if g = 100 then σ.1 12 j else if g = 101 then σ.1 13 j else if g = 102 then σ.1 14 j else if g = 103 then σ.1 15 j else if g = 104 then σ.1 16 j else if g = 105 then σ.1 17 j else σ.1 18 j)
  else if g < 300 then (if g = 200 then nI j else if g = 201 then σ.1 21 j else if g = 202 then σ.1 22 j else if g = 203 then σ.1 23 j else if g = 207 then σ.1 25 j else σ.1 26 j)
  else if g < 400 then (if g = 300 then nI j else if g = 301 then σ.1 40 j else if g = 302 then σ.1 41 j else σ.1 42 j + 1)
  else if g < 600 then (if g = 503 then nI (rMrg σ j (rN σ j)).1 else if g = 504 then σ.1 34 j else σ.1 9 j)
  else if g < 700 then (if g = 602 then σ.1 46 j else if g = 603 then σ.1 48 j else σ.1 47 j)
  else if g < 800 then (if g = 701 then σ.1 30 j else if g = 702 then (if σ.1 29 j = 2 then σ.1 31 j else σ.1 30 j) else if g = 703 then σ.1 33 j else if g = 704 then (if σ.1 29 j = 0 then σ.1 31 j else 0) else if g = 705 then (if σ.1 29 j = 0 then σ.1 32 j else 0) else (if σ.1 29 j = 1 then σ.1 31 j else 0))
  else (if g = 804 then σ.2 1 else if g = 805 then σ.2 20 else if g = 806 then σ.2 38 else if g = 807 then σ.2 43 else σ.2 0)
def ordP (σ : aS) (x : Int32) (i : Nat) : Prop := σ.1 39 i = x
def trmP (σ : aS) (h s : Int32) (i : Nat) : Prop := σ.1 28 i = h ∧ σ.1 29 i = s
noncomputable def ordL (σ : aS) (x : Int32) (n : Nat) : Option Nat := @olast (ordP σ x) (fun _ => Classical.propDecidable _) n
noncomputable def trmL (σ : aS) (h s : Int32) (n : Nat) : Option Nat := @olast (trmP σ h s) (fun _ => Classical.propDecidable _) n
noncomputable def cR (σ : aS) (ad : Nat → Nat → Nat) (g j : Nat) : Option Nat :=
  if g < 100 then (if g = 6 then some (ad 11 j) else if g = 7 then some (ad 5 j) else if g = 8 then some (ad 1 j) else if g = 10 then (ordL σ (nI j) (cN σ 38)).map (ad 3) else if σ.1 10 j = -1 then none else some (ad 6 (nx (σ.1 10 j))))
  else if g < 300 then (trmL σ (nI j) (nI (g - 204)) (cN σ 27)).map (ad 7)
  else if g < 400 then (ordL σ (σ.1 39 j) j).map (ad 3)
  else if g < 500 then some (ad (if g = 400 then 21 else if g = 401 then 22 else if g = 402 then 23 else if g = 403 then 25 else if g = 404 then 26 else if g = 405 then 28 else 29) 0)
  else if g < 600 then some (ad (g - 488) j)
  else if g < 700 then (if g = 600 then some (ad 0 (nx (σ.1 44 j))) else some (ad 2 (nx (σ.1 45 j))))
  else if g < 800 then (trmL σ (σ.1 28 j) (σ.1 29 j) j).map (ad 7)
  else some (if g = 803 then ad 4 0 else ad (g - 785) 0)
/-- a field of the class's own -/
def cFd (g : Nat) : Prop := g ≤ 12 ∨ (100 ≤ g ∧ g ≤ 106) ∨ (200 ≤ g ∧ g ≤ 208) ∨ (300 ≤ g ∧ g ≤ 304) ∨ (400 ≤ g ∧ g ≤ 406) ∨ (500 ≤ g ∧ g ≤ 505) ∨ (600 ≤ g ∧ g ≤ 604) ∨ (700 ≤ g ∧ g ≤ 706) ∨ (800 ≤ g ∧ g ≤ 808)
def RelC (S : sS) (ad : Nat → Nat → Nat) (σ : aS) : Prop :=
  (∀ i j, i < 30 → i ≠ 9 → i ≠ 10 → cLv σ i j → sK S (ad i j) = cKd i) ∧
  (∀ i j j', i < 30 → i ≠ 9 → i ≠ 10 → cLv σ i j → cLv σ i j' → ad i j = ad i j' → j = j') ∧
  (∀ g j, cFd g → fRef g = false → cLv σ (g / 100) j → sI S g (ad (g / 100) j) = cI σ g j) ∧
  (∀ g j, cFd g → fRef g = true → cLv σ (g / 100) j → sR S g (ad (g / 100) j) = cR σ ad g j) ∧
  (∀ i j, 11 ≤ i → i < 30 → cLv σ i j → sL S (ad i j) = cLen i) ∧
  (∀ k, k < cN σ 1 → (∀ j, j < 10 → sA S (ad 11 k) j = σ.1 19 (10 * k + j)) ∧ sA S (ad 12 k) = (rMrg σ k (rN σ k)).2.1 ∧ sA S (ad 13 k) = (rMrg σ k (rN σ k)).2.2.1 ∧ sA S (ad 14 k) = (rMrg σ k (rN σ k)).2.2.2) ∧
  (∀ j, j < 16 → sQ S (ad 15 0) j = if j < cN σ 1 then some (ad 0 j) else none) ∧
  (∀ j, j < 10 → sQ S (ad 16 0) j = if j < cN σ 20 then some (ad 2 j) else none) ∧
  (∀ j, j < 100 → sQ S (ad 17 0) j = if j < cN σ 43 then some (ad 6 j) else none) ∧
  (∀ j, j < 5 → sQ S (ad 23 0) j = some (ad 24 j)) ∧ (∀ j, j < 10 → sQ S (ad 26 0) j = some (ad 27 j))
theorem RelC_K {S : sS} {ad : Nat → Nat → Nat} {σ : aS} (h : RelC S ad σ) (i : Nat) {j : Nat} (hi : i < 9) (hl : cLv σ i j) : sK S (ad i j) = i + 1 := by
  rw [h.1 i j (by omega) (by omega) (by omega) hl, cKd, if_pos (by omega)]
theorem RelC_I {S : sS} {ad : Nat → Nat → Nat} {σ : aS} (h : RelC S ad σ) (i g : Nat) {j : Nat} (hg : g / 100 = i) (hf : cFd g) (hr : fRef g = false) (hl : cLv σ i j) : sI S g (ad i j) = cI σ g j := by
  subst hg
  exact h.2.2.1 g j hf hr hl
theorem RelC_R {S : sS} {ad : Nat → Nat → Nat} {σ : aS} (h : RelC S ad σ) (i g : Nat) {j : Nat} (hg : g / 100 = i) (hf : cFd g) (hr : fRef g = true) (hl : cLv σ i j) : sR S g (ad i j) = cR σ ad g j := by
  subst hg
  exact h.2.2.2.1 g j hf hr hl
theorem ite_b {p : Prop} [Decidable p] {a b : Nat} (h1 : 100 ≤ a ∧ a < 1000) (h2 : 100 ≤ b ∧ b < 1000) : 100 ≤ (if p then a else b) ∧ (if p then a else b) < 1000 := by
  by_cases q : p
  · rw [if_pos q]; exact h1
  · rw [if_neg q]; exact h2
theorem isC_kd {i : Nat} (h : i ≠ 9) : isC (cKd i) := by
  unfold isC
  by_cases q : i < 10
  · rw [cKd, if_pos q]; omega
  · rw [cKd, if_neg q]
    refine Or.inr ?_
    repeat refine ite_b (by decide) ?_
    decide
/-- what the reference does leaves the class's own as it was -/
theorem RelC_fr {S S' : sS} {ad : Nat → Nat → Nat} {σ : aS} (h : RelC S ad σ) (hf : Fr isM S S') : RelC S' ad σ := by
  obtain ⟨h1, h2, h3, h4, h5, h6, h7, h8, h9, h10, h11⟩ := h
  have key : ∀ i j, i < 30 → i ≠ 9 → i ≠ 10 → cLv σ i j → sK S' (ad i j) = sK S (ad i j) ∧ sL S' (ad i j) = sL S (ad i j) ∧ (∀ f, sI S' f (ad i j) = sI S f (ad i j)) ∧ (∀ f, sR S' f (ad i j) = sR S f (ad i j)) ∧ sA S' (ad i j) = sA S (ad i j) ∧ sJ S' (ad i j) = sJ S (ad i j) ∧ sQ S' (ad i j) = sQ S (ad i j) := by
    intro i j a1 a2 a3 hl
    have e := h1 i j a1 a2 a3 hl
    have c := isC_kd a2
    refine hf (ad i j) (by rw [e]; unfold isC at c; omega) ?_
    rw [e]
    unfold isC at c
    unfold isM
    omega
  have l0 : ∀ i, i = 15 ∨ i = 16 ∨ i = 17 ∨ i = 23 ∨ i = 26 → cLv σ i 0 := by
    rintro i (rfl | rfl | rfl | rfl | rfl) <;> exact (rfl : (0 : Nat) = 0)
  refine ⟨fun i j a1 a2 a3 hl => (key i j a1 a2 a3 hl).1.trans (h1 i j a1 a2 a3 hl), h2, fun g j a b hl => ?_, fun g j a b hl => ?_, fun i j a b hl => ?_, fun k hk => ?_, fun j hj => ?_, fun j hj => ?_, fun j hj => ?_, fun j hj => ?_, fun j hj => ?_⟩
  · exact ((key _ j (by unfold cFd at a; omega) (by unfold cFd at a; omega) (by unfold cFd at a; omega) hl).2.2.1 g).trans (h3 g j a b hl)
  · exact ((key _ j (by unfold cFd at a; omega) (by unfold cFd at a; omega) (by unfold cFd at a; omega) hl).2.2.2.1 g).trans (h4 g j a b hl)
  · exact (key i j b (by omega) (by omega) hl).2.1.trans (h5 i j a b hl)
  · obtain ⟨a1, a2, a3, a4⟩ := h6 k hk
    exact ⟨fun j hj => (congrFun (key 11 k (by decide) (by decide) (by decide) hk).2.2.2.2.1 j).trans (a1 j hj), (key 12 k (by decide) (by decide) (by decide) hk).2.2.2.2.1.trans a2, (key 13 k (by decide) (by decide) (by decide) hk).2.2.2.2.1.trans a3, (key 14 k (by decide) (by decide) (by decide) hk).2.2.2.2.1.trans a4⟩
  · exact (congrFun (key 15 0 (by decide) (by decide) (by decide) (l0 15 (by omega))).2.2.2.2.2.2 j).trans (h7 j hj)
  · exact (congrFun (key 16 0 (by decide) (by decide) (by decide) (l0 16 (by omega))).2.2.2.2.2.2 j).trans (h8 j hj)
  · exact (congrFun (key 17 0 (by decide) (by decide) (by decide) (l0 17 (by omega))).2.2.2.2.2.2 j).trans (h9 j hj)
  · exact (congrFun (key 23 0 (by decide) (by decide) (by decide) (l0 23 (by omega))).2.2.2.2.2.2 j).trans (h10 j hj)
  · exact (congrFun (key 26 0 (by decide) (by decide) (by decide) (l0 26 (by omega))).2.2.2.2.2.2 j).trans (h11 j hj)
theorem lt_succ32 {v y : Int32} (h : v ≤ 30000) : y < v + 1 ↔ y ≤ v := by
  have h2 := Int32.le_iff_toInt_le.mp h
  have e : (v + 1).toInt = v.toInt + 1 := by
    rw [Int32.toInt_add, show (1 : Int32).toInt = 1 from rfl]
    have h3 := Int32.le_toInt v
    rw [show (30000 : Int32).toInt = 30000 from rfl] at h2
    rw [Int.bmod_eq_of_le] <;> omega
  rw [Int32.lt_iff_toInt_lt, Int32.le_iff_toInt_le, e]
  omega

