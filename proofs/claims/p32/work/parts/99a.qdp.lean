/-! THE SEARCH: the best ways for smaller sets, one home after the other, give the best way. -/
def sbt (s k : Nat) : Nat := s &&& (31 ^^^ k)
theorem sbt_0 {s : Nat} (h : s < 32) : sbt s 0 = s := by
  have : ∀ s, s < 32 → s &&& (31 ^^^ 0) = s := by decide
  exact this s h
theorem sbt_le {s k : Nat} : sbt s k ≤ s := Nat.and_le_left
def dpI (gn : Nat → Nat → Int) (D : Nat → Int) (h s : Nat) : Nat → Int × Nat
  | 0 => (D s, 0)
  | k + 1 => if 1 ≤ k ∧ k &&& s = k ∧ 0 ≤ gn k h ∧ 0 ≤ D (sbt s k) ∧ (dpI gn D h s k).1 < D (sbt s k) + gn k h then (D (sbt s k) + gn k h, k) else dpI gn D h s k
theorem dpI_t {gn : Nat → Nat → Int} {D : Nat → Int} {h s k : Nat} (q : 1 ≤ k ∧ k &&& s = k ∧ 0 ≤ gn k h ∧ 0 ≤ D (sbt s k) ∧ (dpI gn D h s k).1 < D (sbt s k) + gn k h) : dpI gn D h s (k + 1) = (D (sbt s k) + gn k h, k) := if_pos q
theorem dpI_f {gn : Nat → Nat → Int} {D : Nat → Int} {h s k : Nat} (q : ¬ (1 ≤ k ∧ k &&& s = k ∧ 0 ≤ gn k h ∧ 0 ≤ D (sbt s k) ∧ (dpI gn D h s k).1 < D (sbt s k) + gn k h)) : dpI gn D h s (k + 1) = dpI gn D h s k := if_neg q
def dpD (gn : Nat → Nat → Int) (L : Nat) : Nat → Nat → Int
  | 0, s => if s = 0 then 0 else -1
  | h + 1, s => if 1 ≤ s ∧ s < L then (dpI gn (dpD gn L h) h s (s + 1)).1 else dpD gn L h s
def dpG (gn : Nat → Nat → Int) (L h s : Nat) : Nat := if 1 ≤ s ∧ s < L then (dpI gn (dpD gn L h) h s (s + 1)).2 else 0
theorem dpI_mono {gn : Nat → Nat → Int} {D : Nat → Int} {h s : Nat} : ∀ k, (dpI gn D h s k).1 ≤ (dpI gn D h s (k + 1)).1 := fun k => by
  by_cases q : 1 ≤ k ∧ k &&& s = k ∧ 0 ≤ gn k h ∧ 0 ≤ D (sbt s k) ∧ (dpI gn D h s k).1 < D (sbt s k) + gn k h
  · rw [dpI_t q]; exact Int.le_of_lt q.2.2.2.2
  · rw [dpI_f q]; exact Int.le_refl _
theorem dpI_le {gn : Nat → Nat → Int} {D : Nat → Int} {h s : Nat} {j : Nat} : ∀ t, (dpI gn D h s j).1 ≤ (dpI gn D h s (j + t)).1
  | 0 => Int.le_refl _
  | t + 1 => Int.le_trans (dpI_le t) (dpI_mono (j + t))
theorem dpI_c {gn : Nat → Nat → Int} {D : Nat → Int} {h s j k : Nat} (hj : j < k) (q : 1 ≤ j ∧ j &&& s = j ∧ 0 ≤ gn j h ∧ 0 ≤ D (sbt s j)) : D (sbt s j) + gn j h ≤ (dpI gn D h s k).1 := by
  have a : D (sbt s j) + gn j h ≤ (dpI gn D h s (j + 1)).1 := by
    by_cases z : (dpI gn D h s j).1 < D (sbt s j) + gn j h
    · rw [dpI_t ⟨q.1, q.2.1, q.2.2.1, q.2.2.2, z⟩]; exact Int.le_refl _
    · rw [dpI_f fun w => z w.2.2.2.2]; exact Int.not_lt.mp z
  have b := dpI_le (gn := gn) (D := D) (h := h) (s := s) (j := j + 1) (k - (j + 1))
  rw [show j + 1 + (k - (j + 1)) = k by omega] at b
  exact Int.le_trans a b
theorem dpI_at {gn : Nat → Nat → Int} {D : Nat → Int} {h s : Nat} : ∀ k, ((dpI gn D h s k).2 = 0 ∧ (dpI gn D h s k).1 = D s) ∨ (1 ≤ (dpI gn D h s k).2 ∧ (dpI gn D h s k).2 < k ∧ (dpI gn D h s k).2 &&& s = (dpI gn D h s k).2 ∧ 0 ≤ gn (dpI gn D h s k).2 h ∧ 0 ≤ D (sbt s (dpI gn D h s k).2) ∧ (dpI gn D h s k).1 = D (sbt s (dpI gn D h s k).2) + gn (dpI gn D h s k).2 h)
  | 0 => Or.inl ⟨rfl, rfl⟩
  | k + 1 => by
    by_cases q : 1 ≤ k ∧ k &&& s = k ∧ 0 ≤ gn k h ∧ 0 ≤ D (sbt s k) ∧ (dpI gn D h s k).1 < D (sbt s k) + gn k h
    · rw [dpI_t q]
      exact Or.inr ⟨q.1, Nat.lt_succ_self k, q.2.1, q.2.2.1, q.2.2.2.1, rfl⟩
    · rw [dpI_f q]
      rcases dpI_at k with z | ⟨z1, z2, z3⟩
      · exact Or.inl z
      · exact Or.inr ⟨z1, Nat.lt_succ_of_lt z2, z3⟩
/-- the sets at the homes below h, out of the set s; what they weigh -/
def Fe (gn : Nat → Nat → Int) : Nat → Nat → (Nat → Nat) → Prop
  | 0, s, _ => s = 0
  | h + 1, s, μ => μ h &&& s = μ h ∧ (μ h = 0 ∨ 0 ≤ gn (μ h) h) ∧ Fe gn h (sbt s (μ h)) μ
def Vm (gn : Nat → Nat → Int) : Nat → (Nat → Nat) → Int
  | 0, _ => 0
  | h + 1, μ => Vm gn h μ + if μ h = 0 then 0 else gn (μ h) h
theorem Fe_congr {gn : Nat → Nat → Int} {μ ν : Nat → Nat} : ∀ h s, (∀ x, x < h → μ x = ν x) → Fe gn h s μ → Fe gn h s ν
  | 0, _, _, h => h
  | h + 1, s, e, q => by
    obtain ⟨q1, q2, q3⟩ := q
    have e1 := e h (Nat.lt_succ_self h)
    rw [e1] at q1 q2 q3
    exact ⟨q1, q2, Fe_congr h _ (fun x hx => e x (Nat.lt_succ_of_lt hx)) q3⟩
theorem Vm_congr {gn : Nat → Nat → Int} {μ ν : Nat → Nat} : ∀ h, (∀ x, x < h → μ x = ν x) → Vm gn h μ = Vm gn h ν
  | 0, _ => rfl
  | h + 1, e => by
    show Vm gn h μ + (if μ h = 0 then 0 else gn (μ h) h) = Vm gn h ν + (if ν h = 0 then 0 else gn (ν h) h)
    rw [Vm_congr h fun x hx => e x (Nat.lt_succ_of_lt hx), e h (Nat.lt_succ_self h)]
theorem Vm_0 {gn : Nat → Nat → Int} {μ : Nat → Nat} : ∀ {h s : Nat}, Fe gn h s μ → 0 ≤ Vm gn h μ
  | 0, _, _ => Int.le_refl _
  | h + 1, s, q => by
    obtain ⟨-, q2, q3⟩ := q
    have a := Vm_0 q3
    show 0 ≤ Vm gn h μ + if μ h = 0 then 0 else gn (μ h) h
    by_cases z : μ h = 0
    · rw [if_pos z]; omega
    · rw [if_neg z]
      have := q2.resolve_left z
      omega
theorem dp_up {gn : Nat → Nat → Int} {L : Nat} (hL : L ≤ 32) {μ : Nat → Nat} : ∀ {h s : Nat}, s < L → Fe gn h s μ → Vm gn h μ ≤ dpD gn L h s
  | 0, s, _, q => by
    have q : s = 0 := q
    subst q
    exact Int.le_refl _
  | h + 1, s, hs, q => by
    obtain ⟨q1, q2, q3⟩ := q
    have ih := dp_up hL (h := h) (s := sbt s (μ h)) (Nat.lt_of_le_of_lt sbt_le hs) q3
    have v0 := Vm_0 q3
    show Vm gn h μ + (if μ h = 0 then 0 else gn (μ h) h) ≤ if 1 ≤ s ∧ s < L then (dpI gn (dpD gn L h) h s (s + 1)).1 else dpD gn L h s
    by_cases z : μ h = 0
    · rw [if_pos z, Int.add_zero]
      rw [z, sbt_0 (by omega)] at ih
      by_cases w : 1 ≤ s ∧ s < L
      · rw [if_pos w]
        have := dpI_le (gn := gn) (D := dpD gn L h) (h := h) (s := s) (j := 0) (s + 1)
        rw [Nat.zero_add] at this
        exact Int.le_trans ih this
      · rw [if_neg w]; exact ih
    · have hle : μ h ≤ s := by rw [← q1]; exact Nat.and_le_right
      rw [if_neg z, if_pos ⟨by omega, hs⟩]
      have c := dpI_c (gn := gn) (D := dpD gn L h) (h := h) (s := s) (j := μ h) (k := s + 1) (by omega) ⟨by omega, q1, q2.resolve_left z, Int.le_trans v0 ih⟩
      omega
/-- the sets that the search takes -/
def dpM (gn : Nat → Nat → Int) (L : Nat) : Nat → Nat → Nat → Nat
  | 0, _, _ => 0
  | h + 1, s, x => if x = h then dpG gn L h s else dpM gn L h (sbt s (dpG gn L h s)) x
theorem dp_at {gn : Nat → Nat → Int} {L : Nat} (hL : L ≤ 32) : ∀ {h s : Nat}, s < L → 0 ≤ dpD gn L h s → Fe gn h s (dpM gn L h s) ∧ Vm gn h (dpM gn L h s) = dpD gn L h s
  | 0, s, _, q => by
    have e : s = 0 := by
      by_cases z : s = 0
      · exact z
      · rw [dpD, if_neg z] at q
        exact absurd q (by decide)
    subst e
    exact ⟨rfl, rfl⟩
  | h + 1, s, hs, q => by
    have eh : dpM gn L (h + 1) s h = dpG gn L h s := if_pos rfl
    have eo : ∀ x, x < h → dpM gn L (h + 1) s x = dpM gn L h (sbt s (dpG gn L h s)) x := fun x hx => if_neg (by omega)
    have fin : dpG gn L h s &&& s = dpG gn L h s → (dpG gn L h s = 0 ∨ 0 ≤ gn (dpG gn L h s) h) → 0 ≤ dpD gn L h (sbt s (dpG gn L h s)) → dpD gn L (h + 1) s = dpD gn L h (sbt s (dpG gn L h s)) + (if dpG gn L h s = 0 then 0 else gn (dpG gn L h s) h) → Fe gn (h + 1) s (dpM gn L (h + 1) s) ∧ Vm gn (h + 1) (dpM gn L (h + 1) s) = dpD gn L (h + 1) s := fun a b c d => by
      obtain ⟨r1, r2⟩ := dp_at hL (h := h) (s := sbt s (dpG gn L h s)) (Nat.lt_of_le_of_lt sbt_le hs) c
      refine ⟨?_, ?_⟩
      · show dpM gn L (h + 1) s h &&& s = dpM gn L (h + 1) s h ∧ (dpM gn L (h + 1) s h = 0 ∨ 0 ≤ gn (dpM gn L (h + 1) s h) h) ∧ Fe gn h (sbt s (dpM gn L (h + 1) s h)) (dpM gn L (h + 1) s)
        rw [eh]
        exact ⟨a, b, Fe_congr h _ (fun x hx => (eo x hx).symm) r1⟩
      · show Vm gn h (dpM gn L (h + 1) s) + (if dpM gn L (h + 1) s h = 0 then 0 else gn (dpM gn L (h + 1) s h) h) = _
        rw [eh, Vm_congr h eo, r2, d]
    by_cases w : 1 ≤ s ∧ s < L
    · have eG : dpG gn L h s = (dpI gn (dpD gn L h) h s (s + 1)).2 := if_pos w
      have eD : dpD gn L (h + 1) s = (dpI gn (dpD gn L h) h s (s + 1)).1 := if_pos w
      rcases dpI_at (gn := gn) (D := dpD gn L h) (h := h) (s := s) (s + 1) with ⟨z1, z2⟩ | ⟨z1, z2, z3, z4, z5, z6⟩
      · rw [← eG] at z1
        rw [← eD] at z2
        refine fin (by rw [z1]; exact Nat.zero_and s) (Or.inl z1) (by rw [z1, sbt_0 (by omega), ← z2]; exact q) (by rw [z1, sbt_0 (by omega), if_pos rfl, Int.add_zero]; exact z2)
      · rw [← eG] at z1 z2 z3 z4 z5 z6
        rw [← eD] at z6
        exact fin z3 (Or.inr z4) z5 (by rw [if_neg (by omega)]; exact z6)
    · have eG : dpG gn L h s = 0 := if_neg w
      have eD : dpD gn L (h + 1) s = dpD gn L h s := if_neg w
      refine fin (by rw [eG]; exact Nat.zero_and s) (Or.inl eG) (by rw [eG, sbt_0 (by omega), ← eD]; exact q) (by rw [eG, sbt_0 (by omega), if_pos rfl, Int.add_zero]; exact eD)
/-- of the sets the first of the greatest values -/
def dpB (D : Nat → Int) : Nat → Nat
  | 0 => 0
  | k + 1 => if D (dpB D k) < D k then k else dpB D k
theorem dpB_le {D : Nat → Int} : ∀ {k s : Nat}, s < k → D s ≤ D (dpB D k)
  | 0, s, h => absurd h (Nat.not_lt_zero s)
  | k + 1, s, h => by
    show D s ≤ D (if D (dpB D k) < D k then k else dpB D k)
    by_cases z : D (dpB D k) < D k
    · rw [if_pos z]
      by_cases e : s = k
      · rw [e]; exact Int.le_refl _
      · exact Int.le_trans (dpB_le (by omega)) (Int.le_of_lt z)
    · rw [if_neg z]
      by_cases e : s = k
      · rw [e]; exact Int.not_lt.mp z
      · exact dpB_le (by omega)
theorem dpB_lt {D : Nat → Int} : ∀ k, dpB D (k + 1) < k + 1
  | 0 => by
    show (if D (dpB D 0) < D 0 then 0 else dpB D 0) < 1
    split
    · exact Nat.zero_lt_one
    · exact Nat.zero_lt_one
  | k + 1 => by
    show (if D (dpB D (k + 1)) < D (k + 1) then k + 1 else dpB D (k + 1)) < k + 2
    have := dpB_lt (D := D) k
    split <;> omega
theorem dpD_big {gn : Nat → Nat → Int} {L s : Nat} (h0 : 1 ≤ s) (h : ¬ s < L) : ∀ x, dpD gn L x s = -1
  | 0 => if_neg (by omega)
  | x + 1 => (if_neg fun z => h z.2).trans (dpD_big h0 h x)
theorem dpD_zero {gn : Nat → Nat → Int} {L : Nat} : ∀ x, dpD gn L x 0 = 0
  | 0 => rfl
  | x + 1 => (if_neg (by omega)).trans (dpD_zero x)

