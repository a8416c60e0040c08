/-! THE SEARCH: the class's best set and the sets at the homes are the reference's best way. -/
theorem Fe_sub {gn : Nat → Nat → Int} {μ : Nat → Nat} : ∀ {h s x r : Nat}, Fe gn h s μ → x < h → (μ x).testBit r = true → s.testBit r = true
  | 0, _, _, _, _, hx, _ => absurd hx (Nat.not_lt_zero _)
  | h + 1, s, x, r, q, hx, hb => by
    obtain ⟨q1, q2, q3⟩ := q
    by_cases e : x = h
    · subst e
      rw [← q1, Nat.testBit_and, Bool.and_eq_true] at hb
      exact hb.2
    · have := Fe_sub q3 (show x < h by omega) hb
      rw [sbt_bit, Bool.and_eq_true] at this
      exact this.1
theorem Fe_dis {gn : Nat → Nat → Int} {μ : Nat → Nat} : ∀ {h s x y r : Nat}, r < 5 → Fe gn h s μ → x < y → y < h → (μ x).testBit r = true → (μ y).testBit r = true → False
  | 0, _, _, _, _, _, _, _, hy, _, _ => absurd hy (Nat.not_lt_zero _)
  | h + 1, s, x, y, r, hr, q, hxy, hy, b1, b2 => by
    obtain ⟨q1, q2, q3⟩ := q
    by_cases e : y = h
    · subst e
      have := Fe_sub q3 hxy b1
      rw [sbt_bit, b2, decide_eq_true hr] at this
      simp at this
    · exact Fe_dis hr q3 hxy (by omega) b1 b2
theorem Fe_all {gn : Nat → Nat → Int} {μ : Nat → Nat} : ∀ {h s r : Nat}, r < 5 → Fe gn h s μ → s.testBit r = true → ∃ x, x < h ∧ (μ x).testBit r = true
  | 0, s, r, _, q, hb => by
    have q : s = 0 := q
    rw [q, Nat.zero_testBit] at hb
    exact absurd hb (by decide)
  | h + 1, s, r, hr, q, hb => by
    obtain ⟨q1, q2, q3⟩ := q
    by_cases z : (μ h).testBit r = true
    · exact ⟨h, Nat.lt_succ_self h, z⟩
    · have : (sbt s (μ h)).testBit r = true := by
        simp only [Bool.not_eq_true] at z
        rw [sbt_bit, hb, z, decide_eq_true hr]; rfl
      obtain ⟨x, x1, x2⟩ := Fe_all hr q3 this
      exact ⟨x, by omega, x2⟩
theorem Fe_gn {gn : Nat → Nat → Int} {μ : Nat → Nat} : ∀ {h s x : Nat}, Fe gn h s μ → x < h → μ x = 0 ∨ 0 ≤ gn (μ x) x
  | 0, _, _, _, hx => absurd hx (Nat.not_lt_zero _)
  | h + 1, s, x, q, hx => by
    obtain ⟨q1, q2, q3⟩ := q
    by_cases e : x = h
    · rw [e]; exact q2
    · exact Fe_gn q3 (by omega)
theorem bit_big {s r : Nat} (hs : s < 32) (hr : ¬ r < 5) : s.testBit r = false := by
  refine Nat.testBit_lt_two_pow (Nat.lt_of_lt_of_le hs ?_)
  have : 2 ^ 5 ≤ 2 ^ r := Nat.pow_le_pow_right (by decide) (by omega)
  exact this
theorem gnI_ok {ok : Nat → Nat → Prop} {w : Nat → Nat → Int} {F : Nat → Int} {s h : Nat} (hg : 0 ≤ gnI ok w F s h) : cntB s 5 ≤ F h ∧ ∀ r, r < 5 → s.testBit r = true → ok r h := by
  unfold gnI at hg
  by_cases z : F h < cntB s 5 ∨ ∃ r, r < 5 ∧ s.testBit r = true ∧ ¬ ok r h
  · rw [iteP_t z] at hg
    exact absurd hg (by decide)
  · exact ⟨Int.not_lt.mp fun y => z (Or.inl y), fun r h1 h2 => Classical.byContradiction fun y => z (Or.inr ⟨r, h1, h2, y⟩)⟩
/-- sets at homes, none of them barred, are a way -/
theorem way_of {ok : Nat → Nat → Prop} {w : Nat → Nat → Int} {F : Nat → Int} {n M s : Nat} {μ : Nat → Nat} (hn : n ≤ 10) (hM : M ≤ 5) (hok : ∀ r h, ok r h → r < M ∧ h < n) (hs : s < 32) (hF : Fe (gnI ok w F) 10 s μ) :
    ∃ a : Nat → Nat, (∀ r, a r ≤ n) ∧ (∀ x, x < 10 → μ x = muW n M a x) ∧ feaW ok F n M a ∧ ∀ r, r < 5 → (s.testBit r = true ↔ (r < M ∧ a r < n)) := by
  have hgn : ∀ x, x < 10 → μ x = 0 ∨ 0 ≤ gnI ok w F (μ x) x := fun x hx => Fe_gn hF hx
  have hb : ∀ x r, x < 10 → (μ x).testBit r = true → r < 5 ∧ r < M ∧ x < n := fun x r hx h => by
    have h5 : r < 5 := Decidable.byContradiction fun z => by
      have := Fe_sub hF hx h
      rw [bit_big hs z] at this
      exact absurd this (by decide)
    have hg := (hgn x hx).resolve_left fun z => by
      rw [z, Nat.zero_testBit] at h
      exact absurd h (by decide)
    have := hok r x ((gnI_ok hg).2 r h5 h)
    exact ⟨h5, this.1, this.2⟩
  have ex : ∀ r, ∃ a, (a = n ∧ ∀ x, x < 10 → ¬ (μ x).testBit r = true) ∨ (a < n ∧ (μ a).testBit r = true) := fun r => by
    by_cases z : ∃ x, x < 10 ∧ (μ x).testBit r = true
    · obtain ⟨x, x1, x2⟩ := z
      exact ⟨x, Or.inr ⟨(hb x r x1 x2).2.2, x2⟩⟩
    · exact ⟨n, Or.inl ⟨rfl, fun x hx y => z ⟨x, hx, y⟩⟩⟩
  obtain ⟨a, ha⟩ := Classical.axiomOfChoice ex
  have uni : ∀ x r, x < 10 → (μ x).testBit r = true → a r = x := fun x r hx h => by
    rcases ha r with ⟨-, y⟩ | ⟨y1, y2⟩
    · exact absurd h (y x hx)
    · rcases Nat.lt_trichotomy (a r) x with z | z | z
      · exact (Fe_dis (hb x r hx h).1 hF z hx y2 h).elim
      · exact z
      · exact (Fe_dis (hb x r hx h).1 hF z (by omega) h y2).elim
  have em : ∀ x, x < 10 → μ x = muW n M a x := fun x hx => Nat.eq_of_testBit_eq fun r => by
    rw [muW_bit]
    by_cases h : (μ x).testBit r = true
    · obtain ⟨b1, b2, b3⟩ := hb x r hx h
      rw [h, decide_eq_true b3, decide_eq_true b2, beq_iff_eq.mpr (uni x r hx h)]; rfl
    · have h' := h
      simp only [Bool.not_eq_true] at h'
      rw [h']
      by_cases c1 : x < n
      · by_cases c2 : a r = x
        · rcases ha r with ⟨y, -⟩ | ⟨y1, y2⟩
          · omega
          · rw [c2] at y2
            exact absurd y2 h
        · rw [beq_eq_false_iff_ne.mpr c2, Bool.and_false, Bool.and_false]
      · rw [decide_eq_false c1, Bool.false_and]
  have hle : ∀ r, a r ≤ n := fun r => by
    rcases ha r with ⟨y, -⟩ | ⟨y1, -⟩ <;> omega
  refine ⟨a, hle, em, ⟨fun r hr h => ?_, fun x hx => ?_⟩, fun r hr => ⟨fun h => ?_, fun h => ?_⟩⟩
  · rcases ha r with ⟨y, -⟩ | ⟨y1, y2⟩
    · omega
    · have hg := (hgn (a r) (by omega)).resolve_left fun z => by
        rw [z, Nat.zero_testBit] at y2
        exact absurd y2 (by decide)
      exact (gnI_ok hg).2 r (by omega) y2
  · rw [← em x (by omega)]
    exact (hgn x (by omega)).imp id fun z => (gnI_ok z).1
  · obtain ⟨x, x1, x2⟩ := Fe_all hr hF h
    obtain ⟨b1, b2, b3⟩ := hb x r x1 x2
    exact ⟨b2, by rw [uni x r x1 x2]; exact b3⟩
  · rcases ha r with ⟨y, -⟩ | ⟨y1, y2⟩
    · omega
    · exact Fe_sub hF (by omega) y2
theorem Vm_gt {gn : Nat → Nat → Int} {L : Nat} (hL : L ≤ 32) {s : Nat} {μ : Nat → Nat} (hs : s < L) (hF : Fe gn 10 s μ) : Vm gn 10 μ ≤ dpD gn L 10 (dpB (dpD gn L 10) 32) := Int.le_trans (dp_up hL hs hF) (dpB_le (by omega))
theorem setA_lt {n M : Nat} {a : Nat → Nat} (h : Nat) : setA n M a h < 2 ^ M := msk_lt M
/-- the search's end is the reference's way -/
theorem search_is {ok : Nat → Nat → Prop} {w : Nat → Nat → Int} {F : Nat → Int} {n M : Nat} (hn : n ≤ 10) (hM : M ≤ 5) (hok : ∀ r h, ok r h → r < M ∧ h < n) (hw : ∀ r h, r < 5 → h < 10 → -100 ≤ w r h ∧ w r h ≤ 200) {d : Nat → Nat} (hd : ∀ r, r < M → d r ≤ n) (hf : feaW ok F n M d)
    (hb : ∀ c : Nat → Nat, (∀ r, r < M → c r ≤ n) → feaW ok F n M c → valI w n M c < valI w n M d ∨ (valI w n M c = valI w n M d ∧ rkN n d M ≤ rkN n c M)) :
    (∀ x, x < 10 → dpM (gnI ok w F) (2 ^ M) 10 (dpB (dpD (gnI ok w F) (2 ^ M) 10) 32) x = muW n M d x) ∧ ∀ r, r < 5 → ((dpB (dpD (gnI ok w F) (2 ^ M) 10) 32).testBit r = true ↔ (r < M ∧ d r < n)) := by
  have hL : 2 ^ M ≤ 32 := by
    have : 2 ^ M ≤ 2 ^ 5 := Nat.pow_le_pow_right (by decide) hM
    exact this
  obtain ⟨S, hS⟩ : ∃ S, S = dpB (dpD (gnI ok w F) (2 ^ M) 10) 32 := ⟨_, rfl⟩
  rw [← hS]
  have h0 : 0 ≤ dpD (gnI ok w F) (2 ^ M) 10 S := by
    have := dpB_le (D := dpD (gnI ok w F) (2 ^ M) 10) (k := 32) (s := 0) (by decide)
    rw [dpD_zero, ← hS] at this
    exact this
  have hSL : S < 2 ^ M := Decidable.byContradiction fun z => by
    by_cases y : 1 ≤ S
    · rw [dpD_big y z] at h0
      exact absurd h0 (by decide)
    · have : 0 < 2 ^ M := Nat.pow_pos (by decide)
      omega
  obtain ⟨f1, f2⟩ := dp_at hL hSL h0
  obtain ⟨a, a1, a2, a3, a4⟩ := way_of hn hM hok (by omega) f1
  have hwM : ∀ r h, r < M → h < n → -100 ≤ w r h ∧ w r h ≤ 200 := fun r h h1 h2 => hw r h (by omega) (by omega)
  have va : wgtI w n M a = dpD (gnI ok w F) (2 ^ M) 10 S := by
    rw [← f2, Vm_congr 10 a2, Vm_way hn hM a3]; rfl
  have gd : ∀ x, x < n → muW n M d x = 0 ∨ 0 ≤ gnI ok w F (muW n M d x) x := fun x hx => by
    by_cases z : muW n M d x = 0
    · exact Or.inl z
    · refine Or.inr ?_
      rw [gnI_way hf z]
      obtain ⟨-, r, hr, er⟩ : x < n ∧ ∃ r, r < M ∧ d r = x := Decidable.byContradiction fun y => z (mu0_iff.mpr y)
      have := setW_pos (w := w) (s := muW n M d x) (h := x) (fun r hr => (hw r x hr (by omega)).1) (by omega) (r := r) (by omega) (by rw [muW_bit, decide_eq_true hx, decide_eq_true hr, beq_iff_eq.mpr er]; rfl)
      omega
  have vd : wgtI w n M d ≤ dpD (gnI ok w F) (2 ^ M) 10 S := by
    have := Vm_gt (gn := gnI ok w F) hL (setA_lt 10) (Fe_way (gn := gnI ok w F) (n := n) (M := M) (a := d) hM gd 10)
    rw [Vm_way hn hM hf, ← hS] at this
    exact this
  have ead : ∀ r, r < M → a r = d r := by
    rcases hb a (fun r _ => a1 r) a3 with z | ⟨z1, z2⟩
    · have := wgt_lex (w := w) (a := d) (b := a) hn hM hwM (fun r hr => ⟨hd r hr, a1 r⟩) (Or.inl z)
      omega
    · rcases Nat.lt_or_eq_of_le z2 with y | y
      · have := wgt_lex (w := w) (a := d) (b := a) hn hM hwM (fun r hr => ⟨hd r hr, a1 r⟩) (Or.inr ⟨z1, y⟩)
        omega
      · exact fun r hr => ((tHr_lex hn (a := d) (b := a) M fun r hr => ⟨hd r hr, a1 r⟩).2 y r hr).symm
  refine ⟨fun x hx => (a2 x hx).trans (muW_congr ead x), fun r hr => (a4 r hr).trans ?_⟩
  constructor
  · rintro ⟨h1, h2⟩
    exact ⟨h1, by rw [← ead r h1]; exact h2⟩
  · rintro ⟨h1, h2⟩
    exact ⟨h1, by rw [ead r h1]; exact h2⟩

