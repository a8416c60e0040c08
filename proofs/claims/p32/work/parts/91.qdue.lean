/-! DUES: the class's sums over stays are what the reference earned day by day. -/
theorem ysum_n {n : Nat} (h : n < 20000) : ysum (nI n) = nI (365 * (n / 365 * (n / 365 - 1) / 2) + n % 365 * (n / 365)) := by
  have e1 : nI n / 365 = nI (n / 365) := pk_div (d := 365) (by omega) (by decide) (by decide)
  have e2 : nI n - nI n / 365 * 365 = nI (n % 365) := pk_rem (d := 365) (by omega) (by decide) (by decide)
  have e3 : ∀ y : Nat, y < 60 → nI y * (nI y - 1) / 2 = nI (y * (y - 1) / 2) := by decide
  unfold ysum
  rw [e2, e1, e3 _ (by omega), show (365 : Int32) = nI 365 from rfl, pk_mul, pk_mul, nI_add]
theorem ysum_s {n : Nat} (h : n < 19999) : ysum (nI (n + 1)) = ysum (nI n) + nI (n / 365) := by
  rw [ysum_n (by omega), ysum_n (by omega), nI_add]
  refine congrArg nI ?_
  have e3 : ∀ y : Nat, y < 60 → (y + 1) * y / 2 = y * (y - 1) / 2 + y := by decide
  by_cases q : n % 365 + 1 < 365
  · have e1 : (n + 1) / 365 = n / 365 := by omega
    have e2 : (n + 1) % 365 = n % 365 + 1 := by omega
    rw [e1, e2, Nat.add_mul (n % 365) 1, Nat.one_mul, Nat.add_assoc]
  · have e1 : (n + 1) / 365 = n / 365 + 1 := by omega
    have e2 : (n + 1) % 365 = 0 := by omega
    have e4 : n % 365 = 364 := by omega
    rw [e1, e2, e4, Nat.zero_mul, Nat.add_sub_cancel, e3 _ (by omega)]
    omega
theorem sub_sub32 (x s a : Int32) : x - (s - a) = x + a - s := by grind
theorem due_ring (x b Y Z q v : Int32) : (x + 1 - b) * (10 + 5 * v) + (Y + q) - Z = (x - b) * (10 + 5 * v) + Y - Z + (10 + q + 5 * v) := by grind
/-- children's days told and days of telling -/
def IA (σ : aS) : Prop := ∀ k, k < cN σ 1 → (∃ a, a ≤ 7000 ∧ σ.1 2 k = nI a) ∧ ∃ s, s ≤ cN σ 0 ∧ σ.1 3 k = nI s
/-- a child's open stay -/
def IE (σ : aS) : Prop := (∀ k j, k < cN σ 1 → j < cN σ 43 → σ.1 10 k = nI j → σ.1 44 j = nI k ∧ σ.1 47 j = -1) ∧ ∀ j k, j < cN σ 43 → k < cN σ 1 → σ.1 47 j = -1 → σ.1 44 j = nI k → σ.1 10 k = nI j
/-- what a home has earned -/
def ID (σ : aS) : Prop := ∀ h, h < cN σ 20 → σ.1 24 h = fsum (cOwT σ h) (cN σ 43)
theorem cOw_m {σ : aS} (hD : ID σ) {h : Nat} (hh : h < cN σ 20) : cOw σ h = σ.1 24 h - σ.1 25 h := by
  unfold cOw
  rw [← hD h hh, Int32.sub_eq_add_neg, Int32.add_comm]
theorem cDues_congr {σ σ' : aS} (h47 : σ'.1 47 = σ.1 47) (h46 : σ'.1 46 = σ.1 46) (h4 : σ'.1 4 = σ.1 4) (h44 : σ'.1 44 = σ.1 44) (h3 : σ'.1 3 = σ.1 3) (h2 : σ'.1 2 = σ.1 2) {j : Nat} {d : Int32} : cDues σ' j d = cDues σ j d := by
  unfold cDues cOver cBorn
  rw [h47, h46, h4, h44, h3, h2]
theorem ID_of {σ σ' : aS} (h : ID σ) (h47 : σ'.1 47 = σ.1 47) (h46 : σ'.1 46 = σ.1 46) (h4 : σ'.1 4 = σ.1 4) (h44 : σ'.1 44 = σ.1 44) (h3 : σ'.1 3 = σ.1 3) (h2 : σ'.1 2 = σ.1 2) (h45 : σ'.1 45 = σ.1 45) (h24 : σ'.1 24 = σ.1 24) (n0 : σ'.2 0 = σ.2 0) (n20 : cN σ' 20 = cN σ 20) (n43 : cN σ' 43 = cN σ 43) : ID σ' := by
  intro x hx
  rw [n20] at hx
  rw [h24, n43, h x hx]
  refine fsum_congr _ fun i hi => ?_
  unfold cOwT
  rw [h45, n0, cDues_congr h47 h46 h4 h44 h3 h2]
theorem cDues_cl {σ : aS} {j : Nat} (h : ¬ σ.1 47 j = -1) (d d' : Int32) : cDues σ j d = cDues σ j d' := by
  unfold cDues cOver
  rw [if_neg h, if_neg h]
/-- an open stay's dues grow by a day's -/
theorem cDues_s {σ : aS} (hA : IA σ) (hN : IN σ) {j k d : Nat} (hk : k < cN σ 1) (hk16 : k < 16) (e44 : σ.1 44 j = nI k) (h47 : σ.1 47 j = -1) (hd : cN σ 0 ≤ d) (hd2 : d < 12000) : cDues σ j (nI (d + 1)) = cDues σ j (nI d) + (10 + mYears σ k (nI d) + 5 * ones4 (σ.1 4 k)) := by
  obtain ⟨⟨a, a1, a2⟩, s, s1, s2⟩ := hA k hk
  have ek : nx (σ.1 44 j) = k := by rw [e44]; exact nI_clamp (by omega)
  have y : ∀ x, cN σ 0 ≤ x → nI x - cBorn σ k = nI (x + a - s) := fun x hx => by
    unfold cBorn
    rw [a2, s2, sub_sub32, nI_add, pk_sub (by omega)]
  have eY : mYears σ k (nI d) = nI ((d + a - s) / 365) := by
    unfold mYears
    rw [a2, s2, nI_add, pk_sub (by omega), show a + d - s = d + a - s by omega]
    exact pk_div (d := 365) (by omega) (by decide) (by decide)
  unfold cDues cOver
  rw [if_pos h47, if_pos h47, ek, y _ (by omega), y _ hd, show d + 1 + a - s = (d + a - s) + 1 by omega, ysum_s (by omega), bc_ones (hN k hk), eY, ← nI_1]
  exact due_ring _ _ _ _ _ _
theorem earnF_o {σ : aS} {f : Nat} (h : f ≠ 24) : ∀ j, earnF σ j f = σ.1 f
  | 0 => rfl
  | j + 1 => by
    by_cases e : earnF σ j 10 j = -1
    · rw [earnF_t e]; exact earnF_o h j
    · rw [earnF_f e, up2_f h]; exact earnF_o h j
/-- the first j children's day is over -/
def dayJ (σ : aS) (d j i : Nat) : Int32 := if nx (σ.1 44 i) < j then nI (d + 1) else nI d
def earnT (σ : aS) (d h j i : Nat) : Int32 := if σ.1 45 i = nI h then cDues σ i (dayJ σ d j i) else 0
theorem earn_sum {σ : aS} (hI : IC σ) (hS : IS σ) (hA : IA σ) (hN : IN σ) (hE : IE σ) (hD : ID σ) (h0 : cN σ 0 < 12000) {h : Nat} (hh : h < cN σ 20) : ∀ j, j ≤ cN σ 1 → earnF σ j 24 h = fsum (earnT σ (cN σ 0) h j) (cN σ 43)
  | 0, _ => by
    show σ.1 24 h = _
    rw [hD h hh]
    refine fsum_congr _ fun i hi => ?_
    unfold cOwT earnT dayJ
    rw [if_neg (Nat.not_lt_zero _), ← hI.1.1]
  | j + 1, hj => by
    have ih := earn_sum hI hS hA hN hE hD h0 hh j (by omega)
    have hj16 : j < 16 := by have := hI.2.1.2; omega
    have c43 := hI.2.2.2.2.2.1.2
    have c20 := hI.2.2.1.2
    by_cases e : σ.1 10 j = -1
    · have e' : earnF σ j 10 j = -1 := by rw [earnF_o (by decide)]; exact e
      rw [earnF_t e', ih]
      refine fsum_congr _ fun i hi => ?_
      unfold earnT
      by_cases q : σ.1 45 i = nI h
      · rw [if_pos q, if_pos q]
        by_cases o : σ.1 47 i = -1
        · obtain ⟨⟨k, hk, e44⟩, -⟩ := hS i hi
          have ek : nx (σ.1 44 i) = k := by rw [e44]; exact nI_clamp (by have := hI.2.1.2; omega)
          have hkj : k ≠ j := fun z => by
            subst z
            have := hE.2 i k hi hk o e44
            rw [e] at this
            exact nI_ne_m1 (j := i) (by omega) this.symm
          unfold dayJ
          rw [ek]
          by_cases z : k < j
          · rw [if_pos z, if_pos (by omega)]
          · rw [if_neg z, if_neg (by omega)]
        · exact cDues_cl o _ _
      · rw [if_neg q, if_neg q]
    · have e' : ¬ earnF σ j 10 j = -1 := by rw [earnF_o (by decide)]; exact e
      obtain ⟨s, hs, es⟩ : ∃ s, s < cN σ 43 ∧ σ.1 10 j = nI s := (hI.2.2.2.2.2.2.2 j (by omega)).resolve_left e
      obtain ⟨e44, e47⟩ := hE.1 j s (by omega) hs es
      obtain ⟨-, h2, hh2, e45⟩ := hS s hs
      have eH : mHomeOf (earnF σ j, σ.2) j = nI h2 := by
        unfold mHomeOf
        rw [show (earnF σ j, σ.2).1 = earnF σ j from rfl, earnF_o (by decide), earnF_o (by decide), if_neg e, es, nI_clamp (by omega), e45]
      have eY : mYears (earnF σ j, σ.2) j (σ.2 0) = mYears σ j (nI (cN σ 0)) := by
        unfold mYears
        rw [show (earnF σ j, σ.2).1 = earnF σ j from rfl, earnF_o (by decide), earnF_o (by decide), ← hI.1.1]
      rw [earnF_f e', eH, eY, show earnF σ j 4 = σ.1 4 from earnF_o (by decide) j, show nx (nI h2) = h2 from nI_clamp (by omega)]
      have es44 : nx (σ.1 44 s) = j := by rw [e44]; exact nI_clamp (by omega)
      have b1 := fsum_ch (F := earnT σ (cN σ 0) h j) (F' := earnT σ (cN σ 0) h (j + 1)) hs fun i hi hn => by
        unfold earnT
        by_cases q : σ.1 45 i = nI h
        · rw [if_pos q, if_pos q]
          by_cases o : σ.1 47 i = -1
          · obtain ⟨⟨k, hk, e44'⟩, -⟩ := hS i hi
            have ek : nx (σ.1 44 i) = k := by rw [e44']; exact nI_clamp (by have := hI.2.1.2; omega)
            have hkj : k ≠ j := fun z => by
              subst z
              have := hE.2 i k hi hk o e44'
              rw [es] at this
              exact hn ((nI_eq (by omega) (by omega)).mp this).symm
            unfold dayJ
            rw [ek]
            by_cases z : k < j
            · rw [if_pos z, if_pos (by omega)]
            · rw [if_neg z, if_neg (by omega)]
          · exact cDues_cl o _ _
        · rw [if_neg q, if_neg q]
      have t1 : earnT σ (cN σ 0) h j s = if σ.1 45 s = nI h then cDues σ s (nI (cN σ 0)) else 0 := by
        unfold earnT dayJ
        rw [es44, if_neg (Nat.lt_irrefl j)]
      have t2 : earnT σ (cN σ 0) h (j + 1) s = if σ.1 45 s = nI h then cDues σ s (nI (cN σ 0 + 1)) else 0 := by
        unfold earnT dayJ
        rw [es44, if_pos (Nat.lt_succ_self j)]
      by_cases q : h2 = h
      · subst q
        rw [t1, t2, if_pos e45, if_pos e45, cDues_s hA hN (by omega) hj16 e44 e47 (Nat.le_refl _) h0] at b1
        rw [up2_s, ih]
        have := congrArg (· - cDues σ s (nI (cN σ 0))) b1
        simp only [Int32.add_sub_cancel] at this
        rw [this]
        grind
      · have hq : ¬ σ.1 45 s = nI h := fun z => q ((nI_eq (by omega) (by omega)).mp (e45.symm.trans z))
        rw [t1, t2, if_neg hq, if_neg hq, Int32.add_zero, Int32.add_zero] at b1
        rw [up2_n2 (fun z => q z.symm), ih, b1]
theorem ID_earn {σ : aS} (hI : IC σ) (hS : IS σ) (hA : IA σ) (hN : IN σ) (hE : IE σ) (hD : ID σ) (h0 : cN σ 0 < 12000) : ID (earnF σ (cN σ 1), up1 σ.2 0 (σ.2 0 + 1)) := by
  intro h hh
  have c43 := hI.2.2.2.2.2.1.2
  refine (earn_sum hI hS hA hN hE hD h0 hh _ (Nat.le_refl _)).trans (fsum_congr _ fun i hi => ?_)
  unfold earnT cOwT
  have e0 : (earnF σ (cN σ 1), up1 σ.2 0 (σ.2 0 + 1)).2 0 = nI (cN σ 0 + 1) := by
    show up1 σ.2 0 (σ.2 0 + 1) 0 = _
    rw [up1_s, ← nI_1, ← hI.1.1]
  rw [e0, cDues_congr (σ := σ) (σ' := (earnF σ (cN σ 1), up1 σ.2 0 (σ.2 0 + 1))) (earnF_o (by decide) _) (earnF_o (by decide) _) (earnF_o (by decide) _) (earnF_o (by decide) _) (earnF_o (by decide) _) (earnF_o (by decide) _), show (earnF σ (cN σ 1), up1 σ.2 0 (σ.2 0 + 1)).1 45 = σ.1 45 from earnF_o (by decide) _]
  by_cases q : σ.1 45 i = nI h
  · rw [if_pos q, if_pos q]
    by_cases o : σ.1 47 i = -1
    · obtain ⟨⟨k, hk, e44⟩, -⟩ := hS i hi
      have ek : nx (σ.1 44 i) = k := by rw [e44]; exact nI_clamp (by have := hI.2.1.2; omega)
      unfold dayJ
      rw [ek, if_pos hk]
    · exact cDues_cl o _ _
  · rw [if_neg q, if_neg q]
/-- an end on the day that it is changes no dues of that day -/
theorem ID_ends {σ : aS} {k : Nat} (hI : IC σ) (hE : IE σ) (hD : ID σ) (hk : k < cN σ 1) : ID (oEnds σ k) := by
  unfold oEnds
  by_cases e : σ.1 10 k = -1
  · rw [if_pos e]; exact hD
  · rw [if_neg e]
    obtain ⟨s, hs, es⟩ : ∃ s, s < cN σ 43 ∧ σ.1 10 k = nI s := (hI.2.2.2.2.2.2.2 k hk).resolve_left e
    obtain ⟨e44, e47⟩ := hE.1 k s hk hs es
    have c43 := hI.2.2.2.2.2.1.2
    rw [es, show nx (nI s) = s from nI_clamp (by omega)]
    intro h hh
    refine (hD h hh).trans (fsum_congr _ fun i hi => ?_)
    unfold cOwT
    have a45 : (up2 (up2 σ.1 47 s (σ.2 0)) 10 k (-1)) 45 i = σ.1 45 i := (up2_n1 (by decide)).trans (up2_n1 (by decide))
    show (if σ.1 45 i = nI h then cDues σ i (σ.2 0) else 0) = if (up2 (up2 σ.1 47 s (σ.2 0)) 10 k (-1)) 45 i = nI h then cDues (up2 (up2 σ.1 47 s (σ.2 0)) 10 k (-1), σ.2) i (σ.2 0) else 0
    rw [a45]
    by_cases q : σ.1 45 i = nI h
    · rw [if_pos q, if_pos q]
      have o : cOver (up2 (up2 σ.1 47 s (σ.2 0)) 10 k (-1), σ.2) i (σ.2 0) = cOver σ i (σ.2 0) := by
        unfold cOver
        have a47 : (up2 (up2 σ.1 47 s (σ.2 0)) 10 k (-1), σ.2).1 47 i = (up2 σ.1 47 s (σ.2 0)) 47 i := by
          show up2 (up2 σ.1 47 s (σ.2 0)) 10 k (-1) 47 i = _
          exact up2_n1 (by decide)
        rw [a47]
        by_cases z : i = s
        · subst z
          rw [up2_s, if_pos e47]
          by_cases y : σ.2 0 = -1
          · rw [if_pos y]
          · rw [if_neg y]
        · rw [up2_n2 z]
      unfold cDues cBorn
      rw [o]
      have u : ∀ x, x ≠ 47 → x ≠ 10 → (up2 (up2 σ.1 47 s (σ.2 0)) 10 k (-1), σ.2).1 x = σ.1 x := fun x h1 h2 => (up2_f h2).trans (up2_f h1)
      rw [u 46 (by decide) (by decide), u 44 (by decide) (by decide), u 4 (by decide) (by decide), u 3 (by decide) (by decide), u 2 (by decide) (by decide)]
    · rw [if_neg q, if_neg q]
theorem IE_ends {σ : aS} {k : Nat} (hI : IC σ) (hS : IS σ) (hE : IE σ) (hk : k < cN σ 1) : IE (oEnds σ k) := by
  unfold oEnds
  by_cases e : σ.1 10 k = -1
  · rw [if_pos e]; exact hE
  · rw [if_neg e]
    obtain ⟨s, hs, es⟩ : ∃ s, s < cN σ 43 ∧ σ.1 10 k = nI s := (hI.2.2.2.2.2.2.2 k hk).resolve_left e
    obtain ⟨e44, e47⟩ := hE.1 k s hk hs es
    have c43 := hI.2.2.2.2.2.1.2
    have c1 := hI.2.1.2
    have h0 : ¬ σ.2 0 = -1 := by rw [hI.1.1]; exact nI_ne_m1 (by have := hI.1.2; omega)
    rw [es, show nx (nI s) = s from nI_clamp (by omega)]
    have a44 : ∀ i, (up2 (up2 σ.1 47 s (σ.2 0)) 10 k (-1)) 44 i = σ.1 44 i := fun i => (up2_n1 (by decide)).trans (up2_n1 (by decide))
    have a47 : ∀ i, (up2 (up2 σ.1 47 s (σ.2 0)) 10 k (-1)) 47 i = if i = s then σ.2 0 else σ.1 47 i := fun i => by
      rw [up2_n1 (by decide)]
      by_cases z : i = s
      · rw [if_pos z, z]; exact up2_s
      · rw [if_neg z]; exact up2_n2 z
    have a10 : ∀ i, (up2 (up2 σ.1 47 s (σ.2 0)) 10 k (-1)) 10 i = if i = k then -1 else σ.1 10 i := fun i => by
      by_cases z : i = k
      · rw [if_pos z, z]; exact up2_s
      · rw [if_neg z]; exact (up2_n2 z).trans (up2_n1 (by decide))
    refine ⟨fun i j hi hj h => ?_, fun j i hj hi h1 h2 => ?_⟩
    · simp only [a10, a44, a47] at h ⊢
      by_cases z : i = k
      · rw [if_pos z] at h
        exact absurd h.symm (nI_ne_m1 (by have : j < cN σ 43 := hj; omega))
      · rw [if_neg z] at h
        obtain ⟨q1, q2⟩ := hE.1 i j hi hj h
        have hjs : j ≠ s := fun y => by
          subst y
          rw [e44] at q1
          exact z ((nI_eq (by omega) (by have : i < cN σ 1 := hi; omega)).mp q1).symm
        rw [if_neg hjs]
        exact ⟨q1, q2⟩
    · simp only [a10, a44, a47] at h1 h2 ⊢
      by_cases z : j = s
      · rw [if_pos z] at h1
        exact absurd h1 h0
      · rw [if_neg z] at h1
        have q := hE.2 j i hj hi h1 h2
        by_cases y : i = k
        · subst y
          rw [es] at q
          exact absurd ((nI_eq (by omega) (by have : j < cN σ 43 := hj; omega)).mp q) (fun x => z x.symm)
        · rw [if_neg y]; exact q

