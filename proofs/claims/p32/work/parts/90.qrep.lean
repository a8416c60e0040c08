/-! REPORTS: the class's merged rows weigh what the reference's greatest ones weigh, and are seen at the same day. -/
theorem fsum_ch {F F' : Nat → Int32} {i0 : Nat} : ∀ {n : Nat}, i0 < n → (∀ i, i < n → i ≠ i0 → F i = F' i) → fsum F' n + F i0 = fsum F n + F' i0
  | 0, h, _ => absurd h (Nat.not_lt_zero _)
  | n + 1, h, e => by
    show (fsum F' n + F' n) + F i0 = (fsum F n + F n) + F' i0
    by_cases q : i0 = n
    · subst q
      rw [fsum_congr (F := F') (F' := F) i0 fun i hi => (e i (by omega) (by omega)).symm]
      rw [Int32.add_assoc, Int32.add_assoc, Int32.add_comm (F' i0)]
    · have r := fsum_ch (n := n) (by omega) fun i hi hn => e i (by omega) hn
      rw [← e n (by omega) (fun z => q z.symm), Int32.add_assoc, Int32.add_comm (F n), ← Int32.add_assoc, r, Int32.add_assoc, Int32.add_comm (F' i0), ← Int32.add_assoc]
theorem rFind_s {d s : Int32} {D S : Nat → Int32} : ∀ {t r q : Nat}, rFind d s D S t r = some q → q < r + t ∧ D q = d ∧ S q = s
  | 0, _, _, h => nomatch h
  | t + 1, r, q, h => by
    unfold rFind at h
    by_cases e : D r = d ∧ S r = s
    · rw [if_pos e] at h
      cases h
      exact ⟨by omega, e⟩
    · rw [if_neg e] at h
      have := rFind_s h
      exact ⟨by omega, this.2⟩
theorem rFind_n {d s : Int32} {D S : Nat → Int32} : ∀ {t r : Nat}, rFind d s D S t r = none → ∀ q, r ≤ q → q < r + t → ¬ (D q = d ∧ S q = s)
  | 0, _, _ => fun q h1 h2 => by omega
  | t + 1, r, h => by
    unfold rFind at h
    by_cases e : D r = d ∧ S r = s
    · rw [if_pos e] at h
      cases h
    · rw [if_neg e] at h
      intro q h1 h2
      by_cases z : q = r
      · subst z; exact e
      · exact rFind_n h q (by omega) (by omega)
theorem rTell_some {R : rS} {d s w : Int32} {r : Nat} (h : rFind d s R.2.1 R.2.2.1 R.1 0 = some r) : rTell R d s w = (R.1, R.2.1, R.2.2.1, up1 R.2.2.2 r (if R.2.2.2 r < w then w else R.2.2.2 r)) := by
  unfold rTell; rw [h]
theorem rTell_none {R : rS} {d s w : Int32} (h : rFind d s R.2.1 R.2.2.1 R.1 0 = none) : rTell R d s w = (R.1 + 1, up1 R.2.1 R.1 d, up1 R.2.2.1 R.1 s, up1 R.2.2.2 R.1 w) := by
  unfold rTell; rw [h]
/-- of the first n reports none outweighs the j-th -/
def gN (σ : aS) (k n j : Nat) : Prop := ∀ i, i < n → mOkG σ (30 * k + j) (30 * k + i)
noncomputable def gT9 (σ : aS) (k n i : Nat) : Int32 := iteP (mLate σ (30 * k + i) ∧ gN σ k n i) (σ.1 36 (30 * k + i)) 0
def eqR (σ : aS) (k i j : Nat) : Prop := σ.1 35 (30 * k + i) = σ.1 35 (30 * k + j) ∧ σ.1 37 (30 * k + i) = σ.1 37 (30 * k + j)
theorem gN_s {σ : aS} {k n j : Nat} : gN σ k (n + 1) j ↔ gN σ k n j ∧ mOkG σ (30 * k + j) (30 * k + n) :=
  ⟨fun h => ⟨fun i hi => h i (by omega), h n (by omega)⟩, fun h i hi => by
    by_cases e : i = n
    · rw [e]; exact h.2
    · exact h.1 i (by omega)⟩
theorem ok_ne {σ : aS} {k i j : Nat} (h : ¬ eqR σ k i j) : mOkG σ (30 * k + j) (30 * k + i) := Or.inl fun q => h ⟨q.2.1, q.2.2⟩
theorem ok_self {σ : aS} {k j : Nat} : mOkG σ (30 * k + j) (30 * k + j) := Or.inl fun q => q.1 rfl
theorem lt_irr32 {a b : Int32} (h1 : a < b) (h2 : b < a) : False := by
  have := Int32.lt_iff_toInt_lt.mp h1
  have := Int32.lt_iff_toInt_lt.mp h2
  omega
/-- two of the same source and day can't both be greatest -/
theorem ok_two {σ : aS} {k i j : Nat} (hn : i ≠ j) (he : eqR σ k i j) (h1 : mOkG σ (30 * k + i) (30 * k + j)) (h2 : mOkG σ (30 * k + j) (30 * k + i)) : False := by
  rcases h1 with q | q | q
  · exact q ⟨by omega, he.1.symm, he.2.symm⟩
  · rcases h2 with z | z | z
    · exact z ⟨by omega, he.1, he.2⟩
    · exact lt_irr32 q z
    · rw [z.1] at q; exact Int32.lt_irrefl q
  · rcases h2 with z | z | z
    · exact z ⟨by omega, he.1, he.2⟩
    · rw [q.1] at z; exact Int32.lt_irrefl z
    · omega
theorem eqR_sy {σ : aS} {k i j : Nat} (h : eqR σ k i j) : eqR σ k j i := ⟨h.1.symm, h.2.symm⟩
theorem eqR_tr {σ : aS} {k i j m : Nat} (h : eqR σ k i j) (h2 : eqR σ k j m) : eqR σ k i m := ⟨h.1.trans h2.1, h.2.trans h2.2⟩
/-- what the rows are after n reports -/
def rOK (σ : aS) (k n : Nat) (R : rS) : Prop :=
  (∀ r, r < R.1 → ∃ g, g < n ∧ σ.1 37 (30 * k + g) = R.2.1 r ∧ σ.1 35 (30 * k + g) = R.2.2.1 r ∧ σ.1 36 (30 * k + g) = R.2.2.2 r ∧ gN σ k n g) ∧
  (∀ i, i < n → ∃ r, r < R.1 ∧ R.2.1 r = σ.1 37 (30 * k + i) ∧ R.2.2.1 r = σ.1 35 (30 * k + i)) ∧
  (∀ r r', r < R.1 → r' < R.1 → R.2.1 r = R.2.1 r' → R.2.2.1 r = R.2.2.1 r' → r = r') ∧
  fsum (gT9 σ k n) n = rSum R (σ.2 0)
theorem rOK_all (σ : aS) (k : Nat) : ∀ n, rOK σ k n (rMrg σ k n)
  | 0 => ⟨fun r h => absurd h (Nat.not_lt_zero _), fun i h => absurd h (Nat.not_lt_zero _), fun r r' h => absurd h (Nat.not_lt_zero _), rfl⟩
  | n + 1 => by
    obtain ⟨h1, h2, h3, h4⟩ := rOK_all σ k n
    show rOK σ k (n + 1) (rTell (rMrg σ k n) (σ.1 37 (30 * k + n)) (σ.1 35 (30 * k + n)) (σ.1 36 (30 * k + n)))
    generalize rMrg σ k n = R at h1 h2 h3 h4
    cases hf : rFind (σ.1 37 (30 * k + n)) (σ.1 35 (30 * k + n)) R.2.1 R.2.2.1 R.1 0 with
    | none =>
      rw [rTell_none hf]
      have hno := rFind_n hf
      have hne : ∀ i, i < n → ¬ eqR σ k i n := fun i hi q => by
        obtain ⟨r, r1, r2, r3⟩ := h2 i hi
        exact hno r (Nat.zero_le _) (by omega) ⟨r2.trans q.2, r3.trans q.1⟩
      have u : ∀ {f : Nat → Int32} {v : Int32} {r : Nat}, r < R.1 → up1 f R.1 v r = f r := fun h => up1_n (by omega)
      refine ⟨fun r hr => ?_, fun i hi => ?_, fun r r' hr hr' e1 e2 => ?_, ?_⟩
      · by_cases e : r = R.1
        · subst e
          exact ⟨n, by omega, up1_s.symm, up1_s.symm, up1_s.symm, gN_s.mpr ⟨fun i hi => ok_ne (hne i hi), ok_self⟩⟩
        · have hr' : r < R.1 := by have : r < R.1 + 1 := hr; omega
          obtain ⟨g, g1, g2, g3, g4, g5⟩ := h1 r hr'
          exact ⟨g, by omega, g2.trans (u hr').symm, g3.trans (u hr').symm, g4.trans (u hr').symm, gN_s.mpr ⟨g5, ok_ne fun q => hne g g1 (eqR_sy q)⟩⟩
      · by_cases e : i = n
        · subst e
          exact ⟨R.1, Nat.lt_succ_self _, up1_s, up1_s⟩
        · obtain ⟨r, r1, r2, r3⟩ := h2 i (by omega)
          exact ⟨r, Nat.lt_succ_of_lt r1, (u r1).trans r2, (u r1).trans r3⟩
      · have hr2 : r < R.1 + 1 := hr
        have hr3 : r' < R.1 + 1 := hr'
        have e1' : up1 R.2.1 R.1 (σ.1 37 (30 * k + n)) r = up1 R.2.1 R.1 (σ.1 37 (30 * k + n)) r' := e1
        have e2' : up1 R.2.2.1 R.1 (σ.1 35 (30 * k + n)) r = up1 R.2.2.1 R.1 (σ.1 35 (30 * k + n)) r' := e2
        by_cases q : r = R.1
        · by_cases q' : r' = R.1
          · omega
          · rw [q, up1_s, u (by omega)] at e1' e2'
            exact absurd ⟨e1'.symm, e2'.symm⟩ (hno r' (Nat.zero_le _) (by omega))
        · by_cases q' : r' = R.1
          · rw [q', up1_s, u (by omega)] at e1' e2'
            exact absurd ⟨e1', e2'⟩ (hno r (Nat.zero_le _) (by omega))
          · rw [u (by omega), u (by omega)] at e1' e2'
            exact h3 r r' (by omega) (by omega) e1' e2'
      · show fsum (gT9 σ k (n + 1)) n + gT9 σ k (n + 1) n = fsum (rSumT (R.1 + 1, up1 R.2.1 R.1 _, up1 R.2.2.1 R.1 _, up1 R.2.2.2 R.1 _) (σ.2 0)) R.1 + rSumT (R.1 + 1, up1 R.2.1 R.1 _, up1 R.2.2.1 R.1 _, up1 R.2.2.2 R.1 _) (σ.2 0) R.1
        have a1 : fsum (gT9 σ k (n + 1)) n = fsum (gT9 σ k n) n := fsum_congr n fun i hi => by
          unfold gT9
          have : gN σ k (n + 1) i ↔ gN σ k n i := ⟨fun h => (gN_s.mp h).1, fun h => gN_s.mpr ⟨h, ok_ne fun q => hne i hi (eqR_sy q)⟩⟩
          rw [this]
        have a2 : fsum (rSumT (R.1 + 1, up1 R.2.1 R.1 (σ.1 37 (30 * k + n)), up1 R.2.2.1 R.1 (σ.1 35 (30 * k + n)), up1 R.2.2.2 R.1 (σ.1 36 (30 * k + n))) (σ.2 0)) R.1 = fsum (rSumT R (σ.2 0)) R.1 := fsum_congr _ fun i hi => by
          show (if σ.2 0 - 30 < up1 R.2.1 R.1 _ i then up1 R.2.2.2 R.1 _ i else 0) = if σ.2 0 - 30 < R.2.1 i then R.2.2.2 i else 0
          rw [u hi, u hi]
        have a3 : gT9 σ k (n + 1) n = rSumT (R.1 + 1, up1 R.2.1 R.1 (σ.1 37 (30 * k + n)), up1 R.2.2.1 R.1 (σ.1 35 (30 * k + n)), up1 R.2.2.2 R.1 (σ.1 36 (30 * k + n))) (σ.2 0) R.1 := by
          show _ = if σ.2 0 - 30 < up1 R.2.1 R.1 _ R.1 then up1 R.2.2.2 R.1 _ R.1 else 0
          rw [up1_s, up1_s]
          have hg : gN σ k (n + 1) n := gN_s.mpr ⟨fun i hi => ok_ne (hne i hi), ok_self⟩
          unfold gT9
          by_cases q : σ.2 0 - 30 < σ.1 37 (30 * k + n)
          · rw [if_pos q]; exact iteP_t ⟨q, hg⟩
          · rw [if_neg q]; exact iteP_f fun z => q z.1
        rw [a1, a2, a3]
        exact congrArg (· + _) h4
    | some r =>
      rw [rTell_some hf]
      obtain ⟨hr, hd, hs⟩ := rFind_s hf
      have hr : r < R.1 := by omega
      obtain ⟨g, g1, g2, g3, g4, g5⟩ := h1 r hr
      have heq : eqR σ k g n := ⟨g3.trans hs, g2.trans hd⟩
      have hT0 : ∀ i, i < n → i ≠ g → eqR σ k i n → ¬ gN σ k n i := fun i hi hn he hG => ok_two hn (eqR_tr he (eqR_sy heq)) (hG g g1) (g5 i hi)
      by_cases hw : R.2.2.2 r < σ.1 36 (30 * k + n)
      · rw [if_pos hw]
        have hw' : σ.1 36 (30 * k + g) < σ.1 36 (30 * k + n) := by rw [g4]; exact hw
        have hGn : gN σ k (n + 1) n := gN_s.mpr ⟨fun i hi => by
          by_cases he : eqR σ k i n
          · refine Or.inr (Or.inl ?_)
            by_cases hig : i = g
            · rw [hig]; exact hw'
            · rcases g5 i hi with q | q | q
              · exact absurd ⟨by omega, (eqR_tr he (eqR_sy heq)).1, (eqR_tr he (eqR_sy heq)).2⟩ q
              · exact Int32.lt_trans q hw'
              · rw [q.1]; exact hw'
          · exact ok_ne he, ok_self⟩
        have hGg : ¬ gN σ k (n + 1) g := fun h => by
          rcases (gN_s.mp h).2 with q | q | q
          · exact q ⟨by omega, heq.1.symm, heq.2.symm⟩
          · exact lt_irr32 q hw'
          · rw [q.1] at hw'; exact Int32.lt_irrefl hw'
        refine ⟨fun r' hr' => ?_, fun i hi => ?_, h3, ?_⟩
        · by_cases e : r' = r
          · subst e
            exact ⟨n, by omega, hd.symm, hs.symm, up1_s.symm, hGn⟩
          · obtain ⟨g', b1, b2, b3, b4, b5⟩ := h1 r' hr'
            refine ⟨g', by omega, b2, b3, b4.trans (up1_n e).symm, gN_s.mpr ⟨b5, ok_ne fun q => e ?_⟩⟩
            exact h3 r' r hr' hr (b2.symm.trans (q.2.symm.trans hd.symm)) (b3.symm.trans (q.1.symm.trans hs.symm))
        · by_cases e : i = n
          · subst e; exact ⟨r, hr, hd, hs⟩
          · exact h2 i (by omega)
        · show fsum (gT9 σ k (n + 1)) n + gT9 σ k (n + 1) n = fsum (rSumT (R.1, R.2.1, R.2.2.1, up1 R.2.2.2 r (σ.1 36 (30 * k + n))) (σ.2 0)) R.1
          have b1 := fsum_ch (F := gT9 σ k n) (F' := gT9 σ k (n + 1)) g1 fun i hi hn => by
            unfold gT9
            by_cases he : eqR σ k i n
            · rw [iteP_f (fun z => hT0 i hi hn he z.2), iteP_f (fun z => hT0 i hi hn he (gN_s.mp z.2).1)]
            · have : gN σ k (n + 1) i ↔ gN σ k n i := ⟨fun h => (gN_s.mp h).1, fun h => gN_s.mpr ⟨h, ok_ne fun q => he (eqR_sy q)⟩⟩
              rw [this]
          have b2 := fsum_ch (F := rSumT R (σ.2 0)) (F' := rSumT (R.1, R.2.1, R.2.2.1, up1 R.2.2.2 r (σ.1 36 (30 * k + n))) (σ.2 0)) hr fun i hi hn => by
            show (if σ.2 0 - 30 < R.2.1 i then R.2.2.2 i else 0) = if σ.2 0 - 30 < R.2.1 i then up1 R.2.2.2 r _ i else 0
            rw [up1_n hn]
          have c1 : gT9 σ k (n + 1) g = 0 := iteP_f fun z => hGg z.2
          have c2 : gT9 σ k n g = rSumT R (σ.2 0) r := by
            show _ = if σ.2 0 - 30 < R.2.1 r then R.2.2.2 r else 0
            rw [← g2, ← g4]
            unfold gT9
            by_cases q : σ.2 0 - 30 < σ.1 37 (30 * k + g)
            · rw [if_pos q]; exact iteP_t ⟨q, g5⟩
            · rw [if_neg q]; exact iteP_f fun z => q z.1
          have c3 : gT9 σ k (n + 1) n = rSumT (R.1, R.2.1, R.2.2.1, up1 R.2.2.2 r (σ.1 36 (30 * k + n))) (σ.2 0) r := by
            show _ = if σ.2 0 - 30 < R.2.1 r then up1 R.2.2.2 r _ r else 0
            rw [up1_s, hd]
            unfold gT9
            by_cases q : σ.2 0 - 30 < σ.1 37 (30 * k + n)
            · rw [if_pos q]; exact iteP_t ⟨q, hGn⟩
            · rw [if_neg q]; exact iteP_f fun z => q z.1
          rw [c1, Int32.add_zero, c2] at b1
          have h4' : fsum (gT9 σ k n) n = fsum (rSumT R (σ.2 0)) R.1 := h4
          rw [← h4', ← c3, ← b1] at b2
          have := congrArg (· - rSumT R (σ.2 0) r) b2
          simp only [Int32.add_sub_cancel] at this
          rw [this, Int32.add_assoc, Int32.add_comm (rSumT R (σ.2 0) r), ← Int32.add_assoc, Int32.add_sub_cancel]
      · rw [if_neg hw]
        have hw' : σ.1 36 (30 * k + n) < σ.1 36 (30 * k + g) ∨ σ.1 36 (30 * k + n) = σ.1 36 (30 * k + g) := by
          rw [g4]
          by_cases q : σ.1 36 (30 * k + n) = R.2.2.2 r
          · exact Or.inr q
          · refine Or.inl ?_
            rw [Int32.lt_iff_toInt_lt] at hw ⊢
            have : (σ.1 36 (30 * k + n)).toInt ≠ (R.2.2.2 r).toInt := fun z => q (Int32.toInt_inj.mp z)
            omega
        have hGn : ¬ gN σ k (n + 1) n := fun h => by
          rcases (gN_s.mp h).1 g g1 with q | q | q
          · exact q ⟨by omega, heq.1, heq.2⟩
          · rcases hw' with z | z
            · exact lt_irr32 q z
            · rw [z] at q; exact Int32.lt_irrefl q
          · omega
        have hGg : gN σ k (n + 1) g := gN_s.mpr ⟨g5, Or.inr (hw'.imp id fun z => ⟨z, by omega⟩)⟩
        have eR : (R.1, R.2.1, R.2.2.1, up1 R.2.2.2 r (R.2.2.2 r)) = R := by
          have : up1 R.2.2.2 r (R.2.2.2 r) = R.2.2.2 := funext fun x => by
            by_cases e : x = r
            · subst e; exact up1_s
            · exact up1_n e
          rw [this]
        rw [eR]
        refine ⟨fun r' hr' => ?_, fun i hi => ?_, h3, ?_⟩
        · by_cases e : r' = r
          · subst e
            exact ⟨g, by omega, g2, g3, g4, hGg⟩
          · obtain ⟨g', b1, b2, b3, b4, b5⟩ := h1 r' hr'
            refine ⟨g', by omega, b2, b3, b4, gN_s.mpr ⟨b5, ok_ne fun q => e ?_⟩⟩
            exact h3 r' r hr' hr (b2.symm.trans (q.2.symm.trans hd.symm)) (b3.symm.trans (q.1.symm.trans hs.symm))
        · by_cases e : i = n
          · subst e; exact ⟨r, hr, hd, hs⟩
          · exact h2 i (by omega)
        · show fsum (gT9 σ k (n + 1)) n + gT9 σ k (n + 1) n = rSum R (σ.2 0)
          have a1 : gT9 σ k (n + 1) n = 0 := iteP_f fun z => hGn z.2
          rw [a1, Int32.add_zero, ← h4]
          refine fsum_congr n fun i hi => ?_
          unfold gT9
          by_cases he : eqR σ k i n
          · by_cases hig : i = g
            · subst hig
              have : gN σ k (n + 1) i ↔ gN σ k n i := ⟨fun _ => g5, fun _ => hGg⟩
              rw [this]
            · rw [iteP_f (fun z => hT0 i hi hig he (gN_s.mp z.2).1), iteP_f (fun z => hT0 i hi hig he z.2)]
          · have : gN σ k (n + 1) i ↔ gN σ k n i := ⟨fun h => (gN_s.mp h).1, fun h => gN_s.mpr ⟨h, ok_ne fun q => he (eqR_sy q)⟩⟩
            rw [this]
theorem mRisk_r (σ : aS) (k : Nat) : mRisk σ k = rSum (rAll σ k) (σ.2 0) := (rOK_all σ k (rN σ k)).2.2.2
/-- the first report that must be seen -/
def seeP (σ : aS) (k : Nat) (d : Int32) : Prop := σ.2 0 - 30 < d ∧ σ.1 9 k < d
/-- the rows ahead of the first that must be seen are of reports ahead of it -/
theorem rFst (σ : aS) (k : Nat) : ∀ n, ((∀ i, i < n → ¬ seeP σ k (σ.1 37 (30 * k + i))) ∧ ∀ r, r < (rMrg σ k n).1 → ¬ seeP σ k ((rMrg σ k n).2.1 r)) ∨ ∃ i r, i < n ∧ r < (rMrg σ k n).1 ∧ (∀ i', i' < i → ¬ seeP σ k (σ.1 37 (30 * k + i'))) ∧ (∀ r', r' < r → ¬ seeP σ k ((rMrg σ k n).2.1 r')) ∧ seeP σ k (σ.1 37 (30 * k + i)) ∧ (rMrg σ k n).2.1 r = σ.1 37 (30 * k + i)
  | 0 => Or.inl ⟨fun i h => absurd h (Nat.not_lt_zero _), fun i h => absurd h (Nat.not_lt_zero _)⟩
  | n + 1 => by
    have h := rFst σ k n
    show ((∀ i, i < n + 1 → ¬ seeP σ k (σ.1 37 (30 * k + i))) ∧ ∀ r, r < (rTell (rMrg σ k n) (σ.1 37 (30 * k + n)) (σ.1 35 (30 * k + n)) (σ.1 36 (30 * k + n))).1 → ¬ seeP σ k ((rTell (rMrg σ k n) (σ.1 37 (30 * k + n)) (σ.1 35 (30 * k + n)) (σ.1 36 (30 * k + n))).2.1 r)) ∨ ∃ i r, i < n + 1 ∧ r < (rTell (rMrg σ k n) (σ.1 37 (30 * k + n)) (σ.1 35 (30 * k + n)) (σ.1 36 (30 * k + n))).1 ∧ (∀ i', i' < i → ¬ seeP σ k (σ.1 37 (30 * k + i'))) ∧ (∀ r', r' < r → ¬ seeP σ k ((rTell (rMrg σ k n) (σ.1 37 (30 * k + n)) (σ.1 35 (30 * k + n)) (σ.1 36 (30 * k + n))).2.1 r')) ∧ seeP σ k (σ.1 37 (30 * k + i)) ∧ (rTell (rMrg σ k n) (σ.1 37 (30 * k + n)) (σ.1 35 (30 * k + n)) (σ.1 36 (30 * k + n))).2.1 r = σ.1 37 (30 * k + i)
    generalize rMrg σ k n = R at h
    cases hf : rFind (σ.1 37 (30 * k + n)) (σ.1 35 (30 * k + n)) R.2.1 R.2.2.1 R.1 0 with
    | none =>
      rw [rTell_none hf]
      have u : ∀ {v : Int32} {r : Nat}, r < R.1 → up1 R.2.1 R.1 v r = R.2.1 r := fun h => up1_n (by omega)
      rcases h with ⟨a1, a2⟩ | ⟨i, r, a1, a2, a3, a4, a5, a6⟩
      · by_cases q : seeP σ k (σ.1 37 (30 * k + n))
        · exact Or.inr ⟨n, R.1, by omega, Nat.lt_succ_self _, a1, fun r' hr' => by
            show ¬ seeP σ k (up1 R.2.1 R.1 _ r')
            rw [u hr']; exact a2 r' hr', q, up1_s⟩
        · refine Or.inl ⟨fun i hi => ?_, fun r hr => ?_⟩
          · by_cases e : i = n
            · rw [e]; exact q
            · exact a1 i (by omega)
          · show ¬ seeP σ k (up1 R.2.1 R.1 _ r)
            have hr : r < R.1 + 1 := hr
            by_cases e : r = R.1
            · rw [e, up1_s]; exact q
            · rw [u (by omega)]; exact a2 r (by omega)
      · exact Or.inr ⟨i, r, by omega, Nat.lt_succ_of_lt a2, a3, fun r' hr' => by
          show ¬ seeP σ k (up1 R.2.1 R.1 _ r')
          rw [u (by omega)]; exact a4 r' hr', a5, (u a2).trans a6⟩
    | some r0 =>
      rw [rTell_some hf]
      obtain ⟨hr, hd, hs⟩ := rFind_s hf
      rcases h with ⟨a1, a2⟩ | ⟨i, r, a1, a2, a3, a4, a5, a6⟩
      · refine Or.inl ⟨fun i hi => ?_, a2⟩
        by_cases e : i = n
        · rw [e, ← hd]; exact a2 r0 (by omega)
        · exact a1 i (by omega)
      · exact Or.inr ⟨i, r, by omega, a2, a3, a4, a5, a6⟩
theorem mFirstF_no {σ : aS} {k : Nat} : ∀ {d : Nat}, d ≤ rN σ k → (∀ i, rN σ k - d ≤ i → i < rN σ k → ¬ seeP σ k (σ.1 37 (30 * k + i))) → mFirstF σ k d = -1
  | 0, _, _ => rfl
  | d + 1, h1, h => by
    unfold mFirstF
    refine (iteP_f (fun z => h (rN σ k - (d + 1)) (Nat.le_refl _) (by omega) z)).trans ?_
    exact mFirstF_no (by omega) fun i hi => h i (by omega)
theorem mFirstF_at {σ : aS} {k i : Nat} (hi : seeP σ k (σ.1 37 (30 * k + i))) (hr : i < rN σ k) : ∀ {d : Nat}, d ≤ rN σ k → rN σ k - d ≤ i → (∀ i', i' < i → ¬ seeP σ k (σ.1 37 (30 * k + i'))) → mFirstF σ k d = σ.1 37 (30 * k + i)
  | 0, _, h2, _ => by omega
  | d + 1, h1, h2, h => by
    unfold mFirstF
    by_cases e : rN σ k - (d + 1) = i
    · rw [e]; exact iteP_t hi
    · refine (iteP_f (fun z => h (rN σ k - (d + 1)) (by omega) z)).trans ?_
      exact mFirstF_at hi hr (by omega) (by omega) h
theorem rSeeF_no {R : rS} {day seen : Int32} : ∀ {t r : Nat}, (∀ q, r ≤ q → q < r + t → ¬ (day - 30 < R.2.1 q ∧ seen < R.2.1 q)) → rSeeF R day seen t r = -1
  | 0, _, _ => rfl
  | t + 1, r, h => by
    rw [rSeeF_s, if_neg (h r (Nat.le_refl _) (by omega))]
    exact rSeeF_no fun q h1 h2 => h q (by omega) (by omega)
theorem rSeeF_at {R : rS} {day seen : Int32} {q : Nat} (hq : day - 30 < R.2.1 q ∧ seen < R.2.1 q) : ∀ {t r : Nat}, r ≤ q → q < r + t → (∀ r', r' < q → ¬ (day - 30 < R.2.1 r' ∧ seen < R.2.1 r')) → rSeeF R day seen t r = R.2.1 q + daysTo (rSum R day)
  | 0, _, _, _, _ => by omega
  | t + 1, r, h1, h2, h => by
    rw [rSeeF_s]
    by_cases e : r = q
    · subst e; exact if_pos hq
    · rw [if_neg (h r (by omega))]
      exact rSeeF_at hq (by omega) (by omega) h
/-- no report was told before day 0 -/
def IR (σ : aS) : Prop := ∀ k i, k < cN σ 1 → i < rN σ k → 0 ≤ σ.1 37 (30 * k + i)
theorem mSeenBy_r {σ : aS} {k : Nat} (hR : IR σ) (hk : k < cN σ 1) : mSeenBy σ k = rSee (rAll σ k) (σ.2 0) (σ.1 9 k) := by
  unfold mSeenBy rSee mFirst
  rcases rFst σ k (rN σ k) with ⟨a1, a2⟩ | ⟨i, r, a1, a2, a3, a4, a5, a6⟩
  · rw [mFirstF_no (Nat.le_refl _) fun i _ hi => a1 i hi, if_pos rfl]
    exact (rSeeF_no fun q _ hq => a2 q (by show q < (rAll σ k).1; omega)).symm
  · rw [mFirstF_at a5 a1 (Nat.le_refl _) (by omega) a3]
    have hn : ¬ σ.1 37 (30 * k + i) = -1 := fun q => by
      have := hR k i hk a1
      rw [q] at this
      exact absurd this (by decide)
    rw [if_neg hn, mRisk_r]
    refine Eq.symm ((rSeeF_at (q := r) (by rw [a6]; exact a5) (Nat.zero_le _) (by show r < 0 + (rAll σ k).1; rw [Nat.zero_add]; exact a2) fun r' hr' => a4 r' hr').trans ?_)
    rw [a6]
    rfl

