/-! THE LAW: what its acts say of the other calls. -/
theorem late_t {t : Nat} (h : t ≤ 12000) : nI t - 30 < nI t := by
  rw [Int32.lt_iff_toInt_lt, show (30 : Int32) = nI 30 from rfl, pk_sub_toInt (by omega) (by decide), nI_toInt (by omega)]
  omega
theorem rSumT_v {R : rS} {day d v : Int32} {r : Nat} (h1 : R.2.1 r = d) (h2 : R.2.2.2 r = v) : rSumT R day r = if day - 30 < d then v else 0 := by
  unfold rSumT
  rw [h1, h2]
theorem sum_ring (X A Y M : Int32) (h : X + A = Y + M) : X = Y + (M - A) := by grind
theorem rTell_sum {σ : aS} {k t w : Nat} {R : rS} {s : Int32} (hp : ∀ r, r < R.1 → (∃ d, d ≤ cN σ 0 ∧ R.2.1 r = nI d) ∧ ∃ w, 1 ≤ w ∧ w ≤ 9 ∧ R.2.2.2 r = nI w) (hR : R.1 ≤ 30) (ht : t ≤ 12000) (hw : 1 ≤ w) (hw9 : w ≤ 9) :
    ∃ r v, r ≤ 300 ∧ v ≤ 9 ∧ 1 ≤ r + v ∧ rSum R (nI t) = nI r ∧ rSum (rTell R (nI t) s (nI w)) (nI t) = nI (r + v) := by
  obtain ⟨r, r1, r2, r3⟩ := rSum_n (σ := σ) (k := k) (R := R) (day := nI t) hp
  have hl := late_t ht
  cases hf : rFind (nI t) s R.2.1 R.2.2.1 R.1 0 with
  | none =>
    refine ⟨r, w, by omega, hw9, by omega, r2, ?_⟩
    rw [rTell_none hf]
    show fsum _ R.1 + rSumT _ (nI t) R.1 = _
    have e1 : rSumT (R.1 + 1, up1 R.2.1 R.1 (nI t), up1 R.2.2.1 R.1 s, up1 R.2.2.2 R.1 (nI w)) (nI t) R.1 = nI w := (rSumT_v (d := nI t) (v := nI w) up1_s up1_s).trans (if_pos hl)
    have e2 : fsum (rSumT (R.1 + 1, up1 R.2.1 R.1 (nI t), up1 R.2.2.1 R.1 s, up1 R.2.2.2 R.1 (nI w)) (nI t)) R.1 = nI r := by
      rw [← r2]
      refine fsum_congr _ fun i hi => ?_
      exact rSumT_v (d := R.2.1 i) (v := R.2.2.2 i) (up1_n (by omega)) (up1_n (by omega))
    rw [e1, e2, nI_add]
  | some q =>
    obtain ⟨q1, q2, -⟩ := rFind_s hf
    have q1' : q < R.1 := by omega
    obtain ⟨-, a, a1, a2, a3⟩ := hp q q1'
    obtain ⟨m, m1, m2, m3⟩ : ∃ m, a ≤ m ∧ m ≤ 9 ∧ (if R.2.2.2 q < nI w then nI w else R.2.2.2 q) = nI m := by
      rw [a3]
      by_cases z : nI a < nI w
      · rw [if_pos z]
        have := (nI_ltI (by omega) (by omega)).mp z
        exact ⟨w, by omega, hw9, rfl⟩
      · rw [if_neg z]
        exact ⟨a, Nat.le_refl _, a2, rfl⟩
    have one : 1 ≤ r := r3 q q1' (by rw [q2]; exact hl)
    refine ⟨r, m - a, by omega, by omega, by omega, r2, ?_⟩
    rw [rTell_some hf]
    have ch := fsum_ch (F := rSumT R (nI t)) (F' := rSumT (R.1, R.2.1, R.2.2.1, up1 R.2.2.2 q (if R.2.2.2 q < nI w then nI w else R.2.2.2 q)) (nI t)) (i0 := q) q1' fun i _ hi => (rSumT_v (R := (R.1, R.2.1, R.2.2.1, up1 R.2.2.2 q (if R.2.2.2 q < nI w then nI w else R.2.2.2 q))) (d := R.2.1 i) (v := R.2.2.2 i) rfl (up1_n hi)).symm
    have e1 : rSumT R (nI t) q = nI a := (rSumT_v q2 a3).trans (if_pos hl)
    have e2 : rSumT (R.1, R.2.1, R.2.2.1, up1 R.2.2.2 q (if R.2.2.2 q < nI w then nI w else R.2.2.2 q)) (nI t) q = nI m := (rSumT_v (R := (R.1, R.2.1, R.2.2.1, up1 R.2.2.2 q (if R.2.2.2 q < nI w then nI w else R.2.2.2 q))) (d := nI t) (v := nI m) q2 (up1_s.trans m3)).trans (if_pos hl)
    rw [e1, e2, show fsum (rSumT R (nI t)) R.1 = nI r from r2] at ch
    have := sum_ring _ _ _ _ ch
    rw [pk_sub m1, nI_add] at this
    exact this
theorem rMrg_cg {σ σ' : aS} {k : Nat} : ∀ n, (∀ i, i < n → σ'.1 37 (30 * k + i) = σ.1 37 (30 * k + i) ∧ σ'.1 35 (30 * k + i) = σ.1 35 (30 * k + i) ∧ σ'.1 36 (30 * k + i) = σ.1 36 (30 * k + i)) → rMrg σ' k n = rMrg σ k n
  | 0, _ => rfl
  | n + 1, h => by
    obtain ⟨h1, h2, h3⟩ := h n (Nat.lt_succ_self n)
    show rTell (rMrg σ' k n) _ _ _ = rTell (rMrg σ k n) _ _ _
    rw [rMrg_cg n fun i hi => h i (by omega), h1, h2, h3]
theorem rAll_sT {σ : aS} {t : Int32} {k : Nat} : rAll (sT σ t) k = rAll σ k := rMrg_cg (σ := σ) (σ' := sT σ t) _ fun _ _ => ⟨rfl, rfl, rfl⟩
theorem k_report {σ : aS} (hW : IW σ) (hY : IY σ) {x s w : Nat} (hx : x < cN σ 1) (hs : s ≤ 9) (hw : 1 ≤ w) (hw9 : w ≤ 9) :
    (rN σ x = 30 → tReport σ (nI x) (nI s) (nI w) = 3 ∧ (oReport σ (nI x) (nI s) (nI w)).2 = sT σ 3) ∧
    (rN σ x < 30 → tReport σ (nI x) (nI s) (nI w) = 0 ∧ cN (oReport σ (nI x) (nI s) (nI w)).2 1 = cN σ 1 ∧ ∃ r v, r ≤ 300 ∧ v ≤ 9 ∧ 1 ≤ r + v ∧ rSum (rAll σ x) (σ.2 0) = nI r ∧ (oReport σ (nI x) (nI s) (nI w)).1 = nI (r + v) ∧ rSum (rAll (oReport σ (nI x) (nI s) (nI w)).2 x) ((oReport σ (nI x) (nI s) (nI w)).2.2 0) = nI (r + v)) := by
  have hI := hW.1
  have n0 := hI.1.2
  have n1 := hI.2.1.2
  obtain ⟨c7a, c7b⟩ := hI.2.2.2.2.2.2.1 x (by omega)
  have ex : nx (nI x) = x := nx_nI (by omega)
  have g1 : ¬ bI (chP σ (nI x)) = 0 := bI_ne.mpr (ch_p hI hx)
  have g2 : ¬ pI9 (inP (nI s) 0 9 ∧ inP (nI w) 1 9) = 0 := pI9_ne.mpr ⟨in_n (Nat.zero_le _) hs (by decide), in_n hw hw9 (by decide)⟩
  refine ⟨fun h => ?_, fun h => ?_⟩
  · have t : tReport σ (nI x) (nI s) (nI w) = 3 := gT_3 g1 g2 (pI9_f fun z => by
      have := z.2
      rw [ex, c7a, h] at this
      exact absurd this (by decide))
    refine ⟨t, ?_⟩
    rw [oReport, if_neg (by rw [t]; decide), t]
  · have t : tReport σ (nI x) (nI s) (nI w) = 0 := gT_0 g1 g2 (pI9_ne.mpr ⟨ch_p hI hx, by rw [ex, c7a]; exact nI_lt (b := 30) h (by decide)⟩)
    have hp := rPos (hY.2.2.2 x hx) (rN σ x) (Nat.le_refl _)
    have hr : (rAll σ x).1 ≤ 30 := Nat.le_trans (rMrg_le σ x _) c7b
    obtain ⟨r, v, v1, v2, v3, v4, v5⟩ := rTell_sum (σ := σ) (k := x) (t := cN σ 0) (w := w) (R := rAll σ x) (s := nI s) hp hr n0 hw hw9
    rw [oReport, if_pos t, ex]
    refine ⟨t, rfl, r, v, v1, v2, v3, by rw [hI.1.1]; exact v4, ?_⟩
    have key : rSum (rAll (sReport σ (nI x) (nI s) (nI w)) x) ((sReport σ (nI x) (nI s) (nI w)).2 0) = nI (r + v) := by
      have e0 : (sReport σ (nI x) (nI s) (nI w)).2 0 = nI (cN σ 0) := hI.1.1
      rw [e0, ← v5]
      congr 1
      have e34 : (sReport σ (nI x) (nI s) (nI w)).1 34 x = nI (rN σ x + 1) := by
        unfold sReport
        dsimp only
        rw [ex, up2_s, c7a, nI_1]
      have eN : rN (sReport σ (nI x) (nI s) (nI w)) x = rN σ x + 1 := by
        show ((sReport σ (nI x) (nI s) (nI w)).1 34 x).toNatClampNeg = _
        rw [e34, nI_clamp (by omega)]
      have f : ∀ g, g = 35 ∨ g = 36 ∨ g = 37 → ∀ i, i < rN σ x → (sReport σ (nI x) (nI s) (nI w)).1 g (30 * x + i) = σ.1 g (30 * x + i) := fun g hg i hi => by
        unfold sReport
        dsimp only
        rw [ex, up2_n1 (by omega), up2_n2 (by omega), up2_n2 (by omega), up2_n2 (by omega)]
      have h37 : (sReport σ (nI x) (nI s) (nI w)).1 37 (30 * x + rN σ x) = nI (cN σ 0) := by
        unfold sReport
        dsimp only
        rw [ex, up2_n1 (by decide), up2_s]
        exact hI.1.1
      have h36 : (sReport σ (nI x) (nI s) (nI w)).1 36 (30 * x + rN σ x) = nI w := by
        unfold sReport
        dsimp only
        rw [ex, up2_n1 (by decide), up2_n1 (by decide), up2_s]
      have h35 : (sReport σ (nI x) (nI s) (nI w)).1 35 (30 * x + rN σ x) = nI s := by
        unfold sReport
        dsimp only
        rw [ex, up2_n1 (by decide), up2_n1 (by decide), up2_n1 (by decide), up2_s]
      unfold rAll
      rw [eN]
      show rTell (rMrg (sReport σ (nI x) (nI s) (nI w)) x (rN σ x)) _ _ _ = _
      rw [h37, h36, h35, rMrg_cg (σ := σ) _ fun i hi => ⟨f 37 (by decide) i hi, f 35 (by decide) i hi, f 36 (by decide) i hi⟩]
    refine ⟨?_, key⟩
    dsimp only
    rw [mRisk_r]
    exact key
/-! seen -/
theorem rSee_n {σ : aS} {k : Nat} {seen : Int32} (hI : IC σ) (hY : ∀ i, i < rN σ k → YR σ k i) : rSee (rAll σ k) (σ.2 0) seen = -1 ∨ ∃ n, n ≤ 13000 ∧ rSee (rAll σ k) (σ.2 0) seen = nI n := by
  have hp := rPos hY (rN σ k) (Nat.le_refl _)
  have n0 := hI.1.2
  rcases rSeeF_is (R := rAll σ k) (day := σ.2 0) (seen := seen) (rAll σ k).1 0 with e | ⟨q, q1, q2, q3, q4⟩
  · exact Or.inl e
  · refine Or.inr ?_
    obtain ⟨⟨d, d1, d2⟩, -⟩ := hp q (show q < (rAll σ k).1 by omega)
    obtain ⟨n, m1, m2, m3⟩ := daysTo_n (rSum (rAll σ k) (σ.2 0))
    refine ⟨d + n, by omega, ?_⟩
    show rSeeF _ _ _ _ _ = _
    have d2' : (rAll σ k).2.1 q = nI d := d2
    rw [q4, m3, d2', nI_add]
theorem rSee_0 {σ : aS} {k : Nat} (hI : IC σ) (hY : ∀ i, i < rN σ k → YR σ k i) : rSee (rAll σ k) (σ.2 0) (σ.2 0) = -1 := by
  have hp := rPos hY (rN σ k) (Nat.le_refl _)
  have n0 := hI.1.2
  rcases rSeeF_is (R := rAll σ k) (day := σ.2 0) (seen := σ.2 0) (rAll σ k).1 0 with e | ⟨q, q1, q2, q3, -⟩
  · exact e
  · exfalso
    obtain ⟨⟨d, d1, d2⟩, -⟩ := hp q (show q < (rAll σ k).1 by omega)
    have d2' : (rAll σ k).2.1 q = nI d := d2
    have := q3.2
    rw [d2', hI.1.1] at this
    have := (nI_ltI (by omega) (by omega)).mp this
    omega
theorem k_see {σ : aS} (hW : IW σ) (hY : IY σ) {x : Nat} (hx : x < cN σ 1) :
    tC σ (nI x) = 0 ∧ (oSee σ (nI x)).1 = pI9 (¬ rSee (rAll σ x) (σ.2 0) (σ.1 9 x) = -1 ∧ rSee (rAll σ x) (σ.2 0) (σ.1 9 x) < σ.2 0) ∧ cN (oSee σ (nI x)).2 1 = cN σ 1 ∧ (oSee σ (nI x)).2.2 0 = σ.2 0 ∧ (oSee σ (nI x)).2.1 9 x = σ.2 0 := by
  have hI := hW.1
  have n1 := hI.2.1.2
  have ex : nx (nI x) = x := nx_nI (by omega)
  have t : tC σ (nI x) = 0 := gT_0 (bI_ne.mpr (ch_p hI hx)) (by decide) (by decide)
  have e := mSeenBy_r (σ := sT σ 0) (k := x) hW.2.2.2.2.2.2.2.2.1 hx
  rw [rAll_sT] at e
  rw [oSee, if_pos t, ex]
  refine ⟨t, ?_, rfl, rfl, up2_s⟩
  dsimp only
  rw [e]
  rfl
/-! wishes -/
def wsW (v : Int32) : Int32 := if v = 0 then 0 else if v = 1 then 8 else -8
theorem wsW_3 (v : Int32) : wsW v = 0 ∨ wsW v = 8 ∨ wsW v = -8 := by
  unfold wsW
  split
  · exact Or.inl rfl
  · split
    · exact Or.inr (Or.inl rfl)
    · exact Or.inr (Or.inr rfl)
theorem worth_ring (a b c w1 w0 : Int32) : a + b + w1 - c - (a + b + w0 - c) = w1 - w0 := by grind
theorem worth_19 {σ σ' : aS} {x h : Nat} (r : ∀ f, f ≠ 19 → σ'.1 f = σ.1 f) (n1 : cN σ' 1 = cN σ 1) : mWorth σ' x h - mWorth σ x h = wsW (σ'.1 19 (10 * x + h)) - wsW (σ.1 19 (10 * x + h)) := by
  have e1 : fsum (mWorthT σ' x h) (cN σ' 1) = fsum (mWorthT σ x h) (cN σ 1) := by
    rw [n1]
    refine fsum_congr _ fun j hj => ?_
    unfold mWorthT mHomeOf
    rw [r 5 (by decide), r 10 (by decide), r 45 (by decide)]
  have e2 : mFar σ' x h = mFar σ x h := by
    unfold mFar
    rw [r 6 (by decide), r 21 (by decide)]
  unfold mWorth
  rw [e1, e2, r 7 (by decide), r 22 (by decide)]
  exact worth_ring _ _ _ _ _
theorem mHome_of {σ σ' : aS} (r10 : σ'.1 10 = σ.1 10) (r45 : σ'.1 45 = σ.1 45) {x : Nat} : mHomeOf σ' x = mHomeOf σ x := by
  unfold mHomeOf
  rw [r10, r45]
theorem worth_back (a b c d : Int32) : a = b + (a - b) := by grind
theorem k_wish {σ : aS} (hI : IC σ) {x h : Nat} {b : Int32} (hx : x < cN σ 1) (hh : h < cN σ 20) :
    tCH σ (nI x) (nI h) = 0 ∧ mWorth (oWish σ (nI x) (nI h) b) x h - mWorth σ x h = wsW (if ¬ b = 0 then 1 else if 12 ≤ mYears σ x (σ.2 0) then 3 else 2) - wsW (σ.1 19 (10 * x + h)) ∧
    (oWish σ (nI x) (nI h) b).1 19 (10 * x + h) = (if ¬ b = 0 then 1 else if 12 ≤ mYears σ x (σ.2 0) then 3 else 2) ∧ (∀ f, f ≠ 19 → (oWish σ (nI x) (nI h) b).1 f = σ.1 f) ∧ ∀ y, y ≠ 56 → (oWish σ (nI x) (nI h) b).2 y = σ.2 y := by
  have n1 := hI.2.1.2
  have n20 := hI.2.2.1.2
  have ex : nx (nI x) = x := nx_nI (by omega)
  have eh : nx (nI h) = h := nx_nI (by omega)
  have t : tCH σ (nI x) (nI h) = 0 := gT_0 (pI9_ne.mpr ⟨ch_p hI hx, ho_p hI hh⟩) (by decide) (by decide)
  rw [oWish, if_pos t, ex, eh]
  have eY : mYears (sT σ 0) x (σ.2 0) = mYears σ x (σ.2 0) := rfl
  rw [eY]
  generalize (if ¬ b = 0 then (1 : Int32) else if 12 ≤ mYears σ x (σ.2 0) then 3 else 2) = v
  refine ⟨t, ?_, up2_s, fun f hf => up2_f hf, fun y hy => up1_n hy⟩
  have := worth_19 (σ := σ) (σ' := (up2 σ.1 19 (10 * x + h) v, up1 σ.2 56 0)) (x := x) (h := h) (fun f hf => up2_f hf) rfl
  rw [this]
  show wsW (up2 σ.1 19 (10 * x + h) v 19 (10 * x + h)) - _ = _
  rw [up2_s]
theorem wish_2 {σ : aS} (hI : IC σ) {x h : Nat} {b : Int32} (hx : x < cN σ 1) (hh : h < cN σ 20) (hI1 : IC (oWish σ (nI x) (nI h) b)) :
    cN (oWish σ (nI x) (nI h) b) 1 = cN σ 1 ∧ cN (oWish σ (nI x) (nI h) b) 20 = cN σ 20 ∧ mWorth (oWish (oWish σ (nI x) (nI h) b) (nI x) (nI h) b) x h = mWorth (oWish σ (nI x) (nI h) b) x h ∧
    (oWish (oWish σ (nI x) (nI h) b) (nI x) (nI h) b).1 19 (10 * x + h) = (if ¬ b = 0 then 1 else if 12 ≤ mYears σ x (σ.2 0) then 3 else 2) := by
  obtain ⟨-, -, w3, w4, w5⟩ := k_wish (b := b) hI hx hh
  have c1 : cN (oWish σ (nI x) (nI h) b) 1 = cN σ 1 := congrArg Int32.toNatClampNeg (w5 1 (by decide))
  have c20 : cN (oWish σ (nI x) (nI h) b) 20 = cN σ 20 := congrArg Int32.toNatClampNeg (w5 20 (by decide))
  obtain ⟨-, u2, u3, u4, u5⟩ := k_wish (σ := oWish σ (nI x) (nI h) b) (b := b) hI1 (by rw [c1]; exact hx) (by rw [c20]; exact hh)
  have eY : mYears (oWish σ (nI x) (nI h) b) x ((oWish σ (nI x) (nI h) b).2 0) = mYears σ x (σ.2 0) := by
    unfold mYears
    rw [w4 2 (by decide), w4 3 (by decide), w5 0 (by decide)]
  rw [eY] at u2 u3
  refine ⟨c1, c20, ?_, u3⟩
  rw [w3, Int32.sub_self] at u2
  have : ∀ p q : Int32, p - q = 0 → p = q := fun p q z => by grind
  exact this _ _ u2
theorem why_7 {σ : aS} {k h : Nat} (h3 : ¬ σ.1 19 (10 * k + h) = 3) : ¬ mWhyNot σ k h = 7 := by
  unfold mWhyNot
  by_cases q : 0 < mWhyOn σ k (nI h) (σ.2 0)
  · rw [if_pos q]
    obtain ⟨n, n1, n2⟩ := mWhyOn_n σ k (nI h) (σ.2 0)
    rw [n2]
    intro z
    have := (nI_eq (b := 7) (by omega) (by decide)).mp z
    omega
  · rw [if_neg q]
    by_cases q2 : σ.1 23 h ≤ mOthers σ (nI k) (nI h)
    · rw [if_pos q2]; decide
    · rw [if_neg q2, if_neg h3]; decide
/-! visits, came, handOver -/
theorem k_visits {σ : aS} (hI : IC σ) (hV : IV σ) {x v : Nat} (hx : x < cN σ 1) (hv : v ≤ 30) :
    tVisits σ (nI x) (nI v) = 0 ∧ (oVisits σ (nI x) (nI v)).1 = σ.1 12 x ∧ (∃ u, u ≤ 30 ∧ σ.1 12 x = nI u) ∧ (oVisits σ (nI x) (nI v)).2.1 12 x = nI v ∧ cN (oVisits σ (nI x) (nI v)).2 1 = cN σ 1 := by
  have n1 := hI.2.1.2
  have ex : nx (nI x) = x := nx_nI (by omega)
  have t : tVisits σ (nI x) (nI v) = 0 := gT_0 (bI_ne.mpr (ch_p hI hx)) (bI_ne.mpr (in_n (Nat.zero_le _) hv (by decide))) (by decide)
  rw [oVisits, if_pos t, ex]
  obtain ⟨h1, h2⟩ := hV x hx
  obtain ⟨u, u1, u2⟩ := nI_ofL h1 (Int32.le_of_lt h2) (n := 31) rfl
  refine ⟨t, rfl, ⟨u, ?_, u2⟩, up2_s, rfl⟩
  rw [u2] at h2
  have := (nI_ltI (b := 31) (by omega) (by decide)).mp h2
  omega
theorem k_came {σ : aS} (hI : IC σ) {x : Nat} (hx : x < cN σ 1) : (σ.1 10 x = -1 → tCame σ (nI x) = 2) ∧ (¬ σ.1 10 x = -1 → tCame σ (nI x) = 0) ∧ mHomeOf (oCame σ (nI x)) x = mHomeOf σ x ∧ cN (oCame σ (nI x)) 1 = cN σ 1 := by
  have n1 := hI.2.1.2
  have ex : nx (nI x) = x := nx_nI (by omega)
  have g := bI_ne.mpr (ch_p hI hx)
  refine ⟨fun h => gT_2 g (pI9_f fun z => z.2 (by rw [ex]; exact h)), fun h => gT_0 g (pI9_ne.mpr ⟨ch_p hI hx, by rw [ex]; exact h⟩) (by decide), ?_, ?_⟩
  · unfold oCame
    split
    · have r : ∀ f, f ≠ 13 → up2 σ.1 13 (nx (nI x)) 1 f = σ.1 f := fun f hf => up2_f hf
      exact mHome_of (σ := σ) (σ' := (up2 σ.1 13 (nx (nI x)) 1, up1 σ.2 56 0)) (r 10 (by decide)) (r 45 (by decide))
    · rfl
  · unfold oCame
    split <;> rfl
theorem k_hand {σ : aS} (hI : IC σ) {x w : Nat} (hx : x < cN σ 1) (hw : w ≤ 4) : tHand σ (nI x) (nI w) = 0 ∧ (oHand σ (nI x) (nI w)).1 = σ.1 8 x ∧ (oHand σ (nI x) (nI w)).2.1 8 x = nI w ∧ cN (oHand σ (nI x) (nI w)).2 1 = cN σ 1 := by
  have n1 := hI.2.1.2
  have ex : nx (nI x) = x := nx_nI (by omega)
  have t : tHand σ (nI x) (nI w) = 0 := gT_0 (pI9_ne.mpr ⟨ch_p hI hx, in_n (Nat.zero_le _) hw (by decide)⟩) (by decide) (by decide)
  rw [oHand, if_pos t, ex]
  exact ⟨t, rfl, up2_s, rfl⟩
