/-! THE LAW: its numbers beside the class's, call by call. -/
def LJ (σ : aS) (γ : Nat → Nat → Int32) : Prop := IL σ γ ∧ IYV σ ∧ ∀ m, cN σ 20 ≤ m → m < 4 → γ 5 m = 0
/-- what one act may do -/
def WP (σ : aS) (γ : Nat → Nat → Int32) (σ' : aS) (γ' : Nat → Nat → Int32) : Prop := LJ σ' γ' ∧ cN σ' 0 ≤ cN σ 0 + 60 ∧ cN σ' 27 ≤ cN σ 27 + 3 ∧ γ' 0 5 = γ 0 5
def lo (v : Int32) (n : Nat) : Nat := nx (v &&& 2147483647) % n
theorem lo_lt (v : Int32) {n : Nat} (h : 0 < n) : lo v n < n := Nat.mod_lt _ h
theorem lo_is (v : Int32) {n : Nat} (h : 0 < n) (hn : n < 2 ^ 31) : (v &&& 2147483647) - (v &&& 2147483647) / nI n * nI n = nI (lo v n) := by
  obtain ⟨j, j1, j2⟩ := pk_andE v (m := 2147483647) 31 (by decide)
  unfold lo
  rw [j2, pk_rem j1 h hn, nx_nI j1]
theorem pick {p : Prop} (u v : Nat) : ∃ W, (p → u = W) ∧ (¬ p → v = W) ∧ (W = u ∨ W = v) := by
  by_cases h : p
  · exact ⟨u, fun _ => rfl, fun z => absurd h z, Or.inl rfl⟩
  · exact ⟨v, fun z => absurd z h, fun _ => rfl, Or.inr rfl⟩
theorem IL_of {σ σ' : aS} {γ : Nat → Nat → Int32} (h : IL σ γ) (r : ∀ f, f ∈ [2, 3, 4, 5, 23, 25, 39, 41, 42] → σ'.1 f = σ.1 f) (n : ∀ x, x ∈ [0, 1, 20, 38, 43] → σ'.2 x = σ.2 x) : IL σ' γ := by
  obtain ⟨⟨a0, a1, a2, a3, a4⟩, ⟨a5, a6⟩, h3, h4, h5⟩ := h
  have c : ∀ x, x ∈ [0, 1, 20, 38, 43] → cN σ' x = cN σ x := fun x hx => congrArg Int32.toNatClampNeg (n x hx)
  refine ⟨⟨by rw [c 1 (by decide)]; exact a0, by rw [c 20 (by decide)]; exact a1, by rw [c 38 (by decide)]; exact a2, by rw [c 43 (by decide)]; exact a3, by rw [n 0 (by decide)]; exact a4⟩, ⟨by rw [c 20 (by decide)]; exact a5, by rw [c 38 (by decide)]; exact a6⟩, ?_, ?_, ?_⟩
  · rw [c 1 (by decide), r 2 (by decide), r 3 (by decide), r 4 (by decide), r 5 (by decide)]; exact h3
  · rw [c 20 (by decide), r 23 (by decide), r 25 (by decide)]; exact h4
  · rw [c 38 (by decide), r 39 (by decide), r 41 (by decide), r 42 (by decide)]; exact h5
theorem IL_A {A : Nat → Nat → Int32} {B : Nat → Int32} {γ : Nat → Nat → Int32} {f j : Nat} {v : Int32} (h : IL (A, B) γ) (hf : f ∉ [2, 3, 4, 5, 23, 25, 39, 41, 42]) : IL (up2 A f j v, B) γ :=
  IL_of (σ := (A, B)) (σ' := (up2 A f j v, B)) h (fun _ hg => up2_f fun e => hf (e ▸ hg)) fun _ _ => rfl
theorem IL_56 {A : Nat → Nat → Int32} {B : Nat → Int32} {γ : Nat → Nat → Int32} {v : Int32} (h : IL (A, B) γ) : IL (A, up1 B 56 v) γ := h
theorem IL_sT {σ : aS} {γ : Nat → Nat → Int32} {t : Int32} (h : IL σ γ) : IL (sT σ t) γ := h
theorem LJ_of {σ σ' : aS} {γ : Nat → Nat → Int32} (hL : LJ σ γ) (h : IL σ' γ) (hY : IYV σ') : LJ σ' γ := ⟨h, hY, fun m h1 h2 => hL.2.2 m (by
  have e := hL.1.1.2.1.symm.trans h.1.2.1
  have a := hL.1.2.1.1
  have b := h.2.1.1
  have := (nI_eq (by omega) (by omega)).mp e
  omega) h2⟩
theorem LJ_sT {σ : aS} {γ : Nat → Nat → Int32} {t : Int32} (h : LJ σ γ) : LJ (sT σ t) γ := h
theorem IL_tells {σ : aS} {γ : Nat → Nat → Int32} {h s a b u : Int32} (hL : IL σ γ) : IL (oTells σ h s a b u) γ := by
  refine IL_of hL (fun f hf => ?_) fun x hx => ?_
  · have g : ∀ x, x = 28 ∨ x = 29 ∨ x = 30 ∨ x = 31 ∨ x = 32 ∨ x = 33 → f ≠ x := fun x hx e => by
      subst e
      rcases hx with rfl | rfl | rfl | rfl | rfl | rfl <;> exact absurd hf (by decide)
    unfold oTells
    dsimp only
    rw [up2_f (g 33 (by decide)), up2_f (g 32 (by decide)), up2_f (g 31 (by decide)), up2_f (g 30 (by decide)), up2_f (g 29 (by decide)), up2_f (g 28 (by decide))]
  · exact up1_n fun e => by subst e; exact absurd hx (by decide)
theorem LJ_approve {σ : aS} {γ : Nat → Nat → Int32} {h a b u : Int32} (hL : LJ σ γ) : LJ (oApprove σ h a b u) γ := by
  refine LJ_of hL ?_ (IYV_approve hL.2.1)
  unfold oApprove
  split
  · exact IL_tells (IL_sT hL.1)
  · exact IL_sT hL.1
theorem LJ_train {σ : aS} {γ : Nat → Nat → Int32} {h a u : Int32} (hL : LJ σ γ) : LJ (oTrain σ h a u) γ := by
  refine LJ_of hL ?_ (IYV_train hL.2.1)
  unfold oTrain
  split
  · exact IL_tells (IL_sT hL.1)
  · exact IL_sT hL.1
theorem LJ_see {σ : aS} {γ : Nat → Nat → Int32} {x : Int32} (hL : LJ σ γ) : LJ (oSee σ x).2 γ := by
  refine LJ_of hL ?_ (IYV_see hL.2.1)
  unfold oSee
  split
  · exact IL_56 (IL_A (A := σ.1) (B := σ.2) hL.1 (by decide))
  · exact IL_sT hL.1
theorem LJ_wish {σ : aS} {γ : Nat → Nat → Int32} {x h b : Int32} (hL : LJ σ γ) : LJ (oWish σ x h b) γ := by
  refine LJ_of hL ?_ (IYV_wish hL.2.1)
  unfold oWish
  split
  · exact IL_56 (IL_A (A := σ.1) (B := σ.2) hL.1 (by decide))
  · exact IL_sT hL.1
theorem LJ_visits {σ : aS} {γ : Nat → Nat → Int32} {x v : Int32} (hL : LJ σ γ) : LJ (oVisits σ x v).2 γ := by
  refine LJ_of hL ?_ (IYV_visits hL.2.1)
  unfold oVisits
  split
  · exact IL_56 (IL_A (A := σ.1) (B := σ.2) hL.1 (by decide))
  · exact IL_sT hL.1
theorem LJ_came {σ : aS} {γ : Nat → Nat → Int32} {x : Int32} (hL : LJ σ γ) : LJ (oCame σ x) γ := by
  refine LJ_of hL ?_ (IYV_came hL.2.1)
  unfold oCame
  split
  · exact IL_56 (IL_A (A := σ.1) (B := σ.2) hL.1 (by decide))
  · exact IL_sT hL.1
theorem LJ_hand {σ : aS} {γ : Nat → Nat → Int32} {x w : Int32} (hL : LJ σ γ) : LJ (oHand σ x w).2 γ := by
  refine LJ_of hL ?_ (IYV_hand hL.2.1)
  unfold oHand
  split
  · exact IL_56 (IL_A (A := σ.1) (B := σ.2) hL.1 (by decide))
  · exact IL_sT hL.1
theorem LJ_report {σ : aS} {γ : Nat → Nat → Int32} {x s w : Int32} (hI : IC σ) (hL : LJ σ γ) : LJ (oReport σ x s w).2 γ := by
  refine LJ_of hL ?_ (IYV_report hI hL.2.1)
  unfold oReport
  split
  · unfold sReport
    exact IL_56 (IL_A (B := σ.2) (IL_A (B := σ.2) (IL_A (B := σ.2) (IL_A (A := σ.1) (B := σ.2) hL.1 (by decide)) (by decide)) (by decide)) (by decide))
  · exact IL_sT hL.1
/-! the ranges of the law's calls -/
theorem in_n {x a b : Nat} (h1 : a ≤ x) (h2 : x ≤ b) (hb : b < 2 ^ 31) : inP (nI x) (nI a) (nI b) := ⟨nI_le h1 (by omega), nI_le h2 hb⟩
theorem ch_p {σ : aS} (hI : IC σ) {k : Nat} (hk : k < cN σ 1) : chP σ (nI k) := by
  have := of_ix (n := cN σ 1) (k := k) (by have := hI.2.1.2; omega) hk
  rw [← hI.2.1.1] at this
  exact this
theorem ho_p {σ : aS} (hI : IC σ) {k : Nat} (hk : k < cN σ 20) : hoP σ (nI k) := by
  have := of_ix (n := cN σ 20) (k := k) (by have := hI.2.2.1.2; omega) hk
  rw [← hI.2.2.1.1] at this
  exact this
theorem k_child {σ : aS} (hI : IC σ) {a b c d e : Nat} (ha : a ≤ 7000) (hb : b ≤ 15) (hc : c ≤ 7) (hd : d ≤ 50) (he : e ≤ 3) : (cN σ 1 = 16 → tChild σ (nI a) (nI b) (nI c) (nI d) (nI e) = 2) ∧ (cN σ 1 < 16 → tChild σ (nI a) (nI b) (nI c) (nI d) (nI e) = 0 ∧ (oChild σ (nI a) (nI b) (nI c) (nI d) (nI e)).1 = nI (cN σ 1)) := by
  have g : ¬ pI9 (inP (nI a) 0 7000 ∧ inP (nI b) 0 15 ∧ inP (nI c) 0 7 ∧ inP (nI d) 0 50 ∧ inP (nI e) 0 3) = 0 := pI9_ne.mpr ⟨in_n (Nat.zero_le _) ha (by decide), in_n (Nat.zero_le _) hb (by decide), in_n (Nat.zero_le _) hc (by decide), in_n (Nat.zero_le _) hd (by decide), in_n (Nat.zero_le _) he (by decide)⟩
  refine ⟨fun h => ?_, fun h => ?_⟩
  · refine gT_2 g (bI_f ?_)
    rw [hI.2.1.1, h]
    decide
  · have t : tChild σ (nI a) (nI b) (nI c) (nI d) (nI e) = 0 := gT_0 g (bI_ne.mpr (by rw [hI.2.1.1]; exact nI_lt (b := 16) h (by decide))) (by decide)
    refine ⟨t, ?_⟩
    rw [oChild, if_pos t]
    show σ.2 1 + 1 - 1 = _
    rw [hI.2.1.1, nI_1, nI_prv]
theorem k_home {σ : aS} (hI : IC σ) {a b c : Nat} (ha : a ≤ 50) (hb : b ≤ 3) (hc : 1 ≤ c) (hc5 : c ≤ 5) (h : cN σ 20 < 10) : tHome σ (nI a) (nI b) (nI c) = 0 ∧ (oHome σ (nI a) (nI b) (nI c)).1 = nI (cN σ 20) := by
  have t : tHome σ (nI a) (nI b) (nI c) = 0 := gT_0 (pI9_ne.mpr ⟨in_n (Nat.zero_le _) ha (by decide), in_n (Nat.zero_le _) hb (by decide), in_n hc hc5 (by decide)⟩) (bI_ne.mpr (by rw [hI.2.2.1.1]; exact nI_lt (b := 10) h (by decide))) (by decide)
  refine ⟨t, ?_⟩
  rw [oHome, if_pos t]
  show σ.2 20 + 1 - 1 = _
  rw [hI.2.2.1.1, nI_1, nI_prv]
theorem k_tells {σ : aS} (hI : IC σ) {h : Nat} (hh : h < cN σ 20) {P : Prop} (hP : P) : tHomeQ σ (nI h) P = 0 := gT_0 (bI_ne.mpr (ho_p hI hh)) (pI9_ne.mpr hP) (by decide)
theorem LJ_child {σ : aS} {γ : Nat → Nat → Int32} (hW : IW σ) (hL : LJ σ γ) {a b c d e : Int32} (ht : tChild σ a b c d e = 0) (h16 : cN σ 1 < 16) : LJ (oChild σ a b c d e).2 (up2 (up2 (up2 (up2 γ 1 (cN σ 1) (a - σ.2 0)) 2 (cN σ 1) b) 3 (cN σ 1) c) 0 0 (nI (cN σ 1 + 1))) := by
  have hp := hL.2.2
  refine ⟨?_, IYV_child hW hL.2.1, fun m h1 h2 => ?_⟩
  rotate_left
  · have e : cN (oChild σ a b c d e).2 20 = cN σ 20 := by
      rw [oChild, if_pos ht]
      rfl
    rw [up2_n1 (by decide), up2_n1 (by decide), up2_n1 (by decide), up2_n1 (by decide)]
    exact hp m (e ▸ h1) h2
  have hI := hW.1
  rw [oChild, if_pos ht]
  obtain ⟨⟨a0, a1, a2, a3, a4⟩, ⟨a5, a6⟩, h3, h4, h5⟩ := hL.1
  have e1 : σ.2 1 + 1 = nI (cN σ 1 + 1) := by rw [hI.2.1.1, nI_1]
  dsimp only
  rw [e1]
  obtain ⟨A, B⟩ := σ
  generalize hn : cN (A, B) 1 = n at *
  have eN : ∀ A', cN (A', up1 (up1 B 56 0) 1 (nI (n + 1))) 1 = n + 1 := fun A' => cN_at (by omega)
  have g : ∀ f j, f ≠ 0 ∨ j ≠ 0 → j ≠ n → up2 (up2 (up2 (up2 γ 1 n (a - (A, B).2 0)) 2 n b) 3 n c) 0 0 (nI (n + 1)) f j = γ f j := fun f j h1 h2 => by
    rw [show up2 (up2 (up2 (up2 γ 1 n (a - (A, B).2 0)) 2 n b) 3 n c) 0 0 (nI (n + 1)) f j = up2 (up2 (up2 γ 1 n (a - (A, B).2 0)) 2 n b) 3 n c f j from if_neg fun z => h1.elim (fun y => y z.1) (fun y => y z.2), up2_n2 h2, up2_n2 h2, up2_n2 h2]
  have g0 : ∀ j, j ≠ 0 → up2 (up2 (up2 (up2 γ 1 n (a - (A, B).2 0)) 2 n b) 3 n c) 0 0 (nI (n + 1)) 0 j = γ 0 j := fun j h2 => by
    rw [up2_n2 h2, up2_n1 (by decide), up2_n1 (by decide), up2_n1 (by decide)]
  have gf : ∀ f j, 3 < f → up2 (up2 (up2 (up2 γ 1 n (a - (A, B).2 0)) 2 n b) 3 n c) 0 0 (nI (n + 1)) f j = γ f j := fun f j h2 => by
    rw [up2_n1 (by omega), up2_n1 (by omega), up2_n1 (by omega), up2_n1 (by omega)]
  have r : ∀ f j, f < 2 ∨ 10 < f ∨ j ≠ n → up2 (up2 (up2 (up2 (up2 (up2 (up2 (up2 (up2 A 2 n a) 3 n (B 0)) 4 n b) 5 n c) 6 n d) 7 n e) 8 n (mLeast (A, B))) 9 n (-1)) 10 n (-1) f j = A f j := fun f j hf => by
    by_cases q : j = n
    · rw [up2_n1 (by omega), up2_n1 (by omega), up2_n1 (by omega), up2_n1 (by omega), up2_n1 (by omega), up2_n1 (by omega), up2_n1 (by omega), up2_n1 (by omega), up2_n1 (by omega)]
    · rw [up2_n2 q, up2_n2 q, up2_n2 q, up2_n2 q, up2_n2 q, up2_n2 q, up2_n2 q, up2_n2 q, up2_n2 q]
  refine ⟨⟨?_, ?_, ?_, ?_, ?_⟩, ⟨a5, a6⟩, fun k hk => ?_, fun m hm => ?_, fun i hi => ?_⟩
  · rw [eN]; exact up2_s
  · exact (g0 1 (by decide)).trans a1
  · exact (g0 2 (by decide)).trans a2
  · exact (g0 3 (by decide)).trans a3
  · exact (g0 4 (by decide)).trans a4
  · rw [eN] at hk
    by_cases q : k = n
    · subst q
      dsimp only
      refine ⟨?_, ?_, ?_⟩
      · rw [up2_n1 (by decide), up2_n1 (by decide), up2_n1 (by decide), up2_s, up2_n1 (by decide), up2_n1 (by decide), up2_n1 (by decide), up2_n1 (by decide), up2_n1 (by decide), up2_n1 (by decide), up2_n1 (by decide), up2_n1 (by decide), up2_s, up2_n1 (by decide), up2_n1 (by decide), up2_n1 (by decide), up2_n1 (by decide), up2_n1 (by decide), up2_n1 (by decide), up2_n1 (by decide), up2_s]
      · rw [up2_n1 (by decide), up2_n1 (by decide), up2_s, up2_n1 (by decide), up2_n1 (by decide), up2_n1 (by decide), up2_n1 (by decide), up2_n1 (by decide), up2_n1 (by decide), up2_s]
      · rw [up2_n1 (by decide), up2_s, up2_n1 (by decide), up2_n1 (by decide), up2_n1 (by decide), up2_n1 (by decide), up2_n1 (by decide), up2_s]
    · obtain ⟨q1, q2, q3⟩ := h3 k (by omega)
      dsimp only
      rw [g 1 k (Or.inl (by decide)) q, g 2 k (Or.inl (by decide)) q, g 3 k (Or.inl (by decide)) q, r 2 k (Or.inr (Or.inr q)), r 3 k (Or.inr (Or.inr q)), r 4 k (Or.inr (Or.inr q)), r 5 k (Or.inr (Or.inr q))]
      exact ⟨q1, q2, q3⟩
  · obtain ⟨q1, q2⟩ := h4 m hm
    dsimp only
    rw [gf 4 m (by decide), gf 5 m (by decide), r 23 m (by omega), r 25 m (by omega)]
    exact ⟨q1, q2⟩
  · obtain ⟨q1, q2, q3⟩ := h5 i hi
    dsimp only
    rw [gf 6 i (by decide), gf 7 _ (by decide), gf 7 _ (by decide), r 39 i (by omega), r 41 i (by omega), r 42 i (by omega)]
    exact ⟨q1, q2, q3⟩
theorem LJ_home {σ : aS} {γ : Nat → Nat → Int32} (hW : IW σ) (hL : LJ σ γ) {a b c : Int32} (ht : tHome σ a b c = 0) (h4 : cN σ 20 < 4) : LJ (oHome σ a b c).2 (up2 (up2 γ 4 (cN σ 20) c) 0 1 (nI (cN σ 20 + 1))) ∧ cN (oHome σ a b c).2 20 = cN σ 20 + 1 := by
  have hI := hW.1
  have Y := IYV_home (a := a) (b := b) (c := c) hW hL.2.1
  have hz := hL.2.2
  have hQ := (hW.2.2.2.2.2.2.1.2.1 (cN σ 20) (Nat.le_refl _) (by omega)).2.1
  rw [oHome, if_pos ht] at Y ⊢
  obtain ⟨⟨a0, a1, a2, a3, a4⟩, ⟨a5, a6⟩, h3, h4', h5⟩ := hL.1
  have e1 : σ.2 20 + 1 = nI (cN σ 20 + 1) := by rw [hI.2.2.1.1, nI_1]
  dsimp only at Y ⊢
  rw [e1] at Y ⊢
  obtain ⟨A, B⟩ := σ
  generalize hn : cN (A, B) 20 = n at *
  have eN : ∀ A', cN (A', up1 (up1 B 56 0) 20 (nI (n + 1))) 20 = n + 1 := fun A' => cN_at (by omega)
  have g0 : ∀ j, j ≠ 1 → up2 (up2 γ 4 n c) 0 1 (nI (n + 1)) 0 j = γ 0 j := fun j h2 => by
    rw [up2_n2 h2, up2_n1 (by decide)]
  have gf : ∀ f j, f ≠ 0 → f ≠ 4 ∨ j ≠ n → up2 (up2 γ 4 n c) 0 1 (nI (n + 1)) f j = γ f j := fun f j h1 h2 => by
    rw [up2_n1 h1]
    rcases h2 with h2 | h2
    · exact up2_n1 h2
    · exact up2_n2 h2
  have r : ∀ f j, f < 21 ∨ 23 < f ∨ j ≠ n → up2 (up2 (up2 A 21 n a) 22 n b) 23 n c f j = A f j := fun f j hf => by
    by_cases q : j = n
    · rw [up2_n1 (by omega), up2_n1 (by omega), up2_n1 (by omega)]
    · rw [up2_n2 q, up2_n2 q, up2_n2 q]
  refine ⟨⟨⟨⟨?_, ?_, ?_, ?_, ?_⟩, ⟨by rw [eN]; omega, a6⟩, fun k hk => ?_, fun m hm => ?_, fun i hi => ?_⟩, Y, fun m h1 h2 => ?_⟩, eN _⟩
  · exact (g0 0 (by decide)).trans a0
  · rw [eN]; exact up2_s
  · exact (g0 2 (by decide)).trans a2
  · exact (g0 3 (by decide)).trans a3
  · exact (g0 4 (by decide)).trans a4
  · obtain ⟨q1, q2, q3⟩ := h3 k hk
    dsimp only
    rw [gf 1 k (by decide) (by omega), gf 2 k (by decide) (by omega), gf 3 k (by decide) (by omega), r 2 k (by omega), r 3 k (by omega), r 4 k (by omega), r 5 k (by omega)]
    exact ⟨q1, q2, q3⟩
  · rw [eN] at hm
    dsimp only
    rw [gf 5 m (by decide) (by omega), r 25 m (by omega)]
    by_cases q : m = n
    · subst q
      refine ⟨?_, ?_⟩
      · rw [up2_n1 (by decide), up2_s, up2_s]
      · exact (hz m (Nat.le_refl _) h4).trans hQ.symm
    · obtain ⟨q1, q2⟩ := h4' m (by omega)
      rw [gf 4 m (by decide) (Or.inr q), r 23 m (Or.inr (Or.inr q))]
      exact ⟨q1, q2⟩
  · obtain ⟨q1, q2, q3⟩ := h5 i hi
    dsimp only
    rw [gf 6 i (by decide) (by omega), gf 7 _ (by decide) (by omega), gf 7 _ (by decide) (by omega), r 39 i (by omega), r 41 i (by omega), r 42 i (by omega)]
    exact ⟨q1, q2, q3⟩
  · rw [eN] at h1
    rw [gf 5 m (by decide) (by omega)]
    exact hz m (by omega) h2
