/-! THE CLASS: report. -/
theorem rMrg_congr2 {σ σ' : aS} {k : Nat} : ∀ n, (∀ i, i < n → σ'.1 35 (30 * k + i) = σ.1 35 (30 * k + i) ∧ σ'.1 36 (30 * k + i) = σ.1 36 (30 * k + i) ∧ σ'.1 37 (30 * k + i) = σ.1 37 (30 * k + i)) → rMrg σ' k n = rMrg σ k n
  | 0, _ => rfl
  | n + 1, h => by
    obtain ⟨h1, h2, h3⟩ := h n (Nat.lt_succ_self n)
    rw [rMrg, rMrg, rMrg_congr2 n fun i hi => h i (by omega), h1, h2, h3]
/-- what a telling leaves in a store -/
def RepT (S T : sS) (ad : Nat → Nat → Nat) (k : Nat) (R : rS) (v : Int32) : Prop := sK T = sK S ∧ sL T = sL S ∧ sR T = sR S ∧ sQ T = sQ S ∧ sJ T = sJ S ∧ sI T 503 (ad 5 k) = nI R.1 ∧ sI T 504 (ad 5 k) = v ∧ (∀ g a, ¬ ((g = 503 ∨ g = 504) ∧ a = ad 5 k) → sI T g a = sI S g a) ∧ sA T (ad 12 k) = R.2.1 ∧ sA T (ad 13 k) = R.2.2.1 ∧ sA T (ad 14 k) = R.2.2.2 ∧ ∀ a, a ≠ ad 12 k → a ≠ ad 13 k → a ≠ ad 14 k → sA T a = sA S a
theorem RelC_rep {S T : sS} {ad : Nat → Nat → Nat} {A : Nat → Nat → Int32} {B : Nat → Int32} {k : Nat} {d s w : Int32} (hC : RelC S ad (A, B)) (hI : IC (A, B)) (hk : k < cN (A, B) 1) (hr : rN (A, B) k < 30) (hT : RepT S T ad k (rTell (rMrg (A, B) k (rN (A, B) k)) d s w) (A 34 k + 1)) : RelC T ad (up2 (up2 (up2 (up2 A 35 (30 * k + rN (A, B) k) s) 36 (30 * k + rN (A, B) k) w) 37 (30 * k + rN (A, B) k) d) 34 k (A 34 k + 1), B) := by
  obtain ⟨t1, t2, t3, t4, t12, t5, t6, t7, t8, t9, t10, t11⟩ := hT
  have hk16 : k < 16 := by have := hI.2.1.2; omega
  have e34 : A 34 k = nI (rN (A, B) k) := (hI.2.2.2.2.2.2.1 k hk16).1
  obtain ⟨σ', hσ⟩ : ∃ σ', σ' = (up2 (up2 (up2 (up2 A 35 (30 * k + rN (A, B) k) s) 36 (30 * k + rN (A, B) k) w) 37 (30 * k + rN (A, B) k) d) 34 k (A 34 k + 1), B) := ⟨_, rfl⟩
  have eB : σ'.2 = B := by rw [hσ]
  have u : ∀ x, x ≠ 34 → x ≠ 35 → x ≠ 36 → x ≠ 37 → σ'.1 x = A x := fun x h4 h5 h6 h7 => by rw [hσ]; exact (up2_f h4).trans ((up2_f h7).trans ((up2_f h6).trans (up2_f h5)))
  have u34 : ∀ j, j ≠ k → σ'.1 34 j = A 34 j := fun j hj => by
    rw [hσ]
    show up2 A 34 k (A 34 k + 1) 34 j = A 34 j
    exact up2_n2 hj
  have v34 : σ'.1 34 k = A 34 k + 1 := by rw [hσ]; exact up2_s
  have w35 : ∀ i, i ≠ 30 * k + rN (A, B) k → σ'.1 35 i = A 35 i := fun i hi => by
    rw [hσ]
    show up2 A 35 (30 * k + rN (A, B) k) s 35 i = A 35 i
    exact up2_n2 hi
  have w36 : ∀ i, i ≠ 30 * k + rN (A, B) k → σ'.1 36 i = A 36 i := fun i hi => by
    rw [hσ]
    show up2 A 36 (30 * k + rN (A, B) k) w 36 i = A 36 i
    exact up2_n2 hi
  have w37 : ∀ i, i ≠ 30 * k + rN (A, B) k → σ'.1 37 i = A 37 i := fun i hi => by
    rw [hσ]
    show up2 A 37 (30 * k + rN (A, B) k) d 37 i = A 37 i
    exact up2_n2 hi
  have v35 : σ'.1 35 (30 * k + rN (A, B) k) = s := by
    rw [hσ]
    show up2 A 35 (30 * k + rN (A, B) k) s 35 (30 * k + rN (A, B) k) = s
    exact up2_s
  have v36 : σ'.1 36 (30 * k + rN (A, B) k) = w := by
    rw [hσ]
    show up2 A 36 (30 * k + rN (A, B) k) w 36 (30 * k + rN (A, B) k) = w
    exact up2_s
  have v37 : σ'.1 37 (30 * k + rN (A, B) k) = d := by
    rw [hσ]
    show up2 A 37 (30 * k + rN (A, B) k) d 37 (30 * k + rN (A, B) k) = d
    exact up2_s
  rw [← hσ]
  have hlv : ∀ i j, cLv σ' i j = cLv (A, B) i j := fun i j => cLv_congr (by unfold cN; rw [eB]) (by unfold cN; rw [eB]) (by unfold cN; rw [eB]) (by unfold cN; rw [eB]) (by unfold cN; rw [eB])
  have eN : ∀ x, cN σ' x = cN (A, B) x := fun x => by unfold cN; rw [eB]
  have rNk : rN σ' k = rN (A, B) k + 1 := by
    show (σ'.1 34 k).toNatClampNeg = _
    rw [v34, e34, nI_1, nI_clamp (by omega)]
  have emk : rMrg σ' k (rN σ' k) = (rTell (rMrg (A, B) k (rN (A, B) k)) d s w) := by
    rw [rNk, rMrg, v35, v36, v37, rMrg_congr2 (σ := (A, B)) (σ' := σ') _ fun i hi => ⟨w35 _ (by omega), w36 _ (by omega), w37 _ (by omega)⟩]
  have emo : ∀ j, j < cN (A, B) 1 → j ≠ k → rMrg σ' j (rN σ' j) = rMrg (A, B) j (rN (A, B) j) := fun j hj hn => by
    have hj30 := (hI.2.2.2.2.2.2.1 j (by have := hI.2.1.2; omega)).2
    rw [show rN σ' j = rN (A, B) j from congrArg Int32.toNatClampNeg (u34 j hn)]
    exact rMrg_congr2 (σ := (A, B)) (σ' := σ') _ fun i hi => ⟨w35 _ (by omega), w36 _ (by omega), w37 _ (by omega)⟩
  have hC' := hC
  obtain ⟨a1, a2, a3, a4, a5, a6, a7, a8, a9, a10, a11⟩ := hC'
  refine ⟨fun i j x y z l => by rw [t1]; exact a1 i j x y z (by rw [← hlv]; exact l), fun i j j' x y z l l' => a2 i j j' x y z (by rw [← hlv]; exact l) (by rw [← hlv]; exact l'), fun g j x y l => ?_, fun g j x y l => ?_, fun i j x y l => by rw [t2]; exact a5 i j x y (by rw [← hlv]; exact l), fun k2 hk2 => ?_, fun j hj => by rw [t4, eN]; exact a7 j hj, fun j hj => by rw [t4, eN]; exact a8 j hj, fun j hj => by rw [t4, eN]; exact a9 j hj, fun j hj => by rw [t4]; exact a10 j hj, fun j hj => by rw [t4]; exact a11 j hj⟩
  · rw [hlv] at l
    by_cases g3 : g = 503 ∧ j = k
    · obtain ⟨rfl, rfl⟩ := g3
      refine t5.trans ?_
      show _ = nI (rMrg σ' j (rN σ' j)).1
      rw [emk]
    · by_cases g4 : g = 504 ∧ j = k
      · obtain ⟨rfl, rfl⟩ := g4
        exact t6.trans v34.symm
      · have hT : sI T g (ad (g / 100) j) = sI S g (ad (g / 100) j) := t7 g _ fun z => by
          obtain ⟨z1, z2⟩ := z
          rcases z1 with rfl | rfl
          · exact g3 ⟨rfl, a2 5 j k (by decide) (by decide) (by decide) l hk z2⟩
          · exact g4 ⟨rfl, a2 5 j k (by decide) (by decide) (by decide) l hk z2⟩
        rw [hT, a3 g j x y l]
        by_cases g9 : g < 800
        · by_cases e5 : g / 100 = 5
          · by_cases ej : j = k
            · subst ej
              have hm : g = 505 := by
                have hh := lGI_m x y
                simp only [lGI, List.mem_cons, List.not_mem_nil, or_false] at hh
                have q3 : g ≠ 503 := fun z => g3 ⟨z, rfl⟩
                have q4 : g ≠ 504 := fun z => g4 ⟨z, rfl⟩
                omega
              subst hm
              exact (congrFun (u 9 (by decide) (by decide) (by decide) (by decide)) j).symm
            · refine (cI_at (σ := (A, B)) x y g9 (fun z hz => ?_) (fun _ => emo j (by rw [e5] at l; exact l) ej)).symm
              by_cases z34 : z = 34
              · subst z34; exact u34 j ej
              · exact congrFun (u z z34 (fun q => by subst q; have : 99 = g / 100 := hz; omega) (fun q => by subst q; have : 99 = g / 100 := hz; omega) (fun q => by subst q; have : 99 = g / 100 := hz; omega)) j
          · exact (cI_at (σ := (A, B)) x y g9 (fun z hz => congrFun (u z (fun q => by subst q; have : 5 = g / 100 := hz; omega) (fun q => by subst q; have : 99 = g / 100 := hz; omega) (fun q => by subst q; have : 99 = g / 100 := hz; omega) (fun q => by subst q; have : 99 = g / 100 := hz; omega)) j) (fun q => absurd q e5)).symm
        · exact (cI_8 (σ := (A, B)) x y g9 (by rw [eB])).symm
  · rw [hlv] at l
    rw [t3]
    exact (a4 g j x y l).trans (cR_congr (σ := (A, B)) (u 10 (by decide) (by decide) (by decide) (by decide)) (u 28 (by decide) (by decide) (by decide) (by decide)) (u 29 (by decide) (by decide) (by decide) (by decide)) (u 39 (by decide) (by decide) (by decide) (by decide)) (u 44 (by decide) (by decide) (by decide) (by decide)) (u 45 (by decide) (by decide) (by decide) (by decide)) (eN 38) (eN 27)).symm
  · rw [eN] at hk2
    have ne : ∀ i j i', i < 30 ∧ i ≠ 9 ∧ i ≠ 10 → i' < 30 ∧ i' ≠ 9 ∧ i' ≠ 10 → cLv (A, B) i j → cLv (A, B) i' k → cKd i ≠ cKd i' → ad i j ≠ ad i' k := fun i j i' h1 h2 l1 l2 h3 => RelC_ne hC h1 h2 l1 l2 h3
    obtain ⟨b1, b2, b3, b4⟩ := a6 k2 hk2
    rw [u 19 (by decide) (by decide) (by decide) (by decide), t11 _ (ne 11 k2 12 (by decide) (by decide) hk2 hk (by decide)) (ne 11 k2 13 (by decide) (by decide) hk2 hk (by decide)) (ne 11 k2 14 (by decide) (by decide) hk2 hk (by decide))]
    by_cases e : k2 = k
    · subst e
      rw [emk]
      exact ⟨b1, t8, t9, t10⟩
    · rw [emo k2 hk2 e]
      have q : ∀ i, (i = 12 ∨ i = 13 ∨ i = 14) → ad i k2 ≠ ad i k := fun i hi z => e (a2 i k2 k (by omega) (by omega) (by omega) (by rcases hi with rfl | rfl | rfl <;> exact hk2) (by rcases hi with rfl | rfl | rfl <;> exact hk) z)
      rw [t11 _ (q 12 (by omega)) (ne 12 k2 13 (by decide) (by decide) hk2 hk (by decide)) (ne 12 k2 14 (by decide) (by decide) hk2 hk (by decide)), t11 _ (ne 13 k2 12 (by decide) (by decide) hk2 hk (by decide)) (q 13 (by omega)) (ne 13 k2 14 (by decide) (by decide) hk2 hk (by decide)), t11 _ (ne 14 k2 12 (by decide) (by decide) hk2 hk (by decide)) (ne 14 k2 13 (by decide) (by decide) hk2 hk (by decide)) (q 14 (by omega))]
      exact ⟨b1, b2, b3, b4⟩
theorem rFind_s1 {d s : Int32} {D E : Nat → Int32} {t r : Nat} (h : ¬ (D r = d ∧ E r = s)) : rFind d s D E (t + 1) r = rFind d s D E t (r + 1) := if_neg h
theorem rFind_s2 {d s : Int32} {D E : Nat → Int32} {t r : Nat} (h : D r = d ∧ E r = s) : rFind d s D E (t + 1) r = some r := if_pos h
theorem c_X5_tell (l : Launch) (hl : l.stackTraces = false) (G : gG) (S : sS) (ad : Nat → Nat → Nat) (σ : aS) (hC : RelC S ad σ) (hI : IC σ) (k : Nat) (hk : k < cN σ 1) (hr : rN σ k < 30) (d s w : Int32) : Ct l G yX5_tell cX5_tell 5 none 1 1 6 [.ref (ad 5 k), .int d, .int s, .int w] S (fun w9 T => w9 = none ∧ RepT S T ad k (rTell (rMrg σ k (rN σ k)) d s w) (σ.1 34 k + 1)) (fun _ _ => False) := by
  refine Ct_of (by decide) (cat1_all (by repeat first | exact trivial | refine ⟨by first | rfl | exact isR_c (isR_q _), ?_⟩)) (Nat.le_of_ble_eq_true rfl) hl fun X C hXl hin => ?_
  subst hXl
  dsimp only [lArgs, Nat.reduceAdd]
  have kr : sK S (ad 5 k) = 6 := RelC_K hC 5 (by decide) hk
  have rr_500 : sR S 500 (ad 5 k) = some (ad 12 k) := RelC_R hC 5 500 rfl (by unfold cFd; omega) rfl hk
  have rr_501 : sR S 501 (ad 5 k) = some (ad 13 k) := RelC_R hC 5 501 rfl (by unfold cFd; omega) rfl hk
  have rr_502 : sR S 502 (ad 5 k) = some (ad 14 k) := RelC_R hC 5 502 rfl (by unfold cFd; omega) rfl hk
  have ir_503 : sI S 503 (ad 5 k) = nI (rMrg σ k (rN σ k)).1 := RelC_I hC 5 503 rfl (by unfold cFd; omega) rfl hk
  have ir_504 : sI S 504 (ad 5 k) = σ.1 34 k := RelC_I hC 5 504 rfl (by unfold cFd; omega) rfl hk
  have kD : sK S (ad 12 k) = 121 := hC.1 12 k (by decide) (by decide) (by decide) hk
  have lD : sL S (ad 12 k) = 30 := hC.2.2.2.2.1 12 k (by decide) (by decide) hk
  have kS : sK S (ad 13 k) = 131 := hC.1 13 k (by decide) (by decide) (by decide) hk
  have lS : sL S (ad 13 k) = 30 := hC.2.2.2.2.1 13 k (by decide) (by decide) hk
  have kW : sK S (ad 14 k) = 141 := hC.1 14 k (by decide) (by decide) (by decide) hk
  have lW : sL S (ad 14 k) = 30 := hC.2.2.2.2.1 14 k (by decide) (by decide) hk
  obtain ⟨-, eD, eS, eW⟩ := hC.2.2.2.2.2.1 k hk
  have hle := rMrg_le σ k (rN σ k)
  generalize rMrg σ k (rN σ k) = R at ir_503 eD eS eW hle ⊢
  have nDS : ad 13 k ≠ ad 12 k := fun e => by rw [e, kD] at kS; exact absurd kS (by decide)
  have nDW : ad 14 k ≠ ad 12 k := fun e => by rw [e, kD] at kW; exact absurd kW (by decide)
  have nSW : ad 14 k ≠ ad 13 k := fun e => by rw [e, kS] at kW; exact absurd kW (by decide)
  obtain ⟨S1, hS1⟩ : ∃ S1, S1 = pI S 504 (ad 5 k) (σ.1 34 k + 1) := ⟨_, rfl⟩
  have q1 : sK S1 = sK S := by rw [hS1]; rfl
  have q2 : sL S1 = sL S := by rw [hS1]; rfl
  have q3 : sR S1 = sR S := by rw [hS1]; rfl
  have q4 : sQ S1 = sQ S := by rw [hS1]; rfl
  have q5 : sA S1 = sA S := by rw [hS1]; rfl
  have q9 : sJ S1 = sJ S := by rw [hS1]; rfl
  have q6 : sI S1 503 (ad 5 k) = nI R.1 := by rw [hS1]; exact (sI_n1 (by decide)).trans ir_503
  have q7 : sI S1 504 (ad 5 k) = σ.1 34 k + 1 := by rw [hS1]; exact sI_s
  have q8 : ∀ g a, ¬ ((g = 503 ∨ g = 504) ∧ a = ad 5 k) → sI S1 g a = sI S g a := fun g a h => by
    rw [hS1]
    by_cases e : g = 504
    · exact sI_n2 fun z => h ⟨Or.inr e, z⟩
    · exact sI_n1 e
  have kr1 : sK S1 (ad 5 k) = 6 := by rw [q1]; exact kr
  have kD1 : sK S1 (ad 12 k) = 121 := by rw [q1]; exact kD
  have kS1 : sK S1 (ad 13 k) = 131 := by rw [q1]; exact kS
  have kW1 : sK S1 (ad 14 k) = 141 := by rw [q1]; exact kW
  have lD1 : sL S1 (ad 12 k) = 30 := by rw [q2]; exact lD
  have lS1 : sL S1 (ad 13 k) = 30 := by rw [q2]; exact lS
  have lW1 : sL S1 (ad 14 k) = 30 := by rw [q2]; exact lW
  have eD1 : sA S1 (ad 12 k) = R.2.1 := by rw [q5]; exact eD
  have eS1 : sA S1 (ad 13 k) = R.2.2.1 := by rw [q5]; exact eS
  have eW1 : sA S1 (ad 14 k) = R.2.2.2 := by rw [q5]; exact eW
  have r0 : sR S1 500 (ad 5 k) = some (ad 12 k) := by rw [q3]; exact rr_500
  have r1 : sR S1 501 (ad 5 k) = some (ad 13 k) := by rw [q3]; exact rr_501
  have r2 : sR S1 502 (ad 5 k) = some (ad 14 k) := by rw [q3]; exact rr_502
  have loop : ∀ (t i : Nat), i + t = R.1 → rFind d s R.2.1 R.2.2.1 R.1 0 = rFind d s R.2.1 R.2.2.1 t i → V X G 5 (eQ X G (fun w9 T => w9 = none ∧ RepT S T ad k (rTell R d s w) (σ.1 34 k + 1)) (fun _ _ => False) 1 6) 0 0 13 [(4, false, .int (nI i)), (0, false, .ref (ad 5 k)), (1, false, .int d), (2, false, .int s), (3, false, .int w)] [] S1 := by
    intro t
    induction t with
    | zero =>
      intro i hi hf
      obtain rfl : i = R.1 := by omega
      have hno : rFind d s R.2.1 R.2.2.1 R.1 0 = none := hf
      have hR : R.1 < 30 := by omega
      have kS2 : sK (pA S1 (ad 12 k) R.1 d) (ad 13 k) = 131 := kS1
      have kX : sK (pA (pA (pA S1 (ad 12 k) R.1 d) (ad 13 k) R.1 s) (ad 14 k) R.1 w) (ad 5 k) = 6 := kr1
      rw [rTell_none hno]
      refine V_iload C dX5_tell_13 rfl ?_
      refine V_aload_n C dX5_tell_15 rfl (by first | exact isR_r _ | exact isR_q _ | exact isR_n) ?_
      refine V_getIe C 5 3 rfl cf_5 fl_X5_28 (by decide) (by decide) dX5_tell_16 kr1 q6 ?_
      refine V_igeN C (tgt := 76) (by omega) (by omega) dX5_tell_19 (by decide) (fun h19 => ?_) (fun h19 => ?_)
      · refine V_aload_n C dX5_tell_76 rfl (by first | exact isR_r _ | exact isR_q _ | exact isR_n) ?_
        refine V_getIe C 5 3 rfl cf_5 fl_X5_28 (by decide) (by decide) dX5_tell_77 kr1 q6 ?_
        refine V_bipush C (v := 30) dX5_tell_80 (by decide) ?_
        refine V_icmp_ge C (tgt := 125) dX5_tell_82 (by decide) (fun h82 => ?_) (fun h82 => ?_)
        · exact absurd h82 (fun z => absurd ((nI_leI (a := 30) (b := R.1) (by decide) (by omega)).mp z) (by omega))
        · refine V_aload_n C dX5_tell_85 rfl (by first | exact isR_r _ | exact isR_q _ | exact isR_n) ?_
          refine V_getS C 5 0 rfl cf_5 fl_X5_9 (by decide) (by decide) dX5_tell_86 kr1 r0 ?_
          refine V_aload_n C dX5_tell_89 rfl (by first | exact isR_r _ | exact isR_q _ | exact isR_n) ?_
          refine V_getIe C 5 3 rfl cf_5 fl_X5_28 (by decide) (by decide) dX5_tell_90 kr1 q6 ?_
          refine V_iload_n C dX5_tell_93 rfl ?_
          refine V_iastE C kD1 (by decide) lD1 hR (by decide) dX5_tell_94 ?_
          refine V_aload_n C dX5_tell_95 rfl (by first | exact isR_r _ | exact isR_q _ | exact isR_n) ?_
          refine V_getS C 5 1 rfl cf_5 fl_X5_15 (by decide) (by decide) dX5_tell_96 kr1 r1 ?_
          refine V_aload_n C dX5_tell_99 rfl (by first | exact isR_r _ | exact isR_q _ | exact isR_n) ?_
          refine V_getIe C 5 3 rfl cf_5 fl_X5_28 (by decide) (by decide) dX5_tell_100 kr1 q6 ?_
          refine V_iload_n C dX5_tell_103 rfl ?_
          refine V_iastE C kS1 (by decide) lS1 hR (by decide) dX5_tell_104 ?_
          refine V_aload_n C dX5_tell_105 rfl (by first | exact isR_r _ | exact isR_q _ | exact isR_n) ?_
          refine V_getS C 5 2 rfl cf_5 fl_X5_18 (by decide) (by decide) dX5_tell_106 kr1 r2 ?_
          refine V_aload_n C dX5_tell_109 rfl (by first | exact isR_r _ | exact isR_q _ | exact isR_n) ?_
          refine V_getIe C 5 3 rfl cf_5 fl_X5_28 (by decide) (by decide) dX5_tell_110 kr1 q6 ?_
          refine V_iload_n C dX5_tell_113 rfl ?_
          refine V_iastE C kW1 (by decide) lW1 hR (by decide) dX5_tell_114 ?_
          refine V_aload_n C dX5_tell_115 rfl (by first | exact isR_r _ | exact isR_q _ | exact isR_n) ?_
          refine V_dup C dX5_tell_116 (by first | rfl | exact isR_c (isR_q _)) ?_
          refine V_getIe C 5 3 rfl cf_5 fl_X5_28 (by decide) (by decide) dX5_tell_117 kX q6 ?_
          refine V_iconst C (v := 1) dX5_tell_120 (by decide) ?_
          refine V_iadd C dX5_tell_121 ?_
          rw [nI_1]
          refine V_putI C 5 3 rfl cf_5 pl_X5_28 (by decide) (by decide) dX5_tell_122 kX ?_
          refine V_vret C (by first | omega | decide) (by first | omega | decide) dX5_tell_125 ?_
          refine ⟨rfl, q1, q2, q3, q4, q9, sI_s, (sI_n1 (by decide)).trans q7, fun g a h => ?_, ?_, ?_, ?_, fun a h1 h2 h3 => ?_⟩
          · by_cases e : g = 503
            · exact (sI_n2 fun z => h ⟨Or.inl e, z⟩).trans (q8 g a h)
            · exact (sI_n1 e).trans (q8 g a h)
          · rw [sA_pI, sA_n (fun z => nDW z.symm), sA_n (fun z => nDS z.symm), sA_s, eD1]
          · rw [sA_pI, sA_n (fun z => nSW z.symm), sA_s, sA_n nDS, eS1]
          · rw [sA_pI, sA_s, sA_n nSW, sA_n nDW, eW1]
          · rw [sA_pI, sA_n h3, sA_n h2, sA_n h1, q5]
      · omega
    | succ t ih =>
      intro i hi hf
      have hi30 : i < 30 := by omega
      by_cases hm : R.2.1 i = d ∧ R.2.2.1 i = s
      · have hfs : rFind d s R.2.1 R.2.2.1 R.1 0 = some i := hf.trans (rFind_s2 hm)
        rw [rTell_some hfs]
        refine V_iload C dX5_tell_13 rfl ?_
        refine V_aload_n C dX5_tell_15 rfl (by first | exact isR_r _ | exact isR_q _ | exact isR_n) ?_
        refine V_getIe C 5 3 rfl cf_5 fl_X5_28 (by decide) (by decide) dX5_tell_16 kr1 q6 ?_
        refine V_igeN C (tgt := 76) (by omega) (by omega) dX5_tell_19 (by decide) (fun h19 => ?_) (fun h19 => ?_)
        · omega
        · refine V_iload C dX5_tell_22 rfl ?_
          refine V_bipush C (v := 30) dX5_tell_24 (by decide) ?_
          refine V_icmp_ge C (tgt := 76) dX5_tell_26 (by decide) (fun h26 => ?_) (fun h26 => ?_)
          · exact absurd h26 (fun z => absurd ((nI_leI (a := 30) (b := i) (by decide) (by omega)).mp z) (by omega))
          · refine V_aload_n C dX5_tell_29 rfl (by first | exact isR_r _ | exact isR_q _ | exact isR_n) ?_
            refine V_getS C 5 0 rfl cf_5 fl_X5_9 (by decide) (by decide) dX5_tell_30 kr1 r0 ?_
            refine V_iload C dX5_tell_33 rfl ?_
            refine V_ialdE C kD1 (by decide) lD1 eD1 hi30 (by decide) dX5_tell_35 ?_
            refine V_iload_n C dX5_tell_36 rfl ?_
            refine V_icmp_ne C (tgt := 70) dX5_tell_37 (by decide) (fun h37 => ?_) (fun h37 => ?_)
            · exact absurd hm.1 h37
            · refine V_aload_n C dX5_tell_40 rfl (by first | exact isR_r _ | exact isR_q _ | exact isR_n) ?_
              refine V_getS C 5 1 rfl cf_5 fl_X5_15 (by decide) (by decide) dX5_tell_41 kr1 r1 ?_
              refine V_iload C dX5_tell_44 rfl ?_
              refine V_ialdE C kS1 (by decide) lS1 eS1 hi30 (by decide) dX5_tell_46 ?_
              refine V_iload_n C dX5_tell_47 rfl ?_
              refine V_icmp_ne C (tgt := 70) dX5_tell_48 (by decide) (fun h48 => ?_) (fun h48 => ?_)
              · exact absurd hm.2 h48
              · refine V_aload_n C dX5_tell_51 rfl (by first | exact isR_r _ | exact isR_q _ | exact isR_n) ?_
                refine V_getS C 5 2 rfl cf_5 fl_X5_18 (by decide) (by decide) dX5_tell_52 kr1 r2 ?_
                refine V_iload C dX5_tell_55 rfl ?_
                refine V_aload_n C dX5_tell_57 rfl (by first | exact isR_r _ | exact isR_q _ | exact isR_n) ?_
                refine V_getS C 5 2 rfl cf_5 fl_X5_18 (by decide) (by decide) dX5_tell_58 kr1 r2 ?_
                refine V_iload C dX5_tell_61 rfl ?_
                refine V_ialdE C kW1 (by decide) lW1 eW1 hi30 (by decide) dX5_tell_63 ?_
                refine V_iload_n C dX5_tell_64 rfl ?_
                refine V_max C kj_X5_31 ⟨by decide, (show (2 : Nat) + 13 ≤ 37 by decide), by decide, by decide⟩ dX5_tell_65 ?_
                refine V_iastE C kW1 (by decide) lW1 hi30 (by decide) dX5_tell_68 ?_
                refine V_vret C (by first | omega | decide) (by first | omega | decide) dX5_tell_69 ?_
                refine ⟨rfl, q1, q2, q3, q4, q9, q6, q7, fun g a h => q8 g a h, ?_, ?_, ?_, fun a h1 h2 h3 => ?_⟩
                · rw [sA_n (fun z => nDW z.symm), eD1]
                · rw [sA_n (fun z => nSW z.symm), eS1]
                · rw [sA_s, eW1]
                · rw [sA_n h3, q5]
      · have L := ih (i + 1) (by omega) (hf.trans (rFind_s1 hm))
        refine V_iload C dX5_tell_13 rfl ?_
        refine V_aload_n C dX5_tell_15 rfl (by first | exact isR_r _ | exact isR_q _ | exact isR_n) ?_
        refine V_getIe C 5 3 rfl cf_5 fl_X5_28 (by decide) (by decide) dX5_tell_16 kr1 q6 ?_
        refine V_igeN C (tgt := 76) (by omega) (by omega) dX5_tell_19 (by decide) (fun h19 => ?_) (fun h19 => ?_)
        · omega
        · refine V_iload C dX5_tell_22 rfl ?_
          refine V_bipush C (v := 30) dX5_tell_24 (by decide) ?_
          refine V_icmp_ge C (tgt := 76) dX5_tell_26 (by decide) (fun h26 => ?_) (fun h26 => ?_)
          · exact absurd h26 (fun z => absurd ((nI_leI (a := 30) (b := i) (by decide) (by omega)).mp z) (by omega))
          · refine V_aload_n C dX5_tell_29 rfl (by first | exact isR_r _ | exact isR_q _ | exact isR_n) ?_
            refine V_getS C 5 0 rfl cf_5 fl_X5_9 (by decide) (by decide) dX5_tell_30 kr1 r0 ?_
            refine V_iload C dX5_tell_33 rfl ?_
            refine V_ialdE C kD1 (by decide) lD1 eD1 hi30 (by decide) dX5_tell_35 ?_
            refine V_iload_n C dX5_tell_36 rfl ?_
            refine V_icmp_ne C (tgt := 70) dX5_tell_37 (by decide) (fun h37 => ?_) (fun h37 => ?_)
            · refine V_incN C dX5_tell_70 rfl (by decide) rfl ?_
              simp only [lset1, lset2, List.filter_cons, List.filter_nil, Nat.reduceBEq, Nat.reduceAdd, Bool.not_true, Bool.not_false, Bool.and_true, Bool.and_false, Bool.true_and, Bool.false_and, if_true, if_false, Bool.false_eq_true, reduceIte]
              refine V_goto C (tgt := 13) dX5_tell_73 (by decide) ?_
              refine V_sub ?_ L
              exact ⟨rfl, rfl, rfl, rfl, rfl, trivial⟩
            · refine V_aload_n C dX5_tell_40 rfl (by first | exact isR_r _ | exact isR_q _ | exact isR_n) ?_
              refine V_getS C 5 1 rfl cf_5 fl_X5_15 (by decide) (by decide) dX5_tell_41 kr1 r1 ?_
              refine V_iload C dX5_tell_44 rfl ?_
              refine V_ialdE C kS1 (by decide) lS1 eS1 hi30 (by decide) dX5_tell_46 ?_
              refine V_iload_n C dX5_tell_47 rfl ?_
              refine V_icmp_ne C (tgt := 70) dX5_tell_48 (by decide) (fun h48 => ?_) (fun h48 => ?_)
              · refine V_incN C dX5_tell_70 rfl (by decide) rfl ?_
                simp only [lset1, lset2, List.filter_cons, List.filter_nil, Nat.reduceBEq, Nat.reduceAdd, Bool.not_true, Bool.not_false, Bool.and_true, Bool.and_false, Bool.true_and, Bool.false_and, if_true, if_false, Bool.false_eq_true, reduceIte]
                refine V_goto C (tgt := 13) dX5_tell_73 (by decide) ?_
                refine V_sub ?_ L
                exact ⟨rfl, rfl, rfl, rfl, rfl, trivial⟩
              · exact absurd ⟨h37, h48⟩ hm
  have L := loop R.1 0 (by omega) rfl
  rw [hS1] at L
  refine V_aload_n C dX5_tell_0 rfl (by first | exact isR_r _ | exact isR_q _ | exact isR_n) ?_
  refine V_dup C dX5_tell_1 (by first | rfl | exact isR_c (isR_q _)) ?_
  refine V_getIe C 5 4 rfl cf_5 fl_X5_25 (by decide) (by decide) dX5_tell_2 kr ir_504 ?_
  refine V_iconst C (v := 1) dX5_tell_5 (by decide) ?_
  refine V_iadd C dX5_tell_6 ?_
  refine V_putI C 5 4 rfl cf_5 pl_X5_25 (by decide) (by decide) dX5_tell_7 kr ?_
  refine V_iconst C (v := 0) dX5_tell_10 (by decide) ?_
  refine V_istore C dX5_tell_11 (by decide) rfl ?_
  simp only [lset1, lset2, List.filter_cons, List.filter_nil, Nat.reduceBEq, Nat.reduceAdd, Bool.not_true, Bool.not_false, Bool.and_true, Bool.and_false, Bool.true_and, Bool.false_and, if_true, if_false, Bool.false_eq_true, reduceIte]
  refine V_sub ?_ L
  exact ⟨rfl, rfl, rfl, rfl, rfl, trivial⟩
theorem rAll_tell {σ : aS} {k : Nat} {d a b : Int32} (hI : IC σ) (hk : k < cN σ 1) (hr : rN σ k < 30) : rAll (up2 (up2 (up2 (up2 σ.1 35 (30 * k + rN σ k) a) 36 (30 * k + rN σ k) b) 37 (30 * k + rN σ k) d) 34 k (σ.1 34 k + 1), σ.2) k = rTell (rMrg σ k (rN σ k)) d a b := by
  have hk16 : k < 16 := by have := hI.2.1.2; omega
  have e34 : σ.1 34 k = nI (rN σ k) := (hI.2.2.2.2.2.2.1 k hk16).1
  obtain ⟨τ, hτ⟩ : ∃ τ : aS, τ = (up2 (up2 (up2 (up2 σ.1 35 (30 * k + rN σ k) a) 36 (30 * k + rN σ k) b) 37 (30 * k + rN σ k) d) 34 k (σ.1 34 k + 1), σ.2) := ⟨_, rfl⟩
  have rNk : rN τ k = rN σ k + 1 := by
    show (τ.1 34 k).toNatClampNeg = _
    rw [hτ]
    show (up2 _ 34 k (σ.1 34 k + 1) 34 k).toNatClampNeg = _
    rw [up2_s, e34, nI_1, nI_clamp (by omega)]
  have w35 : ∀ i, τ.1 35 i = if i = 30 * k + rN σ k then a else σ.1 35 i := fun i => by
    rw [hτ]
    show up2 σ.1 35 (30 * k + rN σ k) a 35 i = _
    by_cases e : i = 30 * k + rN σ k
    · rw [if_pos e, e]; exact up2_s
    · rw [if_neg e]; exact up2_n2 e
  have w36 : ∀ i, τ.1 36 i = if i = 30 * k + rN σ k then b else σ.1 36 i := fun i => by
    rw [hτ]
    show up2 σ.1 36 (30 * k + rN σ k) b 36 i = _
    by_cases e : i = 30 * k + rN σ k
    · rw [if_pos e, e]; exact up2_s
    · rw [if_neg e]; exact up2_n2 e
  have w37 : ∀ i, τ.1 37 i = if i = 30 * k + rN σ k then d else σ.1 37 i := fun i => by
    rw [hτ]
    show up2 σ.1 37 (30 * k + rN σ k) d 37 i = _
    by_cases e : i = 30 * k + rN σ k
    · rw [if_pos e, e]; exact up2_s
    · rw [if_neg e]; exact up2_n2 e
  rw [← hτ]
  unfold rAll
  rw [rNk, rMrg, w35, w36, w37, if_pos rfl, if_pos rfl, if_pos rfl, rMrg_congr2 (σ := σ) (σ' := τ) _ fun i hi => by
    rw [w35, w36, w37, if_neg (by omega), if_neg (by omega), if_neg (by omega)]
    exact ⟨rfl, rfl, rfl⟩]
theorem RepT_Fr {S T : sS} {ad : Nat → Nat → Nat} {σ : aS} {k : Nat} {R : rS} {v : Int32} (hC : RelC S ad σ) (hk : k < cN σ 1) (hT : RepT S T ad k R v) : Fr isD S T := fun a ha hn => by
  obtain ⟨t1, t2, t3, t4, t12, t5, t6, t7, t8, t9, t10, t11⟩ := hT
  have q : ∀ i, i < 30 ∧ i ≠ 9 ∧ i ≠ 10 ∧ i ≠ 27 → cLv σ i k → a ≠ ad i k := fun i hi hl z => hn (by rw [z, hC.1 i k hi.1 hi.2.1 hi.2.2.1 hl]; exact isD_kd hi.1 hi.2.1 hi.2.2.2)
  refine ⟨by rw [t1], by rw [t2], fun g => t7 g a fun z => q 5 (by decide) hk z.2, fun g => by rw [t3], t11 a (q 12 (by decide) hk) (q 13 (by decide) hk) (q 14 (by decide) hk), ?_, by rw [t4]⟩
  rw [t12]
theorem c_X8_report (l : Launch) (hl : l.stackTraces = false) (G : gG) (S : sS) (ad : Nat → Nat → Nat) (σ : aS) (hC : RelC S ad σ) (hI : IC σ) (k : Nat) (hk : k < cN σ 1) (a b : Int32) (hv : (0 ≤ a ∧ a ≤ 9) ∧ (1 ≤ b ∧ b ≤ 9)) (hr : rN σ k < 30) : CtC l G yX8_report cX8_report 5 (Option.some FieldType.int) 7 4 30 [.ref (ad 8 0), .int (nI k), .int a, .int b] S ad (some (.int (rSum (rTell (rMrg σ k (rN σ k)) (σ.2 0) a b) (σ.2 0)))) (up2 (up2 (up2 (up2 σ.1 35 (30 * k + rN σ k) a) 36 (30 * k + rN σ k) b) 37 (30 * k + rN σ k) (σ.2 0)) 34 k (σ.1 34 k + 1), σ.2) := by
  refine Ct_of (by decide) (cat1_all (by repeat first | exact trivial | refine ⟨by first | rfl | exact isR_c (isR_q _), ?_⟩)) (Nat.le_of_ble_eq_true rfl) hl fun X C hXl hin => ?_
  subst hXl
  dsimp only [lArgs, Nat.reduceAdd]
  have kx : sK S (ad 8 0) = 9 := RelC_K hC 8 (by decide) rfl
  have ix_808 : sI S 808 (ad 8 0) = σ.2 0 := RelC_I hC 8 808 rfl (by unfold cFd; omega) rfl rfl
  have kc : sK S (ad 0 k) = 1 := RelC_K hC 0 (by decide) hk
  have rc_7 : sR S 7 (ad 0 k) = some (ad 5 k) := RelC_R hC 0 7 rfl (by unfold cFd; omega) rfl hk
  have kr : sK S (ad 5 k) = 6 := RelC_K hC 5 (by decide) hk
  have ir_504 : sI S 504 (ad 5 k) = σ.1 34 k := RelC_I hC 5 504 rfl (by unfold cFd; omega) rfl hk
  have hk16 : k < 16 := by have := hI.2.1.2; omega
  have e34 : σ.1 34 k = nI (rN σ k) := (hI.2.2.2.2.2.2.1 k hk16).1
  refine V_aload_n C dX8_report_0 rfl (by first | exact isR_r _ | exact isR_q _ | exact isR_n) ?_
  refine V_iload_n C dX8_report_1 rfl ?_
  refine V_fV C (c_X8_childAt _ hl G S ad σ hC hI.2.1.2 k hk) kv_X8_90 cf_8 (by decide) rfl kx (by decide) (by decide) rfl rfl (Nat.le_of_ble_eq_true rfl) dX8_report_2 ?_
  dsimp only [Option.toList_some, Option.toList_none, List.cons_append, List.nil_append]
  refine V_astore C dX8_report_5 (by decide) (by first | exact isR_r _ | exact isR_q _ | exact isR_n) rfl ?_
  simp only [lset1, lset2, List.filter_cons, List.filter_nil, Nat.reduceBEq, Nat.reduceAdd, Bool.not_true, Bool.not_false, Bool.and_true, Bool.and_false, Bool.true_and, Bool.false_and, if_true, if_false, Bool.false_eq_true, reduceIte]
  refine V_iload_n C dX8_report_7 rfl ?_
  refine V_iconst C (v := 0) dX8_report_8 (by decide) ?_
  refine V_bipush C (v := 9) dX8_report_9 (by decide) ?_
  refine V_fS C (c_X8_isWithin _ hl G S _ _ _) ks_X8_34 (by decide) (by decide) rfl rfl (Nat.le_of_ble_eq_true rfl) dX8_report_11 ?_
  dsimp only [Option.toList_some, Option.toList_none, List.cons_append, List.nil_append]
  rw [bI_t hv.1]
  refine V_if_eq C (tgt := 31) dX8_report_14 (by decide) (fun h14 => ?_) (fun h14 => ?_)
  · exact absurd h14 (by decide)
  · refine V_iload_n C dX8_report_17 rfl ?_
    refine V_iconst C (v := 1) dX8_report_18 (by decide) ?_
    refine V_bipush C (v := 9) dX8_report_19 (by decide) ?_
    refine V_fS C (c_X8_isWithin _ hl G S _ _ _) ks_X8_34 (by decide) (by decide) rfl rfl (Nat.le_of_ble_eq_true rfl) dX8_report_21 ?_
    dsimp only [Option.toList_some, Option.toList_none, List.cons_append, List.nil_append]
    rw [bI_t hv.2]
    refine V_if_eq C (tgt := 31) dX8_report_24 (by decide) (fun h24 => ?_) (fun h24 => ?_)
    · exact absurd h24 (by decide)
    · refine V_iconst C (v := 1) dX8_report_27 (by decide) ?_
      refine V_goto C (tgt := 32) dX8_report_28 (by decide) ?_
      refine V_fS C (c_X8_require1 _ hl G S) ks_X8_38 (by decide) (by decide) rfl rfl (Nat.le_of_ble_eq_true rfl) dX8_report_32 ?_
      dsimp only [Option.toList_some, Option.toList_none, List.cons_append, List.nil_append]
      refine V_aload C dX8_report_35 rfl (by first | exact isR_r _ | exact isR_q _ | exact isR_n) ?_
      refine V_getS C 0 7 rfl cf_0 fl_X8_94 (by decide) (by decide) dX8_report_37 kc rc_7 ?_
      refine V_getIe C 5 4 rfl cf_5 fl_X8_98 (by decide) (by decide) dX8_report_40 kr ir_504 ?_
      refine V_bipush C (v := 30) dX8_report_43 (by decide) ?_
      refine V_icmp_lt C (tgt := 58) dX8_report_45 (by decide) (fun h45 => ?_) (fun h45 => ?_)
      · refine V_aload C dX8_report_58 rfl (by first | exact isR_r _ | exact isR_q _ | exact isR_n) ?_
        refine V_getS C 0 7 rfl cf_0 fl_X8_94 (by decide) (by decide) dX8_report_60 kc rc_7 ?_
        refine V_aload_n C dX8_report_63 rfl (by first | exact isR_r _ | exact isR_q _ | exact isR_n) ?_
        refine V_getIe C 8 8 rfl cf_8 fl_X8_53 (by decide) (by decide) dX8_report_64 kx ix_808 ?_
        refine V_iload_n C dX8_report_67 rfl ?_
        refine V_iload_n C dX8_report_68 rfl ?_
        refine V_callV C (c_X5_tell _ hl G S ad σ hC hI k hk hr _ _ _) kv_X8_105 cf_5 (by decide) rfl kr (by decide) (by decide) rfl rfl (Nat.le_of_ble_eq_true rfl) dX8_report_69 ?_ (fun _ _ h => h.elim)
        intro w1 T hT
        obtain ⟨rfl, hT⟩ := hT
        dsimp only [Option.toList_some, Option.toList_none, List.cons_append, List.nil_append]
        have hC2 := RelC_rep (A := σ.1) (B := σ.2) hC hI hk hr hT
        have kx2 : sK T (ad 8 0) = 9 := by rw [hT.1]; exact kx
        have kc2 : sK T (ad 0 k) = 1 := by rw [hT.1]; exact kc
        have kr2 : sK T (ad 5 k) = 6 := by rw [hT.1]; exact kr
        have rc2 : sR T 7 (ad 0 k) = some (ad 5 k) := by rw [hT.2.2.1]; exact rc_7
        have ix2 : sI T 808 (ad 8 0) = σ.2 0 := (hT.2.2.2.2.2.2.2.1 808 _ (fun z => by omega)).trans ix_808
        have hI2 : IC (up2 (up2 (up2 (up2 σ.1 35 (30 * k + rN σ k) a) 36 (30 * k + rN σ k) b) 37 (30 * k + rN σ k) (σ.2 0)) 34 k (σ.1 34 k + 1), σ.2) := by
          have q := IC_34 (A := up2 (up2 (up2 σ.1 35 (30 * k + rN σ k) a) 36 (30 * k + rN σ k) b) 37 (30 * k + rN σ k) (σ.2 0)) (B := σ.2) (k := k) (IC_A (IC_A (IC_A hI (by decide) (by decide)) (by decide) (by decide)) (by decide) (by decide)) hk16 hr
          rw [show (up2 (up2 (up2 σ.1 35 (30 * k + rN σ k) a) 36 (30 * k + rN σ k) b) 37 (30 * k + rN σ k) (σ.2 0)) 34 k = σ.1 34 k from (up2_n1 (by decide)).trans ((up2_n1 (by decide)).trans (up2_n1 (by decide)))] at q
          exact q
        refine V_aload C dX8_report_72 rfl (by first | exact isR_r _ | exact isR_q _ | exact isR_n) ?_
        refine V_getS C 0 7 rfl cf_0 fl_X8_94 (by decide) (by decide) dX8_report_74 kc2 rc2 ?_
        refine V_aload_n C dX8_report_77 rfl (by first | exact isR_r _ | exact isR_q _ | exact isR_n) ?_
        refine V_getIe C 8 8 rfl cf_8 fl_X8_53 (by decide) (by decide) dX8_report_78 kx2 ix2 ?_
        refine V_fV C (c_X5_sumOn _ hl G T ad _ hC2 hI2 k hk _) kv_X8_109 cf_5 (by decide) rfl kr2 (by decide) (by decide) rfl rfl (Nat.le_of_ble_eq_true rfl) dX8_report_81 ?_
        dsimp only [Option.toList_some, Option.toList_none, List.cons_append, List.nil_append]
        refine V_iret C (by first | omega | decide) (by first | omega | decide) dX8_report_84 ?_
        refine ⟨?_, CQ_0 hC2 (RepT_Fr hC hk hT)⟩
        rw [rAll_tell hI hk hr]
      · exact absurd (by rw [e34]; exact (nI_ltI (a := rN σ k) (b := 30) (by omega) (by decide)).mpr hr) h45
theorem c_X8_reportX (l : Launch) (hl : l.stackTraces = false) (G : gG) (S : sS) (ad : Nat → Nat → Nat) (σ : aS) (hC : RelC S ad σ) (hI : IC σ) (x a b : Int32) (hx : ¬ ∃ k, k < cN σ 1 ∧ x = nI k) : CtX l G yX8_report cX8_report 5 (Option.some FieldType.int) 7 4 30 [.ref (ad 8 0), .int x, .int a, .int b] S "java/lang/IndexOutOfBoundsException" := by
  refine Ct_of (by decide) (cat1_all (by repeat first | exact trivial | refine ⟨by first | rfl | exact isR_c (isR_q _), ?_⟩)) (Nat.le_of_ble_eq_true rfl) hl fun X C hXl hin => ?_
  subst hXl
  dsimp only [lArgs, Nat.reduceAdd]
  have kx : sK S (ad 8 0) = 9 := RelC_K hC 8 (by decide) rfl
  refine V_aload_n C dX8_report_0 rfl (by first | exact isR_r _ | exact isR_q _ | exact isR_n) ?_
  refine V_iload_n C dX8_report_1 rfl ?_
  refine V_xV C (c_X8_childAtX _ hl G S ad σ hC hI.2.1.2 x hx) kv_X8_90 cf_8 (by decide) rfl kx (by decide) (by decide) rfl rfl (Nat.le_of_ble_eq_true rfl) dX8_report_2 (by first | omega | decide) (by first | omega | decide) ?_
  exact ⟨rfl, rfl⟩
theorem c_X8_reportY (l : Launch) (hl : l.stackTraces = false) (G : gG) (S : sS) (ad : Nat → Nat → Nat) (σ : aS) (hC : RelC S ad σ) (hI : IC σ) (k : Nat) (hk : k < cN σ 1) (a b : Int32) (hv : ¬ ((0 ≤ a ∧ a ≤ 9) ∧ (1 ≤ b ∧ b ≤ 9))) : CtX l G yX8_report cX8_report 5 (Option.some FieldType.int) 7 4 30 [.ref (ad 8 0), .int (nI k), .int a, .int b] S "java/lang/IllegalArgumentException" := by
  refine Ct_of (by decide) (cat1_all (by repeat first | exact trivial | refine ⟨by first | rfl | exact isR_c (isR_q _), ?_⟩)) (Nat.le_of_ble_eq_true rfl) hl fun X C hXl hin => ?_
  subst hXl
  dsimp only [lArgs, Nat.reduceAdd]
  have kx : sK S (ad 8 0) = 9 := RelC_K hC 8 (by decide) rfl
  refine V_aload_n C dX8_report_0 rfl (by first | exact isR_r _ | exact isR_q _ | exact isR_n) ?_
  refine V_iload_n C dX8_report_1 rfl ?_
  refine V_fV C (c_X8_childAt _ hl G S ad σ hC hI.2.1.2 k hk) kv_X8_90 cf_8 (by decide) rfl kx (by decide) (by decide) rfl rfl (Nat.le_of_ble_eq_true rfl) dX8_report_2 ?_
  dsimp only [Option.toList_some, Option.toList_none, List.cons_append, List.nil_append]
  refine V_astore C dX8_report_5 (by decide) (by first | exact isR_r _ | exact isR_q _ | exact isR_n) rfl ?_
  simp only [lset1, lset2, List.filter_cons, List.filter_nil, Nat.reduceBEq, Nat.reduceAdd, Bool.not_true, Bool.not_false, Bool.and_true, Bool.and_false, Bool.true_and, Bool.false_and, if_true, if_false, Bool.false_eq_true, reduceIte]
  refine V_iload_n C dX8_report_7 rfl ?_
  refine V_iconst C (v := 0) dX8_report_8 (by decide) ?_
  refine V_bipush C (v := 9) dX8_report_9 (by decide) ?_
  refine V_fS C (c_X8_isWithin _ hl G S _ _ _) ks_X8_34 (by decide) (by decide) rfl rfl (Nat.le_of_ble_eq_true rfl) dX8_report_11 ?_
  dsimp only [Option.toList_some, Option.toList_none, List.cons_append, List.nil_append]
  refine V_if_eq C (tgt := 31) dX8_report_14 (by decide) (fun h14 => ?_) (fun h14 => ?_)
  · refine V_iconst C (v := 0) dX8_report_31 (by decide) ?_
    refine V_xS C (c_X8_require0 _ hl G S) ks_X8_38 (by decide) (by decide) rfl rfl (Nat.le_of_ble_eq_true rfl) dX8_report_32 (by first | omega | decide) (by first | omega | decide) ?_
    exact ⟨rfl, rfl⟩
  · refine V_iload_n C dX8_report_17 rfl ?_
    refine V_iconst C (v := 1) dX8_report_18 (by decide) ?_
    refine V_bipush C (v := 9) dX8_report_19 (by decide) ?_
    refine V_fS C (c_X8_isWithin _ hl G S _ _ _) ks_X8_34 (by decide) (by decide) rfl rfl (Nat.le_of_ble_eq_true rfl) dX8_report_21 ?_
    dsimp only [Option.toList_some, Option.toList_none, List.cons_append, List.nil_append]
    refine V_if_eq C (tgt := 31) dX8_report_24 (by decide) (fun h24 => ?_) (fun h24 => ?_)
    · refine V_iconst C (v := 0) dX8_report_31 (by decide) ?_
      refine V_xS C (c_X8_require0 _ hl G S) ks_X8_38 (by decide) (by decide) rfl rfl (Nat.le_of_ble_eq_true rfl) dX8_report_32 (by first | omega | decide) (by first | omega | decide) ?_
      exact ⟨rfl, rfl⟩
    · exact absurd ⟨bI_ne.mp h14, bI_ne.mp h24⟩ hv
theorem c_X8_reportZ (l : Launch) (hl : l.stackTraces = false) (G : gG) (S : sS) (ad : Nat → Nat → Nat) (σ : aS) (hC : RelC S ad σ) (hI : IC σ) (k : Nat) (hk : k < cN σ 1) (a b : Int32) (hv : (0 ≤ a ∧ a ≤ 9) ∧ (1 ≤ b ∧ b ≤ 9)) (hr : ¬ σ.1 34 k < 30) : CtX l G yX8_report cX8_report 5 (Option.some FieldType.int) 7 4 30 [.ref (ad 8 0), .int (nI k), .int a, .int b] S "java/lang/IllegalStateException" := by
  refine Ct_of (by decide) (cat1_all (by repeat first | exact trivial | refine ⟨by first | rfl | exact isR_c (isR_q _), ?_⟩)) (Nat.le_of_ble_eq_true rfl) hl fun X C hXl hin => ?_
  subst hXl
  dsimp only [lArgs, Nat.reduceAdd]
  have kx : sK S (ad 8 0) = 9 := RelC_K hC 8 (by decide) rfl
  have ix_808 : sI S 808 (ad 8 0) = σ.2 0 := RelC_I hC 8 808 rfl (by unfold cFd; omega) rfl rfl
  have kc : sK S (ad 0 k) = 1 := RelC_K hC 0 (by decide) hk
  have rc_7 : sR S 7 (ad 0 k) = some (ad 5 k) := RelC_R hC 0 7 rfl (by unfold cFd; omega) rfl hk
  have kr : sK S (ad 5 k) = 6 := RelC_K hC 5 (by decide) hk
  have ir_504 : sI S 504 (ad 5 k) = σ.1 34 k := RelC_I hC 5 504 rfl (by unfold cFd; omega) rfl hk
  refine V_aload_n C dX8_report_0 rfl (by first | exact isR_r _ | exact isR_q _ | exact isR_n) ?_
  refine V_iload_n C dX8_report_1 rfl ?_
  refine V_fV C (c_X8_childAt _ hl G S ad σ hC hI.2.1.2 k hk) kv_X8_90 cf_8 (by decide) rfl kx (by decide) (by decide) rfl rfl (Nat.le_of_ble_eq_true rfl) dX8_report_2 ?_
  dsimp only [Option.toList_some, Option.toList_none, List.cons_append, List.nil_append]
  refine V_astore C dX8_report_5 (by decide) (by first | exact isR_r _ | exact isR_q _ | exact isR_n) rfl ?_
  simp only [lset1, lset2, List.filter_cons, List.filter_nil, Nat.reduceBEq, Nat.reduceAdd, Bool.not_true, Bool.not_false, Bool.and_true, Bool.and_false, Bool.true_and, Bool.false_and, if_true, if_false, Bool.false_eq_true, reduceIte]
  refine V_iload_n C dX8_report_7 rfl ?_
  refine V_iconst C (v := 0) dX8_report_8 (by decide) ?_
  refine V_bipush C (v := 9) dX8_report_9 (by decide) ?_
  refine V_fS C (c_X8_isWithin _ hl G S _ _ _) ks_X8_34 (by decide) (by decide) rfl rfl (Nat.le_of_ble_eq_true rfl) dX8_report_11 ?_
  dsimp only [Option.toList_some, Option.toList_none, List.cons_append, List.nil_append]
  rw [bI_t hv.1]
  refine V_if_eq C (tgt := 31) dX8_report_14 (by decide) (fun h14 => ?_) (fun h14 => ?_)
  · exact absurd h14 (by decide)
  · refine V_iload_n C dX8_report_17 rfl ?_
    refine V_iconst C (v := 1) dX8_report_18 (by decide) ?_
    refine V_bipush C (v := 9) dX8_report_19 (by decide) ?_
    refine V_fS C (c_X8_isWithin _ hl G S _ _ _) ks_X8_34 (by decide) (by decide) rfl rfl (Nat.le_of_ble_eq_true rfl) dX8_report_21 ?_
    dsimp only [Option.toList_some, Option.toList_none, List.cons_append, List.nil_append]
    rw [bI_t hv.2]
    refine V_if_eq C (tgt := 31) dX8_report_24 (by decide) (fun h24 => ?_) (fun h24 => ?_)
    · exact absurd h24 (by decide)
    · refine V_iconst C (v := 1) dX8_report_27 (by decide) ?_
      refine V_goto C (tgt := 32) dX8_report_28 (by decide) ?_
      refine V_fS C (c_X8_require1 _ hl G S) ks_X8_38 (by decide) (by decide) rfl rfl (Nat.le_of_ble_eq_true rfl) dX8_report_32 ?_
      dsimp only [Option.toList_some, Option.toList_none, List.cons_append, List.nil_append]
      refine V_aload C dX8_report_35 rfl (by first | exact isR_r _ | exact isR_q _ | exact isR_n) ?_
      refine V_getS C 0 7 rfl cf_0 fl_X8_94 (by decide) (by decide) dX8_report_37 kc rc_7 ?_
      refine V_getIe C 5 4 rfl cf_5 fl_X8_98 (by decide) (by decide) dX8_report_40 kr ir_504 ?_
      refine V_bipush C (v := 30) dX8_report_43 (by decide) ?_
      refine V_icmp_lt C (tgt := 58) dX8_report_45 (by decide) (fun h45 => ?_) (fun h45 => ?_)
      · exact absurd h45 hr
      · refine V_throwS C tw_X8_46_103_50 dX8_report_48 dX8_report_51 dX8_report_52 dX8_report_54 dX8_report_57 (by decide) (by first | omega | decide) (by first | omega | decide) ?_
        exact ⟨rfl, rfl⟩

