/-! THE CLASS: the plan adds a home, chooses. -/
theorem dpI_2 {gn : Nat → Nat → Int} {D : Nat → Int} {h s : Nat} (k : Nat) : (dpI gn D h s k).2 ≤ s := by
  rcases dpI_at (gn := gn) (D := D) (h := h) (s := s) k with ⟨z, -⟩ | ⟨-, -, z, -⟩
  · omega
  · rw [← z]; exact Nat.and_le_right
theorem dpI_b {gn : Nat → Nat → Int} {D : Nat → Int} {h s L : Nat} (hs : s < L) (hD : ∀ s, s < L → -1 ≤ D s ∧ D s ≤ 2 ^ 60) (hg : ∀ s, gn s h ≤ 2 ^ 60) (k : Nat) : -1 ≤ (dpI gn D h s k).1 ∧ (dpI gn D h s k).1 ≤ 2 ^ 61 := by
  have a := dpI_le (gn := gn) (D := D) (h := h) (s := s) (j := 0) k
  rw [Nat.zero_add] at a
  have b := hD s hs
  refine ⟨Int.le_trans b.1 a, ?_⟩
  rcases dpI_at (gn := gn) (D := D) (h := h) (s := s) k with ⟨-, z⟩ | ⟨-, -, -, -, -, z⟩
  · rw [z]; omega
  · have c := hD (sbt s (dpI gn D h s k).2) (Nat.lt_of_le_of_lt sbt_le hs)
    have d := hg (dpI gn D h s k).2
    rw [z]; omega
theorem sA_pJ {S : sS} {f a : Nat} {v : Int64} : sA (pJ S f a v) = sA S := rfl
theorem sJ_pA {S : sS} {f a : Nat} {v : Int32} : sJ (pA S f a v) = sJ S := rfl
theorem sJ_s {S : sS} {a j : Nat} {v : Int64} : sJ (pJ S a j v) a = up1 (sJ S a) j v := funext fun x => by
  show up2 (sJ S) a j v a x = up1 (sJ S a) j v x
  by_cases e : x = j
  · subst e; rw [up2_s, up1_s]
  · rw [up2_n2 e, up1_n e]
theorem sJ_n {S : sS} {a b j : Nat} {v : Int64} (h : b ≠ a) : sJ (pJ S a j v) b = sJ S b := up2_far h
theorem c_X4_addHome (l : Launch) (hl : l.stackTraces = false) (G : gG) (S : sS) (ad : Nat → Nat → Nat) (σ : aS) (hC : RelC S ad σ) (M : Nat) (hM : M ≤ 5) (i408 : sI S 408 (ad 4 0) = nI (2 ^ M)) (h : Nat) (hh : h < 10) (gn : Nat → Nat → Int) (D : Nat → Int) (hD : ∀ s, s < 2 ^ M → -1 ≤ D s ∧ D s ≤ 2 ^ 60) (hg : ∀ s, -(2 ^ 60) ≤ gn s h ∧ gn s h ≤ 2 ^ 60) (hG : ∀ s, 1 ≤ s → s < 2 ^ M → sJ S (ad 28 0) s = lZ (gn s h)) (hV : ∀ s, s < 2 ^ M → sJ S (ad 29 0) s = lZ (D s)) : Ct l G yX4_addHome cX4_addHome 9 none 1 0 0 [.ref (ad 4 0), .int (nI h)] S (fun v T => v = none ∧ FrP S T ∧ (∀ s, s < 2 ^ M → sJ T (ad 29 0) s = lZ (if 1 ≤ s then (dpI gn D h s (s + 1)).1 else D s)) ∧ (∀ s, ¬ s < 2 ^ M → sJ T (ad 29 0) s = sJ S (ad 29 0) s) ∧ (∀ s, 1 ≤ s → s < 2 ^ M → sA T (ad 27 h) s = nI (dpI gn D h s (s + 1)).2) ∧ (∀ a, a ≠ ad 29 0 → sJ T a = sJ S a) ∧ (∀ a, a ≠ ad 27 h → sA T a = sA S a) ∧ sQ T = sQ S ∧ sI T = sI S) (fun _ _ => False) := by
  refine Ct_of (by decide) (cat1_all (by repeat first | exact trivial | refine ⟨by first | rfl | exact isR_c (isR_q _), ?_⟩)) (Nat.le_of_ble_eq_true rfl) hl fun X C hXl hin => ?_
  subst hXl
  dsimp only [lArgs, Nat.reduceAdd]
  have h32 : 2 ^ M ≤ 32 := Nat.pow_le_pow_right (n := 2) (by decide) hM
  have hpos : 0 < 2 ^ M := Nat.pow_pos (by decide)
  have kp : sK S (ad 4 0) = 5 := RelC_K hC 4 (by decide) rfl
  have n27 : ∀ T, sK T = sK S → ad 28 0 ≠ ad 29 0 := fun T _ e => by
    have a : sK S (ad 28 0) = 103 := RelC_kd hC 28 (by decide) rfl rfl
    have b : sK S (ad 29 0) = 113 := RelC_kd hC 29 (by decide) rfl rfl
    rw [e, b] at a
    exact absurd a (by decide)
  have outer : ∀ (k : Nat) (T : sS), k < 2 ^ M → (FrP S T ∧ (∀ s, s < 2 ^ M → sJ T (ad 29 0) s = lZ (if k < s then (dpI gn D h s (s + 1)).1 else D s)) ∧ (∀ s, ¬ s < 2 ^ M → sJ T (ad 29 0) s = sJ S (ad 29 0) s) ∧ (∀ s, k < s → s < 2 ^ M → sA T (ad 27 h) s = nI (dpI gn D h s (s + 1)).2) ∧ (∀ a, a ≠ ad 29 0 → sJ T a = sJ S a) ∧ (∀ a, a ≠ ad 27 h → sA T a = sA S a) ∧ sQ T = sQ S ∧ sI T = sI S) → V X G 9 (eQ X G (fun v T => v = none ∧ FrP S T ∧ (∀ s, s < 2 ^ M → sJ T (ad 29 0) s = lZ (if 1 ≤ s then (dpI gn D h s (s + 1)).1 else D s)) ∧ (∀ s, ¬ s < 2 ^ M → sJ T (ad 29 0) s = sJ S (ad 29 0) s) ∧ (∀ s, 1 ≤ s → s < 2 ^ M → sA T (ad 27 h) s = nI (dpI gn D h s (s + 1)).2) ∧ (∀ a, a ≠ ad 29 0 → sJ T a = sJ S a) ∧ (∀ a, a ≠ ad 27 h → sA T a = sA S a) ∧ sQ T = sQ S ∧ sI T = sI S) (fun _ _ => False) 0 0) 0 0 12 [(2, false, .int (nI k)), (0, false, .ref (ad 4 0)), (1, false, .int (nI h))] [] T := by
    intro k
    induction k with
    | zero =>
      intro T hk hT
      obtain ⟨f, t1, t2, t3, t4, t5, t6, t7⟩ := hT
      refine V_iload_n C dX4_addHome_12 rfl ?_
      refine V_if_le C (tgt := 140) dX4_addHome_13 (by decide) (fun h13 => ?_) (fun h13 => ?_)
      · refine V_vret C (by first | omega | decide) (by first | omega | decide) dX4_addHome_140 ?_
        exact ⟨rfl, f, t1, t2, t3, t4, t5, t6, t7⟩
      · exact absurd (by decide) h13
    | succ k ih =>
      intro T hk hT
      obtain ⟨f, t1, t2, t3, t4, t5, t6, t7⟩ := hT
      have hR : RelC T ad σ := RelC_P hC f
      have kp2 : sK T (ad 4 0) = 5 := RelC_K hR 4 (by decide) rfl
      have r6 : sR T 406 (ad 4 0) = some (ad 29 0) := RelC_pR hR 406 29 (by decide) rfl rfl
      have r5 : sR T 405 (ad 4 0) = some (ad 28 0) := RelC_pR hR 405 28 (by decide) rfl rfl
      have r4 : sR T 404 (ad 4 0) = some (ad 26 0) := RelC_pR hR 404 26 (by decide) rfl rfl
      have k29 : sK T (ad 29 0) = 113 := RelC_kd hR 29 (by decide) rfl rfl
      have l29 : sL T (ad 29 0) = 32 := RelC_ln hR 29 (by decide) rfl rfl
      have k28 : sK T (ad 28 0) = 103 := RelC_kd hR 28 (by decide) rfl rfl
      have l28 : sL T (ad 28 0) = 32 := RelC_ln hR 28 (by decide) rfl rfl
      have k26 : sK T (ad 26 0) = 117 := RelC_kd hR 26 (by decide) rfl rfl
      have l26 : sL T (ad 26 0) = 10 := RelC_ln hR 26 (by decide) rfl rfl
      have a26 := hR.2.2.2.2.2.2.2.2.2.2 h hh
      have k27 : sK T (ad 27 h) = 181 := RelC_kd hR 27 (by decide) hh rfl
      have l27 : sL T (ad 27 h) = 32 := RelC_ln hR 27 (by decide) hh rfl
      have vk : sJ T (ad 29 0) (k + 1) = lZ (D (k + 1)) := by rw [t1 _ hk, if_neg (Nat.lt_irrefl _)]
      have gk : ∀ s, 1 ≤ s → s < 2 ^ M → sJ T (ad 28 0) s = lZ (gn s h) := fun s s1 s2 => by rw [t4 _ (n27 T f.1)]; exact hG s s1 s2
      have vl : ∀ s, s ≤ k + 1 → sJ T (ad 29 0) s = lZ (D s) := fun s hs => by rw [t1 _ (by omega), if_neg (by omega)]
      have Db : ∀ s, s < 2 ^ M → -(2 ^ 62) ≤ D s ∧ D s ≤ 2 ^ 62 := fun s hs => by have := hD s hs; omega
      have gb : ∀ s, -(2 ^ 62) ≤ gn s h ∧ gn s h ≤ 2 ^ 62 := fun s => by have := hg s; omega
      have z0 : -(2 ^ 62 : Int) ≤ 0 ∧ (0 : Int) ≤ 2 ^ 62 := by omega
      have inner : ∀ (t i : Nat), i + t = k + 2 → 1 ≤ i → V X G 9 (eQ X G (fun v T => v = none ∧ FrP S T ∧ (∀ s, s < 2 ^ M → sJ T (ad 29 0) s = lZ (if 1 ≤ s then (dpI gn D h s (s + 1)).1 else D s)) ∧ (∀ s, ¬ s < 2 ^ M → sJ T (ad 29 0) s = sJ S (ad 29 0) s) ∧ (∀ s, 1 ≤ s → s < 2 ^ M → sA T (ad 27 h) s = nI (dpI gn D h s (s + 1)).2) ∧ (∀ a, a ≠ ad 29 0 → sJ T a = sJ S a) ∧ (∀ a, a ≠ ad 27 h → sA T a = sA S a) ∧ sQ T = sQ S ∧ sI T = sI S) (fun _ _ => False) 0 0) 0 0 29 [(6, false, .int (nI i)), (4, true, .long (lZ (dpI gn D h (k + 1) i).1)), (3, false, .int (nI (dpI gn D h (k + 1) i).2)), (2, false, .int (nI (k + 1))), (0, false, .ref (ad 4 0)), (1, false, .int (nI h))] [] T := by
        intro t
        induction t with
        | zero =>
          intro i hi h1
          obtain rfl : i = k + 2 := by omega
          have kp3 : sK (pJ T (ad 29 0) (k + 1) (lZ (dpI gn D h (k + 1) (k + 2)).1)) (ad 4 0) = 5 := kp2
          have r43 : sR (pJ T (ad 29 0) (k + 1) (lZ (dpI gn D h (k + 1) (k + 2)).1)) 404 (ad 4 0) = some (ad 26 0) := r4
          have k263 : sK (pJ T (ad 29 0) (k + 1) (lZ (dpI gn D h (k + 1) (k + 2)).1)) (ad 26 0) = 117 := k26
          have l263 : sL (pJ T (ad 29 0) (k + 1) (lZ (dpI gn D h (k + 1) (k + 2)).1)) (ad 26 0) = 10 := l26
          have a263 : sQ (pJ T (ad 29 0) (k + 1) (lZ (dpI gn D h (k + 1) (k + 2)).1)) (ad 26 0) h = some (ad 27 h) := a26
          have k273 : sK (pJ T (ad 29 0) (k + 1) (lZ (dpI gn D h (k + 1) (k + 2)).1)) (ad 27 h) = 181 := k27
          have l273 : sL (pJ T (ad 29 0) (k + 1) (lZ (dpI gn D h (k + 1) (k + 2)).1)) (ad 27 h) = 32 := l27
          have L := ih (pA (pJ T (ad 29 0) (k + 1) (lZ (dpI gn D h (k + 1) (k + 2)).1)) (ad 27 h) (k + 1) (nI (dpI gn D h (k + 1) (k + 2)).2)) (by omega) ⟨FrP_tr f (FrP_tr (FrP_J (Or.inr k29)) (FrP_A (Or.inr (Or.inr (Or.inr ⟨k273, by omega⟩))))), fun s hs => by
              rw [sJ_pA, sJ_s]
              by_cases e : s = k + 1
              · subst e; rw [up1_s, if_pos (Nat.lt_succ_self k)]
              · rw [up1_n e, t1 s hs]
                by_cases z : k + 1 < s
                · rw [if_pos z, if_pos (by omega)]
                · rw [if_neg z, if_neg (by omega)], fun s hs => by
              rw [sJ_pA, sJ_s, up1_n (by omega)]; exact t2 s hs, fun s s1 s2 => by
              rw [sA_s]
              by_cases e : s = k + 1
              · subst e; exact up1_s
              · rw [up1_n e]; exact t3 s (by omega) s2, fun a ha => (sJ_n ha).trans (t4 a ha), fun a ha => (sA_n ha).trans (t5 a ha), t6, t7⟩
          refine V_iload C dX4_addHome_29 rfl ?_
          refine V_iload_n C dX4_addHome_31 rfl ?_
          refine V_igtN C (tgt := 117) (by omega) (by omega) dX4_addHome_32 (by decide) (fun h32 => ?_) (fun h32 => ?_)
          · refine V_aload_n C dX4_addHome_117 rfl (by first | exact isR_r _ | exact isR_q _ | exact isR_n) ?_
            refine V_getS C 4 6 rfl cf_4 fl_X4_36 (by decide) (by decide) dX4_addHome_118 kp2 r6 ?_
            refine V_iload_n C dX4_addHome_121 rfl ?_
            refine V_lload C dX4_addHome_122 rfl ?_
            refine V_lastE C k29 (by decide) l29 (show k + 1 < 32 by omega) (by decide) dX4_addHome_124 ?_
            refine V_aload_n C dX4_addHome_125 rfl (by first | exact isR_r _ | exact isR_q _ | exact isR_n) ?_
            refine V_getS C 4 4 rfl cf_4 fl_X4_29 (by decide) (by decide) dX4_addHome_126 kp3 r43 ?_
            refine V_iload_n C dX4_addHome_129 rfl ?_
            refine V_aaldE C 7 (by decide) k263 (by decide) l263 rfl hh (by decide) dX4_addHome_130 ?_
            rw [a263]
            dsimp only [va_rf]
            refine V_iload_n C dX4_addHome_131 rfl ?_
            refine V_iload_n C dX4_addHome_132 rfl ?_
            refine V_iastE C k273 (by decide) l273 (show k + 1 < 32 by omega) (by decide) dX4_addHome_133 ?_
            refine V_iinc C dX4_addHome_134 rfl (nI_dec k) (by decide) rfl ?_
            simp only [lset1, lset2, List.filter_cons, List.filter_nil, Nat.reduceBEq, Nat.reduceAdd, Bool.not_true, Bool.not_false, Bool.and_true, Bool.and_false, Bool.true_and, Bool.false_and, if_true, if_false, Bool.false_eq_true, reduceIte]
            refine V_goto C (tgt := 12) dX4_addHome_137 (by decide) ?_
            refine V_sub ?_ L
            exact ⟨rfl, rfl, rfl, trivial⟩
          · omega
        | succ t iht =>
          intro i hi h1
          have hi32 : i < 32 := by omega
          have ek := and32 i hi32 (k + 1) (by omega)
          have es := sbt32 (k + 1) (by omega) i hi32
          have sl : sbt (k + 1) i ≤ k + 1 := sbt_le
          have sl32 : sbt (k + 1) i < 32 := by omega
          have vs := vl _ sl
          have gi := gk i h1 (by omega)
          have mb := dpI_b (gn := gn) (D := D) (h := h) hk hD (fun s => (hg s).2) i
          have mb2 : -(2 ^ 62) ≤ (dpI gn D h (k + 1) i).1 ∧ (dpI gn D h (k + 1) i).1 ≤ 2 ^ 62 := by omega
          have sD := hD (sbt (k + 1) i) (by omega)
          have hgi := hg i
          have ab : -(2 ^ 62) ≤ D (sbt (k + 1) i) + gn i h ∧ D (sbt (k + 1) i) + gn i h ≤ 2 ^ 62 := by omega
          have Lt := iht (i + 1) (by omega) (by omega)
          by_cases q : 1 ≤ i ∧ i &&& (k + 1) = i ∧ 0 ≤ gn i h ∧ 0 ≤ D (sbt (k + 1) i) ∧ (dpI gn D h (k + 1) i).1 < D (sbt (k + 1) i) + gn i h
          · obtain ⟨-, q2, q3, q4, q5⟩ := q
            rw [dpI_t ⟨h1, q2, q3, q4, q5⟩] at Lt
            refine V_iload C dX4_addHome_29 rfl ?_
            refine V_iload_n C dX4_addHome_31 rfl ?_
            refine V_igtN C (tgt := 117) (by omega) (by omega) dX4_addHome_32 (by decide) (fun h32 => ?_) (fun h32 => ?_)
            · omega
            · refine V_iload C dX4_addHome_35 rfl ?_
              refine V_iload_n C dX4_addHome_37 rfl ?_
              refine V_iand C dX4_addHome_38 ?_
              rw [ek, q2]
              refine V_iload C dX4_addHome_39 rfl ?_
              refine V_icmp_ne C (tgt := 111) dX4_addHome_41 (by decide) (fun h41 => ?_) (fun h41 => ?_)
              · exact absurd rfl h41
              · refine V_aload_n C dX4_addHome_44 rfl (by first | exact isR_r _ | exact isR_q _ | exact isR_n) ?_
                refine V_getS C 4 5 rfl cf_4 fl_X4_32 (by decide) (by decide) dX4_addHome_45 kp2 r5 ?_
                refine V_iload C dX4_addHome_48 rfl ?_
                refine V_laldE C k28 (by decide) l28 rfl hi32 (by decide) dX4_addHome_50 ?_
                rw [gi]
                refine V_lconst C (v := 0) dX4_addHome_51 (by decide) ?_
                refine V_lcmp C dX4_addHome_52 ?_
                refine V_if_lt C (tgt := 111) dX4_addHome_53 (by decide) (fun h53 => ?_) (fun h53 => ?_)
                · exact absurd ((lZ_lt (gb i) z0).mp ((lg_cmp_lt _ _).mp h53)) (by omega)
                · refine V_aload_n C dX4_addHome_56 rfl (by first | exact isR_r _ | exact isR_q _ | exact isR_n) ?_
                  refine V_getS C 4 6 rfl cf_4 fl_X4_36 (by decide) (by decide) dX4_addHome_57 kp2 r6 ?_
                  refine V_iload_n C dX4_addHome_60 rfl ?_
                  refine V_iload C dX4_addHome_61 rfl ?_
                  refine V_iconst C (v := (-1)) dX4_addHome_63 (by decide) ?_
                  refine V_ixor C dX4_addHome_64 ?_
                  refine V_iand C dX4_addHome_65 ?_
                  rw [es]
                  refine V_laldE C k29 (by decide) l29 rfl sl32 (by decide) dX4_addHome_66 ?_
                  rw [vs]
                  refine V_lconst C (v := 0) dX4_addHome_67 (by decide) ?_
                  refine V_lcmp C dX4_addHome_68 ?_
                  refine V_if_ge C (tgt := 75) dX4_addHome_69 (by decide) (fun h69 => ?_) (fun h69 => ?_)
                  · refine V_aload_n C dX4_addHome_75 rfl (by first | exact isR_r _ | exact isR_q _ | exact isR_n) ?_
                    refine V_getS C 4 6 rfl cf_4 fl_X4_36 (by decide) (by decide) dX4_addHome_76 kp2 r6 ?_
                    refine V_iload_n C dX4_addHome_79 rfl ?_
                    refine V_iload C dX4_addHome_80 rfl ?_
                    refine V_iconst C (v := (-1)) dX4_addHome_82 (by decide) ?_
                    refine V_ixor C dX4_addHome_83 ?_
                    refine V_iand C dX4_addHome_84 ?_
                    rw [es]
                    refine V_laldE C k29 (by decide) l29 rfl sl32 (by decide) dX4_addHome_85 ?_
                    rw [vs]
                    refine V_aload_n C dX4_addHome_86 rfl (by first | exact isR_r _ | exact isR_q _ | exact isR_n) ?_
                    refine V_getS C 4 5 rfl cf_4 fl_X4_32 (by decide) (by decide) dX4_addHome_87 kp2 r5 ?_
                    refine V_iload C dX4_addHome_90 rfl ?_
                    refine V_laldE C k28 (by decide) l28 rfl hi32 (by decide) dX4_addHome_92 ?_
                    rw [gi]
                    refine V_ladd C dX4_addHome_93 ?_
                    rw [lZ_add]
                    refine V_lstore C dX4_addHome_94 (by decide) rfl ?_
                    simp only [lset1, lset2, List.filter_cons, List.filter_nil, Nat.reduceBEq, Nat.reduceAdd, Bool.not_true, Bool.not_false, Bool.and_true, Bool.and_false, Bool.true_and, Bool.false_and, if_true, if_false, Bool.false_eq_true, reduceIte]
                    refine V_lload C dX4_addHome_96 rfl ?_
                    refine V_lload C dX4_addHome_98 rfl ?_
                    refine V_lcmp C dX4_addHome_100 ?_
                    refine V_if_le C (tgt := 111) dX4_addHome_101 (by decide) (fun h101 => ?_) (fun h101 => ?_)
                    · exact absurd ((lZ_le ab mb2).mp ((lg_cmp_le _ _).mp h101)) (by omega)
                    · refine V_lload C dX4_addHome_104 rfl ?_
                      refine V_lstore C dX4_addHome_106 (by decide) rfl ?_
                      simp only [lset1, lset2, List.filter_cons, List.filter_nil, Nat.reduceBEq, Nat.reduceAdd, Bool.not_true, Bool.not_false, Bool.and_true, Bool.and_false, Bool.true_and, Bool.false_and, if_true, if_false, Bool.false_eq_true, reduceIte]
                      refine V_iload C dX4_addHome_108 rfl ?_
                      refine V_istore_n C dX4_addHome_110 (by decide) rfl ?_
                      simp only [lset1, lset2, List.filter_cons, List.filter_nil, Nat.reduceBEq, Nat.reduceAdd, Bool.not_true, Bool.not_false, Bool.and_true, Bool.and_false, Bool.true_and, Bool.false_and, if_true, if_false, Bool.false_eq_true, reduceIte]
                      refine V_incN C dX4_addHome_111 rfl (by decide) rfl ?_
                      simp only [lset1, lset2, List.filter_cons, List.filter_nil, Nat.reduceBEq, Nat.reduceAdd, Bool.not_true, Bool.not_false, Bool.and_true, Bool.and_false, Bool.true_and, Bool.false_and, if_true, if_false, Bool.false_eq_true, reduceIte]
                      refine V_goto C (tgt := 29) dX4_addHome_114 (by decide) ?_
                      refine V_sub ?_ Lt
                      exact ⟨rfl, rfl, rfl, rfl, rfl, rfl, trivial⟩
                  · exact absurd ((lg_cmp_ge _ _).mpr ((lZ_le z0 (Db _ (by omega))).mpr q4)) h69
          · rw [dpI_f q] at Lt
            refine V_iload C dX4_addHome_29 rfl ?_
            refine V_iload_n C dX4_addHome_31 rfl ?_
            refine V_igtN C (tgt := 117) (by omega) (by omega) dX4_addHome_32 (by decide) (fun h32 => ?_) (fun h32 => ?_)
            · omega
            · refine V_iload C dX4_addHome_35 rfl ?_
              refine V_iload_n C dX4_addHome_37 rfl ?_
              refine V_iand C dX4_addHome_38 ?_
              rw [ek]
              refine V_iload C dX4_addHome_39 rfl ?_
              refine V_icmp_ne C (tgt := 111) dX4_addHome_41 (by decide) (fun h41 => ?_) (fun h41 => ?_)
              · refine V_incN C dX4_addHome_111 rfl (by decide) rfl ?_
                simp only [lset1, lset2, List.filter_cons, List.filter_nil, Nat.reduceBEq, Nat.reduceAdd, Bool.not_true, Bool.not_false, Bool.and_true, Bool.and_false, Bool.true_and, Bool.false_and, if_true, if_false, Bool.false_eq_true, reduceIte]
                refine V_goto C (tgt := 29) dX4_addHome_114 (by decide) ?_
                refine V_sub ?_ Lt
                exact ⟨rfl, rfl, rfl, rfl, rfl, rfl, trivial⟩
              · refine V_aload_n C dX4_addHome_44 rfl (by first | exact isR_r _ | exact isR_q _ | exact isR_n) ?_
                refine V_getS C 4 5 rfl cf_4 fl_X4_32 (by decide) (by decide) dX4_addHome_45 kp2 r5 ?_
                refine V_iload C dX4_addHome_48 rfl ?_
                refine V_laldE C k28 (by decide) l28 rfl hi32 (by decide) dX4_addHome_50 ?_
                rw [gi]
                refine V_lconst C (v := 0) dX4_addHome_51 (by decide) ?_
                refine V_lcmp C dX4_addHome_52 ?_
                refine V_if_lt C (tgt := 111) dX4_addHome_53 (by decide) (fun h53 => ?_) (fun h53 => ?_)
                · refine V_incN C dX4_addHome_111 rfl (by decide) rfl ?_
                  simp only [lset1, lset2, List.filter_cons, List.filter_nil, Nat.reduceBEq, Nat.reduceAdd, Bool.not_true, Bool.not_false, Bool.and_true, Bool.and_false, Bool.true_and, Bool.false_and, if_true, if_false, Bool.false_eq_true, reduceIte]
                  refine V_goto C (tgt := 29) dX4_addHome_114 (by decide) ?_
                  refine V_sub ?_ Lt
                  exact ⟨rfl, rfl, rfl, rfl, rfl, rfl, trivial⟩
                · refine V_aload_n C dX4_addHome_56 rfl (by first | exact isR_r _ | exact isR_q _ | exact isR_n) ?_
                  refine V_getS C 4 6 rfl cf_4 fl_X4_36 (by decide) (by decide) dX4_addHome_57 kp2 r6 ?_
                  refine V_iload_n C dX4_addHome_60 rfl ?_
                  refine V_iload C dX4_addHome_61 rfl ?_
                  refine V_iconst C (v := (-1)) dX4_addHome_63 (by decide) ?_
                  refine V_ixor C dX4_addHome_64 ?_
                  refine V_iand C dX4_addHome_65 ?_
                  rw [es]
                  refine V_laldE C k29 (by decide) l29 rfl sl32 (by decide) dX4_addHome_66 ?_
                  rw [vs]
                  refine V_lconst C (v := 0) dX4_addHome_67 (by decide) ?_
                  refine V_lcmp C dX4_addHome_68 ?_
                  refine V_if_ge C (tgt := 75) dX4_addHome_69 (by decide) (fun h69 => ?_) (fun h69 => ?_)
                  · refine V_aload_n C dX4_addHome_75 rfl (by first | exact isR_r _ | exact isR_q _ | exact isR_n) ?_
                    refine V_getS C 4 6 rfl cf_4 fl_X4_36 (by decide) (by decide) dX4_addHome_76 kp2 r6 ?_
                    refine V_iload_n C dX4_addHome_79 rfl ?_
                    refine V_iload C dX4_addHome_80 rfl ?_
                    refine V_iconst C (v := (-1)) dX4_addHome_82 (by decide) ?_
                    refine V_ixor C dX4_addHome_83 ?_
                    refine V_iand C dX4_addHome_84 ?_
                    rw [es]
                    refine V_laldE C k29 (by decide) l29 rfl sl32 (by decide) dX4_addHome_85 ?_
                    rw [vs]
                    refine V_aload_n C dX4_addHome_86 rfl (by first | exact isR_r _ | exact isR_q _ | exact isR_n) ?_
                    refine V_getS C 4 5 rfl cf_4 fl_X4_32 (by decide) (by decide) dX4_addHome_87 kp2 r5 ?_
                    refine V_iload C dX4_addHome_90 rfl ?_
                    refine V_laldE C k28 (by decide) l28 rfl hi32 (by decide) dX4_addHome_92 ?_
                    rw [gi]
                    refine V_ladd C dX4_addHome_93 ?_
                    rw [lZ_add]
                    refine V_lstore C dX4_addHome_94 (by decide) rfl ?_
                    simp only [lset1, lset2, List.filter_cons, List.filter_nil, Nat.reduceBEq, Nat.reduceAdd, Bool.not_true, Bool.not_false, Bool.and_true, Bool.and_false, Bool.true_and, Bool.false_and, if_true, if_false, Bool.false_eq_true, reduceIte]
                    refine V_lload C dX4_addHome_96 rfl ?_
                    refine V_lload C dX4_addHome_98 rfl ?_
                    refine V_lcmp C dX4_addHome_100 ?_
                    refine V_if_le C (tgt := 111) dX4_addHome_101 (by decide) (fun h101 => ?_) (fun h101 => ?_)
                    · refine V_incN C dX4_addHome_111 rfl (by decide) rfl ?_
                      simp only [lset1, lset2, List.filter_cons, List.filter_nil, Nat.reduceBEq, Nat.reduceAdd, Bool.not_true, Bool.not_false, Bool.and_true, Bool.and_false, Bool.true_and, Bool.false_and, if_true, if_false, Bool.false_eq_true, reduceIte]
                      refine V_goto C (tgt := 29) dX4_addHome_114 (by decide) ?_
                      refine V_sub ?_ Lt
                      exact ⟨rfl, rfl, rfl, rfl, rfl, rfl, trivial⟩
                    · exact absurd ⟨h1, (nI_eq (by have : i &&& (k + 1) ≤ i := Nat.and_le_left; omega) (by omega)).mp h41, Int.not_lt.mp (fun z => h53 ((lg_cmp_lt _ _).mpr ((lZ_lt (gb i) z0).mpr z))), (lZ_le z0 (Db _ (by omega))).mp ((lg_cmp_ge _ _).mp h69), Int.not_le.mp (fun z => h101 ((lg_cmp_le _ _).mpr ((lZ_le ab mb2).mpr z)))⟩ q
                  · refine V_goto C (tgt := 111) dX4_addHome_72 (by decide) ?_
                    refine V_incN C dX4_addHome_111 rfl (by decide) rfl ?_
                    simp only [lset1, lset2, List.filter_cons, List.filter_nil, Nat.reduceBEq, Nat.reduceAdd, Bool.not_true, Bool.not_false, Bool.and_true, Bool.and_false, Bool.true_and, Bool.false_and, if_true, if_false, Bool.false_eq_true, reduceIte]
                    refine V_goto C (tgt := 29) dX4_addHome_114 (by decide) ?_
                    refine V_sub ?_ Lt
                    exact ⟨rfl, rfl, rfl, rfl, rfl, rfl, trivial⟩
      have L := inner (k + 1) 1 (by omega) (Nat.le_refl 1)
      rw [dpI_f (k := 0) (fun z => by omega)] at L
      refine V_iload_n C dX4_addHome_12 rfl ?_
      refine V_if_le C (tgt := 140) dX4_addHome_13 (by decide) (fun h13 => ?_) (fun h13 => ?_)
      · exact absurd h13 (nI_nle (by omega) (by omega))
      · refine V_iconst C (v := 0) dX4_addHome_16 (by decide) ?_
        refine V_istore_n C dX4_addHome_17 (by decide) rfl ?_
        simp only [lset1, lset2, List.filter_cons, List.filter_nil, Nat.reduceBEq, Nat.reduceAdd, Bool.not_true, Bool.not_false, Bool.and_true, Bool.and_false, Bool.true_and, Bool.false_and, if_true, if_false, Bool.false_eq_true, reduceIte]
        refine V_aload_n C dX4_addHome_18 rfl (by first | exact isR_r _ | exact isR_q _ | exact isR_n) ?_
        refine V_getS C 4 6 rfl cf_4 fl_X4_36 (by decide) (by decide) dX4_addHome_19 kp2 r6 ?_
        refine V_iload_n C dX4_addHome_22 rfl ?_
        refine V_laldE C k29 (by decide) l29 rfl (show k + 1 < 32 by omega) (by decide) dX4_addHome_23 ?_
        rw [vk]
        refine V_lstore C dX4_addHome_24 (by decide) rfl ?_
        simp only [lset1, lset2, List.filter_cons, List.filter_nil, Nat.reduceBEq, Nat.reduceAdd, Bool.not_true, Bool.not_false, Bool.and_true, Bool.and_false, Bool.true_and, Bool.false_and, if_true, if_false, Bool.false_eq_true, reduceIte]
        refine V_iconst C (v := 1) dX4_addHome_26 (by decide) ?_
        refine V_istore C dX4_addHome_27 (by decide) rfl ?_
        simp only [lset1, lset2, List.filter_cons, List.filter_nil, Nat.reduceBEq, Nat.reduceAdd, Bool.not_true, Bool.not_false, Bool.and_true, Bool.and_false, Bool.true_and, Bool.false_and, if_true, if_false, Bool.false_eq_true, reduceIte]
        refine V_sub ?_ L
        exact ⟨rfl, rfl, rfl, rfl, rfl, rfl, trivial⟩
  have L := outer (2 ^ M - 1) S (by omega) ⟨FrP_0, fun s hs => by rw [if_neg (by omega)]; exact hV s hs, fun _ _ => rfl, fun s s1 s2 => by omega, fun _ _ => rfl, fun _ _ => rfl, rfl, rfl⟩
  have emin : (if (32 : Int32) < nI (2 ^ M) then (32 : Int32) else nI (2 ^ M)) = nI (2 ^ M) := if_neg (fun z => absurd ((nI_ltI (a := 32) (b := 2 ^ M) (by decide) (by omega)).mp z) (by omega))
  refine V_aload_n C dX4_addHome_0 rfl (by first | exact isR_r _ | exact isR_q _ | exact isR_n) ?_
  refine V_getIe C 4 8 rfl cf_4 fl_X4_43 (by decide) (by decide) dX4_addHome_1 kp i408 ?_
  refine V_bipush C (v := 32) dX4_addHome_4 (by decide) ?_
  refine V_min C kj_X4_78 ⟨by decide, (show (0 : Nat) + 13 ≤ 37 by decide), by decide, by decide⟩ dX4_addHome_6 ?_
  rw [emin]
  refine V_iconst C (v := 1) dX4_addHome_9 (by decide) ?_
  refine V_isub C dX4_addHome_10 ?_
  rw [show (1 : Int32) = nI 1 from rfl, pk_sub (by omega)]
  refine V_istore_n C dX4_addHome_11 (by decide) rfl ?_
  simp only [lset1, lset2, List.filter_cons, List.filter_nil, Nat.reduceBEq, Nat.reduceAdd, Bool.not_true, Bool.not_false, Bool.and_true, Bool.and_false, Bool.true_and, Bool.false_and, if_true, if_false, Bool.false_eq_true, reduceIte]
  refine V_sub ?_ L
  exact ⟨rfl, rfl, rfl, trivial⟩

