/-! LEAVES OF THE CLASS: no loop, nothing written. -/
theorem c_X8_isWithin (l : Launch) (hl : l.stackTraces = false) (G : gG) (S : sS) (v a b : Int32) : CtF l G yX8_isWithin cX8_isWithin 3 (Option.some FieldType.boolean) 1 0 0 [.int v, .int a, .int b] S (some (.int (bI (a ≤ v ∧ v ≤ b)))) S := by
  refine Ct_of (by decide) (cat1_all (by repeat first | exact trivial | refine ⟨by first | rfl | exact isR_c (isR_q _), ?_⟩)) (Nat.le_of_ble_eq_true rfl) hl fun X C hXl hin => ?_
  subst hXl
  dsimp only [lArgs, Nat.reduceAdd]
  refine V_iload_n C dX8_isWithin_0 rfl ?_
  refine V_iload_n C dX8_isWithin_1 rfl ?_
  refine V_icmp_gt C (tgt := 14) dX8_isWithin_2 (by decide) (fun h2 => ?_) (fun h2 => ?_)
  · refine V_iconst C (v := 0) dX8_isWithin_14 (by decide) ?_
    refine V_zret C rfl (by decide) (by decide) dX8_isWithin_15 ?_
    exact ⟨by rw [bI_f (by first | exact fun q => absurd q.1 (Int32.not_le.mpr h2) | exact fun q => absurd q.2 (Int32.not_le.mpr h7))], rfl⟩
  · refine V_iload_n C dX8_isWithin_5 rfl ?_
    refine V_iload_n C dX8_isWithin_6 rfl ?_
    refine V_icmp_gt C (tgt := 14) dX8_isWithin_7 (by decide) (fun h7 => ?_) (fun h7 => ?_)
    · refine V_iconst C (v := 0) dX8_isWithin_14 (by decide) ?_
      refine V_zret C rfl (by decide) (by decide) dX8_isWithin_15 ?_
      exact ⟨by rw [bI_f (by first | exact fun q => absurd q.1 (Int32.not_le.mpr h2) | exact fun q => absurd q.2 (Int32.not_le.mpr h7))], rfl⟩
    · refine V_iconst C (v := 1) dX8_isWithin_10 (by decide) ?_
      refine V_goto C (tgt := 15) dX8_isWithin_11 (by decide) ?_
      refine V_zret C (by first | rfl | exact bI_nz _) (by first | omega | decide) (by first | omega | decide) dX8_isWithin_15 ?_
      exact ⟨by rw [bI_t ⟨Int32.not_lt.mp h2, Int32.not_lt.mp h7⟩], rfl⟩
theorem c_X8_require0 (l : Launch) (hl : l.stackTraces = false) (G : gG) (S : sS) : CtX l G yX8_require cX8_require 1 none 6 1 6 [.int 0] S "java/lang/IllegalArgumentException" := by
  refine Ct_of (by decide) (cat1_all (by repeat first | exact trivial | refine ⟨by first | rfl | exact isR_c (isR_q _), ?_⟩)) (Nat.le_of_ble_eq_true rfl) hl fun X C hXl hin => ?_
  subst hXl
  dsimp only [lArgs, Nat.reduceAdd]
  refine V_iload_n C dX8_require_0 rfl ?_
  refine V_if_ne C (tgt := 15) dX8_require_1 (by decide) (fun h1 => ?_) (fun h1 => ?_)
  · exact absurd rfl h1
  · refine V_throwSW C tw_X8_236_275_240 dX8_require_4 dX8_require_7 dX8_require_8 dX8_require_11 dX8_require_14 (by decide) (by first | omega | decide) (by first | omega | decide) ?_
    exact ⟨rfl, rfl⟩
theorem c_X8_require1 (l : Launch) (hl : l.stackTraces = false) (G : gG) (S : sS) : CtF l G yX8_require cX8_require 1 none 6 1 6 [.int 1] S none S := by
  refine Ct_of (by decide) (cat1_all (by repeat first | exact trivial | refine ⟨by first | rfl | exact isR_c (isR_q _), ?_⟩)) (Nat.le_of_ble_eq_true rfl) hl fun X C hXl hin => ?_
  subst hXl
  dsimp only [lArgs, Nat.reduceAdd]
  refine V_iload_n C dX8_require_0 rfl ?_
  refine V_if_ne C (tgt := 15) dX8_require_1 (by decide) (fun h1 => ?_) (fun h1 => ?_)
  · refine V_vret C (by first | omega | decide) (by first | omega | decide) dX8_require_15 ?_
    exact ⟨rfl, rfl⟩
  · exact absurd h1 (by decide)
theorem c_X0_yearsOn (l : Launch) (hl : l.stackTraces = false) (G : gG) (S : sS) (c : Nat) (hc : sK S c = 1) (day : Int32) : CtF l G yX0_yearsOn cX0_yearsOn 2 (Option.some FieldType.int) 1 0 0 [.ref c, .int day] S (some (.int ((day - sI S 1 c) / 365))) S := by
  refine Ct_of (by decide) (cat1_all (by repeat first | exact trivial | refine ⟨by first | rfl | exact isR_c (isR_q _), ?_⟩)) (Nat.le_of_ble_eq_true rfl) hl fun X C hXl hin => ?_
  subst hXl
  dsimp only [lArgs, Nat.reduceAdd]
  refine V_iload_n C dX0_yearsOn_0 rfl ?_
  refine V_aload_n C dX0_yearsOn_1 rfl (by first | exact isR_r _ | exact isR_q _ | exact isR_n) ?_
  refine V_getI C 0 1 rfl cf_0 fl_X0_15 (by decide) (by decide) dX0_yearsOn_2 (by assumption) ?_
  refine V_isub C dX0_yearsOn_5 ?_
  refine V_sipush C (v := 365) dX0_yearsOn_6 (by decide) ?_
  refine V_idiv C dX0_yearsOn_9 (by decide) ?_
  refine V_iret C (by first | omega | decide) (by first | omega | decide) dX0_yearsOn_10 ?_
  exact ⟨rfl, rfl⟩

