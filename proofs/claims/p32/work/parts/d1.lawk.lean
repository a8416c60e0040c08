/-! THE LAW'S ENTRY: what the tables say there. -/
theorem kn_of {s : State} {args : Array Value} (hg : ∀ w ∈ lw_good, w.before args s = true) {ci : Nat} (hF : cF ci) (hi : Cond.instantiable (vC ci).1 (nF ci) ∈ lw_good) : ∃ z : ClassId × (Nat → Nat), ∀ q : vw_C, vwCl[ci]? = some q → u_Kn s q.1 q.2.1 q.2.2 z.1 z.2 := by
  obtain ⟨r, h1, h2, h3, h4, -⟩ := hF
  rw [h2] at hi
  obtain ⟨cC, iS, h⟩ := u_known (ws := lw_good) (C := r.1) (T := r.2.1) (N := r.2.2) hg h4 (hg _ hi)
  exact ⟨(cC, iS), fun q hq => by rw [h1] at hq; cases hq; exact h⟩
theorem ar_prim {s : State} {args : Array Value} {t : FieldType} (h : (Cond.arrayClass t).before args s = true) : ∃ cA : ClassId, ArrOfT s cA t ∧ s.vm.findClass ("[" ++ t.toString) = some cA := by
  obtain ⟨cA, kA, comp, h1, h2, h3⟩ := Cond.arrayClass_spec h
  exact ⟨cA, fun n z => ⟨fun k h => (by cases h), kA, h2, comp, h3⟩, h1⟩
theorem ar_obj {s : State} {args : Array Value} {C : String} (h : (Cond.arrayOver (.object C)).before args s = true) : ∃ cA : ClassId, ArrOfT s cA (.object C) ∧ va_RA s cA (.object C) := by
  obtain ⟨comp, c, k, h1, h2, h3, h4, h5⟩ := Cond.arrayOver_spec h
  exact ⟨c, fun n z => ⟨fun k h => (by cases h), k, h3, comp, h4⟩, k, comp, h3, h4, h1, h5⟩
theorem ar_arr {s : State} {args : Array Value} {t : FieldType} (h : (Cond.arrayOver (.array t)).before args s = true) : ∃ cA : ClassId, ArrOfT s cA (.array t) ∧ s.vm.findClass ("[" ++ (FieldType.array t).toString) = some cA := by
  obtain ⟨comp, c, k, h1, h2, h3, h4⟩ := Cond.arrayOver_specA h
  exact ⟨c, fun n z => ⟨fun k h => (by cases h), k, h2, comp, h3⟩, h4⟩
theorem st_of {s : State} {args : Array Value} {own tx : String} {k : Nat} (h1 : (Cond.stringRef own k tx).before args s = true) (h2 : (Cond.exactly (.string own k) "java/lang/String").before args s = true) : ∃ a : Nat, vk_R own k tx a s := by
  obtain ⟨a, c, cell, k, h3, -⟩ := Cond.exactly_spec h2
  exact ⟨a, vk_R.of h1 h3⟩
def arF (c1 c3 c4 c5 c6 c7 c8 : ClassId) : Nat → ClassId
  | 8 => c8 | 3 => c3 | 4 => c4 | 5 => c5 | 6 => c6 | 7 => c7 | _ => c1
theorem lw_K {p : Program} {s : State} {m : MethodId} {meth : Method} {c : Code} {b L : Nat} {xs : Nat → Int32} (C0 : lw_At p s m meth c b L xs) : ∃ G : gG, G.2.2 = s.heap ∧ wK G s ∧ scr G b L xs := by
  obtain ⟨hx, hb, hr, hml, hown, hts, hX, hbl, hlocks, hgv⟩ := C0
  have hg : ∀ w ∈ lw_good, w.before #[Value.ref b] s = true := fun w hw => hts w (List.mem_filter.mp hw).1
  have hn := flat_of_before _ hgv
  have hcl : ∀ ci : Nat, ∃ z : ClassId × (Nat → Nat), ∀ q : vw_C, vwCl[ci]? = some q → u_Kn s q.1 q.2.1 q.2.2 z.1 z.2 := by
    intro ci
    match ci with
    | 0 => exact kn_of hg cf_0 nw_X8_9.2.1
    | 1 => exact kn_of hg cf_1 nw_X0_44.2.1
    | 2 => exact kn_of hg cf_2 nw_X8_15.2.1
    | 3 => exact kn_of hg cf_3 nw_X8_124.2.1
    | 4 => exact kn_of hg cf_4 nw_X8_27.2.1
    | 5 => exact kn_of hg cf_5 nw_X0_37.2.1
    | 6 => exact kn_of hg cf_6 nw_X8_21.2.1
    | 7 => exact kn_of hg cf_7 nw_X8_75.2.1
    | 8 => exact kn_of hg cf_8 nw_L_11.2.1
    | ci + 9 => exact ⟨(0, fun _ => 0), fun q hq => by simp [vwCl] at hq⟩
  obtain ⟨c1, a1, b1⟩ := ar_prim (hts (Cond.arrayClass FieldType.int) (List.mem_of_getElem? (i := 87) (by decide +kernel)))
  obtain ⟨cell, x1, x2, x3, x4, x5⟩ := hX
  have a8 : ArrOfT s cell.cls .int := fun n z => ⟨fun k h => (by cases h), x2.2⟩
  obtain ⟨c3, a3, b3⟩ := ar_prim (hts (Cond.arrayClass FieldType.long) (List.mem_of_getElem? (i := 88) (by decide +kernel)))
  have o4 := (hts (Cond.arrayOver (FieldType.object "FosterHouse$Child")) (List.mem_of_getElem? (i := 45) (by decide +kernel)))
  have o5 := (hts (Cond.arrayOver (FieldType.object "FosterHouse$Home")) (List.mem_of_getElem? (i := 47) (by decide +kernel)))
  have o6 := (hts (Cond.arrayOver (FieldType.object "FosterHouse$Stay")) (List.mem_of_getElem? (i := 49) (by decide +kernel)))
  have o7 := (hts (Cond.arrayOver (FieldType.array FieldType.int)) (List.mem_of_getElem? (i := 58) (by decide +kernel)))
  obtain ⟨c4, a4, b4⟩ := ar_obj o4
  obtain ⟨c5, a5, b5⟩ := ar_obj o5
  obtain ⟨c6, a6, b6⟩ := ar_obj o6
  obtain ⟨c7, a7, b7⟩ := ar_arr o7
  have hA : ∀ a : Nat, a < s.heap.size → ¬ s.heap.size ≤ a := fun a ha => Nat.not_le.mpr ha
  refine ⟨((fun ci => (Classical.choose (hcl ci)).1, fun ci => (Classical.choose (hcl ci)).2), arF c1 c3 c4 c5 c6 c7 cell.cls, s.heap), rfl, ⟨⟨fun ci q hq => Classical.choose_spec (hcl ci) q hq, fun k q hq => ?_⟩, ⟨o4, o5, o6, o7⟩, ⟨?_, ?_⟩, ?_, ?_, ?_⟩, ?_⟩
  · match k with
    | 0 => cases hq; exact ⟨a1, b1⟩
    | 1 => cases hq; exact ⟨a1, b1⟩
    | 2 => cases hq; exact ⟨a1, b1⟩
    | 3 => cases hq; exact ⟨a3, b3⟩
    | 4 => cases hq; exact ⟨a4, b4⟩
    | 5 => cases hq; exact ⟨a5, b5⟩
    | 6 => cases hq; exact ⟨a6, b6⟩
    | 7 => cases hq; exact ⟨a7, b7⟩
    | k + 8 => simp [tysA] at hq
  · exact vx_Zqof (hts (Cond.laysStatic "java/lang/Throwable" "UNASSIGNED_STACK" "[Ljava/lang/StackTraceElement;") (List.mem_of_getElem? (i := 165) (by decide +kernel))) (hts (Cond.initialized "java/lang/Throwable") (List.mem_of_getElem? (i := 21) (by decide +kernel))) (hn (.isRef (.static "java/lang/Throwable" "UNASSIGNED_STACK" "[Ljava/lang/StackTraceElement;")) (by decide +kernel)) hA
  · exact vx_Zqof (hts (Cond.laysStatic "java/lang/Throwable" "SUPPRESSED_SENTINEL" "Ljava/util/List;") (List.mem_of_getElem? (i := 167) (by decide +kernel))) (hts (Cond.initialized "java/lang/Throwable") (List.mem_of_getElem? (i := 21) (by decide +kernel))) (hn (.isRef (.static "java/lang/Throwable" "SUPPRESSED_SENTINEL" "Ljava/util/List;")) (by decide +kernel)) hA
  · have r0 : (Term.elem (.static "FosterHouse$Plan" "RANKS" "[I") (.int 0)).eval #[Value.ref b] s none [] s = some (.int 14641) := va_eqt (hn (.eq (.elem (.static "FosterHouse$Plan" "RANKS" "[I") (.int 0)) (.int 14641)) (by decide +kernel))
    have r1 : (Term.elem (.static "FosterHouse$Plan" "RANKS" "[I") (.int 1)).eval #[Value.ref b] s none [] s = some (.int 1331) := va_eqt (hn (.eq (.elem (.static "FosterHouse$Plan" "RANKS" "[I") (.int 1)) (.int 1331)) (by decide +kernel))
    have r2 : (Term.elem (.static "FosterHouse$Plan" "RANKS" "[I") (.int 2)).eval #[Value.ref b] s none [] s = some (.int 121) := va_eqt (hn (.eq (.elem (.static "FosterHouse$Plan" "RANKS" "[I") (.int 2)) (.int 121)) (by decide +kernel))
    have r3 : (Term.elem (.static "FosterHouse$Plan" "RANKS" "[I") (.int 3)).eval #[Value.ref b] s none [] s = some (.int 11) := va_eqt (hn (.eq (.elem (.static "FosterHouse$Plan" "RANKS" "[I") (.int 3)) (.int 11)) (by decide +kernel))
    have r4 : (Term.elem (.static "FosterHouse$Plan" "RANKS" "[I") (.int 4)).eval #[Value.ref b] s none [] s = some (.int 1) := va_eqt (hn (.eq (.elem (.static "FosterHouse$Plan" "RANKS" "[I") (.int 4)) (.int 1)) (by decide +kernel))
    obtain ⟨t, ht, hT⟩ := va_Tof (A := fun q : Nat => s.heap.size ≤ q) (tm := .static "FosterHouse$Plan" "RANKS" "[I") (ty := .int) (N := 5) (f := fun j => .int ([14641, 1331, 121, 11, 1].getD j 0)) (by decide) (hn (.arrayOf (.static "FosterHouse$Plan" "RANKS" "[I") .int) (by decide +kernel)) (va_eqt (hn (.eq (.length (.static "FosterHouse$Plan" "RANKS" "[I")) (.int 5)) (by decide +kernel))) (fun j hj => by
      match j, hj with
      | 0, _ => exact r0
      | 1, _ => exact r1
      | 2, _ => exact r2
      | 3, _ => exact r3
      | 4, _ => exact r4
      | j + 5, hj => exact absurd hj (by omega)) hA
    exact ⟨⟨t, va_Zof (hts (Cond.laysStatic "FosterHouse$Plan" "RANKS" "[I") (List.mem_of_getElem? (i := 773) (by decide +kernel))) (hts (Cond.initialized "FosterHouse$Plan") (List.mem_of_getElem? (i := 20) (by decide +kernel))) ht hA, hT⟩, a8⟩
  · exact List.forall_mem_cons.mpr ⟨st_of (hts (Cond.stringRef "FosterHouse" 275 "an argument is out of range") (List.mem_of_getElem? (i := 455) (by decide +kernel))) (hn (.exactly (.string "FosterHouse" 275) "java/lang/String") (by decide +kernel)), List.forall_mem_cons.mpr ⟨st_of (hts (Cond.stringRef "FosterHouse" 48 "there are as many children as can be") (List.mem_of_getElem? (i := 456) (by decide +kernel))) (hn (.exactly (.string "FosterHouse" 48) "java/lang/String") (by decide +kernel)), List.forall_mem_cons.mpr ⟨st_of (hts (Cond.stringRef "FosterHouse" 66 "there are as many homes as can be") (List.mem_of_getElem? (i := 587) (by decide +kernel))) (hn (.exactly (.string "FosterHouse" 66) "java/lang/String") (by decide +kernel)), List.forall_mem_cons.mpr ⟨st_of (hts (Cond.stringRef "FosterHouse" 281 "there is no such home") (List.mem_of_getElem? (i := 338) (by decide +kernel))) (hn (.exactly (.string "FosterHouse" 281) "java/lang/String") (by decide +kernel)), List.forall_mem_cons.mpr ⟨st_of (hts (Cond.stringRef "FosterHouse" 279 "there is no such child") (List.mem_of_getElem? (i := 179) (by decide +kernel))) (hn (.exactly (.string "FosterHouse" 279) "java/lang/String") (by decide +kernel)), List.forall_mem_cons.mpr ⟨st_of (hts (Cond.stringRef "FosterHouse" 103 "the child has as many reports as can be") (List.mem_of_getElem? (i := 856) (by decide +kernel))) (hn (.exactly (.string "FosterHouse" 103) "java/lang/String") (by decide +kernel)), List.forall_mem_cons.mpr ⟨st_of (hts (Cond.stringRef "FosterHouse" 122 "there are as many orders as can be") (List.mem_of_getElem? (i := 684) (by decide +kernel))) (hn (.exactly (.string "FosterHouse" 122) "java/lang/String") (by decide +kernel)), List.forall_mem_cons.mpr ⟨st_of (hts (Cond.stringRef "FosterHouse" 154 "the child is there or may not be placed there") (List.mem_of_getElem? (i := 845) (by decide +kernel))) (hn (.exactly (.string "FosterHouse" 154) "java/lang/String") (by decide +kernel)), List.forall_mem_cons.mpr ⟨st_of (hts (Cond.stringRef "FosterHouse" 341 "there are as many stays as can be") (List.mem_of_getElem? (i := 800) (by decide +kernel))) (hn (.exactly (.string "FosterHouse" 341) "java/lang/String") (by decide +kernel)), List.forall_mem_cons.mpr ⟨st_of (hts (Cond.stringRef "FosterHouse" 367 "more children are to be placed than can be at once") (List.mem_of_getElem? (i := 752) (by decide +kernel))) (hn (.exactly (.string "FosterHouse" 367) "java/lang/String") (by decide +kernel)), List.forall_mem_cons.mpr ⟨st_of (hts (Cond.stringRef "FosterHouse" 169 "there would be more stays than can be") (List.mem_of_getElem? (i := 787) (by decide +kernel))) (hn (.exactly (.string "FosterHouse" 169) "java/lang/String") (by decide +kernel)), List.forall_mem_cons.mpr ⟨st_of (hts (Cond.stringRef "FosterHouse" 190 "the child is in no home") (List.mem_of_getElem? (i := 897) (by decide +kernel))) (hn (.exactly (.string "FosterHouse" 190) "java/lang/String") (by decide +kernel)), List.forall_mem_cons.mpr ⟨st_of (hts (Cond.stringRef "FosterHouse" 277 "there is no such worker") (List.mem_of_getElem? (i := 432) (by decide +kernel))) (hn (.exactly (.string "FosterHouse" 277) "java/lang/String") (by decide +kernel)), List.forall_mem_cons.mpr ⟨st_of (hts (Cond.stringRef "FosterHouse" 213 "the day would be too late") (List.mem_of_getElem? (i := 920) (by decide +kernel))) (hn (.exactly (.string "FosterHouse" 213) "java/lang/String") (by decide +kernel)), List.forall_mem_cons.mpr ⟨st_of (hts (Cond.stringRef "FosterHouse" 238 "nothing of that kind is told of a child") (List.mem_of_getElem? (i := 219) (by decide +kernel))) (hn (.exactly (.string "FosterHouse" 238) "java/lang/String") (by decide +kernel)), List.forall_mem_cons.mpr ⟨st_of (hts (Cond.stringRef "FosterHouse" 283 "there is no such stay") (List.mem_of_getElem? (i := 386) (by decide +kernel))) (hn (.exactly (.string "FosterHouse" 283) "java/lang/String") (by decide +kernel)), List.forall_mem_cons.mpr ⟨st_of (hts (Cond.stringRef "FosterHouse" 259 "nothing of that kind is told of a stay") (List.mem_of_getElem? (i := 387) (by decide +kernel))) (hn (.exactly (.string "FosterHouse" 259) "java/lang/String") (by decide +kernel)), List.forall_mem_cons.mpr ⟨st_of (hts (Cond.stringRef "FosterHouse" 270 "there is no such place in a file") (List.mem_of_getElem? (i := 354) (by decide +kernel))) (hn (.exactly (.string "FosterHouse" 270) "java/lang/String") (by decide +kernel)), List.forall_mem_cons.mpr ⟨st_of (hts (Cond.stringRef "FosterHouse" 273 "the file is sealed") (List.mem_of_getElem? (i := 364) (by decide +kernel))) (hn (.exactly (.string "FosterHouse" 273) "java/lang/String") (by decide +kernel)), fun _ h => absurd h List.not_mem_nil⟩⟩⟩⟩⟩⟩⟩⟩⟩⟩⟩⟩⟩⟩⟩⟩⟩⟩⟩
  · refine ⟨⟨List.forall_mem_cons.mpr ⟨va_Nw.of rfl (hts (Cond.castable "java/lang/IllegalArgumentException" "java/lang/IllegalArgumentException") (List.mem_of_getElem? (i := 212) (by decide +kernel))), List.forall_mem_cons.mpr ⟨va_Nw.of rfl (hts (Cond.castable "java/lang/IllegalStateException" "java/lang/IllegalStateException") (List.mem_of_getElem? (i := 357) (by decide +kernel))), List.forall_mem_cons.mpr ⟨va_Nw.of rfl (hts (Cond.castable "java/lang/IndexOutOfBoundsException" "java/lang/IndexOutOfBoundsException") (List.mem_of_getElem? (i := 140) (by decide +kernel))), fun _ h => absurd h List.not_mem_nil⟩⟩⟩, List.forall_mem_cons.mpr ⟨va_Nw.of rfl (hts (Cond.declares ⟨"java/lang/RuntimeException", "<init>", "(Ljava/lang/String;)V"⟩) (List.mem_of_getElem? (i := 142) (by decide +kernel))), List.forall_mem_cons.mpr ⟨va_Nw.of rfl (hts (Cond.declares ⟨"java/lang/Exception", "<init>", "(Ljava/lang/String;)V"⟩) (List.mem_of_getElem? (i := 144) (by decide +kernel))), List.forall_mem_cons.mpr ⟨va_Nw.of rfl (hts (Cond.declares ⟨"java/lang/Throwable", "<init>", "(Ljava/lang/String;)V"⟩) (List.mem_of_getElem? (i := 146) (by decide +kernel))), fun _ h => absurd h List.not_mem_nil⟩⟩⟩⟩, List.forall_mem_cons.mpr ⟨List.forall_mem_cons.mpr ⟨fun z => absurd rfl z, List.forall_mem_cons.mpr ⟨fun _ => va_Nc.of (hn (.not (.castable "java/lang/IllegalArgumentException" "java/lang/IllegalStateException")) (by decide +kernel)), List.forall_mem_cons.mpr ⟨fun _ => va_Nc.of (hn (.not (.castable "java/lang/IllegalArgumentException" "java/lang/IndexOutOfBoundsException")) (by decide +kernel)), fun _ h => absurd h List.not_mem_nil⟩⟩⟩, List.forall_mem_cons.mpr ⟨List.forall_mem_cons.mpr ⟨fun _ => va_Nc.of (hn (.not (.castable "java/lang/IllegalStateException" "java/lang/IllegalArgumentException")) (by decide +kernel)), List.forall_mem_cons.mpr ⟨fun z => absurd rfl z, List.forall_mem_cons.mpr ⟨fun _ => va_Nc.of (hn (.not (.castable "java/lang/IllegalStateException" "java/lang/IndexOutOfBoundsException")) (by decide +kernel)), fun _ h => absurd h List.not_mem_nil⟩⟩⟩, List.forall_mem_cons.mpr ⟨List.forall_mem_cons.mpr ⟨fun _ => va_Nc.of (hn (.not (.castable "java/lang/IndexOutOfBoundsException" "java/lang/IllegalArgumentException")) (by decide +kernel)), List.forall_mem_cons.mpr ⟨fun _ => va_Nc.of (hn (.not (.castable "java/lang/IndexOutOfBoundsException" "java/lang/IllegalStateException")) (by decide +kernel)), List.forall_mem_cons.mpr ⟨fun z => absurd rfl z, fun _ h => absurd h List.not_mem_nil⟩⟩⟩, fun _ h => absurd h List.not_mem_nil⟩⟩⟩, ?_⟩
    exact va_Nw.of rfl (hts (Cond.methodLinkNest "FosterHouse$Child" 46 ⟨"FosterHouse$Family", "<init>", "()V"⟩ "FosterHouse") (List.mem_of_getElem? (i := 495) (by decide +kernel)))
  · exact ⟨cell, x1, rfl, x2.1, x3, Nat.le_of_eq x4.symm, by rw [x4] <;> rfl, x5⟩
