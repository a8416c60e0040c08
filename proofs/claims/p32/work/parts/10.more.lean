/-! THROWS, HANDLERS, THE JDK'S NUMBERS, ARRAYS OF ARRAYS. -/
def nmT : List String := ["java/lang/RuntimeException", "java/lang/Exception"]
/-- what the tables say of 'throw new cls(text)' -/
def tW (own : String) (ik is ic : Nat) (cls text : String) : Prop := Cond.classLink own ik cls ∈ lw_good ∧ Cond.initialized cls ∈ lw_good ∧ (∀ w ∈ vx_atS own ic cls nmT, w = .castable cls cls ∨ w ∈ dcT ∨ w ∈ lw_good) ∧ (own, is, text) ∈ strT ∧ cls ∈ exT ∧ Bundle.fit cls = true
theorem nmT_fit : ∀ n ∈ nmT, Bundle.fit n = true := by decide +kernel
section VM
variable {X : xX} {G : gG} {own : String} {cc : ByteArray} {nL : Nat} {ret : Option FieldType} {rm : Room} {tb : List ExceptionTableEntry} {Q : State → Prop} {k n pc : Nat} {lo : lO} {st : List Value} {S : sS}
variable {Pr : Option Value → sS → Prop} {Px : String → sS → Prop} {K N : Nat}
theorem wW_grow {H H' : Heap} (hW : wW G S H) (h1 : H.size ≤ H'.size) (h2 : ∀ q : Nat, q < H.size → H'[q]? = H[q]?) : wW G S H' :=
  ⟨Nat.le_trans hW.1 h1, fun q hq => by rw [h2 q (Nat.lt_of_lt_of_le hq hW.1)]; exact hW.2.1 q hq, fun a ha => ⟨(hW.2.2 a ha).1, (hW.2.2 a ha).2.kept (h2 a (hW.2.2 a ha).2.lt)⟩⟩
theorem tW_at (C : Cx X G own cc nL ret rm tb) {ik is ic : Nat} {cls text : String} (hT : tW own ik is ic cls text) : (∀ w ∈ vx_atS own ic cls nmT, w.before X.2.2.2.2.2.2.1 X.2.2.2.2.1 = true) ∧ ∀ w ∈ Cond.classLink own ik cls :: Cond.initialized cls :: vx_atS own ic cls nmT, vx_ot w = true := by
  obtain ⟨t1, t2, t3, t4, t5, t6⟩ := hT
  have hg : ∀ w ∈ lw_good, vx_ot w = true := fun w hw => by
    unfold vx_ot
    rw [lg_good w hw, Bool.or_true]
  refine ⟨fun w hw => ?_, fun w hw => ?_⟩
  · rcases t3 w hw with rfl | h | h
    · exact va_Nw.use rfl (C.2.2.2.2.2.1.2.2.2.2.2.1.1 _ t5)
    · have h9 := C.2.2.2.2.2.1.2.2.2.2.2.1.2 w h
      simp only [dcT, List.mem_cons, List.not_mem_nil, or_false] at h
      rcases h with rfl | rfl | rfl <;> exact va_Nw.use rfl h9
    · exact C.2.2.2.2.1 _ h
  · rcases List.mem_cons.mp hw with rfl | hw
    · exact hg _ t1
    · rcases List.mem_cons.mp hw with rfl | hw
      · exact hg _ t2
      · rcases t3 w hw with rfl | h | h
        · rfl
        · simp only [dcT, List.mem_cons, List.not_mem_nil, or_false] at h
          rcases h with rfl | rfl | rfl <;> rfl
        · exact hg _ h
theorem stk_size {p : Program} {l : Launch} {e : Env} {R : Room} {s : State} {m : MethodId} {args : Array Value} {below : List Frame} {meth : Method} {c : Code} {T : State} {locs : List Loc} {k n : Nat} (Y : Stand p l e R s m args below meth c T locs k n) : s.heap.size ≤ T.heap.size := Y.same.2.1
theorem hS_ok (C : Cx X G own cc nL ret rm tb) {H : Heap} {locs : List Loc} (hW : wW G S H) (hf : ∀ z ∈ locs, wB G ≤ z.base) (hz : X.2.2.2.2.1.heap.size ≤ H.size) : va_S (wN G) X.2.2.2.2.1.heap H locs :=
  ⟨hz, fun q _ hq => by
    have hq' : q < wB G := Nat.not_le.mp hq
    rw [hW.2.1 q hq', C.2.2.2.2.2.2.1.2 q hq'], hf⟩
theorem zq_ok (C : Cx X G own cc nL ret rm tb) {c9 n9 d9 : String} (h : vx_Zq c9 n9 d9 (wN G) X.2.2.2.2.1 G.2.2) : vx_Zq c9 n9 d9 (wN G) X.2.2.2.2.1 X.2.2.2.2.1.heap := h.kept fun a ha _ => C.2.2.2.2.2.2.1.2 a ha
theorem V_throwS (C : Cx X G own cc nL ret rm []) {ik is ic : Nat} {cls text : String} (hT : tW own ik is ic cls text)
    (d0 : decode cc pc = .ok (.new ik, 3)) (d3 : decode cc (pc + 3) = .ok (.dup, 1)) (d4 : decode cc (pc + 4) = .ok (.ldc is, 2)) (d6 : decode cc (pc + 6) = .ok (.invokespecial ic, 3)) (d9 : decode cc (pc + 9) = .ok (.athrow, 1))
    (hR : 5 < rm.frames ∧ (st.map fun v => v.category).sum + 82 ≤ rm.locals ∧ K ≤ rm.cells ∧ N ≤ rm.slots) (hc : k + 1 ≤ K) (hs : n + 6 ≤ N) (hp : Px cls S) : V X G nL (eQ X G Pr Px K N) k n pc lo st S := by
  intro H ls locs hW hl hf T hTH Y
  have hRm := C.2.2.2.2.2.2.2.2.2.2.1
  have hz : X.2.2.2.2.1.heap.size ≤ H.size := by rw [← hTH]; exact stk_size Y
  obtain ⟨g1, g2⟩ := tW_at C hT
  obtain ⟨t1, t2, t3, t4, t5, t6⟩ := hT
  obtain ⟨sa, hsa⟩ := C.2.2.2.2.2.1.2.2.2.2.1 _ t4
  exact vx_throwS (names := nmT) (A := wN G) C.1 C.2.1 C.2.2.2.2.2.2.2.1 C.2.2.2.1 t6 nmT_fit (C.2.2.2.2.1 _ t1) (C.2.2.2.2.1 _ t2) hsa g1 g2 (zq_ok C C.2.2.2.2.2.1.2.2.1.1) (zq_ok C C.2.2.2.2.2.1.2.2.1.2) (hS_ok C hW hf hz) (hl.1.trans C.2.2.1.symm) d0 d3 d4 d6 d9
    (fun x hx => by rw [C.2.2.2.2.2.2.2.2.2.2.2] at hx; cases hx) (by rw [hRm]; exact hR.1) (by rw [hRm]; exact hR.2.1) (by rw [hRm]; omega) (by rw [hRm]; omega) C.2.2.2.2.2.2.2.2.1
    (fun t _ h1 h2 => ⟨S, hp, wW_grow hW h1 h2⟩) hf hc hs T hTH Y
theorem V_throwSW (C : Cx X G own cc nL ret rm []) {ik is ic : Nat} {cls text : String} (hT : tW own ik is ic cls text)
    (d0 : decode cc pc = .ok (.new ik, 3)) (d3 : decode cc (pc + 3) = .ok (.dup, 1)) (d4 : decode cc (pc + 4) = .ok (.ldc_w is, 3)) (d7 : decode cc (pc + 7) = .ok (.invokespecial ic, 3)) (d10 : decode cc (pc + 10) = .ok (.athrow, 1))
    (hR : 5 < rm.frames ∧ (st.map fun v => v.category).sum + 82 ≤ rm.locals ∧ K ≤ rm.cells ∧ N ≤ rm.slots) (hc : k + 1 ≤ K) (hs : n + 6 ≤ N) (hp : Px cls S) : V X G nL (eQ X G Pr Px K N) k n pc lo st S := by
  intro H ls locs hW hl hf T hTH Y
  have hRm := C.2.2.2.2.2.2.2.2.2.2.1
  have hz : X.2.2.2.2.1.heap.size ≤ H.size := by rw [← hTH]; exact stk_size Y
  obtain ⟨g1, g2⟩ := tW_at C hT
  obtain ⟨t1, t2, t3, t4, t5, t6⟩ := hT
  obtain ⟨sa, hsa⟩ := C.2.2.2.2.2.1.2.2.2.2.1 _ t4
  exact vx_throwSW (names := nmT) (A := wN G) C.1 C.2.1 C.2.2.2.2.2.2.2.1 C.2.2.2.1 t6 nmT_fit (C.2.2.2.2.1 _ t1) (C.2.2.2.2.1 _ t2) hsa g1 g2 (zq_ok C C.2.2.2.2.2.1.2.2.1.1) (zq_ok C C.2.2.2.2.2.1.2.2.1.2) (hS_ok C hW hf hz) (hl.1.trans C.2.2.1.symm) d0 d3 d4 d7 d10
    (fun x hx => by rw [C.2.2.2.2.2.2.2.2.2.2.2] at hx; cases hx) (by rw [hRm]; exact hR.1) (by rw [hRm]; exact hR.2.1) (by rw [hRm]; omega) (by rw [hRm]; omega) C.2.2.2.2.2.2.2.2.1
    (fun t _ h1 h2 => ⟨S, hp, wW_grow hW h1 h2⟩) hf hc hs T hTH Y
/-- caught by the entry x; those ahead name other exceptions -/
theorem VX_catch {hh : List (Nat × Nat × Nat × Nat)} (C : Cx X G own cc nL ret rm (tableOf hh)) {E : String} (pre : List (Nat × Nat × Nat × Nat)) (x : Nat × Nat × Nat × Nat) (suf : List (Nat × Nat × Nat × Nat)) (hsp : hh = pre ++ x :: suf)
    (hpass : ∀ z ∈ pre, z.2.2.2 ≠ 0 ∧ ∃ F, F ∈ exT ∧ E ≠ F ∧ Cond.classLink own z.2.2.2 F ∈ lw_good) (hcov : covers ⟨x.1, x.2.1, x.2.2.1, x.2.2.2⟩ pc = true) (h0 : x.2.2.2 ≠ 0) (hlink : Cond.classLink own x.2.2.2 E ∈ lw_good) (hE : E ∈ exT)
    (kk : ∀ q : Nat, V X G nL Q k n x.2.2.1 lo [.ref q] S) : VX X G nL Q k n pc lo st S E := by
  intro H ls locs q ce hW hl hf hc hv hcl
  have hX := C.2.2.2.2.2.1.2.2.2.2.2
  refine vx_catch (own := own) (name := E) (E := E) C.2.2.2.1 (tableOf pre) ⟨x.1, x.2.1, x.2.2.1, x.2.2.2⟩ (tableOf suf) (by rw [C.2.2.2.2.2.2.2.2.2.2.2, hsp]; simp [tableOf]) ?_ hcov h0 (C.2.2.2.2.1 _ hlink) (va_Nw.use rfl (hX.1.1 E hE)) hc hv hcl (kk q H ls locs hW hl hf)
  intro z hz
  obtain ⟨z9, hz9, rfl⟩ := List.mem_map.mp hz
  obtain ⟨a1, F, a2, a3, a4⟩ := hpass z9 hz9
  exact Or.inr ⟨a1, F, C.2.2.2.2.1 _ a4, hX.2.1 E hE F a2 a3⟩
/-- a contract of a method with a table, that never throws -/
def Ch (l : Launch) (G : gG) (y : MethodName) (cc : ByteArray) (mL : Nat) (ret : Option FieldType) (hh : List (Nat × Nat × Nat × Nat)) (d k n : Nat) (av : List Value) (S : sS) (Pr : Option Value → sS → Prop) : Prop :=
  Met l y (Cond.codeWith y cc mL ret hh :: lw_good) (rmD d k n) (cP G av S) (cQ G Pr) k n (wN G)
theorem Ch_of {l : Launch} {y : MethodName} {mL : Nat} {hh : List (Nat × Nat × Nat × Nat)} {d : Nat} {av : List Value}
    (hy : plainName y.cls = true) (hav : ∀ v ∈ av, v.category = 1) (hlen : av.length ≤ mL) (hl : l.stackTraces = false)
    (body : ∀ X : xX, Cx X G y.cls cc mL ret (rmD d k n) (tableOf hh) → X.2.1 = l → V X G mL (eQ X G Pr (fun _ _ => False) k n) 0 0 0 (lArgs 0 av) [] S) : Ch l G y cc mL ret hh d k n av S Pr := by
  have h : vx_Met l y (Cond.codeWith y cc mL ret hh :: lw_good) (rmD d k n) (cP G av S) (cQ G Pr) (cX G (fun _ _ => False)) k n (wN G) := by
    refine vx_ofWH (cc := cc) (maxL := mL) (ret := ret) (hh := hh) hy rfl ?_
    intro p e s m args below meth c s₁ B hml hP
    obtain ⟨rfl, hW, hKn⟩ := hP
    have hts : ∀ w ∈ Cond.codeWith y cc mL ret hh :: lw_good, w.before av.toArray s = true := atoms_spec B.pre
    have C : Cx (p, l, e, (headSpec (Cond.codeWith y cc mL ret hh :: lw_good) (rmD d k n)).room, s, m, av.toArray, below, meth, c) G y.cls cc mL ret (rmD d k n) (tableOf hh) :=
      ⟨B.exec, B.bytes, hml, findClass_of_methodNamed B.named, fun w hw => hts w (List.mem_cons_of_mem _ hw), hKn, ⟨hW.1, hW.2.1⟩, hl, B.notSynchronized, B.returns, rfl, vx_table (x := y) B (hts _ List.mem_cons_self)⟩
    rw [lg_entry_eq]
    exact body _ C rfl s.heap _ [] hW (lk_entry hav hlen) (fun z hz => nomatch hz)
  exact MetFree.mono h (fun _ _ h => h) (fun _ _ _ _ _ h => h) fun a s o t _ hq => by
    rcases hq with hq | ⟨q, -, E, ce, L, ⟨S', hf, -⟩, -⟩
    · exact hq
    · exact hf.elim
def kH (own : String) (idx : Nat) (y : MethodName) (cc : ByteArray) (mL : Nat) (ret : Option FieldType) (hh : List (Nat × Nat × Nat × Nat)) (np : Nat) : Prop :=
  Cond.methodLink own idx y ∈ lw_good ∧ Cond.static y ∈ lw_good ∧ Cond.initialized y.cls ∈ lw_good ∧ Cond.codeWith y cc mL ret hh ∈ lw_good ∧ (y.cls ≠ "java/lang/invoke/MethodHandle" ∧ y.cls ≠ "java/lang/invoke/VarHandle" ∧ (parseMethodDescriptor y.desc).map (fun d => d.parameters.length) = some np)
theorem V_callH (C : Cx X G own cc nL ret rm tb) {idx mL np d' k' n' : Nat} {y : MethodName} {c2 : ByteArray} {r2 : Option FieldType} {hh : List (Nat × Nat × Nat × Nat)} {As rest : List Value} (hM : Ch X.2.1 G y c2 mL r2 hh d' k' n' As S Pr) (hk : kH own idx y c2 mL r2 hh np)
    (hR : d' + 1 ≤ rm.frames ∧ 8 + (mL + 11) + 37 * d' ≤ rm.locals) (hc : k + k' ≤ rm.cells ∧ n + n' ≤ rm.slots) (hn : As.length = np) (hst : st = As.reverse ++ rest) (h8 : (rest.map fun v => v.category).sum ≤ 8) (d : decode cc pc = .ok (.invokestatic idx, 3))
    (kr : ∀ (v : Option Value) (S' : sS), Pr v S' → V X G nL Q (k + k') (n + n') (pc + 3) lo (v.toList ++ rest) S') : V X G nL Q k n pc lo st S :=
  V_run0 (rest := rest) (a := As.toArray) (fun H ls locs hW hl => vx_runSW (fix_ok C) hM (vx_cwSW np C.2.2.2.2.1 (lg_all fun w hw => by
      rcases List.mem_append.mp (show w ∈ ([.methodLink own idx y, .static y, .initialized y.cls] : List Cond) ++ _ from hw) with h | h
      · simp only [List.mem_cons, List.not_mem_nil, or_false] at h
        rcases h with rfl | rfl | rfl
        · exact hk.1
        · exact hk.2.1
        · exact hk.2.2.1
      · rcases List.mem_cons.mp h with rfl | h
        · exact hk.2.2.2.1
        · exact h) rfl rfl rfl hk.2.2.2.2 (by rw [C.2.2.2.2.2.2.2.2.2.2.1]; exact hR)) ⟨fb_cP, pre_ok C hW⟩ rfl hn hl.1 hst (lv_room h8) d (by rw [C.2.2.2.2.2.2.2.2.2.2.1]; exact hc)) kr
/-- the private constructor of Family, called from its nest mate -/
theorem V_callIN (C : Cx X G RX0 cc nL ret rm tb) {mL d' k' n' b : Nat} {c2 : ByteArray} {rest : List Value} (hM : Ct X.2.1 G yX1_init c2 mL none d' k' n' [.ref b] S Pr (fun _ _ => False)) (hk1 : Cond.initialized yX1_init.cls ∈ lw_good) (hk2 : Cond.code yX1_init c2 mL none ∈ lw_good) (hk3 : Cond.instanceMethod yX1_init ∈ lw_good)
    (hR : d' + 1 ≤ rm.frames ∧ 8 + (mL + 11) + 37 * d' ≤ rm.locals) (hc : k + k' ≤ rm.cells ∧ n + n' ≤ rm.slots) (h8 : (rest.map fun v => v.category).sum ≤ 8) (d : decode cc pc = .ok (.invokespecial 46, 3))
    (kr : ∀ (v : Option Value) (S' : sS), Pr v S' → V X G nL Q (k + k') (n + n') (pc + 3) lo (v.toList ++ rest) S') : V X G nL Q k n pc lo (.ref b :: rest) S :=
  V_run0 (rest := rest) (a := [Value.ref b].toArray) (fun H ls locs hW hl => va_runIN (As := []) (fix_ok C) (Ct_met hM) ⟨va_cnB 0 C.2.2.2.2.1 (lg_code hk2) rfl rfl rfl C.2.2.2.2.2.1.2.2.2.2.2.2.2 (C.2.2.2.2.1 _ hk1) (by decide +kernel) (by rw [C.2.2.2.2.2.2.2.2.2.2.1]; exact hR), rfl, C.2.2.2.2.1 _ hk3⟩ ⟨fb_cP, pre_ok C hW⟩ rfl rfl hl.1 rfl (lv_room h8) d (by rw [C.2.2.2.2.2.2.2.2.2.2.1]; exact hc)) kr
def kJ (own : String) (idx : Nat) (y : MethodName) (cc : ByteArray) (mL : Nat) : Prop := Cond.methodLink own idx y ∈ lw_good ∧ Cond.static y ∈ lw_good ∧ Cond.initialized "java/lang/Math" ∈ lw_good ∧ Cond.code y cc mL (some .int) ∈ lw_good
theorem V_max (C : Cx X G own cc nL ret rm tb) {idx : Nat} {x y : Int32} (hk : kJ own idx Lib.Math.max.name Lib.Math.max.code 2) (hR : 1 ≤ rm.frames ∧ (st.map fun v => v.category).sum + 13 ≤ rm.locals ∧ k ≤ rm.cells ∧ n ≤ rm.slots) (d : decode cc pc = .ok (.invokestatic idx, 3)) (kk : V X G nL Q k n (pc + 3) lo (.int (if x < y then y else x) :: st) S) : V X G nL Q k n pc lo (.int y :: .int x :: st) S := fun H ls locs hW hl hf =>
  va_mmax C.1 C.2.1 (C.2.2.1.trans hl.1.symm) C.2.2.2.1 (C.2.2.2.2.1 _ hk.1) (C.2.2.2.2.1 _ hk.2.1) (C.2.2.2.2.1 _ hk.2.2.1) (C.2.2.2.2.1 _ hk.2.2.2) (by rw [C.2.2.2.2.2.2.2.2.2.2.1]; exact hR.1) (by rw [C.2.2.2.2.2.2.2.2.2.2.1]; exact hR.2.1) (by rw [C.2.2.2.2.2.2.2.2.2.2.1]; exact hR.2.2.1) (by rw [C.2.2.2.2.2.2.2.2.2.2.1]; exact hR.2.2.2) d (kk H ls locs hW hl hf)
theorem V_min (C : Cx X G own cc nL ret rm tb) {idx : Nat} {x y : Int32} (hk : kJ own idx Lib.Math.min.name Lib.Math.min.code 2) (hR : 1 ≤ rm.frames ∧ (st.map fun v => v.category).sum + 13 ≤ rm.locals ∧ k ≤ rm.cells ∧ n ≤ rm.slots) (d : decode cc pc = .ok (.invokestatic idx, 3)) (kk : V X G nL Q k n (pc + 3) lo (.int (if y < x then y else x) :: st) S) : V X G nL Q k n pc lo (.int y :: .int x :: st) S := fun H ls locs hW hl hf =>
  va_mmin C.1 C.2.1 (C.2.2.1.trans hl.1.symm) C.2.2.2.1 (C.2.2.2.2.1 _ hk.1) (C.2.2.2.2.1 _ hk.2.1) (C.2.2.2.2.1 _ hk.2.2.1) (C.2.2.2.2.1 _ hk.2.2.2) (by rw [C.2.2.2.2.2.2.2.2.2.2.1]; exact hR.1) (by rw [C.2.2.2.2.2.2.2.2.2.2.1]; exact hR.2.1) (by rw [C.2.2.2.2.2.2.2.2.2.2.1]; exact hR.2.2.1) (by rw [C.2.2.2.2.2.2.2.2.2.2.1]; exact hR.2.2.2) d (kk H ls locs hW hl hf)
theorem V_abs (C : Cx X G own cc nL ret rm tb) {idx : Nat} {x : Int32} (hk : kJ own idx Lib.Math.abs.name Lib.Math.abs.code 1) (hR : 1 ≤ rm.frames ∧ (st.map fun v => v.category).sum + 13 ≤ rm.locals ∧ k ≤ rm.cells ∧ n ≤ rm.slots) (d : decode cc pc = .ok (.invokestatic idx, 3)) (kk : V X G nL Q k n (pc + 3) lo (.int (if 0 ≤ x then x else 0 - x) :: st) S) : V X G nL Q k n pc lo (.int x :: st) S := fun H ls locs hW hl hf =>
  va_mabs C.1 C.2.1 (C.2.2.1.trans hl.1.symm) C.2.2.2.1 (C.2.2.2.2.1 _ hk.1) (C.2.2.2.2.1 _ hk.2.1) (C.2.2.2.2.1 _ hk.2.2.1) (C.2.2.2.2.1 _ hk.2.2.2) (by rw [C.2.2.2.2.2.2.2.2.2.2.1]; exact hR.1) (by rw [C.2.2.2.2.2.2.2.2.2.2.1]; exact hR.2.1) (by rw [C.2.2.2.2.2.2.2.2.2.2.1]; exact hR.2.2.1) (by rw [C.2.2.2.2.2.2.2.2.2.2.1]; exact hR.2.2.2) d (kk H ls locs hW hl hf)
/-- a new int[m1][m2]: the outer row at q (kind co), the inner ones behind it (kind ci) -/
def nM (S : sS) (co ci m1 m2 q : Nat) : sS := ((fun x => if x = q then co else if q < x ∧ x ≤ q + m1 then ci else sK S x), (fun x => if x = q then m1 else if q < x ∧ x ≤ q + m1 then m2 else sL S x), sI S, sR S, (fun x => if q < x ∧ x ≤ q + m1 then (fun _ => 0) else sA S x), sJ S, (fun x => if x = q then (fun i => if i < m1 then some (q + 1 + i) else none) else sQ S x))
theorem outer_arr (c : ClassId) (N h0 : Nat) : ∀ i : Nat, Jvm.Free.Multi.outerC c N h0 i = arrV c N (fun j => va_rf (if j < i then some (h0 + 1 + j) else none))
  | 0 => by
    refine (arrV_new c N .null).trans (congrArg (arrV c N) (funext fun j => ?_))
    rw [if_neg (Nat.not_lt_zero j)]
    rfl
  | i + 1 => by
    show (Jvm.Free.Multi.outerC c N h0 i).setSlot i (.ref (h0 + 1 + i)) = _
    rw [outer_arr c N h0 i, arrV_store]
    refine congrArg (arrV c N) (funext fun j => ?_)
    by_cases e : j = i
    · subst e
      simp only [updV, if_true]
      rw [if_pos (Nat.lt_succ_self j)]
      rfl
    · simp only [updV, if_neg e]
      by_cases h : j < i
      · rw [if_pos h, if_pos (Nat.lt_succ_of_lt h)]
      · rw [if_neg h, if_neg (by omega)]
theorem V_mna (C : Cx X G own cc nL ret rm tb) (co ci : Nat) {idx m1 m2 : Nat} {i j : Int32} (hw : Cond.classLink own idx "[[I" ∈ lw_good) (hw2 : Cond.arrayClass .int ∈ lw_good) (hco : 100 ≤ co ∧ co % 10 = 7) (hci : 100 ≤ ci ∧ ci % 10 = 1) (hi : ¬ i < 0) (hj : ¬ j < 0) (h1 : i.toNatClampNeg = m1) (h2 : j.toNatClampNeg = m2) (hb1 : m1 * 4 ≤ 536870912) (hb2 : m2 * 4 ≤ 536870912)
    (hcells : k + (1 + m1) ≤ rm.cells) (hslots : n + (m1 + m1 * m2) ≤ rm.slots) (d : decode cc pc = .ok (.multianewarray idx 2, 4))
    (kk : ∀ q : Nat, wB G ≤ q → (∀ x, q ≤ x → sK S x = 0) → V X G nL Q (k + 1 + m1) (n + m1 + m1 * m2) (pc + 4) lo (.ref q :: st) (nM S co ci m1 m2 q)) : V X G nL Q k n pc lo (.int j :: .int i :: st) S := by
  intro H ls locs hW hl hf T hTH Y
  subst h1; subst h2
  have hR := C.2.2.2.2.2.2.2.2.2.2.1
  have hK := C.2.2.2.2.2.1
  obtain ⟨vm₁, cA, comp, hWm, fA, fC, hO, -, X', step⟩ := Y.multianewarray2F C.1 C.2.2.2.1 (C.2.2.2.2.1 _ hw) (show (Cond.arrayOver (.array .int)).before _ _ = true from hK.2.1.2.2.2) (C.2.2.2.2.1 _ hw2) (g := F0 X.2.2.2.2.2.1 pc ls (.int j :: .int i :: st)) rfl (by rw [C.2.1]; exact d) rfl hi hj hb1 hb2 (by omega) rfl rfl (by rw [hR]; exact hcells) (by rw [hR]; exact hslots)
  have hRA7 : X.2.2.2.2.1.vm.findClass ("[" ++ (FieldType.array .int).toString) = some (G.2.1 7) := (wK_arr hK (j := 7) (by omega) (by omega)).2
  have hRA1 : X.2.2.2.2.1.vm.findClass ("[" ++ FieldType.int.toString) = some (G.2.1 1) := (wK_arr hK (j := 1) (by omega) (by omega)).2
  have ecA : cA = G.2.1 7 := Option.some.inj (fA.symm.trans hRA7)
  have eco : comp = G.2.1 1 := Option.some.inj (fC.symm.trans hRA1)
  subst ecA; subst eco
  obtain ⟨f1, f2, -, -⟩ := Jvm.Free.Multi.fill_facts (T.setVm vm₁) (G.2.1 7) (G.2.1 1) i.toNatClampNeg j.toNatClampNeg (defaultValue .int) i.toNatClampNeg
  have f3 : ∀ a, a < H.size → (Jvm.Free.Multi.fill (T.setVm vm₁) (G.2.1 7) (G.2.1 1) i.toNatClampNeg j.toNatClampNeg (defaultValue .int) i.toNatClampNeg).heap[a]? = H[a]? := fun a ha => by
    rw [Jvm.Free.Multi.fill_old (T.setVm vm₁) _ _ _ _ _ (show a < T.heap.size by rw [hTH]; exact ha)]
    show T.heap[a]? = _
    rw [hTH]
  have f4 := fun jj h => Jvm.Free.Multi.fill_inner (T.setVm vm₁) (G.2.1 7) (G.2.1 1) i.toNatClampNeg j.toNatClampNeg (defaultValue .int) i.toNatClampNeg jj h
  have eH : (T.setVm vm₁).heap = H := hTH
  rw [eH] at f1 f2 f4
  generalize Jvm.Free.Multi.fill (T.setVm vm₁) (G.2.1 7) (G.2.1 1) i.toNatClampNeg j.toNatClampNeg (defaultValue .int) i.toNatClampNeg = F at X' step f1 f2 f3 f4
  have hW' : wW G (nM S co ci i.toNatClampNeg j.toNatClampNeg H.size) F.heap := by
    refine ⟨by rw [f1]; have := hW.1; omega, fun q hq => by rw [f3 q (Nat.lt_of_lt_of_le hq hW.1)]; exact hW.2.1 q hq, fun a ha => ?_⟩
    by_cases e1 : a = H.size
    · subst e1
      have hk9 : sK (nM S co ci i.toNatClampNeg j.toNatClampNeg H.size) H.size = co := if_pos rfl
      refine ⟨hW.1, ?_⟩
      rw [wE_arr hk9 hco.1, hco.2]
      have eL : sL (nM S co ci i.toNatClampNeg j.toNatClampNeg H.size) H.size = i.toNatClampNeg := if_pos rfl
      have eQ : sQ (nM S co ci i.toNatClampNeg j.toNatClampNeg H.size) H.size = fun x => if x < i.toNatClampNeg then some (H.size + 1 + x) else none := if_pos rfl
      show F.heap[H.size]? = some (vp_cell _ (sL _ _, .inr (.inr (.inr (.inr (sQ _ _))))))
      rw [eL, eQ, vp_cell_q, f2, outer_arr]
    · by_cases e2 : H.size < a ∧ a ≤ H.size + i.toNatClampNeg
      · have hk9 : sK (nM S co ci i.toNatClampNeg j.toNatClampNeg H.size) a = ci := (if_neg e1).trans (if_pos e2)
        refine ⟨by have := hW.1; omega, ?_⟩
        rw [wE_arr hk9 hci.1, hci.2]
        have eL : sL (nM S co ci i.toNatClampNeg j.toNatClampNeg H.size) a = j.toNatClampNeg := (if_neg e1).trans (if_pos e2)
        have eA : sA (nM S co ci i.toNatClampNeg j.toNatClampNeg H.size) a = fun _ => 0 := if_pos e2
        show F.heap[a]? = some (vp_cell _ (sL _ _, .inl (sA _ _)))
        rw [eL, eA, vp_cell_i]
        have h9 := f4 (a - (H.size + 1)) (by omega)
        rw [show H.size + 1 + (a - (H.size + 1)) = a by omega] at h9
        rw [h9]
        exact congrArg some (arrV_new _ _ _)
      · have hk9 : sK (nM S co ci i.toNatClampNeg j.toNatClampNeg H.size) a = sK S a := (if_neg e1).trans (if_neg e2)
        rw [hk9] at ha
        obtain ⟨g1, g2⟩ := hW.2.2 a ha
        refine ⟨g1, ?_⟩
        rw [wE_eq (S := S) hk9 ((if_neg e1).trans (if_neg e2)) (fun _ => rfl) (fun _ => rfl) (if_neg e2) rfl (if_neg e1)]
        exact g2.kept (f3 a g2.lt)
  obtain ⟨t2, a1, b1⟩ := kk H.size hW.1 (wW_free hW) F.heap ls locs hW' hl hf F rfl X'
  refine ⟨t2, step t2 ?_, b1⟩
  rw [hTH]
  exact a1
end VM

