/-! CONTRACTS: from a store and its arguments a method returns or throws; what is answered and the store behind it. -/
def cQ (G : gG) (Pr : Option Value → sS → Prop) : Array Value → State → Outcome → State → Prop := fun _ _ o t => ∃ (v : Option Value) (S : sS), o = .returned v ∧ Pr v S ∧ wW G S t.heap
def cX (G : gG) (Px : String → sS → Prop) : String → State → State → Prop := fun E _ t => ∃ S : sS, Px E S ∧ wW G S t.heap
def cP (G : gG) (av : List Value) (S : sS) : Array Value → State → Prop := fun v U => v = av.toArray ∧ wW G S U.heap ∧ wK G U
def rmD (d k n : Nat) : Room := { frames := d, cells := k, slots := n, locals := 37 * d }
def Ct (l : Launch) (G : gG) (y : MethodName) (cc : ByteArray) (mL : Nat) (ret : Option FieldType) (d k n : Nat) (av : List Value) (S : sS) (Pr : Option Value → sS → Prop) (Px : String → sS → Prop) : Prop :=
  vx_Met l y (Cond.code y cc mL ret :: lw_good) (rmD d k n) (cP G av S) (cQ G Pr) (cX G Px) k n (wN G)
/-- what a body owes at its end -/
def eQ (X : xX) (G : gG) (Pr : Option Value → sS → Prop) (Px : String → sS → Prop) (K N : Nat) : State → Prop := vx_MQ X.2.2.2.2.2.2.2.1 (cQ G Pr) (cX G Px) X.2.2.2.2.2.2.1 X.2.2.2.2.1 K N (wN G)
def lArgs : Nat → List Value → lO
  | _, [] => []
  | i, v :: vs => (i, false, v) :: lArgs (i + 1) vs
theorem lArgs_in : ∀ (vs : List Value) (i : Nat), (∀ v ∈ vs, v.category = 1) → ∀ q ∈ lArgs i vs, (q.1, q.2.2) ∈ lv_args i vs ∧ q.2.2.category = 1
  | [], _, _ => fun q hq => nomatch hq
  | v :: vs, i, h => fun q hq => by
    have h1 := h v List.mem_cons_self
    unfold lv_args
    rw [if_neg (by omega)]
    rcases List.mem_cons.mp hq with rfl | hq
    · exact ⟨List.mem_cons_self, h1⟩
    · obtain ⟨g1, g2⟩ := lArgs_in vs (i + 1) (fun x hx => h x (List.mem_cons_of_mem _ hx)) q hq
      exact ⟨List.mem_cons_of_mem _ g1, g2⟩
theorem lg_sl_len : ∀ vs : List Value, (∀ v ∈ vs, v.category = 1) → (lg_sl vs).length = vs.length
  | [], _ => rfl
  | v :: vs, h => by
    have h1 := h v List.mem_cons_self
    have h2 := lg_sl_len vs fun x hx => h x (List.mem_cons_of_mem _ hx)
    have e : lg_sl (v :: vs) = .val v :: lg_sl vs := by
      unfold lg_sl
      rw [List.flatMap_cons, if_neg (by omega)]
      rfl
    rw [e, List.length_cons, h2, List.length_cons]
theorem lk_entry {vs : List Value} {nL : Nat} (h : ∀ v ∈ vs, v.category = 1) (hn : vs.length ≤ nL) : lk ((lg_sl vs ++ List.replicate (nL - (lg_sl vs).length) Slot.unset).toArray) nL (lArgs 0 vs) := by
  have h1 := lv_entry vs (n := nL) (by rw [lg_sl_len vs h]; exact hn)
  exact ⟨h1.1, h1.2.1, fun q hq => ⟨h1.2.2 _ (lArgs_in vs 0 h q hq).1, fun _ => (lArgs_in vs 0 h q hq).2⟩⟩
theorem fb_cP {G : gG} {av : List Value} {S : sS} : FrameBlind (cP G av S) := fun a U g mk ⟨h1, h2, h3⟩ => ⟨h1, h2, wK_mv (s := U) (U := U.calling g mk a) (State.WarmedH.refl U) h3⟩
theorem Ct_of {l : Launch} {G : gG} {y : MethodName} {cc : ByteArray} {mL : Nat} {ret : Option FieldType} {d k n : Nat} {av : List Value} {S : sS} {Pr : Option Value → sS → Prop} {Px : String → sS → Prop}
    (hy : plainName y.cls = true) (hav : ∀ v ∈ av, v.category = 1) (hlen : av.length ≤ mL) (hl : l.stackTraces = false)
    (body : ∀ X : xX, Cx X G y.cls cc mL ret (rmD d k n) [] → X.2.1 = l → X.2.2.2.2.2.2.2.2.1.name = y.name → V X G mL (eQ X G Pr Px k n) 0 0 0 (lArgs 0 av) [] S) : Ct l G y cc mL ret d k n av S Pr Px := by
  refine vx_ofW (cc := cc) (maxL := mL) (ret := ret) hy rfl ?_
  intro p e s m args below meth c s₁ B hml ht hP
  obtain ⟨rfl, hW, hKn⟩ := hP
  have hts : ∀ w ∈ Cond.code y cc mL ret :: lw_good, w.before av.toArray s = true := atoms_spec B.pre
  have C : Cx (p, l, e, (headSpec (Cond.code y cc mL ret :: lw_good) (rmD d k n)).room, s, m, av.toArray, below, meth, c) G y.cls cc mL ret (rmD d k n) [] :=
    ⟨B.exec, B.bytes, hml, findClass_of_methodNamed B.named, fun w hw => hts w (List.mem_cons_of_mem _ hw), hKn, ⟨hW.1, hW.2.1⟩, hl, B.notSynchronized, B.returns, rfl, List.eq_nil_iff_forall_not_mem.mpr ht⟩
  rw [lg_entry_eq]
  exact body _ C rfl (name_of_methodNamed B.named B.method).1 s.heap _ [] hW (lk_entry hav hlen) (fun z hz => nomatch hz)
section VC
variable {X : xX} {G : gG} {own : String} {cc : ByteArray} {nL : Nat} {ret : Option FieldType} {rm : Room} {tb : List ExceptionTableEntry} {Q : State → Prop} {k n pc : Nat} {lo : lO} {st : List Value} {S : sS}
variable {Pr : Option Value → sS → Prop} {Px : String → sS → Prop} {K N : Nat}
theorem V_zret {ty : FieldType} (C : Cx X G own cc nL (some ty) rm tb) {v : Int32} (hn : narrow ty (.int v) = .int v) (h1 : k ≤ K) (h2 : n ≤ N) (d : decode cc pc = .ok (.ireturn, 1)) (hp : Pr (some (.int v)) S) : V X G nL (eQ X G Pr Px K N) k n pc lo [.int v] S := fun H ls locs hW hl hf =>
  W.widen h1 h2 (vx_ret (W.zret C.1 C.2.1 C.2.2.2.2.2.2.2.2.2.1 hn (fun t ht _ => ⟨_, S, rfl, hp, by rw [ht]; exact hW⟩) hf d C.2.2.2.2.2.2.2.2.1))
theorem V_iret (C : Cx X G own cc nL (some .int) rm tb) {v : Int32} (h1 : k ≤ K) (h2 : n ≤ N) (d : decode cc pc = .ok (.ireturn, 1)) (hp : Pr (some (.int v)) S) : V X G nL (eQ X G Pr Px K N) k n pc lo [.int v] S := V_zret C rfl h1 h2 d hp
theorem V_lret (C : Cx X G own cc nL (some .long) rm tb) {v : Int64} (h1 : k ≤ K) (h2 : n ≤ N) (d : decode cc pc = .ok (.lreturn, 1)) (hp : Pr (some (.long v)) S) : V X G nL (eQ X G Pr Px K N) k n pc lo [.long v] S := fun H ls locs hW hl hf =>
  W.widen h1 h2 (vx_ret (W.lret C.1 C.2.1 C.2.2.2.2.2.2.2.2.2.1 (fun t ht _ => ⟨_, S, rfl, hp, by rw [ht]; exact hW⟩) hf d C.2.2.2.2.2.2.2.2.1))
theorem V_vret (C : Cx X G own cc nL none rm tb) (h1 : k ≤ K) (h2 : n ≤ N) (d : decode cc pc = .ok (.return_, 1)) (hp : Pr none S) : V X G nL (eQ X G Pr Px K N) k n pc lo [] S := fun H ls locs hW hl hf =>
  W.widen h1 h2 (vx_ret (W.vret C.1 C.2.1 C.2.2.2.2.2.2.2.2.2.1 (fun t ht _ => ⟨_, S, rfl, hp, by rw [ht]; exact hW⟩) hf d C.2.2.2.2.2.2.2.2.1))
theorem V_aret {ty : FieldType} (C : Cx X G own cc nL (some ty) rm tb) {v : Value} (hty : (∃ c, ty = .object c) ∨ ∃ t, ty = .array t) (hv : isR v) (h1 : k ≤ K) (h2 : n ≤ N) (d : decode cc pc = .ok (.areturn, 1)) (hp : Pr (some v) S) : V X G nL (eQ X G Pr Px K N) k n pc lo [v] S := fun H ls locs hW hl hf =>
  W.widen h1 h2 (vx_ret (W.aret C.1 C.2.1 C.2.2.2.2.2.2.2.2.2.1 hty hv (fun t ht _ => ⟨_, S, rfl, hp, by rw [ht]; exact hW⟩) hf d C.2.2.2.2.2.2.2.2.1))
/-- an exception of class E has been thrown over the frame -/
def VX (X : xX) (G : gG) (nL : Nat) (Q : State → Prop) (k n pc : Nat) (lo : lO) (st : List Value) (S : sS) (E : String) : Prop :=
  ∀ (H : Heap) (ls : Array Slot) (locs : List Loc) (q : Addr) (ce : Cell), wW G S H → lk ls nL lo → (∀ z ∈ locs, wB G ≤ z.base) → H[q]? = some ce → ce.vm = .none → X.2.2.2.2.1.vm.findClass E = some ce.cls →
    vx_W X.1 X.2.1 X.2.2.1 X.2.2.2.1 X.2.2.2.2.1 X.2.2.2.2.2.1 X.2.2.2.2.2.2.1 X.2.2.2.2.2.2.2.1 X.2.2.2.2.2.2.2.2.1 X.2.2.2.2.2.2.2.2.2 H locs k n Q (F0 X.2.2.2.2.2.1 pc ls st) q
theorem VX_out (C : Cx X G own cc nL ret rm []) {E : String} (h1 : k ≤ K) (h2 : n ≤ N) (hp : Px E S) : VX X G nL (eQ X G Pr Px K N) k n pc lo st S E := fun H ls locs q ce hW hl hf hc hv hE =>
  vx_out (fun x hx => by rw [C.2.2.2.2.2.2.2.2.2.2.2] at hx; cases hx) C.2.2.2.2.2.2.2.2.1 hc hv hE (fun t ht _ => ⟨S, hp, by rw [ht]; exact hW⟩) hf h1 h2
/-- what the tables say of a call -/
def kB (own : String) (idx : Nat) (y : MethodName) (cc : ByteArray) (mL : Nat) (ret : Option FieldType) (np : Nat) : Prop :=
  Cond.methodLink own idx y ∈ lw_good ∧ Cond.initialized y.cls ∈ lw_good ∧ Cond.code y cc mL ret ∈ lw_good ∧ (y.cls ≠ "java/lang/invoke/MethodHandle" ∧ y.cls ≠ "java/lang/invoke/VarHandle" ∧ (parseMethodDescriptor y.desc).map (fun d => d.parameters.length) = some np)
def kV (own : String) (idx : Nat) (y : MethodName) (cc : ByteArray) (mL : Nat) (ret : Option FieldType) (np : Nat) : Prop := kB own idx y cc mL ret np ∧ Cond.instanceMethod y ∈ lw_good ∧ Cond.selects y.cls y y ∈ lw_good
def kS (own : String) (idx : Nat) (y : MethodName) (cc : ByteArray) (mL : Nat) (ret : Option FieldType) (np : Nat) : Prop := kB own idx y cc mL ret np ∧ Cond.static y ∈ lw_good
def kI (own : String) (idx : Nat) (y : MethodName) (cc : ByteArray) (mL : Nat) (np : Nat) : Prop := kB own idx y cc mL none np ∧ Cond.instanceMethod y ∈ lw_good ∧ y.name = "<init>"
theorem kB_ok (C : Cx X G own cc nL ret rm tb) {idx mL np d' k' n' : Nat} {y : MethodName} {c2 : ByteArray} {r2 : Option FieldType} (h : kB own idx y c2 mL r2 np) (hR : d' + 1 ≤ rm.frames ∧ 8 + (mL + 11) + 37 * d' ≤ rm.locals) :
    CallB X.2.2.2.1 X.2.2.2.2.1 X.2.2.2.2.2.2.1 own idx y c2 mL r2 (Cond.code y c2 mL r2 :: lw_good) (rmD d' k' n') k' n' np :=
  callB_of np C.2.2.2.2.1 (lg_code h.2.2.1) rfl rfl rfl (C.2.2.2.2.1 _ h.2.1) (C.2.2.2.2.1 _ h.1) h.2.2.2 (by rw [C.2.2.2.2.2.2.2.2.2.2.1]; exact hR)
theorem fix_ok (C : Cx X G own cc nL ret rm tb) : CallFix X.1 X.2.2.2.2.2.1 X.2.2.2.2.2.2.2.2.2 cc nL X.2.2.2.2.1 X.2.2.2.2.2.2.1 lw_good own := ⟨C.1, C.2.1, C.2.2.1, C.2.2.2.1, C.2.2.2.2.1⟩
/-- behind a run that returns or throws -/
theorem V_run {k' n' : Nat} {rest : List Value} {a : Array Value}
    (hr : ∀ (H : Heap) (ls : Array Slot) (locs : List Loc), wW G S H → lk ls nL lo → vx_Run X.1 X.2.1 X.2.2.1 X.2.2.2.1 X.2.2.2.2.1 X.2.2.2.2.2.1 X.2.2.2.2.2.2.1 X.2.2.2.2.2.2.2.1 X.2.2.2.2.2.2.2.2.1 X.2.2.2.2.2.2.2.2.2 H locs k n k' n' (F0 X.2.2.2.2.2.1 pc ls st) rest (cQ G Pr a) (cX G Px) (wN G))
    (kr : ∀ (v : Option Value) (S' : sS), Pr v S' → V X G nL Q (k + k') (n + n') (pc + 3) lo (v.toList ++ rest) S')
    (kx : ∀ (E : String) (S' : sS), Px E S' → VX X G nL Q (k + k') (n + n') pc lo rest S' E) : V X G nL Q k n pc lo st S := by
  intro H ls locs hW hl hf T hT Y
  have hap : ∀ L : List Loc, (∀ q ∈ L, wN G q.base) → ∀ z ∈ locs ++ L, wB G ≤ z.base := fun L hL z hz => (List.mem_append.mp hz).elim (hf z) (hL z)
  rcases hr H ls locs hW hl T hT Y with ⟨v, st₀, t, T', L, h0, X', hL, e1, e2, ⟨v2, S', hv, hp, hW'⟩, stp⟩ | ⟨q, st₀, t, T', L, E, ce, h0, X', hL, e1, e2, ⟨S', hp, hW'⟩, hce, hcv, hcl, stp⟩
  · cases hv
    obtain ⟨t2, a1, b1⟩ := kr v S' hp T'.heap ls (locs ++ L) (by rw [e1]; exact hW') hl (hap L hL) T' rfl X'
    exact ⟨t2, stp t2 a1, b1⟩
  · obtain ⟨t2, a1, b1⟩ := kx E S' hp T'.heap ls (locs ++ L) q ce (by rw [e1]; exact hW') hl (hap L hL) (by rw [e1]; exact hce) hcv hcl T' rfl X'
    exact ⟨t2, stp.trans a1, b1⟩
theorem pre_ok (C : Cx X G own cc nL ret rm tb) {H : Heap} {av : List Value} (hW : wW G S H) : ∀ U : State, U.heap = H → X.2.2.2.2.1.WarmedH U.vm → cP G av S av.toArray U := fun U hU hw => ⟨rfl, by rw [hU]; exact hW, wK_mv hw C.2.2.2.2.2.1⟩
theorem V_callV (C : Cx X G own cc nL ret rm tb) {idx mL np d' k' n' ci b : Nat} {y : MethodName} {c2 : ByteArray} {r2 : Option FieldType} {As rest : List Value} (hM : Ct X.2.1 G y c2 mL r2 d' k' n' (.ref b :: As) S Pr Px) (hk : kV own idx y c2 mL r2 np) (hF : cF ci) (hci : ci < 50) (hcl : (vC ci).1 = y.cls) (hb : sK S b = ci + 1)
    (hR : d' + 1 ≤ rm.frames ∧ 8 + (mL + 11) + 37 * d' ≤ rm.locals) (hc : k + k' ≤ rm.cells ∧ n + n' ≤ rm.slots) (hn : As.length = np) (hst : st = As.reverse ++ .ref b :: rest) (h8 : (rest.map fun v => v.category).sum ≤ 8) (d : decode cc pc = .ok (.invokevirtual idx, 3))
    (kr : ∀ (v : Option Value) (S' : sS), Pr v S' → V X G nL Q (k + k') (n + n') (pc + 3) lo (v.toList ++ rest) S')
    (kx : ∀ (E : String) (S' : sS), Px E S' → VX X G nL Q (k + k') (n + n') pc lo rest S' E) : V X G nL Q k n pc lo st S := by
  refine V_run (rest := rest) (a := (Value.ref b :: As).toArray) (fun H ls locs hW hl => ?_) kr kx
  obtain ⟨r, h1, h2, -⟩ := hF
  have hrec := va_recv C.2.2.2.2.2.1.1 (wW_obj hW hb hci) h1 (q0 := 0) rfl
  rw [← h2, hcl] at hrec
  exact vx_runV (fix_ok C) hM ⟨kB_ok C hk.1 hR, C.2.2.2.2.1 _ hk.2.1, C.2.2.2.2.1 _ hk.2.2⟩ ⟨fb_cP, hrec, pre_ok C hW⟩ rfl hn hl.1 hst (lv_room h8) d (by rw [C.2.2.2.2.2.2.2.2.2.2.1]; exact hc)
theorem V_callS (C : Cx X G own cc nL ret rm tb) {idx mL np d' k' n' : Nat} {y : MethodName} {c2 : ByteArray} {r2 : Option FieldType} {As rest : List Value} (hM : Ct X.2.1 G y c2 mL r2 d' k' n' As S Pr Px) (hk : kS own idx y c2 mL r2 np)
    (hR : d' + 1 ≤ rm.frames ∧ 8 + (mL + 11) + 37 * d' ≤ rm.locals) (hc : k + k' ≤ rm.cells ∧ n + n' ≤ rm.slots) (hn : As.length = np) (hst : st = As.reverse ++ rest) (h8 : (rest.map fun v => v.category).sum ≤ 8) (d : decode cc pc = .ok (.invokestatic idx, 3))
    (kr : ∀ (v : Option Value) (S' : sS), Pr v S' → V X G nL Q (k + k') (n + n') (pc + 3) lo (v.toList ++ rest) S')
    (kx : ∀ (E : String) (S' : sS), Px E S' → VX X G nL Q (k + k') (n + n') pc lo rest S' E) : V X G nL Q k n pc lo st S :=
  V_run (rest := rest) (a := As.toArray) (fun H ls locs hW hl => vx_runS (fix_ok C) hM ⟨kB_ok C hk.1 hR, C.2.2.2.2.1 _ hk.2⟩ ⟨fb_cP, pre_ok C hW⟩ rfl hn hl.1 hst (lv_room h8) d (by rw [C.2.2.2.2.2.2.2.2.2.2.1]; exact hc)) kr kx
/-- a contract that never throws, in the kit's plain form -/
theorem Ct_met {l : Launch} {y : MethodName} {c2 : ByteArray} {mL d' k' n' : Nat} {r2 : Option FieldType} {av : List Value} (h : Ct l G y c2 mL r2 d' k' n' av S Pr (fun _ _ => False)) : Met l y (Cond.code y c2 mL r2 :: lw_good) (rmD d' k' n') (cP G av S) (cQ G Pr) k' n' (wN G) :=
  MetFree.mono h (fun _ _ h => h) (fun _ _ _ _ _ h => h) fun a s o t _ hq => by
    rcases hq with hq | ⟨q, -, E, ce, L, ⟨S', hf, -⟩, -⟩
    · exact hq
    · exact hf.elim
theorem V_run0 {k' n' : Nat} {rest : List Value} {a : Array Value}
    (hr : ∀ (H : Heap) (ls : Array Slot) (locs : List Loc), wW G S H → lk ls nL lo → va_Run X.1 X.2.1 X.2.2.1 X.2.2.2.1 X.2.2.2.2.1 X.2.2.2.2.2.1 X.2.2.2.2.2.2.1 X.2.2.2.2.2.2.2.1 X.2.2.2.2.2.2.2.2.1 X.2.2.2.2.2.2.2.2.2 H locs k n k' n' (F0 X.2.2.2.2.2.1 pc ls st) rest (cQ G Pr a) (wN G))
    (kr : ∀ (v : Option Value) (S' : sS), Pr v S' → V X G nL Q (k + k') (n + n') (pc + 3) lo (v.toList ++ rest) S') : V X G nL Q k n pc lo st S := by
  intro H ls locs hW hl hf T hT Y
  obtain ⟨v, st₀, t, T', L, h0, X', hL, e1, e2, ⟨v2, S', hv, hp, hW'⟩, stp⟩ := hr H ls locs hW hl T hT Y
  cases hv
  obtain ⟨t2, a1, b1⟩ := kr v S' hp T'.heap ls (locs ++ L) (by rw [e1]; exact hW') hl (fun z hz => (List.mem_append.mp hz).elim (hf z) (hL z)) T' rfl X'
  exact ⟨t2, stp t2 a1, b1⟩
theorem V_callI (C : Cx X G own cc nL ret rm tb) {idx mL np d' k' n' b : Nat} {y : MethodName} {c2 : ByteArray} {As rest : List Value} (hM : Ct X.2.1 G y c2 mL none d' k' n' (.ref b :: As) S Pr (fun _ _ => False)) (hk : kI own idx y c2 mL np)
    (hR : d' + 1 ≤ rm.frames ∧ 8 + (mL + 11) + 37 * d' ≤ rm.locals) (hc : k + k' ≤ rm.cells ∧ n + n' ≤ rm.slots) (hn : As.length = np) (hst : st = As.reverse ++ .ref b :: rest) (h8 : (rest.map fun v => v.category).sum ≤ 8) (d : decode cc pc = .ok (.invokespecial idx, 3))
    (kr : ∀ (v : Option Value) (S' : sS), Pr v S' → V X G nL Q (k + k') (n + n') (pc + 3) lo (v.toList ++ rest) S') : V X G nL Q k n pc lo st S :=
  V_run0 (rest := rest) (a := (Value.ref b :: As).toArray) (fun H ls locs hW hl => va_runI (fix_ok C) (Ct_met hM) ⟨kB_ok C hk.1 hR, hk.2.2, C.2.2.2.2.1 _ hk.2.1⟩ ⟨fb_cP, pre_ok C hW⟩ rfl hn hl.1 hst (lv_room h8) d (by rw [C.2.2.2.2.2.2.2.2.2.2.1]; exact hc)) kr
/-- Object's own constructor -/
theorem V_objI (C : Cx X G own cc nL ret rm tb) {idx b : Nat} {rest : List Value} (hw : Cond.methodLink own idx Lib.objectInit ∈ lw_good) (hw2 : Cond.instanceMethod Lib.objectInit ∈ lw_good) (hw3 : Cond.code Lib.objectInit ⟨#[0xb1]⟩ 1 none ∈ lw_good) (hfr : 1 ≤ rm.frames) (hlo : (rest.map fun v => v.category).sum + 12 ≤ rm.locals) (d : decode cc pc = .ok (.invokespecial idx, 3)) (kk : V X G nL Q k n (pc + 3) lo rest S) : V X G nL Q k n pc lo (.ref b :: rest) S := fun H ls locs hW hl hf =>
  W.objInit C.1 C.2.1 C.2.2.2.1 (C.2.2.2.2.1 _ hw) (C.2.2.2.2.1 _ hw2) (C.2.2.2.2.1 _ hw3) rfl (hl.1.trans C.2.2.1.symm) rfl d (by rw [C.2.2.2.2.2.2.2.2.2.2.1]; exact hfr) (by rw [C.2.2.2.2.2.2.2.2.2.2.1]; show 2 * 0 + _ + 12 ≤ _; omega) (kk H ls locs hW hl hf)
end VC

