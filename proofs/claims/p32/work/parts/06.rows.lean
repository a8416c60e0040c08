/-! THE WALK: V is the kit's W over the store; a row an instruction. -/
abbrev xX : Type := Program × Launch × Env × Room × State × MethodId × Array Value × List Frame × Method × Code
abbrev lO : Type := List (Nat × Bool × Value)
def lk (ls : Array Slot) (nL : Nat) (lo : lO) : Prop := ls.size = nL ∧ lv_wf ls ∧ ∀ q ∈ lo, ls[q.1]? = some (.val q.2.2) ∧ (q.2.1 = false → q.2.2.category = 1)
def lget : lO → Nat → Option Value
  | [], _ => none
  | q :: t, i => if q.1 = i then some q.2.2 else lget t i
theorem lk_get {ls : Array Slot} {nL : Nat} {lo : lO} (h : lk ls nL lo) {i : Nat} {v : Value} (e : lget lo i = some v) : ls[i]? = some (.val v) := by
  have h3 := h.2.2
  clear h
  induction lo with
  | nil => cases e
  | cons q t ih =>
    unfold lget at e
    by_cases hq : q.1 = i
    · rw [if_pos hq] at e
      cases e
      rw [← hq]
      exact (h3 q List.mem_cons_self).1
    · rw [if_neg hq] at e
      exact ih e fun x hx => h3 x (List.mem_cons_of_mem _ hx)
def lset1 (lo : lO) (i : Nat) (v : Value) : lO := (i, false, v) :: lo.filter (fun q => !(q.1 == i) && !(q.1 + 1 == i && q.2.1))
def lset2 (lo : lO) (i : Nat) (v : Value) : lO := (i, true, v) :: lo.filter (fun q => !(q.1 == i) && (!(q.1 == i + 1) && !(q.1 + 1 == i && q.2.1)))
def lmap (lo : lO) : List (Nat × Value) := lo.map fun q => (q.1, q.2.2)
theorem lk_has {ls : Array Slot} {nL : Nat} {lo : lO} (h : lk ls nL lo) : lv_has ls nL (lmap lo) := ⟨h.1, h.2.1, fun q hq => by
  obtain ⟨x, hx, rfl⟩ := List.mem_map.mp hq
  exact (h.2.2 x hx).1⟩
theorem lk_set1 {ls ls' : Array Slot} {nL : Nat} {lo : lO} {i : Nat} {v : Value} (h : lk ls nL lo) (hc : v.category = 1)
    (h' : lv_has ls' nL ((i, v) :: (lmap lo).filter (fun q => !(q.1 == i) && !(q.1 + 1 == i && q.2.category == 2)))) : lk ls' nL (lset1 lo i v) := by
  refine ⟨h'.1, h'.2.1, fun q hq => ?_⟩
  rcases List.mem_cons.mp hq with rfl | hq
  · exact ⟨h'.2.2 _ List.mem_cons_self, fun _ => hc⟩
  · obtain ⟨h1, h2⟩ := List.mem_filter.mp hq
    refine ⟨h'.2.2 (q.1, q.2.2) (List.mem_cons_of_mem _ (List.mem_filter.mpr ⟨List.mem_map.mpr ⟨q, h1, rfl⟩, ?_⟩)), (h.2.2 q h1).2⟩
    simp only [Bool.and_eq_true, Bool.not_eq_true', Bool.and_eq_false_iff, beq_eq_false_iff_ne] at h2 ⊢
    refine ⟨h2.1, ?_⟩
    rcases h2.2 with h3 | h3
    · exact Or.inl h3
    · exact Or.inr (by rw [(h.2.2 q h1).2 h3]; decide)
theorem lk_set2 {ls ls' : Array Slot} {nL : Nat} {lo : lO} {i : Nat} {v : Value} (h : lk ls nL lo)
    (h' : lv_has ls' nL ((i, v) :: (lmap lo).filter (fun q => !(q.1 == i) && (!(q.1 == i + 1) && !(q.1 + 1 == i && q.2.category == 2))))) : lk ls' nL (lset2 lo i v) := by
  refine ⟨h'.1, h'.2.1, fun q hq => ?_⟩
  rcases List.mem_cons.mp hq with rfl | hq
  · exact ⟨h'.2.2 _ List.mem_cons_self, fun e => nomatch e⟩
  · obtain ⟨h1, h2⟩ := List.mem_filter.mp hq
    refine ⟨h'.2.2 (q.1, q.2.2) (List.mem_cons_of_mem _ (List.mem_filter.mpr ⟨List.mem_map.mpr ⟨q, h1, rfl⟩, ?_⟩)), (h.2.2 q h1).2⟩
    simp only [Bool.and_eq_true, Bool.not_eq_true', Bool.and_eq_false_iff, beq_eq_false_iff_ne] at h2 ⊢
    refine ⟨h2.1, h2.2.1, ?_⟩
    rcases h2.2.2 with h3 | h3
    · exact Or.inl h3
    · exact Or.inr (by rw [(h.2.2 q h1).2 h3]; decide)
def isR (v : Value) : Prop := v = .null ∨ ∃ a, v = .ref a
theorem isR_r (a : Nat) : isR (.ref a) := Or.inr ⟨a, rfl⟩
theorem isR_n : isR .null := Or.inl rfl
theorem isR_q (o : Option Nat) : isR (va_rf o) := match o with
  | none => Or.inl rfl
  | some a => Or.inr ⟨a, rfl⟩
theorem isR_c {v : Value} (h : isR v) : v.category = 1 := by
  rcases h with rfl | ⟨a, rfl⟩ <;> rfl
def V (X : xX) (G : gG) (nL : Nat) (Q : State → Prop) (k n pc : Nat) (lo : lO) (st : List Value) (S : sS) : Prop :=
  ∀ (H : Heap) (ls : Array Slot) (locs : List Loc), wW G S H → lk ls nL lo → (∀ z ∈ locs, wB G ≤ z.base) →
    W X.1 X.2.1 X.2.2.1 X.2.2.2.1 X.2.2.2.2.1 X.2.2.2.2.2.1 X.2.2.2.2.2.2.1 X.2.2.2.2.2.2.2.1 X.2.2.2.2.2.2.2.2.1 X.2.2.2.2.2.2.2.2.2 H locs k n Q (F0 X.2.2.2.2.2.1 pc ls st)
/-- the frame at hand: the machine, the code at hand, its number of locals, its return type, its room, its table, the good words, what is known of the machine -/
def Cx (X : xX) (G : gG) (own : String) (cc : ByteArray) (nL : Nat) (ret : Option FieldType) (rm : Room) (tb : List ExceptionTableEntry) : Prop :=
  X.1.tables.exec = Jvm.exec ∧ X.2.2.2.2.2.2.2.2.2.code = cc ∧ X.2.2.2.2.2.2.2.2.2.maxLocals = nL ∧ X.2.2.2.2.1.vm.findClass own = some X.2.2.2.2.2.1.cls ∧ (∀ w ∈ lw_good, w.before X.2.2.2.2.2.2.1 X.2.2.2.2.1 = true) ∧
  wK G X.2.2.2.2.1 ∧ (wB G ≤ X.2.2.2.2.1.heap.size ∧ ∀ q : Nat, q < wB G → X.2.2.2.2.1.heap[q]? = G.2.2[q]?) ∧ X.2.1.stackTraces = false ∧ X.2.2.2.2.2.2.2.2.1.locks = false ∧ X.2.2.2.2.2.2.2.2.1.sig.returnType = ret ∧ X.2.2.2.1 = rm ∧ X.2.2.2.2.2.2.2.2.2.exceptionTable.toList = tb
section VR
variable {X : xX} {G : gG} {own : String} {cc : ByteArray} {nL : Nat} {ret : Option FieldType} {rm : Room} {tb : List ExceptionTableEntry} {Q : State → Prop} {k n pc : Nat} {lo : lO} {st : List Value} {S : sS}
theorem V_pick (is : List Nat) {lo' : lO} (h : is.filterMap (fun i => lo[i]?) = lo') (kk : V X G nL Q k n pc lo' st S) : V X G nL Q k n pc lo st S := fun H ls locs hW hl hf => kk H ls locs hW ⟨hl.1, hl.2.1, fun q hq => by
  rw [← h] at hq
  obtain ⟨i, -, hi⟩ := List.mem_filterMap.mp hq
  exact hl.2.2 q (List.mem_of_getElem? hi)⟩ hf
theorem V_widen {k' n' : Nat} (h1 : k ≤ k') (h2 : n ≤ n') (kk : V X G nL Q k' n' pc lo st S) : V X G nL Q k n pc lo st S := fun H ls locs hW hl hf => W.widen h1 h2 (kk H ls locs hW hl hf)
theorem V_at {pc' : Nat} (h : pc' = pc) (kk : V X G nL Q k n pc' lo st S) : V X G nL Q k n pc lo st S := h ▸ kk

theorem V_iconst (C : Cx X G own cc nL ret rm tb) {i : Int} {v : Int32} (d : decode cc pc = .ok (.iconst i, 1)) (hv : Int32.ofInt i = v) (kk : V X G nL Q k n (pc + 1) lo (.int v :: st) S) : V X G nL Q k n pc lo st S := fun H ls locs hW hl hf => lv_iconst C.1 C.2.1 d hv (kk H ls locs hW hl hf)
theorem V_bipush (C : Cx X G own cc nL ret rm tb) {i : Int} {v : Int32} (d : decode cc pc = .ok (.bipush i, 2)) (hv : (Int8.ofInt i).toInt32 = v) (kk : V X G nL Q k n (pc + 2) lo (.int v :: st) S) : V X G nL Q k n pc lo st S := fun H ls locs hW hl hf => lv_bipush C.1 C.2.1 d hv (kk H ls locs hW hl hf)
theorem V_sipush (C : Cx X G own cc nL ret rm tb) {i : Int} {v : Int32} (d : decode cc pc = .ok (.sipush i, 3)) (hv : (Int16.ofInt i).toInt32 = v) (kk : V X G nL Q k n (pc + 3) lo (.int v :: st) S) : V X G nL Q k n pc lo st S := fun H ls locs hW hl hf => lv_sipush C.1 C.2.1 d hv (kk H ls locs hW hl hf)
theorem V_lconst (C : Cx X G own cc nL ret rm tb) {i : Fin 2} {v : Int64} (d : decode cc pc = .ok (.lconst i, 1)) (hv : Int64.ofNat (i : Nat) = v) (kk : V X G nL Q k n (pc + 1) lo (.long v :: st) S) : V X G nL Q k n pc lo st S := fun H ls locs hW hl hf => lv_lconst C.1 C.2.1 d hv (kk H ls locs hW hl hf)
theorem V_aconst_null (C : Cx X G own cc nL ret rm tb)  (d : decode cc pc = .ok (.aconst_null, 1))  (kk : V X G nL Q k n (pc + 1) lo (.null :: st) S) : V X G nL Q k n pc lo st S := fun H ls locs hW hl hf => lv_null C.1 C.2.1 d (kk H ls locs hW hl hf)
theorem V_ldc (C : Cx X G own cc nL ret rm tb) {i : Nat} {v : Int32} (d : decode cc pc = .ok (.ldc i, 2)) (hw : Cond.constant own i v ∈ lw_good) (kk : V X G nL Q k n (pc + 2) lo (.int v :: st) S) : V X G nL Q k n pc lo st S := fun H ls locs hW hl hf => lv_ldc C.1 C.2.1 C.2.2.2.1 (C.2.2.2.2.1 _ hw) d (kk H ls locs hW hl hf)
theorem V_ldc_w (C : Cx X G own cc nL ret rm tb) {i : Nat} {v : Int32} (d : decode cc pc = .ok (.ldc_w i, 3)) (hw : Cond.constant own i v ∈ lw_good) (kk : V X G nL Q k n (pc + 3) lo (.int v :: st) S) : V X G nL Q k n pc lo st S := fun H ls locs hW hl hf => lv_ldcw C.1 C.2.1 C.2.2.2.1 (C.2.2.2.2.1 _ hw) d (kk H ls locs hW hl hf)
theorem V_ldc2 (C : Cx X G own cc nL ret rm tb) {i : Nat} {v : Int64} (d : decode cc pc = .ok (.ldc2_w i, 3)) (hw : Cond.constantLong own i v ∈ lw_good) (kk : V X G nL Q k n (pc + 3) lo (.long v :: st) S) : V X G nL Q k n pc lo st S := fun H ls locs hW hl hf => lv_ldc2 C.1 C.2.1 C.2.2.2.1 (C.2.2.2.2.1 _ hw) d (kk H ls locs hW hl hf)
theorem V_iload (C : Cx X G own cc nL ret rm tb) {i : Nat} {x : Int32} (d : decode cc pc = .ok (.iload i, 2)) (hg : lget lo i = some (.int x)) (kk : V X G nL Q k n (pc + 2) lo (.int x :: st) S) : V X G nL Q k n pc lo st S := fun H ls locs hW hl hf => lv_iload C.1 C.2.1 d (lk_get hl hg) (kk H ls locs hW hl hf)
theorem V_iload_n (C : Cx X G own cc nL ret rm tb) {j : Fin 4} {x : Int32} (d : decode cc pc = .ok (.iload_n j, 1)) (hg : lget lo (j : Nat) = some (.int x)) (kk : V X G nL Q k n (pc + 1) lo (.int x :: st) S) : V X G nL Q k n pc lo st S := fun H ls locs hW hl hf => lv_iload_n C.1 C.2.1 d rfl (lk_get hl hg) (kk H ls locs hW hl hf)
theorem V_lload (C : Cx X G own cc nL ret rm tb) {i : Nat} {x : Int64} (d : decode cc pc = .ok (.lload i, 2)) (hg : lget lo i = some (.long x)) (kk : V X G nL Q k n (pc + 2) lo (.long x :: st) S) : V X G nL Q k n pc lo st S := fun H ls locs hW hl hf => lv_lload C.1 C.2.1 d (lk_get hl hg) (kk H ls locs hW hl hf)
theorem V_lload_n (C : Cx X G own cc nL ret rm tb) {j : Fin 4} {x : Int64} (d : decode cc pc = .ok (.lload_n j, 1)) (hg : lget lo (j : Nat) = some (.long x)) (kk : V X G nL Q k n (pc + 1) lo (.long x :: st) S) : V X G nL Q k n pc lo st S := fun H ls locs hW hl hf => lv_lload_n C.1 C.2.1 d rfl (lk_get hl hg) (kk H ls locs hW hl hf)
theorem V_aload (C : Cx X G own cc nL ret rm tb) {i : Nat} {v : Value} (d : decode cc pc = .ok (.aload i, 2)) (hg : lget lo i = some v) (hv : isR v) (kk : V X G nL Q k n (pc + 2) lo (v :: st) S) : V X G nL Q k n pc lo st S := by
  rcases hv with rfl | ⟨a, rfl⟩
  · exact fun H ls locs hW hl hf => lv_aloadN C.1 C.2.1 d (lk_get hl hg) (kk H ls locs hW hl hf)
  · exact fun H ls locs hW hl hf => lv_aload C.1 C.2.1 d (lk_get hl hg) (kk H ls locs hW hl hf)
theorem V_aload_n (C : Cx X G own cc nL ret rm tb) {j : Fin 4} {v : Value} (d : decode cc pc = .ok (.aload_n j, 1)) (hg : lget lo (j : Nat) = some v) (hv : isR v) (kk : V X G nL Q k n (pc + 1) lo (v :: st) S) : V X G nL Q k n pc lo st S := by
  rcases hv with rfl | ⟨a, rfl⟩
  · exact fun H ls locs hW hl hf => lv_aload_nN C.1 C.2.1 d rfl (lk_get hl hg) (kk H ls locs hW hl hf)
  · exact fun H ls locs hW hl hf => lv_aload_n C.1 C.2.1 d rfl (lk_get hl hg) (kk H ls locs hW hl hf)
theorem V_istore (C : Cx X G own cc nL ret rm tb) {i : Nat} {x : Int32} {lo' : lO} (d : decode cc pc = .ok (.istore i, 2)) (hn : i < nL) (hs : lset1 lo i (.int x) = lo') (kk : V X G nL Q k n (pc + 2) lo' st S) : V X G nL Q k n pc lo (.int x :: st) S := fun H ls locs hW hl hf => lv_istore C.1 C.2.1 d (lk_has hl) hn rfl fun ls2 h2 => kk H ls2 locs hW (hs ▸ lk_set1 hl rfl h2) hf
theorem V_istore_n (C : Cx X G own cc nL ret rm tb) {j : Fin 4} {x : Int32} {lo' : lO} (d : decode cc pc = .ok (.istore_n j, 1)) (hn : (j : Nat) < nL) (hs : lset1 lo (j : Nat) (.int x) = lo') (kk : V X G nL Q k n (pc + 1) lo' st S) : V X G nL Q k n pc lo (.int x :: st) S := fun H ls locs hW hl hf => lv_istore_n C.1 C.2.1 d rfl (lk_has hl) hn rfl fun ls2 h2 => kk H ls2 locs hW (hs ▸ lk_set1 hl rfl h2) hf
theorem V_lstore (C : Cx X G own cc nL ret rm tb) {i : Nat} {x : Int64} {lo' : lO} (d : decode cc pc = .ok (.lstore i, 2)) (hn : i + 1 < nL) (hs : lset2 lo i (.long x) = lo') (kk : V X G nL Q k n (pc + 2) lo' st S) : V X G nL Q k n pc lo (.long x :: st) S := fun H ls locs hW hl hf => lv_lstore C.1 C.2.1 d (lk_has hl) hn rfl fun ls2 h2 => kk H ls2 locs hW (hs ▸ lk_set2 hl h2) hf
theorem V_lstore_n (C : Cx X G own cc nL ret rm tb) {j : Fin 4} {x : Int64} {lo' : lO} (d : decode cc pc = .ok (.lstore_n j, 1)) (hn : (j : Nat) + 1 < nL) (hs : lset2 lo (j : Nat) (.long x) = lo') (kk : V X G nL Q k n (pc + 1) lo' st S) : V X G nL Q k n pc lo (.long x :: st) S := fun H ls locs hW hl hf => lv_lstore_n C.1 C.2.1 d rfl (lk_has hl) hn rfl fun ls2 h2 => kk H ls2 locs hW (hs ▸ lk_set2 hl h2) hf
theorem V_astore (C : Cx X G own cc nL ret rm tb) {i : Nat} {v : Value} {lo' : lO} (d : decode cc pc = .ok (.astore i, 2)) (hn : i < nL) (hv : isR v) (hs : lset1 lo i v = lo') (kk : V X G nL Q k n (pc + 2) lo' st S) : V X G nL Q k n pc lo (v :: st) S := by
  rcases hv with rfl | ⟨a, rfl⟩
  · exact fun H ls locs hW hl hf => lv_astoreN C.1 C.2.1 d (lk_has hl) hn rfl fun ls2 h2 => kk H ls2 locs hW (hs ▸ lk_set1 hl rfl h2) hf
  · exact fun H ls locs hW hl hf => lv_astore C.1 C.2.1 d (lk_has hl) hn rfl fun ls2 h2 => kk H ls2 locs hW (hs ▸ lk_set1 hl rfl h2) hf
theorem V_astore_n (C : Cx X G own cc nL ret rm tb) {j : Fin 4} {v : Value} {lo' : lO} (d : decode cc pc = .ok (.astore_n j, 1)) (hn : (j : Nat) < nL) (hv : isR v) (hs : lset1 lo (j : Nat) v = lo') (kk : V X G nL Q k n (pc + 1) lo' st S) : V X G nL Q k n pc lo (v :: st) S := by
  rcases hv with rfl | ⟨a, rfl⟩
  · exact fun H ls locs hW hl hf => lv_astore_nN C.1 C.2.1 d rfl (lk_has hl) hn rfl fun ls2 h2 => kk H ls2 locs hW (hs ▸ lk_set1 hl rfl h2) hf
  · exact fun H ls locs hW hl hf => lv_astore_n C.1 C.2.1 d rfl (lk_has hl) hn rfl fun ls2 h2 => kk H ls2 locs hW (hs ▸ lk_set1 hl rfl h2) hf
theorem V_iinc (C : Cx X G own cc nL ret rm tb) {i : Nat} {z : Int} {x v : Int32} {lo' : lO} (d : decode cc pc = .ok (.iinc i z, 3)) (hg : lget lo i = some (.int x)) (hv : x + Int32.ofInt z = v) (hn : i < nL) (hs : lset1 lo i (.int v) = lo') (kk : V X G nL Q k n (pc + 3) lo' st S) : V X G nL Q k n pc lo st S := fun H ls locs hW hl hf =>
  lv_iinc (k := 0) (lv := (i, .int x) :: lmap lo) C.1 C.2.1 d ⟨hl.1, hl.2.1, fun q hq => (List.mem_cons.mp hq).elim (fun e => by rw [e]; exact lk_get hl hg) fun hq => (lk_has hl).2.2 q hq⟩ rfl hv hn rfl fun ls2 h2 => kk H ls2 locs hW (hs ▸ lk_set1 hl rfl ⟨h2.1, h2.2.1, fun q hq => by
    rcases List.mem_cons.mp hq with rfl | hq
    · exact h2.2.2 _ List.mem_cons_self
    · refine h2.2.2 q (List.mem_cons_of_mem _ ?_)
      obtain ⟨h3, h4⟩ := List.mem_filter.mp hq
      exact List.mem_filter.mpr ⟨List.mem_cons_of_mem _ h3, h4⟩⟩) hf
theorem V_iadd (C : Cx X G own cc nL ret rm tb) {x y : Int32} (d : decode cc pc = .ok (.iadd, 1))  (kk : V X G nL Q k n (pc + 1) lo (.int (x + y) :: st) S) : V X G nL Q k n pc lo (.int y :: .int x :: st) S := fun H ls locs hW hl hf => lv_iadd C.1 C.2.1 d (kk H ls locs hW hl hf)
theorem V_isub (C : Cx X G own cc nL ret rm tb) {x y : Int32} (d : decode cc pc = .ok (.isub, 1))  (kk : V X G nL Q k n (pc + 1) lo (.int (x - y) :: st) S) : V X G nL Q k n pc lo (.int y :: .int x :: st) S := fun H ls locs hW hl hf => lv_isub C.1 C.2.1 d (kk H ls locs hW hl hf)
theorem V_imul (C : Cx X G own cc nL ret rm tb) {x y : Int32} (d : decode cc pc = .ok (.imul, 1))  (kk : V X G nL Q k n (pc + 1) lo (.int (x * y) :: st) S) : V X G nL Q k n pc lo (.int y :: .int x :: st) S := fun H ls locs hW hl hf => lv_imul C.1 C.2.1 d (kk H ls locs hW hl hf)
theorem V_ishr (C : Cx X G own cc nL ret rm tb) {x y : Int32} (d : decode cc pc = .ok (.ishr, 1))  (kk : V X G nL Q k n (pc + 1) lo (.int (x >>> (y &&& 31)) :: st) S) : V X G nL Q k n pc lo (.int y :: .int x :: st) S := fun H ls locs hW hl hf => lv_ishr C.1 C.2.1 d (kk H ls locs hW hl hf)
theorem V_ishl (C : Cx X G own cc nL ret rm tb) {x y : Int32} (d : decode cc pc = .ok (.ishl, 1))  (kk : V X G nL Q k n (pc + 1) lo (.int (x <<< (y &&& 31)) :: st) S) : V X G nL Q k n pc lo (.int y :: .int x :: st) S := fun H ls locs hW hl hf => lv_ishl C.1 C.2.1 d (kk H ls locs hW hl hf)
theorem V_iand (C : Cx X G own cc nL ret rm tb) {x y : Int32} (d : decode cc pc = .ok (.iand, 1))  (kk : V X G nL Q k n (pc + 1) lo (.int (x &&& y) :: st) S) : V X G nL Q k n pc lo (.int y :: .int x :: st) S := fun H ls locs hW hl hf => lv_iand C.1 C.2.1 d (kk H ls locs hW hl hf)
theorem V_ixor (C : Cx X G own cc nL ret rm tb) {x y : Int32} (d : decode cc pc = .ok (.ixor, 1))  (kk : V X G nL Q k n (pc + 1) lo (.int (x ^^^ y) :: st) S) : V X G nL Q k n pc lo (.int y :: .int x :: st) S := fun H ls locs hW hl hf => lv_ixor C.1 C.2.1 d (kk H ls locs hW hl hf)
theorem V_iushr (C : Cx X G own cc nL ret rm tb) {x y : Int32} (d : decode cc pc = .ok (.iushr, 1))  (kk : V X G nL Q k n (pc + 1) lo (.int ((x.toUInt32 >>> (y.toUInt32 &&& Int32.toUInt32 31)).toInt32) :: st) S) : V X G nL Q k n pc lo (.int y :: .int x :: st) S := fun H ls locs hW hl hf => lv_iushr C.1 C.2.1 d rfl (kk H ls locs hW hl hf)
theorem V_idiv (C : Cx X G own cc nL ret rm tb) {x y : Int32} (d : decode cc pc = .ok (.idiv, 1)) (hy : ¬ y = 0) (kk : V X G nL Q k n (pc + 1) lo (.int (x / y) :: st) S) : V X G nL Q k n pc lo (.int y :: .int x :: st) S := fun H ls locs hW hl hf => lv_idiv C.1 C.2.1 d hy (kk H ls locs hW hl hf)
theorem V_irem (C : Cx X G own cc nL ret rm tb) {x y : Int32} (d : decode cc pc = .ok (.irem, 1)) (hy : ¬ y = 0) (kk : V X G nL Q k n (pc + 1) lo (.int (x - x / y * y) :: st) S) : V X G nL Q k n pc lo (.int y :: .int x :: st) S := fun H ls locs hW hl hf => lv_irem C.1 C.2.1 d hy (kk H ls locs hW hl hf)
theorem V_ineg (C : Cx X G own cc nL ret rm tb) {x : Int32} (d : decode cc pc = .ok (.ineg, 1))  (kk : V X G nL Q k n (pc + 1) lo (.int (-x) :: st) S) : V X G nL Q k n pc lo (.int x :: st) S := fun H ls locs hW hl hf => lv_ineg C.1 C.2.1 d (kk H ls locs hW hl hf)
theorem V_ladd (C : Cx X G own cc nL ret rm tb) {x y : Int64} (d : decode cc pc = .ok (.ladd, 1))  (kk : V X G nL Q k n (pc + 1) lo (.long (x + y) :: st) S) : V X G nL Q k n pc lo (.long y :: .long x :: st) S := fun H ls locs hW hl hf => lv_ladd C.1 C.2.1 d (kk H ls locs hW hl hf)
theorem V_lmul (C : Cx X G own cc nL ret rm tb) {x y : Int64} (d : decode cc pc = .ok (.lmul, 1))  (kk : V X G nL Q k n (pc + 1) lo (.long (x * y) :: st) S) : V X G nL Q k n pc lo (.long y :: .long x :: st) S := fun H ls locs hW hl hf => lv_lmul C.1 C.2.1 d (kk H ls locs hW hl hf)
theorem V_i2l (C : Cx X G own cc nL ret rm tb) {x : Int32} (d : decode cc pc = .ok (.i2l, 1))  (kk : V X G nL Q k n (pc + 1) lo (.long x.toInt64 :: st) S) : V X G nL Q k n pc lo (.int x :: st) S := fun H ls locs hW hl hf => lv_i2l C.1 C.2.1 d rfl (kk H ls locs hW hl hf)
theorem V_lcmp (C : Cx X G own cc nL ret rm tb) {x y : Int64} (d : decode cc pc = .ok (.lcmp, 1))  (kk : V X G nL Q k n (pc + 1) lo (.int (lg_cmp x y) :: st) S) : V X G nL Q k n pc lo (.long y :: .long x :: st) S := fun H ls locs hW hl hf => W.lcmp C.1 C.2.1 d (kk H ls locs hW hl hf)
theorem V_pop (C : Cx X G own cc nL ret rm tb) {v : Value} (d : decode cc pc = .ok (.pop, 1)) (hc : v.category = 1) (kk : V X G nL Q k n (pc + 1) lo st S) : V X G nL Q k n pc lo (v :: st) S := fun H ls locs hW hl hf => lv_pop C.1 C.2.1 d hc (kk H ls locs hW hl hf)
theorem V_dup (C : Cx X G own cc nL ret rm tb) {v : Value} (d : decode cc pc = .ok (.dup, 1)) (hc : v.category = 1) (kk : V X G nL Q k n (pc + 1) lo (v :: v :: st) S) : V X G nL Q k n pc lo (v :: st) S := fun H ls locs hW hl hf => lv_dup C.1 C.2.1 d hc (kk H ls locs hW hl hf)
theorem V_dup2 (C : Cx X G own cc nL ret rm tb) {v w : Value} (d : decode cc pc = .ok (.dup2, 1)) (hv : v.category = 1) (hc : w.category = 1) (kk : V X G nL Q k n (pc + 1) lo (w :: v :: w :: v :: st) S) : V X G nL Q k n pc lo (w :: v :: st) S := fun H ls locs hW hl hf => lv_dup2_11 C.1 C.2.1 d hc hv (kk H ls locs hW hl hf)
theorem V_goto (C : Cx X G own cc nL ret rm tb) {off : Int} {tgt : Nat} (d : decode cc pc = .ok (.goto off, 3)) (ht : (pc : Int) + off = (tgt : Int)) (kk : V X G nL Q k n tgt lo st S) : V X G nL Q k n pc lo st S := fun H ls locs hW hl hf => lv_goto C.1 C.2.1 d ht (kk H ls locs hW hl hf)
theorem V_icmp_eq (C : Cx X G own cc nL ret rm tb) {x y : Int32} {off : Int} {tgt : Nat} (d : decode cc pc = .ok (.if_icmp .eq off, 3)) (ht : (pc : Int) + off = (tgt : Int)) (kt : x = y → V X G nL Q k n tgt lo st S) (kf : ¬ x = y → V X G nL Q k n (pc + 3) lo st S) : V X G nL Q k n pc lo (.int y :: .int x :: st) S := fun H ls locs hW hl hf => lv_icmp_eq C.1 C.2.1 d ht (fun h => kt h H ls locs hW hl hf) (fun h => kf h H ls locs hW hl hf)
theorem V_if_eq (C : Cx X G own cc nL ret rm tb) {x : Int32} {off : Int} {tgt : Nat} (d : decode cc pc = .ok (.ifCond .eq off, 3)) (ht : (pc : Int) + off = (tgt : Int)) (kt : x = 0 → V X G nL Q k n tgt lo st S) (kf : ¬ x = 0 → V X G nL Q k n (pc + 3) lo st S) : V X G nL Q k n pc lo (.int x :: st) S := fun H ls locs hW hl hf => lv_if_eq C.1 C.2.1 d ht (fun h => kt h H ls locs hW hl hf) (fun h => kf h H ls locs hW hl hf)
theorem V_icmp_ne (C : Cx X G own cc nL ret rm tb) {x y : Int32} {off : Int} {tgt : Nat} (d : decode cc pc = .ok (.if_icmp .ne off, 3)) (ht : (pc : Int) + off = (tgt : Int)) (kt : (¬ x = y) → V X G nL Q k n tgt lo st S) (kf : x = y → V X G nL Q k n (pc + 3) lo st S) : V X G nL Q k n pc lo (.int y :: .int x :: st) S := fun H ls locs hW hl hf => lv_icmp_ne C.1 C.2.1 d ht (fun h => kt h H ls locs hW hl hf) (fun h => kf h H ls locs hW hl hf)
theorem V_if_ne (C : Cx X G own cc nL ret rm tb) {x : Int32} {off : Int} {tgt : Nat} (d : decode cc pc = .ok (.ifCond .ne off, 3)) (ht : (pc : Int) + off = (tgt : Int)) (kt : (¬ x = 0) → V X G nL Q k n tgt lo st S) (kf : x = 0 → V X G nL Q k n (pc + 3) lo st S) : V X G nL Q k n pc lo (.int x :: st) S := fun H ls locs hW hl hf => lv_if_ne C.1 C.2.1 d ht (fun h => kt h H ls locs hW hl hf) (fun h => kf h H ls locs hW hl hf)
theorem V_icmp_lt (C : Cx X G own cc nL ret rm tb) {x y : Int32} {off : Int} {tgt : Nat} (d : decode cc pc = .ok (.if_icmp .lt off, 3)) (ht : (pc : Int) + off = (tgt : Int)) (kt : x < y → V X G nL Q k n tgt lo st S) (kf : ¬ x < y → V X G nL Q k n (pc + 3) lo st S) : V X G nL Q k n pc lo (.int y :: .int x :: st) S := fun H ls locs hW hl hf => lv_icmp_lt C.1 C.2.1 d ht (fun h => kt h H ls locs hW hl hf) (fun h => kf h H ls locs hW hl hf)
theorem V_if_lt (C : Cx X G own cc nL ret rm tb) {x : Int32} {off : Int} {tgt : Nat} (d : decode cc pc = .ok (.ifCond .lt off, 3)) (ht : (pc : Int) + off = (tgt : Int)) (kt : x < 0 → V X G nL Q k n tgt lo st S) (kf : ¬ x < 0 → V X G nL Q k n (pc + 3) lo st S) : V X G nL Q k n pc lo (.int x :: st) S := fun H ls locs hW hl hf => lv_if_lt C.1 C.2.1 d ht (fun h => kt h H ls locs hW hl hf) (fun h => kf h H ls locs hW hl hf)
theorem V_icmp_ge (C : Cx X G own cc nL ret rm tb) {x y : Int32} {off : Int} {tgt : Nat} (d : decode cc pc = .ok (.if_icmp .ge off, 3)) (ht : (pc : Int) + off = (tgt : Int)) (kt : y ≤ x → V X G nL Q k n tgt lo st S) (kf : ¬ y ≤ x → V X G nL Q k n (pc + 3) lo st S) : V X G nL Q k n pc lo (.int y :: .int x :: st) S := fun H ls locs hW hl hf => lv_icmp_ge C.1 C.2.1 d ht (fun h => kt h H ls locs hW hl hf) (fun h => kf h H ls locs hW hl hf)
theorem V_if_ge (C : Cx X G own cc nL ret rm tb) {x : Int32} {off : Int} {tgt : Nat} (d : decode cc pc = .ok (.ifCond .ge off, 3)) (ht : (pc : Int) + off = (tgt : Int)) (kt : 0 ≤ x → V X G nL Q k n tgt lo st S) (kf : ¬ 0 ≤ x → V X G nL Q k n (pc + 3) lo st S) : V X G nL Q k n pc lo (.int x :: st) S := fun H ls locs hW hl hf => lv_if_ge C.1 C.2.1 d ht (fun h => kt h H ls locs hW hl hf) (fun h => kf h H ls locs hW hl hf)
theorem V_icmp_gt (C : Cx X G own cc nL ret rm tb) {x y : Int32} {off : Int} {tgt : Nat} (d : decode cc pc = .ok (.if_icmp .gt off, 3)) (ht : (pc : Int) + off = (tgt : Int)) (kt : y < x → V X G nL Q k n tgt lo st S) (kf : ¬ y < x → V X G nL Q k n (pc + 3) lo st S) : V X G nL Q k n pc lo (.int y :: .int x :: st) S := fun H ls locs hW hl hf => lv_icmp_gt C.1 C.2.1 d ht (fun h => kt h H ls locs hW hl hf) (fun h => kf h H ls locs hW hl hf)
theorem V_if_gt (C : Cx X G own cc nL ret rm tb) {x : Int32} {off : Int} {tgt : Nat} (d : decode cc pc = .ok (.ifCond .gt off, 3)) (ht : (pc : Int) + off = (tgt : Int)) (kt : 0 < x → V X G nL Q k n tgt lo st S) (kf : ¬ 0 < x → V X G nL Q k n (pc + 3) lo st S) : V X G nL Q k n pc lo (.int x :: st) S := fun H ls locs hW hl hf => lv_if_gt C.1 C.2.1 d ht (fun h => kt h H ls locs hW hl hf) (fun h => kf h H ls locs hW hl hf)
theorem V_icmp_le (C : Cx X G own cc nL ret rm tb) {x y : Int32} {off : Int} {tgt : Nat} (d : decode cc pc = .ok (.if_icmp .le off, 3)) (ht : (pc : Int) + off = (tgt : Int)) (kt : x ≤ y → V X G nL Q k n tgt lo st S) (kf : ¬ x ≤ y → V X G nL Q k n (pc + 3) lo st S) : V X G nL Q k n pc lo (.int y :: .int x :: st) S := fun H ls locs hW hl hf => lv_icmp_le C.1 C.2.1 d ht (fun h => kt h H ls locs hW hl hf) (fun h => kf h H ls locs hW hl hf)
theorem V_if_le (C : Cx X G own cc nL ret rm tb) {x : Int32} {off : Int} {tgt : Nat} (d : decode cc pc = .ok (.ifCond .le off, 3)) (ht : (pc : Int) + off = (tgt : Int)) (kt : x ≤ 0 → V X G nL Q k n tgt lo st S) (kf : ¬ x ≤ 0 → V X G nL Q k n (pc + 3) lo st S) : V X G nL Q k n pc lo (.int x :: st) S := fun H ls locs hW hl hf => lv_if_le C.1 C.2.1 d ht (fun h => kt h H ls locs hW hl hf) (fun h => kf h H ls locs hW hl hf)
theorem V_acmp_eq (C : Cx X G own cc nL ret rm tb) {rx ry : Option Nat} {off : Int} {tgt : Nat} (d : decode cc pc = .ok (.if_acmp .eq off, 3)) (ht : (pc : Int) + off = (tgt : Int)) (kt : rx = ry → V X G nL Q k n tgt lo st S) (kf : ¬ rx = ry → V X G nL Q k n (pc + 3) lo st S) : V X G nL Q k n pc lo (va_rf ry :: va_rf rx :: st) S := fun H ls locs hW hl hf => lv_acmp_eq C.1 C.2.1 d ht (fun h => kt h H ls locs hW hl hf) (fun h => kf h H ls locs hW hl hf)
theorem V_acmp_ne (C : Cx X G own cc nL ret rm tb) {rx ry : Option Nat} {off : Int} {tgt : Nat} (d : decode cc pc = .ok (.if_acmp .ne off, 3)) (ht : (pc : Int) + off = (tgt : Int)) (kt : (¬ rx = ry) → V X G nL Q k n tgt lo st S) (kf : rx = ry → V X G nL Q k n (pc + 3) lo st S) : V X G nL Q k n pc lo (va_rf ry :: va_rf rx :: st) S := fun H ls locs hW hl hf => lv_acmp_ne C.1 C.2.1 d ht (fun h => kt h H ls locs hW hl hf) (fun h => kf h H ls locs hW hl hf)
theorem V_ifnull (C : Cx X G own cc nL ret rm tb) {o : Option Nat} {off : Int} {tgt : Nat} (d : decode cc pc = .ok (.ifnull off, 3)) (ht : (pc : Int) + off = (tgt : Int)) (kt : o = none → V X G nL Q k n tgt lo st S) (kf : ∀ a, o = some a → V X G nL Q k n (pc + 3) lo st S) : V X G nL Q k n pc lo (va_rf o :: st) S := by
  cases o with
  | none => exact fun H ls locs hW hl hf => lv_ifnullN C.1 C.2.1 d ht (kt rfl H ls locs hW hl hf)
  | some a => exact fun H ls locs hW hl hf => lv_ifnull C.1 C.2.1 d (kf a rfl H ls locs hW hl hf)
theorem V_ifnonnull (C : Cx X G own cc nL ret rm tb) {o : Option Nat} {off : Int} {tgt : Nat} (d : decode cc pc = .ok (.ifnonnull off, 3)) (ht : (pc : Int) + off = (tgt : Int)) (kt : ∀ a, o = some a → V X G nL Q k n tgt lo st S) (kf : o = none → V X G nL Q k n (pc + 3) lo st S) : V X G nL Q k n pc lo (va_rf o :: st) S := by
  cases o with
  | none => exact fun H ls locs hW hl hf => lv_ifnonnullN C.1 C.2.1 d (kf rfl H ls locs hW hl hf)
  | some a => exact fun H ls locs hW hl hf => lv_ifnonnull C.1 C.2.1 d ht (kt a rfl H ls locs hW hl hf)
theorem V_tableIn (C : Cx X G own cc nL ret rm tb) {dflt lo9 hi : Int} {offs : Array Int} {len : Nat} {x : Int32} {off : Int} {tgt : Nat} (d : decode cc pc = .ok (.tableswitch dflt lo9 hi offs, len)) (h1 : ¬ x.toInt < lo9) (h2 : ¬ hi < x.toInt) (ho : offs[(x.toInt - lo9).toNat]? = some off) (ht : (pc : Int) + off = (tgt : Int)) (kk : V X G nL Q k n tgt lo st S) : V X G nL Q k n pc lo (.int x :: st) S := fun H ls locs hW hl hf => lv_tableIn C.1 C.2.1 d h1 h2 ho ht (kk H ls locs hW hl hf)
theorem V_tableOut (C : Cx X G own cc nL ret rm tb) {dflt lo9 hi : Int} {offs : Array Int} {len : Nat} {x : Int32} {tgt : Nat} (d : decode cc pc = .ok (.tableswitch dflt lo9 hi offs, len)) (h : x.toInt < lo9 ∨ hi < x.toInt) (ht : (pc : Int) + dflt = (tgt : Int)) (kk : V X G nL Q k n tgt lo st S) : V X G nL Q k n pc lo (.int x :: st) S := fun H ls locs hW hl hf => lv_tableOut C.1 C.2.1 d h ht (kk H ls locs hW hl hf)
end VR

