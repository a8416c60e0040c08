/-! ROWS OF ARRAYS, AND OF WHAT IS MADE. -/
theorem tyA_at (G : gG) {j : Nat} (h0 : 1 ≤ j) (h : j ≤ 7) : (tysA G)[j]? = some (G.2.1 j, tyA j) := by
  rcases (show j = 1 ∨ j = 2 ∨ j = 3 ∨ j = 4 ∨ j = 5 ∨ j = 6 ∨ j = 7 by omega) with rfl | rfl | rfl | rfl | rfl | rfl | rfl <;> rfl
theorem wK_arr {G : gG} {U : State} (h : wK G U) {j : Nat} (h0 : 1 ≤ j) (h1 : j ≤ 7) : ArrOfT U (G.2.1 j) (tyA j) ∧ va_RA U (G.2.1 j) (tyA j) := h.1.2 j _ (tyA_at G h0 h1)
section VA
variable {X : xX} {G : gG} {own : String} {cc : ByteArray} {nL : Nat} {ret : Option FieldType} {rm : Room} {tb : List ExceptionTableEntry} {Q : State → Prop} {k n pc : Nat} {lo : lO} {st : List Value} {S : sS}
theorem V_iald (C : Cx X G own cc nL ret rm tb) {a c : Nat} {i : Int32} (hK : sK S a = c) (hc : 100 ≤ c ∧ c % 10 = 1) (hin : vp_in i (sL S a)) (d : decode cc pc = .ok (.iaload, 1)) (kk : V X G nL Q k n (pc + 1) lo (.int (sA S a i.toNatClampNeg) :: st) S) : V X G nL Q k n pc lo (.int i :: .ref a :: st) S := by
  intro H ls locs hW hl hf
  have hP := wW_arr hW hK hc.1
  rw [hc.2] at hP
  exact va_iald C.1 C.2.1 C.2.2.2.2.2.1.1 hP 0 1 rfl rfl hin d (kk H ls locs hW hl hf)
theorem V_lald (C : Cx X G own cc nL ret rm tb) {a c : Nat} {i : Int32} (hK : sK S a = c) (hc : 100 ≤ c ∧ c % 10 = 3) (hin : vp_in i (sL S a)) (d : decode cc pc = .ok (.laload, 1)) (kk : V X G nL Q k n (pc + 1) lo (.long (sJ S a i.toNatClampNeg) :: st) S) : V X G nL Q k n pc lo (.int i :: .ref a :: st) S := by
  intro H ls locs hW hl hf
  have hP := wW_arr hW hK hc.1
  rw [hc.2] at hP
  exact va_lald C.1 C.2.1 C.2.2.2.2.2.1.1 hP 0 3 rfl rfl hin d (kk H ls locs hW hl hf)
theorem V_aald (C : Cx X G own cc nL ret rm tb) {a c : Nat} {i : Int32} (t : Nat) (ht : 4 ≤ t ∧ t ≤ 7) (hK : sK S a = c) (hc : 100 ≤ c ∧ c % 10 = t) (hin : vp_in i (sL S a)) (d : decode cc pc = .ok (.aaload, 1)) (kk : V X G nL Q k n (pc + 1) lo (va_rf (sQ S a i.toNatClampNeg) :: st) S) : V X G nL Q k n pc lo (.int i :: .ref a :: st) S := by
  intro H ls locs hW hl hf
  have hP := wW_arr hW hK hc.1
  rw [hc.2] at hP
  have e : wA G S a t = .inl (G.2.1 t, sL S a, .inr (.inr (.inr (.inr (sQ S a))))) := by
    rcases (show t = 4 ∨ t = 5 ∨ t = 6 ∨ t = 7 by omega) with rfl | rfl | rfl | rfl <;> rfl
  rw [e] at hP
  have hlt : i.toNatClampNeg < sL S a := Nat.not_le.mp fun q => hin (Or.inr q)
  have hr : (tyA t).isReference = true := by
    rcases (show t = 4 ∨ t = 5 ∨ t = 6 ∨ t = 7 by omega) with rfl | rfl | rfl | rfl <;> rfl
  exact W.aald (v := va_rf (sQ S a i.toNatClampNeg)) (ty := tyA t) C.1 C.2.1 (hP 0 _ rfl) ((wK_arr C.2.2.2.2.2.1 (by omega) ht.2).1 _ (fun j => va_rf (sQ S a j))) hr (fun q => by cases q) (by show ¬ (i < 0 ∨ (arrV _ _ _).slots.size ≤ _); rw [arrV_size]; exact hin) (by show (arrV _ _ _).slots[_]? = _; rw [arrV_read _ _ hlt]) rfl rfl d (kk H ls locs hW hl hf)
theorem V_alen (C : Cx X G own cc nL ret rm tb) {a c : Nat} {v : Int32} (hK : sK S a = c) (hc : 100 ≤ c ∧ 1 ≤ c % 10 ∧ c % 10 ≤ 7) (hv : Int32.ofNat (sL S a) = v) (d : decode cc pc = .ok (.arraylength, 1)) (kk : V X G nL Q k n (pc + 1) lo (.int v :: st) S) : V X G nL Q k n pc lo (.ref a :: st) S := by
  intro H ls locs hW hl hf
  have hP := wW_arr hW hK hc.1
  have e : ∃ x : vp_A, wA G S a (c % 10) = .inl (G.2.1 (c % 10), x) ∧ x.1 = sL S a := by
    rcases (show c % 10 = 1 ∨ c % 10 = 2 ∨ c % 10 = 3 ∨ c % 10 = 4 ∨ c % 10 = 5 ∨ c % 10 = 6 ∨ c % 10 = 7 by omega) with h | h | h | h | h | h | h <;> rw [h] <;> exact ⟨_, rfl, rfl⟩
  obtain ⟨x, e1, e2⟩ := e
  rw [e1] at hP
  exact va_alen C.1 C.2.1 C.2.2.2.2.2.1.1 hP 0 (c % 10) rfl (tyA_at G hc.2.1 hc.2.2) (by rw [e2]; exact hv) d (kk H ls locs hW hl hf)
theorem arr_put {S' : sS} {H H' : Heap} {a c : Nat} (hW : wW G S H) (hK : sK S a = c) (hc : 100 ≤ c) (hk : ∀ b, sK S' b = sK S b) (he : ∀ b, b ≠ a → wE G S' b = wE G S b) (h1 : va_at G.1 vwCl (a, wA G S' a (c % 10)) H') (h2 : H'.size = H.size) (h3 : ∀ q : Nat, q ≠ a → H'[q]? = H[q]?) : wW G S' H' :=
  wW_upd hW (by omega) hk he (by rw [wE_arr (by rw [hk]; exact hK) hc]; exact h1) h2 h3
theorem locs_put {H : Heap} {locs : List Loc} {a j : Nat} (hW : wW G S H) (ha : sK S a ≠ 0) (hf : ∀ z ∈ locs, wB G ≤ z.base) : ∀ z ∈ locs ++ [(⟨a, j⟩ : Loc)], wB G ≤ z.base := fun z hz => by
  rcases List.mem_append.mp hz with h | h
  · exact hf z h
  · rw [List.mem_singleton.mp h]
    exact (hW.2.2 a ha).1
theorem V_iast (C : Cx X G own cc nL ret rm tb) {a c : Nat} {i v : Int32} (hK : sK S a = c) (hc : 100 ≤ c ∧ c % 10 = 1) (hin : vp_in i (sL S a)) (d : decode cc pc = .ok (.iastore, 1)) (kk : V X G nL Q k n (pc + 1) lo st (pA S a i.toNatClampNeg v)) : V X G nL Q k n pc lo (.int v :: .int i :: .ref a :: st) S := by
  intro H ls locs hW hl hf
  have hP := wW_arr hW hK hc.1
  rw [hc.2] at hP
  refine W.iast C.1 C.2.1 (hP 0 _ rfl) ((wK_arr C.2.2.2.2.2.1 (j := 1) (by omega) (by omega)).1 _ (fun j => .int (sA S a j))) (fun q => by cases q) (by show ¬ (i < 0 ∨ (arrV _ _ _).slots.size ≤ _); rw [arrV_size]; exact hin) rfl rfl d fun H1 e z oq => ?_
  refine kk H1 ls _ (arr_put hW hK hc.1 (fun _ => rfl) (fun b hb => wE_eq rfl rfl (fun _ => rfl) (fun _ => rfl) (up2_far hb) rfl rfl) ?_ z oq) hl (locs_put hW (show sK S a ≠ 0 by rw [hK]; omega) hf)
  rw [hc.2]
  show H1[a]? = some (vp_cell _ _)
  rw [e]
  dsimp only
  rw [vp_cell_i, vp_cell_i, arrV_store]
  congr 2
  funext q
  by_cases hq : q = i.toNatClampNeg
  · subst hq
    simp only [updV, if_pos]
    exact congrArg Value.int up2_s.symm
  · simp only [updV, if_neg hq]
    exact congrArg Value.int (up2_n2 hq).symm
theorem V_last (C : Cx X G own cc nL ret rm tb) {a c : Nat} {i : Int32} {v : Int64} (hK : sK S a = c) (hc : 100 ≤ c ∧ c % 10 = 3) (hin : vp_in i (sL S a)) (d : decode cc pc = .ok (.lastore, 1)) (kk : V X G nL Q k n (pc + 1) lo st (pJ S a i.toNatClampNeg v)) : V X G nL Q k n pc lo (.long v :: .int i :: .ref a :: st) S := by
  intro H ls locs hW hl hf
  have hP := wW_arr hW hK hc.1
  rw [hc.2] at hP
  refine W.last C.1 C.2.1 (hP 0 _ rfl) ((wK_arr C.2.2.2.2.2.1 (j := 3) (by omega) (by omega)).1 _ (fun j => .long (sJ S a j))) (fun q => by cases q) (by show ¬ (i < 0 ∨ (arrV _ _ _).slots.size ≤ _); rw [arrV_size]; exact hin) rfl rfl d fun H1 e z oq => ?_
  refine kk H1 ls _ (arr_put hW hK hc.1 (fun _ => rfl) (fun b hb => wE_eq rfl rfl (fun _ => rfl) (fun _ => rfl) rfl (up2_far hb) rfl) ?_ z oq) hl (locs_put hW (show sK S a ≠ 0 by rw [hK]; omega) hf)
  rw [hc.2]
  show H1[a]? = some (vp_cell _ _)
  rw [e]
  dsimp only
  rw [vp_cell_l, vp_cell_l, arrV_store]
  congr 2
  funext q
  by_cases hq : q = i.toNatClampNeg
  · subst hq
    simp only [updV, if_pos]
    exact congrArg Value.long up2_s.symm
  · simp only [updV, if_neg hq]
    exact congrArg Value.long (up2_n2 hq).symm
/-- a store of an object of class ci into an array of its class (code t) -/
theorem V_aast (C : Cx X G own cc nL ret rm tb) {a c v : Nat} {i : Int32} (t ci : Nat) (ht : 4 ≤ t ∧ t ≤ 6) (hci : ci < 50) (hty : ∃ r : vw_C, vwCl[ci]? = some r ∧ tyA t = .object r.1) (hK : sK S a = c) (hc : 100 ≤ c ∧ c % 10 = t) (hv : sK S v = ci + 1) (hin : vp_in i (sL S a)) (d : decode cc pc = .ok (.aastore, 1)) (kk : V X G nL Q k n (pc + 1) lo st (pQ S a i.toNatClampNeg (some v))) : V X G nL Q k n pc lo (.ref v :: .int i :: .ref a :: st) S := by
  intro H ls locs hW hl hf
  obtain ⟨r, hr, hty⟩ := hty
  have hP := wW_arr hW hK hc.1
  rw [hc.2] at hP
  have e : ∀ S : sS, wA G S a t = .inl (G.2.1 t, sL S a, .inr (.inr (.inr (.inr (sQ S a))))) := fun S => by
    rcases (show t = 4 ∨ t = 5 ∨ t = 6 by omega) with rfl | rfl | rfl <;> rfl
  rw [e] at hP
  have hlt : i.toNatClampNeg < sL S a := Nat.not_le.mp fun q => hin (Or.inr q)
  have h0 : ¬ i < 0 := fun q => hin (Or.inl q)
  have hKK := C.2.2.2.2.2.1.1
  obtain ⟨r', hr', cellV, g1, g2, g3, -⟩ := wW_obj hW hv hci 0 _ rfl
  have hcls := (hKK.1 ci r hr).2
  have hRA := (wK_arr C.2.2.2.2.2.1 (j := t) (by omega) (by omega)).2
  rw [hty] at hRA
  obtain ⟨kA, comp, k1, k2, k3, -⟩ := hRA
  have hcomp : comp = G.1.1 ci := Option.some.inj (k3.symm.trans hcls.1)
  subst hcomp
  obtain ⟨kC, hkC, -⟩ := hcls.2
  refine W.aast C.1 C.2.1 (hP 0 _ rfl) (fun q h => by cases h) (fun h => by cases h) k1 k2 rfl hkC ⟨h0, by show _ < (arrV _ _ _).slots.size; rw [arrV_size]; exact hlt⟩ g1 (fun q h => by rw [g3] at h; cases h) (by rw [g2]; exact hkC) (by rw [g2]; exact va_assign hcls) rfl rfl d fun H1 e1 z oq => ?_
  refine kk H1 ls _ (arr_put hW hK hc.1 (fun _ => rfl) (fun b hb => wE_eq rfl rfl (fun _ => rfl) (fun _ => rfl) rfl rfl (up2_far hb)) ?_ z oq) hl (locs_put hW (show sK S a ≠ 0 by rw [hK]; omega) hf)
  rw [hc.2, e]
  show H1[a]? = some (vp_cell _ _)
  rw [e1]
  dsimp only
  rw [vp_cell_q, vp_cell_q, arrV_store]
  congr 2
  funext q
  by_cases hq : q = i.toNatClampNeg
  · subst hq
    simp only [updV, if_pos]
    exact (congrArg va_rf (show sQ (pQ S a i.toNatClampNeg (some v)) a i.toNatClampNeg = some v from up2_s)).symm
  · simp only [updV, if_neg hq]
    exact (congrArg va_rf (up2_n2 hq)).symm
/-- a world with one cell more -/
theorem wW_push {S' : sS} {H H' : Heap} (hW : wW G S H) (hk : ∀ b, b ≠ H.size → sK S' b = sK S b) (he : ∀ b, b ≠ H.size → wE G S' b = wE G S b) (h1 : va_at G.1 vwCl (H.size, wE G S' H.size) H') (h2 : H'.size = H.size + 1) (h3 : ∀ q : Nat, q < H.size → H'[q]? = H[q]?) : wW G S' H' := by
  refine ⟨by rw [h2]; exact Nat.le_succ_of_le hW.1, fun q hq => by rw [h3 q (Nat.lt_of_lt_of_le hq hW.1)]; exact hW.2.1 q hq, fun b hb => ?_⟩
  by_cases e : b = H.size
  · rw [e]; exact ⟨hW.1, h1⟩
  · rw [hk b e] at hb
    obtain ⟨g1, g2⟩ := hW.2.2 b hb
    refine ⟨g1, ?_⟩
    rw [he b e]
    exact g2.kept (h3 b g2.lt)
theorem wW_free {H : Heap} (hW : wW G S H) : ∀ x, H.size ≤ x → sK S x = 0 := fun x hx => by
  by_cases h : sK S x = 0
  · exact h
  · exact absurd ((hW.2.2 x h).2.lt) (by show ¬ x < _; omega)
/-- what the tables say of 'new' -/
def nL9 (own : String) (idx ci : Nat) : Prop := Cond.classLink own idx (vC ci).1 ∈ lw_good ∧ Cond.instantiable (vC ci).1 (nF ci) ∈ lw_good ∧ Cond.initialized (vC ci).1 ∈ lw_good ∧ ∀ j, j < nF ci → defaultValue (vT ci j) = if fRef (100 * ci + j) = true then .null else .int 0
theorem V_new (C : Cx X G own cc nL ret rm tb) (ci : Nat) {idx : Nat} (hF : cF ci) (hN : nL9 own idx ci) (hci : ci < 50) (hcells : k + 1 ≤ rm.cells) (hslots : n + nF ci ≤ rm.slots) (d : decode cc pc = .ok (.new idx, 3))
    (kk : ∀ q : Nat, wB G ≤ q → (∀ x, q ≤ x → sK S x = 0) → V X G nL Q (k + 1) (n + nF ci) (pc + 3) lo (.ref q :: st) (nO S (ci + 1) q)) : V X G nL Q k n pc lo st S := by
  intro H ls locs hW hl hf
  obtain ⟨r, h1, h2, h3, h4, h5, h6⟩ := hF
  obtain ⟨n1, n2, n3, n4⟩ := hN
  rw [h2] at n1 n2 n3
  have hts := C.2.2.2.2.1
  have hKn := C.2.2.2.2.2.1.1.1 ci _ h1
  have hR := C.2.2.2.2.2.2.2.2.2.2.1
  refine W.newcK C.1 C.2.1 C.2.2.2.1 (hts _ n1) (hts _ n2) (hts _ n3) rfl d (by rw [hR]; exact hcells) (by rw [hR]; exact hslots) hKn.2.1 rfl fun H1 kC hkC e1 z1 o1 => ?_
  have hk9 : sK (nO S (ci + 1) H.size) H.size = ci + 1 := up1_s
  refine kk H.size hW.1 (wW_free hW) H1 ls locs (wW_push hW (fun b hb => up1_n hb) (fun b hb => wE_eq (up1_n hb) rfl (fun f => if_neg hb) (fun f => if_neg hb) rfl rfl rfl) ?_ z1 o1) hl hf
  rw [wE_obj hk9 hci]
  refine ⟨r, h1, (u_born (vT ci) hts h4 hKn hkC e1 h5).to fun j hj => ?_⟩
  rw [h3] at hj
  rw [sFs_V _ hj, n4 j hj]
  unfold sV
  by_cases hfr : fRef (100 * ci + j) = true
  · rw [if_pos hfr, if_pos hfr]
    show _ = va_rf (if H.size = H.size then none else _)
    rw [if_pos rfl]
    rfl
  · rw [if_neg hfr, if_neg hfr]
    show _ = Value.int (if H.size = H.size then 0 else _)
    rw [if_pos rfl]
theorem nA_he {c m a : Nat} : ∀ b, b ≠ a → wE G (nA S c m a) b = wE G S b := fun b hb => wE_eq (up1_n hb) (up1_n hb) (fun f => rfl) (fun f => rfl) (if_neg hb) (if_neg hb) (if_neg hb)
/-- new int[], boolean[], long[] -/
theorem V_newarr (C : Cx X G own cc nL ret rm tb) (c : Nat) {t m : Nat} {at9 : ArrayType} {i : Int32} (hty : newarray.typeOf at9 = tyA t) (ht : 1 ≤ t ∧ t ≤ 3) (hc : 100 ≤ c ∧ c % 10 = t) (hw : Cond.arrayClass (tyA t) ∈ lw_good) (hi : ¬ i < 0) (hm : i.toNatClampNeg = m) (hbytes : m * 8 ≤ 536870912) (hcells : k + 1 ≤ rm.cells) (hslots : n + m ≤ rm.slots) (d : decode cc pc = .ok (.newarray at9, 2))
    (kk : ∀ q : Nat, wB G ≤ q → (∀ x, q ≤ x → sK S x = 0) → V X G nL Q (k + 1) (n + m) (pc + 2) lo (.ref q :: st) (nA S c m q)) : V X G nL Q k n pc lo (.int i :: st) S := by
  intro H ls locs hW hl hf
  have hR := C.2.2.2.2.2.2.2.2.2.2.1
  have hcb : componentBytes (newarray.typeOf at9) ≤ 8 := by
    rw [hty]
    rcases (show t = 1 ∨ t = 2 ∨ t = 3 by omega) with rfl | rfl | rfl <;> decide
  refine va_newaK C.1 C.2.1 (by rw [hty]; exact C.2.2.2.2.1 _ hw) rfl d rfl hi hm (Nat.le_trans (Nat.mul_le_mul_left m hcb) hbytes) (by rw [hR]; exact hcells) (by rw [hR]; exact hslots) rfl fun H1 cA e1 z1 o1 hAr hNm => ?_
  have hRA := (wK_arr C.2.2.2.2.2.1 (j := t) (by omega) (by omega)).2
  have hcA : cA = G.2.1 t := by
    rw [hty] at hNm
    rcases (show t = 1 ∨ t = 2 ∨ t = 3 by omega) with rfl | rfl | rfl <;> exact Option.some.inj (hNm.symm.trans hRA)
  refine kk H.size hW.1 (wW_free hW) H1 ls locs (wW_push hW (fun b hb => up1_n hb) nA_he ?_ z1 o1) hl hf
  rw [wE_arr (c := c) (show sK (nA S c m H.size) H.size = c from up1_s) hc.1, hc.2]
  rw [hty, hcA] at e1
  have eL : sL (nA S c m H.size) H.size = m := up1_s
  have eA : sA (nA S c m H.size) H.size = fun _ => 0 := if_pos rfl
  have eJ : sJ (nA S c m H.size) H.size = fun _ => 0 := if_pos rfl
  rcases (show t = 1 ∨ t = 2 ∨ t = 3 by omega) with rfl | rfl | rfl
  · show H1[H.size]? = some (vp_cell _ (sL _ _, .inl (sA _ _)))
    rw [eL, eA]; exact e1
  · show H1[H.size]? = some (vp_cell _ (sL _ _, .inl (sA _ _)))
    rw [eL, eA]; exact e1
  · show H1[H.size]? = some (vp_cell _ (sL _ _, .inr (.inl (sJ _ _))))
    rw [eL, eJ]; exact e1
/-- new C[] -/
theorem V_anew (C : Cx X G own cc nL ret rm tb) (c : Nat) {t m idx : Nat} {cn : String} {i : Int32} (hty : tyA t = .object cn) (ht : 4 ≤ t ∧ t ≤ 6) (hc : 100 ≤ c ∧ c % 10 = t) (hw : Cond.classLink own idx cn ∈ lw_good) (hi : ¬ i < 0) (hm : i.toNatClampNeg = m) (hbytes : m * 4 ≤ 536870912) (hcells : k + 1 ≤ rm.cells) (hslots : n + m ≤ rm.slots) (d : decode cc pc = .ok (.anewarray idx, 3))
    (kk : ∀ q : Nat, wB G ≤ q → (∀ x, q ≤ x → sK S x = 0) → V X G nL Q (k + 1) (n + m) (pc + 3) lo (.ref q :: st) (nA S c m q)) : V X G nL Q k n pc lo (.int i :: st) S := by
  intro H ls locs hW hl hf
  subst hm
  have hR := C.2.2.2.2.2.2.2.2.2.2.1
  have hov : aOv (.object cn) X.2.2.2.2.1 := by
    obtain ⟨-, ⟨h2, h3, h4, -⟩, -⟩ := C.2.2.2.2.2.1
    rcases (show t = 4 ∨ t = 5 ∨ t = 6 by omega) with rfl | rfl | rfl
    · rw [← hty]; exact h2
    · rw [← hty]; exact h3
    · rw [← hty]; exact h4
  refine W.anew C.1 C.2.1 C.2.2.2.1 (C.2.2.2.2.1 _ hw) (va_AO.use hov) rfl d rfl hi hbytes (by rw [hR]; exact hcells) (by rw [hR]; exact hslots) fun cA kA comp f1 f2 f3 f4 => ?_
  have hRA := (wK_arr C.2.2.2.2.2.1 (j := t) (by omega) (by omega)).2
  rw [hty] at hRA
  obtain ⟨kB, comp2, k1, k2, k3, k4⟩ := hRA
  have hcA : cA = G.2.1 t := Option.some.inj (f1.symm.trans k4)
  generalize hH1 : H.push ({ cls := cA, slots := Array.replicate i.toNatClampNeg .null, vm := .none } : Cell) = H1
  have z1 : H1.size = H.size + 1 := by rw [← hH1, Array.size_push]
  have e1 : H1[H.size]? = some (arrV cA i.toNatClampNeg (fun _ => .null)) := by rw [← hH1, Array.getElem?_push_size, ← arrV_new]
  have o1 : ∀ q : Nat, q < H.size → H1[q]? = H[q]? := fun q hq => by rw [← hH1, Array.getElem?_push, if_neg (Nat.ne_of_lt hq)]
  refine kk H.size hW.1 (wW_free hW) H1 ls locs (wW_push hW (fun b hb => up1_n hb) nA_he ?_ z1 o1) hl hf
  rw [wE_arr (c := c) (show sK (nA S c i.toNatClampNeg H.size) H.size = c from up1_s) hc.1, hc.2]
  rw [hcA] at e1
  have eL : sL (nA S c i.toNatClampNeg H.size) H.size = i.toNatClampNeg := up1_s
  have eQ : sQ (nA S c i.toNatClampNeg H.size) H.size = fun _ => none := if_pos rfl
  have e : wA G (nA S c i.toNatClampNeg H.size) H.size t = .inl (G.2.1 t, i.toNatClampNeg, .inr (.inr (.inr (.inr (fun _ => none))))) := by
    rcases (show t = 4 ∨ t = 5 ∨ t = 6 by omega) with rfl | rfl | rfl <;> (show (Sum.inl (_, sL _ _, Sum.inr (Sum.inr (Sum.inr (Sum.inr (sQ _ _))))) : va_E) = _) <;> rw [eL, eQ]
  rw [e]
  exact e1
/-- an int array of the world outside: the script, Plan's ranks -/
theorem V_xlen (C : Cx X G own cc nL ret rm tb) {t N : Nat} {f : Nat → Value} (hT : va_T .int t N f (wN G) X.2.2.2.2.1 G.2.2) (d : decode cc pc = .ok (.arraylength, 1)) (kk : V X G nL Q k n (pc + 1) lo (.int (Int32.ofNat N) :: st) S) : V X G nL Q k n pc lo (.ref t :: st) S := by
  intro H ls locs hW hl hf
  obtain ⟨cell, h1, h2, h3, h4, h5, h6, h7⟩ := hT
  have ht : t < wB G := (Array.getElem?_eq_some_iff.mp h1).1
  exact W.alen C.1 C.2.1 (by rw [hW.2.1 t ht]; exact h1) h2 h5 rfl rfl d (kk H ls locs hW hl hf)
theorem V_xld (C : Cx X G own cc nL ret rm tb) {t N : Nat} {f : Nat → Value} {i v : Int32} (hT : va_T .int t N f (wN G) X.2.2.2.2.1 G.2.2) (hin : vp_in i N) (hv : f i.toNatClampNeg = .int v) (d : decode cc pc = .ok (.iaload, 1)) (kk : V X G nL Q k n (pc + 1) lo (.int v :: st) S) : V X G nL Q k n pc lo (.int i :: .ref t :: st) S := by
  intro H ls locs hW hl hf
  obtain ⟨cell, h1, h2, h3, h4, h5, h6, h7⟩ := hT
  have ht : t < wB G := (Array.getElem?_eq_some_iff.mp h1).1
  have hlt : i.toNatClampNeg < N := Nat.not_le.mp fun q => hin (Or.inr q)
  exact W.iald (v := .int v) C.1 C.2.1 (by rw [hW.2.1 t ht]; exact h1) h2 h3 (fun q => q.elim (fun z => hin (Or.inl z)) (fun z => by omega)) (by rw [h6 _ hlt, hv]) rfl rfl d (kk H ls locs hW hl hf)
theorem V_ranks (C : Cx X G own cc nL ret rm tb) {idx : Nat} (hw : Cond.fieldLink own idx "FosterHouse$Plan" "RANKS" "[I" ∈ lw_good) (d : decode cc pc = .ok (.getstatic idx, 3)) (kk : ∀ t : Nat, va_T .int t 5 (fun j => .int ([14641, 1331, 121, 11, 1].getD j 0)) (wN G) X.2.2.2.2.1 G.2.2 → V X G nL Q k n (pc + 3) lo (.ref t :: st) S) : V X G nL Q k n pc lo st S := by
  intro H ls locs hW hl hf
  obtain ⟨t, hZ, hT⟩ := C.2.2.2.2.2.1.2.2.2.1.1
  obtain ⟨cf, kf, fi, f, a, cell, h1, h2, h3, h4, h5, h6, h7, h8⟩ := hZ
  have ha : a < wB G := (Array.getElem?_eq_some_iff.mp h5).1
  exact W.gets C.1 C.2.1 C.2.2.2.1 (C.2.2.2.2.1 _ hw) h1 h2 h3 h4 (by rw [hW.2.1 a ha]; exact h5) (fun e => by rw [e] at h6; cases h6) h7 rfl d (kk t hT H ls locs hW hl hf)
end VA

