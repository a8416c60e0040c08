/-! ROWS THAT READ AND WRITE THE STORE. -/
def vC (ci : Nat) : vw_C := vwCl.getD ci (RX0, TX0, 0)
def vT : Nat → Nat → FieldType
  | 0 => tyX0 | 1 => tyX1 | 2 => tyX2 | 3 => tyX3 | 4 => tyX4 | 5 => tyX5 | 6 => tyX6 | 7 => tyX7 | 8 => tyX8 | _ => tyX9
/-- what the tables say of a class -/
def cF (ci : Nat) : Prop := ∃ r : vw_C, vwCl[ci]? = some r ∧ vC ci = r ∧ r.2.2 = nF ci ∧ (∀ w ∈ u_ws r.1 r.2.1 r.2.2, w ∈ lw_good) ∧ (∀ k, k < r.2.2 → parseFieldDescriptor (r.2.1 k).2.2.1 = some (vT ci k)) ∧ ∀ a, a < r.2.2 → ∀ b, b < r.2.2 → a ≠ b → (r.2.1 a).2.1 ≠ (r.2.1 b).2.1
/-- what the tables say of a field's entry in a pool -/
def fL (own : String) (idx ci kf : Nat) : Prop := kf < nF ci ∧ Cond.fieldLink own idx ((vC ci).2.1 kf).1 ((vC ci).2.1 kf).2.1 ((vC ci).2.1 kf).2.2.1 ∈ lw_good
theorem sFs_len (S : sS) (c a : Nat) : (sFs S c a).length = nF c := by simp [sFs]
theorem sFs_get (S : sS) {c a k : Nat} (h : k < nF c) : (sFs S c a)[k]? = some (sV S (100 * c + k) a) := by
  simp [sFs, h]
theorem sFs_V (S : sS) {c a k : Nat} (h : k < nF c) : vp_V (sFs S c a) k = sV S (100 * c + k) a := by
  unfold vp_V
  rw [List.getD_eq_getElem?_getD, sFs_get S h]
  rfl
theorem wE_obj {G : gG} {S : sS} {a c : Nat} (h : sK S a = c + 1) (hc : c < 50) : wE G S a = .inr (c, sFs S c a) := by
  unfold wE
  rw [h, if_pos (by omega)]
  rfl
theorem wE_arr {G : gG} {S : sS} {a c : Nat} (h : sK S a = c) (hc : 100 ≤ c) : wE G S a = wA G S a (c % 10) := by
  unfold wE
  rw [h, if_neg (by omega)]
theorem wE_eq {G : gG} {S S' : sS} {a : Nat} (h1 : sK S' a = sK S a) (h2 : sL S' a = sL S a) (h3 : ∀ f, sI S' f a = sI S f a) (h4 : ∀ f, sR S' f a = sR S f a) (h5 : sA S' a = sA S a) (h6 : sJ S' a = sJ S a) (h7 : sQ S' a = sQ S a) : wE G S' a = wE G S a := by
  have e : ∀ c, sFs S' c a = sFs S c a := fun c => by
    unfold sFs sV
    simp only [h3, h4]
  unfold wE wA
  rw [h1, h2, h5, h6, h7, e]
theorem wW_obj {G : gG} {S : sS} {H : Heap} (hW : wW G S H) {a ci : Nat} (hK : sK S a = ci + 1) (hci : ci < 50) : va_P G.1 vwCl [(a, .inr (ci, sFs S ci a))] H := by
  intro k q hq
  have hz : k < 1 := (List.getElem?_eq_some_iff.mp hq).1
  rw [show k = 0 by omega] at hq
  cases hq
  have h := (hW.2.2 a (by omega)).2
  rwa [wE_obj hK hci] at h
theorem wW_arr {G : gG} {S : sS} {H : Heap} (hW : wW G S H) {a c : Nat} (hK : sK S a = c) (hc : 100 ≤ c) : va_P G.1 vwCl [(a, wA G S a (c % 10))] H := by
  intro k q hq
  have hz : k < 1 := (List.getElem?_eq_some_iff.mp hq).1
  rw [show k = 0 by omega] at hq
  cases hq
  have h := (hW.2.2 a (by omega)).2
  rwa [wE_arr hK hc] at h
theorem up2_far {α : Type} {f : Nat → Nat → α} {a b x : Nat} {v : α} (h : x ≠ a) : up2 f a b v x = f x := funext fun y => up2_n1 h
/-- a world with one cell changed -/
theorem wW_upd {G : gG} {S S' : sS} {H H' : Heap} {a : Nat} (hW : wW G S H) (ha : sK S a ≠ 0) (hk : ∀ b, sK S' b = sK S b) (he : ∀ b, b ≠ a → wE G S' b = wE G S b) (h1 : va_at G.1 vwCl (a, wE G S' a) H') (h2 : H'.size = H.size) (h3 : ∀ q : Nat, q ≠ a → H'[q]? = H[q]?) : wW G S' H' := by
  have hB := (hW.2.2 a ha).1
  refine ⟨by rw [h2]; exact hW.1, fun q hq => by rw [h3 q (by omega)]; exact hW.2.1 q hq, fun b hb => ?_⟩
  rw [hk] at hb
  obtain ⟨g1, g2⟩ := hW.2.2 b hb
  refine ⟨g1, ?_⟩
  by_cases e : b = a
  · rw [e]; exact h1
  · rw [he b e]
    exact g2.kept (h3 b e)
section VH
variable {X : xX} {G : gG} {own : String} {cc : ByteArray} {nL : Nat} {ret : Option FieldType} {rm : Room} {tb : List ExceptionTableEntry} {Q : State → Prop} {k n pc : Nat} {lo : lO} {st : List Value} {S : sS}
theorem V_get (C : Cx X G own cc nL ret rm tb) {ci kf idx a : Nat} (hF : cF ci) (hL : fL own idx ci kf) (hci : ci < 50) (d : decode cc pc = .ok (.getfield idx, 3)) (hK : sK S a = ci + 1) (kk : V X G nL Q k n (pc + 3) lo (sV S (100 * ci + kf) a :: st) S) : V X G nL Q k n pc lo (.ref a :: st) S := by
  intro H ls locs hW hl hf
  obtain ⟨r, h1, h2, h3, h4, h5, h6⟩ := hF
  obtain ⟨g1, g2⟩ := hL
  rw [h2] at g2
  exact va_get C.1 C.2.1 (C := r.1) (T := r.2.1) (N := r.2.2) (ci := ci) C.2.2.2.2.1 h4 C.2.2.2.1 C.2.2.2.2.2.1.1 (wW_obj hW hK hci) 0 rfl h1 kf (by rw [h3]; exact g1) (C.2.2.2.2.1 _ g2) (fun x h => h) (sFs_get S g1) d (kk H ls locs hW hl hf)
theorem V_getI (C : Cx X G own cc nL ret rm tb) (ci kf : Nat) {f idx a : Nat} (hf : 100 * ci + kf = f) (hF : cF ci) (hL : fL own idx ci kf) (hci : ci < 50) (hr : fRef f = false) (d : decode cc pc = .ok (.getfield idx, 3)) (hK : sK S a = ci + 1) (kk : V X G nL Q k n (pc + 3) lo (.int (sI S f a) :: st) S) : V X G nL Q k n pc lo (.ref a :: st) S := by
  refine V_get C hF hL hci d hK ?_
  rw [hf]
  unfold sV
  rw [if_neg (by rw [hr]; decide)]
  exact kk
theorem V_getR (C : Cx X G own cc nL ret rm tb) (ci kf : Nat) {f idx a : Nat} (hf : 100 * ci + kf = f) (hF : cF ci) (hL : fL own idx ci kf) (hci : ci < 50) (hr : fRef f = true) (d : decode cc pc = .ok (.getfield idx, 3)) (hK : sK S a = ci + 1) (kk : V X G nL Q k n (pc + 3) lo (va_rf (sR S f a) :: st) S) : V X G nL Q k n pc lo (.ref a :: st) S := by
  refine V_get C hF hL hci d hK ?_
  rw [hf]
  unfold sV
  rw [if_pos hr]
  exact kk
/-- a field that is known to hold a reference -/
theorem V_getS (C : Cx X G own cc nL ret rm tb) (ci kf : Nat) {f idx a x : Nat} (hf : 100 * ci + kf = f) (hF : cF ci) (hL : fL own idx ci kf) (hci : ci < 50) (hr : fRef f = true) (d : decode cc pc = .ok (.getfield idx, 3)) (hK : sK S a = ci + 1) (hx : sR S f a = some x) (kk : V X G nL Q k n (pc + 3) lo (.ref x :: st) S) : V X G nL Q k n pc lo (.ref a :: st) S := by
  refine V_getR C ci kf hf hF hL hci hr d hK ?_
  rw [hx]
  exact kk
/-- the cell of an object with field kf written: the new world -/
theorem wW_put {G : gG} {S S' : sS} {H H' : Heap} {a ci kf : Nat} {v : Value} {r : vw_C} {cell : Cell} (hW : wW G S H) (hK : sK S a = ci + 1) (hci : ci < 50) (h1 : vwCl[ci]? = some r) (h3 : r.2.2 = nF ci) (hkf : kf < nF ci)
    (hap : ∀ x y, x < r.2.2 → y < r.2.2 → x ≠ y → (G.1.2 ci) x ≠ (G.1.2 ci) y)
    (q2 : cell.cls = G.1.1 ci) (q3 : cell.vm = .none) (q4 : ∀ j, j < r.2.2 → cell.slots[(G.1.2 ci) j]? = some (vp_V (sFs S ci a) j))
    (hk : ∀ b, sK S' b = sK S b) (he : ∀ b, b ≠ a → wE G S' b = wE G S b) (hv : sV S' (100 * ci + kf) a = v) (ho : ∀ j, j ≠ kf → sV S' (100 * ci + j) a = sV S (100 * ci + j) a)
    (e1 : H'[a]? = some (cell.setSlot ((G.1.2 ci) kf) v)) (e2 : H'.size = H.size) (e3 : ∀ q : Nat, q ≠ a → H'[q]? = H[q]?) : wW G S' H' := by
  refine wW_upd hW (by omega) hk he ?_ e2 e3
  rw [wE_obj (by rw [hk]; exact hK) hci]
  refine ⟨r, h1, t_OB.to (V := updV (vp_V (sFs S ci a)) kf v) ⟨_, e1, q2, q3, t_set q4 hap (by rw [h3]; exact hkf) v⟩ (fun j hj => ?_)⟩
  rw [h3] at hj
  rw [sFs_V S' hj]
  by_cases e : j = kf
  · subst e
    rw [hv]
    simp [updV]
  · rw [ho j e]
    simp only [updV, if_neg e]
    rw [sFs_V S hj]
/-- what a store into a field asks of the tables -/
def pL (own : String) (idx ci kf : Nat) (fin : Bool) (ty : FieldType) : Prop := fL own idx ci kf ∧ ((vC ci).2.1 kf).2.2.2 = fin ∧ parseFieldDescriptor ((vC ci).2.1 kf).2.2.1 = some ty
theorem V_put (C : Cx X G own cc nL ret rm tb) {ci kf idx a : Nat} {ty : FieldType} {v : Value} {S' : sS} (hF : cF ci) (hL : pL own idx ci kf false ty) (hci : ci < 50) (d : decode cc pc = .ok (.putfield idx, 3)) (hK : sK S a = ci + 1) (hn : narrow ty v = v) (hfit : fits ty v = true)
    (hk : ∀ b, sK S' b = sK S b) (he : ∀ b, b ≠ a → wE G S' b = wE G S b) (hv : sV S' (100 * ci + kf) a = v) (ho : ∀ j, j ≠ kf → sV S' (100 * ci + j) a = sV S (100 * ci + j) a)
    (kk : V X G nL Q k n (pc + 3) lo st S') : V X G nL Q k n pc lo (v :: .ref a :: st) S := by
  intro H ls locs hW hl hf
  obtain ⟨r, h1, h2, h3, h4, h5, h6⟩ := hF
  obtain ⟨⟨g1, g2⟩, g3, g4⟩ := hL
  rw [h2] at g2 g3 g4
  have hkf : kf < r.2.2 := by rw [h3]; exact g1
  have hKK := C.2.2.2.2.2.1.1
  have hts := C.2.2.2.2.1
  have hap := va_apart (own := own) hts h4 (vT ci) h5 h6 hKK h1
  obtain ⟨r', hr', cell, q1, q2, q3, q4⟩ := wW_obj hW hK hci 0 _ rfl
  have er : r' = r := Option.some.inj (hr'.symm.trans h1)
  subst er
  obtain ⟨hS, hfc, kC, hkC, hkind⟩ := hKK.1 ci _ h1
  obtain ⟨cf, kf9, fi, f, hi, hsl⟩ := hS kf hkf
  have hlay := hts _ (h4 _ (u_in_lay hkf))
  unfold u_lay at hlay
  rw [if_neg (by rw [g3]; decide)] at hlay
  have hst := (u_facts hfc hkC (u_lays hts h4 hkf) hi).1
  have h7 := u_store hfc hkC hkind hlay hi g4 hn hfit
  refine W.putK C.1 C.2.1 (f := f) ⟨C.2.2.2.1, hts _ g2, ⟨_, _, _, hi⟩, hst⟩ (by rw [q2]; exact h7) q1 q3 (by rw [hsl]; exact k2_hasslot (q4 kf hkf)) rfl rfl d fun H' e1 e2 e3 => ?_
  rw [hsl] at e1 ⊢
  refine kk H' ls _ (wW_put hW hK hci h1 h3 g1 hap q2 q3 q4 hk he hv ho e1 e2 e3) hl fun z hz => ?_
  rcases List.mem_append.mp hz with h | h
  · exact hf z h
  · rw [List.mem_singleton.mp h]
    exact (hW.2.2 a (by omega)).1
theorem V_putF (C : Cx X G own cc nL ret rm tb) {ci kf idx a : Nat} {ty : FieldType} {v : Value} {S' : sS} (hin2 : X.2.2.2.2.2.2.2.2.1.name = "<init>") (hdecl : ((vC ci).2.1 kf).1 = own) (hF : cF ci) (hL : pL own idx ci kf true ty) (hci : ci < 50) (d : decode cc pc = .ok (.putfield idx, 3)) (hK : sK S a = ci + 1) (hn : narrow ty v = v) (hfit : fits ty v = true)
    (hk : ∀ b, sK S' b = sK S b) (he : ∀ b, b ≠ a → wE G S' b = wE G S b) (hv : sV S' (100 * ci + kf) a = v) (ho : ∀ j, j ≠ kf → sV S' (100 * ci + j) a = sV S (100 * ci + j) a)
    (kk : V X G nL Q k n (pc + 3) lo st S') : V X G nL Q k n pc lo (v :: .ref a :: st) S := by
  intro H ls locs hW hl hf
  obtain ⟨r, h1, h2, h3, h4, h5, h6⟩ := hF
  obtain ⟨⟨g1, g2⟩, g3, g4⟩ := hL
  rw [h2] at g2 g3 g4 hdecl
  have hkf : kf < r.2.2 := by rw [h3]; exact g1
  have hKK := C.2.2.2.2.2.1.1
  have hts := C.2.2.2.2.1
  have hap := va_apart (own := own) hts h4 (vT ci) h5 h6 hKK h1
  obtain ⟨r', hr', cell, q1, q2, q3, q4⟩ := wW_obj hW hK hci 0 _ rfl
  have er : r' = r := Option.some.inj (hr'.symm.trans h1)
  subst er
  obtain ⟨hS, hfc, kC, hkC, hkind⟩ := hKK.1 ci _ h1
  obtain ⟨cf, kf9, fi, f, hi, hsl⟩ := hS kf hkf
  have hlay := hts _ (h4 _ (u_in_lay hkf))
  unfold u_lay at hlay
  rw [if_pos g3] at hlay
  have hst := (u_facts hfc hkC (u_lays hts h4 hkf) hi).1
  have hcf : X.2.2.2.2.2.1.cls = cf := by
    obtain ⟨_, _, c', _, _, _, -, -, hf', -, -, -, hown2, -⟩ := Cond.laysFinal_spec hlay
    have e1 : c' = cf := by have := hi.symm.trans hf'; simp at this; exact this.1.symm
    rw [hdecl] at hown2
    rw [← e1]; exact Option.some.inj (C.2.2.2.1.symm.trans hown2)
  have h7 := u_fits hfc hkC hkind (Or.inr hlay) hi g4 hn hfit
  refine W.putFinK C.1 C.2.1 C.2.2.2.1 (hts _ g2) hi hst hcf hin2 (by rw [q2]; exact h7) q1 q3 (by rw [hsl]; exact k2_hasslot (q4 kf hkf)) rfl rfl d fun H' e1 e2 e3 => ?_
  rw [hsl] at e1 ⊢
  refine kk H' ls _ (wW_put hW hK hci h1 h3 g1 hap q2 q3 q4 hk he hv ho e1 e2 e3) hl fun z hz => ?_
  rcases List.mem_append.mp hz with h | h
  · exact hf z h
  · rw [List.mem_singleton.mp h]
    exact (hW.2.2 a (by omega)).1
theorem pI_he {f a : Nat} {v : Int32} : ∀ b, b ≠ a → wE G (pI S f a v) b = wE G S b := fun b hb => wE_eq rfl rfl (fun g => up2_n2 hb) (fun g => rfl) rfl rfl rfl
theorem pR_he {f a : Nat} {v : Option Nat} : ∀ b, b ≠ a → wE G (pR S f a v) b = wE G S b := fun b hb => wE_eq rfl rfl (fun g => rfl) (fun g => up2_n2 hb) rfl rfl rfl
theorem pI_hv {f a : Nat} {v : Int32} (hr : fRef f = false) : sV (pI S f a v) f a = .int v := by
  unfold sV
  rw [if_neg (by rw [hr]; decide)]
  exact congrArg Value.int up2_s
theorem pI_ho {ci kf f a : Nat} {v : Int32} (hf : 100 * ci + kf = f) : ∀ j, j ≠ kf → sV (pI S f a v) (100 * ci + j) a = sV S (100 * ci + j) a := fun j hj => by
  unfold sV
  rw [show sI (pI S f a v) (100 * ci + j) a = sI S (100 * ci + j) a from up2_n1 (by omega)]
  rfl
theorem pR_hv {f a : Nat} {v : Option Nat} (hr : fRef f = true) : sV (pR S f a v) f a = va_rf v := by
  unfold sV
  rw [if_pos hr]
  exact congrArg va_rf up2_s
theorem pR_ho {ci kf f a : Nat} {v : Option Nat} (hf : 100 * ci + kf = f) : ∀ j, j ≠ kf → sV (pR S f a v) (100 * ci + j) a = sV S (100 * ci + j) a := fun j hj => by
  unfold sV
  rw [show sR (pR S f a v) (100 * ci + j) a = sR S (100 * ci + j) a from up2_n1 (by omega)]
  rfl
theorem V_putI (C : Cx X G own cc nL ret rm tb) (ci kf : Nat) {f idx a : Nat} {v : Int32} (hf : 100 * ci + kf = f) (hF : cF ci) (hL : pL own idx ci kf false .int) (hci : ci < 50) (hr : fRef f = false) (d : decode cc pc = .ok (.putfield idx, 3)) (hK : sK S a = ci + 1) (kk : V X G nL Q k n (pc + 3) lo st (pI S f a v)) : V X G nL Q k n pc lo (.int v :: .ref a :: st) S :=
  V_put (S' := pI S f a v) C hF hL hci d hK rfl rfl (fun _ => rfl) pI_he (by rw [hf]; exact pI_hv hr) (pI_ho hf) kk
theorem V_putZ (C : Cx X G own cc nL ret rm tb) (ci kf : Nat) {f idx a : Nat} {v : Int32} (hf : 100 * ci + kf = f) (hF : cF ci) (hL : pL own idx ci kf false .boolean) (hci : ci < 50) (hr : fRef f = false) (d : decode cc pc = .ok (.putfield idx, 3)) (hK : sK S a = ci + 1) (hz : v = 0 ∨ v = 1) (kk : V X G nL Q k n (pc + 3) lo st (pI S f a v)) : V X G nL Q k n pc lo (.int v :: .ref a :: st) S :=
  V_put (S' := pI S f a v) C hF hL hci d hK (by rcases hz with rfl | rfl <;> rfl) (by rcases hz with rfl | rfl <;> rfl) (fun _ => rfl) pI_he (by rw [hf]; exact pI_hv hr) (pI_ho hf) kk
theorem ref_nf {ty : FieldType} (h : (∃ c, ty = .object c) ∨ ∃ t, ty = .array t) (o : Option Nat) : narrow ty (va_rf o) = va_rf o ∧ fits ty (va_rf o) = true := by
  rcases h with ⟨c, rfl⟩ | ⟨t, rfl⟩ <;> cases o <;> exact ⟨rfl, rfl⟩
theorem V_putR (C : Cx X G own cc nL ret rm tb) (ci kf : Nat) {f idx a : Nat} {ty : FieldType} {o : Option Nat} (hf : 100 * ci + kf = f) (hF : cF ci) (hL : pL own idx ci kf false ty) (hty : (∃ c, ty = .object c) ∨ ∃ t, ty = .array t) (hci : ci < 50) (hr : fRef f = true) (d : decode cc pc = .ok (.putfield idx, 3)) (hK : sK S a = ci + 1) (kk : V X G nL Q k n (pc + 3) lo st (pR S f a o)) : V X G nL Q k n pc lo (va_rf o :: .ref a :: st) S :=
  V_put (S' := pR S f a o) C hF hL hci d hK (ref_nf hty o).1 (ref_nf hty o).2 (fun _ => rfl) pR_he (by rw [hf]; exact pR_hv hr) (pR_ho hf) kk
theorem V_putFI (C : Cx X G own cc nL ret rm tb) (hin2 : X.2.2.2.2.2.2.2.2.1.name = "<init>") (ci kf : Nat) {f idx a : Nat} {v : Int32} (hf : 100 * ci + kf = f) (hF : cF ci) (hL : pL own idx ci kf true .int) (hdecl : ((vC ci).2.1 kf).1 = own) (hci : ci < 50) (hr : fRef f = false) (d : decode cc pc = .ok (.putfield idx, 3)) (hK : sK S a = ci + 1) (kk : V X G nL Q k n (pc + 3) lo st (pI S f a v)) : V X G nL Q k n pc lo (.int v :: .ref a :: st) S :=
  V_putF (S' := pI S f a v) C hin2 hdecl hF hL hci d hK rfl rfl (fun _ => rfl) pI_he (by rw [hf]; exact pI_hv hr) (pI_ho hf) kk
theorem V_putFR (C : Cx X G own cc nL ret rm tb) (hin2 : X.2.2.2.2.2.2.2.2.1.name = "<init>") (ci kf : Nat) {f idx a : Nat} {ty : FieldType} {o : Option Nat} (hf : 100 * ci + kf = f) (hF : cF ci) (hL : pL own idx ci kf true ty) (hdecl : ((vC ci).2.1 kf).1 = own) (hty : (∃ c, ty = .object c) ∨ ∃ t, ty = .array t) (hci : ci < 50) (hr : fRef f = true) (d : decode cc pc = .ok (.putfield idx, 3)) (hK : sK S a = ci + 1) (kk : V X G nL Q k n (pc + 3) lo st (pR S f a o)) : V X G nL Q k n pc lo (va_rf o :: .ref a :: st) S :=
  V_putF (S' := pR S f a o) C hin2 hdecl hF hL hci d hK (ref_nf hty o).1 (ref_nf hty o).2 (fun _ => rfl) pR_he (by rw [hf]; exact pR_hv hr) (pR_ho hf) kk
end VH

