/-! SHORT FORMS: contracts that return one value, that throw one exception; locals by their names. -/
def bI (p : Prop) [Decidable p] : Int32 := if p then 1 else 0
theorem bI_t {p : Prop} [Decidable p] (h : p) : bI p = 1 := if_pos h
theorem bI_f {p : Prop} [Decidable p] (h : ¬ p) : bI p = 0 := if_neg h
theorem bI_01 (p : Prop) [Decidable p] : bI p = 0 ∨ bI p = 1 := by
  unfold bI
  by_cases h : p
  · rw [if_pos h]; exact Or.inr rfl
  · rw [if_neg h]; exact Or.inl rfl
theorem bI_nz (p : Prop) [Decidable p] : narrow .boolean (.int (bI p)) = .int (bI p) := by
  rcases bI_01 p with h | h <;> rw [h] <;> rfl
theorem bI_ne {p : Prop} [Decidable p] : (¬ bI p = 0) ↔ p := by
  by_cases h : p
  · rw [bI_t h]; exact ⟨fun _ => h, fun _ => by decide⟩
  · rw [bI_f h]; exact ⟨fun q => absurd rfl q, fun q => absurd q h⟩
theorem bI_eq {p : Prop} [Decidable p] : bI p = 0 ↔ ¬ p := by
  by_cases h : p
  · rw [bI_t h]; exact ⟨fun q => absurd q (by decide), fun q => absurd h q⟩
  · rw [bI_f h]; exact ⟨fun _ => h, fun _ => rfl⟩
theorem bI_congr {p q : Prop} [Decidable p] [Decidable q] (h : p ↔ q) : bI p = bI q := by
  by_cases hp : p
  · rw [bI_t hp, bI_t (h.mp hp)]
  · rw [bI_f hp, bI_f (fun x => hp (h.mpr x))]
def cat1 : List Value → Prop
  | [] => True
  | v :: t => v.category = 1 ∧ cat1 t
theorem cat1_all : ∀ {vs : List Value}, cat1 vs → ∀ v ∈ vs, v.category = 1
  | [], _ => fun v hv => nomatch hv
  | w :: t, h => fun v hv => (List.mem_cons.mp hv).elim (fun e => e ▸ h.1) (cat1_all h.2 v)
def lgetF : lO → Nat → Option (Bool × Value)
  | [], _ => none
  | q :: t, i => if q.1 = i then some q.2 else lgetF t i
def lsub : lO → lO → Prop
  | [], _ => True
  | q :: t, lo => lgetF lo q.1 = some q.2 ∧ lsub t lo
theorem lgetF_mem : ∀ {lo : lO} {i : Nat} {x : Bool × Value}, lgetF lo i = some x → (i, x) ∈ lo
  | [], _, _, h => nomatch h
  | q :: t, i, x, h => by
    unfold lgetF at h
    by_cases e : q.1 = i
    · rw [if_pos e] at h
      cases h
      rw [← e]
      exact List.mem_cons_self
    · rw [if_neg e] at h
      exact List.mem_cons_of_mem _ (lgetF_mem h)
theorem lsub_in : ∀ {l lo : lO}, lsub l lo → ∀ q ∈ l, q ∈ lo
  | [], _, _ => fun q hq => nomatch hq
  | x :: t, lo, h => fun q hq => (List.mem_cons.mp hq).elim (fun e => by rw [e]; exact lgetF_mem h.1) (lsub_in h.2 q)
section VB
variable {X : xX} {G : gG} {own : String} {cc : ByteArray} {nL : Nat} {ret : Option FieldType} {rm : Room} {tb : List ExceptionTableEntry} {Q : State → Prop} {k n pc : Nat} {lo : lO} {st : List Value} {S : sS}
variable {Pr : Option Value → sS → Prop} {Px : String → sS → Prop} {K N : Nat}
theorem V_sub {lo' : lO} (h : lsub lo' lo) (kk : V X G nL Q k n pc lo' st S) : V X G nL Q k n pc lo st S := fun H ls locs hW hl hf => kk H ls locs hW ⟨hl.1, hl.2.1, fun q hq => hl.2.2 q (lsub_in h q hq)⟩ hf
/-- returns v, the store S2 behind it -/
def CtF (l : Launch) (G : gG) (y : MethodName) (cc : ByteArray) (mL : Nat) (ret : Option FieldType) (d k n : Nat) (av : List Value) (S : sS) (v : Option Value) (S2 : sS) : Prop := Ct l G y cc mL ret d k n av S (fun w T => w = v ∧ T = S2) (fun _ _ => False)
/-- throws E, the store as it was -/
def CtX (l : Launch) (G : gG) (y : MethodName) (cc : ByteArray) (mL : Nat) (ret : Option FieldType) (d k n : Nat) (av : List Value) (S : sS) (E : String) : Prop := Ct l G y cc mL ret d k n av S (fun _ _ => False) (fun F T => F = E ∧ T = S)
theorem Ct_to {l : Launch} {y : MethodName} {c2 : ByteArray} {mL d' k' n' : Nat} {r2 : Option FieldType} {av : List Value} {Pr' : Option Value → sS → Prop} {Px' : String → sS → Prop} (h : Ct l G y c2 mL r2 d' k' n' av S Pr Px) (h1 : ∀ v T, Pr v T → Pr' v T) (h2 : ∀ E T, Px E T → Px' E T) : Ct l G y c2 mL r2 d' k' n' av S Pr' Px' :=
  MetFree.mono h (fun _ _ h => h) (fun _ _ _ _ _ h => h) fun a s o t _ hq => by
    rcases hq with ⟨⟨v, S', e, hp, hW⟩, hF⟩ | ⟨q, e, E, ce, L, ⟨S', hf, hW⟩, hr⟩
    · exact Or.inl ⟨⟨v, S', e, h1 v S' hp, hW⟩, hF⟩
    · exact Or.inr ⟨q, e, E, ce, L, ⟨S', h2 E S' hf, hW⟩, hr⟩
theorem V_fV (C : Cx X G own cc nL ret rm tb) {idx mL np d' k' n' ci b : Nat} {y : MethodName} {c2 : ByteArray} {r2 : Option FieldType} {As rest : List Value} {v : Option Value} {S2 : sS} (hM : CtF X.2.1 G y c2 mL r2 d' k' n' (.ref b :: As) S v S2) (hk : kV own idx y c2 mL r2 np) (hF : cF ci) (hci : ci < 50) (hcl : (vC ci).1 = y.cls) (hb : sK S b = ci + 1)
    (hR : d' + 1 ≤ rm.frames ∧ 8 + (mL + 11) + 37 * d' ≤ rm.locals) (hc : k + k' ≤ rm.cells ∧ n + n' ≤ rm.slots) (hn : As.length = np) (hst : st = As.reverse ++ .ref b :: rest) (h8 : (rest.map fun v => v.category).sum ≤ 8) (d : decode cc pc = .ok (.invokevirtual idx, 3))
    (kk : V X G nL Q (k + k') (n + n') (pc + 3) lo (v.toList ++ rest) S2) : V X G nL Q k n pc lo st S :=
  V_callV C hM hk hF hci hcl hb hR hc hn hst h8 d (fun w T ⟨e1, e2⟩ => by rw [e1, e2]; exact kk) (fun _ _ h => h.elim)
theorem V_fS (C : Cx X G own cc nL ret rm tb) {idx mL np d' k' n' : Nat} {y : MethodName} {c2 : ByteArray} {r2 : Option FieldType} {As rest : List Value} {v : Option Value} {S2 : sS} (hM : CtF X.2.1 G y c2 mL r2 d' k' n' As S v S2) (hk : kS own idx y c2 mL r2 np)
    (hR : d' + 1 ≤ rm.frames ∧ 8 + (mL + 11) + 37 * d' ≤ rm.locals) (hc : k + k' ≤ rm.cells ∧ n + n' ≤ rm.slots) (hn : As.length = np) (hst : st = As.reverse ++ rest) (h8 : (rest.map fun v => v.category).sum ≤ 8) (d : decode cc pc = .ok (.invokestatic idx, 3))
    (kk : V X G nL Q (k + k') (n + n') (pc + 3) lo (v.toList ++ rest) S2) : V X G nL Q k n pc lo st S :=
  V_callS C hM hk hR hc hn hst h8 d (fun w T ⟨e1, e2⟩ => by rw [e1, e2]; exact kk) (fun _ _ h => h.elim)
theorem V_fI (C : Cx X G own cc nL ret rm tb) {idx mL np d' k' n' b : Nat} {y : MethodName} {c2 : ByteArray} {As rest : List Value} {S2 : sS} (hM : CtF X.2.1 G y c2 mL none d' k' n' (.ref b :: As) S none S2) (hk : kI own idx y c2 mL np)
    (hR : d' + 1 ≤ rm.frames ∧ 8 + (mL + 11) + 37 * d' ≤ rm.locals) (hc : k + k' ≤ rm.cells ∧ n + n' ≤ rm.slots) (hn : As.length = np) (hst : st = As.reverse ++ .ref b :: rest) (h8 : (rest.map fun v => v.category).sum ≤ 8) (d : decode cc pc = .ok (.invokespecial idx, 3))
    (kk : V X G nL Q (k + k') (n + n') (pc + 3) lo rest S2) : V X G nL Q k n pc lo st S :=
  V_callI C hM hk hR hc hn hst h8 d (fun w T ⟨e1, e2⟩ => by rw [e1, e2]; exact kk)
/-- the callee throws, and this method with it -/
theorem V_xV (C : Cx X G own cc nL ret rm []) {idx mL np d' k' n' ci b : Nat} {y : MethodName} {c2 : ByteArray} {r2 : Option FieldType} {As rest : List Value} {E : String} (hM : CtX X.2.1 G y c2 mL r2 d' k' n' (.ref b :: As) S E) (hk : kV own idx y c2 mL r2 np) (hF : cF ci) (hci : ci < 50) (hcl : (vC ci).1 = y.cls) (hb : sK S b = ci + 1)
    (hR : d' + 1 ≤ rm.frames ∧ 8 + (mL + 11) + 37 * d' ≤ rm.locals) (hc : k + k' ≤ rm.cells ∧ n + n' ≤ rm.slots) (hn : As.length = np) (hst : st = As.reverse ++ .ref b :: rest) (h8 : (rest.map fun v => v.category).sum ≤ 8) (d : decode cc pc = .ok (.invokevirtual idx, 3)) (h1 : k + k' ≤ K) (h2 : n + n' ≤ N) (hp : Px E S) : V X G nL (eQ X G Pr Px K N) k n pc lo st S :=
  V_callV C hM hk hF hci hcl hb hR hc hn hst h8 d (fun _ _ h => h.elim) (fun F T ⟨e1, e2⟩ => by rw [e1, e2]; exact VX_out C h1 h2 hp)
theorem V_xS (C : Cx X G own cc nL ret rm []) {idx mL np d' k' n' : Nat} {y : MethodName} {c2 : ByteArray} {r2 : Option FieldType} {As rest : List Value} {E : String} (hM : CtX X.2.1 G y c2 mL r2 d' k' n' As S E) (hk : kS own idx y c2 mL r2 np)
    (hR : d' + 1 ≤ rm.frames ∧ 8 + (mL + 11) + 37 * d' ≤ rm.locals) (hc : k + k' ≤ rm.cells ∧ n + n' ≤ rm.slots) (hn : As.length = np) (hst : st = As.reverse ++ rest) (h8 : (rest.map fun v => v.category).sum ≤ 8) (d : decode cc pc = .ok (.invokestatic idx, 3)) (h1 : k + k' ≤ K) (h2 : n + n' ≤ N) (hp : Px E S) : V X G nL (eQ X G Pr Px K N) k n pc lo st S :=
  V_callS C hM hk hR hc hn hst h8 d (fun _ _ h => h.elim) (fun F T ⟨e1, e2⟩ => by rw [e1, e2]; exact VX_out C h1 h2 hp)
end VB

