/-! THE LAW: its arrays, the class behind its object, both in one word. -/
def isG (k : Nat) : Prop := 2000 ≤ k
theorem RelC_frG {S S' : sS} {ad : Nat → Nat → Nat} {σ : aS} (h : RelC S ad σ) (hf : Fr isG S S') : RelC S' ad σ := by
  obtain ⟨h1, h2, h3, h4, h5, h6, h7, h8, h9, h10, h11⟩ := h
  have key : ∀ i j, i < 30 → i ≠ 9 → i ≠ 10 → cLv σ i j → sK S' (ad i j) = sK S (ad i j) ∧ sL S' (ad i j) = sL S (ad i j) ∧ (∀ f, sI S' f (ad i j) = sI S f (ad i j)) ∧ (∀ f, sR S' f (ad i j) = sR S f (ad i j)) ∧ sA S' (ad i j) = sA S (ad i j) ∧ sJ S' (ad i j) = sJ S (ad i j) ∧ sQ S' (ad i j) = sQ S (ad i j) := by
    intro i j a1 a2 a3 hl
    have e := h1 i j a1 a2 a3 hl
    have c := isC_kd a2
    refine hf (ad i j) (by rw [e]; unfold isC at c; omega) ?_
    rw [e]
    unfold isC at c
    unfold isG
    omega
  have l0 : ∀ i, i = 15 ∨ i = 16 ∨ i = 17 ∨ i = 23 ∨ i = 26 → cLv σ i 0 := by
    rintro i (rfl | rfl | rfl | rfl | rfl) <;> exact (rfl : (0 : Nat) = 0)
  refine ⟨fun i j a1 a2 a3 hl => (key i j a1 a2 a3 hl).1.trans (h1 i j a1 a2 a3 hl), h2, fun g j a b hl => ?_, fun g j a b hl => ?_, fun i j a b hl => ?_, fun k hk => ?_, fun j hj => ?_, fun j hj => ?_, fun j hj => ?_, fun j hj => ?_, fun j hj => ?_⟩
  · exact ((key _ j (by unfold cFd at a; omega) (by unfold cFd at a; omega) (by unfold cFd at a; omega) hl).2.2.1 g).trans (h3 g j a b hl)
  · exact ((key _ j (by unfold cFd at a; omega) (by unfold cFd at a; omega) (by unfold cFd at a; omega) hl).2.2.2.1 g).trans (h4 g j a b hl)
  · exact (key i j b (by omega) (by omega) hl).2.1.trans (h5 i j a b hl)
  · obtain ⟨a1, a2, a3, a4⟩ := h6 k hk
    exact ⟨fun j hj => (congrFun (key 11 k (by decide) (by decide) (by decide) hk).2.2.2.2.1 j).trans (a1 j hj), (key 12 k (by decide) (by decide) (by decide) hk).2.2.2.2.1.trans a2, (key 13 k (by decide) (by decide) (by decide) hk).2.2.2.2.1.trans a3, (key 14 k (by decide) (by decide) (by decide) hk).2.2.2.2.1.trans a4⟩
  · exact (congrFun (key 15 0 (by decide) (by decide) (by decide) (l0 15 (by omega))).2.2.2.2.2.2 j).trans (h7 j hj)
  · exact (congrFun (key 16 0 (by decide) (by decide) (by decide) (l0 16 (by omega))).2.2.2.2.2.2 j).trans (h8 j hj)
  · exact (congrFun (key 17 0 (by decide) (by decide) (by decide) (l0 17 (by omega))).2.2.2.2.2.2 j).trans (h9 j hj)
  · exact (congrFun (key 23 0 (by decide) (by decide) (by decide) (l0 23 (by omega))).2.2.2.2.2.2 j).trans (h10 j hj)
  · exact (congrFun (key 26 0 (by decide) (by decide) (by decide) (l0 26 (by omega))).2.2.2.2.2.2 j).trans (h11 j hj)
/-- the law's arrays: 0 numbers, 1 days, 2 needs, 3 families, 4 beds, 5 paid, 6 whose orders, 7 their days -/
def lLen (f : Nat) : Nat := if f = 0 then 6 else if f ≤ 3 then 16 else if f ≤ 5 then 4 else if f = 6 then 32 else 64
def RelL (S : sS) (a : Nat → Nat) (γ : Nat → Nat → Int32) : Prop := ∀ f, f < 8 → sK S (a f) = 2001 + 10 * f ∧ sL S (a f) = lLen f ∧ ∀ j, j < lLen f → sA S (a f) j = γ f j
def PW (S : sS) (q : Nat) (a : Nat → Nat) (γ : Nat → Nat → Int32) (σ : aS) : Prop := ∃ ad : Nat → Nat → Nat, ad 8 0 = q ∧ RelC S ad σ ∧ GU S ad ∧ IW σ ∧ RelL S a γ
theorem RelL_C {S T : sS} {a : Nat → Nat} {γ : Nat → Nat → Int32} (h : RelL S a γ) (hf : Fr isC S T) : RelL T a γ := fun f hf8 => by
  obtain ⟨k1, k2, k3⟩ := h f hf8
  obtain ⟨b1, b2, -, -, b5, -, -⟩ := hf (a f) (by rw [k1]; omega) (by rw [k1]; unfold isC; omega)
  exact ⟨b1.trans k1, b2.trans k2, fun j hj => by rw [b5]; exact k3 j hj⟩
theorem PW_Q {S T : sS} {q : Nat} {a : Nat → Nat} {γ : Nat → Nat → Int32} {ad : Nat → Nat → Nat} {σ' : aS} (hq : ad 8 0 = q) (hL : RelL S a γ) (h : LQ S ad σ' T) (hW : IW σ') : PW T q a γ σ' := by
  obtain ⟨ad', h1, h2, h3, h4⟩ := h
  exact ⟨ad', h1.trans hq, h2, h3, hW, RelL_C hL h4⟩
theorem PW_st {S : sS} {q : Nat} {a : Nat → Nat} {γ : Nat → Nat → Int32} {σ : aS} (h : PW S q a γ σ) (f j : Nat) (v : Int32) (hf : f < 8) : PW (pA S (a f) j v) q a (up2 γ f j v) σ := by
  obtain ⟨ad, h1, h2, h3, h4, h5⟩ := h
  have hF : Fr isG S (pA S (a f) j v) := fun b hb hn => by
    have ne : b ≠ a f := fun e => hn (by rw [e, (h5 f hf).1]; unfold isG; omega)
    exact ⟨rfl, rfl, fun _ => rfl, fun _ => rfl, up2_f ne, rfl, rfl⟩
  refine ⟨ad, h1, RelC_frG h2 hF, fun i hi => ?_, h4, fun g hg => ?_⟩
  · have hk : sK S (ad 27 i) = 181 := h2.1 27 i (by decide) (by decide) (by decide) hi
    have e := (hF (ad 27 i) (by rw [hk]; decide) (by rw [hk]; unfold isG; omega)).2.2.2.2.1
    rw [e]
    exact h3 i hi
  · obtain ⟨k1, k2, k3⟩ := h5 g hg
    refine ⟨k1, k2, fun x hx => ?_⟩
    show up2 (sA S) (a f) j v (a g) x = up2 γ f j v g x
    by_cases e : g = f
    · subst e
      by_cases e2 : x = j
      · subst e2; exact up2_s.trans up2_s.symm
      · exact (up2_n2 e2).trans ((k3 x hx).trans (up2_n2 e2).symm)
    · have ne : a g ≠ a f := fun z => by
        have := (h5 f hf).1
        rw [← z, k1] at this
        omega
      exact (up2_n1 ne).trans ((k3 x hx).trans (up2_n1 e).symm)
theorem PW_K {S : sS} {q : Nat} {a : Nat → Nat} {γ : Nat → Nat → Int32} {σ : aS} (h : PW S q a γ σ) : sK S q = 9 := by
  obtain ⟨ad, h1, h2, -⟩ := h
  rw [← h1]
  exact RelC_K h2 8 (by decide) rfl
theorem PW_W {S : sS} {q : Nat} {a : Nat → Nat} {γ : Nat → Nat → Int32} {σ : aS} (h : PW S q a γ σ) : IW σ := by
  obtain ⟨ad, h1, h2, h3, h4, -⟩ := h
  exact h4
def ChF (l : Launch) (G : gG) (y : MethodName) (cc : ByteArray) (mL : Nat) (ret : Option FieldType) (hh : List (Nat × Nat × Nat × Nat)) (d k n : Nat) (av : List Value) (S : sS) (v : Option Value) (S2 : sS) : Prop := Ch l G y cc mL ret hh d k n av S (fun w T => w = v ∧ T = S2)
section VG
variable {X : xX} {G : gG} {own : String} {cc : ByteArray} {nL : Nat} {ret : Option FieldType} {rm : Room} {tb : List ExceptionTableEntry} {Q : State → Prop} {k n pc : Nat} {lo : lO} {st : List Value} {S : sS} {q : Nat} {a : Nat → Nat} {γ : Nat → Nat → Int32} {σ : aS}
theorem V_gl (C : Cx X G own cc nL ret rm tb) (hP : PW S q a γ σ) (f j : Nat) {i v : Int32} (hf : f < 8) (hj : j < lLen f) (hi : i = nI j) (hv : γ f j = v) (d : decode cc pc = .ok (.iaload, 1)) (kk : V X G nL Q k n (pc + 1) lo (.int v :: st) S) : V X G nL Q k n pc lo (.int i :: .ref (a f) :: st) S := by
  obtain ⟨ad, -, -, -, -, hL⟩ := hP
  obtain ⟨k1, k2, k3⟩ := hL f hf
  have hl : lLen f ≤ 64 := by unfold lLen; (repeat' split) <;> omega
  have e : (nI j).toNatClampNeg = j := nI_clamp (by omega)
  subst hi
  refine V_iald C k1 (by omega) ?_ d ?_
  · rw [k2]
    exact vp_in_nI hj (by omega)
  · rw [e, k3 j hj, hv]
    exact kk
theorem V_gs (C : Cx X G own cc nL ret rm tb) (hP : PW S q a γ σ) (f j : Nat) {i v : Int32} (hf : f < 8) (hj : j < lLen f) (hi : i = nI j) (d : decode cc pc = .ok (.iastore, 1)) (kk : ∀ T, PW T q a (up2 γ f j v) σ → V X G nL Q k n (pc + 1) lo st T) : V X G nL Q k n pc lo (.int v :: .int i :: .ref (a f) :: st) S := by
  have hP2 := hP
  obtain ⟨ad, -, -, -, -, hL⟩ := hP
  obtain ⟨k1, k2, k3⟩ := hL f hf
  have hl : lLen f ≤ 64 := by unfold lLen; (repeat' split) <;> omega
  have e : (nI j).toNatClampNeg = j := nI_clamp (by omega)
  subst hi
  refine V_iast C k1 (by omega) ?_ d ?_
  · rw [k2]
    exact vp_in_nI hj (by omega)
  · rw [e]
    exact kk _ (PW_st hP2 f j v hf)
theorem V_fH (C : Cx X G own cc nL ret rm tb) {idx mL np d' k' n' : Nat} {y : MethodName} {c2 : ByteArray} {r2 : Option FieldType} {hh : List (Nat × Nat × Nat × Nat)} {As rest : List Value} {v : Option Value} {S2 : sS} (hM : ChF X.2.1 G y c2 mL r2 hh d' k' n' As S v S2) (hk : kH own idx y c2 mL r2 hh np)
    (hR : d' + 1 ≤ rm.frames ∧ 8 + (mL + 11) + 37 * d' ≤ rm.locals) (hc : k + k' ≤ rm.cells ∧ n + n' ≤ rm.slots) (hn : As.length = np) (hst : st = As.reverse ++ rest) (h8 : (rest.map fun v => v.category).sum ≤ 8) (d : decode cc pc = .ok (.invokestatic idx, 3))
    (kk : V X G nL Q (k + k') (n + n') (pc + 3) lo (v.toList ++ rest) S2) : V X G nL Q k n pc lo st S :=
  V_callH C hM hk hR hc hn hst h8 d (fun w T ⟨e1, e2⟩ => by rw [e1, e2]; exact kk)
end VG
