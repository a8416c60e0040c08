/-! THE REFERENCE'S STATE: its arrays (by field) and its numbers (by field); what the store holds of it. -/
abbrev aS : Type := (Nat → Nat → Int32) × (Nat → Int32)
def mZ (f : Nat) : Bool := [13, 18, 26, 53].contains f
def mLen (f : Nat) : Nat := if f ≤ 18 then 16 else if f = 19 then 160 else if f ≤ 26 then 10 else if f ≤ 33 then 1024 else if f = 34 then 16 else if f ≤ 37 then 480 else if f ≤ 42 then 60 else if f ≤ 48 then 100 else if f ≤ 52 then 5 else if f ≤ 54 then 50 else 10
/-- kinds of cells: the reference's, the class's own -/
def isM (k : Nat) : Prop := k = 10 ∨ (1000 ≤ k ∧ k < 2000)
def isC (k : Nat) : Prop := (1 ≤ k ∧ k < 10) ∨ (100 ≤ k ∧ k < 1000)
/-- what is not of the kinds P is as it was -/
def Fr (P : Nat → Prop) (S S' : sS) : Prop := ∀ a, sK S a ≠ 0 → ¬ P (sK S a) → sK S' a = sK S a ∧ sL S' a = sL S a ∧ (∀ f, sI S' f a = sI S f a) ∧ (∀ f, sR S' f a = sR S f a) ∧ sA S' a = sA S a ∧ sJ S' a = sJ S a ∧ sQ S' a = sQ S a
theorem Fr_rf {P : Nat → Prop} {S : sS} : Fr P S S := fun _ _ _ => ⟨rfl, rfl, fun _ => rfl, fun _ => rfl, rfl, rfl, rfl⟩
theorem Fr_tr {P : Nat → Prop} {S S1 S2 : sS} (h1 : Fr P S S1) (h2 : Fr P S1 S2) : Fr P S S2 := fun a ha hp => by
  obtain ⟨a1, a2, a3, a4, a5, a6, a7⟩ := h1 a ha hp
  obtain ⟨b1, b2, b3, b4, b5, b6, b7⟩ := h2 a (by rw [a1]; exact ha) (by rw [a1]; exact hp)
  exact ⟨b1.trans a1, b2.trans a2, fun f => (b3 f).trans (a3 f), fun f => (b4 f).trans (a4 f), b5.trans a5, b6.trans a6, b7.trans a7⟩
theorem Fr_I {P : Nat → Prop} {S : sS} {f b : Nat} {v : Int32} (h : P (sK S b)) : Fr P S (pI S f b v) := fun a _ hp => by
  have e : a ≠ b := fun e => hp (e ▸ h)
  exact ⟨rfl, rfl, fun _ => up2_n2 e, fun _ => rfl, rfl, rfl, rfl⟩
theorem Fr_R {P : Nat → Prop} {S : sS} {f b : Nat} {v : Option Nat} (h : P (sK S b)) : Fr P S (pR S f b v) := fun a _ hp => by
  have e : a ≠ b := fun e => hp (e ▸ h)
  exact ⟨rfl, rfl, fun _ => rfl, fun _ => up2_n2 e, rfl, rfl, rfl⟩
theorem Fr_A {P : Nat → Prop} {S : sS} {b j : Nat} {v : Int32} (h : P (sK S b)) : Fr P S (pA S b j v) := fun a _ hp => by
  have e : a ≠ b := fun e => hp (e ▸ h)
  exact ⟨rfl, rfl, fun _ => rfl, fun _ => rfl, up2_far e, rfl, rfl⟩
theorem Fr_Q {P : Nat → Prop} {S : sS} {b j : Nat} {v : Option Nat} (h : P (sK S b)) : Fr P S (pQ S b j v) := fun a _ hp => by
  have e : a ≠ b := fun e => hp (e ▸ h)
  exact ⟨rfl, rfl, fun _ => rfl, fun _ => rfl, rfl, rfl, up2_far e⟩
def cN (σ : aS) (f : Nat) : Nat := (σ.2 f).toNatClampNeg
def fsum (F : Nat → Int32) : Nat → Int32
  | 0 => 0
  | n + 1 => fsum F n + F n
/-- the last place below n of which p holds; -1 -/
def flast (p : Nat → Prop) [DecidablePred p] : Nat → Int32
  | 0 => -1
  | n + 1 => if p n then nI n else flast p n
section VN
variable {X : xX} {G : gG} {own : String} {cc : ByteArray} {nL : Nat} {ret : Option FieldType} {rm : Room} {tb : List ExceptionTableEntry} {Q : State → Prop} {k n pc : Nat} {lo : lO} {st : List Value} {S : sS}
theorem V_ialdE (C : Cx X G own cc nL ret rm tb) {a c j N : Nat} {f : Nat → Int32} (hK : sK S a = c) (hc : 100 ≤ c ∧ c % 10 = 1) (hL : sL S a = N) (hA : sA S a = f) (hj : j < N) (hN : N < 2 ^ 31) (d : decode cc pc = .ok (.iaload, 1)) (kk : V X G nL Q k n (pc + 1) lo (.int (f j) :: st) S) : V X G nL Q k n pc lo (.int (nI j) :: .ref a :: st) S := by
  refine V_iald C hK hc (by rw [hL]; exact vp_in_nI hj hN) d ?_
  rw [nI_clamp (by omega), hA]
  exact kk
theorem V_laldE (C : Cx X G own cc nL ret rm tb) {a c j N : Nat} {f : Nat → Int64} (hK : sK S a = c) (hc : 100 ≤ c ∧ c % 10 = 3) (hL : sL S a = N) (hA : sJ S a = f) (hj : j < N) (hN : N < 2 ^ 31) (d : decode cc pc = .ok (.laload, 1)) (kk : V X G nL Q k n (pc + 1) lo (.long (f j) :: st) S) : V X G nL Q k n pc lo (.int (nI j) :: .ref a :: st) S := by
  refine V_lald C hK hc (by rw [hL]; exact vp_in_nI hj hN) d ?_
  rw [nI_clamp (by omega), hA]
  exact kk
theorem V_iastE (C : Cx X G own cc nL ret rm tb) {a c j N : Nat} {v : Int32} (hK : sK S a = c) (hc : 100 ≤ c ∧ c % 10 = 1) (hL : sL S a = N) (hj : j < N) (hN : N < 2 ^ 31) (d : decode cc pc = .ok (.iastore, 1)) (kk : V X G nL Q k n (pc + 1) lo st (pA S a j v)) : V X G nL Q k n pc lo (.int v :: .int (nI j) :: .ref a :: st) S := by
  refine V_iast C hK hc (by rw [hL]; exact vp_in_nI hj hN) d ?_
  rw [nI_clamp (by omega)]
  exact kk
theorem V_lastE (C : Cx X G own cc nL ret rm tb) {a c j N : Nat} {v : Int64} (hK : sK S a = c) (hc : 100 ≤ c ∧ c % 10 = 3) (hL : sL S a = N) (hj : j < N) (hN : N < 2 ^ 31) (d : decode cc pc = .ok (.lastore, 1)) (kk : V X G nL Q k n (pc + 1) lo st (pJ S a j v)) : V X G nL Q k n pc lo (.long v :: .int (nI j) :: .ref a :: st) S := by
  refine V_last C hK hc (by rw [hL]; exact vp_in_nI hj hN) d ?_
  rw [nI_clamp (by omega)]
  exact kk
theorem V_aaldE (C : Cx X G own cc nL ret rm tb) {a c j N : Nat} {f : Nat → Option Nat} (t : Nat) (ht : 4 ≤ t ∧ t ≤ 7) (hK : sK S a = c) (hc : 100 ≤ c ∧ c % 10 = t) (hL : sL S a = N) (hA : sQ S a = f) (hj : j < N) (hN : N < 2 ^ 31) (d : decode cc pc = .ok (.aaload, 1)) (kk : V X G nL Q k n (pc + 1) lo (va_rf (f j) :: st) S) : V X G nL Q k n pc lo (.int (nI j) :: .ref a :: st) S := by
  refine V_aald C t ht hK hc (by rw [hL]; exact vp_in_nI hj hN) d ?_
  rw [nI_clamp (by omega), hA]
  exact kk
theorem V_aastE (C : Cx X G own cc nL ret rm tb) {a c v j N : Nat} (t ci : Nat) (ht : 4 ≤ t ∧ t ≤ 6) (hci : ci < 50) (hty : ∃ r : vw_C, vwCl[ci]? = some r ∧ tyA t = .object r.1) (hK : sK S a = c) (hc : 100 ≤ c ∧ c % 10 = t) (hv : sK S v = ci + 1) (hL : sL S a = N) (hj : j < N) (hN : N < 2 ^ 31) (d : decode cc pc = .ok (.aastore, 1)) (kk : V X G nL Q k n (pc + 1) lo st (pQ S a j (some v))) : V X G nL Q k n pc lo (.ref v :: .int (nI j) :: .ref a :: st) S := by
  refine V_aast C t ci ht hci hty hK hc hv (by rw [hL]; exact vp_in_nI hj hN) d ?_
  rw [nI_clamp (by omega)]
  exact kk
theorem V_incN (C : Cx X G own cc nL ret rm tb) {i j : Nat} {lo' : lO} (d : decode cc pc = .ok (.iinc i 1, 3)) (hg : lget lo i = some (.int (nI j))) (hn : i < nL) (hs : lset1 lo i (.int (nI (j + 1))) = lo') (kk : V X G nL Q k n (pc + 3) lo' st S) : V X G nL Q k n pc lo st S := V_iinc C d hg (nI_1 j) hn hs kk
theorem V_igeN (C : Cx X G own cc nL ret rm tb) {a b : Nat} {off : Int} {tgt : Nat} (ha : a < 2 ^ 31) (hb : b < 2 ^ 31) (d : decode cc pc = .ok (.if_icmp .ge off, 3)) (ht : (pc : Int) + off = (tgt : Int)) (kt : b ≤ a → V X G nL Q k n tgt lo st S) (kf : a < b → V X G nL Q k n (pc + 3) lo st S) : V X G nL Q k n pc lo (.int (nI b) :: .int (nI a) :: st) S :=
  V_icmp_ge C d ht (fun h => kt ((nI_leI hb ha).mp h)) (fun h => kf (Nat.not_le.mp fun q => h ((nI_leI hb ha).mpr q)))
theorem V_iltN (C : Cx X G own cc nL ret rm tb) {a b : Nat} {off : Int} {tgt : Nat} (ha : a < 2 ^ 31) (hb : b < 2 ^ 31) (d : decode cc pc = .ok (.if_icmp .lt off, 3)) (ht : (pc : Int) + off = (tgt : Int)) (kt : a < b → V X G nL Q k n tgt lo st S) (kf : b ≤ a → V X G nL Q k n (pc + 3) lo st S) : V X G nL Q k n pc lo (.int (nI b) :: .int (nI a) :: st) S :=
  V_icmp_lt C d ht (fun h => kt ((nI_ltI ha hb).mp h)) (fun h => kf (Nat.not_lt.mp fun q => h ((nI_ltI ha hb).mpr q)))
end VN

