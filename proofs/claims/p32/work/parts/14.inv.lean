/-! WHAT HOLDS OF THE REFERENCE'S STATE BETWEEN CALLS; more rows. -/
def rN (σ : aS) (k : Nat) : Nat := (σ.1 34 k).toNatClampNeg
def IC (σ : aS) : Prop := (σ.2 0 = nI (cN σ 0) ∧ cN σ 0 ≤ 12000) ∧ (σ.2 1 = nI (cN σ 1) ∧ cN σ 1 ≤ 16) ∧ (σ.2 20 = nI (cN σ 20) ∧ cN σ 20 ≤ 10) ∧ (σ.2 27 = nI (cN σ 27) ∧ cN σ 27 ≤ 512) ∧ (σ.2 38 = nI (cN σ 38) ∧ cN σ 38 ≤ 60) ∧ (σ.2 43 = nI (cN σ 43) ∧ cN σ 43 ≤ 100) ∧
  (∀ k, k < 16 → σ.1 34 k = nI (rN σ k) ∧ rN σ k ≤ 30) ∧ ∀ k, k < cN σ 1 → σ.1 10 k = -1 ∨ ∃ j, j < cN σ 43 ∧ σ.1 10 k = nI j
def mYears (σ : aS) (k : Nat) (on : Int32) : Int32 := (σ.1 2 k + on - σ.1 3 k) / 365
def mHomeOf (σ : aS) (k : Nat) : Int32 := if σ.1 10 k = -1 then -1 else σ.1 45 (σ.1 10 k).toNatClampNeg
def ones4 (x : Int32) : Int32 := (x &&& 1) + ((x >>> ((1 : Int32) &&& 31)) &&& 1) + ((x >>> ((2 : Int32) &&& 31)) &&& 1) + ((x >>> ((3 : Int32) &&& 31)) &&& 1)
def mLoadT (σ : aS) (w : Int32) (k : Nat) : Int32 := if σ.1 8 k = w then 2 + ones4 (σ.1 4 k) + (if σ.1 10 k = -1 then 0 else 3) else 0
def mLoad (σ : aS) (w : Int32) : Int32 := fsum (mLoadT σ w) (cN σ 1)
def mLeastF (σ : aS) : Nat → Int32
  | 0 => 0
  | j + 1 => if mLoad σ (nI (j + 1)) < mLoad σ (mLeastF σ j) then nI (j + 1) else mLeastF σ j
def mLeast (σ : aS) : Int32 := mLeastF σ 4
section VE
variable {X : xX} {G : gG} {own : String} {cc : ByteArray} {nL : Nat} {ret : Option FieldType} {rm : Room} {tb : List ExceptionTableEntry} {Q : State → Prop} {k n pc : Nat} {lo : lO} {st : List Value} {S : sS}
theorem V_getIe (C : Cx X G own cc nL ret rm tb) (ci kf : Nat) {f idx a : Nat} {v : Int32} (hf : 100 * ci + kf = f) (hF : cF ci) (hL : fL own idx ci kf) (hci : ci < 50) (hr : fRef f = false) (d : decode cc pc = .ok (.getfield idx, 3)) (hK : sK S a = ci + 1) (hv : sI S f a = v) (kk : V X G nL Q k n (pc + 3) lo (.int v :: st) S) : V X G nL Q k n pc lo (.ref a :: st) S :=
  V_getI C ci kf hf hF hL hci hr d hK (by rw [hv]; exact kk)
theorem V_getRe (C : Cx X G own cc nL ret rm tb) (ci kf : Nat) {f idx a : Nat} {o : Option Nat} (hf : 100 * ci + kf = f) (hF : cF ci) (hL : fL own idx ci kf) (hci : ci < 50) (hr : fRef f = true) (d : decode cc pc = .ok (.getfield idx, 3)) (hK : sK S a = ci + 1) (hv : sR S f a = o) (kk : V X G nL Q k n (pc + 3) lo (va_rf o :: st) S) : V X G nL Q k n pc lo (.ref a :: st) S :=
  V_getR C ci kf hf hF hL hci hr d hK (by rw [hv]; exact kk)
theorem V_igtN (C : Cx X G own cc nL ret rm tb) {a b : Nat} {off : Int} {tgt : Nat} (ha : a < 2 ^ 31) (hb : b < 2 ^ 31) (d : decode cc pc = .ok (.if_icmp .gt off, 3)) (ht : (pc : Int) + off = (tgt : Int)) (kt : b < a → V X G nL Q k n tgt lo st S) (kf : a ≤ b → V X G nL Q k n (pc + 3) lo st S) : V X G nL Q k n pc lo (.int (nI b) :: .int (nI a) :: st) S :=
  V_icmp_gt C d ht (fun h => kt ((nI_ltI hb ha).mp h)) (fun h => kf (Nat.not_lt.mp fun q => h ((nI_ltI hb ha).mpr q)))
end VE

