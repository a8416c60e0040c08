/-! THE LAW: its branches. -/
def bz (x : Int32) : Int32 := if x = 0 then 0 else 1
theorem bz_01 (x : Int32) : bz x = 0 ∨ bz x = 1 := by
  unfold bz
  by_cases h : x = 0
  · rw [if_pos h]; exact Or.inl rfl
  · rw [if_neg h]; exact Or.inr rfl
theorem a01_see (σ : aS) (x : Int32) : (oSee σ x).1 = 0 ∨ (oSee σ x).1 = 1 := by
  unfold oSee
  split
  · exact pI9_01 _
  · exact Or.inl rfl
theorem a01_wasAllowed (σ : aS) (x : Int32) : (oWas σ x).1 = 0 ∨ (oWas σ x).1 = 1 := by
  unfold oWas
  split
  · exact pI9_01 _
  · exact Or.inl rfl
theorem a01_blacken {σ : aS} (h : IW σ) (x b : Int32) : (oBlacken σ x b).1 = 0 ∨ (oBlacken σ x b).1 = 1 := by
  by_cases ht : tH σ x = 0
  · rw [oBlacken, if_pos ht]
    obtain ⟨k, hk, rfl⟩ := ho_ix h.1 (bI_ne.mp (gT_x ht).1)
    have hk16 : k < 10 := by have := h.1.2.2.1.2; omega
    rw [show nx (nI k) = k from nI_clamp (by omega)]
    exact h.2.2.1 26 k (by decide) hk16
  · rw [oBlacken, if_neg ht]
    exact Or.inl rfl
theorem lc_self (x : Int64) : lg_cmp x x = 0 := by
  unfold lg_cmp
  simp
def SC (X : xX) (G : gG) (b : Nat) (i : Int32) (y : Nat → Int32) : Prop := ∃ (N : Nat) (f : Nat → Value), va_T .int b N f (wN G) X.2.2.2.2.1 G.2.2 ∧ ∀ u : Nat, u ≤ 5 → vp_in (i + Int32.ofInt (u : Int)) N ∧ f (i + Int32.ofInt (u : Int)).toNatClampNeg = .int (y u)
section VL
variable {X : xX} {G : gG} {own : String} {cc : ByteArray} {nL : Nat} {ret : Option FieldType} {rm : Room} {tb : List ExceptionTableEntry} {Q : State → Prop} {k n pc b : Nat} {lo : lO} {st : List Value} {S : sS} {i : Int32}
theorem V_arg {y : Nat → Int32} (C : Cx X G own cc nL ret rm tb) (hs : SC X G b i y) (u : Nat) (z : Int) (hz : z = (u : Int) ∧ u ≤ 5) (d0 : decode cc pc = .ok (.aload_n 0, 1)) (d1 : decode cc (pc + 1) = .ok (.iload 4, 2)) (d3 : decode cc (pc + 3) = .ok (.iconst z, 1)) (d4 : decode cc (pc + 4) = .ok (.iadd, 1)) (d5 : decode cc (pc + 5) = .ok (.iaload, 1)) (kk : V X G nL Q k n (pc + 6) lo (.int (y u) :: st) S)
    (h0 : lget lo 0 = some (.ref b) := by rfl) (h4 : lget lo 4 = some (.int i) := by rfl) : V X G nL Q k n pc lo st S := by
  obtain ⟨N, f, hT, hu⟩ := hs
  obtain ⟨u1, u2⟩ := hu u hz.2
  refine V_aload_n C d0 h0 (isR_r _) ?_
  refine V_iload C d1 h4 ?_
  refine V_iconst C (v := Int32.ofInt (u : Int)) d3 (by rw [hz.1]) ?_
  refine V_iadd C d4 ?_
  exact V_xld C hT u1 u2 d5 kk
theorem V_nz (C : Cx X G own cc nL ret rm tb) {x : Int32} (d0 : decode cc pc = .ok (.ifCond .eq 7, 3)) (d1 : decode cc (pc + 3) = .ok (.iconst 1, 1)) (d2 : decode cc (pc + 4) = .ok (.goto 4, 3)) (d3 : decode cc (pc + 7) = .ok (.iconst 0, 1)) (kk : V X G nL Q k n (pc + 8) lo (.int (bz x) :: st) S) : V X G nL Q k n pc lo (.int x :: st) S := by
  refine V_if_eq C (tgt := pc + 7) d0 (by omega) (fun h => ?_) (fun h => ?_)
  · refine V_iconst C (v := 0) d3 (by decide) ?_
    rw [bz, if_pos h] at kk
    exact kk
  · refine V_iconst C (v := 1) d1 (by decide) ?_
    refine V_goto C (tgt := pc + 8) d2 (by omega) ?_
    rw [bz, if_neg h] at kk
    exact kk
end VL
theorem RelR_LH {S T : sS} {m : Nat} {σ σ' : aS} {ad : Nat → Nat → Nat} (h : RelR S m σ) (hL : LH S ad σ' T) : RelR T m σ := by
  obtain ⟨-, -, -, -, hf⟩ := hL
  exact RelR_L h hf
theorem row_M {T U : sS} {c : Nat} (h : sK T c = 2003 ∧ sL T c = 1) (hf : Fr isM T U) : sK U c = 2003 ∧ sL U c = 1 ∧ ∀ j, sJ U c j = sJ T c j := by
  obtain ⟨b1, b2, -, -, -, b6, -⟩ := hf c (by rw [h.1]; decide) (by rw [h.1]; unfold isM; omega)
  exact ⟨b1.trans h.1, b2.trans h.2, fun j => by rw [b6]⟩
theorem lb_fin {X : xX} {G : gG} {Q : State → Prop} {k n b m c pc : Nat} {i : Int32} {S T U : sS} {ad : Nat → Nat → Nat} {σ τ : aS} (hL : LH S ad τ T) (hcT : sK T c = 2003 ∧ sL T c = 1) (hF : Fr isM T U) (hR : RelR U m τ) (hK : KW σ τ)
    (kk : ∀ T ad' σ', LW T m c ad' σ' → ad' 8 0 = ad 8 0 → cN σ' 27 ≤ cN σ 27 + 1 → V X G 7 Q k n pc [(4, false, .int i), (3, false, .ref c), (2, false, .ref m), (1, false, .ref (ad 8 0)), (0, false, .ref b)] [] T) : V X G 7 Q k n pc [(4, false, .int i), (3, false, .ref c), (2, false, .ref m), (1, false, .ref (ad 8 0)), (0, false, .ref b)] [] U := by
  obtain ⟨ad', e, h1, h2⟩ := LH_M hL hF
  obtain ⟨w1, w2, -⟩ := row_M hcT hF
  exact kk U ad' τ ⟨hR, h1, h2, hK.1, w1, w2⟩ e hK.2
