/-! THE REFERENCE: its constructor. -/
/-- the arrays of the fields below lim are laid, zeros all -/
def PR (S0 S : sS) (m lim : Nat) : Prop := sK S m = 10 ∧ (∀ f, f < lim → mArr f = true → ∃ a, sR S (900 + f) m = some a ∧ sK S a = mKd f ∧ sL S a = mLen f ∧ sA S a = fun _ => 0) ∧ (∀ f, sI S (900 + f) m = 0) ∧ Fr isM S0 S
theorem PR_s {S0 S : sS} {m lim f q : Nat} (h : PR S0 S m lim) (hz : sK S q = 0) (hgap : ∀ g, lim ≤ g → g < f → mArr g = false) (hf : mArr f = true) : PR S0 (pR (nA S (mKd f) (mLen f) q) (900 + f) m (some q)) m (f + 1) := by
  obtain ⟨h1, h2, h3, h4⟩ := h
  have em : m ≠ q := fun e => by rw [e, hz] at h1; omega
  have k1 : sK (nA S (mKd f) (mLen f) q) m = 10 := (up1_n em).trans h1
  refine ⟨k1, fun g hg hm => ?_, h3, Fr_tr h4 (Fr_tr (Fr_nA hz) (Fr_R (by rw [k1]; exact Or.inl rfl)))⟩
  by_cases e : g = f
  · subst e
    exact ⟨q, up2_s, up1_s, up1_s, if_pos rfl⟩
  · have hlt : g < lim := by
      refine Nat.lt_of_not_le fun z => ?_
      rw [hgap g z (by omega)] at hm
      exact absurd hm (by decide)
    obtain ⟨a, a1, a2, a3, a4⟩ := h2 g hlt hm
    have ea : a ≠ q := fun z => by
      rw [z, hz] at a2
      unfold mKd at a2
      omega
    exact ⟨a, (up2_n1 (by omega)).trans a1, (up1_n ea).trans a2, (up1_n ea).trans a3, (if_neg ea).trans a4⟩
section VI
variable {X : xX} {G : gG} {own : String} {cc : ByteArray} {nL : Nat} {ret : Option FieldType} {rm : Room} {tb : List ExceptionTableEntry} {Q : State → Prop} {k n pc : Nat} {lo : lO} {st : List Value} {S S0 : sS} {m : Nat}
theorem V_iA (C : Cx X G own cc nL ret rm tb) (hin2 : X.2.2.2.2.2.2.2.2.1.name = "<init>") (lim f t : Nat) {idx : Nat} {at9 : ArrayType} {i : Int32} {ty : FieldType} (hPR : PR S0 S m lim) (hgap : ∀ g, lim ≤ g → g < f → mArr g = false) (hf : mArr f = true)
    (hty : newarray.typeOf at9 = tyA t) (ht : 1 ≤ t ∧ t ≤ 2) (hc : mKd f % 10 = t) (hw : Cond.arrayClass (tyA t) ∈ lw_good) (hi : ¬ i < 0) (hm : i.toNatClampNeg = mLen f) (hbytes : mLen f * 8 ≤ 536870912) (hcells : k + 1 ≤ rm.cells) (hslots : n + mLen f ≤ rm.slots)
    (hL : pL own idx 9 f true ty) (hdecl : ((vC 9).2.1 f).1 = own) (hty2 : (∃ c, ty = .object c) ∨ ∃ t, ty = .array t) (hr : fRef (900 + f) = true) (d : decode cc pc = .ok (.newarray at9, 2)) (d2 : decode cc (pc + 2) = .ok (.putfield idx, 3))
    (kk : ∀ T, PR S0 T m (f + 1) → V X G nL Q (k + 1) (n + mLen f) (pc + 5) lo st T) : V X G nL Q k n pc lo (.int i :: .ref m :: st) S := by
  refine V_newarr C (mKd f) hty (by omega) ⟨by unfold mKd; omega, hc⟩ hw hi hm hbytes hcells hslots d (fun q hB hz => ?_)
  have hq := hz q (Nat.le_refl q)
  have em : m ≠ q := fun e => by
    have h1 := hPR.1
    rw [e, hq] at h1; omega
  exact V_putFR C hin2 9 f (o := some q) rfl cf_9 hL hdecl hty2 (by decide) hr d2 ((up1_n em).trans hPR.1) (kk _ (PR_s hPR hq hgap hf))
end VI
theorem c_X9_init (l : Launch) (hl : l.stackTraces = false) (G : gG) (S : sS) (m : Nat) (hm : sK S m = 10) (h0 : ∀ f, sI S (900 + f) m = 0) : Ct l G yX9_init cX9_init 1 none 1 49 8957 [.ref m] S (fun v T => v = none ∧ RelR T m (fun _ _ => 0, fun _ => 0) ∧ Fr isM S T) (fun _ _ => False) := by
  have hPR : PR S S m 2 := ⟨hm, fun f h hm => absurd hm (by rcases f with _ | _ | f <;> first | decide | omega), h0, Fr_rf⟩
  refine Ct_of (by decide) (cat1_all (by repeat first | exact trivial | refine ⟨by first | rfl | exact isR_c (isR_q _), ?_⟩)) (Nat.le_of_ble_eq_true rfl) hl fun X C hXl hin => ?_
  subst hXl
  dsimp only [lArgs, Nat.reduceAdd]
  refine V_aload_n C dX9_init_0 rfl (by first | exact isR_r _ | exact isR_q _ | exact isR_n) ?_
  refine V_objI C ko_X9_1 ko_1 ko_2 (by decide) (by decide) dX9_init_1 ?_
  refine V_aload_n C dX9_init_4 rfl (by first | exact isR_r _ | exact isR_q _ | exact isR_n) ?_
  refine V_bipush C (v := 16) dX9_init_5 (by decide) ?_
  refine V_iA C hin 2 2 1 hPR (by intro g h1 h2; exact absurd h1 (by omega)) rfl rfl (by decide) rfl ac_int (by decide) rfl (by decide) (by decide) (by decide) pl_X9_7 rfl (by first | exact Or.inl ⟨_, rfl⟩ | exact Or.inr ⟨_, rfl⟩) (by decide) dX9_init_7 dX9_init_9 (fun T hPR => ?_)
  refine V_aload_n C dX9_init_12 rfl (by first | exact isR_r _ | exact isR_q _ | exact isR_n) ?_
  refine V_bipush C (v := 16) dX9_init_13 (by decide) ?_
  refine V_iA C hin 3 3 1 hPR (by intro g h1 h2; exact absurd h1 (by omega)) rfl rfl (by decide) rfl ac_int (by decide) rfl (by decide) (by decide) (by decide) pl_X9_13 rfl (by first | exact Or.inl ⟨_, rfl⟩ | exact Or.inr ⟨_, rfl⟩) (by decide) dX9_init_15 dX9_init_17 (fun T hPR => ?_)
  refine V_aload_n C dX9_init_20 rfl (by first | exact isR_r _ | exact isR_q _ | exact isR_n) ?_
  refine V_bipush C (v := 16) dX9_init_21 (by decide) ?_
  refine V_iA C hin 4 4 1 hPR (by intro g h1 h2; exact absurd h1 (by omega)) rfl rfl (by decide) rfl ac_int (by decide) rfl (by decide) (by decide) (by decide) pl_X9_16 rfl (by first | exact Or.inl ⟨_, rfl⟩ | exact Or.inr ⟨_, rfl⟩) (by decide) dX9_init_23 dX9_init_25 (fun T hPR => ?_)
  refine V_aload_n C dX9_init_28 rfl (by first | exact isR_r _ | exact isR_q _ | exact isR_n) ?_
  refine V_bipush C (v := 16) dX9_init_29 (by decide) ?_
  refine V_iA C hin 5 5 1 hPR (by intro g h1 h2; exact absurd h1 (by omega)) rfl rfl (by decide) rfl ac_int (by decide) rfl (by decide) (by decide) (by decide) pl_X9_19 rfl (by first | exact Or.inl ⟨_, rfl⟩ | exact Or.inr ⟨_, rfl⟩) (by decide) dX9_init_31 dX9_init_33 (fun T hPR => ?_)
  refine V_aload_n C dX9_init_36 rfl (by first | exact isR_r _ | exact isR_q _ | exact isR_n) ?_
  refine V_bipush C (v := 16) dX9_init_37 (by decide) ?_
  refine V_iA C hin 6 6 1 hPR (by intro g h1 h2; exact absurd h1 (by omega)) rfl rfl (by decide) rfl ac_int (by decide) rfl (by decide) (by decide) (by decide) pl_X9_22 rfl (by first | exact Or.inl ⟨_, rfl⟩ | exact Or.inr ⟨_, rfl⟩) (by decide) dX9_init_39 dX9_init_41 (fun T hPR => ?_)
  refine V_aload_n C dX9_init_44 rfl (by first | exact isR_r _ | exact isR_q _ | exact isR_n) ?_
  refine V_bipush C (v := 16) dX9_init_45 (by decide) ?_
  refine V_iA C hin 7 7 1 hPR (by intro g h1 h2; exact absurd h1 (by omega)) rfl rfl (by decide) rfl ac_int (by decide) rfl (by decide) (by decide) (by decide) pl_X9_25 rfl (by first | exact Or.inl ⟨_, rfl⟩ | exact Or.inr ⟨_, rfl⟩) (by decide) dX9_init_47 dX9_init_49 (fun T hPR => ?_)
  refine V_aload_n C dX9_init_52 rfl (by first | exact isR_r _ | exact isR_q _ | exact isR_n) ?_
  refine V_bipush C (v := 16) dX9_init_53 (by decide) ?_
  refine V_iA C hin 8 8 1 hPR (by intro g h1 h2; exact absurd h1 (by omega)) rfl rfl (by decide) rfl ac_int (by decide) rfl (by decide) (by decide) (by decide) pl_X9_28 rfl (by first | exact Or.inl ⟨_, rfl⟩ | exact Or.inr ⟨_, rfl⟩) (by decide) dX9_init_55 dX9_init_57 (fun T hPR => ?_)
  refine V_aload_n C dX9_init_60 rfl (by first | exact isR_r _ | exact isR_q _ | exact isR_n) ?_
  refine V_bipush C (v := 16) dX9_init_61 (by decide) ?_
  refine V_iA C hin 9 9 1 hPR (by intro g h1 h2; exact absurd h1 (by omega)) rfl rfl (by decide) rfl ac_int (by decide) rfl (by decide) (by decide) (by decide) pl_X9_31 rfl (by first | exact Or.inl ⟨_, rfl⟩ | exact Or.inr ⟨_, rfl⟩) (by decide) dX9_init_63 dX9_init_65 (fun T hPR => ?_)
  refine V_aload_n C dX9_init_68 rfl (by first | exact isR_r _ | exact isR_q _ | exact isR_n) ?_
  refine V_bipush C (v := 16) dX9_init_69 (by decide) ?_
  refine V_iA C hin 10 10 1 hPR (by intro g h1 h2; exact absurd h1 (by omega)) rfl rfl (by decide) rfl ac_int (by decide) rfl (by decide) (by decide) (by decide) pl_X9_34 rfl (by first | exact Or.inl ⟨_, rfl⟩ | exact Or.inr ⟨_, rfl⟩) (by decide) dX9_init_71 dX9_init_73 (fun T hPR => ?_)
  refine V_aload_n C dX9_init_76 rfl (by first | exact isR_r _ | exact isR_q _ | exact isR_n) ?_
  refine V_bipush C (v := 16) dX9_init_77 (by decide) ?_
  refine V_iA C hin 11 11 1 hPR (by intro g h1 h2; exact absurd h1 (by omega)) rfl rfl (by decide) rfl ac_int (by decide) rfl (by decide) (by decide) (by decide) pl_X9_37 rfl (by first | exact Or.inl ⟨_, rfl⟩ | exact Or.inr ⟨_, rfl⟩) (by decide) dX9_init_79 dX9_init_81 (fun T hPR => ?_)
  refine V_aload_n C dX9_init_84 rfl (by first | exact isR_r _ | exact isR_q _ | exact isR_n) ?_
  refine V_bipush C (v := 16) dX9_init_85 (by decide) ?_
  refine V_iA C hin 12 12 1 hPR (by intro g h1 h2; exact absurd h1 (by omega)) rfl rfl (by decide) rfl ac_int (by decide) rfl (by decide) (by decide) (by decide) pl_X9_40 rfl (by first | exact Or.inl ⟨_, rfl⟩ | exact Or.inr ⟨_, rfl⟩) (by decide) dX9_init_87 dX9_init_89 (fun T hPR => ?_)
  refine V_aload_n C dX9_init_92 rfl (by first | exact isR_r _ | exact isR_q _ | exact isR_n) ?_
  refine V_bipush C (v := 16) dX9_init_93 (by decide) ?_
  refine V_iA C hin 13 13 2 hPR (by intro g h1 h2; exact absurd h1 (by omega)) rfl rfl (by decide) rfl ac_boolean (by decide) rfl (by decide) (by decide) (by decide) pl_X9_43 rfl (by first | exact Or.inl ⟨_, rfl⟩ | exact Or.inr ⟨_, rfl⟩) (by decide) dX9_init_95 dX9_init_97 (fun T hPR => ?_)
  refine V_aload_n C dX9_init_100 rfl (by first | exact isR_r _ | exact isR_q _ | exact isR_n) ?_
  refine V_bipush C (v := 16) dX9_init_101 (by decide) ?_
  refine V_iA C hin 14 14 1 hPR (by intro g h1 h2; exact absurd h1 (by omega)) rfl rfl (by decide) rfl ac_int (by decide) rfl (by decide) (by decide) (by decide) pl_X9_47 rfl (by first | exact Or.inl ⟨_, rfl⟩ | exact Or.inr ⟨_, rfl⟩) (by decide) dX9_init_103 dX9_init_105 (fun T hPR => ?_)
  refine V_aload_n C dX9_init_108 rfl (by first | exact isR_r _ | exact isR_q _ | exact isR_n) ?_
  refine V_bipush C (v := 16) dX9_init_109 (by decide) ?_
  refine V_iA C hin 15 15 1 hPR (by intro g h1 h2; exact absurd h1 (by omega)) rfl rfl (by decide) rfl ac_int (by decide) rfl (by decide) (by decide) (by decide) pl_X9_50 rfl (by first | exact Or.inl ⟨_, rfl⟩ | exact Or.inr ⟨_, rfl⟩) (by decide) dX9_init_111 dX9_init_113 (fun T hPR => ?_)
  refine V_aload_n C dX9_init_116 rfl (by first | exact isR_r _ | exact isR_q _ | exact isR_n) ?_
  refine V_bipush C (v := 16) dX9_init_117 (by decide) ?_
  refine V_iA C hin 16 16 1 hPR (by intro g h1 h2; exact absurd h1 (by omega)) rfl rfl (by decide) rfl ac_int (by decide) rfl (by decide) (by decide) (by decide) pl_X9_53 rfl (by first | exact Or.inl ⟨_, rfl⟩ | exact Or.inr ⟨_, rfl⟩) (by decide) dX9_init_119 dX9_init_121 (fun T hPR => ?_)
  refine V_aload_n C dX9_init_124 rfl (by first | exact isR_r _ | exact isR_q _ | exact isR_n) ?_
  refine V_bipush C (v := 16) dX9_init_125 (by decide) ?_
  refine V_iA C hin 17 17 1 hPR (by intro g h1 h2; exact absurd h1 (by omega)) rfl rfl (by decide) rfl ac_int (by decide) rfl (by decide) (by decide) (by decide) pl_X9_56 rfl (by first | exact Or.inl ⟨_, rfl⟩ | exact Or.inr ⟨_, rfl⟩) (by decide) dX9_init_127 dX9_init_129 (fun T hPR => ?_)
  refine V_aload_n C dX9_init_132 rfl (by first | exact isR_r _ | exact isR_q _ | exact isR_n) ?_
  refine V_bipush C (v := 16) dX9_init_133 (by decide) ?_
  refine V_iA C hin 18 18 2 hPR (by intro g h1 h2; exact absurd h1 (by omega)) rfl rfl (by decide) rfl ac_boolean (by decide) rfl (by decide) (by decide) (by decide) pl_X9_59 rfl (by first | exact Or.inl ⟨_, rfl⟩ | exact Or.inr ⟨_, rfl⟩) (by decide) dX9_init_135 dX9_init_137 (fun T hPR => ?_)
  refine V_aload_n C dX9_init_140 rfl (by first | exact isR_r _ | exact isR_q _ | exact isR_n) ?_
  refine V_sipush C (v := 160) dX9_init_141 (by decide) ?_
  refine V_iA C hin 19 19 1 hPR (by intro g h1 h2; exact absurd h1 (by omega)) rfl rfl (by decide) rfl ac_int (by decide) rfl (by decide) (by decide) (by decide) pl_X9_62 rfl (by first | exact Or.inl ⟨_, rfl⟩ | exact Or.inr ⟨_, rfl⟩) (by decide) dX9_init_144 dX9_init_146 (fun T hPR => ?_)
  refine V_aload_n C dX9_init_149 rfl (by first | exact isR_r _ | exact isR_q _ | exact isR_n) ?_
  refine V_bipush C (v := 10) dX9_init_150 (by decide) ?_
  refine V_iA C hin 20 21 1 hPR (fun g h1 h2 => by rw [show g = 20 by omega]; rfl) rfl rfl (by decide) rfl ac_int (by decide) rfl (by decide) (by decide) (by decide) pl_X9_65 rfl (by first | exact Or.inl ⟨_, rfl⟩ | exact Or.inr ⟨_, rfl⟩) (by decide) dX9_init_152 dX9_init_154 (fun T hPR => ?_)
  refine V_aload_n C dX9_init_157 rfl (by first | exact isR_r _ | exact isR_q _ | exact isR_n) ?_
  refine V_bipush C (v := 10) dX9_init_158 (by decide) ?_
  refine V_iA C hin 22 22 1 hPR (by intro g h1 h2; exact absurd h1 (by omega)) rfl rfl (by decide) rfl ac_int (by decide) rfl (by decide) (by decide) (by decide) pl_X9_68 rfl (by first | exact Or.inl ⟨_, rfl⟩ | exact Or.inr ⟨_, rfl⟩) (by decide) dX9_init_160 dX9_init_162 (fun T hPR => ?_)
  refine V_aload_n C dX9_init_165 rfl (by first | exact isR_r _ | exact isR_q _ | exact isR_n) ?_
  refine V_bipush C (v := 10) dX9_init_166 (by decide) ?_
  refine V_iA C hin 23 23 1 hPR (by intro g h1 h2; exact absurd h1 (by omega)) rfl rfl (by decide) rfl ac_int (by decide) rfl (by decide) (by decide) (by decide) pl_X9_71 rfl (by first | exact Or.inl ⟨_, rfl⟩ | exact Or.inr ⟨_, rfl⟩) (by decide) dX9_init_168 dX9_init_170 (fun T hPR => ?_)
  refine V_aload_n C dX9_init_173 rfl (by first | exact isR_r _ | exact isR_q _ | exact isR_n) ?_
  refine V_bipush C (v := 10) dX9_init_174 (by decide) ?_
  refine V_iA C hin 24 24 1 hPR (by intro g h1 h2; exact absurd h1 (by omega)) rfl rfl (by decide) rfl ac_int (by decide) rfl (by decide) (by decide) (by decide) pl_X9_74 rfl (by first | exact Or.inl ⟨_, rfl⟩ | exact Or.inr ⟨_, rfl⟩) (by decide) dX9_init_176 dX9_init_178 (fun T hPR => ?_)
  refine V_aload_n C dX9_init_181 rfl (by first | exact isR_r _ | exact isR_q _ | exact isR_n) ?_
  refine V_bipush C (v := 10) dX9_init_182 (by decide) ?_
  refine V_iA C hin 25 25 1 hPR (by intro g h1 h2; exact absurd h1 (by omega)) rfl rfl (by decide) rfl ac_int (by decide) rfl (by decide) (by decide) (by decide) pl_X9_77 rfl (by first | exact Or.inl ⟨_, rfl⟩ | exact Or.inr ⟨_, rfl⟩) (by decide) dX9_init_184 dX9_init_186 (fun T hPR => ?_)
  refine V_aload_n C dX9_init_189 rfl (by first | exact isR_r _ | exact isR_q _ | exact isR_n) ?_
  refine V_bipush C (v := 10) dX9_init_190 (by decide) ?_
  refine V_iA C hin 26 26 2 hPR (by intro g h1 h2; exact absurd h1 (by omega)) rfl rfl (by decide) rfl ac_boolean (by decide) rfl (by decide) (by decide) (by decide) pl_X9_80 rfl (by first | exact Or.inl ⟨_, rfl⟩ | exact Or.inr ⟨_, rfl⟩) (by decide) dX9_init_192 dX9_init_194 (fun T hPR => ?_)
  refine V_aload_n C dX9_init_197 rfl (by first | exact isR_r _ | exact isR_q _ | exact isR_n) ?_
  refine V_sipush C (v := 1024) dX9_init_198 (by decide) ?_
  refine V_iA C hin 27 28 1 hPR (fun g h1 h2 => by rw [show g = 27 by omega]; rfl) rfl rfl (by decide) rfl ac_int (by decide) rfl (by decide) (by decide) (by decide) pl_X9_83 rfl (by first | exact Or.inl ⟨_, rfl⟩ | exact Or.inr ⟨_, rfl⟩) (by decide) dX9_init_201 dX9_init_203 (fun T hPR => ?_)
  refine V_aload_n C dX9_init_206 rfl (by first | exact isR_r _ | exact isR_q _ | exact isR_n) ?_
  refine V_sipush C (v := 1024) dX9_init_207 (by decide) ?_
  refine V_iA C hin 29 29 1 hPR (by intro g h1 h2; exact absurd h1 (by omega)) rfl rfl (by decide) rfl ac_int (by decide) rfl (by decide) (by decide) (by decide) pl_X9_86 rfl (by first | exact Or.inl ⟨_, rfl⟩ | exact Or.inr ⟨_, rfl⟩) (by decide) dX9_init_210 dX9_init_212 (fun T hPR => ?_)
  refine V_aload_n C dX9_init_215 rfl (by first | exact isR_r _ | exact isR_q _ | exact isR_n) ?_
  refine V_sipush C (v := 1024) dX9_init_216 (by decide) ?_
  refine V_iA C hin 30 30 1 hPR (by intro g h1 h2; exact absurd h1 (by omega)) rfl rfl (by decide) rfl ac_int (by decide) rfl (by decide) (by decide) (by decide) pl_X9_89 rfl (by first | exact Or.inl ⟨_, rfl⟩ | exact Or.inr ⟨_, rfl⟩) (by decide) dX9_init_219 dX9_init_221 (fun T hPR => ?_)
  refine V_aload_n C dX9_init_224 rfl (by first | exact isR_r _ | exact isR_q _ | exact isR_n) ?_
  refine V_sipush C (v := 1024) dX9_init_225 (by decide) ?_
  refine V_iA C hin 31 31 1 hPR (by intro g h1 h2; exact absurd h1 (by omega)) rfl rfl (by decide) rfl ac_int (by decide) rfl (by decide) (by decide) (by decide) pl_X9_92 rfl (by first | exact Or.inl ⟨_, rfl⟩ | exact Or.inr ⟨_, rfl⟩) (by decide) dX9_init_228 dX9_init_230 (fun T hPR => ?_)
  refine V_aload_n C dX9_init_233 rfl (by first | exact isR_r _ | exact isR_q _ | exact isR_n) ?_
  refine V_sipush C (v := 1024) dX9_init_234 (by decide) ?_
  refine V_iA C hin 32 32 1 hPR (by intro g h1 h2; exact absurd h1 (by omega)) rfl rfl (by decide) rfl ac_int (by decide) rfl (by decide) (by decide) (by decide) pl_X9_95 rfl (by first | exact Or.inl ⟨_, rfl⟩ | exact Or.inr ⟨_, rfl⟩) (by decide) dX9_init_237 dX9_init_239 (fun T hPR => ?_)
  refine V_aload_n C dX9_init_242 rfl (by first | exact isR_r _ | exact isR_q _ | exact isR_n) ?_
  refine V_sipush C (v := 1024) dX9_init_243 (by decide) ?_
  refine V_iA C hin 33 33 1 hPR (by intro g h1 h2; exact absurd h1 (by omega)) rfl rfl (by decide) rfl ac_int (by decide) rfl (by decide) (by decide) (by decide) pl_X9_98 rfl (by first | exact Or.inl ⟨_, rfl⟩ | exact Or.inr ⟨_, rfl⟩) (by decide) dX9_init_246 dX9_init_248 (fun T hPR => ?_)
  refine V_aload_n C dX9_init_251 rfl (by first | exact isR_r _ | exact isR_q _ | exact isR_n) ?_
  refine V_bipush C (v := 16) dX9_init_252 (by decide) ?_
  refine V_iA C hin 34 34 1 hPR (by intro g h1 h2; exact absurd h1 (by omega)) rfl rfl (by decide) rfl ac_int (by decide) rfl (by decide) (by decide) (by decide) pl_X9_101 rfl (by first | exact Or.inl ⟨_, rfl⟩ | exact Or.inr ⟨_, rfl⟩) (by decide) dX9_init_254 dX9_init_256 (fun T hPR => ?_)
  refine V_aload_n C dX9_init_259 rfl (by first | exact isR_r _ | exact isR_q _ | exact isR_n) ?_
  refine V_sipush C (v := 480) dX9_init_260 (by decide) ?_
  refine V_iA C hin 35 35 1 hPR (by intro g h1 h2; exact absurd h1 (by omega)) rfl rfl (by decide) rfl ac_int (by decide) rfl (by decide) (by decide) (by decide) pl_X9_104 rfl (by first | exact Or.inl ⟨_, rfl⟩ | exact Or.inr ⟨_, rfl⟩) (by decide) dX9_init_263 dX9_init_265 (fun T hPR => ?_)
  refine V_aload_n C dX9_init_268 rfl (by first | exact isR_r _ | exact isR_q _ | exact isR_n) ?_
  refine V_sipush C (v := 480) dX9_init_269 (by decide) ?_
  refine V_iA C hin 36 36 1 hPR (by intro g h1 h2; exact absurd h1 (by omega)) rfl rfl (by decide) rfl ac_int (by decide) rfl (by decide) (by decide) (by decide) pl_X9_107 rfl (by first | exact Or.inl ⟨_, rfl⟩ | exact Or.inr ⟨_, rfl⟩) (by decide) dX9_init_272 dX9_init_274 (fun T hPR => ?_)
  refine V_aload_n C dX9_init_277 rfl (by first | exact isR_r _ | exact isR_q _ | exact isR_n) ?_
  refine V_sipush C (v := 480) dX9_init_278 (by decide) ?_
  refine V_iA C hin 37 37 1 hPR (by intro g h1 h2; exact absurd h1 (by omega)) rfl rfl (by decide) rfl ac_int (by decide) rfl (by decide) (by decide) (by decide) pl_X9_110 rfl (by first | exact Or.inl ⟨_, rfl⟩ | exact Or.inr ⟨_, rfl⟩) (by decide) dX9_init_281 dX9_init_283 (fun T hPR => ?_)
  refine V_aload_n C dX9_init_286 rfl (by first | exact isR_r _ | exact isR_q _ | exact isR_n) ?_
  refine V_bipush C (v := 60) dX9_init_287 (by decide) ?_
  refine V_iA C hin 38 39 1 hPR (fun g h1 h2 => by rw [show g = 38 by omega]; rfl) rfl rfl (by decide) rfl ac_int (by decide) rfl (by decide) (by decide) (by decide) pl_X9_113 rfl (by first | exact Or.inl ⟨_, rfl⟩ | exact Or.inr ⟨_, rfl⟩) (by decide) dX9_init_289 dX9_init_291 (fun T hPR => ?_)
  refine V_aload_n C dX9_init_294 rfl (by first | exact isR_r _ | exact isR_q _ | exact isR_n) ?_
  refine V_bipush C (v := 60) dX9_init_295 (by decide) ?_
  refine V_iA C hin 40 40 1 hPR (by intro g h1 h2; exact absurd h1 (by omega)) rfl rfl (by decide) rfl ac_int (by decide) rfl (by decide) (by decide) (by decide) pl_X9_116 rfl (by first | exact Or.inl ⟨_, rfl⟩ | exact Or.inr ⟨_, rfl⟩) (by decide) dX9_init_297 dX9_init_299 (fun T hPR => ?_)
  refine V_aload_n C dX9_init_302 rfl (by first | exact isR_r _ | exact isR_q _ | exact isR_n) ?_
  refine V_bipush C (v := 60) dX9_init_303 (by decide) ?_
  refine V_iA C hin 41 41 1 hPR (by intro g h1 h2; exact absurd h1 (by omega)) rfl rfl (by decide) rfl ac_int (by decide) rfl (by decide) (by decide) (by decide) pl_X9_119 rfl (by first | exact Or.inl ⟨_, rfl⟩ | exact Or.inr ⟨_, rfl⟩) (by decide) dX9_init_305 dX9_init_307 (fun T hPR => ?_)
  refine V_aload_n C dX9_init_310 rfl (by first | exact isR_r _ | exact isR_q _ | exact isR_n) ?_
  refine V_bipush C (v := 60) dX9_init_311 (by decide) ?_
  refine V_iA C hin 42 42 1 hPR (by intro g h1 h2; exact absurd h1 (by omega)) rfl rfl (by decide) rfl ac_int (by decide) rfl (by decide) (by decide) (by decide) pl_X9_122 rfl (by first | exact Or.inl ⟨_, rfl⟩ | exact Or.inr ⟨_, rfl⟩) (by decide) dX9_init_313 dX9_init_315 (fun T hPR => ?_)
  refine V_aload_n C dX9_init_318 rfl (by first | exact isR_r _ | exact isR_q _ | exact isR_n) ?_
  refine V_bipush C (v := 100) dX9_init_319 (by decide) ?_
  refine V_iA C hin 43 44 1 hPR (fun g h1 h2 => by rw [show g = 43 by omega]; rfl) rfl rfl (by decide) rfl ac_int (by decide) rfl (by decide) (by decide) (by decide) pl_X9_125 rfl (by first | exact Or.inl ⟨_, rfl⟩ | exact Or.inr ⟨_, rfl⟩) (by decide) dX9_init_321 dX9_init_323 (fun T hPR => ?_)
  refine V_aload_n C dX9_init_326 rfl (by first | exact isR_r _ | exact isR_q _ | exact isR_n) ?_
  refine V_bipush C (v := 100) dX9_init_327 (by decide) ?_
  refine V_iA C hin 45 45 1 hPR (by intro g h1 h2; exact absurd h1 (by omega)) rfl rfl (by decide) rfl ac_int (by decide) rfl (by decide) (by decide) (by decide) pl_X9_128 rfl (by first | exact Or.inl ⟨_, rfl⟩ | exact Or.inr ⟨_, rfl⟩) (by decide) dX9_init_329 dX9_init_331 (fun T hPR => ?_)
  refine V_aload_n C dX9_init_334 rfl (by first | exact isR_r _ | exact isR_q _ | exact isR_n) ?_
  refine V_bipush C (v := 100) dX9_init_335 (by decide) ?_
  refine V_iA C hin 46 46 1 hPR (by intro g h1 h2; exact absurd h1 (by omega)) rfl rfl (by decide) rfl ac_int (by decide) rfl (by decide) (by decide) (by decide) pl_X9_131 rfl (by first | exact Or.inl ⟨_, rfl⟩ | exact Or.inr ⟨_, rfl⟩) (by decide) dX9_init_337 dX9_init_339 (fun T hPR => ?_)
  refine V_aload_n C dX9_init_342 rfl (by first | exact isR_r _ | exact isR_q _ | exact isR_n) ?_
  refine V_bipush C (v := 100) dX9_init_343 (by decide) ?_
  refine V_iA C hin 47 47 1 hPR (by intro g h1 h2; exact absurd h1 (by omega)) rfl rfl (by decide) rfl ac_int (by decide) rfl (by decide) (by decide) (by decide) pl_X9_134 rfl (by first | exact Or.inl ⟨_, rfl⟩ | exact Or.inr ⟨_, rfl⟩) (by decide) dX9_init_345 dX9_init_347 (fun T hPR => ?_)
  refine V_aload_n C dX9_init_350 rfl (by first | exact isR_r _ | exact isR_q _ | exact isR_n) ?_
  refine V_bipush C (v := 100) dX9_init_351 (by decide) ?_
  refine V_iA C hin 48 48 1 hPR (by intro g h1 h2; exact absurd h1 (by omega)) rfl rfl (by decide) rfl ac_int (by decide) rfl (by decide) (by decide) (by decide) pl_X9_137 rfl (by first | exact Or.inl ⟨_, rfl⟩ | exact Or.inr ⟨_, rfl⟩) (by decide) dX9_init_353 dX9_init_355 (fun T hPR => ?_)
  refine V_aload_n C dX9_init_358 rfl (by first | exact isR_r _ | exact isR_q _ | exact isR_n) ?_
  refine V_iconst C (v := 5) dX9_init_359 (by decide) ?_
  refine V_iA C hin 49 50 1 hPR (fun g h1 h2 => by rw [show g = 49 by omega]; rfl) rfl rfl (by decide) rfl ac_int (by decide) rfl (by decide) (by decide) (by decide) pl_X9_140 rfl (by first | exact Or.inl ⟨_, rfl⟩ | exact Or.inr ⟨_, rfl⟩) (by decide) dX9_init_360 dX9_init_362 (fun T hPR => ?_)
  refine V_aload_n C dX9_init_365 rfl (by first | exact isR_r _ | exact isR_q _ | exact isR_n) ?_
  refine V_iconst C (v := 5) dX9_init_366 (by decide) ?_
  refine V_iA C hin 51 51 1 hPR (by intro g h1 h2; exact absurd h1 (by omega)) rfl rfl (by decide) rfl ac_int (by decide) rfl (by decide) (by decide) (by decide) pl_X9_143 rfl (by first | exact Or.inl ⟨_, rfl⟩ | exact Or.inr ⟨_, rfl⟩) (by decide) dX9_init_367 dX9_init_369 (fun T hPR => ?_)
  refine V_aload_n C dX9_init_372 rfl (by first | exact isR_r _ | exact isR_q _ | exact isR_n) ?_
  refine V_iconst C (v := 5) dX9_init_373 (by decide) ?_
  refine V_iA C hin 52 52 1 hPR (by intro g h1 h2; exact absurd h1 (by omega)) rfl rfl (by decide) rfl ac_int (by decide) rfl (by decide) (by decide) (by decide) pl_X9_146 rfl (by first | exact Or.inl ⟨_, rfl⟩ | exact Or.inr ⟨_, rfl⟩) (by decide) dX9_init_374 dX9_init_376 (fun T hPR => ?_)
  refine V_aload_n C dX9_init_379 rfl (by first | exact isR_r _ | exact isR_q _ | exact isR_n) ?_
  refine V_bipush C (v := 50) dX9_init_380 (by decide) ?_
  refine V_iA C hin 53 53 2 hPR (by intro g h1 h2; exact absurd h1 (by omega)) rfl rfl (by decide) rfl ac_boolean (by decide) rfl (by decide) (by decide) (by decide) pl_X9_149 rfl (by first | exact Or.inl ⟨_, rfl⟩ | exact Or.inr ⟨_, rfl⟩) (by decide) dX9_init_382 dX9_init_384 (fun T hPR => ?_)
  refine V_aload_n C dX9_init_387 rfl (by first | exact isR_r _ | exact isR_q _ | exact isR_n) ?_
  refine V_bipush C (v := 50) dX9_init_388 (by decide) ?_
  refine V_iA C hin 54 54 1 hPR (by intro g h1 h2; exact absurd h1 (by omega)) rfl rfl (by decide) rfl ac_int (by decide) rfl (by decide) (by decide) (by decide) pl_X9_152 rfl (by first | exact Or.inl ⟨_, rfl⟩ | exact Or.inr ⟨_, rfl⟩) (by decide) dX9_init_390 dX9_init_392 (fun T hPR => ?_)
  refine V_aload_n C dX9_init_395 rfl (by first | exact isR_r _ | exact isR_q _ | exact isR_n) ?_
  refine V_bipush C (v := 10) dX9_init_396 (by decide) ?_
  refine V_iA C hin 55 55 1 hPR (by intro g h1 h2; exact absurd h1 (by omega)) rfl rfl (by decide) rfl ac_int (by decide) rfl (by decide) (by decide) (by decide) pl_X9_155 rfl (by first | exact Or.inl ⟨_, rfl⟩ | exact Or.inr ⟨_, rfl⟩) (by decide) dX9_init_398 dX9_init_400 (fun T hPR => ?_)
  refine V_vret C (by decide) (by decide) dX9_init_403 ?_
  refine ⟨rfl, ⟨hPR.1, fun f hf => ?_, hPR.2.2.1⟩, hPR.2.2.2⟩
  refine hPR.2.1 f ?_ hf
  simp only [mArr, Bool.or_eq_true, Bool.and_eq_true, decide_eq_true_eq] at hf
  omega
