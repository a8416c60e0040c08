/-! A static CALL with up to twelve words below it; the law's acts. -/
section RunsS12
variable {p : Program} {l : Launch} {e : Env} {R : Room} {s : State} {m : MethodId} {args : Array Value} {below : List Frame} {meth : Method} {c : Code} {H : Heap} {locs : List Loc} {cells slots : Nat}
variable {y : MethodName} {bytes cc : ByteArray} {maxL nL mc ms n index : Nat} {ret : Option FieldType} {ws : List Cond} {rm : Room} {Pc : Array Value → State → Prop} {Qc : Array Value → State → Outcome → State → Prop} {XC : String → State → State → Prop} {free : Addr → Prop} {Ts : List Cond} {own C : String} {b : Addr} {As rest : List Value} {g : JFrame}
theorem vx_runS12 (S : CallFix p m c cc nL s args Ts own) (hM : vx_Met l y ws rm Pc Qc XC mc ms free) (cw : CallB R s args own index y bytes maxL ret ws rm mc ms n ∧ (Cond.static y).before args s = true) (hp : PreS s H Pc As) (hlo : 12 + (maxL + 11) + rm.locals ≤ R.locals)
    (hg : g.method = m) (hn : As.length = n) (hsize : g.locals.size = nL) (hstack : g.stack = As.reverse ++ rest) (hW : 2 * g.monitorRoom + (rest.map fun v => v.category).sum ≤ 12) (hdg : decode cc g.pc = .ok (.invokestatic index, 3)) (hf : cells + mc ≤ R.cells ∧ slots + ms ≤ R.slots) :
    vx_Run p l e R s m args below meth c H locs cells slots mc ms g rest (Qc As.toArray) XC free := by
  have hK : vx_Back l R p e below s args y 3 12 (PreOf R mc ms Pc) (PostOf Qc mc ms free) (vx_Post XC mc ms free) := by
    obtain ⟨hrc, hrs, hfr, -, hws, hcw, -, hini, -⟩ := cw.1
    exact vx_back (bytes := bytes) (maxL := maxL) (ret := ret) hM hp.1 hrc hrs hfr hlo hws hcw (fun a' U hW => word_at hW (Or.inl (by first | rfl | simp [Cond.onTables, Cond.keeps, Cond.steady])) hini)
  obtain ⟨⟨-, -, -, -, -, -, hcode, hini, hy, hlen, hl⟩, hstt⟩ := cw
  obtain ⟨hx, hb, hml, ho, -⟩ := S
  intro T hT X
  rcases vx_callS X hx (bytes := bytes) (maxL := maxL) (ret := ret) ho hl hstt hini hcode hy hK hg (hsize.trans hml.symm) (argsL := As) (rest := rest) (fun sig h => hn.trans (hlen sig h)) hstack hW (by rw [hb]; exact hdg)
    (fun vm₁ hW₁ => ⟨hf.1, hf.2, hp.2 (T.setVm vm₁) hT hW₁⟩) with ⟨v, vm₁, ⟨U', l2, c2, s2⟩, hW₁, X', ⟨g', mk, t, L, e1, e2, hq, h1, hL, h2, h3⟩, st⟩ | ⟨q, vm₁, ⟨U', l2, c2, s2⟩, hW₁, X', ⟨g', mk, t, L, E, ce, e1, e2, hq, hce, hcv, hcl, h1, hL, h2, h3⟩, st⟩
  · dsimp only [Pt.U, Pt.locs, Pt.cells, Pt.slots] at X' e1 e2 h1 h2 h3 st
    subst h1; subst h2; subst h3
    exact Or.inl ⟨v, (T.setVm vm₁).calling g' mk As.toArray, t, U', L, hT, X', hL, e1, e2, hq, st⟩
  · dsimp only [Pt.U, Pt.locs, Pt.cells, Pt.slots] at X' e1 e2 h1 h2 h3 st hcl
    subst h1; subst h2; subst h3
    exact Or.inr ⟨q, (T.setVm vm₁).calling g' mk As.toArray, t, U', L, E, ce, hT, X', hL, e1, e2, hq, hce, hcv, vx_cls hW₁ hcl, st⟩
end RunsS12
section VCS12
variable {X : xX} {G : gG} {own : String} {cc : ByteArray} {nL : Nat} {ret : Option FieldType} {rm : Room} {tb : List ExceptionTableEntry} {Q : State → Prop} {k n pc : Nat} {lo : lO} {st : List Value} {S : sS}
variable {Pr : Option Value → sS → Prop} {Px : String → sS → Prop} {K N : Nat}
theorem V_callS12 (C : Cx X G own cc nL ret rm tb) {idx mL np d' k' n' : Nat} {y : MethodName} {c2 : ByteArray} {r2 : Option FieldType} {As rest : List Value} (hM : Ct X.2.1 G y c2 mL r2 d' k' n' As S Pr Px) (hk : kS own idx y c2 mL r2 np)
    (hR : d' + 1 ≤ rm.frames ∧ 12 + (mL + 11) + 37 * d' ≤ rm.locals) (hc : k + k' ≤ rm.cells ∧ n + n' ≤ rm.slots) (hn : As.length = np) (hst : st = As.reverse ++ rest) (h8 : (rest.map fun v => v.category).sum ≤ 12) (d : decode cc pc = .ok (.invokestatic idx, 3))
    (kr : ∀ (v : Option Value) (S' : sS), Pr v S' → V X G nL Q (k + k') (n + n') (pc + 3) lo (v.toList ++ rest) S')
    (kx : ∀ (E : String) (S' : sS), Px E S' → VX X G nL Q (k + k') (n + n') pc lo rest S' E) : V X G nL Q k n pc lo st S :=
  V_run (rest := rest) (a := As.toArray) (fun H ls locs hW hl => vx_runS12 (fix_ok C) hM ⟨kB_ok C hk.1 ⟨hR.1, by omega⟩, C.2.2.2.2.1 _ hk.2⟩ ⟨fb_cP, pre_ok C hW⟩ (by rw [C.2.2.2.2.2.2.2.2.2.2.1]; exact hR.2) rfl hn hl.1 hst (by show 2 * 0 + _ ≤ 12; omega) d (by rw [C.2.2.2.2.2.2.2.2.2.2.1]; exact hc)) kr kx
theorem V_ior (C : Cx X G own cc nL ret rm tb) {x y : Int32} (d : decode cc pc = .ok (.ior, 1)) (kk : V X G nL Q k n (pc + 1) lo (.int (x ||| y) :: st) S) : V X G nL Q k n pc lo (.int y :: .int x :: st) S := fun H ls locs hW hl hf => lv_ior C.1 C.2.1 d (kk H ls locs hW hl hf)
end VCS12
/-- what an act of the law may do, its own count of checks with it -/
def WA (σ : aS) (γ : Nat → Nat → Int32) (σ' : aS) (γ' : Nat → Nat → Int32) : Prop := LJ σ' γ' ∧ cN σ' 0 ≤ cN σ 0 + 60 ∧ cN σ' 27 ≤ cN σ 27 + 3 ∧ ∀ e : Nat, e ≤ 1000 → γ 0 5 = nI e → ∃ e', e' ≤ e + 1 ∧ γ' 0 5 = nI e'
theorem WA_of {σ σ' : aS} {γ γ' : Nat → Nat → Int32} (h : WP σ γ σ' γ') : WA σ γ σ' γ' := ⟨h.1, h.2.1, h.2.2.1, fun e _ he => ⟨e, Nat.le_succ _, h.2.2.2.trans he⟩⟩
theorem LJ_5 {σ : aS} {γ : Nat → Nat → Int32} {v : Int32} (h : LJ σ γ) : LJ σ (up2 γ 0 5 v) := by
  obtain ⟨⟨⟨a0, a1, a2, a3, a4⟩, a5, h3, h4, h5⟩, hY, hz⟩ := h
  have g : ∀ f j, f ≠ 0 → up2 γ 0 5 v f j = γ f j := fun f j hf => up2_n1 hf
  refine ⟨⟨⟨(up2_n2 (by decide)).trans a0, (up2_n2 (by decide)).trans a1, (up2_n2 (by decide)).trans a2, (up2_n2 (by decide)).trans a3, (up2_n2 (by decide)).trans a4⟩, a5, fun k hk => ?_, fun m hm => ?_, fun i hi => ?_⟩, hY, fun m h1 h2 => ?_⟩
  · rw [g 1 k (by decide), g 2 k (by decide), g 3 k (by decide)]; exact h3 k hk
  · rw [g 4 m (by decide), g 5 m (by decide)]; exact h4 m hm
  · rw [g 6 i (by decide), g 7 _ (by decide), g 7 _ (by decide)]; exact h5 i hi
  · rw [g 5 m (by decide)]; exact hz m h1 h2
theorem c_acts (l : Launch) (hl : l.stackTraces = false) (G : gG) (S : sS) (q : Nat) (a : Nat → Nat) (γ : Nat → Nat → Int32) (σ : aS) (hP : PW S q a γ σ) (hL : LJ σ γ) (hn : cN σ 27 < 500) (h0 : cN σ 0 ≤ 11000) (e : Nat) (he : γ 0 5 = nI e) (he2 : e ≤ 1000) (x y : Int32) : Ct l G yL_acts cL_acts 13 (Option.some FieldType.boolean) 11 310 2100 [.ref q, .ref (a 0), .ref (a 1), .ref (a 2), .ref (a 3), .ref (a 4), .ref (a 5), .ref (a 6), .ref (a 7), .int x, .int y] S (fun v T => v = some (.int 1) ∧ ∃ γ9 σ9, PW T q a γ9 σ9 ∧ WA σ γ σ9 γ9) (fun _ _ => False) := by
  refine Ct_of (by decide) (cat1_all (by repeat first | exact trivial | refine ⟨by first | rfl | exact isR_c (isR_r _), ?_⟩)) (Nat.le_of_ble_eq_true rfl) hl fun X C hXl hin => ?_
  subst hXl
  dsimp only [lArgs, Nat.reduceAdd]
  have hW := PW_W hP
  have n0 : cN σ 0 ≤ 12000 := hW.1.1.2
  have s0 : σ.2 0 = nI (cN σ 0) := hW.1.1.1
  have n1 : cN σ 1 ≤ 16 := hW.1.2.1.2
  have n43 : cN σ 43 ≤ 100 := hW.1.2.2.2.2.2.1.2
  obtain ⟨⟨e00, e01, e02, e03, e04⟩, ⟨n20, n38⟩, eK, eM, eO⟩ := id hL.1
  rw [s0] at e04
  refine V_iload C dL_acts_0 rfl ?_
  refine V_bipush C (v := 14) dL_acts_2 (by decide) ?_
  refine V_fS C (c_low _ hl G _ _ 14 (by decide) (by decide)) ks_L_145 ⟨by decide, by decide⟩ ⟨by decide, by decide⟩ rfl rfl (Nat.le_of_ble_eq_true rfl) dL_acts_4 ?_
  dsimp only [Option.toList_some, Option.toList_none, List.cons_append, List.nil_append]
  refine V_istore C dL_acts_7 (by decide) rfl ?_
  simp only [lset1, lset2, List.filter_cons, List.filter_nil, Nat.reduceBEq, Nat.reduceAdd, Bool.not_true, Bool.not_false, Bool.and_true, Bool.and_false, Bool.true_and, Bool.false_and, if_true, if_false, Bool.false_eq_true, reduceIte]
  refine V_or (tgt9 := 26) (st9 := []) ?_ (fun J26 => ?_)
  ·
    refine V_aload_n C dL_acts_26 rfl (by first | exact isR_r _ | exact isR_q _ | exact isR_n) ?_
    refine V_aload_n C dL_acts_27 rfl (by first | exact isR_r _ | exact isR_q _ | exact isR_n) ?_
    refine V_aload_n C dL_acts_28 rfl (by first | exact isR_r _ | exact isR_q _ | exact isR_n) ?_
    refine V_aload_n C dL_acts_29 rfl (by first | exact isR_r _ | exact isR_q _ | exact isR_n) ?_
    refine V_aload C dL_acts_30 rfl (by first | exact isR_r _ | exact isR_q _ | exact isR_n) ?_
    refine V_aload C dL_acts_32 rfl (by first | exact isR_r _ | exact isR_q _ | exact isR_n) ?_
    refine V_iload C dL_acts_34 rfl ?_
    refine V_iconst C (v := 4) dL_acts_36 (by decide) ?_
    refine V_ishr C dL_acts_37 ?_
    refine V_iload C dL_acts_38 rfl ?_
    refine V_callS C (c_makes _ hl G _ q a γ σ hP hL hn _ _) ks_L_182 ⟨by decide, by decide⟩ ⟨by decide, by decide⟩ rfl rfl (Nat.le_of_ble_eq_true rfl) dL_acts_40 (fun v9 T9 h9 => ?_) (fun _ _ z => z.elim)
    obtain ⟨rfl, γ1, σ1, hP1, hW1⟩ := h9
    dsimp only [Option.toList_some, Option.toList_none, List.cons_append, List.nil_append]
    refine V_zret C rfl (by first | omega | decide) (by first | omega | decide) dL_acts_43 ?_
    exact ⟨rfl, γ1, σ1, hP1, WA_of hW1⟩
  ·
    refine V_iload C dL_acts_9 rfl ?_
    refine V_if_eq C (tgt := 26) dL_acts_11 (by decide) (fun h11 => ?_) (fun h11 => ?_)
    ·
      exact J26
    ·
      refine V_aload_n C dL_acts_14 rfl (by first | exact isR_r _ | exact isR_q _ | exact isR_n) ?_
      refine V_iconst C (v := 0) dL_acts_15 (by decide) ?_
      refine V_gl C hP 0 0 (by decide) (by decide) rfl e00 dL_acts_16 ?_
      refine V_if_eq C (tgt := 26) dL_acts_17 (by decide) (fun h17 => ?_) (fun h17 => ?_)
      ·
        exact J26
      ·
        refine V_aload_n C dL_acts_20 rfl (by first | exact isR_r _ | exact isR_q _ | exact isR_n) ?_
        refine V_iconst C (v := 1) dL_acts_21 (by decide) ?_
        refine V_gl C hP 0 1 (by decide) (by decide) rfl e01 dL_acts_22 ?_
        refine V_if_ne C (tgt := 44) dL_acts_23 (by decide) (fun h23 => ?_) (fun h23 => ?_)
        ·
          have h1 : 0 < cN σ 1 := Nat.pos_of_ne_zero fun z => h17 (by rw [z]; rfl)
          have h2 : 0 < cN σ 20 := Nat.pos_of_ne_zero fun z => h23 (by rw [z]; rfl)
          refine V_iload C dL_acts_44 rfl ?_
          refine V_iconst C (v := 4) dL_acts_46 (by decide) ?_
          refine V_icmp_ge C (tgt := 66) dL_acts_47 (by decide) (fun h47 => ?_) (fun h47 => ?_)
          ·
            refine V_iload C dL_acts_66 rfl ?_
            refine V_bipush C (v := 7) dL_acts_68 (by decide) ?_
            refine V_icmp_ge C (tgt := 87) dL_acts_70 (by decide) (fun h70 => ?_) (fun h70 => ?_)
            ·
              refine V_iload C dL_acts_87 rfl ?_
              refine V_bipush C (v := 10) dL_acts_89 (by decide) ?_
              refine V_icmp_ge C (tgt := 108) dL_acts_91 (by decide) (fun h91 => ?_) (fun h91 => ?_)
              ·
                refine V_iload C dL_acts_108 rfl ?_
                refine V_bipush C (v := 13) dL_acts_110 (by decide) ?_
                refine V_icmp_ge C (tgt := 164) dL_acts_112 (by decide) (fun h112 => ?_) (fun h112 => ?_)
                ·
                  refine V_aload_n C dL_acts_164 rfl (by first | exact isR_r _ | exact isR_q _ | exact isR_n) ?_
                  refine V_iconst C (v := 5) dL_acts_165 (by decide) ?_
                  refine V_dup2 C dL_acts_166 rfl rfl ?_
                  refine V_gl C hP 0 5 (by decide) (by decide) rfl he dL_acts_167 ?_
                  refine V_iconst C (v := 1) dL_acts_168 (by decide) ?_
                  refine V_iadd C dL_acts_169 ?_
                  rw [nI_1]
                  refine V_gs C hP 0 5 (by decide) (by decide) rfl dL_acts_170 (fun T9 hP9 => ?_)
                  replace hP := hP9
                  have L5 := LJ_5 (v := nI (e + 1)) hL
                  refine V_aload_n C dL_acts_171 rfl (by first | exact isR_r _ | exact isR_q _ | exact isR_n) ?_
                  refine V_iconst C (v := 5) dL_acts_172 (by decide) ?_
                  refine V_gl C hP 0 5 (by decide) (by decide) rfl up2_s dL_acts_173 ?_
                  refine V_iconst C (v := 4) dL_acts_174 (by decide) ?_
                  refine V_icmp_gt C (tgt := 211) dL_acts_175 (by decide) (fun h175 => ?_) (fun h175 => ?_)
                  ·
                    refine V_iconst C (v := 1) dL_acts_211 (by decide) ?_
                    refine V_goto C (tgt := 216) dL_acts_212 (by decide) ?_
                    refine V_zret C rfl (by first | omega | decide) (by first | omega | decide) dL_acts_216 ?_
                    exact ⟨rfl, _, σ, hP, L5, by omega, by omega, fun e9 h0 h9 => ⟨e + 1, by have := (nI_eq (by omega) (by omega)).mp (he.symm.trans h9); omega, up2_s⟩⟩
                  ·
                    refine V_aload_n C dL_acts_178 rfl (by first | exact isR_r _ | exact isR_q _ | exact isR_n) ?_
                    refine V_aload_n C dL_acts_179 rfl (by first | exact isR_r _ | exact isR_q _ | exact isR_n) ?_
                    refine V_aload_n C dL_acts_180 rfl (by first | exact isR_r _ | exact isR_q _ | exact isR_n) ?_
                    refine V_aload_n C dL_acts_181 rfl (by first | exact isR_r _ | exact isR_q _ | exact isR_n) ?_
                    refine V_aload C dL_acts_182 rfl (by first | exact isR_r _ | exact isR_q _ | exact isR_n) ?_
                    refine V_fS C (c_areChildren _ hl G _ q a _ _ hP L5.1 (AC_of hW hL.2.1.1)) ks_L_199 ⟨by decide, by decide⟩ ⟨by decide, by decide⟩ rfl rfl (Nat.le_of_ble_eq_true rfl) dL_acts_184 ?_
                    dsimp only [Option.toList_some, Option.toList_none, List.cons_append, List.nil_append]
                    refine V_if_eq C (tgt := 215) dL_acts_187 (by decide) (fun h187 => absurd h187 (by decide)) (fun h187 => ?_)
                    refine V_aload_n C dL_acts_190 rfl (by first | exact isR_r _ | exact isR_q _ | exact isR_n) ?_
                    refine V_aload_n C dL_acts_191 rfl (by first | exact isR_r _ | exact isR_q _ | exact isR_n) ?_
                    refine V_aload_n C dL_acts_192 rfl (by first | exact isR_r _ | exact isR_q _ | exact isR_n) ?_
                    refine V_aload_n C dL_acts_193 rfl (by first | exact isR_r _ | exact isR_q _ | exact isR_n) ?_
                    refine V_aload C dL_acts_194 rfl (by first | exact isR_r _ | exact isR_q _ | exact isR_n) ?_
                    refine V_fS C (c_areStays _ hl G _ q a _ _ hP L5.1 (ASt_of hW hL.2.1.1)) ks_L_203 ⟨by decide, by decide⟩ ⟨by decide, by decide⟩ rfl rfl (Nat.le_of_ble_eq_true rfl) dL_acts_196 ?_
                    dsimp only [Option.toList_some, Option.toList_none, List.cons_append, List.nil_append]
                    refine V_if_eq C (tgt := 215) dL_acts_199 (by decide) (fun h199 => absurd h199 (by decide)) (fun h199 => ?_)
                    refine V_aload_n C dL_acts_202 rfl (by first | exact isR_r _ | exact isR_q _ | exact isR_n) ?_
                    refine V_aload_n C dL_acts_203 rfl (by first | exact isR_r _ | exact isR_q _ | exact isR_n) ?_
                    refine V_aload_n C dL_acts_204 rfl (by first | exact isR_r _ | exact isR_q _ | exact isR_n) ?_
                    refine V_fS C (c_areLoads _ hl G _ q a _ _ hP L5.1 (ALo_of hW)) ks_L_206 ⟨by decide, by decide⟩ ⟨by decide, by decide⟩ rfl rfl (Nat.le_of_ble_eq_true rfl) dL_acts_205 ?_
                    dsimp only [Option.toList_some, Option.toList_none, List.cons_append, List.nil_append]
                    refine V_if_eq C (tgt := 215) dL_acts_208 (by decide) (fun h208 => absurd h208 (by decide)) (fun h208 => ?_)
                    refine V_iconst C (v := 1) dL_acts_211 (by decide) ?_
                    refine V_goto C (tgt := 216) dL_acts_212 (by decide) ?_
                    refine V_zret C rfl (by first | omega | decide) (by first | omega | decide) dL_acts_216 ?_
                    exact ⟨rfl, _, σ, hP, L5, by omega, by omega, fun e9 h0 h9 => ⟨e + 1, by have := (nI_eq (by omega) (by omega)).mp (he.symm.trans h9); omega, up2_s⟩⟩
                ·
                  refine V_iconst C (v := 1) dL_acts_115 (by decide) ?_
                  refine V_iload C dL_acts_116 rfl ?_
                  obtain ⟨D9, d9t, d9f, d9c⟩ := pick (p := nI (lo x 14) = 12) 60 9
                  refine V_or (tgt9 := 132) (st9 := [.int (nI D9), .int y, .int 1]) ?_ (fun J132 => ?_)
                  ·
                    refine V_fS C (c_low _ hl G _ _ D9 (by omega) (by omega)) ks_L_145 ⟨by decide, by decide⟩ ⟨by decide, by decide⟩ rfl rfl (Nat.le_of_ble_eq_true rfl) dL_acts_132 ?_
                    dsimp only [Option.toList_some, Option.toList_none, List.cons_append, List.nil_append]
                    refine V_iadd C dL_acts_135 ?_
                    rw [show (1 : Int32) + nI (lo y D9) = nI (1 + lo y D9) from nI_add 1 _]
                    refine V_istore C dL_acts_136 (by decide) rfl ?_
                    simp only [lset1, lset2, List.filter_cons, List.filter_nil, Nat.reduceBEq, Nat.reduceAdd, Bool.not_true, Bool.not_false, Bool.and_true, Bool.and_false, Bool.true_and, Bool.false_and, if_true, if_false, Bool.false_eq_true, reduceIte]
                    refine V_aload_n C dL_acts_138 rfl (by first | exact isR_r _ | exact isR_q _ | exact isR_n) ?_
                    refine V_iconst C (v := 4) dL_acts_139 (by decide) ?_
                    refine V_dup2 C dL_acts_140 rfl rfl ?_
                    refine V_gl C hP 0 4 (by decide) (by decide) rfl e04 dL_acts_141 ?_
                    refine V_iload C dL_acts_142 rfl ?_
                    refine V_iadd C dL_acts_144 ?_
                    rw [nI_add]
                    refine V_gs C hP 0 4 (by decide) (by decide) rfl dL_acts_145 (fun T9 hP9 => ?_)
                    replace hP := hP9
                    have hd9 := lo_lt y (n := D9) (by omega)
                    obtain ⟨tp, e1, LP, N0⟩ := LJ_pass hW hL (n := 1 + lo y D9) (by omega) (by omega) (by omega)
                    have KP := KW_pass (v := nI (1 + lo y D9)) hW
                    refine V_aload_n C dL_acts_146 rfl (by first | exact isR_r _ | exact isR_q _ | exact isR_n) ?_
                    refine V_iload C dL_acts_147 rfl ?_
                    refine V_callH C (w_pass _ hl G _ q a _ _ hP  (nI (1 + lo y D9))) kh_L_197 ⟨by decide, by decide⟩ ⟨by decide, by decide⟩ rfl rfl (Nat.le_of_ble_eq_true rfl) dL_acts_149 (fun v9 T9 h9 => ?_)
                    obtain ⟨rfl, hP9⟩ := h9
                    replace hP := hP9
                    clear hP9
                    dsimp only [Option.toList_some, Option.toList_none, List.cons_append, List.nil_append]
                    rw [hR_0 tp, e1]
                    refine V_aload_n C dL_acts_152 rfl (by first | exact isR_r _ | exact isR_q _ | exact isR_n) ?_
                    refine V_iconst C (v := 4) dL_acts_153 (by decide) ?_
                    refine V_gl C hP 0 4 (by decide) (by decide) rfl up2_s dL_acts_154 ?_
                    refine V_icmp_ne C (tgt := 162) dL_acts_155 (by decide) (fun h155 => absurd h155 (fun z => z rfl)) (fun h155 => ?_)
                    refine V_iconst C (v := 1) dL_acts_158 (by decide) ?_
                    refine V_goto C (tgt := 163) dL_acts_159 (by decide) ?_
                    refine V_zret C rfl (by first | omega | decide) (by first | omega | decide) dL_acts_163 ?_
                    exact ⟨rfl, _, _, hP, LP, by omega, by have := KP.2; omega, fun e9 _ h9 => ⟨e9, Nat.le_succ _, (up2_n2 (by decide)).trans h9⟩⟩
                  ·
                    refine V_iload C dL_acts_118 rfl ?_
                    refine V_bipush C (v := 12) dL_acts_120 (by decide) ?_
                    refine V_icmp_ne C (tgt := 130) dL_acts_122 (by decide) (fun h122 => ?_) (fun h122 => ?_)
                    ·
                      refine V_bipush C (v := 9) dL_acts_130 (by decide) ?_
                      rw [show (9 : Int32) = nI D9 from (congrArg nI (d9f h122) : nI 9 = nI D9)]
                      exact J132
                    ·
                      refine V_bipush C (v := 60) dL_acts_125 (by decide) ?_
                      refine V_goto C (tgt := 132) dL_acts_127 (by decide) ?_
                      rw [show (60 : Int32) = nI D9 from (congrArg nI (d9t h122) : nI 60 = nI D9)]
                      exact J132
              ·
                refine V_aload_n C dL_acts_94 rfl (by first | exact isR_r _ | exact isR_q _ | exact isR_n) ?_
                refine V_aload_n C dL_acts_95 rfl (by first | exact isR_r _ | exact isR_q _ | exact isR_n) ?_
                refine V_aload C dL_acts_96 rfl (by first | exact isR_r _ | exact isR_q _ | exact isR_n) ?_
                refine V_iload C dL_acts_98 rfl ?_
                refine V_iconst C (v := 4) dL_acts_100 (by decide) ?_
                refine V_ishr C dL_acts_101 ?_
                refine V_iload C dL_acts_102 rfl ?_
                refine V_callS C (c_others _ hl G _ q a γ σ hP hL h1 h2 _ _) ks_L_194 ⟨by decide, by decide⟩ ⟨by decide, by decide⟩ rfl rfl (Nat.le_of_ble_eq_true rfl) dL_acts_104 (fun v9 T9 h9 => ?_) (fun _ _ z => z.elim)
                obtain ⟨rfl, γ1, σ1, hP1, hW1⟩ := h9
                dsimp only [Option.toList_some, Option.toList_none, List.cons_append, List.nil_append]
                refine V_zret C rfl (by first | omega | decide) (by first | omega | decide) dL_acts_107 ?_
                exact ⟨rfl, γ1, σ1, hP1, WA_of hW1⟩
            ·
              refine V_aload_n C dL_acts_73 rfl (by first | exact isR_r _ | exact isR_q _ | exact isR_n) ?_
              refine V_aload_n C dL_acts_74 rfl (by first | exact isR_r _ | exact isR_q _ | exact isR_n) ?_
              refine V_aload C dL_acts_75 rfl (by first | exact isR_r _ | exact isR_q _ | exact isR_n) ?_
              refine V_iload C dL_acts_77 rfl ?_
              refine V_iconst C (v := 4) dL_acts_79 (by decide) ?_
              refine V_ishr C dL_acts_80 ?_
              refine V_iload C dL_acts_81 rfl ?_
              refine V_callS C (c_places _ hl G _ q a γ σ hP hL h1 h2 _ _) ks_L_190 ⟨by decide, by decide⟩ ⟨by decide, by decide⟩ rfl rfl (Nat.le_of_ble_eq_true rfl) dL_acts_83 (fun v9 T9 h9 => ?_) (fun _ _ z => z.elim)
              obtain ⟨rfl, γ1, σ1, hP1, hW1⟩ := h9
              dsimp only [Option.toList_some, Option.toList_none, List.cons_append, List.nil_append]
              refine V_zret C rfl (by first | omega | decide) (by first | omega | decide) dL_acts_86 ?_
              exact ⟨rfl, γ1, σ1, hP1, WA_of hW1⟩
          ·
            refine V_aload_n C dL_acts_50 rfl (by first | exact isR_r _ | exact isR_q _ | exact isR_n) ?_
            refine V_aload_n C dL_acts_51 rfl (by first | exact isR_r _ | exact isR_q _ | exact isR_n) ?_
            refine V_aload C dL_acts_52 rfl (by first | exact isR_r _ | exact isR_q _ | exact isR_n) ?_
            refine V_aload C dL_acts_54 rfl (by first | exact isR_r _ | exact isR_q _ | exact isR_n) ?_
            refine V_iload C dL_acts_56 rfl ?_
            refine V_iconst C (v := 4) dL_acts_58 (by decide) ?_
            refine V_ishr C dL_acts_59 ?_
            refine V_iload C dL_acts_60 rfl ?_
            refine V_callS C (c_orders _ hl G _ q a γ σ hP hL h1 _ _) ks_L_186 ⟨by decide, by decide⟩ ⟨by decide, by decide⟩ rfl rfl (Nat.le_of_ble_eq_true rfl) dL_acts_62 (fun v9 T9 h9 => ?_) (fun _ _ z => z.elim)
            obtain ⟨rfl, γ1, σ1, hP1, hW1⟩ := h9
            dsimp only [Option.toList_some, Option.toList_none, List.cons_append, List.nil_append]
            refine V_zret C rfl (by first | omega | decide) (by first | omega | decide) dL_acts_65 ?_
            exact ⟨rfl, γ1, σ1, hP1, WA_of hW1⟩
        ·
          exact J26
