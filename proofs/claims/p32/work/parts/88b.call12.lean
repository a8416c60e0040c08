/-! A CALL with up to twelve words below it on the stack. -/
section Runs12
variable {p : Program} {l : Launch} {e : Env} {R : Room} {s : State} {m : MethodId} {args : Array Value} {below : List Frame} {meth : Method} {c : Code} {H : Heap} {locs : List Loc} {cells slots : Nat}
variable {y : MethodName} {bytes cc : ByteArray} {maxL nL mc ms n index : Nat} {ret : Option FieldType} {ws : List Cond} {rm : Room} {Pc : Array Value → State → Prop} {Qc : Array Value → State → Outcome → State → Prop} {XC : String → State → State → Prop} {free : Addr → Prop} {Ts : List Cond} {own C : String} {b : Addr} {As rest : List Value} {g : JFrame}
theorem vx_runV12 (S : CallFix p m c cc nL s args Ts own) (hM : vx_Met l y ws rm Pc Qc XC mc ms free) (cw : CallW R s args own C index y bytes maxL ret ws rm mc ms n) (hp : PreV s H C b Pc As) (hlo : 12 + (maxL + 11) + rm.locals ≤ R.locals)
    (hg : g.method = m) (hn : As.length = n) (hsize : g.locals.size = nL) (hstack : g.stack = As.reverse ++ .ref b :: rest) (hW : 2 * g.monitorRoom + (rest.map fun v => v.category).sum ≤ 12) (hdg : decode cc g.pc = .ok (.invokevirtual index, 3)) (hf : cells + mc ≤ R.cells ∧ slots + ms ≤ R.slots) :
    vx_Run p l e R s m args below meth c H locs cells slots mc ms g rest (Qc (Value.ref b :: As).toArray) XC free := by
  have hK : vx_Back l R p e below s args y 3 12 (PreOf R mc ms Pc) (PostOf Qc mc ms free) (vx_Post XC mc ms free) := by
    obtain ⟨hrc, hrs, hfr, -, hws, hcw, -, hini, -⟩ := cw.1
    exact vx_back (bytes := bytes) (maxL := maxL) (ret := ret) hM hp.1 hrc hrs hfr hlo hws hcw (fun a' U hW => word_at hW (Or.inl (by first | rfl | simp [Cond.onTables, Cond.keeps, Cond.steady])) hini)
  obtain ⟨⟨-, -, -, -, -, -, hcode, -, hy, hlen, hl⟩, hin, hse⟩ := cw
  obtain ⟨hx, hb, hml, ho, -⟩ := S
  obtain ⟨-, ⟨cellB, hcB, hoB, hclB⟩, hPc⟩ := hp
  intro T hT X
  rcases vx_callV X hx (C := C) (bytes := bytes) (maxL := maxL) (ret := ret) ho hl hin hse hcode hy hK (by rw [hT]; exact hcB) hoB hclB hg (hsize.trans hml.symm) (argsL := As) (rest := rest) (fun sig h => hn.trans (hlen sig h)) hstack hW (by rw [hb]; exact hdg)
    (fun vm₁ hW₁ => ⟨hf.1, hf.2, hPc (T.setVm vm₁) hT hW₁⟩) with ⟨v, vm₁, ⟨U', l2, c2, s2⟩, hW₁, X', ⟨g', mk, t, L, e1, e2, hq, h1, hL, h2, h3⟩, st⟩ | ⟨q, vm₁, ⟨U', l2, c2, s2⟩, hW₁, X', ⟨g', mk, t, L, E, ce, e1, e2, hq, hce, hcv, hcl, h1, hL, h2, h3⟩, st⟩
  · dsimp only [Pt.U, Pt.locs, Pt.cells, Pt.slots] at X' e1 e2 h1 h2 h3 st
    subst h1; subst h2; subst h3
    exact Or.inl ⟨v, (T.setVm vm₁).calling g' mk (Value.ref b :: As).toArray, t, U', L, hT, X', hL, e1, e2, hq, st⟩
  · dsimp only [Pt.U, Pt.locs, Pt.cells, Pt.slots] at X' e1 e2 h1 h2 h3 st hcl
    subst h1; subst h2; subst h3
    exact Or.inr ⟨q, (T.setVm vm₁).calling g' mk (Value.ref b :: As).toArray, t, U', L, E, ce, hT, X', hL, e1, e2, hq, hce, hcv, vx_cls hW₁ hcl, st⟩
end Runs12
section VC12
variable {X : xX} {G : gG} {own : String} {cc : ByteArray} {nL : Nat} {ret : Option FieldType} {rm : Room} {tb : List ExceptionTableEntry} {Q : State → Prop} {k n pc : Nat} {lo : lO} {st : List Value} {S : sS}
variable {Pr : Option Value → sS → Prop} {Px : String → sS → Prop} {K N : Nat}
theorem V_callV12 (C : Cx X G own cc nL ret rm tb) {idx mL np d' k' n' ci b : Nat} {y : MethodName} {c2 : ByteArray} {r2 : Option FieldType} {As rest : List Value} (hM : Ct X.2.1 G y c2 mL r2 d' k' n' (.ref b :: As) S Pr Px) (hk : kV own idx y c2 mL r2 np) (hF : cF ci) (hci : ci < 50) (hcl : (vC ci).1 = y.cls) (hb : sK S b = ci + 1)
    (hR : d' + 1 ≤ rm.frames ∧ 12 + (mL + 11) + 37 * d' ≤ rm.locals) (hc : k + k' ≤ rm.cells ∧ n + n' ≤ rm.slots) (hn : As.length = np) (hst : st = As.reverse ++ .ref b :: rest) (h8 : (rest.map fun v => v.category).sum ≤ 12) (d : decode cc pc = .ok (.invokevirtual idx, 3))
    (kr : ∀ (v : Option Value) (S' : sS), Pr v S' → V X G nL Q (k + k') (n + n') (pc + 3) lo (v.toList ++ rest) S')
    (kx : ∀ (E : String) (S' : sS), Px E S' → VX X G nL Q (k + k') (n + n') pc lo rest S' E) : V X G nL Q k n pc lo st S := by
  refine V_run (rest := rest) (a := (Value.ref b :: As).toArray) (fun H ls locs hW hl => ?_) kr kx
  obtain ⟨r, h1, h2, -⟩ := hF
  have hrec := va_recv C.2.2.2.2.2.1.1 (wW_obj hW hb hci) h1 (q0 := 0) rfl
  rw [← h2, hcl] at hrec
  exact vx_runV12 (fix_ok C) hM ⟨kB_ok C hk.1 ⟨hR.1, by omega⟩, C.2.2.2.2.1 _ hk.2.1, C.2.2.2.2.1 _ hk.2.2⟩ ⟨fb_cP, hrec, pre_ok C hW⟩ (by rw [C.2.2.2.2.2.2.2.2.2.2.1]; exact hR.2) rfl hn hl.1 hst (by show 2 * 0 + _ ≤ 12; omega) d (by rw [C.2.2.2.2.2.2.2.2.2.2.1]; exact hc)
theorem V_fV12 (C : Cx X G own cc nL ret rm tb) {idx mL np d' k' n' ci b : Nat} {y : MethodName} {c2 : ByteArray} {r2 : Option FieldType} {As rest : List Value} {v : Option Value} {S2 : sS} (hM : CtF X.2.1 G y c2 mL r2 d' k' n' (.ref b :: As) S v S2) (hk : kV own idx y c2 mL r2 np) (hF : cF ci) (hci : ci < 50) (hcl : (vC ci).1 = y.cls) (hb : sK S b = ci + 1)
    (hR : d' + 1 ≤ rm.frames ∧ 12 + (mL + 11) + 37 * d' ≤ rm.locals) (hc : k + k' ≤ rm.cells ∧ n + n' ≤ rm.slots) (hn : As.length = np) (hst : st = As.reverse ++ .ref b :: rest) (h8 : (rest.map fun v => v.category).sum ≤ 12) (d : decode cc pc = .ok (.invokevirtual idx, 3))
    (kk : V X G nL Q (k + k') (n + n') (pc + 3) lo (v.toList ++ rest) S2) : V X G nL Q k n pc lo st S :=
  V_callV12 C hM hk hF hci hcl hb hR hc hn hst h8 d (fun w T ⟨e1, e2⟩ => by rw [e1, e2]; exact kk) (fun _ _ h => h.elim)
end VC12

