/-! THE REFERENCE: finds, placeAll. -/
theorem c_X9_finds (l : Launch) (hl : l.stackTraces = false) (G : gG) (S : sS) (m : Nat) (σ : aS) (hR : RelR S m σ) (hI : IC σ) (M : Nat) (hM : M ≤ 5) (eM : σ.2 49 = nI M) (hW : ∀ k, k < M → ∃ c, c < cN σ 1 ∧ σ.1 50 k = nI c) : CtR l G yX9_finds cX9_finds 6 (Option.some FieldType.int) 6 [.ref m] S m (some (.int (oFinds σ M).1)) ((oFinds σ M).2, σ.2) := by
  have hm := hR.1
  have hRF := RF_0 hR
  obtain ⟨n, hn⟩ : ∃ n, n = cN σ 20 := ⟨_, rfl⟩
  have hn10 : n ≤ 10 := by rw [hn]; exact hI.2.2.1.2
  have en : σ.2 20 = nI n := by rw [hn]; exact hI.2.2.1.1
  have hch := hI.2.1.2
  obtain ⟨R, hR9⟩ : ∃ R, R = oFinds σ M := ⟨_, rfl⟩
  rw [← hR9]
  refine Ct_of (by decide) (cat1_all (by repeat first | exact trivial | refine ⟨by first | rfl | exact isR_c (isR_q _), ?_⟩)) (Nat.le_of_ble_eq_true rfl) hl fun X C hXl hin => ?_
  subst hXl
  dsimp only [lArgs, Nat.reduceAdd]
  have tail : ∀ (p : Int32) (b : Int32) (T : sS) (hRF : RF S T m R.2 σ.2), R.1 = p → V X G 6 (eQ X G (fun v T => v = some (.int R.1) ∧ RF S T m R.2 σ.2) (fun _ _ => False) 0 0) 0 0 125 [(3, false, .int 0), (2, false, .int p), (1, false, .int b), (0, false, .ref m)] [] T := by
    intro p b T hRF e
    refine V_iload_n C dX9_finds_125 rfl ?_
    refine V_if_eq C (tgt := 208) dX9_finds_126 (by decide) (fun h126 => ?_) (fun h126 => ?_)
    · refine V_iload_n C dX9_finds_208 rfl ?_
      refine V_iret C (by first | omega | decide) (by first | omega | decide) dX9_finds_209 ?_
      rw [e]
      exact ⟨rfl, hRF⟩
    · exact absurd rfl h126
  have main : ∀ (f : Nat) (A : Nat → Nat → Int32) (b p : Int32) (T : sS) (hRF : RF S T m A σ.2) (hI : IC (A, σ.2)), dig n (A 51) M → rk n (A 51) M + f = (n + 1) ^ M → srch σ.2 M f A b p = R → V X G 6 (eQ X G (fun v T => v = some (.int R.1) ∧ RF S T m R.2 σ.2) (fun _ _ => False) 0 0) 0 0 125 [(3, false, .int 1), (2, false, .int p), (1, false, .int b), (0, false, .ref m)] [] T := by
    intro f
    induction f with
    | zero =>
      intro A b p T hRF hI hd hr e
      exact absurd (rk_lt hn10 M hd) (by omega)
    | succ f ih =>
      intro A b p T hRF hI hd hr e
      have J200 : ∀ (A' : Nat → Nat → Int32) (b' p' : Int32) (T : sS) (hRF : RF S T m A' σ.2) (hI : IC (A', σ.2)), A' 51 = A 51 → iteP ((nxt (σ.2 20) M A').1 = 0) (p', (nxt (σ.2 20) M A').2) (srch σ.2 M f (nxt (σ.2 20) M A').2 b' p') = R → V X G 6 (eQ X G (fun v T => v = some (.int R.1) ∧ RF S T m R.2 σ.2) (fun _ _ => False) 0 0) 0 0 200 [(2, false, .int p'), (1, false, .int b'), (0, false, .ref m)] [] T := by
        intro A' b' p' T hRF hI h51 e
        have hd' : dig n (A' 51) M := by rw [h51]; exact hd
        have m9 := nxt_m hn10 M A' hd'
        rw [← en] at m9
        obtain ⟨m1, m2⟩ := m9
        refine V_aload_n C dX9_finds_200 rfl (by first | exact isR_r _ | exact isR_q _ | exact isR_n) ?_
        refine V_callV C (c_X9_isNext _ hl G T m (A', σ.2) hRF.1 hI M hM eM) kv_X9_266 cf_9 (by decide) rfl hRF.1.1 (by decide) (by decide) rfl rfl (Nat.le_of_ble_eq_true rfl) dX9_finds_201 ?_ (fun _ _ h => h.elim)
        intro v9 T9 hT
        obtain ⟨rfl, hT⟩ := hT
        have hRF := RF_tr hRF hT
        dsimp only [Option.toList_some, Option.toList_none, List.cons_append, List.nil_append]
        refine V_istore_n C dX9_finds_204 (by decide) rfl ?_
        simp only [lset1, lset2, List.filter_cons, List.filter_nil, Nat.reduceBEq, Nat.reduceAdd, Bool.not_true, Bool.not_false, Bool.and_true, Bool.and_false, Bool.true_and, Bool.false_and, if_true, if_false, Bool.false_eq_true, reduceIte]
        refine V_goto C (tgt := 125) dX9_finds_205 (by decide) ?_
        rcases m2 with ⟨q, q2⟩ | ⟨q, q2⟩
        · have e := (iteP_t q).symm.trans e
          refine V_sub ?_ (tail p' b' _ (by rw [← e]; exact hRF) (by rw [← e]))
          rw [q]
          exact ⟨rfl, rfl, rfl, rfl, trivial⟩
        · have e := (iteP_f (by rw [q]; decide)).symm.trans e
          refine V_sub ?_ (ih _ b' p' _ hRF (IC_of hI (nxt_o (by decide) M A') (nxt_o (by decide) M A')) m1 (by rw [q2, h51]; omega) e)
          rw [q]
          exact ⟨rfl, rfl, rfl, rfl, trivial⟩
      have copy : b < mVal (A, σ.2) M → ∀ (t k : Nat) (T : sS) (hRF : RF S T m (cop A k) σ.2), k + t = M → V X G 6 (eQ X G (fun v T => v = some (.int R.1) ∧ RF S T m R.2 σ.2) (fun _ _ => False) 0 0) 0 0 149 [(5, false, .int (nI k)), (2, false, .int (plc (σ.2 20) (A 51) k)), (1, false, .int (mVal (A, σ.2) M)), (0, false, .ref m)] [] T := by
        intro hv t
        induction t with
        | zero =>
          intro k T hRF hk
          obtain rfl : k = M := by omega
          refine V_iload C dX9_finds_149 rfl ?_
          refine V_aload_n C dX9_finds_151 rfl (by first | exact isR_r _ | exact isR_q _ | exact isR_n) ?_
          refine V_mNum C 49 hRF fl_X9_259 (by decide) dX9_finds_152 eM ?_
          refine V_igeN C (tgt := 200) (by omega) (by omega) dX9_finds_155 (by decide) (fun h155 => ?_) (fun h155 => ?_)
          · refine V_sub ?_ (J200 (cop A k) _ _ T hRF (IC_of hI (cop_o (by decide) k) (cop_o (by decide) k)) (cop_o (by decide) k) ((iteP_t hv).symm.trans e))
            exact ⟨rfl, rfl, rfl, trivial⟩
          · omega
        | succ t ih2 =>
          intro k T hRF hk
          have hk5 : k < 5 := by omega
          have e1 : cop A k 51 k = A 51 k := congrFun (cop_o (by decide) k) k
          refine V_iload C dX9_finds_149 rfl ?_
          refine V_aload_n C dX9_finds_151 rfl (by first | exact isR_r _ | exact isR_q _ | exact isR_n) ?_
          refine V_mNum C 49 hRF fl_X9_259 (by decide) dX9_finds_152 eM ?_
          refine V_igeN C (tgt := 200) (by omega) (by omega) dX9_finds_155 (by decide) (fun h155 => ?_) (fun h155 => ?_)
          · omega
          · refine V_aload_n C dX9_finds_158 rfl (by first | exact isR_r _ | exact isR_q _ | exact isR_n) ?_
            refine V_mArr C 52 hRF rfl fl_X9_146 (by decide) dX9_finds_159 (fun a159 ha159 => ?_)
            refine V_iload C dX9_finds_162 rfl ?_
            refine V_aload_n C dX9_finds_164 rfl (by first | exact isR_r _ | exact isR_q _ | exact isR_n) ?_
            refine V_mArr C 51 hRF rfl fl_X9_143 (by decide) dX9_finds_165 (fun a165 ha165 => ?_)
            refine V_iload C dX9_finds_168 rfl ?_
            refine V_mLd C 51 hRF rfl rfl ha165 (by first | assumption | (show _ < _; omega)) e1 dX9_finds_170 ?_
            refine V_mSt C 52 hRF rfl rfl ha159 (by first | assumption | (show _ < _; omega)) dX9_finds_171 (fun T hRF => ?_)
            refine V_iload_n C dX9_finds_172 rfl ?_
            refine V_aload_n C dX9_finds_173 rfl (by first | exact isR_r _ | exact isR_q _ | exact isR_n) ?_
            refine V_mArr C 51 hRF rfl fl_X9_143 (by decide) dX9_finds_174 (fun a174 ha174 => ?_)
            refine V_iload C dX9_finds_177 rfl ?_
            refine V_mLd C 51 hRF rfl rfl ha174 (by first | assumption | (show _ < _; omega)) ((up2_n1 (by decide)).trans e1) dX9_finds_179 ?_
            refine V_aload_n C dX9_finds_180 rfl (by first | exact isR_r _ | exact isR_q _ | exact isR_n) ?_
            refine V_mNum C 20 hRF fl_X9_169 (by decide) dX9_finds_181 rfl ?_
            refine V_icmp_ge C (tgt := 191) dX9_finds_184 (by decide) (fun h184 => ?_) (fun h184 => ?_)
            · refine V_iconst C (v := 0) dX9_finds_191 (by decide) ?_
              refine V_iadd C dX9_finds_192 ?_
              refine V_istore_n C dX9_finds_193 (by decide) rfl ?_
              simp only [lset1, lset2, List.filter_cons, List.filter_nil, Nat.reduceBEq, Nat.reduceAdd, Bool.not_true, Bool.not_false, Bool.and_true, Bool.and_false, Bool.true_and, Bool.false_and, if_true, if_false, Bool.false_eq_true, reduceIte]
              refine V_incN C dX9_finds_194 rfl (by decide) rfl ?_
              simp only [lset1, lset2, List.filter_cons, List.filter_nil, Nat.reduceBEq, Nat.reduceAdd, Bool.not_true, Bool.not_false, Bool.and_true, Bool.and_false, Bool.true_and, Bool.false_and, if_true, if_false, Bool.false_eq_true, reduceIte]
              refine V_goto C (tgt := 149) dX9_finds_197 (by decide) ?_
              refine V_sub ?_ (ih2 (k + 1) _ hRF (by omega))
              first | rw [plc_t h184] | rw [plc_f h184] | rw [plc_t (Classical.not_not.mp h184)] | rw [plc_f (Int32.not_lt.mpr h184)] | rw [plc_t (Int32.not_le.mp h184)]
              exact ⟨rfl, rfl, rfl, rfl, trivial⟩
            · refine V_iconst C (v := 1) dX9_finds_187 (by decide) ?_
              refine V_goto C (tgt := 192) dX9_finds_188 (by decide) ?_
              refine V_iadd C dX9_finds_192 ?_
              refine V_istore_n C dX9_finds_193 (by decide) rfl ?_
              simp only [lset1, lset2, List.filter_cons, List.filter_nil, Nat.reduceBEq, Nat.reduceAdd, Bool.not_true, Bool.not_false, Bool.and_true, Bool.and_false, Bool.true_and, Bool.false_and, if_true, if_false, Bool.false_eq_true, reduceIte]
              refine V_incN C dX9_finds_194 rfl (by decide) rfl ?_
              simp only [lset1, lset2, List.filter_cons, List.filter_nil, Nat.reduceBEq, Nat.reduceAdd, Bool.not_true, Bool.not_false, Bool.and_true, Bool.and_false, Bool.true_and, Bool.false_and, if_true, if_false, Bool.false_eq_true, reduceIte]
              refine V_goto C (tgt := 149) dX9_finds_197 (by decide) ?_
              refine V_sub ?_ (ih2 (k + 1) _ hRF (by omega))
              first | rw [plc_t h184] | rw [plc_f h184] | rw [plc_t (Classical.not_not.mp h184)] | rw [plc_f (Int32.not_lt.mpr h184)] | rw [plc_t (Int32.not_le.mp h184)]
              exact ⟨rfl, rfl, rfl, rfl, trivial⟩
      refine V_iload_n C dX9_finds_125 rfl ?_
      refine V_if_eq C (tgt := 208) dX9_finds_126 (by decide) (fun h126 => ?_) (fun h126 => ?_)
      · exact absurd h126 (by decide)
      · refine V_aload_n C dX9_finds_129 rfl (by first | exact isR_r _ | exact isR_q _ | exact isR_n) ?_
        refine V_fV C (c_X9_valueOf _ hl G T m (A, σ.2) hRF.1 hI M hM eM (fun k hk => by obtain ⟨w, h1, h2⟩ := hd k hk; exact ⟨w, hn ▸ h1, h2⟩)) kv_X9_263 cf_9 (by decide) rfl hRF.1.1 (by decide) (by decide) rfl rfl (Nat.le_of_ble_eq_true rfl) dX9_finds_130 ?_
        dsimp only [Option.toList_some, Option.toList_none, List.cons_append, List.nil_append]
        refine V_istore C dX9_finds_133 (by decide) rfl ?_
        simp only [lset1, lset2, List.filter_cons, List.filter_nil, Nat.reduceBEq, Nat.reduceAdd, Bool.not_true, Bool.not_false, Bool.and_true, Bool.and_false, Bool.true_and, Bool.false_and, if_true, if_false, Bool.false_eq_true, reduceIte]
        refine V_iload C dX9_finds_135 rfl ?_
        refine V_iload_n C dX9_finds_137 rfl ?_
        refine V_icmp_le C (tgt := 200) dX9_finds_138 (by decide) (fun h138 => ?_) (fun h138 => ?_)
        · refine V_sub ?_ (J200 A b p T hRF hI rfl ((iteP_f (Int32.not_lt.mpr h138)).symm.trans e))
          exact ⟨rfl, rfl, rfl, trivial⟩
        · refine V_iload C dX9_finds_141 rfl ?_
          refine V_istore_n C dX9_finds_143 (by decide) rfl ?_
          simp only [lset1, lset2, List.filter_cons, List.filter_nil, Nat.reduceBEq, Nat.reduceAdd, Bool.not_true, Bool.not_false, Bool.and_true, Bool.and_false, Bool.true_and, Bool.false_and, if_true, if_false, Bool.false_eq_true, reduceIte]
          refine V_iconst C (v := 0) dX9_finds_144 (by decide) ?_
          refine V_istore_n C dX9_finds_145 (by decide) rfl ?_
          simp only [lset1, lset2, List.filter_cons, List.filter_nil, Nat.reduceBEq, Nat.reduceAdd, Bool.not_true, Bool.not_false, Bool.and_true, Bool.and_false, Bool.true_and, Bool.false_and, if_true, if_false, Bool.false_eq_true, reduceIte]
          refine V_iconst C (v := 0) dX9_finds_146 (by decide) ?_
          refine V_istore C dX9_finds_147 (by decide) rfl ?_
          simp only [lset1, lset2, List.filter_cons, List.filter_nil, Nat.reduceBEq, Nat.reduceAdd, Bool.not_true, Bool.not_false, Bool.and_true, Bool.and_false, Bool.true_and, Bool.false_and, if_true, if_false, Bool.false_eq_true, reduceIte]
          refine V_sub ?_ (copy (Int32.not_le.mp h138) M 0 T hRF (by omega))
          exact ⟨rfl, rfl, rfl, rfl, trivial⟩
  have loop : ∀ (t k : Nat) (T : sS) (hRF : RF S T m (fil2 σ k) σ.2), k + t = M → V X G 6 (eQ X G (fun v T => v = some (.int R.1) ∧ RF S T m R.2 σ.2) (fun _ _ => False) 0 0) 0 0 6 [(3, false, .int (nI k)), (2, false, .int 0), (1, false, .int (-1)), (0, false, .ref m)] [] T := by
    intro t
    induction t with
    | zero =>
      intro k T hRF hk
      obtain rfl : k = M := by omega
      have hd : dig n (fil2 σ k 51) k := fun i hi => ⟨0, Nat.zero_le n, fil2_51 k i hi⟩
      have h0 : ∀ c, c ≤ k → rk n (fil2 σ k 51) c = 0 := by
        intro c
        induction c with
        | zero => exact fun _ => rfl
        | succ c ihc =>
          intro hc
          show rk n (fil2 σ k 51) c * (n + 1) + nx (fil2 σ k 51 c) = 0
          rw [ihc (by omega), fil2_51 k c (by omega), Nat.zero_mul]
          rfl
      refine V_iload_n C dX9_finds_6 rfl ?_
      refine V_aload_n C dX9_finds_7 rfl (by first | exact isR_r _ | exact isR_q _ | exact isR_n) ?_
      refine V_mNum C 49 hRF fl_X9_259 (by decide) dX9_finds_8 eM ?_
      refine V_igeN C (tgt := 123) (by omega) (by omega) dX9_finds_11 (by decide) (fun h11 => ?_) (fun h11 => ?_)
      · refine V_iconst C (v := 1) dX9_finds_123 (by decide) ?_
        refine V_istore_n C dX9_finds_124 (by decide) rfl ?_
        simp only [lset1, lset2, List.filter_cons, List.filter_nil, Nat.reduceBEq, Nat.reduceAdd, Bool.not_true, Bool.not_false, Bool.and_true, Bool.and_false, Bool.true_and, Bool.false_and, if_true, if_false, Bool.false_eq_true, reduceIte]
        refine V_sub ?_ (main ((n + 1) ^ k) (fil2 σ k) (-1) 0 T hRF (IC_of hI (fil2_o (by decide) (by decide) (by decide) (by decide) k) (fil2_o (by decide) (by decide) (by decide) (by decide) k)) hd (by rw [h0 k (Nat.le_refl k), Nat.zero_add]) (by rw [hR9, hn]; rfl))
        exact ⟨rfl, rfl, rfl, rfl, trivial⟩
      · omega
    | succ t ih =>
      intro k T hRF hk
      have hk5 : k < 5 := by omega
      obtain ⟨c, hc, ec⟩ := hW k (by omega)
      have hc16 : c < 16 := by omega
      have exc : nx (σ.1 50 k) = c := by rw [ec]; exact nI_clamp (by omega)
      obtain ⟨P0, hP0⟩ : ∃ P0, P0 = up2 (fil2 σ k) 51 k 0 := ⟨_, rfl⟩
      have p50 : P0 50 k = nI c := by rw [hP0, up2_n1 (by decide), fil2_o (by decide) (by decide) (by decide) (by decide)]; exact ec
      have pI : IC (P0, σ.2) := by
        rw [hP0]
        exact IC_A (IC_of hI (fil2_o (by decide) (by decide) (by decide) (by decide) k) (fil2_o (by decide) (by decide) (by decide) (by decide) k)) (by decide) (by decide)
      have inner : ∀ (s w : Nat) (T : sS) (hRF : RF S T m (fil1 σ.2 k c P0 w) σ.2), w + s = n → V X G 6 (eQ X G (fun v T => v = some (.int R.1) ∧ RF S T m R.2 σ.2) (fun _ _ => False) 0 0) 0 0 24 [(4, false, .int (nI w)), (3, false, .int (nI k)), (2, false, .int 0), (1, false, .int (-1)), (0, false, .ref m)] [] T := by
        intro s
        induction s with
        | zero =>
          intro w T hRF hw
          obtain rfl : w = n := by omega
          refine V_iload C dX9_finds_24 rfl ?_
          refine V_aload_n C dX9_finds_26 rfl (by first | exact isR_r _ | exact isR_q _ | exact isR_n) ?_
          refine V_mNum C 20 hRF fl_X9_169 (by decide) dX9_finds_27 en ?_
          refine V_igeN C (tgt := 117) (by omega) (by omega) dX9_finds_30 (by decide) (fun h30 => ?_) (fun h30 => ?_)
          · refine V_incN C dX9_finds_117 rfl (by decide) rfl ?_
            simp only [lset1, lset2, List.filter_cons, List.filter_nil, Nat.reduceBEq, Nat.reduceAdd, Bool.not_true, Bool.not_false, Bool.and_true, Bool.and_false, Bool.true_and, Bool.false_and, if_true, if_false, Bool.false_eq_true, reduceIte]
            refine V_goto C (tgt := 6) dX9_finds_120 (by decide) ?_
            refine V_sub ?_ (ih (k + 1) T ?_ (by omega))
            exact ⟨rfl, rfl, rfl, rfl, trivial⟩
            rw [fil2, exc, ← hn, ← hP0]
            exact hRF
          · omega
        | succ s ih2 =>
          intro w T hRF hw
          have hw10 : w < 10 := by omega
          obtain ⟨P, hP⟩ : ∃ P, P = fil1 σ.2 k c P0 w := ⟨_, rfl⟩
          have q50 : P 50 k = nI c := by rw [hP, fil1_o (by decide) (by decide) (by decide)]; exact p50
          have qI : IC (P, σ.2) := by
            rw [hP]
            exact IC_of pI (fil1_o (by decide) (by decide) (by decide) w) (fil1_o (by decide) (by decide) (by decide) w)
          have qA : IC (filA σ.2 k c w P, σ.2) := IC_of qI (filA_o (by decide)) (filA_o (by decide))
          have qB : IC (filB σ.2 k c w P, σ.2) := IC_of qI (filB_o (by decide) (by decide)) (filB_o (by decide) (by decide))
          have J65 : ∀ (T : sS) (hRF : RF S T m (filA σ.2 k c w P) σ.2), V X G 6 (eQ X G (fun v T => v = some (.int R.1) ∧ RF S T m R.2 σ.2) (fun _ _ => False) 0 0) 0 0 65 [(4, false, .int (nI w)), (3, false, .int (nI k)), (2, false, .int 0), (1, false, .int (-1)), (0, false, .ref m)] [] T := by
            intro T hRF
            have r50 : filA σ.2 k c w P 50 k = nI c := (congrFun (filA_o (by decide)) k).trans q50
            refine V_aload_n C dX9_finds_65 rfl (by first | exact isR_r _ | exact isR_q _ | exact isR_n) ?_
            refine V_mArr C 54 hRF rfl fl_X9_152 (by decide) dX9_finds_66 (fun a66 ha66 => ?_)
            refine V_bipush C (v := 10) dX9_finds_69 (by decide) ?_
            refine V_iload_n C dX9_finds_71 rfl ?_
            refine V_imul C dX9_finds_72 ?_
            rw [show (10 : Int32) * nI k = nI (10 * k) from pk_mul 10 k]
            refine V_iload C dX9_finds_73 rfl ?_
            refine V_iadd C dX9_finds_75 ?_
            rw [nI_add]
            refine V_aload_n C dX9_finds_76 rfl (by first | exact isR_r _ | exact isR_q _ | exact isR_n) ?_
            refine V_aload_n C dX9_finds_77 rfl (by first | exact isR_r _ | exact isR_q _ | exact isR_n) ?_
            refine V_mArr C 50 hRF rfl fl_X9_140 (by decide) dX9_finds_78 (fun a78 ha78 => ?_)
            refine V_iload_n C dX9_finds_81 rfl ?_
            refine V_mLd C 50 hRF rfl rfl ha78 (by first | assumption | (show _ < _; omega)) r50 dX9_finds_82 ?_
            refine V_iload C dX9_finds_83 rfl ?_
            refine V_fV C (c_X9_worthOf _ hl G T m (filA σ.2 k c w P, σ.2) hRF.1 qA c hc16 w hw10) kv_X9_246 cf_9 (by decide) rfl hRF.1.1 (by decide) (by decide) rfl rfl (Nat.le_of_ble_eq_true rfl) dX9_finds_85 ?_
            dsimp only [Option.toList_some, Option.toList_none, List.cons_append, List.nil_append]
            refine V_mSt C 54 hRF rfl rfl ha66 (show 10 * k + w < 50 by omega) dX9_finds_88 (fun T hRF => ?_)
            have hRF : RF S T m (filB σ.2 k c w P) σ.2 := hRF
            refine V_aload_n C dX9_finds_89 rfl (by first | exact isR_r _ | exact isR_q _ | exact isR_n) ?_
            refine V_mArr C 55 hRF rfl fl_X9_155 (by decide) dX9_finds_90 (fun a90 ha90 => ?_)
            refine V_iload C dX9_finds_93 rfl ?_
            refine V_aload_n C dX9_finds_95 rfl (by first | exact isR_r _ | exact isR_q _ | exact isR_n) ?_
            refine V_mArr C 23 hRF rfl fl_X9_71 (by decide) dX9_finds_96 (fun a96 ha96 => ?_)
            refine V_iload C dX9_finds_99 rfl ?_
            refine V_mLd C 23 hRF rfl rfl ha96 (by first | assumption | (show _ < _; omega)) rfl dX9_finds_101 ?_
            refine V_aload_n C dX9_finds_102 rfl (by first | exact isR_r _ | exact isR_q _ | exact isR_n) ?_
            refine V_iconst C (v := (-1)) dX9_finds_103 (by decide) ?_
            refine V_iload C dX9_finds_104 rfl ?_
            refine V_fV C (c_X9_others _ hl G _ m (filB σ.2 k c w P, σ.2) hRF.1 qB (-1) (nI w)) kv_X9_240 cf_9 (by decide) rfl hRF.1.1 (by decide) (by decide) rfl rfl (Nat.le_of_ble_eq_true rfl) dX9_finds_106 ?_
            dsimp only [Option.toList_some, Option.toList_none, List.cons_append, List.nil_append]
            refine V_isub C dX9_finds_109 ?_
            refine V_mSt C 55 hRF rfl rfl ha90 (by first | assumption | (show _ < _; omega)) dX9_finds_110 (fun T hRF => ?_)
            refine V_incN C dX9_finds_111 rfl (by decide) rfl ?_
            simp only [lset1, lset2, List.filter_cons, List.filter_nil, Nat.reduceBEq, Nat.reduceAdd, Bool.not_true, Bool.not_false, Bool.and_true, Bool.and_false, Bool.true_and, Bool.false_and, if_true, if_false, Bool.false_eq_true, reduceIte]
            refine V_goto C (tgt := 24) dX9_finds_114 (by decide) ?_
            refine V_sub ?_ (ih2 (w + 1) _ ?_ (by omega))
            exact ⟨rfl, rfl, rfl, rfl, rfl, trivial⟩
            rw [fil1, ← hP]
            exact hRF
          rw [← hP] at hRF
          refine V_iload C dX9_finds_24 rfl ?_
          refine V_aload_n C dX9_finds_26 rfl (by first | exact isR_r _ | exact isR_q _ | exact isR_n) ?_
          refine V_mNum C 20 hRF fl_X9_169 (by decide) dX9_finds_27 en ?_
          refine V_igeN C (tgt := 117) (by omega) (by omega) dX9_finds_30 (by decide) (fun h30 => ?_) (fun h30 => ?_)
          · omega
          · refine V_aload_n C dX9_finds_33 rfl (by first | exact isR_r _ | exact isR_q _ | exact isR_n) ?_
            refine V_mArr C 53 hRF rfl fl_X9_149 (by decide) dX9_finds_34 (fun a34 ha34 => ?_)
            refine V_bipush C (v := 10) dX9_finds_37 (by decide) ?_
            refine V_iload_n C dX9_finds_39 rfl ?_
            refine V_imul C dX9_finds_40 ?_
            rw [show (10 : Int32) * nI k = nI (10 * k) from pk_mul 10 k]
            refine V_iload C dX9_finds_41 rfl ?_
            refine V_iadd C dX9_finds_43 ?_
            rw [nI_add]
            refine V_aload_n C dX9_finds_44 rfl (by first | exact isR_r _ | exact isR_q _ | exact isR_n) ?_
            refine V_aload_n C dX9_finds_45 rfl (by first | exact isR_r _ | exact isR_q _ | exact isR_n) ?_
            refine V_mArr C 50 hRF rfl fl_X9_140 (by decide) dX9_finds_46 (fun a46 ha46 => ?_)
            refine V_iload_n C dX9_finds_49 rfl ?_
            refine V_mLd C 50 hRF rfl rfl ha46 (by first | assumption | (show _ < _; omega)) q50 dX9_finds_50 ?_
            refine V_iload C dX9_finds_51 rfl ?_
            refine V_fV C (c_X9_whyNot _ hl G T m (P, σ.2) hRF.1 qI c hc16 w hw10) kv_X9_243 cf_9 (by decide) rfl hRF.1.1 (by decide) (by decide) rfl rfl (Nat.le_of_ble_eq_true rfl) dX9_finds_53 ?_
            dsimp only [Option.toList_some, Option.toList_none, List.cons_append, List.nil_append]
            refine V_if_ne C (tgt := 63) dX9_finds_56 (by decide) (fun h56 => ?_) (fun h56 => ?_)
            · refine V_iconst C (v := 0) dX9_finds_63 (by decide) ?_
              refine V_mStZ C 53 hRF rfl rfl ha34 (show 10 * k + w < 50 by omega) (by first | exact Or.inl rfl | exact Or.inr rfl | assumption) dX9_finds_64 (fun T hRF => ?_)
              refine V_sub ?_ (J65 _ (RF_eq hRF ?_ rfl))
              exact ⟨rfl, rfl, rfl, rfl, rfl, trivial⟩
              first | exact congrArg (up2 P 53 (10 * k + w)) (pI9_t h56).symm | exact congrArg (up2 P 53 (10 * k + w)) (pI9_f h56).symm
            · refine V_iconst C (v := 1) dX9_finds_59 (by decide) ?_
              refine V_goto C (tgt := 64) dX9_finds_60 (by decide) ?_
              refine V_mStZ C 53 hRF rfl rfl ha34 (show 10 * k + w < 50 by omega) (by first | exact Or.inl rfl | exact Or.inr rfl | assumption) dX9_finds_64 (fun T hRF => ?_)
              refine V_sub ?_ (J65 _ (RF_eq hRF ?_ rfl))
              exact ⟨rfl, rfl, rfl, rfl, rfl, trivial⟩
              first | exact congrArg (up2 P 53 (10 * k + w)) (pI9_t h56).symm | exact congrArg (up2 P 53 (10 * k + w)) (pI9_f h56).symm
      refine V_iload_n C dX9_finds_6 rfl ?_
      refine V_aload_n C dX9_finds_7 rfl (by first | exact isR_r _ | exact isR_q _ | exact isR_n) ?_
      refine V_mNum C 49 hRF fl_X9_259 (by decide) dX9_finds_8 eM ?_
      refine V_igeN C (tgt := 123) (by omega) (by omega) dX9_finds_11 (by decide) (fun h11 => ?_) (fun h11 => ?_)
      · omega
      · refine V_aload_n C dX9_finds_14 rfl (by first | exact isR_r _ | exact isR_q _ | exact isR_n) ?_
        refine V_mArr C 51 hRF rfl fl_X9_143 (by decide) dX9_finds_15 (fun a15 ha15 => ?_)
        refine V_iload_n C dX9_finds_18 rfl ?_
        refine V_iconst C (v := 0) dX9_finds_19 (by decide) ?_
        refine V_mSt C 51 hRF rfl rfl ha15 (by first | assumption | (show _ < _; omega)) dX9_finds_20 (fun T hRF => ?_)
        refine V_iconst C (v := 0) dX9_finds_21 (by decide) ?_
        refine V_istore C dX9_finds_22 (by decide) rfl ?_
        simp only [lset1, lset2, List.filter_cons, List.filter_nil, Nat.reduceBEq, Nat.reduceAdd, Bool.not_true, Bool.not_false, Bool.and_true, Bool.and_false, Bool.true_and, Bool.false_and, if_true, if_false, Bool.false_eq_true, reduceIte]
        refine V_sub ?_ (inner n 0 _ (by rw [fil1, hP0]; exact hRF) (by omega))
        exact ⟨rfl, rfl, rfl, rfl, rfl, trivial⟩
  refine V_iconst C (v := (-1)) dX9_finds_0 (by decide) ?_
  refine V_istore_n C dX9_finds_1 (by decide) rfl ?_
  simp only [lset1, lset2, List.filter_cons, List.filter_nil, Nat.reduceBEq, Nat.reduceAdd, Bool.not_true, Bool.not_false, Bool.and_true, Bool.and_false, Bool.true_and, Bool.false_and, if_true, if_false, Bool.false_eq_true, reduceIte]
  refine V_iconst C (v := 0) dX9_finds_2 (by decide) ?_
  refine V_istore_n C dX9_finds_3 (by decide) rfl ?_
  simp only [lset1, lset2, List.filter_cons, List.filter_nil, Nat.reduceBEq, Nat.reduceAdd, Bool.not_true, Bool.not_false, Bool.and_true, Bool.and_false, Bool.true_and, Bool.false_and, if_true, if_false, Bool.false_eq_true, reduceIte]
  refine V_iconst C (v := 0) dX9_finds_4 (by decide) ?_
  refine V_istore_n C dX9_finds_5 (by decide) rfl ?_
  simp only [lset1, lset2, List.filter_cons, List.filter_nil, Nat.reduceBEq, Nat.reduceAdd, Bool.not_true, Bool.not_false, Bool.and_true, Bool.and_false, Bool.true_and, Bool.false_and, if_true, if_false, Bool.false_eq_true, reduceIte]
  refine V_sub ?_ (loop M 0 _ hRF (by omega))
  exact ⟨rfl, rfl, rfl, rfl, trivial⟩
