/-! THE LAW: places. -/
theorem c_places (l : Launch) (hl : l.stackTraces = false) (G : gG) (S : sS) (q : Nat) (a : Nat → Nat) (γ : Nat → Nat → Int32) (σ : aS) (hP : PW S q a γ σ) (hL : LJ σ γ) (h1 : 0 < cN σ 1) (h2 : 0 < cN σ 20) (x y : Int32) : Ct l G yL_places cL_places 10 (Option.some FieldType.boolean) 10 60 700 [.ref q, .ref (a 0), .ref (a 3), .int x, .int y] S (fun v T => v = some (.int 1) ∧ ∃ γ9 σ9, PW T q a γ9 σ9 ∧ WP σ γ σ9 γ9) (fun _ _ => False) := by
  refine Ct_of (by decide) (cat1_all (by repeat first | exact trivial | refine ⟨by first | rfl | exact isR_c (isR_r _), ?_⟩)) (Nat.le_of_ble_eq_true rfl) hl fun X C hXl hin => ?_
  subst hXl
  dsimp only [lArgs, Nat.reduceAdd]
  have hW := PW_W hP
  have n0 : cN σ 0 ≤ 12000 := hW.1.1.2
  have s0 : σ.2 0 = nI (cN σ 0) := hW.1.1.1
  have n1 : cN σ 1 ≤ 16 := hW.1.2.1.2
  have n43 : cN σ 43 ≤ 100 := hW.1.2.2.2.2.2.1.2
  obtain ⟨⟨e00, e01, e02, e03, e04⟩, ⟨n20, n38⟩, eK, eM, eO⟩ := id hL.1
  rw [s0] at e04
  refine V_iload_n C dL_places_0 rfl ?_
  refine V_iconst C (v := 4) dL_places_1 (by decide) ?_
  refine V_fS C (c_low _ hl G _ _ 4 (by decide) (by decide)) ks_L_145 ⟨by decide, by decide⟩ ⟨by decide, by decide⟩ rfl rfl (Nat.le_of_ble_eq_true rfl) dL_places_2 ?_
  dsimp only [Option.toList_some, Option.toList_none, List.cons_append, List.nil_append]
  refine V_if_ne C (tgt := 143) dL_places_5 (by decide) (fun h5 => ?_) (fun h5 => ?_)
  ·
    have hi0 : lo y (cN σ 1) < cN σ 1 := lo_lt y h1
    have hh0 : lo (y >>> ((5 : Int32) &&& 31)) (cN σ 20) < cN σ 20 := lo_lt (y >>> ((5 : Int32) &&& 31)) h2
    refine V_iload C dL_places_143 rfl ?_
    refine V_aload_n C dL_places_145 rfl (by first | exact isR_r _ | exact isR_q _ | exact isR_n) ?_
    refine V_iconst C (v := 0) dL_places_146 (by decide) ?_
    refine V_gl C hP 0 0 (by decide) (by decide) rfl e00 dL_places_147 ?_
    refine V_fS C (c_low _ hl G _ _ (cN σ 1) h1 (by omega)) ks_L_145 ⟨by decide, by decide⟩ ⟨by decide, by decide⟩ rfl rfl (Nat.le_of_ble_eq_true rfl) dL_places_148 ?_
    dsimp only [Option.toList_some, Option.toList_none, List.cons_append, List.nil_append]
    refine V_istore C dL_places_151 (by decide) rfl ?_
    simp only [lset1, lset2, List.filter_cons, List.filter_nil, Nat.reduceBEq, Nat.reduceAdd, Bool.not_true, Bool.not_false, Bool.and_true, Bool.and_false, Bool.true_and, Bool.false_and, if_true, if_false, Bool.false_eq_true, reduceIte]
    refine V_iload C dL_places_153 rfl ?_
    refine V_iconst C (v := 5) dL_places_155 (by decide) ?_
    refine V_ishr C dL_places_156 ?_
    refine V_aload_n C dL_places_157 rfl (by first | exact isR_r _ | exact isR_q _ | exact isR_n) ?_
    refine V_iconst C (v := 1) dL_places_158 (by decide) ?_
    refine V_gl C hP 0 1 (by decide) (by decide) rfl e01 dL_places_159 ?_
    refine V_fS C (c_low _ hl G _ _ (cN σ 20) h2 (by omega)) ks_L_145 ⟨by decide, by decide⟩ ⟨by decide, by decide⟩ rfl rfl (Nat.le_of_ble_eq_true rfl) dL_places_160 ?_
    dsimp only [Option.toList_some, Option.toList_none, List.cons_append, List.nil_append]
    refine V_istore C dL_places_163 (by decide) rfl ?_
    simp only [lset1, lset2, List.filter_cons, List.filter_nil, Nat.reduceBEq, Nat.reduceAdd, Bool.not_true, Bool.not_false, Bool.and_true, Bool.and_false, Bool.true_and, Bool.false_and, if_true, if_false, Bool.false_eq_true, reduceIte]
    refine V_aload_n C dL_places_165 rfl (by first | exact isR_r _ | exact isR_q _ | exact isR_n) ?_
    refine V_iload C dL_places_166 rfl ?_
    refine V_iload C dL_places_168 rfl ?_
    refine V_fH C (r_why _ hl G S q a γ σ hP  (lo y (cN σ 1)) hi0 (lo (y >>> ((5 : Int32) &&& 31)) (cN σ 20)) hh0) kh_L_131 ⟨by decide, by decide⟩ ⟨by decide, by decide⟩ rfl rfl (Nat.le_of_ble_eq_true rfl) dL_places_170 ?_
    dsimp only [Option.toList_some, Option.toList_none, List.cons_append, List.nil_append]
    refine V_istore C dL_places_173 (by decide) rfl ?_
    simp only [lset1, lset2, List.filter_cons, List.filter_nil, Nat.reduceBEq, Nat.reduceAdd, Bool.not_true, Bool.not_false, Bool.and_true, Bool.and_false, Bool.true_and, Bool.false_and, if_true, if_false, Bool.false_eq_true, reduceIte]
    refine V_aload_n C dL_places_175 rfl (by first | exact isR_r _ | exact isR_q _ | exact isR_n) ?_
    refine V_iload C dL_places_176 rfl ?_
    refine V_iconst C (v := 0) dL_places_178 (by decide) ?_
    refine V_fH C (r_is0 _ hl G S q a γ σ hP  (lo y (cN σ 1)) hi0) kh_L_119 ⟨by decide, by decide⟩ ⟨by decide, by decide⟩ rfl rfl (Nat.le_of_ble_eq_true rfl) dL_places_179 ?_
    dsimp only [Option.toList_some, Option.toList_none, List.cons_append, List.nil_append]
    refine V_istore C dL_places_182 (by decide) rfl ?_
    simp only [lset1, lset2, List.filter_cons, List.filter_nil, Nat.reduceBEq, Nat.reduceAdd, Bool.not_true, Bool.not_false, Bool.and_true, Bool.and_false, Bool.true_and, Bool.false_and, if_true, if_false, Bool.false_eq_true, reduceIte]
    by_cases hgood : mWhyNot σ (lo y (cN σ 1)) (lo (y >>> ((5 : Int32) &&& 31)) (cN σ 20)) = 0 ∧ ¬ mHomeOf σ (lo y (cN σ 1)) = nI (lo (y >>> ((5 : Int32) &&& 31)) (cN σ 20)) ∧ cN σ 43 < 100
    ·
      obtain ⟨hg0, hg1, hg2⟩ := hgood
      obtain ⟨tp, tp1, LP, ⟨N1, N20, N43⟩, kH, kA, kW, kO⟩ := LJ_place hW hL hi0 hh0 hg0 hg1 hg2
      have KP := KW_place (x := nI (lo y (cN σ 1))) (y := nI (lo (y >>> ((5 : Int32) &&& 31)) (cN σ 20))) hW
      rw [s0] at kO
      refine V_aload_n C dL_places_184 rfl (by first | exact isR_r _ | exact isR_q _ | exact isR_n) ?_
      refine V_iload C dL_places_185 rfl ?_
      refine V_iload C dL_places_187 rfl ?_
      refine V_callH C (w_place _ hl G _ q a _ _ hP  (nI (lo y (cN σ 1))) (nI (lo (y >>> ((5 : Int32) &&& 31)) (cN σ 20)))) kh_L_165 ⟨by decide, by decide⟩ ⟨by decide, by decide⟩ rfl rfl (Nat.le_of_ble_eq_true rfl) dL_places_189 (fun v9 T9 h9 => ?_)
      obtain ⟨rfl, hP9⟩ := h9
      replace hP := hP9
      clear hP9
      dsimp only [Option.toList_some, Option.toList_none, List.cons_append, List.nil_append]
      rw [hR_0 tp, tp1]
      generalize (oPlace σ (nI (lo y (cN σ 1))) (nI (lo (y >>> ((5 : Int32) &&& 31)) (cN σ 20)))).2 = σ1 at hP LP KP N1 N20 N43 kH kA kW kO
      refine V_istore C dL_places_192 (by decide) rfl ?_
      simp only [lset1, lset2, List.filter_cons, List.filter_nil, Nat.reduceBEq, Nat.reduceAdd, Bool.not_true, Bool.not_false, Bool.and_true, Bool.and_false, Bool.true_and, Bool.false_and, if_true, if_false, Bool.false_eq_true, reduceIte]
      refine V_iload C dL_places_194 rfl ?_
      refine V_if_gt C (tgt := 214) dL_places_196 (by decide) (fun h196 => absurd h196 (by rw [hg0]; decide)) (fun h196 => ?_)
      refine V_iload C dL_places_199 rfl ?_
      refine V_iload C dL_places_201 rfl ?_
      refine V_icmp_eq C (tgt := 214) dL_places_203 (by decide) (fun h203 => absurd h203 (hg1)) (fun h203 => ?_)
      refine V_aload_n C dL_places_206 rfl (by first | exact isR_r _ | exact isR_q _ | exact isR_n) ?_
      refine V_iconst C (v := 3) dL_places_207 (by decide) ?_
      refine V_gl C hP 0 3 (by decide) (by decide) rfl e03 dL_places_208 ?_
      refine V_bipush C (v := nI 100) dL_places_209 (by decide) ?_
      refine V_icmp_ne C (tgt := 227) dL_places_211 (by decide) (fun h211 => ?_) (fun h211 => absurd h211 (fun z => absurd ((nI_eq (by omega) (by decide)).mp z) (by omega)))
      refine V_aload_n C dL_places_227 rfl (by first | exact isR_r _ | exact isR_q _ | exact isR_n) ?_
      refine V_iconst C (v := 3) dL_places_228 (by decide) ?_
      refine V_dup2 C dL_places_229 rfl rfl ?_
      refine V_gl C hP 0 3 (by decide) (by decide) rfl e03 dL_places_230 ?_
      refine V_iconst C (v := 1) dL_places_231 (by decide) ?_
      refine V_iadd C dL_places_232 ?_
      rw [nI_1]
      refine V_gs C hP 0 3 (by decide) (by decide) rfl dL_places_233 (fun T9 hP9 => ?_)
      replace hP := hP9
      refine V_iload C dL_places_234 rfl ?_
      refine V_aload_n C dL_places_236 rfl (by first | exact isR_r _ | exact isR_q _ | exact isR_n) ?_
      refine V_iconst C (v := 3) dL_places_237 (by decide) ?_
      refine V_gl C hP 0 3 (by decide) (by decide) rfl up2_s dL_places_238 ?_
      refine V_iconst C (v := 1) dL_places_239 (by decide) ?_
      refine V_isub C dL_places_240 ?_
      rw [nI_prv]
      refine V_icmp_ne C (tgt := 300) dL_places_241 (by decide) (fun h241 => absurd h241 (fun z => z rfl)) (fun h241 => ?_)
      refine V_aload_n C dL_places_244 rfl (by first | exact isR_r _ | exact isR_q _ | exact isR_n) ?_
      refine V_iload C dL_places_245 rfl ?_
      refine V_iconst C (v := 0) dL_places_247 (by decide) ?_
      refine V_fH C (r_is0 _ hl G _ q a _ _ hP  (lo y (cN σ 1)) (by rw [N1]; exact hi0)) kh_L_119 ⟨by decide, by decide⟩ ⟨by decide, by decide⟩ rfl rfl (Nat.le_of_ble_eq_true rfl) dL_places_248 ?_
      dsimp only [Option.toList_some, Option.toList_none, List.cons_append, List.nil_append]
      rw [kH]
      refine V_iload C dL_places_251 rfl ?_
      refine V_icmp_ne C (tgt := 300) dL_places_253 (by decide) (fun h253 => absurd h253 (fun z => z rfl)) (fun h253 => ?_)
      refine V_aload_n C dL_places_256 rfl (by first | exact isR_r _ | exact isR_q _ | exact isR_n) ?_
      refine V_iload C dL_places_257 rfl ?_
      refine V_fH C (r_wasAllowed _ hl G _ q a _ _ hP  (cN σ 43) (by omega)) kh_L_139 ⟨by decide, by decide⟩ ⟨by decide, by decide⟩ rfl rfl (Nat.le_of_ble_eq_true rfl) dL_places_259 ?_
      dsimp only [Option.toList_some, Option.toList_none, List.cons_append, List.nil_append]
      rw [kA]
      refine V_iconst C (v := 1) dL_places_262 (by decide) ?_
      refine V_icmp_ne C (tgt := 300) dL_places_263 (by decide) (fun h263 => absurd h263 (fun z => z rfl)) (fun h263 => ?_)
      refine V_aload_n C dL_places_266 rfl (by first | exact isR_r _ | exact isR_q _ | exact isR_n) ?_
      refine V_iload C dL_places_267 rfl ?_
      refine V_iload C dL_places_269 rfl ?_
      refine V_fH C (r_why _ hl G _ q a _ _ hP  (lo y (cN σ 1)) (by rw [N1]; exact hi0) (lo (y >>> ((5 : Int32) &&& 31)) (cN σ 20)) (by rw [N20]; exact hh0)) kh_L_131 ⟨by decide, by decide⟩ ⟨by decide, by decide⟩ rfl rfl (Nat.le_of_ble_eq_true rfl) dL_places_271 ?_
      dsimp only [Option.toList_some, Option.toList_none, List.cons_append, List.nil_append]
      rw [kW]
      refine V_if_ne C (tgt := 300) dL_places_274 (by decide) (fun h274 => absurd h274 (fun z => z rfl)) (fun h274 => ?_)
      refine V_aload_n C dL_places_277 rfl (by first | exact isR_r _ | exact isR_q _ | exact isR_n) ?_
      refine V_iload C dL_places_278 rfl ?_
      refine V_iconst C (v := 4) dL_places_280 (by decide) ?_
      refine V_fH C (r_st4 _ hl G _ q a _ _ hP  (cN σ 43) (by omega)) kh_L_137 ⟨by decide, by decide⟩ ⟨by decide, by decide⟩ rfl rfl (Nat.le_of_ble_eq_true rfl) dL_places_281 ?_
      dsimp only [Option.toList_some, Option.toList_none, List.cons_append, List.nil_append]
      rw [kO]
      refine V_aload_n C dL_places_284 rfl (by first | exact isR_r _ | exact isR_q _ | exact isR_n) ?_
      refine V_iload C dL_places_285 rfl ?_
      refine V_aload_n C dL_places_287 rfl (by first | exact isR_r _ | exact isR_q _ | exact isR_n) ?_
      refine V_iconst C (v := 4) dL_places_288 (by decide) ?_
      refine V_gl C hP 0 4 (by decide) (by decide) rfl ((up2_n2 (by decide)).trans e04) dL_places_289 ?_
      refine V_fH C (r_counts _ hl G _ q a _ _ hP  (lo y (cN σ 1)) (by rw [N1]; exact hi0) (nI (cN σ 0)) ⟨nI_pos' (by omega), nI_le (b := 30000) (by omega) (by decide)⟩) kh_L_161 ⟨by decide, by decide⟩ ⟨by decide, by decide⟩ rfl rfl (Nat.le_of_ble_eq_true rfl) dL_places_290 ?_
      dsimp only [Option.toList_some, Option.toList_none, List.cons_append, List.nil_append]
      refine V_icmp_ne C (tgt := 300) dL_places_293 (by decide) (fun h293 => absurd h293 (fun z => z rfl)) (fun h293 => ?_)
      refine V_iconst C (v := 1) dL_places_296 (by decide) ?_
      refine V_goto C (tgt := 301) dL_places_297 (by decide) ?_
      refine V_zret C rfl (by first | omega | decide) (by first | omega | decide) dL_places_301 ?_
      exact ⟨rfl, _, _, hP, WP_of hL LP (up2_n2 (by decide)) (by have := KP.2; omega) (up2_n2 (by decide))⟩
    ·
      obtain ⟨tn, en⟩ := k_placeN hW.1 hi0 hh0 hgood
      refine V_aload_n C dL_places_184 rfl (by first | exact isR_r _ | exact isR_q _ | exact isR_n) ?_
      refine V_iload C dL_places_185 rfl ?_
      refine V_iload C dL_places_187 rfl ?_
      refine V_callH C (w_place _ hl G _ q a _ _ hP  (nI (lo y (cN σ 1))) (nI (lo (y >>> ((5 : Int32) &&& 31)) (cN σ 20)))) kh_L_165 ⟨by decide, by decide⟩ ⟨by decide, by decide⟩ rfl rfl (Nat.le_of_ble_eq_true rfl) dL_places_189 (fun v9 T9 h9 => ?_)
      obtain ⟨rfl, hP9⟩ := h9
      replace hP := hP9
      clear hP9
      dsimp only [Option.toList_some, Option.toList_none, List.cons_append, List.nil_append]
      rw [hR_2 tn]
      rw [en] at hP
      refine V_istore C dL_places_192 (by decide) rfl ?_
      simp only [lset1, lset2, List.filter_cons, List.filter_nil, Nat.reduceBEq, Nat.reduceAdd, Bool.not_true, Bool.not_false, Bool.and_true, Bool.and_false, Bool.true_and, Bool.false_and, if_true, if_false, Bool.false_eq_true, reduceIte]
      refine V_or (tgt9 := 214) (st9 := []) ?_ (fun J214 => ?_)
      ·
        refine V_iload C dL_places_214 rfl ?_
        refine V_ldc C dL_places_216 cs_L_21 ?_
        refine V_icmp_ne C (tgt := 225) dL_places_218 (by decide) (fun h218 => absurd h218 (fun z => z rfl)) (fun h218 => ?_)
        refine V_iconst C (v := 1) dL_places_221 (by decide) ?_
        refine V_goto C (tgt := 226) dL_places_222 (by decide) ?_
        refine V_zret C rfl (by first | omega | decide) (by first | omega | decide) dL_places_226 ?_
        exact ⟨rfl, γ, _, hP, WP_of hL (LJ_sT hL) rfl (Nat.le_add_right _ _) rfl⟩
      ·
        refine V_iload C dL_places_194 rfl ?_
        refine V_if_gt C (tgt := 214) dL_places_196 (by decide) (fun h196 => ?_) (fun h196 => ?_)
        ·
          exact J214
        ·
          refine V_iload C dL_places_199 rfl ?_
          refine V_iload C dL_places_201 rfl ?_
          refine V_icmp_eq C (tgt := 214) dL_places_203 (by decide) (fun h203 => ?_) (fun h203 => ?_)
          ·
            exact J214
          ·
            refine V_aload_n C dL_places_206 rfl (by first | exact isR_r _ | exact isR_q _ | exact isR_n) ?_
            refine V_iconst C (v := 3) dL_places_207 (by decide) ?_
            refine V_gl C hP 0 3 (by decide) (by decide) rfl e03 dL_places_208 ?_
            refine V_bipush C (v := nI 100) dL_places_209 (by decide) ?_
            refine V_icmp_ne C (tgt := 227) dL_places_211 (by decide) (fun h211 => absurd h211 (fun z => hgood ⟨by
                obtain ⟨m, m1, m2⟩ := mWhyNot_n σ (lo y (cN σ 1)) (lo (y >>> ((5 : Int32) &&& 31)) (cN σ 20))
                rw [m2] at h196 ⊢
                by_cases e : m = 0
                · subst e; rfl
                · exact absurd (nI_lt (a := 0) (by omega) (by omega)) h196, h203, Nat.lt_of_le_of_ne n43 fun y => z (congrArg nI y)⟩)) (fun h211 => ?_)
            exact J214
  ·
    have b1 := lo_lt y (n := 3) (by decide)
    refine V_iload C dL_places_8 rfl ?_
    refine V_iconst C (v := 3) dL_places_10 (by decide) ?_
    refine V_fS C (c_low _ hl G _ _ 3 (by decide) (by decide)) ks_L_145 ⟨by decide, by decide⟩ ⟨by decide, by decide⟩ rfl rfl (Nat.le_of_ble_eq_true rfl) dL_places_11 ?_
    dsimp only [Option.toList_some, Option.toList_none, List.cons_append, List.nil_append]
    refine V_istore C dL_places_14 (by decide) rfl ?_
    simp only [lset1, lset2, List.filter_cons, List.filter_nil, Nat.reduceBEq, Nat.reduceAdd, Bool.not_true, Bool.not_false, Bool.and_true, Bool.and_false, Bool.true_and, Bool.false_and, if_true, if_false, Bool.false_eq_true, reduceIte]
    refine V_iconst C (v := 0) dL_places_16 (by decide) ?_
    refine V_istore C dL_places_17 (by decide) rfl ?_
    simp only [lset1, lset2, List.filter_cons, List.filter_nil, Nat.reduceBEq, Nat.reduceAdd, Bool.not_true, Bool.not_false, Bool.and_true, Bool.and_false, Bool.true_and, Bool.false_and, if_true, if_false, Bool.false_eq_true, reduceIte]
    refine V_iconst C (v := 0) dL_places_19 (by decide) ?_
    refine V_istore C dL_places_20 (by decide) rfl ?_
    simp only [lset1, lset2, List.filter_cons, List.filter_nil, Nat.reduceBEq, Nat.reduceAdd, Bool.not_true, Bool.not_false, Bool.and_true, Bool.and_false, Bool.true_and, Bool.false_and, if_true, if_false, Bool.false_eq_true, reduceIte]
    have L1 : ∀ t k, k + t = cN σ 1 → V X G 10 (eQ X G (fun v T => v = some (.int 1) ∧ ∃ γ9 σ9, PW T q a γ9 σ9 ∧ WP σ γ σ9 γ9) (fun _ _ => False) 60 700) 0 0 65 [(6, false, .int (nI (nsum (wtN σ (nI (lo y 3))) (cN σ 1)))), (5, false, .int (nI (lo y 3))), (4, false, .int y), (3, false, .int x), (2, false, .ref (a 3)), (1, false, .ref (a 0)), (0, false, .ref q)] [] S → V X G 10 (eQ X G (fun v T => v = some (.int 1) ∧ ∃ γ9 σ9, PW T q a γ9 σ9 ∧ WP σ γ σ9 γ9) (fun _ _ => False) 60 700) 0 0 22 [(7, false, .int (nI k)), (6, false, .int (nI (nsum (wtN σ (nI (lo y 3))) k))), (5, false, .int (nI (lo y 3))), (4, false, .int y), (3, false, .int x), (2, false, .ref (a 3)), (1, false, .ref (a 0)), (0, false, .ref q)] [] S := by
      intro t
      induction t with
      | zero =>
        intro k hk0 kk
        refine V_iload C dL_places_22 rfl ?_
        refine V_aload_n C dL_places_24 rfl (by first | exact isR_r _ | exact isR_q _ | exact isR_n) ?_
        refine V_iconst C (v := 0) dL_places_25 (by decide) ?_
        refine V_gl C hP 0 0 (by decide) (by decide) rfl e00 dL_places_26 ?_
        refine V_igeN C (tgt := 65) (by omega) (by omega) dL_places_27 (by decide) (fun h27 => ?_) (fun h27 => ?_)
        ·
          obtain rfl : k = cN σ 1 := by omega
          exact V_sub (by repeat first | exact trivial | refine ⟨rfl, ?_⟩) kk
        ·
          omega
      | succ t ih =>
        intro k hk0 kk
        refine V_iload C dL_places_22 rfl ?_
        refine V_aload_n C dL_places_24 rfl (by first | exact isR_r _ | exact isR_q _ | exact isR_n) ?_
        refine V_iconst C (v := 0) dL_places_25 (by decide) ?_
        refine V_gl C hP 0 0 (by decide) (by decide) rfl e00 dL_places_26 ?_
        refine V_igeN C (tgt := 65) (by omega) (by omega) dL_places_27 (by decide) (fun h27 => ?_) (fun h27 => ?_)
        ·
          obtain rfl : k = cN σ 1 := by omega
          exact V_sub (by repeat first | exact trivial | refine ⟨rfl, ?_⟩) kk
        ·
          have hk : k < cN σ 1 := by omega
          replace eK := eK k hk
          have hng := mHome_neg hW.1 hW.2.1 hk
          refine V_iload C dL_places_30 rfl ?_
          refine V_or (tgt9 := 56) (st9 := [.int (nI (wtN σ (nI (lo y 3)) k)), .int (nI (nsum (wtN σ (nI (lo y 3))) k))]) ?_ (fun J56 => ?_)
          ·
            refine V_iadd C dL_places_56 ?_
            rw [nI_add, show nsum (wtN σ (nI (lo y 3))) k + wtN σ (nI (lo y 3)) k = nsum (wtN σ (nI (lo y 3))) (k + 1) from rfl]
            refine V_istore C dL_places_57 (by decide) rfl ?_
            simp only [lset1, lset2, List.filter_cons, List.filter_nil, Nat.reduceBEq, Nat.reduceAdd, Bool.not_true, Bool.not_false, Bool.and_true, Bool.and_false, Bool.true_and, Bool.false_and, if_true, if_false, Bool.false_eq_true, reduceIte]
            refine V_incN C dL_places_59 rfl (by decide) rfl ?_
            simp only [lset1, lset2, List.filter_cons, List.filter_nil, Nat.reduceBEq, Nat.reduceAdd, Bool.not_true, Bool.not_false, Bool.and_true, Bool.and_false, Bool.true_and, Bool.false_and, if_true, if_false, Bool.false_eq_true, reduceIte]
            refine V_goto C (tgt := 22) dL_places_62 (by decide) ?_
            exact V_sub (by repeat first | exact trivial | refine ⟨rfl, ?_⟩) (ih (k + 1) (by omega) kk)
          ·
            refine V_aload_n C dL_places_32 rfl (by first | exact isR_r _ | exact isR_q _ | exact isR_n) ?_
            refine V_iload C dL_places_33 rfl ?_
            refine V_gl C hP 3 k (by decide) (show k < 16 by omega) rfl eK.2.2 dL_places_35 ?_
            refine V_iload C dL_places_36 rfl ?_
            refine V_icmp_ne C (tgt := 55) dL_places_38 (by decide) (fun h38 => ?_) (fun h38 => ?_)
            ·
              refine V_iconst C (v := 0) dL_places_55 (by decide) ?_
              rw [show wtN σ (nI (lo y 3)) k = 0 from if_neg fun z => h38 z.1] at J56
              exact J56
            ·
              refine V_aload_n C dL_places_41 rfl (by first | exact isR_r _ | exact isR_q _ | exact isR_n) ?_
              refine V_iload C dL_places_42 rfl ?_
              refine V_iconst C (v := 0) dL_places_44 (by decide) ?_
              refine V_fH C (r_is0 _ hl G S q a γ σ hP  k hk) kh_L_119 ⟨by decide, by decide⟩ ⟨by decide, by decide⟩ rfl rfl (Nat.le_of_ble_eq_true rfl) dL_places_45 ?_
              dsimp only [Option.toList_some, Option.toList_none, List.cons_append, List.nil_append]
              refine V_if_ge C (tgt := 55) dL_places_48 (by decide) (fun h48 => ?_) (fun h48 => ?_)
              ·
                refine V_iconst C (v := 0) dL_places_55 (by decide) ?_
                rw [show wtN σ (nI (lo y 3)) k = 0 from if_neg fun z => Int32.not_lt.mpr h48 (hng.mpr z.2)] at J56
                exact J56
              ·
                refine V_iconst C (v := 1) dL_places_51 (by decide) ?_
                refine V_goto C (tgt := 56) dL_places_52 (by decide) ?_
                rw [show wtN σ (nI (lo y 3)) k = 1 from if_pos ⟨h38, hng.mp (Int32.not_le.mp h48)⟩] at J56
                exact J56
    refine V_sub (by repeat first | exact trivial | refine ⟨rfl, ?_⟩) (L1 (cN σ 1) 0 (by omega) ?_)
    obtain ⟨-, hcase⟩ := pa_all (x := lo y 3) (by omega) hW hL.2.1.1
    have LA := LJ_all hW hL (x := lo y 3) (by omega)
    have KA := KW_placeAll (a := nI (lo y 3)) hW
    have hwt := nsum_le (g := wtN σ (nI (lo y 3))) (c := 1) (cN σ 1) fun i _ => by
      unfold wtN
      split <;> decide
    rcases hcase with ⟨ta, p, p5, pw, pv, p43⟩ | ⟨ta, p43, pc⟩
    ·
      refine V_aload_n C dL_places_65 rfl (by first | exact isR_r _ | exact isR_q _ | exact isR_n) ?_
      refine V_iload C dL_places_66 rfl ?_
      refine V_callH C (w_placeAll _ hl G _ q a _ _ hP  (nI (lo y 3))) kh_L_163 ⟨by decide, by decide⟩ ⟨by decide, by decide⟩ rfl rfl (Nat.le_of_ble_eq_true rfl) dL_places_68 (fun v9 T9 h9 => ?_)
      obtain ⟨rfl, hP9⟩ := h9
      replace hP := hP9
      clear hP9
      dsimp only [Option.toList_some, Option.toList_none, List.cons_append, List.nil_append]
      rw [hR_0 ta, pv]
      generalize (oPlaceAll σ (nI (lo y 3))).2 = σ1 at hP LA KA p43
      refine V_istore C dL_places_71 (by decide) rfl ?_
      simp only [lset1, lset2, List.filter_cons, List.filter_nil, Nat.reduceBEq, Nat.reduceAdd, Bool.not_true, Bool.not_false, Bool.and_true, Bool.and_false, Bool.true_and, Bool.false_and, if_true, if_false, Bool.false_eq_true, reduceIte]
      refine V_aload_n C dL_places_73 rfl (by first | exact isR_r _ | exact isR_q _ | exact isR_n) ?_
      refine V_iconst C (v := 3) dL_places_74 (by decide) ?_
      refine V_dup2 C dL_places_75 rfl rfl ?_
      refine V_gl C hP 0 3 (by decide) (by decide) rfl e03 dL_places_76 ?_
      refine V_iload C dL_places_77 rfl ?_
      refine V_if_ge C (tgt := 86) dL_places_79 (by decide) (fun h79 => ?_) (fun h79 => absurd (nI_pos' (by omega)) h79)
      refine V_iload C dL_places_86 rfl ?_
      refine V_iadd C dL_places_88 ?_
      rw [nI_add, ← p43]
      refine V_gs C hP 0 3 (by decide) (by decide) rfl dL_places_89 (fun T9 hP9 => ?_)
      replace hP := hP9
      refine V_iload C dL_places_90 rfl ?_
      refine V_ldc C dL_places_92 cs_L_21 ?_
      refine V_icmp_ne C (tgt := 119) dL_places_94 (by decide) (fun h94 => ?_) (fun h94 => absurd h94 (fun z => absurd (nI_pos' (n := p) (by omega)) (by rw [z]; decide)))
      refine V_iload C dL_places_119 rfl ?_
      refine V_if_lt C (tgt := 141) dL_places_121 (by decide) (fun h121 => absurd h121 (nI_pos (by omega))) (fun h121 => ?_)
      refine V_iload C dL_places_124 rfl ?_
      refine V_iload C dL_places_126 rfl ?_
      refine V_igtN C (tgt := 141) (by omega) (by omega) dL_places_128 (by decide) (fun h128 => absurd h128 (by omega)) (fun h128 => ?_)
      refine V_iload C dL_places_131 rfl ?_
      refine V_iconst C (v := nI 5) dL_places_133 (by decide) ?_
      refine V_igtN C (tgt := 141) (by omega) (by omega) dL_places_134 (by decide) (fun h134 => absurd h134 (by omega)) (fun h134 => ?_)
      refine V_iconst C (v := 1) dL_places_137 (by decide) ?_
      refine V_goto C (tgt := 142) dL_places_138 (by decide) ?_
      refine V_zret C rfl (by first | omega | decide) (by first | omega | decide) dL_places_142 ?_
      exact ⟨rfl, _, _, hP, WP_of hL LA (up2_n2 (by decide)) (by have := KA.2; omega) (up2_n2 (by decide))⟩
    ·
      refine V_aload_n C dL_places_65 rfl (by first | exact isR_r _ | exact isR_q _ | exact isR_n) ?_
      refine V_iload C dL_places_66 rfl ?_
      refine V_callH C (w_placeAll _ hl G _ q a _ _ hP  (nI (lo y 3))) kh_L_163 ⟨by decide, by decide⟩ ⟨by decide, by decide⟩ rfl rfl (Nat.le_of_ble_eq_true rfl) dL_places_68 (fun v9 T9 h9 => ?_)
      obtain ⟨rfl, hP9⟩ := h9
      replace hP := hP9
      clear hP9
      dsimp only [Option.toList_some, Option.toList_none, List.cons_append, List.nil_append]
      rw [hR_2 ta]
      generalize (oPlaceAll σ (nI (lo y 3))).2 = σ1 at hP LA KA p43
      refine V_istore C dL_places_71 (by decide) rfl ?_
      simp only [lset1, lset2, List.filter_cons, List.filter_nil, Nat.reduceBEq, Nat.reduceAdd, Bool.not_true, Bool.not_false, Bool.and_true, Bool.and_false, Bool.true_and, Bool.false_and, if_true, if_false, Bool.false_eq_true, reduceIte]
      refine V_aload_n C dL_places_73 rfl (by first | exact isR_r _ | exact isR_q _ | exact isR_n) ?_
      refine V_iconst C (v := 3) dL_places_74 (by decide) ?_
      refine V_dup2 C dL_places_75 rfl rfl ?_
      refine V_gl C hP 0 3 (by decide) (by decide) rfl e03 dL_places_76 ?_
      refine V_iload C dL_places_77 rfl ?_
      refine V_if_ge C (tgt := 86) dL_places_79 (by decide) (fun h79 => absurd h79 (by decide)) (fun h79 => ?_)
      refine V_iconst C (v := 0) dL_places_82 (by decide) ?_
      refine V_goto C (tgt := 88) dL_places_83 (by decide) ?_
      refine V_iadd C dL_places_88 ?_
      rw [Int32.add_zero, ← p43]
      refine V_gs C hP 0 3 (by decide) (by decide) rfl dL_places_89 (fun T9 hP9 => ?_)
      replace hP := hP9
      refine V_iload C dL_places_90 rfl ?_
      refine V_ldc C dL_places_92 cs_L_21 ?_
      refine V_icmp_ne C (tgt := 119) dL_places_94 (by decide) (fun h94 => absurd h94 (fun z => z rfl)) (fun h94 => ?_)
      refine V_iload C dL_places_97 rfl ?_
      refine V_iconst C (v := nI 5) dL_places_99 (by decide) ?_
      refine V_igtN C (tgt := 111) (by omega) (by omega) dL_places_100 (by decide) (fun h100 => ?_) (fun h100 => ?_)
      ·
        refine V_iconst C (v := 1) dL_places_111 (by decide) ?_
        refine V_goto C (tgt := 142) dL_places_112 (by decide) ?_
        refine V_zret C rfl (by first | omega | decide) (by first | omega | decide) dL_places_142 ?_
        exact ⟨rfl, _, _, hP, WP_of hL LA (up2_n2 (by decide)) (by have := KA.2; omega) (up2_n2 (by decide))⟩
      ·
        refine V_aload_n C dL_places_103 rfl (by first | exact isR_r _ | exact isR_q _ | exact isR_n) ?_
        refine V_iconst C (v := 3) dL_places_104 (by decide) ?_
        refine V_gl C hP 0 3 (by decide) (by decide) rfl up2_s dL_places_105 ?_
        refine V_bipush C (v := nI 95) dL_places_106 (by decide) ?_
        refine V_icmp_le C (tgt := 115) dL_places_108 (by decide) (fun h108 => absurd h108 (fun z => absurd ((nI_leI (by omega) (by decide)).mp z) (by omega))) (fun h108 => ?_)
        refine V_iconst C (v := 1) dL_places_111 (by decide) ?_
        refine V_goto C (tgt := 142) dL_places_112 (by decide) ?_
        refine V_zret C rfl (by first | omega | decide) (by first | omega | decide) dL_places_142 ?_
        exact ⟨rfl, _, _, hP, WP_of hL LA (up2_n2 (by decide)) (by have := KA.2; omega) (up2_n2 (by decide))⟩
