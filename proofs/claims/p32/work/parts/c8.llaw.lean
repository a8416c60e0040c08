/-! THE LAW itself. -/
def S00 : sS := (fun _ => 0, fun _ => 0, fun _ _ => 0, fun _ _ => none, fun _ _ => 0, fun _ _ => 0, fun _ _ => none)
theorem st_00 {G : gG} : wW G S00 G.2.2 := ⟨Nat.le_refl _, fun _ _ => rfl, fun a ha => absurd rfl ha⟩
theorem Fr_nA {P : Nat → Prop} {S : sS} {k n q : Nat} (hz : sK S q = 0) : Fr P S (nA S k n q) := fun b hb _ => by
  have ne : b ≠ q := fun e => hb (by rw [e]; exact hz)
  exact ⟨up1_n ne, up1_n ne, fun _ => rfl, fun _ => rfl, if_neg ne, if_neg ne, if_neg ne⟩
def PA (n : Nat) (S : sS) (q : Nat) (a : Nat → Nat) (σ : aS) : Prop := ∃ ad : Nat → Nat → Nat, ad 8 0 = q ∧ RelC S ad σ ∧ GU S ad ∧ ∀ f, f < n → sK S (a f) = 2001 + 10 * f ∧ sL S (a f) = lLen f ∧ ∀ j, sA S (a f) j = 0
theorem PA_new {n : Nat} {S : sS} {q : Nat} {a : Nat → Nat} {σ : aS} {z : Nat} (h : PA n S q a σ) (hz : sK S z = 0) : PA (n + 1) (nA S (2001 + 10 * n) (lLen n) z) q (fun f => if f = n then z else a f) σ := by
  obtain ⟨ad, h1, h2, h3, h4⟩ := h
  have hF : Fr isG S (nA S (2001 + 10 * n) (lLen n) z) := Fr_nA hz
  refine ⟨ad, h1, RelC_frG h2 hF, fun i hi => ?_, fun f hf => ?_⟩
  · have hk : sK S (ad 27 i) = 181 := h2.1 27 i (by decide) (by decide) (by decide) hi
    have e := (hF (ad 27 i) (by rw [hk]; decide) (by rw [hk]; unfold isG; omega)).2.2.2.2.1
    rw [e]
    exact h3 i hi
  · by_cases e : f = n
    · subst e
      dsimp only
      rw [if_pos rfl]
      exact ⟨up1_s, up1_s, fun j => congrFun (if_pos rfl) j⟩
    · dsimp only
      rw [if_neg e]
      obtain ⟨k1, k2, k3⟩ := h4 f (by omega)
      obtain ⟨b1, b2, -, -, b5, -, -⟩ := Fr_nA (P := fun _ => False) (k := 2001 + 10 * n) (n := lLen n) hz (a f) (by rw [k1]; omega) (fun z => z)
      exact ⟨b1.trans k1, b2.trans k2, fun j => by rw [b5]; exact k3 j⟩
theorem LJ_0 : LJ σ0 (fun _ _ => 0) := by
  have z : ∀ x, cN σ0 x = 0 := fun _ => rfl
  refine ⟨⟨⟨rfl, rfl, rfl, rfl, rfl⟩, ⟨by decide, by decide⟩, fun k hk => absurd hk (Nat.not_lt_zero k), fun k hk => absurd hk (Nat.not_lt_zero k), fun k hk => absurd hk (Nat.not_lt_zero k)⟩, ⟨⟨fun k hk => absurd hk (Nat.not_lt_zero k), fun k hk => absurd hk (Nat.not_lt_zero k), fun k hk => absurd hk (Nat.not_lt_zero k), fun k hk => absurd hk (Nat.not_lt_zero k)⟩, fun k hk => absurd hk (Nat.not_lt_zero k)⟩, fun _ _ _ => rfl⟩
/-- between two acts -/
def LV (S : sS) (q : Nat) (a : Nat → Nat) (j : Nat) : Prop := ∃ γ σ, PW S q a γ σ ∧ LJ σ γ ∧ cN σ 0 ≤ 60 * j ∧ cN σ 27 ≤ 3 * j ∧ ∃ e, e ≤ j ∧ γ 0 5 = nI e
theorem LV_WP {T : sS} {q : Nat} {a : Nat → Nat} {j : Nat} {σ σ' : aS} {γ γ' : Nat → Nat → Int32} (hP : PW T q a γ' σ') (h : WP σ γ σ' γ') (h0 : cN σ 0 ≤ 60 * j) (h27 : cN σ 27 ≤ 3 * j) (he : ∃ e, e ≤ j ∧ γ 0 5 = nI e) : LV T q a (j + 1) := by
  obtain ⟨e, e1, e2⟩ := he
  obtain ⟨w1, w2, w3, w4⟩ := h
  exact ⟨γ', σ', hP, w1, by omega, by omega, e, by omega, w4.trans e2⟩
theorem LV_WA {T : sS} {q : Nat} {a : Nat → Nat} {j : Nat} {σ σ' : aS} {γ γ' : Nat → Nat → Int32} (hP : PW T q a γ' σ') (h : WA σ γ σ' γ') (hj : j ≤ 1000) (h0 : cN σ 0 ≤ 60 * j) (h27 : cN σ 27 ≤ 3 * j) (he : ∃ e, e ≤ j ∧ γ 0 5 = nI e) : LV T q a (j + 1) := by
  obtain ⟨e, e1, e2⟩ := he
  obtain ⟨w1, w2, w3, w4⟩ := h
  obtain ⟨e', g1, g2⟩ := w4 e (by omega) e2
  exact ⟨γ', σ', hP, w1, by omega, by omega, e', by omega, g2⟩
section VLAW
variable {X : xX} {G : gG} {tb : List ExceptionTableEntry} {Q : State → Prop} {b q : Nat} {a : Nat → Nat}
theorem law_l2 {L : Nat} {xs : Nat → Int32} (C : Cx X G RL cL_law 12 (some .boolean) room_1 tb) (hl : X.2.1.stackTraces = false) (hL : L ≤ 260) (hs : scr G b L xs) (kend : ∀ (k n : Nat) (lo : lO) (S : sS), k ≤ 601019 → n ≤ 7298640 → V X G 12 Q k n 250 lo [] S) : ∀ t k S, k + t = 60 → 3 ≤ k → LV S q a (k + 2) → V X G 12 Q (400 + 310 * k) (4000 + 2100 * k) 153 [(11, false, .int (nI k)), (10, false, .int 1), (9, false, .ref (a 7)), (8, false, .ref (a 6)), (7, false, .ref (a 5)), (6, false, .ref (a 4)), (5, false, .ref (a 3)), (4, false, .ref (a 2)), (3, false, .ref (a 1)), (2, false, .ref (a 0)), (1, false, .ref q), (0, false, .ref b)] [] S := by
  intro t
  induction t with
  | zero =>
    intro k S hk hk3 hV
    obtain ⟨γ, σ, hP, hLJ, h0, h27, e, e1, e2⟩ := hV
    refine V_iload C dL_law_153 rfl ?_
    refine V_bipush C (v := nI 60) dL_law_155 (by decide) ?_
    refine V_igeN C (tgt := 209) (by omega) (by omega) dL_law_157 (by decide) (fun h157 => ?_) (fun h157 => ?_)
    ·
      refine V_iload C dL_law_209 rfl ?_
      refine V_if_eq C (tgt := 254) dL_law_211 (by decide) (fun h211 => absurd h211 (by decide)) (fun h211 => ?_)
      have hW := PW_W hP
      refine V_aload_n C dL_law_214 rfl (by first | exact isR_r _ | exact isR_q _ | exact isR_n) ?_
      refine V_aload_n C dL_law_215 rfl (by first | exact isR_r _ | exact isR_q _ | exact isR_n) ?_
      refine V_aload_n C dL_law_216 rfl (by first | exact isR_r _ | exact isR_q _ | exact isR_n) ?_
      refine V_aload C dL_law_217 rfl (by first | exact isR_r _ | exact isR_q _ | exact isR_n) ?_
      refine V_aload C dL_law_219 rfl (by first | exact isR_r _ | exact isR_q _ | exact isR_n) ?_
      refine V_fS C (c_areChildren _ hl G _ q a _ _ hP hLJ.1 (AC_of hW hLJ.2.1.1)) ks_L_199 ⟨by decide, by decide⟩ ⟨(by omega : _ ≤ 601019), (by omega : _ ≤ 7298640)⟩ rfl rfl (Nat.le_of_ble_eq_true rfl) dL_law_221 ?_
      dsimp only [Option.toList_some, Option.toList_none, List.cons_append, List.nil_append]
      refine V_if_eq C (tgt := 254) dL_law_224 (by decide) (fun h224 => absurd h224 (by decide)) (fun h224 => ?_)
      refine V_aload_n C dL_law_227 rfl (by first | exact isR_r _ | exact isR_q _ | exact isR_n) ?_
      refine V_aload_n C dL_law_228 rfl (by first | exact isR_r _ | exact isR_q _ | exact isR_n) ?_
      refine V_aload_n C dL_law_229 rfl (by first | exact isR_r _ | exact isR_q _ | exact isR_n) ?_
      refine V_aload C dL_law_230 rfl (by first | exact isR_r _ | exact isR_q _ | exact isR_n) ?_
      refine V_aload C dL_law_232 rfl (by first | exact isR_r _ | exact isR_q _ | exact isR_n) ?_
      refine V_fS C (c_areStays _ hl G _ q a _ _ hP hLJ.1 (ASt_of hW hLJ.2.1.1)) ks_L_203 ⟨by decide, by decide⟩ ⟨(by omega : _ ≤ 601019), (by omega : _ ≤ 7298640)⟩ rfl rfl (Nat.le_of_ble_eq_true rfl) dL_law_234 ?_
      dsimp only [Option.toList_some, Option.toList_none, List.cons_append, List.nil_append]
      refine V_if_eq C (tgt := 254) dL_law_237 (by decide) (fun h237 => absurd h237 (by decide)) (fun h237 => ?_)
      refine V_aload_n C dL_law_240 rfl (by first | exact isR_r _ | exact isR_q _ | exact isR_n) ?_
      refine V_aload_n C dL_law_241 rfl (by first | exact isR_r _ | exact isR_q _ | exact isR_n) ?_
      refine V_aload C dL_law_242 rfl (by first | exact isR_r _ | exact isR_q _ | exact isR_n) ?_
      refine V_fS C (c_areLoads _ hl G _ q a _ _ hP hLJ.1 (ALo_of hW)) ks_L_206 ⟨by decide, by decide⟩ ⟨(by omega : _ ≤ 601019), (by omega : _ ≤ 7298640)⟩ rfl rfl (Nat.le_of_ble_eq_true rfl) dL_law_244 ?_
      dsimp only [Option.toList_some, Option.toList_none, List.cons_append, List.nil_append]
      refine V_if_eq C (tgt := 254) dL_law_247 (by decide) (fun h247 => absurd h247 (by decide)) (fun h247 => ?_)
      exact kend _ _ _ _ (by omega) (by omega)
    ·
      omega
  | succ t ih =>
    intro k S hk hk3 hV
    obtain ⟨γ, σ, hP, hLJ, h0, h27, e, e1, e2⟩ := hV
    refine V_iload C dL_law_153 rfl ?_
    refine V_bipush C (v := nI 60) dL_law_155 (by decide) ?_
    refine V_igeN C (tgt := 209) (by omega) (by omega) dL_law_157 (by decide) (fun h157 => ?_) (fun h157 => ?_)
    ·
      omega
    ·
      refine V_iload C dL_law_160 rfl ?_
      refine V_if_eq C (tgt := 209) dL_law_162 (by decide) (fun h162 => absurd h162 (by decide)) (fun h162 => ?_)
      have hk60 : k < 60 := by omega
      refine V_aload_n C dL_law_165 rfl (by first | exact isR_r _ | exact isR_q _ | exact isR_n) ?_
      refine V_aload_n C dL_law_166 rfl (by first | exact isR_r _ | exact isR_q _ | exact isR_n) ?_
      refine V_aload_n C dL_law_167 rfl (by first | exact isR_r _ | exact isR_q _ | exact isR_n) ?_
      refine V_aload C dL_law_168 rfl (by first | exact isR_r _ | exact isR_q _ | exact isR_n) ?_
      refine V_aload C dL_law_170 rfl (by first | exact isR_r _ | exact isR_q _ | exact isR_n) ?_
      refine V_aload C dL_law_172 rfl (by first | exact isR_r _ | exact isR_q _ | exact isR_n) ?_
      refine V_aload C dL_law_174 rfl (by first | exact isR_r _ | exact isR_q _ | exact isR_n) ?_
      refine V_aload C dL_law_176 rfl (by first | exact isR_r _ | exact isR_q _ | exact isR_n) ?_
      refine V_aload C dL_law_178 rfl (by first | exact isR_r _ | exact isR_q _ | exact isR_n) ?_
      refine V_aload_n C dL_law_180 rfl (by first | exact isR_r _ | exact isR_q _ | exact isR_n) ?_
      refine V_iconst C (v := 2) dL_law_181 (by decide) ?_
      refine V_iload C dL_law_182 rfl ?_
      refine V_imul C dL_law_184 ?_
      rw [show (2 : Int32) * nI k = nI (2 * k) from pk_mul 2 k]
      refine V_callS12 C (c_at _ hl G _ hs hL (2 * k) (by omega)) ks_L_211 ⟨by decide, by decide⟩ ⟨(by omega : _ ≤ 601019), (by omega : _ ≤ 7298640)⟩ rfl rfl (Nat.le_of_ble_eq_true rfl) dL_law_185 (fun v9 T9 h9 => ?_) (fun _ _ z => z.elim)
      obtain ⟨⟨z1, rfl⟩, rfl⟩ := h9
      dsimp only [Option.toList_some, Option.toList_none, List.cons_append, List.nil_append]
      refine V_aload_n C dL_law_188 rfl (by first | exact isR_r _ | exact isR_q _ | exact isR_n) ?_
      refine V_iconst C (v := 2) dL_law_189 (by decide) ?_
      refine V_iload C dL_law_190 rfl ?_
      refine V_imul C dL_law_192 ?_
      rw [show (2 : Int32) * nI k = nI (2 * k) from pk_mul 2 k]
      refine V_iconst C (v := 1) dL_law_193 (by decide) ?_
      refine V_iadd C dL_law_194 ?_
      rw [nI_1]
      refine V_callS12 C (c_at _ hl G _ hs hL (2 * k + 1) (by omega)) ks_L_211 ⟨by decide, by decide⟩ ⟨(by omega : _ ≤ 601019), (by omega : _ ≤ 7298640)⟩ rfl rfl (Nat.le_of_ble_eq_true rfl) dL_law_195 (fun v9 T9 h9 => ?_) (fun _ _ z => z.elim)
      obtain ⟨⟨z2, rfl⟩, rfl⟩ := h9
      dsimp only [Option.toList_some, Option.toList_none, List.cons_append, List.nil_append]
      refine V_callS C (c_acts _ hl G _ q a γ σ hP hLJ (by omega) (by omega) e e2 (by omega) _ _) ks_L_215 ⟨by decide, by decide⟩ ⟨(by omega : _ ≤ 601019), (by omega : _ ≤ 7298640)⟩ rfl rfl (Nat.le_of_ble_eq_true rfl) dL_law_198 (fun v9 T9 h9 => ?_) (fun _ _ z => z.elim)
      obtain ⟨rfl, γ1, σ1, hP1, hW1⟩ := h9
      dsimp only [Option.toList_some, Option.toList_none, List.cons_append, List.nil_append]
      refine V_istore C dL_law_201 (by decide) rfl ?_
      simp only [lset1, lset2, List.filter_cons, List.filter_nil, Nat.reduceBEq, Nat.reduceAdd, Bool.not_true, Bool.not_false, Bool.and_true, Bool.and_false, Bool.true_and, Bool.false_and, if_true, if_false, Bool.false_eq_true, reduceIte]
      refine V_incN C dL_law_203 rfl (by decide) rfl ?_
      simp only [lset1, lset2, List.filter_cons, List.filter_nil, Nat.reduceBEq, Nat.reduceAdd, Bool.not_true, Bool.not_false, Bool.and_true, Bool.and_false, Bool.true_and, Bool.false_and, if_true, if_false, Bool.false_eq_true, reduceIte]
      refine V_goto C (tgt := 153) dL_law_206 (by decide) ?_
      exact V_widen (by omega) (by omega) (V_sub (by repeat first | exact trivial | refine ⟨rfl, ?_⟩) (ih (k + 1) _ (by omega) (by omega) (LV_WA hP1 hW1 (by omega) h0 h27 ⟨e, e1, e2⟩)))
theorem law_l1 {L : Nat} {xs : Nat → Int32} (C : Cx X G RL cL_law 12 (some .boolean) room_1 tb) (hl : X.2.1.stackTraces = false) (hL : L ≤ 260) (hs : scr G b L xs) (kend : ∀ (k n : Nat) (lo : lO) (S : sS), k ≤ 601019 → n ≤ 7298640 → V X G 12 Q k n 250 lo [] S) : ∀ t k S, k + t = 3 → LV S q a (k + 2) → V X G 12 Q (200 + 40 * k) (2000 + 500 * k) 104 [(11, false, .int (nI k)), (10, false, .int 1), (9, false, .ref (a 7)), (8, false, .ref (a 6)), (7, false, .ref (a 5)), (6, false, .ref (a 4)), (5, false, .ref (a 3)), (4, false, .ref (a 2)), (3, false, .ref (a 1)), (2, false, .ref (a 0)), (1, false, .ref q), (0, false, .ref b)] [] S := by
  intro t
  induction t with
  | zero =>
    intro k S hk hV
    refine V_iload C dL_law_104 rfl ?_
    refine V_iconst C (v := nI 3) dL_law_106 (by decide) ?_
    refine V_igeN C (tgt := 150) (by omega) (by omega) dL_law_107 (by decide) (fun h107 => ?_) (fun h107 => ?_)
    ·
      obtain rfl : k = 3 := by omega
      refine V_iconst C (v := 3) dL_law_150 (by decide) ?_
      refine V_istore C dL_law_151 (by decide) rfl ?_
      simp only [lset1, lset2, List.filter_cons, List.filter_nil, Nat.reduceBEq, Nat.reduceAdd, Bool.not_true, Bool.not_false, Bool.and_true, Bool.and_false, Bool.true_and, Bool.false_and, if_true, if_false, Bool.false_eq_true, reduceIte]
      exact V_widen (by omega) (by omega) (V_sub (by repeat first | exact trivial | refine ⟨rfl, ?_⟩) (law_l2 C hl hL hs kend 57 3 _ rfl (by decide) hV))
    ·
      omega
  | succ t ih =>
    intro k S hk hV
    refine V_iload C dL_law_104 rfl ?_
    refine V_iconst C (v := nI 3) dL_law_106 (by decide) ?_
    refine V_igeN C (tgt := 150) (by omega) (by omega) dL_law_107 (by decide) (fun h107 => ?_) (fun h107 => ?_)
    ·
      omega
    ·
      refine V_iload C dL_law_110 rfl ?_
      refine V_if_eq C (tgt := 150) dL_law_112 (by decide) (fun h112 => absurd h112 (by decide)) (fun h112 => ?_)
      obtain ⟨γ, σ, hP, hLJ, h0, h27, e, e1, e2⟩ := hV
      refine V_aload_n C dL_law_115 rfl (by first | exact isR_r _ | exact isR_q _ | exact isR_n) ?_
      refine V_aload_n C dL_law_116 rfl (by first | exact isR_r _ | exact isR_q _ | exact isR_n) ?_
      refine V_aload_n C dL_law_117 rfl (by first | exact isR_r _ | exact isR_q _ | exact isR_n) ?_
      refine V_aload C dL_law_118 rfl (by first | exact isR_r _ | exact isR_q _ | exact isR_n) ?_
      refine V_aload C dL_law_120 rfl (by first | exact isR_r _ | exact isR_q _ | exact isR_n) ?_
      refine V_aload C dL_law_122 rfl (by first | exact isR_r _ | exact isR_q _ | exact isR_n) ?_
      refine V_aload_n C dL_law_124 rfl (by first | exact isR_r _ | exact isR_q _ | exact isR_n) ?_
      refine V_iconst C (v := 2) dL_law_125 (by decide) ?_
      refine V_callS12 C (c_at _ hl G _ hs hL 2 (by decide)) ks_L_211 ⟨by decide, by decide⟩ ⟨(by omega : _ ≤ 601019), (by omega : _ ≤ 7298640)⟩ rfl rfl (Nat.le_of_ble_eq_true rfl) dL_law_126 (fun v9 T9 h9 => ?_) (fun _ _ z => z.elim)
      obtain ⟨⟨z1, rfl⟩, rfl⟩ := h9
      dsimp only [Option.toList_some, Option.toList_none, List.cons_append, List.nil_append]
      refine V_iconst C (v := 1) dL_law_129 (by decide) ?_
      refine V_ior C dL_law_130 ?_
      refine V_aload_n C dL_law_131 rfl (by first | exact isR_r _ | exact isR_q _ | exact isR_n) ?_
      refine V_iconst C (v := 3) dL_law_132 (by decide) ?_
      refine V_iload C dL_law_133 rfl ?_
      refine V_iadd C dL_law_135 ?_
      rw [show (3 : Int32) + nI k = nI (3 + k) from nI_add 3 k]
      refine V_callS12 C (c_at _ hl G _ hs hL (3 + k) (by omega)) ks_L_211 ⟨by decide, by decide⟩ ⟨(by omega : _ ≤ 601019), (by omega : _ ≤ 7298640)⟩ rfl rfl (Nat.le_of_ble_eq_true rfl) dL_law_136 (fun v9 T9 h9 => ?_) (fun _ _ z => z.elim)
      obtain ⟨⟨z2, rfl⟩, rfl⟩ := h9
      dsimp only [Option.toList_some, Option.toList_none, List.cons_append, List.nil_append]
      refine V_callS C (c_makes _ hl G _ q a γ σ hP hLJ (by omega) _ _) ks_L_182 ⟨by decide, by decide⟩ ⟨(by omega : _ ≤ 601019), (by omega : _ ≤ 7298640)⟩ rfl rfl (Nat.le_of_ble_eq_true rfl) dL_law_139 (fun v9 T9 h9 => ?_) (fun _ _ z => z.elim)
      obtain ⟨rfl, γ1, σ1, hP1, hW1⟩ := h9
      dsimp only [Option.toList_some, Option.toList_none, List.cons_append, List.nil_append]
      refine V_istore C dL_law_142 (by decide) rfl ?_
      simp only [lset1, lset2, List.filter_cons, List.filter_nil, Nat.reduceBEq, Nat.reduceAdd, Bool.not_true, Bool.not_false, Bool.and_true, Bool.and_false, Bool.true_and, Bool.false_and, if_true, if_false, Bool.false_eq_true, reduceIte]
      refine V_incN C dL_law_144 rfl (by decide) rfl ?_
      simp only [lset1, lset2, List.filter_cons, List.filter_nil, Nat.reduceBEq, Nat.reduceAdd, Bool.not_true, Bool.not_false, Bool.and_true, Bool.and_false, Bool.true_and, Bool.false_and, if_true, if_false, Bool.false_eq_true, reduceIte]
      refine V_goto C (tgt := 104) dL_law_147 (by decide) ?_
      exact V_widen (by omega) (by omega) (V_sub (by repeat first | exact trivial | refine ⟨rfl, ?_⟩) (ih (k + 1) _ (by omega) (LV_WP hP1 hW1 h0 h27 ⟨e, e1, e2⟩)))
theorem law_walk {L : Nat} {xs : Nat → Int32} (C : Cx X G RL cL_law 12 (some .boolean) room_1 tb) (hl : X.2.1.stackTraces = false) (hL : L ≤ 260) (hs : scr G b L xs) (kend : ∀ (k n : Nat) (lo : lO) (S : sS), k ≤ 601019 → n ≤ 7298640 → V X G 12 Q k n 250 lo [] S) : V X G 12 Q 0 0 0 [(0, false, .ref b)] [] S00 := by
  refine V_new C 8 cf_8 nw_L_11 (by decide) (Nat.le_of_ble_eq_true rfl) (Nat.le_of_ble_eq_true rfl) dL_law_0 (fun q hq0 hq => ?_)
  refine V_dup C dL_law_3 rfl ?_
  refine V_callI C (c_X8_init X.2.1 hl G _ q up1_s (fun f => if_pos rfl)) ki_L_210 ⟨by decide, by decide⟩ ⟨Nat.le_of_ble_eq_true rfl, Nat.le_of_ble_eq_true rfl⟩ rfl rfl (Nat.le_of_ble_eq_true rfl) dL_law_4 (fun w T hT1 => ?_)
  obtain ⟨rfl, ⟨ad, e8, hC, hG⟩, hE⟩ := hT1
  dsimp only [Option.toList_some, Option.toList_none, List.cons_append, List.nil_append]
  refine V_astore_n C dL_law_7 (by decide) (isR_r _) rfl ?_
  simp only [lset1, lset2, List.filter_cons, List.filter_nil, Nat.reduceBEq, Nat.reduceAdd, Bool.not_true, Bool.not_false, Bool.and_true, Bool.and_false, Bool.true_and, Bool.false_and, if_true, if_false, Bool.false_eq_true, reduceIte]
  have p0 : PA 0 T q (fun _ => 0) σ0 := ⟨ad, e8, hC, hG, fun f hf => absurd hf (Nat.not_lt_zero f)⟩
  refine V_bipush C (v := 6) dL_law_8 (by decide) ?_
  refine V_newarr C 2001 (t := 1) (m := 6) rfl (by decide) (by decide) ac_int (by decide) (by decide) (by decide) (Nat.le_of_ble_eq_true rfl) (Nat.le_of_ble_eq_true rfl) dL_law_10 (fun z0 y0 x0 => ?_)
  have p1 := PA_new p0 (x0 z0 (Nat.le_refl _))
  refine V_astore_n C dL_law_12 (by decide) (isR_r _) rfl ?_
  simp only [lset1, lset2, List.filter_cons, List.filter_nil, Nat.reduceBEq, Nat.reduceAdd, Bool.not_true, Bool.not_false, Bool.and_true, Bool.and_false, Bool.true_and, Bool.false_and, if_true, if_false, Bool.false_eq_true, reduceIte]
  refine V_bipush C (v := 16) dL_law_13 (by decide) ?_
  refine V_newarr C 2011 (t := 1) (m := 16) rfl (by decide) (by decide) ac_int (by decide) (by decide) (by decide) (Nat.le_of_ble_eq_true rfl) (Nat.le_of_ble_eq_true rfl) dL_law_15 (fun z1 y1 x1 => ?_)
  have p2 := PA_new p1 (x1 z1 (Nat.le_refl _))
  refine V_astore_n C dL_law_17 (by decide) (isR_r _) rfl ?_
  simp only [lset1, lset2, List.filter_cons, List.filter_nil, Nat.reduceBEq, Nat.reduceAdd, Bool.not_true, Bool.not_false, Bool.and_true, Bool.and_false, Bool.true_and, Bool.false_and, if_true, if_false, Bool.false_eq_true, reduceIte]
  refine V_bipush C (v := 16) dL_law_18 (by decide) ?_
  refine V_newarr C 2021 (t := 1) (m := 16) rfl (by decide) (by decide) ac_int (by decide) (by decide) (by decide) (Nat.le_of_ble_eq_true rfl) (Nat.le_of_ble_eq_true rfl) dL_law_20 (fun z2 y2 x2 => ?_)
  have p3 := PA_new p2 (x2 z2 (Nat.le_refl _))
  refine V_astore C dL_law_22 (by decide) (isR_r _) rfl ?_
  simp only [lset1, lset2, List.filter_cons, List.filter_nil, Nat.reduceBEq, Nat.reduceAdd, Bool.not_true, Bool.not_false, Bool.and_true, Bool.and_false, Bool.true_and, Bool.false_and, if_true, if_false, Bool.false_eq_true, reduceIte]
  refine V_bipush C (v := 16) dL_law_24 (by decide) ?_
  refine V_newarr C 2031 (t := 1) (m := 16) rfl (by decide) (by decide) ac_int (by decide) (by decide) (by decide) (Nat.le_of_ble_eq_true rfl) (Nat.le_of_ble_eq_true rfl) dL_law_26 (fun z3 y3 x3 => ?_)
  have p4 := PA_new p3 (x3 z3 (Nat.le_refl _))
  refine V_astore C dL_law_28 (by decide) (isR_r _) rfl ?_
  simp only [lset1, lset2, List.filter_cons, List.filter_nil, Nat.reduceBEq, Nat.reduceAdd, Bool.not_true, Bool.not_false, Bool.and_true, Bool.and_false, Bool.true_and, Bool.false_and, if_true, if_false, Bool.false_eq_true, reduceIte]
  refine V_iconst C (v := 4) dL_law_30 (by decide) ?_
  refine V_newarr C 2041 (t := 1) (m := 4) rfl (by decide) (by decide) ac_int (by decide) (by decide) (by decide) (Nat.le_of_ble_eq_true rfl) (Nat.le_of_ble_eq_true rfl) dL_law_31 (fun z4 y4 x4 => ?_)
  have p5 := PA_new p4 (x4 z4 (Nat.le_refl _))
  refine V_astore C dL_law_33 (by decide) (isR_r _) rfl ?_
  simp only [lset1, lset2, List.filter_cons, List.filter_nil, Nat.reduceBEq, Nat.reduceAdd, Bool.not_true, Bool.not_false, Bool.and_true, Bool.and_false, Bool.true_and, Bool.false_and, if_true, if_false, Bool.false_eq_true, reduceIte]
  refine V_iconst C (v := 4) dL_law_35 (by decide) ?_
  refine V_newarr C 2051 (t := 1) (m := 4) rfl (by decide) (by decide) ac_int (by decide) (by decide) (by decide) (Nat.le_of_ble_eq_true rfl) (Nat.le_of_ble_eq_true rfl) dL_law_36 (fun z5 y5 x5 => ?_)
  have p6 := PA_new p5 (x5 z5 (Nat.le_refl _))
  refine V_astore C dL_law_38 (by decide) (isR_r _) rfl ?_
  simp only [lset1, lset2, List.filter_cons, List.filter_nil, Nat.reduceBEq, Nat.reduceAdd, Bool.not_true, Bool.not_false, Bool.and_true, Bool.and_false, Bool.true_and, Bool.false_and, if_true, if_false, Bool.false_eq_true, reduceIte]
  refine V_bipush C (v := 32) dL_law_40 (by decide) ?_
  refine V_newarr C 2061 (t := 1) (m := 32) rfl (by decide) (by decide) ac_int (by decide) (by decide) (by decide) (Nat.le_of_ble_eq_true rfl) (Nat.le_of_ble_eq_true rfl) dL_law_42 (fun z6 y6 x6 => ?_)
  have p7 := PA_new p6 (x6 z6 (Nat.le_refl _))
  refine V_astore C dL_law_44 (by decide) (isR_r _) rfl ?_
  simp only [lset1, lset2, List.filter_cons, List.filter_nil, Nat.reduceBEq, Nat.reduceAdd, Bool.not_true, Bool.not_false, Bool.and_true, Bool.and_false, Bool.true_and, Bool.false_and, if_true, if_false, Bool.false_eq_true, reduceIte]
  refine V_bipush C (v := 64) dL_law_46 (by decide) ?_
  refine V_newarr C 2071 (t := 1) (m := 64) rfl (by decide) (by decide) ac_int (by decide) (by decide) (by decide) (Nat.le_of_ble_eq_true rfl) (Nat.le_of_ble_eq_true rfl) dL_law_48 (fun z7 y7 x7 => ?_)
  have p8 := PA_new p7 (x7 z7 (Nat.le_refl _))
  refine V_astore C dL_law_50 (by decide) (isR_r _) rfl ?_
  simp only [lset1, lset2, List.filter_cons, List.filter_nil, Nat.reduceBEq, Nat.reduceAdd, Bool.not_true, Bool.not_false, Bool.and_true, Bool.and_false, Bool.true_and, Bool.false_and, if_true, if_false, Bool.false_eq_true, reduceIte]
  obtain ⟨a, hP, e0, e1, e2, e3, e4, e5, e6, e7⟩ : ∃ a, PW _ q a (fun _ _ => 0) σ0 ∧ a 0 = z0 ∧ a 1 = z1 ∧ a 2 = z2 ∧ a 3 = z3 ∧ a 4 = z4 ∧ a 5 = z5 ∧ a 6 = z6 ∧ a 7 = z7 := by
    obtain ⟨ad, h1, h2, h3, h4⟩ := p8
    exact ⟨_, ⟨ad, h1, h2, h3, IW_0, fun f hf => ⟨(h4 f hf).1, (h4 f hf).2.1, fun j _ => (h4 f hf).2.2 j⟩⟩, rfl, rfl, rfl, rfl, rfl, rfl, rfl, rfl⟩
  clear p0 p1 p2 p3 p4 p5 p6 p7 p8
  subst e0
  subst e1
  subst e2
  subst e3
  subst e4
  subst e5
  subst e6
  subst e7
  refine V_aload_n C dL_law_52 rfl (by first | exact isR_r _ | exact isR_q _ | exact isR_n) ?_
  refine V_aload_n C dL_law_53 rfl (by first | exact isR_r _ | exact isR_q _ | exact isR_n) ?_
  refine V_aload_n C dL_law_54 rfl (by first | exact isR_r _ | exact isR_q _ | exact isR_n) ?_
  refine V_aload C dL_law_55 rfl (by first | exact isR_r _ | exact isR_q _ | exact isR_n) ?_
  refine V_aload C dL_law_57 rfl (by first | exact isR_r _ | exact isR_q _ | exact isR_n) ?_
  refine V_aload C dL_law_59 rfl (by first | exact isR_r _ | exact isR_q _ | exact isR_n) ?_
  refine V_iconst C (v := 0) dL_law_61 (by decide) ?_
  refine V_aload_n C dL_law_62 rfl (by first | exact isR_r _ | exact isR_q _ | exact isR_n) ?_
  refine V_iconst C (v := 0) dL_law_63 (by decide) ?_
  refine V_callS12 C (c_at _ hl G _ hs hL 0 (by decide)) ks_L_211 ⟨by decide, by decide⟩ ⟨Nat.le_of_ble_eq_true rfl, Nat.le_of_ble_eq_true rfl⟩ rfl rfl (Nat.le_of_ble_eq_true rfl) dL_law_64 (fun v9 T9 h9 => ?_) (fun _ _ z => z.elim)
  obtain ⟨⟨z1, rfl⟩, rfl⟩ := h9
  dsimp only [Option.toList_some, Option.toList_none, List.cons_append, List.nil_append]
  refine V_callS C (c_makes _ hl G _ q a _ _ hP LJ_0 (by decide) _ _) ks_L_182 ⟨by decide, by decide⟩ ⟨Nat.le_of_ble_eq_true rfl, Nat.le_of_ble_eq_true rfl⟩ rfl rfl (Nat.le_of_ble_eq_true rfl) dL_law_67 (fun v9 T9 h9 => ?_) (fun _ _ z => z.elim)
  obtain ⟨rfl, γ1, σ1, hP1, hW1⟩ := h9
  dsimp only [Option.toList_some, Option.toList_none, List.cons_append, List.nil_append]
  refine V_if_eq C (tgt := 98) dL_law_70 (by decide) (fun h70 => absurd h70 (by decide)) (fun h70 => ?_)
  obtain ⟨γ1, σ1, hP1, hJ1, h0, h27, e, e1, e2⟩ := LV_WP (j := 0) hP1 hW1 (by decide) (by decide) ⟨0, Nat.le_refl _, rfl⟩
  refine V_aload_n C dL_law_73 rfl (by first | exact isR_r _ | exact isR_q _ | exact isR_n) ?_
  refine V_aload_n C dL_law_74 rfl (by first | exact isR_r _ | exact isR_q _ | exact isR_n) ?_
  refine V_aload_n C dL_law_75 rfl (by first | exact isR_r _ | exact isR_q _ | exact isR_n) ?_
  refine V_aload C dL_law_76 rfl (by first | exact isR_r _ | exact isR_q _ | exact isR_n) ?_
  refine V_aload C dL_law_78 rfl (by first | exact isR_r _ | exact isR_q _ | exact isR_n) ?_
  refine V_aload C dL_law_80 rfl (by first | exact isR_r _ | exact isR_q _ | exact isR_n) ?_
  refine V_iconst C (v := 3) dL_law_82 (by decide) ?_
  refine V_aload_n C dL_law_83 rfl (by first | exact isR_r _ | exact isR_q _ | exact isR_n) ?_
  refine V_iconst C (v := 1) dL_law_84 (by decide) ?_
  refine V_callS12 C (c_at _ hl G _ hs hL 1 (by decide)) ks_L_211 ⟨by decide, by decide⟩ ⟨Nat.le_of_ble_eq_true rfl, Nat.le_of_ble_eq_true rfl⟩ rfl rfl (Nat.le_of_ble_eq_true rfl) dL_law_85 (fun v9 T9 h9 => ?_) (fun _ _ z => z.elim)
  obtain ⟨⟨z2, rfl⟩, rfl⟩ := h9
  dsimp only [Option.toList_some, Option.toList_none, List.cons_append, List.nil_append]
  refine V_callS C (c_makes _ hl G _ q a _ _ hP1 hJ1 (by omega) _ _) ks_L_182 ⟨by decide, by decide⟩ ⟨Nat.le_of_ble_eq_true rfl, Nat.le_of_ble_eq_true rfl⟩ rfl rfl (Nat.le_of_ble_eq_true rfl) dL_law_88 (fun v9 T9 h9 => ?_) (fun _ _ z => z.elim)
  obtain ⟨rfl, γ2, σ2, hP2, hW2⟩ := h9
  dsimp only [Option.toList_some, Option.toList_none, List.cons_append, List.nil_append]
  refine V_if_eq C (tgt := 98) dL_law_91 (by decide) (fun h91 => absurd h91 (by decide)) (fun h91 => ?_)
  refine V_iconst C (v := 1) dL_law_94 (by decide) ?_
  refine V_goto C (tgt := 99) dL_law_95 (by decide) ?_
  refine V_istore C dL_law_99 (by decide) rfl ?_
  simp only [lset1, lset2, List.filter_cons, List.filter_nil, Nat.reduceBEq, Nat.reduceAdd, Bool.not_true, Bool.not_false, Bool.and_true, Bool.and_false, Bool.true_and, Bool.false_and, if_true, if_false, Bool.false_eq_true, reduceIte]
  refine V_iconst C (v := 0) dL_law_101 (by decide) ?_
  refine V_istore C dL_law_102 (by decide) rfl ?_
  simp only [lset1, lset2, List.filter_cons, List.filter_nil, Nat.reduceBEq, Nat.reduceAdd, Bool.not_true, Bool.not_false, Bool.and_true, Bool.and_false, Bool.true_and, Bool.false_and, if_true, if_false, Bool.false_eq_true, reduceIte]
  exact V_widen (Nat.le_of_ble_eq_true rfl) (Nat.le_of_ble_eq_true rfl) (V_sub (by repeat first | exact trivial | refine ⟨rfl, ?_⟩) (law_l1 C hl hL hs kend 3 0 _ rfl (LV_WP hP2 hW2 h0 h27 ⟨e, e1, e2⟩)))
end VLAW
