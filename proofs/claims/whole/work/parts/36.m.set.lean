set_option maxRecDepth 100000
/-! Analysis.set, its pieces -/
section ALs
variable {d : Nat} {h : mh_H} {T N H : Nat} {sN : Int → Prop} {en : Int → Nat} {A : ab} {PQ PS PU PF PL PH lP : Nat} {l : List (Nat × Bool × tr)}
theorem rK_m1 {k : Nat} (hk : k < 2147483648) : (Int32.ofNat k = -1) = False := eq_false (fun z => by
  have := congrArg Int32.toInt z
  rw [nn_int hk] at this
  have e : (-1 : Int32).toInt = -1 := by decide
  omega)
theorem all0 (R : WR h T sN en N A l H PQ PS PU PF PL PH lP) : ∃ lo hi : Int64, otV A (l.map (pgE en A)) sk0 = (lo.toInt, hi.toInt) ∧ (-1000000000000000 ≤ lo.toInt ∧ lo.toInt ≤ 1000000000000000 ∧ -1000000000000000 ≤ hi.toInt ∧ hi.toInt ≤ 1000000000000000) ∧ ∀ Q, mcall (d + 2) 246 [.ref 115, .int (-1), .int (-1)] h Q = Q none (aS h 115 (mh_i h 115 24) lo hi) := by
  have m := R.m
  have LL : (l.map (pgE en A)).length = l.length := List.length_map _
  have z : ∀ i, i < l.length → rK (-1) (-1) i = sk0 i := fun i hi => by
    unfold rK sk0
    exact decide_eq_false (fun z => by rw [rK_m1 (by omega)] at z; exact z.elim (fun q => q) (fun q => q))
  obtain ⟨lo, hi, o, b, e⟩ := u_246 (d := d) R (x := -1) (y := -1) (fun i hi w => by rw [z i hi] at w; cases w)
  exact ⟨lo, hi, otV_eq (OT_sk (fun i hi => z i (by rw [LL] at hi; exact hi)) o), b, e⟩
theorem all1 (R : WR h T sN en N A l H PQ PS PU PF PL PH lP) {i : Nat} (hi : i < l.length) (fi : pqF (l.map (pgE en A)) i = true) : ∃ lo hi : Int64, otV A (l.map (pgE en A)) (sk1 i) = (lo.toInt, hi.toInt) ∧ (-1000000000000000 ≤ lo.toInt ∧ lo.toInt ≤ 1000000000000000 ∧ -1000000000000000 ≤ hi.toInt ∧ hi.toInt ≤ 1000000000000000) ∧ ∀ Q, mcall (d + 2) 246 [.ref 115, .int (Int32.ofNat i), .int (-1)] h Q = Q none (aS h 115 (mh_i h 115 24) lo hi) := by
  have m := R.m
  have LL : (l.map (pgE en A)).length = l.length := List.length_map _
  have z : ∀ k, k < l.length → rK (Int32.ofNat i) (-1) k = sk1 i k := fun k hk => by
    unfold rK sk1
    exact decide_eq_decide.mpr (by rw [rK_m1 (by omega), nn_eq (by omega) (by omega), or_false])
  obtain ⟨lo, hi', o, b, e⟩ := u_246 (d := d) R (x := Int32.ofNat i) (y := -1) (fun k hk w => by
    rw [z k hk] at w
    rw [of_decide_eq_true w]; exact fi)
  exact ⟨lo, hi', otV_eq (OT_sk (fun k hk => z k (by rw [LL] at hk; exact hk)) o), b, e⟩
theorem all2 (R : WR h T sN en N A l H PQ PS PU PF PL PH lP) {i j : Nat} (hi : i < l.length) (hj : j < l.length) (fi : pqF (l.map (pgE en A)) i = true) (fj : pqF (l.map (pgE en A)) j = true) : ∃ lo hi : Int64, otV A (l.map (pgE en A)) (sk2 i j) = (lo.toInt, hi.toInt) ∧ (-1000000000000000 ≤ lo.toInt ∧ lo.toInt ≤ 1000000000000000 ∧ -1000000000000000 ≤ hi.toInt ∧ hi.toInt ≤ 1000000000000000) ∧ ∀ Q, mcall (d + 2) 246 [.ref 115, .int (Int32.ofNat i), .int (Int32.ofNat j)] h Q = Q none (aS h 115 (mh_i h 115 24) lo hi) := by
  have m := R.m
  have LL : (l.map (pgE en A)).length = l.length := List.length_map _
  have z : ∀ k, k < l.length → rK (Int32.ofNat i) (Int32.ofNat j) k = sk2 i j k := fun k hk => by
    unfold rK sk2
    exact decide_eq_decide.mpr (by rw [nn_eq (by omega) (by omega), nn_eq (by omega) (by omega)])
  obtain ⟨lo, hi', o, b, e⟩ := u_246 (d := d) R (x := Int32.ofNat i) (y := Int32.ofNat j) (fun k hk w => by
    rw [z k hk] at w
    rcases of_decide_eq_true w with q | q
    · rw [q]; exact fi
    · rw [q]; exact fj)
  exact ⟨lo, hi', otV_eq (OT_sk (fun k hk => z k (by rw [LL] at hk; exact hk)) o), b, e⟩
theorem WR_slot (R : WR h T sN en N A l H PQ PS PU PF PL PH lP) {i : Nat} (hi : i < l.length) (z : 0 ≤ pqS (l.map (pgE en A)) i) : mh_i h PU i = Int32.ofNat (pqS (l.map (pgE en A)) i).toNat ∧ (pqS (l.map (pgE en A)) i).toNat < 12 := by
  have he : l[i]? = some l[i] := List.getElem?_eq_getElem hi
  have q3 := (R.rows i _ he).2.2
  have n12 := R.T.n12
  obtain ⟨pp, -⟩ := R.e _ (List.getElem_mem hi)
  unfold pqS at z ⊢
  rw [pq_at he] at z ⊢
  rcases slot_at pp.w R.T with ⟨w1, w2⟩ | ⟨s, s1, s2, s3⟩
  · omega
  · rw [q3, s3, s2, Int.toNat_natCast]
    exact ⟨rfl, by omega⟩
theorem WR_sign (R : WR h T sN en N A l H PQ PS PU PF PL PH lP) {i : Nat} (hi : i < l.length) : mh_i h PS i = sgn (pq (l.map (pgE en A)) i).1 := by
  have he : l[i]? = some l[i] := List.getElem?_eq_getElem hi
  obtain ⟨n, cs, r, x', y', ht, hq, -⟩ := WR_at R hi
  rw [hq]
  exact (R.rows i _ he).2.1
/-- Analysis.signed -/
theorem u_245 (R : WR h T sN en N A l H PQ PS PU PF PL PH lP) {i : Nat} (hi : i < l.length) (fi : pqF (l.map (pgE en A)) i = true) : ∀ Q, mcall d 245 [.ref 115, .int (Int32.ofNat i)] h Q = Q (some (.int (Int32.ofNat (pqU (l.map (pgE en A)) i)))) h := by
  have P := R.P
  have a := R.a
  have B : GB h 115 93 PQ PS PU PF PL PH N l.length lP := ⟨a.g, a.r0, a.F.g 93 102 26000 (by decide +kernel), a.F.l 93 102 26000 (by decide +kernel), R.r23, RK_ko R.k, P.r27, P.r28, P.r29, P.r30, P.r31, P.r32, P.g27, P.g28, P.g29, P.g30, P.g31, P.g32, P.l27, P.l28, P.l29, P.l30, P.l31, P.l32, R.c, R.b, by have := P.b; omega⟩
  have w := of_decide_eq_true fi
  obtain ⟨s1, s2⟩ := WR_slot R hi w.1
  intro Q
  have c := c_245 (d := d) (Q := Q) (al := mh_i h 115 24) (lo := mh_j h 115 25) (hi := mh_j h 115 26) B (i := i) hi ⟨_, s1, s2⟩
  rw [aS_id] at c
  have e : g_sd h PS PU i = pqU (l.map (pgE en A)) i := by
    unfold g_sd pqU
    rw [s1, nn_clamp (by omega), WR_sign R hi]
    cases (pq (l.map (pgE en A)) i).1 <;> rfl
  rw [e] at c
  exact c
/-- which part is x itself -/
theorem set_own (R : WR h T sN en N A l H PQ PS PU PF PL PH lP) {x : Nat} {new : Bool} {k : Int32} {to : Nat} {lo hi : Int64} (hx : x < 13) : ∀ Q, mw d 247 Q 48 [some (.ref 115), some (.int k), some (.int (Int32.ofNat x)), some (.int (kb new)), some (.ref to), some (.long lo), none, some (.long hi), none, some (.int (-1)), some (.int (Int32.ofNat 0)), none] [] h = mw d 247 Q 97 [some (.ref 115), some (.int k), some (.int (Int32.ofNat x)), some (.int (kb new)), some (.ref to), some (.long lo), none, some (.long hi), none, some (.int (nSl (if new = true then none else ownI (l.map (pgE en A)) x l.length))), some (.int (Int32.ofNat l.length)), none] [] h := by
  intro Q
  have g := R.a.g
  have m := R.m
  have b := R.b
  have c := R.c
  have r29 := R.P.r29
  have r30 := R.P.r30
  have g29 := R.P.g29
  have g301 := R.P.g30.1
  have g302 := R.P.g30.2
  have l29 := R.P.l29
  have l30 := R.P.l30
  have ei : ∀ k, Int32.ofNat k + 1 = Int32.ofNat (k + 1) := fun k => nn_add (a := k) (b := 1)
  have e10 : ((1 : Int32) = 0) = False := by decide
  have e00 : ((0 : Int32) = 0) = True := by decide
  have k1' : kb true = 1 := rfl
  have k0' : kb false = 0 := rfl
  have L := mw_loop (d := d) (y := 247) (pc := 48) (Q := Q) (st := []) (fun i => [some (.ref 115), some (.int k), some (.int (Int32.ofNat x)), some (.int (kb new)), some (.ref to), some (.long lo), none, some (.long hi), none, some (.int (nSl (if new = true then none else ownI (l.map (pgE en A)) x i))), some (.int (Int32.ofNat i)), none]) (fun _ => h) (a := 0) (b := l.length) (Nat.zero_le _) (fun i _ hi' => by
    have hle : (l.length ≤ i) = False := eq_false (by omega)
    have fv := (R.v i hi').1
    have st : ownI (l.map (pgE en A)) x (i + 1) = if ownB (l.map (pgE en A)) x i = true then some i else ownI (l.map (pgE en A)) x i := rfl
    try dsimp only
    rw [s_247_48, st]
    cases hf : pqF (l.map (pgE en A)) i with
    | false =>
      have ob : ownB (l.map (pgE en A)) x i = false := by unfold ownB; rw [hf]; rfl
      rw [hf, k0'] at fv
      rw [ob, if_neg (show ¬ (false : Bool) = true by decide)]
      simp (disch := omega) only [s_247_0, s_247_1, s_247_2, s_247_5, s_247_8, s_247_10, s_247_11, s_247_14, s_247_15, s_247_16, s_247_19, s_247_21, s_247_22, s_247_25, s_247_27, s_247_28, s_247_29, s_247_32, s_247_33, s_247_34, s_247_35, s_247_38, s_247_39, s_247_42, s_247_43, s_247_45, s_247_46, s_247_50, s_247_51, s_247_54, s_247_57, s_247_58, s_247_61, s_247_63, s_247_64, s_247_67, s_247_68, s_247_71, s_247_73, s_247_74, s_247_75, s_247_78, s_247_79, s_247_82, s_247_84, s_247_87, s_247_89, s_247_91, s_247_94, s_247_97, s_247_98, s_247_101, s_247_103, s_247_106, s_247_109, s_247_111, s_247_114, s_247_115, s_247_117, s_247_118, s_247_121, s_247_122, s_247_125, s_247_127, s_247_128, s_247_131, s_247_133, s_247_134, s_247_137, s_247_139, s_247_140, s_247_141, s_247_144, s_247_145, s_247_148, s_247_151, s_247_154, s_247_156, s_247_157, s_247_160, s_247_161, s_247_163, s_247_165, s_247_166, s_247_169, s_247_172, s_247_173, s_247_176, s_247_178, s_247_179, s_247_182, s_247_184, s_247_186, s_247_189, s_247_190, s_247_192, s_247_193, s_247_196, s_247_197, s_247_199, s_247_202, s_247_203, s_247_204, s_247_206, s_247_208, s_247_209, s_247_210, s_247_211, s_247_213, s_247_214, s_247_217, s_247_220, s_247_222, s_247_223, s_247_224, s_247_225, s_247_226, s_247_227, s_247_229, s_247_230, s_247_231, s_247_232, s_247_235, s_247_236, s_247_239, s_247_242, s_247_245, s_247_247, s_247_248, s_247_249, s_247_250, s_247_251, s_247_252, s_247_253, s_247_255, s_247_258, s_247_260, s_247_261, s_247_262, s_247_263, s_247_264, s_247_265, s_247_266, s_247_267, s_247_268, s_247_269, s_247_270, s_247_272, s_247_273, s_247_276, s_247_278, s_247_281, e_247, mv_i_1, mv_l_1, mv_a_1, mv_a_2, mv_a_3, mk2_n, mk2_i, mk2_l, mk2_a, mk2_u, mk2_x, mB_T, mB_F, mS_cons, mS_nil, mSB_T, mSB_F, mca_nil, mca_i, mca_l, mca_r, mca_u, mca_x, mcat_i, mcat_l, mcat_r, mcat_u, mcat_x, mK_some, mK_none, va_rf_s, va_rf_n, lgc_eq, lgc_lt, lgc_gt, lgc_ge, lgc_le, mrd_104, mrd_105, mrd_106, mrd_107, true_and, and_true, and_self, false_and, and_false, true_or, or_true, false_or, or_false, not_true_eq_false, not_false_eq_true, mgb, mga, mgr, mN, reduceCtorEq, ↓reduceIte, eq_self, ge_iff_le, gt_iff_lt, Nat.reduceAdd, Nat.reduceMul, Nat.reduceSub, Nat.reduceLT, Nat.reduceGT, Nat.reduceEqDiff, Nat.reduceLeDiff, Nat.left_eq_add, Nat.add_eq_left, Nat.reduceMod, Nat.reduceDiv, Nat.succ_ne_self, g, c, r30, g301, g302, l30, fv, nn_le, nn_mxT, nn_clamp, hle, e00, ei]
    | true =>
      rw [hf, k1'] at fv
      have w := of_decide_eq_true hf
      obtain ⟨s1, s2⟩ := WR_slot R hi' w.1
      by_cases cx : (pqS (l.map (pgE en A)) i).toNat = x
      · have ob : ownB (l.map (pgE en A)) x i = true := by unfold ownB; rw [hf, decide_eq_true (by omega)]; rfl
        have sx : (Int32.ofNat (pqS (l.map (pgE en A)) i).toNat = Int32.ofNat x) = True := eq_true (by rw [cx])
        rw [ob, if_pos rfl]
        cases new with
        | true =>
          rw [if_pos rfl, if_pos rfl, k1']
          simp (disch := omega) only [s_247_0, s_247_1, s_247_2, s_247_5, s_247_8, s_247_10, s_247_11, s_247_14, s_247_15, s_247_16, s_247_19, s_247_21, s_247_22, s_247_25, s_247_27, s_247_28, s_247_29, s_247_32, s_247_33, s_247_34, s_247_35, s_247_38, s_247_39, s_247_42, s_247_43, s_247_45, s_247_46, s_247_50, s_247_51, s_247_54, s_247_57, s_247_58, s_247_61, s_247_63, s_247_64, s_247_67, s_247_68, s_247_71, s_247_73, s_247_74, s_247_75, s_247_78, s_247_79, s_247_82, s_247_84, s_247_87, s_247_89, s_247_91, s_247_94, s_247_97, s_247_98, s_247_101, s_247_103, s_247_106, s_247_109, s_247_111, s_247_114, s_247_115, s_247_117, s_247_118, s_247_121, s_247_122, s_247_125, s_247_127, s_247_128, s_247_131, s_247_133, s_247_134, s_247_137, s_247_139, s_247_140, s_247_141, s_247_144, s_247_145, s_247_148, s_247_151, s_247_154, s_247_156, s_247_157, s_247_160, s_247_161, s_247_163, s_247_165, s_247_166, s_247_169, s_247_172, s_247_173, s_247_176, s_247_178, s_247_179, s_247_182, s_247_184, s_247_186, s_247_189, s_247_190, s_247_192, s_247_193, s_247_196, s_247_197, s_247_199, s_247_202, s_247_203, s_247_204, s_247_206, s_247_208, s_247_209, s_247_210, s_247_211, s_247_213, s_247_214, s_247_217, s_247_220, s_247_222, s_247_223, s_247_224, s_247_225, s_247_226, s_247_227, s_247_229, s_247_230, s_247_231, s_247_232, s_247_235, s_247_236, s_247_239, s_247_242, s_247_245, s_247_247, s_247_248, s_247_249, s_247_250, s_247_251, s_247_252, s_247_253, s_247_255, s_247_258, s_247_260, s_247_261, s_247_262, s_247_263, s_247_264, s_247_265, s_247_266, s_247_267, s_247_268, s_247_269, s_247_270, s_247_272, s_247_273, s_247_276, s_247_278, s_247_281, e_247, mv_i_1, mv_l_1, mv_a_1, mv_a_2, mv_a_3, mk2_n, mk2_i, mk2_l, mk2_a, mk2_u, mk2_x, mB_T, mB_F, mS_cons, mS_nil, mSB_T, mSB_F, mca_nil, mca_i, mca_l, mca_r, mca_u, mca_x, mcat_i, mcat_l, mcat_r, mcat_u, mcat_x, mK_some, mK_none, va_rf_s, va_rf_n, lgc_eq, lgc_lt, lgc_gt, lgc_ge, lgc_le, mrd_104, mrd_105, mrd_106, mrd_107, true_and, and_true, and_self, false_and, and_false, true_or, or_true, false_or, or_false, not_true_eq_false, not_false_eq_true, mgb, mga, mgr, mN, reduceCtorEq, ↓reduceIte, eq_self, ge_iff_le, gt_iff_lt, Nat.reduceAdd, Nat.reduceMul, Nat.reduceSub, Nat.reduceLT, Nat.reduceGT, Nat.reduceEqDiff, Nat.reduceLeDiff, Nat.left_eq_add, Nat.add_eq_left, Nat.reduceMod, Nat.reduceDiv, Nat.succ_ne_self, g, c, r29, r30, g29, l29, g301, g302, l30, fv, s1, sx, nn_le, nn_mxT, nn_clamp, hle, e10, ei]
        | false =>
          rw [if_neg (show ¬ (false : Bool) = true by decide), if_neg (show ¬ (false : Bool) = true by decide), k0']
          simp (disch := omega) only [s_247_0, s_247_1, s_247_2, s_247_5, s_247_8, s_247_10, s_247_11, s_247_14, s_247_15, s_247_16, s_247_19, s_247_21, s_247_22, s_247_25, s_247_27, s_247_28, s_247_29, s_247_32, s_247_33, s_247_34, s_247_35, s_247_38, s_247_39, s_247_42, s_247_43, s_247_45, s_247_46, s_247_50, s_247_51, s_247_54, s_247_57, s_247_58, s_247_61, s_247_63, s_247_64, s_247_67, s_247_68, s_247_71, s_247_73, s_247_74, s_247_75, s_247_78, s_247_79, s_247_82, s_247_84, s_247_87, s_247_89, s_247_91, s_247_94, s_247_97, s_247_98, s_247_101, s_247_103, s_247_106, s_247_109, s_247_111, s_247_114, s_247_115, s_247_117, s_247_118, s_247_121, s_247_122, s_247_125, s_247_127, s_247_128, s_247_131, s_247_133, s_247_134, s_247_137, s_247_139, s_247_140, s_247_141, s_247_144, s_247_145, s_247_148, s_247_151, s_247_154, s_247_156, s_247_157, s_247_160, s_247_161, s_247_163, s_247_165, s_247_166, s_247_169, s_247_172, s_247_173, s_247_176, s_247_178, s_247_179, s_247_182, s_247_184, s_247_186, s_247_189, s_247_190, s_247_192, s_247_193, s_247_196, s_247_197, s_247_199, s_247_202, s_247_203, s_247_204, s_247_206, s_247_208, s_247_209, s_247_210, s_247_211, s_247_213, s_247_214, s_247_217, s_247_220, s_247_222, s_247_223, s_247_224, s_247_225, s_247_226, s_247_227, s_247_229, s_247_230, s_247_231, s_247_232, s_247_235, s_247_236, s_247_239, s_247_242, s_247_245, s_247_247, s_247_248, s_247_249, s_247_250, s_247_251, s_247_252, s_247_253, s_247_255, s_247_258, s_247_260, s_247_261, s_247_262, s_247_263, s_247_264, s_247_265, s_247_266, s_247_267, s_247_268, s_247_269, s_247_270, s_247_272, s_247_273, s_247_276, s_247_278, s_247_281, e_247, mv_i_1, mv_l_1, mv_a_1, mv_a_2, mv_a_3, mk2_n, mk2_i, mk2_l, mk2_a, mk2_u, mk2_x, mB_T, mB_F, mS_cons, mS_nil, mSB_T, mSB_F, mca_nil, mca_i, mca_l, mca_r, mca_u, mca_x, mcat_i, mcat_l, mcat_r, mcat_u, mcat_x, mK_some, mK_none, va_rf_s, va_rf_n, lgc_eq, lgc_lt, lgc_gt, lgc_ge, lgc_le, mrd_104, mrd_105, mrd_106, mrd_107, true_and, and_true, and_self, false_and, and_false, true_or, or_true, false_or, or_false, not_true_eq_false, not_false_eq_true, mgb, mga, mgr, mN, reduceCtorEq, ↓reduceIte, eq_self, ge_iff_le, gt_iff_lt, Nat.reduceAdd, Nat.reduceMul, Nat.reduceSub, Nat.reduceLT, Nat.reduceGT, Nat.reduceEqDiff, Nat.reduceLeDiff, Nat.left_eq_add, Nat.add_eq_left, Nat.reduceMod, Nat.reduceDiv, Nat.succ_ne_self, g, c, r29, r30, g29, l29, g301, g302, l30, fv, s1, sx, nn_le, nn_mxT, nn_clamp, hle, e10, e00, ei]
          rfl
      · have ob : ownB (l.map (pgE en A)) x i = false := by unfold ownB; rw [hf, decide_eq_false (by omega)]; rfl
        have sx : (Int32.ofNat (pqS (l.map (pgE en A)) i).toNat = Int32.ofNat x) = False := by rw [nn_eq (by omega) (by omega)]; exact eq_false cx
        rw [ob, if_neg (show ¬ (false : Bool) = true by decide)]
        simp (disch := omega) only [s_247_0, s_247_1, s_247_2, s_247_5, s_247_8, s_247_10, s_247_11, s_247_14, s_247_15, s_247_16, s_247_19, s_247_21, s_247_22, s_247_25, s_247_27, s_247_28, s_247_29, s_247_32, s_247_33, s_247_34, s_247_35, s_247_38, s_247_39, s_247_42, s_247_43, s_247_45, s_247_46, s_247_50, s_247_51, s_247_54, s_247_57, s_247_58, s_247_61, s_247_63, s_247_64, s_247_67, s_247_68, s_247_71, s_247_73, s_247_74, s_247_75, s_247_78, s_247_79, s_247_82, s_247_84, s_247_87, s_247_89, s_247_91, s_247_94, s_247_97, s_247_98, s_247_101, s_247_103, s_247_106, s_247_109, s_247_111, s_247_114, s_247_115, s_247_117, s_247_118, s_247_121, s_247_122, s_247_125, s_247_127, s_247_128, s_247_131, s_247_133, s_247_134, s_247_137, s_247_139, s_247_140, s_247_141, s_247_144, s_247_145, s_247_148, s_247_151, s_247_154, s_247_156, s_247_157, s_247_160, s_247_161, s_247_163, s_247_165, s_247_166, s_247_169, s_247_172, s_247_173, s_247_176, s_247_178, s_247_179, s_247_182, s_247_184, s_247_186, s_247_189, s_247_190, s_247_192, s_247_193, s_247_196, s_247_197, s_247_199, s_247_202, s_247_203, s_247_204, s_247_206, s_247_208, s_247_209, s_247_210, s_247_211, s_247_213, s_247_214, s_247_217, s_247_220, s_247_222, s_247_223, s_247_224, s_247_225, s_247_226, s_247_227, s_247_229, s_247_230, s_247_231, s_247_232, s_247_235, s_247_236, s_247_239, s_247_242, s_247_245, s_247_247, s_247_248, s_247_249, s_247_250, s_247_251, s_247_252, s_247_253, s_247_255, s_247_258, s_247_260, s_247_261, s_247_262, s_247_263, s_247_264, s_247_265, s_247_266, s_247_267, s_247_268, s_247_269, s_247_270, s_247_272, s_247_273, s_247_276, s_247_278, s_247_281, e_247, mv_i_1, mv_l_1, mv_a_1, mv_a_2, mv_a_3, mk2_n, mk2_i, mk2_l, mk2_a, mk2_u, mk2_x, mB_T, mB_F, mS_cons, mS_nil, mSB_T, mSB_F, mca_nil, mca_i, mca_l, mca_r, mca_u, mca_x, mcat_i, mcat_l, mcat_r, mcat_u, mcat_x, mK_some, mK_none, va_rf_s, va_rf_n, lgc_eq, lgc_lt, lgc_gt, lgc_ge, lgc_le, mrd_104, mrd_105, mrd_106, mrd_107, true_and, and_true, and_self, false_and, and_false, true_or, or_true, false_or, or_false, not_true_eq_false, not_false_eq_true, mgb, mga, mgr, mN, reduceCtorEq, ↓reduceIte, eq_self, ge_iff_le, gt_iff_lt, Nat.reduceAdd, Nat.reduceMul, Nat.reduceSub, Nat.reduceLT, Nat.reduceGT, Nat.reduceEqDiff, Nat.reduceLeDiff, Nat.left_eq_add, Nat.add_eq_left, Nat.reduceMod, Nat.reduceDiv, Nat.succ_ne_self, g, c, r29, r30, g29, l29, g301, g302, l30, fv, s1, sx, nn_le, nn_mxT, nn_clamp, hle, e10, ei])
  have i0 : nSl (if new = true then none else ownI (l.map (pgE en A)) x 0) = -1 := by cases new <;> rfl
  try dsimp only at L
  rw [i0] at L
  refine L.trans ?_
  have hle : (l.length ≤ l.length) = True := eq_true (Nat.le_refl _)
  rw [s_247_48]
  simp (disch := omega) only [s_247_0, s_247_1, s_247_2, s_247_5, s_247_8, s_247_10, s_247_11, s_247_14, s_247_15, s_247_16, s_247_19, s_247_21, s_247_22, s_247_25, s_247_27, s_247_28, s_247_29, s_247_32, s_247_33, s_247_34, s_247_35, s_247_38, s_247_39, s_247_42, s_247_43, s_247_45, s_247_46, s_247_50, s_247_51, s_247_54, s_247_57, s_247_58, s_247_61, s_247_63, s_247_64, s_247_67, s_247_68, s_247_71, s_247_73, s_247_74, s_247_75, s_247_78, s_247_79, s_247_82, s_247_84, s_247_87, s_247_89, s_247_91, s_247_94, s_247_97, s_247_98, s_247_101, s_247_103, s_247_106, s_247_109, s_247_111, s_247_114, s_247_115, s_247_117, s_247_118, s_247_121, s_247_122, s_247_125, s_247_127, s_247_128, s_247_131, s_247_133, s_247_134, s_247_137, s_247_139, s_247_140, s_247_141, s_247_144, s_247_145, s_247_148, s_247_151, s_247_154, s_247_156, s_247_157, s_247_160, s_247_161, s_247_163, s_247_165, s_247_166, s_247_169, s_247_172, s_247_173, s_247_176, s_247_178, s_247_179, s_247_182, s_247_184, s_247_186, s_247_189, s_247_190, s_247_192, s_247_193, s_247_196, s_247_197, s_247_199, s_247_202, s_247_203, s_247_204, s_247_206, s_247_208, s_247_209, s_247_210, s_247_211, s_247_213, s_247_214, s_247_217, s_247_220, s_247_222, s_247_223, s_247_224, s_247_225, s_247_226, s_247_227, s_247_229, s_247_230, s_247_231, s_247_232, s_247_235, s_247_236, s_247_239, s_247_242, s_247_245, s_247_247, s_247_248, s_247_249, s_247_250, s_247_251, s_247_252, s_247_253, s_247_255, s_247_258, s_247_260, s_247_261, s_247_262, s_247_263, s_247_264, s_247_265, s_247_266, s_247_267, s_247_268, s_247_269, s_247_270, s_247_272, s_247_273, s_247_276, s_247_278, s_247_281, e_247, mv_i_1, mv_l_1, mv_a_1, mv_a_2, mv_a_3, mk2_n, mk2_i, mk2_l, mk2_a, mk2_u, mk2_x, mB_T, mB_F, mS_cons, mS_nil, mSB_T, mSB_F, mca_nil, mca_i, mca_l, mca_r, mca_u, mca_x, mcat_i, mcat_l, mcat_r, mcat_u, mcat_x, mK_some, mK_none, va_rf_s, va_rf_n, lgc_eq, lgc_lt, lgc_gt, lgc_ge, lgc_le, mrd_104, mrd_105, mrd_106, mrd_107, true_and, and_true, and_self, false_and, and_false, true_or, or_true, false_or, or_false, not_true_eq_false, not_false_eq_true, mgb, mga, mgr, mN, reduceCtorEq, ↓reduceIte, eq_self, ge_iff_le, gt_iff_lt, Nat.reduceAdd, Nat.reduceMul, Nat.reduceSub, Nat.reduceLT, Nat.reduceGT, Nat.reduceEqDiff, Nat.reduceLeDiff, Nat.left_eq_add, Nat.add_eq_left, Nat.reduceMod, Nat.reduceDiv, Nat.succ_ne_self, g, c, nn_le, hle]
end ALs
