set_option maxRecDepth 100000
/-! Analysis.set, the machine -/
def xtra (ps : List pa) (x : Nat) (new : Bool) : List lm := if new = true then [] else match ownI ps x ps.length with
  | some _ => [(2 * x, 2 * x, 2147483647), (2 * x + 1, 2 * x + 1, 2147483648)]
  | none => []
theorem oc_b0 (x : Nat) : oc_b (2 * x) = 2 * x + 1 := by unfold oc_b; rw [if_pos (by omega)]
theorem oc_b1 (x : Nat) : oc_b (2 * x + 1) = 2 * x := by unfold oc_b; rw [if_neg (by omega)]; omega
theorem xtra_m {ps : List pa} {x : Nat} {new : Bool} {c : lm} (h : c ∈ xtra ps x new) : c = (2 * x, 2 * x, 2147483647) ∨ c = (2 * x + 1, 2 * x + 1, 2147483648) := by
  unfold xtra at h
  split at h
  · exact absurd h List.not_mem_nil
  · split at h
    · rcases List.mem_cons.mp h with e | e
      · exact Or.inl e
      · exact Or.inr (List.mem_singleton.mp e)
    · exact absurd h List.not_mem_nil
section STm
variable {d : Nat} {h X : mh_H} {T N H to : Nat} {sN : Int → Prop} {en : Int → Nat} {A B : ab} {PQ PS PU PF PL PH lP : Nat} {l : List (Nat × Bool × tr)} {x : Nat} {new : Bool} {lo hi : Int}
theorem SO.xn (S : SO A B (l.map (pgE en A)) x new lo hi) : x < (a_base A B (l.map (pgE en A)) x new).n := by
  obtain ⟨bn, -⟩ := S.base
  rw [bn]
  cases new with
  | true => have := S.x1 rfl; rw [if_pos rfl]; omega
  | false => have := S.x0 rfl; rw [if_neg (by decide)]; omega
theorem SO.x12 (S : SO A B (l.map (pgE en A)) x new lo hi) : x < 12 := by
  have := S.B.n12
  cases new with
  | true => have := S.x1 rfl; omega
  | false => have := S.x0 rfl; omega
/-- x is laid on what was known -/
theorem set_mb (J : RJ X T sN en) (R : WR X T sN en N A l H PQ PS PU PF PL PH lP) (S : SO A B (l.map (pgE en A)) x new lo hi) (s : sp X to) (kt : RK X to (some B)) {k : Int32} {a5 a7 : Int64} {i10 : Int32} : ∃ X1, fR (tW to) X X1 ∧ RK X1 to (some (a_lims (xtra (l.map (pgE en A)) x new) (a_base A B (l.map (pgE en A)) x new))) ∧ ∀ Q, mw (d + 4) 247 Q 97 [some (.ref 115), some (.int k), some (.int (Int32.ofNat x)), some (.int (kb new)), some (.ref to), some (.long a5), none, some (.long a7), none, some (.int (nSl (if new = true then none else ownI (l.map (pgE en A)) x l.length))), some (.int i10), none] [] X = mw (d + 4) 247 Q 160 [some (.ref 115), some (.int k), some (.int (Int32.ofNat x)), some (.int (kb new)), some (.ref to), some (.long a5), none, some (.long a7), none, some (.int (nSl (if new = true then none else ownI (l.map (pgE en A)) x l.length))), some (.int i10), none] [] X1 := by
  have LL : (l.map (pgE en A)).length = l.length := List.length_map _
  have x12 := S.x12
  have gt : mg X to 13 := (RK_ko kt).1
  have g := J.a.g
  have e10 : ((1 : Int32) = 0) = False := by decide
  have e00 : ((0 : Int32) = 0) = True := by decide
  have k1' : kb true = 1 := rfl
  have k0' : kb false = 0 := rfl
  cases new with
  | true =>
    obtain ⟨x1, x2⟩ := S.x1 rfl
    obtain ⟨X1, f, r, e⟩ := k_288 (d := d) kt S.B x2
    refine ⟨X1, tW_k f, r, fun Q => ?_⟩
    rw [if_pos rfl, k1']
    simp (disch := omega) only [s_247_0, s_247_1, s_247_2, s_247_5, s_247_8, s_247_10, s_247_11, s_247_14, s_247_15, s_247_16, s_247_19, s_247_21, s_247_22, s_247_25, s_247_27, s_247_28, s_247_29, s_247_32, s_247_33, s_247_34, s_247_35, s_247_38, s_247_39, s_247_42, s_247_43, s_247_45, s_247_46, s_247_48, s_247_50, s_247_51, s_247_54, s_247_57, s_247_58, s_247_61, s_247_63, s_247_64, s_247_67, s_247_68, s_247_71, s_247_73, s_247_74, s_247_75, s_247_78, s_247_79, s_247_82, s_247_84, s_247_87, s_247_89, s_247_91, s_247_94, s_247_97, s_247_98, s_247_101, s_247_103, s_247_106, s_247_109, s_247_111, s_247_114, s_247_115, s_247_117, s_247_118, s_247_121, s_247_122, s_247_125, s_247_127, s_247_128, s_247_131, s_247_133, s_247_134, s_247_137, s_247_139, s_247_140, s_247_141, s_247_144, s_247_145, s_247_148, s_247_151, s_247_154, s_247_156, s_247_157, s_247_161, s_247_163, s_247_165, s_247_166, s_247_169, s_247_172, s_247_173, s_247_176, s_247_178, s_247_179, s_247_182, s_247_184, s_247_186, s_247_189, s_247_190, s_247_192, s_247_193, s_247_196, s_247_197, s_247_199, s_247_202, s_247_203, s_247_204, s_247_206, s_247_208, s_247_209, s_247_210, s_247_211, s_247_213, s_247_214, s_247_217, s_247_220, s_247_222, s_247_223, s_247_224, s_247_225, s_247_226, s_247_227, s_247_229, s_247_230, s_247_231, s_247_232, s_247_235, s_247_236, s_247_239, s_247_242, s_247_245, s_247_247, s_247_248, s_247_249, s_247_250, s_247_251, s_247_252, s_247_253, s_247_255, s_247_258, s_247_260, s_247_261, s_247_262, s_247_263, s_247_264, s_247_265, s_247_266, s_247_267, s_247_268, s_247_269, s_247_270, s_247_272, s_247_273, s_247_276, s_247_278, s_247_281, e_247, mv_i_1, mv_l_1, mv_a_1, mv_a_2, mv_a_3, mk2_n, mk2_i, mk2_l, mk2_a, mk2_u, mk2_x, mB_T, mB_F, mS_cons, mS_nil, mSB_T, mSB_F, mca_nil, mca_i, mca_l, mca_r, mca_u, mca_x, mcat_i, mcat_l, mcat_r, mcat_u, mcat_x, mK_some, mK_none, va_rf_s, va_rf_n, lgc_eq, lgc_lt, lgc_gt, lgc_ge, lgc_le, mrd_104, mrd_105, mrd_106, mrd_107, true_and, and_true, and_self, false_and, and_false, true_or, or_true, false_or, or_false, not_true_eq_false, not_false_eq_true, mgb, mga, mgr, mN, reduceCtorEq, ↓reduceIte, eq_self, ge_iff_le, gt_iff_lt, Nat.reduceAdd, Nat.reduceMul, Nat.reduceSub, Nat.reduceLT, Nat.reduceGT, Nat.reduceEqDiff, Nat.reduceLeDiff, Nat.left_eq_add, Nat.add_eq_left, Nat.reduceMod, Nat.reduceDiv, Nat.succ_ne_self, gt, e, e10]
  | false =>
    have x0 := S.x0 rfl
    have e1 : (if (false : Bool) = true then none else ownI (l.map (pgE en A)) x l.length) = ownI (l.map (pgE en A)) x l.length := rfl
    rw [e1, k0']
    have xe : xtra (l.map (pgE en A)) x false = match ownI (l.map (pgE en A)) x l.length with
      | some _ => [(2 * x, 2 * x, 2147483647), (2 * x + 1, 2 * x + 1, 2147483648)]
      | none => [] := by
      unfold xtra
      rw [if_neg (by decide), LL]
    have be : a_base A B (l.map (pgE en A)) x false = match ownI (l.map (pgE en A)) x l.length with
      | some i => a_shift x (otV A (l.map (pgE en A)) (sk1 i)).1 (otV A (l.map (pgE en A)) (sk1 i)).2 (if (pq (l.map (pgE en A)) i).1 = true then a_turn x B else B)
      | none => a_free x B := by
      unfold a_base
      rw [if_neg (by decide), LL]
      cases ownI (l.map (pgE en A)) x l.length <;> rfl
    rw [xe, be]
    cases ho : ownI (l.map (pgE en A)) x l.length with
    | none =>
      obtain ⟨X1, f, r, e⟩ := k_287 (d := d + 1) kt S.B x0
      refine ⟨X1, tW_k f, r, fun Q => ?_⟩
      have n1 : nSl none = -1 := rfl
      rw [n1]
      simp (disch := omega) only [s_247_0, s_247_1, s_247_2, s_247_5, s_247_8, s_247_10, s_247_11, s_247_14, s_247_15, s_247_16, s_247_19, s_247_21, s_247_22, s_247_25, s_247_27, s_247_28, s_247_29, s_247_32, s_247_33, s_247_34, s_247_35, s_247_38, s_247_39, s_247_42, s_247_43, s_247_45, s_247_46, s_247_48, s_247_50, s_247_51, s_247_54, s_247_57, s_247_58, s_247_61, s_247_63, s_247_64, s_247_67, s_247_68, s_247_71, s_247_73, s_247_74, s_247_75, s_247_78, s_247_79, s_247_82, s_247_84, s_247_87, s_247_89, s_247_91, s_247_94, s_247_97, s_247_98, s_247_101, s_247_103, s_247_106, s_247_109, s_247_111, s_247_114, s_247_115, s_247_117, s_247_118, s_247_121, s_247_122, s_247_125, s_247_127, s_247_128, s_247_131, s_247_133, s_247_134, s_247_137, s_247_139, s_247_140, s_247_141, s_247_144, s_247_145, s_247_148, s_247_151, s_247_154, s_247_156, s_247_157, s_247_161, s_247_163, s_247_165, s_247_166, s_247_169, s_247_172, s_247_173, s_247_176, s_247_178, s_247_179, s_247_182, s_247_184, s_247_186, s_247_189, s_247_190, s_247_192, s_247_193, s_247_196, s_247_197, s_247_199, s_247_202, s_247_203, s_247_204, s_247_206, s_247_208, s_247_209, s_247_210, s_247_211, s_247_213, s_247_214, s_247_217, s_247_220, s_247_222, s_247_223, s_247_224, s_247_225, s_247_226, s_247_227, s_247_229, s_247_230, s_247_231, s_247_232, s_247_235, s_247_236, s_247_239, s_247_242, s_247_245, s_247_247, s_247_248, s_247_249, s_247_250, s_247_251, s_247_252, s_247_253, s_247_255, s_247_258, s_247_260, s_247_261, s_247_262, s_247_263, s_247_264, s_247_265, s_247_266, s_247_267, s_247_268, s_247_269, s_247_270, s_247_272, s_247_273, s_247_276, s_247_278, s_247_281, e_247, mv_i_1, mv_l_1, mv_a_1, mv_a_2, mv_a_3, mk2_n, mk2_i, mk2_l, mk2_a, mk2_u, mk2_x, mB_T, mB_F, mS_cons, mS_nil, mSB_T, mSB_F, mca_nil, mca_i, mca_l, mca_r, mca_u, mca_x, mcat_i, mcat_l, mcat_r, mcat_u, mcat_x, mK_some, mK_none, va_rf_s, va_rf_n, lgc_eq, lgc_lt, lgc_gt, lgc_ge, lgc_le, mrd_104, mrd_105, mrd_106, mrd_107, true_and, and_true, and_self, false_and, and_false, true_or, or_true, false_or, or_false, not_true_eq_false, not_false_eq_true, mgb, mga, mgr, mN, reduceCtorEq, ↓reduceIte, eq_self, ge_iff_le, gt_iff_lt, Nat.reduceAdd, Nat.reduceMul, Nat.reduceSub, Nat.reduceLT, Nat.reduceGT, Nat.reduceEqDiff, Nat.reduceLeDiff, Nat.left_eq_add, Nat.add_eq_left, Nat.reduceMod, Nat.reduceDiv, Nat.succ_ne_self, gt, e, e00, show ((-1 : Int32) < 0) = True by decide]
    | some i =>
      obtain ⟨i1, i2⟩ := ownI_s _ ho
      have fi : pqF (l.map (pgE en A)) i = true := (Bool.and_eq_true _ _ ▸ i2 : _ ∧ _).1
      have ib := R.m
      obtain ⟨b1, b2, b3, b4, b5⟩ := S.ot (by rw [LL]; exact i1) fi
      obtain ⟨lo', hi', o, bd, eo⟩ := all1 (d := d + 1) R i1 fi
      dsimp only
      rw [o] at b1 b2 b3 b4 b5 ⊢
      dsimp only at b1 b2 b3 b4 b5 ⊢
      have kA : RK (aS X 115 (mh_i X 115 24) lo' hi') to (some B) := RK_aS g kt
      have tn := turn_T (x := x) (b := (pq (l.map (pgE en A)) i).1) S.B x0
      have nS : ¬ PS = 115 := by have := R.P.n PS (by simp); omega
      have sg := WR_sign R i1
      have ns : nSl (some i) = Int32.ofNat i := rfl
      have nn : (Int32.ofNat i < 0) = False := nn_neg (by omega)
      have to2 : 2644 ≤ to := by
        obtain ⟨j, hj⟩ := s
        exact (J.s j to hj).1
      have r28 := R.P.r28
      have g28 := R.P.g28
      have l28 := R.P.l28
      have iP : i < lP := by have := R.b; omega
      have lb := R.P.b
      rw [ns]
      cases htu : (pq (l.map (pgE en A)) i).1 with
      | true =>
        rw [htu] at sg tn
        rw [if_pos rfl] at tn ⊢
        obtain ⟨Xb, fb, rb, eb⟩ := k_291 (d := d + 2) kA x0
        have gb : mg Xb 115 12 := (fq_mg fb).mpr g
        have gtb : mg Xb to 13 := (RK_ko rb).1
        have nk : ¬ kW to 115 := by unfold kW; omega
        have j25 : mh_j Xb 115 25 = lo' := by rw [(fb.2.2.2.2.2 115 nk).2, aS_j, if_neg (by omega), if_pos ⟨rfl, rfl⟩]
        have j26 : mh_j Xb 115 26 = hi' := by rw [(fb.2.2.2.2.2 115 nk).2, aS_j, if_pos ⟨rfl, rfl⟩]
        obtain ⟨Xc, fc, rc, ec⟩ := k_292 (d := d + 2) (x := x) (l := lo') (u := hi') rb (tn.1.1) x0 (by omega) (by omega) (fun i' j' hi' hj' => turn_b (x := x) (b := true) S.B hi' hj') (a_shift_T tn.1 b3).1
        refine ⟨Xc, tW_t (tW_aS (lo := lo') (hi := hi')) (tW_t (tW_k fb) (tW_k fc)), rc, fun Q => ?_⟩
        have sg1 : sgn true = -1 := rfl
        rw [sg1] at sg
        clear tn b1 b2 b3 b4 b5 bd rb rc kA S kt R J
        simp (disch := omega) only [s_247_0, s_247_1, s_247_2, s_247_5, s_247_8, s_247_10, s_247_11, s_247_14, s_247_15, s_247_16, s_247_19, s_247_21, s_247_22, s_247_25, s_247_27, s_247_28, s_247_29, s_247_32, s_247_33, s_247_34, s_247_35, s_247_38, s_247_39, s_247_42, s_247_43, s_247_45, s_247_46, s_247_48, s_247_50, s_247_51, s_247_54, s_247_57, s_247_58, s_247_61, s_247_63, s_247_64, s_247_67, s_247_68, s_247_71, s_247_73, s_247_74, s_247_75, s_247_78, s_247_79, s_247_82, s_247_84, s_247_87, s_247_89, s_247_91, s_247_94, s_247_97, s_247_98, s_247_101, s_247_103, s_247_106, s_247_109, s_247_111, s_247_114, s_247_115, s_247_117, s_247_118, s_247_121, s_247_122, s_247_125, s_247_127, s_247_128, s_247_131, s_247_133, s_247_134, s_247_137, s_247_139, s_247_140, s_247_141, s_247_144, s_247_145, s_247_148, s_247_151, s_247_154, s_247_156, s_247_157, s_247_161, s_247_163, s_247_165, s_247_166, s_247_169, s_247_172, s_247_173, s_247_176, s_247_178, s_247_179, s_247_182, s_247_184, s_247_186, s_247_189, s_247_190, s_247_192, s_247_193, s_247_196, s_247_197, s_247_199, s_247_202, s_247_203, s_247_204, s_247_206, s_247_208, s_247_209, s_247_210, s_247_211, s_247_213, s_247_214, s_247_217, s_247_220, s_247_222, s_247_223, s_247_224, s_247_225, s_247_226, s_247_227, s_247_229, s_247_230, s_247_231, s_247_232, s_247_235, s_247_236, s_247_239, s_247_242, s_247_245, s_247_247, s_247_248, s_247_249, s_247_250, s_247_251, s_247_252, s_247_253, s_247_255, s_247_258, s_247_260, s_247_261, s_247_262, s_247_263, s_247_264, s_247_265, s_247_266, s_247_267, s_247_268, s_247_269, s_247_270, s_247_272, s_247_273, s_247_276, s_247_278, s_247_281, e_247, mv_i_1, mv_l_1, mv_a_1, mv_a_2, mv_a_3, mk2_n, mk2_i, mk2_l, mk2_a, mk2_u, mk2_x, mB_T, mB_F, mS_cons, mS_nil, mSB_T, mSB_F, mca_nil, mca_i, mca_l, mca_r, mca_u, mca_x, mcat_i, mcat_l, mcat_r, mcat_u, mcat_x, mK_some, mK_none, va_rf_s, va_rf_n, lgc_eq, lgc_lt, lgc_gt, lgc_ge, lgc_le, mrd_104, mrd_105, mrd_106, mrd_107, true_and, and_true, and_self, false_and, and_false, true_or, or_true, false_or, or_false, not_true_eq_false, not_false_eq_true, mgb, mga, mgr, mN, reduceCtorEq, ↓reduceIte, eq_self, ge_iff_le, gt_iff_lt, Nat.reduceAdd, Nat.reduceMul, Nat.reduceSub, Nat.reduceLT, Nat.reduceGT, Nat.reduceEqDiff, Nat.reduceLeDiff, Nat.left_eq_add, Nat.add_eq_left, Nat.reduceMod, Nat.reduceDiv, Nat.succ_ne_self, g, gt, gb, gtb, r28, g28, l28, aS_g, aS_i, aS_r, aS_l, nS, false_and, sg, nn, nn_mxT, nn_clamp, e00, eo, eb, ec, j25, j26, show ((0 : Int32) ≤ -1) = False by decide]
      | false =>
        rw [htu] at sg tn
        rw [if_neg (by decide)] at tn ⊢
        obtain ⟨Xc, fc, rc, ec⟩ := k_292 (d := d + 2) (x := x) (l := lo') (u := hi') kA (tn.1.1) x0 (by omega) (by omega) (fun i' j' hi' hj' => S.B.lo2 hi' hj') (a_shift_T tn.1 b3).1
        refine ⟨Xc, tW_t (tW_aS (lo := lo') (hi := hi')) (tW_k fc), rc, fun Q => ?_⟩
        have sg1 : sgn false = 1 := rfl
        rw [sg1] at sg
        clear tn b1 b2 b3 b4 b5 bd rc kA S kt R J
        simp (disch := omega) only [s_247_0, s_247_1, s_247_2, s_247_5, s_247_8, s_247_10, s_247_11, s_247_14, s_247_15, s_247_16, s_247_19, s_247_21, s_247_22, s_247_25, s_247_27, s_247_28, s_247_29, s_247_32, s_247_33, s_247_34, s_247_35, s_247_38, s_247_39, s_247_42, s_247_43, s_247_45, s_247_46, s_247_48, s_247_50, s_247_51, s_247_54, s_247_57, s_247_58, s_247_61, s_247_63, s_247_64, s_247_67, s_247_68, s_247_71, s_247_73, s_247_74, s_247_75, s_247_78, s_247_79, s_247_82, s_247_84, s_247_87, s_247_89, s_247_91, s_247_94, s_247_97, s_247_98, s_247_101, s_247_103, s_247_106, s_247_109, s_247_111, s_247_114, s_247_115, s_247_117, s_247_118, s_247_121, s_247_122, s_247_125, s_247_127, s_247_128, s_247_131, s_247_133, s_247_134, s_247_137, s_247_139, s_247_140, s_247_141, s_247_144, s_247_145, s_247_148, s_247_151, s_247_154, s_247_156, s_247_157, s_247_161, s_247_163, s_247_165, s_247_166, s_247_169, s_247_172, s_247_173, s_247_176, s_247_178, s_247_179, s_247_182, s_247_184, s_247_186, s_247_189, s_247_190, s_247_192, s_247_193, s_247_196, s_247_197, s_247_199, s_247_202, s_247_203, s_247_204, s_247_206, s_247_208, s_247_209, s_247_210, s_247_211, s_247_213, s_247_214, s_247_217, s_247_220, s_247_222, s_247_223, s_247_224, s_247_225, s_247_226, s_247_227, s_247_229, s_247_230, s_247_231, s_247_232, s_247_235, s_247_236, s_247_239, s_247_242, s_247_245, s_247_247, s_247_248, s_247_249, s_247_250, s_247_251, s_247_252, s_247_253, s_247_255, s_247_258, s_247_260, s_247_261, s_247_262, s_247_263, s_247_264, s_247_265, s_247_266, s_247_267, s_247_268, s_247_269, s_247_270, s_247_272, s_247_273, s_247_276, s_247_278, s_247_281, e_247, mv_i_1, mv_l_1, mv_a_1, mv_a_2, mv_a_3, mk2_n, mk2_i, mk2_l, mk2_a, mk2_u, mk2_x, mB_T, mB_F, mS_cons, mS_nil, mSB_T, mSB_F, mca_nil, mca_i, mca_l, mca_r, mca_u, mca_x, mcat_i, mcat_l, mcat_r, mcat_u, mcat_x, mK_some, mK_none, va_rf_s, va_rf_n, lgc_eq, lgc_lt, lgc_gt, lgc_ge, lgc_le, mrd_104, mrd_105, mrd_106, mrd_107, true_and, and_true, and_self, false_and, and_false, true_or, or_true, false_or, or_false, not_true_eq_false, not_false_eq_true, mgb, mga, mgr, mN, reduceCtorEq, ↓reduceIte, eq_self, ge_iff_le, gt_iff_lt, Nat.reduceAdd, Nat.reduceMul, Nat.reduceSub, Nat.reduceLT, Nat.reduceGT, Nat.reduceEqDiff, Nat.reduceLeDiff, Nat.left_eq_add, Nat.add_eq_left, Nat.reduceMod, Nat.reduceDiv, Nat.succ_ne_self, g, gt, r28, g28, l28, aS_g, aS_i, aS_j, aS_r, aS_l, nS, false_and, sg, nn, nn_mxT, nn_clamp, e00, eo, ec, show ((0 : Int32) ≤ 1) = True by decide]
end STm
