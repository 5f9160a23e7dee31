set_option maxRecDepth 100000
/-! THE REFERENCE'S PARSER: TEST, COND -/
section PUs
variable {D f N : Nat} {h : mh_H} {m : Nat} {K : Nat → Int32} {P : Nat → Nat} {V : Nat → Int} {s : pst} {d : Nat}
/-- which relation -/
theorem rel_run {k : Int32} (hk : k ∈ kvs) {x0 x1 x2 x4 x5 : Option Value} : ∀ Q, mw D 323 Q 119 [x0, x1, x2, some (.int (rkd k)), x4, x5] [] h = mw D 323 Q 192 [x0, x1, x2, some (.int (rkd k)), some (.int (Int32.ofNat (relK k))), x5] [] h := by
  intro Q
  unfold relK
  have e0 := rk_e hk (c := 60) (y := 60) (by decide) rfl
  have e1 := rk_e hk (c := 128) (y := 256) (by decide) rfl
  have e2 := rk_e hk (c := 62) (y := 62) (by decide) rfl
  have e3 := rk_e hk (c := 129) (y := 257) (by decide) rfl
  have e4 := rk_e hk (c := 130) (y := 258) (by decide) rfl
  have e5 := rk_e hk (c := 131) (y := 259) (by decide) rfl
  by_cases c0 : k = 60
  · rw [if_pos c0]
    have z0 := eq_true c0
    simp only [s_323_0, s_323_1, s_323_4, s_323_6, s_323_9, s_323_10, s_323_12, s_323_13, s_323_16, s_323_17, s_323_20, s_323_21, s_323_22, s_323_25, s_323_26, s_323_27, s_323_29, s_323_32, s_323_33, s_323_34, s_323_35, s_323_36, s_323_39, s_323_40, s_323_41, s_323_42, s_323_45, s_323_48, s_323_49, s_323_52, s_323_53, s_323_54, s_323_55, s_323_56, s_323_59, s_323_62, s_323_63, s_323_64, s_323_65, s_323_68, s_323_70, s_323_73, s_323_74, s_323_76, s_323_79, s_323_80, s_323_83, s_323_86, s_323_87, s_323_90, s_323_91, s_323_92, s_323_93, s_323_94, s_323_97, s_323_98, s_323_99, s_323_101, s_323_104, s_323_105, s_323_106, s_323_107, s_323_108, s_323_109, s_323_110, s_323_113, s_323_114, s_323_115, s_323_118, s_323_119, s_323_120, s_323_122, s_323_125, s_323_127, s_323_130, s_323_131, s_323_134, s_323_137, s_323_139, s_323_142, s_323_143, s_323_145, s_323_148, s_323_150, s_323_153, s_323_154, s_323_157, s_323_160, s_323_162, s_323_165, s_323_166, s_323_169, s_323_172, s_323_174, s_323_177, s_323_178, s_323_181, s_323_184, s_323_186, s_323_189, s_323_190, s_323_193, s_323_195, s_323_198, s_323_199, s_323_202, s_323_203, s_323_206, s_323_207, s_323_210, s_323_213, s_323_214, s_323_215, s_323_216, s_323_218, s_323_219, s_323_222, s_323_223, s_323_224, s_323_225, s_323_228, s_323_230, s_323_231, s_323_232, s_323_235, s_323_236, s_323_238, s_323_239, s_323_242, s_323_243, s_323_245, s_323_246, s_323_247, s_323_248, s_323_249, s_323_252, s_323_255, s_323_257, e_323, mv_i_1, mv_l_1, mv_a_1, mv_a_2, mv_a_3, mk2_n, mk2_i, mk2_l, mk2_a, mk2_u, mk2_x, mB_T, mB_F, mS_cons, mS_nil, mSB_T, mSB_F, mca_nil, mca_i, mca_l, mca_r, mca_u, mca_x, mcat_i, mcat_l, mcat_r, mcat_u, mcat_x, mK_some, mK_none, va_rf_s, va_rf_n, lgc_eq, lgc_lt, lgc_gt, lgc_ge, lgc_le, mrd_104, mrd_105, mrd_106, mrd_107, true_and, and_true, and_self, false_and, and_false, true_or, or_true, false_or, or_false, not_true_eq_false, not_false_eq_true, mgb, mga, mgr, mN, reduceCtorEq, ↓reduceIte, eq_self, ge_iff_le, gt_iff_lt, e0, z0]
    rfl
  by_cases c1 : k = 128
  · rw [if_neg c0, if_pos c1]
    have z0 := eq_false c0
    have z1 := eq_true c1
    simp only [s_323_0, s_323_1, s_323_4, s_323_6, s_323_9, s_323_10, s_323_12, s_323_13, s_323_16, s_323_17, s_323_20, s_323_21, s_323_22, s_323_25, s_323_26, s_323_27, s_323_29, s_323_32, s_323_33, s_323_34, s_323_35, s_323_36, s_323_39, s_323_40, s_323_41, s_323_42, s_323_45, s_323_48, s_323_49, s_323_52, s_323_53, s_323_54, s_323_55, s_323_56, s_323_59, s_323_62, s_323_63, s_323_64, s_323_65, s_323_68, s_323_70, s_323_73, s_323_74, s_323_76, s_323_79, s_323_80, s_323_83, s_323_86, s_323_87, s_323_90, s_323_91, s_323_92, s_323_93, s_323_94, s_323_97, s_323_98, s_323_99, s_323_101, s_323_104, s_323_105, s_323_106, s_323_107, s_323_108, s_323_109, s_323_110, s_323_113, s_323_114, s_323_115, s_323_118, s_323_119, s_323_120, s_323_122, s_323_125, s_323_127, s_323_130, s_323_131, s_323_134, s_323_137, s_323_139, s_323_142, s_323_143, s_323_145, s_323_148, s_323_150, s_323_153, s_323_154, s_323_157, s_323_160, s_323_162, s_323_165, s_323_166, s_323_169, s_323_172, s_323_174, s_323_177, s_323_178, s_323_181, s_323_184, s_323_186, s_323_189, s_323_190, s_323_193, s_323_195, s_323_198, s_323_199, s_323_202, s_323_203, s_323_206, s_323_207, s_323_210, s_323_213, s_323_214, s_323_215, s_323_216, s_323_218, s_323_219, s_323_222, s_323_223, s_323_224, s_323_225, s_323_228, s_323_230, s_323_231, s_323_232, s_323_235, s_323_236, s_323_238, s_323_239, s_323_242, s_323_243, s_323_245, s_323_246, s_323_247, s_323_248, s_323_249, s_323_252, s_323_255, s_323_257, e_323, mv_i_1, mv_l_1, mv_a_1, mv_a_2, mv_a_3, mk2_n, mk2_i, mk2_l, mk2_a, mk2_u, mk2_x, mB_T, mB_F, mS_cons, mS_nil, mSB_T, mSB_F, mca_nil, mca_i, mca_l, mca_r, mca_u, mca_x, mcat_i, mcat_l, mcat_r, mcat_u, mcat_x, mK_some, mK_none, va_rf_s, va_rf_n, lgc_eq, lgc_lt, lgc_gt, lgc_ge, lgc_le, mrd_104, mrd_105, mrd_106, mrd_107, true_and, and_true, and_self, false_and, and_false, true_or, or_true, false_or, or_false, not_true_eq_false, not_false_eq_true, mgb, mga, mgr, mN, reduceCtorEq, ↓reduceIte, eq_self, ge_iff_le, gt_iff_lt, e0, z0, e1, z1]
    rfl
  by_cases c2 : k = 62
  · rw [if_neg c0, if_neg c1, if_pos c2]
    have z0 := eq_false c0
    have z1 := eq_false c1
    have z2 := eq_true c2
    simp only [s_323_0, s_323_1, s_323_4, s_323_6, s_323_9, s_323_10, s_323_12, s_323_13, s_323_16, s_323_17, s_323_20, s_323_21, s_323_22, s_323_25, s_323_26, s_323_27, s_323_29, s_323_32, s_323_33, s_323_34, s_323_35, s_323_36, s_323_39, s_323_40, s_323_41, s_323_42, s_323_45, s_323_48, s_323_49, s_323_52, s_323_53, s_323_54, s_323_55, s_323_56, s_323_59, s_323_62, s_323_63, s_323_64, s_323_65, s_323_68, s_323_70, s_323_73, s_323_74, s_323_76, s_323_79, s_323_80, s_323_83, s_323_86, s_323_87, s_323_90, s_323_91, s_323_92, s_323_93, s_323_94, s_323_97, s_323_98, s_323_99, s_323_101, s_323_104, s_323_105, s_323_106, s_323_107, s_323_108, s_323_109, s_323_110, s_323_113, s_323_114, s_323_115, s_323_118, s_323_119, s_323_120, s_323_122, s_323_125, s_323_127, s_323_130, s_323_131, s_323_134, s_323_137, s_323_139, s_323_142, s_323_143, s_323_145, s_323_148, s_323_150, s_323_153, s_323_154, s_323_157, s_323_160, s_323_162, s_323_165, s_323_166, s_323_169, s_323_172, s_323_174, s_323_177, s_323_178, s_323_181, s_323_184, s_323_186, s_323_189, s_323_190, s_323_193, s_323_195, s_323_198, s_323_199, s_323_202, s_323_203, s_323_206, s_323_207, s_323_210, s_323_213, s_323_214, s_323_215, s_323_216, s_323_218, s_323_219, s_323_222, s_323_223, s_323_224, s_323_225, s_323_228, s_323_230, s_323_231, s_323_232, s_323_235, s_323_236, s_323_238, s_323_239, s_323_242, s_323_243, s_323_245, s_323_246, s_323_247, s_323_248, s_323_249, s_323_252, s_323_255, s_323_257, e_323, mv_i_1, mv_l_1, mv_a_1, mv_a_2, mv_a_3, mk2_n, mk2_i, mk2_l, mk2_a, mk2_u, mk2_x, mB_T, mB_F, mS_cons, mS_nil, mSB_T, mSB_F, mca_nil, mca_i, mca_l, mca_r, mca_u, mca_x, mcat_i, mcat_l, mcat_r, mcat_u, mcat_x, mK_some, mK_none, va_rf_s, va_rf_n, lgc_eq, lgc_lt, lgc_gt, lgc_ge, lgc_le, mrd_104, mrd_105, mrd_106, mrd_107, true_and, and_true, and_self, false_and, and_false, true_or, or_true, false_or, or_false, not_true_eq_false, not_false_eq_true, mgb, mga, mgr, mN, reduceCtorEq, ↓reduceIte, eq_self, ge_iff_le, gt_iff_lt, e0, z0, e1, z1, e2, z2]
    rfl
  by_cases c3 : k = 129
  · rw [if_neg c0, if_neg c1, if_neg c2, if_pos c3]
    have z0 := eq_false c0
    have z1 := eq_false c1
    have z2 := eq_false c2
    have z3 := eq_true c3
    simp only [s_323_0, s_323_1, s_323_4, s_323_6, s_323_9, s_323_10, s_323_12, s_323_13, s_323_16, s_323_17, s_323_20, s_323_21, s_323_22, s_323_25, s_323_26, s_323_27, s_323_29, s_323_32, s_323_33, s_323_34, s_323_35, s_323_36, s_323_39, s_323_40, s_323_41, s_323_42, s_323_45, s_323_48, s_323_49, s_323_52, s_323_53, s_323_54, s_323_55, s_323_56, s_323_59, s_323_62, s_323_63, s_323_64, s_323_65, s_323_68, s_323_70, s_323_73, s_323_74, s_323_76, s_323_79, s_323_80, s_323_83, s_323_86, s_323_87, s_323_90, s_323_91, s_323_92, s_323_93, s_323_94, s_323_97, s_323_98, s_323_99, s_323_101, s_323_104, s_323_105, s_323_106, s_323_107, s_323_108, s_323_109, s_323_110, s_323_113, s_323_114, s_323_115, s_323_118, s_323_119, s_323_120, s_323_122, s_323_125, s_323_127, s_323_130, s_323_131, s_323_134, s_323_137, s_323_139, s_323_142, s_323_143, s_323_145, s_323_148, s_323_150, s_323_153, s_323_154, s_323_157, s_323_160, s_323_162, s_323_165, s_323_166, s_323_169, s_323_172, s_323_174, s_323_177, s_323_178, s_323_181, s_323_184, s_323_186, s_323_189, s_323_190, s_323_193, s_323_195, s_323_198, s_323_199, s_323_202, s_323_203, s_323_206, s_323_207, s_323_210, s_323_213, s_323_214, s_323_215, s_323_216, s_323_218, s_323_219, s_323_222, s_323_223, s_323_224, s_323_225, s_323_228, s_323_230, s_323_231, s_323_232, s_323_235, s_323_236, s_323_238, s_323_239, s_323_242, s_323_243, s_323_245, s_323_246, s_323_247, s_323_248, s_323_249, s_323_252, s_323_255, s_323_257, e_323, mv_i_1, mv_l_1, mv_a_1, mv_a_2, mv_a_3, mk2_n, mk2_i, mk2_l, mk2_a, mk2_u, mk2_x, mB_T, mB_F, mS_cons, mS_nil, mSB_T, mSB_F, mca_nil, mca_i, mca_l, mca_r, mca_u, mca_x, mcat_i, mcat_l, mcat_r, mcat_u, mcat_x, mK_some, mK_none, va_rf_s, va_rf_n, lgc_eq, lgc_lt, lgc_gt, lgc_ge, lgc_le, mrd_104, mrd_105, mrd_106, mrd_107, true_and, and_true, and_self, false_and, and_false, true_or, or_true, false_or, or_false, not_true_eq_false, not_false_eq_true, mgb, mga, mgr, mN, reduceCtorEq, ↓reduceIte, eq_self, ge_iff_le, gt_iff_lt, e0, z0, e1, z1, e2, z2, e3, z3]
    rfl
  by_cases c4 : k = 130
  · rw [if_neg c0, if_neg c1, if_neg c2, if_neg c3, if_pos c4]
    have z0 := eq_false c0
    have z1 := eq_false c1
    have z2 := eq_false c2
    have z3 := eq_false c3
    have z4 := eq_true c4
    simp only [s_323_0, s_323_1, s_323_4, s_323_6, s_323_9, s_323_10, s_323_12, s_323_13, s_323_16, s_323_17, s_323_20, s_323_21, s_323_22, s_323_25, s_323_26, s_323_27, s_323_29, s_323_32, s_323_33, s_323_34, s_323_35, s_323_36, s_323_39, s_323_40, s_323_41, s_323_42, s_323_45, s_323_48, s_323_49, s_323_52, s_323_53, s_323_54, s_323_55, s_323_56, s_323_59, s_323_62, s_323_63, s_323_64, s_323_65, s_323_68, s_323_70, s_323_73, s_323_74, s_323_76, s_323_79, s_323_80, s_323_83, s_323_86, s_323_87, s_323_90, s_323_91, s_323_92, s_323_93, s_323_94, s_323_97, s_323_98, s_323_99, s_323_101, s_323_104, s_323_105, s_323_106, s_323_107, s_323_108, s_323_109, s_323_110, s_323_113, s_323_114, s_323_115, s_323_118, s_323_119, s_323_120, s_323_122, s_323_125, s_323_127, s_323_130, s_323_131, s_323_134, s_323_137, s_323_139, s_323_142, s_323_143, s_323_145, s_323_148, s_323_150, s_323_153, s_323_154, s_323_157, s_323_160, s_323_162, s_323_165, s_323_166, s_323_169, s_323_172, s_323_174, s_323_177, s_323_178, s_323_181, s_323_184, s_323_186, s_323_189, s_323_190, s_323_193, s_323_195, s_323_198, s_323_199, s_323_202, s_323_203, s_323_206, s_323_207, s_323_210, s_323_213, s_323_214, s_323_215, s_323_216, s_323_218, s_323_219, s_323_222, s_323_223, s_323_224, s_323_225, s_323_228, s_323_230, s_323_231, s_323_232, s_323_235, s_323_236, s_323_238, s_323_239, s_323_242, s_323_243, s_323_245, s_323_246, s_323_247, s_323_248, s_323_249, s_323_252, s_323_255, s_323_257, e_323, mv_i_1, mv_l_1, mv_a_1, mv_a_2, mv_a_3, mk2_n, mk2_i, mk2_l, mk2_a, mk2_u, mk2_x, mB_T, mB_F, mS_cons, mS_nil, mSB_T, mSB_F, mca_nil, mca_i, mca_l, mca_r, mca_u, mca_x, mcat_i, mcat_l, mcat_r, mcat_u, mcat_x, mK_some, mK_none, va_rf_s, va_rf_n, lgc_eq, lgc_lt, lgc_gt, lgc_ge, lgc_le, mrd_104, mrd_105, mrd_106, mrd_107, true_and, and_true, and_self, false_and, and_false, true_or, or_true, false_or, or_false, not_true_eq_false, not_false_eq_true, mgb, mga, mgr, mN, reduceCtorEq, ↓reduceIte, eq_self, ge_iff_le, gt_iff_lt, e0, z0, e1, z1, e2, z2, e3, z3, e4, z4]
    rfl
  by_cases c5 : k = 131
  · rw [if_neg c0, if_neg c1, if_neg c2, if_neg c3, if_neg c4, if_pos c5]
    have z0 := eq_false c0
    have z1 := eq_false c1
    have z2 := eq_false c2
    have z3 := eq_false c3
    have z4 := eq_false c4
    have z5 := eq_true c5
    simp only [s_323_0, s_323_1, s_323_4, s_323_6, s_323_9, s_323_10, s_323_12, s_323_13, s_323_16, s_323_17, s_323_20, s_323_21, s_323_22, s_323_25, s_323_26, s_323_27, s_323_29, s_323_32, s_323_33, s_323_34, s_323_35, s_323_36, s_323_39, s_323_40, s_323_41, s_323_42, s_323_45, s_323_48, s_323_49, s_323_52, s_323_53, s_323_54, s_323_55, s_323_56, s_323_59, s_323_62, s_323_63, s_323_64, s_323_65, s_323_68, s_323_70, s_323_73, s_323_74, s_323_76, s_323_79, s_323_80, s_323_83, s_323_86, s_323_87, s_323_90, s_323_91, s_323_92, s_323_93, s_323_94, s_323_97, s_323_98, s_323_99, s_323_101, s_323_104, s_323_105, s_323_106, s_323_107, s_323_108, s_323_109, s_323_110, s_323_113, s_323_114, s_323_115, s_323_118, s_323_119, s_323_120, s_323_122, s_323_125, s_323_127, s_323_130, s_323_131, s_323_134, s_323_137, s_323_139, s_323_142, s_323_143, s_323_145, s_323_148, s_323_150, s_323_153, s_323_154, s_323_157, s_323_160, s_323_162, s_323_165, s_323_166, s_323_169, s_323_172, s_323_174, s_323_177, s_323_178, s_323_181, s_323_184, s_323_186, s_323_189, s_323_190, s_323_193, s_323_195, s_323_198, s_323_199, s_323_202, s_323_203, s_323_206, s_323_207, s_323_210, s_323_213, s_323_214, s_323_215, s_323_216, s_323_218, s_323_219, s_323_222, s_323_223, s_323_224, s_323_225, s_323_228, s_323_230, s_323_231, s_323_232, s_323_235, s_323_236, s_323_238, s_323_239, s_323_242, s_323_243, s_323_245, s_323_246, s_323_247, s_323_248, s_323_249, s_323_252, s_323_255, s_323_257, e_323, mv_i_1, mv_l_1, mv_a_1, mv_a_2, mv_a_3, mk2_n, mk2_i, mk2_l, mk2_a, mk2_u, mk2_x, mB_T, mB_F, mS_cons, mS_nil, mSB_T, mSB_F, mca_nil, mca_i, mca_l, mca_r, mca_u, mca_x, mcat_i, mcat_l, mcat_r, mcat_u, mcat_x, mK_some, mK_none, va_rf_s, va_rf_n, lgc_eq, lgc_lt, lgc_gt, lgc_ge, lgc_le, mrd_104, mrd_105, mrd_106, mrd_107, true_and, and_true, and_self, false_and, and_false, true_or, or_true, false_or, or_false, not_true_eq_false, not_false_eq_true, mgb, mga, mgr, mN, reduceCtorEq, ↓reduceIte, eq_self, ge_iff_le, gt_iff_lt, e0, z0, e1, z1, e2, z2, e3, z3, e4, z4, e5, z5]
    rfl
  rw [if_neg c0, if_neg c1, if_neg c2, if_neg c3, if_neg c4, if_neg c5]
  have z0 := eq_false c0
  have z1 := eq_false c1
  have z2 := eq_false c2
  have z3 := eq_false c3
  have z4 := eq_false c4
  have z5 := eq_false c5
  simp only [s_323_0, s_323_1, s_323_4, s_323_6, s_323_9, s_323_10, s_323_12, s_323_13, s_323_16, s_323_17, s_323_20, s_323_21, s_323_22, s_323_25, s_323_26, s_323_27, s_323_29, s_323_32, s_323_33, s_323_34, s_323_35, s_323_36, s_323_39, s_323_40, s_323_41, s_323_42, s_323_45, s_323_48, s_323_49, s_323_52, s_323_53, s_323_54, s_323_55, s_323_56, s_323_59, s_323_62, s_323_63, s_323_64, s_323_65, s_323_68, s_323_70, s_323_73, s_323_74, s_323_76, s_323_79, s_323_80, s_323_83, s_323_86, s_323_87, s_323_90, s_323_91, s_323_92, s_323_93, s_323_94, s_323_97, s_323_98, s_323_99, s_323_101, s_323_104, s_323_105, s_323_106, s_323_107, s_323_108, s_323_109, s_323_110, s_323_113, s_323_114, s_323_115, s_323_118, s_323_119, s_323_120, s_323_122, s_323_125, s_323_127, s_323_130, s_323_131, s_323_134, s_323_137, s_323_139, s_323_142, s_323_143, s_323_145, s_323_148, s_323_150, s_323_153, s_323_154, s_323_157, s_323_160, s_323_162, s_323_165, s_323_166, s_323_169, s_323_172, s_323_174, s_323_177, s_323_178, s_323_181, s_323_184, s_323_186, s_323_189, s_323_190, s_323_193, s_323_195, s_323_198, s_323_199, s_323_202, s_323_203, s_323_206, s_323_207, s_323_210, s_323_213, s_323_214, s_323_215, s_323_216, s_323_218, s_323_219, s_323_222, s_323_223, s_323_224, s_323_225, s_323_228, s_323_230, s_323_231, s_323_232, s_323_235, s_323_236, s_323_238, s_323_239, s_323_242, s_323_243, s_323_245, s_323_246, s_323_247, s_323_248, s_323_249, s_323_252, s_323_255, s_323_257, e_323, mv_i_1, mv_l_1, mv_a_1, mv_a_2, mv_a_3, mk2_n, mk2_i, mk2_l, mk2_a, mk2_u, mk2_x, mB_T, mB_F, mS_cons, mS_nil, mSB_T, mSB_F, mca_nil, mca_i, mca_l, mca_r, mca_u, mca_x, mcat_i, mcat_l, mcat_r, mcat_u, mcat_x, mK_some, mK_none, va_rf_s, va_rf_n, lgc_eq, lgc_lt, lgc_gt, lgc_ge, lgc_le, mrd_104, mrd_105, mrd_106, mrd_107, true_and, and_true, and_self, false_and, and_false, true_or, or_true, false_or, or_false, not_true_eq_false, not_false_eq_true, mgb, mga, mgr, mN, reduceCtorEq, ↓reduceIte, eq_self, ge_iff_le, gt_iff_lt, e0, z0, e1, z1, e2, z2, e3, z3, e4, z4, e5, z5]
  rfl
theorem relK_27 {k : Int32} (c : ¬ relK k = 0) : 27 ≤ relK k := by
  unfold relK at c ⊢
  by_cases c1 : k = 60
  · rw [if_pos c1]; omega
  rw [if_neg c1] at c ⊢
  by_cases c2 : k = 128
  · rw [if_pos c2]; omega
  rw [if_neg c2] at c ⊢
  by_cases c3 : k = 62
  · rw [if_pos c3]; omega
  rw [if_neg c3] at c ⊢
  by_cases c4 : k = 129
  · rw [if_pos c4]; omega
  rw [if_neg c4] at c ⊢
  by_cases c5 : k = 130
  · rw [if_pos c5]; omega
  rw [if_neg c5] at c ⊢
  by_cases c6 : k = 131
  · rw [if_pos c6]; omega
  rw [if_neg c6] at c ⊢
  exact absurd rfl c
/-- SUM relation SUM -/
theorem g_rel (R : RTK h m K P V) (hN : 8 * m + 3 ≤ N) (hi : s.at < m) (eb : s.bd = false) (hd : d ≤ 60) (hD : 4 * (62 - d) + 7 ≤ D + 4) (hr : s.dr + 2 * (m - s.at) + 8 ≤ 52000) (c1 : ¬ K s.at = 33) (c2 : ¬ K s.at = 91) : ∃ s' v, SR P (bnd (pgX K P V N 0 (d + 1) s.at) fun t j => if relK (K j) = 0 then (j, none) else bnd (pgX K P V N 0 (d + 1) (j + 1)) fun u k => (k, some (tNd (tE (relK (K j)) (tR t) 0) (tA t u)))) s.at s.dr s s' v ∧ ∀ Q, mcall (D + 4) 323 [.ref 81, .int (Int32.ofNat d)] (pH h s) Q = Q (some (.int v)) (pH h s') := by
  have hm := R.m
  have g := R.F.g 81 14 70 (by decide +kernel)
  have r1 := R.F.f 81 12 87 (by decide +kernel)
  have g1 := R.F.g 87 100 52000 (by decide +kernel)
  have l1 := R.F.l 87 100 52000 (by decide +kernel)
  have ih := (pe_all R N).1
  have k0 : kb false = 0 := rfl
  have k1 : kb true = 1 := rfl
  have n1 : ((1 : Int32) = 0) = False := by decide
  have e1' : ∀ k, Int32.ofNat k + 1 = Int32.ofNat (k + 1) := fun k => nn_add (a := k) (b := 1)
  have x1 : (rkd (K s.at) = 33) = False := by rw [rk_e (R.k _ hi).2 (c := 33) (y := 33) (by decide) rfl]; exact eq_false c1
  have x2 : (rkd (K s.at) = 91) = False := by rw [rk_e (R.k _ hi).2 (c := 91) (y := 91) (by decide) rfl]; exact eq_false c2
  have q0 := c_310 (D := D + 3) R hi
  rw [lk_0 eb] at q0
  obtain ⟨s1, v1, S1, q1⟩ := ih (d + 1) (D + 3) s (by omega) hi eb (by omega) (by omega) hr
  have gb := pgX_b (P := P) (V := V) R.M N 0 (d + 1) s.at (by decide) hi
  generalize pgX K P V N 0 (d + 1) s.at = r at *
  obtain ⟨j, o⟩ := r
  obtain ⟨gb1, gb2, gb3⟩ := gb
  have gb1' : s.at ≤ j := gb1
  have gb2' : j < m := gb2
  obtain ⟨T1, T2, T3⟩ := S1
  have T2' : s1.at = j := T2
  have q2 := c_310 (D := D + 3) (s := s1) R (by omega)
  have lv := lk_v (s := s1) R (by omega)
  have st : ∀ Q, mcall (D + 4) 323 [.ref 81, .int (Int32.ofNat d)] (pH h s) Q = mw (D + 4) 323 Q 192 [some (.ref 81), some (.int (Int32.ofNat d)), some (.int v1), some (.int (rkd (s1.lk K))), some (.int (Int32.ofNat (relK (s1.lk K)))), none] [] (pH h s1) := by
    intro Q
    have L := rel_run (D := D + 4) (h := pH h s1) lv (x0 := some (.ref 81)) (x1 := some (.int (Int32.ofNat d))) (x2 := some (.int v1)) (x4 := none) (x5 := none) Q
    rw [← L]
    clear R ih T1 T3 gb3 lv L
    simp (disch := omega) only [s_323_0, s_323_1, s_323_4, s_323_6, s_323_9, s_323_10, s_323_12, s_323_13, s_323_16, s_323_17, s_323_20, s_323_21, s_323_22, s_323_25, s_323_26, s_323_27, s_323_29, s_323_32, s_323_33, s_323_34, s_323_35, s_323_36, s_323_39, s_323_40, s_323_41, s_323_42, s_323_45, s_323_48, s_323_49, s_323_52, s_323_53, s_323_54, s_323_55, s_323_56, s_323_59, s_323_62, s_323_63, s_323_64, s_323_65, s_323_68, s_323_70, s_323_73, s_323_74, s_323_76, s_323_79, s_323_80, s_323_83, s_323_86, s_323_87, s_323_90, s_323_91, s_323_92, s_323_93, s_323_94, s_323_97, s_323_98, s_323_99, s_323_101, s_323_104, s_323_105, s_323_106, s_323_107, s_323_108, s_323_109, s_323_110, s_323_113, s_323_114, s_323_115, s_323_118, s_323_120, s_323_122, s_323_125, s_323_127, s_323_130, s_323_131, s_323_134, s_323_137, s_323_139, s_323_142, s_323_143, s_323_145, s_323_148, s_323_150, s_323_153, s_323_154, s_323_157, s_323_160, s_323_162, s_323_165, s_323_166, s_323_169, s_323_172, s_323_174, s_323_177, s_323_178, s_323_181, s_323_184, s_323_186, s_323_189, s_323_190, s_323_192, s_323_193, s_323_195, s_323_198, s_323_199, s_323_202, s_323_203, s_323_206, s_323_207, s_323_210, s_323_213, s_323_214, s_323_215, s_323_216, s_323_218, s_323_219, s_323_222, s_323_223, s_323_224, s_323_225, s_323_228, s_323_230, s_323_231, s_323_232, s_323_235, s_323_236, s_323_238, s_323_239, s_323_242, s_323_243, s_323_245, s_323_246, s_323_247, s_323_248, s_323_249, s_323_252, s_323_255, s_323_257, e_323, mv_i_1, mv_l_1, mv_a_1, mv_a_2, mv_a_3, mk2_n, mk2_i, mk2_l, mk2_a, mk2_u, mk2_x, mB_T, mB_F, mS_cons, mS_nil, mSB_T, mSB_F, mca_nil, mca_i, mca_l, mca_r, mca_u, mca_x, mcat_i, mcat_l, mcat_r, mcat_u, mcat_x, mK_some, mK_none, va_rf_s, va_rf_n, lgc_eq, lgc_lt, lgc_gt, lgc_ge, lgc_le, mrd_104, mrd_105, mrd_106, mrd_107, true_and, and_true, and_self, false_and, and_false, true_or, or_true, false_or, or_false, not_true_eq_false, not_false_eq_true, mgb, mga, mgr, mN, reduceCtorEq, ↓reduceIte, eq_self, ge_iff_le, gt_iff_lt, Nat.reduceAdd, Nat.reduceMul, Nat.reduceSub, Nat.reduceLT, Nat.reduceGT, Nat.reduceEqDiff, Nat.reduceLeDiff, Nat.left_eq_add, Nat.add_eq_left, Nat.reduceMod, Nat.reduceDiv, Nat.succ_ne_self, pH_g, g, q0, x1, x2, e1', q1, q2]
  have f0 := c_311f (D := D + 3) (s := s1) R (by omega)
  have fT := c_311t (D := D + 3) (s := s1) R
  have rb := relK_b (s1.lk K)
  rcases T3 with ⟨n, cs, o1, bd1, fl1, dr1, t1, vv⟩ | ⟨o1, bd1, fl1, dr1, dr1', vv⟩
  · have o1' : o = some (tNd n cs) := o1
    subst o1'
    have gs' : 1 + ts cs ≤ 2 * (j - s.at) := (gb3 (tNd n cs) rfl).2.1
    have ob := dOf_b (n := n) (cs := cs)
    subst vv
    rw [lk_0 bd1, T2'] at st rb
    show ∃ s' v, SR P (if relK (K j) = 0 then (j, none) else bnd (pgX K P V N 0 (d + 1) (j + 1)) fun u k => (k, some (tNd (tE (relK (K j)) (tR (tNd n cs)) 0) (tA (tNd n cs) u)))) s.at s.dr s s' v ∧ _
    by_cases c : relK (K j) = 0
    · rw [if_pos c]
      rw [bd1, if_neg (by decide), T2'] at f0
      rw [c] at st
      have z0 : (Int32.ofNat 0 ≤ 0) = True := by decide
      have kb1 : (s1.ko (P j)).bd = true := rfl
      refine ⟨_, -1, SR_no (s1 := s1.ko (P j)) (pSm_t T1 ko_m) T2' rfl rfl (by show s.dr ≤ s1.dr; omega) (by show s1.dr ≤ _; omega) (Or.inl rfl), fun Q => ?_⟩
      rw [st Q]
      clear R ih T1 gb3 lv st t1
      simp (disch := omega) only [s_323_0, s_323_1, s_323_4, s_323_6, s_323_9, s_323_10, s_323_12, s_323_13, s_323_16, s_323_17, s_323_20, s_323_21, s_323_22, s_323_25, s_323_26, s_323_27, s_323_29, s_323_32, s_323_33, s_323_34, s_323_35, s_323_36, s_323_39, s_323_40, s_323_41, s_323_42, s_323_45, s_323_48, s_323_49, s_323_52, s_323_53, s_323_54, s_323_55, s_323_56, s_323_59, s_323_62, s_323_63, s_323_64, s_323_65, s_323_68, s_323_70, s_323_73, s_323_74, s_323_76, s_323_79, s_323_80, s_323_83, s_323_86, s_323_87, s_323_90, s_323_91, s_323_92, s_323_93, s_323_94, s_323_97, s_323_98, s_323_99, s_323_101, s_323_104, s_323_105, s_323_106, s_323_107, s_323_108, s_323_109, s_323_110, s_323_113, s_323_114, s_323_115, s_323_118, s_323_119, s_323_120, s_323_122, s_323_125, s_323_127, s_323_130, s_323_131, s_323_134, s_323_137, s_323_139, s_323_142, s_323_143, s_323_145, s_323_148, s_323_150, s_323_153, s_323_154, s_323_157, s_323_160, s_323_162, s_323_165, s_323_166, s_323_169, s_323_172, s_323_174, s_323_177, s_323_178, s_323_181, s_323_184, s_323_186, s_323_189, s_323_190, s_323_192, s_323_193, s_323_195, s_323_198, s_323_199, s_323_202, s_323_203, s_323_206, s_323_207, s_323_210, s_323_213, s_323_214, s_323_215, s_323_216, s_323_218, s_323_219, s_323_222, s_323_223, s_323_224, s_323_225, s_323_228, s_323_230, s_323_231, s_323_232, s_323_235, s_323_236, s_323_238, s_323_239, s_323_242, s_323_243, s_323_245, s_323_246, s_323_247, s_323_248, s_323_249, s_323_252, s_323_255, s_323_257, e_323, mv_i_1, mv_l_1, mv_a_1, mv_a_2, mv_a_3, mk2_n, mk2_i, mk2_l, mk2_a, mk2_u, mk2_x, mB_T, mB_F, mS_cons, mS_nil, mSB_T, mSB_F, mca_nil, mca_i, mca_l, mca_r, mca_u, mca_x, mcat_i, mcat_l, mcat_r, mcat_u, mcat_x, mK_some, mK_none, va_rf_s, va_rf_n, lgc_eq, lgc_lt, lgc_gt, lgc_ge, lgc_le, mrd_104, mrd_105, mrd_106, mrd_107, true_and, and_true, and_self, false_and, and_false, true_or, or_true, false_or, or_false, not_true_eq_false, not_false_eq_true, mgb, mga, mgr, mN, reduceCtorEq, ↓reduceIte, eq_self, ge_iff_le, gt_iff_lt, Nat.reduceAdd, Nat.reduceMul, Nat.reduceSub, Nat.reduceLT, Nat.reduceGT, Nat.reduceEqDiff, Nat.reduceLeDiff, Nat.left_eq_add, Nat.add_eq_left, Nat.reduceMod, Nat.reduceDiv, Nat.succ_ne_self, pH_g, g, pH_9, z0, f0, kb1, k1, n1]
    · rw [if_neg c]
      have h1 := tkM_s R.M gb2' rfl (relK_k c).1 (relK_k c).2
      have r27 := relK_27 c
      obtain ⟨rr, hrr⟩ : ∃ x : Nat, x = relK (K j) := ⟨_, rfl⟩
      rw [← hrr] at st rb r27 ⊢
      obtain ⟨w1', w3'⟩ := dq_N t1
      have q3 := c_313 (D := D + 3) (s := s1) R.F (by omega) (k := Int32.ofNat rr) (p := Int32.ofNat (tP n)) (v := 0)
      rw [dr1] at q3
      obtain ⟨s2, hs2⟩ : ∃ x : pst, x = s1.dft (Int32.ofNat rr) (Int32.ofNat (tP n)) 0 := ⟨_, rfl⟩
      rw [← hs2] at q3
      have at2 : s2.at = j := by rw [hs2]; exact T2'
      have bd2 : s2.bd = false := by rw [hs2]; exact bd1
      have a2 : nf s2 (s.dr + (1 + ts cs)) (Int32.ofNat rr) (Int32.ofNat (tP n)) 0 (-1) (-1) (-1) := by rw [hs2, ← dr1]; exact dft_n
      have E2 : ∀ y, y < s.dr + (1 + ts cs) → pE s1 s2 y := fun y hy => by rw [hs2]; exact dft_E (by omega)
      have qt := c_312 (D := D + 2) (s := s2) R (by omega) (c := K j) (y := rkd (K j)) (R.k _ gb2').2 rfl (relK_k c).2
      rw [tk_1 bd2 (by rw [at2]), at2] at qt
      obtain ⟨s3, hs3⟩ : ∃ x : pst, x = s2.uA (j + 1) := ⟨_, rfl⟩
      rw [← hs3] at qt
      have a3 : nf s3 (s.dr + (1 + ts cs)) (Int32.ofNat rr) (Int32.ofNat (tP n)) 0 (-1) (-1) (-1) := by rw [hs3]; exact a2
      have E3 : ∀ y, y < s.dr + (1 + ts cs) → pE s1 s3 y := fun y hy => by rw [hs3]; exact E2 y hy
      have q4 := c_314 (D := D + 3) (s := s3) R.F (o := s.dr + (1 + ts cs)) (y := s.dr + dOf n cs) (by omega) (by omega) (fun z => absurd a3.2.2.2.1 z)
      obtain ⟨f1, f2, f3, f4⟩ := jn_f (s := s3) (o := s.dr + (1 + ts cs)) (y := s.dr + dOf n cs)
      obtain ⟨s4, hs4⟩ : ∃ x : pst, x = s3.jn (s.dr + (1 + ts cs)) (s.dr + dOf n cs) := ⟨_, rfl⟩
      rw [← hs4] at q4 f1 f2 f3 f4
      have a4 : nf s4 (s.dr + (1 + ts cs)) (Int32.ofNat rr) (Int32.ofNat (tP n)) 0 (Int32.ofNat (s.dr + dOf n cs)) (Int32.ofNat (s.dr + dOf n cs)) (-1) := by rw [hs4]; exact jn1_n a3
      have E4 : ∀ y, y < s.dr + (1 + ts cs) → pE s1 s4 y := fun y hy => pE_t (E3 y hy) (by rw [hs4]; exact jn1_E a3 (by omega))
      have at4 : s4.at = j + 1 := by rw [f1, hs3]; rfl
      have bd4 : s4.bd = false := by rw [f2, hs3]; exact bd2
      have fl4 : s4.fl = s.fl := by rw [f3, hs3, hs2]; exact fl1
      have dr4 : s4.dr = s.dr + (1 + ts cs) + 1 := by rw [f4, hs3, hs2]; show s1.dr + 1 = _; omega
      have t4 : s4.dq (tNd n cs) true s.dr (-1) := dq_S t1 (fun y y1 y2 => by rw [dSz_N] at y2; exact E4 y y2)
      obtain ⟨s5, v5, S5, q6⟩ := ih (d + 1) (D + 3) s4 (by rw [at4]; omega) (by rw [at4]; exact h1) bd4 (by omega) (by omega) (by rw [at4, dr4]; omega)
      have gc := pgX_b (P := P) (V := V) R.M N 0 (d + 1) (j + 1) (by decide) h1
      rw [at4, dr4] at S5
      have z1 : (Int32.ofNat rr ≤ 0) = False := by rw [show (0 : Int32) = Int32.ofNat 0 from rfl, nn_le (by omega) (by omega)]; exact eq_false (by omega)
      have run : ∀ s6, (∀ Q, mcall (D + 3) 314 [.ref 81, .int (Int32.ofNat (s.dr + (1 + ts cs))), .int v5] (pH h s5) Q = Q none (pH h s6)) → ∀ Q, mcall (D + 4) 323 [.ref 81, .int (Int32.ofNat d)] (pH h s) Q = Q (some (.int (Int32.ofNat (s.dr + (1 + ts cs))))) (pH h s6) := by
        intro s6 y2 Q
        rw [st Q]
        clear R ih T1 t1 t4 a2 a3 a4 E2 E3 E4 gb3 gc st S5 lv
        simp (disch := omega) only [s_323_0, s_323_1, s_323_4, s_323_6, s_323_9, s_323_10, s_323_12, s_323_13, s_323_16, s_323_17, s_323_20, s_323_21, s_323_22, s_323_25, s_323_26, s_323_27, s_323_29, s_323_32, s_323_33, s_323_34, s_323_35, s_323_36, s_323_39, s_323_40, s_323_41, s_323_42, s_323_45, s_323_48, s_323_49, s_323_52, s_323_53, s_323_54, s_323_55, s_323_56, s_323_59, s_323_62, s_323_63, s_323_64, s_323_65, s_323_68, s_323_70, s_323_73, s_323_74, s_323_76, s_323_79, s_323_80, s_323_83, s_323_86, s_323_87, s_323_90, s_323_91, s_323_92, s_323_93, s_323_94, s_323_97, s_323_98, s_323_99, s_323_101, s_323_104, s_323_105, s_323_106, s_323_107, s_323_108, s_323_109, s_323_110, s_323_113, s_323_114, s_323_115, s_323_118, s_323_119, s_323_120, s_323_122, s_323_125, s_323_127, s_323_130, s_323_131, s_323_134, s_323_137, s_323_139, s_323_142, s_323_143, s_323_145, s_323_148, s_323_150, s_323_153, s_323_154, s_323_157, s_323_160, s_323_162, s_323_165, s_323_166, s_323_169, s_323_172, s_323_174, s_323_177, s_323_178, s_323_181, s_323_184, s_323_186, s_323_189, s_323_190, s_323_192, s_323_193, s_323_195, s_323_198, s_323_199, s_323_202, s_323_203, s_323_206, s_323_207, s_323_210, s_323_213, s_323_214, s_323_215, s_323_216, s_323_218, s_323_219, s_323_222, s_323_223, s_323_224, s_323_225, s_323_228, s_323_230, s_323_231, s_323_232, s_323_235, s_323_236, s_323_238, s_323_239, s_323_242, s_323_243, s_323_245, s_323_246, s_323_247, s_323_248, s_323_249, s_323_252, s_323_255, s_323_257, e_323, mv_i_1, mv_l_1, mv_a_1, mv_a_2, mv_a_3, mk2_n, mk2_i, mk2_l, mk2_a, mk2_u, mk2_x, mB_T, mB_F, mS_cons, mS_nil, mSB_T, mSB_F, mca_nil, mca_i, mca_l, mca_r, mca_u, mca_x, mcat_i, mcat_l, mcat_r, mcat_u, mcat_x, mK_some, mK_none, va_rf_s, va_rf_n, lgc_eq, lgc_lt, lgc_gt, lgc_ge, lgc_le, mrd_104, mrd_105, mrd_106, mrd_107, true_and, and_true, and_self, false_and, and_false, true_or, or_true, false_or, or_false, not_true_eq_false, not_false_eq_true, mgb, mga, mgr, mN, reduceCtorEq, ↓reduceIte, eq_self, ge_iff_le, gt_iff_lt, Nat.reduceAdd, Nat.reduceMul, Nat.reduceSub, Nat.reduceLT, Nat.reduceGT, Nat.reduceEqDiff, Nat.reduceLeDiff, Nat.left_eq_add, Nat.add_eq_left, Nat.reduceMod, Nat.reduceDiv, Nat.succ_ne_self, pH_g, pH_r, pH_l, g, r1, g1, l1, pH_9, pH_87, nn_mxT, nn_clamp, bd1, k0, z1, fT, w1', q3, qt, q4, e1', q6, y2]
      generalize pgX K P V N 0 (d + 1) (j + 1) = r at *
      obtain ⟨k, o⟩ := r
      obtain ⟨gc1, gc2, gc3⟩ := gc
      have gc1' : j + 1 ≤ k := gc1
      obtain ⟨U1, U2, U3⟩ := S5
      have U2' : s5.at = k := U2
      have m5 : pSm s.dr s s5 := fun y hy => pE_t (T1 y hy) (pE_t (E4 y (by omega)) (U1 y (by omega)))
      have a5 := nf_S a4 U1 (by omega)
      rcases U3 with ⟨n', cs', o2, bd5, fl5, dr5, t5, vv⟩ | ⟨o2, bd5, fl5, dr5, dr5', vv⟩
      · have o2' : o = some (tNd n' cs') := o2
        subst o2'
        have gs2 : 1 + ts cs' ≤ 2 * (k - (j + 1)) := (gc3 (tNd n' cs') rfl).2.1
        have gk : k < m := gc2
        have ob' := dOf_b (n := n') (cs := cs')
        subst vv
        have nF : ¬ Int32.ofNat (s.dr + dOf n cs) = -1 := ofn_m (by omega)
        have q7 := c_314 (D := D + 3) (s := s5) R.F (o := s.dr + (1 + ts cs)) (y := s.dr + (1 + ts cs) + 1 + dOf n' cs') (by omega) (by omega) (fun _ => ⟨s.dr + dOf n cs, by omega, a5.2.2.2.2.1⟩)
        obtain ⟨j1, j2, j3, j4⟩ := jn_f (s := s5) (o := s.dr + (1 + ts cs)) (y := s.dr + (1 + ts cs) + 1 + dOf n' cs')
        obtain ⟨s6, hs6⟩ : ∃ x : pst, x = s5.jn (s.dr + (1 + ts cs)) (s.dr + (1 + ts cs) + 1 + dOf n' cs') := ⟨_, rfl⟩
        rw [← hs6] at q7 j1 j2 j3 j4
        have a6 : nf s6 (s.dr + (1 + ts cs)) (Int32.ofNat rr) (Int32.ofNat (tP n)) 0 (Int32.ofNat (s.dr + dOf n cs)) (Int32.ofNat (s.dr + (1 + ts cs) + 1 + dOf n' cs')) (-1) := by rw [hs6]; exact jn2_n a5 nF (by omega) (by omega)
        have E6 : ∀ z, z ≠ s.dr + (1 + ts cs) → z ≠ s.dr + dOf n cs → pE s5 s6 z := fun z z1 z2 => by rw [hs6]; exact jn2_E a5 nF (by omega) z1 z2
        have X6 := jn2_x (y := s.dr + (1 + ts cs) + 1 + dOf n' cs') a5 nF (by omega)
        rw [← hs6] at X6
        have m6 : pSm s.dr s s6 := fun y hy => pE_t (m5 y hy) (E6 y (by omega) (by omega))
        have t5' : s5.dq (tNd n cs) true s.dr (-1) := dq_S t4 (fun y y1 y2 => by rw [dSz_N] at y2; exact U1 y (by omega))
        have t7 : s6.dq (.branch n cs (tNd n' cs')) true s.dr (dHd (tNd n' cs') (s.dr + (1 + ts cs) + 1)) := by
          refine dq_o (r := .leaf ()) (dq_n (x := -1) (fun y y1 y2 => ?_) X6.1 t5')
          obtain ⟨u1, u2, u3, u4, u5⟩ := X6.2 y
          exact ⟨u1, u2, u3, u4, u5⟩
        have t8 : s6.dq (tNd n' cs') true (s.dr + (1 + ts cs) + 1) (-1) := dq_S t5 (fun y y1 y2 => E6 y (by omega) (by omega))
        have tp : tP n < 65536 := by unfold tP; omega
        have r64 : rr < 64 := by omega
        have c1 : dSc (tE rr (tP n) 0) (.branch n cs (tNd n' cs')) = 1 := by
          unfold dSc
          rw [tE_K r64, if_neg (by omega), if_pos (by omega)]
        have dt : s6.dq (tNd (tE rr (tP n) 0) (.branch n cs (tNd n' cs'))) true s.dr (-1) := dq_m1 (c := cs) (r' := tNd n' cs') a6 (by rw [tE_K r64]) (by rw [tE_P r64 tp]) (by rw [tE_V r64 tp]; rfl) c1 rfl rfl t7 (dq_1 t8)
        have ST := SR_ok (P := P) (i := s.at) m6 (j1.trans U2') (j2.trans bd5) ((j3.trans fl5).trans fl4) (by rw [j4, dr5]; show _ = s.dr + (1 + (1 + ts cs + (1 + ts cs' + 0))); omega) dt
        rw [dOf_1 c1] at ST
        exact ⟨_, _, ST, run _ q7⟩
      · have o2' : o = none := o2
        subst o2'
        have gk : k < m := gc2
        have dr6' : s5.dr ≤ s.dr + (1 + ts cs) + 1 + 2 * (k - (j + 1)) + 4 := dr5'
        obtain ⟨s6, w1, w2, w3, w4, w5, -, w6⟩ := bad_j R.F m5 bd5 (by omega : s.dr ≤ s.dr + (1 + ts cs)) (by omega) (by omega) a5 (Or.inr ⟨ofn_m (by omega), s.dr + dOf n cs, rfl, by omega, by omega⟩) vv
        exact ⟨_, _, SR_no w1 (w2.trans U2') w3 (w4.trans fl5) (by omega) (by omega) (Or.inr ⟨_, rfl, by omega⟩), run _ (w6 (D + 3))⟩
  · have o1' : o = none := o1
    subst o1'
    rw [lk_b bd1] at st
    rw [bd1, if_pos rfl] at f0
    have z0 : (Int32.ofNat (relK 1) ≤ 0) = True := by decide
    refine ⟨_, -1, SR_no T1 T2' bd1 fl1 dr1 dr1' (Or.inl rfl), fun Q => ?_⟩
    rw [st Q]
    clear R ih T1 gb3 lv st
    simp (disch := omega) only [s_323_0, s_323_1, s_323_4, s_323_6, s_323_9, s_323_10, s_323_12, s_323_13, s_323_16, s_323_17, s_323_20, s_323_21, s_323_22, s_323_25, s_323_26, s_323_27, s_323_29, s_323_32, s_323_33, s_323_34, s_323_35, s_323_36, s_323_39, s_323_40, s_323_41, s_323_42, s_323_45, s_323_48, s_323_49, s_323_52, s_323_53, s_323_54, s_323_55, s_323_56, s_323_59, s_323_62, s_323_63, s_323_64, s_323_65, s_323_68, s_323_70, s_323_73, s_323_74, s_323_76, s_323_79, s_323_80, s_323_83, s_323_86, s_323_87, s_323_90, s_323_91, s_323_92, s_323_93, s_323_94, s_323_97, s_323_98, s_323_99, s_323_101, s_323_104, s_323_105, s_323_106, s_323_107, s_323_108, s_323_109, s_323_110, s_323_113, s_323_114, s_323_115, s_323_118, s_323_119, s_323_120, s_323_122, s_323_125, s_323_127, s_323_130, s_323_131, s_323_134, s_323_137, s_323_139, s_323_142, s_323_143, s_323_145, s_323_148, s_323_150, s_323_153, s_323_154, s_323_157, s_323_160, s_323_162, s_323_165, s_323_166, s_323_169, s_323_172, s_323_174, s_323_177, s_323_178, s_323_181, s_323_184, s_323_186, s_323_189, s_323_190, s_323_192, s_323_193, s_323_195, s_323_198, s_323_199, s_323_202, s_323_203, s_323_206, s_323_207, s_323_210, s_323_213, s_323_214, s_323_215, s_323_216, s_323_218, s_323_219, s_323_222, s_323_223, s_323_224, s_323_225, s_323_228, s_323_230, s_323_231, s_323_232, s_323_235, s_323_236, s_323_238, s_323_239, s_323_242, s_323_243, s_323_245, s_323_246, s_323_247, s_323_248, s_323_249, s_323_252, s_323_255, s_323_257, e_323, mv_i_1, mv_l_1, mv_a_1, mv_a_2, mv_a_3, mk2_n, mk2_i, mk2_l, mk2_a, mk2_u, mk2_x, mB_T, mB_F, mS_cons, mS_nil, mSB_T, mSB_F, mca_nil, mca_i, mca_l, mca_r, mca_u, mca_x, mcat_i, mcat_l, mcat_r, mcat_u, mcat_x, mK_some, mK_none, va_rf_s, va_rf_n, lgc_eq, lgc_lt, lgc_gt, lgc_ge, lgc_le, mrd_104, mrd_105, mrd_106, mrd_107, true_and, and_true, and_self, false_and, and_false, true_or, or_true, false_or, or_false, not_true_eq_false, not_false_eq_true, mgb, mga, mgr, mN, reduceCtorEq, ↓reduceIte, eq_self, ge_iff_le, gt_iff_lt, Nat.reduceAdd, Nat.reduceMul, Nat.reduceSub, Nat.reduceLT, Nat.reduceGT, Nat.reduceEqDiff, Nat.reduceLeDiff, Nat.left_eq_add, Nat.add_eq_left, Nat.reduceMod, Nat.reduceDiv, Nat.succ_ne_self, pH_g, g, pH_9, z0, f0, bd1, k1, n1]
end PUs
