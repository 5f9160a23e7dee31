set_option maxRecDepth 100000
/-! the class's machine: reckon, one code -/
section RKs
variable {d : Nat} {h h1 : mh_H} {Y C SC nC nS nb na p gv H c sum k Ke : Nat} {x w : Int32} {x4 x5 : Option Value}
abbrev rkL (sum Y k : Nat) (x4 x5 : Option Value) : me_L := [some (.ref 67), some (.int (Int32.ofNat sum)), some (.ref Y), some (.int (Int32.ofNat k)), x4, x5]
theorem kx_0 (B : MB h Y C SC nC nS nb na p gv) (hs : sum + 1 < nS) (hKe : mh_i h SC (sum + 1) = Int32.ofNat Ke) (hk : k < Ke) (hC : 3 * Ke ≤ nC) (e10 : mh_i h 67 10 = 0) : ∀ Q, mw (d + 3) 37 Q 20 (rkL sum Y k x4 x5) [] h = mw (d + 3) 37 Q 71 (rkL sum Y k (some (.int (mh_i h C (3 * k + 1)))) (some (.int (mh_i h C (3 * k + 2))))) [.int (mh_i h C (3 * k))] h := fun Q => by
  have bC := B.bC
  have bS := B.bS
  have g := B.g
  have gY := B.gY
  have y0 := B.y0
  have y6 := B.y6
  have gC := B.gC
  have lC := B.lC
  have gS := B.gS
  have lS := B.lS
  have es : Int32.ofNat sum + 1 = Int32.ofNat (sum + 1) := nn_add (a := sum) (b := 1)
  have e3 : (3 : Int32) * Int32.ofNat k = Int32.ofNat (3 * k) := nn_mul (a := 3) (b := k)
  have e1 : Int32.ofNat (3 * k) + 1 = Int32.ofNat (3 * k + 1) := nn_add (a := 3 * k) (b := 1)
  have e2 : Int32.ofNat (3 * k) + 2 = Int32.ofNat (3 * k + 2) := nn_add (a := 3 * k) (b := 2)
  have le : (Ke ≤ k) = False := eq_false (by omega)
  have e00 : ((0 : Int32) = 0) = True := by decide
  clear B
  rw [s_37_20]
  simp (disch := omega) only [s_37_0, s_37_1, s_37_4, s_37_7, s_37_7n, s_37_8, s_37_9, s_37_10, s_37_13, s_37_14, s_37_17, s_37_18, s_37_19, s_37_21, s_37_22, s_37_25, s_37_26, s_37_27, s_37_28, s_37_29, s_37_32, s_37_33, s_37_36, s_37_39, s_37_40, s_37_43, s_37_44, s_37_45, s_37_46, s_37_47, s_37_48, s_37_49, s_37_51, s_37_52, s_37_55, s_37_56, s_37_57, s_37_58, s_37_59, s_37_60, s_37_61, s_37_63, s_37_64, s_37_67, s_37_68, s_37_69, s_37_70, s_37_104, s_37_105, s_37_107, s_37_110, s_37_113, s_37_114, s_37_115, s_37_118, s_37_119, s_37_122, s_37_125, s_37_126, s_37_129, s_37_130, s_37_132, s_37_133, s_37_134, s_37_137, s_37_140, s_37_141, s_37_142, s_37_144, s_37_146, s_37_149, s_37_152, s_37_155, s_37_156, s_37_157, s_37_160, s_37_163, s_37_164, s_37_167, s_37_168, s_37_170, s_37_171, s_37_173, s_37_176, s_37_179, s_37_180, s_37_181, s_37_184, s_37_185, s_37_186, s_37_189, s_37_190, s_37_191, s_37_194, s_37_195, s_37_198, s_37_199, s_37_200, s_37_201, s_37_204, s_37_207, s_37_208, s_37_209, s_37_212, s_37_213, s_37_214, s_37_217, s_37_218, s_37_219, s_37_222, s_37_223, s_37_224, s_37_225, s_37_226, s_37_227, s_37_230, s_37_231, s_37_234, s_37_235, s_37_236, s_37_237, s_37_240, s_37_241, s_37_244, s_37_245, s_37_246, s_37_247, s_37_248, s_37_251, s_37_254, s_37_257, s_37_258, s_37_261, s_37_262, s_37_263, e_37, mv_i_1, mv_l_1, mv_a_1, mv_a_2, mv_a_3, mk2_n, mk2_i, mk2_l, mk2_a, mk2_u, mk2_x, mB_T, mB_F, mS_cons, mS_nil, mSB_T, mSB_F, mca_nil, mca_i, mca_l, mca_r, mca_u, mca_x, mcat_i, mcat_l, mcat_r, mcat_u, mcat_x, mK_some, mK_none, va_rf_s, va_rf_n, lgc_eq, lgc_lt, lgc_gt, lgc_ge, lgc_le, mrd_104, mrd_105, mrd_106, mrd_107, true_and, and_true, and_self, false_and, and_false, true_or, or_true, false_or, or_false, not_true_eq_false, not_false_eq_true, mgb, mga, mgr, mN, reduceCtorEq, ↓reduceIte, eq_self, ge_iff_le, gt_iff_lt, hk_si, hk_sj, hk_sr, hl_si, hl_sj, hl_sr, hn_si, hn_sj, hn_sr, hs_si, hs_sj, hs_sr, hi_sj, hi_sr, hj_si, hj_sr, hr_si, hr_sj, hi_si, hj_sj, hr_sr, mg_si, mg_sj, mg_sr, Nat.reduceAdd, Nat.reduceMul, Nat.reduceSub, Nat.reduceLT, Nat.reduceGT, Nat.reduceEqDiff, Nat.reduceLeDiff, Nat.left_eq_add, Nat.add_eq_left, Nat.reduceMod, Nat.reduceDiv, Nat.succ_ne_self, g, gY, y0, y6, gC, lC, gS, lS, es, hKe, nn_le, le, e10, e00, e3, e1, e2, nn_mxT, nn_clamp]
/-- a trap ends it -/
theorem kx_t (B : MB h Y C SC nC nS nb na p gv) (hs : sum + 1 < nS) (hKe : mh_i h SC (sum + 1) = Int32.ofNat Ke) (hk : k ≤ Ke) (hC : 3 * Ke ≤ nC) (e10 : ¬ mh_i h 67 10 = 0 ∨ k = Ke) : ∀ Q, mw (d + 3) 37 Q 20 (rkL sum Y k x4 x5) [] h = Q (some (.int (mh_i h 72 0))) h := fun Q => by
  have bC := B.bC
  have bS := B.bS
  have g := B.g
  have gY := B.gY
  have y6 := B.y6
  have gS := B.gS
  have lS := B.lS
  have r11 := B.r11
  have g72 := B.g72
  have l72 := B.l72
  have mx0 : mx (0 : Int32) 124 = True := nn_mxT (a := 0) (n := 124) (by omega) (by omega)
  have cl0 : (0 : Int32).toNatClampNeg = 0 := rfl
  have es : Int32.ofNat sum + 1 = Int32.ofNat (sum + 1) := nn_add (a := sum) (b := 1)
  clear B
  by_cases c : k = Ke
  · have le : (Ke ≤ k) = True := eq_true (by omega)
    simp (disch := omega) only [s_37_0, s_37_1, s_37_4, s_37_7, s_37_7n, s_37_8, s_37_9, s_37_10, s_37_13, s_37_14, s_37_17, s_37_18, s_37_19, s_37_20, s_37_21, s_37_22, s_37_25, s_37_26, s_37_27, s_37_28, s_37_29, s_37_32, s_37_33, s_37_36, s_37_39, s_37_40, s_37_43, s_37_44, s_37_45, s_37_46, s_37_47, s_37_48, s_37_49, s_37_51, s_37_52, s_37_55, s_37_56, s_37_57, s_37_58, s_37_59, s_37_60, s_37_61, s_37_63, s_37_64, s_37_67, s_37_68, s_37_69, s_37_70, s_37_71, s_37_104, s_37_105, s_37_107, s_37_110, s_37_113, s_37_114, s_37_115, s_37_118, s_37_119, s_37_122, s_37_125, s_37_126, s_37_129, s_37_130, s_37_132, s_37_133, s_37_134, s_37_137, s_37_140, s_37_141, s_37_142, s_37_144, s_37_146, s_37_149, s_37_152, s_37_155, s_37_156, s_37_157, s_37_160, s_37_163, s_37_164, s_37_167, s_37_168, s_37_170, s_37_171, s_37_173, s_37_176, s_37_179, s_37_180, s_37_181, s_37_184, s_37_185, s_37_186, s_37_189, s_37_190, s_37_191, s_37_194, s_37_195, s_37_198, s_37_199, s_37_200, s_37_201, s_37_204, s_37_207, s_37_208, s_37_209, s_37_212, s_37_213, s_37_214, s_37_217, s_37_218, s_37_219, s_37_222, s_37_223, s_37_224, s_37_225, s_37_226, s_37_227, s_37_230, s_37_231, s_37_234, s_37_235, s_37_236, s_37_237, s_37_240, s_37_241, s_37_244, s_37_245, s_37_246, s_37_247, s_37_248, s_37_251, s_37_254, s_37_257, s_37_258, s_37_261, s_37_262, s_37_263, e_37, mv_i_1, mv_l_1, mv_a_1, mv_a_2, mv_a_3, mk2_n, mk2_i, mk2_l, mk2_a, mk2_u, mk2_x, mB_T, mB_F, mS_cons, mS_nil, mSB_T, mSB_F, mca_nil, mca_i, mca_l, mca_r, mca_u, mca_x, mcat_i, mcat_l, mcat_r, mcat_u, mcat_x, mK_some, mK_none, va_rf_s, va_rf_n, lgc_eq, lgc_lt, lgc_gt, lgc_ge, lgc_le, mrd_104, mrd_105, mrd_106, mrd_107, true_and, and_true, and_self, false_and, and_false, true_or, or_true, false_or, or_false, not_true_eq_false, not_false_eq_true, mgb, mga, mgr, mN, reduceCtorEq, ↓reduceIte, eq_self, ge_iff_le, gt_iff_lt, hk_si, hk_sj, hk_sr, hl_si, hl_sj, hl_sr, hn_si, hn_sj, hn_sr, hs_si, hs_sj, hs_sr, hi_sj, hi_sr, hj_si, hj_sr, hr_si, hr_sj, hi_si, hj_sj, hr_sr, mg_si, mg_sj, mg_sr, Nat.reduceAdd, Nat.reduceMul, Nat.reduceSub, Nat.reduceLT, Nat.reduceGT, Nat.reduceEqDiff, Nat.reduceLeDiff, Nat.left_eq_add, Nat.add_eq_left, Nat.reduceMod, Nat.reduceDiv, Nat.succ_ne_self, g, gY, y6, gS, lS, es, hKe, nn_le, le, r11, g72, l72, mx0, cl0, nn_mxT, nn_clamp]
  · have le : (Ke ≤ k) = False := eq_false (by omega)
    have t0 : (mh_i h 67 10 = 0) = False := eq_false (e10.resolve_right c)
    simp (disch := omega) only [s_37_0, s_37_1, s_37_4, s_37_7, s_37_7n, s_37_8, s_37_9, s_37_10, s_37_13, s_37_14, s_37_17, s_37_18, s_37_19, s_37_20, s_37_21, s_37_22, s_37_25, s_37_26, s_37_27, s_37_28, s_37_29, s_37_32, s_37_33, s_37_36, s_37_39, s_37_40, s_37_43, s_37_44, s_37_45, s_37_46, s_37_47, s_37_48, s_37_49, s_37_51, s_37_52, s_37_55, s_37_56, s_37_57, s_37_58, s_37_59, s_37_60, s_37_61, s_37_63, s_37_64, s_37_67, s_37_68, s_37_69, s_37_70, s_37_71, s_37_104, s_37_105, s_37_107, s_37_110, s_37_113, s_37_114, s_37_115, s_37_118, s_37_119, s_37_122, s_37_125, s_37_126, s_37_129, s_37_130, s_37_132, s_37_133, s_37_134, s_37_137, s_37_140, s_37_141, s_37_142, s_37_144, s_37_146, s_37_149, s_37_152, s_37_155, s_37_156, s_37_157, s_37_160, s_37_163, s_37_164, s_37_167, s_37_168, s_37_170, s_37_171, s_37_173, s_37_176, s_37_179, s_37_180, s_37_181, s_37_184, s_37_185, s_37_186, s_37_189, s_37_190, s_37_191, s_37_194, s_37_195, s_37_198, s_37_199, s_37_200, s_37_201, s_37_204, s_37_207, s_37_208, s_37_209, s_37_212, s_37_213, s_37_214, s_37_217, s_37_218, s_37_219, s_37_222, s_37_223, s_37_224, s_37_225, s_37_226, s_37_227, s_37_230, s_37_231, s_37_234, s_37_235, s_37_236, s_37_237, s_37_240, s_37_241, s_37_244, s_37_245, s_37_246, s_37_247, s_37_248, s_37_251, s_37_254, s_37_257, s_37_258, s_37_261, s_37_262, s_37_263, e_37, mv_i_1, mv_l_1, mv_a_1, mv_a_2, mv_a_3, mk2_n, mk2_i, mk2_l, mk2_a, mk2_u, mk2_x, mB_T, mB_F, mS_cons, mS_nil, mSB_T, mSB_F, mca_nil, mca_i, mca_l, mca_r, mca_u, mca_x, mcat_i, mcat_l, mcat_r, mcat_u, mcat_x, mK_some, mK_none, va_rf_s, va_rf_n, lgc_eq, lgc_lt, lgc_gt, lgc_ge, lgc_le, mrd_104, mrd_105, mrd_106, mrd_107, true_and, and_true, and_self, false_and, and_false, true_or, or_true, false_or, or_false, not_true_eq_false, not_false_eq_true, mgb, mga, mgr, mN, reduceCtorEq, ↓reduceIte, eq_self, ge_iff_le, gt_iff_lt, hk_si, hk_sj, hk_sr, hl_si, hl_sj, hl_sr, hn_si, hn_sj, hn_sr, hs_si, hs_sj, hs_sr, hi_sj, hi_sr, hj_si, hj_sr, hr_si, hr_sj, hi_si, hj_sj, hr_sr, mg_si, mg_sj, mg_sr, Nat.reduceAdd, Nat.reduceMul, Nat.reduceSub, Nat.reduceLT, Nat.reduceGT, Nat.reduceEqDiff, Nat.reduceLeDiff, Nat.left_eq_add, Nat.add_eq_left, Nat.reduceMod, Nat.reduceDiv, Nat.succ_ne_self, g, gY, y6, gS, lS, es, hKe, nn_le, le, t0, r11, g72, l72, mx0, cl0, nn_mxT, nn_clamp]
/-- LITERAL -/
theorem kx_1 (B : MB h Y C SC nC nS nb na p gv) (hk : k < 1000000) (e12 : mh_i h 67 12 = Int32.ofNat H) (hH : H < 124) : ∀ Q, mw (d + 3) 37 Q 71 (rkL sum Y k (some (.int x)) (some (.int w))) [.int 1] h = mw (d + 3) 37 Q 20 (rkL sum Y (k + 1) (some (.int x)) (some (.int w))) [] (psH h H x) := fun Q => by
  have g := B.g
  have c38 := c_38 (d := d + 2) (x := x) B e12 hH
  have ei : Int32.ofNat k + 1 = Int32.ofNat (k + 1) := nn_add (a := k) (b := 1)
  clear B
  simp (disch := omega) only [s_37_0, s_37_1, s_37_4, s_37_7, s_37_7n, s_37_8, s_37_9, s_37_10, s_37_13, s_37_14, s_37_17, s_37_18, s_37_19, s_37_21, s_37_22, s_37_25, s_37_26, s_37_27, s_37_28, s_37_29, s_37_32, s_37_33, s_37_36, s_37_39, s_37_40, s_37_43, s_37_44, s_37_45, s_37_46, s_37_47, s_37_48, s_37_49, s_37_51, s_37_52, s_37_55, s_37_56, s_37_57, s_37_58, s_37_59, s_37_60, s_37_61, s_37_63, s_37_64, s_37_67, s_37_68, s_37_69, s_37_70, s_37_71, s_37_104, s_37_105, s_37_107, s_37_110, s_37_113, s_37_114, s_37_115, s_37_118, s_37_119, s_37_122, s_37_125, s_37_126, s_37_129, s_37_130, s_37_132, s_37_133, s_37_134, s_37_137, s_37_140, s_37_141, s_37_142, s_37_144, s_37_146, s_37_149, s_37_152, s_37_155, s_37_156, s_37_157, s_37_160, s_37_163, s_37_164, s_37_167, s_37_168, s_37_170, s_37_171, s_37_173, s_37_176, s_37_179, s_37_180, s_37_181, s_37_184, s_37_185, s_37_186, s_37_189, s_37_190, s_37_191, s_37_194, s_37_195, s_37_198, s_37_199, s_37_200, s_37_201, s_37_204, s_37_207, s_37_208, s_37_209, s_37_212, s_37_213, s_37_214, s_37_217, s_37_218, s_37_219, s_37_222, s_37_223, s_37_224, s_37_225, s_37_226, s_37_227, s_37_230, s_37_231, s_37_234, s_37_235, s_37_236, s_37_237, s_37_240, s_37_241, s_37_244, s_37_245, s_37_246, s_37_247, s_37_248, s_37_251, s_37_254, s_37_257, s_37_258, s_37_261, s_37_262, s_37_263, e_37, mv_i_1, mv_l_1, mv_a_1, mv_a_2, mv_a_3, mk2_n, mk2_i, mk2_l, mk2_a, mk2_u, mk2_x, mB_T, mB_F, mS_cons, mS_nil, mSB_T, mSB_F, mca_nil, mca_i, mca_l, mca_r, mca_u, mca_x, mcat_i, mcat_l, mcat_r, mcat_u, mcat_x, mK_some, mK_none, va_rf_s, va_rf_n, lgc_eq, lgc_lt, lgc_gt, lgc_ge, lgc_le, mrd_104, mrd_105, mrd_106, mrd_107, true_and, and_true, and_self, false_and, and_false, true_or, or_true, false_or, or_false, not_true_eq_false, not_false_eq_true, mgb, mga, mgr, mN, reduceCtorEq, ↓reduceIte, eq_self, ge_iff_le, gt_iff_lt, hk_si, hk_sj, hk_sr, hl_si, hl_sj, hl_sr, hn_si, hn_sj, hn_sr, hs_si, hs_sj, hs_sr, hi_sj, hi_sr, hj_si, hj_sr, hr_si, hr_sj, hi_si, hj_sj, hr_sr, mg_si, mg_sj, mg_sr, Nat.reduceAdd, Nat.reduceMul, Nat.reduceSub, Nat.reduceLT, Nat.reduceGT, Nat.reduceEqDiff, Nat.reduceLeDiff, Nat.left_eq_add, Nat.add_eq_left, Nat.reduceMod, Nat.reduceDiv, Nat.succ_ne_self, g, c38, ei]
/-- NUMBER -/
theorem kx_2 (B : MB h Y C SC nC nS nb na p gv) (hk : k < 1000000) (e12 : mh_i h 67 12 = Int32.ofNat H) (hH : H < 124) {s : Nat} (hs : nb + s < 12) : ∀ Q, mw (d + 3) 37 Q 71 (rkL sum Y k (some (.int (Int32.ofNat s))) (some (.int w))) [.int 2] h = mw (d + 3) 37 Q 20 (rkL sum Y (k + 1) (some (.int (Int32.ofNat s))) (some (.int w))) [] (psH h H (mh_i h 69 (nb + s))) := fun Q => by
  have g := B.g
  have c38 := c_38 (d := d + 2) (x := mh_i h 69 (nb + s)) B e12 hH
  have ei : Int32.ofNat k + 1 = Int32.ofNat (k + 1) := nn_add (a := k) (b := 1)
  have ea : Int32.ofNat nb + Int32.ofNat s = Int32.ofNat (nb + s) := nn_add
  have r0 := B.r0
  have r6 := B.r6
  have g2 := B.g2
  have r24 := B.r24
  have g21 := B.g21
  have l21 := B.l21
  have g69 := B.g69
  have l69 := B.l69
  have f4 := B.p4
  have pb := B.pb
  have i21 := B.i21
  have n1 : ((2 : Int32) = 1) = False := by decide
  clear B
  simp (disch := omega) only [s_37_0, s_37_1, s_37_4, s_37_7, s_37_7n, s_37_8, s_37_9, s_37_10, s_37_13, s_37_14, s_37_17, s_37_18, s_37_19, s_37_21, s_37_22, s_37_25, s_37_26, s_37_27, s_37_28, s_37_29, s_37_32, s_37_33, s_37_36, s_37_39, s_37_40, s_37_43, s_37_44, s_37_45, s_37_46, s_37_47, s_37_48, s_37_49, s_37_51, s_37_52, s_37_55, s_37_56, s_37_57, s_37_58, s_37_59, s_37_60, s_37_61, s_37_63, s_37_64, s_37_67, s_37_68, s_37_69, s_37_70, s_37_71, s_37_104, s_37_105, s_37_107, s_37_110, s_37_113, s_37_114, s_37_115, s_37_118, s_37_119, s_37_122, s_37_125, s_37_126, s_37_129, s_37_130, s_37_132, s_37_133, s_37_134, s_37_137, s_37_140, s_37_141, s_37_142, s_37_144, s_37_146, s_37_149, s_37_152, s_37_155, s_37_156, s_37_157, s_37_160, s_37_163, s_37_164, s_37_167, s_37_168, s_37_170, s_37_171, s_37_173, s_37_176, s_37_179, s_37_180, s_37_181, s_37_184, s_37_185, s_37_186, s_37_189, s_37_190, s_37_191, s_37_194, s_37_195, s_37_198, s_37_199, s_37_200, s_37_201, s_37_204, s_37_207, s_37_208, s_37_209, s_37_212, s_37_213, s_37_214, s_37_217, s_37_218, s_37_219, s_37_222, s_37_223, s_37_224, s_37_225, s_37_226, s_37_227, s_37_230, s_37_231, s_37_234, s_37_235, s_37_236, s_37_237, s_37_240, s_37_241, s_37_244, s_37_245, s_37_246, s_37_247, s_37_248, s_37_251, s_37_254, s_37_257, s_37_258, s_37_261, s_37_262, s_37_263, e_37, mv_i_1, mv_l_1, mv_a_1, mv_a_2, mv_a_3, mk2_n, mk2_i, mk2_l, mk2_a, mk2_u, mk2_x, mB_T, mB_F, mS_cons, mS_nil, mSB_T, mSB_F, mca_nil, mca_i, mca_l, mca_r, mca_u, mca_x, mcat_i, mcat_l, mcat_r, mcat_u, mcat_x, mK_some, mK_none, va_rf_s, va_rf_n, lgc_eq, lgc_lt, lgc_gt, lgc_ge, lgc_le, mrd_104, mrd_105, mrd_106, mrd_107, true_and, and_true, and_self, false_and, and_false, true_or, or_true, false_or, or_false, not_true_eq_false, not_false_eq_true, mgb, mga, mgr, mN, reduceCtorEq, ↓reduceIte, eq_self, ge_iff_le, gt_iff_lt, hk_si, hk_sj, hk_sr, hl_si, hl_sj, hl_sr, hn_si, hn_sj, hn_sr, hs_si, hs_sj, hs_sr, hi_sj, hi_sr, hj_si, hj_sr, hr_si, hr_sj, hi_si, hj_sj, hr_sr, mg_si, mg_sj, mg_sr, Nat.reduceAdd, Nat.reduceMul, Nat.reduceSub, Nat.reduceLT, Nat.reduceGT, Nat.reduceEqDiff, Nat.reduceLeDiff, Nat.left_eq_add, Nat.add_eq_left, Nat.reduceMod, Nat.reduceDiv, Nat.succ_ne_self, g, n1, r0, r6, g2, r24, g21, l21, f4, i21, g69, l69, ea, c38, ei, nn_mxT, nn_clamp]
/-- INPUT -/
theorem kx_4 (B : MB h Y C SC nC nS nb na p gv) (hk : k < 1000000) (e12 : mh_i h 67 12 = Int32.ofNat H) (hH : H < 124) (e3 : mh_i h 67 3 = Int32.ofNat (min c gv)) {l u : Int32} : ∃ y h1, y.toInt = x_any l.toInt u.toInt (x_in (mh_i h 68) gv c) ∧ fG mcW h h1 ∧ mh_i h1 67 3 = Int32.ofNat (min (c + 1) gv) ∧ mh_i h1 67 10 = mh_i h 67 10 ∧ mh_i h1 67 12 = mh_i h 67 12 ∧ mh_i h1 72 = mh_i h 72 ∧ ∀ Q, mw (d + 3) 37 Q 71 (rkL sum Y k (some (.int l)) (some (.int u))) [.int 4] h = mw (d + 3) 37 Q 20 (rkL sum Y (k + 1) (some (.int l)) (some (.int u))) [] (psH h1 H y) := by
  obtain ⟨y, h1, q1, q2, q3, q4, q5, q6, c40⟩ := c_40 (d := d + 2) B (l := l) (u := u) e3
  refine ⟨y, h1, q1, q2, q3, q4, q5, q6, fun Q => ?_⟩
  have g := B.g
  have B1 := MB_G q2 B
  have g1 := B1.g
  have c38 := c_38 (d := d + 2) (x := y) B1 (q5.trans e12) hH
  have ei : Int32.ofNat k + 1 = Int32.ofNat (k + 1) := nn_add (a := k) (b := 1)
  have n1 : ((4 : Int32) = 1) = False := by decide
  have n2 : ((4 : Int32) = 2) = False := by decide
  have n3 : ((4 : Int32) = 3) = False := by decide
  clear B B1 q1 q2 q3 q4 q5 q6
  simp (disch := omega) only [s_37_0, s_37_1, s_37_4, s_37_7, s_37_7n, s_37_8, s_37_9, s_37_10, s_37_13, s_37_14, s_37_17, s_37_18, s_37_19, s_37_21, s_37_22, s_37_25, s_37_26, s_37_27, s_37_28, s_37_29, s_37_32, s_37_33, s_37_36, s_37_39, s_37_40, s_37_43, s_37_44, s_37_45, s_37_46, s_37_47, s_37_48, s_37_49, s_37_51, s_37_52, s_37_55, s_37_56, s_37_57, s_37_58, s_37_59, s_37_60, s_37_61, s_37_63, s_37_64, s_37_67, s_37_68, s_37_69, s_37_70, s_37_71, s_37_104, s_37_105, s_37_107, s_37_110, s_37_113, s_37_114, s_37_115, s_37_118, s_37_119, s_37_122, s_37_125, s_37_126, s_37_129, s_37_130, s_37_132, s_37_133, s_37_134, s_37_137, s_37_140, s_37_141, s_37_142, s_37_144, s_37_146, s_37_149, s_37_152, s_37_155, s_37_156, s_37_157, s_37_160, s_37_163, s_37_164, s_37_167, s_37_168, s_37_170, s_37_171, s_37_173, s_37_176, s_37_179, s_37_180, s_37_181, s_37_184, s_37_185, s_37_186, s_37_189, s_37_190, s_37_191, s_37_194, s_37_195, s_37_198, s_37_199, s_37_200, s_37_201, s_37_204, s_37_207, s_37_208, s_37_209, s_37_212, s_37_213, s_37_214, s_37_217, s_37_218, s_37_219, s_37_222, s_37_223, s_37_224, s_37_225, s_37_226, s_37_227, s_37_230, s_37_231, s_37_234, s_37_235, s_37_236, s_37_237, s_37_240, s_37_241, s_37_244, s_37_245, s_37_246, s_37_247, s_37_248, s_37_251, s_37_254, s_37_257, s_37_258, s_37_261, s_37_262, s_37_263, e_37, mv_i_1, mv_l_1, mv_a_1, mv_a_2, mv_a_3, mk2_n, mk2_i, mk2_l, mk2_a, mk2_u, mk2_x, mB_T, mB_F, mS_cons, mS_nil, mSB_T, mSB_F, mca_nil, mca_i, mca_l, mca_r, mca_u, mca_x, mcat_i, mcat_l, mcat_r, mcat_u, mcat_x, mK_some, mK_none, va_rf_s, va_rf_n, lgc_eq, lgc_lt, lgc_gt, lgc_ge, lgc_le, mrd_104, mrd_105, mrd_106, mrd_107, true_and, and_true, and_self, false_and, and_false, true_or, or_true, false_or, or_false, not_true_eq_false, not_false_eq_true, mgb, mga, mgr, mN, reduceCtorEq, ↓reduceIte, eq_self, ge_iff_le, gt_iff_lt, hk_si, hk_sj, hk_sr, hl_si, hl_sj, hl_sr, hn_si, hn_sj, hn_sr, hs_si, hs_sj, hs_sr, hi_sj, hi_sr, hj_si, hj_sr, hr_si, hr_sj, hi_si, hj_sj, hr_sr, mg_si, mg_sj, mg_sr, Nat.reduceAdd, Nat.reduceMul, Nat.reduceSub, Nat.reduceLT, Nat.reduceGT, Nat.reduceEqDiff, Nat.reduceLeDiff, Nat.left_eq_add, Nat.add_eq_left, Nat.reduceMod, Nat.reduceDiv, Nat.succ_ne_self, g, n1, n2, n3, c40, g1, c38, ei]
/-- ARRAY -/
theorem kx_3 (B : MB h Y C SC nC nS nb na p gv) (hk : k < 1000000) (e12 : mh_i h 67 12 = Int32.ofNat (H + 1)) (hH : H < 124) (e10 : mh_i h 67 10 = 0) {s z : Nat} (hs : na + s < 6) (hz : z ≤ 64) : ∀ Q, mw (d + 3) 37 Q 71 (rkL sum Y k (some (.int (Int32.ofNat s))) (some (.int (Int32.ofNat z)))) [.int 3] h = mw (d + 3) 37 Q 20 (rkL sum Y (k + 1) (some (.int (Int32.ofNat s))) (some (.int (Int32.ofNat z)))) [] (if (mh_i h 72 H).toInt < 0 ∨ (z : Int) ≤ (mh_i h 72 H).toInt then mh_si h 67 10 4 else mh_si h 72 H (mh_i h 70 (64 * (na + s) + (mh_i h 72 H).toInt.toNat))) := fun Q => by
  have g := B.g
  have c41 := c_41 (d := d + 1) (a := na + s) (z := z) B e12 hH e10 hs hz
  have ei : Int32.ofNat k + 1 = Int32.ofNat (k + 1) := nn_add (a := k) (b := 1)
  have ea : Int32.ofNat na + Int32.ofNat s = Int32.ofNat (na + s) := nn_add
  have r0 := B.r0
  have g2 := B.g2
  have r25 := B.r25
  have g22 := B.g22
  have l22 := B.l22
  have f4 := B.p4
  have pb := B.pb
  have i22 := B.i22
  have n1 : ((3 : Int32) = 1) = False := by decide
  have n2 : ((3 : Int32) = 2) = False := by decide
  clear B
  simp (disch := omega) only [s_37_0, s_37_1, s_37_4, s_37_7, s_37_7n, s_37_8, s_37_9, s_37_10, s_37_13, s_37_14, s_37_17, s_37_18, s_37_19, s_37_21, s_37_22, s_37_25, s_37_26, s_37_27, s_37_28, s_37_29, s_37_32, s_37_33, s_37_36, s_37_39, s_37_40, s_37_43, s_37_44, s_37_45, s_37_46, s_37_47, s_37_48, s_37_49, s_37_51, s_37_52, s_37_55, s_37_56, s_37_57, s_37_58, s_37_59, s_37_60, s_37_61, s_37_63, s_37_64, s_37_67, s_37_68, s_37_69, s_37_70, s_37_71, s_37_104, s_37_105, s_37_107, s_37_110, s_37_113, s_37_114, s_37_115, s_37_118, s_37_119, s_37_122, s_37_125, s_37_126, s_37_129, s_37_130, s_37_132, s_37_133, s_37_134, s_37_137, s_37_140, s_37_141, s_37_142, s_37_144, s_37_146, s_37_149, s_37_152, s_37_155, s_37_156, s_37_157, s_37_160, s_37_163, s_37_164, s_37_167, s_37_168, s_37_170, s_37_171, s_37_173, s_37_176, s_37_179, s_37_180, s_37_181, s_37_184, s_37_185, s_37_186, s_37_189, s_37_190, s_37_191, s_37_194, s_37_195, s_37_198, s_37_199, s_37_200, s_37_201, s_37_204, s_37_207, s_37_208, s_37_209, s_37_212, s_37_213, s_37_214, s_37_217, s_37_218, s_37_219, s_37_222, s_37_223, s_37_224, s_37_225, s_37_226, s_37_227, s_37_230, s_37_231, s_37_234, s_37_235, s_37_236, s_37_237, s_37_240, s_37_241, s_37_244, s_37_245, s_37_246, s_37_247, s_37_248, s_37_251, s_37_254, s_37_257, s_37_258, s_37_261, s_37_262, s_37_263, e_37, mv_i_1, mv_l_1, mv_a_1, mv_a_2, mv_a_3, mk2_n, mk2_i, mk2_l, mk2_a, mk2_u, mk2_x, mB_T, mB_F, mS_cons, mS_nil, mSB_T, mSB_F, mca_nil, mca_i, mca_l, mca_r, mca_u, mca_x, mcat_i, mcat_l, mcat_r, mcat_u, mcat_x, mK_some, mK_none, va_rf_s, va_rf_n, lgc_eq, lgc_lt, lgc_gt, lgc_ge, lgc_le, mrd_104, mrd_105, mrd_106, mrd_107, true_and, and_true, and_self, false_and, and_false, true_or, or_true, false_or, or_false, not_true_eq_false, not_false_eq_true, mgb, mga, mgr, mN, reduceCtorEq, ↓reduceIte, eq_self, ge_iff_le, gt_iff_lt, hk_si, hk_sj, hk_sr, hl_si, hl_sj, hl_sr, hn_si, hn_sj, hn_sr, hs_si, hs_sj, hs_sr, hi_sj, hi_sr, hj_si, hj_sr, hr_si, hr_sj, hi_si, hj_sj, hr_sr, mg_si, mg_sj, mg_sr, Nat.reduceAdd, Nat.reduceMul, Nat.reduceSub, Nat.reduceLT, Nat.reduceGT, Nat.reduceEqDiff, Nat.reduceLeDiff, Nat.left_eq_add, Nat.add_eq_left, Nat.reduceMod, Nat.reduceDiv, Nat.succ_ne_self, g, n1, n2, r0, g2, r25, g22, l22, f4, i22, ea, c41, ei, nn_mxT, nn_clamp]
/-- NEGATE -/
theorem kx_5 (B : MB h Y C SC nC nS nb na p gv) (hk : k < 1000000) (e12 : mh_i h 67 12 = Int32.ofNat (H + 1)) (hH : H < 124) (e10 : mh_i h 67 10 = 0) : ∀ Q, mw (d + 3) 37 Q 71 (rkL sum Y k (some (.int x)) (some (.int w))) [.int 5] h = mw (d + 3) 37 Q 20 (rkL sum Y (k + 1) (some (.int x)) (some (.int w))) [] (piH (mh_si h 67 12 (Int32.ofNat H)) H (-(mh_i h 72 H).toInt64)) := fun Q => by
  have g := B.g
  have f0 : fG mcW h (mh_si h 67 12 (Int32.ofNat H)) := fG_si (Or.inr ⟨rfl, by omega⟩)
  have c39 := c_39 (d := d + 1) (v := -(mh_i h 72 H).toInt64) (MB_G f0 B) (by rw [hi_si, if_pos ⟨rfl, rfl⟩]) hH (by rw [hi_si, if_neg (by omega)]; exact e10)
  have es : Int32.ofNat (H + 1) - 1 = Int32.ofNat H := nn_sub (a := H + 1) (b := 1) (by omega)
  have ei : Int32.ofNat k + 1 = Int32.ofNat (k + 1) := nn_add (a := k) (b := 1)
  have r11 := B.r11
  have g72 := B.g72
  have l72 := B.l72
  have n1 : ((5 : Int32) = 1) = False := by decide
  have n2 : ((5 : Int32) = 2) = False := by decide
  have n3 : ((5 : Int32) = 3) = False := by decide
  have n4 : ((5 : Int32) = 4) = False := by decide
  clear B f0
  simp (disch := omega) only [s_37_0, s_37_1, s_37_4, s_37_7, s_37_7n, s_37_8, s_37_9, s_37_10, s_37_13, s_37_14, s_37_17, s_37_18, s_37_19, s_37_21, s_37_22, s_37_25, s_37_26, s_37_27, s_37_28, s_37_29, s_37_32, s_37_33, s_37_36, s_37_39, s_37_40, s_37_43, s_37_44, s_37_45, s_37_46, s_37_47, s_37_48, s_37_49, s_37_51, s_37_52, s_37_55, s_37_56, s_37_57, s_37_58, s_37_59, s_37_60, s_37_61, s_37_63, s_37_64, s_37_67, s_37_68, s_37_69, s_37_70, s_37_71, s_37_104, s_37_105, s_37_107, s_37_110, s_37_113, s_37_114, s_37_115, s_37_118, s_37_119, s_37_122, s_37_125, s_37_126, s_37_129, s_37_130, s_37_132, s_37_133, s_37_134, s_37_137, s_37_140, s_37_141, s_37_142, s_37_144, s_37_146, s_37_149, s_37_152, s_37_155, s_37_156, s_37_157, s_37_160, s_37_163, s_37_164, s_37_167, s_37_168, s_37_170, s_37_171, s_37_173, s_37_176, s_37_179, s_37_180, s_37_181, s_37_184, s_37_185, s_37_186, s_37_189, s_37_190, s_37_191, s_37_194, s_37_195, s_37_198, s_37_199, s_37_200, s_37_201, s_37_204, s_37_207, s_37_208, s_37_209, s_37_212, s_37_213, s_37_214, s_37_217, s_37_218, s_37_219, s_37_222, s_37_223, s_37_224, s_37_225, s_37_226, s_37_227, s_37_230, s_37_231, s_37_234, s_37_235, s_37_236, s_37_237, s_37_240, s_37_241, s_37_244, s_37_245, s_37_246, s_37_247, s_37_248, s_37_251, s_37_254, s_37_257, s_37_258, s_37_261, s_37_262, s_37_263, e_37, mv_i_1, mv_l_1, mv_a_1, mv_a_2, mv_a_3, mk2_n, mk2_i, mk2_l, mk2_a, mk2_u, mk2_x, mB_T, mB_F, mS_cons, mS_nil, mSB_T, mSB_F, mca_nil, mca_i, mca_l, mca_r, mca_u, mca_x, mcat_i, mcat_l, mcat_r, mcat_u, mcat_x, mK_some, mK_none, va_rf_s, va_rf_n, lgc_eq, lgc_lt, lgc_gt, lgc_ge, lgc_le, mrd_104, mrd_105, mrd_106, mrd_107, true_and, and_true, and_self, false_and, and_false, true_or, or_true, false_or, or_false, not_true_eq_false, not_false_eq_true, mgb, mga, mgr, mN, reduceCtorEq, ↓reduceIte, eq_self, ge_iff_le, gt_iff_lt, hk_si, hk_sj, hk_sr, hl_si, hl_sj, hl_sr, hn_si, hn_sj, hn_sr, hs_si, hs_sj, hs_sr, hi_sj, hi_sr, hj_si, hj_sr, hr_si, hr_sj, hi_si, hj_sj, hr_sr, mg_si, mg_sj, mg_sr, Nat.reduceAdd, Nat.reduceMul, Nat.reduceSub, Nat.reduceLT, Nat.reduceGT, Nat.reduceEqDiff, Nat.reduceLeDiff, Nat.left_eq_add, Nat.add_eq_left, Nat.reduceMod, Nat.reduceDiv, Nat.succ_ne_self, g, n1, n2, n3, n4, r11, g72, l72, e12, es, c39, ei, nn_mxT, nn_clamp]
/-- an operator -/
theorem kx_6 (B : MB h Y C SC nC nS nb na p gv) (hk : k < 1000000) (hC : 3 * k < nC) (e12 : mh_i h 67 12 = Int32.ofNat (H + 2)) (hH : H + 1 < 124) (e10 : mh_i h 67 10 = 0) {o : Nat} (ho : o = 18 ∨ o = 19 ∨ o = 21 ∨ o = 22 ∨ o = 23) (hc : mh_i h C (3 * k) = opb o) : ∃ h1, fG mcW h h1 ∧ (∀ i, i < H → mh_i h1 72 i = mh_i h 72 i) ∧ mh_i h1 67 3 = mh_i h 67 3 ∧ xo (x_op o (mh_i h 72 H).toInt (mh_i h 72 (H + 1)).toInt c) h1 H ∧ ∀ Q, mw (d + 3) 37 Q 71 (rkL sum Y k (some (.int x)) (some (.int w))) [.int (opb o)] h = mw (d + 3) 37 Q 20 (rkL sum Y (k + 1) (some (.int x)) (some (.int w))) [] h1 := by
  have g := B.g
  have ne := B.ne
  have bC := B.bC
  have f0 : fG mcW h (mh_si h 67 12 (Int32.ofNat H)) := fG_si (Or.inr ⟨rfl, by omega⟩)
  have B0 := MB_G f0 B
  obtain ⟨h1, q1, q2, q3, q4, c42⟩ := c_42 (d := d) (c := c) B0 (H := H) (by rw [hi_si, if_pos ⟨rfl, rfl⟩]) (by omega) (by rw [hi_si, if_neg (by omega)]; exact e10) ho (a := (mh_i h 72 H).toInt64) (b := (mh_i h 72 (H + 1)).toInt64) (by rw [Int32.toInt_toInt64]; exact i32_I _) (by rw [Int32.toInt_toInt64]; exact i32_I _)
  rw [Int32.toInt_toInt64, Int32.toInt_toInt64] at q4
  refine ⟨h1, fG_t f0 q1, fun i hi => by rw [q2 i hi, hi_si, if_neg (by omega)], by rw [q3, hi_si, if_neg (by omega)], q4, fun Q => ?_⟩
  have es : Int32.ofNat (H + 2) - 2 = Int32.ofNat H := nn_sub (a := H + 2) (b := 2) (by omega)
  have ei : Int32.ofNat k + 1 = Int32.ofNat (k + 1) := nn_add (a := k) (b := 1)
  have eh : Int32.ofNat H + 1 = Int32.ofNat (H + 1) := nn_add (a := H) (b := 1)
  have e3 : (3 : Int32) * Int32.ofNat k = Int32.ofNat (3 * k) := nn_mul (a := 3) (b := k)
  have r11 := B.r11
  have g72 := B.g72
  have l72 := B.l72
  have gY := B.gY
  have y0 := B.y0
  have gC := B.gC
  have lC := B.lC
  have nC67 : (C = 67) = False := eq_false ne.2.1
  have m1 : (opb o = 1) = False := eq_false (by unfold opb; rcases ho with e | e | e | e | e <;> subst e <;> decide)
  have m2 : (opb o = 2) = False := eq_false (by unfold opb; rcases ho with e | e | e | e | e <;> subst e <;> decide)
  have m3 : (opb o = 3) = False := eq_false (by unfold opb; rcases ho with e | e | e | e | e <;> subst e <;> decide)
  have m4 : (opb o = 4) = False := eq_false (by unfold opb; rcases ho with e | e | e | e | e <;> subst e <;> decide)
  have m5 : (opb o = 5) = False := eq_false (by unfold opb; rcases ho with e | e | e | e | e <;> subst e <;> decide)
  clear B f0 B0 q1 q2 q3 q4 ho
  simp (disch := omega) only [s_37_0, s_37_1, s_37_4, s_37_7, s_37_7n, s_37_8, s_37_9, s_37_10, s_37_13, s_37_14, s_37_17, s_37_18, s_37_19, s_37_21, s_37_22, s_37_25, s_37_26, s_37_27, s_37_28, s_37_29, s_37_32, s_37_33, s_37_36, s_37_39, s_37_40, s_37_43, s_37_44, s_37_45, s_37_46, s_37_47, s_37_48, s_37_49, s_37_51, s_37_52, s_37_55, s_37_56, s_37_57, s_37_58, s_37_59, s_37_60, s_37_61, s_37_63, s_37_64, s_37_67, s_37_68, s_37_69, s_37_70, s_37_71, s_37_104, s_37_105, s_37_107, s_37_110, s_37_113, s_37_114, s_37_115, s_37_118, s_37_119, s_37_122, s_37_125, s_37_126, s_37_129, s_37_130, s_37_132, s_37_133, s_37_134, s_37_137, s_37_140, s_37_141, s_37_142, s_37_144, s_37_146, s_37_149, s_37_152, s_37_155, s_37_156, s_37_157, s_37_160, s_37_163, s_37_164, s_37_167, s_37_168, s_37_170, s_37_171, s_37_173, s_37_176, s_37_179, s_37_180, s_37_181, s_37_184, s_37_185, s_37_186, s_37_189, s_37_190, s_37_191, s_37_194, s_37_195, s_37_198, s_37_199, s_37_200, s_37_201, s_37_204, s_37_207, s_37_208, s_37_209, s_37_212, s_37_213, s_37_214, s_37_217, s_37_218, s_37_219, s_37_222, s_37_223, s_37_224, s_37_225, s_37_226, s_37_227, s_37_230, s_37_231, s_37_234, s_37_235, s_37_236, s_37_237, s_37_240, s_37_241, s_37_244, s_37_245, s_37_246, s_37_247, s_37_248, s_37_251, s_37_254, s_37_257, s_37_258, s_37_261, s_37_262, s_37_263, e_37, mv_i_1, mv_l_1, mv_a_1, mv_a_2, mv_a_3, mk2_n, mk2_i, mk2_l, mk2_a, mk2_u, mk2_x, mB_T, mB_F, mS_cons, mS_nil, mSB_T, mSB_F, mca_nil, mca_i, mca_l, mca_r, mca_u, mca_x, mcat_i, mcat_l, mcat_r, mcat_u, mcat_x, mK_some, mK_none, va_rf_s, va_rf_n, lgc_eq, lgc_lt, lgc_gt, lgc_ge, lgc_le, mrd_104, mrd_105, mrd_106, mrd_107, true_and, and_true, and_self, false_and, and_false, true_or, or_true, false_or, or_false, not_true_eq_false, not_false_eq_true, mgb, mga, mgr, mN, reduceCtorEq, ↓reduceIte, eq_self, ge_iff_le, gt_iff_lt, hk_si, hk_sj, hk_sr, hl_si, hl_sj, hl_sr, hn_si, hn_sj, hn_sr, hs_si, hs_sj, hs_sr, hi_sj, hi_sr, hj_si, hj_sr, hr_si, hr_sj, hi_si, hj_sj, hr_sr, mg_si, mg_sj, mg_sr, Nat.reduceAdd, Nat.reduceMul, Nat.reduceSub, Nat.reduceLT, Nat.reduceGT, Nat.reduceEqDiff, Nat.reduceLeDiff, Nat.left_eq_add, Nat.add_eq_left, Nat.reduceMod, Nat.reduceDiv, Nat.succ_ne_self, g, m1, m2, m3, m4, m5, gY, y0, gC, lC, e3, nC67, hc, r11, g72, l72, e12, es, eh, c42, ei, nn_mxT, nn_clamp]
end RKs
