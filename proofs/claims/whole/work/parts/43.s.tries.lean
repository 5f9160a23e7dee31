set_option maxRecDepth 100000
/-! a while: tries -/
/-- what stands of the states -/
def LTi (h : mh_H) (o hh nn bh : Nat) (E : nv) (S : ab) (H NN BE : Option ab) : Prop := (RK h o (some S)) ∧ (RK h hh H) ∧ (RK h nn NN) ∧ (RK h bh BE) ∧ (mh_i h bh 2 = Int32.ofNat E.ar) ∧ (∃ A, H = some A ∧ shp E.nu E.ar E.rm (some A)) ∧ (∃ A, NN = some A ∧ shp E.nu E.ar E.rm (some A)) ∧ (shp E.nu E.ar E.rm BE)
theorem LTi.of {h : mh_H} {o hh nn bh : Nat} {E : nv} {S : ab} {H NN BE : Option ab} (q : (RK h o (some S)) ∧ (RK h hh H) ∧ (RK h nn NN) ∧ (RK h bh BE) ∧ (mh_i h bh 2 = Int32.ofNat E.ar) ∧ (∃ A, H = some A ∧ shp E.nu E.ar E.rm (some A)) ∧ (∃ A, NN = some A ∧ shp E.nu E.ar E.rm (some A)) ∧ (shp E.nu E.ar E.rm BE)) : LTi h o hh nn bh E S H NN BE := q
theorem LTi.ko {h : mh_H} {o hh nn bh : Nat} {E : nv} {S : ab} {H NN BE : Option ab} (q : LTi h o hh nn bh E S H NN BE) : RK h o (some S) := q.1
theorem LTi.kh {h : mh_H} {o hh nn bh : Nat} {E : nv} {S : ab} {H NN BE : Option ab} (q : LTi h o hh nn bh E S H NN BE) : RK h hh H := q.2.1
theorem LTi.kn {h : mh_H} {o hh nn bh : Nat} {E : nv} {S : ab} {H NN BE : Option ab} (q : LTi h o hh nn bh E S H NN BE) : RK h nn NN := q.2.2.1
theorem LTi.kb {h : mh_H} {o hh nn bh : Nat} {E : nv} {S : ab} {H NN BE : Option ab} (q : LTi h o hh nn bh E S H NN BE) : RK h bh BE := q.2.2.2.1
theorem LTi.a2 {h : mh_H} {o hh nn bh : Nat} {E : nv} {S : ab} {H NN BE : Option ab} (q : LTi h o hh nn bh E S H NN BE) : mh_i h bh 2 = Int32.ofNat E.ar := q.2.2.2.2.1
theorem LTi.h1 {h : mh_H} {o hh nn bh : Nat} {E : nv} {S : ab} {H NN BE : Option ab} (q : LTi h o hh nn bh E S H NN BE) : ∃ A, H = some A ∧ shp E.nu E.ar E.rm (some A) := q.2.2.2.2.2.1
theorem LTi.n1 {h : mh_H} {o hh nn bh : Nat} {E : nv} {S : ab} {H NN BE : Option ab} (q : LTi h o hh nn bh E S H NN BE) : ∃ A, NN = some A ∧ shp E.nu E.ar E.rm (some A) := q.2.2.2.2.2.2.1
theorem LTi.b1 {h : mh_H} {o hh nn bh : Nat} {E : nv} {S : ab} {H NN BE : Option ab} (q : LTi h o hh nn bh E S H NN BE) : shp E.nu E.ar E.rm BE := q.2.2.2.2.2.2.2
section TRs
variable {d : Nat} {hO h h1 h2 : mh_H} {s0 sb o hh tt nn bh td mm p k f i x y m b : Nat} {E : nv} {D : fd} {w0 w1 : wd} {S : ab} {H TT NN BE X C : Option ab} {G : pgm} {J : pin} {c bs q : tr} {nx' : Int32}
theorem t_227f {T : Nat} {sN : Int → Prop} {en : Int → Nat} (J : RJ h T sN en) (hk : mh_i h 115 11 = Int32.ofNat k) (hk2 : k < 2048) (l : lv h k y) (c : RK h y C) : ∃ h' z, rq k (fun _ _ => False) h h' ∧ RJ h' T sN en ∧ mh_r h' 119 k = some z ∧ mh_i h' 115 11 = Int32.ofNat (k + 1) ∧ mh_i h' 115 24 = mh_i h 115 24 ∧ RK h' z C ∧ mh_i h' z 2 = mh_i h y 2 ∧ ∀ Q, mcall (d + 2) 227 [.ref 115, .ref y] h Q = Q (some (.ref z)) h' := by
  obtain ⟨h1, z, x, J1, e1, e2, e3, e4, e5⟩ := t_226 (d := d) J hk hk2
  have l1 := rq_lv x l
  have c1 := rq_K J x l (fun _ _ _ w => w) c
  have ne : z ≠ y := fun z => lv_ne J1 l1 (Nat.le_refl _) e1 z.symm
  obtain ⟨h2, y2, J2, r2, i2, e6⟩ := t_281 (d := d + 1) J1 ⟨k, e1⟩ ne c1
  have y' : rq k (fun _ _ => False) h1 h2 := rq_w (rq_rs (s0 := k) J1 (vK_1 ⟨k, e1⟩) y2) (Nat.le_refl _) (fun b j _ w => Or.inr (Or.inr (Or.inr (Or.inr (Or.inl ⟨k, z, Nat.le_refl _, e1, w⟩)))))
  have g := J.a.g
  have go : mg h1 z 13 := e4.1
  have f2 := k_281f e4 c1 ne e6
  refine ⟨h2, z, rq_t x y', J2, y'.k k z e1, (i2 11).trans e2, (i2 24).trans e3, r2, f2.trans (rq_ki J x l (fun _ w => w) 2), fun Q => ?_⟩
  clear J J1 J2 x y2 y' r2 c c1 l l1 i2
  simp (disch := omega) only [s_227_0, s_227_1, s_227_4, s_227_4n, s_227_5, s_227_6, s_227_7, s_227_10, s_227_11, s_227_11n, e_227, mv_i_1, mv_l_1, mv_a_1, mv_a_2, mv_a_3, mk2_n, mk2_i, mk2_l, mk2_a, mk2_u, mk2_x, mB_T, mB_F, mS_cons, mS_nil, mSB_T, mSB_F, mca_nil, mca_i, mca_l, mca_r, mca_u, mca_x, mcat_i, mcat_l, mcat_r, mcat_u, mcat_x, mK_some, mK_none, va_rf_s, va_rf_n, lgc_eq, lgc_lt, lgc_gt, lgc_ge, lgc_le, mrd_104, mrd_105, mrd_106, mrd_107, true_and, and_true, and_self, false_and, and_false, true_or, or_true, false_or, or_false, not_true_eq_false, not_false_eq_true, mgb, mga, mgr, mN, reduceCtorEq, ↓reduceIte, eq_self, ge_iff_le, gt_iff_lt, Nat.reduceAdd, Nat.reduceMul, Nat.reduceSub, Nat.reduceLT, Nat.reduceGT, Nat.reduceEqDiff, Nat.reduceLeDiff, Nat.left_eq_add, Nat.add_eq_left, Nat.reduceMod, Nat.reduceDiv, Nat.succ_ne_self, g, go, e5, e6]
/-- tries end -/
theorem trs_0 (hr : i ≤ 3) : ∀ Q, mw (d + 2) 268 Q 194 [some (.ref 115), some (.int (Int32.ofNat k)), some (.int (Int32.ofNat p)), some (.int nx'), some (.ref o), some (.int (Int32.ofNat s0)), some (.ref hh), some (.ref tt), some (.ref nn), some (.ref bh), some (.ref td), some (.ref mm), some (.int 0), some (.int (Int32.ofNat i))] [] h = mw (d + 2) 268 Q 299 [some (.ref 115), some (.int (Int32.ofNat k)), some (.int (Int32.ofNat p)), some (.int nx'), some (.ref o), some (.int (Int32.ofNat s0)), some (.ref hh), some (.ref tt), some (.ref nn), some (.ref bh), some (.ref td), some (.ref mm), some (.int 0), some (.int (Int32.ofNat i))] [] h := fun Q => by
  have e00 : ((0 : Int32) = 0) = True := by decide
  have e2c : (2 : Int32) = Int32.ofNat 2 := rfl
  rw [s_268_194]
  by_cases c : 2 ≤ i
  · have le : (2 ≤ i) = True := eq_true c
    have lt : (i < 2) = False := eq_false (by omega)
    simp (disch := omega) only [s_268_0, s_268_1, s_268_4, s_268_7, s_268_8, s_268_9, s_268_10, s_268_11, s_268_13, s_268_16, s_268_17, s_268_18, s_268_21, s_268_23, s_268_24, s_268_26, s_268_29, s_268_29n, s_268_31, s_268_32, s_268_34, s_268_37, s_268_37n, s_268_39, s_268_40, s_268_43, s_268_43n, s_268_45, s_268_46, s_268_49, s_268_49n, s_268_51, s_268_53, s_268_56, s_268_59, s_268_60, s_268_61, s_268_62, s_268_64, s_268_66, s_268_68, s_268_70, s_268_73, s_268_74, s_268_76, s_268_79, s_268_80, s_268_81, s_268_82, s_268_83, s_268_85, s_268_87, s_268_89, s_268_91, s_268_94, s_268_95, s_268_97, s_268_99, s_268_101, s_268_104, s_268_107, s_268_108, s_268_111, s_268_114, s_268_116, s_268_117, s_268_120, s_268_122, s_268_124, s_268_127, s_268_129, s_268_131, s_268_134, s_268_137, s_268_139, s_268_141, s_268_144, s_268_146, s_268_148, s_268_151, s_268_153, s_268_156, s_268_157, s_268_158, s_268_159, s_268_161, s_268_163, s_268_165, s_268_167, s_268_170, s_268_173, s_268_176, s_268_177, s_268_180, s_268_180n, s_268_182, s_268_183, s_268_186, s_268_186n, s_268_188, s_268_189, s_268_191, s_268_192, s_268_196, s_268_197, s_268_200, s_268_202, s_268_205, s_268_206, s_268_209, s_268_212, s_268_214, s_268_216, s_268_219, s_268_222, s_268_224, s_268_226, s_268_229, s_268_232, s_268_233, s_268_236, s_268_237, s_268_239, s_268_241, s_268_244, s_268_246, s_268_248, s_268_251, s_268_252, s_268_253, s_268_254, s_268_256, s_268_258, s_268_260, s_268_262, s_268_265, s_268_267, s_268_269, s_268_272, s_268_274, s_268_276, s_268_279, s_268_281, s_268_283, s_268_286, s_268_288, s_268_290, s_268_293, s_268_296, s_268_300, s_268_303, s_268_306, s_268_307, s_268_308, s_268_309, s_268_311, s_268_313, s_268_315, s_268_317, s_268_320, s_268_322, s_268_324, s_268_327, s_268_328, s_268_330, s_268_333, e_268, mv_i_1, mv_l_1, mv_a_1, mv_a_2, mv_a_3, mk2_n, mk2_i, mk2_l, mk2_a, mk2_u, mk2_x, mB_T, mB_F, mS_cons, mS_nil, mSB_T, mSB_F, mca_nil, mca_i, mca_l, mca_r, mca_u, mca_x, mcat_i, mcat_l, mcat_r, mcat_u, mcat_x, mK_some, mK_none, va_rf_s, va_rf_n, lgc_eq, lgc_lt, lgc_gt, lgc_ge, lgc_le, mrd_104, mrd_105, mrd_106, mrd_107, true_and, and_true, and_self, false_and, and_false, true_or, or_true, false_or, or_false, not_true_eq_false, not_false_eq_true, mgb, mga, mgr, mN, reduceCtorEq, ↓reduceIte, eq_self, ge_iff_le, gt_iff_lt, Nat.reduceAdd, Nat.reduceMul, Nat.reduceSub, Nat.reduceLT, Nat.reduceGT, Nat.reduceEqDiff, Nat.reduceLeDiff, Nat.left_eq_add, Nat.add_eq_left, Nat.reduceMod, Nat.reduceDiv, Nat.succ_ne_self, e00, e2c, nn_le, nn_lt, le, lt]
  · have le : (2 ≤ i) = False := eq_false c
    have lt : (i < 2) = True := eq_true (by omega)
    simp (disch := omega) only [s_268_0, s_268_1, s_268_4, s_268_7, s_268_8, s_268_9, s_268_10, s_268_11, s_268_13, s_268_16, s_268_17, s_268_18, s_268_21, s_268_23, s_268_24, s_268_26, s_268_29, s_268_29n, s_268_31, s_268_32, s_268_34, s_268_37, s_268_37n, s_268_39, s_268_40, s_268_43, s_268_43n, s_268_45, s_268_46, s_268_49, s_268_49n, s_268_51, s_268_53, s_268_56, s_268_59, s_268_60, s_268_61, s_268_62, s_268_64, s_268_66, s_268_68, s_268_70, s_268_73, s_268_74, s_268_76, s_268_79, s_268_80, s_268_81, s_268_82, s_268_83, s_268_85, s_268_87, s_268_89, s_268_91, s_268_94, s_268_95, s_268_97, s_268_99, s_268_101, s_268_104, s_268_107, s_268_108, s_268_111, s_268_114, s_268_116, s_268_117, s_268_120, s_268_122, s_268_124, s_268_127, s_268_129, s_268_131, s_268_134, s_268_137, s_268_139, s_268_141, s_268_144, s_268_146, s_268_148, s_268_151, s_268_153, s_268_156, s_268_157, s_268_158, s_268_159, s_268_161, s_268_163, s_268_165, s_268_167, s_268_170, s_268_173, s_268_176, s_268_177, s_268_180, s_268_180n, s_268_182, s_268_183, s_268_186, s_268_186n, s_268_188, s_268_189, s_268_191, s_268_192, s_268_196, s_268_197, s_268_200, s_268_202, s_268_205, s_268_206, s_268_209, s_268_212, s_268_214, s_268_216, s_268_219, s_268_222, s_268_224, s_268_226, s_268_229, s_268_232, s_268_233, s_268_236, s_268_237, s_268_239, s_268_241, s_268_244, s_268_246, s_268_248, s_268_251, s_268_252, s_268_253, s_268_254, s_268_256, s_268_258, s_268_260, s_268_262, s_268_265, s_268_267, s_268_269, s_268_272, s_268_274, s_268_276, s_268_279, s_268_281, s_268_283, s_268_286, s_268_288, s_268_290, s_268_293, s_268_296, s_268_300, s_268_303, s_268_306, s_268_307, s_268_308, s_268_309, s_268_311, s_268_313, s_268_315, s_268_317, s_268_320, s_268_322, s_268_324, s_268_327, s_268_328, s_268_330, s_268_333, e_268, mv_i_1, mv_l_1, mv_a_1, mv_a_2, mv_a_3, mk2_n, mk2_i, mk2_l, mk2_a, mk2_u, mk2_x, mB_T, mB_F, mS_cons, mS_nil, mSB_T, mSB_F, mca_nil, mca_i, mca_l, mca_r, mca_u, mca_x, mcat_i, mcat_l, mcat_r, mcat_u, mcat_x, mK_some, mK_none, va_rf_s, va_rf_n, lgc_eq, lgc_lt, lgc_gt, lgc_ge, lgc_le, mrd_104, mrd_105, mrd_106, mrd_107, true_and, and_true, and_self, false_and, and_false, true_or, or_true, false_or, or_false, not_true_eq_false, not_false_eq_true, mgb, mga, mgr, mN, reduceCtorEq, ↓reduceIte, eq_self, ge_iff_le, gt_iff_lt, Nat.reduceAdd, Nat.reduceMul, Nat.reduceSub, Nat.reduceLT, Nat.reduceGT, Nat.reduceEqDiff, Nat.reduceLeDiff, Nat.left_eq_add, Nat.add_eq_left, Nat.reduceMod, Nat.reduceDiv, Nat.succ_ne_self, e00, e2c, nn_le, nn_lt, le, lt]
theorem trs_2 {x12 : Option Value} : ∀ Q, mw (d + 2) 268 Q 194 [some (.ref 115), some (.int (Int32.ofNat k)), some (.int (Int32.ofNat p)), some (.int nx'), some (.ref o), some (.int (Int32.ofNat s0)), some (.ref hh), some (.ref tt), some (.ref nn), some (.ref bh), some (.ref td), some (.ref mm), x12, some (.int (Int32.ofNat 2))] [] h = mw (d + 2) 268 Q 299 [some (.ref 115), some (.int (Int32.ofNat k)), some (.int (Int32.ofNat p)), some (.int nx'), some (.ref o), some (.int (Int32.ofNat s0)), some (.ref hh), some (.ref tt), some (.ref nn), some (.ref bh), some (.ref td), some (.ref mm), x12, some (.int (Int32.ofNat 2))] [] h := fun Q => by
  have e2c : (2 : Int32) = Int32.ofNat 2 := rfl
  have le : ((2 : Nat) ≤ 2) = True := by decide
  have lt : ((2 : Nat) < 2) = False := by decide
  rw [s_268_194]
  simp (disch := omega) only [s_268_0, s_268_1, s_268_4, s_268_7, s_268_8, s_268_9, s_268_10, s_268_11, s_268_13, s_268_16, s_268_17, s_268_18, s_268_21, s_268_23, s_268_24, s_268_26, s_268_29, s_268_29n, s_268_31, s_268_32, s_268_34, s_268_37, s_268_37n, s_268_39, s_268_40, s_268_43, s_268_43n, s_268_45, s_268_46, s_268_49, s_268_49n, s_268_51, s_268_53, s_268_56, s_268_59, s_268_60, s_268_61, s_268_62, s_268_64, s_268_66, s_268_68, s_268_70, s_268_73, s_268_74, s_268_76, s_268_79, s_268_80, s_268_81, s_268_82, s_268_83, s_268_85, s_268_87, s_268_89, s_268_91, s_268_94, s_268_95, s_268_97, s_268_99, s_268_101, s_268_104, s_268_107, s_268_108, s_268_111, s_268_114, s_268_116, s_268_117, s_268_120, s_268_122, s_268_124, s_268_127, s_268_129, s_268_131, s_268_134, s_268_137, s_268_139, s_268_141, s_268_144, s_268_146, s_268_148, s_268_151, s_268_153, s_268_156, s_268_157, s_268_158, s_268_159, s_268_161, s_268_163, s_268_165, s_268_167, s_268_170, s_268_173, s_268_176, s_268_177, s_268_180, s_268_180n, s_268_182, s_268_183, s_268_186, s_268_186n, s_268_188, s_268_189, s_268_191, s_268_192, s_268_196, s_268_197, s_268_200, s_268_202, s_268_205, s_268_206, s_268_209, s_268_212, s_268_214, s_268_216, s_268_219, s_268_222, s_268_224, s_268_226, s_268_229, s_268_232, s_268_233, s_268_236, s_268_237, s_268_239, s_268_241, s_268_244, s_268_246, s_268_248, s_268_251, s_268_252, s_268_253, s_268_254, s_268_256, s_268_258, s_268_260, s_268_262, s_268_265, s_268_267, s_268_269, s_268_272, s_268_274, s_268_276, s_268_279, s_268_281, s_268_283, s_268_286, s_268_288, s_268_290, s_268_293, s_268_296, s_268_300, s_268_303, s_268_306, s_268_307, s_268_308, s_268_309, s_268_311, s_268_313, s_268_315, s_268_317, s_268_320, s_268_322, s_268_324, s_268_327, s_268_328, s_268_330, s_268_333, e_268, mv_i_1, mv_l_1, mv_a_1, mv_a_2, mv_a_3, mk2_n, mk2_i, mk2_l, mk2_a, mk2_u, mk2_x, mB_T, mB_F, mS_cons, mS_nil, mSB_T, mSB_F, mca_nil, mca_i, mca_l, mca_r, mca_u, mca_x, mcat_i, mcat_l, mcat_r, mcat_u, mcat_x, mK_some, mK_none, va_rf_s, va_rf_n, lgc_eq, lgc_lt, lgc_gt, lgc_ge, lgc_le, mrd_104, mrd_105, mrd_106, mrd_107, true_and, and_true, and_self, false_and, and_false, true_or, or_true, false_or, or_false, not_true_eq_false, not_false_eq_true, mgb, mga, mgr, mN, reduceCtorEq, ↓reduceIte, eq_self, ge_iff_le, gt_iff_lt, Nat.reduceAdd, Nat.reduceMul, Nat.reduceSub, Nat.reduceLT, Nat.reduceGT, Nat.reduceEqDiff, Nat.reduceLeDiff, Nat.left_eq_add, Nat.add_eq_left, Nat.reduceMod, Nat.reduceDiv, Nat.succ_ne_self, e2c, nn_le, nn_lt, le, lt]
/-- it is too much -/
theorem trs_m (A : RA h sb E D w0) (hm : 4000 < wW w0) (hi : i < 2) : ∀ Q, mw (d + 2) 268 Q 194 [some (.ref 115), some (.int (Int32.ofNat k)), some (.int (Int32.ofNat p)), some (.int nx'), some (.ref o), some (.int (Int32.ofNat s0)), some (.ref hh), some (.ref tt), some (.ref nn), some (.ref bh), some (.ref td), some (.ref mm), some (.int 1), some (.int (Int32.ofNat i))] [] h = mw (d + 2) 268 Q 299 [some (.ref 115), some (.int (Int32.ofNat k)), some (.int (Int32.ofNat p)), some (.int nx'), some (.ref o), some (.int (Int32.ofNat s0)), some (.ref hh), some (.ref tt), some (.ref nn), some (.ref bh), some (.ref td), some (.ref mm), some (.int 1), some (.int (Int32.ofNat i))] [] h := fun Q => by
  have g := A.j.a.g
  have a9 := A.m
  have k1 : kb true = 1 := rfl
  rw [decide_eq_true hm, k1] at a9
  have e10 : ((1 : Int32) = 0) = False := by decide
  have e2c : (2 : Int32) = Int32.ofNat 2 := rfl
  have le : (2 ≤ i) = False := eq_false (by omega)
  have lt : (i < 2) = True := eq_true hi
  clear A
  rw [s_268_194]
  simp (disch := omega) only [s_268_0, s_268_1, s_268_4, s_268_7, s_268_8, s_268_9, s_268_10, s_268_11, s_268_13, s_268_16, s_268_17, s_268_18, s_268_21, s_268_23, s_268_24, s_268_26, s_268_29, s_268_29n, s_268_31, s_268_32, s_268_34, s_268_37, s_268_37n, s_268_39, s_268_40, s_268_43, s_268_43n, s_268_45, s_268_46, s_268_49, s_268_49n, s_268_51, s_268_53, s_268_56, s_268_59, s_268_60, s_268_61, s_268_62, s_268_64, s_268_66, s_268_68, s_268_70, s_268_73, s_268_74, s_268_76, s_268_79, s_268_80, s_268_81, s_268_82, s_268_83, s_268_85, s_268_87, s_268_89, s_268_91, s_268_94, s_268_95, s_268_97, s_268_99, s_268_101, s_268_104, s_268_107, s_268_108, s_268_111, s_268_114, s_268_116, s_268_117, s_268_120, s_268_122, s_268_124, s_268_127, s_268_129, s_268_131, s_268_134, s_268_137, s_268_139, s_268_141, s_268_144, s_268_146, s_268_148, s_268_151, s_268_153, s_268_156, s_268_157, s_268_158, s_268_159, s_268_161, s_268_163, s_268_165, s_268_167, s_268_170, s_268_173, s_268_176, s_268_177, s_268_180, s_268_180n, s_268_182, s_268_183, s_268_186, s_268_186n, s_268_188, s_268_189, s_268_191, s_268_192, s_268_196, s_268_197, s_268_200, s_268_202, s_268_205, s_268_206, s_268_209, s_268_212, s_268_214, s_268_216, s_268_219, s_268_222, s_268_224, s_268_226, s_268_229, s_268_232, s_268_233, s_268_236, s_268_237, s_268_239, s_268_241, s_268_244, s_268_246, s_268_248, s_268_251, s_268_252, s_268_253, s_268_254, s_268_256, s_268_258, s_268_260, s_268_262, s_268_265, s_268_267, s_268_269, s_268_272, s_268_274, s_268_276, s_268_279, s_268_281, s_268_283, s_268_286, s_268_288, s_268_290, s_268_293, s_268_296, s_268_300, s_268_303, s_268_306, s_268_307, s_268_308, s_268_309, s_268_311, s_268_313, s_268_315, s_268_317, s_268_320, s_268_322, s_268_324, s_268_327, s_268_328, s_268_330, s_268_333, e_268, mv_i_1, mv_l_1, mv_a_1, mv_a_2, mv_a_3, mk2_n, mk2_i, mk2_l, mk2_a, mk2_u, mk2_x, mB_T, mB_F, mS_cons, mS_nil, mSB_T, mSB_F, mca_nil, mca_i, mca_l, mca_r, mca_u, mca_x, mcat_i, mcat_l, mcat_r, mcat_u, mcat_x, mK_some, mK_none, va_rf_s, va_rf_n, lgc_eq, lgc_lt, lgc_gt, lgc_ge, lgc_le, mrd_104, mrd_105, mrd_106, mrd_107, true_and, and_true, and_self, false_and, and_false, true_or, or_true, false_or, or_false, not_true_eq_false, not_false_eq_true, mgb, mga, mgr, mN, reduceCtorEq, ↓reduceIte, eq_self, ge_iff_le, gt_iff_lt, Nat.reduceAdd, Nat.reduceMul, Nat.reduceSub, Nat.reduceLT, Nat.reduceGT, Nat.reduceEqDiff, Nat.reduceLeDiff, Nat.left_eq_add, Nat.add_eq_left, Nat.reduceMod, Nat.reduceDiv, Nat.succ_ne_self, g, a9, e10, e2c, nn_le, nn_lt, le, lt]
/-- tries -/
theorem trs_r (W : WHL G J D f E p k m c b bs q hO) (shS : shp E.nu E.ar E.rm (some S)) (hd : 4 * (G.E p - p) + 826 ≤ d) : ∀ g h H NN BE w0 mx i, LPi G hO h s0 (s0 + 6) o hh tt nn bh E D w0 → mh_r h 119 (s0 + 4) = some td → mh_r h 119 (s0 + 5) = some mm → LTi h o hh nn bh E S H NN BE → cNq G h p w0 → i + g = 2 → s0 + (trs G (DB G f) p (some S) g H NN BE w0 mx).2.2.2 + 1 ≤ 2048 → ∃ h' x12 x13 N', LPi G hO h' s0 (s0 + 6) o hh tt nn bh E D (trs G (DB G f) p (some S) g H NN BE w0 mx).2.2.1 ∧ LTi h' o hh nn bh E S (trs G (DB G f) p (some S) g H NN BE w0 mx).1 N' (trs G (DB G f) p (some S) g H NN BE w0 mx).2.1 ∧ cNq G h' p (trs G (DB G f) p (some S) g H NN BE w0 mx).2.2.1 ∧ ∀ Q, mw (d + 2) 268 Q 194 [some (.ref 115), some (.int (Int32.ofNat k)), some (.int (Int32.ofNat p)), some (.int nx'), some (.ref o), some (.int (Int32.ofNat s0)), some (.ref hh), some (.ref tt), some (.ref nn), some (.ref bh), some (.ref td), some (.ref mm), some (.int 1), some (.int (Int32.ofNat i))] [] h = mw (d + 2) 268 Q 299 [some (.ref 115), some (.int (Int32.ofNat k)), some (.int (Int32.ofNat p)), some (.int nx'), some (.ref o), some (.int (Int32.ofNat s0)), some (.ref hh), some (.ref tt), some (.ref nn), some (.ref bh), some (.ref td), some (.ref mm), x12, x13] [] h' := by
  intro g
  induction g with
  | zero =>
    intro h H NN BE w0 mx i I r4 r5 K cn hg hs
    have ei : i = 2 := by omega
    subst ei
    exact ⟨h, _, _, NN, I, K, cn, fun Q => trs_2 Q⟩
  | succ g ih =>
    intro h H NN BE w0 mx i I r4 r5 K cn hg hs
    rw [trs_1] at hs ⊢
    by_cases hm : 4000 < wW w0
    · rw [if_pos (Or.inr hm)] at hs ⊢
      exact ⟨h, _, _, NN, I, K, cn, fun Q => trs_m I.A hm (by omega) Q⟩
    · obtain ⟨A, eA, sA⟩ := K.h1
      obtain ⟨N, eN, sN'⟩ := K.n1
      obtain ⟨TA, a1, a2, a3⟩ := sA A rfl
      obtain ⟨TN, b1, b2, b3⟩ := sN' N rfl
      have dim : ∀ A' B', NN = some A' → H = some B' → A'.n = B'.n ∧ A'.a = B'.a := fun A' B' e1 e2 => by
        rw [eN] at e1
        rw [eA] at e2
        cases e1
        cases e2
        exact ⟨by omega, by omega⟩
      obtain ⟨v1, v1a, v1b, lr1⟩ := le_294 (d := d) K.kn K.kh dim
      obtain ⟨v2, v2a, v2b, lr2⟩ := le_294 (d := d) K.kh K.kn (fun A' B' e1 e2 => ⟨(dim B' A' e2 e1).1.symm, (dim B' A' e2 e1).2.symm⟩)
      have g' := I.A.j.a.g
      have gn := (RK_ko K.kn).1
      have gh := (RK_ko K.kh).1
      have a9 := I.A.m
      have k0 : kb false = 0 := rfl
      rw [decide_eq_false hm, k0] at a9
      have e00 : ((0 : Int32) = 0) = True := by decide
      have e10 : ((1 : Int32) = 0) = False := by decide
      have e2c : (2 : Int32) = Int32.ofNat 2 := rfl
      have le : (2 ≤ i) = False := eq_false (by omega)
      have lt : (i < 2) = True := eq_true (by omega)
      have e1' : ∀ k, Int32.ofNat k + 1 = Int32.ofNat (k + 1) := fun k => nn_add (a := k) (b := 1)
      by_cases hq : o_le NN H ∧ o_le H NN
      · rw [if_pos (Or.inl hq)] at hs ⊢
        have ev1 := v1b.mpr hq.1
        have ev2 := v2b.mpr hq.2
        subst ev1 ev2
        refine ⟨h, some (.int 0), some (.int (Int32.ofNat (i + 1))), NN, I, K, cn, fun Q => ?_⟩
        rw [← trs_0 (i := i + 1) (by omega) Q]
        clear W I K ih cn sA sN' TA TN dim shS
        rw [s_268_194]
        simp (disch := omega) only [s_268_0, s_268_1, s_268_4, s_268_7, s_268_8, s_268_9, s_268_10, s_268_11, s_268_13, s_268_16, s_268_17, s_268_18, s_268_21, s_268_23, s_268_24, s_268_26, s_268_29, s_268_29n, s_268_31, s_268_32, s_268_34, s_268_37, s_268_37n, s_268_39, s_268_40, s_268_43, s_268_43n, s_268_45, s_268_46, s_268_49, s_268_49n, s_268_51, s_268_53, s_268_56, s_268_59, s_268_60, s_268_61, s_268_62, s_268_64, s_268_66, s_268_68, s_268_70, s_268_73, s_268_74, s_268_76, s_268_79, s_268_80, s_268_81, s_268_82, s_268_83, s_268_85, s_268_87, s_268_89, s_268_91, s_268_94, s_268_95, s_268_97, s_268_99, s_268_101, s_268_104, s_268_107, s_268_108, s_268_111, s_268_114, s_268_116, s_268_117, s_268_120, s_268_122, s_268_124, s_268_127, s_268_129, s_268_131, s_268_134, s_268_137, s_268_139, s_268_141, s_268_144, s_268_146, s_268_148, s_268_151, s_268_153, s_268_156, s_268_157, s_268_158, s_268_159, s_268_161, s_268_163, s_268_165, s_268_167, s_268_170, s_268_173, s_268_176, s_268_177, s_268_180, s_268_180n, s_268_182, s_268_183, s_268_186, s_268_186n, s_268_188, s_268_189, s_268_191, s_268_192, s_268_196, s_268_197, s_268_200, s_268_202, s_268_205, s_268_206, s_268_209, s_268_212, s_268_214, s_268_216, s_268_219, s_268_222, s_268_224, s_268_226, s_268_229, s_268_232, s_268_233, s_268_236, s_268_237, s_268_239, s_268_241, s_268_244, s_268_246, s_268_248, s_268_251, s_268_252, s_268_253, s_268_254, s_268_256, s_268_258, s_268_260, s_268_262, s_268_265, s_268_267, s_268_269, s_268_272, s_268_274, s_268_276, s_268_279, s_268_281, s_268_283, s_268_286, s_268_288, s_268_290, s_268_293, s_268_296, s_268_300, s_268_303, s_268_306, s_268_307, s_268_308, s_268_309, s_268_311, s_268_313, s_268_315, s_268_317, s_268_320, s_268_322, s_268_324, s_268_327, s_268_328, s_268_330, s_268_333, e_268, mv_i_1, mv_l_1, mv_a_1, mv_a_2, mv_a_3, mk2_n, mk2_i, mk2_l, mk2_a, mk2_u, mk2_x, mB_T, mB_F, mS_cons, mS_nil, mSB_T, mSB_F, mca_nil, mca_i, mca_l, mca_r, mca_u, mca_x, mcat_i, mcat_l, mcat_r, mcat_u, mcat_x, mK_some, mK_none, va_rf_s, va_rf_n, lgc_eq, lgc_lt, lgc_gt, lgc_ge, lgc_le, mrd_104, mrd_105, mrd_106, mrd_107, true_and, and_true, and_self, false_and, and_false, true_or, or_true, false_or, or_false, not_true_eq_false, not_false_eq_true, mgb, mga, mgr, mN, reduceCtorEq, ↓reduceIte, eq_self, ge_iff_le, gt_iff_lt, Nat.reduceAdd, Nat.reduceMul, Nat.reduceSub, Nat.reduceLT, Nat.reduceGT, Nat.reduceEqDiff, Nat.reduceLeDiff, Nat.left_eq_add, Nat.add_eq_left, Nat.reduceMod, Nat.reduceDiv, Nat.succ_ne_self, g', gn, gh, a9, e00, e10, e2c, nn_le, nn_lt, le, lt, lr1, lr2, e1']
      · rw [if_neg (fun z => z.elim hq hm)] at hs ⊢
        have on1 : ∀ Q, mw (d + 2) 268 Q 194 [some (.ref 115), some (.int (Int32.ofNat k)), some (.int (Int32.ofNat p)), some (.int nx'), some (.ref o), some (.int (Int32.ofNat s0)), some (.ref hh), some (.ref tt), some (.ref nn), some (.ref bh), some (.ref td), some (.ref mm), some (.int 1), some (.int (Int32.ofNat i))] [] h = mw (d + 2) 268 Q 239 [some (.ref 115), some (.int (Int32.ofNat k)), some (.int (Int32.ofNat p)), some (.int nx'), some (.ref o), some (.int (Int32.ofNat s0)), some (.ref hh), some (.ref tt), some (.ref nn), some (.ref bh), some (.ref td), some (.ref mm), some (.int 1), some (.int (Int32.ofNat i))] [] h := fun Q => by
          by_cases h1' : o_le NN H
          · have ev1 := v1b.mpr h1'
            have ev2 : v2 = 0 := v2a.elim (fun z => z) (fun z => absurd ⟨h1', v2b.mp z⟩ hq)
            subst ev1 ev2
            clear W I K ih cn sA sN' TA TN dim shS
            rw [s_268_194]
            simp (disch := omega) only [s_268_0, s_268_1, s_268_4, s_268_7, s_268_8, s_268_9, s_268_10, s_268_11, s_268_13, s_268_16, s_268_17, s_268_18, s_268_21, s_268_23, s_268_24, s_268_26, s_268_29, s_268_29n, s_268_31, s_268_32, s_268_34, s_268_37, s_268_37n, s_268_39, s_268_40, s_268_43, s_268_43n, s_268_45, s_268_46, s_268_49, s_268_49n, s_268_51, s_268_53, s_268_56, s_268_59, s_268_60, s_268_61, s_268_62, s_268_64, s_268_66, s_268_68, s_268_70, s_268_73, s_268_74, s_268_76, s_268_79, s_268_80, s_268_81, s_268_82, s_268_83, s_268_85, s_268_87, s_268_89, s_268_91, s_268_94, s_268_95, s_268_97, s_268_99, s_268_101, s_268_104, s_268_107, s_268_108, s_268_111, s_268_114, s_268_116, s_268_117, s_268_120, s_268_122, s_268_124, s_268_127, s_268_129, s_268_131, s_268_134, s_268_137, s_268_139, s_268_141, s_268_144, s_268_146, s_268_148, s_268_151, s_268_153, s_268_156, s_268_157, s_268_158, s_268_159, s_268_161, s_268_163, s_268_165, s_268_167, s_268_170, s_268_173, s_268_176, s_268_177, s_268_180, s_268_180n, s_268_182, s_268_183, s_268_186, s_268_186n, s_268_188, s_268_189, s_268_191, s_268_192, s_268_196, s_268_197, s_268_200, s_268_202, s_268_205, s_268_206, s_268_209, s_268_212, s_268_214, s_268_216, s_268_219, s_268_222, s_268_224, s_268_226, s_268_229, s_268_232, s_268_233, s_268_236, s_268_237, s_268_241, s_268_244, s_268_246, s_268_248, s_268_251, s_268_252, s_268_253, s_268_254, s_268_256, s_268_258, s_268_260, s_268_262, s_268_265, s_268_267, s_268_269, s_268_272, s_268_274, s_268_276, s_268_279, s_268_281, s_268_283, s_268_286, s_268_288, s_268_290, s_268_293, s_268_296, s_268_299, s_268_300, s_268_303, s_268_306, s_268_307, s_268_308, s_268_309, s_268_311, s_268_313, s_268_315, s_268_317, s_268_320, s_268_322, s_268_324, s_268_327, s_268_328, s_268_330, s_268_333, e_268, mv_i_1, mv_l_1, mv_a_1, mv_a_2, mv_a_3, mk2_n, mk2_i, mk2_l, mk2_a, mk2_u, mk2_x, mB_T, mB_F, mS_cons, mS_nil, mSB_T, mSB_F, mca_nil, mca_i, mca_l, mca_r, mca_u, mca_x, mcat_i, mcat_l, mcat_r, mcat_u, mcat_x, mK_some, mK_none, va_rf_s, va_rf_n, lgc_eq, lgc_lt, lgc_gt, lgc_ge, lgc_le, mrd_104, mrd_105, mrd_106, mrd_107, true_and, and_true, and_self, false_and, and_false, true_or, or_true, false_or, or_false, not_true_eq_false, not_false_eq_true, mgb, mga, mgr, mN, reduceCtorEq, ↓reduceIte, eq_self, ge_iff_le, gt_iff_lt, Nat.reduceAdd, Nat.reduceMul, Nat.reduceSub, Nat.reduceLT, Nat.reduceGT, Nat.reduceEqDiff, Nat.reduceLeDiff, Nat.left_eq_add, Nat.add_eq_left, Nat.reduceMod, Nat.reduceDiv, Nat.succ_ne_self, g', gn, gh, a9, e00, e10, e2c, nn_le, nn_lt, le, lt, lr1, lr2]
          · have ev1 : v1 = 0 := v1a.elim (fun z => z) (fun z => absurd (v1b.mp z) h1')
            subst ev1
            clear W I K ih cn sA sN' TA TN dim shS
            rw [s_268_194]
            simp (disch := omega) only [s_268_0, s_268_1, s_268_4, s_268_7, s_268_8, s_268_9, s_268_10, s_268_11, s_268_13, s_268_16, s_268_17, s_268_18, s_268_21, s_268_23, s_268_24, s_268_26, s_268_29, s_268_29n, s_268_31, s_268_32, s_268_34, s_268_37, s_268_37n, s_268_39, s_268_40, s_268_43, s_268_43n, s_268_45, s_268_46, s_268_49, s_268_49n, s_268_51, s_268_53, s_268_56, s_268_59, s_268_60, s_268_61, s_268_62, s_268_64, s_268_66, s_268_68, s_268_70, s_268_73, s_268_74, s_268_76, s_268_79, s_268_80, s_268_81, s_268_82, s_268_83, s_268_85, s_268_87, s_268_89, s_268_91, s_268_94, s_268_95, s_268_97, s_268_99, s_268_101, s_268_104, s_268_107, s_268_108, s_268_111, s_268_114, s_268_116, s_268_117, s_268_120, s_268_122, s_268_124, s_268_127, s_268_129, s_268_131, s_268_134, s_268_137, s_268_139, s_268_141, s_268_144, s_268_146, s_268_148, s_268_151, s_268_153, s_268_156, s_268_157, s_268_158, s_268_159, s_268_161, s_268_163, s_268_165, s_268_167, s_268_170, s_268_173, s_268_176, s_268_177, s_268_180, s_268_180n, s_268_182, s_268_183, s_268_186, s_268_186n, s_268_188, s_268_189, s_268_191, s_268_192, s_268_196, s_268_197, s_268_200, s_268_202, s_268_205, s_268_206, s_268_209, s_268_212, s_268_214, s_268_216, s_268_219, s_268_222, s_268_224, s_268_226, s_268_229, s_268_232, s_268_233, s_268_236, s_268_237, s_268_241, s_268_244, s_268_246, s_268_248, s_268_251, s_268_252, s_268_253, s_268_254, s_268_256, s_268_258, s_268_260, s_268_262, s_268_265, s_268_267, s_268_269, s_268_272, s_268_274, s_268_276, s_268_279, s_268_281, s_268_283, s_268_286, s_268_288, s_268_290, s_268_293, s_268_296, s_268_299, s_268_300, s_268_303, s_268_306, s_268_307, s_268_308, s_268_309, s_268_311, s_268_313, s_268_315, s_268_317, s_268_320, s_268_322, s_268_324, s_268_327, s_268_328, s_268_330, s_268_333, e_268, mv_i_1, mv_l_1, mv_a_1, mv_a_2, mv_a_3, mk2_n, mk2_i, mk2_l, mk2_a, mk2_u, mk2_x, mB_T, mB_F, mS_cons, mS_nil, mSB_T, mSB_F, mca_nil, mca_i, mca_l, mca_r, mca_u, mca_x, mcat_i, mcat_l, mcat_r, mcat_u, mcat_x, mK_some, mK_none, va_rf_s, va_rf_n, lgc_eq, lgc_lt, lgc_gt, lgc_ge, lgc_le, mrd_104, mrd_105, mrd_106, mrd_107, true_and, and_true, and_self, false_and, and_false, true_or, or_true, false_or, or_false, not_true_eq_false, not_false_eq_true, mgb, mga, mgr, mN, reduceCtorEq, ↓reduceIte, eq_self, ge_iff_le, gt_iff_lt, Nat.reduceAdd, Nat.reduceMul, Nat.reduceSub, Nat.reduceLT, Nat.reduceGT, Nat.reduceEqDiff, Nat.reduceLeDiff, Nat.left_eq_add, Nat.add_eq_left, Nat.reduceMod, Nat.reduceDiv, Nat.succ_ne_self, g', gn, gh, a9, e00, e10, e2c, nn_le, nn_lt, le, lt, lr1, lr2]
        have hw : wW w0 ≤ 4000 := by omega
        have d40 := li_ne I r4 I.r0 (by omega)
        have d42 := li_ne I r4 I.r2 (by omega)
        have d43 := li_ne I r4 I.r3 (by omega)
        have d45 := li_ne I r4 r5 (by omega)
        have d50 := li_ne I r5 I.r0 (by omega)
        have d52 := li_ne I r5 I.r2 (by omega)
        have d53 := li_ne I r5 I.r3 (by omega)
        have d02 := li_ne I I.r0 I.r2 (by omega)
        have d03 := li_ne I I.r0 I.r3 (by omega)
        have d23 := li_ne I I.r2 I.r3 (by omega)
        have do0 := li_lo I I.r0 (by omega)
        have do2 := li_lo I I.r2 (by omega)
        have do3 := li_lo I I.r3 (by omega)
        have do4 := li_lo I r4 (by omega)
        have do5 := li_lo I r5 (by omega)
        have kd4 : ko h td := (I.A.j.s _ _ r4).2
        obtain ⟨X1, f1, k1, run1⟩ := k_281 (d := d + 1) kd4 K.kn d42
        obtain ⟨I1, c1, er1⟩ := li_k I (by omega) r4 f1 (RK_ko k1)
        have kn1 := li_o I r4 f1 ⟨_, I.r2⟩ (fun z => d42 z.symm) K.kn
        have kh1 := li_o I r4 f1 ⟨_, I.r0⟩ (fun z => d40 z.symm) K.kh
        have ko1 := li_o I r4 f1 (lv_sp I.l) do4 K.ko
        have r4' : mh_r X1 119 (s0 + 4) = some td := by rw [er1]; exact r4
        have r5' : mh_r X1 119 (s0 + 5) = some mm := by rw [er1]; exact r5
        have shN : shp E.nu E.ar E.rm NN := by rw [eN]; exact sN'
        have a4 : mh_i X1 td 2 = Int32.ofNat E.ar := by
          have kk := k1
          rw [eN] at kk
          rw [KM.a kk, b2]
        have hsp : s0 + 6 + (rnd G (DB G f) p (some S) NN w0).2.2.2 + 1 ≤ 2048 := by
          by_cases z : o_le (rnd G (DB G f) p (some S) NN w0).1 NN
          · rw [if_pos z] at hs
            have := trs_mx (G := G) (rc := DB G f) (p := p) (S := some S) g NN (rnd G (DB G f) p (some S) NN w0).1 (rnd G (DB G f) p (some S) NN w0).2.1 (rnd G (DB G f) p (some S) NN w0).2.2.1 (max mx (6 + (rnd G (DB G f) p (some S) NN w0).2.2.2))
            omega
          · rw [if_neg z] at hs
            dsimp only at hs
            omega
        obtain ⟨h2, I2, km2, kb2, ab2, keep, -, rk, cn2, shB, shM, run2⟩ := li_r (d := d) (sb := s0 + 6) W I1 (by omega) hw r4' (by omega) r5' (by omega) (by omega) (by omega) (by omega) ko1 k1 shS shN a4 hsp hd
        have l4 : lv X1 (s0 + 6) td := ⟨s0 + 4, by omega, r4'⟩
        have ko2 := keep o _ (lv_w I1.l (by omega)) do5 do3 ko1
        have kh2 := keep hh _ ⟨s0, by omega, I1.r0⟩ (fun z => d50 z.symm) d03 kh1
        have kn2 := keep nn _ ⟨s0 + 2, by omega, I1.r2⟩ (fun z => d52 z.symm) d23 kn1
        have kd2 := keep td _ l4 d45 d43 k1
        have hnM : ∃ M, (rnd G (DB G f) p (some S) NN w0).1 = some M := by
          unfold rnd
          dsimp only
          cases o_keep (G.n p) (G.a p) (DB G f (p + 1) (G.E p) (fo G p NN).1 (wl p NN (fo G p NN).2.2 w0)).1 <;> exact ⟨_, rfl⟩
        obtain ⟨M, eM⟩ := hnM
        have sM : shp E.nu E.ar E.rm (some M) := by rw [← eM]; exact shM
        obtain ⟨-, m1, m2, -⟩ := sM M rfl
        obtain ⟨v3, v3a, v3b, lr3⟩ := le_294 (d := d) km2 kd2 (fun A' B' e1 e2 => by
          rw [eM] at e1
          rw [eN] at e2
          cases e1
          cases e2
          exact ⟨by omega, by omega⟩)
        have gd := kd4.1
        have g1 := I1.A.j.a.g
        have gm2 := (RK_ko km2).1
        have go1 : ((1 : Int32) = 0 ∨ (1 : Int32) = 1) = True := by decide
        by_cases hl : o_le (rnd G (DB G f) p (some S) NN w0).1 NN
        · rw [if_pos hl] at hs ⊢
          have ev3 := v3b.mpr hl
          subst ev3
          have gh2 := (RK_ko kh2).1
          obtain ⟨X3, f3, k3, run3⟩ := k_281 (d := d + 1) (RK_ko kh2) kd2 (fun z => d40 z.symm)
          obtain ⟨I3, c3, er3⟩ := li_k I2 (Nat.le_refl _) I2.r0 f3 (RK_ko k3)
          have kn3 := li_o I2 I2.r0 f3 ⟨_, I2.r2⟩ (fun z => d02 z.symm) kn2
          have km3 := li_o I2 I2.r0 f3 ⟨_, rk _ _ r5'⟩ d50 km2
          have kb3 := li_o I2 I2.r0 f3 ⟨_, I2.r3⟩ (fun z => d03 z.symm) kb2
          have ab3 := li_oi I2 I2.r0 f3 ⟨_, I2.r3⟩ (fun z => d03 z.symm) 2
          have ko3 := li_o I2 I2.r0 f3 (lv_sp I2.l) do0 ko2
          have gn3 := (RK_ko kn3).1
          obtain ⟨X4, f4, k4, run4⟩ := k_281 (d := d + 1) (RK_ko kn3) km3 (fun z => d52 z.symm)
          obtain ⟨I4, c4, er4⟩ := li_k I3 (by omega) I3.r2 f4 (RK_ko k4)
          have kh4 := li_o I3 I3.r2 f4 ⟨_, I3.r0⟩ d02 k3
          have kb4 := li_o I3 I3.r2 f4 ⟨_, I3.r3⟩ (fun z => d23 z.symm) kb3
          have ab4 := li_oi I3 I3.r2 f4 ⟨_, I3.r3⟩ (fun z => d23 z.symm) 2
          have ko4 := li_o I3 I3.r2 f4 (lv_sp I3.l) do2 ko3
          have r44 : mh_r X4 119 (s0 + 4) = some td := by rw [er4, er3]; exact rk _ _ r4'
          have r54 : mh_r X4 119 (s0 + 5) = some mm := by rw [er4, er3]; exact rk _ _ r5'
          obtain ⟨h5, x12, x13, N', I5, K5, cn5, run5⟩ := ih X4 NN _ _ _ (max mx (6 + (rnd G (DB G f) p (some S) NN w0).2.2.2)) (i + 1) I4 r44 r54 (LTi.of ⟨ko4, kh4, k4, kb4, ab4.trans (ab3.trans ab2), ⟨N, eN, sN'⟩, ⟨M, eM, sM⟩, shB⟩) (cNq_t (fun q w => c4 q (c3 q w)) cn2) (by omega) hs
          refine ⟨h5, x12, x13, N', I5, K5, cn5, fun Q => ?_⟩
          rw [on1, ← run5]
          clear W I I1 I2 I3 I4 I5 K K5 ih cn cn2 cn5 sA sN' TA TN dim shS k1 k3 k4 kn1 kh1 ko1 ko2 kh2 kn2 kd2 kn3 km3 kb3 ko3 kh4 kb4 ko4 km2 kb2 keep c1 c3 c4 f1 f3 f4 shN sM shB shM rk run5 on1
          rw [s_268_239]
          simp (disch := omega) only [s_268_0, s_268_1, s_268_4, s_268_7, s_268_8, s_268_9, s_268_10, s_268_11, s_268_13, s_268_16, s_268_17, s_268_18, s_268_21, s_268_23, s_268_24, s_268_26, s_268_29, s_268_29n, s_268_31, s_268_32, s_268_34, s_268_37, s_268_37n, s_268_39, s_268_40, s_268_43, s_268_43n, s_268_45, s_268_46, s_268_49, s_268_49n, s_268_51, s_268_53, s_268_56, s_268_59, s_268_60, s_268_61, s_268_62, s_268_64, s_268_66, s_268_68, s_268_70, s_268_73, s_268_74, s_268_76, s_268_79, s_268_80, s_268_81, s_268_82, s_268_83, s_268_85, s_268_87, s_268_89, s_268_91, s_268_94, s_268_95, s_268_97, s_268_99, s_268_101, s_268_104, s_268_107, s_268_108, s_268_111, s_268_114, s_268_116, s_268_117, s_268_120, s_268_122, s_268_124, s_268_127, s_268_129, s_268_131, s_268_134, s_268_137, s_268_139, s_268_141, s_268_144, s_268_146, s_268_148, s_268_151, s_268_153, s_268_156, s_268_157, s_268_158, s_268_159, s_268_161, s_268_163, s_268_165, s_268_167, s_268_170, s_268_173, s_268_176, s_268_177, s_268_180, s_268_180n, s_268_182, s_268_183, s_268_186, s_268_186n, s_268_188, s_268_189, s_268_191, s_268_192, s_268_196, s_268_197, s_268_200, s_268_202, s_268_205, s_268_206, s_268_209, s_268_212, s_268_214, s_268_216, s_268_219, s_268_222, s_268_224, s_268_226, s_268_229, s_268_232, s_268_233, s_268_236, s_268_237, s_268_241, s_268_244, s_268_246, s_268_248, s_268_251, s_268_252, s_268_253, s_268_254, s_268_256, s_268_258, s_268_260, s_268_262, s_268_265, s_268_267, s_268_269, s_268_272, s_268_274, s_268_276, s_268_279, s_268_281, s_268_283, s_268_286, s_268_288, s_268_290, s_268_293, s_268_296, s_268_299, s_268_300, s_268_303, s_268_306, s_268_307, s_268_308, s_268_309, s_268_311, s_268_313, s_268_315, s_268_317, s_268_320, s_268_322, s_268_324, s_268_327, s_268_328, s_268_330, s_268_333, e_268, mv_i_1, mv_l_1, mv_a_1, mv_a_2, mv_a_3, mk2_n, mk2_i, mk2_l, mk2_a, mk2_u, mk2_x, mB_T, mB_F, mS_cons, mS_nil, mSB_T, mSB_F, mca_nil, mca_i, mca_l, mca_r, mca_u, mca_x, mcat_i, mcat_l, mcat_r, mcat_u, mcat_x, mK_some, mK_none, va_rf_s, va_rf_n, lgc_eq, lgc_lt, lgc_gt, lgc_ge, lgc_le, mrd_104, mrd_105, mrd_106, mrd_107, true_and, and_true, and_self, false_and, and_false, true_or, or_true, false_or, or_false, not_true_eq_false, not_false_eq_true, mgb, mga, mgr, mN, reduceCtorEq, ↓reduceIte, eq_self, ge_iff_le, gt_iff_lt, Nat.reduceAdd, Nat.reduceMul, Nat.reduceSub, Nat.reduceLT, Nat.reduceGT, Nat.reduceEqDiff, Nat.reduceLeDiff, Nat.left_eq_add, Nat.add_eq_left, Nat.reduceMod, Nat.reduceDiv, Nat.succ_ne_self, gd, g1, gm2, gh2, gn3, e10, run1, run2, lr3, run3, run4, e1']
        · rw [if_neg hl] at hs ⊢
          have ev3 : v3 = 0 := v3a.elim (fun z => z) (fun z => absurd (v3b.mp z) hl)
          subst ev3
          refine ⟨h2, some (.int 0), some (.int (Int32.ofNat (i + 1))), NN, I2, LTi.of ⟨ko2, kh2, kn2, kb2, ab2, ⟨A, eA, sA⟩, ⟨N, eN, sN'⟩, shB⟩, cn2, fun Q => ?_⟩
          rw [on1, ← trs_0 (i := i + 1) (by omega) Q]
          clear W I I1 I2 K ih cn cn2 sA sN' TA TN dim shS k1 kn1 kh1 ko1 ko2 kh2 kn2 kd2 km2 kb2 keep c1 f1 shN sM shB shM rk on1
          rw [s_268_239]
          simp (disch := omega) only [s_268_0, s_268_1, s_268_4, s_268_7, s_268_8, s_268_9, s_268_10, s_268_11, s_268_13, s_268_16, s_268_17, s_268_18, s_268_21, s_268_23, s_268_24, s_268_26, s_268_29, s_268_29n, s_268_31, s_268_32, s_268_34, s_268_37, s_268_37n, s_268_39, s_268_40, s_268_43, s_268_43n, s_268_45, s_268_46, s_268_49, s_268_49n, s_268_51, s_268_53, s_268_56, s_268_59, s_268_60, s_268_61, s_268_62, s_268_64, s_268_66, s_268_68, s_268_70, s_268_73, s_268_74, s_268_76, s_268_79, s_268_80, s_268_81, s_268_82, s_268_83, s_268_85, s_268_87, s_268_89, s_268_91, s_268_94, s_268_95, s_268_97, s_268_99, s_268_101, s_268_104, s_268_107, s_268_108, s_268_111, s_268_114, s_268_116, s_268_117, s_268_120, s_268_122, s_268_124, s_268_127, s_268_129, s_268_131, s_268_134, s_268_137, s_268_139, s_268_141, s_268_144, s_268_146, s_268_148, s_268_151, s_268_153, s_268_156, s_268_157, s_268_158, s_268_159, s_268_161, s_268_163, s_268_165, s_268_167, s_268_170, s_268_173, s_268_176, s_268_177, s_268_180, s_268_180n, s_268_182, s_268_183, s_268_186, s_268_186n, s_268_188, s_268_189, s_268_191, s_268_192, s_268_196, s_268_197, s_268_200, s_268_202, s_268_205, s_268_206, s_268_209, s_268_212, s_268_214, s_268_216, s_268_219, s_268_222, s_268_224, s_268_226, s_268_229, s_268_232, s_268_233, s_268_236, s_268_237, s_268_241, s_268_244, s_268_246, s_268_248, s_268_251, s_268_252, s_268_253, s_268_254, s_268_256, s_268_258, s_268_260, s_268_262, s_268_265, s_268_267, s_268_269, s_268_272, s_268_274, s_268_276, s_268_279, s_268_281, s_268_283, s_268_286, s_268_288, s_268_290, s_268_293, s_268_296, s_268_299, s_268_300, s_268_303, s_268_306, s_268_307, s_268_308, s_268_309, s_268_311, s_268_313, s_268_315, s_268_317, s_268_320, s_268_322, s_268_324, s_268_327, s_268_328, s_268_330, s_268_333, e_268, mv_i_1, mv_l_1, mv_a_1, mv_a_2, mv_a_3, mk2_n, mk2_i, mk2_l, mk2_a, mk2_u, mk2_x, mB_T, mB_F, mS_cons, mS_nil, mSB_T, mSB_F, mca_nil, mca_i, mca_l, mca_r, mca_u, mca_x, mcat_i, mcat_l, mcat_r, mcat_u, mcat_x, mK_some, mK_none, va_rf_s, va_rf_n, lgc_eq, lgc_lt, lgc_gt, lgc_ge, lgc_le, mrd_104, mrd_105, mrd_106, mrd_107, true_and, and_true, and_self, false_and, and_false, true_or, or_true, false_or, or_false, not_true_eq_false, not_false_eq_true, mgb, mga, mgr, mN, reduceCtorEq, ↓reduceIte, eq_self, ge_iff_le, gt_iff_lt, Nat.reduceAdd, Nat.reduceMul, Nat.reduceSub, Nat.reduceLT, Nat.reduceGT, Nat.reduceEqDiff, Nat.reduceLeDiff, Nat.left_eq_add, Nat.add_eq_left, Nat.reduceMod, Nat.reduceDiv, Nat.succ_ne_self, gd, g1, gm2, e00, e10, run1, run2, lr3, e1']
end TRs
