set_option maxRecDepth 100000
/-! a while, whole -/
section LOe
variable {d : Nat} {hO h h1 h2 : mh_H} {s0 sb o hh tt nn bh td mm p k f i x y m n b : Nat} {E : nv} {D : fd} {w0 w1 : wd} {S : ab} {s H TT NN BE N' X C : Option ab} {G : pgm} {J : pin} {c bs q r : tr} {nx' : Int32}
/-- its end -/
theorem lop_8 (I : LPi G hO h s0 sb o hh tt nn bh E D w0) (ko' : RK h o (some S)) (kb' : RK h bh BE) (a2 : mh_i h bh 2 = Int32.ofNat E.ar) (cn : cNq G h p w0) {x1 x2 x3 x10 x11 x12 x13 : Option Value} : ∃ h', rq s0 (sV o E.T) hO h' ∧ RA h' s0 E D w0 ∧ RK h' o BE ∧ mh_i h' o 2 = Int32.ofNat E.ar ∧ (∀ q, cnQ G hO q → cnQ G h' q) ∧ cNq G h' p w0 ∧ ∀ Q, mw (d + 2) 268 Q 320 [some (.ref 115), x1, x2, x3, some (.ref o), some (.int (Int32.ofNat s0)), some (.ref hh), some (.ref tt), some (.ref nn), some (.ref bh), x10, x11, x12, x13] [] h = Q none h' := by
  have so := lv_sp I.l
  have lo := sp_lo I.A.j so
  have do3 := li_lo I I.r3 (by omega)
  obtain ⟨X1, f1, k1, run1⟩ := k_281 (d := d + 1) (RK_ko ko') kb' do3
  have A1 := ra_k I.A so f1 (RK_ko k1)
  have a1 := k_281f (RK_ko ko') kb' do3 run1
  have cc : ∀ q, cnQ G h q → cnQ G (mh_si X1 115 11 (Int32.ofNat s0)) q := fun q w => by
    have := cn_k I.A so f1 w
    exact cn_i this (fun b j hb => by rw [hi_si, if_neg (by omega)])
  refine ⟨mh_si X1 115 11 (Int32.ofNat s0), rq_t I.x (rq_t (sV_k I.A so f1) (sV_115 (by omega))), RA_11 A1, RK_fz (fz_si (W := fun b _ => b = 115) rfl) (fun y hy j w => by omega) k1, by rw [hi_si, if_neg (by omega), a1]; exact a2, fun q w => cc q (I.c q w), cNq_t cc cn, fun Q => ?_⟩
  have go := (RK_ko ko').1
  have g1 := A1.j.a.g
  clear I A1 ko' kb' k1 f1 cc cn
  simp (disch := omega) only [s_268_0, s_268_1, s_268_4, s_268_7, s_268_8, s_268_9, s_268_10, s_268_11, s_268_13, s_268_16, s_268_17, s_268_18, s_268_21, s_268_23, s_268_24, s_268_26, s_268_29, s_268_29n, s_268_31, s_268_32, s_268_34, s_268_37, s_268_37n, s_268_39, s_268_40, s_268_43, s_268_43n, s_268_45, s_268_46, s_268_49, s_268_49n, s_268_51, s_268_53, s_268_56, s_268_59, s_268_60, s_268_61, s_268_62, s_268_64, s_268_66, s_268_68, s_268_70, s_268_73, s_268_74, s_268_76, s_268_79, s_268_80, s_268_81, s_268_82, s_268_83, s_268_85, s_268_87, s_268_89, s_268_91, s_268_94, s_268_95, s_268_97, s_268_99, s_268_101, s_268_104, s_268_107, s_268_108, s_268_111, s_268_114, s_268_116, s_268_117, s_268_120, s_268_122, s_268_124, s_268_127, s_268_129, s_268_131, s_268_134, s_268_137, s_268_139, s_268_141, s_268_144, s_268_146, s_268_148, s_268_151, s_268_153, s_268_156, s_268_157, s_268_158, s_268_159, s_268_161, s_268_163, s_268_165, s_268_167, s_268_170, s_268_173, s_268_176, s_268_177, s_268_180, s_268_180n, s_268_182, s_268_183, s_268_186, s_268_186n, s_268_188, s_268_189, s_268_191, s_268_192, s_268_194, s_268_196, s_268_197, s_268_200, s_268_202, s_268_205, s_268_206, s_268_209, s_268_212, s_268_214, s_268_216, s_268_219, s_268_222, s_268_224, s_268_226, s_268_229, s_268_232, s_268_233, s_268_236, s_268_237, s_268_239, s_268_241, s_268_244, s_268_246, s_268_248, s_268_251, s_268_252, s_268_253, s_268_254, s_268_256, s_268_258, s_268_260, s_268_262, s_268_265, s_268_267, s_268_269, s_268_272, s_268_274, s_268_276, s_268_279, s_268_281, s_268_283, s_268_286, s_268_288, s_268_290, s_268_293, s_268_296, s_268_299, s_268_300, s_268_303, s_268_306, s_268_307, s_268_308, s_268_309, s_268_311, s_268_313, s_268_315, s_268_317, s_268_320, s_268_322, s_268_324, s_268_327, s_268_328, s_268_330, s_268_333, e_268, mv_i_1, mv_l_1, mv_a_1, mv_a_2, mv_a_3, mk2_n, mk2_i, mk2_l, mk2_a, mk2_u, mk2_x, mB_T, mB_F, mS_cons, mS_nil, mSB_T, mSB_F, mca_nil, mca_i, mca_l, mca_r, mca_u, mca_x, mcat_i, mcat_l, mcat_r, mcat_u, mcat_x, mK_some, mK_none, va_rf_s, va_rf_n, lgc_eq, lgc_lt, lgc_gt, lgc_ge, lgc_le, mrd_104, mrd_105, mrd_106, mrd_107, true_and, and_true, and_self, false_and, and_false, true_or, or_true, false_or, or_false, not_true_eq_false, not_false_eq_true, mgb, mga, mgr, mN, reduceCtorEq, ↓reduceIte, eq_self, ge_iff_le, gt_iff_lt, Nat.reduceAdd, Nat.reduceMul, Nat.reduceSub, Nat.reduceLT, Nat.reduceGT, Nat.reduceEqDiff, Nat.reduceLeDiff, Nat.left_eq_add, Nat.add_eq_left, Nat.reduceMod, Nat.reduceDiv, Nat.succ_ne_self, go, g1, run1]
/-- the last round -/
theorem lop_9 (W : WHL G J D f E p k m c b bs q hO) (shS : shp E.nu E.ar E.rm (some S)) (hd : 4 * (G.E p - p) + 826 ≤ d) {t : Option ab × Option ab × wd × Nat} (I : LPi G hO h s0 (s0 + 6) o hh tt nn bh E D t.2.2.1) (K : LTi h o hh nn bh E S t.1 N' t.2.1) (cn : cNq G h p t.2.2.1) (hs : s0 + (finD G (DB G f) p (some S) t).2.2 + 1 ≤ 2048) {x10 x11 x12 x13 : Option Value} : ∃ h', rq s0 (sV o E.T) hO h' ∧ RA h' s0 E D (finD G (DB G f) p (some S) t).2.1 ∧ RK h' o (finD G (DB G f) p (some S) t).1 ∧ mh_i h' o 2 = Int32.ofNat E.ar ∧ (∀ q, cnQ G hO q → cnQ G h' q) ∧ cNq G h' p (finD G (DB G f) p (some S) t).2.1 ∧ shp E.nu E.ar E.rm (finD G (DB G f) p (some S) t).1 ∧ ∀ Q, mw (d + 2) 268 Q 299 [some (.ref 115), some (.int (Int32.ofNat k)), some (.int (Int32.ofNat p)), some (.int nx'), some (.ref o), some (.int (Int32.ofNat s0)), some (.ref hh), some (.ref tt), some (.ref nn), some (.ref bh), x10, x11, x12, x13] [] h = Q none h' := by
  have g := I.A.j.a.g
  have a9 := I.A.m
  have k0 : kb false = 0 := rfl
  have k1 : kb true = 1 := rfl
  have e00 : ((0 : Int32) = 0) = True := by decide
  have e10 : ((1 : Int32) = 0) = False := by decide
  unfold finD at hs ⊢
  by_cases hm : 4000 < wW t.2.2.1
  · rw [if_pos hm] at hs ⊢
    rw [decide_eq_true hm, k1] at a9
    obtain ⟨h', o1, o2, o3, o4, o5, o6, run⟩ := lop_8 (d := d) (p := p) (x1 := some (.int (Int32.ofNat k))) (x2 := some (.int (Int32.ofNat p))) (x3 := some (.int nx')) (x10 := x10) (x11 := x11) (x12 := x12) (x13 := x13) I K.ko K.kb K.a2 cn
    refine ⟨h', o1, o2, o3, o4, o5, o6, K.b1, fun Q => ?_⟩
    rw [← run Q]
    clear W I K o1 o2 o3 o5 o6 run cn shS
    rw [s_268_299]
    simp (disch := omega) only [s_268_0, s_268_1, s_268_4, s_268_7, s_268_8, s_268_9, s_268_10, s_268_11, s_268_13, s_268_16, s_268_17, s_268_18, s_268_21, s_268_23, s_268_24, s_268_26, s_268_29, s_268_29n, s_268_31, s_268_32, s_268_34, s_268_37, s_268_37n, s_268_39, s_268_40, s_268_43, s_268_43n, s_268_45, s_268_46, s_268_49, s_268_49n, s_268_51, s_268_53, s_268_56, s_268_59, s_268_60, s_268_61, s_268_62, s_268_64, s_268_66, s_268_68, s_268_70, s_268_73, s_268_74, s_268_76, s_268_79, s_268_80, s_268_81, s_268_82, s_268_83, s_268_85, s_268_87, s_268_89, s_268_91, s_268_94, s_268_95, s_268_97, s_268_99, s_268_101, s_268_104, s_268_107, s_268_108, s_268_111, s_268_114, s_268_116, s_268_117, s_268_120, s_268_122, s_268_124, s_268_127, s_268_129, s_268_131, s_268_134, s_268_137, s_268_139, s_268_141, s_268_144, s_268_146, s_268_148, s_268_151, s_268_153, s_268_156, s_268_157, s_268_158, s_268_159, s_268_161, s_268_163, s_268_165, s_268_167, s_268_170, s_268_173, s_268_176, s_268_177, s_268_180, s_268_180n, s_268_182, s_268_183, s_268_186, s_268_186n, s_268_188, s_268_189, s_268_191, s_268_192, s_268_194, s_268_196, s_268_197, s_268_200, s_268_202, s_268_205, s_268_206, s_268_209, s_268_212, s_268_214, s_268_216, s_268_219, s_268_222, s_268_224, s_268_226, s_268_229, s_268_232, s_268_233, s_268_236, s_268_237, s_268_239, s_268_241, s_268_244, s_268_246, s_268_248, s_268_251, s_268_252, s_268_253, s_268_254, s_268_256, s_268_258, s_268_260, s_268_262, s_268_265, s_268_267, s_268_269, s_268_272, s_268_274, s_268_276, s_268_279, s_268_281, s_268_283, s_268_286, s_268_288, s_268_290, s_268_293, s_268_296, s_268_300, s_268_303, s_268_306, s_268_307, s_268_308, s_268_309, s_268_311, s_268_313, s_268_315, s_268_317, s_268_322, s_268_324, s_268_327, s_268_328, s_268_330, s_268_333, e_268, mv_i_1, mv_l_1, mv_a_1, mv_a_2, mv_a_3, mk2_n, mk2_i, mk2_l, mk2_a, mk2_u, mk2_x, mB_T, mB_F, mS_cons, mS_nil, mSB_T, mSB_F, mca_nil, mca_i, mca_l, mca_r, mca_u, mca_x, mcat_i, mcat_l, mcat_r, mcat_u, mcat_x, mK_some, mK_none, va_rf_s, va_rf_n, lgc_eq, lgc_lt, lgc_gt, lgc_ge, lgc_le, mrd_104, mrd_105, mrd_106, mrd_107, true_and, and_true, and_self, false_and, and_false, true_or, or_true, false_or, or_false, not_true_eq_false, not_false_eq_true, mgb, mga, mgr, mN, reduceCtorEq, ↓reduceIte, eq_self, ge_iff_le, gt_iff_lt, Nat.reduceAdd, Nat.reduceMul, Nat.reduceSub, Nat.reduceLT, Nat.reduceGT, Nat.reduceEqDiff, Nat.reduceLeDiff, Nat.left_eq_add, Nat.add_eq_left, Nat.reduceMod, Nat.reduceDiv, Nat.succ_ne_self, g, a9, e10]
  · rw [if_neg hm] at hs ⊢
    dsimp only at hs ⊢
    rw [decide_eq_false hm, k0] at a9
    obtain ⟨A, eA, sA⟩ := K.h1
    have shH : shp E.nu E.ar E.rm t.1 := by rw [eA]; exact sA
    have aH : mh_i h hh 2 = Int32.ofNat E.ar := by
      have kk := K.kh
      rw [eA] at kk
      rw [KM.a kk, (sA A rfl).2.2.1]
    obtain ⟨h2, I2, kn2, kb2, ab2, keep, -, rk, cn2, shB, shN, run2⟩ := li_r (d := d) (sb := s0 + 6) W I (by omega) (by omega) I.r0 (by omega) I.r2 (by omega) (by omega) (by omega) (by omega) K.ko K.kh shS shH aH (by omega) hd
    have ko2 := keep o _ (lv_w I.l (by omega)) (li_lo I I.r2 (by omega)) (li_lo I I.r3 (by omega)) K.ko
    obtain ⟨h', o1, o2, o3, o4, o5, o6, run⟩ := lop_8 (d := d) (p := p) (x1 := some (.int (Int32.ofNat k))) (x2 := some (.int (Int32.ofNat p))) (x3 := some (.int nx')) (x10 := x10) (x11 := x11) (x12 := x12) (x13 := x13) I2 ko2 kb2 ab2 cn2
    refine ⟨h', o1, o2, o3, o4, o5, o6, shB, fun Q => ?_⟩
    rw [← run Q]
    clear W I I2 K o1 o2 o3 o5 o6 run cn cn2 shS keep kn2 kb2 ko2 sA shH shB shN rk
    rw [s_268_299]
    simp (disch := omega) only [s_268_0, s_268_1, s_268_4, s_268_7, s_268_8, s_268_9, s_268_10, s_268_11, s_268_13, s_268_16, s_268_17, s_268_18, s_268_21, s_268_23, s_268_24, s_268_26, s_268_29, s_268_29n, s_268_31, s_268_32, s_268_34, s_268_37, s_268_37n, s_268_39, s_268_40, s_268_43, s_268_43n, s_268_45, s_268_46, s_268_49, s_268_49n, s_268_51, s_268_53, s_268_56, s_268_59, s_268_60, s_268_61, s_268_62, s_268_64, s_268_66, s_268_68, s_268_70, s_268_73, s_268_74, s_268_76, s_268_79, s_268_80, s_268_81, s_268_82, s_268_83, s_268_85, s_268_87, s_268_89, s_268_91, s_268_94, s_268_95, s_268_97, s_268_99, s_268_101, s_268_104, s_268_107, s_268_108, s_268_111, s_268_114, s_268_116, s_268_117, s_268_120, s_268_122, s_268_124, s_268_127, s_268_129, s_268_131, s_268_134, s_268_137, s_268_139, s_268_141, s_268_144, s_268_146, s_268_148, s_268_151, s_268_153, s_268_156, s_268_157, s_268_158, s_268_159, s_268_161, s_268_163, s_268_165, s_268_167, s_268_170, s_268_173, s_268_176, s_268_177, s_268_180, s_268_180n, s_268_182, s_268_183, s_268_186, s_268_186n, s_268_188, s_268_189, s_268_191, s_268_192, s_268_194, s_268_196, s_268_197, s_268_200, s_268_202, s_268_205, s_268_206, s_268_209, s_268_212, s_268_214, s_268_216, s_268_219, s_268_222, s_268_224, s_268_226, s_268_229, s_268_232, s_268_233, s_268_236, s_268_237, s_268_239, s_268_241, s_268_244, s_268_246, s_268_248, s_268_251, s_268_252, s_268_253, s_268_254, s_268_256, s_268_258, s_268_260, s_268_262, s_268_265, s_268_267, s_268_269, s_268_272, s_268_274, s_268_276, s_268_279, s_268_281, s_268_283, s_268_286, s_268_288, s_268_290, s_268_293, s_268_296, s_268_300, s_268_303, s_268_306, s_268_307, s_268_308, s_268_309, s_268_311, s_268_313, s_268_315, s_268_317, s_268_322, s_268_324, s_268_327, s_268_328, s_268_330, s_268_333, e_268, mv_i_1, mv_l_1, mv_a_1, mv_a_2, mv_a_3, mk2_n, mk2_i, mk2_l, mk2_a, mk2_u, mk2_x, mB_T, mB_F, mS_cons, mS_nil, mSB_T, mSB_F, mca_nil, mca_i, mca_l, mca_r, mca_u, mca_x, mcat_i, mcat_l, mcat_r, mcat_u, mcat_x, mK_some, mK_none, va_rf_s, va_rf_n, lgc_eq, lgc_lt, lgc_gt, lgc_ge, lgc_le, mrd_104, mrd_105, mrd_106, mrd_107, true_and, and_true, and_self, false_and, and_false, true_or, or_true, false_or, or_false, not_true_eq_false, not_false_eq_true, mgb, mga, mgr, mN, reduceCtorEq, ↓reduceIte, eq_self, ge_iff_le, gt_iff_lt, Nat.reduceAdd, Nat.reduceMul, Nat.reduceSub, Nat.reduceLT, Nat.reduceGT, Nat.reduceEqDiff, Nat.reduceLeDiff, Nat.left_eq_add, Nat.add_eq_left, Nat.reduceMod, Nat.reduceDiv, Nat.succ_ne_self, g, a9, e00, run2]
/-- its start -/
theorem lop_0 (S0 : SA h s0 o E D w0 s) (hs : s0 + 4 ≤ 2048) (hd : 100 ≤ d) : ∃ h' hh tt nn bh, LPi G h h' s0 (s0 + 4) o hh tt nn bh E D w0 ∧ RK h' o s ∧ mh_i h' o 2 = Int32.ofNat E.ar ∧ RK h' hh s ∧ mh_i h' hh 2 = Int32.ofNat E.ar ∧ RK h' tt s ∧ ∀ Q, mcall (d + 2) 268 [.ref 115, .int (Int32.ofNat k), .int (Int32.ofNat p), .int nx', .ref o] h Q = mw (d + 2) 268 Q 51 [some (.ref 115), some (.int (Int32.ofNat k)), some (.int (Int32.ofNat p)), some (.int nx'), some (.ref o), some (.int (Int32.ofNat s0)), some (.ref hh), some (.ref tt), some (.ref nn), some (.ref bh), none, none, none, none] [] h' := by
  obtain ⟨d, rfl⟩ : ∃ d', d = d' + 1 := ⟨d - 1, by omega⟩
  have A := S0.A
  have J := A.j
  obtain ⟨h1, hh, x1, J1, f1, i1, -, k1, a1, run1⟩ := t_227f (d := d) J A.s (by omega) S0.l S0.k
  have A1 := RA_q A vF x1 J1 i1
  have l1 := rq_lv x1 S0.l
  have ko1 := rq_K J x1 S0.l (fun _ _ _ w => w) S0.k
  have ao1 := rq_ki J x1 S0.l (fun _ w => w) 2
  obtain ⟨h2, tt, x2, J2, f2, i2, -, k2, -, run2⟩ := t_227f (d := d) J1 i1 (by omega) (lv_w l1 (by omega)) ko1
  have A2 := RA_q A1 vF x2 J2 i2
  have l2 := rq_lv x2 l1
  have ko2 := rq_K J1 x2 (lv_w l1 (by omega)) (fun _ _ _ w => w) ko1
  have ao2 := rq_ki J1 x2 (lv_w l1 (by omega)) (fun _ w => w) 2
  have lh1 : lv h1 (s0 + 1) hh := ⟨s0, by omega, f1⟩
  have kh2 := rq_K J1 x2 lh1 (fun _ _ _ w => w) k1
  have ah2 := rq_ki J1 x2 lh1 (fun _ w => w) 2
  obtain ⟨h3, nn, x3, J3, f3, i3, -, ko3', run3⟩ := t_226 (d := d + 1) J2 i2 (by omega)
  have A3 := RA_q A2 vF x3 J3 i3
  have l3 := rq_lv x3 l2
  have lt2 : lv h2 (s0 + 1 + 1) tt := ⟨s0 + 1, by omega, f2⟩
  have lh2 : lv h2 (s0 + 1 + 1) hh := lv_w (rq_lv x2 lh1) (by omega)
  have lo2 : lv h2 (s0 + 1 + 1) o := lv_w l2 (by omega)
  have ko3 := rq_K J2 x3 lo2 (fun _ _ _ w => w) ko2
  have ao3 := rq_ki J2 x3 lo2 (fun _ w => w) 2
  have kh3 := rq_K J2 x3 lh2 (fun _ _ _ w => w) kh2
  have ah3 := rq_ki J2 x3 lh2 (fun _ w => w) 2
  have kt3 := rq_K J2 x3 lt2 (fun _ _ _ w => w) k2
  obtain ⟨h4, bh, x4, J4, f4, i4, -, ko4', run4⟩ := t_226 (d := d + 1) J3 i3 (by omega)
  have A4 := RA_q A3 vF x4 J4 i4
  have lo3 : lv h3 (s0 + 1 + 1 + 1) o := lv_w l3 (by omega)
  have lh3 : lv h3 (s0 + 1 + 1 + 1) hh := lv_w (rq_lv x3 lh2) (by omega)
  have lt3 : lv h3 (s0 + 1 + 1 + 1) tt := lv_w (rq_lv x3 lt2) (by omega)
  have ko4 := rq_K J3 x4 lo3 (fun _ _ _ w => w) ko3
  have ao4 := rq_ki J3 x4 lo3 (fun _ w => w) 2
  have kh4 := rq_K J3 x4 lh3 (fun _ _ _ w => w) kh3
  have ah4 := rq_ki J3 x4 lh3 (fun _ w => w) 2
  have kt4 := rq_K J3 x4 lt3 (fun _ _ _ w => w) kt3
  obtain ⟨t1, t2, t3⟩ := rq_tr J vF x1
  obtain ⟨u1, u2, u3⟩ := rq_tr J1 vF x2
  obtain ⟨v1, v2', v3⟩ := rq_tr J2 vF x3
  obtain ⟨y1, y2, y3⟩ := rq_tr J3 vF x4
  refine ⟨h4, hh, tt, nn, bh, LPi.of ⟨A4, rq_lv x4 l3, x4.k _ _ (x3.k _ _ (x2.k _ _ f1)), x4.k _ _ (x3.k _ _ f2), x4.k _ _ f3, f4, rq_t (sV_F x1 (Nat.le_refl _)) (rq_t (sV_F x2 (by omega)) (rq_t (sV_F x3 (by omega)) (sV_F x4 (by omega)))), ⟨by rw [y1, v1, u1, t1], by rw [y2, v2', u2, t2], by rw [y3, v3, u3, t3]⟩, fun q w => cn_q A3 vF x4 (cn_q A2 vF x3 (cn_q A1 vF x2 (cn_q A vF x1 w))), by rw [rq_z J3 vF x4, rq_z J2 vF x3, rq_z J1 vF x2, rq_z J vF x1]; exact S0.z⟩, ko4, by rw [ao4, ao3, ao2, ao1]; exact S0.a, kh4, by rw [ah4, ah3, ah2, a1]; exact S0.a, kt4, fun Q => ?_⟩
  have g := J.a.g
  have g1 := J1.a.g
  have g2 := J2.a.g
  have g3 := J3.a.g
  have a11 := A.s
  have a34 := S0.z
  have e00 : ((0 : Int32) = 0) = True := by decide
  clear S0 A A1 A2 A3 A4 J J1 J2 J3 J4 x1 x2 x3 x4 k1 k2 ko1 ko2 ko3 ko4 kh2 kh3 kh4 kt3 kt4 ko3' ko4' l1 l2 l3 lh1 lt2 lh2 lo2 lo3 lh3 lt3
  simp (disch := omega) only [s_268_0, s_268_1, s_268_4, s_268_7, s_268_8, s_268_9, s_268_10, s_268_11, s_268_13, s_268_16, s_268_17, s_268_18, s_268_21, s_268_23, s_268_24, s_268_26, s_268_29, s_268_29n, s_268_31, s_268_32, s_268_34, s_268_37, s_268_37n, s_268_39, s_268_40, s_268_43, s_268_43n, s_268_45, s_268_46, s_268_49, s_268_49n, s_268_53, s_268_56, s_268_59, s_268_60, s_268_61, s_268_62, s_268_64, s_268_66, s_268_68, s_268_70, s_268_73, s_268_74, s_268_76, s_268_79, s_268_80, s_268_81, s_268_82, s_268_83, s_268_85, s_268_87, s_268_89, s_268_91, s_268_94, s_268_95, s_268_97, s_268_99, s_268_101, s_268_104, s_268_107, s_268_108, s_268_111, s_268_114, s_268_116, s_268_117, s_268_120, s_268_122, s_268_124, s_268_127, s_268_129, s_268_131, s_268_134, s_268_137, s_268_139, s_268_141, s_268_144, s_268_146, s_268_148, s_268_151, s_268_153, s_268_156, s_268_157, s_268_158, s_268_159, s_268_161, s_268_163, s_268_165, s_268_167, s_268_170, s_268_173, s_268_176, s_268_177, s_268_180, s_268_180n, s_268_182, s_268_183, s_268_186, s_268_186n, s_268_188, s_268_189, s_268_191, s_268_192, s_268_194, s_268_196, s_268_197, s_268_200, s_268_202, s_268_205, s_268_206, s_268_209, s_268_212, s_268_214, s_268_216, s_268_219, s_268_222, s_268_224, s_268_226, s_268_229, s_268_232, s_268_233, s_268_236, s_268_237, s_268_239, s_268_241, s_268_244, s_268_246, s_268_248, s_268_251, s_268_252, s_268_253, s_268_254, s_268_256, s_268_258, s_268_260, s_268_262, s_268_265, s_268_267, s_268_269, s_268_272, s_268_274, s_268_276, s_268_279, s_268_281, s_268_283, s_268_286, s_268_288, s_268_290, s_268_293, s_268_296, s_268_299, s_268_300, s_268_303, s_268_306, s_268_307, s_268_308, s_268_309, s_268_311, s_268_313, s_268_315, s_268_317, s_268_320, s_268_322, s_268_324, s_268_327, s_268_328, s_268_330, s_268_333, e_268, mv_i_1, mv_l_1, mv_a_1, mv_a_2, mv_a_3, mk2_n, mk2_i, mk2_l, mk2_a, mk2_u, mk2_x, mB_T, mB_F, mS_cons, mS_nil, mSB_T, mSB_F, mca_nil, mca_i, mca_l, mca_r, mca_u, mca_x, mcat_i, mcat_l, mcat_r, mcat_u, mcat_x, mK_some, mK_none, va_rf_s, va_rf_n, lgc_eq, lgc_lt, lgc_gt, lgc_ge, lgc_le, mrd_104, mrd_105, mrd_106, mrd_107, true_and, and_true, and_self, false_and, and_false, true_or, or_true, false_or, or_false, not_true_eq_false, not_false_eq_true, mgb, mga, mgr, mN, reduceCtorEq, ↓reduceIte, eq_self, ge_iff_le, gt_iff_lt, Nat.reduceAdd, Nat.reduceMul, Nat.reduceSub, Nat.reduceLT, Nat.reduceGT, Nat.reduceEqDiff, Nat.reduceLeDiff, Nat.left_eq_add, Nat.add_eq_left, Nat.reduceMod, Nat.reduceDiv, Nat.succ_ne_self, g, g1, g2, g3, a11, a34, e00, run1, run2, run3, run4]
end LOe
