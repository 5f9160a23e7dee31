set_option maxRecDepth 100000
/-! THE LAW'S LOOP: one call on both sides -/
theorem lx_i {L : Nat} (hL : L ≤ 4096) {j : Nat} (hi : j < L) : mx (Int32.ofNat j) L = True ∧ (Int32.ofNat j).toNatClampNeg = j := by
  have e : (Int32.ofNat j).toNatClampNeg = j := nn_clamp (by omega)
  refine ⟨eq_true ⟨?_, by rw [e]; exact hi⟩, e⟩
  rw [Int32.le_iff_toInt_le, nn_int (by omega)]
  have : (0 : Int32).toInt = 0 := by decide
  omega
theorem lx_1 {i : Nat} : Int32.ofNat i + 1 = Int32.ofNat (i + 1) := (show Int32.ofNat i + Int32.ofNat 1 = Int32.ofNat (i + 1) from nn_add)
theorem lx_2 {i : Nat} : Int32.ofNat i + 2 = Int32.ofNat (i + 2) := (show Int32.ofNat i + Int32.ofNat 2 = Int32.ofNat (i + 2) from nn_add)
theorem lx_3 {i : Nat} : Int32.ofNat i + 3 = Int32.ofNat (i + 3) := (show Int32.ofNat i + Int32.ofNat 3 = Int32.ofNat (i + 3) from nn_add)
theorem lx_4 {i : Nat} : Int32.ofNat i + 4 = Int32.ofNat (i + 4) := (show Int32.ofNat i + Int32.ofNat 4 = Int32.ofNat (i + 4) from nn_add)
theorem lx_5 {i : Nat} : Int32.ofNat i + 5 = Int32.ofNat (i + 5) := (show Int32.ofNat i + Int32.ofNat 5 = Int32.ofNat (i + 5) from nn_add)
theorem lx_6 {i : Nat} : Int32.ofNat i + 6 = Int32.ofNat (i + 6) := (show Int32.ofNat i + Int32.ofNat 6 = Int32.ofNat (i + 6) from nn_add)
theorem lx_7 {i : Nat} : Int32.ofNat i + 7 = Int32.ofNat (i + 7) := (show Int32.ofNat i + Int32.ofNat 7 = Int32.ofNat (i + 7) from nn_add)
theorem lx_8 {i : Nat} : Int32.ofNat i + 8 = Int32.ofNat (i + 8) := (show Int32.ofNat i + Int32.ofNat 8 = Int32.ofNat (i + 8) from nn_add)
theorem mS_c {x c : Int32} {t df : Nat} {K : Nat → me_L → List Value → mh_H → Prop} {ls : me_L} {st : List Value} {h : mh_H} {r : List (Int32 × Nat)} (a : x = c → K t ls st h) (b : ¬ x = c → mS x K df ls st h r) : mS x K df ls st h ((c, t) :: r) := ⟨a, b⟩
section LWs
variable {R : Nat → Prop} {k i L : Nat} {xs : Nat → Int32} {h h1 h2 : mh_H} {fd : Nat × (Nat → Int32)} {td : Bool × Int32 × Int32 × Int32} {g : pgz} {cl : Nat → Option ab} {ip : Nat × (Nat → Int32)} {rz : rnz} {T : List Int32}
/-- where the next call comes -/
def NX (L : Nat) (xs : Nat → Int32) (k i : Nat) : Prop := ∀ (R' : Nat → Prop) (h2 : mh_H) (fd' : Nat × (Nat → Int32)) (td' : Bool × Int32 × Int32 × Int32) (g' : pgz) (cl' : Nat → Option ab) (ip' : Nat × (Nat → Int32)) (rz' : rnz) (T' : List Int32), INV R' (k + 1) h2 fd' td' g' cl' ip' rz' T' → lw L xs 2047 lq 913 [some (.retAddr 8), some (.ref 0), some (.ref 81), some (.int (Int32.ofNat i))] [] h2
theorem g_81 (I : INV R k h fd td g cl ip rz T) {y : Nat} {as : List Value} {r : Option Value} (run : ∀ Q, mcall 2046 y (.ref 0 :: as) h Q = Q r h1) (T0 : ∀ v, v ∈ as → ∀ o, v ≠ .ref o) : mg h 0 11 ∧ mg h1 81 14 := by
  obtain ⟨Y, C, E, TT, UU, SC, SP, nC, nE, nS, pa, P⟩ := I.C.P
  obtain ⟨ap, Pr⟩ := I.R.P
  obtain ⟨-, sk⟩ := sd_c I.S (ar_0 T0) run P.B.N
  have g8 := Pr.b.Y.F.g 81 14 70 (by decide +kernel)
  exact ⟨P.B.F.g 0 11 15 (by decide +kernel), (sk.2.2.1 81 g8.2).1.trans g8.1, Nat.lt_of_lt_of_le g8.2 sk.1⟩
set_option maxRecDepth 100000 in
theorem lv_0 (I : INV R k h fd td g cl ip rz T) (hk : k < 512) (hL : L ≤ 4096) (hi : i + 8 ≤ L) (nx : NX L xs k i) : lw L xs 2047 lq 132 [some (.retAddr 8), some (.ref 0), some (.ref 81), some (.int (Int32.ofNat i))] [] h := by
  obtain ⟨m1, c1⟩ := lx_i hL (j := i + 1) (by omega)
  obtain ⟨m2, c2⟩ := lx_i hL (j := i + 2) (by omega)
  obtain ⟨m3, c3⟩ := lx_i hL (j := i + 3) (by omega)
  obtain ⟨m4, c4⟩ := lx_i hL (j := i + 4) (by omega)
  obtain ⟨m5, c5⟩ := lx_i hL (j := i + 5) (by omega)
  obtain ⟨R', h1, h2, r, fd', td', g', cl', ip', rz', T', run1, run2, I'⟩ := s_feed I hk (xs (i + 1)) (xs (i + 2)) (xs (i + 3)) (xs (i + 4)) (xs (i + 5))
  have w := nx _ _ _ _ _ _ _ _ _ I'
  obtain ⟨g0, g8⟩ := g_81 I run1 (fun v hv o e => by subst e; simp at hv)
  have rr : (r = r) = True := eq_self r
  clear I I' nx
  simp (disch := omega) only [s_406_132, s_406_133, s_406_134, s_406_135, s_406_136, s_406_137, s_406_138, s_406_139, s_406_140, s_406_141, s_406_142, s_406_143, s_406_144, s_406_145, s_406_146, s_406_147, s_406_148, s_406_149, s_406_150, s_406_151, s_406_152, s_406_153, s_406_154, s_406_155, s_406_156, s_406_157, s_406_158, s_406_161, s_406_162, s_406_163, s_406_164, s_406_165, s_406_166, s_406_167, s_406_168, s_406_169, s_406_170, s_406_171, s_406_172, s_406_173, s_406_174, s_406_175, s_406_176, s_406_177, s_406_178, s_406_179, s_406_180, s_406_181, s_406_182, s_406_183, s_406_184, s_406_185, s_406_186, s_406_187, s_406_190, s_406_193, s_406_194, lK_some, lK_none, mv_i_1, mv_l_1, mv_a_1, mv_a_2, mv_a_3, mk2_n, mk2_i, mk2_l, mk2_a, mk2_u, mk2_x, mB_T, mB_F, mS_cons, mS_nil, mSB_T, mSB_F, mca_nil, mca_i, mca_l, mca_r, mca_u, mca_x, mcat_i, mcat_l, mcat_r, mcat_u, mcat_x, mK_some, mK_none, va_rf_s, va_rf_n, lgc_eq, lgc_lt, lgc_gt, lgc_ge, lgc_le, mrd_104, mrd_105, mrd_106, mrd_107, true_and, and_true, and_self, false_and, and_false, true_or, or_true, false_or, or_false, not_true_eq_false, not_false_eq_true, mgb, mga, mgr, mN, reduceCtorEq, ↓reduceIte, eq_self, ge_iff_le, gt_iff_lt, hk_si, hk_sj, hk_sr, hl_si, hl_sj, hl_sr, hn_si, hn_sj, hn_sr, hs_si, hs_sj, hs_sr, hi_sj, hi_sr, hj_si, hj_sr, hr_si, hr_sj, hi_si, hj_sj, hr_sr, mg_si, mg_sj, mg_sr, lx_1, lx_2, lx_3, lx_4, lx_5, lx_6, lx_7, m1, c1, m2, c2, m3, c3, m4, c4, m5, c5, g0, g8, run1, run2, rr]
  exact w
set_option maxRecDepth 100000 in
theorem lv_1 (I : INV R k h fd td g cl ip rz T) (hk : k < 512) (hL : L ≤ 4096) (hi : i + 8 ≤ L) (nx : NX L xs k i) : lw L xs 2047 lq 195 [some (.retAddr 8), some (.ref 0), some (.ref 81), some (.int (Int32.ofNat i))] [] h := by
  obtain ⟨m1, c1⟩ := lx_i hL (j := i + 1) (by omega)
  obtain ⟨R', h1, h2, r, fd', td', g', cl', ip', rz', T', run1, run2, I'⟩ := s_end I hk (xs (i + 1))
  have w := nx _ _ _ _ _ _ _ _ _ I'
  obtain ⟨g0, g8⟩ := g_81 I run1 (fun v hv o e => by subst e; simp at hv)
  have rr : (r = r) = True := eq_self r
  clear I I' nx
  simp (disch := omega) only [s_406_195, s_406_196, s_406_197, s_406_198, s_406_199, s_406_200, s_406_201, s_406_204, s_406_205, s_406_206, s_406_207, s_406_208, s_406_209, s_406_210, s_406_213, s_406_216, s_406_217, lK_some, lK_none, mv_i_1, mv_l_1, mv_a_1, mv_a_2, mv_a_3, mk2_n, mk2_i, mk2_l, mk2_a, mk2_u, mk2_x, mB_T, mB_F, mS_cons, mS_nil, mSB_T, mSB_F, mca_nil, mca_i, mca_l, mca_r, mca_u, mca_x, mcat_i, mcat_l, mcat_r, mcat_u, mcat_x, mK_some, mK_none, va_rf_s, va_rf_n, lgc_eq, lgc_lt, lgc_gt, lgc_ge, lgc_le, mrd_104, mrd_105, mrd_106, mrd_107, true_and, and_true, and_self, false_and, and_false, true_or, or_true, false_or, or_false, not_true_eq_false, not_false_eq_true, mgb, mga, mgr, mN, reduceCtorEq, ↓reduceIte, eq_self, ge_iff_le, gt_iff_lt, hk_si, hk_sj, hk_sr, hl_si, hl_sj, hl_sr, hn_si, hn_sj, hn_sr, hs_si, hs_sj, hs_sr, hi_sj, hi_sr, hj_si, hj_sr, hr_si, hr_sj, hi_si, hj_sj, hr_sr, mg_si, mg_sj, mg_sr, lx_1, lx_2, lx_3, lx_4, lx_5, lx_6, lx_7, m1, c1, g0, g8, run1, run2, rr]
  exact w
set_option maxRecDepth 100000 in
theorem lv_2 (I : INV R k h fd td g cl ip rz T) (hk : k < 512) (hL : L ≤ 4096) (hi : i + 8 ≤ L) (nx : NX L xs k i) : lw L xs 2047 lq 218 [some (.retAddr 8), some (.ref 0), some (.ref 81), some (.int (Int32.ofNat i))] [] h := by
  obtain ⟨m1, c1⟩ := lx_i hL (j := i + 1) (by omega)
  obtain ⟨R', h1, h2, r, fd', td', g', cl', ip', rz', T', run1, run2, I'⟩ := NXT_r I (q_told I (xs (i + 1)))
  have w := nx _ _ _ _ _ _ _ _ _ I'
  obtain ⟨g0, g8⟩ := g_81 I run1 (fun v hv o e => by subst e; simp at hv)
  have rr : (r = r) = True := eq_self r
  clear I I' nx
  simp (disch := omega) only [s_406_218, s_406_219, s_406_220, s_406_221, s_406_222, s_406_223, s_406_224, s_406_227, s_406_228, s_406_229, s_406_230, s_406_231, s_406_232, s_406_233, s_406_236, s_406_239, s_406_240, lK_some, lK_none, mv_i_1, mv_l_1, mv_a_1, mv_a_2, mv_a_3, mk2_n, mk2_i, mk2_l, mk2_a, mk2_u, mk2_x, mB_T, mB_F, mS_cons, mS_nil, mSB_T, mSB_F, mca_nil, mca_i, mca_l, mca_r, mca_u, mca_x, mcat_i, mcat_l, mcat_r, mcat_u, mcat_x, mK_some, mK_none, va_rf_s, va_rf_n, lgc_eq, lgc_lt, lgc_gt, lgc_ge, lgc_le, mrd_104, mrd_105, mrd_106, mrd_107, true_and, and_true, and_self, false_and, and_false, true_or, or_true, false_or, or_false, not_true_eq_false, not_false_eq_true, mgb, mga, mgr, mN, reduceCtorEq, ↓reduceIte, eq_self, ge_iff_le, gt_iff_lt, hk_si, hk_sj, hk_sr, hl_si, hl_sj, hl_sr, hn_si, hn_sj, hn_sr, hs_si, hs_sj, hs_sr, hi_sj, hi_sr, hj_si, hj_sr, hr_si, hr_sj, hi_si, hj_sj, hr_sr, mg_si, mg_sj, mg_sr, lx_1, lx_2, lx_3, lx_4, lx_5, lx_6, lx_7, m1, c1, g0, g8, run1, run2, rr]
  exact w
set_option maxRecDepth 100000 in
theorem lv_3 (I : INV R k h fd td g cl ip rz T) (hk : k < 512) (hL : L ≤ 4096) (hi : i + 8 ≤ L) (nx : NX L xs k i) : lw L xs 2047 lq 241 [some (.retAddr 8), some (.ref 0), some (.ref 81), some (.int (Int32.ofNat i))] [] h := by
  obtain ⟨R', h1, h2, r, fd', td', g', cl', ip', rz', T', run1, run2, I'⟩ := NXT_r I (q_points I)
  have w := nx _ _ _ _ _ _ _ _ _ I'
  obtain ⟨g0, g8⟩ := g_81 I run1 (fun v hv o e => by subst e; simp at hv)
  have rr : (r = r) = True := eq_self r
  clear I I' nx
  simp (disch := omega) only [s_406_241, s_406_242, s_406_245, s_406_246, s_406_249, s_406_252, s_406_253, lK_some, lK_none, mv_i_1, mv_l_1, mv_a_1, mv_a_2, mv_a_3, mk2_n, mk2_i, mk2_l, mk2_a, mk2_u, mk2_x, mB_T, mB_F, mS_cons, mS_nil, mSB_T, mSB_F, mca_nil, mca_i, mca_l, mca_r, mca_u, mca_x, mcat_i, mcat_l, mcat_r, mcat_u, mcat_x, mK_some, mK_none, va_rf_s, va_rf_n, lgc_eq, lgc_lt, lgc_gt, lgc_ge, lgc_le, mrd_104, mrd_105, mrd_106, mrd_107, true_and, and_true, and_self, false_and, and_false, true_or, or_true, false_or, or_false, not_true_eq_false, not_false_eq_true, mgb, mga, mgr, mN, reduceCtorEq, ↓reduceIte, eq_self, ge_iff_le, gt_iff_lt, hk_si, hk_sj, hk_sr, hl_si, hl_sj, hl_sr, hn_si, hn_sj, hn_sr, hs_si, hs_sj, hs_sr, hi_sj, hi_sr, hj_si, hj_sr, hr_si, hr_sj, hi_si, hj_sj, hr_sr, mg_si, mg_sj, mg_sr, lx_1, lx_2, lx_3, lx_4, lx_5, lx_6, lx_7, g0, g0, g8, run1, run2, rr]
  exact w
set_option maxRecDepth 100000 in
theorem lv_4 (I : INV R k h fd td g cl ip rz T) (hk : k < 512) (hL : L ≤ 4096) (hi : i + 8 ≤ L) (nx : NX L xs k i) : lw L xs 2047 lq 254 [some (.retAddr 8), some (.ref 0), some (.ref 81), some (.int (Int32.ofNat i))] [] h := by
  obtain ⟨m1, c1⟩ := lx_i hL (j := i + 1) (by omega)
  obtain ⟨m2, c2⟩ := lx_i hL (j := i + 2) (by omega)
  obtain ⟨R', h1, h2, r, fd', td', g', cl', ip', rz', T', run1, run2, I'⟩ := NXT_r I (q_point I (xs (i + 1)) (xs (i + 2)))
  have w := nx _ _ _ _ _ _ _ _ _ I'
  obtain ⟨g0, g8⟩ := g_81 I run1 (fun v hv o e => by subst e; simp at hv)
  have rr : (r = r) = True := eq_self r
  clear I I' nx
  simp (disch := omega) only [s_406_254, s_406_255, s_406_256, s_406_257, s_406_258, s_406_259, s_406_260, s_406_261, s_406_262, s_406_263, s_406_264, s_406_265, s_406_268, s_406_269, s_406_270, s_406_271, s_406_272, s_406_273, s_406_274, s_406_275, s_406_276, s_406_277, s_406_278, s_406_279, s_406_282, s_406_285, s_406_286, lK_some, lK_none, mv_i_1, mv_l_1, mv_a_1, mv_a_2, mv_a_3, mk2_n, mk2_i, mk2_l, mk2_a, mk2_u, mk2_x, mB_T, mB_F, mS_cons, mS_nil, mSB_T, mSB_F, mca_nil, mca_i, mca_l, mca_r, mca_u, mca_x, mcat_i, mcat_l, mcat_r, mcat_u, mcat_x, mK_some, mK_none, va_rf_s, va_rf_n, lgc_eq, lgc_lt, lgc_gt, lgc_ge, lgc_le, mrd_104, mrd_105, mrd_106, mrd_107, true_and, and_true, and_self, false_and, and_false, true_or, or_true, false_or, or_false, not_true_eq_false, not_false_eq_true, mgb, mga, mgr, mN, reduceCtorEq, ↓reduceIte, eq_self, ge_iff_le, gt_iff_lt, hk_si, hk_sj, hk_sr, hl_si, hl_sj, hl_sr, hn_si, hn_sj, hn_sr, hs_si, hs_sj, hs_sr, hi_sj, hi_sr, hj_si, hj_sr, hr_si, hr_sj, hi_si, hj_sj, hr_sr, mg_si, mg_sj, mg_sr, lx_1, lx_2, lx_3, lx_4, lx_5, lx_6, lx_7, m1, c1, m2, c2, g0, g8, run1, run2, rr]
  exact w
set_option maxRecDepth 100000 in
theorem lv_5 (I : INV R k h fd td g cl ip rz T) (hk : k < 512) (hL : L ≤ 4096) (hi : i + 8 ≤ L) (nx : NX L xs k i) : lw L xs 2047 lq 287 [some (.retAddr 8), some (.ref 0), some (.ref 81), some (.int (Int32.ofNat i))] [] h := by
  obtain ⟨m1, c1⟩ := lx_i hL (j := i + 1) (by omega)
  obtain ⟨m2, c2⟩ := lx_i hL (j := i + 2) (by omega)
  obtain ⟨m3, c3⟩ := lx_i hL (j := i + 3) (by omega)
  obtain ⟨m4, c4⟩ := lx_i hL (j := i + 4) (by omega)
  obtain ⟨m5, c5⟩ := lx_i hL (j := i + 5) (by omega)
  obtain ⟨m6, c6⟩ := lx_i hL (j := i + 6) (by omega)
  by_cases q1 : xs (i + 1) = 0
  · have z1 : (xs (i + 1) = 0) = True := eq_true q1
    obtain ⟨r, run1, run2⟩ := q_bound I 0 (xs (i + 2)) (xs (i + 3)) (xs (i + 4)) (xs (i + 5)) (xs (i + 6))
    have w := nx _ _ _ _ _ _ _ _ _ (INV_s I)
    obtain ⟨g0, g8⟩ := g_81 I run1 (fun v hv o e => by subst e; simp at hv)
    have lc : lg_cmp r r = 0 := by unfold lg_cmp; simp
    have rr : (r = r) = True := eq_self r
    clear I nx
    simp (disch := omega) only [s_406_287, s_406_288, s_406_289, s_406_290, s_406_291, s_406_292, s_406_293, s_406_296, s_406_297, s_406_300, s_406_301, s_406_302, s_406_303, s_406_304, s_406_305, s_406_306, s_406_307, s_406_308, s_406_309, s_406_310, s_406_311, s_406_312, s_406_313, s_406_314, s_406_315, s_406_316, s_406_317, s_406_318, s_406_319, s_406_320, s_406_321, s_406_322, s_406_323, s_406_325, s_406_326, s_406_327, s_406_330, s_406_331, s_406_332, s_406_333, s_406_334, s_406_335, s_406_336, s_406_339, s_406_340, s_406_343, s_406_344, s_406_345, s_406_346, s_406_347, s_406_348, s_406_349, s_406_350, s_406_351, s_406_352, s_406_353, s_406_354, s_406_355, s_406_356, s_406_357, s_406_358, s_406_359, s_406_360, s_406_361, s_406_362, s_406_363, s_406_364, s_406_365, s_406_366, s_406_368, s_406_369, s_406_370, s_406_373, s_406_374, s_406_377, s_406_378, lK_some, lK_none, mv_i_1, mv_l_1, mv_a_1, mv_a_2, mv_a_3, mk2_n, mk2_i, mk2_l, mk2_a, mk2_u, mk2_x, mB_T, mB_F, mS_cons, mS_nil, mSB_T, mSB_F, mca_nil, mca_i, mca_l, mca_r, mca_u, mca_x, mcat_i, mcat_l, mcat_r, mcat_u, mcat_x, mK_some, mK_none, va_rf_s, va_rf_n, lgc_eq, lgc_lt, lgc_gt, lgc_ge, lgc_le, mrd_104, mrd_105, mrd_106, mrd_107, true_and, and_true, and_self, false_and, and_false, true_or, or_true, false_or, or_false, not_true_eq_false, not_false_eq_true, mgb, mga, mgr, mN, reduceCtorEq, ↓reduceIte, eq_self, ge_iff_le, gt_iff_lt, hk_si, hk_sj, hk_sr, hl_si, hl_sj, hl_sr, hn_si, hn_sj, hn_sr, hs_si, hs_sj, hs_sr, hi_sj, hi_sr, hj_si, hj_sr, hr_si, hr_sj, hi_si, hj_sj, hr_sr, mg_si, mg_sj, mg_sr, lx_1, lx_2, lx_3, lx_4, lx_5, lx_6, lx_7, m1, c1, m2, c2, m3, c3, m4, c4, m5, c5, m6, c6, z1, g0, g8, run1, run2, rr, lc, eq_self]
    exact w
  · have z1 : (xs (i + 1) = 0) = False := eq_false q1
    obtain ⟨r, run1, run2⟩ := q_bound I 1 (xs (i + 2)) (xs (i + 3)) (xs (i + 4)) (xs (i + 5)) (xs (i + 6))
    have w := nx _ _ _ _ _ _ _ _ _ (INV_s I)
    obtain ⟨g0, g8⟩ := g_81 I run1 (fun v hv o e => by subst e; simp at hv)
    have lc : lg_cmp r r = 0 := by unfold lg_cmp; simp
    have rr : (r = r) = True := eq_self r
    clear I nx
    simp (disch := omega) only [s_406_287, s_406_288, s_406_289, s_406_290, s_406_291, s_406_292, s_406_293, s_406_296, s_406_297, s_406_300, s_406_301, s_406_302, s_406_303, s_406_304, s_406_305, s_406_306, s_406_307, s_406_308, s_406_309, s_406_310, s_406_311, s_406_312, s_406_313, s_406_314, s_406_315, s_406_316, s_406_317, s_406_318, s_406_319, s_406_320, s_406_321, s_406_322, s_406_323, s_406_325, s_406_326, s_406_327, s_406_330, s_406_331, s_406_332, s_406_333, s_406_334, s_406_335, s_406_336, s_406_339, s_406_340, s_406_343, s_406_344, s_406_345, s_406_346, s_406_347, s_406_348, s_406_349, s_406_350, s_406_351, s_406_352, s_406_353, s_406_354, s_406_355, s_406_356, s_406_357, s_406_358, s_406_359, s_406_360, s_406_361, s_406_362, s_406_363, s_406_364, s_406_365, s_406_366, s_406_368, s_406_369, s_406_370, s_406_373, s_406_374, s_406_377, s_406_378, lK_some, lK_none, mv_i_1, mv_l_1, mv_a_1, mv_a_2, mv_a_3, mk2_n, mk2_i, mk2_l, mk2_a, mk2_u, mk2_x, mB_T, mB_F, mS_cons, mS_nil, mSB_T, mSB_F, mca_nil, mca_i, mca_l, mca_r, mca_u, mca_x, mcat_i, mcat_l, mcat_r, mcat_u, mcat_x, mK_some, mK_none, va_rf_s, va_rf_n, lgc_eq, lgc_lt, lgc_gt, lgc_ge, lgc_le, mrd_104, mrd_105, mrd_106, mrd_107, true_and, and_true, and_self, false_and, and_false, true_or, or_true, false_or, or_false, not_true_eq_false, not_false_eq_true, mgb, mga, mgr, mN, reduceCtorEq, ↓reduceIte, eq_self, ge_iff_le, gt_iff_lt, hk_si, hk_sj, hk_sr, hl_si, hl_sj, hl_sr, hn_si, hn_sj, hn_sr, hs_si, hs_sj, hs_sr, hi_sj, hi_sr, hj_si, hj_sr, hr_si, hr_sj, hi_si, hj_sj, hr_sr, mg_si, mg_sj, mg_sr, lx_1, lx_2, lx_3, lx_4, lx_5, lx_6, lx_7, m1, c1, m2, c2, m3, c3, m4, c4, m5, c5, m6, c6, z1, g0, g8, run1, run2, rr, lc, eq_self]
    exact w
set_option maxRecDepth 100000 in
theorem lv_6 (I : INV R k h fd td g cl ip rz T) (hk : k < 512) (hL : L ≤ 4096) (hi : i + 8 ≤ L) (nx : NX L xs k i) : lw L xs 2047 lq 379 [some (.retAddr 8), some (.ref 0), some (.ref 81), some (.int (Int32.ofNat i))] [] h := by
  obtain ⟨m1, c1⟩ := lx_i hL (j := i + 1) (by omega)
  obtain ⟨m2, c2⟩ := lx_i hL (j := i + 2) (by omega)
  obtain ⟨m3, c3⟩ := lx_i hL (j := i + 3) (by omega)
  obtain ⟨m4, c4⟩ := lx_i hL (j := i + 4) (by omega)
  by_cases q1 : xs (i + 1) = 0
  · have z1 : (xs (i + 1) = 0) = True := eq_true q1
    by_cases q4 : xs (i + 4) = 0
    · have z4 : (xs (i + 4) = 0) = True := eq_true q4
      obtain ⟨r, run1, run2⟩ := q_range I 0 (xs (i + 2)) (xs (i + 3)) 0
      have w := nx _ _ _ _ _ _ _ _ _ (INV_s I)
      obtain ⟨g0, g8⟩ := g_81 I run1 (fun v hv o e => by subst e; simp at hv)
      have lc : lg_cmp r r = 0 := by unfold lg_cmp; simp
      have rr : (r = r) = True := eq_self r
      clear I nx
      simp (disch := omega) only [s_406_379, s_406_380, s_406_381, s_406_382, s_406_383, s_406_384, s_406_385, s_406_388, s_406_389, s_406_392, s_406_393, s_406_394, s_406_395, s_406_396, s_406_397, s_406_398, s_406_399, s_406_400, s_406_401, s_406_402, s_406_403, s_406_404, s_406_405, s_406_406, s_406_407, s_406_408, s_406_411, s_406_412, s_406_415, s_406_416, s_406_419, s_406_420, s_406_421, s_406_422, s_406_423, s_406_424, s_406_425, s_406_428, s_406_429, s_406_432, s_406_433, s_406_434, s_406_435, s_406_436, s_406_437, s_406_438, s_406_439, s_406_440, s_406_441, s_406_442, s_406_443, s_406_444, s_406_445, s_406_446, s_406_447, s_406_448, s_406_451, s_406_452, s_406_455, s_406_456, s_406_459, s_406_460, s_406_463, s_406_464, lK_some, lK_none, mv_i_1, mv_l_1, mv_a_1, mv_a_2, mv_a_3, mk2_n, mk2_i, mk2_l, mk2_a, mk2_u, mk2_x, mB_T, mB_F, mS_cons, mS_nil, mSB_T, mSB_F, mca_nil, mca_i, mca_l, mca_r, mca_u, mca_x, mcat_i, mcat_l, mcat_r, mcat_u, mcat_x, mK_some, mK_none, va_rf_s, va_rf_n, lgc_eq, lgc_lt, lgc_gt, lgc_ge, lgc_le, mrd_104, mrd_105, mrd_106, mrd_107, true_and, and_true, and_self, false_and, and_false, true_or, or_true, false_or, or_false, not_true_eq_false, not_false_eq_true, mgb, mga, mgr, mN, reduceCtorEq, ↓reduceIte, eq_self, ge_iff_le, gt_iff_lt, hk_si, hk_sj, hk_sr, hl_si, hl_sj, hl_sr, hn_si, hn_sj, hn_sr, hs_si, hs_sj, hs_sr, hi_sj, hi_sr, hj_si, hj_sr, hr_si, hr_sj, hi_si, hj_sj, hr_sr, mg_si, mg_sj, mg_sr, lx_1, lx_2, lx_3, lx_4, lx_5, lx_6, lx_7, m1, c1, m2, c2, m3, c3, m4, c4, z1, z4, g0, g8, run1, run2, rr, lc, eq_self]
      exact w
    · have z4 : (xs (i + 4) = 0) = False := eq_false q4
      obtain ⟨r, run1, run2⟩ := q_range I 0 (xs (i + 2)) (xs (i + 3)) 1
      have w := nx _ _ _ _ _ _ _ _ _ (INV_s I)
      obtain ⟨g0, g8⟩ := g_81 I run1 (fun v hv o e => by subst e; simp at hv)
      have lc : lg_cmp r r = 0 := by unfold lg_cmp; simp
      have rr : (r = r) = True := eq_self r
      clear I nx
      simp (disch := omega) only [s_406_379, s_406_380, s_406_381, s_406_382, s_406_383, s_406_384, s_406_385, s_406_388, s_406_389, s_406_392, s_406_393, s_406_394, s_406_395, s_406_396, s_406_397, s_406_398, s_406_399, s_406_400, s_406_401, s_406_402, s_406_403, s_406_404, s_406_405, s_406_406, s_406_407, s_406_408, s_406_411, s_406_412, s_406_415, s_406_416, s_406_419, s_406_420, s_406_421, s_406_422, s_406_423, s_406_424, s_406_425, s_406_428, s_406_429, s_406_432, s_406_433, s_406_434, s_406_435, s_406_436, s_406_437, s_406_438, s_406_439, s_406_440, s_406_441, s_406_442, s_406_443, s_406_444, s_406_445, s_406_446, s_406_447, s_406_448, s_406_451, s_406_452, s_406_455, s_406_456, s_406_459, s_406_460, s_406_463, s_406_464, lK_some, lK_none, mv_i_1, mv_l_1, mv_a_1, mv_a_2, mv_a_3, mk2_n, mk2_i, mk2_l, mk2_a, mk2_u, mk2_x, mB_T, mB_F, mS_cons, mS_nil, mSB_T, mSB_F, mca_nil, mca_i, mca_l, mca_r, mca_u, mca_x, mcat_i, mcat_l, mcat_r, mcat_u, mcat_x, mK_some, mK_none, va_rf_s, va_rf_n, lgc_eq, lgc_lt, lgc_gt, lgc_ge, lgc_le, mrd_104, mrd_105, mrd_106, mrd_107, true_and, and_true, and_self, false_and, and_false, true_or, or_true, false_or, or_false, not_true_eq_false, not_false_eq_true, mgb, mga, mgr, mN, reduceCtorEq, ↓reduceIte, eq_self, ge_iff_le, gt_iff_lt, hk_si, hk_sj, hk_sr, hl_si, hl_sj, hl_sr, hn_si, hn_sj, hn_sr, hs_si, hs_sj, hs_sr, hi_sj, hi_sr, hj_si, hj_sr, hr_si, hr_sj, hi_si, hj_sj, hr_sr, mg_si, mg_sj, mg_sr, lx_1, lx_2, lx_3, lx_4, lx_5, lx_6, lx_7, m1, c1, m2, c2, m3, c3, m4, c4, z1, z4, g0, g8, run1, run2, rr, lc, eq_self]
      exact w
  · have z1 : (xs (i + 1) = 0) = False := eq_false q1
    by_cases q4 : xs (i + 4) = 0
    · have z4 : (xs (i + 4) = 0) = True := eq_true q4
      obtain ⟨r, run1, run2⟩ := q_range I 1 (xs (i + 2)) (xs (i + 3)) 0
      have w := nx _ _ _ _ _ _ _ _ _ (INV_s I)
      obtain ⟨g0, g8⟩ := g_81 I run1 (fun v hv o e => by subst e; simp at hv)
      have lc : lg_cmp r r = 0 := by unfold lg_cmp; simp
      have rr : (r = r) = True := eq_self r
      clear I nx
      simp (disch := omega) only [s_406_379, s_406_380, s_406_381, s_406_382, s_406_383, s_406_384, s_406_385, s_406_388, s_406_389, s_406_392, s_406_393, s_406_394, s_406_395, s_406_396, s_406_397, s_406_398, s_406_399, s_406_400, s_406_401, s_406_402, s_406_403, s_406_404, s_406_405, s_406_406, s_406_407, s_406_408, s_406_411, s_406_412, s_406_415, s_406_416, s_406_419, s_406_420, s_406_421, s_406_422, s_406_423, s_406_424, s_406_425, s_406_428, s_406_429, s_406_432, s_406_433, s_406_434, s_406_435, s_406_436, s_406_437, s_406_438, s_406_439, s_406_440, s_406_441, s_406_442, s_406_443, s_406_444, s_406_445, s_406_446, s_406_447, s_406_448, s_406_451, s_406_452, s_406_455, s_406_456, s_406_459, s_406_460, s_406_463, s_406_464, lK_some, lK_none, mv_i_1, mv_l_1, mv_a_1, mv_a_2, mv_a_3, mk2_n, mk2_i, mk2_l, mk2_a, mk2_u, mk2_x, mB_T, mB_F, mS_cons, mS_nil, mSB_T, mSB_F, mca_nil, mca_i, mca_l, mca_r, mca_u, mca_x, mcat_i, mcat_l, mcat_r, mcat_u, mcat_x, mK_some, mK_none, va_rf_s, va_rf_n, lgc_eq, lgc_lt, lgc_gt, lgc_ge, lgc_le, mrd_104, mrd_105, mrd_106, mrd_107, true_and, and_true, and_self, false_and, and_false, true_or, or_true, false_or, or_false, not_true_eq_false, not_false_eq_true, mgb, mga, mgr, mN, reduceCtorEq, ↓reduceIte, eq_self, ge_iff_le, gt_iff_lt, hk_si, hk_sj, hk_sr, hl_si, hl_sj, hl_sr, hn_si, hn_sj, hn_sr, hs_si, hs_sj, hs_sr, hi_sj, hi_sr, hj_si, hj_sr, hr_si, hr_sj, hi_si, hj_sj, hr_sr, mg_si, mg_sj, mg_sr, lx_1, lx_2, lx_3, lx_4, lx_5, lx_6, lx_7, m1, c1, m2, c2, m3, c3, m4, c4, z1, z4, g0, g8, run1, run2, rr, lc, eq_self]
      exact w
    · have z4 : (xs (i + 4) = 0) = False := eq_false q4
      obtain ⟨r, run1, run2⟩ := q_range I 1 (xs (i + 2)) (xs (i + 3)) 1
      have w := nx _ _ _ _ _ _ _ _ _ (INV_s I)
      obtain ⟨g0, g8⟩ := g_81 I run1 (fun v hv o e => by subst e; simp at hv)
      have lc : lg_cmp r r = 0 := by unfold lg_cmp; simp
      have rr : (r = r) = True := eq_self r
      clear I nx
      simp (disch := omega) only [s_406_379, s_406_380, s_406_381, s_406_382, s_406_383, s_406_384, s_406_385, s_406_388, s_406_389, s_406_392, s_406_393, s_406_394, s_406_395, s_406_396, s_406_397, s_406_398, s_406_399, s_406_400, s_406_401, s_406_402, s_406_403, s_406_404, s_406_405, s_406_406, s_406_407, s_406_408, s_406_411, s_406_412, s_406_415, s_406_416, s_406_419, s_406_420, s_406_421, s_406_422, s_406_423, s_406_424, s_406_425, s_406_428, s_406_429, s_406_432, s_406_433, s_406_434, s_406_435, s_406_436, s_406_437, s_406_438, s_406_439, s_406_440, s_406_441, s_406_442, s_406_443, s_406_444, s_406_445, s_406_446, s_406_447, s_406_448, s_406_451, s_406_452, s_406_455, s_406_456, s_406_459, s_406_460, s_406_463, s_406_464, lK_some, lK_none, mv_i_1, mv_l_1, mv_a_1, mv_a_2, mv_a_3, mk2_n, mk2_i, mk2_l, mk2_a, mk2_u, mk2_x, mB_T, mB_F, mS_cons, mS_nil, mSB_T, mSB_F, mca_nil, mca_i, mca_l, mca_r, mca_u, mca_x, mcat_i, mcat_l, mcat_r, mcat_u, mcat_x, mK_some, mK_none, va_rf_s, va_rf_n, lgc_eq, lgc_lt, lgc_gt, lgc_ge, lgc_le, mrd_104, mrd_105, mrd_106, mrd_107, true_and, and_true, and_self, false_and, and_false, true_or, or_true, false_or, or_false, not_true_eq_false, not_false_eq_true, mgb, mga, mgr, mN, reduceCtorEq, ↓reduceIte, eq_self, ge_iff_le, gt_iff_lt, hk_si, hk_sj, hk_sr, hl_si, hl_sj, hl_sr, hn_si, hn_sj, hn_sr, hs_si, hs_sj, hs_sr, hi_sj, hi_sr, hj_si, hj_sr, hr_si, hr_sj, hi_si, hj_sj, hr_sr, mg_si, mg_sj, mg_sr, lx_1, lx_2, lx_3, lx_4, lx_5, lx_6, lx_7, m1, c1, m2, c2, m3, c3, m4, c4, z1, z4, g0, g8, run1, run2, rr, lc, eq_self]
      exact w
end LWs
