set_option maxRecDepth 100000
/-! simple statements: return, put, assert -/
section SKs
variable {d : Nat} {h h1 : mh_H} {s0 s1 o b p k T : Nat} {E E' : nv} {D : fd} {w0 : wd} {s s' : Option ab} {G : pgm} {A : ab} {t : tr} {m : Nat} {u : Unit} {al : Int32}
theorem ra_aS (R : RA h s1 E D w0) (so : sp h o) (c : RK h o s) {lo hi : Int64} : RA (aS h 115 al lo hi) s1 E D w0 ∧ rq s0 (sV o T) h (aS h 115 al lo hi) ∧ ∀ q, cnQ G h q → cnQ G (aS h 115 al lo hi) q := by
  have J := R.j
  have y0 : rs (fun b _ => kc o b) h (aS h 115 al lo hi) := rs_aS
  obtain ⟨PQ, PS, PU, PF, PL, PH, lP, P⟩ := J.p
  have P0 : PR (aS h 115 al lo hi) PQ PS PU PF PL PH lP := PR_k J so y0 (fun _ _ _ => rfl) P
  have J0 := RJ_1 J so y0 ⟨_, _, _, _, _, _, _, P0⟩ (RK_ko (RK_aS J.a.g c))
  obtain ⟨a1, a2, -, a4⟩ := ra_rs (s0 := s0) (T := T) (G := G) R so y0 J0
  exact ⟨a1, a2, a4⟩
/-- nothing is known any more -/
theorem ra_none (R : RA h s1 E D w0) (so : sp h o) (c : RK h o (some A)) : RA (mh_si h o 0 1) s1 E D w0 ∧ rq s0 (sV o T) h (mh_si h o 0 1) ∧ RK (mh_si h o 0 1) o none ∧ ∀ q, cnQ G h q → cnQ G (mh_si h o 0 1) q := by
  have kn := KN_si c
  have f : fq (kW o) h (mh_si h o 0 1) := fq_si kW0
  exact ⟨ra_k R so f (RK_ko kn), sV_k R so f, kn, fun q w => cn_q R (vK_1 so) (rq_rs (s0 := s0) R.j (vK_1 so) (rs_k f)) w⟩
theorem ret_1 (S : SMp h s0 o b E D w0 (some A)) (sh : shp E.nu E.ar E.rm (some A)) (hS : eSm E t) (ht : ∀ y, E.ta = some y → y < E.nu) (n : nd (mh_i h 93) (mh_i h 95) (mh_i h 97) (k + 1) t) (hb : k + 1 + ts t ≤ 26000) (hd : 700 ≤ d) : ∃ h', SFi G h h' s0 s0 o E.T E D w0 (a_ret E.en A E.ta t) (ev E.en A t none).2 ∧ ∀ Q, mw (d + 1) 262 Q 25 [some (.ref 115), some (.int (Int32.ofNat k)), some (.ref o), some (.int 1), some (.int (Int32.ofNat s0)), some (.ref b), none, none] [.int 11] h = Q none h' := by
  obtain ⟨T', e1, e2, e3⟩ := sh A rfl
  have J := S.A.j
  have so := lv_sp S.l
  have lo := sp_lo J so
  have g := J.a.g
  have i22 := S.A.t
  have e10 : ((1 : Int32) = 0) = False := by decide
  have e1' : ∀ k, Int32.ofNat k + 1 = Int32.ofNat (k + 1) := fun k => nn_add (a := k) (b := 1)
  cases hta : E.ta with
  | some y =>
    have hy := ht y hta
    obtain ⟨h1, F, so1, r95, run⟩ := set_x (d := d) (G := G) (x := y) (new := false) S sh hS n hb (fun z => by cases z) (fun _ => by rw [e1]; exact hy) hd
    refine ⟨_, sim_f F lo, fun Q => ?_⟩
    rw [tb_11]
    have fin := (sim_9 (d := d + 1) (s0 := s0) F.A (x1 := some (.int (Int32.ofNat k))) (x2 := some (.ref o)) (x3 := some (.int 1)) (x5 := some (.ref b)) (x6 := none) (x7 := none)).2 Q
    rw [← fin]
    have k0 : kb false = 0 := rfl
    rw [k0] at run
    rw [hta] at i22
    have i22' : mh_i h 115 22 = Int32.ofNat y := i22
    have n12 := T'.n12
    have lt0 : (Int32.ofNat y < 0) = False := by
      have : ¬ Int32.ofNat y < Int32.ofNat 0 := fun z => by rw [nn_lt (by omega) (by omega)] at z; omega
      exact eq_false this
    clear fin F hS S sh J T'
    simp (disch := omega) only [s_262_0, s_262_1, s_262_4, s_262_6, s_262_7, s_262_8, s_262_11, s_262_11n, s_262_13, s_262_14, s_262_16, s_262_16n, s_262_19, s_262_20, s_262_23, s_262_24, s_262_72, s_262_73, s_262_76, s_262_78, s_262_79, s_262_82, s_262_83, s_262_86, s_262_87, s_262_88, s_262_89, s_262_92, s_262_93, s_262_94, s_262_95, s_262_96, s_262_98, s_262_99, s_262_100, s_262_103, s_262_106, s_262_107, s_262_110, s_262_111, s_262_114, s_262_115, s_262_116, s_262_118, s_262_119, s_262_120, s_262_122, s_262_123, s_262_124, s_262_127, s_262_128, s_262_129, s_262_131, s_262_132, s_262_133, s_262_134, s_262_135, s_262_137, s_262_138, s_262_139, s_262_140, s_262_141, s_262_144, s_262_145, s_262_148, s_262_149, s_262_150, s_262_151, s_262_152, s_262_153, s_262_156, s_262_157, s_262_158, s_262_161, s_262_164, s_262_167, s_262_168, s_262_169, s_262_172, s_262_173, s_262_174, s_262_175, s_262_176, s_262_179, s_262_180, s_262_181, s_262_182, s_262_183, s_262_184, s_262_187, s_262_188, s_262_189, s_262_192, s_262_195, s_262_198, s_262_199, s_262_202, s_262_203, s_262_204, s_262_205, s_262_206, s_262_207, s_262_208, s_262_209, s_262_210, s_262_213, s_262_214, s_262_215, s_262_218, s_262_221, s_262_222, s_262_225, s_262_226, s_262_227, s_262_228, s_262_231, s_262_234, s_262_235, s_262_238, s_262_239, s_262_242, s_262_242n, s_262_244, s_262_245, s_262_246, s_262_247, s_262_248, s_262_250, s_262_251, s_262_253, s_262_256, s_262_257, s_262_258, s_262_261, s_262_263, s_262_266, s_262_269, s_262_270, s_262_273, s_262_275, s_262_276, s_262_279, s_262_282, s_262_283, s_262_286, s_262_287, s_262_290, s_262_293, s_262_294, s_262_295, s_262_296, s_262_297, s_262_298, s_262_301, s_262_302, s_262_303, s_262_306, s_262_309, s_262_310, s_262_313, s_262_314, s_262_315, s_262_316, s_262_317, s_262_318, s_262_321, s_262_324, s_262_325, s_262_328, s_262_329, s_262_333, s_262_335, s_262_338, e_262, mv_i_1, mv_l_1, mv_a_1, mv_a_2, mv_a_3, mk2_n, mk2_i, mk2_l, mk2_a, mk2_u, mk2_x, mB_T, mB_F, mS_cons, mS_nil, mSB_T, mSB_F, mca_nil, mca_i, mca_l, mca_r, mca_u, mca_x, mcat_i, mcat_l, mcat_r, mcat_u, mcat_x, mK_some, mK_none, va_rf_s, va_rf_n, lgc_eq, lgc_lt, lgc_gt, lgc_ge, lgc_le, mrd_104, mrd_105, mrd_106, mrd_107, true_and, and_true, and_self, false_and, and_false, true_or, or_true, false_or, or_false, not_true_eq_false, not_false_eq_true, mgb, mga, mgr, mN, reduceCtorEq, ↓reduceIte, eq_self, ge_iff_le, gt_iff_lt, Nat.reduceAdd, Nat.reduceMul, Nat.reduceSub, Nat.reduceLT, Nat.reduceGT, Nat.reduceEqDiff, Nat.reduceLeDiff, Nat.left_eq_add, Nat.add_eq_left, Nat.reduceMod, Nat.reduceDiv, Nat.succ_ne_self, g, e10, e1', i22', lt0, run]
  | none =>
    have hth := hS.2.2.2
    obtain ⟨bb, lw, hi, er, ec⟩ := u_233 (d := d) J.a S.r S.kb T' (t := t) (p := k + 1) (by omega) n hb (hS.1 A e1 e2 e3)
    rw [S.al, Int32.or_comm, i32_or0] at ec
    obtain ⟨A1, x1, c1⟩ := ra_aS (s0 := s0) (T := E.T) (G := G) (al := (ev E.en A t none).2) (lo := lw) (hi := hi) S.A so S.k
    have k1 : RK (aS h 115 (ev E.en A t none).2 lw hi) o (some A) := RK_aS g S.k
    have go : mg h o 13 := (RK_ko S.k).1
    rw [hta] at i22
    have i22' : mh_i h 115 22 = -1 := i22
    have lt0 : ((-1 : Int32) < 0) = True := by decide
    have or01 : ((0 : Int32) = 0 ∨ (0 : Int32) = 1) = True := by decide
    have or11 : ((1 : Int32) = 0 ∨ (1 : Int32) = 1) = True := by decide
    have e00 : ((0 : Int32) = 0) = True := by decide
    cases bb with
    | true =>
      obtain ⟨vx, vy, hv, -, -⟩ := eR_s er rfl
      have er' : a_ret E.en A none t = some A := by unfold a_ret; rw [hv]
      have F2 : SFi G h (aS h 115 (ev E.en A t none).2 lw hi) s0 (s0 + 1) o E.T E D w0 (a_ret E.en A none t) (ev E.en A t none).2 := ⟨x1, A1, by rw [er']; exact k1, by rw [aS_i, if_neg (by omega)]; exact S.a2, by rw [aS_i, if_pos ⟨rfl, rfl⟩], c1⟩
      refine ⟨_, sim_f F2 lo, fun Q => ?_⟩
      rw [tb_11]
      have fin := (sim_9 (d := d + 1) (s0 := s0) A1 (x1 := some (.int (Int32.ofNat k))) (x2 := some (.ref o)) (x3 := some (.int 1)) (x5 := some (.ref b)) (x6 := none) (x7 := none)).2 Q
      rw [← fin]
      have z0 : mh_si (aS h 115 (ev E.en A t none).2 lw hi) o 0 0 = aS h 115 (ev E.en A t none).2 lw hi := by
        have z1 : (0 : Int32) = mh_i (aS h 115 (ev E.en A t none).2 lw hi) o 0 := (KM.z k1).symm
        exact (congrArg (mh_si (aS h 115 (ev E.en A t none).2 lw hi) o 0) z1).trans si_id
      have kt : kb true = 1 := rfl
      rw [kt] at ec
      clear fin F2 hS S sh J T' A1 x1 c1 k1 er
      simp (disch := omega) only [s_262_0, s_262_1, s_262_4, s_262_6, s_262_7, s_262_8, s_262_11, s_262_11n, s_262_13, s_262_14, s_262_16, s_262_16n, s_262_19, s_262_20, s_262_23, s_262_24, s_262_72, s_262_73, s_262_76, s_262_78, s_262_79, s_262_82, s_262_83, s_262_86, s_262_87, s_262_88, s_262_89, s_262_92, s_262_93, s_262_94, s_262_95, s_262_96, s_262_98, s_262_99, s_262_100, s_262_103, s_262_106, s_262_107, s_262_110, s_262_111, s_262_114, s_262_115, s_262_116, s_262_118, s_262_119, s_262_120, s_262_122, s_262_123, s_262_124, s_262_127, s_262_128, s_262_129, s_262_131, s_262_132, s_262_133, s_262_134, s_262_135, s_262_137, s_262_138, s_262_139, s_262_140, s_262_141, s_262_144, s_262_145, s_262_148, s_262_149, s_262_150, s_262_151, s_262_152, s_262_153, s_262_156, s_262_157, s_262_158, s_262_161, s_262_164, s_262_167, s_262_168, s_262_169, s_262_172, s_262_173, s_262_174, s_262_175, s_262_176, s_262_179, s_262_180, s_262_181, s_262_182, s_262_183, s_262_184, s_262_187, s_262_188, s_262_189, s_262_192, s_262_195, s_262_198, s_262_199, s_262_202, s_262_203, s_262_204, s_262_205, s_262_206, s_262_207, s_262_208, s_262_209, s_262_210, s_262_213, s_262_214, s_262_215, s_262_218, s_262_221, s_262_222, s_262_225, s_262_226, s_262_227, s_262_228, s_262_231, s_262_234, s_262_235, s_262_238, s_262_239, s_262_242, s_262_242n, s_262_244, s_262_245, s_262_246, s_262_247, s_262_248, s_262_250, s_262_251, s_262_253, s_262_256, s_262_257, s_262_258, s_262_261, s_262_263, s_262_266, s_262_269, s_262_270, s_262_273, s_262_275, s_262_276, s_262_279, s_262_282, s_262_283, s_262_286, s_262_287, s_262_290, s_262_293, s_262_294, s_262_295, s_262_296, s_262_297, s_262_298, s_262_301, s_262_302, s_262_303, s_262_306, s_262_309, s_262_310, s_262_313, s_262_314, s_262_315, s_262_316, s_262_317, s_262_318, s_262_321, s_262_324, s_262_325, s_262_328, s_262_329, s_262_333, s_262_335, s_262_338, e_262, mv_i_1, mv_l_1, mv_a_1, mv_a_2, mv_a_3, mk2_n, mk2_i, mk2_l, mk2_a, mk2_u, mk2_x, mB_T, mB_F, mS_cons, mS_nil, mSB_T, mSB_F, mca_nil, mca_i, mca_l, mca_r, mca_u, mca_x, mcat_i, mcat_l, mcat_r, mcat_u, mcat_x, mK_some, mK_none, va_rf_s, va_rf_n, lgc_eq, lgc_lt, lgc_gt, lgc_ge, lgc_le, mrd_104, mrd_105, mrd_106, mrd_107, true_and, and_true, and_self, false_and, and_false, true_or, or_true, false_or, or_false, not_true_eq_false, not_false_eq_true, mgb, mga, mgr, mN, reduceCtorEq, ↓reduceIte, eq_self, ge_iff_le, gt_iff_lt, Nat.reduceAdd, Nat.reduceMul, Nat.reduceSub, Nat.reduceLT, Nat.reduceGT, Nat.reduceEqDiff, Nat.reduceLeDiff, Nat.left_eq_add, Nat.add_eq_left, Nat.reduceMod, Nat.reduceDiv, Nat.succ_ne_self, g, go, aS_g, e10, e00, e1', i22', lt0, ec, or01, z0]
    | false =>
      have hv := eR_n er rfl
      have er' : a_ret E.en A none t = none := by unfold a_ret; rw [hv]
      obtain ⟨A2, x2, k2, c2⟩ := ra_none (s0 := s0) (T := E.T) (G := G) A1 (by unfold sp; rw [aS_r]; exact so) k1
      have F2 : SFi G h (mh_si (aS h 115 (ev E.en A t none).2 lw hi) o 0 1) s0 (s0 + 1) o E.T E D w0 (a_ret E.en A none t) (ev E.en A t none).2 := ⟨rq_t x1 x2, A2, by rw [er']; exact k2, by rw [hi_si, if_neg (by omega), aS_i, if_neg (by omega)]; exact S.a2, by rw [hi_si, if_neg (by omega), aS_i, if_pos ⟨rfl, rfl⟩], fun q w => c2 q (c1 q w)⟩
      refine ⟨_, sim_f F2 lo, fun Q => ?_⟩
      rw [tb_11]
      have fin := (sim_9 (d := d + 1) (s0 := s0) A2 (x1 := some (.int (Int32.ofNat k))) (x2 := some (.ref o)) (x3 := some (.int 1)) (x5 := some (.ref b)) (x6 := none) (x7 := none)).2 Q
      rw [← fin]
      have kt : kb false = 0 := rfl
      rw [kt] at ec
      clear fin F2 hS S sh J T' A1 x1 c1 k1 er A2 x2 k2 c2
      simp (disch := omega) only [s_262_0, s_262_1, s_262_4, s_262_6, s_262_7, s_262_8, s_262_11, s_262_11n, s_262_13, s_262_14, s_262_16, s_262_16n, s_262_19, s_262_20, s_262_23, s_262_24, s_262_72, s_262_73, s_262_76, s_262_78, s_262_79, s_262_82, s_262_83, s_262_86, s_262_87, s_262_88, s_262_89, s_262_92, s_262_93, s_262_94, s_262_95, s_262_96, s_262_98, s_262_99, s_262_100, s_262_103, s_262_106, s_262_107, s_262_110, s_262_111, s_262_114, s_262_115, s_262_116, s_262_118, s_262_119, s_262_120, s_262_122, s_262_123, s_262_124, s_262_127, s_262_128, s_262_129, s_262_131, s_262_132, s_262_133, s_262_134, s_262_135, s_262_137, s_262_138, s_262_139, s_262_140, s_262_141, s_262_144, s_262_145, s_262_148, s_262_149, s_262_150, s_262_151, s_262_152, s_262_153, s_262_156, s_262_157, s_262_158, s_262_161, s_262_164, s_262_167, s_262_168, s_262_169, s_262_172, s_262_173, s_262_174, s_262_175, s_262_176, s_262_179, s_262_180, s_262_181, s_262_182, s_262_183, s_262_184, s_262_187, s_262_188, s_262_189, s_262_192, s_262_195, s_262_198, s_262_199, s_262_202, s_262_203, s_262_204, s_262_205, s_262_206, s_262_207, s_262_208, s_262_209, s_262_210, s_262_213, s_262_214, s_262_215, s_262_218, s_262_221, s_262_222, s_262_225, s_262_226, s_262_227, s_262_228, s_262_231, s_262_234, s_262_235, s_262_238, s_262_239, s_262_242, s_262_242n, s_262_244, s_262_245, s_262_246, s_262_247, s_262_248, s_262_250, s_262_251, s_262_253, s_262_256, s_262_257, s_262_258, s_262_261, s_262_263, s_262_266, s_262_269, s_262_270, s_262_273, s_262_275, s_262_276, s_262_279, s_262_282, s_262_283, s_262_286, s_262_287, s_262_290, s_262_293, s_262_294, s_262_295, s_262_296, s_262_297, s_262_298, s_262_301, s_262_302, s_262_303, s_262_306, s_262_309, s_262_310, s_262_313, s_262_314, s_262_315, s_262_316, s_262_317, s_262_318, s_262_321, s_262_324, s_262_325, s_262_328, s_262_329, s_262_333, s_262_335, s_262_338, e_262, mv_i_1, mv_l_1, mv_a_1, mv_a_2, mv_a_3, mk2_n, mk2_i, mk2_l, mk2_a, mk2_u, mk2_x, mB_T, mB_F, mS_cons, mS_nil, mSB_T, mSB_F, mca_nil, mca_i, mca_l, mca_r, mca_u, mca_x, mcat_i, mcat_l, mcat_r, mcat_u, mcat_x, mK_some, mK_none, va_rf_s, va_rf_n, lgc_eq, lgc_lt, lgc_gt, lgc_ge, lgc_le, mrd_104, mrd_105, mrd_106, mrd_107, true_and, and_true, and_self, false_and, and_false, true_or, or_true, false_or, or_false, not_true_eq_false, not_false_eq_true, mgb, mga, mgr, mN, reduceCtorEq, ↓reduceIte, eq_self, ge_iff_le, gt_iff_lt, Nat.reduceAdd, Nat.reduceMul, Nat.reduceSub, Nat.reduceLT, Nat.reduceGT, Nat.reduceEqDiff, Nat.reduceLeDiff, Nat.left_eq_add, Nat.add_eq_left, Nat.reduceMod, Nat.reduceDiv, Nat.succ_ne_self, g, go, aS_g, e10, e00, e1', i22', lt0, ec, or11]
/-- cell -/
theorem u_234 {N : Nat} {sN : Int → Prop} {en : Int → Nat} (a : AE h T sN en) (r23 : mh_r h 115 23 = some N) (k : RK h N (some A)) (hT : ab_T A) {k1 k2 : Nat} {v : Int} (hd : 2 * th t + 7 ≤ d) (hk1 : k1 < 26000) (hv : (mh_i h 95 k1).toInt = v) (hs : sN v) (ha : en v < A.a) (hr : A.rm (en v) ≤ 64) (hn : nd (mh_i h 93) (mh_i h 95) (mh_i h 97) k2 t) (hk2 : k2 + ts t ≤ 26000) (w : wS sN en A t false) : ∃ b lo hi, eR (e_bi (ev en A t none) (e_pl A (en v))) b lo hi ∧ ∀ Q, mcall d 234 [.ref 115, .int (Int32.ofNat k1), .int (Int32.ofNat k2)] h Q = Q (some (.int (kb b))) (aS h 115 (mh_i h 115 24 ||| (e_bi (ev en A t none) (e_pl A (en v))).2) lo hi) := by
  have H := a.H r23 k hT
  obtain ⟨b, l, u, e, q⟩ := r_234 (d := d) (al := mh_i h 115 24) (lo := mh_j h 115 25) (hi := mh_j h 115 26) H (r_233 H t).1 hd hk1 hv hs ha hr hn hk2 w
  refine ⟨b, l, u, e, fun Q => ?_⟩
  have := q Q
  rw [aS_id] at this
  exact this
theorem cell_pl {q : er} {x : Nat} : (e_bi q (e_cell A x)).2 = (e_bi q (e_pl A x)).2 ∧ ((e_bi q (e_cell A x)).1 = none ↔ (e_bi q (e_pl A x)).1 = none) := by
  unfold e_bi
  cases q.1 with
  | none => exact ⟨rfl, Iff.rfl⟩
  | some ab =>
    refine ⟨rfl, ?_⟩
    show (e_cell A x ab.1 ab.2).1 = none ↔ (e_pl A x ab.1 ab.2).1 = none
    unfold e_cell e_pl
    dsimp only
    split
    · simp
    · simp
end SKs
