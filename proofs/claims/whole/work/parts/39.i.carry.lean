set_option maxRecDepth 100000
/-! Effect.carry: the other kinds -/
section CAj
variable {d : Nat} {h : mh_H} {Y C E TT UU SC SP nC nE nS nb na p pa St Fr : Nat} {A : ab} {sN : Int → Prop} {en : Int → Nat} {t : tr} {sum c0 p0 nm : Nat}
theorem c_80 (F : CF h) (hp : p < 250) (b1 : mh_i h 21 p = Int32.ofNat nb) (rS : mh_r h 20 p = some St) (gS : mg h St 9) (s3 : mh_i h St 3 = Int32.ofNat nm) : ∀ Q, mcall d 80 [.ref 2, .int (Int32.ofNat p)] h Q = Q (some (.int (Int32.ofNat (nb + nm)))) h := fun Q => by
  have g2 := F.g 2 4 20 (by decide +kernel)
  have t3 := F.f 2 3 20 (by decide +kernel)
  have t4 := F.f 2 4 21 (by decide +kernel)
  have g20 := (F.g 20 105 250 (by decide +kernel)).1
  have g20' := (F.g 20 105 250 (by decide +kernel)).2
  have l20 := F.l 20 105 250 (by decide +kernel)
  have g21 := F.g 21 100 250 (by decide +kernel)
  have l21 := F.l 21 100 250 (by decide +kernel)
  have ea : Int32.ofNat nb + Int32.ofNat nm = Int32.ofNat (nb + nm) := nn_add
  clear F
  simp (disch := omega) only [s_80_0, s_80_1, s_80_4, s_80_5, s_80_5x, s_80_6, s_80_7, s_80_10, s_80_11, s_80_12, s_80_15, s_80_16, e_80, mv_i_1, mv_l_1, mv_a_1, mv_a_2, mv_a_3, mk2_n, mk2_i, mk2_l, mk2_a, mk2_u, mk2_x, mB_T, mB_F, mS_cons, mS_nil, mSB_T, mSB_F, mca_nil, mca_i, mca_l, mca_r, mca_u, mca_x, mcat_i, mcat_l, mcat_r, mcat_u, mcat_x, mK_some, mK_none, va_rf_s, va_rf_n, lgc_eq, lgc_lt, lgc_gt, lgc_ge, lgc_le, mrd_104, mrd_105, mrd_106, mrd_107, true_and, and_true, and_self, false_and, and_false, true_or, or_true, false_or, or_false, not_true_eq_false, not_false_eq_true, mgb, mga, mgr, mN, reduceCtorEq, ↓reduceIte, eq_self, ge_iff_le, gt_iff_lt, hk_si, hk_sj, hk_sr, hl_si, hl_sj, hl_sr, hn_si, hn_sj, hn_sr, hs_si, hs_sj, hs_sr, hi_sj, hi_sr, hj_si, hj_sr, hr_si, hr_sj, hi_si, hj_sj, hr_sr, mg_si, mg_sj, mg_sr, Nat.reduceAdd, Nat.reduceMul, Nat.reduceSub, Nat.reduceLT, Nat.reduceGT, Nat.reduceEqDiff, Nat.reduceLeDiff, Nat.left_eq_add, Nat.add_eq_left, Nat.reduceMod, Nat.reduceDiv, Nat.succ_ne_self, g2, t3, t4, g20, g20', l20, g21, l21, rS, gS, s3, b1, ea, nn_mxT, nn_clamp]
theorem c_81 (F : CF h) (hp : p < 250) (b1 : mh_i h 22 p = Int32.ofNat na) (rS : mh_r h 20 p = some St) (gS : mg h St 9) (s3 : mh_i h St 4 = Int32.ofNat nm) : ∀ Q, mcall d 81 [.ref 2, .int (Int32.ofNat p)] h Q = Q (some (.int (Int32.ofNat (na + nm)))) h := fun Q => by
  have g2 := F.g 2 4 20 (by decide +kernel)
  have t3 := F.f 2 3 20 (by decide +kernel)
  have t4 := F.f 2 5 22 (by decide +kernel)
  have g20 := (F.g 20 105 250 (by decide +kernel)).1
  have g20' := (F.g 20 105 250 (by decide +kernel)).2
  have l20 := F.l 20 105 250 (by decide +kernel)
  have g21 := F.g 22 100 250 (by decide +kernel)
  have l21 := F.l 22 100 250 (by decide +kernel)
  have ea : Int32.ofNat na + Int32.ofNat nm = Int32.ofNat (na + nm) := nn_add
  clear F
  simp (disch := omega) only [s_81_0, s_81_1, s_81_4, s_81_5, s_81_5x, s_81_6, s_81_7, s_81_10, s_81_11, s_81_12, s_81_15, s_81_16, e_81, mv_i_1, mv_l_1, mv_a_1, mv_a_2, mv_a_3, mk2_n, mk2_i, mk2_l, mk2_a, mk2_u, mk2_x, mB_T, mB_F, mS_cons, mS_nil, mSB_T, mSB_F, mca_nil, mca_i, mca_l, mca_r, mca_u, mca_x, mcat_i, mcat_l, mcat_r, mcat_u, mcat_x, mK_some, mK_none, va_rf_s, va_rf_n, lgc_eq, lgc_lt, lgc_gt, lgc_ge, lgc_le, mrd_104, mrd_105, mrd_106, mrd_107, true_and, and_true, and_self, false_and, and_false, true_or, or_true, false_or, or_false, not_true_eq_false, not_false_eq_true, mgb, mga, mgr, mN, reduceCtorEq, ↓reduceIte, eq_self, ge_iff_le, gt_iff_lt, hk_si, hk_sj, hk_sr, hl_si, hl_sj, hl_sr, hn_si, hn_sj, hn_sr, hs_si, hs_sj, hs_sr, hi_sj, hi_sr, hj_si, hj_sr, hr_si, hr_sj, hi_si, hj_sj, hr_sr, mg_si, mg_sj, mg_sr, Nat.reduceAdd, Nat.reduceMul, Nat.reduceSub, Nat.reduceLT, Nat.reduceGT, Nat.reduceEqDiff, Nat.reduceLeDiff, Nat.left_eq_add, Nat.add_eq_left, Nat.reduceMod, Nat.reduceDiv, Nat.succ_ne_self, g2, t3, t4, g20, g20', l20, g21, l21, rS, gS, s3, b1, ea, nn_mxT, nn_clamp]
theorem SU_le {lQ lP : Nat} {tu : Bool} (hl : lQ ≤ lP) (u : SU h C E TT UU SC SP nC nE nS lQ nb na sN en A t tu sum c0 p0) : SU h C E TT UU SC SP nC nE nS lP nb na sN en A t tu sum c0 p0 := ⟨u.s, u.c0, u.c1, u.p0, u.p1, u.c, u.w, u.z, u.m, u.e, u.u, u.b1, u.b3, Nat.le_trans u.b4 hl, u.b6⟩
/-- var x = SUM; -/
theorem v_13v {su : Nat} (c : CQ h Y C E TT UU SC SP nC nE nS nb na p pa St Fr 1 A) (s3 : mh_i h St 3 = Int32.ofNat nm) (hx : nb + nm = A.n) (hn : A.n < 12) (s9 : mh_i h St 9 = 0) (s11 : mh_i h St 11 = Int32.ofNat su) (hs : 0 < su) (hs2 : su < 1000) (s10 : mh_i h St 10 = Int32.ofNat sum) (U : SU h C E TT UU SC SP nC nE nS pa nb na sN en A t false sum c0 p0) : ∃ h', CR h h' Y C E TT UU SC SP nC nE nS (a_set en A A A.n true t) (ev en A t none).2 ∧ ∀ Q, mcall (d + 5) 13 [.ref 34, .int (Int32.ofNat p), .ref Fr] h Q = Q none h' := by
  obtain ⟨h2, P, R, lP, Ho, hl, y2, B2, S2, r2, k2, a4, ii, e2⟩ := car_0 (d := d) c.B c.hp c.b1 c.b2 c.s5 c.hb c.rS c.gS c.c c.n c.k c.T
  have U2 := SU_le hl (SU_sE c.B y2 U)
  have gS2 := fz_mg y2.1.1 c.gS
  have nSt := c.ns
  have iS : ∀ j, mh_i h2 St j = mh_i h St j := fun j => (ii St 9 j c.gS (by omega) (by omega) nSt).1
  have sH := S2.so
  have kS := so_k sH gS2 (by omega) (by omega)
  have c52 := (B2.F.g 52 101 48 (by decide +kernel)).1
  have nS52 : St ≠ 52 := fun e => by have := gS2.1; rw [e] at this; omega
  have aH := (cs_so S2.G.S S2.c).2
  unfold cAd at aH
  have g34 := B2.F.g 34 1 9 (by decide +kernel)
  have n34 : ¬ sW Ho 52 34 := by unfold sW; omega
  have nSt2 : ¬ sW Ho 52 St := by unfold sW; omega
  obtain ⟨h3, f3, k3, e3⟩ := v_14s (d := d + 1) g34 gS2 n34 nSt2 r2 k2 c.T hn (by rw [iS]; exact s9) (by rw [iS]; exact s11) hs hs2
  have x3 : fG (stW Ho P R) h2 h3 := fG_w (fG_fq f3) (fun b j w => Or.inr (Or.inr w))
  have S3 := ES_fG S2 x3
  have U3 := ES_U S2 x3 U2
  have r23 : mh_r h3 34 2 = some Ho := by rw [fG_r x3]; exact r2
  obtain ⟨h4, f4, a44, k4, e4⟩ := v_16 (d := d) (x := A.n) (B := A) (new := true) S3 U3 r23 k3 c.T (Nat.le_refl _) (fun _ => ⟨rfl, hn⟩) (fun z => by cases z)
  have y3 := st_sE S2.G.p S2.G.S S2.G.q S2.G.y r2 (fG_t x3 f4)
  obtain ⟨h5, y5, B5, r5, k5, a8, e5⟩ := car_1 (d := d) (x1 := some (.int (Int32.ofNat p))) (x2 := some (.ref Fr)) (x3 := some (.ref St)) (x4 := none) (BS_fG (fG_t x3 f4) B2) (by rw [fG_r f4]; exact r23) k4
  have a35 : mh_i h3 35 4 = 0 := by rw [(f3.2.2.2.2.2 35 (by unfold sW; omega)).1]; exact a4
  refine ⟨h5, ⟨Ho, sE_t y2 (sE_t y3 y5), B5, r5, k5, by rw [a8, a44, a35, z_or]⟩, fun Q => ?_⟩
  rw [e2 Q]
  have B3 := BS_fG x3 B2
  have F3 := B3.F
  have g343 := F3.g 34 1 9 (by decide +kernel)
  have t03 := F3.f 34 0 2 (by decide +kernel)
  have g23 := F3.g 2 4 20 (by decide +kernel)
  have gS3 := (fq_mg f3).mpr gS2
  have iS3 : ∀ j, mh_i h3 St j = mh_i h St j := fun j => by rw [(f3.2.2.2.2.2 St nSt2).1]; exact iS j
  have g21h := c.B.F.g 21 100 250 (by decide +kernel)
  have g20h := c.B.F.g 20 105 250 (by decide +kernel)
  have n21 : ¬ sW Ho 52 21 := by unfold sW; omega
  have v21 : mh_i h3 21 p = Int32.ofNat nb := by rw [(f3.2.2.2.2.2 21 n21).1, (ii 21 100 p g21h (by omega) (by omega) (by omega)).1]; exact c.b1
  have r20 : mh_r h3 20 p = some St := by rw [fG_r x3, (ii 20 105 p g20h (by omega) (by omega) (by omega)).2]; exact c.rS
  have c80 := c_80 (d := d + 4) (nm := nm) F3 c.hp v21 r20 gS3 (by rw [iS3]; exact s3)
  have v0 : mh_i h2 St 0 = 1 := by rw [iS]; exact c.s0
  have v9 : mh_i h3 St 9 = 0 := by rw [iS3]; exact s9
  have v10 : mh_i h3 St 10 = Int32.ofNat sum := by rw [iS3]; exact s10
  have v11 : mh_i h3 St 11 = Int32.ofNat su := by rw [iS3]; exact s11
  have le0 : (Int32.ofNat su ≤ 0) = False := by
    have e0 : (0 : Int32) = Int32.ofNat 0 := rfl
    rw [e0, nn_le (by omega) (by omega)]; exact eq_false (by omega)
  rw [← hx] at e4
  clear c F3 B2 B3 S2 S3 U U2 U3 y2 y3 y5 f3 f4 x3 B5 k2 k3 k4 k5 hx ii iS iS3
  simp (disch := omega) only [s_13_0, s_13_1, s_13_4, s_13_7, s_13_8, s_13_9, s_13_9n, s_13_9x, s_13_10, s_13_11, s_13_14, s_13_15, s_13_18, s_13_19, s_13_20, s_13_23, s_13_24, s_13_27, s_13_28, s_13_31, s_13_32, s_13_35, s_13_64, s_13_65, s_13_66, s_13_69, s_13_70, s_13_73, s_13_76, s_13_77, s_13_80, s_13_83, s_13_84, s_13_85, s_13_88, s_13_89, s_13_92, s_13_93, s_13_96, s_13_99, s_13_102, s_13_103, s_13_104, s_13_107, s_13_110, s_13_111, s_13_111x, s_13_112, s_13_113, s_13_116, s_13_117, s_13_118, s_13_121, s_13_124, s_13_127, s_13_128, s_13_129, s_13_130, s_13_133, s_13_136, s_13_137, s_13_137x, s_13_138, s_13_139, s_13_142, s_13_143, s_13_146, s_13_149, s_13_150, s_13_152, s_13_154, s_13_155, s_13_158, s_13_161, s_13_162, s_13_165, s_13_168, s_13_171, s_13_172, s_13_175, s_13_178, s_13_179, s_13_180, s_13_183, s_13_184, s_13_187, s_13_189, s_13_190, s_13_191, s_13_194, s_13_196, s_13_197, s_13_200, s_13_201, s_13_204, s_13_205, s_13_208, s_13_211, s_13_214, s_13_217, s_13_220, s_13_221, s_13_222, s_13_225, s_13_226, s_13_229, s_13_230, s_13_233, s_13_237, s_13_240, s_13_241, s_13_244, s_13_247, s_13_248, s_13_249, s_13_252, s_13_255, s_13_258, e_13, mv_i_1, mv_l_1, mv_a_1, mv_a_2, mv_a_3, mk2_n, mk2_i, mk2_l, mk2_a, mk2_u, mk2_x, mB_T, mB_F, mS_cons, mS_nil, mSB_T, mSB_F, mca_nil, mca_i, mca_l, mca_r, mca_u, mca_x, mcat_i, mcat_l, mcat_r, mcat_u, mcat_x, mK_some, mK_none, va_rf_s, va_rf_n, lgc_eq, lgc_lt, lgc_gt, lgc_ge, lgc_le, mrd_104, mrd_105, mrd_106, mrd_107, true_and, and_true, and_self, false_and, and_false, true_or, or_true, false_or, or_false, not_true_eq_false, not_false_eq_true, mgb, mga, mgr, mN, reduceCtorEq, ↓reduceIte, eq_self, ge_iff_le, gt_iff_lt, hk_si, hk_sj, hk_sr, hl_si, hl_sj, hl_sr, hn_si, hn_sj, hn_sr, hs_si, hs_sj, hs_sr, hi_sj, hi_sr, hj_si, hj_sr, hr_si, hr_sj, hi_si, hj_sj, hr_sr, mg_si, mg_sj, mg_sr, Nat.reduceAdd, Nat.reduceMul, Nat.reduceSub, Nat.reduceLT, Nat.reduceGT, Nat.reduceEqDiff, Nat.reduceLeDiff, Nat.left_eq_add, Nat.add_eq_left, Nat.reduceMod, Nat.reduceDiv, Nat.succ_ne_self, g34, gS2, v0, e3, gS3, v9, v11, le0, g343, t03, g23, c80, v10, e4, e5, show ((1 : Int32) = 1) = True by decide, show ((0 : Int32) = 0) = True by decide]
/-- var x; -/
theorem v_13z (c : CQ h Y C E TT UU SC SP nC nE nS nb na p pa St Fr 1 A) (hn : A.n < 12) (s9 : mh_i h St 9 = 0) (s11 : mh_i h St 11 = 0) : ∃ h', CR h h' Y C E TT UU SC SP nC nE nS (a_zero A) 0 ∧ ∀ Q, mcall (d + 5) 13 [.ref 34, .int (Int32.ofNat p), .ref Fr] h Q = Q none h' := by
  obtain ⟨h2, P, R, lP, Ho, hl, y2, B2, S2, r2, k2, a4, ii, e2⟩ := car_0 (d := d) c.B c.hp c.b1 c.b2 c.s5 c.hb c.rS c.gS c.c c.n c.k c.T
  have gS2 := fz_mg y2.1.1 c.gS
  have nSt := c.ns
  have iS : ∀ j, mh_i h2 St j = mh_i h St j := fun j => (ii St 9 j c.gS (by omega) (by omega) nSt).1
  have sH := S2.so
  have kS := so_k sH gS2 (by omega) (by omega)
  have c52 := (B2.F.g 52 101 48 (by decide +kernel)).1
  have nS52 : St ≠ 52 := fun e => by have := gS2.1; rw [e] at this; omega
  have aH := (cs_so S2.G.S S2.c).2
  unfold cAd at aH
  have g34 := B2.F.g 34 1 9 (by decide +kernel)
  have n34 : ¬ sW Ho 52 34 := by unfold sW; omega
  have nSt2 : ¬ sW Ho 52 St := by unfold sW; omega
  obtain ⟨h3, cc, uu, f3, k3, e3⟩ := v_14z (d := d + 1) g34 gS2 n34 nSt2 r2 k2 c.T hn (by rw [iS]; exact s9) (by rw [iS]; exact s11)
  have x3 : fG (stW Ho P R) h2 h3 := fG_w (fG_fq f3) (fun b j w => Or.inr (Or.inr w))
  have r23 : mh_r h3 34 2 = some Ho := by rw [fG_r x3]; exact r2
  have tg : TG h3 Ho (a_zero A) := Or.inl ⟨_, cc, uu, k3, fun i j hi hj => by
    have e := (lims_f [(2 * A.n, 2 * A.n, 0), (2 * A.n + 1, 2 * A.n + 1, 0)] (a_add A)).1
    rw [e] at hi hj
    exact zero_b c.T hn i j hi hj, rfl⟩
  have y3 := st_sE S2.G.p S2.G.S S2.G.q S2.G.y r2 x3
  obtain ⟨h5, y5, B5, r5, k5, a8, e5⟩ := car_1 (d := d) (x1 := some (.int (Int32.ofNat p))) (x2 := some (.ref Fr)) (x3 := some (.ref St)) (x4 := none) (BS_fG x3 B2) r23 tg
  have a35 : mh_i h3 35 4 = 0 := by rw [(f3.2.2.2.2.2 35 (by unfold sW; omega)).1]; exact a4
  refine ⟨h5, ⟨Ho, sE_t y2 (sE_t y3 y5), B5, r5, k5, by rw [a8, a35]⟩, fun Q => ?_⟩
  rw [e2 Q]
  have gS3 := (fq_mg f3).mpr gS2
  have iS3 : ∀ j, mh_i h3 St j = mh_i h St j := fun j => by rw [(f3.2.2.2.2.2 St nSt2).1]; exact iS j
  have v0 : mh_i h2 St 0 = 1 := by rw [iS]; exact c.s0
  have v9 : mh_i h3 St 9 = 0 := by rw [iS3]; exact s9
  have v11 : mh_i h3 St 11 = 0 := by rw [iS3]; exact s11
  clear c B2 S2 y2 y3 y5 f3 x3 B5 k2 k3 k5 ii iS iS3 tg
  simp (disch := omega) only [s_13_0, s_13_1, s_13_4, s_13_7, s_13_8, s_13_9, s_13_9n, s_13_9x, s_13_10, s_13_11, s_13_14, s_13_15, s_13_18, s_13_19, s_13_20, s_13_23, s_13_24, s_13_27, s_13_28, s_13_31, s_13_32, s_13_35, s_13_64, s_13_65, s_13_66, s_13_69, s_13_70, s_13_73, s_13_76, s_13_77, s_13_80, s_13_83, s_13_84, s_13_85, s_13_88, s_13_89, s_13_92, s_13_93, s_13_96, s_13_99, s_13_102, s_13_103, s_13_104, s_13_107, s_13_110, s_13_111, s_13_111x, s_13_112, s_13_113, s_13_116, s_13_117, s_13_118, s_13_121, s_13_124, s_13_127, s_13_128, s_13_129, s_13_130, s_13_133, s_13_136, s_13_137, s_13_137x, s_13_138, s_13_139, s_13_142, s_13_143, s_13_146, s_13_149, s_13_150, s_13_152, s_13_154, s_13_155, s_13_158, s_13_161, s_13_162, s_13_165, s_13_168, s_13_171, s_13_172, s_13_175, s_13_178, s_13_179, s_13_180, s_13_183, s_13_184, s_13_187, s_13_189, s_13_190, s_13_191, s_13_194, s_13_196, s_13_197, s_13_200, s_13_201, s_13_204, s_13_205, s_13_208, s_13_211, s_13_214, s_13_217, s_13_220, s_13_221, s_13_222, s_13_225, s_13_226, s_13_229, s_13_230, s_13_233, s_13_237, s_13_240, s_13_241, s_13_244, s_13_247, s_13_248, s_13_249, s_13_252, s_13_255, s_13_258, e_13, mv_i_1, mv_l_1, mv_a_1, mv_a_2, mv_a_3, mk2_n, mk2_i, mk2_l, mk2_a, mk2_u, mk2_x, mB_T, mB_F, mS_cons, mS_nil, mSB_T, mSB_F, mca_nil, mca_i, mca_l, mca_r, mca_u, mca_x, mcat_i, mcat_l, mcat_r, mcat_u, mcat_x, mK_some, mK_none, va_rf_s, va_rf_n, lgc_eq, lgc_lt, lgc_gt, lgc_ge, lgc_le, mrd_104, mrd_105, mrd_106, mrd_107, true_and, and_true, and_self, false_and, and_false, true_or, or_true, false_or, or_false, not_true_eq_false, not_false_eq_true, mgb, mga, mgr, mN, reduceCtorEq, ↓reduceIte, eq_self, ge_iff_le, gt_iff_lt, hk_si, hk_sj, hk_sr, hl_si, hl_sj, hl_sr, hn_si, hn_sj, hn_sr, hs_si, hs_sj, hs_sr, hi_sj, hi_sr, hj_si, hj_sr, hr_si, hr_sj, hi_si, hj_sj, hr_sr, mg_si, mg_sj, mg_sr, Nat.reduceAdd, Nat.reduceMul, Nat.reduceSub, Nat.reduceLT, Nat.reduceGT, Nat.reduceEqDiff, Nat.reduceLeDiff, Nat.left_eq_add, Nat.add_eq_left, Nat.reduceMod, Nat.reduceDiv, Nat.succ_ne_self, g34, gS2, v0, e3, gS3, v9, v11, e5, show ((1 : Int32) = 1) = True by decide, show ((0 : Int32) = 0) = True by decide, show ((0 : Int32) ≤ 0) = True by decide]
/-- var a[n]; -/
theorem v_13a {sz : Nat} (c : CQ h Y C E TT UU SC SP nC nE nS nb na p pa St Fr 1 A) (ha : A.a < 6) (s9 : mh_i h St 9 = Int32.ofNat sz) (z1 : 0 < sz) (z2 : sz < 1000) : ∃ h', CR h h' Y C E TT UU SC SP nC nE nS (some (a_arr sz A)) 0 ∧ ∀ Q, mcall (d + 5) 13 [.ref 34, .int (Int32.ofNat p), .ref Fr] h Q = Q none h' := by
  obtain ⟨h2, P, R, lP, Ho, hl, y2, B2, S2, r2, k2, a4, ii, e2⟩ := car_0 (d := d) c.B c.hp c.b1 c.b2 c.s5 c.hb c.rS c.gS c.c c.n c.k c.T
  have gS2 := fz_mg y2.1.1 c.gS
  have nSt := c.ns
  have iS : ∀ j, mh_i h2 St j = mh_i h St j := fun j => (ii St 9 j c.gS (by omega) (by omega) nSt).1
  have sH := S2.so
  have kS := so_k sH gS2 (by omega) (by omega)
  have c52 := (B2.F.g 52 101 48 (by decide +kernel)).1
  have nS52 : St ≠ 52 := fun e => by have := gS2.1; rw [e] at this; omega
  have aH := (cs_so S2.G.S S2.c).2
  unfold cAd at aH
  have g34 := B2.F.g 34 1 9 (by decide +kernel)
  have nSt2 : ¬ sW Ho 52 St := by unfold sW; omega
  obtain ⟨h3, f3, k3, e3⟩ := v_14a (d := d + 1) g34 gS2 r2 k2 ha (by rw [iS]; exact s9) z1 z2
  have x3 : fG (stW Ho P R) h2 h3 := fG_w (fG_fq f3) (fun b j w => Or.inr (Or.inr w))
  have r23 : mh_r h3 34 2 = some Ho := by rw [fG_r x3]; exact r2
  have T3 := T_arr (r := sz) c.T ha
  have y3 := st_sE S2.G.p S2.G.S S2.G.q S2.G.y r2 x3
  obtain ⟨h5, y5, B5, r5, k5, a8, e5⟩ := car_1 (d := d) (x1 := some (.int (Int32.ofNat p))) (x2 := some (.ref Fr)) (x3 := some (.ref St)) (x4 := none) (BS_fG x3 B2) r23 (TG_of k3 T3)
  have a35 : mh_i h3 35 4 = 0 := by rw [(f3.2.2.2.2.2 35 (by unfold sW; omega)).1]; exact a4
  refine ⟨h5, ⟨Ho, sE_t y2 (sE_t y3 y5), B5, r5, RS_cl T3.t k5, by rw [a8, a35]⟩, fun Q => ?_⟩
  rw [e2 Q]
  have gS3 := (fq_mg f3).mpr gS2
  have iS3 : ∀ j, mh_i h3 St j = mh_i h St j := fun j => by rw [(f3.2.2.2.2.2 St nSt2).1]; exact iS j
  have v0 : mh_i h2 St 0 = 1 := by rw [iS]; exact c.s0
  have v9 : mh_i h3 St 9 = Int32.ofNat sz := by rw [iS3]; exact s9
  have ne0 : (Int32.ofNat sz = 0) = False := by
    have e0 : (0 : Int32) = Int32.ofNat 0 := rfl
    rw [e0, nn_eq (by omega) (by omega)]; exact eq_false (by omega)
  clear c B2 S2 y2 y3 y5 f3 x3 B5 k2 k3 k5 ii iS iS3 T3
  simp (disch := omega) only [s_13_0, s_13_1, s_13_4, s_13_7, s_13_8, s_13_9, s_13_9n, s_13_9x, s_13_10, s_13_11, s_13_14, s_13_15, s_13_18, s_13_19, s_13_20, s_13_23, s_13_24, s_13_27, s_13_28, s_13_31, s_13_32, s_13_35, s_13_64, s_13_65, s_13_66, s_13_69, s_13_70, s_13_73, s_13_76, s_13_77, s_13_80, s_13_83, s_13_84, s_13_85, s_13_88, s_13_89, s_13_92, s_13_93, s_13_96, s_13_99, s_13_102, s_13_103, s_13_104, s_13_107, s_13_110, s_13_111, s_13_111x, s_13_112, s_13_113, s_13_116, s_13_117, s_13_118, s_13_121, s_13_124, s_13_127, s_13_128, s_13_129, s_13_130, s_13_133, s_13_136, s_13_137, s_13_137x, s_13_138, s_13_139, s_13_142, s_13_143, s_13_146, s_13_149, s_13_150, s_13_152, s_13_154, s_13_155, s_13_158, s_13_161, s_13_162, s_13_165, s_13_168, s_13_171, s_13_172, s_13_175, s_13_178, s_13_179, s_13_180, s_13_183, s_13_184, s_13_187, s_13_189, s_13_190, s_13_191, s_13_194, s_13_196, s_13_197, s_13_200, s_13_201, s_13_204, s_13_205, s_13_208, s_13_211, s_13_214, s_13_217, s_13_220, s_13_221, s_13_222, s_13_225, s_13_226, s_13_229, s_13_230, s_13_233, s_13_237, s_13_240, s_13_241, s_13_244, s_13_247, s_13_248, s_13_249, s_13_252, s_13_255, s_13_258, e_13, mv_i_1, mv_l_1, mv_a_1, mv_a_2, mv_a_3, mk2_n, mk2_i, mk2_l, mk2_a, mk2_u, mk2_x, mB_T, mB_F, mS_cons, mS_nil, mSB_T, mSB_F, mca_nil, mca_i, mca_l, mca_r, mca_u, mca_x, mcat_i, mcat_l, mcat_r, mcat_u, mcat_x, mK_some, mK_none, va_rf_s, va_rf_n, lgc_eq, lgc_lt, lgc_gt, lgc_ge, lgc_le, mrd_104, mrd_105, mrd_106, mrd_107, true_and, and_true, and_self, false_and, and_false, true_or, or_true, false_or, or_false, not_true_eq_false, not_false_eq_true, mgb, mga, mgr, mN, reduceCtorEq, ↓reduceIte, eq_self, ge_iff_le, gt_iff_lt, hk_si, hk_sj, hk_sr, hl_si, hl_sj, hl_sr, hn_si, hn_sj, hn_sr, hs_si, hs_sj, hs_sr, hi_sj, hi_sr, hj_si, hj_sr, hr_si, hr_sj, hi_si, hj_sj, hr_sr, mg_si, mg_sj, mg_sr, Nat.reduceAdd, Nat.reduceMul, Nat.reduceSub, Nat.reduceLT, Nat.reduceGT, Nat.reduceEqDiff, Nat.reduceLeDiff, Nat.left_eq_add, Nat.add_eq_left, Nat.reduceMod, Nat.reduceDiv, Nat.succ_ne_self, g34, gS2, v0, e3, gS3, v9, ne0, e5, show ((1 : Int32) = 1) = True by decide]
/-- a[SUM] = SUM; -/
theorem v_13p {sl sz c1 p1 : Nat} {t2 : tr} (c : CQ h Y C E TT UU SC SP nC nE nS nb na p pa St Fr 3 A) (s8 : mh_i h St 8 = Int32.ofNat sl) (hx : na + sl < A.a) (s9 : mh_i h St 9 = Int32.ofNat sz) (hz : A.rm (na + sl) = sz) (z1 : 1 ≤ sz) (z2 : sz ≤ 64) (s10 : mh_i h St 10 = Int32.ofNat sum) (U : SU h C E TT UU SC SP nC nE nS pa nb na sN en A t false sum c0 p0) (V : SU h C E TT UU SC SP nC nE nS pa nb na sN en A t2 false (sum + 1) c1 p1) : ∃ h', CR h h' Y C E TT UU SC SP nC nE nS (a_put en A (na + sl) t t2).1 (a_put en A (na + sl) t t2).2 ∧ ∀ Q, mcall (d + 5) 13 [.ref 34, .int (Int32.ofNat p), .ref Fr] h Q = Q none h' := by
  obtain ⟨h2, P, R, lP, Ho, hl, y2, B2, S2, r2, k2, a4, ii, e2⟩ := car_0 (d := d) c.B c.hp c.b1 c.b2 c.s5 c.hb c.rS c.gS c.c c.n c.k c.T
  have U2 := SU_le hl (SU_sE c.B y2 U)
  have V2 := SU_le hl (SU_sE c.B y2 V)
  have gS2 := fz_mg y2.1.1 c.gS
  have nSt := c.ns
  have iS : ∀ j, mh_i h2 St j = mh_i h St j := fun j => (ii St 9 j c.gS (by omega) (by omega) nSt).1
  obtain ⟨h3, f3, a43, k3, e3⟩ := v_15 (d := d) (x := na + sl) (sz := sz) S2 U2 V2 r2 k2 gS2 hx hz z1 z2 (by rw [iS]; exact s10) (by rw [iS]; exact s9)
  have y3 := st_sE S2.G.p S2.G.S S2.G.q S2.G.y r2 f3
  have r23 : mh_r h3 34 2 = some Ho := by rw [fG_r f3]; exact r2
  have fin : ∃ h5, sE h3 h5 ∧ BS h5 Y C E TT UU SC SP nC nE nS ∧ mh_r h5 34 2 = some Ho ∧ RS h5 Ho (a_put en A (na + sl) t t2).1 ∧ mh_i h5 34 8 = mh_i h3 35 4 ∧ ∀ Q, mw (d + 5) 13 Q 236 [some (.ref 34), some (.int (Int32.ofNat p)), some (.ref Fr), some (.ref St), none] [] h3 = Q none h5 := by
    cases e : (a_put en A (na + sl) t t2).1 with
    | none => exact car_1 (BS_fG f3 B2) r23 (Or.inr ⟨rfl, by rw [e] at k3; exact k3.1⟩)
    | some D =>
      have T3 := (T_put c.T hx V.w e).1
      rw [e] at k3
      obtain ⟨h5, q1, q2, q3, q4, q5, q6⟩ := car_1 (d := d) (x1 := some (.int (Int32.ofNat p))) (x2 := some (.ref Fr)) (x3 := some (.ref St)) (x4 := none) (BS_fG f3 B2) r23 (TG_of k3 T3)
      exact ⟨h5, q1, q2, q3, RS_cl T3.t q4, q5, q6⟩
  obtain ⟨h5, y5, B5, r5, k5, a8, e5⟩ := fin
  refine ⟨h5, ⟨Ho, sE_t y2 (sE_t y3 y5), B5, r5, k5, by rw [a8, a43, a4, z_or]⟩, fun Q => ?_⟩
  rw [e2 Q]
  have F2 := B2.F
  have g34 := F2.g 34 1 9 (by decide +kernel)
  have g2 := F2.g 2 4 20 (by decide +kernel)
  have t0 := F2.f 34 0 2 (by decide +kernel)
  have t5 := F2.f 2 5 22 (by decide +kernel)
  have g22 := F2.g 22 100 250 (by decide +kernel)
  have l22 := F2.l 22 100 250 (by decide +kernel)
  have g22h := c.B.F.g 22 100 250 (by decide +kernel)
  have v0 : mh_i h2 St 0 = 3 := by rw [iS]; exact c.s0
  have v8 : mh_i h2 St 8 = Int32.ofNat sl := by rw [iS]; exact s8
  have v22 : mh_i h2 22 p = Int32.ofNat na := by rw [(ii 22 100 p g22h (by omega) (by omega) (by omega)).1]; exact c.b2
  have hp := c.hp
  have ea : Int32.ofNat na + Int32.ofNat sl = Int32.ofNat (na + sl) := nn_add
  clear c F2 B2 S2 U U2 V V2 y2 y3 y5 f3 B5 k2 k3 k5 ii iS
  simp (disch := omega) only [s_13_0, s_13_1, s_13_4, s_13_7, s_13_8, s_13_9, s_13_9n, s_13_9x, s_13_10, s_13_11, s_13_14, s_13_15, s_13_18, s_13_19, s_13_20, s_13_23, s_13_24, s_13_27, s_13_28, s_13_31, s_13_32, s_13_35, s_13_64, s_13_65, s_13_66, s_13_69, s_13_70, s_13_73, s_13_76, s_13_77, s_13_80, s_13_83, s_13_84, s_13_85, s_13_88, s_13_89, s_13_92, s_13_93, s_13_96, s_13_99, s_13_102, s_13_103, s_13_104, s_13_107, s_13_110, s_13_111, s_13_111x, s_13_112, s_13_113, s_13_116, s_13_117, s_13_118, s_13_121, s_13_124, s_13_127, s_13_128, s_13_129, s_13_130, s_13_133, s_13_136, s_13_137, s_13_137x, s_13_138, s_13_139, s_13_142, s_13_143, s_13_146, s_13_149, s_13_150, s_13_152, s_13_154, s_13_155, s_13_158, s_13_161, s_13_162, s_13_165, s_13_168, s_13_171, s_13_172, s_13_175, s_13_178, s_13_179, s_13_180, s_13_183, s_13_184, s_13_187, s_13_189, s_13_190, s_13_191, s_13_194, s_13_196, s_13_197, s_13_200, s_13_201, s_13_204, s_13_205, s_13_208, s_13_211, s_13_214, s_13_217, s_13_220, s_13_221, s_13_222, s_13_225, s_13_226, s_13_229, s_13_230, s_13_233, s_13_237, s_13_240, s_13_241, s_13_244, s_13_247, s_13_248, s_13_249, s_13_252, s_13_255, s_13_258, e_13, mv_i_1, mv_l_1, mv_a_1, mv_a_2, mv_a_3, mk2_n, mk2_i, mk2_l, mk2_a, mk2_u, mk2_x, mB_T, mB_F, mS_cons, mS_nil, mSB_T, mSB_F, mca_nil, mca_i, mca_l, mca_r, mca_u, mca_x, mcat_i, mcat_l, mcat_r, mcat_u, mcat_x, mK_some, mK_none, va_rf_s, va_rf_n, lgc_eq, lgc_lt, lgc_gt, lgc_ge, lgc_le, mrd_104, mrd_105, mrd_106, mrd_107, true_and, and_true, and_self, false_and, and_false, true_or, or_true, false_or, or_false, not_true_eq_false, not_false_eq_true, mgb, mga, mgr, mN, reduceCtorEq, ↓reduceIte, eq_self, ge_iff_le, gt_iff_lt, hk_si, hk_sj, hk_sr, hl_si, hl_sj, hl_sr, hn_si, hn_sj, hn_sr, hs_si, hs_sj, hs_sr, hi_sj, hi_sr, hj_si, hj_sr, hr_si, hr_sj, hi_si, hj_sj, hr_sr, mg_si, mg_sj, mg_sr, Nat.reduceAdd, Nat.reduceMul, Nat.reduceSub, Nat.reduceLT, Nat.reduceGT, Nat.reduceEqDiff, Nat.reduceLeDiff, Nat.left_eq_add, Nat.add_eq_left, Nat.reduceMod, Nat.reduceDiv, Nat.succ_ne_self, g34, g2, t0, t5, g22, l22, gS2, v0, v8, v22, ea, e3, e5, nn_mxT, nn_clamp, show ((3 : Int32) = 1) = False by decide, show ((3 : Int32) = 2) = False by decide, show ((3 : Int32) = 3) = True by decide]
end CAj
