set_option maxRecDepth 100000
/-! the reference's reckon, by the tree: a node -/
section UPs
variable {d : Nat} {h h1 : mh_H} {p gv k k0 z c j D : Nat} {sN : Int → Prop} {en aR : Int → Nat} {q : xr} {x v : Int64} {A : ab} {V P N : Nat → Int32} {t : tr}
theorem c_356t (F : RF h) (e : (mh_i h 81 68 = 0) = False) {w : Int32} : ∀ Q, mcall d 356 [.ref 81, .int w] h Q = Q (some (.long 0)) (mh_si h 81 68 (mh_i h 81 68)) := fun Q => by
  have g := F.g 81 14 70 (by decide +kernel)
  clear F
  simp (disch := omega) only [s_356_0, s_356_1, s_356_2, s_356_5, s_356_8, s_356_9, s_356_12, s_356_13, s_356_16, s_356_19, s_356_20, e_356, mv_i_1, mv_l_1, mv_a_1, mv_a_2, mv_a_3, mk2_n, mk2_i, mk2_l, mk2_a, mk2_u, mk2_x, mB_T, mB_F, mS_cons, mS_nil, mSB_T, mSB_F, mca_nil, mca_i, mca_l, mca_r, mca_u, mca_x, mcat_i, mcat_l, mcat_r, mcat_u, mcat_x, mK_some, mK_none, va_rf_s, va_rf_n, lgc_eq, lgc_lt, lgc_gt, lgc_ge, lgc_le, mrd_104, mrd_105, mrd_106, mrd_107, true_and, and_true, and_self, false_and, and_false, true_or, or_true, false_or, or_false, not_true_eq_false, not_false_eq_true, mgb, mga, mgr, mN, reduceCtorEq, ↓reduceIte, eq_self, ge_iff_le, gt_iff_lt, hk_si, hk_sj, hk_sr, hl_si, hl_sj, hl_sr, hn_si, hn_sj, hn_sr, hs_si, hs_sj, hs_sr, hi_sj, hi_sr, hj_si, hj_sr, hr_si, hr_sj, hi_si, hj_sj, hr_sr, mg_si, mg_sj, mg_sr, Nat.reduceAdd, Nat.reduceMul, Nat.reduceSub, Nat.reduceLT, Nat.reduceGT, Nat.reduceEqDiff, Nat.reduceLeDiff, Nat.left_eq_add, Nat.add_eq_left, Nat.reduceMod, Nat.reduceDiv, Nat.succ_ne_self, g, e]
theorem c_357t (F : RF h) (e : (mh_i h 81 68 = 0) = False) : ∃ h' x, fG rcW h h' ∧ mh_i h' 81 67 = mh_i h 81 67 ∧ mh_i h' 81 68 = mh_i h 81 68 ∧ ∀ Q, mcall (d + 1) 357 [.ref 81, .long v] h Q = Q (some (.long x)) h' := by
  have g := F.g 81 14 70 (by decide +kernel)
  have c356 := c_356t (d := d) (w := 1) F e
  by_cases c1 : v.toInt < -2147483648 ∨ 2147483647 < v.toInt
  · refine ⟨_, 0, trH_f (w := mh_i h 81 68), by rw [hi_si, if_neg (by omega)], by rw [hi_si, if_pos ⟨rfl, rfl⟩], fun Q => ?_⟩
    clear F
    by_cases c2 : v.toInt < -2147483648
    · have l1 : (v < -2147483648) = True := eq_true (by rw [lt64, lit_lo]; exact c2)
      simp (disch := omega) only [s_357_0, s_357_1, s_357_4, s_357_5, s_357_8, s_357_9, s_357_12, s_357_13, s_357_16, s_357_17, s_357_18, s_357_21, s_357_24, s_357_25, e_357, mv_i_1, mv_l_1, mv_a_1, mv_a_2, mv_a_3, mk2_n, mk2_i, mk2_l, mk2_a, mk2_u, mk2_x, mB_T, mB_F, mS_cons, mS_nil, mSB_T, mSB_F, mca_nil, mca_i, mca_l, mca_r, mca_u, mca_x, mcat_i, mcat_l, mcat_r, mcat_u, mcat_x, mK_some, mK_none, va_rf_s, va_rf_n, lgc_eq, lgc_lt, lgc_gt, lgc_ge, lgc_le, mrd_104, mrd_105, mrd_106, mrd_107, true_and, and_true, and_self, false_and, and_false, true_or, or_true, false_or, or_false, not_true_eq_false, not_false_eq_true, mgb, mga, mgr, mN, reduceCtorEq, ↓reduceIte, eq_self, ge_iff_le, gt_iff_lt, hk_si, hk_sj, hk_sr, hl_si, hl_sj, hl_sr, hn_si, hn_sj, hn_sr, hs_si, hs_sj, hs_sr, hi_sj, hi_sr, hj_si, hj_sr, hr_si, hr_sj, hi_si, hj_sj, hr_sr, mg_si, mg_sj, mg_sr, Nat.reduceAdd, Nat.reduceMul, Nat.reduceSub, Nat.reduceLT, Nat.reduceGT, Nat.reduceEqDiff, Nat.reduceLeDiff, Nat.left_eq_add, Nat.add_eq_left, Nat.reduceMod, Nat.reduceDiv, Nat.succ_ne_self, g, l1, c356]
    · have l1 : (v < -2147483648) = False := eq_false (by rw [lt64, lit_lo]; exact c2)
      have l2 : (v ≤ 2147483647) = False := eq_false (by rw [le64, lit_hi]; omega)
      simp (disch := omega) only [s_357_0, s_357_1, s_357_4, s_357_5, s_357_8, s_357_9, s_357_12, s_357_13, s_357_16, s_357_17, s_357_18, s_357_21, s_357_24, s_357_25, e_357, mv_i_1, mv_l_1, mv_a_1, mv_a_2, mv_a_3, mk2_n, mk2_i, mk2_l, mk2_a, mk2_u, mk2_x, mB_T, mB_F, mS_cons, mS_nil, mSB_T, mSB_F, mca_nil, mca_i, mca_l, mca_r, mca_u, mca_x, mcat_i, mcat_l, mcat_r, mcat_u, mcat_x, mK_some, mK_none, va_rf_s, va_rf_n, lgc_eq, lgc_lt, lgc_gt, lgc_ge, lgc_le, mrd_104, mrd_105, mrd_106, mrd_107, true_and, and_true, and_self, false_and, and_false, true_or, or_true, false_or, or_false, not_true_eq_false, not_false_eq_true, mgb, mga, mgr, mN, reduceCtorEq, ↓reduceIte, eq_self, ge_iff_le, gt_iff_lt, hk_si, hk_sj, hk_sr, hl_si, hl_sj, hl_sr, hn_si, hn_sj, hn_sr, hs_si, hs_sj, hs_sr, hi_sj, hi_sr, hj_si, hj_sr, hr_si, hr_sj, hi_si, hj_sj, hr_sr, mg_si, mg_sj, mg_sr, Nat.reduceAdd, Nat.reduceMul, Nat.reduceSub, Nat.reduceLT, Nat.reduceGT, Nat.reduceEqDiff, Nat.reduceLeDiff, Nat.left_eq_add, Nat.add_eq_left, Nat.reduceMod, Nat.reduceDiv, Nat.succ_ne_self, g, l1, l2, c356]
  · refine ⟨h, v, fG_id, rfl, rfl, fun Q => ?_⟩
    have l1 : (v < -2147483648) = False := eq_false (by rw [lt64, lit_lo]; omega)
    have l2 : (v ≤ 2147483647) = True := eq_true (by rw [le64, lit_hi]; omega)
    clear F
    simp (disch := omega) only [s_357_0, s_357_1, s_357_4, s_357_5, s_357_8, s_357_9, s_357_12, s_357_13, s_357_16, s_357_17, s_357_18, s_357_21, s_357_24, s_357_25, e_357, mv_i_1, mv_l_1, mv_a_1, mv_a_2, mv_a_3, mk2_n, mk2_i, mk2_l, mk2_a, mk2_u, mk2_x, mB_T, mB_F, mS_cons, mS_nil, mSB_T, mSB_F, mca_nil, mca_i, mca_l, mca_r, mca_u, mca_x, mcat_i, mcat_l, mcat_r, mcat_u, mcat_x, mK_some, mK_none, va_rf_s, va_rf_n, lgc_eq, lgc_lt, lgc_gt, lgc_ge, lgc_le, mrd_104, mrd_105, mrd_106, mrd_107, true_and, and_true, and_self, false_and, and_false, true_or, or_true, false_or, or_false, not_true_eq_false, not_false_eq_true, mgb, mga, mgr, mN, reduceCtorEq, ↓reduceIte, eq_self, ge_iff_le, gt_iff_lt, hk_si, hk_sj, hk_sr, hl_si, hl_sj, hl_sr, hn_si, hn_sj, hn_sr, hs_si, hs_sj, hs_sr, hi_sj, hi_sr, hj_si, hj_sr, hr_si, hr_sj, hi_si, hj_sj, hr_sr, mg_si, mg_sj, mg_sr, Nat.reduceAdd, Nat.reduceMul, Nat.reduceSub, Nat.reduceLT, Nat.reduceGT, Nat.reduceEqDiff, Nat.reduceLeDiff, Nat.left_eq_add, Nat.add_eq_left, Nat.reduceMod, Nat.reduceDiv, Nat.succ_ne_self, g, l1, l2]
theorem U0_br (hA : A.n ≤ 12 ∧ A.a ≤ 6) {n : Nat} {cs r : tr} (i0 : U0 p gv sN en aR A V P N cs) (i1 : U0 p gv sN en aR A V P N (tT cs)) (i2 : U1 p gv sN en aR A V P N (tT cs)) : U0 p gv sN en aR A V P N (.branch n cs r) := by
  intro h D k c R hV hP hN hn hw hx hk hD e8 e7 hc
  rw [nd_B] at hn
  rw [ts_B] at hk hc
  rw [th_B] at hD
  obtain ⟨n1, n2, n3, n4, n5⟩ := hn
  rw [xA_B] at hx
  obtain ⟨x14, xa, xb⟩ := hx
  obtain ⟨d, rfl⟩ : ∃ d, D = d + 4 := ⟨D - 4, by omega⟩
  have F := R.F
  have g := F.g 81 14 70 (by decide +kernel)
  have r19 := F.f 81 19 93 (by decide +kernel)
  have k93 := (F.g 93 102 26000 (by decide +kernel)).1
  have n93 := (F.g 93 102 26000 (by decide +kernel)).2
  have l93 := F.l 93 102 26000 (by decide +kernel)
  have r21 := F.f 81 21 95 (by decide +kernel)
  have g95 := F.g 95 100 26000 (by decide +kernel)
  have l95 := F.l 95 100 26000 (by decide +kernel)
  have r23 := F.f 81 23 97 (by decide +kernel)
  have g97 := F.g 97 100 26000 (by decide +kernel)
  have l97 := F.l 97 100 26000 (by decide +kernel)
  have le0 : ((0 : Int32) ≤ 0) = True := by decide
  have e00 : ((0 : Int32) = 0) = True := by decide
  have ei : Int32.ofNat k + 1 = Int32.ofNat (k + 1) := nn_add (a := k) (b := 1)
  have ei2 : Int32.ofNat k + 2 = Int32.ofNat (k + 2) := nn_add (a := k) (b := 2)
  by_cases k12 : tK n = 12
  · have w' := w_12 k12 hw
    rw [xv_12 k12]
    refine ⟨h, (mh_i h 95 k).toInt64, fG_id, ⟨e7, w', e8, by rw [Int32.toInt_toInt64]; exact n2⟩, fun Q => ?_⟩
    have n1' : mh_i h 93 k = 12 := by rw [n1, k12]; rfl
    clear R F i0 i1 i2 hw
    simp (disch := omega) only [s_360_0, s_360_1, s_360_4, s_360_7, s_360_8, s_360_9, s_360_10, s_360_13, s_360_14, s_360_15, s_360_48, s_360_49, s_360_52, s_360_53, s_360_54, s_360_55, s_360_56, s_360_57, s_360_60, s_360_61, s_360_64, s_360_65, s_360_66, s_360_69, s_360_70, s_360_71, s_360_74, s_360_75, s_360_76, s_360_77, s_360_78, s_360_79, s_360_80, s_360_81, s_360_82, s_360_83, s_360_84, s_360_87, s_360_90, s_360_91, s_360_92, s_360_95, s_360_98, s_360_99, s_360_102, s_360_103, s_360_106, s_360_107, s_360_108, s_360_109, s_360_110, s_360_111, s_360_112, s_360_113, s_360_114, s_360_115, s_360_118, s_360_119, s_360_122, s_360_123, s_360_124, s_360_127, s_360_128, s_360_129, s_360_132, s_360_133, s_360_134, s_360_135, s_360_138, s_360_139, s_360_140, s_360_143, s_360_144, s_360_145, s_360_146, s_360_147, s_360_150, s_360_151, s_360_152, s_360_155, s_360_156, s_360_157, s_360_158, s_360_159, s_360_162, s_360_163, s_360_164, s_360_167, s_360_168, s_360_171, s_360_172, s_360_173, s_360_174, s_360_175, s_360_176, s_360_177, s_360_178, s_360_179, s_360_180, s_360_181, s_360_184, s_360_185, s_360_186, s_360_187, s_360_190, s_360_192, s_360_194, s_360_195, s_360_196, s_360_199, s_360_202, s_360_203, s_360_206, s_360_209, s_360_210, s_360_212, s_360_213, s_360_214, s_360_217, s_360_219, s_360_220, s_360_223, s_360_226, s_360_227, s_360_228, s_360_231, s_360_233, s_360_234, s_360_235, s_360_237, s_360_240, s_360_241, s_360_242, s_360_244, s_360_247, s_360_249, s_360_252, s_360_253, e_360, mv_i_1, mv_l_1, mv_a_1, mv_a_2, mv_a_3, mk2_n, mk2_i, mk2_l, mk2_a, mk2_u, mk2_x, mB_T, mB_F, mS_cons, mS_nil, mSB_T, mSB_F, mca_nil, mca_i, mca_l, mca_r, mca_u, mca_x, mcat_i, mcat_l, mcat_r, mcat_u, mcat_x, mK_some, mK_none, va_rf_s, va_rf_n, lgc_eq, lgc_lt, lgc_gt, lgc_ge, lgc_le, mrd_104, mrd_105, mrd_106, mrd_107, true_and, and_true, and_self, false_and, and_false, true_or, or_true, false_or, or_false, not_true_eq_false, not_false_eq_true, mgb, mga, mgr, mN, reduceCtorEq, ↓reduceIte, eq_self, ge_iff_le, gt_iff_lt, hk_si, hk_sj, hk_sr, hl_si, hl_sj, hl_sr, hn_si, hn_sj, hn_sr, hs_si, hs_sj, hs_sr, hi_sj, hi_sr, hj_si, hj_sr, hr_si, hr_sj, hi_si, hj_sj, hr_sr, mg_si, mg_sj, mg_sr, Nat.reduceAdd, Nat.reduceMul, Nat.reduceSub, Nat.reduceLT, Nat.reduceGT, Nat.reduceEqDiff, Nat.reduceLeDiff, Nat.left_eq_add, Nat.add_eq_left, Nat.reduceMod, Nat.reduceDiv, Nat.succ_ne_self, g, e8, le0, r19, k93, n93, l93, n1', r21, g95, l95, nn_mxT, nn_clamp]
  by_cases k13 : tK n = 13
  · obtain ⟨w1, w2⟩ := w_13 k13 hw
    rw [xv_13 k13]
    rw [← n2] at w1 w2
    obtain ⟨e, he, m1, m2, c355⟩ := c_355 (d := d + 3) R w1
    have r61 := F.f 81 61 2640 (by decide +kernel)
    have g40 := F.g 2640 100 12 (by decide +kernel)
    have l40 := F.l 2640 100 12 (by decide +kernel)
    have r36 := F.f 81 36 107 (by decide +kernel)
    have g107 := F.g 107 100 10040 (by decide +kernel)
    have l107 := F.l 107 100 10040 (by decide +kernel)
    refine ⟨h, (mh_i h 2640 (en (mh_i h 95 k).toInt)).toInt64, fG_id, ⟨e7, i32_I _, e8, by rw [Int32.toInt_toInt64, ← hV, n2]⟩, fun Q => ?_⟩
    have n1' : mh_i h 93 k = 13 := by rw [n1, k13]; rfl
    have m12 : ((13 : Int32) = 12) = False := by decide
    clear R F i0 i1 i2 hw
    simp (disch := omega) only [s_360_0, s_360_1, s_360_4, s_360_7, s_360_8, s_360_9, s_360_10, s_360_13, s_360_14, s_360_15, s_360_48, s_360_49, s_360_52, s_360_53, s_360_54, s_360_55, s_360_56, s_360_57, s_360_60, s_360_61, s_360_64, s_360_65, s_360_66, s_360_69, s_360_70, s_360_71, s_360_74, s_360_75, s_360_76, s_360_77, s_360_78, s_360_79, s_360_80, s_360_81, s_360_82, s_360_83, s_360_84, s_360_87, s_360_90, s_360_91, s_360_92, s_360_95, s_360_98, s_360_99, s_360_102, s_360_103, s_360_106, s_360_107, s_360_108, s_360_109, s_360_110, s_360_111, s_360_112, s_360_113, s_360_114, s_360_115, s_360_118, s_360_119, s_360_122, s_360_123, s_360_124, s_360_127, s_360_128, s_360_129, s_360_132, s_360_133, s_360_134, s_360_135, s_360_138, s_360_139, s_360_140, s_360_143, s_360_144, s_360_145, s_360_146, s_360_147, s_360_150, s_360_151, s_360_152, s_360_155, s_360_156, s_360_157, s_360_158, s_360_159, s_360_162, s_360_163, s_360_164, s_360_167, s_360_168, s_360_171, s_360_172, s_360_173, s_360_174, s_360_175, s_360_176, s_360_177, s_360_178, s_360_179, s_360_180, s_360_181, s_360_184, s_360_185, s_360_186, s_360_187, s_360_190, s_360_192, s_360_194, s_360_195, s_360_196, s_360_199, s_360_202, s_360_203, s_360_206, s_360_209, s_360_210, s_360_212, s_360_213, s_360_214, s_360_217, s_360_219, s_360_220, s_360_223, s_360_226, s_360_227, s_360_228, s_360_231, s_360_233, s_360_234, s_360_235, s_360_237, s_360_240, s_360_241, s_360_242, s_360_244, s_360_247, s_360_249, s_360_252, s_360_253, e_360, mv_i_1, mv_l_1, mv_a_1, mv_a_2, mv_a_3, mk2_n, mk2_i, mk2_l, mk2_a, mk2_u, mk2_x, mB_T, mB_F, mS_cons, mS_nil, mSB_T, mSB_F, mca_nil, mca_i, mca_l, mca_r, mca_u, mca_x, mcat_i, mcat_l, mcat_r, mcat_u, mcat_x, mK_some, mK_none, va_rf_s, va_rf_n, lgc_eq, lgc_lt, lgc_gt, lgc_ge, lgc_le, mrd_104, mrd_105, mrd_106, mrd_107, true_and, and_true, and_self, false_and, and_false, true_or, or_true, false_or, or_false, not_true_eq_false, not_false_eq_true, mgb, mga, mgr, mN, reduceCtorEq, ↓reduceIte, eq_self, ge_iff_le, gt_iff_lt, hk_si, hk_sj, hk_sr, hl_si, hl_sj, hl_sr, hn_si, hn_sj, hn_sr, hs_si, hs_sj, hs_sr, hi_sj, hi_sr, hj_si, hj_sr, hr_si, hr_sj, hi_si, hj_sj, hr_sr, mg_si, mg_sj, mg_sr, Nat.reduceAdd, Nat.reduceMul, Nat.reduceSub, Nat.reduceLT, Nat.reduceGT, Nat.reduceEqDiff, Nat.reduceLeDiff, Nat.left_eq_add, Nat.add_eq_left, Nat.reduceMod, Nat.reduceDiv, Nat.succ_ne_self, g, e8, le0, r19, k93, n93, l93, n1', m12, r21, g95, l95, r61, g40, l40, r36, g107, l107, c355, m1, nn_mxT, nn_clamp]
  by_cases k14 : tK n = 14
  · obtain ⟨m, cs', r', rfl, v1, v2, v3, v4, v5, v6⟩ := w_14 k14 hw
    rw [xv_14 (cs' := cs') k14]
    have i1' : U0 p gv sN en aR A V P N r' := i1
    rw [nd_B] at n4
    obtain ⟨y1, y2, y3, y4, y5⟩ := n4
    rw [ts_B] at hk hc
    rw [th_B] at hD
    rw [xA_B] at xa
    have xr' := xa.2.2
    have x14' : aR (tV m) = A.rm (en (tV m)) := x14 k14
    have n1' : mh_i h 93 k = 14 := by rw [n1, k14]; rfl
    have m12 : ((14 : Int32) = 12) = False := by decide
    have m13 : ((14 : Int32) = 13) = False := by decide
    have c334 := c_334 (d := d + 2) (k := k) F (by omega) y3
    have ks : k + 1 + (1 + ts cs') = k + 1 + 1 + ts cs' := by omega
    rw [ks] at c334
    obtain ⟨h1, x, f1, o1, run1⟩ := i1' h (d + 2) (k + 1 + 1 + ts cs') c R hV hP hN y5 v6 xr' (by omega) (by omega) e8 e7 (by omega)
    have R1 := RRU_G f1 R
    have j95 : (mh_i h1 95 (k + 1)).toInt = tV m := by rw [rc_r f1 (by omega)]; exact y2
    obtain ⟨q, eq⟩ : ∃ q, xv en V P A.rm N gv r' none c = q := ⟨_, rfl⟩
    rw [eq] at o1 ⊢
    obtain ⟨h2, y, f2, u7, ou, run2⟩ := c_359 (d := d + 2) (j := k + 1) R1 (by omega) (by rw [j95]; exact v2) (by rw [j95]; omega) (by rw [j95, x14']; exact v5) o1 g run1
    rw [j95, x14'] at ou
    have g1 : mg h2 81 14 := by rw [fG_me f2]; exact R1.F.g 81 14 70 (by decide +kernel)
    obtain ⟨o7, o8⟩ := o1
    cases hq : q.1 with
    | none =>
      rw [hq] at o8 ou
      have ou : h2 = h1 := ou
      subst ou
      have ex : ∀ f, x_bi q f = q := fun f => by unfold x_bi; rw [hq]
      rw [ex]
      refine ⟨h2, 0, f1, ⟨o7, by rw [hq]; exact o8⟩, fun Q => ?_⟩
      have t2 : (mh_i h2 81 68 ≤ 0) = False := eq_false (fun z => by rw [o8.2, Int32.le_iff_toInt_le] at z; have := o8.1; rw [Int32.lt_iff_toInt_lt] at this; omega)
      clear R R1 F i0 i1 i1' i2 hw o7 o8 run1
      simp (disch := omega) only [s_360_0, s_360_1, s_360_4, s_360_7, s_360_8, s_360_9, s_360_10, s_360_13, s_360_14, s_360_15, s_360_48, s_360_49, s_360_52, s_360_53, s_360_54, s_360_55, s_360_56, s_360_57, s_360_60, s_360_61, s_360_64, s_360_65, s_360_66, s_360_69, s_360_70, s_360_71, s_360_74, s_360_75, s_360_76, s_360_77, s_360_78, s_360_79, s_360_80, s_360_81, s_360_82, s_360_83, s_360_84, s_360_87, s_360_90, s_360_91, s_360_92, s_360_95, s_360_98, s_360_99, s_360_102, s_360_103, s_360_106, s_360_107, s_360_108, s_360_109, s_360_110, s_360_111, s_360_112, s_360_113, s_360_114, s_360_115, s_360_118, s_360_119, s_360_122, s_360_123, s_360_124, s_360_127, s_360_128, s_360_129, s_360_132, s_360_133, s_360_134, s_360_135, s_360_138, s_360_139, s_360_140, s_360_143, s_360_144, s_360_145, s_360_146, s_360_147, s_360_150, s_360_151, s_360_152, s_360_155, s_360_156, s_360_157, s_360_158, s_360_159, s_360_162, s_360_163, s_360_164, s_360_167, s_360_168, s_360_171, s_360_172, s_360_173, s_360_174, s_360_175, s_360_176, s_360_177, s_360_178, s_360_179, s_360_180, s_360_181, s_360_184, s_360_185, s_360_186, s_360_187, s_360_190, s_360_192, s_360_194, s_360_195, s_360_196, s_360_199, s_360_202, s_360_203, s_360_206, s_360_209, s_360_210, s_360_212, s_360_213, s_360_214, s_360_217, s_360_219, s_360_220, s_360_223, s_360_226, s_360_227, s_360_228, s_360_231, s_360_233, s_360_234, s_360_235, s_360_237, s_360_240, s_360_241, s_360_242, s_360_244, s_360_247, s_360_249, s_360_252, s_360_253, e_360, mv_i_1, mv_l_1, mv_a_1, mv_a_2, mv_a_3, mk2_n, mk2_i, mk2_l, mk2_a, mk2_u, mk2_x, mB_T, mB_F, mS_cons, mS_nil, mSB_T, mSB_F, mca_nil, mca_i, mca_l, mca_r, mca_u, mca_x, mcat_i, mcat_l, mcat_r, mcat_u, mcat_x, mK_some, mK_none, va_rf_s, va_rf_n, lgc_eq, lgc_lt, lgc_gt, lgc_ge, lgc_le, mrd_104, mrd_105, mrd_106, mrd_107, true_and, and_true, and_self, false_and, and_false, true_or, or_true, false_or, or_false, not_true_eq_false, not_false_eq_true, mgb, mga, mgr, mN, reduceCtorEq, ↓reduceIte, eq_self, ge_iff_le, gt_iff_lt, hk_si, hk_sj, hk_sr, hl_si, hl_sj, hl_sr, hn_si, hn_sj, hn_sr, hs_si, hs_sj, hs_sr, hi_sj, hi_sr, hj_si, hj_sr, hr_si, hr_sj, hi_si, hj_sj, hr_sr, mg_si, mg_sj, mg_sr, Nat.reduceAdd, Nat.reduceMul, Nat.reduceSub, Nat.reduceLT, Nat.reduceGT, Nat.reduceEqDiff, Nat.reduceLeDiff, Nat.left_eq_add, Nat.add_eq_left, Nat.reduceMod, Nat.reduceDiv, Nat.succ_ne_self, g, e8, le0, r19, k93, n93, l93, n1', m12, m13, ei, c334, run2, g1, t2, nn_mxT, nn_clamp]
    | some w =>
      rw [hq] at o8 ou
      have ex : ∀ f, x_bi q f = f w q.2.2 := fun f => by unfold x_bi; rw [hq]
      rw [ex]
      show ∃ h' x, fG rcW h h' ∧ uo (if w < 0 ∨ (A.rm (en (tV m)) : Int) ≤ w then x_tr 4 q.2.2 else x_ok (P (64 * en (tV m) + w.toNat)).toInt q.2.2) h' x ∧ _
      by_cases cc : w < 0 ∨ (A.rm (en (tV m)) : Int) ≤ w
      · rw [if_pos cc]
        have ou : mh_i h2 81 68 = 4 := by
          have ou : if w < 0 ∨ (A.rm (en (tV m)) : Int) ≤ w then mh_i h2 81 68 = 4 else _ := ou
          rw [if_pos cc] at ou
          exact ou
        refine ⟨h2, 0, fG_t f1 f2, ⟨u7.trans o7, (by decide : (0 : Int32) < 4), ou⟩, fun Q => ?_⟩
        have t2 : ((4 : Int32) ≤ 0) = False := by decide
        clear R R1 F i0 i1 i1' i2 hw o7 o8 run1
        simp (disch := omega) only [s_360_0, s_360_1, s_360_4, s_360_7, s_360_8, s_360_9, s_360_10, s_360_13, s_360_14, s_360_15, s_360_48, s_360_49, s_360_52, s_360_53, s_360_54, s_360_55, s_360_56, s_360_57, s_360_60, s_360_61, s_360_64, s_360_65, s_360_66, s_360_69, s_360_70, s_360_71, s_360_74, s_360_75, s_360_76, s_360_77, s_360_78, s_360_79, s_360_80, s_360_81, s_360_82, s_360_83, s_360_84, s_360_87, s_360_90, s_360_91, s_360_92, s_360_95, s_360_98, s_360_99, s_360_102, s_360_103, s_360_106, s_360_107, s_360_108, s_360_109, s_360_110, s_360_111, s_360_112, s_360_113, s_360_114, s_360_115, s_360_118, s_360_119, s_360_122, s_360_123, s_360_124, s_360_127, s_360_128, s_360_129, s_360_132, s_360_133, s_360_134, s_360_135, s_360_138, s_360_139, s_360_140, s_360_143, s_360_144, s_360_145, s_360_146, s_360_147, s_360_150, s_360_151, s_360_152, s_360_155, s_360_156, s_360_157, s_360_158, s_360_159, s_360_162, s_360_163, s_360_164, s_360_167, s_360_168, s_360_171, s_360_172, s_360_173, s_360_174, s_360_175, s_360_176, s_360_177, s_360_178, s_360_179, s_360_180, s_360_181, s_360_184, s_360_185, s_360_186, s_360_187, s_360_190, s_360_192, s_360_194, s_360_195, s_360_196, s_360_199, s_360_202, s_360_203, s_360_206, s_360_209, s_360_210, s_360_212, s_360_213, s_360_214, s_360_217, s_360_219, s_360_220, s_360_223, s_360_226, s_360_227, s_360_228, s_360_231, s_360_233, s_360_234, s_360_235, s_360_237, s_360_240, s_360_241, s_360_242, s_360_244, s_360_247, s_360_249, s_360_252, s_360_253, e_360, mv_i_1, mv_l_1, mv_a_1, mv_a_2, mv_a_3, mk2_n, mk2_i, mk2_l, mk2_a, mk2_u, mk2_x, mB_T, mB_F, mS_cons, mS_nil, mSB_T, mSB_F, mca_nil, mca_i, mca_l, mca_r, mca_u, mca_x, mcat_i, mcat_l, mcat_r, mcat_u, mcat_x, mK_some, mK_none, va_rf_s, va_rf_n, lgc_eq, lgc_lt, lgc_gt, lgc_ge, lgc_le, mrd_104, mrd_105, mrd_106, mrd_107, true_and, and_true, and_self, false_and, and_false, true_or, or_true, false_or, or_false, not_true_eq_false, not_false_eq_true, mgb, mga, mgr, mN, reduceCtorEq, ↓reduceIte, eq_self, ge_iff_le, gt_iff_lt, hk_si, hk_sj, hk_sr, hl_si, hl_sj, hl_sr, hn_si, hn_sj, hn_sr, hs_si, hs_sj, hs_sr, hi_sj, hi_sr, hj_si, hj_sr, hr_si, hr_sj, hi_si, hj_sj, hr_sr, mg_si, mg_sj, mg_sr, Nat.reduceAdd, Nat.reduceMul, Nat.reduceSub, Nat.reduceLT, Nat.reduceGT, Nat.reduceEqDiff, Nat.reduceLeDiff, Nat.left_eq_add, Nat.add_eq_left, Nat.reduceMod, Nat.reduceDiv, Nat.succ_ne_self, g, e8, le0, r19, k93, n93, l93, n1', m12, m13, ei, c334, run2, g1, ou, t2, nn_mxT, nn_clamp]
      · rw [if_neg cc]
        have ou : h2 = h1 ∧ y = Int32.ofNat (64 * en (tV m) + w.toNat) := by
          have ou : if w < 0 ∨ (A.rm (en (tV m)) : Int) ≤ w then _ else h2 = h1 ∧ y = Int32.ofNat (64 * en (tV m) + w.toNat) := ou
          rw [if_neg cc] at ou
          exact ou
        obtain ⟨ou, oy⟩ := ou
        subst ou
        subst oy
        have r62 := R1.F.f 81 62 2641 (by decide +kernel)
        have g41 := R1.F.g 2641 100 384 (by decide +kernel)
        have l41 := R1.F.l 2641 100 384 (by decide +kernel)
        refine ⟨h2, (mh_i h2 2641 (64 * en (tV m) + w.toNat)).toInt64, f1, ⟨o7, i32_I _, o8.2.1, by rw [Int32.toInt_toInt64, rc_r f1 (by omega : 2641 ≠ 81), hP]⟩, fun Q => ?_⟩
        have o9 := o8.2.1
        clear R R1 F i0 i1 i1' i2 hw o7 o8 run1
        simp (disch := omega) only [s_360_0, s_360_1, s_360_4, s_360_7, s_360_8, s_360_9, s_360_10, s_360_13, s_360_14, s_360_15, s_360_48, s_360_49, s_360_52, s_360_53, s_360_54, s_360_55, s_360_56, s_360_57, s_360_60, s_360_61, s_360_64, s_360_65, s_360_66, s_360_69, s_360_70, s_360_71, s_360_74, s_360_75, s_360_76, s_360_77, s_360_78, s_360_79, s_360_80, s_360_81, s_360_82, s_360_83, s_360_84, s_360_87, s_360_90, s_360_91, s_360_92, s_360_95, s_360_98, s_360_99, s_360_102, s_360_103, s_360_106, s_360_107, s_360_108, s_360_109, s_360_110, s_360_111, s_360_112, s_360_113, s_360_114, s_360_115, s_360_118, s_360_119, s_360_122, s_360_123, s_360_124, s_360_127, s_360_128, s_360_129, s_360_132, s_360_133, s_360_134, s_360_135, s_360_138, s_360_139, s_360_140, s_360_143, s_360_144, s_360_145, s_360_146, s_360_147, s_360_150, s_360_151, s_360_152, s_360_155, s_360_156, s_360_157, s_360_158, s_360_159, s_360_162, s_360_163, s_360_164, s_360_167, s_360_168, s_360_171, s_360_172, s_360_173, s_360_174, s_360_175, s_360_176, s_360_177, s_360_178, s_360_179, s_360_180, s_360_181, s_360_184, s_360_185, s_360_186, s_360_187, s_360_190, s_360_192, s_360_194, s_360_195, s_360_196, s_360_199, s_360_202, s_360_203, s_360_206, s_360_209, s_360_210, s_360_212, s_360_213, s_360_214, s_360_217, s_360_219, s_360_220, s_360_223, s_360_226, s_360_227, s_360_228, s_360_231, s_360_233, s_360_234, s_360_235, s_360_237, s_360_240, s_360_241, s_360_242, s_360_244, s_360_247, s_360_249, s_360_252, s_360_253, e_360, mv_i_1, mv_l_1, mv_a_1, mv_a_2, mv_a_3, mk2_n, mk2_i, mk2_l, mk2_a, mk2_u, mk2_x, mB_T, mB_F, mS_cons, mS_nil, mSB_T, mSB_F, mca_nil, mca_i, mca_l, mca_r, mca_u, mca_x, mcat_i, mcat_l, mcat_r, mcat_u, mcat_x, mK_some, mK_none, va_rf_s, va_rf_n, lgc_eq, lgc_lt, lgc_gt, lgc_ge, lgc_le, mrd_104, mrd_105, mrd_106, mrd_107, true_and, and_true, and_self, false_and, and_false, true_or, or_true, false_or, or_false, not_true_eq_false, not_false_eq_true, mgb, mga, mgr, mN, reduceCtorEq, ↓reduceIte, eq_self, ge_iff_le, gt_iff_lt, hk_si, hk_sj, hk_sr, hl_si, hl_sj, hl_sr, hn_si, hn_sj, hn_sr, hs_si, hs_sj, hs_sr, hi_sj, hi_sr, hj_si, hj_sr, hr_si, hr_sj, hi_si, hj_sj, hr_sr, mg_si, mg_sj, mg_sr, Nat.reduceAdd, Nat.reduceMul, Nat.reduceSub, Nat.reduceLT, Nat.reduceGT, Nat.reduceEqDiff, Nat.reduceLeDiff, Nat.left_eq_add, Nat.add_eq_left, Nat.reduceMod, Nat.reduceDiv, Nat.succ_ne_self, g, e8, le0, r19, k93, n93, l93, n1', m12, m13, ei, c334, run2, g1, o9, r62, g41, l41, nn_mxT, nn_clamp]
  by_cases k15 : tK n = 15
  · have v6 := w_15 k15 hw
    rw [xv_15 k15]
    obtain ⟨h1, x, f1, o1, run1⟩ := i0 h (d + 3) (k + 1) c R hV hP hN n4 v6 xa (by omega) (by omega) e8 e7 (by omega)
    have R1 := RRU_G f1 R
    have g1 : mg h1 81 14 := R1.F.g 81 14 70 (by decide +kernel)
    have n1' : mh_i h 93 k = 15 := by rw [n1, k15]; rfl
    have m12 : ((15 : Int32) = 12) = False := by decide
    have m13 : ((15 : Int32) = 13) = False := by decide
    have m14 : ((15 : Int32) = 14) = False := by decide
    obtain ⟨q, eq⟩ : ∃ q, xv en V P A.rm N gv cs none c = q := ⟨_, rfl⟩
    rw [eq] at o1 ⊢
    obtain ⟨o7, o8⟩ := o1
    cases hq : q.1 with
    | none =>
      rw [hq] at o8
      have ex : ∀ f, x_bi q f = q := fun f => by unfold x_bi; rw [hq]
      rw [ex]
      have t0 : (mh_i h1 81 68 = 0) = False := eq_false (fun z => by rw [o8.2] at z; rw [z] at o8; exact absurd o8.1 (by decide))
      obtain ⟨h2, y, f2, u7, u8, run2⟩ := c_357t (d := d + 2) (v := -x) R1.F t0
      refine ⟨h2, y, fG_t f1 f2, ⟨u7.trans o7, by rw [hq]; exact ⟨o8.1, u8.trans o8.2⟩⟩, fun Q => ?_⟩
      clear R R1 F i0 i1 i2 hw o7 o8
      simp (disch := omega) only [s_360_0, s_360_1, s_360_4, s_360_7, s_360_8, s_360_9, s_360_10, s_360_13, s_360_14, s_360_15, s_360_48, s_360_49, s_360_52, s_360_53, s_360_54, s_360_55, s_360_56, s_360_57, s_360_60, s_360_61, s_360_64, s_360_65, s_360_66, s_360_69, s_360_70, s_360_71, s_360_74, s_360_75, s_360_76, s_360_77, s_360_78, s_360_79, s_360_80, s_360_81, s_360_82, s_360_83, s_360_84, s_360_87, s_360_90, s_360_91, s_360_92, s_360_95, s_360_98, s_360_99, s_360_102, s_360_103, s_360_106, s_360_107, s_360_108, s_360_109, s_360_110, s_360_111, s_360_112, s_360_113, s_360_114, s_360_115, s_360_118, s_360_119, s_360_122, s_360_123, s_360_124, s_360_127, s_360_128, s_360_129, s_360_132, s_360_133, s_360_134, s_360_135, s_360_138, s_360_139, s_360_140, s_360_143, s_360_144, s_360_145, s_360_146, s_360_147, s_360_150, s_360_151, s_360_152, s_360_155, s_360_156, s_360_157, s_360_158, s_360_159, s_360_162, s_360_163, s_360_164, s_360_167, s_360_168, s_360_171, s_360_172, s_360_173, s_360_174, s_360_175, s_360_176, s_360_177, s_360_178, s_360_179, s_360_180, s_360_181, s_360_184, s_360_185, s_360_186, s_360_187, s_360_190, s_360_192, s_360_194, s_360_195, s_360_196, s_360_199, s_360_202, s_360_203, s_360_206, s_360_209, s_360_210, s_360_212, s_360_213, s_360_214, s_360_217, s_360_219, s_360_220, s_360_223, s_360_226, s_360_227, s_360_228, s_360_231, s_360_233, s_360_234, s_360_235, s_360_237, s_360_240, s_360_241, s_360_242, s_360_244, s_360_247, s_360_249, s_360_252, s_360_253, e_360, mv_i_1, mv_l_1, mv_a_1, mv_a_2, mv_a_3, mk2_n, mk2_i, mk2_l, mk2_a, mk2_u, mk2_x, mB_T, mB_F, mS_cons, mS_nil, mSB_T, mSB_F, mca_nil, mca_i, mca_l, mca_r, mca_u, mca_x, mcat_i, mcat_l, mcat_r, mcat_u, mcat_x, mK_some, mK_none, va_rf_s, va_rf_n, lgc_eq, lgc_lt, lgc_gt, lgc_ge, lgc_le, mrd_104, mrd_105, mrd_106, mrd_107, true_and, and_true, and_self, false_and, and_false, true_or, or_true, false_or, or_false, not_true_eq_false, not_false_eq_true, mgb, mga, mgr, mN, reduceCtorEq, ↓reduceIte, eq_self, ge_iff_le, gt_iff_lt, hk_si, hk_sj, hk_sr, hl_si, hl_sj, hl_sr, hn_si, hn_sj, hn_sr, hs_si, hs_sj, hs_sr, hi_sj, hi_sr, hj_si, hj_sr, hr_si, hr_sj, hi_si, hj_sj, hr_sr, mg_si, mg_sj, mg_sr, Nat.reduceAdd, Nat.reduceMul, Nat.reduceSub, Nat.reduceLT, Nat.reduceGT, Nat.reduceEqDiff, Nat.reduceLeDiff, Nat.left_eq_add, Nat.add_eq_left, Nat.reduceMod, Nat.reduceDiv, Nat.succ_ne_self, g, e8, le0, r19, k93, n93, l93, n1', m12, m13, m14, ei, run1, g1, run2, nn_mxT, nn_clamp]
    | some w =>
      rw [hq] at o8
      obtain ⟨o8, o9, o10⟩ := o8
      have ex : ∀ f, x_bi q f = f w q.2.2 := fun f => by unfold x_bi; rw [hq]
      rw [ex]
      obtain ⟨h2, y, f2, ou, run2⟩ := c_357 (d := d + 2) (v := -x) R1.F o9 o7
      have ev : (-x).toInt = -w := by rw [i64_n (by rw [o10]; unfold iI at o8; omega), o10]
      rw [ev] at ou
      refine ⟨h2, y, fG_t f1 f2, ou, fun Q => ?_⟩
      clear R R1 F i0 i1 i2 hw o7 o8
      simp (disch := omega) only [s_360_0, s_360_1, s_360_4, s_360_7, s_360_8, s_360_9, s_360_10, s_360_13, s_360_14, s_360_15, s_360_48, s_360_49, s_360_52, s_360_53, s_360_54, s_360_55, s_360_56, s_360_57, s_360_60, s_360_61, s_360_64, s_360_65, s_360_66, s_360_69, s_360_70, s_360_71, s_360_74, s_360_75, s_360_76, s_360_77, s_360_78, s_360_79, s_360_80, s_360_81, s_360_82, s_360_83, s_360_84, s_360_87, s_360_90, s_360_91, s_360_92, s_360_95, s_360_98, s_360_99, s_360_102, s_360_103, s_360_106, s_360_107, s_360_108, s_360_109, s_360_110, s_360_111, s_360_112, s_360_113, s_360_114, s_360_115, s_360_118, s_360_119, s_360_122, s_360_123, s_360_124, s_360_127, s_360_128, s_360_129, s_360_132, s_360_133, s_360_134, s_360_135, s_360_138, s_360_139, s_360_140, s_360_143, s_360_144, s_360_145, s_360_146, s_360_147, s_360_150, s_360_151, s_360_152, s_360_155, s_360_156, s_360_157, s_360_158, s_360_159, s_360_162, s_360_163, s_360_164, s_360_167, s_360_168, s_360_171, s_360_172, s_360_173, s_360_174, s_360_175, s_360_176, s_360_177, s_360_178, s_360_179, s_360_180, s_360_181, s_360_184, s_360_185, s_360_186, s_360_187, s_360_190, s_360_192, s_360_194, s_360_195, s_360_196, s_360_199, s_360_202, s_360_203, s_360_206, s_360_209, s_360_210, s_360_212, s_360_213, s_360_214, s_360_217, s_360_219, s_360_220, s_360_223, s_360_226, s_360_227, s_360_228, s_360_231, s_360_233, s_360_234, s_360_235, s_360_237, s_360_240, s_360_241, s_360_242, s_360_244, s_360_247, s_360_249, s_360_252, s_360_253, e_360, mv_i_1, mv_l_1, mv_a_1, mv_a_2, mv_a_3, mk2_n, mk2_i, mk2_l, mk2_a, mk2_u, mk2_x, mB_T, mB_F, mS_cons, mS_nil, mSB_T, mSB_F, mca_nil, mca_i, mca_l, mca_r, mca_u, mca_x, mcat_i, mcat_l, mcat_r, mcat_u, mcat_x, mK_some, mK_none, va_rf_s, va_rf_n, lgc_eq, lgc_lt, lgc_gt, lgc_ge, lgc_le, mrd_104, mrd_105, mrd_106, mrd_107, true_and, and_true, and_self, false_and, and_false, true_or, or_true, false_or, or_false, not_true_eq_false, not_false_eq_true, mgb, mga, mgr, mN, reduceCtorEq, ↓reduceIte, eq_self, ge_iff_le, gt_iff_lt, hk_si, hk_sj, hk_sr, hl_si, hl_sj, hl_sr, hn_si, hn_sj, hn_sr, hs_si, hs_sj, hs_sr, hi_sj, hi_sr, hj_si, hj_sr, hr_si, hr_sj, hi_si, hj_sj, hr_sr, mg_si, mg_sj, mg_sr, Nat.reduceAdd, Nat.reduceMul, Nat.reduceSub, Nat.reduceLT, Nat.reduceGT, Nat.reduceEqDiff, Nat.reduceLeDiff, Nat.left_eq_add, Nat.add_eq_left, Nat.reduceMod, Nat.reduceDiv, Nat.succ_ne_self, g, e8, le0, r19, k93, n93, l93, n1', m12, m13, m14, ei, run1, g1, run2, nn_mxT, nn_clamp]
  by_cases k16 : tK n = 16
  · have n1' : mh_i h 93 k = 16 := by rw [n1, k16]; rfl
    have m12 : ((16 : Int32) = 12) = False := by decide
    have m13 : ((16 : Int32) = 13) = False := by decide
    have m14 : ((16 : Int32) = 14) = False := by decide
    have m15 : ((16 : Int32) = 15) = False := by decide
    obtain ⟨y, ey, c358⟩ := c_358 (d := d + 3) R e7 (by omega)
    have fr : fG rcW h (mh_si h 81 67 (Int32.ofNat (c + 1))) := fG_si ⟨rfl, Or.inl rfl⟩
    rw [hN] at ey
    rcases w_16 k16 hw with ⟨u, rfl⟩ | ⟨l, c1', g', c2', r2', rfl, v1, v2, v3, v4⟩
    · rw [xv_16 k16]
      refine ⟨_, y.toInt64, fr, ⟨by rw [hi_si, if_pos ⟨rfl, rfl⟩]; rfl, x_in_I, by rw [hi_si, if_neg (by omega)]; exact e8, by rw [Int32.toInt_toInt64]; exact ey⟩, fun Q => ?_⟩
      have n3' : mh_i h 97 k = 1 := n3
      have e11 : ((1 : Int32) = 1) = True := by decide
      clear R F i0 i1 i2 hw
      simp (disch := omega) only [s_360_0, s_360_1, s_360_4, s_360_7, s_360_8, s_360_9, s_360_10, s_360_13, s_360_14, s_360_15, s_360_48, s_360_49, s_360_52, s_360_53, s_360_54, s_360_55, s_360_56, s_360_57, s_360_60, s_360_61, s_360_64, s_360_65, s_360_66, s_360_69, s_360_70, s_360_71, s_360_74, s_360_75, s_360_76, s_360_77, s_360_78, s_360_79, s_360_80, s_360_81, s_360_82, s_360_83, s_360_84, s_360_87, s_360_90, s_360_91, s_360_92, s_360_95, s_360_98, s_360_99, s_360_102, s_360_103, s_360_106, s_360_107, s_360_108, s_360_109, s_360_110, s_360_111, s_360_112, s_360_113, s_360_114, s_360_115, s_360_118, s_360_119, s_360_122, s_360_123, s_360_124, s_360_127, s_360_128, s_360_129, s_360_132, s_360_133, s_360_134, s_360_135, s_360_138, s_360_139, s_360_140, s_360_143, s_360_144, s_360_145, s_360_146, s_360_147, s_360_150, s_360_151, s_360_152, s_360_155, s_360_156, s_360_157, s_360_158, s_360_159, s_360_162, s_360_163, s_360_164, s_360_167, s_360_168, s_360_171, s_360_172, s_360_173, s_360_174, s_360_175, s_360_176, s_360_177, s_360_178, s_360_179, s_360_180, s_360_181, s_360_184, s_360_185, s_360_186, s_360_187, s_360_190, s_360_192, s_360_194, s_360_195, s_360_196, s_360_199, s_360_202, s_360_203, s_360_206, s_360_209, s_360_210, s_360_212, s_360_213, s_360_214, s_360_217, s_360_219, s_360_220, s_360_223, s_360_226, s_360_227, s_360_228, s_360_231, s_360_233, s_360_234, s_360_235, s_360_237, s_360_240, s_360_241, s_360_242, s_360_244, s_360_247, s_360_249, s_360_252, s_360_253, e_360, mv_i_1, mv_l_1, mv_a_1, mv_a_2, mv_a_3, mk2_n, mk2_i, mk2_l, mk2_a, mk2_u, mk2_x, mB_T, mB_F, mS_cons, mS_nil, mSB_T, mSB_F, mca_nil, mca_i, mca_l, mca_r, mca_u, mca_x, mcat_i, mcat_l, mcat_r, mcat_u, mcat_x, mK_some, mK_none, va_rf_s, va_rf_n, lgc_eq, lgc_lt, lgc_gt, lgc_ge, lgc_le, mrd_104, mrd_105, mrd_106, mrd_107, true_and, and_true, and_self, false_and, and_false, true_or, or_true, false_or, or_false, not_true_eq_false, not_false_eq_true, mgb, mga, mgr, mN, reduceCtorEq, ↓reduceIte, eq_self, ge_iff_le, gt_iff_lt, hk_si, hk_sj, hk_sr, hl_si, hl_sj, hl_sr, hn_si, hn_sj, hn_sr, hs_si, hs_sj, hs_sr, hi_sj, hi_sr, hj_si, hj_sr, hr_si, hr_sj, hi_si, hj_sj, hr_sr, mg_si, mg_sj, mg_sr, Nat.reduceAdd, Nat.reduceMul, Nat.reduceSub, Nat.reduceLT, Nat.reduceGT, Nat.reduceEqDiff, Nat.reduceLeDiff, Nat.left_eq_add, Nat.add_eq_left, Nat.reduceMod, Nat.reduceDiv, Nat.succ_ne_self, g, e8, le0, r19, k93, n93, l93, n1', m12, m13, m14, m15, c358, r23, g97, l97, n3', e11, nn_mxT, nn_clamp]
    · rw [xv_16b k16]
      rw [nd_B] at n4
      obtain ⟨y1, y2, y3, y4, y5⟩ := n4
      rw [nd_B] at y5
      obtain ⟨z1, z2, z3, z4, z5⟩ := y5
      rw [ts_B, ts_B] at hk hc n3
      rw [v1] at z2
      have z2 : (mh_i h 95 (k + 2)).toInt = tV g' := z2
      have n3' : (mh_i h 97 k = 1) = False := eq_false (fun z => by
        rw [n3] at z
        have : (Int32.ofNat (1 + (1 + ts c1' + (1 + ts c2' + ts r2')))).toInt = (1 : Int32).toInt := by rw [z]
        rw [nn_int (by omega)] at this
        have e1 : (1 : Int32).toInt = 1 := rfl
        omega)
      have w1 : (mh_i h 95 (k + 1)).toInt = tV l := y2
      have f8 : mh_i (mh_si h 81 67 (Int32.ofNat (c + 1))) 81 68 = 0 := by rw [hi_si, if_neg (by omega)]; exact e8
      have f7 : mh_i (mh_si h 81 67 (Int32.ofNat (c + 1))) 81 67 = Int32.ofNat (c + 1) := by rw [hi_si, if_pos ⟨rfl, rfl⟩]
      by_cases a1 : y < mh_i h 95 (k + 1)
      · refine ⟨_, (mh_i h 95 (k + 1)).toInt64, fr, ⟨f7, x_any_I v2 x_in_I, f8, ?_⟩, fun Q => ?_⟩
        · rw [Int32.toInt_toInt64, w1, ← ey]
          unfold x_any
          rw [Int32.lt_iff_toInt_lt, w1] at a1
          rw [if_pos (Or.inl a1)]
        · clear R F i0 i1 i2 hw
          simp (disch := omega) only [s_360_0, s_360_1, s_360_4, s_360_7, s_360_8, s_360_9, s_360_10, s_360_13, s_360_14, s_360_15, s_360_48, s_360_49, s_360_52, s_360_53, s_360_54, s_360_55, s_360_56, s_360_57, s_360_60, s_360_61, s_360_64, s_360_65, s_360_66, s_360_69, s_360_70, s_360_71, s_360_74, s_360_75, s_360_76, s_360_77, s_360_78, s_360_79, s_360_80, s_360_81, s_360_82, s_360_83, s_360_84, s_360_87, s_360_90, s_360_91, s_360_92, s_360_95, s_360_98, s_360_99, s_360_102, s_360_103, s_360_106, s_360_107, s_360_108, s_360_109, s_360_110, s_360_111, s_360_112, s_360_113, s_360_114, s_360_115, s_360_118, s_360_119, s_360_122, s_360_123, s_360_124, s_360_127, s_360_128, s_360_129, s_360_132, s_360_133, s_360_134, s_360_135, s_360_138, s_360_139, s_360_140, s_360_143, s_360_144, s_360_145, s_360_146, s_360_147, s_360_150, s_360_151, s_360_152, s_360_155, s_360_156, s_360_157, s_360_158, s_360_159, s_360_162, s_360_163, s_360_164, s_360_167, s_360_168, s_360_171, s_360_172, s_360_173, s_360_174, s_360_175, s_360_176, s_360_177, s_360_178, s_360_179, s_360_180, s_360_181, s_360_184, s_360_185, s_360_186, s_360_187, s_360_190, s_360_192, s_360_194, s_360_195, s_360_196, s_360_199, s_360_202, s_360_203, s_360_206, s_360_209, s_360_210, s_360_212, s_360_213, s_360_214, s_360_217, s_360_219, s_360_220, s_360_223, s_360_226, s_360_227, s_360_228, s_360_231, s_360_233, s_360_234, s_360_235, s_360_237, s_360_240, s_360_241, s_360_242, s_360_244, s_360_247, s_360_249, s_360_252, s_360_253, e_360, mv_i_1, mv_l_1, mv_a_1, mv_a_2, mv_a_3, mk2_n, mk2_i, mk2_l, mk2_a, mk2_u, mk2_x, mB_T, mB_F, mS_cons, mS_nil, mSB_T, mSB_F, mca_nil, mca_i, mca_l, mca_r, mca_u, mca_x, mcat_i, mcat_l, mcat_r, mcat_u, mcat_x, mK_some, mK_none, va_rf_s, va_rf_n, lgc_eq, lgc_lt, lgc_gt, lgc_ge, lgc_le, mrd_104, mrd_105, mrd_106, mrd_107, true_and, and_true, and_self, false_and, and_false, true_or, or_true, false_or, or_false, not_true_eq_false, not_false_eq_true, mgb, mga, mgr, mN, reduceCtorEq, ↓reduceIte, eq_self, ge_iff_le, gt_iff_lt, hk_si, hk_sj, hk_sr, hl_si, hl_sj, hl_sr, hn_si, hn_sj, hn_sr, hs_si, hs_sj, hs_sr, hi_sj, hi_sr, hj_si, hj_sr, hr_si, hr_sj, hi_si, hj_sj, hr_sr, mg_si, mg_sj, mg_sr, Nat.reduceAdd, Nat.reduceMul, Nat.reduceSub, Nat.reduceLT, Nat.reduceGT, Nat.reduceEqDiff, Nat.reduceLeDiff, Nat.left_eq_add, Nat.add_eq_left, Nat.reduceMod, Nat.reduceDiv, Nat.succ_ne_self, g, e8, le0, r19, k93, n93, l93, n1', m12, m13, m14, m15, c358, r23, g97, l97, n3', r21, g95, l95, ei, ei2, a1, nn_mxT, nn_clamp]
      · by_cases a2 : mh_i h 95 (k + 2) < y
        · refine ⟨_, (mh_i h 95 (k + 1)).toInt64, fr, ⟨f7, x_any_I v2 x_in_I, f8, ?_⟩, fun Q => ?_⟩
          · rw [Int32.toInt_toInt64, w1, ← ey]
            unfold x_any
            rw [Int32.lt_iff_toInt_lt, z2] at a2
            rw [if_pos (Or.inr a2)]
          · clear R F i0 i1 i2 hw
            simp (disch := omega) only [s_360_0, s_360_1, s_360_4, s_360_7, s_360_8, s_360_9, s_360_10, s_360_13, s_360_14, s_360_15, s_360_48, s_360_49, s_360_52, s_360_53, s_360_54, s_360_55, s_360_56, s_360_57, s_360_60, s_360_61, s_360_64, s_360_65, s_360_66, s_360_69, s_360_70, s_360_71, s_360_74, s_360_75, s_360_76, s_360_77, s_360_78, s_360_79, s_360_80, s_360_81, s_360_82, s_360_83, s_360_84, s_360_87, s_360_90, s_360_91, s_360_92, s_360_95, s_360_98, s_360_99, s_360_102, s_360_103, s_360_106, s_360_107, s_360_108, s_360_109, s_360_110, s_360_111, s_360_112, s_360_113, s_360_114, s_360_115, s_360_118, s_360_119, s_360_122, s_360_123, s_360_124, s_360_127, s_360_128, s_360_129, s_360_132, s_360_133, s_360_134, s_360_135, s_360_138, s_360_139, s_360_140, s_360_143, s_360_144, s_360_145, s_360_146, s_360_147, s_360_150, s_360_151, s_360_152, s_360_155, s_360_156, s_360_157, s_360_158, s_360_159, s_360_162, s_360_163, s_360_164, s_360_167, s_360_168, s_360_171, s_360_172, s_360_173, s_360_174, s_360_175, s_360_176, s_360_177, s_360_178, s_360_179, s_360_180, s_360_181, s_360_184, s_360_185, s_360_186, s_360_187, s_360_190, s_360_192, s_360_194, s_360_195, s_360_196, s_360_199, s_360_202, s_360_203, s_360_206, s_360_209, s_360_210, s_360_212, s_360_213, s_360_214, s_360_217, s_360_219, s_360_220, s_360_223, s_360_226, s_360_227, s_360_228, s_360_231, s_360_233, s_360_234, s_360_235, s_360_237, s_360_240, s_360_241, s_360_242, s_360_244, s_360_247, s_360_249, s_360_252, s_360_253, e_360, mv_i_1, mv_l_1, mv_a_1, mv_a_2, mv_a_3, mk2_n, mk2_i, mk2_l, mk2_a, mk2_u, mk2_x, mB_T, mB_F, mS_cons, mS_nil, mSB_T, mSB_F, mca_nil, mca_i, mca_l, mca_r, mca_u, mca_x, mcat_i, mcat_l, mcat_r, mcat_u, mcat_x, mK_some, mK_none, va_rf_s, va_rf_n, lgc_eq, lgc_lt, lgc_gt, lgc_ge, lgc_le, mrd_104, mrd_105, mrd_106, mrd_107, true_and, and_true, and_self, false_and, and_false, true_or, or_true, false_or, or_false, not_true_eq_false, not_false_eq_true, mgb, mga, mgr, mN, reduceCtorEq, ↓reduceIte, eq_self, ge_iff_le, gt_iff_lt, hk_si, hk_sj, hk_sr, hl_si, hl_sj, hl_sr, hn_si, hn_sj, hn_sr, hs_si, hs_sj, hs_sr, hi_sj, hi_sr, hj_si, hj_sr, hr_si, hr_sj, hi_si, hj_sj, hr_sr, mg_si, mg_sj, mg_sr, Nat.reduceAdd, Nat.reduceMul, Nat.reduceSub, Nat.reduceLT, Nat.reduceGT, Nat.reduceEqDiff, Nat.reduceLeDiff, Nat.left_eq_add, Nat.add_eq_left, Nat.reduceMod, Nat.reduceDiv, Nat.succ_ne_self, g, e8, le0, r19, k93, n93, l93, n1', m12, m13, m14, m15, c358, r23, g97, l97, n3', r21, g95, l95, ei, ei2, a1, a2, nn_mxT, nn_clamp]
        · refine ⟨_, y.toInt64, fr, ⟨f7, x_any_I v2 x_in_I, f8, ?_⟩, fun Q => ?_⟩
          · rw [Int32.toInt_toInt64, ← ey]
            unfold x_any
            rw [Int32.lt_iff_toInt_lt, z2] at a2
            rw [Int32.lt_iff_toInt_lt, w1] at a1
            rw [if_neg (by omega)]
          · clear R F i0 i1 i2 hw
            simp (disch := omega) only [s_360_0, s_360_1, s_360_4, s_360_7, s_360_8, s_360_9, s_360_10, s_360_13, s_360_14, s_360_15, s_360_48, s_360_49, s_360_52, s_360_53, s_360_54, s_360_55, s_360_56, s_360_57, s_360_60, s_360_61, s_360_64, s_360_65, s_360_66, s_360_69, s_360_70, s_360_71, s_360_74, s_360_75, s_360_76, s_360_77, s_360_78, s_360_79, s_360_80, s_360_81, s_360_82, s_360_83, s_360_84, s_360_87, s_360_90, s_360_91, s_360_92, s_360_95, s_360_98, s_360_99, s_360_102, s_360_103, s_360_106, s_360_107, s_360_108, s_360_109, s_360_110, s_360_111, s_360_112, s_360_113, s_360_114, s_360_115, s_360_118, s_360_119, s_360_122, s_360_123, s_360_124, s_360_127, s_360_128, s_360_129, s_360_132, s_360_133, s_360_134, s_360_135, s_360_138, s_360_139, s_360_140, s_360_143, s_360_144, s_360_145, s_360_146, s_360_147, s_360_150, s_360_151, s_360_152, s_360_155, s_360_156, s_360_157, s_360_158, s_360_159, s_360_162, s_360_163, s_360_164, s_360_167, s_360_168, s_360_171, s_360_172, s_360_173, s_360_174, s_360_175, s_360_176, s_360_177, s_360_178, s_360_179, s_360_180, s_360_181, s_360_184, s_360_185, s_360_186, s_360_187, s_360_190, s_360_192, s_360_194, s_360_195, s_360_196, s_360_199, s_360_202, s_360_203, s_360_206, s_360_209, s_360_210, s_360_212, s_360_213, s_360_214, s_360_217, s_360_219, s_360_220, s_360_223, s_360_226, s_360_227, s_360_228, s_360_231, s_360_233, s_360_234, s_360_235, s_360_237, s_360_240, s_360_241, s_360_242, s_360_244, s_360_247, s_360_249, s_360_252, s_360_253, e_360, mv_i_1, mv_l_1, mv_a_1, mv_a_2, mv_a_3, mk2_n, mk2_i, mk2_l, mk2_a, mk2_u, mk2_x, mB_T, mB_F, mS_cons, mS_nil, mSB_T, mSB_F, mca_nil, mca_i, mca_l, mca_r, mca_u, mca_x, mcat_i, mcat_l, mcat_r, mcat_u, mcat_x, mK_some, mK_none, va_rf_s, va_rf_n, lgc_eq, lgc_lt, lgc_gt, lgc_ge, lgc_le, mrd_104, mrd_105, mrd_106, mrd_107, true_and, and_true, and_self, false_and, and_false, true_or, or_true, false_or, or_false, not_true_eq_false, not_false_eq_true, mgb, mga, mgr, mN, reduceCtorEq, ↓reduceIte, eq_self, ge_iff_le, gt_iff_lt, hk_si, hk_sj, hk_sr, hl_si, hl_sj, hl_sr, hn_si, hn_sj, hn_sr, hs_si, hs_sj, hs_sr, hi_sj, hi_sr, hj_si, hj_sr, hr_si, hr_sj, hi_si, hj_sj, hr_sr, mg_si, mg_sj, mg_sr, Nat.reduceAdd, Nat.reduceMul, Nat.reduceSub, Nat.reduceLT, Nat.reduceGT, Nat.reduceEqDiff, Nat.reduceLeDiff, Nat.left_eq_add, Nat.add_eq_left, Nat.reduceMod, Nat.reduceDiv, Nat.succ_ne_self, g, e8, le0, r19, k93, n93, l93, n1', m12, m13, m14, m15, c358, r23, g97, l97, n3', r21, g95, l95, ei, ei2, a1, a2, nn_mxT, nn_clamp]
  · have kn : ¬ tK n = 12 ∧ ¬ tK n = 13 ∧ ¬ tK n = 14 ∧ ¬ tK n = 15 ∧ ¬ tK n = 16 := ⟨k12, k13, k14, k15, k16⟩
    obtain ⟨m, cs', r', rfl, v1, v2⟩ := w_17 kn hw
    rw [xv_17 kn]
    have i2' : U1 p gv sN en aR A V P N r' := i2
    have n4' := n4
    rw [nd_B] at n4'
    obtain ⟨y1, y2, y3, y4, y5⟩ := n4'
    have xr' : xA aR en A.rm r' := by rw [xA_B] at xa; exact xa.2.2
    have tk : tK n < 64 := by unfold tK; omega
    have mm : ∀ j : Nat, j < 64 → ¬ tK n = j → (Int32.ofNat (tK n) = Int32.ofNat j) = False := fun j hj hne => by rw [nn_eq (by omega) (by omega)]; exact eq_false hne
    have m12 : (Int32.ofNat (tK n) = 12) = False := mm 12 (by omega) k12
    have m13 : (Int32.ofNat (tK n) = 13) = False := mm 13 (by omega) k13
    have m14 : (Int32.ofNat (tK n) = 14) = False := mm 14 (by omega) k14
    have m15 : (Int32.ofNat (tK n) = 15) = False := mm 15 (by omega) k15
    have m16 : (Int32.ofNat (tK n) = 16) = False := mm 16 (by omega) k16
    obtain ⟨h1, x, f1, o1, run1⟩ := i0 h (d + 3) (k + 1) c R hV hP hN n4 v1 xa (by omega) (by omega) e8 e7 (by omega)
    have R1 := RRU_G f1 R
    have g1 : mg h1 81 14 := R1.F.g 81 14 70 (by decide +kernel)
    have rr : ∀ b, b ≠ 81 → mh_i h1 b = mh_i h b := fun b hb => rc_r f1 hb
    have c334 := c_334 (d := d + 2) (k := k) R1.F (by rw [ts_B] at hk; omega) (z := 1 + ts cs') (by rw [rr 97 (by omega)]; exact y3)
    have ks : k + 1 + (1 + ts cs') = k + 1 + 1 + ts cs' := by omega
    rw [ks] at c334
    have start : ∀ Q, mcall (d + 4) 360 [.ref 81, .int (Int32.ofNat k)] h Q = mw (d + 4) 360 Q 192 [some (.ref 81), some (.int (Int32.ofNat k)), some (.long x), none, some (.int (Int32.ofNat (k + 1 + 1 + ts cs'))), none, none] [] h1 := fun Q => by
      clear R R1 F i0 i1 i2 i2' hw o1
      simp (disch := omega) only [s_360_0, s_360_1, s_360_4, s_360_7, s_360_8, s_360_9, s_360_10, s_360_13, s_360_14, s_360_15, s_360_48, s_360_49, s_360_52, s_360_53, s_360_54, s_360_55, s_360_56, s_360_57, s_360_60, s_360_61, s_360_64, s_360_65, s_360_66, s_360_69, s_360_70, s_360_71, s_360_74, s_360_75, s_360_76, s_360_77, s_360_78, s_360_79, s_360_80, s_360_81, s_360_82, s_360_83, s_360_84, s_360_87, s_360_90, s_360_91, s_360_92, s_360_95, s_360_98, s_360_99, s_360_102, s_360_103, s_360_106, s_360_107, s_360_108, s_360_109, s_360_110, s_360_111, s_360_112, s_360_113, s_360_114, s_360_115, s_360_118, s_360_119, s_360_122, s_360_123, s_360_124, s_360_127, s_360_128, s_360_129, s_360_132, s_360_133, s_360_134, s_360_135, s_360_138, s_360_139, s_360_140, s_360_143, s_360_144, s_360_145, s_360_146, s_360_147, s_360_150, s_360_151, s_360_152, s_360_155, s_360_156, s_360_157, s_360_158, s_360_159, s_360_162, s_360_163, s_360_164, s_360_167, s_360_168, s_360_171, s_360_172, s_360_173, s_360_174, s_360_175, s_360_176, s_360_177, s_360_178, s_360_179, s_360_180, s_360_181, s_360_184, s_360_185, s_360_186, s_360_187, s_360_190, s_360_194, s_360_195, s_360_196, s_360_199, s_360_202, s_360_203, s_360_206, s_360_209, s_360_210, s_360_212, s_360_213, s_360_214, s_360_217, s_360_219, s_360_220, s_360_223, s_360_226, s_360_227, s_360_228, s_360_231, s_360_233, s_360_234, s_360_235, s_360_237, s_360_240, s_360_241, s_360_242, s_360_244, s_360_247, s_360_249, s_360_252, s_360_253, e_360, mv_i_1, mv_l_1, mv_a_1, mv_a_2, mv_a_3, mk2_n, mk2_i, mk2_l, mk2_a, mk2_u, mk2_x, mB_T, mB_F, mS_cons, mS_nil, mSB_T, mSB_F, mca_nil, mca_i, mca_l, mca_r, mca_u, mca_x, mcat_i, mcat_l, mcat_r, mcat_u, mcat_x, mK_some, mK_none, va_rf_s, va_rf_n, lgc_eq, lgc_lt, lgc_gt, lgc_ge, lgc_le, mrd_104, mrd_105, mrd_106, mrd_107, true_and, and_true, and_self, false_and, and_false, true_or, or_true, false_or, or_false, not_true_eq_false, not_false_eq_true, mgb, mga, mgr, mN, reduceCtorEq, ↓reduceIte, eq_self, ge_iff_le, gt_iff_lt, hk_si, hk_sj, hk_sr, hl_si, hl_sj, hl_sr, hn_si, hn_sj, hn_sr, hs_si, hs_sj, hs_sr, hi_sj, hi_sr, hj_si, hj_sr, hr_si, hr_sj, hi_si, hj_sj, hr_sr, mg_si, mg_sj, mg_sr, Nat.reduceAdd, Nat.reduceMul, Nat.reduceSub, Nat.reduceLT, Nat.reduceGT, Nat.reduceEqDiff, Nat.reduceLeDiff, Nat.left_eq_add, Nat.add_eq_left, Nat.reduceMod, Nat.reduceDiv, Nat.succ_ne_self, g, e8, le0, r19, k93, n93, l93, n1, m12, m13, m14, m15, m16, ei, run1, g1, c334, nn_mxT, nn_clamp]
    have z1 : mh_i h1 97 k = Int32.ofNat (1 + ts (.branch m cs' r')) := by rw [rr 97 (by omega)]; exact n3
    have xc := (xv_c2 (en := en) (V := V) (P := P) (rm := A.rm) (N := N) (g := gv) (.branch m cs' r')).1 c
    have eT : tT (.branch m cs' r') = r' := rfl
    rw [eT] at xc
    rw [ts_B] at hk hc xc z1
    rw [th_B] at hD
    obtain ⟨q, eq⟩ : ∃ q, xv en V P A.rm N gv (.branch m cs' r') none c = q := ⟨_, rfl⟩
    rw [eq] at o1 xc ⊢
    obtain ⟨o7, o8⟩ := o1
    cases hq : q.1 with
    | none =>
      rw [hq] at o8
      have ex : ∀ f, x_bi q f = q := fun f => by unfold x_bi; rw [hq]
      rw [ex]
      have t0 : ¬ mh_i h1 81 68 = 0 := fun z => by rw [o8.2] at z; rw [z] at o8; exact absurd o8.1 (by decide)
      have fin := u_e (d := d + 2) (v := x) (k0 := k) (k := k + 1 + 1 + ts cs') (x5 := none) (x6 := none) R1 z1 (by omega) (by omega) (by omega) (Or.inl t0)
      exact ⟨h1, x, f1, ⟨o7, by rw [hq]; exact o8⟩, fun Q => (start Q).trans (fin Q)⟩
    | some w =>
      rw [hq] at o8
      obtain ⟨o8, o9, o10⟩ := o8
      have ex : ∀ f, x_bi q f = f w q.2.2 := fun f => by unfold x_bi; rw [hq]
      rw [ex]
      obtain ⟨h3, x3, f3, o3, run3⟩ := i2' h1 (d + 4) k (k + 1 + 1 + ts cs') _ q.2.2 x none none R1 (by rw [rr _ (by omega)]; exact hV) (by rw [rr _ (by omega)]; exact hP) (by rw [rr _ (by omega)]; exact hN) (by rw [rr _ (by omega), rr _ (by omega), rr _ (by omega)]; exact y5) v2 xr' (by omega) z1 (by omega) (by omega) (by omega) (by omega) o9 o7 (by omega) (by rw [o10]; exact o8)
      rw [o10] at o3
      exact ⟨h3, x3, fG_t f1 f3, o3, fun Q => (start Q).trans (run3 Q)⟩
theorem U_all (hA : A.n ≤ 12 ∧ A.a ≤ 6) : ∀ t, U0 p gv sN en aR A V P N t ∧ U1 p gv sN en aR A V P N t ∧ U0 p gv sN en aR A V P N (tT t) ∧ U1 p gv sN en aR A V P N (tT t) := by
  have L0 : ∀ u, U0 p gv sN en aR A V P N (.leaf u) := by
    intro u h D k c _ _ _ _ _ w
    exact absurd w (fun z => z)
  intro t
  induction t with
  | leaf u => exact ⟨L0 u, U1_leaf u, L0 u, U1_leaf u⟩
  | branch n cs r ih1 ih2 => exact ⟨U0_br hA ih1.1 ih1.2.2.1 ih1.2.2.2, U1_br ih1.1 ih2.2.1, ih2.1, ih2.2.1⟩
end UPs
