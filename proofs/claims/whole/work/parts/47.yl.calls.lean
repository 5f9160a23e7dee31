set_option maxRecDepth 100000
/-! simple calls -/
section SMs
variable {d : Nat} {h h1 : mh_H} {gv : Nat}
theorem v_190 (F : CF h) : ∀ Q, mcall d 190 [.ref 0] h Q = Q (some (.int (mh_i h 2 2))) h := fun Q => by
  have g := F.g 0 11 15 (by decide +kernel)
  have t2 := F.f 0 2 2 (by decide +kernel)
  have g2 := F.g 2 4 20 (by decide +kernel)
  clear F
  simp (disch := omega) only [e_190, s_190_0, s_190_1, s_190_4, s_190_7, e_190, mv_i_1, mv_l_1, mv_a_1, mv_a_2, mv_a_3, mk2_n, mk2_i, mk2_l, mk2_a, mk2_u, mk2_x, mB_T, mB_F, mS_cons, mS_nil, mSB_T, mSB_F, mca_nil, mca_i, mca_l, mca_r, mca_u, mca_x, mcat_i, mcat_l, mcat_r, mcat_u, mcat_x, mK_some, mK_none, va_rf_s, va_rf_n, lgc_eq, lgc_lt, lgc_gt, lgc_ge, lgc_le, mrd_104, mrd_105, mrd_106, mrd_107, true_and, and_true, and_self, false_and, and_false, true_or, or_true, false_or, or_false, not_true_eq_false, not_false_eq_true, mgb, mga, mgr, mN, reduceCtorEq, ↓reduceIte, eq_self, ge_iff_le, gt_iff_lt, hk_si, hk_sj, hk_sr, hl_si, hl_sj, hl_sr, hn_si, hn_sj, hn_sr, hs_si, hs_sj, hs_sr, hi_sj, hi_sr, hj_si, hj_sr, hr_si, hr_sj, hi_si, hj_sj, hr_sr, mg_si, mg_sj, mg_sr, Nat.reduceAdd, Nat.reduceMul, Nat.reduceSub, Nat.reduceLT, Nat.reduceGT, Nat.reduceEqDiff, Nat.reduceLeDiff, Nat.left_eq_add, Nat.add_eq_left, Nat.reduceMod, Nat.reduceDiv, Nat.succ_ne_self, g, t2, g2]
theorem u_350 (F : RF h) : ∀ Q, mcall d 350 [.ref 81] h Q = Q (some (.int (mh_i h 81 33))) h := fun Q => by
  have g := F.g 81 14 70 (by decide +kernel)
  clear F
  simp (disch := omega) only [e_350, s_350_0, s_350_1, s_350_4, e_350, mv_i_1, mv_l_1, mv_a_1, mv_a_2, mv_a_3, mk2_n, mk2_i, mk2_l, mk2_a, mk2_u, mk2_x, mB_T, mB_F, mS_cons, mS_nil, mSB_T, mSB_F, mca_nil, mca_i, mca_l, mca_r, mca_u, mca_x, mcat_i, mcat_l, mcat_r, mcat_u, mcat_x, mK_some, mK_none, va_rf_s, va_rf_n, lgc_eq, lgc_lt, lgc_gt, lgc_ge, lgc_le, mrd_104, mrd_105, mrd_106, mrd_107, true_and, and_true, and_self, false_and, and_false, true_or, or_true, false_or, or_false, not_true_eq_false, not_false_eq_true, mgb, mga, mgr, mN, reduceCtorEq, ↓reduceIte, eq_self, ge_iff_le, gt_iff_lt, hk_si, hk_sj, hk_sr, hl_si, hl_sj, hl_sr, hn_si, hn_sj, hn_sr, hs_si, hs_sj, hs_sr, hi_sj, hi_sr, hj_si, hj_sr, hr_si, hr_sj, hi_si, hj_sj, hr_sr, mg_si, mg_sj, mg_sr, Nat.reduceAdd, Nat.reduceMul, Nat.reduceSub, Nat.reduceLT, Nat.reduceGT, Nat.reduceEqDiff, Nat.reduceLeDiff, Nat.left_eq_add, Nat.add_eq_left, Nat.reduceMod, Nat.reduceDiv, Nat.succ_ne_self, g]
theorem v_212 (F : CF h) : ∀ Q, mcall d 212 [.ref 0] h Q = Q (some (.int (mh_i h 67 9))) h := fun Q => by
  have g := F.g 0 11 15 (by decide +kernel)
  have t5 := F.f 0 5 67 (by decide +kernel)
  have g67 := F.g 67 2 13 (by decide +kernel)
  clear F
  simp (disch := omega) only [e_212, s_212_0, s_212_1, s_212_4, s_212_7, e_212, mv_i_1, mv_l_1, mv_a_1, mv_a_2, mv_a_3, mk2_n, mk2_i, mk2_l, mk2_a, mk2_u, mk2_x, mB_T, mB_F, mS_cons, mS_nil, mSB_T, mSB_F, mca_nil, mca_i, mca_l, mca_r, mca_u, mca_x, mcat_i, mcat_l, mcat_r, mcat_u, mcat_x, mK_some, mK_none, va_rf_s, va_rf_n, lgc_eq, lgc_lt, lgc_gt, lgc_ge, lgc_le, mrd_104, mrd_105, mrd_106, mrd_107, true_and, and_true, and_self, false_and, and_false, true_or, or_true, false_or, or_false, not_true_eq_false, not_false_eq_true, mgb, mga, mgr, mN, reduceCtorEq, ↓reduceIte, eq_self, ge_iff_le, gt_iff_lt, hk_si, hk_sj, hk_sr, hl_si, hl_sj, hl_sr, hn_si, hn_sj, hn_sr, hs_si, hs_sj, hs_sr, hi_sj, hi_sr, hj_si, hj_sr, hr_si, hr_sj, hi_si, hj_sj, hr_sr, mg_si, mg_sj, mg_sr, Nat.reduceAdd, Nat.reduceMul, Nat.reduceSub, Nat.reduceLT, Nat.reduceGT, Nat.reduceEqDiff, Nat.reduceLeDiff, Nat.left_eq_add, Nat.add_eq_left, Nat.reduceMod, Nat.reduceDiv, Nat.succ_ne_self, g, t5, g67]
theorem u_368 (F : RF h) : ∀ Q, mcall d 368 [.ref 81] h Q = Q (some (.int (mh_i h 81 54))) h := fun Q => by
  have g := F.g 81 14 70 (by decide +kernel)
  clear F
  simp (disch := omega) only [e_368, s_368_0, s_368_1, s_368_4, e_368, mv_i_1, mv_l_1, mv_a_1, mv_a_2, mv_a_3, mk2_n, mk2_i, mk2_l, mk2_a, mk2_u, mk2_x, mB_T, mB_F, mS_cons, mS_nil, mSB_T, mSB_F, mca_nil, mca_i, mca_l, mca_r, mca_u, mca_x, mcat_i, mcat_l, mcat_r, mcat_u, mcat_x, mK_some, mK_none, va_rf_s, va_rf_n, lgc_eq, lgc_lt, lgc_gt, lgc_ge, lgc_le, mrd_104, mrd_105, mrd_106, mrd_107, true_and, and_true, and_self, false_and, and_false, true_or, or_true, false_or, or_false, not_true_eq_false, not_false_eq_true, mgb, mga, mgr, mN, reduceCtorEq, ↓reduceIte, eq_self, ge_iff_le, gt_iff_lt, hk_si, hk_sj, hk_sr, hl_si, hl_sj, hl_sr, hn_si, hn_sj, hn_sr, hs_si, hs_sj, hs_sr, hi_sj, hi_sr, hj_si, hj_sr, hr_si, hr_sj, hi_si, hj_sj, hr_sr, mg_si, mg_sj, mg_sr, Nat.reduceAdd, Nat.reduceMul, Nat.reduceSub, Nat.reduceLT, Nat.reduceGT, Nat.reduceEqDiff, Nat.reduceLeDiff, Nat.left_eq_add, Nat.add_eq_left, Nat.reduceMod, Nat.reduceDiv, Nat.succ_ne_self, g]
theorem v_207 (F : CF h) : ∀ Q, mcall d 207 [.ref 0] h Q = Q (some (.int (mh_i h 67 2))) (mh_si h 67 2 0) := fun Q => by
  have g := F.g 0 11 15 (by decide +kernel)
  have t5 := F.f 0 5 67 (by decide +kernel)
  have g67 := F.g 67 2 13 (by decide +kernel)
  clear F
  simp (disch := omega) only [e_207, s_207_0, s_207_1, s_207_4, s_207_7, s_207_8, s_207_9, s_207_12, s_207_13, s_207_16, s_207_17, e_207, mv_i_1, mv_l_1, mv_a_1, mv_a_2, mv_a_3, mk2_n, mk2_i, mk2_l, mk2_a, mk2_u, mk2_x, mB_T, mB_F, mS_cons, mS_nil, mSB_T, mSB_F, mca_nil, mca_i, mca_l, mca_r, mca_u, mca_x, mcat_i, mcat_l, mcat_r, mcat_u, mcat_x, mK_some, mK_none, va_rf_s, va_rf_n, lgc_eq, lgc_lt, lgc_gt, lgc_ge, lgc_le, mrd_104, mrd_105, mrd_106, mrd_107, true_and, and_true, and_self, false_and, and_false, true_or, or_true, false_or, or_false, not_true_eq_false, not_false_eq_true, mgb, mga, mgr, mN, reduceCtorEq, ↓reduceIte, eq_self, ge_iff_le, gt_iff_lt, hk_si, hk_sj, hk_sr, hl_si, hl_sj, hl_sr, hn_si, hn_sj, hn_sr, hs_si, hs_sj, hs_sr, hi_sj, hi_sr, hj_si, hj_sr, hr_si, hr_sj, hi_si, hj_sj, hr_sr, mg_si, mg_sj, mg_sr, Nat.reduceAdd, Nat.reduceMul, Nat.reduceSub, Nat.reduceLT, Nat.reduceGT, Nat.reduceEqDiff, Nat.reduceLeDiff, Nat.left_eq_add, Nat.add_eq_left, Nat.reduceMod, Nat.reduceDiv, Nat.succ_ne_self, g, t5, g67]
theorem u_354 (F : RF h) : ∀ Q, mcall d 354 [.ref 81] h Q = Q (some (.int (mh_i h 81 60))) (mh_si h 81 60 0) := fun Q => by
  have g := F.g 81 14 70 (by decide +kernel)
  clear F
  simp (disch := omega) only [e_354, s_354_0, s_354_1, s_354_4, s_354_5, s_354_6, s_354_7, s_354_10, s_354_11, e_354, mv_i_1, mv_l_1, mv_a_1, mv_a_2, mv_a_3, mk2_n, mk2_i, mk2_l, mk2_a, mk2_u, mk2_x, mB_T, mB_F, mS_cons, mS_nil, mSB_T, mSB_F, mca_nil, mca_i, mca_l, mca_r, mca_u, mca_x, mcat_i, mcat_l, mcat_r, mcat_u, mcat_x, mK_some, mK_none, va_rf_s, va_rf_n, lgc_eq, lgc_lt, lgc_gt, lgc_ge, lgc_le, mrd_104, mrd_105, mrd_106, mrd_107, true_and, and_true, and_self, false_and, and_false, true_or, or_true, false_or, or_false, not_true_eq_false, not_false_eq_true, mgb, mga, mgr, mN, reduceCtorEq, ↓reduceIte, eq_self, ge_iff_le, gt_iff_lt, hk_si, hk_sj, hk_sr, hl_si, hl_sj, hl_sr, hn_si, hn_sj, hn_sr, hs_si, hs_sj, hs_sr, hi_sj, hi_sr, hj_si, hj_sr, hr_si, hr_sj, hi_si, hj_sj, hr_sr, mg_si, mg_sj, mg_sr, Nat.reduceAdd, Nat.reduceMul, Nat.reduceSub, Nat.reduceLT, Nat.reduceGT, Nat.reduceEqDiff, Nat.reduceLeDiff, Nat.left_eq_add, Nat.add_eq_left, Nat.reduceMod, Nat.reduceDiv, Nat.succ_ne_self, g]
/-- input: no room left -/
theorem v_206n (F : CF h) (e2 : mh_i h 67 2 = 1000) {x : Int32} : ∀ Q, mcall (d + 1) 206 [.ref 0, .int x] h Q = Q (some (.int (-1))) h := fun Q => by
  have g := F.g 0 11 15 (by decide +kernel)
  have t5 := F.f 0 5 67 (by decide +kernel)
  have g67 := F.g 67 2 13 (by decide +kernel)
  have e00 : ((1000 : Int32) = 1000) = True := by decide
  clear F
  simp (disch := omega) only [e_206, e_26, s_206_0, s_206_1, s_206_4, s_206_5, s_206_8, e_206, s_26_0, s_26_1, s_26_4, s_26_7, s_26_10, s_26_11, s_26_12, s_26_13, s_26_16, s_26_17, s_26_20, s_26_21, s_26_22, s_26_23, s_26_24, s_26_27, s_26_28, s_26_29, s_26_32, s_26_33, s_26_36, e_26, mv_i_1, mv_l_1, mv_a_1, mv_a_2, mv_a_3, mk2_n, mk2_i, mk2_l, mk2_a, mk2_u, mk2_x, mB_T, mB_F, mS_cons, mS_nil, mSB_T, mSB_F, mca_nil, mca_i, mca_l, mca_r, mca_u, mca_x, mcat_i, mcat_l, mcat_r, mcat_u, mcat_x, mK_some, mK_none, va_rf_s, va_rf_n, lgc_eq, lgc_lt, lgc_gt, lgc_ge, lgc_le, mrd_104, mrd_105, mrd_106, mrd_107, true_and, and_true, and_self, false_and, and_false, true_or, or_true, false_or, or_false, not_true_eq_false, not_false_eq_true, mgb, mga, mgr, mN, reduceCtorEq, ↓reduceIte, eq_self, ge_iff_le, gt_iff_lt, hk_si, hk_sj, hk_sr, hl_si, hl_sj, hl_sr, hn_si, hn_sj, hn_sr, hs_si, hs_sj, hs_sr, hi_sj, hi_sr, hj_si, hj_sr, hr_si, hr_sj, hi_si, hj_sj, hr_sr, mg_si, mg_sj, mg_sr, Nat.reduceAdd, Nat.reduceMul, Nat.reduceSub, Nat.reduceLT, Nat.reduceGT, Nat.reduceEqDiff, Nat.reduceLeDiff, Nat.left_eq_add, Nat.add_eq_left, Nat.reduceMod, Nat.reduceDiv, Nat.succ_ne_self, g, t5, g67, e2, e00]
theorem u_353n (F : RF h) (e2 : mh_i h 81 60 = 1000) {x : Int32} : ∀ Q, mcall d 353 [.ref 81, .int x] h Q = Q (some (.int (-1))) h := fun Q => by
  have g := F.g 81 14 70 (by decide +kernel)
  have e00 : ((1000 : Int32) = 1000) = True := by decide
  clear F
  simp (disch := omega) only [e_353, s_353_0, s_353_1, s_353_4, s_353_7, s_353_10, s_353_11, s_353_12, s_353_13, s_353_16, s_353_17, s_353_20, s_353_21, s_353_22, s_353_23, s_353_24, s_353_27, s_353_28, s_353_29, s_353_32, s_353_33, s_353_36, e_353, mv_i_1, mv_l_1, mv_a_1, mv_a_2, mv_a_3, mk2_n, mk2_i, mk2_l, mk2_a, mk2_u, mk2_x, mB_T, mB_F, mS_cons, mS_nil, mSB_T, mSB_F, mca_nil, mca_i, mca_l, mca_r, mca_u, mca_x, mcat_i, mcat_l, mcat_r, mcat_u, mcat_x, mK_some, mK_none, va_rf_s, va_rf_n, lgc_eq, lgc_lt, lgc_gt, lgc_ge, lgc_le, mrd_104, mrd_105, mrd_106, mrd_107, true_and, and_true, and_self, false_and, and_false, true_or, or_true, false_or, or_false, not_true_eq_false, not_false_eq_true, mgb, mga, mgr, mN, reduceCtorEq, ↓reduceIte, eq_self, ge_iff_le, gt_iff_lt, hk_si, hk_sj, hk_sr, hl_si, hl_sj, hl_sr, hn_si, hn_sj, hn_sr, hs_si, hs_sj, hs_sr, hi_sj, hi_sr, hj_si, hj_sr, hr_si, hr_sj, hi_si, hj_sj, hr_sr, mg_si, mg_sj, mg_sr, Nat.reduceAdd, Nat.reduceMul, Nat.reduceSub, Nat.reduceLT, Nat.reduceGT, Nat.reduceEqDiff, Nat.reduceLeDiff, Nat.left_eq_add, Nat.add_eq_left, Nat.reduceMod, Nat.reduceDiv, Nat.succ_ne_self, g, e2, e00]
theorem nn_1000 {k : Nat} (hk : k < 1000) : (Int32.ofNat k = 1000) = False := by
  have e : (1000 : Int32) = Int32.ofNat 1000 := rfl
  rw [e, nn_eq (by omega) (by omega)]
  exact eq_false (by omega)
theorem v_206 (F : CF h) (e2 : mh_i h 67 2 = Int32.ofNat gv) (hg : gv < 1000) {x : Int32} : ∀ Q, mcall (d + 1) 206 [.ref 0, .int x] h Q = Q (some (.int (Int32.ofNat (gv + 1)))) (mh_si (mh_si h 68 gv x) 67 2 (Int32.ofNat (gv + 1))) := fun Q => by
  have g := F.g 0 11 15 (by decide +kernel)
  have t5 := F.f 0 5 67 (by decide +kernel)
  have g67 := F.g 67 2 13 (by decide +kernel)
  have t1 := F.f 67 1 68 (by decide +kernel)
  have g68 := F.g 68 100 1000 (by decide +kernel)
  have l68 := F.l 68 100 1000 (by decide +kernel)
  have n1 := nn_1000 hg
  have e3 : mh_i (mh_si h 68 gv x) 67 2 = Int32.ofNat gv := by rw [hi_si, if_neg (by omega)]; exact e2
  have e4 : mh_i (mh_si (mh_si h 68 gv x) 67 2 (Int32.ofNat (gv + 1))) 67 2 = Int32.ofNat (gv + 1) := by rw [hi_si, if_pos ⟨rfl, rfl⟩]
  have ea : Int32.ofNat gv + 1 = Int32.ofNat (gv + 1) := nn_add (a := gv) (b := 1)
  clear F
  simp (disch := omega) only [e_206, e_26, s_206_0, s_206_1, s_206_4, s_206_5, s_206_8, e_206, s_26_0, s_26_1, s_26_4, s_26_7, s_26_10, s_26_11, s_26_12, s_26_13, s_26_16, s_26_17, s_26_20, s_26_21, s_26_22, s_26_23, s_26_24, s_26_27, s_26_28, s_26_29, s_26_32, s_26_33, s_26_36, e_26, mv_i_1, mv_l_1, mv_a_1, mv_a_2, mv_a_3, mk2_n, mk2_i, mk2_l, mk2_a, mk2_u, mk2_x, mB_T, mB_F, mS_cons, mS_nil, mSB_T, mSB_F, mca_nil, mca_i, mca_l, mca_r, mca_u, mca_x, mcat_i, mcat_l, mcat_r, mcat_u, mcat_x, mK_some, mK_none, va_rf_s, va_rf_n, lgc_eq, lgc_lt, lgc_gt, lgc_ge, lgc_le, mrd_104, mrd_105, mrd_106, mrd_107, true_and, and_true, and_self, false_and, and_false, true_or, or_true, false_or, or_false, not_true_eq_false, not_false_eq_true, mgb, mga, mgr, mN, reduceCtorEq, ↓reduceIte, eq_self, ge_iff_le, gt_iff_lt, hk_si, hk_sj, hk_sr, hl_si, hl_sj, hl_sr, hn_si, hn_sj, hn_sr, hs_si, hs_sj, hs_sr, hi_sj, hi_sr, hj_si, hj_sr, hr_si, hr_sj, hi_si, hj_sj, hr_sr, mg_si, mg_sj, mg_sr, Nat.reduceAdd, Nat.reduceMul, Nat.reduceSub, Nat.reduceLT, Nat.reduceGT, Nat.reduceEqDiff, Nat.reduceLeDiff, Nat.left_eq_add, Nat.add_eq_left, Nat.reduceMod, Nat.reduceDiv, Nat.succ_ne_self, g, t5, g67, e2, n1, t1, g68, l68, nn_mxT, nn_clamp, e3, ea, e4]
theorem u_353 (F : RF h) (e2 : mh_i h 81 60 = Int32.ofNat gv) (hg : gv < 1000) {x : Int32} : ∀ Q, mcall d 353 [.ref 81, .int x] h Q = Q (some (.int (Int32.ofNat (gv + 1)))) (mh_si (mh_si h 2639 gv x) 81 60 (Int32.ofNat (gv + 1))) := fun Q => by
  have g := F.g 81 14 70 (by decide +kernel)
  have t1 := F.f 81 59 2639 (by decide +kernel)
  have g68 := F.g 2639 100 1000 (by decide +kernel)
  have l68 := F.l 2639 100 1000 (by decide +kernel)
  have n1 := nn_1000 hg
  have e3 : mh_i (mh_si h 2639 gv x) 81 60 = Int32.ofNat gv := by rw [hi_si, if_neg (by omega)]; exact e2
  have e4 : mh_i (mh_si (mh_si h 2639 gv x) 81 60 (Int32.ofNat (gv + 1))) 81 60 = Int32.ofNat (gv + 1) := by rw [hi_si, if_pos ⟨rfl, rfl⟩]
  have ea : Int32.ofNat gv + 1 = Int32.ofNat (gv + 1) := nn_add (a := gv) (b := 1)
  clear F
  simp (disch := omega) only [e_353, s_353_0, s_353_1, s_353_4, s_353_7, s_353_10, s_353_11, s_353_12, s_353_13, s_353_16, s_353_17, s_353_20, s_353_21, s_353_22, s_353_23, s_353_24, s_353_27, s_353_28, s_353_29, s_353_32, s_353_33, s_353_36, e_353, mv_i_1, mv_l_1, mv_a_1, mv_a_2, mv_a_3, mk2_n, mk2_i, mk2_l, mk2_a, mk2_u, mk2_x, mB_T, mB_F, mS_cons, mS_nil, mSB_T, mSB_F, mca_nil, mca_i, mca_l, mca_r, mca_u, mca_x, mcat_i, mcat_l, mcat_r, mcat_u, mcat_x, mK_some, mK_none, va_rf_s, va_rf_n, lgc_eq, lgc_lt, lgc_gt, lgc_ge, lgc_le, mrd_104, mrd_105, mrd_106, mrd_107, true_and, and_true, and_self, false_and, and_false, true_or, or_true, false_or, or_false, not_true_eq_false, not_false_eq_true, mgb, mga, mgr, mN, reduceCtorEq, ↓reduceIte, eq_self, ge_iff_le, gt_iff_lt, hk_si, hk_sj, hk_sr, hl_si, hl_sj, hl_sr, hn_si, hn_sj, hn_sr, hs_si, hs_sj, hs_sr, hi_sj, hi_sr, hj_si, hj_sr, hr_si, hr_sj, hi_si, hj_sj, hr_sr, mg_si, mg_sj, mg_sr, Nat.reduceAdd, Nat.reduceMul, Nat.reduceSub, Nat.reduceLT, Nat.reduceGT, Nat.reduceEqDiff, Nat.reduceLeDiff, Nat.left_eq_add, Nat.add_eq_left, Nat.reduceMod, Nat.reduceDiv, Nat.succ_ne_self, g, e2, n1, t1, g68, l68, nn_mxT, nn_clamp, e3, ea, e4]
end SMs
