set_option maxRecDepth 100000
/-! simple calls: value -/
section SPs
variable {d : Nat} {h h1 : mh_H} {i : Int32} {p n k : Nat}
theorem v_210o (F : CF h) (e4 : mh_i h 67 4 = Int32.ofNat p) (run : ∀ Q, mcall d 80 [.ref 2, .int (Int32.ofNat p)] h Q = Q (some (.int (Int32.ofNat n))) h) (hi : i < 0 ∨ Int32.ofNat n ≤ i) : ∀ Q, mcall (d + 1) 210 [.ref 0, .int i] h Q = Q (some (.int 0)) h := fun Q => by
  have g := F.g 0 11 15 (by decide +kernel)
  have t2 := F.f 0 2 2 (by decide +kernel)
  have t5 := F.f 0 5 67 (by decide +kernel)
  have g67 := F.g 67 2 13 (by decide +kernel)
  have g2 := F.g 2 4 20 (by decide +kernel)
  have e00 : ((0 : Int32) = 0) = True := by decide
  clear F
  rcases Classical.propComplete (i < 0) with c | c
  · simp (disch := omega) only [e_210, s_210_0, s_210_1, s_210_4, s_210_5, s_210_6, s_210_9, s_210_10, s_210_13, s_210_16, s_210_19, s_210_22, s_210_23, s_210_26, s_210_27, s_210_28, s_210_29, s_210_32, s_210_33, s_210_36, s_210_39, s_210_40, s_210_41, s_210_44, s_210_45, e_210, mv_i_1, mv_l_1, mv_a_1, mv_a_2, mv_a_3, mk2_n, mk2_i, mk2_l, mk2_a, mk2_u, mk2_x, mB_T, mB_F, mS_cons, mS_nil, mSB_T, mSB_F, mca_nil, mca_i, mca_l, mca_r, mca_u, mca_x, mcat_i, mcat_l, mcat_r, mcat_u, mcat_x, mK_some, mK_none, va_rf_s, va_rf_n, lgc_eq, lgc_lt, lgc_gt, lgc_ge, lgc_le, mrd_104, mrd_105, mrd_106, mrd_107, true_and, and_true, and_self, false_and, and_false, true_or, or_true, false_or, or_false, not_true_eq_false, not_false_eq_true, mgb, mga, mgr, mN, reduceCtorEq, ↓reduceIte, eq_self, ge_iff_le, gt_iff_lt, hk_si, hk_sj, hk_sr, hl_si, hl_sj, hl_sr, hn_si, hn_sj, hn_sr, hs_si, hs_sj, hs_sr, hi_sj, hi_sr, hj_si, hj_sr, hr_si, hr_sj, hi_si, hj_sj, hr_sr, mg_si, mg_sj, mg_sr, Nat.reduceAdd, Nat.reduceMul, Nat.reduceSub, Nat.reduceLT, Nat.reduceGT, Nat.reduceEqDiff, Nat.reduceLeDiff, Nat.left_eq_add, Nat.add_eq_left, Nat.reduceMod, Nat.reduceDiv, Nat.succ_ne_self, c, e00]
  · have l : (Int32.ofNat n ≤ i) = True := eq_true (hi.elim (fun z => absurd z (of_eq_false c)) id)
    simp (disch := omega) only [e_210, s_210_0, s_210_1, s_210_4, s_210_5, s_210_6, s_210_9, s_210_10, s_210_13, s_210_16, s_210_19, s_210_22, s_210_23, s_210_26, s_210_27, s_210_28, s_210_29, s_210_32, s_210_33, s_210_36, s_210_39, s_210_40, s_210_41, s_210_44, s_210_45, e_210, mv_i_1, mv_l_1, mv_a_1, mv_a_2, mv_a_3, mk2_n, mk2_i, mk2_l, mk2_a, mk2_u, mk2_x, mB_T, mB_F, mS_cons, mS_nil, mSB_T, mSB_F, mca_nil, mca_i, mca_l, mca_r, mca_u, mca_x, mcat_i, mcat_l, mcat_r, mcat_u, mcat_x, mK_some, mK_none, va_rf_s, va_rf_n, lgc_eq, lgc_lt, lgc_gt, lgc_ge, lgc_le, mrd_104, mrd_105, mrd_106, mrd_107, true_and, and_true, and_self, false_and, and_false, true_or, or_true, false_or, or_false, not_true_eq_false, not_false_eq_true, mgb, mga, mgr, mN, reduceCtorEq, ↓reduceIte, eq_self, ge_iff_le, gt_iff_lt, hk_si, hk_sj, hk_sr, hl_si, hl_sj, hl_sr, hn_si, hn_sj, hn_sr, hs_si, hs_sj, hs_sr, hi_sj, hi_sr, hj_si, hj_sr, hr_si, hr_sj, hi_si, hj_sj, hr_sr, mg_si, mg_sj, mg_sr, Nat.reduceAdd, Nat.reduceMul, Nat.reduceSub, Nat.reduceLT, Nat.reduceGT, Nat.reduceEqDiff, Nat.reduceLeDiff, Nat.left_eq_add, Nat.add_eq_left, Nat.reduceMod, Nat.reduceDiv, Nat.succ_ne_self, c, g, t2, t5, g67, g2, e4, run, l, e00]
theorem v_210 (F : CF h) (e4 : mh_i h 67 4 = Int32.ofNat p) (run : ∀ Q, mcall d 80 [.ref 2, .int (Int32.ofNat p)] h Q = Q (some (.int (Int32.ofNat n))) h) (hn : n ≤ 12) (hk : k < n) : ∀ Q, mcall (d + 1) 210 [.ref 0, .int (Int32.ofNat k)] h Q = Q (some (.int (mh_i h 69 k))) h := fun Q => by
  have g := F.g 0 11 15 (by decide +kernel)
  have t2 := F.f 0 2 2 (by decide +kernel)
  have t5 := F.f 0 5 67 (by decide +kernel)
  have g67 := F.g 67 2 13 (by decide +kernel)
  have g2 := F.g 2 4 20 (by decide +kernel)
  have t6 := F.f 67 6 69 (by decide +kernel)
  have g69 := F.g 69 100 12 (by decide +kernel)
  have l69 := F.l 69 100 12 (by decide +kernel)
  have e10 : ((1 : Int32) = 0) = False := by decide
  have n0 : (Int32.ofNat k < 0) = False := nn_neg (by omega)
  have l : (Int32.ofNat n ≤ Int32.ofNat k) = False := by rw [nn_le (by omega) (by omega)]; exact eq_false (by omega)
  clear F
  simp (disch := omega) only [e_210, s_210_0, s_210_1, s_210_4, s_210_5, s_210_6, s_210_9, s_210_10, s_210_13, s_210_16, s_210_19, s_210_22, s_210_23, s_210_26, s_210_27, s_210_28, s_210_29, s_210_32, s_210_33, s_210_36, s_210_39, s_210_40, s_210_41, s_210_44, s_210_45, e_210, mv_i_1, mv_l_1, mv_a_1, mv_a_2, mv_a_3, mk2_n, mk2_i, mk2_l, mk2_a, mk2_u, mk2_x, mB_T, mB_F, mS_cons, mS_nil, mSB_T, mSB_F, mca_nil, mca_i, mca_l, mca_r, mca_u, mca_x, mcat_i, mcat_l, mcat_r, mcat_u, mcat_x, mK_some, mK_none, va_rf_s, va_rf_n, lgc_eq, lgc_lt, lgc_gt, lgc_ge, lgc_le, mrd_104, mrd_105, mrd_106, mrd_107, true_and, and_true, and_self, false_and, and_false, true_or, or_true, false_or, or_false, not_true_eq_false, not_false_eq_true, mgb, mga, mgr, mN, reduceCtorEq, ↓reduceIte, eq_self, ge_iff_le, gt_iff_lt, hk_si, hk_sj, hk_sr, hl_si, hl_sj, hl_sr, hn_si, hn_sj, hn_sr, hs_si, hs_sj, hs_sr, hi_sj, hi_sr, hj_si, hj_sr, hr_si, hr_sj, hi_si, hj_sj, hr_sr, mg_si, mg_sj, mg_sr, Nat.reduceAdd, Nat.reduceMul, Nat.reduceSub, Nat.reduceLT, Nat.reduceGT, Nat.reduceEqDiff, Nat.reduceLeDiff, Nat.left_eq_add, Nat.add_eq_left, Nat.reduceMod, Nat.reduceDiv, Nat.succ_ne_self, n0, g, t2, t5, g67, g2, e4, run, l, e10, t6, g69, l69, nn_mxT, nn_clamp]
theorem u_370o (F : RF h) (hp : p < 250) (e4 : mh_i h 81 64 = Int32.ofNat p) (en : mh_i h 103 p = Int32.ofNat n) (hi : i < 0 ∨ Int32.ofNat n ≤ i) : ∀ Q, mcall d 370 [.ref 81, .int i] h Q = Q (some (.int 0)) h := fun Q => by
  have g := F.g 81 14 70 (by decide +kernel)
  have t31 := F.f 81 31 103 (by decide +kernel)
  have g3 := F.g 103 100 250 (by decide +kernel)
  have l3 := F.l 103 100 250 (by decide +kernel)
  clear F
  rcases Classical.propComplete (i < 0) with c | c
  · simp (disch := omega) only [e_370, s_370_0, s_370_1, s_370_4, s_370_5, s_370_6, s_370_9, s_370_10, s_370_13, s_370_14, s_370_17, s_370_18, s_370_21, s_370_22, s_370_25, s_370_26, s_370_27, e_370, mv_i_1, mv_l_1, mv_a_1, mv_a_2, mv_a_3, mk2_n, mk2_i, mk2_l, mk2_a, mk2_u, mk2_x, mB_T, mB_F, mS_cons, mS_nil, mSB_T, mSB_F, mca_nil, mca_i, mca_l, mca_r, mca_u, mca_x, mcat_i, mcat_l, mcat_r, mcat_u, mcat_x, mK_some, mK_none, va_rf_s, va_rf_n, lgc_eq, lgc_lt, lgc_gt, lgc_ge, lgc_le, mrd_104, mrd_105, mrd_106, mrd_107, true_and, and_true, and_self, false_and, and_false, true_or, or_true, false_or, or_false, not_true_eq_false, not_false_eq_true, mgb, mga, mgr, mN, reduceCtorEq, ↓reduceIte, eq_self, ge_iff_le, gt_iff_lt, hk_si, hk_sj, hk_sr, hl_si, hl_sj, hl_sr, hn_si, hn_sj, hn_sr, hs_si, hs_sj, hs_sr, hi_sj, hi_sr, hj_si, hj_sr, hr_si, hr_sj, hi_si, hj_sj, hr_sr, mg_si, mg_sj, mg_sr, Nat.reduceAdd, Nat.reduceMul, Nat.reduceSub, Nat.reduceLT, Nat.reduceGT, Nat.reduceEqDiff, Nat.reduceLeDiff, Nat.left_eq_add, Nat.add_eq_left, Nat.reduceMod, Nat.reduceDiv, Nat.succ_ne_self, c]
  · have l : (i < Int32.ofNat n) = False := eq_false (fun y => hi.elim (fun z => of_eq_false c z) (fun z => by
      rw [Int32.lt_iff_toInt_lt] at y
      rw [Int32.le_iff_toInt_le] at z
      omega))
    simp (disch := omega) only [e_370, s_370_0, s_370_1, s_370_4, s_370_5, s_370_6, s_370_9, s_370_10, s_370_13, s_370_14, s_370_17, s_370_18, s_370_21, s_370_22, s_370_25, s_370_26, s_370_27, e_370, mv_i_1, mv_l_1, mv_a_1, mv_a_2, mv_a_3, mk2_n, mk2_i, mk2_l, mk2_a, mk2_u, mk2_x, mB_T, mB_F, mS_cons, mS_nil, mSB_T, mSB_F, mca_nil, mca_i, mca_l, mca_r, mca_u, mca_x, mcat_i, mcat_l, mcat_r, mcat_u, mcat_x, mK_some, mK_none, va_rf_s, va_rf_n, lgc_eq, lgc_lt, lgc_gt, lgc_ge, lgc_le, mrd_104, mrd_105, mrd_106, mrd_107, true_and, and_true, and_self, false_and, and_false, true_or, or_true, false_or, or_false, not_true_eq_false, not_false_eq_true, mgb, mga, mgr, mN, reduceCtorEq, ↓reduceIte, eq_self, ge_iff_le, gt_iff_lt, hk_si, hk_sj, hk_sr, hl_si, hl_sj, hl_sr, hn_si, hn_sj, hn_sr, hs_si, hs_sj, hs_sr, hi_sj, hi_sr, hj_si, hj_sr, hr_si, hr_sj, hi_si, hj_sj, hr_sr, mg_si, mg_sj, mg_sr, Nat.reduceAdd, Nat.reduceMul, Nat.reduceSub, Nat.reduceLT, Nat.reduceGT, Nat.reduceEqDiff, Nat.reduceLeDiff, Nat.left_eq_add, Nat.add_eq_left, Nat.reduceMod, Nat.reduceDiv, Nat.succ_ne_self, c, g, t31, g3, l3, e4, nn_mxT, nn_clamp, en, l]
theorem u_370 (F : RF h) (hp : p < 250) (e4 : mh_i h 81 64 = Int32.ofNat p) (en : mh_i h 103 p = Int32.ofNat n) (hn : n ≤ 12) (hk : k < n) : ∀ Q, mcall d 370 [.ref 81, .int (Int32.ofNat k)] h Q = Q (some (.int (mh_i h 2640 k))) h := fun Q => by
  have g := F.g 81 14 70 (by decide +kernel)
  have t31 := F.f 81 31 103 (by decide +kernel)
  have g3 := F.g 103 100 250 (by decide +kernel)
  have l3 := F.l 103 100 250 (by decide +kernel)
  have t61 := F.f 81 61 2640 (by decide +kernel)
  have g4 := F.g 2640 100 12 (by decide +kernel)
  have l4 := F.l 2640 100 12 (by decide +kernel)
  have n0 : (Int32.ofNat k < 0) = False := nn_neg (by omega)
  have l : (Int32.ofNat k < Int32.ofNat n) = True := by rw [nn_lt (by omega) (by omega)]; exact eq_true hk
  clear F
  simp (disch := omega) only [e_370, s_370_0, s_370_1, s_370_4, s_370_5, s_370_6, s_370_9, s_370_10, s_370_13, s_370_14, s_370_17, s_370_18, s_370_21, s_370_22, s_370_25, s_370_26, s_370_27, e_370, mv_i_1, mv_l_1, mv_a_1, mv_a_2, mv_a_3, mk2_n, mk2_i, mk2_l, mk2_a, mk2_u, mk2_x, mB_T, mB_F, mS_cons, mS_nil, mSB_T, mSB_F, mca_nil, mca_i, mca_l, mca_r, mca_u, mca_x, mcat_i, mcat_l, mcat_r, mcat_u, mcat_x, mK_some, mK_none, va_rf_s, va_rf_n, lgc_eq, lgc_lt, lgc_gt, lgc_ge, lgc_le, mrd_104, mrd_105, mrd_106, mrd_107, true_and, and_true, and_self, false_and, and_false, true_or, or_true, false_or, or_false, not_true_eq_false, not_false_eq_true, mgb, mga, mgr, mN, reduceCtorEq, ↓reduceIte, eq_self, ge_iff_le, gt_iff_lt, hk_si, hk_sj, hk_sr, hl_si, hl_sj, hl_sr, hn_si, hn_sj, hn_sr, hs_si, hs_sj, hs_sr, hi_sj, hi_sr, hj_si, hj_sr, hr_si, hr_sj, hi_si, hj_sj, hr_sr, mg_si, mg_sj, mg_sr, Nat.reduceAdd, Nat.reduceMul, Nat.reduceSub, Nat.reduceLT, Nat.reduceGT, Nat.reduceEqDiff, Nat.reduceLeDiff, Nat.left_eq_add, Nat.add_eq_left, Nat.reduceMod, Nat.reduceDiv, Nat.succ_ne_self, n0, g, t31, g3, l3, e4, nn_mxT, nn_clamp, en, l, t61, g4, l4]
end SPs
