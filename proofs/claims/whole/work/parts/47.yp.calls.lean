set_option maxRecDepth 100000
/-! simple calls: place -/
section SQs
variable {d : Nat} {h h1 : mh_H} {i j : Int32} {p n k y w : Nat}
theorem v_211o (F : CF h) (e4 : mh_i h 67 4 = Int32.ofNat p) (run : ∀ Q, mcall d 81 [.ref 2, .int (Int32.ofNat p)] h Q = Q (some (.int (Int32.ofNat n))) h) (hi : i < 0 ∨ Int32.ofNat n ≤ i) : ∀ Q, mcall (d + 1) 211 [.ref 0, .int i, .int j] h Q = Q (some (.int 0)) h := fun Q => by
  have g := F.g 0 11 15 (by decide +kernel)
  have t2 := F.f 0 2 2 (by decide +kernel)
  have t5 := F.f 0 5 67 (by decide +kernel)
  have g67 := F.g 67 2 13 (by decide +kernel)
  have g2 := F.g 2 4 20 (by decide +kernel)
  have e00 : ((0 : Int32) = 0) = True := by decide
  clear F
  rcases Classical.propComplete (i < 0) with c | c
  · simp (disch := omega) only [e_211, s_211_0, s_211_1, s_211_4, s_211_5, s_211_6, s_211_9, s_211_10, s_211_13, s_211_16, s_211_19, s_211_22, s_211_23, s_211_26, s_211_27, s_211_28, s_211_29, s_211_32, s_211_33, s_211_36, s_211_37, s_211_38, s_211_41, s_211_44, s_211_45, s_211_46, s_211_49, s_211_50, s_211_53, s_211_56, s_211_57, s_211_59, s_211_60, s_211_61, s_211_62, s_211_63, s_211_66, s_211_67, e_211, mv_i_1, mv_l_1, mv_a_1, mv_a_2, mv_a_3, mk2_n, mk2_i, mk2_l, mk2_a, mk2_u, mk2_x, mB_T, mB_F, mS_cons, mS_nil, mSB_T, mSB_F, mca_nil, mca_i, mca_l, mca_r, mca_u, mca_x, mcat_i, mcat_l, mcat_r, mcat_u, mcat_x, mK_some, mK_none, va_rf_s, va_rf_n, lgc_eq, lgc_lt, lgc_gt, lgc_ge, lgc_le, mrd_104, mrd_105, mrd_106, mrd_107, true_and, and_true, and_self, false_and, and_false, true_or, or_true, false_or, or_false, not_true_eq_false, not_false_eq_true, mgb, mga, mgr, mN, reduceCtorEq, ↓reduceIte, eq_self, ge_iff_le, gt_iff_lt, hk_si, hk_sj, hk_sr, hl_si, hl_sj, hl_sr, hn_si, hn_sj, hn_sr, hs_si, hs_sj, hs_sr, hi_sj, hi_sr, hj_si, hj_sr, hr_si, hr_sj, hi_si, hj_sj, hr_sr, mg_si, mg_sj, mg_sr, Nat.reduceAdd, Nat.reduceMul, Nat.reduceSub, Nat.reduceLT, Nat.reduceGT, Nat.reduceEqDiff, Nat.reduceLeDiff, Nat.left_eq_add, Nat.add_eq_left, Nat.reduceMod, Nat.reduceDiv, Nat.succ_ne_self, c, e00]
  · have l : (Int32.ofNat n ≤ i) = True := eq_true (hi.elim (fun z => absurd z (of_eq_false c)) id)
    simp (disch := omega) only [e_211, s_211_0, s_211_1, s_211_4, s_211_5, s_211_6, s_211_9, s_211_10, s_211_13, s_211_16, s_211_19, s_211_22, s_211_23, s_211_26, s_211_27, s_211_28, s_211_29, s_211_32, s_211_33, s_211_36, s_211_37, s_211_38, s_211_41, s_211_44, s_211_45, s_211_46, s_211_49, s_211_50, s_211_53, s_211_56, s_211_57, s_211_59, s_211_60, s_211_61, s_211_62, s_211_63, s_211_66, s_211_67, e_211, mv_i_1, mv_l_1, mv_a_1, mv_a_2, mv_a_3, mk2_n, mk2_i, mk2_l, mk2_a, mk2_u, mk2_x, mB_T, mB_F, mS_cons, mS_nil, mSB_T, mSB_F, mca_nil, mca_i, mca_l, mca_r, mca_u, mca_x, mcat_i, mcat_l, mcat_r, mcat_u, mcat_x, mK_some, mK_none, va_rf_s, va_rf_n, lgc_eq, lgc_lt, lgc_gt, lgc_ge, lgc_le, mrd_104, mrd_105, mrd_106, mrd_107, true_and, and_true, and_self, false_and, and_false, true_or, or_true, false_or, or_false, not_true_eq_false, not_false_eq_true, mgb, mga, mgr, mN, reduceCtorEq, ↓reduceIte, eq_self, ge_iff_le, gt_iff_lt, hk_si, hk_sj, hk_sr, hl_si, hl_sj, hl_sr, hn_si, hn_sj, hn_sr, hs_si, hs_sj, hs_sr, hi_sj, hi_sr, hj_si, hj_sr, hr_si, hr_sj, hi_si, hj_sj, hr_sr, mg_si, mg_sj, mg_sr, Nat.reduceAdd, Nat.reduceMul, Nat.reduceSub, Nat.reduceLT, Nat.reduceGT, Nat.reduceEqDiff, Nat.reduceLeDiff, Nat.left_eq_add, Nat.add_eq_left, Nat.reduceMod, Nat.reduceDiv, Nat.succ_ne_self, c, g, t2, t5, g67, g2, e4, run, l, e00]
theorem v_211j (F : CF h) (e4 : mh_i h 67 4 = Int32.ofNat p) (run : ∀ Q, mcall d 81 [.ref 2, .int (Int32.ofNat p)] h Q = Q (some (.int (Int32.ofNat n))) h) (hn : n ≤ 6) (hk : k < n) (ew : mh_i h 71 k = Int32.ofNat w) (hj : j < 0 ∨ Int32.ofNat w ≤ j) : ∀ Q, mcall (d + 1) 211 [.ref 0, .int (Int32.ofNat k), .int j] h Q = Q (some (.int 0)) h := fun Q => by
  have g := F.g 0 11 15 (by decide +kernel)
  have t2 := F.f 0 2 2 (by decide +kernel)
  have t5 := F.f 0 5 67 (by decide +kernel)
  have g67 := F.g 67 2 13 (by decide +kernel)
  have g2 := F.g 2 4 20 (by decide +kernel)
  have t8 := F.f 67 8 71 (by decide +kernel)
  have g71 := F.g 71 100 6 (by decide +kernel)
  have l71 := F.l 71 100 6 (by decide +kernel)
  have e10 : ((1 : Int32) = 0) = False := by decide
  have n0 : (Int32.ofNat k < 0) = False := nn_neg (by omega)
  have l : (Int32.ofNat n ≤ Int32.ofNat k) = False := by rw [nn_le (by omega) (by omega)]; exact eq_false (by omega)
  clear F
  rcases Classical.propComplete (j < 0) with c | c
  · simp (disch := omega) only [e_211, s_211_0, s_211_1, s_211_4, s_211_5, s_211_6, s_211_9, s_211_10, s_211_13, s_211_16, s_211_19, s_211_22, s_211_23, s_211_26, s_211_27, s_211_28, s_211_29, s_211_32, s_211_33, s_211_36, s_211_37, s_211_38, s_211_41, s_211_44, s_211_45, s_211_46, s_211_49, s_211_50, s_211_53, s_211_56, s_211_57, s_211_59, s_211_60, s_211_61, s_211_62, s_211_63, s_211_66, s_211_67, e_211, mv_i_1, mv_l_1, mv_a_1, mv_a_2, mv_a_3, mk2_n, mk2_i, mk2_l, mk2_a, mk2_u, mk2_x, mB_T, mB_F, mS_cons, mS_nil, mSB_T, mSB_F, mca_nil, mca_i, mca_l, mca_r, mca_u, mca_x, mcat_i, mcat_l, mcat_r, mcat_u, mcat_x, mK_some, mK_none, va_rf_s, va_rf_n, lgc_eq, lgc_lt, lgc_gt, lgc_ge, lgc_le, mrd_104, mrd_105, mrd_106, mrd_107, true_and, and_true, and_self, false_and, and_false, true_or, or_true, false_or, or_false, not_true_eq_false, not_false_eq_true, mgb, mga, mgr, mN, reduceCtorEq, ↓reduceIte, eq_self, ge_iff_le, gt_iff_lt, hk_si, hk_sj, hk_sr, hl_si, hl_sj, hl_sr, hn_si, hn_sj, hn_sr, hs_si, hs_sj, hs_sr, hi_sj, hi_sr, hj_si, hj_sr, hr_si, hr_sj, hi_si, hj_sj, hr_sr, mg_si, mg_sj, mg_sr, Nat.reduceAdd, Nat.reduceMul, Nat.reduceSub, Nat.reduceLT, Nat.reduceGT, Nat.reduceEqDiff, Nat.reduceLeDiff, Nat.left_eq_add, Nat.add_eq_left, Nat.reduceMod, Nat.reduceDiv, Nat.succ_ne_self, n0, g, t2, t5, g67, g2, e4, run, l, e10, c]
  · have m : (Int32.ofNat w ≤ j) = True := eq_true (hj.elim (fun z => absurd z (of_eq_false c)) id)
    simp (disch := omega) only [e_211, s_211_0, s_211_1, s_211_4, s_211_5, s_211_6, s_211_9, s_211_10, s_211_13, s_211_16, s_211_19, s_211_22, s_211_23, s_211_26, s_211_27, s_211_28, s_211_29, s_211_32, s_211_33, s_211_36, s_211_37, s_211_38, s_211_41, s_211_44, s_211_45, s_211_46, s_211_49, s_211_50, s_211_53, s_211_56, s_211_57, s_211_59, s_211_60, s_211_61, s_211_62, s_211_63, s_211_66, s_211_67, e_211, mv_i_1, mv_l_1, mv_a_1, mv_a_2, mv_a_3, mk2_n, mk2_i, mk2_l, mk2_a, mk2_u, mk2_x, mB_T, mB_F, mS_cons, mS_nil, mSB_T, mSB_F, mca_nil, mca_i, mca_l, mca_r, mca_u, mca_x, mcat_i, mcat_l, mcat_r, mcat_u, mcat_x, mK_some, mK_none, va_rf_s, va_rf_n, lgc_eq, lgc_lt, lgc_gt, lgc_ge, lgc_le, mrd_104, mrd_105, mrd_106, mrd_107, true_and, and_true, and_self, false_and, and_false, true_or, or_true, false_or, or_false, not_true_eq_false, not_false_eq_true, mgb, mga, mgr, mN, reduceCtorEq, ↓reduceIte, eq_self, ge_iff_le, gt_iff_lt, hk_si, hk_sj, hk_sr, hl_si, hl_sj, hl_sr, hn_si, hn_sj, hn_sr, hs_si, hs_sj, hs_sr, hi_sj, hi_sr, hj_si, hj_sr, hr_si, hr_sj, hi_si, hj_sj, hr_sr, mg_si, mg_sj, mg_sr, Nat.reduceAdd, Nat.reduceMul, Nat.reduceSub, Nat.reduceLT, Nat.reduceGT, Nat.reduceEqDiff, Nat.reduceLeDiff, Nat.left_eq_add, Nat.add_eq_left, Nat.reduceMod, Nat.reduceDiv, Nat.succ_ne_self, n0, g, t2, t5, g67, g2, e4, run, l, e10, c, t8, g71, l71, nn_mxT, nn_clamp, ew, m]
theorem v_211 (F : CF h) (e4 : mh_i h 67 4 = Int32.ofNat p) (run : ∀ Q, mcall d 81 [.ref 2, .int (Int32.ofNat p)] h Q = Q (some (.int (Int32.ofNat n))) h) (hn : n ≤ 6) (hk : k < n) (ew : mh_i h 71 k = Int32.ofNat w) (hw : w ≤ 64) (hy : y < w) : ∀ Q, mcall (d + 1) 211 [.ref 0, .int (Int32.ofNat k), .int (Int32.ofNat y)] h Q = Q (some (.int (mh_i h 70 (k * 64 + y)))) h := fun Q => by
  have g := F.g 0 11 15 (by decide +kernel)
  have t2 := F.f 0 2 2 (by decide +kernel)
  have t5 := F.f 0 5 67 (by decide +kernel)
  have g67 := F.g 67 2 13 (by decide +kernel)
  have g2 := F.g 2 4 20 (by decide +kernel)
  have t8 := F.f 67 8 71 (by decide +kernel)
  have g71 := F.g 71 100 6 (by decide +kernel)
  have l71 := F.l 71 100 6 (by decide +kernel)
  have t7 := F.f 67 7 70 (by decide +kernel)
  have g70 := F.g 70 100 384 (by decide +kernel)
  have l70 := F.l 70 100 384 (by decide +kernel)
  have e10 : ((1 : Int32) = 0) = False := by decide
  have n0 : (Int32.ofNat k < 0) = False := nn_neg (by omega)
  have n1 : (Int32.ofNat y < 0) = False := nn_neg (by omega)
  have l : (Int32.ofNat n ≤ Int32.ofNat k) = False := by rw [nn_le (by omega) (by omega)]; exact eq_false (by omega)
  have m : (Int32.ofNat w ≤ Int32.ofNat y) = False := by rw [nn_le (by omega) (by omega)]; exact eq_false (by omega)
  have ea : Int32.ofNat k * 64 + Int32.ofNat y = Int32.ofNat (k * 64 + y) := by
    have e : (64 : Int32) = Int32.ofNat 64 := rfl
    rw [e, nn_mul, nn_add]
  clear F
  simp (disch := omega) only [e_211, s_211_0, s_211_1, s_211_4, s_211_5, s_211_6, s_211_9, s_211_10, s_211_13, s_211_16, s_211_19, s_211_22, s_211_23, s_211_26, s_211_27, s_211_28, s_211_29, s_211_32, s_211_33, s_211_36, s_211_37, s_211_38, s_211_41, s_211_44, s_211_45, s_211_46, s_211_49, s_211_50, s_211_53, s_211_56, s_211_57, s_211_59, s_211_60, s_211_61, s_211_62, s_211_63, s_211_66, s_211_67, e_211, mv_i_1, mv_l_1, mv_a_1, mv_a_2, mv_a_3, mk2_n, mk2_i, mk2_l, mk2_a, mk2_u, mk2_x, mB_T, mB_F, mS_cons, mS_nil, mSB_T, mSB_F, mca_nil, mca_i, mca_l, mca_r, mca_u, mca_x, mcat_i, mcat_l, mcat_r, mcat_u, mcat_x, mK_some, mK_none, va_rf_s, va_rf_n, lgc_eq, lgc_lt, lgc_gt, lgc_ge, lgc_le, mrd_104, mrd_105, mrd_106, mrd_107, true_and, and_true, and_self, false_and, and_false, true_or, or_true, false_or, or_false, not_true_eq_false, not_false_eq_true, mgb, mga, mgr, mN, reduceCtorEq, ↓reduceIte, eq_self, ge_iff_le, gt_iff_lt, hk_si, hk_sj, hk_sr, hl_si, hl_sj, hl_sr, hn_si, hn_sj, hn_sr, hs_si, hs_sj, hs_sr, hi_sj, hi_sr, hj_si, hj_sr, hr_si, hr_sj, hi_si, hj_sj, hr_sr, mg_si, mg_sj, mg_sr, Nat.reduceAdd, Nat.reduceMul, Nat.reduceSub, Nat.reduceLT, Nat.reduceGT, Nat.reduceEqDiff, Nat.reduceLeDiff, Nat.left_eq_add, Nat.add_eq_left, Nat.reduceMod, Nat.reduceDiv, Nat.succ_ne_self, n0, n1, g, t2, t5, g67, g2, e4, run, l, e10, t8, g71, l71, nn_mxT, nn_clamp, ew, m, t7, g70, l70, ea]
end SQs
