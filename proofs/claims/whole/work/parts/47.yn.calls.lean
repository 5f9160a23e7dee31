set_option maxRecDepth 100000
/-! simple calls: told of the reference, value -/
section SOs
variable {d : Nat} {h h1 : mh_H} {i : Int32}
theorem u_332n (F : RF h) (e9 : mh_i h 81 49 = -1) : ∀ Q, mcall d 332 [.ref 81, .int i] h Q = Q (some (.int (-1))) h := fun Q => by
  have g := F.g 81 14 70 (by decide +kernel)
  have e00 : ((-1 : Int32) = -1) = True := by decide
  clear F
  simp (disch := omega) only [e_332, s_332_0, s_332_1, s_332_4, s_332_5, s_332_8, s_332_9, s_332_12, s_332_13, s_332_14, s_332_17, s_332_18, s_332_21, s_332_22, s_332_25, s_332_26, s_332_29, s_332_32, s_332_33, s_332_34, s_332_37, s_332_38, s_332_41, s_332_44, s_332_45, s_332_48, s_332_51, s_332_52, s_332_55, s_332_58, s_332_61, s_332_62, e_332, mv_i_1, mv_l_1, mv_a_1, mv_a_2, mv_a_3, mk2_n, mk2_i, mk2_l, mk2_a, mk2_u, mk2_x, mB_T, mB_F, mS_cons, mS_nil, mSB_T, mSB_F, mca_nil, mca_i, mca_l, mca_r, mca_u, mca_x, mcat_i, mcat_l, mcat_r, mcat_u, mcat_x, mK_some, mK_none, va_rf_s, va_rf_n, lgc_eq, lgc_lt, lgc_gt, lgc_ge, lgc_le, mrd_104, mrd_105, mrd_106, mrd_107, true_and, and_true, and_self, false_and, and_false, true_or, or_true, false_or, or_false, not_true_eq_false, not_false_eq_true, mgb, mga, mgr, mN, reduceCtorEq, ↓reduceIte, eq_self, ge_iff_le, gt_iff_lt, hk_si, hk_sj, hk_sr, hl_si, hl_sj, hl_sr, hn_si, hn_sj, hn_sr, hs_si, hs_sj, hs_sr, hi_sj, hi_sr, hj_si, hj_sr, hr_si, hr_sj, hi_si, hj_sj, hr_sr, mg_si, mg_sj, mg_sr, Nat.reduceAdd, Nat.reduceMul, Nat.reduceSub, Nat.reduceLT, Nat.reduceGT, Nat.reduceEqDiff, Nat.reduceLeDiff, Nat.left_eq_add, Nat.add_eq_left, Nat.reduceMod, Nat.reduceDiv, Nat.succ_ne_self, g, e9, e00]
theorem u_332 (F : RF h) (e9 : (mh_i h 81 49 = -1) = False) {w : Int32} (e0 : w = if mh_i h 81 49 = 0 then mh_i h 115 8 else 0) : ∀ Q, mcall d 332 [.ref 81, .int i] h Q = Q (some (.int (an3 i (mh_i h 81 47) (mh_i h 81 48) w))) h := fun Q => by
  have g := F.g 81 14 70 (by decide +kernel)
  have t52 := F.f 81 52 115 (by decide +kernel)
  have g5 := F.g 115 12 38 (by decide +kernel)
  clear F
  rcases Classical.propComplete (i = 0) with c0 | c0
  · rw [an3_0 (of_eq_true c0)]
    have x := of_eq_true c0
    subst x
    have a1 : ((0 : Int32) < 0) = False := by decide
    have a2 : ((0 : Int32) ≤ 2) = True := by decide
    simp (disch := omega) only [e_332, s_332_0, s_332_1, s_332_4, s_332_5, s_332_8, s_332_9, s_332_12, s_332_13, s_332_14, s_332_17, s_332_18, s_332_21, s_332_22, s_332_25, s_332_26, s_332_29, s_332_32, s_332_33, s_332_34, s_332_37, s_332_38, s_332_41, s_332_44, s_332_45, s_332_48, s_332_51, s_332_52, s_332_55, s_332_58, s_332_61, s_332_62, e_332, mv_i_1, mv_l_1, mv_a_1, mv_a_2, mv_a_3, mk2_n, mk2_i, mk2_l, mk2_a, mk2_u, mk2_x, mB_T, mB_F, mS_cons, mS_nil, mSB_T, mSB_F, mca_nil, mca_i, mca_l, mca_r, mca_u, mca_x, mcat_i, mcat_l, mcat_r, mcat_u, mcat_x, mK_some, mK_none, va_rf_s, va_rf_n, lgc_eq, lgc_lt, lgc_gt, lgc_ge, lgc_le, mrd_104, mrd_105, mrd_106, mrd_107, true_and, and_true, and_self, false_and, and_false, true_or, or_true, false_or, or_false, not_true_eq_false, not_false_eq_true, mgb, mga, mgr, mN, reduceCtorEq, ↓reduceIte, eq_self, ge_iff_le, gt_iff_lt, hk_si, hk_sj, hk_sr, hl_si, hl_sj, hl_sr, hn_si, hn_sj, hn_sr, hs_si, hs_sj, hs_sr, hi_sj, hi_sr, hj_si, hj_sr, hr_si, hr_sj, hi_si, hj_sj, hr_sr, mg_si, mg_sj, mg_sr, Nat.reduceAdd, Nat.reduceMul, Nat.reduceSub, Nat.reduceLT, Nat.reduceGT, Nat.reduceEqDiff, Nat.reduceLeDiff, Nat.left_eq_add, Nat.add_eq_left, Nat.reduceMod, Nat.reduceDiv, Nat.succ_ne_self, e9, a1, a2, c0, g]
  rcases Classical.propComplete (i = 1) with c1 | c1
  · rw [an3_1 (of_eq_false c0) (of_eq_true c1)]
    have x := of_eq_true c1
    subst x
    have a1 : ((1 : Int32) < 0) = False := by decide
    have a2 : ((1 : Int32) ≤ 2) = True := by decide
    simp (disch := omega) only [e_332, s_332_0, s_332_1, s_332_4, s_332_5, s_332_8, s_332_9, s_332_12, s_332_13, s_332_14, s_332_17, s_332_18, s_332_21, s_332_22, s_332_25, s_332_26, s_332_29, s_332_32, s_332_33, s_332_34, s_332_37, s_332_38, s_332_41, s_332_44, s_332_45, s_332_48, s_332_51, s_332_52, s_332_55, s_332_58, s_332_61, s_332_62, e_332, mv_i_1, mv_l_1, mv_a_1, mv_a_2, mv_a_3, mk2_n, mk2_i, mk2_l, mk2_a, mk2_u, mk2_x, mB_T, mB_F, mS_cons, mS_nil, mSB_T, mSB_F, mca_nil, mca_i, mca_l, mca_r, mca_u, mca_x, mcat_i, mcat_l, mcat_r, mcat_u, mcat_x, mK_some, mK_none, va_rf_s, va_rf_n, lgc_eq, lgc_lt, lgc_gt, lgc_ge, lgc_le, mrd_104, mrd_105, mrd_106, mrd_107, true_and, and_true, and_self, false_and, and_false, true_or, or_true, false_or, or_false, not_true_eq_false, not_false_eq_true, mgb, mga, mgr, mN, reduceCtorEq, ↓reduceIte, eq_self, ge_iff_le, gt_iff_lt, hk_si, hk_sj, hk_sr, hl_si, hl_sj, hl_sr, hn_si, hn_sj, hn_sr, hs_si, hs_sj, hs_sr, hi_sj, hi_sr, hj_si, hj_sr, hr_si, hr_sj, hi_si, hj_sj, hr_sr, mg_si, mg_sj, mg_sr, Nat.reduceAdd, Nat.reduceMul, Nat.reduceSub, Nat.reduceLT, Nat.reduceGT, Nat.reduceEqDiff, Nat.reduceLeDiff, Nat.left_eq_add, Nat.add_eq_left, Nat.reduceMod, Nat.reduceDiv, Nat.succ_ne_self, e9, a1, a2, c0, c1, g]
  rcases Classical.propComplete (i = 2) with c2 | c2
  · rw [an3_2 (of_eq_false c0) (of_eq_false c1) (of_eq_true c2)]
    have x := of_eq_true c2
    subst x
    have a1 : ((2 : Int32) < 0) = False := by decide
    have a2 : ((2 : Int32) ≤ 2) = True := by decide
    rcases Classical.propComplete (mh_i h 81 49 = 0) with k | k
    · rw [if_pos (of_eq_true k)] at e0
      simp (disch := omega) only [e_332, s_332_0, s_332_1, s_332_4, s_332_5, s_332_8, s_332_9, s_332_12, s_332_13, s_332_14, s_332_17, s_332_18, s_332_21, s_332_22, s_332_25, s_332_26, s_332_29, s_332_32, s_332_33, s_332_34, s_332_37, s_332_38, s_332_41, s_332_44, s_332_45, s_332_48, s_332_51, s_332_52, s_332_55, s_332_58, s_332_61, s_332_62, e_332, mv_i_1, mv_l_1, mv_a_1, mv_a_2, mv_a_3, mk2_n, mk2_i, mk2_l, mk2_a, mk2_u, mk2_x, mB_T, mB_F, mS_cons, mS_nil, mSB_T, mSB_F, mca_nil, mca_i, mca_l, mca_r, mca_u, mca_x, mcat_i, mcat_l, mcat_r, mcat_u, mcat_x, mK_some, mK_none, va_rf_s, va_rf_n, lgc_eq, lgc_lt, lgc_gt, lgc_ge, lgc_le, mrd_104, mrd_105, mrd_106, mrd_107, true_and, and_true, and_self, false_and, and_false, true_or, or_true, false_or, or_false, not_true_eq_false, not_false_eq_true, mgb, mga, mgr, mN, reduceCtorEq, ↓reduceIte, eq_self, ge_iff_le, gt_iff_lt, hk_si, hk_sj, hk_sr, hl_si, hl_sj, hl_sr, hn_si, hn_sj, hn_sr, hs_si, hs_sj, hs_sr, hi_sj, hi_sr, hj_si, hj_sr, hr_si, hr_sj, hi_si, hj_sj, hr_sr, mg_si, mg_sj, mg_sr, Nat.reduceAdd, Nat.reduceMul, Nat.reduceSub, Nat.reduceLT, Nat.reduceGT, Nat.reduceEqDiff, Nat.reduceLeDiff, Nat.left_eq_add, Nat.add_eq_left, Nat.reduceMod, Nat.reduceDiv, Nat.succ_ne_self, e9, a1, a2, c0, c1, g, k, t52, g5, e0]
    · rw [if_neg (of_eq_false k)] at e0
      simp (disch := omega) only [e_332, s_332_0, s_332_1, s_332_4, s_332_5, s_332_8, s_332_9, s_332_12, s_332_13, s_332_14, s_332_17, s_332_18, s_332_21, s_332_22, s_332_25, s_332_26, s_332_29, s_332_32, s_332_33, s_332_34, s_332_37, s_332_38, s_332_41, s_332_44, s_332_45, s_332_48, s_332_51, s_332_52, s_332_55, s_332_58, s_332_61, s_332_62, e_332, mv_i_1, mv_l_1, mv_a_1, mv_a_2, mv_a_3, mk2_n, mk2_i, mk2_l, mk2_a, mk2_u, mk2_x, mB_T, mB_F, mS_cons, mS_nil, mSB_T, mSB_F, mca_nil, mca_i, mca_l, mca_r, mca_u, mca_x, mcat_i, mcat_l, mcat_r, mcat_u, mcat_x, mK_some, mK_none, va_rf_s, va_rf_n, lgc_eq, lgc_lt, lgc_gt, lgc_ge, lgc_le, mrd_104, mrd_105, mrd_106, mrd_107, true_and, and_true, and_self, false_and, and_false, true_or, or_true, false_or, or_false, not_true_eq_false, not_false_eq_true, mgb, mga, mgr, mN, reduceCtorEq, ↓reduceIte, eq_self, ge_iff_le, gt_iff_lt, hk_si, hk_sj, hk_sr, hl_si, hl_sj, hl_sr, hn_si, hn_sj, hn_sr, hs_si, hs_sj, hs_sr, hi_sj, hi_sr, hj_si, hj_sr, hr_si, hr_sj, hi_si, hj_sj, hr_sr, mg_si, mg_sj, mg_sr, Nat.reduceAdd, Nat.reduceMul, Nat.reduceSub, Nat.reduceLT, Nat.reduceGT, Nat.reduceEqDiff, Nat.reduceLeDiff, Nat.left_eq_add, Nat.add_eq_left, Nat.reduceMod, Nat.reduceDiv, Nat.succ_ne_self, e9, a1, a2, c0, c1, g, k, e0]
  · rw [an3_3 (of_eq_false c0) (of_eq_false c1) (of_eq_false c2)]
    rcases Classical.propComplete (i < 0) with k | k
    · simp (disch := omega) only [e_332, s_332_0, s_332_1, s_332_4, s_332_5, s_332_8, s_332_9, s_332_12, s_332_13, s_332_14, s_332_17, s_332_18, s_332_21, s_332_22, s_332_25, s_332_26, s_332_29, s_332_32, s_332_33, s_332_34, s_332_37, s_332_38, s_332_41, s_332_44, s_332_45, s_332_48, s_332_51, s_332_52, s_332_55, s_332_58, s_332_61, s_332_62, e_332, mv_i_1, mv_l_1, mv_a_1, mv_a_2, mv_a_3, mk2_n, mk2_i, mk2_l, mk2_a, mk2_u, mk2_x, mB_T, mB_F, mS_cons, mS_nil, mSB_T, mSB_F, mca_nil, mca_i, mca_l, mca_r, mca_u, mca_x, mcat_i, mcat_l, mcat_r, mcat_u, mcat_x, mK_some, mK_none, va_rf_s, va_rf_n, lgc_eq, lgc_lt, lgc_gt, lgc_ge, lgc_le, mrd_104, mrd_105, mrd_106, mrd_107, true_and, and_true, and_self, false_and, and_false, true_or, or_true, false_or, or_false, not_true_eq_false, not_false_eq_true, mgb, mga, mgr, mN, reduceCtorEq, ↓reduceIte, eq_self, ge_iff_le, gt_iff_lt, hk_si, hk_sj, hk_sr, hl_si, hl_sj, hl_sr, hn_si, hn_sj, hn_sr, hs_si, hs_sj, hs_sr, hi_sj, hi_sr, hj_si, hj_sr, hr_si, hr_sj, hi_si, hj_sj, hr_sr, mg_si, mg_sj, mg_sr, Nat.reduceAdd, Nat.reduceMul, Nat.reduceSub, Nat.reduceLT, Nat.reduceGT, Nat.reduceEqDiff, Nat.reduceLeDiff, Nat.left_eq_add, Nat.add_eq_left, Nat.reduceMod, Nat.reduceDiv, Nat.succ_ne_self, e9, g, k]
    · have k2 : (i ≤ 2) = False := eq_false (fun z => by
        have b0 := of_eq_false c0
        have b1 := of_eq_false c1
        have b2 := of_eq_false c2
        have b3 := of_eq_false k
        rw [← Int32.toInt_inj] at b0 b1 b2
        rw [Int32.lt_iff_toInt_lt] at b3
        rw [Int32.le_iff_toInt_le] at z
        have q0 : (0 : Int32).toInt = 0 := rfl
        have q1 : (1 : Int32).toInt = 1 := rfl
        have q2 : (2 : Int32).toInt = 2 := rfl
        omega)
      simp (disch := omega) only [e_332, s_332_0, s_332_1, s_332_4, s_332_5, s_332_8, s_332_9, s_332_12, s_332_13, s_332_14, s_332_17, s_332_18, s_332_21, s_332_22, s_332_25, s_332_26, s_332_29, s_332_32, s_332_33, s_332_34, s_332_37, s_332_38, s_332_41, s_332_44, s_332_45, s_332_48, s_332_51, s_332_52, s_332_55, s_332_58, s_332_61, s_332_62, e_332, mv_i_1, mv_l_1, mv_a_1, mv_a_2, mv_a_3, mk2_n, mk2_i, mk2_l, mk2_a, mk2_u, mk2_x, mB_T, mB_F, mS_cons, mS_nil, mSB_T, mSB_F, mca_nil, mca_i, mca_l, mca_r, mca_u, mca_x, mcat_i, mcat_l, mcat_r, mcat_u, mcat_x, mK_some, mK_none, va_rf_s, va_rf_n, lgc_eq, lgc_lt, lgc_gt, lgc_ge, lgc_le, mrd_104, mrd_105, mrd_106, mrd_107, true_and, and_true, and_self, false_and, and_false, true_or, or_true, false_or, or_false, not_true_eq_false, not_false_eq_true, mgb, mga, mgr, mN, reduceCtorEq, ↓reduceIte, eq_self, ge_iff_le, gt_iff_lt, hk_si, hk_sj, hk_sr, hl_si, hl_sj, hl_sr, hn_si, hn_sj, hn_sr, hs_si, hs_sj, hs_sr, hi_sj, hi_sr, hj_si, hj_sr, hr_si, hr_sj, hi_si, hj_sj, hr_sr, mg_si, mg_sj, mg_sr, Nat.reduceAdd, Nat.reduceMul, Nat.reduceSub, Nat.reduceLT, Nat.reduceGT, Nat.reduceEqDiff, Nat.reduceLeDiff, Nat.left_eq_add, Nat.add_eq_left, Nat.reduceMod, Nat.reduceDiv, Nat.succ_ne_self, e9, g, k, k2]
end SOs
