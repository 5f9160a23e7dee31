set_option maxRecDepth 100000
/-! the class's Program: note, blockEnd, behindBlock -/
section PGs
variable {d : Nat} {h : mh_H} {p o St kd cnt M E : Nat}
theorem c_86 (F : CF h) {w q : Int32} : ∀ Q, mcall d 86 [.ref 2, .int w, .int q] h Q = Q none (mh_si (mh_si h 2 18 w) 2 19 q) := by
  intro Q
  have g2 := F.g 2 4 20 (by decide +kernel)
  clear F
  simp (disch := omega) only [s_86_0, s_86_1, s_86_2, s_86_5, s_86_6, s_86_7, s_86_10, e_86, mv_i_1, mv_l_1, mv_a_1, mv_a_2, mv_a_3, mk2_n, mk2_i, mk2_l, mk2_a, mk2_u, mk2_x, mB_T, mB_F, mS_cons, mS_nil, mSB_T, mSB_F, mca_nil, mca_i, mca_l, mca_r, mca_u, mca_x, mcat_i, mcat_l, mcat_r, mcat_u, mcat_x, mK_some, mK_none, va_rf_s, va_rf_n, lgc_eq, lgc_lt, lgc_gt, lgc_ge, lgc_le, mrd_104, mrd_105, mrd_106, mrd_107, true_and, and_true, and_self, false_and, and_false, true_or, or_true, false_or, or_false, not_true_eq_false, not_false_eq_true, mgb, mga, mgr, mN, reduceCtorEq, ↓reduceIte, eq_self, ge_iff_le, gt_iff_lt, hk_si, hk_sj, hk_sr, hl_si, hl_sj, hl_sr, hn_si, hn_sj, hn_sr, hs_si, hs_sj, hs_sr, hi_sj, hi_sr, hj_si, hj_sr, hr_si, hr_sj, hi_si, hj_sj, hr_sr, mg_si, mg_sj, mg_sr, Nat.reduceAdd, Nat.reduceMul, Nat.reduceSub, Nat.reduceLT, Nat.reduceGT, Nat.reduceEqDiff, Nat.reduceLeDiff, Nat.left_eq_add, Nat.add_eq_left, Nat.reduceMod, Nat.reduceDiv, Nat.succ_ne_self, g2]
theorem c_95n (F : CF h) (ec : mh_i h 2 2 = Int32.ofNat cnt) (hc : 1 ≤ cnt) : ∀ Q, mcall d 95 [.ref 2, .int (-1)] h Q = Q (some (.int (Int32.ofNat (cnt - 1)))) h := by
  intro Q
  have g2 := F.g 2 4 20 (by decide +kernel)
  have m1 : ((-1 : Int32) = -1) = True := eq_true rfl
  have es : Int32.ofNat cnt - 1 = Int32.ofNat (cnt - 1) := nn_sub (a := cnt) (b := 1) hc
  clear F
  simp (disch := omega) only [s_95_0, s_95_1, s_95_2, s_95_5, s_95_6, s_95_9, s_95_10, s_95_11, s_95_12, s_95_13, s_95_16, s_95_17, s_95_18, s_95_21, s_95_23, s_95_26, s_95_27, s_95_30, s_95_31, s_95_34, s_95_35, s_95_35x, s_95_36, e_95, mv_i_1, mv_l_1, mv_a_1, mv_a_2, mv_a_3, mk2_n, mk2_i, mk2_l, mk2_a, mk2_u, mk2_x, mB_T, mB_F, mS_cons, mS_nil, mSB_T, mSB_F, mca_nil, mca_i, mca_l, mca_r, mca_u, mca_x, mcat_i, mcat_l, mcat_r, mcat_u, mcat_x, mK_some, mK_none, va_rf_s, va_rf_n, lgc_eq, lgc_lt, lgc_gt, lgc_ge, lgc_le, mrd_104, mrd_105, mrd_106, mrd_107, true_and, and_true, and_self, false_and, and_false, true_or, or_true, false_or, or_false, not_true_eq_false, not_false_eq_true, mgb, mga, mgr, mN, reduceCtorEq, ↓reduceIte, eq_self, ge_iff_le, gt_iff_lt, Nat.reduceAdd, Nat.reduceMul, Nat.reduceSub, Nat.reduceLT, Nat.reduceGT, Nat.reduceEqDiff, Nat.reduceLeDiff, Nat.left_eq_add, Nat.add_eq_left, Nat.reduceMod, Nat.reduceDiv, Nat.succ_ne_self, g2, m1, ec, es]
theorem c_95s (F : CF h) (ho : o < 250) (rS : mh_r h 20 o = some St) (gS : mg h St 9) (s0 : mh_i h St 0 = Int32.ofNat kd) (hkd : kd < 100) : ∀ Q, mcall d 95 [.ref 2, .int (Int32.ofNat o)] h Q = Q (some (.int (if kd = 6 then Int32.ofNat o else mh_i h 29 o))) h := by
  intro Q
  have g2 := F.g 2 4 20 (by decide +kernel)
  have t3 := F.f 2 3 20 (by decide +kernel)
  have g20 := (F.g 20 105 250 (by decide +kernel)).1
  have g20b := (F.g 20 105 250 (by decide +kernel)).2
  have l20 := F.l 20 105 250 (by decide +kernel)
  have t12 := F.f 2 12 29 (by decide +kernel)
  have g29 := F.g 29 100 250 (by decide +kernel)
  have l29 := F.l 29 100 250 (by decide +kernel)
  have ni : (Int32.ofNat o = -1) = False := nn_m2 (by omega)
  have e6 : (Int32.ofNat kd = 6) = (kd = 6) := nn_eq (a := kd) (b := 6) (by omega) (by decide)
  clear F
  by_cases c : kd = 6
  · rw [if_pos c]
    have c' := e6.trans (eq_true c)
    simp (disch := omega) only [s_95_0, s_95_1, s_95_2, s_95_5, s_95_6, s_95_9, s_95_10, s_95_11, s_95_12, s_95_13, s_95_16, s_95_17, s_95_18, s_95_21, s_95_23, s_95_26, s_95_27, s_95_30, s_95_31, s_95_34, s_95_35, s_95_35x, s_95_36, e_95, mv_i_1, mv_l_1, mv_a_1, mv_a_2, mv_a_3, mk2_n, mk2_i, mk2_l, mk2_a, mk2_u, mk2_x, mB_T, mB_F, mS_cons, mS_nil, mSB_T, mSB_F, mca_nil, mca_i, mca_l, mca_r, mca_u, mca_x, mcat_i, mcat_l, mcat_r, mcat_u, mcat_x, mK_some, mK_none, va_rf_s, va_rf_n, lgc_eq, lgc_lt, lgc_gt, lgc_ge, lgc_le, mrd_104, mrd_105, mrd_106, mrd_107, true_and, and_true, and_self, false_and, and_false, true_or, or_true, false_or, or_false, not_true_eq_false, not_false_eq_true, mgb, mga, mgr, mN, reduceCtorEq, ↓reduceIte, eq_self, ge_iff_le, gt_iff_lt, Nat.reduceAdd, Nat.reduceMul, Nat.reduceSub, Nat.reduceLT, Nat.reduceGT, Nat.reduceEqDiff, Nat.reduceLeDiff, Nat.left_eq_add, Nat.add_eq_left, Nat.reduceMod, Nat.reduceDiv, Nat.succ_ne_self, g2, ni, t3, g20, g20b, l20, rS, gS, s0, c', nn_mxT, nn_clamp]
  · rw [if_neg c]
    have c' := e6.trans (eq_false c)
    simp (disch := omega) only [s_95_0, s_95_1, s_95_2, s_95_5, s_95_6, s_95_9, s_95_10, s_95_11, s_95_12, s_95_13, s_95_16, s_95_17, s_95_18, s_95_21, s_95_23, s_95_26, s_95_27, s_95_30, s_95_31, s_95_34, s_95_35, s_95_35x, s_95_36, e_95, mv_i_1, mv_l_1, mv_a_1, mv_a_2, mv_a_3, mk2_n, mk2_i, mk2_l, mk2_a, mk2_u, mk2_x, mB_T, mB_F, mS_cons, mS_nil, mSB_T, mSB_F, mca_nil, mca_i, mca_l, mca_r, mca_u, mca_x, mcat_i, mcat_l, mcat_r, mcat_u, mcat_x, mK_some, mK_none, va_rf_s, va_rf_n, lgc_eq, lgc_lt, lgc_gt, lgc_ge, lgc_le, mrd_104, mrd_105, mrd_106, mrd_107, true_and, and_true, and_self, false_and, and_false, true_or, or_true, false_or, or_false, not_true_eq_false, not_false_eq_true, mgb, mga, mgr, mN, reduceCtorEq, ↓reduceIte, eq_self, ge_iff_le, gt_iff_lt, Nat.reduceAdd, Nat.reduceMul, Nat.reduceSub, Nat.reduceLT, Nat.reduceGT, Nat.reduceEqDiff, Nat.reduceLeDiff, Nat.left_eq_add, Nat.add_eq_left, Nat.reduceMod, Nat.reduceDiv, Nat.succ_ne_self, g2, ni, t3, g20, g20b, l20, rS, gS, s0, c', t12, g29, l29, nn_mxT, nn_clamp]
theorem c_94n (F : CF h) (hp : p < 250) (ew : mh_i h 24 p = -1) (ec : mh_i h 2 2 = Int32.ofNat cnt) : ∀ Q, mcall d 94 [.ref 2, .int (Int32.ofNat p)] h Q = Q (some (.int (Int32.ofNat cnt))) h := by
  intro Q
  have g2 := F.g 2 4 20 (by decide +kernel)
  have t7 := F.f 2 7 24 (by decide +kernel)
  have g24 := F.g 24 100 250 (by decide +kernel)
  have l24 := F.l 24 100 250 (by decide +kernel)
  have m1 : ((-1 : Int32) = -1) = True := eq_true rfl
  clear F
  simp (disch := omega) only [s_94_0, s_94_1, s_94_4, s_94_5, s_94_5x, s_94_6, s_94_7, s_94_8, s_94_9, s_94_12, s_94_13, s_94_16, s_94_17, s_94_18, s_94_21, s_94_22, s_94_23, s_94_26, s_94_27, s_94_30, s_94_31, s_94_32, s_94_35, s_94_36, s_94_36x, s_94_37, s_94_40, s_94_41, s_94_44, s_94_45, s_94_46, s_94_47, s_94_50, s_94_51, s_94_54, s_94_55, s_94_55x, s_94_56, s_94_59, s_94_60, s_94_63, s_94_64, s_94_64x, s_94_65, e_94, mv_i_1, mv_l_1, mv_a_1, mv_a_2, mv_a_3, mk2_n, mk2_i, mk2_l, mk2_a, mk2_u, mk2_x, mB_T, mB_F, mS_cons, mS_nil, mSB_T, mSB_F, mca_nil, mca_i, mca_l, mca_r, mca_u, mca_x, mcat_i, mcat_l, mcat_r, mcat_u, mcat_x, mK_some, mK_none, va_rf_s, va_rf_n, lgc_eq, lgc_lt, lgc_gt, lgc_ge, lgc_le, mrd_104, mrd_105, mrd_106, mrd_107, true_and, and_true, and_self, false_and, and_false, true_or, or_true, false_or, or_false, not_true_eq_false, not_false_eq_true, mgb, mga, mgr, mN, reduceCtorEq, ↓reduceIte, eq_self, ge_iff_le, gt_iff_lt, Nat.reduceAdd, Nat.reduceMul, Nat.reduceSub, Nat.reduceLT, Nat.reduceGT, Nat.reduceEqDiff, Nat.reduceLeDiff, Nat.left_eq_add, Nat.add_eq_left, Nat.reduceMod, Nat.reduceDiv, Nat.succ_ne_self, g2, t7, g24, l24, ew, m1, ec, nn_mxT, nn_clamp]
theorem c_94s (F : CF h) (hp : p < 250) (ho : o < 250) (ew : mh_i h 24 p = Int32.ofNat o) (rS : mh_r h 20 o = some St) (gS : mg h St 9) (s0 : mh_i h St 0 = Int32.ofNat kd) (hkd : kd < 100) (eM : kd = 5 → mh_i h 25 o = Int32.ofNat M) (hM : M < 1000) (eE : mh_i h 26 o = Int32.ofNat E) : ∀ Q, mcall d 94 [.ref 2, .int (Int32.ofNat p)] h Q = Q (some (.int (Int32.ofNat (if kd = 5 ∧ p < M then M else E)))) h := by
  intro Q
  have g2 := F.g 2 4 20 (by decide +kernel)
  have t3 := F.f 2 3 20 (by decide +kernel)
  have g20 := (F.g 20 105 250 (by decide +kernel)).1
  have g20b := (F.g 20 105 250 (by decide +kernel)).2
  have l20 := F.l 20 105 250 (by decide +kernel)
  have t7 := F.f 2 7 24 (by decide +kernel)
  have g24 := F.g 24 100 250 (by decide +kernel)
  have l24 := F.l 24 100 250 (by decide +kernel)
  have t8 := F.f 2 8 25 (by decide +kernel)
  have g25 := F.g 25 100 250 (by decide +kernel)
  have l25 := F.l 25 100 250 (by decide +kernel)
  have t9 := F.f 2 9 26 (by decide +kernel)
  have g26 := F.g 26 100 250 (by decide +kernel)
  have l26 := F.l 26 100 250 (by decide +kernel)
  have ni : (Int32.ofNat o = -1) = False := nn_m2 (by omega)
  have e5 : (Int32.ofNat kd = 5) = (kd = 5) := nn_eq (a := kd) (b := 5) (by omega) (by decide)
  have n1 : ((1 : Int32) = 0) = False := by decide
  have z0 : ((0 : Int32) = 0) = True := eq_true rfl
  clear F
  by_cases c : kd = 5
  · have c' := e5.trans (eq_true c)
    have eM' := eM c
    by_cases c2 : M ≤ p
    · have c2' := eq_true c2
      rw [if_neg (fun z => by omega)]
      simp (disch := omega) only [s_94_0, s_94_1, s_94_4, s_94_5, s_94_5x, s_94_6, s_94_7, s_94_8, s_94_9, s_94_12, s_94_13, s_94_16, s_94_17, s_94_18, s_94_21, s_94_22, s_94_23, s_94_26, s_94_27, s_94_30, s_94_31, s_94_32, s_94_35, s_94_36, s_94_36x, s_94_37, s_94_40, s_94_41, s_94_44, s_94_45, s_94_46, s_94_47, s_94_50, s_94_51, s_94_54, s_94_55, s_94_55x, s_94_56, s_94_59, s_94_60, s_94_63, s_94_64, s_94_64x, s_94_65, e_94, mv_i_1, mv_l_1, mv_a_1, mv_a_2, mv_a_3, mk2_n, mk2_i, mk2_l, mk2_a, mk2_u, mk2_x, mB_T, mB_F, mS_cons, mS_nil, mSB_T, mSB_F, mca_nil, mca_i, mca_l, mca_r, mca_u, mca_x, mcat_i, mcat_l, mcat_r, mcat_u, mcat_x, mK_some, mK_none, va_rf_s, va_rf_n, lgc_eq, lgc_lt, lgc_gt, lgc_ge, lgc_le, mrd_104, mrd_105, mrd_106, mrd_107, true_and, and_true, and_self, false_and, and_false, true_or, or_true, false_or, or_false, not_true_eq_false, not_false_eq_true, mgb, mga, mgr, mN, reduceCtorEq, ↓reduceIte, eq_self, ge_iff_le, gt_iff_lt, Nat.reduceAdd, Nat.reduceMul, Nat.reduceSub, Nat.reduceLT, Nat.reduceGT, Nat.reduceEqDiff, Nat.reduceLeDiff, Nat.left_eq_add, Nat.add_eq_left, Nat.reduceMod, Nat.reduceDiv, Nat.succ_ne_self, g2, ni, t3, g20, g20b, l20, rS, gS, s0, c', t7, g24, l24, ew, t8, g25, l25, eM', t9, g26, l26, eE, nn_le, c2', z0, nn_mxT, nn_clamp]
    · have c2' := eq_false c2
      rw [if_pos ⟨c, by omega⟩]
      simp (disch := omega) only [s_94_0, s_94_1, s_94_4, s_94_5, s_94_5x, s_94_6, s_94_7, s_94_8, s_94_9, s_94_12, s_94_13, s_94_16, s_94_17, s_94_18, s_94_21, s_94_22, s_94_23, s_94_26, s_94_27, s_94_30, s_94_31, s_94_32, s_94_35, s_94_36, s_94_36x, s_94_37, s_94_40, s_94_41, s_94_44, s_94_45, s_94_46, s_94_47, s_94_50, s_94_51, s_94_54, s_94_55, s_94_55x, s_94_56, s_94_59, s_94_60, s_94_63, s_94_64, s_94_64x, s_94_65, e_94, mv_i_1, mv_l_1, mv_a_1, mv_a_2, mv_a_3, mk2_n, mk2_i, mk2_l, mk2_a, mk2_u, mk2_x, mB_T, mB_F, mS_cons, mS_nil, mSB_T, mSB_F, mca_nil, mca_i, mca_l, mca_r, mca_u, mca_x, mcat_i, mcat_l, mcat_r, mcat_u, mcat_x, mK_some, mK_none, va_rf_s, va_rf_n, lgc_eq, lgc_lt, lgc_gt, lgc_ge, lgc_le, mrd_104, mrd_105, mrd_106, mrd_107, true_and, and_true, and_self, false_and, and_false, true_or, or_true, false_or, or_false, not_true_eq_false, not_false_eq_true, mgb, mga, mgr, mN, reduceCtorEq, ↓reduceIte, eq_self, ge_iff_le, gt_iff_lt, Nat.reduceAdd, Nat.reduceMul, Nat.reduceSub, Nat.reduceLT, Nat.reduceGT, Nat.reduceEqDiff, Nat.reduceLeDiff, Nat.left_eq_add, Nat.add_eq_left, Nat.reduceMod, Nat.reduceDiv, Nat.succ_ne_self, g2, ni, t3, g20, g20b, l20, rS, gS, s0, c', t7, g24, l24, ew, t8, g25, l25, eM', nn_le, c2', n1, nn_mxT, nn_clamp]
  · have c' := e5.trans (eq_false c)
    rw [if_neg (fun z => c z.1)]
    simp (disch := omega) only [s_94_0, s_94_1, s_94_4, s_94_5, s_94_5x, s_94_6, s_94_7, s_94_8, s_94_9, s_94_12, s_94_13, s_94_16, s_94_17, s_94_18, s_94_21, s_94_22, s_94_23, s_94_26, s_94_27, s_94_30, s_94_31, s_94_32, s_94_35, s_94_36, s_94_36x, s_94_37, s_94_40, s_94_41, s_94_44, s_94_45, s_94_46, s_94_47, s_94_50, s_94_51, s_94_54, s_94_55, s_94_55x, s_94_56, s_94_59, s_94_60, s_94_63, s_94_64, s_94_64x, s_94_65, e_94, mv_i_1, mv_l_1, mv_a_1, mv_a_2, mv_a_3, mk2_n, mk2_i, mk2_l, mk2_a, mk2_u, mk2_x, mB_T, mB_F, mS_cons, mS_nil, mSB_T, mSB_F, mca_nil, mca_i, mca_l, mca_r, mca_u, mca_x, mcat_i, mcat_l, mcat_r, mcat_u, mcat_x, mK_some, mK_none, va_rf_s, va_rf_n, lgc_eq, lgc_lt, lgc_gt, lgc_ge, lgc_le, mrd_104, mrd_105, mrd_106, mrd_107, true_and, and_true, and_self, false_and, and_false, true_or, or_true, false_or, or_false, not_true_eq_false, not_false_eq_true, mgb, mga, mgr, mN, reduceCtorEq, ↓reduceIte, eq_self, ge_iff_le, gt_iff_lt, Nat.reduceAdd, Nat.reduceMul, Nat.reduceSub, Nat.reduceLT, Nat.reduceGT, Nat.reduceEqDiff, Nat.reduceLeDiff, Nat.left_eq_add, Nat.add_eq_left, Nat.reduceMod, Nat.reduceDiv, Nat.succ_ne_self, g2, ni, t3, g20, g20b, l20, rS, gS, s0, c', t7, g24, l24, ew, t9, g26, l26, eE, z0, nn_mxT, nn_clamp]
end PGs
