set_option maxRecDepth 100000
section RBS2
variable {d : Nat} {Q : Option Value → mh_H → Prop} {h : mh_H} {o L G D P R X : Nat} {al : Int32} {H : Nat} {lw hg : Nat → Int64} {nm : Nat → Int32} {pl ph : Nat → Int64}
theorem c_112 (B : RB h o L G D P R X) (hH : H < 124) : mcall d 112 [.ref o] (rS h o L G D P R al (Int32.ofNat (H + 1)) lw hg nm pl ph) Q = Q (some (.int (kb (decide (lmax (lw H) (-2147483648) ≤ lmin (hg H) 2147483647))))) (rS h o L G D P R (al ||| (if lw H < -2147483648 ∨ 2147483647 < hg H then 1 else 0)) (Int32.ofNat (H + 1)) (up lw H (lmax (lw H) (-2147483648))) (up hg H (lmin (hg H) 2147483647)) nm pl ph) := by
  obtain ⟨g, r1, r5, r6, r7, r9, r10, gL, gG, gD, gP, gR, lL, lG, lD, n1, n2, n3, n4, n5, n6⟩ := B
  have es : Int32.ofNat (H + 1) - 1 = Int32.ofNat H := nn_sub (a := H + 1) (b := 1) (by omega)
  generalize hx : lw H = x
  generalize hy : hg H = y
  by_cases c1 : x < -2147483648 <;> by_cases c4 : -2147483648 < x <;> by_cases c2 : 2147483647 < y
  all_goals
    have m1 : lmax x (-2147483648) = if -2147483648 < x then x else -2147483648 := rfl
    have m2 : lmin y 2147483647 = if 2147483647 < y then 2147483647 else y := rfl
    simp only [c4, c2, if_true, if_false] at m1 m2
    rw [m1, m2]
    clear m1 m2
    by_cases c3 : (if 2147483647 < y then 2147483647 else y) < (if -2147483648 < x then x else -2147483648)
    all_goals
      simp only [c4, c2, if_true, if_false] at c3
      simp (disch := omega) only [s_112_0, s_112_1, s_112_4, s_112_5, s_112_6, s_112_7, s_112_8, s_112_11, s_112_12, s_112_13, s_112_16, s_112_17, s_112_20, s_112_21, s_112_24, s_112_25, s_112_26, s_112_29, s_112_30, s_112_33, s_112_34, s_112_35, s_112_38, s_112_39, s_112_40, s_112_43, s_112_44, s_112_47, s_112_48, s_112_49, s_112_52, s_112_53, s_112_54, s_112_57, s_112_60, s_112_61, s_112_62, s_112_65, s_112_66, s_112_67, s_112_70, s_112_71, s_112_72, s_112_75, s_112_78, s_112_79, s_112_80, s_112_83, s_112_84, s_112_85, s_112_86, s_112_89, s_112_90, s_112_91, s_112_92, s_112_95, s_112_96, s_112_99, s_112_100, e_112, mv_i_1, mv_l_1, mv_a_1, mv_a_2, mv_a_3, mk2_n, mk2_i, mk2_l, mk2_a, mk2_u, mk2_x, mB_T, mB_F, mS_cons, mS_nil, mSB_T, mSB_F, mca_nil, mca_i, mca_l, mca_r, mca_u, mca_x, mcat_i, mcat_l, mcat_r, mcat_u, mcat_x, mK_some, mK_none, va_rf_s, va_rf_n, lgc_eq, lgc_lt, lgc_gt, lgc_ge, lgc_le, mrd_104, mrd_105, mrd_106, mrd_107, true_and, and_true, and_self, false_and, and_false, true_or, or_true, false_or, or_false, not_true_eq_false, not_false_eq_true, mgb, mga, mgr, mN, reduceCtorEq, ↓reduceIte, eq_self, ge_iff_le, gt_iff_lt, Nat.reduceAdd, Nat.reduceMul, Nat.reduceSub, Nat.reduceLT, Nat.reduceGT, Nat.reduceEqDiff, Nat.reduceLeDiff, Nat.left_eq_add, Nat.add_eq_left, Nat.reduceMod, Nat.reduceDiv, Nat.succ_ne_self, rS_g, rS_i, rS_j, rS_k, rS_n, rS_r, rS_l, rS_4, rS_L, rS_G n1, g, r5, r6, gL, gG, lL, lG, n1, nn_mxT, nn_clamp, es, up_s, hx, hy, c1, c2, c3, c4, le_nlt64, mB_not, decide_true, decide_false, kb, Bool.false_eq_true, i32_or0]
theorem c_107 (B : RB h o L G D P R X) (hH : H + 1 < 124) : mcall d 107 [.ref o] (rS h o L G D P R al (Int32.ofNat (H + 2)) lw hg nm pl ph) Q = Q none (rS h o L G D P R al (Int32.ofNat (H + 1)) (up lw H (lmin (lmin (lw H * lw (H + 1)) (lw H * hg (H + 1))) (lmin (hg H * lw (H + 1)) (hg H * hg (H + 1))))) (up hg H (lmax (lmax (lw H * lw (H + 1)) (lw H * hg (H + 1))) (lmax (hg H * lw (H + 1)) (hg H * hg (H + 1))))) (up nm H (-1)) pl ph) := by
  obtain ⟨g, r1, r5, r6, r7, r9, r10, gL, gG, gD, gP, gR, lL, lG, lD, n1, n2, n3, n4, n5, n6⟩ := B
  have nD : ¬ D = o := fun z => by have := g.1; have := gD.1; rw [z] at *; omega
  have es : Int32.ofNat (H + 1) - 1 = Int32.ofNat H := nn_sub (a := H + 1) (b := 1) (by omega)
  have es2 : Int32.ofNat (H + 2) - 1 = Int32.ofNat (H + 1) := nn_sub (a := H + 2) (b := 1) (by omega)
  have ei : ∀ k, Int32.ofNat k + 1 = Int32.ofNat (k + 1) := fun k => nn_add (a := k) (b := 1)
  have n : ¬ H + 1 = H := by omega
  simp (disch := omega) only [s_107_0, s_107_1, s_107_2, s_107_5, s_107_6, s_107_7, s_107_10, s_107_11, s_107_14, s_107_15, s_107_16, s_107_17, s_107_18, s_107_21, s_107_22, s_107_23, s_107_24, s_107_27, s_107_28, s_107_29, s_107_30, s_107_31, s_107_32, s_107_33, s_107_34, s_107_37, s_107_38, s_107_39, s_107_40, s_107_43, s_107_44, s_107_45, s_107_46, s_107_47, s_107_48, s_107_50, s_107_51, s_107_54, s_107_55, s_107_56, s_107_57, s_107_60, s_107_61, s_107_62, s_107_63, s_107_64, s_107_65, s_107_67, s_107_68, s_107_71, s_107_72, s_107_73, s_107_74, s_107_77, s_107_78, s_107_79, s_107_80, s_107_81, s_107_82, s_107_84, s_107_85, s_107_88, s_107_89, s_107_90, s_107_92, s_107_95, s_107_97, s_107_99, s_107_102, s_107_105, s_107_106, s_107_107, s_107_110, s_107_111, s_107_112, s_107_114, s_107_117, s_107_119, s_107_121, s_107_124, s_107_127, s_107_128, s_107_129, s_107_132, s_107_133, s_107_134, s_107_135, e_107, mv_i_1, mv_l_1, mv_a_1, mv_a_2, mv_a_3, mk2_n, mk2_i, mk2_l, mk2_a, mk2_u, mk2_x, mB_T, mB_F, mS_cons, mS_nil, mSB_T, mSB_F, mca_nil, mca_i, mca_l, mca_r, mca_u, mca_x, mcat_i, mcat_l, mcat_r, mcat_u, mcat_x, mK_some, mK_none, va_rf_s, va_rf_n, lgc_eq, lgc_lt, lgc_gt, lgc_ge, lgc_le, mrd_104, mrd_105, mrd_106, mrd_107, true_and, and_true, and_self, false_and, and_false, true_or, or_true, false_or, or_false, not_true_eq_false, not_false_eq_true, mgb, mga, mgr, mN, reduceCtorEq, ↓reduceIte, eq_self, ge_iff_le, gt_iff_lt, Nat.reduceAdd, Nat.reduceMul, Nat.reduceSub, Nat.reduceLT, Nat.reduceGT, Nat.reduceEqDiff, Nat.reduceLeDiff, Nat.left_eq_add, Nat.add_eq_left, Nat.reduceMod, Nat.reduceDiv, Nat.succ_ne_self, rS_g, rS_i, rS_j, rS_k, rS_n, rS_r, rS_l, rS_8, rS_L, rS_G n1, rS_D nD, g, r5, r6, r7, gL, gG, gD, lL, lG, lD, n1, nn_mxT, nn_clamp, es, es2, ei, up_s, up_n n, f_lmax, f_lmin]
theorem c_108 (B : RB h o L G D P R X) (hH : H < 124) : mcall d 108 [.ref o] (rS h o L G D P R al (Int32.ofNat H) lw hg nm pl ph) Q = Q (some (.int (kb (decide (¬ (lw H = 0 ∧ hg H = 0)))))) (rS h o L G D P R (al ||| e_dv (lw H).toInt (hg H).toInt) (Int32.ofNat H) lw hg nm pl ph) := by
  obtain ⟨g, r1, r5, r6, r7, r9, r10, gL, gG, gD, gP, gR, lL, lG, lD, n1, n2, n3, n4, n5, n6⟩ := B
  have e : e_dv (lw H).toInt (hg H).toInt = if ¬ 0 < lw H ∧ ¬ hg H < 0 then 2 else 0 := by
    unfold e_dv
    simp only [lt64, lit_0, Int.not_lt]
  rw [e]
  have z00 : ((0 : Int64) < 0) = False := by decide
  generalize hx : lw H = x
  generalize hy : hg H = y
  have X' : x = 0 ∨ (¬ x = 0 ∧ 0 < x) ∨ (¬ x = 0 ∧ ¬ 0 < x) := by
    by_cases a : x = 0
    · exact Or.inl a
    · by_cases b : 0 < x
      · exact Or.inr (Or.inl ⟨a, b⟩)
      · exact Or.inr (Or.inr ⟨a, b⟩)
  have Y' : y = 0 ∨ (¬ y = 0 ∧ y < 0) ∨ (¬ y = 0 ∧ ¬ y < 0) := by
    by_cases a : y = 0
    · exact Or.inl a
    · by_cases b : y < 0
      · exact Or.inr (Or.inl ⟨a, b⟩)
      · exact Or.inr (Or.inr ⟨a, b⟩)
  clear e
  rcases X' with rfl | ⟨c3, c1⟩ | ⟨c3, c1⟩ <;> rcases Y' with rfl | ⟨c4, c2⟩ | ⟨c4, c2⟩
  all_goals simp (disch := omega) only [s_108_0, s_108_1, s_108_4, s_108_5, s_108_8, s_108_9, s_108_10, s_108_11, s_108_14, s_108_15, s_108_18, s_108_19, s_108_22, s_108_23, s_108_24, s_108_25, s_108_28, s_108_29, s_108_30, s_108_33, s_108_34, s_108_35, s_108_38, s_108_39, s_108_42, s_108_43, s_108_46, s_108_47, s_108_48, s_108_49, s_108_52, s_108_53, s_108_56, s_108_57, s_108_60, s_108_61, s_108_62, s_108_63, s_108_66, s_108_67, s_108_70, s_108_71, e_108, mv_i_1, mv_l_1, mv_a_1, mv_a_2, mv_a_3, mk2_n, mk2_i, mk2_l, mk2_a, mk2_u, mk2_x, mB_T, mB_F, mS_cons, mS_nil, mSB_T, mSB_F, mca_nil, mca_i, mca_l, mca_r, mca_u, mca_x, mcat_i, mcat_l, mcat_r, mcat_u, mcat_x, mK_some, mK_none, va_rf_s, va_rf_n, lgc_eq, lgc_lt, lgc_gt, lgc_ge, lgc_le, mrd_104, mrd_105, mrd_106, mrd_107, true_and, and_true, and_self, false_and, and_false, true_or, or_true, false_or, or_false, not_true_eq_false, not_false_eq_true, mgb, mga, mgr, mN, reduceCtorEq, ↓reduceIte, eq_self, ge_iff_le, gt_iff_lt, Nat.reduceAdd, Nat.reduceMul, Nat.reduceSub, Nat.reduceLT, Nat.reduceGT, Nat.reduceEqDiff, Nat.reduceLeDiff, Nat.left_eq_add, Nat.add_eq_left, Nat.reduceMod, Nat.reduceDiv, Nat.succ_ne_self, rS_g, rS_i, rS_j, rS_k, rS_n, rS_r, rS_l, rS_4, hx, hy, z00, *, nn_mxT, nn_clamp, le_nlt64, mB_not, decide_true, decide_false, kb, Bool.false_eq_true, not_false_eq_true, not_true_eq_false, i32_or0]
theorem c_110 {a b x y : Int64} (hx : ¬ x = 0) (hy : ¬ y = 0) : mcall d 110 [.long a, .long b, .long x, .long y] h Q = Q (some (.long (lmin (lmin (a / x) (b / x)) (lmin (a / y) (b / y))))) h := by
  simp (disch := omega) only [s_110_0, s_110_2, s_110_3, s_110_4, s_110_7, s_110_9, s_110_10, s_110_11, s_110_14, s_110_15, s_110_16, s_110_17, s_110_19, s_110_20, s_110_21, s_110_23, s_110_24, s_110_27, s_110_29, s_110_31, s_110_32, s_110_34, s_110_35, s_110_36, s_110_38, s_110_39, s_110_42, s_110_45, e_110, mv_i_1, mv_l_1, mv_a_1, mv_a_2, mv_a_3, mk2_n, mk2_i, mk2_l, mk2_a, mk2_u, mk2_x, mB_T, mB_F, mS_cons, mS_nil, mSB_T, mSB_F, mca_nil, mca_i, mca_l, mca_r, mca_u, mca_x, mcat_i, mcat_l, mcat_r, mcat_u, mcat_x, mK_some, mK_none, va_rf_s, va_rf_n, lgc_eq, lgc_lt, lgc_gt, lgc_ge, lgc_le, mrd_104, mrd_105, mrd_106, mrd_107, true_and, and_true, and_self, false_and, and_false, true_or, or_true, false_or, or_false, not_true_eq_false, not_false_eq_true, mgb, mga, mgr, mN, reduceCtorEq, ↓reduceIte, eq_self, ge_iff_le, gt_iff_lt, Nat.reduceAdd, Nat.reduceMul, Nat.reduceSub, Nat.reduceLT, Nat.reduceGT, Nat.reduceEqDiff, Nat.reduceLeDiff, Nat.left_eq_add, Nat.add_eq_left, Nat.reduceMod, Nat.reduceDiv, Nat.succ_ne_self, hx, hy, f_lmin]
theorem c_103 (B : RB h o L G D P R X) (hH : H < 124) {z : Int32} : mcall d 103 [.ref o, .int z] (rS h o L G D P R al (Int32.ofNat H) lw hg nm pl ph) Q = Q (some (.int (kb (decide (¬ hg H < 0 ∧ lw H < z.toInt64))))) (rS h o L G D P R (al ||| (if lw H < 0 ∨ ¬ hg H < z.toInt64 then 4 else 0)) (Int32.ofNat H) lw hg nm pl ph) := by
  obtain ⟨g, r1, r5, r6, r7, r9, r10, gL, gG, gD, gP, gR, lL, lG, lD, n1, n2, n3, n4, n5, n6⟩ := B
  by_cases c1 : lw H < 0 <;> by_cases c2 : hg H < z.toInt64 <;> by_cases c3 : hg H < 0 <;> by_cases c4 : lw H < z.toInt64
  all_goals simp (disch := omega) only [s_103_0, s_103_1, s_103_4, s_103_5, s_103_8, s_103_9, s_103_10, s_103_11, s_103_14, s_103_15, s_103_18, s_103_19, s_103_22, s_103_23, s_103_24, s_103_25, s_103_26, s_103_29, s_103_30, s_103_31, s_103_34, s_103_35, s_103_36, s_103_39, s_103_40, s_103_43, s_103_44, s_103_47, s_103_48, s_103_49, s_103_50, s_103_53, s_103_54, s_103_57, s_103_58, s_103_61, s_103_62, s_103_63, s_103_64, s_103_65, s_103_68, s_103_69, s_103_72, s_103_73, e_103, mv_i_1, mv_l_1, mv_a_1, mv_a_2, mv_a_3, mk2_n, mk2_i, mk2_l, mk2_a, mk2_u, mk2_x, mB_T, mB_F, mS_cons, mS_nil, mSB_T, mSB_F, mca_nil, mca_i, mca_l, mca_r, mca_u, mca_x, mcat_i, mcat_l, mcat_r, mcat_u, mcat_x, mK_some, mK_none, va_rf_s, va_rf_n, lgc_eq, lgc_lt, lgc_gt, lgc_ge, lgc_le, mrd_104, mrd_105, mrd_106, mrd_107, true_and, and_true, and_self, false_and, and_false, true_or, or_true, false_or, or_false, not_true_eq_false, not_false_eq_true, mgb, mga, mgr, mN, reduceCtorEq, ↓reduceIte, eq_self, ge_iff_le, gt_iff_lt, Nat.reduceAdd, Nat.reduceMul, Nat.reduceSub, Nat.reduceLT, Nat.reduceGT, Nat.reduceEqDiff, Nat.reduceLeDiff, Nat.left_eq_add, Nat.add_eq_left, Nat.reduceMod, Nat.reduceDiv, Nat.succ_ne_self, rS_g, rS_i, rS_j, rS_k, rS_n, rS_r, rS_l, rS_4, g, r5, r6, gL, gG, lL, lG, n1, nn_mxT, nn_clamp, c1, c2, c3, c4, le_nlt64, mB_not, decide_true, decide_false, kb, Bool.false_eq_true, not_false_eq_true, not_true_eq_false, i32_or0]
end RBS2
