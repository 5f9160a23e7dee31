set_option maxRecDepth 100000
section RG3
variable {d : Nat} {h : mh_H} {o : Nat} {al : Int32} {lo hi : Int64}
/-- % -/
theorem r_240 {a b x y : Int64} (hg : mg h o 12) (ha : iI a.toInt) (hb : iI b.toInt) (hx : iI x.toInt) (hy : iI y.toInt) : ∃ f l u, eR (e_rest a.toInt b.toInt x.toInt y.toInt) f l u ∧ ∀ Q, mcall (d + 1) 240 [.ref o, .long a, .long b, .long x, .long y] (aS h o al lo hi) Q = Q (some (.int (kb f))) (aS h o (al ||| (e_rest a.toInt b.toInt x.toInt y.toInt).2) l u) := by
  have c1 := fun Q' => c_238 (d := d) (Q := Q') (x := x) (y := y) (al := al) (lo := lo) (hi := hi) hg
  have e10 : ((1 : Int32) = 0) = False := by decide
  have e00 : ((0 : Int32) = 0) = True := by decide
  by_cases z : x = 0 ∧ y = 0
  · have zi : x.toInt = 0 ∧ y.toInt = 0 := by rw [z.1, z.2]; decide
    have ev : e_rest a.toInt b.toInt x.toInt y.toInt = (none, 2) := by unfold e_rest; rw [if_pos zi]
    rw [ev]
    have dz : decide (¬ (x = 0 ∧ y = 0)) = false := decide_eq_false (fun w => w z)
    have dv : e_dv x.toInt y.toInt = 2 := by unfold e_dv; rw [if_pos (by omega)]
    rw [dz, dv] at c1
    refine ⟨false, lo, hi, rfl, fun Q => ?_⟩
    have k0 : kb false = 0 := rfl
    rw [k0] at c1
    simp only [s_240_0, s_240_1, s_240_3, s_240_5, s_240_8, s_240_11, s_240_12, s_240_13, s_240_15, s_240_17, s_240_18, s_240_21, s_240_23, s_240_25, s_240_26, s_240_29, s_240_32, s_240_34, s_240_35, s_240_36, s_240_37, s_240_38, s_240_41, s_240_42, s_240_45, s_240_46, s_240_47, s_240_49, s_240_50, s_240_53, s_240_54, s_240_55, s_240_56, s_240_59, s_240_60, s_240_63, s_240_64, s_240_66, s_240_67, s_240_68, s_240_71, s_240_74, e_240, mv_i_1, mv_l_1, mv_a_1, mv_a_2, mv_a_3, mk2_n, mk2_i, mk2_l, mk2_a, mk2_u, mk2_x, mB_T, mB_F, mS_cons, mS_nil, mSB_T, mSB_F, mca_nil, mca_i, mca_l, mca_r, mca_u, mca_x, mcat_i, mcat_l, mcat_r, mcat_u, mcat_x, mK_some, mK_none, va_rf_s, va_rf_n, lgc_eq, lgc_lt, lgc_gt, lgc_ge, lgc_le, mrd_104, mrd_105, mrd_106, mrd_107, true_and, and_true, and_self, false_and, and_false, true_or, or_true, false_or, or_false, not_true_eq_false, not_false_eq_true, mgb, mga, mgr, mN, reduceCtorEq, ↓reduceIte, eq_self, ge_iff_le, gt_iff_lt, aS_g, hg, c1, e00, k0]
  · have zi : ¬ (x.toInt = 0 ∧ y.toInt = 0) := fun w => z ⟨eq64.mpr (by rw [w.1]; decide), eq64.mpr (by rw [w.2]; decide)⟩
    have dz : decide (¬ (x = 0 ∧ y = 0)) = true := decide_eq_true z
    have k1 : kb true = 1 := rfl
    rw [dz, k1] at c1
    have hM : (lmax (lmax x (-x)) (lmax y (-y))).toInt = max (max x.toInt (-x.toInt)) (max y.toInt (-y.toInt)) := by
      unfold iI at hx hy
      rw [lmax_int, lmax_int, lmax_int, i64_n (by omega), i64_n (by omega)]
    have ev : e_rest a.toInt b.toInt x.toInt y.toInt = (some (if 0 ≤ a.toInt then 0 else max a.toInt (1 - max (max x.toInt (-x.toInt)) (max y.toInt (-y.toInt))), if b.toInt ≤ 0 then 0 else min b.toInt (max (max x.toInt (-x.toInt)) (max y.toInt (-y.toInt)) - 1)), e_dv x.toInt y.toInt) := by unfold e_rest; rw [if_neg zi]
    rw [ev]
    have lo1 : ((if a < 0 then lmax a (1 - lmax (lmax x (-x)) (lmax y (-y))) else 0) : Int64).toInt = if 0 ≤ a.toInt then 0 else max a.toInt (1 - max (max x.toInt (-x.toInt)) (max y.toInt (-y.toInt))) := by
      unfold iI at hx hy
      by_cases c : a < 0
      · have c' := c
        rw [lt64, lit_0] at c'
        rw [if_pos c, if_neg (by omega), lmax_int, lsub_int (by rw [hM, lit_1]; omega) (by rw [hM, lit_1]; omega), hM, lit_1]
      · have c' := c
        rw [lt64, lit_0] at c'
        rw [if_neg c, if_pos (by omega), lit_0]
    have hi1 : ((if 0 < b then lmin b (lmax (lmax x (-x)) (lmax y (-y)) - 1) else 0) : Int64).toInt = if b.toInt ≤ 0 then 0 else min b.toInt (max (max x.toInt (-x.toInt)) (max y.toInt (-y.toInt)) - 1) := by
      unfold iI at hx hy
      by_cases c : 0 < b
      · have c' := c
        rw [lt64, lit_0] at c'
        rw [if_pos c, if_neg (by omega), lmin_int, lsub_int (by rw [hM, lit_1]; omega) (by rw [hM, lit_1]; omega), hM, lit_1]
      · have c' := c
        rw [lt64, lit_0] at c'
        rw [if_neg c, if_pos (by omega), lit_0]
    refine ⟨true, _, _, ⟨rfl, lo1, hi1⟩, fun Q => ?_⟩
    have c2 := fun Q' X Y => c_231 (d := d) (Q := Q') (x := X) (y := Y) (al := al ||| e_dv x.toInt y.toInt) (lo := lo) (hi := hi) hg
    by_cases ca : a < 0 <;> by_cases cb : 0 < b
    all_goals simp only [s_240_0, s_240_1, s_240_3, s_240_5, s_240_8, s_240_11, s_240_12, s_240_13, s_240_15, s_240_17, s_240_18, s_240_21, s_240_23, s_240_25, s_240_26, s_240_29, s_240_32, s_240_34, s_240_35, s_240_36, s_240_37, s_240_38, s_240_41, s_240_42, s_240_45, s_240_46, s_240_47, s_240_49, s_240_50, s_240_53, s_240_54, s_240_55, s_240_56, s_240_59, s_240_60, s_240_63, s_240_64, s_240_66, s_240_67, s_240_68, s_240_71, s_240_74, e_240, mv_i_1, mv_l_1, mv_a_1, mv_a_2, mv_a_3, mk2_n, mk2_i, mk2_l, mk2_a, mk2_u, mk2_x, mB_T, mB_F, mS_cons, mS_nil, mSB_T, mSB_F, mca_nil, mca_i, mca_l, mca_r, mca_u, mca_x, mcat_i, mcat_l, mcat_r, mcat_u, mcat_x, mK_some, mK_none, va_rf_s, va_rf_n, lgc_eq, lgc_lt, lgc_gt, lgc_ge, lgc_le, mrd_104, mrd_105, mrd_106, mrd_107, true_and, and_true, and_self, false_and, and_false, true_or, or_true, false_or, or_false, not_true_eq_false, not_false_eq_true, mgb, mga, mgr, mN, reduceCtorEq, ↓reduceIte, eq_self, ge_iff_le, gt_iff_lt, aS_g, hg, kb_01, c1, c2, e10, ca, cb, le_nlt64, mB_not, f_lmin, f_lmax, k1]
/-- + - * / % -/
theorem r_237 {k : Nat} {a b x y : Int64} (hg : mg h o 12) (ha : iI a.toInt) (hb : iI b.toInt) (hx : iI x.toInt) (hy : iI y.toInt) (hxy : x.toInt ≤ y.toInt) (hk : k = 18 ∨ k = 19 ∨ k = 21 ∨ k = 22 ∨ k = 23) : ∃ f l u, eR (e_op k a.toInt b.toInt x.toInt y.toInt) f l u ∧ ∀ Q, mcall (d + 2) 237 [.ref o, .int (Int32.ofNat k), .long a, .long b, .long x, .long y] (aS h o al lo hi) Q = Q (some (.int (kb f))) (aS h o (al ||| (e_op k a.toInt b.toInt x.toInt y.toInt).2) l u) := by
  have ha' := ha
  have hb' := hb
  have hx' := hx
  have hy' := hy
  unfold iI at ha' hb' hx' hy'
  rcases hk with rfl | rfl | rfl | rfl | rfl
  · have e : e_op 18 a.toInt b.toInt x.toInt y.toInt = e_ints (a + x).toInt (b + y).toInt := by
      rw [ladd_int (by omega) (by omega), ladd_int (by omega) (by omega)]; rfl
    rw [e]
    obtain ⟨f, l, u, e1, e2⟩ := r_232 (d := d + 1) (al := al) (lo := lo) (hi := hi) (x := a + x) (y := b + y) hg
    refine ⟨f, l, u, e1, fun Q => ?_⟩
    simp only [s_237_0, s_237_1, s_237_36, s_237_37, s_237_38, s_237_40, s_237_41, s_237_43, s_237_45, s_237_46, s_237_49, s_237_50, s_237_51, s_237_52, s_237_54, s_237_55, s_237_57, s_237_59, s_237_60, s_237_63, s_237_64, s_237_65, s_237_66, s_237_68, s_237_69, s_237_70, s_237_72, s_237_73, s_237_76, s_237_78, s_237_80, s_237_81, s_237_83, s_237_85, s_237_86, s_237_89, s_237_92, s_237_93, s_237_95, s_237_96, s_237_97, s_237_99, s_237_100, s_237_103, s_237_105, s_237_107, s_237_108, s_237_110, s_237_112, s_237_113, s_237_116, s_237_119, s_237_122, s_237_123, s_237_124, s_237_125, s_237_127, s_237_129, s_237_131, s_237_134, s_237_135, s_237_136, s_237_137, s_237_139, s_237_141, s_237_143, s_237_146, e_237, mv_i_1, mv_l_1, mv_a_1, mv_a_2, mv_a_3, mk2_n, mk2_i, mk2_l, mk2_a, mk2_u, mk2_x, mB_T, mB_F, mS_cons, mS_nil, mSB_T, mSB_F, mca_nil, mca_i, mca_l, mca_r, mca_u, mca_x, mcat_i, mcat_l, mcat_r, mcat_u, mcat_x, mK_some, mK_none, va_rf_s, va_rf_n, lgc_eq, lgc_lt, lgc_gt, lgc_ge, lgc_le, mrd_104, mrd_105, mrd_106, mrd_107, true_and, and_true, and_self, false_and, and_false, true_or, or_true, false_or, or_false, not_true_eq_false, not_false_eq_true, mgb, mga, mgr, mN, reduceCtorEq, ↓reduceIte, eq_self, ge_iff_le, gt_iff_lt, Nat.reduceAdd, Nat.reduceMul, Nat.reduceSub, Nat.reduceDiv, Nat.reduceMod, Nat.reduceLT, Nat.reduceGT, Nat.reduceEqDiff, Nat.reduceLeDiff, Int32.reduceAdd, Int32.reduceMul, Int32.reduceSub, Int32.reduceLT, Int32.reduceLE, Int32.reduceGT, Int32.reduceGE, Int32.reduceToNatClampNeg, Int32.reduceOfNat, Int32.reduceOfInt, Int64.reduceAdd, Int64.reduceMul, Int64.reduceSub, Int64.reduceLT, Int64.reduceLE, Int64.reduceGT, Int64.reduceGE, Int64.reduceToNatClampNeg, Int64.reduceOfNat, Int64.reduceOfInt, aS_g, hg, kb_01, e2, show ((18 : Int32) = 18) = True by decide]
  · have e : e_op 19 a.toInt b.toInt x.toInt y.toInt = e_ints (a - y).toInt (b - x).toInt := by
      rw [lsub_int (by omega) (by omega), lsub_int (by omega) (by omega)]; rfl
    rw [e]
    obtain ⟨f, l, u, e1, e2⟩ := r_232 (d := d + 1) (al := al) (lo := lo) (hi := hi) (x := a - y) (y := b - x) hg
    refine ⟨f, l, u, e1, fun Q => ?_⟩
    simp only [s_237_0, s_237_1, s_237_36, s_237_37, s_237_38, s_237_40, s_237_41, s_237_43, s_237_45, s_237_46, s_237_49, s_237_50, s_237_51, s_237_52, s_237_54, s_237_55, s_237_57, s_237_59, s_237_60, s_237_63, s_237_64, s_237_65, s_237_66, s_237_68, s_237_69, s_237_70, s_237_72, s_237_73, s_237_76, s_237_78, s_237_80, s_237_81, s_237_83, s_237_85, s_237_86, s_237_89, s_237_92, s_237_93, s_237_95, s_237_96, s_237_97, s_237_99, s_237_100, s_237_103, s_237_105, s_237_107, s_237_108, s_237_110, s_237_112, s_237_113, s_237_116, s_237_119, s_237_122, s_237_123, s_237_124, s_237_125, s_237_127, s_237_129, s_237_131, s_237_134, s_237_135, s_237_136, s_237_137, s_237_139, s_237_141, s_237_143, s_237_146, e_237, mv_i_1, mv_l_1, mv_a_1, mv_a_2, mv_a_3, mk2_n, mk2_i, mk2_l, mk2_a, mk2_u, mk2_x, mB_T, mB_F, mS_cons, mS_nil, mSB_T, mSB_F, mca_nil, mca_i, mca_l, mca_r, mca_u, mca_x, mcat_i, mcat_l, mcat_r, mcat_u, mcat_x, mK_some, mK_none, va_rf_s, va_rf_n, lgc_eq, lgc_lt, lgc_gt, lgc_ge, lgc_le, mrd_104, mrd_105, mrd_106, mrd_107, true_and, and_true, and_self, false_and, and_false, true_or, or_true, false_or, or_false, not_true_eq_false, not_false_eq_true, mgb, mga, mgr, mN, reduceCtorEq, ↓reduceIte, eq_self, ge_iff_le, gt_iff_lt, Nat.reduceAdd, Nat.reduceMul, Nat.reduceSub, Nat.reduceDiv, Nat.reduceMod, Nat.reduceLT, Nat.reduceGT, Nat.reduceEqDiff, Nat.reduceLeDiff, Int32.reduceAdd, Int32.reduceMul, Int32.reduceSub, Int32.reduceLT, Int32.reduceLE, Int32.reduceGT, Int32.reduceGE, Int32.reduceToNatClampNeg, Int32.reduceOfNat, Int32.reduceOfInt, Int64.reduceAdd, Int64.reduceMul, Int64.reduceSub, Int64.reduceLT, Int64.reduceLE, Int64.reduceGT, Int64.reduceGE, Int64.reduceToNatClampNeg, Int64.reduceOfNat, Int64.reduceOfInt, aS_g, hg, kb_01, e2, show ((19 : Int32) = 18) = False by decide, show ((19 : Int32) = 19) = True by decide]
  · have m1 := mul_r ha hx
    have m2 := mul_r ha hy
    have m3 := mul_r hb hx
    have m4 := mul_r hb hy
    have e : e_op 21 a.toInt b.toInt x.toInt y.toInt = e_ints (lmin (lmin (a * x) (a * y)) (lmin (b * x) (b * y))).toInt (lmax (lmax (a * x) (a * y)) (lmax (b * x) (b * y))).toInt := by
      rw [lmin_int, lmin_int, lmin_int, lmax_int, lmax_int, lmax_int, lmul_int (by omega) (by omega), lmul_int (by omega) (by omega), lmul_int (by omega) (by omega), lmul_int (by omega) (by omega)]; rfl
    rw [e]
    obtain ⟨f, l, u, e1, e2⟩ := r_232 (d := d + 1) (al := al) (lo := lo) (hi := hi) (x := lmin (lmin (a * x) (a * y)) (lmin (b * x) (b * y))) (y := lmax (lmax (a * x) (a * y)) (lmax (b * x) (b * y))) hg
    refine ⟨f, l, u, e1, fun Q => ?_⟩
    simp only [s_237_0, s_237_1, s_237_36, s_237_37, s_237_38, s_237_40, s_237_41, s_237_43, s_237_45, s_237_46, s_237_49, s_237_50, s_237_51, s_237_52, s_237_54, s_237_55, s_237_57, s_237_59, s_237_60, s_237_63, s_237_64, s_237_65, s_237_66, s_237_68, s_237_69, s_237_70, s_237_72, s_237_73, s_237_76, s_237_78, s_237_80, s_237_81, s_237_83, s_237_85, s_237_86, s_237_89, s_237_92, s_237_93, s_237_95, s_237_96, s_237_97, s_237_99, s_237_100, s_237_103, s_237_105, s_237_107, s_237_108, s_237_110, s_237_112, s_237_113, s_237_116, s_237_119, s_237_122, s_237_123, s_237_124, s_237_125, s_237_127, s_237_129, s_237_131, s_237_134, s_237_135, s_237_136, s_237_137, s_237_139, s_237_141, s_237_143, s_237_146, e_237, mv_i_1, mv_l_1, mv_a_1, mv_a_2, mv_a_3, mk2_n, mk2_i, mk2_l, mk2_a, mk2_u, mk2_x, mB_T, mB_F, mS_cons, mS_nil, mSB_T, mSB_F, mca_nil, mca_i, mca_l, mca_r, mca_u, mca_x, mcat_i, mcat_l, mcat_r, mcat_u, mcat_x, mK_some, mK_none, va_rf_s, va_rf_n, lgc_eq, lgc_lt, lgc_gt, lgc_ge, lgc_le, mrd_104, mrd_105, mrd_106, mrd_107, true_and, and_true, and_self, false_and, and_false, true_or, or_true, false_or, or_false, not_true_eq_false, not_false_eq_true, mgb, mga, mgr, mN, reduceCtorEq, ↓reduceIte, eq_self, ge_iff_le, gt_iff_lt, Nat.reduceAdd, Nat.reduceMul, Nat.reduceSub, Nat.reduceDiv, Nat.reduceMod, Nat.reduceLT, Nat.reduceGT, Nat.reduceEqDiff, Nat.reduceLeDiff, Int32.reduceAdd, Int32.reduceMul, Int32.reduceSub, Int32.reduceLT, Int32.reduceLE, Int32.reduceGT, Int32.reduceGE, Int32.reduceToNatClampNeg, Int32.reduceOfNat, Int32.reduceOfInt, Int64.reduceAdd, Int64.reduceMul, Int64.reduceSub, Int64.reduceLT, Int64.reduceLE, Int64.reduceGT, Int64.reduceGE, Int64.reduceToNatClampNeg, Int64.reduceOfNat, Int64.reduceOfInt, aS_g, hg, kb_01, f_lmin, f_lmax, e2, show ((21 : Int32) = 18) = False by decide, show ((21 : Int32) = 19) = False by decide, show ((21 : Int32) = 20) = False by decide, show ((21 : Int32) = 21) = True by decide]
  · have e : e_op 22 a.toInt b.toInt x.toInt y.toInt = e_over a.toInt b.toInt x.toInt y.toInt := rfl
    rw [e]
    obtain ⟨f, l, u, e1, e2⟩ := r_239 (d := d) (al := al) (lo := lo) (hi := hi) hg ha hb hx hy hxy
    refine ⟨f, l, u, e1, fun Q => ?_⟩
    simp only [s_237_0, s_237_1, s_237_36, s_237_37, s_237_38, s_237_40, s_237_41, s_237_43, s_237_45, s_237_46, s_237_49, s_237_50, s_237_51, s_237_52, s_237_54, s_237_55, s_237_57, s_237_59, s_237_60, s_237_63, s_237_64, s_237_65, s_237_66, s_237_68, s_237_69, s_237_70, s_237_72, s_237_73, s_237_76, s_237_78, s_237_80, s_237_81, s_237_83, s_237_85, s_237_86, s_237_89, s_237_92, s_237_93, s_237_95, s_237_96, s_237_97, s_237_99, s_237_100, s_237_103, s_237_105, s_237_107, s_237_108, s_237_110, s_237_112, s_237_113, s_237_116, s_237_119, s_237_122, s_237_123, s_237_124, s_237_125, s_237_127, s_237_129, s_237_131, s_237_134, s_237_135, s_237_136, s_237_137, s_237_139, s_237_141, s_237_143, s_237_146, e_237, mv_i_1, mv_l_1, mv_a_1, mv_a_2, mv_a_3, mk2_n, mk2_i, mk2_l, mk2_a, mk2_u, mk2_x, mB_T, mB_F, mS_cons, mS_nil, mSB_T, mSB_F, mca_nil, mca_i, mca_l, mca_r, mca_u, mca_x, mcat_i, mcat_l, mcat_r, mcat_u, mcat_x, mK_some, mK_none, va_rf_s, va_rf_n, lgc_eq, lgc_lt, lgc_gt, lgc_ge, lgc_le, mrd_104, mrd_105, mrd_106, mrd_107, true_and, and_true, and_self, false_and, and_false, true_or, or_true, false_or, or_false, not_true_eq_false, not_false_eq_true, mgb, mga, mgr, mN, reduceCtorEq, ↓reduceIte, eq_self, ge_iff_le, gt_iff_lt, Nat.reduceAdd, Nat.reduceMul, Nat.reduceSub, Nat.reduceDiv, Nat.reduceMod, Nat.reduceLT, Nat.reduceGT, Nat.reduceEqDiff, Nat.reduceLeDiff, Int32.reduceAdd, Int32.reduceMul, Int32.reduceSub, Int32.reduceLT, Int32.reduceLE, Int32.reduceGT, Int32.reduceGE, Int32.reduceToNatClampNeg, Int32.reduceOfNat, Int32.reduceOfInt, Int64.reduceAdd, Int64.reduceMul, Int64.reduceSub, Int64.reduceLT, Int64.reduceLE, Int64.reduceGT, Int64.reduceGE, Int64.reduceToNatClampNeg, Int64.reduceOfNat, Int64.reduceOfInt, aS_g, hg, kb_01, e2, show ((22 : Int32) = 18) = False by decide, show ((22 : Int32) = 19) = False by decide, show ((22 : Int32) = 20) = False by decide, show ((22 : Int32) = 21) = False by decide, show ((22 : Int32) = 22) = True by decide]
  · have e : e_op 23 a.toInt b.toInt x.toInt y.toInt = e_rest a.toInt b.toInt x.toInt y.toInt := rfl
    rw [e]
    obtain ⟨f, l, u, e1, e2⟩ := r_240 (d := d) (al := al) (lo := lo) (hi := hi) hg ha hb hx hy
    refine ⟨f, l, u, e1, fun Q => ?_⟩
    simp only [s_237_0, s_237_1, s_237_36, s_237_37, s_237_38, s_237_40, s_237_41, s_237_43, s_237_45, s_237_46, s_237_49, s_237_50, s_237_51, s_237_52, s_237_54, s_237_55, s_237_57, s_237_59, s_237_60, s_237_63, s_237_64, s_237_65, s_237_66, s_237_68, s_237_69, s_237_70, s_237_72, s_237_73, s_237_76, s_237_78, s_237_80, s_237_81, s_237_83, s_237_85, s_237_86, s_237_89, s_237_92, s_237_93, s_237_95, s_237_96, s_237_97, s_237_99, s_237_100, s_237_103, s_237_105, s_237_107, s_237_108, s_237_110, s_237_112, s_237_113, s_237_116, s_237_119, s_237_122, s_237_123, s_237_124, s_237_125, s_237_127, s_237_129, s_237_131, s_237_134, s_237_135, s_237_136, s_237_137, s_237_139, s_237_141, s_237_143, s_237_146, e_237, mv_i_1, mv_l_1, mv_a_1, mv_a_2, mv_a_3, mk2_n, mk2_i, mk2_l, mk2_a, mk2_u, mk2_x, mB_T, mB_F, mS_cons, mS_nil, mSB_T, mSB_F, mca_nil, mca_i, mca_l, mca_r, mca_u, mca_x, mcat_i, mcat_l, mcat_r, mcat_u, mcat_x, mK_some, mK_none, va_rf_s, va_rf_n, lgc_eq, lgc_lt, lgc_gt, lgc_ge, lgc_le, mrd_104, mrd_105, mrd_106, mrd_107, true_and, and_true, and_self, false_and, and_false, true_or, or_true, false_or, or_false, not_true_eq_false, not_false_eq_true, mgb, mga, mgr, mN, reduceCtorEq, ↓reduceIte, eq_self, ge_iff_le, gt_iff_lt, Nat.reduceAdd, Nat.reduceMul, Nat.reduceSub, Nat.reduceDiv, Nat.reduceMod, Nat.reduceLT, Nat.reduceGT, Nat.reduceEqDiff, Nat.reduceLeDiff, Int32.reduceAdd, Int32.reduceMul, Int32.reduceSub, Int32.reduceLT, Int32.reduceLE, Int32.reduceGT, Int32.reduceGE, Int32.reduceToNatClampNeg, Int32.reduceOfNat, Int32.reduceOfInt, Int64.reduceAdd, Int64.reduceMul, Int64.reduceSub, Int64.reduceLT, Int64.reduceLE, Int64.reduceGT, Int64.reduceGE, Int64.reduceToNatClampNeg, Int64.reduceOfNat, Int64.reduceOfInt, aS_g, hg, kb_01, e2, show ((23 : Int32) = 18) = False by decide, show ((23 : Int32) = 19) = False by decide, show ((23 : Int32) = 20) = False by decide, show ((23 : Int32) = 21) = False by decide, show ((23 : Int32) = 22) = False by decide]
/-- NAME + NAME, NAME - NAME -/
theorem RK_aS {N : Nat} {X : Option ab} (hg : mg h o 12) (r : RK h N X) : RK (aS h o al lo hi) N X := by
  refine RK_fq aS_fq (fun y hy z => ?_) r
  obtain ⟨s1, s2, s3, s4, s5, s6, s7, s8, s9, s10, s11, s12, s13⟩ := RK_ko r
  have g := hg.1
  have a0 := s1.1
  have a1 := s3.1
  have a2 := s6.1
  have a3 := s9.1
  have a4 := s12.1
  have : y = 0 ∨ y = 1 ∨ y = 2 ∨ y = 3 ∨ y = 4 := by omega
  rcases this with rfl | rfl | rfl | rfl | rfl
  · rw [← z] at g; rw [Nat.add_zero, a0] at g; omega
  · rw [← z, a1] at g; omega
  · rw [← z, a2] at g; omega
  · rw [← z, a3] at g; omega
  · rw [← z, a4] at g; omega
theorem a_gr_r {A : ab} (hT : ab_T A) {v w : Nat} (hv : v < 2 * A.n) (hw : w < 2 * A.n) : -4294967296 ≤ a_gr A v w ∧ a_gr A v w ≤ 4294967296 := by
  have := hT.lo2 (oc_bl hw) hv
  unfold a_gr
  split <;> omega
theorem r_236 {k x y N : Nat} {A : ab} (hg : mg h o 12) (hN : mh_r h o 23 = some N) (hK : RK h N (some A)) (hT : ab_T A) (hx : x < A.n) (hy : y < A.n) (hk : k = 18 ∨ k = 19) (hl : -1152921504606846976 ≤ lo.toInt ∧ lo.toInt ≤ 1152921504606846976) (hh : -1152921504606846976 ≤ hi.toInt ∧ hi.toInt ≤ 1152921504606846976) : ∃ f l u, eR (e_nm A k x y lo.toInt hi.toInt) f l u ∧ ∀ Q, mcall (d + 2) 236 [.ref o, .int (Int32.ofNat k), .int (Int32.ofNat x), .int (Int32.ofNat y)] (aS h o al lo hi) Q = Q (some (.int (kb f))) (aS h o (al ||| (e_nm A k x y lo.toInt hi.toInt).2) l u) := by
  have n12 : A.n ≤ 12 := KM.n12 hK
  have e3 : ∀ k, (2 : Int32) * Int32.ofNat k = Int32.ofNat (2 * k) := fun k => nn_mul (a := 2) (b := k)
  have ei : ∀ k, Int32.ofNat k + 1 = Int32.ofNat (k + 1) := fun k => nn_add (a := k) (b := 1)
  have f1 : ¬ (o = o ∧ 25 = 26) := by omega
  unfold e_nm
  by_cases c : x = y
  · subst c
    rw [if_pos rfl]
    have cc : (Int32.ofNat x = Int32.ofNat x) = True := eq_true rfl
    rcases hk with rfl | rfl
    · rw [if_neg (by omega)]
      have e : e_ints (2 * lo.toInt) (2 * hi.toInt) = e_ints (2 * lo).toInt (2 * hi).toInt := by rw [i64_2 (by omega) (by omega), i64_2 (by omega) (by omega)]
      rw [e]
      obtain ⟨f, l, u, e1, e2⟩ := r_232 (d := d + 1) (al := al) (lo := lo) (hi := hi) (x := 2 * lo) (y := 2 * hi) hg
      refine ⟨f, l, u, e1, fun Q => ?_⟩
      simp (disch := omega) only [s_236_0, s_236_1, s_236_2, s_236_5, s_236_6, s_236_8, s_236_11, s_236_12, s_236_13, s_236_14, s_236_17, s_236_20, s_236_21, s_236_24, s_236_25, s_236_28, s_236_29, s_236_32, s_236_33, s_236_36, s_236_37, s_236_40, s_236_41, s_236_42, s_236_43, s_236_44, s_236_46, s_236_47, s_236_49, s_236_52, s_236_53, s_236_54, s_236_55, s_236_58, s_236_59, s_236_60, s_236_61, s_236_62, s_236_63, s_236_65, s_236_66, s_236_67, s_236_70, s_236_72, s_236_73, s_236_74, s_236_76, s_236_77, s_236_78, s_236_81, s_236_82, s_236_83, s_236_86, s_236_88, s_236_90, s_236_93, s_236_96, e_236, mv_i_1, mv_l_1, mv_a_1, mv_a_2, mv_a_3, mk2_n, mk2_i, mk2_l, mk2_a, mk2_u, mk2_x, mB_T, mB_F, mS_cons, mS_nil, mSB_T, mSB_F, mca_nil, mca_i, mca_l, mca_r, mca_u, mca_x, mcat_i, mcat_l, mcat_r, mcat_u, mcat_x, mK_some, mK_none, va_rf_s, va_rf_n, lgc_eq, lgc_lt, lgc_gt, lgc_ge, lgc_le, mrd_104, mrd_105, mrd_106, mrd_107, true_and, and_true, and_self, false_and, and_false, true_or, or_true, false_or, or_false, not_true_eq_false, not_false_eq_true, mgb, mga, mgr, mN, reduceCtorEq, ↓reduceIte, eq_self, ge_iff_le, gt_iff_lt, Nat.reduceAdd, Nat.reduceMul, Nat.reduceSub, Nat.reduceLT, Nat.reduceGT, Nat.reduceEqDiff, Nat.reduceLeDiff, Nat.left_eq_add, Nat.add_eq_left, Nat.reduceMod, Nat.reduceDiv, Nat.succ_ne_self, aS_g, aS_j, hg, kb_01, e2, show ((Int32.ofNat 18) = 19) = False by decide]
    · rw [if_pos rfl]
      have c2 := fun Q' => c_231 (d := d + 1) (Q := Q') (x := 0) (y := 0) (al := al) (lo := lo) (hi := hi) hg
      refine ⟨true, 0, 0, ⟨rfl, rfl, rfl⟩, fun Q => ?_⟩
      have k1 : kb true = 1 := rfl
      simp (disch := omega) only [s_236_0, s_236_1, s_236_2, s_236_5, s_236_6, s_236_8, s_236_11, s_236_12, s_236_13, s_236_14, s_236_17, s_236_20, s_236_21, s_236_24, s_236_25, s_236_28, s_236_29, s_236_32, s_236_33, s_236_36, s_236_37, s_236_40, s_236_41, s_236_42, s_236_43, s_236_44, s_236_46, s_236_47, s_236_49, s_236_52, s_236_53, s_236_54, s_236_55, s_236_58, s_236_59, s_236_60, s_236_61, s_236_62, s_236_63, s_236_65, s_236_66, s_236_67, s_236_70, s_236_72, s_236_73, s_236_74, s_236_76, s_236_77, s_236_78, s_236_81, s_236_82, s_236_83, s_236_86, s_236_88, s_236_90, s_236_93, s_236_96, e_236, mv_i_1, mv_l_1, mv_a_1, mv_a_2, mv_a_3, mk2_n, mk2_i, mk2_l, mk2_a, mk2_u, mk2_x, mB_T, mB_F, mS_cons, mS_nil, mSB_T, mSB_F, mca_nil, mca_i, mca_l, mca_r, mca_u, mca_x, mcat_i, mcat_l, mcat_r, mcat_u, mcat_x, mK_some, mK_none, va_rf_s, va_rf_n, lgc_eq, lgc_lt, lgc_gt, lgc_ge, lgc_le, mrd_104, mrd_105, mrd_106, mrd_107, true_and, and_true, and_self, false_and, and_false, true_or, or_true, false_or, or_false, not_true_eq_false, not_false_eq_true, mgb, mga, mgr, mN, reduceCtorEq, ↓reduceIte, eq_self, ge_iff_le, gt_iff_lt, Nat.reduceAdd, Nat.reduceMul, Nat.reduceSub, Nat.reduceLT, Nat.reduceGT, Nat.reduceEqDiff, Nat.reduceLeDiff, Nat.left_eq_add, Nat.add_eq_left, Nat.reduceMod, Nat.reduceDiv, Nat.succ_ne_self, aS_g, aS_j, hg, c2, i32_or0, k1, show ((Int32.ofNat 19) = 19) = True by decide]
  · rw [if_neg c]
    have hK' : RK (aS h o al lo hi) N (some A) := RK_aS hg hK
    have gN : mg h N 13 := (RK_ko hK).1
    rcases hk with rfl | rfl
    · rw [if_pos rfl]
      obtain ⟨p, p1, p2⟩ := k_282 (d := d) hK' hT.t (i := 2 * x) (j := 2 * y) (by omega) (by omega)
      obtain ⟨q, q1, q2⟩ := k_282 (d := d) hK' hT.t (i := 2 * x + 1) (j := oc_b (2 * y)) (by omega) (oc_bl (by omega))
      have b := a_gr_r hT (v := 2 * x + 1) (w := oc_b (2 * y)) (by omega) (oc_bl (by omega))
      have e : e_ints (-a_gr A (2 * x + 1) (oc_b (2 * y))) (a_gr A (2 * x) (2 * y)) = e_ints (-q).toInt p.toInt := by rw [i64_n (by omega), p1, q1]
      rw [e]
      obtain ⟨f, l, u, e1, e2⟩ := r_232 (d := d + 1) (al := al) (lo := lo) (hi := hi) (x := -q) (y := p) hg
      refine ⟨f, l, u, e1, fun Q => ?_⟩
      simp (disch := omega) only [s_236_0, s_236_1, s_236_2, s_236_5, s_236_6, s_236_8, s_236_11, s_236_12, s_236_13, s_236_14, s_236_17, s_236_20, s_236_21, s_236_24, s_236_25, s_236_28, s_236_29, s_236_32, s_236_33, s_236_36, s_236_37, s_236_40, s_236_41, s_236_42, s_236_43, s_236_44, s_236_46, s_236_47, s_236_49, s_236_52, s_236_53, s_236_54, s_236_55, s_236_58, s_236_59, s_236_60, s_236_61, s_236_62, s_236_63, s_236_65, s_236_66, s_236_67, s_236_70, s_236_72, s_236_73, s_236_74, s_236_76, s_236_77, s_236_78, s_236_81, s_236_82, s_236_83, s_236_86, s_236_88, s_236_90, s_236_93, s_236_96, e_236, mv_i_1, mv_l_1, mv_a_1, mv_a_2, mv_a_3, mk2_n, mk2_i, mk2_l, mk2_a, mk2_u, mk2_x, mB_T, mB_F, mS_cons, mS_nil, mSB_T, mSB_F, mca_nil, mca_i, mca_l, mca_r, mca_u, mca_x, mcat_i, mcat_l, mcat_r, mcat_u, mcat_x, mK_some, mK_none, va_rf_s, va_rf_n, lgc_eq, lgc_lt, lgc_gt, lgc_ge, lgc_le, mrd_104, mrd_105, mrd_106, mrd_107, true_and, and_true, and_self, false_and, and_false, true_or, or_true, false_or, or_false, not_true_eq_false, not_false_eq_true, mgb, mga, mgr, mN, reduceCtorEq, ↓reduceIte, eq_self, ge_iff_le, gt_iff_lt, Nat.reduceAdd, Nat.reduceMul, Nat.reduceSub, Nat.reduceLT, Nat.reduceGT, Nat.reduceEqDiff, Nat.reduceLeDiff, Nat.left_eq_add, Nat.add_eq_left, Nat.reduceMod, Nat.reduceDiv, Nat.succ_ne_self, aS_g, aS_j, aS_r, hg, hN, gN, nn_eq, c, e3, ei, nn_xor1, p2, q2, kb_01, e2, show ((Int32.ofNat 18) = 18) = True by decide]
    · rw [if_neg (by omega)]
      obtain ⟨p, p1, p2⟩ := k_282 (d := d) hK' hT.t (i := 2 * x) (j := 2 * y + 1) (by omega) (by omega)
      obtain ⟨q, q1, q2⟩ := k_282 (d := d) hK' hT.t (i := 2 * x + 1) (j := oc_b (2 * y + 1)) (by omega) (oc_bl (by omega))
      have b := a_gr_r hT (v := 2 * x + 1) (w := oc_b (2 * y + 1)) (by omega) (oc_bl (by omega))
      have e : e_ints (-a_gr A (2 * x + 1) (oc_b (2 * y + 1))) (a_gr A (2 * x) (2 * y + 1)) = e_ints (-q).toInt p.toInt := by rw [i64_n (by omega), p1, q1]
      rw [e]
      obtain ⟨f, l, u, e1, e2⟩ := r_232 (d := d + 1) (al := al) (lo := lo) (hi := hi) (x := -q) (y := p) hg
      refine ⟨f, l, u, e1, fun Q => ?_⟩
      simp (disch := omega) only [s_236_0, s_236_1, s_236_2, s_236_5, s_236_6, s_236_8, s_236_11, s_236_12, s_236_13, s_236_14, s_236_17, s_236_20, s_236_21, s_236_24, s_236_25, s_236_28, s_236_29, s_236_32, s_236_33, s_236_36, s_236_37, s_236_40, s_236_41, s_236_42, s_236_43, s_236_44, s_236_46, s_236_47, s_236_49, s_236_52, s_236_53, s_236_54, s_236_55, s_236_58, s_236_59, s_236_60, s_236_61, s_236_62, s_236_63, s_236_65, s_236_66, s_236_67, s_236_70, s_236_72, s_236_73, s_236_74, s_236_76, s_236_77, s_236_78, s_236_81, s_236_82, s_236_83, s_236_86, s_236_88, s_236_90, s_236_93, s_236_96, e_236, mv_i_1, mv_l_1, mv_a_1, mv_a_2, mv_a_3, mk2_n, mk2_i, mk2_l, mk2_a, mk2_u, mk2_x, mB_T, mB_F, mS_cons, mS_nil, mSB_T, mSB_F, mca_nil, mca_i, mca_l, mca_r, mca_u, mca_x, mcat_i, mcat_l, mcat_r, mcat_u, mcat_x, mK_some, mK_none, va_rf_s, va_rf_n, lgc_eq, lgc_lt, lgc_gt, lgc_ge, lgc_le, mrd_104, mrd_105, mrd_106, mrd_107, true_and, and_true, and_self, false_and, and_false, true_or, or_true, false_or, or_false, not_true_eq_false, not_false_eq_true, mgb, mga, mgr, mN, reduceCtorEq, ↓reduceIte, eq_self, ge_iff_le, gt_iff_lt, Nat.reduceAdd, Nat.reduceMul, Nat.reduceSub, Nat.reduceLT, Nat.reduceGT, Nat.reduceEqDiff, Nat.reduceLeDiff, Nat.left_eq_add, Nat.add_eq_left, Nat.reduceMod, Nat.reduceDiv, Nat.succ_ne_self, aS_g, aS_j, aS_r, hg, hN, gN, nn_eq, c, e3, ei, nn_xor1, p2, q2, kb_01, e2, show ((Int32.ofNat 19) = 18) = False by decide]
end RG3
