set_option maxRecDepth 100000
/-! the reference's words and numbers -/
section RCs
variable {d : Nat} {h : mh_H} {n : Nat} {B : Nat → Int32}
/-- wordOf: one word -/
theorem l_307i (T : RTx h n B) {i w k : Nat} (hi : i + w ≤ n) (hk : k < 8) (hw : w = xL (18 + k)) : ∀ f j, j + f = w → ∃ y : Int32, ∀ Q, mw (d + 4) 307 Q 34 [some (.ref 81), some (.int (Int32.ofNat i)), some (.int (Int32.ofNat w)), some (.int (Int32.ofNat k)), some (.int 1), some (.int (Int32.ofNat j))] [] h = mw (d + 4) 307 Q 81 [some (.ref 81), some (.int (Int32.ofNat i)), some (.int (Int32.ofNat w)), some (.int (Int32.ofNat k)), some (.int (kb (spq B n i (18 + k) f j))), some (.int y)] [] h := by
  have g := T.F.g 81 14 70 (by decide +kernel)
  have r0 := T.F.f 81 0 2643 (by decide +kernel)
  have k0' := (T.F.g 2643 107 8 (by decide +kernel)).1
  have x0 := (T.F.g 2643 107 8 (by decide +kernel)).2
  have l0 := T.F.l 2643 107 8 (by decide +kernel)
  have r1 := T.F.f 81 1 82 (by decide +kernel)
  have g1 := T.F.g 82 100 16400 (by decide +kernel)
  have l1 := T.F.l 82 100 16400 (by decide +kernel)
  have hn := T.n
  have k1 : kb true = 1 := rfl
  have k0 : kb false = 0 := rfl
  have n1 : ((1 : Int32) = 0) = False := by decide
  have e1' : ∀ k, Int32.ofNat k + 1 = Int32.ofNat (k + 1) := fun k => nn_add (a := k) (b := 1)
  have xw := T.w k hk
  have xs := (xs_ok (18 + k) (by omega)).1
  intro f
  induction f with
  | zero =>
    intro j hj
    refine ⟨Int32.ofNat j, fun Q => ?_⟩
    have c' : (w ≤ j) = True := eq_true (by omega)
    have e : spq B n i (18 + k) 0 j = true := rfl
    rw [e, k1]
    clear T
    rw [s_307_34]
    simp (disch := omega) only [s_307_0, s_307_1, s_307_2, s_307_3, s_307_4, s_307_7, s_307_8, s_307_11, s_307_12, s_307_13, s_307_16, s_307_17, s_307_18, s_307_21, s_307_24, s_307_25, s_307_28, s_307_29, s_307_31, s_307_32, s_307_36, s_307_37, s_307_40, s_307_42, s_307_45, s_307_46, s_307_49, s_307_50, s_307_52, s_307_53, s_307_53x, s_307_54, s_307_55, s_307_58, s_307_59, s_307_60, s_307_62, s_307_65, s_307_68, s_307_69, s_307_72, s_307_73, s_307_75, s_307_78, s_307_83, s_307_86, s_307_89, s_307_90, s_307_91, s_307_92, s_307_95, s_307_98, s_307_99, s_307_101, s_307_104, s_307_105, s_307_108, s_307_109, e_307, mv_i_1, mv_l_1, mv_a_1, mv_a_2, mv_a_3, mk2_n, mk2_i, mk2_l, mk2_a, mk2_u, mk2_x, mB_T, mB_F, mS_cons, mS_nil, mSB_T, mSB_F, mca_nil, mca_i, mca_l, mca_r, mca_u, mca_x, mcat_i, mcat_l, mcat_r, mcat_u, mcat_x, mK_some, mK_none, va_rf_s, va_rf_n, lgc_eq, lgc_lt, lgc_gt, lgc_ge, lgc_le, mrd_104, mrd_105, mrd_106, mrd_107, true_and, and_true, and_self, false_and, and_false, true_or, or_true, false_or, or_false, not_true_eq_false, not_false_eq_true, mgb, mga, mgr, mN, reduceCtorEq, ↓reduceIte, eq_self, ge_iff_le, gt_iff_lt, Nat.reduceAdd, Nat.reduceMul, Nat.reduceSub, Nat.reduceLT, Nat.reduceGT, Nat.reduceEqDiff, Nat.reduceLeDiff, Nat.left_eq_add, Nat.add_eq_left, Nat.reduceMod, Nat.reduceDiv, Nat.succ_ne_self, nn_le, c']
  | succ f ih =>
    intro j hj
    have c' : (w ≤ j) = False := eq_false (by omega)
    have b0 := T.b (i + j) (by omega)
    have eb : bt B n (i + j) = B (i + j) := if_pos (by omega)
    have a2 := c_397 (d := d) (h := h) (j := 18 + k) (by omega) (i := j) (by omega)
    have e : spq B n i (18 + k) (f + 1) j = (if bt B n (i + j) = xB (18 + k) j then spq B n i (18 + k) f (j + 1) else false) := rfl
    rw [e, eb]
    by_cases c : B (i + j) = xB (18 + k) j
    · obtain ⟨y, y1⟩ := ih (j + 1) (by omega)
      refine ⟨y, fun Q => ?_⟩
      rw [if_pos c, ← y1 Q]
      have c1 := eq_true c
      clear T ih e hw y1
      rw [s_307_34]
      simp (disch := omega) only [s_307_0, s_307_1, s_307_2, s_307_3, s_307_4, s_307_7, s_307_8, s_307_11, s_307_12, s_307_13, s_307_16, s_307_17, s_307_18, s_307_21, s_307_24, s_307_25, s_307_28, s_307_29, s_307_31, s_307_32, s_307_36, s_307_37, s_307_40, s_307_42, s_307_45, s_307_46, s_307_49, s_307_50, s_307_52, s_307_53, s_307_53x, s_307_54, s_307_55, s_307_58, s_307_59, s_307_60, s_307_62, s_307_65, s_307_68, s_307_69, s_307_72, s_307_73, s_307_75, s_307_78, s_307_83, s_307_86, s_307_89, s_307_90, s_307_91, s_307_92, s_307_95, s_307_98, s_307_99, s_307_101, s_307_104, s_307_105, s_307_108, s_307_109, e_307, mv_i_1, mv_l_1, mv_a_1, mv_a_2, mv_a_3, mk2_n, mk2_i, mk2_l, mk2_a, mk2_u, mk2_x, mB_T, mB_F, mS_cons, mS_nil, mSB_T, mSB_F, mca_nil, mca_i, mca_l, mca_r, mca_u, mca_x, mcat_i, mcat_l, mcat_r, mcat_u, mcat_x, mK_some, mK_none, va_rf_s, va_rf_n, lgc_eq, lgc_lt, lgc_gt, lgc_ge, lgc_le, mrd_104, mrd_105, mrd_106, mrd_107, true_and, and_true, and_self, false_and, and_false, true_or, or_true, false_or, or_false, not_true_eq_false, not_false_eq_true, mgb, mga, mgr, mN, reduceCtorEq, ↓reduceIte, eq_self, ge_iff_le, gt_iff_lt, Nat.reduceAdd, Nat.reduceMul, Nat.reduceSub, Nat.reduceLT, Nat.reduceGT, Nat.reduceEqDiff, Nat.reduceLeDiff, Nat.left_eq_add, Nat.add_eq_left, Nat.reduceMod, Nat.reduceDiv, Nat.succ_ne_self, g, r0, k0', x0, l0, r1, g1, l1, nn_le, c', n1, nn_add, nn_mxT, nn_clamp, b0, xw, xs, a2, c1, e1']
    · refine ⟨Int32.ofNat (j + 1), fun Q => ?_⟩
      rw [if_neg c, k0]
      have c1 := eq_false c
      clear T ih e hw
      rw [s_307_34]
      by_cases c2 : w ≤ j + 1
      · have c2' := eq_true c2
        have st : ∀ Q, mw (d + 4) 307 Q 34 [some (.ref 81), some (.int (Int32.ofNat i)), some (.int (Int32.ofNat w)), some (.int (Int32.ofNat k)), some (.int 0), some (.int (Int32.ofNat (j + 1)))] [] h = mw (d + 4) 307 Q 81 [some (.ref 81), some (.int (Int32.ofNat i)), some (.int (Int32.ofNat w)), some (.int (Int32.ofNat k)), some (.int 0), some (.int (Int32.ofNat (j + 1)))] [] h := by
          intro Q
          rw [s_307_34]
          simp (disch := omega) only [s_307_0, s_307_1, s_307_2, s_307_3, s_307_4, s_307_7, s_307_8, s_307_11, s_307_12, s_307_13, s_307_16, s_307_17, s_307_18, s_307_21, s_307_24, s_307_25, s_307_28, s_307_29, s_307_31, s_307_32, s_307_36, s_307_37, s_307_40, s_307_42, s_307_45, s_307_46, s_307_49, s_307_50, s_307_52, s_307_53, s_307_53x, s_307_54, s_307_55, s_307_58, s_307_59, s_307_60, s_307_62, s_307_65, s_307_68, s_307_69, s_307_72, s_307_73, s_307_75, s_307_78, s_307_83, s_307_86, s_307_89, s_307_90, s_307_91, s_307_92, s_307_95, s_307_98, s_307_99, s_307_101, s_307_104, s_307_105, s_307_108, s_307_109, e_307, mv_i_1, mv_l_1, mv_a_1, mv_a_2, mv_a_3, mk2_n, mk2_i, mk2_l, mk2_a, mk2_u, mk2_x, mB_T, mB_F, mS_cons, mS_nil, mSB_T, mSB_F, mca_nil, mca_i, mca_l, mca_r, mca_u, mca_x, mcat_i, mcat_l, mcat_r, mcat_u, mcat_x, mK_some, mK_none, va_rf_s, va_rf_n, lgc_eq, lgc_lt, lgc_gt, lgc_ge, lgc_le, mrd_104, mrd_105, mrd_106, mrd_107, true_and, and_true, and_self, false_and, and_false, true_or, or_true, false_or, or_false, not_true_eq_false, not_false_eq_true, mgb, mga, mgr, mN, reduceCtorEq, ↓reduceIte, eq_self, ge_iff_le, gt_iff_lt, Nat.reduceAdd, Nat.reduceMul, Nat.reduceSub, Nat.reduceLT, Nat.reduceGT, Nat.reduceEqDiff, Nat.reduceLeDiff, Nat.left_eq_add, Nat.add_eq_left, Nat.reduceMod, Nat.reduceDiv, Nat.succ_ne_self, nn_le, c2']
        rw [← st Q]
        simp (disch := omega) only [s_307_0, s_307_1, s_307_2, s_307_3, s_307_4, s_307_7, s_307_8, s_307_11, s_307_12, s_307_13, s_307_16, s_307_17, s_307_18, s_307_21, s_307_24, s_307_25, s_307_28, s_307_29, s_307_31, s_307_32, s_307_36, s_307_37, s_307_40, s_307_42, s_307_45, s_307_46, s_307_49, s_307_50, s_307_52, s_307_53, s_307_53x, s_307_54, s_307_55, s_307_58, s_307_59, s_307_60, s_307_62, s_307_65, s_307_68, s_307_69, s_307_72, s_307_73, s_307_75, s_307_78, s_307_83, s_307_86, s_307_89, s_307_90, s_307_91, s_307_92, s_307_95, s_307_98, s_307_99, s_307_101, s_307_104, s_307_105, s_307_108, s_307_109, e_307, mv_i_1, mv_l_1, mv_a_1, mv_a_2, mv_a_3, mk2_n, mk2_i, mk2_l, mk2_a, mk2_u, mk2_x, mB_T, mB_F, mS_cons, mS_nil, mSB_T, mSB_F, mca_nil, mca_i, mca_l, mca_r, mca_u, mca_x, mcat_i, mcat_l, mcat_r, mcat_u, mcat_x, mK_some, mK_none, va_rf_s, va_rf_n, lgc_eq, lgc_lt, lgc_gt, lgc_ge, lgc_le, mrd_104, mrd_105, mrd_106, mrd_107, true_and, and_true, and_self, false_and, and_false, true_or, or_true, false_or, or_false, not_true_eq_false, not_false_eq_true, mgb, mga, mgr, mN, reduceCtorEq, ↓reduceIte, eq_self, ge_iff_le, gt_iff_lt, Nat.reduceAdd, Nat.reduceMul, Nat.reduceSub, Nat.reduceLT, Nat.reduceGT, Nat.reduceEqDiff, Nat.reduceLeDiff, Nat.left_eq_add, Nat.add_eq_left, Nat.reduceMod, Nat.reduceDiv, Nat.succ_ne_self, g, r0, k0', x0, l0, r1, g1, l1, nn_le, c', n1, nn_add, nn_mxT, nn_clamp, b0, xw, xs, a2, c1, e1']
      · have c2' := eq_false c2
        have st : ∀ Q, mw (d + 4) 307 Q 34 [some (.ref 81), some (.int (Int32.ofNat i)), some (.int (Int32.ofNat w)), some (.int (Int32.ofNat k)), some (.int 0), some (.int (Int32.ofNat (j + 1)))] [] h = mw (d + 4) 307 Q 81 [some (.ref 81), some (.int (Int32.ofNat i)), some (.int (Int32.ofNat w)), some (.int (Int32.ofNat k)), some (.int 0), some (.int (Int32.ofNat (j + 1)))] [] h := by
          intro Q
          rw [s_307_34]
          simp (disch := omega) only [s_307_0, s_307_1, s_307_2, s_307_3, s_307_4, s_307_7, s_307_8, s_307_11, s_307_12, s_307_13, s_307_16, s_307_17, s_307_18, s_307_21, s_307_24, s_307_25, s_307_28, s_307_29, s_307_31, s_307_32, s_307_36, s_307_37, s_307_40, s_307_42, s_307_45, s_307_46, s_307_49, s_307_50, s_307_52, s_307_53, s_307_53x, s_307_54, s_307_55, s_307_58, s_307_59, s_307_60, s_307_62, s_307_65, s_307_68, s_307_69, s_307_72, s_307_73, s_307_75, s_307_78, s_307_83, s_307_86, s_307_89, s_307_90, s_307_91, s_307_92, s_307_95, s_307_98, s_307_99, s_307_101, s_307_104, s_307_105, s_307_108, s_307_109, e_307, mv_i_1, mv_l_1, mv_a_1, mv_a_2, mv_a_3, mk2_n, mk2_i, mk2_l, mk2_a, mk2_u, mk2_x, mB_T, mB_F, mS_cons, mS_nil, mSB_T, mSB_F, mca_nil, mca_i, mca_l, mca_r, mca_u, mca_x, mcat_i, mcat_l, mcat_r, mcat_u, mcat_x, mK_some, mK_none, va_rf_s, va_rf_n, lgc_eq, lgc_lt, lgc_gt, lgc_ge, lgc_le, mrd_104, mrd_105, mrd_106, mrd_107, true_and, and_true, and_self, false_and, and_false, true_or, or_true, false_or, or_false, not_true_eq_false, not_false_eq_true, mgb, mga, mgr, mN, reduceCtorEq, ↓reduceIte, eq_self, ge_iff_le, gt_iff_lt, Nat.reduceAdd, Nat.reduceMul, Nat.reduceSub, Nat.reduceLT, Nat.reduceGT, Nat.reduceEqDiff, Nat.reduceLeDiff, Nat.left_eq_add, Nat.add_eq_left, Nat.reduceMod, Nat.reduceDiv, Nat.succ_ne_self, nn_le, c2']
        rw [← st Q]
        simp (disch := omega) only [s_307_0, s_307_1, s_307_2, s_307_3, s_307_4, s_307_7, s_307_8, s_307_11, s_307_12, s_307_13, s_307_16, s_307_17, s_307_18, s_307_21, s_307_24, s_307_25, s_307_28, s_307_29, s_307_31, s_307_32, s_307_36, s_307_37, s_307_40, s_307_42, s_307_45, s_307_46, s_307_49, s_307_50, s_307_52, s_307_53, s_307_53x, s_307_54, s_307_55, s_307_58, s_307_59, s_307_60, s_307_62, s_307_65, s_307_68, s_307_69, s_307_72, s_307_73, s_307_75, s_307_78, s_307_83, s_307_86, s_307_89, s_307_90, s_307_91, s_307_92, s_307_95, s_307_98, s_307_99, s_307_101, s_307_104, s_307_105, s_307_108, s_307_109, e_307, mv_i_1, mv_l_1, mv_a_1, mv_a_2, mv_a_3, mk2_n, mk2_i, mk2_l, mk2_a, mk2_u, mk2_x, mB_T, mB_F, mS_cons, mS_nil, mSB_T, mSB_F, mca_nil, mca_i, mca_l, mca_r, mca_u, mca_x, mcat_i, mcat_l, mcat_r, mcat_u, mcat_x, mK_some, mK_none, va_rf_s, va_rf_n, lgc_eq, lgc_lt, lgc_gt, lgc_ge, lgc_le, mrd_104, mrd_105, mrd_106, mrd_107, true_and, and_true, and_self, false_and, and_false, true_or, or_true, false_or, or_false, not_true_eq_false, not_false_eq_true, mgb, mga, mgr, mN, reduceCtorEq, ↓reduceIte, eq_self, ge_iff_le, gt_iff_lt, Nat.reduceAdd, Nat.reduceMul, Nat.reduceSub, Nat.reduceLT, Nat.reduceGT, Nat.reduceEqDiff, Nat.reduceLeDiff, Nat.left_eq_add, Nat.add_eq_left, Nat.reduceMod, Nat.reduceDiv, Nat.succ_ne_self, g, r0, k0', x0, l0, r1, g1, l1, nn_le, c', n1, nn_add, nn_mxT, nn_clamp, b0, xw, xs, a2, c1, e1']
/-- wordOf -/
theorem l_307 (T : RTx h n B) {i w : Nat} (hi : i + w ≤ n) (hw : 1 ≤ w) : ∀ f k (x4 x5 : Option Value), k + f = 8 → ∀ Q, mw (d + 4) 307 Q 2 [some (.ref 81), some (.int (Int32.ofNat i)), some (.int (Int32.ofNat w)), some (.int (Int32.ofNat k)), x4, x5] [] h = Q (some (.int (rwF B n i w f k))) h := by
  have g := T.F.g 81 14 70 (by decide +kernel)
  have r0 := T.F.f 81 0 2643 (by decide +kernel)
  have k0' := (T.F.g 2643 107 8 (by decide +kernel)).1
  have x0 := (T.F.g 2643 107 8 (by decide +kernel)).2
  have l0 := T.F.l 2643 107 8 (by decide +kernel)
  have hn := T.n
  have k1 : kb true = 1 := rfl
  have k0 : kb false = 0 := rfl
  have n1 : ((1 : Int32) = 0) = False := by decide
  have e1' : ∀ k, Int32.ofNat k + 1 = Int32.ofNat (k + 1) := fun k => nn_add (a := k) (b := 1)
  intro f
  induction f with
  | zero =>
    intro k x4 x5 hk Q
    have c' : (8 ≤ k) = True := eq_true (by omega)
    have e3 : (Int32.ofNat w ≤ 30) = (w ≤ 30) := nn_le (a := w) (b := 30) (by omega) (by omega)
    have e : rwF B n i w 0 k = (if 30 < w then 1 else 2) := rfl
    rw [e]
    clear T
    by_cases c : 30 < w
    · have c3 : (w ≤ 30) = False := eq_false (by omega)
      rw [if_pos c]
      simp (disch := omega) only [s_307_0, s_307_1, s_307_2, s_307_3, s_307_4, s_307_7, s_307_8, s_307_11, s_307_12, s_307_13, s_307_16, s_307_17, s_307_18, s_307_21, s_307_24, s_307_25, s_307_28, s_307_29, s_307_31, s_307_32, s_307_34, s_307_36, s_307_37, s_307_40, s_307_42, s_307_45, s_307_46, s_307_49, s_307_50, s_307_52, s_307_53, s_307_53x, s_307_54, s_307_55, s_307_58, s_307_59, s_307_60, s_307_62, s_307_65, s_307_68, s_307_69, s_307_72, s_307_73, s_307_75, s_307_78, s_307_81, s_307_83, s_307_86, s_307_89, s_307_90, s_307_91, s_307_92, s_307_95, s_307_98, s_307_99, s_307_101, s_307_104, s_307_105, s_307_108, s_307_109, e_307, mv_i_1, mv_l_1, mv_a_1, mv_a_2, mv_a_3, mk2_n, mk2_i, mk2_l, mk2_a, mk2_u, mk2_x, mB_T, mB_F, mS_cons, mS_nil, mSB_T, mSB_F, mca_nil, mca_i, mca_l, mca_r, mca_u, mca_x, mcat_i, mcat_l, mcat_r, mcat_u, mcat_x, mK_some, mK_none, va_rf_s, va_rf_n, lgc_eq, lgc_lt, lgc_gt, lgc_ge, lgc_le, mrd_104, mrd_105, mrd_106, mrd_107, true_and, and_true, and_self, false_and, and_false, true_or, or_true, false_or, or_false, not_true_eq_false, not_false_eq_true, mgb, mga, mgr, mN, reduceCtorEq, ↓reduceIte, eq_self, ge_iff_le, gt_iff_lt, Nat.reduceAdd, Nat.reduceMul, Nat.reduceSub, Nat.reduceLT, Nat.reduceGT, Nat.reduceEqDiff, Nat.reduceLeDiff, Nat.left_eq_add, Nat.add_eq_left, Nat.reduceMod, Nat.reduceDiv, Nat.succ_ne_self, g, r0, k0', x0, l0, nn_le, c', e3, c3]
    · have c3 : (w ≤ 30) = True := eq_true (by omega)
      rw [if_neg c]
      simp (disch := omega) only [s_307_0, s_307_1, s_307_2, s_307_3, s_307_4, s_307_7, s_307_8, s_307_11, s_307_12, s_307_13, s_307_16, s_307_17, s_307_18, s_307_21, s_307_24, s_307_25, s_307_28, s_307_29, s_307_31, s_307_32, s_307_34, s_307_36, s_307_37, s_307_40, s_307_42, s_307_45, s_307_46, s_307_49, s_307_50, s_307_52, s_307_53, s_307_53x, s_307_54, s_307_55, s_307_58, s_307_59, s_307_60, s_307_62, s_307_65, s_307_68, s_307_69, s_307_72, s_307_73, s_307_75, s_307_78, s_307_81, s_307_83, s_307_86, s_307_89, s_307_90, s_307_91, s_307_92, s_307_95, s_307_98, s_307_99, s_307_101, s_307_104, s_307_105, s_307_108, s_307_109, e_307, mv_i_1, mv_l_1, mv_a_1, mv_a_2, mv_a_3, mk2_n, mk2_i, mk2_l, mk2_a, mk2_u, mk2_x, mB_T, mB_F, mS_cons, mS_nil, mSB_T, mSB_F, mca_nil, mca_i, mca_l, mca_r, mca_u, mca_x, mcat_i, mcat_l, mcat_r, mcat_u, mcat_x, mK_some, mK_none, va_rf_s, va_rf_n, lgc_eq, lgc_lt, lgc_gt, lgc_ge, lgc_le, mrd_104, mrd_105, mrd_106, mrd_107, true_and, and_true, and_self, false_and, and_false, true_or, or_true, false_or, or_false, not_true_eq_false, not_false_eq_true, mgb, mga, mgr, mN, reduceCtorEq, ↓reduceIte, eq_self, ge_iff_le, gt_iff_lt, Nat.reduceAdd, Nat.reduceMul, Nat.reduceSub, Nat.reduceLT, Nat.reduceGT, Nat.reduceEqDiff, Nat.reduceLeDiff, Nat.left_eq_add, Nat.add_eq_left, Nat.reduceMod, Nat.reduceDiv, Nat.succ_ne_self, g, r0, k0', x0, l0, nn_le, c', e3, c3]
  | succ f ih =>
    intro k x4 x5 hk Q
    have c' : (8 ≤ k) = False := eq_false (by omega)
    have xw := T.w k (by omega)
    have xs := (xs_ok (18 + k) (by omega)).1
    have xl := xl_ok (18 + k) (by omega)
    have a0 := c_394 (d := d + 2) (h := h) (j := 18 + k) (by omega)
    have e : rwF B n i w (f + 1) k = (if spl9 B n i w (18 + k) = true then Int32.ofNat (300 + k) else rwF B n i w f (k + 1)) := rfl
    have ex : ∃ y : Int32, ∀ Q, mw (d + 4) 307 Q 2 [some (.ref 81), some (.int (Int32.ofNat i)), some (.int (Int32.ofNat w)), some (.int (Int32.ofNat k)), x4, x5] [] h = mw (d + 4) 307 Q 81 [some (.ref 81), some (.int (Int32.ofNat i)), some (.int (Int32.ofNat w)), some (.int (Int32.ofNat k)), some (.int (kb (spl9 B n i w (18 + k)))), some (.int y)] [] h := by
      by_cases c : w = xL (18 + k)
      · obtain ⟨y, y1⟩ := l_307i (d := d) T hi (by omega : k < 8) c w 0 (by omega)
        refine ⟨y, fun Q => ?_⟩
        rw [show spl9 B n i w (18 + k) = spq B n i (18 + k) w 0 from if_pos c, ← y1 Q]
        have c1 : (Int32.ofNat w = Int32.ofNat (xL (18 + k))) = True := eq_true (by rw [c])
        clear T ih e y1
        rw [s_307_2]
        simp (disch := omega) only [s_307_0, s_307_1, s_307_3, s_307_4, s_307_7, s_307_8, s_307_11, s_307_12, s_307_13, s_307_16, s_307_17, s_307_18, s_307_21, s_307_24, s_307_25, s_307_28, s_307_29, s_307_31, s_307_32, s_307_36, s_307_37, s_307_40, s_307_42, s_307_45, s_307_46, s_307_49, s_307_50, s_307_52, s_307_53, s_307_53x, s_307_54, s_307_55, s_307_58, s_307_59, s_307_60, s_307_62, s_307_65, s_307_68, s_307_69, s_307_72, s_307_73, s_307_75, s_307_78, s_307_81, s_307_83, s_307_86, s_307_89, s_307_90, s_307_91, s_307_92, s_307_95, s_307_98, s_307_99, s_307_101, s_307_104, s_307_105, s_307_108, s_307_109, e_307, mv_i_1, mv_l_1, mv_a_1, mv_a_2, mv_a_3, mk2_n, mk2_i, mk2_l, mk2_a, mk2_u, mk2_x, mB_T, mB_F, mS_cons, mS_nil, mSB_T, mSB_F, mca_nil, mca_i, mca_l, mca_r, mca_u, mca_x, mcat_i, mcat_l, mcat_r, mcat_u, mcat_x, mK_some, mK_none, va_rf_s, va_rf_n, lgc_eq, lgc_lt, lgc_gt, lgc_ge, lgc_le, mrd_104, mrd_105, mrd_106, mrd_107, true_and, and_true, and_self, false_and, and_false, true_or, or_true, false_or, or_false, not_true_eq_false, not_false_eq_true, mgb, mga, mgr, mN, reduceCtorEq, ↓reduceIte, eq_self, ge_iff_le, gt_iff_lt, Nat.reduceAdd, Nat.reduceMul, Nat.reduceSub, Nat.reduceLT, Nat.reduceGT, Nat.reduceEqDiff, Nat.reduceLeDiff, Nat.left_eq_add, Nat.add_eq_left, Nat.reduceMod, Nat.reduceDiv, Nat.succ_ne_self, g, r0, k0', x0, l0, nn_le, c', nn_mxT, nn_clamp, xw, xs, a0, c1]
        rfl
      · refine ⟨0, fun Q => ?_⟩
        rw [show spl9 B n i w (18 + k) = false from if_neg c, k0]
        have c1 : (Int32.ofNat w = Int32.ofNat (xL (18 + k))) = False := by rw [nn_eq (by omega) (by omega)]; exact eq_false c
        have c2 : (w ≤ 0) = False := eq_false (by omega)
        have z0 : (0 : Int32) = Int32.ofNat 0 := rfl
        clear T ih e
        have st : ∀ Q, mw (d + 4) 307 Q 34 [some (.ref 81), some (.int (Int32.ofNat i)), some (.int (Int32.ofNat w)), some (.int (Int32.ofNat k)), some (.int 0), some (.int (Int32.ofNat 0))] [] h = mw (d + 4) 307 Q 81 [some (.ref 81), some (.int (Int32.ofNat i)), some (.int (Int32.ofNat w)), some (.int (Int32.ofNat k)), some (.int 0), some (.int (Int32.ofNat 0))] [] h := by
          intro Q
          rw [s_307_34]
          simp (disch := omega) only [s_307_0, s_307_1, s_307_2, s_307_3, s_307_4, s_307_7, s_307_8, s_307_11, s_307_12, s_307_13, s_307_16, s_307_17, s_307_18, s_307_21, s_307_24, s_307_25, s_307_28, s_307_29, s_307_31, s_307_32, s_307_36, s_307_37, s_307_40, s_307_42, s_307_45, s_307_46, s_307_49, s_307_50, s_307_52, s_307_53, s_307_53x, s_307_54, s_307_55, s_307_58, s_307_59, s_307_60, s_307_62, s_307_65, s_307_68, s_307_69, s_307_72, s_307_73, s_307_75, s_307_78, s_307_83, s_307_86, s_307_89, s_307_90, s_307_91, s_307_92, s_307_95, s_307_98, s_307_99, s_307_101, s_307_104, s_307_105, s_307_108, s_307_109, e_307, mv_i_1, mv_l_1, mv_a_1, mv_a_2, mv_a_3, mk2_n, mk2_i, mk2_l, mk2_a, mk2_u, mk2_x, mB_T, mB_F, mS_cons, mS_nil, mSB_T, mSB_F, mca_nil, mca_i, mca_l, mca_r, mca_u, mca_x, mcat_i, mcat_l, mcat_r, mcat_u, mcat_x, mK_some, mK_none, va_rf_s, va_rf_n, lgc_eq, lgc_lt, lgc_gt, lgc_ge, lgc_le, mrd_104, mrd_105, mrd_106, mrd_107, true_and, and_true, and_self, false_and, and_false, true_or, or_true, false_or, or_false, not_true_eq_false, not_false_eq_true, mgb, mga, mgr, mN, reduceCtorEq, ↓reduceIte, eq_self, ge_iff_le, gt_iff_lt, Nat.reduceAdd, Nat.reduceMul, Nat.reduceSub, Nat.reduceLT, Nat.reduceGT, Nat.reduceEqDiff, Nat.reduceLeDiff, Nat.left_eq_add, Nat.add_eq_left, Nat.reduceMod, Nat.reduceDiv, Nat.succ_ne_self, nn_le, c2]
        refine Eq.trans ?_ (st Q)
        rw [s_307_2]
        simp (disch := omega) only [s_307_0, s_307_1, s_307_3, s_307_4, s_307_7, s_307_8, s_307_11, s_307_12, s_307_13, s_307_16, s_307_17, s_307_18, s_307_21, s_307_24, s_307_25, s_307_28, s_307_29, s_307_31, s_307_32, s_307_36, s_307_37, s_307_40, s_307_42, s_307_45, s_307_46, s_307_49, s_307_50, s_307_52, s_307_53, s_307_53x, s_307_54, s_307_55, s_307_58, s_307_59, s_307_60, s_307_62, s_307_65, s_307_68, s_307_69, s_307_72, s_307_73, s_307_75, s_307_78, s_307_81, s_307_83, s_307_86, s_307_89, s_307_90, s_307_91, s_307_92, s_307_95, s_307_98, s_307_99, s_307_101, s_307_104, s_307_105, s_307_108, s_307_109, e_307, mv_i_1, mv_l_1, mv_a_1, mv_a_2, mv_a_3, mk2_n, mk2_i, mk2_l, mk2_a, mk2_u, mk2_x, mB_T, mB_F, mS_cons, mS_nil, mSB_T, mSB_F, mca_nil, mca_i, mca_l, mca_r, mca_u, mca_x, mcat_i, mcat_l, mcat_r, mcat_u, mcat_x, mK_some, mK_none, va_rf_s, va_rf_n, lgc_eq, lgc_lt, lgc_gt, lgc_ge, lgc_le, mrd_104, mrd_105, mrd_106, mrd_107, true_and, and_true, and_self, false_and, and_false, true_or, or_true, false_or, or_false, not_true_eq_false, not_false_eq_true, mgb, mga, mgr, mN, reduceCtorEq, ↓reduceIte, eq_self, ge_iff_le, gt_iff_lt, Nat.reduceAdd, Nat.reduceMul, Nat.reduceSub, Nat.reduceLT, Nat.reduceGT, Nat.reduceEqDiff, Nat.reduceLeDiff, Nat.left_eq_add, Nat.add_eq_left, Nat.reduceMod, Nat.reduceDiv, Nat.succ_ne_self, g, r0, k0', x0, l0, nn_le, c', nn_mxT, nn_clamp, xw, xs, a0, c1]
        rfl
    obtain ⟨y, y1⟩ := ex
    rw [y1 Q, e]
    cases q : spl9 B n i w (18 + k) with
    | true =>
      rw [if_pos rfl, k1]
      have e3 : (300 : Int32) + Int32.ofNat k = Int32.ofNat (300 + k) := nn_add (a := 300) (b := k)
      clear T ih e y1
      simp (disch := omega) only [s_307_0, s_307_1, s_307_2, s_307_3, s_307_4, s_307_7, s_307_8, s_307_11, s_307_12, s_307_13, s_307_16, s_307_17, s_307_18, s_307_21, s_307_24, s_307_25, s_307_28, s_307_29, s_307_31, s_307_32, s_307_34, s_307_36, s_307_37, s_307_40, s_307_42, s_307_45, s_307_46, s_307_49, s_307_50, s_307_52, s_307_53, s_307_53x, s_307_54, s_307_55, s_307_58, s_307_59, s_307_60, s_307_62, s_307_65, s_307_68, s_307_69, s_307_72, s_307_73, s_307_75, s_307_78, s_307_81, s_307_83, s_307_86, s_307_89, s_307_90, s_307_91, s_307_92, s_307_95, s_307_98, s_307_99, s_307_101, s_307_104, s_307_105, s_307_108, s_307_109, e_307, mv_i_1, mv_l_1, mv_a_1, mv_a_2, mv_a_3, mk2_n, mk2_i, mk2_l, mk2_a, mk2_u, mk2_x, mB_T, mB_F, mS_cons, mS_nil, mSB_T, mSB_F, mca_nil, mca_i, mca_l, mca_r, mca_u, mca_x, mcat_i, mcat_l, mcat_r, mcat_u, mcat_x, mK_some, mK_none, va_rf_s, va_rf_n, lgc_eq, lgc_lt, lgc_gt, lgc_ge, lgc_le, mrd_104, mrd_105, mrd_106, mrd_107, true_and, and_true, and_self, false_and, and_false, true_or, or_true, false_or, or_false, not_true_eq_false, not_false_eq_true, mgb, mga, mgr, mN, reduceCtorEq, ↓reduceIte, eq_self, ge_iff_le, gt_iff_lt, Nat.reduceAdd, Nat.reduceMul, Nat.reduceSub, Nat.reduceLT, Nat.reduceGT, Nat.reduceEqDiff, Nat.reduceLeDiff, Nat.left_eq_add, Nat.add_eq_left, Nat.reduceMod, Nat.reduceDiv, Nat.succ_ne_self, n1, e3]
    | false =>
      rw [if_neg (by decide), k0, ← ih (k + 1) (some (.int 0)) (some (.int y)) (by omega) Q]
      clear T ih e y1
      simp (disch := omega) only [s_307_0, s_307_1, s_307_3, s_307_4, s_307_7, s_307_8, s_307_11, s_307_12, s_307_13, s_307_16, s_307_17, s_307_18, s_307_21, s_307_24, s_307_25, s_307_28, s_307_29, s_307_31, s_307_32, s_307_34, s_307_36, s_307_37, s_307_40, s_307_42, s_307_45, s_307_46, s_307_49, s_307_50, s_307_52, s_307_53, s_307_53x, s_307_54, s_307_55, s_307_58, s_307_59, s_307_60, s_307_62, s_307_65, s_307_68, s_307_69, s_307_72, s_307_73, s_307_75, s_307_78, s_307_81, s_307_83, s_307_86, s_307_89, s_307_90, s_307_91, s_307_92, s_307_95, s_307_98, s_307_99, s_307_101, s_307_104, s_307_105, s_307_108, s_307_109, e_307, mv_i_1, mv_l_1, mv_a_1, mv_a_2, mv_a_3, mk2_n, mk2_i, mk2_l, mk2_a, mk2_u, mk2_x, mB_T, mB_F, mS_cons, mS_nil, mSB_T, mSB_F, mca_nil, mca_i, mca_l, mca_r, mca_u, mca_x, mcat_i, mcat_l, mcat_r, mcat_u, mcat_x, mK_some, mK_none, va_rf_s, va_rf_n, lgc_eq, lgc_lt, lgc_gt, lgc_ge, lgc_le, mrd_104, mrd_105, mrd_106, mrd_107, true_and, and_true, and_self, false_and, and_false, true_or, or_true, false_or, or_false, not_true_eq_false, not_false_eq_true, mgb, mga, mgr, mN, reduceCtorEq, ↓reduceIte, eq_self, ge_iff_le, gt_iff_lt, Nat.reduceAdd, Nat.reduceMul, Nat.reduceSub, Nat.reduceLT, Nat.reduceGT, Nat.reduceEqDiff, Nat.reduceLeDiff, Nat.left_eq_add, Nat.add_eq_left, Nat.reduceMod, Nat.reduceDiv, Nat.succ_ne_self, e1']
theorem c_307 (T : RTx h n B) {i w : Nat} (hi : i + w ≤ n) (hw : 1 ≤ w) : ∀ Q, mcall (d + 4) 307 [.ref 81, .int (Int32.ofNat i), .int (Int32.ofNat w)] h Q = Q (some (.int (rwF B n i w 8 0))) h := fun Q => by
  rw [← l_307 (d := d) T hi hw 8 0 none none (by omega) Q]
  clear T
  simp only [s_307_0, s_307_1, s_307_3, s_307_4, s_307_7, s_307_8, s_307_11, s_307_12, s_307_13, s_307_16, s_307_17, s_307_18, s_307_21, s_307_24, s_307_25, s_307_28, s_307_29, s_307_31, s_307_32, s_307_34, s_307_36, s_307_37, s_307_40, s_307_42, s_307_45, s_307_46, s_307_49, s_307_50, s_307_52, s_307_53, s_307_53x, s_307_54, s_307_55, s_307_58, s_307_59, s_307_60, s_307_62, s_307_65, s_307_68, s_307_69, s_307_72, s_307_73, s_307_75, s_307_78, s_307_81, s_307_83, s_307_86, s_307_89, s_307_90, s_307_91, s_307_92, s_307_95, s_307_98, s_307_99, s_307_101, s_307_104, s_307_105, s_307_108, s_307_109, e_307, mv_i_1, mv_l_1, mv_a_1, mv_a_2, mv_a_3, mk2_n, mk2_i, mk2_l, mk2_a, mk2_u, mk2_x, mB_T, mB_F, mS_cons, mS_nil, mSB_T, mSB_F, mca_nil, mca_i, mca_l, mca_r, mca_u, mca_x, mcat_i, mcat_l, mcat_r, mcat_u, mcat_x, mK_some, mK_none, va_rf_s, va_rf_n, lgc_eq, lgc_lt, lgc_gt, lgc_ge, lgc_le, mrd_104, mrd_105, mrd_106, mrd_107, true_and, and_true, and_self, false_and, and_false, true_or, or_true, false_or, or_false, not_true_eq_false, not_false_eq_true, mgb, mga, mgr, mN, reduceCtorEq, ↓reduceIte, eq_self, ge_iff_le, gt_iff_lt]
  rfl
/-- isNumber -/
theorem l_308 (T : RTx h n B) {i W : Nat} (hi : i + W ≤ n) (hg : ∀ j, j < W → isG (B (i + j)) = true) : ∀ f j (w : Int64) (v : Int), j + f = W → w.toInt = v → 0 ≤ v → v ≤ 21474836479 → ∃ (y : Int64) (x5 : Int32), y.toInt = nvl B f (i + j) v ∧ ∀ Q, mw (d + 2) 308 Q 5 [some (.ref 81), some (.int (Int32.ofNat i)), some (.int (Int32.ofNat W)), some (.long w), none, some (.int (Int32.ofNat j))] [] h = mw (d + 2) 308 Q 46 [some (.ref 81), some (.int (Int32.ofNat i)), some (.int (Int32.ofNat W)), some (.long y), none, some (.int x5)] [] h := by
  have g := T.F.g 81 14 70 (by decide +kernel)
  have r1 := T.F.f 81 1 82 (by decide +kernel)
  have g1 := T.F.g 82 100 16400 (by decide +kernel)
  have l1 := T.F.l 82 100 16400 (by decide +kernel)
  have hn := T.n
  have e1' : ∀ k, Int32.ofNat k + 1 = Int32.ofNat (k + 1) := fun k => nn_add (a := k) (b := 1)
  intro f
  induction f with
  | zero =>
    intro j w v hj e a b
    refine ⟨w, Int32.ofNat j, e, fun Q => ?_⟩
    have c' : (W ≤ j) = True := eq_true (by omega)
    clear T
    rw [s_308_5]
    simp (disch := omega) only [s_308_0, s_308_1, s_308_2, s_308_3, s_308_7, s_308_8, s_308_11, s_308_12, s_308_15, s_308_16, s_308_19, s_308_22, s_308_23, s_308_24, s_308_25, s_308_28, s_308_29, s_308_31, s_308_32, s_308_33, s_308_34, s_308_35, s_308_38, s_308_39, s_308_40, s_308_43, s_308_47, s_308_50, s_308_51, s_308_54, s_308_55, s_308_56, s_308_59, s_308_60, s_308_63, s_308_64, s_308_65, s_308_67, s_308_70, s_308_71, s_308_72, s_308_73, s_308_74, s_308_77, s_308_80, s_308_81, s_308_84, s_308_85, e_308, mv_i_1, mv_l_1, mv_a_1, mv_a_2, mv_a_3, mk2_n, mk2_i, mk2_l, mk2_a, mk2_u, mk2_x, mB_T, mB_F, mS_cons, mS_nil, mSB_T, mSB_F, mca_nil, mca_i, mca_l, mca_r, mca_u, mca_x, mcat_i, mcat_l, mcat_r, mcat_u, mcat_x, mK_some, mK_none, va_rf_s, va_rf_n, lgc_eq, lgc_lt, lgc_gt, lgc_ge, lgc_le, mrd_104, mrd_105, mrd_106, mrd_107, true_and, and_true, and_self, false_and, and_false, true_or, or_true, false_or, or_false, not_true_eq_false, not_false_eq_true, mgb, mga, mgr, mN, reduceCtorEq, ↓reduceIte, eq_self, ge_iff_le, gt_iff_lt, Nat.reduceAdd, Nat.reduceMul, Nat.reduceSub, Nat.reduceLT, Nat.reduceGT, Nat.reduceEqDiff, Nat.reduceLeDiff, Nat.left_eq_add, Nat.add_eq_left, Nat.reduceMod, Nat.reduceDiv, Nat.succ_ne_self, nn_le, c']
  | succ f ih =>
    intro j w v hj e a b
    have c' : (W ≤ j) = False := eq_false (by omega)
    have b0 := T.b (i + j) (by omega)
    have gg := hg j (by omega)
    have en : nvl B (f + 1) (i + j) v = (if isG (B (i + j)) = true ∧ v ≤ 2147483647 then nvl B f (i + j + 1) (10 * v + (B (i + j)).toInt - 48) else v) := rfl
    rw [en]
    by_cases c : v ≤ 2147483647
    · rw [if_pos ⟨gg, c⟩]
      have gb := isG_b gg
      obtain ⟨y, x5, y1, y2⟩ := ih (j + 1) (10 * w + (B (i + j)).toInt64 - 48) (10 * v + (B (i + j)).toInt - 48) (by omega) (nv_st e a c gg) (by omega) (by omega)
      refine ⟨y, x5, y1, fun Q => ?_⟩
      rw [← y2 Q]
      have lt : (2147483647 < w) = False := eq_false (by rw [lt64, lit_hi, e]; omega)
      clear T ih y1 y2 hg
      rw [s_308_5]
      simp (disch := omega) only [s_308_0, s_308_1, s_308_2, s_308_3, s_308_7, s_308_8, s_308_11, s_308_12, s_308_15, s_308_16, s_308_19, s_308_22, s_308_23, s_308_24, s_308_25, s_308_28, s_308_29, s_308_31, s_308_32, s_308_33, s_308_34, s_308_35, s_308_38, s_308_39, s_308_40, s_308_43, s_308_47, s_308_50, s_308_51, s_308_54, s_308_55, s_308_56, s_308_59, s_308_60, s_308_63, s_308_64, s_308_65, s_308_67, s_308_70, s_308_71, s_308_72, s_308_73, s_308_74, s_308_77, s_308_80, s_308_81, s_308_84, s_308_85, e_308, mv_i_1, mv_l_1, mv_a_1, mv_a_2, mv_a_3, mk2_n, mk2_i, mk2_l, mk2_a, mk2_u, mk2_x, mB_T, mB_F, mS_cons, mS_nil, mSB_T, mSB_F, mca_nil, mca_i, mca_l, mca_r, mca_u, mca_x, mcat_i, mcat_l, mcat_r, mcat_u, mcat_x, mK_some, mK_none, va_rf_s, va_rf_n, lgc_eq, lgc_lt, lgc_gt, lgc_ge, lgc_le, mrd_104, mrd_105, mrd_106, mrd_107, true_and, and_true, and_self, false_and, and_false, true_or, or_true, false_or, or_false, not_true_eq_false, not_false_eq_true, mgb, mga, mgr, mN, reduceCtorEq, ↓reduceIte, eq_self, ge_iff_le, gt_iff_lt, Nat.reduceAdd, Nat.reduceMul, Nat.reduceSub, Nat.reduceLT, Nat.reduceGT, Nat.reduceEqDiff, Nat.reduceLeDiff, Nat.left_eq_add, Nat.add_eq_left, Nat.reduceMod, Nat.reduceDiv, Nat.succ_ne_self, g, r1, g1, l1, nn_le, c', nn_add, nn_mxT, nn_clamp, b0, lt, e1']
    · rw [if_neg (fun z => c z.2)]
      refine ⟨w, Int32.ofNat j, e, fun Q => ?_⟩
      have lt : (2147483647 < w) = True := eq_true (by rw [lt64, lit_hi, e]; omega)
      clear T ih hg
      rw [s_308_5]
      simp (disch := omega) only [s_308_0, s_308_1, s_308_2, s_308_3, s_308_7, s_308_8, s_308_11, s_308_12, s_308_15, s_308_16, s_308_19, s_308_22, s_308_23, s_308_24, s_308_25, s_308_28, s_308_29, s_308_31, s_308_32, s_308_33, s_308_34, s_308_35, s_308_38, s_308_39, s_308_40, s_308_43, s_308_47, s_308_50, s_308_51, s_308_54, s_308_55, s_308_56, s_308_59, s_308_60, s_308_63, s_308_64, s_308_65, s_308_67, s_308_70, s_308_71, s_308_72, s_308_73, s_308_74, s_308_77, s_308_80, s_308_81, s_308_84, s_308_85, e_308, mv_i_1, mv_l_1, mv_a_1, mv_a_2, mv_a_3, mk2_n, mk2_i, mk2_l, mk2_a, mk2_u, mk2_x, mB_T, mB_F, mS_cons, mS_nil, mSB_T, mSB_F, mca_nil, mca_i, mca_l, mca_r, mca_u, mca_x, mcat_i, mcat_l, mcat_r, mcat_u, mcat_x, mK_some, mK_none, va_rf_s, va_rf_n, lgc_eq, lgc_lt, lgc_gt, lgc_ge, lgc_le, mrd_104, mrd_105, mrd_106, mrd_107, true_and, and_true, and_self, false_and, and_false, true_or, or_true, false_or, or_false, not_true_eq_false, not_false_eq_true, mgb, mga, mgr, mN, reduceCtorEq, ↓reduceIte, eq_self, ge_iff_le, gt_iff_lt, Nat.reduceAdd, Nat.reduceMul, Nat.reduceSub, Nat.reduceLT, Nat.reduceGT, Nat.reduceEqDiff, Nat.reduceLeDiff, Nat.left_eq_add, Nat.add_eq_left, Nat.reduceMod, Nat.reduceDiv, Nat.succ_ne_self, nn_le, c', lt]
theorem c_308 (T : RTx h n B) {i : Nat} (hi : i < n) (h1 : isG (B i) = true) : ∀ Q, mcall (d + 2) 308 [.ref 81, .int (Int32.ofNat i), .int (Int32.ofNat (cw isG B (n - i) i))] h Q = Q (some (.int (kb (decide (¬ nmW B n i = 0))))) h := by
  intro Q
  have hn := T.n
  have hw := cw_le (p := isG) (B := B) (n - i) i
  have hg := cw_t (p := isG) (B := B) (n - i) i
  have he := cw_e (p := isG) (B := B) (n - i) i
  have h0 : 1 ≤ cw isG B (n - i) i := by
    cases z : n - i with
    | zero => omega
    | succ f => show 1 ≤ (if isG (B i) = true then cw isG B f (i + 1) + 1 else 0); rw [if_pos h1]; omega
  have nf := nvl_f (B := B) (n - i) i 0
  have eW : nmW B n i = if (1 < cw isG B (n - i) i ∧ B i = 48) ∨ isL (bt B n (i + cw isG B (n - i) i)) = true ∨ 2147483647 < nvl B (n - i) i 0 then 0 else cw isG B (n - i) i := rfl
  generalize cw isG B (n - i) i = W at *
  obtain ⟨y, x5, y1, y2⟩ := l_308 (d := d) T (i := i) (W := W) (by omega) hg W 0 0 0 (by omega) rfl (by omega) (by omega)
  rw [Nat.add_zero, nf] at y1
  have g := T.F.g 81 14 70 (by decide +kernel)
  have r1 := T.F.f 81 1 82 (by decide +kernel)
  have g1 := T.F.g 82 100 16400 (by decide +kernel)
  have l1 := T.F.l 82 100 16400 (by decide +kernel)
  have b0 := T.b i hi
  have k1 : kb true = 1 := rfl
  have k0 : kb false = 0 := rfl
  have n1 : ((1 : Int32) = 0) = False := by decide
  have p5 := c_305 (d := d) T (i := i + W) (by omega)
  have ew : (decide (i + W < n) && (isL (B (i + W)) || isG (B (i + W)))) = isL (bt B n (i + W)) := by
    by_cases c : i + W < n
    · rw [show decide (i + W < n) = true from decide_eq_true c, he (by omega), show bt B n (i + W) = B (i + W) from if_pos c, Bool.true_and, Bool.or_false]
    · rw [show decide (i + W < n) = false from decide_eq_false c, show bt B n (i + W) = -1 from if_neg c]; rfl
  rw [ew] at p5
  have st : mcall (d + 2) 308 [.ref 81, .int (Int32.ofNat i), .int (Int32.ofNat W)] h Q = mw (d + 2) 308 Q 46 [some (.ref 81), some (.int (Int32.ofNat i)), some (.int (Int32.ofNat W)), some (.long y), none, some (.int x5)] [] h := by
    refine Eq.trans ?_ (y2 Q)
    clear T y2 hg he
    simp only [s_308_0, s_308_1, s_308_2, s_308_3, s_308_7, s_308_8, s_308_11, s_308_12, s_308_15, s_308_16, s_308_19, s_308_22, s_308_23, s_308_24, s_308_25, s_308_28, s_308_29, s_308_31, s_308_32, s_308_33, s_308_34, s_308_35, s_308_38, s_308_39, s_308_40, s_308_43, s_308_47, s_308_50, s_308_51, s_308_54, s_308_55, s_308_56, s_308_59, s_308_60, s_308_63, s_308_64, s_308_65, s_308_67, s_308_70, s_308_71, s_308_72, s_308_73, s_308_74, s_308_77, s_308_80, s_308_81, s_308_84, s_308_85, e_308, mv_i_1, mv_l_1, mv_a_1, mv_a_2, mv_a_3, mk2_n, mk2_i, mk2_l, mk2_a, mk2_u, mk2_x, mB_T, mB_F, mS_cons, mS_nil, mSB_T, mSB_F, mca_nil, mca_i, mca_l, mca_r, mca_u, mca_x, mcat_i, mcat_l, mcat_r, mcat_u, mcat_x, mK_some, mK_none, va_rf_s, va_rf_n, lgc_eq, lgc_lt, lgc_gt, lgc_ge, lgc_le, mrd_104, mrd_105, mrd_106, mrd_107, true_and, and_true, and_self, false_and, and_false, true_or, or_true, false_or, or_false, not_true_eq_false, not_false_eq_true, mgb, mga, mgr, mN, reduceCtorEq, ↓reduceIte, eq_self, ge_iff_le, gt_iff_lt]
    rfl
  rw [st]
  have eW1 : (Int32.ofNat W = 1) = (W = 1) := nn_eq (a := W) (b := 1) (by omega) (by omega)
  have lt : (2147483647 < y) = (2147483647 < nvl B (n - i) i 0) := propext (by rw [lt64, lit_hi, y1])
  clear T y2 hg he st ew nf
  by_cases c3 : 2147483647 < nvl B (n - i) i 0
  · rw [eW, if_pos (Or.inr (Or.inr c3)), show decide (¬ (0 : Nat) = 0) = false from rfl, k0]
    have c3' := eq_true c3
    simp (disch := omega) only [s_308_0, s_308_1, s_308_2, s_308_3, s_308_5, s_308_7, s_308_8, s_308_11, s_308_12, s_308_15, s_308_16, s_308_19, s_308_22, s_308_23, s_308_24, s_308_25, s_308_28, s_308_29, s_308_31, s_308_32, s_308_33, s_308_34, s_308_35, s_308_38, s_308_39, s_308_40, s_308_43, s_308_46, s_308_47, s_308_50, s_308_51, s_308_54, s_308_55, s_308_56, s_308_59, s_308_60, s_308_63, s_308_64, s_308_65, s_308_67, s_308_70, s_308_71, s_308_72, s_308_73, s_308_74, s_308_77, s_308_80, s_308_81, s_308_84, s_308_85, e_308, mv_i_1, mv_l_1, mv_a_1, mv_a_2, mv_a_3, mk2_n, mk2_i, mk2_l, mk2_a, mk2_u, mk2_x, mB_T, mB_F, mS_cons, mS_nil, mSB_T, mSB_F, mca_nil, mca_i, mca_l, mca_r, mca_u, mca_x, mcat_i, mcat_l, mcat_r, mcat_u, mcat_x, mK_some, mK_none, va_rf_s, va_rf_n, lgc_eq, lgc_lt, lgc_gt, lgc_ge, lgc_le, mrd_104, mrd_105, mrd_106, mrd_107, true_and, and_true, and_self, false_and, and_false, true_or, or_true, false_or, or_false, not_true_eq_false, not_false_eq_true, mgb, mga, mgr, mN, reduceCtorEq, ↓reduceIte, eq_self, ge_iff_le, gt_iff_lt, Nat.reduceAdd, Nat.reduceMul, Nat.reduceSub, Nat.reduceLT, Nat.reduceGT, Nat.reduceEqDiff, Nat.reduceLeDiff, Nat.left_eq_add, Nat.add_eq_left, Nat.reduceMod, Nat.reduceDiv, Nat.succ_ne_self, lt, c3']
  have c3' := eq_false c3
  by_cases c1 : 1 < W ∧ B i = 48
  · rw [eW, if_pos (Or.inl c1), show decide (¬ (0 : Nat) = 0) = false from rfl, k0]
    have q1 : (W = 1) = False := eq_false (by omega)
    have q2 := eq_true c1.2
    simp (disch := omega) only [s_308_0, s_308_1, s_308_2, s_308_3, s_308_5, s_308_7, s_308_8, s_308_11, s_308_12, s_308_15, s_308_16, s_308_19, s_308_22, s_308_23, s_308_24, s_308_25, s_308_28, s_308_29, s_308_31, s_308_32, s_308_33, s_308_34, s_308_35, s_308_38, s_308_39, s_308_40, s_308_43, s_308_46, s_308_47, s_308_50, s_308_51, s_308_54, s_308_55, s_308_56, s_308_59, s_308_60, s_308_63, s_308_64, s_308_65, s_308_67, s_308_70, s_308_71, s_308_72, s_308_73, s_308_74, s_308_77, s_308_80, s_308_81, s_308_84, s_308_85, e_308, mv_i_1, mv_l_1, mv_a_1, mv_a_2, mv_a_3, mk2_n, mk2_i, mk2_l, mk2_a, mk2_u, mk2_x, mB_T, mB_F, mS_cons, mS_nil, mSB_T, mSB_F, mca_nil, mca_i, mca_l, mca_r, mca_u, mca_x, mcat_i, mcat_l, mcat_r, mcat_u, mcat_x, mK_some, mK_none, va_rf_s, va_rf_n, lgc_eq, lgc_lt, lgc_gt, lgc_ge, lgc_le, mrd_104, mrd_105, mrd_106, mrd_107, true_and, and_true, and_self, false_and, and_false, true_or, or_true, false_or, or_false, not_true_eq_false, not_false_eq_true, mgb, mga, mgr, mN, reduceCtorEq, ↓reduceIte, eq_self, ge_iff_le, gt_iff_lt, Nat.reduceAdd, Nat.reduceMul, Nat.reduceSub, Nat.reduceLT, Nat.reduceGT, Nat.reduceEqDiff, Nat.reduceLeDiff, Nat.left_eq_add, Nat.add_eq_left, Nat.reduceMod, Nat.reduceDiv, Nat.succ_ne_self, lt, c3', g, r1, g1, l1, eW1, q1, nn_mxT, nn_clamp, b0, q2]
  have s3 : ∀ Q, mw (d + 2) 308 Q 46 [some (.ref 81), some (.int (Int32.ofNat i)), some (.int (Int32.ofNat W)), some (.long y), none, some (.int x5)] [] h = mw (d + 2) 308 Q 70 [some (.ref 81), some (.int (Int32.ofNat i)), some (.int (Int32.ofNat W)), some (.long y), none, some (.int x5)] [] h := by
    intro Q
    by_cases q1 : W = 1
    · have q1' := eq_true q1
      simp (disch := omega) only [s_308_0, s_308_1, s_308_2, s_308_3, s_308_5, s_308_7, s_308_8, s_308_11, s_308_12, s_308_15, s_308_16, s_308_19, s_308_22, s_308_23, s_308_24, s_308_25, s_308_28, s_308_29, s_308_31, s_308_32, s_308_33, s_308_34, s_308_35, s_308_38, s_308_39, s_308_40, s_308_43, s_308_46, s_308_47, s_308_50, s_308_51, s_308_54, s_308_55, s_308_56, s_308_59, s_308_60, s_308_63, s_308_64, s_308_65, s_308_67, s_308_71, s_308_72, s_308_73, s_308_74, s_308_77, s_308_80, s_308_81, s_308_84, s_308_85, e_308, mv_i_1, mv_l_1, mv_a_1, mv_a_2, mv_a_3, mk2_n, mk2_i, mk2_l, mk2_a, mk2_u, mk2_x, mB_T, mB_F, mS_cons, mS_nil, mSB_T, mSB_F, mca_nil, mca_i, mca_l, mca_r, mca_u, mca_x, mcat_i, mcat_l, mcat_r, mcat_u, mcat_x, mK_some, mK_none, va_rf_s, va_rf_n, lgc_eq, lgc_lt, lgc_gt, lgc_ge, lgc_le, mrd_104, mrd_105, mrd_106, mrd_107, true_and, and_true, and_self, false_and, and_false, true_or, or_true, false_or, or_false, not_true_eq_false, not_false_eq_true, mgb, mga, mgr, mN, reduceCtorEq, ↓reduceIte, eq_self, ge_iff_le, gt_iff_lt, Nat.reduceAdd, Nat.reduceMul, Nat.reduceSub, Nat.reduceLT, Nat.reduceGT, Nat.reduceEqDiff, Nat.reduceLeDiff, Nat.left_eq_add, Nat.add_eq_left, Nat.reduceMod, Nat.reduceDiv, Nat.succ_ne_self, lt, c3', eW1, q1']
    · have q1' := eq_false q1
      have q2 : (B i = 48) = False := eq_false (fun z => c1 ⟨by omega, z⟩)
      simp (disch := omega) only [s_308_0, s_308_1, s_308_2, s_308_3, s_308_5, s_308_7, s_308_8, s_308_11, s_308_12, s_308_15, s_308_16, s_308_19, s_308_22, s_308_23, s_308_24, s_308_25, s_308_28, s_308_29, s_308_31, s_308_32, s_308_33, s_308_34, s_308_35, s_308_38, s_308_39, s_308_40, s_308_43, s_308_46, s_308_47, s_308_50, s_308_51, s_308_54, s_308_55, s_308_56, s_308_59, s_308_60, s_308_63, s_308_64, s_308_65, s_308_67, s_308_71, s_308_72, s_308_73, s_308_74, s_308_77, s_308_80, s_308_81, s_308_84, s_308_85, e_308, mv_i_1, mv_l_1, mv_a_1, mv_a_2, mv_a_3, mk2_n, mk2_i, mk2_l, mk2_a, mk2_u, mk2_x, mB_T, mB_F, mS_cons, mS_nil, mSB_T, mSB_F, mca_nil, mca_i, mca_l, mca_r, mca_u, mca_x, mcat_i, mcat_l, mcat_r, mcat_u, mcat_x, mK_some, mK_none, va_rf_s, va_rf_n, lgc_eq, lgc_lt, lgc_gt, lgc_ge, lgc_le, mrd_104, mrd_105, mrd_106, mrd_107, true_and, and_true, and_self, false_and, and_false, true_or, or_true, false_or, or_false, not_true_eq_false, not_false_eq_true, mgb, mga, mgr, mN, reduceCtorEq, ↓reduceIte, eq_self, ge_iff_le, gt_iff_lt, Nat.reduceAdd, Nat.reduceMul, Nat.reduceSub, Nat.reduceLT, Nat.reduceGT, Nat.reduceEqDiff, Nat.reduceLeDiff, Nat.left_eq_add, Nat.add_eq_left, Nat.reduceMod, Nat.reduceDiv, Nat.succ_ne_self, lt, c3', g, r1, g1, l1, eW1, q1', nn_mxT, nn_clamp, b0, q2]
  rw [s3, eW]
  clear s3
  cases c2 : isL (bt B n (i + W)) with
  | true =>
    rw [if_pos (Or.inr (Or.inl rfl)), show decide (¬ (0 : Nat) = 0) = false from rfl, k0]
    rw [c2] at p5
    simp (disch := omega) only [s_308_0, s_308_1, s_308_2, s_308_3, s_308_5, s_308_7, s_308_8, s_308_11, s_308_12, s_308_15, s_308_16, s_308_19, s_308_22, s_308_23, s_308_24, s_308_25, s_308_28, s_308_29, s_308_31, s_308_32, s_308_33, s_308_34, s_308_35, s_308_38, s_308_39, s_308_40, s_308_43, s_308_46, s_308_47, s_308_50, s_308_51, s_308_54, s_308_55, s_308_56, s_308_59, s_308_60, s_308_63, s_308_64, s_308_65, s_308_67, s_308_70, s_308_71, s_308_72, s_308_73, s_308_74, s_308_77, s_308_80, s_308_81, s_308_84, s_308_85, e_308, mv_i_1, mv_l_1, mv_a_1, mv_a_2, mv_a_3, mk2_n, mk2_i, mk2_l, mk2_a, mk2_u, mk2_x, mB_T, mB_F, mS_cons, mS_nil, mSB_T, mSB_F, mca_nil, mca_i, mca_l, mca_r, mca_u, mca_x, mcat_i, mcat_l, mcat_r, mcat_u, mcat_x, mK_some, mK_none, va_rf_s, va_rf_n, lgc_eq, lgc_lt, lgc_gt, lgc_ge, lgc_le, mrd_104, mrd_105, mrd_106, mrd_107, true_and, and_true, and_self, false_and, and_false, true_or, or_true, false_or, or_false, not_true_eq_false, not_false_eq_true, mgb, mga, mgr, mN, reduceCtorEq, ↓reduceIte, eq_self, ge_iff_le, gt_iff_lt, Nat.reduceAdd, Nat.reduceMul, Nat.reduceSub, Nat.reduceLT, Nat.reduceGT, Nat.reduceEqDiff, Nat.reduceLeDiff, Nat.left_eq_add, Nat.add_eq_left, Nat.reduceMod, Nat.reduceDiv, Nat.succ_ne_self, g, nn_add, p5, k1, n1]
  | false =>
    rw [if_neg (fun z => by rcases z with z | z | z; exact c1 z; cases z; exact c3 z), show decide (¬ W = 0) = true from decide_eq_true (by omega), k1]
    rw [c2] at p5
    simp (disch := omega) only [s_308_0, s_308_1, s_308_2, s_308_3, s_308_5, s_308_7, s_308_8, s_308_11, s_308_12, s_308_15, s_308_16, s_308_19, s_308_22, s_308_23, s_308_24, s_308_25, s_308_28, s_308_29, s_308_31, s_308_32, s_308_33, s_308_34, s_308_35, s_308_38, s_308_39, s_308_40, s_308_43, s_308_46, s_308_47, s_308_50, s_308_51, s_308_54, s_308_55, s_308_56, s_308_59, s_308_60, s_308_63, s_308_64, s_308_65, s_308_67, s_308_70, s_308_71, s_308_72, s_308_73, s_308_74, s_308_77, s_308_80, s_308_81, s_308_84, s_308_85, e_308, mv_i_1, mv_l_1, mv_a_1, mv_a_2, mv_a_3, mk2_n, mk2_i, mk2_l, mk2_a, mk2_u, mk2_x, mB_T, mB_F, mS_cons, mS_nil, mSB_T, mSB_F, mca_nil, mca_i, mca_l, mca_r, mca_u, mca_x, mcat_i, mcat_l, mcat_r, mcat_u, mcat_x, mK_some, mK_none, va_rf_s, va_rf_n, lgc_eq, lgc_lt, lgc_gt, lgc_ge, lgc_le, mrd_104, mrd_105, mrd_106, mrd_107, true_and, and_true, and_self, false_and, and_false, true_or, or_true, false_or, or_false, not_true_eq_false, not_false_eq_true, mgb, mga, mgr, mN, reduceCtorEq, ↓reduceIte, eq_self, ge_iff_le, gt_iff_lt, Nat.reduceAdd, Nat.reduceMul, Nat.reduceSub, Nat.reduceLT, Nat.reduceGT, Nat.reduceEqDiff, Nat.reduceLeDiff, Nat.left_eq_add, Nat.add_eq_left, Nat.reduceMod, Nat.reduceDiv, Nat.succ_ne_self, g, nn_add, p5, k0]
end RCs
