set_option maxRecDepth 100000
/-! numbers and words in the class's Tokens -/
theorem nvl_b {B : Nat → Int32} : ∀ f i v, 0 ≤ v → v ≤ 21474836479 → 0 ≤ nvl B f i v ∧ nvl B f i v ≤ 21474836479 := by
  intro f
  induction f with
  | zero => exact fun i v a b => ⟨a, b⟩
  | succ f ih =>
    intro i v a b
    show 0 ≤ (if isG (B i) = true ∧ v ≤ 2147483647 then nvl B f (i + 1) (10 * v + (B i).toInt - 48) else v) ∧ (if isG (B i) = true ∧ v ≤ 2147483647 then nvl B f (i + 1) (10 * v + (B i).toInt - 48) else v) ≤ 21474836479
    by_cases c : isG (B i) = true ∧ v ≤ 2147483647
    · rw [if_pos c]
      have g := isG_b c.1
      exact ih _ _ (by omega) (by omega)
    · rw [if_neg c]; exact ⟨a, b⟩
theorem nv_st {w : Int64} {c : Int32} {v : Int} (e : w.toInt = v) (a : 0 ≤ v) (b : v ≤ 2147483647) (g : isG c = true) : (10 * w + c.toInt64 - 48).toInt = 10 * v + c.toInt - 48 := by
  have gb := isG_b g
  have e10 : (10 : Int64).toInt = 10 := rfl
  have e48 : (48 : Int64).toInt = 48 := rfl
  have m1 : (10 * w).toInt = 10 * v := by rw [lmul_int (by rw [e10, e]; omega) (by rw [e10, e]; omega), e10, e]
  have m2 : (10 * w + c.toInt64).toInt = 10 * v + c.toInt := by
    rw [Int64.toInt_add, m1, Int32.toInt_toInt64]
    exact Int.bmod_eq_of_le (by omega) (by omega)
  rw [Int64.toInt_sub, m2, e48]
  exact Int.bmod_eq_of_le (by omega) (by omega)
section TCs
variable {d : Nat} {h : mh_H} {To X n : Nat} {B : Nat → Int32}
theorem l_177 (T : TB h To X n B) {x1 : Int32} : ∀ f i (w : Int64) (v : Int), i + f = n → w.toInt = v → 0 ≤ v → v ≤ 21474836479 → ∃ y : Int64, y.toInt = nvl B f i v ∧ ∀ Q, mw (d + 1) 177 Q 5 [some (.ref To), some (.int x1), some (.long w), none, some (.int (Int32.ofNat i))] [] h = Q (some (.long y)) h := by
  have g := T.g
  have rr := T.r
  have k := T.k
  have x := T.x
  have l := T.l
  have hn := T.n
  have k1 : kb true = 1 := rfl
  have k0 : kb false = 0 := rfl
  have n1 : ((1 : Int32) = 0) = False := by decide
  have e1' : ∀ k, Int32.ofNat k + 1 = Int32.ofNat (k + 1) := fun k => nn_add (a := k) (b := 1)
  intro f
  induction f with
  | zero =>
    intro i w v hi e a b
    refine ⟨w, e, fun Q => ?_⟩
    have c' : (n ≤ i) = True := eq_true (by omega)
    clear T
    simp (disch := omega) only [s_177_0, s_177_1, s_177_2, s_177_3, s_177_5, s_177_7, s_177_8, s_177_11, s_177_12, s_177_15, s_177_16, s_177_18, s_177_21, s_177_24, s_177_27, s_177_28, s_177_31, s_177_32, s_177_35, s_177_38, s_177_39, s_177_40, s_177_41, s_177_43, s_177_46, s_177_47, s_177_48, s_177_51, s_177_52, s_177_53, s_177_56, s_177_59, s_177_60, e_177, mv_i_1, mv_l_1, mv_a_1, mv_a_2, mv_a_3, mk2_n, mk2_i, mk2_l, mk2_a, mk2_u, mk2_x, mB_T, mB_F, mS_cons, mS_nil, mSB_T, mSB_F, mca_nil, mca_i, mca_l, mca_r, mca_u, mca_x, mcat_i, mcat_l, mcat_r, mcat_u, mcat_x, mK_some, mK_none, va_rf_s, va_rf_n, lgc_eq, lgc_lt, lgc_gt, lgc_ge, lgc_le, mrd_104, mrd_105, mrd_106, mrd_107, true_and, and_true, and_self, false_and, and_false, true_or, or_true, false_or, or_false, not_true_eq_false, not_false_eq_true, mgb, mga, mgr, mN, reduceCtorEq, ↓reduceIte, eq_self, ge_iff_le, gt_iff_lt, Nat.reduceAdd, Nat.reduceMul, Nat.reduceSub, Nat.reduceLT, Nat.reduceGT, Nat.reduceEqDiff, Nat.reduceLeDiff, Nat.left_eq_add, Nat.add_eq_left, Nat.reduceMod, Nat.reduceDiv, Nat.succ_ne_self, g, rr, k, x, l, nn_le, c']
  | succ f ih =>
    intro i w v hi e a b
    have c' : (n ≤ i) = False := eq_false (by omega)
    have a1 := c_170 (d := d) T (i := i) (by omega)
    have eb : bt B n i = B i := if_pos (by omega)
    have p2 := c_173 (d := d) (h := h) (B i)
    have en : nvl B (f + 1) i v = (if isG (B i) = true ∧ v ≤ 2147483647 then nvl B f (i + 1) (10 * v + (B i).toInt - 48) else v) := rfl
    rw [en]
    by_cases c : isG (B i) = true ∧ v ≤ 2147483647
    · rw [if_pos c]
      obtain ⟨c1, c2⟩ := c
      have gb := isG_b c1
      obtain ⟨y, y1, y2⟩ := ih (i + 1) (10 * w + (B i).toInt64 - 48) (10 * v + (B i).toInt - 48) (by omega) (nv_st e a c2 c1) (by omega) (by omega)
      refine ⟨y, y1, fun Q => ?_⟩
      rw [← y2 Q]
      have lt : (2147483647 < w) = False := eq_false (by rw [lt64, lit_hi, e]; omega)
      rw [c1] at p2
      clear T ih y1 y2
      rw [s_177_5]
      simp (disch := omega) only [s_177_0, s_177_1, s_177_2, s_177_3, s_177_7, s_177_8, s_177_11, s_177_12, s_177_15, s_177_16, s_177_18, s_177_21, s_177_24, s_177_27, s_177_28, s_177_31, s_177_32, s_177_35, s_177_38, s_177_39, s_177_40, s_177_41, s_177_43, s_177_46, s_177_47, s_177_48, s_177_51, s_177_52, s_177_53, s_177_56, s_177_59, s_177_60, e_177, mv_i_1, mv_l_1, mv_a_1, mv_a_2, mv_a_3, mk2_n, mk2_i, mk2_l, mk2_a, mk2_u, mk2_x, mB_T, mB_F, mS_cons, mS_nil, mSB_T, mSB_F, mca_nil, mca_i, mca_l, mca_r, mca_u, mca_x, mcat_i, mcat_l, mcat_r, mcat_u, mcat_x, mK_some, mK_none, va_rf_s, va_rf_n, lgc_eq, lgc_lt, lgc_gt, lgc_ge, lgc_le, mrd_104, mrd_105, mrd_106, mrd_107, true_and, and_true, and_self, false_and, and_false, true_or, or_true, false_or, or_false, not_true_eq_false, not_false_eq_true, mgb, mga, mgr, mN, reduceCtorEq, ↓reduceIte, eq_self, ge_iff_le, gt_iff_lt, Nat.reduceAdd, Nat.reduceMul, Nat.reduceSub, Nat.reduceLT, Nat.reduceGT, Nat.reduceEqDiff, Nat.reduceLeDiff, Nat.left_eq_add, Nat.add_eq_left, Nat.reduceMod, Nat.reduceDiv, Nat.succ_ne_self, g, rr, k, x, l, nn_le, c', a1, eb, p2, k1, n1, lt, e1']
    · rw [if_neg c]
      refine ⟨w, e, fun Q => ?_⟩
      cases c1 : isG (B i) with
      | false =>
        rw [c1] at p2
        clear T ih
        rw [s_177_5]
        simp (disch := omega) only [s_177_0, s_177_1, s_177_2, s_177_3, s_177_7, s_177_8, s_177_11, s_177_12, s_177_15, s_177_16, s_177_18, s_177_21, s_177_24, s_177_27, s_177_28, s_177_31, s_177_32, s_177_35, s_177_38, s_177_39, s_177_40, s_177_41, s_177_43, s_177_46, s_177_47, s_177_48, s_177_51, s_177_52, s_177_53, s_177_56, s_177_59, s_177_60, e_177, mv_i_1, mv_l_1, mv_a_1, mv_a_2, mv_a_3, mk2_n, mk2_i, mk2_l, mk2_a, mk2_u, mk2_x, mB_T, mB_F, mS_cons, mS_nil, mSB_T, mSB_F, mca_nil, mca_i, mca_l, mca_r, mca_u, mca_x, mcat_i, mcat_l, mcat_r, mcat_u, mcat_x, mK_some, mK_none, va_rf_s, va_rf_n, lgc_eq, lgc_lt, lgc_gt, lgc_ge, lgc_le, mrd_104, mrd_105, mrd_106, mrd_107, true_and, and_true, and_self, false_and, and_false, true_or, or_true, false_or, or_false, not_true_eq_false, not_false_eq_true, mgb, mga, mgr, mN, reduceCtorEq, ↓reduceIte, eq_self, ge_iff_le, gt_iff_lt, Nat.reduceAdd, Nat.reduceMul, Nat.reduceSub, Nat.reduceLT, Nat.reduceGT, Nat.reduceEqDiff, Nat.reduceLeDiff, Nat.left_eq_add, Nat.add_eq_left, Nat.reduceMod, Nat.reduceDiv, Nat.succ_ne_self, g, rr, k, x, l, nn_le, c', a1, eb, p2, k0, e1']
      | true =>
        have lt : (2147483647 < w) = True := eq_true (by rw [lt64, lit_hi, e]; exact Int.not_le.mp (fun z => c ⟨c1, z⟩))
        rw [c1] at p2
        clear T ih
        rw [s_177_5]
        simp (disch := omega) only [s_177_0, s_177_1, s_177_2, s_177_3, s_177_7, s_177_8, s_177_11, s_177_12, s_177_15, s_177_16, s_177_18, s_177_21, s_177_24, s_177_27, s_177_28, s_177_31, s_177_32, s_177_35, s_177_38, s_177_39, s_177_40, s_177_41, s_177_43, s_177_46, s_177_47, s_177_48, s_177_51, s_177_52, s_177_53, s_177_56, s_177_59, s_177_60, e_177, mv_i_1, mv_l_1, mv_a_1, mv_a_2, mv_a_3, mk2_n, mk2_i, mk2_l, mk2_a, mk2_u, mk2_x, mB_T, mB_F, mS_cons, mS_nil, mSB_T, mSB_F, mca_nil, mca_i, mca_l, mca_r, mca_u, mca_x, mcat_i, mcat_l, mcat_r, mcat_u, mcat_x, mK_some, mK_none, va_rf_s, va_rf_n, lgc_eq, lgc_lt, lgc_gt, lgc_ge, lgc_le, mrd_104, mrd_105, mrd_106, mrd_107, true_and, and_true, and_self, false_and, and_false, true_or, or_true, false_or, or_false, not_true_eq_false, not_false_eq_true, mgb, mga, mgr, mN, reduceCtorEq, ↓reduceIte, eq_self, ge_iff_le, gt_iff_lt, Nat.reduceAdd, Nat.reduceMul, Nat.reduceSub, Nat.reduceLT, Nat.reduceGT, Nat.reduceEqDiff, Nat.reduceLeDiff, Nat.left_eq_add, Nat.add_eq_left, Nat.reduceMod, Nat.reduceDiv, Nat.succ_ne_self, g, rr, k, x, l, nn_le, c', a1, eb, p2, k1, n1, lt, e1']
theorem c_177 (T : TB h To X n B) {i : Nat} (hi : i ≤ n) : ∃ y : Int64, y.toInt = nvl B (n - i) i 0 ∧ ∀ Q, mcall (d + 1) 177 [.ref To, .int (Int32.ofNat i)] h Q = Q (some (.long y)) h := by
  obtain ⟨y, y1, y2⟩ := l_177 (d := d) T (x1 := Int32.ofNat i) (n - i) i 0 0 (by omega) rfl (by omega) (by omega)
  refine ⟨y, y1, fun Q => ?_⟩
  rw [← y2 Q]
  clear T y1 y2
  simp only [s_177_0, s_177_1, s_177_2, s_177_3, s_177_7, s_177_8, s_177_11, s_177_12, s_177_15, s_177_16, s_177_18, s_177_21, s_177_24, s_177_27, s_177_28, s_177_31, s_177_32, s_177_35, s_177_38, s_177_39, s_177_40, s_177_41, s_177_43, s_177_46, s_177_47, s_177_48, s_177_51, s_177_52, s_177_53, s_177_56, s_177_59, s_177_60, e_177, mv_i_1, mv_l_1, mv_a_1, mv_a_2, mv_a_3, mk2_n, mk2_i, mk2_l, mk2_a, mk2_u, mk2_x, mB_T, mB_F, mS_cons, mS_nil, mSB_T, mSB_F, mca_nil, mca_i, mca_l, mca_r, mca_u, mca_x, mcat_i, mcat_l, mcat_r, mcat_u, mcat_x, mK_some, mK_none, va_rf_s, va_rf_n, lgc_eq, lgc_lt, lgc_gt, lgc_ge, lgc_le, mrd_104, mrd_105, mrd_106, mrd_107, true_and, and_true, and_self, false_and, and_false, true_or, or_true, false_or, or_false, not_true_eq_false, not_false_eq_true, mgb, mga, mgr, mN, reduceCtorEq, ↓reduceIte, eq_self, ge_iff_le, gt_iff_lt]
/-- numberWidth -/
theorem l_176 (T : TB h To X n B) {x1 : Int32} {x4 : Option Value} : ∀ f i m, i + f = n → ∀ Q, mw (d + 2) 176 Q 4 [some (.ref To), some (.int x1), some (.int (Int32.ofNat m)), some (.int (Int32.ofNat i)), x4] [] h = mw (d + 2) 176 Q 33 [some (.ref To), some (.int x1), some (.int (Int32.ofNat (m + cw isG B f i))), some (.int (Int32.ofNat (i + cw isG B f i))), x4] [] h := by
  have g := T.g
  have rr := T.r
  have k := T.k
  have x := T.x
  have l := T.l
  have hn := T.n
  have k1 : kb true = 1 := rfl
  have k0 : kb false = 0 := rfl
  have n1 : ((1 : Int32) = 0) = False := by decide
  have e1' : ∀ k, Int32.ofNat k + 1 = Int32.ofNat (k + 1) := fun k => nn_add (a := k) (b := 1)
  intro f
  induction f with
  | zero =>
    intro i m hi Q
    have c' : (n ≤ i) = True := eq_true (by omega)
    have e : cw isG B 0 i = 0 := rfl
    rw [e]
    clear T
    rw [s_176_4]
    simp (disch := omega) only [s_176_0, s_176_1, s_176_2, s_176_3, s_176_5, s_176_6, s_176_9, s_176_10, s_176_13, s_176_14, s_176_15, s_176_18, s_176_21, s_176_24, s_176_27, s_176_30, s_176_34, s_176_35, s_176_38, s_176_39, s_176_40, s_176_43, s_176_45, s_176_48, s_176_49, s_176_52, s_176_53, s_176_54, s_176_55, s_176_56, s_176_57, s_176_58, s_176_61, s_176_64, s_176_66, s_176_67, s_176_70, s_176_72, s_176_75, s_176_76, s_176_77, s_176_80, s_176_83, s_176_84, s_176_87, s_176_88, s_176_91, s_176_92, e_176, mv_i_1, mv_l_1, mv_a_1, mv_a_2, mv_a_3, mk2_n, mk2_i, mk2_l, mk2_a, mk2_u, mk2_x, mB_T, mB_F, mS_cons, mS_nil, mSB_T, mSB_F, mca_nil, mca_i, mca_l, mca_r, mca_u, mca_x, mcat_i, mcat_l, mcat_r, mcat_u, mcat_x, mK_some, mK_none, va_rf_s, va_rf_n, lgc_eq, lgc_lt, lgc_gt, lgc_ge, lgc_le, mrd_104, mrd_105, mrd_106, mrd_107, true_and, and_true, and_self, false_and, and_false, true_or, or_true, false_or, or_false, not_true_eq_false, not_false_eq_true, mgb, mga, mgr, mN, reduceCtorEq, ↓reduceIte, eq_self, ge_iff_le, gt_iff_lt, Nat.reduceAdd, Nat.reduceMul, Nat.reduceSub, Nat.reduceLT, Nat.reduceGT, Nat.reduceEqDiff, Nat.reduceLeDiff, Nat.left_eq_add, Nat.add_eq_left, Nat.reduceMod, Nat.reduceDiv, Nat.succ_ne_self, g, rr, k, x, l, nn_le, c', Nat.add_zero]
  | succ f ih =>
    intro i m hi Q
    have c' : (n ≤ i) = False := eq_false (by omega)
    have a1 := c_170 (d := d + 1) T (i := i) (by omega)
    have eb : bt B n i = B i := if_pos (by omega)
    have p2 := c_173 (d := d + 1) (h := h) (B i)
    have e : cw isG B (f + 1) i = (if isG (B i) = true then cw isG B f (i + 1) + 1 else 0) := rfl
    rw [e]
    cases c1 : isG (B i) with
    | true =>
      rw [if_pos rfl, show m + (cw isG B f (i + 1) + 1) = m + 1 + cw isG B f (i + 1) from by omega, show i + (cw isG B f (i + 1) + 1) = i + 1 + cw isG B f (i + 1) from by omega, ← ih (i + 1) (m + 1) (by omega) Q]
      rw [c1] at p2
      clear T ih e
      rw [s_176_4]
      simp (disch := omega) only [s_176_0, s_176_1, s_176_2, s_176_3, s_176_5, s_176_6, s_176_9, s_176_10, s_176_13, s_176_14, s_176_15, s_176_18, s_176_21, s_176_24, s_176_27, s_176_30, s_176_34, s_176_35, s_176_38, s_176_39, s_176_40, s_176_43, s_176_45, s_176_48, s_176_49, s_176_52, s_176_53, s_176_54, s_176_55, s_176_56, s_176_57, s_176_58, s_176_61, s_176_64, s_176_66, s_176_67, s_176_70, s_176_72, s_176_75, s_176_76, s_176_77, s_176_80, s_176_83, s_176_84, s_176_87, s_176_88, s_176_91, s_176_92, e_176, mv_i_1, mv_l_1, mv_a_1, mv_a_2, mv_a_3, mk2_n, mk2_i, mk2_l, mk2_a, mk2_u, mk2_x, mB_T, mB_F, mS_cons, mS_nil, mSB_T, mSB_F, mca_nil, mca_i, mca_l, mca_r, mca_u, mca_x, mcat_i, mcat_l, mcat_r, mcat_u, mcat_x, mK_some, mK_none, va_rf_s, va_rf_n, lgc_eq, lgc_lt, lgc_gt, lgc_ge, lgc_le, mrd_104, mrd_105, mrd_106, mrd_107, true_and, and_true, and_self, false_and, and_false, true_or, or_true, false_or, or_false, not_true_eq_false, not_false_eq_true, mgb, mga, mgr, mN, reduceCtorEq, ↓reduceIte, eq_self, ge_iff_le, gt_iff_lt, Nat.reduceAdd, Nat.reduceMul, Nat.reduceSub, Nat.reduceLT, Nat.reduceGT, Nat.reduceEqDiff, Nat.reduceLeDiff, Nat.left_eq_add, Nat.add_eq_left, Nat.reduceMod, Nat.reduceDiv, Nat.succ_ne_self, g, rr, k, x, l, nn_le, c', a1, eb, p2, k1, n1, e1']
    | false =>
      rw [if_neg (by decide)]
      rw [c1] at p2
      clear T ih e
      rw [s_176_4]
      simp (disch := omega) only [s_176_0, s_176_1, s_176_2, s_176_3, s_176_5, s_176_6, s_176_9, s_176_10, s_176_13, s_176_14, s_176_15, s_176_18, s_176_21, s_176_24, s_176_27, s_176_30, s_176_34, s_176_35, s_176_38, s_176_39, s_176_40, s_176_43, s_176_45, s_176_48, s_176_49, s_176_52, s_176_53, s_176_54, s_176_55, s_176_56, s_176_57, s_176_58, s_176_61, s_176_64, s_176_66, s_176_67, s_176_70, s_176_72, s_176_75, s_176_76, s_176_77, s_176_80, s_176_83, s_176_84, s_176_87, s_176_88, s_176_91, s_176_92, e_176, mv_i_1, mv_l_1, mv_a_1, mv_a_2, mv_a_3, mk2_n, mk2_i, mk2_l, mk2_a, mk2_u, mk2_x, mB_T, mB_F, mS_cons, mS_nil, mSB_T, mSB_F, mca_nil, mca_i, mca_l, mca_r, mca_u, mca_x, mcat_i, mcat_l, mcat_r, mcat_u, mcat_x, mK_some, mK_none, va_rf_s, va_rf_n, lgc_eq, lgc_lt, lgc_gt, lgc_ge, lgc_le, mrd_104, mrd_105, mrd_106, mrd_107, true_and, and_true, and_self, false_and, and_false, true_or, or_true, false_or, or_false, not_true_eq_false, not_false_eq_true, mgb, mga, mgr, mN, reduceCtorEq, ↓reduceIte, eq_self, ge_iff_le, gt_iff_lt, Nat.reduceAdd, Nat.reduceMul, Nat.reduceSub, Nat.reduceLT, Nat.reduceGT, Nat.reduceEqDiff, Nat.reduceLeDiff, Nat.left_eq_add, Nat.add_eq_left, Nat.reduceMod, Nat.reduceDiv, Nat.succ_ne_self, g, rr, k, x, l, nn_le, c', a1, eb, p2, k0, e1', Nat.add_zero]
end TCs
/-- how wide a number is, 0 where there is none -/
def nmW (B : Nat → Int32) (n i : Nat) : Nat := if (1 < cw isG B (n - i) i ∧ B i = 48) ∨ isL (bt B n (i + cw isG B (n - i) i)) = true ∨ 2147483647 < nvl B (n - i) i 0 then 0 else cw isG B (n - i) i
section TDs
variable {d : Nat} {h : mh_H} {To X n : Nat} {B : Nat → Int32}
theorem c_176 (T : TB h To X n B) {i : Nat} (hi : i < n) : ∀ Q, mcall (d + 2) 176 [.ref To, .int (Int32.ofNat i)] h Q = Q (some (.int (Int32.ofNat (nmW B n i)))) h := by
  intro Q
  have hn := T.n
  have g := T.g
  have k1 : kb true = 1 := rfl
  have k0 : kb false = 0 := rfl
  have n1 : ((1 : Int32) = 0) = False := by decide
  have L := l_176 (d := d) T (x1 := Int32.ofNat i) (x4 := none) (n - i) i 0 (by omega) Q
  have hw := cw_le (p := isG) (B := B) (n - i) i
  have a1 := c_170 (d := d + 1) T (i := i) (by omega)
  have a2 := c_170 (d := d + 1) T (i := i + cw isG B (n - i) i) (by omega)
  have eb : bt B n i = B i := if_pos hi
  have p2 := c_172 (d := d + 1) (h := h) (bt B n (i + cw isG B (n - i) i))
  obtain ⟨y, y1, y2⟩ := c_177 (d := d) T (i := i) (by omega)
  rw [Nat.zero_add] at L
  generalize hW : cw isG B (n - i) i = W at *
  have st : mcall (d + 2) 176 [.ref To, .int (Int32.ofNat i)] h Q = mw (d + 2) 176 Q 33 [some (.ref To), some (.int (Int32.ofNat i)), some (.int (Int32.ofNat W)), some (.int (Int32.ofNat (i + W))), none] [] h := by
    refine Eq.trans ?_ L
    clear T L
    simp only [s_176_0, s_176_1, s_176_2, s_176_3, s_176_5, s_176_6, s_176_9, s_176_10, s_176_13, s_176_14, s_176_15, s_176_18, s_176_21, s_176_24, s_176_27, s_176_30, s_176_34, s_176_35, s_176_38, s_176_39, s_176_40, s_176_43, s_176_45, s_176_48, s_176_49, s_176_52, s_176_53, s_176_54, s_176_55, s_176_56, s_176_57, s_176_58, s_176_61, s_176_64, s_176_66, s_176_67, s_176_70, s_176_72, s_176_75, s_176_76, s_176_77, s_176_80, s_176_83, s_176_84, s_176_87, s_176_88, s_176_91, s_176_92, e_176, mv_i_1, mv_l_1, mv_a_1, mv_a_2, mv_a_3, mk2_n, mk2_i, mk2_l, mk2_a, mk2_u, mk2_x, mB_T, mB_F, mS_cons, mS_nil, mSB_T, mSB_F, mca_nil, mca_i, mca_l, mca_r, mca_u, mca_x, mcat_i, mcat_l, mcat_r, mcat_u, mcat_x, mK_some, mK_none, va_rf_s, va_rf_n, lgc_eq, lgc_lt, lgc_gt, lgc_ge, lgc_le, mrd_104, mrd_105, mrd_106, mrd_107, true_and, and_true, and_self, false_and, and_false, true_or, or_true, false_or, or_false, not_true_eq_false, not_false_eq_true, mgb, mga, mgr, mN, reduceCtorEq, ↓reduceIte, eq_self, ge_iff_le, gt_iff_lt]
    rfl
  rw [st]
  clear st L
  unfold nmW
  rw [hW]
  have e1 : (Int32.ofNat W ≤ 1) = (W ≤ 1) := nn_le (a := W) (b := 1) (by omega) (by omega)
  have lt : (y ≤ 2147483647) = (nvl B (n - i) i 0 ≤ 2147483647) := propext (by rw [le64, lit_hi, y1])
  by_cases c1 : 1 < W ∧ B i = 48
  · rw [if_pos (Or.inl c1)]
    obtain ⟨c1, c2⟩ := c1
    have e2 : (W ≤ 1) = False := eq_false (by omega)
    clear T
    simp (disch := omega) only [s_176_0, s_176_1, s_176_2, s_176_3, s_176_4, s_176_5, s_176_6, s_176_9, s_176_10, s_176_13, s_176_14, s_176_15, s_176_18, s_176_21, s_176_24, s_176_27, s_176_30, s_176_33, s_176_34, s_176_35, s_176_38, s_176_39, s_176_40, s_176_43, s_176_45, s_176_48, s_176_49, s_176_52, s_176_53, s_176_54, s_176_55, s_176_56, s_176_57, s_176_58, s_176_61, s_176_64, s_176_66, s_176_67, s_176_70, s_176_72, s_176_75, s_176_76, s_176_77, s_176_80, s_176_83, s_176_84, s_176_87, s_176_88, s_176_91, s_176_92, e_176, mv_i_1, mv_l_1, mv_a_1, mv_a_2, mv_a_3, mk2_n, mk2_i, mk2_l, mk2_a, mk2_u, mk2_x, mB_T, mB_F, mS_cons, mS_nil, mSB_T, mSB_F, mca_nil, mca_i, mca_l, mca_r, mca_u, mca_x, mcat_i, mcat_l, mcat_r, mcat_u, mcat_x, mK_some, mK_none, va_rf_s, va_rf_n, lgc_eq, lgc_lt, lgc_gt, lgc_ge, lgc_le, mrd_104, mrd_105, mrd_106, mrd_107, true_and, and_true, and_self, false_and, and_false, true_or, or_true, false_or, or_false, not_true_eq_false, not_false_eq_true, mgb, mga, mgr, mN, reduceCtorEq, ↓reduceIte, eq_self, ge_iff_le, gt_iff_lt, Nat.reduceAdd, Nat.reduceMul, Nat.reduceSub, Nat.reduceLT, Nat.reduceGT, Nat.reduceEqDiff, Nat.reduceLeDiff, Nat.left_eq_add, Nat.add_eq_left, Nat.reduceMod, Nat.reduceDiv, Nat.succ_ne_self, g, e1, e2, a1, eb, c2, a2, p2, nn_add, n1]
    rfl
  · have s3 : ∀ Q, mw (d + 2) 176 Q 33 [some (.ref To), some (.int (Int32.ofNat i)), some (.int (Int32.ofNat W)), some (.int (Int32.ofNat (i + W))), none] [] h = mw (d + 2) 176 Q 54 [some (.ref To), some (.int (Int32.ofNat i)), some (.int (Int32.ofNat W)), some (.int 0), none] [] h := by
      intro Q
      clear T
      by_cases e2 : W ≤ 1
      · simp (disch := omega) only [s_176_0, s_176_1, s_176_2, s_176_3, s_176_4, s_176_5, s_176_6, s_176_9, s_176_10, s_176_13, s_176_14, s_176_15, s_176_18, s_176_21, s_176_24, s_176_27, s_176_30, s_176_33, s_176_34, s_176_35, s_176_38, s_176_39, s_176_40, s_176_43, s_176_45, s_176_48, s_176_49, s_176_52, s_176_53, s_176_55, s_176_56, s_176_57, s_176_58, s_176_61, s_176_64, s_176_66, s_176_67, s_176_70, s_176_72, s_176_75, s_176_76, s_176_77, s_176_80, s_176_83, s_176_84, s_176_87, s_176_88, s_176_91, s_176_92, e_176, mv_i_1, mv_l_1, mv_a_1, mv_a_2, mv_a_3, mk2_n, mk2_i, mk2_l, mk2_a, mk2_u, mk2_x, mB_T, mB_F, mS_cons, mS_nil, mSB_T, mSB_F, mca_nil, mca_i, mca_l, mca_r, mca_u, mca_x, mcat_i, mcat_l, mcat_r, mcat_u, mcat_x, mK_some, mK_none, va_rf_s, va_rf_n, lgc_eq, lgc_lt, lgc_gt, lgc_ge, lgc_le, mrd_104, mrd_105, mrd_106, mrd_107, true_and, and_true, and_self, false_and, and_false, true_or, or_true, false_or, or_false, not_true_eq_false, not_false_eq_true, mgb, mga, mgr, mN, reduceCtorEq, ↓reduceIte, eq_self, ge_iff_le, gt_iff_lt, Nat.reduceAdd, Nat.reduceMul, Nat.reduceSub, Nat.reduceLT, Nat.reduceGT, Nat.reduceEqDiff, Nat.reduceLeDiff, Nat.left_eq_add, Nat.add_eq_left, Nat.reduceMod, Nat.reduceDiv, Nat.succ_ne_self, g, e1, e2]
      · have e3 : (B i = 48) = False := eq_false (fun z => c1 ⟨by omega, z⟩)
        simp (disch := omega) only [s_176_0, s_176_1, s_176_2, s_176_3, s_176_4, s_176_5, s_176_6, s_176_9, s_176_10, s_176_13, s_176_14, s_176_15, s_176_18, s_176_21, s_176_24, s_176_27, s_176_30, s_176_33, s_176_34, s_176_35, s_176_38, s_176_39, s_176_40, s_176_43, s_176_45, s_176_48, s_176_49, s_176_52, s_176_53, s_176_55, s_176_56, s_176_57, s_176_58, s_176_61, s_176_64, s_176_66, s_176_67, s_176_70, s_176_72, s_176_75, s_176_76, s_176_77, s_176_80, s_176_83, s_176_84, s_176_87, s_176_88, s_176_91, s_176_92, e_176, mv_i_1, mv_l_1, mv_a_1, mv_a_2, mv_a_3, mk2_n, mk2_i, mk2_l, mk2_a, mk2_u, mk2_x, mB_T, mB_F, mS_cons, mS_nil, mSB_T, mSB_F, mca_nil, mca_i, mca_l, mca_r, mca_u, mca_x, mcat_i, mcat_l, mcat_r, mcat_u, mcat_x, mK_some, mK_none, va_rf_s, va_rf_n, lgc_eq, lgc_lt, lgc_gt, lgc_ge, lgc_le, mrd_104, mrd_105, mrd_106, mrd_107, true_and, and_true, and_self, false_and, and_false, true_or, or_true, false_or, or_false, not_true_eq_false, not_false_eq_true, mgb, mga, mgr, mN, reduceCtorEq, ↓reduceIte, eq_self, ge_iff_le, gt_iff_lt, Nat.reduceAdd, Nat.reduceMul, Nat.reduceSub, Nat.reduceLT, Nat.reduceGT, Nat.reduceEqDiff, Nat.reduceLeDiff, Nat.left_eq_add, Nat.add_eq_left, Nat.reduceMod, Nat.reduceDiv, Nat.succ_ne_self, g, e1, e2, a1, eb, e3]
    rw [s3]
    clear s3 e1
    cases c2 : isL (bt B n (i + W)) with
    | true =>
      rw [if_pos (Or.inr (Or.inl rfl))]
      rw [c2] at p2
      clear T
      simp (disch := omega) only [s_176_0, s_176_1, s_176_2, s_176_3, s_176_4, s_176_5, s_176_6, s_176_9, s_176_10, s_176_13, s_176_14, s_176_15, s_176_18, s_176_21, s_176_24, s_176_27, s_176_30, s_176_33, s_176_34, s_176_35, s_176_38, s_176_39, s_176_40, s_176_43, s_176_45, s_176_48, s_176_49, s_176_52, s_176_53, s_176_54, s_176_55, s_176_56, s_176_57, s_176_58, s_176_61, s_176_64, s_176_66, s_176_67, s_176_70, s_176_72, s_176_75, s_176_76, s_176_77, s_176_80, s_176_83, s_176_84, s_176_87, s_176_88, s_176_91, s_176_92, e_176, mv_i_1, mv_l_1, mv_a_1, mv_a_2, mv_a_3, mk2_n, mk2_i, mk2_l, mk2_a, mk2_u, mk2_x, mB_T, mB_F, mS_cons, mS_nil, mSB_T, mSB_F, mca_nil, mca_i, mca_l, mca_r, mca_u, mca_x, mcat_i, mcat_l, mcat_r, mcat_u, mcat_x, mK_some, mK_none, va_rf_s, va_rf_n, lgc_eq, lgc_lt, lgc_gt, lgc_ge, lgc_le, mrd_104, mrd_105, mrd_106, mrd_107, true_and, and_true, and_self, false_and, and_false, true_or, or_true, false_or, or_false, not_true_eq_false, not_false_eq_true, mgb, mga, mgr, mN, reduceCtorEq, ↓reduceIte, eq_self, ge_iff_le, gt_iff_lt, Nat.reduceAdd, Nat.reduceMul, Nat.reduceSub, Nat.reduceLT, Nat.reduceGT, Nat.reduceEqDiff, Nat.reduceLeDiff, Nat.left_eq_add, Nat.add_eq_left, Nat.reduceMod, Nat.reduceDiv, Nat.succ_ne_self, g, a2, p2, nn_add, n1, k1]
      rfl
    | false =>
      rw [c2] at p2
      by_cases c3 : 2147483647 < nvl B (n - i) i 0
      · rw [if_pos (Or.inr (Or.inr c3))]
        have e3 : (nvl B (n - i) i 0 ≤ 2147483647) = False := eq_false (by omega)
        clear T
        simp (disch := omega) only [s_176_0, s_176_1, s_176_2, s_176_3, s_176_4, s_176_5, s_176_6, s_176_9, s_176_10, s_176_13, s_176_14, s_176_15, s_176_18, s_176_21, s_176_24, s_176_27, s_176_30, s_176_33, s_176_34, s_176_35, s_176_38, s_176_39, s_176_40, s_176_43, s_176_45, s_176_48, s_176_49, s_176_52, s_176_53, s_176_54, s_176_55, s_176_56, s_176_57, s_176_58, s_176_61, s_176_64, s_176_66, s_176_67, s_176_70, s_176_72, s_176_75, s_176_76, s_176_77, s_176_80, s_176_83, s_176_84, s_176_87, s_176_88, s_176_91, s_176_92, e_176, mv_i_1, mv_l_1, mv_a_1, mv_a_2, mv_a_3, mk2_n, mk2_i, mk2_l, mk2_a, mk2_u, mk2_x, mB_T, mB_F, mS_cons, mS_nil, mSB_T, mSB_F, mca_nil, mca_i, mca_l, mca_r, mca_u, mca_x, mcat_i, mcat_l, mcat_r, mcat_u, mcat_x, mK_some, mK_none, va_rf_s, va_rf_n, lgc_eq, lgc_lt, lgc_gt, lgc_ge, lgc_le, mrd_104, mrd_105, mrd_106, mrd_107, true_and, and_true, and_self, false_and, and_false, true_or, or_true, false_or, or_false, not_true_eq_false, not_false_eq_true, mgb, mga, mgr, mN, reduceCtorEq, ↓reduceIte, eq_self, ge_iff_le, gt_iff_lt, Nat.reduceAdd, Nat.reduceMul, Nat.reduceSub, Nat.reduceLT, Nat.reduceGT, Nat.reduceEqDiff, Nat.reduceLeDiff, Nat.left_eq_add, Nat.add_eq_left, Nat.reduceMod, Nat.reduceDiv, Nat.succ_ne_self, g, a2, p2, nn_add, k0, y2, lt, e3]
        rfl
      · rw [if_neg (fun z => by rcases z with z | z | z; exact c1 z; cases z; exact c3 z)]
        have e3 : (nvl B (n - i) i 0 ≤ 2147483647) = True := eq_true (by omega)
        clear T
        simp (disch := omega) only [s_176_0, s_176_1, s_176_2, s_176_3, s_176_4, s_176_5, s_176_6, s_176_9, s_176_10, s_176_13, s_176_14, s_176_15, s_176_18, s_176_21, s_176_24, s_176_27, s_176_30, s_176_33, s_176_34, s_176_35, s_176_38, s_176_39, s_176_40, s_176_43, s_176_45, s_176_48, s_176_49, s_176_52, s_176_53, s_176_54, s_176_55, s_176_56, s_176_57, s_176_58, s_176_61, s_176_64, s_176_66, s_176_67, s_176_70, s_176_72, s_176_75, s_176_76, s_176_77, s_176_80, s_176_83, s_176_84, s_176_87, s_176_88, s_176_91, s_176_92, e_176, mv_i_1, mv_l_1, mv_a_1, mv_a_2, mv_a_3, mk2_n, mk2_i, mk2_l, mk2_a, mk2_u, mk2_x, mB_T, mB_F, mS_cons, mS_nil, mSB_T, mSB_F, mca_nil, mca_i, mca_l, mca_r, mca_u, mca_x, mcat_i, mcat_l, mcat_r, mcat_u, mcat_x, mK_some, mK_none, va_rf_s, va_rf_n, lgc_eq, lgc_lt, lgc_gt, lgc_ge, lgc_le, mrd_104, mrd_105, mrd_106, mrd_107, true_and, and_true, and_self, false_and, and_false, true_or, or_true, false_or, or_false, not_true_eq_false, not_false_eq_true, mgb, mga, mgr, mN, reduceCtorEq, ↓reduceIte, eq_self, ge_iff_le, gt_iff_lt, Nat.reduceAdd, Nat.reduceMul, Nat.reduceSub, Nat.reduceLT, Nat.reduceGT, Nat.reduceEqDiff, Nat.reduceLeDiff, Nat.left_eq_add, Nat.add_eq_left, Nat.reduceMod, Nat.reduceDiv, Nat.succ_ne_self, g, a2, p2, nn_add, k0, y2, lt, e3]
end TDs
