set_option maxRecDepth 100000
/-! the class's parser: readLimit, readAny, readNamed -/
def rlS (K : Nat → Int32) (P : Nat → Nat) (s : cps) : cps := tkS K P (if K (s.1 1) = 45 then tkS K P s 45 else s) 3
def rlV (K : Nat → Int32) (P : Nat → Nat) (V : Nat → Int) (s : cps) : Int := if K (s.1 1) = 45 then -(if K ((tkS K P s 45).1 1) = 3 then V ((tkS K P s 45).1 1) else 0) else if K (s.1 1) = 3 then V (s.1 1) else 0
def ayS (K : Nat → Int32) (P : Nat → Nat) (V : Nat → Int) (s : cps) : cps := if rlV K P V (tkS K P (rlS K P (u1 s 1 (s.1 1 + 2))) 44) < rlV K P V (u1 s 1 (s.1 1 + 2)) then ntS (tkS K P (rlS K P (tkS K P (rlS K P (u1 s 1 (s.1 1 + 2))) 44)) 41) 8 (Int32.ofNat (P (s.1 1 + 2))) else tkS K P (rlS K P (tkS K P (rlS K P (u1 s 1 (s.1 1 + 2))) 44)) 41
def tpV (s : cps) (o : Option Nat) : Int32 := match o with
  | none => 1
  | some k => 128 * s.2 21 k + (s.2 22 k - s.2 22 k / 128 * 128)
section LMs
variable {d : Nat} {h : mh_H} {B n m : Nat} {Bt : Nat → Int32} {K : Nat → Int32} {P U : Nat → Nat} {V : Nat → Int} {s : cps}
theorem tq_1 {k : Int32} {c : Nat} (hc : c ≠ 1) : (tkS K P s k).1 c = s.1 c := by
  unfold tkS
  split
  · split
    · exact if_neg hc
    · rfl
  · rfl
theorem tq_2 {k : Int32} {o j : Nat} (hc : ¬ (o = 16 ∧ j = 7)) : (tkS K P s k).2 o j = s.2 o j := by
  unfold tkS
  split
  · split
    · rfl
    · exact if_neg hc
  · rfl
theorem tq_m (hm : tkM K m) (hi : s.1 1 < m) {k : Int32} (h0 : k ≠ 0) (h1 : k ≠ 1) : (tkS K P s k).1 1 < m := by
  unfold tkS
  split
  · split
    · next e => exact tkM_s hm hi e h0 h1
    · exact hi
  · exact hi
theorem rl_m (hm : tkM K m) (hi : s.1 1 < m) : (rlS K P s).1 1 < m := by
  unfold rlS
  refine tq_m hm ?_ (by decide) (by decide)
  split
  · exact tq_m hm hi (by decide) (by decide)
  · exact hi
theorem rl_1 {c : Nat} (hc : c ≠ 1) : (rlS K P s).1 c = s.1 c := by
  unfold rlS
  rw [tq_1 hc]
  split
  · exact tq_1 hc
  · rfl
theorem rl_2 {o j : Nat} (hc : ¬ (o = 16 ∧ j = 7)) : (rlS K P s).2 o j = s.2 o j := by
  unfold rlS
  rw [tq_2 hc]
  split
  · exact tq_2 hc
  · rfl
/-- readLimit -/
theorem c_74 (b : CPB h B n) (t : CTK h B n m Bt K P U V) (hi : s.1 1 < m) : ∃ y : Int64, y.toInt = rlV K P V s ∧ (-2147483648 ≤ y.toInt ∧ y.toInt ≤ 2147483647) ∧ ∀ Q, mcall (d + 3) 74 [.ref (B + 16)] (cH h B s) Q = Q (some (.long y)) (cH h B (rlS K P s)) := by
  have a0 := c_47 (d := d + 2) b t hi
  have n1 : ((1 : Int32) = 0) = False := by decide
  by_cases q : K (s.1 1) = 45
  · have hi1 : (tkS K P s 45).1 1 < m := tq_m t.M hi (by decide) (by decide)
    have a1 := c_51 (d := d) b t (k := 45) hi
    have a2 := c_47 (d := d + 2) (s := tkS K P s 45) b t hi1
    have a3 := c_49 (d := d + 2) (s := tkS K P s 45) b t hi1
    have a5 := c_51 (d := d) (s := tkS K P s 45) b t (k := 3) hi1
    unfold rlS rlV
    rw [if_pos q, if_pos q]
    rw [q] at a0
    by_cases q2 : K ((tkS K P s 45).1 1) = 3
    · obtain ⟨y, y1, y2⟩ := c_177 (d := d + 1) (TB_c (s := tkS K P s 45) b t.T) (t.q _ hi1)
      obtain ⟨v1, v2, v3⟩ := t.v _ hi1 q2
      rw [v1] at y1
      rw [if_pos q2]
      have q2' := eq_true q2
      have ny : (-y).toInt = -(V ((tkS K P s 45).1 1)) := by rw [i64_n (by omega), y1]
      refine ⟨-y, ny, by omega, fun Q => ?_⟩
      clear t
      simp (disch := first | omega | (simp only [u1_1, u1_2, u2_1, u2_2, ↓reduceIte, Nat.reduceAdd, Nat.reduceMul, Nat.reduceSub, Nat.reduceLT, Nat.reduceGT, Nat.reduceEqDiff, Nat.reduceLeDiff, Nat.left_eq_add, Nat.add_eq_left, Nat.reduceMod, Nat.reduceDiv, Nat.succ_ne_self]; omega)) only [s_74_0, s_74_1, s_74_4, s_74_6, s_74_9, s_74_10, s_74_13, s_74_14, s_74_15, s_74_16, s_74_19, s_74_20, s_74_22, s_74_25, s_74_26, s_74_29, s_74_30, s_74_33, s_74_34, s_74_37, s_74_38, s_74_41, s_74_44, s_74_47, s_74_48, s_74_49, s_74_50, s_74_51, s_74_54, s_74_55, s_74_58, s_74_59, s_74_60, s_74_63, s_74_64, e_74, mv_i_1, mv_l_1, mv_a_1, mv_a_2, mv_a_3, mk2_n, mk2_i, mk2_l, mk2_a, mk2_u, mk2_x, mB_T, mB_F, mS_cons, mS_nil, mSB_T, mSB_F, mca_nil, mca_i, mca_l, mca_r, mca_u, mca_x, mcat_i, mcat_l, mcat_r, mcat_u, mcat_x, mK_some, mK_none, va_rf_s, va_rf_n, lgc_eq, lgc_lt, lgc_gt, lgc_ge, lgc_le, mrd_104, mrd_105, mrd_106, mrd_107, true_and, and_true, and_self, false_and, and_false, true_or, or_true, false_or, or_false, not_true_eq_false, not_false_eq_true, mgb, mga, mgr, mN, reduceCtorEq, ↓reduceIte, eq_self, ge_iff_le, gt_iff_lt, Nat.reduceAdd, Nat.reduceMul, Nat.reduceSub, Nat.reduceLT, Nat.reduceGT, Nat.reduceEqDiff, Nat.reduceLeDiff, Nat.left_eq_add, Nat.add_eq_left, Nat.reduceMod, Nat.reduceDiv, Nat.succ_ne_self, ci_c0, cs_c0, ci_c1, cs_c1, ci_c2, cs_c2, ci_c3, cs_c3, ci_c4, cs_c4, ci_c5, cs_c5, ci_c6, cs_c6, ci_c7, cs_c7, ci_c8, ci_c9, cs_c9, ci_c10, cs_c10, ci_c11, cs_c11, ci_c12, cs_c12, ci_c13, cs_c13, ci_r6, cs_r6, ci_r7, cs_r7, ci_r8, cs_r8, ci_r9, cs_r9, ci_r10, cs_r10, ci_r11, cs_r11, ci_r12, cs_r12, ci_r13, cs_r13, ci_r15, cs_r15, ci_r17, cs_r17, ci_r19, cs_r19, ci_r20, cs_r20, ci_r21, cs_r21, ci_r22, cs_r22, ci_r23, cs_r23, ci_p7, cs_p7, ci_p11, cs_p11, ci_p12, cs_p12, ci_p13, cs_p13, ci_S, cs_S, ci_t, ci_t1, ci_t2, ci_t3, ci_t4, cg_0 b, cg_1 b, cln_1 b, cg_2 b, cln_2 b, cg_3 b, cln_3 b, cg_4 b, cln_4 b, cg_5 b, cg_6 b, cln_6 b, cg_7 b, cln_7 b, cg_8 b, cln_8 b, cg_9 b, cln_9 b, cg_10 b, cln_10 b, cg_11 b, cln_11 b, cg_12 b, cln_12 b, cg_13 b, cln_13 b, cg_14 b, cln_14 b, cg_15 b, cln_15 b, cg_16 b, cg_17 b, cln_17 b, cg_18 b, cg_19 b, cln_19 b, cg_20 b, cln_20 b, cg_21 b, cln_21 b, cg_22 b, cln_22 b, cg_23 b, cln_23 b, ck_14 b, cr_0_0 b, cr_0_1 b, cr_0_2 b, cr_0_3 b, cr_5_0 b, cr_5_2 b, cr_5_3 b, cr_5_4 b, cr_5_6 b, cr_5_7 b, cr_5_9 b, cr_5_10 b, cr_5_12 b, cr_5_14 b, cr_16_0 b, cr_16_1 b, cr_16_2 b, cr_16_3 b, cr_16_9 b, cr_18_0 b, cr_18_1 b, cr_18_2 b, cr_18_3 b, cr_18_5 b, cr_16_8, cr_14, cg_S, u1_1, u1_2, u2_1, u2_2, a0, a1, a2, a3, a5, y2, q2', n1]
    · rw [if_neg q2]
      have q2' := eq_false q2
      refine ⟨-0, rfl, by decide, fun Q => ?_⟩
      clear t
      simp (disch := first | omega | (simp only [u1_1, u1_2, u2_1, u2_2, ↓reduceIte, Nat.reduceAdd, Nat.reduceMul, Nat.reduceSub, Nat.reduceLT, Nat.reduceGT, Nat.reduceEqDiff, Nat.reduceLeDiff, Nat.left_eq_add, Nat.add_eq_left, Nat.reduceMod, Nat.reduceDiv, Nat.succ_ne_self]; omega)) only [s_74_0, s_74_1, s_74_4, s_74_6, s_74_9, s_74_10, s_74_13, s_74_14, s_74_15, s_74_16, s_74_19, s_74_20, s_74_22, s_74_25, s_74_26, s_74_29, s_74_30, s_74_33, s_74_34, s_74_37, s_74_38, s_74_41, s_74_44, s_74_47, s_74_48, s_74_49, s_74_50, s_74_51, s_74_54, s_74_55, s_74_58, s_74_59, s_74_60, s_74_63, s_74_64, e_74, mv_i_1, mv_l_1, mv_a_1, mv_a_2, mv_a_3, mk2_n, mk2_i, mk2_l, mk2_a, mk2_u, mk2_x, mB_T, mB_F, mS_cons, mS_nil, mSB_T, mSB_F, mca_nil, mca_i, mca_l, mca_r, mca_u, mca_x, mcat_i, mcat_l, mcat_r, mcat_u, mcat_x, mK_some, mK_none, va_rf_s, va_rf_n, lgc_eq, lgc_lt, lgc_gt, lgc_ge, lgc_le, mrd_104, mrd_105, mrd_106, mrd_107, true_and, and_true, and_self, false_and, and_false, true_or, or_true, false_or, or_false, not_true_eq_false, not_false_eq_true, mgb, mga, mgr, mN, reduceCtorEq, ↓reduceIte, eq_self, ge_iff_le, gt_iff_lt, Nat.reduceAdd, Nat.reduceMul, Nat.reduceSub, Nat.reduceLT, Nat.reduceGT, Nat.reduceEqDiff, Nat.reduceLeDiff, Nat.left_eq_add, Nat.add_eq_left, Nat.reduceMod, Nat.reduceDiv, Nat.succ_ne_self, ci_c0, cs_c0, ci_c1, cs_c1, ci_c2, cs_c2, ci_c3, cs_c3, ci_c4, cs_c4, ci_c5, cs_c5, ci_c6, cs_c6, ci_c7, cs_c7, ci_c8, ci_c9, cs_c9, ci_c10, cs_c10, ci_c11, cs_c11, ci_c12, cs_c12, ci_c13, cs_c13, ci_r6, cs_r6, ci_r7, cs_r7, ci_r8, cs_r8, ci_r9, cs_r9, ci_r10, cs_r10, ci_r11, cs_r11, ci_r12, cs_r12, ci_r13, cs_r13, ci_r15, cs_r15, ci_r17, cs_r17, ci_r19, cs_r19, ci_r20, cs_r20, ci_r21, cs_r21, ci_r22, cs_r22, ci_r23, cs_r23, ci_p7, cs_p7, ci_p11, cs_p11, ci_p12, cs_p12, ci_p13, cs_p13, ci_S, cs_S, ci_t, ci_t1, ci_t2, ci_t3, ci_t4, cg_0 b, cg_1 b, cln_1 b, cg_2 b, cln_2 b, cg_3 b, cln_3 b, cg_4 b, cln_4 b, cg_5 b, cg_6 b, cln_6 b, cg_7 b, cln_7 b, cg_8 b, cln_8 b, cg_9 b, cln_9 b, cg_10 b, cln_10 b, cg_11 b, cln_11 b, cg_12 b, cln_12 b, cg_13 b, cln_13 b, cg_14 b, cln_14 b, cg_15 b, cln_15 b, cg_16 b, cg_17 b, cln_17 b, cg_18 b, cg_19 b, cln_19 b, cg_20 b, cln_20 b, cg_21 b, cln_21 b, cg_22 b, cln_22 b, cg_23 b, cln_23 b, ck_14 b, cr_0_0 b, cr_0_1 b, cr_0_2 b, cr_0_3 b, cr_5_0 b, cr_5_2 b, cr_5_3 b, cr_5_4 b, cr_5_6 b, cr_5_7 b, cr_5_9 b, cr_5_10 b, cr_5_12 b, cr_5_14 b, cr_16_0 b, cr_16_1 b, cr_16_2 b, cr_16_3 b, cr_16_9 b, cr_18_0 b, cr_18_1 b, cr_18_2 b, cr_18_3 b, cr_18_5 b, cr_16_8, cr_14, cg_S, u1_1, u1_2, u2_1, u2_2, a0, a1, a2, a5, q2', n1]
  · have a3 := c_49 (d := d + 2) b t hi
    have a5 := c_51 (d := d) b t (k := 3) hi
    unfold rlS rlV
    rw [if_neg q, if_neg q]
    have q' := eq_false q
    by_cases q2 : K (s.1 1) = 3
    · obtain ⟨y, y1, y2⟩ := c_177 (d := d + 1) (TB_c (s := s) b t.T) (t.q _ hi)
      obtain ⟨v1, v2, v3⟩ := t.v _ hi q2
      rw [v1] at y1
      rw [if_pos q2]
      have q2' := eq_true q2
      refine ⟨y, y1, by omega, fun Q => ?_⟩
      clear t
      simp (disch := first | omega | (simp only [u1_1, u1_2, u2_1, u2_2, ↓reduceIte, Nat.reduceAdd, Nat.reduceMul, Nat.reduceSub, Nat.reduceLT, Nat.reduceGT, Nat.reduceEqDiff, Nat.reduceLeDiff, Nat.left_eq_add, Nat.add_eq_left, Nat.reduceMod, Nat.reduceDiv, Nat.succ_ne_self]; omega)) only [s_74_0, s_74_1, s_74_4, s_74_6, s_74_9, s_74_10, s_74_13, s_74_14, s_74_15, s_74_16, s_74_19, s_74_20, s_74_22, s_74_25, s_74_26, s_74_29, s_74_30, s_74_33, s_74_34, s_74_37, s_74_38, s_74_41, s_74_44, s_74_47, s_74_48, s_74_49, s_74_50, s_74_51, s_74_54, s_74_55, s_74_58, s_74_59, s_74_60, s_74_63, s_74_64, e_74, mv_i_1, mv_l_1, mv_a_1, mv_a_2, mv_a_3, mk2_n, mk2_i, mk2_l, mk2_a, mk2_u, mk2_x, mB_T, mB_F, mS_cons, mS_nil, mSB_T, mSB_F, mca_nil, mca_i, mca_l, mca_r, mca_u, mca_x, mcat_i, mcat_l, mcat_r, mcat_u, mcat_x, mK_some, mK_none, va_rf_s, va_rf_n, lgc_eq, lgc_lt, lgc_gt, lgc_ge, lgc_le, mrd_104, mrd_105, mrd_106, mrd_107, true_and, and_true, and_self, false_and, and_false, true_or, or_true, false_or, or_false, not_true_eq_false, not_false_eq_true, mgb, mga, mgr, mN, reduceCtorEq, ↓reduceIte, eq_self, ge_iff_le, gt_iff_lt, Nat.reduceAdd, Nat.reduceMul, Nat.reduceSub, Nat.reduceLT, Nat.reduceGT, Nat.reduceEqDiff, Nat.reduceLeDiff, Nat.left_eq_add, Nat.add_eq_left, Nat.reduceMod, Nat.reduceDiv, Nat.succ_ne_self, ci_c0, cs_c0, ci_c1, cs_c1, ci_c2, cs_c2, ci_c3, cs_c3, ci_c4, cs_c4, ci_c5, cs_c5, ci_c6, cs_c6, ci_c7, cs_c7, ci_c8, ci_c9, cs_c9, ci_c10, cs_c10, ci_c11, cs_c11, ci_c12, cs_c12, ci_c13, cs_c13, ci_r6, cs_r6, ci_r7, cs_r7, ci_r8, cs_r8, ci_r9, cs_r9, ci_r10, cs_r10, ci_r11, cs_r11, ci_r12, cs_r12, ci_r13, cs_r13, ci_r15, cs_r15, ci_r17, cs_r17, ci_r19, cs_r19, ci_r20, cs_r20, ci_r21, cs_r21, ci_r22, cs_r22, ci_r23, cs_r23, ci_p7, cs_p7, ci_p11, cs_p11, ci_p12, cs_p12, ci_p13, cs_p13, ci_S, cs_S, ci_t, ci_t1, ci_t2, ci_t3, ci_t4, cg_0 b, cg_1 b, cln_1 b, cg_2 b, cln_2 b, cg_3 b, cln_3 b, cg_4 b, cln_4 b, cg_5 b, cg_6 b, cln_6 b, cg_7 b, cln_7 b, cg_8 b, cln_8 b, cg_9 b, cln_9 b, cg_10 b, cln_10 b, cg_11 b, cln_11 b, cg_12 b, cln_12 b, cg_13 b, cln_13 b, cg_14 b, cln_14 b, cg_15 b, cln_15 b, cg_16 b, cg_17 b, cln_17 b, cg_18 b, cg_19 b, cln_19 b, cg_20 b, cln_20 b, cg_21 b, cln_21 b, cg_22 b, cln_22 b, cg_23 b, cln_23 b, ck_14 b, cr_0_0 b, cr_0_1 b, cr_0_2 b, cr_0_3 b, cr_5_0 b, cr_5_2 b, cr_5_3 b, cr_5_4 b, cr_5_6 b, cr_5_7 b, cr_5_9 b, cr_5_10 b, cr_5_12 b, cr_5_14 b, cr_16_0 b, cr_16_1 b, cr_16_2 b, cr_16_3 b, cr_16_9 b, cr_18_0 b, cr_18_1 b, cr_18_2 b, cr_18_3 b, cr_18_5 b, cr_16_8, cr_14, cg_S, u1_1, u1_2, u2_1, u2_2, a0, a3, a5, y2, q', q2', n1]
    · rw [if_neg q2]
      have q2' := eq_false q2
      refine ⟨0, rfl, by decide, fun Q => ?_⟩
      clear t
      simp (disch := first | omega | (simp only [u1_1, u1_2, u2_1, u2_2, ↓reduceIte, Nat.reduceAdd, Nat.reduceMul, Nat.reduceSub, Nat.reduceLT, Nat.reduceGT, Nat.reduceEqDiff, Nat.reduceLeDiff, Nat.left_eq_add, Nat.add_eq_left, Nat.reduceMod, Nat.reduceDiv, Nat.succ_ne_self]; omega)) only [s_74_0, s_74_1, s_74_4, s_74_6, s_74_9, s_74_10, s_74_13, s_74_14, s_74_15, s_74_16, s_74_19, s_74_20, s_74_22, s_74_25, s_74_26, s_74_29, s_74_30, s_74_33, s_74_34, s_74_37, s_74_38, s_74_41, s_74_44, s_74_47, s_74_48, s_74_49, s_74_50, s_74_51, s_74_54, s_74_55, s_74_58, s_74_59, s_74_60, s_74_63, s_74_64, e_74, mv_i_1, mv_l_1, mv_a_1, mv_a_2, mv_a_3, mk2_n, mk2_i, mk2_l, mk2_a, mk2_u, mk2_x, mB_T, mB_F, mS_cons, mS_nil, mSB_T, mSB_F, mca_nil, mca_i, mca_l, mca_r, mca_u, mca_x, mcat_i, mcat_l, mcat_r, mcat_u, mcat_x, mK_some, mK_none, va_rf_s, va_rf_n, lgc_eq, lgc_lt, lgc_gt, lgc_ge, lgc_le, mrd_104, mrd_105, mrd_106, mrd_107, true_and, and_true, and_self, false_and, and_false, true_or, or_true, false_or, or_false, not_true_eq_false, not_false_eq_true, mgb, mga, mgr, mN, reduceCtorEq, ↓reduceIte, eq_self, ge_iff_le, gt_iff_lt, Nat.reduceAdd, Nat.reduceMul, Nat.reduceSub, Nat.reduceLT, Nat.reduceGT, Nat.reduceEqDiff, Nat.reduceLeDiff, Nat.left_eq_add, Nat.add_eq_left, Nat.reduceMod, Nat.reduceDiv, Nat.succ_ne_self, ci_c0, cs_c0, ci_c1, cs_c1, ci_c2, cs_c2, ci_c3, cs_c3, ci_c4, cs_c4, ci_c5, cs_c5, ci_c6, cs_c6, ci_c7, cs_c7, ci_c8, ci_c9, cs_c9, ci_c10, cs_c10, ci_c11, cs_c11, ci_c12, cs_c12, ci_c13, cs_c13, ci_r6, cs_r6, ci_r7, cs_r7, ci_r8, cs_r8, ci_r9, cs_r9, ci_r10, cs_r10, ci_r11, cs_r11, ci_r12, cs_r12, ci_r13, cs_r13, ci_r15, cs_r15, ci_r17, cs_r17, ci_r19, cs_r19, ci_r20, cs_r20, ci_r21, cs_r21, ci_r22, cs_r22, ci_r23, cs_r23, ci_p7, cs_p7, ci_p11, cs_p11, ci_p12, cs_p12, ci_p13, cs_p13, ci_S, cs_S, ci_t, ci_t1, ci_t2, ci_t3, ci_t4, cg_0 b, cg_1 b, cln_1 b, cg_2 b, cln_2 b, cg_3 b, cln_3 b, cg_4 b, cln_4 b, cg_5 b, cg_6 b, cln_6 b, cg_7 b, cln_7 b, cg_8 b, cln_8 b, cg_9 b, cln_9 b, cg_10 b, cln_10 b, cg_11 b, cln_11 b, cg_12 b, cln_12 b, cg_13 b, cln_13 b, cg_14 b, cln_14 b, cg_15 b, cln_15 b, cg_16 b, cg_17 b, cln_17 b, cg_18 b, cg_19 b, cln_19 b, cg_20 b, cln_20 b, cg_21 b, cln_21 b, cg_22 b, cln_22 b, cg_23 b, cln_23 b, ck_14 b, cr_0_0 b, cr_0_1 b, cr_0_2 b, cr_0_3 b, cr_5_0 b, cr_5_2 b, cr_5_3 b, cr_5_4 b, cr_5_6 b, cr_5_7 b, cr_5_9 b, cr_5_10 b, cr_5_12 b, cr_5_14 b, cr_16_0 b, cr_16_1 b, cr_16_2 b, cr_16_3 b, cr_16_9 b, cr_18_0 b, cr_18_1 b, cr_18_2 b, cr_18_3 b, cr_18_5 b, cr_16_8, cr_14, cg_S, u1_1, u1_2, u2_1, u2_2, a0, a5, q', q2', n1]
/-- readAny -/
theorem c_73n (b : CPB h B n) (t : CTK h B n m Bt K P U V) {tu : Int32} (hi : s.1 1 + 1 < m) (q : ¬ K (s.1 1 + 1) = 40) (h4 : s.1 4 ≤ n) (h5 : s.1 5 ≤ n) : ∀ Q, mcall (d + 4) 73 [.ref (B + 16), .int tu] (cH h B s) Q = Q none (cH h B (ptS (emS (u1 s 1 (s.1 1 + 1)) 4 ((-2147483648 : Int64).toInt32) ((2147483647 : Int64).toInt32)) tu (-2))) := by
  intro Q
  have e1' : ∀ k, Int32.ofNat k + 1 = Int32.ofNat (k + 1) := fun k => nn_add (a := k) (b := 1)
  have a0 := c_47 (d := d + 3) (s := u1 s 1 (s.1 1 + 1)) b t hi
  have ek : (u1 s 1 (s.1 1 + 1)).1 1 = s.1 1 + 1 := rfl
  rw [ek] at a0
  have a1 := c_126 (d := d + 3) (s := u1 s 1 (s.1 1 + 1)) b (x := 4) (y := (-2147483648 : Int64).toInt32) (z := (2147483647 : Int64).toInt32) h4
  have a2 := c_127 (d := d + 3) (s := emS (u1 s 1 (s.1 1 + 1)) 4 ((-2147483648 : Int64).toInt32) ((2147483647 : Int64).toInt32)) b (x := tu) (y := -2) h5
  have q' := eq_false q
  clear t
  simp (disch := first | omega | (simp only [u1_1, u1_2, u2_1, u2_2, ↓reduceIte, Nat.reduceAdd, Nat.reduceMul, Nat.reduceSub, Nat.reduceLT, Nat.reduceGT, Nat.reduceEqDiff, Nat.reduceLeDiff, Nat.left_eq_add, Nat.add_eq_left, Nat.reduceMod, Nat.reduceDiv, Nat.succ_ne_self]; omega)) only [s_73_0, s_73_3, s_73_4, s_73_7, s_73_9, s_73_10, s_73_11, s_73_14, s_73_15, s_73_16, s_73_19, s_73_20, s_73_23, s_73_25, s_73_28, s_73_29, s_73_30, s_73_33, s_73_34, s_73_35, s_73_38, s_73_39, s_73_42, s_73_44, s_73_45, s_73_48, s_73_49, s_73_50, s_73_52, s_73_55, s_73_56, s_73_59, s_73_61, s_73_62, s_73_64, s_73_67, s_73_68, s_73_70, s_73_71, s_73_74, s_73_75, s_73_77, s_73_79, s_73_82, s_73_83, s_73_86, s_73_87, s_73_88, s_73_89, s_73_91, s_73_92, s_73_95, s_73_96, s_73_99, s_73_100, s_73_102, s_73_105, e_73, mv_i_1, mv_l_1, mv_a_1, mv_a_2, mv_a_3, mk2_n, mk2_i, mk2_l, mk2_a, mk2_u, mk2_x, mB_T, mB_F, mS_cons, mS_nil, mSB_T, mSB_F, mca_nil, mca_i, mca_l, mca_r, mca_u, mca_x, mcat_i, mcat_l, mcat_r, mcat_u, mcat_x, mK_some, mK_none, va_rf_s, va_rf_n, lgc_eq, lgc_lt, lgc_gt, lgc_ge, lgc_le, mrd_104, mrd_105, mrd_106, mrd_107, true_and, and_true, and_self, false_and, and_false, true_or, or_true, false_or, or_false, not_true_eq_false, not_false_eq_true, mgb, mga, mgr, mN, reduceCtorEq, ↓reduceIte, eq_self, ge_iff_le, gt_iff_lt, Nat.reduceAdd, Nat.reduceMul, Nat.reduceSub, Nat.reduceLT, Nat.reduceGT, Nat.reduceEqDiff, Nat.reduceLeDiff, Nat.left_eq_add, Nat.add_eq_left, Nat.reduceMod, Nat.reduceDiv, Nat.succ_ne_self, ci_c0, cs_c0, ci_c1, cs_c1, ci_c2, cs_c2, ci_c3, cs_c3, ci_c4, cs_c4, ci_c5, cs_c5, ci_c6, cs_c6, ci_c7, cs_c7, ci_c8, ci_c9, cs_c9, ci_c10, cs_c10, ci_c11, cs_c11, ci_c12, cs_c12, ci_c13, cs_c13, ci_r6, cs_r6, ci_r7, cs_r7, ci_r8, cs_r8, ci_r9, cs_r9, ci_r10, cs_r10, ci_r11, cs_r11, ci_r12, cs_r12, ci_r13, cs_r13, ci_r15, cs_r15, ci_r17, cs_r17, ci_r19, cs_r19, ci_r20, cs_r20, ci_r21, cs_r21, ci_r22, cs_r22, ci_r23, cs_r23, ci_p7, cs_p7, ci_p11, cs_p11, ci_p12, cs_p12, ci_p13, cs_p13, ci_S, cs_S, ci_t, ci_t1, ci_t2, ci_t3, ci_t4, cg_0 b, cg_1 b, cln_1 b, cg_2 b, cln_2 b, cg_3 b, cln_3 b, cg_4 b, cln_4 b, cg_5 b, cg_6 b, cln_6 b, cg_7 b, cln_7 b, cg_8 b, cln_8 b, cg_9 b, cln_9 b, cg_10 b, cln_10 b, cg_11 b, cln_11 b, cg_12 b, cln_12 b, cg_13 b, cln_13 b, cg_14 b, cln_14 b, cg_15 b, cln_15 b, cg_16 b, cg_17 b, cln_17 b, cg_18 b, cg_19 b, cln_19 b, cg_20 b, cln_20 b, cg_21 b, cln_21 b, cg_22 b, cln_22 b, cg_23 b, cln_23 b, ck_14 b, cr_0_0 b, cr_0_1 b, cr_0_2 b, cr_0_3 b, cr_5_0 b, cr_5_2 b, cr_5_3 b, cr_5_4 b, cr_5_6 b, cr_5_7 b, cr_5_9 b, cr_5_10 b, cr_5_12 b, cr_5_14 b, cr_16_0 b, cr_16_1 b, cr_16_2 b, cr_16_3 b, cr_16_9 b, cr_18_0 b, cr_18_1 b, cr_18_2 b, cr_18_3 b, cr_18_5 b, cr_16_8, cr_14, cg_S, u1_1, u1_2, u2_1, u2_2, e1', a0, q', a1, a2]
theorem c_73y (b : CPB h B n) (t : CTK h B n m Bt K P U V) {tu : Int32} (hi : s.1 1 + 1 < m) (q : K (s.1 1 + 1) = 40) (h4 : s.1 4 ≤ n) (h5 : s.1 5 ≤ n) (hN : 0 < s.1 8) : ∃ y z : Int64, y.toInt = rlV K P V (u1 s 1 (s.1 1 + 2)) ∧ z.toInt = rlV K P V (tkS K P (rlS K P (u1 s 1 (s.1 1 + 2))) 44) ∧ (-2147483648 ≤ y.toInt ∧ y.toInt ≤ 2147483647) ∧ (-2147483648 ≤ z.toInt ∧ z.toInt ≤ 2147483647) ∧ ∀ Q, mcall (d + 4) 73 [.ref (B + 16), .int tu] (cH h B s) Q = Q none (cH h B (ptS (emS (ayS K P V s) 4 y.toInt32 z.toInt32) tu (-2))) := by
  have e1' : ∀ k, Int32.ofNat k + 1 = Int32.ofNat (k + 1) := fun k => nn_add (a := k) (b := 1)
  have a0 := c_47 (d := d + 3) (s := u1 s 1 (s.1 1 + 1)) b t hi
  have ek : (u1 s 1 (s.1 1 + 1)).1 1 = s.1 1 + 1 := rfl
  rw [ek, q] at a0
  have h2 : s.1 1 + 2 < m := tkM_s t.M hi q (by decide) (by decide)
  have eu : u1 (u1 s 1 (s.1 1 + 1)) 1 (s.1 1 + 1 + 1) = u1 s 1 (s.1 1 + 2) := by
    refine Prod.ext (funext fun x => ?_) rfl
    show (if x = 1 then s.1 1 + 1 + 1 else if x = 1 then s.1 1 + 1 else s.1 x) = (if x = 1 then s.1 1 + 2 else s.1 x)
    by_cases c : x = 1
    · rw [if_pos c, if_pos c]
    · rw [if_neg c, if_neg c, if_neg c]
  have a1 := c_49 (d := d + 3) (s := u1 s 1 (s.1 1 + 2)) b t h2
  have ek2 : (u1 s 1 (s.1 1 + 2)).1 1 = s.1 1 + 2 := rfl
  rw [ek2] at a1
  obtain ⟨y, y1, y2, y3⟩ := c_74 (d := d) (s := u1 s 1 (s.1 1 + 2)) b t h2
  have m1 := rl_m (P := P) t.M (s := u1 s 1 (s.1 1 + 2)) h2
  have a2 := c_51 (d := d + 1) (s := rlS K P (u1 s 1 (s.1 1 + 2))) b t (k := 44) m1
  have m2 := tq_m (P := P) t.M m1 (k := 44) (by decide) (by decide)
  obtain ⟨z, z1, z2, z3⟩ := c_74 (d := d) (s := tkS K P (rlS K P (u1 s 1 (s.1 1 + 2))) 44) b t m2
  have m3 := rl_m (P := P) t.M m2
  have a3 := c_51 (d := d + 1) (s := rlS K P (tkS K P (rlS K P (u1 s 1 (s.1 1 + 2))) 44)) b t (k := 41) m3
  refine ⟨y, z, y1, z1, y2, z2, fun Q => ?_⟩
  have f1 : ∀ c, c ≠ 1 → (tkS K P (rlS K P (tkS K P (rlS K P (u1 s 1 (s.1 1 + 2))) 44)) 41).1 c = s.1 c := fun c hc => by
    rw [tq_1 hc, rl_1 hc, tq_1 hc, rl_1 hc]
    exact if_neg hc
  have g1 : ∀ c, c ≠ 1 → (ayS K P V s).1 c = s.1 c := fun c hc => by
    unfold ayS
    split
    · rw [nt_1]; exact f1 c hc
    · exact f1 c hc
  have a4 := c_126 (d := d + 3) (s := ayS K P V s) b (x := 4) (y := y.toInt32) (z := z.toInt32) (by rw [g1 4 (by decide)]; exact h4)
  have a5 := c_127 (d := d + 3) (s := emS (ayS K P V s) 4 y.toInt32 z.toInt32) b (x := tu) (y := -2) (by show (ayS K P V s).1 5 ≤ n; rw [g1 5 (by decide)]; exact h5)
  have lc : (z < y) = (rlV K P V (tkS K P (rlS K P (u1 s 1 (s.1 1 + 2))) 44) < rlV K P V (u1 s 1 (s.1 1 + 2))) := by rw [Int64.lt_iff_toInt_lt, y1, z1]
  have le : (y ≤ z) = ¬ (z < y) := le_nlt64
  by_cases c : rlV K P V (tkS K P (rlS K P (u1 s 1 (s.1 1 + 2))) 44) < rlV K P V (u1 s 1 (s.1 1 + 2))
  · have ea : ayS K P V s = ntS (tkS K P (rlS K P (tkS K P (rlS K P (u1 s 1 (s.1 1 + 2))) 44)) 41) 8 (Int32.ofNat (P (s.1 1 + 2))) := if_pos c
    rw [ea] at a4 a5 ⊢
    have a6 := c_53 (d := d + 2) (s := tkS K P (rlS K P (tkS K P (rlS K P (u1 s 1 (s.1 1 + 2))) 44)) 41) b (w := 8) (p := Int32.ofNat (P (s.1 1 + 2))) (by rw [f1 8 (by decide)]; exact hN)
    have c' := eq_true c
    clear t y1 z1 f1 g1 ea
    simp (disch := first | omega | (simp only [u1_1, u1_2, u2_1, u2_2, ↓reduceIte, Nat.reduceAdd, Nat.reduceMul, Nat.reduceSub, Nat.reduceLT, Nat.reduceGT, Nat.reduceEqDiff, Nat.reduceLeDiff, Nat.left_eq_add, Nat.add_eq_left, Nat.reduceMod, Nat.reduceDiv, Nat.succ_ne_self]; omega)) only [s_73_0, s_73_3, s_73_4, s_73_7, s_73_9, s_73_10, s_73_11, s_73_14, s_73_15, s_73_16, s_73_19, s_73_20, s_73_23, s_73_25, s_73_28, s_73_29, s_73_30, s_73_33, s_73_34, s_73_35, s_73_38, s_73_39, s_73_42, s_73_44, s_73_45, s_73_48, s_73_49, s_73_50, s_73_52, s_73_55, s_73_56, s_73_59, s_73_61, s_73_62, s_73_64, s_73_67, s_73_68, s_73_70, s_73_71, s_73_74, s_73_75, s_73_77, s_73_79, s_73_82, s_73_83, s_73_86, s_73_87, s_73_88, s_73_89, s_73_91, s_73_92, s_73_95, s_73_96, s_73_99, s_73_100, s_73_102, s_73_105, e_73, mv_i_1, mv_l_1, mv_a_1, mv_a_2, mv_a_3, mk2_n, mk2_i, mk2_l, mk2_a, mk2_u, mk2_x, mB_T, mB_F, mS_cons, mS_nil, mSB_T, mSB_F, mca_nil, mca_i, mca_l, mca_r, mca_u, mca_x, mcat_i, mcat_l, mcat_r, mcat_u, mcat_x, mK_some, mK_none, va_rf_s, va_rf_n, lgc_eq, lgc_lt, lgc_gt, lgc_ge, lgc_le, mrd_104, mrd_105, mrd_106, mrd_107, true_and, and_true, and_self, false_and, and_false, true_or, or_true, false_or, or_false, not_true_eq_false, not_false_eq_true, mgb, mga, mgr, mN, reduceCtorEq, ↓reduceIte, eq_self, ge_iff_le, gt_iff_lt, Nat.reduceAdd, Nat.reduceMul, Nat.reduceSub, Nat.reduceLT, Nat.reduceGT, Nat.reduceEqDiff, Nat.reduceLeDiff, Nat.left_eq_add, Nat.add_eq_left, Nat.reduceMod, Nat.reduceDiv, Nat.succ_ne_self, ci_c0, cs_c0, ci_c1, cs_c1, ci_c2, cs_c2, ci_c3, cs_c3, ci_c4, cs_c4, ci_c5, cs_c5, ci_c6, cs_c6, ci_c7, cs_c7, ci_c8, ci_c9, cs_c9, ci_c10, cs_c10, ci_c11, cs_c11, ci_c12, cs_c12, ci_c13, cs_c13, ci_r6, cs_r6, ci_r7, cs_r7, ci_r8, cs_r8, ci_r9, cs_r9, ci_r10, cs_r10, ci_r11, cs_r11, ci_r12, cs_r12, ci_r13, cs_r13, ci_r15, cs_r15, ci_r17, cs_r17, ci_r19, cs_r19, ci_r20, cs_r20, ci_r21, cs_r21, ci_r22, cs_r22, ci_r23, cs_r23, ci_p7, cs_p7, ci_p11, cs_p11, ci_p12, cs_p12, ci_p13, cs_p13, ci_S, cs_S, ci_t, ci_t1, ci_t2, ci_t3, ci_t4, cg_0 b, cg_1 b, cln_1 b, cg_2 b, cln_2 b, cg_3 b, cln_3 b, cg_4 b, cln_4 b, cg_5 b, cg_6 b, cln_6 b, cg_7 b, cln_7 b, cg_8 b, cln_8 b, cg_9 b, cln_9 b, cg_10 b, cln_10 b, cg_11 b, cln_11 b, cg_12 b, cln_12 b, cg_13 b, cln_13 b, cg_14 b, cln_14 b, cg_15 b, cln_15 b, cg_16 b, cg_17 b, cln_17 b, cg_18 b, cg_19 b, cln_19 b, cg_20 b, cln_20 b, cg_21 b, cln_21 b, cg_22 b, cln_22 b, cg_23 b, cln_23 b, ck_14 b, cr_0_0 b, cr_0_1 b, cr_0_2 b, cr_0_3 b, cr_5_0 b, cr_5_2 b, cr_5_3 b, cr_5_4 b, cr_5_6 b, cr_5_7 b, cr_5_9 b, cr_5_10 b, cr_5_12 b, cr_5_14 b, cr_16_0 b, cr_16_1 b, cr_16_2 b, cr_16_3 b, cr_16_9 b, cr_18_0 b, cr_18_1 b, cr_18_2 b, cr_18_3 b, cr_18_5 b, cr_16_8, cr_14, cg_S, u1_1, u1_2, u2_1, u2_2, e1', a0, eu, a1, y3, a2, z3, a3, le, lc, c', a6, a4, a5]
  · have ea : ayS K P V s = tkS K P (rlS K P (tkS K P (rlS K P (u1 s 1 (s.1 1 + 2))) 44)) 41 := if_neg c
    rw [ea] at a4 a5 ⊢
    have c' := eq_false c
    clear t y1 z1 f1 g1 ea
    simp (disch := first | omega | (simp only [u1_1, u1_2, u2_1, u2_2, ↓reduceIte, Nat.reduceAdd, Nat.reduceMul, Nat.reduceSub, Nat.reduceLT, Nat.reduceGT, Nat.reduceEqDiff, Nat.reduceLeDiff, Nat.left_eq_add, Nat.add_eq_left, Nat.reduceMod, Nat.reduceDiv, Nat.succ_ne_self]; omega)) only [s_73_0, s_73_3, s_73_4, s_73_7, s_73_9, s_73_10, s_73_11, s_73_14, s_73_15, s_73_16, s_73_19, s_73_20, s_73_23, s_73_25, s_73_28, s_73_29, s_73_30, s_73_33, s_73_34, s_73_35, s_73_38, s_73_39, s_73_42, s_73_44, s_73_45, s_73_48, s_73_49, s_73_50, s_73_52, s_73_55, s_73_56, s_73_59, s_73_61, s_73_62, s_73_64, s_73_67, s_73_68, s_73_70, s_73_71, s_73_74, s_73_75, s_73_77, s_73_79, s_73_82, s_73_83, s_73_86, s_73_87, s_73_88, s_73_89, s_73_91, s_73_92, s_73_95, s_73_96, s_73_99, s_73_100, s_73_102, s_73_105, e_73, mv_i_1, mv_l_1, mv_a_1, mv_a_2, mv_a_3, mk2_n, mk2_i, mk2_l, mk2_a, mk2_u, mk2_x, mB_T, mB_F, mS_cons, mS_nil, mSB_T, mSB_F, mca_nil, mca_i, mca_l, mca_r, mca_u, mca_x, mcat_i, mcat_l, mcat_r, mcat_u, mcat_x, mK_some, mK_none, va_rf_s, va_rf_n, lgc_eq, lgc_lt, lgc_gt, lgc_ge, lgc_le, mrd_104, mrd_105, mrd_106, mrd_107, true_and, and_true, and_self, false_and, and_false, true_or, or_true, false_or, or_false, not_true_eq_false, not_false_eq_true, mgb, mga, mgr, mN, reduceCtorEq, ↓reduceIte, eq_self, ge_iff_le, gt_iff_lt, Nat.reduceAdd, Nat.reduceMul, Nat.reduceSub, Nat.reduceLT, Nat.reduceGT, Nat.reduceEqDiff, Nat.reduceLeDiff, Nat.left_eq_add, Nat.add_eq_left, Nat.reduceMod, Nat.reduceDiv, Nat.succ_ne_self, ci_c0, cs_c0, ci_c1, cs_c1, ci_c2, cs_c2, ci_c3, cs_c3, ci_c4, cs_c4, ci_c5, cs_c5, ci_c6, cs_c6, ci_c7, cs_c7, ci_c8, ci_c9, cs_c9, ci_c10, cs_c10, ci_c11, cs_c11, ci_c12, cs_c12, ci_c13, cs_c13, ci_r6, cs_r6, ci_r7, cs_r7, ci_r8, cs_r8, ci_r9, cs_r9, ci_r10, cs_r10, ci_r11, cs_r11, ci_r12, cs_r12, ci_r13, cs_r13, ci_r15, cs_r15, ci_r17, cs_r17, ci_r19, cs_r19, ci_r20, cs_r20, ci_r21, cs_r21, ci_r22, cs_r22, ci_r23, cs_r23, ci_p7, cs_p7, ci_p11, cs_p11, ci_p12, cs_p12, ci_p13, cs_p13, ci_S, cs_S, ci_t, ci_t1, ci_t2, ci_t3, ci_t4, cg_0 b, cg_1 b, cln_1 b, cg_2 b, cln_2 b, cg_3 b, cln_3 b, cg_4 b, cln_4 b, cg_5 b, cg_6 b, cln_6 b, cg_7 b, cln_7 b, cg_8 b, cln_8 b, cg_9 b, cln_9 b, cg_10 b, cln_10 b, cg_11 b, cln_11 b, cg_12 b, cln_12 b, cg_13 b, cln_13 b, cg_14 b, cln_14 b, cg_15 b, cln_15 b, cg_16 b, cg_17 b, cln_17 b, cg_18 b, cg_19 b, cln_19 b, cg_20 b, cln_20 b, cg_21 b, cln_21 b, cg_22 b, cln_22 b, cg_23 b, cln_23 b, ck_14 b, cr_0_0 b, cr_0_1 b, cr_0_2 b, cr_0_3 b, cr_5_0 b, cr_5_2 b, cr_5_3 b, cr_5_4 b, cr_5_6 b, cr_5_7 b, cr_5_9 b, cr_5_10 b, cr_5_12 b, cr_5_14 b, cr_16_0 b, cr_16_1 b, cr_16_2 b, cr_16_3 b, cr_16_9 b, cr_18_0 b, cr_18_1 b, cr_18_2 b, cr_18_3 b, cr_18_5 b, cr_16_8, cr_14, cg_S, u1_1, u1_2, u2_1, u2_2, e1', a0, eu, a1, y3, a2, z3, a3, le, lc, c', a4, a5]
theorem nu_1 {o : Option Nat} {p : Int32} : (nuS s o p).1 = s.1 := by
  unfold nuS
  split
  · exact nt_1
  · split
    · exact nt_1
    · rfl
theorem ar_1 {o : Option Nat} {p : Int32} : (arS s o p).1 = s.1 := by
  unfold arS
  split
  · exact nt_1
  · split
    · rfl
    · exact nt_1
theorem ar_2 {o : Option Nat} {p : Int32} {x j : Nat} (hN : 0 < s.1 8) (hx : x < 24) : (arS s o p).2 x j = s.2 x j := by
  unfold arS
  split
  · exact nt_2 hN hx
  · split
    · rfl
    · exact nt_2 hN hx
theorem nu_2 {o : Option Nat} {p : Int32} {x j : Nat} (hN : 0 < s.1 8) (hx : x < 24) : (nuS s o p).2 x j = s.2 x j := by
  unfold nuS
  split
  · exact nt_2 hN hx
  · split
    · exact nt_2 hN hx
    · rfl
/-- readNamed -/
theorem c_72n (b : CPB h B n) (t : CTK h B n m Bt K P U V) (S : CSC s n m) {tu : Int32} (hi : s.1 1 < m) (hN : 0 < s.1 8) (q : ¬ K (s.1 1 + 1) = 91) (h4 : s.1 4 ≤ n) (h5 : s.1 5 ≤ n) : ∀ Q, mcall (d + 4) 72 [.ref (B + 16), .int tu] (cH h B s) Q = Q none (cH h B (u1 (ptS (emS (nuS s (fiT Bt n P U s (s.1 1)) (Int32.ofNat (P (s.1 1)))) 2 (nuV s (fiT Bt n P U s (s.1 1))) 0) tu (nuV s (fiT Bt n P U s (s.1 1)))) 1 (s.1 1 + 1))) := by
  intro Q
  have e1' : ∀ k, Int32.ofNat k + 1 = Int32.ofNat (k + 1) := fun k => nn_add (a := k) (b := 1)
  have a0 := c_48a (d := d + 3) b t hi
  have a1 := c_64 (d := d) b t S hi hN
  have q' := eq_false q
  generalize fiT Bt n P U s (s.1 1) = o at a1 ⊢
  have a2 := c_126 (d := d + 3) (s := nuS s o (Int32.ofNat (P (s.1 1)))) b (x := 2) (y := nuV s o) (z := 0) (by rw [nu_1]; exact h4)
  have a3 := c_127 (d := d + 3) (s := emS (nuS s o (Int32.ofNat (P (s.1 1)))) 2 (nuV s o) 0) b (x := tu) (y := nuV s o) (by show (nuS s o (Int32.ofNat (P (s.1 1)))).1 5 ≤ n; rw [nu_1]; exact h5)
  have ek : (ptS (emS (nuS s o (Int32.ofNat (P (s.1 1)))) 2 (nuV s o) 0) tu (nuV s o)).1 1 = s.1 1 := by
    show (nuS s o (Int32.ofNat (P (s.1 1)))).1 1 = s.1 1
    rw [nu_1]
  clear t S
  simp (disch := first | omega | (simp only [u1_1, u1_2, u2_1, u2_2, ↓reduceIte, Nat.reduceAdd, Nat.reduceMul, Nat.reduceSub, Nat.reduceLT, Nat.reduceGT, Nat.reduceEqDiff, Nat.reduceLeDiff, Nat.left_eq_add, Nat.add_eq_left, Nat.reduceMod, Nat.reduceDiv, Nat.succ_ne_self]; omega)) only [s_72_0, s_72_1, s_72_2, s_72_5, s_72_7, s_72_10, s_72_11, s_72_14, s_72_15, s_72_16, s_72_19, s_72_20, s_72_21, s_72_24, s_72_27, s_72_28, s_72_29, s_72_30, s_72_33, s_72_34, s_72_37, s_72_38, s_72_39, s_72_42, s_72_43, s_72_46, s_72_49, s_72_50, s_72_53, s_72_54, s_72_57, s_72_58, s_72_59, s_72_62, s_72_63, s_72_66, s_72_69, s_72_70, s_72_71, s_72_74, s_72_75, s_72_77, s_72_80, s_72_81, s_72_84, s_72_87, s_72_88, s_72_89, s_72_92, s_72_93, s_72_94, s_72_97, s_72_100, s_72_101, s_72_104, s_72_105, s_72_106, s_72_109, s_72_110, s_72_111, s_72_112, s_72_115, s_72_116, s_72_119, s_72_120, s_72_121, s_72_124, s_72_125, s_72_126, s_72_129, s_72_130, s_72_131, s_72_134, e_72, mv_i_1, mv_l_1, mv_a_1, mv_a_2, mv_a_3, mk2_n, mk2_i, mk2_l, mk2_a, mk2_u, mk2_x, mB_T, mB_F, mS_cons, mS_nil, mSB_T, mSB_F, mca_nil, mca_i, mca_l, mca_r, mca_u, mca_x, mcat_i, mcat_l, mcat_r, mcat_u, mcat_x, mK_some, mK_none, va_rf_s, va_rf_n, lgc_eq, lgc_lt, lgc_gt, lgc_ge, lgc_le, mrd_104, mrd_105, mrd_106, mrd_107, true_and, and_true, and_self, false_and, and_false, true_or, or_true, false_or, or_false, not_true_eq_false, not_false_eq_true, mgb, mga, mgr, mN, reduceCtorEq, ↓reduceIte, eq_self, ge_iff_le, gt_iff_lt, Nat.reduceAdd, Nat.reduceMul, Nat.reduceSub, Nat.reduceLT, Nat.reduceGT, Nat.reduceEqDiff, Nat.reduceLeDiff, Nat.left_eq_add, Nat.add_eq_left, Nat.reduceMod, Nat.reduceDiv, Nat.succ_ne_self, ci_c0, cs_c0, ci_c1, cs_c1, ci_c2, cs_c2, ci_c3, cs_c3, ci_c4, cs_c4, ci_c5, cs_c5, ci_c6, cs_c6, ci_c7, cs_c7, ci_c8, ci_c9, cs_c9, ci_c10, cs_c10, ci_c11, cs_c11, ci_c12, cs_c12, ci_c13, cs_c13, ci_r6, cs_r6, ci_r7, cs_r7, ci_r8, cs_r8, ci_r9, cs_r9, ci_r10, cs_r10, ci_r11, cs_r11, ci_r12, cs_r12, ci_r13, cs_r13, ci_r15, cs_r15, ci_r17, cs_r17, ci_r19, cs_r19, ci_r20, cs_r20, ci_r21, cs_r21, ci_r22, cs_r22, ci_r23, cs_r23, ci_p7, cs_p7, ci_p11, cs_p11, ci_p12, cs_p12, ci_p13, cs_p13, ci_S, cs_S, ci_t, ci_t1, ci_t2, ci_t3, ci_t4, cg_0 b, cg_1 b, cln_1 b, cg_2 b, cln_2 b, cg_3 b, cln_3 b, cg_4 b, cln_4 b, cg_5 b, cg_6 b, cln_6 b, cg_7 b, cln_7 b, cg_8 b, cln_8 b, cg_9 b, cln_9 b, cg_10 b, cln_10 b, cg_11 b, cln_11 b, cg_12 b, cln_12 b, cg_13 b, cln_13 b, cg_14 b, cln_14 b, cg_15 b, cln_15 b, cg_16 b, cg_17 b, cln_17 b, cg_18 b, cg_19 b, cln_19 b, cg_20 b, cln_20 b, cg_21 b, cln_21 b, cg_22 b, cln_22 b, cg_23 b, cln_23 b, ck_14 b, cr_0_0 b, cr_0_1 b, cr_0_2 b, cr_0_3 b, cr_5_0 b, cr_5_2 b, cr_5_3 b, cr_5_4 b, cr_5_6 b, cr_5_7 b, cr_5_9 b, cr_5_10 b, cr_5_12 b, cr_5_14 b, cr_16_0 b, cr_16_1 b, cr_16_2 b, cr_16_3 b, cr_16_9 b, cr_18_0 b, cr_18_1 b, cr_18_2 b, cr_18_3 b, cr_18_5 b, cr_16_8, cr_14, cg_S, u1_1, u1_2, u2_1, u2_2, a0, q', a1, a2, a3, ek, e1']
theorem c_72y (b : CPB h B n) (t : CTK h B n m Bt K P U V) (S : CSC s n m) {tu : Int32} (hi : s.1 1 < m) (hN : 0 < s.1 8) (q : K (s.1 1 + 1) = 91) (hw : s.1 0 + 4 ≤ gL n) : ∀ Q, mcall (d + 4) 72 [.ref (B + 16), .int tu] (cH h B s) Q = Q none (cH h B (u1 (asS (asS (asS (asS (arS s (fiT Bt n P U s (s.1 1)) (Int32.ofNat (P (s.1 1)))) 169 (2 * Int32.ofNat (s.1 5) + tu)) 168 (tpV s (arV s (fiT Bt n P U s (s.1 1))))) 93 0) 162 0) 1 (s.1 1 + 2))) := by
  intro Q
  have hn := b.n
  have hS := S.c
  have e2' : ∀ k, Int32.ofNat k + 2 = Int32.ofNat (k + 2) := fun k => nn_add (a := k) (b := 2)
  have a0 := c_48a (d := d + 3) b t hi
  rw [q] at a0
  have a1 := c_65 (d := d) b t S hi hN
  have ob : ∀ k, arV s (fiT Bt n P U s (s.1 1)) = some k → k < s.1 10 := fun k e => by
    cases f : fiT Bt n P U s (s.1 1) with
    | none => rw [f] at e; cases e
    | some k' =>
      rw [f] at e
      have e' : (if 0 < zT s k' then some k' else none) = some k := e
      split at e'
      · cases e'; exact (fsr_b _ _ f).1
      · cases e'
  have z128 : ((128 : Int32) = 0) = False := by decide
  generalize fiT Bt n P U s (s.1 1) = o at a1 ob ⊢
  have r1 : (arS s o (Int32.ofNat (P (s.1 1)))).1 = s.1 := ar_1
  generalize hs1 : arS s o (Int32.ofNat (P (s.1 1))) = s1 at a1 r1 ⊢
  have x21 : ∀ j, s1.2 21 j = s.2 21 j := fun j => by rw [← hs1]; exact ar_2 hN (by decide)
  have x22 : ∀ j, s1.2 22 j = s.2 22 j := fun j => by rw [← hs1]; exact ar_2 hN (by decide)
  have p0 : s1.1 0 = s.1 0 := by rw [r1]
  have p1 : s1.1 1 = s.1 1 := by rw [r1]
  have p5 : s1.1 5 = s.1 5 := by rw [r1]
  have w1 : ∀ (s : cps) g w, (asS s g w).1 0 = s.1 0 + 1 := fun _ _ _ => rfl
  have w2 : ∀ (s : cps) g w, (asS s g w).1 1 = s.1 1 := fun _ _ _ => rfl
  have a2 : ∀ g w, ∀ Q, mcall (d + 3) 46 [.ref (B + 16), .int g, .int w] (cH h B s1) Q = Q none (cH h B (asS s1 g w)) := fun g w => c_46 b (by omega)
  have a3 : ∀ g w g' w', ∀ Q, mcall (d + 3) 46 [.ref (B + 16), .int g', .int w'] (cH h B (asS s1 g w)) Q = Q none (cH h B (asS (asS s1 g w) g' w')) := fun g w g' w' => c_46 b (by rw [w1]; omega)
  have a4 : ∀ g w g' w', ∀ Q, mcall (d + 3) 45 [.ref (B + 16), .int 93] (cH h B (asS (asS s1 g w) g' w')) Q = Q none (cH h B (asS (asS (asS s1 g w) g' w') 93 0)) := fun g w g' w' => c_45 (d := d + 2) b (by rw [w1, w1]; omega)
  have a5 : ∀ g w g' w', ∀ Q, mcall (d + 3) 45 [.ref (B + 16), .int 162] (cH h B (asS (asS (asS s1 g w) g' w') 93 0)) Q = Q none (cH h B (asS (asS (asS (asS s1 g w) g' w') 93 0) 162 0)) := fun g w g' w' => c_45 (d := d + 2) b (by rw [w1, w1, w1]; omega)
  cases f : arV s o with
  | none =>
    rw [f] at a1
    have e : fsI none = -1 := rfl
    have e2 : tpV s none = 1 := rfl
    have m1 : ((-1 : Int32) = -1) = True := eq_true rfl
    clear t S ob hs1 r1
    simp (disch := first | omega | (simp only [u1_1, u1_2, u2_1, u2_2, ↓reduceIte, Nat.reduceAdd, Nat.reduceMul, Nat.reduceSub, Nat.reduceLT, Nat.reduceGT, Nat.reduceEqDiff, Nat.reduceLeDiff, Nat.left_eq_add, Nat.add_eq_left, Nat.reduceMod, Nat.reduceDiv, Nat.succ_ne_self]; omega)) only [s_72_0, s_72_1, s_72_2, s_72_5, s_72_7, s_72_10, s_72_11, s_72_14, s_72_15, s_72_16, s_72_19, s_72_20, s_72_21, s_72_24, s_72_27, s_72_28, s_72_29, s_72_30, s_72_33, s_72_34, s_72_37, s_72_38, s_72_39, s_72_42, s_72_43, s_72_46, s_72_49, s_72_50, s_72_53, s_72_54, s_72_57, s_72_58, s_72_59, s_72_62, s_72_63, s_72_66, s_72_69, s_72_70, s_72_71, s_72_74, s_72_75, s_72_77, s_72_80, s_72_81, s_72_84, s_72_87, s_72_88, s_72_89, s_72_92, s_72_93, s_72_94, s_72_97, s_72_100, s_72_101, s_72_104, s_72_105, s_72_106, s_72_109, s_72_110, s_72_111, s_72_112, s_72_115, s_72_116, s_72_119, s_72_120, s_72_121, s_72_124, s_72_125, s_72_126, s_72_129, s_72_130, s_72_131, s_72_134, e_72, mv_i_1, mv_l_1, mv_a_1, mv_a_2, mv_a_3, mk2_n, mk2_i, mk2_l, mk2_a, mk2_u, mk2_x, mB_T, mB_F, mS_cons, mS_nil, mSB_T, mSB_F, mca_nil, mca_i, mca_l, mca_r, mca_u, mca_x, mcat_i, mcat_l, mcat_r, mcat_u, mcat_x, mK_some, mK_none, va_rf_s, va_rf_n, lgc_eq, lgc_lt, lgc_gt, lgc_ge, lgc_le, mrd_104, mrd_105, mrd_106, mrd_107, true_and, and_true, and_self, false_and, and_false, true_or, or_true, false_or, or_false, not_true_eq_false, not_false_eq_true, mgb, mga, mgr, mN, reduceCtorEq, ↓reduceIte, eq_self, ge_iff_le, gt_iff_lt, Nat.reduceAdd, Nat.reduceMul, Nat.reduceSub, Nat.reduceLT, Nat.reduceGT, Nat.reduceEqDiff, Nat.reduceLeDiff, Nat.left_eq_add, Nat.add_eq_left, Nat.reduceMod, Nat.reduceDiv, Nat.succ_ne_self, ci_c0, cs_c0, ci_c1, cs_c1, ci_c2, cs_c2, ci_c3, cs_c3, ci_c4, cs_c4, ci_c5, cs_c5, ci_c6, cs_c6, ci_c7, cs_c7, ci_c8, ci_c9, cs_c9, ci_c10, cs_c10, ci_c11, cs_c11, ci_c12, cs_c12, ci_c13, cs_c13, ci_r6, cs_r6, ci_r7, cs_r7, ci_r8, cs_r8, ci_r9, cs_r9, ci_r10, cs_r10, ci_r11, cs_r11, ci_r12, cs_r12, ci_r13, cs_r13, ci_r15, cs_r15, ci_r17, cs_r17, ci_r19, cs_r19, ci_r20, cs_r20, ci_r21, cs_r21, ci_r22, cs_r22, ci_r23, cs_r23, ci_p7, cs_p7, ci_p11, cs_p11, ci_p12, cs_p12, ci_p13, cs_p13, ci_S, cs_S, ci_t, ci_t1, ci_t2, ci_t3, ci_t4, cg_0 b, cg_1 b, cln_1 b, cg_2 b, cln_2 b, cg_3 b, cln_3 b, cg_4 b, cln_4 b, cg_5 b, cg_6 b, cln_6 b, cg_7 b, cln_7 b, cg_8 b, cln_8 b, cg_9 b, cln_9 b, cg_10 b, cln_10 b, cg_11 b, cln_11 b, cg_12 b, cln_12 b, cg_13 b, cln_13 b, cg_14 b, cln_14 b, cg_15 b, cln_15 b, cg_16 b, cg_17 b, cln_17 b, cg_18 b, cg_19 b, cln_19 b, cg_20 b, cln_20 b, cg_21 b, cln_21 b, cg_22 b, cln_22 b, cg_23 b, cln_23 b, ck_14 b, cr_0_0 b, cr_0_1 b, cr_0_2 b, cr_0_3 b, cr_5_0 b, cr_5_2 b, cr_5_3 b, cr_5_4 b, cr_5_6 b, cr_5_7 b, cr_5_9 b, cr_5_10 b, cr_5_12 b, cr_5_14 b, cr_16_0 b, cr_16_1 b, cr_16_2 b, cr_16_3 b, cr_16_9 b, cr_18_0 b, cr_18_1 b, cr_18_2 b, cr_18_3 b, cr_18_5 b, cr_16_8, cr_14, cg_S, u1_1, u1_2, u2_1, u2_2, a0, a1, e, e2, m1, p5, a2, a3, a4, a5, w2, p1, e2']
  | some k =>
    have kl := ob k f
    rw [f] at a1
    have e : fsI (some k) = Int32.ofNat k := rfl
    have e2 : tpV s (some k) = 128 * s.2 21 k + (s.2 22 k - s.2 22 k / 128 * 128) := rfl
    have m2 : (Int32.ofNat k = -1) = False := nn_m2 (by omega)
    have a6 : ∀ g w, ∀ Q, mcall (d + 3) 123 [.ref (B + 18), .int (Int32.ofNat k)] (cH h B (asS s1 g w)) Q = Q (some (.int (s.2 21 k))) (cH h B (asS s1 g w)) := fun g w Q => by
      have z := c_123 (d := d + 3) (s := asS s1 g w) b (k := k) (by omega) Q
      rw [show (asS s1 g w).2 21 k = s1.2 21 k from rfl, x21] at z
      exact z
    have a7 : ∀ g w, ∀ Q, mcall (d + 3) 124 [.ref (B + 18), .int (Int32.ofNat k)] (cH h B (asS s1 g w)) Q = Q (some (.int (s.2 22 k))) (cH h B (asS s1 g w)) := fun g w Q => by
      have z := c_124 (d := d + 3) (s := asS s1 g w) b (k := k) (by omega) Q
      rw [show (asS s1 g w).2 22 k = s1.2 22 k from rfl, x22] at z
      exact z
    clear t S ob hs1 r1
    simp (disch := first | omega | (simp only [u1_1, u1_2, u2_1, u2_2, ↓reduceIte, Nat.reduceAdd, Nat.reduceMul, Nat.reduceSub, Nat.reduceLT, Nat.reduceGT, Nat.reduceEqDiff, Nat.reduceLeDiff, Nat.left_eq_add, Nat.add_eq_left, Nat.reduceMod, Nat.reduceDiv, Nat.succ_ne_self]; omega)) only [s_72_0, s_72_1, s_72_2, s_72_5, s_72_7, s_72_10, s_72_11, s_72_14, s_72_15, s_72_16, s_72_19, s_72_20, s_72_21, s_72_24, s_72_27, s_72_28, s_72_29, s_72_30, s_72_33, s_72_34, s_72_37, s_72_38, s_72_39, s_72_42, s_72_43, s_72_46, s_72_49, s_72_50, s_72_53, s_72_54, s_72_57, s_72_58, s_72_59, s_72_62, s_72_63, s_72_66, s_72_69, s_72_70, s_72_71, s_72_74, s_72_75, s_72_77, s_72_80, s_72_81, s_72_84, s_72_87, s_72_88, s_72_89, s_72_92, s_72_93, s_72_94, s_72_97, s_72_100, s_72_101, s_72_104, s_72_105, s_72_106, s_72_109, s_72_110, s_72_111, s_72_112, s_72_115, s_72_116, s_72_119, s_72_120, s_72_121, s_72_124, s_72_125, s_72_126, s_72_129, s_72_130, s_72_131, s_72_134, e_72, mv_i_1, mv_l_1, mv_a_1, mv_a_2, mv_a_3, mk2_n, mk2_i, mk2_l, mk2_a, mk2_u, mk2_x, mB_T, mB_F, mS_cons, mS_nil, mSB_T, mSB_F, mca_nil, mca_i, mca_l, mca_r, mca_u, mca_x, mcat_i, mcat_l, mcat_r, mcat_u, mcat_x, mK_some, mK_none, va_rf_s, va_rf_n, lgc_eq, lgc_lt, lgc_gt, lgc_ge, lgc_le, mrd_104, mrd_105, mrd_106, mrd_107, true_and, and_true, and_self, false_and, and_false, true_or, or_true, false_or, or_false, not_true_eq_false, not_false_eq_true, mgb, mga, mgr, mN, reduceCtorEq, ↓reduceIte, eq_self, ge_iff_le, gt_iff_lt, Nat.reduceAdd, Nat.reduceMul, Nat.reduceSub, Nat.reduceLT, Nat.reduceGT, Nat.reduceEqDiff, Nat.reduceLeDiff, Nat.left_eq_add, Nat.add_eq_left, Nat.reduceMod, Nat.reduceDiv, Nat.succ_ne_self, ci_c0, cs_c0, ci_c1, cs_c1, ci_c2, cs_c2, ci_c3, cs_c3, ci_c4, cs_c4, ci_c5, cs_c5, ci_c6, cs_c6, ci_c7, cs_c7, ci_c8, ci_c9, cs_c9, ci_c10, cs_c10, ci_c11, cs_c11, ci_c12, cs_c12, ci_c13, cs_c13, ci_r6, cs_r6, ci_r7, cs_r7, ci_r8, cs_r8, ci_r9, cs_r9, ci_r10, cs_r10, ci_r11, cs_r11, ci_r12, cs_r12, ci_r13, cs_r13, ci_r15, cs_r15, ci_r17, cs_r17, ci_r19, cs_r19, ci_r20, cs_r20, ci_r21, cs_r21, ci_r22, cs_r22, ci_r23, cs_r23, ci_p7, cs_p7, ci_p11, cs_p11, ci_p12, cs_p12, ci_p13, cs_p13, ci_S, cs_S, ci_t, ci_t1, ci_t2, ci_t3, ci_t4, cg_0 b, cg_1 b, cln_1 b, cg_2 b, cln_2 b, cg_3 b, cln_3 b, cg_4 b, cln_4 b, cg_5 b, cg_6 b, cln_6 b, cg_7 b, cln_7 b, cg_8 b, cln_8 b, cg_9 b, cln_9 b, cg_10 b, cln_10 b, cg_11 b, cln_11 b, cg_12 b, cln_12 b, cg_13 b, cln_13 b, cg_14 b, cln_14 b, cg_15 b, cln_15 b, cg_16 b, cg_17 b, cln_17 b, cg_18 b, cg_19 b, cln_19 b, cg_20 b, cln_20 b, cg_21 b, cln_21 b, cg_22 b, cln_22 b, cg_23 b, cln_23 b, ck_14 b, cr_0_0 b, cr_0_1 b, cr_0_2 b, cr_0_3 b, cr_5_0 b, cr_5_2 b, cr_5_3 b, cr_5_4 b, cr_5_6 b, cr_5_7 b, cr_5_9 b, cr_5_10 b, cr_5_12 b, cr_5_14 b, cr_16_0 b, cr_16_1 b, cr_16_2 b, cr_16_3 b, cr_16_9 b, cr_18_0 b, cr_18_1 b, cr_18_2 b, cr_18_3 b, cr_18_5 b, cr_16_8, cr_14, cg_S, u1_1, u1_2, u2_1, u2_2, a0, a1, e, e2, m2, p5, a2, a3, a4, a5, a6, a7, w2, p1, e2', z128]
end LMs
