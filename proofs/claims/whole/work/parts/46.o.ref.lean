set_option maxRecDepth 100000
/-! the desk's checks, bound and range, in the reference -/
/-- points and slots -/
abbrev RPH (h : mh_H) (G : pgm) (cnt : Nat) : Prop := (mh_i h 81 33 = Int32.ofNat cnt) ∧ (1 ≤ cnt ∧ cnt ≤ 250) ∧ (∀ q, q < cnt → mh_i h 103 q = Int32.ofNat (G.n q) ∧ G.n q ≤ 12) ∧ (∀ q, q < cnt → mh_i h 104 q = Int32.ofNat (G.a q) ∧ G.a q ≤ 6)
theorem RPH.c {h : mh_H} {G : pgm} {cnt : Nat} (q : RPH h G cnt) : mh_i h 81 33 = Int32.ofNat cnt := q.1
theorem RPH.b {h : mh_H} {G : pgm} {cnt : Nat} (q : RPH h G cnt) : 1 ≤ cnt ∧ cnt ≤ 250 := q.2.1
theorem RPH.n {h : mh_H} {G : pgm} {cnt : Nat} (q : RPH h G cnt) : ∀ q, q < cnt → mh_i h 103 q = Int32.ofNat (G.n q) ∧ G.n q ≤ 12 := q.2.2.1
theorem RPH.a {h : mh_H} {G : pgm} {cnt : Nat} (q : RPH h G cnt) : ∀ q, q < cnt → mh_i h 104 q = Int32.ofNat (G.a q) ∧ G.a q ≤ 6 := q.2.2.2
def kO (b : Int32) (q : Nat) : Nat := if b = 0 then 132 + 10 * q else 137 + 10 * q
section RCs
variable {d : Nat} {h h1 : mh_H} {G : pgm} {cnt q : Nat} {p x s y t b : Int32} {st : Nat → Option ab}
theorem u_373 (F : RF h) (H : RPH h G cnt) : ∀ Q, mcall d 373 [.ref 81, .int p] h Q = Q (some (.int (kb (okP cnt p)))) h := fun Q => by
  have g := F.g 81 14 70 (by decide +kernel)
  have c2 := H.c
  unfold okP
  clear F H
  by_cases c1 : p < 0 <;> by_cases c2' : Int32.ofNat cnt ≤ p <;> simp (disch := omega) only [s_373_0, s_373_1, s_373_4, s_373_5, s_373_6, s_373_9, s_373_12, s_373_13, s_373_16, s_373_17, e_373, mv_i_1, mv_l_1, mv_a_1, mv_a_2, mv_a_3, mk2_n, mk2_i, mk2_l, mk2_a, mk2_u, mk2_x, mB_T, mB_F, mS_cons, mS_nil, mSB_T, mSB_F, mca_nil, mca_i, mca_l, mca_r, mca_u, mca_x, mcat_i, mcat_l, mcat_r, mcat_u, mcat_x, mK_some, mK_none, va_rf_s, va_rf_n, lgc_eq, lgc_lt, lgc_gt, lgc_ge, lgc_le, mrd_104, mrd_105, mrd_106, mrd_107, true_and, and_true, and_self, false_and, and_false, true_or, or_true, false_or, or_false, not_true_eq_false, not_false_eq_true, mgb, mga, mgr, mN, reduceCtorEq, ↓reduceIte, eq_self, ge_iff_le, gt_iff_lt, hk_si, hk_sj, hk_sr, hl_si, hl_sj, hl_sr, hn_si, hn_sj, hn_sr, hs_si, hs_sj, hs_sr, hi_sj, hi_sr, hj_si, hj_sr, hr_si, hr_sj, hi_si, hj_sj, hr_sr, mg_si, mg_sj, mg_sr, Nat.reduceAdd, Nat.reduceMul, Nat.reduceSub, Nat.reduceLT, Nat.reduceGT, Nat.reduceEqDiff, Nat.reduceLeDiff, Nat.left_eq_add, Nat.add_eq_left, Nat.reduceMod, Nat.reduceDiv, Nat.succ_ne_self, g, c2, c1, c2', decide_true, decide_false, kbT, kbF, not_false_eq_true]
theorem u_374 : ∀ Q, mcall d 374 [.int s] h Q = Q (some (.int (kb (decide (s = 1 ∨ s = -1))))) h := fun Q => by
  rcases Classical.propComplete (s = 1) with c1 | c1 <;> rcases Classical.propComplete (s = -1) with c2 | c2 <;> simp (disch := omega) only [s_374_0, s_374_1, s_374_2, s_374_5, s_374_6, s_374_7, s_374_10, s_374_11, s_374_14, s_374_15, e_374, mv_i_1, mv_l_1, mv_a_1, mv_a_2, mv_a_3, mk2_n, mk2_i, mk2_l, mk2_a, mk2_u, mk2_x, mB_T, mB_F, mS_cons, mS_nil, mSB_T, mSB_F, mca_nil, mca_i, mca_l, mca_r, mca_u, mca_x, mcat_i, mcat_l, mcat_r, mcat_u, mcat_x, mK_some, mK_none, va_rf_s, va_rf_n, lgc_eq, lgc_lt, lgc_gt, lgc_ge, lgc_le, mrd_104, mrd_105, mrd_106, mrd_107, true_and, and_true, and_self, false_and, and_false, true_or, or_true, false_or, or_false, not_true_eq_false, not_false_eq_true, mgb, mga, mgr, mN, reduceCtorEq, ↓reduceIte, eq_self, ge_iff_le, gt_iff_lt, hk_si, hk_sj, hk_sr, hl_si, hl_sj, hl_sr, hn_si, hn_sj, hn_sr, hs_si, hs_sj, hs_sr, hi_sj, hi_sr, hj_si, hj_sr, hr_si, hr_sj, hi_si, hj_sj, hr_sr, mg_si, mg_sj, mg_sr, Nat.reduceAdd, Nat.reduceMul, Nat.reduceSub, Nat.reduceLT, Nat.reduceGT, Nat.reduceEqDiff, Nat.reduceLeDiff, Nat.left_eq_add, Nat.add_eq_left, Nat.reduceMod, Nat.reduceDiv, Nat.succ_ne_self, c1, c2, decide_true, decide_false, kbT, kbF, not_false_eq_true]
theorem u_376 (hs : s = 1 ∨ s = -1) {k : Nat} (hk : k < 1000000) (ex : x = Int32.ofNat k) : ∀ Q, mcall d 376 [.int x, .int s] h Q = Q (some (.int (Int32.ofNat (sgx x s)))) h := fun Q => by
  have e1 : ((1 : Int32) ≤ 0) = False := by decide
  have e2 : ((-1 : Int32) ≤ 0) = True := by decide
  have n1 : ¬ ((-1 : Int32) = 1) := by decide
  have m2 : (2 : Int32) * Int32.ofNat k = Int32.ofNat (2 * k) := nn_mul (a := 2) (b := k)
  have a1 : Int32.ofNat (2 * k) + 1 = Int32.ofNat (2 * k + 1) := nn_add (a := 2 * k) (b := 1)
  have cl := nn_clamp (a := k) (by omega)
  subst ex
  unfold sgx
  rw [cl]
  rcases hs with hs | hs <;> subst hs
  · rw [if_pos rfl]
    simp (disch := omega) only [s_376_0, s_376_1, s_376_4, s_376_5, s_376_6, s_376_7, s_376_10, s_376_11, s_376_12, s_376_13, s_376_14, s_376_15, e_376, mv_i_1, mv_l_1, mv_a_1, mv_a_2, mv_a_3, mk2_n, mk2_i, mk2_l, mk2_a, mk2_u, mk2_x, mB_T, mB_F, mS_cons, mS_nil, mSB_T, mSB_F, mca_nil, mca_i, mca_l, mca_r, mca_u, mca_x, mcat_i, mcat_l, mcat_r, mcat_u, mcat_x, mK_some, mK_none, va_rf_s, va_rf_n, lgc_eq, lgc_lt, lgc_gt, lgc_ge, lgc_le, mrd_104, mrd_105, mrd_106, mrd_107, true_and, and_true, and_self, false_and, and_false, true_or, or_true, false_or, or_false, not_true_eq_false, not_false_eq_true, mgb, mga, mgr, mN, reduceCtorEq, ↓reduceIte, eq_self, ge_iff_le, gt_iff_lt, hk_si, hk_sj, hk_sr, hl_si, hl_sj, hl_sr, hn_si, hn_sj, hn_sr, hs_si, hs_sj, hs_sr, hi_sj, hi_sr, hj_si, hj_sr, hr_si, hr_sj, hi_si, hj_sj, hr_sr, mg_si, mg_sj, mg_sr, Nat.reduceAdd, Nat.reduceMul, Nat.reduceSub, Nat.reduceLT, Nat.reduceGT, Nat.reduceEqDiff, Nat.reduceLeDiff, Nat.left_eq_add, Nat.add_eq_left, Nat.reduceMod, Nat.reduceDiv, Nat.succ_ne_self, e1, m2]
  · rw [if_neg n1]
    simp (disch := omega) only [s_376_0, s_376_1, s_376_4, s_376_5, s_376_6, s_376_7, s_376_10, s_376_11, s_376_12, s_376_13, s_376_14, s_376_15, e_376, mv_i_1, mv_l_1, mv_a_1, mv_a_2, mv_a_3, mk2_n, mk2_i, mk2_l, mk2_a, mk2_u, mk2_x, mB_T, mB_F, mS_cons, mS_nil, mSB_T, mSB_F, mca_nil, mca_i, mca_l, mca_r, mca_u, mca_x, mcat_i, mcat_l, mcat_r, mcat_u, mcat_x, mK_some, mK_none, va_rf_s, va_rf_n, lgc_eq, lgc_lt, lgc_gt, lgc_ge, lgc_le, mrd_104, mrd_105, mrd_106, mrd_107, true_and, and_true, and_self, false_and, and_false, true_or, or_true, false_or, or_false, not_true_eq_false, not_false_eq_true, mgb, mga, mgr, mN, reduceCtorEq, ↓reduceIte, eq_self, ge_iff_le, gt_iff_lt, hk_si, hk_sj, hk_sr, hl_si, hl_sj, hl_sr, hn_si, hn_sj, hn_sr, hs_si, hs_sj, hs_sr, hi_sj, hi_sr, hj_si, hj_sr, hr_si, hr_sj, hi_si, hj_sj, hr_sr, mg_si, mg_sj, mg_sr, Nat.reduceAdd, Nat.reduceMul, Nat.reduceSub, Nat.reduceLT, Nat.reduceGT, Nat.reduceEqDiff, Nat.reduceLeDiff, Nat.left_eq_add, Nat.add_eq_left, Nat.reduceMod, Nat.reduceDiv, Nat.succ_ne_self, e2, m2, a1]
/-- areSlots -/
theorem u_375 (F : RF h) (H : RPH h G cnt) : ∀ Q, mcall (d + 1) 375 [.ref 81, .int p, .int x, .int s, .int y, .int t] h Q = Q (some (.int (kb (okB G cnt p x s y t)))) h := fun Q => by
  have cb := H.b
  have g := F.g 81 14 70 (by decide +kernel)
  have t31 := F.f 81 31 103 (by decide +kernel)
  have g3 := F.g 103 100 250 (by decide +kernel)
  have l3 := F.l 103 100 250 (by decide +kernel)
  have c373 := u_373 (d := d) (p := p) F H
  have s1 := u_374 (d := d) (h := h) (s := s)
  have s2 := u_374 (d := d) (h := h) (s := t)
  have e00 : ((0 : Int32) = 0) = True := by decide
  have e10 : ((1 : Int32) = 0) = False := by decide
  unfold okB
  cases c : okP cnt p with
  | false =>
    rw [c] at c373
    clear F H
    simp (disch := omega) only [s_375_0, s_375_1, s_375_2, s_375_5, s_375_8, s_375_9, s_375_12, s_375_13, s_375_14, s_375_17, s_375_18, s_375_19, s_375_22, s_375_24, s_375_27, s_375_29, s_375_30, s_375_33, s_375_34, s_375_35, s_375_38, s_375_39, s_375_42, s_375_45, s_375_47, s_375_50, s_375_53, s_375_54, s_375_56, s_375_59, s_375_60, s_375_62, s_375_65, s_375_66, s_375_69, s_375_70, e_375, mv_i_1, mv_l_1, mv_a_1, mv_a_2, mv_a_3, mk2_n, mk2_i, mk2_l, mk2_a, mk2_u, mk2_x, mB_T, mB_F, mS_cons, mS_nil, mSB_T, mSB_F, mca_nil, mca_i, mca_l, mca_r, mca_u, mca_x, mcat_i, mcat_l, mcat_r, mcat_u, mcat_x, mK_some, mK_none, va_rf_s, va_rf_n, lgc_eq, lgc_lt, lgc_gt, lgc_ge, lgc_le, mrd_104, mrd_105, mrd_106, mrd_107, true_and, and_true, and_self, false_and, and_false, true_or, or_true, false_or, or_false, not_true_eq_false, not_false_eq_true, mgb, mga, mgr, mN, reduceCtorEq, ↓reduceIte, eq_self, ge_iff_le, gt_iff_lt, hk_si, hk_sj, hk_sr, hl_si, hl_sj, hl_sr, hn_si, hn_sj, hn_sr, hs_si, hs_sj, hs_sr, hi_sj, hi_sr, hj_si, hj_sr, hr_si, hr_sj, hi_si, hj_sj, hr_sr, mg_si, mg_sj, mg_sr, Nat.reduceAdd, Nat.reduceMul, Nat.reduceSub, Nat.reduceLT, Nat.reduceGT, Nat.reduceEqDiff, Nat.reduceLeDiff, Nat.left_eq_add, Nat.add_eq_left, Nat.reduceMod, Nat.reduceDiv, Nat.succ_ne_self, g, c373, kbF, e00, Bool.false_and]
  | true =>
    rw [c] at c373
    obtain ⟨q, hq, rfl, -⟩ := okP_n (by omega) c
    obtain ⟨hn, hn2⟩ := H.n q hq
    have cl := nn_clamp (a := q) (by omega)
    rw [cl, Bool.true_and]
    unfold okT
    clear F H c
    by_cases c1 : x < 0
    · simp (disch := omega) only [s_375_0, s_375_1, s_375_2, s_375_5, s_375_8, s_375_9, s_375_12, s_375_13, s_375_14, s_375_17, s_375_18, s_375_19, s_375_22, s_375_24, s_375_27, s_375_29, s_375_30, s_375_33, s_375_34, s_375_35, s_375_38, s_375_39, s_375_42, s_375_45, s_375_47, s_375_50, s_375_53, s_375_54, s_375_56, s_375_59, s_375_60, s_375_62, s_375_65, s_375_66, s_375_69, s_375_70, e_375, mv_i_1, mv_l_1, mv_a_1, mv_a_2, mv_a_3, mk2_n, mk2_i, mk2_l, mk2_a, mk2_u, mk2_x, mB_T, mB_F, mS_cons, mS_nil, mSB_T, mSB_F, mca_nil, mca_i, mca_l, mca_r, mca_u, mca_x, mcat_i, mcat_l, mcat_r, mcat_u, mcat_x, mK_some, mK_none, va_rf_s, va_rf_n, lgc_eq, lgc_lt, lgc_gt, lgc_ge, lgc_le, mrd_104, mrd_105, mrd_106, mrd_107, true_and, and_true, and_self, false_and, and_false, true_or, or_true, false_or, or_false, not_true_eq_false, not_false_eq_true, mgb, mga, mgr, mN, reduceCtorEq, ↓reduceIte, eq_self, ge_iff_le, gt_iff_lt, hk_si, hk_sj, hk_sr, hl_si, hl_sj, hl_sr, hn_si, hn_sj, hn_sr, hs_si, hs_sj, hs_sr, hi_sj, hi_sr, hj_si, hj_sr, hr_si, hr_sj, hi_si, hj_sj, hr_sr, mg_si, mg_sj, mg_sr, Nat.reduceAdd, Nat.reduceMul, Nat.reduceSub, Nat.reduceLT, Nat.reduceGT, Nat.reduceEqDiff, Nat.reduceLeDiff, Nat.left_eq_add, Nat.add_eq_left, Nat.reduceMod, Nat.reduceDiv, Nat.succ_ne_self, g, c373, kbT, e10, c1, decide_false, Bool.false_and, kbF]
    by_cases c2 : Int32.ofNat (G.n q) ≤ x
    · simp (disch := omega) only [s_375_0, s_375_1, s_375_2, s_375_5, s_375_8, s_375_9, s_375_12, s_375_13, s_375_14, s_375_17, s_375_18, s_375_19, s_375_22, s_375_24, s_375_27, s_375_29, s_375_30, s_375_33, s_375_34, s_375_35, s_375_38, s_375_39, s_375_42, s_375_45, s_375_47, s_375_50, s_375_53, s_375_54, s_375_56, s_375_59, s_375_60, s_375_62, s_375_65, s_375_66, s_375_69, s_375_70, e_375, mv_i_1, mv_l_1, mv_a_1, mv_a_2, mv_a_3, mk2_n, mk2_i, mk2_l, mk2_a, mk2_u, mk2_x, mB_T, mB_F, mS_cons, mS_nil, mSB_T, mSB_F, mca_nil, mca_i, mca_l, mca_r, mca_u, mca_x, mcat_i, mcat_l, mcat_r, mcat_u, mcat_x, mK_some, mK_none, va_rf_s, va_rf_n, lgc_eq, lgc_lt, lgc_gt, lgc_ge, lgc_le, mrd_104, mrd_105, mrd_106, mrd_107, true_and, and_true, and_self, false_and, and_false, true_or, or_true, false_or, or_false, not_true_eq_false, not_false_eq_true, mgb, mga, mgr, mN, reduceCtorEq, ↓reduceIte, eq_self, ge_iff_le, gt_iff_lt, hk_si, hk_sj, hk_sr, hl_si, hl_sj, hl_sr, hn_si, hn_sj, hn_sr, hs_si, hs_sj, hs_sr, hi_sj, hi_sr, hj_si, hj_sr, hr_si, hr_sj, hi_si, hj_sj, hr_sr, mg_si, mg_sj, mg_sr, Nat.reduceAdd, Nat.reduceMul, Nat.reduceSub, Nat.reduceLT, Nat.reduceGT, Nat.reduceEqDiff, Nat.reduceLeDiff, Nat.left_eq_add, Nat.add_eq_left, Nat.reduceMod, Nat.reduceDiv, Nat.succ_ne_self, g, c373, kbT, e10, t31, g3, l3, hn, c1, c2, nn_mxT, nn_clamp, decide_false, Bool.false_and, kbF]
    by_cases c3 : y < 0
    · simp (disch := omega) only [s_375_0, s_375_1, s_375_2, s_375_5, s_375_8, s_375_9, s_375_12, s_375_13, s_375_14, s_375_17, s_375_18, s_375_19, s_375_22, s_375_24, s_375_27, s_375_29, s_375_30, s_375_33, s_375_34, s_375_35, s_375_38, s_375_39, s_375_42, s_375_45, s_375_47, s_375_50, s_375_53, s_375_54, s_375_56, s_375_59, s_375_60, s_375_62, s_375_65, s_375_66, s_375_69, s_375_70, e_375, mv_i_1, mv_l_1, mv_a_1, mv_a_2, mv_a_3, mk2_n, mk2_i, mk2_l, mk2_a, mk2_u, mk2_x, mB_T, mB_F, mS_cons, mS_nil, mSB_T, mSB_F, mca_nil, mca_i, mca_l, mca_r, mca_u, mca_x, mcat_i, mcat_l, mcat_r, mcat_u, mcat_x, mK_some, mK_none, va_rf_s, va_rf_n, lgc_eq, lgc_lt, lgc_gt, lgc_ge, lgc_le, mrd_104, mrd_105, mrd_106, mrd_107, true_and, and_true, and_self, false_and, and_false, true_or, or_true, false_or, or_false, not_true_eq_false, not_false_eq_true, mgb, mga, mgr, mN, reduceCtorEq, ↓reduceIte, eq_self, ge_iff_le, gt_iff_lt, hk_si, hk_sj, hk_sr, hl_si, hl_sj, hl_sr, hn_si, hn_sj, hn_sr, hs_si, hs_sj, hs_sr, hi_sj, hi_sr, hj_si, hj_sr, hr_si, hr_sj, hi_si, hj_sj, hr_sr, mg_si, mg_sj, mg_sr, Nat.reduceAdd, Nat.reduceMul, Nat.reduceSub, Nat.reduceLT, Nat.reduceGT, Nat.reduceEqDiff, Nat.reduceLeDiff, Nat.left_eq_add, Nat.add_eq_left, Nat.reduceMod, Nat.reduceDiv, Nat.succ_ne_self, g, c373, kbT, e10, t31, g3, l3, hn, c1, c2, c3, nn_mxT, nn_clamp, decide_false, Bool.false_and, kbF]
    by_cases c4 : Int32.ofNat (G.n q) ≤ y
    · simp (disch := omega) only [s_375_0, s_375_1, s_375_2, s_375_5, s_375_8, s_375_9, s_375_12, s_375_13, s_375_14, s_375_17, s_375_18, s_375_19, s_375_22, s_375_24, s_375_27, s_375_29, s_375_30, s_375_33, s_375_34, s_375_35, s_375_38, s_375_39, s_375_42, s_375_45, s_375_47, s_375_50, s_375_53, s_375_54, s_375_56, s_375_59, s_375_60, s_375_62, s_375_65, s_375_66, s_375_69, s_375_70, e_375, mv_i_1, mv_l_1, mv_a_1, mv_a_2, mv_a_3, mk2_n, mk2_i, mk2_l, mk2_a, mk2_u, mk2_x, mB_T, mB_F, mS_cons, mS_nil, mSB_T, mSB_F, mca_nil, mca_i, mca_l, mca_r, mca_u, mca_x, mcat_i, mcat_l, mcat_r, mcat_u, mcat_x, mK_some, mK_none, va_rf_s, va_rf_n, lgc_eq, lgc_lt, lgc_gt, lgc_ge, lgc_le, mrd_104, mrd_105, mrd_106, mrd_107, true_and, and_true, and_self, false_and, and_false, true_or, or_true, false_or, or_false, not_true_eq_false, not_false_eq_true, mgb, mga, mgr, mN, reduceCtorEq, ↓reduceIte, eq_self, ge_iff_le, gt_iff_lt, hk_si, hk_sj, hk_sr, hl_si, hl_sj, hl_sr, hn_si, hn_sj, hn_sr, hs_si, hs_sj, hs_sr, hi_sj, hi_sr, hj_si, hj_sr, hr_si, hr_sj, hi_si, hj_sj, hr_sr, mg_si, mg_sj, mg_sr, Nat.reduceAdd, Nat.reduceMul, Nat.reduceSub, Nat.reduceLT, Nat.reduceGT, Nat.reduceEqDiff, Nat.reduceLeDiff, Nat.left_eq_add, Nat.add_eq_left, Nat.reduceMod, Nat.reduceDiv, Nat.succ_ne_self, g, c373, kbT, e10, t31, g3, l3, hn, c1, c2, c3, c4, nn_mxT, nn_clamp, decide_false, Bool.false_and, kbF]
    rcases Classical.propComplete (s = 1 ∨ s = -1) with c5 | c5
    · rcases Classical.propComplete (t = 1 ∨ t = -1) with c6 | c6
      · rcases Classical.propComplete (x = y) with c7 | c7
        · rcases Classical.propComplete (s = t) with c8 | c8
          · simp (disch := omega) only [s_375_0, s_375_1, s_375_2, s_375_5, s_375_8, s_375_9, s_375_12, s_375_13, s_375_14, s_375_17, s_375_18, s_375_19, s_375_22, s_375_24, s_375_27, s_375_29, s_375_30, s_375_33, s_375_34, s_375_35, s_375_38, s_375_39, s_375_42, s_375_45, s_375_47, s_375_50, s_375_53, s_375_54, s_375_56, s_375_59, s_375_60, s_375_62, s_375_65, s_375_66, s_375_69, s_375_70, e_375, mv_i_1, mv_l_1, mv_a_1, mv_a_2, mv_a_3, mk2_n, mk2_i, mk2_l, mk2_a, mk2_u, mk2_x, mB_T, mB_F, mS_cons, mS_nil, mSB_T, mSB_F, mca_nil, mca_i, mca_l, mca_r, mca_u, mca_x, mcat_i, mcat_l, mcat_r, mcat_u, mcat_x, mK_some, mK_none, va_rf_s, va_rf_n, lgc_eq, lgc_lt, lgc_gt, lgc_ge, lgc_le, mrd_104, mrd_105, mrd_106, mrd_107, true_and, and_true, and_self, false_and, and_false, true_or, or_true, false_or, or_false, not_true_eq_false, not_false_eq_true, mgb, mga, mgr, mN, reduceCtorEq, ↓reduceIte, eq_self, ge_iff_le, gt_iff_lt, hk_si, hk_sj, hk_sr, hl_si, hl_sj, hl_sr, hn_si, hn_sj, hn_sr, hs_si, hs_sj, hs_sr, hi_sj, hi_sr, hj_si, hj_sr, hr_si, hr_sj, hi_si, hj_sj, hr_sr, mg_si, mg_sj, mg_sr, Nat.reduceAdd, Nat.reduceMul, Nat.reduceSub, Nat.reduceLT, Nat.reduceGT, Nat.reduceEqDiff, Nat.reduceLeDiff, Nat.left_eq_add, Nat.add_eq_left, Nat.reduceMod, Nat.reduceDiv, Nat.succ_ne_self, g, c373, kbT, e10, t31, g3, l3, hn, c1, c2, c3, c4, s1, s2, c5, c6, c7, c8, nn_mxT, nn_clamp, decide_false, decide_true, Bool.false_and, Bool.true_and, Bool.and_true, Bool.and_false, kbF, forall_const, implies_true, false_implies, true_implies]
          · simp (disch := omega) only [s_375_0, s_375_1, s_375_2, s_375_5, s_375_8, s_375_9, s_375_12, s_375_13, s_375_14, s_375_17, s_375_18, s_375_19, s_375_22, s_375_24, s_375_27, s_375_29, s_375_30, s_375_33, s_375_34, s_375_35, s_375_38, s_375_39, s_375_42, s_375_45, s_375_47, s_375_50, s_375_53, s_375_54, s_375_56, s_375_59, s_375_60, s_375_62, s_375_65, s_375_66, s_375_69, s_375_70, e_375, mv_i_1, mv_l_1, mv_a_1, mv_a_2, mv_a_3, mk2_n, mk2_i, mk2_l, mk2_a, mk2_u, mk2_x, mB_T, mB_F, mS_cons, mS_nil, mSB_T, mSB_F, mca_nil, mca_i, mca_l, mca_r, mca_u, mca_x, mcat_i, mcat_l, mcat_r, mcat_u, mcat_x, mK_some, mK_none, va_rf_s, va_rf_n, lgc_eq, lgc_lt, lgc_gt, lgc_ge, lgc_le, mrd_104, mrd_105, mrd_106, mrd_107, true_and, and_true, and_self, false_and, and_false, true_or, or_true, false_or, or_false, not_true_eq_false, not_false_eq_true, mgb, mga, mgr, mN, reduceCtorEq, ↓reduceIte, eq_self, ge_iff_le, gt_iff_lt, hk_si, hk_sj, hk_sr, hl_si, hl_sj, hl_sr, hn_si, hn_sj, hn_sr, hs_si, hs_sj, hs_sr, hi_sj, hi_sr, hj_si, hj_sr, hr_si, hr_sj, hi_si, hj_sj, hr_sr, mg_si, mg_sj, mg_sr, Nat.reduceAdd, Nat.reduceMul, Nat.reduceSub, Nat.reduceLT, Nat.reduceGT, Nat.reduceEqDiff, Nat.reduceLeDiff, Nat.left_eq_add, Nat.add_eq_left, Nat.reduceMod, Nat.reduceDiv, Nat.succ_ne_self, g, c373, kbT, e10, t31, g3, l3, hn, c1, c2, c3, c4, s1, s2, c5, c6, c7, c8, nn_mxT, nn_clamp, decide_false, decide_true, Bool.false_and, Bool.true_and, Bool.and_true, Bool.and_false, kbF, forall_const, implies_true, false_implies, true_implies]
        · simp (disch := omega) only [s_375_0, s_375_1, s_375_2, s_375_5, s_375_8, s_375_9, s_375_12, s_375_13, s_375_14, s_375_17, s_375_18, s_375_19, s_375_22, s_375_24, s_375_27, s_375_29, s_375_30, s_375_33, s_375_34, s_375_35, s_375_38, s_375_39, s_375_42, s_375_45, s_375_47, s_375_50, s_375_53, s_375_54, s_375_56, s_375_59, s_375_60, s_375_62, s_375_65, s_375_66, s_375_69, s_375_70, e_375, mv_i_1, mv_l_1, mv_a_1, mv_a_2, mv_a_3, mk2_n, mk2_i, mk2_l, mk2_a, mk2_u, mk2_x, mB_T, mB_F, mS_cons, mS_nil, mSB_T, mSB_F, mca_nil, mca_i, mca_l, mca_r, mca_u, mca_x, mcat_i, mcat_l, mcat_r, mcat_u, mcat_x, mK_some, mK_none, va_rf_s, va_rf_n, lgc_eq, lgc_lt, lgc_gt, lgc_ge, lgc_le, mrd_104, mrd_105, mrd_106, mrd_107, true_and, and_true, and_self, false_and, and_false, true_or, or_true, false_or, or_false, not_true_eq_false, not_false_eq_true, mgb, mga, mgr, mN, reduceCtorEq, ↓reduceIte, eq_self, ge_iff_le, gt_iff_lt, hk_si, hk_sj, hk_sr, hl_si, hl_sj, hl_sr, hn_si, hn_sj, hn_sr, hs_si, hs_sj, hs_sr, hi_sj, hi_sr, hj_si, hj_sr, hr_si, hr_sj, hi_si, hj_sj, hr_sr, mg_si, mg_sj, mg_sr, Nat.reduceAdd, Nat.reduceMul, Nat.reduceSub, Nat.reduceLT, Nat.reduceGT, Nat.reduceEqDiff, Nat.reduceLeDiff, Nat.left_eq_add, Nat.add_eq_left, Nat.reduceMod, Nat.reduceDiv, Nat.succ_ne_self, g, c373, kbT, e10, t31, g3, l3, hn, c1, c2, c3, c4, s1, s2, c5, c6, c7, nn_mxT, nn_clamp, decide_false, decide_true, Bool.false_and, Bool.true_and, Bool.and_true, Bool.and_false, kbF, forall_const, implies_true, false_implies, true_implies]
      · simp (disch := omega) only [s_375_0, s_375_1, s_375_2, s_375_5, s_375_8, s_375_9, s_375_12, s_375_13, s_375_14, s_375_17, s_375_18, s_375_19, s_375_22, s_375_24, s_375_27, s_375_29, s_375_30, s_375_33, s_375_34, s_375_35, s_375_38, s_375_39, s_375_42, s_375_45, s_375_47, s_375_50, s_375_53, s_375_54, s_375_56, s_375_59, s_375_60, s_375_62, s_375_65, s_375_66, s_375_69, s_375_70, e_375, mv_i_1, mv_l_1, mv_a_1, mv_a_2, mv_a_3, mk2_n, mk2_i, mk2_l, mk2_a, mk2_u, mk2_x, mB_T, mB_F, mS_cons, mS_nil, mSB_T, mSB_F, mca_nil, mca_i, mca_l, mca_r, mca_u, mca_x, mcat_i, mcat_l, mcat_r, mcat_u, mcat_x, mK_some, mK_none, va_rf_s, va_rf_n, lgc_eq, lgc_lt, lgc_gt, lgc_ge, lgc_le, mrd_104, mrd_105, mrd_106, mrd_107, true_and, and_true, and_self, false_and, and_false, true_or, or_true, false_or, or_false, not_true_eq_false, not_false_eq_true, mgb, mga, mgr, mN, reduceCtorEq, ↓reduceIte, eq_self, ge_iff_le, gt_iff_lt, hk_si, hk_sj, hk_sr, hl_si, hl_sj, hl_sr, hn_si, hn_sj, hn_sr, hs_si, hs_sj, hs_sr, hi_sj, hi_sr, hj_si, hj_sr, hr_si, hr_sj, hi_si, hj_sj, hr_sr, mg_si, mg_sj, mg_sr, Nat.reduceAdd, Nat.reduceMul, Nat.reduceSub, Nat.reduceLT, Nat.reduceGT, Nat.reduceEqDiff, Nat.reduceLeDiff, Nat.left_eq_add, Nat.add_eq_left, Nat.reduceMod, Nat.reduceDiv, Nat.succ_ne_self, g, c373, kbT, e10, e00, t31, g3, l3, hn, c1, c2, c3, c4, s1, s2, c5, c6, nn_mxT, nn_clamp, decide_false, decide_true, Bool.false_and, Bool.true_and, Bool.and_true, Bool.and_false, kbF, forall_const, implies_true, false_implies, true_implies]
    · simp (disch := omega) only [s_375_0, s_375_1, s_375_2, s_375_5, s_375_8, s_375_9, s_375_12, s_375_13, s_375_14, s_375_17, s_375_18, s_375_19, s_375_22, s_375_24, s_375_27, s_375_29, s_375_30, s_375_33, s_375_34, s_375_35, s_375_38, s_375_39, s_375_42, s_375_45, s_375_47, s_375_50, s_375_53, s_375_54, s_375_56, s_375_59, s_375_60, s_375_62, s_375_65, s_375_66, s_375_69, s_375_70, e_375, mv_i_1, mv_l_1, mv_a_1, mv_a_2, mv_a_3, mk2_n, mk2_i, mk2_l, mk2_a, mk2_u, mk2_x, mB_T, mB_F, mS_cons, mS_nil, mSB_T, mSB_F, mca_nil, mca_i, mca_l, mca_r, mca_u, mca_x, mcat_i, mcat_l, mcat_r, mcat_u, mcat_x, mK_some, mK_none, va_rf_s, va_rf_n, lgc_eq, lgc_lt, lgc_gt, lgc_ge, lgc_le, mrd_104, mrd_105, mrd_106, mrd_107, true_and, and_true, and_self, false_and, and_false, true_or, or_true, false_or, or_false, not_true_eq_false, not_false_eq_true, mgb, mga, mgr, mN, reduceCtorEq, ↓reduceIte, eq_self, ge_iff_le, gt_iff_lt, hk_si, hk_sj, hk_sr, hl_si, hl_sj, hl_sr, hn_si, hn_sj, hn_sr, hs_si, hs_sj, hs_sr, hi_sj, hi_sr, hj_si, hj_sr, hr_si, hr_sj, hi_si, hj_sj, hr_sr, mg_si, mg_sj, mg_sr, Nat.reduceAdd, Nat.reduceMul, Nat.reduceSub, Nat.reduceLT, Nat.reduceGT, Nat.reduceEqDiff, Nat.reduceLeDiff, Nat.left_eq_add, Nat.add_eq_left, Nat.reduceMod, Nat.reduceDiv, Nat.succ_ne_self, g, c373, kbT, e10, e00, t31, g3, l3, hn, c1, c2, c3, c4, s1, c5, nn_mxT, nn_clamp, decide_false, decide_true, Bool.false_and, Bool.true_and, Bool.and_true, Bool.and_false, kbF, forall_const, implies_true, false_implies, true_implies]
theorem u_372 (F : RF h) (hq : q < 250) : ∀ Q, mcall d 372 [.ref 81, .int b, .int (Int32.ofNat q)] h Q = Q (some (.ref (kO b q))) h := fun Q => by
  have g := F.g 81 14 70 (by decide +kernel)
  have t52 := F.f 81 52 115 (by decide +kernel)
  have g5 := F.g 115 12 38 (by decide +kernel)
  have t4 := F.f 115 4 116 (by decide +kernel)
  have t5 := F.f 115 5 117 (by decide +kernel)
  have g6 := (F.g 116 106 250 (by decide +kernel)).1
  have g6' := (F.g 116 106 250 (by decide +kernel)).2
  have l6 := F.l 116 106 250 (by decide +kernel)
  have g7 := (F.g 117 106 250 (by decide +kernel)).1
  have g7' := (F.g 117 106 250 (by decide +kernel)).2
  have l7 := F.l 117 106 250 (by decide +kernel)
  obtain ⟨k1, k2, p3, p4⟩ := F.p q hq
  have gk := k1.1
  have gc := k2.1
  unfold kO
  clear F k1 k2
  rcases Classical.propComplete (b = 0) with c | c
  · rw [if_pos (of_eq_true c)]
    simp (disch := omega) only [s_372_0, s_372_1, s_372_4, s_372_5, s_372_8, s_372_11, s_372_12, s_372_13, s_372_16, s_372_17, s_372_20, s_372_23, s_372_24, s_372_25, s_372_25n, e_372, mv_i_1, mv_l_1, mv_a_1, mv_a_2, mv_a_3, mk2_n, mk2_i, mk2_l, mk2_a, mk2_u, mk2_x, mB_T, mB_F, mS_cons, mS_nil, mSB_T, mSB_F, mca_nil, mca_i, mca_l, mca_r, mca_u, mca_x, mcat_i, mcat_l, mcat_r, mcat_u, mcat_x, mK_some, mK_none, va_rf_s, va_rf_n, lgc_eq, lgc_lt, lgc_gt, lgc_ge, lgc_le, mrd_104, mrd_105, mrd_106, mrd_107, true_and, and_true, and_self, false_and, and_false, true_or, or_true, false_or, or_false, not_true_eq_false, not_false_eq_true, mgb, mga, mgr, mN, reduceCtorEq, ↓reduceIte, eq_self, ge_iff_le, gt_iff_lt, hk_si, hk_sj, hk_sr, hl_si, hl_sj, hl_sr, hn_si, hn_sj, hn_sr, hs_si, hs_sj, hs_sr, hi_sj, hi_sr, hj_si, hj_sr, hr_si, hr_sj, hi_si, hj_sj, hr_sr, mg_si, mg_sj, mg_sr, Nat.reduceAdd, Nat.reduceMul, Nat.reduceSub, Nat.reduceLT, Nat.reduceGT, Nat.reduceEqDiff, Nat.reduceLeDiff, Nat.left_eq_add, Nat.add_eq_left, Nat.reduceMod, Nat.reduceDiv, Nat.succ_ne_self, g, t52, g5, t4, g6, g6', l6, p3, gk, c, nn_mxT, nn_clamp]
  · rw [if_neg (of_eq_false c)]
    simp (disch := omega) only [s_372_0, s_372_1, s_372_4, s_372_5, s_372_8, s_372_11, s_372_12, s_372_13, s_372_16, s_372_17, s_372_20, s_372_23, s_372_24, s_372_25, s_372_25n, e_372, mv_i_1, mv_l_1, mv_a_1, mv_a_2, mv_a_3, mk2_n, mk2_i, mk2_l, mk2_a, mk2_u, mk2_x, mB_T, mB_F, mS_cons, mS_nil, mSB_T, mSB_F, mca_nil, mca_i, mca_l, mca_r, mca_u, mca_x, mcat_i, mcat_l, mcat_r, mcat_u, mcat_x, mK_some, mK_none, va_rf_s, va_rf_n, lgc_eq, lgc_lt, lgc_gt, lgc_ge, lgc_le, mrd_104, mrd_105, mrd_106, mrd_107, true_and, and_true, and_self, false_and, and_false, true_or, or_true, false_or, or_false, not_true_eq_false, not_false_eq_true, mgb, mga, mgr, mN, reduceCtorEq, ↓reduceIte, eq_self, ge_iff_le, gt_iff_lt, hk_si, hk_sj, hk_sr, hl_si, hl_sj, hl_sr, hn_si, hn_sj, hn_sr, hs_si, hs_sj, hs_sr, hi_sj, hi_sr, hj_si, hj_sr, hr_si, hr_sj, hi_si, hj_sj, hr_sr, mg_si, mg_sj, mg_sr, Nat.reduceAdd, Nat.reduceMul, Nat.reduceSub, Nat.reduceLT, Nat.reduceGT, Nat.reduceEqDiff, Nat.reduceLeDiff, Nat.left_eq_add, Nat.add_eq_left, Nat.reduceMod, Nat.reduceDiv, Nat.succ_ne_self, g, t52, g5, t5, g7, g7', l7, p4, gc, c, nn_mxT, nn_clamp]
/-- bound -/
theorem u_377 (F : RF h) (H : RPH h G cnt) (ks : ∀ q, q < cnt → RK h (kO b q) (st q)) (S : CSH G cnt st) : ∀ Q, mcall (d + 2) 377 [.ref 81, .int b, .int p, .int x, .int s, .int y, .int t] h Q = Q (some (.long (bdR G cnt st p x s y t))) h := fun Q => by
  have cb := H.b
  have c375 := u_375 (d := d) (p := p) (x := x) (s := s) (y := y) (t := t) F H
  have g := F.g 81 14 70 (by decide +kernel)
  have e00 : ((0 : Int32) = 0) = True := by decide
  have e10 : ((1 : Int32) = 0) = False := by decide
  unfold bdR
  cases ok : okB G cnt p x s y t with
  | false =>
    rw [ok] at c375
    rw [if_neg (by decide)]
    clear F H ks S
    simp (disch := omega) only [s_377_0, s_377_1, s_377_2, s_377_3, s_377_5, s_377_7, s_377_9, s_377_12, s_377_15, s_377_16, s_377_17, s_377_18, s_377_21, s_377_24, s_377_27, s_377_30, s_377_31, s_377_32, s_377_33, s_377_34, s_377_37, s_377_38, s_377_40, s_377_43, s_377_45, s_377_47, s_377_50, s_377_53, e_377, mv_i_1, mv_l_1, mv_a_1, mv_a_2, mv_a_3, mk2_n, mk2_i, mk2_l, mk2_a, mk2_u, mk2_x, mB_T, mB_F, mS_cons, mS_nil, mSB_T, mSB_F, mca_nil, mca_i, mca_l, mca_r, mca_u, mca_x, mcat_i, mcat_l, mcat_r, mcat_u, mcat_x, mK_some, mK_none, va_rf_s, va_rf_n, lgc_eq, lgc_lt, lgc_gt, lgc_ge, lgc_le, mrd_104, mrd_105, mrd_106, mrd_107, true_and, and_true, and_self, false_and, and_false, true_or, or_true, false_or, or_false, not_true_eq_false, not_false_eq_true, mgb, mga, mgr, mN, reduceCtorEq, ↓reduceIte, eq_self, ge_iff_le, gt_iff_lt, hk_si, hk_sj, hk_sr, hl_si, hl_sj, hl_sr, hn_si, hn_sj, hn_sr, hs_si, hs_sj, hs_sr, hi_sj, hi_sr, hj_si, hj_sr, hr_si, hr_sj, hi_si, hj_sj, hr_sr, mg_si, mg_sj, mg_sr, Nat.reduceAdd, Nat.reduceMul, Nat.reduceSub, Nat.reduceLT, Nat.reduceGT, Nat.reduceEqDiff, Nat.reduceLeDiff, Nat.left_eq_add, Nat.add_eq_left, Nat.reduceMod, Nat.reduceDiv, Nat.succ_ne_self, g, c375, kbF, e00]
  | true =>
    rw [ok] at c375
    rw [if_pos rfl]
    have ok' := ok
    unfold okB at ok'
    rw [Bool.and_eq_true] at ok'
    obtain ⟨o1, o2⟩ := ok'
    obtain ⟨q, hq, ep, eq⟩ := okP_n (by omega) o1
    obtain ⟨-, hn2⟩ := H.n q hq
    rw [eq] at o2 ⊢
    obtain ⟨k, l, hk, hl, ex, ey, hs, ht, hv, hw, hvw⟩ := okT_n (by omega) o2
    have ca := u_376 (d := d + 1) (h := h) hs (k := k) (by omega) ex
    have cb' := u_376 (d := d + 1) (h := h) ht (k := l) (by omega) ey
    obtain ⟨v, ev⟩ : ∃ v, sgx x s = v := ⟨_, rfl⟩
    obtain ⟨w, ew⟩ : ∃ w, sgx y t = w := ⟨_, rfl⟩
    rw [ev] at ca hv ⊢
    rw [ew] at cb' hw ⊢
    have r := ks q hq
    have c372 := u_372 (d := d + 1) (b := b) F (by omega : q < 250)
    have gO := (RK_ko r).1
    subst ep
    cases ec : st q with
    | none =>
      rw [ec] at r
      have z : mh_i h (kO b q) 0 = 1 := KN.z r
      clear F H ks S r
      simp (disch := omega) only [s_377_0, s_377_1, s_377_2, s_377_3, s_377_5, s_377_7, s_377_9, s_377_12, s_377_15, s_377_16, s_377_17, s_377_18, s_377_21, s_377_24, s_377_27, s_377_30, s_377_31, s_377_32, s_377_33, s_377_34, s_377_37, s_377_38, s_377_40, s_377_43, s_377_45, s_377_47, s_377_50, s_377_53, e_377, mv_i_1, mv_l_1, mv_a_1, mv_a_2, mv_a_3, mk2_n, mk2_i, mk2_l, mk2_a, mk2_u, mk2_x, mB_T, mB_F, mS_cons, mS_nil, mSB_T, mSB_F, mca_nil, mca_i, mca_l, mca_r, mca_u, mca_x, mcat_i, mcat_l, mcat_r, mcat_u, mcat_x, mK_some, mK_none, va_rf_s, va_rf_n, lgc_eq, lgc_lt, lgc_gt, lgc_ge, lgc_le, mrd_104, mrd_105, mrd_106, mrd_107, true_and, and_true, and_self, false_and, and_false, true_or, or_true, false_or, or_false, not_true_eq_false, not_false_eq_true, mgb, mga, mgr, mN, reduceCtorEq, ↓reduceIte, eq_self, ge_iff_le, gt_iff_lt, hk_si, hk_sj, hk_sr, hl_si, hl_sj, hl_sr, hn_si, hn_sj, hn_sr, hs_si, hs_sj, hs_sr, hi_sj, hi_sr, hj_si, hj_sr, hr_si, hr_sj, hi_si, hj_sj, hr_sr, mg_si, mg_sj, mg_sr, Nat.reduceAdd, Nat.reduceMul, Nat.reduceSub, Nat.reduceLT, Nat.reduceGT, Nat.reduceEqDiff, Nat.reduceLeDiff, Nat.left_eq_add, Nat.add_eq_left, Nat.reduceMod, Nat.reduceDiv, Nat.succ_ne_self, g, c375, kbT, e10, c372, gO, z]
    | some A =>
      rw [ec] at r
      obtain ⟨T, n1, -, -⟩ := S q hq A ec
      have z : mh_i h (kO b q) 0 = 0 := KM.z r
      obtain ⟨g', eg, c282⟩ := k_282 (d := d) r T.t (i := v) (j := w) (by omega) (by omega)
      have eg' : Int64.ofInt (a_gr A v w) = g' := by rw [← eg, cl_ofI]
      show _ = Q (some (.long (Int64.ofInt (a_gr A v w)))) h
      rw [eg']
      clear F H ks S r T eg eg'
      simp (disch := omega) only [s_377_0, s_377_1, s_377_2, s_377_3, s_377_5, s_377_7, s_377_9, s_377_12, s_377_15, s_377_16, s_377_17, s_377_18, s_377_21, s_377_24, s_377_27, s_377_30, s_377_31, s_377_32, s_377_33, s_377_34, s_377_37, s_377_38, s_377_40, s_377_43, s_377_45, s_377_47, s_377_50, s_377_53, e_377, mv_i_1, mv_l_1, mv_a_1, mv_a_2, mv_a_3, mk2_n, mk2_i, mk2_l, mk2_a, mk2_u, mk2_x, mB_T, mB_F, mS_cons, mS_nil, mSB_T, mSB_F, mca_nil, mca_i, mca_l, mca_r, mca_u, mca_x, mcat_i, mcat_l, mcat_r, mcat_u, mcat_x, mK_some, mK_none, va_rf_s, va_rf_n, lgc_eq, lgc_lt, lgc_gt, lgc_ge, lgc_le, mrd_104, mrd_105, mrd_106, mrd_107, true_and, and_true, and_self, false_and, and_false, true_or, or_true, false_or, or_false, not_true_eq_false, not_false_eq_true, mgb, mga, mgr, mN, reduceCtorEq, ↓reduceIte, eq_self, ge_iff_le, gt_iff_lt, hk_si, hk_sj, hk_sr, hl_si, hl_sj, hl_sr, hn_si, hn_sj, hn_sr, hs_si, hs_sj, hs_sr, hi_sj, hi_sr, hj_si, hj_sr, hr_si, hr_sj, hi_si, hj_sj, hr_sr, mg_si, mg_sj, mg_sr, Nat.reduceAdd, Nat.reduceMul, Nat.reduceSub, Nat.reduceLT, Nat.reduceGT, Nat.reduceEqDiff, Nat.reduceLeDiff, Nat.left_eq_add, Nat.add_eq_left, Nat.reduceMod, Nat.reduceDiv, Nat.succ_ne_self, g, c375, kbT, e10, e00, c372, gO, z, ca, cb', c282]
/-- range -/
theorem u_378 (F : RF h) (H : RPH h G cnt) (ks : ∀ q, q < cnt → RK h (kO b q) (st q)) (S : CSH G cnt st) {a g : Int32} : ∀ Q, mcall (d + 2) 378 [.ref 81, .int b, .int p, .int a, .int g] h Q = Q (some (.long (rgR G cnt st p a g))) h := fun Q => by
  have cb := H.b
  have c373 := u_373 (d := d + 1) (p := p) F H
  have g1 := F.g 81 14 70 (by decide +kernel)
  have t32 := F.f 81 32 104 (by decide +kernel)
  have g4 := F.g 104 100 250 (by decide +kernel)
  have l4 := F.l 104 100 250 (by decide +kernel)
  have e00 : ((0 : Int32) = 0) = True := by decide
  have e10 : ((1 : Int32) = 0) = False := by decide
  unfold rgR okA
  cases ok : okP cnt p with
  | false =>
    rw [ok] at c373
    rw [Bool.false_and, if_neg (by decide)]
    clear F H ks S
    simp (disch := omega) only [s_378_0, s_378_1, s_378_2, s_378_5, s_378_8, s_378_9, s_378_12, s_378_13, s_378_14, s_378_17, s_378_18, s_378_19, s_378_22, s_378_23, s_378_24, s_378_25, s_378_28, s_378_31, s_378_34, s_378_37, s_378_38, s_378_40, s_378_43, s_378_44, s_378_45, s_378_46, s_378_49, s_378_52, s_378_53, s_378_54, s_378_57, s_378_58, s_378_59, s_378_60, s_378_63, s_378_66, s_378_67, s_378_68, e_378, mv_i_1, mv_l_1, mv_a_1, mv_a_2, mv_a_3, mk2_n, mk2_i, mk2_l, mk2_a, mk2_u, mk2_x, mB_T, mB_F, mS_cons, mS_nil, mSB_T, mSB_F, mca_nil, mca_i, mca_l, mca_r, mca_u, mca_x, mcat_i, mcat_l, mcat_r, mcat_u, mcat_x, mK_some, mK_none, va_rf_s, va_rf_n, lgc_eq, lgc_lt, lgc_gt, lgc_ge, lgc_le, mrd_104, mrd_105, mrd_106, mrd_107, true_and, and_true, and_self, false_and, and_false, true_or, or_true, false_or, or_false, not_true_eq_false, not_false_eq_true, mgb, mga, mgr, mN, reduceCtorEq, ↓reduceIte, eq_self, ge_iff_le, gt_iff_lt, hk_si, hk_sj, hk_sr, hl_si, hl_sj, hl_sr, hn_si, hn_sj, hn_sr, hs_si, hs_sj, hs_sr, hi_sj, hi_sr, hj_si, hj_sr, hr_si, hr_sj, hi_si, hj_sj, hr_sr, mg_si, mg_sj, mg_sr, Nat.reduceAdd, Nat.reduceMul, Nat.reduceSub, Nat.reduceLT, Nat.reduceGT, Nat.reduceEqDiff, Nat.reduceLeDiff, Nat.left_eq_add, Nat.add_eq_left, Nat.reduceMod, Nat.reduceDiv, Nat.succ_ne_self, g1, c373, kbF, e00]
  | true =>
    rw [ok] at c373
    rw [Bool.true_and]
    obtain ⟨q, hq, ep, eq⟩ := okP_n (by omega) ok
    obtain ⟨ha, ha2⟩ := H.a q hq
    rw [eq]
    have r := ks q hq
    have c372 := u_372 (d := d + 1) (b := b) F (by omega : q < 250)
    have s0 := RK_ko r
    unfold ko at s0
    obtain ⟨gO, -, -, -, r4, gL, lL, r5, gH, lH, -⟩ := s0
    subst ep
    cases ok2 : okP (G.a q) a with
    | false =>
      rw [if_neg (by decide)]
      unfold okP at ok2
      have ok3 := of_decide_eq_false ok2
      by_cases c1 : a < 0
      · clear F H ks S r ok2 ok3
        simp (disch := omega) only [s_378_0, s_378_1, s_378_2, s_378_5, s_378_8, s_378_9, s_378_12, s_378_13, s_378_14, s_378_17, s_378_18, s_378_19, s_378_22, s_378_23, s_378_24, s_378_25, s_378_28, s_378_31, s_378_34, s_378_37, s_378_38, s_378_40, s_378_43, s_378_44, s_378_45, s_378_46, s_378_49, s_378_52, s_378_53, s_378_54, s_378_57, s_378_58, s_378_59, s_378_60, s_378_63, s_378_66, s_378_67, s_378_68, e_378, mv_i_1, mv_l_1, mv_a_1, mv_a_2, mv_a_3, mk2_n, mk2_i, mk2_l, mk2_a, mk2_u, mk2_x, mB_T, mB_F, mS_cons, mS_nil, mSB_T, mSB_F, mca_nil, mca_i, mca_l, mca_r, mca_u, mca_x, mcat_i, mcat_l, mcat_r, mcat_u, mcat_x, mK_some, mK_none, va_rf_s, va_rf_n, lgc_eq, lgc_lt, lgc_gt, lgc_ge, lgc_le, mrd_104, mrd_105, mrd_106, mrd_107, true_and, and_true, and_self, false_and, and_false, true_or, or_true, false_or, or_false, not_true_eq_false, not_false_eq_true, mgb, mga, mgr, mN, reduceCtorEq, ↓reduceIte, eq_self, ge_iff_le, gt_iff_lt, hk_si, hk_sj, hk_sr, hl_si, hl_sj, hl_sr, hn_si, hn_sj, hn_sr, hs_si, hs_sj, hs_sr, hi_sj, hi_sr, hj_si, hj_sr, hr_si, hr_sj, hi_si, hj_sj, hr_sr, mg_si, mg_sj, mg_sr, Nat.reduceAdd, Nat.reduceMul, Nat.reduceSub, Nat.reduceLT, Nat.reduceGT, Nat.reduceEqDiff, Nat.reduceLeDiff, Nat.left_eq_add, Nat.add_eq_left, Nat.reduceMod, Nat.reduceDiv, Nat.succ_ne_self, g1, c373, kbT, e10, t32, g4, l4, ha, c1, nn_mxT, nn_clamp]
      · have c2 : Int32.ofNat (G.a q) ≤ a := Classical.byContradiction (fun z => ok3 ⟨c1, z⟩)
        clear F H ks S r ok2 ok3
        simp (disch := omega) only [s_378_0, s_378_1, s_378_2, s_378_5, s_378_8, s_378_9, s_378_12, s_378_13, s_378_14, s_378_17, s_378_18, s_378_19, s_378_22, s_378_23, s_378_24, s_378_25, s_378_28, s_378_31, s_378_34, s_378_37, s_378_38, s_378_40, s_378_43, s_378_44, s_378_45, s_378_46, s_378_49, s_378_52, s_378_53, s_378_54, s_378_57, s_378_58, s_378_59, s_378_60, s_378_63, s_378_66, s_378_67, s_378_68, e_378, mv_i_1, mv_l_1, mv_a_1, mv_a_2, mv_a_3, mk2_n, mk2_i, mk2_l, mk2_a, mk2_u, mk2_x, mB_T, mB_F, mS_cons, mS_nil, mSB_T, mSB_F, mca_nil, mca_i, mca_l, mca_r, mca_u, mca_x, mcat_i, mcat_l, mcat_r, mcat_u, mcat_x, mK_some, mK_none, va_rf_s, va_rf_n, lgc_eq, lgc_lt, lgc_gt, lgc_ge, lgc_le, mrd_104, mrd_105, mrd_106, mrd_107, true_and, and_true, and_self, false_and, and_false, true_or, or_true, false_or, or_false, not_true_eq_false, not_false_eq_true, mgb, mga, mgr, mN, reduceCtorEq, ↓reduceIte, eq_self, ge_iff_le, gt_iff_lt, hk_si, hk_sj, hk_sr, hl_si, hl_sj, hl_sr, hn_si, hn_sj, hn_sr, hs_si, hs_sj, hs_sr, hi_sj, hi_sr, hj_si, hj_sr, hr_si, hr_sj, hi_si, hj_sj, hr_sr, mg_si, mg_sj, mg_sr, Nat.reduceAdd, Nat.reduceMul, Nat.reduceSub, Nat.reduceLT, Nat.reduceGT, Nat.reduceEqDiff, Nat.reduceLeDiff, Nat.left_eq_add, Nat.add_eq_left, Nat.reduceMod, Nat.reduceDiv, Nat.succ_ne_self, g1, c373, kbT, e10, t32, g4, l4, ha, c1, c2, nn_mxT, nn_clamp]
    | true =>
      rw [if_pos rfl]
      obtain ⟨k, hk, ea, ea'⟩ := okP_n (by omega) ok2
      have c12 : ¬ a < 0 ∧ ¬ Int32.ofNat (G.a q) ≤ a := by unfold okP at ok2; exact of_decide_eq_true ok2
      obtain ⟨c1, c2⟩ := c12
      rw [ea']
      subst ea
      cases ec : st q with
      | none =>
        rw [ec] at r
        have z : mh_i h (kO b q) 0 = 1 := KN.z r
        clear F H ks S r ok2
        simp (disch := omega) only [s_378_0, s_378_1, s_378_2, s_378_5, s_378_8, s_378_9, s_378_12, s_378_13, s_378_14, s_378_17, s_378_18, s_378_19, s_378_22, s_378_23, s_378_24, s_378_25, s_378_28, s_378_31, s_378_34, s_378_37, s_378_38, s_378_40, s_378_43, s_378_44, s_378_45, s_378_46, s_378_49, s_378_52, s_378_53, s_378_54, s_378_57, s_378_58, s_378_59, s_378_60, s_378_63, s_378_66, s_378_67, s_378_68, e_378, mv_i_1, mv_l_1, mv_a_1, mv_a_2, mv_a_3, mk2_n, mk2_i, mk2_l, mk2_a, mk2_u, mk2_x, mB_T, mB_F, mS_cons, mS_nil, mSB_T, mSB_F, mca_nil, mca_i, mca_l, mca_r, mca_u, mca_x, mcat_i, mcat_l, mcat_r, mcat_u, mcat_x, mK_some, mK_none, va_rf_s, va_rf_n, lgc_eq, lgc_lt, lgc_gt, lgc_ge, lgc_le, mrd_104, mrd_105, mrd_106, mrd_107, true_and, and_true, and_self, false_and, and_false, true_or, or_true, false_or, or_false, not_true_eq_false, not_false_eq_true, mgb, mga, mgr, mN, reduceCtorEq, ↓reduceIte, eq_self, ge_iff_le, gt_iff_lt, hk_si, hk_sj, hk_sr, hl_si, hl_sj, hl_sr, hn_si, hn_sj, hn_sr, hs_si, hs_sj, hs_sr, hi_sj, hi_sr, hj_si, hj_sr, hr_si, hr_sj, hi_si, hj_sj, hr_sr, mg_si, mg_sj, mg_sr, Nat.reduceAdd, Nat.reduceMul, Nat.reduceSub, Nat.reduceLT, Nat.reduceGT, Nat.reduceEqDiff, Nat.reduceLeDiff, Nat.left_eq_add, Nat.add_eq_left, Nat.reduceMod, Nat.reduceDiv, Nat.succ_ne_self, g1, c373, kbT, e10, t32, g4, l4, ha, c1, c2, c372, gO, z, nn_mxT, nn_clamp]
      | some A =>
        rw [ec] at r
        obtain ⟨-, n1, a1, -⟩ := S q hq A ec
        have z : mh_i h (kO b q) 0 = 0 := KM.z r
        have m1 := KM.lo r k (by omega)
        have m2 := KM.hi r k (by omega)
        show _ = Q (some (.long (Int64.ofInt (if g = 0 then A.lo k else A.hi k)))) h
        rw [← m1, ← m2]
        clear F H ks S r m1 m2 ok2
        rcases Classical.propComplete (g = 0) with c | c
        · rw [if_pos (of_eq_true c), cl_ofI]
          simp (disch := omega) only [s_378_0, s_378_1, s_378_2, s_378_5, s_378_8, s_378_9, s_378_12, s_378_13, s_378_14, s_378_17, s_378_18, s_378_19, s_378_22, s_378_23, s_378_24, s_378_25, s_378_28, s_378_31, s_378_34, s_378_37, s_378_38, s_378_40, s_378_43, s_378_44, s_378_45, s_378_46, s_378_49, s_378_52, s_378_53, s_378_54, s_378_57, s_378_58, s_378_59, s_378_60, s_378_63, s_378_66, s_378_67, s_378_68, e_378, mv_i_1, mv_l_1, mv_a_1, mv_a_2, mv_a_3, mk2_n, mk2_i, mk2_l, mk2_a, mk2_u, mk2_x, mB_T, mB_F, mS_cons, mS_nil, mSB_T, mSB_F, mca_nil, mca_i, mca_l, mca_r, mca_u, mca_x, mcat_i, mcat_l, mcat_r, mcat_u, mcat_x, mK_some, mK_none, va_rf_s, va_rf_n, lgc_eq, lgc_lt, lgc_gt, lgc_ge, lgc_le, mrd_104, mrd_105, mrd_106, mrd_107, true_and, and_true, and_self, false_and, and_false, true_or, or_true, false_or, or_false, not_true_eq_false, not_false_eq_true, mgb, mga, mgr, mN, reduceCtorEq, ↓reduceIte, eq_self, ge_iff_le, gt_iff_lt, hk_si, hk_sj, hk_sr, hl_si, hl_sj, hl_sr, hn_si, hn_sj, hn_sr, hs_si, hs_sj, hs_sr, hi_sj, hi_sr, hj_si, hj_sr, hr_si, hr_sj, hi_si, hj_sj, hr_sr, mg_si, mg_sj, mg_sr, Nat.reduceAdd, Nat.reduceMul, Nat.reduceSub, Nat.reduceLT, Nat.reduceGT, Nat.reduceEqDiff, Nat.reduceLeDiff, Nat.left_eq_add, Nat.add_eq_left, Nat.reduceMod, Nat.reduceDiv, Nat.succ_ne_self, g1, c373, kbT, e10, e00, t32, g4, l4, ha, c1, c2, c372, gO, z, r4, gL, lL, c, nn_mxT, nn_clamp]
        · rw [if_neg (of_eq_false c), cl_ofI]
          simp (disch := omega) only [s_378_0, s_378_1, s_378_2, s_378_5, s_378_8, s_378_9, s_378_12, s_378_13, s_378_14, s_378_17, s_378_18, s_378_19, s_378_22, s_378_23, s_378_24, s_378_25, s_378_28, s_378_31, s_378_34, s_378_37, s_378_38, s_378_40, s_378_43, s_378_44, s_378_45, s_378_46, s_378_49, s_378_52, s_378_53, s_378_54, s_378_57, s_378_58, s_378_59, s_378_60, s_378_63, s_378_66, s_378_67, s_378_68, e_378, mv_i_1, mv_l_1, mv_a_1, mv_a_2, mv_a_3, mk2_n, mk2_i, mk2_l, mk2_a, mk2_u, mk2_x, mB_T, mB_F, mS_cons, mS_nil, mSB_T, mSB_F, mca_nil, mca_i, mca_l, mca_r, mca_u, mca_x, mcat_i, mcat_l, mcat_r, mcat_u, mcat_x, mK_some, mK_none, va_rf_s, va_rf_n, lgc_eq, lgc_lt, lgc_gt, lgc_ge, lgc_le, mrd_104, mrd_105, mrd_106, mrd_107, true_and, and_true, and_self, false_and, and_false, true_or, or_true, false_or, or_false, not_true_eq_false, not_false_eq_true, mgb, mga, mgr, mN, reduceCtorEq, ↓reduceIte, eq_self, ge_iff_le, gt_iff_lt, hk_si, hk_sj, hk_sr, hl_si, hl_sj, hl_sr, hn_si, hn_sj, hn_sr, hs_si, hs_sj, hs_sr, hi_sj, hi_sr, hj_si, hj_sr, hr_si, hr_sj, hi_si, hj_sj, hr_sr, mg_si, mg_sj, mg_sr, Nat.reduceAdd, Nat.reduceMul, Nat.reduceSub, Nat.reduceLT, Nat.reduceGT, Nat.reduceEqDiff, Nat.reduceLeDiff, Nat.left_eq_add, Nat.add_eq_left, Nat.reduceMod, Nat.reduceDiv, Nat.succ_ne_self, g1, c373, kbT, e10, e00, t32, g4, l4, ha, c1, c2, c372, gO, z, r5, gH, lH, c, nn_mxT, nn_clamp]
end RCs
