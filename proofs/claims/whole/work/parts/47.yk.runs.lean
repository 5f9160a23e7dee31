set_option maxRecDepth 100000
/-! the class's run, whole -/
section RMs
variable {d : Nat} {h h1 : mh_H} {Y C E TT UU SC SP nC nE nS pa gv cnt : Nat} {G : pgm} {J : pin} {kn cl : Nat → Option ab} {fst oth : Nat → Nat} {al : Nat → Int32} {m tru ca : Bool}
theorem v_208n (k : Int32) (hk : k < 0 ∨ 2000 < k) : ∀ Q, mcall d 208 [.ref 0, .int k] h Q = Q (some (.int (-1))) h := fun Q => by
  rcases Classical.propComplete (k < 0) with c | c
  · simp (disch := omega) only [e_208, s_208_0, s_208_1, s_208_4, s_208_5, s_208_8, s_208_11, s_208_12, s_208_13, s_208_14, s_208_17, s_208_20, s_208_21, s_208_24, s_208_25, s_208_28, s_208_29, s_208_32, s_208_33, s_208_34, s_208_35, s_208_38, s_208_39, s_208_40, s_208_43, s_208_44, s_208_47, s_208_48, s_208_51, s_208_54, s_208_55, s_208_58, e_208, mv_i_1, mv_l_1, mv_a_1, mv_a_2, mv_a_3, mk2_n, mk2_i, mk2_l, mk2_a, mk2_u, mk2_x, mB_T, mB_F, mS_cons, mS_nil, mSB_T, mSB_F, mca_nil, mca_i, mca_l, mca_r, mca_u, mca_x, mcat_i, mcat_l, mcat_r, mcat_u, mcat_x, mK_some, mK_none, va_rf_s, va_rf_n, lgc_eq, lgc_lt, lgc_gt, lgc_ge, lgc_le, mrd_104, mrd_105, mrd_106, mrd_107, true_and, and_true, and_self, false_and, and_false, true_or, or_true, false_or, or_false, not_true_eq_false, not_false_eq_true, mgb, mga, mgr, mN, reduceCtorEq, ↓reduceIte, eq_self, ge_iff_le, gt_iff_lt, hk_si, hk_sj, hk_sr, hl_si, hl_sj, hl_sr, hn_si, hn_sj, hn_sr, hs_si, hs_sj, hs_sr, hi_sj, hi_sr, hj_si, hj_sr, hr_si, hr_sj, hi_si, hj_sj, hr_sr, mg_si, mg_sj, mg_sr, Nat.reduceAdd, Nat.reduceMul, Nat.reduceSub, Nat.reduceLT, Nat.reduceGT, Nat.reduceEqDiff, Nat.reduceLeDiff, Nat.left_eq_add, Nat.add_eq_left, Nat.reduceMod, Nat.reduceDiv, Nat.succ_ne_self, c]
  · have l : (k ≤ 2000) = False := eq_false (fun z => by
      rcases hk with y | y
      · exact of_eq_false c y
      · exact absurd (Int32.lt_of_lt_of_le y z) (by decide))
    simp (disch := omega) only [e_208, s_208_0, s_208_1, s_208_4, s_208_5, s_208_8, s_208_11, s_208_12, s_208_13, s_208_14, s_208_17, s_208_20, s_208_21, s_208_24, s_208_25, s_208_28, s_208_29, s_208_32, s_208_33, s_208_34, s_208_35, s_208_38, s_208_39, s_208_40, s_208_43, s_208_44, s_208_47, s_208_48, s_208_51, s_208_54, s_208_55, s_208_58, e_208, mv_i_1, mv_l_1, mv_a_1, mv_a_2, mv_a_3, mk2_n, mk2_i, mk2_l, mk2_a, mk2_u, mk2_x, mB_T, mB_F, mS_cons, mS_nil, mSB_T, mSB_F, mca_nil, mca_i, mca_l, mca_r, mca_u, mca_x, mcat_i, mcat_l, mcat_r, mcat_u, mcat_x, mK_some, mK_none, va_rf_s, va_rf_n, lgc_eq, lgc_lt, lgc_gt, lgc_ge, lgc_le, mrd_104, mrd_105, mrd_106, mrd_107, true_and, and_true, and_self, false_and, and_false, true_or, or_true, false_or, or_false, not_true_eq_false, not_false_eq_true, mgb, mga, mgr, mN, reduceCtorEq, ↓reduceIte, eq_self, ge_iff_le, gt_iff_lt, hk_si, hk_sj, hk_sr, hl_si, hl_sj, hl_sr, hn_si, hn_sj, hn_sr, hs_si, hs_sj, hs_sr, hi_sj, hi_sr, hj_si, hj_sr, hr_si, hr_sj, hi_si, hj_sj, hr_sr, mg_si, mg_sj, mg_sr, Nat.reduceAdd, Nat.reduceMul, Nat.reduceSub, Nat.reduceLT, Nat.reduceGT, Nat.reduceEqDiff, Nat.reduceLeDiff, Nat.left_eq_add, Nat.add_eq_left, Nat.reduceMod, Nat.reduceDiv, Nat.succ_ne_self, c, l]
theorem v_208 (S : SHN G J cnt fst oth) (B : BS h Y C E TT UU SC SP nC nE nS) (z0 : G.n 0 = 0 ∧ G.a 0 = 0) {k : Nat} (hk : k ≤ 2000) (f10 : mh_i h 0 10 = kb ca) {v : Int32} (c0 : ca = false → h1 = h) (c1 : ca = true → ∀ Q, mcall (d + 7) 204 [.ref 0] h Q = Q (some (.int v)) h1) (et : tru = (ca && decide (v = -1))) (R : CRI h1 Y C E TT UU SC SP nC nE nS pa G J cnt gv kn cl fst oth al m) {V P : Nat → Int32} {s : rst} (es : s = rgo (sJ G J (mh_i h1 68) gv) fst oth m tru kn cl al (cnt - 1) k (0, 0, V, P, mh_i h1 67 9 + ar m tru (kn 0) (cl 0) V P, 0, 0)) : ∃ h', fG gdW h1 h' ∧ CRS h' G gv s ∧ s.p < cnt ∧ ∀ Q, mcall (d + 8) 208 [.ref 0, .int (Int32.ofNat k)] h Q = Q (some (.int (rAn (cnt - 1) s))) h' := by
  obtain ⟨h', f', T', p', run'⟩ := v_28 (d := d + 1) (tru := tru) S R z0 hk (V := V) (P := P)
  rw [← es] at T' p'
  rw [← es] at run'
  refine ⟨h', f', T', p', fun Q => ?_⟩
  have g := B.F.g 0 11 15 (by decide +kernel)
  have F1 := R.B.F
  have g1 := F1.g 0 11 15 (by decide +kernel)
  have t5 := F1.f 0 5 67 (by decide +kernel)
  have t4 := F1.f 0 4 53 (by decide +kernel)
  have t6 := F1.f 0 6 73 (by decide +kernel)
  have g67 := F1.g 67 2 13 (by decide +kernel)
  have n0 : (Int32.ofNat k < 0) = False := nn_neg (by omega)
  have l2 : (Int32.ofNat k ≤ 2000) = True := eq_true (by
    have e : (2000 : Int32) = Int32.ofNat 2000 := rfl
    rw [e, nn_le (by omega) (by omega)]; exact hk)
  have e00 : ((0 : Int32) = 0) = True := by decide
  have e10 : ((1 : Int32) = 0) = False := by decide
  clear B F1 R S T' f' es
  cases ca with
  | false =>
    have ef : tru = false := by rw [et]; rfl
    have h0 := c0 rfl
    have f10' : mh_i h 0 10 = 0 := f10
    subst h0
    rw [ef, if_neg (by decide)] at run'
    simp (disch := omega) only [e_208, s_208_0, s_208_1, s_208_4, s_208_5, s_208_8, s_208_11, s_208_12, s_208_13, s_208_14, s_208_17, s_208_20, s_208_21, s_208_24, s_208_25, s_208_28, s_208_29, s_208_32, s_208_33, s_208_34, s_208_35, s_208_38, s_208_39, s_208_40, s_208_43, s_208_44, s_208_47, s_208_48, s_208_51, s_208_54, s_208_55, s_208_58, e_208, mv_i_1, mv_l_1, mv_a_1, mv_a_2, mv_a_3, mk2_n, mk2_i, mk2_l, mk2_a, mk2_u, mk2_x, mB_T, mB_F, mS_cons, mS_nil, mSB_T, mSB_F, mca_nil, mca_i, mca_l, mca_r, mca_u, mca_x, mcat_i, mcat_l, mcat_r, mcat_u, mcat_x, mK_some, mK_none, va_rf_s, va_rf_n, lgc_eq, lgc_lt, lgc_gt, lgc_ge, lgc_le, mrd_104, mrd_105, mrd_106, mrd_107, true_and, and_true, and_self, false_and, and_false, true_or, or_true, false_or, or_false, not_true_eq_false, not_false_eq_true, mgb, mga, mgr, mN, reduceCtorEq, ↓reduceIte, eq_self, ge_iff_le, gt_iff_lt, hk_si, hk_sj, hk_sr, hl_si, hl_sj, hl_sr, hn_si, hn_sj, hn_sr, hs_si, hs_sj, hs_sr, hi_sj, hi_sr, hj_si, hj_sr, hr_si, hr_sj, hi_si, hj_sj, hr_sr, mg_si, mg_sj, mg_sr, Nat.reduceAdd, Nat.reduceMul, Nat.reduceSub, Nat.reduceLT, Nat.reduceGT, Nat.reduceEqDiff, Nat.reduceLeDiff, Nat.left_eq_add, Nat.add_eq_left, Nat.reduceMod, Nat.reduceDiv, Nat.succ_ne_self, g, n0, l2, f10', e00, t5, t4, g67, run']
  | true =>
    have f10' : mh_i h 0 10 = 1 := f10
    have run := c1 rfl
    rcases Classical.propComplete (v = -1) with cv | cv
    · have ef : tru = true := by rw [et, of_eq_true cv]; rfl
      rw [ef, if_pos rfl] at run'
      simp (disch := omega) only [e_208, s_208_0, s_208_1, s_208_4, s_208_5, s_208_8, s_208_11, s_208_12, s_208_13, s_208_14, s_208_17, s_208_20, s_208_21, s_208_24, s_208_25, s_208_28, s_208_29, s_208_32, s_208_33, s_208_34, s_208_35, s_208_38, s_208_39, s_208_40, s_208_43, s_208_44, s_208_47, s_208_48, s_208_51, s_208_54, s_208_55, s_208_58, e_208, mv_i_1, mv_l_1, mv_a_1, mv_a_2, mv_a_3, mk2_n, mk2_i, mk2_l, mk2_a, mk2_u, mk2_x, mB_T, mB_F, mS_cons, mS_nil, mSB_T, mSB_F, mca_nil, mca_i, mca_l, mca_r, mca_u, mca_x, mcat_i, mcat_l, mcat_r, mcat_u, mcat_x, mK_some, mK_none, va_rf_s, va_rf_n, lgc_eq, lgc_lt, lgc_gt, lgc_ge, lgc_le, mrd_104, mrd_105, mrd_106, mrd_107, true_and, and_true, and_self, false_and, and_false, true_or, or_true, false_or, or_false, not_true_eq_false, not_false_eq_true, mgb, mga, mgr, mN, reduceCtorEq, ↓reduceIte, eq_self, ge_iff_le, gt_iff_lt, hk_si, hk_sj, hk_sr, hl_si, hl_sj, hl_sr, hn_si, hn_sj, hn_sr, hs_si, hs_sj, hs_sr, hi_sj, hi_sr, hj_si, hj_sr, hr_si, hr_sj, hi_si, hj_sj, hr_sr, mg_si, mg_sj, mg_sr, Nat.reduceAdd, Nat.reduceMul, Nat.reduceSub, Nat.reduceLT, Nat.reduceGT, Nat.reduceEqDiff, Nat.reduceLeDiff, Nat.left_eq_add, Nat.add_eq_left, Nat.reduceMod, Nat.reduceDiv, Nat.succ_ne_self, g, n0, l2, f10', e10, run, cv, g1, t5, t4, t6, g67, run']
    · have ef : tru = false := by rw [et, decide_eq_false (of_eq_false cv)]; rfl
      rw [ef, if_neg (by decide)] at run'
      simp (disch := omega) only [e_208, s_208_0, s_208_1, s_208_4, s_208_5, s_208_8, s_208_11, s_208_12, s_208_13, s_208_14, s_208_17, s_208_20, s_208_21, s_208_24, s_208_25, s_208_28, s_208_29, s_208_32, s_208_33, s_208_34, s_208_35, s_208_38, s_208_39, s_208_40, s_208_43, s_208_44, s_208_47, s_208_48, s_208_51, s_208_54, s_208_55, s_208_58, e_208, mv_i_1, mv_l_1, mv_a_1, mv_a_2, mv_a_3, mk2_n, mk2_i, mk2_l, mk2_a, mk2_u, mk2_x, mB_T, mB_F, mS_cons, mS_nil, mSB_T, mSB_F, mca_nil, mca_i, mca_l, mca_r, mca_u, mca_x, mcat_i, mcat_l, mcat_r, mcat_u, mcat_x, mK_some, mK_none, va_rf_s, va_rf_n, lgc_eq, lgc_lt, lgc_gt, lgc_ge, lgc_le, mrd_104, mrd_105, mrd_106, mrd_107, true_and, and_true, and_self, false_and, and_false, true_or, or_true, false_or, or_false, not_true_eq_false, not_false_eq_true, mgb, mga, mgr, mN, reduceCtorEq, ↓reduceIte, eq_self, ge_iff_le, gt_iff_lt, hk_si, hk_sj, hk_sr, hl_si, hl_sj, hl_sr, hn_si, hn_sj, hn_sr, hs_si, hs_sj, hs_sr, hi_sj, hi_sr, hj_si, hj_sr, hr_si, hr_sj, hi_si, hj_sj, hr_sr, mg_si, mg_sj, mg_sr, Nat.reduceAdd, Nat.reduceMul, Nat.reduceSub, Nat.reduceLT, Nat.reduceGT, Nat.reduceEqDiff, Nat.reduceLeDiff, Nat.left_eq_add, Nat.add_eq_left, Nat.reduceMod, Nat.reduceDiv, Nat.succ_ne_self, g, n0, l2, f10', e10, e00, run, cv, g1, t5, t4, g67, run']
end RMs
