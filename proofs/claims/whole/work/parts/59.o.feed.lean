set_option maxRecDepth 100000
/-! feed of the reference -/
def fdR (F n : Nat) (b j : Nat) : Prop := (b = 82 ∧ F ≤ j ∧ j < F + n) ∨ (b = 81 ∧ j = 2)
section FRs
variable {d F0 i : Nat} {h h1 : mh_H} {w1 w2 w3 w4 w5 : Int32}
theorem sh_by (w : Int32) (r : Nat) (hr : r < 4) : (w >>> ((24 - 8 * Int32.ofNat r) &&& 31)) &&& 255 = byW w r := by
  have : r = 0 ∨ r = 1 ∨ r = 2 ∨ r = 3 := by omega
  unfold byW
  rcases this with e | e | e | e <;> subst e
  · rw [show ((24 : Int32) - 8 * Int32.ofNat 0) &&& 31 = 24 from by decide, if_pos rfl]
  · rw [show ((24 : Int32) - 8 * Int32.ofNat 1) &&& 31 = 16 from by decide, if_neg (by decide), if_pos rfl]
  · rw [show ((24 : Int32) - 8 * Int32.ofNat 2) &&& 31 = 8 from by decide, if_neg (by decide), if_neg (by decide), if_pos rfl]
  · rw [show ((24 : Int32) - 8 * Int32.ofNat 3) &&& 31 = 0 from by decide, if_neg (by decide), if_neg (by decide), if_neg (by decide)]
theorem rm_4 (hi : i < 100) : Int32.ofNat i - Int32.ofNat i / 4 * 4 = Int32.ofNat (i % 4) := by
  have e1 : Int32.ofNat i / 4 = Int32.ofNat (i / 4) := nn_div (a := i) (c := 4) (by omega) (by decide)
  have e2 : Int32.ofNat (i / 4) * 4 = Int32.ofNat (i / 4 * 4) := nn_mul (a := i / 4) (b := 4)
  rw [e1, e2, nn_sub (by omega), show i - i / 4 * 4 = i % 4 from by omega]
theorem t_301 (F : RF h) (e2 : mh_i h 81 2 = Int32.ofNat F0) (hF : F0 < 16400) (hi : i < 20) : ∃ h', fG (fdR F0 1) h h' ∧ RF h' ∧ mh_i h' 81 2 = Int32.ofNat (F0 + 1) ∧ mh_i h' 82 F0 = byW (wdA w1 w2 w3 w4 w5 i) (i % 4) ∧ ∀ Q x7, mw d 301 Q 18 [some (.ref 81), some (.int w1), some (.int w2), some (.int w3), some (.int w4), some (.int w5), some (.int (Int32.ofNat i)), x7] [] h = mw d 301 Q 18 [some (.ref 81), some (.int w1), some (.int w2), some (.int w3), some (.int w4), some (.int w5), some (.int (Int32.ofNat (i + 1))), some (.int (wdA w1 w2 w3 w4 w5 i))] [] h' := by
  have g := F.g 81 14 70 (by decide +kernel)
  have r82 := F.f 81 1 82 (by decide +kernel)
  have g82 := F.g 82 100 16400 (by decide +kernel)
  have l82 := F.l 82 100 16400 (by decide +kernel)
  have e1' : Int32.ofNat F0 + 1 = Int32.ofNat (F0 + 1) := nn_add (a := F0) (b := 1)
  have ei : Int32.ofNat i + 1 = Int32.ofNat (i + 1) := nn_add (a := i) (b := 1)
  have er := rm_4 (i := i) (by omega)
  have es := fun w => sh_by w (i % 4) (by omega)
  have n40 : ((4 : Int32) = 0) = False := by decide
  have lt : ∀ k, k < 100 → (Int32.ofNat k ≤ Int32.ofNat i) = (k ≤ i) := fun k hk => nn_le (by omega) (by omega)
  have l20 : ((20 : Int32) ≤ Int32.ofNat i) = False := (lt 20 (by omega)).trans (eq_false (by omega))
  have fr : fG (fdR F0 1) h (mh_si (mh_si h 82 F0 (byW (wdA w1 w2 w3 w4 w5 i) (i % 4))) 81 2 (Int32.ofNat (F0 + 1))) := fG_t (fG_si (Or.inl ⟨rfl, Nat.le_refl _, by omega⟩)) (fG_si (Or.inr ⟨rfl, rfl⟩))
  refine ⟨_, fr, RF_G fr F, by rw [hi_si, if_pos ⟨rfl, rfl⟩], by rw [hi_si, if_neg (by omega), hi_si, if_pos ⟨rfl, rfl⟩], fun Q x7 => ?_⟩
  clear F fr
  by_cases c4 : i < 4
  · have l4 : ((4 : Int32) ≤ Int32.ofNat i) = False := (lt 4 (by omega)).trans (eq_false (by omega))
    have ew : wdA w1 w2 w3 w4 w5 i = w1 := if_pos c4
    rw [ew, s_301_18]
    simp (disch := omega) only [s_301_0, s_301_1, s_301_4, s_301_6, s_301_7, s_301_10, s_301_13, s_301_14, s_301_15, s_301_16, s_301_20, s_301_22, s_301_25, s_301_27, s_301_28, s_301_31, s_301_32, s_301_35, s_301_37, s_301_39, s_301_42, s_301_43, s_301_46, s_301_48, s_301_50, s_301_53, s_301_54, s_301_57, s_301_59, s_301_61, s_301_64, s_301_66, s_301_69, s_301_71, s_301_73, s_301_74, s_301_77, s_301_78, s_301_81, s_301_83, s_301_85, s_301_87, s_301_89, s_301_90, s_301_91, s_301_92, s_301_93, s_301_94, s_301_97, s_301_98, s_301_99, s_301_100, s_301_101, s_301_104, s_301_105, s_301_106, s_301_109, s_301_112, s_301_115, s_301_116, s_301_119, e_301, mv_i_1, mv_l_1, mv_a_1, mv_a_2, mv_a_3, mk2_n, mk2_i, mk2_l, mk2_a, mk2_u, mk2_x, mB_T, mB_F, mS_cons, mS_nil, mSB_T, mSB_F, mca_nil, mca_i, mca_l, mca_r, mca_u, mca_x, mcat_i, mcat_l, mcat_r, mcat_u, mcat_x, mK_some, mK_none, va_rf_s, va_rf_n, lgc_eq, lgc_lt, lgc_gt, lgc_ge, lgc_le, mrd_104, mrd_105, mrd_106, mrd_107, true_and, and_true, and_self, false_and, and_false, true_or, or_true, false_or, or_false, not_true_eq_false, not_false_eq_true, mgb, mga, mgr, mN, reduceCtorEq, ↓reduceIte, eq_self, ge_iff_le, gt_iff_lt, hk_si, hk_sj, hk_sr, hl_si, hl_sj, hl_sr, hn_si, hn_sj, hn_sr, hs_si, hs_sj, hs_sr, hi_sj, hi_sr, hj_si, hj_sr, hr_si, hr_sj, hi_si, hj_sj, hr_sr, mg_si, mg_sj, mg_sr, Nat.reduceAdd, Nat.reduceMul, Nat.reduceSub, Nat.reduceLT, Nat.reduceGT, Nat.reduceEqDiff, Nat.reduceLeDiff, Nat.left_eq_add, Nat.add_eq_left, Nat.reduceMod, Nat.reduceDiv, Nat.succ_ne_self, l20, l4, g, r82, g82, l82, e2, n40, er, es, e1', ei, nn_mxT, nn_clamp]
  have l4 : ((4 : Int32) ≤ Int32.ofNat i) = True := (lt 4 (by omega)).trans (eq_true (by omega))
  by_cases c8 : i < 8
  · have l8 : ((8 : Int32) ≤ Int32.ofNat i) = False := (lt 8 (by omega)).trans (eq_false (by omega))
    have ew : wdA w1 w2 w3 w4 w5 i = w2 := by unfold wdA; rw [if_neg c4, if_pos c8]
    rw [ew, s_301_18]
    simp (disch := omega) only [s_301_0, s_301_1, s_301_4, s_301_6, s_301_7, s_301_10, s_301_13, s_301_14, s_301_15, s_301_16, s_301_20, s_301_22, s_301_25, s_301_27, s_301_28, s_301_31, s_301_32, s_301_35, s_301_37, s_301_39, s_301_42, s_301_43, s_301_46, s_301_48, s_301_50, s_301_53, s_301_54, s_301_57, s_301_59, s_301_61, s_301_64, s_301_66, s_301_69, s_301_71, s_301_73, s_301_74, s_301_77, s_301_78, s_301_81, s_301_83, s_301_85, s_301_87, s_301_89, s_301_90, s_301_91, s_301_92, s_301_93, s_301_94, s_301_97, s_301_98, s_301_99, s_301_100, s_301_101, s_301_104, s_301_105, s_301_106, s_301_109, s_301_112, s_301_115, s_301_116, s_301_119, e_301, mv_i_1, mv_l_1, mv_a_1, mv_a_2, mv_a_3, mk2_n, mk2_i, mk2_l, mk2_a, mk2_u, mk2_x, mB_T, mB_F, mS_cons, mS_nil, mSB_T, mSB_F, mca_nil, mca_i, mca_l, mca_r, mca_u, mca_x, mcat_i, mcat_l, mcat_r, mcat_u, mcat_x, mK_some, mK_none, va_rf_s, va_rf_n, lgc_eq, lgc_lt, lgc_gt, lgc_ge, lgc_le, mrd_104, mrd_105, mrd_106, mrd_107, true_and, and_true, and_self, false_and, and_false, true_or, or_true, false_or, or_false, not_true_eq_false, not_false_eq_true, mgb, mga, mgr, mN, reduceCtorEq, ↓reduceIte, eq_self, ge_iff_le, gt_iff_lt, hk_si, hk_sj, hk_sr, hl_si, hl_sj, hl_sr, hn_si, hn_sj, hn_sr, hs_si, hs_sj, hs_sr, hi_sj, hi_sr, hj_si, hj_sr, hr_si, hr_sj, hi_si, hj_sj, hr_sr, mg_si, mg_sj, mg_sr, Nat.reduceAdd, Nat.reduceMul, Nat.reduceSub, Nat.reduceLT, Nat.reduceGT, Nat.reduceEqDiff, Nat.reduceLeDiff, Nat.left_eq_add, Nat.add_eq_left, Nat.reduceMod, Nat.reduceDiv, Nat.succ_ne_self, l20, l4, l8, g, r82, g82, l82, e2, n40, er, es, e1', ei, nn_mxT, nn_clamp]
  have l8 : ((8 : Int32) ≤ Int32.ofNat i) = True := (lt 8 (by omega)).trans (eq_true (by omega))
  by_cases c12 : i < 12
  · have l12 : ((12 : Int32) ≤ Int32.ofNat i) = False := (lt 12 (by omega)).trans (eq_false (by omega))
    have ew : wdA w1 w2 w3 w4 w5 i = w3 := by unfold wdA; rw [if_neg c4, if_neg c8, if_pos c12]
    rw [ew, s_301_18]
    simp (disch := omega) only [s_301_0, s_301_1, s_301_4, s_301_6, s_301_7, s_301_10, s_301_13, s_301_14, s_301_15, s_301_16, s_301_20, s_301_22, s_301_25, s_301_27, s_301_28, s_301_31, s_301_32, s_301_35, s_301_37, s_301_39, s_301_42, s_301_43, s_301_46, s_301_48, s_301_50, s_301_53, s_301_54, s_301_57, s_301_59, s_301_61, s_301_64, s_301_66, s_301_69, s_301_71, s_301_73, s_301_74, s_301_77, s_301_78, s_301_81, s_301_83, s_301_85, s_301_87, s_301_89, s_301_90, s_301_91, s_301_92, s_301_93, s_301_94, s_301_97, s_301_98, s_301_99, s_301_100, s_301_101, s_301_104, s_301_105, s_301_106, s_301_109, s_301_112, s_301_115, s_301_116, s_301_119, e_301, mv_i_1, mv_l_1, mv_a_1, mv_a_2, mv_a_3, mk2_n, mk2_i, mk2_l, mk2_a, mk2_u, mk2_x, mB_T, mB_F, mS_cons, mS_nil, mSB_T, mSB_F, mca_nil, mca_i, mca_l, mca_r, mca_u, mca_x, mcat_i, mcat_l, mcat_r, mcat_u, mcat_x, mK_some, mK_none, va_rf_s, va_rf_n, lgc_eq, lgc_lt, lgc_gt, lgc_ge, lgc_le, mrd_104, mrd_105, mrd_106, mrd_107, true_and, and_true, and_self, false_and, and_false, true_or, or_true, false_or, or_false, not_true_eq_false, not_false_eq_true, mgb, mga, mgr, mN, reduceCtorEq, ↓reduceIte, eq_self, ge_iff_le, gt_iff_lt, hk_si, hk_sj, hk_sr, hl_si, hl_sj, hl_sr, hn_si, hn_sj, hn_sr, hs_si, hs_sj, hs_sr, hi_sj, hi_sr, hj_si, hj_sr, hr_si, hr_sj, hi_si, hj_sj, hr_sr, mg_si, mg_sj, mg_sr, Nat.reduceAdd, Nat.reduceMul, Nat.reduceSub, Nat.reduceLT, Nat.reduceGT, Nat.reduceEqDiff, Nat.reduceLeDiff, Nat.left_eq_add, Nat.add_eq_left, Nat.reduceMod, Nat.reduceDiv, Nat.succ_ne_self, l20, l4, l8, l12, g, r82, g82, l82, e2, n40, er, es, e1', ei, nn_mxT, nn_clamp]
  have l12 : ((12 : Int32) ≤ Int32.ofNat i) = True := (lt 12 (by omega)).trans (eq_true (by omega))
  by_cases c16 : i < 16
  · have l16 : ((16 : Int32) ≤ Int32.ofNat i) = False := (lt 16 (by omega)).trans (eq_false (by omega))
    have ew : wdA w1 w2 w3 w4 w5 i = w4 := by unfold wdA; rw [if_neg c4, if_neg c8, if_neg c12, if_pos c16]
    rw [ew, s_301_18]
    simp (disch := omega) only [s_301_0, s_301_1, s_301_4, s_301_6, s_301_7, s_301_10, s_301_13, s_301_14, s_301_15, s_301_16, s_301_20, s_301_22, s_301_25, s_301_27, s_301_28, s_301_31, s_301_32, s_301_35, s_301_37, s_301_39, s_301_42, s_301_43, s_301_46, s_301_48, s_301_50, s_301_53, s_301_54, s_301_57, s_301_59, s_301_61, s_301_64, s_301_66, s_301_69, s_301_71, s_301_73, s_301_74, s_301_77, s_301_78, s_301_81, s_301_83, s_301_85, s_301_87, s_301_89, s_301_90, s_301_91, s_301_92, s_301_93, s_301_94, s_301_97, s_301_98, s_301_99, s_301_100, s_301_101, s_301_104, s_301_105, s_301_106, s_301_109, s_301_112, s_301_115, s_301_116, s_301_119, e_301, mv_i_1, mv_l_1, mv_a_1, mv_a_2, mv_a_3, mk2_n, mk2_i, mk2_l, mk2_a, mk2_u, mk2_x, mB_T, mB_F, mS_cons, mS_nil, mSB_T, mSB_F, mca_nil, mca_i, mca_l, mca_r, mca_u, mca_x, mcat_i, mcat_l, mcat_r, mcat_u, mcat_x, mK_some, mK_none, va_rf_s, va_rf_n, lgc_eq, lgc_lt, lgc_gt, lgc_ge, lgc_le, mrd_104, mrd_105, mrd_106, mrd_107, true_and, and_true, and_self, false_and, and_false, true_or, or_true, false_or, or_false, not_true_eq_false, not_false_eq_true, mgb, mga, mgr, mN, reduceCtorEq, ↓reduceIte, eq_self, ge_iff_le, gt_iff_lt, hk_si, hk_sj, hk_sr, hl_si, hl_sj, hl_sr, hn_si, hn_sj, hn_sr, hs_si, hs_sj, hs_sr, hi_sj, hi_sr, hj_si, hj_sr, hr_si, hr_sj, hi_si, hj_sj, hr_sr, mg_si, mg_sj, mg_sr, Nat.reduceAdd, Nat.reduceMul, Nat.reduceSub, Nat.reduceLT, Nat.reduceGT, Nat.reduceEqDiff, Nat.reduceLeDiff, Nat.left_eq_add, Nat.add_eq_left, Nat.reduceMod, Nat.reduceDiv, Nat.succ_ne_self, l20, l4, l8, l12, l16, g, r82, g82, l82, e2, n40, er, es, e1', ei, nn_mxT, nn_clamp]
  have l16 : ((16 : Int32) ≤ Int32.ofNat i) = True := (lt 16 (by omega)).trans (eq_true (by omega))
  have ew : wdA w1 w2 w3 w4 w5 i = w5 := by unfold wdA; rw [if_neg c4, if_neg c8, if_neg c12, if_neg c16]
  rw [ew, s_301_18]
  simp (disch := omega) only [s_301_0, s_301_1, s_301_4, s_301_6, s_301_7, s_301_10, s_301_13, s_301_14, s_301_15, s_301_16, s_301_20, s_301_22, s_301_25, s_301_27, s_301_28, s_301_31, s_301_32, s_301_35, s_301_37, s_301_39, s_301_42, s_301_43, s_301_46, s_301_48, s_301_50, s_301_53, s_301_54, s_301_57, s_301_59, s_301_61, s_301_64, s_301_66, s_301_69, s_301_71, s_301_73, s_301_74, s_301_77, s_301_78, s_301_81, s_301_83, s_301_85, s_301_87, s_301_89, s_301_90, s_301_91, s_301_92, s_301_93, s_301_94, s_301_97, s_301_98, s_301_99, s_301_100, s_301_101, s_301_104, s_301_105, s_301_106, s_301_109, s_301_112, s_301_115, s_301_116, s_301_119, e_301, mv_i_1, mv_l_1, mv_a_1, mv_a_2, mv_a_3, mk2_n, mk2_i, mk2_l, mk2_a, mk2_u, mk2_x, mB_T, mB_F, mS_cons, mS_nil, mSB_T, mSB_F, mca_nil, mca_i, mca_l, mca_r, mca_u, mca_x, mcat_i, mcat_l, mcat_r, mcat_u, mcat_x, mK_some, mK_none, va_rf_s, va_rf_n, lgc_eq, lgc_lt, lgc_gt, lgc_ge, lgc_le, mrd_104, mrd_105, mrd_106, mrd_107, true_and, and_true, and_self, false_and, and_false, true_or, or_true, false_or, or_false, not_true_eq_false, not_false_eq_true, mgb, mga, mgr, mN, reduceCtorEq, ↓reduceIte, eq_self, ge_iff_le, gt_iff_lt, hk_si, hk_sj, hk_sr, hl_si, hl_sj, hl_sr, hn_si, hn_sj, hn_sr, hs_si, hs_sj, hs_sr, hi_sj, hi_sr, hj_si, hj_sr, hr_si, hr_sj, hi_si, hj_sj, hr_sr, mg_si, mg_sj, mg_sr, Nat.reduceAdd, Nat.reduceMul, Nat.reduceSub, Nat.reduceLT, Nat.reduceGT, Nat.reduceEqDiff, Nat.reduceLeDiff, Nat.left_eq_add, Nat.add_eq_left, Nat.reduceMod, Nat.reduceDiv, Nat.succ_ne_self, l20, l4, l8, l12, l16, g, r82, g82, l82, e2, n40, er, es, e1', ei, nn_mxT, nn_clamp]
theorem l_301 : ∀ f i h F0 x7, i + f = 20 → RF h → mh_i h 81 2 = Int32.ofNat F0 → F0 + f ≤ 16400 → ∃ h', fG (fdR F0 f) h h' ∧ RF h' ∧ mh_i h' 81 2 = Int32.ofNat (F0 + f) ∧ (∀ k, k < f → mh_i h' 82 (F0 + k) = byW (wdA w1 w2 w3 w4 w5 (i + k)) ((i + k) % 4)) ∧ ∀ Q, mw d 301 Q 18 [some (.ref 81), some (.int w1), some (.int w2), some (.int w3), some (.int w4), some (.int w5), some (.int (Int32.ofNat i)), x7] [] h = Q (some (.int (Int32.ofNat (F0 + f)))) h' := by
  intro f
  induction f with
  | zero =>
    intro i h F0 x7 hi F e2 _
    refine ⟨h, ⟨rfl, rfl, rfl, rfl, rfl, fun _ _ _ => ⟨rfl, rfl⟩⟩, F, e2, fun k hk => absurd hk (Nat.not_lt_zero _), fun Q => ?_⟩
    have g := F.g 81 14 70 (by decide +kernel)
    have e20 : i = 20 := by omega
    subst e20
    have l20 : ((20 : Int32) ≤ Int32.ofNat 20) = True := by decide
    clear F
    rw [s_301_18]
    simp (disch := omega) only [s_301_0, s_301_1, s_301_4, s_301_6, s_301_7, s_301_10, s_301_13, s_301_14, s_301_15, s_301_16, s_301_20, s_301_22, s_301_25, s_301_27, s_301_28, s_301_31, s_301_32, s_301_35, s_301_37, s_301_39, s_301_42, s_301_43, s_301_46, s_301_48, s_301_50, s_301_53, s_301_54, s_301_57, s_301_59, s_301_61, s_301_64, s_301_66, s_301_69, s_301_71, s_301_73, s_301_74, s_301_77, s_301_78, s_301_81, s_301_83, s_301_85, s_301_87, s_301_89, s_301_90, s_301_91, s_301_92, s_301_93, s_301_94, s_301_97, s_301_98, s_301_99, s_301_100, s_301_101, s_301_104, s_301_105, s_301_106, s_301_109, s_301_112, s_301_115, s_301_116, s_301_119, e_301, mv_i_1, mv_l_1, mv_a_1, mv_a_2, mv_a_3, mk2_n, mk2_i, mk2_l, mk2_a, mk2_u, mk2_x, mB_T, mB_F, mS_cons, mS_nil, mSB_T, mSB_F, mca_nil, mca_i, mca_l, mca_r, mca_u, mca_x, mcat_i, mcat_l, mcat_r, mcat_u, mcat_x, mK_some, mK_none, va_rf_s, va_rf_n, lgc_eq, lgc_lt, lgc_gt, lgc_ge, lgc_le, mrd_104, mrd_105, mrd_106, mrd_107, true_and, and_true, and_self, false_and, and_false, true_or, or_true, false_or, or_false, not_true_eq_false, not_false_eq_true, mgb, mga, mgr, mN, reduceCtorEq, ↓reduceIte, eq_self, ge_iff_le, gt_iff_lt, hk_si, hk_sj, hk_sr, hl_si, hl_sj, hl_sr, hn_si, hn_sj, hn_sr, hs_si, hs_sj, hs_sr, hi_sj, hi_sr, hj_si, hj_sr, hr_si, hr_sj, hi_si, hj_sj, hr_sr, mg_si, mg_sj, mg_sr, Nat.reduceAdd, Nat.reduceMul, Nat.reduceSub, Nat.reduceLT, Nat.reduceGT, Nat.reduceEqDiff, Nat.reduceLeDiff, Nat.left_eq_add, Nat.add_eq_left, Nat.reduceMod, Nat.reduceDiv, Nat.succ_ne_self, l20, g, e2]
    rfl
  | succ f ih =>
    intro i h F0 x7 hi F e2 hF
    obtain ⟨h1, a1, a2, a3, a4, a5⟩ := t_301 (d := d) (w1 := w1) (w2 := w2) (w3 := w3) (w4 := w4) (w5 := w5) (i := i) F e2 (by omega) (by omega)
    obtain ⟨h', b1, b2, b3, b4, b5⟩ := ih (i + 1) h1 (F0 + 1) (some (.int (wdA w1 w2 w3 w4 w5 i))) (by omega) a2 a3 (by omega)
    refine ⟨h', fG_t (fG_sub a1 (fun b j z => by unfold fdR at z ⊢; omega)) (fG_sub b1 (fun b j z => by unfold fdR at z ⊢; omega)), b2, by rw [b3, show F0 + 1 + f = F0 + (f + 1) from by omega], fun k hk => ?_, fun Q => ?_⟩
    · cases k with
      | zero =>
        rw [(b1.2.2.2.2.2 82 (F0 + 0) (by unfold fdR; omega)).1]
        exact a4
      | succ k =>
        have := b4 k (by omega)
        rw [show F0 + 1 + k = F0 + (k + 1) from by omega, show i + 1 + k = i + (k + 1) from by omega] at this
        exact this
    · rw [a5 Q x7, b5 Q, show F0 + 1 + f = F0 + (f + 1) from by omega]
theorem u_301 (F : RF h) (e2 : mh_i h 81 2 = Int32.ofNat F0) (hF : F0 + 20 ≤ 16400) : ∃ h', fG (fdR F0 20) h h' ∧ mh_i h' 81 2 = Int32.ofNat (F0 + 20) ∧ (∀ i, i < 20 → mh_i h' 82 (F0 + i) = byW (wdA w1 w2 w3 w4 w5 i) (i % 4)) ∧ ∀ Q, mcall d 301 [.ref 81, .int w1, .int w2, .int w3, .int w4, .int w5] h Q = Q (some (.int (Int32.ofNat (F0 + 20)))) h' := by
  obtain ⟨h', a1, a2, a3, a4, a5⟩ := l_301 (d := d) (w1 := w1) (w2 := w2) (w3 := w3) (w4 := w4) (w5 := w5) 20 0 h F0 none rfl F e2 hF
  refine ⟨h', a1, a3, fun i hi => ?_, fun Q => ?_⟩
  · have := a4 i hi
    rw [Nat.zero_add] at this
    exact this
  · rw [← a5 Q]
    have g := F.g 81 14 70 (by decide +kernel)
    have e20 : Int32.ofNat F0 + 20 = Int32.ofNat (F0 + 20) := nn_add (a := F0) (b := 20)
    have le : (Int32.ofNat (F0 + 20) ≤ 16400) = True := by rw [show (16400 : Int32) = Int32.ofNat 16400 from rfl, nn_le (by omega) (by omega)]; exact eq_true (by omega)
    rw [show Int32.ofNat 0 = 0 from rfl]
    clear F a1 a2 a3 a4 a5
    simp (disch := omega) only [e_301, s_301_0, s_301_1, s_301_4, s_301_6, s_301_7, s_301_10, s_301_13, s_301_14, s_301_15, s_301_16, s_301_20, s_301_22, s_301_25, s_301_27, s_301_28, s_301_31, s_301_32, s_301_35, s_301_37, s_301_39, s_301_42, s_301_43, s_301_46, s_301_48, s_301_50, s_301_53, s_301_54, s_301_57, s_301_59, s_301_61, s_301_64, s_301_66, s_301_69, s_301_71, s_301_73, s_301_74, s_301_77, s_301_78, s_301_81, s_301_83, s_301_85, s_301_87, s_301_89, s_301_90, s_301_91, s_301_92, s_301_93, s_301_94, s_301_97, s_301_98, s_301_99, s_301_100, s_301_101, s_301_104, s_301_105, s_301_106, s_301_109, s_301_112, s_301_115, s_301_116, s_301_119, e_301, mv_i_1, mv_l_1, mv_a_1, mv_a_2, mv_a_3, mk2_n, mk2_i, mk2_l, mk2_a, mk2_u, mk2_x, mB_T, mB_F, mS_cons, mS_nil, mSB_T, mSB_F, mca_nil, mca_i, mca_l, mca_r, mca_u, mca_x, mcat_i, mcat_l, mcat_r, mcat_u, mcat_x, mK_some, mK_none, va_rf_s, va_rf_n, lgc_eq, lgc_lt, lgc_gt, lgc_ge, lgc_le, mrd_104, mrd_105, mrd_106, mrd_107, true_and, and_true, and_self, false_and, and_false, true_or, or_true, false_or, or_false, not_true_eq_false, not_false_eq_true, mgb, mga, mgr, mN, reduceCtorEq, ↓reduceIte, eq_self, ge_iff_le, gt_iff_lt, hk_si, hk_sj, hk_sr, hl_si, hl_sj, hl_sr, hn_si, hn_sj, hn_sr, hs_si, hs_sj, hs_sr, hi_sj, hi_sr, hj_si, hj_sr, hr_si, hr_sj, hi_si, hj_sj, hr_sr, mg_si, mg_sj, mg_sr, Nat.reduceAdd, Nat.reduceMul, Nat.reduceSub, Nat.reduceLT, Nat.reduceGT, Nat.reduceEqDiff, Nat.reduceLeDiff, Nat.left_eq_add, Nat.add_eq_left, Nat.reduceMod, Nat.reduceDiv, Nat.succ_ne_self, g, e2, e20, le]
theorem u_301n (F : RF h) (e2 : mh_i h 81 2 = Int32.ofNat F0) (hF : 16400 < F0 + 20) (hF2 : F0 ≤ 16400) : ∀ Q, mcall d 301 [.ref 81, .int w1, .int w2, .int w3, .int w4, .int w5] h Q = Q (some (.int (-1))) h := fun Q => by
  have g := F.g 81 14 70 (by decide +kernel)
  have e20 : Int32.ofNat F0 + 20 = Int32.ofNat (F0 + 20) := nn_add (a := F0) (b := 20)
  have le : (Int32.ofNat (F0 + 20) ≤ 16400) = False := by rw [show (16400 : Int32) = Int32.ofNat 16400 from rfl, nn_le (by omega) (by omega)]; exact eq_false (by omega)
  clear F
  simp (disch := omega) only [e_301, s_301_0, s_301_1, s_301_4, s_301_6, s_301_7, s_301_10, s_301_13, s_301_14, s_301_15, s_301_16, s_301_20, s_301_22, s_301_25, s_301_27, s_301_28, s_301_31, s_301_32, s_301_35, s_301_37, s_301_39, s_301_42, s_301_43, s_301_46, s_301_48, s_301_50, s_301_53, s_301_54, s_301_57, s_301_59, s_301_61, s_301_64, s_301_66, s_301_69, s_301_71, s_301_73, s_301_74, s_301_77, s_301_78, s_301_81, s_301_83, s_301_85, s_301_87, s_301_89, s_301_90, s_301_91, s_301_92, s_301_93, s_301_94, s_301_97, s_301_98, s_301_99, s_301_100, s_301_101, s_301_104, s_301_105, s_301_106, s_301_109, s_301_112, s_301_115, s_301_116, s_301_119, e_301, mv_i_1, mv_l_1, mv_a_1, mv_a_2, mv_a_3, mk2_n, mk2_i, mk2_l, mk2_a, mk2_u, mk2_x, mB_T, mB_F, mS_cons, mS_nil, mSB_T, mSB_F, mca_nil, mca_i, mca_l, mca_r, mca_u, mca_x, mcat_i, mcat_l, mcat_r, mcat_u, mcat_x, mK_some, mK_none, va_rf_s, va_rf_n, lgc_eq, lgc_lt, lgc_gt, lgc_ge, lgc_le, mrd_104, mrd_105, mrd_106, mrd_107, true_and, and_true, and_self, false_and, and_false, true_or, or_true, false_or, or_false, not_true_eq_false, not_false_eq_true, mgb, mga, mgr, mN, reduceCtorEq, ↓reduceIte, eq_self, ge_iff_le, gt_iff_lt, hk_si, hk_sj, hk_sr, hl_si, hl_sj, hl_sr, hn_si, hn_sj, hn_sr, hs_si, hs_sj, hs_sr, hi_sj, hi_sr, hj_si, hj_sr, hr_si, hr_sj, hi_si, hj_sj, hr_sr, mg_si, mg_sj, mg_sr, Nat.reduceAdd, Nat.reduceMul, Nat.reduceSub, Nat.reduceLT, Nat.reduceGT, Nat.reduceEqDiff, Nat.reduceLeDiff, Nat.left_eq_add, Nat.add_eq_left, Nat.reduceMod, Nat.reduceDiv, Nat.succ_ne_self, g, e2, e20, le]
end FRs
