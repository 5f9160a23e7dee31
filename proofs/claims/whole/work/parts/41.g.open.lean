set_option maxRecDepth 100000
/-! Analysis.openBlocks -/
section OBs
variable {d : Nat} {h : mh_H} {Y C E TT UU SC SP nC nE nS : Nat} {G : pgm} {cnt k p : Nat}
def obU (k b j : Nat) : Prop := (b = 53 ∧ j = 9) ∨ ((b = 59 ∨ b = 60 ∨ b = 65 ∨ b = 66) ∧ j = k)
def obV (k b j : Nat) : Prop := (b = 61 ∨ b = 62 ∨ b = 63 ∨ b = 64) ∧ j = k
theorem c_166 {St kd : Nat} (g : mg h St 9) (s0 : mh_i h St 0 = Int32.ofNat kd) (hk : kd ≤ 8) : ∀ Q, mcall d 166 [.ref St] h Q = Q (some (.int (kb (decide (kd = 5 ∨ kd = 6))))) h := fun Q => by
  have e5 : (5 : Int32) = Int32.ofNat 5 := rfl
  have e6 : (6 : Int32) = Int32.ofNat 6 := rfl
  have i5 : (Int32.ofNat kd = 5) = (kd = 5) := by rw [e5, nn_eq (by omega) (by omega)]
  have i6 : (Int32.ofNat kd = 6) = (kd = 6) := by rw [e6, nn_eq (by omega) (by omega)]
  by_cases c5 : kd = 5
  · have w : decide (kd = 5 ∨ kd = 6) = true := decide_eq_true (Or.inl c5)
    have c5' : (kd = 5) = True := eq_true c5
    rw [w]
    simp (disch := omega) only [s_166_0, s_166_1, s_166_4, s_166_5, s_166_8, s_166_9, s_166_12, s_166_14, s_166_17, s_166_18, s_166_21, s_166_22, e_166, mv_i_1, mv_l_1, mv_a_1, mv_a_2, mv_a_3, mk2_n, mk2_i, mk2_l, mk2_a, mk2_u, mk2_x, mB_T, mB_F, mS_cons, mS_nil, mSB_T, mSB_F, mca_nil, mca_i, mca_l, mca_r, mca_u, mca_x, mcat_i, mcat_l, mcat_r, mcat_u, mcat_x, mK_some, mK_none, va_rf_s, va_rf_n, lgc_eq, lgc_lt, lgc_gt, lgc_ge, lgc_le, mrd_104, mrd_105, mrd_106, mrd_107, true_and, and_true, and_self, false_and, and_false, true_or, or_true, false_or, or_false, not_true_eq_false, not_false_eq_true, mgb, mga, mgr, mN, reduceCtorEq, ↓reduceIte, eq_self, ge_iff_le, gt_iff_lt, hk_si, hk_sj, hk_sr, hl_si, hl_sj, hl_sr, hn_si, hn_sj, hn_sr, hs_si, hs_sj, hs_sr, hi_sj, hi_sr, hj_si, hj_sr, hr_si, hr_sj, hi_si, hj_sj, hr_sr, mg_si, mg_sj, mg_sr, Nat.reduceAdd, Nat.reduceMul, Nat.reduceSub, Nat.reduceLT, Nat.reduceGT, Nat.reduceEqDiff, Nat.reduceLeDiff, Nat.left_eq_add, Nat.add_eq_left, Nat.reduceMod, Nat.reduceDiv, Nat.succ_ne_self, g, s0, i5, c5', kb]
  · have c5' : (kd = 5) = False := eq_false c5
    by_cases c6 : kd = 6
    · have w : decide (kd = 5 ∨ kd = 6) = true := decide_eq_true (Or.inr c6)
      have c6' : (kd = 6) = True := eq_true c6
      rw [w]
      simp (disch := omega) only [s_166_0, s_166_1, s_166_4, s_166_5, s_166_8, s_166_9, s_166_12, s_166_14, s_166_17, s_166_18, s_166_21, s_166_22, e_166, mv_i_1, mv_l_1, mv_a_1, mv_a_2, mv_a_3, mk2_n, mk2_i, mk2_l, mk2_a, mk2_u, mk2_x, mB_T, mB_F, mS_cons, mS_nil, mSB_T, mSB_F, mca_nil, mca_i, mca_l, mca_r, mca_u, mca_x, mcat_i, mcat_l, mcat_r, mcat_u, mcat_x, mK_some, mK_none, va_rf_s, va_rf_n, lgc_eq, lgc_lt, lgc_gt, lgc_ge, lgc_le, mrd_104, mrd_105, mrd_106, mrd_107, true_and, and_true, and_self, false_and, and_false, true_or, or_true, false_or, or_false, not_true_eq_false, not_false_eq_true, mgb, mga, mgr, mN, reduceCtorEq, ↓reduceIte, eq_self, ge_iff_le, gt_iff_lt, hk_si, hk_sj, hk_sr, hl_si, hl_sj, hl_sr, hn_si, hn_sj, hn_sr, hs_si, hs_sj, hs_sr, hi_sj, hi_sr, hj_si, hj_sr, hr_si, hr_sj, hi_si, hj_sj, hr_sr, mg_si, mg_sj, mg_sr, Nat.reduceAdd, Nat.reduceMul, Nat.reduceSub, Nat.reduceLT, Nat.reduceGT, Nat.reduceEqDiff, Nat.reduceLeDiff, Nat.left_eq_add, Nat.add_eq_left, Nat.reduceMod, Nat.reduceDiv, Nat.succ_ne_self, g, s0, i5, c5', i6, c6', kb]
    · have w : decide (kd = 5 ∨ kd = 6) = false := decide_eq_false (by omega)
      have c6' : (kd = 6) = False := eq_false c6
      rw [w]
      simp (disch := omega) only [s_166_0, s_166_1, s_166_4, s_166_5, s_166_8, s_166_9, s_166_12, s_166_14, s_166_17, s_166_18, s_166_21, s_166_22, e_166, mv_i_1, mv_l_1, mv_a_1, mv_a_2, mv_a_3, mk2_n, mk2_i, mk2_l, mk2_a, mk2_u, mk2_x, mB_T, mB_F, mS_cons, mS_nil, mSB_T, mSB_F, mca_nil, mca_i, mca_l, mca_r, mca_u, mca_x, mcat_i, mcat_l, mcat_r, mcat_u, mcat_x, mK_some, mK_none, va_rf_s, va_rf_n, lgc_eq, lgc_lt, lgc_gt, lgc_ge, lgc_le, mrd_104, mrd_105, mrd_106, mrd_107, true_and, and_true, and_self, false_and, and_false, true_or, or_true, false_or, or_false, not_true_eq_false, not_false_eq_true, mgb, mga, mgr, mN, reduceCtorEq, ↓reduceIte, eq_self, ge_iff_le, gt_iff_lt, hk_si, hk_sj, hk_sr, hl_si, hl_sj, hl_sr, hn_si, hn_sj, hn_sr, hs_si, hs_sj, hs_sr, hi_sj, hi_sr, hj_si, hj_sr, hr_si, hr_sj, hi_si, hj_sj, hr_sr, mg_si, mg_sj, mg_sr, Nat.reduceAdd, Nat.reduceMul, Nat.reduceSub, Nat.reduceLT, Nat.reduceGT, Nat.reduceEqDiff, Nat.reduceLeDiff, Nat.left_eq_add, Nat.add_eq_left, Nat.reduceMod, Nat.reduceDiv, Nat.succ_ne_self, g, s0, i5, c5', i6, c6', kb, Bool.false_eq_true]
theorem c_165 {St kd : Nat} (g : mg h St 9) (s0 : mh_i h St 0 = Int32.ofNat kd) (hk : kd ≤ 8) : ∀ Q, mcall d 165 [.ref St] h Q = Q (some (.int (kb (decide (kd = 5 ∨ kd = 6 ∨ kd = 7))))) h := fun Q => by
  have e5 : (5 : Int32) = Int32.ofNat 5 := rfl
  have e6 : (6 : Int32) = Int32.ofNat 6 := rfl
  have e7 : (7 : Int32) = Int32.ofNat 7 := rfl
  have i5 : (Int32.ofNat kd = 5) = (kd = 5) := by rw [e5, nn_eq (by omega) (by omega)]
  have i6 : (Int32.ofNat kd = 6) = (kd = 6) := by rw [e6, nn_eq (by omega) (by omega)]
  have i7 : (Int32.ofNat kd = 7) = (kd = 7) := by rw [e7, nn_eq (by omega) (by omega)]
  by_cases c5 : kd = 5
  · have w : decide (kd = 5 ∨ kd = 6 ∨ kd = 7) = true := decide_eq_true (Or.inl c5)
    have c5' : (kd = 5) = True := eq_true c5
    rw [w]
    simp (disch := omega) only [s_165_0, s_165_1, s_165_4, s_165_5, s_165_8, s_165_9, s_165_12, s_165_14, s_165_17, s_165_18, s_165_21, s_165_23, s_165_26, s_165_27, s_165_30, s_165_31, e_165, mv_i_1, mv_l_1, mv_a_1, mv_a_2, mv_a_3, mk2_n, mk2_i, mk2_l, mk2_a, mk2_u, mk2_x, mB_T, mB_F, mS_cons, mS_nil, mSB_T, mSB_F, mca_nil, mca_i, mca_l, mca_r, mca_u, mca_x, mcat_i, mcat_l, mcat_r, mcat_u, mcat_x, mK_some, mK_none, va_rf_s, va_rf_n, lgc_eq, lgc_lt, lgc_gt, lgc_ge, lgc_le, mrd_104, mrd_105, mrd_106, mrd_107, true_and, and_true, and_self, false_and, and_false, true_or, or_true, false_or, or_false, not_true_eq_false, not_false_eq_true, mgb, mga, mgr, mN, reduceCtorEq, ↓reduceIte, eq_self, ge_iff_le, gt_iff_lt, hk_si, hk_sj, hk_sr, hl_si, hl_sj, hl_sr, hn_si, hn_sj, hn_sr, hs_si, hs_sj, hs_sr, hi_sj, hi_sr, hj_si, hj_sr, hr_si, hr_sj, hi_si, hj_sj, hr_sr, mg_si, mg_sj, mg_sr, Nat.reduceAdd, Nat.reduceMul, Nat.reduceSub, Nat.reduceLT, Nat.reduceGT, Nat.reduceEqDiff, Nat.reduceLeDiff, Nat.left_eq_add, Nat.add_eq_left, Nat.reduceMod, Nat.reduceDiv, Nat.succ_ne_self, g, s0, i5, c5', kb]
  · have c5' : (kd = 5) = False := eq_false c5
    by_cases c6 : kd = 6
    · have w : decide (kd = 5 ∨ kd = 6 ∨ kd = 7) = true := decide_eq_true (Or.inr (Or.inl c6))
      have c6' : (kd = 6) = True := eq_true c6
      rw [w]
      simp (disch := omega) only [s_165_0, s_165_1, s_165_4, s_165_5, s_165_8, s_165_9, s_165_12, s_165_14, s_165_17, s_165_18, s_165_21, s_165_23, s_165_26, s_165_27, s_165_30, s_165_31, e_165, mv_i_1, mv_l_1, mv_a_1, mv_a_2, mv_a_3, mk2_n, mk2_i, mk2_l, mk2_a, mk2_u, mk2_x, mB_T, mB_F, mS_cons, mS_nil, mSB_T, mSB_F, mca_nil, mca_i, mca_l, mca_r, mca_u, mca_x, mcat_i, mcat_l, mcat_r, mcat_u, mcat_x, mK_some, mK_none, va_rf_s, va_rf_n, lgc_eq, lgc_lt, lgc_gt, lgc_ge, lgc_le, mrd_104, mrd_105, mrd_106, mrd_107, true_and, and_true, and_self, false_and, and_false, true_or, or_true, false_or, or_false, not_true_eq_false, not_false_eq_true, mgb, mga, mgr, mN, reduceCtorEq, ↓reduceIte, eq_self, ge_iff_le, gt_iff_lt, hk_si, hk_sj, hk_sr, hl_si, hl_sj, hl_sr, hn_si, hn_sj, hn_sr, hs_si, hs_sj, hs_sr, hi_sj, hi_sr, hj_si, hj_sr, hr_si, hr_sj, hi_si, hj_sj, hr_sr, mg_si, mg_sj, mg_sr, Nat.reduceAdd, Nat.reduceMul, Nat.reduceSub, Nat.reduceLT, Nat.reduceGT, Nat.reduceEqDiff, Nat.reduceLeDiff, Nat.left_eq_add, Nat.add_eq_left, Nat.reduceMod, Nat.reduceDiv, Nat.succ_ne_self, g, s0, i5, c5', i6, c6', kb]
    · have c6' : (kd = 6) = False := eq_false c6
      by_cases c7 : kd = 7
      · have w : decide (kd = 5 ∨ kd = 6 ∨ kd = 7) = true := decide_eq_true (Or.inr (Or.inr c7))
        have c7' : (kd = 7) = True := eq_true c7
        rw [w]
        simp (disch := omega) only [s_165_0, s_165_1, s_165_4, s_165_5, s_165_8, s_165_9, s_165_12, s_165_14, s_165_17, s_165_18, s_165_21, s_165_23, s_165_26, s_165_27, s_165_30, s_165_31, e_165, mv_i_1, mv_l_1, mv_a_1, mv_a_2, mv_a_3, mk2_n, mk2_i, mk2_l, mk2_a, mk2_u, mk2_x, mB_T, mB_F, mS_cons, mS_nil, mSB_T, mSB_F, mca_nil, mca_i, mca_l, mca_r, mca_u, mca_x, mcat_i, mcat_l, mcat_r, mcat_u, mcat_x, mK_some, mK_none, va_rf_s, va_rf_n, lgc_eq, lgc_lt, lgc_gt, lgc_ge, lgc_le, mrd_104, mrd_105, mrd_106, mrd_107, true_and, and_true, and_self, false_and, and_false, true_or, or_true, false_or, or_false, not_true_eq_false, not_false_eq_true, mgb, mga, mgr, mN, reduceCtorEq, ↓reduceIte, eq_self, ge_iff_le, gt_iff_lt, hk_si, hk_sj, hk_sr, hl_si, hl_sj, hl_sr, hn_si, hn_sj, hn_sr, hs_si, hs_sj, hs_sr, hi_sj, hi_sr, hj_si, hj_sr, hr_si, hr_sj, hi_si, hj_sj, hr_sr, mg_si, mg_sj, mg_sr, Nat.reduceAdd, Nat.reduceMul, Nat.reduceSub, Nat.reduceLT, Nat.reduceGT, Nat.reduceEqDiff, Nat.reduceLeDiff, Nat.left_eq_add, Nat.add_eq_left, Nat.reduceMod, Nat.reduceDiv, Nat.succ_ne_self, g, s0, i5, c5', i6, c6', i7, c7', kb]
      · have w : decide (kd = 5 ∨ kd = 6 ∨ kd = 7) = false := decide_eq_false (by omega)
        have c7' : (kd = 7) = False := eq_false c7
        rw [w]
        simp (disch := omega) only [s_165_0, s_165_1, s_165_4, s_165_5, s_165_8, s_165_9, s_165_12, s_165_14, s_165_17, s_165_18, s_165_21, s_165_23, s_165_26, s_165_27, s_165_30, s_165_31, e_165, mv_i_1, mv_l_1, mv_a_1, mv_a_2, mv_a_3, mk2_n, mk2_i, mk2_l, mk2_a, mk2_u, mk2_x, mB_T, mB_F, mS_cons, mS_nil, mSB_T, mSB_F, mca_nil, mca_i, mca_l, mca_r, mca_u, mca_x, mcat_i, mcat_l, mcat_r, mcat_u, mcat_x, mK_some, mK_none, va_rf_s, va_rf_n, lgc_eq, lgc_lt, lgc_gt, lgc_ge, lgc_le, mrd_104, mrd_105, mrd_106, mrd_107, true_and, and_true, and_self, false_and, and_false, true_or, or_true, false_or, or_false, not_true_eq_false, not_false_eq_true, mgb, mga, mgr, mN, reduceCtorEq, ↓reduceIte, eq_self, ge_iff_le, gt_iff_lt, hk_si, hk_sj, hk_sr, hl_si, hl_sj, hl_sr, hn_si, hn_sj, hn_sr, hs_si, hs_sj, hs_sr, hi_sj, hi_sr, hj_si, hj_sr, hr_si, hr_sj, hi_si, hj_sj, hr_sr, mg_si, mg_sj, mg_sr, Nat.reduceAdd, Nat.reduceMul, Nat.reduceSub, Nat.reduceLT, Nat.reduceGT, Nat.reduceEqDiff, Nat.reduceLeDiff, Nat.left_eq_add, Nat.add_eq_left, Nat.reduceMod, Nat.reduceDiv, Nat.succ_ne_self, g, s0, i5, c5', i6, c6', i7, c7', kb, Bool.false_eq_true]
/-- ints first -/
theorem ob_0 (B : BS h Y C E TT UU SC SP nC nE nS) (H : PH h G cnt) (hp : p < cnt) (hk : k < 250) (k9 : mh_i h 53 9 = Int32.ofNat k) {St : Nat} (rS : mh_r h 20 p = some St) (gS : mg h St 9) (s0 : mh_i h St 0 = Int32.ofNat (G.kd p)) : ∃ h', zS (fun _ _ => False) (obU k) h h' ∧ BS h' Y C E TT UU SC SP nC nE nS ∧ mh_r h' = mh_r h ∧ mh_i h' 53 9 = Int32.ofNat (k + 1) ∧ mh_i h' 59 k = Int32.ofNat p ∧ mh_i h' 60 k = 0 ∧ ∀ Q, mcall (d + 3) 5 [.ref 53, .int (Int32.ofNat p)] h Q = mw (d + 3) 5 Q 52 [some (.ref 53), some (.int (Int32.ofNat p)), some (.ref St), some (.int (Int32.ofNat k))] [] h' := by
  have F := B.F
  have cb := H.b
  have kk := H.k p hp
  obtain ⟨x1, B1⟩ := zS_i (k := 9) (v := Int32.ofNat (k + 1)) B (b := 53) (by omega)
  obtain ⟨x2, B2⟩ := zS_i (k := k) (v := Int32.ofNat p) B1 (b := 59) (by omega)
  obtain ⟨x3, B3⟩ := zS_i (k := k) (v := 0) B2 (b := 60) (by omega)
  refine ⟨_, zS_t (zS_w x1 (fun _ _ z => z) (fun b j z => by unfold obU; omega)) (zS_t (zS_w x2 (fun _ _ z => z) (fun b j z => by unfold obU; omega)) (zS_w x3 (fun _ _ z => z) (fun b j z => by unfold obU; omega))), B3, rfl, ?_, ?_, ?_, fun Q => ?_⟩
  · rw [hi_si, if_neg (by omega), hi_si, if_neg (by omega), hi_si, if_pos ⟨rfl, rfl⟩]
  · rw [hi_si, if_neg (by omega), hi_si, if_pos ⟨rfl, rfl⟩]
  · rw [hi_si, if_pos ⟨rfl, rfl⟩]
  · have g53 := F.g 53 0 17 (by decide +kernel)
    have g2 := F.g 2 4 20 (by decide +kernel)
    have t4 := F.f 53 4 2 (by decide +kernel)
    have t3 := F.f 2 3 20 (by decide +kernel)
    have t8 := F.f 53 8 59 (by decide +kernel)
    have t10 := F.f 53 10 60 (by decide +kernel)
    have g20 := (F.g 20 105 250 (by decide +kernel)).1
    have g20' := (F.g 20 105 250 (by decide +kernel)).2
    have l20 := F.l 20 105 250 (by decide +kernel)
    have g59 := F.g 59 100 250 (by decide +kernel)
    have l59 := F.l 59 100 250 (by decide +kernel)
    have g60 := F.g 60 100 250 (by decide +kernel)
    have l60 := F.l 60 100 250 (by decide +kernel)
    have ei : ∀ k, Int32.ofNat k + 1 = Int32.ofNat (k + 1) := fun k => nn_add (a := k) (b := 1)
    have e6 : (6 : Int32) = Int32.ofNat 6 := rfl
    have i6 : (Int32.ofNat (G.kd p) = 6) = (G.kd p = 6) := by rw [e6, nn_eq (by omega) (by omega)]
    have S53 : ¬ St = 53 := fun z => (st_ne B gS).2 (by unfold aI; omega)
    have S59 : ¬ St = 59 := fun z => (st_ne B gS).2 (by unfold aI; omega)
    have S60 : ¬ St = 60 := fun z => (st_ne B gS).2 (by unfold aI; omega)
    clear x1 x2 x3 B B1 B2 B3 F H
    by_cases c6 : G.kd p = 6
    · have c6' : (G.kd p = 6) = True := eq_true c6
      simp (disch := omega) only [s_5_0, s_5_1, s_5_4, s_5_7, s_5_8, s_5_9, s_5_9n, s_5_9x, s_5_10, s_5_11, s_5_14, s_5_15, s_5_16, s_5_17, s_5_20, s_5_21, s_5_22, s_5_25, s_5_26, s_5_29, s_5_30, s_5_31, s_5_32, s_5_33, s_5_36, s_5_37, s_5_38, s_5_41, s_5_43, s_5_46, s_5_47, s_5_50, s_5_51, s_5_53, s_5_56, s_5_59, s_5_60, s_5_63, s_5_64, s_5_65n, s_5_65, s_5_68, s_5_69, s_5_72, s_5_73, s_5_76, s_5_77, s_5_80, s_5_80n, s_5_80x, s_5_81, s_5_82, s_5_85, s_5_87, s_5_90, s_5_91, s_5_94, s_5_95, s_5_96n, s_5_96, s_5_99, s_5_100, s_5_103, s_5_104, s_5_107, s_5_108, s_5_111, s_5_111n, s_5_111x, s_5_112, s_5_113, s_5_116, s_5_117, s_5_120, s_5_121, s_5_124, s_5_124n, s_5_124x, s_5_125, s_5_126, s_5_129, s_5_130, s_5_133, s_5_134, s_5_137, s_5_137n, s_5_137x, s_5_138, s_5_139, s_5_142, s_5_143, s_5_144, s_5_145, s_5_148, s_5_151, s_5_152, s_5_155, s_5_156, s_5_157, s_5_158, s_5_161, s_5_164, s_5_165, s_5_168, s_5_169, s_5_170, s_5_171, s_5_174, s_5_177, s_5_178, s_5_181, s_5_182, s_5_183, s_5_184, s_5_185, s_5_188, s_5_189, s_5_190, s_5_191, e_5, mv_i_1, mv_l_1, mv_a_1, mv_a_2, mv_a_3, mk2_n, mk2_i, mk2_l, mk2_a, mk2_u, mk2_x, mB_T, mB_F, mS_cons, mS_nil, mSB_T, mSB_F, mca_nil, mca_i, mca_l, mca_r, mca_u, mca_x, mcat_i, mcat_l, mcat_r, mcat_u, mcat_x, mK_some, mK_none, va_rf_s, va_rf_n, lgc_eq, lgc_lt, lgc_gt, lgc_ge, lgc_le, mrd_104, mrd_105, mrd_106, mrd_107, true_and, and_true, and_self, false_and, and_false, true_or, or_true, false_or, or_false, not_true_eq_false, not_false_eq_true, mgb, mga, mgr, mN, reduceCtorEq, ↓reduceIte, eq_self, ge_iff_le, gt_iff_lt, hk_si, hk_sj, hk_sr, hl_si, hl_sj, hl_sr, hn_si, hn_sj, hn_sr, hs_si, hs_sj, hs_sr, hi_sj, hi_sr, hj_si, hj_sr, hr_si, hr_sj, hi_si, hj_sj, hr_sr, mg_si, mg_sj, mg_sr, Nat.reduceAdd, Nat.reduceMul, Nat.reduceSub, Nat.reduceLT, Nat.reduceGT, Nat.reduceEqDiff, Nat.reduceLeDiff, Nat.left_eq_add, Nat.add_eq_left, Nat.reduceMod, Nat.reduceDiv, Nat.succ_ne_self, g53, t4, g2, t3, g20, g20', l20, rS, gS, k9, ei, t8, g59, l59, t10, g60, l60, s0, i6, c6', S53, S59, S60, nn_mxT, nn_clamp]
    · have c6' : (G.kd p = 6) = False := eq_false c6
      simp (disch := omega) only [s_5_0, s_5_1, s_5_4, s_5_7, s_5_8, s_5_9, s_5_9n, s_5_9x, s_5_10, s_5_11, s_5_14, s_5_15, s_5_16, s_5_17, s_5_20, s_5_21, s_5_22, s_5_25, s_5_26, s_5_29, s_5_30, s_5_31, s_5_32, s_5_33, s_5_36, s_5_37, s_5_38, s_5_41, s_5_43, s_5_46, s_5_47, s_5_50, s_5_51, s_5_53, s_5_56, s_5_59, s_5_60, s_5_63, s_5_64, s_5_65n, s_5_65, s_5_68, s_5_69, s_5_72, s_5_73, s_5_76, s_5_77, s_5_80, s_5_80n, s_5_80x, s_5_81, s_5_82, s_5_85, s_5_87, s_5_90, s_5_91, s_5_94, s_5_95, s_5_96n, s_5_96, s_5_99, s_5_100, s_5_103, s_5_104, s_5_107, s_5_108, s_5_111, s_5_111n, s_5_111x, s_5_112, s_5_113, s_5_116, s_5_117, s_5_120, s_5_121, s_5_124, s_5_124n, s_5_124x, s_5_125, s_5_126, s_5_129, s_5_130, s_5_133, s_5_134, s_5_137, s_5_137n, s_5_137x, s_5_138, s_5_139, s_5_142, s_5_143, s_5_144, s_5_145, s_5_148, s_5_151, s_5_152, s_5_155, s_5_156, s_5_157, s_5_158, s_5_161, s_5_164, s_5_165, s_5_168, s_5_169, s_5_170, s_5_171, s_5_174, s_5_177, s_5_178, s_5_181, s_5_182, s_5_183, s_5_184, s_5_185, s_5_188, s_5_189, s_5_190, s_5_191, e_5, mv_i_1, mv_l_1, mv_a_1, mv_a_2, mv_a_3, mk2_n, mk2_i, mk2_l, mk2_a, mk2_u, mk2_x, mB_T, mB_F, mS_cons, mS_nil, mSB_T, mSB_F, mca_nil, mca_i, mca_l, mca_r, mca_u, mca_x, mcat_i, mcat_l, mcat_r, mcat_u, mcat_x, mK_some, mK_none, va_rf_s, va_rf_n, lgc_eq, lgc_lt, lgc_gt, lgc_ge, lgc_le, mrd_104, mrd_105, mrd_106, mrd_107, true_and, and_true, and_self, false_and, and_false, true_or, or_true, false_or, or_false, not_true_eq_false, not_false_eq_true, mgb, mga, mgr, mN, reduceCtorEq, ↓reduceIte, eq_self, ge_iff_le, gt_iff_lt, hk_si, hk_sj, hk_sr, hl_si, hl_sj, hl_sr, hn_si, hn_sj, hn_sr, hs_si, hs_sj, hs_sr, hi_sj, hi_sr, hj_si, hj_sr, hr_si, hr_sj, hi_si, hj_sj, hr_sr, mg_si, mg_sj, mg_sr, Nat.reduceAdd, Nat.reduceMul, Nat.reduceSub, Nat.reduceLT, Nat.reduceGT, Nat.reduceEqDiff, Nat.reduceLeDiff, Nat.left_eq_add, Nat.add_eq_left, Nat.reduceMod, Nat.reduceDiv, Nat.succ_ne_self, g53, t4, g2, t3, g20, g20', l20, rS, gS, k9, ei, t8, g59, l59, t10, g60, l60, s0, i6, c6', S53, S59, S60, nn_mxT, nn_clamp]
/-- a place for what is kept -/
theorem ob_1 (B : BS h Y C E TT UU SC SP nC nE nS) (hk : k < 250) {St kd : Nat} (gS : mg h St 9) (s0 : mh_i h St 0 = Int32.ofNat kd) (hkd : kd ≤ 8) (w : kd = 5 ∨ kd = 6) : ∃ h', zS (fun b j => b = 61 ∧ j = k) (fun _ _ => False) h h' ∧ BS h' Y C E TT UU SC SP nC nE nS ∧ mh_r h' 61 k ≠ none ∧ ∀ Q, mw (d + 3) 5 Q 52 [some (.ref 53), some (.int (Int32.ofNat p)), some (.ref St), some (.int (Int32.ofNat k))] [] h = mw (d + 3) 5 Q 81 [some (.ref 53), some (.int (Int32.ofNat p)), some (.ref St), some (.int (Int32.ofNat k))] [] h' := by
  have F := B.F
  have c166 := c_166 (d := d + 2) gS s0 hkd
  have w' : kb (decide (kd = 5 ∨ kd = 6)) = 1 := by rw [decide_eq_true w]; rfl
  rw [w'] at c166
  have g53 := F.g 53 0 17 (by decide +kernel)
  have t11 := F.f 53 11 61 (by decide +kernel)
  have g61 := (F.g 61 104 250 (by decide +kernel)).1
  have g61' := (F.g 61 104 250 (by decide +kernel)).2
  have l61 := F.l 61 104 250 (by decide +kernel)
  have e10 : ((1 : Int32) = 0) = False := by decide
  cases hr : mh_r h 61 k with
  | some o =>
    refine ⟨h, zS_id, B, by rw [hr]; exact fun z => (by cases z), fun Q => ?_⟩
    have gO := (cs_so B.S ⟨61, k, by unfold isPl; omega, hr⟩).1.1
    clear B F
    simp (disch := omega) only [s_5_0, s_5_1, s_5_4, s_5_7, s_5_8, s_5_9, s_5_9n, s_5_9x, s_5_10, s_5_11, s_5_14, s_5_15, s_5_16, s_5_17, s_5_20, s_5_21, s_5_22, s_5_25, s_5_26, s_5_29, s_5_30, s_5_31, s_5_32, s_5_33, s_5_36, s_5_37, s_5_38, s_5_41, s_5_43, s_5_46, s_5_47, s_5_50, s_5_51, s_5_52, s_5_53, s_5_56, s_5_59, s_5_60, s_5_63, s_5_64, s_5_65n, s_5_65, s_5_68, s_5_69, s_5_72, s_5_73, s_5_76, s_5_77, s_5_80, s_5_80n, s_5_80x, s_5_82, s_5_85, s_5_87, s_5_90, s_5_91, s_5_94, s_5_95, s_5_96n, s_5_96, s_5_99, s_5_100, s_5_103, s_5_104, s_5_107, s_5_108, s_5_111, s_5_111n, s_5_111x, s_5_112, s_5_113, s_5_116, s_5_117, s_5_120, s_5_121, s_5_124, s_5_124n, s_5_124x, s_5_125, s_5_126, s_5_129, s_5_130, s_5_133, s_5_134, s_5_137, s_5_137n, s_5_137x, s_5_138, s_5_139, s_5_142, s_5_143, s_5_144, s_5_145, s_5_148, s_5_151, s_5_152, s_5_155, s_5_156, s_5_157, s_5_158, s_5_161, s_5_164, s_5_165, s_5_168, s_5_169, s_5_170, s_5_171, s_5_174, s_5_177, s_5_178, s_5_181, s_5_182, s_5_183, s_5_184, s_5_185, s_5_188, s_5_189, s_5_190, s_5_191, e_5, mv_i_1, mv_l_1, mv_a_1, mv_a_2, mv_a_3, mk2_n, mk2_i, mk2_l, mk2_a, mk2_u, mk2_x, mB_T, mB_F, mS_cons, mS_nil, mSB_T, mSB_F, mca_nil, mca_i, mca_l, mca_r, mca_u, mca_x, mcat_i, mcat_l, mcat_r, mcat_u, mcat_x, mK_some, mK_none, va_rf_s, va_rf_n, lgc_eq, lgc_lt, lgc_gt, lgc_ge, lgc_le, mrd_104, mrd_105, mrd_106, mrd_107, true_and, and_true, and_self, false_and, and_false, true_or, or_true, false_or, or_false, not_true_eq_false, not_false_eq_true, mgb, mga, mgr, mN, reduceCtorEq, ↓reduceIte, eq_self, ge_iff_le, gt_iff_lt, hk_si, hk_sj, hk_sr, hl_si, hl_sj, hl_sr, hn_si, hn_sj, hn_sr, hs_si, hs_sj, hs_sr, hi_sj, hi_sr, hj_si, hj_sr, hr_si, hr_sj, hi_si, hj_sj, hr_sr, mg_si, mg_sj, mg_sr, Nat.reduceAdd, Nat.reduceMul, Nat.reduceSub, Nat.reduceLT, Nat.reduceGT, Nat.reduceEqDiff, Nat.reduceLeDiff, Nat.left_eq_add, Nat.add_eq_left, Nat.reduceMod, Nat.reduceDiv, Nat.succ_ne_self, gS, c166, e10, g53, t11, g61, g61', l61, hr, gO, nn_mxT, nn_clamp]
  | none =>
    obtain ⟨x, B', r'⟩ := pl_new B (b := 61) (by omega) hk hr
    refine ⟨_, x, B', by rw [r']; exact fun z => (by cases z), fun Q => ?_⟩
    have z := nw_z (h := h)
    have gn : mg (mh_new h 8 6) (mh_n h) 8 := ⟨by rw [hk_new, if_pos rfl], by rw [hn_new]; omega⟩
    have c9 := fun Q => c_139 (d := d + 2) (Q := Q) gn
    have nwe : nwS (mh_n h) (mh_new h 8 6) = nw h := rfl
    have gaS : mg (nw h) (mh_n h) 8 := nw_so.1
    have k61 : mh_k (nw h) 61 = 104 := (fz_mg z ⟨g61, g61'⟩).1
    have n61 : 61 < mh_n (nw h) := (fz_mg z ⟨g61, g61'⟩).2
    have la : mh_l (nw h) 61 = 250 := by rw [fz_l z ⟨g61, g61'⟩]; exact l61
    have ac : me_ac 104 = 8 := by decide
    clear B F x B' z
    simp (disch := omega) only [s_5_0, s_5_1, s_5_4, s_5_7, s_5_8, s_5_9, s_5_9n, s_5_9x, s_5_10, s_5_11, s_5_14, s_5_15, s_5_16, s_5_17, s_5_20, s_5_21, s_5_22, s_5_25, s_5_26, s_5_29, s_5_30, s_5_31, s_5_32, s_5_33, s_5_36, s_5_37, s_5_38, s_5_41, s_5_43, s_5_46, s_5_47, s_5_50, s_5_51, s_5_52, s_5_53, s_5_56, s_5_59, s_5_60, s_5_63, s_5_64, s_5_65n, s_5_65, s_5_68, s_5_69, s_5_72, s_5_73, s_5_76, s_5_77, s_5_80, s_5_80n, s_5_80x, s_5_82, s_5_85, s_5_87, s_5_90, s_5_91, s_5_94, s_5_95, s_5_96n, s_5_96, s_5_99, s_5_100, s_5_103, s_5_104, s_5_107, s_5_108, s_5_111, s_5_111n, s_5_111x, s_5_112, s_5_113, s_5_116, s_5_117, s_5_120, s_5_121, s_5_124, s_5_124n, s_5_124x, s_5_125, s_5_126, s_5_129, s_5_130, s_5_133, s_5_134, s_5_137, s_5_137n, s_5_137x, s_5_138, s_5_139, s_5_142, s_5_143, s_5_144, s_5_145, s_5_148, s_5_151, s_5_152, s_5_155, s_5_156, s_5_157, s_5_158, s_5_161, s_5_164, s_5_165, s_5_168, s_5_169, s_5_170, s_5_171, s_5_174, s_5_177, s_5_178, s_5_181, s_5_182, s_5_183, s_5_184, s_5_185, s_5_188, s_5_189, s_5_190, s_5_191, e_5, mv_i_1, mv_l_1, mv_a_1, mv_a_2, mv_a_3, mk2_n, mk2_i, mk2_l, mk2_a, mk2_u, mk2_x, mB_T, mB_F, mS_cons, mS_nil, mSB_T, mSB_F, mca_nil, mca_i, mca_l, mca_r, mca_u, mca_x, mcat_i, mcat_l, mcat_r, mcat_u, mcat_x, mK_some, mK_none, va_rf_s, va_rf_n, lgc_eq, lgc_lt, lgc_gt, lgc_ge, lgc_le, mrd_104, mrd_105, mrd_106, mrd_107, true_and, and_true, and_self, false_and, and_false, true_or, or_true, false_or, or_false, not_true_eq_false, not_false_eq_true, mgb, mga, mgr, mN, reduceCtorEq, ↓reduceIte, eq_self, ge_iff_le, gt_iff_lt, hk_si, hk_sj, hk_sr, hl_si, hl_sj, hl_sr, hn_si, hn_sj, hn_sr, hs_si, hs_sj, hs_sr, hi_sj, hi_sr, hj_si, hj_sr, hr_si, hr_sj, hi_si, hj_sj, hr_sr, mg_si, mg_sj, mg_sr, Nat.reduceAdd, Nat.reduceMul, Nat.reduceSub, Nat.reduceLT, Nat.reduceGT, Nat.reduceEqDiff, Nat.reduceLeDiff, Nat.left_eq_add, Nat.add_eq_left, Nat.reduceMod, Nat.reduceDiv, Nat.succ_ne_self, gS, c166, e10, g53, t11, g61, g61', l61, hr, gn, c9, nwe, gaS, k61, n61, la, ac, nn_mxT, nn_clamp]
end OBs
