set_option maxRecDepth 100000
/-! the class's machine: holds -/
/-- a SUM's codes -/
def mS1 (h : mh_H) (C SC nC nS nb na : Nat) (sN : Int → Prop) (en : Int → Nat) (A : ab) (t : tr) (sum : Nat) : Prop := ∃ c0, sum + 1 < nS ∧ mh_i h SC sum = Int32.ofNat c0 ∧ mh_i h SC (sum + 1) = Int32.ofNat (c0 + cl t false) ∧ cd en nb na A.rm (mh_i h C) t false c0 ∧ wS sN en A t false ∧ 3 * (c0 + cl t false) ≤ nC ∧ sh t false ≤ 124
/-- what a reckoning leaves -/
def xq (q : xr) (h : mh_H) (gv : Nat) (x : Int32) : Prop := mh_i h 67 3 = Int32.ofNat (min q.2.2 gv) ∧ match q.1 with
  | none => ¬ q.2.1 = 0 ∧ mh_i h 67 10 = q.2.1
  | some v => mh_i h 67 10 = 0 ∧ x.toInt = v
section HDs
variable {d : Nat} {h h1 : mh_H} {Y C SC nC nS nb na p gv c sum k : Nat} {en : Int → Nat} {sN : Int → Prop} {A : ab} {t : tr} {x w : Int32}
theorem mS1_G (f : fG mcW h h1) (B : MB h Y C SC nC nS nb na p gv) (m : mS1 h C SC nC nS nb na sN en A t sum) : mS1 h1 C SC nC nS nb na sN en A t sum := by
  have ne := B.ne
  unfold mS1 at m ⊢
  rw [MB_i f ⟨ne.1, ne.2.1⟩, MB_i f ⟨ne.2.2.1, ne.2.2.2.1⟩]
  exact m
theorem v_37s (hA : A.n ≤ 12 ∧ A.a ≤ 6) (B : MB h Y C SC nC nS nb na p gv) (m : mS1 h C SC nC nS nb na sN en A t sum) (e10 : mh_i h 67 10 = 0) (e3 : mh_i h 67 3 = Int32.ofNat (min c gv)) : ∃ h' x, fG mcW h h' ∧ xq (xv en (mh_i h 69) (mh_i h 70) A.rm (mh_i h 68) gv t none c) h' gv x ∧ ∀ Q, mcall (d + 3) 37 [.ref 67, .int (Int32.ofNat sum)] h Q = Q (some (.int x)) h' := by
  obtain ⟨c0, m1, m2, m3, m4, m5, m6, m7⟩ := m
  obtain ⟨h', x, q1, q2, q3, run⟩ := v_37 (d := d) hA B m4 m5 m1 m2 m3 m6 m7 e10 e3
  exact ⟨h', x, q1, ⟨q2, q3⟩, run⟩
/-- behind a trap -/
theorem v_37t (B : MB h Y C SC nC nS nb na p gv) (m : mS1 h C SC nC nS nb na sN en A t sum) (e10 : ¬ mh_i h 67 10 = 0) : ∃ h' x, fG mcW h h' ∧ mh_i h' 67 3 = mh_i h 67 3 ∧ mh_i h' 67 10 = mh_i h 67 10 ∧ ∀ Q, mcall (d + 3) 37 [.ref 67, .int (Int32.ofNat sum)] h Q = Q (some (.int x)) h' := by
  obtain ⟨c0, m1, m2, m3, m4, m5, m6, m7⟩ := m
  have bS := B.bS
  have bC := B.bC
  have ne := B.ne
  have f0 : fG mcW h (mh_si h 67 12 (Int32.ofNat 0)) := fG_si (Or.inr ⟨rfl, by omega⟩)
  have B0 := MB_G f0 B
  have z := kx_t (d := d) (x4 := none) (x5 := none) (k := c0) B0 m1 (by rw [MB_i f0 ⟨ne.2.2.1, ne.2.2.2.1⟩]; exact m3) (by omega) m6 (Or.inl (by rw [hi_si, if_neg (by omega)]; exact e10))
  refine ⟨_, mh_i (mh_si h 67 12 (Int32.ofNat 0)) 72 0, f0, by rw [hi_si, if_neg (by omega)], by rw [hi_si, if_neg (by omega)], fun Q => ?_⟩
  rw [← z Q]
  have g := B.g
  have r0 := B.r0
  have g2 := B.g2
  have r21 := B.r21
  have gY := B.gY
  have y6 := B.y6
  have gS := B.gS
  have lS := B.lS
  have e0 : Int32.ofNat 0 = 0 := rfl
  have n67 : (SC = 67) = False := eq_false ne.2.2.2.1
  clear B B0 z m4 m5
  simp (disch := omega) only [s_37_0, s_37_1, s_37_4, s_37_7, s_37_7n, s_37_8, s_37_9, s_37_10, s_37_13, s_37_14, s_37_17, s_37_18, s_37_19, s_37_21, s_37_22, s_37_25, s_37_26, s_37_27, s_37_28, s_37_29, s_37_32, s_37_33, s_37_36, s_37_39, s_37_40, s_37_43, s_37_44, s_37_45, s_37_46, s_37_47, s_37_48, s_37_49, s_37_51, s_37_52, s_37_55, s_37_56, s_37_57, s_37_58, s_37_59, s_37_60, s_37_61, s_37_63, s_37_64, s_37_67, s_37_68, s_37_69, s_37_70, s_37_71, s_37_104, s_37_105, s_37_107, s_37_110, s_37_113, s_37_114, s_37_115, s_37_118, s_37_119, s_37_122, s_37_125, s_37_126, s_37_129, s_37_130, s_37_132, s_37_133, s_37_134, s_37_137, s_37_140, s_37_141, s_37_142, s_37_144, s_37_146, s_37_149, s_37_152, s_37_155, s_37_156, s_37_157, s_37_160, s_37_163, s_37_164, s_37_167, s_37_168, s_37_170, s_37_171, s_37_173, s_37_176, s_37_179, s_37_180, s_37_181, s_37_184, s_37_185, s_37_186, s_37_189, s_37_190, s_37_191, s_37_194, s_37_195, s_37_198, s_37_199, s_37_200, s_37_201, s_37_204, s_37_207, s_37_208, s_37_209, s_37_212, s_37_213, s_37_214, s_37_217, s_37_218, s_37_219, s_37_222, s_37_223, s_37_224, s_37_225, s_37_226, s_37_227, s_37_230, s_37_231, s_37_234, s_37_235, s_37_236, s_37_237, s_37_240, s_37_241, s_37_244, s_37_245, s_37_246, s_37_247, s_37_248, s_37_251, s_37_254, s_37_257, s_37_258, s_37_261, s_37_262, s_37_263, e_37, mv_i_1, mv_l_1, mv_a_1, mv_a_2, mv_a_3, mk2_n, mk2_i, mk2_l, mk2_a, mk2_u, mk2_x, mB_T, mB_F, mS_cons, mS_nil, mSB_T, mSB_F, mca_nil, mca_i, mca_l, mca_r, mca_u, mca_x, mcat_i, mcat_l, mcat_r, mcat_u, mcat_x, mK_some, mK_none, va_rf_s, va_rf_n, lgc_eq, lgc_lt, lgc_gt, lgc_ge, lgc_le, mrd_104, mrd_105, mrd_106, mrd_107, true_and, and_true, and_self, false_and, and_false, true_or, or_true, false_or, or_false, not_true_eq_false, not_false_eq_true, mgb, mga, mgr, mN, reduceCtorEq, ↓reduceIte, eq_self, ge_iff_le, gt_iff_lt, hk_si, hk_sj, hk_sr, hl_si, hl_sj, hl_sr, hn_si, hn_sj, hn_sr, hs_si, hs_sj, hs_sr, hi_sj, hi_sr, hj_si, hj_sr, hr_si, hr_sj, hi_si, hj_sj, hr_sr, mg_si, mg_sj, mg_sr, Nat.reduceAdd, Nat.reduceMul, Nat.reduceSub, Nat.reduceLT, Nat.reduceGT, Nat.reduceEqDiff, Nat.reduceLeDiff, Nat.left_eq_add, Nat.add_eq_left, Nat.reduceMod, Nat.reduceDiv, Nat.succ_ne_self, g, r0, g2, r21, gY, y6, gS, lS, n67, m2, e0, nn_mxT, nn_clamp]
/-- compare -/
theorem c_36 {k : Nat} (hk : k < 6) : ∀ Q, mcall d 36 [.int (kd k), .int x, .int w] h Q = Q (some (.int (kb (x_rel (k + 27) x.toInt w.toInt)))) h := fun Q => by
  have k01 := kb_01 (x_rel (k + 27) x.toInt w.toInt)
  have a1 : ((128 : Int32) = 60) = False := by decide
  have a2 : ((128 : Int32) = 62) = False := by decide
  have a3 : ((62 : Int32) = 60) = False := by decide
  have a4 : ((129 : Int32) = 60) = False := by decide
  have a5 : ((129 : Int32) = 62) = False := by decide
  have a6 : ((129 : Int32) = 128) = False := by decide
  have a7 : ((130 : Int32) = 60) = False := by decide
  have a8 : ((130 : Int32) = 62) = False := by decide
  have a9 : ((130 : Int32) = 128) = False := by decide
  have b1 : ((130 : Int32) = 129) = False := by decide
  have b2 : ((131 : Int32) = 60) = False := by decide
  have b3 : ((131 : Int32) = 62) = False := by decide
  have b4 : ((131 : Int32) = 128) = False := by decide
  have b5 : ((131 : Int32) = 129) = False := by decide
  have b6 : ((131 : Int32) = 130) = False := by decide
  have l1 : (w ≤ x) = (¬ x.toInt < w.toInt) := propext (by rw [Int32.le_iff_toInt_le]; omega)
  have l2 : (w < x) = (¬ x.toInt ≤ w.toInt) := propext (by rw [Int32.lt_iff_toInt_lt]; omega)
  have l3 : (x ≤ w) = (¬ w.toInt < x.toInt) := propext (by rw [Int32.le_iff_toInt_le]; omega)
  have l4 : (x < w) = (¬ w.toInt ≤ x.toInt) := propext (by rw [Int32.lt_iff_toInt_lt]; omega)
  have l5 : (x = w) = (x.toInt = w.toInt) := propext Int32.toInt_inj.symm
  have hk' : k = 0 ∨ k = 1 ∨ k = 2 ∨ k = 3 ∨ k = 4 ∨ k = 5 := by omega
  rcases hk' with e | e | e | e | e | e <;> subst e
  · have r : x_rel (0 + 27) x.toInt w.toInt = decide (x.toInt < w.toInt) := rfl
    have k0 : kd 0 = 60 := rfl
    rw [r] at k01 ⊢
    by_cases c : x.toInt < w.toInt <;> simp (disch := omega) only [s_36_0, s_36_1, s_36_52, s_36_53, s_36_54, s_36_57, s_36_58, s_36_61, s_36_62, s_36_63, s_36_64, s_36_65, s_36_68, s_36_69, s_36_72, s_36_73, s_36_74, s_36_75, s_36_76, s_36_79, s_36_80, s_36_83, s_36_84, s_36_85, s_36_86, s_36_87, s_36_90, s_36_91, s_36_94, s_36_95, s_36_96, s_36_97, s_36_98, s_36_101, s_36_102, s_36_105, s_36_106, s_36_107, s_36_108, s_36_109, s_36_112, s_36_113, s_36_116, s_36_117, e_36, mv_i_1, mv_l_1, mv_a_1, mv_a_2, mv_a_3, mk2_n, mk2_i, mk2_l, mk2_a, mk2_u, mk2_x, mB_T, mB_F, mS_cons, mS_nil, mSB_T, mSB_F, mca_nil, mca_i, mca_l, mca_r, mca_u, mca_x, mcat_i, mcat_l, mcat_r, mcat_u, mcat_x, mK_some, mK_none, va_rf_s, va_rf_n, lgc_eq, lgc_lt, lgc_gt, lgc_ge, lgc_le, mrd_104, mrd_105, mrd_106, mrd_107, true_and, and_true, and_self, false_and, and_false, true_or, or_true, false_or, or_false, not_true_eq_false, not_false_eq_true, mgb, mga, mgr, mN, reduceCtorEq, ↓reduceIte, eq_self, ge_iff_le, gt_iff_lt, hk_si, hk_sj, hk_sr, hl_si, hl_sj, hl_sr, hn_si, hn_sj, hn_sr, hs_si, hs_sj, hs_sr, hi_sj, hi_sr, hj_si, hj_sr, hr_si, hr_sj, hi_si, hj_sj, hr_sr, mg_si, mg_sj, mg_sr, Nat.reduceAdd, Nat.reduceMul, Nat.reduceSub, Nat.reduceLT, Nat.reduceGT, Nat.reduceEqDiff, Nat.reduceLeDiff, Nat.left_eq_add, Nat.add_eq_left, Nat.reduceMod, Nat.reduceDiv, Nat.succ_ne_self, k0, l1, c, k01, decide_true, decide_false, kbT, kbF, not_true_eq_false, not_false_eq_true]
  · have r : x_rel (1 + 27) x.toInt w.toInt = decide (x.toInt ≤ w.toInt) := rfl
    have k0 : kd 1 = 128 := rfl
    rw [r] at k01 ⊢
    by_cases c : x.toInt ≤ w.toInt <;> simp (disch := omega) only [s_36_0, s_36_1, s_36_52, s_36_53, s_36_54, s_36_57, s_36_58, s_36_61, s_36_62, s_36_63, s_36_64, s_36_65, s_36_68, s_36_69, s_36_72, s_36_73, s_36_74, s_36_75, s_36_76, s_36_79, s_36_80, s_36_83, s_36_84, s_36_85, s_36_86, s_36_87, s_36_90, s_36_91, s_36_94, s_36_95, s_36_96, s_36_97, s_36_98, s_36_101, s_36_102, s_36_105, s_36_106, s_36_107, s_36_108, s_36_109, s_36_112, s_36_113, s_36_116, s_36_117, e_36, mv_i_1, mv_l_1, mv_a_1, mv_a_2, mv_a_3, mk2_n, mk2_i, mk2_l, mk2_a, mk2_u, mk2_x, mB_T, mB_F, mS_cons, mS_nil, mSB_T, mSB_F, mca_nil, mca_i, mca_l, mca_r, mca_u, mca_x, mcat_i, mcat_l, mcat_r, mcat_u, mcat_x, mK_some, mK_none, va_rf_s, va_rf_n, lgc_eq, lgc_lt, lgc_gt, lgc_ge, lgc_le, mrd_104, mrd_105, mrd_106, mrd_107, true_and, and_true, and_self, false_and, and_false, true_or, or_true, false_or, or_false, not_true_eq_false, not_false_eq_true, mgb, mga, mgr, mN, reduceCtorEq, ↓reduceIte, eq_self, ge_iff_le, gt_iff_lt, hk_si, hk_sj, hk_sr, hl_si, hl_sj, hl_sr, hn_si, hn_sj, hn_sr, hs_si, hs_sj, hs_sr, hi_sj, hi_sr, hj_si, hj_sr, hr_si, hr_sj, hi_si, hj_sj, hr_sr, mg_si, mg_sj, mg_sr, Nat.reduceAdd, Nat.reduceMul, Nat.reduceSub, Nat.reduceLT, Nat.reduceGT, Nat.reduceEqDiff, Nat.reduceLeDiff, Nat.left_eq_add, Nat.add_eq_left, Nat.reduceMod, Nat.reduceDiv, Nat.succ_ne_self, k0, a1, a2, l2, c, k01, decide_true, decide_false, kbT, kbF, not_true_eq_false, not_false_eq_true]
  · have r : x_rel (2 + 27) x.toInt w.toInt = decide (w.toInt < x.toInt) := rfl
    have k0 : kd 2 = 62 := rfl
    rw [r] at k01 ⊢
    by_cases c : w.toInt < x.toInt <;> simp (disch := omega) only [s_36_0, s_36_1, s_36_52, s_36_53, s_36_54, s_36_57, s_36_58, s_36_61, s_36_62, s_36_63, s_36_64, s_36_65, s_36_68, s_36_69, s_36_72, s_36_73, s_36_74, s_36_75, s_36_76, s_36_79, s_36_80, s_36_83, s_36_84, s_36_85, s_36_86, s_36_87, s_36_90, s_36_91, s_36_94, s_36_95, s_36_96, s_36_97, s_36_98, s_36_101, s_36_102, s_36_105, s_36_106, s_36_107, s_36_108, s_36_109, s_36_112, s_36_113, s_36_116, s_36_117, e_36, mv_i_1, mv_l_1, mv_a_1, mv_a_2, mv_a_3, mk2_n, mk2_i, mk2_l, mk2_a, mk2_u, mk2_x, mB_T, mB_F, mS_cons, mS_nil, mSB_T, mSB_F, mca_nil, mca_i, mca_l, mca_r, mca_u, mca_x, mcat_i, mcat_l, mcat_r, mcat_u, mcat_x, mK_some, mK_none, va_rf_s, va_rf_n, lgc_eq, lgc_lt, lgc_gt, lgc_ge, lgc_le, mrd_104, mrd_105, mrd_106, mrd_107, true_and, and_true, and_self, false_and, and_false, true_or, or_true, false_or, or_false, not_true_eq_false, not_false_eq_true, mgb, mga, mgr, mN, reduceCtorEq, ↓reduceIte, eq_self, ge_iff_le, gt_iff_lt, hk_si, hk_sj, hk_sr, hl_si, hl_sj, hl_sr, hn_si, hn_sj, hn_sr, hs_si, hs_sj, hs_sr, hi_sj, hi_sr, hj_si, hj_sr, hr_si, hr_sj, hi_si, hj_sj, hr_sr, mg_si, mg_sj, mg_sr, Nat.reduceAdd, Nat.reduceMul, Nat.reduceSub, Nat.reduceLT, Nat.reduceGT, Nat.reduceEqDiff, Nat.reduceLeDiff, Nat.left_eq_add, Nat.add_eq_left, Nat.reduceMod, Nat.reduceDiv, Nat.succ_ne_self, k0, a3, l3, c, k01, decide_true, decide_false, kbT, kbF, not_true_eq_false, not_false_eq_true]
  · have r : x_rel (3 + 27) x.toInt w.toInt = decide (w.toInt ≤ x.toInt) := rfl
    have k0 : kd 3 = 129 := rfl
    rw [r] at k01 ⊢
    by_cases c : w.toInt ≤ x.toInt <;> simp (disch := omega) only [s_36_0, s_36_1, s_36_52, s_36_53, s_36_54, s_36_57, s_36_58, s_36_61, s_36_62, s_36_63, s_36_64, s_36_65, s_36_68, s_36_69, s_36_72, s_36_73, s_36_74, s_36_75, s_36_76, s_36_79, s_36_80, s_36_83, s_36_84, s_36_85, s_36_86, s_36_87, s_36_90, s_36_91, s_36_94, s_36_95, s_36_96, s_36_97, s_36_98, s_36_101, s_36_102, s_36_105, s_36_106, s_36_107, s_36_108, s_36_109, s_36_112, s_36_113, s_36_116, s_36_117, e_36, mv_i_1, mv_l_1, mv_a_1, mv_a_2, mv_a_3, mk2_n, mk2_i, mk2_l, mk2_a, mk2_u, mk2_x, mB_T, mB_F, mS_cons, mS_nil, mSB_T, mSB_F, mca_nil, mca_i, mca_l, mca_r, mca_u, mca_x, mcat_i, mcat_l, mcat_r, mcat_u, mcat_x, mK_some, mK_none, va_rf_s, va_rf_n, lgc_eq, lgc_lt, lgc_gt, lgc_ge, lgc_le, mrd_104, mrd_105, mrd_106, mrd_107, true_and, and_true, and_self, false_and, and_false, true_or, or_true, false_or, or_false, not_true_eq_false, not_false_eq_true, mgb, mga, mgr, mN, reduceCtorEq, ↓reduceIte, eq_self, ge_iff_le, gt_iff_lt, hk_si, hk_sj, hk_sr, hl_si, hl_sj, hl_sr, hn_si, hn_sj, hn_sr, hs_si, hs_sj, hs_sr, hi_sj, hi_sr, hj_si, hj_sr, hr_si, hr_sj, hi_si, hj_sj, hr_sr, mg_si, mg_sj, mg_sr, Nat.reduceAdd, Nat.reduceMul, Nat.reduceSub, Nat.reduceLT, Nat.reduceGT, Nat.reduceEqDiff, Nat.reduceLeDiff, Nat.left_eq_add, Nat.add_eq_left, Nat.reduceMod, Nat.reduceDiv, Nat.succ_ne_self, k0, a4, a5, a6, l4, c, k01, decide_true, decide_false, kbT, kbF, not_true_eq_false, not_false_eq_true]
  · have r : x_rel (4 + 27) x.toInt w.toInt = decide (x.toInt = w.toInt) := rfl
    have k0 : kd 4 = 130 := rfl
    rw [r] at k01 ⊢
    by_cases c : x.toInt = w.toInt <;> simp (disch := omega) only [s_36_0, s_36_1, s_36_52, s_36_53, s_36_54, s_36_57, s_36_58, s_36_61, s_36_62, s_36_63, s_36_64, s_36_65, s_36_68, s_36_69, s_36_72, s_36_73, s_36_74, s_36_75, s_36_76, s_36_79, s_36_80, s_36_83, s_36_84, s_36_85, s_36_86, s_36_87, s_36_90, s_36_91, s_36_94, s_36_95, s_36_96, s_36_97, s_36_98, s_36_101, s_36_102, s_36_105, s_36_106, s_36_107, s_36_108, s_36_109, s_36_112, s_36_113, s_36_116, s_36_117, e_36, mv_i_1, mv_l_1, mv_a_1, mv_a_2, mv_a_3, mk2_n, mk2_i, mk2_l, mk2_a, mk2_u, mk2_x, mB_T, mB_F, mS_cons, mS_nil, mSB_T, mSB_F, mca_nil, mca_i, mca_l, mca_r, mca_u, mca_x, mcat_i, mcat_l, mcat_r, mcat_u, mcat_x, mK_some, mK_none, va_rf_s, va_rf_n, lgc_eq, lgc_lt, lgc_gt, lgc_ge, lgc_le, mrd_104, mrd_105, mrd_106, mrd_107, true_and, and_true, and_self, false_and, and_false, true_or, or_true, false_or, or_false, not_true_eq_false, not_false_eq_true, mgb, mga, mgr, mN, reduceCtorEq, ↓reduceIte, eq_self, ge_iff_le, gt_iff_lt, hk_si, hk_sj, hk_sr, hl_si, hl_sj, hl_sr, hn_si, hn_sj, hn_sr, hs_si, hs_sj, hs_sr, hi_sj, hi_sr, hj_si, hj_sr, hr_si, hr_sj, hi_si, hj_sj, hr_sr, mg_si, mg_sj, mg_sr, Nat.reduceAdd, Nat.reduceMul, Nat.reduceSub, Nat.reduceLT, Nat.reduceGT, Nat.reduceEqDiff, Nat.reduceLeDiff, Nat.left_eq_add, Nat.add_eq_left, Nat.reduceMod, Nat.reduceDiv, Nat.succ_ne_self, k0, a7, a8, a9, b1, l5, c, k01, decide_true, decide_false, kbT, kbF, not_true_eq_false, not_false_eq_true]
  · have r : x_rel (5 + 27) x.toInt w.toInt = decide (¬ x.toInt = w.toInt) := rfl
    have k0 : kd 5 = 131 := rfl
    rw [r] at k01 ⊢
    by_cases c : x.toInt = w.toInt <;> simp (disch := omega) only [s_36_0, s_36_1, s_36_52, s_36_53, s_36_54, s_36_57, s_36_58, s_36_61, s_36_62, s_36_63, s_36_64, s_36_65, s_36_68, s_36_69, s_36_72, s_36_73, s_36_74, s_36_75, s_36_76, s_36_79, s_36_80, s_36_83, s_36_84, s_36_85, s_36_86, s_36_87, s_36_90, s_36_91, s_36_94, s_36_95, s_36_96, s_36_97, s_36_98, s_36_101, s_36_102, s_36_105, s_36_106, s_36_107, s_36_108, s_36_109, s_36_112, s_36_113, s_36_116, s_36_117, e_36, mv_i_1, mv_l_1, mv_a_1, mv_a_2, mv_a_3, mk2_n, mk2_i, mk2_l, mk2_a, mk2_u, mk2_x, mB_T, mB_F, mS_cons, mS_nil, mSB_T, mSB_F, mca_nil, mca_i, mca_l, mca_r, mca_u, mca_x, mcat_i, mcat_l, mcat_r, mcat_u, mcat_x, mK_some, mK_none, va_rf_s, va_rf_n, lgc_eq, lgc_lt, lgc_gt, lgc_ge, lgc_le, mrd_104, mrd_105, mrd_106, mrd_107, true_and, and_true, and_self, false_and, and_false, true_or, or_true, false_or, or_false, not_true_eq_false, not_false_eq_true, mgb, mga, mgr, mN, reduceCtorEq, ↓reduceIte, eq_self, ge_iff_le, gt_iff_lt, hk_si, hk_sj, hk_sr, hl_si, hl_sj, hl_sr, hn_si, hn_sj, hn_sr, hs_si, hs_sj, hs_sr, hi_sj, hi_sr, hj_si, hj_sr, hr_si, hr_sj, hi_si, hj_sj, hr_sr, mg_si, mg_sj, mg_sr, Nat.reduceAdd, Nat.reduceMul, Nat.reduceSub, Nat.reduceLT, Nat.reduceGT, Nat.reduceEqDiff, Nat.reduceLeDiff, Nat.left_eq_add, Nat.add_eq_left, Nat.reduceMod, Nat.reduceDiv, Nat.succ_ne_self, k0, b2, b3, b4, b5, b6, l5, c, k01, decide_true, decide_false, kbT, kbF, not_true_eq_false, not_false_eq_true]
end HDs
