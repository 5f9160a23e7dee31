set_option maxRecDepth 100000
/-! the class's machine: holds, by the tree -/
def MC (h : mh_H) (St Y KA WA nK k0 ce : Nat) : Prop := (mg h St 9) ∧ (mh_i h St 12 = Int32.ofNat k0) ∧ (mh_i h St 13 = Int32.ofNat ce) ∧ (mh_r h Y 9 = some KA) ∧ (mg h KA 100) ∧ (mh_l h KA = nK) ∧ (mh_r h Y 10 = some WA) ∧ (mg h WA 100) ∧ (mh_l h WA = nK) ∧ (ce ≤ nK ∧ nK < 1000000 ∧ k0 ≤ ce) ∧ (St ≠ 67 ∧ St ≠ 72 ∧ KA ≠ 67 ∧ KA ≠ 72 ∧ WA ≠ 67 ∧ WA ≠ 72)
theorem MC.of {h : mh_H} {St Y KA WA nK k0 ce : Nat} (q : (mg h St 9) ∧ (mh_i h St 12 = Int32.ofNat k0) ∧ (mh_i h St 13 = Int32.ofNat ce) ∧ (mh_r h Y 9 = some KA) ∧ (mg h KA 100) ∧ (mh_l h KA = nK) ∧ (mh_r h Y 10 = some WA) ∧ (mg h WA 100) ∧ (mh_l h WA = nK) ∧ (ce ≤ nK ∧ nK < 1000000 ∧ k0 ≤ ce) ∧ (St ≠ 67 ∧ St ≠ 72 ∧ KA ≠ 67 ∧ KA ≠ 72 ∧ WA ≠ 67 ∧ WA ≠ 72)) : MC h St Y KA WA nK k0 ce := q
theorem MC.g {h : mh_H} {St Y KA WA nK k0 ce : Nat} (q : MC h St Y KA WA nK k0 ce) : mg h St 9 := q.1
theorem MC.s12 {h : mh_H} {St Y KA WA nK k0 ce : Nat} (q : MC h St Y KA WA nK k0 ce) : mh_i h St 12 = Int32.ofNat k0 := q.2.1
theorem MC.s13 {h : mh_H} {St Y KA WA nK k0 ce : Nat} (q : MC h St Y KA WA nK k0 ce) : mh_i h St 13 = Int32.ofNat ce := q.2.2.1
theorem MC.r9 {h : mh_H} {St Y KA WA nK k0 ce : Nat} (q : MC h St Y KA WA nK k0 ce) : mh_r h Y 9 = some KA := q.2.2.2.1
theorem MC.gK {h : mh_H} {St Y KA WA nK k0 ce : Nat} (q : MC h St Y KA WA nK k0 ce) : mg h KA 100 := q.2.2.2.2.1
theorem MC.lK {h : mh_H} {St Y KA WA nK k0 ce : Nat} (q : MC h St Y KA WA nK k0 ce) : mh_l h KA = nK := q.2.2.2.2.2.1
theorem MC.r10 {h : mh_H} {St Y KA WA nK k0 ce : Nat} (q : MC h St Y KA WA nK k0 ce) : mh_r h Y 10 = some WA := q.2.2.2.2.2.2.1
theorem MC.gW {h : mh_H} {St Y KA WA nK k0 ce : Nat} (q : MC h St Y KA WA nK k0 ce) : mg h WA 100 := q.2.2.2.2.2.2.2.1
theorem MC.lW {h : mh_H} {St Y KA WA nK k0 ce : Nat} (q : MC h St Y KA WA nK k0 ce) : mh_l h WA = nK := q.2.2.2.2.2.2.2.2.1
theorem MC.b {h : mh_H} {St Y KA WA nK k0 ce : Nat} (q : MC h St Y KA WA nK k0 ce) : ce ≤ nK ∧ nK < 1000000 ∧ k0 ≤ ce := q.2.2.2.2.2.2.2.2.2.1
theorem MC.ne {h : mh_H} {St Y KA WA nK k0 ce : Nat} (q : MC h St Y KA WA nK k0 ce) : St ≠ 67 ∧ St ≠ 72 ∧ KA ≠ 67 ∧ KA ≠ 72 ∧ WA ≠ 67 ∧ WA ≠ 72 := q.2.2.2.2.2.2.2.2.2.2
abbrev hdL (St Y : Nat) (b : Bool) (k : Nat) (x5 x6 x7 : Option Value) : me_L := [some (.ref 67), some (.ref St), some (.ref Y), some (.int (kb b)), some (.int (Int32.ofNat k)), x5, x6, x7]
section HEs
variable {d : Nat} {h h1 : mh_H} {Y C SC nC nS nb na p gv c k k' k0 ce St KA WA nK H : Nat} {en : Int → Nat} {sN : Int → Prop} {A : ab} {t : tr} {b an : Bool} {x5 x6 x7 : Option Value}
theorem MC_G (f : fG mcW h h1) (M : MC h St Y KA WA nK k0 ce) : MC h1 St Y KA WA nK k0 ce := by
  have ne := M.ne
  exact MC.of ⟨by rw [fG_me f]; exact M.g, by rw [MB_i f ⟨ne.2.1, ne.1⟩]; exact M.s12, by rw [MB_i f ⟨ne.2.1, ne.1⟩]; exact M.s13, by rw [f.2.2.1]; exact M.r9, by rw [fG_me f]; exact M.gK, by rw [f.2.1]; exact M.lK, by rw [f.2.2.1]; exact M.r10, by rw [fG_me f]; exact M.gW, by rw [f.2.1]; exact M.lW, M.b, M.ne⟩
theorem hx_e (B : MB h Y C SC nC nS nb na p gv) (M : MC h St Y KA WA nK k0 ce) (hk : k ≤ ce) (e : ¬ mh_i h 67 10 = 0 ∨ k = ce) : ∀ Q, mw d 35 Q 16 (hdL St Y b k x5 x6 x7) [] h = Q (some (.int (kb b))) h := fun Q => by
  have g := B.g
  have gs := M.g
  have s13 := M.s13
  have bb := M.b
  have k01 := kb_01 b
  clear B M
  by_cases c : k = ce
  · have le : (ce ≤ k) = True := eq_true (by omega)
    simp (disch := omega) only [hdL, s_35_0, s_35_1, s_35_4, s_35_7, s_35_7n, s_35_8, s_35_9, s_35_10, s_35_11, s_35_14, s_35_16, s_35_18, s_35_19, s_35_22, s_35_25, s_35_26, s_35_29, s_35_32, s_35_33, s_35_36, s_35_38, s_35_39, s_35_41, s_35_43, s_35_45, s_35_48, s_35_49, s_35_52, s_35_53, s_35_56, s_35_57, s_35_58, s_35_61, s_35_63, s_35_66, s_35_69, s_35_71, s_35_74, s_35_77, s_35_78, s_35_80, s_35_83, s_35_86, s_35_87, s_35_90, s_35_91, s_35_94, s_35_96, s_35_97, s_35_100, s_35_102, s_35_103, s_35_104, s_35_105, s_35_108, s_35_110, s_35_113, s_35_115, s_35_118, s_35_121, s_35_123, s_35_126, s_35_129, s_35_130, s_35_131, s_35_134, s_35_136, s_35_137, s_35_140, s_35_142, s_35_143, s_35_144, s_35_147, s_35_149, s_35_150, s_35_151, s_35_152, s_35_155, s_35_157, s_35_159, s_35_161, s_35_163, s_35_166, s_35_167, s_35_170, s_35_173, s_35_174, e_35, mv_i_1, mv_l_1, mv_a_1, mv_a_2, mv_a_3, mk2_n, mk2_i, mk2_l, mk2_a, mk2_u, mk2_x, mB_T, mB_F, mS_cons, mS_nil, mSB_T, mSB_F, mca_nil, mca_i, mca_l, mca_r, mca_u, mca_x, mcat_i, mcat_l, mcat_r, mcat_u, mcat_x, mK_some, mK_none, va_rf_s, va_rf_n, lgc_eq, lgc_lt, lgc_gt, lgc_ge, lgc_le, mrd_104, mrd_105, mrd_106, mrd_107, true_and, and_true, and_self, false_and, and_false, true_or, or_true, false_or, or_false, not_true_eq_false, not_false_eq_true, mgb, mga, mgr, mN, reduceCtorEq, ↓reduceIte, eq_self, ge_iff_le, gt_iff_lt, hk_si, hk_sj, hk_sr, hl_si, hl_sj, hl_sr, hn_si, hn_sj, hn_sr, hs_si, hs_sj, hs_sr, hi_sj, hi_sr, hj_si, hj_sr, hr_si, hr_sj, hi_si, hj_sj, hr_sr, mg_si, mg_sj, mg_sr, Nat.reduceAdd, Nat.reduceMul, Nat.reduceSub, Nat.reduceLT, Nat.reduceGT, Nat.reduceEqDiff, Nat.reduceLeDiff, Nat.left_eq_add, Nat.add_eq_left, Nat.reduceMod, Nat.reduceDiv, Nat.succ_ne_self, g, gs, s13, nn_le, le, k01]
  · have le : (ce ≤ k) = False := eq_false (by omega)
    have t0 : (mh_i h 67 10 = 0) = False := eq_false (e.resolve_right c)
    simp (disch := omega) only [hdL, s_35_0, s_35_1, s_35_4, s_35_7, s_35_7n, s_35_8, s_35_9, s_35_10, s_35_11, s_35_14, s_35_16, s_35_18, s_35_19, s_35_22, s_35_25, s_35_26, s_35_29, s_35_32, s_35_33, s_35_36, s_35_38, s_35_39, s_35_41, s_35_43, s_35_45, s_35_48, s_35_49, s_35_52, s_35_53, s_35_56, s_35_57, s_35_58, s_35_61, s_35_63, s_35_66, s_35_69, s_35_71, s_35_74, s_35_77, s_35_78, s_35_80, s_35_83, s_35_86, s_35_87, s_35_90, s_35_91, s_35_94, s_35_96, s_35_97, s_35_100, s_35_102, s_35_103, s_35_104, s_35_105, s_35_108, s_35_110, s_35_113, s_35_115, s_35_118, s_35_121, s_35_123, s_35_126, s_35_129, s_35_130, s_35_131, s_35_134, s_35_136, s_35_137, s_35_140, s_35_142, s_35_143, s_35_144, s_35_147, s_35_149, s_35_150, s_35_151, s_35_152, s_35_155, s_35_157, s_35_159, s_35_161, s_35_163, s_35_166, s_35_167, s_35_170, s_35_173, s_35_174, e_35, mv_i_1, mv_l_1, mv_a_1, mv_a_2, mv_a_3, mk2_n, mk2_i, mk2_l, mk2_a, mk2_u, mk2_x, mB_T, mB_F, mS_cons, mS_nil, mSB_T, mSB_F, mca_nil, mca_i, mca_l, mca_r, mca_u, mca_x, mcat_i, mcat_l, mcat_r, mcat_u, mcat_x, mK_some, mK_none, va_rf_s, va_rf_n, lgc_eq, lgc_lt, lgc_gt, lgc_ge, lgc_le, mrd_104, mrd_105, mrd_106, mrd_107, true_and, and_true, and_self, false_and, and_false, true_or, or_true, false_or, or_false, not_true_eq_false, not_false_eq_true, mgb, mga, mgr, mN, reduceCtorEq, ↓reduceIte, eq_self, ge_iff_le, gt_iff_lt, hk_si, hk_sj, hk_sr, hl_si, hl_sj, hl_sr, hn_si, hn_sj, hn_sr, hs_si, hs_sj, hs_sr, hi_sj, hi_sr, hj_si, hj_sr, hr_si, hr_sj, hi_si, hj_sj, hr_sr, mg_si, mg_sj, mg_sr, Nat.reduceAdd, Nat.reduceMul, Nat.reduceSub, Nat.reduceLT, Nat.reduceGT, Nat.reduceEqDiff, Nat.reduceLeDiff, Nat.left_eq_add, Nat.add_eq_left, Nat.reduceMod, Nat.reduceDiv, Nat.succ_ne_self, g, gs, s13, nn_le, le, t0, k01]
/-- the code -/
theorem hx_0 (B : MB h Y C SC nC nS nb na p gv) (M : MC h St Y KA WA nK k0 ce) (hk : k < ce) (e10 : mh_i h 67 10 = 0) : ∀ Q, mw d 35 Q 16 (hdL St Y b k x5 x6 x7) [] h = mw d 35 Q 41 (hdL St Y b k (some (.int (mh_i h KA k))) x6 x7) [] h := fun Q => by
  have g := B.g
  have gY := B.gY
  have gs := M.g
  have s13 := M.s13
  have bb := M.b
  have r9 := M.r9
  have gK := M.gK
  have lK := M.lK
  have le : (ce ≤ k) = False := eq_false (by omega)
  have e00 : ((0 : Int32) = 0) = True := by decide
  clear B M
  rw [s_35_16]
  simp (disch := omega) only [hdL, s_35_0, s_35_1, s_35_4, s_35_7, s_35_7n, s_35_8, s_35_9, s_35_10, s_35_11, s_35_14, s_35_18, s_35_19, s_35_22, s_35_25, s_35_26, s_35_29, s_35_32, s_35_33, s_35_36, s_35_38, s_35_39, s_35_43, s_35_45, s_35_48, s_35_49, s_35_52, s_35_53, s_35_56, s_35_57, s_35_58, s_35_61, s_35_63, s_35_66, s_35_69, s_35_71, s_35_74, s_35_77, s_35_78, s_35_80, s_35_83, s_35_86, s_35_87, s_35_90, s_35_91, s_35_94, s_35_96, s_35_97, s_35_100, s_35_102, s_35_103, s_35_104, s_35_105, s_35_108, s_35_110, s_35_113, s_35_115, s_35_118, s_35_121, s_35_123, s_35_126, s_35_129, s_35_130, s_35_131, s_35_134, s_35_136, s_35_137, s_35_140, s_35_142, s_35_143, s_35_144, s_35_147, s_35_149, s_35_150, s_35_151, s_35_152, s_35_155, s_35_157, s_35_159, s_35_161, s_35_163, s_35_166, s_35_167, s_35_170, s_35_173, s_35_174, e_35, mv_i_1, mv_l_1, mv_a_1, mv_a_2, mv_a_3, mk2_n, mk2_i, mk2_l, mk2_a, mk2_u, mk2_x, mB_T, mB_F, mS_cons, mS_nil, mSB_T, mSB_F, mca_nil, mca_i, mca_l, mca_r, mca_u, mca_x, mcat_i, mcat_l, mcat_r, mcat_u, mcat_x, mK_some, mK_none, va_rf_s, va_rf_n, lgc_eq, lgc_lt, lgc_gt, lgc_ge, lgc_le, mrd_104, mrd_105, mrd_106, mrd_107, true_and, and_true, and_self, false_and, and_false, true_or, or_true, false_or, or_false, not_true_eq_false, not_false_eq_true, mgb, mga, mgr, mN, reduceCtorEq, ↓reduceIte, eq_self, ge_iff_le, gt_iff_lt, hk_si, hk_sj, hk_sr, hl_si, hl_sj, hl_sr, hn_si, hn_sj, hn_sr, hs_si, hs_sj, hs_sr, hi_sj, hi_sr, hj_si, hj_sr, hr_si, hr_sj, hi_si, hj_sj, hr_sr, mg_si, mg_sj, mg_sr, Nat.reduceAdd, Nat.reduceMul, Nat.reduceSub, Nat.reduceLT, Nat.reduceGT, Nat.reduceEqDiff, Nat.reduceLeDiff, Nat.left_eq_add, Nat.add_eq_left, Nat.reduceMod, Nat.reduceDiv, Nat.succ_ne_self, g, gY, gs, s13, nn_le, le, e10, e00, r9, gK, lK, nn_mxT, nn_clamp]
theorem hx_1 (hk : k < 1000000) : ∀ Q, mw d 35 Q 41 (hdL St Y b k (some (.int 33)) x6 x7) [] h = mw d 35 Q 16 (hdL St Y (!b) (k + 1) (some (.int 33)) x6 x7) [] h := fun Q => by
  have e33 : ((33 : Int32) = 33) = True := by decide
  have ei : Int32.ofNat k + 1 = Int32.ofNat (k + 1) := nn_add (a := k) (b := 1)
  have e00 : ((0 : Int32) = 0) = True := by decide
  have e10 : ((1 : Int32) = 0) = False := by decide
  cases b with
  | true =>
    have n : (!true) = false := rfl
    rw [n]
    simp (disch := omega) only [hdL, s_35_0, s_35_1, s_35_4, s_35_7, s_35_7n, s_35_8, s_35_9, s_35_10, s_35_11, s_35_14, s_35_18, s_35_19, s_35_22, s_35_25, s_35_26, s_35_29, s_35_32, s_35_33, s_35_36, s_35_38, s_35_39, s_35_41, s_35_43, s_35_45, s_35_48, s_35_49, s_35_52, s_35_53, s_35_56, s_35_57, s_35_58, s_35_61, s_35_63, s_35_66, s_35_69, s_35_71, s_35_74, s_35_77, s_35_78, s_35_80, s_35_83, s_35_86, s_35_87, s_35_90, s_35_91, s_35_94, s_35_96, s_35_97, s_35_100, s_35_102, s_35_103, s_35_104, s_35_105, s_35_108, s_35_110, s_35_113, s_35_115, s_35_118, s_35_121, s_35_123, s_35_126, s_35_129, s_35_130, s_35_131, s_35_134, s_35_136, s_35_137, s_35_140, s_35_142, s_35_143, s_35_144, s_35_147, s_35_149, s_35_150, s_35_151, s_35_152, s_35_155, s_35_157, s_35_159, s_35_161, s_35_163, s_35_166, s_35_167, s_35_170, s_35_173, s_35_174, e_35, mv_i_1, mv_l_1, mv_a_1, mv_a_2, mv_a_3, mk2_n, mk2_i, mk2_l, mk2_a, mk2_u, mk2_x, mB_T, mB_F, mS_cons, mS_nil, mSB_T, mSB_F, mca_nil, mca_i, mca_l, mca_r, mca_u, mca_x, mcat_i, mcat_l, mcat_r, mcat_u, mcat_x, mK_some, mK_none, va_rf_s, va_rf_n, lgc_eq, lgc_lt, lgc_gt, lgc_ge, lgc_le, mrd_104, mrd_105, mrd_106, mrd_107, true_and, and_true, and_self, false_and, and_false, true_or, or_true, false_or, or_false, not_true_eq_false, not_false_eq_true, mgb, mga, mgr, mN, reduceCtorEq, ↓reduceIte, eq_self, ge_iff_le, gt_iff_lt, hk_si, hk_sj, hk_sr, hl_si, hl_sj, hl_sr, hn_si, hn_sj, hn_sr, hs_si, hs_sj, hs_sr, hi_sj, hi_sr, hj_si, hj_sr, hr_si, hr_sj, hi_si, hj_sj, hr_sr, mg_si, mg_sj, mg_sr, Nat.reduceAdd, Nat.reduceMul, Nat.reduceSub, Nat.reduceLT, Nat.reduceGT, Nat.reduceEqDiff, Nat.reduceLeDiff, Nat.left_eq_add, Nat.add_eq_left, Nat.reduceMod, Nat.reduceDiv, Nat.succ_ne_self, e33, kbT, kbF, e10, ei]
  | false =>
    have n : (!false) = true := rfl
    rw [n]
    simp (disch := omega) only [hdL, s_35_0, s_35_1, s_35_4, s_35_7, s_35_7n, s_35_8, s_35_9, s_35_10, s_35_11, s_35_14, s_35_18, s_35_19, s_35_22, s_35_25, s_35_26, s_35_29, s_35_32, s_35_33, s_35_36, s_35_38, s_35_39, s_35_41, s_35_43, s_35_45, s_35_48, s_35_49, s_35_52, s_35_53, s_35_56, s_35_57, s_35_58, s_35_61, s_35_63, s_35_66, s_35_69, s_35_71, s_35_74, s_35_77, s_35_78, s_35_80, s_35_83, s_35_86, s_35_87, s_35_90, s_35_91, s_35_94, s_35_96, s_35_97, s_35_100, s_35_102, s_35_103, s_35_104, s_35_105, s_35_108, s_35_110, s_35_113, s_35_115, s_35_118, s_35_121, s_35_123, s_35_126, s_35_129, s_35_130, s_35_131, s_35_134, s_35_136, s_35_137, s_35_140, s_35_142, s_35_143, s_35_144, s_35_147, s_35_149, s_35_150, s_35_151, s_35_152, s_35_155, s_35_157, s_35_159, s_35_161, s_35_163, s_35_166, s_35_167, s_35_170, s_35_173, s_35_174, e_35, mv_i_1, mv_l_1, mv_a_1, mv_a_2, mv_a_3, mk2_n, mk2_i, mk2_l, mk2_a, mk2_u, mk2_x, mB_T, mB_F, mS_cons, mS_nil, mSB_T, mSB_F, mca_nil, mca_i, mca_l, mca_r, mca_u, mca_x, mcat_i, mcat_l, mcat_r, mcat_u, mcat_x, mK_some, mK_none, va_rf_s, va_rf_n, lgc_eq, lgc_lt, lgc_gt, lgc_ge, lgc_le, mrd_104, mrd_105, mrd_106, mrd_107, true_and, and_true, and_self, false_and, and_false, true_or, or_true, false_or, or_false, not_true_eq_false, not_false_eq_true, mgb, mga, mgr, mN, reduceCtorEq, ↓reduceIte, eq_self, ge_iff_le, gt_iff_lt, hk_si, hk_sj, hk_sr, hl_si, hl_sj, hl_sr, hn_si, hn_sj, hn_sr, hs_si, hs_sj, hs_sr, hi_sj, hi_sr, hj_si, hj_sr, hr_si, hr_sj, hi_si, hj_sj, hr_sr, mg_si, mg_sj, mg_sr, Nat.reduceAdd, Nat.reduceMul, Nat.reduceSub, Nat.reduceLT, Nat.reduceGT, Nat.reduceEqDiff, Nat.reduceLeDiff, Nat.left_eq_add, Nat.add_eq_left, Nat.reduceMod, Nat.reduceDiv, Nat.succ_ne_self, e33, kbT, kbF, e00, ei]
theorem hx_3 (hk : k < 1000000) : ∀ Q, mw d 35 Q 41 (hdL St Y b k (some (.int (if an = true then 134 else 135))) x6 x7) [] h = mw d 35 Q 16 (hdL St Y b (k + 1) (some (.int (if an = true then 134 else 135))) x6 x7) [] h := fun Q => by
  have ei : Int32.ofNat k + 1 = Int32.ofNat (k + 1) := nn_add (a := k) (b := 1)
  have a1 : ((134 : Int32) = 33) = False := by decide
  have a2 : ((134 : Int32) = 132) = False := by decide
  have a3 : ((134 : Int32) = 133) = False := by decide
  have a4 : ((134 : Int32) = 134) = True := by decide
  have b1 : ((135 : Int32) = 33) = False := by decide
  have b2 : ((135 : Int32) = 132) = False := by decide
  have b3 : ((135 : Int32) = 133) = False := by decide
  have b4 : ((135 : Int32) = 134) = False := by decide
  have b5 : ((135 : Int32) = 135) = True := by decide
  cases an with
  | true =>
    rw [if_pos rfl]
    simp (disch := omega) only [hdL, s_35_0, s_35_1, s_35_4, s_35_7, s_35_7n, s_35_8, s_35_9, s_35_10, s_35_11, s_35_14, s_35_18, s_35_19, s_35_22, s_35_25, s_35_26, s_35_29, s_35_32, s_35_33, s_35_36, s_35_38, s_35_39, s_35_41, s_35_43, s_35_45, s_35_48, s_35_49, s_35_52, s_35_53, s_35_56, s_35_57, s_35_58, s_35_61, s_35_63, s_35_66, s_35_69, s_35_71, s_35_74, s_35_77, s_35_78, s_35_80, s_35_83, s_35_86, s_35_87, s_35_90, s_35_91, s_35_94, s_35_96, s_35_97, s_35_100, s_35_102, s_35_103, s_35_104, s_35_105, s_35_108, s_35_110, s_35_113, s_35_115, s_35_118, s_35_121, s_35_123, s_35_126, s_35_129, s_35_130, s_35_131, s_35_134, s_35_136, s_35_137, s_35_140, s_35_142, s_35_143, s_35_144, s_35_147, s_35_149, s_35_150, s_35_151, s_35_152, s_35_155, s_35_157, s_35_159, s_35_161, s_35_163, s_35_166, s_35_167, s_35_170, s_35_173, s_35_174, e_35, mv_i_1, mv_l_1, mv_a_1, mv_a_2, mv_a_3, mk2_n, mk2_i, mk2_l, mk2_a, mk2_u, mk2_x, mB_T, mB_F, mS_cons, mS_nil, mSB_T, mSB_F, mca_nil, mca_i, mca_l, mca_r, mca_u, mca_x, mcat_i, mcat_l, mcat_r, mcat_u, mcat_x, mK_some, mK_none, va_rf_s, va_rf_n, lgc_eq, lgc_lt, lgc_gt, lgc_ge, lgc_le, mrd_104, mrd_105, mrd_106, mrd_107, true_and, and_true, and_self, false_and, and_false, true_or, or_true, false_or, or_false, not_true_eq_false, not_false_eq_true, mgb, mga, mgr, mN, reduceCtorEq, ↓reduceIte, eq_self, ge_iff_le, gt_iff_lt, hk_si, hk_sj, hk_sr, hl_si, hl_sj, hl_sr, hn_si, hn_sj, hn_sr, hs_si, hs_sj, hs_sr, hi_sj, hi_sr, hj_si, hj_sr, hr_si, hr_sj, hi_si, hj_sj, hr_sr, mg_si, mg_sj, mg_sr, Nat.reduceAdd, Nat.reduceMul, Nat.reduceSub, Nat.reduceLT, Nat.reduceGT, Nat.reduceEqDiff, Nat.reduceLeDiff, Nat.left_eq_add, Nat.add_eq_left, Nat.reduceMod, Nat.reduceDiv, Nat.succ_ne_self, a1, a2, a3, a4, ei]
  | false =>
    rw [if_neg (by decide)]
    simp (disch := omega) only [hdL, s_35_0, s_35_1, s_35_4, s_35_7, s_35_7n, s_35_8, s_35_9, s_35_10, s_35_11, s_35_14, s_35_18, s_35_19, s_35_22, s_35_25, s_35_26, s_35_29, s_35_32, s_35_33, s_35_36, s_35_38, s_35_39, s_35_41, s_35_43, s_35_45, s_35_48, s_35_49, s_35_52, s_35_53, s_35_56, s_35_57, s_35_58, s_35_61, s_35_63, s_35_66, s_35_69, s_35_71, s_35_74, s_35_77, s_35_78, s_35_80, s_35_83, s_35_86, s_35_87, s_35_90, s_35_91, s_35_94, s_35_96, s_35_97, s_35_100, s_35_102, s_35_103, s_35_104, s_35_105, s_35_108, s_35_110, s_35_113, s_35_115, s_35_118, s_35_121, s_35_123, s_35_126, s_35_129, s_35_130, s_35_131, s_35_134, s_35_136, s_35_137, s_35_140, s_35_142, s_35_143, s_35_144, s_35_147, s_35_149, s_35_150, s_35_151, s_35_152, s_35_155, s_35_157, s_35_159, s_35_161, s_35_163, s_35_166, s_35_167, s_35_170, s_35_173, s_35_174, e_35, mv_i_1, mv_l_1, mv_a_1, mv_a_2, mv_a_3, mk2_n, mk2_i, mk2_l, mk2_a, mk2_u, mk2_x, mB_T, mB_F, mS_cons, mS_nil, mSB_T, mSB_F, mca_nil, mca_i, mca_l, mca_r, mca_u, mca_x, mcat_i, mcat_l, mcat_r, mcat_u, mcat_x, mK_some, mK_none, va_rf_s, va_rf_n, lgc_eq, lgc_lt, lgc_gt, lgc_ge, lgc_le, mrd_104, mrd_105, mrd_106, mrd_107, true_and, and_true, and_self, false_and, and_false, true_or, or_true, false_or, or_false, not_true_eq_false, not_false_eq_true, mgb, mga, mgr, mN, reduceCtorEq, ↓reduceIte, eq_self, ge_iff_le, gt_iff_lt, hk_si, hk_sj, hk_sr, hl_si, hl_sj, hl_sr, hn_si, hn_sj, hn_sr, hs_si, hs_sj, hs_sr, hi_sj, hi_sr, hj_si, hj_sr, hr_si, hr_sj, hi_si, hj_sj, hr_sr, mg_si, mg_sj, mg_sr, Nat.reduceAdd, Nat.reduceMul, Nat.reduceSub, Nat.reduceLT, Nat.reduceGT, Nat.reduceEqDiff, Nat.reduceLeDiff, Nat.left_eq_add, Nat.add_eq_left, Nat.reduceMod, Nat.reduceDiv, Nat.succ_ne_self, b1, b2, b3, b4, b5, ei]
theorem hx_2 (B : MB h Y C SC nC nS nb na p gv) (M : MC h St Y KA WA nK k0 ce) (hk : k < ce) {k1 : Nat} (hw : mh_i h WA k = Int32.ofNat (k1 + 1)) (h1 : k ≤ k1) (h2 : k1 < 1000000) : ∀ Q, mw d 35 Q 41 (hdL St Y b k (some (.int (if an = true then 132 else 133))) x6 x7) [] h = mw d 35 Q 16 (hdL St Y b (if b = an then k + 1 else k1 + 1) (some (.int (if an = true then 132 else 133))) x6 x7) [] h := fun Q => by
  have gY := B.gY
  have bb := M.b
  have r10 := M.r10
  have gW := M.gW
  have lW := M.lW
  have ei : ∀ k, Int32.ofNat k + 1 = Int32.ofNat (k + 1) := fun k => nn_add (a := k) (b := 1)
  have es : Int32.ofNat (k1 + 1) - 1 = Int32.ofNat k1 := nn_sub (a := k1 + 1) (b := 1) (by omega)
  have mx' : (if Int32.ofNat k < Int32.ofNat k1 then Int32.ofNat k1 else Int32.ofNat k) = Int32.ofNat k1 := by
    by_cases c : k < k1
    · rw [if_pos (by rw [nn_lt (by omega) (by omega)]; exact c)]
    · rw [if_neg (by rw [nn_lt (by omega) (by omega)]; exact c)]
      have : k = k1 := by omega
      rw [this]
  have a1 : ((132 : Int32) = 33) = False := by decide
  have a2 : ((132 : Int32) = 132) = True := by decide
  have a3 : ((132 : Int32) = 133) = False := by decide
  have b1 : ((133 : Int32) = 33) = False := by decide
  have b2 : ((133 : Int32) = 132) = False := by decide
  have b3 : ((133 : Int32) = 133) = True := by decide
  have e00 : ((0 : Int32) = 0) = True := by decide
  have e11 : ((1 : Int32) = 1) = True := by decide
  have e10 : ((1 : Int32) = 0) = False := by decide
  have e01 : ((0 : Int32) = 1) = False := by decide
  clear B M
  cases an with
  | true =>
    rw [if_pos rfl]
    cases b with
    | true =>
      rw [if_pos rfl]
      simp (disch := omega) only [hdL, s_35_0, s_35_1, s_35_4, s_35_7, s_35_7n, s_35_8, s_35_9, s_35_10, s_35_11, s_35_14, s_35_18, s_35_19, s_35_22, s_35_25, s_35_26, s_35_29, s_35_32, s_35_33, s_35_36, s_35_38, s_35_39, s_35_41, s_35_43, s_35_45, s_35_48, s_35_49, s_35_52, s_35_53, s_35_56, s_35_57, s_35_58, s_35_61, s_35_63, s_35_66, s_35_69, s_35_71, s_35_74, s_35_77, s_35_78, s_35_80, s_35_83, s_35_86, s_35_87, s_35_90, s_35_91, s_35_94, s_35_96, s_35_97, s_35_100, s_35_102, s_35_103, s_35_104, s_35_105, s_35_108, s_35_110, s_35_113, s_35_115, s_35_118, s_35_121, s_35_123, s_35_126, s_35_129, s_35_130, s_35_131, s_35_134, s_35_136, s_35_137, s_35_140, s_35_142, s_35_143, s_35_144, s_35_147, s_35_149, s_35_150, s_35_151, s_35_152, s_35_155, s_35_157, s_35_159, s_35_161, s_35_163, s_35_166, s_35_167, s_35_170, s_35_173, s_35_174, e_35, mv_i_1, mv_l_1, mv_a_1, mv_a_2, mv_a_3, mk2_n, mk2_i, mk2_l, mk2_a, mk2_u, mk2_x, mB_T, mB_F, mS_cons, mS_nil, mSB_T, mSB_F, mca_nil, mca_i, mca_l, mca_r, mca_u, mca_x, mcat_i, mcat_l, mcat_r, mcat_u, mcat_x, mK_some, mK_none, va_rf_s, va_rf_n, lgc_eq, lgc_lt, lgc_gt, lgc_ge, lgc_le, mrd_104, mrd_105, mrd_106, mrd_107, true_and, and_true, and_self, false_and, and_false, true_or, or_true, false_or, or_false, not_true_eq_false, not_false_eq_true, mgb, mga, mgr, mN, reduceCtorEq, ↓reduceIte, eq_self, ge_iff_le, gt_iff_lt, hk_si, hk_sj, hk_sr, hl_si, hl_sj, hl_sr, hn_si, hn_sj, hn_sr, hs_si, hs_sj, hs_sr, hi_sj, hi_sr, hj_si, hj_sr, hr_si, hr_sj, hi_si, hj_sj, hr_sr, mg_si, mg_sj, mg_sr, Nat.reduceAdd, Nat.reduceMul, Nat.reduceSub, Nat.reduceLT, Nat.reduceGT, Nat.reduceEqDiff, Nat.reduceLeDiff, Nat.left_eq_add, Nat.add_eq_left, Nat.reduceMod, Nat.reduceDiv, Nat.succ_ne_self, a1, a2, a3, kbT, e10, ei]
    | false =>
      rw [if_neg (by decide)]
      simp (disch := omega) only [hdL, s_35_0, s_35_1, s_35_4, s_35_7, s_35_7n, s_35_8, s_35_9, s_35_10, s_35_11, s_35_14, s_35_18, s_35_19, s_35_22, s_35_25, s_35_26, s_35_29, s_35_32, s_35_33, s_35_36, s_35_38, s_35_39, s_35_41, s_35_43, s_35_45, s_35_48, s_35_49, s_35_52, s_35_53, s_35_56, s_35_57, s_35_58, s_35_61, s_35_63, s_35_66, s_35_69, s_35_71, s_35_74, s_35_77, s_35_78, s_35_80, s_35_83, s_35_86, s_35_87, s_35_90, s_35_91, s_35_94, s_35_96, s_35_97, s_35_100, s_35_102, s_35_103, s_35_104, s_35_105, s_35_108, s_35_110, s_35_113, s_35_115, s_35_118, s_35_121, s_35_123, s_35_126, s_35_129, s_35_130, s_35_131, s_35_134, s_35_136, s_35_137, s_35_140, s_35_142, s_35_143, s_35_144, s_35_147, s_35_149, s_35_150, s_35_151, s_35_152, s_35_155, s_35_157, s_35_159, s_35_161, s_35_163, s_35_166, s_35_167, s_35_170, s_35_173, s_35_174, e_35, mv_i_1, mv_l_1, mv_a_1, mv_a_2, mv_a_3, mk2_n, mk2_i, mk2_l, mk2_a, mk2_u, mk2_x, mB_T, mB_F, mS_cons, mS_nil, mSB_T, mSB_F, mca_nil, mca_i, mca_l, mca_r, mca_u, mca_x, mcat_i, mcat_l, mcat_r, mcat_u, mcat_x, mK_some, mK_none, va_rf_s, va_rf_n, lgc_eq, lgc_lt, lgc_gt, lgc_ge, lgc_le, mrd_104, mrd_105, mrd_106, mrd_107, true_and, and_true, and_self, false_and, and_false, true_or, or_true, false_or, or_false, not_true_eq_false, not_false_eq_true, mgb, mga, mgr, mN, reduceCtorEq, ↓reduceIte, eq_self, ge_iff_le, gt_iff_lt, hk_si, hk_sj, hk_sr, hl_si, hl_sj, hl_sr, hn_si, hn_sj, hn_sr, hs_si, hs_sj, hs_sr, hi_sj, hi_sr, hj_si, hj_sr, hr_si, hr_sj, hi_si, hj_sj, hr_sr, mg_si, mg_sj, mg_sr, Nat.reduceAdd, Nat.reduceMul, Nat.reduceSub, Nat.reduceLT, Nat.reduceGT, Nat.reduceEqDiff, Nat.reduceLeDiff, Nat.left_eq_add, Nat.add_eq_left, Nat.reduceMod, Nat.reduceDiv, Nat.succ_ne_self, a1, a2, a3, kbF, e00, gY, r10, gW, lW, hw, es, mx', ei, nn_mxT, nn_clamp]
  | false =>
    have t : ((false : Bool) = true) = False := by decide
    rw [if_neg (by decide)]
    cases b with
    | true =>
      rw [if_neg (by decide)]
      simp (disch := omega) only [hdL, s_35_0, s_35_1, s_35_4, s_35_7, s_35_7n, s_35_8, s_35_9, s_35_10, s_35_11, s_35_14, s_35_18, s_35_19, s_35_22, s_35_25, s_35_26, s_35_29, s_35_32, s_35_33, s_35_36, s_35_38, s_35_39, s_35_41, s_35_43, s_35_45, s_35_48, s_35_49, s_35_52, s_35_53, s_35_56, s_35_57, s_35_58, s_35_61, s_35_63, s_35_66, s_35_69, s_35_71, s_35_74, s_35_77, s_35_78, s_35_80, s_35_83, s_35_86, s_35_87, s_35_90, s_35_91, s_35_94, s_35_96, s_35_97, s_35_100, s_35_102, s_35_103, s_35_104, s_35_105, s_35_108, s_35_110, s_35_113, s_35_115, s_35_118, s_35_121, s_35_123, s_35_126, s_35_129, s_35_130, s_35_131, s_35_134, s_35_136, s_35_137, s_35_140, s_35_142, s_35_143, s_35_144, s_35_147, s_35_149, s_35_150, s_35_151, s_35_152, s_35_155, s_35_157, s_35_159, s_35_161, s_35_163, s_35_166, s_35_167, s_35_170, s_35_173, s_35_174, e_35, mv_i_1, mv_l_1, mv_a_1, mv_a_2, mv_a_3, mk2_n, mk2_i, mk2_l, mk2_a, mk2_u, mk2_x, mB_T, mB_F, mS_cons, mS_nil, mSB_T, mSB_F, mca_nil, mca_i, mca_l, mca_r, mca_u, mca_x, mcat_i, mcat_l, mcat_r, mcat_u, mcat_x, mK_some, mK_none, va_rf_s, va_rf_n, lgc_eq, lgc_lt, lgc_gt, lgc_ge, lgc_le, mrd_104, mrd_105, mrd_106, mrd_107, true_and, and_true, and_self, false_and, and_false, true_or, or_true, false_or, or_false, not_true_eq_false, not_false_eq_true, mgb, mga, mgr, mN, reduceCtorEq, ↓reduceIte, eq_self, ge_iff_le, gt_iff_lt, hk_si, hk_sj, hk_sr, hl_si, hl_sj, hl_sr, hn_si, hn_sj, hn_sr, hs_si, hs_sj, hs_sr, hi_sj, hi_sr, hj_si, hj_sr, hr_si, hr_sj, hi_si, hj_sj, hr_sr, mg_si, mg_sj, mg_sr, Nat.reduceAdd, Nat.reduceMul, Nat.reduceSub, Nat.reduceLT, Nat.reduceGT, Nat.reduceEqDiff, Nat.reduceLeDiff, Nat.left_eq_add, Nat.add_eq_left, Nat.reduceMod, Nat.reduceDiv, Nat.succ_ne_self, b1, b2, b3, kbT, e11, gY, r10, gW, lW, hw, es, mx', ei, nn_mxT, nn_clamp]
    | false =>
      rw [if_pos rfl]
      simp (disch := omega) only [hdL, s_35_0, s_35_1, s_35_4, s_35_7, s_35_7n, s_35_8, s_35_9, s_35_10, s_35_11, s_35_14, s_35_18, s_35_19, s_35_22, s_35_25, s_35_26, s_35_29, s_35_32, s_35_33, s_35_36, s_35_38, s_35_39, s_35_41, s_35_43, s_35_45, s_35_48, s_35_49, s_35_52, s_35_53, s_35_56, s_35_57, s_35_58, s_35_61, s_35_63, s_35_66, s_35_69, s_35_71, s_35_74, s_35_77, s_35_78, s_35_80, s_35_83, s_35_86, s_35_87, s_35_90, s_35_91, s_35_94, s_35_96, s_35_97, s_35_100, s_35_102, s_35_103, s_35_104, s_35_105, s_35_108, s_35_110, s_35_113, s_35_115, s_35_118, s_35_121, s_35_123, s_35_126, s_35_129, s_35_130, s_35_131, s_35_134, s_35_136, s_35_137, s_35_140, s_35_142, s_35_143, s_35_144, s_35_147, s_35_149, s_35_150, s_35_151, s_35_152, s_35_155, s_35_157, s_35_159, s_35_161, s_35_163, s_35_166, s_35_167, s_35_170, s_35_173, s_35_174, e_35, mv_i_1, mv_l_1, mv_a_1, mv_a_2, mv_a_3, mk2_n, mk2_i, mk2_l, mk2_a, mk2_u, mk2_x, mB_T, mB_F, mS_cons, mS_nil, mSB_T, mSB_F, mca_nil, mca_i, mca_l, mca_r, mca_u, mca_x, mcat_i, mcat_l, mcat_r, mcat_u, mcat_x, mK_some, mK_none, va_rf_s, va_rf_n, lgc_eq, lgc_lt, lgc_gt, lgc_ge, lgc_le, mrd_104, mrd_105, mrd_106, mrd_107, true_and, and_true, and_self, false_and, and_false, true_or, or_true, false_or, or_false, not_true_eq_false, not_false_eq_true, mgb, mga, mgr, mN, reduceCtorEq, ↓reduceIte, eq_self, ge_iff_le, gt_iff_lt, hk_si, hk_sj, hk_sr, hl_si, hl_sj, hl_sr, hn_si, hn_sj, hn_sr, hs_si, hs_sj, hs_sr, hi_sj, hi_sr, hj_si, hj_sr, hr_si, hr_sj, hi_si, hj_sj, hr_sr, mg_si, mg_sj, mg_sr, Nat.reduceAdd, Nat.reduceMul, Nat.reduceSub, Nat.reduceLT, Nat.reduceGT, Nat.reduceEqDiff, Nat.reduceLeDiff, Nat.left_eq_add, Nat.add_eq_left, Nat.reduceMod, Nat.reduceDiv, Nat.succ_ne_self, b1, b2, b3, kbF, e01, ei]
/-- a relation -/
def relM (h : mh_H) (C SC nC nS nb na : Nat) (sN : Int → Prop) (en : Int → Nat) (A : ab) (WW : Nat → Int32) (cs : tr) (k : Nat) : Prop := ∃ sum, sum < 1000000 ∧ WW k = Int32.ofNat sum ∧ mS1 h C SC nC nS nb na sN en A cs sum ∧ mS1 h C SC nC nS nb na sN en A (tT cs) (sum + 1)
/-- what a COND leaves -/
def yq (q : yr) (h : mh_H) (gv : Nat) : Prop := mh_i h 67 3 = Int32.ofNat (min q.2.2 gv) ∧ match q.1 with
  | none => ¬ q.2.1 = 0 ∧ mh_i h 67 10 = q.2.1
  | some _ => mh_i h 67 10 = 0
theorem hx_4 (hA : A.n ≤ 12 ∧ A.a ≤ 6) (B : MB h Y C SC nC nS nb na p gv) (M : MC h St Y KA WA nK k0 ce) (hk : k < ce) {o : Nat} (ho : o < 6) {cs : tr} (r : relM h C SC nC nS nb na sN en A (mh_i h WA) cs k) (e10 : mh_i h 67 10 = 0) (e3 : mh_i h 67 3 = Int32.ofNat (min c gv)) : ∃ h' b' x6' x7', fG mcW h h' ∧ yq (y_v (xv en (mh_i h 69) (mh_i h 70) A.rm (mh_i h 68) gv cs none c) (fun v c' => y_v (xv en (mh_i h 69) (mh_i h 70) A.rm (mh_i h 68) gv (tT cs) none c') (fun w c' => (some (x_rel (o + 27) v w), 0, c')))) h' gv ∧ (∀ z, (y_v (xv en (mh_i h 69) (mh_i h 70) A.rm (mh_i h 68) gv cs none c) (fun v c' => y_v (xv en (mh_i h 69) (mh_i h 70) A.rm (mh_i h 68) gv (tT cs) none c') (fun w c' => (some (x_rel (o + 27) v w), 0, c')))).1 = some z → b' = z) ∧ ∀ Q, mw (d + 4) 35 Q 41 (hdL St Y b k (some (.int (kd o))) x6 x7) [] h = mw (d + 4) 35 Q 16 (hdL St Y b' (k + 1) (some (.int (kd o))) x6' x7') [] h' := by
  obtain ⟨sum, hs, w1, m1, m2⟩ := r
  have bb := M.b
  have g := B.g
  have gY := B.gY
  have ne := B.ne
  have r10 := M.r10
  have gW := M.gW
  have lW := M.lW
  have ei : Int32.ofNat k + 1 = Int32.ofNat (k + 1) := nn_add (a := k) (b := 1)
  have eS : Int32.ofNat sum + 1 = Int32.ofNat (sum + 1) := nn_add (a := sum) (b := 1)
  have ho' : o = 0 ∨ o = 1 ∨ o = 2 ∨ o = 3 ∨ o = 4 ∨ o = 5 := by omega
  have d1 : (kd o = 33) = False := eq_false (by rcases ho' with e | e | e | e | e | e <;> subst e <;> decide)
  have d2 : (kd o = 132) = False := eq_false (by rcases ho' with e | e | e | e | e | e <;> subst e <;> decide)
  have d3 : (kd o = 133) = False := eq_false (by rcases ho' with e | e | e | e | e | e <;> subst e <;> decide)
  have d4 : (kd o = 134) = False := eq_false (by rcases ho' with e | e | e | e | e | e <;> subst e <;> decide)
  have d5 : (kd o = 135) = False := eq_false (by rcases ho' with e | e | e | e | e | e <;> subst e <;> decide)
  obtain ⟨h1, x, f1, q1, run1⟩ := v_37s (d := d) hA B m1 e10 e3
  have B1 := MB_G f1 B
  have M1 := MC_G f1 M
  have g1 := B1.g
  have gY1 := B1.gY
  have r101 := M1.r10
  have gW1 := M1.gW
  have lW1 := M1.lW
  have w11 : mh_i h1 WA k = Int32.ofNat sum := by rw [MB_i f1 ⟨M.ne.2.2.2.2.2, M.ne.2.2.2.2.1⟩]; exact w1
  have m21 := mS1_G f1 B m2
  obtain ⟨q, eq⟩ : ∃ q, xv en (mh_i h 69) (mh_i h 70) A.rm (mh_i h 68) gv cs none c = q := ⟨_, rfl⟩
  rw [eq] at q1 ⊢
  obtain ⟨t1, t2⟩ := q1
  have go : ∀ (h2 : mh_H) (y : Int32), (∀ Q, mcall (d + 3) 37 [.ref 67, .int (Int32.ofNat (sum + 1))] h1 Q = Q (some (.int y)) h2) → ∀ Q, mw (d + 4) 35 Q 41 (hdL St Y b k (some (.int (kd o))) x6 x7) [] h = mw (d + 4) 35 Q 16 (hdL St Y (x_rel (o + 27) x.toInt y.toInt) (k + 1) (some (.int (kd o))) (some (.int x)) (some (.int y))) [] h2 := fun h2 y run2 Q => by
    have c36 := c_36 (d := d + 3) (h := h2) (x := x) (w := y) ho
    clear B M B1 M1 m1 m2 m21 t1 t2 f1 eq
    simp (disch := omega) only [hdL, s_35_0, s_35_1, s_35_4, s_35_7, s_35_7n, s_35_8, s_35_9, s_35_10, s_35_11, s_35_14, s_35_18, s_35_19, s_35_22, s_35_25, s_35_26, s_35_29, s_35_32, s_35_33, s_35_36, s_35_38, s_35_39, s_35_41, s_35_43, s_35_45, s_35_48, s_35_49, s_35_52, s_35_53, s_35_56, s_35_57, s_35_58, s_35_61, s_35_63, s_35_66, s_35_69, s_35_71, s_35_74, s_35_77, s_35_78, s_35_80, s_35_83, s_35_86, s_35_87, s_35_90, s_35_91, s_35_94, s_35_96, s_35_97, s_35_100, s_35_102, s_35_103, s_35_104, s_35_105, s_35_108, s_35_110, s_35_113, s_35_115, s_35_118, s_35_121, s_35_123, s_35_126, s_35_129, s_35_130, s_35_131, s_35_134, s_35_136, s_35_137, s_35_140, s_35_142, s_35_143, s_35_144, s_35_147, s_35_149, s_35_150, s_35_151, s_35_152, s_35_155, s_35_157, s_35_159, s_35_161, s_35_163, s_35_166, s_35_167, s_35_170, s_35_173, s_35_174, e_35, mv_i_1, mv_l_1, mv_a_1, mv_a_2, mv_a_3, mk2_n, mk2_i, mk2_l, mk2_a, mk2_u, mk2_x, mB_T, mB_F, mS_cons, mS_nil, mSB_T, mSB_F, mca_nil, mca_i, mca_l, mca_r, mca_u, mca_x, mcat_i, mcat_l, mcat_r, mcat_u, mcat_x, mK_some, mK_none, va_rf_s, va_rf_n, lgc_eq, lgc_lt, lgc_gt, lgc_ge, lgc_le, mrd_104, mrd_105, mrd_106, mrd_107, true_and, and_true, and_self, false_and, and_false, true_or, or_true, false_or, or_false, not_true_eq_false, not_false_eq_true, mgb, mga, mgr, mN, reduceCtorEq, ↓reduceIte, eq_self, ge_iff_le, gt_iff_lt, hk_si, hk_sj, hk_sr, hl_si, hl_sj, hl_sr, hn_si, hn_sj, hn_sr, hs_si, hs_sj, hs_sr, hi_sj, hi_sr, hj_si, hj_sr, hr_si, hr_sj, hi_si, hj_sj, hr_sr, mg_si, mg_sj, mg_sr, Nat.reduceAdd, Nat.reduceMul, Nat.reduceSub, Nat.reduceLT, Nat.reduceGT, Nat.reduceEqDiff, Nat.reduceLeDiff, Nat.left_eq_add, Nat.add_eq_left, Nat.reduceMod, Nat.reduceDiv, Nat.succ_ne_self, g, gY, d1, d2, d3, d4, d5, r10, gW, lW, w1, run1, g1, gY1, r101, gW1, lW1, w11, eS, run2, c36, ei, nn_mxT, nn_clamp]
  cases hq : q.1 with
  | none =>
    rw [hq] at t2
    have ex : ∀ f, y_v q f = (none, q.2.1, q.2.2) := fun f => by unfold y_v; rw [hq]
    rw [ex]
    obtain ⟨h2, y, f2, u3, u10, run2⟩ := v_37t (d := d) B1 m21 (by rw [t2.2]; exact t2.1)
    exact ⟨h2, _, _, _, fG_t f1 f2, ⟨u3.trans t1, t2.1, u10.trans t2.2⟩, fun z e => (by cases e), go h2 y run2⟩
  | some v =>
    rw [hq] at t2
    have ex : ∀ f, y_v q f = f v q.2.2 := fun f => by unfold y_v; rw [hq]
    rw [ex]
    obtain ⟨h2, y, f2, q2, run2⟩ := v_37s (d := d) hA B1 m21 t2.1 t1
    rw [MB_i f1 (by omega : 69 ≠ 72 ∧ 69 ≠ 67), MB_i f1 (by omega : 70 ≠ 72 ∧ 70 ≠ 67), MB_i f1 (by omega : 68 ≠ 72 ∧ 68 ≠ 67)] at q2
    show ∃ h' b' x6' x7', fG mcW h h' ∧ yq (y_v (xv en (mh_i h 69) (mh_i h 70) A.rm (mh_i h 68) gv (tT cs) none q.2.2) (fun w c' => (some (x_rel (o + 27) v w), 0, c'))) h' gv ∧ (∀ z, (y_v (xv en (mh_i h 69) (mh_i h 70) A.rm (mh_i h 68) gv (tT cs) none q.2.2) (fun w c' => (some (x_rel (o + 27) v w), 0, c'))).1 = some z → b' = z) ∧ _
    obtain ⟨q', eq'⟩ : ∃ q', xv en (mh_i h 69) (mh_i h 70) A.rm (mh_i h 68) gv (tT cs) none q.2.2 = q' := ⟨_, rfl⟩
    rw [eq'] at q2 ⊢
    obtain ⟨u1, u2⟩ := q2
    cases hq' : q'.1 with
    | none =>
      rw [hq'] at u2
      have ex : ∀ f, y_v q' f = (none, q'.2.1, q'.2.2) := fun f => by unfold y_v; rw [hq']
      rw [ex]
      exact ⟨h2, _, _, _, fG_t f1 f2, ⟨u1, u2⟩, fun z e => (by cases e), go h2 y run2⟩
    | some w =>
      rw [hq'] at u2
      have ex : ∀ f, y_v q' f = f w q'.2.2 := fun f => by unfold y_v; rw [hq']
      rw [ex]
      exact ⟨h2, _, _, _, fG_t f1 f2, ⟨u1, u2.1⟩, fun z e => (by cases e; rw [t2.2, u2.2]), go h2 y run2⟩
def hdP (q : yr) (h : mh_H) (gv D St Y k : Nat) (F : (Option Value → mh_H → Prop) → Prop) : Prop := ∃ h', fG mcW h h' ∧ yq q h' gv ∧ (match q.1 with
  | none => ∃ b', ∀ Q, F Q = Q (some (.int (kb b'))) h'
  | some b' => ∃ x5 x6 x7, ∀ Q, F Q = mw D 35 Q 16 (hdL St Y b' k x5 x6 x7) [] h')
theorem hd_bi {q : yr} {f : Bool → Nat → yr} {D k1 k2 : Nat} {F : (Option Value → mh_H → Prop) → Prop} (Z : hdP q h gv D St Y k1 F) (hf : ∀ h' b' x5 x6 x7, fG mcW h h' → mh_i h' 67 3 = Int32.ofNat (min q.2.2 gv) → mh_i h' 67 10 = 0 → hdP (f b' q.2.2) h' gv D St Y k2 (fun Q => mw D 35 Q 16 (hdL St Y b' k1 x5 x6 x7) [] h')) : hdP (y_bi q f) h gv D St Y k2 F := by
  obtain ⟨h', a, o, r⟩ := Z
  cases hq : q.1 with
  | none =>
    have e : y_bi q f = q := by unfold y_bi; rw [hq]
    rw [e]
    rw [hq] at r
    exact ⟨h', a, o, by rw [hq]; exact r⟩
  | some v =>
    have e : y_bi q f = f v q.2.2 := by unfold y_bi; rw [hq]
    rw [e]
    obtain ⟨o1, o2⟩ := o
    rw [hq] at o2 r
    obtain ⟨y5, y6, y7, run⟩ := r
    obtain ⟨h2, a2, b2, r2⟩ := hf h' v y5 y6 y7 a o1 o2
    refine ⟨h2, fG_t a a2, b2, ?_⟩
    cases hq2 : (f v q.2.2).1 with
    | none =>
      rw [hq2] at r2
      obtain ⟨x, r2⟩ := r2
      exact ⟨x, fun Q => (run Q).trans (r2 Q)⟩
    | some w =>
      rw [hq2] at r2
      obtain ⟨z5, z6, z7, r2⟩ := r2
      exact ⟨z5, z6, z7, fun Q => (run Q).trans (r2 Q)⟩
theorem hd_F {q : yr} {D k1 : Nat} {F F' : (Option Value → mh_H → Prop) → Prop} (e : ∀ Q, F' Q = F Q) (Z : hdP q h gv D St Y k1 F) : hdP q h gv D St Y k1 F' := by
  obtain ⟨h', a, o, r⟩ := Z
  refine ⟨h', a, o, ?_⟩
  cases hq : q.1 with
  | none =>
    rw [hq] at r
    obtain ⟨b', r⟩ := r
    exact ⟨b', fun Q => (e Q).trans (r Q)⟩
  | some v =>
    rw [hq] at r
    obtain ⟨y5, y6, y7, r⟩ := r
    exact ⟨y5, y6, y7, fun Q => (e Q).trans (r Q)⟩
/-- by the tree -/
def HD (d Y C SC nC nS nb na p gv St KA WA nK k0 ce : Nat) (sN : Int → Prop) (en : Int → Nat) (A : ab) (V P N KK WW : Nat → Int32) (rel : tr → Nat → Prop) (t : tr) : Prop := ∀ (h : mh_H) (mo an : Bool) (k k' c : Nat) (b : Bool) (x5 x6 x7 : Option Value), MB h Y C SC nC nS nb na p gv → MC h St Y KA WA nK k0 ce → mh_i h 69 = V → mh_i h 70 = P → mh_i h 68 = N → mh_i h KA = KK → mh_i h WA = WW → (∀ cs k, rel cs k → relM h C SC nC nS nb na sN en A WW cs k) → cy KK WW rel t mo an k k' → k' ≤ ce → mh_i h 67 10 = 0 → mh_i h 67 3 = Int32.ofNat (min c gv) → hdP (if mo = true ∧ ¬ b = an then (some b, 0, c) else xh en V P A.rm N gv t mo an c) h gv (d + 4) St Y k' (fun Q => mw (d + 4) 35 Q 16 (hdL St Y b k x5 x6 x7) [] h)
theorem HD_leaf {V P N KK WW : Nat → Int32} {rel : tr → Nat → Prop} (u : Unit) : HD d Y C SC nC nS nb na p gv St KA WA nK k0 ce sN en A V P N KK WW rel (.leaf u) := by
  intro h mo an k k' c b x5 x6 x7 B M hV hP hN hK hW hr w hk e10 e3
  obtain ⟨w1, w2⟩ := w
  subst w2
  have e : (if mo = true ∧ ¬ b = an then ((some b, 0, c) : yr) else xh en V P A.rm N gv (.leaf u) mo an c) = (some b, 0, c) := by
    by_cases ba : b = an
    · rw [if_neg (fun z => z.2 ba), ba]; rfl
    · rw [if_pos ⟨w1, ba⟩]
  rw [e]
  exact ⟨h, fG_id, ⟨e3, e10⟩, x5, x6, x7, fun _ => rfl⟩
theorem relM_G (f : fG mcW h h1) (B : MB h Y C SC nC nS nb na p gv) {WW : Nat → Int32} {cs : tr} (r : relM h C SC nC nS nb na sN en A WW cs k) : relM h1 C SC nC nS nb na sN en A WW cs k := by
  obtain ⟨sum, w0, w1, m1, m2⟩ := r
  exact ⟨sum, w0, w1, mS1_G f B m1, mS1_G f B m2⟩
theorem HD_br (hA : A.n ≤ 12 ∧ A.a ≤ 6) {V P N KK WW : Nat → Int32} {rel : tr → Nat → Prop} {n : Nat} {cs r : tr} (i0 : HD d Y C SC nC nS nb na p gv St KA WA nK k0 ce sN en A V P N KK WW rel cs) (i1 : HD d Y C SC nC nS nb na p gv St KA WA nK k0 ce sN en A V P N KK WW rel (tT cs)) (i2 : HD d Y C SC nC nS nb na p gv St KA WA nK k0 ce sN en A V P N KK WW rel r) : HD d Y C SC nC nS nb na p gv St KA WA nK k0 ce sN en A V P N KK WW rel (.branch n cs r) := by
  have NODE : ∀ (h : mh_H) (an : Bool) (k k' c : Nat) (b : Bool) (x5 x6 x7 : Option Value), MB h Y C SC nC nS nb na p gv → MC h St Y KA WA nK k0 ce → mh_i h 69 = V → mh_i h 70 = P → mh_i h 68 = N → mh_i h KA = KK → mh_i h WA = WW → (∀ cs k, rel cs k → relM h C SC nC nS nb na sN en A WW cs k) → cy KK WW rel (.branch n cs r) false an k k' → k' ≤ ce → mh_i h 67 10 = 0 → mh_i h 67 3 = Int32.ofNat (min c gv) → hdP (xh en V P A.rm N gv (.branch n cs r) false an c) h gv (d + 4) St Y k' (fun Q => mw (d + 4) 35 Q 16 (hdL St Y b k x5 x6 x7) [] h) := by
    intro h an k k' c b x5 x6 x7 B M hV hP hN hK hW hr w hk e10 e3
    have bb := M.b
    by_cases k26 : tK n = 26
    · obtain ⟨b', e, w1, w2⟩ := cy_26 k26 w
      rw [xh_26 k26]
      have Z := i0 h false false k b' c b x5 x6 x7 B M hV hP hN hK hW hr w1 (by omega) e10 e3
      rw [if_neg (fun z => by cases z.1)] at Z
      refine hd_bi Z (fun h1 b1 y5 y6 y7 f1 t1 t2 => ?_)
      have B1 := MB_G f1 B
      have M1 := MC_G f1 M
      have w2' : mh_i h1 KA b' = 33 := by rw [MB_i f1 ⟨M.ne.2.2.2.1, M.ne.2.2.1⟩, hK]; exact w2
      refine ⟨h1, fG_id, ⟨t1, t2⟩, some (.int 33), y6, y7, fun Q => (hx_0 (d := d + 4) (k := b') (b := b1) (x5 := y5) (x6 := y6) (x7 := y7) B1 M1 (by omega) t2 Q).trans ?_⟩
      rw [w2', e]
      exact hx_1 (by omega) Q
    by_cases k25 : tK n = 24 ∨ tK n = 25
    · obtain ⟨k1, w1, w2⟩ := cy_25 k25 w
      rw [xh_25 k25]
      have le2 := cy_le w2
      cases hcs : cs with
      | leaf u =>
        rw [hcs] at w1
        exact absurd w1.1 (by decide)
      | branch m c' r' =>
        rw [xh_L, xh_F (an' := false), ← hcs]
        have Z := i0 h false false k k1 c b x5 x6 x7 B M hV hP hN hK hW hr w1 (by omega) e10 e3
        rw [if_neg (fun z => by cases z.1)] at Z
        refine hd_bi Z (fun h1 b1 y5 y6 y7 f1 t1 t2 => ?_)
        have Z2 := i1 h1 true (decide (tK n = 25)) k1 k' _ b1 y5 y6 y7 (MB_G f1 B) (MC_G f1 M) (by rw [MB_i f1 (by omega)]; exact hV) (by rw [MB_i f1 (by omega)]; exact hP) (by rw [MB_i f1 (by omega)]; exact hN) (by rw [MB_i f1 ⟨M.ne.2.2.2.1, M.ne.2.2.1⟩]; exact hK) (by rw [MB_i f1 ⟨M.ne.2.2.2.2.2, M.ne.2.2.2.2.1⟩]; exact hW) (fun cs k z => relM_G f1 B (hr cs k z)) w2 hk t2 t1
        have e2 : tT cs = r' := by rw [hcs]; rfl
        rw [e2] at Z2
        show hdP (if b1 = decide (tK n = 25) then xh en V P A.rm N gv r' true (decide (tK n = 25)) _ else (some b1, 0, _)) h1 gv (d + 4) St Y k' _
        by_cases ba : b1 = decide (tK n = 25)
        · rw [if_neg (fun z => z.2 ba)] at Z2
          rw [if_pos ba]
          exact Z2
        · rw [if_pos ⟨rfl, ba⟩] at Z2
          rw [if_neg ba]
          exact Z2
    · obtain ⟨⟨o1, o2⟩, w1, w2, e⟩ := cy_27 k26 k25 w
      rw [xh_27 o1]
      have rM := hr cs k w2
      rw [← hW] at rM
      obtain ⟨h1, b', y6, y7, f1, q1, q2, run⟩ := hx_4 (d := d) (b := b) (x6 := x6) (x7 := x7) (o := tK n - 27) (c := c) hA B M (by omega) (by omega) rM e10 e3
      have eo : tK n - 27 + 27 = tK n := by omega
      rw [eo, hV, hP, hN] at q1 q2
      refine ⟨h1, f1, q1, ?_⟩
      obtain ⟨q, eq⟩ : ∃ q, y_v (xv en V P A.rm N gv cs none c) (fun v c' => y_v (xv en V P A.rm N gv (tT cs) none c') (fun w c' => (some (x_rel (tK n) v w), 0, c'))) = q := ⟨_, rfl⟩
      rw [eq] at q1 q2 ⊢
      have run' : ∀ Q, mw (d + 4) 35 Q 16 (hdL St Y b k x5 x6 x7) [] h = mw (d + 4) 35 Q 16 (hdL St Y b' (k + 1) (some (.int (kd (tK n - 27)))) y6 y7) [] h1 := fun Q => by
        refine (hx_0 (d := d + 4) (k := k) (b := b) (x5 := x5) (x6 := x6) (x7 := x7) B M (by omega) e10 Q).trans ?_
        rw [hK, w1]
        exact run Q
      cases hq : q.1 with
      | none =>
        obtain ⟨-, q1⟩ := q1
        rw [hq] at q1
        have fin := hx_e (d := d + 4) (b := b') (x5 := some (.int (kd (tK n - 27)))) (x6 := y6) (x7 := y7) (k := k + 1) (MB_G f1 B) (MC_G f1 M) (by omega) (Or.inl (by rw [q1.2]; exact q1.1))
        exact ⟨b', fun Q => (run' Q).trans (fin Q)⟩
      | some z =>
        have := q2 z hq
        subst this
        rw [e]
        exact ⟨_, _, _, run'⟩
  intro h mo an k k' c b x5 x6 x7 B M hV hP hN hK hW hr w hk e10 e3
  have bb := M.b
  cases mo with
  | false =>
    rw [if_neg (fun z => by cases z.1)]
    exact NODE h an k k' c b x5 x6 x7 B M hV hP hN hK hW hr w hk e10 e3
  | true =>
    obtain ⟨k1, w1, w2, w3, w4, w5⟩ := cy_L w
    have le3 := (cy_le w3).2 rfl
    have le5 := (cy_le w5).1
    have s0 := hx_0 (d := d + 4) (b := b) (x5 := x5) (x6 := x6) (x7 := x7) (k := k) B M (by omega) e10
    rw [hK, w1] at s0
    have step := fun Q => (s0 Q).trans (hx_2 (d := d + 4) (b := b) (an := an) (x6 := x6) (x7 := x7) B M (by omega : k < ce) (k1 := k1) (by rw [hW]; exact w2) (by omega) (by omega) Q)
    by_cases ba : b = an
    · rw [if_neg (fun z => z.2 ba), xh_L]
      rw [if_pos ba] at step
      have Z := NODE h false (k + 1) k1 c b (some (.int (if an = true then 132 else 133))) x6 x7 B M hV hP hN hK hW hr w3 (by omega) e10 e3
      refine hd_bi (q := xh en V P A.rm N gv (.branch n cs r) false an c) (hd_F step Z) (fun h1 b1 y5 y6 y7 f1 t1 t2 => ?_)
      have B1 := MB_G f1 B
      have M1 := MC_G f1 M
      have hK1 : mh_i h1 KA = KK := by rw [MB_i f1 ⟨M.ne.2.2.2.1, M.ne.2.2.1⟩]; exact hK
      have Z2 := i2 h1 true an (k1 + 1) k' (xh en V P A.rm N gv (.branch n cs r) false an c).2.2 b1 (some (.int (if an = true then 134 else 135))) y6 y7 B1 M1 (by rw [MB_i f1 (by omega)]; exact hV) (by rw [MB_i f1 (by omega)]; exact hP) (by rw [MB_i f1 (by omega)]; exact hN) hK1 (by rw [MB_i f1 ⟨M.ne.2.2.2.2.2, M.ne.2.2.2.2.1⟩]; exact hW) (fun cs k z => relM_G f1 B (hr cs k z)) w5 hk t2 t1
      have step2 : ∀ Q, mw (d + 4) 35 Q 16 (hdL St Y b1 k1 y5 y6 y7) [] h1 = mw (d + 4) 35 Q 16 (hdL St Y b1 (k1 + 1) (some (.int (if an = true then 134 else 135))) y6 y7) [] h1 := fun Q => by
        refine (hx_0 (d := d + 4) (k := k1) (b := b1) (x5 := y5) (x6 := y6) (x7 := y7) B1 M1 (by omega) t2 Q).trans ?_
        rw [hK1, w4]
        exact hx_3 (by omega) Q
      refine hd_F step2 ?_
      show hdP (if b1 = an then xh en V P A.rm N gv r true an _ else (some b1, 0, _)) h1 gv (d + 4) St Y k' _
      by_cases ba' : b1 = an
      · rw [if_neg (fun z => z.2 ba')] at Z2
        rw [if_pos ba']
        exact Z2
      · rw [if_pos ⟨rfl, ba'⟩] at Z2
        rw [if_neg ba']
        exact Z2
    · rw [if_pos ⟨rfl, ba⟩]
      rw [if_neg ba] at step
      have Z2 := i2 h true an (k1 + 1) k' c b (some (.int (if an = true then 132 else 133))) x6 x7 B M hV hP hN hK hW hr w5 hk e10 e3
      rw [if_pos ⟨rfl, ba⟩] at Z2
      exact hd_F step Z2
theorem HD_all (hA : A.n ≤ 12 ∧ A.a ≤ 6) {V P N KK WW : Nat → Int32} {rel : tr → Nat → Prop} : ∀ t, HD d Y C SC nC nS nb na p gv St KA WA nK k0 ce sN en A V P N KK WW rel t ∧ HD d Y C SC nC nS nb na p gv St KA WA nK k0 ce sN en A V P N KK WW rel (tT t) := by
  intro t
  induction t with
  | leaf u => exact ⟨HD_leaf u, HD_leaf u⟩
  | branch n cs r ih1 ih2 => exact ⟨HD_br hA ih1.1 ih1.2 ih2.1, ih2.1⟩
/-- the class's holds -/
theorem v_35 (hA : A.n ≤ 12 ∧ A.a ≤ 6) (B : MB h Y C SC nC nS nb na p gv) (M : MC h St Y KA WA nK k0 ce) (w : cy (mh_i h KA) (mh_i h WA) (relM h C SC nC nS nb na sN en A (mh_i h WA)) t false false k0 ce) (e10 : mh_i h 67 10 = 0) (e3 : mh_i h 67 3 = Int32.ofNat (min c gv)) : ∃ h' b', fG mcW h h' ∧ yq (xh en (mh_i h 69) (mh_i h 70) A.rm (mh_i h 68) gv t false false c) h' gv ∧ (∀ z, (xh en (mh_i h 69) (mh_i h 70) A.rm (mh_i h 68) gv t false false c).1 = some z → b' = z) ∧ ∀ Q, mcall (d + 4) 35 [.ref 67, .ref St] h Q = Q (some (.int (kb b'))) h' := by
  have bb := M.b
  have Z := (HD_all (d := d) (Y := Y) (C := C) (SC := SC) (nC := nC) (nS := nS) (nb := nb) (na := na) (p := p) (gv := gv) (St := St) (KA := KA) (WA := WA) (nK := nK) (k0 := k0) (ce := ce) (sN := sN) (en := en) (A := A) (V := mh_i h 69) (P := mh_i h 70) (N := mh_i h 68) (KK := mh_i h KA) (WW := mh_i h WA) (rel := relM h C SC nC nS nb na sN en A (mh_i h WA)) hA t).1 h false false k0 ce c false none none none B M rfl rfl rfl rfl rfl (fun _ _ z => z) w (Nat.le_refl _) e10 e3
  rw [if_neg (fun z => by cases z.1)] at Z
  obtain ⟨h', f, o, r⟩ := Z
  have start : ∀ Q, mcall (d + 4) 35 [.ref 67, .ref St] h Q = mw (d + 4) 35 Q 16 (hdL St Y false k0 none none none) [] h := fun Q => by
    have g := B.g
    have r0 := B.r0
    have g2 := B.g2
    have r21 := B.r21
    have gY := B.gY
    have gs := M.g
    have s12 := M.s12
    clear B M w f o r
    simp (disch := omega) only [hdL, s_35_0, s_35_1, s_35_4, s_35_7, s_35_7n, s_35_8, s_35_9, s_35_10, s_35_11, s_35_14, s_35_18, s_35_19, s_35_22, s_35_25, s_35_26, s_35_29, s_35_32, s_35_33, s_35_36, s_35_38, s_35_39, s_35_41, s_35_43, s_35_45, s_35_48, s_35_49, s_35_52, s_35_53, s_35_56, s_35_57, s_35_58, s_35_61, s_35_63, s_35_66, s_35_69, s_35_71, s_35_74, s_35_77, s_35_78, s_35_80, s_35_83, s_35_86, s_35_87, s_35_90, s_35_91, s_35_94, s_35_96, s_35_97, s_35_100, s_35_102, s_35_103, s_35_104, s_35_105, s_35_108, s_35_110, s_35_113, s_35_115, s_35_118, s_35_121, s_35_123, s_35_126, s_35_129, s_35_130, s_35_131, s_35_134, s_35_136, s_35_137, s_35_140, s_35_142, s_35_143, s_35_144, s_35_147, s_35_149, s_35_150, s_35_151, s_35_152, s_35_155, s_35_157, s_35_159, s_35_161, s_35_163, s_35_166, s_35_167, s_35_170, s_35_173, s_35_174, e_35, mv_i_1, mv_l_1, mv_a_1, mv_a_2, mv_a_3, mk2_n, mk2_i, mk2_l, mk2_a, mk2_u, mk2_x, mB_T, mB_F, mS_cons, mS_nil, mSB_T, mSB_F, mca_nil, mca_i, mca_l, mca_r, mca_u, mca_x, mcat_i, mcat_l, mcat_r, mcat_u, mcat_x, mK_some, mK_none, va_rf_s, va_rf_n, lgc_eq, lgc_lt, lgc_gt, lgc_ge, lgc_le, mrd_104, mrd_105, mrd_106, mrd_107, true_and, and_true, and_self, false_and, and_false, true_or, or_true, false_or, or_false, not_true_eq_false, not_false_eq_true, mgb, mga, mgr, mN, reduceCtorEq, ↓reduceIte, eq_self, ge_iff_le, gt_iff_lt, hk_si, hk_sj, hk_sr, hl_si, hl_sj, hl_sr, hn_si, hn_sj, hn_sr, hs_si, hs_sj, hs_sr, hi_sj, hi_sr, hj_si, hj_sr, hr_si, hr_sj, hi_si, hj_sj, hr_sr, mg_si, mg_sj, mg_sr, Nat.reduceAdd, Nat.reduceMul, Nat.reduceSub, Nat.reduceLT, Nat.reduceGT, Nat.reduceEqDiff, Nat.reduceLeDiff, Nat.left_eq_add, Nat.add_eq_left, Nat.reduceMod, Nat.reduceDiv, Nat.succ_ne_self, g, r0, g2, r21, gY, gs, s12, kbF]
  obtain ⟨q, eq⟩ : ∃ q, xh en (mh_i h 69) (mh_i h 70) A.rm (mh_i h 68) gv t false false c = q := ⟨_, rfl⟩
  rw [eq] at o r ⊢
  cases hq : q.1 with
  | none =>
    rw [hq] at r
    obtain ⟨b', run⟩ := r
    exact ⟨h', b', f, o, fun z e => (by cases e), fun Q => (start Q).trans (run Q)⟩
  | some z =>
    rw [hq] at r
    obtain ⟨x5, x6, x7, run⟩ := r
    have fin := hx_e (d := d + 4) (b := z) (x5 := x5) (x6 := x6) (x7 := x7) (k := ce) (MB_G f B) (MC_G f M) (Nat.le_refl _) (Or.inr rfl)
    exact ⟨h', z, f, o, fun z' e => (by cases e; rfl), fun Q => (start Q).trans ((run Q).trans (fin Q))⟩
end HEs
