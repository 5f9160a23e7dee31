set_option maxRecDepth 100000
/-! the class's layStatement, shutBlock -/
/-- the rows of a new point -/
def lsH (h : mh_H) (p St : Nat) (nb na cal ow : Int32) : mh_H := mh_si (mh_si (mh_si (mh_si (mh_si (mh_si (mh_sr h 20 p (some St)) 21 p nb) 22 p na) 23 p cal) 24 p ow) 26 p (Int32.ofNat (p + 1))) 2 2 (Int32.ofNat (p + 1))
section LSl
variable {d : Nat} {h h1 h2 : mh_H} {B n m : Nat} {D : lyD} {Sf : cps} {k se p St nb na kd nN aN : Nat} {x2 x3 x4 : Option Value}
theorem ls_i {y j : Nat} {b1 a1 cal ow : Int32} (w : ¬ (21 ≤ y ∧ y ≤ 26 ∧ j = p)) (w2 : ¬ (y = 2 ∧ j = 2)) : mh_i (lsH h p St b1 a1 cal ow) y j = mh_i h y j := by
  unfold lsH
  rw [hi_si, if_neg w2, hi_si, if_neg (by omega), hi_si, if_neg (by omega), hi_si, if_neg (by omega), hi_si, if_neg (by omega), hi_si, if_neg (by omega), hi_sr]
theorem ls_r {y j : Nat} {b1 a1 cal ow : Int32} : mh_r (lsH h p St b1 a1 cal ow) y j = if y = 20 ∧ j = p then some St else mh_r h y j := by
  unfold lsH
  rw [hr_si, hr_si, hr_si, hr_si, hr_si, hr_si, hr_sr]
theorem ls_v {b1 a1 cal ow : Int32} : mh_i (lsH h p St b1 a1 cal ow) 21 p = b1 ∧ mh_i (lsH h p St b1 a1 cal ow) 22 p = a1 ∧ mh_i (lsH h p St b1 a1 cal ow) 23 p = cal ∧ mh_i (lsH h p St b1 a1 cal ow) 24 p = ow ∧ mh_i (lsH h p St b1 a1 cal ow) 26 p = Int32.ofNat (p + 1) ∧ mh_i (lsH h p St b1 a1 cal ow) 2 2 = Int32.ofNat (p + 1) ∧ mh_i (lsH h p St b1 a1 cal ow) 25 p = mh_i h 25 p := by
  unfold lsH
  refine ⟨?_, ?_, ?_, ?_, ?_, ?_, ?_⟩
  · rw [hi_si, if_neg (by omega), hi_si, if_neg (by omega), hi_si, if_neg (by omega), hi_si, if_neg (by omega), hi_si, if_neg (by omega), hi_si, if_pos ⟨rfl, rfl⟩]
  · rw [hi_si, if_neg (by omega), hi_si, if_neg (by omega), hi_si, if_neg (by omega), hi_si, if_neg (by omega), hi_si, if_pos ⟨rfl, rfl⟩]
  · rw [hi_si, if_neg (by omega), hi_si, if_neg (by omega), hi_si, if_neg (by omega), hi_si, if_pos ⟨rfl, rfl⟩]
  · rw [hi_si, if_neg (by omega), hi_si, if_neg (by omega), hi_si, if_pos ⟨rfl, rfl⟩]
  · rw [hi_si, if_neg (by omega), hi_si, if_pos ⟨rfl, rfl⟩]
  · rw [hi_si, if_pos ⟨rfl, rfl⟩]
  · rw [hi_si, if_neg (by omega), hi_si, if_neg (by omega), hi_si, if_neg (by omega), hi_si, if_neg (by omega), hi_si, if_neg (by omega), hi_si, if_neg (by omega), hi_sr]
theorem ls_f {b1 a1 cal ow : Int32} : fLy h (lsH h p St b1 a1 cal ow) := by
  unfold lsH
  exact fLy_t fLy_sr (fLy_t (fLy_si (Or.inl ⟨by decide, by decide⟩)) (fLy_t (fLy_si (Or.inl ⟨by decide, by decide⟩)) (fLy_t (fLy_si (Or.inl ⟨by decide, by decide⟩)) (fLy_t (fLy_si (Or.inl ⟨by decide, by decide⟩)) (fLy_t (fLy_si (Or.inl ⟨by decide, by decide⟩)) (fLy_si (Or.inr ⟨rfl, Or.inl rfl⟩)))))))
/-- something is wrong with it -/
theorem s_89w (C : CLC h B n m D Sf) {w q : Int32} (f90 : ∀ Q, mcall (d + 1) 90 [.ref 2, .ref St] h Q = Q none (ntY h w q)) (hw : ¬ w = 0) : ∀ Q, mcall (d + 2) 89 [.ref 2, .ref St] h Q = Q (some (.int 0)) (ntY h w q) := by
  intro Q
  have g2 := C.F.g 2 4 20 (by decide +kernel)
  have g2' : mg (ntY h w q) 2 4 := g2
  have w18 : mh_i (ntY h w q) 2 18 = w := by unfold ntY; rw [hi_si, if_neg (by omega), hi_si, if_pos ⟨rfl, rfl⟩]
  have hw' := eq_false hw
  generalize ntY h w q = hN at f90 g2' w18
  clear C
  simp (disch := omega) only [s_89_0, s_89_1, s_89_4, s_89_5, s_89_6, s_89_7, s_89_10, s_89_11, s_89_14, s_89_17, s_89_18, s_89_19, s_89_20, s_89_23, s_89_24, s_89_25, s_89_25n, s_89_26, s_89_27, s_89_30, s_89_31, s_89_32, s_89_35, s_89_36, s_89_39, s_89_40, s_89_43, s_89_44, s_89_45, s_89_48, s_89_51, s_89_52, s_89_53, s_89_56, s_89_57, s_89_58, s_89_61, s_89_62, s_89_65, s_89_66, s_89_69, s_89_70, s_89_71, s_89_74, s_89_77, s_89_78, s_89_79, s_89_82, s_89_83, s_89_84, s_89_87, s_89_88, s_89_89, s_89_92, s_89_93, s_89_94, s_89_97, s_89_100, s_89_101, s_89_104, s_89_105, s_89_108, s_89_109, s_89_112, s_89_113, s_89_114, s_89_115, s_89_116, s_89_117, s_89_120, s_89_121, s_89_122, s_89_123, s_89_124, s_89_125, s_89_126, s_89_127, s_89_130, s_89_131, s_89_132, s_89_135, s_89_136, s_89_137, s_89_140, s_89_141, s_89_144, s_89_147, s_89_148, s_89_151, s_89_152, s_89_155, s_89_156, s_89_159, s_89_160, s_89_163, s_89_164, s_89_165, s_89_166, s_89_169, s_89_170, s_89_173, s_89_174, s_89_175, s_89_176, s_89_177, s_89_180, s_89_181, s_89_182, s_89_185, s_89_186, s_89_189, s_89_190, s_89_193, s_89_194, s_89_195, s_89_198, s_89_199, s_89_202, s_89_203, s_89_206, s_89_207, s_89_210, s_89_211, s_89_212, s_89_215, s_89_216, s_89_217, e_89, mv_i_1, mv_l_1, mv_a_1, mv_a_2, mv_a_3, mk2_n, mk2_i, mk2_l, mk2_a, mk2_u, mk2_x, mB_T, mB_F, mS_cons, mS_nil, mSB_T, mSB_F, mca_nil, mca_i, mca_l, mca_r, mca_u, mca_x, mcat_i, mcat_l, mcat_r, mcat_u, mcat_x, mK_some, mK_none, va_rf_s, va_rf_n, lgc_eq, lgc_lt, lgc_gt, lgc_ge, lgc_le, mrd_104, mrd_105, mrd_106, mrd_107, true_and, and_true, and_self, false_and, and_false, true_or, or_true, false_or, or_false, not_true_eq_false, not_false_eq_true, mgb, mga, mgr, mN, reduceCtorEq, ↓reduceIte, eq_self, ge_iff_le, gt_iff_lt, Nat.reduceAdd, Nat.reduceMul, Nat.reduceSub, Nat.reduceLT, Nat.reduceGT, Nat.reduceEqDiff, Nat.reduceLeDiff, Nat.left_eq_add, Nat.add_eq_left, Nat.reduceMod, Nat.reduceDiv, Nat.succ_ne_self, g2, g2', f90, w18, hw']
/-- its rows -/
theorem s_89a (C : CLC h B n m D Sf) (f90 : ∀ Q, mcall (d + 1) 90 [.ref 2, .ref St] h Q = Q none h) (w0 : mh_i h 2 18 = 0) (ec : mh_i h 2 2 = Int32.ofNat p) (hp : p < 250) (b : BSE h nb na) (hc : ∀ c, mh_i h 2 17 = Int32.ofNat c → c < 250 → c < p) (gS : mg h St 9) (k16 : mh_i h 2 16 = Int32.ofNat k) (hk : k ≤ 250) {ow : Int32} (top : (k = 0 ∧ ow = -1) ∨ (0 < k ∧ mh_i h 31 (k - 1) = ow)) : ∀ Q, mcall (d + 2) 89 [.ref 2, .ref St] h Q = mw (d + 2) 89 Q 135 [some (.ref 2), some (.ref St), some (.int (Int32.ofNat p))] [] (lsH h p St (Int32.ofNat nb) (Int32.ofNat na) (mh_i h 2 17) ow) := by
  intro Q
  have F := C.F
  have g2 := F.g 2 4 20 (by decide +kernel)
  have t3 := F.f 2 3 20 (by decide +kernel)
  have g20 := (F.g 20 105 250 (by decide +kernel)).1
  have g20b := (F.g 20 105 250 (by decide +kernel)).2
  have l20 := F.l 20 105 250 (by decide +kernel)
  have t4 := F.f 2 4 21 (by decide +kernel)
  have g21 := F.g 21 100 250 (by decide +kernel)
  have l21 := F.l 21 100 250 (by decide +kernel)
  have t5 := F.f 2 5 22 (by decide +kernel)
  have g22 := F.g 22 100 250 (by decide +kernel)
  have l22 := F.l 22 100 250 (by decide +kernel)
  have t6 := F.f 2 6 23 (by decide +kernel)
  have g23 := F.g 23 100 250 (by decide +kernel)
  have l23 := F.l 23 100 250 (by decide +kernel)
  have t7 := F.f 2 7 24 (by decide +kernel)
  have g24 := F.g 24 100 250 (by decide +kernel)
  have l24 := F.l 24 100 250 (by decide +kernel)
  have t9 := F.f 2 9 26 (by decide +kernel)
  have g26 := F.g 26 100 250 (by decide +kernel)
  have l26 := F.l 26 100 250 (by decide +kernel)
  have t14 := F.f 2 14 31 (by decide +kernel)
  have g31 := F.g 31 100 250 (by decide +kernel)
  have l31 := F.l 31 100 250 (by decide +kernel)
  have z0 : ((0 : Int32) = 0) = True := eq_true rfl
  have m1 : ((-1 : Int32) = -1) = True := eq_true rfl
  have e1' : ∀ k, Int32.ofNat k + 1 = Int32.ofNat (k + 1) := fun k => nn_add (a := k) (b := 1)
  have ac : me_ac 105 = 9 := rfl
  have k107 : (105 : Nat) < 107 := by decide
  have gSk := gS.1
  have gSn := gS.2
  have nS : St ≠ 2 ∧ St ≠ 20 ∧ St ≠ 21 ∧ St ≠ 22 := ⟨fun z => by have := g2.1; rw [← z, gSk] at this; omega, fun z => by rw [← z, gSk] at g20; omega, fun z => by have := g21.1; rw [← z, gSk] at this; omega, fun z => by have := g22.1; rw [← z, gSk] at this; omega⟩
  have es : 1 ≤ k → Int32.ofNat k - 1 = Int32.ofNat (k - 1) := fun q => nn_sub (a := k) (b := 1) q
  have kz : (Int32.ofNat k = 0) = (k = 0) := nn_eq (a := k) (b := 0) (by omega) (by decide)
  -- up to the slots
  have stp : ∀ Q, mw (d + 2) 89 Q 78 [some (.ref 2), some (.ref St), some (.int (Int32.ofNat p))] [] (mh_si (mh_si (mh_sr h 20 p (some St)) 21 p (Int32.ofNat nb)) 22 p (Int32.ofNat na)) = mw (d + 2) 89 Q 135 [some (.ref 2), some (.ref St), some (.int (Int32.ofNat p))] [] (lsH h p St (Int32.ofNat nb) (Int32.ofNat na) (mh_i h 2 17) ow) := fun Q => by
    unfold lsH
    clear C F b hc f90
    rcases top with ⟨c1, c2⟩ | ⟨c1, c2⟩
    · have kz' := kz.trans (eq_true c1)
      subst c2
      simp (disch := omega) only [s_89_0, s_89_1, s_89_4, s_89_5, s_89_6, s_89_7, s_89_10, s_89_11, s_89_14, s_89_17, s_89_18, s_89_19, s_89_20, s_89_23, s_89_24, s_89_25, s_89_25n, s_89_26, s_89_27, s_89_30, s_89_31, s_89_32, s_89_35, s_89_36, s_89_39, s_89_40, s_89_43, s_89_44, s_89_45, s_89_48, s_89_51, s_89_52, s_89_53, s_89_56, s_89_57, s_89_58, s_89_61, s_89_62, s_89_65, s_89_66, s_89_69, s_89_70, s_89_71, s_89_74, s_89_77, s_89_78, s_89_79, s_89_82, s_89_83, s_89_84, s_89_87, s_89_88, s_89_89, s_89_92, s_89_93, s_89_94, s_89_97, s_89_100, s_89_101, s_89_104, s_89_105, s_89_108, s_89_109, s_89_112, s_89_113, s_89_114, s_89_115, s_89_116, s_89_117, s_89_120, s_89_121, s_89_122, s_89_123, s_89_124, s_89_125, s_89_126, s_89_127, s_89_130, s_89_131, s_89_132, s_89_136, s_89_137, s_89_140, s_89_141, s_89_144, s_89_147, s_89_148, s_89_151, s_89_152, s_89_155, s_89_156, s_89_159, s_89_160, s_89_163, s_89_164, s_89_165, s_89_166, s_89_169, s_89_170, s_89_173, s_89_174, s_89_175, s_89_176, s_89_177, s_89_180, s_89_181, s_89_182, s_89_185, s_89_186, s_89_189, s_89_190, s_89_193, s_89_194, s_89_195, s_89_198, s_89_199, s_89_202, s_89_203, s_89_206, s_89_207, s_89_210, s_89_211, s_89_212, s_89_215, s_89_216, s_89_217, e_89, mv_i_1, mv_l_1, mv_a_1, mv_a_2, mv_a_3, mk2_n, mk2_i, mk2_l, mk2_a, mk2_u, mk2_x, mB_T, mB_F, mS_cons, mS_nil, mSB_T, mSB_F, mca_nil, mca_i, mca_l, mca_r, mca_u, mca_x, mcat_i, mcat_l, mcat_r, mcat_u, mcat_x, mK_some, mK_none, va_rf_s, va_rf_n, lgc_eq, lgc_lt, lgc_gt, lgc_ge, lgc_le, mrd_104, mrd_105, mrd_106, mrd_107, true_and, and_true, and_self, false_and, and_false, true_or, or_true, false_or, or_false, not_true_eq_false, not_false_eq_true, mgb, mga, mgr, mN, reduceCtorEq, ↓reduceIte, eq_self, ge_iff_le, gt_iff_lt, hk_si, hk_sj, hk_sr, hl_si, hl_sj, hl_sr, hn_si, hn_sj, hn_sr, hs_si, hs_sj, hs_sr, hi_sj, hi_sr, hj_si, hj_sr, hr_si, hr_sj, hi_si, hj_sj, hr_sr, mg_si, mg_sj, mg_sr, Nat.reduceAdd, Nat.reduceMul, Nat.reduceSub, Nat.reduceLT, Nat.reduceGT, Nat.reduceEqDiff, Nat.reduceLeDiff, Nat.left_eq_add, Nat.add_eq_left, Nat.reduceMod, Nat.reduceDiv, Nat.succ_ne_self, g2, t6, g23, l23, t7, g24, l24, k16, kz', t9, g26, l26, ec, e1', nn_mxT, nn_clamp]
    · have kz' := kz.trans (eq_false (by omega))
      have es' := es c1
      subst c2
      simp (disch := omega) only [s_89_0, s_89_1, s_89_4, s_89_5, s_89_6, s_89_7, s_89_10, s_89_11, s_89_14, s_89_17, s_89_18, s_89_19, s_89_20, s_89_23, s_89_24, s_89_25, s_89_25n, s_89_26, s_89_27, s_89_30, s_89_31, s_89_32, s_89_35, s_89_36, s_89_39, s_89_40, s_89_43, s_89_44, s_89_45, s_89_48, s_89_51, s_89_52, s_89_53, s_89_56, s_89_57, s_89_58, s_89_61, s_89_62, s_89_65, s_89_66, s_89_69, s_89_70, s_89_71, s_89_74, s_89_77, s_89_78, s_89_79, s_89_82, s_89_83, s_89_84, s_89_87, s_89_88, s_89_89, s_89_92, s_89_93, s_89_94, s_89_97, s_89_100, s_89_101, s_89_104, s_89_105, s_89_108, s_89_109, s_89_112, s_89_113, s_89_114, s_89_115, s_89_116, s_89_117, s_89_120, s_89_121, s_89_122, s_89_123, s_89_124, s_89_125, s_89_126, s_89_127, s_89_130, s_89_131, s_89_132, s_89_136, s_89_137, s_89_140, s_89_141, s_89_144, s_89_147, s_89_148, s_89_151, s_89_152, s_89_155, s_89_156, s_89_159, s_89_160, s_89_163, s_89_164, s_89_165, s_89_166, s_89_169, s_89_170, s_89_173, s_89_174, s_89_175, s_89_176, s_89_177, s_89_180, s_89_181, s_89_182, s_89_185, s_89_186, s_89_189, s_89_190, s_89_193, s_89_194, s_89_195, s_89_198, s_89_199, s_89_202, s_89_203, s_89_206, s_89_207, s_89_210, s_89_211, s_89_212, s_89_215, s_89_216, s_89_217, e_89, mv_i_1, mv_l_1, mv_a_1, mv_a_2, mv_a_3, mk2_n, mk2_i, mk2_l, mk2_a, mk2_u, mk2_x, mB_T, mB_F, mS_cons, mS_nil, mSB_T, mSB_F, mca_nil, mca_i, mca_l, mca_r, mca_u, mca_x, mcat_i, mcat_l, mcat_r, mcat_u, mcat_x, mK_some, mK_none, va_rf_s, va_rf_n, lgc_eq, lgc_lt, lgc_gt, lgc_ge, lgc_le, mrd_104, mrd_105, mrd_106, mrd_107, true_and, and_true, and_self, false_and, and_false, true_or, or_true, false_or, or_false, not_true_eq_false, not_false_eq_true, mgb, mga, mgr, mN, reduceCtorEq, ↓reduceIte, eq_self, ge_iff_le, gt_iff_lt, hk_si, hk_sj, hk_sr, hl_si, hl_sj, hl_sr, hn_si, hn_sj, hn_sr, hs_si, hs_sj, hs_sr, hi_sj, hi_sr, hj_si, hj_sr, hr_si, hr_sj, hi_si, hj_sj, hr_sr, mg_si, mg_sj, mg_sr, Nat.reduceAdd, Nat.reduceMul, Nat.reduceSub, Nat.reduceLT, Nat.reduceGT, Nat.reduceEqDiff, Nat.reduceLeDiff, Nat.left_eq_add, Nat.add_eq_left, Nat.reduceMod, Nat.reduceDiv, Nat.succ_ne_self, g2, t6, g23, l23, t7, g24, l24, k16, kz', es', t14, g31, l31, t9, g26, l26, ec, e1', nn_mxT, nn_clamp]
  rw [← stp Q]
  clear stp top
  rcases b with ⟨b1, b2, b3⟩ | ⟨c, Sc, b1, n1, a1, x1, y1, y2, y3, y4, y5, y6, y7, y8, y9, y10⟩
  · subst b2
    subst b3
    have i0 : Int32.ofNat 0 = 0 := rfl
    rw [i0]
    clear C F hc
    simp (disch := first | omega | (simp only [hk_si, hk_sj, hk_sr, hl_si, hl_sj, hl_sr, hn_si, hn_sj, hn_sr, hs_si, hs_sj, hs_sr, hi_sj, hi_sr, hj_si, hj_sr, hr_si, hr_sj, hi_si, hj_sj, hr_sr, mg_si, mg_sj, mg_sr, g20, ac]; exact gS)) only [s_89_0, s_89_1, s_89_4, s_89_5, s_89_6, s_89_7, s_89_10, s_89_11, s_89_14, s_89_17, s_89_18, s_89_19, s_89_20, s_89_23, s_89_24, s_89_25, s_89_25n, s_89_26, s_89_27, s_89_30, s_89_31, s_89_32, s_89_35, s_89_36, s_89_39, s_89_40, s_89_43, s_89_44, s_89_45, s_89_48, s_89_51, s_89_52, s_89_53, s_89_56, s_89_57, s_89_58, s_89_61, s_89_62, s_89_65, s_89_66, s_89_69, s_89_70, s_89_71, s_89_74, s_89_77, s_89_79, s_89_82, s_89_83, s_89_84, s_89_87, s_89_88, s_89_89, s_89_92, s_89_93, s_89_94, s_89_97, s_89_100, s_89_101, s_89_104, s_89_105, s_89_108, s_89_109, s_89_112, s_89_113, s_89_114, s_89_115, s_89_116, s_89_117, s_89_120, s_89_121, s_89_122, s_89_123, s_89_124, s_89_125, s_89_126, s_89_127, s_89_130, s_89_131, s_89_132, s_89_135, s_89_136, s_89_137, s_89_140, s_89_141, s_89_144, s_89_147, s_89_148, s_89_151, s_89_152, s_89_155, s_89_156, s_89_159, s_89_160, s_89_163, s_89_164, s_89_165, s_89_166, s_89_169, s_89_170, s_89_173, s_89_174, s_89_175, s_89_176, s_89_177, s_89_180, s_89_181, s_89_182, s_89_185, s_89_186, s_89_189, s_89_190, s_89_193, s_89_194, s_89_195, s_89_198, s_89_199, s_89_202, s_89_203, s_89_206, s_89_207, s_89_210, s_89_211, s_89_212, s_89_215, s_89_216, s_89_217, e_89, mv_i_1, mv_l_1, mv_a_1, mv_a_2, mv_a_3, mk2_n, mk2_i, mk2_l, mk2_a, mk2_u, mk2_x, mB_T, mB_F, mS_cons, mS_nil, mSB_T, mSB_F, mca_nil, mca_i, mca_l, mca_r, mca_u, mca_x, mcat_i, mcat_l, mcat_r, mcat_u, mcat_x, mK_some, mK_none, va_rf_s, va_rf_n, lgc_eq, lgc_lt, lgc_gt, lgc_ge, lgc_le, mrd_104, mrd_105, mrd_106, mrd_107, true_and, and_true, and_self, false_and, and_false, true_or, or_true, false_or, or_false, not_true_eq_false, not_false_eq_true, mgb, mga, mgr, mN, reduceCtorEq, ↓reduceIte, eq_self, ge_iff_le, gt_iff_lt, hk_si, hk_sj, hk_sr, hl_si, hl_sj, hl_sr, hn_si, hn_sj, hn_sr, hs_si, hs_sj, hs_sr, hi_sj, hi_sr, hj_si, hj_sr, hr_si, hr_sj, hi_si, hj_sj, hr_sr, mg_si, mg_sj, mg_sr, Nat.reduceAdd, Nat.reduceMul, Nat.reduceSub, Nat.reduceLT, Nat.reduceGT, Nat.reduceEqDiff, Nat.reduceLeDiff, Nat.left_eq_add, Nat.add_eq_left, Nat.reduceMod, Nat.reduceDiv, Nat.succ_ne_self, g2, f90, w0, z0, ec, t3, g20, g20b, l20, ac, k107, gS, b1, m1, t4, g21, l21, t5, g22, l22, nn_mxT, nn_clamp]
  · have cp := hc c y1 y2
    have F1 : CF (mh_sr h 20 p (some St)) := CF_L fLy_sr F
    have F2 : CF (mh_si (mh_sr h 20 p (some St)) 21 p (Int32.ofNat nb)) := CF_L (fLy_si (Or.inl ⟨by decide, by decide⟩)) F1
    have a0 := c_80 (d := d + 1) (p := c) (nb := b1) (nm := n1) (St := Sc) F1 y2 y3 (by rw [hr_sr, if_neg (by omega)]; exact y5) y6 y7
    have ScN : Sc ≠ 21 := fun z => by have := y6.1; rw [z, g21.1] at this; omega
    have a2 := c_81 (d := d + 1) (p := c) (na := a1) (nm := x1) (St := Sc) F2 y2 (by rw [hi_si, if_neg (by omega), hi_sr]; exact y4) (by rw [hr_si, hr_sr, if_neg (by omega)]; exact y5) y6 (by rw [hi_si, if_neg (fun q => ScN q.1), hi_sr]; exact y8)
    rw [← y9] at a0
    rw [← y10] at a2
    have ni : (Int32.ofNat c = -1) = False := nn_m2 (by omega)
    clear C F hc F1 F2
    simp (disch := first | omega | (simp only [hk_si, hk_sj, hk_sr, hl_si, hl_sj, hl_sr, hn_si, hn_sj, hn_sr, hs_si, hs_sj, hs_sr, hi_sj, hi_sr, hj_si, hj_sr, hr_si, hr_sj, hi_si, hj_sj, hr_sr, mg_si, mg_sj, mg_sr, g20, ac]; exact gS)) only [s_89_0, s_89_1, s_89_4, s_89_5, s_89_6, s_89_7, s_89_10, s_89_11, s_89_14, s_89_17, s_89_18, s_89_19, s_89_20, s_89_23, s_89_24, s_89_25, s_89_25n, s_89_26, s_89_27, s_89_30, s_89_31, s_89_32, s_89_35, s_89_36, s_89_39, s_89_40, s_89_43, s_89_44, s_89_45, s_89_48, s_89_51, s_89_52, s_89_53, s_89_56, s_89_57, s_89_58, s_89_61, s_89_62, s_89_65, s_89_66, s_89_69, s_89_70, s_89_71, s_89_74, s_89_77, s_89_79, s_89_82, s_89_83, s_89_84, s_89_87, s_89_88, s_89_89, s_89_92, s_89_93, s_89_94, s_89_97, s_89_100, s_89_101, s_89_104, s_89_105, s_89_108, s_89_109, s_89_112, s_89_113, s_89_114, s_89_115, s_89_116, s_89_117, s_89_120, s_89_121, s_89_122, s_89_123, s_89_124, s_89_125, s_89_126, s_89_127, s_89_130, s_89_131, s_89_132, s_89_135, s_89_136, s_89_137, s_89_140, s_89_141, s_89_144, s_89_147, s_89_148, s_89_151, s_89_152, s_89_155, s_89_156, s_89_159, s_89_160, s_89_163, s_89_164, s_89_165, s_89_166, s_89_169, s_89_170, s_89_173, s_89_174, s_89_175, s_89_176, s_89_177, s_89_180, s_89_181, s_89_182, s_89_185, s_89_186, s_89_189, s_89_190, s_89_193, s_89_194, s_89_195, s_89_198, s_89_199, s_89_202, s_89_203, s_89_206, s_89_207, s_89_210, s_89_211, s_89_212, s_89_215, s_89_216, s_89_217, e_89, mv_i_1, mv_l_1, mv_a_1, mv_a_2, mv_a_3, mk2_n, mk2_i, mk2_l, mk2_a, mk2_u, mk2_x, mB_T, mB_F, mS_cons, mS_nil, mSB_T, mSB_F, mca_nil, mca_i, mca_l, mca_r, mca_u, mca_x, mcat_i, mcat_l, mcat_r, mcat_u, mcat_x, mK_some, mK_none, va_rf_s, va_rf_n, lgc_eq, lgc_lt, lgc_gt, lgc_ge, lgc_le, mrd_104, mrd_105, mrd_106, mrd_107, true_and, and_true, and_self, false_and, and_false, true_or, or_true, false_or, or_false, not_true_eq_false, not_false_eq_true, mgb, mga, mgr, mN, reduceCtorEq, ↓reduceIte, eq_self, ge_iff_le, gt_iff_lt, hk_si, hk_sj, hk_sr, hl_si, hl_sj, hl_sr, hn_si, hn_sj, hn_sr, hs_si, hs_sj, hs_sr, hi_sj, hi_sr, hj_si, hj_sr, hr_si, hr_sj, hi_si, hj_sj, hr_sr, mg_si, mg_sj, mg_sr, Nat.reduceAdd, Nat.reduceMul, Nat.reduceSub, Nat.reduceLT, Nat.reduceGT, Nat.reduceEqDiff, Nat.reduceLeDiff, Nat.left_eq_add, Nat.add_eq_left, Nat.reduceMod, Nat.reduceDiv, Nat.succ_ne_self, g2, f90, w0, z0, ec, t3, g20, g20b, l20, ac, k107, gS, y1, ni, a0, a2, t4, g21, l21, t5, g22, l22, nn_mxT, nn_clamp]
def opH (h : mh_H) (k p : Nat) : mh_H := mh_si (mh_si (mh_si h 31 k (Int32.ofNat p)) 32 k 0) 2 16 (Int32.ofNat (k + 1))
/-- behind the names -/
theorem s_89e (F : CF h) (gS : mg h St 9) (s0 : mh_i h St 0 = Int32.ofNat kd) (hkd : kd ≤ 8) {ix : Nat} (s1 : mh_i h St 1 = Int32.ofNat ix) (k16 : mh_i h 2 16 = Int32.ofNat k) (hk : k < 250) (hp : p < 250) (n4 : kd ≠ 4) : ∀ Q, mw (d + 1) 89 Q 140 [some (.ref 2), some (.ref St), some (.int (Int32.ofNat p))] [] h = Q (some (.int (Int32.ofNat (ix + 1)))) (if kd = 5 ∨ kd = 6 then opH h k p else h) := by
  intro Q
  have g2 := F.g 2 4 20 (by decide +kernel)
  have t14 := F.f 2 14 31 (by decide +kernel)
  have g31 := F.g 31 100 250 (by decide +kernel)
  have l31 := F.l 31 100 250 (by decide +kernel)
  have t15 := F.f 2 15 32 (by decide +kernel)
  have g32 := F.g 32 103 250 (by decide +kernel)
  have g32a := g32.1
  have g32b := g32.2
  have l32 := F.l 32 103 250 (by decide +kernel)
  have a0 := c_166 (d := d) gS s0 hkd
  have e1' : ∀ k, Int32.ofNat k + 1 = Int32.ofNat (k + 1) := fun k => nn_add (a := k) (b := 1)
  have z4 : (Int32.ofNat kd = 4) = False := (nn_eq (a := kd) (b := 4) (by omega) (by decide)).trans (eq_false n4)
  have n1 : ((1 : Int32) = 0) = False := by decide
  have z0 : ((0 : Int32) = 0) = True := eq_true rfl
  have gSk := gS.1
  have nS : St ≠ 2 ∧ St ≠ 31 ∧ St ≠ 32 := ⟨fun z => by have := g2.1; rw [← z, gSk] at this; omega, fun z => by have := g31.1; rw [← z, gSk] at this; omega, fun z => by rw [← z, gSk] at g32a; omega⟩
  have nS1 : (St = 2) = False := eq_false nS.1
  have nS2 : (St = 31) = False := eq_false nS.2.1
  have nS3 : (St = 32) = False := eq_false nS.2.2
  have mb : ∀ h' : mh_H, mh_k h' 32 = 103 → mna h' 32 0 = 0 := fun h' e => mna_b (h := h') (o := 32) e false
  unfold opH
  clear F
  by_cases c : kd = 5 ∨ kd = 6
  · rw [if_pos c]
    rw [decide_eq_true c, show kb true = 1 from rfl] at a0
    have mb' : ∀ h' : mh_H, mh_k h' 32 = 103 → (mna h' 32 0 = 0) = True := fun h' e => eq_true (mb h' e)
    simp (disch := first | omega | (simp only [hk_si, hk_sj, hk_sr, hl_si, hl_sj, hl_sr, hn_si, hn_sj, hn_sr, hs_si, hs_sj, hs_sr, hi_sj, hi_sr, hj_si, hj_sr, hr_si, hr_sj, hi_si, hj_sj, hr_sr, mg_si, mg_sj, mg_sr]; exact g32a)) only [s_89_0, s_89_1, s_89_4, s_89_5, s_89_6, s_89_7, s_89_10, s_89_11, s_89_14, s_89_17, s_89_18, s_89_19, s_89_20, s_89_23, s_89_24, s_89_25, s_89_25n, s_89_26, s_89_27, s_89_30, s_89_31, s_89_32, s_89_35, s_89_36, s_89_39, s_89_40, s_89_43, s_89_44, s_89_45, s_89_48, s_89_51, s_89_52, s_89_53, s_89_56, s_89_57, s_89_58, s_89_61, s_89_62, s_89_65, s_89_66, s_89_69, s_89_70, s_89_71, s_89_74, s_89_77, s_89_78, s_89_79, s_89_82, s_89_83, s_89_84, s_89_87, s_89_88, s_89_89, s_89_92, s_89_93, s_89_94, s_89_97, s_89_100, s_89_101, s_89_104, s_89_105, s_89_108, s_89_109, s_89_112, s_89_113, s_89_114, s_89_115, s_89_116, s_89_117, s_89_120, s_89_121, s_89_122, s_89_123, s_89_124, s_89_125, s_89_126, s_89_127, s_89_130, s_89_131, s_89_132, s_89_135, s_89_136, s_89_137, s_89_140, s_89_141, s_89_144, s_89_147, s_89_148, s_89_151, s_89_152, s_89_155, s_89_156, s_89_159, s_89_160, s_89_163, s_89_164, s_89_165, s_89_166, s_89_169, s_89_170, s_89_173, s_89_174, s_89_175, s_89_176, s_89_177, s_89_180, s_89_181, s_89_182, s_89_185, s_89_186, s_89_189, s_89_190, s_89_193, s_89_194, s_89_195, s_89_198, s_89_199, s_89_202, s_89_203, s_89_206, s_89_207, s_89_210, s_89_211, s_89_212, s_89_215, s_89_216, s_89_217, e_89, mv_i_1, mv_l_1, mv_a_1, mv_a_2, mv_a_3, mk2_n, mk2_i, mk2_l, mk2_a, mk2_u, mk2_x, mB_T, mB_F, mS_cons, mS_nil, mSB_T, mSB_F, mca_nil, mca_i, mca_l, mca_r, mca_u, mca_x, mcat_i, mcat_l, mcat_r, mcat_u, mcat_x, mK_some, mK_none, va_rf_s, va_rf_n, lgc_eq, lgc_lt, lgc_gt, lgc_ge, lgc_le, mrd_104, mrd_105, mrd_106, mrd_107, true_and, and_true, and_self, false_and, and_false, true_or, or_true, false_or, or_false, not_true_eq_false, not_false_eq_true, mgb, mga, mgr, mN, reduceCtorEq, ↓reduceIte, eq_self, ge_iff_le, gt_iff_lt, hk_si, hk_sj, hk_sr, hl_si, hl_sj, hl_sr, hn_si, hn_sj, hn_sr, hs_si, hs_sj, hs_sr, hi_sj, hi_sr, hj_si, hj_sr, hr_si, hr_sj, hi_si, hj_sj, hr_sr, mg_si, mg_sj, mg_sr, Nat.reduceAdd, Nat.reduceMul, Nat.reduceSub, Nat.reduceLT, Nat.reduceGT, Nat.reduceEqDiff, Nat.reduceLeDiff, Nat.left_eq_add, Nat.add_eq_left, Nat.reduceMod, Nat.reduceDiv, Nat.succ_ne_self, g2, gS, a0, n1, t14, g31, l31, t15, g32, g32a, g32b, l32, k16, s0, z4, s1, e1', nS1, nS2, nS3, mb, nn_mxT, nn_clamp]
  · rw [if_neg c]
    rw [decide_eq_false c, show kb false = 0 from rfl] at a0
    simp (disch := omega) only [s_89_0, s_89_1, s_89_4, s_89_5, s_89_6, s_89_7, s_89_10, s_89_11, s_89_14, s_89_17, s_89_18, s_89_19, s_89_20, s_89_23, s_89_24, s_89_25, s_89_25n, s_89_26, s_89_27, s_89_30, s_89_31, s_89_32, s_89_35, s_89_36, s_89_39, s_89_40, s_89_43, s_89_44, s_89_45, s_89_48, s_89_51, s_89_52, s_89_53, s_89_56, s_89_57, s_89_58, s_89_61, s_89_62, s_89_65, s_89_66, s_89_69, s_89_70, s_89_71, s_89_74, s_89_77, s_89_78, s_89_79, s_89_82, s_89_83, s_89_84, s_89_87, s_89_88, s_89_89, s_89_92, s_89_93, s_89_94, s_89_97, s_89_100, s_89_101, s_89_104, s_89_105, s_89_108, s_89_109, s_89_112, s_89_113, s_89_114, s_89_115, s_89_116, s_89_117, s_89_120, s_89_121, s_89_122, s_89_123, s_89_124, s_89_125, s_89_126, s_89_127, s_89_130, s_89_131, s_89_132, s_89_135, s_89_136, s_89_137, s_89_140, s_89_141, s_89_144, s_89_147, s_89_148, s_89_151, s_89_152, s_89_155, s_89_156, s_89_159, s_89_160, s_89_163, s_89_164, s_89_165, s_89_166, s_89_169, s_89_170, s_89_173, s_89_174, s_89_175, s_89_176, s_89_177, s_89_180, s_89_181, s_89_182, s_89_185, s_89_186, s_89_189, s_89_190, s_89_193, s_89_194, s_89_195, s_89_198, s_89_199, s_89_202, s_89_203, s_89_206, s_89_207, s_89_210, s_89_211, s_89_212, s_89_215, s_89_216, s_89_217, e_89, mv_i_1, mv_l_1, mv_a_1, mv_a_2, mv_a_3, mk2_n, mk2_i, mk2_l, mk2_a, mk2_u, mk2_x, mB_T, mB_F, mS_cons, mS_nil, mSB_T, mSB_F, mca_nil, mca_i, mca_l, mca_r, mca_u, mca_x, mcat_i, mcat_l, mcat_r, mcat_u, mcat_x, mK_some, mK_none, va_rf_s, va_rf_n, lgc_eq, lgc_lt, lgc_gt, lgc_ge, lgc_le, mrd_104, mrd_105, mrd_106, mrd_107, true_and, and_true, and_self, false_and, and_false, true_or, or_true, false_or, or_false, not_true_eq_false, not_false_eq_true, mgb, mga, mgr, mN, reduceCtorEq, ↓reduceIte, eq_self, ge_iff_le, gt_iff_lt, hk_si, hk_sj, hk_sr, hl_si, hl_sj, hl_sr, hn_si, hn_sj, hn_sr, hs_si, hs_sj, hs_sr, hi_sj, hi_sr, hj_si, hj_sr, hr_si, hr_sj, hi_si, hj_sj, hr_sr, mg_si, mg_sj, mg_sr, Nat.reduceAdd, Nat.reduceMul, Nat.reduceSub, Nat.reduceLT, Nat.reduceGT, Nat.reduceEqDiff, Nat.reduceLeDiff, Nat.left_eq_add, Nat.add_eq_left, Nat.reduceMod, Nat.reduceDiv, Nat.succ_ne_self, g2, gS, a0, z0, s0, z4, s1, e1']
theorem s_89c (C : CLC h B n m D Sf) (gS : mg h St 9) (s0 : mh_i h St 0 = Int32.ofNat 4) {g : Nat} (s14 : mh_i h St 14 = Int32.ofNat g) (hg : g < D.c) (k16 : mh_i h 2 16 = Int32.ofNat k) (hk : k < 250) (hp : p < 250) : ∀ Q, mw (d + 1) 89 Q 140 [some (.ref 2), some (.ref St), some (.int (Int32.ofNat p))] [] h = Q (some (.int (D.H (6 * g + 3)))) (mh_si (opH h k p) 2 17 (Int32.ofNat p)) := by
  intro Q
  have F := C.F
  have g2 := F.g 2 4 20 (by decide +kernel)
  have t14 := F.f 2 14 31 (by decide +kernel)
  have g31 := F.g 31 100 250 (by decide +kernel)
  have l31 := F.l 31 100 250 (by decide +kernel)
  have t15 := F.f 2 15 32 (by decide +kernel)
  have g32 := F.g 32 103 250 (by decide +kernel)
  have g32a := g32.1
  have g32b := g32.2
  have l32 := F.l 32 103 250 (by decide +kernel)
  have sr := C.s.1
  have srg := C.s.2.1
  have a0 := c_166 (d := d) gS s0 (by decide)
  rw [decide_eq_false (by decide), show kb false = 0 from rfl] at a0
  have i4 : Int32.ofNat 4 = 4 := rfl
  rw [i4] at s0
  have e1' : ∀ k, Int32.ofNat k + 1 = Int32.ofNat (k + 1) := fun k => nn_add (a := k) (b := 1)
  have z4 : ((4 : Int32) = 4) = True := eq_true rfl
  have z0 : ((0 : Int32) = 0) = True := eq_true rfl
  have gSk := gS.1
  have nS : St ≠ 2 ∧ St ≠ 31 ∧ St ≠ 32 := ⟨fun z => by have := g2.1; rw [← z, gSk] at this; omega, fun z => by have := g31.1; rw [← z, gSk] at this; omega, fun z => by rw [← z, gSk] at g32a; omega⟩
  have nS1 : (St = 2) = False := eq_false nS.1
  have nS2 : (St = 31) = False := eq_false nS.2.1
  have nS3 : (St = 32) = False := eq_false nS.2.2
  have mb : ∀ h' : mh_H, mh_k h' 32 = 103 → mna h' 32 0 = 0 := fun h' e => mna_b (h := h') (o := 32) e false
  have fo : fLy h (mh_si (opH h k p) 2 17 (Int32.ofNat p)) := by
    unfold opH
    exact fLy_t (fLy_si (Or.inl ⟨by decide, by decide⟩)) (fLy_t (fLy_si (Or.inl ⟨by decide, by decide⟩)) (fLy_t (fLy_si (Or.inr ⟨rfl, Or.inr ⟨by decide, by decide⟩⟩)) (fLy_si (Or.inr ⟨rfl, Or.inr ⟨by decide, by decide⟩⟩))))
  have a3 := c_137L (d := d) (CLC_L fo C) (f := g) (x := 3) (x' := 3) rfl hg (by decide)
  unfold opH at a3 ⊢
  clear F C fo
  simp (disch := first | omega | (simp only [hk_si, hk_sj, hk_sr, hl_si, hl_sj, hl_sr, hn_si, hn_sj, hn_sr, hs_si, hs_sj, hs_sr, hi_sj, hi_sr, hj_si, hj_sr, hr_si, hr_sj, hi_si, hj_sj, hr_sr, mg_si, mg_sj, mg_sr]; exact g32a)) only [s_89_0, s_89_1, s_89_4, s_89_5, s_89_6, s_89_7, s_89_10, s_89_11, s_89_14, s_89_17, s_89_18, s_89_19, s_89_20, s_89_23, s_89_24, s_89_25, s_89_25n, s_89_26, s_89_27, s_89_30, s_89_31, s_89_32, s_89_35, s_89_36, s_89_39, s_89_40, s_89_43, s_89_44, s_89_45, s_89_48, s_89_51, s_89_52, s_89_53, s_89_56, s_89_57, s_89_58, s_89_61, s_89_62, s_89_65, s_89_66, s_89_69, s_89_70, s_89_71, s_89_74, s_89_77, s_89_78, s_89_79, s_89_82, s_89_83, s_89_84, s_89_87, s_89_88, s_89_89, s_89_92, s_89_93, s_89_94, s_89_97, s_89_100, s_89_101, s_89_104, s_89_105, s_89_108, s_89_109, s_89_112, s_89_113, s_89_114, s_89_115, s_89_116, s_89_117, s_89_120, s_89_121, s_89_122, s_89_123, s_89_124, s_89_125, s_89_126, s_89_127, s_89_130, s_89_131, s_89_132, s_89_135, s_89_136, s_89_137, s_89_140, s_89_141, s_89_144, s_89_147, s_89_148, s_89_151, s_89_152, s_89_155, s_89_156, s_89_159, s_89_160, s_89_163, s_89_164, s_89_165, s_89_166, s_89_169, s_89_170, s_89_173, s_89_174, s_89_175, s_89_176, s_89_177, s_89_180, s_89_181, s_89_182, s_89_185, s_89_186, s_89_189, s_89_190, s_89_193, s_89_194, s_89_195, s_89_198, s_89_199, s_89_202, s_89_203, s_89_206, s_89_207, s_89_210, s_89_211, s_89_212, s_89_215, s_89_216, s_89_217, e_89, mv_i_1, mv_l_1, mv_a_1, mv_a_2, mv_a_3, mk2_n, mk2_i, mk2_l, mk2_a, mk2_u, mk2_x, mB_T, mB_F, mS_cons, mS_nil, mSB_T, mSB_F, mca_nil, mca_i, mca_l, mca_r, mca_u, mca_x, mcat_i, mcat_l, mcat_r, mcat_u, mcat_x, mK_some, mK_none, va_rf_s, va_rf_n, lgc_eq, lgc_lt, lgc_gt, lgc_ge, lgc_le, mrd_104, mrd_105, mrd_106, mrd_107, true_and, and_true, and_self, false_and, and_false, true_or, or_true, false_or, or_false, not_true_eq_false, not_false_eq_true, mgb, mga, mgr, mN, reduceCtorEq, ↓reduceIte, eq_self, ge_iff_le, gt_iff_lt, hk_si, hk_sj, hk_sr, hl_si, hl_sj, hl_sr, hn_si, hn_sj, hn_sr, hs_si, hs_sj, hs_sr, hi_sj, hi_sr, hj_si, hj_sr, hr_si, hr_sj, hi_si, hj_sj, hr_sr, mg_si, mg_sj, mg_sr, Nat.reduceAdd, Nat.reduceMul, Nat.reduceSub, Nat.reduceLT, Nat.reduceGT, Nat.reduceEqDiff, Nat.reduceLeDiff, Nat.left_eq_add, Nat.add_eq_left, Nat.reduceMod, Nat.reduceDiv, Nat.succ_ne_self, g2, gS, a0, z0, z4, t14, g31, l31, t15, g32, g32a, g32b, l32, k16, s0, sr, srg, s14, a3, e1', nS1, nS2, nS3, mb, nn_mxT, nn_clamp]
/-- shutBlock: the first BLOCK of an if -/
theorem c_88a (F : CF h) (k16 : mh_i h 2 16 = Int32.ofNat k) (hk : 1 ≤ k) (hk2 : k ≤ 250) {o : Nat} (ho : o < 250) (e31 : mh_i h 31 (k - 1) = Int32.ofNat o) (rS : mh_r h 20 o = some St) (gS : mg h St 9) (s0 : mh_i h St 0 = 5) (e32 : mh_i h 32 (k - 1) = 0) (ec : mh_i h 2 2 = Int32.ofNat p) {nx : Int32} : ∀ Q, mcall d 88 [.ref 2, .int nx] h Q = Q (some (.int nx)) (mh_si (mh_si h 32 (k - 1) 1) 25 o (Int32.ofNat p)) := by
  intro Q
  have g2 := F.g 2 4 20 (by decide +kernel)
  have t3 := F.f 2 3 20 (by decide +kernel)
  have g20 := (F.g 20 105 250 (by decide +kernel)).1
  have g20b := (F.g 20 105 250 (by decide +kernel)).2
  have l20 := F.l 20 105 250 (by decide +kernel)
  have t14 := F.f 2 14 31 (by decide +kernel)
  have g31 := F.g 31 100 250 (by decide +kernel)
  have l31 := F.l 31 100 250 (by decide +kernel)
  have t15 := F.f 2 15 32 (by decide +kernel)
  have g32 := F.g 32 103 250 (by decide +kernel)
  have g32a := g32.1
  have g32b := g32.2
  have l32 := F.l 32 103 250 (by decide +kernel)
  have t8 := F.f 2 8 25 (by decide +kernel)
  have g25 := F.g 25 100 250 (by decide +kernel)
  have l25 := F.l 25 100 250 (by decide +kernel)
  have es : Int32.ofNat k - 1 = Int32.ofNat (k - 1) := nn_sub (a := k) (b := 1) hk
  have z5 : ((5 : Int32) = 5) = True := eq_true rfl
  have z0 : ((0 : Int32) = 0) = True := eq_true rfl
  have mb : mna h 32 1 = 1 := mna_b (h := h) (o := 32) g32a true
  clear F
  simp (disch := omega) only [s_88_0, s_88_1, s_88_4, s_88_5, s_88_8, s_88_9, s_88_10, s_88_10x, s_88_11, s_88_12, s_88_13, s_88_16, s_88_17, s_88_18, s_88_18n, s_88_18x, s_88_19, s_88_20, s_88_23, s_88_24, s_88_27, s_88_28, s_88_31, s_88_32, s_88_35, s_88_36, s_88_37, s_88_38, s_88_41, s_88_42, s_88_45, s_88_46, s_88_49, s_88_50, s_88_51, s_88_52, s_88_53, s_88_54, s_88_57, s_88_58, s_88_59, s_88_62, s_88_63, s_88_64, s_88_65, s_88_66, s_88_69, s_88_70, s_88_71, s_88_74, s_88_75, s_88_76, s_88_77, s_88_80, s_88_81, s_88_82, s_88_85, s_88_86, s_88_89, s_88_90, s_88_93, s_88_94, s_88_95, s_88_98, s_88_99, s_88_99x, s_88_100, s_88_103, s_88_104, s_88_107, s_88_108, s_88_109, s_88_110, s_88_111, e_88, mv_i_1, mv_l_1, mv_a_1, mv_a_2, mv_a_3, mk2_n, mk2_i, mk2_l, mk2_a, mk2_u, mk2_x, mB_T, mB_F, mS_cons, mS_nil, mSB_T, mSB_F, mca_nil, mca_i, mca_l, mca_r, mca_u, mca_x, mcat_i, mcat_l, mcat_r, mcat_u, mcat_x, mK_some, mK_none, va_rf_s, va_rf_n, lgc_eq, lgc_lt, lgc_gt, lgc_ge, lgc_le, mrd_104, mrd_105, mrd_106, mrd_107, true_and, and_true, and_self, false_and, and_false, true_or, or_true, false_or, or_false, not_true_eq_false, not_false_eq_true, mgb, mga, mgr, mN, reduceCtorEq, ↓reduceIte, eq_self, ge_iff_le, gt_iff_lt, hk_si, hk_sj, hk_sr, hl_si, hl_sj, hl_sr, hn_si, hn_sj, hn_sr, hs_si, hs_sj, hs_sr, hi_sj, hi_sr, hj_si, hj_sr, hr_si, hr_sj, hi_si, hj_sj, hr_sr, mg_si, mg_sj, mg_sr, Nat.reduceAdd, Nat.reduceMul, Nat.reduceSub, Nat.reduceLT, Nat.reduceGT, Nat.reduceEqDiff, Nat.reduceLeDiff, Nat.left_eq_add, Nat.add_eq_left, Nat.reduceMod, Nat.reduceDiv, Nat.succ_ne_self, g2, t3, g20, g20b, l20, t14, g31, l31, k16, es, e31, rS, gS, s0, z5, t15, g32, g32a, g32b, l32, e32, z0, mb, t8, g25, l25, ec, nn_mxT, nn_clamp]
/-- shutBlock: all of a statement -/
theorem c_88b (F : CF h) (k16 : mh_i h 2 16 = Int32.ofNat k) (hk : 1 ≤ k) (hk2 : k ≤ 250) {o ix : Nat} (ho : o < 250) (e31 : mh_i h 31 (k - 1) = Int32.ofNat o) (rS : mh_r h 20 o = some St) (gS : mg h St 9) (s0 : mh_i h St 0 = Int32.ofNat kd) (hkd : kd < 100) (s1 : mh_i h St 1 = Int32.ofNat ix) (e32 : kd = 5 → mh_i h 32 (k - 1) = 1) (ec : mh_i h 2 2 = Int32.ofNat p) {nx : Int32} : ∀ Q, mcall d 88 [.ref 2, .int nx] h Q = if kd = 4 then Q (some (.int (Int32.ofNat (ix + 1)))) (mh_si (mh_si (mh_si h 26 o (Int32.ofNat p)) 2 16 (Int32.ofNat (k - 1))) 2 17 (mh_i h 23 o)) else Q (some (.int nx)) (mh_si (mh_si h 26 o (Int32.ofNat p)) 2 16 (Int32.ofNat (k - 1))) := by
  intro Q
  have g2 := F.g 2 4 20 (by decide +kernel)
  have t3 := F.f 2 3 20 (by decide +kernel)
  have g20 := (F.g 20 105 250 (by decide +kernel)).1
  have g20b := (F.g 20 105 250 (by decide +kernel)).2
  have l20 := F.l 20 105 250 (by decide +kernel)
  have t14 := F.f 2 14 31 (by decide +kernel)
  have g31 := F.g 31 100 250 (by decide +kernel)
  have l31 := F.l 31 100 250 (by decide +kernel)
  have t15 := F.f 2 15 32 (by decide +kernel)
  have g32 := F.g 32 103 250 (by decide +kernel)
  have g32a := g32.1
  have g32b := g32.2
  have l32 := F.l 32 103 250 (by decide +kernel)
  have t9 := F.f 2 9 26 (by decide +kernel)
  have g26 := F.g 26 100 250 (by decide +kernel)
  have l26 := F.l 26 100 250 (by decide +kernel)
  have t6 := F.f 2 6 23 (by decide +kernel)
  have g23 := F.g 23 100 250 (by decide +kernel)
  have l23 := F.l 23 100 250 (by decide +kernel)
  have es : Int32.ofNat k - 1 = Int32.ofNat (k - 1) := nn_sub (a := k) (b := 1) hk
  have e5 : (Int32.ofNat kd = 5) = (kd = 5) := nn_eq (a := kd) (b := 5) (by omega) (by decide)
  have e4 : (Int32.ofNat kd = 4) = (kd = 4) := nn_eq (a := kd) (b := 4) (by omega) (by decide)
  have n1 : ((1 : Int32) = 0) = False := by decide
  have e1' : ∀ k, Int32.ofNat k + 1 = Int32.ofNat (k + 1) := fun k => nn_add (a := k) (b := 1)
  have gSk := gS.1
  have nS : St ≠ 2 ∧ St ≠ 26 := ⟨fun z => by have := g2.1; rw [← z, gSk] at this; omega, fun z => by have := g26.1; rw [← z, gSk] at this; omega⟩
  have nS1 : (St = 2) = False := eq_false nS.1
  have nS2 : (St = 26) = False := eq_false nS.2
  clear F
  by_cases c4 : kd = 4
  · rw [if_pos c4]
    have c4' := e4.trans (eq_true c4)
    have c5' := e5.trans (eq_false (by omega))
    simp (disch := omega) only [s_88_0, s_88_1, s_88_4, s_88_5, s_88_8, s_88_9, s_88_10, s_88_10x, s_88_11, s_88_12, s_88_13, s_88_16, s_88_17, s_88_18, s_88_18n, s_88_18x, s_88_19, s_88_20, s_88_23, s_88_24, s_88_27, s_88_28, s_88_31, s_88_32, s_88_35, s_88_36, s_88_37, s_88_38, s_88_41, s_88_42, s_88_45, s_88_46, s_88_49, s_88_50, s_88_51, s_88_52, s_88_53, s_88_54, s_88_57, s_88_58, s_88_59, s_88_62, s_88_63, s_88_64, s_88_65, s_88_66, s_88_69, s_88_70, s_88_71, s_88_74, s_88_75, s_88_76, s_88_77, s_88_80, s_88_81, s_88_82, s_88_85, s_88_86, s_88_89, s_88_90, s_88_93, s_88_94, s_88_95, s_88_98, s_88_99, s_88_99x, s_88_100, s_88_103, s_88_104, s_88_107, s_88_108, s_88_109, s_88_110, s_88_111, e_88, mv_i_1, mv_l_1, mv_a_1, mv_a_2, mv_a_3, mk2_n, mk2_i, mk2_l, mk2_a, mk2_u, mk2_x, mB_T, mB_F, mS_cons, mS_nil, mSB_T, mSB_F, mca_nil, mca_i, mca_l, mca_r, mca_u, mca_x, mcat_i, mcat_l, mcat_r, mcat_u, mcat_x, mK_some, mK_none, va_rf_s, va_rf_n, lgc_eq, lgc_lt, lgc_gt, lgc_ge, lgc_le, mrd_104, mrd_105, mrd_106, mrd_107, true_and, and_true, and_self, false_and, and_false, true_or, or_true, false_or, or_false, not_true_eq_false, not_false_eq_true, mgb, mga, mgr, mN, reduceCtorEq, ↓reduceIte, eq_self, ge_iff_le, gt_iff_lt, hk_si, hk_sj, hk_sr, hl_si, hl_sj, hl_sr, hn_si, hn_sj, hn_sr, hs_si, hs_sj, hs_sr, hi_sj, hi_sr, hj_si, hj_sr, hr_si, hr_sj, hi_si, hj_sj, hr_sr, mg_si, mg_sj, mg_sr, Nat.reduceAdd, Nat.reduceMul, Nat.reduceSub, Nat.reduceLT, Nat.reduceGT, Nat.reduceEqDiff, Nat.reduceLeDiff, Nat.left_eq_add, Nat.add_eq_left, Nat.reduceMod, Nat.reduceDiv, Nat.succ_ne_self, g2, t3, g20, g20b, l20, t14, g31, l31, k16, es, e31, rS, gS, s0, c5', c4', t9, g26, l26, ec, t6, g23, l23, s1, e1', nS1, nS2, nn_mxT, nn_clamp]
  · rw [if_neg c4]
    have c4' := e4.trans (eq_false c4)
    by_cases c5 : kd = 5
    · have c5' := e5.trans (eq_true c5)
      have e32' := e32 c5
      simp (disch := omega) only [s_88_0, s_88_1, s_88_4, s_88_5, s_88_8, s_88_9, s_88_10, s_88_10x, s_88_11, s_88_12, s_88_13, s_88_16, s_88_17, s_88_18, s_88_18n, s_88_18x, s_88_19, s_88_20, s_88_23, s_88_24, s_88_27, s_88_28, s_88_31, s_88_32, s_88_35, s_88_36, s_88_37, s_88_38, s_88_41, s_88_42, s_88_45, s_88_46, s_88_49, s_88_50, s_88_51, s_88_52, s_88_53, s_88_54, s_88_57, s_88_58, s_88_59, s_88_62, s_88_63, s_88_64, s_88_65, s_88_66, s_88_69, s_88_70, s_88_71, s_88_74, s_88_75, s_88_76, s_88_77, s_88_80, s_88_81, s_88_82, s_88_85, s_88_86, s_88_89, s_88_90, s_88_93, s_88_94, s_88_95, s_88_98, s_88_99, s_88_99x, s_88_100, s_88_103, s_88_104, s_88_107, s_88_108, s_88_109, s_88_110, s_88_111, e_88, mv_i_1, mv_l_1, mv_a_1, mv_a_2, mv_a_3, mk2_n, mk2_i, mk2_l, mk2_a, mk2_u, mk2_x, mB_T, mB_F, mS_cons, mS_nil, mSB_T, mSB_F, mca_nil, mca_i, mca_l, mca_r, mca_u, mca_x, mcat_i, mcat_l, mcat_r, mcat_u, mcat_x, mK_some, mK_none, va_rf_s, va_rf_n, lgc_eq, lgc_lt, lgc_gt, lgc_ge, lgc_le, mrd_104, mrd_105, mrd_106, mrd_107, true_and, and_true, and_self, false_and, and_false, true_or, or_true, false_or, or_false, not_true_eq_false, not_false_eq_true, mgb, mga, mgr, mN, reduceCtorEq, ↓reduceIte, eq_self, ge_iff_le, gt_iff_lt, hk_si, hk_sj, hk_sr, hl_si, hl_sj, hl_sr, hn_si, hn_sj, hn_sr, hs_si, hs_sj, hs_sr, hi_sj, hi_sr, hj_si, hj_sr, hr_si, hr_sj, hi_si, hj_sj, hr_sr, mg_si, mg_sj, mg_sr, Nat.reduceAdd, Nat.reduceMul, Nat.reduceSub, Nat.reduceLT, Nat.reduceGT, Nat.reduceEqDiff, Nat.reduceLeDiff, Nat.left_eq_add, Nat.add_eq_left, Nat.reduceMod, Nat.reduceDiv, Nat.succ_ne_self, g2, t3, g20, g20b, l20, t14, g31, l31, k16, es, e31, rS, gS, s0, c5', c4', t15, g32, g32a, g32b, l32, e32', n1, t9, g26, l26, ec, nS1, nS2, nn_mxT, nn_clamp]
    · have c5' := e5.trans (eq_false c5)
      simp (disch := omega) only [s_88_0, s_88_1, s_88_4, s_88_5, s_88_8, s_88_9, s_88_10, s_88_10x, s_88_11, s_88_12, s_88_13, s_88_16, s_88_17, s_88_18, s_88_18n, s_88_18x, s_88_19, s_88_20, s_88_23, s_88_24, s_88_27, s_88_28, s_88_31, s_88_32, s_88_35, s_88_36, s_88_37, s_88_38, s_88_41, s_88_42, s_88_45, s_88_46, s_88_49, s_88_50, s_88_51, s_88_52, s_88_53, s_88_54, s_88_57, s_88_58, s_88_59, s_88_62, s_88_63, s_88_64, s_88_65, s_88_66, s_88_69, s_88_70, s_88_71, s_88_74, s_88_75, s_88_76, s_88_77, s_88_80, s_88_81, s_88_82, s_88_85, s_88_86, s_88_89, s_88_90, s_88_93, s_88_94, s_88_95, s_88_98, s_88_99, s_88_99x, s_88_100, s_88_103, s_88_104, s_88_107, s_88_108, s_88_109, s_88_110, s_88_111, e_88, mv_i_1, mv_l_1, mv_a_1, mv_a_2, mv_a_3, mk2_n, mk2_i, mk2_l, mk2_a, mk2_u, mk2_x, mB_T, mB_F, mS_cons, mS_nil, mSB_T, mSB_F, mca_nil, mca_i, mca_l, mca_r, mca_u, mca_x, mcat_i, mcat_l, mcat_r, mcat_u, mcat_x, mK_some, mK_none, va_rf_s, va_rf_n, lgc_eq, lgc_lt, lgc_gt, lgc_ge, lgc_le, mrd_104, mrd_105, mrd_106, mrd_107, true_and, and_true, and_self, false_and, and_false, true_or, or_true, false_or, or_false, not_true_eq_false, not_false_eq_true, mgb, mga, mgr, mN, reduceCtorEq, ↓reduceIte, eq_self, ge_iff_le, gt_iff_lt, hk_si, hk_sj, hk_sr, hl_si, hl_sj, hl_sr, hn_si, hn_sj, hn_sr, hs_si, hs_sj, hs_sr, hi_sj, hi_sr, hj_si, hj_sr, hr_si, hr_sj, hi_si, hj_sj, hr_sr, mg_si, mg_sj, mg_sr, Nat.reduceAdd, Nat.reduceMul, Nat.reduceSub, Nat.reduceLT, Nat.reduceGT, Nat.reduceEqDiff, Nat.reduceLeDiff, Nat.left_eq_add, Nat.add_eq_left, Nat.reduceMod, Nat.reduceDiv, Nat.succ_ne_self, g2, t3, g20, g20b, l20, t14, g31, l31, k16, es, e31, rS, gS, s0, c5', c4', t9, g26, l26, ec, nS1, nS2, nn_mxT, nn_clamp]
end LSl
