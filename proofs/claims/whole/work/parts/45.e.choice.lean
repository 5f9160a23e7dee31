set_option maxRecDepth 100000
/-! CHECKS: choice, its BLOCKs; if -/
section CFs
variable {d : Nat} {h h1 h2 : mh_H} {s0 s1 o o' p q k e0 br T x to n ho fa m b f e : Nat} {E : nv} {D : fd} {w0 : wd} {s X F1 F2 : Option ab} {G : pgm} {J : pin} {cl : Nat → Option ab} {cs r c bs t : tr} {A : ab} {fst oth : Nat → Nat}
theorem LW_d (L : LW G J D f t p e E) (hp : p < e) : G.n p = E.nu ∧ G.a p = E.ar := by
  cases f with
  | zero =>
    cases t with
    | leaf u => have : p = e := L; omega
    | branch n cs r => exact absurd L (fun z => z)
  | succ f =>
    cases t with
    | leaf u => have : p = e := L; omega
    | branch n cs r => exact ⟨L.2.2.1, L.2.2.2.1⟩
/-- goes, of one that was split -/
theorem csp_g (H : CHX G J e0 cl) (S : CSP h s0 o ho fa E D w0 G e0 cl br X F1 F2) {Y : Option ab} {u : Nat} (lu : lv h (s0 + 2) u) (ku : RK h u Y) (su : shp E.nu E.ar E.rm Y) (hto : to ≤ e0) (hdm : G.n to ≤ E.nu ∧ G.a to ≤ E.ar) (m12 : E.nu ≤ 12 ∧ E.ar ≤ 6) (hp : p < 250) (hs : s0 + 3 ≤ 2048) : ∃ h', rq s0 (sV o E.T) h h' ∧ CSP h' s0 o ho fa E D w0 G e0 cl (gsB G cl Y to p br) X F1 F2 ∧ (mh_i h' 93 = mh_i h 93 ∧ mh_i h' 95 = mh_i h 95 ∧ mh_i h' 97 = mh_i h 97) ∧ ∀ Q, mcall (d + 3) 260 [.ref 115, .int (Int32.ofNat p), .int (Int32.ofNat to), .ref u] h Q = Q none h' := by
  obtain ⟨h3, x3, R3, kK, kI, rows, C3, run3⟩ := w_260c (d := d) (p := p) S.A lu ku (shp_sg su hdm.1 hdm.2) S.C H.he hto hp (by omega) (CHX_d H hto) ⟨by omega, by omega⟩
  have x3' : rq (s0 + 2) (sV o E.T) h h3 := x3 o E.T
  exact ⟨h3, sV_sp x3' (by omega) (Nat.le_refl _) (Or.inl rfl), CSP.of ⟨R3, C3, rq_lv x3' S.l, x3'.k _ _ S.r1, x3'.k _ _ S.r2, kK o _ (lv_w S.l (by omega)) S.ko, kK ho _ ⟨s0, by omega, S.r1⟩ S.kh, kK fa _ ⟨s0 + 1, by omega, S.r2⟩ S.kf⟩, rows, run3⟩
/-- the run: goes twice, BLOCK; no else -/
theorem cho_r1 {hg1 hg2 h3 : mh_H} {K0 k1 K2 M nx' to1 to2 : Nat} {x5 : Option Value} (hp : p < 250) (hM1 : p < M) (hM : M < 250) (hk : K0 < 30000 ∧ k1 < 30000 ∧ K2 < 30000) (g : mg h 115 12) (gg1 : mg hg1 115 12) (gg2 : mg hg2 115 12) (g3 : mg h3 115 12) (c0 : ∀ Q, mcall d 228 [.ref 115, .int (Int32.ofNat k)] h Q = Q (some (.int (Int32.ofNat K0))) h) (c1 : ∀ Q, mcall d 228 [.ref 115, .int (Int32.ofNat (k + 1))] h Q = Q (some (.int (Int32.ofNat k1))) h) (c2 : ∀ Q, mcall d 228 [.ref 115, .int (Int32.ofNat k1)] h Q = Q (some (.int (Int32.ofNat K2))) h) (le : K0 ≤ K2) (p1 : ∀ Q, mcall d 253 [.ref 115, .int (Int32.ofNat k1)] h Q = Q (some (.int (Int32.ofNat (M - (p + 1))))) h) (et1 : (if p + 1 < M then p + 1 else nx') = to1) (et2 : nx' = to2) (rg1 : ∀ Q, mcall d 260 [.ref 115, .int (Int32.ofNat p), .int (Int32.ofNat to1), .ref ho] h Q = Q none hg1) (rg2 : ∀ Q, mcall d 260 [.ref 115, .int (Int32.ofNat p), .int (Int32.ofNat to2), .ref fa] hg1 Q = Q none hg2) (run3 : ∀ Q, mcall d 257 [.ref 115, .int (Int32.ofNat k1), .int (Int32.ofNat (p + 1)), .int (Int32.ofNat nx'), .ref ho] hg2 Q = Q none h3) : ∀ Q, mw (d + 1) 264 Q 45 [some (.ref 115), some (.int (Int32.ofNat k)), some (.int (Int32.ofNat p)), some (.int (Int32.ofNat nx')), some (.ref o), x5, some (.int (Int32.ofNat s0)), some (.ref ho), some (.ref fa), none, none, none, none] [] h = mw (d + 1) 264 Q 183 [some (.ref 115), some (.int (Int32.ofNat k)), some (.int (Int32.ofNat p)), some (.int (Int32.ofNat nx')), some (.ref o), x5, some (.int (Int32.ofNat s0)), some (.ref ho), some (.ref fa), some (.int (Int32.ofNat k1)), some (.int (-1)), some (.int (Int32.ofNat M)), some (.int (Int32.ofNat M))] [] h3 := fun Q => by
  have le' : (K0 ≤ K2) = True := eq_true le
  have lm : ((-1 : Int32) < 0) = True := by decide
  have lm2 : ((0 : Int32) ≤ -1) = False := by decide
  have lMM : (M ≤ M) = True := eq_true (Nat.le_refl _)
  have e1' : ∀ k, Int32.ofNat k + 1 = Int32.ofNat (k + 1) := fun k => nn_add (a := k) (b := 1)
  have eM : p + 1 + (M - (p + 1)) = M := by omega
  subst et2
  rw [s_264_45]
  by_cases hMc : M ≤ p + 1
  · rw [if_neg (by omega)] at et1
    subst et1
    have hMc' : (M ≤ p + 1) = True := eq_true hMc
    simp (disch := omega) only [s_264_0, s_264_1, s_264_2, s_264_4, s_264_7, s_264_9, s_264_10, s_264_13, s_264_15, s_264_16, s_264_19, s_264_19n, s_264_21, s_264_22, s_264_25, s_264_25n, s_264_27, s_264_28, s_264_29, s_264_30, s_264_31, s_264_33, s_264_35, s_264_37, s_264_40, s_264_41, s_264_42, s_264_46, s_264_47, s_264_48, s_264_49, s_264_52, s_264_54, s_264_55, s_264_57, s_264_60, s_264_61, s_264_62, s_264_65, s_264_68, s_264_69, s_264_71, s_264_74, s_264_77, s_264_78, s_264_80, s_264_81, s_264_82, s_264_83, s_264_84, s_264_86, s_264_89, s_264_90, s_264_92, s_264_94, s_264_97, s_264_99, s_264_102, s_264_104, s_264_105, s_264_107, s_264_110, s_264_111, s_264_113, s_264_114, s_264_115, s_264_117, s_264_118, s_264_119, s_264_120, s_264_123, s_264_124, s_264_125, s_264_126, s_264_129, s_264_130, s_264_132, s_264_135, s_264_136, s_264_137, s_264_139, s_264_141, s_264_144, s_264_146, s_264_149, s_264_150, s_264_152, s_264_155, s_264_156, s_264_158, s_264_159, s_264_160, s_264_161, s_264_162, s_264_164, s_264_167, s_264_169, s_264_172, s_264_173, s_264_175, s_264_177, s_264_178, s_264_180, s_264_185, s_264_187, s_264_190, s_264_192, s_264_194, s_264_197, s_264_200, s_264_202, s_264_204, s_264_207, s_264_209, s_264_210, s_264_213, s_264_216, s_264_218, s_264_219, s_264_222, s_264_225, s_264_226, s_264_228, s_264_231, e_264, mv_i_1, mv_l_1, mv_a_1, mv_a_2, mv_a_3, mk2_n, mk2_i, mk2_l, mk2_a, mk2_u, mk2_x, mB_T, mB_F, mS_cons, mS_nil, mSB_T, mSB_F, mca_nil, mca_i, mca_l, mca_r, mca_u, mca_x, mcat_i, mcat_l, mcat_r, mcat_u, mcat_x, mK_some, mK_none, va_rf_s, va_rf_n, lgc_eq, lgc_lt, lgc_gt, lgc_ge, lgc_le, mrd_104, mrd_105, mrd_106, mrd_107, true_and, and_true, and_self, false_and, and_false, true_or, or_true, false_or, or_false, not_true_eq_false, not_false_eq_true, mgb, mga, mgr, mN, reduceCtorEq, ↓reduceIte, eq_self, ge_iff_le, gt_iff_lt, Nat.reduceAdd, Nat.reduceMul, Nat.reduceSub, Nat.reduceLT, Nat.reduceGT, Nat.reduceEqDiff, Nat.reduceLeDiff, Nat.left_eq_add, Nat.add_eq_left, Nat.reduceMod, Nat.reduceDiv, Nat.succ_ne_self, g, gg1, gg2, g3, c0, c1, c2, p1, nn_le, le', lm, lm2, nn_add, e1', eM, hMc', lMM, rg1, rg2, run3]
  · rw [if_pos (by omega)] at et1
    subst et1
    have hMc' : (M ≤ p + 1) = False := eq_false hMc
    simp (disch := omega) only [s_264_0, s_264_1, s_264_2, s_264_4, s_264_7, s_264_9, s_264_10, s_264_13, s_264_15, s_264_16, s_264_19, s_264_19n, s_264_21, s_264_22, s_264_25, s_264_25n, s_264_27, s_264_28, s_264_29, s_264_30, s_264_31, s_264_33, s_264_35, s_264_37, s_264_40, s_264_41, s_264_42, s_264_46, s_264_47, s_264_48, s_264_49, s_264_52, s_264_54, s_264_55, s_264_57, s_264_60, s_264_61, s_264_62, s_264_65, s_264_68, s_264_69, s_264_71, s_264_74, s_264_77, s_264_78, s_264_80, s_264_81, s_264_82, s_264_83, s_264_84, s_264_86, s_264_89, s_264_90, s_264_92, s_264_94, s_264_97, s_264_99, s_264_102, s_264_104, s_264_105, s_264_107, s_264_110, s_264_111, s_264_113, s_264_114, s_264_115, s_264_117, s_264_118, s_264_119, s_264_120, s_264_123, s_264_124, s_264_125, s_264_126, s_264_129, s_264_130, s_264_132, s_264_135, s_264_136, s_264_137, s_264_139, s_264_141, s_264_144, s_264_146, s_264_149, s_264_150, s_264_152, s_264_155, s_264_156, s_264_158, s_264_159, s_264_160, s_264_161, s_264_162, s_264_164, s_264_167, s_264_169, s_264_172, s_264_173, s_264_175, s_264_177, s_264_178, s_264_180, s_264_185, s_264_187, s_264_190, s_264_192, s_264_194, s_264_197, s_264_200, s_264_202, s_264_204, s_264_207, s_264_209, s_264_210, s_264_213, s_264_216, s_264_218, s_264_219, s_264_222, s_264_225, s_264_226, s_264_228, s_264_231, e_264, mv_i_1, mv_l_1, mv_a_1, mv_a_2, mv_a_3, mk2_n, mk2_i, mk2_l, mk2_a, mk2_u, mk2_x, mB_T, mB_F, mS_cons, mS_nil, mSB_T, mSB_F, mca_nil, mca_i, mca_l, mca_r, mca_u, mca_x, mcat_i, mcat_l, mcat_r, mcat_u, mcat_x, mK_some, mK_none, va_rf_s, va_rf_n, lgc_eq, lgc_lt, lgc_gt, lgc_ge, lgc_le, mrd_104, mrd_105, mrd_106, mrd_107, true_and, and_true, and_self, false_and, and_false, true_or, or_true, false_or, or_false, not_true_eq_false, not_false_eq_true, mgb, mga, mgr, mN, reduceCtorEq, ↓reduceIte, eq_self, ge_iff_le, gt_iff_lt, Nat.reduceAdd, Nat.reduceMul, Nat.reduceSub, Nat.reduceLT, Nat.reduceGT, Nat.reduceEqDiff, Nat.reduceLeDiff, Nat.left_eq_add, Nat.add_eq_left, Nat.reduceMod, Nat.reduceDiv, Nat.succ_ne_self, g, gg1, gg2, g3, c0, c1, c2, p1, nn_le, le', lm, lm2, nn_add, e1', eM, hMc', lMM, rg1, rg2, run3]
/-- with an else -/
theorem cho_r2 {hg1 hg2 h3 h4 : mh_H} {K0 k1 K2 M Ee nx' to1 to2 : Nat} {x5 : Option Value} (hp : p < 250) (hM1 : p < M) (hM2 : M ≤ Ee) (hE : Ee < 250) (hk : K0 < 30000 ∧ k1 < 30000 ∧ K2 < 30000) (g : mg h 115 12) (gg1 : mg hg1 115 12) (gg2 : mg hg2 115 12) (g3 : mg h3 115 12) (c0 : ∀ Q, mcall d 228 [.ref 115, .int (Int32.ofNat k)] h Q = Q (some (.int (Int32.ofNat K0))) h) (c1 : ∀ Q, mcall d 228 [.ref 115, .int (Int32.ofNat (k + 1))] h Q = Q (some (.int (Int32.ofNat k1))) h) (c2 : ∀ Q, mcall d 228 [.ref 115, .int (Int32.ofNat k1)] h Q = Q (some (.int (Int32.ofNat K2))) h) (le : ¬ K0 ≤ K2) (p1 : ∀ Q, mcall d 253 [.ref 115, .int (Int32.ofNat k1)] h Q = Q (some (.int (Int32.ofNat (M - (p + 1))))) h) (p2 : ∀ Q, mcall d 253 [.ref 115, .int (Int32.ofNat K2)] h Q = Q (some (.int (Int32.ofNat (Ee - M)))) h) (et1 : (if p + 1 < M then p + 1 else nx') = to1) (et2 : (if M < Ee then M else nx') = to2) (rg1 : ∀ Q, mcall d 260 [.ref 115, .int (Int32.ofNat p), .int (Int32.ofNat to1), .ref ho] h Q = Q none hg1) (rg2 : ∀ Q, mcall d 260 [.ref 115, .int (Int32.ofNat p), .int (Int32.ofNat to2), .ref fa] hg1 Q = Q none hg2) (run3 : ∀ Q, mcall d 257 [.ref 115, .int (Int32.ofNat k1), .int (Int32.ofNat (p + 1)), .int (Int32.ofNat nx'), .ref ho] hg2 Q = Q none h3) (run4 : ∀ Q, mcall d 257 [.ref 115, .int (Int32.ofNat K2), .int (Int32.ofNat M), .int (Int32.ofNat nx'), .ref fa] h3 Q = Q none h4) : ∀ Q, mw (d + 1) 264 Q 45 [some (.ref 115), some (.int (Int32.ofNat k)), some (.int (Int32.ofNat p)), some (.int (Int32.ofNat nx')), some (.ref o), x5, some (.int (Int32.ofNat s0)), some (.ref ho), some (.ref fa), none, none, none, none] [] h = mw (d + 1) 264 Q 183 [some (.ref 115), some (.int (Int32.ofNat k)), some (.int (Int32.ofNat p)), some (.int (Int32.ofNat nx')), some (.ref o), x5, some (.int (Int32.ofNat s0)), some (.ref ho), some (.ref fa), some (.int (Int32.ofNat k1)), some (.int (Int32.ofNat K2)), some (.int (Int32.ofNat M)), some (.int (Int32.ofNat Ee))] [] h4 := fun Q => by
  have le' : (K0 ≤ K2) = False := eq_false le
  have lm2 : ((0 : Int32) ≤ Int32.ofNat K2) = True := nn_ge (by omega)
  have lm : (Int32.ofNat K2 < (0 : Int32)) = False := nn_neg (by omega)
  have e1' : ∀ k, Int32.ofNat k + 1 = Int32.ofNat (k + 1) := fun k => nn_add (a := k) (b := 1)
  have eM : p + 1 + (M - (p + 1)) = M := by omega
  have eE : M + (Ee - M) = Ee := by omega
  rw [s_264_45]
  by_cases hMc : M ≤ p + 1
  · rw [if_neg (by omega)] at et1
    subst et1
    have hMc' : (M ≤ p + 1) = True := eq_true hMc
    by_cases hEc : Ee ≤ M
    · rw [if_neg (by omega)] at et2
      subst et2
      have hEc' : (Ee ≤ M) = True := eq_true hEc
      simp (disch := omega) only [s_264_0, s_264_1, s_264_2, s_264_4, s_264_7, s_264_9, s_264_10, s_264_13, s_264_15, s_264_16, s_264_19, s_264_19n, s_264_21, s_264_22, s_264_25, s_264_25n, s_264_27, s_264_28, s_264_29, s_264_30, s_264_31, s_264_33, s_264_35, s_264_37, s_264_40, s_264_41, s_264_42, s_264_46, s_264_47, s_264_48, s_264_49, s_264_52, s_264_54, s_264_55, s_264_57, s_264_60, s_264_61, s_264_62, s_264_65, s_264_68, s_264_69, s_264_71, s_264_74, s_264_77, s_264_78, s_264_80, s_264_81, s_264_82, s_264_83, s_264_84, s_264_86, s_264_89, s_264_90, s_264_92, s_264_94, s_264_97, s_264_99, s_264_102, s_264_104, s_264_105, s_264_107, s_264_110, s_264_111, s_264_113, s_264_114, s_264_115, s_264_117, s_264_118, s_264_119, s_264_120, s_264_123, s_264_124, s_264_125, s_264_126, s_264_129, s_264_130, s_264_132, s_264_135, s_264_136, s_264_137, s_264_139, s_264_141, s_264_144, s_264_146, s_264_149, s_264_150, s_264_152, s_264_155, s_264_156, s_264_158, s_264_159, s_264_160, s_264_161, s_264_162, s_264_164, s_264_167, s_264_169, s_264_172, s_264_173, s_264_175, s_264_177, s_264_178, s_264_180, s_264_185, s_264_187, s_264_190, s_264_192, s_264_194, s_264_197, s_264_200, s_264_202, s_264_204, s_264_207, s_264_209, s_264_210, s_264_213, s_264_216, s_264_218, s_264_219, s_264_222, s_264_225, s_264_226, s_264_228, s_264_231, e_264, mv_i_1, mv_l_1, mv_a_1, mv_a_2, mv_a_3, mk2_n, mk2_i, mk2_l, mk2_a, mk2_u, mk2_x, mB_T, mB_F, mS_cons, mS_nil, mSB_T, mSB_F, mca_nil, mca_i, mca_l, mca_r, mca_u, mca_x, mcat_i, mcat_l, mcat_r, mcat_u, mcat_x, mK_some, mK_none, va_rf_s, va_rf_n, lgc_eq, lgc_lt, lgc_gt, lgc_ge, lgc_le, mrd_104, mrd_105, mrd_106, mrd_107, true_and, and_true, and_self, false_and, and_false, true_or, or_true, false_or, or_false, not_true_eq_false, not_false_eq_true, mgb, mga, mgr, mN, reduceCtorEq, ↓reduceIte, eq_self, ge_iff_le, gt_iff_lt, Nat.reduceAdd, Nat.reduceMul, Nat.reduceSub, Nat.reduceLT, Nat.reduceGT, Nat.reduceEqDiff, Nat.reduceLeDiff, Nat.left_eq_add, Nat.add_eq_left, Nat.reduceMod, Nat.reduceDiv, Nat.succ_ne_self, g, gg1, gg2, g3, c0, c1, c2, p1, p2, nn_le, le', lm, lm2, nn_add, e1', eM, eE, hMc', hEc', rg1, rg2, run3, run4]
    · rw [if_pos (by omega)] at et2
      subst et2
      have hEc' : (Ee ≤ M) = False := eq_false hEc
      simp (disch := omega) only [s_264_0, s_264_1, s_264_2, s_264_4, s_264_7, s_264_9, s_264_10, s_264_13, s_264_15, s_264_16, s_264_19, s_264_19n, s_264_21, s_264_22, s_264_25, s_264_25n, s_264_27, s_264_28, s_264_29, s_264_30, s_264_31, s_264_33, s_264_35, s_264_37, s_264_40, s_264_41, s_264_42, s_264_46, s_264_47, s_264_48, s_264_49, s_264_52, s_264_54, s_264_55, s_264_57, s_264_60, s_264_61, s_264_62, s_264_65, s_264_68, s_264_69, s_264_71, s_264_74, s_264_77, s_264_78, s_264_80, s_264_81, s_264_82, s_264_83, s_264_84, s_264_86, s_264_89, s_264_90, s_264_92, s_264_94, s_264_97, s_264_99, s_264_102, s_264_104, s_264_105, s_264_107, s_264_110, s_264_111, s_264_113, s_264_114, s_264_115, s_264_117, s_264_118, s_264_119, s_264_120, s_264_123, s_264_124, s_264_125, s_264_126, s_264_129, s_264_130, s_264_132, s_264_135, s_264_136, s_264_137, s_264_139, s_264_141, s_264_144, s_264_146, s_264_149, s_264_150, s_264_152, s_264_155, s_264_156, s_264_158, s_264_159, s_264_160, s_264_161, s_264_162, s_264_164, s_264_167, s_264_169, s_264_172, s_264_173, s_264_175, s_264_177, s_264_178, s_264_180, s_264_185, s_264_187, s_264_190, s_264_192, s_264_194, s_264_197, s_264_200, s_264_202, s_264_204, s_264_207, s_264_209, s_264_210, s_264_213, s_264_216, s_264_218, s_264_219, s_264_222, s_264_225, s_264_226, s_264_228, s_264_231, e_264, mv_i_1, mv_l_1, mv_a_1, mv_a_2, mv_a_3, mk2_n, mk2_i, mk2_l, mk2_a, mk2_u, mk2_x, mB_T, mB_F, mS_cons, mS_nil, mSB_T, mSB_F, mca_nil, mca_i, mca_l, mca_r, mca_u, mca_x, mcat_i, mcat_l, mcat_r, mcat_u, mcat_x, mK_some, mK_none, va_rf_s, va_rf_n, lgc_eq, lgc_lt, lgc_gt, lgc_ge, lgc_le, mrd_104, mrd_105, mrd_106, mrd_107, true_and, and_true, and_self, false_and, and_false, true_or, or_true, false_or, or_false, not_true_eq_false, not_false_eq_true, mgb, mga, mgr, mN, reduceCtorEq, ↓reduceIte, eq_self, ge_iff_le, gt_iff_lt, Nat.reduceAdd, Nat.reduceMul, Nat.reduceSub, Nat.reduceLT, Nat.reduceGT, Nat.reduceEqDiff, Nat.reduceLeDiff, Nat.left_eq_add, Nat.add_eq_left, Nat.reduceMod, Nat.reduceDiv, Nat.succ_ne_self, g, gg1, gg2, g3, c0, c1, c2, p1, p2, nn_le, le', lm, lm2, nn_add, e1', eM, eE, hMc', hEc', rg1, rg2, run3, run4]
  · rw [if_pos (by omega)] at et1
    subst et1
    have hMc' : (M ≤ p + 1) = False := eq_false hMc
    by_cases hEc : Ee ≤ M
    · rw [if_neg (by omega)] at et2
      subst et2
      have hEc' : (Ee ≤ M) = True := eq_true hEc
      simp (disch := omega) only [s_264_0, s_264_1, s_264_2, s_264_4, s_264_7, s_264_9, s_264_10, s_264_13, s_264_15, s_264_16, s_264_19, s_264_19n, s_264_21, s_264_22, s_264_25, s_264_25n, s_264_27, s_264_28, s_264_29, s_264_30, s_264_31, s_264_33, s_264_35, s_264_37, s_264_40, s_264_41, s_264_42, s_264_46, s_264_47, s_264_48, s_264_49, s_264_52, s_264_54, s_264_55, s_264_57, s_264_60, s_264_61, s_264_62, s_264_65, s_264_68, s_264_69, s_264_71, s_264_74, s_264_77, s_264_78, s_264_80, s_264_81, s_264_82, s_264_83, s_264_84, s_264_86, s_264_89, s_264_90, s_264_92, s_264_94, s_264_97, s_264_99, s_264_102, s_264_104, s_264_105, s_264_107, s_264_110, s_264_111, s_264_113, s_264_114, s_264_115, s_264_117, s_264_118, s_264_119, s_264_120, s_264_123, s_264_124, s_264_125, s_264_126, s_264_129, s_264_130, s_264_132, s_264_135, s_264_136, s_264_137, s_264_139, s_264_141, s_264_144, s_264_146, s_264_149, s_264_150, s_264_152, s_264_155, s_264_156, s_264_158, s_264_159, s_264_160, s_264_161, s_264_162, s_264_164, s_264_167, s_264_169, s_264_172, s_264_173, s_264_175, s_264_177, s_264_178, s_264_180, s_264_185, s_264_187, s_264_190, s_264_192, s_264_194, s_264_197, s_264_200, s_264_202, s_264_204, s_264_207, s_264_209, s_264_210, s_264_213, s_264_216, s_264_218, s_264_219, s_264_222, s_264_225, s_264_226, s_264_228, s_264_231, e_264, mv_i_1, mv_l_1, mv_a_1, mv_a_2, mv_a_3, mk2_n, mk2_i, mk2_l, mk2_a, mk2_u, mk2_x, mB_T, mB_F, mS_cons, mS_nil, mSB_T, mSB_F, mca_nil, mca_i, mca_l, mca_r, mca_u, mca_x, mcat_i, mcat_l, mcat_r, mcat_u, mcat_x, mK_some, mK_none, va_rf_s, va_rf_n, lgc_eq, lgc_lt, lgc_gt, lgc_ge, lgc_le, mrd_104, mrd_105, mrd_106, mrd_107, true_and, and_true, and_self, false_and, and_false, true_or, or_true, false_or, or_false, not_true_eq_false, not_false_eq_true, mgb, mga, mgr, mN, reduceCtorEq, ↓reduceIte, eq_self, ge_iff_le, gt_iff_lt, Nat.reduceAdd, Nat.reduceMul, Nat.reduceSub, Nat.reduceLT, Nat.reduceGT, Nat.reduceEqDiff, Nat.reduceLeDiff, Nat.left_eq_add, Nat.add_eq_left, Nat.reduceMod, Nat.reduceDiv, Nat.succ_ne_self, g, gg1, gg2, g3, c0, c1, c2, p1, p2, nn_le, le', lm, lm2, nn_add, e1', eM, eE, hMc', hEc', rg1, rg2, run3, run4]
    · rw [if_pos (by omega)] at et2
      subst et2
      have hEc' : (Ee ≤ M) = False := eq_false hEc
      simp (disch := omega) only [s_264_0, s_264_1, s_264_2, s_264_4, s_264_7, s_264_9, s_264_10, s_264_13, s_264_15, s_264_16, s_264_19, s_264_19n, s_264_21, s_264_22, s_264_25, s_264_25n, s_264_27, s_264_28, s_264_29, s_264_30, s_264_31, s_264_33, s_264_35, s_264_37, s_264_40, s_264_41, s_264_42, s_264_46, s_264_47, s_264_48, s_264_49, s_264_52, s_264_54, s_264_55, s_264_57, s_264_60, s_264_61, s_264_62, s_264_65, s_264_68, s_264_69, s_264_71, s_264_74, s_264_77, s_264_78, s_264_80, s_264_81, s_264_82, s_264_83, s_264_84, s_264_86, s_264_89, s_264_90, s_264_92, s_264_94, s_264_97, s_264_99, s_264_102, s_264_104, s_264_105, s_264_107, s_264_110, s_264_111, s_264_113, s_264_114, s_264_115, s_264_117, s_264_118, s_264_119, s_264_120, s_264_123, s_264_124, s_264_125, s_264_126, s_264_129, s_264_130, s_264_132, s_264_135, s_264_136, s_264_137, s_264_139, s_264_141, s_264_144, s_264_146, s_264_149, s_264_150, s_264_152, s_264_155, s_264_156, s_264_158, s_264_159, s_264_160, s_264_161, s_264_162, s_264_164, s_264_167, s_264_169, s_264_172, s_264_173, s_264_175, s_264_177, s_264_178, s_264_180, s_264_185, s_264_187, s_264_190, s_264_192, s_264_194, s_264_197, s_264_200, s_264_202, s_264_204, s_264_207, s_264_209, s_264_210, s_264_213, s_264_216, s_264_218, s_264_219, s_264_222, s_264_225, s_264_226, s_264_228, s_264_231, e_264, mv_i_1, mv_l_1, mv_a_1, mv_a_2, mv_a_3, mk2_n, mk2_i, mk2_l, mk2_a, mk2_u, mk2_x, mB_T, mB_F, mS_cons, mS_nil, mSB_T, mSB_F, mca_nil, mca_i, mca_l, mca_r, mca_u, mca_x, mcat_i, mcat_l, mcat_r, mcat_u, mcat_x, mK_some, mK_none, va_rf_s, va_rf_n, lgc_eq, lgc_lt, lgc_gt, lgc_ge, lgc_le, mrd_104, mrd_105, mrd_106, mrd_107, true_and, and_true, and_self, false_and, and_false, true_or, or_true, false_or, or_false, not_true_eq_false, not_false_eq_true, mgb, mga, mgr, mN, reduceCtorEq, ↓reduceIte, eq_self, ge_iff_le, gt_iff_lt, Nat.reduceAdd, Nat.reduceMul, Nat.reduceSub, Nat.reduceLT, Nat.reduceGT, Nat.reduceEqDiff, Nat.reduceLeDiff, Nat.left_eq_add, Nat.add_eq_left, Nat.reduceMod, Nat.reduceDiv, Nat.succ_ne_self, g, gg1, gg2, g3, c0, c1, c2, p1, p2, nn_le, le', lm, lm2, nn_add, e1', eM, eE, hMc', hEc', rg1, rg2, run3, run4]
/-- goes twice -/
theorem cho_2a (H : CHX G J e0 cl) (S : CSP h s0 o ho fa E D w0 G e0 cl br X F1 F2) (sh1 : shp E.nu E.ar E.rm F1) (sh2 : shp E.nu E.ar E.rm F2) {to1 to2 : Nat} (d1 : to1 ≤ e0 ∧ G.n to1 ≤ E.nu ∧ G.a to1 ≤ E.ar) (d2 : to2 ≤ e0 ∧ G.n to2 ≤ E.nu ∧ G.a to2 ≤ E.ar) (m12 : E.nu ≤ 12 ∧ E.ar ≤ 6) (hp : p < 250) (hs : s0 + 3 ≤ 2048) : ∃ hg1 hg2, rq s0 (sV o E.T) h hg2 ∧ CSP hg2 s0 o ho fa E D w0 G e0 cl (gsB G cl F2 to2 p (gsB G cl F1 to1 p br)) X F1 F2 ∧ (mh_i hg2 93 = mh_i h 93 ∧ mh_i hg2 95 = mh_i h 95 ∧ mh_i hg2 97 = mh_i h 97) ∧ mg hg1 115 12 ∧ (∀ Q, mcall (d + 3) 260 [.ref 115, .int (Int32.ofNat p), .int (Int32.ofNat to1), .ref ho] h Q = Q none hg1) ∧ ∀ Q, mcall (d + 3) 260 [.ref 115, .int (Int32.ofNat p), .int (Int32.ofNat to2), .ref fa] hg1 Q = Q none hg2 := by
  obtain ⟨hg1, y1, S1, ⟨a1, a2, a3⟩, rg1⟩ := csp_g (d := d) (p := p) H S ⟨s0, by omega, S.r1⟩ S.kh sh1 d1.1 d1.2 m12 hp hs
  obtain ⟨hg2, y2, S2, ⟨b1, b2', b3⟩, rg2⟩ := csp_g (d := d) (p := p) H S1 ⟨s0 + 1, by omega, S1.r2⟩ S1.kf sh2 d2.1 d2.2 m12 hp hs
  exact ⟨hg1, hg2, rq_t y1 y2, S2, ⟨b1.trans a1, b2'.trans a2, b3.trans a3⟩, S1.A.j.a.g, rg1, rg2⟩
/-- a BLOCK of one that was split; another stays -/
theorem csp_b (B : BQc G J D cl e0 fst oth f) (S : CSP h s0 o ho fa E D w0 G e0 cl br X F1 F2) (m12 : E.nu ≤ 12 ∧ E.ar ≤ 6) (hw : wW w0 ≤ 4000) {u v i j : Nat} {Y Z : Option ab} (eu : mh_r h 119 i = some u) (hi : s0 ≤ i ∧ i < s0 + 2) (ev : mh_r h 119 j = some v) (hj : s0 ≤ j ∧ j < s0 + 2) (ne : i ≠ j) (ku : RK h u Y) (su : shp E.nu E.ar E.rm Y) (kv : RK h v Z) (L1 : LW G J D f t p e E) {nx' : Nat} (U1 : SUC G fst oth f p e nx') (hnx : nx' ≤ e0) (he' : e ≤ e0) (hdm : G.n nx' ≤ E.nu ∧ G.a nx' ≤ E.ar) (N : nd (mh_i h 93) (mh_i h 95) (mh_i h 97) (b + 1) t) (hb : b + 1 + ts t ≤ 26000) (hz : mh_i h 97 b = Int32.ofNat (1 + ts t)) (hs : s0 + 2 + 3 * (e - p) + 360 ≤ 2048) (hd : 4 * (e - p) + 840 ≤ d) : ∃ h' b' Y', rq s0 (sV o E.T) h h' ∧ RA h' (s0 + 2) E D w0 ∧ CKS h' G e0 cl b' ∧ lv h' s0 o ∧ (∀ i a, mh_r h 119 i = some a → mh_r h' 119 i = some a) ∧ RK h' o X ∧ RK h' u Y' ∧ shp E.nu E.ar E.rm Y' ∧ RK h' v Z ∧ (mh_i h' 93 = mh_i h 93 ∧ mh_i h' 95 = mh_i h 95 ∧ mh_i h' 97 = mh_i h 97) ∧ BRK (VI G cl fst oth) p e br b' ∧ ∀ Q, mcall d 257 [.ref 115, .int (Int32.ofNat b), .int (Int32.ofNat p), .int (Int32.ofNat nx'), .ref u] h Q = Q none h' := by
  have J0 := S.A.j
  have lu : lv h (s0 + 2) u := ⟨i, hi.2, eu⟩
  have lv' : lv h (s0 + 2) v := ⟨j, hj.2, ev⟩
  have nou : o ≠ u := lv_ne J0 S.l hi.1 eu
  have nuv : v ≠ u := fun z => ne (J0.i i j u eu (by rw [← z]; exact ev))
  obtain ⟨h', b', x, SC', brk, run⟩ := B t p e E L1 d b (s0 + 2) u nx' h w0 br U1 hnx he' hdm (SC.of ⟨S.A, lu, ⟨Y, ku, su⟩, m12, S.C, hw⟩) N hb hz hs hd
  obtain ⟨Y', kY, sY⟩ := SC'.k
  have lou := sp_lo J0 (lv_sp lu)
  exact ⟨h', b', Y', sV_sp x (by omega) (Nat.le_refl _) (Or.inr ⟨i, hi.1, eu⟩), SC'.A, SC'.C, rq_lv x S.l, x.k, sV_K J0 x lu (lv_w S.l (by omega)) nou S.ko, kY, sY, sV_K J0 x lu lv' nuv kv, sV_tr J0 lou x, brk, run⟩
/-- its BLOCKs -/
theorem cho_2c (H : CHX G J e0 cl) (B : BQc G J D cl e0 fst oth f) {qt : tr} (hM1 : p < G.M p) (hM2 : G.M p ≤ G.E p) (hE : G.E p ≤ e0) (L1 : LW G J D f bs (p + 1) (G.M p) E) (L2 : ((∃ u, qt = .leaf u) ∧ G.M p = G.E p) ∨ ∃ b2 bs2 u, qt = .branch b2 bs2 (.leaf u) ∧ LW G J D f bs2 (G.M p) (G.E p) E) {nx' : Nat} (U1 : SUC G fst oth f (p + 1) (G.M p) nx') (U2 : SUC G fst oth f (G.M p) (G.E p) nx') (hnx : nx' ≤ e0) (hdm : G.n nx' ≤ E.nu ∧ G.a nx' ≤ E.ar) (m12 : E.nu ≤ 12 ∧ E.ar ≤ 6) (hw : wW w0 ≤ 4000) (S : CSP h s0 o ho fa E D w0 G e0 cl br X F1 F2) (sh1 : shp E.nu E.ar E.rm F1) (sh2 : shp E.nu E.ar E.rm F2) (hz : mh_i h 97 k = Int32.ofNat (1 + ts (.branch m c (.branch b bs qt)))) (N : nd (mh_i h 93) (mh_i h 95) (mh_i h 97) (k + 1) (.branch m c (.branch b bs qt))) (hb : k + 1 + ts (.branch m c (.branch b bs qt)) ≤ 26000) (hs : s0 + 3 * (G.E p - p) + 360 ≤ 2048) (hd : 4 * (G.E p - p) + 836 ≤ d) {x5 : Option Value} : ∃ h' b' X1 X2 y9 y10 y11 y12, rq s0 (sV o E.T) h h' ∧ CSP h' s0 o ho fa E D w0 G e0 cl b' X X1 X2 ∧ shp E.nu E.ar E.rm X1 ∧ shp E.nu E.ar E.rm X2 ∧ BRK (VI G cl fst oth) (p + 1) (G.E p) (gsB G cl F2 (if G.M p < G.E p then G.M p else nx') p (gsB G cl F1 (if p + 1 < G.M p then p + 1 else nx') p br)) b' ∧ ∀ Q, mw (d + 1) 264 Q 45 [some (.ref 115), some (.int (Int32.ofNat k)), some (.int (Int32.ofNat p)), some (.int (Int32.ofNat nx')), some (.ref o), x5, some (.int (Int32.ofNat s0)), some (.ref ho), some (.ref fa), none, none, none, none] [] h = mw (d + 1) 264 Q 183 [some (.ref 115), some (.int (Int32.ofNat k)), some (.int (Int32.ofNat p)), some (.int (Int32.ofNat nx')), some (.ref o), x5, some (.int (Int32.ofNat s0)), some (.ref ho), some (.ref fa), y9, y10, y11, y12] [] h' := by
  obtain ⟨d, rfl⟩ : ∃ d', d = d' + 3 := ⟨d - 3, by omega⟩
  have he := H.he
  generalize et1 : (if p + 1 < G.M p then p + 1 else nx') = to1
  generalize et2 : (if G.M p < G.E p then G.M p else nx') = to2
  have d1 : to1 ≤ e0 ∧ G.n to1 ≤ E.nu ∧ G.a to1 ≤ E.ar := by
    rw [← et1]
    by_cases z : p + 1 < G.M p
    · rw [if_pos z]
      have := LW_d L1 z
      exact ⟨by omega, by omega, by omega⟩
    · rw [if_neg z]; exact ⟨hnx, hdm⟩
  have d2 : to2 ≤ e0 ∧ G.n to2 ≤ E.nu ∧ G.a to2 ≤ E.ar := by
    rw [← et2]
    by_cases z : G.M p < G.E p
    · rw [if_pos z]
      rcases L2 with ⟨-, hh⟩ | ⟨b2, bs2, u, -, L2'⟩
      · omega
      · have := LW_d L2' z
        exact ⟨by omega, by omega, by omega⟩
    · rw [if_neg z]; exact ⟨hnx, hdm⟩
  have o1 : p < 250 := by omega
  have o2 : G.M p < 250 := by omega
  have o3 : G.E p < 250 := by omega
  have o4 : G.M p ≤ 249 := by omega
  have o5 : G.E p ≤ 249 := by omega
  have o6 : s0 + 3 ≤ 2048 := by omega
  have o7 : s0 + 2 + 3 * (G.M p - (p + 1)) + 360 ≤ 2048 := by omega
  have o8 : 4 * (G.M p - (p + 1)) + 840 ≤ d + 3 := by omega
  have o9 : s0 + 2 + 3 * (G.E p - G.M p) + 360 ≤ 2048 := by omega
  have oA : 4 * (G.E p - G.M p) + 840 ≤ d + 3 := by omega
  have oB : G.M p ≤ e0 := by omega
  have oC : 2 * (G.M p - (p + 1)) + 3 ≤ d + 3 := by omega
  have oD : 2 * (G.E p - G.M p) + 3 ≤ d + 3 := by omega
  have oE : p + 1 ≤ G.M p := by omega
  have oF : s0 ≤ s0 ∧ s0 < s0 + 2 := by omega
  have oG : s0 ≤ s0 + 1 ∧ s0 + 1 < s0 + 2 := by omega
  have oH : s0 ≠ s0 + 1 := by omega
  rw [ts_B, ts_B] at hz hb
  obtain ⟨-, -, s1', -, -, -, s2', n5, n6⟩ := N
  have w1 : k < 26000 := by omega
  have w2 : k + 1 < 26000 := by omega
  have w3 : k + 1 + 1 + ts c < 26000 := by omega
  have w4 : k + 1 + 1 + ts c + 1 + ts bs ≤ 26000 := by omega
  have e3 : k + 1 + (1 + ts c) = k + 1 + 1 + ts c := by omega
  have e4 : k + 1 + 1 + ts c + (1 + ts bs) = k + 1 + 1 + ts c + 1 + ts bs := by omega
  have q1 := LW_Q f bs (p + 1) (G.M p) E L1 o4
  have J0 := S.A.j
  have g := J0.a.g
  have c0 := u_228 (d := d + 3) J0.a (k := k) w1 hz
  have c1 := u_228 (d := d + 3) J0.a (k := k + 1) w2 s1'
  rw [e3] at c1
  have c2 := u_228 (d := d + 3) J0.a (k := k + 1 + 1 + ts c) w3 s2'
  have p1 := PQ_c (d := d + 3) (b := k + 1 + 1 + ts c) q1 J0 S.A.F S.A.X S.A.f n5 w4 s2' oC
  rw [e4] at c2
  obtain ⟨hg1, hg2, y12, S2, ⟨b1, b2', b3⟩, gg1, rg1, rg2⟩ := cho_2a (d := d) (p := p) H S sh1 sh2 d1 d2 m12 o1 o6
  have gg2 := S2.A.j.a.g
  have n5' : nd (mh_i hg2 93) (mh_i hg2 95) (mh_i hg2 97) (k + 1 + 1 + ts c + 1) bs := by rw [b1, b2', b3]; exact n5
  have s2'' : mh_i hg2 97 (k + 1 + 1 + ts c) = Int32.ofNat (1 + ts bs) := by rw [b3]; exact s2'
  obtain ⟨h3, b3', X1, x3, R3, C3, lo3, rk3, ko3, kX1, shX1, kf3, ⟨u1, u2, u3⟩, brk3, run3⟩ := csp_b (d := d + 3) B S2 m12 hw S2.r1 oF S2.r2 oG oH S2.kh sh1 S2.kf L1 U1 hnx oB hdm n5' w4 s2'' o7 o8
  have g3 := R3.j.a.g
  rcases L2 with ⟨⟨u, rfl⟩, hME⟩ | ⟨b2, bs2, u, rfl, L2⟩
  · have brk : BRK (VI G cl fst oth) (p + 1) (G.E p) (gsB G cl F2 to2 p (gsB G cl F1 to1 p br)) b3' := by rw [← hME]; exact brk3
    have hts : ts (.leaf u : tr) = 0 := rfl
    rw [hts] at c0 hz hb
    refine ⟨h3, b3', X1, F2, some (.int (Int32.ofNat (k + 1 + 1 + ts c))), some (.int (-1)), some (.int (Int32.ofNat (G.M p))), some (.int (Int32.ofNat (G.M p))), rq_t y12 x3, CSP.of ⟨R3, C3, lo3, rk3 _ _ S2.r1, rk3 _ _ S2.r2, ko3, kX1, kf3⟩, shX1, sh2, brk, fun Q => ?_⟩
    clear S S2 J0 B R3 C3 ko3 kf3 kX1 x3 q1 L1 n5 n5' n6 H U1 U2 y12 brk brk3 rk3 sh1 sh2 shX1
    rw [if_neg (by omega)] at et2
    exact cho_r1 o1 hM1 o2 ⟨by omega, by omega, by omega⟩ g gg1 gg2 g3 c0 c1 c2 (by omega) p1 et1 et2 rg1 rg2 run3 Q
  · obtain ⟨-, -, s3, n7, -⟩ := n6
    have tq : ts (.branch b2 bs2 (.leaf u) : tr) = 1 + ts bs2 := by rw [ts_B]; rfl
    rw [tq] at hz hb c0
    have q2 := LW_Q f bs2 (G.M p) (G.E p) E L2 o5
    have w5 : k + 1 + 1 + ts c + 1 + ts bs + 1 + ts bs2 ≤ 26000 := by clear S S2 J0 B R3 C3 ko3 kf3 kX1 x3 q1 q2 L1 n5 n5' H U1 U2 y12 brk3 rk3 sh1 sh2 shX1 n7; omega
    have p2 := PQ_c (d := d + 3) (b := k + 1 + 1 + ts c + 1 + ts bs) q2 J0 S.A.F S.A.X S.A.f n7 w5 s3 oD
    have n7' : nd (mh_i h3 93) (mh_i h3 95) (mh_i h3 97) (k + 1 + 1 + ts c + 1 + ts bs + 1) bs2 := by rw [u1, u2, u3, b1, b2', b3]; exact n7
    have s3' : mh_i h3 97 (k + 1 + 1 + ts c + 1 + ts bs) = Int32.ofNat (1 + ts bs2) := by rw [u3, b3]; exact s3
    have S3 : CSP h3 s0 o ho fa E D w0 G e0 cl b3' X X1 F2 := CSP.of ⟨R3, C3, lo3, rk3 _ _ S2.r1, rk3 _ _ S2.r2, ko3, kX1, kf3⟩
    obtain ⟨h4, b4, X2, x4, R4, C4, lo4, rk4, ko4, kX2, shX2, kh4, -, brk4, run4⟩ := csp_b (d := d + 3) B S3 m12 hw S3.r2 oG S3.r1 oF (Ne.symm oH) S3.kf sh2 S3.kh L2 U2 hnx hE hdm n7' w5 s3' o9 oA
    refine ⟨h4, b4, X1, X2, some (.int (Int32.ofNat (k + 1 + 1 + ts c))), some (.int (Int32.ofNat (k + 1 + 1 + ts c + 1 + ts bs))), some (.int (Int32.ofNat (G.M p))), some (.int (Int32.ofNat (G.E p))), rq_t y12 (rq_t x3 x4), CSP.of ⟨R4, C4, lo4, rk4 _ _ S3.r1, rk4 _ _ S3.r2, ko4, kh4, kX2⟩, shX1, shX2, brk_t brk3 brk4 oE hM2, fun Q => ?_⟩
    clear S S2 S3 J0 B R3 R4 C3 C4 ko3 kf3 kX1 kX2 ko4 kh4 x3 x4 q1 q2 L1 L2 n5 n5' n7 n7' H U1 U2 y12 brk3 brk4 rk3 rk4 sh1 sh2 shX1 shX2
    exact cho_r2 o1 hM1 hM2 o3 ⟨by omega, by omega, by omega⟩ g gg1 gg2 g3 c0 c1 c2 (by omega) p1 p2 et1 et2 rg1 rg2 run3 run4 Q
end CFs
