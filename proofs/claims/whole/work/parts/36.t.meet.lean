set_option maxRecDepth 100000
/-! Analysis.meet and differ -/
section MTw
variable {d : Nat} {h X Y : mh_H} {T N H to : Nat} {sN : Int → Prop} {en : Int → Nat} {A M : ab} {PQ PS PU PF PL PH lP : Nat} {l : List (Nat × Bool × tr)} {mi : Bool} {c : Int64} {C : Option ab}
theorem RK_n1 {o : Nat} (k : RK h o C) : RK (mh_si h o 0 1) o none := by
  cases C with
  | some B => exact KN_si k
  | none =>
    have k : KN h o := k
    obtain ⟨n, n1, n2⟩ := k.n
    obtain ⟨a, a1, a2⟩ := k.a
    exact ⟨k.s, by rw [hi_si, if_pos ⟨rfl, rfl⟩], ⟨n, n1, by rw [hi_si, if_neg (by omega)]; exact n2⟩, ⟨a, a1, by rw [hi_si, if_neg (by omega)]; exact a2⟩⟩
/-- with nothing there is nothing to do -/
theorem meet_0 (g : mg X 115 12) (gt : mg X to 13) (z : mh_i X to 0 = 1) {m : Nat} (hm : m < 1000000) (cc : mh_i X 115 33 = Int32.ofNat m) {x1 : Int32} {y6 y7 y8 y9 y10 : Option Value} : ∀ Q, mw d 248 Q 36 [some (.ref 115), some (.int x1), some (.long c), none, some (.ref to), some (.int (Int32.ofNat 0)), y6, y7, y8, y9, y10] [] X = Q none X := by
  intro Q
  rw [s_248_36]
  by_cases e : m = 0
  · have hle : (m ≤ 0) = True := eq_true (by omega)
    simp (disch := omega) only [s_248_0, s_248_1, s_248_2, s_248_3, s_248_6, s_248_7, s_248_10, s_248_11, s_248_14, s_248_15, s_248_18, s_248_19, s_248_22, s_248_23, s_248_24, s_248_27, s_248_29, s_248_30, s_248_33, s_248_34, s_248_38, s_248_39, s_248_42, s_248_45, s_248_47, s_248_50, s_248_53, s_248_55, s_248_57, s_248_58, s_248_61, s_248_63, s_248_64, s_248_67, s_248_69, s_248_70, s_248_73, s_248_76, s_248_77, s_248_80, s_248_82, s_248_83, s_248_86, s_248_87, s_248_89, s_248_91, s_248_94, s_248_95, s_248_96, s_248_99, s_248_100, s_248_103, s_248_104, s_248_107, s_248_108, s_248_111, s_248_112, s_248_114, s_248_115, s_248_118, s_248_119, s_248_121, s_248_124, s_248_125, s_248_126, s_248_129, s_248_130, s_248_132, s_248_135, s_248_137, s_248_138, s_248_141, s_248_142, s_248_144, s_248_147, s_248_148, s_248_149, s_248_152, s_248_153, s_248_155, s_248_158, s_248_160, s_248_162, s_248_164, s_248_166, s_248_168, s_248_171, s_248_174, s_248_177, s_248_180, s_248_183, e_248, mv_i_1, mv_l_1, mv_a_1, mv_a_2, mv_a_3, mk2_n, mk2_i, mk2_l, mk2_a, mk2_u, mk2_x, mB_T, mB_F, mS_cons, mS_nil, mSB_T, mSB_F, mca_nil, mca_i, mca_l, mca_r, mca_u, mca_x, mcat_i, mcat_l, mcat_r, mcat_u, mcat_x, mK_some, mK_none, va_rf_s, va_rf_n, lgc_eq, lgc_lt, lgc_gt, lgc_ge, lgc_le, mrd_104, mrd_105, mrd_106, mrd_107, true_and, and_true, and_self, false_and, and_false, true_or, or_true, false_or, or_false, not_true_eq_false, not_false_eq_true, mgb, mga, mgr, mN, reduceCtorEq, ↓reduceIte, eq_self, ge_iff_le, gt_iff_lt, Nat.reduceAdd, Nat.reduceMul, Nat.reduceSub, Nat.reduceLT, Nat.reduceGT, Nat.reduceEqDiff, Nat.reduceLeDiff, Nat.left_eq_add, Nat.add_eq_left, Nat.reduceMod, Nat.reduceDiv, Nat.succ_ne_self, g, cc, nn_le, hle]
  · have hle : (m ≤ 0) = False := eq_false (by omega)
    simp (disch := omega) only [s_248_0, s_248_1, s_248_2, s_248_3, s_248_6, s_248_7, s_248_10, s_248_11, s_248_14, s_248_15, s_248_18, s_248_19, s_248_22, s_248_23, s_248_24, s_248_27, s_248_29, s_248_30, s_248_33, s_248_34, s_248_38, s_248_39, s_248_42, s_248_45, s_248_47, s_248_50, s_248_53, s_248_55, s_248_57, s_248_58, s_248_61, s_248_63, s_248_64, s_248_67, s_248_69, s_248_70, s_248_73, s_248_76, s_248_77, s_248_80, s_248_82, s_248_83, s_248_86, s_248_87, s_248_89, s_248_91, s_248_94, s_248_95, s_248_96, s_248_99, s_248_100, s_248_103, s_248_104, s_248_107, s_248_108, s_248_111, s_248_112, s_248_114, s_248_115, s_248_118, s_248_119, s_248_121, s_248_124, s_248_125, s_248_126, s_248_129, s_248_130, s_248_132, s_248_135, s_248_137, s_248_138, s_248_141, s_248_142, s_248_144, s_248_147, s_248_148, s_248_149, s_248_152, s_248_153, s_248_155, s_248_158, s_248_160, s_248_162, s_248_164, s_248_166, s_248_168, s_248_171, s_248_174, s_248_177, s_248_180, s_248_183, e_248, mv_i_1, mv_l_1, mv_a_1, mv_a_2, mv_a_3, mk2_n, mk2_i, mk2_l, mk2_a, mk2_u, mk2_x, mB_T, mB_F, mS_cons, mS_nil, mSB_T, mSB_F, mca_nil, mca_i, mca_l, mca_r, mca_u, mca_x, mcat_i, mcat_l, mcat_r, mcat_u, mcat_x, mK_some, mK_none, va_rf_s, va_rf_n, lgc_eq, lgc_lt, lgc_gt, lgc_ge, lgc_le, mrd_104, mrd_105, mrd_106, mrd_107, true_and, and_true, and_self, false_and, and_false, true_or, or_true, false_or, or_false, not_true_eq_false, not_false_eq_true, mgb, mga, mgr, mN, reduceCtorEq, ↓reduceIte, eq_self, ge_iff_le, gt_iff_lt, Nat.reduceAdd, Nat.reduceMul, Nat.reduceSub, Nat.reduceLT, Nat.reduceGT, Nat.reduceEqDiff, Nat.reduceLeDiff, Nat.left_eq_add, Nat.add_eq_left, Nat.reduceMod, Nat.reduceDiv, Nat.succ_ne_self, g, gt, z, cc, nn_le, hle, show ((1 : Int32) = 0) = False by decide]
theorem u_248 (J : RJ X T sN en) (R : WR X T sN en N A l H PQ PS PU PF PL PH lP) (s : sp X to) (sN' : sp X N) (ne : N ≠ to) (hc : c = 0 ∨ c = -1) (kt : RK X to C) (hC : ∀ M, C = some M → oc_C M.n M.m ∧ A.n ≤ M.n ∧ M.n ≤ 12) : ∃ Y, fR (tW to) X Y ∧ RK Y to (a_meet A (l.map (pgE en A)) mi c.toInt C) ∧ ∀ Q, mcall (d + 4) 248 [.ref 115, .int (kb mi), .long c, .ref to] X Q = Q none Y := by
  have LL : (l.map (pgE en A)).length = l.length := List.length_map _
  have g := J.a.g
  have gt : mg X to 13 := (RK_ko kt).1
  have lm := R.m
  obtain ⟨lo, hi, o, bd, eo⟩ := all0 (d := d + 1) R
  have kA : RK (aS X 115 (mh_i X 115 24) lo hi) to C := RK_aS g kt
  have fA : fR (tW to) X (aS X 115 (mh_i X 115 24) lo hi) := tW_aS
  have ccA : mh_i (aS X 115 (mh_i X 115 24) lo hi) 115 33 = Int32.ofNat l.length := by rw [aS_i, if_neg (by omega)]; exact R.c
  have k1' : kb true = 1 := rfl
  have k0' : kb false = 0 := rfl
  have e10 : ((1 : Int32) = 0) = False := by decide
  have e00 : ((0 : Int32) = 0) = True := by decide
  have cb := c_i64 hc
  have lw : ((if mi = true then -hi else lo) ≤ c) = ¬ (c.toInt < mLow A (l.map (pgE en A)) mi sk0) := by
    unfold mLow
    rw [o, le64]
    cases mi with
    | true => rw [if_pos rfl, if_pos rfl, i64_n (by omega)]; exact propext ⟨fun z => by omega, fun z => by omega⟩
    | false => rw [if_neg (by decide), if_neg (by decide)]; exact propext ⟨fun z => by omega, fun z => by omega⟩
  by_cases ex : c.toInt < mLow A (l.map (pgE en A)) mi sk0
  · -- it can't be
    rw [eq_true ex] at lw
    have lw : ((if mi = true then -hi else lo) ≤ c) = False := by rw [lw]; simp
    have kn := RK_n1 kA
    have res : a_meet A (l.map (pgE en A)) mi c.toInt C = none := by
      cases C with
      | none => rfl
      | some M => exact if_pos ex
    rw [res]
    refine ⟨_, tW_t fA (fR_si (Or.inr ⟨Nat.le_refl _, by omega⟩)), kn, fun Q => ?_⟩
    have to2 : 2644 ≤ to := by
      obtain ⟨j, hj⟩ := s
      exact (J.s j to hj).1
    have E := meet_0 (d := d + 4) (c := c) (x1 := kb mi) (y6 := none) (y7 := none) (y8 := none) (y9 := none) (y10 := none) (X := mh_si (aS X 115 (mh_i X 115 24) lo hi) to 0 1) g gt (by rw [hi_si, if_pos ⟨rfl, rfl⟩]) (m := l.length) (by omega) (by rw [hi_si, if_neg (by omega)]; exact ccA) Q
    rw [← E]
    clear J R kn kA kt
    cases mi with
    | true =>
      rw [if_pos rfl] at lw
      rw [k1']
      simp (disch := omega) only [s_248_0, s_248_1, s_248_2, s_248_3, s_248_6, s_248_7, s_248_10, s_248_11, s_248_14, s_248_15, s_248_18, s_248_19, s_248_22, s_248_23, s_248_24, s_248_27, s_248_29, s_248_30, s_248_33, s_248_34, s_248_38, s_248_39, s_248_42, s_248_45, s_248_47, s_248_50, s_248_53, s_248_55, s_248_57, s_248_58, s_248_61, s_248_63, s_248_64, s_248_67, s_248_69, s_248_70, s_248_73, s_248_76, s_248_77, s_248_80, s_248_82, s_248_83, s_248_86, s_248_87, s_248_89, s_248_91, s_248_94, s_248_95, s_248_96, s_248_99, s_248_100, s_248_103, s_248_104, s_248_107, s_248_108, s_248_111, s_248_112, s_248_114, s_248_115, s_248_118, s_248_119, s_248_121, s_248_124, s_248_125, s_248_126, s_248_129, s_248_130, s_248_132, s_248_135, s_248_137, s_248_138, s_248_141, s_248_142, s_248_144, s_248_147, s_248_148, s_248_149, s_248_152, s_248_153, s_248_155, s_248_158, s_248_160, s_248_162, s_248_164, s_248_166, s_248_168, s_248_171, s_248_174, s_248_177, s_248_180, s_248_183, e_248, mv_i_1, mv_l_1, mv_a_1, mv_a_2, mv_a_3, mk2_n, mk2_i, mk2_l, mk2_a, mk2_u, mk2_x, mB_T, mB_F, mS_cons, mS_nil, mSB_T, mSB_F, mca_nil, mca_i, mca_l, mca_r, mca_u, mca_x, mcat_i, mcat_l, mcat_r, mcat_u, mcat_x, mK_some, mK_none, va_rf_s, va_rf_n, lgc_eq, lgc_lt, lgc_gt, lgc_ge, lgc_le, mrd_104, mrd_105, mrd_106, mrd_107, true_and, and_true, and_self, false_and, and_false, true_or, or_true, false_or, or_false, not_true_eq_false, not_false_eq_true, mgb, mga, mgr, mN, reduceCtorEq, ↓reduceIte, eq_self, ge_iff_le, gt_iff_lt, hk_si, hk_sj, hk_sr, hl_si, hl_sj, hl_sr, hn_si, hn_sj, hn_sr, hs_si, hs_sj, hs_sr, hi_sj, hi_sr, hj_si, hj_sr, hr_si, hr_sj, hi_si, hj_sj, hr_sr, mg_si, mg_sj, mg_sr, Nat.reduceAdd, Nat.reduceMul, Nat.reduceSub, Nat.reduceLT, Nat.reduceGT, Nat.reduceEqDiff, Nat.reduceLeDiff, Nat.left_eq_add, Nat.add_eq_left, Nat.reduceMod, Nat.reduceDiv, Nat.succ_ne_self, g, gt, aS_g, aS_i, aS_j, eo, lw, e10, show ((1 : Int32) = 0 ∨ (1 : Int32) = 1) = True by decide]
      rfl
    | false =>
      rw [if_neg (by decide)] at lw
      rw [k0']
      simp (disch := omega) only [s_248_0, s_248_1, s_248_2, s_248_3, s_248_6, s_248_7, s_248_10, s_248_11, s_248_14, s_248_15, s_248_18, s_248_19, s_248_22, s_248_23, s_248_24, s_248_27, s_248_29, s_248_30, s_248_33, s_248_34, s_248_38, s_248_39, s_248_42, s_248_45, s_248_47, s_248_50, s_248_53, s_248_55, s_248_57, s_248_58, s_248_61, s_248_63, s_248_64, s_248_67, s_248_69, s_248_70, s_248_73, s_248_76, s_248_77, s_248_80, s_248_82, s_248_83, s_248_86, s_248_87, s_248_89, s_248_91, s_248_94, s_248_95, s_248_96, s_248_99, s_248_100, s_248_103, s_248_104, s_248_107, s_248_108, s_248_111, s_248_112, s_248_114, s_248_115, s_248_118, s_248_119, s_248_121, s_248_124, s_248_125, s_248_126, s_248_129, s_248_130, s_248_132, s_248_135, s_248_137, s_248_138, s_248_141, s_248_142, s_248_144, s_248_147, s_248_148, s_248_149, s_248_152, s_248_153, s_248_155, s_248_158, s_248_160, s_248_162, s_248_164, s_248_166, s_248_168, s_248_171, s_248_174, s_248_177, s_248_180, s_248_183, e_248, mv_i_1, mv_l_1, mv_a_1, mv_a_2, mv_a_3, mk2_n, mk2_i, mk2_l, mk2_a, mk2_u, mk2_x, mB_T, mB_F, mS_cons, mS_nil, mSB_T, mSB_F, mca_nil, mca_i, mca_l, mca_r, mca_u, mca_x, mcat_i, mcat_l, mcat_r, mcat_u, mcat_x, mK_some, mK_none, va_rf_s, va_rf_n, lgc_eq, lgc_lt, lgc_gt, lgc_ge, lgc_le, mrd_104, mrd_105, mrd_106, mrd_107, true_and, and_true, and_self, false_and, and_false, true_or, or_true, false_or, or_false, not_true_eq_false, not_false_eq_true, mgb, mga, mgr, mN, reduceCtorEq, ↓reduceIte, eq_self, ge_iff_le, gt_iff_lt, hk_si, hk_sj, hk_sr, hl_si, hl_sj, hl_sr, hn_si, hn_sj, hn_sr, hs_si, hs_sj, hs_sr, hi_sj, hi_sr, hj_si, hj_sr, hr_si, hr_sj, hi_si, hj_sj, hr_sr, mg_si, mg_sj, mg_sr, Nat.reduceAdd, Nat.reduceMul, Nat.reduceSub, Nat.reduceLT, Nat.reduceGT, Nat.reduceEqDiff, Nat.reduceLeDiff, Nat.left_eq_add, Nat.add_eq_left, Nat.reduceMod, Nat.reduceDiv, Nat.succ_ne_self, g, gt, aS_g, aS_i, aS_j, eo, lw, e00, show ((1 : Int32) = 0 ∨ (1 : Int32) = 1) = True by decide]
      rfl
  · rw [eq_false ex] at lw
    have lw : ((if mi = true then -hi else lo) ≤ c) = True := by rw [lw]; simp
    have E0 : ∀ Q, mcall (d + 4) 248 [.ref 115, .int (kb mi), .long c, .ref to] X Q = mw (d + 4) 248 Q 36 [some (.ref 115), some (.int (kb mi)), some (.long c), none, some (.ref to), some (.int (Int32.ofNat 0)), none, none, none, none, none] [] (aS X 115 (mh_i X 115 24) lo hi) := fun Q => by
      clear J R kA kt
      cases mi with
      | true =>
        rw [if_pos rfl] at lw
        rw [k1']
        simp (disch := omega) only [s_248_0, s_248_1, s_248_2, s_248_3, s_248_6, s_248_7, s_248_10, s_248_11, s_248_14, s_248_15, s_248_18, s_248_19, s_248_22, s_248_23, s_248_24, s_248_27, s_248_29, s_248_30, s_248_33, s_248_34, s_248_38, s_248_39, s_248_42, s_248_45, s_248_47, s_248_50, s_248_53, s_248_55, s_248_57, s_248_58, s_248_61, s_248_63, s_248_64, s_248_67, s_248_69, s_248_70, s_248_73, s_248_76, s_248_77, s_248_80, s_248_82, s_248_83, s_248_86, s_248_87, s_248_89, s_248_91, s_248_94, s_248_95, s_248_96, s_248_99, s_248_100, s_248_103, s_248_104, s_248_107, s_248_108, s_248_111, s_248_112, s_248_114, s_248_115, s_248_118, s_248_119, s_248_121, s_248_124, s_248_125, s_248_126, s_248_129, s_248_130, s_248_132, s_248_135, s_248_137, s_248_138, s_248_141, s_248_142, s_248_144, s_248_147, s_248_148, s_248_149, s_248_152, s_248_153, s_248_155, s_248_158, s_248_160, s_248_162, s_248_164, s_248_166, s_248_168, s_248_171, s_248_174, s_248_177, s_248_180, s_248_183, e_248, mv_i_1, mv_l_1, mv_a_1, mv_a_2, mv_a_3, mk2_n, mk2_i, mk2_l, mk2_a, mk2_u, mk2_x, mB_T, mB_F, mS_cons, mS_nil, mSB_T, mSB_F, mca_nil, mca_i, mca_l, mca_r, mca_u, mca_x, mcat_i, mcat_l, mcat_r, mcat_u, mcat_x, mK_some, mK_none, va_rf_s, va_rf_n, lgc_eq, lgc_lt, lgc_gt, lgc_ge, lgc_le, mrd_104, mrd_105, mrd_106, mrd_107, true_and, and_true, and_self, false_and, and_false, true_or, or_true, false_or, or_false, not_true_eq_false, not_false_eq_true, mgb, mga, mgr, mN, reduceCtorEq, ↓reduceIte, eq_self, ge_iff_le, gt_iff_lt, hk_si, hk_sj, hk_sr, hl_si, hl_sj, hl_sr, hn_si, hn_sj, hn_sr, hs_si, hs_sj, hs_sr, hi_sj, hi_sr, hj_si, hj_sr, hr_si, hr_sj, hi_si, hj_sj, hr_sr, mg_si, mg_sj, mg_sr, Nat.reduceAdd, Nat.reduceMul, Nat.reduceSub, Nat.reduceLT, Nat.reduceGT, Nat.reduceEqDiff, Nat.reduceLeDiff, Nat.left_eq_add, Nat.add_eq_left, Nat.reduceMod, Nat.reduceDiv, Nat.succ_ne_self, g, gt, aS_g, aS_i, aS_j, eo, lw, e10]
        rfl
      | false =>
        rw [if_neg (by decide)] at lw
        rw [k0']
        simp (disch := omega) only [s_248_0, s_248_1, s_248_2, s_248_3, s_248_6, s_248_7, s_248_10, s_248_11, s_248_14, s_248_15, s_248_18, s_248_19, s_248_22, s_248_23, s_248_24, s_248_27, s_248_29, s_248_30, s_248_33, s_248_34, s_248_38, s_248_39, s_248_42, s_248_45, s_248_47, s_248_50, s_248_53, s_248_55, s_248_57, s_248_58, s_248_61, s_248_63, s_248_64, s_248_67, s_248_69, s_248_70, s_248_73, s_248_76, s_248_77, s_248_80, s_248_82, s_248_83, s_248_86, s_248_87, s_248_89, s_248_91, s_248_94, s_248_95, s_248_96, s_248_99, s_248_100, s_248_103, s_248_104, s_248_107, s_248_108, s_248_111, s_248_112, s_248_114, s_248_115, s_248_118, s_248_119, s_248_121, s_248_124, s_248_125, s_248_126, s_248_129, s_248_130, s_248_132, s_248_135, s_248_137, s_248_138, s_248_141, s_248_142, s_248_144, s_248_147, s_248_148, s_248_149, s_248_152, s_248_153, s_248_155, s_248_158, s_248_160, s_248_162, s_248_164, s_248_166, s_248_168, s_248_171, s_248_174, s_248_177, s_248_180, s_248_183, e_248, mv_i_1, mv_l_1, mv_a_1, mv_a_2, mv_a_3, mk2_n, mk2_i, mk2_l, mk2_a, mk2_u, mk2_x, mB_T, mB_F, mS_cons, mS_nil, mSB_T, mSB_F, mca_nil, mca_i, mca_l, mca_r, mca_u, mca_x, mcat_i, mcat_l, mcat_r, mcat_u, mcat_x, mK_some, mK_none, va_rf_s, va_rf_n, lgc_eq, lgc_lt, lgc_gt, lgc_ge, lgc_le, mrd_104, mrd_105, mrd_106, mrd_107, true_and, and_true, and_self, false_and, and_false, true_or, or_true, false_or, or_false, not_true_eq_false, not_false_eq_true, mgb, mga, mgr, mN, reduceCtorEq, ↓reduceIte, eq_self, ge_iff_le, gt_iff_lt, hk_si, hk_sj, hk_sr, hl_si, hl_sj, hl_sr, hn_si, hn_sj, hn_sr, hs_si, hs_sj, hs_sr, hi_sj, hi_sr, hj_si, hj_sr, hr_si, hr_sj, hi_si, hj_sj, hr_sr, mg_si, mg_sj, mg_sr, Nat.reduceAdd, Nat.reduceMul, Nat.reduceSub, Nat.reduceLT, Nat.reduceGT, Nat.reduceEqDiff, Nat.reduceLeDiff, Nat.left_eq_add, Nat.add_eq_left, Nat.reduceMod, Nat.reduceDiv, Nat.succ_ne_self, g, gt, aS_g, aS_i, aS_j, eo, lw, e00]
        rfl
    cases C with
    | none =>
      refine ⟨_, fA, kA, fun Q => ?_⟩
      have kz : KN (aS X 115 (mh_i X 115 24) lo hi) to := kA
      rw [E0 Q, meet_0 (d := d + 4) (X := aS X 115 (mh_i X 115 24) lo hi) g gt kz.z (m := l.length) (by omega) ccA Q]
    | some M =>
      obtain ⟨hM, hn, h12⟩ := hC M rfl
      have res : a_meet A (l.map (pgE en A)) mi c.toInt (some M) = some (a_lims (mtL A (l.map (pgE en A)) mi c.toInt l.length l.length) M) := by
        show (if c.toInt < mLow A (l.map (pgE en A)) mi sk0 then none else some (a_lims (mtL A (l.map (pgE en A)) mi c.toInt (l.map (pgE en A)).length (l.map (pgE en A)).length) M)) = _
        rw [if_neg ex, LL]
      rw [res]
      obtain ⟨JA, PA⟩ := RJ_tW J s fA (RK_ko kA) R.P
      have yA := tW_rs J s fA
      have sA := (rs_s J (vK_1 s) yA (o := to)).mpr s
      have sNA := (rs_s J (vK_1 s) yA (o := N)).mpr sN'
      have RA := WR_tW J s sN' ne fA (RK_ko kA) R
      have L := mw_inv (d := d + 4) (y := 248) (pc := 36) (st := []) (fun i ls Y => ∃ x6 x7 x8 x9 x10 : Option Value, ls = [some (.ref 115), some (.int (kb mi)), some (.long c), none, some (.ref to), some (.int (Int32.ofNat i)), x6, x7, x8, x9, x10] ∧ fR (tW to) (aS X 115 (mh_i X 115 24) lo hi) Y ∧ RK Y to (some (a_lims (mtL A (l.map (pgE en A)) mi c.toInt l.length i) M))) (b := l.length) (fun i ls Y hi' I => by
        obtain ⟨x6, x7, x8, x9, x10, rfl, f, kY⟩ := I
        obtain ⟨JY, -⟩ := RJ_tW JA sA f (RK_ko kY) RA.P
        have RY := WR_tW JA sA sNA ne f (RK_ko kY) RA
        have yY := tW_rs JA sA f
        have sY := (rs_s JA (vK_1 sA) yY (o := to)).mpr sA
        have sNY := (rs_s JA (vK_1 sA) yY (o := N)).mpr sNA
        have kz : KM Y to (a_lims (mtL A (l.map (pgE en A)) mi c.toInt l.length i) M) := kY
        have z0 := kz.z
        have gY := RY.a.g
        have gtY : mg Y to 13 := (RK_ko kY).1
        have cc := RY.c
        have b := RY.b
        have lb := RY.P.b
        have hle : (l.length ≤ i) = False := eq_false (by omega)
        have ei : ∀ k, Int32.ofNat k + 1 = Int32.ofNat (k + 1) := fun k => nn_add (a := k) (b := 1)
        have st : mtL A (l.map (pgE en A)) mi c.toInt l.length (i + 1) = mtL A (l.map (pgE en A)) mi c.toInt l.length i ++ mtI A (l.map (pgE en A)) mi c.toInt i (l.length - i) := rfl
        have r30 := RY.P.r30
        have g301 := RY.P.g30.1
        have g302 := RY.P.g30.2
        have l30 := RY.P.l30
        have fv := (RY.v i hi').1
        cases hf : pqF (l.map (pgE en A)) i with
        | true =>
          obtain ⟨Z, z6, z7, z8, z9, z10, fZ, kZ, eZ⟩ := meet_in (d := d) (mi := mi) (c := c) (y6 := none) (y7 := x7) (y8 := x8) (y9 := x9) (y10 := x10) JY RY sY sNY ne hc hM hn h12 hi' hf kY
          refine ⟨_, Z, ⟨z6, z7, z8, z9, z10, rfl, tW_t f fZ, kZ⟩, fun Q => ?_⟩
          have E1 : mw (d + 4) 248 Q 177 [some (.ref 115), some (.int (kb mi)), some (.long c), none, some (.ref to), some (.int (Int32.ofNat i)), z6, z7, z8, z9, z10] [] Z = mw (d + 4) 248 Q 36 [some (.ref 115), some (.int (kb mi)), some (.long c), none, some (.ref to), some (.int (Int32.ofNat (i + 1))), z6, z7, z8, z9, z10] [] Z := by
            simp only [s_248_0, s_248_1, s_248_2, s_248_3, s_248_6, s_248_7, s_248_10, s_248_11, s_248_14, s_248_15, s_248_18, s_248_19, s_248_22, s_248_23, s_248_24, s_248_27, s_248_29, s_248_30, s_248_33, s_248_34, s_248_38, s_248_39, s_248_42, s_248_45, s_248_47, s_248_50, s_248_53, s_248_55, s_248_57, s_248_58, s_248_61, s_248_63, s_248_64, s_248_67, s_248_69, s_248_70, s_248_73, s_248_76, s_248_77, s_248_80, s_248_82, s_248_83, s_248_86, s_248_87, s_248_89, s_248_91, s_248_94, s_248_95, s_248_96, s_248_99, s_248_100, s_248_103, s_248_104, s_248_107, s_248_108, s_248_111, s_248_112, s_248_114, s_248_115, s_248_118, s_248_119, s_248_121, s_248_124, s_248_125, s_248_126, s_248_129, s_248_130, s_248_132, s_248_135, s_248_137, s_248_138, s_248_141, s_248_142, s_248_144, s_248_147, s_248_148, s_248_149, s_248_152, s_248_153, s_248_155, s_248_158, s_248_160, s_248_162, s_248_164, s_248_166, s_248_168, s_248_171, s_248_174, s_248_177, s_248_180, s_248_183, e_248, mv_i_1, mv_l_1, mv_a_1, mv_a_2, mv_a_3, mk2_n, mk2_i, mk2_l, mk2_a, mk2_u, mk2_x, mB_T, mB_F, mS_cons, mS_nil, mSB_T, mSB_F, mca_nil, mca_i, mca_l, mca_r, mca_u, mca_x, mcat_i, mcat_l, mcat_r, mcat_u, mcat_x, mK_some, mK_none, va_rf_s, va_rf_n, lgc_eq, lgc_lt, lgc_gt, lgc_ge, lgc_le, mrd_104, mrd_105, mrd_106, mrd_107, true_and, and_true, and_self, false_and, and_false, true_or, or_true, false_or, or_false, not_true_eq_false, not_false_eq_true, mgb, mga, mgr, mN, reduceCtorEq, ↓reduceIte, eq_self, ge_iff_le, gt_iff_lt, ei]
          rw [← E1, ← eZ Q, s_248_36]
          clear J R JA RA JY RY kY kZ kz PA
          simp (disch := omega) only [s_248_0, s_248_1, s_248_2, s_248_3, s_248_6, s_248_7, s_248_10, s_248_11, s_248_14, s_248_15, s_248_18, s_248_19, s_248_22, s_248_23, s_248_24, s_248_27, s_248_29, s_248_30, s_248_33, s_248_34, s_248_38, s_248_39, s_248_42, s_248_45, s_248_47, s_248_50, s_248_53, s_248_55, s_248_58, s_248_61, s_248_63, s_248_64, s_248_67, s_248_69, s_248_70, s_248_73, s_248_76, s_248_77, s_248_80, s_248_82, s_248_83, s_248_86, s_248_87, s_248_89, s_248_91, s_248_94, s_248_95, s_248_96, s_248_99, s_248_100, s_248_103, s_248_104, s_248_107, s_248_108, s_248_111, s_248_112, s_248_114, s_248_115, s_248_118, s_248_119, s_248_121, s_248_124, s_248_125, s_248_126, s_248_129, s_248_130, s_248_132, s_248_135, s_248_137, s_248_138, s_248_141, s_248_142, s_248_144, s_248_147, s_248_148, s_248_149, s_248_152, s_248_153, s_248_155, s_248_158, s_248_160, s_248_162, s_248_164, s_248_166, s_248_168, s_248_171, s_248_174, s_248_177, s_248_180, s_248_183, e_248, mv_i_1, mv_l_1, mv_a_1, mv_a_2, mv_a_3, mk2_n, mk2_i, mk2_l, mk2_a, mk2_u, mk2_x, mB_T, mB_F, mS_cons, mS_nil, mSB_T, mSB_F, mca_nil, mca_i, mca_l, mca_r, mca_u, mca_x, mcat_i, mcat_l, mcat_r, mcat_u, mcat_x, mK_some, mK_none, va_rf_s, va_rf_n, lgc_eq, lgc_lt, lgc_gt, lgc_ge, lgc_le, mrd_104, mrd_105, mrd_106, mrd_107, true_and, and_true, and_self, false_and, and_false, true_or, or_true, false_or, or_false, not_true_eq_false, not_false_eq_true, mgb, mga, mgr, mN, reduceCtorEq, ↓reduceIte, eq_self, ge_iff_le, gt_iff_lt, Nat.reduceAdd, Nat.reduceMul, Nat.reduceSub, Nat.reduceLT, Nat.reduceGT, Nat.reduceEqDiff, Nat.reduceLeDiff, Nat.left_eq_add, Nat.add_eq_left, Nat.reduceMod, Nat.reduceDiv, Nat.succ_ne_self, gY, gtY, z0, cc, nn_le, hle, e00]
        | false =>
          rw [hf, k0'] at fv
          refine ⟨[some (.ref 115), some (.int (kb mi)), some (.long c), none, some (.ref to), some (.int (Int32.ofNat (i + 1))), some (.int (Int32.ofNat i)), x7, x8, x9, x10], Y, ⟨_, _, _, _, _, rfl, f, by rw [st, mtI_F hf, List.append_nil]; exact kY⟩, fun Q => ?_⟩
          clear J R JA RA JY RY kY kz PA
          rw [s_248_36]
          simp (disch := omega) only [s_248_0, s_248_1, s_248_2, s_248_3, s_248_6, s_248_7, s_248_10, s_248_11, s_248_14, s_248_15, s_248_18, s_248_19, s_248_22, s_248_23, s_248_24, s_248_27, s_248_29, s_248_30, s_248_33, s_248_34, s_248_38, s_248_39, s_248_42, s_248_45, s_248_47, s_248_50, s_248_53, s_248_55, s_248_57, s_248_58, s_248_61, s_248_63, s_248_64, s_248_67, s_248_69, s_248_70, s_248_73, s_248_76, s_248_77, s_248_80, s_248_82, s_248_83, s_248_86, s_248_87, s_248_89, s_248_91, s_248_94, s_248_95, s_248_96, s_248_99, s_248_100, s_248_103, s_248_104, s_248_107, s_248_108, s_248_111, s_248_112, s_248_114, s_248_115, s_248_118, s_248_119, s_248_121, s_248_124, s_248_125, s_248_126, s_248_129, s_248_130, s_248_132, s_248_135, s_248_137, s_248_138, s_248_141, s_248_142, s_248_144, s_248_147, s_248_148, s_248_149, s_248_152, s_248_153, s_248_155, s_248_158, s_248_160, s_248_162, s_248_164, s_248_166, s_248_168, s_248_171, s_248_174, s_248_177, s_248_180, s_248_183, e_248, mv_i_1, mv_l_1, mv_a_1, mv_a_2, mv_a_3, mk2_n, mk2_i, mk2_l, mk2_a, mk2_u, mk2_x, mB_T, mB_F, mS_cons, mS_nil, mSB_T, mSB_F, mca_nil, mca_i, mca_l, mca_r, mca_u, mca_x, mcat_i, mcat_l, mcat_r, mcat_u, mcat_x, mK_some, mK_none, va_rf_s, va_rf_n, lgc_eq, lgc_lt, lgc_gt, lgc_ge, lgc_le, mrd_104, mrd_105, mrd_106, mrd_107, true_and, and_true, and_self, false_and, and_false, true_or, or_true, false_or, or_false, not_true_eq_false, not_false_eq_true, mgb, mga, mgr, mN, reduceCtorEq, ↓reduceIte, eq_self, ge_iff_le, gt_iff_lt, Nat.reduceAdd, Nat.reduceMul, Nat.reduceSub, Nat.reduceLT, Nat.reduceGT, Nat.reduceEqDiff, Nat.reduceLeDiff, Nat.left_eq_add, Nat.add_eq_left, Nat.reduceMod, Nat.reduceDiv, Nat.succ_ne_self, gY, gtY, z0, cc, r30, g301, g302, l30, fv, nn_le, nn_mxT, nn_clamp, hle, e00, ei]) l.length 0 (by omega) [some (.ref 115), some (.int (kb mi)), some (.long c), none, some (.ref to), some (.int (Int32.ofNat 0)), none, none, none, none, none] (aS X 115 (mh_i X 115 24) lo hi) ⟨none, none, none, none, none, rfl, fR_id, kA⟩
      obtain ⟨ls, Y, ⟨x6, x7, x8, x9, x10, rfl, f, kY⟩, e⟩ := L
      have RY := WR_tW JA sA sNA ne f (RK_ko kY) RA
      have gY := RY.a.g
      have cc := RY.c
      have hle : (l.length ≤ l.length) = True := eq_true (Nat.le_refl _)
      refine ⟨Y, tW_t fA f, kY, fun Q => ?_⟩
      rw [E0 Q, e Q, s_248_36]
      clear J R JA RA RY kY PA
      simp (disch := omega) only [s_248_0, s_248_1, s_248_2, s_248_3, s_248_6, s_248_7, s_248_10, s_248_11, s_248_14, s_248_15, s_248_18, s_248_19, s_248_22, s_248_23, s_248_24, s_248_27, s_248_29, s_248_30, s_248_33, s_248_34, s_248_38, s_248_39, s_248_42, s_248_45, s_248_47, s_248_50, s_248_53, s_248_55, s_248_57, s_248_58, s_248_61, s_248_63, s_248_64, s_248_67, s_248_69, s_248_70, s_248_73, s_248_76, s_248_77, s_248_80, s_248_82, s_248_83, s_248_86, s_248_87, s_248_89, s_248_91, s_248_94, s_248_95, s_248_96, s_248_99, s_248_100, s_248_103, s_248_104, s_248_107, s_248_108, s_248_111, s_248_112, s_248_114, s_248_115, s_248_118, s_248_119, s_248_121, s_248_124, s_248_125, s_248_126, s_248_129, s_248_130, s_248_132, s_248_135, s_248_137, s_248_138, s_248_141, s_248_142, s_248_144, s_248_147, s_248_148, s_248_149, s_248_152, s_248_153, s_248_155, s_248_158, s_248_160, s_248_162, s_248_164, s_248_166, s_248_168, s_248_171, s_248_174, s_248_177, s_248_180, s_248_183, e_248, mv_i_1, mv_l_1, mv_a_1, mv_a_2, mv_a_3, mk2_n, mk2_i, mk2_l, mk2_a, mk2_u, mk2_x, mB_T, mB_F, mS_cons, mS_nil, mSB_T, mSB_F, mca_nil, mca_i, mca_l, mca_r, mca_u, mca_x, mcat_i, mcat_l, mcat_r, mcat_u, mcat_x, mK_some, mK_none, va_rf_s, va_rf_n, lgc_eq, lgc_lt, lgc_gt, lgc_ge, lgc_le, mrd_104, mrd_105, mrd_106, mrd_107, true_and, and_true, and_self, false_and, and_false, true_or, or_true, false_or, or_false, not_true_eq_false, not_false_eq_true, mgb, mga, mgr, mN, reduceCtorEq, ↓reduceIte, eq_self, ge_iff_le, gt_iff_lt, Nat.reduceAdd, Nat.reduceMul, Nat.reduceSub, Nat.reduceLT, Nat.reduceGT, Nat.reduceEqDiff, Nat.reduceLeDiff, Nat.left_eq_add, Nat.add_eq_left, Nat.reduceMod, Nat.reduceDiv, Nat.succ_ne_self, gY, cc, nn_le, hle]
/-- Analysis.differ -/
theorem u_249 (J : RJ X T sN en) (R : WR X T sN en N A l H PQ PS PU PF PL PH lP) (s : sp X to) (sN' : sp X N) (ne : N ≠ to) (kt : RK X to C) (hC : ∀ M, C = some M → oc_C M.n M.m ∧ A.n ≤ M.n ∧ M.n ≤ 12) : ∃ Y, fR (tW to) X Y ∧ RK Y to (a_differ A (l.map (pgE en A)) C) ∧ ∀ Q, mcall (d + 5) 249 [.ref 115, .ref to] X Q = Q none Y := by
  have g := J.a.g
  have gt : mg X to 13 := (RK_ko kt).1
  obtain ⟨lo, hi, o, bd, eo⟩ := all0 (d := d + 2) R
  have kA : RK (aS X 115 (mh_i X 115 24) lo hi) to C := RK_aS g kt
  have fA : fR (tW to) X (aS X 115 (mh_i X 115 24) lo hi) := tW_aS
  obtain ⟨JA, PA⟩ := RJ_tW J s fA (RK_ko kA) R.P
  have yA := tW_rs J s fA
  have sA := (rs_s J (vK_1 s) yA (o := to)).mpr s
  have sNA := (rs_s J (vK_1 s) yA (o := N)).mpr sN'
  have RA := WR_tW J s sN' ne fA (RK_ko kA) R
  have l0 : (lo = 0) = (lo.toInt = 0) := propext eq64
  have h0 : (hi = 0) = (hi.toInt = 0) := propext eq64
  have m1 : (-1 : Int64).toInt = -1 := by decide
  unfold a_differ
  rw [o]
  dsimp only
  by_cases z1 : lo.toInt = 0
  · by_cases z2 : hi.toInt = 0
    · rw [if_pos ⟨z1, z2⟩]
      rw [eq_true z1] at l0
      rw [eq_true z2] at h0
      refine ⟨_, tW_t fA (fR_si (Or.inr ⟨Nat.le_refl _, by omega⟩)), RK_n1 kA, fun Q => ?_⟩
      clear J R JA RA kA kt PA
      simp (disch := omega) only [s_249_0, s_249_1, s_249_2, s_249_3, s_249_6, s_249_7, s_249_10, s_249_11, s_249_12, s_249_15, s_249_16, s_249_19, s_249_20, s_249_21, s_249_24, s_249_25, s_249_26, s_249_29, s_249_32, s_249_33, s_249_36, s_249_37, s_249_38, s_249_41, s_249_42, s_249_43, s_249_46, s_249_47, s_249_50, s_249_53, s_249_54, s_249_57, s_249_58, s_249_59, s_249_62, s_249_63, s_249_64, s_249_67, s_249_68, s_249_71, e_249, mv_i_1, mv_l_1, mv_a_1, mv_a_2, mv_a_3, mk2_n, mk2_i, mk2_l, mk2_a, mk2_u, mk2_x, mB_T, mB_F, mS_cons, mS_nil, mSB_T, mSB_F, mca_nil, mca_i, mca_l, mca_r, mca_u, mca_x, mcat_i, mcat_l, mcat_r, mcat_u, mcat_x, mK_some, mK_none, va_rf_s, va_rf_n, lgc_eq, lgc_lt, lgc_gt, lgc_ge, lgc_le, mrd_104, mrd_105, mrd_106, mrd_107, true_and, and_true, and_self, false_and, and_false, true_or, or_true, false_or, or_false, not_true_eq_false, not_false_eq_true, mgb, mga, mgr, mN, reduceCtorEq, ↓reduceIte, eq_self, ge_iff_le, gt_iff_lt, hk_si, hk_sj, hk_sr, hl_si, hl_sj, hl_sr, hn_si, hn_sj, hn_sr, hs_si, hs_sj, hs_sr, hi_sj, hi_sr, hj_si, hj_sr, hr_si, hr_sj, hi_si, hj_sj, hr_sr, mg_si, mg_sj, mg_sr, Nat.reduceAdd, Nat.reduceMul, Nat.reduceSub, Nat.reduceLT, Nat.reduceGT, Nat.reduceEqDiff, Nat.reduceLeDiff, Nat.left_eq_add, Nat.add_eq_left, Nat.reduceMod, Nat.reduceDiv, Nat.succ_ne_self, g, gt, aS_g, aS_i, aS_j, eo, l0, h0, show ((1 : Int32) = 0 ∨ (1 : Int32) = 1) = True by decide]
    · rw [if_neg (fun z => z2 z.2), if_pos z1]
      rw [eq_true z1] at l0
      rw [eq_false z2] at h0
      obtain ⟨Y, f, k, e⟩ := u_248 (d := d) (mi := true) (c := -1) JA RA sA sNA ne (Or.inr rfl) kA hC
      rw [m1] at k
      refine ⟨Y, tW_t fA f, k, fun Q => ?_⟩
      have k1' : kb true = 1 := rfl
      rw [k1'] at e
      clear J R JA RA kA kt PA k
      simp (disch := omega) only [s_249_0, s_249_1, s_249_2, s_249_3, s_249_6, s_249_7, s_249_10, s_249_11, s_249_12, s_249_15, s_249_16, s_249_19, s_249_20, s_249_21, s_249_24, s_249_25, s_249_26, s_249_29, s_249_32, s_249_33, s_249_36, s_249_37, s_249_38, s_249_41, s_249_42, s_249_43, s_249_46, s_249_47, s_249_50, s_249_53, s_249_54, s_249_57, s_249_58, s_249_59, s_249_62, s_249_63, s_249_64, s_249_67, s_249_68, s_249_71, e_249, mv_i_1, mv_l_1, mv_a_1, mv_a_2, mv_a_3, mk2_n, mk2_i, mk2_l, mk2_a, mk2_u, mk2_x, mB_T, mB_F, mS_cons, mS_nil, mSB_T, mSB_F, mca_nil, mca_i, mca_l, mca_r, mca_u, mca_x, mcat_i, mcat_l, mcat_r, mcat_u, mcat_x, mK_some, mK_none, va_rf_s, va_rf_n, lgc_eq, lgc_lt, lgc_gt, lgc_ge, lgc_le, mrd_104, mrd_105, mrd_106, mrd_107, true_and, and_true, and_self, false_and, and_false, true_or, or_true, false_or, or_false, not_true_eq_false, not_false_eq_true, mgb, mga, mgr, mN, reduceCtorEq, ↓reduceIte, eq_self, ge_iff_le, gt_iff_lt, hk_si, hk_sj, hk_sr, hl_si, hl_sj, hl_sr, hn_si, hn_sj, hn_sr, hs_si, hs_sj, hs_sr, hi_sj, hi_sr, hj_si, hj_sr, hr_si, hr_sj, hi_si, hj_sj, hr_sr, mg_si, mg_sj, mg_sr, Nat.reduceAdd, Nat.reduceMul, Nat.reduceSub, Nat.reduceLT, Nat.reduceGT, Nat.reduceEqDiff, Nat.reduceLeDiff, Nat.left_eq_add, Nat.add_eq_left, Nat.reduceMod, Nat.reduceDiv, Nat.succ_ne_self, g, gt, aS_g, aS_i, aS_j, eo, l0, h0, e]
  · rw [if_neg (fun z => z1 z.1), if_neg z1]
    rw [eq_false z1] at l0
    by_cases z2 : hi.toInt = 0
    · rw [if_pos z2]
      rw [eq_true z2] at h0
      obtain ⟨Y, f, k, e⟩ := u_248 (d := d) (mi := false) (c := -1) JA RA sA sNA ne (Or.inr rfl) kA hC
      rw [m1] at k
      refine ⟨Y, tW_t fA f, k, fun Q => ?_⟩
      have k0' : kb false = 0 := rfl
      rw [k0'] at e
      clear J R JA RA kA kt PA k
      simp (disch := omega) only [s_249_0, s_249_1, s_249_2, s_249_3, s_249_6, s_249_7, s_249_10, s_249_11, s_249_12, s_249_15, s_249_16, s_249_19, s_249_20, s_249_21, s_249_24, s_249_25, s_249_26, s_249_29, s_249_32, s_249_33, s_249_36, s_249_37, s_249_38, s_249_41, s_249_42, s_249_43, s_249_46, s_249_47, s_249_50, s_249_53, s_249_54, s_249_57, s_249_58, s_249_59, s_249_62, s_249_63, s_249_64, s_249_67, s_249_68, s_249_71, e_249, mv_i_1, mv_l_1, mv_a_1, mv_a_2, mv_a_3, mk2_n, mk2_i, mk2_l, mk2_a, mk2_u, mk2_x, mB_T, mB_F, mS_cons, mS_nil, mSB_T, mSB_F, mca_nil, mca_i, mca_l, mca_r, mca_u, mca_x, mcat_i, mcat_l, mcat_r, mcat_u, mcat_x, mK_some, mK_none, va_rf_s, va_rf_n, lgc_eq, lgc_lt, lgc_gt, lgc_ge, lgc_le, mrd_104, mrd_105, mrd_106, mrd_107, true_and, and_true, and_self, false_and, and_false, true_or, or_true, false_or, or_false, not_true_eq_false, not_false_eq_true, mgb, mga, mgr, mN, reduceCtorEq, ↓reduceIte, eq_self, ge_iff_le, gt_iff_lt, hk_si, hk_sj, hk_sr, hl_si, hl_sj, hl_sr, hn_si, hn_sj, hn_sr, hs_si, hs_sj, hs_sr, hi_sj, hi_sr, hj_si, hj_sr, hr_si, hr_sj, hi_si, hj_sj, hr_sr, mg_si, mg_sj, mg_sr, Nat.reduceAdd, Nat.reduceMul, Nat.reduceSub, Nat.reduceLT, Nat.reduceGT, Nat.reduceEqDiff, Nat.reduceLeDiff, Nat.left_eq_add, Nat.add_eq_left, Nat.reduceMod, Nat.reduceDiv, Nat.succ_ne_self, g, gt, aS_g, aS_i, aS_j, eo, l0, h0, e]
    · rw [if_neg z2]
      rw [eq_false z2] at h0
      refine ⟨_, fA, kA, fun Q => ?_⟩
      clear J R JA RA kA kt PA
      simp (disch := omega) only [s_249_0, s_249_1, s_249_2, s_249_3, s_249_6, s_249_7, s_249_10, s_249_11, s_249_12, s_249_15, s_249_16, s_249_19, s_249_20, s_249_21, s_249_24, s_249_25, s_249_26, s_249_29, s_249_32, s_249_33, s_249_36, s_249_37, s_249_38, s_249_41, s_249_42, s_249_43, s_249_46, s_249_47, s_249_50, s_249_53, s_249_54, s_249_57, s_249_58, s_249_59, s_249_62, s_249_63, s_249_64, s_249_67, s_249_68, s_249_71, e_249, mv_i_1, mv_l_1, mv_a_1, mv_a_2, mv_a_3, mk2_n, mk2_i, mk2_l, mk2_a, mk2_u, mk2_x, mB_T, mB_F, mS_cons, mS_nil, mSB_T, mSB_F, mca_nil, mca_i, mca_l, mca_r, mca_u, mca_x, mcat_i, mcat_l, mcat_r, mcat_u, mcat_x, mK_some, mK_none, va_rf_s, va_rf_n, lgc_eq, lgc_lt, lgc_gt, lgc_ge, lgc_le, mrd_104, mrd_105, mrd_106, mrd_107, true_and, and_true, and_self, false_and, and_false, true_or, or_true, false_or, or_false, not_true_eq_false, not_false_eq_true, mgb, mga, mgr, mN, reduceCtorEq, ↓reduceIte, eq_self, ge_iff_le, gt_iff_lt, hk_si, hk_sj, hk_sr, hl_si, hl_sj, hl_sr, hn_si, hn_sj, hn_sr, hs_si, hs_sj, hs_sr, hi_sj, hi_sr, hj_si, hj_sr, hr_si, hr_sj, hi_si, hj_sj, hr_sr, mg_si, mg_sj, mg_sr, Nat.reduceAdd, Nat.reduceMul, Nat.reduceSub, Nat.reduceLT, Nat.reduceGT, Nat.reduceEqDiff, Nat.reduceLeDiff, Nat.left_eq_add, Nat.add_eq_left, Nat.reduceMod, Nat.reduceDiv, Nat.succ_ne_self, g, gt, aS_g, aS_i, aS_j, eo, l0, h0]
end MTw
