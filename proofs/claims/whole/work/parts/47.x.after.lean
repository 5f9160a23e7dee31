set_option maxRecDepth 100000
/-! the reference's runs: where points lead, what takes what a return gives -/
/-- after(p) is q: m blocks may end there -/
def afr (h : mh_H) (cnt : Nat) : Nat → Nat → Nat → Prop
  | 0, _, _ => False
  | m + 1, p, q => ∃ k w zk zw, p < 250 ∧ mh_i h 100 p = Int32.ofNat k ∧ k < 26000 ∧ mh_i h 96 k = Int32.ofNat w ∧ w < 26000 ∧ mh_i h 97 k = Int32.ofNat zk ∧ mh_i h 97 w = Int32.ofNat zw ∧ zk ≤ 26000 ∧ zw ≤ 26000 ∧ ((k + zk < w + zw ∧ mh_i h 102 p = Int32.ofNat q) ∨ (w + zw ≤ k + zk ∧ ((mh_i h 101 p = -1 ∧ q = cnt - 1) ∨ ∃ o ko kk, o < 250 ∧ mh_i h 101 p = Int32.ofNat o ∧ mh_i h 100 o = Int32.ofNat ko ∧ ko < 26000 ∧ kk < 64 ∧ mh_i h 93 ko = Int32.ofNat kk ∧ ((kk = 9 ∧ q = o) ∨ (¬ kk = 9 ∧ afr h cnt m o q)))))
theorem nn_m2 {k : Nat} (hk : k < 1000000) : (Int32.ofNat k = -1) = False := eq_false (fun z => by
  have e := congrArg Int32.toInt z
  rw [nn_int (by omega)] at e
  have e1 : (-1 : Int32).toInt = -1 := rfl
  omega)
section AFs
variable {d : Nat} {h h1 : mh_H} {cnt p q : Nat}
theorem afr_G (e : ∀ b, b = 93 ∨ b = 96 ∨ b = 97 ∨ b = 100 ∨ b = 101 ∨ b = 102 → mh_i h1 b = mh_i h b) : ∀ m p q, afr h cnt m p q → afr h1 cnt m p q := by
  intro m
  induction m with
  | zero => exact fun _ _ z => z
  | succ m ih =>
    intro p q ⟨k, w, zk, zw, a1, a2, a3, a4, a5, a6, a7, a8, a9, a10⟩
    refine ⟨k, w, zk, zw, a1, by rw [e 100 (by omega)]; exact a2, a3, by rw [e 96 (by omega)]; exact a4, a5, by rw [e 97 (by omega)]; exact a6, by rw [e 97 (by omega)]; exact a7, a8, a9, ?_⟩
    rcases a10 with ⟨b1, b2⟩ | ⟨b1, b2⟩
    · exact Or.inl ⟨b1, by rw [e 102 (by omega)]; exact b2⟩
    · refine Or.inr ⟨b1, ?_⟩
      rcases b2 with ⟨c1, c2⟩ | ⟨o, ko, kk, c1, c2, c3, c4, c5, c6, c7⟩
      · exact Or.inl ⟨by rw [e 101 (by omega)]; exact c1, c2⟩
      · refine Or.inr ⟨o, ko, kk, c1, by rw [e 101 (by omega)]; exact c2, by rw [e 100 (by omega)]; exact c3, c4, c5, by rw [e 93 (by omega)]; exact c6, ?_⟩
        rcases c7 with c7 | ⟨c7, c8⟩
        · exact Or.inl c7
        · exact Or.inr ⟨c7, ih _ _ c8⟩
theorem l_351 (F : RF h) (c33 : mh_i h 81 33 = Int32.ofNat cnt) (hc : 1 ≤ cnt ∧ cnt ≤ 250) {x1 : Int32} : ∀ m p q (x3 : Option Value), afr h cnt m p q → ∀ Q, mw (d + 1) 351 Q 2 [some (.ref 81), some (.int x1), some (.int (Int32.ofNat p)), x3] [] h = Q (some (.int (Int32.ofNat q))) h := by
  have g := F.g 81 14 70 (by decide +kernel)
  have r28 := F.f 81 28 100 (by decide +kernel)
  have g100 := F.g 100 100 250 (by decide +kernel)
  have l100 := F.l 100 100 250 (by decide +kernel)
  have r29 := F.f 81 29 101 (by decide +kernel)
  have g101 := F.g 101 100 250 (by decide +kernel)
  have l101 := F.l 101 100 250 (by decide +kernel)
  have r30 := F.f 81 30 102 (by decide +kernel)
  have g102 := F.g 102 100 250 (by decide +kernel)
  have l102 := F.l 102 100 250 (by decide +kernel)
  have r22 := F.f 81 22 96 (by decide +kernel)
  have g96 := F.g 96 100 26000 (by decide +kernel)
  have l96 := F.l 96 100 26000 (by decide +kernel)
  have r19 := F.f 81 19 93 (by decide +kernel)
  have k93 := (F.g 93 102 26000 (by decide +kernel)).1
  have n93 := (F.g 93 102 26000 (by decide +kernel)).2
  have l93 := F.l 93 102 26000 (by decide +kernel)
  have es : Int32.ofNat cnt - 1 = Int32.ofNat (cnt - 1) := nn_sub (a := cnt) (b := 1) (by omega)
  have em : ((-1 : Int32) = -1) = True := by decide
  intro m
  induction m with
  | zero => exact fun p q x3 z => z.elim
  | succ m ih =>
    intro p q x3 ⟨k, w, zk, zw, a1, a2, a3, a4, a5, a6, a7, a8, a9, a10⟩ Q
    have c1 := c_333 (d := d) F a3 a6
    have c2 := c_333 (d := d) F a5 a7
    have nk : (Int32.ofNat k = -1) = False := nn_m2 (by omega)
    rcases a10 with ⟨b1, b2⟩ | ⟨b1, b2⟩
    · have le : (w + zw ≤ k + zk) = False := eq_false (by omega)
      clear F ih
      simp (disch := omega) only [s_351_0, s_351_1, s_351_2, s_351_3, s_351_6, s_351_7, s_351_8, s_351_9, s_351_12, s_351_13, s_351_16, s_351_17, s_351_18, s_351_19, s_351_20, s_351_21, s_351_24, s_351_25, s_351_26, s_351_29, s_351_30, s_351_31, s_351_34, s_351_37, s_351_38, s_351_41, s_351_42, s_351_43, s_351_44, s_351_45, s_351_48, s_351_49, s_351_50, s_351_51, s_351_54, s_351_55, s_351_58, s_351_59, s_351_60, s_351_61, s_351_62, s_351_65, s_351_66, s_351_67, s_351_68, s_351_69, s_351_72, s_351_73, s_351_76, s_351_77, s_351_78, s_351_79, s_351_81, s_351_84, s_351_85, s_351_86, s_351_89, s_351_90, e_351, mv_i_1, mv_l_1, mv_a_1, mv_a_2, mv_a_3, mk2_n, mk2_i, mk2_l, mk2_a, mk2_u, mk2_x, mB_T, mB_F, mS_cons, mS_nil, mSB_T, mSB_F, mca_nil, mca_i, mca_l, mca_r, mca_u, mca_x, mcat_i, mcat_l, mcat_r, mcat_u, mcat_x, mK_some, mK_none, va_rf_s, va_rf_n, lgc_eq, lgc_lt, lgc_gt, lgc_ge, lgc_le, mrd_104, mrd_105, mrd_106, mrd_107, true_and, and_true, and_self, false_and, and_false, true_or, or_true, false_or, or_false, not_true_eq_false, not_false_eq_true, mgb, mga, mgr, mN, reduceCtorEq, ↓reduceIte, eq_self, ge_iff_le, gt_iff_lt, hk_si, hk_sj, hk_sr, hl_si, hl_sj, hl_sr, hn_si, hn_sj, hn_sr, hs_si, hs_sj, hs_sr, hi_sj, hi_sr, hj_si, hj_sr, hr_si, hr_sj, hi_si, hj_sj, hr_sr, mg_si, mg_sj, mg_sr, Nat.reduceAdd, Nat.reduceMul, Nat.reduceSub, Nat.reduceLT, Nat.reduceGT, Nat.reduceEqDiff, Nat.reduceLeDiff, Nat.left_eq_add, Nat.add_eq_left, Nat.reduceMod, Nat.reduceDiv, Nat.succ_ne_self, g, r28, g100, l100, a2, nk, c1, r22, g96, l96, a4, c2, nn_le, le, r30, g102, l102, b2, nn_mxT, nn_clamp]
    · have le : (w + zw ≤ k + zk) = True := eq_true b1
      rcases b2 with ⟨e1, e2⟩ | ⟨o, ko, kk, e1, e2, e3, e4, e5, e6, e7⟩
      · subst e2
        clear F ih
        simp (disch := omega) only [s_351_0, s_351_1, s_351_2, s_351_3, s_351_6, s_351_7, s_351_8, s_351_9, s_351_12, s_351_13, s_351_16, s_351_17, s_351_18, s_351_19, s_351_20, s_351_21, s_351_24, s_351_25, s_351_26, s_351_29, s_351_30, s_351_31, s_351_34, s_351_37, s_351_38, s_351_41, s_351_42, s_351_43, s_351_44, s_351_45, s_351_48, s_351_49, s_351_50, s_351_51, s_351_54, s_351_55, s_351_58, s_351_59, s_351_60, s_351_61, s_351_62, s_351_65, s_351_66, s_351_67, s_351_68, s_351_69, s_351_72, s_351_73, s_351_76, s_351_77, s_351_78, s_351_79, s_351_81, s_351_84, s_351_85, s_351_86, s_351_89, s_351_90, e_351, mv_i_1, mv_l_1, mv_a_1, mv_a_2, mv_a_3, mk2_n, mk2_i, mk2_l, mk2_a, mk2_u, mk2_x, mB_T, mB_F, mS_cons, mS_nil, mSB_T, mSB_F, mca_nil, mca_i, mca_l, mca_r, mca_u, mca_x, mcat_i, mcat_l, mcat_r, mcat_u, mcat_x, mK_some, mK_none, va_rf_s, va_rf_n, lgc_eq, lgc_lt, lgc_gt, lgc_ge, lgc_le, mrd_104, mrd_105, mrd_106, mrd_107, true_and, and_true, and_self, false_and, and_false, true_or, or_true, false_or, or_false, not_true_eq_false, not_false_eq_true, mgb, mga, mgr, mN, reduceCtorEq, ↓reduceIte, eq_self, ge_iff_le, gt_iff_lt, hk_si, hk_sj, hk_sr, hl_si, hl_sj, hl_sr, hn_si, hn_sj, hn_sr, hs_si, hs_sj, hs_sr, hi_sj, hi_sr, hj_si, hj_sr, hr_si, hr_sj, hi_si, hj_sj, hr_sr, mg_si, mg_sj, mg_sr, Nat.reduceAdd, Nat.reduceMul, Nat.reduceSub, Nat.reduceLT, Nat.reduceGT, Nat.reduceEqDiff, Nat.reduceLeDiff, Nat.left_eq_add, Nat.add_eq_left, Nat.reduceMod, Nat.reduceDiv, Nat.succ_ne_self, g, r28, g100, l100, a2, nk, c1, r22, g96, l96, a4, c2, nn_le, le, r29, g101, l101, e1, em, c33, es, nn_mxT, nn_clamp]
      · have no : (Int32.ofNat o = -1) = False := nn_m1 (by omega)
        have e9 : (Int32.ofNat kk = 9) = (kk = 9) := nn_eq (a := kk) (b := 9) (by omega) (by omega)
        rcases e7 with ⟨e7, e8⟩ | ⟨e7, e8⟩
        · subst e8
          have e7' := eq_true e7
          clear F ih
          simp (disch := omega) only [s_351_0, s_351_1, s_351_2, s_351_3, s_351_6, s_351_7, s_351_8, s_351_9, s_351_12, s_351_13, s_351_16, s_351_17, s_351_18, s_351_19, s_351_20, s_351_21, s_351_24, s_351_25, s_351_26, s_351_29, s_351_30, s_351_31, s_351_34, s_351_37, s_351_38, s_351_41, s_351_42, s_351_43, s_351_44, s_351_45, s_351_48, s_351_49, s_351_50, s_351_51, s_351_54, s_351_55, s_351_58, s_351_59, s_351_60, s_351_61, s_351_62, s_351_65, s_351_66, s_351_67, s_351_68, s_351_69, s_351_72, s_351_73, s_351_76, s_351_77, s_351_78, s_351_79, s_351_81, s_351_84, s_351_85, s_351_86, s_351_89, s_351_90, e_351, mv_i_1, mv_l_1, mv_a_1, mv_a_2, mv_a_3, mk2_n, mk2_i, mk2_l, mk2_a, mk2_u, mk2_x, mB_T, mB_F, mS_cons, mS_nil, mSB_T, mSB_F, mca_nil, mca_i, mca_l, mca_r, mca_u, mca_x, mcat_i, mcat_l, mcat_r, mcat_u, mcat_x, mK_some, mK_none, va_rf_s, va_rf_n, lgc_eq, lgc_lt, lgc_gt, lgc_ge, lgc_le, mrd_104, mrd_105, mrd_106, mrd_107, true_and, and_true, and_self, false_and, and_false, true_or, or_true, false_or, or_false, not_true_eq_false, not_false_eq_true, mgb, mga, mgr, mN, reduceCtorEq, ↓reduceIte, eq_self, ge_iff_le, gt_iff_lt, hk_si, hk_sj, hk_sr, hl_si, hl_sj, hl_sr, hn_si, hn_sj, hn_sr, hs_si, hs_sj, hs_sr, hi_sj, hi_sr, hj_si, hj_sr, hr_si, hr_sj, hi_si, hj_sj, hr_sr, mg_si, mg_sj, mg_sr, Nat.reduceAdd, Nat.reduceMul, Nat.reduceSub, Nat.reduceLT, Nat.reduceGT, Nat.reduceEqDiff, Nat.reduceLeDiff, Nat.left_eq_add, Nat.add_eq_left, Nat.reduceMod, Nat.reduceDiv, Nat.succ_ne_self, g, r28, g100, l100, a2, nk, c1, r22, g96, l96, a4, c2, nn_le, le, r29, g101, l101, e2, no, e3, r19, k93, n93, l93, e6, e9, e7', nn_mxT, nn_clamp]
        · have e7' := eq_false e7
          rw [← ih o q (some (.int (Int32.ofNat k))) e8 Q]
          clear F ih
          rw [s_351_2]
          simp (disch := omega) only [s_351_0, s_351_1, s_351_3, s_351_6, s_351_7, s_351_8, s_351_9, s_351_12, s_351_13, s_351_16, s_351_17, s_351_18, s_351_19, s_351_20, s_351_21, s_351_24, s_351_25, s_351_26, s_351_29, s_351_30, s_351_31, s_351_34, s_351_37, s_351_38, s_351_41, s_351_42, s_351_43, s_351_44, s_351_45, s_351_48, s_351_49, s_351_50, s_351_51, s_351_54, s_351_55, s_351_58, s_351_59, s_351_60, s_351_61, s_351_62, s_351_65, s_351_66, s_351_67, s_351_68, s_351_69, s_351_72, s_351_73, s_351_76, s_351_77, s_351_78, s_351_79, s_351_81, s_351_84, s_351_85, s_351_86, s_351_89, s_351_90, e_351, mv_i_1, mv_l_1, mv_a_1, mv_a_2, mv_a_3, mk2_n, mk2_i, mk2_l, mk2_a, mk2_u, mk2_x, mB_T, mB_F, mS_cons, mS_nil, mSB_T, mSB_F, mca_nil, mca_i, mca_l, mca_r, mca_u, mca_x, mcat_i, mcat_l, mcat_r, mcat_u, mcat_x, mK_some, mK_none, va_rf_s, va_rf_n, lgc_eq, lgc_lt, lgc_gt, lgc_ge, lgc_le, mrd_104, mrd_105, mrd_106, mrd_107, true_and, and_true, and_self, false_and, and_false, true_or, or_true, false_or, or_false, not_true_eq_false, not_false_eq_true, mgb, mga, mgr, mN, reduceCtorEq, ↓reduceIte, eq_self, ge_iff_le, gt_iff_lt, hk_si, hk_sj, hk_sr, hl_si, hl_sj, hl_sr, hn_si, hn_sj, hn_sr, hs_si, hs_sj, hs_sr, hi_sj, hi_sr, hj_si, hj_sr, hr_si, hr_sj, hi_si, hj_sj, hr_sr, mg_si, mg_sj, mg_sr, Nat.reduceAdd, Nat.reduceMul, Nat.reduceSub, Nat.reduceLT, Nat.reduceGT, Nat.reduceEqDiff, Nat.reduceLeDiff, Nat.left_eq_add, Nat.add_eq_left, Nat.reduceMod, Nat.reduceDiv, Nat.succ_ne_self, g, r28, g100, l100, a2, nk, c1, r22, g96, l96, a4, c2, nn_le, le, r29, g101, l101, e2, no, e3, r19, k93, n93, l93, e6, e9, e7', nn_mxT, nn_clamp]
/-- after -/
theorem c_351 (F : RF h) (c33 : mh_i h 81 33 = Int32.ofNat cnt) (hc : 1 ≤ cnt ∧ cnt ≤ 250) {m : Nat} (a : afr h cnt m p q) : ∀ Q, mcall (d + 1) 351 [.ref 81, .int (Int32.ofNat p)] h Q = Q (some (.int (Int32.ofNat q))) h := fun Q => by
  rw [← l_351 (d := d) (x1 := Int32.ofNat p) F c33 hc m p q none a Q]
  clear F a
  simp (disch := omega) only [s_351_0, s_351_1, s_351_3, s_351_6, s_351_7, s_351_8, s_351_9, s_351_12, s_351_13, s_351_16, s_351_17, s_351_18, s_351_19, s_351_20, s_351_21, s_351_24, s_351_25, s_351_26, s_351_29, s_351_30, s_351_31, s_351_34, s_351_37, s_351_38, s_351_41, s_351_42, s_351_43, s_351_44, s_351_45, s_351_48, s_351_49, s_351_50, s_351_51, s_351_54, s_351_55, s_351_58, s_351_59, s_351_60, s_351_61, s_351_62, s_351_65, s_351_66, s_351_67, s_351_68, s_351_69, s_351_72, s_351_73, s_351_76, s_351_77, s_351_78, s_351_79, s_351_81, s_351_84, s_351_85, s_351_86, s_351_89, s_351_90, e_351, mv_i_1, mv_l_1, mv_a_1, mv_a_2, mv_a_3, mk2_n, mk2_i, mk2_l, mk2_a, mk2_u, mk2_x, mB_T, mB_F, mS_cons, mS_nil, mSB_T, mSB_F, mca_nil, mca_i, mca_l, mca_r, mca_u, mca_x, mcat_i, mcat_l, mcat_r, mcat_u, mcat_x, mK_some, mK_none, va_rf_s, va_rf_n, lgc_eq, lgc_lt, lgc_gt, lgc_ge, lgc_le, mrd_104, mrd_105, mrd_106, mrd_107, true_and, and_true, and_self, false_and, and_false, true_or, or_true, false_or, or_false, not_true_eq_false, not_false_eq_true, mgb, mga, mgr, mN, reduceCtorEq, ↓reduceIte, eq_self, ge_iff_le, gt_iff_lt, hk_si, hk_sj, hk_sr, hl_si, hl_sj, hl_sr, hn_si, hn_sj, hn_sr, hs_si, hs_sj, hs_sr, hi_sj, hi_sr, hj_si, hj_sr, hr_si, hr_sj, hi_si, hj_sj, hr_sr, mg_si, mg_sj, mg_sr, Nat.reduceAdd, Nat.reduceMul, Nat.reduceSub, Nat.reduceLT, Nat.reduceGT, Nat.reduceEqDiff, Nat.reduceLeDiff, Nat.left_eq_add, Nat.add_eq_left, Nat.reduceMod, Nat.reduceDiv, Nat.succ_ne_self]
/-- what takes what a return gives -/
def glF (h : mh_H) (p : Nat) (tk : Option Nat) : Prop := ∃ c kc, c < 250 ∧ mh_i h 101 p = Int32.ofNat c ∧ mh_i h 100 c = Int32.ofNat kc ∧ kc + 1 < 26000 ∧ ((mh_i h 93 (kc + 1) = 33 ∧ tk = none) ∨ (mh_i h 93 (kc + 1) = 13 ∧ ∃ M e y, M ≤ 40 ∧ mh_i h 105 c = Int32.ofNat M ∧ e < M ∧ mh_i h 106 (40 * c + e) = mh_i h 95 (kc + 1) ∧ (∀ e', e < e' → e' < M → ¬ mh_i h 106 (40 * c + e') = mh_i h 95 (kc + 1)) ∧ mh_i h 107 (40 * c + e) = Int32.ofNat y ∧ tk = some y))
theorem c_363 (F : RF h) (hp : p < 250) {tk : Option Nat} (w : glF h p tk) : ∀ Q, mcall d 363 [.ref 81, .int (Int32.ofNat p)] h Q = Q (some (.int (tkV tk))) h := by
  obtain ⟨c, kc, a1, a2, a3, a4, a5⟩ := w
  have g := F.g 81 14 70 (by decide +kernel)
  have r28 := F.f 81 28 100 (by decide +kernel)
  have g100 := F.g 100 100 250 (by decide +kernel)
  have l100 := F.l 100 100 250 (by decide +kernel)
  have r29 := F.f 81 29 101 (by decide +kernel)
  have g101 := F.g 101 100 250 (by decide +kernel)
  have l101 := F.l 101 100 250 (by decide +kernel)
  have r19 := F.f 81 19 93 (by decide +kernel)
  have k93 := (F.g 93 102 26000 (by decide +kernel)).1
  have n93 := (F.g 93 102 26000 (by decide +kernel)).2
  have l93 := F.l 93 102 26000 (by decide +kernel)
  have r21 := F.f 81 21 95 (by decide +kernel)
  have g95 := F.g 95 100 26000 (by decide +kernel)
  have l95 := F.l 95 100 26000 (by decide +kernel)
  have r34 := F.f 81 34 105 (by decide +kernel)
  have r35 := F.f 81 35 106 (by decide +kernel)
  have r36 := F.f 81 36 107 (by decide +kernel)
  have g5 := F.g 105 100 251 (by decide +kernel)
  have l5 := F.l 105 100 251 (by decide +kernel)
  have g6 := F.g 106 100 10040 (by decide +kernel)
  have l6 := F.l 106 100 10040 (by decide +kernel)
  have g7 := F.g 107 100 10040 (by decide +kernel)
  have l7 := F.l 107 100 10040 (by decide +kernel)
  have ek : Int32.ofNat kc + 1 = Int32.ofNat (kc + 1) := nn_add (a := kc) (b := 1)
  have em : (40 : Int32) * Int32.ofNat c = Int32.ofNat (40 * c) := nn_mul (a := 40) (b := c)
  have ea : ∀ j, Int32.ofNat (40 * c) + Int32.ofNat j = Int32.ofNat (40 * c + j) := fun j => nn_add
  have e33 : ((33 : Int32) = 33) = True := by decide
  have n33 : ((13 : Int32) = 33) = False := by decide
  intro Q
  rcases a5 with ⟨b1, b2⟩ | ⟨b1, M, e, y, b2, b3, b4, b5, b6, b7, b8⟩
  · subst b2
    have tv : tkV none = -1 := rfl
    rw [tv]
    clear F
    simp (disch := omega) only [s_363_0, s_363_1, s_363_4, s_363_5, s_363_6, s_363_7, s_363_8, s_363_11, s_363_12, s_363_13, s_363_14, s_363_15, s_363_18, s_363_19, s_363_20, s_363_21, s_363_22, s_363_24, s_363_27, s_363_28, s_363_29, s_363_30, s_363_33, s_363_34, s_363_35, s_363_36, s_363_37, s_363_39, s_363_41, s_363_44, s_363_45, s_363_48, s_363_50, s_363_51, s_363_52, s_363_54, s_363_55, s_363_56, s_363_57, s_363_60, s_363_61, s_363_62, s_363_63, s_363_64, s_363_67, s_363_68, s_363_71, s_363_73, s_363_74, s_363_75, s_363_77, s_363_78, s_363_79, s_363_80, s_363_83, s_363_86, s_363_87, e_363, mv_i_1, mv_l_1, mv_a_1, mv_a_2, mv_a_3, mk2_n, mk2_i, mk2_l, mk2_a, mk2_u, mk2_x, mB_T, mB_F, mS_cons, mS_nil, mSB_T, mSB_F, mca_nil, mca_i, mca_l, mca_r, mca_u, mca_x, mcat_i, mcat_l, mcat_r, mcat_u, mcat_x, mK_some, mK_none, va_rf_s, va_rf_n, lgc_eq, lgc_lt, lgc_gt, lgc_ge, lgc_le, mrd_104, mrd_105, mrd_106, mrd_107, true_and, and_true, and_self, false_and, and_false, true_or, or_true, false_or, or_false, not_true_eq_false, not_false_eq_true, mgb, mga, mgr, mN, reduceCtorEq, ↓reduceIte, eq_self, ge_iff_le, gt_iff_lt, hk_si, hk_sj, hk_sr, hl_si, hl_sj, hl_sr, hn_si, hn_sj, hn_sr, hs_si, hs_sj, hs_sr, hi_sj, hi_sr, hj_si, hj_sr, hr_si, hr_sj, hi_si, hj_sj, hr_sr, mg_si, mg_sj, mg_sr, Nat.reduceAdd, Nat.reduceMul, Nat.reduceSub, Nat.reduceLT, Nat.reduceGT, Nat.reduceEqDiff, Nat.reduceLeDiff, Nat.left_eq_add, Nat.add_eq_left, Nat.reduceMod, Nat.reduceDiv, Nat.succ_ne_self, g, r29, g101, l101, a2, r28, g100, l100, a3, r19, k93, n93, l93, ek, b1, e33, nn_mxT, nn_clamp]
  · subst b8
    have tv : tkV (some y) = Int32.ofNat y := rfl
    rw [tv]
    have ez : (Int32.ofNat M - 1) = Int32.ofNat (M - 1) := nn_sub (a := M) (b := 1) (by omega)
    have neg : ∀ j, j < 40 → (Int32.ofNat j < 0) = False := fun j hj => eq_false (fun z => by rw [Int32.lt_iff_toInt_lt, nn_int (by omega)] at z; have : (0 : Int32).toInt = 0 := rfl; omega)
    have lp : ∀ m i, i = e + m → i < M → ∀ Q, mw d 363 Q 39 [some (.ref 81), some (.int (Int32.ofNat p)), some (.int (Int32.ofNat c)), some (.int (Int32.ofNat kc)), some (.int (Int32.ofNat i))] [] h = Q (some (.int (Int32.ofNat y))) h := by
      intro m
      induction m with
      | zero =>
        intro i hi hiM Q
        have hi' : i = e := by omega
        subst hi'
        have eq : (mh_i h 106 (40 * c + i) = mh_i h 95 (kc + 1)) = True := eq_true b5
        have n1 := neg i (by omega)
        clear F neg
        simp (disch := omega) only [s_363_0, s_363_1, s_363_4, s_363_5, s_363_6, s_363_7, s_363_8, s_363_11, s_363_12, s_363_13, s_363_14, s_363_15, s_363_18, s_363_19, s_363_20, s_363_21, s_363_22, s_363_24, s_363_27, s_363_28, s_363_29, s_363_30, s_363_33, s_363_34, s_363_35, s_363_36, s_363_37, s_363_39, s_363_41, s_363_44, s_363_45, s_363_48, s_363_50, s_363_51, s_363_52, s_363_54, s_363_55, s_363_56, s_363_57, s_363_60, s_363_61, s_363_62, s_363_63, s_363_64, s_363_67, s_363_68, s_363_71, s_363_73, s_363_74, s_363_75, s_363_77, s_363_78, s_363_79, s_363_80, s_363_83, s_363_86, s_363_87, e_363, mv_i_1, mv_l_1, mv_a_1, mv_a_2, mv_a_3, mk2_n, mk2_i, mk2_l, mk2_a, mk2_u, mk2_x, mB_T, mB_F, mS_cons, mS_nil, mSB_T, mSB_F, mca_nil, mca_i, mca_l, mca_r, mca_u, mca_x, mcat_i, mcat_l, mcat_r, mcat_u, mcat_x, mK_some, mK_none, va_rf_s, va_rf_n, lgc_eq, lgc_lt, lgc_gt, lgc_ge, lgc_le, mrd_104, mrd_105, mrd_106, mrd_107, true_and, and_true, and_self, false_and, and_false, true_or, or_true, false_or, or_false, not_true_eq_false, not_false_eq_true, mgb, mga, mgr, mN, reduceCtorEq, ↓reduceIte, eq_self, ge_iff_le, gt_iff_lt, hk_si, hk_sj, hk_sr, hl_si, hl_sj, hl_sr, hn_si, hn_sj, hn_sr, hs_si, hs_sj, hs_sr, hi_sj, hi_sr, hj_si, hj_sr, hr_si, hr_sj, hi_si, hj_sj, hr_sr, mg_si, mg_sj, mg_sr, Nat.reduceAdd, Nat.reduceMul, Nat.reduceSub, Nat.reduceLT, Nat.reduceGT, Nat.reduceEqDiff, Nat.reduceLeDiff, Nat.left_eq_add, Nat.add_eq_left, Nat.reduceMod, Nat.reduceDiv, Nat.succ_ne_self, n1, g, r35, g6, l6, em, ea, r21, g95, l95, ek, eq, r36, g7, l7, b7, nn_mxT, nn_clamp]
      | succ m ih =>
        intro i hi hiM Q
        have eq : (mh_i h 106 (40 * c + i) = mh_i h 95 (kc + 1)) = False := eq_false (b6 i (by omega) hiM)
        have n1 := neg i (by omega)
        have dc : Int32.ofNat i + (-1) = Int32.ofNat (i - 1) := by
          obtain ⟨j, rfl⟩ : ∃ j, i = j + 1 := ⟨i - 1, by omega⟩
          exact nn_dec
        rw [← ih (i - 1) (by omega) (by omega) Q]
        clear F neg ih
        rw [s_363_39]
        simp (disch := omega) only [s_363_0, s_363_1, s_363_4, s_363_5, s_363_6, s_363_7, s_363_8, s_363_11, s_363_12, s_363_13, s_363_14, s_363_15, s_363_18, s_363_19, s_363_20, s_363_21, s_363_22, s_363_24, s_363_27, s_363_28, s_363_29, s_363_30, s_363_33, s_363_34, s_363_35, s_363_36, s_363_37, s_363_41, s_363_44, s_363_45, s_363_48, s_363_50, s_363_51, s_363_52, s_363_54, s_363_55, s_363_56, s_363_57, s_363_60, s_363_61, s_363_62, s_363_63, s_363_64, s_363_67, s_363_68, s_363_71, s_363_73, s_363_74, s_363_75, s_363_77, s_363_78, s_363_79, s_363_80, s_363_83, s_363_86, s_363_87, e_363, mv_i_1, mv_l_1, mv_a_1, mv_a_2, mv_a_3, mk2_n, mk2_i, mk2_l, mk2_a, mk2_u, mk2_x, mB_T, mB_F, mS_cons, mS_nil, mSB_T, mSB_F, mca_nil, mca_i, mca_l, mca_r, mca_u, mca_x, mcat_i, mcat_l, mcat_r, mcat_u, mcat_x, mK_some, mK_none, va_rf_s, va_rf_n, lgc_eq, lgc_lt, lgc_gt, lgc_ge, lgc_le, mrd_104, mrd_105, mrd_106, mrd_107, true_and, and_true, and_self, false_and, and_false, true_or, or_true, false_or, or_false, not_true_eq_false, not_false_eq_true, mgb, mga, mgr, mN, reduceCtorEq, ↓reduceIte, eq_self, ge_iff_le, gt_iff_lt, hk_si, hk_sj, hk_sr, hl_si, hl_sj, hl_sr, hn_si, hn_sj, hn_sr, hs_si, hs_sj, hs_sr, hi_sj, hi_sr, hj_si, hj_sr, hr_si, hr_sj, hi_si, hj_sj, hr_sr, mg_si, mg_sj, mg_sr, Nat.reduceAdd, Nat.reduceMul, Nat.reduceSub, Nat.reduceLT, Nat.reduceGT, Nat.reduceEqDiff, Nat.reduceLeDiff, Nat.left_eq_add, Nat.add_eq_left, Nat.reduceMod, Nat.reduceDiv, Nat.succ_ne_self, n1, g, r35, g6, l6, em, ea, r21, g95, l95, ek, eq, dc, nn_mxT, nn_clamp]
    rw [← lp (M - 1 - e) (M - 1) (by omega) (by omega) Q]
    clear F neg lp
    simp (disch := omega) only [s_363_0, s_363_1, s_363_4, s_363_5, s_363_6, s_363_7, s_363_8, s_363_11, s_363_12, s_363_13, s_363_14, s_363_15, s_363_18, s_363_19, s_363_20, s_363_21, s_363_22, s_363_24, s_363_27, s_363_28, s_363_29, s_363_30, s_363_33, s_363_34, s_363_35, s_363_36, s_363_37, s_363_41, s_363_44, s_363_45, s_363_48, s_363_50, s_363_51, s_363_52, s_363_54, s_363_55, s_363_56, s_363_57, s_363_60, s_363_61, s_363_62, s_363_63, s_363_64, s_363_67, s_363_68, s_363_71, s_363_73, s_363_74, s_363_75, s_363_77, s_363_78, s_363_79, s_363_80, s_363_83, s_363_86, s_363_87, e_363, mv_i_1, mv_l_1, mv_a_1, mv_a_2, mv_a_3, mk2_n, mk2_i, mk2_l, mk2_a, mk2_u, mk2_x, mB_T, mB_F, mS_cons, mS_nil, mSB_T, mSB_F, mca_nil, mca_i, mca_l, mca_r, mca_u, mca_x, mcat_i, mcat_l, mcat_r, mcat_u, mcat_x, mK_some, mK_none, va_rf_s, va_rf_n, lgc_eq, lgc_lt, lgc_gt, lgc_ge, lgc_le, mrd_104, mrd_105, mrd_106, mrd_107, true_and, and_true, and_self, false_and, and_false, true_or, or_true, false_or, or_false, not_true_eq_false, not_false_eq_true, mgb, mga, mgr, mN, reduceCtorEq, ↓reduceIte, eq_self, ge_iff_le, gt_iff_lt, hk_si, hk_sj, hk_sr, hl_si, hl_sj, hl_sr, hn_si, hn_sj, hn_sr, hs_si, hs_sj, hs_sr, hi_sj, hi_sr, hj_si, hj_sr, hr_si, hr_sj, hi_si, hj_sj, hr_sr, mg_si, mg_sj, mg_sr, Nat.reduceAdd, Nat.reduceMul, Nat.reduceSub, Nat.reduceLT, Nat.reduceGT, Nat.reduceEqDiff, Nat.reduceLeDiff, Nat.left_eq_add, Nat.add_eq_left, Nat.reduceMod, Nat.reduceDiv, Nat.succ_ne_self, g, r29, g101, l101, a2, r28, g100, l100, a3, r19, k93, n93, l93, ek, b1, n33, r34, g5, l5, b3, ez, nn_mxT, nn_clamp]
/-- the first point of an else -/
def obF (h : mh_H) (p q : Nat) : Prop := ∃ k z1 b z2, p + 1 ≤ q ∧ q < 250 ∧ mh_i h 100 p = Int32.ofNat k ∧ k + 1 < 26000 ∧ mh_i h 97 (k + 1) = Int32.ofNat z1 ∧ k + 1 + z1 = b ∧ b < 26000 ∧ mh_i h 97 b = Int32.ofNat z2 ∧ (∀ j, p + 1 ≤ j → j ≤ q → ∃ kj wj, mh_i h 100 j = Int32.ofNat kj ∧ kj < 26000 ∧ mh_i h 96 kj = wj ∧ ((mh_i h 101 j = Int32.ofNat p ∧ wj = Int32.ofNat (b + z2)) ↔ j = q))
theorem c_365 (F : RF h) (hp : p < 250) (w : obF h p q) : ∀ Q, mcall (d + 2) 365 [.ref 81, .int (Int32.ofNat p)] h Q = Q (some (.int (Int32.ofNat q))) h := by
  obtain ⟨k, z1, b, z2, a1, a2, a3, a4, a5, a6, a7, a8, a9⟩ := w
  have g := F.g 81 14 70 (by decide +kernel)
  have r28 := F.f 81 28 100 (by decide +kernel)
  have g100 := F.g 100 100 250 (by decide +kernel)
  have l100 := F.l 100 100 250 (by decide +kernel)
  have r29 := F.f 81 29 101 (by decide +kernel)
  have g101 := F.g 101 100 250 (by decide +kernel)
  have l101 := F.l 101 100 250 (by decide +kernel)
  have r22 := F.f 81 22 96 (by decide +kernel)
  have g96 := F.g 96 100 26000 (by decide +kernel)
  have l96 := F.l 96 100 26000 (by decide +kernel)
  have c334 := c_334 (d := d) (k := k) F a4 a5
  rw [a6] at c334
  have c333 := c_333 (d := d + 1) F a7 a8
  have lp : ∀ m j, j + m = q → p + 1 ≤ j → ∀ Q, mw (d + 2) 365 Q 19 [some (.ref 81), some (.int (Int32.ofNat p)), some (.int (Int32.ofNat (b + z2))), some (.int (Int32.ofNat j))] [] h = Q (some (.int (Int32.ofNat q))) h := by
    intro m
    induction m with
    | zero =>
      intro j hj hj2 Q
      have hj' : j = q := by omega
      subst hj'
      obtain ⟨kj, wj, e1, e2, e3, e4⟩ := a9 j (by omega) (by omega)
      obtain ⟨e5, e6⟩ := e4.mpr rfl
      have t1 : ((Int32.ofNat p) = Int32.ofNat p) = True := eq_true rfl
      have t2 : ((Int32.ofNat (b + z2)) = Int32.ofNat (b + z2)) = True := eq_true rfl
      subst e6
      clear F a9 e4
      simp (disch := omega) only [s_365_0, s_365_1, s_365_2, s_365_3, s_365_6, s_365_7, s_365_8, s_365_11, s_365_14, s_365_15, s_365_16, s_365_17, s_365_18, s_365_19, s_365_20, s_365_23, s_365_24, s_365_25, s_365_26, s_365_29, s_365_30, s_365_33, s_365_34, s_365_37, s_365_38, s_365_39, s_365_40, s_365_41, s_365_44, s_365_47, s_365_50, s_365_51, e_365, mv_i_1, mv_l_1, mv_a_1, mv_a_2, mv_a_3, mk2_n, mk2_i, mk2_l, mk2_a, mk2_u, mk2_x, mB_T, mB_F, mS_cons, mS_nil, mSB_T, mSB_F, mca_nil, mca_i, mca_l, mca_r, mca_u, mca_x, mcat_i, mcat_l, mcat_r, mcat_u, mcat_x, mK_some, mK_none, va_rf_s, va_rf_n, lgc_eq, lgc_lt, lgc_gt, lgc_ge, lgc_le, mrd_104, mrd_105, mrd_106, mrd_107, true_and, and_true, and_self, false_and, and_false, true_or, or_true, false_or, or_false, not_true_eq_false, not_false_eq_true, mgb, mga, mgr, mN, reduceCtorEq, ↓reduceIte, eq_self, ge_iff_le, gt_iff_lt, hk_si, hk_sj, hk_sr, hl_si, hl_sj, hl_sr, hn_si, hn_sj, hn_sr, hs_si, hs_sj, hs_sr, hi_sj, hi_sr, hj_si, hj_sr, hr_si, hr_sj, hi_si, hj_sj, hr_sr, mg_si, mg_sj, mg_sr, Nat.reduceAdd, Nat.reduceMul, Nat.reduceSub, Nat.reduceLT, Nat.reduceGT, Nat.reduceEqDiff, Nat.reduceLeDiff, Nat.left_eq_add, Nat.add_eq_left, Nat.reduceMod, Nat.reduceDiv, Nat.succ_ne_self, g, r29, g101, l101, e5, t1, r22, r28, g100, l100, e1, g96, l96, e3, t2, nn_mxT, nn_clamp]
    | succ m ih =>
      intro j hj hj2 Q
      obtain ⟨kj, wj, e1, e2, e3, e4⟩ := a9 j (by omega) (by omega)
      have ne : ¬ (mh_i h 101 j = Int32.ofNat p ∧ wj = Int32.ofNat (b + z2)) := fun z => by have := e4.mp z; omega
      have ei : Int32.ofNat j + 1 = Int32.ofNat (j + 1) := nn_add (a := j) (b := 1)
      rw [← ih (j + 1) (by omega) (by omega) Q]
      clear F a9 e4 ih
      rw [s_365_19]
      rcases Classical.propComplete (mh_i h 101 j = Int32.ofNat p) with t1 | t1
      · have t2 : (wj = Int32.ofNat (b + z2)) = False := eq_false (fun z => ne ⟨of_eq_true t1, z⟩)
        simp (disch := omega) only [s_365_0, s_365_1, s_365_2, s_365_3, s_365_6, s_365_7, s_365_8, s_365_11, s_365_14, s_365_15, s_365_16, s_365_17, s_365_18, s_365_20, s_365_23, s_365_24, s_365_25, s_365_26, s_365_29, s_365_30, s_365_33, s_365_34, s_365_37, s_365_38, s_365_39, s_365_40, s_365_41, s_365_44, s_365_47, s_365_50, s_365_51, e_365, mv_i_1, mv_l_1, mv_a_1, mv_a_2, mv_a_3, mk2_n, mk2_i, mk2_l, mk2_a, mk2_u, mk2_x, mB_T, mB_F, mS_cons, mS_nil, mSB_T, mSB_F, mca_nil, mca_i, mca_l, mca_r, mca_u, mca_x, mcat_i, mcat_l, mcat_r, mcat_u, mcat_x, mK_some, mK_none, va_rf_s, va_rf_n, lgc_eq, lgc_lt, lgc_gt, lgc_ge, lgc_le, mrd_104, mrd_105, mrd_106, mrd_107, true_and, and_true, and_self, false_and, and_false, true_or, or_true, false_or, or_false, not_true_eq_false, not_false_eq_true, mgb, mga, mgr, mN, reduceCtorEq, ↓reduceIte, eq_self, ge_iff_le, gt_iff_lt, hk_si, hk_sj, hk_sr, hl_si, hl_sj, hl_sr, hn_si, hn_sj, hn_sr, hs_si, hs_sj, hs_sr, hi_sj, hi_sr, hj_si, hj_sr, hr_si, hr_sj, hi_si, hj_sj, hr_sr, mg_si, mg_sj, mg_sr, Nat.reduceAdd, Nat.reduceMul, Nat.reduceSub, Nat.reduceLT, Nat.reduceGT, Nat.reduceEqDiff, Nat.reduceLeDiff, Nat.left_eq_add, Nat.add_eq_left, Nat.reduceMod, Nat.reduceDiv, Nat.succ_ne_self, g, r29, g101, l101, t1, r22, r28, g100, l100, e1, g96, l96, e3, t2, ei, nn_mxT, nn_clamp]
      · simp (disch := omega) only [s_365_0, s_365_1, s_365_2, s_365_3, s_365_6, s_365_7, s_365_8, s_365_11, s_365_14, s_365_15, s_365_16, s_365_17, s_365_18, s_365_20, s_365_23, s_365_24, s_365_25, s_365_26, s_365_29, s_365_30, s_365_33, s_365_34, s_365_37, s_365_38, s_365_39, s_365_40, s_365_41, s_365_44, s_365_47, s_365_50, s_365_51, e_365, mv_i_1, mv_l_1, mv_a_1, mv_a_2, mv_a_3, mk2_n, mk2_i, mk2_l, mk2_a, mk2_u, mk2_x, mB_T, mB_F, mS_cons, mS_nil, mSB_T, mSB_F, mca_nil, mca_i, mca_l, mca_r, mca_u, mca_x, mcat_i, mcat_l, mcat_r, mcat_u, mcat_x, mK_some, mK_none, va_rf_s, va_rf_n, lgc_eq, lgc_lt, lgc_gt, lgc_ge, lgc_le, mrd_104, mrd_105, mrd_106, mrd_107, true_and, and_true, and_self, false_and, and_false, true_or, or_true, false_or, or_false, not_true_eq_false, not_false_eq_true, mgb, mga, mgr, mN, reduceCtorEq, ↓reduceIte, eq_self, ge_iff_le, gt_iff_lt, hk_si, hk_sj, hk_sr, hl_si, hl_sj, hl_sr, hn_si, hn_sj, hn_sr, hs_si, hs_sj, hs_sr, hi_sj, hi_sr, hj_si, hj_sr, hr_si, hr_sj, hi_si, hj_sj, hr_sr, mg_si, mg_sj, mg_sr, Nat.reduceAdd, Nat.reduceMul, Nat.reduceSub, Nat.reduceLT, Nat.reduceGT, Nat.reduceEqDiff, Nat.reduceLeDiff, Nat.left_eq_add, Nat.add_eq_left, Nat.reduceMod, Nat.reduceDiv, Nat.succ_ne_self, g, r29, g101, l101, t1, ei, nn_mxT, nn_clamp]
  intro Q
  have ei : Int32.ofNat p + 1 = Int32.ofNat (p + 1) := nn_add (a := p) (b := 1)
  rw [← lp (q - (p + 1)) (p + 1) (by omega) (by omega) Q]
  clear F a9 lp
  simp (disch := omega) only [s_365_0, s_365_1, s_365_2, s_365_3, s_365_6, s_365_7, s_365_8, s_365_11, s_365_14, s_365_15, s_365_16, s_365_17, s_365_18, s_365_20, s_365_23, s_365_24, s_365_25, s_365_26, s_365_29, s_365_30, s_365_33, s_365_34, s_365_37, s_365_38, s_365_39, s_365_40, s_365_41, s_365_44, s_365_47, s_365_50, s_365_51, e_365, mv_i_1, mv_l_1, mv_a_1, mv_a_2, mv_a_3, mk2_n, mk2_i, mk2_l, mk2_a, mk2_u, mk2_x, mB_T, mB_F, mS_cons, mS_nil, mSB_T, mSB_F, mca_nil, mca_i, mca_l, mca_r, mca_u, mca_x, mcat_i, mcat_l, mcat_r, mcat_u, mcat_x, mK_some, mK_none, va_rf_s, va_rf_n, lgc_eq, lgc_lt, lgc_gt, lgc_ge, lgc_le, mrd_104, mrd_105, mrd_106, mrd_107, true_and, and_true, and_self, false_and, and_false, true_or, or_true, false_or, or_false, not_true_eq_false, not_false_eq_true, mgb, mga, mgr, mN, reduceCtorEq, ↓reduceIte, eq_self, ge_iff_le, gt_iff_lt, hk_si, hk_sj, hk_sr, hl_si, hl_sj, hl_sr, hn_si, hn_sj, hn_sr, hs_si, hs_sj, hs_sr, hi_sj, hi_sr, hj_si, hj_sr, hr_si, hr_sj, hi_si, hj_sj, hr_sr, mg_si, mg_sj, mg_sr, Nat.reduceAdd, Nat.reduceMul, Nat.reduceSub, Nat.reduceLT, Nat.reduceGT, Nat.reduceEqDiff, Nat.reduceLeDiff, Nat.left_eq_add, Nat.add_eq_left, Nat.reduceMod, Nat.reduceDiv, Nat.succ_ne_self, g, r28, g100, l100, a3, c334, c333, ei, nn_mxT, nn_clamp]
end AFs
