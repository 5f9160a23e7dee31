set_option maxRecDepth 100000
/-! THE REFERENCE'S show -/
section RLo
variable {d : Nat} {h0 h h1 : mh_H} {L : List Int32} {v : Int32} {p N A' o : Nat} {nm am : Nat → List Int32} {A : ab}
/-- the Known that is shown -/
def KnL (h0 : mh_H) (o : Nat) (A : ab) : Prop := RK h0 o (some A) ∧ ab_T A ∧ 83 ≤ o ∧ o + 4 < 2637
theorem Kn_l (f : fG lrW h0 h) (S : KnL h0 o A) : RK h o (some A) := RK_fz (fG_z f) (fun y hy j z => by have := S.2.2; unfold lrW at z; omega) S.1
/-- two -/
theorem w_389 (M : NMr h0 p nm am N A') (S : KnL h0 o A) (hN : A.n = N) {i j : Nat} (hi : i < 2 * N) (hj : j < 2 * N) (H : LNr h0 h L) (hL : L.length + 81 ≤ 24000) : ∃ h', LNr h0 h' (gPr nm A i j L) ∧ ∀ Q, mcall (d + 6) 389 [.ref 81, .ref o, .int (Int32.ofNat p), .int (Int32.ofNat i), .int (Int32.ofNat j)] h Q = Q none h' := by
  have nn := M.n
  have pp := M.p
  have F := M.F
  have r := Kn_l H.f S
  have gK : mg h o 13 := r.1.1
  have oT := S.2.1.2.2.1
  obtain ⟨y1, ey1, g1⟩ := k_282 (d := d + 4) (i := i) (j := j) r oT (by omega) (by omega)
  obtain ⟨y2, ey2, g2⟩ := k_282 (d := d + 4) (i := i) (j := i) r oT (by omega) (by omega)
  obtain ⟨y3, ey3, g3⟩ := k_282 (d := d + 4) (i := j) (j := j) r oT (by omega) (by omega)
  have b1 := gr_b S.2.1 (v := i) (w := j) (by omega) (by omega)
  have b2 := gr_b S.2.1 (v := i) (w := i) (by omega) (by omega)
  have b3 := gr_b S.2.1 (v := j) (w := j) (by omega) (by omega)
  have es : (y2 + y3).toInt = a_gr A i i + a_gr A j j := by rw [Int64.toInt_add, ey2, ey3, Int.bmod_eq_of_le (by omega) (by omega)]
  have i2 : Int32.ofNat i / 2 = Int32.ofNat (i / 2) := nn_div (a := i) (c := 2) (by omega) (by omega)
  have j2 : Int32.ofNat j / 2 = Int32.ofNat (j / 2) := nn_div (a := j) (c := 2) (by omega) (by omega)
  have ir : Int32.ofNat i - Int32.ofNat (i / 2) * 2 = Int32.ofNat (i % 2) := by rw [← i2]; exact nn_rem (a := i) (c := 2) (by omega) (by omega)
  have jr : Int32.ofNat j - Int32.ofNat (j / 2) * 2 = Int32.ofNat (j % 2) := by rw [← j2]; exact nn_rem (a := j) (c := 2) (by omega) (by omega)
  have t2 : ((2 : Int32) = 0) = False := by decide
  have e12 : (12 : Int32) * Int32.ofNat p = Int32.ofNat (12 * p) := nn_mul (a := 12) (b := p)
  by_cases c : a_gr A i j < a_gr A i i + a_gr A j j
  · have lt : (y2 + y3 ≤ y1) = False := eq_false (by rw [Int64.le_iff_toInt_le, es, ey1]; omega)
    unfold gPr
    rw [if_pos c]
    obtain ⟨cl1, cl2⟩ := wCm_len L
    obtain ⟨k1, n0, n1, n2, n3⟩ := M.np (i / 2) (by omega)
    obtain ⟨k2, o0, o1, o2, o3⟩ := M.np (j / 2) (by omega)
    have z0 := (RF_G H.f F).g 81 14 70 (by decide +kernel)
    obtain ⟨h1, H1, r1⟩ := w_386 (d := d) F H (by omega)
    have A1 : ∃ h2, LNr h0 h2 (wCm L ++ (if i % 2 = 1 then [45] else [])) ∧ ∀ Q, mw (d + 6) 389 Q 30 [some (.ref 81), some (.ref o), some (.int (Int32.ofNat p)), some (.int (Int32.ofNat i)), some (.int (Int32.ofNat j))] [] h1 = mw (d + 6) 389 Q 43 [some (.ref 81), some (.ref o), some (.int (Int32.ofNat p)), some (.int (Int32.ofNat i)), some (.int (Int32.ofNat j))] [] h2 := by
      have z1 := (RF_G H1.f F).g 81 14 70 (by decide +kernel)
      by_cases ci : i % 2 = 1
      · obtain ⟨h2, H2, r2⟩ := w_385 (d := d + 5) (v := 45) F H1 (by omega)
        rw [if_pos ci]
        refine ⟨h2, H2, fun Q => ?_⟩
        have e : (Int32.ofNat (i % 2) = 1) = True := by rw [ci]; decide
        clear H H1 H2 M S r F
        simp (disch := omega) only [s_389_0, s_389_1, s_389_2, s_389_4, s_389_7, s_389_8, s_389_9, s_389_10, s_389_13, s_389_14, s_389_16, s_389_18, s_389_21, s_389_22, s_389_23, s_389_26, s_389_27, s_389_30, s_389_31, s_389_32, s_389_33, s_389_34, s_389_37, s_389_38, s_389_40, s_389_44, s_389_45, s_389_48, s_389_50, s_389_51, s_389_52, s_389_53, s_389_54, s_389_55, s_389_56, s_389_56x, s_389_57, s_389_60, s_389_61, s_389_63, s_389_64, s_389_65, s_389_68, s_389_71, s_389_74, s_389_77, s_389_80, s_389_81, s_389_82, s_389_85, s_389_87, s_389_88, s_389_89, s_389_91, s_389_92, s_389_93, s_389_94, s_389_94x, s_389_95, s_389_98, s_389_99, s_389_102, s_389_105, s_389_106, s_389_107, s_389_108, s_389_110, s_389_113, s_389_116, e_389, mv_i_1, mv_l_1, mv_a_1, mv_a_2, mv_a_3, mk2_n, mk2_i, mk2_l, mk2_a, mk2_u, mk2_x, mB_T, mB_F, mS_cons, mS_nil, mSB_T, mSB_F, mca_nil, mca_i, mca_l, mca_r, mca_u, mca_x, mcat_i, mcat_l, mcat_r, mcat_u, mcat_x, mK_some, mK_none, va_rf_s, va_rf_n, lgc_eq, lgc_lt, lgc_gt, lgc_ge, lgc_le, mrd_104, mrd_105, mrd_106, mrd_107, true_and, and_true, and_self, false_and, and_false, true_or, or_true, false_or, or_false, not_true_eq_false, not_false_eq_true, mgb, mga, mgr, mN, reduceCtorEq, ↓reduceIte, eq_self, ge_iff_le, gt_iff_lt, hk_si, hk_sj, hk_sr, hl_si, hl_sj, hl_sr, hn_si, hn_sj, hn_sr, hs_si, hs_sj, hs_sr, hi_sj, hi_sr, hj_si, hj_sr, hr_si, hr_sj, hi_si, hj_sj, hr_sr, mg_si, mg_sj, mg_sr, Nat.reduceAdd, Nat.reduceMul, Nat.reduceSub, Nat.reduceLT, Nat.reduceGT, Nat.reduceEqDiff, Nat.reduceLeDiff, Nat.left_eq_add, Nat.add_eq_left, Nat.reduceMod, Nat.reduceDiv, Nat.succ_ne_self, i2, ir, t2, e, z1, r2]
      · rw [if_neg ci, List.append_nil]
        refine ⟨h1, H1, fun Q => ?_⟩
        have ci' : i % 2 = 0 := by omega
        have e : (Int32.ofNat (i % 2) = 1) = False := by rw [ci']; decide
        clear H H1 M S r F
        simp (disch := omega) only [s_389_0, s_389_1, s_389_2, s_389_4, s_389_7, s_389_8, s_389_9, s_389_10, s_389_13, s_389_14, s_389_16, s_389_18, s_389_21, s_389_22, s_389_23, s_389_26, s_389_27, s_389_30, s_389_31, s_389_32, s_389_33, s_389_34, s_389_37, s_389_38, s_389_40, s_389_44, s_389_45, s_389_48, s_389_50, s_389_51, s_389_52, s_389_53, s_389_54, s_389_55, s_389_56, s_389_56x, s_389_57, s_389_60, s_389_61, s_389_63, s_389_64, s_389_65, s_389_68, s_389_71, s_389_74, s_389_77, s_389_80, s_389_81, s_389_82, s_389_85, s_389_87, s_389_88, s_389_89, s_389_91, s_389_92, s_389_93, s_389_94, s_389_94x, s_389_95, s_389_98, s_389_99, s_389_102, s_389_105, s_389_106, s_389_107, s_389_108, s_389_110, s_389_113, s_389_116, e_389, mv_i_1, mv_l_1, mv_a_1, mv_a_2, mv_a_3, mk2_n, mk2_i, mk2_l, mk2_a, mk2_u, mk2_x, mB_T, mB_F, mS_cons, mS_nil, mSB_T, mSB_F, mca_nil, mca_i, mca_l, mca_r, mca_u, mca_x, mcat_i, mcat_l, mcat_r, mcat_u, mcat_x, mK_some, mK_none, va_rf_s, va_rf_n, lgc_eq, lgc_lt, lgc_gt, lgc_ge, lgc_le, mrd_104, mrd_105, mrd_106, mrd_107, true_and, and_true, and_self, false_and, and_false, true_or, or_true, false_or, or_false, not_true_eq_false, not_false_eq_true, mgb, mga, mgr, mN, reduceCtorEq, ↓reduceIte, eq_self, ge_iff_le, gt_iff_lt, hk_si, hk_sj, hk_sr, hl_si, hl_sj, hl_sr, hn_si, hn_sj, hn_sr, hs_si, hs_sj, hs_sr, hi_sj, hi_sr, hj_si, hj_sr, hr_si, hr_sj, hi_si, hj_sj, hr_sr, mg_si, mg_sj, mg_sr, Nat.reduceAdd, Nat.reduceMul, Nat.reduceSub, Nat.reduceLT, Nat.reduceGT, Nat.reduceEqDiff, Nat.reduceLeDiff, Nat.left_eq_add, Nat.add_eq_left, Nat.reduceMod, Nat.reduceDiv, Nat.succ_ne_self, i2, ir, t2, e]
    obtain ⟨h2, H2, r2⟩ := A1
    have s1 : (if i % 2 = 1 then [(45 : Int32)] else []).length ≤ 1 := by split <;> decide
    have F2 := RF_G H2.f F
    have u81 := F2.g 81 14 70 (by decide +kernel)
    have u50 := F2.f 81 50 113 (by decide +kernel)
    have u113 := F2.g 113 100 3000 (by decide +kernel)
    have ul := F2.l 113 100 3000 (by decide +kernel)
    have ui : mh_i h2 113 (12 * p + i / 2) = Int32.ofNat k1 := by rw [fG_i H2.f (by unfold lrW; omega)]; exact n1
    obtain ⟨h3, H3, r3⟩ := w_387 (d := d + 4) F n2 H2 (by rw [List.length_append]; omega)
    have A2 : ∃ h4, LNr h0 h4 (wCm L ++ (if i % 2 = 1 then [45] else []) ++ nm (i / 2) ++ (if j % 2 = 1 then [32, 45, 32] else [32, 43, 32])) ∧ ∀ Q, mw (d + 6) 389 Q 60 [some (.ref 81), some (.ref o), some (.int (Int32.ofNat p)), some (.int (Int32.ofNat i)), some (.int (Int32.ofNat j))] [] h3 = mw (d + 6) 389 Q 80 [some (.ref 81), some (.ref o), some (.int (Int32.ofNat p)), some (.int (Int32.ofNat i)), some (.int (Int32.ofNat j))] [] h4 := by
      have z3 := (RF_G H3.f F).g 81 14 70 (by decide +kernel)
      by_cases cj : j % 2 = 1
      · have l2 : xL 28 = 3 := by decide +kernel
        obtain ⟨h4, H4, r4⟩ := w_384 (d := d + 1) F (j := 28) (by decide) H3 (by simp only [List.length_append]; omega)
        rw [xW_ref.2.2.1] at H4
        rw [if_pos cj]
        refine ⟨h4, H4, fun Q => ?_⟩
        have r4' : ∀ Q, mcall (d + 5) 384 [.ref 81, .retAddr 87] h3 Q = Q none h4 := r4
        have e : (Int32.ofNat (j % 2) = 0) = False := by rw [cj]; decide
        clear H H1 H2 H3 H4 M S r F F2 r4
        simp (disch := omega) only [s_389_0, s_389_1, s_389_2, s_389_4, s_389_7, s_389_8, s_389_9, s_389_10, s_389_13, s_389_14, s_389_16, s_389_18, s_389_21, s_389_22, s_389_23, s_389_26, s_389_27, s_389_30, s_389_31, s_389_32, s_389_33, s_389_34, s_389_37, s_389_38, s_389_40, s_389_43, s_389_44, s_389_45, s_389_48, s_389_50, s_389_51, s_389_52, s_389_53, s_389_54, s_389_55, s_389_56, s_389_56x, s_389_57, s_389_60, s_389_61, s_389_63, s_389_64, s_389_65, s_389_68, s_389_71, s_389_74, s_389_77, s_389_81, s_389_82, s_389_85, s_389_87, s_389_88, s_389_89, s_389_91, s_389_92, s_389_93, s_389_94, s_389_94x, s_389_95, s_389_98, s_389_99, s_389_102, s_389_105, s_389_106, s_389_107, s_389_108, s_389_110, s_389_113, s_389_116, e_389, mv_i_1, mv_l_1, mv_a_1, mv_a_2, mv_a_3, mk2_n, mk2_i, mk2_l, mk2_a, mk2_u, mk2_x, mB_T, mB_F, mS_cons, mS_nil, mSB_T, mSB_F, mca_nil, mca_i, mca_l, mca_r, mca_u, mca_x, mcat_i, mcat_l, mcat_r, mcat_u, mcat_x, mK_some, mK_none, va_rf_s, va_rf_n, lgc_eq, lgc_lt, lgc_gt, lgc_ge, lgc_le, mrd_104, mrd_105, mrd_106, mrd_107, true_and, and_true, and_self, false_and, and_false, true_or, or_true, false_or, or_false, not_true_eq_false, not_false_eq_true, mgb, mga, mgr, mN, reduceCtorEq, ↓reduceIte, eq_self, ge_iff_le, gt_iff_lt, hk_si, hk_sj, hk_sr, hl_si, hl_sj, hl_sr, hn_si, hn_sj, hn_sr, hs_si, hs_sj, hs_sr, hi_sj, hi_sr, hj_si, hj_sr, hr_si, hr_sj, hi_si, hj_sj, hr_sr, mg_si, mg_sj, mg_sr, Nat.reduceAdd, Nat.reduceMul, Nat.reduceSub, Nat.reduceLT, Nat.reduceGT, Nat.reduceEqDiff, Nat.reduceLeDiff, Nat.left_eq_add, Nat.add_eq_left, Nat.reduceMod, Nat.reduceDiv, Nat.succ_ne_self, j2, jr, t2, e, z3, r4']
      · have l3 : xL 27 = 3 := by decide +kernel
        obtain ⟨h4, H4, r4⟩ := w_384 (d := d + 1) F (j := 27) (by decide) H3 (by simp only [List.length_append]; omega)
        rw [xW_ref.2.1] at H4
        rw [if_neg cj]
        refine ⟨h4, H4, fun Q => ?_⟩
        have r4' : ∀ Q, mcall (d + 5) 384 [.ref 81, .retAddr 84] h3 Q = Q none h4 := r4
        have cj' : j % 2 = 0 := by omega
        have e : (Int32.ofNat (j % 2) = 0) = True := by rw [cj']; decide
        clear H H1 H2 H3 H4 M S r F F2 r4
        simp (disch := omega) only [s_389_0, s_389_1, s_389_2, s_389_4, s_389_7, s_389_8, s_389_9, s_389_10, s_389_13, s_389_14, s_389_16, s_389_18, s_389_21, s_389_22, s_389_23, s_389_26, s_389_27, s_389_30, s_389_31, s_389_32, s_389_33, s_389_34, s_389_37, s_389_38, s_389_40, s_389_43, s_389_44, s_389_45, s_389_48, s_389_50, s_389_51, s_389_52, s_389_53, s_389_54, s_389_55, s_389_56, s_389_56x, s_389_57, s_389_60, s_389_61, s_389_63, s_389_64, s_389_65, s_389_68, s_389_71, s_389_74, s_389_77, s_389_81, s_389_82, s_389_85, s_389_87, s_389_88, s_389_89, s_389_91, s_389_92, s_389_93, s_389_94, s_389_94x, s_389_95, s_389_98, s_389_99, s_389_102, s_389_105, s_389_106, s_389_107, s_389_108, s_389_110, s_389_113, s_389_116, e_389, mv_i_1, mv_l_1, mv_a_1, mv_a_2, mv_a_3, mk2_n, mk2_i, mk2_l, mk2_a, mk2_u, mk2_x, mB_T, mB_F, mS_cons, mS_nil, mSB_T, mSB_F, mca_nil, mca_i, mca_l, mca_r, mca_u, mca_x, mcat_i, mcat_l, mcat_r, mcat_u, mcat_x, mK_some, mK_none, va_rf_s, va_rf_n, lgc_eq, lgc_lt, lgc_gt, lgc_ge, lgc_le, mrd_104, mrd_105, mrd_106, mrd_107, true_and, and_true, and_self, false_and, and_false, true_or, or_true, false_or, or_false, not_true_eq_false, not_false_eq_true, mgb, mga, mgr, mN, reduceCtorEq, ↓reduceIte, eq_self, ge_iff_le, gt_iff_lt, hk_si, hk_sj, hk_sr, hl_si, hl_sj, hl_sr, hn_si, hn_sj, hn_sr, hs_si, hs_sj, hs_sr, hi_sj, hi_sr, hj_si, hj_sr, hr_si, hr_sj, hi_si, hj_sj, hr_sr, mg_si, mg_sj, mg_sr, Nat.reduceAdd, Nat.reduceMul, Nat.reduceSub, Nat.reduceLT, Nat.reduceGT, Nat.reduceEqDiff, Nat.reduceLeDiff, Nat.left_eq_add, Nat.add_eq_left, Nat.reduceMod, Nat.reduceDiv, Nat.succ_ne_self, j2, jr, t2, e, z3, r4']
    obtain ⟨h4, H4, r4⟩ := A2
    have s2 : (if j % 2 = 1 then [(32 : Int32), 45, 32] else [32, 43, 32]).length = 3 := by split <;> rfl
    have F4 := RF_G H4.f F
    have v81 := F4.g 81 14 70 (by decide +kernel)
    have v50 := F4.f 81 50 113 (by decide +kernel)
    have v113 := F4.g 113 100 3000 (by decide +kernel)
    have vl := F4.l 113 100 3000 (by decide +kernel)
    have vi : mh_i h4 113 (12 * p + j / 2) = Int32.ofNat k2 := by rw [fG_i H4.f (by unfold lrW; omega)]; exact o1
    obtain ⟨h5, H5, r5⟩ := w_387 (d := d + 4) F o2 H4 (by simp only [List.length_append, s2]; omega)
    have l4 : xL 29 = 4 := by decide +kernel
    obtain ⟨h6, H6, r6⟩ := w_384 (d := d + 1) F (j := 29) (by decide) H5 (by simp only [List.length_append, s2]; omega)
    rw [xW_ref.2.2.2.1] at H6
    have r' := Kn_l H6.f S
    obtain ⟨y4, ey4, g4⟩ := k_282 (d := d + 4) (i := i) (j := j) r' oT (by omega) (by omega)
    have gK6 : mg h6 o 13 := r'.1.1
    obtain ⟨h7, H7, r7⟩ := w_388 (d := d + 4) (v := y4) F (by omega) H6 (by simp only [List.length_append, List.length_cons, List.length_nil, s2]; omega)
    rw [ey4] at H7
    refine ⟨h7, H7, fun Q => ?_⟩
    have r6' : ∀ Q, mcall (d + 5) 384 [.ref 81, .retAddr 90] h5 Q = Q none h6 := r6
    have z5 := (RF_G H5.f F).g 81 14 70 (by decide +kernel)
    have z6 := (RF_G H6.f F).g 81 14 70 (by decide +kernel)
    clear H H1 H2 H3 H4 H5 H6 H7 M S r r' r6 F F2 F4 n2 o2
    simp (disch := omega) only [e_389, s_389_0, s_389_1, s_389_2, s_389_4, s_389_7, s_389_8, s_389_9, s_389_10, s_389_13, s_389_14, s_389_16, s_389_18, s_389_21, s_389_22, s_389_23, s_389_26, s_389_27, s_389_31, s_389_32, s_389_33, s_389_34, s_389_37, s_389_38, s_389_40, s_389_44, s_389_45, s_389_48, s_389_50, s_389_51, s_389_52, s_389_53, s_389_54, s_389_55, s_389_56, s_389_56x, s_389_57, s_389_61, s_389_63, s_389_64, s_389_65, s_389_68, s_389_71, s_389_74, s_389_77, s_389_81, s_389_82, s_389_85, s_389_87, s_389_88, s_389_89, s_389_91, s_389_92, s_389_93, s_389_94, s_389_94x, s_389_95, s_389_98, s_389_99, s_389_102, s_389_105, s_389_106, s_389_107, s_389_108, s_389_110, s_389_113, s_389_116, e_389, mv_i_1, mv_l_1, mv_a_1, mv_a_2, mv_a_3, mk2_n, mk2_i, mk2_l, mk2_a, mk2_u, mk2_x, mB_T, mB_F, mS_cons, mS_nil, mSB_T, mSB_F, mca_nil, mca_i, mca_l, mca_r, mca_u, mca_x, mcat_i, mcat_l, mcat_r, mcat_u, mcat_x, mK_some, mK_none, va_rf_s, va_rf_n, lgc_eq, lgc_lt, lgc_gt, lgc_ge, lgc_le, mrd_104, mrd_105, mrd_106, mrd_107, true_and, and_true, and_self, false_and, and_false, true_or, or_true, false_or, or_false, not_true_eq_false, not_false_eq_true, mgb, mga, mgr, mN, reduceCtorEq, ↓reduceIte, eq_self, ge_iff_le, gt_iff_lt, hk_si, hk_sj, hk_sr, hl_si, hl_sj, hl_sr, hn_si, hn_sj, hn_sr, hs_si, hs_sj, hs_sr, hi_sj, hi_sr, hj_si, hj_sr, hr_si, hr_sj, hi_si, hj_sj, hr_sr, mg_si, mg_sj, mg_sr, Nat.reduceAdd, Nat.reduceMul, Nat.reduceSub, Nat.reduceLT, Nat.reduceGT, Nat.reduceEqDiff, Nat.reduceLeDiff, Nat.left_eq_add, Nat.add_eq_left, Nat.reduceMod, Nat.reduceDiv, Nat.succ_ne_self, gK, g1, g2, g3, lt, z0, r1, r2]
    rw [s_389_43]
    simp (disch := omega) only [s_389_0, s_389_1, s_389_2, s_389_4, s_389_7, s_389_8, s_389_9, s_389_10, s_389_13, s_389_14, s_389_16, s_389_18, s_389_21, s_389_22, s_389_23, s_389_26, s_389_27, s_389_31, s_389_32, s_389_33, s_389_34, s_389_37, s_389_38, s_389_40, s_389_44, s_389_45, s_389_48, s_389_50, s_389_51, s_389_52, s_389_53, s_389_54, s_389_55, s_389_56, s_389_56x, s_389_57, s_389_61, s_389_63, s_389_64, s_389_65, s_389_68, s_389_71, s_389_74, s_389_77, s_389_81, s_389_82, s_389_85, s_389_87, s_389_88, s_389_89, s_389_91, s_389_92, s_389_93, s_389_94, s_389_94x, s_389_95, s_389_98, s_389_99, s_389_102, s_389_105, s_389_106, s_389_107, s_389_108, s_389_110, s_389_113, s_389_116, e_389, mv_i_1, mv_l_1, mv_a_1, mv_a_2, mv_a_3, mk2_n, mk2_i, mk2_l, mk2_a, mk2_u, mk2_x, mB_T, mB_F, mS_cons, mS_nil, mSB_T, mSB_F, mca_nil, mca_i, mca_l, mca_r, mca_u, mca_x, mcat_i, mcat_l, mcat_r, mcat_u, mcat_x, mK_some, mK_none, va_rf_s, va_rf_n, lgc_eq, lgc_lt, lgc_gt, lgc_ge, lgc_le, mrd_104, mrd_105, mrd_106, mrd_107, true_and, and_true, and_self, false_and, and_false, true_or, or_true, false_or, or_false, not_true_eq_false, not_false_eq_true, mgb, mga, mgr, mN, reduceCtorEq, ↓reduceIte, eq_self, ge_iff_le, gt_iff_lt, hk_si, hk_sj, hk_sr, hl_si, hl_sj, hl_sr, hn_si, hn_sj, hn_sr, hs_si, hs_sj, hs_sr, hi_sj, hi_sr, hj_si, hj_sr, hr_si, hr_sj, hi_si, hj_sj, hr_sr, mg_si, mg_sj, mg_sr, Nat.reduceAdd, Nat.reduceMul, Nat.reduceSub, Nat.reduceLT, Nat.reduceGT, Nat.reduceEqDiff, Nat.reduceLeDiff, Nat.left_eq_add, Nat.add_eq_left, Nat.reduceMod, Nat.reduceDiv, Nat.succ_ne_self, u81, u50, u113, ul, e12, i2, t2, nn_add, nn_mxT, nn_clamp, ui, r3, r4]
    rw [s_389_80]
    simp (disch := omega) only [s_389_0, s_389_1, s_389_2, s_389_4, s_389_7, s_389_8, s_389_9, s_389_10, s_389_13, s_389_14, s_389_16, s_389_18, s_389_21, s_389_22, s_389_23, s_389_26, s_389_27, s_389_31, s_389_32, s_389_33, s_389_34, s_389_37, s_389_38, s_389_40, s_389_44, s_389_45, s_389_48, s_389_50, s_389_51, s_389_52, s_389_53, s_389_54, s_389_55, s_389_56, s_389_56x, s_389_57, s_389_61, s_389_63, s_389_64, s_389_65, s_389_68, s_389_71, s_389_74, s_389_77, s_389_81, s_389_82, s_389_85, s_389_87, s_389_88, s_389_89, s_389_91, s_389_92, s_389_93, s_389_94, s_389_94x, s_389_95, s_389_98, s_389_99, s_389_102, s_389_105, s_389_106, s_389_107, s_389_108, s_389_110, s_389_113, s_389_116, e_389, mv_i_1, mv_l_1, mv_a_1, mv_a_2, mv_a_3, mk2_n, mk2_i, mk2_l, mk2_a, mk2_u, mk2_x, mB_T, mB_F, mS_cons, mS_nil, mSB_T, mSB_F, mca_nil, mca_i, mca_l, mca_r, mca_u, mca_x, mcat_i, mcat_l, mcat_r, mcat_u, mcat_x, mK_some, mK_none, va_rf_s, va_rf_n, lgc_eq, lgc_lt, lgc_gt, lgc_ge, lgc_le, mrd_104, mrd_105, mrd_106, mrd_107, true_and, and_true, and_self, false_and, and_false, true_or, or_true, false_or, or_false, not_true_eq_false, not_false_eq_true, mgb, mga, mgr, mN, reduceCtorEq, ↓reduceIte, eq_self, ge_iff_le, gt_iff_lt, hk_si, hk_sj, hk_sr, hl_si, hl_sj, hl_sr, hn_si, hn_sj, hn_sr, hs_si, hs_sj, hs_sr, hi_sj, hi_sr, hj_si, hj_sr, hr_si, hr_sj, hi_si, hj_sj, hr_sr, mg_si, mg_sj, mg_sr, Nat.reduceAdd, Nat.reduceMul, Nat.reduceSub, Nat.reduceLT, Nat.reduceGT, Nat.reduceEqDiff, Nat.reduceLeDiff, Nat.left_eq_add, Nat.add_eq_left, Nat.reduceMod, Nat.reduceDiv, Nat.succ_ne_self, v81, v50, v113, vl, e12, j2, t2, nn_add, nn_mxT, nn_clamp, vi, r5, z5, r6', z6, gK6, g4, r7]
  · have lt : (y2 + y3 ≤ y1) = True := eq_true (by rw [Int64.le_iff_toInt_le, es, ey1]; omega)
    unfold gPr
    rw [if_neg c]
    refine ⟨h, H, fun Q => ?_⟩
    clear H M S r F
    simp (disch := omega) only [s_389_0, s_389_1, s_389_2, s_389_4, s_389_7, s_389_8, s_389_9, s_389_10, s_389_13, s_389_14, s_389_16, s_389_18, s_389_21, s_389_22, s_389_23, s_389_26, s_389_27, s_389_30, s_389_31, s_389_32, s_389_33, s_389_34, s_389_37, s_389_38, s_389_40, s_389_43, s_389_44, s_389_45, s_389_48, s_389_50, s_389_51, s_389_52, s_389_53, s_389_54, s_389_55, s_389_56, s_389_56x, s_389_57, s_389_60, s_389_61, s_389_63, s_389_64, s_389_65, s_389_68, s_389_71, s_389_74, s_389_77, s_389_80, s_389_81, s_389_82, s_389_85, s_389_87, s_389_88, s_389_89, s_389_91, s_389_92, s_389_93, s_389_94, s_389_94x, s_389_95, s_389_98, s_389_99, s_389_102, s_389_105, s_389_106, s_389_107, s_389_108, s_389_110, s_389_113, s_389_116, e_389, mv_i_1, mv_l_1, mv_a_1, mv_a_2, mv_a_3, mk2_n, mk2_i, mk2_l, mk2_a, mk2_u, mk2_x, mB_T, mB_F, mS_cons, mS_nil, mSB_T, mSB_F, mca_nil, mca_i, mca_l, mca_r, mca_u, mca_x, mcat_i, mcat_l, mcat_r, mcat_u, mcat_x, mK_some, mK_none, va_rf_s, va_rf_n, lgc_eq, lgc_lt, lgc_gt, lgc_ge, lgc_le, mrd_104, mrd_105, mrd_106, mrd_107, true_and, and_true, and_self, false_and, and_false, true_or, or_true, false_or, or_false, not_true_eq_false, not_false_eq_true, mgb, mga, mgr, mN, reduceCtorEq, ↓reduceIte, eq_self, ge_iff_le, gt_iff_lt, hk_si, hk_sj, hk_sr, hl_si, hl_sj, hl_sr, hn_si, hn_sj, hn_sr, hs_si, hs_sj, hs_sr, hi_sj, hi_sr, hj_si, hj_sr, hr_si, hr_sj, hi_si, hj_sj, hr_sr, mg_si, mg_sj, mg_sr, Nat.reduceAdd, Nat.reduceMul, Nat.reduceSub, Nat.reduceLT, Nat.reduceGT, Nat.reduceEqDiff, Nat.reduceLeDiff, Nat.left_eq_add, Nat.add_eq_left, Nat.reduceMod, Nat.reduceDiv, Nat.succ_ne_self, gK, g1, g2, g3, lt]
/-- numbers -/
theorem l_390a (M : NMr h0 p nm am N A') (S : KnL h0 o A) (hN : A.n = N) {b : Int32} {x5 : Option Value} : ∀ k x (L : List Int32) (h : mh_H), x + k = N → LNr h0 h L → L.length + 60 * k ≤ 24000 → ∃ h', LNr h0 h' (itr (gNm nm (fun x => -a_gr A (2 * x + 1) (2 * x + 1)) (fun x => a_gr A (2 * x) (2 * x))) k x L) ∧ ∀ Q, mw (d + 6) 390 Q 42 [some (.ref 81), some (.int b), some (.int (Int32.ofNat p)), some (.ref o), some (.int (Int32.ofNat x)), x5] [] h = mw (d + 6) 390 Q 113 [some (.ref 81), some (.int b), some (.int (Int32.ofNat p)), some (.ref o), some (.int (Int32.ofNat N)), x5] [] h' := by
  have e1' : ∀ k, Int32.ofNat k + 1 = Int32.ofNat (k + 1) := fun k => nn_add (a := k) (b := 1)
  have e12 : (12 : Int32) * Int32.ofNat p = Int32.ofNat (12 * p) := nn_mul (a := 12) (b := p)
  have nn := M.n
  have pp := M.p
  have F := M.F
  have row : ∀ (L : List Int32) (h : mh_H), LNr h0 h L → mg h 81 14 ∧ mh_r h 81 31 = some 103 ∧ mg h 103 100 ∧ mh_l h 103 = 250 ∧ mh_i h 103 p = Int32.ofNat N := fun L h H => by
    have F1 := RF_G H.f F
    exact ⟨F1.g 81 14 70 (by decide +kernel), F1.f 81 31 103 (by decide +kernel), F1.g 103 100 250 (by decide +kernel), F1.l 103 100 250 (by decide +kernel), by rw [fG_i H.f (by unfold lrW; omega)]; exact M.m.1⟩
  intro k
  induction k with
  | zero =>
    intro x L h hx H _
    obtain ⟨q1, q2, q3, q4, q5⟩ := row L h H
    have c' : (N ≤ x) = True := eq_true (by omega)
    have ex : x = N := by omega
    refine ⟨h, H, fun Q => ?_⟩
    rw [← ex]
    rw [← ex] at q5
    have c' : (x ≤ x) = True := eq_true (Nat.le_refl _)
    clear H M S F row ex
    simp (disch := omega) only [s_390_0, s_390_1, s_390_2, s_390_5, s_390_8, s_390_9, s_390_10, s_390_11, s_390_12, s_390_13, s_390_16, s_390_16n, s_390_16x, s_390_17, s_390_18, s_390_19, s_390_22, s_390_23, s_390_26, s_390_29, s_390_30, s_390_33, s_390_36, s_390_39, s_390_40, s_390_42, s_390_44, s_390_45, s_390_48, s_390_49, s_390_49x, s_390_50, s_390_53, s_390_54, s_390_57, s_390_58, s_390_59, s_390_62, s_390_64, s_390_65, s_390_66, s_390_68, s_390_69, s_390_69x, s_390_70, s_390_73, s_390_74, s_390_77, s_390_80, s_390_81, s_390_82, s_390_84, s_390_87, s_390_90, s_390_91, s_390_94, s_390_97, s_390_98, s_390_99, s_390_101, s_390_104, s_390_107, s_390_110, s_390_114, s_390_116, s_390_118, s_390_119, s_390_122, s_390_123, s_390_123x, s_390_124, s_390_127, s_390_129, s_390_130, s_390_131, s_390_133, s_390_135, s_390_136, s_390_139, s_390_140, s_390_140x, s_390_141, s_390_144, s_390_145, s_390_146, s_390_147, s_390_148, s_390_150, s_390_151, s_390_152, s_390_154, s_390_155, s_390_158, s_390_159, s_390_160, s_390_161, s_390_162, s_390_164, s_390_165, s_390_166, s_390_168, s_390_169, s_390_170, s_390_171, s_390_174, s_390_175, s_390_176, s_390_177, s_390_178, s_390_180, s_390_181, s_390_182, s_390_183, s_390_184, s_390_186, s_390_187, s_390_190, s_390_191, s_390_192, s_390_193, s_390_194, s_390_196, s_390_197, s_390_198, s_390_199, s_390_200, s_390_202, s_390_203, s_390_204, s_390_205, s_390_208, s_390_211, s_390_214, s_390_217, s_390_220, s_390_221, s_390_223, s_390_225, s_390_226, s_390_229, s_390_230, s_390_230x, s_390_231, s_390_234, s_390_235, s_390_238, s_390_239, s_390_240, s_390_243, s_390_245, s_390_246, s_390_247, s_390_249, s_390_250, s_390_250x, s_390_251, s_390_254, s_390_255, s_390_258, s_390_261, s_390_262, s_390_263, s_390_266, s_390_268, s_390_269, s_390_272, s_390_273, s_390_276, s_390_279, s_390_280, s_390_281, s_390_284, s_390_286, s_390_287, s_390_290, s_390_293, s_390_296, s_390_297, s_390_300, s_390_303, s_390_304, s_390_307, s_390_310, s_390_311, s_390_312, s_390_315, s_390_318, s_390_319, s_390_321, s_390_323, s_390_324, s_390_327, s_390_330, s_390_331, s_390_334, s_390_336, s_390_337, s_390_340, s_390_342, s_390_342x, s_390_343, s_390_344, s_390_347, s_390_350, s_390_351, s_390_354, e_390, mv_i_1, mv_l_1, mv_a_1, mv_a_2, mv_a_3, mk2_n, mk2_i, mk2_l, mk2_a, mk2_u, mk2_x, mB_T, mB_F, mS_cons, mS_nil, mSB_T, mSB_F, mca_nil, mca_i, mca_l, mca_r, mca_u, mca_x, mcat_i, mcat_l, mcat_r, mcat_u, mcat_x, mK_some, mK_none, va_rf_s, va_rf_n, lgc_eq, lgc_lt, lgc_gt, lgc_ge, lgc_le, mrd_104, mrd_105, mrd_106, mrd_107, true_and, and_true, and_self, false_and, and_false, true_or, or_true, false_or, or_false, not_true_eq_false, not_false_eq_true, mgb, mga, mgr, mN, reduceCtorEq, ↓reduceIte, eq_self, ge_iff_le, gt_iff_lt, hk_si, hk_sj, hk_sr, hl_si, hl_sj, hl_sr, hn_si, hn_sj, hn_sr, hs_si, hs_sj, hs_sr, hi_sj, hi_sr, hj_si, hj_sr, hr_si, hr_sj, hi_si, hj_sj, hr_sr, mg_si, mg_sj, mg_sr, Nat.reduceAdd, Nat.reduceMul, Nat.reduceSub, Nat.reduceLT, Nat.reduceGT, Nat.reduceEqDiff, Nat.reduceLeDiff, Nat.left_eq_add, Nat.add_eq_left, Nat.reduceMod, Nat.reduceDiv, Nat.succ_ne_self, q1, q2, q3, q4, q5, nn_mxT, nn_clamp, nn_le, c']
  | succ k ih =>
    intro x L h hx H hL
    obtain ⟨q1, q2, q3, q4, q5⟩ := row L h H
    have c' : (N ≤ x) = False := eq_false (by omega)
    obtain ⟨k1, n0, n1, n2, n3⟩ := M.np x (by omega)
    obtain ⟨cl1, cl2⟩ := wCm_len L
    obtain ⟨h1, H1, r1⟩ := w_386 (d := d) F H (by omega)
    have F1 := RF_G H1.f F
    have u81 := F1.g 81 14 70 (by decide +kernel)
    have u50 := F1.f 81 50 113 (by decide +kernel)
    have u113 := F1.g 113 100 3000 (by decide +kernel)
    have ul := F1.l 113 100 3000 (by decide +kernel)
    have ui : mh_i h1 113 (12 * p + x) = Int32.ofNat k1 := by rw [fG_i H1.f (by unfold lrW; omega)]; exact n1
    obtain ⟨h2, H2, r2⟩ := w_387 (d := d + 4) F n2 H1 (by omega)
    have l7 : xL 31 = 4 := by decide +kernel
    have l8 : xL 32 = 2 := by decide +kernel
    have z2 := (RF_G H2.f F).g 81 14 70 (by decide +kernel)
    obtain ⟨h3, H3, r3⟩ := w_384 (d := d + 1) F (j := 31) (by decide) H2 (by simp only [List.length_append]; omega)
    rw [xW_ref.2.2.2.2.2.1] at H3
    have z3 := (RF_G H3.f F).g 81 14 70 (by decide +kernel)
    have R3 := Kn_l H3.f S
    have gK3 : mg h3 o 13 := R3.1.1
    obtain ⟨y1, ey1, g1⟩ := k_283 (d := d + 3) R3 S.2.1 (x := x) (by omega)
    have b1 := gr_b S.2.1 (v := 2 * x + 1) (w := 2 * x + 1) (by omega) (by omega)
    have b2 := gr_b S.2.1 (v := 2 * x) (w := 2 * x) (by omega) (by omega)
    obtain ⟨h4, H4, r4⟩ := w_388 (d := d + 4) (v := y1) F (by omega) H3 (by simp only [List.length_append, List.length_cons, List.length_nil]; omega)
    rw [ey1] at H4
    have nl := nbT_len (v := -a_gr A (2 * x + 1) (2 * x + 1)) (by omega) (by omega)
    have z4 := (RF_G H4.f F).g 81 14 70 (by decide +kernel)
    obtain ⟨h5, H5, r5⟩ := w_384 (d := d + 1) F (j := 32) (by decide) H4 (by simp only [List.length_append, List.length_cons, List.length_nil]; omega)
    rw [xW_ref.2.2.2.2.2.2.1] at H5
    have z5 := (RF_G H5.f F).g 81 14 70 (by decide +kernel)
    have R5 := Kn_l H5.f S
    have gK5 : mg h5 o 13 := R5.1.1
    obtain ⟨y2, ey2, g2⟩ := k_284 (d := d + 3) R5 S.2.1.2.2.1 (x := x) (by omega)
    obtain ⟨h6, H6, r6⟩ := w_388 (d := d + 4) (v := y2) F (by omega) H5 (by simp only [List.length_append, List.length_cons, List.length_nil]; omega)
    rw [ey2] at H6
    have gl := gNm_len (nm := nm) (lo := fun x => -a_gr A (2 * x + 1) (2 * x + 1)) (hi := fun x => a_gr A (2 * x) (2 * x)) (x := x) (L := L) n3 (by show -4294967296 ≤ -a_gr A (2 * x + 1) (2 * x + 1) ∧ -a_gr A (2 * x + 1) (2 * x + 1) ≤ 4294967296; omega) b2
    obtain ⟨h7, H7, r7⟩ := ih (x + 1) (gNm nm (fun x => -a_gr A (2 * x + 1) (2 * x + 1)) (fun x => a_gr A (2 * x) (2 * x)) x L) h6 (by omega) H6 (by omega)
    refine ⟨h7, H7, fun Q => ?_⟩
    rw [← r7 Q]
    have r3' : ∀ Q, mcall (d + 5) 384 [.ref 81, .retAddr 96] h2 Q = Q none h3 := r3
    have r5' : ∀ Q, mcall (d + 5) 384 [.ref 81, .retAddr 99] h4 Q = Q none h5 := r5
    clear ih H H1 H2 H3 H4 H5 H6 H7 M S F F1 R3 R5 row gl n2 r3 r5 r7
    rw [s_390_42]
    simp (disch := omega) only [s_390_0, s_390_1, s_390_2, s_390_5, s_390_8, s_390_9, s_390_10, s_390_11, s_390_12, s_390_13, s_390_16, s_390_16n, s_390_16x, s_390_17, s_390_18, s_390_19, s_390_22, s_390_23, s_390_26, s_390_29, s_390_30, s_390_33, s_390_36, s_390_39, s_390_40, s_390_44, s_390_45, s_390_48, s_390_49, s_390_49x, s_390_50, s_390_53, s_390_54, s_390_57, s_390_58, s_390_59, s_390_62, s_390_64, s_390_65, s_390_66, s_390_68, s_390_69, s_390_69x, s_390_70, s_390_73, s_390_74, s_390_77, s_390_80, s_390_81, s_390_82, s_390_84, s_390_87, s_390_90, s_390_91, s_390_94, s_390_97, s_390_98, s_390_99, s_390_101, s_390_104, s_390_107, s_390_110, s_390_114, s_390_116, s_390_118, s_390_119, s_390_122, s_390_123, s_390_123x, s_390_124, s_390_127, s_390_129, s_390_130, s_390_131, s_390_133, s_390_135, s_390_136, s_390_139, s_390_140, s_390_140x, s_390_141, s_390_144, s_390_145, s_390_146, s_390_147, s_390_148, s_390_150, s_390_151, s_390_152, s_390_154, s_390_155, s_390_158, s_390_159, s_390_160, s_390_161, s_390_162, s_390_164, s_390_165, s_390_166, s_390_168, s_390_169, s_390_170, s_390_171, s_390_174, s_390_175, s_390_176, s_390_177, s_390_178, s_390_180, s_390_181, s_390_182, s_390_183, s_390_184, s_390_186, s_390_187, s_390_190, s_390_191, s_390_192, s_390_193, s_390_194, s_390_196, s_390_197, s_390_198, s_390_199, s_390_200, s_390_202, s_390_203, s_390_204, s_390_205, s_390_208, s_390_211, s_390_214, s_390_217, s_390_220, s_390_221, s_390_223, s_390_225, s_390_226, s_390_229, s_390_230, s_390_230x, s_390_231, s_390_234, s_390_235, s_390_238, s_390_239, s_390_240, s_390_243, s_390_245, s_390_246, s_390_247, s_390_249, s_390_250, s_390_250x, s_390_251, s_390_254, s_390_255, s_390_258, s_390_261, s_390_262, s_390_263, s_390_266, s_390_268, s_390_269, s_390_272, s_390_273, s_390_276, s_390_279, s_390_280, s_390_281, s_390_284, s_390_286, s_390_287, s_390_290, s_390_293, s_390_296, s_390_297, s_390_300, s_390_303, s_390_304, s_390_307, s_390_310, s_390_311, s_390_312, s_390_315, s_390_318, s_390_319, s_390_321, s_390_323, s_390_324, s_390_327, s_390_330, s_390_331, s_390_334, s_390_336, s_390_337, s_390_340, s_390_342, s_390_342x, s_390_343, s_390_344, s_390_347, s_390_350, s_390_351, s_390_354, e_390, mv_i_1, mv_l_1, mv_a_1, mv_a_2, mv_a_3, mk2_n, mk2_i, mk2_l, mk2_a, mk2_u, mk2_x, mB_T, mB_F, mS_cons, mS_nil, mSB_T, mSB_F, mca_nil, mca_i, mca_l, mca_r, mca_u, mca_x, mcat_i, mcat_l, mcat_r, mcat_u, mcat_x, mK_some, mK_none, va_rf_s, va_rf_n, lgc_eq, lgc_lt, lgc_gt, lgc_ge, lgc_le, mrd_104, mrd_105, mrd_106, mrd_107, true_and, and_true, and_self, false_and, and_false, true_or, or_true, false_or, or_false, not_true_eq_false, not_false_eq_true, mgb, mga, mgr, mN, reduceCtorEq, ↓reduceIte, eq_self, ge_iff_le, gt_iff_lt, hk_si, hk_sj, hk_sr, hl_si, hl_sj, hl_sr, hn_si, hn_sj, hn_sr, hs_si, hs_sj, hs_sr, hi_sj, hi_sr, hj_si, hj_sr, hr_si, hr_sj, hi_si, hj_sj, hr_sr, mg_si, mg_sj, mg_sr, Nat.reduceAdd, Nat.reduceMul, Nat.reduceSub, Nat.reduceLT, Nat.reduceGT, Nat.reduceEqDiff, Nat.reduceLeDiff, Nat.left_eq_add, Nat.add_eq_left, Nat.reduceMod, Nat.reduceDiv, Nat.succ_ne_self, q1, q2, q3, q4, q5, nn_mxT, nn_clamp, nn_le, c', e1', e12, nn_add, r1, u81, u50, u113, ul, ui, r2, z2, r3', z3, gK3, g1, r4, z4, r5', z5, gK5, g2, r6]
theorem l_390c (M : NMr h0 p nm am N A') (S : KnL h0 o A) (hN : A.n = N) {b : Int32} {x : Nat} (hx : x < N) : ∀ k y (L : List Int32) (h : mh_H), y + k = N → LNr h0 h L → L.length + 324 * k ≤ 24000 → ∃ h', LNr h0 h' (itr (gP4 nm A x) k y L) ∧ ∀ Q, mw (d + 7) 390 Q 133 [some (.ref 81), some (.int b), some (.int (Int32.ofNat p)), some (.ref o), some (.int (Int32.ofNat x)), some (.int (Int32.ofNat y))] [] h = mw (d + 7) 390 Q 214 [some (.ref 81), some (.int b), some (.int (Int32.ofNat p)), some (.ref o), some (.int (Int32.ofNat x)), some (.int (Int32.ofNat N))] [] h' := by
  have e1' : ∀ k, Int32.ofNat k + 1 = Int32.ofNat (k + 1) := fun k => nn_add (a := k) (b := 1)
  have e2 : ∀ k, (2 : Int32) * Int32.ofNat k = Int32.ofNat (2 * k) := fun k => nn_mul (a := 2) (b := k)
  have nn := M.n
  have pp := M.p
  have F := M.F
  have row : ∀ (L : List Int32) (h : mh_H), LNr h0 h L → mg h 81 14 ∧ mh_r h 81 31 = some 103 ∧ mg h 103 100 ∧ mh_l h 103 = 250 ∧ mh_i h 103 p = Int32.ofNat N := fun L h H => by
    have F1 := RF_G H.f F
    exact ⟨F1.g 81 14 70 (by decide +kernel), F1.f 81 31 103 (by decide +kernel), F1.g 103 100 250 (by decide +kernel), F1.l 103 100 250 (by decide +kernel), by rw [fG_i H.f (by unfold lrW; omega)]; exact M.m.1⟩
  have gl : ∀ i j (L : List Int32), i < 2 * N → j < 2 * N → (gPr nm A i j L).length ≤ L.length + 81 := fun i j L hi hj => by
    obtain ⟨-, -, -, -, q1⟩ := M.np (i / 2) (by omega)
    obtain ⟨-, -, -, -, q2⟩ := M.np (j / 2) (by omega)
    have l1 := gr_b S.2.1 (v := i) (w := j) (by omega) (by omega)
    have a1 := nbT_len l1.1 l1.2
    have a3 := wCm_len L
    unfold gPr
    split
    · have c1 : (if i % 2 = 1 then [(45 : Int32)] else []).length ≤ 1 := by split <;> decide
      have c2 : (if j % 2 = 1 then [(32 : Int32), 45, 32] else [32, 43, 32]).length = 3 := by split <;> rfl
      simp only [List.length_append, List.length_cons, List.length_nil, c2]
      omega
    · omega
  intro k
  induction k with
  | zero =>
    intro y L h hy H _
    obtain ⟨q1, q2, q3, q4, q5⟩ := row L h H
    have ey : y = N := by omega
    refine ⟨h, H, fun Q => ?_⟩
    rw [← ey]
    rw [← ey] at q5
    have c' : (y ≤ y) = True := eq_true (Nat.le_refl _)
    clear H M S F row gl ey
    simp (disch := omega) only [s_390_0, s_390_1, s_390_2, s_390_5, s_390_8, s_390_9, s_390_10, s_390_11, s_390_12, s_390_13, s_390_16, s_390_16n, s_390_16x, s_390_17, s_390_18, s_390_19, s_390_22, s_390_23, s_390_26, s_390_29, s_390_30, s_390_33, s_390_36, s_390_39, s_390_40, s_390_42, s_390_44, s_390_45, s_390_48, s_390_49, s_390_49x, s_390_50, s_390_53, s_390_54, s_390_57, s_390_58, s_390_59, s_390_62, s_390_64, s_390_65, s_390_66, s_390_68, s_390_69, s_390_69x, s_390_70, s_390_73, s_390_74, s_390_77, s_390_80, s_390_81, s_390_82, s_390_84, s_390_87, s_390_90, s_390_91, s_390_94, s_390_97, s_390_98, s_390_99, s_390_101, s_390_104, s_390_107, s_390_110, s_390_113, s_390_114, s_390_116, s_390_118, s_390_119, s_390_122, s_390_123, s_390_123x, s_390_124, s_390_127, s_390_129, s_390_130, s_390_131, s_390_133, s_390_135, s_390_136, s_390_139, s_390_140, s_390_140x, s_390_141, s_390_144, s_390_145, s_390_146, s_390_147, s_390_148, s_390_150, s_390_151, s_390_152, s_390_154, s_390_155, s_390_158, s_390_159, s_390_160, s_390_161, s_390_162, s_390_164, s_390_165, s_390_166, s_390_168, s_390_169, s_390_170, s_390_171, s_390_174, s_390_175, s_390_176, s_390_177, s_390_178, s_390_180, s_390_181, s_390_182, s_390_183, s_390_184, s_390_186, s_390_187, s_390_190, s_390_191, s_390_192, s_390_193, s_390_194, s_390_196, s_390_197, s_390_198, s_390_199, s_390_200, s_390_202, s_390_203, s_390_204, s_390_205, s_390_208, s_390_211, s_390_217, s_390_220, s_390_221, s_390_223, s_390_225, s_390_226, s_390_229, s_390_230, s_390_230x, s_390_231, s_390_234, s_390_235, s_390_238, s_390_239, s_390_240, s_390_243, s_390_245, s_390_246, s_390_247, s_390_249, s_390_250, s_390_250x, s_390_251, s_390_254, s_390_255, s_390_258, s_390_261, s_390_262, s_390_263, s_390_266, s_390_268, s_390_269, s_390_272, s_390_273, s_390_276, s_390_279, s_390_280, s_390_281, s_390_284, s_390_286, s_390_287, s_390_290, s_390_293, s_390_296, s_390_297, s_390_300, s_390_303, s_390_304, s_390_307, s_390_310, s_390_311, s_390_312, s_390_315, s_390_318, s_390_319, s_390_321, s_390_323, s_390_324, s_390_327, s_390_330, s_390_331, s_390_334, s_390_336, s_390_337, s_390_340, s_390_342, s_390_342x, s_390_343, s_390_344, s_390_347, s_390_350, s_390_351, s_390_354, e_390, mv_i_1, mv_l_1, mv_a_1, mv_a_2, mv_a_3, mk2_n, mk2_i, mk2_l, mk2_a, mk2_u, mk2_x, mB_T, mB_F, mS_cons, mS_nil, mSB_T, mSB_F, mca_nil, mca_i, mca_l, mca_r, mca_u, mca_x, mcat_i, mcat_l, mcat_r, mcat_u, mcat_x, mK_some, mK_none, va_rf_s, va_rf_n, lgc_eq, lgc_lt, lgc_gt, lgc_ge, lgc_le, mrd_104, mrd_105, mrd_106, mrd_107, true_and, and_true, and_self, false_and, and_false, true_or, or_true, false_or, or_false, not_true_eq_false, not_false_eq_true, mgb, mga, mgr, mN, reduceCtorEq, ↓reduceIte, eq_self, ge_iff_le, gt_iff_lt, hk_si, hk_sj, hk_sr, hl_si, hl_sj, hl_sr, hn_si, hn_sj, hn_sr, hs_si, hs_sj, hs_sr, hi_sj, hi_sr, hj_si, hj_sr, hr_si, hr_sj, hi_si, hj_sj, hr_sr, mg_si, mg_sj, mg_sr, Nat.reduceAdd, Nat.reduceMul, Nat.reduceSub, Nat.reduceLT, Nat.reduceGT, Nat.reduceEqDiff, Nat.reduceLeDiff, Nat.left_eq_add, Nat.add_eq_left, Nat.reduceMod, Nat.reduceDiv, Nat.succ_ne_self, q1, q2, q3, q4, q5, nn_mxT, nn_clamp, nn_le, c']
  | succ k ih =>
    intro y L h hy H hL
    obtain ⟨q1, q2, q3, q4, q5⟩ := row L h H
    have c' : (N ≤ y) = False := eq_false (by omega)
    obtain ⟨h1, H1, r1⟩ := w_389 (d := d) (i := 2 * x) (j := 2 * y) M S hN (by omega) (by omega) H (by omega)
    have v1 := gl (2 * x) (2 * y) L (by omega) (by omega)
    obtain ⟨h2, H2, r2⟩ := w_389 (d := d) (i := 2 * x) (j := 2 * y + 1) M S hN (by omega) (by omega) H1 (by omega)
    have v2 := gl (2 * x) (2 * y + 1) (gPr nm A (2 * x) (2 * y) L) (by omega) (by omega)
    obtain ⟨h3, H3, r3⟩ := w_389 (d := d) (i := 2 * x + 1) (j := 2 * y) M S hN (by omega) (by omega) H2 (by omega)
    have v3 := gl (2 * x + 1) (2 * y) (gPr nm A (2 * x) (2 * y + 1) (gPr nm A (2 * x) (2 * y) L)) (by omega) (by omega)
    obtain ⟨h4, H4, r4⟩ := w_389 (d := d) (i := 2 * x + 1) (j := 2 * y + 1) M S hN (by omega) (by omega) H3 (by omega)
    have v4 := gl (2 * x + 1) (2 * y + 1) (gPr nm A (2 * x + 1) (2 * y) (gPr nm A (2 * x) (2 * y + 1) (gPr nm A (2 * x) (2 * y) L))) (by omega) (by omega)
    have z1 := (RF_G H1.f F).g 81 14 70 (by decide +kernel)
    have z2 := (RF_G H2.f F).g 81 14 70 (by decide +kernel)
    have z3 := (RF_G H3.f F).g 81 14 70 (by decide +kernel)
    obtain ⟨h5, H5, r5⟩ := ih (y + 1) (gP4 nm A x y L) h4 (by omega) H4 (by unfold gP4; omega)
    refine ⟨h5, H5, fun Q => ?_⟩
    rw [← r5 Q]
    clear ih H H1 H2 H3 H4 H5 M S F row gl v1 v2 v3 v4 r5
    rw [s_390_133]
    simp (disch := omega) only [s_390_0, s_390_1, s_390_2, s_390_5, s_390_8, s_390_9, s_390_10, s_390_11, s_390_12, s_390_13, s_390_16, s_390_16n, s_390_16x, s_390_17, s_390_18, s_390_19, s_390_22, s_390_23, s_390_26, s_390_29, s_390_30, s_390_33, s_390_36, s_390_39, s_390_40, s_390_42, s_390_44, s_390_45, s_390_48, s_390_49, s_390_49x, s_390_50, s_390_53, s_390_54, s_390_57, s_390_58, s_390_59, s_390_62, s_390_64, s_390_65, s_390_66, s_390_68, s_390_69, s_390_69x, s_390_70, s_390_73, s_390_74, s_390_77, s_390_80, s_390_81, s_390_82, s_390_84, s_390_87, s_390_90, s_390_91, s_390_94, s_390_97, s_390_98, s_390_99, s_390_101, s_390_104, s_390_107, s_390_110, s_390_113, s_390_114, s_390_116, s_390_118, s_390_119, s_390_122, s_390_123, s_390_123x, s_390_124, s_390_127, s_390_129, s_390_130, s_390_131, s_390_135, s_390_136, s_390_139, s_390_140, s_390_140x, s_390_141, s_390_144, s_390_145, s_390_146, s_390_147, s_390_148, s_390_150, s_390_151, s_390_152, s_390_154, s_390_155, s_390_158, s_390_159, s_390_160, s_390_161, s_390_162, s_390_164, s_390_165, s_390_166, s_390_168, s_390_169, s_390_170, s_390_171, s_390_174, s_390_175, s_390_176, s_390_177, s_390_178, s_390_180, s_390_181, s_390_182, s_390_183, s_390_184, s_390_186, s_390_187, s_390_190, s_390_191, s_390_192, s_390_193, s_390_194, s_390_196, s_390_197, s_390_198, s_390_199, s_390_200, s_390_202, s_390_203, s_390_204, s_390_205, s_390_208, s_390_211, s_390_217, s_390_220, s_390_221, s_390_223, s_390_225, s_390_226, s_390_229, s_390_230, s_390_230x, s_390_231, s_390_234, s_390_235, s_390_238, s_390_239, s_390_240, s_390_243, s_390_245, s_390_246, s_390_247, s_390_249, s_390_250, s_390_250x, s_390_251, s_390_254, s_390_255, s_390_258, s_390_261, s_390_262, s_390_263, s_390_266, s_390_268, s_390_269, s_390_272, s_390_273, s_390_276, s_390_279, s_390_280, s_390_281, s_390_284, s_390_286, s_390_287, s_390_290, s_390_293, s_390_296, s_390_297, s_390_300, s_390_303, s_390_304, s_390_307, s_390_310, s_390_311, s_390_312, s_390_315, s_390_318, s_390_319, s_390_321, s_390_323, s_390_324, s_390_327, s_390_330, s_390_331, s_390_334, s_390_336, s_390_337, s_390_340, s_390_342, s_390_342x, s_390_343, s_390_344, s_390_347, s_390_350, s_390_351, s_390_354, e_390, mv_i_1, mv_l_1, mv_a_1, mv_a_2, mv_a_3, mk2_n, mk2_i, mk2_l, mk2_a, mk2_u, mk2_x, mB_T, mB_F, mS_cons, mS_nil, mSB_T, mSB_F, mca_nil, mca_i, mca_l, mca_r, mca_u, mca_x, mcat_i, mcat_l, mcat_r, mcat_u, mcat_x, mK_some, mK_none, va_rf_s, va_rf_n, lgc_eq, lgc_lt, lgc_gt, lgc_ge, lgc_le, mrd_104, mrd_105, mrd_106, mrd_107, true_and, and_true, and_self, false_and, and_false, true_or, or_true, false_or, or_false, not_true_eq_false, not_false_eq_true, mgb, mga, mgr, mN, reduceCtorEq, ↓reduceIte, eq_self, ge_iff_le, gt_iff_lt, hk_si, hk_sj, hk_sr, hl_si, hl_sj, hl_sr, hn_si, hn_sj, hn_sr, hs_si, hs_sj, hs_sr, hi_sj, hi_sr, hj_si, hj_sr, hr_si, hr_sj, hi_si, hj_sj, hr_sr, mg_si, mg_sj, mg_sr, Nat.reduceAdd, Nat.reduceMul, Nat.reduceSub, Nat.reduceLT, Nat.reduceGT, Nat.reduceEqDiff, Nat.reduceLeDiff, Nat.left_eq_add, Nat.add_eq_left, Nat.reduceMod, Nat.reduceDiv, Nat.succ_ne_self, q1, q2, q3, q4, q5, nn_mxT, nn_clamp, nn_le, c', e1', e2, r1, z1, r2, z2, r3, z3, r4]
end RLo
