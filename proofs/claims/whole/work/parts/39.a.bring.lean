set_option maxRecDepth 100000
/-! Effect.bring -/
/-- a tight one made tight is the same -/
theorem RS_cl {h : mh_H} {H : Nat} {M : ab} (hT : oc_T M.n M.m) (k : RS h H (a_cl M)) : RS h H (some M) := by
  obtain ⟨B, e, n1, a1, l1, h1, r1, -, m1⟩ := a_cl_some (A := M) (t := M.m) ⟨hT, fun _ _ _ _ => Int.le_refl _, fun _ _ z => z⟩
  rw [e] at k
  obtain ⟨k, k5⟩ := k
  exact ⟨⟨k.s, k.z, by rw [← n1]; exact k.n, by rw [← n1]; exact k.n12, by rw [← a1]; exact k.a, by rw [← a1]; exact k.a6, fun i j hi hj => by rw [← m1 i j hi hj]; exact k.m i j (by rw [n1]; exact hi) (by rw [n1]; exact hj), fun x hx => by rw [← l1, ← h1]; exact k.e x (by rw [a1]; exact hx)⟩, k5⟩
section BRs
variable {d : Nat} {h : mh_H} {H St : Nat} {B : ab}
/-- an array -/
theorem v_14a (g : mg h 34 1) (gS : mg h St 9) (r2 : mh_r h 34 2 = some H) (k : RS h H (some B)) (hb : B.a < 6) {sz : Nat} (s9 : mh_i h St 9 = Int32.ofNat sz) (hs : 0 < sz) (hs2 : sz < 1000) : ∃ h', fq (sW H 52) h h' ∧ RS h' H (some (a_arr sz B)) ∧ ∀ Q, mcall (d + 3) 14 [.ref 34, .ref St] h Q = Q none h' := by
  obtain ⟨h', f, k', e⟩ := l_154 (d := d + 2) (rr := sz) 52 k hb
  refine ⟨h', f, k', fun Q => ?_⟩
  have gH := (RS_so k).1
  have le : (Int32.ofNat sz ≤ 0) = False := by
    have e0 : (0 : Int32) = Int32.ofNat 0 := rfl
    rw [e0, nn_le (by omega) (by omega)]; exact eq_false (by omega)
  clear k k' f
  simp (disch := omega) only [s_14_0, s_14_1, s_14_4, s_14_7, s_14_8, s_14_11, s_14_14, s_14_17, s_14_18, s_14_19, s_14_22, s_14_25, s_14_26, s_14_27, s_14_28, s_14_31, s_14_34, s_14_35, s_14_38, s_14_41, s_14_42, s_14_45, s_14_46, s_14_47, s_14_48, s_14_51, s_14_52, s_14_55, s_14_56, s_14_57, s_14_58, s_14_59, s_14_60, s_14_61, s_14_62, s_14_65, e_14, mv_i_1, mv_l_1, mv_a_1, mv_a_2, mv_a_3, mk2_n, mk2_i, mk2_l, mk2_a, mk2_u, mk2_x, mB_T, mB_F, mS_cons, mS_nil, mSB_T, mSB_F, mca_nil, mca_i, mca_l, mca_r, mca_u, mca_x, mcat_i, mcat_l, mcat_r, mcat_u, mcat_x, mK_some, mK_none, va_rf_s, va_rf_n, lgc_eq, lgc_lt, lgc_gt, lgc_ge, lgc_le, mrd_104, mrd_105, mrd_106, mrd_107, true_and, and_true, and_self, false_and, and_false, true_or, or_true, false_or, or_false, not_true_eq_false, not_false_eq_true, mgb, mga, mgr, mN, reduceCtorEq, ↓reduceIte, eq_self, ge_iff_le, gt_iff_lt, hk_si, hk_sj, hk_sr, hl_si, hl_sj, hl_sr, hn_si, hn_sj, hn_sr, hs_si, hs_sj, hs_sr, hi_sj, hi_sr, hj_si, hj_sr, hr_si, hr_sj, hi_si, hj_sj, hr_sr, mg_si, mg_sj, mg_sr, Nat.reduceAdd, Nat.reduceMul, Nat.reduceSub, Nat.reduceLT, Nat.reduceGT, Nat.reduceEqDiff, Nat.reduceLeDiff, Nat.left_eq_add, Nat.add_eq_left, Nat.reduceMod, Nat.reduceDiv, Nat.succ_ne_self, g, gS, r2, gH, s9, le, e]
/-- a number with a SUM behind it -/
theorem v_14s (g : mg h 34 1) (gS : mg h St 9) (n34 : ¬ sW H 52 34) (nSt : ¬ sW H 52 St) (r2 : mh_r h 34 2 = some H) (k : RS h H (some B)) (hT : ab_T B) (hb : B.n < 12) (s9 : mh_i h St 9 = 0) {su : Nat} (s11 : mh_i h St 11 = Int32.ofNat su) (hs : 0 < su) (hs2 : su < 1000) : ∃ h', fq (sW H 52) h h' ∧ RS h' H (some (a_add B)) ∧ ∀ Q, mcall (d + 3) 14 [.ref 34, .ref St] h Q = Q none h' := by
  obtain ⟨h', f, k', e⟩ := l_153 (d := d) 52 k hT hb
  refine ⟨h', f, k', fun Q => ?_⟩
  have gH := (RS_so k).1
  have le : ((0 : Int32) ≤ 0) = True := by decide
  have s11' : mh_i h' St 11 = Int32.ofNat su := by rw [(f.2.2.2.2.2 St nSt).1]; exact s11
  have ne : (Int32.ofNat su = 0) = False := by
    have e0 : (0 : Int32) = Int32.ofNat 0 := rfl
    rw [e0, nn_eq (by omega) (by omega)]; exact eq_false (by omega)
  have gS' : mg h' St 9 := (fq_mg f).mpr gS
  clear k k' f
  simp (disch := omega) only [s_14_0, s_14_1, s_14_4, s_14_7, s_14_8, s_14_11, s_14_14, s_14_17, s_14_18, s_14_19, s_14_22, s_14_25, s_14_26, s_14_27, s_14_28, s_14_31, s_14_34, s_14_35, s_14_38, s_14_41, s_14_42, s_14_45, s_14_46, s_14_47, s_14_48, s_14_51, s_14_52, s_14_55, s_14_56, s_14_57, s_14_58, s_14_59, s_14_60, s_14_61, s_14_62, s_14_65, e_14, mv_i_1, mv_l_1, mv_a_1, mv_a_2, mv_a_3, mk2_n, mk2_i, mk2_l, mk2_a, mk2_u, mk2_x, mB_T, mB_F, mS_cons, mS_nil, mSB_T, mSB_F, mca_nil, mca_i, mca_l, mca_r, mca_u, mca_x, mcat_i, mcat_l, mcat_r, mcat_u, mcat_x, mK_some, mK_none, va_rf_s, va_rf_n, lgc_eq, lgc_lt, lgc_gt, lgc_ge, lgc_le, mrd_104, mrd_105, mrd_106, mrd_107, true_and, and_true, and_self, false_and, and_false, true_or, or_true, false_or, or_false, not_true_eq_false, not_false_eq_true, mgb, mga, mgr, mN, reduceCtorEq, ↓reduceIte, eq_self, ge_iff_le, gt_iff_lt, hk_si, hk_sj, hk_sr, hl_si, hl_sj, hl_sr, hn_si, hn_sj, hn_sr, hs_si, hs_sj, hs_sr, hi_sj, hi_sr, hj_si, hj_sr, hr_si, hr_sj, hi_si, hj_sj, hr_sr, mg_si, mg_sj, mg_sr, Nat.reduceAdd, Nat.reduceMul, Nat.reduceSub, Nat.reduceLT, Nat.reduceGT, Nat.reduceEqDiff, Nat.reduceLeDiff, Nat.left_eq_add, Nat.add_eq_left, Nat.reduceMod, Nat.reduceDiv, Nat.succ_ne_self, g, gS, r2, gH, s9, le, e, gS', s11', ne]
/-- a number that is 0 -/
theorem v_14z (g : mg h 34 1) (gS : mg h St 9) (n34 : ¬ sW H 52 34) (nSt : ¬ sW H 52 St) (r2 : mh_r h 34 2 = some H) (k : RS h H (some B)) (hT : ab_T B) (hb : B.n < 12) (s9 : mh_i h St 9 = 0) (s11 : mh_i h St 11 = 0) : ∃ h' c u, fq (sW H 52) h h' ∧ RL h' H (a_lims [(2 * B.n, 2 * B.n, 0), (2 * B.n + 1, 2 * B.n + 1, 0)] (a_add B)) c u ∧ ∀ Q, mcall (d + 3) 14 [.ref 34, .ref St] h Q = Q none h' := by
  obtain ⟨h1, f1, k1, e1⟩ := l_153 (d := d) 52 k hT hb
  have T1 := T_add hT hb
  have r1 : RL h1 H (a_lims [] (a_add B)) (a_add B).m 0 := RL_of k1 T1.t
  have b0 := oc_b0 B.n
  have b1 := oc_b1 B.n
  have nA : (a_add B).n = B.n + 1 := rfl
  have z0 : (0 : Int64).toInt = 0 := by decide
  obtain ⟨h2, u2, f2, r2', e2⟩ := lim_c (d := d + 1) (v := 2 * B.n) (w := 2 * B.n) (k := 0) r1 (by omega) (by omega) (by omega) (by rw [z0]; omega)
  obtain ⟨h3, u3, f3, r3', e3⟩ := lim_c (d := d + 1) (v := 2 * B.n + 1) (w := 2 * B.n + 1) (k := 0) r2' (by omega) (by omega) (by omega) (by rw [z0]; omega)
  rw [z0] at r3'
  refine ⟨h3, _, u3, fq_t f1 (fq_t f2 f3), r3', fun Q => ?_⟩
  have gH := (RS_so k).1
  have nn : mh_i h H 1 = Int32.ofNat B.n := k.1.n
  have le : ((0 : Int32) ≤ 0) = True := by decide
  have e00 : ((0 : Int32) = 0) = True := by decide
  have s11' : mh_i h1 St 11 = 0 := by rw [(f1.2.2.2.2.2 St nSt).1]; exact s11
  have gS1 : mg h1 St 9 := (fq_mg f1).mpr gS
  have g1 : mg h1 34 1 := (fq_mg f1).mpr g
  have gH1 : mg h1 H 8 := (fq_mg f1).mpr gH
  have g2 : mg h2 34 1 := (fq_mg f2).mpr g1
  have gH2 : mg h2 H 8 := (fq_mg f2).mpr gH1
  have er1 : mh_r h1 = mh_r h := f1.2.2.1
  have er2 : mh_r h2 = mh_r h1 := f2.2.2.1
  have ei : ∀ k, Int32.ofNat k + 1 = Int32.ofNat (k + 1) := fun k => nn_add (a := k) (b := 1)
  have et : ∀ k, (2 : Int32) * Int32.ofNat k = Int32.ofNat (2 * k) := fun k => nn_mul (a := 2) (b := k)
  clear k k1 f1 f2 f3 r1 r2' r3' T1 hT
  simp (disch := omega) only [s_14_0, s_14_1, s_14_4, s_14_7, s_14_8, s_14_11, s_14_14, s_14_17, s_14_18, s_14_19, s_14_22, s_14_25, s_14_26, s_14_27, s_14_28, s_14_31, s_14_34, s_14_35, s_14_38, s_14_41, s_14_42, s_14_45, s_14_46, s_14_47, s_14_48, s_14_51, s_14_52, s_14_55, s_14_56, s_14_57, s_14_58, s_14_59, s_14_60, s_14_61, s_14_62, s_14_65, e_14, mv_i_1, mv_l_1, mv_a_1, mv_a_2, mv_a_3, mk2_n, mk2_i, mk2_l, mk2_a, mk2_u, mk2_x, mB_T, mB_F, mS_cons, mS_nil, mSB_T, mSB_F, mca_nil, mca_i, mca_l, mca_r, mca_u, mca_x, mcat_i, mcat_l, mcat_r, mcat_u, mcat_x, mK_some, mK_none, va_rf_s, va_rf_n, lgc_eq, lgc_lt, lgc_gt, lgc_ge, lgc_le, mrd_104, mrd_105, mrd_106, mrd_107, true_and, and_true, and_self, false_and, and_false, true_or, or_true, false_or, or_false, not_true_eq_false, not_false_eq_true, mgb, mga, mgr, mN, reduceCtorEq, ↓reduceIte, eq_self, ge_iff_le, gt_iff_lt, hk_si, hk_sj, hk_sr, hl_si, hl_sj, hl_sr, hn_si, hn_sj, hn_sr, hs_si, hs_sj, hs_sr, hi_sj, hi_sr, hj_si, hj_sr, hr_si, hr_sj, hi_si, hj_sj, hr_sr, mg_si, mg_sj, mg_sr, Nat.reduceAdd, Nat.reduceMul, Nat.reduceSub, Nat.reduceLT, Nat.reduceGT, Nat.reduceEqDiff, Nat.reduceLeDiff, Nat.left_eq_add, Nat.add_eq_left, Nat.reduceMod, Nat.reduceDiv, Nat.succ_ne_self, g, gS, r2, gH, nn, s9, le, e1, gS1, s11', e00, g1, gH1, er1, e2, g2, gH2, er2, e3, ei, et]
end BRs
