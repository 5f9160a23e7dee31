set_option maxRecDepth 100000
/-! simple calls: place, of the reference -/
section SRs
variable {d : Nat} {h h1 : mh_H} {i j : Int32} {p n k y w : Nat}
theorem u_371o (F : RF h) (hp : p < 250) (e4 : mh_i h 81 64 = Int32.ofNat p) (en : mh_i h 104 p = Int32.ofNat n) (hi : i < 0 ∨ Int32.ofNat n ≤ i) : ∀ Q, mcall d 371 [.ref 81, .int i, .int j] h Q = Q (some (.int 0)) h := fun Q => by
  have g := F.g 81 14 70 (by decide +kernel)
  have t31 := F.f 81 32 104 (by decide +kernel)
  have g3 := F.g 104 100 250 (by decide +kernel)
  have l3 := F.l 104 100 250 (by decide +kernel)
  clear F
  rcases Classical.propComplete (i < 0) with c | c
  · simp (disch := omega) only [e_371, s_371_0, s_371_1, s_371_4, s_371_5, s_371_6, s_371_9, s_371_10, s_371_13, s_371_14, s_371_17, s_371_18, s_371_21, s_371_22, s_371_24, s_371_27, s_371_28, s_371_31, s_371_32, s_371_35, s_371_37, s_371_38, s_371_39, s_371_40, s_371_41, s_371_42, e_371, mv_i_1, mv_l_1, mv_a_1, mv_a_2, mv_a_3, mk2_n, mk2_i, mk2_l, mk2_a, mk2_u, mk2_x, mB_T, mB_F, mS_cons, mS_nil, mSB_T, mSB_F, mca_nil, mca_i, mca_l, mca_r, mca_u, mca_x, mcat_i, mcat_l, mcat_r, mcat_u, mcat_x, mK_some, mK_none, va_rf_s, va_rf_n, lgc_eq, lgc_lt, lgc_gt, lgc_ge, lgc_le, mrd_104, mrd_105, mrd_106, mrd_107, true_and, and_true, and_self, false_and, and_false, true_or, or_true, false_or, or_false, not_true_eq_false, not_false_eq_true, mgb, mga, mgr, mN, reduceCtorEq, ↓reduceIte, eq_self, ge_iff_le, gt_iff_lt, hk_si, hk_sj, hk_sr, hl_si, hl_sj, hl_sr, hn_si, hn_sj, hn_sr, hs_si, hs_sj, hs_sr, hi_sj, hi_sr, hj_si, hj_sr, hr_si, hr_sj, hi_si, hj_sj, hr_sr, mg_si, mg_sj, mg_sr, Nat.reduceAdd, Nat.reduceMul, Nat.reduceSub, Nat.reduceLT, Nat.reduceGT, Nat.reduceEqDiff, Nat.reduceLeDiff, Nat.left_eq_add, Nat.add_eq_left, Nat.reduceMod, Nat.reduceDiv, Nat.succ_ne_self, c]
  · have l : (Int32.ofNat n ≤ i) = True := eq_true (hi.elim (fun z => absurd z (of_eq_false c)) id)
    simp (disch := omega) only [e_371, s_371_0, s_371_1, s_371_4, s_371_5, s_371_6, s_371_9, s_371_10, s_371_13, s_371_14, s_371_17, s_371_18, s_371_21, s_371_22, s_371_24, s_371_27, s_371_28, s_371_31, s_371_32, s_371_35, s_371_37, s_371_38, s_371_39, s_371_40, s_371_41, s_371_42, e_371, mv_i_1, mv_l_1, mv_a_1, mv_a_2, mv_a_3, mk2_n, mk2_i, mk2_l, mk2_a, mk2_u, mk2_x, mB_T, mB_F, mS_cons, mS_nil, mSB_T, mSB_F, mca_nil, mca_i, mca_l, mca_r, mca_u, mca_x, mcat_i, mcat_l, mcat_r, mcat_u, mcat_x, mK_some, mK_none, va_rf_s, va_rf_n, lgc_eq, lgc_lt, lgc_gt, lgc_ge, lgc_le, mrd_104, mrd_105, mrd_106, mrd_107, true_and, and_true, and_self, false_and, and_false, true_or, or_true, false_or, or_false, not_true_eq_false, not_false_eq_true, mgb, mga, mgr, mN, reduceCtorEq, ↓reduceIte, eq_self, ge_iff_le, gt_iff_lt, hk_si, hk_sj, hk_sr, hl_si, hl_sj, hl_sr, hn_si, hn_sj, hn_sr, hs_si, hs_sj, hs_sr, hi_sj, hi_sr, hj_si, hj_sr, hr_si, hr_sj, hi_si, hj_sj, hr_sr, mg_si, mg_sj, mg_sr, Nat.reduceAdd, Nat.reduceMul, Nat.reduceSub, Nat.reduceLT, Nat.reduceGT, Nat.reduceEqDiff, Nat.reduceLeDiff, Nat.left_eq_add, Nat.add_eq_left, Nat.reduceMod, Nat.reduceDiv, Nat.succ_ne_self, c, g, t31, g3, l3, e4, nn_mxT, nn_clamp, en, l]
theorem u_371j (F : RF h) (hp : p < 250) (e4 : mh_i h 81 64 = Int32.ofNat p) (en : mh_i h 104 p = Int32.ofNat n) (hn : n ≤ 6) (hk : k < n) (hj : j < 0 ∨ 64 ≤ j) : ∀ Q, mcall d 371 [.ref 81, .int (Int32.ofNat k), .int j] h Q = Q (some (.int 0)) h := fun Q => by
  have g := F.g 81 14 70 (by decide +kernel)
  have t31 := F.f 81 32 104 (by decide +kernel)
  have g3 := F.g 104 100 250 (by decide +kernel)
  have l3 := F.l 104 100 250 (by decide +kernel)
  have n0 : (Int32.ofNat k < 0) = False := nn_neg (by omega)
  have l : (Int32.ofNat n ≤ Int32.ofNat k) = False := by rw [nn_le (by omega) (by omega)]; exact eq_false (by omega)
  clear F
  rcases Classical.propComplete (j < 0) with c | c
  · simp (disch := omega) only [e_371, s_371_0, s_371_1, s_371_4, s_371_5, s_371_6, s_371_9, s_371_10, s_371_13, s_371_14, s_371_17, s_371_18, s_371_21, s_371_22, s_371_24, s_371_27, s_371_28, s_371_31, s_371_32, s_371_35, s_371_37, s_371_38, s_371_39, s_371_40, s_371_41, s_371_42, e_371, mv_i_1, mv_l_1, mv_a_1, mv_a_2, mv_a_3, mk2_n, mk2_i, mk2_l, mk2_a, mk2_u, mk2_x, mB_T, mB_F, mS_cons, mS_nil, mSB_T, mSB_F, mca_nil, mca_i, mca_l, mca_r, mca_u, mca_x, mcat_i, mcat_l, mcat_r, mcat_u, mcat_x, mK_some, mK_none, va_rf_s, va_rf_n, lgc_eq, lgc_lt, lgc_gt, lgc_ge, lgc_le, mrd_104, mrd_105, mrd_106, mrd_107, true_and, and_true, and_self, false_and, and_false, true_or, or_true, false_or, or_false, not_true_eq_false, not_false_eq_true, mgb, mga, mgr, mN, reduceCtorEq, ↓reduceIte, eq_self, ge_iff_le, gt_iff_lt, hk_si, hk_sj, hk_sr, hl_si, hl_sj, hl_sr, hn_si, hn_sj, hn_sr, hs_si, hs_sj, hs_sr, hi_sj, hi_sr, hj_si, hj_sr, hr_si, hr_sj, hi_si, hj_sj, hr_sr, mg_si, mg_sj, mg_sr, Nat.reduceAdd, Nat.reduceMul, Nat.reduceSub, Nat.reduceLT, Nat.reduceGT, Nat.reduceEqDiff, Nat.reduceLeDiff, Nat.left_eq_add, Nat.add_eq_left, Nat.reduceMod, Nat.reduceDiv, Nat.succ_ne_self, n0, g, t31, g3, l3, e4, nn_mxT, nn_clamp, en, l, c]
  · have m : (j < 64) = False := eq_false (fun y => hj.elim (fun z => of_eq_false c z) (fun z => by
      rw [Int32.lt_iff_toInt_lt] at y
      rw [Int32.le_iff_toInt_le] at z
      omega))
    simp (disch := omega) only [e_371, s_371_0, s_371_1, s_371_4, s_371_5, s_371_6, s_371_9, s_371_10, s_371_13, s_371_14, s_371_17, s_371_18, s_371_21, s_371_22, s_371_24, s_371_27, s_371_28, s_371_31, s_371_32, s_371_35, s_371_37, s_371_38, s_371_39, s_371_40, s_371_41, s_371_42, e_371, mv_i_1, mv_l_1, mv_a_1, mv_a_2, mv_a_3, mk2_n, mk2_i, mk2_l, mk2_a, mk2_u, mk2_x, mB_T, mB_F, mS_cons, mS_nil, mSB_T, mSB_F, mca_nil, mca_i, mca_l, mca_r, mca_u, mca_x, mcat_i, mcat_l, mcat_r, mcat_u, mcat_x, mK_some, mK_none, va_rf_s, va_rf_n, lgc_eq, lgc_lt, lgc_gt, lgc_ge, lgc_le, mrd_104, mrd_105, mrd_106, mrd_107, true_and, and_true, and_self, false_and, and_false, true_or, or_true, false_or, or_false, not_true_eq_false, not_false_eq_true, mgb, mga, mgr, mN, reduceCtorEq, ↓reduceIte, eq_self, ge_iff_le, gt_iff_lt, hk_si, hk_sj, hk_sr, hl_si, hl_sj, hl_sr, hn_si, hn_sj, hn_sr, hs_si, hs_sj, hs_sr, hi_sj, hi_sr, hj_si, hj_sr, hr_si, hr_sj, hi_si, hj_sj, hr_sr, mg_si, mg_sj, mg_sr, Nat.reduceAdd, Nat.reduceMul, Nat.reduceSub, Nat.reduceLT, Nat.reduceGT, Nat.reduceEqDiff, Nat.reduceLeDiff, Nat.left_eq_add, Nat.add_eq_left, Nat.reduceMod, Nat.reduceDiv, Nat.succ_ne_self, n0, g, t31, g3, l3, e4, nn_mxT, nn_clamp, en, l, c, m]
theorem u_371 (F : RF h) (hp : p < 250) (e4 : mh_i h 81 64 = Int32.ofNat p) (en : mh_i h 104 p = Int32.ofNat n) (hn : n ≤ 6) (hk : k < n) (hy : y < 64) : ∀ Q, mcall d 371 [.ref 81, .int (Int32.ofNat k), .int (Int32.ofNat y)] h Q = Q (some (.int (mh_i h 2641 (64 * k + y)))) h := fun Q => by
  have g := F.g 81 14 70 (by decide +kernel)
  have t31 := F.f 81 32 104 (by decide +kernel)
  have g3 := F.g 104 100 250 (by decide +kernel)
  have l3 := F.l 104 100 250 (by decide +kernel)
  have t62 := F.f 81 62 2641 (by decide +kernel)
  have g4 := F.g 2641 100 384 (by decide +kernel)
  have l4 := F.l 2641 100 384 (by decide +kernel)
  have n0 : (Int32.ofNat k < 0) = False := nn_neg (by omega)
  have n1 : (Int32.ofNat y < 0) = False := nn_neg (by omega)
  have l : (Int32.ofNat n ≤ Int32.ofNat k) = False := by rw [nn_le (by omega) (by omega)]; exact eq_false (by omega)
  have e : (64 : Int32) = Int32.ofNat 64 := rfl
  have m : (Int32.ofNat y < 64) = True := by rw [e, nn_lt (by omega) (by omega)]; exact eq_true hy
  have ea : 64 * Int32.ofNat k + Int32.ofNat y = Int32.ofNat (64 * k + y) := by rw [e, nn_mul, nn_add]
  clear F e
  simp (disch := omega) only [e_371, s_371_0, s_371_1, s_371_4, s_371_5, s_371_6, s_371_9, s_371_10, s_371_13, s_371_14, s_371_17, s_371_18, s_371_21, s_371_22, s_371_24, s_371_27, s_371_28, s_371_31, s_371_32, s_371_35, s_371_37, s_371_38, s_371_39, s_371_40, s_371_41, s_371_42, e_371, mv_i_1, mv_l_1, mv_a_1, mv_a_2, mv_a_3, mk2_n, mk2_i, mk2_l, mk2_a, mk2_u, mk2_x, mB_T, mB_F, mS_cons, mS_nil, mSB_T, mSB_F, mca_nil, mca_i, mca_l, mca_r, mca_u, mca_x, mcat_i, mcat_l, mcat_r, mcat_u, mcat_x, mK_some, mK_none, va_rf_s, va_rf_n, lgc_eq, lgc_lt, lgc_gt, lgc_ge, lgc_le, mrd_104, mrd_105, mrd_106, mrd_107, true_and, and_true, and_self, false_and, and_false, true_or, or_true, false_or, or_false, not_true_eq_false, not_false_eq_true, mgb, mga, mgr, mN, reduceCtorEq, ↓reduceIte, eq_self, ge_iff_le, gt_iff_lt, hk_si, hk_sj, hk_sr, hl_si, hl_sj, hl_sr, hn_si, hn_sj, hn_sr, hs_si, hs_sj, hs_sr, hi_sj, hi_sr, hj_si, hj_sr, hr_si, hr_sj, hi_si, hj_sj, hr_sr, mg_si, mg_sj, mg_sr, Nat.reduceAdd, Nat.reduceMul, Nat.reduceSub, Nat.reduceLT, Nat.reduceGT, Nat.reduceEqDiff, Nat.reduceLeDiff, Nat.left_eq_add, Nat.add_eq_left, Nat.reduceMod, Nat.reduceDiv, Nat.succ_ne_self, n0, n1, g, t31, g3, l3, e4, nn_mxT, nn_clamp, en, l, m, t62, g4, l4, ea]
end SRs
