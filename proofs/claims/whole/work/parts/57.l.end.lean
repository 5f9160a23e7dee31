set_option maxRecDepth 100000
/-! the class's layEnd -/
/-- a new END -/
def nsH (h : mh_H) : mh_H := mh_si (mh_si (mh_si (mh_si (mh_si (mh_si (mh_new h 9 17) (mh_n h) 8 (-1)) (mh_n h) 0 0) (mh_n h) 1 0) (mh_n h) 2 0) (mh_n h) 3 0) (mh_n h) 4 0
def leH (h : mh_H) (e : Nat) : mh_H := mh_si (mh_si (mh_si (mh_sr (nsH h) 20 e (some (mh_n h))) 21 e 0) 22 e 0) 2 2 (Int32.ofNat (e + 1))
section LEl
variable {d : Nat} {h h1 h2 : mh_H} {e : Nat}
theorem c_92 (F : CF h) (ec : mh_i h 2 2 = Int32.ofNat e) (he : e < 250) (hN : 2644 ≤ mh_n h) : ∀ Q, mcall (d + 2) 92 [.ref 2] h Q = Q none (leH h e) := by
  intro Q
  have g2 := F.g 2 4 20 (by decide +kernel)
  have t3 := F.f 2 3 20 (by decide +kernel)
  have g20 := (F.g 20 105 250 (by decide +kernel)).1
  have g20b := (F.g 20 105 250 (by decide +kernel)).2
  have l20 := F.l 20 105 250 (by decide +kernel)
  have t4 := F.f 2 4 21 (by decide +kernel)
  have g21 := F.g 21 100 250 (by decide +kernel)
  have l21 := F.l 21 100 250 (by decide +kernel)
  have t5 := F.f 2 5 22 (by decide +kernel)
  have g22 := F.g 22 100 250 (by decide +kernel)
  have l22 := F.l 22 100 250 (by decide +kernel)
  have e1' : ∀ k, Int32.ofNat k + 1 = Int32.ofNat (k + 1) := fun k => nn_add (a := k) (b := 1)
  have ac : me_ac 105 = 9 := rfl
  have k107 : (105 : Nat) < 107 := by decide
  have n2 : (2 = mh_n h) = False := eq_false (by omega)
  have n20 : (20 = mh_n h) = False := eq_false (by omega)
  have n21 : (21 = mh_n h) = False := eq_false (by omega)
  have n22 : (22 = mh_n h) = False := eq_false (by omega)
  have g20c : 20 < mh_n h + 1 := by omega
  unfold leH nsH
  clear F
  simp (disch := omega) only [s_92_0, s_92_1, s_92_4, s_92_5, s_92_8, s_92_11, s_92_12, s_92_13, s_92_14, s_92_15, s_92_16, s_92_17, s_92_20, s_92_20n, s_92_21, s_92_22, s_92_25, s_92_26, s_92_29, s_92_30, s_92_31, s_92_32, s_92_35, s_92_36, s_92_39, s_92_40, s_92_41, s_92_42, s_92_43, s_92_46, s_92_47, s_92_48, s_92_51, e_92, s_164_0, s_164_1, s_164_4, s_164_5, s_164_6, s_164_9, s_164_10, s_164_11, s_164_14, s_164_15, s_164_16, s_164_19, s_164_20, s_164_21, s_164_24, s_164_25, s_164_27, s_164_30, s_164_31, s_164_33, s_164_36, e_164, mv_i_1, mv_l_1, mv_a_1, mv_a_2, mv_a_3, mk2_n, mk2_i, mk2_l, mk2_a, mk2_u, mk2_x, mB_T, mB_F, mS_cons, mS_nil, mSB_T, mSB_F, mca_nil, mca_i, mca_l, mca_r, mca_u, mca_x, mcat_i, mcat_l, mcat_r, mcat_u, mcat_x, mK_some, mK_none, va_rf_s, va_rf_n, lgc_eq, lgc_lt, lgc_gt, lgc_ge, lgc_le, mrd_104, mrd_105, mrd_106, mrd_107, true_and, and_true, and_self, false_and, and_false, true_or, or_true, false_or, or_false, not_true_eq_false, not_false_eq_true, mgb, mga, mgr, mN, reduceCtorEq, ↓reduceIte, eq_self, ge_iff_le, gt_iff_lt, hk_si, hk_sj, hk_sr, hl_si, hl_sj, hl_sr, hn_si, hn_sj, hn_sr, hs_si, hs_sj, hs_sr, hi_sj, hi_sr, hj_si, hj_sr, hr_si, hr_sj, hi_si, hj_sj, hr_sr, mg_si, mg_sj, mg_sr, Nat.reduceAdd, Nat.reduceMul, Nat.reduceSub, Nat.reduceLT, Nat.reduceGT, Nat.reduceEqDiff, Nat.reduceLeDiff, Nat.left_eq_add, Nat.add_eq_left, Nat.reduceMod, Nat.reduceDiv, Nat.succ_ne_self, hk_new, hl_new, hi_new, hr_nw, hn_new, mg_new, g2, t3, g20, g20b, g20c, l20, ac, k107, ec, t4, g21, l21, t5, g22, l22, n2, n20, n21, n22, e1', nn_mxT, nn_clamp]
theorem ns_i {y j : Nat} : mh_i (nsH h) y j = if y = mh_n h then (if j = 8 then -1 else 0) else mh_i h y j := by
  unfold nsH
  simp only [hi_si, hi_new]
  by_cases c : y = mh_n h
  · simp only [c, true_and, if_true]
    by_cases c8 : j = 8
    · subst c8; rfl
    · repeat' split
      all_goals first | rfl | omega
  · simp only [c, false_and, if_false]
theorem le_i {y j : Nat} (hy : y < mh_n h) (w : ¬ ((y = 21 ∨ y = 22) ∧ j = e)) (w2 : ¬ (y = 2 ∧ j = 2)) : mh_i (leH h e) y j = mh_i h y j := by
  unfold leH
  rw [hi_si, if_neg w2, hi_si, if_neg (by omega), hi_si, if_neg (by omega), hi_sr, ns_i, if_neg (by omega)]
theorem le_n {j : Nat} (hN : 2644 ≤ mh_n h) : mh_i (leH h e) (mh_n h) j = if j = 8 then -1 else 0 := by
  unfold leH
  rw [hi_si, if_neg (by omega), hi_si, if_neg (by omega), hi_si, if_neg (by omega), hi_sr, ns_i, if_pos rfl]
theorem le_v : mh_i (leH h e) 21 e = 0 ∧ mh_i (leH h e) 22 e = 0 ∧ mh_i (leH h e) 2 2 = Int32.ofNat (e + 1) := by
  unfold leH
  exact ⟨by rw [hi_si, if_neg (by omega), hi_si, if_neg (by omega), hi_si, if_pos ⟨rfl, rfl⟩], by rw [hi_si, if_neg (by omega), hi_si, if_pos ⟨rfl, rfl⟩], by rw [hi_si, if_pos ⟨rfl, rfl⟩]⟩
theorem ns_r {y j : Nat} : mh_r (nsH h) y j = if y = mh_n h then none else mh_r h y j := by
  unfold nsH
  simp only [hr_si, hr_nw]
theorem le_r {y j : Nat} (hy : y < mh_n h) : mh_r (leH h e) y j = if y = 20 ∧ j = e then some (mh_n h) else mh_r h y j := by
  unfold leH
  simp only [hr_si, hr_sr]
  rw [ns_r, if_neg (show ¬ y = mh_n h by omega)]
theorem le_k {y : Nat} : mh_k (leH h e) y = (if y = mh_n h then 9 else mh_k h y) ∧ mh_l (leH h e) y = (if y = mh_n h then 17 else mh_l h y) ∧ mh_n (leH h e) = mh_n h + 1 ∧ mh_s (leH h e) = mh_s h + 17 := by
  unfold leH nsH
  exact ⟨by simp only [hk_si, hk_sr, hk_new], by simp only [hl_si, hl_sr, hl_new], by simp only [hn_si, hn_sr, hn_new], by simp only [hs_si, hs_sr, hs_new]⟩
end LEl
