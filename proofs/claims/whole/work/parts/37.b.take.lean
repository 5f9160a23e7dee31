set_option maxRecDepth 100000
/-! Analysis.take -/
theorem n64_set {b b' : Nat → Bool} {k : Nat} (h0 : b k = false) (h1 : b' k = true) (e : ∀ i, i ≠ k → b' i = b i) {n : Nat} (hk : k < n) : n64 b' n = n64 b n + 1 := by
  rw [n64_del h1 n hk]
  congr 1
  refine n64_cong n (fun i _ => ?_)
  by_cases c : i = k
  · rw [decide_eq_true c, c, h0, Bool.not_true, Bool.and_false]
  · rw [decide_eq_false c, Bool.not_false, Bool.and_true, e i c]
section TK
variable {d : Nat} {h : mh_H} {o : Nat}
theorem c_276 {Q : Option Value → mh_H → Prop} (g : mg h o 13) : mcall d 276 [.ref o] h Q = Q none (kn_i o h) := by
  have g1 := g.1
  have g2 := g.2
  have n0 : ¬ o = mh_n h := by omega
  have n1 : ∀ i, ¬ o = mh_n h + i := fun i => by omega
  unfold kn_i
  simp (disch := omega) only [s_276_0, s_276_1, s_276_4, s_276_5, s_276_8, s_276_10, s_276_10n, s_276_13, s_276_14, s_276_16, s_276_18, s_276_18n, s_276_21, s_276_22, s_276_24, s_276_26, s_276_26n, s_276_29, s_276_30, s_276_32, s_276_34, s_276_34n, s_276_37, e_276, mv_i_1, mv_l_1, mv_a_1, mv_a_2, mv_a_3, mk2_n, mk2_i, mk2_l, mk2_a, mk2_u, mk2_x, mB_T, mB_F, mS_cons, mS_nil, mSB_T, mSB_F, mca_nil, mca_i, mca_l, mca_r, mca_u, mca_x, mcat_i, mcat_l, mcat_r, mcat_u, mcat_x, mK_some, mK_none, va_rf_s, va_rf_n, lgc_eq, lgc_lt, lgc_gt, lgc_ge, lgc_le, mrd_104, mrd_105, mrd_106, mrd_107, true_and, and_true, and_self, false_and, and_false, true_or, or_true, false_or, or_false, not_true_eq_false, not_false_eq_true, mgb, mga, mgr, mN, reduceCtorEq, ↓reduceIte, eq_self, ge_iff_le, gt_iff_lt, hk_si, hk_sj, hk_sr, hl_si, hl_sj, hl_sr, hn_si, hn_sj, hn_sr, hs_si, hs_sj, hs_sr, hi_sj, hi_sr, hj_si, hj_sr, hr_si, hr_sj, hi_si, hj_sj, hr_sr, mg_si, mg_sj, mg_sr, Nat.reduceAdd, Nat.reduceMul, Nat.reduceSub, Nat.reduceLT, Nat.reduceGT, Nat.reduceEqDiff, Nat.reduceLeDiff, Nat.left_eq_add, Nat.add_eq_left, Nat.reduceMod, Nat.reduceDiv, Nat.succ_ne_self, hk_new, hn_new, mg_new, g, n0, n1, if_false, Nat.add_assoc, show (576 : Int32).toNatClampNeg = 576 by decide, show (6 : Int32).toNatClampNeg = 6 by decide, show ((0 : Int32) ≤ 576) = True by decide, show ((0 : Int32) ≤ 6) = True by decide]
/-- a new Known -/
def tkH (h : mh_H) (k : Nat) : mh_H := mh_sr (kn_i (mh_n h) (mh_new h 13 7)) 119 k (some (mh_n h))
theorem tk_n {k : Nat} : mh_n (tkH h k) = mh_n h + 5 := nrfl rfl
theorem tk_s {k : Nat} : mh_s (tkH h k) = mh_s h + 601 := nrfl rfl
theorem tk_o {k b j : Nat} (hb : b < mh_n h) : mh_k (tkH h k) b = mh_k h b ∧ mh_l (tkH h k) b = mh_l h b ∧ mh_i (tkH h k) b j = mh_i h b j ∧ mh_j (tkH h k) b j = mh_j h b j ∧ mh_r (tkH h k) b j = if b = 119 ∧ j = k then some (mh_n h) else mh_r h b j := by
  have n0 : ¬ b = mh_n h := by omega
  have n1 : ∀ i, ¬ b = mh_n h + i := fun i => by omega
  unfold tkH kn_i
  simp only [hk_sr, hl_sr, hi_sr, hj_sr, hr_sr, hk_new, hl_new, hi_new, hj_new, hr_nw, hn_sr, hn_new, Nat.add_assoc, Nat.reduceAdd, n0, n1, if_false, false_and, and_self]
theorem tk_ko {k : Nat} (h119 : 119 < mh_n h) : ko (tkH h k) (mh_n h) := by
  have n0 : ¬ mh_n h = 119 := by omega
  unfold ko mg tkH kn_i
  simp only [hk_sr, hl_sr, hr_sr, hk_new, hl_new, hr_nw, hn_sr, hn_new, Nat.add_assoc, Nat.reduceAdd, n0, if_false, if_true, false_and, and_self, and_true, true_and, Nat.left_eq_add, Nat.add_eq_left, Nat.add_left_cancel_iff, Nat.reduceEqDiff, Nat.lt_add_right_iff_pos, Nat.add_lt_add_iff_left, Nat.reduceLT]
end TK
