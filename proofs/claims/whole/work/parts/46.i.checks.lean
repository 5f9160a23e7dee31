set_option maxRecDepth 100000
/-! the desk's checks of what it is asked, in the class -/
def okP (cnt : Nat) (p : Int32) : Bool := decide (¬ p < 0 ∧ ¬ Int32.ofNat cnt ≤ p)
def okT (n : Nat) (x s y t : Int32) : Bool := decide (¬ x < 0 ∧ ¬ Int32.ofNat n ≤ x ∧ ¬ y < 0 ∧ ¬ Int32.ofNat n ≤ y) && (decide ((s = 1 ∨ s = -1) ∧ (t = 1 ∨ t = -1)) && decide (x = y → s = t))
def okB (G : pgm) (cnt : Nat) (p x s y t : Int32) : Bool := okP cnt p && okT (G.n p.toNatClampNeg) x s y t
def okA (G : pgm) (cnt : Nat) (p a : Int32) : Bool := okP cnt p && okP (G.a p.toNatClampNeg) a
/-- a slot with its sign -/
def sgx (x s : Int32) : Nat := if s = 1 then 2 * x.toNatClampNeg else 2 * x.toNatClampNeg + 1
theorem kbT : kb true = 1 := rfl
theorem kbF : kb false = 0 := rfl
theorem kb0 {b : Bool} : (kb b = 0) = (b = false) := by cases b <;> simp [kb]
theorem okP_n {cnt : Nat} {p : Int32} (hc : cnt < 2147483648) (h : okP cnt p = true) : ∃ q, q < cnt ∧ p = Int32.ofNat q ∧ p.toNatClampNeg = q := by
  unfold okP at h
  obtain ⟨h1, h2⟩ := of_decide_eq_true h
  have a1 : 0 ≤ p.toInt := by
    rw [Int32.lt_iff_toInt_lt] at h1
    have : (0 : Int32).toInt = 0 := rfl
    omega
  have e : Int32.ofNat p.toInt.toNat = p := by
    apply Int32.toInt_inj.mp
    have b := Int32.toInt_lt p
    rw [nn_int (by omega)]
    omega
  refine ⟨p.toInt.toNat, ?_, e.symm, rfl⟩
  rw [← e, nn_le hc (by have b := Int32.toInt_lt p; omega)] at h2
  omega
section CHs
variable {d : Nat} {h : mh_H} {Y C E TT UU SC SP nC nE nS : Nat} {G : pgm} {cnt : Nat} {p x s y t : Int32}
theorem v_192 (B : BS h Y C E TT UU SC SP nC nE nS) (H : PH h G cnt) : ∀ Q, mcall d 192 [.ref 0, .int p] h Q = Q (some (.int (kb (okP cnt p)))) h := fun Q => by
  have F := B.F
  have g0 := F.g 0 11 15 (by decide +kernel)
  have t2 := F.f 0 2 2 (by decide +kernel)
  have g2 := F.g 2 4 20 (by decide +kernel)
  have c2 := H.c
  unfold okP
  clear B H F
  by_cases c1 : p < 0 <;> by_cases c2' : Int32.ofNat cnt ≤ p <;> simp (disch := omega) only [s_192_0, s_192_1, s_192_4, s_192_5, s_192_6, s_192_9, s_192_12, s_192_15, s_192_16, s_192_19, s_192_20, e_192, mv_i_1, mv_l_1, mv_a_1, mv_a_2, mv_a_3, mk2_n, mk2_i, mk2_l, mk2_a, mk2_u, mk2_x, mB_T, mB_F, mS_cons, mS_nil, mSB_T, mSB_F, mca_nil, mca_i, mca_l, mca_r, mca_u, mca_x, mcat_i, mcat_l, mcat_r, mcat_u, mcat_x, mK_some, mK_none, va_rf_s, va_rf_n, lgc_eq, lgc_lt, lgc_gt, lgc_ge, lgc_le, mrd_104, mrd_105, mrd_106, mrd_107, true_and, and_true, and_self, false_and, and_false, true_or, or_true, false_or, or_false, not_true_eq_false, not_false_eq_true, mgb, mga, mgr, mN, reduceCtorEq, ↓reduceIte, eq_self, ge_iff_le, gt_iff_lt, hk_si, hk_sj, hk_sr, hl_si, hl_sj, hl_sr, hn_si, hn_sj, hn_sr, hs_si, hs_sj, hs_sr, hi_sj, hi_sr, hj_si, hj_sr, hr_si, hr_sj, hi_si, hj_sj, hr_sr, mg_si, mg_sj, mg_sr, Nat.reduceAdd, Nat.reduceMul, Nat.reduceSub, Nat.reduceLT, Nat.reduceGT, Nat.reduceEqDiff, Nat.reduceLeDiff, Nat.left_eq_add, Nat.add_eq_left, Nat.reduceMod, Nat.reduceDiv, Nat.succ_ne_self, g0, t2, g2, c2, c1, c2', decide_true, decide_false, kbT, kbF, not_false_eq_true]
theorem ib_1 {n : Nat} {a0 x8 x7 : Option Value} : ∀ Q, mw d 193 Q 20 [a0, some (.int p), some (.int x), some (.int s), some (.int y), some (.int t), some (.int (Int32.ofNat n)), x7, x8] [] h = mw d 193 Q 49 [a0, some (.int p), some (.int x), some (.int s), some (.int y), some (.int t), some (.int (Int32.ofNat n)), some (.int (kb (decide (¬ x < 0 ∧ ¬ Int32.ofNat n ≤ x ∧ ¬ y < 0 ∧ ¬ Int32.ofNat n ≤ y)))), x8] [] h := fun Q => by
  by_cases c1 : x < 0 <;> by_cases c2 : Int32.ofNat n ≤ x <;> by_cases c3 : y < 0 <;> by_cases c4 : Int32.ofNat n ≤ y <;> simp (disch := omega) only [s_193_0, s_193_1, s_193_2, s_193_5, s_193_8, s_193_9, s_193_10, s_193_11, s_193_14, s_193_15, s_193_18, s_193_20, s_193_21, s_193_24, s_193_25, s_193_27, s_193_30, s_193_32, s_193_35, s_193_37, s_193_39, s_193_42, s_193_43, s_193_46, s_193_47, s_193_50, s_193_51, s_193_54, s_193_55, s_193_56, s_193_59, s_193_61, s_193_62, s_193_65, s_193_67, s_193_68, s_193_71, s_193_72, s_193_75, s_193_76, s_193_78, s_193_80, s_193_83, s_193_85, s_193_88, s_193_89, s_193_91, s_193_94, s_193_95, s_193_97, s_193_100, s_193_101, s_193_104, s_193_105, e_193, mv_i_1, mv_l_1, mv_a_1, mv_a_2, mv_a_3, mk2_n, mk2_i, mk2_l, mk2_a, mk2_u, mk2_x, mB_T, mB_F, mS_cons, mS_nil, mSB_T, mSB_F, mca_nil, mca_i, mca_l, mca_r, mca_u, mca_x, mcat_i, mcat_l, mcat_r, mcat_u, mcat_x, mK_some, mK_none, va_rf_s, va_rf_n, lgc_eq, lgc_lt, lgc_gt, lgc_ge, lgc_le, mrd_104, mrd_105, mrd_106, mrd_107, true_and, and_true, and_self, false_and, and_false, true_or, or_true, false_or, or_false, not_true_eq_false, not_false_eq_true, mgb, mga, mgr, mN, reduceCtorEq, ↓reduceIte, eq_self, ge_iff_le, gt_iff_lt, hk_si, hk_sj, hk_sr, hl_si, hl_sj, hl_sr, hn_si, hn_sj, hn_sr, hs_si, hs_sj, hs_sr, hi_sj, hi_sr, hj_si, hj_sr, hr_si, hr_sj, hi_si, hj_sj, hr_sr, mg_si, mg_sj, mg_sr, Nat.reduceAdd, Nat.reduceMul, Nat.reduceSub, Nat.reduceLT, Nat.reduceGT, Nat.reduceEqDiff, Nat.reduceLeDiff, Nat.left_eq_add, Nat.add_eq_left, Nat.reduceMod, Nat.reduceDiv, Nat.succ_ne_self, c1, c2, c3, c4, decide_true, decide_false, kbT, kbF, not_false_eq_true]
theorem ib_2 {n : Nat} {b : Int32} {a0 x8 : Option Value} : ∀ Q, mw d 193 Q 49 [a0, some (.int p), some (.int x), some (.int s), some (.int y), some (.int t), some (.int (Int32.ofNat n)), some (.int b), x8] [] h = mw d 193 Q 78 [a0, some (.int p), some (.int x), some (.int s), some (.int y), some (.int t), some (.int (Int32.ofNat n)), some (.int b), some (.int (kb (decide ((s = 1 ∨ s = -1) ∧ (t = 1 ∨ t = -1)))))] [] h := fun Q => by
  rcases Classical.propComplete (s = 1) with c1 | c1 <;> rcases Classical.propComplete (s = -1) with c2 | c2 <;> rcases Classical.propComplete (t = 1) with c3 | c3 <;> rcases Classical.propComplete (t = -1) with c4 | c4 <;> simp (disch := omega) only [s_193_0, s_193_1, s_193_2, s_193_5, s_193_8, s_193_9, s_193_10, s_193_11, s_193_14, s_193_15, s_193_18, s_193_20, s_193_21, s_193_24, s_193_25, s_193_27, s_193_30, s_193_32, s_193_35, s_193_37, s_193_39, s_193_42, s_193_43, s_193_46, s_193_47, s_193_49, s_193_50, s_193_51, s_193_54, s_193_55, s_193_56, s_193_59, s_193_61, s_193_62, s_193_65, s_193_67, s_193_68, s_193_71, s_193_72, s_193_75, s_193_76, s_193_80, s_193_83, s_193_85, s_193_88, s_193_89, s_193_91, s_193_94, s_193_95, s_193_97, s_193_100, s_193_101, s_193_104, s_193_105, e_193, mv_i_1, mv_l_1, mv_a_1, mv_a_2, mv_a_3, mk2_n, mk2_i, mk2_l, mk2_a, mk2_u, mk2_x, mB_T, mB_F, mS_cons, mS_nil, mSB_T, mSB_F, mca_nil, mca_i, mca_l, mca_r, mca_u, mca_x, mcat_i, mcat_l, mcat_r, mcat_u, mcat_x, mK_some, mK_none, va_rf_s, va_rf_n, lgc_eq, lgc_lt, lgc_gt, lgc_ge, lgc_le, mrd_104, mrd_105, mrd_106, mrd_107, true_and, and_true, and_self, false_and, and_false, true_or, or_true, false_or, or_false, not_true_eq_false, not_false_eq_true, mgb, mga, mgr, mN, reduceCtorEq, ↓reduceIte, eq_self, ge_iff_le, gt_iff_lt, hk_si, hk_sj, hk_sr, hl_si, hl_sj, hl_sr, hn_si, hn_sj, hn_sr, hs_si, hs_sj, hs_sr, hi_sj, hi_sr, hj_si, hj_sr, hr_si, hr_sj, hi_si, hj_sj, hr_sr, mg_si, mg_sj, mg_sr, Nat.reduceAdd, Nat.reduceMul, Nat.reduceSub, Nat.reduceLT, Nat.reduceGT, Nat.reduceEqDiff, Nat.reduceLeDiff, Nat.left_eq_add, Nat.add_eq_left, Nat.reduceMod, Nat.reduceDiv, Nat.succ_ne_self, c1, c2, c3, c4, decide_true, decide_false, kbT, kbF, not_false_eq_true]
theorem ib_3 {n : Nat} {b1 b2 : Bool} {a0 : Option Value} : ∀ Q, mw d 193 Q 78 [a0, some (.int p), some (.int x), some (.int s), some (.int y), some (.int t), some (.int (Int32.ofNat n)), some (.int (kb b1)), some (.int (kb b2))] [] h = Q (some (.int (kb (b1 && (b2 && decide (x = y → s = t)))))) h := fun Q => by
  have e00 : ((0 : Int32) = 0) = True := by decide
  have e10 : ((1 : Int32) = 0) = False := by decide
  cases b1 <;> cases b2 <;> rcases Classical.propComplete (x = y) with c1 | c1 <;> rcases Classical.propComplete (s = t) with c2 | c2 <;> simp (disch := omega) only [s_193_0, s_193_1, s_193_2, s_193_5, s_193_8, s_193_9, s_193_10, s_193_11, s_193_14, s_193_15, s_193_18, s_193_20, s_193_21, s_193_24, s_193_25, s_193_27, s_193_30, s_193_32, s_193_35, s_193_37, s_193_39, s_193_42, s_193_43, s_193_46, s_193_47, s_193_49, s_193_50, s_193_51, s_193_54, s_193_55, s_193_56, s_193_59, s_193_61, s_193_62, s_193_65, s_193_67, s_193_68, s_193_71, s_193_72, s_193_75, s_193_76, s_193_78, s_193_80, s_193_83, s_193_85, s_193_88, s_193_89, s_193_91, s_193_94, s_193_95, s_193_97, s_193_100, s_193_101, s_193_104, s_193_105, e_193, mv_i_1, mv_l_1, mv_a_1, mv_a_2, mv_a_3, mk2_n, mk2_i, mk2_l, mk2_a, mk2_u, mk2_x, mB_T, mB_F, mS_cons, mS_nil, mSB_T, mSB_F, mca_nil, mca_i, mca_l, mca_r, mca_u, mca_x, mcat_i, mcat_l, mcat_r, mcat_u, mcat_x, mK_some, mK_none, va_rf_s, va_rf_n, lgc_eq, lgc_lt, lgc_gt, lgc_ge, lgc_le, mrd_104, mrd_105, mrd_106, mrd_107, true_and, and_true, and_self, false_and, and_false, true_or, or_true, false_or, or_false, not_true_eq_false, not_false_eq_true, mgb, mga, mgr, mN, reduceCtorEq, ↓reduceIte, eq_self, ge_iff_le, gt_iff_lt, hk_si, hk_sj, hk_sr, hl_si, hl_sj, hl_sr, hn_si, hn_sj, hn_sr, hs_si, hs_sj, hs_sr, hi_sj, hi_sr, hj_si, hj_sr, hr_si, hr_sj, hi_si, hj_sj, hr_sr, mg_si, mg_sj, mg_sr, Nat.reduceAdd, Nat.reduceMul, Nat.reduceSub, Nat.reduceLT, Nat.reduceGT, Nat.reduceEqDiff, Nat.reduceLeDiff, Nat.left_eq_add, Nat.add_eq_left, Nat.reduceMod, Nat.reduceDiv, Nat.succ_ne_self, c1, c2, decide_true, decide_false, kbT, kbF, not_false_eq_true, e00, e10, Bool.and_true, Bool.true_and, Bool.false_and, Bool.and_false, forall_const, implies_true, false_implies, true_implies]
theorem v_193 (B : BS h Y C E TT UU SC SP nC nE nS) (H : PH h G cnt) : ∀ Q, mcall (d + 1) 193 [.ref 0, .int p, .int x, .int s, .int y, .int t] h Q = Q (some (.int (kb (okB G cnt p x s y t)))) h := fun Q => by
  have cb := H.b
  have F := B.F
  have g0 := F.g 0 11 15 (by decide +kernel)
  have t2 := F.f 0 2 2 (by decide +kernel)
  have g2 := F.g 2 4 20 (by decide +kernel)
  have c192 := v_192 (d := d) (p := p) B H
  have e00 : ((0 : Int32) = 0) = True := by decide
  have e10 : ((1 : Int32) = 0) = False := by decide
  unfold okB
  cases c : okP cnt p with
  | false =>
    rw [c] at c192
    clear B H F
    simp (disch := omega) only [s_193_0, s_193_1, s_193_2, s_193_5, s_193_8, s_193_9, s_193_10, s_193_11, s_193_14, s_193_15, s_193_18, s_193_20, s_193_21, s_193_24, s_193_25, s_193_27, s_193_30, s_193_32, s_193_35, s_193_37, s_193_39, s_193_42, s_193_43, s_193_46, s_193_47, s_193_49, s_193_50, s_193_51, s_193_54, s_193_55, s_193_56, s_193_59, s_193_61, s_193_62, s_193_65, s_193_67, s_193_68, s_193_71, s_193_72, s_193_75, s_193_76, s_193_78, s_193_80, s_193_83, s_193_85, s_193_88, s_193_89, s_193_91, s_193_94, s_193_95, s_193_97, s_193_100, s_193_101, s_193_104, s_193_105, e_193, mv_i_1, mv_l_1, mv_a_1, mv_a_2, mv_a_3, mk2_n, mk2_i, mk2_l, mk2_a, mk2_u, mk2_x, mB_T, mB_F, mS_cons, mS_nil, mSB_T, mSB_F, mca_nil, mca_i, mca_l, mca_r, mca_u, mca_x, mcat_i, mcat_l, mcat_r, mcat_u, mcat_x, mK_some, mK_none, va_rf_s, va_rf_n, lgc_eq, lgc_lt, lgc_gt, lgc_ge, lgc_le, mrd_104, mrd_105, mrd_106, mrd_107, true_and, and_true, and_self, false_and, and_false, true_or, or_true, false_or, or_false, not_true_eq_false, not_false_eq_true, mgb, mga, mgr, mN, reduceCtorEq, ↓reduceIte, eq_self, ge_iff_le, gt_iff_lt, hk_si, hk_sj, hk_sr, hl_si, hl_sj, hl_sr, hn_si, hn_sj, hn_sr, hs_si, hs_sj, hs_sr, hi_sj, hi_sr, hj_si, hj_sr, hr_si, hr_sj, hi_si, hj_sj, hr_sr, mg_si, mg_sj, mg_sr, Nat.reduceAdd, Nat.reduceMul, Nat.reduceSub, Nat.reduceLT, Nat.reduceGT, Nat.reduceEqDiff, Nat.reduceLeDiff, Nat.left_eq_add, Nat.add_eq_left, Nat.reduceMod, Nat.reduceDiv, Nat.succ_ne_self, g0, c192, kbF, e00, Bool.false_and]
  | true =>
    rw [c] at c192
    obtain ⟨q, hq, rfl, -⟩ := okP_n (by omega) c
    obtain ⟨St, nb, nm, na, nx, m1, m2, m3, m4, m5, m6, m7, m8, m9⟩ := H.s q hq
    have c80 := c_80 (d := d) (nm := nm) B.F (by omega : q < 250) m4 m1 m2 m5
    rw [m6] at c80
    have cl := nn_clamp (a := q) (by omega)
    have key := fun Q => (ib_1 (h := h) (d := d + 1) (p := Int32.ofNat q) (x := x) (s := s) (y := y) (t := t) (n := G.n q) (a0 := some (.ref 0)) (x7 := none) (x8 := none) Q).trans ((ib_2 Q).trans (ib_3 Q))
    unfold okT
    rw [cl, Bool.true_and, ← key Q]
    clear B H F key
    simp (disch := omega) only [s_193_0, s_193_1, s_193_2, s_193_5, s_193_8, s_193_9, s_193_10, s_193_11, s_193_14, s_193_15, s_193_18, s_193_21, s_193_24, s_193_25, s_193_27, s_193_30, s_193_32, s_193_35, s_193_37, s_193_39, s_193_42, s_193_43, s_193_46, s_193_47, s_193_49, s_193_50, s_193_51, s_193_54, s_193_55, s_193_56, s_193_59, s_193_61, s_193_62, s_193_65, s_193_67, s_193_68, s_193_71, s_193_72, s_193_75, s_193_76, s_193_78, s_193_80, s_193_83, s_193_85, s_193_88, s_193_89, s_193_91, s_193_94, s_193_95, s_193_97, s_193_100, s_193_101, s_193_104, s_193_105, e_193, mv_i_1, mv_l_1, mv_a_1, mv_a_2, mv_a_3, mk2_n, mk2_i, mk2_l, mk2_a, mk2_u, mk2_x, mB_T, mB_F, mS_cons, mS_nil, mSB_T, mSB_F, mca_nil, mca_i, mca_l, mca_r, mca_u, mca_x, mcat_i, mcat_l, mcat_r, mcat_u, mcat_x, mK_some, mK_none, va_rf_s, va_rf_n, lgc_eq, lgc_lt, lgc_gt, lgc_ge, lgc_le, mrd_104, mrd_105, mrd_106, mrd_107, true_and, and_true, and_self, false_and, and_false, true_or, or_true, false_or, or_false, not_true_eq_false, not_false_eq_true, mgb, mga, mgr, mN, reduceCtorEq, ↓reduceIte, eq_self, ge_iff_le, gt_iff_lt, hk_si, hk_sj, hk_sr, hl_si, hl_sj, hl_sr, hn_si, hn_sj, hn_sr, hs_si, hs_sj, hs_sr, hi_sj, hi_sr, hj_si, hj_sr, hr_si, hr_sj, hi_si, hj_sj, hr_sr, mg_si, mg_sj, mg_sr, Nat.reduceAdd, Nat.reduceMul, Nat.reduceSub, Nat.reduceLT, Nat.reduceGT, Nat.reduceEqDiff, Nat.reduceLeDiff, Nat.left_eq_add, Nat.add_eq_left, Nat.reduceMod, Nat.reduceDiv, Nat.succ_ne_self, g0, t2, g2, c192, kbT, e10, c80]
theorem v_194 (B : BS h Y C E TT UU SC SP nC nE nS) (H : PH h G cnt) {a : Int32} : ∀ Q, mcall (d + 1) 194 [.ref 0, .int p, .int a] h Q = Q (some (.int (kb (okA G cnt p a)))) h := fun Q => by
  have cb := H.b
  have F := B.F
  have g0 := F.g 0 11 15 (by decide +kernel)
  have t2 := F.f 0 2 2 (by decide +kernel)
  have g2 := F.g 2 4 20 (by decide +kernel)
  have c192 := v_192 (d := d) (p := p) B H
  have e00 : ((0 : Int32) = 0) = True := by decide
  have e10 : ((1 : Int32) = 0) = False := by decide
  unfold okA
  cases c : okP cnt p with
  | false =>
    rw [c] at c192
    clear B H F
    simp (disch := omega) only [s_194_0, s_194_1, s_194_2, s_194_5, s_194_8, s_194_9, s_194_12, s_194_13, s_194_14, s_194_17, s_194_18, s_194_21, s_194_24, s_194_25, s_194_28, s_194_29, e_194, mv_i_1, mv_l_1, mv_a_1, mv_a_2, mv_a_3, mk2_n, mk2_i, mk2_l, mk2_a, mk2_u, mk2_x, mB_T, mB_F, mS_cons, mS_nil, mSB_T, mSB_F, mca_nil, mca_i, mca_l, mca_r, mca_u, mca_x, mcat_i, mcat_l, mcat_r, mcat_u, mcat_x, mK_some, mK_none, va_rf_s, va_rf_n, lgc_eq, lgc_lt, lgc_gt, lgc_ge, lgc_le, mrd_104, mrd_105, mrd_106, mrd_107, true_and, and_true, and_self, false_and, and_false, true_or, or_true, false_or, or_false, not_true_eq_false, not_false_eq_true, mgb, mga, mgr, mN, reduceCtorEq, ↓reduceIte, eq_self, ge_iff_le, gt_iff_lt, hk_si, hk_sj, hk_sr, hl_si, hl_sj, hl_sr, hn_si, hn_sj, hn_sr, hs_si, hs_sj, hs_sr, hi_sj, hi_sr, hj_si, hj_sr, hr_si, hr_sj, hi_si, hj_sj, hr_sr, mg_si, mg_sj, mg_sr, Nat.reduceAdd, Nat.reduceMul, Nat.reduceSub, Nat.reduceLT, Nat.reduceGT, Nat.reduceEqDiff, Nat.reduceLeDiff, Nat.left_eq_add, Nat.add_eq_left, Nat.reduceMod, Nat.reduceDiv, Nat.succ_ne_self, g0, c192, kbF, e00, Bool.false_and]
  | true =>
    rw [c] at c192
    obtain ⟨q, hq, rfl, -⟩ := okP_n (by omega) c
    obtain ⟨St, nb, nm, na, nx, m1, m2, m3, m4, m5, m6, m7, m8, m9⟩ := H.s q hq
    have c81 := c_81 (d := d) (nm := nx) B.F (by omega : q < 250) m7 m1 m2 m8
    rw [m9] at c81
    have cl := nn_clamp (a := q) (by omega)
    rw [cl, Bool.true_and]
    unfold okP
    clear B H F c
    by_cases c1 : a < 0 <;> by_cases c2' : Int32.ofNat (G.a q) ≤ a <;> simp (disch := omega) only [s_194_0, s_194_1, s_194_2, s_194_5, s_194_8, s_194_9, s_194_12, s_194_13, s_194_14, s_194_17, s_194_18, s_194_21, s_194_24, s_194_25, s_194_28, s_194_29, e_194, mv_i_1, mv_l_1, mv_a_1, mv_a_2, mv_a_3, mk2_n, mk2_i, mk2_l, mk2_a, mk2_u, mk2_x, mB_T, mB_F, mS_cons, mS_nil, mSB_T, mSB_F, mca_nil, mca_i, mca_l, mca_r, mca_u, mca_x, mcat_i, mcat_l, mcat_r, mcat_u, mcat_x, mK_some, mK_none, va_rf_s, va_rf_n, lgc_eq, lgc_lt, lgc_gt, lgc_ge, lgc_le, mrd_104, mrd_105, mrd_106, mrd_107, true_and, and_true, and_self, false_and, and_false, true_or, or_true, false_or, or_false, not_true_eq_false, not_false_eq_true, mgb, mga, mgr, mN, reduceCtorEq, ↓reduceIte, eq_self, ge_iff_le, gt_iff_lt, hk_si, hk_sj, hk_sr, hl_si, hl_sj, hl_sr, hn_si, hn_sj, hn_sr, hs_si, hs_sj, hs_sr, hi_sj, hi_sr, hj_si, hj_sr, hr_si, hr_sj, hi_si, hj_sj, hr_sr, mg_si, mg_sj, mg_sr, Nat.reduceAdd, Nat.reduceMul, Nat.reduceSub, Nat.reduceLT, Nat.reduceGT, Nat.reduceEqDiff, Nat.reduceLeDiff, Nat.left_eq_add, Nat.add_eq_left, Nat.reduceMod, Nat.reduceDiv, Nat.succ_ne_self, g0, t2, g2, c192, kbT, kbF, e10, c81, c1, c2', decide_true, decide_false, not_false_eq_true]
theorem v_195 (hs : s = 1 ∨ s = -1) {k : Nat} (hk : k < 1000000) (ex : x = Int32.ofNat k) : ∀ Q, mcall d 195 [.int x, .int s] h Q = Q (some (.int (Int32.ofNat (sgx x s)))) h := fun Q => by
  have e1 : ((1 : Int32) < 0) = False := by decide
  have e2 : ((-1 : Int32) < 0) = True := by decide
  have n1 : ¬ ((-1 : Int32) = 1) := by decide
  have l1 : ((0 : Int32) ≤ 1) = True := by decide
  have l2 : ((0 : Int32) ≤ -1) = False := by decide
  have m2 : (2 : Int32) * Int32.ofNat k = Int32.ofNat (2 * k) := nn_mul (a := 2) (b := k)
  have a1 : Int32.ofNat (2 * k) + 1 = Int32.ofNat (2 * k + 1) := nn_add (a := 2 * k) (b := 1)
  have cl := nn_clamp (a := k) (by omega)
  subst ex
  unfold sgx
  rw [cl]
  rcases hs with hs | hs <;> subst hs
  · rw [if_pos rfl]
    simp (disch := omega) only [s_195_0, s_195_1, s_195_4, s_195_5, s_195_6, s_195_7, s_195_8, s_195_9, s_195_12, s_195_13, s_195_14, s_195_15, e_195, mv_i_1, mv_l_1, mv_a_1, mv_a_2, mv_a_3, mk2_n, mk2_i, mk2_l, mk2_a, mk2_u, mk2_x, mB_T, mB_F, mS_cons, mS_nil, mSB_T, mSB_F, mca_nil, mca_i, mca_l, mca_r, mca_u, mca_x, mcat_i, mcat_l, mcat_r, mcat_u, mcat_x, mK_some, mK_none, va_rf_s, va_rf_n, lgc_eq, lgc_lt, lgc_gt, lgc_ge, lgc_le, mrd_104, mrd_105, mrd_106, mrd_107, true_and, and_true, and_self, false_and, and_false, true_or, or_true, false_or, or_false, not_true_eq_false, not_false_eq_true, mgb, mga, mgr, mN, reduceCtorEq, ↓reduceIte, eq_self, ge_iff_le, gt_iff_lt, hk_si, hk_sj, hk_sr, hl_si, hl_sj, hl_sr, hn_si, hn_sj, hn_sr, hs_si, hs_sj, hs_sr, hi_sj, hi_sr, hj_si, hj_sr, hr_si, hr_sj, hi_si, hj_sj, hr_sr, mg_si, mg_sj, mg_sr, Nat.reduceAdd, Nat.reduceMul, Nat.reduceSub, Nat.reduceLT, Nat.reduceGT, Nat.reduceEqDiff, Nat.reduceLeDiff, Nat.left_eq_add, Nat.add_eq_left, Nat.reduceMod, Nat.reduceDiv, Nat.succ_ne_self, e1, l1, m2]
  · rw [if_neg n1]
    simp (disch := omega) only [s_195_0, s_195_1, s_195_4, s_195_5, s_195_6, s_195_7, s_195_8, s_195_9, s_195_12, s_195_13, s_195_14, s_195_15, e_195, mv_i_1, mv_l_1, mv_a_1, mv_a_2, mv_a_3, mk2_n, mk2_i, mk2_l, mk2_a, mk2_u, mk2_x, mB_T, mB_F, mS_cons, mS_nil, mSB_T, mSB_F, mca_nil, mca_i, mca_l, mca_r, mca_u, mca_x, mcat_i, mcat_l, mcat_r, mcat_u, mcat_x, mK_some, mK_none, va_rf_s, va_rf_n, lgc_eq, lgc_lt, lgc_gt, lgc_ge, lgc_le, mrd_104, mrd_105, mrd_106, mrd_107, true_and, and_true, and_self, false_and, and_false, true_or, or_true, false_or, or_false, not_true_eq_false, not_false_eq_true, mgb, mga, mgr, mN, reduceCtorEq, ↓reduceIte, eq_self, ge_iff_le, gt_iff_lt, hk_si, hk_sj, hk_sr, hl_si, hl_sj, hl_sr, hn_si, hn_sj, hn_sr, hs_si, hs_sj, hs_sr, hi_sj, hi_sr, hj_si, hj_sr, hr_si, hr_sj, hi_si, hj_sj, hr_sr, mg_si, mg_sj, mg_sr, Nat.reduceAdd, Nat.reduceMul, Nat.reduceSub, Nat.reduceLT, Nat.reduceGT, Nat.reduceEqDiff, Nat.reduceLeDiff, Nat.left_eq_add, Nat.add_eq_left, Nat.reduceMod, Nat.reduceDiv, Nat.succ_ne_self, e2, l2, m2, a1]
end CHs
