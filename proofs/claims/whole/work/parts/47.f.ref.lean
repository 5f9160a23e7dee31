set_option maxRecDepth 100000
/-! the reference's runs: small methods -/
def rcW (b j : Nat) : Prop := b = 81 ∧ (j = 67 ∨ j = 68)
theorem nn_dec {i : Nat} : Int32.ofNat (i + 1) + (-1) = Int32.ofNat i := by
  have e : Int32.ofNat (i + 1) = Int32.ofNat i + 1 := (nn_add (a := i) (b := 1)).symm
  rw [e, Int32.add_assoc, show (1 : Int32) + (-1) = 0 from by decide, Int32.add_zero]
/-- what a NAME means at a point -/
def MTT (h : mh_H) (p : Nat) (sN : Int → Prop) (en aR : Int → Nat) : Prop := ∃ M, M ≤ 40 ∧ mh_i h 105 p = Int32.ofNat M ∧ ∀ v, sN v → ∃ e, e < M ∧ (mh_i h 106 (40 * p + e)).toInt = v ∧ (∀ e', e < e' → e' < M → ¬ (mh_i h 106 (40 * p + e')).toInt = v) ∧ mh_i h 107 (40 * p + e) = Int32.ofNat (en v) ∧ mh_i h 108 (40 * p + e) = Int32.ofNat (aR v)
/-- what stands while a SUM is reckoned -/
def RRU (h : mh_H) (p gv : Nat) (sN : Int → Prop) (en aR : Int → Nat) : Prop := (RF h) ∧ (mh_i h 81 64 = Int32.ofNat p) ∧ (p < 250) ∧ (mh_i h 81 60 = Int32.ofNat gv) ∧ (gv ≤ 1000) ∧ (MTT h p sN en aR)
theorem RRU.of {h : mh_H} {p gv : Nat} {sN : Int → Prop} {en aR : Int → Nat} (q : (RF h) ∧ (mh_i h 81 64 = Int32.ofNat p) ∧ (p < 250) ∧ (mh_i h 81 60 = Int32.ofNat gv) ∧ (gv ≤ 1000) ∧ (MTT h p sN en aR)) : RRU h p gv sN en aR := q
theorem RRU.F {h : mh_H} {p gv : Nat} {sN : Int → Prop} {en aR : Int → Nat} (q : RRU h p gv sN en aR) : RF h := q.1
theorem RRU.p {h : mh_H} {p gv : Nat} {sN : Int → Prop} {en aR : Int → Nat} (q : RRU h p gv sN en aR) : mh_i h 81 64 = Int32.ofNat p := q.2.1
theorem RRU.b {h : mh_H} {p gv : Nat} {sN : Int → Prop} {en aR : Int → Nat} (q : RRU h p gv sN en aR) : p < 250 := q.2.2.1
theorem RRU.g {h : mh_H} {p gv : Nat} {sN : Int → Prop} {en aR : Int → Nat} (q : RRU h p gv sN en aR) : mh_i h 81 60 = Int32.ofNat gv := q.2.2.2.1
theorem RRU.gb {h : mh_H} {p gv : Nat} {sN : Int → Prop} {en aR : Int → Nat} (q : RRU h p gv sN en aR) : gv ≤ 1000 := q.2.2.2.2.1
theorem RRU.m {h : mh_H} {p gv : Nat} {sN : Int → Prop} {en aR : Int → Nat} (q : RRU h p gv sN en aR) : MTT h p sN en aR := q.2.2.2.2.2
section RSs
variable {d : Nat} {h h1 : mh_H} {p gv k z c : Nat} {sN : Int → Prop} {en aR : Int → Nat} {w : Int32}
theorem RF_G {W : Nat → Nat → Prop} (f : fG W h h1) (F : RF h) : RF h1 := by
  have kf : ∀ o, ko h o → ko h1 o := fun o s => by
    unfold ko at s ⊢
    rw [f.2.2.1, f.2.1]
    simp only [fG_me f]
    exact s
  refine ⟨fun t ht => ?_, fun t ht => ?_, fun p hp => ?_, kf _ F.w, ?_⟩
  · obtain ⟨a, b⟩ := F.k t ht
    exact ⟨by rw [fG_me f]; exact a, by rw [f.2.1]; exact b⟩
  · rw [f.2.2.1]; exact F.r t ht
  · obtain ⟨a, b, c, d⟩ := F.p p hp
    exact ⟨kf _ a, kf _ b, by rw [f.2.2.1]; exact c, by rw [f.2.2.1]; exact d⟩
  · obtain ⟨b, b1, b2⟩ := F.fn
    exact ⟨b, by rw [f.2.2.1]; exact b1, by rw [f.2.2.2.1]; exact b2⟩
theorem rc_i (f : fG rcW h h1) {b j : Nat} (hb : b ≠ 81 ∨ (j ≠ 67 ∧ j ≠ 68)) : mh_i h1 b j = mh_i h b j := (f.2.2.2.2.2 b j (by unfold rcW; omega)).1
theorem rc_r (f : fG rcW h h1) {b : Nat} (hb : b ≠ 81) : mh_i h1 b = mh_i h b := funext fun j => rc_i f (Or.inl hb)
theorem RRU_G (f : fG rcW h h1) (R : RRU h p gv sN en aR) : RRU h1 p gv sN en aR := by
  refine RRU.of ⟨RF_G f R.F, ?_, R.b, ?_, R.gb, ?_⟩
  · rw [rc_i f (by omega)]; exact R.p
  · rw [rc_i f (by omega)]; exact R.g
  · have m := R.m
    unfold MTT at m ⊢
    rw [rc_r f (by omega : 105 ≠ 81), rc_r f (by omega : 106 ≠ 81), rc_r f (by omega : 107 ≠ 81), rc_r f (by omega : 108 ≠ 81)]
    exact m
theorem c_333 (F : RF h) (hk : k < 26000) (hz : mh_i h 97 k = Int32.ofNat z) : ∀ Q, mcall d 333 [.ref 81, .int (Int32.ofNat k)] h Q = Q (some (.int (Int32.ofNat (k + z)))) h := fun Q => by
  have g := F.g 81 14 70 (by decide +kernel)
  have r := F.f 81 23 97 (by decide +kernel)
  have g7 := F.g 97 100 26000 (by decide +kernel)
  have l7 := F.l 97 100 26000 (by decide +kernel)
  have e : Int32.ofNat k + Int32.ofNat z = Int32.ofNat (k + z) := nn_add
  clear F
  simp (disch := omega) only [s_333_0, s_333_1, s_333_2, s_333_5, s_333_6, s_333_7, s_333_8, e_333, mv_i_1, mv_l_1, mv_a_1, mv_a_2, mv_a_3, mk2_n, mk2_i, mk2_l, mk2_a, mk2_u, mk2_x, mB_T, mB_F, mS_cons, mS_nil, mSB_T, mSB_F, mca_nil, mca_i, mca_l, mca_r, mca_u, mca_x, mcat_i, mcat_l, mcat_r, mcat_u, mcat_x, mK_some, mK_none, va_rf_s, va_rf_n, lgc_eq, lgc_lt, lgc_gt, lgc_ge, lgc_le, mrd_104, mrd_105, mrd_106, mrd_107, true_and, and_true, and_self, false_and, and_false, true_or, or_true, false_or, or_false, not_true_eq_false, not_false_eq_true, mgb, mga, mgr, mN, reduceCtorEq, ↓reduceIte, eq_self, ge_iff_le, gt_iff_lt, hk_si, hk_sj, hk_sr, hl_si, hl_sj, hl_sr, hn_si, hn_sj, hn_sr, hs_si, hs_sj, hs_sr, hi_sj, hi_sr, hj_si, hj_sr, hr_si, hr_sj, hi_si, hj_sj, hr_sr, mg_si, mg_sj, mg_sr, Nat.reduceAdd, Nat.reduceMul, Nat.reduceSub, Nat.reduceLT, Nat.reduceGT, Nat.reduceEqDiff, Nat.reduceLeDiff, Nat.left_eq_add, Nat.add_eq_left, Nat.reduceMod, Nat.reduceDiv, Nat.succ_ne_self, g, r, g7, l7, hz, e, nn_mxT, nn_clamp]
theorem c_334 (F : RF h) (hk : k + 1 < 26000) (hz : mh_i h 97 (k + 1) = Int32.ofNat z) : ∀ Q, mcall (d + 1) 334 [.ref 81, .int (Int32.ofNat k)] h Q = Q (some (.int (Int32.ofNat (k + 1 + z)))) h := fun Q => by
  have g := F.g 81 14 70 (by decide +kernel)
  have c := c_333 (d := d) (k := k + 1) F hk hz
  have e : Int32.ofNat k + 1 = Int32.ofNat (k + 1) := nn_add (a := k) (b := 1)
  clear F
  simp (disch := omega) only [s_334_0, s_334_1, s_334_2, s_334_3, s_334_4, s_334_7, e_334, mv_i_1, mv_l_1, mv_a_1, mv_a_2, mv_a_3, mk2_n, mk2_i, mk2_l, mk2_a, mk2_u, mk2_x, mB_T, mB_F, mS_cons, mS_nil, mSB_T, mSB_F, mca_nil, mca_i, mca_l, mca_r, mca_u, mca_x, mcat_i, mcat_l, mcat_r, mcat_u, mcat_x, mK_some, mK_none, va_rf_s, va_rf_n, lgc_eq, lgc_lt, lgc_gt, lgc_ge, lgc_le, mrd_104, mrd_105, mrd_106, mrd_107, true_and, and_true, and_self, false_and, and_false, true_or, or_true, false_or, or_false, not_true_eq_false, not_false_eq_true, mgb, mga, mgr, mN, reduceCtorEq, ↓reduceIte, eq_self, ge_iff_le, gt_iff_lt, hk_si, hk_sj, hk_sr, hl_si, hl_sj, hl_sr, hn_si, hn_sj, hn_sr, hs_si, hs_sj, hs_sr, hi_sj, hi_sr, hj_si, hj_sr, hr_si, hr_sj, hi_si, hj_sj, hr_sr, mg_si, mg_sj, mg_sr, Nat.reduceAdd, Nat.reduceMul, Nat.reduceSub, Nat.reduceLT, Nat.reduceGT, Nat.reduceEqDiff, Nat.reduceLeDiff, Nat.left_eq_add, Nat.add_eq_left, Nat.reduceMod, Nat.reduceDiv, Nat.succ_ne_self, g, e, c]
theorem c_356 (F : RF h) (e : mh_i h 81 68 = 0) : ∀ Q, mcall d 356 [.ref 81, .int w] h Q = Q (some (.long 0)) (mh_si h 81 68 w) := fun Q => by
  have g := F.g 81 14 70 (by decide +kernel)
  have e00 : ((0 : Int32) = 0) = True := by decide
  clear F
  simp (disch := omega) only [s_356_0, s_356_1, s_356_2, s_356_5, s_356_8, s_356_9, s_356_12, s_356_13, s_356_16, s_356_19, s_356_20, e_356, mv_i_1, mv_l_1, mv_a_1, mv_a_2, mv_a_3, mk2_n, mk2_i, mk2_l, mk2_a, mk2_u, mk2_x, mB_T, mB_F, mS_cons, mS_nil, mSB_T, mSB_F, mca_nil, mca_i, mca_l, mca_r, mca_u, mca_x, mcat_i, mcat_l, mcat_r, mcat_u, mcat_x, mK_some, mK_none, va_rf_s, va_rf_n, lgc_eq, lgc_lt, lgc_gt, lgc_ge, lgc_le, mrd_104, mrd_105, mrd_106, mrd_107, true_and, and_true, and_self, false_and, and_false, true_or, or_true, false_or, or_false, not_true_eq_false, not_false_eq_true, mgb, mga, mgr, mN, reduceCtorEq, ↓reduceIte, eq_self, ge_iff_le, gt_iff_lt, hk_si, hk_sj, hk_sr, hl_si, hl_sj, hl_sr, hn_si, hn_sj, hn_sr, hs_si, hs_sj, hs_sr, hi_sj, hi_sr, hj_si, hj_sr, hr_si, hr_sj, hi_si, hj_sj, hr_sr, mg_si, mg_sj, mg_sr, Nat.reduceAdd, Nat.reduceMul, Nat.reduceSub, Nat.reduceLT, Nat.reduceGT, Nat.reduceEqDiff, Nat.reduceLeDiff, Nat.left_eq_add, Nat.add_eq_left, Nat.reduceMod, Nat.reduceDiv, Nat.succ_ne_self, g, e, e00]
/-- what a reckoning leaves -/
def uo (q : xr) (h : mh_H) (x : Int64) : Prop := mh_i h 81 67 = Int32.ofNat q.2.2 ∧ match q.1 with
  | none => (0 < q.2.1) ∧ mh_i h 81 68 = q.2.1
  | some v => iI v ∧ mh_i h 81 68 = 0 ∧ x.toInt = v
theorem trH_f : fG rcW h (mh_si h 81 68 w) := fG_si ⟨rfl, Or.inr rfl⟩
theorem c_357 (F : RF h) (e : mh_i h 81 68 = 0) (e7 : mh_i h 81 67 = Int32.ofNat c) {v : Int64} : ∃ h' x, fG rcW h h' ∧ uo (x_int v.toInt c) h' x ∧ ∀ Q, mcall (d + 1) 357 [.ref 81, .long v] h Q = Q (some (.long x)) h' := by
  have g := F.g 81 14 70 (by decide +kernel)
  have c356 := c_356 (d := d) (w := 1) F e
  unfold x_int
  by_cases c1 : v.toInt < -2147483648 ∨ 2147483647 < v.toInt
  · rw [if_pos c1]
    refine ⟨_, 0, trH_f (w := 1), ⟨by rw [hi_si, if_neg (by omega)]; exact e7, (by decide : (0 : Int32) < 1), by rw [hi_si, if_pos ⟨rfl, rfl⟩]; rfl⟩, fun Q => ?_⟩
    clear F
    by_cases c2 : v.toInt < -2147483648
    · have l1 : (v < -2147483648) = True := eq_true (by rw [lt64, lit_lo]; exact c2)
      simp (disch := omega) only [s_357_0, s_357_1, s_357_4, s_357_5, s_357_8, s_357_9, s_357_12, s_357_13, s_357_16, s_357_17, s_357_18, s_357_21, s_357_24, s_357_25, e_357, mv_i_1, mv_l_1, mv_a_1, mv_a_2, mv_a_3, mk2_n, mk2_i, mk2_l, mk2_a, mk2_u, mk2_x, mB_T, mB_F, mS_cons, mS_nil, mSB_T, mSB_F, mca_nil, mca_i, mca_l, mca_r, mca_u, mca_x, mcat_i, mcat_l, mcat_r, mcat_u, mcat_x, mK_some, mK_none, va_rf_s, va_rf_n, lgc_eq, lgc_lt, lgc_gt, lgc_ge, lgc_le, mrd_104, mrd_105, mrd_106, mrd_107, true_and, and_true, and_self, false_and, and_false, true_or, or_true, false_or, or_false, not_true_eq_false, not_false_eq_true, mgb, mga, mgr, mN, reduceCtorEq, ↓reduceIte, eq_self, ge_iff_le, gt_iff_lt, hk_si, hk_sj, hk_sr, hl_si, hl_sj, hl_sr, hn_si, hn_sj, hn_sr, hs_si, hs_sj, hs_sr, hi_sj, hi_sr, hj_si, hj_sr, hr_si, hr_sj, hi_si, hj_sj, hr_sr, mg_si, mg_sj, mg_sr, Nat.reduceAdd, Nat.reduceMul, Nat.reduceSub, Nat.reduceLT, Nat.reduceGT, Nat.reduceEqDiff, Nat.reduceLeDiff, Nat.left_eq_add, Nat.add_eq_left, Nat.reduceMod, Nat.reduceDiv, Nat.succ_ne_self, g, l1, c356]
    · have l1 : (v < -2147483648) = False := eq_false (by rw [lt64, lit_lo]; exact c2)
      have l2 : (v ≤ 2147483647) = False := eq_false (by rw [le64, lit_hi]; omega)
      simp (disch := omega) only [s_357_0, s_357_1, s_357_4, s_357_5, s_357_8, s_357_9, s_357_12, s_357_13, s_357_16, s_357_17, s_357_18, s_357_21, s_357_24, s_357_25, e_357, mv_i_1, mv_l_1, mv_a_1, mv_a_2, mv_a_3, mk2_n, mk2_i, mk2_l, mk2_a, mk2_u, mk2_x, mB_T, mB_F, mS_cons, mS_nil, mSB_T, mSB_F, mca_nil, mca_i, mca_l, mca_r, mca_u, mca_x, mcat_i, mcat_l, mcat_r, mcat_u, mcat_x, mK_some, mK_none, va_rf_s, va_rf_n, lgc_eq, lgc_lt, lgc_gt, lgc_ge, lgc_le, mrd_104, mrd_105, mrd_106, mrd_107, true_and, and_true, and_self, false_and, and_false, true_or, or_true, false_or, or_false, not_true_eq_false, not_false_eq_true, mgb, mga, mgr, mN, reduceCtorEq, ↓reduceIte, eq_self, ge_iff_le, gt_iff_lt, hk_si, hk_sj, hk_sr, hl_si, hl_sj, hl_sr, hn_si, hn_sj, hn_sr, hs_si, hs_sj, hs_sr, hi_sj, hi_sr, hj_si, hj_sr, hr_si, hr_sj, hi_si, hj_sj, hr_sr, mg_si, mg_sj, mg_sr, Nat.reduceAdd, Nat.reduceMul, Nat.reduceSub, Nat.reduceLT, Nat.reduceGT, Nat.reduceEqDiff, Nat.reduceLeDiff, Nat.left_eq_add, Nat.add_eq_left, Nat.reduceMod, Nat.reduceDiv, Nat.succ_ne_self, g, l1, l2, c356]
  · rw [if_neg c1]
    refine ⟨h, v, fG_id, ⟨e7, by unfold iI; omega, e, rfl⟩, fun Q => ?_⟩
    have l1 : (v < -2147483648) = False := eq_false (by rw [lt64, lit_lo]; omega)
    have l2 : (v ≤ 2147483647) = True := eq_true (by rw [le64, lit_hi]; omega)
    clear F
    simp (disch := omega) only [s_357_0, s_357_1, s_357_4, s_357_5, s_357_8, s_357_9, s_357_12, s_357_13, s_357_16, s_357_17, s_357_18, s_357_21, s_357_24, s_357_25, e_357, mv_i_1, mv_l_1, mv_a_1, mv_a_2, mv_a_3, mk2_n, mk2_i, mk2_l, mk2_a, mk2_u, mk2_x, mB_T, mB_F, mS_cons, mS_nil, mSB_T, mSB_F, mca_nil, mca_i, mca_l, mca_r, mca_u, mca_x, mcat_i, mcat_l, mcat_r, mcat_u, mcat_x, mK_some, mK_none, va_rf_s, va_rf_n, lgc_eq, lgc_lt, lgc_gt, lgc_ge, lgc_le, mrd_104, mrd_105, mrd_106, mrd_107, true_and, and_true, and_self, false_and, and_false, true_or, or_true, false_or, or_false, not_true_eq_false, not_false_eq_true, mgb, mga, mgr, mN, reduceCtorEq, ↓reduceIte, eq_self, ge_iff_le, gt_iff_lt, hk_si, hk_sj, hk_sr, hl_si, hl_sj, hl_sr, hn_si, hn_sj, hn_sr, hs_si, hs_sj, hs_sr, hi_sj, hi_sr, hj_si, hj_sr, hr_si, hr_sj, hi_si, hj_sj, hr_sr, mg_si, mg_sj, mg_sr, Nat.reduceAdd, Nat.reduceMul, Nat.reduceSub, Nat.reduceLT, Nat.reduceGT, Nat.reduceEqDiff, Nat.reduceLeDiff, Nat.left_eq_add, Nat.add_eq_left, Nat.reduceMod, Nat.reduceDiv, Nat.succ_ne_self, g, l1, l2]
/-- operated -/
theorem c_361 (F : RF h) (e : mh_i h 81 68 = 0) (e7 : mh_i h 81 67 = Int32.ofNat c) (hk : k = 18 ∨ k = 19 ∨ k = 21 ∨ k = 22 ∨ k = 23) {a b : Int64} (ha : iI a.toInt) (hb : iI b.toInt) : ∃ h' x, fG rcW h h' ∧ uo (x_op k a.toInt b.toInt c) h' x ∧ ∀ Q, mcall (d + 2) 361 [.ref 81, .int (Int32.ofNat k), .long a, .long b] h Q = Q (some (.long x)) h' := by
  have g := F.g 81 14 70 (by decide +kernel)
  have c356 := c_356 (d := d + 1) (w := 2) F e
  have l0 : (0 : Int64).toInt = 0 := rfl
  have i18 : (Int8.ofInt 18).toInt32 = 18 := by decide
  have i19 : (Int8.ofInt 19).toInt32 = 19 := by decide
  have i21 : (Int8.ofInt 21).toInt32 = 21 := by decide
  have i22 : (Int8.ofInt 22).toInt32 = 22 := by decide
  have mr := mul_r ha hb
  have key := fun v => c_357 (d := d) (v := v) F e e7
  unfold iI at ha hb
  clear F
  unfold x_op
  rcases hk with hk | hk | hk | hk | hk <;> subst hk
  · rw [if_neg (by omega)]
    obtain ⟨h1, x, q1, q2, c357⟩ := key (a + b)
    rw [ladd_int (by omega) (by omega)] at q2
    refine ⟨h1, x, q1, q2, fun Q => ?_⟩
    have o1 : (Int32.ofNat 18 ≤ 21) = True := by decide
    have o2 : (Int32.ofNat 18 = 18) = True := by decide
    clear key
    simp (disch := omega) only [s_361_0, s_361_1, s_361_3, s_361_6, s_361_8, s_361_9, s_361_10, s_361_13, s_361_14, s_361_15, s_361_18, s_361_19, s_361_20, s_361_21, s_361_23, s_361_26, s_361_27, s_361_29, s_361_30, s_361_33, s_361_34, s_361_36, s_361_39, s_361_40, s_361_42, s_361_43, s_361_46, s_361_47, s_361_49, s_361_52, s_361_53, s_361_55, s_361_56, s_361_59, s_361_60, s_361_62, s_361_65, s_361_66, s_361_68, s_361_69, s_361_72, s_361_73, s_361_75, s_361_76, s_361_79, e_361, mv_i_1, mv_l_1, mv_a_1, mv_a_2, mv_a_3, mk2_n, mk2_i, mk2_l, mk2_a, mk2_u, mk2_x, mB_T, mB_F, mS_cons, mS_nil, mSB_T, mSB_F, mca_nil, mca_i, mca_l, mca_r, mca_u, mca_x, mcat_i, mcat_l, mcat_r, mcat_u, mcat_x, mK_some, mK_none, va_rf_s, va_rf_n, lgc_eq, lgc_lt, lgc_gt, lgc_ge, lgc_le, mrd_104, mrd_105, mrd_106, mrd_107, true_and, and_true, and_self, false_and, and_false, true_or, or_true, false_or, or_false, not_true_eq_false, not_false_eq_true, mgb, mga, mgr, mN, reduceCtorEq, ↓reduceIte, eq_self, ge_iff_le, gt_iff_lt, hk_si, hk_sj, hk_sr, hl_si, hl_sj, hl_sr, hn_si, hn_sj, hn_sr, hs_si, hs_sj, hs_sr, hi_sj, hi_sr, hj_si, hj_sr, hr_si, hr_sj, hi_si, hj_sj, hr_sr, mg_si, mg_sj, mg_sr, Nat.reduceAdd, Nat.reduceMul, Nat.reduceSub, Nat.reduceLT, Nat.reduceGT, Nat.reduceEqDiff, Nat.reduceLeDiff, Nat.left_eq_add, Nat.add_eq_left, Nat.reduceMod, Nat.reduceDiv, Nat.succ_ne_self, g, i21, i18, o1, o2, c357]
  · rw [if_neg (by omega)]
    obtain ⟨h1, x, q1, q2, c357⟩ := key (a - b)
    rw [lsub_int (by omega) (by omega)] at q2
    refine ⟨h1, x, q1, q2, fun Q => ?_⟩
    have o1 : (Int32.ofNat 19 ≤ 21) = True := by decide
    have o2 : (Int32.ofNat 19 = 18) = False := by decide
    have o3 : (Int32.ofNat 19 = 19) = True := by decide
    clear key
    simp (disch := omega) only [s_361_0, s_361_1, s_361_3, s_361_6, s_361_8, s_361_9, s_361_10, s_361_13, s_361_14, s_361_15, s_361_18, s_361_19, s_361_20, s_361_21, s_361_23, s_361_26, s_361_27, s_361_29, s_361_30, s_361_33, s_361_34, s_361_36, s_361_39, s_361_40, s_361_42, s_361_43, s_361_46, s_361_47, s_361_49, s_361_52, s_361_53, s_361_55, s_361_56, s_361_59, s_361_60, s_361_62, s_361_65, s_361_66, s_361_68, s_361_69, s_361_72, s_361_73, s_361_75, s_361_76, s_361_79, e_361, mv_i_1, mv_l_1, mv_a_1, mv_a_2, mv_a_3, mk2_n, mk2_i, mk2_l, mk2_a, mk2_u, mk2_x, mB_T, mB_F, mS_cons, mS_nil, mSB_T, mSB_F, mca_nil, mca_i, mca_l, mca_r, mca_u, mca_x, mcat_i, mcat_l, mcat_r, mcat_u, mcat_x, mK_some, mK_none, va_rf_s, va_rf_n, lgc_eq, lgc_lt, lgc_gt, lgc_ge, lgc_le, mrd_104, mrd_105, mrd_106, mrd_107, true_and, and_true, and_self, false_and, and_false, true_or, or_true, false_or, or_false, not_true_eq_false, not_false_eq_true, mgb, mga, mgr, mN, reduceCtorEq, ↓reduceIte, eq_self, ge_iff_le, gt_iff_lt, hk_si, hk_sj, hk_sr, hl_si, hl_sj, hl_sr, hn_si, hn_sj, hn_sr, hs_si, hs_sj, hs_sr, hi_sj, hi_sr, hj_si, hj_sr, hr_si, hr_sj, hi_si, hj_sj, hr_sr, mg_si, mg_sj, mg_sr, Nat.reduceAdd, Nat.reduceMul, Nat.reduceSub, Nat.reduceLT, Nat.reduceGT, Nat.reduceEqDiff, Nat.reduceLeDiff, Nat.left_eq_add, Nat.add_eq_left, Nat.reduceMod, Nat.reduceDiv, Nat.succ_ne_self, g, i21, i18, i19, o1, o2, o3, c357]
  · rw [if_neg (by omega)]
    obtain ⟨h1, x, q1, q2, c357⟩ := key (a * b)
    rw [lmul_int (by omega) (by omega)] at q2
    refine ⟨h1, x, q1, q2, fun Q => ?_⟩
    have o1 : (Int32.ofNat 21 ≤ 21) = True := by decide
    have o2 : (Int32.ofNat 21 = 18) = False := by decide
    have o3 : (Int32.ofNat 21 = 19) = False := by decide
    have o4 : (Int32.ofNat 21 = 21) = True := by decide
    clear key
    simp (disch := omega) only [s_361_0, s_361_1, s_361_3, s_361_6, s_361_8, s_361_9, s_361_10, s_361_13, s_361_14, s_361_15, s_361_18, s_361_19, s_361_20, s_361_21, s_361_23, s_361_26, s_361_27, s_361_29, s_361_30, s_361_33, s_361_34, s_361_36, s_361_39, s_361_40, s_361_42, s_361_43, s_361_46, s_361_47, s_361_49, s_361_52, s_361_53, s_361_55, s_361_56, s_361_59, s_361_60, s_361_62, s_361_65, s_361_66, s_361_68, s_361_69, s_361_72, s_361_73, s_361_75, s_361_76, s_361_79, e_361, mv_i_1, mv_l_1, mv_a_1, mv_a_2, mv_a_3, mk2_n, mk2_i, mk2_l, mk2_a, mk2_u, mk2_x, mB_T, mB_F, mS_cons, mS_nil, mSB_T, mSB_F, mca_nil, mca_i, mca_l, mca_r, mca_u, mca_x, mcat_i, mcat_l, mcat_r, mcat_u, mcat_x, mK_some, mK_none, va_rf_s, va_rf_n, lgc_eq, lgc_lt, lgc_gt, lgc_ge, lgc_le, mrd_104, mrd_105, mrd_106, mrd_107, true_and, and_true, and_self, false_and, and_false, true_or, or_true, false_or, or_false, not_true_eq_false, not_false_eq_true, mgb, mga, mgr, mN, reduceCtorEq, ↓reduceIte, eq_self, ge_iff_le, gt_iff_lt, hk_si, hk_sj, hk_sr, hl_si, hl_sj, hl_sr, hn_si, hn_sj, hn_sr, hs_si, hs_sj, hs_sr, hi_sj, hi_sr, hj_si, hj_sr, hr_si, hr_sj, hi_si, hj_sj, hr_sr, mg_si, mg_sj, mg_sr, Nat.reduceAdd, Nat.reduceMul, Nat.reduceSub, Nat.reduceLT, Nat.reduceGT, Nat.reduceEqDiff, Nat.reduceLeDiff, Nat.left_eq_add, Nat.add_eq_left, Nat.reduceMod, Nat.reduceDiv, Nat.succ_ne_self, g, i21, i18, i19, o1, o2, o3, o4, c357]
  · have o1 : (Int32.ofNat 22 ≤ 21) = False := by decide
    have o2 : (Int32.ofNat 22 = 18) = False := by decide
    have o3 : (Int32.ofNat 22 = 19) = False := by decide
    have o4 : (Int32.ofNat 22 = 21) = False := by decide
    have o5 : (Int32.ofNat 22 = 22) = True := by decide
    by_cases b0 : b = 0
    · subst b0
      rw [if_pos ⟨Or.inl rfl, l0⟩]
      refine ⟨_, 0, trH_f (w := 2), ⟨by rw [hi_si, if_neg (by omega)]; exact e7, (by decide : (0 : Int32) < 2), by rw [hi_si, if_pos ⟨rfl, rfl⟩]; rfl⟩, fun Q => ?_⟩
      have z00 : ((0 : Int64) = 0) = True := by decide
      clear key
      simp (disch := omega) only [s_361_0, s_361_1, s_361_3, s_361_6, s_361_8, s_361_9, s_361_10, s_361_13, s_361_14, s_361_15, s_361_18, s_361_19, s_361_20, s_361_21, s_361_23, s_361_26, s_361_27, s_361_29, s_361_30, s_361_33, s_361_34, s_361_36, s_361_39, s_361_40, s_361_42, s_361_43, s_361_46, s_361_47, s_361_49, s_361_52, s_361_53, s_361_55, s_361_56, s_361_59, s_361_60, s_361_62, s_361_65, s_361_66, s_361_68, s_361_69, s_361_72, s_361_73, s_361_75, s_361_76, s_361_79, e_361, mv_i_1, mv_l_1, mv_a_1, mv_a_2, mv_a_3, mk2_n, mk2_i, mk2_l, mk2_a, mk2_u, mk2_x, mB_T, mB_F, mS_cons, mS_nil, mSB_T, mSB_F, mca_nil, mca_i, mca_l, mca_r, mca_u, mca_x, mcat_i, mcat_l, mcat_r, mcat_u, mcat_x, mK_some, mK_none, va_rf_s, va_rf_n, lgc_eq, lgc_lt, lgc_gt, lgc_ge, lgc_le, mrd_104, mrd_105, mrd_106, mrd_107, true_and, and_true, and_self, false_and, and_false, true_or, or_true, false_or, or_false, not_true_eq_false, not_false_eq_true, mgb, mga, mgr, mN, reduceCtorEq, ↓reduceIte, eq_self, ge_iff_le, gt_iff_lt, hk_si, hk_sj, hk_sr, hl_si, hl_sj, hl_sr, hn_si, hn_sj, hn_sr, hs_si, hs_sj, hs_sr, hi_sj, hi_sr, hj_si, hj_sr, hr_si, hr_sj, hi_si, hj_sj, hr_sr, mg_si, mg_sj, mg_sr, Nat.reduceAdd, Nat.reduceMul, Nat.reduceSub, Nat.reduceLT, Nat.reduceGT, Nat.reduceEqDiff, Nat.reduceLeDiff, Nat.left_eq_add, Nat.add_eq_left, Nat.reduceMod, Nat.reduceDiv, Nat.succ_ne_self, g, i21, o1, z00, c356]
    · have b1 : ¬ b.toInt = 0 := fun z => b0 (Int64.toInt_inj.mp (z.trans l0.symm))
      rw [if_neg (by omega)]
      obtain ⟨h1, x, q1, q2, c357⟩ := key (a / b)
      rw [ldiv_int ha] at q2
      refine ⟨h1, x, q1, q2, fun Q => ?_⟩
      have b0' : (b = 0) = False := eq_false b0
      clear key
      simp (disch := omega) only [s_361_0, s_361_1, s_361_3, s_361_6, s_361_8, s_361_9, s_361_10, s_361_13, s_361_14, s_361_15, s_361_18, s_361_19, s_361_20, s_361_21, s_361_23, s_361_26, s_361_27, s_361_29, s_361_30, s_361_33, s_361_34, s_361_36, s_361_39, s_361_40, s_361_42, s_361_43, s_361_46, s_361_47, s_361_49, s_361_52, s_361_53, s_361_55, s_361_56, s_361_59, s_361_60, s_361_62, s_361_65, s_361_66, s_361_68, s_361_69, s_361_72, s_361_73, s_361_75, s_361_76, s_361_79, e_361, mv_i_1, mv_l_1, mv_a_1, mv_a_2, mv_a_3, mk2_n, mk2_i, mk2_l, mk2_a, mk2_u, mk2_x, mB_T, mB_F, mS_cons, mS_nil, mSB_T, mSB_F, mca_nil, mca_i, mca_l, mca_r, mca_u, mca_x, mcat_i, mcat_l, mcat_r, mcat_u, mcat_x, mK_some, mK_none, va_rf_s, va_rf_n, lgc_eq, lgc_lt, lgc_gt, lgc_ge, lgc_le, mrd_104, mrd_105, mrd_106, mrd_107, true_and, and_true, and_self, false_and, and_false, true_or, or_true, false_or, or_false, not_true_eq_false, not_false_eq_true, mgb, mga, mgr, mN, reduceCtorEq, ↓reduceIte, eq_self, ge_iff_le, gt_iff_lt, hk_si, hk_sj, hk_sr, hl_si, hl_sj, hl_sr, hn_si, hn_sj, hn_sr, hs_si, hs_sj, hs_sr, hi_sj, hi_sr, hj_si, hj_sr, hr_si, hr_sj, hi_si, hj_sj, hr_sr, mg_si, mg_sj, mg_sr, Nat.reduceAdd, Nat.reduceMul, Nat.reduceSub, Nat.reduceLT, Nat.reduceGT, Nat.reduceEqDiff, Nat.reduceLeDiff, Nat.left_eq_add, Nat.add_eq_left, Nat.reduceMod, Nat.reduceDiv, Nat.succ_ne_self, g, i21, i18, i19, i22, o1, o2, o3, o4, o5, b0', c357]
  · have o1 : (Int32.ofNat 23 ≤ 21) = False := by decide
    have o2 : (Int32.ofNat 23 = 18) = False := by decide
    have o3 : (Int32.ofNat 23 = 19) = False := by decide
    have o4 : (Int32.ofNat 23 = 21) = False := by decide
    have o5 : (Int32.ofNat 23 = 22) = False := by decide
    by_cases b0 : b = 0
    · subst b0
      rw [if_pos ⟨Or.inr rfl, l0⟩]
      refine ⟨_, 0, trH_f (w := 2), ⟨by rw [hi_si, if_neg (by omega)]; exact e7, (by decide : (0 : Int32) < 2), by rw [hi_si, if_pos ⟨rfl, rfl⟩]; rfl⟩, fun Q => ?_⟩
      have z00 : ((0 : Int64) = 0) = True := by decide
      clear key
      simp (disch := omega) only [s_361_0, s_361_1, s_361_3, s_361_6, s_361_8, s_361_9, s_361_10, s_361_13, s_361_14, s_361_15, s_361_18, s_361_19, s_361_20, s_361_21, s_361_23, s_361_26, s_361_27, s_361_29, s_361_30, s_361_33, s_361_34, s_361_36, s_361_39, s_361_40, s_361_42, s_361_43, s_361_46, s_361_47, s_361_49, s_361_52, s_361_53, s_361_55, s_361_56, s_361_59, s_361_60, s_361_62, s_361_65, s_361_66, s_361_68, s_361_69, s_361_72, s_361_73, s_361_75, s_361_76, s_361_79, e_361, mv_i_1, mv_l_1, mv_a_1, mv_a_2, mv_a_3, mk2_n, mk2_i, mk2_l, mk2_a, mk2_u, mk2_x, mB_T, mB_F, mS_cons, mS_nil, mSB_T, mSB_F, mca_nil, mca_i, mca_l, mca_r, mca_u, mca_x, mcat_i, mcat_l, mcat_r, mcat_u, mcat_x, mK_some, mK_none, va_rf_s, va_rf_n, lgc_eq, lgc_lt, lgc_gt, lgc_ge, lgc_le, mrd_104, mrd_105, mrd_106, mrd_107, true_and, and_true, and_self, false_and, and_false, true_or, or_true, false_or, or_false, not_true_eq_false, not_false_eq_true, mgb, mga, mgr, mN, reduceCtorEq, ↓reduceIte, eq_self, ge_iff_le, gt_iff_lt, hk_si, hk_sj, hk_sr, hl_si, hl_sj, hl_sr, hn_si, hn_sj, hn_sr, hs_si, hs_sj, hs_sr, hi_sj, hi_sr, hj_si, hj_sr, hr_si, hr_sj, hi_si, hj_sj, hr_sr, mg_si, mg_sj, mg_sr, Nat.reduceAdd, Nat.reduceMul, Nat.reduceSub, Nat.reduceLT, Nat.reduceGT, Nat.reduceEqDiff, Nat.reduceLeDiff, Nat.left_eq_add, Nat.add_eq_left, Nat.reduceMod, Nat.reduceDiv, Nat.succ_ne_self, g, i21, o1, z00, c356]
    · have b1 : ¬ b.toInt = 0 := fun z => b0 (Int64.toInt_inj.mp (z.trans l0.symm))
      rw [if_neg (by omega)]
      obtain ⟨h1, x, q1, q2, c357⟩ := key (a - a / b * b)
      rw [lrem_int ha hb] at q2
      refine ⟨h1, x, q1, q2, fun Q => ?_⟩
      have b0' : (b = 0) = False := eq_false b0
      clear key
      simp (disch := omega) only [s_361_0, s_361_1, s_361_3, s_361_6, s_361_8, s_361_9, s_361_10, s_361_13, s_361_14, s_361_15, s_361_18, s_361_19, s_361_20, s_361_21, s_361_23, s_361_26, s_361_27, s_361_29, s_361_30, s_361_33, s_361_34, s_361_36, s_361_39, s_361_40, s_361_42, s_361_43, s_361_46, s_361_47, s_361_49, s_361_52, s_361_53, s_361_55, s_361_56, s_361_59, s_361_60, s_361_62, s_361_65, s_361_66, s_361_68, s_361_69, s_361_72, s_361_73, s_361_75, s_361_76, s_361_79, e_361, mv_i_1, mv_l_1, mv_a_1, mv_a_2, mv_a_3, mk2_n, mk2_i, mk2_l, mk2_a, mk2_u, mk2_x, mB_T, mB_F, mS_cons, mS_nil, mSB_T, mSB_F, mca_nil, mca_i, mca_l, mca_r, mca_u, mca_x, mcat_i, mcat_l, mcat_r, mcat_u, mcat_x, mK_some, mK_none, va_rf_s, va_rf_n, lgc_eq, lgc_lt, lgc_gt, lgc_ge, lgc_le, mrd_104, mrd_105, mrd_106, mrd_107, true_and, and_true, and_self, false_and, and_false, true_or, or_true, false_or, or_false, not_true_eq_false, not_false_eq_true, mgb, mga, mgr, mN, reduceCtorEq, ↓reduceIte, eq_self, ge_iff_le, gt_iff_lt, hk_si, hk_sj, hk_sr, hl_si, hl_sj, hl_sr, hn_si, hn_sj, hn_sr, hs_si, hs_sj, hs_sr, hi_sj, hi_sr, hj_si, hj_sr, hr_si, hr_sj, hi_si, hj_sj, hr_sr, mg_si, mg_sj, mg_sr, Nat.reduceAdd, Nat.reduceMul, Nat.reduceSub, Nat.reduceLT, Nat.reduceGT, Nat.reduceEqDiff, Nat.reduceLeDiff, Nat.left_eq_add, Nat.add_eq_left, Nat.reduceMod, Nat.reduceDiv, Nat.succ_ne_self, g, i21, i18, i19, i22, o1, o2, o3, o4, o5, b0', c357]
/-- next -/
theorem c_358 (R : RRU h p gv sN en aR) (e7 : mh_i h 81 67 = Int32.ofNat c) (hc : c < 1000000000) : ∃ y, y.toInt = x_in (mh_i h 2639) gv c ∧ ∀ Q, mcall d 358 [.ref 81] h Q = Q (some (.int y)) (mh_si h 81 67 (Int32.ofNat (c + 1))) := by
  have F := R.F
  have g := F.g 81 14 70 (by decide +kernel)
  have r := F.f 81 59 2639 (by decide +kernel)
  have g9 := F.g 2639 100 1000 (by decide +kernel)
  have l9 := F.l 2639 100 1000 (by decide +kernel)
  have f60 := R.g
  have gb := R.gb
  have ei : Int32.ofNat c + 1 = Int32.ofNat (c + 1) := nn_add (a := c) (b := 1)
  have es : Int32.ofNat (c + 1) - 1 = Int32.ofNat c := nn_sub (a := c + 1) (b := 1) (by omega)
  unfold x_in
  clear F R
  by_cases cc : c < gv
  · rw [if_pos cc]
    refine ⟨mh_i h 2639 c, rfl, fun Q => ?_⟩
    have lt : (gv < c + 1) = False := eq_false (by omega)
    simp (disch := omega) only [s_358_0, s_358_1, s_358_2, s_358_5, s_358_6, s_358_7, s_358_10, s_358_11, s_358_14, s_358_15, s_358_18, s_358_21, s_358_22, s_358_25, s_358_26, s_358_29, s_358_30, s_358_31, s_358_32, s_358_35, s_358_36, e_358, mv_i_1, mv_l_1, mv_a_1, mv_a_2, mv_a_3, mk2_n, mk2_i, mk2_l, mk2_a, mk2_u, mk2_x, mB_T, mB_F, mS_cons, mS_nil, mSB_T, mSB_F, mca_nil, mca_i, mca_l, mca_r, mca_u, mca_x, mcat_i, mcat_l, mcat_r, mcat_u, mcat_x, mK_some, mK_none, va_rf_s, va_rf_n, lgc_eq, lgc_lt, lgc_gt, lgc_ge, lgc_le, mrd_104, mrd_105, mrd_106, mrd_107, true_and, and_true, and_self, false_and, and_false, true_or, or_true, false_or, or_false, not_true_eq_false, not_false_eq_true, mgb, mga, mgr, mN, reduceCtorEq, ↓reduceIte, eq_self, ge_iff_le, gt_iff_lt, hk_si, hk_sj, hk_sr, hl_si, hl_sj, hl_sr, hn_si, hn_sj, hn_sr, hs_si, hs_sj, hs_sr, hi_sj, hi_sr, hj_si, hj_sr, hr_si, hr_sj, hi_si, hj_sj, hr_sr, mg_si, mg_sj, mg_sr, Nat.reduceAdd, Nat.reduceMul, Nat.reduceSub, Nat.reduceLT, Nat.reduceGT, Nat.reduceEqDiff, Nat.reduceLeDiff, Nat.left_eq_add, Nat.add_eq_left, Nat.reduceMod, Nat.reduceDiv, Nat.succ_ne_self, g, r, g9, l9, f60, e7, ei, es, nn_lt, lt, nn_mxT, nn_clamp]
  · rw [if_neg cc]
    refine ⟨0, rfl, fun Q => ?_⟩
    have lt : (gv < c + 1) = True := eq_true (by omega)
    simp (disch := omega) only [s_358_0, s_358_1, s_358_2, s_358_5, s_358_6, s_358_7, s_358_10, s_358_11, s_358_14, s_358_15, s_358_18, s_358_21, s_358_22, s_358_25, s_358_26, s_358_29, s_358_30, s_358_31, s_358_32, s_358_35, s_358_36, e_358, mv_i_1, mv_l_1, mv_a_1, mv_a_2, mv_a_3, mk2_n, mk2_i, mk2_l, mk2_a, mk2_u, mk2_x, mB_T, mB_F, mS_cons, mS_nil, mSB_T, mSB_F, mca_nil, mca_i, mca_l, mca_r, mca_u, mca_x, mcat_i, mcat_l, mcat_r, mcat_u, mcat_x, mK_some, mK_none, va_rf_s, va_rf_n, lgc_eq, lgc_lt, lgc_gt, lgc_ge, lgc_le, mrd_104, mrd_105, mrd_106, mrd_107, true_and, and_true, and_self, false_and, and_false, true_or, or_true, false_or, or_false, not_true_eq_false, not_false_eq_true, mgb, mga, mgr, mN, reduceCtorEq, ↓reduceIte, eq_self, ge_iff_le, gt_iff_lt, hk_si, hk_sj, hk_sr, hl_si, hl_sj, hl_sr, hn_si, hn_sj, hn_sr, hs_si, hs_sj, hs_sr, hi_sj, hi_sr, hj_si, hj_sr, hr_si, hr_sj, hi_si, hj_sj, hr_sr, mg_si, mg_sj, mg_sr, Nat.reduceAdd, Nat.reduceMul, Nat.reduceSub, Nat.reduceLT, Nat.reduceGT, Nat.reduceEqDiff, Nat.reduceLeDiff, Nat.left_eq_add, Nat.add_eq_left, Nat.reduceMod, Nat.reduceDiv, Nat.succ_ne_self, g, r, g9, l9, f60, e7, ei, es, nn_lt, lt, nn_mxT, nn_clamp]
/-- meantAt -/
theorem c_355 (R : RRU h p gv sN en aR) {x : Int32} (hx : sN x.toInt) : ∃ e, e < 10000 ∧ mh_i h 107 e = Int32.ofNat (en x.toInt) ∧ mh_i h 108 e = Int32.ofNat (aR x.toInt) ∧ ∀ Q, mcall d 355 [.ref 81, .int x] h Q = Q (some (.int (Int32.ofNat e))) h := by
  obtain ⟨M, hM, e5, hm⟩ := R.m
  obtain ⟨e, he, q1, q2, q3, q4⟩ := hm _ hx
  have pb := R.b
  have F := R.F
  have g := F.g 81 14 70 (by decide +kernel)
  have r34 := F.f 81 34 105 (by decide +kernel)
  have r35 := F.f 81 35 106 (by decide +kernel)
  have g5 := F.g 105 100 251 (by decide +kernel)
  have l5 := F.l 105 100 251 (by decide +kernel)
  have g6 := F.g 106 100 10040 (by decide +kernel)
  have l6 := F.l 106 100 10040 (by decide +kernel)
  have f64 := R.p
  have i40 : (Int8.ofInt 40).toInt32 = 40 := by decide
  have em : (40 : Int32) * Int32.ofNat p = Int32.ofNat (40 * p) := nn_mul (a := 40) (b := p)
  have ea : ∀ j, Int32.ofNat (40 * p) + Int32.ofNat j = Int32.ofNat (40 * p + j) := fun j => nn_add
  have ez : (Int32.ofNat M - 1) = Int32.ofNat (M - 1) := nn_sub (a := M) (b := 1) (by omega)
  refine ⟨40 * p + e, by omega, q3, q4, ?_⟩
  have neg : ∀ j, j < 40 → (Int32.ofNat j < 0) = False := fun j hj => eq_false (fun z => by rw [Int32.lt_iff_toInt_lt, nn_int (by omega)] at z; have : (0 : Int32).toInt = 0 := rfl; omega)
  have lp : ∀ m i, i = e + m → i < M → ∀ Q, mw d 355 Q 12 [some (.ref 81), some (.int x), some (.int (Int32.ofNat i))] [] h = Q (some (.int (Int32.ofNat (40 * p + e)))) h := by
    intro m
    induction m with
    | zero =>
      intro i hi hiM Q
      have hi' : i = e := by omega
      subst hi'
      have eq : (mh_i h 106 (40 * p + i) = x) = True := eq_true (Int32.toInt_inj.mp q1)
      have n1 := neg i (by omega)
      clear F R hm hx neg
      simp (disch := omega) only [s_355_0, s_355_1, s_355_4, s_355_5, s_355_8, s_355_9, s_355_10, s_355_11, s_355_12, s_355_13, s_355_16, s_355_17, s_355_20, s_355_22, s_355_23, s_355_26, s_355_27, s_355_28, s_355_29, s_355_30, s_355_31, s_355_34, s_355_36, s_355_37, s_355_40, s_355_41, s_355_42, s_355_43, s_355_44, s_355_47, s_355_50, s_355_51, e_355, mv_i_1, mv_l_1, mv_a_1, mv_a_2, mv_a_3, mk2_n, mk2_i, mk2_l, mk2_a, mk2_u, mk2_x, mB_T, mB_F, mS_cons, mS_nil, mSB_T, mSB_F, mca_nil, mca_i, mca_l, mca_r, mca_u, mca_x, mcat_i, mcat_l, mcat_r, mcat_u, mcat_x, mK_some, mK_none, va_rf_s, va_rf_n, lgc_eq, lgc_lt, lgc_gt, lgc_ge, lgc_le, mrd_104, mrd_105, mrd_106, mrd_107, true_and, and_true, and_self, false_and, and_false, true_or, or_true, false_or, or_false, not_true_eq_false, not_false_eq_true, mgb, mga, mgr, mN, reduceCtorEq, ↓reduceIte, eq_self, ge_iff_le, gt_iff_lt, hk_si, hk_sj, hk_sr, hl_si, hl_sj, hl_sr, hn_si, hn_sj, hn_sr, hs_si, hs_sj, hs_sr, hi_sj, hi_sr, hj_si, hj_sr, hr_si, hr_sj, hi_si, hj_sj, hr_sr, mg_si, mg_sj, mg_sr, Nat.reduceAdd, Nat.reduceMul, Nat.reduceSub, Nat.reduceLT, Nat.reduceGT, Nat.reduceEqDiff, Nat.reduceLeDiff, Nat.left_eq_add, Nat.add_eq_left, Nat.reduceMod, Nat.reduceDiv, Nat.succ_ne_self, n1, g, r35, g6, l6, f64, i40, em, ea, eq, nn_mxT, nn_clamp]
    | succ m ih =>
      intro i hi hiM Q
      have eq : (mh_i h 106 (40 * p + i) = x) = False := eq_false (fun z => q2 i (by omega) hiM (by rw [z]))
      have n1 := neg i (by omega)
      have dc : Int32.ofNat i + (-1) = Int32.ofNat (i - 1) := by
        obtain ⟨j, rfl⟩ : ∃ j, i = j + 1 := ⟨i - 1, by omega⟩
        exact nn_dec
      rw [← ih (i - 1) (by omega) (by omega) Q]
      clear F R hm hx neg ih
      rw [s_355_12]
      simp (disch := omega) only [s_355_0, s_355_1, s_355_4, s_355_5, s_355_8, s_355_9, s_355_10, s_355_11, s_355_13, s_355_16, s_355_17, s_355_20, s_355_22, s_355_23, s_355_26, s_355_27, s_355_28, s_355_29, s_355_30, s_355_31, s_355_34, s_355_36, s_355_37, s_355_40, s_355_41, s_355_42, s_355_43, s_355_44, s_355_47, s_355_50, s_355_51, e_355, mv_i_1, mv_l_1, mv_a_1, mv_a_2, mv_a_3, mk2_n, mk2_i, mk2_l, mk2_a, mk2_u, mk2_x, mB_T, mB_F, mS_cons, mS_nil, mSB_T, mSB_F, mca_nil, mca_i, mca_l, mca_r, mca_u, mca_x, mcat_i, mcat_l, mcat_r, mcat_u, mcat_x, mK_some, mK_none, va_rf_s, va_rf_n, lgc_eq, lgc_lt, lgc_gt, lgc_ge, lgc_le, mrd_104, mrd_105, mrd_106, mrd_107, true_and, and_true, and_self, false_and, and_false, true_or, or_true, false_or, or_false, not_true_eq_false, not_false_eq_true, mgb, mga, mgr, mN, reduceCtorEq, ↓reduceIte, eq_self, ge_iff_le, gt_iff_lt, hk_si, hk_sj, hk_sr, hl_si, hl_sj, hl_sr, hn_si, hn_sj, hn_sr, hs_si, hs_sj, hs_sr, hi_sj, hi_sr, hj_si, hj_sr, hr_si, hr_sj, hi_si, hj_sj, hr_sr, mg_si, mg_sj, mg_sr, Nat.reduceAdd, Nat.reduceMul, Nat.reduceSub, Nat.reduceLT, Nat.reduceGT, Nat.reduceEqDiff, Nat.reduceLeDiff, Nat.left_eq_add, Nat.add_eq_left, Nat.reduceMod, Nat.reduceDiv, Nat.succ_ne_self, n1, g, r35, g6, l6, f64, i40, em, ea, eq, dc, nn_mxT, nn_clamp]
  intro Q
  rw [← lp (M - 1 - e) (M - 1) (by omega) (by omega) Q]
  clear F R hm hx neg lp
  simp (disch := omega) only [s_355_0, s_355_1, s_355_4, s_355_5, s_355_8, s_355_9, s_355_10, s_355_11, s_355_13, s_355_16, s_355_17, s_355_20, s_355_22, s_355_23, s_355_26, s_355_27, s_355_28, s_355_29, s_355_30, s_355_31, s_355_34, s_355_36, s_355_37, s_355_40, s_355_41, s_355_42, s_355_43, s_355_44, s_355_47, s_355_50, s_355_51, e_355, mv_i_1, mv_l_1, mv_a_1, mv_a_2, mv_a_3, mk2_n, mk2_i, mk2_l, mk2_a, mk2_u, mk2_x, mB_T, mB_F, mS_cons, mS_nil, mSB_T, mSB_F, mca_nil, mca_i, mca_l, mca_r, mca_u, mca_x, mcat_i, mcat_l, mcat_r, mcat_u, mcat_x, mK_some, mK_none, va_rf_s, va_rf_n, lgc_eq, lgc_lt, lgc_gt, lgc_ge, lgc_le, mrd_104, mrd_105, mrd_106, mrd_107, true_and, and_true, and_self, false_and, and_false, true_or, or_true, false_or, or_false, not_true_eq_false, not_false_eq_true, mgb, mga, mgr, mN, reduceCtorEq, ↓reduceIte, eq_self, ge_iff_le, gt_iff_lt, hk_si, hk_sj, hk_sr, hl_si, hl_sj, hl_sr, hn_si, hn_sj, hn_sr, hs_si, hs_sj, hs_sr, hi_sj, hi_sr, hj_si, hj_sr, hr_si, hr_sj, hi_si, hj_sj, hr_sr, mg_si, mg_sj, mg_sr, Nat.reduceAdd, Nat.reduceMul, Nat.reduceSub, Nat.reduceLT, Nat.reduceGT, Nat.reduceEqDiff, Nat.reduceLeDiff, Nat.left_eq_add, Nat.add_eq_left, Nat.reduceMod, Nat.reduceDiv, Nat.succ_ne_self, g, r34, g5, l5, f64, e5, ez, nn_mxT, nn_clamp]
end RSs
