set_option maxRecDepth 100000
/-! the reference's parser: number -/
theorem nv_i {v : Int} {b : Int32} : 10 * Int32.ofInt v + b - 48 = Int32.ofInt (10 * v + b.toInt - 48) := by
  rw [Int32.ofInt_sub, Int32.ofInt_add, Int32.ofInt_mul, Int32.ofInt_toInt]; rfl
theorem nv_1 {v : Int} (h0 : 0 ≤ v) (h : v ≤ 2147483647) : (1 * Int32.ofInt v).toInt = v := by
  rw [Int32.one_mul, Int32.toInt_ofInt, show Int32.size = 4294967296 from rfl]; exact Int.bmod_eq_of_le (by omega) (by omega)
theorem nv_m {v : Int} (h0 : 0 ≤ v) (h : v ≤ 2147483647) : (-1 * Int32.ofInt v).toInt = -v := by
  rw [show (-1 : Int32) = Int32.ofInt (-1) from rfl, ← Int32.ofInt_mul, Int32.toInt_ofInt, show Int32.size = 4294967296 from rfl]; rw [show (-1) * v = -v from by omega]; exact Int.bmod_eq_of_le (by omega) (by omega)
def pst.n1 (s : pst) (K : Nat → Int32) (P : Nat → Nat) (lim : Bool) : pst := if lim = true ∧ s.lk K = 45 then s.tk K P 45 else s
def pst.nb (s : pst) (K : Nat → Int32) (P : Nat → Nat) (V : Nat → Int) (lim : Bool) : pst := ((s.n1 K P lim).tk K P 3).dft 12 (Int32.ofNat (P s.at)) ((if lim = true ∧ s.lk K = 45 then -1 else 1) * (if (s.n1 K P lim).lk K = 3 then Int32.ofInt (V (s.n1 K P lim).at) else 0))
section PJs
variable {D : Nat} {h : mh_H} {m : Nat} {K : Nat → Int32} {P : Nat → Nat} {V : Nat → Int} {s : pst}
theorem l_316 (R : RTK h m K P V) (ha : s.at < m) {w : Nat} {x1 x2 : Option Value} {x3 : Int32} (hw : mh_i h 85 s.at = Int32.ofNat w) (hp : P s.at + w ≤ 16400) (hg : ∀ j, j < w → isG (mh_i h 82 (P s.at + j)) = true) : ∀ f j v, j + f = w → nvl (mh_i h 82) f (P s.at + j) v ≤ 2147483647 → ∀ Q, mw D 316 Q 47 [some (.ref 81), x1, x2, some (.int x3), some (.int (Int32.ofInt v)), some (.int (Int32.ofNat j))] [] (pH h s) = mw D 316 Q 95 [some (.ref 81), x1, x2, some (.int x3), some (.int (Int32.ofInt (nvl (mh_i h 82) f (P s.at + j) v))), some (.int (Int32.ofNat w))] [] (pH h s) := by
  have g := R.F.g 81 14 70 (by decide +kernel)
  have r1 := R.F.f 81 1 82 (by decide +kernel)
  have g1 := R.F.g 82 100 16400 (by decide +kernel)
  have l1 := R.F.l 82 100 16400 (by decide +kernel)
  have r5 := R.F.f 81 5 84 (by decide +kernel)
  have g5 := R.F.g 84 100 16402 (by decide +kernel)
  have l5 := R.F.l 84 100 16402 (by decide +kernel)
  have r6 := R.F.f 81 6 85 (by decide +kernel)
  have g6 := R.F.g 85 100 16402 (by decide +kernel)
  have l6 := R.F.l 85 100 16402 (by decide +kernel)
  have hm := R.m
  have e := (R.p _ ha).1
  have e1' : ∀ k, Int32.ofNat k + 1 = Int32.ofNat (k + 1) := fun k => nn_add (a := k) (b := 1)
  intro f
  induction f with
  | zero =>
    intro j v hj _ Q
    have c' : (w ≤ j) = True := eq_true (by omega)
    have hj' : j = w := by omega
    have e0 : nvl (mh_i h 82) 0 (P s.at + j) v = v := rfl
    rw [e0]
    subst hj'
    clear R hg
    rw [s_316_47]
    simp (disch := omega) only [s_316_0, s_316_1, s_316_4, s_316_5, s_316_8, s_316_9, s_316_10, s_316_11, s_316_12, s_316_13, s_316_16, s_316_17, s_316_20, s_316_22, s_316_25, s_316_26, s_316_28, s_316_31, s_316_32, s_316_33, s_316_34, s_316_36, s_316_37, s_316_40, s_316_41, s_316_44, s_316_45, s_316_49, s_316_50, s_316_53, s_316_54, s_316_57, s_316_58, s_316_61, s_316_63, s_316_65, s_316_66, s_316_67, s_316_70, s_316_71, s_316_74, s_316_75, s_316_78, s_316_79, s_316_81, s_316_82, s_316_83, s_316_84, s_316_86, s_316_87, s_316_89, s_316_92, s_316_96, s_316_97, s_316_100, s_316_101, s_316_103, s_316_104, s_316_105, s_316_107, s_316_108, s_316_111, e_316, mv_i_1, mv_l_1, mv_a_1, mv_a_2, mv_a_3, mk2_n, mk2_i, mk2_l, mk2_a, mk2_u, mk2_x, mB_T, mB_F, mS_cons, mS_nil, mSB_T, mSB_F, mca_nil, mca_i, mca_l, mca_r, mca_u, mca_x, mcat_i, mcat_l, mcat_r, mcat_u, mcat_x, mK_some, mK_none, va_rf_s, va_rf_n, lgc_eq, lgc_lt, lgc_gt, lgc_ge, lgc_le, mrd_104, mrd_105, mrd_106, mrd_107, true_and, and_true, and_self, false_and, and_false, true_or, or_true, false_or, or_false, not_true_eq_false, not_false_eq_true, mgb, mga, mgr, mN, reduceCtorEq, ↓reduceIte, eq_self, ge_iff_le, gt_iff_lt, Nat.reduceAdd, Nat.reduceMul, Nat.reduceSub, Nat.reduceLT, Nat.reduceGT, Nat.reduceEqDiff, Nat.reduceLeDiff, Nat.left_eq_add, Nat.add_eq_left, Nat.reduceMod, Nat.reduceDiv, Nat.succ_ne_self, pH_g, pH_r, pH_l, g, r6, g6, l6, pH_8, pH_85, hw, nn_mxT, nn_clamp, nn_le, c']
  | succ f ih =>
    intro j v hj hv Q
    have c' : (w ≤ j) = False := eq_false (by omega)
    have gg := hg j (by omega)
    have en : nvl (mh_i h 82) (f + 1) (P s.at + j) v = (if isG (mh_i h 82 (P s.at + j)) = true ∧ v ≤ 2147483647 then nvl (mh_i h 82) f (P s.at + j + 1) (10 * v + (mh_i h 82 (P s.at + j)).toInt - 48) else v) := rfl
    have hv2 : v ≤ 2147483647 := by
      by_cases z : v ≤ 2147483647
      · exact z
      · rw [en, if_neg (fun y => z y.2)] at hv; exact hv
    rw [en, if_pos ⟨gg, hv2⟩]
    rw [en, if_pos ⟨gg, hv2⟩] at hv
    have ih' := ih (j + 1) (10 * v + (mh_i h 82 (P s.at + j)).toInt - 48) (by omega) (by rw [← Nat.add_assoc]; exact hv) Q
    rw [← Nat.add_assoc] at ih'
    rw [← ih']
    clear R ih ih' hg en
    rw [s_316_47]
    simp (disch := omega) only [s_316_0, s_316_1, s_316_4, s_316_5, s_316_8, s_316_9, s_316_10, s_316_11, s_316_12, s_316_13, s_316_16, s_316_17, s_316_20, s_316_22, s_316_25, s_316_26, s_316_28, s_316_31, s_316_32, s_316_33, s_316_34, s_316_36, s_316_37, s_316_40, s_316_41, s_316_44, s_316_45, s_316_49, s_316_50, s_316_53, s_316_54, s_316_57, s_316_58, s_316_61, s_316_63, s_316_65, s_316_66, s_316_67, s_316_70, s_316_71, s_316_74, s_316_75, s_316_78, s_316_79, s_316_81, s_316_82, s_316_83, s_316_84, s_316_86, s_316_87, s_316_89, s_316_92, s_316_96, s_316_97, s_316_100, s_316_101, s_316_103, s_316_104, s_316_105, s_316_107, s_316_108, s_316_111, e_316, mv_i_1, mv_l_1, mv_a_1, mv_a_2, mv_a_3, mk2_n, mk2_i, mk2_l, mk2_a, mk2_u, mk2_x, mB_T, mB_F, mS_cons, mS_nil, mSB_T, mSB_F, mca_nil, mca_i, mca_l, mca_r, mca_u, mca_x, mcat_i, mcat_l, mcat_r, mcat_u, mcat_x, mK_some, mK_none, va_rf_s, va_rf_n, lgc_eq, lgc_lt, lgc_gt, lgc_ge, lgc_le, mrd_104, mrd_105, mrd_106, mrd_107, true_and, and_true, and_self, false_and, and_false, true_or, or_true, false_or, or_false, not_true_eq_false, not_false_eq_true, mgb, mga, mgr, mN, reduceCtorEq, ↓reduceIte, eq_self, ge_iff_le, gt_iff_lt, Nat.reduceAdd, Nat.reduceMul, Nat.reduceSub, Nat.reduceLT, Nat.reduceGT, Nat.reduceEqDiff, Nat.reduceLeDiff, Nat.left_eq_add, Nat.add_eq_left, Nat.reduceMod, Nat.reduceDiv, Nat.succ_ne_self, pH_g, pH_r, pH_l, g, r1, g1, l1, r5, g5, l5, r6, g6, l6, pH_8, pH_82, pH_84, pH_85, hw, e, nn_mxT, nn_clamp, nn_le, c', nn_add, nv_i, e1']
theorem n1_at (R : RTK h m K P V) (ha : s.at < m) (lim : Bool) : (s.n1 K P lim).at < m := by
  unfold pst.n1
  by_cases c : lim = true ∧ s.lk K = 45
  · rw [if_pos c]
    unfold pst.tk
    have c2 := c.2
    unfold pst.lk at c2
    by_cases b : s.bd = true
    · rw [if_pos b]; exact ha
    · rw [if_neg b] at c2
      rw [if_neg b, if_pos c2]
      exact tkM_s R.M ha c2 (by decide) (by decide)
  · rw [if_neg c]; exact ha
/-- number -/
theorem c_316 (R : RTK h m K P V) (ha : s.at < m) (hd : s.dr < 52000) {lim : Bool} : ∀ Q, mcall (D + 2) 316 [.ref 81, .int (kb lim)] (pH h s) Q = Q (some (.int (Int32.ofNat s.dr))) (pH h (s.nb K P V lim)) := by
  intro Q
  have g := R.F.g 81 14 70 (by decide +kernel)
  have r5 := R.F.f 81 5 84 (by decide +kernel)
  have g5 := R.F.g 84 100 16402 (by decide +kernel)
  have l5 := R.F.l 84 100 16402 (by decide +kernel)
  have hm := R.m
  have e := (R.p _ ha).1
  have k1 : kb true = 1 := rfl
  have k0 : kb false = 0 := rfl
  have n1 : ((1 : Int32) = 0) = False := by decide
  have ha1 := n1_at R ha lim
  have st1 : ∃ x3 : Int32, x3 = (if lim = true ∧ s.lk K = 45 then -1 else 1) ∧ ∀ Q, mcall (D + 2) 316 [.ref 81, .int (kb lim)] (pH h s) Q = mw (D + 2) 316 Q 33 [some (.ref 81), some (.int (kb lim)), some (.int (Int32.ofNat (P s.at))), some (.int x3), none, none] [] (pH h (s.n1 K P lim)) := by
    cases lim with
    | false =>
      have en : s.n1 K P false = s := if_neg (fun z => absurd z.1 (by decide))
      refine ⟨1, (if_neg (fun z => absurd z.1 (by decide))).symm, fun Q => ?_⟩
      rw [en]
      clear R
      simp (disch := omega) only [s_316_0, s_316_1, s_316_4, s_316_5, s_316_8, s_316_9, s_316_10, s_316_11, s_316_12, s_316_13, s_316_16, s_316_17, s_316_20, s_316_22, s_316_25, s_316_26, s_316_28, s_316_31, s_316_32, s_316_34, s_316_36, s_316_37, s_316_40, s_316_41, s_316_44, s_316_45, s_316_47, s_316_49, s_316_50, s_316_53, s_316_54, s_316_57, s_316_58, s_316_61, s_316_63, s_316_65, s_316_66, s_316_67, s_316_70, s_316_71, s_316_74, s_316_75, s_316_78, s_316_79, s_316_81, s_316_82, s_316_83, s_316_84, s_316_86, s_316_87, s_316_89, s_316_92, s_316_95, s_316_96, s_316_97, s_316_100, s_316_101, s_316_103, s_316_104, s_316_105, s_316_107, s_316_108, s_316_111, e_316, mv_i_1, mv_l_1, mv_a_1, mv_a_2, mv_a_3, mk2_n, mk2_i, mk2_l, mk2_a, mk2_u, mk2_x, mB_T, mB_F, mS_cons, mS_nil, mSB_T, mSB_F, mca_nil, mca_i, mca_l, mca_r, mca_u, mca_x, mcat_i, mcat_l, mcat_r, mcat_u, mcat_x, mK_some, mK_none, va_rf_s, va_rf_n, lgc_eq, lgc_lt, lgc_gt, lgc_ge, lgc_le, mrd_104, mrd_105, mrd_106, mrd_107, true_and, and_true, and_self, false_and, and_false, true_or, or_true, false_or, or_false, not_true_eq_false, not_false_eq_true, mgb, mga, mgr, mN, reduceCtorEq, ↓reduceIte, eq_self, ge_iff_le, gt_iff_lt, Nat.reduceAdd, Nat.reduceMul, Nat.reduceSub, Nat.reduceLT, Nat.reduceGT, Nat.reduceEqDiff, Nat.reduceLeDiff, Nat.left_eq_add, Nat.add_eq_left, Nat.reduceMod, Nat.reduceDiv, Nat.succ_ne_self, pH_g, pH_r, pH_l, g, r5, g5, l5, pH_8, pH_84, nn_mxT, nn_clamp, e, k0]
    | true =>
      have a0 := c_310 (D := D + 1) R ha
      have lv := rk_e (lk_v R ha) (c := 45) (y := 45) (by decide) rfl
      by_cases c : s.lk K = 45
      · have en : s.n1 K P true = s.tk K P 45 := if_pos ⟨rfl, c⟩
        have a1 := c_312 (D := D) R ha (c := 45) (y := 45) (by decide) rfl (by decide)
        refine ⟨-1, (if_pos ⟨rfl, c⟩).symm, fun Q => ?_⟩
        rw [en]
        have lv' : (rkd (s.lk K) = 45) = True := by rw [lv]; exact eq_true c
        clear R
        simp (disch := omega) only [s_316_0, s_316_1, s_316_4, s_316_5, s_316_8, s_316_9, s_316_10, s_316_11, s_316_12, s_316_13, s_316_16, s_316_17, s_316_20, s_316_22, s_316_25, s_316_26, s_316_28, s_316_31, s_316_32, s_316_34, s_316_36, s_316_37, s_316_40, s_316_41, s_316_44, s_316_45, s_316_47, s_316_49, s_316_50, s_316_53, s_316_54, s_316_57, s_316_58, s_316_61, s_316_63, s_316_65, s_316_66, s_316_67, s_316_70, s_316_71, s_316_74, s_316_75, s_316_78, s_316_79, s_316_81, s_316_82, s_316_83, s_316_84, s_316_86, s_316_87, s_316_89, s_316_92, s_316_95, s_316_96, s_316_97, s_316_100, s_316_101, s_316_103, s_316_104, s_316_105, s_316_107, s_316_108, s_316_111, e_316, mv_i_1, mv_l_1, mv_a_1, mv_a_2, mv_a_3, mk2_n, mk2_i, mk2_l, mk2_a, mk2_u, mk2_x, mB_T, mB_F, mS_cons, mS_nil, mSB_T, mSB_F, mca_nil, mca_i, mca_l, mca_r, mca_u, mca_x, mcat_i, mcat_l, mcat_r, mcat_u, mcat_x, mK_some, mK_none, va_rf_s, va_rf_n, lgc_eq, lgc_lt, lgc_gt, lgc_ge, lgc_le, mrd_104, mrd_105, mrd_106, mrd_107, true_and, and_true, and_self, false_and, and_false, true_or, or_true, false_or, or_false, not_true_eq_false, not_false_eq_true, mgb, mga, mgr, mN, reduceCtorEq, ↓reduceIte, eq_self, ge_iff_le, gt_iff_lt, Nat.reduceAdd, Nat.reduceMul, Nat.reduceSub, Nat.reduceLT, Nat.reduceGT, Nat.reduceEqDiff, Nat.reduceLeDiff, Nat.left_eq_add, Nat.add_eq_left, Nat.reduceMod, Nat.reduceDiv, Nat.succ_ne_self, pH_g, pH_r, pH_l, g, r5, g5, l5, pH_8, pH_84, nn_mxT, nn_clamp, e, k1, n1, a0, lv', a1]
      · have en : s.n1 K P true = s := if_neg (fun z => c z.2)
        refine ⟨1, (if_neg (fun z => c z.2)).symm, fun Q => ?_⟩
        rw [en]
        have lv' : (rkd (s.lk K) = 45) = False := by rw [lv]; exact eq_false c
        clear R
        simp (disch := omega) only [s_316_0, s_316_1, s_316_4, s_316_5, s_316_8, s_316_9, s_316_10, s_316_11, s_316_12, s_316_13, s_316_16, s_316_17, s_316_20, s_316_22, s_316_25, s_316_26, s_316_28, s_316_31, s_316_32, s_316_34, s_316_36, s_316_37, s_316_40, s_316_41, s_316_44, s_316_45, s_316_47, s_316_49, s_316_50, s_316_53, s_316_54, s_316_57, s_316_58, s_316_61, s_316_63, s_316_65, s_316_66, s_316_67, s_316_70, s_316_71, s_316_74, s_316_75, s_316_78, s_316_79, s_316_81, s_316_82, s_316_83, s_316_84, s_316_86, s_316_87, s_316_89, s_316_92, s_316_95, s_316_96, s_316_97, s_316_100, s_316_101, s_316_103, s_316_104, s_316_105, s_316_107, s_316_108, s_316_111, e_316, mv_i_1, mv_l_1, mv_a_1, mv_a_2, mv_a_3, mk2_n, mk2_i, mk2_l, mk2_a, mk2_u, mk2_x, mB_T, mB_F, mS_cons, mS_nil, mSB_T, mSB_F, mca_nil, mca_i, mca_l, mca_r, mca_u, mca_x, mcat_i, mcat_l, mcat_r, mcat_u, mcat_x, mK_some, mK_none, va_rf_s, va_rf_n, lgc_eq, lgc_lt, lgc_gt, lgc_ge, lgc_le, mrd_104, mrd_105, mrd_106, mrd_107, true_and, and_true, and_self, false_and, and_false, true_or, or_true, false_or, or_false, not_true_eq_false, not_false_eq_true, mgb, mga, mgr, mN, reduceCtorEq, ↓reduceIte, eq_self, ge_iff_le, gt_iff_lt, Nat.reduceAdd, Nat.reduceMul, Nat.reduceSub, Nat.reduceLT, Nat.reduceGT, Nat.reduceEqDiff, Nat.reduceLeDiff, Nat.left_eq_add, Nat.add_eq_left, Nat.reduceMod, Nat.reduceDiv, Nat.succ_ne_self, pH_g, pH_r, pH_l, g, r5, g5, l5, pH_8, pH_84, nn_mxT, nn_clamp, e, k1, n1, a0, lv']
  obtain ⟨x3, x4, st1⟩ := st1
  rw [st1 Q]
  unfold pst.nb
  rw [← x4]
  have hd1 : (s.n1 K P lim).dr = s.dr := by
    unfold pst.n1 pst.tk
    by_cases c : lim = true ∧ s.lk K = 45
    · rw [if_pos c]
      by_cases b : s.bd = true
      · rw [if_pos b]
      · rw [if_neg b]
        by_cases q : K s.at = 45
        · rw [if_pos q]; rfl
        · rw [if_neg q]; rfl
    · rw [if_neg c]
  generalize s.n1 K P lim = s1 at *
  clear st1 x4 ha e
  have b0 := c_310 (D := D + 1) (s := s1) R ha1
  have lv := rk_e (lk_v R ha1) (c := 3) (y := 3) (by decide) rfl
  have b1 := c_312 (D := D) (s := s1) R ha1 (c := 3) (y := 3) (by decide) rfl (by decide)
  have hd2 : (s1.tk K P 3).dr = s.dr := by
    rw [← hd1]
    unfold pst.tk
    by_cases b : s1.bd = true
    · rw [if_pos b]
    · rw [if_neg b]
      by_cases q : K s1.at = 3
      · rw [if_pos q]; rfl
      · rw [if_neg q]; rfl
  have fin : ∀ v x5 Q, mw (D + 2) 316 Q 95 [some (.ref 81), some (.int (kb lim)), some (.int (Int32.ofNat (P s.at))), some (.int x3), some (.int v), x5] [] (pH h s1) = Q (some (.int (Int32.ofNat s.dr))) (pH h ((s1.tk K P 3).dft 12 (Int32.ofNat (P s.at)) (x3 * v))) := by
    intro v x5 Q
    have b2 := c_313 (D := D + 1) (s := s1.tk K P 3) R.F (by omega) (k := 12) (p := Int32.ofNat (P s.at)) (v := x3 * v)
    rw [hd2] at b2
    clear R b0
    simp (disch := omega) only [s_316_0, s_316_1, s_316_4, s_316_5, s_316_8, s_316_9, s_316_10, s_316_11, s_316_12, s_316_13, s_316_16, s_316_17, s_316_20, s_316_22, s_316_25, s_316_26, s_316_28, s_316_31, s_316_32, s_316_33, s_316_34, s_316_36, s_316_37, s_316_40, s_316_41, s_316_44, s_316_45, s_316_47, s_316_49, s_316_50, s_316_53, s_316_54, s_316_57, s_316_58, s_316_61, s_316_63, s_316_65, s_316_66, s_316_67, s_316_70, s_316_71, s_316_74, s_316_75, s_316_78, s_316_79, s_316_81, s_316_82, s_316_83, s_316_84, s_316_86, s_316_87, s_316_89, s_316_92, s_316_95, s_316_96, s_316_97, s_316_100, s_316_101, s_316_103, s_316_104, s_316_105, s_316_107, s_316_108, s_316_111, e_316, mv_i_1, mv_l_1, mv_a_1, mv_a_2, mv_a_3, mk2_n, mk2_i, mk2_l, mk2_a, mk2_u, mk2_x, mB_T, mB_F, mS_cons, mS_nil, mSB_T, mSB_F, mca_nil, mca_i, mca_l, mca_r, mca_u, mca_x, mcat_i, mcat_l, mcat_r, mcat_u, mcat_x, mK_some, mK_none, va_rf_s, va_rf_n, lgc_eq, lgc_lt, lgc_gt, lgc_ge, lgc_le, mrd_104, mrd_105, mrd_106, mrd_107, true_and, and_true, and_self, false_and, and_false, true_or, or_true, false_or, or_false, not_true_eq_false, not_false_eq_true, mgb, mga, mgr, mN, reduceCtorEq, ↓reduceIte, eq_self, ge_iff_le, gt_iff_lt, Nat.reduceAdd, Nat.reduceMul, Nat.reduceSub, Nat.reduceLT, Nat.reduceGT, Nat.reduceEqDiff, Nat.reduceLeDiff, Nat.left_eq_add, Nat.add_eq_left, Nat.reduceMod, Nat.reduceDiv, Nat.succ_ne_self, pH_g, g, b1, b2]
  by_cases c : s1.lk K = 3
  · rw [if_pos c]
    have c2 : K s1.at = 3 := by
      unfold pst.lk at c
      by_cases b : s1.bd = true
      · rw [if_pos b] at c; exact absurd c (by decide)
      · rw [if_neg b] at c; exact c
    obtain ⟨w, w1, w2, w3, w4, w5⟩ := R.v _ ha1 c2
    have L := l_316 (D := D + 2) R ha1 (x1 := some (.int (kb lim))) (x2 := some (.int (Int32.ofNat (P s.at)))) (x3 := x3) w1 w2 w3 w 0 0 (by omega) (by rw [Nat.add_zero, ← w4]; exact w5) Q
    rw [show nvl (mh_i h 82) w (P s1.at + 0) 0 = V s1.at from w4.symm] at L
    rw [← fin (Int32.ofInt (V s1.at)) (some (.int (Int32.ofNat w))) Q, ← L]
    have lv' : (rkd (s1.lk K) = 3) = True := by rw [lv]; exact eq_true c
    clear R L fin w3 b1
    simp (disch := omega) only [s_316_0, s_316_1, s_316_4, s_316_5, s_316_8, s_316_9, s_316_10, s_316_11, s_316_12, s_316_13, s_316_16, s_316_17, s_316_20, s_316_22, s_316_25, s_316_26, s_316_28, s_316_31, s_316_32, s_316_33, s_316_34, s_316_36, s_316_37, s_316_40, s_316_41, s_316_44, s_316_45, s_316_49, s_316_50, s_316_53, s_316_54, s_316_57, s_316_58, s_316_61, s_316_63, s_316_65, s_316_66, s_316_67, s_316_70, s_316_71, s_316_74, s_316_75, s_316_78, s_316_79, s_316_81, s_316_82, s_316_83, s_316_84, s_316_86, s_316_87, s_316_89, s_316_92, s_316_95, s_316_96, s_316_97, s_316_100, s_316_101, s_316_103, s_316_104, s_316_105, s_316_107, s_316_108, s_316_111, e_316, mv_i_1, mv_l_1, mv_a_1, mv_a_2, mv_a_3, mk2_n, mk2_i, mk2_l, mk2_a, mk2_u, mk2_x, mB_T, mB_F, mS_cons, mS_nil, mSB_T, mSB_F, mca_nil, mca_i, mca_l, mca_r, mca_u, mca_x, mcat_i, mcat_l, mcat_r, mcat_u, mcat_x, mK_some, mK_none, va_rf_s, va_rf_n, lgc_eq, lgc_lt, lgc_gt, lgc_ge, lgc_le, mrd_104, mrd_105, mrd_106, mrd_107, true_and, and_true, and_self, false_and, and_false, true_or, or_true, false_or, or_false, not_true_eq_false, not_false_eq_true, mgb, mga, mgr, mN, reduceCtorEq, ↓reduceIte, eq_self, ge_iff_le, gt_iff_lt, Nat.reduceAdd, Nat.reduceMul, Nat.reduceSub, Nat.reduceLT, Nat.reduceGT, Nat.reduceEqDiff, Nat.reduceLeDiff, Nat.left_eq_add, Nat.add_eq_left, Nat.reduceMod, Nat.reduceDiv, Nat.succ_ne_self, pH_g, g, b0, lv']
    rfl
  · rw [if_neg c, ← fin 0 none Q]
    have lv' : (rkd (s1.lk K) = 3) = False := by rw [lv]; exact eq_false c
    clear R fin b1
    simp (disch := omega) only [s_316_0, s_316_1, s_316_4, s_316_5, s_316_8, s_316_9, s_316_10, s_316_11, s_316_12, s_316_13, s_316_16, s_316_17, s_316_20, s_316_22, s_316_25, s_316_26, s_316_28, s_316_31, s_316_32, s_316_33, s_316_34, s_316_36, s_316_37, s_316_40, s_316_41, s_316_44, s_316_45, s_316_47, s_316_49, s_316_50, s_316_53, s_316_54, s_316_57, s_316_58, s_316_61, s_316_63, s_316_65, s_316_66, s_316_67, s_316_70, s_316_71, s_316_74, s_316_75, s_316_78, s_316_79, s_316_81, s_316_82, s_316_83, s_316_84, s_316_86, s_316_87, s_316_89, s_316_92, s_316_96, s_316_97, s_316_100, s_316_101, s_316_103, s_316_104, s_316_105, s_316_107, s_316_108, s_316_111, e_316, mv_i_1, mv_l_1, mv_a_1, mv_a_2, mv_a_3, mk2_n, mk2_i, mk2_l, mk2_a, mk2_u, mk2_x, mB_T, mB_F, mS_cons, mS_nil, mSB_T, mSB_F, mca_nil, mca_i, mca_l, mca_r, mca_u, mca_x, mcat_i, mcat_l, mcat_r, mcat_u, mcat_x, mK_some, mK_none, va_rf_s, va_rf_n, lgc_eq, lgc_lt, lgc_gt, lgc_ge, lgc_le, mrd_104, mrd_105, mrd_106, mrd_107, true_and, and_true, and_self, false_and, and_false, true_or, or_true, false_or, or_false, not_true_eq_false, not_false_eq_true, mgb, mga, mgr, mN, reduceCtorEq, ↓reduceIte, eq_self, ge_iff_le, gt_iff_lt, Nat.reduceAdd, Nat.reduceMul, Nat.reduceSub, Nat.reduceLT, Nat.reduceGT, Nat.reduceEqDiff, Nat.reduceLeDiff, Nat.left_eq_add, Nat.add_eq_left, Nat.reduceMod, Nat.reduceDiv, Nat.succ_ne_self, pH_g, g, b0, lv']
end PJs
