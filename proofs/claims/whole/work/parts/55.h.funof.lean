set_option maxRecDepth 100000
/-! the reference's functionOf -/
def hd1 : tr → Nat
  | .branch a _ _ => a
  | .leaf _ => 0
/-- the last function of that name that ends no later than bf, or x -/
def fnO (nm : Nat → Nat) (v bf : Nat) : tr → Nat → Int32 → Int32
  | .leaf _, _, x => x
  | .branch _ cs r, k, x => fnO nm v bf r (k + 1 + ts cs) (if k + 1 + ts cs ≤ bf ∧ nm (tV (hd1 cs)).toNat = nm v then Int32.ofNat k else x)
/-- each has a NAME -/
def fnS : tr → Prop
  | .leaf _ => True
  | .branch _ cs r => (∃ a c r', cs = .branch a c r' ∧ tK a = 13) ∧ fnS r
section FOs
variable {d : Nat} {h : mh_H} {nm : Nat → Nat} {v bf cnt : Nat} {o : Int32}
theorem l_339 (F : RF h) (ec : mh_i h 81 24 = Int32.ofNat cnt) (hc : cnt ≤ 26000) (hb : bf ≤ 26000) (hv : nm v < 100000) (hn : ∀ a : Nat, nm a < 100000) : ∀ t k (x : Int32), trR h nm t k o → fnS t → k + ts t = cnt → ∀ Q, mw (d + 1) 339 Q 5 [some (.ref 81), some (.int (Int32.ofNat (nm v))), some (.int (Int32.ofNat bf)), some (.int x), some (.int (Int32.ofNat k))] [] h = Q (some (.int (fnO nm v bf t k x))) h := by
  have g := F.g 81 14 70 (by decide +kernel)
  have r21 := F.f 81 21 95 (by decide +kernel)
  have g21 := F.g 95 100 26000 (by decide +kernel)
  have l21 := F.l 95 100 26000 (by decide +kernel)
  have e1' : ∀ k, Int32.ofNat k + 1 = Int32.ofNat (k + 1) := fun k => nn_add (a := k) (b := 1)
  intro t
  induction t with
  | leaf _ =>
    intro k x _ _ hk Q
    have hk' : k + 0 = cnt := hk
    have le : (cnt ≤ k) = True := eq_true (by omega)
    clear F
    rw [s_339_5]
    simp (disch := omega) only [s_339_0, s_339_1, s_339_2, s_339_3, s_339_7, s_339_8, s_339_11, s_339_14, s_339_15, s_339_17, s_339_20, s_339_21, s_339_24, s_339_25, s_339_28, s_339_30, s_339_31, s_339_32, s_339_33, s_339_34, s_339_37, s_339_39, s_339_42, s_339_43, s_339_44, s_339_45, s_339_47, s_339_50, s_339_52, s_339_55, s_339_56, e_339, mv_i_1, mv_l_1, mv_a_1, mv_a_2, mv_a_3, mk2_n, mk2_i, mk2_l, mk2_a, mk2_u, mk2_x, mB_T, mB_F, mS_cons, mS_nil, mSB_T, mSB_F, mca_nil, mca_i, mca_l, mca_r, mca_u, mca_x, mcat_i, mcat_l, mcat_r, mcat_u, mcat_x, mK_some, mK_none, va_rf_s, va_rf_n, lgc_eq, lgc_lt, lgc_gt, lgc_ge, lgc_le, mrd_104, mrd_105, mrd_106, mrd_107, true_and, and_true, and_self, false_and, and_false, true_or, or_true, false_or, or_false, not_true_eq_false, not_false_eq_true, mgb, mga, mgr, mN, reduceCtorEq, ↓reduceIte, eq_self, ge_iff_le, gt_iff_lt, Nat.reduceAdd, Nat.reduceMul, Nat.reduceSub, Nat.reduceLT, Nat.reduceGT, Nat.reduceEqDiff, Nat.reduceLeDiff, Nat.left_eq_add, Nat.add_eq_left, Nat.reduceMod, Nat.reduceDiv, Nat.succ_ne_self, g, ec, nn_le, le, fnO]
  | branch n cs r _ ih =>
    intro k x T S hk Q
    obtain ⟨⟨t1, t2, t3, t4, t5, t6⟩, T1, T2⟩ := T
    obtain ⟨⟨a, c, r', hcs, ka⟩, S2⟩ := S
    subst hcs
    obtain ⟨⟨y1, y2, y3, y4, y5, y6⟩, -, -⟩ := T1
    have ea := y3 ka
    rw [ts_B] at hk
    have hts : ts (.branch a c r') = 1 + ts c + ts r' := ts_B
    have le : (cnt ≤ k) = False := eq_false (by omega)
    have a1 := c_333 (d := d) (k := k) (z := 1 + ts (.branch a c r')) F (by omega) t6
    rw [show k + (1 + ts (.branch a c r')) = k + 1 + ts (.branch a c r') from by omega] at a1
    have gt : (Int32.ofNat bf < Int32.ofNat (k + 1 + ts (.branch a c r'))) = (bf < k + 1 + ts (.branch a c r')) := nn_lt (by omega) (by omega)
    have en : (Int32.ofNat (nm (tV a).toNat) = Int32.ofNat (nm v)) = (nm (tV a).toNat = nm v) := nn_eq (by have := hn (tV a).toNat; omega) (by omega)
    have fo : fnO nm v bf (.branch n (.branch a c r') r) k x = fnO nm v bf r (k + 1 + ts (.branch a c r')) (if k + 1 + ts (.branch a c r') ≤ bf ∧ nm (tV a).toNat = nm v then Int32.ofNat k else x) := rfl
    rw [fo]
    by_cases c1 : bf < k + 1 + ts (.branch a c r')
    · have c1' := gt.trans (eq_true c1)
      rw [if_neg (fun z => by omega), ← ih (k + 1 + ts (.branch a c r')) x T2 S2 (by omega) Q]
      clear F ih fo
      rw [s_339_5]
      simp (disch := omega) only [s_339_0, s_339_1, s_339_2, s_339_3, s_339_7, s_339_8, s_339_11, s_339_14, s_339_15, s_339_17, s_339_20, s_339_21, s_339_24, s_339_25, s_339_28, s_339_30, s_339_31, s_339_32, s_339_33, s_339_34, s_339_37, s_339_39, s_339_42, s_339_43, s_339_44, s_339_45, s_339_47, s_339_50, s_339_52, s_339_55, s_339_56, e_339, mv_i_1, mv_l_1, mv_a_1, mv_a_2, mv_a_3, mk2_n, mk2_i, mk2_l, mk2_a, mk2_u, mk2_x, mB_T, mB_F, mS_cons, mS_nil, mSB_T, mSB_F, mca_nil, mca_i, mca_l, mca_r, mca_u, mca_x, mcat_i, mcat_l, mcat_r, mcat_u, mcat_x, mK_some, mK_none, va_rf_s, va_rf_n, lgc_eq, lgc_lt, lgc_gt, lgc_ge, lgc_le, mrd_104, mrd_105, mrd_106, mrd_107, true_and, and_true, and_self, false_and, and_false, true_or, or_true, false_or, or_false, not_true_eq_false, not_false_eq_true, mgb, mga, mgr, mN, reduceCtorEq, ↓reduceIte, eq_self, ge_iff_le, gt_iff_lt, Nat.reduceAdd, Nat.reduceMul, Nat.reduceSub, Nat.reduceLT, Nat.reduceGT, Nat.reduceEqDiff, Nat.reduceLeDiff, Nat.left_eq_add, Nat.add_eq_left, Nat.reduceMod, Nat.reduceDiv, Nat.succ_ne_self, g, ec, nn_le, le, a1, c1']
    · have c1' := gt.trans (eq_false c1)
      by_cases c2 : nm (tV a).toNat = nm v
      · have c2' := en.trans (eq_true c2)
        rw [if_pos ⟨by omega, c2⟩, ← ih (k + 1 + ts (.branch a c r')) (Int32.ofNat k) T2 S2 (by omega) Q]
        clear F ih fo
        rw [s_339_5]
        simp (disch := omega) only [s_339_0, s_339_1, s_339_2, s_339_3, s_339_7, s_339_8, s_339_11, s_339_14, s_339_15, s_339_17, s_339_20, s_339_21, s_339_24, s_339_25, s_339_28, s_339_30, s_339_31, s_339_32, s_339_33, s_339_34, s_339_37, s_339_39, s_339_42, s_339_43, s_339_44, s_339_45, s_339_47, s_339_50, s_339_52, s_339_55, s_339_56, e_339, mv_i_1, mv_l_1, mv_a_1, mv_a_2, mv_a_3, mk2_n, mk2_i, mk2_l, mk2_a, mk2_u, mk2_x, mB_T, mB_F, mS_cons, mS_nil, mSB_T, mSB_F, mca_nil, mca_i, mca_l, mca_r, mca_u, mca_x, mcat_i, mcat_l, mcat_r, mcat_u, mcat_x, mK_some, mK_none, va_rf_s, va_rf_n, lgc_eq, lgc_lt, lgc_gt, lgc_ge, lgc_le, mrd_104, mrd_105, mrd_106, mrd_107, true_and, and_true, and_self, false_and, and_false, true_or, or_true, false_or, or_false, not_true_eq_false, not_false_eq_true, mgb, mga, mgr, mN, reduceCtorEq, ↓reduceIte, eq_self, ge_iff_le, gt_iff_lt, Nat.reduceAdd, Nat.reduceMul, Nat.reduceSub, Nat.reduceLT, Nat.reduceGT, Nat.reduceEqDiff, Nat.reduceLeDiff, Nat.left_eq_add, Nat.add_eq_left, Nat.reduceMod, Nat.reduceDiv, Nat.succ_ne_self, g, ec, nn_le, le, a1, c1', r21, g21, l21, ea, c2', nn_mxT, nn_clamp, e1']
      · have c2' := en.trans (eq_false c2)
        rw [if_neg (fun z => c2 z.2), ← ih (k + 1 + ts (.branch a c r')) x T2 S2 (by omega) Q]
        clear F ih fo
        rw [s_339_5]
        simp (disch := omega) only [s_339_0, s_339_1, s_339_2, s_339_3, s_339_7, s_339_8, s_339_11, s_339_14, s_339_15, s_339_17, s_339_20, s_339_21, s_339_24, s_339_25, s_339_28, s_339_30, s_339_31, s_339_32, s_339_33, s_339_34, s_339_37, s_339_39, s_339_42, s_339_43, s_339_44, s_339_45, s_339_47, s_339_50, s_339_52, s_339_55, s_339_56, e_339, mv_i_1, mv_l_1, mv_a_1, mv_a_2, mv_a_3, mk2_n, mk2_i, mk2_l, mk2_a, mk2_u, mk2_x, mB_T, mB_F, mS_cons, mS_nil, mSB_T, mSB_F, mca_nil, mca_i, mca_l, mca_r, mca_u, mca_x, mcat_i, mcat_l, mcat_r, mcat_u, mcat_x, mK_some, mK_none, va_rf_s, va_rf_n, lgc_eq, lgc_lt, lgc_gt, lgc_ge, lgc_le, mrd_104, mrd_105, mrd_106, mrd_107, true_and, and_true, and_self, false_and, and_false, true_or, or_true, false_or, or_false, not_true_eq_false, not_false_eq_true, mgb, mga, mgr, mN, reduceCtorEq, ↓reduceIte, eq_self, ge_iff_le, gt_iff_lt, Nat.reduceAdd, Nat.reduceMul, Nat.reduceSub, Nat.reduceLT, Nat.reduceGT, Nat.reduceEqDiff, Nat.reduceLeDiff, Nat.left_eq_add, Nat.add_eq_left, Nat.reduceMod, Nat.reduceDiv, Nat.succ_ne_self, g, ec, nn_le, le, a1, c1', r21, g21, l21, ea, c2', nn_mxT, nn_clamp, e1']
theorem c_339 (F : RF h) (ec : mh_i h 81 24 = Int32.ofNat cnt) (hc : cnt ≤ 26000) (hb : bf ≤ 26000) (hv : nm v < 100000) (hn : ∀ a : Nat, nm a < 100000) {t : tr} (T : trR h nm t 1 o) (S : fnS t) (hk : 1 + ts t = cnt) : ∀ Q, mcall (d + 1) 339 [.ref 81, .int (Int32.ofNat (nm v)), .int (Int32.ofNat bf)] h Q = Q (some (.int (fnO nm v bf t 1 (-1)))) h := by
  intro Q
  have lp := l_339 (d := d) (nm := nm) (v := v) (bf := bf) (o := o) F ec hc hb hv hn t 1 (-1) T S hk Q
  rw [← lp]
  have i1 : Int32.ofNat 1 = 1 := rfl
  rw [i1]
  clear lp F T
  simp (disch := omega) only [s_339_0, s_339_1, s_339_2, s_339_3, s_339_7, s_339_8, s_339_11, s_339_14, s_339_15, s_339_17, s_339_20, s_339_21, s_339_24, s_339_25, s_339_28, s_339_30, s_339_31, s_339_32, s_339_33, s_339_34, s_339_37, s_339_39, s_339_42, s_339_43, s_339_44, s_339_45, s_339_47, s_339_50, s_339_52, s_339_55, s_339_56, e_339, mv_i_1, mv_l_1, mv_a_1, mv_a_2, mv_a_3, mk2_n, mk2_i, mk2_l, mk2_a, mk2_u, mk2_x, mB_T, mB_F, mS_cons, mS_nil, mSB_T, mSB_F, mca_nil, mca_i, mca_l, mca_r, mca_u, mca_x, mcat_i, mcat_l, mcat_r, mcat_u, mcat_x, mK_some, mK_none, va_rf_s, va_rf_n, lgc_eq, lgc_lt, lgc_gt, lgc_ge, lgc_le, mrd_104, mrd_105, mrd_106, mrd_107, true_and, and_true, and_self, false_and, and_false, true_or, or_true, false_or, or_false, not_true_eq_false, not_false_eq_true, mgb, mga, mgr, mN, reduceCtorEq, ↓reduceIte, eq_self, ge_iff_le, gt_iff_lt, Nat.reduceAdd, Nat.reduceMul, Nat.reduceSub, Nat.reduceLT, Nat.reduceGT, Nat.reduceEqDiff, Nat.reduceLeDiff, Nat.left_eq_add, Nat.add_eq_left, Nat.reduceMod, Nat.reduceDiv, Nat.succ_ne_self]
end FOs
