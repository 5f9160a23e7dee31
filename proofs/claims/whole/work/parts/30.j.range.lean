set_option maxRecDepth 100000
def e_pl (A : ab) (x : Nat) (a b : Int) : er := (if max a 0 ≤ min b ((A.rm x : Int) - 1) then some (max a 0, min b ((A.rm x : Int) - 1)) else none, if a < 0 ∨ (A.rm x : Int) ≤ b then 4 else 0)
section R234
variable {d : Nat} {h : mh_H} {o K V Z M S N T : Nat} {A : ab} {sN : Int → Prop} {en : Int → Nat} {al : Int32} {lo hi : Int64}
theorem i2l_n {x : Nat} (hx : x ≤ 64) : ((Int32.ofNat x).toInt64).toInt = x := by rw [Int32.toInt_toInt64, nn_int (by omega)]
/-- Analysis.cell -/
theorem r_234 (H : AH h o K V Z M S N T A sN en) {t : tr} (i0 : R0 h o K V Z A sN en t) {k1 k2 : Nat} {v : Int} (hd : 2 * th t + 7 ≤ d) (hk1 : k1 < 26000) (hv : (mh_i h V k1).toInt = v) (hs : sN v) (ha : en v < A.a) (hr : A.rm (en v) ≤ 64) (hn : nd (mh_i h K) (mh_i h V) (mh_i h Z) k2 t) (hk2 : k2 + ts t ≤ 26000) (w : wS sN en A t false) : ∃ b l u, eR (e_bi (ev en A t none) (e_pl A (en v))) b l u ∧ ∀ Q, mcall d 234 [.ref o, .int (Int32.ofNat k1), .int (Int32.ofNat k2)] (aS h o al lo hi) Q = Q (some (.int (kb b))) (aS h o (al ||| (e_bi (ev en A t none) (e_pl A (en v))).2) l u) := by
  obtain ⟨e, rfl⟩ : ∃ e, d = e + 7 := ⟨d - 7, by omega⟩
  have g := H.g
  have r23 := H.r23
  have e10 : ((1 : Int32) = 0) = False := by decide
  have e00 : ((0 : Int32) = 0) = True := by decide
  obtain ⟨f, l, u, q1, q2⟩ := i0 (e + 6) k2 al lo hi (by omega) hn hk2 w
  cases f with
  | false =>
    have qn := eR_n q1 rfl
    rw [e_bi_n qn]
    refine ⟨false, l, u, rfl, fun Q => ?_⟩
    have k0' : kb false = 0 := rfl
    rw [k0'] at q2 ⊢
    simp (disch := omega) only [s_234_0, s_234_1, s_234_2, s_234_5, s_234_8, s_234_9, s_234_10, s_234_11, s_234_14, s_234_17, s_234_18, s_234_19, s_234_22, s_234_23, s_234_24, s_234_25, s_234_26, s_234_29, s_234_30, s_234_33, s_234_34, s_234_35, s_234_38, s_234_39, s_234_42, s_234_43, s_234_44, s_234_45, s_234_48, s_234_49, s_234_52, s_234_53, s_234_54, s_234_57, s_234_58, s_234_59, s_234_62, s_234_63, s_234_66, s_234_69, s_234_70, s_234_71, s_234_74, s_234_75, s_234_76, s_234_77, s_234_78, s_234_81, s_234_84, s_234_85, s_234_88, s_234_89, s_234_92, s_234_93, s_234_96, s_234_97, s_234_100, s_234_101, e_234, mv_i_1, mv_l_1, mv_a_1, mv_a_2, mv_a_3, mk2_n, mk2_i, mk2_l, mk2_a, mk2_u, mk2_x, mB_T, mB_F, mS_cons, mS_nil, mSB_T, mSB_F, mca_nil, mca_i, mca_l, mca_r, mca_u, mca_x, mcat_i, mcat_l, mcat_r, mcat_u, mcat_x, mK_some, mK_none, va_rf_s, va_rf_n, lgc_eq, lgc_lt, lgc_gt, lgc_ge, lgc_le, mrd_104, mrd_105, mrd_106, mrd_107, true_and, and_true, and_self, false_and, and_false, true_or, or_true, false_or, or_false, not_true_eq_false, not_false_eq_true, mgb, mga, mgr, mN, reduceCtorEq, ↓reduceIte, eq_self, ge_iff_le, gt_iff_lt, Nat.reduceAdd, Nat.reduceMul, Nat.reduceSub, Nat.reduceLT, Nat.reduceGT, Nat.reduceEqDiff, Nat.reduceLeDiff, Nat.left_eq_add, Nat.add_eq_left, Nat.reduceMod, Nat.reduceDiv, Nat.succ_ne_self, aS_g, g, q2, e00]
  | true =>
    obtain ⟨x, y, qs, qx, qy⟩ := eR_s q1 rfl
    obtain ⟨b1, b2, b3⟩ := (ev_in H.T _).1 w x y qs
    rw [e_bi_y qs]
    rw [← qx, ← qy] at *
    have k1' : kb true = 1 := rfl
    rw [k1'] at q2
    have hK : KM h N A := H.k
    obtain ⟨s1, s2, s3, s4, s5, s6, s7, s8, s9, s10, s11, s12, s13⟩ := hK.s
    have a6 := hK.a6
    have hrm := hK.rm (en v) ha
    have n4 : ¬ N + 4 = o := fun z => by have := s12.1; have := g.1; rw [z] at *; omega
    have sl := fun al' (l' u' : Int64) Q' => c_229 (d := e + 6) (Q := Q') (al := al') (lo := l') (hi := u') H hk1 hv hs
    have rme : ((Int32.ofNat (A.rm (en v))).toInt64).toInt = (A.rm (en v) : Int) := i2l_n hr
    have hge : ((u ≥ (Int32.ofNat (A.rm (en v))).toInt64)) ↔ (A.rm (en v) : Int) ≤ u.toInt := by rw [ge_iff_le, le64, rme]
    unfold iI at b1 b2
    have msub : ((Int32.ofNat (A.rm (en v))).toInt64 - 1).toInt = (A.rm (en v) : Int) - 1 := by rw [lsub_int (by rw [rme, lit_1]; omega) (by rw [rme, lit_1]; omega), rme, lit_1]
    have al4 : (e_pl A (en v) l.toInt u.toInt).2 = if l < 0 ∨ ¬ u < (Int32.ofNat (A.rm (en v))).toInt64 then 4 else 0 := by
      unfold e_pl
      simp only [lt64, lit_0, rme, Int.not_lt]
    refine ⟨decide (lmax l 0 ≤ lmin u ((Int32.ofNat (A.rm (en v))).toInt64 - 1)), lmax l 0, lmin u ((Int32.ofNat (A.rm (en v))).toInt64 - 1), ?_, fun Q => ?_⟩
    · unfold eR e_al e_pl
      dsimp only
      have e : (lmax l 0 ≤ lmin u ((Int32.ofNat (A.rm (en v))).toInt64 - 1)) ↔ max l.toInt 0 ≤ min u.toInt ((A.rm (en v) : Int) - 1) := by
        rw [le64, lmax_int, lmin_int, msub, lit_0]
      by_cases c : max l.toInt 0 ≤ min u.toInt ((A.rm (en v) : Int) - 1)
      · rw [if_pos c]
        exact ⟨decide_eq_true (e.mpr c), by rw [lmax_int, lit_0], by rw [lmin_int, msub]⟩
      · rw [if_neg c]
        exact decide_eq_false (fun z => c (e.mp z))
    · have e2 : (e_al (ev en A t none).2 (e_pl A (en v) l.toInt u.toInt)).2 = (ev en A t none).2 ||| (e_pl A (en v) l.toInt u.toInt).2 := rfl
      rw [e2, ← i32_ora, al4]
      generalize hX : (Int32.ofNat (A.rm (en v))).toInt64 = X at *
      by_cases c1 : l < 0 <;> by_cases c2 : u < X <;> by_cases c3 : lmin u (X - 1) < lmax l 0
      all_goals
        have c3' : (lmax l 0 ≤ lmin u (X - 1)) = ¬ (lmin u (X - 1) < lmax l 0) := le_nlt64
        simp (disch := omega) only [s_234_0, s_234_1, s_234_2, s_234_5, s_234_8, s_234_9, s_234_10, s_234_11, s_234_14, s_234_17, s_234_18, s_234_19, s_234_22, s_234_23, s_234_24, s_234_25, s_234_26, s_234_29, s_234_30, s_234_33, s_234_34, s_234_35, s_234_38, s_234_39, s_234_42, s_234_43, s_234_44, s_234_45, s_234_48, s_234_49, s_234_52, s_234_53, s_234_54, s_234_57, s_234_58, s_234_59, s_234_62, s_234_63, s_234_66, s_234_69, s_234_70, s_234_71, s_234_74, s_234_75, s_234_76, s_234_77, s_234_78, s_234_81, s_234_84, s_234_85, s_234_88, s_234_89, s_234_92, s_234_93, s_234_96, s_234_97, s_234_100, s_234_101, e_234, mv_i_1, mv_l_1, mv_a_1, mv_a_2, mv_a_3, mk2_n, mk2_i, mk2_l, mk2_a, mk2_u, mk2_x, mB_T, mB_F, mS_cons, mS_nil, mSB_T, mSB_F, mca_nil, mca_i, mca_l, mca_r, mca_u, mca_x, mcat_i, mcat_l, mcat_r, mcat_u, mcat_x, mK_some, mK_none, va_rf_s, va_rf_n, lgc_eq, lgc_lt, lgc_gt, lgc_ge, lgc_le, mrd_104, mrd_105, mrd_106, mrd_107, true_and, and_true, and_self, false_and, and_false, true_or, or_true, false_or, or_false, not_true_eq_false, not_false_eq_true, mgb, mga, mgr, mN, reduceCtorEq, ↓reduceIte, eq_self, ge_iff_le, gt_iff_lt, Nat.reduceAdd, Nat.reduceMul, Nat.reduceSub, Nat.reduceLT, Nat.reduceGT, Nat.reduceEqDiff, Nat.reduceLeDiff, Nat.left_eq_add, Nat.add_eq_left, Nat.reduceMod, Nat.reduceDiv, Nat.succ_ne_self, aS_g, aS_i, aS_j, aS_r, aS_l, aS_24, aS_25, aS_26, g, r23, q2, e10, sl, s1, s11, s12, s13, n4, nn_mxT, nn_clamp, hrm, hX, f_lmin, f_lmax, c1, c2, c3, c3', le_nlt64, mB_not, decide_true, decide_false, kb, Bool.false_eq_true]
end R234
