set_option maxRecDepth 100000
section RBS5
variable {d : Nat} {h : mh_H} {o L G D P R X : Nat} {al : Int32} {H : Nat} {lw hg : Nat → Int64} {nm : Nat → Int32} {pl ph : Nat → Int64} {A : ab}
theorem q_111n (B : RB h o L G D P R X) (hH : H + 1 < 124) (hz : lw (H + 1) = 0 ∧ hg (H + 1) = 0) : ∀ Q, mcall (d + 1) 111 [.ref o] (rS h o L G D P R al (Int32.ofNat (H + 2)) lw hg nm pl ph) Q = Q (some (.int 0)) (rS h o L G D P R (al ||| 2) (Int32.ofNat (H + 1)) lw hg (up nm H (-1)) pl ph) := by
  intro Q
  have c1 := fun Q' => c_108 (d := d) (Q := Q') (al := al) (lw := lw) (hg := hg) (nm := up nm H (-1)) (pl := pl) (ph := ph) B (H := H + 1) hH
  have dz : decide (¬ (lw (H + 1) = 0 ∧ hg (H + 1) = 0)) = false := decide_eq_false (fun w => w hz)
  have dv : e_dv (lw (H + 1)).toInt (hg (H + 1)).toInt = 2 := by rw [hz.1, hz.2]; decide
  have k0' : kb false = 0 := rfl
  rw [dz, dv, k0'] at c1
  obtain ⟨g, r1, r5, r6, r7, r9, r10, gL, gG, gD, gP, gR, lL, lG, lD, n1, n2, n3, n4, n5, n6⟩ := B
  have nD : ¬ D = o := fun z => by have := g.1; have := gD.1; rw [z] at *; omega
  have es : Int32.ofNat (H + 1) - 1 = Int32.ofNat H := nn_sub (a := H + 1) (b := 1) (by omega)
  have es2 : Int32.ofNat (H + 2) - 1 = Int32.ofNat (H + 1) := nn_sub (a := H + 2) (b := 1) (by omega)
  have e00 : ((0 : Int32) = 0) = True := by decide
  simp (disch := omega) only [s_111_0, s_111_1, s_111_2, s_111_5, s_111_6, s_111_7, s_111_10, s_111_11, s_111_14, s_111_15, s_111_16, s_111_17, s_111_18, s_111_21, s_111_22, s_111_23, s_111_24, s_111_25, s_111_28, s_111_31, s_111_32, s_111_33, s_111_34, s_111_37, s_111_38, s_111_39, s_111_40, s_111_41, s_111_42, s_111_45, s_111_46, s_111_47, s_111_48, s_111_49, s_111_50, s_111_53, s_111_54, s_111_55, s_111_58, s_111_59, s_111_60, s_111_63, s_111_64, s_111_65, s_111_66, s_111_67, s_111_70, s_111_71, s_111_74, s_111_75, s_111_78, s_111_79, s_111_80, s_111_81, s_111_82, s_111_83, s_111_86, s_111_87, s_111_88, s_111_91, s_111_92, s_111_93, s_111_96, s_111_97, s_111_98, s_111_99, s_111_100, s_111_103, s_111_104, s_111_107, s_111_108, s_111_111, s_111_112, s_111_113, s_111_114, s_111_115, s_111_116, s_111_119, s_111_120, s_111_121, e_111, mv_i_1, mv_l_1, mv_a_1, mv_a_2, mv_a_3, mk2_n, mk2_i, mk2_l, mk2_a, mk2_u, mk2_x, mB_T, mB_F, mS_cons, mS_nil, mSB_T, mSB_F, mca_nil, mca_i, mca_l, mca_r, mca_u, mca_x, mcat_i, mcat_l, mcat_r, mcat_u, mcat_x, mK_some, mK_none, va_rf_s, va_rf_n, lgc_eq, lgc_lt, lgc_gt, lgc_ge, lgc_le, mrd_104, mrd_105, mrd_106, mrd_107, true_and, and_true, and_self, false_and, and_false, true_or, or_true, false_or, or_false, not_true_eq_false, not_false_eq_true, mgb, mga, mgr, mN, reduceCtorEq, ↓reduceIte, eq_self, ge_iff_le, gt_iff_lt, Nat.reduceAdd, Nat.reduceMul, Nat.reduceSub, Nat.reduceLT, Nat.reduceGT, Nat.reduceEqDiff, Nat.reduceLeDiff, Nat.left_eq_add, Nat.add_eq_left, Nat.reduceMod, Nat.reduceDiv, Nat.succ_ne_self, rS_g, rS_i, rS_j, rS_k, rS_n, rS_r, rS_l, rS_8, rS_D nD, g, r7, gD, lD, nD, nn_mxT, nn_clamp, es, es2, c1, e00]
theorem q_111 (B : RB h o L G D P R X) (hH : H + 1 < 124) (ha : iI (lw H).toInt) (hb : iI (hg H).toInt) (hc : iI (lw (H + 1)).toInt) (he : iI (hg (H + 1)).toInt) (hce : (lw (H + 1)).toInt ≤ (hg (H + 1)).toInt) (hz : ¬ (lw (H + 1) = 0 ∧ hg (H + 1) = 0)) : ∃ x y : Int64, some (x.toInt, y.toInt) = (e_rest (lw H).toInt (hg H).toInt (lw (H + 1)).toInt (hg (H + 1)).toInt).1 ∧ ∀ Q, mcall (d + 1) 111 [.ref o] (rS h o L G D P R al (Int32.ofNat (H + 2)) lw hg nm pl ph) Q = Q (some (.int 1)) (rS h o L G D P R (al ||| e_dv (lw (H + 1)).toInt (hg (H + 1)).toInt) (Int32.ofNat (H + 1)) (up lw H x) (up hg H y) (up nm H (-1)) pl ph) := by
  have c1 := fun Q' => c_108 (d := d) (Q := Q') (al := al) (lw := lw) (hg := hg) (nm := up nm H (-1)) (pl := pl) (ph := ph) B (H := H + 1) hH
  have dz : decide (¬ (lw (H + 1) = 0 ∧ hg (H + 1) = 0)) = true := decide_eq_true hz
  have k1' : kb true = 1 := rfl
  rw [dz, k1'] at c1
  have zi : ¬ ((lw (H + 1)).toInt = 0 ∧ (hg (H + 1)).toInt = 0) := fun w => hz ⟨eq64.mpr (by rw [w.1]; decide), eq64.mpr (by rw [w.2]; decide)⟩
  obtain ⟨g, r1, r5, r6, r7, r9, r10, gL, gG, gD, gP, gR, lL, lG, lD, n1, n2, n3, n4, n5, n6⟩ := B
  have nD : ¬ D = o := fun z => by have := g.1; have := gD.1; rw [z] at *; omega
  have es : Int32.ofNat (H + 1) - 1 = Int32.ofNat H := nn_sub (a := H + 1) (b := 1) (by omega)
  have es2 : Int32.ofNat (H + 2) - 1 = Int32.ofNat (H + 1) := nn_sub (a := H + 2) (b := 1) (by omega)
  have ei : ∀ k, Int32.ofNat k + 1 = Int32.ofNat (k + 1) := fun k => nn_add (a := k) (b := 1)
  have n : ¬ H + 1 = H := by omega
  have e10 : ((1 : Int32) = 0) = False := by decide
  have ev : (e_rest (lw H).toInt (hg H).toInt (lw (H + 1)).toInt (hg (H + 1)).toInt).1 = some (if 0 ≤ (lw H).toInt then 0 else max (lw H).toInt (1 - max (max (lw (H + 1)).toInt (-(lw (H + 1)).toInt)) (max (hg (H + 1)).toInt (-(hg (H + 1)).toInt))), if (hg H).toInt ≤ 0 then 0 else min (hg H).toInt (max (max (lw (H + 1)).toInt (-(lw (H + 1)).toInt)) (max (hg (H + 1)).toInt (-(hg (H + 1)).toInt)) - 1)) := by unfold e_rest; rw [if_neg zi]
  rw [ev]
  unfold iI at ha hb hc he
  generalize hgx : lw (H + 1) = cx at *
  generalize hgy : hg (H + 1) = cy at *
  generalize hga : lw H = a at *
  generalize hgb : hg H = b at *
  have hM : (lmax cy (-cx)).toInt = max (max cx.toInt (-cx.toInt)) (max cy.toInt (-cy.toInt)) := by
    rw [lmax_int, i64_n (by omega)]; omega
  refine ⟨if a < 0 then lmax a (1 - lmax cy (-cx)) else 0, if 0 < b then lmin b (lmax cy (-cx) - 1) else 0, ?_, fun Q => ?_⟩
  · have lo1 : ((if a < 0 then lmax a (1 - lmax cy (-cx)) else 0) : Int64).toInt = if 0 ≤ a.toInt then 0 else max a.toInt (1 - max (max cx.toInt (-cx.toInt)) (max cy.toInt (-cy.toInt))) := by
      by_cases c : a < 0
      · have c' := c
        rw [lt64, lit_0] at c'
        rw [if_pos c, if_neg (by omega), lmax_int, lsub_int (by rw [hM, lit_1]; omega) (by rw [hM, lit_1]; omega), hM, lit_1]
      · have c' := c
        rw [lt64, lit_0] at c'
        rw [if_neg c, if_pos (by omega), lit_0]
    have hi1 : ((if 0 < b then lmin b (lmax cy (-cx) - 1) else 0) : Int64).toInt = if b.toInt ≤ 0 then 0 else min b.toInt (max (max cx.toInt (-cx.toInt)) (max cy.toInt (-cy.toInt)) - 1) := by
      by_cases c : 0 < b
      · have c' := c
        rw [lt64, lit_0] at c'
        rw [if_pos c, if_neg (by omega), lmin_int, lsub_int (by rw [hM, lit_1]; omega) (by rw [hM, lit_1]; omega), hM, lit_1]
      · have c' := c
        rw [lt64, lit_0] at c'
        rw [if_neg c, if_pos (by omega), lit_0]
    rw [lo1, hi1]
  · by_cases ca : a < 0 <;> by_cases cb : 0 < b
    all_goals simp (disch := omega) only [s_111_0, s_111_1, s_111_2, s_111_5, s_111_6, s_111_7, s_111_10, s_111_11, s_111_14, s_111_15, s_111_16, s_111_17, s_111_18, s_111_21, s_111_22, s_111_23, s_111_24, s_111_25, s_111_28, s_111_31, s_111_32, s_111_33, s_111_34, s_111_37, s_111_38, s_111_39, s_111_40, s_111_41, s_111_42, s_111_45, s_111_46, s_111_47, s_111_48, s_111_49, s_111_50, s_111_53, s_111_54, s_111_55, s_111_58, s_111_59, s_111_60, s_111_63, s_111_64, s_111_65, s_111_66, s_111_67, s_111_70, s_111_71, s_111_74, s_111_75, s_111_78, s_111_79, s_111_80, s_111_81, s_111_82, s_111_83, s_111_86, s_111_87, s_111_88, s_111_91, s_111_92, s_111_93, s_111_96, s_111_97, s_111_98, s_111_99, s_111_100, s_111_103, s_111_104, s_111_107, s_111_108, s_111_111, s_111_112, s_111_113, s_111_114, s_111_115, s_111_116, s_111_119, s_111_120, s_111_121, e_111, mv_i_1, mv_l_1, mv_a_1, mv_a_2, mv_a_3, mk2_n, mk2_i, mk2_l, mk2_a, mk2_u, mk2_x, mB_T, mB_F, mS_cons, mS_nil, mSB_T, mSB_F, mca_nil, mca_i, mca_l, mca_r, mca_u, mca_x, mcat_i, mcat_l, mcat_r, mcat_u, mcat_x, mK_some, mK_none, va_rf_s, va_rf_n, lgc_eq, lgc_lt, lgc_gt, lgc_ge, lgc_le, mrd_104, mrd_105, mrd_106, mrd_107, true_and, and_true, and_self, false_and, and_false, true_or, or_true, false_or, or_false, not_true_eq_false, not_false_eq_true, mgb, mga, mgr, mN, reduceCtorEq, ↓reduceIte, eq_self, ge_iff_le, gt_iff_lt, Nat.reduceAdd, Nat.reduceMul, Nat.reduceSub, Nat.reduceLT, Nat.reduceGT, Nat.reduceEqDiff, Nat.reduceLeDiff, Nat.left_eq_add, Nat.add_eq_left, Nat.reduceMod, Nat.reduceDiv, Nat.succ_ne_self, rS_g, rS_i, rS_j, rS_k, rS_n, rS_r, rS_l, rS_8, rS_L, rS_G n1, rS_D nD, g, r5, r6, r7, gL, gG, gD, lL, lG, lD, n1, nD, nn_mxT, nn_clamp, es, es2, ei, up_s, up_n n, c1, e10, hgx, hgy, hga, hgb, ca, cb, le_nlt64, mB_not, f_lmin, f_lmax]
/-- what stands alone: NUMBER, NAME, any -/
theorem q_102a (B : RB h o L G D P R X) (hH : H < 124) {v z : Int32} : ∀ Q, mcall (d + 1) 102 [.ref o, .int 1, .int v, .int z] (rS h o L G D P R al (Int32.ofNat H) lw hg nm pl ph) Q = Q (some (.int 1)) (rS h o L G D P R al (Int32.ofNat (H + 1)) (up lw H v.toInt64) (up hg H v.toInt64) (up nm H (-1)) pl ph) := by
  intro Q
  have c1 := fun X Y Z Q' => c_101 (d := d) (Q := Q') (al := al) (lw := lw) (hg := hg) (nm := nm) (pl := pl) (ph := ph) B (x := X) (y := Y) (s := Z) hH
  have g := B.g
  simp only [s_102_0, s_102_1, s_102_32, s_102_33, s_102_34, s_102_35, s_102_36, s_102_37, s_102_38, s_102_41, s_102_42, s_102_43, s_102_44, s_102_45, s_102_48, s_102_49, s_102_50, s_102_51, s_102_53, s_102_54, s_102_55, s_102_58, s_102_60, s_102_61, s_102_62, s_102_64, s_102_65, s_102_66, s_102_69, s_102_70, s_102_71, s_102_74, s_102_76, s_102_78, s_102_81, s_102_83, s_102_84, s_102_85, s_102_88, s_102_89, s_102_90, s_102_91, s_102_92, s_102_93, s_102_94, s_102_95, s_102_96, s_102_99, s_102_100, s_102_101, s_102_102, s_102_105, s_102_106, s_102_107, s_102_109, s_102_110, s_102_111, s_102_114, s_102_115, s_102_116, s_102_119, s_102_120, s_102_121, s_102_124, s_102_127, s_102_128, s_102_129, s_102_130, s_102_131, s_102_134, s_102_137, s_102_138, s_102_140, s_102_141, s_102_142, s_102_143, s_102_146, s_102_149, s_102_150, s_102_152, s_102_153, s_102_154, s_102_155, s_102_156, s_102_157, s_102_160, s_102_161, e_102, mv_i_1, mv_l_1, mv_a_1, mv_a_2, mv_a_3, mk2_n, mk2_i, mk2_l, mk2_a, mk2_u, mk2_x, mB_T, mB_F, mS_cons, mS_nil, mSB_T, mSB_F, mca_nil, mca_i, mca_l, mca_r, mca_u, mca_x, mcat_i, mcat_l, mcat_r, mcat_u, mcat_x, mK_some, mK_none, va_rf_s, va_rf_n, lgc_eq, lgc_lt, lgc_gt, lgc_ge, lgc_le, mrd_104, mrd_105, mrd_106, mrd_107, true_and, and_true, and_self, false_and, and_false, true_or, or_true, false_or, or_false, not_true_eq_false, not_false_eq_true, mgb, mga, mgr, mN, reduceCtorEq, ↓reduceIte, eq_self, ge_iff_le, gt_iff_lt, Nat.reduceAdd, Nat.reduceMul, Nat.reduceSub, Nat.reduceLT, Nat.reduceGT, Nat.reduceEqDiff, Nat.reduceLeDiff, Nat.left_eq_add, Nat.add_eq_left, Nat.reduceMod, Nat.reduceDiv, Nat.succ_ne_self, rS_g, g, c1, show ((1 : Int32) = 1) = True by decide]
theorem q_102i (B : RB h o L G D P R X) (hH : H < 124) {v z : Int32} : ∀ Q, mcall (d + 1) 102 [.ref o, .int 4, .int v, .int z] (rS h o L G D P R al (Int32.ofNat H) lw hg nm pl ph) Q = Q (some (.int 1)) (rS h o L G D P R al (Int32.ofNat (H + 1)) (up lw H v.toInt64) (up hg H z.toInt64) (up nm H (-1)) pl ph) := by
  intro Q
  have c1 := fun X Y Z Q' => c_101 (d := d) (Q := Q') (al := al) (lw := lw) (hg := hg) (nm := nm) (pl := pl) (ph := ph) B (x := X) (y := Y) (s := Z) hH
  have g := B.g
  simp only [s_102_0, s_102_1, s_102_32, s_102_33, s_102_34, s_102_35, s_102_36, s_102_37, s_102_38, s_102_41, s_102_42, s_102_43, s_102_44, s_102_45, s_102_48, s_102_49, s_102_50, s_102_51, s_102_53, s_102_54, s_102_55, s_102_58, s_102_60, s_102_61, s_102_62, s_102_64, s_102_65, s_102_66, s_102_69, s_102_70, s_102_71, s_102_74, s_102_76, s_102_78, s_102_81, s_102_83, s_102_84, s_102_85, s_102_88, s_102_89, s_102_90, s_102_91, s_102_92, s_102_93, s_102_94, s_102_95, s_102_96, s_102_99, s_102_100, s_102_101, s_102_102, s_102_105, s_102_106, s_102_107, s_102_109, s_102_110, s_102_111, s_102_114, s_102_115, s_102_116, s_102_119, s_102_120, s_102_121, s_102_124, s_102_127, s_102_128, s_102_129, s_102_130, s_102_131, s_102_134, s_102_137, s_102_138, s_102_140, s_102_141, s_102_142, s_102_143, s_102_146, s_102_149, s_102_150, s_102_152, s_102_153, s_102_154, s_102_155, s_102_156, s_102_157, s_102_160, s_102_161, e_102, mv_i_1, mv_l_1, mv_a_1, mv_a_2, mv_a_3, mk2_n, mk2_i, mk2_l, mk2_a, mk2_u, mk2_x, mB_T, mB_F, mS_cons, mS_nil, mSB_T, mSB_F, mca_nil, mca_i, mca_l, mca_r, mca_u, mca_x, mcat_i, mcat_l, mcat_r, mcat_u, mcat_x, mK_some, mK_none, va_rf_s, va_rf_n, lgc_eq, lgc_lt, lgc_gt, lgc_ge, lgc_le, mrd_104, mrd_105, mrd_106, mrd_107, true_and, and_true, and_self, false_and, and_false, true_or, or_true, false_or, or_false, not_true_eq_false, not_false_eq_true, mgb, mga, mgr, mN, reduceCtorEq, ↓reduceIte, eq_self, ge_iff_le, gt_iff_lt, Nat.reduceAdd, Nat.reduceMul, Nat.reduceSub, Nat.reduceLT, Nat.reduceGT, Nat.reduceEqDiff, Nat.reduceLeDiff, Nat.left_eq_add, Nat.add_eq_left, Nat.reduceMod, Nat.reduceDiv, Nat.succ_ne_self, rS_g, g, c1, show ((4 : Int32) = 1) = False by decide, show ((4 : Int32) = 2) = False by decide, show ((4 : Int32) = 3) = False by decide, show ((4 : Int32) = 4) = True by decide]
theorem q_102n (B : RB h o L G D P R X) (hP : ∀ y, y ≤ 2 → ¬ X + y = P ∧ ¬ X + y = R) (r : RS h X (some A)) (hT : ab_T A) (hH : H < 124) {s nb : Nat} {z : Int32} (hnb : mh_i h o 2 = Int32.ofNat nb) (hs : nb + s < A.n) : ∃ x y : Int64, x.toInt = -a_gr A (2 * (nb + s) + 1) (2 * (nb + s) + 1) ∧ y.toInt = a_gr A (2 * (nb + s)) (2 * (nb + s)) ∧ ∀ Q, mcall (d + 1) 102 [.ref o, .int 2, .int (Int32.ofNat s), .int z] (rS h o L G D P R al (Int32.ofNat H) lw hg nm pl ph) Q = Q (some (.int 1)) (rS h o L G D P R al (Int32.ofNat (H + 1)) (up lw H x) (up hg H y) (up nm H (Int32.ofNat (nb + s))) pl ph) := by
  have n12 : A.n ≤ 12 := hT.n12
  have RX : RM (rS h o L G D P R al (Int32.ofNat H) lw hg nm pl ph) X A := (RS_rS B hP r).1
  have c1 := fun X Y Z Q' => c_101 (d := d) (Q := Q') (al := al) (lw := lw) (hg := hg) (nm := nm) (pl := pl) (ph := ph) B (x := X) (y := Y) (s := Z) hH
  have gX := (RS_so r).1
  have r1 := B.r1
  have g := B.g
  have nD : ¬ o = D := fun z => B.nD z.symm
  obtain ⟨x, x1, x2⟩ := l_146 (d := d) RX hT.t (v := 2 * (nb + s) + 1) (w := 2 * (nb + s) + 1) (by omega) (by omega)
  obtain ⟨y, y1, y2⟩ := l_146 (d := d) RX hT.t (v := 2 * (nb + s)) (w := 2 * (nb + s)) (by omega) (by omega)
  have xb := a_gr_r hT (v := 2 * (nb + s) + 1) (w := 2 * (nb + s) + 1) (by omega) (by omega)
  have x1' : x.toInt = a_gr A (2 * (nb + s) + 1) (2 * (nb + s) + 1) := x1
  have ei : ∀ k, Int32.ofNat k + 1 = Int32.ofNat (k + 1) := fun k => nn_add (a := k) (b := 1)
  have e3 : ∀ k, (2 : Int32) * Int32.ofNat k = Int32.ofNat (2 * k) := fun k => nn_mul (a := 2) (b := k)
  have e20 : ((2 : Int32) = 0) = False := by decide
  have dv : Int32.ofNat (2 * (nb + s)) / 2 = Int32.ofNat (nb + s) := by rw [nn_div2 (by omega)]; congr 1; omega
  refine ⟨-x, y, by rw [i64_n (by omega), x1'], y1, fun Q => ?_⟩
  simp (disch := omega) only [s_102_0, s_102_1, s_102_32, s_102_33, s_102_34, s_102_35, s_102_36, s_102_37, s_102_38, s_102_41, s_102_42, s_102_43, s_102_44, s_102_45, s_102_48, s_102_49, s_102_50, s_102_51, s_102_53, s_102_54, s_102_55, s_102_58, s_102_60, s_102_61, s_102_62, s_102_64, s_102_65, s_102_66, s_102_69, s_102_70, s_102_71, s_102_74, s_102_76, s_102_78, s_102_81, s_102_83, s_102_84, s_102_85, s_102_88, s_102_89, s_102_90, s_102_91, s_102_92, s_102_93, s_102_94, s_102_95, s_102_96, s_102_99, s_102_100, s_102_101, s_102_102, s_102_105, s_102_106, s_102_107, s_102_109, s_102_110, s_102_111, s_102_114, s_102_115, s_102_116, s_102_119, s_102_120, s_102_121, s_102_124, s_102_127, s_102_128, s_102_129, s_102_130, s_102_131, s_102_134, s_102_137, s_102_138, s_102_140, s_102_141, s_102_142, s_102_143, s_102_146, s_102_149, s_102_150, s_102_152, s_102_153, s_102_154, s_102_155, s_102_156, s_102_157, s_102_160, s_102_161, e_102, mv_i_1, mv_l_1, mv_a_1, mv_a_2, mv_a_3, mk2_n, mk2_i, mk2_l, mk2_a, mk2_u, mk2_x, mB_T, mB_F, mS_cons, mS_nil, mSB_T, mSB_F, mca_nil, mca_i, mca_l, mca_r, mca_u, mca_x, mcat_i, mcat_l, mcat_r, mcat_u, mcat_x, mK_some, mK_none, va_rf_s, va_rf_n, lgc_eq, lgc_lt, lgc_gt, lgc_ge, lgc_le, mrd_104, mrd_105, mrd_106, mrd_107, true_and, and_true, and_self, false_and, and_false, true_or, or_true, false_or, or_false, not_true_eq_false, not_false_eq_true, mgb, mga, mgr, mN, reduceCtorEq, ↓reduceIte, eq_self, ge_iff_le, gt_iff_lt, Nat.reduceAdd, Nat.reduceMul, Nat.reduceSub, Nat.reduceLT, Nat.reduceGT, Nat.reduceEqDiff, Nat.reduceLeDiff, Nat.left_eq_add, Nat.add_eq_left, Nat.reduceMod, Nat.reduceDiv, Nat.succ_ne_self, rS_g, rS_i, rS_r, g, gX, r1, nD, hnb, nn_add, e3, ei, x2, y2, e20, dv, c1, show ((2 : Int32) = 1) = False by decide, show ((2 : Int32) = 2) = True by decide]
end RBS5
