set_option maxRecDepth 100000
def nSl : Option Nat → Int32
  | none => -1
  | some s => Int32.ofNat s
def e_add (A : ab) (t : Nat) (s1 s2 : Option Nat) (a b c d : Int) : Int × Int := match s1, s2 with
  | some p, some q => if p = q then (if t = 0 then (a + c, b + d) else (0, 0)) else (-a_gr A (2 * p + 1) (oc_b (2 * q + t)), a_gr A (2 * p) (2 * q + t))
  | _, _ => if t = 0 then (a + c, b + d) else (a - d, b - c)
theorem RS_rS {h : mh_H} {o L G D P R X : Nat} {al H : Int32} {lw hg : Nat → Int64} {nm : Nat → Int32} {pl ph : Nat → Int64} {A : Option ab} (B : RB h o L G D P R X) (hP : ∀ y, y ≤ 2 → ¬ X + y = P ∧ ¬ X + y = R) (r : RS h X A) : RS (rS h o L G D P R al H lw hg nm pl ph) X A := by
  obtain ⟨s1, s2, s3, s4, s5, s6, s7⟩ := RS_so r
  have a0 := s1.1
  have a1 := s3.1
  have a2 := s6.1
  have g := B.g.1
  have gL := B.lL
  have gG := B.lG
  have gD := B.gD.1
  have kL := B.gL.1
  have kG := B.gG.1
  have p0 := hP 0 (by omega)
  have p1 := hP 1 (by omega)
  have p2 := hP 2 (by omega)
  refine RS_fq rS_fq ?_ ?_ ?_ r
  · rintro (z | z | z | z | z | z)
    · rw [z] at a0; omega
    · rw [z] at a0; omega
    · rw [z] at a0; omega
    · rw [z] at a0; omega
    · exact p0.1 z
    · exact p0.2 z
  · rintro (z | z | z | z | z | z)
    · rw [z] at a1; omega
    · rw [z] at s4; omega
    · rw [z] at s4; omega
    · rw [z] at a1; omega
    · exact p1.1 z
    · exact p1.2 z
  · rintro (z | z | z | z | z | z)
    · rw [z] at a2; omega
    · rw [z] at s7; omega
    · rw [z] at s7; omega
    · rw [z] at a2; omega
    · exact p2.1 z
    · exact p2.2 z
section RBS3
variable {d : Nat} {h : mh_H} {o L G D P R X : Nat} {al : Int32} {H : Nat} {lw hg : Nat → Int64} {nm : Nat → Int32} {pl ph : Nat → Int64} {A : ab}
theorem q_112 (B : RB h o L G D P R X) (hH : H < 124) : ∃ f l u, eR (e_ints (lw H).toInt (hg H).toInt) f l u ∧ ∀ Q, mcall d 112 [.ref o] (rS h o L G D P R al (Int32.ofNat (H + 1)) lw hg nm pl ph) Q = Q (some (.int (kb f))) (rS h o L G D P R (al ||| (e_ints (lw H).toInt (hg H).toInt).2) (Int32.ofNat (H + 1)) (up lw H l) (up hg H u) nm pl ph) := by
  refine ⟨decide (lmax (lw H) (-2147483648) ≤ lmin (hg H) 2147483647), lmax (lw H) (-2147483648), lmin (hg H) 2147483647, ?e, fun Q => ?c⟩
  case c =>
    rw [c_112 B hH]
    have e : (if lw H < -2147483648 ∨ 2147483647 < hg H then (1 : Int32) else 0) = (e_ints (lw H).toInt (hg H).toInt).2 := by
      unfold e_ints
      simp only [lt64, lit_lo, lit_hi]
    rw [e]
  case e =>
    unfold eR e_ints
    dsimp only
    have e : (lmax (lw H) (-2147483648) ≤ lmin (hg H) 2147483647) ↔ max (lw H).toInt (-2147483648) ≤ min (hg H).toInt 2147483647 := by
      rw [le64, lmax_int, lmin_int, lit_lo, lit_hi]
    by_cases c : max (lw H).toInt (-2147483648) ≤ min (hg H).toInt 2147483647
    · rw [if_pos c]
      exact ⟨decide_eq_true (e.mpr c), by rw [lmax_int, lit_lo], by rw [lmin_int, lit_hi]⟩
    · rw [if_neg c]
      exact decide_eq_false (fun z => c (e.mp z))
theorem q_106 (B : RB h o L G D P R X) (hP : ∀ y, y ≤ 2 → ¬ X + y = P ∧ ¬ X + y = R) (r : RS h X (some A)) (hT : ab_T A) (hH : H + 1 < 124) {t : Nat} (ht : t = 0 ∨ t = 1) {s1 s2 : Option Nat} (h1 : nm H = nSl s1) (h2 : nm (H + 1) = nSl s2) (b1 : ∀ p, s1 = some p → p < A.n) (b2 : ∀ p, s2 = some p → p < A.n) (ha : iI (lw H).toInt) (hb : iI (hg H).toInt) (hc : iI (lw (H + 1)).toInt) (he : iI (hg (H + 1)).toInt) : ∃ x y : Int64, (x.toInt, y.toInt) = e_add A t s1 s2 (lw H).toInt (hg H).toInt (lw (H + 1)).toInt (hg (H + 1)).toInt ∧ ∀ Q, mcall (d + 1) 106 [.ref o, .int (Int32.ofNat t)] (rS h o L G D P R al (Int32.ofNat (H + 2)) lw hg nm pl ph) Q = Q none (rS h o L G D P R al (Int32.ofNat (H + 1)) (up lw H x) (up hg H y) (up nm H (-1)) pl ph) := by
  have n12 : A.n ≤ 12 := hT.n12
  have RX : ∀ (H' : Int32) lw' hg' nm', RM (rS h o L G D P R al H' lw' hg' nm' pl ph) X A := fun H' lw' hg' nm' => (RS_rS B hP r).1
  obtain ⟨g, r1, r5, r6, r7, r9, r10, gL, gG, gD, gP, gR, lL, lG, lD, n1, n2, n3, n4, n5, n6⟩ := B
  have nD : ¬ D = o := fun z => by have := g.1; have := gD.1; rw [z] at *; omega
  have gX := (RS_so r).1
  have es : Int32.ofNat (H + 1) - 1 = Int32.ofNat H := nn_sub (a := H + 1) (b := 1) (by omega)
  have es2 : Int32.ofNat (H + 2) - 1 = Int32.ofNat (H + 1) := nn_sub (a := H + 2) (b := 1) (by omega)
  have ei : ∀ k, Int32.ofNat k + 1 = Int32.ofNat (k + 1) := fun k => nn_add (a := k) (b := 1)
  have e3 : ∀ k, (2 : Int32) * Int32.ofNat k = Int32.ofNat (2 * k) := fun k => nn_mul (a := 2) (b := k)
  have n : ¬ H + 1 = H := by omega
  have mm : ∀ p : Nat, p < 100 → (Int32.ofNat p = -1) = False := fun p hp => eq_false (fun z => by
    have := congrArg Int32.toInt z
    rw [nn_int (by omega)] at this
    have e : (-1 : Int32).toInt = -1 := by decide
    omega)
  have mm' : ((-1 : Int32) = -1) = True := eq_true rfl
  have mm2 : ∀ p : Nat, p < 100 → ((-1 : Int32) = Int32.ofNat p) = False := fun p hp => eq_false (fun z => by
    have := mm p hp
    rw [← z] at this
    exact absurd this (by simp))
  have t0 : (Int32.ofNat 0 = 0) = True := eq_true rfl
  have t1 : (Int32.ofNat 1 = 0) = False := by decide
  unfold iI at ha hb hc he
  have plain : ∀ X1 X2 : Prop, t = 0 → ((lw H + lw (H + 1)).toInt, (hg H + hg (H + 1)).toInt) = ((lw H).toInt + (lw (H + 1)).toInt, (hg H).toInt + (hg (H + 1)).toInt) := fun _ _ _ => by
    rw [ladd_int (by omega) (by omega), ladd_int (by omega) (by omega)]
  have minus : ((lw H - hg (H + 1)).toInt, (hg H - lw (H + 1)).toInt) = ((lw H).toInt - (hg (H + 1)).toInt, (hg H).toInt - (lw (H + 1)).toInt) := by
    rw [lsub_int (by omega) (by omega), lsub_int (by omega) (by omega)]
  cases s1 with
  | none =>
    have h1' : nm H = -1 := h1
    have ed : e_add A t none s2 (lw H).toInt (hg H).toInt (lw (H + 1)).toInt (hg (H + 1)).toInt = if t = 0 then ((lw H).toInt + (lw (H + 1)).toInt, (hg H).toInt + (hg (H + 1)).toInt) else ((lw H).toInt - (hg (H + 1)).toInt, (hg H).toInt - (lw (H + 1)).toInt) := by cases s2 <;> rfl
    rw [ed]
    rcases ht with rfl | rfl
    · refine ⟨lw H + lw (H + 1), hg H + hg (H + 1), by rw [if_pos rfl]; exact plain True True rfl, fun Q => ?_⟩
      simp (disch := omega) only [s_106_0, s_106_1, s_106_2, s_106_5, s_106_6, s_106_7, s_106_10, s_106_11, s_106_14, s_106_15, s_106_16, s_106_17, s_106_18, s_106_21, s_106_22, s_106_23, s_106_24, s_106_27, s_106_28, s_106_31, s_106_32, s_106_33, s_106_34, s_106_35, s_106_36, s_106_39, s_106_40, s_106_43, s_106_44, s_106_45, s_106_46, s_106_49, s_106_50, s_106_51, s_106_52, s_106_53, s_106_56, s_106_57, s_106_58, s_106_61, s_106_62, s_106_63, s_106_64, s_106_65, s_106_66, s_106_67, s_106_70, s_106_71, s_106_72, s_106_73, s_106_74, s_106_75, s_106_76, s_106_77, s_106_79, s_106_80, s_106_83, s_106_84, s_106_85, s_106_88, s_106_89, s_106_90, s_106_91, s_106_93, s_106_94, s_106_95, s_106_98, s_106_99, s_106_100, s_106_101, s_106_104, s_106_105, s_106_106, s_106_109, s_106_110, s_106_112, s_106_115, s_106_116, s_106_119, s_106_120, s_106_123, s_106_124, s_106_127, s_106_128, s_106_128l, s_106_129, s_106_130, s_106_131, s_106_134, s_106_135, s_106_136, s_106_137, s_106_138, s_106_139, s_106_140, s_106_141, s_106_144, s_106_145, s_106_145l, s_106_146, s_106_147, s_106_148, s_106_151, s_106_152, s_106_153, s_106_154, s_106_155, s_106_156, s_106_157, s_106_160, s_106_161, s_106_164, s_106_165, s_106_166, s_106_167, s_106_170, s_106_171, s_106_174, s_106_175, s_106_176, s_106_177, s_106_180, s_106_181, s_106_182, s_106_183, s_106_184, s_106_187, s_106_188, s_106_191, s_106_192, s_106_193, s_106_194, s_106_195, s_106_198, s_106_199, s_106_200, s_106_201, s_106_204, s_106_205, s_106_208, s_106_209, s_106_209l, s_106_210, s_106_211, s_106_212, s_106_215, s_106_216, s_106_217, s_106_218, s_106_219, s_106_220, s_106_221, s_106_222, s_106_225, s_106_226, s_106_226l, s_106_227, s_106_228, s_106_229, s_106_232, s_106_233, s_106_234, s_106_235, s_106_236, s_106_237, s_106_238, s_106_239, s_106_242, s_106_243, s_106_244, s_106_245, e_106, mv_i_1, mv_l_1, mv_a_1, mv_a_2, mv_a_3, mk2_n, mk2_i, mk2_l, mk2_a, mk2_u, mk2_x, mB_T, mB_F, mS_cons, mS_nil, mSB_T, mSB_F, mca_nil, mca_i, mca_l, mca_r, mca_u, mca_x, mcat_i, mcat_l, mcat_r, mcat_u, mcat_x, mK_some, mK_none, va_rf_s, va_rf_n, lgc_eq, lgc_lt, lgc_gt, lgc_ge, lgc_le, mrd_104, mrd_105, mrd_106, mrd_107, true_and, and_true, and_self, false_and, and_false, true_or, or_true, false_or, or_false, not_true_eq_false, not_false_eq_true, mgb, mga, mgr, mN, reduceCtorEq, ↓reduceIte, eq_self, ge_iff_le, gt_iff_lt, Nat.reduceAdd, Nat.reduceMul, Nat.reduceSub, Nat.reduceLT, Nat.reduceGT, Nat.reduceEqDiff, Nat.reduceLeDiff, Nat.left_eq_add, Nat.add_eq_left, Nat.reduceMod, Nat.reduceDiv, Nat.succ_ne_self, rS_g, rS_i, rS_j, rS_k, rS_n, rS_r, rS_l, rS_8, rS_L, rS_G n1, rS_D nD, g, r5, r6, r7, gL, gG, gD, lL, lG, lD, n1, nD, nn_mxT, nn_clamp, es, es2, ei, up_s, up_n n, h1', mm', t0]
    · refine ⟨lw H - hg (H + 1), hg H - lw (H + 1), by rw [if_neg (by omega)]; exact minus, fun Q => ?_⟩
      simp (disch := omega) only [s_106_0, s_106_1, s_106_2, s_106_5, s_106_6, s_106_7, s_106_10, s_106_11, s_106_14, s_106_15, s_106_16, s_106_17, s_106_18, s_106_21, s_106_22, s_106_23, s_106_24, s_106_27, s_106_28, s_106_31, s_106_32, s_106_33, s_106_34, s_106_35, s_106_36, s_106_39, s_106_40, s_106_43, s_106_44, s_106_45, s_106_46, s_106_49, s_106_50, s_106_51, s_106_52, s_106_53, s_106_56, s_106_57, s_106_58, s_106_61, s_106_62, s_106_63, s_106_64, s_106_65, s_106_66, s_106_67, s_106_70, s_106_71, s_106_72, s_106_73, s_106_74, s_106_75, s_106_76, s_106_77, s_106_79, s_106_80, s_106_83, s_106_84, s_106_85, s_106_88, s_106_89, s_106_90, s_106_91, s_106_93, s_106_94, s_106_95, s_106_98, s_106_99, s_106_100, s_106_101, s_106_104, s_106_105, s_106_106, s_106_109, s_106_110, s_106_112, s_106_115, s_106_116, s_106_119, s_106_120, s_106_123, s_106_124, s_106_127, s_106_128, s_106_128l, s_106_129, s_106_130, s_106_131, s_106_134, s_106_135, s_106_136, s_106_137, s_106_138, s_106_139, s_106_140, s_106_141, s_106_144, s_106_145, s_106_145l, s_106_146, s_106_147, s_106_148, s_106_151, s_106_152, s_106_153, s_106_154, s_106_155, s_106_156, s_106_157, s_106_160, s_106_161, s_106_164, s_106_165, s_106_166, s_106_167, s_106_170, s_106_171, s_106_174, s_106_175, s_106_176, s_106_177, s_106_180, s_106_181, s_106_182, s_106_183, s_106_184, s_106_187, s_106_188, s_106_191, s_106_192, s_106_193, s_106_194, s_106_195, s_106_198, s_106_199, s_106_200, s_106_201, s_106_204, s_106_205, s_106_208, s_106_209, s_106_209l, s_106_210, s_106_211, s_106_212, s_106_215, s_106_216, s_106_217, s_106_218, s_106_219, s_106_220, s_106_221, s_106_222, s_106_225, s_106_226, s_106_226l, s_106_227, s_106_228, s_106_229, s_106_232, s_106_233, s_106_234, s_106_235, s_106_236, s_106_237, s_106_238, s_106_239, s_106_242, s_106_243, s_106_244, s_106_245, e_106, mv_i_1, mv_l_1, mv_a_1, mv_a_2, mv_a_3, mk2_n, mk2_i, mk2_l, mk2_a, mk2_u, mk2_x, mB_T, mB_F, mS_cons, mS_nil, mSB_T, mSB_F, mca_nil, mca_i, mca_l, mca_r, mca_u, mca_x, mcat_i, mcat_l, mcat_r, mcat_u, mcat_x, mK_some, mK_none, va_rf_s, va_rf_n, lgc_eq, lgc_lt, lgc_gt, lgc_ge, lgc_le, mrd_104, mrd_105, mrd_106, mrd_107, true_and, and_true, and_self, false_and, and_false, true_or, or_true, false_or, or_false, not_true_eq_false, not_false_eq_true, mgb, mga, mgr, mN, reduceCtorEq, ↓reduceIte, eq_self, ge_iff_le, gt_iff_lt, Nat.reduceAdd, Nat.reduceMul, Nat.reduceSub, Nat.reduceLT, Nat.reduceGT, Nat.reduceEqDiff, Nat.reduceLeDiff, Nat.left_eq_add, Nat.add_eq_left, Nat.reduceMod, Nat.reduceDiv, Nat.succ_ne_self, rS_g, rS_i, rS_j, rS_k, rS_n, rS_r, rS_l, rS_8, rS_L, rS_G n1, rS_D nD, g, r5, r6, r7, gL, gG, gD, lL, lG, lD, n1, nD, nn_mxT, nn_clamp, es, es2, ei, up_s, up_n n, h1', mm', t1]
  | some p =>
    have hp := b1 p rfl
    have h1' : nm H = Int32.ofNat p := h1
    have m1 := mm p (by omega)
    cases s2 with
    | none =>
      have h2' : nm (H + 1) = -1 := h2
      have ed : e_add A t (some p) none (lw H).toInt (hg H).toInt (lw (H + 1)).toInt (hg (H + 1)).toInt = if t = 0 then ((lw H).toInt + (lw (H + 1)).toInt, (hg H).toInt + (hg (H + 1)).toInt) else ((lw H).toInt - (hg (H + 1)).toInt, (hg H).toInt - (lw (H + 1)).toInt) := rfl
      rw [ed]
      rcases ht with rfl | rfl
      · refine ⟨lw H + lw (H + 1), hg H + hg (H + 1), by rw [if_pos rfl]; exact plain True True rfl, fun Q => ?_⟩
        simp (disch := omega) only [s_106_0, s_106_1, s_106_2, s_106_5, s_106_6, s_106_7, s_106_10, s_106_11, s_106_14, s_106_15, s_106_16, s_106_17, s_106_18, s_106_21, s_106_22, s_106_23, s_106_24, s_106_27, s_106_28, s_106_31, s_106_32, s_106_33, s_106_34, s_106_35, s_106_36, s_106_39, s_106_40, s_106_43, s_106_44, s_106_45, s_106_46, s_106_49, s_106_50, s_106_51, s_106_52, s_106_53, s_106_56, s_106_57, s_106_58, s_106_61, s_106_62, s_106_63, s_106_64, s_106_65, s_106_66, s_106_67, s_106_70, s_106_71, s_106_72, s_106_73, s_106_74, s_106_75, s_106_76, s_106_77, s_106_79, s_106_80, s_106_83, s_106_84, s_106_85, s_106_88, s_106_89, s_106_90, s_106_91, s_106_93, s_106_94, s_106_95, s_106_98, s_106_99, s_106_100, s_106_101, s_106_104, s_106_105, s_106_106, s_106_109, s_106_110, s_106_112, s_106_115, s_106_116, s_106_119, s_106_120, s_106_123, s_106_124, s_106_127, s_106_128, s_106_128l, s_106_129, s_106_130, s_106_131, s_106_134, s_106_135, s_106_136, s_106_137, s_106_138, s_106_139, s_106_140, s_106_141, s_106_144, s_106_145, s_106_145l, s_106_146, s_106_147, s_106_148, s_106_151, s_106_152, s_106_153, s_106_154, s_106_155, s_106_156, s_106_157, s_106_160, s_106_161, s_106_164, s_106_165, s_106_166, s_106_167, s_106_170, s_106_171, s_106_174, s_106_175, s_106_176, s_106_177, s_106_180, s_106_181, s_106_182, s_106_183, s_106_184, s_106_187, s_106_188, s_106_191, s_106_192, s_106_193, s_106_194, s_106_195, s_106_198, s_106_199, s_106_200, s_106_201, s_106_204, s_106_205, s_106_208, s_106_209, s_106_209l, s_106_210, s_106_211, s_106_212, s_106_215, s_106_216, s_106_217, s_106_218, s_106_219, s_106_220, s_106_221, s_106_222, s_106_225, s_106_226, s_106_226l, s_106_227, s_106_228, s_106_229, s_106_232, s_106_233, s_106_234, s_106_235, s_106_236, s_106_237, s_106_238, s_106_239, s_106_242, s_106_243, s_106_244, s_106_245, e_106, mv_i_1, mv_l_1, mv_a_1, mv_a_2, mv_a_3, mk2_n, mk2_i, mk2_l, mk2_a, mk2_u, mk2_x, mB_T, mB_F, mS_cons, mS_nil, mSB_T, mSB_F, mca_nil, mca_i, mca_l, mca_r, mca_u, mca_x, mcat_i, mcat_l, mcat_r, mcat_u, mcat_x, mK_some, mK_none, va_rf_s, va_rf_n, lgc_eq, lgc_lt, lgc_gt, lgc_ge, lgc_le, mrd_104, mrd_105, mrd_106, mrd_107, true_and, and_true, and_self, false_and, and_false, true_or, or_true, false_or, or_false, not_true_eq_false, not_false_eq_true, mgb, mga, mgr, mN, reduceCtorEq, ↓reduceIte, eq_self, ge_iff_le, gt_iff_lt, Nat.reduceAdd, Nat.reduceMul, Nat.reduceSub, Nat.reduceLT, Nat.reduceGT, Nat.reduceEqDiff, Nat.reduceLeDiff, Nat.left_eq_add, Nat.add_eq_left, Nat.reduceMod, Nat.reduceDiv, Nat.succ_ne_self, rS_g, rS_i, rS_j, rS_k, rS_n, rS_r, rS_l, rS_8, rS_L, rS_G n1, rS_D nD, g, r5, r6, r7, gL, gG, gD, lL, lG, lD, n1, nD, nn_mxT, nn_clamp, es, es2, ei, up_s, up_n n, h1', h2', m1, mm', t0]
      · refine ⟨lw H - hg (H + 1), hg H - lw (H + 1), by rw [if_neg (by omega)]; exact minus, fun Q => ?_⟩
        simp (disch := omega) only [s_106_0, s_106_1, s_106_2, s_106_5, s_106_6, s_106_7, s_106_10, s_106_11, s_106_14, s_106_15, s_106_16, s_106_17, s_106_18, s_106_21, s_106_22, s_106_23, s_106_24, s_106_27, s_106_28, s_106_31, s_106_32, s_106_33, s_106_34, s_106_35, s_106_36, s_106_39, s_106_40, s_106_43, s_106_44, s_106_45, s_106_46, s_106_49, s_106_50, s_106_51, s_106_52, s_106_53, s_106_56, s_106_57, s_106_58, s_106_61, s_106_62, s_106_63, s_106_64, s_106_65, s_106_66, s_106_67, s_106_70, s_106_71, s_106_72, s_106_73, s_106_74, s_106_75, s_106_76, s_106_77, s_106_79, s_106_80, s_106_83, s_106_84, s_106_85, s_106_88, s_106_89, s_106_90, s_106_91, s_106_93, s_106_94, s_106_95, s_106_98, s_106_99, s_106_100, s_106_101, s_106_104, s_106_105, s_106_106, s_106_109, s_106_110, s_106_112, s_106_115, s_106_116, s_106_119, s_106_120, s_106_123, s_106_124, s_106_127, s_106_128, s_106_128l, s_106_129, s_106_130, s_106_131, s_106_134, s_106_135, s_106_136, s_106_137, s_106_138, s_106_139, s_106_140, s_106_141, s_106_144, s_106_145, s_106_145l, s_106_146, s_106_147, s_106_148, s_106_151, s_106_152, s_106_153, s_106_154, s_106_155, s_106_156, s_106_157, s_106_160, s_106_161, s_106_164, s_106_165, s_106_166, s_106_167, s_106_170, s_106_171, s_106_174, s_106_175, s_106_176, s_106_177, s_106_180, s_106_181, s_106_182, s_106_183, s_106_184, s_106_187, s_106_188, s_106_191, s_106_192, s_106_193, s_106_194, s_106_195, s_106_198, s_106_199, s_106_200, s_106_201, s_106_204, s_106_205, s_106_208, s_106_209, s_106_209l, s_106_210, s_106_211, s_106_212, s_106_215, s_106_216, s_106_217, s_106_218, s_106_219, s_106_220, s_106_221, s_106_222, s_106_225, s_106_226, s_106_226l, s_106_227, s_106_228, s_106_229, s_106_232, s_106_233, s_106_234, s_106_235, s_106_236, s_106_237, s_106_238, s_106_239, s_106_242, s_106_243, s_106_244, s_106_245, e_106, mv_i_1, mv_l_1, mv_a_1, mv_a_2, mv_a_3, mk2_n, mk2_i, mk2_l, mk2_a, mk2_u, mk2_x, mB_T, mB_F, mS_cons, mS_nil, mSB_T, mSB_F, mca_nil, mca_i, mca_l, mca_r, mca_u, mca_x, mcat_i, mcat_l, mcat_r, mcat_u, mcat_x, mK_some, mK_none, va_rf_s, va_rf_n, lgc_eq, lgc_lt, lgc_gt, lgc_ge, lgc_le, mrd_104, mrd_105, mrd_106, mrd_107, true_and, and_true, and_self, false_and, and_false, true_or, or_true, false_or, or_false, not_true_eq_false, not_false_eq_true, mgb, mga, mgr, mN, reduceCtorEq, ↓reduceIte, eq_self, ge_iff_le, gt_iff_lt, Nat.reduceAdd, Nat.reduceMul, Nat.reduceSub, Nat.reduceLT, Nat.reduceGT, Nat.reduceEqDiff, Nat.reduceLeDiff, Nat.left_eq_add, Nat.add_eq_left, Nat.reduceMod, Nat.reduceDiv, Nat.succ_ne_self, rS_g, rS_i, rS_j, rS_k, rS_n, rS_r, rS_l, rS_8, rS_L, rS_G n1, rS_D nD, g, r5, r6, r7, gL, gG, gD, lL, lG, lD, n1, nD, nn_mxT, nn_clamp, es, es2, ei, up_s, up_n n, h1', h2', m1, mm', t1]
    | some q =>
      have hq := b2 q rfl
      have h2' : nm (H + 1) = Int32.ofNat q := h2
      have m2 := mm q (by omega)
      by_cases c : p = q
      · subst c
        have ed : e_add A t (some p) (some p) (lw H).toInt (hg H).toInt (lw (H + 1)).toInt (hg (H + 1)).toInt = if t = 0 then ((lw H).toInt + (lw (H + 1)).toInt, (hg H).toInt + (hg (H + 1)).toInt) else (0, 0) := by
          show (if p = p then _ else _) = _
          rw [if_pos rfl]
        rw [ed]
        rcases ht with rfl | rfl
        · refine ⟨lw H + lw (H + 1), hg H + hg (H + 1), by rw [if_pos rfl]; exact plain True True rfl, fun Q => ?_⟩
          simp (disch := omega) only [s_106_0, s_106_1, s_106_2, s_106_5, s_106_6, s_106_7, s_106_10, s_106_11, s_106_14, s_106_15, s_106_16, s_106_17, s_106_18, s_106_21, s_106_22, s_106_23, s_106_24, s_106_27, s_106_28, s_106_31, s_106_32, s_106_33, s_106_34, s_106_35, s_106_36, s_106_39, s_106_40, s_106_43, s_106_44, s_106_45, s_106_46, s_106_49, s_106_50, s_106_51, s_106_52, s_106_53, s_106_56, s_106_57, s_106_58, s_106_61, s_106_62, s_106_63, s_106_64, s_106_65, s_106_66, s_106_67, s_106_70, s_106_71, s_106_72, s_106_73, s_106_74, s_106_75, s_106_76, s_106_77, s_106_79, s_106_80, s_106_83, s_106_84, s_106_85, s_106_88, s_106_89, s_106_90, s_106_91, s_106_93, s_106_94, s_106_95, s_106_98, s_106_99, s_106_100, s_106_101, s_106_104, s_106_105, s_106_106, s_106_109, s_106_110, s_106_112, s_106_115, s_106_116, s_106_119, s_106_120, s_106_123, s_106_124, s_106_127, s_106_128, s_106_128l, s_106_129, s_106_130, s_106_131, s_106_134, s_106_135, s_106_136, s_106_137, s_106_138, s_106_139, s_106_140, s_106_141, s_106_144, s_106_145, s_106_145l, s_106_146, s_106_147, s_106_148, s_106_151, s_106_152, s_106_153, s_106_154, s_106_155, s_106_156, s_106_157, s_106_160, s_106_161, s_106_164, s_106_165, s_106_166, s_106_167, s_106_170, s_106_171, s_106_174, s_106_175, s_106_176, s_106_177, s_106_180, s_106_181, s_106_182, s_106_183, s_106_184, s_106_187, s_106_188, s_106_191, s_106_192, s_106_193, s_106_194, s_106_195, s_106_198, s_106_199, s_106_200, s_106_201, s_106_204, s_106_205, s_106_208, s_106_209, s_106_209l, s_106_210, s_106_211, s_106_212, s_106_215, s_106_216, s_106_217, s_106_218, s_106_219, s_106_220, s_106_221, s_106_222, s_106_225, s_106_226, s_106_226l, s_106_227, s_106_228, s_106_229, s_106_232, s_106_233, s_106_234, s_106_235, s_106_236, s_106_237, s_106_238, s_106_239, s_106_242, s_106_243, s_106_244, s_106_245, e_106, mv_i_1, mv_l_1, mv_a_1, mv_a_2, mv_a_3, mk2_n, mk2_i, mk2_l, mk2_a, mk2_u, mk2_x, mB_T, mB_F, mS_cons, mS_nil, mSB_T, mSB_F, mca_nil, mca_i, mca_l, mca_r, mca_u, mca_x, mcat_i, mcat_l, mcat_r, mcat_u, mcat_x, mK_some, mK_none, va_rf_s, va_rf_n, lgc_eq, lgc_lt, lgc_gt, lgc_ge, lgc_le, mrd_104, mrd_105, mrd_106, mrd_107, true_and, and_true, and_self, false_and, and_false, true_or, or_true, false_or, or_false, not_true_eq_false, not_false_eq_true, mgb, mga, mgr, mN, reduceCtorEq, ↓reduceIte, eq_self, ge_iff_le, gt_iff_lt, Nat.reduceAdd, Nat.reduceMul, Nat.reduceSub, Nat.reduceLT, Nat.reduceGT, Nat.reduceEqDiff, Nat.reduceLeDiff, Nat.left_eq_add, Nat.add_eq_left, Nat.reduceMod, Nat.reduceDiv, Nat.succ_ne_self, rS_g, rS_i, rS_j, rS_k, rS_n, rS_r, rS_l, rS_8, rS_L, rS_G n1, rS_D nD, g, r5, r6, r7, gL, gG, gD, lL, lG, lD, n1, nD, nn_mxT, nn_clamp, es, es2, ei, up_s, up_n n, h1', h2', m1, mm', t0]
        · refine ⟨0, 0, by rw [if_neg (by omega)]; rfl, fun Q => ?_⟩
          simp (disch := omega) only [s_106_0, s_106_1, s_106_2, s_106_5, s_106_6, s_106_7, s_106_10, s_106_11, s_106_14, s_106_15, s_106_16, s_106_17, s_106_18, s_106_21, s_106_22, s_106_23, s_106_24, s_106_27, s_106_28, s_106_31, s_106_32, s_106_33, s_106_34, s_106_35, s_106_36, s_106_39, s_106_40, s_106_43, s_106_44, s_106_45, s_106_46, s_106_49, s_106_50, s_106_51, s_106_52, s_106_53, s_106_56, s_106_57, s_106_58, s_106_61, s_106_62, s_106_63, s_106_64, s_106_65, s_106_66, s_106_67, s_106_70, s_106_71, s_106_72, s_106_73, s_106_74, s_106_75, s_106_76, s_106_77, s_106_79, s_106_80, s_106_83, s_106_84, s_106_85, s_106_88, s_106_89, s_106_90, s_106_91, s_106_93, s_106_94, s_106_95, s_106_98, s_106_99, s_106_100, s_106_101, s_106_104, s_106_105, s_106_106, s_106_109, s_106_110, s_106_112, s_106_115, s_106_116, s_106_119, s_106_120, s_106_123, s_106_124, s_106_127, s_106_128, s_106_128l, s_106_129, s_106_130, s_106_131, s_106_134, s_106_135, s_106_136, s_106_137, s_106_138, s_106_139, s_106_140, s_106_141, s_106_144, s_106_145, s_106_145l, s_106_146, s_106_147, s_106_148, s_106_151, s_106_152, s_106_153, s_106_154, s_106_155, s_106_156, s_106_157, s_106_160, s_106_161, s_106_164, s_106_165, s_106_166, s_106_167, s_106_170, s_106_171, s_106_174, s_106_175, s_106_176, s_106_177, s_106_180, s_106_181, s_106_182, s_106_183, s_106_184, s_106_187, s_106_188, s_106_191, s_106_192, s_106_193, s_106_194, s_106_195, s_106_198, s_106_199, s_106_200, s_106_201, s_106_204, s_106_205, s_106_208, s_106_209, s_106_209l, s_106_210, s_106_211, s_106_212, s_106_215, s_106_216, s_106_217, s_106_218, s_106_219, s_106_220, s_106_221, s_106_222, s_106_225, s_106_226, s_106_226l, s_106_227, s_106_228, s_106_229, s_106_232, s_106_233, s_106_234, s_106_235, s_106_236, s_106_237, s_106_238, s_106_239, s_106_242, s_106_243, s_106_244, s_106_245, e_106, mv_i_1, mv_l_1, mv_a_1, mv_a_2, mv_a_3, mk2_n, mk2_i, mk2_l, mk2_a, mk2_u, mk2_x, mB_T, mB_F, mS_cons, mS_nil, mSB_T, mSB_F, mca_nil, mca_i, mca_l, mca_r, mca_u, mca_x, mcat_i, mcat_l, mcat_r, mcat_u, mcat_x, mK_some, mK_none, va_rf_s, va_rf_n, lgc_eq, lgc_lt, lgc_gt, lgc_ge, lgc_le, mrd_104, mrd_105, mrd_106, mrd_107, true_and, and_true, and_self, false_and, and_false, true_or, or_true, false_or, or_false, not_true_eq_false, not_false_eq_true, mgb, mga, mgr, mN, reduceCtorEq, ↓reduceIte, eq_self, ge_iff_le, gt_iff_lt, Nat.reduceAdd, Nat.reduceMul, Nat.reduceSub, Nat.reduceLT, Nat.reduceGT, Nat.reduceEqDiff, Nat.reduceLeDiff, Nat.left_eq_add, Nat.add_eq_left, Nat.reduceMod, Nat.reduceDiv, Nat.succ_ne_self, rS_g, rS_i, rS_j, rS_k, rS_n, rS_r, rS_l, rS_8, rS_L, rS_G n1, rS_D nD, g, r5, r6, r7, gL, gG, gD, lL, lG, lD, n1, nD, nn_mxT, nn_clamp, es, es2, ei, up_s, up_n n, h1', h2', m1, mm', t1]
      · have ed : e_add A t (some p) (some q) (lw H).toInt (hg H).toInt (lw (H + 1)).toInt (hg (H + 1)).toInt = (-a_gr A (2 * p + 1) (oc_b (2 * q + t)), a_gr A (2 * p) (2 * q + t)) := by
          show (if p = q then _ else _) = _
          rw [if_neg c]
        rw [ed]
        have ht2 : t ≤ 1 := by omega
        have bw : oc_b (2 * q + t) < 2 * A.n := oc_bl (by omega)
        obtain ⟨x, x1, x2⟩ := l_146 (d := d) (RX (Int32.ofNat (H + 1)) lw hg nm) hT.t (v := 2 * p + 1) (w := oc_b (2 * q + t)) (by omega) bw
        obtain ⟨y, y1, y2⟩ := l_146 (d := d) (RX (Int32.ofNat (H + 1)) (up lw H (-x)) hg nm) hT.t (v := 2 * p) (w := 2 * q + t) (by omega) (by omega)
        have xb := a_gr_r hT (v := 2 * p + 1) (w := oc_b (2 * q + t)) (by omega) bw
        have x1' : x.toInt = a_gr A (2 * p + 1) (oc_b (2 * q + t)) := x1
        have y1' : y.toInt = a_gr A (2 * p) (2 * q + t) := y1
        refine ⟨-x, y, by rw [i64_n (by omega), x1', y1'], fun Q => ?_⟩
        have vb : oc_b (2 * p) = 2 * p + 1 := oc_be p
        simp (disch := omega) only [s_106_0, s_106_1, s_106_2, s_106_5, s_106_6, s_106_7, s_106_10, s_106_11, s_106_14, s_106_15, s_106_16, s_106_17, s_106_18, s_106_21, s_106_22, s_106_23, s_106_24, s_106_27, s_106_28, s_106_31, s_106_32, s_106_33, s_106_34, s_106_35, s_106_36, s_106_39, s_106_40, s_106_43, s_106_44, s_106_45, s_106_46, s_106_49, s_106_50, s_106_51, s_106_52, s_106_53, s_106_56, s_106_57, s_106_58, s_106_61, s_106_62, s_106_63, s_106_64, s_106_65, s_106_66, s_106_67, s_106_70, s_106_71, s_106_72, s_106_73, s_106_74, s_106_75, s_106_76, s_106_77, s_106_79, s_106_80, s_106_83, s_106_84, s_106_85, s_106_88, s_106_89, s_106_90, s_106_91, s_106_93, s_106_94, s_106_95, s_106_98, s_106_99, s_106_100, s_106_101, s_106_104, s_106_105, s_106_106, s_106_109, s_106_110, s_106_112, s_106_115, s_106_116, s_106_119, s_106_120, s_106_123, s_106_124, s_106_127, s_106_128, s_106_128l, s_106_129, s_106_130, s_106_131, s_106_134, s_106_135, s_106_136, s_106_137, s_106_138, s_106_139, s_106_140, s_106_141, s_106_144, s_106_145, s_106_145l, s_106_146, s_106_147, s_106_148, s_106_151, s_106_152, s_106_153, s_106_154, s_106_155, s_106_156, s_106_157, s_106_160, s_106_161, s_106_164, s_106_165, s_106_166, s_106_167, s_106_170, s_106_171, s_106_174, s_106_175, s_106_176, s_106_177, s_106_180, s_106_181, s_106_182, s_106_183, s_106_184, s_106_187, s_106_188, s_106_191, s_106_192, s_106_193, s_106_194, s_106_195, s_106_198, s_106_199, s_106_200, s_106_201, s_106_204, s_106_205, s_106_208, s_106_209, s_106_209l, s_106_210, s_106_211, s_106_212, s_106_215, s_106_216, s_106_217, s_106_218, s_106_219, s_106_220, s_106_221, s_106_222, s_106_225, s_106_226, s_106_226l, s_106_227, s_106_228, s_106_229, s_106_232, s_106_233, s_106_234, s_106_235, s_106_236, s_106_237, s_106_238, s_106_239, s_106_242, s_106_243, s_106_244, s_106_245, e_106, mv_i_1, mv_l_1, mv_a_1, mv_a_2, mv_a_3, mk2_n, mk2_i, mk2_l, mk2_a, mk2_u, mk2_x, mB_T, mB_F, mS_cons, mS_nil, mSB_T, mSB_F, mca_nil, mca_i, mca_l, mca_r, mca_u, mca_x, mcat_i, mcat_l, mcat_r, mcat_u, mcat_x, mK_some, mK_none, va_rf_s, va_rf_n, lgc_eq, lgc_lt, lgc_gt, lgc_ge, lgc_le, mrd_104, mrd_105, mrd_106, mrd_107, true_and, and_true, and_self, false_and, and_false, true_or, or_true, false_or, or_false, not_true_eq_false, not_false_eq_true, mgb, mga, mgr, mN, reduceCtorEq, ↓reduceIte, eq_self, ge_iff_le, gt_iff_lt, Nat.reduceAdd, Nat.reduceMul, Nat.reduceSub, Nat.reduceLT, Nat.reduceGT, Nat.reduceEqDiff, Nat.reduceLeDiff, Nat.left_eq_add, Nat.add_eq_left, Nat.reduceMod, Nat.reduceDiv, Nat.succ_ne_self, rS_g, rS_i, rS_j, rS_k, rS_n, rS_r, rS_l, rS_8, rS_L, rS_G n1, rS_D nD, g, gX, r1, r5, r6, r7, gL, gG, gD, lL, lG, lD, n1, nD, nn_mxT, nn_clamp, es, es2, ei, e3, nn_add, nn_xor1, vb, nn_eq, c, up_s, up_n n, h1', h2', m1, m2, mm', x2, y2]
end RBS3
