set_option maxRecDepth 100000
/-! THE REFERENCE'S PARSER: a minus, brackets, any -/
section PHx
variable {D f : Nat} {h : mh_H} {m : Nat} {K : Nat → Int32} {P : Nat → Nat} {V : Nat → Int} {s : pst} {d : Nat}
/-- - FACTOR -/
theorem f_neg (R : RTK h m K P V) (ih : PE2 h m K P V f) (hf : 8 * (m - s.at) + 1 ≤ f + 1) (hi : s.at < m) (eb : s.bd = false) (hd : d ≤ 60) (hD : 3 * (62 - d) + 4 ≤ D + 4) (hr : s.dr + 2 * (m - s.at) + 8 ≤ 52000) (c1 : K s.at = 45) : ∃ s' v, SR P (if 60 < d + 1 then (s.at + 1, none) else bnd (pgX K P V f 2 (d + 1) (s.at + 1)) fun t j => (j, some (tNd (tE 15 (P s.at) 0) t))) s.at s.dr s s' v ∧ ∀ Q, mcall (D + 4) 320 [.ref 81, .int (Int32.ofNat d)] (pH h s) Q = Q (some (.int v)) (pH h s') := by
  have hp := (R.p _ hi).2
  have hm := R.m
  have h1 := tkM_s R.M hi c1 (by decide) (by decide)
  have g := R.F.g 81 14 70 (by decide +kernel)
  have r1 := R.F.f 81 5 84 (by decide +kernel)
  have g1 := R.F.g 84 100 16402 (by decide +kernel)
  have l1 := R.F.l 84 100 16402 (by decide +kernel)
  have e := (R.p _ hi).1
  have n1 : ((1 : Int32) = 0) = False := by decide
  have n2 : ((45 : Int32) = 3) = False := by decide
  have n3 : ((45 : Int32) = 2) = False := by decide
  have n4 : ((45 : Int32) = 45) = True := by decide
  have k0 : kb false = 0 := rfl
  have k1 : kb true = 1 := rfl
  have e1' : ∀ k, Int32.ofNat k + 1 = Int32.ofNat (k + 1) := fun k => nn_add (a := k) (b := 1)
  have q0 := c_310 (D := D + 3) R hi
  rw [lk_0 eb, c1] at q0
  have q0' : ∀ Q, mcall (D + 3) 310 [.ref 81] (pH h s) Q = Q (some (.int 45)) (pH h s) := q0
  have q1 := c_313 (D := D + 3) (s := s) R.F (by omega) (k := 15) (p := Int32.ofNat (P s.at)) (v := 0)
  obtain ⟨s1, hs1⟩ : ∃ x : pst, x = s.dft 15 (Int32.ofNat (P s.at)) 0 := ⟨_, rfl⟩
  rw [← hs1] at q1
  have at1 : s1.at = s.at := by rw [hs1]; rfl
  have bd1 : s1.bd = false := by rw [hs1]; exact eb
  have q2 := c_312 (D := D + 2) (s := s1) R (by omega) (c := 45) (y := 45) (by decide) rfl (by decide)
  rw [tk_1 bd1 (by rw [at1]; exact c1), at1] at q2
  obtain ⟨s2, hs2⟩ : ∃ x : pst, x = s1.uA (s.at + 1) := ⟨_, rfl⟩
  rw [← hs2] at q2
  have at2 : s2.at = s.at + 1 := by rw [hs2]; rfl
  have bd2 : s2.bd = false := by rw [hs2]; exact bd1
  have fl2 : s2.fl = s.fl := by rw [hs2, hs1]; rfl
  have dr2 : s2.dr = s.dr + 1 := by rw [hs2, hs1]; rfl
  have m2 : pSm s.dr s s2 := by rw [hs2, hs1]; exact pSm_t (dft_m (Nat.le_refl _)) uA_m
  have a2 : nf s2 s.dr 15 (Int32.ofNat (P s.at)) 0 (-1) (-1) (-1) := by rw [hs2, hs1]; exact dft_n (s := s)
  have q3 := c_317 (D := D + 2) (s := s2) R (by omega) (d := d + 1) (by omega)
  by_cases c : 60 < d + 1
  · rw [if_pos c]
    have e3 : s2.dp P (d + 1) = s2.ko (P (s.at + 1)) := by unfold pst.dp; rw [if_pos ⟨c, bd2⟩, at2]
    rw [e3] at q3
    have kb1 : (s2.ko (P (s.at + 1))).bd = true := rfl
    have q4 := c_314n (D := D + 3) (h := h) (s := s2.ko (P (s.at + 1))) (o := Int32.ofNat s.dr)
    refine ⟨_, Int32.ofNat s.dr, SR_no (s1 := s2.ko (P (s.at + 1))) (pSm_t m2 ko_m) at2 rfl rfl (by show s.dr ≤ s2.dr; omega) (by show s2.dr ≤ _; omega) (Or.inr ⟨_, rfl, by show s.dr < s2.dr; omega⟩), fun Q => ?_⟩
    clear R ih q0 m2 a2
    simp (disch := omega) only [s_320_0, s_320_1, s_320_4, s_320_5, s_320_6, s_320_7, s_320_10, s_320_11, s_320_12, s_320_15, s_320_16, s_320_17, s_320_18, s_320_21, s_320_22, s_320_25, s_320_26, s_320_29, s_320_30, s_320_31, s_320_32, s_320_35, s_320_37, s_320_38, s_320_41, s_320_43, s_320_46, s_320_48, s_320_49, s_320_50, s_320_52, s_320_53, s_320_54, s_320_57, s_320_59, s_320_60, s_320_62, s_320_64, s_320_67, s_320_68, s_320_70, s_320_73, s_320_74, s_320_76, s_320_77, s_320_80, s_320_83, s_320_84, s_320_87, s_320_88, s_320_89, s_320_90, s_320_91, s_320_94, s_320_97, s_320_98, s_320_100, s_320_103, s_320_105, s_320_106, s_320_107, s_320_109, s_320_112, s_320_113, s_320_115, s_320_116, s_320_119, s_320_120, s_320_123, s_320_124, s_320_125, s_320_128, s_320_129, s_320_130, s_320_132, s_320_135, s_320_136, s_320_137, s_320_138, s_320_139, s_320_142, s_320_143, s_320_144, s_320_145, s_320_148, s_320_151, s_320_152, s_320_155, s_320_156, s_320_157, s_320_158, s_320_159, s_320_162, s_320_165, s_320_166, s_320_167, s_320_168, s_320_171, s_320_174, s_320_175, s_320_177, s_320_178, s_320_181, s_320_182, s_320_185, s_320_186, s_320_187, s_320_190, s_320_191, s_320_192, s_320_195, s_320_198, s_320_199, s_320_202, s_320_204, s_320_207, s_320_208, s_320_210, s_320_213, s_320_214, s_320_215, s_320_216, s_320_217, s_320_220, s_320_223, s_320_224, s_320_226, s_320_229, s_320_230, s_320_231, s_320_232, s_320_233, s_320_236, s_320_239, s_320_240, s_320_242, s_320_245, s_320_246, s_320_247, s_320_248, s_320_250, s_320_253, s_320_254, s_320_257, s_320_260, s_320_261, s_320_264, s_320_265, s_320_266, s_320_267, s_320_268, s_320_271, s_320_272, s_320_273, s_320_275, s_320_278, s_320_279, e_320, mv_i_1, mv_l_1, mv_a_1, mv_a_2, mv_a_3, mk2_n, mk2_i, mk2_l, mk2_a, mk2_u, mk2_x, mB_T, mB_F, mS_cons, mS_nil, mSB_T, mSB_F, mca_nil, mca_i, mca_l, mca_r, mca_u, mca_x, mcat_i, mcat_l, mcat_r, mcat_u, mcat_x, mK_some, mK_none, va_rf_s, va_rf_n, lgc_eq, lgc_lt, lgc_gt, lgc_ge, lgc_le, mrd_104, mrd_105, mrd_106, mrd_107, true_and, and_true, and_self, false_and, and_false, true_or, or_true, false_or, or_false, not_true_eq_false, not_false_eq_true, mgb, mga, mgr, mN, reduceCtorEq, ↓reduceIte, eq_self, ge_iff_le, gt_iff_lt, Nat.reduceAdd, Nat.reduceMul, Nat.reduceSub, Nat.reduceLT, Nat.reduceGT, Nat.reduceEqDiff, Nat.reduceLeDiff, Nat.left_eq_add, Nat.add_eq_left, Nat.reduceMod, Nat.reduceDiv, Nat.succ_ne_self, pH_g, pH_r, pH_l, g, r1, g1, l1, pH_8, pH_9, pH_84, nn_mxT, nn_clamp, e, q0', n2, n3, n4, q1, q2, e1', q3, kb1, k1, n1, q4]
  · rw [if_neg c]
    have e3 : s2.dp P (d + 1) = s2 := by unfold pst.dp; rw [if_neg (fun z => c z.1)]
    rw [e3] at q3
    obtain ⟨s5, v5, S5, q6⟩ := ih (d + 1) (D + 3) s2 (by rw [at2]; omega) (by rw [at2]; exact h1) bd2 (by omega) (by omega) (by rw [at2, dr2]; omega)
    have gb := pgX_b (P := P) (V := V) R.M f 2 (d + 1) (s.at + 1) (by decide) h1
    rw [at2, dr2] at S5
    generalize pgX K P V f 2 (d + 1) (s.at + 1) = r at *
    obtain ⟨j, o⟩ := r
    obtain ⟨gb1, gb2, gb3⟩ := gb
    have gb1' : s.at + 1 ≤ j := gb1
    have gb2' : j < m := gb2
    obtain ⟨S1, S2, S3⟩ := S5
    have S2' : s5.at = j := S2
    have m5 : pSm s.dr s s5 := pSm_t m2 (pSm_w S1 (by omega))
    have a5 := nf_S a2 S1 (by omega)
    have run : ∀ s6, (∀ Q, mcall (D + 3) 314 [.ref 81, .int (Int32.ofNat s.dr), .int v5] (pH h s5) Q = Q none (pH h s6)) → ∀ Q, mcall (D + 4) 320 [.ref 81, .int (Int32.ofNat d)] (pH h s) Q = Q (some (.int (Int32.ofNat s.dr))) (pH h s6) := by
      intro s6 w1 Q
      clear R ih q0 S1 S3 m2 m5 a2 a5 gb3
      simp (disch := omega) only [s_320_0, s_320_1, s_320_4, s_320_5, s_320_6, s_320_7, s_320_10, s_320_11, s_320_12, s_320_15, s_320_16, s_320_17, s_320_18, s_320_21, s_320_22, s_320_25, s_320_26, s_320_29, s_320_30, s_320_31, s_320_32, s_320_35, s_320_37, s_320_38, s_320_41, s_320_43, s_320_46, s_320_48, s_320_49, s_320_50, s_320_52, s_320_53, s_320_54, s_320_57, s_320_59, s_320_60, s_320_62, s_320_64, s_320_67, s_320_68, s_320_70, s_320_73, s_320_74, s_320_76, s_320_77, s_320_80, s_320_83, s_320_84, s_320_87, s_320_88, s_320_89, s_320_90, s_320_91, s_320_94, s_320_97, s_320_98, s_320_100, s_320_103, s_320_105, s_320_106, s_320_107, s_320_109, s_320_112, s_320_113, s_320_115, s_320_116, s_320_119, s_320_120, s_320_123, s_320_124, s_320_125, s_320_128, s_320_129, s_320_130, s_320_132, s_320_135, s_320_136, s_320_137, s_320_138, s_320_139, s_320_142, s_320_143, s_320_144, s_320_145, s_320_148, s_320_151, s_320_152, s_320_155, s_320_156, s_320_157, s_320_158, s_320_159, s_320_162, s_320_165, s_320_166, s_320_167, s_320_168, s_320_171, s_320_174, s_320_175, s_320_177, s_320_178, s_320_181, s_320_182, s_320_185, s_320_186, s_320_187, s_320_190, s_320_191, s_320_192, s_320_195, s_320_198, s_320_199, s_320_202, s_320_204, s_320_207, s_320_208, s_320_210, s_320_213, s_320_214, s_320_215, s_320_216, s_320_217, s_320_220, s_320_223, s_320_224, s_320_226, s_320_229, s_320_230, s_320_231, s_320_232, s_320_233, s_320_236, s_320_239, s_320_240, s_320_242, s_320_245, s_320_246, s_320_247, s_320_248, s_320_250, s_320_253, s_320_254, s_320_257, s_320_260, s_320_261, s_320_264, s_320_265, s_320_266, s_320_267, s_320_268, s_320_271, s_320_272, s_320_273, s_320_275, s_320_278, s_320_279, e_320, mv_i_1, mv_l_1, mv_a_1, mv_a_2, mv_a_3, mk2_n, mk2_i, mk2_l, mk2_a, mk2_u, mk2_x, mB_T, mB_F, mS_cons, mS_nil, mSB_T, mSB_F, mca_nil, mca_i, mca_l, mca_r, mca_u, mca_x, mcat_i, mcat_l, mcat_r, mcat_u, mcat_x, mK_some, mK_none, va_rf_s, va_rf_n, lgc_eq, lgc_lt, lgc_gt, lgc_ge, lgc_le, mrd_104, mrd_105, mrd_106, mrd_107, true_and, and_true, and_self, false_and, and_false, true_or, or_true, false_or, or_false, not_true_eq_false, not_false_eq_true, mgb, mga, mgr, mN, reduceCtorEq, ↓reduceIte, eq_self, ge_iff_le, gt_iff_lt, Nat.reduceAdd, Nat.reduceMul, Nat.reduceSub, Nat.reduceLT, Nat.reduceGT, Nat.reduceEqDiff, Nat.reduceLeDiff, Nat.left_eq_add, Nat.add_eq_left, Nat.reduceMod, Nat.reduceDiv, Nat.succ_ne_self, pH_g, pH_r, pH_l, g, r1, g1, l1, pH_8, pH_9, pH_84, nn_mxT, nn_clamp, e, q0', n2, n3, n4, q1, q2, e1', q3, bd2, k0, q6, w1]
    rcases S3 with ⟨n, cs, o1, bd5, fl5, dr5, t5, vv⟩ | ⟨o1, bd5, fl5, dr5, dr6, vv⟩
    · have o1' : o = some (tNd n cs) := o1
      subst o1'
      have gs' : 1 + ts cs ≤ 2 * (j - (s.at + 1)) := (gb3 (tNd n cs) rfl).2.1
      have ob := dOf_b (n := n) (cs := cs)
      subst vv
      have q7 := c_314 (D := D + 3) (s := s5) R.F (o := s.dr) (y := s.dr + 1 + dOf n cs) (by omega) (by omega) (fun z => absurd a5.2.2.2.1 z)
      obtain ⟨f1, f2, f3, f4⟩ := jn_f (s := s5) (o := s.dr) (y := s.dr + 1 + dOf n cs)
      obtain ⟨s6, hs6⟩ : ∃ x : pst, x = s5.jn s.dr (s.dr + 1 + dOf n cs) := ⟨_, rfl⟩
      rw [← hs6] at q7 f1 f2 f3 f4
      have a6 : nf s6 s.dr 15 (Int32.ofNat (P s.at)) 0 (Int32.ofNat (s.dr + 1 + dOf n cs)) (Int32.ofNat (s.dr + 1 + dOf n cs)) (-1) := by rw [hs6]; exact jn1_n a5
      have m6 : pSm s.dr s s6 := fun y hy => pE_t (m5 y hy) (by rw [hs6]; exact jn1_E a5 (by omega))
      have t6 : s6.dq (tNd n cs) true (s.dr + 1) (-1) := dq_S t5 (fun y y1 y2 => by rw [hs6]; exact jn1_E a5 (by omega))
      have c0 : dSc (tE 15 (P s.at) 0) (tNd n cs) = 0 := by unfold dSc; rw [tE_K (by decide)]; rfl
      have dt : s6.dq (tNd (tE 15 (P s.at) 0) (tNd n cs)) true s.dr (-1) := dq_m0 (cs := tNd n cs) a6 (by rw [tE_K (by decide)]; rfl) (by rw [tE_P (by decide) (by omega)]) (by rw [tE_V (by decide) (by omega)]; rfl) c0 rfl rfl (dq_1 t6)
      have ST := SR_ok (P := P) (i := s.at) m6 (f1.trans S2') (f2.trans bd5) ((f3.trans fl5).trans fl2) (by rw [f4, dr5]; show s.dr + 1 + (1 + ts cs) = s.dr + (1 + (1 + ts cs + 0)); omega) dt
      rw [dOf_0 c0] at ST
      exact ⟨_, _, ST, run _ q7⟩
    · have o1' : o = none := o1
      subst o1'
      have dr6' : s5.dr ≤ s.dr + 1 + 2 * (j - (s.at + 1)) + 4 := dr6
      obtain ⟨s6, w1, w2, w3, w4, w5, -, w6⟩ := bad_j R.F m5 bd5 (Nat.le_refl _) (by omega) (by omega) a5 (Or.inl rfl) vv
      exact ⟨_, _, SR_no w1 (w2.trans S2') w3 (w4.trans fl5) (by omega) (by omega) (Or.inr ⟨_, rfl, by omega⟩), run _ (w6 (D + 3))⟩
/-- ( SUM ) -/
theorem f_par (R : RTK h m K P V) (ih : PE0 h m K P V f) (hf : 8 * (m - s.at) + 1 ≤ f + 1) (hi : s.at < m) (eb : s.bd = false) (hd : d ≤ 60) (hD : 3 * (62 - d) + 4 ≤ D + 4) (hr : s.dr + 2 * (m - s.at) + 8 ≤ 52000) (c1 : ¬ K s.at = 3) (c2 : ¬ K s.at = 2) (c3 : ¬ K s.at = 45) (c4 : ¬ K s.at = 11) : ∃ s' v, SR P (if K s.at = 40 then bnd (pgX K P V f 0 (d + 1) (s.at + 1)) fun t j => tak K 41 j (j + 1, some t) else (s.at, none)) s.at s.dr s s' v ∧ ∀ Q, mcall (D + 4) 320 [.ref 81, .int (Int32.ofNat d)] (pH h s) Q = Q (some (.int v)) (pH h s') := by
  have hp := (R.p _ hi).2
  have hm := R.m
  have g := R.F.g 81 14 70 (by decide +kernel)
  have kv := (R.k _ hi).2
  have n1 : ((1 : Int32) = 0) = False := by decide
  have n2 : (rkd (K s.at) = 3) = False := by rw [rk_e kv (c := 3) (y := 3) (by decide) rfl]; exact eq_false c1
  have n3 : (rkd (K s.at) = 2) = False := by rw [rk_e kv (c := 2) (y := 2) (by decide) rfl]; exact eq_false c2
  have n4 : (rkd (K s.at) = 45) = False := by rw [rk_e kv (c := 45) (y := 45) (by decide) rfl]; exact eq_false c3
  have n5 : (rkd (K s.at) = 307) = False := by rw [rk_e kv (c := 11) (y := 307) (by decide) rfl]; exact eq_false c4
  have k0 : kb false = 0 := rfl
  have k1 : kb true = 1 := rfl
  have e1' : ∀ k, Int32.ofNat k + 1 = Int32.ofNat (k + 1) := fun k => nn_add (a := k) (b := 1)
  have q0 := c_310 (D := D + 3) R hi
  rw [lk_0 eb] at q0
  have q2 := c_312 (D := D + 2) (s := s) R hi (c := 40) (y := 40) (by decide) rfl (by decide)
  by_cases c : K s.at = 40
  · rw [if_pos c]
    have h1 := tkM_s R.M hi c (by decide) (by decide)
    rw [tk_1 eb c] at q2
    have bd2 : (s.uA (s.at + 1)).bd = false := eb
    obtain ⟨s5, v5, S5, q6⟩ := ih (d + 1) (D + 3) (s.uA (s.at + 1)) (by show 8 * (m - (s.at + 1)) + 3 ≤ f; omega) h1 eb (by omega) (by omega) (by show s.dr + 2 * (m - (s.at + 1)) + 8 ≤ 52000; omega)
    have S5' : SR P (pgX K P V f 0 (d + 1) (s.at + 1)) (s.at + 1) s.dr (s.uA (s.at + 1)) s5 v5 := S5
    have gb := pgX_b (P := P) (V := V) R.M f 0 (d + 1) (s.at + 1) (by decide) h1
    clear S5
    generalize pgX K P V f 0 (d + 1) (s.at + 1) = r at *
    obtain ⟨j, o⟩ := r
    obtain ⟨gb1, gb2, gb3⟩ := gb
    have gb1' : s.at + 1 ≤ j := gb1
    have gb2' : j < m := gb2
    obtain ⟨S1, S2, S3⟩ := S5'
    have S2' : s5.at = j := S2
    have m5 : pSm s.dr s s5 := pSm_t uA_m S1
    have q7 := c_312 (D := D + 2) (s := s5) R (by omega) (c := 41) (y := 41) (by decide) rfl (by decide)
    have run : ∀ Q, mcall (D + 4) 320 [.ref 81, .int (Int32.ofNat d)] (pH h s) Q = Q (some (.int v5)) (pH h (s5.tk K P 41)) := by
      intro Q
      clear R ih S1 S3 m5 gb3 kv
      simp (disch := omega) only [s_320_0, s_320_1, s_320_4, s_320_5, s_320_6, s_320_7, s_320_10, s_320_11, s_320_12, s_320_15, s_320_16, s_320_17, s_320_18, s_320_21, s_320_22, s_320_25, s_320_26, s_320_29, s_320_30, s_320_31, s_320_32, s_320_35, s_320_37, s_320_38, s_320_41, s_320_43, s_320_46, s_320_48, s_320_49, s_320_50, s_320_52, s_320_53, s_320_54, s_320_57, s_320_59, s_320_60, s_320_62, s_320_64, s_320_67, s_320_68, s_320_70, s_320_73, s_320_74, s_320_76, s_320_77, s_320_80, s_320_83, s_320_84, s_320_87, s_320_88, s_320_89, s_320_90, s_320_91, s_320_94, s_320_97, s_320_98, s_320_100, s_320_103, s_320_105, s_320_106, s_320_107, s_320_109, s_320_112, s_320_113, s_320_115, s_320_116, s_320_119, s_320_120, s_320_123, s_320_124, s_320_125, s_320_128, s_320_129, s_320_130, s_320_132, s_320_135, s_320_136, s_320_137, s_320_138, s_320_139, s_320_142, s_320_143, s_320_144, s_320_145, s_320_148, s_320_151, s_320_152, s_320_155, s_320_156, s_320_157, s_320_158, s_320_159, s_320_162, s_320_165, s_320_166, s_320_167, s_320_168, s_320_171, s_320_174, s_320_175, s_320_177, s_320_178, s_320_181, s_320_182, s_320_185, s_320_186, s_320_187, s_320_190, s_320_191, s_320_192, s_320_195, s_320_198, s_320_199, s_320_202, s_320_204, s_320_207, s_320_208, s_320_210, s_320_213, s_320_214, s_320_215, s_320_216, s_320_217, s_320_220, s_320_223, s_320_224, s_320_226, s_320_229, s_320_230, s_320_231, s_320_232, s_320_233, s_320_236, s_320_239, s_320_240, s_320_242, s_320_245, s_320_246, s_320_247, s_320_248, s_320_250, s_320_253, s_320_254, s_320_257, s_320_260, s_320_261, s_320_264, s_320_265, s_320_266, s_320_267, s_320_268, s_320_271, s_320_272, s_320_273, s_320_275, s_320_278, s_320_279, e_320, mv_i_1, mv_l_1, mv_a_1, mv_a_2, mv_a_3, mk2_n, mk2_i, mk2_l, mk2_a, mk2_u, mk2_x, mB_T, mB_F, mS_cons, mS_nil, mSB_T, mSB_F, mca_nil, mca_i, mca_l, mca_r, mca_u, mca_x, mcat_i, mcat_l, mcat_r, mcat_u, mcat_x, mK_some, mK_none, va_rf_s, va_rf_n, lgc_eq, lgc_lt, lgc_gt, lgc_ge, lgc_le, mrd_104, mrd_105, mrd_106, mrd_107, true_and, and_true, and_self, false_and, and_false, true_or, or_true, false_or, or_false, not_true_eq_false, not_false_eq_true, mgb, mga, mgr, mN, reduceCtorEq, ↓reduceIte, eq_self, ge_iff_le, gt_iff_lt, Nat.reduceAdd, Nat.reduceMul, Nat.reduceSub, Nat.reduceLT, Nat.reduceGT, Nat.reduceEqDiff, Nat.reduceLeDiff, Nat.left_eq_add, Nat.add_eq_left, Nat.reduceMod, Nat.reduceDiv, Nat.succ_ne_self, pH_g, g, pH_9, q0, n2, n3, n4, n5, q2, bd2, k0, e1', q6, q7]
    rcases S3 with ⟨n, cs, o1, bd5, fl5, dr5, t5, vv⟩ | ⟨o1, bd5, fl5, dr5, dr6, vv⟩
    · have o1' : o = some (tNd n cs) := o1
      subst o1'
      have gs' : 1 + ts cs ≤ 2 * (j - (s.at + 1)) := (gb3 (tNd n cs) rfl).2.1
      subst vv
      exact ⟨_, _, SR_tk m5 S2' bd5 fl5 dr5 t5 (by omega), run⟩
    · have o1' : o = none := o1
      subst o1'
      have dr6' : s5.dr ≤ s.dr + 2 * (j - (s.at + 1)) + 4 := dr6
      rw [tk_b bd5] at run
      exact ⟨_, _, SR_no m5 S2' bd5 fl5 dr5 (by omega) vv, run⟩
  · rw [if_neg c]
    rw [tk_0 eb c] at q2
    have kb1 : (s.ko (P s.at)).bd = true := rfl
    have q7 := c_312 (D := D + 2) (s := s.ko (P s.at)) R hi (c := 41) (y := 41) (by decide) rfl (by decide)
    rw [tk_b kb1] at q7
    refine ⟨_, -1, SR_no (s1 := s.ko (P s.at)) ko_m rfl rfl rfl (Nat.le_refl _) (by show s.dr ≤ _; omega) (Or.inl rfl), fun Q => ?_⟩
    clear R ih kv
    simp (disch := omega) only [s_320_0, s_320_1, s_320_4, s_320_5, s_320_6, s_320_7, s_320_10, s_320_11, s_320_12, s_320_15, s_320_16, s_320_17, s_320_18, s_320_21, s_320_22, s_320_25, s_320_26, s_320_29, s_320_30, s_320_31, s_320_32, s_320_35, s_320_37, s_320_38, s_320_41, s_320_43, s_320_46, s_320_48, s_320_49, s_320_50, s_320_52, s_320_53, s_320_54, s_320_57, s_320_59, s_320_60, s_320_62, s_320_64, s_320_67, s_320_68, s_320_70, s_320_73, s_320_74, s_320_76, s_320_77, s_320_80, s_320_83, s_320_84, s_320_87, s_320_88, s_320_89, s_320_90, s_320_91, s_320_94, s_320_97, s_320_98, s_320_100, s_320_103, s_320_105, s_320_106, s_320_107, s_320_109, s_320_112, s_320_113, s_320_115, s_320_116, s_320_119, s_320_120, s_320_123, s_320_124, s_320_125, s_320_128, s_320_129, s_320_130, s_320_132, s_320_135, s_320_136, s_320_137, s_320_138, s_320_139, s_320_142, s_320_143, s_320_144, s_320_145, s_320_148, s_320_151, s_320_152, s_320_155, s_320_156, s_320_157, s_320_158, s_320_159, s_320_162, s_320_165, s_320_166, s_320_167, s_320_168, s_320_171, s_320_174, s_320_175, s_320_177, s_320_178, s_320_181, s_320_182, s_320_185, s_320_186, s_320_187, s_320_190, s_320_191, s_320_192, s_320_195, s_320_198, s_320_199, s_320_202, s_320_204, s_320_207, s_320_208, s_320_210, s_320_213, s_320_214, s_320_215, s_320_216, s_320_217, s_320_220, s_320_223, s_320_224, s_320_226, s_320_229, s_320_230, s_320_231, s_320_232, s_320_233, s_320_236, s_320_239, s_320_240, s_320_242, s_320_245, s_320_246, s_320_247, s_320_248, s_320_250, s_320_253, s_320_254, s_320_257, s_320_260, s_320_261, s_320_264, s_320_265, s_320_266, s_320_267, s_320_268, s_320_271, s_320_272, s_320_273, s_320_275, s_320_278, s_320_279, e_320, mv_i_1, mv_l_1, mv_a_1, mv_a_2, mv_a_3, mk2_n, mk2_i, mk2_l, mk2_a, mk2_u, mk2_x, mB_T, mB_F, mS_cons, mS_nil, mSB_T, mSB_F, mca_nil, mca_i, mca_l, mca_r, mca_u, mca_x, mcat_i, mcat_l, mcat_r, mcat_u, mcat_x, mK_some, mK_none, va_rf_s, va_rf_n, lgc_eq, lgc_lt, lgc_gt, lgc_ge, lgc_le, mrd_104, mrd_105, mrd_106, mrd_107, true_and, and_true, and_self, false_and, and_false, true_or, or_true, false_or, or_false, not_true_eq_false, not_false_eq_true, mgb, mga, mgr, mN, reduceCtorEq, ↓reduceIte, eq_self, ge_iff_le, gt_iff_lt, Nat.reduceAdd, Nat.reduceMul, Nat.reduceSub, Nat.reduceLT, Nat.reduceGT, Nat.reduceEqDiff, Nat.reduceLeDiff, Nat.left_eq_add, Nat.add_eq_left, Nat.reduceMod, Nat.reduceDiv, Nat.succ_ne_self, pH_g, g, pH_9, q0, n2, n3, n4, n5, q2, kb1, k1, n1, q7]
end PHx
