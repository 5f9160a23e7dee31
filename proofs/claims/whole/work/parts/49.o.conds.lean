set_option maxRecDepth 100000
/-! THE REFERENCE'S PARSER: CONDs, all -/
section PVs
variable {D f N : Nat} {h : mh_H} {m : Nat} {K : Nat → Int32} {P : Nat → Nat} {V : Nat → Int} {s : pst} {d : Nat}
/-- ! TEST -/
theorem g_not (R : RTK h m K P V) (ih : PC2 h m K P V N f) (hf : 8 * (m - s.at) + 4 ≤ f + 1) (hi : s.at < m) (eb : s.bd = false) (hd : d ≤ 60) (hD : 4 * (62 - d) + 7 ≤ D + 4) (hr : s.dr + 2 * (m - s.at) + 8 ≤ 52000) (c1 : K s.at = 33) : ∃ s' v, SR P (if 60 < d + 1 then (s.at + 1, none) else bnd (pgC K P V N f 2 (d + 1) (s.at + 1)) fun t j => (j, some (tNd (tE 26 (P s.at) 0) t))) s.at s.dr s s' v ∧ ∀ Q, mcall (D + 4) 323 [.ref 81, .int (Int32.ofNat d)] (pH h s) Q = Q (some (.int v)) (pH h s') := by
  have hp := (R.p _ hi).2
  have hm := R.m
  have h1 := tkM_s R.M hi c1 (by decide) (by decide)
  have g := R.F.g 81 14 70 (by decide +kernel)
  have r1 := R.F.f 81 5 84 (by decide +kernel)
  have g1 := R.F.g 84 100 16402 (by decide +kernel)
  have l1 := R.F.l 84 100 16402 (by decide +kernel)
  have e := (R.p _ hi).1
  have n1 : ((1 : Int32) = 0) = False := by decide
  have n4 : ((33 : Int32) = 33) = True := by decide
  have k0 : kb false = 0 := rfl
  have k1 : kb true = 1 := rfl
  have e1' : ∀ k, Int32.ofNat k + 1 = Int32.ofNat (k + 1) := fun k => nn_add (a := k) (b := 1)
  have q0 := c_310 (D := D + 3) R hi
  rw [lk_0 eb, c1] at q0
  have q0' : ∀ Q, mcall (D + 3) 310 [.ref 81] (pH h s) Q = Q (some (.int 33)) (pH h s) := q0
  have q1 := c_313 (D := D + 3) (s := s) R.F (by omega) (k := 26) (p := Int32.ofNat (P s.at)) (v := 0)
  obtain ⟨s1, hs1⟩ : ∃ x : pst, x = s.dft 26 (Int32.ofNat (P s.at)) 0 := ⟨_, rfl⟩
  rw [← hs1] at q1
  have at1 : s1.at = s.at := by rw [hs1]; rfl
  have bd1 : s1.bd = false := by rw [hs1]; exact eb
  have q2 := c_312 (D := D + 2) (s := s1) R (by omega) (c := 33) (y := 33) (by decide) rfl (by decide)
  rw [tk_1 bd1 (by rw [at1]; exact c1), at1] at q2
  obtain ⟨s2, hs2⟩ : ∃ x : pst, x = s1.uA (s.at + 1) := ⟨_, rfl⟩
  rw [← hs2] at q2
  have at2 : s2.at = s.at + 1 := by rw [hs2]; rfl
  have bd2 : s2.bd = false := by rw [hs2]; exact bd1
  have fl2 : s2.fl = s.fl := by rw [hs2, hs1]; rfl
  have dr2 : s2.dr = s.dr + 1 := by rw [hs2, hs1]; rfl
  have m2 : pSm s.dr s s2 := by rw [hs2, hs1]; exact pSm_t (dft_m (Nat.le_refl _)) uA_m
  have a2 : nf s2 s.dr 26 (Int32.ofNat (P s.at)) 0 (-1) (-1) (-1) := by rw [hs2, hs1]; exact dft_n (s := s)
  have q3 := c_317 (D := D + 2) (s := s2) R (by omega) (d := d + 1) (by omega)
  by_cases c : 60 < d + 1
  · rw [if_pos c]
    have e3 : s2.dp P (d + 1) = s2.ko (P (s.at + 1)) := by unfold pst.dp; rw [if_pos ⟨c, bd2⟩, at2]
    rw [e3] at q3
    have kb1 : (s2.ko (P (s.at + 1))).bd = true := rfl
    have q4 := c_314n (D := D + 3) (h := h) (s := s2.ko (P (s.at + 1))) (o := Int32.ofNat s.dr)
    refine ⟨_, Int32.ofNat s.dr, SR_no (s1 := s2.ko (P (s.at + 1))) (pSm_t m2 ko_m) at2 rfl rfl (by show s.dr ≤ s2.dr; omega) (by show s2.dr ≤ _; omega) (Or.inr ⟨_, rfl, by show s.dr < s2.dr; omega⟩), fun Q => ?_⟩
    clear R ih q0 m2 a2
    simp (disch := omega) only [s_323_0, s_323_1, s_323_4, s_323_6, s_323_9, s_323_10, s_323_12, s_323_13, s_323_16, s_323_17, s_323_20, s_323_21, s_323_22, s_323_25, s_323_26, s_323_27, s_323_29, s_323_32, s_323_33, s_323_34, s_323_35, s_323_36, s_323_39, s_323_40, s_323_41, s_323_42, s_323_45, s_323_48, s_323_49, s_323_52, s_323_53, s_323_54, s_323_55, s_323_56, s_323_59, s_323_62, s_323_63, s_323_64, s_323_65, s_323_68, s_323_70, s_323_73, s_323_74, s_323_76, s_323_79, s_323_80, s_323_83, s_323_86, s_323_87, s_323_90, s_323_91, s_323_92, s_323_93, s_323_94, s_323_97, s_323_98, s_323_99, s_323_101, s_323_104, s_323_105, s_323_106, s_323_107, s_323_108, s_323_109, s_323_110, s_323_113, s_323_114, s_323_115, s_323_118, s_323_119, s_323_120, s_323_122, s_323_125, s_323_127, s_323_130, s_323_131, s_323_134, s_323_137, s_323_139, s_323_142, s_323_143, s_323_145, s_323_148, s_323_150, s_323_153, s_323_154, s_323_157, s_323_160, s_323_162, s_323_165, s_323_166, s_323_169, s_323_172, s_323_174, s_323_177, s_323_178, s_323_181, s_323_184, s_323_186, s_323_189, s_323_190, s_323_192, s_323_193, s_323_195, s_323_198, s_323_199, s_323_202, s_323_203, s_323_206, s_323_207, s_323_210, s_323_213, s_323_214, s_323_215, s_323_216, s_323_218, s_323_219, s_323_222, s_323_223, s_323_224, s_323_225, s_323_228, s_323_230, s_323_231, s_323_232, s_323_235, s_323_236, s_323_238, s_323_239, s_323_242, s_323_243, s_323_245, s_323_246, s_323_247, s_323_248, s_323_249, s_323_252, s_323_255, s_323_257, e_323, mv_i_1, mv_l_1, mv_a_1, mv_a_2, mv_a_3, mk2_n, mk2_i, mk2_l, mk2_a, mk2_u, mk2_x, mB_T, mB_F, mS_cons, mS_nil, mSB_T, mSB_F, mca_nil, mca_i, mca_l, mca_r, mca_u, mca_x, mcat_i, mcat_l, mcat_r, mcat_u, mcat_x, mK_some, mK_none, va_rf_s, va_rf_n, lgc_eq, lgc_lt, lgc_gt, lgc_ge, lgc_le, mrd_104, mrd_105, mrd_106, mrd_107, true_and, and_true, and_self, false_and, and_false, true_or, or_true, false_or, or_false, not_true_eq_false, not_false_eq_true, mgb, mga, mgr, mN, reduceCtorEq, ↓reduceIte, eq_self, ge_iff_le, gt_iff_lt, Nat.reduceAdd, Nat.reduceMul, Nat.reduceSub, Nat.reduceLT, Nat.reduceGT, Nat.reduceEqDiff, Nat.reduceLeDiff, Nat.left_eq_add, Nat.add_eq_left, Nat.reduceMod, Nat.reduceDiv, Nat.succ_ne_self, pH_g, pH_r, pH_l, g, r1, g1, l1, pH_8, pH_9, pH_84, nn_mxT, nn_clamp, e, q0', n4, q1, q2, e1', q3, kb1, k1, n1, q4]
  · rw [if_neg c]
    have e3 : s2.dp P (d + 1) = s2 := by unfold pst.dp; rw [if_neg (fun z => c z.1)]
    rw [e3] at q3
    obtain ⟨s5, v5, S5, q6⟩ := ih (d + 1) (D + 3) s2 (by rw [at2]; omega) (by rw [at2]; exact h1) bd2 (by omega) (by omega) (by rw [at2, dr2]; omega)
    have gb := (pgC_b (P := P) (V := V) (N := N) R.M f 2 (d + 1) (s.at + 1) (by decide) h1).1
    rw [at2, dr2] at S5
    generalize pgC K P V N f 2 (d + 1) (s.at + 1) = r at *
    obtain ⟨j, o⟩ := r
    obtain ⟨gb1, gb2, gb3⟩ := gb
    have gb1' : s.at + 1 ≤ j := gb1
    have gb2' : j < m := gb2
    obtain ⟨S1, S2, S3⟩ := S5
    have S2' : s5.at = j := S2
    have m5 : pSm s.dr s s5 := pSm_t m2 (pSm_w S1 (by omega))
    have a5 := nf_S a2 S1 (by omega)
    have run : ∀ s6, (∀ Q, mcall (D + 3) 314 [.ref 81, .int (Int32.ofNat s.dr), .int v5] (pH h s5) Q = Q none (pH h s6)) → ∀ Q, mcall (D + 4) 323 [.ref 81, .int (Int32.ofNat d)] (pH h s) Q = Q (some (.int (Int32.ofNat s.dr))) (pH h s6) := by
      intro s6 w1 Q
      clear R ih q0 S1 S3 m2 m5 a2 a5 gb3
      simp (disch := omega) only [s_323_0, s_323_1, s_323_4, s_323_6, s_323_9, s_323_10, s_323_12, s_323_13, s_323_16, s_323_17, s_323_20, s_323_21, s_323_22, s_323_25, s_323_26, s_323_27, s_323_29, s_323_32, s_323_33, s_323_34, s_323_35, s_323_36, s_323_39, s_323_40, s_323_41, s_323_42, s_323_45, s_323_48, s_323_49, s_323_52, s_323_53, s_323_54, s_323_55, s_323_56, s_323_59, s_323_62, s_323_63, s_323_64, s_323_65, s_323_68, s_323_70, s_323_73, s_323_74, s_323_76, s_323_79, s_323_80, s_323_83, s_323_86, s_323_87, s_323_90, s_323_91, s_323_92, s_323_93, s_323_94, s_323_97, s_323_98, s_323_99, s_323_101, s_323_104, s_323_105, s_323_106, s_323_107, s_323_108, s_323_109, s_323_110, s_323_113, s_323_114, s_323_115, s_323_118, s_323_119, s_323_120, s_323_122, s_323_125, s_323_127, s_323_130, s_323_131, s_323_134, s_323_137, s_323_139, s_323_142, s_323_143, s_323_145, s_323_148, s_323_150, s_323_153, s_323_154, s_323_157, s_323_160, s_323_162, s_323_165, s_323_166, s_323_169, s_323_172, s_323_174, s_323_177, s_323_178, s_323_181, s_323_184, s_323_186, s_323_189, s_323_190, s_323_192, s_323_193, s_323_195, s_323_198, s_323_199, s_323_202, s_323_203, s_323_206, s_323_207, s_323_210, s_323_213, s_323_214, s_323_215, s_323_216, s_323_218, s_323_219, s_323_222, s_323_223, s_323_224, s_323_225, s_323_228, s_323_230, s_323_231, s_323_232, s_323_235, s_323_236, s_323_238, s_323_239, s_323_242, s_323_243, s_323_245, s_323_246, s_323_247, s_323_248, s_323_249, s_323_252, s_323_255, s_323_257, e_323, mv_i_1, mv_l_1, mv_a_1, mv_a_2, mv_a_3, mk2_n, mk2_i, mk2_l, mk2_a, mk2_u, mk2_x, mB_T, mB_F, mS_cons, mS_nil, mSB_T, mSB_F, mca_nil, mca_i, mca_l, mca_r, mca_u, mca_x, mcat_i, mcat_l, mcat_r, mcat_u, mcat_x, mK_some, mK_none, va_rf_s, va_rf_n, lgc_eq, lgc_lt, lgc_gt, lgc_ge, lgc_le, mrd_104, mrd_105, mrd_106, mrd_107, true_and, and_true, and_self, false_and, and_false, true_or, or_true, false_or, or_false, not_true_eq_false, not_false_eq_true, mgb, mga, mgr, mN, reduceCtorEq, ↓reduceIte, eq_self, ge_iff_le, gt_iff_lt, Nat.reduceAdd, Nat.reduceMul, Nat.reduceSub, Nat.reduceLT, Nat.reduceGT, Nat.reduceEqDiff, Nat.reduceLeDiff, Nat.left_eq_add, Nat.add_eq_left, Nat.reduceMod, Nat.reduceDiv, Nat.succ_ne_self, pH_g, pH_r, pH_l, g, r1, g1, l1, pH_8, pH_9, pH_84, nn_mxT, nn_clamp, e, q0', n4, q1, q2, e1', q3, bd2, k0, q6, w1]
    rcases S3 with ⟨n, cs, o1, bd5, fl5, dr5, t5, vv⟩ | ⟨o1, bd5, fl5, dr5, dr6, vv⟩
    · have o1' : o = some (tNd n cs) := o1
      subst o1'
      have gs' : 1 + ts cs ≤ 2 * (j - (s.at + 1)) := (gb3 (tNd n cs) rfl).2.1
      have ob := dOf_b (n := n) (cs := cs)
      subst vv
      have q7 := c_314 (D := D + 3) (s := s5) R.F (o := s.dr) (y := s.dr + 1 + dOf n cs) (by omega) (by omega) (fun z => absurd a5.2.2.2.1 z)
      obtain ⟨f1, f2, f3, f4⟩ := jn_f (s := s5) (o := s.dr) (y := s.dr + 1 + dOf n cs)
      obtain ⟨s6, hs6⟩ : ∃ x : pst, x = s5.jn s.dr (s.dr + 1 + dOf n cs) := ⟨_, rfl⟩
      rw [← hs6] at q7 f1 f2 f3 f4
      have a6 : nf s6 s.dr 26 (Int32.ofNat (P s.at)) 0 (Int32.ofNat (s.dr + 1 + dOf n cs)) (Int32.ofNat (s.dr + 1 + dOf n cs)) (-1) := by rw [hs6]; exact jn1_n a5
      have m6 : pSm s.dr s s6 := fun y hy => pE_t (m5 y hy) (by rw [hs6]; exact jn1_E a5 (by omega))
      have t6 : s6.dq (tNd n cs) true (s.dr + 1) (-1) := dq_S t5 (fun y y1 y2 => by rw [hs6]; exact jn1_E a5 (by omega))
      have c0 : dSc (tE 26 (P s.at) 0) (tNd n cs) = 0 := by unfold dSc; rw [tE_K (by decide)]; rfl
      have dt : s6.dq (tNd (tE 26 (P s.at) 0) (tNd n cs)) true s.dr (-1) := dq_m0 (cs := tNd n cs) a6 (by rw [tE_K (by decide)]; rfl) (by rw [tE_P (by decide) (by omega)]) (by rw [tE_V (by decide) (by omega)]; rfl) c0 rfl rfl (dq_1 t6)
      have ST := SR_ok (P := P) (i := s.at) m6 (f1.trans S2') (f2.trans bd5) ((f3.trans fl5).trans fl2) (by rw [f4, dr5]; show s.dr + 1 + (1 + ts cs) = s.dr + (1 + (1 + ts cs + 0)); omega) dt
      rw [dOf_0 c0] at ST
      exact ⟨_, _, ST, run _ q7⟩
    · have o1' : o = none := o1
      subst o1'
      have dr6' : s5.dr ≤ s.dr + 1 + 2 * (j - (s.at + 1)) + 4 := dr6
      obtain ⟨s6, w1, w2, w3, w4, w5, -, w6⟩ := bad_j R.F m5 bd5 (Nat.le_refl _) (by omega) (by omega) a5 (Or.inl rfl) vv
      exact ⟨_, _, SR_no w1 (w2.trans S2') w3 (w4.trans fl5) (by omega) (by omega) (Or.inr ⟨_, rfl, by omega⟩), run _ (w6 (D + 3))⟩
/-- [ COND ] -/
theorem g_bra (R : RTK h m K P V) (ih : PC0 h m K P V N f) (hf : 8 * (m - s.at) + 4 ≤ f + 1) (hi : s.at < m) (eb : s.bd = false) (hd : d ≤ 60) (hD : 4 * (62 - d) + 7 ≤ D + 4) (hr : s.dr + 2 * (m - s.at) + 8 ≤ 52000) (c1 : ¬ K s.at = 33) (c : K s.at = 91) : ∃ s' v, SR P (bnd (pgC K P V N f 0 (d + 1) (s.at + 1)) fun t j => tak K 93 j (j + 1, some t)) s.at s.dr s s' v ∧ ∀ Q, mcall (D + 4) 323 [.ref 81, .int (Int32.ofNat d)] (pH h s) Q = Q (some (.int v)) (pH h s') := by
  have hp := (R.p _ hi).2
  have hm := R.m
  have g := R.F.g 81 14 70 (by decide +kernel)
  have n2 : ((91 : Int32) = 33) = False := by decide
  have n3 : ((91 : Int32) = 91) = True := by decide
  have k0 : kb false = 0 := rfl
  have k1 : kb true = 1 := rfl
  have e1' : ∀ k, Int32.ofNat k + 1 = Int32.ofNat (k + 1) := fun k => nn_add (a := k) (b := 1)
  have q0 := c_310 (D := D + 3) R hi
  rw [lk_0 eb, c] at q0
  have q0' : ∀ Q, mcall (D + 3) 310 [.ref 81] (pH h s) Q = Q (some (.int 91)) (pH h s) := q0
  have q2 := c_312 (D := D + 2) (s := s) R hi (c := 91) (y := 91) (by decide) rfl (by decide)
  have h1 := tkM_s R.M hi c (by decide) (by decide)
  rw [tk_1 eb c] at q2
  have bd2 : (s.uA (s.at + 1)).bd = false := eb
  obtain ⟨s5, v5, S5, q6⟩ := ih (d + 1) (D + 3) (s.uA (s.at + 1)) (by show 8 * (m - (s.at + 1)) + 6 ≤ f; omega) h1 eb (by omega) (by omega) (by show s.dr + 2 * (m - (s.at + 1)) + 8 ≤ 52000; omega)
  have S5' : SR P (pgC K P V N f 0 (d + 1) (s.at + 1)) (s.at + 1) s.dr (s.uA (s.at + 1)) s5 v5 := S5
  have gb := (pgC_b (P := P) (V := V) (N := N) R.M f 0 (d + 1) (s.at + 1) (by decide) h1).1
  clear S5
  generalize pgC K P V N f 0 (d + 1) (s.at + 1) = r at *
  obtain ⟨j, o⟩ := r
  obtain ⟨gb1, gb2, gb3⟩ := gb
  have gb1' : s.at + 1 ≤ j := gb1
  have gb2' : j < m := gb2
  obtain ⟨S1, S2, S3⟩ := S5'
  have S2' : s5.at = j := S2
  have m5 : pSm s.dr s s5 := pSm_t uA_m S1
  have q7 := c_312 (D := D + 2) (s := s5) R (by omega) (c := 93) (y := 93) (by decide) rfl (by decide)
  have run : ∀ Q, mcall (D + 4) 323 [.ref 81, .int (Int32.ofNat d)] (pH h s) Q = Q (some (.int v5)) (pH h (s5.tk K P 93)) := by
    intro Q
    clear R ih S1 S3 m5 gb3 q0
    simp (disch := omega) only [s_323_0, s_323_1, s_323_4, s_323_6, s_323_9, s_323_10, s_323_12, s_323_13, s_323_16, s_323_17, s_323_20, s_323_21, s_323_22, s_323_25, s_323_26, s_323_27, s_323_29, s_323_32, s_323_33, s_323_34, s_323_35, s_323_36, s_323_39, s_323_40, s_323_41, s_323_42, s_323_45, s_323_48, s_323_49, s_323_52, s_323_53, s_323_54, s_323_55, s_323_56, s_323_59, s_323_62, s_323_63, s_323_64, s_323_65, s_323_68, s_323_70, s_323_73, s_323_74, s_323_76, s_323_79, s_323_80, s_323_83, s_323_86, s_323_87, s_323_90, s_323_91, s_323_92, s_323_93, s_323_94, s_323_97, s_323_98, s_323_99, s_323_101, s_323_104, s_323_105, s_323_106, s_323_107, s_323_108, s_323_109, s_323_110, s_323_113, s_323_114, s_323_115, s_323_118, s_323_119, s_323_120, s_323_122, s_323_125, s_323_127, s_323_130, s_323_131, s_323_134, s_323_137, s_323_139, s_323_142, s_323_143, s_323_145, s_323_148, s_323_150, s_323_153, s_323_154, s_323_157, s_323_160, s_323_162, s_323_165, s_323_166, s_323_169, s_323_172, s_323_174, s_323_177, s_323_178, s_323_181, s_323_184, s_323_186, s_323_189, s_323_190, s_323_192, s_323_193, s_323_195, s_323_198, s_323_199, s_323_202, s_323_203, s_323_206, s_323_207, s_323_210, s_323_213, s_323_214, s_323_215, s_323_216, s_323_218, s_323_219, s_323_222, s_323_223, s_323_224, s_323_225, s_323_228, s_323_230, s_323_231, s_323_232, s_323_235, s_323_236, s_323_238, s_323_239, s_323_242, s_323_243, s_323_245, s_323_246, s_323_247, s_323_248, s_323_249, s_323_252, s_323_255, s_323_257, e_323, mv_i_1, mv_l_1, mv_a_1, mv_a_2, mv_a_3, mk2_n, mk2_i, mk2_l, mk2_a, mk2_u, mk2_x, mB_T, mB_F, mS_cons, mS_nil, mSB_T, mSB_F, mca_nil, mca_i, mca_l, mca_r, mca_u, mca_x, mcat_i, mcat_l, mcat_r, mcat_u, mcat_x, mK_some, mK_none, va_rf_s, va_rf_n, lgc_eq, lgc_lt, lgc_gt, lgc_ge, lgc_le, mrd_104, mrd_105, mrd_106, mrd_107, true_and, and_true, and_self, false_and, and_false, true_or, or_true, false_or, or_false, not_true_eq_false, not_false_eq_true, mgb, mga, mgr, mN, reduceCtorEq, ↓reduceIte, eq_self, ge_iff_le, gt_iff_lt, Nat.reduceAdd, Nat.reduceMul, Nat.reduceSub, Nat.reduceLT, Nat.reduceGT, Nat.reduceEqDiff, Nat.reduceLeDiff, Nat.left_eq_add, Nat.add_eq_left, Nat.reduceMod, Nat.reduceDiv, Nat.succ_ne_self, pH_g, g, pH_9, q0', n2, n3, q2, bd2, k0, e1', q6, q7]
  rcases S3 with ⟨n, cs, o1, bd5, fl5, dr5, t5, vv⟩ | ⟨o1, bd5, fl5, dr5, dr6, vv⟩
  · have o1' : o = some (tNd n cs) := o1
    subst o1'
    have gs' : 1 + ts cs ≤ 2 * (j - (s.at + 1)) := (gb3 (tNd n cs) rfl).2.1
    subst vv
    exact ⟨_, _, SR_tk m5 S2' bd5 fl5 dr5 t5 (by omega), run⟩
  · have o1' : o = none := o1
    subst o1'
    have dr6' : s5.dr ≤ s.dr + 2 * (j - (s.at + 1)) + 4 := dr6
    rw [tk_b bd5] at run
    exact ⟨_, _, SR_no m5 S2' bd5 fl5 dr5 (by omega) vv, run⟩
end PVs
section PWs'
variable {f N : Nat} {h : mh_H} {m : Nat} {K : Nat → Int32} {P : Nat → Nat} {V : Nat → Int}
/-- TEST -/
theorem g_tst (R : RTK h m K P V) (hN : 8 * m + 3 ≤ N) (i0 : PC0 h m K P V N f) (i2 : PC2 h m K P V N f) : PC2 h m K P V N (f + 1) := by
  intro d D s hf hi eb hd hD hr
  obtain ⟨D, rfl⟩ : ∃ D', D = D' + 4 := ⟨D - 4, by omega⟩
  rw [pgC_2]
  by_cases c1 : K s.at = 33
  · rw [if_pos c1]; exact g_not R i2 hf hi eb hd hD hr c1
  rw [if_neg c1]
  by_cases c2 : K s.at = 91
  · rw [if_pos c2]; exact g_bra R i0 hf hi eb hd hD hr c1 c2
  rw [if_neg c2]
  exact g_rel R hN hi eb hd hD hr c1 c2
/-- COND -/
theorem g_con (R : RTK h m K P V) (it : PC1 h m K P V N f) (il : PK3 h m K P V N f) : PC0 h m K P V N (f + 1) := by
  intro d D s hf hi eb hd hD hr
  obtain ⟨D, rfl⟩ : ∃ D', D = D' + 4 := ⟨D - 4, by omega⟩
  rw [pgC_0]
  have g := R.F.g 81 14 70 (by decide +kernel)
  have k0 : kb false = 0 := rfl
  have k1 : kb true = 1 := rfl
  have n1 : ((1 : Int32) = 0) = False := by decide
  have qd := c_317 (D := D + 2) (s := s) R hi (d := d) (by omega)
  by_cases cd : 60 < d
  · rw [if_pos cd]
    have e3 : s.dp P d = s.ko (P s.at) := by unfold pst.dp; rw [if_pos ⟨cd, eb⟩]
    rw [e3] at qd
    have kb1 : (s.ko (P s.at)).bd = true := rfl
    refine ⟨_, -1, SR_no (s1 := s.ko (P s.at)) ko_m rfl rfl rfl (Nat.le_refl _) (by show s.dr ≤ _; omega) (Or.inl rfl), fun Q => ?_⟩
    clear R it il
    simp (disch := omega) only [s_321_0, s_321_1, s_321_2, s_321_5, s_321_6, s_321_9, s_321_12, s_321_13, s_321_16, s_321_17, s_321_18, s_321_20, s_321_23, e_321, mv_i_1, mv_l_1, mv_a_1, mv_a_2, mv_a_3, mk2_n, mk2_i, mk2_l, mk2_a, mk2_u, mk2_x, mB_T, mB_F, mS_cons, mS_nil, mSB_T, mSB_F, mca_nil, mca_i, mca_l, mca_r, mca_u, mca_x, mcat_i, mcat_l, mcat_r, mcat_u, mcat_x, mK_some, mK_none, va_rf_s, va_rf_n, lgc_eq, lgc_lt, lgc_gt, lgc_ge, lgc_le, mrd_104, mrd_105, mrd_106, mrd_107, true_and, and_true, and_self, false_and, and_false, true_or, or_true, false_or, or_false, not_true_eq_false, not_false_eq_true, mgb, mga, mgr, mN, reduceCtorEq, ↓reduceIte, eq_self, ge_iff_le, gt_iff_lt, Nat.reduceAdd, Nat.reduceMul, Nat.reduceSub, Nat.reduceLT, Nat.reduceGT, Nat.reduceEqDiff, Nat.reduceLeDiff, Nat.left_eq_add, Nat.add_eq_left, Nat.reduceMod, Nat.reduceDiv, Nat.succ_ne_self, pH_g, g, pH_9, qd, kb1, k1, n1]
  rw [if_neg cd]
  have e3 : s.dp P d = s := by unfold pst.dp; rw [if_neg (fun z => cd z.1)]
  rw [e3] at qd
  obtain ⟨s1, v1, S1, q1⟩ := g_or R it il d (D + 3) s hf hi eb (by omega) (by omega) hr
  refine ⟨s1, v1, S1, fun Q => ?_⟩
  clear R it il S1
  simp (disch := omega) only [s_321_0, s_321_1, s_321_2, s_321_5, s_321_6, s_321_9, s_321_12, s_321_13, s_321_16, s_321_17, s_321_18, s_321_20, s_321_23, e_321, mv_i_1, mv_l_1, mv_a_1, mv_a_2, mv_a_3, mk2_n, mk2_i, mk2_l, mk2_a, mk2_u, mk2_x, mB_T, mB_F, mS_cons, mS_nil, mSB_T, mSB_F, mca_nil, mca_i, mca_l, mca_r, mca_u, mca_x, mcat_i, mcat_l, mcat_r, mcat_u, mcat_x, mK_some, mK_none, va_rf_s, va_rf_n, lgc_eq, lgc_lt, lgc_gt, lgc_ge, lgc_le, mrd_104, mrd_105, mrd_106, mrd_107, true_and, and_true, and_self, false_and, and_false, true_or, or_true, false_or, or_false, not_true_eq_false, not_false_eq_true, mgb, mga, mgr, mN, reduceCtorEq, ↓reduceIte, eq_self, ge_iff_le, gt_iff_lt, Nat.reduceAdd, Nat.reduceMul, Nat.reduceSub, Nat.reduceLT, Nat.reduceGT, Nat.reduceEqDiff, Nat.reduceLeDiff, Nat.left_eq_add, Nat.add_eq_left, Nat.reduceMod, Nat.reduceDiv, Nat.succ_ne_self, pH_g, g, pH_9, qd, eb, k0, q1]
/-- THE REFERENCE'S cond IS the grammar's COND -/
theorem pc_all (R : RTK h m K P V) (hN : 8 * m + 3 ≤ N) : ∀ f, PC0 h m K P V N f ∧ PC1 h m K P V N f ∧ PC2 h m K P V N f ∧ PK3 h m K P V N f ∧ PK4 h m K P V N f := by
  intro f
  induction f with
  | zero => exact ⟨fun d D s hf hi => by omega, fun d D s hf hi => by omega, fun d D s hf hi => by omega, fun d D s S0 L x4 hf hi => by omega, fun d D s S0 L x4 hf hi => by omega⟩
  | succ f ih =>
    obtain ⟨i0, i1, i2, i3, i4⟩ := ih
    exact ⟨g_con R i1 i3, g_and R i2 i4, g_tst R hN i0 i2, kp3_s R i1 i3, kp4_s R i2 i4⟩
end PWs'
