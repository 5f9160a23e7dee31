set_option maxRecDepth 100000
/-! THE REFERENCE'S PARSER: FACTORs -/
def PE0 (h : mh_H) (m : Nat) (K : Nat → Int32) (P : Nat → Nat) (V : Nat → Int) (f : Nat) : Prop := ∀ d D (s : pst), 8 * (m - s.at) + 3 ≤ f → s.at < m → s.bd = false → d ≤ 61 → 3 * (62 - d) + 6 ≤ D → s.dr + 2 * (m - s.at) + 8 ≤ 52000 → ∃ s' v, SR P (pgX K P V f 0 d s.at) s.at s.dr s s' v ∧ ∀ Q, mcall D 318 [.ref 81, .int (Int32.ofNat d)] (pH h s) Q = Q (some (.int v)) (pH h s')
def PE1 (h : mh_H) (m : Nat) (K : Nat → Int32) (P : Nat → Nat) (V : Nat → Int) (f : Nat) : Prop := ∀ d D (s : pst), 8 * (m - s.at) + 2 ≤ f → s.at < m → s.bd = false → d ≤ 60 → 3 * (62 - d) + 5 ≤ D → s.dr + 2 * (m - s.at) + 8 ≤ 52000 → ∃ s' v, SR P (pgX K P V f 1 d s.at) s.at s.dr s s' v ∧ ∀ Q, mcall D 319 [.ref 81, .int (Int32.ofNat d)] (pH h s) Q = Q (some (.int v)) (pH h s')
def PE2 (h : mh_H) (m : Nat) (K : Nat → Int32) (P : Nat → Nat) (V : Nat → Int) (f : Nat) : Prop := ∀ d D (s : pst), 8 * (m - s.at) + 1 ≤ f → s.at < m → s.bd = false → d ≤ 60 → 3 * (62 - d) + 4 ≤ D → s.dr + 2 * (m - s.at) + 8 ≤ 52000 → ∃ s' v, SR P (pgX K P V f 2 d s.at) s.at s.dr s s' v ∧ ∀ Q, mcall D 320 [.ref 81, .int (Int32.ofNat d)] (pH h s) Q = Q (some (.int v)) (pH h s')
section PFs
variable {D f : Nat} {h : mh_H} {m : Nat} {K : Nat → Int32} {P : Nat → Nat} {V : Nat → Int} {s : pst} {d : Nat}
/-- behind a fault: what is joined -/
theorem bad_j (F : RF h) {a o : Nat} {s s5 : pst} {k p v Fx L N v5 : Int32} (hm : pSm a s s5) (b : s5.bd = true) (ho : a ≤ o) (ho2 : o < s5.dr) (hdr : s5.dr ≤ 52000) (w : nf s5 o k p v Fx L N) (hw : Fx = -1 ∨ (¬ Fx = -1 ∧ ∃ l, L = Int32.ofNat l ∧ a ≤ l ∧ l < 52000)) (hv : v5 = -1 ∨ ∃ y, v5 = Int32.ofNat y ∧ y < s5.dr) : ∃ s6, pSm a s s6 ∧ s6.at = s5.at ∧ s6.bd = true ∧ s6.fl = s5.fl ∧ s6.dr = s5.dr ∧ (∀ z, z ≠ o → (∀ l, L = Int32.ofNat l → z ≠ l) → pE s5 s6 z) ∧ ∀ D Q, mcall D 314 [.ref 81, .int (Int32.ofNat o), .int v5] (pH h s5) Q = Q none (pH h s6) := by
  rcases hv with hv | ⟨y, hv, hy⟩
  · subst hv
    exact ⟨s5, hm, rfl, b, rfl, rfl, fun _ _ _ => pE_r, fun D Q => c_314n Q⟩
  · subst hv
    obtain ⟨j1, j2, j3, j4⟩ := jn_f (s := s5) (o := o) (y := y)
    refine ⟨s5.jn o y, pSm_t hm ?_, j1, j2.trans b, j3, j4, fun z z1 z2 => ?_, fun D Q => c_314 F (by omega) (by omega) (fun c => ?_) Q⟩
    · rcases hw with hw | ⟨hw, l, l1, l2, l3⟩
      · subst hw
        exact fun z hz => jn1_E w (by omega)
      · subst l1
        exact fun z hz => jn2_E w hw (by omega) (by omega) (by omega)
    · rcases hw with hw | ⟨hw, l, l1, l2, l3⟩
      · subst hw
        exact jn1_E w z1
      · subst l1
        exact jn2_E w hw (by omega) z1 (z2 l rfl)
    · rcases hw with hw | ⟨hw, l, l1, l2, l3⟩
      · exact absurd (w.2.2.2.1.trans hw) c
      · exact ⟨l, l3, w.2.2.2.2.1.trans l1⟩
theorem tE_13 {p : Nat} (hp : p ≤ 16400) {k i : Nat} (hk : k < 64) (hi : i < 2147483648) : Int32.ofNat k = Int32.ofNat (tK (tE k p (i : Int))) ∧ Int32.ofNat p = Int32.ofNat (tP (tE k p (i : Int))) ∧ (Int32.ofNat i).toInt = tV (tE k p (i : Int)) := by
  rw [tE_K hk, tE_P hk (by omega), tE_V hk (by omega), nn_int hi]
  exact ⟨rfl, rfl, rfl⟩
/-- a NUMBER -/
theorem f_num (R : RTK h m K P V) (hi : s.at < m) (eb : s.bd = false) (hr : s.dr + 8 ≤ 52000) (c1 : K s.at = 3) : ∃ s' v, SR P (s.at + 1, some (tL (tE 12 (P s.at) (V s.at)))) s.at s.dr s s' v ∧ ∀ Q, mcall (D + 4) 320 [.ref 81, .int (Int32.ofNat d)] (pH h s) Q = Q (some (.int v)) (pH h s') := by
  have hp := (R.p _ hi).2
  obtain ⟨w, w1, w2, w3, w4, w5⟩ := R.v _ hi c1
  have v0 : 0 ≤ V s.at := by rw [w4]; exact (nvl_b w (P s.at) 0 (by omega) (by omega)).1
  have q1 := c_316 (D := D + 1) R hi (by omega) (lim := false)
  have e1 : s.n1 K P false = s := if_neg (fun z => absurd z.1 (by decide))
  have e2 : s.nb K P V false = (s.uA (s.at + 1)).dft 12 (Int32.ofNat (P s.at)) (1 * Int32.ofInt (V s.at)) := by
    unfold pst.nb
    rw [e1, tk_1 eb c1, if_neg (fun z => absurd z.1 (by decide)), lk_0 eb, if_pos c1]
  rw [e2] at q1
  have q0 := c_310 (D := D + 3) R hi
  rw [lk_0 eb, c1] at q0
  have q0' : ∀ Q, mcall (D + 3) 310 [.ref 81] (pH h s) Q = Q (some (.int 3)) (pH h s) := q0
  refine ⟨_, _, SR_ok (s1 := (s.uA (s.at + 1)).dft 12 (Int32.ofNat (P s.at)) (1 * Int32.ofInt (V s.at))) (pSm_t uA_m (dft_m (Nat.le_refl _))) rfl eb rfl rfl (dq_m0 (cs := .leaf ()) dft_n (by rw [tE_K (by decide)]; rfl) (by rw [tE_P (by decide) (by omega)]) (by rw [tE_V (by decide) (by omega), nv_1 v0 w5]) (by unfold dSc; rw [tE_K (by decide)]; rfl) rfl rfl trivial), fun Q => ?_⟩
  have g := R.F.g 81 14 70 (by decide +kernel)
  have q1' : ∀ Q, mcall (D + 3) 316 [.ref 81, .int 0] (pH h s) Q = Q (some (.int (Int32.ofNat s.dr))) (pH h ((s.uA (s.at + 1)).dft 12 (Int32.ofNat (P s.at)) (1 * Int32.ofInt (V s.at)))) := q1
  have n33 : ((3 : Int32) = 3) = True := by decide
  have od : dOf (tE 12 (P s.at) (V s.at)) (.leaf ()) = 0 := dOf_0 (by unfold dSc; rw [tE_K (by decide)]; rfl)
  rw [od]
  clear R q0 q1
  simp (disch := omega) only [s_320_0, s_320_1, s_320_4, s_320_5, s_320_6, s_320_7, s_320_10, s_320_11, s_320_12, s_320_15, s_320_16, s_320_17, s_320_18, s_320_21, s_320_22, s_320_25, s_320_26, s_320_29, s_320_30, s_320_31, s_320_32, s_320_35, s_320_37, s_320_38, s_320_41, s_320_43, s_320_46, s_320_48, s_320_49, s_320_50, s_320_52, s_320_53, s_320_54, s_320_57, s_320_59, s_320_60, s_320_62, s_320_64, s_320_67, s_320_68, s_320_70, s_320_73, s_320_74, s_320_76, s_320_77, s_320_80, s_320_83, s_320_84, s_320_87, s_320_88, s_320_89, s_320_90, s_320_91, s_320_94, s_320_97, s_320_98, s_320_100, s_320_103, s_320_105, s_320_106, s_320_107, s_320_109, s_320_112, s_320_113, s_320_115, s_320_116, s_320_119, s_320_120, s_320_123, s_320_124, s_320_125, s_320_128, s_320_129, s_320_130, s_320_132, s_320_135, s_320_136, s_320_137, s_320_138, s_320_139, s_320_142, s_320_143, s_320_144, s_320_145, s_320_148, s_320_151, s_320_152, s_320_155, s_320_156, s_320_157, s_320_158, s_320_159, s_320_162, s_320_165, s_320_166, s_320_167, s_320_168, s_320_171, s_320_174, s_320_175, s_320_177, s_320_178, s_320_181, s_320_182, s_320_185, s_320_186, s_320_187, s_320_190, s_320_191, s_320_192, s_320_195, s_320_198, s_320_199, s_320_202, s_320_204, s_320_207, s_320_208, s_320_210, s_320_213, s_320_214, s_320_215, s_320_216, s_320_217, s_320_220, s_320_223, s_320_224, s_320_226, s_320_229, s_320_230, s_320_231, s_320_232, s_320_233, s_320_236, s_320_239, s_320_240, s_320_242, s_320_245, s_320_246, s_320_247, s_320_248, s_320_250, s_320_253, s_320_254, s_320_257, s_320_260, s_320_261, s_320_264, s_320_265, s_320_266, s_320_267, s_320_268, s_320_271, s_320_272, s_320_273, s_320_275, s_320_278, s_320_279, e_320, mv_i_1, mv_l_1, mv_a_1, mv_a_2, mv_a_3, mk2_n, mk2_i, mk2_l, mk2_a, mk2_u, mk2_x, mB_T, mB_F, mS_cons, mS_nil, mSB_T, mSB_F, mca_nil, mca_i, mca_l, mca_r, mca_u, mca_x, mcat_i, mcat_l, mcat_r, mcat_u, mcat_x, mK_some, mK_none, va_rf_s, va_rf_n, lgc_eq, lgc_lt, lgc_gt, lgc_ge, lgc_le, mrd_104, mrd_105, mrd_106, mrd_107, true_and, and_true, and_self, false_and, and_false, true_or, or_true, false_or, or_false, not_true_eq_false, not_false_eq_true, mgb, mga, mgr, mN, reduceCtorEq, ↓reduceIte, eq_self, ge_iff_le, gt_iff_lt, Nat.reduceAdd, Nat.reduceMul, Nat.reduceSub, Nat.reduceLT, Nat.reduceGT, Nat.reduceEqDiff, Nat.reduceLeDiff, Nat.left_eq_add, Nat.add_eq_left, Nat.reduceMod, Nat.reduceDiv, Nat.succ_ne_self, pH_g, g, q0', n33, q1', Nat.add_zero]
/-- a NAME alone -/
theorem f_nam (R : RTK h m K P V) (hi : s.at < m) (eb : s.bd = false) (hr : s.dr + 8 ≤ 52000) (c1 : K s.at = 2) (c2 : ¬ K (s.at + 1) = 91) : ∃ s' v, SR P (s.at + 1, some (tL (tE 13 (P s.at) s.at))) s.at s.dr s s' v ∧ ∀ Q, mcall (D + 4) 320 [.ref 81, .int (Int32.ofNat d)] (pH h s) Q = Q (some (.int v)) (pH h s') := by
  have hp := (R.p _ hi).2
  have hm := R.m
  have h1 := tkM_s R.M hi c1 (by decide) (by decide)
  have q1 := c_315 (D := D + 1) R hi (by omega)
  have e2 : s.nm K P = (s.dft 13 (Int32.ofNat (P s.at)) (Int32.ofNat s.at)).uA (s.at + 1) := by
    unfold pst.nm
    exact tk_1 (s := s.dft 13 (Int32.ofNat (P s.at)) (Int32.ofNat s.at)) eb c1
  rw [e2] at q1
  have q0 := c_310 (D := D + 3) R hi
  rw [lk_0 eb, c1] at q0
  have q0' : ∀ Q, mcall (D + 3) 310 [.ref 81] (pH h s) Q = Q (some (.int 2)) (pH h s) := q0
  have q2 := c_310 (D := D + 3) (s := (s.dft 13 (Int32.ofNat (P s.at)) (Int32.ofNat s.at)).uA (s.at + 1)) R h1
  have l2 : ((s.dft 13 (Int32.ofNat (P s.at)) (Int32.ofNat s.at)).uA (s.at + 1)).lk K = K (s.at + 1) := lk_0 (s := (s.dft 13 (Int32.ofNat (P s.at)) (Int32.ofNat s.at)).uA (s.at + 1)) eb
  rw [l2] at q2
  have l3 : (rkd (K (s.at + 1)) = 91) = False := by rw [rk_e (R.k _ h1).2 (c := 91) (y := 91) (by decide) rfl]; exact eq_false c2
  obtain ⟨t1, t2, t3⟩ := tE_13 hp (k := 13) (i := s.at) (by decide) (by omega)
  refine ⟨_, _, SR_ok (s1 := (s.dft 13 (Int32.ofNat (P s.at)) (Int32.ofNat s.at)).uA (s.at + 1)) (pSm_t (dft_m (Nat.le_refl _)) uA_m) rfl eb rfl rfl (dq_m0 (cs := .leaf ()) (dft_n (s := s)) t1 t2 t3 (by unfold dSc; rw [tE_K (by decide)]; rfl) rfl rfl trivial), fun Q => ?_⟩
  have g := R.F.g 81 14 70 (by decide +kernel)
  have r1 := R.F.f 81 5 84 (by decide +kernel)
  have g1 := R.F.g 84 100 16402 (by decide +kernel)
  have l1 := R.F.l 84 100 16402 (by decide +kernel)
  have e := (R.p _ hi).1
  have n23 : ((2 : Int32) = 3) = False := by decide
  have n22 : ((2 : Int32) = 2) = True := by decide
  have od : dOf (tE 13 (P s.at) s.at) (.leaf ()) = 0 := dOf_0 (by unfold dSc; rw [tE_K (by decide)]; rfl)
  rw [od]
  clear R q0
  simp (disch := omega) only [s_320_0, s_320_1, s_320_4, s_320_5, s_320_6, s_320_7, s_320_10, s_320_11, s_320_12, s_320_15, s_320_16, s_320_17, s_320_18, s_320_21, s_320_22, s_320_25, s_320_26, s_320_29, s_320_30, s_320_31, s_320_32, s_320_35, s_320_37, s_320_38, s_320_41, s_320_43, s_320_46, s_320_48, s_320_49, s_320_50, s_320_52, s_320_53, s_320_54, s_320_57, s_320_59, s_320_60, s_320_62, s_320_64, s_320_67, s_320_68, s_320_70, s_320_73, s_320_74, s_320_76, s_320_77, s_320_80, s_320_83, s_320_84, s_320_87, s_320_88, s_320_89, s_320_90, s_320_91, s_320_94, s_320_97, s_320_98, s_320_100, s_320_103, s_320_105, s_320_106, s_320_107, s_320_109, s_320_112, s_320_113, s_320_115, s_320_116, s_320_119, s_320_120, s_320_123, s_320_124, s_320_125, s_320_128, s_320_129, s_320_130, s_320_132, s_320_135, s_320_136, s_320_137, s_320_138, s_320_139, s_320_142, s_320_143, s_320_144, s_320_145, s_320_148, s_320_151, s_320_152, s_320_155, s_320_156, s_320_157, s_320_158, s_320_159, s_320_162, s_320_165, s_320_166, s_320_167, s_320_168, s_320_171, s_320_174, s_320_175, s_320_177, s_320_178, s_320_181, s_320_182, s_320_185, s_320_186, s_320_187, s_320_190, s_320_191, s_320_192, s_320_195, s_320_198, s_320_199, s_320_202, s_320_204, s_320_207, s_320_208, s_320_210, s_320_213, s_320_214, s_320_215, s_320_216, s_320_217, s_320_220, s_320_223, s_320_224, s_320_226, s_320_229, s_320_230, s_320_231, s_320_232, s_320_233, s_320_236, s_320_239, s_320_240, s_320_242, s_320_245, s_320_246, s_320_247, s_320_248, s_320_250, s_320_253, s_320_254, s_320_257, s_320_260, s_320_261, s_320_264, s_320_265, s_320_266, s_320_267, s_320_268, s_320_271, s_320_272, s_320_273, s_320_275, s_320_278, s_320_279, e_320, mv_i_1, mv_l_1, mv_a_1, mv_a_2, mv_a_3, mk2_n, mk2_i, mk2_l, mk2_a, mk2_u, mk2_x, mB_T, mB_F, mS_cons, mS_nil, mSB_T, mSB_F, mca_nil, mca_i, mca_l, mca_r, mca_u, mca_x, mcat_i, mcat_l, mcat_r, mcat_u, mcat_x, mK_some, mK_none, va_rf_s, va_rf_n, lgc_eq, lgc_lt, lgc_gt, lgc_ge, lgc_le, mrd_104, mrd_105, mrd_106, mrd_107, true_and, and_true, and_self, false_and, and_false, true_or, or_true, false_or, or_false, not_true_eq_false, not_false_eq_true, mgb, mga, mgr, mN, reduceCtorEq, ↓reduceIte, eq_self, ge_iff_le, gt_iff_lt, Nat.reduceAdd, Nat.reduceMul, Nat.reduceSub, Nat.reduceLT, Nat.reduceGT, Nat.reduceEqDiff, Nat.reduceLeDiff, Nat.left_eq_add, Nat.add_eq_left, Nat.reduceMod, Nat.reduceDiv, Nat.succ_ne_self, pH_g, pH_r, pH_l, g, r1, g1, l1, pH_8, pH_84, nn_mxT, nn_clamp, e, q0', n23, n22, q1, q2, l3, Nat.add_zero]
end PFs
