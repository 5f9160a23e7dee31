set_option maxRecDepth 100000
/-! THE REFERENCE'S PARSER: a place of an array, a minus -/
section PGs
variable {D f : Nat} {h : mh_H} {m : Nat} {K : Nat → Int32} {P : Nat → Nat} {V : Nat → Int} {s : pst} {d : Nat}
/-- NAME [ SUM ] -/
theorem f_cel (R : RTK h m K P V) (ih : PE0 h m K P V f) (hf : 8 * (m - s.at) + 1 ≤ f + 1) (hi : s.at < m) (eb : s.bd = false) (hd : d ≤ 60) (hD : 3 * (62 - d) + 4 ≤ D + 4) (hr : s.dr + 2 * (m - s.at) + 8 ≤ 52000) (c1 : K s.at = 2) (c2 : K (s.at + 1) = 91) : ∃ s' v, SR P (bnd (pgX K P V f 0 (d + 1) (s.at + 2)) fun t j => tak K 93 j (j + 1, some (tNd (tE 14 (P s.at) 0) (.branch (tE 13 (P s.at) s.at) (.leaf ()) t)))) s.at s.dr s s' v ∧ ∀ Q, mcall (D + 4) 320 [.ref 81, .int (Int32.ofNat d)] (pH h s) Q = Q (some (.int v)) (pH h s') := by
  have hp := (R.p _ hi).2
  have hm := R.m
  have h1 := tkM_s R.M hi c1 (by decide) (by decide)
  have h2 := tkM_s R.M h1 c2 (by decide) (by decide)
  have g := R.F.g 81 14 70 (by decide +kernel)
  have r1 := R.F.f 81 5 84 (by decide +kernel)
  have g1 := R.F.g 84 100 16402 (by decide +kernel)
  have l1 := R.F.l 84 100 16402 (by decide +kernel)
  have e := (R.p _ hi).1
  have n23 : ((2 : Int32) = 3) = False := by decide
  have n22 : ((2 : Int32) = 2) = True := by decide
  have n9 : ((91 : Int32) = 91) = True := by decide
  have k0 : kb false = 0 := rfl
  have k1 : kb true = 1 := rfl
  have n1 : ((1 : Int32) = 0) = False := by decide
  have e1' : ∀ k, Int32.ofNat k + 1 = Int32.ofNat (k + 1) := fun k => nn_add (a := k) (b := 1)
  -- the NAME
  have q0 := c_310 (D := D + 3) R hi
  rw [lk_0 eb, c1] at q0
  have q0' : ∀ Q, mcall (D + 3) 310 [.ref 81] (pH h s) Q = Q (some (.int 2)) (pH h s) := q0
  have q1 := c_315 (D := D + 1) R hi (by omega)
  obtain ⟨s1, hs1⟩ : ∃ x : pst, x = (s.dft 13 (Int32.ofNat (P s.at)) (Int32.ofNat s.at)).uA (s.at + 1) := ⟨_, rfl⟩
  have e2 : s.nm K P = s1 := by
    rw [hs1]
    unfold pst.nm
    exact tk_1 (s := s.dft 13 (Int32.ofNat (P s.at)) (Int32.ofNat s.at)) eb c1
  rw [e2] at q1
  have at1 : s1.at = s.at + 1 := by rw [hs1]; rfl
  have bd1 : s1.bd = false := by rw [hs1]; exact eb
  have fl1 : s1.fl = s.fl := by rw [hs1]; rfl
  have dr1 : s1.dr = s.dr + 1 := by rw [hs1]; rfl
  have m1 : pSm s.dr s s1 := by rw [hs1]; exact pSm_t (dft_m (Nat.le_refl _)) uA_m
  have a1 : nf s1 s.dr 13 (Int32.ofNat (P s.at)) (Int32.ofNat s.at) (-1) (-1) (-1) := by rw [hs1]; exact dft_n (s := s)
  have q2 := c_310 (D := D + 3) (s := s1) R (by omega)
  rw [lk_0 bd1, at1, c2] at q2
  have q2' : ∀ Q, mcall (D + 3) 310 [.ref 81] (pH h s1) Q = Q (some (.int 91)) (pH h s1) := q2
  -- the node
  have q3 := c_313 (D := D + 3) (s := s1) R.F (by omega) (k := 14) (p := Int32.ofNat (P s.at)) (v := 0)
  rw [dr1] at q3
  obtain ⟨s2, hs2⟩ : ∃ x : pst, x = s1.dft 14 (Int32.ofNat (P s.at)) 0 := ⟨_, rfl⟩
  rw [← hs2] at q3
  have b2 : nf s2 (s.dr + 1) 14 (Int32.ofNat (P s.at)) 0 (-1) (-1) (-1) := by rw [hs2, ← dr1]; exact dft_n
  have a2 : nf s2 s.dr 13 (Int32.ofNat (P s.at)) (Int32.ofNat s.at) (-1) (-1) (-1) := nf_E a1 (by rw [hs2]; exact dft_E (by omega))
  have q4 := c_314 (D := D + 3) (s := s2) R.F (o := s.dr + 1) (y := s.dr) (by omega) (by omega) (fun z => absurd b2.2.2.2.1 z)
  obtain ⟨s3, hs3⟩ : ∃ x : pst, x = s2.jn (s.dr + 1) s.dr := ⟨_, rfl⟩
  rw [← hs3] at q4
  obtain ⟨f1, f2, f3, f4⟩ := jn_f (s := s2) (o := s.dr + 1) (y := s.dr)
  have b3 : nf s3 (s.dr + 1) 14 (Int32.ofNat (P s.at)) 0 (Int32.ofNat s.dr) (Int32.ofNat s.dr) (-1) := by rw [hs3]; exact jn1_n b2
  have a3 : nf s3 s.dr 13 (Int32.ofNat (P s.at)) (Int32.ofNat s.at) (-1) (-1) (-1) := nf_E a2 (by rw [hs3]; exact jn1_E b2 (by omega))
  have m3 : pSm s.dr s s3 := fun y hy => pE_t (m1 y hy) (pE_t (show pE s1 s2 y from by rw [hs2]; exact dft_E (by omega)) (show pE s2 s3 y from by rw [hs3]; exact jn1_E b2 (by omega)))
  have at3 : s3.at = s.at + 1 := by rw [hs3, f1, hs2]; exact at1
  have bd3 : s3.bd = false := by rw [hs3, f2, hs2]; exact bd1
  have fl3 : s3.fl = s.fl := by rw [hs3, f3, hs2]; exact fl1
  have dr3 : s3.dr = s.dr + 2 := by rw [hs3, f4, hs2]; show s1.dr + 1 = _; omega
  have q5 := c_312 (D := D + 2) (s := s3) R (by omega) (c := 91) (y := 91) (by decide) rfl (by decide)
  rw [tk_1 bd3 (by rw [at3]; exact c2), at3] at q5
  obtain ⟨s4, hs4⟩ : ∃ x : pst, x = s3.uA (s.at + 1 + 1) := ⟨_, rfl⟩
  rw [← hs4] at q5
  have at4 : s4.at = s.at + 2 := by rw [hs4]; rfl
  have bd4 : s4.bd = false := by rw [hs4]; exact bd3
  have fl4 : s4.fl = s.fl := by rw [hs4]; exact fl3
  have dr4 : s4.dr = s.dr + 2 := by rw [hs4]; exact dr3
  have m4 : pSm s.dr s s4 := by rw [hs4]; exact pSm_t m3 uA_m
  have b4 : nf s4 (s.dr + 1) 14 (Int32.ofNat (P s.at)) 0 (Int32.ofNat s.dr) (Int32.ofNat s.dr) (-1) := by rw [hs4]; exact b3
  have a4 : nf s4 s.dr 13 (Int32.ofNat (P s.at)) (Int32.ofNat s.at) (-1) (-1) (-1) := by rw [hs4]; exact a3
  -- the SUM
  obtain ⟨s5, v5, S5, q6⟩ := ih (d + 1) (D + 3) s4 (by rw [at4]; omega) (by rw [at4]; exact h2) bd4 (by omega) (by omega) (by rw [at4, dr4]; omega)
  have gb := pgX_b (P := P) (V := V) R.M f 0 (d + 1) (s.at + 2) (by decide) h2
  rw [at4, dr4] at S5
  generalize pgX K P V f 0 (d + 1) (s.at + 2) = r at *
  obtain ⟨j, o⟩ := r
  obtain ⟨gb1, gb2, gb3⟩ := gb
  have gb1' : s.at + 2 ≤ j := gb1
  have gb2' : j < m := gb2
  obtain ⟨S1, S2, S3⟩ := S5
  have S2' : s5.at = j := S2
  have m5 : pSm s.dr s s5 := pSm_t m4 (pSm_w S1 (by omega))
  have a5 := nf_S a4 S1 (by omega)
  have b5 := nf_S b4 S1 (by omega)
  have run : ∀ v6 s6, (∀ Q, mcall (D + 3) 314 [.ref 81, .int (Int32.ofNat (s.dr + 1)), .int v5] (pH h s5) Q = Q none (pH h s6)) → (∀ Q, mcall (D + 3) 312 [.ref 81, .int 93] (pH h s6) Q = Q none (pH h v6)) → ∀ Q, mcall (D + 4) 320 [.ref 81, .int (Int32.ofNat d)] (pH h s) Q = Q (some (.int (Int32.ofNat (s.dr + 1)))) (pH h v6) := by
    intro v6 s6 w1 w2 Q
    clear R ih q0 q2 S1 S3 m1 m3 m4 m5 a1 a2 a3 a4 a5 b2 b3 b4 b5 gb3
    simp (disch := omega) only [s_320_0, s_320_1, s_320_4, s_320_5, s_320_6, s_320_7, s_320_10, s_320_11, s_320_12, s_320_15, s_320_16, s_320_17, s_320_18, s_320_21, s_320_22, s_320_25, s_320_26, s_320_29, s_320_30, s_320_31, s_320_32, s_320_35, s_320_37, s_320_38, s_320_41, s_320_43, s_320_46, s_320_48, s_320_49, s_320_50, s_320_52, s_320_53, s_320_54, s_320_57, s_320_59, s_320_60, s_320_62, s_320_64, s_320_67, s_320_68, s_320_70, s_320_73, s_320_74, s_320_76, s_320_77, s_320_80, s_320_83, s_320_84, s_320_87, s_320_88, s_320_89, s_320_90, s_320_91, s_320_94, s_320_97, s_320_98, s_320_100, s_320_103, s_320_105, s_320_106, s_320_107, s_320_109, s_320_112, s_320_113, s_320_115, s_320_116, s_320_119, s_320_120, s_320_123, s_320_124, s_320_125, s_320_128, s_320_129, s_320_130, s_320_132, s_320_135, s_320_136, s_320_137, s_320_138, s_320_139, s_320_142, s_320_143, s_320_144, s_320_145, s_320_148, s_320_151, s_320_152, s_320_155, s_320_156, s_320_157, s_320_158, s_320_159, s_320_162, s_320_165, s_320_166, s_320_167, s_320_168, s_320_171, s_320_174, s_320_175, s_320_177, s_320_178, s_320_181, s_320_182, s_320_185, s_320_186, s_320_187, s_320_190, s_320_191, s_320_192, s_320_195, s_320_198, s_320_199, s_320_202, s_320_204, s_320_207, s_320_208, s_320_210, s_320_213, s_320_214, s_320_215, s_320_216, s_320_217, s_320_220, s_320_223, s_320_224, s_320_226, s_320_229, s_320_230, s_320_231, s_320_232, s_320_233, s_320_236, s_320_239, s_320_240, s_320_242, s_320_245, s_320_246, s_320_247, s_320_248, s_320_250, s_320_253, s_320_254, s_320_257, s_320_260, s_320_261, s_320_264, s_320_265, s_320_266, s_320_267, s_320_268, s_320_271, s_320_272, s_320_273, s_320_275, s_320_278, s_320_279, e_320, mv_i_1, mv_l_1, mv_a_1, mv_a_2, mv_a_3, mk2_n, mk2_i, mk2_l, mk2_a, mk2_u, mk2_x, mB_T, mB_F, mS_cons, mS_nil, mSB_T, mSB_F, mca_nil, mca_i, mca_l, mca_r, mca_u, mca_x, mcat_i, mcat_l, mcat_r, mcat_u, mcat_x, mK_some, mK_none, va_rf_s, va_rf_n, lgc_eq, lgc_lt, lgc_gt, lgc_ge, lgc_le, mrd_104, mrd_105, mrd_106, mrd_107, true_and, and_true, and_self, false_and, and_false, true_or, or_true, false_or, or_false, not_true_eq_false, not_false_eq_true, mgb, mga, mgr, mN, reduceCtorEq, ↓reduceIte, eq_self, ge_iff_le, gt_iff_lt, Nat.reduceAdd, Nat.reduceMul, Nat.reduceSub, Nat.reduceLT, Nat.reduceGT, Nat.reduceEqDiff, Nat.reduceLeDiff, Nat.left_eq_add, Nat.add_eq_left, Nat.reduceMod, Nat.reduceDiv, Nat.succ_ne_self, pH_g, pH_r, pH_l, g, r1, g1, l1, pH_8, pH_9, pH_84, nn_mxT, nn_clamp, e, q0', n23, n22, q1, q2', n9, q3, q4, q5, bd4, k0, e1', q6, w1, w2]
  rcases S3 with ⟨n, cs, o1, bd5, fl5, dr5, t5, vv⟩ | ⟨o1, bd5, fl5, dr5, dr6, vv⟩
  · have o1' : o = some (tNd n cs) := o1
    subst o1'
    have gs := (gb3 (tNd n cs) rfl).2.1
    have gs' : 1 + ts cs ≤ 2 * (j - (s.at + 2)) := gs
    have ob := dOf_b (n := n) (cs := cs)
    subst vv
    have q7 := c_314 (D := D + 3) (s := s5) R.F (o := s.dr + 1) (y := s.dr + 2 + dOf n cs) (by omega) (by omega) (fun _ => ⟨s.dr, by omega, b5.2.2.2.2.1⟩)
    obtain ⟨s6, hs6⟩ : ∃ x : pst, x = s5.jn (s.dr + 1) (s.dr + 2 + dOf n cs) := ⟨_, rfl⟩
    rw [← hs6] at q7
    obtain ⟨f1, f2, f3, f4⟩ := jn_f (s := s5) (o := s.dr + 1) (y := s.dr + 2 + dOf n cs)
    rw [← hs6] at f1 f2 f3 f4
    have nF : ¬ Int32.ofNat s.dr = -1 := ofn_m (by omega)
    have b6 : nf s6 (s.dr + 1) 14 (Int32.ofNat (P s.at)) 0 (Int32.ofNat s.dr) (Int32.ofNat (s.dr + 2 + dOf n cs)) (-1) := by rw [hs6]; exact jn2_n b5 nF (by omega) (by omega)
    have a6 : nf s6 s.dr 13 (Int32.ofNat (P s.at)) (Int32.ofNat s.at) (-1) (-1) (Int32.ofNat (s.dr + 2 + dOf n cs)) := by rw [hs6]; exact jn2_l b5 nF (by omega) (by omega) a5
    have m6 : pSm s.dr s s6 := fun y hy => pE_t (m5 y hy) (by rw [hs6]; exact jn2_E b5 nF (by omega) (by omega) (by omega))
    have t6 : s6.dq (tNd n cs) true (s.dr + 2) (-1) := dq_S t5 (fun y y1 y2 => by rw [hs6]; exact jn2_E b5 nF (by omega) (by omega) (by omega))
    have q8 := c_312 (D := D + 2) (s := s6) R (by rw [f1, S2']; exact gb2') (c := 93) (y := 93) (by decide) rfl (by decide)
    obtain ⟨t1, t2, t3⟩ := tE_13 hp (k := 13) (i := s.at) (by decide) (by omega)
    have dt : s6.dq (tNd (tE 14 (P s.at) 0) (.branch (tE 13 (P s.at) s.at) (.leaf ()) (tNd n cs))) true s.dr (-1) := by
      refine dq_m1 (c := .leaf ()) (r' := tNd n cs) b6 (by rw [tE_K (by decide)]; rfl) (by rw [tE_P (by decide) (by omega)]) (by rw [tE_V (by decide) (by omega)]; rfl) (by unfold dSc; rw [tE_K (by decide)]; rfl) ?_ rfl ?_ ?_
      · rw [dOf_0 (by unfold dSc; rw [tE_K (by decide)]; rfl)]; rfl
      · exact dq_m0 (cs := .leaf ()) a6 t1 t2 t3 (by unfold dSc; rw [tE_K (by decide)]; rfl) rfl rfl trivial
      · exact dq_1 t6
    have od : dOf (tE 14 (P s.at) 0) (.branch (tE 13 (P s.at) s.at) (.leaf ()) (tNd n cs)) = 1 := dOf_1 (by unfold dSc; rw [tE_K (by decide)]; rfl)
    have ST := SR_tk (K := K) (P := P) (c := 93) (i := s.at) m6 (f1.trans S2') (f2.trans bd5) ((f3.trans fl5).trans fl4) (by rw [f4, dr5]; show s.dr + 2 + (1 + ts cs) = s.dr + (1 + (1 + 0 + (1 + ts cs + 0))); omega) dt (by show 1 + (1 + 0 + (1 + ts cs + 0)) ≤ _; omega)
    rw [od] at ST
    exact ⟨_, _, ST, run _ _ q7 q8⟩
  · have o1' : o = none := o1
    subst o1'
    have dr6' : s5.dr ≤ s.dr + 2 + 2 * (j - (s.at + 2)) + 4 := dr6
    obtain ⟨s6, w1, w2, w3, w4, w5, -, w6⟩ := bad_j R.F m5 bd5 (by omega : s.dr ≤ s.dr + 1) (by omega) (by omega) b5 (Or.inr ⟨ofn_m (by omega), s.dr, rfl, Nat.le_refl _, by omega⟩) vv
    have q8 := c_312 (D := D + 2) (s := s6) R (by rw [w2, S2']; exact gb2') (c := 93) (y := 93) (by decide) rfl (by decide)
    rw [tk_b w3] at q8
    exact ⟨_, _, SR_no w1 (w2.trans S2') w3 (w4.trans fl5) (by omega) (by omega) (Or.inr ⟨_, rfl, by omega⟩), run _ _ (w6 (D + 3)) q8⟩
end PGs
