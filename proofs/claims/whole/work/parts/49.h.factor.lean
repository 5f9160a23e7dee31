set_option maxRecDepth 100000
/-! THE REFERENCE'S PARSER: any, all FACTORs -/
section PKs
variable {D f : Nat} {h : mh_H} {m : Nat} {K : Nat → Int32} {P : Nat → Nat} {V : Nat → Int} {s : pst} {d : Nat}
theorem nv_0 (R : RTK h m K P V) {i : Nat} (hi : i < m) (c : K i = 3) : 0 ≤ V i ∧ V i ≤ 2147483647 := by
  obtain ⟨w, w1, w2, w3, w4, w5⟩ := R.v _ hi c
  exact ⟨by rw [w4]; exact (nvl_b w (P i) 0 (by omega) (by omega)).1, w5⟩
theorem d12 {p : Nat} {v : Int} : dSc (tE 12 p v) (.leaf ()) = 0 := by unfold dSc; rw [tE_K (by decide)]; rfl
/-- a limit -/
theorem nb_lim (R : RTK h m K P V) (hi : s.at < m) (eb : s.bd = false) : SR P (pLim K P V s.at) s.at s.dr s (s.nb K P V true) (Int32.ofNat s.dr) := by
  have hp := (R.p _ hi).2
  unfold pLim pst.nb
  by_cases c : K s.at = 45
  · have h1 := tkM_s R.M hi c (by decide) (by decide)
    have e1 : s.n1 K P true = s.uA (s.at + 1) := by unfold pst.n1; rw [if_pos ⟨rfl, by rw [lk_0 eb]; exact c⟩, tk_1 eb c]
    have bd1 : (s.uA (s.at + 1)).bd = false := eb
    rw [if_pos c, e1, if_pos (show true = true ∧ s.lk K = 45 from ⟨rfl, by rw [lk_0 eb]; exact c⟩), lk_0 bd1]
    unfold tak
    by_cases c2 : K (s.at + 1) = 3
    · have v0 := nv_0 R h1 c2
      have e2 : (s.uA (s.at + 1)).tk K P 3 = (s.uA (s.at + 1)).uA (s.at + 1 + 1) := tk_1 bd1 c2
      rw [if_pos c2, e2, if_pos (show K (s.uA (s.at + 1)).at = 3 from c2)]
      have ST := SR_ok (P := P) (i := s.at) (j := s.at + 2) (n := tE 12 (P s.at) (-(V (s.at + 1)))) (cs := .leaf ()) (s1 := ((s.uA (s.at + 1)).uA (s.at + 1 + 1)).dft 12 (Int32.ofNat (P s.at)) (-1 * Int32.ofInt (V (s.at + 1)))) (s := s) (a := s.dr) (pSm_t (pSm_t uA_m uA_m) (dft_m (Nat.le_refl _))) rfl eb rfl rfl (dq_m0 (cs := .leaf ()) dft_n (by rw [tE_K (by decide)]; rfl) (by rw [tE_P (by decide) (by omega)]) (by rw [tE_V (by decide) (by omega), nv_m v0.1 v0.2]) d12 rfl rfl trivial)
      rw [dOf_0 d12] at ST
      exact ST
    · have e2 : (s.uA (s.at + 1)).tk K P 3 = (s.uA (s.at + 1)).ko (P (s.at + 1)) := tk_0 bd1 c2
      rw [if_neg c2, e2]
      exact SR_no (pSm_t (pSm_t uA_m ko_m) (dft_m (Nat.le_refl _))) rfl rfl rfl (by show s.dr ≤ s.dr + 1; omega) (by show s.dr + 1 ≤ _; omega) (Or.inr ⟨_, rfl, by show s.dr < s.dr + 1; omega⟩)
  · have e1 : s.n1 K P true = s := by unfold pst.n1; rw [if_neg (fun z => c (by rw [← lk_0 (K := K) eb]; exact z.2))]
    rw [if_neg c, e1, if_neg (show ¬ (true = true ∧ s.lk K = 45) from fun z => c (by rw [← lk_0 (K := K) eb]; exact z.2)), lk_0 eb]
    unfold tak
    by_cases c2 : K s.at = 3
    · have v0 := nv_0 R hi c2
      rw [if_pos c2, tk_1 eb c2, if_pos c2]
      have ST := SR_ok (P := P) (i := s.at) (j := s.at + 1) (n := tE 12 (P s.at) (V s.at)) (cs := .leaf ()) (s1 := (s.uA (s.at + 1)).dft 12 (Int32.ofNat (P s.at)) (1 * Int32.ofInt (V s.at))) (s := s) (a := s.dr) (pSm_t uA_m (dft_m (Nat.le_refl _))) rfl eb rfl rfl (dq_m0 (cs := .leaf ()) dft_n (by rw [tE_K (by decide)]; rfl) (by rw [tE_P (by decide) (by omega)]) (by rw [tE_V (by decide) (by omega), nv_1 v0.1 v0.2]) d12 rfl rfl trivial)
      rw [dOf_0 d12] at ST
      exact ST
    · rw [if_neg c2, tk_0 eb c2]
      exact SR_no (pSm_t ko_m (dft_m (Nat.le_refl _))) rfl rfl rfl (by show s.dr ≤ s.dr + 1; omega) (by show s.dr + 1 ≤ _; omega) (Or.inr ⟨_, rfl, by show s.dr < s.dr + 1; omega⟩)
theorem nb_b (b : s.bd = true) : s.nb K P V true = s.dft 12 (Int32.ofNat (P s.at)) (1 * 0) := by
  have e1 : s.n1 K P true = s := by unfold pst.n1; rw [if_neg (fun z => by rw [lk_b b] at z; exact absurd z.2 (by decide))]
  unfold pst.nb
  rw [e1, tk_b b, if_neg (fun z => by rw [lk_b b] at z; exact absurd z.2 (by decide)), lk_b b, if_neg (by decide)]
theorem nb_d (R : RTK h m K P V) (hi : s.at < m) : (s.nb K P V true).dr = s.dr + 1 ∧ pSm s.dr s (s.nb K P V true) ∧ (s.nb K P V true).at < m := by
  cases b : s.bd with
  | true => rw [nb_b b]; exact ⟨rfl, dft_m (Nat.le_refl _), hi⟩
  | false =>
    have S := nb_lim R hi b
    have gb := pLim_b (P := P) (V := V) R.M hi
    obtain ⟨S1, S2, S3⟩ := S
    refine ⟨?_, S1, by rw [S2]; exact gb.2.1⟩
    show ((s.n1 K P true).tk K P 3).dr + 1 = _
    have e1 : (s.n1 K P true).dr = s.dr := by
      unfold pst.n1 pst.tk
      split
      · split
        · rfl
        · split <;> rfl
      · rfl
    rw [← e1]
    generalize s.n1 K P true = s1
    unfold pst.tk
    split
    · rfl
    · split <;> rfl
theorem tk_d {c : Int32} : (s.tk K P c).dr = s.dr ∧ (∀ a, pSm a s (s.tk K P c)) := by
  unfold pst.tk
  split
  · exact ⟨rfl, fun _ => pSm_r⟩
  · split
    · exact ⟨rfl, fun _ => uA_m⟩
    · exact ⟨rfl, fun _ => ko_m⟩
theorem tk_a (hm : tkM K m) (hi : s.at < m) {c : Int32} (h0 : c ≠ 0) (h1 : c ≠ 1) : (s.tk K P c).at < m := by
  unfold pst.tk
  split
  · exact hi
  · split
    · rename_i q
      exact tkM_s hm hi q h0 h1
    · exact hi
/-- any, alone -/
theorem f_an0 (R : RTK h m K P V) (hi : s.at < m) (eb : s.bd = false) (hr : s.dr + 8 ≤ 52000) (c1 : K s.at = 11) (c2 : ¬ K (s.at + 1) = 40) : ∃ s' v, SR P (s.at + 1, some (tL (tE 16 (P s.at) 0))) s.at s.dr s s' v ∧ ∀ Q, mcall (D + 4) 320 [.ref 81, .int (Int32.ofNat d)] (pH h s) Q = Q (some (.int v)) (pH h s') := by
  have hp := (R.p _ hi).2
  have hm := R.m
  have h1 := tkM_s R.M hi c1 (by decide) (by decide)
  have g := R.F.g 81 14 70 (by decide +kernel)
  have r1 := R.F.f 81 5 84 (by decide +kernel)
  have g1 := R.F.g 84 100 16402 (by decide +kernel)
  have l1 := R.F.l 84 100 16402 (by decide +kernel)
  have e := (R.p _ hi).1
  have n2 : ((307 : Int32) = 3) = False := by decide
  have n3 : ((307 : Int32) = 2) = False := by decide
  have n4 : ((307 : Int32) = 45) = False := by decide
  have n5 : ((307 : Int32) = 307) = True := by decide
  have q0 := c_310 (D := D + 3) R hi
  rw [lk_0 eb, c1] at q0
  have q0' : ∀ Q, mcall (D + 3) 310 [.ref 81] (pH h s) Q = Q (some (.int 307)) (pH h s) := q0
  have q1 := c_313 (D := D + 3) (s := s) R.F (by omega) (k := 16) (p := Int32.ofNat (P s.at)) (v := 0)
  obtain ⟨s1, hs1⟩ : ∃ x : pst, x = s.dft 16 (Int32.ofNat (P s.at)) 0 := ⟨_, rfl⟩
  rw [← hs1] at q1
  have at1 : s1.at = s.at := by rw [hs1]; rfl
  have bd1 : s1.bd = false := by rw [hs1]; exact eb
  have q2 := c_312 (D := D + 2) (s := s1) R (by omega) (c := 11) (y := 307) (by decide) rfl (by decide)
  rw [tk_1 bd1 (by rw [at1]; exact c1), at1] at q2
  obtain ⟨s2, hs2⟩ : ∃ x : pst, x = s1.uA (s.at + 1) := ⟨_, rfl⟩
  rw [← hs2] at q2
  have at2 : s2.at = s.at + 1 := by rw [hs2]; rfl
  have bd2 : s2.bd = false := by rw [hs2]; exact bd1
  have q3 := c_310 (D := D + 3) (s := s2) R (by omega)
  rw [lk_0 bd2, at2] at q3
  have l3 : (rkd (K (s.at + 1)) = 40) = False := by rw [rk_e (R.k _ h1).2 (c := 40) (y := 40) (by decide) rfl]; exact eq_false c2
  have c0 : dSc (tE 16 (P s.at) 0) (.leaf ()) = 0 := by unfold dSc; rw [tE_K (by decide)]; rfl
  have ST := SR_ok (P := P) (i := s.at) (j := s.at + 1) (n := tE 16 (P s.at) 0) (cs := .leaf ()) (s1 := s2) (s := s) (a := s.dr) (by rw [hs2, hs1]; exact pSm_t (dft_m (Nat.le_refl _)) uA_m) at2 bd2 (by rw [hs2, hs1]; rfl) (by rw [hs2, hs1]; rfl) (by rw [hs2, hs1]; exact dq_m0 (cs := .leaf ()) (dft_n (s := s)) (by rw [tE_K (by decide)]; rfl) (by rw [tE_P (by decide) (by omega)]) (by rw [tE_V (by decide) (by omega)]; rfl) c0 rfl rfl trivial)
  rw [dOf_0 c0] at ST
  refine ⟨_, _, ST, fun Q => ?_⟩
  clear R q0 ST
  simp (disch := omega) only [s_320_0, s_320_1, s_320_4, s_320_5, s_320_6, s_320_7, s_320_10, s_320_11, s_320_12, s_320_15, s_320_16, s_320_17, s_320_18, s_320_21, s_320_22, s_320_25, s_320_26, s_320_29, s_320_30, s_320_31, s_320_32, s_320_35, s_320_37, s_320_38, s_320_41, s_320_43, s_320_46, s_320_48, s_320_49, s_320_50, s_320_52, s_320_53, s_320_54, s_320_57, s_320_59, s_320_60, s_320_62, s_320_64, s_320_67, s_320_68, s_320_70, s_320_73, s_320_74, s_320_76, s_320_77, s_320_80, s_320_83, s_320_84, s_320_87, s_320_88, s_320_89, s_320_90, s_320_91, s_320_94, s_320_97, s_320_98, s_320_100, s_320_103, s_320_105, s_320_106, s_320_107, s_320_109, s_320_112, s_320_113, s_320_115, s_320_116, s_320_119, s_320_120, s_320_123, s_320_124, s_320_125, s_320_128, s_320_129, s_320_130, s_320_132, s_320_135, s_320_136, s_320_137, s_320_138, s_320_139, s_320_142, s_320_143, s_320_144, s_320_145, s_320_148, s_320_151, s_320_152, s_320_155, s_320_156, s_320_157, s_320_158, s_320_159, s_320_162, s_320_165, s_320_166, s_320_167, s_320_168, s_320_171, s_320_174, s_320_175, s_320_177, s_320_178, s_320_181, s_320_182, s_320_185, s_320_186, s_320_187, s_320_190, s_320_191, s_320_192, s_320_195, s_320_198, s_320_199, s_320_202, s_320_204, s_320_207, s_320_208, s_320_210, s_320_213, s_320_214, s_320_215, s_320_216, s_320_217, s_320_220, s_320_223, s_320_224, s_320_226, s_320_229, s_320_230, s_320_231, s_320_232, s_320_233, s_320_236, s_320_239, s_320_240, s_320_242, s_320_245, s_320_246, s_320_247, s_320_248, s_320_250, s_320_253, s_320_254, s_320_257, s_320_260, s_320_261, s_320_264, s_320_265, s_320_266, s_320_267, s_320_268, s_320_271, s_320_272, s_320_273, s_320_275, s_320_278, s_320_279, e_320, mv_i_1, mv_l_1, mv_a_1, mv_a_2, mv_a_3, mk2_n, mk2_i, mk2_l, mk2_a, mk2_u, mk2_x, mB_T, mB_F, mS_cons, mS_nil, mSB_T, mSB_F, mca_nil, mca_i, mca_l, mca_r, mca_u, mca_x, mcat_i, mcat_l, mcat_r, mcat_u, mcat_x, mK_some, mK_none, va_rf_s, va_rf_n, lgc_eq, lgc_lt, lgc_gt, lgc_ge, lgc_le, mrd_104, mrd_105, mrd_106, mrd_107, true_and, and_true, and_self, false_and, and_false, true_or, or_true, false_or, or_false, not_true_eq_false, not_false_eq_true, mgb, mga, mgr, mN, reduceCtorEq, ↓reduceIte, eq_self, ge_iff_le, gt_iff_lt, Nat.reduceAdd, Nat.reduceMul, Nat.reduceSub, Nat.reduceLT, Nat.reduceGT, Nat.reduceEqDiff, Nat.reduceLeDiff, Nat.left_eq_add, Nat.add_eq_left, Nat.reduceMod, Nat.reduceDiv, Nat.succ_ne_self, pH_g, pH_r, pH_l, g, r1, g1, l1, pH_8, pH_84, nn_mxT, nn_clamp, e, q0', n2, n3, n4, n5, q1, q2, q3, l3, Nat.add_zero]
/-- any with limits -/
theorem f_any (R : RTK h m K P V) (hi : s.at < m) (eb : s.bd = false) (hr : s.dr + 2 * (m - s.at) + 8 ≤ 52000) (c1 : K s.at = 11) (c2 : K (s.at + 1) = 40) : ∃ s' v, SR P (bnd (pLim K P V (s.at + 2)) fun a j => tak K 44 j (bnd (pLim K P V (j + 1)) fun b k => tak K 41 k (k + 1, some (tNd (tE 16 (P s.at) 0) (tA a b))))) s.at s.dr s s' v ∧ ∀ Q, mcall (D + 4) 320 [.ref 81, .int (Int32.ofNat d)] (pH h s) Q = Q (some (.int v)) (pH h s') := by
  have hp := (R.p _ hi).2
  have hm := R.m
  have h1 := tkM_s R.M hi c1 (by decide) (by decide)
  have h2 := tkM_s R.M h1 c2 (by decide) (by decide)
  have g := R.F.g 81 14 70 (by decide +kernel)
  have r1 := R.F.f 81 5 84 (by decide +kernel)
  have g1 := R.F.g 84 100 16402 (by decide +kernel)
  have l1 := R.F.l 84 100 16402 (by decide +kernel)
  have e := (R.p _ hi).1
  have n2 : ((307 : Int32) = 3) = False := by decide
  have n3 : ((307 : Int32) = 2) = False := by decide
  have n4 : ((307 : Int32) = 45) = False := by decide
  have n5 : ((307 : Int32) = 307) = True := by decide
  have n6 : ((40 : Int32) = 40) = True := by decide
  have q0 := c_310 (D := D + 3) R hi
  rw [lk_0 eb, c1] at q0
  have q0' : ∀ Q, mcall (D + 3) 310 [.ref 81] (pH h s) Q = Q (some (.int 307)) (pH h s) := q0
  have q1 := c_313 (D := D + 3) (s := s) R.F (by omega) (k := 16) (p := Int32.ofNat (P s.at)) (v := 0)
  obtain ⟨s1, hs1⟩ : ∃ x : pst, x = s.dft 16 (Int32.ofNat (P s.at)) 0 := ⟨_, rfl⟩
  rw [← hs1] at q1
  have at1 : s1.at = s.at := by rw [hs1]; rfl
  have bd1 : s1.bd = false := by rw [hs1]; exact eb
  have q2 := c_312 (D := D + 2) (s := s1) R (by omega) (c := 11) (y := 307) (by decide) rfl (by decide)
  rw [tk_1 bd1 (by rw [at1]; exact c1), at1] at q2
  obtain ⟨s2, hs2⟩ : ∃ x : pst, x = s1.uA (s.at + 1) := ⟨_, rfl⟩
  rw [← hs2] at q2
  have at2 : s2.at = s.at + 1 := by rw [hs2]; rfl
  have bd2 : s2.bd = false := by rw [hs2]; exact bd1
  have q3 := c_310 (D := D + 3) (s := s2) R (by omega)
  rw [lk_0 bd2, at2, c2] at q3
  have q3' : ∀ Q, mcall (D + 3) 310 [.ref 81] (pH h s2) Q = Q (some (.int 40)) (pH h s2) := q3
  have q4 := c_312 (D := D + 2) (s := s2) R (by omega) (c := 40) (y := 40) (by decide) rfl (by decide)
  rw [tk_1 bd2 (by rw [at2]; exact c2), at2] at q4
  obtain ⟨s3, hs3⟩ : ∃ x : pst, x = s2.uA (s.at + 1 + 1) := ⟨_, rfl⟩
  rw [← hs3] at q4
  have at3 : s3.at = s.at + 2 := by rw [hs3]; rfl
  have bd3 : s3.bd = false := by rw [hs3]; exact bd2
  have fl3 : s3.fl = s.fl := by rw [hs3, hs2, hs1]; rfl
  have dr3 : s3.dr = s.dr + 1 := by rw [hs3, hs2, hs1]; rfl
  have m3 : pSm s.dr s s3 := by rw [hs3, hs2, hs1]; exact pSm_t (pSm_t (dft_m (Nat.le_refl _)) uA_m) uA_m
  have a3 : nf s3 s.dr 16 (Int32.ofNat (P s.at)) 0 (-1) (-1) (-1) := by rw [hs3, hs2, hs1]; exact dft_n (s := s)
  -- the first limit
  have q5 := c_316 (D := D + 1) (s := s3) R (by omega) (by omega) (lim := true)
  have q5' : ∀ Q, mcall (D + 3) 316 [.ref 81, .int 1] (pH h s3) Q = Q (some (.int (Int32.ofNat (s.dr + 1)))) (pH h (s3.nb K P V true)) := by rw [← dr3]; exact q5
  have S4 := nb_lim R (by omega : s3.at < m) bd3
  obtain ⟨d4, m4, x4⟩ := nb_d (V := V) R (by omega : s3.at < m)
  generalize s3.nb K P V true = s4 at *
  have a4 := nf_S a3 m4 (by omega)
  have q6 := c_314 (D := D + 3) (s := s4) R.F (o := s.dr) (y := s.dr + 1) (by omega) (by omega) (fun z => absurd a4.2.2.2.1 z)
  obtain ⟨f1, f2, f3, f4⟩ := jn_f (s := s4) (o := s.dr) (y := s.dr + 1)
  obtain ⟨s5, hs5⟩ : ∃ x : pst, x = s4.jn s.dr (s.dr + 1) := ⟨_, rfl⟩
  rw [← hs5] at q6 f1 f2 f3 f4
  have a5 : nf s5 s.dr 16 (Int32.ofNat (P s.at)) 0 (Int32.ofNat (s.dr + 1)) (Int32.ofNat (s.dr + 1)) (-1) := by rw [hs5]; exact jn1_n a4
  have E5 : ∀ z, z ≠ s.dr → pE s4 s5 z := fun z hz => by rw [hs5]; exact jn1_E a4 hz
  have q7 := c_312 (D := D + 2) (s := s5) R (by omega) (c := 44) (y := 44) (by decide) rfl (by decide)
  obtain ⟨t1, t2⟩ := tk_d (s := s5) (K := K) (P := P) (c := 44)
  have x6 := tk_a (P := P) (c := 44) R.M (by omega : s5.at < m) (by decide) (by decide)
  obtain ⟨s6, hs6⟩ : ∃ x : pst, x = s5.tk K P 44 := ⟨_, rfl⟩
  rw [← hs6] at q7 t1 t2 x6
  have a6 := nf_S a5 (t2 (s.dr + 1)) (by omega)
  -- the second one
  have q8 := c_316 (D := D + 1) (s := s6) R x6 (by omega) (lim := true)
  have q8' : ∀ Q, mcall (D + 3) 316 [.ref 81, .int 1] (pH h s6) Q = Q (some (.int (Int32.ofNat (s.dr + 2)))) (pH h (s6.nb K P V true)) := by rw [show s.dr + 2 = s6.dr from by omega]; exact q8
  obtain ⟨d7, m7, x7⟩ := nb_d (V := V) R x6
  obtain ⟨s7, hs7⟩ : ∃ x : pst, x = s6.nb K P V true := ⟨_, rfl⟩
  rw [← hs7] at q8' d7 m7 x7
  have a7 := nf_S a6 m7 (by omega)
  have nF : ¬ Int32.ofNat (s.dr + 1) = -1 := ofn_m (by omega)
  have q9 := c_314 (D := D + 3) (s := s7) R.F (o := s.dr) (y := s.dr + 2) (by omega) (by omega) (fun _ => ⟨s.dr + 1, by omega, a7.2.2.2.2.1⟩)
  obtain ⟨j1, j2, j3, j4⟩ := jn_f (s := s7) (o := s.dr) (y := s.dr + 2)
  obtain ⟨s8, hs8⟩ : ∃ x : pst, x = s7.jn s.dr (s.dr + 2) := ⟨_, rfl⟩
  rw [← hs8] at q9 j1 j2 j3 j4
  have a8 : nf s8 s.dr 16 (Int32.ofNat (P s.at)) 0 (Int32.ofNat (s.dr + 1)) (Int32.ofNat (s.dr + 2)) (-1) := by rw [hs8]; exact jn2_n a7 nF (by omega) (by omega)
  have E8 : ∀ z, z ≠ s.dr → z ≠ s.dr + 1 → pE s7 s8 z := fun z z1 z2 => by rw [hs8]; exact jn2_E a7 nF (by omega) z1 z2
  have X8 := jn2_x (y := s.dr + 2) a7 nF (by omega)
  rw [← hs8] at X8
  have q10 := c_312 (D := D + 2) (s := s8) R (by omega) (c := 41) (y := 41) (by decide) rfl (by decide)
  obtain ⟨u1, u2⟩ := tk_d (s := s8) (K := K) (P := P) (c := 41)
  have m8 : pSm s.dr s s8 := fun y hy => pE_t (m3 y hy) (pE_t (m4 y (by omega)) (pE_t (E5 y (by omega)) (pE_t (t2 s.dr y hy) (pE_t (m7 y (by omega)) (E8 y (by omega) (by omega))))))
  refine ⟨s8.tk K P 41, Int32.ofNat s.dr, ?_, fun Q => ?_⟩
  · clear q0 q0' q1 q2 q3 q3' q4 q5 q5' q6 q7 q8 q8' q9 q10 e g r1 g1 l1
    rw [at3, dr3] at S4
    have gb := pLim_b (P := P) (V := V) R.M h2
    generalize pLim K P V (s.at + 2) = r at *
    obtain ⟨j, o⟩ := r
    obtain ⟨gb1, gb2, gb3⟩ := gb
    have gb1' : s.at + 2 ≤ j := gb1
    have gb2' : j < m := gb2
    obtain ⟨S1, S2, S3⟩ := S4
    have S2' : s4.at = j := S2
    rcases S3 with ⟨n, cs, o1, bd4, fl4, dr4, t4, vv⟩ | ⟨o1, bd4, fl4, dr4, dr4', vv⟩
    · have o1' : o = some (tNd n cs) := o1
      subst o1'
      have cs0 : ts cs = 0 := by omega
      show SR P (tak K 44 j _) s.at s.dr s _ _
      unfold tak
      by_cases c : K j = 44
      · rw [if_pos c]
        have h3 := tkM_s R.M gb2' c (by decide) (by decide)
        have e6 : s6 = s5.uA (j + 1) := by rw [hs6, tk_1 (f2.trans bd4) (by rw [f1, S2']; exact c), f1, S2']
        have at6 : s6.at = j + 1 := by rw [e6]; rfl
        have bd6 : s6.bd = false := by rw [e6]; exact f2.trans bd4
        have S7 := nb_lim R x6 bd6
        rw [← hs7, at6, show s6.dr = s.dr + 2 from by omega] at S7
        have gc := pLim_b (P := P) (V := V) R.M h3
        generalize pLim K P V (j + 1) = r at *
        obtain ⟨k, o⟩ := r
        obtain ⟨gc1, gc2, gc3⟩ := gc
        have gc1' : j + 1 ≤ k := gc1
        have gc2' : k < m := gc2
        obtain ⟨T1, T2, T3⟩ := S7
        have T2' : s7.at = k := T2
        rcases T3 with ⟨n', cs', o2, bd7, fl7, dr7, t7, vv'⟩ | ⟨o2, bd7, fl7, dr7, dr7', vv'⟩
        · have o2' : o = some (tNd n' cs') := o2
          subst o2'
          have cs0' : ts cs' = 0 := by omega
          have od : dOf n cs = 0 := by have := dOf_b (n := n) (cs := cs); omega
          have od' : dOf n' cs' = 0 := by have := dOf_b (n := n') (cs := cs'); omega
          have c0 : dSc (tE 16 (P s.at) 0) (tA (tNd n cs) (tNd n' cs')) = 0 := by unfold dSc; rw [tE_K (by decide)]; rfl
          have t4' : s7.dq (tNd n cs) true (s.dr + 1) (-1) := dq_S t4 (fun y y1 y2 => by
            rw [dSz_N, cs0] at y2
            exact pE_t (E5 y (by omega)) (pE_t (t2 (s.dr + 2) y (by omega)) (m7 y (by omega))))
          have t8 : s8.dq (tNd n cs) true (s.dr + 1) (Int32.ofNat (s.dr + 2)) := by
            refine dq_n (x := -1) (fun y y1 y2 => ?_) ?_ t4'
            · obtain ⟨z1, z2, z3, z4, z5⟩ := X8.2 y
              exact ⟨z1, z2, z3, z4, fun q => z5 (by omega)⟩
            · rw [od]; exact X8.1
          have t9 : s8.dq (tNd n' cs') true (s.dr + 2) (-1) := dq_S t7 (fun y y1 y2 => by
            rw [dSz_N, cs0'] at y2
            exact E8 y (by omega) (by omega))
          have dt : s8.dq (tNd (tE 16 (P s.at) 0) (tA (tNd n cs) (tNd n' cs'))) true s.dr (-1) := by
            refine dq_m0 (cs := tA (tNd n cs) (tNd n' cs')) a8 (by rw [tE_K (by decide)]; rfl) (by rw [tE_P (by decide) (by omega)]) (by rw [tE_V (by decide) (by omega)]; rfl) c0 ?_ rfl ?_
            · show _ = Int32.ofNat (s.dr + 1 + dOf n cs); rw [od]
            · refine dq_A (r := .leaf ()) ?_ ?_
              · rw [cs0]; show s8.dq (tNd n cs) true (s.dr + 1) (Int32.ofNat (s.dr + 1 + (1 + 0) + dOf n' cs')); rw [od']; exact t8
              · rw [cs0]; exact dq_1 t9
          have ST := SR_tk (K := K) (P := P) (c := 41) (i := s.at) m8 (j1.trans T2') (j2.trans bd7) (by rw [j3, fl7, e6]; show s5.fl = _; rw [f3, fl4]; exact fl3) (by rw [j4, dr7]; show _ = s.dr + (1 + (1 + ts cs + (1 + ts cs' + 0))); omega) dt (by show 1 + (1 + ts cs + (1 + ts cs' + 0)) ≤ _; omega)
          rw [dOf_0 c0] at ST
          exact ST
        · have o2' : o = none := o2
          subst o2'
          rw [tk_b (j2.trans bd7)]
          exact SR_no m8 (j1.trans T2') (j2.trans bd7) (j3.trans fl7) (by omega) (by omega) (Or.inr ⟨_, rfl, by omega⟩)
      · rw [if_neg c]
        have e6 : s6 = s5.ko (P j) := by rw [hs6, tk_0 (f2.trans bd4) (by rw [f1, S2']; exact c), f1, S2']
        have bd6 : s6.bd = true := by rw [e6]; rfl
        have e7 := nb_b (K := K) (P := P) (V := V) bd6
        rw [← hs7] at e7
        have bd8 : s8.bd = true := by rw [j2, e7]; exact bd6
        rw [tk_b bd8]
        exact SR_no m8 (by rw [j1, e7]; show s6.at = _; rw [e6]; exact f1.trans S2') bd8 (by rw [j3, e7]; show s6.fl = _; rw [e6]; rfl) (by omega) (by omega) (Or.inr ⟨_, rfl, by omega⟩)
    · have o1' : o = none := o1
      subst o1'
      show SR P (j, none) s.at s.dr s _ _
      have bd5 : s5.bd = true := f2.trans bd4
      have e6 : s6 = s5 := by rw [hs6, tk_b bd5]
      have e7 := nb_b (K := K) (P := P) (V := V) (s := s6) (by rw [e6]; exact bd5)
      rw [← hs7] at e7
      have bd8 : s8.bd = true := by rw [j2, e7]; show s6.bd = true; rw [e6]; exact bd5
      rw [tk_b bd8]
      exact SR_no m8 (by rw [j1, e7]; show s6.at = _; rw [e6]; exact f1.trans S2') bd8 (by rw [j3, e7]; show s6.fl = _; rw [e6, f3]; exact fl4) (by omega) (by omega) (Or.inr ⟨_, rfl, by omega⟩)
  · clear R q0 q3 q5 q8 S4 m3 m4 m7 m8 a3 a4 a5 a6 a7 a8 E5 E8 X8 t2 u2
    simp (disch := omega) only [s_320_0, s_320_1, s_320_4, s_320_5, s_320_6, s_320_7, s_320_10, s_320_11, s_320_12, s_320_15, s_320_16, s_320_17, s_320_18, s_320_21, s_320_22, s_320_25, s_320_26, s_320_29, s_320_30, s_320_31, s_320_32, s_320_35, s_320_37, s_320_38, s_320_41, s_320_43, s_320_46, s_320_48, s_320_49, s_320_50, s_320_52, s_320_53, s_320_54, s_320_57, s_320_59, s_320_60, s_320_62, s_320_64, s_320_67, s_320_68, s_320_70, s_320_73, s_320_74, s_320_76, s_320_77, s_320_80, s_320_83, s_320_84, s_320_87, s_320_88, s_320_89, s_320_90, s_320_91, s_320_94, s_320_97, s_320_98, s_320_100, s_320_103, s_320_105, s_320_106, s_320_107, s_320_109, s_320_112, s_320_113, s_320_115, s_320_116, s_320_119, s_320_120, s_320_123, s_320_124, s_320_125, s_320_128, s_320_129, s_320_130, s_320_132, s_320_135, s_320_136, s_320_137, s_320_138, s_320_139, s_320_142, s_320_143, s_320_144, s_320_145, s_320_148, s_320_151, s_320_152, s_320_155, s_320_156, s_320_157, s_320_158, s_320_159, s_320_162, s_320_165, s_320_166, s_320_167, s_320_168, s_320_171, s_320_174, s_320_175, s_320_177, s_320_178, s_320_181, s_320_182, s_320_185, s_320_186, s_320_187, s_320_190, s_320_191, s_320_192, s_320_195, s_320_198, s_320_199, s_320_202, s_320_204, s_320_207, s_320_208, s_320_210, s_320_213, s_320_214, s_320_215, s_320_216, s_320_217, s_320_220, s_320_223, s_320_224, s_320_226, s_320_229, s_320_230, s_320_231, s_320_232, s_320_233, s_320_236, s_320_239, s_320_240, s_320_242, s_320_245, s_320_246, s_320_247, s_320_248, s_320_250, s_320_253, s_320_254, s_320_257, s_320_260, s_320_261, s_320_264, s_320_265, s_320_266, s_320_267, s_320_268, s_320_271, s_320_272, s_320_273, s_320_275, s_320_278, s_320_279, e_320, mv_i_1, mv_l_1, mv_a_1, mv_a_2, mv_a_3, mk2_n, mk2_i, mk2_l, mk2_a, mk2_u, mk2_x, mB_T, mB_F, mS_cons, mS_nil, mSB_T, mSB_F, mca_nil, mca_i, mca_l, mca_r, mca_u, mca_x, mcat_i, mcat_l, mcat_r, mcat_u, mcat_x, mK_some, mK_none, va_rf_s, va_rf_n, lgc_eq, lgc_lt, lgc_gt, lgc_ge, lgc_le, mrd_104, mrd_105, mrd_106, mrd_107, true_and, and_true, and_self, false_and, and_false, true_or, or_true, false_or, or_false, not_true_eq_false, not_false_eq_true, mgb, mga, mgr, mN, reduceCtorEq, ↓reduceIte, eq_self, ge_iff_le, gt_iff_lt, Nat.reduceAdd, Nat.reduceMul, Nat.reduceSub, Nat.reduceLT, Nat.reduceGT, Nat.reduceEqDiff, Nat.reduceLeDiff, Nat.left_eq_add, Nat.add_eq_left, Nat.reduceMod, Nat.reduceDiv, Nat.succ_ne_self, pH_g, pH_r, pH_l, g, r1, g1, l1, pH_8, pH_84, nn_mxT, nn_clamp, e, q0', n2, n3, n4, n5, q1, q2, q3', n6, q4, q5', q6, q7, q8', q9, q10]
end PKs
section PLs
variable {f : Nat} {h : mh_H} {m : Nat} {K : Nat → Int32} {P : Nat → Nat} {V : Nat → Int}
/-- FACTOR -/
theorem f_fac (R : RTK h m K P V) (i0 : PE0 h m K P V f) (i2 : PE2 h m K P V f) : PE2 h m K P V (f + 1) := by
  intro d D s hf hi eb hd hD hr
  obtain ⟨D, rfl⟩ : ∃ D', D = D' + 4 := ⟨D - 4, by omega⟩
  rw [pgX_2]
  by_cases c1 : K s.at = 3
  · rw [if_pos c1]; exact f_num R hi eb (by omega) c1
  rw [if_neg c1]
  by_cases c2 : K s.at = 2
  · rw [if_pos c2]
    by_cases c3 : K (s.at + 1) = 91
    · rw [if_pos c3]; exact f_cel R i0 hf hi eb hd hD hr c2 c3
    · rw [if_neg c3]; exact f_nam R hi eb (by omega) c2 c3
  rw [if_neg c2]
  by_cases c3 : K s.at = 45
  · rw [if_pos c3]; exact f_neg R i2 hf hi eb hd hD hr c3
  rw [if_neg c3]
  by_cases c4 : K s.at = 11
  · rw [if_pos c4]
    by_cases c5 : K (s.at + 1) = 40
    · rw [if_pos c5]; exact f_any R hi eb hr c4 c5
    · rw [if_neg c5]; exact f_an0 R hi eb (by omega) c4 c5
  rw [if_neg c4]
  exact f_par R i0 hf hi eb hd hD hr c1 c2 c3 c4
end PLs
