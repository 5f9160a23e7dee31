set_option maxRecDepth 100000
/-! THE REFERENCE'S PARSER: NAME = .. -/
section HDs
variable {D f N : Nat} {h : mh_H} {m : Nat} {K : Nat → Int32} {P : Nat → Nat} {V : Nat → Int} {s : pst} {d : Nat}
/-- NAME = SUM, NAME = a call -/
theorem n_set (R : RTK h m K P V) (hN : 8 * m + 6 ≤ N) (hi : s.at < m) (eb : s.bd = false) (hd : d ≤ 60) (hD : 3 * (62 - d) + 14 ≤ D + 5) (hr : s.dr + 2 * (m - s.at) + 8 ≤ 52000) (c : K s.at = 2) (c1 : ¬ K (s.at + 1) = 40) (c2 : ¬ K (s.at + 1) = 91) : ∃ s' v, SR P (tak K 61 (s.at + 1) (
    if K (s.at + 2) = 2 ∧ K (s.at + 3) = 40 then bnd (pgS K P V N (d + 1) (s.at + 4)) fun r j => (j, some (tNd (tE 7 (P s.at) 0) (.branch (tE 13 (P s.at) s.at) (.leaf ()) (.branch (tE 13 (P (s.at + 2)) ((s.at + 2 : Nat) : Int)) (.leaf ()) r))))
    else bnd (pgX K P V N 0 (d + 1) (s.at + 2)) fun t j => (j, some (tNd (tE 5 (P s.at) 0) (.branch (tE 13 (P s.at) s.at) (.leaf ()) t))))) s.at s.dr s s' v ∧ ∀ Q, mcall (D + 5) 327 [.ref 81, .int (Int32.ofNat (P s.at)), .int (Int32.ofNat d)] (pH h s) Q = Q (some (.int v)) (pH h s') := by
  have hp := (R.p _ hi).2
  have hm := R.m
  have h1 := tkM_s R.M hi c (by decide) (by decide)
  have g := R.F.g 81 14 70 (by decide +kernel)
  have r1 := R.F.f 81 4 83 (by decide +kernel)
  have g1 := R.F.g 83 100 16402 (by decide +kernel)
  have l1 := R.F.l 83 100 16402 (by decide +kernel)
  have k0 : kb false = 0 := rfl
  have k1 : kb true = 1 := rfl
  have n1 : ((1 : Int32) = 0) = False := by decide
  have e1' : ∀ k, Int32.ofNat k + 1 = Int32.ofNat (k + 1) := fun k => nn_add (a := k) (b := 1)
  obtain ⟨w1, -, -⟩ := two_r (D := D + 2) (kk := 5) (p := Int32.ofNat (P s.at)) R hi eb (by omega) c
  have TF : ∀ kk : Int32, _ := fun kk => two_f (s := s) (P := P) (kk := kk) (p := Int32.ofNat (P s.at))
  obtain ⟨t1, t2, t3⟩ := tE_13 hp (k := 13) (i := s.at) (by decide) (by omega)
  obtain ⟨s1, hs1⟩ : ∃ x : pst, x = (s.dft 13 (Int32.ofNat (P s.at)) (Int32.ofNat s.at)).uA (s.at + 1) := ⟨_, rfl⟩
  rw [← hs1] at w1
  have at1 : s1.at = s.at + 1 := by rw [hs1]; rfl
  have bd1 : s1.bd = false := by rw [hs1]; exact eb
  have dr1 : s1.dr = s.dr + 1 := by rw [hs1]; rfl
  have q2 := c_310 (D := D + 4) (s := s1) R (by omega)
  rw [lk_0 bd1, at1] at q2
  have y1 : (rkd (K (s.at + 1)) = 40) = False := by rw [rk_e (R.k _ h1).2 (c := 40) (y := 40) (by decide) rfl]; exact eq_false c1
  have y2 : (rkd (K (s.at + 1)) = 91) = False := by rw [rk_e (R.k _ h1).2 (c := 91) (y := 91) (by decide) rfl]; exact eq_false c2
  have q3 := c_312 (D := D + 3) (s := s1) R (by omega) (c := 61) (y := 61) (by decide) rfl (by decide)
  by_cases c3 : K (s.at + 1) = 61
  · have h2 := tkM_s R.M h1 c3 (by decide) (by decide)
    rw [show ∀ r, tak K 61 (s.at + 1) r = r from fun r => if_pos c3]
    rw [tk_1 bd1 (by rw [at1]; exact c3), at1] at q3
    obtain ⟨s2, hs2⟩ : ∃ x : pst, x = s1.uA (s.at + 1 + 1) := ⟨_, rfl⟩
    rw [← hs2] at q3
    have at2 : s2.at = s.at + 2 := by rw [hs2]; rfl
    have bd2 : s2.bd = false := by rw [hs2]; exact bd1
    have dr2 : s2.dr = s.dr + 1 := by rw [hs2]; exact dr1
    have q4 := c_310 (D := D + 4) (s := s2) R (by omega)
    rw [lk_0 bd2, at2] at q4
    have nd : ∀ kk : Int32, (s2.dft kk (Int32.ofNat (P s.at)) 0).jn (s.dr + 1) s.dr = (s.two P kk (Int32.ofNat (P s.at))).uA (s.at + 2) := by
      intro kk
      rw [hs2, hs1]
      exact uA_jn (s := ((s.dft 13 (Int32.ofNat (P s.at)) (Int32.ofNat s.at)).uA (s.at + 1)).dft kk (Int32.ofNat (P s.at)) 0)
    have q5 : ∀ kk : Int32, ∀ Q, mcall (D + 4) 313 [.ref 81, .int kk, .int (Int32.ofNat (P s.at)), .int 0] (pH h s2) Q = Q (some (.int (Int32.ofNat (s.dr + 1)))) (pH h (s2.dft kk (Int32.ofNat (P s.at)) 0)) := fun kk => by
      have := c_313 (D := D + 4) (s := s2) R.F (by omega) (k := kk) (p := Int32.ofNat (P s.at)) (v := 0)
      rw [dr2] at this
      exact this
    have q6 : ∀ kk : Int32, ∀ Q, mcall (D + 4) 314 [.ref 81, .int (Int32.ofNat (s.dr + 1)), .int (Int32.ofNat s.dr)] (pH h (s2.dft kk (Int32.ofNat (P s.at)) 0)) Q = Q none (pH h ((s.two P kk (Int32.ofNat (P s.at))).uA (s.at + 2))) := fun kk => by
      rw [← nd]
      refine c_314 R.F (by omega) (by omega) (fun z => absurd ?_ z)
      have := (dft_n (s := s2) (k := kk) (p := Int32.ofNat (P s.at)) (v := 0)).2.2.2.1
      rw [dr2] at this
      exact this
    have GG : ∀ kk : Int32, GS P true ((s.two P kk (Int32.ofNat (P s.at))).uA (s.at + 2)) s.at s.dr (s.dr + 1) s.dr (s.dr + 2) (Int32.ofNat s.dr) kk (Int32.ofNat (P s.at)) 0 ((s.two P kk (Int32.ofNat (P s.at))).uA (s.at + 2)) (s.at + 2, some (.leaf ())) := fun kk => by
      obtain ⟨v1, v2, v3, v4, v5, v6, v7⟩ := TF kk
      exact GS_1 (s0 := (s.two P kk (Int32.ofNat (P s.at))).uA (s.at + 2)) (i := s.at) (j := s.at + 2) (a := s.dr) (by omega) rfl (v2.trans eb) v4 (by omega) (by omega) v6 v7.2.2.2.2.2
    have fin : ∀ (kk : Nat) (s' : pst) (x : pqr), kk = 5 ∨ kk = 7 → GS P true ((s.two P (Int32.ofNat kk) (Int32.ofNat (P s.at))).uA (s.at + 2)) s.at s.dr (s.dr + 1) s.dr (s.dr + 2) (Int32.ofNat s.dr) (Int32.ofNat kk) (Int32.ofNat (P s.at)) 0 s' x → SR P (bnd x fun r j => (j, some (tNd (tE kk (P s.at) 0) (.branch (tE 13 (P s.at) s.at) (.leaf ()) r)))) s.at s.dr s s' (Int32.ofNat (s.dr + 1)) := by
      intro kk s' x hk G
      obtain ⟨v1, v2, v3, v4, v5, v6, v7⟩ := TF (Int32.ofNat kk)
      have k64 : kk < 64 := by omega
      refine GS_e1 (n := tE kk (P s.at) 0) (mn := tE 13 (P s.at) s.at) G (pSm_t v5 uA_m) v3 (by rw [tE_K k64]) (by rw [tE_P k64 (by omega)]) (by rw [tE_V k64 (by omega)]; rfl) (fun r => ?_) ⟨v7.1, v7.2.1, v7.2.2.1, v7.2.2.2.1⟩ t1 t2 t3 d13
      unfold dSc
      rw [tE_K k64]
      rcases hk with z | z
      · subst z; rfl
      · subst z
        rw [if_pos rfl]
        show (if tK (tE 13 (P s.at) s.at) = 33 then 2 else 1) = 1
        rw [tE_K (by decide)]; rfl
    by_cases c4 : K (s.at + 2) = 2 ∧ K (s.at + 3) = 40
    · rw [if_pos c4]
      obtain ⟨c4, c5⟩ := c4
      have h3 := tkM_s R.M h2 c4 (by decide) (by decide)
      have h4 := tkM_s R.M h3 c5 (by decide) (by decide)
      have y3 : (rkd (K (s.at + 2)) = 2) = True := by rw [rk_e (R.k _ h2).2 (c := 2) (y := 2) (by decide) rfl]; exact eq_true c4
      have ek := (R.k _ h3).1
      have y4 : (rkd (K (s.at + 3)) = 40) = True := by rw [rk_e (R.k _ h3).2 (c := 40) (y := 40) (by decide) rfl]; exact eq_true c5
      have G4 := GG 7
      have q5' := q5 7
      have q6' := q6 7
      have bd4 : ((s.two P 7 (Int32.ofNat (P s.at))).uA (s.at + 2)).bd = false := (TF 7).2.1.trans eb
      have fn : ∀ s' x, GS P true ((s.two P 7 (Int32.ofNat (P s.at))).uA (s.at + 2)) s.at s.dr (s.dr + 1) s.dr (s.dr + 2) (Int32.ofNat s.dr) 7 (Int32.ofNat (P s.at)) 0 s' x → SR P (bnd x fun r j => (j, some (tNd (tE 7 (P s.at) 0) (.branch (tE 13 (P s.at) s.at) (.leaf ()) r)))) s.at s.dr s s' (Int32.ofNat (s.dr + 1)) := fun s' x => fin 7 s' x (Or.inr rfl)
      clear fin GG q5 q6 nd TF
      generalize (s.two P 7 (Int32.ofNat (P s.at))).uA (s.at + 2) = s4 at *
      obtain ⟨b5, s5, G5, z5⟩ := GS_sub (m := m) (Fp := fun j => tak K 2 j (j + 1, some (tL (tE 13 (P j) (j : Int))))) (M := 315) (D := D + 4) (ar := [.ref 81]) R.F G4 (by omega) h2 (fun y1 y2 y3 => ⟨_, _, nm_sr R y2 y1, c_315 (D := D + 2) R y2 (by omega)⟩) (fun j hj => nam_b R.M hj)
      obtain ⟨b6, s6, G6, z6⟩ := c_325 (D := D) (d := d) R hN hd (by omega) (by omega) G5 b5
      have ST := fn _ _ G6
      refine ⟨s6, Int32.ofNat (s.dr + 1), ?_, fun Q => ?_⟩
      · simp only [bnd_o, bnd_b, bnd_t, tC] at ST
        unfold tak at ST
        rw [if_pos c4, if_pos c5] at ST
        exact ST
      · clear R ST G4 G5 G6 b5 b6 fn
        rcases z5 with ⟨z, -⟩ | ⟨-, s8, v8, u1, u2⟩
        · rw [bd4] at z; cases z
        have u2' := u2 (D + 4)
        clear u2
        simp (disch := omega) only [s_327_0, s_327_1, s_327_4, s_327_5, s_327_6, s_327_9, s_327_11, s_327_14, s_327_15, s_327_17, s_327_18, s_327_19, s_327_22, s_327_24, s_327_25, s_327_27, s_327_28, s_327_30, s_327_31, s_327_32, s_327_35, s_327_38, s_327_39, s_327_41, s_327_42, s_327_45, s_327_46, s_327_48, s_327_49, s_327_52, s_327_54, s_327_55, s_327_56, s_327_59, s_327_61, s_327_64, s_327_65, s_327_67, s_327_68, s_327_69, s_327_72, s_327_74, s_327_75, s_327_77, s_327_78, s_327_81, s_327_82, s_327_84, s_327_87, s_327_88, s_327_90, s_327_91, s_327_94, s_327_97, s_327_98, s_327_101, s_327_102, s_327_103, s_327_104, s_327_105, s_327_108, s_327_111, s_327_112, s_327_114, s_327_117, s_327_118, s_327_120, s_327_123, s_327_124, s_327_126, s_327_127, s_327_130, s_327_133, s_327_134, s_327_137, s_327_138, s_327_139, s_327_140, s_327_141, s_327_144, s_327_147, s_327_149, s_327_150, s_327_151, s_327_153, s_327_156, s_327_157, s_327_160, s_327_161, s_327_164, s_327_165, s_327_168, s_327_169, s_327_172, s_327_173, s_327_174, s_327_175, s_327_177, s_327_180, s_327_181, s_327_183, s_327_184, s_327_185, s_327_188, s_327_190, s_327_191, s_327_193, s_327_194, s_327_197, s_327_198, s_327_200, s_327_201, s_327_204, s_327_207, s_327_208, s_327_210, s_327_211, s_327_214, s_327_216, s_327_217, s_327_218, s_327_219, s_327_220, s_327_221, s_327_224, s_327_226, s_327_227, s_327_229, s_327_230, s_327_233, s_327_234, s_327_236, s_327_237, s_327_240, s_327_243, s_327_244, s_327_247, s_327_248, s_327_249, s_327_250, s_327_251, s_327_254, s_327_257, s_327_259, e_327, mv_i_1, mv_l_1, mv_a_1, mv_a_2, mv_a_3, mk2_n, mk2_i, mk2_l, mk2_a, mk2_u, mk2_x, mB_T, mB_F, mS_cons, mS_nil, mSB_T, mSB_F, mca_nil, mca_i, mca_l, mca_r, mca_u, mca_x, mcat_i, mcat_l, mcat_r, mcat_u, mcat_x, mK_some, mK_none, va_rf_s, va_rf_n, lgc_eq, lgc_lt, lgc_gt, lgc_ge, lgc_le, mrd_104, mrd_105, mrd_106, mrd_107, true_and, and_true, and_self, false_and, and_false, true_or, or_true, false_or, or_false, not_true_eq_false, not_false_eq_true, mgb, mga, mgr, mN, reduceCtorEq, ↓reduceIte, eq_self, ge_iff_le, gt_iff_lt, Nat.reduceAdd, Nat.reduceMul, Nat.reduceSub, Nat.reduceLT, Nat.reduceGT, Nat.reduceEqDiff, Nat.reduceLeDiff, Nat.left_eq_add, Nat.add_eq_left, Nat.reduceMod, Nat.reduceDiv, Nat.succ_ne_self, pH_g, pH_r, pH_l, pH_8, pH_83, g, r1, g1, l1, w1, q2, y1, y2, q3, q4, y3, at2, e1', nn_mxT, nn_clamp, ek, y4, q5', q6', u1, u2', z6]
    · rw [if_neg c4]
      have G4 := GG 5
      have q5' := q5 5
      have q6' := q6 5
      have bd4 : ((s.two P 5 (Int32.ofNat (P s.at))).uA (s.at + 2)).bd = false := (TF 5).2.1.trans eb
      have fn : ∀ s' x, GS P true ((s.two P 5 (Int32.ofNat (P s.at))).uA (s.at + 2)) s.at s.dr (s.dr + 1) s.dr (s.dr + 2) (Int32.ofNat s.dr) 5 (Int32.ofNat (P s.at)) 0 s' x → SR P (bnd x fun r j => (j, some (tNd (tE 5 (P s.at) 0) (.branch (tE 13 (P s.at) s.at) (.leaf ()) r)))) s.at s.dr s s' (Int32.ofNat (s.dr + 1)) := fun s' x => fin 5 s' x (Or.inl rfl)
      clear fin GG q5 q6 nd TF
      generalize (s.two P 5 (Int32.ofNat (P s.at))).uA (s.at + 2) = s4 at *
      have at4 : s4.at = s.at + 2 := G4.2.1
      obtain ⟨b5, s5, G5, z5⟩ := GS_sub (m := m) (Fp := fun j => pgX K P V N 0 (d + 1) j) (M := 318) (D := D + 4) (ar := [.ref 81, .int (Int32.ofNat (d + 1))]) R.F G4 (by omega) h2 (fun y1 y2 y3 => (pe_all R N).1 (d + 1) (D + 4) s4 (by omega) y2 y1 (by omega) (by omega) y3) (fun j hj => pgX_b R.M N 0 (d + 1) j (by decide) hj)
      have ST := fn _ _ G5
      refine ⟨s5, Int32.ofNat (s.dr + 1), ?_, fun Q => ?_⟩
      · simp only [bnd_o, bnd_b, tC] at ST
        exact ST
      · rcases z5 with ⟨z, -⟩ | ⟨-, s8, v8, u1, u2⟩
        · rw [bd4] at z; cases z
        have u2' := u2 (D + 4)
        by_cases c5 : K (s.at + 2) = 2
        · have h3 := tkM_s R.M h2 c5 (by decide) (by decide)
          have y3 : (rkd (K (s.at + 2)) = 2) = True := by rw [rk_e (R.k _ h2).2 (c := 2) (y := 2) (by decide) rfl]; exact eq_true c5
          have ek := (R.k _ h3).1
          have y4 : (rkd (K (s.at + 3)) = 40) = False := by rw [rk_e (R.k _ h3).2 (c := 40) (y := 40) (by decide) rfl]; exact eq_false (fun z => c4 ⟨c5, z⟩)
          clear R ST G4 G5 b5 fn u2
          simp (disch := omega) only [s_327_0, s_327_1, s_327_4, s_327_5, s_327_6, s_327_9, s_327_11, s_327_14, s_327_15, s_327_17, s_327_18, s_327_19, s_327_22, s_327_24, s_327_25, s_327_27, s_327_28, s_327_30, s_327_31, s_327_32, s_327_35, s_327_38, s_327_39, s_327_41, s_327_42, s_327_45, s_327_46, s_327_48, s_327_49, s_327_52, s_327_54, s_327_55, s_327_56, s_327_59, s_327_61, s_327_64, s_327_65, s_327_67, s_327_68, s_327_69, s_327_72, s_327_74, s_327_75, s_327_77, s_327_78, s_327_81, s_327_82, s_327_84, s_327_87, s_327_88, s_327_90, s_327_91, s_327_94, s_327_97, s_327_98, s_327_101, s_327_102, s_327_103, s_327_104, s_327_105, s_327_108, s_327_111, s_327_112, s_327_114, s_327_117, s_327_118, s_327_120, s_327_123, s_327_124, s_327_126, s_327_127, s_327_130, s_327_133, s_327_134, s_327_137, s_327_138, s_327_139, s_327_140, s_327_141, s_327_144, s_327_147, s_327_149, s_327_150, s_327_151, s_327_153, s_327_156, s_327_157, s_327_160, s_327_161, s_327_164, s_327_165, s_327_168, s_327_169, s_327_172, s_327_173, s_327_174, s_327_175, s_327_177, s_327_180, s_327_181, s_327_183, s_327_184, s_327_185, s_327_188, s_327_190, s_327_191, s_327_193, s_327_194, s_327_197, s_327_198, s_327_200, s_327_201, s_327_204, s_327_207, s_327_208, s_327_210, s_327_211, s_327_214, s_327_216, s_327_217, s_327_218, s_327_219, s_327_220, s_327_221, s_327_224, s_327_226, s_327_227, s_327_229, s_327_230, s_327_233, s_327_234, s_327_236, s_327_237, s_327_240, s_327_243, s_327_244, s_327_247, s_327_248, s_327_249, s_327_250, s_327_251, s_327_254, s_327_257, s_327_259, e_327, mv_i_1, mv_l_1, mv_a_1, mv_a_2, mv_a_3, mk2_n, mk2_i, mk2_l, mk2_a, mk2_u, mk2_x, mB_T, mB_F, mS_cons, mS_nil, mSB_T, mSB_F, mca_nil, mca_i, mca_l, mca_r, mca_u, mca_x, mcat_i, mcat_l, mcat_r, mcat_u, mcat_x, mK_some, mK_none, va_rf_s, va_rf_n, lgc_eq, lgc_lt, lgc_gt, lgc_ge, lgc_le, mrd_104, mrd_105, mrd_106, mrd_107, true_and, and_true, and_self, false_and, and_false, true_or, or_true, false_or, or_false, not_true_eq_false, not_false_eq_true, mgb, mga, mgr, mN, reduceCtorEq, ↓reduceIte, eq_self, ge_iff_le, gt_iff_lt, Nat.reduceAdd, Nat.reduceMul, Nat.reduceSub, Nat.reduceLT, Nat.reduceGT, Nat.reduceEqDiff, Nat.reduceLeDiff, Nat.left_eq_add, Nat.add_eq_left, Nat.reduceMod, Nat.reduceDiv, Nat.succ_ne_self, pH_g, pH_r, pH_l, pH_8, pH_9, pH_83, g, r1, g1, l1, w1, q2, y1, y2, q3, q4, y3, at2, e1', nn_mxT, nn_clamp, ek, y4, q5', q6', bd4, k0, u1, u2']
        · have y3 : (rkd (K (s.at + 2)) = 2) = False := by rw [rk_e (R.k _ h2).2 (c := 2) (y := 2) (by decide) rfl]; exact eq_false c5
          clear R ST G4 G5 b5 fn u2
          simp (disch := omega) only [s_327_0, s_327_1, s_327_4, s_327_5, s_327_6, s_327_9, s_327_11, s_327_14, s_327_15, s_327_17, s_327_18, s_327_19, s_327_22, s_327_24, s_327_25, s_327_27, s_327_28, s_327_30, s_327_31, s_327_32, s_327_35, s_327_38, s_327_39, s_327_41, s_327_42, s_327_45, s_327_46, s_327_48, s_327_49, s_327_52, s_327_54, s_327_55, s_327_56, s_327_59, s_327_61, s_327_64, s_327_65, s_327_67, s_327_68, s_327_69, s_327_72, s_327_74, s_327_75, s_327_77, s_327_78, s_327_81, s_327_82, s_327_84, s_327_87, s_327_88, s_327_90, s_327_91, s_327_94, s_327_97, s_327_98, s_327_101, s_327_102, s_327_103, s_327_104, s_327_105, s_327_108, s_327_111, s_327_112, s_327_114, s_327_117, s_327_118, s_327_120, s_327_123, s_327_124, s_327_126, s_327_127, s_327_130, s_327_133, s_327_134, s_327_137, s_327_138, s_327_139, s_327_140, s_327_141, s_327_144, s_327_147, s_327_149, s_327_150, s_327_151, s_327_153, s_327_156, s_327_157, s_327_160, s_327_161, s_327_164, s_327_165, s_327_168, s_327_169, s_327_172, s_327_173, s_327_174, s_327_175, s_327_177, s_327_180, s_327_181, s_327_183, s_327_184, s_327_185, s_327_188, s_327_190, s_327_191, s_327_193, s_327_194, s_327_197, s_327_198, s_327_200, s_327_201, s_327_204, s_327_207, s_327_208, s_327_210, s_327_211, s_327_214, s_327_216, s_327_217, s_327_218, s_327_219, s_327_220, s_327_221, s_327_224, s_327_226, s_327_227, s_327_229, s_327_230, s_327_233, s_327_234, s_327_236, s_327_237, s_327_240, s_327_243, s_327_244, s_327_247, s_327_248, s_327_249, s_327_250, s_327_251, s_327_254, s_327_257, s_327_259, e_327, mv_i_1, mv_l_1, mv_a_1, mv_a_2, mv_a_3, mk2_n, mk2_i, mk2_l, mk2_a, mk2_u, mk2_x, mB_T, mB_F, mS_cons, mS_nil, mSB_T, mSB_F, mca_nil, mca_i, mca_l, mca_r, mca_u, mca_x, mcat_i, mcat_l, mcat_r, mcat_u, mcat_x, mK_some, mK_none, va_rf_s, va_rf_n, lgc_eq, lgc_lt, lgc_gt, lgc_ge, lgc_le, mrd_104, mrd_105, mrd_106, mrd_107, true_and, and_true, and_self, false_and, and_false, true_or, or_true, false_or, or_false, not_true_eq_false, not_false_eq_true, mgb, mga, mgr, mN, reduceCtorEq, ↓reduceIte, eq_self, ge_iff_le, gt_iff_lt, Nat.reduceAdd, Nat.reduceMul, Nat.reduceSub, Nat.reduceLT, Nat.reduceGT, Nat.reduceEqDiff, Nat.reduceLeDiff, Nat.left_eq_add, Nat.add_eq_left, Nat.reduceMod, Nat.reduceDiv, Nat.succ_ne_self, pH_g, pH_9, g, w1, q2, y1, y2, q3, q4, y3, q5', q6', bd4, k0, e1', u1, u2']
  · rw [show ∀ r, tak K 61 (s.at + 1) r = (s.at + 1, none) from fun r => if_neg c3]
    rw [tk_0 bd1 (by rw [at1]; exact c3), at1] at q3
    obtain ⟨s2, hs2⟩ : ∃ x : pst, x = s1.ko (P (s.at + 1)) := ⟨_, rfl⟩
    rw [← hs2] at q3
    have at2 : s2.at = s.at + 1 := by rw [hs2]; exact at1
    have bd2 : s2.bd = true := by rw [hs2]; rfl
    have fl2 : s2.fl = Int32.ofNat (P (s.at + 1)) := by rw [hs2]; rfl
    have dr2 : s2.dr = s.dr + 1 := by rw [hs2]; exact dr1
    have m2 : pSm s.dr s s2 := by rw [hs2, hs1]; exact pSm_t (pSm_t (dft_m (Nat.le_refl _)) uA_m) ko_m
    have q4 := c_310 (D := D + 4) (s := s2) R (by omega)
    rw [lk_b bd2] at q4
    have y3 : (rkd 1 = 2) = False := by decide
    have q5 := c_313 (D := D + 4) (s := s2) R.F (by omega) (k := 5) (p := Int32.ofNat (P s.at)) (v := 0)
    rw [dr2] at q5
    obtain ⟨s3, hs3⟩ : ∃ x : pst, x = s2.dft 5 (Int32.ofNat (P s.at)) 0 := ⟨_, rfl⟩
    rw [← hs3] at q5
    have n3 : nf s3 (s.dr + 1) 5 (Int32.ofNat (P s.at)) 0 (-1) (-1) (-1) := by rw [hs3, ← dr2]; exact dft_n
    have q6 := c_314 (D := D + 4) (s := s3) R.F (o := s.dr + 1) (y := s.dr) (by omega) (by omega) (fun z => absurd n3.2.2.2.1 z)
    obtain ⟨f1, f2, f3, f4⟩ := jn_f (s := s3) (o := s.dr + 1) (y := s.dr)
    obtain ⟨s4, hs4⟩ : ∃ x : pst, x = s3.jn (s.dr + 1) s.dr := ⟨_, rfl⟩
    rw [← hs4] at q6 f1 f2 f3 f4
    have bd4 : s4.bd = true := by rw [f2, hs3]; exact bd2
    have q7 := c_314n (D := D + 4) (h := h) (s := s4) (o := Int32.ofNat (s.dr + 1))
    have dr4 : s4.dr = s.dr + 2 := by rw [f4, hs3]; show s2.dr + 1 = _; omega
    refine ⟨s4, Int32.ofNat (s.dr + 1), SR_no (fun y hy => pE_t (m2 y hy) (pE_t (show pE s2 s3 y from by rw [hs3]; exact dft_E (by omega)) (show pE s3 s4 y from by rw [hs4]; exact jn1_E n3 (by omega)))) (by rw [f1, hs3]; exact at2) bd4 (by rw [f3, hs3]; exact fl2) (by omega) (by omega) (Or.inr ⟨_, rfl, by omega⟩), fun Q => ?_⟩
    clear R m2 n3 TF
    simp (disch := omega) only [s_327_0, s_327_1, s_327_4, s_327_5, s_327_6, s_327_9, s_327_11, s_327_14, s_327_15, s_327_17, s_327_18, s_327_19, s_327_22, s_327_24, s_327_25, s_327_27, s_327_28, s_327_30, s_327_31, s_327_32, s_327_35, s_327_38, s_327_39, s_327_41, s_327_42, s_327_45, s_327_46, s_327_48, s_327_49, s_327_52, s_327_54, s_327_55, s_327_56, s_327_59, s_327_61, s_327_64, s_327_65, s_327_67, s_327_68, s_327_69, s_327_72, s_327_74, s_327_75, s_327_77, s_327_78, s_327_81, s_327_82, s_327_84, s_327_87, s_327_88, s_327_90, s_327_91, s_327_94, s_327_97, s_327_98, s_327_101, s_327_102, s_327_103, s_327_104, s_327_105, s_327_108, s_327_111, s_327_112, s_327_114, s_327_117, s_327_118, s_327_120, s_327_123, s_327_124, s_327_126, s_327_127, s_327_130, s_327_133, s_327_134, s_327_137, s_327_138, s_327_139, s_327_140, s_327_141, s_327_144, s_327_147, s_327_149, s_327_150, s_327_151, s_327_153, s_327_156, s_327_157, s_327_160, s_327_161, s_327_164, s_327_165, s_327_168, s_327_169, s_327_172, s_327_173, s_327_174, s_327_175, s_327_177, s_327_180, s_327_181, s_327_183, s_327_184, s_327_185, s_327_188, s_327_190, s_327_191, s_327_193, s_327_194, s_327_197, s_327_198, s_327_200, s_327_201, s_327_204, s_327_207, s_327_208, s_327_210, s_327_211, s_327_214, s_327_216, s_327_217, s_327_218, s_327_219, s_327_220, s_327_221, s_327_224, s_327_226, s_327_227, s_327_229, s_327_230, s_327_233, s_327_234, s_327_236, s_327_237, s_327_240, s_327_243, s_327_244, s_327_247, s_327_248, s_327_249, s_327_250, s_327_251, s_327_254, s_327_257, s_327_259, e_327, mv_i_1, mv_l_1, mv_a_1, mv_a_2, mv_a_3, mk2_n, mk2_i, mk2_l, mk2_a, mk2_u, mk2_x, mB_T, mB_F, mS_cons, mS_nil, mSB_T, mSB_F, mca_nil, mca_i, mca_l, mca_r, mca_u, mca_x, mcat_i, mcat_l, mcat_r, mcat_u, mcat_x, mK_some, mK_none, va_rf_s, va_rf_n, lgc_eq, lgc_lt, lgc_gt, lgc_ge, lgc_le, mrd_104, mrd_105, mrd_106, mrd_107, true_and, and_true, and_self, false_and, and_false, true_or, or_true, false_or, or_false, not_true_eq_false, not_false_eq_true, mgb, mga, mgr, mN, reduceCtorEq, ↓reduceIte, eq_self, ge_iff_le, gt_iff_lt, Nat.reduceAdd, Nat.reduceMul, Nat.reduceSub, Nat.reduceLT, Nat.reduceGT, Nat.reduceEqDiff, Nat.reduceLeDiff, Nat.left_eq_add, Nat.add_eq_left, Nat.reduceMod, Nat.reduceDiv, Nat.succ_ne_self, pH_g, pH_9, g, w1, q2, y1, y2, q3, q4, y3, q5, q6, bd4, k1, n1, q7]
/-- named -/
theorem c_327 (R : RTK h m K P V) (hN : 8 * m + 6 ≤ N) (hi : s.at < m) (eb : s.bd = false) (hd : d ≤ 60) (hD : 3 * (62 - d) + 14 ≤ D + 5) (hr : s.dr + 2 * (m - s.at) + 8 ≤ 52000) (c : K s.at = 2) : ∃ s' v, SR P (pgN K P V N d s.at) s.at s.dr s s' v ∧ ∀ Q, mcall (D + 5) 327 [.ref 81, .int (Int32.ofNat (P s.at)), .int (Int32.ofNat d)] (pH h s) Q = Q (some (.int v)) (pH h s') := by
  unfold pgN
  by_cases c1 : K (s.at + 1) = 40
  · rw [if_pos c1]; exact n_cal R hN hi eb hd hD hr c c1
  rw [if_neg c1]
  by_cases c2 : K (s.at + 1) = 91
  · rw [if_pos c2]; exact n_put R hN hi eb hd hD hr c c2
  rw [if_neg c2]
  exact n_set R hN hi eb hd hD hr c c1 c2
end HDs
