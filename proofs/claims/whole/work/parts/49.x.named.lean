set_option maxRecDepth 100000
/-! THE REFERENCE'S PARSER: named -/
section HCs
variable {D f N : Nat} {h : mh_H} {m : Nat} {K : Nat → Int32} {P : Nat → Nat} {V : Nat → Int} {s : pst} {d : Nat}
/-- a call -/
theorem n_cal (R : RTK h m K P V) (hN : 8 * m + 6 ≤ N) (hi : s.at < m) (eb : s.bd = false) (hd : d ≤ 60) (hD : 3 * (62 - d) + 14 ≤ D + 5) (hr : s.dr + 2 * (m - s.at) + 8 ≤ 52000) (c : K s.at = 2) (c1 : K (s.at + 1) = 40) : ∃ s' v, SR P (bnd (pgS K P V N (d + 1) (s.at + 2)) fun r j => (j, some (tNd (tE 7 (P s.at) 0) (.branch (tE 33 (P s.at) 0) (.leaf ()) (.branch (tE 13 (P s.at) s.at) (.leaf ()) r))))) s.at s.dr s s' v ∧ ∀ Q, mcall (D + 5) 327 [.ref 81, .int (Int32.ofNat (P s.at)), .int (Int32.ofNat d)] (pH h s) Q = Q (some (.int v)) (pH h s') := by
  have hp := (R.p _ hi).2
  have hm := R.m
  have h1 := tkM_s R.M hi c (by decide) (by decide)
  have h2 := tkM_s R.M h1 c1 (by decide) (by decide)
  have g := R.F.g 81 14 70 (by decide +kernel)
  have q1 := c_315 (D := D + 2) R hi (by omega)
  obtain ⟨s1, hs1⟩ : ∃ x : pst, x = (s.dft 13 (Int32.ofNat (P s.at)) (Int32.ofNat s.at)).uA (s.at + 1) := ⟨_, rfl⟩
  have e2 : s.nm K P = s1 := by
    rw [hs1]
    unfold pst.nm
    exact tk_1 (s := s.dft 13 (Int32.ofNat (P s.at)) (Int32.ofNat s.at)) eb c
  rw [e2] at q1
  have at1 : s1.at = s.at + 1 := by rw [hs1]; rfl
  have bd1 : s1.bd = false := by rw [hs1]; exact eb
  have fl1 : s1.fl = s.fl := by rw [hs1]; rfl
  have dr1 : s1.dr = s.dr + 1 := by rw [hs1]; rfl
  have m1 : pSm s.dr s s1 := by rw [hs1]; exact pSm_t (dft_m (Nat.le_refl _)) uA_m
  have a1 : nf s1 s.dr 13 (Int32.ofNat (P s.at)) (Int32.ofNat s.at) (-1) (-1) (-1) := by rw [hs1]; exact dft_n (s := s)
  have q2 := c_310 (D := D + 4) (s := s1) R (by omega)
  rw [lk_0 bd1, at1, c1] at q2
  have q2' : ∀ Q, mcall (D + 4) 310 [.ref 81] (pH h s1) Q = Q (some (.int 40)) (pH h s1) := q2
  have y1 : ((40 : Int32) = 40) = True := by decide
  have q3 := c_313 (D := D + 4) (s := s1) R.F (by omega) (k := 7) (p := Int32.ofNat (P s.at)) (v := 0)
  rw [dr1] at q3
  obtain ⟨s2, hs2⟩ : ∃ x : pst, x = s1.dft 7 (Int32.ofNat (P s.at)) 0 := ⟨_, rfl⟩
  rw [← hs2] at q3
  have b2 : nf s2 (s.dr + 1) 7 (Int32.ofNat (P s.at)) 0 (-1) (-1) (-1) := by rw [hs2, ← dr1]; exact dft_n
  have a2 := nf_E a1 (show pE s1 s2 s.dr from by rw [hs2]; exact dft_E (by omega))
  have m2 : pSm s.dr s s2 := fun y hy => pE_t (m1 y hy) (show pE s1 s2 y from by rw [hs2]; exact dft_E (by omega))
  have dr2 : s2.dr = s.dr + 2 := by rw [hs2]; show s1.dr + 1 = _; omega
  have q4 := c_313 (D := D + 4) (s := s2) R.F (by omega) (k := 33) (p := Int32.ofNat (P s.at)) (v := 0)
  rw [dr2] at q4
  obtain ⟨s3, hs3⟩ : ∃ x : pst, x = s2.dft 33 (Int32.ofNat (P s.at)) 0 := ⟨_, rfl⟩
  rw [← hs3] at q4
  have c3 : nf s3 (s.dr + 2) 33 (Int32.ofNat (P s.at)) 0 (-1) (-1) (-1) := by rw [hs3, ← dr2]; exact dft_n
  have E3 : ∀ y, y < s.dr + 2 → pE s2 s3 y := fun y hy => by rw [hs3]; exact dft_E (by omega)
  have b3 := nf_E b2 (E3 _ (by omega))
  have a3 := nf_E a2 (E3 _ (by omega))
  have q5 := c_314 (D := D + 4) (s := s3) R.F (o := s.dr + 1) (y := s.dr + 2) (by omega) (by omega) (fun z => absurd b3.2.2.2.1 z)
  obtain ⟨f1, f2, f3, f4⟩ := jn_f (s := s3) (o := s.dr + 1) (y := s.dr + 2)
  obtain ⟨s4, hs4⟩ : ∃ x : pst, x = s3.jn (s.dr + 1) (s.dr + 2) := ⟨_, rfl⟩
  rw [← hs4] at q5 f1 f2 f3 f4
  have E4 : ∀ y, y ≠ s.dr + 1 → pE s3 s4 y := fun y hy => by rw [hs4]; exact jn1_E b3 hy
  have b4 : nf s4 (s.dr + 1) 7 (Int32.ofNat (P s.at)) 0 (Int32.ofNat (s.dr + 2)) (Int32.ofNat (s.dr + 2)) (-1) := by rw [hs4]; exact jn1_n b3
  have a4 := nf_E a3 (E4 _ (by omega))
  have c4 := nf_E c3 (E4 _ (by omega))
  have nF : ¬ Int32.ofNat (s.dr + 2) = -1 := ofn_m (by omega)
  have q6 := c_314 (D := D + 4) (s := s4) R.F (o := s.dr + 1) (y := s.dr) (by omega) (by omega) (fun _ => ⟨s.dr + 2, by omega, b4.2.2.2.2.1⟩)
  obtain ⟨j1, j2, j3, j4⟩ := jn_f (s := s4) (o := s.dr + 1) (y := s.dr)
  obtain ⟨s5, hs5⟩ : ∃ x : pst, x = s4.jn (s.dr + 1) s.dr := ⟨_, rfl⟩
  rw [← hs5] at q6 j1 j2 j3 j4
  have b5 : nf s5 (s.dr + 1) 7 (Int32.ofNat (P s.at)) 0 (Int32.ofNat (s.dr + 2)) (Int32.ofNat s.dr) (-1) := by rw [hs5]; exact jn2_n b4 nF (by omega) (by omega)
  have c5 : nf s5 (s.dr + 2) 33 (Int32.ofNat (P s.at)) 0 (-1) (-1) (Int32.ofNat s.dr) := by rw [hs5]; exact jn2_l b4 nF (by omega) (by omega) c4
  have a5 := nf_E a4 (show pE s4 s5 s.dr from by rw [hs5]; exact jn2_E b4 nF (by omega) (by omega) (by omega))
  have m5 : pSm s.dr s s5 := fun y hy => pE_t (m2 y hy) (pE_t (E3 y (by omega)) (pE_t (E4 y (by omega)) (show pE s4 s5 y from by rw [hs5]; exact jn2_E b4 nF (by omega) (by omega) (by omega))))
  have at5 : s5.at = s.at + 1 := by rw [j1, f1, hs3, hs2]; exact at1
  have bd5 : s5.bd = false := by rw [j2, f2, hs3, hs2]; exact bd1
  have fl5 : s5.fl = s.fl := by rw [j3, f3, hs3, hs2]; exact fl1
  have dr5 : s5.dr = s.dr + 3 := by rw [j4, f4, hs3]; show s2.dr + 1 = _; omega
  have q7 := c_312 (D := D + 2) (s := s5) R (by omega) (c := 40) (y := 40) (by decide) rfl (by decide)
  rw [tk_1 bd5 (by rw [at5]; exact c1), at5] at q7
  obtain ⟨s6, hs6⟩ : ∃ x : pst, x = s5.uA (s.at + 1 + 1) := ⟨_, rfl⟩
  rw [← hs6] at q7
  have a6 : nf s6 s.dr 13 (Int32.ofNat (P s.at)) (Int32.ofNat s.at) (-1) (s6.L s.dr) (s6.N s.dr) := by rw [hs6]; exact ⟨a5.1, a5.2.1, a5.2.2.1, a5.2.2.2.1, rfl, rfl⟩
  have n6 : s6.N s.dr = -1 := by rw [hs6]; exact a5.2.2.2.2.2
  have b6 : nf s6 (s.dr + 1) 7 (Int32.ofNat (P s.at)) 0 (Int32.ofNat (s.dr + 2)) (Int32.ofNat s.dr) (-1) := by rw [hs6]; exact b5
  have c6 : nf s6 (s.dr + 2) 33 (Int32.ofNat (P s.at)) 0 (-1) (s6.L (s.dr + 2)) (Int32.ofNat s.dr) := by rw [hs6]; exact ⟨c5.1, c5.2.1, c5.2.2.1, c5.2.2.2.1, rfl, c5.2.2.2.2.2⟩
  have G6 : GS P true s6 s.at s.dr (s.dr + 1) s.dr (s.dr + 3) (Int32.ofNat (s.dr + 2)) 7 (Int32.ofNat (P s.at)) 0 s6 (s.at + 2, some (.leaf ())) := by
    refine ⟨pSm_r, by rw [hs6]; rfl, ⟨by omega, by omega, Nat.le_refl _, by show s.at ≤ s.at + 2; omega⟩, fun y y1 y2 _ => pE_r, fun y y1 y2 => ⟨rfl, rfl, rfl, rfl⟩, Or.inl ⟨_, rfl, by rw [hs6]; exact bd5, rfl, by rw [hs6]; exact dr5, by show s.dr + 3 + 0 ≤ s.dr + 2 * (s.at + 2 - s.at); omega, ?_, trivial⟩⟩
    rw [if_pos rfl]
    exact ⟨b6, n6, by omega, by omega, nF⟩
  obtain ⟨b7, s7, G7, z7⟩ := c_325g (D := D) (d := d) R hN hd (by omega) (by omega) q7 G6 h2
  have ST := GS_e2 (iv := s.at) G7 hp (by rw [hs6]; exact pSm_t m5 uA_m) (by rw [hs6]; exact fl5) (by omega) a6 c6
  refine ⟨s7, Int32.ofNat (s.dr + 1), ?_, fun Q => ?_⟩
  · simp only [bnd_o, bnd_b, tC] at ST
    exact ST
  · clear R ST G6 G7 b7 m1 m2 m5 a1 a2 a3 a4 a5 a6 b2 b3 b4 b5 b6 c3 c4 c5 c6 E3 E4
    simp (disch := omega) only [s_327_0, s_327_1, s_327_4, s_327_5, s_327_6, s_327_9, s_327_11, s_327_14, s_327_15, s_327_17, s_327_18, s_327_19, s_327_22, s_327_24, s_327_25, s_327_27, s_327_28, s_327_30, s_327_31, s_327_32, s_327_35, s_327_38, s_327_39, s_327_41, s_327_42, s_327_45, s_327_46, s_327_48, s_327_49, s_327_52, s_327_54, s_327_55, s_327_56, s_327_59, s_327_61, s_327_64, s_327_65, s_327_67, s_327_68, s_327_69, s_327_72, s_327_74, s_327_75, s_327_77, s_327_78, s_327_81, s_327_82, s_327_84, s_327_87, s_327_88, s_327_90, s_327_91, s_327_94, s_327_97, s_327_98, s_327_101, s_327_102, s_327_103, s_327_104, s_327_105, s_327_108, s_327_111, s_327_112, s_327_114, s_327_117, s_327_118, s_327_120, s_327_123, s_327_124, s_327_126, s_327_127, s_327_130, s_327_133, s_327_134, s_327_137, s_327_138, s_327_139, s_327_140, s_327_141, s_327_144, s_327_147, s_327_149, s_327_150, s_327_151, s_327_153, s_327_156, s_327_157, s_327_160, s_327_161, s_327_164, s_327_165, s_327_168, s_327_169, s_327_172, s_327_173, s_327_174, s_327_175, s_327_177, s_327_180, s_327_181, s_327_183, s_327_184, s_327_185, s_327_188, s_327_190, s_327_191, s_327_193, s_327_194, s_327_197, s_327_198, s_327_200, s_327_201, s_327_204, s_327_207, s_327_208, s_327_210, s_327_211, s_327_214, s_327_216, s_327_217, s_327_218, s_327_219, s_327_220, s_327_221, s_327_224, s_327_226, s_327_227, s_327_229, s_327_230, s_327_233, s_327_234, s_327_236, s_327_237, s_327_240, s_327_243, s_327_244, s_327_247, s_327_248, s_327_249, s_327_250, s_327_251, s_327_254, s_327_257, s_327_259, e_327, mv_i_1, mv_l_1, mv_a_1, mv_a_2, mv_a_3, mk2_n, mk2_i, mk2_l, mk2_a, mk2_u, mk2_x, mB_T, mB_F, mS_cons, mS_nil, mSB_T, mSB_F, mca_nil, mca_i, mca_l, mca_r, mca_u, mca_x, mcat_i, mcat_l, mcat_r, mcat_u, mcat_x, mK_some, mK_none, va_rf_s, va_rf_n, lgc_eq, lgc_lt, lgc_gt, lgc_ge, lgc_le, mrd_104, mrd_105, mrd_106, mrd_107, true_and, and_true, and_self, false_and, and_false, true_or, or_true, false_or, or_false, not_true_eq_false, not_false_eq_true, mgb, mga, mgr, mN, reduceCtorEq, ↓reduceIte, eq_self, ge_iff_le, gt_iff_lt, Nat.reduceAdd, Nat.reduceMul, Nat.reduceSub, Nat.reduceLT, Nat.reduceGT, Nat.reduceEqDiff, Nat.reduceLeDiff, Nat.left_eq_add, Nat.add_eq_left, Nat.reduceMod, Nat.reduceDiv, Nat.succ_ne_self, pH_g, g, q1, q2', y1, q3, q4, q5, q6, z7]
/-- NAME [ SUM ] = SUM -/
theorem n_put (R : RTK h m K P V) (hN : 8 * m + 6 ≤ N) (hi : s.at < m) (eb : s.bd = false) (hd : d ≤ 60) (hD : 3 * (62 - d) + 14 ≤ D + 5) (hr : s.dr + 2 * (m - s.at) + 8 ≤ 52000) (c : K s.at = 2) (c1 : K (s.at + 1) = 91) : ∃ s' v, SR P (bnd (pgX K P V N 0 (d + 1) (s.at + 2)) fun t j => tak K 93 j (tak K 61 (j + 1) (bnd (pgX K P V N 0 (d + 1) (j + 2)) fun u k => (k, some (tNd (tE 6 (P s.at) 0) (.branch (tE 13 (P s.at) s.at) (.leaf ()) (tA t u))))))) s.at s.dr s s' v ∧ ∀ Q, mcall (D + 5) 327 [.ref 81, .int (Int32.ofNat (P s.at)), .int (Int32.ofNat d)] (pH h s) Q = Q (some (.int v)) (pH h s') := by
  have hp := (R.p _ hi).2
  have hm := R.m
  have h1 := tkM_s R.M hi c (by decide) (by decide)
  have h2 := tkM_s R.M h1 c1 (by decide) (by decide)
  have g := R.F.g 81 14 70 (by decide +kernel)
  have k0 : kb false = 0 := rfl
  have k1 : kb true = 1 := rfl
  have n1 : ((1 : Int32) = 0) = False := by decide
  have e1' : ∀ k, Int32.ofNat k + 1 = Int32.ofNat (k + 1) := fun k => nn_add (a := k) (b := 1)
  obtain ⟨w1, w2, w3⟩ := two_r (D := D + 2) (kk := 6) (p := Int32.ofNat (P s.at)) R hi eb (by omega) c
  obtain ⟨-, w2, w3⟩ := two_r (D := D + 4) (kk := 6) (p := Int32.ofNat (P s.at)) R hi eb (by omega) c
  obtain ⟨v1, v2, v3, v4, v5, v6, v7⟩ := two_f (s := s) (P := P) (kk := 6) (p := Int32.ofNat (P s.at))
  obtain ⟨t1, t2, t3⟩ := tE_13 hp (k := 13) (i := s.at) (by decide) (by omega)
  obtain ⟨s1, hs1⟩ : ∃ x : pst, x = (s.dft 13 (Int32.ofNat (P s.at)) (Int32.ofNat s.at)).uA (s.at + 1) := ⟨_, rfl⟩
  rw [← hs1] at w1 w2 w3
  have at1 : s1.at = s.at + 1 := by rw [hs1]; rfl
  have bd1 : s1.bd = false := by rw [hs1]; exact eb
  have q2 := c_310 (D := D + 4) (s := s1) R (by omega)
  rw [lk_0 bd1, at1, c1] at q2
  have q2' : ∀ Q, mcall (D + 4) 310 [.ref 81] (pH h s1) Q = Q (some (.int 91)) (pH h s1) := q2
  have y1 : ((91 : Int32) = 40) = False := by decide
  have y2 : ((91 : Int32) = 91) = True := by decide
  generalize s.two P 6 (Int32.ofNat (P s.at)) = s2 at *
  have G2 : GS P true s2 s.at s.dr (s.dr + 1) s.dr (s.dr + 2) (Int32.ofNat s.dr) 6 (Int32.ofNat (P s.at)) 0 s2 (s.at + 1, some (.leaf ())) := GS_1 (by omega) v1 (v2.trans eb) v4 (by omega) (by omega) v6 v7.2.2.2.2.2
  have q3 := c_312 (D := D + 3) (s := s2) R (by omega) (c := 91) (y := 91) (by decide) rfl (by decide)
  have G3 := GS_tk (K := K) (c := 91) (by show s.dr + 2 * (s.at + 1 - s.at) + 8 ≤ 52000; omega) G2
  have b3 := gd_bt (m := m) (x := (s.at + 1, some (.leaf ()))) (c := 91) R.M (by decide) (by decide) h1
  have bd3 : (s2.tk K P 91).bd = false := by rw [tk_1 (v2.trans eb) (by rw [v1]; exact c1)]; exact v2.trans eb
  generalize s2.tk K P 91 = s3 at *
  obtain ⟨b4, s4, G4, z4⟩ := GS_sub (m := m) (Fp := fun j => pgX K P V N 0 (d + 1) j) (M := 318) (D := D + 4) (ar := [.ref 81, .int (Int32.ofNat (d + 1))]) R.F G3 (by omega) b3 (fun y1 y2 y3 => (pe_all R N).1 (d + 1) (D + 4) s3 (by omega) y2 y1 (by omega) (by omega) y3) (fun j hj => pgX_b R.M N 0 (d + 1) j (by decide) hj)
  have q5 := c_312 (D := D + 3) (s := s4) R (by rw [G4.2.1]; exact b4) (c := 93) (y := 93) (by decide) rfl (by decide)
  have G5 := GS_tk (K := K) (c := 93) (by omega) G4
  have b5 := gd_bt (c := 93) R.M (by decide) (by decide) b4
  generalize s4.tk K P 93 = s5 at *
  have q6 := c_312 (D := D + 3) (s := s5) R (by rw [G5.2.1]; exact b5) (c := 61) (y := 61) (by decide) rfl (by decide)
  have G6 := GS_tk (K := K) (c := 61) (by omega) G5
  have b6 := gd_bt (c := 61) R.M (by decide) (by decide) b5
  generalize s5.tk K P 61 = s6 at *
  obtain ⟨b7, s7, G7, z7⟩ := GS_sub (m := m) (Fp := fun j => pgX K P V N 0 (d + 1) j) (M := 318) (D := D + 4) (ar := [.ref 81, .int (Int32.ofNat (d + 1))]) R.F G6 (by omega) b6 (fun y1 y2 y3 => (pe_all R N).1 (d + 1) (D + 4) s6 (by omega) y2 y1 (by omega) (by omega) y3) (fun j hj => pgX_b R.M N 0 (d + 1) j (by decide) hj)
  have ST := GS_e1 (n := tE 6 (P s.at) 0) (mn := tE 13 (P s.at) s.at) G7 v5 v3 (by rw [tE_K (by decide)]; rfl) (by rw [tE_P (by decide) (by omega)]) (by rw [tE_V (by decide) (by omega)]; rfl) (fun r => by unfold dSc; rw [tE_K (by decide)]; rfl) ⟨v7.1, v7.2.1, v7.2.2.1, v7.2.2.2.1⟩ t1 t2 t3 d13
  refine ⟨s7, Int32.ofNat (s.dr + 1), ?_, fun Q => ?_⟩
  · simp only [bnd_o, bnd_b, bnd_t, tC] at ST
    rw [show ∀ r, tak K 91 (s.at + 1) r = r from fun r => if_pos c1] at ST
    have EQ : (bnd (pgX K P V N 0 (d + 1) (s.at + 2)) fun t j => tak K 93 j (tak K 61 (j + 1) (bnd (pgX K P V N 0 (d + 1) (j + 2)) fun u k => (k, some (tNd (tE 6 (P s.at) 0) (.branch (tE 13 (P s.at) s.at) (.leaf ()) (tA t u))))))) = (bnd (pgX K P V N 0 (d + 1) (s.at + 2)) fun t j => tak K 93 j (tak K 61 (j + 1) (bnd (pgX K P V N 0 (d + 1) (j + 2)) fun u k => (k, some (tNd (tE 6 (P s.at) 0) (.branch (tE 13 (P s.at) s.at) (.leaf ()) (tC t u))))))) := bnd_g (m := m) (pgX_b R.M N 0 (d + 1) (s.at + 2) (by decide) h2) (fun n cs j hj => rfl)
    rw [EQ]
    exact ST
  · clear R ST G2 G3 G4 G5 G6 G7 b3 b4 b5 b6 b7 v5 v6 v7
    rcases z4 with ⟨z, -⟩ | ⟨-, s8, v8, u1, u2⟩
    · rw [bd3] at z; cases z
    have u2' := u2 (D + 4)
    clear u2
    rcases z7 with ⟨z, zz⟩ | ⟨z, s9, v9, x1, x2⟩
    · subst zz
      have q8 := c_314n (D := D + 4) (h := h) (s := s7) (o := Int32.ofNat (s.dr + 1))
      simp (disch := omega) only [s_327_0, s_327_1, s_327_4, s_327_5, s_327_6, s_327_9, s_327_11, s_327_14, s_327_15, s_327_17, s_327_18, s_327_19, s_327_22, s_327_24, s_327_25, s_327_27, s_327_28, s_327_30, s_327_31, s_327_32, s_327_35, s_327_38, s_327_39, s_327_41, s_327_42, s_327_45, s_327_46, s_327_48, s_327_49, s_327_52, s_327_54, s_327_55, s_327_56, s_327_59, s_327_61, s_327_64, s_327_65, s_327_67, s_327_68, s_327_69, s_327_72, s_327_74, s_327_75, s_327_77, s_327_78, s_327_81, s_327_82, s_327_84, s_327_87, s_327_88, s_327_90, s_327_91, s_327_94, s_327_97, s_327_98, s_327_101, s_327_102, s_327_103, s_327_104, s_327_105, s_327_108, s_327_111, s_327_112, s_327_114, s_327_117, s_327_118, s_327_120, s_327_123, s_327_124, s_327_126, s_327_127, s_327_130, s_327_133, s_327_134, s_327_137, s_327_138, s_327_139, s_327_140, s_327_141, s_327_144, s_327_147, s_327_149, s_327_150, s_327_151, s_327_153, s_327_156, s_327_157, s_327_160, s_327_161, s_327_164, s_327_165, s_327_168, s_327_169, s_327_172, s_327_173, s_327_174, s_327_175, s_327_177, s_327_180, s_327_181, s_327_183, s_327_184, s_327_185, s_327_188, s_327_190, s_327_191, s_327_193, s_327_194, s_327_197, s_327_198, s_327_200, s_327_201, s_327_204, s_327_207, s_327_208, s_327_210, s_327_211, s_327_214, s_327_216, s_327_217, s_327_218, s_327_219, s_327_220, s_327_221, s_327_224, s_327_226, s_327_227, s_327_229, s_327_230, s_327_233, s_327_234, s_327_236, s_327_237, s_327_240, s_327_243, s_327_244, s_327_247, s_327_248, s_327_249, s_327_250, s_327_251, s_327_254, s_327_257, s_327_259, e_327, mv_i_1, mv_l_1, mv_a_1, mv_a_2, mv_a_3, mk2_n, mk2_i, mk2_l, mk2_a, mk2_u, mk2_x, mB_T, mB_F, mS_cons, mS_nil, mSB_T, mSB_F, mca_nil, mca_i, mca_l, mca_r, mca_u, mca_x, mcat_i, mcat_l, mcat_r, mcat_u, mcat_x, mK_some, mK_none, va_rf_s, va_rf_n, lgc_eq, lgc_lt, lgc_gt, lgc_ge, lgc_le, mrd_104, mrd_105, mrd_106, mrd_107, true_and, and_true, and_self, false_and, and_false, true_or, or_true, false_or, or_false, not_true_eq_false, not_false_eq_true, mgb, mga, mgr, mN, reduceCtorEq, ↓reduceIte, eq_self, ge_iff_le, gt_iff_lt, Nat.reduceAdd, Nat.reduceMul, Nat.reduceSub, Nat.reduceLT, Nat.reduceGT, Nat.reduceEqDiff, Nat.reduceLeDiff, Nat.left_eq_add, Nat.add_eq_left, Nat.reduceMod, Nat.reduceDiv, Nat.succ_ne_self, pH_g, pH_9, g, w1, q2', y1, y2, w2, w3, q3, bd3, k0, e1', u1, u2', q5, q6, z, k1, n1, q8]
    · have x2' := x2 (D + 4)
      clear x2
      simp (disch := omega) only [s_327_0, s_327_1, s_327_4, s_327_5, s_327_6, s_327_9, s_327_11, s_327_14, s_327_15, s_327_17, s_327_18, s_327_19, s_327_22, s_327_24, s_327_25, s_327_27, s_327_28, s_327_30, s_327_31, s_327_32, s_327_35, s_327_38, s_327_39, s_327_41, s_327_42, s_327_45, s_327_46, s_327_48, s_327_49, s_327_52, s_327_54, s_327_55, s_327_56, s_327_59, s_327_61, s_327_64, s_327_65, s_327_67, s_327_68, s_327_69, s_327_72, s_327_74, s_327_75, s_327_77, s_327_78, s_327_81, s_327_82, s_327_84, s_327_87, s_327_88, s_327_90, s_327_91, s_327_94, s_327_97, s_327_98, s_327_101, s_327_102, s_327_103, s_327_104, s_327_105, s_327_108, s_327_111, s_327_112, s_327_114, s_327_117, s_327_118, s_327_120, s_327_123, s_327_124, s_327_126, s_327_127, s_327_130, s_327_133, s_327_134, s_327_137, s_327_138, s_327_139, s_327_140, s_327_141, s_327_144, s_327_147, s_327_149, s_327_150, s_327_151, s_327_153, s_327_156, s_327_157, s_327_160, s_327_161, s_327_164, s_327_165, s_327_168, s_327_169, s_327_172, s_327_173, s_327_174, s_327_175, s_327_177, s_327_180, s_327_181, s_327_183, s_327_184, s_327_185, s_327_188, s_327_190, s_327_191, s_327_193, s_327_194, s_327_197, s_327_198, s_327_200, s_327_201, s_327_204, s_327_207, s_327_208, s_327_210, s_327_211, s_327_214, s_327_216, s_327_217, s_327_218, s_327_219, s_327_220, s_327_221, s_327_224, s_327_226, s_327_227, s_327_229, s_327_230, s_327_233, s_327_234, s_327_236, s_327_237, s_327_240, s_327_243, s_327_244, s_327_247, s_327_248, s_327_249, s_327_250, s_327_251, s_327_254, s_327_257, s_327_259, e_327, mv_i_1, mv_l_1, mv_a_1, mv_a_2, mv_a_3, mk2_n, mk2_i, mk2_l, mk2_a, mk2_u, mk2_x, mB_T, mB_F, mS_cons, mS_nil, mSB_T, mSB_F, mca_nil, mca_i, mca_l, mca_r, mca_u, mca_x, mcat_i, mcat_l, mcat_r, mcat_u, mcat_x, mK_some, mK_none, va_rf_s, va_rf_n, lgc_eq, lgc_lt, lgc_gt, lgc_ge, lgc_le, mrd_104, mrd_105, mrd_106, mrd_107, true_and, and_true, and_self, false_and, and_false, true_or, or_true, false_or, or_false, not_true_eq_false, not_false_eq_true, mgb, mga, mgr, mN, reduceCtorEq, ↓reduceIte, eq_self, ge_iff_le, gt_iff_lt, Nat.reduceAdd, Nat.reduceMul, Nat.reduceSub, Nat.reduceLT, Nat.reduceGT, Nat.reduceEqDiff, Nat.reduceLeDiff, Nat.left_eq_add, Nat.add_eq_left, Nat.reduceMod, Nat.reduceDiv, Nat.succ_ne_self, pH_g, pH_9, g, w1, q2', y1, y2, w2, w3, q3, bd3, k0, e1', u1, u2', q5, q6, z, x1, x2']
end HCs
