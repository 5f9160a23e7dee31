set_option maxRecDepth 100000
/-! THE REFERENCE'S PARSER: statements, BLOCKs -/
section HEs
variable {K : Nat → Int32} {P : Nat → Nat} {V : Nat → Int} {m N : Nat}
theorem pgN_b (hm : tkM K m) {d i : Nat} (hi : i < m) (c : K i = 2) : gdr i m 0 (pgN K P V N d i) := by
  have h1 := tkM_s hm hi c (by decide) (by decide)
  unfold pgN
  by_cases c3 : K (i + 1) = 40
  · rw [if_pos c3]
    have h2 := tkM_s hm h1 c3 (by decide) (by decide)
    refine gd_bnd (i' := i + 2) (by omega) (pgS_b hm h2) (fun t j _ a1 a2 a3 a4 _ => ?_)
    exact gd_0 (by omega) a2 (by rw [ts_b, ts_b, ts_l]; omega)
  rw [if_neg c3]
  by_cases c4 : K (i + 1) = 91
  · rw [if_pos c4]
    have h2 := tkM_s hm h1 c4 (by decide) (by decide)
    refine gd_bnd (i' := i + 2) (by omega) (pgX_b hm N 0 (d + 1) (i + 2) (by omega) h2) (fun t j _ a1 a2 a3 a4 _ => ?_)
    obtain ⟨a5, n, cs, a6⟩ := a3 rfl
    subst a6
    rw [ts_N] at a4
    refine gd_tak (by omega) a2 (fun c5 => ?_)
    have h3 := tkM_s hm a2 c5 (by decide) (by decide)
    refine gd_tak (by omega) h3 (fun c6 => ?_)
    have h4 := tkM_s hm h3 c6 (by decide) (by decide)
    refine gd_bnd (i' := j + 2) (by omega) (pgX_b hm N 0 (d + 1) (j + 2) (by omega) h4) (fun u k _ b1 b2 b3 b4 _ => ?_)
    exact gd_0 (by omega) b2 (by rw [ts_b, ts_l, ts_A]; omega)
  rw [if_neg c4]
  refine gd_tak (by omega) h1 (fun c5 => ?_)
  have h2 := tkM_s hm h1 c5 (by decide) (by decide)
  by_cases c6 : K (i + 2) = 2 ∧ K (i + 3) = 40
  · rw [if_pos c6]
    have h3 := tkM_s hm h2 c6.1 (by decide) (by decide)
    have h4 := tkM_s hm h3 c6.2 (by decide) (by decide)
    refine gd_bnd (i' := i + 4) (by omega) (pgS_b hm h4) (fun t j _ a1 a2 a3 a4 _ => ?_)
    exact gd_0 (by omega) a2 (by rw [ts_b, ts_b, ts_l]; omega)
  rw [if_neg c6]
  refine gd_bnd (i' := i + 2) (by omega) (pgX_b hm N 0 (d + 1) (i + 2) (by omega) h2) (fun t j _ a1 a2 a3 a4 _ => ?_)
  exact gd_0 (by omega) a2 (by rw [ts_b, ts_l]; omega)
theorem pgN_e {d i : Nat} : (
      if K (i + 1) = 40 then bnd (pgS K P V N (d + 1) (i + 2)) fun r j => tak K 59 j (j + 1, some (tNd (tE 7 (P i) 0) (.branch (tE 33 (P i) 0) (.leaf ()) (.branch (tE 13 (P i) i) (.leaf ()) r))))
      else if K (i + 1) = 91 then bnd (pgX K P V N 0 (d + 1) (i + 2)) fun t j => tak K 93 j (tak K 61 (j + 1) (bnd (pgX K P V N 0 (d + 1) (j + 2)) fun u k => tak K 59 k (k + 1, some (tNd (tE 6 (P i) 0) (.branch (tE 13 (P i) i) (.leaf ()) (tA t u))))))
      else tak K 61 (i + 1) (
        if K (i + 2) = 2 ∧ K (i + 3) = 40 then bnd (pgS K P V N (d + 1) (i + 4)) fun r j => tak K 59 j (j + 1, some (tNd (tE 7 (P i) 0) (.branch (tE 13 (P i) i) (.leaf ()) (.branch (tE 13 (P (i + 2)) (i + 2)) (.leaf ()) r))))
        else bnd (pgX K P V N 0 (d + 1) (i + 2)) fun t j => tak K 59 j (j + 1, some (tNd (tE 5 (P i) 0) (.branch (tE 13 (P i) i) (.leaf ()) t))))) = bnd (pgN K P V N d i) fun t j => tak K 59 j (j + 1, some t) := by
  unfold pgN
  by_cases c3 : K (i + 1) = 40
  · rw [if_pos c3, if_pos c3]; simp only [bnd_b, bnd_t, bnd_o]
  rw [if_neg c3, if_neg c3]
  by_cases c4 : K (i + 1) = 91
  · rw [if_pos c4, if_pos c4]; simp only [bnd_b, bnd_t, bnd_o]
  rw [if_neg c4, if_neg c4, bnd_t]
  by_cases c6 : K (i + 2) = 2 ∧ K (i + 3) = 40
  · rw [if_pos c6, if_pos c6, bnd_b]
    exact congrArg (tak K 61 (i + 1)) (bnd_f (fun t j => rfl))
  rw [if_neg c6, if_neg c6]; simp only [bnd_b, bnd_t, bnd_o]
end HEs
def PS0 (h : mh_H) (m : Nat) (K : Nat → Int32) (P : Nat → Nat) (V : Nat → Int) (N f : Nat) : Prop := ∀ d D (s s0 : pst) (x : pqr) (i a o q e : Nat) (fx k p v : Int32), GS P false s0 i a o q e fx k p v s x → x.1 < m → 8 * (m - x.1) + 2 ≤ f → d ≤ 60 → 6 * (62 - d) + 18 ≤ D → a + 2 * (m - i) + 8 ≤ 52000 → (bnd x fun r j => bnd (pgB K P V N f 0 d j) fun t k => (k, some (tC r t))).1 < m ∧ ∃ s', GS P false s0 i a o q e fx k p v s' (bnd x fun r j => bnd (pgB K P V N f 0 d j) fun t k => (k, some (tC r t))) ∧ ∀ Q, mw D 324 Q 27 [some (.ref 81), some (.int (Int32.ofNat d)), some (.int (Int32.ofNat o))] [] (pH h s) = mw D 324 Q 56 [some (.ref 81), some (.int (Int32.ofNat d)), some (.int (Int32.ofNat o))] [] (pH h s')
section HFs
variable {f N : Nat} {h : mh_H} {m : Nat} {K : Nat → Int32} {P : Nat → Nat} {V : Nat → Int}
theorem x_324 (R : RTK h m K P V) {D d o : Nat} {s : pst} (bd : s.bd = true) : ∀ Q, mw D 324 Q 27 [some (.ref 81), some (.int (Int32.ofNat d)), some (.int (Int32.ofNat o))] [] (pH h s) = mw D 324 Q 56 [some (.ref 81), some (.int (Int32.ofNat d)), some (.int (Int32.ofNat o))] [] (pH h s) := by
  intro Q
  have g := R.F.g 81 14 70 (by decide +kernel)
  have k1 : kb true = 1 := rfl
  have n1 : ((1 : Int32) = 0) = False := by decide
  clear R
  rw [s_324_27]
  simp (disch := omega) only [s_324_0, s_324_1, s_324_2, s_324_5, s_324_6, s_324_7, s_324_8, s_324_11, s_324_12, s_324_15, s_324_16, s_324_17, s_324_20, s_324_21, s_324_22, s_324_24, s_324_28, s_324_31, s_324_34, s_324_35, s_324_38, s_324_40, s_324_43, s_324_44, s_324_45, s_324_46, s_324_47, s_324_50, s_324_53, s_324_57, s_324_59, s_324_62, s_324_63, e_324, mv_i_1, mv_l_1, mv_a_1, mv_a_2, mv_a_3, mk2_n, mk2_i, mk2_l, mk2_a, mk2_u, mk2_x, mB_T, mB_F, mS_cons, mS_nil, mSB_T, mSB_F, mca_nil, mca_i, mca_l, mca_r, mca_u, mca_x, mcat_i, mcat_l, mcat_r, mcat_u, mcat_x, mK_some, mK_none, va_rf_s, va_rf_n, lgc_eq, lgc_lt, lgc_gt, lgc_ge, lgc_le, mrd_104, mrd_105, mrd_106, mrd_107, true_and, and_true, and_self, false_and, and_false, true_or, or_true, false_or, or_false, not_true_eq_false, not_false_eq_true, mgb, mga, mgr, mN, reduceCtorEq, ↓reduceIte, eq_self, ge_iff_le, gt_iff_lt, Nat.reduceAdd, Nat.reduceMul, Nat.reduceSub, Nat.reduceLT, Nat.reduceGT, Nat.reduceEqDiff, Nat.reduceLeDiff, Nat.left_eq_add, Nat.add_eq_left, Nat.reduceMod, Nat.reduceDiv, Nat.succ_ne_self, pH_g, pH_9, g, bd, k1, n1]
/-- statements, to the brace -/
theorem b_row (R : RTK h m K P V) (i0 : PS0 h m K P V N f) (i1 : PS1 h m K P V N f) : PS0 h m K P V N (f + 1) := by
  intro d D s s0 x i a o q e fx k p v G hx hf hd hD h52
  obtain ⟨D, rfl⟩ : ∃ D', D = D' + 4 := ⟨D - 4, by omega⟩
  have g := R.F.g 81 14 70 (by decide +kernel)
  have k0 : kb false = 0 := rfl
  have a0 := G.2.1
  have hi' := G.2.2.1.2.2.2
  have lt : s.at < m := by rw [a0]; exact hx
  have cs := G.2.2.2.2.2
  obtain ⟨j, ot⟩ := x
  have a0' : s.at = j := a0
  have hx' : j < m := hx
  have hi'' : i ≤ j := hi'
  have hf' : 8 * (m - j) + 2 ≤ f + 1 := hf
  rcases ot with _ | r
  · have bd : s.bd = true := by
      rcases cs with ⟨r, z, -⟩ | ⟨-, z, -⟩
      · cases z
      · exact z
    exact ⟨hx', s, G, x_324 R bd⟩
  · have bd : s.bd = false := by
      rcases cs with ⟨r, -, z, -⟩ | ⟨z, -⟩
      · exact z
      · cases z
    have q0 := c_310 (D := D + 3) R lt
    rw [lk_0 bd, a0'] at q0
    rw [bnd_o, pgB_0]
    by_cases c : K j = 125
    · rw [if_pos c, bnd_o, tC_l]
      have y1 : (rkd (K j) = 125) = True := by rw [rk_e (R.k _ hx').2 (c := 125) (y := 125) (by decide) rfl]; exact eq_true c
      refine ⟨hx', s, G, fun Q => ?_⟩
      clear R i0 i1 G cs
      rw [s_324_27]
      simp (disch := omega) only [s_324_0, s_324_1, s_324_2, s_324_5, s_324_6, s_324_7, s_324_8, s_324_11, s_324_12, s_324_15, s_324_16, s_324_17, s_324_20, s_324_21, s_324_22, s_324_24, s_324_28, s_324_31, s_324_34, s_324_35, s_324_38, s_324_40, s_324_43, s_324_44, s_324_45, s_324_46, s_324_47, s_324_50, s_324_53, s_324_57, s_324_59, s_324_62, s_324_63, e_324, mv_i_1, mv_l_1, mv_a_1, mv_a_2, mv_a_3, mk2_n, mk2_i, mk2_l, mk2_a, mk2_u, mk2_x, mB_T, mB_F, mS_cons, mS_nil, mSB_T, mSB_F, mca_nil, mca_i, mca_l, mca_r, mca_u, mca_x, mcat_i, mcat_l, mcat_r, mcat_u, mcat_x, mK_some, mK_none, va_rf_s, va_rf_n, lgc_eq, lgc_lt, lgc_gt, lgc_ge, lgc_le, mrd_104, mrd_105, mrd_106, mrd_107, true_and, and_true, and_self, false_and, and_false, true_or, or_true, false_or, or_false, not_true_eq_false, not_false_eq_true, mgb, mga, mgr, mN, reduceCtorEq, ↓reduceIte, eq_self, ge_iff_le, gt_iff_lt, Nat.reduceAdd, Nat.reduceMul, Nat.reduceSub, Nat.reduceLT, Nat.reduceGT, Nat.reduceEqDiff, Nat.reduceLeDiff, Nat.left_eq_add, Nat.add_eq_left, Nat.reduceMod, Nat.reduceDiv, Nat.succ_ne_self, pH_g, pH_9, g, bd, k0, q0, y1]
    · rw [if_neg c]
      have y1 : (rkd (K j) = 125) = False := by rw [rk_e (R.k _ hx').2 (c := 125) (y := 125) (by decide) rfl]; exact eq_false c
      obtain ⟨b2, s2, G2, z2⟩ := GS_sub (m := m) (Fp := fun j => pgB K P V N f 1 d j) (M := 326) (D := D + 3) (ar := [.ref 81, .int (Int32.ofNat d)]) R.F G h52 hx' (fun y1 y2 y3 => i1 d (D + 3) s (by omega) y2 y1 hd (by omega) y3) (fun j hj => (pgB_b R.M f 1 d j (by decide) hj).1)
      have gb := (pgB_b (P := P) (V := V) (N := N) R.M f 1 d j (by decide) hx').1
      have run : ∀ Q, mw (D + 4) 324 Q 27 [some (.ref 81), some (.int (Int32.ofNat d)), some (.int (Int32.ofNat o))] [] (pH h s) = mw (D + 4) 324 Q 27 [some (.ref 81), some (.int (Int32.ofNat d)), some (.int (Int32.ofNat o))] [] (pH h s2) := by
        intro Q
        rcases z2 with ⟨z, -⟩ | ⟨-, s7, v7, u1, u2⟩
        · rw [bd] at z; cases z
        have u2' := u2 (D + 3)
        clear R i0 i1 G cs G2 b2 u2 gb
        rw [s_324_27]
        simp (disch := omega) only [s_324_0, s_324_1, s_324_2, s_324_5, s_324_6, s_324_7, s_324_8, s_324_11, s_324_12, s_324_15, s_324_16, s_324_17, s_324_20, s_324_21, s_324_22, s_324_24, s_324_28, s_324_31, s_324_34, s_324_35, s_324_38, s_324_40, s_324_43, s_324_44, s_324_45, s_324_46, s_324_47, s_324_50, s_324_53, s_324_57, s_324_59, s_324_62, s_324_63, e_324, mv_i_1, mv_l_1, mv_a_1, mv_a_2, mv_a_3, mk2_n, mk2_i, mk2_l, mk2_a, mk2_u, mk2_x, mB_T, mB_F, mS_cons, mS_nil, mSB_T, mSB_F, mca_nil, mca_i, mca_l, mca_r, mca_u, mca_x, mcat_i, mcat_l, mcat_r, mcat_u, mcat_x, mK_some, mK_none, va_rf_s, va_rf_n, lgc_eq, lgc_lt, lgc_gt, lgc_ge, lgc_le, mrd_104, mrd_105, mrd_106, mrd_107, true_and, and_true, and_self, false_and, and_false, true_or, or_true, false_or, or_false, not_true_eq_false, not_false_eq_true, mgb, mga, mgr, mN, reduceCtorEq, ↓reduceIte, eq_self, ge_iff_le, gt_iff_lt, Nat.reduceAdd, Nat.reduceMul, Nat.reduceSub, Nat.reduceLT, Nat.reduceGT, Nat.reduceEqDiff, Nat.reduceLeDiff, Nat.left_eq_add, Nat.add_eq_left, Nat.reduceMod, Nat.reduceDiv, Nat.succ_ne_self, pH_g, pH_9, g, bd, k0, q0, y1, u1, u2']
      rw [bnd_o] at G2 b2
      generalize pgB K P V N f 1 d j = y at *
      obtain ⟨j', o'⟩ := y
      obtain ⟨g1, g2, g3⟩ := gb
      rcases o' with _ | t
      · have bd2 : s2.bd = true := by
          rcases G2.2.2.2.2.2 with ⟨r, z, -⟩ | ⟨-, z, -⟩
          · cases z
          · exact z
        exact ⟨b2, s2, G2, fun Q => by rw [run Q]; exact x_324 R bd2 Q⟩
      · obtain ⟨⟨g4, n, cs', g5⟩, -⟩ : (j < j' ∧ ∃ n cs, t = tNd n cs) ∧ True := ⟨(g3 t rfl).1 rfl, trivial⟩
        subst g5
        have g2' : j' < m := g2
        obtain ⟨b3, s3, G3, z3⟩ := i0 d (D + 4) s2 s0 (j', some (tC r (tNd n cs'))) i a o q e fx k p v G2 g2' (by show 8 * (m - j') + 2 ≤ f; omega) hd hD h52
        rw [bnd_o] at b3 G3
        have EQ : (bnd (pgB K P V N f 0 d j') fun t k => (k, some (tC (tC r (tNd n cs')) t))) = (bnd (bnd (j', some (tNd n cs')) fun t j => bnd (pgB K P V N f 0 d j) fun r k => (k, some (tA t r))) fun t k => (k, some (tC r t))) := by
          simp only [bnd_o, bnd_b]
          exact bnd_f (fun t k => by rw [tC_a]; rfl)
        rw [EQ] at b3 G3
        exact ⟨b3, s3, G3, fun Q => by rw [run Q]; exact z3 Q⟩
/-- a statement -/
theorem b_sta (R : RTK h m K P V) (hN : 8 * m + 6 ≤ N) (i2 : PS2 h m K P V N f) : PS1 h m K P V N (f + 1) := by
  intro d D s hf hi eb hd hD hr
  obtain ⟨D, rfl⟩ : ∃ D', D = D' + 6 := ⟨D - 6, by omega⟩
  rw [pgB_1]
  by_cases c1 : K s.at = 5
  · rw [if_pos c1]; exact s_var (D := D + 2) R hN hi eb hd (by omega) hr c1
  rw [if_neg c1]
  by_cases c2 : K s.at = 2
  · rw [if_pos c2, pgN_e]
    obtain ⟨s1, v1, S1, q1⟩ := c_327 (D := D) (N := N) R hN hi eb hd (by omega) hr c2
    have gb := pgN_b (P := P) (V := V) (N := N) (d := d) R.M hi c2
    have lt1 : s1.at < m := by rw [S1.2.1]; exact gb.2.1
    have q2 := c_312 (D := D + 4) (s := s1) R lt1 (c := 59) (y := 59) (by decide) rfl (by decide)
    refine ⟨s1.tk K P 59, v1, SR_t S1 gb, fun Q => ?_⟩
    have hm := R.m
    have g := R.F.g 81 14 70 (by decide +kernel)
    have r1 := R.F.f 81 5 84 (by decide +kernel)
    have g1 := R.F.g 84 100 16402 (by decide +kernel)
    have l1 := R.F.l 84 100 16402 (by decide +kernel)
    have e := (R.p _ hi).1
    have q0 := c_310 (D := D + 5) R hi
    rw [lk_0 eb, c2] at q0
    have q0' : ∀ Q, mcall (D + 5) 310 [.ref 81] (pH h s) Q = Q (some (.int 2)) (pH h s) := q0
    have x1 : ((2 : Int32) = 301) = False := by decide
    have x2 : ((2 : Int32) = 2) = True := by decide
    clear R i2 S1 gb
    simp (disch := omega) only [s_326_0, s_326_1, s_326_4, s_326_5, s_326_8, s_326_9, s_326_10, s_326_11, s_326_14, s_326_15, s_326_16, s_326_18, s_326_19, s_326_22, s_326_25, s_326_26, s_326_29, s_326_32, s_326_33, s_326_36, s_326_38, s_326_39, s_326_40, s_326_43, s_326_45, s_326_48, s_326_49, s_326_52, s_326_53, s_326_54, s_326_55, s_326_58, s_326_60, s_326_61, s_326_63, s_326_65, s_326_68, s_326_69, s_326_72, s_326_74, s_326_77, s_326_78, s_326_80, s_326_83, s_326_84, s_326_86, s_326_87, s_326_88, s_326_91, s_326_94, s_326_95, s_326_97, s_326_100, s_326_103, s_326_104, s_326_107, s_326_109, s_326_112, s_326_113, s_326_115, s_326_118, s_326_119, s_326_121, s_326_122, s_326_125, s_326_128, s_326_129, s_326_132, s_326_133, s_326_134, s_326_135, s_326_136, s_326_139, s_326_142, s_326_143, s_326_145, s_326_148, s_326_151, s_326_152, s_326_153, s_326_156, s_326_157, s_326_158, s_326_159, s_326_162, s_326_164, s_326_165, s_326_167, s_326_170, s_326_173, s_326_174, s_326_177, s_326_180, s_326_181, s_326_184, s_326_187, s_326_188, s_326_189, s_326_192, s_326_195, s_326_197, s_326_200, s_326_202, s_326_203, s_326_204, s_326_207, s_326_209, s_326_210, s_326_211, s_326_214, s_326_215, s_326_217, s_326_220, s_326_221, s_326_223, s_326_224, s_326_227, s_326_230, s_326_231, s_326_234, s_326_235, s_326_236, s_326_237, s_326_238, s_326_241, s_326_244, s_326_245, s_326_247, s_326_250, s_326_251, s_326_253, s_326_254, s_326_257, s_326_260, s_326_261, s_326_264, s_326_265, s_326_266, s_326_267, s_326_268, s_326_271, s_326_274, s_326_275, s_326_278, s_326_281, s_326_282, s_326_285, s_326_288, s_326_291, s_326_292, s_326_295, s_326_298, s_326_299, s_326_301, s_326_302, s_326_305, s_326_308, s_326_309, s_326_312, s_326_313, s_326_314, s_326_315, s_326_316, s_326_319, s_326_322, s_326_325, s_326_326, s_326_329, s_326_332, s_326_333, s_326_335, s_326_336, s_326_337, s_326_340, s_326_342, s_326_343, s_326_346, s_326_349, s_326_350, s_326_352, s_326_355, s_326_356, s_326_358, s_326_359, s_326_362, s_326_365, s_326_366, s_326_369, s_326_370, s_326_371, s_326_372, s_326_373, s_326_376, s_326_379, s_326_380, s_326_382, s_326_385, s_326_386, s_326_388, s_326_391, s_326_394, s_326_395, s_326_398, s_326_401, s_326_402, s_326_404, s_326_405, s_326_406, s_326_409, s_326_411, s_326_412, s_326_414, s_326_415, s_326_418, s_326_421, s_326_422, s_326_425, s_326_426, s_326_427, s_326_428, s_326_429, s_326_432, s_326_435, s_326_436, s_326_438, s_326_441, s_326_443, e_326, mv_i_1, mv_l_1, mv_a_1, mv_a_2, mv_a_3, mk2_n, mk2_i, mk2_l, mk2_a, mk2_u, mk2_x, mB_T, mB_F, mS_cons, mS_nil, mSB_T, mSB_F, mca_nil, mca_i, mca_l, mca_r, mca_u, mca_x, mcat_i, mcat_l, mcat_r, mcat_u, mcat_x, mK_some, mK_none, va_rf_s, va_rf_n, lgc_eq, lgc_lt, lgc_gt, lgc_ge, lgc_le, mrd_104, mrd_105, mrd_106, mrd_107, true_and, and_true, and_self, false_and, and_false, true_or, or_true, false_or, or_false, not_true_eq_false, not_false_eq_true, mgb, mga, mgr, mN, reduceCtorEq, ↓reduceIte, eq_self, ge_iff_le, gt_iff_lt, Nat.reduceAdd, Nat.reduceMul, Nat.reduceSub, Nat.reduceLT, Nat.reduceGT, Nat.reduceEqDiff, Nat.reduceLeDiff, Nat.left_eq_add, Nat.add_eq_left, Nat.reduceMod, Nat.reduceDiv, Nat.succ_ne_self, pH_g, pH_r, pH_l, g, r1, g1, l1, pH_8, pH_84, nn_mxT, nn_clamp, e, q0', x1, x2, q1, q2]
  rw [if_neg c2]
  by_cases c3 : K s.at = 6
  · rw [if_pos c3]; exact s_if (D := D + 2) R i2 hf hN hi eb hd (by omega) hr c3
  rw [if_neg c3]
  by_cases c4 : K s.at = 8
  · rw [if_pos c4]; exact s_whi (D := D + 2) R i2 hf hN hi eb hd (by omega) hr c4
  rw [if_neg c4]
  by_cases c5 : K s.at = 9
  · rw [if_pos c5]; exact s_ass (D := D + 2) R hN hi eb hd (by omega) hr c5
  rw [if_neg c5]
  exact s_ret (D := D + 2) R (by omega) hi eb hd (by omega) hr c1 c2 c3 c4 c5
/-- a BLOCK -/
theorem b_blk (R : RTK h m K P V) (i0 : PS0 h m K P V N f) : PS2 h m K P V N (f + 1) := by
  intro d D s hf hi eb hd hD hr
  obtain ⟨D, rfl⟩ : ∃ D', D = D' + 4 := ⟨D - 4, by omega⟩
  rw [pgB_2]
  have hp := (R.p _ hi).2
  have hm := R.m
  have g := R.F.g 81 14 70 (by decide +kernel)
  have r1 := R.F.f 81 5 84 (by decide +kernel)
  have g1 := R.F.g 84 100 16402 (by decide +kernel)
  have l1 := R.F.l 84 100 16402 (by decide +kernel)
  have e := (R.p _ hi).1
  have qd := c_317 (D := D + 2) (s := s) R hi (d := d) (by omega)
  have bad : ∀ s0 : pst, s0.bd = true → s0.at = s.at → s0.fl = Int32.ofNat (P s.at) → s0.dr = s.dr + 1 → pSm s.dr s s0 → (∀ Q, mcall (D + 4) 324 [.ref 81, .int (Int32.ofNat d)] (pH h s) Q = mw (D + 4) 324 Q 27 [some (.ref 81), some (.int (Int32.ofNat d)), some (.int (Int32.ofNat s.dr))] [] (pH h s0)) → ∃ s' v, SR P (s.at, none) s.at s.dr s s' v ∧ ∀ Q, mcall (D + 4) 324 [.ref 81, .int (Int32.ofNat d)] (pH h s) Q = Q (some (.int v)) (pH h s') := by
    intro s0 b1 b2 b3 b4 b5 b6
    have q9 := c_312 (D := D + 2) (s := s0) R (by omega) (c := 125) (y := 125) (by decide) rfl (by decide)
    rw [tk_b b1] at q9
    refine ⟨s0, Int32.ofNat s.dr, SR_no b5 b2 b1 b3 (by omega) (by omega) (Or.inr ⟨_, rfl, by omega⟩), fun Q => ?_⟩
    rw [b6 Q, x_324 R b1 Q]
    clear R i0 b5 b6
    simp (disch := omega) only [s_324_0, s_324_1, s_324_2, s_324_5, s_324_6, s_324_7, s_324_8, s_324_11, s_324_12, s_324_15, s_324_16, s_324_17, s_324_20, s_324_21, s_324_22, s_324_24, s_324_27, s_324_28, s_324_31, s_324_34, s_324_35, s_324_38, s_324_40, s_324_43, s_324_44, s_324_45, s_324_46, s_324_47, s_324_50, s_324_53, s_324_56, s_324_57, s_324_59, s_324_62, s_324_63, e_324, mv_i_1, mv_l_1, mv_a_1, mv_a_2, mv_a_3, mk2_n, mk2_i, mk2_l, mk2_a, mk2_u, mk2_x, mB_T, mB_F, mS_cons, mS_nil, mSB_T, mSB_F, mca_nil, mca_i, mca_l, mca_r, mca_u, mca_x, mcat_i, mcat_l, mcat_r, mcat_u, mcat_x, mK_some, mK_none, va_rf_s, va_rf_n, lgc_eq, lgc_lt, lgc_gt, lgc_ge, lgc_le, mrd_104, mrd_105, mrd_106, mrd_107, true_and, and_true, and_self, false_and, and_false, true_or, or_true, false_or, or_false, not_true_eq_false, not_false_eq_true, mgb, mga, mgr, mN, reduceCtorEq, ↓reduceIte, eq_self, ge_iff_le, gt_iff_lt, Nat.reduceAdd, Nat.reduceMul, Nat.reduceSub, Nat.reduceLT, Nat.reduceGT, Nat.reduceEqDiff, Nat.reduceLeDiff, Nat.left_eq_add, Nat.add_eq_left, Nat.reduceMod, Nat.reduceDiv, Nat.succ_ne_self, pH_g, g, q9]
  by_cases cd : 60 < d
  · rw [if_pos cd]
    have e3 : s.dp P d = s.ko (P s.at) := by unfold pst.dp; rw [if_pos ⟨cd, eb⟩]
    rw [e3] at qd
    have q1 := c_313 (D := D + 3) (s := s.ko (P s.at)) R.F (by show s.dr < 52000; omega) (k := 2) (p := Int32.ofNat (P s.at)) (v := 0)
    have q1' : ∀ Q, mcall (D + 3) 313 [.ref 81, .int 2, .int (Int32.ofNat (P s.at)), .int 0] (pH h (s.ko (P s.at))) Q = Q (some (.int (Int32.ofNat s.dr))) (pH h ((s.ko (P s.at)).dft 2 (Int32.ofNat (P s.at)) 0)) := q1
    have q2 := c_312 (D := D + 2) (s := (s.ko (P s.at)).dft 2 (Int32.ofNat (P s.at)) 0) R hi (c := 123) (y := 123) (by decide) rfl (by decide)
    rw [tk_b rfl] at q2
    have ka : (s.ko (P s.at)).at = s.at := rfl
    refine bad ((s.ko (P s.at)).dft 2 (Int32.ofNat (P s.at)) 0) rfl rfl rfl rfl (pSm_t ko_m (dft_m (Nat.le_refl _))) (fun Q => ?_)
    clear R i0 bad
    simp (disch := omega) only [s_324_0, s_324_1, s_324_2, s_324_5, s_324_6, s_324_7, s_324_8, s_324_11, s_324_12, s_324_15, s_324_16, s_324_17, s_324_20, s_324_21, s_324_22, s_324_24, s_324_28, s_324_31, s_324_34, s_324_35, s_324_38, s_324_40, s_324_43, s_324_44, s_324_45, s_324_46, s_324_47, s_324_50, s_324_53, s_324_56, s_324_57, s_324_59, s_324_62, s_324_63, e_324, mv_i_1, mv_l_1, mv_a_1, mv_a_2, mv_a_3, mk2_n, mk2_i, mk2_l, mk2_a, mk2_u, mk2_x, mB_T, mB_F, mS_cons, mS_nil, mSB_T, mSB_F, mca_nil, mca_i, mca_l, mca_r, mca_u, mca_x, mcat_i, mcat_l, mcat_r, mcat_u, mcat_x, mK_some, mK_none, va_rf_s, va_rf_n, lgc_eq, lgc_lt, lgc_gt, lgc_ge, lgc_le, mrd_104, mrd_105, mrd_106, mrd_107, true_and, and_true, and_self, false_and, and_false, true_or, or_true, false_or, or_false, not_true_eq_false, not_false_eq_true, mgb, mga, mgr, mN, reduceCtorEq, ↓reduceIte, eq_self, ge_iff_le, gt_iff_lt, Nat.reduceAdd, Nat.reduceMul, Nat.reduceSub, Nat.reduceLT, Nat.reduceGT, Nat.reduceEqDiff, Nat.reduceLeDiff, Nat.left_eq_add, Nat.add_eq_left, Nat.reduceMod, Nat.reduceDiv, Nat.succ_ne_self, pH_g, pH_r, pH_l, g, r1, g1, l1, pH_8, pH_84, ka, nn_mxT, nn_clamp, e, qd, q1', q2]
  rw [if_neg cd]
  have e3 : s.dp P d = s := by unfold pst.dp; rw [if_neg (fun z => cd z.1)]
  rw [e3] at qd
  have q1 := c_313 (D := D + 3) (s := s) R.F (by omega) (k := 2) (p := Int32.ofNat (P s.at)) (v := 0)
  obtain ⟨s1, hs1⟩ : ∃ x : pst, x = s.dft 2 (Int32.ofNat (P s.at)) 0 := ⟨_, rfl⟩
  rw [← hs1] at q1
  have at1 : s1.at = s.at := by rw [hs1]; rfl
  have bd1 : s1.bd = false := by rw [hs1]; exact eb
  have m1 : pSm s.dr s s1 := by rw [hs1]; exact dft_m (Nat.le_refl _)
  have a1 : nf s1 s.dr 2 (Int32.ofNat (P s.at)) 0 (-1) (-1) (-1) := by rw [hs1]; exact dft_n (s := s)
  have q2 := c_312 (D := D + 2) (s := s1) R (by omega) (c := 123) (y := 123) (by decide) rfl (by decide)
  by_cases c : K s.at = 123
  · have h1 := tkM_s R.M hi c (by decide) (by decide)
    rw [show ∀ r, tak K 123 s.at r = r from fun r => if_pos c]
    rw [tk_1 bd1 (by rw [at1]; exact c), at1] at q2
    obtain ⟨s2, hs2⟩ : ∃ x : pst, x = s1.uA (s.at + 1) := ⟨_, rfl⟩
    rw [← hs2] at q2
    have G2 : GS P false s s.at s.dr s.dr s.dr (s.dr + 1) 0 2 (Int32.ofNat (P s.at)) 0 s2 (s.at + 1, some (.leaf ())) := GS_0 (by rw [hs2]; exact pSm_t m1 uA_m) (by rw [hs2]; rfl) (by omega) (by rw [hs2]; exact bd1) (by rw [hs2, hs1]; rfl) (by rw [hs2, hs1]; rfl) (by omega) (by rw [hs2]; exact a1)
    obtain ⟨b3, s3, G3, z3⟩ := i0 d (D + 4) s2 s (s.at + 1, some (.leaf ())) s.at s.dr s.dr s.dr (s.dr + 1) 0 2 (Int32.ofNat (P s.at)) 0 G2 h1 (by show 8 * (m - (s.at + 1)) + 2 ≤ f; omega) (by omega) hD (by omega)
    have q9 := c_312 (D := D + 2) (s := s3) R (by rw [G3.2.1]; exact b3) (c := 125) (y := 125) (by decide) rfl (by decide)
    have G4 := GS_tk (K := K) (c := 125) (by omega) G3
    have ST := GS_e0 (n := tE 2 (P s.at) 0) G4 pSm_r rfl (by rw [tE_K (by decide)]; rfl) (by rw [tE_P (by decide) (by omega)]) (by rw [tE_V (by decide) (by omega)]; rfl) (fun r => by unfold dSc; rw [tE_K (by decide)]; rfl)
    refine ⟨s3.tk K P 125, Int32.ofNat s.dr, ?_, fun Q => ?_⟩
    · simp only [bnd_o, bnd_b, bnd_t, tC] at ST
      have gk := (pgB_b (P := P) (V := V) (N := N) R.M f 0 d (s.at + 1) (by decide) h1).2 rfl
      generalize pgB K P V N f 0 d (s.at + 1) = y at *
      obtain ⟨j, _ | t⟩ := y
      · exact ST
      · rw [bnd_o] at ST ⊢
        rw [show ∀ r, tak K 125 j r = r from fun r => if_pos (gk j t rfl)] at ST
        exact ST
    · have st : mcall (D + 4) 324 [.ref 81, .int (Int32.ofNat d)] (pH h s) Q = mw (D + 4) 324 Q 27 [some (.ref 81), some (.int (Int32.ofNat d)), some (.int (Int32.ofNat s.dr))] [] (pH h s2) := by
        clear R i0 bad G2 G3 G4 ST z3 b3 m1 a1
        simp (disch := omega) only [s_324_0, s_324_1, s_324_2, s_324_5, s_324_6, s_324_7, s_324_8, s_324_11, s_324_12, s_324_15, s_324_16, s_324_17, s_324_20, s_324_21, s_324_22, s_324_24, s_324_28, s_324_31, s_324_34, s_324_35, s_324_38, s_324_40, s_324_43, s_324_44, s_324_45, s_324_46, s_324_47, s_324_50, s_324_53, s_324_56, s_324_57, s_324_59, s_324_62, s_324_63, e_324, mv_i_1, mv_l_1, mv_a_1, mv_a_2, mv_a_3, mk2_n, mk2_i, mk2_l, mk2_a, mk2_u, mk2_x, mB_T, mB_F, mS_cons, mS_nil, mSB_T, mSB_F, mca_nil, mca_i, mca_l, mca_r, mca_u, mca_x, mcat_i, mcat_l, mcat_r, mcat_u, mcat_x, mK_some, mK_none, va_rf_s, va_rf_n, lgc_eq, lgc_lt, lgc_gt, lgc_ge, lgc_le, mrd_104, mrd_105, mrd_106, mrd_107, true_and, and_true, and_self, false_and, and_false, true_or, or_true, false_or, or_false, not_true_eq_false, not_false_eq_true, mgb, mga, mgr, mN, reduceCtorEq, ↓reduceIte, eq_self, ge_iff_le, gt_iff_lt, Nat.reduceAdd, Nat.reduceMul, Nat.reduceSub, Nat.reduceLT, Nat.reduceGT, Nat.reduceEqDiff, Nat.reduceLeDiff, Nat.left_eq_add, Nat.add_eq_left, Nat.reduceMod, Nat.reduceDiv, Nat.succ_ne_self, pH_g, pH_r, pH_l, g, r1, g1, l1, pH_8, pH_84, nn_mxT, nn_clamp, e, qd, q1, q2]
      rw [st, z3 Q]
      clear R i0 bad G2 G3 G4 ST z3 b3 m1 a1 st
      simp (disch := omega) only [s_324_0, s_324_1, s_324_2, s_324_5, s_324_6, s_324_7, s_324_8, s_324_11, s_324_12, s_324_15, s_324_16, s_324_17, s_324_20, s_324_21, s_324_22, s_324_24, s_324_27, s_324_28, s_324_31, s_324_34, s_324_35, s_324_38, s_324_40, s_324_43, s_324_44, s_324_45, s_324_46, s_324_47, s_324_50, s_324_53, s_324_56, s_324_57, s_324_59, s_324_62, s_324_63, e_324, mv_i_1, mv_l_1, mv_a_1, mv_a_2, mv_a_3, mk2_n, mk2_i, mk2_l, mk2_a, mk2_u, mk2_x, mB_T, mB_F, mS_cons, mS_nil, mSB_T, mSB_F, mca_nil, mca_i, mca_l, mca_r, mca_u, mca_x, mcat_i, mcat_l, mcat_r, mcat_u, mcat_x, mK_some, mK_none, va_rf_s, va_rf_n, lgc_eq, lgc_lt, lgc_gt, lgc_ge, lgc_le, mrd_104, mrd_105, mrd_106, mrd_107, true_and, and_true, and_self, false_and, and_false, true_or, or_true, false_or, or_false, not_true_eq_false, not_false_eq_true, mgb, mga, mgr, mN, reduceCtorEq, ↓reduceIte, eq_self, ge_iff_le, gt_iff_lt, Nat.reduceAdd, Nat.reduceMul, Nat.reduceSub, Nat.reduceLT, Nat.reduceGT, Nat.reduceEqDiff, Nat.reduceLeDiff, Nat.left_eq_add, Nat.add_eq_left, Nat.reduceMod, Nat.reduceDiv, Nat.succ_ne_self, pH_g, g, q9]
  · rw [show ∀ r, tak K 123 s.at r = (s.at, none) from fun r => if_neg c]
    rw [tk_0 bd1 (by rw [at1]; exact c), at1] at q2
    refine bad (s1.ko (P s.at)) rfl at1 rfl (by rw [hs1]; rfl) (pSm_t m1 ko_m) (fun Q => ?_)
    clear R i0 bad m1 a1
    simp (disch := omega) only [s_324_0, s_324_1, s_324_2, s_324_5, s_324_6, s_324_7, s_324_8, s_324_11, s_324_12, s_324_15, s_324_16, s_324_17, s_324_20, s_324_21, s_324_22, s_324_24, s_324_28, s_324_31, s_324_34, s_324_35, s_324_38, s_324_40, s_324_43, s_324_44, s_324_45, s_324_46, s_324_47, s_324_50, s_324_53, s_324_56, s_324_57, s_324_59, s_324_62, s_324_63, e_324, mv_i_1, mv_l_1, mv_a_1, mv_a_2, mv_a_3, mk2_n, mk2_i, mk2_l, mk2_a, mk2_u, mk2_x, mB_T, mB_F, mS_cons, mS_nil, mSB_T, mSB_F, mca_nil, mca_i, mca_l, mca_r, mca_u, mca_x, mcat_i, mcat_l, mcat_r, mcat_u, mcat_x, mK_some, mK_none, va_rf_s, va_rf_n, lgc_eq, lgc_lt, lgc_gt, lgc_ge, lgc_le, mrd_104, mrd_105, mrd_106, mrd_107, true_and, and_true, and_self, false_and, and_false, true_or, or_true, false_or, or_false, not_true_eq_false, not_false_eq_true, mgb, mga, mgr, mN, reduceCtorEq, ↓reduceIte, eq_self, ge_iff_le, gt_iff_lt, Nat.reduceAdd, Nat.reduceMul, Nat.reduceSub, Nat.reduceLT, Nat.reduceGT, Nat.reduceEqDiff, Nat.reduceLeDiff, Nat.left_eq_add, Nat.add_eq_left, Nat.reduceMod, Nat.reduceDiv, Nat.succ_ne_self, pH_g, pH_r, pH_l, g, r1, g1, l1, pH_8, pH_84, nn_mxT, nn_clamp, e, qd, q1, q2]
/-- THE REFERENCE'S block IS the grammar's BLOCK -/
theorem ps_all (R : RTK h m K P V) (hN : 8 * m + 6 ≤ N) : ∀ f, PS0 h m K P V N f ∧ PS1 h m K P V N f ∧ PS2 h m K P V N f := by
  intro f
  induction f with
  | zero => exact ⟨fun d D s s0 x i a o q e fx k p v G hx hf => by omega, fun d D s hf hi => by omega, fun d D s hf hi => by omega⟩
  | succ f ih => exact ⟨b_row R ih.1 ih.2.1, b_sta R hN ih.2.2, b_blk R ih.1⟩
end HFs
