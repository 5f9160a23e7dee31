set_option maxRecDepth 100000
/-! THE REFERENCE'S PARSER: where a node is done; return, assert -/
section GUs
variable {h : mh_H} {P : Nat → Nat} {K : Nat → Int32} {s s0 s' : pst} {i a o q e : Nat} {fx k p v : Int32} {x : pqr}
/-- done: its parts stand behind it -/
theorem GS_e0 {n : Nat} (w : GS P false s0 i a a q (a + 1) fx k p v s' x) (m0 : pSm a s s0) (f0 : s0.fl = s.fl) (e1 : k = Int32.ofNat (tK n)) (e2 : p = Int32.ofNat (tP n)) (e3 : v.toInt = tV n) (c : ∀ r, dSc n r = 0) : SR P (bnd x fun r j => (j, some (tNd n r))) i a s s' (Int32.ofNat a) := by
  obtain ⟨w1, w2, w3, w4, w5, w6⟩ := w
  obtain ⟨j, ot⟩ := x
  rcases w6 with ⟨r, o1, bd, fl, dr, bo, gn⟩ | ⟨o1, bd, fl, dr, bo⟩
  · have o1' : ot = some r := o1
    subst o1'
    obtain ⟨g1, g2⟩ := gn
    rw [if_neg (by decide)] at g1
    obtain ⟨L, g1, -⟩ := g1
    have ST := SR_ok (P := P) (i := i) (pSm_t m0 w1) w2 bd (fl.trans f0) (by rw [dr]; omega) (dq_m0 (cs := r) (r := .leaf ()) g1 e1 e2 e3 (c r) rfl rfl g2)
    rw [dOf_0 (c r)] at ST
    exact ST
  · have o1' : ot = none := o1
    subst o1'
    exact SR_no (pSm_t m0 w1) w2 bd fl (by omega) bo (Or.inr ⟨_, rfl, by omega⟩)
/-- done: it stands behind its first part, a NAME -/
theorem GS_e1 {n mn : Nat} {kq pq' vq : Int32} (w : GS P true s0 i a (a + 1) a (a + 2) (Int32.ofNat a) k p v s' x) (m0 : pSm a s s0) (f0 : s0.fl = s.fl) (e1 : k = Int32.ofNat (tK n)) (e2 : p = Int32.ofNat (tP n)) (e3 : v.toInt = tV n) (c : ∀ r, dSc n (.branch mn (.leaf ()) r) = 1) (b0 : s0.K a = kq ∧ s0.P a = pq' ∧ s0.V a = vq ∧ s0.F a = -1) (b1 : kq = Int32.ofNat (tK mn)) (b2 : pq' = Int32.ofNat (tP mn)) (b3 : vq.toInt = tV mn) (cm : dSc mn (.leaf ()) = 0) : SR P (bnd x fun r j => (j, some (tNd n (.branch mn (.leaf ()) r)))) i a s s' (Int32.ofNat (a + 1)) := by
  obtain ⟨w1, w2, w3, w4, w5, w6⟩ := w
  obtain ⟨j, ot⟩ := x
  rcases w6 with ⟨r, o1, bd, fl, dr, bo, gn⟩ | ⟨o1, bd, fl, dr, bo⟩
  · have o1' : ot = some r := o1
    subst o1'
    obtain ⟨g1, g2⟩ := gn
    rw [if_pos rfl] at g1
    obtain ⟨g1, g3, -⟩ := g1
    obtain ⟨u1, u2, u3, u4⟩ := w5 a (by omega) (by omega)
    have nq : nf s' a kq pq' vq (-1) (s'.L a) (dHd r (a + 2)) := ⟨u1.trans b0.1, u2.trans b0.2.1, u3.trans b0.2.2.1, u4.trans b0.2.2.2, rfl, g3⟩
    have ST := SR_ok (P := P) (i := i) (pSm_t m0 w1) w2 bd (fl.trans f0) (by rw [dr]; show _ = a + (1 + (1 + 0 + ts r)); omega) (dq_m1 (c := .leaf ()) (r' := r) (r := .leaf ()) (a := a) g1 e1 e2 e3 (c r) (by rw [dOf_0 cm]; rfl) rfl (dq_m0 (cs := .leaf ()) nq b1 b2 b3 cm rfl rfl trivial) g2)
    rw [dOf_1 (c r)] at ST
    exact ST
  · have o1' : ot = none := o1
    subst o1'
    exact SR_no (pSm_t m0 w1) w2 bd fl (by omega) bo (Or.inr ⟨_, rfl, by omega⟩)
/-- a node without parts yet -/
theorem GS_0 {j : Nat} (m0 : pSm a s0 s) (ea : s.at = j) (hi : i ≤ j) (eb : s.bd = false) (ef : s.fl = s0.fl) (ed : s.dr = a + 1) (hb : a + 1 ≤ a + 2 * (j - i)) (w : nf s a k p v (-1) (-1) (-1)) : GS P false s0 i a a a (a + 1) fx k p v s (j, some (.leaf ())) := by
  refine ⟨m0, ea, ⟨Nat.le_refl _, Nat.lt_succ_self _, Nat.le_refl _, hi⟩, fun y y1 y2 _ => m0 y (by omega), fun y y1 y2 => ?_, Or.inl ⟨_, rfl, eb, ef, ed, hb, ?_, trivial⟩⟩
  · obtain ⟨u1, u2, u3, u4, -⟩ := m0 y (by omega)
    exact ⟨u1, u2, u3, u4⟩
  · rw [if_neg (by decide)]
    exact ⟨_, w, fun z => absurd z (show ¬ 1 ≤ 0 from by decide)⟩
theorem bnd_f {r : pqr} {g g' : tr → Nat → pqr} (e : ∀ t j, g t j = g' t j) : bnd r g = bnd r g' := by
  rcases r with ⟨j, _ | t⟩
  · rfl
  · exact e t j
theorem bnd_b {r : pqr} {g g' : tr → Nat → pqr} : bnd (bnd r g) g' = bnd r fun t j => bnd (g t j) g' := by
  rcases r with ⟨j, _ | t⟩ <;> rfl
theorem bnd_t {j : Nat} {c : Int32} {r : pqr} {g : tr → Nat → pqr} : bnd (tak K c j r) g = tak K c j (bnd r g) := by
  unfold tak
  by_cases q : K j = c
  · rw [if_pos q, if_pos q]
  · rw [if_neg q, if_neg q]; rfl
end GUs
section GVs
variable {D f N : Nat} {h : mh_H} {m : Nat} {K : Nat → Int32} {P : Nat → Nat} {V : Nat → Int} {s : pst} {d : Nat}
/-- return SUM ; (or no statement at all) -/
theorem s_ret (R : RTK h m K P V) (hN : 8 * m + 3 ≤ N) (hi : s.at < m) (eb : s.bd = false) (hd : d ≤ 60) (hD : 3 * (62 - d) + 10 ≤ D + 4) (hr : s.dr + 2 * (m - s.at) + 8 ≤ 52000) (c1 : ¬ K s.at = 5) (c2 : ¬ K s.at = 2) (c3 : ¬ K s.at = 6) (c4 : ¬ K s.at = 8) (c5 : ¬ K s.at = 9) : ∃ s' v, SR P (if K s.at = 10 then bnd (pgX K P V N 0 (d + 1) (s.at + 1)) fun t j => tak K 59 j (j + 1, some (tNd (tE 11 (P s.at) 0) t)) else (s.at, none)) s.at s.dr s s' v ∧ ∀ Q, mcall (D + 4) 326 [.ref 81, .int (Int32.ofNat d)] (pH h s) Q = Q (some (.int v)) (pH h s') := by
  have hp := (R.p _ hi).2
  have hm := R.m
  have g := R.F.g 81 14 70 (by decide +kernel)
  have r1 := R.F.f 81 5 84 (by decide +kernel)
  have g1 := R.F.g 84 100 16402 (by decide +kernel)
  have l1 := R.F.l 84 100 16402 (by decide +kernel)
  have e := (R.p _ hi).1
  have kv := (R.k _ hi).2
  have n1 : ((1 : Int32) = 0) = False := by decide
  have x1 : (rkd (K s.at) = 301) = False := by rw [rk_e kv (c := 5) (y := 301) (by decide) rfl]; exact eq_false c1
  have x2 : (rkd (K s.at) = 2) = False := by rw [rk_e kv (c := 2) (y := 2) (by decide) rfl]; exact eq_false c2
  have x3 : (rkd (K s.at) = 302) = False := by rw [rk_e kv (c := 6) (y := 302) (by decide) rfl]; exact eq_false c3
  have x4 : (rkd (K s.at) = 304) = False := by rw [rk_e kv (c := 8) (y := 304) (by decide) rfl]; exact eq_false c4
  have x5 : (rkd (K s.at) = 305) = False := by rw [rk_e kv (c := 9) (y := 305) (by decide) rfl]; exact eq_false c5
  have k0 : kb false = 0 := rfl
  have k1 : kb true = 1 := rfl
  have e1' : ∀ k, Int32.ofNat k + 1 = Int32.ofNat (k + 1) := fun k => nn_add (a := k) (b := 1)
  have q0 := c_310 (D := D + 3) R hi
  rw [lk_0 eb] at q0
  have q1 := c_312 (D := D + 2) (s := s) R hi (c := 10) (y := 306) (by decide) rfl (by decide)
  obtain ⟨t1, t2⟩ := tk_d (s := s) (K := K) (P := P) (c := 10)
  have q2 := c_313 (D := D + 3) (s := s.tk K P 10) R.F (by omega) (k := 11) (p := Int32.ofNat (P s.at)) (v := 0)
  rw [t1] at q2
  obtain ⟨s2, hs2⟩ : ∃ x : pst, x = (s.tk K P 10).dft 11 (Int32.ofNat (P s.at)) 0 := ⟨_, rfl⟩
  rw [← hs2] at q2
  have a2 : nf s2 s.dr 11 (Int32.ofNat (P s.at)) 0 (-1) (-1) (-1) := by rw [hs2, ← t1]; exact dft_n
  have m2 : pSm s.dr s s2 := by rw [hs2]; exact pSm_t (t2 s.dr) (dft_m (by omega))
  have d2 : s2.dr = s.dr + 1 := by rw [hs2]; show (s.tk K P 10).dr + 1 = _; omega
  by_cases c : K s.at = 10
  · rw [if_pos c]
    have h1 := tkM_s R.M hi c (by decide) (by decide)
    have et := tk_1 (P := P) eb c
    have at2 : s2.at = s.at + 1 := by rw [hs2, et]; rfl
    have bd2 : s2.bd = false := by rw [hs2, et]; exact eb
    have fl2 : s2.fl = s.fl := by rw [hs2, et]; rfl
    have G2 : GS P false s s.at s.dr s.dr s.dr (s.dr + 1) 0 11 (Int32.ofNat (P s.at)) 0 s2 (s.at + 1, some (.leaf ())) := GS_0 m2 at2 (by omega) bd2 fl2 d2 (by omega) a2
    obtain ⟨hj, s3, G3, z3⟩ := GS_sub (m := m) (Fp := fun j => pgX K P V N 0 (d + 1) j) (M := 318) (D := D + 3) (ar := [.ref 81, .int (Int32.ofNat (d + 1))]) R.F G2 (by omega) h1 (fun b1 b2 b3 => (pe_all R N).1 (d + 1) (D + 3) s2 (by omega) b2 b1 (by omega) (by omega) b3) (fun j hj => pgX_b R.M N 0 (d + 1) j (by decide) hj)
    have at3 : s3.at < m := by rw [G3.2.1]; exact hj
    have G4 := GS_tk (K := K) (c := 59) (by omega) G3
    have q4 := c_312 (D := D + 2) (s := s3) R at3 (c := 59) (y := 59) (by decide) rfl (by decide)
    have ST := GS_e0 (n := tE 11 (P s.at) 0) G4 pSm_r rfl (by rw [tE_K (by decide)]; rfl) (by rw [tE_P (by decide) (by omega)]) (by rw [tE_V (by decide) (by omega)]; rfl) (fun r => by unfold dSc; rw [tE_K (by decide)]; rfl)
    refine ⟨s3.tk K P 59, Int32.ofNat s.dr, ?_, fun Q => ?_⟩
    · simp only [bnd_o, bnd_b, bnd_t, tC] at ST
      exact ST
    · clear ST G2 G3 G4
      rw [et] at q1
      rw [et] at hs2
      have q1' := q1
      rcases z3 with ⟨z, -⟩ | ⟨-, s1, v1, z1, z2⟩
      · rw [bd2] at z; cases z
      · have z2' := z2 (D + 3)
        have q2' : ∀ Q, mcall (D + 3) 313 [.ref 81, .int 11, .int (Int32.ofNat (P s.at)), .int 0] (pH h (s.uA (s.at + 1))) Q = Q (some (.int (Int32.ofNat s.dr))) (pH h s2) := by rw [et] at q2; exact q2
        clear R m2 a2 t2 kv z2 q2
        simp (disch := omega) only [s_326_0, s_326_1, s_326_4, s_326_5, s_326_8, s_326_9, s_326_10, s_326_11, s_326_14, s_326_15, s_326_16, s_326_18, s_326_19, s_326_22, s_326_25, s_326_26, s_326_29, s_326_32, s_326_33, s_326_36, s_326_38, s_326_39, s_326_40, s_326_43, s_326_45, s_326_48, s_326_49, s_326_52, s_326_53, s_326_54, s_326_55, s_326_58, s_326_60, s_326_61, s_326_63, s_326_65, s_326_68, s_326_69, s_326_72, s_326_74, s_326_77, s_326_78, s_326_80, s_326_83, s_326_84, s_326_86, s_326_87, s_326_88, s_326_91, s_326_94, s_326_95, s_326_97, s_326_100, s_326_103, s_326_104, s_326_107, s_326_109, s_326_112, s_326_113, s_326_115, s_326_118, s_326_119, s_326_121, s_326_122, s_326_125, s_326_128, s_326_129, s_326_132, s_326_133, s_326_134, s_326_135, s_326_136, s_326_139, s_326_142, s_326_143, s_326_145, s_326_148, s_326_151, s_326_152, s_326_153, s_326_156, s_326_157, s_326_158, s_326_159, s_326_162, s_326_164, s_326_165, s_326_167, s_326_170, s_326_173, s_326_174, s_326_177, s_326_180, s_326_181, s_326_184, s_326_187, s_326_188, s_326_189, s_326_192, s_326_195, s_326_197, s_326_200, s_326_202, s_326_203, s_326_204, s_326_207, s_326_209, s_326_210, s_326_211, s_326_214, s_326_215, s_326_217, s_326_220, s_326_221, s_326_223, s_326_224, s_326_227, s_326_230, s_326_231, s_326_234, s_326_235, s_326_236, s_326_237, s_326_238, s_326_241, s_326_244, s_326_245, s_326_247, s_326_250, s_326_251, s_326_253, s_326_254, s_326_257, s_326_260, s_326_261, s_326_264, s_326_265, s_326_266, s_326_267, s_326_268, s_326_271, s_326_274, s_326_275, s_326_278, s_326_281, s_326_282, s_326_285, s_326_288, s_326_291, s_326_292, s_326_295, s_326_298, s_326_299, s_326_301, s_326_302, s_326_305, s_326_308, s_326_309, s_326_312, s_326_313, s_326_314, s_326_315, s_326_316, s_326_319, s_326_322, s_326_325, s_326_326, s_326_329, s_326_332, s_326_333, s_326_335, s_326_336, s_326_337, s_326_340, s_326_342, s_326_343, s_326_346, s_326_349, s_326_350, s_326_352, s_326_355, s_326_356, s_326_358, s_326_359, s_326_362, s_326_365, s_326_366, s_326_369, s_326_370, s_326_371, s_326_372, s_326_373, s_326_376, s_326_379, s_326_380, s_326_382, s_326_385, s_326_386, s_326_388, s_326_391, s_326_394, s_326_395, s_326_398, s_326_401, s_326_402, s_326_404, s_326_405, s_326_406, s_326_409, s_326_411, s_326_412, s_326_414, s_326_415, s_326_418, s_326_421, s_326_422, s_326_425, s_326_426, s_326_427, s_326_428, s_326_429, s_326_432, s_326_435, s_326_436, s_326_438, s_326_441, s_326_443, e_326, mv_i_1, mv_l_1, mv_a_1, mv_a_2, mv_a_3, mk2_n, mk2_i, mk2_l, mk2_a, mk2_u, mk2_x, mB_T, mB_F, mS_cons, mS_nil, mSB_T, mSB_F, mca_nil, mca_i, mca_l, mca_r, mca_u, mca_x, mcat_i, mcat_l, mcat_r, mcat_u, mcat_x, mK_some, mK_none, va_rf_s, va_rf_n, lgc_eq, lgc_lt, lgc_gt, lgc_ge, lgc_le, mrd_104, mrd_105, mrd_106, mrd_107, true_and, and_true, and_self, false_and, and_false, true_or, or_true, false_or, or_false, not_true_eq_false, not_false_eq_true, mgb, mga, mgr, mN, reduceCtorEq, ↓reduceIte, eq_self, ge_iff_le, gt_iff_lt, Nat.reduceAdd, Nat.reduceMul, Nat.reduceSub, Nat.reduceLT, Nat.reduceGT, Nat.reduceEqDiff, Nat.reduceLeDiff, Nat.left_eq_add, Nat.add_eq_left, Nat.reduceMod, Nat.reduceDiv, Nat.succ_ne_self, pH_g, pH_r, pH_l, g, r1, g1, l1, pH_8, pH_9, pH_84, nn_mxT, nn_clamp, e, q0, x1, x2, x3, x4, x5, q1, q2', bd2, k0, e1', z1, z2', q4]
  · rw [if_neg c]
    have et := tk_0 (P := P) eb c
    have at2 : s2.at = s.at := by rw [hs2, et]; rfl
    have bd2 : s2.bd = true := by rw [hs2, et]; rfl
    have fl2 : s2.fl = Int32.ofNat (P s.at) := by rw [hs2, et]; rfl
    have q3 := c_314n (D := D + 3) (h := h) (s := s2) (o := Int32.ofNat s.dr)
    have q4 := c_312 (D := D + 2) (s := s2) R (by omega) (c := 59) (y := 59) (by decide) rfl (by decide)
    rw [tk_b bd2] at q4
    refine ⟨s2, Int32.ofNat s.dr, SR_no m2 at2 bd2 fl2 (by omega) (by omega) (Or.inr ⟨_, rfl, by omega⟩), fun Q => ?_⟩
    clear R m2 a2 t2 kv
    simp (disch := omega) only [s_326_0, s_326_1, s_326_4, s_326_5, s_326_8, s_326_9, s_326_10, s_326_11, s_326_14, s_326_15, s_326_16, s_326_18, s_326_19, s_326_22, s_326_25, s_326_26, s_326_29, s_326_32, s_326_33, s_326_36, s_326_38, s_326_39, s_326_40, s_326_43, s_326_45, s_326_48, s_326_49, s_326_52, s_326_53, s_326_54, s_326_55, s_326_58, s_326_60, s_326_61, s_326_63, s_326_65, s_326_68, s_326_69, s_326_72, s_326_74, s_326_77, s_326_78, s_326_80, s_326_83, s_326_84, s_326_86, s_326_87, s_326_88, s_326_91, s_326_94, s_326_95, s_326_97, s_326_100, s_326_103, s_326_104, s_326_107, s_326_109, s_326_112, s_326_113, s_326_115, s_326_118, s_326_119, s_326_121, s_326_122, s_326_125, s_326_128, s_326_129, s_326_132, s_326_133, s_326_134, s_326_135, s_326_136, s_326_139, s_326_142, s_326_143, s_326_145, s_326_148, s_326_151, s_326_152, s_326_153, s_326_156, s_326_157, s_326_158, s_326_159, s_326_162, s_326_164, s_326_165, s_326_167, s_326_170, s_326_173, s_326_174, s_326_177, s_326_180, s_326_181, s_326_184, s_326_187, s_326_188, s_326_189, s_326_192, s_326_195, s_326_197, s_326_200, s_326_202, s_326_203, s_326_204, s_326_207, s_326_209, s_326_210, s_326_211, s_326_214, s_326_215, s_326_217, s_326_220, s_326_221, s_326_223, s_326_224, s_326_227, s_326_230, s_326_231, s_326_234, s_326_235, s_326_236, s_326_237, s_326_238, s_326_241, s_326_244, s_326_245, s_326_247, s_326_250, s_326_251, s_326_253, s_326_254, s_326_257, s_326_260, s_326_261, s_326_264, s_326_265, s_326_266, s_326_267, s_326_268, s_326_271, s_326_274, s_326_275, s_326_278, s_326_281, s_326_282, s_326_285, s_326_288, s_326_291, s_326_292, s_326_295, s_326_298, s_326_299, s_326_301, s_326_302, s_326_305, s_326_308, s_326_309, s_326_312, s_326_313, s_326_314, s_326_315, s_326_316, s_326_319, s_326_322, s_326_325, s_326_326, s_326_329, s_326_332, s_326_333, s_326_335, s_326_336, s_326_337, s_326_340, s_326_342, s_326_343, s_326_346, s_326_349, s_326_350, s_326_352, s_326_355, s_326_356, s_326_358, s_326_359, s_326_362, s_326_365, s_326_366, s_326_369, s_326_370, s_326_371, s_326_372, s_326_373, s_326_376, s_326_379, s_326_380, s_326_382, s_326_385, s_326_386, s_326_388, s_326_391, s_326_394, s_326_395, s_326_398, s_326_401, s_326_402, s_326_404, s_326_405, s_326_406, s_326_409, s_326_411, s_326_412, s_326_414, s_326_415, s_326_418, s_326_421, s_326_422, s_326_425, s_326_426, s_326_427, s_326_428, s_326_429, s_326_432, s_326_435, s_326_436, s_326_438, s_326_441, s_326_443, e_326, mv_i_1, mv_l_1, mv_a_1, mv_a_2, mv_a_3, mk2_n, mk2_i, mk2_l, mk2_a, mk2_u, mk2_x, mB_T, mB_F, mS_cons, mS_nil, mSB_T, mSB_F, mca_nil, mca_i, mca_l, mca_r, mca_u, mca_x, mcat_i, mcat_l, mcat_r, mcat_u, mcat_x, mK_some, mK_none, va_rf_s, va_rf_n, lgc_eq, lgc_lt, lgc_gt, lgc_ge, lgc_le, mrd_104, mrd_105, mrd_106, mrd_107, true_and, and_true, and_self, false_and, and_false, true_or, or_true, false_or, or_false, not_true_eq_false, not_false_eq_true, mgb, mga, mgr, mN, reduceCtorEq, ↓reduceIte, eq_self, ge_iff_le, gt_iff_lt, Nat.reduceAdd, Nat.reduceMul, Nat.reduceSub, Nat.reduceLT, Nat.reduceGT, Nat.reduceEqDiff, Nat.reduceLeDiff, Nat.left_eq_add, Nat.add_eq_left, Nat.reduceMod, Nat.reduceDiv, Nat.succ_ne_self, pH_g, pH_r, pH_l, g, r1, g1, l1, pH_8, pH_9, pH_84, nn_mxT, nn_clamp, e, q0, x1, x2, x3, x4, x5, q1, q2, bd2, k1, n1, q3, q4]
end GVs
