set_option maxRecDepth 100000
/-! THE REFERENCE'S PARSER: var -/
section GYs
variable {D f N : Nat} {h : mh_H} {m : Nat} {K : Nat → Int32} {P : Nat → Nat} {V : Nat → Int} {s : pst} {d : Nat}
theorem d13 {p : Nat} {v : Int} : dSc (tE 13 p v) (.leaf ()) = 0 := by unfold dSc; rw [tE_K (by decide)]; rfl
/-- var -/
theorem s_var (R : RTK h m K P V) (hN : 8 * m + 6 ≤ N) (hi : s.at < m) (eb : s.bd = false) (hd : d ≤ 60) (hD : 6 * (62 - d) + 16 ≤ D + 4) (hr : s.dr + 2 * (m - s.at) + 8 ≤ 52000) (c : K s.at = 5) : ∃ s' v, SR P (tak K 2 (s.at + 1) (
      if K (s.at + 2) = 91 then tak K 3 (s.at + 3) (tak K 93 (s.at + 4) (tak K 59 (s.at + 5) (s.at + 6, some (tNd (tE 4 (P s.at) 0) (.branch (tE 13 (P (s.at + 1)) ((s.at + 1 : Nat) : Int)) (.leaf ()) (tL (tE 12 (P (s.at + 3)) (V (s.at + 3)))))))))
      else if K (s.at + 2) = 61 then bnd (pgX K P V N 0 (d + 1) (s.at + 3)) fun t j => tak K 59 j (j + 1, some (tNd (tE 3 (P s.at) 0) (.branch (tE 13 (P (s.at + 1)) ((s.at + 1 : Nat) : Int)) (.leaf ()) t)))
      else tak K 59 (s.at + 2) (s.at + 3, some (tNd (tE 3 (P s.at) 0) (tL (tE 13 (P (s.at + 1)) ((s.at + 1 : Nat) : Int))))))) s.at s.dr s s' v ∧ ∀ Q, mcall (D + 4) 326 [.ref 81, .int (Int32.ofNat d)] (pH h s) Q = Q (some (.int v)) (pH h s') := by
  have hp := (R.p _ hi).2
  have hm := R.m
  have h1 := tkM_s R.M hi c (by decide) (by decide)
  have hp1 := (R.p _ h1).2
  have g := R.F.g 81 14 70 (by decide +kernel)
  have r1 := R.F.f 81 5 84 (by decide +kernel)
  have g1 := R.F.g 84 100 16402 (by decide +kernel)
  have l1 := R.F.l 84 100 16402 (by decide +kernel)
  have e := (R.p _ hi).1
  have n1 : ((1 : Int32) = 0) = False := by decide
  have x1 : ((301 : Int32) = 301) = True := by decide
  have k0 : kb false = 0 := rfl
  have k1 : kb true = 1 := rfl
  have e1' : ∀ k, Int32.ofNat k + 1 = Int32.ofNat (k + 1) := fun k => nn_add (a := k) (b := 1)
  have q0 := c_310 (D := D + 3) R hi
  rw [lk_0 eb, c] at q0
  have q0' : ∀ Q, mcall (D + 3) 310 [.ref 81] (pH h s) Q = Q (some (.int 301)) (pH h s) := q0
  have q1 := c_312 (D := D + 2) (s := s) R hi (c := 5) (y := 301) (by decide) rfl (by decide)
  rw [tk_1 eb c] at q1
  obtain ⟨u, hu⟩ : ∃ x : pst, x = s.uA (s.at + 1) := ⟨_, rfl⟩
  rw [← hu] at q1
  have atu : u.at = s.at + 1 := by rw [hu]; rfl
  have bdu : u.bd = false := by rw [hu]; exact eb
  have dru : u.dr = s.dr := by rw [hu]; rfl
  have mu : pSm s.dr s u := by rw [hu]; exact uA_m
  have flu : u.fl = s.fl := by rw [hu]; rfl
  by_cases c2 : K (s.at + 1) = 2
  · have h2 := tkM_s R.M h1 c2 (by decide) (by decide)
    have et : ∀ r, tak K 2 (s.at + 1) r = r := fun r => if_pos c2
    rw [et]
    have B : ∀ kk : Int32, _ := fun kk => two_f (s := u) (P := P) (kk := kk) (p := Int32.ofNat (P s.at))
    have W : ∀ kk : Int32, _ := fun kk => two_r (D := D + 3) (kk := kk) (p := Int32.ofNat (P s.at)) R (by omega : u.at < m) bdu (by omega) (by rw [atu]; exact c2)
    have q2 := c_315 (D := D + 1) (s := u) R (by omega) (by omega)
    have e2 : u.nm K P = (u.dft 13 (Int32.ofNat (P u.at)) (Int32.ofNat u.at)).uA (u.at + 1) := by
      unfold pst.nm
      exact tk_1 (s := u.dft 13 (Int32.ofNat (P u.at)) (Int32.ofNat u.at)) bdu (by show K u.at = 2; rw [atu]; exact c2)
    rw [e2] at q2
    obtain ⟨w, hw⟩ : ∃ x : pst, x = (u.dft 13 (Int32.ofNat (P u.at)) (Int32.ofNat u.at)).uA (u.at + 1) := ⟨_, rfl⟩
    have bdw : w.bd = false := by rw [hw]; exact bdu
    have atw : w.at = s.at + 2 := by rw [hw]; show u.at + 1 = _; omega
    rw [← hw] at q2
    rw [dru] at q2
    have q3 := c_310 (D := D + 3) (s := w) R (by omega)
    rw [lk_0 bdw, atw] at q3
    obtain ⟨t1, t2, t3⟩ := tE_13 hp1 (k := 13) (i := s.at + 1) (by decide) (by omega)
    have fin : ∀ (kk : Nat) (s' : pst) (x : pqr), kk = 3 ∨ kk = 4 → GS P true (u.two P (Int32.ofNat kk) (Int32.ofNat (P s.at))) s.at s.dr (s.dr + 1) s.dr (s.dr + 2) (Int32.ofNat s.dr) (Int32.ofNat kk) (Int32.ofNat (P s.at)) 0 s' x → SR P (bnd x fun r j => (j, some (tNd (tE kk (P s.at) 0) (.branch (tE 13 (P (s.at + 1)) ((s.at + 1 : Nat) : Int)) (.leaf ()) r)))) s.at s.dr s s' (Int32.ofNat (s.dr + 1)) := by
      intro kk s' x hk G
      obtain ⟨b1, b2, b3, b4, b5, b6, b7⟩ := B (Int32.ofNat kk)
      rw [dru] at b4 b5 b6 b7
      rw [atu] at b7
      have k64 : kk < 64 := by omega
      exact GS_e1 (n := tE kk (P s.at) 0) (mn := tE 13 (P (s.at + 1)) ((s.at + 1 : Nat) : Int)) G (pSm_t mu b5) (b3.trans flu) (by rw [tE_K k64]) (by rw [tE_P k64 (by omega)]) (by rw [tE_V k64 (by omega)]; rfl) (fun r => by unfold dSc; rw [tE_K k64]; rcases hk with z | z <;> (subst z; rfl)) ⟨b7.1, b7.2.1, b7.2.2.1, b7.2.2.2.1⟩ t1 t2 t3 d13
    have st : ∀ kk : Nat, (kk = 3 ∨ kk = 4) → GS P true (u.two P (Int32.ofNat kk) (Int32.ofNat (P s.at))) s.at s.dr (s.dr + 1) s.dr (s.dr + 2) (Int32.ofNat s.dr) (Int32.ofNat kk) (Int32.ofNat (P s.at)) 0 (u.two P (Int32.ofNat kk) (Int32.ofNat (P s.at))) (s.at + 2, some (.leaf ())) := by
      intro kk hk
      obtain ⟨b1, b2, b3, b4, b5, b6, b7⟩ := B (Int32.ofNat kk)
      rw [dru] at b4 b5 b6 b7
      exact GS_1 (by omega) (by rw [b1]; omega) (b2.trans bdu) b4 (by omega) (by omega) b6 b7.2.2.2.2.2
    have W4 := W 4
    have W3 := W 3
    rw [← hw, dru] at W4 W3
    by_cases c3 : K (s.at + 2) = 91
    · rw [if_pos c3]
      have h3 := tkM_s R.M h2 c3 (by decide) (by decide)
      rw [c3] at q3
      have q3' : ∀ Q, mcall (D + 3) 310 [.ref 81] (pH h w) Q = Q (some (.int 91)) (pH h w) := q3
      have y1 : ((91 : Int32) = 91) = True := by decide
      have G4 := st 4 (Or.inr rfl)
      have a4 := (B 4).1
      have b4 := (B 4).2.1
      obtain ⟨-, w2, w3⟩ := W4
      have fn := fin 4
      obtain ⟨s4, hs4⟩ : ∃ x : pst, x = u.two P 4 (Int32.ofNat (P s.at)) := ⟨_, rfl⟩
      have G4' : GS P true s4 s.at s.dr (s.dr + 1) s.dr (s.dr + 2) (Int32.ofNat s.dr) 4 (Int32.ofNat (P s.at)) 0 s4 (s.at + 2, some (.leaf ())) := by rw [hs4]; exact G4
      have fn' : ∀ s' x, GS P true s4 s.at s.dr (s.dr + 1) s.dr (s.dr + 2) (Int32.ofNat s.dr) 4 (Int32.ofNat (P s.at)) 0 s' x → SR P (bnd x fun r j => (j, some (tNd (tE 4 (P s.at) 0) (.branch (tE 13 (P (s.at + 1)) ((s.at + 1 : Nat) : Int)) (.leaf ()) r)))) s.at s.dr s s' (Int32.ofNat (s.dr + 1)) := by rw [hs4]; exact fun s' x => fn s' x (Or.inr rfl)
      rw [← hs4] at a4 b4 w3
      clear fn fin st G4 B W W3
      have q4 := c_310 (D := D + 3) (s := s4) R (by omega)
      rw [lk_0 (b4.trans bdu), a4, atu, c3] at q4
      have q4' : ∀ Q, mcall (D + 3) 310 [.ref 81] (pH h s4) Q = Q (some (.int 91)) (pH h s4) := q4
      have q5 := c_312 (D := D + 2) (s := s4) R (by omega) (c := 91) (y := 91) (by decide) rfl (by decide)
      have G5 := GS_tk (K := K) (c := 91) (by show s.dr + 2 * (s.at + 2 - s.at) + 8 ≤ 52000; omega) G4'
      have b5 := gd_bt (m := m) (x := (s.at + 2, some (.leaf ()))) (c := 91) R.M (by decide) (by decide) h2
      have bd5 : (s4.tk K P 91).bd = false := by rw [tk_1 (b4.trans bdu) (by rw [a4, atu]; exact c3)]; exact b4.trans bdu
      generalize s4.tk K P 91 = s5 at *
      have lt5 : s5.at < m := by rw [G5.2.1]; exact b5
      obtain ⟨b6, s6, G6, z6⟩ := GS_sub (m := m) (Fp := fun j => tak K 3 j (j + 1, some (tL (tE 12 (P j) (V j))))) (M := 316) (D := D + 3) (ar := [.ref 81, .int 0]) R.F G5 (by omega) b5 (fun y1 y2 y3 => ⟨_, _, nb_num R y2 y1, c_316 (D := D + 1) R y2 (by omega) (lim := false)⟩) (fun j hj => num_b R.M hj)
      have q7 := c_312 (D := D + 2) (s := s6) R (by rw [G6.2.1]; exact b6) (c := 93) (y := 93) (by decide) rfl (by decide)
      have G7 := GS_tk (K := K) (c := 93) (by omega) G6
      have b7 := gd_bt (c := 93) R.M (by decide) (by decide) b6
      have q8 := c_312 (D := D + 2) (s := s6.tk K P 93) R (by rw [G7.2.1]; exact b7) (c := 59) (y := 59) (by decide) rfl (by decide)
      have G8 := GS_tk (K := K) (c := 59) (by omega) G7
      have ST := fn' _ _ G8
      refine ⟨(s6.tk K P 93).tk K P 59, Int32.ofNat (s.dr + 1), ?_, fun Q => ?_⟩
      · simp only [bnd_o, bnd_b, bnd_t, tC] at ST
        unfold tak at ST ⊢
        rw [if_pos c3] at ST
        exact ST
      · clear ST G4' G5 G6 G7 G8 b5 b6 b7 R fn' mu
        rcases z6 with ⟨z, -⟩ | ⟨-, s7, v7, z1, z2⟩
        · rw [bd5] at z; cases z
        have z2' := z2 (D + 3)
        clear z2
        simp (disch := omega) only [s_326_0, s_326_1, s_326_4, s_326_5, s_326_8, s_326_9, s_326_10, s_326_11, s_326_14, s_326_15, s_326_16, s_326_18, s_326_19, s_326_22, s_326_25, s_326_26, s_326_29, s_326_32, s_326_33, s_326_36, s_326_38, s_326_39, s_326_40, s_326_43, s_326_45, s_326_48, s_326_49, s_326_52, s_326_53, s_326_54, s_326_55, s_326_58, s_326_60, s_326_61, s_326_63, s_326_65, s_326_68, s_326_69, s_326_72, s_326_74, s_326_77, s_326_78, s_326_80, s_326_83, s_326_84, s_326_86, s_326_87, s_326_88, s_326_91, s_326_94, s_326_95, s_326_97, s_326_100, s_326_103, s_326_104, s_326_107, s_326_109, s_326_112, s_326_113, s_326_115, s_326_118, s_326_119, s_326_121, s_326_122, s_326_125, s_326_128, s_326_129, s_326_132, s_326_133, s_326_134, s_326_135, s_326_136, s_326_139, s_326_142, s_326_143, s_326_145, s_326_148, s_326_151, s_326_152, s_326_153, s_326_156, s_326_157, s_326_158, s_326_159, s_326_162, s_326_164, s_326_165, s_326_167, s_326_170, s_326_173, s_326_174, s_326_177, s_326_180, s_326_181, s_326_184, s_326_187, s_326_188, s_326_189, s_326_192, s_326_195, s_326_197, s_326_200, s_326_202, s_326_203, s_326_204, s_326_207, s_326_209, s_326_210, s_326_211, s_326_214, s_326_215, s_326_217, s_326_220, s_326_221, s_326_223, s_326_224, s_326_227, s_326_230, s_326_231, s_326_234, s_326_235, s_326_236, s_326_237, s_326_238, s_326_241, s_326_244, s_326_245, s_326_247, s_326_250, s_326_251, s_326_253, s_326_254, s_326_257, s_326_260, s_326_261, s_326_264, s_326_265, s_326_266, s_326_267, s_326_268, s_326_271, s_326_274, s_326_275, s_326_278, s_326_281, s_326_282, s_326_285, s_326_288, s_326_291, s_326_292, s_326_295, s_326_298, s_326_299, s_326_301, s_326_302, s_326_305, s_326_308, s_326_309, s_326_312, s_326_313, s_326_314, s_326_315, s_326_316, s_326_319, s_326_322, s_326_325, s_326_326, s_326_329, s_326_332, s_326_333, s_326_335, s_326_336, s_326_337, s_326_340, s_326_342, s_326_343, s_326_346, s_326_349, s_326_350, s_326_352, s_326_355, s_326_356, s_326_358, s_326_359, s_326_362, s_326_365, s_326_366, s_326_369, s_326_370, s_326_371, s_326_372, s_326_373, s_326_376, s_326_379, s_326_380, s_326_382, s_326_385, s_326_386, s_326_388, s_326_391, s_326_394, s_326_395, s_326_398, s_326_401, s_326_402, s_326_404, s_326_405, s_326_406, s_326_409, s_326_411, s_326_412, s_326_414, s_326_415, s_326_418, s_326_421, s_326_422, s_326_425, s_326_426, s_326_427, s_326_428, s_326_429, s_326_432, s_326_435, s_326_436, s_326_438, s_326_441, s_326_443, e_326, mv_i_1, mv_l_1, mv_a_1, mv_a_2, mv_a_3, mk2_n, mk2_i, mk2_l, mk2_a, mk2_u, mk2_x, mB_T, mB_F, mS_cons, mS_nil, mSB_T, mSB_F, mca_nil, mca_i, mca_l, mca_r, mca_u, mca_x, mcat_i, mcat_l, mcat_r, mcat_u, mcat_x, mK_some, mK_none, va_rf_s, va_rf_n, lgc_eq, lgc_lt, lgc_gt, lgc_ge, lgc_le, mrd_104, mrd_105, mrd_106, mrd_107, true_and, and_true, and_self, false_and, and_false, true_or, or_true, false_or, or_false, not_true_eq_false, not_false_eq_true, mgb, mga, mgr, mN, reduceCtorEq, ↓reduceIte, eq_self, ge_iff_le, gt_iff_lt, Nat.reduceAdd, Nat.reduceMul, Nat.reduceSub, Nat.reduceLT, Nat.reduceGT, Nat.reduceEqDiff, Nat.reduceLeDiff, Nat.left_eq_add, Nat.add_eq_left, Nat.reduceMod, Nat.reduceDiv, Nat.succ_ne_self, pH_g, pH_r, pH_l, g, r1, g1, l1, pH_8, pH_84, nn_mxT, nn_clamp, e, q0', x1, q1, q2, q3', y1, w2, w3, q4', q5, z1, z2', q7, q8]
    · rw [if_neg c3]
      have x9 : (rkd (K (s.at + 2)) = 91) = False := by rw [rk_e (R.k _ h2).2 (c := 91) (y := 91) (by decide) rfl]; exact eq_false c3
      have G4 := st 3 (Or.inl rfl)
      have a4 := (B 3).1
      have b4 := (B 3).2.1
      obtain ⟨-, w2, w3⟩ := W3
      have fn := fin 3
      obtain ⟨s4, hs4⟩ : ∃ x : pst, x = u.two P 3 (Int32.ofNat (P s.at)) := ⟨_, rfl⟩
      have G4' : GS P true s4 s.at s.dr (s.dr + 1) s.dr (s.dr + 2) (Int32.ofNat s.dr) 3 (Int32.ofNat (P s.at)) 0 s4 (s.at + 2, some (.leaf ())) := by rw [hs4]; exact G4
      have fn' : ∀ s' x, GS P true s4 s.at s.dr (s.dr + 1) s.dr (s.dr + 2) (Int32.ofNat s.dr) 3 (Int32.ofNat (P s.at)) 0 s' x → SR P (bnd x fun r j => (j, some (tNd (tE 3 (P s.at) 0) (.branch (tE 13 (P (s.at + 1)) ((s.at + 1 : Nat) : Int)) (.leaf ()) r)))) s.at s.dr s s' (Int32.ofNat (s.dr + 1)) := by rw [hs4]; exact fun s' x => fn s' x (Or.inl rfl)
      rw [← hs4] at a4 b4 w3
      clear fn fin st G4 B W W4
      have q4 := c_310 (D := D + 3) (s := s4) R (by omega)
      rw [lk_0 (b4.trans bdu), a4, atu] at q4
      by_cases c4 : K (s.at + 2) = 61
      · rw [if_pos c4]
        have h3 := tkM_s R.M h2 c4 (by decide) (by decide)
        have x6 : (rkd (K (s.at + 2)) = 61) = True := by rw [rk_e (R.k _ h2).2 (c := 61) (y := 61) (by decide) rfl]; exact eq_true c4
        have q5 := c_312 (D := D + 2) (s := s4) R (by omega) (c := 61) (y := 61) (by decide) rfl (by decide)
        have G5 := GS_tk (K := K) (c := 61) (by show s.dr + 2 * (s.at + 2 - s.at) + 8 ≤ 52000; omega) G4'
        have b5 := gd_bt (m := m) (x := (s.at + 2, some (.leaf ()))) (c := 61) R.M (by decide) (by decide) h2
        have bd5 : (s4.tk K P 61).bd = false := by rw [tk_1 (b4.trans bdu) (by rw [a4, atu]; exact c4)]; exact b4.trans bdu
        generalize s4.tk K P 61 = s5 at *
        obtain ⟨b6, s6, G6, z6⟩ := GS_sub (m := m) (Fp := fun j => pgX K P V N 0 (d + 1) j) (M := 318) (D := D + 3) (ar := [.ref 81, .int (Int32.ofNat (d + 1))]) R.F G5 (by omega) b5 (fun y1 y2 y3 => (pe_all R N).1 (d + 1) (D + 3) s5 (by omega) y2 y1 (by omega) (by omega) y3) (fun j hj => pgX_b R.M N 0 (d + 1) j (by decide) hj)
        have q7 := c_312 (D := D + 2) (s := s6) R (by rw [G6.2.1]; exact b6) (c := 59) (y := 59) (by decide) rfl (by decide)
        have G7 := GS_tk (K := K) (c := 59) (by omega) G6
        have ST := fn' _ _ G7
        refine ⟨s6.tk K P 59, Int32.ofNat (s.dr + 1), ?_, fun Q => ?_⟩
        · simp only [bnd_o, bnd_b, bnd_t, tC] at ST
          unfold tak at ST ⊢
          rw [if_pos c4] at ST
          exact ST
        · clear ST G4' G5 G6 G7 b5 b6 R fn' mu
          rcases z6 with ⟨z, -⟩ | ⟨-, s7, v7, z1, z2⟩
          · rw [bd5] at z; cases z
          have z2' := z2 (D + 3)
          clear z2
          simp (disch := omega) only [s_326_0, s_326_1, s_326_4, s_326_5, s_326_8, s_326_9, s_326_10, s_326_11, s_326_14, s_326_15, s_326_16, s_326_18, s_326_19, s_326_22, s_326_25, s_326_26, s_326_29, s_326_32, s_326_33, s_326_36, s_326_38, s_326_39, s_326_40, s_326_43, s_326_45, s_326_48, s_326_49, s_326_52, s_326_53, s_326_54, s_326_55, s_326_58, s_326_60, s_326_61, s_326_63, s_326_65, s_326_68, s_326_69, s_326_72, s_326_74, s_326_77, s_326_78, s_326_80, s_326_83, s_326_84, s_326_86, s_326_87, s_326_88, s_326_91, s_326_94, s_326_95, s_326_97, s_326_100, s_326_103, s_326_104, s_326_107, s_326_109, s_326_112, s_326_113, s_326_115, s_326_118, s_326_119, s_326_121, s_326_122, s_326_125, s_326_128, s_326_129, s_326_132, s_326_133, s_326_134, s_326_135, s_326_136, s_326_139, s_326_142, s_326_143, s_326_145, s_326_148, s_326_151, s_326_152, s_326_153, s_326_156, s_326_157, s_326_158, s_326_159, s_326_162, s_326_164, s_326_165, s_326_167, s_326_170, s_326_173, s_326_174, s_326_177, s_326_180, s_326_181, s_326_184, s_326_187, s_326_188, s_326_189, s_326_192, s_326_195, s_326_197, s_326_200, s_326_202, s_326_203, s_326_204, s_326_207, s_326_209, s_326_210, s_326_211, s_326_214, s_326_215, s_326_217, s_326_220, s_326_221, s_326_223, s_326_224, s_326_227, s_326_230, s_326_231, s_326_234, s_326_235, s_326_236, s_326_237, s_326_238, s_326_241, s_326_244, s_326_245, s_326_247, s_326_250, s_326_251, s_326_253, s_326_254, s_326_257, s_326_260, s_326_261, s_326_264, s_326_265, s_326_266, s_326_267, s_326_268, s_326_271, s_326_274, s_326_275, s_326_278, s_326_281, s_326_282, s_326_285, s_326_288, s_326_291, s_326_292, s_326_295, s_326_298, s_326_299, s_326_301, s_326_302, s_326_305, s_326_308, s_326_309, s_326_312, s_326_313, s_326_314, s_326_315, s_326_316, s_326_319, s_326_322, s_326_325, s_326_326, s_326_329, s_326_332, s_326_333, s_326_335, s_326_336, s_326_337, s_326_340, s_326_342, s_326_343, s_326_346, s_326_349, s_326_350, s_326_352, s_326_355, s_326_356, s_326_358, s_326_359, s_326_362, s_326_365, s_326_366, s_326_369, s_326_370, s_326_371, s_326_372, s_326_373, s_326_376, s_326_379, s_326_380, s_326_382, s_326_385, s_326_386, s_326_388, s_326_391, s_326_394, s_326_395, s_326_398, s_326_401, s_326_402, s_326_404, s_326_405, s_326_406, s_326_409, s_326_411, s_326_412, s_326_414, s_326_415, s_326_418, s_326_421, s_326_422, s_326_425, s_326_426, s_326_427, s_326_428, s_326_429, s_326_432, s_326_435, s_326_436, s_326_438, s_326_441, s_326_443, e_326, mv_i_1, mv_l_1, mv_a_1, mv_a_2, mv_a_3, mk2_n, mk2_i, mk2_l, mk2_a, mk2_u, mk2_x, mB_T, mB_F, mS_cons, mS_nil, mSB_T, mSB_F, mca_nil, mca_i, mca_l, mca_r, mca_u, mca_x, mcat_i, mcat_l, mcat_r, mcat_u, mcat_x, mK_some, mK_none, va_rf_s, va_rf_n, lgc_eq, lgc_lt, lgc_gt, lgc_ge, lgc_le, mrd_104, mrd_105, mrd_106, mrd_107, true_and, and_true, and_self, false_and, and_false, true_or, or_true, false_or, or_false, not_true_eq_false, not_false_eq_true, mgb, mga, mgr, mN, reduceCtorEq, ↓reduceIte, eq_self, ge_iff_le, gt_iff_lt, Nat.reduceAdd, Nat.reduceMul, Nat.reduceSub, Nat.reduceLT, Nat.reduceGT, Nat.reduceEqDiff, Nat.reduceLeDiff, Nat.left_eq_add, Nat.add_eq_left, Nat.reduceMod, Nat.reduceDiv, Nat.succ_ne_self, pH_g, pH_r, pH_l, g, r1, g1, l1, pH_8, pH_9, pH_84, nn_mxT, nn_clamp, e, q0', x1, q1, q2, q3, x9, w2, w3, q4, x6, q5, bd5, k0, e1', z1, z2', q7]
      · rw [if_neg c4]
        have x6 : (rkd (K (s.at + 2)) = 61) = False := by rw [rk_e (R.k _ h2).2 (c := 61) (y := 61) (by decide) rfl]; exact eq_false c4
        have q7 := c_312 (D := D + 2) (s := s4) R (by omega) (c := 59) (y := 59) (by decide) rfl (by decide)
        have G7 := GS_tk (K := K) (c := 59) (by show s.dr + 2 * (s.at + 2 - s.at) + 8 ≤ 52000; omega) G4'
        have ST := fn' _ _ G7
        refine ⟨s4.tk K P 59, Int32.ofNat (s.dr + 1), ?_, fun Q => ?_⟩
        · simp only [bnd_o, bnd_b, bnd_t, tC] at ST
          exact ST
        · clear ST G4' G7 R fn' mu
          simp (disch := omega) only [s_326_0, s_326_1, s_326_4, s_326_5, s_326_8, s_326_9, s_326_10, s_326_11, s_326_14, s_326_15, s_326_16, s_326_18, s_326_19, s_326_22, s_326_25, s_326_26, s_326_29, s_326_32, s_326_33, s_326_36, s_326_38, s_326_39, s_326_40, s_326_43, s_326_45, s_326_48, s_326_49, s_326_52, s_326_53, s_326_54, s_326_55, s_326_58, s_326_60, s_326_61, s_326_63, s_326_65, s_326_68, s_326_69, s_326_72, s_326_74, s_326_77, s_326_78, s_326_80, s_326_83, s_326_84, s_326_86, s_326_87, s_326_88, s_326_91, s_326_94, s_326_95, s_326_97, s_326_100, s_326_103, s_326_104, s_326_107, s_326_109, s_326_112, s_326_113, s_326_115, s_326_118, s_326_119, s_326_121, s_326_122, s_326_125, s_326_128, s_326_129, s_326_132, s_326_133, s_326_134, s_326_135, s_326_136, s_326_139, s_326_142, s_326_143, s_326_145, s_326_148, s_326_151, s_326_152, s_326_153, s_326_156, s_326_157, s_326_158, s_326_159, s_326_162, s_326_164, s_326_165, s_326_167, s_326_170, s_326_173, s_326_174, s_326_177, s_326_180, s_326_181, s_326_184, s_326_187, s_326_188, s_326_189, s_326_192, s_326_195, s_326_197, s_326_200, s_326_202, s_326_203, s_326_204, s_326_207, s_326_209, s_326_210, s_326_211, s_326_214, s_326_215, s_326_217, s_326_220, s_326_221, s_326_223, s_326_224, s_326_227, s_326_230, s_326_231, s_326_234, s_326_235, s_326_236, s_326_237, s_326_238, s_326_241, s_326_244, s_326_245, s_326_247, s_326_250, s_326_251, s_326_253, s_326_254, s_326_257, s_326_260, s_326_261, s_326_264, s_326_265, s_326_266, s_326_267, s_326_268, s_326_271, s_326_274, s_326_275, s_326_278, s_326_281, s_326_282, s_326_285, s_326_288, s_326_291, s_326_292, s_326_295, s_326_298, s_326_299, s_326_301, s_326_302, s_326_305, s_326_308, s_326_309, s_326_312, s_326_313, s_326_314, s_326_315, s_326_316, s_326_319, s_326_322, s_326_325, s_326_326, s_326_329, s_326_332, s_326_333, s_326_335, s_326_336, s_326_337, s_326_340, s_326_342, s_326_343, s_326_346, s_326_349, s_326_350, s_326_352, s_326_355, s_326_356, s_326_358, s_326_359, s_326_362, s_326_365, s_326_366, s_326_369, s_326_370, s_326_371, s_326_372, s_326_373, s_326_376, s_326_379, s_326_380, s_326_382, s_326_385, s_326_386, s_326_388, s_326_391, s_326_394, s_326_395, s_326_398, s_326_401, s_326_402, s_326_404, s_326_405, s_326_406, s_326_409, s_326_411, s_326_412, s_326_414, s_326_415, s_326_418, s_326_421, s_326_422, s_326_425, s_326_426, s_326_427, s_326_428, s_326_429, s_326_432, s_326_435, s_326_436, s_326_438, s_326_441, s_326_443, e_326, mv_i_1, mv_l_1, mv_a_1, mv_a_2, mv_a_3, mk2_n, mk2_i, mk2_l, mk2_a, mk2_u, mk2_x, mB_T, mB_F, mS_cons, mS_nil, mSB_T, mSB_F, mca_nil, mca_i, mca_l, mca_r, mca_u, mca_x, mcat_i, mcat_l, mcat_r, mcat_u, mcat_x, mK_some, mK_none, va_rf_s, va_rf_n, lgc_eq, lgc_lt, lgc_gt, lgc_ge, lgc_le, mrd_104, mrd_105, mrd_106, mrd_107, true_and, and_true, and_self, false_and, and_false, true_or, or_true, false_or, or_false, not_true_eq_false, not_false_eq_true, mgb, mga, mgr, mN, reduceCtorEq, ↓reduceIte, eq_self, ge_iff_le, gt_iff_lt, Nat.reduceAdd, Nat.reduceMul, Nat.reduceSub, Nat.reduceLT, Nat.reduceGT, Nat.reduceEqDiff, Nat.reduceLeDiff, Nat.left_eq_add, Nat.add_eq_left, Nat.reduceMod, Nat.reduceDiv, Nat.succ_ne_self, pH_g, pH_r, pH_l, g, r1, g1, l1, pH_8, pH_84, nn_mxT, nn_clamp, e, q0', x1, q1, q2, q3, x9, w2, w3, q4, x6, q7]
  · have et : ∀ r, tak K 2 (s.at + 1) r = (s.at + 1, none) := fun r => if_neg c2
    rw [et]
    have q2 := c_315 (D := D + 1) (s := u) R (by omega) (by omega)
    have e2 : u.nm K P = (u.dft 13 (Int32.ofNat (P u.at)) (Int32.ofNat u.at)).ko (P u.at) := by
      unfold pst.nm
      exact tk_0 (s := u.dft 13 (Int32.ofNat (P u.at)) (Int32.ofNat u.at)) bdu (by show ¬ K u.at = 2; rw [atu]; exact c2)
    rw [e2, dru] at q2
    obtain ⟨w, hw⟩ : ∃ x : pst, x = (u.dft 13 (Int32.ofNat (P u.at)) (Int32.ofNat u.at)).ko (P u.at) := ⟨_, rfl⟩
    rw [← hw] at q2
    have bdw : w.bd = true := by rw [hw]; rfl
    have atw : w.at = s.at + 1 := by rw [hw]; exact atu
    have flw : w.fl = Int32.ofNat (P (s.at + 1)) := by rw [hw]; show Int32.ofNat (P u.at) = _; rw [atu]
    have drw : w.dr = s.dr + 1 := by rw [hw]; show u.dr + 1 = _; omega
    have mw' : pSm s.dr s w := by rw [hw]; exact pSm_t mu (pSm_t (dft_m (by omega)) ko_m)
    have q3 := c_310 (D := D + 3) (s := w) R (by omega)
    rw [lk_b bdw] at q3
    have y1 : (rkd 1 = 91) = False := by decide
    have y2 : (rkd 1 = 61) = False := by decide
    have q4 := c_313 (D := D + 3) (s := w) R.F (by omega) (k := 3) (p := Int32.ofNat (P s.at)) (v := 0)
    rw [drw] at q4
    obtain ⟨w2, hw2⟩ : ∃ x : pst, x = w.dft 3 (Int32.ofNat (P s.at)) 0 := ⟨_, rfl⟩
    rw [← hw2] at q4
    have n2 : nf w2 (s.dr + 1) 3 (Int32.ofNat (P s.at)) 0 (-1) (-1) (-1) := by rw [hw2, ← drw]; exact dft_n
    have q5 := c_314 (D := D + 3) (s := w2) R.F (o := s.dr + 1) (y := s.dr) (by omega) (by omega) (fun z => absurd n2.2.2.2.1 z)
    obtain ⟨f1, f2, f3, f4⟩ := jn_f (s := w2) (o := s.dr + 1) (y := s.dr)
    obtain ⟨w3, hw3⟩ : ∃ x : pst, x = w2.jn (s.dr + 1) s.dr := ⟨_, rfl⟩
    rw [← hw3] at q5 f1 f2 f3 f4
    have bd3 : w3.bd = true := by rw [f2, hw2]; exact bdw
    have at3 : w3.at = s.at + 1 := by rw [f1, hw2]; exact atw
    have q6 := c_310 (D := D + 3) (s := w3) R (by omega)
    rw [lk_b bd3] at q6
    have q7 := c_312 (D := D + 2) (s := w3) R (by omega) (c := 59) (y := 59) (by decide) rfl (by decide)
    rw [tk_b bd3] at q7
    have dr3 : w3.dr = s.dr + 2 := by rw [f4, hw2]; show w.dr + 1 = _; omega
    refine ⟨w3, Int32.ofNat (s.dr + 1), SR_no (fun y hy => pE_t (mw' y hy) (pE_t (show pE w w2 y from by rw [hw2]; exact dft_E (by omega)) (show pE w2 w3 y from by rw [hw3]; exact jn1_E n2 (by omega)))) at3 bd3 (by rw [f3, hw2]; exact flw) (by omega) (by omega) (Or.inr ⟨_, rfl, by omega⟩), fun Q => ?_⟩
    clear R mu mw' n2
    simp (disch := omega) only [s_326_0, s_326_1, s_326_4, s_326_5, s_326_8, s_326_9, s_326_10, s_326_11, s_326_14, s_326_15, s_326_16, s_326_18, s_326_19, s_326_22, s_326_25, s_326_26, s_326_29, s_326_32, s_326_33, s_326_36, s_326_38, s_326_39, s_326_40, s_326_43, s_326_45, s_326_48, s_326_49, s_326_52, s_326_53, s_326_54, s_326_55, s_326_58, s_326_60, s_326_61, s_326_63, s_326_65, s_326_68, s_326_69, s_326_72, s_326_74, s_326_77, s_326_78, s_326_80, s_326_83, s_326_84, s_326_86, s_326_87, s_326_88, s_326_91, s_326_94, s_326_95, s_326_97, s_326_100, s_326_103, s_326_104, s_326_107, s_326_109, s_326_112, s_326_113, s_326_115, s_326_118, s_326_119, s_326_121, s_326_122, s_326_125, s_326_128, s_326_129, s_326_132, s_326_133, s_326_134, s_326_135, s_326_136, s_326_139, s_326_142, s_326_143, s_326_145, s_326_148, s_326_151, s_326_152, s_326_153, s_326_156, s_326_157, s_326_158, s_326_159, s_326_162, s_326_164, s_326_165, s_326_167, s_326_170, s_326_173, s_326_174, s_326_177, s_326_180, s_326_181, s_326_184, s_326_187, s_326_188, s_326_189, s_326_192, s_326_195, s_326_197, s_326_200, s_326_202, s_326_203, s_326_204, s_326_207, s_326_209, s_326_210, s_326_211, s_326_214, s_326_215, s_326_217, s_326_220, s_326_221, s_326_223, s_326_224, s_326_227, s_326_230, s_326_231, s_326_234, s_326_235, s_326_236, s_326_237, s_326_238, s_326_241, s_326_244, s_326_245, s_326_247, s_326_250, s_326_251, s_326_253, s_326_254, s_326_257, s_326_260, s_326_261, s_326_264, s_326_265, s_326_266, s_326_267, s_326_268, s_326_271, s_326_274, s_326_275, s_326_278, s_326_281, s_326_282, s_326_285, s_326_288, s_326_291, s_326_292, s_326_295, s_326_298, s_326_299, s_326_301, s_326_302, s_326_305, s_326_308, s_326_309, s_326_312, s_326_313, s_326_314, s_326_315, s_326_316, s_326_319, s_326_322, s_326_325, s_326_326, s_326_329, s_326_332, s_326_333, s_326_335, s_326_336, s_326_337, s_326_340, s_326_342, s_326_343, s_326_346, s_326_349, s_326_350, s_326_352, s_326_355, s_326_356, s_326_358, s_326_359, s_326_362, s_326_365, s_326_366, s_326_369, s_326_370, s_326_371, s_326_372, s_326_373, s_326_376, s_326_379, s_326_380, s_326_382, s_326_385, s_326_386, s_326_388, s_326_391, s_326_394, s_326_395, s_326_398, s_326_401, s_326_402, s_326_404, s_326_405, s_326_406, s_326_409, s_326_411, s_326_412, s_326_414, s_326_415, s_326_418, s_326_421, s_326_422, s_326_425, s_326_426, s_326_427, s_326_428, s_326_429, s_326_432, s_326_435, s_326_436, s_326_438, s_326_441, s_326_443, e_326, mv_i_1, mv_l_1, mv_a_1, mv_a_2, mv_a_3, mk2_n, mk2_i, mk2_l, mk2_a, mk2_u, mk2_x, mB_T, mB_F, mS_cons, mS_nil, mSB_T, mSB_F, mca_nil, mca_i, mca_l, mca_r, mca_u, mca_x, mcat_i, mcat_l, mcat_r, mcat_u, mcat_x, mK_some, mK_none, va_rf_s, va_rf_n, lgc_eq, lgc_lt, lgc_gt, lgc_ge, lgc_le, mrd_104, mrd_105, mrd_106, mrd_107, true_and, and_true, and_self, false_and, and_false, true_or, or_true, false_or, or_false, not_true_eq_false, not_false_eq_true, mgb, mga, mgr, mN, reduceCtorEq, ↓reduceIte, eq_self, ge_iff_le, gt_iff_lt, Nat.reduceAdd, Nat.reduceMul, Nat.reduceSub, Nat.reduceLT, Nat.reduceGT, Nat.reduceEqDiff, Nat.reduceLeDiff, Nat.left_eq_add, Nat.add_eq_left, Nat.reduceMod, Nat.reduceDiv, Nat.succ_ne_self, pH_g, pH_r, pH_l, g, r1, g1, l1, pH_8, pH_84, nn_mxT, nn_clamp, e, q0', x1, q1, q2, q3, y1, q4, q5, q6, y2, q7]
end GYs
