set_option maxRecDepth 100000
/-! THE REFERENCE'S PARSER: rows of SUM, TERM -/
section PM318
variable {f : Nat} {h : mh_H} {m : Nat} {K : Nat → Int32} {P : Nat → Nat} {V : Nat → Int}
theorem f_sum (R : RTK h m K P V) (it : PE1 h m K P V f) (il : PL3 h m K P V f) : PE0 h m K P V (f + 1) := by
  intro d D s hf hi eb hd hD hr
  obtain ⟨D, rfl⟩ : ∃ D', D = D' + 4 := ⟨D - 4, by omega⟩
  rw [pgX_0]
  have hp := (R.p _ hi).2
  have hm := R.m
  have g := R.F.g 81 14 70 (by decide +kernel)
  have r1 := R.F.f 81 12 87 (by decide +kernel)
  have g1 := R.F.g 87 100 52000 (by decide +kernel)
  have l1 := R.F.l 87 100 52000 (by decide +kernel)
  have k0 : kb false = 0 := rfl
  have k1 : kb true = 1 := rfl
  have n1 : ((1 : Int32) = 0) = False := by decide
  have y43 : (rkd 1 = 43) = False := by decide
  have y45 : (rkd 1 = 45) = False := by decide
  have qd := c_317 (D := D + 2) (s := s) R hi (d := d) (by omega)
  by_cases cd : 60 < d
  · rw [if_pos cd]
    have e3 : s.dp P d = s.ko (P s.at) := by unfold pst.dp; rw [if_pos ⟨cd, eb⟩]
    rw [e3] at qd
    have kb1 : (s.ko (P s.at)).bd = true := rfl
    have q4 := c_310 (D := D + 3) (s := s.ko (P s.at)) R hi
    rw [lk_b kb1] at q4
    refine ⟨_, -1, SR_no (s1 := s.ko (P s.at)) ko_m rfl rfl rfl (Nat.le_refl _) (by show s.dr ≤ _; omega) (Or.inl rfl), fun Q => ?_⟩
    clear R it il
    simp (disch := omega) only [s_318_0, s_318_1, s_318_2, s_318_5, s_318_6, s_318_9, s_318_12, s_318_13, s_318_16, s_318_17, s_318_18, s_318_21, s_318_22, s_318_23, s_318_26, s_318_28, s_318_31, s_318_32, s_318_35, s_318_37, s_318_40, s_318_41, s_318_42, s_318_43, s_318_45, s_318_46, s_318_49, s_318_50, s_318_51, s_318_52, s_318_55, s_318_56, s_318_57, s_318_58, s_318_59, s_318_62, s_318_63, s_318_66, s_318_68, s_318_71, s_318_72, s_318_75, s_318_77, s_318_80, s_318_81, s_318_82, s_318_85, s_318_87, s_318_90, s_318_92, s_318_95, s_318_97, s_318_98, s_318_101, s_318_102, s_318_105, s_318_106, s_318_107, s_318_110, s_318_112, s_318_113, s_318_114, s_318_117, s_318_120, s_318_121, s_318_123, s_318_124, s_318_127, s_318_130, s_318_131, s_318_134, s_318_135, s_318_136, s_318_139, s_318_142, s_318_143, s_318_144, s_318_146, s_318_149, s_318_152, s_318_153, e_318, mv_i_1, mv_l_1, mv_a_1, mv_a_2, mv_a_3, mk2_n, mk2_i, mk2_l, mk2_a, mk2_u, mk2_x, mB_T, mB_F, mS_cons, mS_nil, mSB_T, mSB_F, mca_nil, mca_i, mca_l, mca_r, mca_u, mca_x, mcat_i, mcat_l, mcat_r, mcat_u, mcat_x, mK_some, mK_none, va_rf_s, va_rf_n, lgc_eq, lgc_lt, lgc_gt, lgc_ge, lgc_le, mrd_104, mrd_105, mrd_106, mrd_107, true_and, and_true, and_self, false_and, and_false, true_or, or_true, false_or, or_false, not_true_eq_false, not_false_eq_true, mgb, mga, mgr, mN, reduceCtorEq, ↓reduceIte, eq_self, ge_iff_le, gt_iff_lt, Nat.reduceAdd, Nat.reduceMul, Nat.reduceSub, Nat.reduceLT, Nat.reduceGT, Nat.reduceEqDiff, Nat.reduceLeDiff, Nat.left_eq_add, Nat.add_eq_left, Nat.reduceMod, Nat.reduceDiv, Nat.succ_ne_self, pH_g, g, pH_9, qd, kb1, k1, n1, q4, y43, y45]
  rw [if_neg cd]
  have e3 : s.dp P d = s := by unfold pst.dp; rw [if_neg (fun z => cd z.1)]
  rw [e3] at qd
  obtain ⟨s1, v1, S1, q1⟩ := it d (D + 3) s (by omega) hi eb (by omega) (by omega) hr
  have gb := pgX_b (P := P) (V := V) R.M f 1 d s.at (by decide) hi
  generalize pgX K P V f 1 d s.at = r at *
  obtain ⟨j, o⟩ := r
  obtain ⟨gb1, gb2, gb3⟩ := gb
  have gb1' : s.at ≤ j := gb1
  have gb2' : j < m := gb2
  obtain ⟨T1, T2, T3⟩ := S1
  have T2' : s1.at = j := T2
  have q2 := c_310 (D := D + 3) (s := s1) R (by omega)
  rcases T3 with ⟨n, cs, o1, bd1, fl1, dr1, t1, vv⟩ | ⟨o1, bd1, fl1, dr1, dr1', vv⟩
  · have o1' : o = some (tNd n cs) := o1
    subst o1'
    have gs' : 1 + ts cs ≤ 2 * (j - s.at) := (gb3 (tNd n cs) rfl).2.1
    have ob := dOf_b (n := n) (cs := cs)
    subst vv
    rw [lk_0 bd1, T2'] at q2
    show ∃ s' v, SR P (if K j = 43 ∨ K j = 45 then bnd (pgX K P V f 3 d j) fun r k => (k, some (tNd (tE 17 (tR (tNd n cs)) 0) (tA (tNd n cs) r))) else (j, some (tNd n cs))) s.at s.dr s s' v ∧ _
    by_cases c : K j = 43 ∨ K j = 45
    · rw [if_pos c]
      obtain ⟨w1', w3'⟩ := dq_N t1
      have q3 := c_313 (D := D + 3) (s := s1) R.F (by omega) (k := 17) (p := Int32.ofNat (tP n)) (v := 0)
      rw [dr1] at q3
      obtain ⟨s2, hs2⟩ : ∃ x : pst, x = s1.dft 17 (Int32.ofNat (tP n)) 0 := ⟨_, rfl⟩
      rw [← hs2] at q3
      have a2 : nf s2 (s.dr + (1 + ts cs)) 17 (Int32.ofNat (tP n)) 0 (-1) (-1) (-1) := by rw [hs2, ← dr1]; exact dft_n
      have E2 : ∀ y, y < s.dr + (1 + ts cs) → pE s1 s2 y := fun y hy => by rw [hs2]; exact dft_E (by omega)
      have q4 := c_314 (D := D + 3) (s := s2) R.F (o := s.dr + (1 + ts cs)) (y := s.dr + dOf n cs) (by omega) (by omega) (fun z => absurd a2.2.2.2.1 z)
      obtain ⟨f1, f2, f3, f4⟩ := jn_f (s := s2) (o := s.dr + (1 + ts cs)) (y := s.dr + dOf n cs)
      obtain ⟨s3, hs3⟩ : ∃ x : pst, x = s2.jn (s.dr + (1 + ts cs)) (s.dr + dOf n cs) := ⟨_, rfl⟩
      rw [← hs3] at q4 f1 f2 f3 f4
      have a3 : nf s3 (s.dr + (1 + ts cs)) 17 (Int32.ofNat (tP n)) 0 (Int32.ofNat (s.dr + dOf n cs)) (Int32.ofNat (s.dr + dOf n cs)) (-1) := by rw [hs3]; exact jn1_n a2
      have E3 : ∀ y, y < s.dr + (1 + ts cs) → pE s1 s3 y := fun y hy => pE_t (E2 y hy) (by rw [hs3]; exact jn1_E a2 (by omega))
      have at3 : s3.at = j := by rw [f1, hs2]; exact T2'
      have bd3 : s3.bd = false := by rw [f2, hs2]; exact bd1
      have fl3 : s3.fl = s.fl := by rw [f3, hs2]; exact fl1
      have dr3 : s3.dr = s.dr + (1 + ts cs) + 1 := by rw [f4, hs2]; show s1.dr + 1 = _; omega
      have t3 : s3.dq (tNd n cs) true s.dr (-1) := dq_S t1 (fun y y1 y2 => by rw [dSz_N] at y2; exact E3 y y2)
      obtain ⟨s4, S4, q5⟩ := il d (D + 4) s3 (s.dr + (1 + ts cs)) (s.dr + dOf n cs) (some (.int (Int32.ofNat (s.dr + dOf n cs)))) none (by rw [at3]; omega) (by rw [at3]; exact gb2') bd3 (by omega) (by omega) (by rw [at3, dr3]; omega) (by omega) (by omega) (by omega) a3.2.2.2.2.1 (by rw [a3.2.2.2.1]; exact ofn_m (by omega)) (by rw [(E3 _ (by omega)).2.2.2.2.2]; exact w3')
      rw [at3, dr3] at S4
      have run : ∀ Q, mcall (D + 4) 318 [.ref 81, .int (Int32.ofNat d)] (pH h s) Q = Q (some (.int (Int32.ofNat (s.dr + (1 + ts cs))))) (pH h s4) := by
        intro Q
        rw [← q5 Q]
        clear R it il S4 T1 t1 t3 a2 a3 E2 E3 gb3
        rcases c with c | c
        · rw [c] at q2
          have x43 : (rkd 43 = 43) = True := by decide
          have x45 : (rkd 43 = 45) = False := by decide
          simp (disch := omega) only [s_318_0, s_318_1, s_318_2, s_318_5, s_318_6, s_318_9, s_318_12, s_318_13, s_318_16, s_318_17, s_318_18, s_318_21, s_318_22, s_318_23, s_318_26, s_318_28, s_318_31, s_318_32, s_318_35, s_318_37, s_318_40, s_318_41, s_318_42, s_318_43, s_318_45, s_318_46, s_318_49, s_318_50, s_318_51, s_318_52, s_318_55, s_318_56, s_318_57, s_318_58, s_318_59, s_318_63, s_318_66, s_318_68, s_318_71, s_318_72, s_318_75, s_318_77, s_318_80, s_318_81, s_318_82, s_318_85, s_318_87, s_318_90, s_318_92, s_318_95, s_318_97, s_318_98, s_318_101, s_318_102, s_318_105, s_318_106, s_318_107, s_318_110, s_318_112, s_318_113, s_318_114, s_318_117, s_318_120, s_318_121, s_318_123, s_318_124, s_318_127, s_318_130, s_318_131, s_318_134, s_318_135, s_318_136, s_318_139, s_318_142, s_318_143, s_318_144, s_318_146, s_318_149, s_318_152, s_318_153, e_318, mv_i_1, mv_l_1, mv_a_1, mv_a_2, mv_a_3, mk2_n, mk2_i, mk2_l, mk2_a, mk2_u, mk2_x, mB_T, mB_F, mS_cons, mS_nil, mSB_T, mSB_F, mca_nil, mca_i, mca_l, mca_r, mca_u, mca_x, mcat_i, mcat_l, mcat_r, mcat_u, mcat_x, mK_some, mK_none, va_rf_s, va_rf_n, lgc_eq, lgc_lt, lgc_gt, lgc_ge, lgc_le, mrd_104, mrd_105, mrd_106, mrd_107, true_and, and_true, and_self, false_and, and_false, true_or, or_true, false_or, or_false, not_true_eq_false, not_false_eq_true, mgb, mga, mgr, mN, reduceCtorEq, ↓reduceIte, eq_self, ge_iff_le, gt_iff_lt, Nat.reduceAdd, Nat.reduceMul, Nat.reduceSub, Nat.reduceLT, Nat.reduceGT, Nat.reduceEqDiff, Nat.reduceLeDiff, Nat.left_eq_add, Nat.add_eq_left, Nat.reduceMod, Nat.reduceDiv, Nat.succ_ne_self, pH_g, pH_r, pH_l, g, r1, g1, l1, pH_9, pH_87, nn_mxT, nn_clamp, eb, k0, qd, q1, q2, x43, x45, w1', q3, q4]
        · rw [c] at q2
          have x43 : (rkd 45 = 43) = False := by decide
          have x45 : (rkd 45 = 45) = True := by decide
          simp (disch := omega) only [s_318_0, s_318_1, s_318_2, s_318_5, s_318_6, s_318_9, s_318_12, s_318_13, s_318_16, s_318_17, s_318_18, s_318_21, s_318_22, s_318_23, s_318_26, s_318_28, s_318_31, s_318_32, s_318_35, s_318_37, s_318_40, s_318_41, s_318_42, s_318_43, s_318_45, s_318_46, s_318_49, s_318_50, s_318_51, s_318_52, s_318_55, s_318_56, s_318_57, s_318_58, s_318_59, s_318_63, s_318_66, s_318_68, s_318_71, s_318_72, s_318_75, s_318_77, s_318_80, s_318_81, s_318_82, s_318_85, s_318_87, s_318_90, s_318_92, s_318_95, s_318_97, s_318_98, s_318_101, s_318_102, s_318_105, s_318_106, s_318_107, s_318_110, s_318_112, s_318_113, s_318_114, s_318_117, s_318_120, s_318_121, s_318_123, s_318_124, s_318_127, s_318_130, s_318_131, s_318_134, s_318_135, s_318_136, s_318_139, s_318_142, s_318_143, s_318_144, s_318_146, s_318_149, s_318_152, s_318_153, e_318, mv_i_1, mv_l_1, mv_a_1, mv_a_2, mv_a_3, mk2_n, mk2_i, mk2_l, mk2_a, mk2_u, mk2_x, mB_T, mB_F, mS_cons, mS_nil, mSB_T, mSB_F, mca_nil, mca_i, mca_l, mca_r, mca_u, mca_x, mcat_i, mcat_l, mcat_r, mcat_u, mcat_x, mK_some, mK_none, va_rf_s, va_rf_n, lgc_eq, lgc_lt, lgc_gt, lgc_ge, lgc_le, mrd_104, mrd_105, mrd_106, mrd_107, true_and, and_true, and_self, false_and, and_false, true_or, or_true, false_or, or_false, not_true_eq_false, not_false_eq_true, mgb, mga, mgr, mN, reduceCtorEq, ↓reduceIte, eq_self, ge_iff_le, gt_iff_lt, Nat.reduceAdd, Nat.reduceMul, Nat.reduceSub, Nat.reduceLT, Nat.reduceGT, Nat.reduceEqDiff, Nat.reduceLeDiff, Nat.left_eq_add, Nat.add_eq_left, Nat.reduceMod, Nat.reduceDiv, Nat.succ_ne_self, pH_g, pH_r, pH_l, g, r1, g1, l1, pH_9, pH_87, nn_mxT, nn_clamp, eb, k0, qd, q1, q2, x43, x45, w1', q3, q4]
      obtain ⟨U1, U2, U3, U4⟩ := S4
      have gb5 := pgX_b (P := P) (V := V) R.M f 3 d j (by decide) gb2'
      have m4 : pSm s.dr s s4 := fun y hy => pE_t (T1 y hy) (pE_t (E3 y (by omega)) (U1 y (by omega) (by omega) (by omega)))
      generalize pgX K P V f 3 d j = r at *
      obtain ⟨k, o⟩ := r
      obtain ⟨gc1, gc2, gc3⟩ := gb5
      have gc1' : j ≤ k := gc1
      rcases U4 with ⟨t, o2, bd6, fl6, dr6, n6, t6⟩ | ⟨o2, bd6, fl6, dr6, dr6'⟩
      · have o2' : o = some t := o2
        subst o2'
        have c1 : dSc (tE 17 (tP n) 0) (.branch n cs t) = 1 := by unfold dSc; rw [tE_K (by decide)]; rfl
        obtain ⟨v1, v2, v3, v4, v5⟩ := U2 (s.dr + (1 + ts cs)) (by omega)
        have a6 : nf s4 (s.dr + (1 + ts cs)) 17 (Int32.ofNat (tP n)) 0 (Int32.ofNat (s.dr + dOf n cs)) (s4.L (s.dr + (1 + ts cs))) (-1) := ⟨v1.trans a3.1, v2.trans a3.2.1, v3.trans a3.2.2.1, v4.trans a3.2.2.2.1, rfl, (v5 (by omega)).trans a3.2.2.2.2.2⟩
        have t7 : s4.dq (.branch n cs t) true s.dr (dHd t (s.dr + (1 + ts cs) + 1)) := by
          refine dq_o (r := .leaf ()) (dq_n (x := -1) (fun y y1 y2 => ?_) n6 t3)
          obtain ⟨u1, u2, u3, u4, u5⟩ := U2 y (by omega)
          exact ⟨u1, u2, u3, u4, u5⟩
        have tp : tP n < 65536 := by unfold tP; omega
        have dt : s4.dq (tNd (tE 17 (tP n) 0) (.branch n cs t)) true s.dr (-1) := dq_m1 (c := cs) (r' := t) a6 (by rw [tE_K (by decide)]; rfl) (by rw [tE_P (by decide) tp]) (by rw [tE_V (by decide) tp]; rfl) c1 rfl rfl t7 t6
        have ST := SR_ok (P := P) (i := s.at) m4 U3 bd6 (fl6.trans fl3) (by rw [dr6]; show _ = s.dr + (1 + (1 + ts cs + ts t)); omega) dt
        rw [dOf_1 c1] at ST
        exact ⟨_, _, ST, run⟩
      · have o2' : o = none := o2
        subst o2'
        have dr6'' : s4.dr ≤ s.dr + (1 + ts cs) + 1 + 2 * (k - j) + 3 := dr6'
        exact ⟨_, _, SR_no m4 U3 bd6 fl6 (by omega) (by show s4.dr ≤ s.dr + 2 * (k - s.at) + 4; omega) (Or.inr ⟨_, rfl, by omega⟩), run⟩
    · rw [if_neg c]
      have ST := SR_ok (P := P) (i := s.at) T1 T2' bd1 fl1 dr1 t1
      refine ⟨_, _, ST, fun Q => ?_⟩
      have x43 : (rkd (K j) = 43) = False := by rw [rk_e (R.k _ gb2').2 (c := 43) (y := 43) (by decide) rfl]; exact eq_false (fun z => c (Or.inl z))
      have x45 : (rkd (K j) = 45) = False := by rw [rk_e (R.k _ gb2').2 (c := 45) (y := 45) (by decide) rfl]; exact eq_false (fun z => c (Or.inr (z)))
      clear R it il T1 t1 gb3 ST
      simp (disch := omega) only [s_318_0, s_318_1, s_318_2, s_318_5, s_318_6, s_318_9, s_318_12, s_318_13, s_318_16, s_318_17, s_318_18, s_318_21, s_318_22, s_318_23, s_318_26, s_318_28, s_318_31, s_318_32, s_318_35, s_318_37, s_318_40, s_318_41, s_318_42, s_318_43, s_318_45, s_318_46, s_318_49, s_318_50, s_318_51, s_318_52, s_318_55, s_318_56, s_318_57, s_318_58, s_318_59, s_318_62, s_318_63, s_318_66, s_318_68, s_318_71, s_318_72, s_318_75, s_318_77, s_318_80, s_318_81, s_318_82, s_318_85, s_318_87, s_318_90, s_318_92, s_318_95, s_318_97, s_318_98, s_318_101, s_318_102, s_318_105, s_318_106, s_318_107, s_318_110, s_318_112, s_318_113, s_318_114, s_318_117, s_318_120, s_318_121, s_318_123, s_318_124, s_318_127, s_318_130, s_318_131, s_318_134, s_318_135, s_318_136, s_318_139, s_318_142, s_318_143, s_318_144, s_318_146, s_318_149, s_318_152, s_318_153, e_318, mv_i_1, mv_l_1, mv_a_1, mv_a_2, mv_a_3, mk2_n, mk2_i, mk2_l, mk2_a, mk2_u, mk2_x, mB_T, mB_F, mS_cons, mS_nil, mSB_T, mSB_F, mca_nil, mca_i, mca_l, mca_r, mca_u, mca_x, mcat_i, mcat_l, mcat_r, mcat_u, mcat_x, mK_some, mK_none, va_rf_s, va_rf_n, lgc_eq, lgc_lt, lgc_gt, lgc_ge, lgc_le, mrd_104, mrd_105, mrd_106, mrd_107, true_and, and_true, and_self, false_and, and_false, true_or, or_true, false_or, or_false, not_true_eq_false, not_false_eq_true, mgb, mga, mgr, mN, reduceCtorEq, ↓reduceIte, eq_self, ge_iff_le, gt_iff_lt, Nat.reduceAdd, Nat.reduceMul, Nat.reduceSub, Nat.reduceLT, Nat.reduceGT, Nat.reduceEqDiff, Nat.reduceLeDiff, Nat.left_eq_add, Nat.add_eq_left, Nat.reduceMod, Nat.reduceDiv, Nat.succ_ne_self, pH_g, g, pH_9, eb, k0, qd, q1, q2, x43, x45]
  · have o1' : o = none := o1
    subst o1'
    rw [lk_b bd1] at q2
    refine ⟨_, _, SR_no T1 T2' bd1 fl1 dr1 dr1' vv, fun Q => ?_⟩
    clear R it il T1 gb3
    simp (disch := omega) only [s_318_0, s_318_1, s_318_2, s_318_5, s_318_6, s_318_9, s_318_12, s_318_13, s_318_16, s_318_17, s_318_18, s_318_21, s_318_22, s_318_23, s_318_26, s_318_28, s_318_31, s_318_32, s_318_35, s_318_37, s_318_40, s_318_41, s_318_42, s_318_43, s_318_45, s_318_46, s_318_49, s_318_50, s_318_51, s_318_52, s_318_55, s_318_56, s_318_57, s_318_58, s_318_59, s_318_62, s_318_63, s_318_66, s_318_68, s_318_71, s_318_72, s_318_75, s_318_77, s_318_80, s_318_81, s_318_82, s_318_85, s_318_87, s_318_90, s_318_92, s_318_95, s_318_97, s_318_98, s_318_101, s_318_102, s_318_105, s_318_106, s_318_107, s_318_110, s_318_112, s_318_113, s_318_114, s_318_117, s_318_120, s_318_121, s_318_123, s_318_124, s_318_127, s_318_130, s_318_131, s_318_134, s_318_135, s_318_136, s_318_139, s_318_142, s_318_143, s_318_144, s_318_146, s_318_149, s_318_152, s_318_153, e_318, mv_i_1, mv_l_1, mv_a_1, mv_a_2, mv_a_3, mk2_n, mk2_i, mk2_l, mk2_a, mk2_u, mk2_x, mB_T, mB_F, mS_cons, mS_nil, mSB_T, mSB_F, mca_nil, mca_i, mca_l, mca_r, mca_u, mca_x, mcat_i, mcat_l, mcat_r, mcat_u, mcat_x, mK_some, mK_none, va_rf_s, va_rf_n, lgc_eq, lgc_lt, lgc_gt, lgc_ge, lgc_le, mrd_104, mrd_105, mrd_106, mrd_107, true_and, and_true, and_self, false_and, and_false, true_or, or_true, false_or, or_false, not_true_eq_false, not_false_eq_true, mgb, mga, mgr, mN, reduceCtorEq, ↓reduceIte, eq_self, ge_iff_le, gt_iff_lt, Nat.reduceAdd, Nat.reduceMul, Nat.reduceSub, Nat.reduceLT, Nat.reduceGT, Nat.reduceEqDiff, Nat.reduceLeDiff, Nat.left_eq_add, Nat.add_eq_left, Nat.reduceMod, Nat.reduceDiv, Nat.succ_ne_self, pH_g, g, pH_9, eb, k0, qd, q1, q2, y43, y45]
end PM318
section PM319
variable {f : Nat} {h : mh_H} {m : Nat} {K : Nat → Int32} {P : Nat → Nat} {V : Nat → Int}
theorem f_ter (R : RTK h m K P V) (it : PE2 h m K P V f) (il : PL4 h m K P V f) : PE1 h m K P V (f + 1) := by
  intro d D s hf hi eb hd hD hr
  obtain ⟨D, rfl⟩ : ∃ D', D = D' + 4 := ⟨D - 4, by omega⟩
  rw [pgX_1]
  have hp := (R.p _ hi).2
  have hm := R.m
  have g := R.F.g 81 14 70 (by decide +kernel)
  have r1 := R.F.f 81 12 87 (by decide +kernel)
  have g1 := R.F.g 87 100 52000 (by decide +kernel)
  have l1 := R.F.l 87 100 52000 (by decide +kernel)
  have k0 : kb false = 0 := rfl
  have k1 : kb true = 1 := rfl
  have n1 : ((1 : Int32) = 0) = False := by decide
  have y42 : (rkd 1 = 42) = False := by decide
  have y47 : (rkd 1 = 47) = False := by decide
  have y37 : (rkd 1 = 37) = False := by decide
  obtain ⟨s1, v1, S1, q1⟩ := it d (D + 3) s (by omega) hi eb (by omega) (by omega) hr
  have gb := pgX_b (P := P) (V := V) R.M f 2 d s.at (by decide) hi
  generalize pgX K P V f 2 d s.at = r at *
  obtain ⟨j, o⟩ := r
  obtain ⟨gb1, gb2, gb3⟩ := gb
  have gb1' : s.at ≤ j := gb1
  have gb2' : j < m := gb2
  obtain ⟨T1, T2, T3⟩ := S1
  have T2' : s1.at = j := T2
  have q2 := c_310 (D := D + 3) (s := s1) R (by omega)
  rcases T3 with ⟨n, cs, o1, bd1, fl1, dr1, t1, vv⟩ | ⟨o1, bd1, fl1, dr1, dr1', vv⟩
  · have o1' : o = some (tNd n cs) := o1
    subst o1'
    have gs' : 1 + ts cs ≤ 2 * (j - s.at) := (gb3 (tNd n cs) rfl).2.1
    have ob := dOf_b (n := n) (cs := cs)
    subst vv
    rw [lk_0 bd1, T2'] at q2
    show ∃ s' v, SR P (if K j = 42 ∨ K j = 47 ∨ K j = 37 then bnd (pgX K P V f 4 d j) fun r k => (k, some (tNd (tE 20 (tR (tNd n cs)) 0) (tA (tNd n cs) r))) else (j, some (tNd n cs))) s.at s.dr s s' v ∧ _
    by_cases c : K j = 42 ∨ K j = 47 ∨ K j = 37
    · rw [if_pos c]
      obtain ⟨w1', w3'⟩ := dq_N t1
      have q3 := c_313 (D := D + 3) (s := s1) R.F (by omega) (k := 20) (p := Int32.ofNat (tP n)) (v := 0)
      rw [dr1] at q3
      obtain ⟨s2, hs2⟩ : ∃ x : pst, x = s1.dft 20 (Int32.ofNat (tP n)) 0 := ⟨_, rfl⟩
      rw [← hs2] at q3
      have a2 : nf s2 (s.dr + (1 + ts cs)) 20 (Int32.ofNat (tP n)) 0 (-1) (-1) (-1) := by rw [hs2, ← dr1]; exact dft_n
      have E2 : ∀ y, y < s.dr + (1 + ts cs) → pE s1 s2 y := fun y hy => by rw [hs2]; exact dft_E (by omega)
      have q4 := c_314 (D := D + 3) (s := s2) R.F (o := s.dr + (1 + ts cs)) (y := s.dr + dOf n cs) (by omega) (by omega) (fun z => absurd a2.2.2.2.1 z)
      obtain ⟨f1, f2, f3, f4⟩ := jn_f (s := s2) (o := s.dr + (1 + ts cs)) (y := s.dr + dOf n cs)
      obtain ⟨s3, hs3⟩ : ∃ x : pst, x = s2.jn (s.dr + (1 + ts cs)) (s.dr + dOf n cs) := ⟨_, rfl⟩
      rw [← hs3] at q4 f1 f2 f3 f4
      have a3 : nf s3 (s.dr + (1 + ts cs)) 20 (Int32.ofNat (tP n)) 0 (Int32.ofNat (s.dr + dOf n cs)) (Int32.ofNat (s.dr + dOf n cs)) (-1) := by rw [hs3]; exact jn1_n a2
      have E3 : ∀ y, y < s.dr + (1 + ts cs) → pE s1 s3 y := fun y hy => pE_t (E2 y hy) (by rw [hs3]; exact jn1_E a2 (by omega))
      have at3 : s3.at = j := by rw [f1, hs2]; exact T2'
      have bd3 : s3.bd = false := by rw [f2, hs2]; exact bd1
      have fl3 : s3.fl = s.fl := by rw [f3, hs2]; exact fl1
      have dr3 : s3.dr = s.dr + (1 + ts cs) + 1 := by rw [f4, hs2]; show s1.dr + 1 = _; omega
      have t3 : s3.dq (tNd n cs) true s.dr (-1) := dq_S t1 (fun y y1 y2 => by rw [dSz_N] at y2; exact E3 y y2)
      obtain ⟨s4, S4, q5⟩ := il d (D + 4) s3 (s.dr + (1 + ts cs)) (s.dr + dOf n cs) (some (.int (Int32.ofNat (s.dr + dOf n cs)))) none (by rw [at3]; omega) (by rw [at3]; exact gb2') bd3 (by omega) (by omega) (by rw [at3, dr3]; omega) (by omega) (by omega) (by omega) a3.2.2.2.2.1 (by rw [a3.2.2.2.1]; exact ofn_m (by omega)) (by rw [(E3 _ (by omega)).2.2.2.2.2]; exact w3')
      rw [at3, dr3] at S4
      have run : ∀ Q, mcall (D + 4) 319 [.ref 81, .int (Int32.ofNat d)] (pH h s) Q = Q (some (.int (Int32.ofNat (s.dr + (1 + ts cs))))) (pH h s4) := by
        intro Q
        rw [← q5 Q]
        clear R it il S4 T1 t1 t3 a2 a3 E2 E3 gb3
        rcases c with c | c | c
        · rw [c] at q2
          have x42 : (rkd 42 = 42) = True := by decide
          have x47 : (rkd 42 = 47) = False := by decide
          have x37 : (rkd 42 = 37) = False := by decide
          simp (disch := omega) only [s_319_0, s_319_1, s_319_2, s_319_5, s_319_6, s_319_7, s_319_10, s_319_12, s_319_15, s_319_16, s_319_19, s_319_21, s_319_24, s_319_25, s_319_28, s_319_30, s_319_33, s_319_34, s_319_35, s_319_36, s_319_38, s_319_39, s_319_42, s_319_43, s_319_44, s_319_45, s_319_48, s_319_49, s_319_50, s_319_51, s_319_52, s_319_56, s_319_59, s_319_61, s_319_64, s_319_65, s_319_68, s_319_70, s_319_73, s_319_74, s_319_77, s_319_79, s_319_82, s_319_83, s_319_84, s_319_87, s_319_89, s_319_92, s_319_94, s_319_97, s_319_98, s_319_101, s_319_103, s_319_106, s_319_108, s_319_111, s_319_113, s_319_114, s_319_117, s_319_118, s_319_121, s_319_122, s_319_123, s_319_126, s_319_128, s_319_129, s_319_130, s_319_133, s_319_136, s_319_137, s_319_139, s_319_140, s_319_143, s_319_146, s_319_147, s_319_150, s_319_151, s_319_152, s_319_155, s_319_158, s_319_159, s_319_160, s_319_162, s_319_165, s_319_168, s_319_169, e_319, mv_i_1, mv_l_1, mv_a_1, mv_a_2, mv_a_3, mk2_n, mk2_i, mk2_l, mk2_a, mk2_u, mk2_x, mB_T, mB_F, mS_cons, mS_nil, mSB_T, mSB_F, mca_nil, mca_i, mca_l, mca_r, mca_u, mca_x, mcat_i, mcat_l, mcat_r, mcat_u, mcat_x, mK_some, mK_none, va_rf_s, va_rf_n, lgc_eq, lgc_lt, lgc_gt, lgc_ge, lgc_le, mrd_104, mrd_105, mrd_106, mrd_107, true_and, and_true, and_self, false_and, and_false, true_or, or_true, false_or, or_false, not_true_eq_false, not_false_eq_true, mgb, mga, mgr, mN, reduceCtorEq, ↓reduceIte, eq_self, ge_iff_le, gt_iff_lt, Nat.reduceAdd, Nat.reduceMul, Nat.reduceSub, Nat.reduceLT, Nat.reduceGT, Nat.reduceEqDiff, Nat.reduceLeDiff, Nat.left_eq_add, Nat.add_eq_left, Nat.reduceMod, Nat.reduceDiv, Nat.succ_ne_self, pH_g, pH_r, pH_l, g, r1, g1, l1, pH_9, pH_87, nn_mxT, nn_clamp, eb, k0, q1, q2, x42, x47, x37, w1', q3, q4]
        · rw [c] at q2
          have x42 : (rkd 47 = 42) = False := by decide
          have x47 : (rkd 47 = 47) = True := by decide
          have x37 : (rkd 47 = 37) = False := by decide
          simp (disch := omega) only [s_319_0, s_319_1, s_319_2, s_319_5, s_319_6, s_319_7, s_319_10, s_319_12, s_319_15, s_319_16, s_319_19, s_319_21, s_319_24, s_319_25, s_319_28, s_319_30, s_319_33, s_319_34, s_319_35, s_319_36, s_319_38, s_319_39, s_319_42, s_319_43, s_319_44, s_319_45, s_319_48, s_319_49, s_319_50, s_319_51, s_319_52, s_319_56, s_319_59, s_319_61, s_319_64, s_319_65, s_319_68, s_319_70, s_319_73, s_319_74, s_319_77, s_319_79, s_319_82, s_319_83, s_319_84, s_319_87, s_319_89, s_319_92, s_319_94, s_319_97, s_319_98, s_319_101, s_319_103, s_319_106, s_319_108, s_319_111, s_319_113, s_319_114, s_319_117, s_319_118, s_319_121, s_319_122, s_319_123, s_319_126, s_319_128, s_319_129, s_319_130, s_319_133, s_319_136, s_319_137, s_319_139, s_319_140, s_319_143, s_319_146, s_319_147, s_319_150, s_319_151, s_319_152, s_319_155, s_319_158, s_319_159, s_319_160, s_319_162, s_319_165, s_319_168, s_319_169, e_319, mv_i_1, mv_l_1, mv_a_1, mv_a_2, mv_a_3, mk2_n, mk2_i, mk2_l, mk2_a, mk2_u, mk2_x, mB_T, mB_F, mS_cons, mS_nil, mSB_T, mSB_F, mca_nil, mca_i, mca_l, mca_r, mca_u, mca_x, mcat_i, mcat_l, mcat_r, mcat_u, mcat_x, mK_some, mK_none, va_rf_s, va_rf_n, lgc_eq, lgc_lt, lgc_gt, lgc_ge, lgc_le, mrd_104, mrd_105, mrd_106, mrd_107, true_and, and_true, and_self, false_and, and_false, true_or, or_true, false_or, or_false, not_true_eq_false, not_false_eq_true, mgb, mga, mgr, mN, reduceCtorEq, ↓reduceIte, eq_self, ge_iff_le, gt_iff_lt, Nat.reduceAdd, Nat.reduceMul, Nat.reduceSub, Nat.reduceLT, Nat.reduceGT, Nat.reduceEqDiff, Nat.reduceLeDiff, Nat.left_eq_add, Nat.add_eq_left, Nat.reduceMod, Nat.reduceDiv, Nat.succ_ne_self, pH_g, pH_r, pH_l, g, r1, g1, l1, pH_9, pH_87, nn_mxT, nn_clamp, eb, k0, q1, q2, x42, x47, x37, w1', q3, q4]
        · rw [c] at q2
          have x42 : (rkd 37 = 42) = False := by decide
          have x47 : (rkd 37 = 47) = False := by decide
          have x37 : (rkd 37 = 37) = True := by decide
          simp (disch := omega) only [s_319_0, s_319_1, s_319_2, s_319_5, s_319_6, s_319_7, s_319_10, s_319_12, s_319_15, s_319_16, s_319_19, s_319_21, s_319_24, s_319_25, s_319_28, s_319_30, s_319_33, s_319_34, s_319_35, s_319_36, s_319_38, s_319_39, s_319_42, s_319_43, s_319_44, s_319_45, s_319_48, s_319_49, s_319_50, s_319_51, s_319_52, s_319_56, s_319_59, s_319_61, s_319_64, s_319_65, s_319_68, s_319_70, s_319_73, s_319_74, s_319_77, s_319_79, s_319_82, s_319_83, s_319_84, s_319_87, s_319_89, s_319_92, s_319_94, s_319_97, s_319_98, s_319_101, s_319_103, s_319_106, s_319_108, s_319_111, s_319_113, s_319_114, s_319_117, s_319_118, s_319_121, s_319_122, s_319_123, s_319_126, s_319_128, s_319_129, s_319_130, s_319_133, s_319_136, s_319_137, s_319_139, s_319_140, s_319_143, s_319_146, s_319_147, s_319_150, s_319_151, s_319_152, s_319_155, s_319_158, s_319_159, s_319_160, s_319_162, s_319_165, s_319_168, s_319_169, e_319, mv_i_1, mv_l_1, mv_a_1, mv_a_2, mv_a_3, mk2_n, mk2_i, mk2_l, mk2_a, mk2_u, mk2_x, mB_T, mB_F, mS_cons, mS_nil, mSB_T, mSB_F, mca_nil, mca_i, mca_l, mca_r, mca_u, mca_x, mcat_i, mcat_l, mcat_r, mcat_u, mcat_x, mK_some, mK_none, va_rf_s, va_rf_n, lgc_eq, lgc_lt, lgc_gt, lgc_ge, lgc_le, mrd_104, mrd_105, mrd_106, mrd_107, true_and, and_true, and_self, false_and, and_false, true_or, or_true, false_or, or_false, not_true_eq_false, not_false_eq_true, mgb, mga, mgr, mN, reduceCtorEq, ↓reduceIte, eq_self, ge_iff_le, gt_iff_lt, Nat.reduceAdd, Nat.reduceMul, Nat.reduceSub, Nat.reduceLT, Nat.reduceGT, Nat.reduceEqDiff, Nat.reduceLeDiff, Nat.left_eq_add, Nat.add_eq_left, Nat.reduceMod, Nat.reduceDiv, Nat.succ_ne_self, pH_g, pH_r, pH_l, g, r1, g1, l1, pH_9, pH_87, nn_mxT, nn_clamp, eb, k0, q1, q2, x42, x47, x37, w1', q3, q4]
      obtain ⟨U1, U2, U3, U4⟩ := S4
      have gb5 := pgX_b (P := P) (V := V) R.M f 4 d j (by decide) gb2'
      have m4 : pSm s.dr s s4 := fun y hy => pE_t (T1 y hy) (pE_t (E3 y (by omega)) (U1 y (by omega) (by omega) (by omega)))
      generalize pgX K P V f 4 d j = r at *
      obtain ⟨k, o⟩ := r
      obtain ⟨gc1, gc2, gc3⟩ := gb5
      have gc1' : j ≤ k := gc1
      rcases U4 with ⟨t, o2, bd6, fl6, dr6, n6, t6⟩ | ⟨o2, bd6, fl6, dr6, dr6'⟩
      · have o2' : o = some t := o2
        subst o2'
        have c1 : dSc (tE 20 (tP n) 0) (.branch n cs t) = 1 := by unfold dSc; rw [tE_K (by decide)]; rfl
        obtain ⟨v1, v2, v3, v4, v5⟩ := U2 (s.dr + (1 + ts cs)) (by omega)
        have a6 : nf s4 (s.dr + (1 + ts cs)) 20 (Int32.ofNat (tP n)) 0 (Int32.ofNat (s.dr + dOf n cs)) (s4.L (s.dr + (1 + ts cs))) (-1) := ⟨v1.trans a3.1, v2.trans a3.2.1, v3.trans a3.2.2.1, v4.trans a3.2.2.2.1, rfl, (v5 (by omega)).trans a3.2.2.2.2.2⟩
        have t7 : s4.dq (.branch n cs t) true s.dr (dHd t (s.dr + (1 + ts cs) + 1)) := by
          refine dq_o (r := .leaf ()) (dq_n (x := -1) (fun y y1 y2 => ?_) n6 t3)
          obtain ⟨u1, u2, u3, u4, u5⟩ := U2 y (by omega)
          exact ⟨u1, u2, u3, u4, u5⟩
        have tp : tP n < 65536 := by unfold tP; omega
        have dt : s4.dq (tNd (tE 20 (tP n) 0) (.branch n cs t)) true s.dr (-1) := dq_m1 (c := cs) (r' := t) a6 (by rw [tE_K (by decide)]; rfl) (by rw [tE_P (by decide) tp]) (by rw [tE_V (by decide) tp]; rfl) c1 rfl rfl t7 t6
        have ST := SR_ok (P := P) (i := s.at) m4 U3 bd6 (fl6.trans fl3) (by rw [dr6]; show _ = s.dr + (1 + (1 + ts cs + ts t)); omega) dt
        rw [dOf_1 c1] at ST
        exact ⟨_, _, ST, run⟩
      · have o2' : o = none := o2
        subst o2'
        have dr6'' : s4.dr ≤ s.dr + (1 + ts cs) + 1 + 2 * (k - j) + 3 := dr6'
        exact ⟨_, _, SR_no m4 U3 bd6 fl6 (by omega) (by show s4.dr ≤ s.dr + 2 * (k - s.at) + 4; omega) (Or.inr ⟨_, rfl, by omega⟩), run⟩
    · rw [if_neg c]
      have ST := SR_ok (P := P) (i := s.at) T1 T2' bd1 fl1 dr1 t1
      refine ⟨_, _, ST, fun Q => ?_⟩
      have x42 : (rkd (K j) = 42) = False := by rw [rk_e (R.k _ gb2').2 (c := 42) (y := 42) (by decide) rfl]; exact eq_false (fun z => c (Or.inl z))
      have x47 : (rkd (K j) = 47) = False := by rw [rk_e (R.k _ gb2').2 (c := 47) (y := 47) (by decide) rfl]; exact eq_false (fun z => c (Or.inr (Or.inl z)))
      have x37 : (rkd (K j) = 37) = False := by rw [rk_e (R.k _ gb2').2 (c := 37) (y := 37) (by decide) rfl]; exact eq_false (fun z => c (Or.inr (Or.inr (z))))
      clear R it il T1 t1 gb3 ST
      simp (disch := omega) only [s_319_0, s_319_1, s_319_2, s_319_5, s_319_6, s_319_7, s_319_10, s_319_12, s_319_15, s_319_16, s_319_19, s_319_21, s_319_24, s_319_25, s_319_28, s_319_30, s_319_33, s_319_34, s_319_35, s_319_36, s_319_38, s_319_39, s_319_42, s_319_43, s_319_44, s_319_45, s_319_48, s_319_49, s_319_50, s_319_51, s_319_52, s_319_55, s_319_56, s_319_59, s_319_61, s_319_64, s_319_65, s_319_68, s_319_70, s_319_73, s_319_74, s_319_77, s_319_79, s_319_82, s_319_83, s_319_84, s_319_87, s_319_89, s_319_92, s_319_94, s_319_97, s_319_98, s_319_101, s_319_103, s_319_106, s_319_108, s_319_111, s_319_113, s_319_114, s_319_117, s_319_118, s_319_121, s_319_122, s_319_123, s_319_126, s_319_128, s_319_129, s_319_130, s_319_133, s_319_136, s_319_137, s_319_139, s_319_140, s_319_143, s_319_146, s_319_147, s_319_150, s_319_151, s_319_152, s_319_155, s_319_158, s_319_159, s_319_160, s_319_162, s_319_165, s_319_168, s_319_169, e_319, mv_i_1, mv_l_1, mv_a_1, mv_a_2, mv_a_3, mk2_n, mk2_i, mk2_l, mk2_a, mk2_u, mk2_x, mB_T, mB_F, mS_cons, mS_nil, mSB_T, mSB_F, mca_nil, mca_i, mca_l, mca_r, mca_u, mca_x, mcat_i, mcat_l, mcat_r, mcat_u, mcat_x, mK_some, mK_none, va_rf_s, va_rf_n, lgc_eq, lgc_lt, lgc_gt, lgc_ge, lgc_le, mrd_104, mrd_105, mrd_106, mrd_107, true_and, and_true, and_self, false_and, and_false, true_or, or_true, false_or, or_false, not_true_eq_false, not_false_eq_true, mgb, mga, mgr, mN, reduceCtorEq, ↓reduceIte, eq_self, ge_iff_le, gt_iff_lt, Nat.reduceAdd, Nat.reduceMul, Nat.reduceSub, Nat.reduceLT, Nat.reduceGT, Nat.reduceEqDiff, Nat.reduceLeDiff, Nat.left_eq_add, Nat.add_eq_left, Nat.reduceMod, Nat.reduceDiv, Nat.succ_ne_self, pH_g, g, pH_9, eb, k0, q1, q2, x42, x47, x37]
  · have o1' : o = none := o1
    subst o1'
    rw [lk_b bd1] at q2
    refine ⟨_, _, SR_no T1 T2' bd1 fl1 dr1 dr1' vv, fun Q => ?_⟩
    clear R it il T1 gb3
    simp (disch := omega) only [s_319_0, s_319_1, s_319_2, s_319_5, s_319_6, s_319_7, s_319_10, s_319_12, s_319_15, s_319_16, s_319_19, s_319_21, s_319_24, s_319_25, s_319_28, s_319_30, s_319_33, s_319_34, s_319_35, s_319_36, s_319_38, s_319_39, s_319_42, s_319_43, s_319_44, s_319_45, s_319_48, s_319_49, s_319_50, s_319_51, s_319_52, s_319_55, s_319_56, s_319_59, s_319_61, s_319_64, s_319_65, s_319_68, s_319_70, s_319_73, s_319_74, s_319_77, s_319_79, s_319_82, s_319_83, s_319_84, s_319_87, s_319_89, s_319_92, s_319_94, s_319_97, s_319_98, s_319_101, s_319_103, s_319_106, s_319_108, s_319_111, s_319_113, s_319_114, s_319_117, s_319_118, s_319_121, s_319_122, s_319_123, s_319_126, s_319_128, s_319_129, s_319_130, s_319_133, s_319_136, s_319_137, s_319_139, s_319_140, s_319_143, s_319_146, s_319_147, s_319_150, s_319_151, s_319_152, s_319_155, s_319_158, s_319_159, s_319_160, s_319_162, s_319_165, s_319_168, s_319_169, e_319, mv_i_1, mv_l_1, mv_a_1, mv_a_2, mv_a_3, mk2_n, mk2_i, mk2_l, mk2_a, mk2_u, mk2_x, mB_T, mB_F, mS_cons, mS_nil, mSB_T, mSB_F, mca_nil, mca_i, mca_l, mca_r, mca_u, mca_x, mcat_i, mcat_l, mcat_r, mcat_u, mcat_x, mK_some, mK_none, va_rf_s, va_rf_n, lgc_eq, lgc_lt, lgc_gt, lgc_ge, lgc_le, mrd_104, mrd_105, mrd_106, mrd_107, true_and, and_true, and_self, false_and, and_false, true_or, or_true, false_or, or_false, not_true_eq_false, not_false_eq_true, mgb, mga, mgr, mN, reduceCtorEq, ↓reduceIte, eq_self, ge_iff_le, gt_iff_lt, Nat.reduceAdd, Nat.reduceMul, Nat.reduceSub, Nat.reduceLT, Nat.reduceGT, Nat.reduceEqDiff, Nat.reduceLeDiff, Nat.left_eq_add, Nat.add_eq_left, Nat.reduceMod, Nat.reduceDiv, Nat.succ_ne_self, pH_g, g, pH_9, eb, k0, q1, q2, y42, y47, y37]
end PM319
section PNs
variable {h : mh_H} {m : Nat} {K : Nat → Int32} {P : Nat → Nat} {V : Nat → Int}
/-- THE REFERENCE'S sum IS the grammar's SUM -/
theorem pe_all (R : RTK h m K P V) : ∀ f, PE0 h m K P V f ∧ PE1 h m K P V f ∧ PE2 h m K P V f ∧ PL3 h m K P V f ∧ PL4 h m K P V f := by
  intro f
  induction f with
  | zero => exact ⟨fun d D s hf hi => by omega, fun d D s hf hi => by omega, fun d D s hf hi => by omega, fun d D s S0 L x2 x4 hf hi => by omega, fun d D s S0 L x2 x4 hf hi => by omega⟩
  | succ f ih =>
    obtain ⟨i0, i1, i2, i3, i4⟩ := ih
    exact ⟨f_sum R i1 i3, f_ter R i2 i4, f_fac R i0 i2, lp3_s R i1 i3, lp4_s R i2 i4⟩
end PNs
