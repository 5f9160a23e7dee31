set_option maxRecDepth 100000
/-! THE REFERENCE'S PARSER: TESTs joined -/
section PT1
variable {f N : Nat} {h : mh_H} {m : Nat} {K : Nat → Int32} {P : Nat → Nat} {V : Nat → Int}
theorem g_and (R : RTK h m K P V) (it : PC2 h m K P V N f) (il : PK4 h m K P V N f) : PC1 h m K P V N (f + 1) := by
  intro d D s hf hi eb hd hD hr
  rw [pgC_1]
  obtain ⟨D, rfl⟩ : ∃ D', D = D' + 4 := ⟨D - 4, by omega⟩
  have hm := R.m
  have g := R.F.g 81 14 70 (by decide +kernel)
  have r1 := R.F.f 81 12 87 (by decide +kernel)
  have g1 := R.F.g 87 100 52000 (by decide +kernel)
  have l1 := R.F.l 87 100 52000 (by decide +kernel)
  have n2 : ((25 : Int32) = 24) = False := by decide
  have y1 : (rkd 1 = 260) = False := by decide
  obtain ⟨s1, v1, S1, q1⟩ := it d (D + 3) s (by omega) hi eb (by omega) (by omega) hr
  have gb := (pgC_b (P := P) (V := V) (N := N) R.M f 2 d s.at (by decide) hi).1
  generalize pgC K P V N f 2 d s.at = r at *
  obtain ⟨j, o⟩ := r
  obtain ⟨gb1, gb2, gb3⟩ := gb
  have gb1' : s.at ≤ j := gb1
  have gb2' : j < m := gb2
  obtain ⟨T1, T2, T3⟩ := S1
  have T2' : s1.at = j := T2
  have q2 := c_310 (D := D + 3) (s := s1) R (by omega)
  rcases T3 with ⟨n, cs, o1, bd1, fl1, dr1, t1, vv⟩ | ⟨o1, bd1, fl1, dr1, dr1', vv⟩
  · have o1' : o = some (tNd n cs) := o1
    subst o1'
    have gs' : 1 + ts cs ≤ 2 * (j - s.at) := (gb3 (tNd n cs) rfl).2.1
    have ob := dOf_b (n := n) (cs := cs)
    subst vv
    rw [lk_0 bd1, T2'] at q2
    show ∃ s' v, SR P (if K j = 132 then bnd (pgC K P V N f 4 d j) fun r k => (k, some (tNd (tE 25 (tR (tNd n cs)) 0) (tA (tNd n cs) r))) else (j, some (tNd n cs))) s.at s.dr s s' v ∧ _
    by_cases c : K j = 132
    · rw [if_pos c]
      obtain ⟨w1', w3'⟩ := dq_N t1
      have q3 := c_313 (D := D + 3) (s := s1) R.F (by omega) (k := 25) (p := Int32.ofNat (tP n)) (v := 0)
      rw [dr1] at q3
      obtain ⟨s2, hs2⟩ : ∃ x : pst, x = s1.dft 25 (Int32.ofNat (tP n)) 0 := ⟨_, rfl⟩
      rw [← hs2] at q3
      have a2 : nf s2 (s.dr + (1 + ts cs)) 25 (Int32.ofNat (tP n)) 0 (-1) (-1) (-1) := by rw [hs2, ← dr1]; exact dft_n
      have E2 : ∀ y, y < s.dr + (1 + ts cs) → pE s1 s2 y := fun y hy => by rw [hs2]; exact dft_E (by omega)
      have q4 := c_314 (D := D + 3) (s := s2) R.F (o := s.dr + (1 + ts cs)) (y := s.dr + dOf n cs) (by omega) (by omega) (fun z => absurd a2.2.2.2.1 z)
      obtain ⟨f1, f2, f3, f4⟩ := jn_f (s := s2) (o := s.dr + (1 + ts cs)) (y := s.dr + dOf n cs)
      obtain ⟨s3, hs3⟩ : ∃ x : pst, x = s2.jn (s.dr + (1 + ts cs)) (s.dr + dOf n cs) := ⟨_, rfl⟩
      rw [← hs3] at q4 f1 f2 f3 f4
      have a3 : nf s3 (s.dr + (1 + ts cs)) 25 (Int32.ofNat (tP n)) 0 (Int32.ofNat (s.dr + dOf n cs)) (Int32.ofNat (s.dr + dOf n cs)) (-1) := by rw [hs3]; exact jn1_n a2
      have E3 : ∀ y, y < s.dr + (1 + ts cs) → pE s1 s3 y := fun y hy => pE_t (E2 y hy) (by rw [hs3]; exact jn1_E a2 (by omega))
      have at3 : s3.at = j := by rw [f1, hs2]; exact T2'
      have bd3 : s3.bd = false := by rw [f2, hs2]; exact bd1
      have fl3 : s3.fl = s.fl := by rw [f3, hs2]; exact fl1
      have dr3 : s3.dr = s.dr + (1 + ts cs) + 1 := by rw [f4, hs2]; show s1.dr + 1 = _; omega
      have t3 : s3.dq (tNd n cs) true s.dr (-1) := dq_S t1 (fun y y1 y2 => by rw [dSz_N] at y2; exact E3 y y2)
      obtain ⟨s4, S4, q5⟩ := il d (D + 4) s3 (s.dr + (1 + ts cs)) (s.dr + dOf n cs) (some (.int (Int32.ofNat (s.dr + dOf n cs)))) (by rw [at3]; omega) (by rw [at3]; exact gb2') bd3 (by omega) (by omega) (by rw [at3, dr3]; omega) (by omega) (by omega) (by omega) a3.2.2.2.2.1 (by rw [a3.2.2.2.1]; exact ofn_m (by omega)) (by rw [(E3 _ (by omega)).2.2.2.2.2]; exact w3')
      rw [at3, dr3] at S4
      have run : ∀ Q, mcall (D + 4) 322 [.ref 81, .int (Int32.ofNat d), .int 25] (pH h s) Q = Q (some (.int (Int32.ofNat (s.dr + (1 + ts cs))))) (pH h s4) := by
        intro Q
        rw [← q5 Q]
        clear R it il S4 T1 t1 t3 a2 a3 E2 E3 gb3
        rw [c] at q2
        have x1 : (rkd 132 = 260) = True := by decide
        simp (disch := omega) only [s_322_0, s_322_1, s_322_3, s_322_6, s_322_9, s_322_12, s_322_15, s_322_16, s_322_17, s_322_19, s_322_22, s_322_23, s_322_24, s_322_26, s_322_29, s_322_32, s_322_33, s_322_34, s_322_37, s_322_39, s_322_40, s_322_43, s_322_44, s_322_47, s_322_49, s_322_50, s_322_51, s_322_52, s_322_53, s_322_56, s_322_58, s_322_59, s_322_60, s_322_63, s_322_65, s_322_66, s_322_68, s_322_70, s_322_74, s_322_77, s_322_78, s_322_81, s_322_82, s_322_83, s_322_86, s_322_87, s_322_89, s_322_90, s_322_93, s_322_96, s_322_97, s_322_100, s_322_101, s_322_103, s_322_106, s_322_107, s_322_108, s_322_110, s_322_113, s_322_116, s_322_117, s_322_118, s_322_121, s_322_124, s_322_127, s_322_129, e_322, mv_i_1, mv_l_1, mv_a_1, mv_a_2, mv_a_3, mk2_n, mk2_i, mk2_l, mk2_a, mk2_u, mk2_x, mB_T, mB_F, mS_cons, mS_nil, mSB_T, mSB_F, mca_nil, mca_i, mca_l, mca_r, mca_u, mca_x, mcat_i, mcat_l, mcat_r, mcat_u, mcat_x, mK_some, mK_none, va_rf_s, va_rf_n, lgc_eq, lgc_lt, lgc_gt, lgc_ge, lgc_le, mrd_104, mrd_105, mrd_106, mrd_107, true_and, and_true, and_self, false_and, and_false, true_or, or_true, false_or, or_false, not_true_eq_false, not_false_eq_true, mgb, mga, mgr, mN, reduceCtorEq, ↓reduceIte, eq_self, ge_iff_le, gt_iff_lt, Nat.reduceAdd, Nat.reduceMul, Nat.reduceSub, Nat.reduceLT, Nat.reduceGT, Nat.reduceEqDiff, Nat.reduceLeDiff, Nat.left_eq_add, Nat.add_eq_left, Nat.reduceMod, Nat.reduceDiv, Nat.succ_ne_self, pH_g, pH_r, pH_l, g, r1, g1, l1, pH_87, nn_mxT, nn_clamp, n2, q1, q2, x1, w1', q3, q4]
      obtain ⟨U1, U2, U3, U4⟩ := S4
      have gb5 := (pgC_b (P := P) (V := V) (N := N) R.M f 4 d j (by decide) gb2').1
      have m4 : pSm s.dr s s4 := fun y hy => pE_t (T1 y hy) (pE_t (E3 y (by omega)) (U1 y (by omega) (by omega) (by omega)))
      generalize pgC K P V N f 4 d j = r at *
      obtain ⟨k, o⟩ := r
      obtain ⟨gc1, gc2, gc3⟩ := gb5
      have gc1' : j ≤ k := gc1
      rcases U4 with ⟨t, o2, bd6, fl6, dr6, n6, t6⟩ | ⟨o2, bd6, fl6, dr6, dr6'⟩
      · have o2' : o = some t := o2
        subst o2'
        have c1 : dSc (tE 25 (tP n) 0) (.branch n cs t) = 1 := by unfold dSc; rw [tE_K (by decide)]; rfl
        obtain ⟨v1, v2, v3, v4, v5⟩ := U2 (s.dr + (1 + ts cs)) (by omega)
        have a6 : nf s4 (s.dr + (1 + ts cs)) 25 (Int32.ofNat (tP n)) 0 (Int32.ofNat (s.dr + dOf n cs)) (s4.L (s.dr + (1 + ts cs))) (-1) := ⟨v1.trans a3.1, v2.trans a3.2.1, v3.trans a3.2.2.1, v4.trans a3.2.2.2.1, rfl, (v5 (by omega)).trans a3.2.2.2.2.2⟩
        have t7 : s4.dq (.branch n cs t) true s.dr (dHd t (s.dr + (1 + ts cs) + 1)) := by
          refine dq_o (r := .leaf ()) (dq_n (x := -1) (fun y y1 y2 => ?_) n6 t3)
          obtain ⟨u1, u2, u3, u4, u5⟩ := U2 y (by omega)
          exact ⟨u1, u2, u3, u4, u5⟩
        have tp : tP n < 65536 := by unfold tP; omega
        have dt : s4.dq (tNd (tE 25 (tP n) 0) (.branch n cs t)) true s.dr (-1) := dq_m1 (c := cs) (r' := t) a6 (by rw [tE_K (by decide)]; rfl) (by rw [tE_P (by decide) tp]) (by rw [tE_V (by decide) tp]; rfl) c1 rfl rfl t7 t6
        have ST := SR_ok (P := P) (i := s.at) m4 U3 bd6 (fl6.trans fl3) (by rw [dr6]; show _ = s.dr + (1 + (1 + ts cs + ts t)); omega) dt
        rw [dOf_1 c1] at ST
        exact ⟨_, _, ST, run⟩
      · have o2' : o = none := o2
        subst o2'
        have dr6'' : s4.dr ≤ s.dr + (1 + ts cs) + 1 + 2 * (k - j) + 3 := dr6'
        exact ⟨_, _, SR_no m4 U3 bd6 fl6 (by omega) (by show s4.dr ≤ s.dr + 2 * (k - s.at) + 4; omega) (Or.inr ⟨_, rfl, by omega⟩), run⟩
    · rw [if_neg c]
      have ST := SR_ok (P := P) (i := s.at) T1 T2' bd1 fl1 dr1 t1
      refine ⟨_, _, ST, fun Q => ?_⟩
      have x1 : (rkd (K j) = 260) = False := by rw [rk_e (R.k _ gb2').2 (c := 132) (y := 260) (by decide) rfl]; exact eq_false c
      clear R it il T1 t1 gb3 ST
      simp (disch := omega) only [s_322_0, s_322_1, s_322_3, s_322_6, s_322_9, s_322_12, s_322_15, s_322_16, s_322_17, s_322_19, s_322_22, s_322_23, s_322_24, s_322_26, s_322_29, s_322_32, s_322_33, s_322_34, s_322_37, s_322_39, s_322_40, s_322_43, s_322_44, s_322_47, s_322_49, s_322_50, s_322_51, s_322_52, s_322_53, s_322_56, s_322_58, s_322_59, s_322_60, s_322_63, s_322_65, s_322_66, s_322_68, s_322_70, s_322_73, s_322_74, s_322_77, s_322_78, s_322_81, s_322_82, s_322_83, s_322_86, s_322_87, s_322_89, s_322_90, s_322_93, s_322_96, s_322_97, s_322_100, s_322_101, s_322_103, s_322_106, s_322_107, s_322_108, s_322_110, s_322_113, s_322_116, s_322_117, s_322_118, s_322_121, s_322_124, s_322_127, s_322_129, e_322, mv_i_1, mv_l_1, mv_a_1, mv_a_2, mv_a_3, mk2_n, mk2_i, mk2_l, mk2_a, mk2_u, mk2_x, mB_T, mB_F, mS_cons, mS_nil, mSB_T, mSB_F, mca_nil, mca_i, mca_l, mca_r, mca_u, mca_x, mcat_i, mcat_l, mcat_r, mcat_u, mcat_x, mK_some, mK_none, va_rf_s, va_rf_n, lgc_eq, lgc_lt, lgc_gt, lgc_ge, lgc_le, mrd_104, mrd_105, mrd_106, mrd_107, true_and, and_true, and_self, false_and, and_false, true_or, or_true, false_or, or_false, not_true_eq_false, not_false_eq_true, mgb, mga, mgr, mN, reduceCtorEq, ↓reduceIte, eq_self, ge_iff_le, gt_iff_lt, Nat.reduceAdd, Nat.reduceMul, Nat.reduceSub, Nat.reduceLT, Nat.reduceGT, Nat.reduceEqDiff, Nat.reduceLeDiff, Nat.left_eq_add, Nat.add_eq_left, Nat.reduceMod, Nat.reduceDiv, Nat.succ_ne_self, pH_g, g, n2, q1, q2, x1]
  · have o1' : o = none := o1
    subst o1'
    rw [lk_b bd1] at q2
    refine ⟨_, _, SR_no T1 T2' bd1 fl1 dr1 dr1' vv, fun Q => ?_⟩
    clear R it il T1 gb3
    simp (disch := omega) only [s_322_0, s_322_1, s_322_3, s_322_6, s_322_9, s_322_12, s_322_15, s_322_16, s_322_17, s_322_19, s_322_22, s_322_23, s_322_24, s_322_26, s_322_29, s_322_32, s_322_33, s_322_34, s_322_37, s_322_39, s_322_40, s_322_43, s_322_44, s_322_47, s_322_49, s_322_50, s_322_51, s_322_52, s_322_53, s_322_56, s_322_58, s_322_59, s_322_60, s_322_63, s_322_65, s_322_66, s_322_68, s_322_70, s_322_73, s_322_74, s_322_77, s_322_78, s_322_81, s_322_82, s_322_83, s_322_86, s_322_87, s_322_89, s_322_90, s_322_93, s_322_96, s_322_97, s_322_100, s_322_101, s_322_103, s_322_106, s_322_107, s_322_108, s_322_110, s_322_113, s_322_116, s_322_117, s_322_118, s_322_121, s_322_124, s_322_127, s_322_129, e_322, mv_i_1, mv_l_1, mv_a_1, mv_a_2, mv_a_3, mk2_n, mk2_i, mk2_l, mk2_a, mk2_u, mk2_x, mB_T, mB_F, mS_cons, mS_nil, mSB_T, mSB_F, mca_nil, mca_i, mca_l, mca_r, mca_u, mca_x, mcat_i, mcat_l, mcat_r, mcat_u, mcat_x, mK_some, mK_none, va_rf_s, va_rf_n, lgc_eq, lgc_lt, lgc_gt, lgc_ge, lgc_le, mrd_104, mrd_105, mrd_106, mrd_107, true_and, and_true, and_self, false_and, and_false, true_or, or_true, false_or, or_false, not_true_eq_false, not_false_eq_true, mgb, mga, mgr, mN, reduceCtorEq, ↓reduceIte, eq_self, ge_iff_le, gt_iff_lt, Nat.reduceAdd, Nat.reduceMul, Nat.reduceSub, Nat.reduceLT, Nat.reduceGT, Nat.reduceEqDiff, Nat.reduceLeDiff, Nat.left_eq_add, Nat.add_eq_left, Nat.reduceMod, Nat.reduceDiv, Nat.succ_ne_self, pH_g, g, n2, q1, q2, y1]
end PT1
section PT0
variable {f N : Nat} {h : mh_H} {m : Nat} {K : Nat → Int32} {P : Nat → Nat} {V : Nat → Int}
/-- tests joined by || -/
theorem g_or (R : RTK h m K P V) (it : PC1 h m K P V N f) (il : PK3 h m K P V N f) : ∀ d D (s : pst), 8 * (m - s.at) + 6 ≤ f + 1 → s.at < m → s.bd = false → d ≤ 60 → 4 * (62 - d) + 9 ≤ D → s.dr + 2 * (m - s.at) + 8 ≤ 52000 → ∃ s' v, SR P (bnd (pgC K P V N f 1 d s.at) fun t j => if K j = 133 then bnd (pgC K P V N f 3 d j) fun r k => (k, some (tNd (tE 24 (tR t) 0) (tA t r))) else (j, some t)) s.at s.dr s s' v ∧ ∀ Q, mcall D 322 [.ref 81, .int (Int32.ofNat d), .int 24] (pH h s) Q = Q (some (.int v)) (pH h s') := by
  intro d D s hf hi eb hd hD hr
  obtain ⟨D, rfl⟩ : ∃ D', D = D' + 4 := ⟨D - 4, by omega⟩
  have hm := R.m
  have g := R.F.g 81 14 70 (by decide +kernel)
  have r1 := R.F.f 81 12 87 (by decide +kernel)
  have g1 := R.F.g 87 100 52000 (by decide +kernel)
  have l1 := R.F.l 87 100 52000 (by decide +kernel)
  have n2 : ((24 : Int32) = 24) = True := by decide
  have y1 : (rkd 1 = 261) = False := by decide
  obtain ⟨s1, v1, S1, q1⟩ := it d (D + 3) s (by omega) hi eb (by omega) (by omega) hr
  have gb := (pgC_b (P := P) (V := V) (N := N) R.M f 1 d s.at (by decide) hi).1
  generalize pgC K P V N f 1 d s.at = r at *
  obtain ⟨j, o⟩ := r
  obtain ⟨gb1, gb2, gb3⟩ := gb
  have gb1' : s.at ≤ j := gb1
  have gb2' : j < m := gb2
  obtain ⟨T1, T2, T3⟩ := S1
  have T2' : s1.at = j := T2
  have q2 := c_310 (D := D + 3) (s := s1) R (by omega)
  rcases T3 with ⟨n, cs, o1, bd1, fl1, dr1, t1, vv⟩ | ⟨o1, bd1, fl1, dr1, dr1', vv⟩
  · have o1' : o = some (tNd n cs) := o1
    subst o1'
    have gs' : 1 + ts cs ≤ 2 * (j - s.at) := (gb3 (tNd n cs) rfl).2.1
    have ob := dOf_b (n := n) (cs := cs)
    subst vv
    rw [lk_0 bd1, T2'] at q2
    show ∃ s' v, SR P (if K j = 133 then bnd (pgC K P V N f 3 d j) fun r k => (k, some (tNd (tE 24 (tR (tNd n cs)) 0) (tA (tNd n cs) r))) else (j, some (tNd n cs))) s.at s.dr s s' v ∧ _
    by_cases c : K j = 133
    · rw [if_pos c]
      obtain ⟨w1', w3'⟩ := dq_N t1
      have q3 := c_313 (D := D + 3) (s := s1) R.F (by omega) (k := 24) (p := Int32.ofNat (tP n)) (v := 0)
      rw [dr1] at q3
      obtain ⟨s2, hs2⟩ : ∃ x : pst, x = s1.dft 24 (Int32.ofNat (tP n)) 0 := ⟨_, rfl⟩
      rw [← hs2] at q3
      have a2 : nf s2 (s.dr + (1 + ts cs)) 24 (Int32.ofNat (tP n)) 0 (-1) (-1) (-1) := by rw [hs2, ← dr1]; exact dft_n
      have E2 : ∀ y, y < s.dr + (1 + ts cs) → pE s1 s2 y := fun y hy => by rw [hs2]; exact dft_E (by omega)
      have q4 := c_314 (D := D + 3) (s := s2) R.F (o := s.dr + (1 + ts cs)) (y := s.dr + dOf n cs) (by omega) (by omega) (fun z => absurd a2.2.2.2.1 z)
      obtain ⟨f1, f2, f3, f4⟩ := jn_f (s := s2) (o := s.dr + (1 + ts cs)) (y := s.dr + dOf n cs)
      obtain ⟨s3, hs3⟩ : ∃ x : pst, x = s2.jn (s.dr + (1 + ts cs)) (s.dr + dOf n cs) := ⟨_, rfl⟩
      rw [← hs3] at q4 f1 f2 f3 f4
      have a3 : nf s3 (s.dr + (1 + ts cs)) 24 (Int32.ofNat (tP n)) 0 (Int32.ofNat (s.dr + dOf n cs)) (Int32.ofNat (s.dr + dOf n cs)) (-1) := by rw [hs3]; exact jn1_n a2
      have E3 : ∀ y, y < s.dr + (1 + ts cs) → pE s1 s3 y := fun y hy => pE_t (E2 y hy) (by rw [hs3]; exact jn1_E a2 (by omega))
      have at3 : s3.at = j := by rw [f1, hs2]; exact T2'
      have bd3 : s3.bd = false := by rw [f2, hs2]; exact bd1
      have fl3 : s3.fl = s.fl := by rw [f3, hs2]; exact fl1
      have dr3 : s3.dr = s.dr + (1 + ts cs) + 1 := by rw [f4, hs2]; show s1.dr + 1 = _; omega
      have t3 : s3.dq (tNd n cs) true s.dr (-1) := dq_S t1 (fun y y1 y2 => by rw [dSz_N] at y2; exact E3 y y2)
      obtain ⟨s4, S4, q5⟩ := il d (D + 4) s3 (s.dr + (1 + ts cs)) (s.dr + dOf n cs) (some (.int (Int32.ofNat (s.dr + dOf n cs)))) (by rw [at3]; omega) (by rw [at3]; exact gb2') bd3 (by omega) (by omega) (by rw [at3, dr3]; omega) (by omega) (by omega) (by omega) a3.2.2.2.2.1 (by rw [a3.2.2.2.1]; exact ofn_m (by omega)) (by rw [(E3 _ (by omega)).2.2.2.2.2]; exact w3')
      rw [at3, dr3] at S4
      have run : ∀ Q, mcall (D + 4) 322 [.ref 81, .int (Int32.ofNat d), .int 24] (pH h s) Q = Q (some (.int (Int32.ofNat (s.dr + (1 + ts cs))))) (pH h s4) := by
        intro Q
        rw [← q5 Q]
        clear R it il S4 T1 t1 t3 a2 a3 E2 E3 gb3
        rw [c] at q2
        have x1 : (rkd 133 = 261) = True := by decide
        simp (disch := omega) only [s_322_0, s_322_1, s_322_3, s_322_6, s_322_9, s_322_12, s_322_15, s_322_16, s_322_17, s_322_19, s_322_22, s_322_23, s_322_24, s_322_26, s_322_29, s_322_32, s_322_33, s_322_34, s_322_37, s_322_39, s_322_40, s_322_43, s_322_44, s_322_47, s_322_49, s_322_50, s_322_51, s_322_52, s_322_53, s_322_56, s_322_58, s_322_59, s_322_60, s_322_63, s_322_65, s_322_66, s_322_68, s_322_70, s_322_74, s_322_77, s_322_78, s_322_81, s_322_82, s_322_83, s_322_86, s_322_87, s_322_89, s_322_90, s_322_93, s_322_96, s_322_97, s_322_100, s_322_101, s_322_103, s_322_106, s_322_107, s_322_108, s_322_110, s_322_113, s_322_116, s_322_117, s_322_118, s_322_121, s_322_124, s_322_127, s_322_129, e_322, mv_i_1, mv_l_1, mv_a_1, mv_a_2, mv_a_3, mk2_n, mk2_i, mk2_l, mk2_a, mk2_u, mk2_x, mB_T, mB_F, mS_cons, mS_nil, mSB_T, mSB_F, mca_nil, mca_i, mca_l, mca_r, mca_u, mca_x, mcat_i, mcat_l, mcat_r, mcat_u, mcat_x, mK_some, mK_none, va_rf_s, va_rf_n, lgc_eq, lgc_lt, lgc_gt, lgc_ge, lgc_le, mrd_104, mrd_105, mrd_106, mrd_107, true_and, and_true, and_self, false_and, and_false, true_or, or_true, false_or, or_false, not_true_eq_false, not_false_eq_true, mgb, mga, mgr, mN, reduceCtorEq, ↓reduceIte, eq_self, ge_iff_le, gt_iff_lt, Nat.reduceAdd, Nat.reduceMul, Nat.reduceSub, Nat.reduceLT, Nat.reduceGT, Nat.reduceEqDiff, Nat.reduceLeDiff, Nat.left_eq_add, Nat.add_eq_left, Nat.reduceMod, Nat.reduceDiv, Nat.succ_ne_self, pH_g, pH_r, pH_l, g, r1, g1, l1, pH_87, nn_mxT, nn_clamp, n2, q1, q2, x1, w1', q3, q4]
      obtain ⟨U1, U2, U3, U4⟩ := S4
      have gb5 := (pgC_b (P := P) (V := V) (N := N) R.M f 3 d j (by decide) gb2').1
      have m4 : pSm s.dr s s4 := fun y hy => pE_t (T1 y hy) (pE_t (E3 y (by omega)) (U1 y (by omega) (by omega) (by omega)))
      generalize pgC K P V N f 3 d j = r at *
      obtain ⟨k, o⟩ := r
      obtain ⟨gc1, gc2, gc3⟩ := gb5
      have gc1' : j ≤ k := gc1
      rcases U4 with ⟨t, o2, bd6, fl6, dr6, n6, t6⟩ | ⟨o2, bd6, fl6, dr6, dr6'⟩
      · have o2' : o = some t := o2
        subst o2'
        have c1 : dSc (tE 24 (tP n) 0) (.branch n cs t) = 1 := by unfold dSc; rw [tE_K (by decide)]; rfl
        obtain ⟨v1, v2, v3, v4, v5⟩ := U2 (s.dr + (1 + ts cs)) (by omega)
        have a6 : nf s4 (s.dr + (1 + ts cs)) 24 (Int32.ofNat (tP n)) 0 (Int32.ofNat (s.dr + dOf n cs)) (s4.L (s.dr + (1 + ts cs))) (-1) := ⟨v1.trans a3.1, v2.trans a3.2.1, v3.trans a3.2.2.1, v4.trans a3.2.2.2.1, rfl, (v5 (by omega)).trans a3.2.2.2.2.2⟩
        have t7 : s4.dq (.branch n cs t) true s.dr (dHd t (s.dr + (1 + ts cs) + 1)) := by
          refine dq_o (r := .leaf ()) (dq_n (x := -1) (fun y y1 y2 => ?_) n6 t3)
          obtain ⟨u1, u2, u3, u4, u5⟩ := U2 y (by omega)
          exact ⟨u1, u2, u3, u4, u5⟩
        have tp : tP n < 65536 := by unfold tP; omega
        have dt : s4.dq (tNd (tE 24 (tP n) 0) (.branch n cs t)) true s.dr (-1) := dq_m1 (c := cs) (r' := t) a6 (by rw [tE_K (by decide)]; rfl) (by rw [tE_P (by decide) tp]) (by rw [tE_V (by decide) tp]; rfl) c1 rfl rfl t7 t6
        have ST := SR_ok (P := P) (i := s.at) m4 U3 bd6 (fl6.trans fl3) (by rw [dr6]; show _ = s.dr + (1 + (1 + ts cs + ts t)); omega) dt
        rw [dOf_1 c1] at ST
        exact ⟨_, _, ST, run⟩
      · have o2' : o = none := o2
        subst o2'
        have dr6'' : s4.dr ≤ s.dr + (1 + ts cs) + 1 + 2 * (k - j) + 3 := dr6'
        exact ⟨_, _, SR_no m4 U3 bd6 fl6 (by omega) (by show s4.dr ≤ s.dr + 2 * (k - s.at) + 4; omega) (Or.inr ⟨_, rfl, by omega⟩), run⟩
    · rw [if_neg c]
      have ST := SR_ok (P := P) (i := s.at) T1 T2' bd1 fl1 dr1 t1
      refine ⟨_, _, ST, fun Q => ?_⟩
      have x1 : (rkd (K j) = 261) = False := by rw [rk_e (R.k _ gb2').2 (c := 133) (y := 261) (by decide) rfl]; exact eq_false c
      clear R it il T1 t1 gb3 ST
      simp (disch := omega) only [s_322_0, s_322_1, s_322_3, s_322_6, s_322_9, s_322_12, s_322_15, s_322_16, s_322_17, s_322_19, s_322_22, s_322_23, s_322_24, s_322_26, s_322_29, s_322_32, s_322_33, s_322_34, s_322_37, s_322_39, s_322_40, s_322_43, s_322_44, s_322_47, s_322_49, s_322_50, s_322_51, s_322_52, s_322_53, s_322_56, s_322_58, s_322_59, s_322_60, s_322_63, s_322_65, s_322_66, s_322_68, s_322_70, s_322_73, s_322_74, s_322_77, s_322_78, s_322_81, s_322_82, s_322_83, s_322_86, s_322_87, s_322_89, s_322_90, s_322_93, s_322_96, s_322_97, s_322_100, s_322_101, s_322_103, s_322_106, s_322_107, s_322_108, s_322_110, s_322_113, s_322_116, s_322_117, s_322_118, s_322_121, s_322_124, s_322_127, s_322_129, e_322, mv_i_1, mv_l_1, mv_a_1, mv_a_2, mv_a_3, mk2_n, mk2_i, mk2_l, mk2_a, mk2_u, mk2_x, mB_T, mB_F, mS_cons, mS_nil, mSB_T, mSB_F, mca_nil, mca_i, mca_l, mca_r, mca_u, mca_x, mcat_i, mcat_l, mcat_r, mcat_u, mcat_x, mK_some, mK_none, va_rf_s, va_rf_n, lgc_eq, lgc_lt, lgc_gt, lgc_ge, lgc_le, mrd_104, mrd_105, mrd_106, mrd_107, true_and, and_true, and_self, false_and, and_false, true_or, or_true, false_or, or_false, not_true_eq_false, not_false_eq_true, mgb, mga, mgr, mN, reduceCtorEq, ↓reduceIte, eq_self, ge_iff_le, gt_iff_lt, Nat.reduceAdd, Nat.reduceMul, Nat.reduceSub, Nat.reduceLT, Nat.reduceGT, Nat.reduceEqDiff, Nat.reduceLeDiff, Nat.left_eq_add, Nat.add_eq_left, Nat.reduceMod, Nat.reduceDiv, Nat.succ_ne_self, pH_g, g, n2, q1, q2, x1]
  · have o1' : o = none := o1
    subst o1'
    rw [lk_b bd1] at q2
    refine ⟨_, _, SR_no T1 T2' bd1 fl1 dr1 dr1' vv, fun Q => ?_⟩
    clear R it il T1 gb3
    simp (disch := omega) only [s_322_0, s_322_1, s_322_3, s_322_6, s_322_9, s_322_12, s_322_15, s_322_16, s_322_17, s_322_19, s_322_22, s_322_23, s_322_24, s_322_26, s_322_29, s_322_32, s_322_33, s_322_34, s_322_37, s_322_39, s_322_40, s_322_43, s_322_44, s_322_47, s_322_49, s_322_50, s_322_51, s_322_52, s_322_53, s_322_56, s_322_58, s_322_59, s_322_60, s_322_63, s_322_65, s_322_66, s_322_68, s_322_70, s_322_73, s_322_74, s_322_77, s_322_78, s_322_81, s_322_82, s_322_83, s_322_86, s_322_87, s_322_89, s_322_90, s_322_93, s_322_96, s_322_97, s_322_100, s_322_101, s_322_103, s_322_106, s_322_107, s_322_108, s_322_110, s_322_113, s_322_116, s_322_117, s_322_118, s_322_121, s_322_124, s_322_127, s_322_129, e_322, mv_i_1, mv_l_1, mv_a_1, mv_a_2, mv_a_3, mk2_n, mk2_i, mk2_l, mk2_a, mk2_u, mk2_x, mB_T, mB_F, mS_cons, mS_nil, mSB_T, mSB_F, mca_nil, mca_i, mca_l, mca_r, mca_u, mca_x, mcat_i, mcat_l, mcat_r, mcat_u, mcat_x, mK_some, mK_none, va_rf_s, va_rf_n, lgc_eq, lgc_lt, lgc_gt, lgc_ge, lgc_le, mrd_104, mrd_105, mrd_106, mrd_107, true_and, and_true, and_self, false_and, and_false, true_or, or_true, false_or, or_false, not_true_eq_false, not_false_eq_true, mgb, mga, mgr, mN, reduceCtorEq, ↓reduceIte, eq_self, ge_iff_le, gt_iff_lt, Nat.reduceAdd, Nat.reduceMul, Nat.reduceSub, Nat.reduceLT, Nat.reduceGT, Nat.reduceEqDiff, Nat.reduceLeDiff, Nat.left_eq_add, Nat.add_eq_left, Nat.reduceMod, Nat.reduceDiv, Nat.succ_ne_self, pH_g, g, n2, q1, q2, y1]
end PT0
