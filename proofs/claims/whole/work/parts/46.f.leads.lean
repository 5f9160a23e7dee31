set_option maxRecDepth 100000
/-! InvariantDesk.leadsToClaims -/
section LCs
variable {V U W : Nat → Nat → Prop} {d : Nat} {h h1 : mh_H} {Y C E TT UU SC SP nC nE nS : Nat} {G : pgm} {cnt k p w : Nat} {I : mh_H → Prop} {A : ab} {cl : Nat → Option ab} {fst oth : Nat → Nat}
/-- ints of the desk and the like -/
theorem zS_G (B : BS h Y C E TT UU SC SP nC nE nS) (x : fG W h h1) (hW : ∀ b j, W b j → aX h b) : zS (fun _ _ => False) W h h1 ∧ BS h1 Y C E TT UU SC SP nC nE nS := by
  have nY := B.q.n Y (by simp)
  have gY := B.q.gY.1
  obtain ⟨q1, q2⟩ := c_same (h := h) (h1 := h1) x.2.2.2.1 x.2.2.2.2.1 x.2.2.1 x.2.1 (fun Z hZ => by
    rw [B.y] at hZ
    cases hZ
    refine (x.2.2.2.2.2 Y 5 (fun z => ?_)).1
    have := hW _ _ z
    unfold aX aI at this
    omega)
  refine ⟨zS.of ⟨Nat.le_of_eq x.2.2.2.1.symm, fun b _ => ⟨by rw [x.1], by rw [x.2.1]⟩, Int.le_of_eq q1, Int.le_of_eq q2, fun b' c j' _ _ _ _ u => (x.2.2.2.2.2 b' j' u).1, fun _ _ _ _ _ _ _ _ => by rw [x.2.2.1], fun b' j' w hp _ ⟨o, e, k'⟩ => ⟨o, by rw [x.2.2.1]; exact e, RS_fz (fG_z x) (fun y hy j'' w' => ?_) k'⟩, fun _ _ _ _ q => by rw [x.2.2.1]; exact q, fun _ _ _ _ q => by rw [x.2.2.1]; exact q⟩, BS_fG x B⟩
  obtain ⟨s, a⟩ := B.S.o b' j' o hp e
  have k0 := s.1.1
  have k1 := s.2.2.1.1
  have k2 := s.2.2.2.2.2.1.1
  have a2 := hW _ _ w'
  have hy' : y = 0 ∨ y = 1 ∨ y = 2 := by omega
  unfold cAd at a
  unfold aX aI at a2
  rcases hy' with e' | e' | e' <;> subst e'
  · rw [Nat.add_zero] at a2; omega
  · omega
  · omega
/-- a claim's State isn't Effect's -/
theorem clm_no (B : BS h Y C E TT UU SC SP nC nE nS) {o : Nat} (e : mh_r h 73 p = some o) : ¬ mine 0 h o := fun m => by
  have P : isPl 73 p := by unfold isPl; omega
  rcases m with m | m | m | ⟨i, -, m⟩
  · have := B.S.i 73 p 34 2 o P (by unfold isPl; omega) e m; omega
  · have := B.S.i 73 p 34 3 o P (by unfold isPl; omega) e m; omega
  · have := B.S.i 73 p 34 4 o P (by unfold isPl; omega) e m; omega
  · have := B.S.i 73 p 51 i o P (by unfold isPl; omega) e m; omega
/-- what the claim leads to -/
theorem lc_1 (EF : EFF Y C E TT UU SC SP nC nE nS G cnt I) (B : BS h Y C E TT UU SC SP nC nE nS) (H : PH h G cnt) (i0 : I h) (hp : p + 1 < cnt) (kc : pv h 73 p (some A)) (sA : shp (G.n p) (G.a p) (G.rm p) (some A)) : ∃ h', zS (fun b _ => b = 34 ∨ b = 51) (fun _ _ => False) h h' ∧ BS h' Y C E TT UU SC SP nC nE nS ∧ pv h' 34 2 (G.fx p A).1 ∧ (G.kd p = 5 ∨ G.kd p = 6 → pv h' 34 3 (G.fx p A).2.1) ∧ ∀ Q, mcall (d + 6) 205 [.ref 0, .int (Int32.ofNat p)] h Q = mw (d + 6) 205 Q 48 [some (.ref 0), some (.int (Int32.ofNat p)), some (.int 1), none] [] h' := by
  have P1 : isPl 73 p := by unfold isPl; omega
  have cb := H.b
  have kk := H.k p (by omega)
  obtain ⟨o1, e1, k1⟩ := id kc
  obtain ⟨h2, x2, B2, q2, q3, -, c2⟩ := EF d h p o1 A B H i0 hp ⟨73, p, P1, e1⟩ (clm_no B e1) k1 sA
  refine ⟨h2, zS_e B x2 B2, B2, q2, q3, fun Q => ?_⟩
  obtain ⟨St, nb, nm, na, nx, s1, gS, s0, -⟩ := H.s p (by omega)
  have c165 := c_165 (d := d + 5) gS s0 kk.1
  have F := B.F
  have g0 := F.g 0 11 15 (by decide +kernel)
  have t2 := F.f 0 2 2 (by decide +kernel)
  have t3 := F.f 0 3 34 (by decide +kernel)
  have t6 := F.f 0 6 73 (by decide +kernel)
  have g2 := F.g 2 4 20 (by decide +kernel)
  have u3 := F.f 2 3 20 (by decide +kernel)
  have g20 := (F.g 20 105 250 (by decide +kernel)).1
  have g20' := (F.g 20 105 250 (by decide +kernel)).2
  have l20 := F.l 20 105 250 (by decide +kernel)
  have g73 := (F.g 73 104 250 (by decide +kernel)).1
  have g73' := (F.g 73 104 250 (by decide +kernel)).2
  have l73 := F.l 73 104 250 (by decide +kernel)
  have g34 := F.g 34 1 9 (by decide +kernel)
  have gO1 := (cs_so B.S ⟨73, p, P1, e1⟩).1.1
  have e00 : ((0 : Int32) = 0) = True := by decide
  have e10 : ((1 : Int32) = 0) = False := by decide
  by_cases c : G.kd p = 5 ∨ G.kd p = 6 ∨ G.kd p = 7
  · have w' : kb (decide (G.kd p = 5 ∨ G.kd p = 6 ∨ G.kd p = 7)) = 1 := by rw [decide_eq_true c]; rfl
    rw [w'] at c165
    rw [if_pos c] at c2
    clear EF B B2 x2 kc k1 q2 q3 H i0 F sA
    simp (disch := omega) only [s_205_0, s_205_1, s_205_2, s_205_3, s_205_6, s_205_9, s_205_10, s_205_11, s_205_14, s_205_17, s_205_18, s_205_21, s_205_22, s_205_23, s_205_26, s_205_27, s_205_28, s_205_31, s_205_34, s_205_35, s_205_38, s_205_39, s_205_40, s_205_43, s_205_44, s_205_45, s_205_49, s_205_52, s_205_55, s_205_56, s_205_57, s_205_60, s_205_63, s_205_64, s_205_67, s_205_70, s_205_71, s_205_71x, s_205_72, s_205_73, s_205_74, s_205_77, s_205_80, s_205_81, s_205_84, s_205_85, s_205_88, s_205_89, s_205_92, s_205_93, s_205_96, s_205_99, s_205_100, s_205_103, s_205_106, s_205_107, s_205_110, s_205_111, s_205_112, s_205_115, s_205_116, s_205_117, s_205_120, s_205_123, s_205_124, s_205_124x, s_205_125, s_205_126, s_205_127, s_205_130, s_205_133, s_205_134, s_205_137, s_205_138, s_205_141, s_205_142, s_205_145, s_205_146, s_205_149, s_205_152, s_205_153, s_205_156, s_205_157, s_205_160, s_205_163, s_205_164, s_205_167, s_205_168, s_205_169, s_205_172, s_205_175, s_205_176, s_205_179, s_205_180, e_205, mv_i_1, mv_l_1, mv_a_1, mv_a_2, mv_a_3, mk2_n, mk2_i, mk2_l, mk2_a, mk2_u, mk2_x, mB_T, mB_F, mS_cons, mS_nil, mSB_T, mSB_F, mca_nil, mca_i, mca_l, mca_r, mca_u, mca_x, mcat_i, mcat_l, mcat_r, mcat_u, mcat_x, mK_some, mK_none, va_rf_s, va_rf_n, lgc_eq, lgc_lt, lgc_gt, lgc_ge, lgc_le, mrd_104, mrd_105, mrd_106, mrd_107, true_and, and_true, and_self, false_and, and_false, true_or, or_true, false_or, or_false, not_true_eq_false, not_false_eq_true, mgb, mga, mgr, mN, reduceCtorEq, ↓reduceIte, eq_self, ge_iff_le, gt_iff_lt, hk_si, hk_sj, hk_sr, hl_si, hl_sj, hl_sr, hn_si, hn_sj, hn_sr, hs_si, hs_sj, hs_sr, hi_sj, hi_sr, hj_si, hj_sr, hr_si, hr_sj, hi_si, hj_sj, hr_sr, mg_si, mg_sj, mg_sr, Nat.reduceAdd, Nat.reduceMul, Nat.reduceSub, Nat.reduceLT, Nat.reduceGT, Nat.reduceEqDiff, Nat.reduceLeDiff, Nat.left_eq_add, Nat.add_eq_left, Nat.reduceMod, Nat.reduceDiv, Nat.succ_ne_self, g0, t2, t3, t6, g2, u3, g20, g20', l20, s1, gS, c165, e10, g73, g73', l73, e1, gO1, g34, c2, nn_mxT, nn_clamp]
  · have w' : kb (decide (G.kd p = 5 ∨ G.kd p = 6 ∨ G.kd p = 7)) = 0 := by rw [decide_eq_false c]; rfl
    rw [w'] at c165
    rw [if_neg c] at c2
    clear EF B B2 x2 kc k1 q2 q3 H i0 F sA
    simp (disch := omega) only [s_205_0, s_205_1, s_205_2, s_205_3, s_205_6, s_205_9, s_205_10, s_205_11, s_205_14, s_205_17, s_205_18, s_205_21, s_205_22, s_205_23, s_205_26, s_205_27, s_205_28, s_205_31, s_205_34, s_205_35, s_205_38, s_205_39, s_205_40, s_205_43, s_205_44, s_205_45, s_205_49, s_205_52, s_205_55, s_205_56, s_205_57, s_205_60, s_205_63, s_205_64, s_205_67, s_205_70, s_205_71, s_205_71x, s_205_72, s_205_73, s_205_74, s_205_77, s_205_80, s_205_81, s_205_84, s_205_85, s_205_88, s_205_89, s_205_92, s_205_93, s_205_96, s_205_99, s_205_100, s_205_103, s_205_106, s_205_107, s_205_110, s_205_111, s_205_112, s_205_115, s_205_116, s_205_117, s_205_120, s_205_123, s_205_124, s_205_124x, s_205_125, s_205_126, s_205_127, s_205_130, s_205_133, s_205_134, s_205_137, s_205_138, s_205_141, s_205_142, s_205_145, s_205_146, s_205_149, s_205_152, s_205_153, s_205_156, s_205_157, s_205_160, s_205_163, s_205_164, s_205_167, s_205_168, s_205_169, s_205_172, s_205_175, s_205_176, s_205_179, s_205_180, e_205, mv_i_1, mv_l_1, mv_a_1, mv_a_2, mv_a_3, mk2_n, mk2_i, mk2_l, mk2_a, mk2_u, mk2_x, mB_T, mB_F, mS_cons, mS_nil, mSB_T, mSB_F, mca_nil, mca_i, mca_l, mca_r, mca_u, mca_x, mcat_i, mcat_l, mcat_r, mcat_u, mcat_x, mK_some, mK_none, va_rf_s, va_rf_n, lgc_eq, lgc_lt, lgc_gt, lgc_ge, lgc_le, mrd_104, mrd_105, mrd_106, mrd_107, true_and, and_true, and_self, false_and, and_false, true_or, or_true, false_or, or_false, not_true_eq_false, not_false_eq_true, mgb, mga, mgr, mN, reduceCtorEq, ↓reduceIte, eq_self, ge_iff_le, gt_iff_lt, hk_si, hk_sj, hk_sr, hl_si, hl_sj, hl_sr, hn_si, hn_sj, hn_sr, hs_si, hs_sj, hs_sr, hi_sj, hi_sr, hj_si, hj_sr, hr_si, hr_sj, hi_si, hj_sj, hr_sr, mg_si, mg_sj, mg_sr, Nat.reduceAdd, Nat.reduceMul, Nat.reduceSub, Nat.reduceLT, Nat.reduceGT, Nat.reduceEqDiff, Nat.reduceLeDiff, Nat.left_eq_add, Nat.add_eq_left, Nat.reduceMod, Nat.reduceDiv, Nat.succ_ne_self, g0, t2, t3, t6, g2, u3, g20, g20', l20, s1, gS, c165, e00, g73, g73', l73, e1, gO1, g34, c2, nn_mxT, nn_clamp]
/-- no fork -/
theorem lc_2n (B : BS h Y C E TT UU SC SP nC nE nS) (H : PH h G cnt) (hp : p < cnt) (kd : ¬ (G.kd p = 5 ∨ G.kd p = 6)) : ∀ Q, mw (d + 6) 205 Q 48 [some (.ref 0), some (.int (Int32.ofNat p)), some (.int 1), none] [] h = mw (d + 6) 205 Q 116 [some (.ref 0), some (.int (Int32.ofNat p)), some (.int 1), none] [] h := fun Q => by
  have cb := H.b
  have kk := H.k p hp
  obtain ⟨St, nb, nm, na, nx, s1, gS, s0, -⟩ := H.s p hp
  have c166 := c_166 (d := d + 5) gS s0 kk.1
  rw [decide_eq_false kd] at c166
  have F := B.F
  have g0 := F.g 0 11 15 (by decide +kernel)
  have t2 := F.f 0 2 2 (by decide +kernel)
  have g2 := F.g 2 4 20 (by decide +kernel)
  have u3 := F.f 2 3 20 (by decide +kernel)
  have g20 := (F.g 20 105 250 (by decide +kernel)).1
  have g20' := (F.g 20 105 250 (by decide +kernel)).2
  have l20 := F.l 20 105 250 (by decide +kernel)
  have e00 : (kb false = 0) = True := by decide
  clear B H F
  simp (disch := omega) only [s_205_0, s_205_1, s_205_2, s_205_3, s_205_6, s_205_9, s_205_10, s_205_11, s_205_14, s_205_17, s_205_18, s_205_21, s_205_22, s_205_23, s_205_26, s_205_27, s_205_28, s_205_31, s_205_34, s_205_35, s_205_38, s_205_39, s_205_40, s_205_43, s_205_44, s_205_45, s_205_48, s_205_49, s_205_52, s_205_55, s_205_56, s_205_57, s_205_60, s_205_63, s_205_64, s_205_67, s_205_70, s_205_71, s_205_71x, s_205_72, s_205_73, s_205_74, s_205_77, s_205_80, s_205_81, s_205_84, s_205_85, s_205_88, s_205_89, s_205_92, s_205_93, s_205_96, s_205_99, s_205_100, s_205_103, s_205_106, s_205_107, s_205_110, s_205_111, s_205_112, s_205_115, s_205_117, s_205_120, s_205_123, s_205_124, s_205_124x, s_205_125, s_205_126, s_205_127, s_205_130, s_205_133, s_205_134, s_205_137, s_205_138, s_205_141, s_205_142, s_205_145, s_205_146, s_205_149, s_205_152, s_205_153, s_205_156, s_205_157, s_205_160, s_205_163, s_205_164, s_205_167, s_205_168, s_205_169, s_205_172, s_205_175, s_205_176, s_205_179, s_205_180, e_205, mv_i_1, mv_l_1, mv_a_1, mv_a_2, mv_a_3, mk2_n, mk2_i, mk2_l, mk2_a, mk2_u, mk2_x, mB_T, mB_F, mS_cons, mS_nil, mSB_T, mSB_F, mca_nil, mca_i, mca_l, mca_r, mca_u, mca_x, mcat_i, mcat_l, mcat_r, mcat_u, mcat_x, mK_some, mK_none, va_rf_s, va_rf_n, lgc_eq, lgc_lt, lgc_gt, lgc_ge, lgc_le, mrd_104, mrd_105, mrd_106, mrd_107, true_and, and_true, and_self, false_and, and_false, true_or, or_true, false_or, or_false, not_true_eq_false, not_false_eq_true, mgb, mga, mgr, mN, reduceCtorEq, ↓reduceIte, eq_self, ge_iff_le, gt_iff_lt, hk_si, hk_sj, hk_sr, hl_si, hl_sj, hl_sr, hn_si, hn_sj, hn_sr, hs_si, hs_sj, hs_sr, hi_sj, hi_sr, hj_si, hj_sr, hr_si, hr_sj, hi_si, hj_sj, hr_sr, mg_si, mg_sj, mg_sr, Nat.reduceAdd, Nat.reduceMul, Nat.reduceSub, Nat.reduceLT, Nat.reduceGT, Nat.reduceEqDiff, Nat.reduceLeDiff, Nat.left_eq_add, Nat.add_eq_left, Nat.reduceMod, Nat.reduceDiv, Nat.succ_ne_self, g0, t2, g2, u3, g20, g20', l20, s1, gS, c166, e00, nn_mxT, nn_clamp]
/-- the other way -/
theorem lc_2 (B : BS h Y C E TT UU SC SP nC nE nS) (H : PH h G cnt) (hp : p < cnt) (kd : G.kd p = 5 ∨ G.kd p = 6) (r28 : mh_i h 28 p = Int32.ofNat (oth p)) (ho : oth p < cnt) {v : Option ab} (kv : pv h 34 3 v) (kc : pv h 73 (oth p) (cl (oth p))) (hv : ∀ A, v = some A → G.n (oth p) ≤ A.n ∧ G.a (oth p) ≤ A.a) (sc : ∀ A, cl (oth p) = some A → A.n = G.n (oth p) ∧ A.a = G.a (oth p)) : ∃ h' x, zS (fun b _ => b = 34 ∨ b = 51) (fun _ _ => False) h h' ∧ BS h' Y C E TT UU SC SP nC nE nS ∧ (∀ u, pv h 34 2 u → pv h' 34 2 u) ∧ (x = 0 ∨ x = 1) ∧ (x = 0 ↔ gsC G cl v (oth p)) ∧ ∀ Q, mw (d + 6) 205 Q 48 [some (.ref 0), some (.int (Int32.ofNat p)), some (.int 1), none] [] h = mw (d + 6) 205 Q 116 [some (.ref 0), some (.int (Int32.ofNat p)), some (.int x), some (.int (Int32.ofNat (oth p)))] [] h' := by
  have P1 : isPl 73 (oth p) := by unfold isPl; omega
  have P3 : isPl 34 3 := by unfold isPl; omega
  have P2 : isPl 34 2 := by unfold isPl; omega
  have cb := H.b
  have kk := H.k p hp
  have ko := H.k (oth p) ho
  obtain ⟨o3, e3, -⟩ := id kv
  obtain ⟨h1, x1, B1, er1, q1, c1⟩ := w_keep (d := d + 5) B (n := G.n (oth p)) (a := G.a (oth p)) P3 e3 kv ko.2.1 ko.2.2 hv
  have kc1 := x1.pp _ _ _ P1 (by omega) kc
  obtain ⟨o1, e1, -⟩ := id kc1
  have e31 : mh_r h1 34 3 = some o3 := by rw [er1]; exact e3
  obtain ⟨x, w1, w2, c2⟩ := w_in (d := d + 4) e31 e1 q1 kc1 (fun A' B' z1 z2 => by
    cases v with
    | none => cases z1
    | some X =>
      have z1' : some (a_keep (G.n (oth p)) (G.a (oth p)) X) = some A' := z1
      cases z1'
      obtain ⟨w3, w4⟩ := sc B' z2
      exact ⟨w3.symm, w4.symm⟩)
  refine ⟨h1, x, zS_w x1 (fun b j z => Or.inl z.1) (fun _ _ z => z), B1, fun u z => x1.pp _ _ _ P2 (by omega) z, w1, ?_, fun Q => ?_⟩
  · unfold gsC
    constructor
    · rintro z
      refine ⟨fun zn => ?_, fun zl => ?_⟩
      · subst zn
        have : x = 1 := w2.mpr trivial
        rw [z] at this
        exact absurd this (by decide)
      · have : x = 1 := w2.mpr zl
        rw [z] at this
        exact absurd this (by decide)
    · rintro ⟨z1, z2⟩
      rcases w1 with w1 | w1
      · exact w1
      · exact absurd (w2.mp w1) z2
  · obtain ⟨St, nb, nm, na, nx, s1, gS, s0, -⟩ := H.s p hp
    obtain ⟨St2, nb2, nm2, na2, nx2, m1, m2, m3, m4, m5, m6, m7, m8, m9⟩ := H.s (oth p) ho
    have c166 := c_166 (d := d + 5) gS s0 kk.1
    rw [decide_eq_true kd] at c166
    have c80 := c_80 (d := d + 5) (nm := nm2) B.F (by omega : oth p < 250) m4 m1 m2 m5
    have c81 := c_81 (d := d + 5) (nm := nx2) B.F (by omega : oth p < 250) m7 m1 m2 m8
    rw [m6] at c80
    rw [m9] at c81
    have F := B.F
    have F1 := B1.F
    have g0 := F.g 0 11 15 (by decide +kernel)
    have t2 := F.f 0 2 2 (by decide +kernel)
    have t3 := F.f 0 3 34 (by decide +kernel)
    have t6 := F.f 0 6 73 (by decide +kernel)
    have g2 := F.g 2 4 20 (by decide +kernel)
    have u3 := F.f 2 3 20 (by decide +kernel)
    have u11 := F.f 2 11 28 (by decide +kernel)
    have g28 := F.g 28 100 250 (by decide +kernel)
    have l28 := F.l 28 100 250 (by decide +kernel)
    have g20 := (F.g 20 105 250 (by decide +kernel)).1
    have g20' := (F.g 20 105 250 (by decide +kernel)).2
    have l20 := F.l 20 105 250 (by decide +kernel)
    have g34 := F.g 34 1 9 (by decide +kernel)
    have gO3 := (cs_so B.S ⟨34, 3, P3, e3⟩).1.1
    have g01 := F1.g 0 11 15 (by decide +kernel)
    have t31 := F1.f 0 3 34 (by decide +kernel)
    have t61 := F1.f 0 6 73 (by decide +kernel)
    have g341 := F1.g 34 1 9 (by decide +kernel)
    have g73 := (F1.g 73 104 250 (by decide +kernel)).1
    have g73' := (F1.g 73 104 250 (by decide +kernel)).2
    have l73 := F1.l 73 104 250 (by decide +kernel)
    have gO31 := (cs_so B1.S ⟨34, 3, P3, e31⟩).1.1
    have gO1 := (cs_so B1.S ⟨73, oth p, P1, e1⟩).1.1
    have e10 : (kb true = 0) = False := by decide
    clear B B1 H F F1 x1 kv kc kc1 q1 hv sc
    simp (disch := omega) only [s_205_0, s_205_1, s_205_2, s_205_3, s_205_6, s_205_9, s_205_10, s_205_11, s_205_14, s_205_17, s_205_18, s_205_21, s_205_22, s_205_23, s_205_26, s_205_27, s_205_28, s_205_31, s_205_34, s_205_35, s_205_38, s_205_39, s_205_40, s_205_43, s_205_44, s_205_45, s_205_48, s_205_49, s_205_52, s_205_55, s_205_56, s_205_57, s_205_60, s_205_63, s_205_64, s_205_67, s_205_70, s_205_71, s_205_71x, s_205_72, s_205_73, s_205_74, s_205_77, s_205_80, s_205_81, s_205_84, s_205_85, s_205_88, s_205_89, s_205_92, s_205_93, s_205_96, s_205_99, s_205_100, s_205_103, s_205_106, s_205_107, s_205_110, s_205_111, s_205_112, s_205_115, s_205_117, s_205_120, s_205_123, s_205_124, s_205_124x, s_205_125, s_205_126, s_205_127, s_205_130, s_205_133, s_205_134, s_205_137, s_205_138, s_205_141, s_205_142, s_205_145, s_205_146, s_205_149, s_205_152, s_205_153, s_205_156, s_205_157, s_205_160, s_205_163, s_205_164, s_205_167, s_205_168, s_205_169, s_205_172, s_205_175, s_205_176, s_205_179, s_205_180, e_205, mv_i_1, mv_l_1, mv_a_1, mv_a_2, mv_a_3, mk2_n, mk2_i, mk2_l, mk2_a, mk2_u, mk2_x, mB_T, mB_F, mS_cons, mS_nil, mSB_T, mSB_F, mca_nil, mca_i, mca_l, mca_r, mca_u, mca_x, mcat_i, mcat_l, mcat_r, mcat_u, mcat_x, mK_some, mK_none, va_rf_s, va_rf_n, lgc_eq, lgc_lt, lgc_gt, lgc_ge, lgc_le, mrd_104, mrd_105, mrd_106, mrd_107, true_and, and_true, and_self, false_and, and_false, true_or, or_true, false_or, or_false, not_true_eq_false, not_false_eq_true, mgb, mga, mgr, mN, reduceCtorEq, ↓reduceIte, eq_self, ge_iff_le, gt_iff_lt, hk_si, hk_sj, hk_sr, hl_si, hl_sj, hl_sr, hn_si, hn_sj, hn_sr, hs_si, hs_sj, hs_sr, hi_sj, hi_sr, hj_si, hj_sr, hr_si, hr_sj, hi_si, hj_sj, hr_sr, mg_si, mg_sj, mg_sr, Nat.reduceAdd, Nat.reduceMul, Nat.reduceSub, Nat.reduceLT, Nat.reduceGT, Nat.reduceEqDiff, Nat.reduceLeDiff, Nat.left_eq_add, Nat.add_eq_left, Nat.reduceMod, Nat.reduceDiv, Nat.succ_ne_self, g0, t2, t3, t6, g2, u3, u11, g28, l28, r28, g20, g20', l20, s1, gS, c166, e10, g34, e3, gO3, c80, c81, c1, g01, t31, t61, g341, e31, gO31, g73, g73', l73, e1, gO1, c2, nn_mxT, nn_clamp]
/-- the first way -/
theorem lc_3 (B : BS h Y C E TT UU SC SP nC nE nS) (H : PH h G cnt) (hp : p < cnt) (r27 : mh_i h 27 p = Int32.ofNat (fst p)) (ho : fst p < cnt) {v : Option ab} (kv : pv h 34 2 v) (kc : pv h 73 (fst p) (cl (fst p))) (hv : ∀ A, v = some A → G.n (fst p) ≤ A.n ∧ G.a (fst p) ≤ A.a) (sc : ∀ A, cl (fst p) = some A → A.n = G.n (fst p) ∧ A.a = G.a (fst p)) {y : Int32} (hy : y = 0 ∨ y = 1) {x3 : Option Value} : ∃ h' x, zS (fun b _ => b = 34 ∨ b = 51) (fun _ _ => False) h h' ∧ BS h' Y C E TT UU SC SP nC nE nS ∧ (x = 0 ∨ x = 1) ∧ (x = 0 ↔ (y = 0 ∨ gsC G cl v (fst p))) ∧ ∀ Q, mw (d + 6) 205 Q 116 [some (.ref 0), some (.int (Int32.ofNat p)), some (.int y), x3] [] h = Q (some (.int x)) h' := by
  have P1 : isPl 73 (fst p) := by unfold isPl; omega
  have P2 : isPl 34 2 := by unfold isPl; omega
  have cb := H.b
  have kk := H.k p hp
  have ko := H.k (fst p) ho
  obtain ⟨o3, e3, -⟩ := id kv
  obtain ⟨h1, x1, B1, er1, q1, c1⟩ := w_keep (d := d + 5) B (n := G.n (fst p)) (a := G.a (fst p)) P2 e3 kv ko.2.1 ko.2.2 hv
  have kc1 := x1.pp _ _ _ P1 (by omega) kc
  obtain ⟨o1, e1, -⟩ := id kc1
  have e31 : mh_r h1 34 2 = some o3 := by rw [er1]; exact e3
  obtain ⟨x, w1, w2, c2⟩ := w_in (d := d + 4) e31 e1 q1 kc1 (fun A' B' z1 z2 => by
    cases v with
    | none => cases z1
    | some X =>
      have z1' : some (a_keep (G.n (fst p)) (G.a (fst p)) X) = some A' := z1
      cases z1'
      obtain ⟨w3, w4⟩ := sc B' z2
      exact ⟨w3.symm, w4.symm⟩)
  have key : x = 0 ↔ gsC G cl v (fst p) := by
    unfold gsC
    constructor
    · rintro z
      refine ⟨fun zn => ?_, fun zl => ?_⟩
      · subst zn
        have : x = 1 := w2.mpr trivial
        rw [z] at this
        exact absurd this (by decide)
      · have : x = 1 := w2.mpr zl
        rw [z] at this
        exact absurd this (by decide)
    · rintro ⟨z1, z2⟩
      rcases w1 with w1 | w1
      · exact w1
      · exact absurd (w2.mp w1) z2
  refine ⟨h1, if y = 0 then 0 else x, zS_w x1 (fun b j z => Or.inl z.1) (fun _ _ z => z), B1, ?_, ?_, fun Q => ?_⟩
  · split
    · exact Or.inl rfl
    · exact w1
  · by_cases c : y = 0
    · rw [if_pos c]; exact ⟨fun _ => Or.inl c, fun _ => rfl⟩
    · rw [if_neg c, key]; exact ⟨Or.inr, fun z => z.resolve_left c⟩
  · obtain ⟨St2, nb2, nm2, na2, nx2, m1, m2, m3, m4, m5, m6, m7, m8, m9⟩ := H.s (fst p) ho
    have c80 := c_80 (d := d + 5) (nm := nm2) B.F (by omega : fst p < 250) m4 m1 m2 m5
    have c81 := c_81 (d := d + 5) (nm := nx2) B.F (by omega : fst p < 250) m7 m1 m2 m8
    rw [m6] at c80
    rw [m9] at c81
    have F := B.F
    have F1 := B1.F
    have g0 := F.g 0 11 15 (by decide +kernel)
    have t2 := F.f 0 2 2 (by decide +kernel)
    have t3 := F.f 0 3 34 (by decide +kernel)
    have g2 := F.g 2 4 20 (by decide +kernel)
    have u10 := F.f 2 10 27 (by decide +kernel)
    have g27 := F.g 27 100 250 (by decide +kernel)
    have l27 := F.l 27 100 250 (by decide +kernel)
    have g34 := F.g 34 1 9 (by decide +kernel)
    have gO3 := (cs_so B.S ⟨34, 2, P2, e3⟩).1.1
    have g01 := F1.g 0 11 15 (by decide +kernel)
    have t31 := F1.f 0 3 34 (by decide +kernel)
    have t61 := F1.f 0 6 73 (by decide +kernel)
    have g341 := F1.g 34 1 9 (by decide +kernel)
    have g73 := (F1.g 73 104 250 (by decide +kernel)).1
    have g73' := (F1.g 73 104 250 (by decide +kernel)).2
    have l73 := F1.l 73 104 250 (by decide +kernel)
    have gO31 := (cs_so B1.S ⟨34, 2, P2, e31⟩).1.1
    have gO1 := (cs_so B1.S ⟨73, fst p, P1, e1⟩).1.1
    have e10 : ((1 : Int32) = 0) = False := by decide
    have e00 : ((0 : Int32) = 0) = True := by decide
    have e01 : ((0 : Int32) = 1) = False := by decide
    have e11 : ((1 : Int32) = 1) = True := by decide
    have mx : ∀ Q : Option Value → mh_H → Prop, True := fun _ => trivial
    clear B B1 H F F1 x1 kv kc kc1 q1 hv sc key w2
    rcases hy with hy | hy <;> subst hy
    · simp (disch := omega) only [s_205_0, s_205_1, s_205_2, s_205_3, s_205_6, s_205_9, s_205_10, s_205_11, s_205_14, s_205_17, s_205_18, s_205_21, s_205_22, s_205_23, s_205_26, s_205_27, s_205_28, s_205_31, s_205_34, s_205_35, s_205_38, s_205_39, s_205_40, s_205_43, s_205_44, s_205_45, s_205_48, s_205_49, s_205_52, s_205_55, s_205_56, s_205_57, s_205_60, s_205_63, s_205_64, s_205_67, s_205_70, s_205_71, s_205_71x, s_205_72, s_205_73, s_205_74, s_205_77, s_205_80, s_205_81, s_205_84, s_205_85, s_205_88, s_205_89, s_205_92, s_205_93, s_205_96, s_205_99, s_205_100, s_205_103, s_205_106, s_205_107, s_205_110, s_205_111, s_205_112, s_205_115, s_205_116, s_205_117, s_205_120, s_205_123, s_205_124, s_205_124x, s_205_125, s_205_126, s_205_127, s_205_130, s_205_133, s_205_134, s_205_137, s_205_138, s_205_141, s_205_142, s_205_145, s_205_146, s_205_149, s_205_152, s_205_153, s_205_156, s_205_157, s_205_160, s_205_163, s_205_164, s_205_167, s_205_168, s_205_169, s_205_172, s_205_175, s_205_176, s_205_179, s_205_180, e_205, mv_i_1, mv_l_1, mv_a_1, mv_a_2, mv_a_3, mk2_n, mk2_i, mk2_l, mk2_a, mk2_u, mk2_x, mB_T, mB_F, mS_cons, mS_nil, mSB_T, mSB_F, mca_nil, mca_i, mca_l, mca_r, mca_u, mca_x, mcat_i, mcat_l, mcat_r, mcat_u, mcat_x, mK_some, mK_none, va_rf_s, va_rf_n, lgc_eq, lgc_lt, lgc_gt, lgc_ge, lgc_le, mrd_104, mrd_105, mrd_106, mrd_107, true_and, and_true, and_self, false_and, and_false, true_or, or_true, false_or, or_false, not_true_eq_false, not_false_eq_true, mgb, mga, mgr, mN, reduceCtorEq, ↓reduceIte, eq_self, ge_iff_le, gt_iff_lt, hk_si, hk_sj, hk_sr, hl_si, hl_sj, hl_sr, hn_si, hn_sj, hn_sr, hs_si, hs_sj, hs_sr, hi_sj, hi_sr, hj_si, hj_sr, hr_si, hr_sj, hi_si, hj_sj, hr_sr, mg_si, mg_sj, mg_sr, Nat.reduceAdd, Nat.reduceMul, Nat.reduceSub, Nat.reduceLT, Nat.reduceGT, Nat.reduceEqDiff, Nat.reduceLeDiff, Nat.left_eq_add, Nat.add_eq_left, Nat.reduceMod, Nat.reduceDiv, Nat.succ_ne_self, g0, t2, t3, g2, u10, g27, l27, r27, g34, e3, gO3, c80, c81, c1, e00, nn_mxT, nn_clamp]
    · rcases w1 with w1 | w1 <;> subst w1
      · simp (disch := omega) only [s_205_0, s_205_1, s_205_2, s_205_3, s_205_6, s_205_9, s_205_10, s_205_11, s_205_14, s_205_17, s_205_18, s_205_21, s_205_22, s_205_23, s_205_26, s_205_27, s_205_28, s_205_31, s_205_34, s_205_35, s_205_38, s_205_39, s_205_40, s_205_43, s_205_44, s_205_45, s_205_48, s_205_49, s_205_52, s_205_55, s_205_56, s_205_57, s_205_60, s_205_63, s_205_64, s_205_67, s_205_70, s_205_71, s_205_71x, s_205_72, s_205_73, s_205_74, s_205_77, s_205_80, s_205_81, s_205_84, s_205_85, s_205_88, s_205_89, s_205_92, s_205_93, s_205_96, s_205_99, s_205_100, s_205_103, s_205_106, s_205_107, s_205_110, s_205_111, s_205_112, s_205_115, s_205_116, s_205_117, s_205_120, s_205_123, s_205_124, s_205_124x, s_205_125, s_205_126, s_205_127, s_205_130, s_205_133, s_205_134, s_205_137, s_205_138, s_205_141, s_205_142, s_205_145, s_205_146, s_205_149, s_205_152, s_205_153, s_205_156, s_205_157, s_205_160, s_205_163, s_205_164, s_205_167, s_205_168, s_205_169, s_205_172, s_205_175, s_205_176, s_205_179, s_205_180, e_205, mv_i_1, mv_l_1, mv_a_1, mv_a_2, mv_a_3, mk2_n, mk2_i, mk2_l, mk2_a, mk2_u, mk2_x, mB_T, mB_F, mS_cons, mS_nil, mSB_T, mSB_F, mca_nil, mca_i, mca_l, mca_r, mca_u, mca_x, mcat_i, mcat_l, mcat_r, mcat_u, mcat_x, mK_some, mK_none, va_rf_s, va_rf_n, lgc_eq, lgc_lt, lgc_gt, lgc_ge, lgc_le, mrd_104, mrd_105, mrd_106, mrd_107, true_and, and_true, and_self, false_and, and_false, true_or, or_true, false_or, or_false, not_true_eq_false, not_false_eq_true, mgb, mga, mgr, mN, reduceCtorEq, ↓reduceIte, eq_self, ge_iff_le, gt_iff_lt, hk_si, hk_sj, hk_sr, hl_si, hl_sj, hl_sr, hn_si, hn_sj, hn_sr, hs_si, hs_sj, hs_sr, hi_sj, hi_sr, hj_si, hj_sr, hr_si, hr_sj, hi_si, hj_sj, hr_sr, mg_si, mg_sj, mg_sr, Nat.reduceAdd, Nat.reduceMul, Nat.reduceSub, Nat.reduceLT, Nat.reduceGT, Nat.reduceEqDiff, Nat.reduceLeDiff, Nat.left_eq_add, Nat.add_eq_left, Nat.reduceMod, Nat.reduceDiv, Nat.succ_ne_self, g0, t2, t3, g2, u10, g27, l27, r27, g34, e3, gO3, c80, c81, c1, e10, g01, t31, t61, g341, e31, gO31, g73, g73', l73, e1, gO1, c2, e00, nn_mxT, nn_clamp]
      · simp (disch := omega) only [s_205_0, s_205_1, s_205_2, s_205_3, s_205_6, s_205_9, s_205_10, s_205_11, s_205_14, s_205_17, s_205_18, s_205_21, s_205_22, s_205_23, s_205_26, s_205_27, s_205_28, s_205_31, s_205_34, s_205_35, s_205_38, s_205_39, s_205_40, s_205_43, s_205_44, s_205_45, s_205_48, s_205_49, s_205_52, s_205_55, s_205_56, s_205_57, s_205_60, s_205_63, s_205_64, s_205_67, s_205_70, s_205_71, s_205_71x, s_205_72, s_205_73, s_205_74, s_205_77, s_205_80, s_205_81, s_205_84, s_205_85, s_205_88, s_205_89, s_205_92, s_205_93, s_205_96, s_205_99, s_205_100, s_205_103, s_205_106, s_205_107, s_205_110, s_205_111, s_205_112, s_205_115, s_205_116, s_205_117, s_205_120, s_205_123, s_205_124, s_205_124x, s_205_125, s_205_126, s_205_127, s_205_130, s_205_133, s_205_134, s_205_137, s_205_138, s_205_141, s_205_142, s_205_145, s_205_146, s_205_149, s_205_152, s_205_153, s_205_156, s_205_157, s_205_160, s_205_163, s_205_164, s_205_167, s_205_168, s_205_169, s_205_172, s_205_175, s_205_176, s_205_179, s_205_180, e_205, mv_i_1, mv_l_1, mv_a_1, mv_a_2, mv_a_3, mk2_n, mk2_i, mk2_l, mk2_a, mk2_u, mk2_x, mB_T, mB_F, mS_cons, mS_nil, mSB_T, mSB_F, mca_nil, mca_i, mca_l, mca_r, mca_u, mca_x, mcat_i, mcat_l, mcat_r, mcat_u, mcat_x, mK_some, mK_none, va_rf_s, va_rf_n, lgc_eq, lgc_lt, lgc_gt, lgc_ge, lgc_le, mrd_104, mrd_105, mrd_106, mrd_107, true_and, and_true, and_self, false_and, and_false, true_or, or_true, false_or, or_false, not_true_eq_false, not_false_eq_true, mgb, mga, mgr, mN, reduceCtorEq, ↓reduceIte, eq_self, ge_iff_le, gt_iff_lt, hk_si, hk_sj, hk_sr, hl_si, hl_sj, hl_sr, hn_si, hn_sj, hn_sr, hs_si, hs_sj, hs_sr, hi_sj, hi_sr, hj_si, hj_sr, hr_si, hr_sj, hi_si, hj_sj, hr_sr, mg_si, mg_sj, mg_sr, Nat.reduceAdd, Nat.reduceMul, Nat.reduceSub, Nat.reduceLT, Nat.reduceGT, Nat.reduceEqDiff, Nat.reduceLeDiff, Nat.left_eq_add, Nat.add_eq_left, Nat.reduceMod, Nat.reduceDiv, Nat.succ_ne_self, g0, t2, t3, g2, u10, g27, l27, r27, g34, e3, gO3, c80, c81, c1, e10, g01, t31, t61, g341, e31, gO31, g73, g73', l73, e1, gO1, c2, e11, nn_mxT, nn_clamp]
end LCs
