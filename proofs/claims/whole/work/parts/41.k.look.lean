set_option maxRecDepth 100000
/-! Analysis.look: its end -/
section LEs
variable {d : Nat} {h : mh_H} {Y C E TT UU SC SP nC nE nS : Nat} {G : pgm} {cnt k p w : Nat} {I : mh_H → Prop} {A : ab}
def loV (p b j : Nat) : Prop := b = 34 ∨ b = 51 ∨ (b = 53 ∧ j = 6) ∨ (b = 54 ∧ j = p)
/-- the State that is now isn't Effect's -/
theorem now_no (B : BS h Y C E TT UU SC SP nC nE nS) {o : Nat} (e : mh_r h 53 6 = some o) : ¬ mine 0 h o := fun m => by
  have P : isPl 53 6 := by unfold isPl; omega
  rcases m with m | m | m | ⟨i, -, m⟩
  · have := B.S.i 53 6 34 2 o P (by unfold isPl; omega) e m; omega
  · have := B.S.i 53 6 34 3 o P (by unfold isPl; omega) e m; omega
  · have := B.S.i 53 6 34 4 o P (by unfold isPl; omega) e m; omega
  · have := B.S.i 53 6 51 i o P (by unfold isPl; omega) e m; omega
/-- known, and what comes of it -/
theorem lo_2 (EF : EFF Y C E TT UU SC SP nC nE nS G cnt I) (hI : ∀ h h1 V U, BS h Y C E TT UU SC SP nC nE nS → zS V U h h1 → (∀ b j, U b j → aI b) → I h → I h1) (B : BS h Y C E TT UU SC SP nC nE nS) (H : PH h G cnt) (i0 : I h) (hp : p + 1 < cnt) (kn : pv h 53 6 (some A)) (sA : shp (G.n p) (G.a p) (G.rm p) (some A)) (n54 : mh_r h 54 p ≠ none) {St : Nat} (gS : mg h St 9) (s0 : mh_i h St 0 = Int32.ofNat (G.kd p)) {x3 : Option Value} : ∃ h', zS (loV p) (fun b j => b = 55 ∧ j = p) h h' ∧ BS h' Y C E TT UU SC SP nC nE nS ∧ pv h' 54 p (some A) ∧ pv h' 53 6 (G.fx p A).1 ∧ (G.kd p = 5 ∨ G.kd p = 6 → pv h' 34 3 (G.fx p A).2.1) ∧ mh_i h' 55 p = (G.fx p A).2.2 ∧ ∀ Q, mw (d + 6) 4 Q 93 [some (.ref 53), some (.int (Int32.ofNat p)), some (.ref St), x3] [] h = mw (d + 6) 4 Q 167 [some (.ref 53), some (.int (Int32.ofNat p)), some (.ref St), x3] [] h' := by
  have P1 : isPl 53 6 := by unfold isPl; omega
  have P2 : isPl 54 p := by unfold isPl; omega
  have P3 : isPl 34 2 := by unfold isPl; omega
  have P4 : isPl 34 3 := by unfold isPl; omega
  have cb := H.b
  have kk := H.k p (by omega)
  obtain ⟨o1, e1, -⟩ := id kn
  obtain ⟨o2, e2⟩ : ∃ o, mh_r h 54 p = some o := by
    cases hc : mh_r h 54 p with
    | none => exact absurd hc n54
    | some o => exact ⟨o, rfl⟩
  obtain ⟨h1, x1, B1, er1, q1, c1⟩ := w_copy (d := d + 4) B P2 P1 (by omega) e2 e1 kn
  have kn1 := x1.pp _ _ _ P1 (by omega) kn
  have H1 := PH_s B x1 (fun _ _ z => z.elim) H
  have i1 := hI h h1 _ _ B x1 (fun _ _ z => z.elim) i0
  have e11 : mh_r h1 53 6 = some o1 := by rw [er1]; exact e1
  obtain ⟨o', e', k'⟩ := id kn1
  rw [e11] at e'
  cases e'
  obtain ⟨h2, x2, B2, q2, q3, a8, c2⟩ := EF d h1 p o1 A B1 H1 i1 hp ⟨53, 6, P1, e11⟩ (now_no B1 e11) k' sA
  have y2 := zS_e B1 x2 B2
  have kn2 := y2.pp _ _ _ P1 (by omega) kn1
  have q12 := y2.pp _ _ _ P2 (by omega) q1
  obtain ⟨x3', B3⟩ := zS_i (k := p) (v := (G.fx p A).2.2) B2 (b := 55) (by omega)
  obtain ⟨o3, e3, -⟩ := id q2
  obtain ⟨o1', e12, -⟩ := id kn2
  obtain ⟨h4, x4, B4, er4, q4, c4⟩ := w_copy (d := d + 4) B3 P1 P3 (by omega) e12 e3 (x3'.pp _ _ _ P3 (fun z => z) q2)
  refine ⟨h4, zS_t (zS_w x1 (fun b j z => by unfold loV; omega) (fun _ _ z => z.elim)) (zS_t (zS_w y2 (fun b j z => by unfold loV; omega) (fun _ _ z => z.elim)) (zS_t (zS_w x3' (fun _ _ z => z.elim) (fun b j z => by omega)) (zS_w x4 (fun b j z => by unfold loV; omega) (fun _ _ z => z.elim)))), B4, x4.pp _ _ _ P2 (by omega) (x3'.pp _ _ _ P2 (fun z => z) q12), q4, fun z => x4.pp _ _ _ P4 (by omega) (x3'.pp _ _ _ P4 (fun z => z) (q3 z)), ?_, fun Q => ?_⟩
  · rw [x4.ii 55 100 p (B3.F.g 55 100 250 (by decide +kernel)) (by omega) (by omega) (by unfold eff; omega) (fun z => z), hi_si, if_pos ⟨rfl, rfl⟩]
  · have F := B.F
    have F1 := B1.F
    have F2 := B2.F
    have w := st_ne B gS
    have gS1 := zS_g x1 gS
    have s1 : mh_i h1 St 0 = Int32.ofNat (G.kd p) := by rw [x1.ii St 9 0 gS (by omega) (by omega) w.1 (fun z => z)]; exact s0
    have c165 := c_165 (d := d + 5) gS1 s1 kk.1
    have g53 := F.g 53 0 17 (by decide +kernel)
    have t0 := F.f 53 0 54 (by decide +kernel)
    have g54 := (F.g 54 104 250 (by decide +kernel)).1
    have g54' := (F.g 54 104 250 (by decide +kernel)).2
    have l54 := F.l 54 104 250 (by decide +kernel)
    have gO1 := (cs_so B.S ⟨53, 6, P1, e1⟩).1.1
    have gO2 := (cs_so B.S ⟨54, p, P2, e2⟩).1.1
    have g531 := F1.g 53 0 17 (by decide +kernel)
    have t51 := F1.f 53 5 34 (by decide +kernel)
    have g341 := F1.g 34 1 9 (by decide +kernel)
    have gO11 := zS_g x1 gO1
    have g532 := F2.g 53 0 17 (by decide +kernel)
    have t12 := F2.f 53 1 55 (by decide +kernel)
    have t52 := F2.f 53 5 34 (by decide +kernel)
    have g342 := F2.g 34 1 9 (by decide +kernel)
    have g55 := F2.g 55 100 250 (by decide +kernel)
    have l55 := F2.l 55 100 250 (by decide +kernel)
    have gO3 := (cs_so B2.S ⟨34, 2, P3, e3⟩).1.1
    have gO12 := (cs_so B2.S ⟨53, 6, P1, e12⟩).1.1
    have e00 : ((0 : Int32) = 0) = True := by decide
    have e10 : ((1 : Int32) = 0) = False := by decide
    by_cases c : G.kd p = 5 ∨ G.kd p = 6 ∨ G.kd p = 7
    · have w' : kb (decide (G.kd p = 5 ∨ G.kd p = 6 ∨ G.kd p = 7)) = 1 := by rw [decide_eq_true c]; rfl
      rw [w'] at c165
      rw [if_pos c] at c2
      clear EF hI B B1 B2 B3 B4 x1 x2 y2 x3' x4 kn kn1 kn2 q1 q12 q2 q3 q4 H H1 i0 i1 F F1 F2 sA k'
      simp (disch := omega) only [s_4_0, s_4_1, s_4_2, s_4_5, s_4_6, s_4_7, s_4_10, s_4_11, s_4_14, s_4_17, s_4_20, s_4_21, s_4_22, s_4_25, s_4_26, s_4_27, s_4_30, s_4_31, s_4_32, s_4_35, s_4_38, s_4_39, s_4_40, s_4_40n, s_4_40x, s_4_41, s_4_42, s_4_45, s_4_48, s_4_49, s_4_52, s_4_53, s_4_56, s_4_57, s_4_58, s_4_58x, s_4_59, s_4_60, s_4_63, s_4_64, s_4_67, s_4_68, s_4_69, s_4_70, s_4_73, s_4_74, s_4_77, s_4_80, s_4_81, s_4_84, s_4_85, s_4_88, s_4_89, s_4_90, s_4_93, s_4_94, s_4_97, s_4_98, s_4_99, s_4_100, s_4_103, s_4_106, s_4_107, s_4_110, s_4_113, s_4_114, s_4_117, s_4_118, s_4_119, s_4_122, s_4_125, s_4_128, s_4_129, s_4_132, s_4_133, s_4_134, s_4_137, s_4_140, s_4_141, s_4_144, s_4_145, s_4_146, s_4_149, s_4_152, s_4_153, s_4_154, s_4_157, s_4_158, s_4_161, s_4_164, s_4_168, s_4_171, s_4_172, s_4_175, s_4_176, s_4_179, s_4_181, s_4_184, s_4_185, s_4_188, s_4_189, s_4_192, s_4_193, s_4_194, s_4_194x, s_4_195, s_4_196, s_4_199, s_4_200, s_4_203, s_4_204, s_4_207, s_4_208, s_4_209, s_4_210, s_4_211, s_4_214, s_4_217, s_4_220, s_4_221, s_4_222, s_4_223, s_4_224, s_4_227, e_4, mv_i_1, mv_l_1, mv_a_1, mv_a_2, mv_a_3, mk2_n, mk2_i, mk2_l, mk2_a, mk2_u, mk2_x, mB_T, mB_F, mS_cons, mS_nil, mSB_T, mSB_F, mca_nil, mca_i, mca_l, mca_r, mca_u, mca_x, mcat_i, mcat_l, mcat_r, mcat_u, mcat_x, mK_some, mK_none, va_rf_s, va_rf_n, lgc_eq, lgc_lt, lgc_gt, lgc_ge, lgc_le, mrd_104, mrd_105, mrd_106, mrd_107, true_and, and_true, and_self, false_and, and_false, true_or, or_true, false_or, or_false, not_true_eq_false, not_false_eq_true, mgb, mga, mgr, mN, reduceCtorEq, ↓reduceIte, eq_self, ge_iff_le, gt_iff_lt, hk_si, hk_sj, hk_sr, hl_si, hl_sj, hl_sr, hn_si, hn_sj, hn_sr, hs_si, hs_sj, hs_sr, hi_sj, hi_sr, hj_si, hj_sr, hr_si, hr_sj, hi_si, hj_sj, hr_sr, mg_si, mg_sj, mg_sr, Nat.reduceAdd, Nat.reduceMul, Nat.reduceSub, Nat.reduceLT, Nat.reduceGT, Nat.reduceEqDiff, Nat.reduceLeDiff, Nat.left_eq_add, Nat.add_eq_left, Nat.reduceMod, Nat.reduceDiv, Nat.succ_ne_self, g53, t0, g54, g54', l54, e1, e2, gO1, gO2, c1, gS1, c165, e10, g531, t51, g341, e11, gO11, c2, g532, t12, t52, g342, g55, l55, a8, e12, e3, gO3, gO12, c4, nn_mxT, nn_clamp]
    · have w' : kb (decide (G.kd p = 5 ∨ G.kd p = 6 ∨ G.kd p = 7)) = 0 := by rw [decide_eq_false c]; rfl
      rw [w'] at c165
      rw [if_neg c] at c2
      clear EF hI B B1 B2 B3 B4 x1 x2 y2 x3' x4 kn kn1 kn2 q1 q12 q2 q3 q4 H H1 i0 i1 F F1 F2 sA k'
      simp (disch := omega) only [s_4_0, s_4_1, s_4_2, s_4_5, s_4_6, s_4_7, s_4_10, s_4_11, s_4_14, s_4_17, s_4_20, s_4_21, s_4_22, s_4_25, s_4_26, s_4_27, s_4_30, s_4_31, s_4_32, s_4_35, s_4_38, s_4_39, s_4_40, s_4_40n, s_4_40x, s_4_41, s_4_42, s_4_45, s_4_48, s_4_49, s_4_52, s_4_53, s_4_56, s_4_57, s_4_58, s_4_58x, s_4_59, s_4_60, s_4_63, s_4_64, s_4_67, s_4_68, s_4_69, s_4_70, s_4_73, s_4_74, s_4_77, s_4_80, s_4_81, s_4_84, s_4_85, s_4_88, s_4_89, s_4_90, s_4_93, s_4_94, s_4_97, s_4_98, s_4_99, s_4_100, s_4_103, s_4_106, s_4_107, s_4_110, s_4_113, s_4_114, s_4_117, s_4_118, s_4_119, s_4_122, s_4_125, s_4_128, s_4_129, s_4_132, s_4_133, s_4_134, s_4_137, s_4_140, s_4_141, s_4_144, s_4_145, s_4_146, s_4_149, s_4_152, s_4_153, s_4_154, s_4_157, s_4_158, s_4_161, s_4_164, s_4_168, s_4_171, s_4_172, s_4_175, s_4_176, s_4_179, s_4_181, s_4_184, s_4_185, s_4_188, s_4_189, s_4_192, s_4_193, s_4_194, s_4_194x, s_4_195, s_4_196, s_4_199, s_4_200, s_4_203, s_4_204, s_4_207, s_4_208, s_4_209, s_4_210, s_4_211, s_4_214, s_4_217, s_4_220, s_4_221, s_4_222, s_4_223, s_4_224, s_4_227, e_4, mv_i_1, mv_l_1, mv_a_1, mv_a_2, mv_a_3, mk2_n, mk2_i, mk2_l, mk2_a, mk2_u, mk2_x, mB_T, mB_F, mS_cons, mS_nil, mSB_T, mSB_F, mca_nil, mca_i, mca_l, mca_r, mca_u, mca_x, mcat_i, mcat_l, mcat_r, mcat_u, mcat_x, mK_some, mK_none, va_rf_s, va_rf_n, lgc_eq, lgc_lt, lgc_gt, lgc_ge, lgc_le, mrd_104, mrd_105, mrd_106, mrd_107, true_and, and_true, and_self, false_and, and_false, true_or, or_true, false_or, or_false, not_true_eq_false, not_false_eq_true, mgb, mga, mgr, mN, reduceCtorEq, ↓reduceIte, eq_self, ge_iff_le, gt_iff_lt, hk_si, hk_sj, hk_sr, hl_si, hl_sj, hl_sr, hn_si, hn_sj, hn_sr, hs_si, hs_sj, hs_sr, hi_sj, hi_sr, hj_si, hj_sr, hr_si, hr_sj, hi_si, hj_sj, hr_sr, mg_si, mg_sj, mg_sr, Nat.reduceAdd, Nat.reduceMul, Nat.reduceSub, Nat.reduceLT, Nat.reduceGT, Nat.reduceEqDiff, Nat.reduceLeDiff, Nat.left_eq_add, Nat.add_eq_left, Nat.reduceMod, Nat.reduceDiv, Nat.succ_ne_self, g53, t0, g54, g54', l54, e1, e2, gO1, gO2, c1, gS1, c165, e00, g531, t51, g341, e11, gO11, c2, g532, t12, t52, g342, g55, l55, a8, e12, e3, gO3, gO12, c4, nn_mxT, nn_clamp]
/-- nothing is kept -/
theorem lo_3a (B : BS h Y C E TT UU SC SP nC nE nS) (hp : p < 250) {St kd : Nat} (gS : mg h St 9) (s0 : mh_i h St 0 = Int32.ofNat kd) (hkd : kd ≤ 8) (w : kd ≠ 5 ∧ (kd = 6 → ∃ k ph, k < 250 ∧ mh_i h 53 9 = Int32.ofNat (k + 1) ∧ mh_i h 60 k = Int32.ofNat ph ∧ ph < 2)) {x3 : Option Value} : ∃ h', zS (fun _ _ => False) (fun b j => b = 53 ∧ j = 7) h h' ∧ BS h' Y C E TT UU SC SP nC nE nS ∧ mh_i h' 53 7 = Int32.ofNat (p + 1) ∧ ∀ Q, mw (d + 6) 4 Q 167 [some (.ref 53), some (.int (Int32.ofNat p)), some (.ref St), x3] [] h = Q none h' := by
  obtain ⟨x1, B1⟩ := zS_i (k := 7) (v := Int32.ofNat (p + 1)) B (b := 53) (by omega)
  refine ⟨_, x1, B1, by rw [hi_si, if_pos ⟨rfl, rfl⟩], fun Q => ?_⟩
  have F := B.F
  have g53 := F.g 53 0 17 (by decide +kernel)
  have e5 : (5 : Int32) = Int32.ofNat 5 := rfl
  have e6 : (6 : Int32) = Int32.ofNat 6 := rfl
  have i5 : (Int32.ofNat kd = 5) = False := by rw [e5, nn_eq (by omega) (by omega)]; exact eq_false w.1
  have ei : Int32.ofNat p + 1 = Int32.ofNat (p + 1) := nn_add (a := p) (b := 1)
  by_cases c : kd = 6
  · obtain ⟨k, ph, hk, k9, p60, hph⟩ := w.2 c
    have i6 : (Int32.ofNat kd = 6) = True := by rw [c]; decide
    have t10 := F.f 53 10 60 (by decide +kernel)
    have g60 := F.g 60 100 250 (by decide +kernel)
    have l60 := F.l 60 100 250 (by decide +kernel)
    have es : Int32.ofNat (k + 1) - 1 = Int32.ofNat k := nn_sub (a := k + 1) (b := 1) (by omega)
    have e2 : (2 : Int32) = Int32.ofNat 2 := rfl
    have i2 : (Int32.ofNat ph = 2) = False := by rw [e2, nn_eq (by omega) (by omega)]; exact eq_false (by omega)
    clear B B1 x1 F
    simp (disch := omega) only [s_4_0, s_4_1, s_4_2, s_4_5, s_4_6, s_4_7, s_4_10, s_4_11, s_4_14, s_4_17, s_4_20, s_4_21, s_4_22, s_4_25, s_4_26, s_4_27, s_4_30, s_4_31, s_4_32, s_4_35, s_4_38, s_4_39, s_4_40, s_4_40n, s_4_40x, s_4_41, s_4_42, s_4_45, s_4_48, s_4_49, s_4_52, s_4_53, s_4_56, s_4_57, s_4_58, s_4_58x, s_4_59, s_4_60, s_4_63, s_4_64, s_4_67, s_4_68, s_4_69, s_4_70, s_4_73, s_4_74, s_4_77, s_4_80, s_4_81, s_4_84, s_4_85, s_4_88, s_4_89, s_4_90, s_4_93, s_4_94, s_4_97, s_4_98, s_4_99, s_4_100, s_4_103, s_4_106, s_4_107, s_4_110, s_4_113, s_4_114, s_4_117, s_4_118, s_4_119, s_4_122, s_4_125, s_4_128, s_4_129, s_4_132, s_4_133, s_4_134, s_4_137, s_4_140, s_4_141, s_4_144, s_4_145, s_4_146, s_4_149, s_4_152, s_4_153, s_4_154, s_4_157, s_4_158, s_4_161, s_4_164, s_4_167, s_4_168, s_4_171, s_4_172, s_4_175, s_4_176, s_4_179, s_4_181, s_4_184, s_4_185, s_4_188, s_4_189, s_4_192, s_4_193, s_4_194, s_4_194x, s_4_195, s_4_196, s_4_199, s_4_200, s_4_203, s_4_204, s_4_207, s_4_208, s_4_209, s_4_210, s_4_211, s_4_214, s_4_217, s_4_220, s_4_221, s_4_222, s_4_223, s_4_224, s_4_227, e_4, mv_i_1, mv_l_1, mv_a_1, mv_a_2, mv_a_3, mk2_n, mk2_i, mk2_l, mk2_a, mk2_u, mk2_x, mB_T, mB_F, mS_cons, mS_nil, mSB_T, mSB_F, mca_nil, mca_i, mca_l, mca_r, mca_u, mca_x, mcat_i, mcat_l, mcat_r, mcat_u, mcat_x, mK_some, mK_none, va_rf_s, va_rf_n, lgc_eq, lgc_lt, lgc_gt, lgc_ge, lgc_le, mrd_104, mrd_105, mrd_106, mrd_107, true_and, and_true, and_self, false_and, and_false, true_or, or_true, false_or, or_false, not_true_eq_false, not_false_eq_true, mgb, mga, mgr, mN, reduceCtorEq, ↓reduceIte, eq_self, ge_iff_le, gt_iff_lt, hk_si, hk_sj, hk_sr, hl_si, hl_sj, hl_sr, hn_si, hn_sj, hn_sr, hs_si, hs_sj, hs_sr, hi_sj, hi_sr, hj_si, hj_sr, hr_si, hr_sj, hi_si, hj_sj, hr_sr, mg_si, mg_sj, mg_sr, Nat.reduceAdd, Nat.reduceMul, Nat.reduceSub, Nat.reduceLT, Nat.reduceGT, Nat.reduceEqDiff, Nat.reduceLeDiff, Nat.left_eq_add, Nat.add_eq_left, Nat.reduceMod, Nat.reduceDiv, Nat.succ_ne_self, gS, s0, i5, i6, g53, t10, k9, es, g60, l60, p60, i2, ei, nn_mxT, nn_clamp]
  · have i6 : (Int32.ofNat kd = 6) = False := by rw [e6, nn_eq (by omega) (by omega)]; exact eq_false c
    clear B B1 x1 F
    simp (disch := omega) only [s_4_0, s_4_1, s_4_2, s_4_5, s_4_6, s_4_7, s_4_10, s_4_11, s_4_14, s_4_17, s_4_20, s_4_21, s_4_22, s_4_25, s_4_26, s_4_27, s_4_30, s_4_31, s_4_32, s_4_35, s_4_38, s_4_39, s_4_40, s_4_40n, s_4_40x, s_4_41, s_4_42, s_4_45, s_4_48, s_4_49, s_4_52, s_4_53, s_4_56, s_4_57, s_4_58, s_4_58x, s_4_59, s_4_60, s_4_63, s_4_64, s_4_67, s_4_68, s_4_69, s_4_70, s_4_73, s_4_74, s_4_77, s_4_80, s_4_81, s_4_84, s_4_85, s_4_88, s_4_89, s_4_90, s_4_93, s_4_94, s_4_97, s_4_98, s_4_99, s_4_100, s_4_103, s_4_106, s_4_107, s_4_110, s_4_113, s_4_114, s_4_117, s_4_118, s_4_119, s_4_122, s_4_125, s_4_128, s_4_129, s_4_132, s_4_133, s_4_134, s_4_137, s_4_140, s_4_141, s_4_144, s_4_145, s_4_146, s_4_149, s_4_152, s_4_153, s_4_154, s_4_157, s_4_158, s_4_161, s_4_164, s_4_167, s_4_168, s_4_171, s_4_172, s_4_175, s_4_176, s_4_179, s_4_181, s_4_184, s_4_185, s_4_188, s_4_189, s_4_192, s_4_193, s_4_194, s_4_194x, s_4_195, s_4_196, s_4_199, s_4_200, s_4_203, s_4_204, s_4_207, s_4_208, s_4_209, s_4_210, s_4_211, s_4_214, s_4_217, s_4_220, s_4_221, s_4_222, s_4_223, s_4_224, s_4_227, e_4, mv_i_1, mv_l_1, mv_a_1, mv_a_2, mv_a_3, mk2_n, mk2_i, mk2_l, mk2_a, mk2_u, mk2_x, mB_T, mB_F, mS_cons, mS_nil, mSB_T, mSB_F, mca_nil, mca_i, mca_l, mca_r, mca_u, mca_x, mcat_i, mcat_l, mcat_r, mcat_u, mcat_x, mK_some, mK_none, va_rf_s, va_rf_n, lgc_eq, lgc_lt, lgc_gt, lgc_ge, lgc_le, mrd_104, mrd_105, mrd_106, mrd_107, true_and, and_true, and_self, false_and, and_false, true_or, or_true, false_or, or_false, not_true_eq_false, not_false_eq_true, mgb, mga, mgr, mN, reduceCtorEq, ↓reduceIte, eq_self, ge_iff_le, gt_iff_lt, hk_si, hk_sj, hk_sr, hl_si, hl_sj, hl_sr, hn_si, hn_sj, hn_sr, hs_si, hs_sj, hs_sr, hi_sj, hi_sr, hj_si, hj_sr, hr_si, hr_sj, hi_si, hj_sj, hr_sr, mg_si, mg_sj, mg_sr, Nat.reduceAdd, Nat.reduceMul, Nat.reduceSub, Nat.reduceLT, Nat.reduceGT, Nat.reduceEqDiff, Nat.reduceLeDiff, Nat.left_eq_add, Nat.add_eq_left, Nat.reduceMod, Nat.reduceDiv, Nat.succ_ne_self, gS, s0, i5, i6, g53, ei]
/-- what fails is kept -/
theorem lo_3b (B : BS h Y C E TT UU SC SP nC nE nS) (hp : p < 250) {St kd : Nat} (gS : mg h St 9) (s0 : mh_i h St 0 = Int32.ofNat kd) (hk : k < 250) (k9 : mh_i h 53 9 = Int32.ofNat (k + 1)) (w : kd = 5 ∨ (kd = 6 ∧ mh_i h 60 k = 2)) {v : Option ab} (kv : pv h 34 3 v) (n61 : mh_r h 61 k ≠ none) {x3 : Option Value} : ∃ h', zS (fun b j => b = 61 ∧ j = k) (fun b j => b = 53 ∧ j = 7) h h' ∧ BS h' Y C E TT UU SC SP nC nE nS ∧ pv h' 61 k v ∧ mh_i h' 53 7 = Int32.ofNat (p + 1) ∧ ∀ Q, mw (d + 6) 4 Q 167 [some (.ref 53), some (.int (Int32.ofNat p)), some (.ref St), x3] [] h = Q none h' := by
  have P1 : isPl 61 k := by unfold isPl; omega
  have P2 : isPl 34 3 := by unfold isPl; omega
  obtain ⟨o1, e1⟩ : ∃ o, mh_r h 61 k = some o := by
    cases hc : mh_r h 61 k with
    | none => exact absurd hc n61
    | some o => exact ⟨o, rfl⟩
  obtain ⟨o2, e2, -⟩ := id kv
  obtain ⟨h1, x1, B1, er1, q1, c1⟩ := w_copy (d := d + 4) B P1 P2 (by omega) e1 e2 kv
  obtain ⟨x2, B2⟩ := zS_i (k := 7) (v := Int32.ofNat (p + 1)) B1 (b := 53) (by omega)
  refine ⟨_, zS_t (zS_w x1 (fun _ _ z => z) (fun _ _ z => z.elim)) (zS_w x2 (fun _ _ z => z.elim) (fun _ _ z => z)), B2, x2.pp _ _ _ P1 (fun z => z) q1, by rw [hi_si, if_pos ⟨rfl, rfl⟩], fun Q => ?_⟩
  have F := B.F
  have g53 := F.g 53 0 17 (by decide +kernel)
  have g34 := F.g 34 1 9 (by decide +kernel)
  have t5 := F.f 53 5 34 (by decide +kernel)
  have t11 := F.f 53 11 61 (by decide +kernel)
  have g61 := (F.g 61 104 250 (by decide +kernel)).1
  have g61' := (F.g 61 104 250 (by decide +kernel)).2
  have l61 := F.l 61 104 250 (by decide +kernel)
  have gO1 := (cs_so B.S ⟨61, k, P1, e1⟩).1.1
  have gO2 := (cs_so B.S ⟨34, 3, P2, e2⟩).1.1
  have g531 := B1.F.g 53 0 17 (by decide +kernel)
  have es : Int32.ofNat (k + 1) - 1 = Int32.ofNat k := nn_sub (a := k + 1) (b := 1) (by omega)
  have ei : Int32.ofNat p + 1 = Int32.ofNat (p + 1) := nn_add (a := p) (b := 1)
  rcases w with w | ⟨w, p60⟩
  · have i5 : (Int32.ofNat kd = 5) = True := by rw [w]; decide
    clear B B1 B2 x1 x2 F kv q1
    simp (disch := omega) only [s_4_0, s_4_1, s_4_2, s_4_5, s_4_6, s_4_7, s_4_10, s_4_11, s_4_14, s_4_17, s_4_20, s_4_21, s_4_22, s_4_25, s_4_26, s_4_27, s_4_30, s_4_31, s_4_32, s_4_35, s_4_38, s_4_39, s_4_40, s_4_40n, s_4_40x, s_4_41, s_4_42, s_4_45, s_4_48, s_4_49, s_4_52, s_4_53, s_4_56, s_4_57, s_4_58, s_4_58x, s_4_59, s_4_60, s_4_63, s_4_64, s_4_67, s_4_68, s_4_69, s_4_70, s_4_73, s_4_74, s_4_77, s_4_80, s_4_81, s_4_84, s_4_85, s_4_88, s_4_89, s_4_90, s_4_93, s_4_94, s_4_97, s_4_98, s_4_99, s_4_100, s_4_103, s_4_106, s_4_107, s_4_110, s_4_113, s_4_114, s_4_117, s_4_118, s_4_119, s_4_122, s_4_125, s_4_128, s_4_129, s_4_132, s_4_133, s_4_134, s_4_137, s_4_140, s_4_141, s_4_144, s_4_145, s_4_146, s_4_149, s_4_152, s_4_153, s_4_154, s_4_157, s_4_158, s_4_161, s_4_164, s_4_167, s_4_168, s_4_171, s_4_172, s_4_175, s_4_176, s_4_179, s_4_181, s_4_184, s_4_185, s_4_188, s_4_189, s_4_192, s_4_193, s_4_194, s_4_194x, s_4_195, s_4_196, s_4_199, s_4_200, s_4_203, s_4_204, s_4_207, s_4_208, s_4_209, s_4_210, s_4_211, s_4_214, s_4_217, s_4_220, s_4_221, s_4_222, s_4_223, s_4_224, s_4_227, e_4, mv_i_1, mv_l_1, mv_a_1, mv_a_2, mv_a_3, mk2_n, mk2_i, mk2_l, mk2_a, mk2_u, mk2_x, mB_T, mB_F, mS_cons, mS_nil, mSB_T, mSB_F, mca_nil, mca_i, mca_l, mca_r, mca_u, mca_x, mcat_i, mcat_l, mcat_r, mcat_u, mcat_x, mK_some, mK_none, va_rf_s, va_rf_n, lgc_eq, lgc_lt, lgc_gt, lgc_ge, lgc_le, mrd_104, mrd_105, mrd_106, mrd_107, true_and, and_true, and_self, false_and, and_false, true_or, or_true, false_or, or_false, not_true_eq_false, not_false_eq_true, mgb, mga, mgr, mN, reduceCtorEq, ↓reduceIte, eq_self, ge_iff_le, gt_iff_lt, hk_si, hk_sj, hk_sr, hl_si, hl_sj, hl_sr, hn_si, hn_sj, hn_sr, hs_si, hs_sj, hs_sr, hi_sj, hi_sr, hj_si, hj_sr, hr_si, hr_sj, hi_si, hj_sj, hr_sr, mg_si, mg_sj, mg_sr, Nat.reduceAdd, Nat.reduceMul, Nat.reduceSub, Nat.reduceLT, Nat.reduceGT, Nat.reduceEqDiff, Nat.reduceLeDiff, Nat.left_eq_add, Nat.add_eq_left, Nat.reduceMod, Nat.reduceDiv, Nat.succ_ne_self, gS, s0, i5, g53, k9, es, t11, g61, g61', l61, e1, t5, g34, e2, gO1, gO2, c1, g531, ei, nn_mxT, nn_clamp]
  · have i5 : (Int32.ofNat kd = 5) = False := by rw [w]; decide
    have i6 : (Int32.ofNat kd = 6) = True := by rw [w]; decide
    have t10 := F.f 53 10 60 (by decide +kernel)
    have g60 := F.g 60 100 250 (by decide +kernel)
    have l60 := F.l 60 100 250 (by decide +kernel)
    have i2 : ((2 : Int32) = 2) = True := by decide
    clear B B1 B2 x1 x2 F kv q1
    simp (disch := omega) only [s_4_0, s_4_1, s_4_2, s_4_5, s_4_6, s_4_7, s_4_10, s_4_11, s_4_14, s_4_17, s_4_20, s_4_21, s_4_22, s_4_25, s_4_26, s_4_27, s_4_30, s_4_31, s_4_32, s_4_35, s_4_38, s_4_39, s_4_40, s_4_40n, s_4_40x, s_4_41, s_4_42, s_4_45, s_4_48, s_4_49, s_4_52, s_4_53, s_4_56, s_4_57, s_4_58, s_4_58x, s_4_59, s_4_60, s_4_63, s_4_64, s_4_67, s_4_68, s_4_69, s_4_70, s_4_73, s_4_74, s_4_77, s_4_80, s_4_81, s_4_84, s_4_85, s_4_88, s_4_89, s_4_90, s_4_93, s_4_94, s_4_97, s_4_98, s_4_99, s_4_100, s_4_103, s_4_106, s_4_107, s_4_110, s_4_113, s_4_114, s_4_117, s_4_118, s_4_119, s_4_122, s_4_125, s_4_128, s_4_129, s_4_132, s_4_133, s_4_134, s_4_137, s_4_140, s_4_141, s_4_144, s_4_145, s_4_146, s_4_149, s_4_152, s_4_153, s_4_154, s_4_157, s_4_158, s_4_161, s_4_164, s_4_167, s_4_168, s_4_171, s_4_172, s_4_175, s_4_176, s_4_179, s_4_181, s_4_184, s_4_185, s_4_188, s_4_189, s_4_192, s_4_193, s_4_194, s_4_194x, s_4_195, s_4_196, s_4_199, s_4_200, s_4_203, s_4_204, s_4_207, s_4_208, s_4_209, s_4_210, s_4_211, s_4_214, s_4_217, s_4_220, s_4_221, s_4_222, s_4_223, s_4_224, s_4_227, e_4, mv_i_1, mv_l_1, mv_a_1, mv_a_2, mv_a_3, mk2_n, mk2_i, mk2_l, mk2_a, mk2_u, mk2_x, mB_T, mB_F, mS_cons, mS_nil, mSB_T, mSB_F, mca_nil, mca_i, mca_l, mca_r, mca_u, mca_x, mcat_i, mcat_l, mcat_r, mcat_u, mcat_x, mK_some, mK_none, va_rf_s, va_rf_n, lgc_eq, lgc_lt, lgc_gt, lgc_ge, lgc_le, mrd_104, mrd_105, mrd_106, mrd_107, true_and, and_true, and_self, false_and, and_false, true_or, or_true, false_or, or_false, not_true_eq_false, not_false_eq_true, mgb, mga, mgr, mN, reduceCtorEq, ↓reduceIte, eq_self, ge_iff_le, gt_iff_lt, hk_si, hk_sj, hk_sr, hl_si, hl_sj, hl_sr, hn_si, hn_sj, hn_sr, hs_si, hs_sj, hs_sr, hi_sj, hi_sr, hj_si, hj_sr, hr_si, hr_sj, hi_si, hj_sj, hr_sr, mg_si, mg_sj, mg_sr, Nat.reduceAdd, Nat.reduceMul, Nat.reduceSub, Nat.reduceLT, Nat.reduceGT, Nat.reduceEqDiff, Nat.reduceLeDiff, Nat.left_eq_add, Nat.add_eq_left, Nat.reduceMod, Nat.reduceDiv, Nat.succ_ne_self, gS, s0, i5, i6, g53, t10, g60, l60, p60, i2, k9, es, t11, g61, g61', l61, e1, t5, g34, e2, gO1, gO2, c1, g531, ei, nn_mxT, nn_clamp]
end LEs
