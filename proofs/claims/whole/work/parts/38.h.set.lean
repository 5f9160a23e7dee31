set_option maxRecDepth 100000
/-! Effect.set: what x is laid on, and its limits -/
section SETb
variable {d : Nat} {h Z : mh_H} {P R lP X Y C E TT UU SC SP nC nE nS nb na H : Nat} {sN : Int → Prop} {en : Int → Nat} {A B : ab} {p0 x y i : Nat} {l : List (Nat × Bool × tr)} {new : Bool} {lo hi : Int}
theorem v_o1 (S : ES h P R lP X Y C E TT UU SC SP nC nE nS nb na H A) (Q' : LQ sN en A l) (hm : l.length ≤ 12000) (K : CW h nb p0 TT UU en A (l.map (pgE en A))) (y12 : y < 12) (ho : ownI (l.map (pgE en A)) y (l.map (pgE en A)).length = some i) : ∃ h', fG foW h h' ∧ otV A (l.map (pgE en A)) (sk1 i) = ((mh_j h' 35 17).toInt, (mh_j h' 35 18).toInt) ∧ (∀ j, j = 17 ∨ j = 18 → -2000000000000000 ≤ (mh_j h' 35 j).toInt ∧ (mh_j h' 35 j).toInt ≤ 2000000000000000) ∧ ∀ Q, mcall (d + 1) 115 [.ref 35, .int (Int32.ofNat y), .int (-1)] h Q = Q none h' := by
  obtain ⟨h', f, o, b, e⟩ := v_115 (d := d) S.G Q' hm K (Int32.ofNat y) (-1)
  exact ⟨h', f, (otV_sk (skS_1 K.s12 y12 ho)).symm.trans o, b, e⟩
theorem set_cb (S : ES h P R lP X Y C E TT UU SC SP nC nE nS nb na H A) (Q' : LQ sN en A l) (hm : l.length ≤ 12000) (K : CW h nb p0 TT UU en A (l.map (pgE en A))) (r2 : mh_r h 34 2 = some H) (k : RS h H (some (if new = true then a_add B else B))) (O : SO A B (l.map (pgE en A)) x new lo hi) {a3 a5 : Int64} {sm : Int32} : ∃ h', fG (soW H) h h' ∧ RS h' H (some (a_base A B (l.map (pgE en A)) x new)) ∧ ∀ Q, mw (d + 4) 16 Q 67 [some (.ref 34), some (.int (Int32.ofNat x)), some (.int sm), some (.long a3), none, some (.long a5), none, none, none] [] h = mw (d + 4) 16 Q 143 [some (.ref 34), some (.int (Int32.ofNat x)), some (.int sm), some (.long a3), none, some (.long a5), none, some (.int (Int32.ofNat 0)), none] [] h' := by
  have g : mg h 34 1 := S.G.F.g 34 1 9 (by decide +kernel)
  have r1 : mh_r h 34 1 = some 35 := S.G.F.f 34 1 35 (by decide +kernel)
  have r11 : mh_r h 35 11 = some 41 := S.G.F.f 35 11 41 (by decide +kernel)
  have g5 := S.G.g
  have gH : mg h H 8 := S.so.1
  have x12 := O.x12
  have c4 := v_114 (d := d + 3) S.G K x12
  have T' : ab_T (if new = true then a_add B else B) ∧ x < (if new = true then a_add B else B).n := by
    cases new with
    | true =>
      obtain ⟨x1, x2⟩ := O.x1 rfl
      rw [if_pos rfl]
      exact ⟨T_add O.B x2, by show x < B.n + 1; omega⟩
    | false =>
      rw [if_neg (by decide)]
      exact ⟨O.B, O.x0 rfl⟩
  have i0 : (0 : Int32) = Int32.ofNat 0 := rfl
  have e10 : ((1 : Int32) = 0) = False := by decide
  have e00 : ((0 : Int32) = 0) = True := by decide
  rw [← O.cb]
  cases ho : ownI (l.map (pgE en A)) x (l.map (pgE en A)).length with
  | none =>
    have eb : cB A (if new = true then a_add B else B) (l.map (pgE en A)) x = a_free x (if new = true then a_add B else B) := by unfold cB; rw [ho]
    rw [eb]
    rw [ho] at c4
    have c4' : ∀ Q, mcall (d + 3) 114 [.ref 35, .int (Int32.ofNat x)] h Q = Q (some (.int 0)) h := c4
    obtain ⟨h', f, k', e⟩ := l_155 (d := d + 2) 52 k T'.1 T'.2
    refine ⟨h', fG_w (fG_fq f) (fun b j w => Or.inr w), k', fun Q => ?_⟩
    clear S Q' K k O T' k' f c4
    simp (disch := omega) only [s_16_0, s_16_1, s_16_4, s_16_5, s_16_8, s_16_11, s_16_12, s_16_15, s_16_16, s_16_19, s_16_20, s_16_23, s_16_26, s_16_29, s_16_30, s_16_31, s_16_34, s_16_35, s_16_36, s_16_39, s_16_42, s_16_43, s_16_44, s_16_45, s_16_46, s_16_49, s_16_52, s_16_53, s_16_54, s_16_56, s_16_57, s_16_60, s_16_61, s_16_62, s_16_63, s_16_64, s_16_67, s_16_68, s_16_71, s_16_72, s_16_75, s_16_78, s_16_79, s_16_82, s_16_83, s_16_84, s_16_87, s_16_88, s_16_91, s_16_94, s_16_95, s_16_96, s_16_99, s_16_100, s_16_103, s_16_104, s_16_107, s_16_108, s_16_111, s_16_112, s_16_113, s_16_116, s_16_119, s_16_120, s_16_123, s_16_126, s_16_129, s_16_132, s_16_133, s_16_136, s_16_137, s_16_140, s_16_141, s_16_145, s_16_147, s_16_150, s_16_152, s_16_153, s_16_156, s_16_157, s_16_160, s_16_162, s_16_165, s_16_168, s_16_169, s_16_172, s_16_174, s_16_175, s_16_178, s_16_179, s_16_182, s_16_185, s_16_187, s_16_188, s_16_191, s_16_192, s_16_194, s_16_195, s_16_198, s_16_199, s_16_201, s_16_202, s_16_203, s_16_204, s_16_206, s_16_207, s_16_210, s_16_211, s_16_212, s_16_213, s_16_215, s_16_216, s_16_219, s_16_222, s_16_225, s_16_226, s_16_229, s_16_230, s_16_231, s_16_232, s_16_233, s_16_234, s_16_236, s_16_237, s_16_238, s_16_239, s_16_242, s_16_245, s_16_246, s_16_249, s_16_252, s_16_255, s_16_256, s_16_259, s_16_260, s_16_261, s_16_262, s_16_263, s_16_264, s_16_265, s_16_267, s_16_270, s_16_271, s_16_274, s_16_275, s_16_276, s_16_277, s_16_278, s_16_279, s_16_280, s_16_281, s_16_282, s_16_283, s_16_284, s_16_285, s_16_286, s_16_289, e_16, mv_i_1, mv_l_1, mv_a_1, mv_a_2, mv_a_3, mk2_n, mk2_i, mk2_l, mk2_a, mk2_u, mk2_x, mB_T, mB_F, mS_cons, mS_nil, mSB_T, mSB_F, mca_nil, mca_i, mca_l, mca_r, mca_u, mca_x, mcat_i, mcat_l, mcat_r, mcat_u, mcat_x, mK_some, mK_none, va_rf_s, va_rf_n, lgc_eq, lgc_lt, lgc_gt, lgc_ge, lgc_le, mrd_104, mrd_105, mrd_106, mrd_107, true_and, and_true, and_self, false_and, and_false, true_or, or_true, false_or, or_false, not_true_eq_false, not_false_eq_true, mgb, mga, mgr, mN, reduceCtorEq, ↓reduceIte, eq_self, ge_iff_le, gt_iff_lt, Nat.reduceAdd, Nat.reduceMul, Nat.reduceSub, Nat.reduceLT, Nat.reduceGT, Nat.reduceEqDiff, Nat.reduceLeDiff, Nat.left_eq_add, Nat.add_eq_left, Nat.reduceMod, Nat.reduceDiv, Nat.succ_ne_self, g, g5, gH, r1, r2, c4', e, e00]
    try rfl
  | some i =>
    obtain ⟨i1, i2⟩ := ownI_s _ ho
    obtain ⟨i3, i4⟩ := ownB_F i2
    have hn : new = false := by
      cases hq : new with
      | false => rfl
      | true => rw [O.own hq i i1] at i2; cases i2
    subst hn
    have k0 : RS h H (some B) := k
    have xB := O.x0 rfl
    have eb : cB A (if (false : Bool) = true then a_add B else B) (l.map (pgE en A)) x = a_shift x (otV A (l.map (pgE en A)) (sk1 i)).1 (otV A (l.map (pgE en A)) (sk1 i)).2 (if (pq (l.map (pgE en A)) i).1 = true then a_turn x B else B) := by unfold cB; rw [ho]; rfl
    rw [eb]
    rw [ho] at c4
    have c4' : ∀ Q, mcall (d + 3) 114 [.ref 35, .int (Int32.ofNat x)] h Q = Q (some (.int 1)) h := c4
    obtain ⟨h1, f1, o1, b1, e1⟩ := v_o1 (d := d + 2) S Q' hm K x12 ho
    have F1 : fG (soW H) h h1 := fG_w f1 (fun b j w => Or.inl w)
    have S1 := ES_fG S (fG_w F1 (fun b j w => soW_st w))
    have K1 := ES_C S F1 K
    have k1 : RS h1 H (some B) := RS_fz (fG_z f1) (fun y hy j => (S.hh y hy j).2.2) k0
    have sg := (K1.sg ho).2
    have ot := O.ot i1 i3
    rw [o1] at ot ⊢
    dsimp only at ot ⊢
    have g1 : mg h1 34 1 := S1.G.F.g 34 1 9 (by decide +kernel)
    have g15 := S1.G.g
    have g1H : mg h1 H 8 := S1.so.1
    have er1 := fG_r f1
    have gs : mg h1 41 100 := S1.G.F.g 41 100 12 (by decide +kernel)
    have ls : mh_l h1 41 = 12 := S1.G.F.l 41 100 12 (by decide +kernel)
    have n35 : ¬ sW H 52 35 := by
      obtain ⟨sH, aH⟩ := cs_so S.G.S S.c
      unfold cAd at aH
      unfold sW
      omega
    cases hp : (pq (l.map (pgE en A)) i).1 with
    | true =>
      rw [if_pos rfl]
      have neg : mh_i h1 41 x < 0 := sg.mpr hp
      obtain ⟨h2, f2, k2, e2⟩ := l_156 (d := d + 2) 52 k1 (O.B.t.1.1) xB
      obtain ⟨h3, f3, k3, e3⟩ := l_158 (d := d + 2) (l := mh_j h1 35 17) (u := mh_j h1 35 18) 52 k2 xB (by omega) (by omega) (fun i j hi' hj => turn_b (b := true) O.B hi' hj)
      have er2 : mh_r h2 = mh_r h1 := f2.2.2.1
      have g2 : mg h2 34 1 := (fq_mg f2).mpr g1
      have g25 : mg h2 35 5 := (fq_mg f2).mpr g15
      have g2H : mg h2 H 8 := (fq_mg f2).mpr g1H
      have j17 : mh_j h2 35 17 = mh_j h1 35 17 := (f2.2.2.2.2.2 35 n35).2 17
      have j18 : mh_j h2 35 18 = mh_j h1 35 18 := (f2.2.2.2.2.2 35 n35).2 18
      refine ⟨h3, fG_t F1 (fG_t (fG_w (fG_fq f2) (fun b j w => Or.inr w)) (fG_w (fG_fq f3) (fun b j w => Or.inr w))), k3, fun Q => ?_⟩
      clear S S1 Q' K K1 k k0 k1 k2 k3 O T' c4 F1 f1 f2 f3 sg b1 o1 ot
      simp (disch := omega) only [s_16_0, s_16_1, s_16_4, s_16_5, s_16_8, s_16_11, s_16_12, s_16_15, s_16_16, s_16_19, s_16_20, s_16_23, s_16_26, s_16_29, s_16_30, s_16_31, s_16_34, s_16_35, s_16_36, s_16_39, s_16_42, s_16_43, s_16_44, s_16_45, s_16_46, s_16_49, s_16_52, s_16_53, s_16_54, s_16_56, s_16_57, s_16_60, s_16_61, s_16_62, s_16_63, s_16_64, s_16_67, s_16_68, s_16_71, s_16_72, s_16_75, s_16_78, s_16_79, s_16_82, s_16_83, s_16_84, s_16_87, s_16_88, s_16_91, s_16_94, s_16_95, s_16_96, s_16_99, s_16_100, s_16_103, s_16_104, s_16_107, s_16_108, s_16_111, s_16_112, s_16_113, s_16_116, s_16_119, s_16_120, s_16_123, s_16_126, s_16_129, s_16_132, s_16_133, s_16_136, s_16_137, s_16_140, s_16_141, s_16_145, s_16_147, s_16_150, s_16_152, s_16_153, s_16_156, s_16_157, s_16_160, s_16_162, s_16_165, s_16_168, s_16_169, s_16_172, s_16_174, s_16_175, s_16_178, s_16_179, s_16_182, s_16_185, s_16_187, s_16_188, s_16_191, s_16_192, s_16_194, s_16_195, s_16_198, s_16_199, s_16_201, s_16_202, s_16_203, s_16_204, s_16_206, s_16_207, s_16_210, s_16_211, s_16_212, s_16_213, s_16_215, s_16_216, s_16_219, s_16_222, s_16_225, s_16_226, s_16_229, s_16_230, s_16_231, s_16_232, s_16_233, s_16_234, s_16_236, s_16_237, s_16_238, s_16_239, s_16_242, s_16_245, s_16_246, s_16_249, s_16_252, s_16_255, s_16_256, s_16_259, s_16_260, s_16_261, s_16_262, s_16_263, s_16_264, s_16_265, s_16_267, s_16_270, s_16_271, s_16_274, s_16_275, s_16_276, s_16_277, s_16_278, s_16_279, s_16_280, s_16_281, s_16_282, s_16_283, s_16_284, s_16_285, s_16_286, s_16_289, e_16, mv_i_1, mv_l_1, mv_a_1, mv_a_2, mv_a_3, mk2_n, mk2_i, mk2_l, mk2_a, mk2_u, mk2_x, mB_T, mB_F, mS_cons, mS_nil, mSB_T, mSB_F, mca_nil, mca_i, mca_l, mca_r, mca_u, mca_x, mcat_i, mcat_l, mcat_r, mcat_u, mcat_x, mK_some, mK_none, va_rf_s, va_rf_n, lgc_eq, lgc_lt, lgc_gt, lgc_ge, lgc_le, mrd_104, mrd_105, mrd_106, mrd_107, true_and, and_true, and_self, false_and, and_false, true_or, or_true, false_or, or_false, not_true_eq_false, not_false_eq_true, mgb, mga, mgr, mN, reduceCtorEq, ↓reduceIte, eq_self, ge_iff_le, gt_iff_lt, Nat.reduceAdd, Nat.reduceMul, Nat.reduceSub, Nat.reduceLT, Nat.reduceGT, Nat.reduceEqDiff, Nat.reduceLeDiff, Nat.left_eq_add, Nat.add_eq_left, Nat.reduceMod, Nat.reduceDiv, Nat.succ_ne_self, g, g5, gH, r1, r2, r11, c4', e1, e10, g1, g15, g1H, er1, er2, gs, ls, nn_mxT, nn_clamp, neg, le_nlt32, mB_not, g2, g25, g2H, j17, j18, e2, e3]
      try rfl
    | false =>
      rw [if_neg (by decide)]
      have neg : ¬ mh_i h1 41 x < 0 := fun z => by rw [sg.mp z] at hp; cases hp
      obtain ⟨h3, f3, k3, e3⟩ := l_158 (d := d + 2) (l := mh_j h1 35 17) (u := mh_j h1 35 18) 52 k1 xB (by omega) (by omega) (fun i j hi' hj => O.B.lo2 hi' hj)
      refine ⟨h3, fG_t F1 (fG_w (fG_fq f3) (fun b j w => Or.inr w)), k3, fun Q => ?_⟩
      clear S S1 Q' K K1 k k0 k1 k3 O T' c4 F1 f1 f3 sg b1 o1 ot
      simp (disch := omega) only [s_16_0, s_16_1, s_16_4, s_16_5, s_16_8, s_16_11, s_16_12, s_16_15, s_16_16, s_16_19, s_16_20, s_16_23, s_16_26, s_16_29, s_16_30, s_16_31, s_16_34, s_16_35, s_16_36, s_16_39, s_16_42, s_16_43, s_16_44, s_16_45, s_16_46, s_16_49, s_16_52, s_16_53, s_16_54, s_16_56, s_16_57, s_16_60, s_16_61, s_16_62, s_16_63, s_16_64, s_16_67, s_16_68, s_16_71, s_16_72, s_16_75, s_16_78, s_16_79, s_16_82, s_16_83, s_16_84, s_16_87, s_16_88, s_16_91, s_16_94, s_16_95, s_16_96, s_16_99, s_16_100, s_16_103, s_16_104, s_16_107, s_16_108, s_16_111, s_16_112, s_16_113, s_16_116, s_16_119, s_16_120, s_16_123, s_16_126, s_16_129, s_16_132, s_16_133, s_16_136, s_16_137, s_16_140, s_16_141, s_16_145, s_16_147, s_16_150, s_16_152, s_16_153, s_16_156, s_16_157, s_16_160, s_16_162, s_16_165, s_16_168, s_16_169, s_16_172, s_16_174, s_16_175, s_16_178, s_16_179, s_16_182, s_16_185, s_16_187, s_16_188, s_16_191, s_16_192, s_16_194, s_16_195, s_16_198, s_16_199, s_16_201, s_16_202, s_16_203, s_16_204, s_16_206, s_16_207, s_16_210, s_16_211, s_16_212, s_16_213, s_16_215, s_16_216, s_16_219, s_16_222, s_16_225, s_16_226, s_16_229, s_16_230, s_16_231, s_16_232, s_16_233, s_16_234, s_16_236, s_16_237, s_16_238, s_16_239, s_16_242, s_16_245, s_16_246, s_16_249, s_16_252, s_16_255, s_16_256, s_16_259, s_16_260, s_16_261, s_16_262, s_16_263, s_16_264, s_16_265, s_16_267, s_16_270, s_16_271, s_16_274, s_16_275, s_16_276, s_16_277, s_16_278, s_16_279, s_16_280, s_16_281, s_16_282, s_16_283, s_16_284, s_16_285, s_16_286, s_16_289, e_16, mv_i_1, mv_l_1, mv_a_1, mv_a_2, mv_a_3, mk2_n, mk2_i, mk2_l, mk2_a, mk2_u, mk2_x, mB_T, mB_F, mS_cons, mS_nil, mSB_T, mSB_F, mca_nil, mca_i, mca_l, mca_r, mca_u, mca_x, mcat_i, mcat_l, mcat_r, mcat_u, mcat_x, mK_some, mK_none, va_rf_s, va_rf_n, lgc_eq, lgc_lt, lgc_gt, lgc_ge, lgc_le, mrd_104, mrd_105, mrd_106, mrd_107, true_and, and_true, and_self, false_and, and_false, true_or, or_true, false_or, or_false, not_true_eq_false, not_false_eq_true, mgb, mga, mgr, mN, reduceCtorEq, ↓reduceIte, eq_self, ge_iff_le, gt_iff_lt, Nat.reduceAdd, Nat.reduceMul, Nat.reduceSub, Nat.reduceLT, Nat.reduceGT, Nat.reduceEqDiff, Nat.reduceLeDiff, Nat.left_eq_add, Nat.add_eq_left, Nat.reduceMod, Nat.reduceDiv, Nat.succ_ne_self, g, g5, gH, r1, r2, r11, c4', e1, e10, g1, g15, g1H, er1, gs, ls, nn_mxT, nn_clamp, neg, le_nlt32, mB_not, e3]
      try rfl
end SETb
