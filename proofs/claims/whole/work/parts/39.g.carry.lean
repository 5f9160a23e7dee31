set_option maxRecDepth 100000
/-! Effect.carry: its beginning and its end -/
section CAs
variable {d : Nat} {h h1 h2 h3 : mh_H} {P R lP Y C E TT UU SC SP nC nE nS nb na p pa St Fr Ho : Nat} {A : ab} {O : Option ab}
theorem TG_of (k : RS h Ho (some A)) (T : ab_T A) : TG h Ho (a_cl A) := Or.inl ⟨A, A.m, 0, RL_of k T.t, fun i j hi hj => by have := T.lo2 hi hj; omega, rfl⟩
theorem st_sE (p : CP h P R lP) (S : CS h) (q : SQ h Y C E TT UU SC SP nC nE nS) (y : mh_r h 2 1 = some Y) (r2 : mh_r h 34 2 = some Ho) (x : fG (stW Ho P R) h h1) : sE h h1 := by
  have cH : cs h Ho := ⟨34, 2, Or.inl ⟨rfl, by omega⟩, r2⟩
  refine sE_G y x (fun b j w => ?_) (fun w => ?_)
  · unfold efW
    rcases w with w | w | w
    · rcases w with ⟨e, e'⟩ | e | e | e | e | e
      · exact Or.inr (Or.inl e)
      · exact Or.inr (Or.inr (Or.inl (by omega)))
      · exact Or.inr (Or.inr (Or.inl (by omega)))
      · exact Or.inr (Or.inr (Or.inl (by omega)))
      · exact Or.inr (Or.inr (Or.inr (Or.inr (Or.inr (Or.inr (Or.inl (by rw [e]; exact p.r9)))))))
      · exact Or.inr (Or.inr (Or.inr (Or.inr (Or.inr (Or.inr (Or.inr (Or.inl (by rw [e]; exact p.r10))))))))
    · rcases w with ⟨e, e'⟩ | e
      · exact Or.inr (Or.inl e)
      · exact Or.inr (Or.inr (Or.inr (Or.inl e)))
    · have m : mine 0 h Ho := Or.inl r2
      rcases w with e | e | e | e
      · exact Or.inr (Or.inr (Or.inr (Or.inr (Or.inr (Or.inr (Or.inr (Or.inr ⟨Ho, m, by omega, by omega⟩)))))))
      · exact Or.inr (Or.inr (Or.inr (Or.inr (Or.inr (Or.inr (Or.inr (Or.inr ⟨Ho, m, by omega, by omega⟩)))))))
      · exact Or.inr (Or.inr (Or.inr (Or.inr (Or.inr (Or.inr (Or.inr (Or.inr ⟨Ho, m, by omega, by omega⟩)))))))
      · exact Or.inr (Or.inr (Or.inr (Or.inr (Or.inr (Or.inl e)))))
  · have n := q.n Y (by simp)
    have g := q.gY
    have k1 := so_k (cs_so S cH).1 g (by omega) (by omega)
    have g1 := g.1
    have gP := p.g9.1
    have gR := p.g10.1
    have bP : ¬ Y = P := fun e => by rw [e] at g1; omega
    have bR : ¬ Y = R := fun e => by rw [e] at g1; omega
    unfold stW rgW fmW sW at w
    omega
theorem BS_fG {W : Nat → Nat → Prop} (x : fG W h h1) (B : BS h Y C E TT UU SC SP nC nE nS) : BS h1 Y C E TT UU SC SP nC nE nS := by
  obtain ⟨P, R, lP, p⟩ := B.p
  obtain ⟨a, b, c, q⟩ := B.o
  exact ⟨CF_fG x B.F, CS_fG x B.S, ⟨P, R, lP, CP_fG x p⟩, SQ_fG x B.q, by rw [fG_r x]; exact B.y, by rw [x.2.2.2.1]; exact B.N, ⟨a, b, c, by rw [fG_r x]; exact q⟩⟩
/-- its beginning -/
theorem car_0 (B : BS h Y C E TT UU SC SP nC nE nS) (hp : p < 250) (b1 : mh_i h 21 p = Int32.ofNat nb) (b2 : mh_i h 22 p = Int32.ofNat na) (s5 : mh_i h Y 5 = Int32.ofNat pa) (hb : pa ≤ 60000) (rS : mh_r h 20 p = some St) (gS : mg h St 9) (cF : cs h Fr) (nF : ¬ mine 0 h Fr) (k : RS h Fr (some A)) (T : ab_T A) : ∃ h2 P R lP Ho, pa ≤ lP ∧ sE h h2 ∧ BS h2 Y C E TT UU SC SP nC nE nS ∧ ES h2 P R lP Fr Y C E TT UU SC SP nC nE nS nb na Ho A ∧ mh_r h2 34 2 = some Ho ∧ RS h2 Ho (some A) ∧ mh_i h2 35 4 = 0 ∧ (∀ b c j, mg h b c → c ≠ 8 → c ≠ 101 → ¬ (b = 34 ∨ b = 35 ∨ b = 38 ∨ b = 41 ∨ b = 51) → mh_i h2 b j = mh_i h b j ∧ mh_r h2 b j = mh_r h b j) ∧ ∀ Q, mcall (d + 5) 13 [.ref 34, .int (Int32.ofNat p), .ref Fr] h Q = mw (d + 5) 13 Q 31 [some (.ref 34), some (.int (Int32.ofNat p)), some (.ref Fr), some (.ref St), none] [] h2 := by
  obtain ⟨P, R, lP, pp⟩ := B.p
  obtain ⟨Ho, Fa, Be, r2, r3, r4⟩ := B.o
  have F := B.F
  obtain ⟨h1, P', R', lP', hl, K, f1, a4, pe, e1⟩ := v_97 (d := d + 4) (X := Fr) F B.S pp B.q B.y cF hp b1 b2 s5 hb B.N
  have y1 : sE h h1 := lf_sE pp K.p F f1 pe
  have k1 := lz_RS B.S f1.1 Fr _ cF k
  have r21 : mh_r h1 34 2 = some Ho := by rw [lz_pl F f1.1 34 2 (Or.inl ⟨rfl, by omega⟩)]; exact r2
  have r31 : mh_r h1 34 3 = some Fa := by rw [lz_pl F f1.1 34 3 (Or.inl ⟨rfl, by omega⟩)]; exact r3
  have r41 : mh_r h1 34 4 = some Be := by rw [lz_pl F f1.1 34 4 (Or.inl ⟨rfl, by omega⟩)]; exact r4
  have cF1 := (lz_cs F f1.1 Fr).mpr cF
  have cH1 : cs h1 Ho := ⟨34, 2, Or.inl ⟨rfl, by omega⟩, r21⟩
  have ne : Ho ≠ Fr := fun e => nF (by rw [← e]; exact Or.inl r2)
  have G1 := K.rg cF1 k1 T
  have S1 : ES h1 P' R' lP' Fr Y C E TT UU SC SP nC nE nS nb na Ho A := ⟨G1, cH1, ne⟩
  obtain ⟨h2, f2, k2, e2⟩ := l_144 (d := d + 3) 52 S1.so k1 ne
  have x2 : fG (stW Ho P' R') h1 h2 := fG_w (fG_fq f2) (fun b j w => Or.inr (Or.inr w))
  have B1 : BS h1 Y C E TT UU SC SP nC nE nS := ⟨K.F, K.S, ⟨P', R', lP', K.p⟩, K.q, K.y, Nat.le_trans B.N f1.1.1, ⟨Ho, Fa, Be, r21, r31, r41⟩⟩
  have y2 : sE h1 h2 := st_sE K.p K.S K.q K.y r21 x2
  have aH := (cs_so K.S cH1).2
  unfold cAd at aH
  refine ⟨h2, P', R', lP', Ho, hl, sE_t y1 y2, BS_fG x2 B1, ES_fG S1 x2, by rw [fG_r x2]; exact r21, k2, ?_, fun b c j g c8 c1 nb' => sE_i B (sE_t y1 y2) g c8 c1 nb' j, fun Q => ?_⟩
  · rw [(f2.2.2.2.2.2 35 (by unfold sW; omega)).1]; exact a4
  · have g34 := F.g 34 1 9 (by decide +kernel)
    have g34' : mg h1 34 1 := K.F.g 34 1 9 (by decide +kernel)
    have g2 := F.g 2 4 20 (by decide +kernel)
    have t0 := F.f 34 0 2 (by decide +kernel)
    have t1 := F.f 34 1 35 (by decide +kernel)
    have t3 := F.f 2 3 20 (by decide +kernel)
    have g20 := (F.g 20 105 250 (by decide +kernel)).1
    have g20' := (F.g 20 105 250 (by decide +kernel)).2
    have l20 := F.l 20 105 250 (by decide +kernel)
    have gF := (RS_so k).1
    have gF1 := (RS_so k1).1
    have g35 : mg h 35 5 := F.g 35 5 19 (by decide +kernel)
    have gH1 := S1.so.1
    clear F B B1 S1 G1 K pp f1 f2 k k1 k2 x2 y1 y2 T
    simp (disch := omega) only [s_13_0, s_13_1, s_13_4, s_13_7, s_13_8, s_13_9, s_13_9n, s_13_9x, s_13_10, s_13_11, s_13_14, s_13_15, s_13_18, s_13_19, s_13_20, s_13_23, s_13_24, s_13_27, s_13_28, s_13_32, s_13_35, s_13_64, s_13_65, s_13_66, s_13_69, s_13_70, s_13_73, s_13_76, s_13_77, s_13_80, s_13_83, s_13_84, s_13_85, s_13_88, s_13_89, s_13_92, s_13_93, s_13_96, s_13_99, s_13_102, s_13_103, s_13_104, s_13_107, s_13_110, s_13_111, s_13_111x, s_13_112, s_13_113, s_13_116, s_13_117, s_13_118, s_13_121, s_13_124, s_13_127, s_13_128, s_13_129, s_13_130, s_13_133, s_13_136, s_13_137, s_13_137x, s_13_138, s_13_139, s_13_142, s_13_143, s_13_146, s_13_149, s_13_150, s_13_152, s_13_154, s_13_155, s_13_158, s_13_161, s_13_162, s_13_165, s_13_168, s_13_171, s_13_172, s_13_175, s_13_178, s_13_179, s_13_180, s_13_183, s_13_184, s_13_187, s_13_189, s_13_190, s_13_191, s_13_194, s_13_196, s_13_197, s_13_200, s_13_201, s_13_204, s_13_205, s_13_208, s_13_211, s_13_214, s_13_217, s_13_220, s_13_221, s_13_222, s_13_225, s_13_226, s_13_229, s_13_230, s_13_233, s_13_236, s_13_237, s_13_240, s_13_241, s_13_244, s_13_247, s_13_248, s_13_249, s_13_252, s_13_255, s_13_258, e_13, mv_i_1, mv_l_1, mv_a_1, mv_a_2, mv_a_3, mk2_n, mk2_i, mk2_l, mk2_a, mk2_u, mk2_x, mB_T, mB_F, mS_cons, mS_nil, mSB_T, mSB_F, mca_nil, mca_i, mca_l, mca_r, mca_u, mca_x, mcat_i, mcat_l, mcat_r, mcat_u, mcat_x, mK_some, mK_none, va_rf_s, va_rf_n, lgc_eq, lgc_lt, lgc_gt, lgc_ge, lgc_le, mrd_104, mrd_105, mrd_106, mrd_107, true_and, and_true, and_self, false_and, and_false, true_or, or_true, false_or, or_false, not_true_eq_false, not_false_eq_true, mgb, mga, mgr, mN, reduceCtorEq, ↓reduceIte, eq_self, ge_iff_le, gt_iff_lt, hk_si, hk_sj, hk_sr, hl_si, hl_sj, hl_sr, hn_si, hn_sj, hn_sr, hs_si, hs_sj, hs_sr, hi_sj, hi_sr, hj_si, hj_sr, hr_si, hr_sj, hi_si, hj_sj, hr_sr, mg_si, mg_sj, mg_sr, Nat.reduceAdd, Nat.reduceMul, Nat.reduceSub, Nat.reduceLT, Nat.reduceGT, Nat.reduceEqDiff, Nat.reduceLeDiff, Nat.left_eq_add, Nat.add_eq_left, Nat.reduceMod, Nat.reduceDiv, Nat.succ_ne_self, g34, g34', g2, t0, t1, t3, g20, g20', l20, rS, gS, gF, gF1, g35, e1, r21, gH1, e2, nn_mxT, nn_clamp]
/-- its end -/
theorem car_1 (B : BS h Y C E TT UU SC SP nC nE nS) (r2 : mh_r h 34 2 = some Ho) (k : TG h Ho O) {x1 x2 x3 x4 : Option Value} : ∃ h', sE h h' ∧ BS h' Y C E TT UU SC SP nC nE nS ∧ mh_r h' 34 2 = some Ho ∧ RS h' Ho O ∧ mh_i h' 34 8 = mh_i h 35 4 ∧ ∀ Q, mw (d + 5) 13 Q 236 [some (.ref 34), x1, x2, x3, x4] [] h = Q none h' := by
  have F := B.F
  obtain ⟨P, R, lP, pp⟩ := B.p
  have cH : cs h Ho := ⟨34, 2, Or.inl ⟨rfl, by omega⟩, r2⟩
  have sH := (cs_so B.S cH).1
  have aH := (cs_so B.S cH).2
  unfold cAd at aH
  have nY := B.q.n Y (by simp)
  obtain ⟨h1, f1, k1, e1⟩ := k.t (d := d + 2) ⟨F.g 52 101 48 (by decide +kernel), F.l 52 101 48 (by decide +kernel)⟩
  have x1' : fG (stW Ho P R) h h1 := fG_w (fG_fq f1) (fun b j w => Or.inr (Or.inr w))
  have y1 : sE h h1 := st_sE pp B.S B.q B.y r2 x1'
  have B1 := BS_fG x1' B
  have x3' : fG (fun b j => b = 34 ∧ j = 8) h1 (mh_si h1 34 8 (mh_i h 35 4)) := fG_si ⟨rfl, rfl⟩
  refine ⟨mh_si h1 34 8 (mh_i h 35 4), sE_t y1 (sE_G B1.y x3' (fun b j w => Or.inl ⟨w.1, by omega⟩) (by omega)), BS_fG x3' B1, by rw [hr_si, fG_r x1']; exact r2, RS_fz (fG_z x3') (fun y hy j w => by omega) k1, by rw [hi_si, if_pos ⟨rfl, rfl⟩], fun Q => ?_⟩
  have g34 := F.g 34 1 9 (by decide +kernel)
  have g52 := F.g 52 101 48 (by decide +kernel)
  have t7 := F.f 34 7 52 (by decide +kernel)
  have t1 := F.f 34 1 35 (by decide +kernel)
  have g34' := B1.F.g 34 1 9 (by decide +kernel)
  have g35' := B1.F.g 35 5 19 (by decide +kernel)
  have er := fG_r x1'
  have i4 : mh_i h1 35 4 = mh_i h 35 4 := by rw [(f1.2.2.2.2.2 35 (by unfold sW; omega)).1]
  have gH := sH.1
  clear F B B1 pp f1 k k1 x1' x3' y1
  simp (disch := omega) only [s_13_0, s_13_1, s_13_4, s_13_7, s_13_8, s_13_9, s_13_9n, s_13_9x, s_13_10, s_13_11, s_13_14, s_13_15, s_13_18, s_13_19, s_13_20, s_13_23, s_13_24, s_13_27, s_13_28, s_13_31, s_13_32, s_13_35, s_13_64, s_13_65, s_13_66, s_13_69, s_13_70, s_13_73, s_13_76, s_13_77, s_13_80, s_13_83, s_13_84, s_13_85, s_13_88, s_13_89, s_13_92, s_13_93, s_13_96, s_13_99, s_13_102, s_13_103, s_13_104, s_13_107, s_13_110, s_13_111, s_13_111x, s_13_112, s_13_113, s_13_116, s_13_117, s_13_118, s_13_121, s_13_124, s_13_127, s_13_128, s_13_129, s_13_130, s_13_133, s_13_136, s_13_137, s_13_137x, s_13_138, s_13_139, s_13_142, s_13_143, s_13_146, s_13_149, s_13_150, s_13_152, s_13_154, s_13_155, s_13_158, s_13_161, s_13_162, s_13_165, s_13_168, s_13_171, s_13_172, s_13_175, s_13_178, s_13_179, s_13_180, s_13_183, s_13_184, s_13_187, s_13_189, s_13_190, s_13_191, s_13_194, s_13_196, s_13_197, s_13_200, s_13_201, s_13_204, s_13_205, s_13_208, s_13_211, s_13_214, s_13_217, s_13_220, s_13_221, s_13_222, s_13_225, s_13_226, s_13_229, s_13_230, s_13_233, s_13_236, s_13_237, s_13_240, s_13_241, s_13_244, s_13_247, s_13_248, s_13_249, s_13_252, s_13_255, s_13_258, e_13, mv_i_1, mv_l_1, mv_a_1, mv_a_2, mv_a_3, mk2_n, mk2_i, mk2_l, mk2_a, mk2_u, mk2_x, mB_T, mB_F, mS_cons, mS_nil, mSB_T, mSB_F, mca_nil, mca_i, mca_l, mca_r, mca_u, mca_x, mcat_i, mcat_l, mcat_r, mcat_u, mcat_x, mK_some, mK_none, va_rf_s, va_rf_n, lgc_eq, lgc_lt, lgc_gt, lgc_ge, lgc_le, mrd_104, mrd_105, mrd_106, mrd_107, true_and, and_true, and_self, false_and, and_false, true_or, or_true, false_or, or_false, not_true_eq_false, not_false_eq_true, mgb, mga, mgr, mN, reduceCtorEq, ↓reduceIte, eq_self, ge_iff_le, gt_iff_lt, hk_si, hk_sj, hk_sr, hl_si, hl_sj, hl_sr, hn_si, hn_sj, hn_sr, hs_si, hs_sj, hs_sr, hi_sj, hi_sr, hj_si, hj_sr, hr_si, hr_sj, hi_si, hj_sj, hr_sr, mg_si, mg_sj, mg_sr, Nat.reduceAdd, Nat.reduceMul, Nat.reduceSub, Nat.reduceLT, Nat.reduceGT, Nat.reduceEqDiff, Nat.reduceLeDiff, Nat.left_eq_add, Nat.add_eq_left, Nat.reduceMod, Nat.reduceDiv, Nat.succ_ne_self, g34, r2, gH, t7, g52, e1, g34', g35', er, t1, i4]
end CAs
