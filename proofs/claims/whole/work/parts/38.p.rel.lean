set_option maxRecDepth 100000
/-! Effect.split: one relation -/
section RLw
variable {d : Nat} {h : mh_H} {P R lP X Y C E TT UU SC SP nC nE nS nb na Ho Fa : Nat} {sN : Int → Prop} {en : Int → Nat} {A : ab} {t1 t2 : tr} {sum c0 c1 p0 : Nat}
theorem so_W (S1 : ES h P R lP X Y C E TT UU SC SP nC nE nS nb na Ho A) (S2 : ES h P R lP X Y C E TT UU SC SP nC nE nS nb na Fa A) (ne : Ho ≠ Fa) : ∀ y, y ≤ 2 → ∀ j, ¬ soW Ho (Fa + y) j := fun y hy j w => by
  rcases w with w | w
  · exact (S2.hh y hy j).2.2 w
  · obtain ⟨a, b, c⟩ := sW_not S1.so S2.so (fun z => ne z.symm) S1.w
    have : y = 0 ∨ y = 1 ∨ y = 2 := by omega
    rcases this with rfl | rfl | rfl
    · exact a w
    · exact b w
    · exact c w
theorem kd_33 : ∀ w, w ≤ 5 → (kd w = 33) = False := by
  intro w hw
  have : w = 0 ∨ w = 1 ∨ w = 2 ∨ w = 3 ∨ w = 4 ∨ w = 5 := by omega
  rcases this with rfl | rfl | rfl | rfl | rfl | rfl <;> exact eq_false (by decide)
theorem op_5 {w : Nat} : r_op w ≤ 5 := by
  unfold r_op
  repeat' split
  all_goals omega
theorem v_rel (S1 : ES h P R lP X Y C E TT UU SC SP nC nE nS nb na Ho A) (S2 : ES h P R lP X Y C E TT UU SC SP nC nE nS nb na Fa A) (ne : Ho ≠ Fa) (r2 : mh_r h 34 2 = some Ho) (r3 : mh_r h 34 3 = some Fa) (r4 : mh_r h 34 4 = some X) (U1 : SU h C E TT UU SC SP nC nE nS lP nb na sN en A t1 false sum c0 p0) (U2 : SU h C E TT UU SC SP nC nE nS lP nb na sN en A t2 true (sum + 1) c1 (p0 + pn t1 false)) {WW nW k w : Nat} (rW : mh_r h Y 10 = some WW) (gW : mg h WW 100) (lW : mh_l h WW = nW) (hk : k < nW) (hn : nW < 1000000) (vW : mh_i h WW k = Int32.ofNat sum) (hw : w ≤ 5) {v1 v2 v3 : Option Value} : ∃ h', fG (st2 Ho Fa P R) h h' ∧ RS h' Ho (a_rel en A w t1 t2).1 ∧ RS h' Fa (a_rel en A w t1 t2).2.1 ∧ mh_i h' 35 4 = mh_i h 35 4 ||| (a_rel en A w t1 t2).2.2 ∧ ∀ Q, mw (d + 5) 17 Q 140 [some (.ref 34), v1, v2, v3, some (.ref Y), some (.int (Int32.ofNat k)), some (.int (kd w))] [] h = mw (d + 5) 17 Q 207 [some (.ref 34), v1, v2, v3, some (.ref Y), some (.int (Int32.ofNat k)), some (.int (kd w))] [] h' := by
  have g : mg h 34 1 := S1.G.F.g 34 1 9 (by decide +kernel)
  have gY := S1.G.q.gY
  have k33 := kd_33 w hw
  have e00 : ((0 : Int32) = 0) = True := by decide
  have e10 : ((1 : Int32) = 0) = False := by decide
  obtain ⟨h1, F1, q⟩ := v_21 (d := d) S1 S2 ne r2 r3 r4 U1 U2
  obtain ⟨S11, S21⟩ := ES_2 S1 S2 F1
  have er1 := fG_r F1
  rcases q with ⟨l, so1, so2, Q', hm, ptq, K1, k11, k21, al, e1⟩ | ⟨n1, n2, al, ra, al', e1⟩
  · have hT := S1.G.T
    have MO' := LQ_MO hT Q' hm
    have res : a_rel en A w t1 t2 = (o_cl (r_h A (l.map (pgE en A)) w), o_cl (r_h A (l.map (pgE en A)) (r_op w)), (ev en A t1 none).2 ||| (ev en A t2 none).2) := by
      cases x1 : (ev en A t1 none).1 with
      | none => exact absurd x1 so1
      | some y1 =>
        cases x2 : (ev en A t2 none).1 with
        | none => exact absurd x2 so2
        | some y2 =>
          unfold a_rel
          rw [x1, x2, ptq]
    have m1 : TM h1 Ho (some A) := ⟨_, _, RL_of k11 hT.t⟩
    obtain ⟨h2, f2, m12, e2⟩ := v_23 (d := d + 1) S11 Q' hm K1 m1 hw
    have F2 : fG (st2 Ho Fa P R) h1 h2 := fG_w f2 (fun b j w => Or.inl (soW_st w))
    obtain ⟨S12, S22⟩ := ES_2 S11 S21 F2
    have K2 := ES_C S11 f2 K1
    have k22 : RS h2 Fa (some A) := RS_fz (fG_z f2) (so_W S11 S21 ne) k21
    have m2 : TM h2 Fa (some A) := ⟨_, _, RL_of k22 hT.t⟩
    obtain ⟨h3, f3, m23, e3⟩ := v_23 (d := d + 1) S22 Q' hm K2 m2 (op_5 (w := w))
    have F3 : fG (st2 Ho Fa P R) h2 h3 := fG_w f3 (fun b j w => Or.inr (soW_st w))
    obtain ⟨S13, S23⟩ := ES_2 S12 S22 F3
    have m13 := TM_fz (fG_z f3) (so_W S22 S12 (fun z => ne z.symm)) m12
    obtain ⟨h4, f4, k14, e4⟩ := (TM_TG hT (r_ok MO' w) m13).t (d := d + 2) S13.w
    have F4' : fG (soW Ho) h3 h4 := fG_w (fG_fq f4) (fun b j w => Or.inr w)
    have F4 : fG (st2 Ho Fa P R) h3 h4 := fG_w F4' (fun b j w => Or.inl (soW_st w))
    obtain ⟨S14, S24⟩ := ES_2 S13 S23 F4
    have m24 := TM_fz (fG_z F4') (so_W S13 S23 ne) m23
    obtain ⟨h5, f5, k25, e5⟩ := (TM_TG hT (r_ok MO' (r_op w)) m24).t (d := d + 2) S24.w
    have F5' : fG (soW Fa) h4 h5 := fG_w (fG_fq f5) (fun b j w => Or.inr w)
    have F5 : fG (st2 Ho Fa P R) h4 h5 := fG_w F5' (fun b j w => Or.inr (soW_st w))
    have k15 := RS_o f5 S24.so S24.w ne k14
    have ns : ∀ H, ¬ sW H 52 35 → ¬ soW H 35 4 := fun H hH w => by
      rcases w with w | w
      · unfold foW at w; omega
      · exact hH w
    have nH := S1.n35
    have nF := S2.n35
    refine ⟨h5, fG_t F1 (fG_t F2 (fG_t F3 (fG_t F4 F5))), by rw [res]; exact k15, by rw [res]; exact k25, ?_, fun Q => ?_⟩
    · rw [res, fG_i F5' (ns Fa nF.1), fG_i F4' (ns Ho nH.1), fG_i f3 (ns Fa nF.1), fG_i f2 (ns Ho nH.1), al]
    · have g1 : mg h1 34 1 := S11.G.F.g 34 1 9 (by decide +kernel)
      have g2 : mg h2 34 1 := S12.G.F.g 34 1 9 (by decide +kernel)
      have g3 : mg h3 34 1 := S13.G.F.g 34 1 9 (by decide +kernel)
      have g4 : mg h4 34 1 := S14.G.F.g 34 1 9 (by decide +kernel)
      have x3 : mh_r h3 34 7 = some 52 := S13.G.F.f 34 7 52 (by decide +kernel)
      have x4 : mh_r h4 34 7 = some 52 := S14.G.F.f 34 7 52 (by decide +kernel)
      have gH3 := S13.so.1
      have gF4 := S24.so.1
      have r21 : mh_r h1 34 2 = some Ho := by rw [er1]; exact r2
      have r32 : mh_r h2 34 3 = some Fa := by rw [fG_r f2, er1]; exact r3
      have r23 : mh_r h3 34 2 = some Ho := by rw [fG_r f3, fG_r f2, er1]; exact r2
      have r34 : mh_r h4 34 3 = some Fa := by rw [fG_r F4', fG_r f3, fG_r f2, er1]; exact r3
      have op := kd_op w hw
      clear S1 S2 S11 S21 S12 S22 S13 S23 S14 S24 U1 U2 k11 k21 k22 k14 k15 k25 m1 m2 m12 m13 m23 m24 K1 K2 F1 F2 F3 F4 F5 F4' F5' f2 f3 f4 f5 Q' MO' res ns
      simp (disch := omega) only [s_17_0, s_17_1, s_17_4, s_17_7, s_17_8, s_17_9, s_17_9n, s_17_9x, s_17_10, s_17_11, s_17_14, s_17_17, s_17_17n, s_17_17x, s_17_19, s_17_20, s_17_23, s_17_24, s_17_27, s_17_28, s_17_31, s_17_32, s_17_35, s_17_36, s_17_37, s_17_40, s_17_43, s_17_44, s_17_45, s_17_48, s_17_49, s_17_52, s_17_54, s_17_56, s_17_57, s_17_60, s_17_63, s_17_65, s_17_68, s_17_70, s_17_70x, s_17_71, s_17_73, s_17_75, s_17_78, s_17_81, s_17_83, s_17_85, s_17_88, s_17_89, s_17_92, s_17_94, s_17_97, s_17_100, s_17_102, s_17_105, s_17_108, s_17_109, s_17_112, s_17_115, s_17_117, s_17_120, s_17_123, s_17_125, s_17_128, s_17_131, s_17_132, s_17_134, s_17_137, s_17_140, s_17_142, s_17_144, s_17_147, s_17_148, s_17_150, s_17_153, s_17_155, s_17_155x, s_17_156, s_17_159, s_17_162, s_17_163, s_17_164, s_17_167, s_17_169, s_17_172, s_17_173, s_17_174, s_17_177, s_17_179, s_17_182, s_17_185, s_17_186, s_17_189, s_17_190, s_17_193, s_17_196, s_17_197, s_17_200, s_17_201, s_17_204, s_17_210, s_17_213, s_17_214, s_17_215, s_17_218, s_17_221, s_17_224, s_17_225, s_17_228, s_17_230, s_17_233, s_17_234, s_17_237, s_17_240, s_17_243, s_17_244, s_17_245, s_17_248, s_17_250, s_17_251, s_17_254, e_17, mv_i_1, mv_l_1, mv_a_1, mv_a_2, mv_a_3, mk2_n, mk2_i, mk2_l, mk2_a, mk2_u, mk2_x, mB_T, mB_F, mS_cons, mS_nil, mSB_T, mSB_F, mca_nil, mca_i, mca_l, mca_r, mca_u, mca_x, mcat_i, mcat_l, mcat_r, mcat_u, mcat_x, mK_some, mK_none, va_rf_s, va_rf_n, lgc_eq, lgc_lt, lgc_gt, lgc_ge, lgc_le, mrd_104, mrd_105, mrd_106, mrd_107, true_and, and_true, and_self, false_and, and_false, true_or, or_true, false_or, or_false, not_true_eq_false, not_false_eq_true, mgb, mga, mgr, mN, reduceCtorEq, ↓reduceIte, eq_self, ge_iff_le, gt_iff_lt, hk_si, hk_sj, hk_sr, hl_si, hl_sj, hl_sr, hn_si, hn_sj, hn_sr, hs_si, hs_sj, hs_sr, hi_sj, hi_sr, hj_si, hj_sr, hr_si, hr_sj, hi_si, hj_sj, hr_sr, mg_si, mg_sj, mg_sr, Nat.reduceAdd, Nat.reduceMul, Nat.reduceSub, Nat.reduceLT, Nat.reduceGT, Nat.reduceEqDiff, Nat.reduceLeDiff, Nat.left_eq_add, Nat.add_eq_left, Nat.reduceMod, Nat.reduceDiv, Nat.succ_ne_self, g, gY, rW, gW, lW, vW, nn_mxT, nn_clamp, k33, e1, e10, g1, r21, e2, g2, r32, op, e3, g3, r23, x3, gH3, e4, g4, r34, x4, gF4, e5]
  · refine ⟨h1, F1, by rw [ra w]; exact n1, by rw [ra w]; exact n2, by rw [ra w]; exact al', fun Q => ?_⟩
    clear S1 S2 S11 S21 U1 U2 F1 n1 n2 ra
    simp (disch := omega) only [s_17_0, s_17_1, s_17_4, s_17_7, s_17_8, s_17_9, s_17_9n, s_17_9x, s_17_10, s_17_11, s_17_14, s_17_17, s_17_17n, s_17_17x, s_17_19, s_17_20, s_17_23, s_17_24, s_17_27, s_17_28, s_17_31, s_17_32, s_17_35, s_17_36, s_17_37, s_17_40, s_17_43, s_17_44, s_17_45, s_17_48, s_17_49, s_17_52, s_17_54, s_17_56, s_17_57, s_17_60, s_17_63, s_17_65, s_17_68, s_17_70, s_17_70x, s_17_71, s_17_73, s_17_75, s_17_78, s_17_81, s_17_83, s_17_85, s_17_88, s_17_89, s_17_92, s_17_94, s_17_97, s_17_100, s_17_102, s_17_105, s_17_108, s_17_109, s_17_112, s_17_115, s_17_117, s_17_120, s_17_123, s_17_125, s_17_128, s_17_131, s_17_132, s_17_134, s_17_137, s_17_140, s_17_142, s_17_144, s_17_147, s_17_148, s_17_150, s_17_153, s_17_155, s_17_155x, s_17_156, s_17_159, s_17_162, s_17_163, s_17_164, s_17_167, s_17_169, s_17_172, s_17_173, s_17_174, s_17_177, s_17_179, s_17_182, s_17_185, s_17_186, s_17_189, s_17_190, s_17_193, s_17_196, s_17_197, s_17_200, s_17_201, s_17_204, s_17_210, s_17_213, s_17_214, s_17_215, s_17_218, s_17_221, s_17_224, s_17_225, s_17_228, s_17_230, s_17_233, s_17_234, s_17_237, s_17_240, s_17_243, s_17_244, s_17_245, s_17_248, s_17_250, s_17_251, s_17_254, e_17, mv_i_1, mv_l_1, mv_a_1, mv_a_2, mv_a_3, mk2_n, mk2_i, mk2_l, mk2_a, mk2_u, mk2_x, mB_T, mB_F, mS_cons, mS_nil, mSB_T, mSB_F, mca_nil, mca_i, mca_l, mca_r, mca_u, mca_x, mcat_i, mcat_l, mcat_r, mcat_u, mcat_x, mK_some, mK_none, va_rf_s, va_rf_n, lgc_eq, lgc_lt, lgc_gt, lgc_ge, lgc_le, mrd_104, mrd_105, mrd_106, mrd_107, true_and, and_true, and_self, false_and, and_false, true_or, or_true, false_or, or_false, not_true_eq_false, not_false_eq_true, mgb, mga, mgr, mN, reduceCtorEq, ↓reduceIte, eq_self, ge_iff_le, gt_iff_lt, hk_si, hk_sj, hk_sr, hl_si, hl_sj, hl_sr, hn_si, hn_sj, hn_sr, hs_si, hs_sj, hs_sr, hi_sj, hi_sr, hj_si, hj_sr, hr_si, hr_sj, hi_si, hj_sj, hr_sr, mg_si, mg_sj, mg_sr, Nat.reduceAdd, Nat.reduceMul, Nat.reduceSub, Nat.reduceLT, Nat.reduceGT, Nat.reduceEqDiff, Nat.reduceLeDiff, Nat.left_eq_add, Nat.add_eq_left, Nat.reduceMod, Nat.reduceDiv, Nat.succ_ne_self, g, gY, rW, gW, lW, vW, nn_mxT, nn_clamp, k33, e1, e00]
end RLw
