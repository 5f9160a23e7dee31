set_option maxRecDepth 100000
section R0S
variable {d : Nat} {h : mh_H} {o K V Z M S N T : Nat} {A : ab} {sN : Int → Prop} {en : Int → Nat} {al : Int32} {lo hi : Int64}
theorem th_tT (t : tr) : th (tT t) ≤ th t := by
  cases t with
  | leaf u => exact Nat.le_refl _
  | branch n cs r => rw [th_B]; exact Nat.le_max_right _ _
theorem R0_br (H : AH h o K V Z M S N T A sN en) {n : Nat} {cs r : tr} (i0 : R0 h o K V Z A sN en cs) (i1 : R0 h o K V Z A sN en (tT cs)) (i2 : R1 h o K V Z A sN en (tT cs)) : R0 h o K V Z A sN en (.branch n cs r) := by
  intro d k al lo hi hd hn hk w
  obtain ⟨e, rfl⟩ : ∃ e, d = e + 6 := ⟨d - 6, by omega⟩
  rw [th_B] at hd
  rw [ts_B] at hk
  rw [nd_B] at hn
  obtain ⟨n1, n2, n3, n4, n5⟩ := hn
  have g := H.g
  have r0 := H.r0
  have r1 := H.r1
  have r2 := H.r2
  have r23 := H.r23
  have gK1 := H.gK.1
  have gK2 := H.gK.2
  have lK := H.lK
  have gV := H.gV
  have lV := H.lV
  have gZ := H.gZ
  have lZ := H.lZ
  have ne : ∀ x, mg h x 100 → ¬ x = o := fun x hx z => by have := hx.1; have := H.g.1; rw [z] at *; omega
  have nK : ¬ K = o := fun z => by have := gK1; have := g.1; rw [z] at *; omega
  have nV := ne V gV
  have nZ := ne Z gZ
  have ei : ∀ k, Int32.ofNat k + 1 = Int32.ofNat (k + 1) := fun k => nn_add (a := k) (b := 1)
  have ei2 : ∀ k, Int32.ofNat k + 2 = Int32.ofNat (k + 2) := fun k => nn_add (a := k) (b := 2)
  have e10 : ((1 : Int32) = 0) = False := by decide
  have e00 : ((0 : Int32) = 0) = True := by decide
  have k0' : kb false = 0 := rfl
  have k1' : kb true = 1 := rfl
  have t64 : tK n < 64 := by unfold tK; omega
  have t12 : (Int32.ofNat (tK n) = 12) = (tK n = 12) := nn_eq (a := tK n) (b := 12) (by omega) (by omega)
  have t13 : (Int32.ofNat (tK n) = 13) = (tK n = 13) := nn_eq (a := tK n) (b := 13) (by omega) (by omega)
  have t14 : (Int32.ofNat (tK n) = 14) = (tK n = 14) := nn_eq (a := tK n) (b := 14) (by omega) (by omega)
  have t15 : (Int32.ofNat (tK n) = 15) = (tK n = 15) := nn_eq (a := tK n) (b := 15) (by omega) (by omega)
  have t16 : (Int32.ofNat (tK n) = 16) = (tK n = 16) := nn_eq (a := tK n) (b := 16) (by omega) (by omega)
  have c1 := fun X Y (al' : Int32) (l' u' : Int64) Q' => c_231 (d := e + 5) (Q := Q') (x := X) (y := Y) (al := al') (lo := l') (hi := u') g
  by_cases k12 : tK n = 12
  · rw [ev_12 k12]
    refine ⟨true, (mh_i h V k).toInt64, (mh_i h V k).toInt64, ⟨rfl, by rw [Int32.toInt_toInt64, n2], by rw [Int32.toInt_toInt64, n2]⟩, fun Q => ?_⟩
    rw [i32_or0, k1']
    simp (disch := omega) only [s_233_0, s_233_1, s_233_4, s_233_5, s_233_6, s_233_40, s_233_41, s_233_42, s_233_45, s_233_46, s_233_47, s_233_48, s_233_49, s_233_52, s_233_53, s_233_54, s_233_55, s_233_58, s_233_59, s_233_60, s_233_61, s_233_64, s_233_65, s_233_66, s_233_67, s_233_70, s_233_71, s_233_74, s_233_75, s_233_78, s_233_79, s_233_82, s_233_85, s_233_86, s_233_87, s_233_88, s_233_89, s_233_90, s_233_91, s_233_92, s_233_93, s_233_96, s_233_99, s_233_100, s_233_101, s_233_104, s_233_107, s_233_108, s_233_109, s_233_110, s_233_111, s_233_114, s_233_115, s_233_116, s_233_119, s_233_122, s_233_123, s_233_124, s_233_125, s_233_126, s_233_129, s_233_130, s_233_133, s_233_136, s_233_137, s_233_140, s_233_141, s_233_142, s_233_143, s_233_144, s_233_145, s_233_146, s_233_149, s_233_152, s_233_153, s_233_154, s_233_157, s_233_158, s_233_159, s_233_162, s_233_163, s_233_166, s_233_169, s_233_170, s_233_173, s_233_174, s_233_175, s_233_176, s_233_179, s_233_180, s_233_181, s_233_182, s_233_185, s_233_186, s_233_189, s_233_192, s_233_195, s_233_198, s_233_199, s_233_200, s_233_203, s_233_204, s_233_205, s_233_206, s_233_207, s_233_208, s_233_209, s_233_212, s_233_213, s_233_214, s_233_215, s_233_216, s_233_217, s_233_220, s_233_221, s_233_222, s_233_223, s_233_226, e_233, mv_i_1, mv_l_1, mv_a_1, mv_a_2, mv_a_3, mk2_n, mk2_i, mk2_l, mk2_a, mk2_u, mk2_x, mB_T, mB_F, mS_cons, mS_nil, mSB_T, mSB_F, mca_nil, mca_i, mca_l, mca_r, mca_u, mca_x, mcat_i, mcat_l, mcat_r, mcat_u, mcat_x, mK_some, mK_none, va_rf_s, va_rf_n, lgc_eq, lgc_lt, lgc_gt, lgc_ge, lgc_le, mrd_104, mrd_105, mrd_106, mrd_107, true_and, and_true, and_self, false_and, and_false, true_or, or_true, false_or, or_false, not_true_eq_false, not_false_eq_true, mgb, mga, mgr, mN, reduceCtorEq, ↓reduceIte, eq_self, ge_iff_le, gt_iff_lt, Nat.reduceAdd, Nat.reduceMul, Nat.reduceSub, Nat.reduceLT, Nat.reduceGT, Nat.reduceEqDiff, Nat.reduceLeDiff, Nat.left_eq_add, Nat.add_eq_left, Nat.reduceMod, Nat.reduceDiv, Nat.succ_ne_self, aS_g, aS_i, aS_k, aS_n, aS_r, aS_l, g, r0, r1, gK1, gK2, lK, gV, lV, nK, nV, nn_mxT, nn_clamp, n1, t12, k12, c1, show (Int32.ofNat 12 = 12) = True by decide]
  · by_cases k13 : tK n = 13
    · obtain ⟨w1, w2⟩ := w_13 k13 w
      rw [ev_13 k13]
      have hK' : RK (aS h o al lo hi) N (some A) := RK_aS g H.k
      have gN : mg h N 13 := (RK_ko H.k).1
      obtain ⟨y1, p1, p2⟩ := k_283 (d := e + 3) hK' H.T w2
      obtain ⟨y2, q1, q2⟩ := k_284 (d := e + 3) hK' H.T.t w2
      have sl := fun Q' => c_229 (d := e + 5) (Q := Q') (al := al) (lo := lo) (hi := hi) H (show k < 26000 by omega) n2 w1
      refine ⟨true, y1, y2, ⟨rfl, p1, q1⟩, fun Q => ?_⟩
      rw [i32_or0, k1']
      simp (disch := omega) only [s_233_0, s_233_1, s_233_4, s_233_5, s_233_6, s_233_40, s_233_41, s_233_42, s_233_45, s_233_46, s_233_47, s_233_48, s_233_49, s_233_52, s_233_53, s_233_54, s_233_55, s_233_58, s_233_59, s_233_60, s_233_61, s_233_64, s_233_65, s_233_66, s_233_67, s_233_70, s_233_71, s_233_74, s_233_75, s_233_78, s_233_79, s_233_82, s_233_85, s_233_86, s_233_87, s_233_88, s_233_89, s_233_90, s_233_91, s_233_92, s_233_93, s_233_96, s_233_99, s_233_100, s_233_101, s_233_104, s_233_107, s_233_108, s_233_109, s_233_110, s_233_111, s_233_114, s_233_115, s_233_116, s_233_119, s_233_122, s_233_123, s_233_124, s_233_125, s_233_126, s_233_129, s_233_130, s_233_133, s_233_136, s_233_137, s_233_140, s_233_141, s_233_142, s_233_143, s_233_144, s_233_145, s_233_146, s_233_149, s_233_152, s_233_153, s_233_154, s_233_157, s_233_158, s_233_159, s_233_162, s_233_163, s_233_166, s_233_169, s_233_170, s_233_173, s_233_174, s_233_175, s_233_176, s_233_179, s_233_180, s_233_181, s_233_182, s_233_185, s_233_186, s_233_189, s_233_192, s_233_195, s_233_198, s_233_199, s_233_200, s_233_203, s_233_204, s_233_205, s_233_206, s_233_207, s_233_208, s_233_209, s_233_212, s_233_213, s_233_214, s_233_215, s_233_216, s_233_217, s_233_220, s_233_221, s_233_222, s_233_223, s_233_226, e_233, mv_i_1, mv_l_1, mv_a_1, mv_a_2, mv_a_3, mk2_n, mk2_i, mk2_l, mk2_a, mk2_u, mk2_x, mB_T, mB_F, mS_cons, mS_nil, mSB_T, mSB_F, mca_nil, mca_i, mca_l, mca_r, mca_u, mca_x, mcat_i, mcat_l, mcat_r, mcat_u, mcat_x, mK_some, mK_none, va_rf_s, va_rf_n, lgc_eq, lgc_lt, lgc_gt, lgc_ge, lgc_le, mrd_104, mrd_105, mrd_106, mrd_107, true_and, and_true, and_self, false_and, and_false, true_or, or_true, false_or, or_false, not_true_eq_false, not_false_eq_true, mgb, mga, mgr, mN, reduceCtorEq, ↓reduceIte, eq_self, ge_iff_le, gt_iff_lt, Nat.reduceAdd, Nat.reduceMul, Nat.reduceSub, Nat.reduceLT, Nat.reduceGT, Nat.reduceEqDiff, Nat.reduceLeDiff, Nat.left_eq_add, Nat.add_eq_left, Nat.reduceMod, Nat.reduceDiv, Nat.succ_ne_self, aS_g, aS_i, aS_k, aS_n, aS_r, aS_l, g, r0, r23, gN, gK1, gK2, lK, nK, nn_mxT, nn_clamp, n1, t12, t13, k12, k13, sl, p2, q2, c1, show (Int32.ofNat 13 = 12) = False by decide, show (Int32.ofNat 13 = 13) = True by decide]
    · by_cases k14 : tK n = 14
      · obtain ⟨m, cs', r', rfl, v1, v2, v3, v4, v5, v6⟩ := w_14 k14 w
        rw [ev_14 (cs := cs') k14]
        have n4' := n4
        rw [nd_B] at n4'
        obtain ⟨m1, m2, m3, m4, m5⟩ := n4'
        rw [v1] at m5
        rw [ts_B, v1] at hk
        have htt := th_tT (.branch m cs' r')
        have i1' : R0 h o K V Z A sN en r' := i1
        obtain ⟨f, l, u, q1, q2⟩ := r_234 (d := e + 5) (al := al) (lo := lo) (hi := hi) H i1' (k1 := k + 1) (k2 := k + 2) (by have : tT (.branch m cs' r') = r' := rfl; rw [this] at htt; omega) (by omega) m2 v2 v3 v5 m5 (by omega) v6
        have hK : KM h N A := H.k
        obtain ⟨s1, s2, s3, s4, s5, s6, s7, s8, s9, s10, s11, s12, s13⟩ := hK.s
        have a6 := hK.a6
        have n2' : ¬ N + 2 = o := fun z => by have := s6.1; have := g.1; rw [z] at *; omega
        have n3' : ¬ N + 3 = o := fun z => by have := s9.1; have := g.1; rw [z] at *; omega
        have sl := fun al' (l' u' : Int64) Q' => c_229 (d := e + 5) (Q := Q') (al := al') (lo := l') (hi := u') H (show k + 1 < 26000 by omega) m2 v2
        -- the same alarms, the array's range in the place of the places'
        have al2 : (e_bi (ev en A r' none) (e_cell A (en (tV m)))).2 = (e_bi (ev en A r' none) (e_pl A (en (tV m)))).2 := by
          unfold e_bi
          cases (ev en A r' none).1 with
          | none => rfl
          | some p => rfl
        rw [al2]
        cases f with
        | false =>
          have qn := eR_n q1 rfl
          have q3 : (e_bi (ev en A r' none) (e_cell A (en (tV m)))).1 = none := by
            unfold e_bi at qn ⊢
            cases hx : (ev en A r' none).1 with
            | none => rfl
            | some p =>
              rw [hx] at qn
              unfold e_al e_pl at qn
              unfold e_al e_cell
              dsimp only at qn ⊢
              split at qn
              · cases qn
              · next c => rw [if_neg c]
          refine ⟨false, l, u, by unfold eR; rw [q3], fun Q => ?_⟩
          rw [k0'] at q2 ⊢
          simp (disch := omega) only [s_233_0, s_233_1, s_233_4, s_233_5, s_233_6, s_233_40, s_233_41, s_233_42, s_233_45, s_233_46, s_233_47, s_233_48, s_233_49, s_233_52, s_233_53, s_233_54, s_233_55, s_233_58, s_233_59, s_233_60, s_233_61, s_233_64, s_233_65, s_233_66, s_233_67, s_233_70, s_233_71, s_233_74, s_233_75, s_233_78, s_233_79, s_233_82, s_233_85, s_233_86, s_233_87, s_233_88, s_233_89, s_233_90, s_233_91, s_233_92, s_233_93, s_233_96, s_233_99, s_233_100, s_233_101, s_233_104, s_233_107, s_233_108, s_233_109, s_233_110, s_233_111, s_233_114, s_233_115, s_233_116, s_233_119, s_233_122, s_233_123, s_233_124, s_233_125, s_233_126, s_233_129, s_233_130, s_233_133, s_233_136, s_233_137, s_233_140, s_233_141, s_233_142, s_233_143, s_233_144, s_233_145, s_233_146, s_233_149, s_233_152, s_233_153, s_233_154, s_233_157, s_233_158, s_233_159, s_233_162, s_233_163, s_233_166, s_233_169, s_233_170, s_233_173, s_233_174, s_233_175, s_233_176, s_233_179, s_233_180, s_233_181, s_233_182, s_233_185, s_233_186, s_233_189, s_233_192, s_233_195, s_233_198, s_233_199, s_233_200, s_233_203, s_233_204, s_233_205, s_233_206, s_233_207, s_233_208, s_233_209, s_233_212, s_233_213, s_233_214, s_233_215, s_233_216, s_233_217, s_233_220, s_233_221, s_233_222, s_233_223, s_233_226, e_233, mv_i_1, mv_l_1, mv_a_1, mv_a_2, mv_a_3, mk2_n, mk2_i, mk2_l, mk2_a, mk2_u, mk2_x, mB_T, mB_F, mS_cons, mS_nil, mSB_T, mSB_F, mca_nil, mca_i, mca_l, mca_r, mca_u, mca_x, mcat_i, mcat_l, mcat_r, mcat_u, mcat_x, mK_some, mK_none, va_rf_s, va_rf_n, lgc_eq, lgc_lt, lgc_gt, lgc_ge, lgc_le, mrd_104, mrd_105, mrd_106, mrd_107, true_and, and_true, and_self, false_and, and_false, true_or, or_true, false_or, or_false, not_true_eq_false, not_false_eq_true, mgb, mga, mgr, mN, reduceCtorEq, ↓reduceIte, eq_self, ge_iff_le, gt_iff_lt, Nat.reduceAdd, Nat.reduceMul, Nat.reduceSub, Nat.reduceLT, Nat.reduceGT, Nat.reduceEqDiff, Nat.reduceLeDiff, Nat.left_eq_add, Nat.add_eq_left, Nat.reduceMod, Nat.reduceDiv, Nat.succ_ne_self, aS_g, aS_i, aS_k, aS_n, aS_r, aS_l, g, r0, gK1, gK2, lK, nK, nn_mxT, nn_clamp, n1, t12, t13, t14, k12, k13, k14, ei, ei2, q2, e00, show (Int32.ofNat 14 = 12) = False by decide, show (Int32.ofNat 14 = 13) = False by decide, show (Int32.ofNat 14 = 14) = True by decide]
        | true =>
          obtain ⟨x, y, qs, -, -⟩ := eR_s q1 rfl
          have q3 : (e_bi (ev en A r' none) (e_cell A (en (tV m)))).1 = some (A.lo (en (tV m)), A.hi (en (tV m))) := by
            obtain ⟨a, b, h1, h2⟩ := e_bi_s qs
            unfold e_bi
            rw [h1]
            unfold e_pl at h2
            unfold e_al e_cell
            dsimp only at h2 ⊢
            split at h2
            · next c => rw [if_pos c]
            · cases h2
          refine ⟨true, mh_j h (N + 2) (en (tV m)), mh_j h (N + 3) (en (tV m)), by unfold eR; rw [q3]; exact ⟨rfl, hK.lo _ v3, hK.hi _ v3⟩, fun Q => ?_⟩
          rw [k1'] at q2 ⊢
          simp (disch := omega) only [s_233_0, s_233_1, s_233_4, s_233_5, s_233_6, s_233_40, s_233_41, s_233_42, s_233_45, s_233_46, s_233_47, s_233_48, s_233_49, s_233_52, s_233_53, s_233_54, s_233_55, s_233_58, s_233_59, s_233_60, s_233_61, s_233_64, s_233_65, s_233_66, s_233_67, s_233_70, s_233_71, s_233_74, s_233_75, s_233_78, s_233_79, s_233_82, s_233_85, s_233_86, s_233_87, s_233_88, s_233_89, s_233_90, s_233_91, s_233_92, s_233_93, s_233_96, s_233_99, s_233_100, s_233_101, s_233_104, s_233_107, s_233_108, s_233_109, s_233_110, s_233_111, s_233_114, s_233_115, s_233_116, s_233_119, s_233_122, s_233_123, s_233_124, s_233_125, s_233_126, s_233_129, s_233_130, s_233_133, s_233_136, s_233_137, s_233_140, s_233_141, s_233_142, s_233_143, s_233_144, s_233_145, s_233_146, s_233_149, s_233_152, s_233_153, s_233_154, s_233_157, s_233_158, s_233_159, s_233_162, s_233_163, s_233_166, s_233_169, s_233_170, s_233_173, s_233_174, s_233_175, s_233_176, s_233_179, s_233_180, s_233_181, s_233_182, s_233_185, s_233_186, s_233_189, s_233_192, s_233_195, s_233_198, s_233_199, s_233_200, s_233_203, s_233_204, s_233_205, s_233_206, s_233_207, s_233_208, s_233_209, s_233_212, s_233_213, s_233_214, s_233_215, s_233_216, s_233_217, s_233_220, s_233_221, s_233_222, s_233_223, s_233_226, e_233, mv_i_1, mv_l_1, mv_a_1, mv_a_2, mv_a_3, mk2_n, mk2_i, mk2_l, mk2_a, mk2_u, mk2_x, mB_T, mB_F, mS_cons, mS_nil, mSB_T, mSB_F, mca_nil, mca_i, mca_l, mca_r, mca_u, mca_x, mcat_i, mcat_l, mcat_r, mcat_u, mcat_x, mK_some, mK_none, va_rf_s, va_rf_n, lgc_eq, lgc_lt, lgc_gt, lgc_ge, lgc_le, mrd_104, mrd_105, mrd_106, mrd_107, true_and, and_true, and_self, false_and, and_false, true_or, or_true, false_or, or_false, not_true_eq_false, not_false_eq_true, mgb, mga, mgr, mN, reduceCtorEq, ↓reduceIte, eq_self, ge_iff_le, gt_iff_lt, Nat.reduceAdd, Nat.reduceMul, Nat.reduceSub, Nat.reduceLT, Nat.reduceGT, Nat.reduceEqDiff, Nat.reduceLeDiff, Nat.left_eq_add, Nat.add_eq_left, Nat.reduceMod, Nat.reduceDiv, Nat.succ_ne_self, aS_g, aS_i, aS_j, aS_k, aS_n, aS_r, aS_l, g, r0, r23, s1, s5, s6, s7, s8, s9, s10, n2', n3', gK1, gK2, lK, nK, nn_mxT, nn_clamp, n1, t12, t13, t14, k12, k13, k14, ei, ei2, q2, e10, sl, c1, show (Int32.ofNat 14 = 12) = False by decide, show (Int32.ofNat 14 = 13) = False by decide, show (Int32.ofNat 14 = 14) = True by decide]
      · by_cases k15 : tK n = 15
        · have w' := w_15 k15 w
          rw [ev_15 k15]
          obtain ⟨f, l, u, q1, q2⟩ := i0 (e + 5) (k + 1) al lo hi (by omega) n4 (by omega) w'
          cases f with
          | false =>
            have qn := eR_n q1 rfl
            rw [e_bi_n qn]
            refine ⟨false, l, u, rfl, fun Q => ?_⟩
            rw [k0'] at q2 ⊢
            simp (disch := omega) only [s_233_0, s_233_1, s_233_4, s_233_5, s_233_6, s_233_40, s_233_41, s_233_42, s_233_45, s_233_46, s_233_47, s_233_48, s_233_49, s_233_52, s_233_53, s_233_54, s_233_55, s_233_58, s_233_59, s_233_60, s_233_61, s_233_64, s_233_65, s_233_66, s_233_67, s_233_70, s_233_71, s_233_74, s_233_75, s_233_78, s_233_79, s_233_82, s_233_85, s_233_86, s_233_87, s_233_88, s_233_89, s_233_90, s_233_91, s_233_92, s_233_93, s_233_96, s_233_99, s_233_100, s_233_101, s_233_104, s_233_107, s_233_108, s_233_109, s_233_110, s_233_111, s_233_114, s_233_115, s_233_116, s_233_119, s_233_122, s_233_123, s_233_124, s_233_125, s_233_126, s_233_129, s_233_130, s_233_133, s_233_136, s_233_137, s_233_140, s_233_141, s_233_142, s_233_143, s_233_144, s_233_145, s_233_146, s_233_149, s_233_152, s_233_153, s_233_154, s_233_157, s_233_158, s_233_159, s_233_162, s_233_163, s_233_166, s_233_169, s_233_170, s_233_173, s_233_174, s_233_175, s_233_176, s_233_179, s_233_180, s_233_181, s_233_182, s_233_185, s_233_186, s_233_189, s_233_192, s_233_195, s_233_198, s_233_199, s_233_200, s_233_203, s_233_204, s_233_205, s_233_206, s_233_207, s_233_208, s_233_209, s_233_212, s_233_213, s_233_214, s_233_215, s_233_216, s_233_217, s_233_220, s_233_221, s_233_222, s_233_223, s_233_226, e_233, mv_i_1, mv_l_1, mv_a_1, mv_a_2, mv_a_3, mk2_n, mk2_i, mk2_l, mk2_a, mk2_u, mk2_x, mB_T, mB_F, mS_cons, mS_nil, mSB_T, mSB_F, mca_nil, mca_i, mca_l, mca_r, mca_u, mca_x, mcat_i, mcat_l, mcat_r, mcat_u, mcat_x, mK_some, mK_none, va_rf_s, va_rf_n, lgc_eq, lgc_lt, lgc_gt, lgc_ge, lgc_le, mrd_104, mrd_105, mrd_106, mrd_107, true_and, and_true, and_self, false_and, and_false, true_or, or_true, false_or, or_false, not_true_eq_false, not_false_eq_true, mgb, mga, mgr, mN, reduceCtorEq, ↓reduceIte, eq_self, ge_iff_le, gt_iff_lt, Nat.reduceAdd, Nat.reduceMul, Nat.reduceSub, Nat.reduceLT, Nat.reduceGT, Nat.reduceEqDiff, Nat.reduceLeDiff, Nat.left_eq_add, Nat.add_eq_left, Nat.reduceMod, Nat.reduceDiv, Nat.succ_ne_self, aS_g, aS_i, aS_k, aS_n, aS_r, aS_l, g, r0, gK1, gK2, lK, nK, nn_mxT, nn_clamp, n1, t12, t13, t14, t15, k12, k13, k14, k15, ei, q2, e00, show (Int32.ofNat 15 = 12) = False by decide, show (Int32.ofNat 15 = 13) = False by decide, show (Int32.ofNat 15 = 14) = False by decide, show (Int32.ofNat 15 = 15) = True by decide]
          | true =>
            obtain ⟨x, y, qs, qx, qy⟩ := eR_s q1 rfl
            obtain ⟨b1, b2, b3⟩ := (ev_in H.T _).1 w' x y qs
            rw [e_bi_y qs]
            unfold iI at b1 b2
            have en1 : e_ints (-y) (-x) = e_ints (-u).toInt (-l).toInt := by rw [i64_n (by omega), i64_n (by omega), qx, qy]
            rw [en1]
            obtain ⟨f2, l2, u2, s1, s2⟩ := r_232 (d := e + 5) (al := al ||| (ev en A cs none).2) (lo := l) (hi := u) (x := -u) (y := -l) g
            refine ⟨f2, l2, u2, eR_al s1, fun Q => ?_⟩
            have e2 : (e_al (ev en A cs none).2 (e_ints (-u).toInt (-l).toInt)).2 = (ev en A cs none).2 ||| (e_ints (-u).toInt (-l).toInt).2 := rfl
            rw [e2, ← i32_ora]
            rw [k1'] at q2
            cases f2
            · rw [k0'] at s2 ⊢
              simp (disch := omega) only [s_233_0, s_233_1, s_233_4, s_233_5, s_233_6, s_233_40, s_233_41, s_233_42, s_233_45, s_233_46, s_233_47, s_233_48, s_233_49, s_233_52, s_233_53, s_233_54, s_233_55, s_233_58, s_233_59, s_233_60, s_233_61, s_233_64, s_233_65, s_233_66, s_233_67, s_233_70, s_233_71, s_233_74, s_233_75, s_233_78, s_233_79, s_233_82, s_233_85, s_233_86, s_233_87, s_233_88, s_233_89, s_233_90, s_233_91, s_233_92, s_233_93, s_233_96, s_233_99, s_233_100, s_233_101, s_233_104, s_233_107, s_233_108, s_233_109, s_233_110, s_233_111, s_233_114, s_233_115, s_233_116, s_233_119, s_233_122, s_233_123, s_233_124, s_233_125, s_233_126, s_233_129, s_233_130, s_233_133, s_233_136, s_233_137, s_233_140, s_233_141, s_233_142, s_233_143, s_233_144, s_233_145, s_233_146, s_233_149, s_233_152, s_233_153, s_233_154, s_233_157, s_233_158, s_233_159, s_233_162, s_233_163, s_233_166, s_233_169, s_233_170, s_233_173, s_233_174, s_233_175, s_233_176, s_233_179, s_233_180, s_233_181, s_233_182, s_233_185, s_233_186, s_233_189, s_233_192, s_233_195, s_233_198, s_233_199, s_233_200, s_233_203, s_233_204, s_233_205, s_233_206, s_233_207, s_233_208, s_233_209, s_233_212, s_233_213, s_233_214, s_233_215, s_233_216, s_233_217, s_233_220, s_233_221, s_233_222, s_233_223, s_233_226, e_233, mv_i_1, mv_l_1, mv_a_1, mv_a_2, mv_a_3, mk2_n, mk2_i, mk2_l, mk2_a, mk2_u, mk2_x, mB_T, mB_F, mS_cons, mS_nil, mSB_T, mSB_F, mca_nil, mca_i, mca_l, mca_r, mca_u, mca_x, mcat_i, mcat_l, mcat_r, mcat_u, mcat_x, mK_some, mK_none, va_rf_s, va_rf_n, lgc_eq, lgc_lt, lgc_gt, lgc_ge, lgc_le, mrd_104, mrd_105, mrd_106, mrd_107, true_and, and_true, and_self, false_and, and_false, true_or, or_true, false_or, or_false, not_true_eq_false, not_false_eq_true, mgb, mga, mgr, mN, reduceCtorEq, ↓reduceIte, eq_self, ge_iff_le, gt_iff_lt, Nat.reduceAdd, Nat.reduceMul, Nat.reduceSub, Nat.reduceLT, Nat.reduceGT, Nat.reduceEqDiff, Nat.reduceLeDiff, Nat.left_eq_add, Nat.add_eq_left, Nat.reduceMod, Nat.reduceDiv, Nat.succ_ne_self, aS_g, aS_i, aS_j, aS_k, aS_n, aS_r, aS_l, g, r0, gK1, gK2, lK, nK, nn_mxT, nn_clamp, n1, t12, t13, t14, t15, k12, k13, k14, k15, ei, q2, s2, e00, e10, show (Int32.ofNat 15 = 12) = False by decide, show (Int32.ofNat 15 = 13) = False by decide, show (Int32.ofNat 15 = 14) = False by decide, show (Int32.ofNat 15 = 15) = True by decide]
            · rw [k1'] at s2 ⊢
              simp (disch := omega) only [s_233_0, s_233_1, s_233_4, s_233_5, s_233_6, s_233_40, s_233_41, s_233_42, s_233_45, s_233_46, s_233_47, s_233_48, s_233_49, s_233_52, s_233_53, s_233_54, s_233_55, s_233_58, s_233_59, s_233_60, s_233_61, s_233_64, s_233_65, s_233_66, s_233_67, s_233_70, s_233_71, s_233_74, s_233_75, s_233_78, s_233_79, s_233_82, s_233_85, s_233_86, s_233_87, s_233_88, s_233_89, s_233_90, s_233_91, s_233_92, s_233_93, s_233_96, s_233_99, s_233_100, s_233_101, s_233_104, s_233_107, s_233_108, s_233_109, s_233_110, s_233_111, s_233_114, s_233_115, s_233_116, s_233_119, s_233_122, s_233_123, s_233_124, s_233_125, s_233_126, s_233_129, s_233_130, s_233_133, s_233_136, s_233_137, s_233_140, s_233_141, s_233_142, s_233_143, s_233_144, s_233_145, s_233_146, s_233_149, s_233_152, s_233_153, s_233_154, s_233_157, s_233_158, s_233_159, s_233_162, s_233_163, s_233_166, s_233_169, s_233_170, s_233_173, s_233_174, s_233_175, s_233_176, s_233_179, s_233_180, s_233_181, s_233_182, s_233_185, s_233_186, s_233_189, s_233_192, s_233_195, s_233_198, s_233_199, s_233_200, s_233_203, s_233_204, s_233_205, s_233_206, s_233_207, s_233_208, s_233_209, s_233_212, s_233_213, s_233_214, s_233_215, s_233_216, s_233_217, s_233_220, s_233_221, s_233_222, s_233_223, s_233_226, e_233, mv_i_1, mv_l_1, mv_a_1, mv_a_2, mv_a_3, mk2_n, mk2_i, mk2_l, mk2_a, mk2_u, mk2_x, mB_T, mB_F, mS_cons, mS_nil, mSB_T, mSB_F, mca_nil, mca_i, mca_l, mca_r, mca_u, mca_x, mcat_i, mcat_l, mcat_r, mcat_u, mcat_x, mK_some, mK_none, va_rf_s, va_rf_n, lgc_eq, lgc_lt, lgc_gt, lgc_ge, lgc_le, mrd_104, mrd_105, mrd_106, mrd_107, true_and, and_true, and_self, false_and, and_false, true_or, or_true, false_or, or_false, not_true_eq_false, not_false_eq_true, mgb, mga, mgr, mN, reduceCtorEq, ↓reduceIte, eq_self, ge_iff_le, gt_iff_lt, Nat.reduceAdd, Nat.reduceMul, Nat.reduceSub, Nat.reduceLT, Nat.reduceGT, Nat.reduceEqDiff, Nat.reduceLeDiff, Nat.left_eq_add, Nat.add_eq_left, Nat.reduceMod, Nat.reduceDiv, Nat.succ_ne_self, aS_g, aS_i, aS_j, aS_k, aS_n, aS_r, aS_l, g, r0, gK1, gK2, lK, nK, nn_mxT, nn_clamp, n1, t12, t13, t14, t15, k12, k13, k14, k15, ei, q2, s2, e00, e10, show (Int32.ofNat 15 = 12) = False by decide, show (Int32.ofNat 15 = 13) = False by decide, show (Int32.ofNat 15 = 14) = False by decide, show (Int32.ofNat 15 = 15) = True by decide]
        · by_cases k16 : tK n = 16
          · rcases w_16 k16 w with ⟨u, rfl⟩ | ⟨l, d1, g', d2, r3, rfl, v1, v2, v3, v4⟩
            · rw [ev_16 k16]
              have n3' : mh_i h Z k = 1 := n3
              refine ⟨true, -2147483648, 2147483647, ⟨rfl, lit_lo, lit_hi⟩, fun Q => ?_⟩
              rw [i32_or0, k1']
              simp (disch := omega) only [s_233_0, s_233_1, s_233_4, s_233_5, s_233_6, s_233_40, s_233_41, s_233_42, s_233_45, s_233_46, s_233_47, s_233_48, s_233_49, s_233_52, s_233_53, s_233_54, s_233_55, s_233_58, s_233_59, s_233_60, s_233_61, s_233_64, s_233_65, s_233_66, s_233_67, s_233_70, s_233_71, s_233_74, s_233_75, s_233_78, s_233_79, s_233_82, s_233_85, s_233_86, s_233_87, s_233_88, s_233_89, s_233_90, s_233_91, s_233_92, s_233_93, s_233_96, s_233_99, s_233_100, s_233_101, s_233_104, s_233_107, s_233_108, s_233_109, s_233_110, s_233_111, s_233_114, s_233_115, s_233_116, s_233_119, s_233_122, s_233_123, s_233_124, s_233_125, s_233_126, s_233_129, s_233_130, s_233_133, s_233_136, s_233_137, s_233_140, s_233_141, s_233_142, s_233_143, s_233_144, s_233_145, s_233_146, s_233_149, s_233_152, s_233_153, s_233_154, s_233_157, s_233_158, s_233_159, s_233_162, s_233_163, s_233_166, s_233_169, s_233_170, s_233_173, s_233_174, s_233_175, s_233_176, s_233_179, s_233_180, s_233_181, s_233_182, s_233_185, s_233_186, s_233_189, s_233_192, s_233_195, s_233_198, s_233_199, s_233_200, s_233_203, s_233_204, s_233_205, s_233_206, s_233_207, s_233_208, s_233_209, s_233_212, s_233_213, s_233_214, s_233_215, s_233_216, s_233_217, s_233_220, s_233_221, s_233_222, s_233_223, s_233_226, e_233, mv_i_1, mv_l_1, mv_a_1, mv_a_2, mv_a_3, mk2_n, mk2_i, mk2_l, mk2_a, mk2_u, mk2_x, mB_T, mB_F, mS_cons, mS_nil, mSB_T, mSB_F, mca_nil, mca_i, mca_l, mca_r, mca_u, mca_x, mcat_i, mcat_l, mcat_r, mcat_u, mcat_x, mK_some, mK_none, va_rf_s, va_rf_n, lgc_eq, lgc_lt, lgc_gt, lgc_ge, lgc_le, mrd_104, mrd_105, mrd_106, mrd_107, true_and, and_true, and_self, false_and, and_false, true_or, or_true, false_or, or_false, not_true_eq_false, not_false_eq_true, mgb, mga, mgr, mN, reduceCtorEq, ↓reduceIte, eq_self, ge_iff_le, gt_iff_lt, Nat.reduceAdd, Nat.reduceMul, Nat.reduceSub, Nat.reduceLT, Nat.reduceGT, Nat.reduceEqDiff, Nat.reduceLeDiff, Nat.left_eq_add, Nat.add_eq_left, Nat.reduceMod, Nat.reduceDiv, Nat.succ_ne_self, aS_g, aS_i, aS_k, aS_n, aS_r, aS_l, g, r0, r2, gK1, gK2, lK, gZ, lZ, nK, nZ, nn_mxT, nn_clamp, n1, n3', t12, t13, t14, t15, t16, k12, k13, k14, k15, k16, c1, show (Int32.ofNat 16 = 12) = False by decide, show (Int32.ofNat 16 = 13) = False by decide, show (Int32.ofNat 16 = 14) = False by decide, show (Int32.ofNat 16 = 15) = False by decide, show (Int32.ofNat 16 = 16) = True by decide]
            · rw [ev_16b k16]
              have n4' := n4
              rw [nd_B, nd_B] at n4'
              obtain ⟨m1, m2, m3, m4, m5, m6, -⟩ := n4'
              rw [v1] at m6
              rw [ts_B, ts_B] at hk
              have z1 : (Int32.ofNat (1 + ts (.branch l d1 (.branch g' d2 r3))) = 1) = False := by
                have := nn_eq (a := 1 + ts (.branch l d1 (.branch g' d2 r3))) (b := 1) (by rw [ts_B, ts_B]; omega) (by omega)
                refine Eq.trans this (eq_false ?_)
                rw [ts_B]; omega
              refine ⟨true, (mh_i h V (k + 1)).toInt64, (mh_i h V (k + 2)).toInt64, ⟨rfl, by rw [Int32.toInt_toInt64, m2], by rw [Int32.toInt_toInt64]; exact m6⟩, fun Q => ?_⟩
              rw [i32_or0, k1']
              simp (disch := omega) only [s_233_0, s_233_1, s_233_4, s_233_5, s_233_6, s_233_40, s_233_41, s_233_42, s_233_45, s_233_46, s_233_47, s_233_48, s_233_49, s_233_52, s_233_53, s_233_54, s_233_55, s_233_58, s_233_59, s_233_60, s_233_61, s_233_64, s_233_65, s_233_66, s_233_67, s_233_70, s_233_71, s_233_74, s_233_75, s_233_78, s_233_79, s_233_82, s_233_85, s_233_86, s_233_87, s_233_88, s_233_89, s_233_90, s_233_91, s_233_92, s_233_93, s_233_96, s_233_99, s_233_100, s_233_101, s_233_104, s_233_107, s_233_108, s_233_109, s_233_110, s_233_111, s_233_114, s_233_115, s_233_116, s_233_119, s_233_122, s_233_123, s_233_124, s_233_125, s_233_126, s_233_129, s_233_130, s_233_133, s_233_136, s_233_137, s_233_140, s_233_141, s_233_142, s_233_143, s_233_144, s_233_145, s_233_146, s_233_149, s_233_152, s_233_153, s_233_154, s_233_157, s_233_158, s_233_159, s_233_162, s_233_163, s_233_166, s_233_169, s_233_170, s_233_173, s_233_174, s_233_175, s_233_176, s_233_179, s_233_180, s_233_181, s_233_182, s_233_185, s_233_186, s_233_189, s_233_192, s_233_195, s_233_198, s_233_199, s_233_200, s_233_203, s_233_204, s_233_205, s_233_206, s_233_207, s_233_208, s_233_209, s_233_212, s_233_213, s_233_214, s_233_215, s_233_216, s_233_217, s_233_220, s_233_221, s_233_222, s_233_223, s_233_226, e_233, mv_i_1, mv_l_1, mv_a_1, mv_a_2, mv_a_3, mk2_n, mk2_i, mk2_l, mk2_a, mk2_u, mk2_x, mB_T, mB_F, mS_cons, mS_nil, mSB_T, mSB_F, mca_nil, mca_i, mca_l, mca_r, mca_u, mca_x, mcat_i, mcat_l, mcat_r, mcat_u, mcat_x, mK_some, mK_none, va_rf_s, va_rf_n, lgc_eq, lgc_lt, lgc_gt, lgc_ge, lgc_le, mrd_104, mrd_105, mrd_106, mrd_107, true_and, and_true, and_self, false_and, and_false, true_or, or_true, false_or, or_false, not_true_eq_false, not_false_eq_true, mgb, mga, mgr, mN, reduceCtorEq, ↓reduceIte, eq_self, ge_iff_le, gt_iff_lt, Nat.reduceAdd, Nat.reduceMul, Nat.reduceSub, Nat.reduceLT, Nat.reduceGT, Nat.reduceEqDiff, Nat.reduceLeDiff, Nat.left_eq_add, Nat.add_eq_left, Nat.reduceMod, Nat.reduceDiv, Nat.succ_ne_self, aS_g, aS_i, aS_k, aS_n, aS_r, aS_l, g, r0, r1, r2, gK1, gK2, lK, gV, lV, gZ, lZ, nK, nV, nZ, nn_mxT, nn_clamp, n1, n3, z1, ei, ei2, t12, t13, t14, t15, t16, k12, k13, k14, k15, k16, c1, show (Int32.ofNat 16 = 12) = False by decide, show (Int32.ofNat 16 = 13) = False by decide, show (Int32.ofNat 16 = 14) = False by decide, show (Int32.ofNat 16 = 15) = False by decide, show (Int32.ofNat 16 = 16) = True by decide]
          · obtain ⟨m, cs', r', rfl, w1, w2⟩ := w_17 ⟨k12, k13, k14, k15, k16⟩ w
            rw [ev_17 ⟨k12, k13, k14, k15, k16⟩]
            have n4' := n4
            rw [nd_B] at n4'
            obtain ⟨m1, m2, m3, m4, m5⟩ := n4'
            have htt := th_tT (.branch m cs' r')
            have tte : tT (.branch m cs' r') = r' := rfl
            rw [tte] at htt
            have i2' : R1 h o K V Z A sN en r' := i2
            rw [ts_B] at hk n3
            have m5a : k + 1 + 1 + ts cs' = k + 1 + (1 + ts cs') := by omega
            rw [m5a] at m5
            obtain ⟨f, l, u, q1, q2⟩ := i0 (e + 4) (k + 1) al lo hi (by omega) n4 (by rw [ts_B]; omega) w1
            have SW : ∀ Q, mcall (e + 6) 233 [.ref o, .int (Int32.ofNat k)] (aS h o al lo hi) Q = mcall (e + 5) 235 [.ref o, .int (Int32.ofNat k)] (aS h o al lo hi) (mK (e + 6) 233 Q 226 [some (.ref o), some (.int (Int32.ofNat k)), none] []) := fun Q => by
              simp (disch := omega) only [s_233_0, s_233_1, s_233_4, s_233_5, s_233_6, s_233_40, s_233_41, s_233_42, s_233_45, s_233_46, s_233_47, s_233_48, s_233_49, s_233_52, s_233_53, s_233_54, s_233_55, s_233_58, s_233_59, s_233_60, s_233_61, s_233_64, s_233_65, s_233_66, s_233_67, s_233_70, s_233_71, s_233_74, s_233_75, s_233_78, s_233_79, s_233_82, s_233_85, s_233_86, s_233_87, s_233_88, s_233_89, s_233_90, s_233_91, s_233_92, s_233_93, s_233_96, s_233_99, s_233_100, s_233_101, s_233_104, s_233_107, s_233_108, s_233_109, s_233_110, s_233_111, s_233_114, s_233_115, s_233_116, s_233_119, s_233_122, s_233_123, s_233_124, s_233_125, s_233_126, s_233_129, s_233_130, s_233_133, s_233_136, s_233_137, s_233_140, s_233_141, s_233_142, s_233_143, s_233_144, s_233_145, s_233_146, s_233_149, s_233_152, s_233_153, s_233_154, s_233_157, s_233_158, s_233_159, s_233_162, s_233_163, s_233_166, s_233_169, s_233_170, s_233_173, s_233_174, s_233_175, s_233_176, s_233_179, s_233_180, s_233_181, s_233_182, s_233_185, s_233_186, s_233_189, s_233_192, s_233_195, s_233_198, s_233_199, s_233_200, s_233_203, s_233_204, s_233_205, s_233_206, s_233_207, s_233_208, s_233_209, s_233_212, s_233_213, s_233_214, s_233_215, s_233_216, s_233_217, s_233_220, s_233_221, s_233_222, s_233_223, e_233, mv_i_1, mv_l_1, mv_a_1, mv_a_2, mv_a_3, mk2_n, mk2_i, mk2_l, mk2_a, mk2_u, mk2_x, mB_T, mB_F, mS_cons, mS_nil, mSB_T, mSB_F, mca_nil, mca_i, mca_l, mca_r, mca_u, mca_x, mcat_i, mcat_l, mcat_r, mcat_u, mcat_x, mK_some, mK_none, va_rf_s, va_rf_n, lgc_eq, lgc_lt, lgc_gt, lgc_ge, lgc_le, mrd_104, mrd_105, mrd_106, mrd_107, true_and, and_true, and_self, false_and, and_false, true_or, or_true, false_or, or_false, not_true_eq_false, not_false_eq_true, mgb, mga, mgr, mN, reduceCtorEq, ↓reduceIte, eq_self, ge_iff_le, gt_iff_lt, Nat.reduceAdd, Nat.reduceMul, Nat.reduceSub, Nat.reduceLT, Nat.reduceGT, Nat.reduceEqDiff, Nat.reduceLeDiff, Nat.left_eq_add, Nat.add_eq_left, Nat.reduceMod, Nat.reduceDiv, Nat.succ_ne_self, aS_g, aS_i, aS_k, aS_n, aS_r, aS_l, g, r0, gK1, gK2, lK, nK, nn_mxT, nn_clamp, n1, t12, t13, t14, t15, t16, k12, k13, k14, k15, k16]
            have END : ∀ (f' : Bool) (H' : mh_H) Q, mK (e + 6) 233 Q 226 [some (.ref o), some (.int (Int32.ofNat k)), none] [] (some (.int (kb f'))) H' = Q (some (.int (kb f'))) H' := fun f' H' Q => by
              simp only [s_233_0, s_233_1, s_233_4, s_233_5, s_233_6, s_233_40, s_233_41, s_233_42, s_233_45, s_233_46, s_233_47, s_233_48, s_233_49, s_233_52, s_233_53, s_233_54, s_233_55, s_233_58, s_233_59, s_233_60, s_233_61, s_233_64, s_233_65, s_233_66, s_233_67, s_233_70, s_233_71, s_233_74, s_233_75, s_233_78, s_233_79, s_233_82, s_233_85, s_233_86, s_233_87, s_233_88, s_233_89, s_233_90, s_233_91, s_233_92, s_233_93, s_233_96, s_233_99, s_233_100, s_233_101, s_233_104, s_233_107, s_233_108, s_233_109, s_233_110, s_233_111, s_233_114, s_233_115, s_233_116, s_233_119, s_233_122, s_233_123, s_233_124, s_233_125, s_233_126, s_233_129, s_233_130, s_233_133, s_233_136, s_233_137, s_233_140, s_233_141, s_233_142, s_233_143, s_233_144, s_233_145, s_233_146, s_233_149, s_233_152, s_233_153, s_233_154, s_233_157, s_233_158, s_233_159, s_233_162, s_233_163, s_233_166, s_233_169, s_233_170, s_233_173, s_233_174, s_233_175, s_233_176, s_233_179, s_233_180, s_233_181, s_233_182, s_233_185, s_233_186, s_233_189, s_233_192, s_233_195, s_233_198, s_233_199, s_233_200, s_233_203, s_233_204, s_233_205, s_233_206, s_233_207, s_233_208, s_233_209, s_233_212, s_233_213, s_233_214, s_233_215, s_233_216, s_233_217, s_233_220, s_233_221, s_233_222, s_233_223, s_233_226, e_233, mv_i_1, mv_l_1, mv_a_1, mv_a_2, mv_a_3, mk2_n, mk2_i, mk2_l, mk2_a, mk2_u, mk2_x, mB_T, mB_F, mS_cons, mS_nil, mSB_T, mSB_F, mca_nil, mca_i, mca_l, mca_r, mca_u, mca_x, mcat_i, mcat_l, mcat_r, mcat_u, mcat_x, mK_some, mK_none, va_rf_s, va_rf_n, lgc_eq, lgc_lt, lgc_gt, lgc_ge, lgc_le, mrd_104, mrd_105, mrd_106, mrd_107, true_and, and_true, and_self, false_and, and_false, true_or, or_true, false_or, or_false, not_true_eq_false, not_false_eq_true, mgb, mga, mgr, mN, reduceCtorEq, ↓reduceIte, eq_self, ge_iff_le, gt_iff_lt, kb_01]
            cases f with
            | false =>
              have qn := eR_n q1 rfl
              rw [e_bi_n qn]
              refine ⟨false, l, u, rfl, fun Q => ?_⟩
              refine (SW Q).trans (Eq.trans ?_ (END false _ Q))
              rw [k0'] at q2 ⊢
              simp (disch := omega) only [s_235_0, s_235_1, s_235_2, s_235_3, s_235_4, s_235_5, s_235_6, s_235_9, s_235_12, s_235_13, s_235_14, s_235_15, s_235_18, s_235_19, s_235_20, s_235_23, s_235_25, s_235_26, s_235_29, s_235_30, s_235_31, s_235_33, s_235_36, s_235_37, s_235_40, s_235_41, s_235_43, s_235_44, s_235_45, s_235_48, s_235_49, s_235_50, s_235_51, s_235_52, s_235_55, s_235_58, s_235_59, s_235_60, s_235_61, s_235_62, s_235_65, s_235_68, s_235_69, s_235_70, s_235_72, s_235_75, s_235_76, s_235_79, s_235_80, s_235_81, s_235_82, s_235_83, s_235_85, s_235_88, s_235_89, s_235_92, s_235_93, s_235_94, s_235_96, s_235_99, s_235_100, s_235_103, s_235_104, s_235_105, s_235_107, s_235_110, s_235_111, s_235_114, s_235_115, s_235_117, s_235_119, s_235_122, s_235_123, s_235_124, s_235_127, s_235_128, s_235_129, s_235_130, s_235_132, s_235_135, s_235_136, s_235_137, s_235_138, s_235_139, s_235_142, s_235_145, s_235_148, s_235_151, s_235_152, s_235_153, s_235_156, s_235_157, s_235_158, s_235_159, s_235_161, s_235_162, s_235_165, s_235_166, s_235_169, s_235_172, s_235_175, s_235_176, s_235_177, s_235_178, s_235_180, s_235_181, s_235_184, s_235_185, s_235_186, s_235_189, s_235_191, s_235_192, s_235_193, s_235_196, s_235_197, s_235_200, s_235_201, e_235, mv_i_1, mv_l_1, mv_a_1, mv_a_2, mv_a_3, mk2_n, mk2_i, mk2_l, mk2_a, mk2_u, mk2_x, mB_T, mB_F, mS_cons, mS_nil, mSB_T, mSB_F, mca_nil, mca_i, mca_l, mca_r, mca_u, mca_x, mcat_i, mcat_l, mcat_r, mcat_u, mcat_x, mK_some, mK_none, va_rf_s, va_rf_n, lgc_eq, lgc_lt, lgc_gt, lgc_ge, lgc_le, mrd_104, mrd_105, mrd_106, mrd_107, true_and, and_true, and_self, false_and, and_false, true_or, or_true, false_or, or_false, not_true_eq_false, not_false_eq_true, mgb, mga, mgr, mN, reduceCtorEq, ↓reduceIte, eq_self, ge_iff_le, gt_iff_lt, Nat.reduceAdd, Nat.reduceMul, Nat.reduceSub, Nat.reduceLT, Nat.reduceGT, Nat.reduceEqDiff, Nat.reduceLeDiff, Nat.left_eq_add, Nat.add_eq_left, Nat.reduceMod, Nat.reduceDiv, Nat.succ_ne_self, aS_g, g, ei, q2, e00]
            | true =>
              obtain ⟨x, y, qs, qx, qy⟩ := eR_s q1 rfl
              obtain ⟨b1, b2, b3⟩ := (ev_in H.T _).1 w1 x y qs
              rw [e_bi_y qs]
              rw [← qx, ← qy] at *
              rw [k1'] at q2
              have cA := fun al' (l' u' : Int64) Q' => c_228 (d := e + 4) (Q := Q') (al := al') (lo := l') (hi := u') H (show k + 1 < 26000 by omega) m3
              have tm13 : (Int32.ofNat (tK m) = 13) = (tK m = 13) := nn_eq (a := tK m) (b := 13) (by unfold tK; omega) (by omega)
              by_cases c13 : tK m = 13
              · obtain ⟨f3, l3, u3, v1, v2⟩ := i2' (e + 5) k (1 + (1 + ts cs' + ts r')) (k + 1 + (1 + ts cs')) (al ||| (ev en A (.branch m cs' r') none).2) l u (some (tV m)) (Int32.ofNat (k + 1)) none (by omega) m5 (by omega) (by omega) (by omega) n3 w2 b1 b2 b3 ⟨k + 1, by omega, rfl, m2, w_13 c13 w1⟩
                rw [if_pos c13]
                refine ⟨f3, l3, u3, v1, fun Q => ?_⟩
                refine (SW Q).trans (Eq.trans ?_ (END f3 _ Q))
                rw [show (e_al (ev en A (.branch m cs' r') none).2 (ev en A r' (some (l.toInt, u.toInt, some (tV m))))).2 = (ev en A (.branch m cs' r') none).2 ||| (ev en A r' (some (l.toInt, u.toInt, some (tV m)))).2 from rfl, ← i32_ora]
                refine Eq.trans ?_ (v2 _)
                simp (disch := omega) only [s_235_0, s_235_1, s_235_2, s_235_3, s_235_4, s_235_5, s_235_6, s_235_9, s_235_12, s_235_13, s_235_14, s_235_15, s_235_18, s_235_19, s_235_20, s_235_23, s_235_25, s_235_26, s_235_29, s_235_30, s_235_31, s_235_33, s_235_36, s_235_37, s_235_40, s_235_41, s_235_43, s_235_44, s_235_45, s_235_48, s_235_50, s_235_51, s_235_52, s_235_55, s_235_58, s_235_59, s_235_60, s_235_61, s_235_62, s_235_65, s_235_68, s_235_69, s_235_70, s_235_72, s_235_75, s_235_76, s_235_79, s_235_80, s_235_81, s_235_82, s_235_83, s_235_85, s_235_88, s_235_89, s_235_92, s_235_93, s_235_94, s_235_96, s_235_99, s_235_100, s_235_103, s_235_104, s_235_105, s_235_107, s_235_110, s_235_111, s_235_114, s_235_115, s_235_117, s_235_119, s_235_122, s_235_123, s_235_124, s_235_127, s_235_128, s_235_129, s_235_130, s_235_132, s_235_135, s_235_136, s_235_137, s_235_138, s_235_139, s_235_142, s_235_145, s_235_148, s_235_151, s_235_152, s_235_153, s_235_156, s_235_157, s_235_158, s_235_159, s_235_161, s_235_162, s_235_165, s_235_166, s_235_169, s_235_172, s_235_175, s_235_176, s_235_177, s_235_178, s_235_180, s_235_181, s_235_184, s_235_185, s_235_186, s_235_189, s_235_191, s_235_192, s_235_193, s_235_196, s_235_197, s_235_200, s_235_201, e_235, mv_i_1, mv_l_1, mv_a_1, mv_a_2, mv_a_3, mk2_n, mk2_i, mk2_l, mk2_a, mk2_u, mk2_x, mB_T, mB_F, mS_cons, mS_nil, mSB_T, mSB_F, mca_nil, mca_i, mca_l, mca_r, mca_u, mca_x, mcat_i, mcat_l, mcat_r, mcat_u, mcat_x, mK_some, mK_none, va_rf_s, va_rf_n, lgc_eq, lgc_lt, lgc_gt, lgc_ge, lgc_le, mrd_104, mrd_105, mrd_106, mrd_107, true_and, and_true, and_self, false_and, and_false, true_or, or_true, false_or, or_false, not_true_eq_false, not_false_eq_true, mgb, mga, mgr, mN, reduceCtorEq, ↓reduceIte, eq_self, ge_iff_le, gt_iff_lt, Nat.reduceAdd, Nat.reduceMul, Nat.reduceSub, Nat.reduceLT, Nat.reduceGT, Nat.reduceEqDiff, Nat.reduceLeDiff, Nat.left_eq_add, Nat.add_eq_left, Nat.reduceMod, Nat.reduceDiv, Nat.succ_ne_self, aS_g, aS_i, aS_j, aS_k, aS_n, aS_r, aS_l, g, r0, gK1, gK2, lK, nK, nn_mxT, nn_clamp, m1, ei, q2, e10, cA, tm13, c13, show (Int32.ofNat 13 = 13) = True by decide]
              · obtain ⟨f3, l3, u3, v1, v2⟩ := i2' (e + 5) k (1 + (1 + ts cs' + ts r')) (k + 1 + (1 + ts cs')) (al ||| (ev en A (.branch m cs' r') none).2) l u none (-1) none (by omega) m5 (by omega) (by omega) (by omega) n3 w2 b1 b2 b3 rfl
                rw [if_neg c13]
                refine ⟨f3, l3, u3, v1, fun Q => ?_⟩
                refine (SW Q).trans (Eq.trans ?_ (END f3 _ Q))
                rw [show (e_al (ev en A (.branch m cs' r') none).2 (ev en A r' (some (l.toInt, u.toInt, none)))).2 = (ev en A (.branch m cs' r') none).2 ||| (ev en A r' (some (l.toInt, u.toInt, none))).2 from rfl, ← i32_ora]
                refine Eq.trans ?_ (v2 _)
                simp (disch := omega) only [s_235_0, s_235_1, s_235_2, s_235_3, s_235_4, s_235_5, s_235_6, s_235_9, s_235_12, s_235_13, s_235_14, s_235_15, s_235_18, s_235_19, s_235_20, s_235_23, s_235_25, s_235_26, s_235_29, s_235_30, s_235_31, s_235_33, s_235_36, s_235_37, s_235_40, s_235_41, s_235_43, s_235_44, s_235_45, s_235_48, s_235_50, s_235_51, s_235_52, s_235_55, s_235_58, s_235_59, s_235_60, s_235_61, s_235_62, s_235_65, s_235_68, s_235_69, s_235_70, s_235_72, s_235_75, s_235_76, s_235_79, s_235_80, s_235_81, s_235_82, s_235_83, s_235_85, s_235_88, s_235_89, s_235_92, s_235_93, s_235_94, s_235_96, s_235_99, s_235_100, s_235_103, s_235_104, s_235_105, s_235_107, s_235_110, s_235_111, s_235_114, s_235_115, s_235_117, s_235_119, s_235_122, s_235_123, s_235_124, s_235_127, s_235_128, s_235_129, s_235_130, s_235_132, s_235_135, s_235_136, s_235_137, s_235_138, s_235_139, s_235_142, s_235_145, s_235_148, s_235_151, s_235_152, s_235_153, s_235_156, s_235_157, s_235_158, s_235_159, s_235_161, s_235_162, s_235_165, s_235_166, s_235_169, s_235_172, s_235_175, s_235_176, s_235_177, s_235_178, s_235_180, s_235_181, s_235_184, s_235_185, s_235_186, s_235_189, s_235_191, s_235_192, s_235_193, s_235_196, s_235_197, s_235_200, s_235_201, e_235, mv_i_1, mv_l_1, mv_a_1, mv_a_2, mv_a_3, mk2_n, mk2_i, mk2_l, mk2_a, mk2_u, mk2_x, mB_T, mB_F, mS_cons, mS_nil, mSB_T, mSB_F, mca_nil, mca_i, mca_l, mca_r, mca_u, mca_x, mcat_i, mcat_l, mcat_r, mcat_u, mcat_x, mK_some, mK_none, va_rf_s, va_rf_n, lgc_eq, lgc_lt, lgc_gt, lgc_ge, lgc_le, mrd_104, mrd_105, mrd_106, mrd_107, true_and, and_true, and_self, false_and, and_false, true_or, or_true, false_or, or_false, not_true_eq_false, not_false_eq_true, mgb, mga, mgr, mN, reduceCtorEq, ↓reduceIte, eq_self, ge_iff_le, gt_iff_lt, Nat.reduceAdd, Nat.reduceMul, Nat.reduceSub, Nat.reduceLT, Nat.reduceGT, Nat.reduceEqDiff, Nat.reduceLeDiff, Nat.left_eq_add, Nat.add_eq_left, Nat.reduceMod, Nat.reduceDiv, Nat.succ_ne_self, aS_g, aS_i, aS_j, aS_k, aS_n, aS_r, aS_l, g, r0, gK1, gK2, lK, nK, nn_mxT, nn_clamp, m1, ei, q2, e10, cA, tm13, c13]
/-- Analysis.range is ev -/
theorem r_233 (H : AH h o K V Z M S N T A sN en) : ∀ t, R0 h o K V Z A sN en t ∧ R1 h o K V Z A sN en t ∧ R0 h o K V Z A sN en (tT t) ∧ R1 h o K V Z A sN en (tT t) := by
  have L0 : ∀ u, R0 h o K V Z A sN en (.leaf u) := fun u d k al lo hi _ _ _ w => absurd w (fun z => z)
  intro t
  induction t with
  | leaf u => exact ⟨L0 u, R1_leaf H u, L0 u, R1_leaf H u⟩
  | branch n cs r ih1 ih2 => exact ⟨R0_br H ih1.1 ih1.2.2.1 ih1.2.2.2, R1_br H ih1.1 ih2.2.1, ih2.1, ih2.2.1⟩
end R0S
