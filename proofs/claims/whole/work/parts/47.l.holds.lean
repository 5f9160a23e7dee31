set_option maxRecDepth 100000
/-! the reference's holds, by the tree -/
/-- what a COND leaves -/
def uy (q : yr) (h : mh_H) (b : Bool) : Prop := mh_i h 81 67 = Int32.ofNat q.2.2 ∧ match q.1 with
  | none => (0 < q.2.1) ∧ mh_i h 81 68 = q.2.1
  | some z => mh_i h 81 68 = 0 ∧ b = z
section UHs
variable {d : Nat} {h h1 : mh_H} {p gv k k0 z c j D : Nat} {sN : Int → Prop} {en aR : Int → Nat} {A : ab} {V P N : Nat → Int32} {t : tr} {b an : Bool}
/-- reckon behind a trap -/
theorem c_360t (F : RF h) (e : 0 < mh_i h 81 68) : ∀ Q, mcall d 360 [.ref 81, .int (Int32.ofNat k)] h Q = Q (some (.long 0)) h := fun Q => by
  have g := F.g 81 14 70 (by decide +kernel)
  have t2 : (mh_i h 81 68 ≤ 0) = False := eq_false (fun z => by rw [Int32.le_iff_toInt_le] at z; rw [Int32.lt_iff_toInt_lt] at e; omega)
  clear F
  simp (disch := omega) only [s_360_0, s_360_1, s_360_4, s_360_7, s_360_8, s_360_9, s_360_10, s_360_13, s_360_14, s_360_15, s_360_48, s_360_49, s_360_52, s_360_53, s_360_54, s_360_55, s_360_56, s_360_57, s_360_60, s_360_61, s_360_64, s_360_65, s_360_66, s_360_69, s_360_70, s_360_71, s_360_74, s_360_75, s_360_76, s_360_77, s_360_78, s_360_79, s_360_80, s_360_81, s_360_82, s_360_83, s_360_84, s_360_87, s_360_90, s_360_91, s_360_92, s_360_95, s_360_98, s_360_99, s_360_102, s_360_103, s_360_106, s_360_107, s_360_108, s_360_109, s_360_110, s_360_111, s_360_112, s_360_113, s_360_114, s_360_115, s_360_118, s_360_119, s_360_122, s_360_123, s_360_124, s_360_127, s_360_128, s_360_129, s_360_132, s_360_133, s_360_134, s_360_135, s_360_138, s_360_139, s_360_140, s_360_143, s_360_144, s_360_145, s_360_146, s_360_147, s_360_150, s_360_151, s_360_152, s_360_155, s_360_156, s_360_157, s_360_158, s_360_159, s_360_162, s_360_163, s_360_164, s_360_167, s_360_168, s_360_171, s_360_172, s_360_173, s_360_174, s_360_175, s_360_176, s_360_177, s_360_178, s_360_179, s_360_180, s_360_181, s_360_184, s_360_185, s_360_186, s_360_187, s_360_190, s_360_192, s_360_194, s_360_195, s_360_196, s_360_199, s_360_202, s_360_203, s_360_206, s_360_209, s_360_210, s_360_212, s_360_213, s_360_214, s_360_217, s_360_219, s_360_220, s_360_223, s_360_226, s_360_227, s_360_228, s_360_231, s_360_233, s_360_234, s_360_235, s_360_237, s_360_240, s_360_241, s_360_242, s_360_244, s_360_247, s_360_249, s_360_252, s_360_253, e_360, mv_i_1, mv_l_1, mv_a_1, mv_a_2, mv_a_3, mk2_n, mk2_i, mk2_l, mk2_a, mk2_u, mk2_x, mB_T, mB_F, mS_cons, mS_nil, mSB_T, mSB_F, mca_nil, mca_i, mca_l, mca_r, mca_u, mca_x, mcat_i, mcat_l, mcat_r, mcat_u, mcat_x, mK_some, mK_none, va_rf_s, va_rf_n, lgc_eq, lgc_lt, lgc_gt, lgc_ge, lgc_le, mrd_104, mrd_105, mrd_106, mrd_107, true_and, and_true, and_self, false_and, and_false, true_or, or_true, false_or, or_false, not_true_eq_false, not_false_eq_true, mgb, mga, mgr, mN, reduceCtorEq, ↓reduceIte, eq_self, ge_iff_le, gt_iff_lt, hk_si, hk_sj, hk_sr, hl_si, hl_sj, hl_sr, hn_si, hn_sj, hn_sr, hs_si, hs_sj, hs_sr, hi_sj, hi_sr, hj_si, hj_sr, hr_si, hr_sj, hi_si, hj_sj, hr_sr, mg_si, mg_sj, mg_sr, Nat.reduceAdd, Nat.reduceMul, Nat.reduceSub, Nat.reduceLT, Nat.reduceGT, Nat.reduceEqDiff, Nat.reduceLeDiff, Nat.left_eq_add, Nat.add_eq_left, Nat.reduceMod, Nat.reduceDiv, Nat.succ_ne_self, g, t2]
def UH (p gv : Nat) (sN : Int → Prop) (en aR : Int → Nat) (A : ab) (V P N : Nat → Int32) (t : tr) : Prop := ∀ (h : mh_H) (D k c : Nat), RRU h p gv sN en aR → mh_i h 2640 = V → mh_i h 2641 = P → mh_i h 2639 = N → nd (mh_i h 93) (mh_i h 95) (mh_i h 97) k t → wC sN en A t false → xA aR en A.rm t → k + ts t ≤ 26000 → 2 * th t + 3 ≤ D → mh_i h 81 68 = 0 → mh_i h 81 67 = Int32.ofNat c → c + ts t < 1000000000 → ∃ h' b, fG rcW h h' ∧ uy (xh en V P A.rm N gv t false false c) h' b ∧ ∀ Q, mcall D 362 [.ref 81, .int (Int32.ofNat k)] h Q = Q (some (.int (kb b))) h'
def UL (p gv : Nat) (sN : Int → Prop) (en aR : Int → Nat) (A : ab) (V P N : Nat → Int32) (t : tr) : Prop := ∀ (h : mh_H) (D k0 k z c : Nat) (an : Bool) (x4 x5 x6 : Option Value), RRU h p gv sN en aR → mh_i h 2640 = V → mh_i h 2641 = P → mh_i h 2639 = N → nd (mh_i h 93) (mh_i h 95) (mh_i h 97) k t → wC sN en A t true → xA aR en A.rm t → k + ts t ≤ 26000 → mh_i h 97 k0 = Int32.ofNat z → k0 + z = k + ts t → k0 < k → 2 * th t + 4 ≤ D → mh_i h 81 68 = 0 → mh_i h 81 67 = Int32.ofNat c → c + ts t < 1000000000 → ∃ h' b, fG rcW h h' ∧ uy (xh en V P A.rm N gv t true an c) h' b ∧ ∀ Q, mw D 362 Q 79 [some (.ref 81), some (.int (Int32.ofNat k0)), some (.int (kb an)), some (.int (Int32.ofNat k)), x4, x5, x6] [] h = Q (some (.int (kb b))) h'
/-- how many inputs are asked for -/
theorem y_bi_c {q : yr} {f : Bool → Nat → yr} {c e : Nat} (h1 : q.2.2 ≤ c) (h2 : ∀ v, (f v q.2.2).2.2 ≤ q.2.2 + e) : (y_bi q f).2.2 ≤ c + e := by
  unfold y_bi
  cases q.1 with
  | none => show q.2.2 ≤ c + e; omega
  | some v => have := h2 v; show (f v q.2.2).2.2 ≤ c + e; omega
theorem y_v_c {q : xr} {f : Int → Nat → yr} {c e : Nat} (h1 : q.2.2 ≤ c) (h2 : ∀ v, (f v q.2.2).2.2 ≤ q.2.2 + e) : (y_v q f).2.2 ≤ c + e := by
  unfold y_v
  cases q.1 with
  | none => show q.2.2 ≤ c + e; omega
  | some v => have := h2 v; show (f v q.2.2).2.2 ≤ c + e; omega
theorem xh_c : ∀ t mo an c, (xh en V P A.rm N k t mo an c).2.2 ≤ c + (if mo = true then ts t else ts t - ts (tT t)) := by
  intro t
  induction t with
  | leaf u => exact fun mo an c => Nat.le_add_right _ _
  | branch n cs r i1 i2 =>
    have NODE : ∀ an c, (xh en V P A.rm N k (.branch n cs r) false an c).2.2 ≤ c + ts cs + 1 := fun an c => by
      by_cases k26 : tK n = 26
      · rw [xh_26 k26]
        have a := i1 false false c
        rw [if_neg (by decide)] at a
        have z := y_bi_c (f := fun b c' => ((some (!b), 0, c') : yr)) (e := 0) a (fun v => Nat.le_refl _)
        omega
      by_cases k25 : tK n = 24 ∨ tK n = 25
      · rw [xh_25 k25]
        have a := i1 true (decide (tK n = 25)) c
        rw [if_pos rfl] at a
        omega
      · have e : xh en V P A.rm N k (.branch n cs r) false an c = y_v (xv en V P A.rm N k cs none c) (fun v c' => y_v (xv en V P A.rm N k (tT cs) none c') (fun w c' => (some (x_rel (tK n) v w), 0, c'))) := by
          show (if tK n = 26 then _ else if tK n = 24 ∨ tK n = 25 then _ else _) = _
          rw [if_neg k26, if_neg k25]
        rw [e]
        obtain ⟨a1, -, a3, -⟩ := xv_c2 (en := en) (V := V) (P := P) (rm := A.rm) (N := N) (g := k) cs
        have z := y_v_c (f := fun v c' => y_v (xv en V P A.rm N k (tT cs) none c') (fun w c' => ((some (x_rel (tK n) v w), 0, c') : yr))) (e := ts (tT cs)) (a1 c) (fun v => by
          have y := y_v_c (f := fun w c' => ((some (x_rel (tK n) v w), 0, c') : yr)) (e := 0) (a3 (xv en V P A.rm N k cs none c).2.2) (fun w => Nat.le_refl _)
          show (y_v (xv en V P A.rm N k (tT cs) none _) _).2.2 ≤ _
          omega)
        have tl : ts (tT cs) ≤ ts cs := by
          cases cs with
          | leaf _ => exact Nat.le_refl _
          | branch x1 x2 x3 => rw [ts_B]; show ts x3 ≤ _; omega
        omega
    intro mo an c
    have eT : ts (tT (.branch n cs r)) = ts r := rfl
    cases mo with
    | false =>
      rw [if_neg (by decide), ts_B, eT]
      have := NODE an c
      omega
    | true =>
      rw [if_pos rfl, xh_L, ts_B]
      have z := y_bi_c (f := fun b c' => if b = an then xh en V P A.rm N k r true an c' else (some b, 0, c')) (e := ts r) (NODE an c) (fun v => by
        show (if v = an then _ else _ : yr).2.2 ≤ _
        split
        · have a := i2 true an (xh en V P A.rm N k (.branch n cs r) false an c).2.2
          rw [if_pos rfl] at a
          exact a
        · exact Nat.le_add_right _ _)
      omega
/-- the loop ends -/
theorem l_e (R : RRU h p gv sN en aR) (hz : mh_i h 97 k0 = Int32.ofNat z) (h0 : k0 < 26000) (hk : k ≤ k0 + z) (hb : k0 + z ≤ 26000) (e : ¬ mh_i h 81 68 = 0 ∨ k = k0 + z) {x4 x5 x6 : Option Value} : ∀ Q, mw (d + 2) 362 Q 79 [some (.ref 81), some (.int (Int32.ofNat k0)), some (.int (kb an)), some (.int (Int32.ofNat k)), x4, x5, x6] [] h = Q (some (.int (kb an))) h := fun Q => by
  have g := R.F.g 81 14 70 (by decide +kernel)
  have c333 := c_333 (d := d + 1) R.F h0 hz
  have k01 := kb_01 an
  clear R
  by_cases c : k = k0 + z
  · have le : (k0 + z ≤ k) = True := eq_true (by omega)
    simp (disch := omega) only [s_362_0, s_362_1, s_362_4, s_362_7, s_362_8, s_362_9, s_362_10, s_362_13, s_362_14, s_362_15, s_362_17, s_362_20, s_362_21, s_362_22, s_362_23, s_362_24, s_362_27, s_362_30, s_362_31, s_362_34, s_362_35, s_362_36, s_362_37, s_362_40, s_362_41, s_362_42, s_362_44, s_362_47, s_362_48, s_362_51, s_362_52, s_362_53, s_362_55, s_362_58, s_362_59, s_362_62, s_362_63, s_362_64, s_362_66, s_362_69, s_362_70, s_362_73, s_362_74, s_362_75, s_362_76, s_362_77, s_362_78, s_362_79, s_362_80, s_362_81, s_362_82, s_362_85, s_362_88, s_362_89, s_362_92, s_362_95, s_362_96, s_362_97, s_362_100, s_362_101, s_362_104, s_362_105, s_362_108, s_362_109, s_362_112, s_362_113, s_362_114, s_362_115, s_362_116, s_362_119, s_362_120, s_362_123, s_362_124, s_362_125, s_362_126, s_362_127, s_362_128, s_362_129, s_362_132, s_362_133, s_362_134, s_362_135, s_362_136, s_362_139, s_362_142, s_362_144, s_362_145, s_362_148, s_362_149, s_362_150, s_362_152, s_362_154, s_362_156, s_362_159, s_362_160, s_362_162, s_362_163, s_362_166, s_362_167, s_362_170, s_362_171, s_362_174, s_362_176, s_362_178, s_362_181, s_362_182, s_362_184, s_362_185, s_362_188, s_362_189, s_362_192, s_362_193, s_362_196, s_362_198, s_362_200, s_362_203, s_362_204, s_362_206, s_362_207, s_362_210, s_362_211, s_362_214, s_362_215, s_362_218, s_362_220, s_362_222, s_362_225, s_362_226, s_362_228, s_362_229, s_362_232, s_362_233, s_362_236, s_362_237, s_362_240, s_362_242, s_362_244, s_362_247, s_362_248, s_362_250, s_362_251, s_362_254, s_362_255, s_362_258, s_362_259, s_362_262, s_362_263, s_362_265, s_362_266, s_362_269, s_362_270, s_362_273, s_362_274, e_362, mv_i_1, mv_l_1, mv_a_1, mv_a_2, mv_a_3, mk2_n, mk2_i, mk2_l, mk2_a, mk2_u, mk2_x, mB_T, mB_F, mS_cons, mS_nil, mSB_T, mSB_F, mca_nil, mca_i, mca_l, mca_r, mca_u, mca_x, mcat_i, mcat_l, mcat_r, mcat_u, mcat_x, mK_some, mK_none, va_rf_s, va_rf_n, lgc_eq, lgc_lt, lgc_gt, lgc_ge, lgc_le, mrd_104, mrd_105, mrd_106, mrd_107, true_and, and_true, and_self, false_and, and_false, true_or, or_true, false_or, or_false, not_true_eq_false, not_false_eq_true, mgb, mga, mgr, mN, reduceCtorEq, ↓reduceIte, eq_self, ge_iff_le, gt_iff_lt, hk_si, hk_sj, hk_sr, hl_si, hl_sj, hl_sr, hn_si, hn_sj, hn_sr, hs_si, hs_sj, hs_sr, hi_sj, hi_sr, hj_si, hj_sr, hr_si, hr_sj, hi_si, hj_sj, hr_sr, mg_si, mg_sj, mg_sr, Nat.reduceAdd, Nat.reduceMul, Nat.reduceSub, Nat.reduceLT, Nat.reduceGT, Nat.reduceEqDiff, Nat.reduceLeDiff, Nat.left_eq_add, Nat.add_eq_left, Nat.reduceMod, Nat.reduceDiv, Nat.succ_ne_self, g, c333, nn_le, le, k01]
  · have le : (k0 + z ≤ k) = False := eq_false (by omega)
    have t0 : (mh_i h 81 68 = 0) = False := eq_false (e.resolve_right c)
    simp (disch := omega) only [s_362_0, s_362_1, s_362_4, s_362_7, s_362_8, s_362_9, s_362_10, s_362_13, s_362_14, s_362_15, s_362_17, s_362_20, s_362_21, s_362_22, s_362_23, s_362_24, s_362_27, s_362_30, s_362_31, s_362_34, s_362_35, s_362_36, s_362_37, s_362_40, s_362_41, s_362_42, s_362_44, s_362_47, s_362_48, s_362_51, s_362_52, s_362_53, s_362_55, s_362_58, s_362_59, s_362_62, s_362_63, s_362_64, s_362_66, s_362_69, s_362_70, s_362_73, s_362_74, s_362_75, s_362_76, s_362_77, s_362_78, s_362_79, s_362_80, s_362_81, s_362_82, s_362_85, s_362_88, s_362_89, s_362_92, s_362_95, s_362_96, s_362_97, s_362_100, s_362_101, s_362_104, s_362_105, s_362_108, s_362_109, s_362_112, s_362_113, s_362_114, s_362_115, s_362_116, s_362_119, s_362_120, s_362_123, s_362_124, s_362_125, s_362_126, s_362_127, s_362_128, s_362_129, s_362_132, s_362_133, s_362_134, s_362_135, s_362_136, s_362_139, s_362_142, s_362_144, s_362_145, s_362_148, s_362_149, s_362_150, s_362_152, s_362_154, s_362_156, s_362_159, s_362_160, s_362_162, s_362_163, s_362_166, s_362_167, s_362_170, s_362_171, s_362_174, s_362_176, s_362_178, s_362_181, s_362_182, s_362_184, s_362_185, s_362_188, s_362_189, s_362_192, s_362_193, s_362_196, s_362_198, s_362_200, s_362_203, s_362_204, s_362_206, s_362_207, s_362_210, s_362_211, s_362_214, s_362_215, s_362_218, s_362_220, s_362_222, s_362_225, s_362_226, s_362_228, s_362_229, s_362_232, s_362_233, s_362_236, s_362_237, s_362_240, s_362_242, s_362_244, s_362_247, s_362_248, s_362_250, s_362_251, s_362_254, s_362_255, s_362_258, s_362_259, s_362_262, s_362_263, s_362_265, s_362_266, s_362_269, s_362_270, s_362_273, s_362_274, e_362, mv_i_1, mv_l_1, mv_a_1, mv_a_2, mv_a_3, mk2_n, mk2_i, mk2_l, mk2_a, mk2_u, mk2_x, mB_T, mB_F, mS_cons, mS_nil, mSB_T, mSB_F, mca_nil, mca_i, mca_l, mca_r, mca_u, mca_x, mcat_i, mcat_l, mcat_r, mcat_u, mcat_x, mK_some, mK_none, va_rf_s, va_rf_n, lgc_eq, lgc_lt, lgc_gt, lgc_ge, lgc_le, mrd_104, mrd_105, mrd_106, mrd_107, true_and, and_true, and_self, false_and, and_false, true_or, or_true, false_or, or_false, not_true_eq_false, not_false_eq_true, mgb, mga, mgr, mN, reduceCtorEq, ↓reduceIte, eq_self, ge_iff_le, gt_iff_lt, hk_si, hk_sj, hk_sr, hl_si, hl_sj, hl_sr, hn_si, hn_sj, hn_sr, hs_si, hs_sj, hs_sr, hi_sj, hi_sr, hj_si, hj_sr, hr_si, hr_sj, hi_si, hj_sj, hr_sr, mg_si, mg_sj, mg_sr, Nat.reduceAdd, Nat.reduceMul, Nat.reduceSub, Nat.reduceLT, Nat.reduceGT, Nat.reduceEqDiff, Nat.reduceLeDiff, Nat.left_eq_add, Nat.add_eq_left, Nat.reduceMod, Nat.reduceDiv, Nat.succ_ne_self, g, c333, nn_le, le, t0, k01]
theorem UL_leaf (u : Unit) : UL p gv sN en aR A V P N (.leaf u) := by
  intro h D k0 k z c an x4 x5 x6 R _ _ _ _ _ _ hk hz e h0 hD e8 e7 _
  obtain ⟨d, rfl⟩ : ∃ d, D = d + 2 := ⟨D - 2, by omega⟩
  have e' : k0 + z = k := e
  have hk' : k ≤ 26000 := hk
  exact ⟨h, an, fG_id, ⟨e7, e8, rfl⟩, l_e R hz (by omega) (by omega) (by omega) (Or.inr e'.symm)⟩
theorem UL_br {n : Nat} {cs r : tr} (i0 : UH p gv sN en aR A V P N (.branch n cs r)) (i1 : UL p gv sN en aR A V P N r) : UL p gv sN en aR A V P N (.branch n cs r) := by
  intro h D k0 k z c an x4 x5 x6 R hV hP hN hn hw hx hk hz e h0 hD e8 e7 hc
  obtain ⟨d, rfl⟩ : ∃ d, D = d + 3 := ⟨D - 3, by omega⟩
  have xc := xh_c (en := en) (V := V) (P := P) (A := A) (N := N) (k := gv) (.branch n cs r) false false c
  have eT : ts (tT (.branch n cs r)) = ts r := rfl
  rw [if_neg (by decide), eT, ts_B] at xc
  obtain ⟨h1, b, f1, o1, run1⟩ := i0 h (d + 2) k c R hV hP hN hn (wC_f hw) hx hk (by omega) e8 e7 hc
  rw [nd_B] at hn
  rw [ts_B] at hk e hc
  rw [th_B] at hD
  obtain ⟨n1, n2, n3, n4, n5⟩ := hn
  rw [xA_B] at hx
  obtain ⟨-, -, xb⟩ := hx
  have w3 := wC_r hw
  rw [xh_L, xh_F (an' := false)]
  have R1 := RRU_G f1 R
  have rr : ∀ b, b ≠ 81 → mh_i h1 b = mh_i h b := fun b hb => rc_r f1 hb
  have z1 : mh_i h1 97 k0 = Int32.ofNat z := by rw [rr 97 (by omega)]; exact hz
  have n3' : mh_i h1 97 k = Int32.ofNat (1 + ts cs) := by rw [rr 97 (by omega)]; exact n3
  have g := R.F.g 81 14 70 (by decide +kernel)
  have g1 := R1.F.g 81 14 70 (by decide +kernel)
  have c333 := c_333 (d := d + 2) R.F (by omega : k0 < 26000) hz
  have c333b := c_333 (d := d + 2) R1.F (by omega : k < 26000) n3'
  have le : (k0 + z ≤ k) = False := eq_false (by omega)
  have e00 : ((0 : Int32) = 0) = True := by decide
  have e10 : ((1 : Int32) = 0) = False := by decide
  have e01 : ((0 : Int32) = 1) = False := by decide
  have e11 : ((1 : Int32) = 1) = True := by decide
  have o01 : ((0 : Int32) = 0 ∨ (0 : Int32) = 1) = True := by decide
  have o11 : ((1 : Int32) = 0 ∨ (1 : Int32) = 1) = True := by decide
  have ka : k + (1 + ts cs) = k + 1 + ts cs := by omega
  have same : b = an → ∀ Q, mw (d + 3) 362 Q 79 [some (.ref 81), some (.int (Int32.ofNat k0)), some (.int (kb an)), some (.int (Int32.ofNat k)), x4, x5, x6] [] h = mw (d + 3) 362 Q 79 [some (.ref 81), some (.int (Int32.ofNat k0)), some (.int (kb an)), some (.int (Int32.ofNat (k + 1 + ts cs))), x4, x5, x6] [] h1 := fun ba Q => by
    subst ba
    rw [ka] at c333b
    rw [s_362_79]
    clear R R1 i0 i1 o1
    cases b <;> simp (disch := omega) only [s_362_0, s_362_1, s_362_4, s_362_7, s_362_8, s_362_9, s_362_10, s_362_13, s_362_14, s_362_15, s_362_17, s_362_20, s_362_21, s_362_22, s_362_23, s_362_24, s_362_27, s_362_30, s_362_31, s_362_34, s_362_35, s_362_36, s_362_37, s_362_40, s_362_41, s_362_42, s_362_44, s_362_47, s_362_48, s_362_51, s_362_52, s_362_53, s_362_55, s_362_58, s_362_59, s_362_62, s_362_63, s_362_64, s_362_66, s_362_69, s_362_70, s_362_73, s_362_74, s_362_75, s_362_76, s_362_77, s_362_78, s_362_80, s_362_81, s_362_82, s_362_85, s_362_88, s_362_89, s_362_92, s_362_95, s_362_96, s_362_97, s_362_100, s_362_101, s_362_104, s_362_105, s_362_108, s_362_109, s_362_112, s_362_113, s_362_114, s_362_115, s_362_116, s_362_119, s_362_120, s_362_123, s_362_124, s_362_125, s_362_126, s_362_127, s_362_128, s_362_129, s_362_132, s_362_133, s_362_134, s_362_135, s_362_136, s_362_139, s_362_142, s_362_144, s_362_145, s_362_148, s_362_149, s_362_150, s_362_152, s_362_154, s_362_156, s_362_159, s_362_160, s_362_162, s_362_163, s_362_166, s_362_167, s_362_170, s_362_171, s_362_174, s_362_176, s_362_178, s_362_181, s_362_182, s_362_184, s_362_185, s_362_188, s_362_189, s_362_192, s_362_193, s_362_196, s_362_198, s_362_200, s_362_203, s_362_204, s_362_206, s_362_207, s_362_210, s_362_211, s_362_214, s_362_215, s_362_218, s_362_220, s_362_222, s_362_225, s_362_226, s_362_228, s_362_229, s_362_232, s_362_233, s_362_236, s_362_237, s_362_240, s_362_242, s_362_244, s_362_247, s_362_248, s_362_250, s_362_251, s_362_254, s_362_255, s_362_258, s_362_259, s_362_262, s_362_263, s_362_265, s_362_266, s_362_269, s_362_270, s_362_273, s_362_274, e_362, mv_i_1, mv_l_1, mv_a_1, mv_a_2, mv_a_3, mk2_n, mk2_i, mk2_l, mk2_a, mk2_u, mk2_x, mB_T, mB_F, mS_cons, mS_nil, mSB_T, mSB_F, mca_nil, mca_i, mca_l, mca_r, mca_u, mca_x, mcat_i, mcat_l, mcat_r, mcat_u, mcat_x, mK_some, mK_none, va_rf_s, va_rf_n, lgc_eq, lgc_lt, lgc_gt, lgc_ge, lgc_le, mrd_104, mrd_105, mrd_106, mrd_107, true_and, and_true, and_self, false_and, and_false, true_or, or_true, false_or, or_false, not_true_eq_false, not_false_eq_true, mgb, mga, mgr, mN, reduceCtorEq, ↓reduceIte, eq_self, ge_iff_le, gt_iff_lt, hk_si, hk_sj, hk_sr, hl_si, hl_sj, hl_sr, hn_si, hn_sj, hn_sr, hs_si, hs_sj, hs_sr, hi_sj, hi_sr, hj_si, hj_sr, hr_si, hr_sj, hi_si, hj_sj, hr_sr, mg_si, mg_sj, mg_sr, Nat.reduceAdd, Nat.reduceMul, Nat.reduceSub, Nat.reduceLT, Nat.reduceGT, Nat.reduceEqDiff, Nat.reduceLeDiff, Nat.left_eq_add, Nat.add_eq_left, Nat.reduceMod, Nat.reduceDiv, Nat.succ_ne_self, g, c333, nn_le, le, e8, e00, run1, kbT, kbF, e11, g1, c333b]
  have diff : ¬ b = an → ∀ Q, mw (d + 3) 362 Q 79 [some (.ref 81), some (.int (Int32.ofNat k0)), some (.int (kb an)), some (.int (Int32.ofNat k)), x4, x5, x6] [] h = Q (some (.int (kb (!an)))) h1 := fun ba Q => by
    rw [s_362_79]
    clear R R1 i0 i1 o1
    cases b <;> cases an
    · exact absurd rfl ba
    · have nt : (!true) = false := rfl
      rw [nt]
      simp (disch := omega) only [s_362_0, s_362_1, s_362_4, s_362_7, s_362_8, s_362_9, s_362_10, s_362_13, s_362_14, s_362_15, s_362_17, s_362_20, s_362_21, s_362_22, s_362_23, s_362_24, s_362_27, s_362_30, s_362_31, s_362_34, s_362_35, s_362_36, s_362_37, s_362_40, s_362_41, s_362_42, s_362_44, s_362_47, s_362_48, s_362_51, s_362_52, s_362_53, s_362_55, s_362_58, s_362_59, s_362_62, s_362_63, s_362_64, s_362_66, s_362_69, s_362_70, s_362_73, s_362_74, s_362_75, s_362_76, s_362_77, s_362_78, s_362_80, s_362_81, s_362_82, s_362_85, s_362_88, s_362_89, s_362_92, s_362_95, s_362_96, s_362_97, s_362_100, s_362_101, s_362_104, s_362_105, s_362_108, s_362_109, s_362_112, s_362_113, s_362_114, s_362_115, s_362_116, s_362_119, s_362_120, s_362_123, s_362_124, s_362_125, s_362_126, s_362_127, s_362_128, s_362_129, s_362_132, s_362_133, s_362_134, s_362_135, s_362_136, s_362_139, s_362_142, s_362_144, s_362_145, s_362_148, s_362_149, s_362_150, s_362_152, s_362_154, s_362_156, s_362_159, s_362_160, s_362_162, s_362_163, s_362_166, s_362_167, s_362_170, s_362_171, s_362_174, s_362_176, s_362_178, s_362_181, s_362_182, s_362_184, s_362_185, s_362_188, s_362_189, s_362_192, s_362_193, s_362_196, s_362_198, s_362_200, s_362_203, s_362_204, s_362_206, s_362_207, s_362_210, s_362_211, s_362_214, s_362_215, s_362_218, s_362_220, s_362_222, s_362_225, s_362_226, s_362_228, s_362_229, s_362_232, s_362_233, s_362_236, s_362_237, s_362_240, s_362_242, s_362_244, s_362_247, s_362_248, s_362_250, s_362_251, s_362_254, s_362_255, s_362_258, s_362_259, s_362_262, s_362_263, s_362_265, s_362_266, s_362_269, s_362_270, s_362_273, s_362_274, e_362, mv_i_1, mv_l_1, mv_a_1, mv_a_2, mv_a_3, mk2_n, mk2_i, mk2_l, mk2_a, mk2_u, mk2_x, mB_T, mB_F, mS_cons, mS_nil, mSB_T, mSB_F, mca_nil, mca_i, mca_l, mca_r, mca_u, mca_x, mcat_i, mcat_l, mcat_r, mcat_u, mcat_x, mK_some, mK_none, va_rf_s, va_rf_n, lgc_eq, lgc_lt, lgc_gt, lgc_ge, lgc_le, mrd_104, mrd_105, mrd_106, mrd_107, true_and, and_true, and_self, false_and, and_false, true_or, or_true, false_or, or_false, not_true_eq_false, not_false_eq_true, mgb, mga, mgr, mN, reduceCtorEq, ↓reduceIte, eq_self, ge_iff_le, gt_iff_lt, hk_si, hk_sj, hk_sr, hl_si, hl_sj, hl_sr, hn_si, hn_sj, hn_sr, hs_si, hs_sj, hs_sr, hi_sj, hi_sr, hj_si, hj_sr, hr_si, hr_sj, hi_si, hj_sj, hr_sr, mg_si, mg_sj, mg_sr, Nat.reduceAdd, Nat.reduceMul, Nat.reduceSub, Nat.reduceLT, Nat.reduceGT, Nat.reduceEqDiff, Nat.reduceLeDiff, Nat.left_eq_add, Nat.add_eq_left, Nat.reduceMod, Nat.reduceDiv, Nat.succ_ne_self, g, c333, nn_le, le, e8, e00, run1, kbT, kbF, e01, e10, o01]
    · have nt : (!false) = true := rfl
      rw [nt]
      simp (disch := omega) only [s_362_0, s_362_1, s_362_4, s_362_7, s_362_8, s_362_9, s_362_10, s_362_13, s_362_14, s_362_15, s_362_17, s_362_20, s_362_21, s_362_22, s_362_23, s_362_24, s_362_27, s_362_30, s_362_31, s_362_34, s_362_35, s_362_36, s_362_37, s_362_40, s_362_41, s_362_42, s_362_44, s_362_47, s_362_48, s_362_51, s_362_52, s_362_53, s_362_55, s_362_58, s_362_59, s_362_62, s_362_63, s_362_64, s_362_66, s_362_69, s_362_70, s_362_73, s_362_74, s_362_75, s_362_76, s_362_77, s_362_78, s_362_80, s_362_81, s_362_82, s_362_85, s_362_88, s_362_89, s_362_92, s_362_95, s_362_96, s_362_97, s_362_100, s_362_101, s_362_104, s_362_105, s_362_108, s_362_109, s_362_112, s_362_113, s_362_114, s_362_115, s_362_116, s_362_119, s_362_120, s_362_123, s_362_124, s_362_125, s_362_126, s_362_127, s_362_128, s_362_129, s_362_132, s_362_133, s_362_134, s_362_135, s_362_136, s_362_139, s_362_142, s_362_144, s_362_145, s_362_148, s_362_149, s_362_150, s_362_152, s_362_154, s_362_156, s_362_159, s_362_160, s_362_162, s_362_163, s_362_166, s_362_167, s_362_170, s_362_171, s_362_174, s_362_176, s_362_178, s_362_181, s_362_182, s_362_184, s_362_185, s_362_188, s_362_189, s_362_192, s_362_193, s_362_196, s_362_198, s_362_200, s_362_203, s_362_204, s_362_206, s_362_207, s_362_210, s_362_211, s_362_214, s_362_215, s_362_218, s_362_220, s_362_222, s_362_225, s_362_226, s_362_228, s_362_229, s_362_232, s_362_233, s_362_236, s_362_237, s_362_240, s_362_242, s_362_244, s_362_247, s_362_248, s_362_250, s_362_251, s_362_254, s_362_255, s_362_258, s_362_259, s_362_262, s_362_263, s_362_265, s_362_266, s_362_269, s_362_270, s_362_273, s_362_274, e_362, mv_i_1, mv_l_1, mv_a_1, mv_a_2, mv_a_3, mk2_n, mk2_i, mk2_l, mk2_a, mk2_u, mk2_x, mB_T, mB_F, mS_cons, mS_nil, mSB_T, mSB_F, mca_nil, mca_i, mca_l, mca_r, mca_u, mca_x, mcat_i, mcat_l, mcat_r, mcat_u, mcat_x, mK_some, mK_none, va_rf_s, va_rf_n, lgc_eq, lgc_lt, lgc_gt, lgc_ge, lgc_le, mrd_104, mrd_105, mrd_106, mrd_107, true_and, and_true, and_self, false_and, and_false, true_or, or_true, false_or, or_false, not_true_eq_false, not_false_eq_true, mgb, mga, mgr, mN, reduceCtorEq, ↓reduceIte, eq_self, ge_iff_le, gt_iff_lt, hk_si, hk_sj, hk_sr, hl_si, hl_sj, hl_sr, hn_si, hn_sj, hn_sr, hs_si, hs_sj, hs_sr, hi_sj, hi_sr, hj_si, hj_sr, hr_si, hr_sj, hi_si, hj_sj, hr_sr, mg_si, mg_sj, mg_sr, Nat.reduceAdd, Nat.reduceMul, Nat.reduceSub, Nat.reduceLT, Nat.reduceGT, Nat.reduceEqDiff, Nat.reduceLeDiff, Nat.left_eq_add, Nat.add_eq_left, Nat.reduceMod, Nat.reduceDiv, Nat.succ_ne_self, g, c333, nn_le, le, e8, e00, run1, kbT, kbF, e10, o11]
    · exact absurd rfl ba
  obtain ⟨q, eq⟩ : ∃ q, xh en V P A.rm N gv (.branch n cs r) false false c = q := ⟨_, rfl⟩
  rw [eq] at o1 xc ⊢
  obtain ⟨o7, o8⟩ := o1
  cases hq : q.1 with
  | none =>
    rw [hq] at o8
    have ex : ∀ f, y_bi q f = q := fun f => by unfold y_bi; rw [hq]
    rw [ex]
    have t0 : ¬ mh_i h1 81 68 = 0 := fun z => by rw [o8.2] at z; rw [z] at o8; exact absurd o8.1 (by decide)
    by_cases ba : b = an
    · have fin := l_e (d := d + 1) (an := an) (k := k + 1 + ts cs) (x4 := x4) (x5 := x5) (x6 := x6) R1 z1 (by omega) (by omega) (by omega) (Or.inl t0)
      exact ⟨h1, an, f1, ⟨o7, by rw [hq]; exact o8⟩, fun Q => (same ba Q).trans (fin Q)⟩
    · exact ⟨h1, !an, f1, ⟨o7, by rw [hq]; exact o8⟩, diff ba⟩
  | some v =>
    rw [hq] at o8
    obtain ⟨o8, o9⟩ := o8
    subst o9
    have ex : ∀ f, y_bi q f = f b q.2.2 := fun f => by unfold y_bi; rw [hq]
    rw [ex]
    show ∃ h' b', fG rcW h h' ∧ uy (if b = an then xh en V P A.rm N gv r true an q.2.2 else (some b, 0, q.2.2)) h' b' ∧ _
    by_cases ba : b = an
    · rw [if_pos ba]
      obtain ⟨h3, b3, f3, o3, run3⟩ := i1 h1 (d + 3) k0 (k + 1 + ts cs) z q.2.2 an x4 x5 x6 R1 (by rw [rr _ (by omega)]; exact hV) (by rw [rr _ (by omega)]; exact hP) (by rw [rr _ (by omega)]; exact hN) (by rw [rr _ (by omega), rr _ (by omega), rr _ (by omega)]; exact n5) w3 xb (by omega) z1 (by omega) (by omega) (by omega) o8 o7 (by omega)
      exact ⟨h3, b3, fG_t f1 f3, o3, fun Q => (same ba Q).trans (run3 Q)⟩
    · rw [if_neg ba]
      refine ⟨h1, b, f1, ⟨o7, o8, rfl⟩, fun Q => ?_⟩
      have : b = !an := by cases b <;> cases an <;> first | rfl | exact absurd rfl ba
      rw [diff ba Q, this]
end UHs
