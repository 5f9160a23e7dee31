set_option maxRecDepth 100000
/-! the reference's run: its end; claims that are what is known -/
section RKs
variable {d : Nat} {h h1 : mh_H} {gv cnt : Nat} {G : pgm} {J : pin} {ap : Nat → Int → Nat} {kn cl : Nat → Option ab} {fst oth : Nat → Nat} {al : Nat → Int32} {m tru : Bool}
theorem ar_s (a b : Bool) (X : Option ab) (V P : Nat → Int32) : ar m a X X V P = ar m b X X V P := by
  unfold ar
  by_cases c : m = true ∨ o_has X V P
  · rw [if_pos (c.imp id (fun y => ⟨y, fun _ => y⟩)), if_pos (c.imp id (fun y => ⟨y, fun _ => y⟩))]
  · rw [if_neg (fun z => c (z.imp id (fun y => y.1))), if_neg (fun z => c (z.imp id (fun y => y.1)))]
theorem rgo_s {S : Nat → (Nat → Int32) → (Nat → Int32) → Nat → so5} {last : Nat} (a b : Bool) : ∀ k s, rgo S fst oth m a kn kn al last k s = rgo S fst oth m b kn kn al last k s := by
  intro k
  induction k with
  | zero => intro s; rfl
  | succ k ih =>
    intro s
    simp only [rgo, ih, ar_s a b]
/-- inputs read by a whole run -/
theorem rgo_c (S : SHN G J cnt fst oth) {N : Nat → Int32} (dd : ∀ p, p + 1 < cnt → ts (J.t p) ≤ 26000) : ∀ k (s : rst), s.p < cnt → (rgo (sJ G J N gv) fst oth m tru kn cl al (cnt - 1) k s).c ≤ s.c + k * 52000 := by
  intro k
  induction k with
  | zero => intro s hp; exact Nat.le_add_right _ _
  | succ k ih =>
    intro s hp
    have e : rgo (sJ G J N gv) fst oth m tru kn cl al (cnt - 1) (k + 1) s = if s.p = cnt - 1 ∨ ¬ s.w = 0 then s else if (sJ G J N gv s.p s.V s.P s.c).w = 0 then rgo (sJ G J N gv) fst oth m tru kn cl al (cnt - 1) k ((if (sJ G J N gv s.p s.V s.P s.c).b = true then fst s.p else oth s.p), (sJ G J N gv s.p s.V s.P s.c).c, (sJ G J N gv s.p s.V s.P s.c).V, (sJ G J N gv s.p s.V s.P s.c).P, s.o + ar m tru (kn (if (sJ G J N gv s.p s.V s.P s.c).b = true then fst s.p else oth s.p)) (cl (if (sJ G J N gv s.p s.V s.P s.c).b = true then fst s.p else oth s.p)) (sJ G J N gv s.p s.V s.P s.c).V (sJ G J N gv s.p s.V s.P s.c).P, s.d + 1, 0) else (s.p, (sJ G J N gv s.p s.V s.P s.c).c, (sJ G J N gv s.p s.V s.P s.c).V, (sJ G J N gv s.p s.V s.P s.c).P, s.o + (if m = true ∨ ¬ (al s.p &&& (sJ G J N gv s.p s.V s.P s.c).w) = 0 then 0 else 1), s.d + 1, (sJ G J N gv s.p s.V s.P s.c).w) := rfl
    rw [e]
    by_cases c1 : s.p = cnt - 1 ∨ ¬ s.w = 0
    · rw [if_pos c1]; exact Nat.le_add_right _ _
    rw [if_neg c1]
    have hp1 : s.p + 1 < cnt := by omega
    obtain ⟨q, eq⟩ : ∃ q, sJ G J N gv s.p s.V s.P s.c = q := ⟨_, rfl⟩
    have eq' : s_st (J.en s.p) (J.t s.p) (J.x s.p) (J.tk s.p) (G.n s.p) (G.a s.p) (G.rm s.p) N gv s.V s.P s.c (J.c s.p) = q := eq
    have qc : q.c ≤ s.c + 2 * ts (J.t s.p) := by rw [← eq']; exact s_st_c
    have qb7 : ¬ q.b = true → J.c s.p = 7 := fun z => Classical.byContradiction (fun y => z (by rw [← eq']; exact s_st_b y))
    have d1 := dd s.p hp1
    have lt : (if q.b = true then fst s.p else oth s.p) < cnt := by
      by_cases qb : q.b = true
      · rw [if_pos qb]; exact (S.f s.p hp1).1
      · rw [if_neg qb]; exact (S.o s.p hp1 (qb7 qb)).1
    rw [eq]
    have fin : q.c + k * 52000 ≤ s.c + (k + 1) * 52000 := by omega
    by_cases c2 : q.w = 0
    · rw [if_pos c2]
      exact Nat.le_trans (ih (_, q.c, q.V, q.P, _, s.d + 1, 0) lt) fin
    · rw [if_neg c2]
      exact Nat.le_trans (Nat.le_add_right q.c (k * 52000)) fin
/-- the end of the reference's run -/
theorem u_366e (R : RRI h G J ap cnt gv kn cl fst oth al) {s : rst} (T : RRS h s) (hp : s.p < cnt) (hc : s.c < 2000000000) {x1 x2 x3 : Option Value} : ∀ Q, mw d 366 Q 220 [some (.ref 81), x1, x2, x3] [] h = Q (some (.int (rAn (cnt - 1) s))) (mh_si h 81 66 (Int32.ofNat (if gv < s.c then gv else s.c))) := by
  intro Q
  have hcn := R.c
  have hg := R.g
  have g := R.F.g 81 14 70 (by decide +kernel)
  have p4 := T.p
  have w8 := T.w
  have c7 := T.c
  have tq := T.q
  have c33 := hcn.1
  have g60 := hg.1
  have es : Int32.ofNat cnt - 1 = Int32.ofNat (cnt - 1) := nn_sub (a := cnt) (b := 1) (by omega)
  have em : (if Int32.ofNat gv < Int32.ofNat s.c then Int32.ofNat gv else Int32.ofNat s.c) = Int32.ofNat (if gv < s.c then gv else s.c) := by
    have l : (Int32.ofNat gv < Int32.ofNat s.c) = (gv < s.c) := nn_lt (by omega) (by omega)
    by_cases z : gv < s.c
    · rw [if_pos z, if_pos (by rw [l]; exact z)]
    · rw [if_neg z, if_neg (by rw [l]; exact z)]
  have n6 : ∀ j, j ≠ 66 → mh_i (mh_si h 81 66 (Int32.ofNat (if gv < s.c then gv else s.c))) 81 j = mh_i h 81 j := fun j hj => by rw [hi_si, if_neg (by omega)]
  have k33 := (n6 33 (by decide)).trans c33
  have k64 := (n6 64 (by decide)).trans p4
  have k68 := (n6 68 (by decide)).trans w8
  have ep : (Int32.ofNat s.p = Int32.ofNat (cnt - 1)) = (s.p = cnt - 1) := nn_eq (by omega) (by omega)
  clear R T n6
  generalize hv : (if gv < s.c then gv else s.c) = v at *
  unfold rAn
  rcases tq with w | w
  · have e0 : (s.w ≤ 0) = True := eq_true (by rw [w]; decide)
    rcases Classical.propComplete (s.p = cnt - 1) with cp | cp
    · rw [if_pos w, if_pos (of_eq_true cp)]
      simp (disch := omega) only [s_366_0, s_366_1, s_366_4, s_366_5, s_366_8, s_366_11, s_366_12, s_366_13, s_366_14, s_366_15, s_366_18, s_366_19, s_366_20, s_366_23, s_366_24, s_366_25, s_366_28, s_366_29, s_366_30, s_366_33, s_366_34, s_366_37, s_366_38, s_366_41, s_366_42, s_366_45, s_366_46, s_366_47, s_366_48, s_366_49, s_366_52, s_366_53, s_366_56, s_366_59, s_366_60, s_366_63, s_366_64, s_366_67, s_366_68, s_366_71, s_366_72, s_366_73, s_366_76, s_366_77, s_366_80, s_366_81, s_366_84, s_366_87, s_366_88, s_366_91, s_366_92, s_366_93, s_366_96, s_366_97, s_366_100, s_366_101, s_366_104, s_366_105, s_366_108, s_366_111, s_366_112, s_366_115, s_366_116, s_366_119, s_366_120, s_366_121, s_366_124, s_366_125, s_366_128, s_366_129, s_366_130, s_366_131, s_366_134, s_366_135, s_366_136, s_366_139, s_366_140, s_366_143, s_366_146, s_366_147, s_366_148, s_366_151, s_366_152, s_366_153, s_366_156, s_366_157, s_366_160, s_366_161, s_366_164, s_366_167, s_366_168, s_366_171, s_366_172, s_366_173, s_366_176, s_366_179, s_366_180, s_366_181, s_366_184, s_366_185, s_366_188, s_366_189, s_366_192, s_366_195, s_366_196, s_366_199, s_366_200, s_366_201, s_366_204, s_366_205, s_366_208, s_366_209, s_366_212, s_366_213, s_366_214, s_366_217, s_366_220, s_366_221, s_366_222, s_366_225, s_366_226, s_366_229, s_366_232, s_366_235, s_366_236, s_366_239, s_366_242, s_366_243, s_366_246, s_366_249, s_366_250, s_366_253, s_366_254, s_366_257, s_366_258, s_366_259, s_366_262, s_366_263, s_366_266, s_366_268, e_366, mv_i_1, mv_l_1, mv_a_1, mv_a_2, mv_a_3, mk2_n, mk2_i, mk2_l, mk2_a, mk2_u, mk2_x, mB_T, mB_F, mS_cons, mS_nil, mSB_T, mSB_F, mca_nil, mca_i, mca_l, mca_r, mca_u, mca_x, mcat_i, mcat_l, mcat_r, mcat_u, mcat_x, mK_some, mK_none, va_rf_s, va_rf_n, lgc_eq, lgc_lt, lgc_gt, lgc_ge, lgc_le, mrd_104, mrd_105, mrd_106, mrd_107, true_and, and_true, and_self, false_and, and_false, true_or, or_true, false_or, or_false, not_true_eq_false, not_false_eq_true, mgb, mga, mgr, mN, reduceCtorEq, ↓reduceIte, eq_self, ge_iff_le, gt_iff_lt, hk_si, hk_sj, hk_sr, hl_si, hl_sj, hl_sr, hn_si, hn_sj, hn_sr, hs_si, hs_sj, hs_sr, hi_sj, hi_sr, hj_si, hj_sr, hr_si, hr_sj, hi_si, hj_sj, hr_sr, mg_si, mg_sj, mg_sr, Nat.reduceAdd, Nat.reduceMul, Nat.reduceSub, Nat.reduceLT, Nat.reduceGT, Nat.reduceEqDiff, Nat.reduceLeDiff, Nat.left_eq_add, Nat.add_eq_left, Nat.reduceMod, Nat.reduceDiv, Nat.succ_ne_self, g, c7, g60, em, k68, e0, k64, k33, es, ep, cp]
    · rw [if_pos w, if_neg (of_eq_false cp)]
      simp (disch := omega) only [s_366_0, s_366_1, s_366_4, s_366_5, s_366_8, s_366_11, s_366_12, s_366_13, s_366_14, s_366_15, s_366_18, s_366_19, s_366_20, s_366_23, s_366_24, s_366_25, s_366_28, s_366_29, s_366_30, s_366_33, s_366_34, s_366_37, s_366_38, s_366_41, s_366_42, s_366_45, s_366_46, s_366_47, s_366_48, s_366_49, s_366_52, s_366_53, s_366_56, s_366_59, s_366_60, s_366_63, s_366_64, s_366_67, s_366_68, s_366_71, s_366_72, s_366_73, s_366_76, s_366_77, s_366_80, s_366_81, s_366_84, s_366_87, s_366_88, s_366_91, s_366_92, s_366_93, s_366_96, s_366_97, s_366_100, s_366_101, s_366_104, s_366_105, s_366_108, s_366_111, s_366_112, s_366_115, s_366_116, s_366_119, s_366_120, s_366_121, s_366_124, s_366_125, s_366_128, s_366_129, s_366_130, s_366_131, s_366_134, s_366_135, s_366_136, s_366_139, s_366_140, s_366_143, s_366_146, s_366_147, s_366_148, s_366_151, s_366_152, s_366_153, s_366_156, s_366_157, s_366_160, s_366_161, s_366_164, s_366_167, s_366_168, s_366_171, s_366_172, s_366_173, s_366_176, s_366_179, s_366_180, s_366_181, s_366_184, s_366_185, s_366_188, s_366_189, s_366_192, s_366_195, s_366_196, s_366_199, s_366_200, s_366_201, s_366_204, s_366_205, s_366_208, s_366_209, s_366_212, s_366_213, s_366_214, s_366_217, s_366_220, s_366_221, s_366_222, s_366_225, s_366_226, s_366_229, s_366_232, s_366_235, s_366_236, s_366_239, s_366_242, s_366_243, s_366_246, s_366_249, s_366_250, s_366_253, s_366_254, s_366_257, s_366_258, s_366_259, s_366_262, s_366_263, s_366_266, s_366_268, e_366, mv_i_1, mv_l_1, mv_a_1, mv_a_2, mv_a_3, mk2_n, mk2_i, mk2_l, mk2_a, mk2_u, mk2_x, mB_T, mB_F, mS_cons, mS_nil, mSB_T, mSB_F, mca_nil, mca_i, mca_l, mca_r, mca_u, mca_x, mcat_i, mcat_l, mcat_r, mcat_u, mcat_x, mK_some, mK_none, va_rf_s, va_rf_n, lgc_eq, lgc_lt, lgc_gt, lgc_ge, lgc_le, mrd_104, mrd_105, mrd_106, mrd_107, true_and, and_true, and_self, false_and, and_false, true_or, or_true, false_or, or_false, not_true_eq_false, not_false_eq_true, mgb, mga, mgr, mN, reduceCtorEq, ↓reduceIte, eq_self, ge_iff_le, gt_iff_lt, hk_si, hk_sj, hk_sr, hl_si, hl_sj, hl_sr, hn_si, hn_sj, hn_sr, hs_si, hs_sj, hs_sr, hi_sj, hi_sr, hj_si, hj_sr, hr_si, hr_sj, hi_si, hj_sj, hr_sr, mg_si, mg_sj, mg_sr, Nat.reduceAdd, Nat.reduceMul, Nat.reduceSub, Nat.reduceLT, Nat.reduceGT, Nat.reduceEqDiff, Nat.reduceLeDiff, Nat.left_eq_add, Nat.add_eq_left, Nat.reduceMod, Nat.reduceDiv, Nat.succ_ne_self, g, c7, g60, em, k68, e0, k64, k33, es, ep, cp]
  · have e0 : (s.w ≤ 0) = False := eq_false (fun z => absurd (Int32.lt_of_lt_of_le w z) (by decide))
    have w0 : ¬ s.w = 0 := fun z => absurd w (by rw [z]; decide)
    rw [if_neg w0]
    simp (disch := omega) only [s_366_0, s_366_1, s_366_4, s_366_5, s_366_8, s_366_11, s_366_12, s_366_13, s_366_14, s_366_15, s_366_18, s_366_19, s_366_20, s_366_23, s_366_24, s_366_25, s_366_28, s_366_29, s_366_30, s_366_33, s_366_34, s_366_37, s_366_38, s_366_41, s_366_42, s_366_45, s_366_46, s_366_47, s_366_48, s_366_49, s_366_52, s_366_53, s_366_56, s_366_59, s_366_60, s_366_63, s_366_64, s_366_67, s_366_68, s_366_71, s_366_72, s_366_73, s_366_76, s_366_77, s_366_80, s_366_81, s_366_84, s_366_87, s_366_88, s_366_91, s_366_92, s_366_93, s_366_96, s_366_97, s_366_100, s_366_101, s_366_104, s_366_105, s_366_108, s_366_111, s_366_112, s_366_115, s_366_116, s_366_119, s_366_120, s_366_121, s_366_124, s_366_125, s_366_128, s_366_129, s_366_130, s_366_131, s_366_134, s_366_135, s_366_136, s_366_139, s_366_140, s_366_143, s_366_146, s_366_147, s_366_148, s_366_151, s_366_152, s_366_153, s_366_156, s_366_157, s_366_160, s_366_161, s_366_164, s_366_167, s_366_168, s_366_171, s_366_172, s_366_173, s_366_176, s_366_179, s_366_180, s_366_181, s_366_184, s_366_185, s_366_188, s_366_189, s_366_192, s_366_195, s_366_196, s_366_199, s_366_200, s_366_201, s_366_204, s_366_205, s_366_208, s_366_209, s_366_212, s_366_213, s_366_214, s_366_217, s_366_220, s_366_221, s_366_222, s_366_225, s_366_226, s_366_229, s_366_232, s_366_235, s_366_236, s_366_239, s_366_242, s_366_243, s_366_246, s_366_249, s_366_250, s_366_253, s_366_254, s_366_257, s_366_258, s_366_259, s_366_262, s_366_263, s_366_266, s_366_268, e_366, mv_i_1, mv_l_1, mv_a_1, mv_a_2, mv_a_3, mk2_n, mk2_i, mk2_l, mk2_a, mk2_u, mk2_x, mB_T, mB_F, mS_cons, mS_nil, mSB_T, mSB_F, mca_nil, mca_i, mca_l, mca_r, mca_u, mca_x, mcat_i, mcat_l, mcat_r, mcat_u, mcat_x, mK_some, mK_none, va_rf_s, va_rf_n, lgc_eq, lgc_lt, lgc_gt, lgc_ge, lgc_le, mrd_104, mrd_105, mrd_106, mrd_107, true_and, and_true, and_self, false_and, and_false, true_or, or_true, false_or, or_false, not_true_eq_false, not_false_eq_true, mgb, mga, mgr, mN, reduceCtorEq, ↓reduceIte, eq_self, ge_iff_le, gt_iff_lt, hk_si, hk_sj, hk_sr, hl_si, hl_sj, hl_sr, hn_si, hn_sj, hn_sr, hs_si, hs_sj, hs_sr, hi_sj, hi_sr, hj_si, hj_sr, hr_si, hr_sj, hi_si, hj_sj, hr_sr, mg_si, mg_sj, mg_sr, Nat.reduceAdd, Nat.reduceMul, Nat.reduceSub, Nat.reduceLT, Nat.reduceGT, Nat.reduceEqDiff, Nat.reduceLeDiff, Nat.left_eq_add, Nat.add_eq_left, Nat.reduceMod, Nat.reduceDiv, Nat.succ_ne_self, g, c7, g60, em, k68, e0]
end RKs
