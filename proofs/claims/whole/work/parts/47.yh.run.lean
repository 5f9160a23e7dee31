set_option maxRecDepth 100000
/-! the reference's run: its loop -/
section RIs
variable {d : Nat} {h h1 : mh_H} {gv cnt : Nat} {G : pgm} {J : pin} {ap : Nat → Int → Nat} {kn cl : Nat → Option ab} {fst oth : Nat → Nat} {al : Nat → Int32} {m tru : Bool}
/-- what is added on arrival -/
theorem rv_a (S : SHN G J cnt fst oth) (R : RRI h G J ap cnt gv kn cl fst oth al) {p : Nat} (hp : p < cnt) (f64 : mh_i h 81 64 = Int32.ofNat p) (f55 : mh_i h 81 55 = kb tru) : ∃ b : Bool, (m = false → (if b = true then (1 : Int32) else 0) = ar m tru (kn p) (cl p) (mh_i h 2640) (mh_i h 2641)) ∧ ∀ Q, mcall (d + 2) 367 [.ref 81] h Q = Q (some (.int (kb b))) h := by
  have hc := R.c
  obtain ⟨b, b1, run⟩ := u_367 (d := d) R.F (by omega : p < 250) f64 f55 (R.k p hp) (R.l p hp) (R.s p hp) (R.u p hp) (S.r p hp)
  refine ⟨b, fun hm => ?_, run⟩
  unfold ar
  cases b with
  | true =>
    rw [if_pos rfl, if_neg (fun z => by
      rcases z with z | z
      · rw [hm] at z; cases z
      · exact absurd (b1.mpr z) (by decide))]
  | false =>
    rw [if_neg (by decide), if_pos (Or.inr (b1.mp rfl))]
theorem u_366l (S : SHN G J cnt fst oth) {N : Nat → Int32} {M : Nat} (hM : M ≤ 2000) : ∀ k (h : mh_H) (s : rst) (x3 : Option Value), s.d + k = M → s.c ≤ s.d * 52000 → RRI h G J ap cnt gv kn cl fst oth al → RRS h s → s.p < cnt → mh_i h 2639 = N → mh_i h 81 55 = kb tru → ∃ h' x3', fG rvW h h' ∧ mh_i h' 81 55 = mh_i h 81 55 ∧ RRS h' (rgo (sJ G J N gv) fst oth m tru kn cl al (cnt - 1) k s) ∧ (rgo (sJ G J N gv) fst oth m tru kn cl al (cnt - 1) k s).p < cnt ∧ ∀ Q, mw (d + 700) 366 Q 96 [some (.ref 81), some (.int (Int32.ofNat M)), some (.int (kb (!m))), x3] [] h = mw (d + 700) 366 Q 220 [some (.ref 81), some (.int (Int32.ofNat M)), some (.int (kb (!m))), x3'] [] h' := by
  have FIN : ∀ k (h : mh_H) (s : rst) (x3 : Option Value), RRI h G J ap cnt gv kn cl fst oth al → RRS h s → s.p < cnt → s.d + k = M → (k = 0 ∨ s.p = cnt - 1 ∨ ¬ s.w = 0) → ∀ Q, mw (d + 700) 366 Q 96 [some (.ref 81), some (.int (Int32.ofNat M)), some (.int (kb (!m))), x3] [] h = mw (d + 700) 366 Q 220 [some (.ref 81), some (.int (Int32.ofNat M)), some (.int (kb (!m))), x3] [] h := fun k h s x3 R T hp hk e Q => by
    have hc := R.c
    have g := R.F.g 81 14 70 (by decide +kernel)
    have p4 := T.p
    have w8 := T.w
    have d5 := T.d
    have c33 := hc.1
    have le : (M ≤ s.d) = (k = 0) := propext ⟨fun z => by omega, fun z => by omega⟩
    have es : Int32.ofNat cnt - 1 = Int32.ofNat (cnt - 1) := nn_sub (a := cnt) (b := 1) (by omega)
    have lp : (cnt - 1 ≤ s.p) = (s.p = cnt - 1) := propext ⟨fun z => by omega, fun z => by omega⟩
    clear R T
    rcases Classical.propComplete (s.w = 0) with cw | cw <;> rcases Classical.propComplete (s.p = cnt - 1) with cp | cp <;> rcases Classical.propComplete (k = 0) with ck | ck
    all_goals first
      | exact absurd e (fun z => by rcases z with z | z | z; exact of_eq_false ck z; exact of_eq_false cp z; exact z (of_eq_true cw))
      | (simp (disch := omega) only [s_366_0, s_366_1, s_366_4, s_366_5, s_366_8, s_366_11, s_366_12, s_366_13, s_366_14, s_366_15, s_366_18, s_366_19, s_366_20, s_366_23, s_366_24, s_366_25, s_366_28, s_366_29, s_366_30, s_366_33, s_366_34, s_366_37, s_366_38, s_366_41, s_366_42, s_366_45, s_366_46, s_366_47, s_366_48, s_366_49, s_366_52, s_366_53, s_366_56, s_366_59, s_366_60, s_366_63, s_366_64, s_366_67, s_366_68, s_366_71, s_366_72, s_366_73, s_366_76, s_366_77, s_366_80, s_366_81, s_366_84, s_366_87, s_366_88, s_366_91, s_366_92, s_366_93, s_366_96, s_366_97, s_366_100, s_366_101, s_366_104, s_366_105, s_366_108, s_366_111, s_366_112, s_366_115, s_366_116, s_366_119, s_366_120, s_366_121, s_366_124, s_366_125, s_366_128, s_366_129, s_366_130, s_366_131, s_366_134, s_366_135, s_366_136, s_366_139, s_366_140, s_366_143, s_366_146, s_366_147, s_366_148, s_366_151, s_366_152, s_366_153, s_366_156, s_366_157, s_366_160, s_366_161, s_366_164, s_366_167, s_366_168, s_366_171, s_366_172, s_366_173, s_366_176, s_366_179, s_366_180, s_366_181, s_366_184, s_366_185, s_366_188, s_366_189, s_366_192, s_366_195, s_366_196, s_366_199, s_366_200, s_366_201, s_366_204, s_366_205, s_366_208, s_366_209, s_366_212, s_366_213, s_366_214, s_366_217, s_366_221, s_366_222, s_366_225, s_366_226, s_366_229, s_366_232, s_366_235, s_366_236, s_366_239, s_366_242, s_366_243, s_366_246, s_366_249, s_366_250, s_366_253, s_366_254, s_366_257, s_366_258, s_366_259, s_366_262, s_366_263, s_366_266, s_366_268, e_366, mv_i_1, mv_l_1, mv_a_1, mv_a_2, mv_a_3, mk2_n, mk2_i, mk2_l, mk2_a, mk2_u, mk2_x, mB_T, mB_F, mS_cons, mS_nil, mSB_T, mSB_F, mca_nil, mca_i, mca_l, mca_r, mca_u, mca_x, mcat_i, mcat_l, mcat_r, mcat_u, mcat_x, mK_some, mK_none, va_rf_s, va_rf_n, lgc_eq, lgc_lt, lgc_gt, lgc_ge, lgc_le, mrd_104, mrd_105, mrd_106, mrd_107, true_and, and_true, and_self, false_and, and_false, true_or, or_true, false_or, or_false, not_true_eq_false, not_false_eq_true, mgb, mga, mgr, mN, reduceCtorEq, ↓reduceIte, eq_self, ge_iff_le, gt_iff_lt, hk_si, hk_sj, hk_sr, hl_si, hl_sj, hl_sr, hn_si, hn_sj, hn_sr, hs_si, hs_sj, hs_sr, hi_sj, hi_sr, hj_si, hj_sr, hr_si, hr_sj, hi_si, hj_sj, hr_sr, mg_si, mg_sj, mg_sr, Nat.reduceAdd, Nat.reduceMul, Nat.reduceSub, Nat.reduceLT, Nat.reduceGT, Nat.reduceEqDiff, Nat.reduceLeDiff, Nat.left_eq_add, Nat.add_eq_left, Nat.reduceMod, Nat.reduceDiv, Nat.succ_ne_self, g, d5, nn_le, le, ck, w8, cw, p4, c33, es, lp, cp])
  intro k
  induction k with
  | zero =>
    intro h s x3 hk hcb R T hp hN f55
    exact ⟨h, x3, fG_id, rfl, T, hp, FIN 0 h s x3 R T hp hk (Or.inl rfl)⟩
  | succ k ih =>
    intro h s x3 hk hcb R T hp hN f55
    have e : rgo (sJ G J N gv) fst oth m tru kn cl al (cnt - 1) (k + 1) s = if s.p = cnt - 1 ∨ ¬ s.w = 0 then s else if (sJ G J N gv s.p s.V s.P s.c).w = 0 then rgo (sJ G J N gv) fst oth m tru kn cl al (cnt - 1) k ((if (sJ G J N gv s.p s.V s.P s.c).b = true then fst s.p else oth s.p), (sJ G J N gv s.p s.V s.P s.c).c, (sJ G J N gv s.p s.V s.P s.c).V, (sJ G J N gv s.p s.V s.P s.c).P, s.o + ar m tru (kn (if (sJ G J N gv s.p s.V s.P s.c).b = true then fst s.p else oth s.p)) (cl (if (sJ G J N gv s.p s.V s.P s.c).b = true then fst s.p else oth s.p)) (sJ G J N gv s.p s.V s.P s.c).V (sJ G J N gv s.p s.V s.P s.c).P, s.d + 1, 0) else (s.p, (sJ G J N gv s.p s.V s.P s.c).c, (sJ G J N gv s.p s.V s.P s.c).V, (sJ G J N gv s.p s.V s.P s.c).P, s.o + (if m = true ∨ ¬ (al s.p &&& (sJ G J N gv s.p s.V s.P s.c).w) = 0 then 0 else 1), s.d + 1, (sJ G J N gv s.p s.V s.P s.c).w) := rfl
    rw [e]
    by_cases c1 : s.p = cnt - 1 ∨ ¬ s.w = 0
    · rw [if_pos c1]
      exact ⟨h, x3, fG_id, rfl, T, hp, FIN (k + 1) h s x3 R T hp hk (Or.inr c1)⟩
    rw [if_neg c1]
    have hc := R.c
    have hp1 : s.p + 1 < cnt := by omega
    have w0 : s.w = 0 := Classical.byContradiction (fun z => c1 (Or.inr z))
    have w8 : mh_i h 81 68 = 0 := T.w.trans w0
    have RU : RRU h s.p gv (J.sN s.p) (J.en s.p) (ap s.p) := RRU.of ⟨R.F, T.p, by omega, R.g.1, R.g.2, R.m s.p hp1⟩
    obtain ⟨dd1, dd2, dd3, dd4⟩ := R.d s.p hp1
    obtain ⟨h1, r, o1, hr, run1⟩ := u_364 (d := d + 698) (f1 := fst s.p) (o1 := oth s.p) (R.n s.p hp) RU hc.1 hc.2 ⟨dd3, dd4⟩ (S.w s.p hp1) (R.t s.p hp1) (by omega) w8 T.c (by omega)
    rw [hN, T.V, T.P] at o1 hr
    obtain ⟨q, eq⟩ : ∃ q, sJ G J N gv s.p s.V s.P s.c = q := ⟨_, rfl⟩
    have eq' : s_st (J.en s.p) (J.t s.p) (J.x s.p) (J.tk s.p) (G.n s.p) (G.a s.p) (G.rm s.p) N gv s.V s.P s.c (J.c s.p) = q := eq
    have qc : q.c ≤ s.c + 2 * ts (J.t s.p) := by rw [← eq']; exact s_st_c
    have qp : PW q := by rw [← eq']; exact s_st_p
    have qb7 : ¬ q.b = true → J.c s.p = 7 := fun z => Classical.byContradiction (fun y => z (by rw [← eq']; exact s_st_b y))
    rw [eq'] at o1 hr
    rw [eq]
    obtain ⟨f1, u67, u68, uV, uP⟩ := o1
    have f1' := fG_w f1 rv_rd
    have i1 : ∀ j, j ≠ 67 ∧ j ≠ 68 → mh_i h1 81 j = mh_i h 81 j := fun j hj => (f1.2.2.2.2.2 81 j (by unfold rdW; omega)).1
    have R1 := RRI_G f1' R
    have g := R.F.g 81 14 70 (by decide +kernel)
    have g1 := R1.F.g 81 14 70 (by decide +kernel)
    have p4 := T.p
    have d5 := T.d
    have c33 := hc.1
    have d51 : mh_i h1 81 65 = Int32.ofNat s.d := by rw [i1 65 (by omega)]; exact d5
    have o51 : mh_i h1 81 54 = s.o := by rw [i1 54 (by omega)]; exact T.o
    have p41 : mh_i h1 81 64 = Int32.ofNat s.p := by rw [i1 64 (by omega)]; exact p4
    have le : (M ≤ s.d) = False := eq_false (by omega)
    have es : Int32.ofNat cnt - 1 = Int32.ofNat (cnt - 1) := nn_sub (a := cnt) (b := 1) (by omega)
    have lp : (cnt - 1 ≤ s.p) = False := eq_false (by omega)
    have e00 : ((0 : Int32) = 0) = True := by decide
    have e10 : ((1 : Int32) = 0) = False := by decide
    have ed : Int32.ofNat s.d + 1 = Int32.ofNat (s.d + 1) := nn_add (a := s.d) (b := 1)
    by_cases qw : q.w = 0
    · rw [if_pos qw]
      have hr := hr qw
      obtain ⟨p', ep'⟩ : ∃ p', (if q.b = true then fst s.p else oth s.p) = p' := ⟨_, rfl⟩
      rw [ep'] at hr ⊢
      have hp' : p' < cnt := by
        rw [← ep']
        by_cases qb : q.b = true
        · rw [if_pos qb]; exact (S.f s.p hp1).1
        · rw [if_neg qb]; exact (S.o s.p hp1 (qb7 qb)).1
      obtain ⟨h3, eh3⟩ : ∃ h3, mh_si (mh_si h1 81 65 (Int32.ofNat (s.d + 1))) 81 64 (Int32.ofNat p') = h3 := ⟨_, rfl⟩
      have f3 : fG rvW h1 h3 := by rw [← eh3]; exact fG_t (fG_si (Or.inr (Or.inr (Or.inr ⟨rfl, by omega⟩)))) (fG_si (Or.inr (Or.inr (Or.inr ⟨rfl, by omega⟩))))
      have i3 : ∀ b j, ¬ (b = 81 ∧ (j = 65 ∨ j = 64)) → mh_i h3 b j = mh_i h1 b j := fun b j z => by rw [← eh3, hi_si, if_neg (by omega), hi_si, if_neg (by omega)]
      have R3 := RRI_G f3 R1
      have p43 : mh_i h3 81 64 = Int32.ofNat p' := by rw [← eh3, hi_si, if_pos ⟨rfl, rfl⟩]
      have d53 : mh_i h3 81 65 = Int32.ofNat (s.d + 1) := by rw [← eh3, hi_si, if_neg (by omega), hi_si, if_pos ⟨rfl, rfl⟩]
      have f553 : mh_i h3 81 55 = kb tru := by rw [i3 _ _ (by omega), i1 55 (by omega)]; exact f55
      have V3 : mh_i h3 2640 = q.V := by rw [← uV]; exact funext fun j => i3 _ _ (by omega)
      have P3 : mh_i h3 2641 = q.P := by rw [← uP]; exact funext fun j => i3 _ _ (by omega)
      obtain ⟨b, ba, run3⟩ := rv_a (d := d + 697) (m := m) S R3 hp' p43 f553
      rw [V3, P3] at ba
      have g3 := R3.F.g 81 14 70 (by decide +kernel)
      have o53 : mh_i h3 81 54 = s.o := by rw [i3 _ _ (by omega)]; exact o51
      obtain ⟨h4, eh4⟩ : ∃ h4, mh_si h3 81 54 (s.o + ar m tru (kn p') (cl p') q.V q.P) = h4 := ⟨_, rfl⟩
      have f4 : fG rvW h3 h4 := by rw [← eh4]; exact fG_si (Or.inr (Or.inr (Or.inr ⟨rfl, by omega⟩)))
      have i4 : ∀ b j, ¬ (b = 81 ∧ j = 54) → mh_i h4 b j = mh_i h3 b j := fun b j z => by rw [← eh4, hi_si, if_neg z]
      have T4 : RRS h4 (p', q.c, q.V, q.P, s.o + ar m tru (kn p') (cl p') q.V q.P, s.d + 1, 0) := RRS.of ⟨by rw [i4 _ _ (by omega)]; exact p43, by rw [i4 _ _ (by omega), i3 _ _ (by omega)]; exact u67, by rw [i4 _ _ (by omega), i3 _ _ (by omega), u68, qw]; rfl, by rw [← eh4, hi_si, if_pos ⟨rfl, rfl⟩]; rfl, by rw [i4 _ _ (by omega)]; exact d53, by rw [← V3]; exact funext fun j => i4 _ _ (by omega), by rw [← P3]; exact funext fun j => i4 _ _ (by omega), Or.inl rfl⟩
      have N4 : mh_i h4 2639 = N := by
        rw [← hN]
        funext j
        rw [i4 _ _ (by omega), i3 _ _ (by omega), (f1.2.2.2.2.2 2639 j (by unfold rdW; omega)).1]
      have f554 : mh_i h4 81 55 = kb tru := by rw [i4 _ _ (by omega)]; exact f553
      obtain ⟨h5, x5, f5, k5, T5, p5, run5⟩ := ih h4 _ (some (.int r)) (by show s.d + 1 + k = M; omega) (by show q.c ≤ (s.d + 1) * 52000; omega) (RRI_G f4 R3) T4 hp' N4 f554
      refine ⟨h5, x5, fG_t f1' (fG_t f3 (fG_t f4 f5)), by rw [k5, f554, f55], T5, p5, fun Q => ?_⟩
      rw [← run5 Q]
      have u680 : mh_i h1 81 68 = 0 := u68.trans qw
      subst hr
      cases m with
      | true =>
        have arz : ar true tru (kn p') (cl p') q.V q.P = 0 := by unfold ar; rw [if_pos (Or.inl rfl)]
        rw [arz] at eh4
        have nt : (!true) = false := rfl
        rw [nt]
        clear R R1 R3 RU T T4 T5 S ih FIN run5 f1 f1' f3 f4 f5 ba i1 i3 i4 hr
        rw [s_366_96]
        simp (disch := omega) only [s_366_0, s_366_1, s_366_4, s_366_5, s_366_8, s_366_11, s_366_12, s_366_13, s_366_14, s_366_15, s_366_18, s_366_19, s_366_20, s_366_23, s_366_24, s_366_25, s_366_28, s_366_29, s_366_30, s_366_33, s_366_34, s_366_37, s_366_38, s_366_41, s_366_42, s_366_45, s_366_46, s_366_47, s_366_48, s_366_49, s_366_52, s_366_53, s_366_56, s_366_59, s_366_60, s_366_63, s_366_64, s_366_67, s_366_68, s_366_71, s_366_72, s_366_73, s_366_76, s_366_77, s_366_80, s_366_81, s_366_84, s_366_87, s_366_88, s_366_91, s_366_92, s_366_93, s_366_97, s_366_100, s_366_101, s_366_104, s_366_105, s_366_108, s_366_111, s_366_112, s_366_115, s_366_116, s_366_119, s_366_120, s_366_121, s_366_124, s_366_125, s_366_128, s_366_129, s_366_130, s_366_131, s_366_134, s_366_135, s_366_136, s_366_139, s_366_140, s_366_143, s_366_146, s_366_147, s_366_148, s_366_151, s_366_152, s_366_153, s_366_156, s_366_157, s_366_160, s_366_161, s_366_164, s_366_167, s_366_168, s_366_171, s_366_172, s_366_173, s_366_176, s_366_179, s_366_180, s_366_181, s_366_184, s_366_185, s_366_188, s_366_189, s_366_192, s_366_195, s_366_196, s_366_199, s_366_200, s_366_201, s_366_204, s_366_205, s_366_208, s_366_209, s_366_212, s_366_213, s_366_214, s_366_217, s_366_220, s_366_221, s_366_222, s_366_225, s_366_226, s_366_229, s_366_232, s_366_235, s_366_236, s_366_239, s_366_242, s_366_243, s_366_246, s_366_249, s_366_250, s_366_253, s_366_254, s_366_257, s_366_258, s_366_259, s_366_262, s_366_263, s_366_266, s_366_268, e_366, mv_i_1, mv_l_1, mv_a_1, mv_a_2, mv_a_3, mk2_n, mk2_i, mk2_l, mk2_a, mk2_u, mk2_x, mB_T, mB_F, mS_cons, mS_nil, mSB_T, mSB_F, mca_nil, mca_i, mca_l, mca_r, mca_u, mca_x, mcat_i, mcat_l, mcat_r, mcat_u, mcat_x, mK_some, mK_none, va_rf_s, va_rf_n, lgc_eq, lgc_lt, lgc_gt, lgc_ge, lgc_le, mrd_104, mrd_105, mrd_106, mrd_107, true_and, and_true, and_self, false_and, and_false, true_or, or_true, false_or, or_false, not_true_eq_false, not_false_eq_true, mgb, mga, mgr, mN, reduceCtorEq, ↓reduceIte, eq_self, ge_iff_le, gt_iff_lt, hk_si, hk_sj, hk_sr, hl_si, hl_sj, hl_sr, hn_si, hn_sj, hn_sr, hs_si, hs_sj, hs_sr, hi_sj, hi_sr, hj_si, hj_sr, hr_si, hr_sj, hi_si, hj_sj, hr_sr, mg_si, mg_sj, mg_sr, Nat.reduceAdd, Nat.reduceMul, Nat.reduceSub, Nat.reduceLT, Nat.reduceGT, Nat.reduceEqDiff, Nat.reduceLeDiff, Nat.left_eq_add, Nat.add_eq_left, Nat.reduceMod, Nat.reduceDiv, Nat.succ_ne_self, g, d5, nn_le, le, w8, e00, p4, c33, es, lp, run1, g1, d51, ed, u680, eh3, g3, o53, kbF, eh4]
      | false =>
        have ba := ba rfl
        have nt : (!false) = true := rfl
        rw [nt]
        clear R R1 R3 RU T T4 T5 S ih FIN run5 f1 f1' f3 f4 f5 i1 i3 i4 hr
        rw [s_366_96]
        cases b with
        | true =>
          rw [if_pos rfl] at ba
          rw [← ba] at eh4
          simp (disch := omega) only [s_366_0, s_366_1, s_366_4, s_366_5, s_366_8, s_366_11, s_366_12, s_366_13, s_366_14, s_366_15, s_366_18, s_366_19, s_366_20, s_366_23, s_366_24, s_366_25, s_366_28, s_366_29, s_366_30, s_366_33, s_366_34, s_366_37, s_366_38, s_366_41, s_366_42, s_366_45, s_366_46, s_366_47, s_366_48, s_366_49, s_366_52, s_366_53, s_366_56, s_366_59, s_366_60, s_366_63, s_366_64, s_366_67, s_366_68, s_366_71, s_366_72, s_366_73, s_366_76, s_366_77, s_366_80, s_366_81, s_366_84, s_366_87, s_366_88, s_366_91, s_366_92, s_366_93, s_366_97, s_366_100, s_366_101, s_366_104, s_366_105, s_366_108, s_366_111, s_366_112, s_366_115, s_366_116, s_366_119, s_366_120, s_366_121, s_366_124, s_366_125, s_366_128, s_366_129, s_366_130, s_366_131, s_366_134, s_366_135, s_366_136, s_366_139, s_366_140, s_366_143, s_366_146, s_366_147, s_366_148, s_366_151, s_366_152, s_366_153, s_366_156, s_366_157, s_366_160, s_366_161, s_366_164, s_366_167, s_366_168, s_366_171, s_366_172, s_366_173, s_366_176, s_366_179, s_366_180, s_366_181, s_366_184, s_366_185, s_366_188, s_366_189, s_366_192, s_366_195, s_366_196, s_366_199, s_366_200, s_366_201, s_366_204, s_366_205, s_366_208, s_366_209, s_366_212, s_366_213, s_366_214, s_366_217, s_366_220, s_366_221, s_366_222, s_366_225, s_366_226, s_366_229, s_366_232, s_366_235, s_366_236, s_366_239, s_366_242, s_366_243, s_366_246, s_366_249, s_366_250, s_366_253, s_366_254, s_366_257, s_366_258, s_366_259, s_366_262, s_366_263, s_366_266, s_366_268, e_366, mv_i_1, mv_l_1, mv_a_1, mv_a_2, mv_a_3, mk2_n, mk2_i, mk2_l, mk2_a, mk2_u, mk2_x, mB_T, mB_F, mS_cons, mS_nil, mSB_T, mSB_F, mca_nil, mca_i, mca_l, mca_r, mca_u, mca_x, mcat_i, mcat_l, mcat_r, mcat_u, mcat_x, mK_some, mK_none, va_rf_s, va_rf_n, lgc_eq, lgc_lt, lgc_gt, lgc_ge, lgc_le, mrd_104, mrd_105, mrd_106, mrd_107, true_and, and_true, and_self, false_and, and_false, true_or, or_true, false_or, or_false, not_true_eq_false, not_false_eq_true, mgb, mga, mgr, mN, reduceCtorEq, ↓reduceIte, eq_self, ge_iff_le, gt_iff_lt, hk_si, hk_sj, hk_sr, hl_si, hl_sj, hl_sr, hn_si, hn_sj, hn_sr, hs_si, hs_sj, hs_sr, hi_sj, hi_sr, hj_si, hj_sr, hr_si, hr_sj, hi_si, hj_sj, hr_sr, mg_si, mg_sj, mg_sr, Nat.reduceAdd, Nat.reduceMul, Nat.reduceSub, Nat.reduceLT, Nat.reduceGT, Nat.reduceEqDiff, Nat.reduceLeDiff, Nat.left_eq_add, Nat.add_eq_left, Nat.reduceMod, Nat.reduceDiv, Nat.succ_ne_self, g, d5, nn_le, le, w8, e00, e10, p4, c33, es, lp, run1, g1, d51, ed, u680, eh3, g3, o53, kbT, run3, eh4]
        | false =>
          rw [if_neg (by decide)] at ba
          rw [← ba] at eh4
          simp (disch := omega) only [s_366_0, s_366_1, s_366_4, s_366_5, s_366_8, s_366_11, s_366_12, s_366_13, s_366_14, s_366_15, s_366_18, s_366_19, s_366_20, s_366_23, s_366_24, s_366_25, s_366_28, s_366_29, s_366_30, s_366_33, s_366_34, s_366_37, s_366_38, s_366_41, s_366_42, s_366_45, s_366_46, s_366_47, s_366_48, s_366_49, s_366_52, s_366_53, s_366_56, s_366_59, s_366_60, s_366_63, s_366_64, s_366_67, s_366_68, s_366_71, s_366_72, s_366_73, s_366_76, s_366_77, s_366_80, s_366_81, s_366_84, s_366_87, s_366_88, s_366_91, s_366_92, s_366_93, s_366_97, s_366_100, s_366_101, s_366_104, s_366_105, s_366_108, s_366_111, s_366_112, s_366_115, s_366_116, s_366_119, s_366_120, s_366_121, s_366_124, s_366_125, s_366_128, s_366_129, s_366_130, s_366_131, s_366_134, s_366_135, s_366_136, s_366_139, s_366_140, s_366_143, s_366_146, s_366_147, s_366_148, s_366_151, s_366_152, s_366_153, s_366_156, s_366_157, s_366_160, s_366_161, s_366_164, s_366_167, s_366_168, s_366_171, s_366_172, s_366_173, s_366_176, s_366_179, s_366_180, s_366_181, s_366_184, s_366_185, s_366_188, s_366_189, s_366_192, s_366_195, s_366_196, s_366_199, s_366_200, s_366_201, s_366_204, s_366_205, s_366_208, s_366_209, s_366_212, s_366_213, s_366_214, s_366_217, s_366_220, s_366_221, s_366_222, s_366_225, s_366_226, s_366_229, s_366_232, s_366_235, s_366_236, s_366_239, s_366_242, s_366_243, s_366_246, s_366_249, s_366_250, s_366_253, s_366_254, s_366_257, s_366_258, s_366_259, s_366_262, s_366_263, s_366_266, s_366_268, e_366, mv_i_1, mv_l_1, mv_a_1, mv_a_2, mv_a_3, mk2_n, mk2_i, mk2_l, mk2_a, mk2_u, mk2_x, mB_T, mB_F, mS_cons, mS_nil, mSB_T, mSB_F, mca_nil, mca_i, mca_l, mca_r, mca_u, mca_x, mcat_i, mcat_l, mcat_r, mcat_u, mcat_x, mK_some, mK_none, va_rf_s, va_rf_n, lgc_eq, lgc_lt, lgc_gt, lgc_ge, lgc_le, mrd_104, mrd_105, mrd_106, mrd_107, true_and, and_true, and_self, false_and, and_false, true_or, or_true, false_or, or_false, not_true_eq_false, not_false_eq_true, mgb, mga, mgr, mN, reduceCtorEq, ↓reduceIte, eq_self, ge_iff_le, gt_iff_lt, hk_si, hk_sj, hk_sr, hl_si, hl_sj, hl_sr, hn_si, hn_sj, hn_sr, hs_si, hs_sj, hs_sr, hi_sj, hi_sr, hj_si, hj_sr, hr_si, hr_sj, hi_si, hj_sj, hr_sr, mg_si, mg_sj, mg_sr, Nat.reduceAdd, Nat.reduceMul, Nat.reduceSub, Nat.reduceLT, Nat.reduceGT, Nat.reduceEqDiff, Nat.reduceLeDiff, Nat.left_eq_add, Nat.add_eq_left, Nat.reduceMod, Nat.reduceDiv, Nat.succ_ne_self, g, d5, nn_le, le, w8, e00, e10, p4, c33, es, lp, run1, g1, d51, ed, u680, eh3, g3, o53, kbT, kbF, run3, eh4]
    · rw [if_neg qw]
      have t52 := R1.F.f 81 52 115 (by decide +kernel)
      have g5 := R1.F.g 115 12 38 (by decide +kernel)
      have r6 := R1.F.f 115 6 118 (by decide +kernel)
      have g118 := R1.F.g 118 100 250 (by decide +kernel)
      have l118 := R1.F.l 118 100 250 (by decide +kernel)
      have a1 := R1.a s.p hp
      have u68f : (q.w = 0) = False := eq_false qw
      obtain ⟨x, ex⟩ : ∃ x : Int32, (if m = true ∨ ¬ (al s.p &&& q.w) = 0 then (0 : Int32) else 1) = x := ⟨_, rfl⟩
      rw [ex]
      obtain ⟨h4, eh4⟩ : ∃ h4, mh_si (mh_si h1 81 65 (Int32.ofNat (s.d + 1))) 81 54 (s.o + x) = h4 := ⟨_, rfl⟩
      have f4 : fG rvW h1 h4 := by rw [← eh4]; exact fG_t (fG_si (Or.inr (Or.inr (Or.inr ⟨rfl, by omega⟩)))) (fG_si (Or.inr (Or.inr (Or.inr ⟨rfl, by omega⟩))))
      have i4 : ∀ b j, ¬ (b = 81 ∧ (j = 65 ∨ j = 54)) → mh_i h4 b j = mh_i h1 b j := fun b j z => by rw [← eh4, hi_si, if_neg (by omega), hi_si, if_neg (by omega)]
      have T4 : RRS h4 (s.p, q.c, q.V, q.P, s.o + x, s.d + 1, q.w) := RRS.of ⟨by rw [i4 _ _ (by omega)]; exact p41, by rw [i4 _ _ (by omega)]; exact u67, by rw [i4 _ _ (by omega)]; exact u68, by rw [← eh4, hi_si, if_pos ⟨rfl, rfl⟩]; rfl, by rw [← eh4, hi_si, if_neg (by omega), hi_si, if_pos ⟨rfl, rfl⟩]; rfl, by rw [← uV]; exact funext fun j => i4 _ _ (by omega), by rw [← uP]; exact funext fun j => i4 _ _ (by omega), qp⟩
      have fin := FIN k h4 _ (some (.int r)) (RRI_G f4 R1) T4 hp (by show s.d + 1 + k = M; omega) (Or.inr (Or.inr qw))
      refine ⟨h4, some (.int r), fG_t f1' f4, by rw [i4 _ _ (by omega), i1 55 (by omega)], T4, hp, fun Q => ?_⟩
      rw [← fin Q]
      have sp250 : s.p < 250 := by omega
      by_cases cc : m = true ∨ ¬ (al s.p &&& q.w) = 0
      · rw [if_pos cc] at ex
        subst ex
        clear R R1 RU T T4 S ih FIN fin f1 f1' f4 i1 i4 hr
        rw [s_366_96]
        cases m with
        | true =>
          have nt : (!true) = false := rfl
          rw [nt]
          simp (disch := omega) only [s_366_0, s_366_1, s_366_4, s_366_5, s_366_8, s_366_11, s_366_12, s_366_13, s_366_14, s_366_15, s_366_18, s_366_19, s_366_20, s_366_23, s_366_24, s_366_25, s_366_28, s_366_29, s_366_30, s_366_33, s_366_34, s_366_37, s_366_38, s_366_41, s_366_42, s_366_45, s_366_46, s_366_47, s_366_48, s_366_49, s_366_52, s_366_53, s_366_56, s_366_59, s_366_60, s_366_63, s_366_64, s_366_67, s_366_68, s_366_71, s_366_72, s_366_73, s_366_76, s_366_77, s_366_80, s_366_81, s_366_84, s_366_87, s_366_88, s_366_91, s_366_92, s_366_93, s_366_97, s_366_100, s_366_101, s_366_104, s_366_105, s_366_108, s_366_111, s_366_112, s_366_115, s_366_116, s_366_119, s_366_120, s_366_121, s_366_124, s_366_125, s_366_128, s_366_129, s_366_130, s_366_131, s_366_134, s_366_135, s_366_136, s_366_139, s_366_140, s_366_143, s_366_146, s_366_147, s_366_148, s_366_151, s_366_152, s_366_153, s_366_156, s_366_157, s_366_160, s_366_161, s_366_164, s_366_167, s_366_168, s_366_171, s_366_172, s_366_173, s_366_176, s_366_179, s_366_180, s_366_181, s_366_184, s_366_185, s_366_188, s_366_189, s_366_192, s_366_195, s_366_196, s_366_199, s_366_200, s_366_201, s_366_204, s_366_205, s_366_208, s_366_209, s_366_212, s_366_213, s_366_214, s_366_217, s_366_220, s_366_221, s_366_222, s_366_225, s_366_226, s_366_229, s_366_232, s_366_235, s_366_236, s_366_239, s_366_242, s_366_243, s_366_246, s_366_249, s_366_250, s_366_253, s_366_254, s_366_257, s_366_258, s_366_259, s_366_262, s_366_263, s_366_266, s_366_268, e_366, mv_i_1, mv_l_1, mv_a_1, mv_a_2, mv_a_3, mk2_n, mk2_i, mk2_l, mk2_a, mk2_u, mk2_x, mB_T, mB_F, mS_cons, mS_nil, mSB_T, mSB_F, mca_nil, mca_i, mca_l, mca_r, mca_u, mca_x, mcat_i, mcat_l, mcat_r, mcat_u, mcat_x, mK_some, mK_none, va_rf_s, va_rf_n, lgc_eq, lgc_lt, lgc_gt, lgc_ge, lgc_le, mrd_104, mrd_105, mrd_106, mrd_107, true_and, and_true, and_self, false_and, and_false, true_or, or_true, false_or, or_false, not_true_eq_false, not_false_eq_true, mgb, mga, mgr, mN, reduceCtorEq, ↓reduceIte, eq_self, ge_iff_le, gt_iff_lt, hk_si, hk_sj, hk_sr, hl_si, hl_sj, hl_sr, hn_si, hn_sj, hn_sr, hs_si, hs_sj, hs_sr, hi_sj, hi_sr, hj_si, hj_sr, hr_si, hr_sj, hi_si, hj_sj, hr_sr, mg_si, mg_sj, mg_sr, Nat.reduceAdd, Nat.reduceMul, Nat.reduceSub, Nat.reduceLT, Nat.reduceGT, Nat.reduceEqDiff, Nat.reduceLeDiff, Nat.left_eq_add, Nat.add_eq_left, Nat.reduceMod, Nat.reduceDiv, Nat.succ_ne_self, g, d5, nn_le, le, w8, e00, p4, c33, es, lp, run1, g1, d51, ed, u68, u68f, o51, kbF, eh4]
        | false =>
          have nt : (!false) = true := rfl
          rw [nt]
          have an : (al s.p &&& q.w = 0) = False := eq_false (cc.resolve_left (by decide))
          simp (disch := omega) only [s_366_0, s_366_1, s_366_4, s_366_5, s_366_8, s_366_11, s_366_12, s_366_13, s_366_14, s_366_15, s_366_18, s_366_19, s_366_20, s_366_23, s_366_24, s_366_25, s_366_28, s_366_29, s_366_30, s_366_33, s_366_34, s_366_37, s_366_38, s_366_41, s_366_42, s_366_45, s_366_46, s_366_47, s_366_48, s_366_49, s_366_52, s_366_53, s_366_56, s_366_59, s_366_60, s_366_63, s_366_64, s_366_67, s_366_68, s_366_71, s_366_72, s_366_73, s_366_76, s_366_77, s_366_80, s_366_81, s_366_84, s_366_87, s_366_88, s_366_91, s_366_92, s_366_93, s_366_97, s_366_100, s_366_101, s_366_104, s_366_105, s_366_108, s_366_111, s_366_112, s_366_115, s_366_116, s_366_119, s_366_120, s_366_121, s_366_124, s_366_125, s_366_128, s_366_129, s_366_130, s_366_131, s_366_134, s_366_135, s_366_136, s_366_139, s_366_140, s_366_143, s_366_146, s_366_147, s_366_148, s_366_151, s_366_152, s_366_153, s_366_156, s_366_157, s_366_160, s_366_161, s_366_164, s_366_167, s_366_168, s_366_171, s_366_172, s_366_173, s_366_176, s_366_179, s_366_180, s_366_181, s_366_184, s_366_185, s_366_188, s_366_189, s_366_192, s_366_195, s_366_196, s_366_199, s_366_200, s_366_201, s_366_204, s_366_205, s_366_208, s_366_209, s_366_212, s_366_213, s_366_214, s_366_217, s_366_220, s_366_221, s_366_222, s_366_225, s_366_226, s_366_229, s_366_232, s_366_235, s_366_236, s_366_239, s_366_242, s_366_243, s_366_246, s_366_249, s_366_250, s_366_253, s_366_254, s_366_257, s_366_258, s_366_259, s_366_262, s_366_263, s_366_266, s_366_268, e_366, mv_i_1, mv_l_1, mv_a_1, mv_a_2, mv_a_3, mk2_n, mk2_i, mk2_l, mk2_a, mk2_u, mk2_x, mB_T, mB_F, mS_cons, mS_nil, mSB_T, mSB_F, mca_nil, mca_i, mca_l, mca_r, mca_u, mca_x, mcat_i, mcat_l, mcat_r, mcat_u, mcat_x, mK_some, mK_none, va_rf_s, va_rf_n, lgc_eq, lgc_lt, lgc_gt, lgc_ge, lgc_le, mrd_104, mrd_105, mrd_106, mrd_107, true_and, and_true, and_self, false_and, and_false, true_or, or_true, false_or, or_false, not_true_eq_false, not_false_eq_true, mgb, mga, mgr, mN, reduceCtorEq, ↓reduceIte, eq_self, ge_iff_le, gt_iff_lt, hk_si, hk_sj, hk_sr, hl_si, hl_sj, hl_sr, hn_si, hn_sj, hn_sr, hs_si, hs_sj, hs_sr, hi_sj, hi_sr, hj_si, hj_sr, hr_si, hr_sj, hi_si, hj_sj, hr_sr, mg_si, mg_sj, mg_sr, Nat.reduceAdd, Nat.reduceMul, Nat.reduceSub, Nat.reduceLT, Nat.reduceGT, Nat.reduceEqDiff, Nat.reduceLeDiff, Nat.left_eq_add, Nat.add_eq_left, Nat.reduceMod, Nat.reduceDiv, Nat.succ_ne_self, g, d5, nn_le, le, w8, e00, e10, p4, c33, es, lp, run1, g1, d51, ed, u68, u68f, o51, kbT, t52, g5, r6, g118, l118, p41, a1, an, eh4, nn_mxT, nn_clamp]
      · rw [if_neg cc] at ex
        subst ex
        clear R R1 RU T T4 S ih FIN fin f1 f1' f4 i1 i4 hr
        rw [s_366_96]
        cases m with
        | true => exact absurd (Or.inl rfl) cc
        | false =>
          have nt : (!false) = true := rfl
          rw [nt]
          have an : (al s.p &&& q.w = 0) = True := eq_true (Classical.byContradiction (fun z => cc (Or.inr z)))
          simp (disch := omega) only [s_366_0, s_366_1, s_366_4, s_366_5, s_366_8, s_366_11, s_366_12, s_366_13, s_366_14, s_366_15, s_366_18, s_366_19, s_366_20, s_366_23, s_366_24, s_366_25, s_366_28, s_366_29, s_366_30, s_366_33, s_366_34, s_366_37, s_366_38, s_366_41, s_366_42, s_366_45, s_366_46, s_366_47, s_366_48, s_366_49, s_366_52, s_366_53, s_366_56, s_366_59, s_366_60, s_366_63, s_366_64, s_366_67, s_366_68, s_366_71, s_366_72, s_366_73, s_366_76, s_366_77, s_366_80, s_366_81, s_366_84, s_366_87, s_366_88, s_366_91, s_366_92, s_366_93, s_366_97, s_366_100, s_366_101, s_366_104, s_366_105, s_366_108, s_366_111, s_366_112, s_366_115, s_366_116, s_366_119, s_366_120, s_366_121, s_366_124, s_366_125, s_366_128, s_366_129, s_366_130, s_366_131, s_366_134, s_366_135, s_366_136, s_366_139, s_366_140, s_366_143, s_366_146, s_366_147, s_366_148, s_366_151, s_366_152, s_366_153, s_366_156, s_366_157, s_366_160, s_366_161, s_366_164, s_366_167, s_366_168, s_366_171, s_366_172, s_366_173, s_366_176, s_366_179, s_366_180, s_366_181, s_366_184, s_366_185, s_366_188, s_366_189, s_366_192, s_366_195, s_366_196, s_366_199, s_366_200, s_366_201, s_366_204, s_366_205, s_366_208, s_366_209, s_366_212, s_366_213, s_366_214, s_366_217, s_366_220, s_366_221, s_366_222, s_366_225, s_366_226, s_366_229, s_366_232, s_366_235, s_366_236, s_366_239, s_366_242, s_366_243, s_366_246, s_366_249, s_366_250, s_366_253, s_366_254, s_366_257, s_366_258, s_366_259, s_366_262, s_366_263, s_366_266, s_366_268, e_366, mv_i_1, mv_l_1, mv_a_1, mv_a_2, mv_a_3, mk2_n, mk2_i, mk2_l, mk2_a, mk2_u, mk2_x, mB_T, mB_F, mS_cons, mS_nil, mSB_T, mSB_F, mca_nil, mca_i, mca_l, mca_r, mca_u, mca_x, mcat_i, mcat_l, mcat_r, mcat_u, mcat_x, mK_some, mK_none, va_rf_s, va_rf_n, lgc_eq, lgc_lt, lgc_gt, lgc_ge, lgc_le, mrd_104, mrd_105, mrd_106, mrd_107, true_and, and_true, and_self, false_and, and_false, true_or, or_true, false_or, or_false, not_true_eq_false, not_false_eq_true, mgb, mga, mgr, mN, reduceCtorEq, ↓reduceIte, eq_self, ge_iff_le, gt_iff_lt, hk_si, hk_sj, hk_sr, hl_si, hl_sj, hl_sr, hn_si, hn_sj, hn_sr, hs_si, hs_sj, hs_sr, hi_sj, hi_sr, hj_si, hj_sr, hr_si, hr_sj, hi_si, hj_sj, hr_sr, mg_si, mg_sj, mg_sr, Nat.reduceAdd, Nat.reduceMul, Nat.reduceSub, Nat.reduceLT, Nat.reduceGT, Nat.reduceEqDiff, Nat.reduceLeDiff, Nat.left_eq_add, Nat.add_eq_left, Nat.reduceMod, Nat.reduceDiv, Nat.succ_ne_self, g, d5, nn_le, le, w8, e00, e10, p4, c33, es, lp, run1, g1, d51, ed, u68, u68f, o51, kbT, t52, g5, r6, g118, l118, p41, a1, an, eh4, nn_mxT, nn_clamp]
end RIs
