set_option maxRecDepth 100000
/-! CHECKS: call, whole -/
section CNa
variable {d : Nat} {h h1 h2 : mh_H} {s0 s1 o o' p q k e0 br T x to n ho fa m m2 b f e g : Nat} {E : nv} {D : fd} {w0 : wd} {s X O F1 F2 : Option ab} {G : pgm} {J : pin} {cl : Nat → Option ab} {cs r c bs t : tr} {A : ab} {fst oth : Nat → Nat} {u u2 : Unit} {tk : Option Nat} {al : Int32}
theorem stm_cc (H : CHX G J e0 cl) (B : BQc G J D cl e0 fst oth f) (hk : tK n = 7) (hen : J.en p = E.en) (e1 : G.n p = E.nu) (e2 : G.a p = E.ar) (e3 : ∀ x, x < E.ar → E.rm x = G.rm p x) (hkd : G.kd p = 4) (jc : J.c p = 6) (jt : J.t p = t) (hR : eRo E t) (hpE : p < G.E p) (hE : G.E p ≤ e0) (hfu : E.fu ≤ D.c) (hg : g < E.fu) (hm : D.m g = tV m2) (hn : ∀ g', g < g' → g' < E.fu → D.m g' ≠ tV m2) (htl : tl t = (D.p g).length) (hnu : E.nu + tl t ≤ 12) (hT : E.T + tl t ≤ 64) (htk : (tK m = 13 ∧ E.sN (tV m) ∧ E.en (tV m) < E.nu ∧ tk = some (E.en (tV m))) ∨ (¬ tK m = 13 ∧ tk = none)) (L1 : LW G J D f (D.t g) (p + 1) (G.E p) ((E.go g tk).addL (D.p g))) {nx' : Nat} (f1 : fst p = if p + 1 < G.E p then p + 1 else nx') (U1 : SUC G fst oth f (p + 1) (G.E p) nx') (hnx : nx' ≤ e0) (hdm : G.n nx' ≤ E.nu ∧ G.a nx' ≤ E.ar) (S : SC h s0 o E D w0 G e0 cl br) (N : nd (mh_i h 93) (mh_i h 95) (mh_i h 97) k (.branch n (.branch m (.leaf u) (.branch m2 (.leaf u2) t)) r)) (hb : k + 1 + ts (.branch m (.leaf u) (.branch m2 (.leaf u2) t)) ≤ 26000) (hs : s0 + 3 * (G.E p - p) + 360 ≤ 2048) (hd : 4 * (G.E p - p) + 839 ≤ d) : ∃ h' b', rq s0 (sV o E.T) h h' ∧ SC h' s0 o E D w0 G e0 cl b' ∧ BRK (VI G cl fst oth) p (G.E p) br b' ∧ ∀ Q, mcall d 261 [.ref 115, .int (Int32.ofNat k), .int (Int32.ofNat p), .int (Int32.ofNat nx'), .ref o] h Q = Q none h' := by
  obtain ⟨d, rfl⟩ : ∃ d', d = d' + 6 := ⟨d - 6, by omega⟩
  have tsu : ts (.branch m (.leaf u) (.branch m2 (.leaf u2) t)) = 2 + ts t := by rw [ts_B, ts_B]; show 1 + 0 + (1 + 0 + ts t) = _; omega
  have n3 := N.2.2.1
  rw [tsu] at hb n3
  have he := H.he
  have hp : p < e0 := by omega
  have o1 : p < 250 := by omega
  have o2 : s0 + 2 ≤ 2048 := by omega
  have o3 : s0 + 1 ≤ 2048 := by omega
  have o4 : s0 + 1 + 3 * (G.E p - (p + 1)) + 360 ≤ 2048 := by omega
  have o5 : 4 * (G.E p - (p + 1)) + 840 ≤ d + 4 := by omega
  have o6 : 2 * (G.E p - (p + 1)) + 10 ≤ d + 4 := by omega
  have o7 : G.E p ≤ 249 := by omega
  have o8 : g < D.c := by omega
  have o9 : E.T + (D.p g).length ≤ 64 := by omega
  have oA : 700 ≤ d + 4 := by omega
  have w1 : k < 26000 := by omega
  have w2 : k + 3 + ts t ≤ 26000 := by omega
  have w3 : k + (1 + (2 + ts t)) ≤ 26000 := by omega
  have w4 : k + 3 + ts t = k + (1 + (2 + ts t)) := by omega
  have nk : mh_i h 93 k = 7 := by rw [N.1, hk]; rfl
  have J0 := S.A.j
  have lo := sp_lo J0 (lv_sp S.l)
  have run0 := stm_0c (d := d + 6) (o := o) (nx := Int32.ofNat nx') S.A S.C.z o1 w1 nk
  have n4 := N.2.2.2.1
  obtain ⟨h1, b, A, x1, S1, hA, ⟨u1, u2', u3⟩, C1, run1⟩ := cal_0c (d := d + 2) (nx' := Int32.ofNat nx') H S e1 e2 e3 hp hfu hg hm hn htk n4 w2 o3
  obtain ⟨fe1, -⟩ := fo_6 (E := E) H.hG hen jc jt hA
  rw [← u1, ← u2', ← u3] at n4
  rw [← u3] at n3
  have nt : nd (mh_i h1 93) (mh_i h1 95) (mh_i h1 97) (k + 3) t := n4.2.2.2.2.2.2.2.2
  obtain ⟨h2, x2, S2, -, c2, b2, run2⟩ := call_l (d := d + 4) (G := G) (kN := k) (z := 1 + (2 + ts t)) (x2 := some (.int (Int32.ofNat p))) (x3 := some (.int (Int32.ofNat nx'))) (x5 := some (.int (kb (decide (cl p ≠ none))))) (x6 := some (.int (Int32.ofNat s0))) (x7 := some (.ref b)) (x8 := some (.int (Int32.ofNat g))) (x9 := some (.int (tkV tk))) (n10 := Int32.ofNat E.nu) w1 w3 oA t (k + 3) (cl p) E.nu 0 h1 S1 hR nt w4 n3 hnu (Nat.le_refl _)
  have C2 := ck_t C1 S1.R lo he x2 c2 b2
  have q := LW_Q f (D.t g) (p + 1) (G.E p) _ L1 o7
  rw [addL_fu] at q
  have q' : PQ D (D.t g) (p + 1) (G.E p) g := q
  obtain ⟨p1, p2, p3, p4, p5⟩ := addL_p (E := E.go g tk) (D.p g)
  have p1' : ((E.go g tk).addL (D.p g)).T = E.T + (D.p g).length := p1
  have p2' : ((E.go g tk).addL (D.p g)).nu = E.nu + (D.p g).length := p2
  have p3' : ((E.go g tk).addL (D.p g)).ar = E.ar := p3
  have p4' : ((E.go g tk).addL (D.p g)).rm = E.rm := p4
  have sh3 : shp ((E.go g tk).addL (D.p g)).nu ((E.go g tk).addL (D.p g)).ar ((E.go g tk).addL (D.p g)).rm (a_call E.en A t (cl p)).1 := fun B' e => by
    obtain ⟨b1, b2, b3, b4⟩ := S2.ok B' e
    obtain ⟨T', a1, a2, a4⟩ := (S2.kb (fun z => by rw [z] at e; cases e)).2 A rfl
    rw [p2', p3', p4']
    exact ⟨b1, by rw [b2, htl], b3.trans a2, fun x hx => by rw [b4]; exact a4 x hx⟩
  have m12 := S.m
  generalize et : (if p + 1 < G.E p then p + 1 else nx') = to at f1
  have d1 : to ≤ e0 ∧ G.n to ≤ ((E.go g tk).addL (D.p g)).nu ∧ G.a to ≤ ((E.go g tk).addL (D.p g)).ar := by
    rw [← et]
    by_cases z : p + 1 < G.E p
    · rw [if_pos z]
      have := LW_d L1 z
      exact ⟨by omega, by omega, by omega⟩
    · rw [if_neg z]; exact ⟨hnx, by omega, by omega⟩
  have h12 : G.n to ≤ 12 ∧ G.a to ≤ 6 := by omega
  have m12' : ((E.go g tk).addL (D.p g)).nu ≤ 12 ∧ ((E.go g tk).addL (D.p g)).ar ≤ 6 := by omega
  have hdm' : G.n nx' ≤ ((E.go g tk).addL (D.p g)).nu ∧ G.a nx' ≤ ((E.go g tk).addL (D.p g)).ar := by omega
  have leT : E.T ≤ ((E.go g tk).addL (D.p g)).T := by omega
  obtain ⟨h3, v13, x3, R3, l3, k3, C3, run3⟩ := cal_1c (d := d + 4) (nx' := nx') (tk := tk) (x1 := some (.int (Int32.ofNat k))) (x5 := some (.int (kb (decide (cl p ≠ none))))) (x6 := some (.int (Int32.ofNat s0))) (x7 := some (.ref b)) (x10 := some (.int (Int32.ofNat E.nu))) (n11 := Int32.ofNat (E.nu + tl t)) (x12 := some (.int (Int32.ofNat (k + (1 + (2 + ts t)))))) H S2.R S2.l S2.k C2 d1.1 et (shp_sg sh3 d1.2.1 d1.2.2) h12 o2 o1 o8 q' o9 o6
  obtain ⟨y1, -, -, -, y5, y6⟩ := R3.X g o8
  obtain ⟨h4, b4, x4, S4, brk4, run4⟩ := B (D.t g) (p + 1) (G.E p) _ L1 (d + 4) (D.b g) (s0 + 1) o nx' h3 w0 _ U1 hnx hE hdm' (SC.of ⟨R3, lv_w l3 (by omega), ⟨_, k3, sh3⟩, m12', C3, S.w⟩) y6 y1 y5 o4 o5
  have x4' : rq s0 (sV o E.T) h3 h4 := sV_sp x4 (by omega) leT (Or.inl rfl)
  have xa : rq s0 (sV o E.T) h h4 := rq_t x1 (rq_t x2 (rq_t x3 x4'))
  obtain ⟨Y, kY, sY⟩ := S4.k
  have shX : shg E.nu E.ar E.rm Y := ⟨_, _, _, by omega, by omega, fun x _ => by rw [p4'], sY⟩
  obtain ⟨h5, x5, R5, k5, a5, c5, b5, run5⟩ := cal_9 (d := d + 4) (G := G) (v13 := v13) (x1 := some (.int (Int32.ofNat k))) (x2 := some (.int (Int32.ofNat p))) (x3 := some (.int (Int32.ofNat nx'))) (x5 := some (.int (kb (decide (cl p ≠ none))))) (x7 := some (.ref b)) (x8 := some (.int (Int32.ofNat g))) (x9 := some (.int (tkV tk))) (x11 := some (.int (Int32.ofNat (E.nu + tl t)))) (x16 := some (.int (Int32.ofNat (D.b g)))) (x17 := some (.int (Int32.ofNat (G.E p - (p + 1))))) (x18 := some (.int (Int32.ofNat (D.b g)))) S.A xa S4.A (rq_lv x4 l3) kY shX S.m p3'
  have C5 := ck_t S4.C S4.A lo he x5 c5 b5
  have hk56 : ¬ (G.kd p = 5 ∨ G.kd p = 6) := by omega
  have bb := brk_1 (S := VI G cl fst oth) (p := p) (br := br) (VI_1 (cl := cl) (fst := fst) (oth := oth) hk56)
  rw [f1, fe1] at bb
  refine ⟨h5, b4, rq_t xa x5, SC.of ⟨R5, rq_lv x5 (rq_lv x4 l3), ⟨_, k5, keep_shp shX⟩, S.m, C5, S.w⟩, brk_t bb brk4 (by omega) (by omega), fun Q => ?_⟩
  have g0 := J0.a.g
  have g3 := R3.j.a.g
  have e1' : ∀ k, Int32.ofNat k + 1 = Int32.ofNat (k + 1) := fun k => nn_add (a := k) (b := 1)
  have run : ∀ Q, mcall (d + 5) 265 [.ref 115, .int (Int32.ofNat k), .int (Int32.ofNat p), .int (Int32.ofNat nx'), .ref o] h Q = Q none h5 := fun Q => by
    have r1 := run1 Q
    have r2 := run2 Q
    have r3 := run3 Q
    have r5 := run5 Q
    refine r1.trans (r2.trans (r3.trans (Eq.trans ?_ r5)))
    clear S S1 S2 S4 R3 R5 B L1 k3 k5 kY x1 x2 x3 x4 x4' x5 xa N n4 nt run0 run1 run2 run3 run5 c2 c5 sh3 shX q q' hR y6 H C1 C2 C3 C5 J0 bb brk4 U1 sY r1 r2 r3 r5
    rw [s_265_242]
    simp (disch := omega) only [s_265_0, s_265_1, s_265_2, s_265_4, s_265_7, s_265_9, s_265_10, s_265_13, s_265_15, s_265_16, s_265_18, s_265_21, s_265_21n, s_265_23, s_265_24, s_265_26, s_265_26n, s_265_29, s_265_30, s_265_31, s_265_34, s_265_36, s_265_37, s_265_40, s_265_41, s_265_42, s_265_43, s_265_44, s_265_46, s_265_49, s_265_50, s_265_51, s_265_52, s_265_53, s_265_56, s_265_59, s_265_60, s_265_62, s_265_63, s_265_66, s_265_68, s_265_70, s_265_72, s_265_73, s_265_74, s_265_75, s_265_77, s_265_79, s_265_80, s_265_81, s_265_84, s_265_87, s_265_89, s_265_92, s_265_95, s_265_96, s_265_98, s_265_100, s_265_101, s_265_103, s_265_106, s_265_109, s_265_111, s_265_113, s_265_116, s_265_117, s_265_119, s_265_122, s_265_124, s_265_127, s_265_128, s_265_129, s_265_132, s_265_133, s_265_136, s_265_138, s_265_139, s_265_142, s_265_144, s_265_145, s_265_148, s_265_150, s_265_151, s_265_154, s_265_156, s_265_157, s_265_159, s_265_162, s_265_164, s_265_165, s_265_167, s_265_170, s_265_172, s_265_173, s_265_174, s_265_176, s_265_179, s_265_180, s_265_181, s_265_182, s_265_185, s_265_186, s_265_188, s_265_191, s_265_192, s_265_194, s_265_197, s_265_198, s_265_199, s_265_202, s_265_205, s_265_206, s_265_208, s_265_211, s_265_212, s_265_215, s_265_217, s_265_218, s_265_219, s_265_220, s_265_222, s_265_224, s_265_226, s_265_229, s_265_230, s_265_232, s_265_233, s_265_236, s_265_239, s_265_242, s_265_243, s_265_245, s_265_246, s_265_247, s_265_248, s_265_249, s_265_251, s_265_255, s_265_257, s_265_260, s_265_261, s_265_263, s_265_266, s_265_267, s_265_269, s_265_272, s_265_273, s_265_275, s_265_278, s_265_279, s_265_281, s_265_284, s_265_286, s_265_288, s_265_289, s_265_292, s_265_295, s_265_296, s_265_298, s_265_301, e_265, mv_i_1, mv_l_1, mv_a_1, mv_a_2, mv_a_3, mk2_n, mk2_i, mk2_l, mk2_a, mk2_u, mk2_x, mB_T, mB_F, mS_cons, mS_nil, mSB_T, mSB_F, mca_nil, mca_i, mca_l, mca_r, mca_u, mca_x, mcat_i, mcat_l, mcat_r, mcat_u, mcat_x, mK_some, mK_none, va_rf_s, va_rf_n, lgc_eq, lgc_lt, lgc_gt, lgc_ge, lgc_le, mrd_104, mrd_105, mrd_106, mrd_107, true_and, and_true, and_self, false_and, and_false, true_or, or_true, false_or, or_false, not_true_eq_false, not_false_eq_true, mgb, mga, mgr, mN, reduceCtorEq, ↓reduceIte, eq_self, ge_iff_le, gt_iff_lt, Nat.reduceAdd, Nat.reduceMul, Nat.reduceSub, Nat.reduceLT, Nat.reduceGT, Nat.reduceEqDiff, Nat.reduceLeDiff, Nat.left_eq_add, Nat.add_eq_left, Nat.reduceMod, Nat.reduceDiv, Nat.succ_ne_self, g3, run4, e1']
  rw [run0, ts_7]
  clear S S1 S2 S4 R3 R5 B L1 k3 k5 kY x1 x2 x3 x4 x4' x5 xa N n4 nt run0 run1 run2 run3 run4 run5 c2 c5 sh3 shX q q' hR y6 H C1 C2 C3 C5 J0 bb brk4 U1 sY
  simp (disch := omega) only [s_261_0, s_261_1, s_261_4, s_261_5, s_261_6, s_261_9, s_261_12, s_261_13, s_261_16, s_261_17, s_261_18, s_261_21, s_261_22, s_261_25, s_261_26, s_261_27, s_261_30, s_261_31, s_261_32, s_261_35, s_261_38, s_261_39, s_261_42, s_261_43, s_261_44, s_261_47, s_261_48, s_261_51, s_261_52, s_261_53, s_261_56, s_261_57, s_261_84, s_261_85, s_261_86, s_261_87, s_261_88, s_261_90, s_261_93, s_261_96, s_261_97, s_261_98, s_261_99, s_261_100, s_261_102, s_261_105, s_261_108, s_261_109, s_261_110, s_261_111, s_261_112, s_261_114, s_261_117, s_261_120, s_261_121, s_261_122, s_261_124, s_261_127, s_261_129, s_261_130, s_261_131, s_261_133, s_261_135, s_261_138, s_261_139, s_261_140, s_261_143, s_261_144, s_261_145, s_261_146, s_261_148, s_261_151, e_261, mv_i_1, mv_l_1, mv_a_1, mv_a_2, mv_a_3, mk2_n, mk2_i, mk2_l, mk2_a, mk2_u, mk2_x, mB_T, mB_F, mS_cons, mS_nil, mSB_T, mSB_F, mca_nil, mca_i, mca_l, mca_r, mca_u, mca_x, mcat_i, mcat_l, mcat_r, mcat_u, mcat_x, mK_some, mK_none, va_rf_s, va_rf_n, lgc_eq, lgc_lt, lgc_gt, lgc_ge, lgc_le, mrd_104, mrd_105, mrd_106, mrd_107, true_and, and_true, and_self, false_and, and_false, true_or, or_true, false_or, or_false, not_true_eq_false, not_false_eq_true, mgb, mga, mgr, mN, reduceCtorEq, ↓reduceIte, eq_self, ge_iff_le, gt_iff_lt, Nat.reduceAdd, Nat.reduceMul, Nat.reduceSub, Nat.reduceLT, Nat.reduceGT, Nat.reduceEqDiff, Nat.reduceLeDiff, Nat.left_eq_add, Nat.add_eq_left, Nat.reduceMod, Nat.reduceDiv, Nat.succ_ne_self, g0, run]
end CNa
