set_option maxRecDepth 100000
/-! statement: call, its end -/
section CEs
variable {d : Nat} {hs h h1 h2 : mh_H} {s0 s1 sA o b p k kN z x T f g kE a : Nat} {E E1 : nv} {D : fd} {w0 w1 : wd} {s O X : Option ab} {G : pgm} {J : pin} {A : ab} {nx' : Int32} {t cs r : tr} {m m2 n : Nat} {u u2 : Unit} {al : Int32} {tk : Option Nat}
/-- cut, whatever is known -/
theorem k_290o {r' : Nat → Nat} (kx : RK h o X) (hs : shg n a r' X) (hn : n ≤ 12) (ha : a ≤ 6) : ∃ h', fq (kW o) h h' ∧ RK h' o (o_keep n a X) ∧ mh_i h' o 2 = Int32.ofNat a ∧ ∀ Q, mcall d 290 [.ref o, .int (Int32.ofNat n), .int (Int32.ofNat a)] h Q = Q none h' := by
  have go := (RK_ko kx).1
  have ex : ∀ Q, mcall d 290 [.ref o, .int (Int32.ofNat n), .int (Int32.ofNat a)] h Q = Q none (mh_si (mh_si h o 1 (Int32.ofNat n)) o 2 (Int32.ofNat a)) := fun Q => c_290 go
  cases X with
  | none =>
    obtain ⟨h', f', k', run⟩ := k_290n (d := d) (n := n) (a := a) kx hn ha
    have e := cal_u run ex
    exact ⟨h', f', k', by rw [e, hi_si, if_pos ⟨rfl, rfl⟩], run⟩
  | some A =>
    obtain ⟨n', a', r2, q1, q2, q3, q4⟩ := hs
    obtain ⟨T', e1, e2, e3⟩ := q4 A rfl
    obtain ⟨h', f', k', run⟩ := k_290 (d := d) (n := n) (a := a) kx (by omega) (by omega)
    have e := cal_u run ex
    exact ⟨h', f', k', by rw [e, hi_si, if_pos ⟨rfl, rfl⟩], run⟩
theorem keep_keep {n' a' : Nat} : o_keep n a (o_keep n' a' X) = o_keep n a X := by cases X <;> rfl
theorem fo_6 (hG : G.fx = fxJ J) (hen : J.en p = E.en) (jc : J.c p = 6) (jt : J.t p = t) (hA : ∀ A0, s = some A0 → A = A0) : (fo G p s).1 = (a_call E.en A t s).1 ∧ (fo G p s).2.2 = (a_call E.en A t s).2 := by
  cases s with
  | none => rw [call_n]; exact ⟨rfl, rfl⟩
  | some A0 =>
    rw [fx_J (E := E) hG hen jc, jt, hA A0 rfl]
    exact ⟨rfl, rfl⟩
theorem DS_4 {rc : rc3} (h4 : G.kd p = 4) : DS G rc p s w0 = (o_keep (G.n p) (G.a p) (rc (p + 1) (G.E p) (fo G p s).1 (wl p s (fo G p s).2.2 w0)).1, (rc (p + 1) (G.E p) (fo G p s).1 (wl p s (fo G p s).2.2 w0)).2.1, 1 + (rc (p + 1) (G.E p) (fo G p s).1 (wl p s (fo G p s).2.2 w0)).2.2) := by
  unfold DS
  rw [if_pos h4]
/-- its end -/
theorem cal_9 (A0 : RA hs sA E D w1) (x : rq s0 (sV o E.T) hs h) (R : RA h s1 E1 D w0) (l : lv h s0 o) (kx : RK h o X) (sh : shg E.nu E.ar E.rm X) (m12 : E.nu ≤ 12 ∧ E.ar ≤ 6) (eA : E1.ar = E.ar) {v13 : Int32} {x1 x2 x3 x5 x7 x8 x9 x11 x16 x17 x18 : Option Value} : ∃ h', rq s0 (sV o E.T) h h' ∧ RA h' s0 E D w0 ∧ RK h' o (o_keep E.nu E.ar X) ∧ mh_i h' o 2 = Int32.ofNat E.ar ∧ (∀ q, cnQ G h q → cnQ G h' q) ∧ mh_i h' 115 35 = mh_i h 115 35 ∧ ∀ Q, mw (d + 1) 265 Q 254 [some (.ref 115), x1, x2, x3, some (.ref o), x5, some (.int (Int32.ofNat s0)), x7, x8, x9, some (.int (Int32.ofNat E.nu)), x11, some (.int (Int32.ofNat E.fu)), some (.int v13), some (.int (Int32.ofNat E.T)), some (.int (tkV E.ta)), x16, x17, x18] [] h = Q none h' := by
  have so := lv_sp l
  have lo := sp_lo R.j so
  generalize eh : mh_si (mh_si (mh_si (mh_si (mh_si h 115 14 (Int32.ofNat E.fu)) 115 19 v13) 115 18 (Int32.ofNat E.T)) 115 22 (tkV E.ta)) 115 20 (Int32.ofNat E.nu) = h1
  have i : ∀ c j, ¬ (c = 115 ∧ (j = 14 ∨ j = 19 ∨ j = 18 ∨ j = 22 ∨ j = 20)) → mh_i h1 c j = mh_i h c j := fun c j hc => by rw [← eh, hi_si, if_neg (by omega), hi_si, if_neg (by omega), hi_si, if_neg (by omega), hi_si, if_neg (by omega), hi_si, if_neg (by omega)]
  have i18 : mh_i h1 115 18 = Int32.ofNat E.T := by rw [← eh, hi_si, if_neg (by omega), hi_si, if_neg (by omega), hi_si, if_pos ⟨rfl, rfl⟩]
  have i20 : mh_i h1 115 20 = Int32.ofNat E.nu := by rw [← eh, hi_si, if_pos ⟨rfl, rfl⟩]
  have i14 : mh_i h1 115 14 = Int32.ofNat E.fu := by rw [← eh, hi_si, if_neg (by omega), hi_si, if_neg (by omega), hi_si, if_neg (by omega), hi_si, if_neg (by omega), hi_si, if_pos ⟨rfl, rfl⟩]
  have i22 : mh_i h1 115 22 = tkV E.ta := by rw [← eh, hi_si, if_neg (by omega), hi_si, if_pos ⟨rfl, rfl⟩]
  have i21 : mh_i h1 115 21 = Int32.ofNat E.ar := by rw [i _ _ (by omega), R.a, eA]
  have x1' : rq s0 (sV o E.T) h h1 := by
    rw [← eh]
    exact rq_t (sV_115 (by omega)) (rq_t (sV_115 (by omega)) (rq_t (sV_115 (by omega)) (rq_t (sV_115 (by omega)) (sV_115 (by omega)))))
  have R1 : RA h1 s1 E D w0 := ra_back A0 lo x R (by rw [← eh]; rfl) (by rw [← eh]; rfl) (by rw [← eh]; rfl) (by rw [← eh]; rfl) (by rw [← eh]; rfl) (fun c j hc => i c j (by omega)) i18 i20 i21 i14 i22 (i _ _ (by omega)) (i _ _ (by omega)) (i _ _ (by omega)) (i _ _ (by omega))
  have z1 : fz (fun b _ => b = 115) h h1 := by
    rw [← eh]
    exact fz_t (fz_si rfl) (fz_t (fz_si rfl) (fz_t (fz_si rfl) (fz_t (fz_si rfl) (fz_si rfl))))
  have k1 : RK h1 o X := RK_fz z1 (fun y hy j w => by omega) kx
  have er : mh_r h1 = mh_r h := by rw [← eh]; rfl
  have so1 : sp h1 o := by unfold sp; rw [er]; exact so
  obtain ⟨h2, f2, k2, a2, run2⟩ := k_290o (d := d) k1 sh m12.1 m12.2
  have R2 := ra_k R1 so1 f2 (RK_ko k2)
  refine ⟨mh_si h2 115 11 (Int32.ofNat s0), rq_t x1' (rq_t (sV_k R1 so1 f2) (sV_115 (by omega))), RA_11 R2, RK_fz (fz_si (W := fun b _ => b = 115) rfl) (fun y hy j w => by omega) k2, by rw [hi_si, if_neg (by omega)]; exact a2, fun q w => ?_, by rw [hi_si, if_neg (by omega), rs_ij R1.j so1 f2, i _ _ (by omega)], fun Q => ?_⟩
  · have w1' : cnQ G h1 q := cn_i w (fun b j hb => i _ _ (by omega))
    have := cn_k R1 so1 f2 w1'
    exact cn_i this (fun b j hb => by rw [hi_si, if_neg (by omega)])
  · have g := R.j.a.g
    have g1 := R1.j.a.g
    have g2 := R2.j.a.g
    have go1 := (RK_ko k1).1
    clear A0 x R l kx sh R1 R2 x1' z1 k1 k2 f2 i i18 i20 i14 i22 er
    simp (disch := omega) only [s_265_0, s_265_1, s_265_2, s_265_4, s_265_7, s_265_9, s_265_10, s_265_13, s_265_15, s_265_16, s_265_18, s_265_21, s_265_21n, s_265_23, s_265_24, s_265_26, s_265_26n, s_265_29, s_265_30, s_265_31, s_265_34, s_265_36, s_265_37, s_265_40, s_265_41, s_265_42, s_265_43, s_265_44, s_265_46, s_265_49, s_265_50, s_265_51, s_265_52, s_265_53, s_265_56, s_265_59, s_265_60, s_265_62, s_265_63, s_265_66, s_265_68, s_265_70, s_265_72, s_265_73, s_265_74, s_265_75, s_265_77, s_265_79, s_265_80, s_265_81, s_265_84, s_265_87, s_265_89, s_265_92, s_265_95, s_265_96, s_265_98, s_265_100, s_265_101, s_265_103, s_265_106, s_265_109, s_265_111, s_265_113, s_265_116, s_265_117, s_265_119, s_265_122, s_265_124, s_265_127, s_265_128, s_265_129, s_265_132, s_265_133, s_265_136, s_265_138, s_265_139, s_265_142, s_265_144, s_265_145, s_265_148, s_265_150, s_265_151, s_265_154, s_265_156, s_265_157, s_265_159, s_265_162, s_265_164, s_265_165, s_265_167, s_265_170, s_265_172, s_265_173, s_265_174, s_265_176, s_265_179, s_265_180, s_265_181, s_265_182, s_265_185, s_265_186, s_265_188, s_265_191, s_265_192, s_265_194, s_265_197, s_265_198, s_265_199, s_265_202, s_265_205, s_265_206, s_265_208, s_265_211, s_265_212, s_265_215, s_265_217, s_265_218, s_265_219, s_265_220, s_265_222, s_265_224, s_265_226, s_265_229, s_265_230, s_265_232, s_265_233, s_265_236, s_265_239, s_265_242, s_265_243, s_265_245, s_265_246, s_265_247, s_265_248, s_265_249, s_265_251, s_265_254, s_265_255, s_265_257, s_265_260, s_265_261, s_265_263, s_265_266, s_265_267, s_265_269, s_265_272, s_265_273, s_265_275, s_265_278, s_265_279, s_265_281, s_265_284, s_265_286, s_265_288, s_265_289, s_265_292, s_265_295, s_265_296, s_265_298, s_265_301, e_265, mv_i_1, mv_l_1, mv_a_1, mv_a_2, mv_a_3, mk2_n, mk2_i, mk2_l, mk2_a, mk2_u, mk2_x, mB_T, mB_F, mS_cons, mS_nil, mSB_T, mSB_F, mca_nil, mca_i, mca_l, mca_r, mca_u, mca_x, mcat_i, mcat_l, mcat_r, mcat_u, mcat_x, mK_some, mK_none, va_rf_s, va_rf_n, lgc_eq, lgc_lt, lgc_gt, lgc_ge, lgc_le, mrd_104, mrd_105, mrd_106, mrd_107, true_and, and_true, and_self, false_and, and_false, true_or, or_true, false_or, or_false, not_true_eq_false, not_false_eq_true, mgb, mga, mgr, mN, reduceCtorEq, ↓reduceIte, eq_self, ge_iff_le, gt_iff_lt, hk_si, hk_sj, hk_sr, hl_si, hl_sj, hl_sr, hn_si, hn_sj, hn_sr, hs_si, hs_sj, hs_sr, hi_sj, hi_sr, hj_si, hj_sr, hr_si, hr_sj, hi_si, hj_sj, hr_sr, mg_si, mg_sj, mg_sr, Nat.reduceAdd, Nat.reduceMul, Nat.reduceSub, Nat.reduceLT, Nat.reduceGT, Nat.reduceEqDiff, Nat.reduceLeDiff, Nat.left_eq_add, Nat.add_eq_left, Nat.reduceMod, Nat.reduceDiv, Nat.succ_ne_self, g, g1, g2, go1, eh, i21, run2]
theorem stm_c (B : BQ G J D f) (hk : tK n = 7) (hG : G.fx = fxJ J) (hen : J.en p = E.en) (e1 : G.n p = E.nu) (e2 : G.a p = E.ar) (hkd : G.kd p = 4) (jc : J.c p = 6) (jt : J.t p = t) (hR : eRo E t) (hpE : p < G.E p) (hE : G.E p ≤ 249) (hfu : E.fu ≤ D.c) (hg : g < E.fu) (hm : D.m g = tV m2) (hn : ∀ g', g < g' → g' < E.fu → D.m g' ≠ tV m2) (htl : tl t = (D.p g).length) (hnu : E.nu + tl t ≤ 12) (hT : E.T + tl t ≤ 64) (htk : (tK m = 13 ∧ E.sN (tV m) ∧ E.en (tV m) < E.nu ∧ tk = some (E.en (tV m))) ∨ (¬ tK m = 13 ∧ tk = none)) (L1 : LW G J D f (D.t g) (p + 1) (G.E p) ((E.go g tk).addL (D.p g))) (hw : wW w0 ≤ 4000) (S : SA h s0 o E D w0 s) (N : nd (mh_i h 93) (mh_i h 95) (mh_i h 97) k (.branch n (.branch m (.leaf u) (.branch m2 (.leaf u2) t)) r)) (hb : k + 1 + ts (.branch m (.leaf u) (.branch m2 (.leaf u2) t)) ≤ 26000) (hs : s0 + (DS G (DB G f) p s w0).2.2 + 1 ≤ 2048) (hd : 4 * (G.E p - p) + 829 ≤ d) : ∃ h', BFi G h h' s0 o E.T p (G.E p) E D (DS G (DB G f) p s w0).2.1 (DS G (DB G f) p s w0).1 ∧ ∀ Q, mcall d 261 [.ref 115, .int (Int32.ofNat k), .int (Int32.ofNat p), .int nx', .ref o] h Q = Q none h' := by
  obtain ⟨d, rfl⟩ : ∃ d', d = d' + 4 := ⟨d - 4, by omega⟩
  have tsu : ts (.branch m (.leaf u) (.branch m2 (.leaf u2) t)) = 2 + ts t := by rw [ts_B, ts_B]; show 1 + 0 + (1 + 0 + ts t) = _; omega
  have n3 := N.2.2.1
  rw [tsu] at hb n3
  have nk : mh_i h 93 k = 7 := by rw [N.1, hk]; rfl
  obtain ⟨h0, x0, S0, ⟨t1, t2, t3⟩, cp, c0, run0⟩ := stm_0 (d := d + 4) (nx := nx') S (by omega) e1 e2 (by omega) nk
  have n4 := N.2.2.2.1
  rw [← t1, ← t2, ← t3] at n4
  rw [← t3] at n3
  rw [DS_4 hkd, e1, e2] at hs ⊢
  dsimp only at hs ⊢
  obtain ⟨h1, b, A, x1, S1, hA, ⟨u1, u2', u3⟩, c1, kp, run1⟩ := cal_0 (d := d) (G := G) (nx' := nx') S0 (p := p) e2 (by omega) hw hfu hg hm hn htk n4 (by omega) (by omega)
  obtain ⟨fe1, fe2⟩ := fo_6 (E := E) hG hen jc jt hA
  rw [fe1, fe2] at hs ⊢
  rw [← u1, ← u2', ← u3] at n4
  rw [← u3] at n3
  have nt : nd (mh_i h1 93) (mh_i h1 95) (mh_i h1 97) (k + 3) t := n4.2.2.2.2.2.2.2.2
  obtain ⟨h2, x2, S2, -, c2, -, run2⟩ := call_l (d := d + 2) (G := G) (kN := k) (z := 1 + (2 + ts t)) (by omega) (by omega) (by omega) t (k + 3) s E.nu 0 h1 S1 hR nt (by omega) n3 hnu (Nat.le_refl _)
  have lo0 := sp_lo S0.A.j (lv_sp S0.l)
  have zz1 := (sV_z S0.A.j lo0 x1).trans S0.z
  have zz2 := (sV_z S1.R.j lo0 x2).trans zz1
  have or0 : (0 : Int32) ||| (a_call E.en A t s).2 = (a_call E.en A t s).2 := by rw [Int32.or_comm]; exact i32_or0 _
  have q := LW_Q f (D.t g) (p + 1) (G.E p) _ L1 (by omega)
  rw [addL_fu] at q
  have q' : PQ D (D.t g) (p + 1) (G.E p) g := q
  obtain ⟨h3, v13, x3, R3, l3, k3, a3, c3, run3⟩ := cal_1 (d := d + 2) (G := G) (tk := tk) (nx' := nx') (x1 := some (.int (Int32.ofNat k))) (x5 := some (.int (kb (decide (s ≠ none))))) (x6 := some (.int (Int32.ofNat s0))) (x7 := some (.ref b)) (x10 := some (.int (Int32.ofNat E.nu))) (n11 := Int32.ofNat (E.nu + tl t)) (x12 := some (.int (Int32.ofNat (k + (1 + (2 + ts t)))))) S2.R S2.l S2.k S2.a2 (by rw [S2.a24, or0]) zz2 (by omega) (by omega) q' (by omega) (by omega)
  obtain ⟨p1, p2, p3, p4, p5⟩ := addL_p (E := E.go g tk) (D.p g)
  have p1' : ((E.go g tk).addL (D.p g)).T = E.T + (D.p g).length := p1
  have p2' : ((E.go g tk).addL (D.p g)).nu = E.nu + (D.p g).length := p2
  have p3' : ((E.go g tk).addL (D.p g)).ar = E.ar := p3
  have p4' : ((E.go g tk).addL (D.p g)).rm = E.rm := p4
  have sh3 : shp ((E.go g tk).addL (D.p g)).nu ((E.go g tk).addL (D.p g)).ar ((E.go g tk).addL (D.p g)).rm (a_call E.en A t s).1 := fun B' e => by
    obtain ⟨b1, b2, b3, b4⟩ := S2.ok B' e
    obtain ⟨T', a1, a2, a4⟩ := (S2.kb (fun z => by rw [z] at e; cases e)).2 A rfl
    rw [p2', p3', p4']
    exact ⟨b1, by omega, b3.trans a2, fun x hx => by rw [b4]; exact a4 x hx⟩
  have lo2 := sp_lo S2.R.j (lv_sp S2.l)
  obtain ⟨f1, f2, f3, f4, f5, f6⟩ := R3.X g (by omega)
  obtain ⟨h4, B4, run4⟩ := B (D.t g) (p + 1) (G.E p) _ L1 (d + 2) (D.b g) (s0 + 1) o nx' h3 _ _ (SA.of ⟨R3, lv_w l3 (by omega), k3, by rw [p3']; exact a3, sh3, ⟨by omega, by rw [p3']; exact S.m.2⟩, (sV_z S2.R.j lo2 x3).trans zz2⟩) f6 f1 f5 (by omega) (by omega) (by omega)
  have x4 : rq s0 (sV o E.T) h3 h4 := sV_sp B4.x (by omega) (by omega) (Or.inl rfl)
  have xa : rq s0 (sV o E.T) h h4 := rq_t x0 (rq_t x1 (rq_t x2 (rq_t x3 x4)))
  have shX : shg E.nu E.ar E.rm (o_keep ((E.go g tk).addL (D.p g)).nu ((E.go g tk).addL (D.p g)).ar (DB G f (p + 1) (G.E p) (a_call E.en A t s).1 (wl p s (a_call E.en A t s).2 w0)).1) := by
    have s4 := B4.sh
    exact ⟨_, _, _, by omega, by omega, fun x _ => by rw [p4'], s4⟩
  obtain ⟨h5, x5, R5, k5, a5, c5, -, run5⟩ := cal_9 (d := d + 2) (G := G) (v13 := v13) (x1 := some (.int (Int32.ofNat k))) (x2 := some (.int (Int32.ofNat p))) (x3 := some (.int nx')) (x5 := some (.int (kb (decide (s ≠ none))))) (x7 := some (.ref b)) (x8 := some (.int (Int32.ofNat g))) (x9 := some (.int (tkV tk))) (x11 := some (.int (Int32.ofNat (E.nu + tl t)))) (x16 := some (.int (Int32.ofNat (D.b g)))) (x17 := some (.int (Int32.ofNat (G.E p - (p + 1))))) (x18 := some (.int (Int32.ofNat (D.b g)))) S.A xa B4.A (rq_lv x4 l3) B4.k shX S.m p3'
  rw [keep_keep] at k5
  have shF : shp E.nu E.ar E.rm (o_keep E.nu E.ar (DB G f (p + 1) (G.E p) (a_call E.en A t s).1 (wl p s (a_call E.en A t s).2 w0)).1) := by
    have := keep_shp shX
    rw [keep_keep] at this
    exact this
  refine ⟨h5, BFi.of ⟨rq_t xa x5, R5, k5, a5, fun q w => c5 q (B4.c q (c3 q (c2 q (c1 q (c0 q w))))), fun w q q1 q2 => ?_, shF⟩, fun Q => ?_⟩
  · by_cases z : q = p
    · rw [z]; exact ⟨c5 p (B4.c p (c3 p (c2 p (c1 p cp)))), c5 _ (B4.c _ (c3 _ (c2 _ kp)))⟩
    · have b := B4.n w q (by omega) q2
      exact ⟨c5 q b.1, c5 _ b.2⟩
  · rw [run0, ts_7]
    have g0 := S0.A.j.a.g
    have g3 := R3.j.a.g
    have e1' : ∀ k, Int32.ofNat k + 1 = Int32.ofNat (k + 1) := fun k => nn_add (a := k) (b := 1)
    have run : ∀ Q, mcall (d + 3) 265 [.ref 115, .int (Int32.ofNat k), .int (Int32.ofNat p), .int nx', .ref o] h0 Q = Q none h5 := fun Q => by
      rw [run1, run2, run3, ← run5 Q]
      clear S S0 S1 S2 R3 R5 B B4 L1 k3 k5 x0 x1 x2 x3 x4 x5 xa N n4 nt run5 run1 run2 run3 c0 c1 c2 c3 c5 sh3 shX shF q q' hR f6 f3
      rw [s_265_242]
      simp (disch := omega) only [s_265_0, s_265_1, s_265_2, s_265_4, s_265_7, s_265_9, s_265_10, s_265_13, s_265_15, s_265_16, s_265_18, s_265_21, s_265_21n, s_265_23, s_265_24, s_265_26, s_265_26n, s_265_29, s_265_30, s_265_31, s_265_34, s_265_36, s_265_37, s_265_40, s_265_41, s_265_42, s_265_43, s_265_44, s_265_46, s_265_49, s_265_50, s_265_51, s_265_52, s_265_53, s_265_56, s_265_59, s_265_60, s_265_62, s_265_63, s_265_66, s_265_68, s_265_70, s_265_72, s_265_73, s_265_74, s_265_75, s_265_77, s_265_79, s_265_80, s_265_81, s_265_84, s_265_87, s_265_89, s_265_92, s_265_95, s_265_96, s_265_98, s_265_100, s_265_101, s_265_103, s_265_106, s_265_109, s_265_111, s_265_113, s_265_116, s_265_117, s_265_119, s_265_122, s_265_124, s_265_127, s_265_128, s_265_129, s_265_132, s_265_133, s_265_136, s_265_138, s_265_139, s_265_142, s_265_144, s_265_145, s_265_148, s_265_150, s_265_151, s_265_154, s_265_156, s_265_157, s_265_159, s_265_162, s_265_164, s_265_165, s_265_167, s_265_170, s_265_172, s_265_173, s_265_174, s_265_176, s_265_179, s_265_180, s_265_181, s_265_182, s_265_185, s_265_186, s_265_188, s_265_191, s_265_192, s_265_194, s_265_197, s_265_198, s_265_199, s_265_202, s_265_205, s_265_206, s_265_208, s_265_211, s_265_212, s_265_215, s_265_217, s_265_218, s_265_219, s_265_220, s_265_222, s_265_224, s_265_226, s_265_229, s_265_230, s_265_232, s_265_233, s_265_236, s_265_239, s_265_242, s_265_243, s_265_245, s_265_246, s_265_247, s_265_248, s_265_249, s_265_251, s_265_255, s_265_257, s_265_260, s_265_261, s_265_263, s_265_266, s_265_267, s_265_269, s_265_272, s_265_273, s_265_275, s_265_278, s_265_279, s_265_281, s_265_284, s_265_286, s_265_288, s_265_289, s_265_292, s_265_295, s_265_296, s_265_298, s_265_301, e_265, mv_i_1, mv_l_1, mv_a_1, mv_a_2, mv_a_3, mk2_n, mk2_i, mk2_l, mk2_a, mk2_u, mk2_x, mB_T, mB_F, mS_cons, mS_nil, mSB_T, mSB_F, mca_nil, mca_i, mca_l, mca_r, mca_u, mca_x, mcat_i, mcat_l, mcat_r, mcat_u, mcat_x, mK_some, mK_none, va_rf_s, va_rf_n, lgc_eq, lgc_lt, lgc_gt, lgc_ge, lgc_le, mrd_104, mrd_105, mrd_106, mrd_107, true_and, and_true, and_self, false_and, and_false, true_or, or_true, false_or, or_false, not_true_eq_false, not_false_eq_true, mgb, mga, mgr, mN, reduceCtorEq, ↓reduceIte, eq_self, ge_iff_le, gt_iff_lt, Nat.reduceAdd, Nat.reduceMul, Nat.reduceSub, Nat.reduceLT, Nat.reduceGT, Nat.reduceEqDiff, Nat.reduceLeDiff, Nat.left_eq_add, Nat.add_eq_left, Nat.reduceMod, Nat.reduceDiv, Nat.succ_ne_self, g3, run4, e1']
    clear S S0 S1 S2 R3 R5 B B4 L1 k3 k5 x0 x1 x2 x3 x4 x5 xa N n4 nt run1 run2 run3 run4 run5 c0 c1 c2 c3 c5 sh3 shX shF q q' hR f6 f3
    simp (disch := omega) only [s_261_0, s_261_1, s_261_4, s_261_5, s_261_6, s_261_9, s_261_12, s_261_13, s_261_16, s_261_17, s_261_18, s_261_21, s_261_22, s_261_25, s_261_26, s_261_27, s_261_30, s_261_31, s_261_32, s_261_35, s_261_38, s_261_39, s_261_42, s_261_43, s_261_44, s_261_47, s_261_48, s_261_51, s_261_52, s_261_53, s_261_56, s_261_57, s_261_84, s_261_85, s_261_86, s_261_87, s_261_88, s_261_90, s_261_93, s_261_96, s_261_97, s_261_98, s_261_99, s_261_100, s_261_102, s_261_105, s_261_108, s_261_109, s_261_110, s_261_111, s_261_112, s_261_114, s_261_117, s_261_120, s_261_121, s_261_122, s_261_124, s_261_127, s_261_129, s_261_130, s_261_131, s_261_133, s_261_135, s_261_138, s_261_139, s_261_140, s_261_143, s_261_144, s_261_145, s_261_146, s_261_148, s_261_151, e_261, mv_i_1, mv_l_1, mv_a_1, mv_a_2, mv_a_3, mk2_n, mk2_i, mk2_l, mk2_a, mk2_u, mk2_x, mB_T, mB_F, mS_cons, mS_nil, mSB_T, mSB_F, mca_nil, mca_i, mca_l, mca_r, mca_u, mca_x, mcat_i, mcat_l, mcat_r, mcat_u, mcat_x, mK_some, mK_none, va_rf_s, va_rf_n, lgc_eq, lgc_lt, lgc_gt, lgc_ge, lgc_le, mrd_104, mrd_105, mrd_106, mrd_107, true_and, and_true, and_self, false_and, and_false, true_or, or_true, false_or, or_false, not_true_eq_false, not_false_eq_true, mgb, mga, mgr, mN, reduceCtorEq, ↓reduceIte, eq_self, ge_iff_le, gt_iff_lt, Nat.reduceAdd, Nat.reduceMul, Nat.reduceSub, Nat.reduceLT, Nat.reduceGT, Nat.reduceEqDiff, Nat.reduceLeDiff, Nat.left_eq_add, Nat.add_eq_left, Nat.reduceMod, Nat.reduceDiv, Nat.succ_ne_self, g0, run]
end CEs
