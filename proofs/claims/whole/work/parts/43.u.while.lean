set_option maxRecDepth 100000
/-! statement: while -/
section LOf
variable {d : Nat} {hO h h1 h2 : mh_H} {s0 sb o hh tt nn bh td mm p k f i x y m n b : Nat} {E : nv} {D : fd} {w0 w1 : wd} {S : ab} {s H TT NN BE N' X C : Option ab} {G : pgm} {J : pin} {c bs q r : tr} {nx' : Int32}
theorem rnd_3 {rc : rc3} {S H : Option ab} : 1 ≤ (rnd G rc p S H w0).2.2.2 := by
  unfold rnd
  dsimp only
  omega
/-- nothing is known -/
theorem lop_n (W : WHL G J D f E p k m c b bs q h) (S0 : SA h s0 o E D w0 none) (hw : wW w0 ≤ 4000) (hd : 4 * (G.E p - p) + 826 ≤ d) (hs : s0 + (4 + (rnd G (DB G f) p none none w0).2.2.2) + 1 ≤ 2048) : ∃ h', rq s0 (sV o E.T) h h' ∧ RA h' s0 E D (rnd G (DB G f) p none none w0).2.2.1 ∧ RK h' o none ∧ mh_i h' o 2 = Int32.ofNat E.ar ∧ (∀ q, cnQ G h q → cnQ G h' q) ∧ cNq G h' p (rnd G (DB G f) p none none w0).2.2.1 ∧ ∀ Q, mcall (d + 2) 268 [.ref 115, .int (Int32.ofNat k), .int (Int32.ofNat p), .int nx', .ref o] h Q = Q none h' := by
  have r3 := rnd_3 (G := G) (rc := DB G f) (p := p) (w0 := w0) (S := none) (H := none)
  obtain ⟨h1, hh, tt, nn, bh, I, ko1, ao1, kh1, ah1, kt1, run1⟩ := lop_0 (d := d) (G := G) (k := k) (p := p) (nx' := nx') S0 (by omega) (by omega)
  obtain ⟨h2, I2, kn2, kb2, ab2, keep, keepi, rk, cn2, shB, shN, run2⟩ := li_r (d := d) (sb := s0 + 4) W I (by omega) hw I.r0 (by omega) I.r2 (by omega) (by omega) (by omega) (by omega) ko1 kh1 shp_n shp_n ah1 (by omega) hd
  have do2 := li_lo I I.r2 (by omega)
  have do3 := li_lo I I.r3 (by omega)
  have ko2 := keep o _ (lv_w I.l (by omega)) do2 do3 ko1
  have ao2 := keepi o 2 (lv_w I.l (by omega)) do2 do3
  have lo := sp_lo I.A.j (lv_sp I.l)
  have cc : ∀ q, cnQ G h2 q → cnQ G (mh_si h2 115 11 (Int32.ofNat s0)) q := fun q w => cn_i w (fun b j hb => by rw [hi_si, if_neg (by omega)])
  refine ⟨mh_si h2 115 11 (Int32.ofNat s0), rq_t I2.x (sV_115 (by omega)), RA_11 I2.A, RK_fz (fz_si (W := fun b _ => b = 115) rfl) (fun y hy j w => by omega) ko2, by rw [hi_si, if_neg (by omega), ao2]; exact ao1, fun q w => cc q (I2.c q w), cNq_t cc cn2, fun Q => ?_⟩
  rw [run1]
  have z : mh_i h1 o 0 = 1 := KN.z ko1
  have go := (RK_ko ko1).1
  have g1 := I.A.j.a.g
  have g2 := I2.A.j.a.g
  have e10 : ((1 : Int32) = 0) = False := by decide
  clear W I I2 S0 ko1 ko2 kh1 kt1 kn2 kb2 keep keepi cn2 cc shB shN rk
  rw [s_268_51]
  simp (disch := omega) only [s_268_0, s_268_1, s_268_4, s_268_7, s_268_8, s_268_9, s_268_10, s_268_11, s_268_13, s_268_16, s_268_17, s_268_18, s_268_21, s_268_23, s_268_24, s_268_26, s_268_29, s_268_29n, s_268_31, s_268_32, s_268_34, s_268_37, s_268_37n, s_268_39, s_268_40, s_268_43, s_268_43n, s_268_45, s_268_46, s_268_49, s_268_49n, s_268_53, s_268_56, s_268_59, s_268_60, s_268_61, s_268_62, s_268_64, s_268_66, s_268_68, s_268_70, s_268_73, s_268_74, s_268_76, s_268_79, s_268_80, s_268_81, s_268_82, s_268_83, s_268_85, s_268_87, s_268_89, s_268_91, s_268_94, s_268_95, s_268_97, s_268_99, s_268_101, s_268_104, s_268_107, s_268_108, s_268_111, s_268_114, s_268_116, s_268_117, s_268_120, s_268_122, s_268_124, s_268_127, s_268_129, s_268_131, s_268_134, s_268_137, s_268_139, s_268_141, s_268_144, s_268_146, s_268_148, s_268_151, s_268_153, s_268_156, s_268_157, s_268_158, s_268_159, s_268_161, s_268_163, s_268_165, s_268_167, s_268_170, s_268_173, s_268_176, s_268_177, s_268_180, s_268_180n, s_268_182, s_268_183, s_268_186, s_268_186n, s_268_188, s_268_189, s_268_191, s_268_192, s_268_194, s_268_196, s_268_197, s_268_200, s_268_202, s_268_205, s_268_206, s_268_209, s_268_212, s_268_214, s_268_216, s_268_219, s_268_222, s_268_224, s_268_226, s_268_229, s_268_232, s_268_233, s_268_236, s_268_237, s_268_239, s_268_241, s_268_244, s_268_246, s_268_248, s_268_251, s_268_252, s_268_253, s_268_254, s_268_256, s_268_258, s_268_260, s_268_262, s_268_265, s_268_267, s_268_269, s_268_272, s_268_274, s_268_276, s_268_279, s_268_281, s_268_283, s_268_286, s_268_288, s_268_290, s_268_293, s_268_296, s_268_299, s_268_300, s_268_303, s_268_306, s_268_307, s_268_308, s_268_309, s_268_311, s_268_313, s_268_315, s_268_317, s_268_320, s_268_322, s_268_324, s_268_327, s_268_328, s_268_330, s_268_333, e_268, mv_i_1, mv_l_1, mv_a_1, mv_a_2, mv_a_3, mk2_n, mk2_i, mk2_l, mk2_a, mk2_u, mk2_x, mB_T, mB_F, mS_cons, mS_nil, mSB_T, mSB_F, mca_nil, mca_i, mca_l, mca_r, mca_u, mca_x, mcat_i, mcat_l, mcat_r, mcat_u, mcat_x, mK_some, mK_none, va_rf_s, va_rf_n, lgc_eq, lgc_lt, lgc_gt, lgc_ge, lgc_le, mrd_104, mrd_105, mrd_106, mrd_107, true_and, and_true, and_self, false_and, and_false, true_or, or_true, false_or, or_false, not_true_eq_false, not_false_eq_true, mgb, mga, mgr, mN, reduceCtorEq, ↓reduceIte, eq_self, ge_iff_le, gt_iff_lt, Nat.reduceAdd, Nat.reduceMul, Nat.reduceSub, Nat.reduceLT, Nat.reduceGT, Nat.reduceEqDiff, Nat.reduceLeDiff, Nat.left_eq_add, Nat.add_eq_left, Nat.reduceMod, Nat.reduceDiv, Nat.succ_ne_self, go, g1, g2, z, e10, run2]
theorem u_268 (W : WHL G J D f E p k m c b bs q h) (S0 : SA h s0 o E D w0 (some S)) (hw : wW w0 ≤ 4000) (hd : 4 * (G.E p - p) + 826 ≤ d) (hs : s0 + (lop G (DB G f) p (some S) w0).2.2 + 1 ≤ 2048) : ∃ h', rq s0 (sV o E.T) h h' ∧ RA h' s0 E D (lop G (DB G f) p (some S) w0).2.1 ∧ RK h' o (lop G (DB G f) p (some S) w0).1 ∧ mh_i h' o 2 = Int32.ofNat E.ar ∧ (∀ q, cnQ G h q → cnQ G h' q) ∧ cNq G h' p (lop G (DB G f) p (some S) w0).2.1 ∧ shp E.nu E.ar E.rm (lop G (DB G f) p (some S) w0).1 ∧ ∀ Q, mcall (d + 2) 268 [.ref 115, .int (Int32.ofNat k), .int (Int32.ofNat p), .int nx', .ref o] h Q = Q none h' := by
  rw [lop_D] at hs ⊢
  have r3 := rnd_3 (G := G) (rc := DB G f) (p := p) (w0 := w0) (S := some S) (H := some S)
  generalize eR : rnd G (DB G f) p (some S) (some S) w0 = R at *
  have m1 := clm_mx (G := G) (rc := DB G f) (p := p) (S := some S) 4001 (some S) (some S) R.1 R.2.1 R.2.2.1 (4 + R.2.2.2) 1
  unfold clmD at hs ⊢
  generalize eC : clm G (DB G f) p (some S) 4001 (some S) (some S) R.1 R.2.1 R.2.2.1 (4 + R.2.2.2) 1 = CC at *
  have m2 := trs_mx (G := G) (rc := DB G f) (p := p) (S := some S) 2 CC.1 CC.2.1 CC.2.2.1 CC.2.2.2.1 CC.2.2.2.2
  unfold trsD at hs ⊢
  generalize eT : trs G (DB G f) p (some S) 2 CC.1 CC.2.1 CC.2.2.1 CC.2.2.2.1 CC.2.2.2.2 = TT at *
  have m3 := finD_mx (G := G) (rc := DB G f) (p := p) (S := some S) (t := TT)
  have shS := S0.sh
  obtain ⟨TS, s1, s2, s3⟩ := shS S rfl
  obtain ⟨h1, hh, tt, nn, bh, I, ko1, ao1, kh1, ah1, kt1, run1⟩ := lop_0 (d := d) (G := G) (k := k) (p := p) (nx' := nx') S0 (by omega) (by omega)
  obtain ⟨h2, I2, kn2, kb2, ab2, keep, keepi, rk, cn2, shB, shN, run2⟩ := li_r (d := d) (sb := s0 + 4) W I (by omega) hw I.r0 (by omega) I.r2 (by omega) (by omega) (by omega) (by omega) ko1 kh1 shS shS ah1 (by rw [eR]; omega) hd
  have wr : wW w0 + wi (some S) ≤ wW (rnd G (DB G f) p (some S) (some S) w0).2.2.1 := rnd_w (DB_w G f)
  have hnN : ∃ N, (rnd G (DB G f) p (some S) (some S) w0).1 = some N := by
    unfold rnd
    dsimp only
    cases o_keep (G.n p) (G.a p) (DB G f (p + 1) (G.E p) (fo G p (some S)).1 (wl p (some S) (fo G p (some S)).2.2 w0)).1 <;> exact ⟨_, rfl⟩
  obtain ⟨N2, eN2⟩ := hnN
  rw [eR] at I2 kn2 kb2 cn2 shB shN wr eN2
  have ko2 := keep o _ (lv_w I.l (by omega)) (li_lo I I.r2 (by omega)) (li_lo I I.r3 (by omega)) ko1
  have kh2 := keep hh _ ⟨s0, by omega, I.r0⟩ (li_ne I I.r0 I.r2 (by omega)) (li_ne I I.r0 I.r3 (by omega)) kh1
  have kt2 := keep tt _ ⟨s0 + 1, by omega, I.r1⟩ (li_ne I I.r1 I.r2 (by omega)) (li_ne I I.r1 I.r3 (by omega)) kt1
  have c0 : CI E.nu E.ar E.rm S (some S) (some S) R.1 R.2.1 := ⟨⟨S, rfl, shS, fun _ _ _ _ => Int.le_refl _⟩, ⟨S, rfl, shL_of shS, fun _ _ _ _ => Int.le_refl _⟩, ⟨N2, eN2, by rw [← eN2]; exact shN⟩, shB⟩
  have hs3 : s0 + (clm G (DB G f) p (some S) 4001 (some S) (some S) R.1 R.2.1 R.2.2.1 (4 + R.2.2.2) 1).2.2.2.2 + 1 ≤ 2048 := by rw [eC]; omega
  obtain ⟨h3, x10, TT', I3, K3, cn3', run3⟩ := clm_r (d := d) (nx' := nx') W shS hd 4001 h2 (some S) (some S) R.1 R.2.1 R.2.2.1 (4 + R.2.2.2) 1 I2 (LKi.of ⟨ko2, kh2, kt2, kn2, kb2, ab2, c0⟩) cn2 (by omega) (by omega) hs3
  rw [eC] at I3 K3 cn3'
  have A3 := I3.A
  have J3 := A3.j
  obtain ⟨h4, td, x4, J4, f4, i4, -, ko4', run4⟩ := t_226 (d := d) J3 A3.s (by omega)
  have A4 := RA_q A3 vF x4 J4 i4
  obtain ⟨h5, mm, x5, J5, f5, i5, -, ko5', run5⟩ := t_226 (d := d) J4 i4 (by omega)
  have A5 := RA_q A4 vF x5 J5 i5
  obtain ⟨t1, t2, t3⟩ := I3.t
  obtain ⟨u1, u2, u3⟩ := rq_tr J3 vF x4
  obtain ⟨v1, v2', v3⟩ := rq_tr J4 vF x5
  have I5 : LPi G h h5 s0 (s0 + 6) o hh tt nn bh E D CC.2.2.2.1 := LPi.of ⟨A5, rq_lv x5 (rq_lv x4 I3.l), x5.k _ _ (x4.k _ _ I3.r0), x5.k _ _ (x4.k _ _ I3.r1), x5.k _ _ (x4.k _ _ I3.r2), x5.k _ _ (x4.k _ _ I3.r3), rq_t I3.x (rq_t (sV_F x4 (by omega)) (sV_F x5 (by omega))), ⟨by rw [v1, u1, t1], by rw [v2', u2, t2], by rw [v3, u3, t3]⟩, fun q w => cn_q A4 vF x5 (cn_q A3 vF x4 (I3.c q w)), by rw [rq_z J4 vF x5, rq_z J3 vF x4]; exact I3.z⟩
  have kp : ∀ z X, lv h3 (s0 + 4) z → RK h3 z X → RK h5 z X := fun z X lz kz => rq_K J4 x5 (lv_w (rq_lv x4 lz) (by omega)) (fun _ _ _ w => w) (rq_K J3 x4 lz (fun _ _ _ w => w) kz)
  have lb3 : lv h3 (s0 + 4) bh := ⟨s0 + 3, by omega, I3.r3⟩
  have ab5 : mh_i h5 bh 2 = Int32.ofNat E.ar := by
    rw [rq_ki J4 x5 (lv_w (rq_lv x4 lb3) (by omega)) (fun _ w => w), rq_ki J3 x4 lb3 (fun _ w => w)]
    exact K3.a2
  obtain ⟨AH, aH1, aH2, -⟩ := K3.ci.iH
  have K5 : LTi h5 o hh nn bh E S CC.1 CC.2.1 CC.2.2.1 := LTi.of ⟨kp o _ (lv_w I3.l (by omega)) K3.ko, kp hh _ ⟨s0, by omega, I3.r0⟩ K3.kh, kp nn _ ⟨s0 + 2, by omega, I3.r2⟩ K3.kn, kp bh _ lb3 K3.kb, ab5, ⟨AH, aH1, aH2⟩, K3.ci.iQ, K3.ci.iB⟩
  have hs6 : s0 + (trs G (DB G f) p (some S) 2 CC.1 CC.2.1 CC.2.2.1 CC.2.2.2.1 CC.2.2.2.2).2.2.2 + 1 ≤ 2048 := by rw [eT]; omega
  obtain ⟨h6, x12, x13, N6, I6, K6, cn6, run6⟩ := trs_r (d := d) (nx' := nx') (td := td) (mm := mm) W shS hd 2 h5 CC.1 CC.2.1 CC.2.2.1 CC.2.2.2.1 CC.2.2.2.2 0 I5 (x5.k _ _ f4) f5 K5 (cNq_t (fun q w => cn_q A4 vF x5 (cn_q A3 vF x4 w)) cn3') (by omega) hs6
  rw [eT] at I6 K6 cn6
  obtain ⟨h7, o1, o2, o3, o4, o5, o6, o7, run7⟩ := lop_9 (d := d) (nx' := nx') (x10 := some (.ref td)) (x11 := some (.ref mm)) (x12 := x12) (x13 := x13) W shS hd I6 K6 cn6 hs
  refine ⟨h7, o1, o2, o3, o4, o5, o6, o7, fun Q => ?_⟩
  rw [run1, ← run7 Q, ← run6]
  have z : mh_i h1 o 0 = 0 := KM.z ko1
  have go := (RK_ko ko1).1
  have g1 := I.A.j.a.g
  have g3 := J3.a.g
  have g4 := J4.a.g
  have e00 : ((0 : Int32) = 0) = True := by decide
  have z0 : Int32.ofNat 0 = (0 : Int32) := rfl
  have z1 : Int32.ofNat 1 = (1 : Int32) := rfl
  rw [z1] at run3
  rw [z0]
  clear W I I2 I3 I5 I6 S0 K3 K5 K6 ko1 ko2 kh1 kh2 kt1 kt2 kn2 kb2 keep keepi cn2 cn3' cn6 shB shN shS rk c0 A3 A4 A5 J3 J4 J5 x4 x5 kp o1 o2 o3 o5 o6 o7 run7 run6 TS aH2 ko4' ko5'
  have E1 : mw (d + 2) 268 Q 51 [some (.ref 115), some (.int (Int32.ofNat k)), some (.int (Int32.ofNat p)), some (.int nx'), some (.ref o), some (.int (Int32.ofNat s0)), some (.ref hh), some (.ref tt), some (.ref nn), some (.ref bh), none, none, none, none] [] h1 = mw (d + 2) 268 Q 97 [some (.ref 115), some (.int (Int32.ofNat k)), some (.int (Int32.ofNat p)), some (.int nx'), some (.ref o), some (.int (Int32.ofNat s0)), some (.ref hh), some (.ref tt), some (.ref nn), some (.ref bh), some (.int 1), none, none, none] [] h2 := by
    rw [s_268_51]
    simp (disch := omega) only [s_268_0, s_268_1, s_268_4, s_268_7, s_268_8, s_268_9, s_268_10, s_268_11, s_268_13, s_268_16, s_268_17, s_268_18, s_268_21, s_268_23, s_268_24, s_268_26, s_268_29, s_268_29n, s_268_31, s_268_32, s_268_34, s_268_37, s_268_37n, s_268_39, s_268_40, s_268_43, s_268_43n, s_268_45, s_268_46, s_268_49, s_268_49n, s_268_53, s_268_56, s_268_59, s_268_60, s_268_61, s_268_62, s_268_64, s_268_66, s_268_68, s_268_70, s_268_73, s_268_74, s_268_76, s_268_79, s_268_80, s_268_81, s_268_82, s_268_83, s_268_85, s_268_87, s_268_89, s_268_91, s_268_94, s_268_95, s_268_99, s_268_101, s_268_104, s_268_107, s_268_108, s_268_111, s_268_114, s_268_116, s_268_117, s_268_120, s_268_122, s_268_124, s_268_127, s_268_129, s_268_131, s_268_134, s_268_137, s_268_139, s_268_141, s_268_144, s_268_146, s_268_148, s_268_151, s_268_153, s_268_156, s_268_157, s_268_158, s_268_159, s_268_161, s_268_163, s_268_165, s_268_167, s_268_170, s_268_173, s_268_176, s_268_177, s_268_180, s_268_180n, s_268_182, s_268_183, s_268_186, s_268_186n, s_268_188, s_268_189, s_268_191, s_268_192, s_268_194, s_268_196, s_268_197, s_268_200, s_268_202, s_268_205, s_268_206, s_268_209, s_268_212, s_268_214, s_268_216, s_268_219, s_268_222, s_268_224, s_268_226, s_268_229, s_268_232, s_268_233, s_268_236, s_268_237, s_268_239, s_268_241, s_268_244, s_268_246, s_268_248, s_268_251, s_268_252, s_268_253, s_268_254, s_268_256, s_268_258, s_268_260, s_268_262, s_268_265, s_268_267, s_268_269, s_268_272, s_268_274, s_268_276, s_268_279, s_268_281, s_268_283, s_268_286, s_268_288, s_268_290, s_268_293, s_268_296, s_268_299, s_268_300, s_268_303, s_268_306, s_268_307, s_268_308, s_268_309, s_268_311, s_268_313, s_268_315, s_268_317, s_268_320, s_268_322, s_268_324, s_268_327, s_268_328, s_268_330, s_268_333, e_268, mv_i_1, mv_l_1, mv_a_1, mv_a_2, mv_a_3, mk2_n, mk2_i, mk2_l, mk2_a, mk2_u, mk2_x, mB_T, mB_F, mS_cons, mS_nil, mSB_T, mSB_F, mca_nil, mca_i, mca_l, mca_r, mca_u, mca_x, mcat_i, mcat_l, mcat_r, mcat_u, mcat_x, mK_some, mK_none, va_rf_s, va_rf_n, lgc_eq, lgc_lt, lgc_gt, lgc_ge, lgc_le, mrd_104, mrd_105, mrd_106, mrd_107, true_and, and_true, and_self, false_and, and_false, true_or, or_true, false_or, or_false, not_true_eq_false, not_false_eq_true, mgb, mga, mgr, mN, reduceCtorEq, ↓reduceIte, eq_self, ge_iff_le, gt_iff_lt, Nat.reduceAdd, Nat.reduceMul, Nat.reduceSub, Nat.reduceLT, Nat.reduceGT, Nat.reduceEqDiff, Nat.reduceLeDiff, Nat.left_eq_add, Nat.add_eq_left, Nat.reduceMod, Nat.reduceDiv, Nat.succ_ne_self, go, g1, z, e00, run2]
  rw [E1, run3]
  rw [s_268_176]
  simp (disch := omega) only [s_268_0, s_268_1, s_268_4, s_268_7, s_268_8, s_268_9, s_268_10, s_268_11, s_268_13, s_268_16, s_268_17, s_268_18, s_268_21, s_268_23, s_268_24, s_268_26, s_268_29, s_268_29n, s_268_31, s_268_32, s_268_34, s_268_37, s_268_37n, s_268_39, s_268_40, s_268_43, s_268_43n, s_268_45, s_268_46, s_268_49, s_268_49n, s_268_51, s_268_53, s_268_56, s_268_59, s_268_60, s_268_61, s_268_62, s_268_64, s_268_66, s_268_68, s_268_70, s_268_73, s_268_74, s_268_76, s_268_79, s_268_80, s_268_81, s_268_82, s_268_83, s_268_85, s_268_87, s_268_89, s_268_91, s_268_94, s_268_95, s_268_97, s_268_99, s_268_101, s_268_104, s_268_107, s_268_108, s_268_111, s_268_114, s_268_116, s_268_117, s_268_120, s_268_122, s_268_124, s_268_127, s_268_129, s_268_131, s_268_134, s_268_137, s_268_139, s_268_141, s_268_144, s_268_146, s_268_148, s_268_151, s_268_153, s_268_156, s_268_157, s_268_158, s_268_159, s_268_161, s_268_163, s_268_165, s_268_167, s_268_170, s_268_173, s_268_177, s_268_180, s_268_180n, s_268_182, s_268_183, s_268_186, s_268_186n, s_268_188, s_268_189, s_268_191, s_268_192, s_268_196, s_268_197, s_268_200, s_268_202, s_268_205, s_268_206, s_268_209, s_268_212, s_268_214, s_268_216, s_268_219, s_268_222, s_268_224, s_268_226, s_268_229, s_268_232, s_268_233, s_268_236, s_268_237, s_268_239, s_268_241, s_268_244, s_268_246, s_268_248, s_268_251, s_268_252, s_268_253, s_268_254, s_268_256, s_268_258, s_268_260, s_268_262, s_268_265, s_268_267, s_268_269, s_268_272, s_268_274, s_268_276, s_268_279, s_268_281, s_268_283, s_268_286, s_268_288, s_268_290, s_268_293, s_268_296, s_268_299, s_268_300, s_268_303, s_268_306, s_268_307, s_268_308, s_268_309, s_268_311, s_268_313, s_268_315, s_268_317, s_268_320, s_268_322, s_268_324, s_268_327, s_268_328, s_268_330, s_268_333, e_268, mv_i_1, mv_l_1, mv_a_1, mv_a_2, mv_a_3, mk2_n, mk2_i, mk2_l, mk2_a, mk2_u, mk2_x, mB_T, mB_F, mS_cons, mS_nil, mSB_T, mSB_F, mca_nil, mca_i, mca_l, mca_r, mca_u, mca_x, mcat_i, mcat_l, mcat_r, mcat_u, mcat_x, mK_some, mK_none, va_rf_s, va_rf_n, lgc_eq, lgc_lt, lgc_gt, lgc_ge, lgc_le, mrd_104, mrd_105, mrd_106, mrd_107, true_and, and_true, and_self, false_and, and_false, true_or, or_true, false_or, or_false, not_true_eq_false, not_false_eq_true, mgb, mga, mgr, mN, reduceCtorEq, ↓reduceIte, eq_self, ge_iff_le, gt_iff_lt, Nat.reduceAdd, Nat.reduceMul, Nat.reduceSub, Nat.reduceLT, Nat.reduceGT, Nat.reduceEqDiff, Nat.reduceLeDiff, Nat.left_eq_add, Nat.add_eq_left, Nat.reduceMod, Nat.reduceDiv, Nat.succ_ne_self, g3, g4, run4, run5]
theorem DS_6n {rc : rc3} (h6 : G.kd p = 6) : DS G rc p none w0 = (none, (rnd G rc p none none w0).2.2.1, 4 + (rnd G rc p none none w0).2.2.2) := by
  unfold DS
  rw [if_neg (by omega), if_neg (by omega), if_pos h6]
theorem DS_6s {rc : rc3} (h6 : G.kd p = 6) : DS G rc p (some S) w0 = lop G rc p (some S) w0 := by
  unfold DS
  rw [if_neg (by omega), if_neg (by omega), if_pos h6]
theorem stm_w (B : BQ G J D f) (hk : tK n = 9) (hG : G.fx = fxJ J) (hen : J.en p = E.en) (e1 : G.n p = E.nu) (e2 : G.a p = E.ar) (hkd : G.kd p = 6) (jc : J.c p = 7) (jt : J.t p = .branch m c (.branch b bs q)) (hC : eCo E (.branch m c (.branch b bs q))) (hsp : G.sp p = cn3 (.branch m c (.branch b bs q))) (hpE : p < G.E p) (hE : G.E p ≤ 249) (L1 : LW G J D f bs (p + 1) (G.E p) E) (hw : wW w0 ≤ 4000) (S : SA h s0 o E D w0 s) (N : nd (mh_i h 93) (mh_i h 95) (mh_i h 97) k (.branch n (.branch m c (.branch b bs q)) r)) (hb : k + 1 + ts (.branch m c (.branch b bs q)) ≤ 26000) (hs : s0 + (DS G (DB G f) p s w0).2.2 + 1 ≤ 2048) (hd : 4 * (G.E p - p) + 829 ≤ d) : ∃ h', BFi G h h' s0 o E.T p (G.E p) E D (DS G (DB G f) p s w0).2.1 (DS G (DB G f) p s w0).1 ∧ ∀ Q, mcall d 261 [.ref 115, .int (Int32.ofNat k), .int (Int32.ofNat p), .int nx', .ref o] h Q = Q none h' := by
  obtain ⟨d, rfl⟩ : ∃ d', d = d' + 3 := ⟨d - 3, by omega⟩
  have nk : mh_i h 93 k = 9 := by rw [N.1, hk]; rfl
  obtain ⟨h0, x0, S0, ⟨t1, t2, t3⟩, cp, c0, run0⟩ := stm_0 (d := d + 3) (nx := nx') S (by omega) e1 e2 (by omega) nk
  have n4 := N.2.2.2.1
  rw [← t1, ← t2, ← t3] at n4
  have W : WHL G J D f E p k m c b bs q h0 := WHL.of ⟨B, hG, hen, e1, e2, jc, jt, hC, hsp, hpE, hE, L1, S.m, n4, hb⟩
  have g0 := S0.A.j.a.g
  have fin : ∀ (s' : Option ab) (w' : wd), (∃ h', rq s0 (sV o E.T) h0 h' ∧ RA h' s0 E D w' ∧ RK h' o s' ∧ mh_i h' o 2 = Int32.ofNat E.ar ∧ (∀ q, cnQ G h0 q → cnQ G h' q) ∧ cNq G h' p w' ∧ shp E.nu E.ar E.rm s' ∧ ∀ Q, mcall (d + 2) 268 [.ref 115, .int (Int32.ofNat k), .int (Int32.ofNat p), .int nx', .ref o] h0 Q = Q none h') → ∃ h', BFi G h h' s0 o E.T p (G.E p) E D w' s' ∧ ∀ Q, mcall (d + 3) 261 [.ref 115, .int (Int32.ofNat k), .int (Int32.ofNat p), .int nx', .ref o] h Q = Q none h' := fun s' w' ⟨h', o1, o2, o3, o4, o5, o6, o7, run⟩ => by
    refine ⟨h', BFi.of ⟨rq_t x0 o1, o2, o3, o4, fun q w => o5 q (c0 q w), fun w q q1 q2 => ?_, o7⟩, fun Q => ?_⟩
    · by_cases z : q = p
      · rw [z]; exact ⟨o5 p cp, o6.2⟩
      · exact o6.1 w q (by omega) q2
    · rw [run0, ts_9]
      clear W S S0 B L1 hC N n4 o1 o2 o3 o5 o6 o7 x0
      simp (disch := omega) only [s_261_0, s_261_1, s_261_4, s_261_5, s_261_6, s_261_9, s_261_12, s_261_13, s_261_16, s_261_17, s_261_18, s_261_21, s_261_22, s_261_25, s_261_26, s_261_27, s_261_30, s_261_31, s_261_32, s_261_35, s_261_38, s_261_39, s_261_42, s_261_43, s_261_44, s_261_47, s_261_48, s_261_51, s_261_52, s_261_53, s_261_56, s_261_57, s_261_84, s_261_85, s_261_86, s_261_87, s_261_88, s_261_90, s_261_93, s_261_96, s_261_97, s_261_98, s_261_99, s_261_100, s_261_102, s_261_105, s_261_108, s_261_109, s_261_110, s_261_111, s_261_112, s_261_114, s_261_117, s_261_120, s_261_121, s_261_122, s_261_124, s_261_127, s_261_129, s_261_130, s_261_131, s_261_133, s_261_135, s_261_138, s_261_139, s_261_140, s_261_143, s_261_144, s_261_145, s_261_146, s_261_148, s_261_151, e_261, mv_i_1, mv_l_1, mv_a_1, mv_a_2, mv_a_3, mk2_n, mk2_i, mk2_l, mk2_a, mk2_u, mk2_x, mB_T, mB_F, mS_cons, mS_nil, mSB_T, mSB_F, mca_nil, mca_i, mca_l, mca_r, mca_u, mca_x, mcat_i, mcat_l, mcat_r, mcat_u, mcat_x, mK_some, mK_none, va_rf_s, va_rf_n, lgc_eq, lgc_lt, lgc_gt, lgc_ge, lgc_le, mrd_104, mrd_105, mrd_106, mrd_107, true_and, and_true, and_self, false_and, and_false, true_or, or_true, false_or, or_false, not_true_eq_false, not_false_eq_true, mgb, mga, mgr, mN, reduceCtorEq, ↓reduceIte, eq_self, ge_iff_le, gt_iff_lt, Nat.reduceAdd, Nat.reduceMul, Nat.reduceSub, Nat.reduceLT, Nat.reduceGT, Nat.reduceEqDiff, Nat.reduceLeDiff, Nat.left_eq_add, Nat.add_eq_left, Nat.reduceMod, Nat.reduceDiv, Nat.succ_ne_self, g0, run]
  cases s with
  | none =>
    rw [DS_6n hkd] at hs ⊢
    obtain ⟨h', o1, o2, o3, o4, o5, o6, run⟩ := lop_n (d := d) (nx' := nx') W S0 hw (by omega) hs
    exact fin _ _ ⟨h', o1, o2, o3, o4, o5, o6, shp_n, run⟩
  | some A =>
    rw [DS_6s hkd] at hs ⊢
    exact fin _ _ (u_268 (d := d) (nx' := nx') W S0 hw (by omega) hs)
end LOf
