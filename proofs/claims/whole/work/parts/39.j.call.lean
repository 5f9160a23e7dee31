set_option maxRecDepth 100000
/-! Effect.carry: return, call -/
/-- the slot that takes what a return gives -/
def tkF (h : mh_H) (p : Nat) (tk : Option Nat) : Prop := (mh_i h 23 p = -1 ∧ tk = none) ∨ ∃ q Sq, q < 250 ∧ mh_i h 23 p = Int32.ofNat q ∧ mh_r h 20 q = some Sq ∧ mg h Sq 9 ∧ ((mh_i h Sq 8 = -1 ∧ tk = none) ∨ ∃ sl nq, mh_i h Sq 8 = Int32.ofNat sl ∧ sl < 1000 ∧ mh_i h 21 q = Int32.ofNat nq ∧ tk = some (nq + sl))
def tkV (tk : Option Nat) : Int32 := match tk with
  | none => -1
  | some x => Int32.ofNat x
noncomputable def a_ret (en : Int → Nat) (A : ab) (tk : Option Nat) (t : tr) : Option ab := match tk with
  | some x => a_set en A A x false t
  | none => match (ev en A t none).1 with
    | none => none
    | some _ => some A
section CAr
variable {d : Nat} {h h1 : mh_H} {P R lP Y C E TT UU SC SP nC nE nS nb na p pa St Fr Ho : Nat} {A : ab} {sN : Int → Prop} {en : Int → Nat} {t : tr} {sum c0 p0 nm : Nat} {tk : Option Nat}
theorem nn_m1 {k : Nat} (hk : k < 1000) : (Int32.ofNat k = -1) = False := by
  refine eq_false (fun e => ?_)
  have e1 := congrArg Int32.toInt e
  rw [nn_int (by omega)] at e1
  have e2 : ((-1 : Int32)).toInt = -1 := by decide
  omega
theorem c_84 (F : CF h) (hp : p < 250) (w : tkF h p tk) : ∀ Q, mcall d 84 [.ref 2, .int (Int32.ofNat p)] h Q = Q (some (.int (tkV tk))) h := fun Q => by
  have g2 := F.g 2 4 20 (by decide +kernel)
  have t3 := F.f 2 3 20 (by decide +kernel)
  have t4 := F.f 2 4 21 (by decide +kernel)
  have t6 := F.f 2 6 23 (by decide +kernel)
  have g20 := (F.g 20 105 250 (by decide +kernel)).1
  have g20' := (F.g 20 105 250 (by decide +kernel)).2
  have l20 := F.l 20 105 250 (by decide +kernel)
  have g21 := F.g 21 100 250 (by decide +kernel)
  have l21 := F.l 21 100 250 (by decide +kernel)
  have g23 := F.g 23 100 250 (by decide +kernel)
  have l23 := F.l 23 100 250 (by decide +kernel)
  have m11 : ((-1 : Int32) = -1) = True := by decide
  have e10 : ((1 : Int32) = 0) = False := by decide
  have e00 : ((0 : Int32) = 0) = True := by decide
  clear F
  rcases w with ⟨w1, w2⟩ | ⟨q, Sq, hq, w1, w2, w3, ⟨w4, w5⟩ | ⟨sl, nq, w4, w5, w6, w7⟩⟩
  · rw [w2]
    unfold tkV
    simp (disch := omega) only [s_84_0, s_84_1, s_84_4, s_84_5, s_84_5x, s_84_6, s_84_7, s_84_8, s_84_9, s_84_12, s_84_13, s_84_16, s_84_17, s_84_18, s_84_21, s_84_22, s_84_25, s_84_26, s_84_29, s_84_30, s_84_31, s_84_32, s_84_35, s_84_36, s_84_39, s_84_40, s_84_40x, s_84_41, s_84_42, s_84_45, s_84_46, s_84_47, s_84_50, s_84_51, s_84_54, s_84_55, e_84, mv_i_1, mv_l_1, mv_a_1, mv_a_2, mv_a_3, mk2_n, mk2_i, mk2_l, mk2_a, mk2_u, mk2_x, mB_T, mB_F, mS_cons, mS_nil, mSB_T, mSB_F, mca_nil, mca_i, mca_l, mca_r, mca_u, mca_x, mcat_i, mcat_l, mcat_r, mcat_u, mcat_x, mK_some, mK_none, va_rf_s, va_rf_n, lgc_eq, lgc_lt, lgc_gt, lgc_ge, lgc_le, mrd_104, mrd_105, mrd_106, mrd_107, true_and, and_true, and_self, false_and, and_false, true_or, or_true, false_or, or_false, not_true_eq_false, not_false_eq_true, mgb, mga, mgr, mN, reduceCtorEq, ↓reduceIte, eq_self, ge_iff_le, gt_iff_lt, hk_si, hk_sj, hk_sr, hl_si, hl_sj, hl_sr, hn_si, hn_sj, hn_sr, hs_si, hs_sj, hs_sr, hi_sj, hi_sr, hj_si, hj_sr, hr_si, hr_sj, hi_si, hj_sj, hr_sr, mg_si, mg_sj, mg_sr, Nat.reduceAdd, Nat.reduceMul, Nat.reduceSub, Nat.reduceLT, Nat.reduceGT, Nat.reduceEqDiff, Nat.reduceLeDiff, Nat.left_eq_add, Nat.add_eq_left, Nat.reduceMod, Nat.reduceDiv, Nat.succ_ne_self, g2, t6, g23, l23, w1, m11, e00, nn_mxT, nn_clamp]
  · rw [w5]
    unfold tkV
    simp (disch := omega) only [s_84_0, s_84_1, s_84_4, s_84_5, s_84_5x, s_84_6, s_84_7, s_84_8, s_84_9, s_84_12, s_84_13, s_84_16, s_84_17, s_84_18, s_84_21, s_84_22, s_84_25, s_84_26, s_84_29, s_84_30, s_84_31, s_84_32, s_84_35, s_84_36, s_84_39, s_84_40, s_84_40x, s_84_41, s_84_42, s_84_45, s_84_46, s_84_47, s_84_50, s_84_51, s_84_54, s_84_55, e_84, mv_i_1, mv_l_1, mv_a_1, mv_a_2, mv_a_3, mk2_n, mk2_i, mk2_l, mk2_a, mk2_u, mk2_x, mB_T, mB_F, mS_cons, mS_nil, mSB_T, mSB_F, mca_nil, mca_i, mca_l, mca_r, mca_u, mca_x, mcat_i, mcat_l, mcat_r, mcat_u, mcat_x, mK_some, mK_none, va_rf_s, va_rf_n, lgc_eq, lgc_lt, lgc_gt, lgc_ge, lgc_le, mrd_104, mrd_105, mrd_106, mrd_107, true_and, and_true, and_self, false_and, and_false, true_or, or_true, false_or, or_false, not_true_eq_false, not_false_eq_true, mgb, mga, mgr, mN, reduceCtorEq, ↓reduceIte, eq_self, ge_iff_le, gt_iff_lt, hk_si, hk_sj, hk_sr, hl_si, hl_sj, hl_sr, hn_si, hn_sj, hn_sr, hs_si, hs_sj, hs_sr, hi_sj, hi_sr, hj_si, hj_sr, hr_si, hr_sj, hi_si, hj_sj, hr_sr, mg_si, mg_sj, mg_sr, Nat.reduceAdd, Nat.reduceMul, Nat.reduceSub, Nat.reduceLT, Nat.reduceGT, Nat.reduceEqDiff, Nat.reduceLeDiff, Nat.left_eq_add, Nat.add_eq_left, Nat.reduceMod, Nat.reduceDiv, Nat.succ_ne_self, g2, t3, t6, g20, g20', l20, g23, l23, w1, w2, w3, w4, m11, e00, nn_m1, nn_mxT, nn_clamp]
  · rw [w7]
    unfold tkV
    have ea : Int32.ofNat nq + Int32.ofNat sl = Int32.ofNat (nq + sl) := nn_add
    simp (disch := omega) only [s_84_0, s_84_1, s_84_4, s_84_5, s_84_5x, s_84_6, s_84_7, s_84_8, s_84_9, s_84_12, s_84_13, s_84_16, s_84_17, s_84_18, s_84_21, s_84_22, s_84_25, s_84_26, s_84_29, s_84_30, s_84_31, s_84_32, s_84_35, s_84_36, s_84_39, s_84_40, s_84_40x, s_84_41, s_84_42, s_84_45, s_84_46, s_84_47, s_84_50, s_84_51, s_84_54, s_84_55, e_84, mv_i_1, mv_l_1, mv_a_1, mv_a_2, mv_a_3, mk2_n, mk2_i, mk2_l, mk2_a, mk2_u, mk2_x, mB_T, mB_F, mS_cons, mS_nil, mSB_T, mSB_F, mca_nil, mca_i, mca_l, mca_r, mca_u, mca_x, mcat_i, mcat_l, mcat_r, mcat_u, mcat_x, mK_some, mK_none, va_rf_s, va_rf_n, lgc_eq, lgc_lt, lgc_gt, lgc_ge, lgc_le, mrd_104, mrd_105, mrd_106, mrd_107, true_and, and_true, and_self, false_and, and_false, true_or, or_true, false_or, or_false, not_true_eq_false, not_false_eq_true, mgb, mga, mgr, mN, reduceCtorEq, ↓reduceIte, eq_self, ge_iff_le, gt_iff_lt, hk_si, hk_sj, hk_sr, hl_si, hl_sj, hl_sr, hn_si, hn_sj, hn_sr, hs_si, hs_sj, hs_sr, hi_sj, hi_sr, hj_si, hj_sr, hr_si, hr_sj, hi_si, hj_sj, hr_sr, mg_si, mg_sj, mg_sr, Nat.reduceAdd, Nat.reduceMul, Nat.reduceSub, Nat.reduceLT, Nat.reduceGT, Nat.reduceEqDiff, Nat.reduceLeDiff, Nat.left_eq_add, Nat.add_eq_left, Nat.reduceMod, Nat.reduceDiv, Nat.succ_ne_self, g2, t3, t4, t6, g20, g20', l20, g21, l21, g23, l23, w1, w2, w3, w4, w6, ea, e10, nn_m1, nn_mxT, nn_clamp]
theorem tkF_s (B : BS h Y C E TT UU SC SP nC nE nS) (x : sE h h1) (w : tkF h p tk) : tkF h1 p tk := by
  have F := B.F
  have g23 := F.g 23 100 250 (by decide +kernel)
  have g20 := F.g 20 105 250 (by decide +kernel)
  have g21 := F.g 21 100 250 (by decide +kernel)
  have e23 := (sE_i B x g23 (by omega) (by omega) (by omega) p).1
  rcases w with ⟨w1, w2⟩ | ⟨q, Sq, hq, w1, w2, w3, w⟩
  · exact Or.inl ⟨by rw [e23]; exact w1, w2⟩
  · have nS : ¬ (Sq = 34 ∨ Sq = 35 ∨ Sq = 38 ∨ Sq = 41 ∨ Sq = 51) := by
      have a1 := (F.g 34 1 9 (by decide +kernel)).1
      have a2 := (F.g 35 5 19 (by decide +kernel)).1
      have a3 := (F.g 38 100 124 (by decide +kernel)).1
      have a4 := (F.g 41 100 12 (by decide +kernel)).1
      have a5 := (F.g 51 104 122 (by decide +kernel)).1
      have a6 := w3.1
      rintro (e | e | e | e | e) <;> (rw [e] at a6; omega)
    have e8 := (sE_i B x w3 (by omega) (by omega) nS 8).1
    refine Or.inr ⟨q, Sq, hq, by rw [e23]; exact w1, by rw [(sE_i B x g20 (by omega) (by omega) (by omega) q).2]; exact w2, fz_mg x.1.1 w3, ?_⟩
    rcases w with ⟨w4, w5⟩ | ⟨sl, nq, w4, w5, w6, w7⟩
    · exact Or.inl ⟨by rw [e8]; exact w4, w5⟩
    · exact Or.inr ⟨sl, nq, by rw [e8]; exact w4, w5, by rw [(sE_i B x g21 (by omega) (by omega) (by omega) q).1]; exact w6, w7⟩
/-- return SUM; -/
theorem v_13r (c : CQ h Y C E TT UU SC SP nC nE nS nb na p pa St Fr 8 A) (w : tkF h p tk) (hx : ∀ x, tk = some x → x < A.n) (s10 : mh_i h St 10 = Int32.ofNat sum) (U : SU h C E TT UU SC SP nC nE nS pa nb na sN en A t false sum c0 p0) : ∃ h', CR h h' Y C E TT UU SC SP nC nE nS (a_ret en A tk t) (ev en A t none).2 ∧ ∀ Q, mcall (d + 5) 13 [.ref 34, .int (Int32.ofNat p), .ref Fr] h Q = Q none h' := by
  obtain ⟨h2, P, R, lP, Ho, hl, y2, B2, S2, r2, k2, a4, ii, e2⟩ := car_0 (d := d) c.B c.hp c.b1 c.b2 c.s5 c.hb c.rS c.gS c.c c.n c.k c.T
  have U2 := SU_le hl (SU_sE c.B y2 U)
  have c84 := c_84 (d := d + 4) B2.F c.hp (tkF_s c.B y2 w)
  have gS2 := fz_mg y2.1.1 c.gS
  have iS : ∀ j, mh_i h2 St j = mh_i h St j := fun j => (ii St 9 j c.gS (by omega) (by omega) c.ns).1
  have fin : ∃ h5, sE h2 h5 ∧ BS h5 Y C E TT UU SC SP nC nE nS ∧ mh_r h5 34 2 = some Ho ∧ RS h5 Ho (a_ret en A tk t) ∧ mh_i h5 34 8 = mh_i h2 35 4 ||| (ev en A t none).2 ∧ ∃ h3, (∀ Q, mcall (d + 4) 16 [.ref 34, .int (tkV tk), .int (Int32.ofNat sum)] h2 Q = Q none h3) ∧ ∀ Q, mw (d + 5) 13 Q 236 [some (.ref 34), some (.int (Int32.ofNat p)), some (.ref Fr), some (.ref St), none] [] h3 = Q none h5 := by
    cases tk with
    | some x =>
      obtain ⟨h3, f3, a43, k3, e3⟩ := v_16 (d := d) (x := x) (B := A) (new := false) S2 U2 r2 k2 c.T (Nat.le_refl _) (fun z => by cases z) (fun _ => hx x rfl)
      have y3 := st_sE S2.G.p S2.G.S S2.G.q S2.G.y r2 f3
      obtain ⟨h4, y4, B4, r4, k4, a8, e4⟩ := car_1 (d := d) (x1 := some (.int (Int32.ofNat p))) (x2 := some (.ref Fr)) (x3 := some (.ref St)) (x4 := none) (BS_fG f3 B2) (by rw [fG_r f3]; exact r2) k3
      exact ⟨h4, sE_t y3 y4, B4, r4, k4, by rw [a8, a43], h3, e3, e4⟩
    | none =>
      cases hv : (ev en A t none).1 with
      | none =>
        obtain ⟨h3, f3, a43, k3, e3⟩ := v_16n (d := d) S2 U2 r2 k2 hv (-1)
        have y3 := st_sE S2.G.p S2.G.S S2.G.q S2.G.y r2 f3
        obtain ⟨h4, y4, B4, r4, k4, a8, e4⟩ := car_1 (d := d) (x1 := some (.int (Int32.ofNat p))) (x2 := some (.ref Fr)) (x3 := some (.ref St)) (x4 := none) (BS_fG f3 B2) (by rw [fG_r f3]; exact r2) k3
        have er : a_ret en A none t = none := by unfold a_ret; dsimp only; rw [hv]
        exact ⟨h4, sE_t y3 y4, B4, r4, by rw [er]; exact k4, by rw [a8, a43], h3, e3, e4⟩
      | some q =>
        obtain ⟨h3, f3, a43, k3, e3⟩ := v_16l (d := d) S2 U2 r2 k2 (by rw [hv]; exact fun z => by cases z)
        have y3 := st_sE S2.G.p S2.G.S S2.G.q S2.G.y r2 f3
        obtain ⟨h4, y4, B4, r4, k4, a8, e4⟩ := car_1 (d := d) (x1 := some (.int (Int32.ofNat p))) (x2 := some (.ref Fr)) (x3 := some (.ref St)) (x4 := none) (BS_fG f3 B2) (by rw [fG_r f3]; exact r2) (TG_of k3 c.T)
        have er : a_ret en A none t = some A := by unfold a_ret; dsimp only; rw [hv]
        exact ⟨h4, sE_t y3 y4, B4, r4, by rw [er]; exact RS_cl c.T.t k4, by rw [a8, a43], h3, e3, e4⟩
  obtain ⟨h5, y5, B5, r5, k5, a8, h3, e3, e5⟩ := fin
  refine ⟨h5, ⟨Ho, sE_t y2 y5, B5, r5, k5, by rw [a8, a4, z_or]⟩, fun Q => ?_⟩
  rw [e2 Q]
  have F2 := B2.F
  have g34 := F2.g 34 1 9 (by decide +kernel)
  have g2 := F2.g 2 4 20 (by decide +kernel)
  have t0 := F2.f 34 0 2 (by decide +kernel)
  have v0 : mh_i h2 St 0 = 8 := by rw [iS]; exact c.s0
  have v10 : mh_i h2 St 10 = Int32.ofNat sum := by rw [iS]; exact s10
  clear c F2 B2 S2 U U2 y2 y5 B5 k2 k5 ii iS w hx
  simp (disch := omega) only [s_13_0, s_13_1, s_13_4, s_13_7, s_13_8, s_13_9, s_13_9n, s_13_9x, s_13_10, s_13_11, s_13_14, s_13_15, s_13_18, s_13_19, s_13_20, s_13_23, s_13_24, s_13_27, s_13_28, s_13_31, s_13_32, s_13_35, s_13_64, s_13_65, s_13_66, s_13_69, s_13_70, s_13_73, s_13_76, s_13_77, s_13_80, s_13_83, s_13_84, s_13_85, s_13_88, s_13_89, s_13_92, s_13_93, s_13_96, s_13_99, s_13_102, s_13_103, s_13_104, s_13_107, s_13_110, s_13_111, s_13_111x, s_13_112, s_13_113, s_13_116, s_13_117, s_13_118, s_13_121, s_13_124, s_13_127, s_13_128, s_13_129, s_13_130, s_13_133, s_13_136, s_13_137, s_13_137x, s_13_138, s_13_139, s_13_142, s_13_143, s_13_146, s_13_149, s_13_150, s_13_152, s_13_154, s_13_155, s_13_158, s_13_161, s_13_162, s_13_165, s_13_168, s_13_171, s_13_172, s_13_175, s_13_178, s_13_179, s_13_180, s_13_183, s_13_184, s_13_187, s_13_189, s_13_190, s_13_191, s_13_194, s_13_196, s_13_197, s_13_200, s_13_201, s_13_204, s_13_205, s_13_208, s_13_211, s_13_214, s_13_217, s_13_220, s_13_221, s_13_222, s_13_225, s_13_226, s_13_229, s_13_230, s_13_233, s_13_237, s_13_240, s_13_241, s_13_244, s_13_247, s_13_248, s_13_249, s_13_252, s_13_255, s_13_258, e_13, mv_i_1, mv_l_1, mv_a_1, mv_a_2, mv_a_3, mk2_n, mk2_i, mk2_l, mk2_a, mk2_u, mk2_x, mB_T, mB_F, mS_cons, mS_nil, mSB_T, mSB_F, mca_nil, mca_i, mca_l, mca_r, mca_u, mca_x, mcat_i, mcat_l, mcat_r, mcat_u, mcat_x, mK_some, mK_none, va_rf_s, va_rf_n, lgc_eq, lgc_lt, lgc_gt, lgc_ge, lgc_le, mrd_104, mrd_105, mrd_106, mrd_107, true_and, and_true, and_self, false_and, and_false, true_or, or_true, false_or, or_false, not_true_eq_false, not_false_eq_true, mgb, mga, mgr, mN, reduceCtorEq, ↓reduceIte, eq_self, ge_iff_le, gt_iff_lt, hk_si, hk_sj, hk_sr, hl_si, hl_sj, hl_sr, hn_si, hn_sj, hn_sr, hs_si, hs_sj, hs_sr, hi_sj, hi_sr, hj_si, hj_sr, hr_si, hr_sj, hi_si, hj_sj, hr_sr, mg_si, mg_sj, mg_sr, Nat.reduceAdd, Nat.reduceMul, Nat.reduceSub, Nat.reduceLT, Nat.reduceGT, Nat.reduceEqDiff, Nat.reduceLeDiff, Nat.left_eq_add, Nat.add_eq_left, Nat.reduceMod, Nat.reduceDiv, Nat.succ_ne_self, g34, g2, t0, gS2, v0, c84, v10, e3, e5, show ((8 : Int32) = 1) = False by decide, show ((8 : Int32) = 2) = False by decide, show ((8 : Int32) = 3) = False by decide, show ((8 : Int32) = 4) = False by decide]
/-- cells that x = SUM leaves as they are -/
theorem st_no (S : ES h P R lP Fr Y C E TT UU SC SP nC nE nS nb na Ho A) {b c : Nat} (g : mg h b c) (c8 : c ≠ 8) (c1 : c ≠ 101) (nb' : ¬ (b = 35 ∨ b = 38 ∨ b = 41)) : ∀ j, ¬ stW Ho P R b j := fun j w => by
  have F := S.G.F
  have a2 := (F.g 36 101 124 (by decide +kernel)).1
  have a3 := (F.g 37 101 124 (by decide +kernel)).1
  have a4 := (F.g 52 101 48 (by decide +kernel)).1
  have a5 := S.G.p.g9.1
  have a7 := S.G.p.g10.1
  have a6 := g.1
  have kS := so_k S.so g c8 c1
  rcases w with w | w | w
  · rcases w with ⟨e, -⟩ | e | e | e | e | e
    · omega
    · rw [e] at a6; omega
    · rw [e] at a6; omega
    · omega
    · rw [e] at a6; omega
    · rw [e] at a6; omega
  · unfold fmW at w; omega
  · rcases w with e | e | e | e
    · omega
    · omega
    · omega
    · rw [e] at a6; omega
/-- the SUMs of a call -/
def rSU (h : mh_H) (C E TT UU SC SP nC nE nS lP nb na : Nat) (sN : Int → Prop) (en : Int → Nat) (A : ab) : tr → Nat → Prop
  | .leaf _, _ => True
  | .branch n cs r, sum => (∃ c0 p0, SU h C E TT UU SC SP nC nE nS lP nb na sN en A (.branch n cs r) false sum c0 p0) ∧ rSU h C E TT UU SC SP nC nE nS lP nb na sN en A r (sum + 1)
theorem rSU_m {h' : mh_H} {lQ : Nat} (w : ∀ t sum c0 p0, SU h C E TT UU SC SP nC nE nS lP nb na sN en A t false sum c0 p0 → SU h' C E TT UU SC SP nC nE nS lQ nb na sN en A t false sum c0 p0) : ∀ t sum, rSU h C E TT UU SC SP nC nE nS lP nb na sN en A t sum → rSU h' C E TT UU SC SP nC nE nS lQ nb na sN en A t sum := by
  intro t
  induction t with
  | leaf _ => exact fun _ _ => trivial
  | branch n cs r _ ih => exact fun sum u => ⟨by obtain ⟨c0, p0, q⟩ := u.1; exact ⟨c0, p0, w _ _ _ _ q⟩, ih (sum + 1) u.2⟩
theorem rSU_w : ∀ t sum, rSU h C E TT UU SC SP nC nE nS lP nb na sN en A t sum → wR sN en A t := by
  intro t
  induction t with
  | leaf _ => exact fun _ _ => trivial
  | branch n cs r _ ih => exact fun sum u => ⟨by obtain ⟨c0, p0, q⟩ := u.1; exact q.w, ih (sum + 1) u.2⟩
/-- its loop -/
theorem cal_l {su : Nat} (hT : ab_T A) (hp : p < 250) (hs : su < 1000) (hm : sum + su < 1000000) : ∀ t (h : mh_H) (i : Nat) (O : Option ab), ES h P R lP Fr Y C E TT UU SC SP nC nE nS nb na Ho A → mh_r h 34 2 = some Ho → RS h Ho O → mh_i h 21 p = Int32.ofNat nb → mh_r h 20 p = some St → mg h St 9 → mh_i h St 3 = Int32.ofNat nm → mh_i h St 10 = Int32.ofNat sum → mh_i h St 11 = Int32.ofNat su → nb + nm = A.n → i + tl t = su → A.n + su ≤ 12 → (∀ B, O = some B → ab_T B ∧ B.n = A.n + i ∧ B.a = A.a ∧ B.rm = A.rm) → rSU h C E TT UU SC SP nC nE nS lP nb na sN en A t (sum + i) → ∃ h' v4, fG (stW Ho P R) h h' ∧ RS h' Ho (a_call en A t O).1 ∧ mh_i h' 35 4 = mh_i h 35 4 ||| (a_call en A t O).2 ∧ ∀ Q, mw (d + 5) 13 Q 152 [some (.ref 34), some (.int (Int32.ofNat p)), some (.ref Fr), some (.ref St), some (.int (Int32.ofNat i))] [] h = mw (d + 5) 13 Q 236 [some (.ref 34), some (.int (Int32.ofNat p)), some (.ref Fr), some (.ref St), v4] [] h' := by
  intro t
  induction t with
  | leaf u =>
    intro h i O S r2 k b1 rS gS s3 s10 s11 hx hi hn ok U
    refine ⟨h, some (.int (Int32.ofNat i)), fG_id, k, by show mh_i h 35 4 = mh_i h 35 4 ||| 0; simp, fun Q => ?_⟩
    have e : i = su := hi
    have le : (su ≤ i) = True := eq_true (by omega)
    clear S k U ok
    simp (disch := omega) only [s_13_0, s_13_1, s_13_4, s_13_7, s_13_8, s_13_9, s_13_9n, s_13_9x, s_13_10, s_13_11, s_13_14, s_13_15, s_13_18, s_13_19, s_13_20, s_13_23, s_13_24, s_13_27, s_13_28, s_13_31, s_13_32, s_13_35, s_13_64, s_13_65, s_13_66, s_13_69, s_13_70, s_13_73, s_13_76, s_13_77, s_13_80, s_13_83, s_13_84, s_13_85, s_13_88, s_13_89, s_13_92, s_13_93, s_13_96, s_13_99, s_13_102, s_13_103, s_13_104, s_13_107, s_13_110, s_13_111, s_13_111x, s_13_112, s_13_113, s_13_116, s_13_117, s_13_118, s_13_121, s_13_124, s_13_127, s_13_128, s_13_129, s_13_130, s_13_133, s_13_136, s_13_137, s_13_137x, s_13_138, s_13_139, s_13_142, s_13_143, s_13_146, s_13_149, s_13_150, s_13_152, s_13_154, s_13_155, s_13_158, s_13_161, s_13_162, s_13_165, s_13_168, s_13_171, s_13_172, s_13_175, s_13_178, s_13_179, s_13_180, s_13_183, s_13_184, s_13_187, s_13_189, s_13_190, s_13_191, s_13_194, s_13_196, s_13_197, s_13_200, s_13_201, s_13_204, s_13_205, s_13_208, s_13_211, s_13_214, s_13_217, s_13_220, s_13_221, s_13_222, s_13_225, s_13_226, s_13_229, s_13_230, s_13_233, s_13_237, s_13_240, s_13_241, s_13_244, s_13_247, s_13_248, s_13_249, s_13_252, s_13_255, s_13_258, e_13, mv_i_1, mv_l_1, mv_a_1, mv_a_2, mv_a_3, mk2_n, mk2_i, mk2_l, mk2_a, mk2_u, mk2_x, mB_T, mB_F, mS_cons, mS_nil, mSB_T, mSB_F, mca_nil, mca_i, mca_l, mca_r, mca_u, mca_x, mcat_i, mcat_l, mcat_r, mcat_u, mcat_x, mK_some, mK_none, va_rf_s, va_rf_n, lgc_eq, lgc_lt, lgc_gt, lgc_ge, lgc_le, mrd_104, mrd_105, mrd_106, mrd_107, true_and, and_true, and_self, false_and, and_false, true_or, or_true, false_or, or_false, not_true_eq_false, not_false_eq_true, mgb, mga, mgr, mN, reduceCtorEq, ↓reduceIte, eq_self, ge_iff_le, gt_iff_lt, hk_si, hk_sj, hk_sr, hl_si, hl_sj, hl_sr, hn_si, hn_sj, hn_sr, hs_si, hs_sj, hs_sr, hi_sj, hi_sr, hj_si, hj_sr, hr_si, hr_sj, hi_si, hj_sj, hr_sr, mg_si, mg_sj, mg_sr, Nat.reduceAdd, Nat.reduceMul, Nat.reduceSub, Nat.reduceLT, Nat.reduceGT, Nat.reduceEqDiff, Nat.reduceLeDiff, Nat.left_eq_add, Nat.add_eq_left, Nat.reduceMod, Nat.reduceDiv, Nat.succ_ne_self, gS, s11, nn_le, le]
  | branch n cs r _ ih =>
    intro h i O S r2 k b1 rS gS s3 s10 s11 hx hi hn ok U
    have tlb : tl (.branch n cs r) = 1 + tl r := rfl
    have le : (su ≤ i) = False := eq_false (by omega)
    have g34 := S.G.F.g 34 1 9 (by decide +kernel)
    have gH := S.so.1
    cases O with
    | none =>
      refine ⟨h, some (.int (Int32.ofNat i)), fG_id, by rw [call_n]; exact k, by rw [call_n]; show mh_i h 35 4 = mh_i h 35 4 ||| 0; simp, fun Q => ?_⟩
      have z : mh_i h Ho 0 = 1 := k.1.z
      have e10 : ((1 : Int32) = 0) = False := by decide
      clear S k U ok ih
      simp (disch := omega) only [s_13_0, s_13_1, s_13_4, s_13_7, s_13_8, s_13_9, s_13_9n, s_13_9x, s_13_10, s_13_11, s_13_14, s_13_15, s_13_18, s_13_19, s_13_20, s_13_23, s_13_24, s_13_27, s_13_28, s_13_31, s_13_32, s_13_35, s_13_64, s_13_65, s_13_66, s_13_69, s_13_70, s_13_73, s_13_76, s_13_77, s_13_80, s_13_83, s_13_84, s_13_85, s_13_88, s_13_89, s_13_92, s_13_93, s_13_96, s_13_99, s_13_102, s_13_103, s_13_104, s_13_107, s_13_110, s_13_111, s_13_111x, s_13_112, s_13_113, s_13_116, s_13_117, s_13_118, s_13_121, s_13_124, s_13_127, s_13_128, s_13_129, s_13_130, s_13_133, s_13_136, s_13_137, s_13_137x, s_13_138, s_13_139, s_13_142, s_13_143, s_13_146, s_13_149, s_13_150, s_13_152, s_13_154, s_13_155, s_13_158, s_13_161, s_13_162, s_13_165, s_13_168, s_13_171, s_13_172, s_13_175, s_13_178, s_13_179, s_13_180, s_13_183, s_13_184, s_13_187, s_13_189, s_13_190, s_13_191, s_13_194, s_13_196, s_13_197, s_13_200, s_13_201, s_13_204, s_13_205, s_13_208, s_13_211, s_13_214, s_13_217, s_13_220, s_13_221, s_13_222, s_13_225, s_13_226, s_13_229, s_13_230, s_13_233, s_13_237, s_13_240, s_13_241, s_13_244, s_13_247, s_13_248, s_13_249, s_13_252, s_13_255, s_13_258, e_13, mv_i_1, mv_l_1, mv_a_1, mv_a_2, mv_a_3, mk2_n, mk2_i, mk2_l, mk2_a, mk2_u, mk2_x, mB_T, mB_F, mS_cons, mS_nil, mSB_T, mSB_F, mca_nil, mca_i, mca_l, mca_r, mca_u, mca_x, mcat_i, mcat_l, mcat_r, mcat_u, mcat_x, mK_some, mK_none, va_rf_s, va_rf_n, lgc_eq, lgc_lt, lgc_gt, lgc_ge, lgc_le, mrd_104, mrd_105, mrd_106, mrd_107, true_and, and_true, and_self, false_and, and_false, true_or, or_true, false_or, or_false, not_true_eq_false, not_false_eq_true, mgb, mga, mgr, mN, reduceCtorEq, ↓reduceIte, eq_self, ge_iff_le, gt_iff_lt, hk_si, hk_sj, hk_sr, hl_si, hl_sj, hl_sr, hn_si, hn_sj, hn_sr, hs_si, hs_sj, hs_sr, hi_sj, hi_sr, hj_si, hj_sr, hr_si, hr_sj, hi_si, hj_sj, hr_sr, mg_si, mg_sj, mg_sr, Nat.reduceAdd, Nat.reduceMul, Nat.reduceSub, Nat.reduceLT, Nat.reduceGT, Nat.reduceEqDiff, Nat.reduceLeDiff, Nat.left_eq_add, Nat.add_eq_left, Nat.reduceMod, Nat.reduceDiv, Nat.succ_ne_self, gS, s11, nn_le, le, g34, r2, gH, z, e10]
    | some B =>
      obtain ⟨TB, nB, aB, mB'⟩ := ok B rfl
      obtain ⟨⟨c0, p0, U0⟩, Ur⟩ := U
      have z : mh_i h Ho 0 = 0 := k.1.z
      obtain ⟨h1, f1, k1, e1⟩ := l_153 (d := d + 2) 52 k TB (by omega)
      have x1 : fG (stW Ho P R) h h1 := fG_w (fG_fq f1) (fun b j w => Or.inr (Or.inr w))
      have S1 := ES_fG S x1
      have r21 : mh_r h1 34 2 = some Ho := by rw [fG_r x1]; exact r2
      obtain ⟨h2, f2, a42, k2, e2⟩ := v_16 (d := d) (x := B.n) (B := B) (new := true) S1 (ES_U S x1 U0) r21 k1 TB (by omega) (fun _ => ⟨rfl, by omega⟩) (fun z => by cases z)
      have S2 := ES_fG S1 f2
      obtain ⟨h3, f3, k3, e3⟩ := k2.t (d := d + 2) S2.w
      have x3 : fG (stW Ho P R) h2 h3 := fG_w (fG_fq f3) (fun b j w => Or.inr (Or.inr w))
      have x13 := fG_t x1 (fG_t f2 x3)
      have S3 := ES_fG S2 x3
      have F := S.G.F
      have g21 := F.g 21 100 250 (by decide +kernel)
      have nSt : ¬ (St = 35 ∨ St = 38 ∨ St = 41) := by
        have a2 := (F.g 35 5 19 (by decide +kernel)).1
        have a3 := (F.g 38 100 124 (by decide +kernel)).1
        have a4 := (F.g 41 100 12 (by decide +kernel)).1
        have a6 := gS.1
        rintro (e | e | e) <;> (rw [e] at a6; omega)
      have iS : ∀ j, mh_i h3 St j = mh_i h St j := fun j => fG_i x13 (st_no S gS (by omega) (by omega) nSt j)
      have iS1 : ∀ j, mh_i h1 St j = mh_i h St j := fun j => fG_i x1 (st_no S gS (by omega) (by omega) nSt j)
      have i21 : mh_i h3 21 p = Int32.ofNat nb := by rw [fG_i x13 (st_no S g21 (by omega) (by omega) (by omega) p)]; exact b1
      have i21' : mh_i h1 21 p = Int32.ofNat nb := by rw [fG_i x1 (st_no S g21 (by omega) (by omega) (by omega) p)]; exact b1
      obtain ⟨h4, v4, f4, k4, a44, e4⟩ := ih h3 (i + 1) (a_set en A B B.n true (.branch n cs r)) S3 (by rw [fG_r x13]; exact r2) k3 i21 (by rw [fG_r x13]; exact rS) (fG_mg x13 gS) (by rw [iS]; exact s3) (by rw [iS]; exact s10) (by rw [iS]; exact s11) hx (by omega) hn (fun D hD => by
        obtain ⟨o1, o2, o3, o4, -⟩ := set_ok (new := true) hT TB U0.w (fun _ => ⟨rfl, by omega⟩) (fun z => by cases z) hD
        rw [if_pos rfl] at o2
        exact ⟨o1, by omega, o3.trans aB, o4.trans mB'⟩) (rSU_m (fun t s c p u => ES_U S x13 u) r (sum + (i + 1)) Ur)
      have aH := (cs_so S.G.S S.c).2
      unfold cAd at aH
      have a41 : mh_i h1 35 4 = mh_i h 35 4 := by rw [(f1.2.2.2.2.2 35 (by unfold sW; omega)).1]
      have a43 : mh_i h3 35 4 = mh_i h2 35 4 := by rw [(f3.2.2.2.2.2 35 (by unfold sW; omega)).1]
      refine ⟨h4, v4, fG_t x13 f4, k4, ?_, fun Q => ?_⟩
      · rw [a44, a43, a42, a41]
        show (mh_i h 35 4 ||| (ev en A (.branch n cs r) none).2) ||| (a_call en A r (a_set en A B B.n true (.branch n cs r))).2 = mh_i h 35 4 ||| ((ev en A (.branch n cs r) none).2 ||| (a_call en A r (a_set en A B B.n true (.branch n cs r))).2)
        exact i32_or_assoc _ _ _
      · have c80 := c_80 (d := d + 4) (nm := nm) S1.G.F hp i21' (by rw [fG_r x1]; exact rS) (fG_mg x1 gS) (by rw [iS1]; exact s3)
        have F1 := S1.G.F
        have F2 := S2.G.F
        have g341 := F1.g 34 1 9 (by decide +kernel)
        have g21' := F1.g 2 4 20 (by decide +kernel)
        have t01 := F1.f 34 0 2 (by decide +kernel)
        have g342 := F2.g 34 1 9 (by decide +kernel)
        have t72 := F2.f 34 7 52 (by decide +kernel)
        have g52 := F2.g 52 101 48 (by decide +kernel)
        have r22 : mh_r h2 34 2 = some Ho := by rw [fG_r f2]; exact r21
        have gH2 := S2.so.1
        have gS1 := fG_mg x1 gS
        have v10 : mh_i h1 St 10 = Int32.ofNat sum := by rw [iS1]; exact s10
        have e00 : ((0 : Int32) = 0) = True := by decide
        have ea1 : Int32.ofNat (nb + nm) + Int32.ofNat i = Int32.ofNat (nb + nm + i) := nn_add
        have ea2 : Int32.ofNat sum + Int32.ofNat i = Int32.ofNat (sum + i) := nn_add
        have ei : ∀ k, Int32.ofNat k + 1 = Int32.ofNat (k + 1) := fun k => nn_add (a := k) (b := 1)
        have eB : B.n = nb + nm + i := by omega
        rw [eB] at e2
        clear S S1 S2 S3 k k1 k2 k3 k4 U0 Ur ok ih f1 f2 f3 f4 x1 x3 x13 iS iS1 F F1 F2 TB hT
        refine s_13_152.trans ?_
        simp (disch := omega) only [s_13_0, s_13_1, s_13_4, s_13_7, s_13_8, s_13_9, s_13_9n, s_13_9x, s_13_10, s_13_11, s_13_14, s_13_15, s_13_18, s_13_19, s_13_20, s_13_23, s_13_24, s_13_27, s_13_28, s_13_31, s_13_32, s_13_35, s_13_64, s_13_65, s_13_66, s_13_69, s_13_70, s_13_73, s_13_76, s_13_77, s_13_80, s_13_83, s_13_84, s_13_85, s_13_88, s_13_89, s_13_92, s_13_93, s_13_96, s_13_99, s_13_102, s_13_103, s_13_104, s_13_107, s_13_110, s_13_111, s_13_111x, s_13_112, s_13_113, s_13_116, s_13_117, s_13_118, s_13_121, s_13_124, s_13_127, s_13_128, s_13_129, s_13_130, s_13_133, s_13_136, s_13_137, s_13_137x, s_13_138, s_13_139, s_13_142, s_13_143, s_13_146, s_13_149, s_13_150, s_13_154, s_13_155, s_13_158, s_13_161, s_13_162, s_13_165, s_13_168, s_13_171, s_13_172, s_13_175, s_13_178, s_13_179, s_13_180, s_13_183, s_13_184, s_13_187, s_13_189, s_13_190, s_13_191, s_13_194, s_13_196, s_13_197, s_13_200, s_13_201, s_13_204, s_13_205, s_13_208, s_13_211, s_13_214, s_13_217, s_13_220, s_13_221, s_13_222, s_13_225, s_13_226, s_13_229, s_13_230, s_13_233, s_13_237, s_13_240, s_13_241, s_13_244, s_13_247, s_13_248, s_13_249, s_13_252, s_13_255, s_13_258, e_13, mv_i_1, mv_l_1, mv_a_1, mv_a_2, mv_a_3, mk2_n, mk2_i, mk2_l, mk2_a, mk2_u, mk2_x, mB_T, mB_F, mS_cons, mS_nil, mSB_T, mSB_F, mca_nil, mca_i, mca_l, mca_r, mca_u, mca_x, mcat_i, mcat_l, mcat_r, mcat_u, mcat_x, mK_some, mK_none, va_rf_s, va_rf_n, lgc_eq, lgc_lt, lgc_gt, lgc_ge, lgc_le, mrd_104, mrd_105, mrd_106, mrd_107, true_and, and_true, and_self, false_and, and_false, true_or, or_true, false_or, or_false, not_true_eq_false, not_false_eq_true, mgb, mga, mgr, mN, reduceCtorEq, ↓reduceIte, eq_self, ge_iff_le, gt_iff_lt, hk_si, hk_sj, hk_sr, hl_si, hl_sj, hl_sr, hn_si, hn_sj, hn_sr, hs_si, hs_sj, hs_sr, hi_sj, hi_sr, hj_si, hj_sr, hr_si, hr_sj, hi_si, hj_sj, hr_sr, mg_si, mg_sj, mg_sr, Nat.reduceAdd, Nat.reduceMul, Nat.reduceSub, Nat.reduceLT, Nat.reduceGT, Nat.reduceEqDiff, Nat.reduceLeDiff, Nat.left_eq_add, Nat.add_eq_left, Nat.reduceMod, Nat.reduceDiv, Nat.succ_ne_self, gS, s11, nn_le, le, g34, r2, gH, z, e00, e1, g341, t01, g21', c80, ea1, gS1, v10, ea2, e2, g342, r22, gH2, t72, g52, e3, ei, e4]
/-- f(SUM, ..); -/
theorem v_13c {su : Nat} (c : CQ h Y C E TT UU SC SP nC nE nS nb na p pa St Fr 4 A) (s3 : mh_i h St 3 = Int32.ofNat nm) (hx : nb + nm = A.n) (s10 : mh_i h St 10 = Int32.ofNat sum) (s11 : mh_i h St 11 = Int32.ofNat su) (ht : tl t = su) (hn : A.n + su ≤ 12) (hm : sum < 900000) (U : rSU h C E TT UU SC SP nC nE nS pa nb na sN en A t sum) : ∃ h', CR h h' Y C E TT UU SC SP nC nE nS (a_call en A t (some A)).1 (a_call en A t (some A)).2 ∧ ∀ Q, mcall (d + 5) 13 [.ref 34, .int (Int32.ofNat p), .ref Fr] h Q = Q none h' := by
  obtain ⟨h2, P, R, lP, Ho, hl, y2, B2, S2, r2, k2, a4, ii, e2⟩ := car_0 (d := d) c.B c.hp c.b1 c.b2 c.s5 c.hb c.rS c.gS c.c c.n c.k c.T
  have U2 : rSU h2 C E TT UU SC SP nC nE nS lP nb na sN en A t (sum + 0) := rSU_m (fun t s c0 p0 u => SU_le hl (SU_sE c.B y2 u)) t sum U
  have gS2 := fz_mg y2.1.1 c.gS
  have iS : ∀ j, mh_i h2 St j = mh_i h St j := fun j => (ii St 9 j c.gS (by omega) (by omega) c.ns).1
  have g21h := c.B.F.g 21 100 250 (by decide +kernel)
  have g20h := c.B.F.g 20 105 250 (by decide +kernel)
  have v21 : mh_i h2 21 p = Int32.ofNat nb := by rw [(ii 21 100 p g21h (by omega) (by omega) (by omega)).1]; exact c.b1
  have r20 : mh_r h2 20 p = some St := by rw [(ii 20 105 p g20h (by omega) (by omega) (by omega)).2]; exact c.rS
  obtain ⟨h3, v4, f3, k3, a43, e3⟩ := cal_l (d := d) (su := su) (sum := sum) c.T c.hp (by omega) (by omega) t h2 0 (some A) S2 r2 k2 v21 r20 gS2 (by rw [iS]; exact s3) (by rw [iS]; exact s10) (by rw [iS]; exact s11) hx (by omega) hn (fun B e => by cases e; exact ⟨c.T, rfl, rfl, rfl⟩) U2
  have y3 := st_sE S2.G.p S2.G.S S2.G.q S2.G.y r2 f3
  have r23 : mh_r h3 34 2 = some Ho := by rw [fG_r f3]; exact r2
  have fin : ∃ h5, sE h3 h5 ∧ BS h5 Y C E TT UU SC SP nC nE nS ∧ mh_r h5 34 2 = some Ho ∧ RS h5 Ho (a_call en A t (some A)).1 ∧ mh_i h5 34 8 = mh_i h3 35 4 ∧ ∀ Q, mw (d + 5) 13 Q 236 [some (.ref 34), some (.int (Int32.ofNat p)), some (.ref Fr), some (.ref St), v4] [] h3 = Q none h5 := by
    cases e : (a_call en A t (some A)).1 with
    | none => exact car_1 (BS_fG f3 B2) r23 (Or.inr ⟨rfl, by rw [e] at k3; exact k3.1⟩)
    | some D =>
      have T3 := (call_ok c.T t (some A) (rSU_w t sum U) (fun B e => by cases e; exact ⟨c.T, rfl, rfl, by omega⟩) D e).1
      rw [e] at k3
      obtain ⟨h5, q1, q2, q3, q4, q5, q6⟩ := car_1 (d := d) (x1 := some (.int (Int32.ofNat p))) (x2 := some (.ref Fr)) (x3 := some (.ref St)) (x4 := v4) (BS_fG f3 B2) r23 (TG_of k3 T3)
      exact ⟨h5, q1, q2, q3, RS_cl T3.t q4, q5, q6⟩
  obtain ⟨h5, y5, B5, r5, k5, a8, e5⟩ := fin
  refine ⟨h5, ⟨Ho, sE_t y2 (sE_t y3 y5), B5, r5, k5, by rw [a8, a43, a4, z_or]⟩, fun Q => ?_⟩
  rw [e2 Q]
  have v0 : mh_i h2 St 0 = 4 := by rw [iS]; exact c.s0
  have e0 : (0 : Int32) = Int32.ofNat 0 := rfl
  rw [← e0] at e3
  clear c B2 S2 U U2 y2 y3 y5 f3 B5 k2 k3 k5 ii iS
  simp (disch := omega) only [s_13_0, s_13_1, s_13_4, s_13_7, s_13_8, s_13_9, s_13_9n, s_13_9x, s_13_10, s_13_11, s_13_14, s_13_15, s_13_18, s_13_19, s_13_20, s_13_23, s_13_24, s_13_27, s_13_28, s_13_31, s_13_32, s_13_35, s_13_64, s_13_65, s_13_66, s_13_69, s_13_70, s_13_73, s_13_76, s_13_77, s_13_80, s_13_83, s_13_84, s_13_85, s_13_88, s_13_89, s_13_92, s_13_93, s_13_96, s_13_99, s_13_102, s_13_103, s_13_104, s_13_107, s_13_110, s_13_111, s_13_111x, s_13_112, s_13_113, s_13_116, s_13_117, s_13_118, s_13_121, s_13_124, s_13_127, s_13_128, s_13_129, s_13_130, s_13_133, s_13_136, s_13_137, s_13_137x, s_13_138, s_13_139, s_13_142, s_13_143, s_13_146, s_13_149, s_13_150, s_13_154, s_13_155, s_13_158, s_13_161, s_13_162, s_13_165, s_13_168, s_13_171, s_13_172, s_13_175, s_13_178, s_13_179, s_13_180, s_13_183, s_13_184, s_13_187, s_13_189, s_13_190, s_13_191, s_13_194, s_13_196, s_13_197, s_13_200, s_13_201, s_13_204, s_13_205, s_13_208, s_13_211, s_13_214, s_13_217, s_13_220, s_13_221, s_13_222, s_13_225, s_13_226, s_13_229, s_13_230, s_13_233, s_13_237, s_13_240, s_13_241, s_13_244, s_13_247, s_13_248, s_13_249, s_13_252, s_13_255, s_13_258, e_13, mv_i_1, mv_l_1, mv_a_1, mv_a_2, mv_a_3, mk2_n, mk2_i, mk2_l, mk2_a, mk2_u, mk2_x, mB_T, mB_F, mS_cons, mS_nil, mSB_T, mSB_F, mca_nil, mca_i, mca_l, mca_r, mca_u, mca_x, mcat_i, mcat_l, mcat_r, mcat_u, mcat_x, mK_some, mK_none, va_rf_s, va_rf_n, lgc_eq, lgc_lt, lgc_gt, lgc_ge, lgc_le, mrd_104, mrd_105, mrd_106, mrd_107, true_and, and_true, and_self, false_and, and_false, true_or, or_true, false_or, or_false, not_true_eq_false, not_false_eq_true, mgb, mga, mgr, mN, reduceCtorEq, ↓reduceIte, eq_self, ge_iff_le, gt_iff_lt, hk_si, hk_sj, hk_sr, hl_si, hl_sj, hl_sr, hn_si, hn_sj, hn_sr, hs_si, hs_sj, hs_sr, hi_sj, hi_sr, hj_si, hj_sr, hr_si, hr_sj, hi_si, hj_sj, hr_sr, mg_si, mg_sj, mg_sr, Nat.reduceAdd, Nat.reduceMul, Nat.reduceSub, Nat.reduceLT, Nat.reduceGT, Nat.reduceEqDiff, Nat.reduceLeDiff, Nat.left_eq_add, Nat.add_eq_left, Nat.reduceMod, Nat.reduceDiv, Nat.succ_ne_self, gS2, v0, e3, e5, show ((4 : Int32) = 1) = False by decide, show ((4 : Int32) = 2) = False by decide, show ((4 : Int32) = 3) = False by decide, show ((4 : Int32) = 4) = True by decide]
end CAr
