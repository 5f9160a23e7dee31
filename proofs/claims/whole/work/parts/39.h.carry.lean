set_option maxRecDepth 100000
/-! Effect.carry, kind by kind -/
section CAk
variable {d : Nat} {h : mh_H} {Y C E TT UU SC SP nC nE nS nb na p pa St Fr : Nat} {A : ab} {sN : Int → Prop} {en : Int → Nat} {t : tr} {sum c0 p0 : Nat}
/-- what is known of a statement that is to be carried over -/
abbrev CQ (h : mh_H) (Y C E TT UU SC SP nC nE nS nb na p pa St Fr kd : Nat) (A : ab) : Prop := (BS h Y C E TT UU SC SP nC nE nS) ∧ (p < 250) ∧ (mh_i h 21 p = Int32.ofNat nb) ∧ (mh_i h 22 p = Int32.ofNat na) ∧ (mh_i h Y 5 = Int32.ofNat pa) ∧ (pa ≤ 60000) ∧ (mh_r h 20 p = some St) ∧ (mg h St 9) ∧ (mh_i h St 0 = Int32.ofNat kd) ∧ (cs h Fr) ∧ (¬ mine 0 h Fr) ∧ (RS h Fr (some A)) ∧ (ab_T A)
theorem CQ.B {h : mh_H} {Y C E TT UU SC SP nC nE nS nb na p pa St Fr kd : Nat} {A : ab} (q : CQ h Y C E TT UU SC SP nC nE nS nb na p pa St Fr kd A) : BS h Y C E TT UU SC SP nC nE nS := q.1
theorem CQ.hp {h : mh_H} {Y C E TT UU SC SP nC nE nS nb na p pa St Fr kd : Nat} {A : ab} (q : CQ h Y C E TT UU SC SP nC nE nS nb na p pa St Fr kd A) : p < 250 := q.2.1
theorem CQ.b1 {h : mh_H} {Y C E TT UU SC SP nC nE nS nb na p pa St Fr kd : Nat} {A : ab} (q : CQ h Y C E TT UU SC SP nC nE nS nb na p pa St Fr kd A) : mh_i h 21 p = Int32.ofNat nb := q.2.2.1
theorem CQ.b2 {h : mh_H} {Y C E TT UU SC SP nC nE nS nb na p pa St Fr kd : Nat} {A : ab} (q : CQ h Y C E TT UU SC SP nC nE nS nb na p pa St Fr kd A) : mh_i h 22 p = Int32.ofNat na := q.2.2.2.1
theorem CQ.s5 {h : mh_H} {Y C E TT UU SC SP nC nE nS nb na p pa St Fr kd : Nat} {A : ab} (q : CQ h Y C E TT UU SC SP nC nE nS nb na p pa St Fr kd A) : mh_i h Y 5 = Int32.ofNat pa := q.2.2.2.2.1
theorem CQ.hb {h : mh_H} {Y C E TT UU SC SP nC nE nS nb na p pa St Fr kd : Nat} {A : ab} (q : CQ h Y C E TT UU SC SP nC nE nS nb na p pa St Fr kd A) : pa ≤ 60000 := q.2.2.2.2.2.1
theorem CQ.rS {h : mh_H} {Y C E TT UU SC SP nC nE nS nb na p pa St Fr kd : Nat} {A : ab} (q : CQ h Y C E TT UU SC SP nC nE nS nb na p pa St Fr kd A) : mh_r h 20 p = some St := q.2.2.2.2.2.2.1
theorem CQ.gS {h : mh_H} {Y C E TT UU SC SP nC nE nS nb na p pa St Fr kd : Nat} {A : ab} (q : CQ h Y C E TT UU SC SP nC nE nS nb na p pa St Fr kd A) : mg h St 9 := q.2.2.2.2.2.2.2.1
theorem CQ.s0 {h : mh_H} {Y C E TT UU SC SP nC nE nS nb na p pa St Fr kd : Nat} {A : ab} (q : CQ h Y C E TT UU SC SP nC nE nS nb na p pa St Fr kd A) : mh_i h St 0 = Int32.ofNat kd := q.2.2.2.2.2.2.2.2.1
theorem CQ.c {h : mh_H} {Y C E TT UU SC SP nC nE nS nb na p pa St Fr kd : Nat} {A : ab} (q : CQ h Y C E TT UU SC SP nC nE nS nb na p pa St Fr kd A) : cs h Fr := q.2.2.2.2.2.2.2.2.2.1
theorem CQ.n {h : mh_H} {Y C E TT UU SC SP nC nE nS nb na p pa St Fr kd : Nat} {A : ab} (q : CQ h Y C E TT UU SC SP nC nE nS nb na p pa St Fr kd A) : ¬ mine 0 h Fr := q.2.2.2.2.2.2.2.2.2.2.1
theorem CQ.k {h : mh_H} {Y C E TT UU SC SP nC nE nS nb na p pa St Fr kd : Nat} {A : ab} (q : CQ h Y C E TT UU SC SP nC nE nS nb na p pa St Fr kd A) : RS h Fr (some A) := q.2.2.2.2.2.2.2.2.2.2.2.1
theorem CQ.T {h : mh_H} {Y C E TT UU SC SP nC nE nS nb na p pa St Fr kd : Nat} {A : ab} (q : CQ h Y C E TT UU SC SP nC nE nS nb na p pa St Fr kd A) : ab_T A := q.2.2.2.2.2.2.2.2.2.2.2.2
/-- what comes of it -/
def CR (h h' : mh_H) (Y C E TT UU SC SP nC nE nS : Nat) (O : Option ab) (al : Int32) : Prop := ∃ Ho, sE h h' ∧ BS h' Y C E TT UU SC SP nC nE nS ∧ mh_r h' 34 2 = some Ho ∧ RS h' Ho O ∧ mh_i h' 34 8 = al
theorem CQ.ns {kd : Nat} (c : CQ h Y C E TT UU SC SP nC nE nS nb na p pa St Fr kd A) : ¬ (St = 34 ∨ St = 35 ∨ St = 38 ∨ St = 41 ∨ St = 51) := by
  have F := c.B.F
  have a1 := (F.g 34 1 9 (by decide +kernel)).1
  have a2 := (F.g 35 5 19 (by decide +kernel)).1
  have a3 := (F.g 38 100 124 (by decide +kernel)).1
  have a4 := (F.g 41 100 12 (by decide +kernel)).1
  have a5 := (F.g 51 104 122 (by decide +kernel)).1
  have a6 := c.gS.1
  rintro (e | e | e | e | e) <;> (rw [e] at a6; omega)
theorem z_or (x : Int32) : 0 ||| x = x := by simp
/-- x = SUM; -/
theorem v_13s {sl : Nat} (c : CQ h Y C E TT UU SC SP nC nE nS nb na p pa St Fr 2 A) (s8 : mh_i h St 8 = Int32.ofNat sl) (hx : nb + sl < A.n) (s10 : mh_i h St 10 = Int32.ofNat sum) (U : SU h C E TT UU SC SP nC nE nS pa nb na sN en A t false sum c0 p0) : ∃ h', CR h h' Y C E TT UU SC SP nC nE nS (a_set en A A (nb + sl) false t) (ev en A t none).2 ∧ ∀ Q, mcall (d + 5) 13 [.ref 34, .int (Int32.ofNat p), .ref Fr] h Q = Q none h' := by
  obtain ⟨h2, P, R, lP, Ho, hl, y2, B2, S2, r2, k2, a4, ii, e2⟩ := car_0 (d := d) c.B c.hp c.b1 c.b2 c.s5 c.hb c.rS c.gS c.c c.n c.k c.T
  have U2 : SU h2 C E TT UU SC SP nC nE nS lP nb na sN en A t false sum c0 p0 := by
    have u := SU_sE c.B y2 U
    exact ⟨u.s, u.c0, u.c1, u.p0, u.p1, u.c, u.w, u.z, u.m, u.e, u.u, u.b1, u.b3, Nat.le_trans u.b4 hl, u.b6⟩
  obtain ⟨h3, f3, a43, k3, e3⟩ := v_16 (d := d) (x := nb + sl) (B := A) (new := false) S2 U2 r2 k2 c.T (Nat.le_refl _) (fun z => by cases z) (fun _ => hx)
  have y3 := st_sE S2.G.p S2.G.S S2.G.q S2.G.y r2 f3
  obtain ⟨h4, y4, B4, r4, k4, a8, e4⟩ := car_1 (d := d) (x1 := some (.int (Int32.ofNat p))) (x2 := some (.ref Fr)) (x3 := some (.ref St)) (x4 := none) (BS_fG f3 B2) (by rw [fG_r f3]; exact r2) k3
  refine ⟨h4, ⟨Ho, sE_t y2 (sE_t y3 y4), B4, r4, k4, by rw [a8, a43, a4, z_or]⟩, fun Q => ?_⟩
  rw [e2 Q]
  have F2 := B2.F
  have g34 := F2.g 34 1 9 (by decide +kernel)
  have g2 := F2.g 2 4 20 (by decide +kernel)
  have t0 := F2.f 34 0 2 (by decide +kernel)
  have t4 := F2.f 2 4 21 (by decide +kernel)
  have g21 := F2.g 21 100 250 (by decide +kernel)
  have l21 := F2.l 21 100 250 (by decide +kernel)
  have gS2 := fz_mg y2.1.1 c.gS
  have g21h := c.B.F.g 21 100 250 (by decide +kernel)
  have v0 : mh_i h2 St 0 = 2 := by rw [(ii St 9 0 c.gS (by omega) (by omega) c.ns).1]; exact c.s0
  have v8 : mh_i h2 St 8 = Int32.ofNat sl := by rw [(ii St 9 8 c.gS (by omega) (by omega) c.ns).1]; exact s8
  have v10 : mh_i h2 St 10 = Int32.ofNat sum := by rw [(ii St 9 10 c.gS (by omega) (by omega) c.ns).1]; exact s10
  have v21 : mh_i h2 21 p = Int32.ofNat nb := by rw [(ii 21 100 p g21h (by omega) (by omega) (by omega)).1]; exact c.b1
  have hp := c.hp
  have ea : Int32.ofNat nb + Int32.ofNat sl = Int32.ofNat (nb + sl) := nn_add
  clear c F2 B2 S2 U U2 y2 y3 y4 f3 B4 k2 k3 k4
  simp (disch := omega) only [s_13_0, s_13_1, s_13_4, s_13_7, s_13_8, s_13_9, s_13_9n, s_13_9x, s_13_10, s_13_11, s_13_14, s_13_15, s_13_18, s_13_19, s_13_20, s_13_23, s_13_24, s_13_27, s_13_28, s_13_31, s_13_32, s_13_35, s_13_64, s_13_65, s_13_66, s_13_69, s_13_70, s_13_73, s_13_76, s_13_77, s_13_80, s_13_83, s_13_84, s_13_85, s_13_88, s_13_89, s_13_92, s_13_93, s_13_96, s_13_99, s_13_102, s_13_103, s_13_104, s_13_107, s_13_110, s_13_111, s_13_111x, s_13_112, s_13_113, s_13_116, s_13_117, s_13_118, s_13_121, s_13_124, s_13_127, s_13_128, s_13_129, s_13_130, s_13_133, s_13_136, s_13_137, s_13_137x, s_13_138, s_13_139, s_13_142, s_13_143, s_13_146, s_13_149, s_13_150, s_13_152, s_13_154, s_13_155, s_13_158, s_13_161, s_13_162, s_13_165, s_13_168, s_13_171, s_13_172, s_13_175, s_13_178, s_13_179, s_13_180, s_13_183, s_13_184, s_13_187, s_13_189, s_13_190, s_13_191, s_13_194, s_13_196, s_13_197, s_13_200, s_13_201, s_13_204, s_13_205, s_13_208, s_13_211, s_13_214, s_13_217, s_13_220, s_13_221, s_13_222, s_13_225, s_13_226, s_13_229, s_13_230, s_13_233, s_13_237, s_13_240, s_13_241, s_13_244, s_13_247, s_13_248, s_13_249, s_13_252, s_13_255, s_13_258, e_13, mv_i_1, mv_l_1, mv_a_1, mv_a_2, mv_a_3, mk2_n, mk2_i, mk2_l, mk2_a, mk2_u, mk2_x, mB_T, mB_F, mS_cons, mS_nil, mSB_T, mSB_F, mca_nil, mca_i, mca_l, mca_r, mca_u, mca_x, mcat_i, mcat_l, mcat_r, mcat_u, mcat_x, mK_some, mK_none, va_rf_s, va_rf_n, lgc_eq, lgc_lt, lgc_gt, lgc_ge, lgc_le, mrd_104, mrd_105, mrd_106, mrd_107, true_and, and_true, and_self, false_and, and_false, true_or, or_true, false_or, or_false, not_true_eq_false, not_false_eq_true, mgb, mga, mgr, mN, reduceCtorEq, ↓reduceIte, eq_self, ge_iff_le, gt_iff_lt, hk_si, hk_sj, hk_sr, hl_si, hl_sj, hl_sr, hn_si, hn_sj, hn_sr, hs_si, hs_sj, hs_sr, hi_sj, hi_sr, hj_si, hj_sr, hr_si, hr_sj, hi_si, hj_sj, hr_sr, mg_si, mg_sj, mg_sr, Nat.reduceAdd, Nat.reduceMul, Nat.reduceSub, Nat.reduceLT, Nat.reduceGT, Nat.reduceEqDiff, Nat.reduceLeDiff, Nat.left_eq_add, Nat.add_eq_left, Nat.reduceMod, Nat.reduceDiv, Nat.succ_ne_self, g34, g2, t0, t4, g21, l21, gS2, v0, v8, v10, v21, ea, e3, e4, nn_mxT, nn_clamp, show ((2 : Int32) = 1) = False by decide, show ((2 : Int32) = 2) = True by decide]
end CAk
