set_option maxRecDepth 100000
/-! CHECKS: call -/
section CMa
variable {d : Nat} {h h1 h2 : mh_H} {s0 s1 o o' p q k e0 br T x to n ho fa m m2 b f e g : Nat} {E : nv} {D : fd} {w0 : wd} {s X O F1 F2 : Option ab} {G : pgm} {J : pin} {cl : Nat → Option ab} {cs r c bs t : tr} {A : ab} {fst oth : Nat → Nat} {nx' : Int32} {u u2 : Unit} {tk : Option Nat} {al : Int32}
/-- its start -/
theorem cal_0c (H : CHX G J e0 cl) (S : SC h s0 o E D w0 G e0 cl br) (e1 : G.n p = E.nu) (ga : G.a p = E.ar) (e3 : ∀ x, x < E.ar → E.rm x = G.rm p x) (hp : p < e0) (hfu : E.fu ≤ D.c) (hg : g < E.fu) (hm : D.m g = tV m2) (hn : ∀ g', g < g' → g' < E.fu → D.m g' ≠ tV m2) (htk : (tK m = 13 ∧ E.sN (tV m) ∧ E.en (tV m) < E.nu ∧ tk = some (E.en (tV m))) ∨ (¬ tK m = 13 ∧ tk = none)) (N : nd (mh_i h 93) (mh_i h 95) (mh_i h 97) (k + 1) (.branch m (.leaf u) (.branch m2 (.leaf u2) t))) (hb : k + 3 + ts t ≤ 26000) (hs2 : s0 + 1 ≤ 2048) : ∃ h' b A, rq s0 (sV o E.T) h h' ∧ CAi h' s0 o b E D w0 A (cl p) E.nu 0 ∧ (∀ A0, cl p = some A0 → A = A0) ∧ (mh_i h' 93 = mh_i h 93 ∧ mh_i h' 95 = mh_i h 95 ∧ mh_i h' 97 = mh_i h 97) ∧ CKS h' G e0 cl br ∧ ∀ Q, mcall (d + 3) 265 [.ref 115, .int (Int32.ofNat k), .int (Int32.ofNat p), .int nx', .ref o] h Q = mw (d + 3) 265 Q 77 [some (.ref 115), some (.int (Int32.ofNat k)), some (.int (Int32.ofNat p)), some (.int nx'), some (.ref o), some (.int (kb (decide (cl p ≠ none)))), some (.int (Int32.ofNat s0)), some (.ref b), some (.int (Int32.ofNat g)), some (.int (tkV tk)), some (.int (Int32.ofNat E.nu)), some (.int (Int32.ofNat E.nu)), some (.int (Int32.ofNat (k + 3))), none, none, none, none, none, none] [] h' := by
  have J0 := S.A.j
  have so := lv_sp S.l
  have lo := sp_lo J0 so
  have he := H.he
  obtain ⟨h1, x1, A1, k1, i1, al1, C1, run1⟩ := w_258c (d := d + 1) S.A S.l S.C he hp ga
  have J1 := A1.j
  have l1 := rq_lv x1 S.l
  obtain ⟨h2, b, x2, J2, f2, i2, al2, kb2, run2⟩ := t_227 (d := d) J1 A1.s (by omega) l1 k1
  have A2 := RA_q A1 vF x2 J2 i2
  have l2 := rq_lv x2 l1
  have nob : o ≠ b := lv_ne J2 l2 (Nat.le_refl _) f2
  have k2 := rq_K J1 x2 l1 (fun _ _ _ w => w) k1
  have a2 := rq_ki J1 x2 l1 (fun _ w => w) 2
  have lob := sp_lo J2 ⟨_, f2⟩
  obtain ⟨t1, t2, t3⟩ := sV_tr J0 lo x1
  obtain ⟨u1, u2', u3⟩ := rq_tr J1 vF x2
  have A3 : RA (mh_sr h2 115 23 (some b)) (s0 + 1) E D w0 := RA_23 A2
  have J3 := A3.j
  have ri : ∀ c, mh_i (mh_sr h2 115 23 (some b)) c = mh_i h2 c := fun c => rfl
  have N3 : nd (mh_i (mh_sr h2 115 23 (some b)) 93) (mh_i (mh_sr h2 115 23 (some b)) 95) (mh_i (mh_sr h2 115 23 (some b)) 97) (k + 1) (.branch m (.leaf u) (.branch m2 (.leaf u2) t)) := by
    rw [ri, ri, ri, u1, u2', u3, t1, t2, t3]; exact N
  obtain ⟨n1, v1, -, -, -, v2, -, -, -⟩ := N3
  have v2' : (mh_i (mh_sr h2 115 23 (some b)) 95 (k + 2)).toInt = tV m2 := v2
  have ca := u_255 (d := d + 2) J3 A3.F A3.X A3.f hfu (by omega) v2' hg hm hn
  have shc := cl_sh H hp e1 ga e3
  have C2 : CKS h2 G e0 cl br := ck_t C1 A1 lo he (sV_F (o := o) (T := 0) x2 (Nat.le_refl _)) (fun q w => cn_q A1 vF x2 w) (ck_35 J1.a.g (by decide) run2)
  obtain ⟨A, hA⟩ : ∃ A : ab, ∀ A0, cl p = some A0 → A = A0 := by
    cases cl p with
    | none => exact ⟨ab_mk 0 0 (fun _ _ => 0) (fun _ => 0) (fun _ => 0) (fun _ => 0), fun A0 e => by cases e⟩
    | some A => exact ⟨A, fun A0 e => by cases e; rfl⟩
  have fz23 : fz (fun b _ => b = 115) h2 (mh_sr h2 115 23 (some b)) := fz_sr rfl
  refine ⟨mh_sr h2 115 23 (some b), b, A, rq_t x1 (rq_t (sV_F x2 (Nat.le_refl _)) rq_23), CAi.of ⟨A3, ?_, ?_, fun z => nob z.symm, by rw [hr_sr, if_pos ⟨rfl, rfl⟩], RK_fz fz23 (fun y hy j w => by omega) k2, fun hO => ?_, fun B e => ?_, ?_, ?_⟩, hA, ?_, ?_, fun Q => ?_⟩
  · obtain ⟨i, i1', i2'⟩ := l2
    exact ⟨i, i1', by rw [hr_sr, if_neg (by omega)]; exact i2'⟩
  · rw [hr_sr, if_neg (by omega)]; exact f2
  · cases hc : cl p with
    | none => exact absurd hc hO
    | some A0 =>
      rw [hc] at kb2 shc
      rw [hA A0 hc]
      exact ⟨RK_fz fz23 (fun y hy j w => by omega) kb2, shc⟩
  · obtain ⟨TB, b1, b2, b3⟩ := shc B e
    rw [hA B e]
    exact ⟨TB, b1, rfl, rfl⟩
  · rw [ri, a2]; exact i1
  · rw [ri, al2]; exact al1
  · rw [ri, ri, ri, u1, u2', u3, t1, t2, t3]
    exact ⟨rfl, rfl, rfl⟩
  · exact CKS.of ⟨C2.z, C2.b, C2.l, fun q hq => RK_fz fz23 (fun y hy j w => by omega) (C2.c q hq), C2.f, C2.n⟩
  · have g' := J0.a.g
    have g1 := J1.a.g
    have g2 := J2.a.g
    have g3 := J3.a.g
    have a11 := A1.s
    have a20 := A3.n
    have r0 := J2.a.r0
    have gV := J2.a.F.g 93 102 26000 (by decide +kernel)
    have gV1 := gV.1
    have gV2 := gV.2
    have lV := J2.a.F.l 93 102 26000 (by decide +kernel)
    have e1' : ∀ k, Int32.ofNat k + 1 = Int32.ofNat (k + 1) := fun k => nn_add (a := k) (b := 1)
    have e3' : ∀ k, Int32.ofNat k + 3 = Int32.ofNat (k + 3) := fun k => nn_add (a := k) (b := 3)
    have tK64 : tK m < 64 := Nat.mod_lt _ (by omega)
    rcases htk with ⟨q1, q2, q3, q4⟩ | ⟨q1, q2⟩
    · have v1' : (mh_i (mh_sr h2 115 23 (some b)) 95 (k + 1)).toInt = tV m := v1
      have cs' := u_229 (d := d + 2) J3.a (k := k + 1) (by omega) v1' q2
      have n1' : mh_i h2 93 (k + 1) = 13 := by rw [← ri, n1, q1]; rfl
      rw [q4]
      have e13 : ((13 : Int32) = 13) = True := by decide
      have tks : tkV (some (E.en (tV m))) = Int32.ofNat (E.en (tV m)) := rfl
      rw [tks]
      clear S H A1 A2 A3 J0 J1 J2 J3 x1 x2 k1 k2 kb2 C1 C2 i1 N l1 l2 fz23 hA shc
      simp (disch := omega) only [s_265_0, s_265_1, s_265_2, s_265_4, s_265_7, s_265_9, s_265_10, s_265_13, s_265_15, s_265_16, s_265_18, s_265_21, s_265_21n, s_265_23, s_265_24, s_265_26, s_265_26n, s_265_29, s_265_30, s_265_31, s_265_34, s_265_36, s_265_37, s_265_40, s_265_41, s_265_42, s_265_43, s_265_44, s_265_46, s_265_49, s_265_50, s_265_51, s_265_52, s_265_53, s_265_56, s_265_59, s_265_60, s_265_62, s_265_63, s_265_66, s_265_68, s_265_70, s_265_72, s_265_73, s_265_74, s_265_75, s_265_79, s_265_80, s_265_81, s_265_84, s_265_87, s_265_89, s_265_92, s_265_95, s_265_96, s_265_98, s_265_100, s_265_101, s_265_103, s_265_106, s_265_109, s_265_111, s_265_113, s_265_116, s_265_117, s_265_119, s_265_122, s_265_124, s_265_127, s_265_128, s_265_129, s_265_132, s_265_133, s_265_136, s_265_138, s_265_139, s_265_142, s_265_144, s_265_145, s_265_148, s_265_150, s_265_151, s_265_154, s_265_156, s_265_157, s_265_159, s_265_162, s_265_164, s_265_165, s_265_167, s_265_170, s_265_172, s_265_173, s_265_174, s_265_176, s_265_179, s_265_180, s_265_181, s_265_182, s_265_185, s_265_186, s_265_188, s_265_191, s_265_192, s_265_194, s_265_197, s_265_198, s_265_199, s_265_202, s_265_205, s_265_206, s_265_208, s_265_211, s_265_212, s_265_215, s_265_217, s_265_218, s_265_219, s_265_220, s_265_222, s_265_224, s_265_226, s_265_229, s_265_230, s_265_232, s_265_233, s_265_236, s_265_239, s_265_242, s_265_243, s_265_245, s_265_246, s_265_247, s_265_248, s_265_249, s_265_251, s_265_254, s_265_255, s_265_257, s_265_260, s_265_261, s_265_263, s_265_266, s_265_267, s_265_269, s_265_272, s_265_273, s_265_275, s_265_278, s_265_279, s_265_281, s_265_284, s_265_286, s_265_288, s_265_289, s_265_292, s_265_295, s_265_296, s_265_298, s_265_301, e_265, mv_i_1, mv_l_1, mv_a_1, mv_a_2, mv_a_3, mk2_n, mk2_i, mk2_l, mk2_a, mk2_u, mk2_x, mB_T, mB_F, mS_cons, mS_nil, mSB_T, mSB_F, mca_nil, mca_i, mca_l, mca_r, mca_u, mca_x, mcat_i, mcat_l, mcat_r, mcat_u, mcat_x, mK_some, mK_none, va_rf_s, va_rf_n, lgc_eq, lgc_lt, lgc_gt, lgc_ge, lgc_le, mrd_104, mrd_105, mrd_106, mrd_107, true_and, and_true, and_self, false_and, and_false, true_or, or_true, false_or, or_false, not_true_eq_false, not_false_eq_true, mgb, mga, mgr, mN, reduceCtorEq, ↓reduceIte, eq_self, ge_iff_le, gt_iff_lt, hk_si, hk_sj, hk_sr, hl_si, hl_sj, hl_sr, hn_si, hn_sj, hn_sr, hs_si, hs_sj, hs_sr, hi_sj, hi_sr, hj_si, hj_sr, hr_si, hr_sj, hi_si, hj_sj, hr_sr, mg_si, mg_sj, mg_sr, Nat.reduceAdd, Nat.reduceMul, Nat.reduceSub, Nat.reduceLT, Nat.reduceGT, Nat.reduceEqDiff, Nat.reduceLeDiff, Nat.left_eq_add, Nat.add_eq_left, Nat.reduceMod, Nat.reduceDiv, Nat.succ_ne_self, g', g1, g2, g3, a11, a20, run1, run2, ca, r0, gV1, gV2, lV, n1', e13, e1', e3', cs', nn_mxT, nn_clamp]
    · have n1' : (mh_i h2 93 (k + 1) = 13) = False := eq_false (fun z => q1 (by
        rw [← ri, n1] at z
        have z' : Int32.ofNat (tK m) = Int32.ofNat 13 := z
        exact (nn_eq (by omega) (by omega)).mp z'))
      rw [q2]
      have tks : tkV none = -1 := rfl
      rw [tks]
      clear S H A1 A2 A3 J0 J1 J2 J3 x1 x2 k1 k2 kb2 C1 C2 i1 N l1 l2 fz23 hA shc
      simp (disch := omega) only [s_265_0, s_265_1, s_265_2, s_265_4, s_265_7, s_265_9, s_265_10, s_265_13, s_265_15, s_265_16, s_265_18, s_265_21, s_265_21n, s_265_23, s_265_24, s_265_26, s_265_26n, s_265_29, s_265_30, s_265_31, s_265_34, s_265_36, s_265_37, s_265_40, s_265_41, s_265_42, s_265_43, s_265_44, s_265_46, s_265_49, s_265_50, s_265_51, s_265_52, s_265_53, s_265_56, s_265_59, s_265_60, s_265_62, s_265_63, s_265_66, s_265_68, s_265_70, s_265_72, s_265_73, s_265_74, s_265_75, s_265_79, s_265_80, s_265_81, s_265_84, s_265_87, s_265_89, s_265_92, s_265_95, s_265_96, s_265_98, s_265_100, s_265_101, s_265_103, s_265_106, s_265_109, s_265_111, s_265_113, s_265_116, s_265_117, s_265_119, s_265_122, s_265_124, s_265_127, s_265_128, s_265_129, s_265_132, s_265_133, s_265_136, s_265_138, s_265_139, s_265_142, s_265_144, s_265_145, s_265_148, s_265_150, s_265_151, s_265_154, s_265_156, s_265_157, s_265_159, s_265_162, s_265_164, s_265_165, s_265_167, s_265_170, s_265_172, s_265_173, s_265_174, s_265_176, s_265_179, s_265_180, s_265_181, s_265_182, s_265_185, s_265_186, s_265_188, s_265_191, s_265_192, s_265_194, s_265_197, s_265_198, s_265_199, s_265_202, s_265_205, s_265_206, s_265_208, s_265_211, s_265_212, s_265_215, s_265_217, s_265_218, s_265_219, s_265_220, s_265_222, s_265_224, s_265_226, s_265_229, s_265_230, s_265_232, s_265_233, s_265_236, s_265_239, s_265_242, s_265_243, s_265_245, s_265_246, s_265_247, s_265_248, s_265_249, s_265_251, s_265_254, s_265_255, s_265_257, s_265_260, s_265_261, s_265_263, s_265_266, s_265_267, s_265_269, s_265_272, s_265_273, s_265_275, s_265_278, s_265_279, s_265_281, s_265_284, s_265_286, s_265_288, s_265_289, s_265_292, s_265_295, s_265_296, s_265_298, s_265_301, e_265, mv_i_1, mv_l_1, mv_a_1, mv_a_2, mv_a_3, mk2_n, mk2_i, mk2_l, mk2_a, mk2_u, mk2_x, mB_T, mB_F, mS_cons, mS_nil, mSB_T, mSB_F, mca_nil, mca_i, mca_l, mca_r, mca_u, mca_x, mcat_i, mcat_l, mcat_r, mcat_u, mcat_x, mK_some, mK_none, va_rf_s, va_rf_n, lgc_eq, lgc_lt, lgc_gt, lgc_ge, lgc_le, mrd_104, mrd_105, mrd_106, mrd_107, true_and, and_true, and_self, false_and, and_false, true_or, or_true, false_or, or_false, not_true_eq_false, not_false_eq_true, mgb, mga, mgr, mN, reduceCtorEq, ↓reduceIte, eq_self, ge_iff_le, gt_iff_lt, hk_si, hk_sj, hk_sr, hl_si, hl_sj, hl_sr, hn_si, hn_sj, hn_sr, hs_si, hs_sj, hs_sr, hi_sj, hi_sr, hj_si, hj_sr, hr_si, hr_sj, hi_si, hj_sj, hr_sr, mg_si, mg_sj, mg_sr, Nat.reduceAdd, Nat.reduceMul, Nat.reduceSub, Nat.reduceLT, Nat.reduceGT, Nat.reduceEqDiff, Nat.reduceLeDiff, Nat.left_eq_add, Nat.add_eq_left, Nat.reduceMod, Nat.reduceDiv, Nat.succ_ne_self, g', g1, g2, g3, a11, a20, run1, run2, ca, r0, gV1, gV2, lV, n1', e1', e3', nn_mxT, nn_clamp]
/-- up to its BLOCK -/
theorem cal_1c {e nx' : Nat} {r : Nat → Nat} (H : CHX G J e0 cl) (R : RA h (s0 + 1) E D w0) (l : lv h s0 o) (c : RK h o O) (C : CKS h G e0 cl br) (hto : to ≤ e0) (et : (if p + 1 < e then p + 1 else nx') = to) (shO : shg (G.n to) (G.a to) r O) (h12 : G.n to ≤ 12 ∧ G.a to ≤ 6) (hs : s0 + 2 ≤ 2048) (hp : p < 250) (hg : g < D.c) (q : PQ D (D.t g) (p + 1) e g) (hT : E.T + (D.p g).length ≤ 64) (hd : 2 * (e - (p + 1)) + 10 ≤ d) {x1 x5 x6 x7 x10 x12 : Option Value} {n11 : Int32} : ∃ h' v13, rq s0 (sV o E.T) h h' ∧ RA h' (s0 + 1) ((E.go g tk).addL (D.p g)) D w0 ∧ lv h' s0 o ∧ RK h' o O ∧ CKS h' G e0 cl (gsB G cl O to p br) ∧ ∀ Q, mw (d + 1) 265 Q 127 [some (.ref 115), x1, some (.int (Int32.ofNat p)), some (.int (Int32.ofNat nx')), some (.ref o), x5, x6, x7, some (.int (Int32.ofNat g)), some (.int (tkV tk)), x10, some (.int n11), x12, none, none, none, none, none, none] [] h = mw (d + 1) 265 Q 242 [some (.ref 115), x1, some (.int (Int32.ofNat p)), some (.int (Int32.ofNat nx')), some (.ref o), x5, x6, x7, some (.int (Int32.ofNat g)), some (.int (tkV tk)), x10, some (.int n11), some (.int (Int32.ofNat E.fu)), some (.int v13), some (.int (Int32.ofNat E.T)), some (.int (tkV E.ta)), some (.int (Int32.ofNat (D.b g))), some (.int (Int32.ofNat (e - (p + 1)))), some (.int (Int32.ofNat (D.b g)))] [] h' := by
  obtain ⟨d, rfl⟩ : ∃ d', d = d' + 3 := ⟨d - 3, by omega⟩
  have he := H.he
  have lo := sp_lo R.j (lv_sp l)
  have l1 : lv h (s0 + 1) o := lv_w l (by omega)
  have J00 := R.j
  have runT := w_259c (d := d + 3) (v := Int32.ofNat p) R C.z
  obtain ⟨h1, x1', R1, kK, kI, -, C1, run1⟩ := w_260c (d := d) (p := p) R l1 c shO C he hto hp (by omega) (CHX_d H hto) h12
  have J1 := R1.j
  have cb := u_256 (d := d + 3) J00 R.F R.X (g := g) hg
  have cp := u_266 (d := d + 2) (e := e) (p := p + 1) R q hg (by omega)
  have i : ∀ c j, ¬ (c = 115 ∧ (j = 14 ∨ j = 19 ∨ j = 22)) → mh_i (mh_si (mh_si (mh_si h1 115 14 (Int32.ofNat g)) 115 19 (Int32.ofNat E.T)) 115 22 (tkV tk)) c j = mh_i h1 c j := fun c j hc => by rw [hi_si, if_neg (by omega), hi_si, if_neg (by omega), hi_si, if_neg (by omega)]
  have R2 : RA (mh_si (mh_si (mh_si h1 115 14 (Int32.ofNat g)) 115 19 (Int32.ofNat E.T)) 115 22 (tkV tk)) (s0 + 1) (E.go g tk) D w0 := RA_put R1 rfl rfl rfl (fun _ _ _ => rfl) rfl (fun c j n1 _ _ => i c j (by omega)) (EV_same R1.V (i _ _ (by omega)) (fun j _ => i _ _ (by omega)) (fun j _ => i _ _ (by omega))) ((i _ _ (by omega)).trans R1.s) ((i _ _ (by omega)).trans R1.n) ((i _ _ (by omega)).trans R1.a) (by rw [hi_si, if_neg (by omega), hi_si, if_neg (by omega), hi_si, if_pos ⟨rfl, rfl⟩]; rfl) (by rw [hi_si, if_pos ⟨rfl, rfl⟩]; rfl) (i _ _ (by omega)) (i _ _ (by omega)) (i _ _ (by omega))
  have x2 : rq s0 (sV o E.T) h1 (mh_si (mh_si (mh_si h1 115 14 (Int32.ofNat g)) 115 19 (Int32.ofNat E.T)) 115 22 (tkV tk)) := rq_t (sV_115 (by omega)) (rq_t (sV_115 (by omega)) (sV_115 (by omega)))
  obtain ⟨f1, f2, f3, f4, f5, f6⟩ := R2.X g hg
  have hbl : D.b g = D.n g + 2 + (D.p g).length := rfl
  obtain ⟨h3, x3, R3, oi3, oK3, er3, cq3, b35, run3⟩ := prm_l (d := d + 3) (s0 := s0) (o := o) (G := G) (x1 := x1) (x2 := some (.int (Int32.ofNat p))) (x3 := some (.int (Int32.ofNat nx'))) (x4 := some (.ref o)) (x5 := x5) (x6 := x6) (x7 := x7) (x8 := some (.int (Int32.ofNat g))) (x9 := some (.int (tkV tk))) (x10 := x10) (x11 := some (.int n11)) (x12 := some (.int (Int32.ofNat E.fu))) (x13 := some (.int (mh_i h 115 19))) (x14 := some (.int (Int32.ofNat E.T))) (x15 := some (.int (tkV E.ta))) (n17 := Int32.ofNat (e - (p + 1))) (D.p g) (D.n g + 2) (E.go g tk) _ R2 (fun i v e => (f3 i v e).2) hT (by omega)
  have z3 : fz (fun b _ => b = 115) h1 (mh_si (mh_si (mh_si h1 115 14 (Int32.ofNat g)) 115 19 (Int32.ofNat E.T)) 115 22 (tkV tk)) := fz_t (fz_si rfl) (fz_t (fz_si rfl) (fz_si rfl))
  have x3' : rq s0 (sV o E.T) (mh_si (mh_si (mh_si h1 115 14 (Int32.ofNat g)) 115 19 (Int32.ofNat E.T)) 115 22 (tkV tk)) h3 := x3
  have xx1 : rq s0 (sV o E.T) h h1 := sV_sp (x1' o E.T) (by omega) (Nat.le_refl _) (Or.inl rfl)
  have ko1 := kK o _ l1 c
  have C2 : CKS (mh_si (mh_si (mh_si h1 115 14 (Int32.ofNat g)) 115 19 (Int32.ofNat E.T)) 115 22 (tkV tk)) G e0 cl (gsB G cl O to p br) := ck_t C1 R1 lo he x2 (fun q w => cn_i w (fun b j hb => i b j (by omega))) (i _ _ (by omega))
  have C3 : CKS h3 G e0 cl (gsB G cl O to p br) := ck_t C2 R2 lo he x3' cq3 b35
  refine ⟨h3, mh_i h 115 19, rq_t xx1 (rq_t x2 x3'), R3, ?_, oK3 _ _ lo (RK_fz z3 (fun y hy j w => by omega) ko1), C3, fun Q => ?_⟩
  · have l3 : lv h1 s0 o := rq_lv (x1' o E.T) l
    obtain ⟨j, j1, j2⟩ := l3
    exact ⟨j, j1, by rw [er3]; exact j2⟩
  rw [← hbl] at run3
  rw [← run3]
  have g0 := R.j.a.g
  have g1 := J1.a.g
  have a14 := R.f
  have a18 := R.V.t
  have a22 := R.t
  have b18 := R1.V.t
  have q1 := q.1
  have q2 := q.2.1
  obtain ⟨ct, ct1, ct2, ct3, ct4, -, -, -, ct5⟩ := R2.F
  have ct5' := ct5 g hg
  have ct1' : mh_r h1 115 12 = some ct := ct1
  have ct2' : mg h1 ct 100 := ct2
  have ct6 : mh_i h1 ct g = Int32.ofNat (D.n g) := by rw [← ct5', i _ _ (fun z => by have := ct2.1; have hk : mh_k h1 115 = 12 := g1.1; rw [z.1] at this; have this' : mh_k h1 115 = 100 := this; omega)]
  have e2' : ∀ k, Int32.ofNat k + 2 = Int32.ofNat (k + 2) := fun k => nn_add (a := k) (b := 2)
  have e1' : ∀ k, Int32.ofNat k + 1 = Int32.ofNat (k + 1) := fun k => nn_add (a := k) (b := 1)
  have ct3' : g < mh_l h1 ct := by have : D.c ≤ mh_l h1 ct := ct3; omega
  have nct : ¬ ct = 115 := fun z => by have := ct2.1; have hk : mh_k h1 115 = 12 := g1.1; rw [z] at this; have this' : mh_k h1 115 = 100 := this; omega
  have nct2 : ¬ 115 = ct := fun z => nct z.symm
  have hl9 : mh_l h1 ct ≤ 100000 := ct4
  have z0 : (0 : Int32) = Int32.ofNat 0 := rfl
  clear R R1 R2 R3 J1 J00 H C C1 C2 C3 x1' xx1 x2 x3 x3' c kK kI ko1 cq3 oK3 oi3 i f6 f3 q z3 run3 ct5 ct5' shO
  by_cases hc : e - (p + 1) ≤ 0
  · rw [if_neg (by omega)] at et
    subst et
    have hE : (Int32.ofNat (e - (p + 1)) ≤ 0) = True := by
      rw [z0, nn_le (by omega) (by omega)]; exact eq_true hc
    simp (disch := omega) only [s_265_0, s_265_1, s_265_2, s_265_4, s_265_7, s_265_9, s_265_10, s_265_13, s_265_15, s_265_16, s_265_18, s_265_21, s_265_21n, s_265_23, s_265_24, s_265_26, s_265_26n, s_265_29, s_265_30, s_265_31, s_265_34, s_265_36, s_265_37, s_265_40, s_265_41, s_265_42, s_265_43, s_265_44, s_265_46, s_265_49, s_265_50, s_265_51, s_265_52, s_265_53, s_265_56, s_265_59, s_265_60, s_265_62, s_265_63, s_265_66, s_265_68, s_265_70, s_265_72, s_265_73, s_265_74, s_265_75, s_265_77, s_265_79, s_265_80, s_265_81, s_265_84, s_265_87, s_265_89, s_265_92, s_265_95, s_265_96, s_265_98, s_265_100, s_265_101, s_265_103, s_265_106, s_265_109, s_265_111, s_265_113, s_265_116, s_265_117, s_265_119, s_265_122, s_265_124, s_265_127, s_265_128, s_265_129, s_265_132, s_265_133, s_265_136, s_265_138, s_265_139, s_265_142, s_265_144, s_265_145, s_265_148, s_265_150, s_265_151, s_265_154, s_265_156, s_265_157, s_265_159, s_265_162, s_265_164, s_265_165, s_265_167, s_265_170, s_265_172, s_265_173, s_265_174, s_265_176, s_265_179, s_265_180, s_265_181, s_265_182, s_265_185, s_265_186, s_265_188, s_265_191, s_265_192, s_265_194, s_265_197, s_265_198, s_265_199, s_265_202, s_265_205, s_265_206, s_265_208, s_265_211, s_265_212, s_265_215, s_265_217, s_265_218, s_265_219, s_265_220, s_265_224, s_265_226, s_265_229, s_265_230, s_265_232, s_265_233, s_265_236, s_265_239, s_265_242, s_265_243, s_265_245, s_265_246, s_265_247, s_265_248, s_265_249, s_265_251, s_265_254, s_265_255, s_265_257, s_265_260, s_265_261, s_265_263, s_265_266, s_265_267, s_265_269, s_265_272, s_265_273, s_265_275, s_265_278, s_265_279, s_265_281, s_265_284, s_265_286, s_265_288, s_265_289, s_265_292, s_265_295, s_265_296, s_265_298, s_265_301, e_265, mv_i_1, mv_l_1, mv_a_1, mv_a_2, mv_a_3, mk2_n, mk2_i, mk2_l, mk2_a, mk2_u, mk2_x, mB_T, mB_F, mS_cons, mS_nil, mSB_T, mSB_F, mca_nil, mca_i, mca_l, mca_r, mca_u, mca_x, mcat_i, mcat_l, mcat_r, mcat_u, mcat_x, mK_some, mK_none, va_rf_s, va_rf_n, lgc_eq, lgc_lt, lgc_gt, lgc_ge, lgc_le, mrd_104, mrd_105, mrd_106, mrd_107, true_and, and_true, and_self, false_and, and_false, true_or, or_true, false_or, or_false, not_true_eq_false, not_false_eq_true, mgb, mga, mgr, mN, reduceCtorEq, ↓reduceIte, eq_self, ge_iff_le, gt_iff_lt, hk_si, hk_sj, hk_sr, hl_si, hl_sj, hl_sr, hn_si, hn_sj, hn_sr, hs_si, hs_sj, hs_sr, hi_sj, hi_sr, hj_si, hj_sr, hr_si, hr_sj, hi_si, hj_sj, hr_sr, mg_si, mg_sj, mg_sr, Nat.reduceAdd, Nat.reduceMul, Nat.reduceSub, Nat.reduceLT, Nat.reduceGT, Nat.reduceEqDiff, Nat.reduceLeDiff, Nat.left_eq_add, Nat.add_eq_left, Nat.reduceMod, Nat.reduceDiv, Nat.succ_ne_self, g0, g1, runT, run1, a14, a18, a22, b18, cb, cp, hE, ct1', ct2', ct6, ct3', nct, nct2, e1', e2', nn_mxT, nn_clamp]
  · rw [if_pos (by omega)] at et
    subst et
    have hE : (Int32.ofNat (e - (p + 1)) ≤ 0) = False := by
      rw [z0, nn_le (by omega) (by omega)]; exact eq_false hc
    simp (disch := omega) only [s_265_0, s_265_1, s_265_2, s_265_4, s_265_7, s_265_9, s_265_10, s_265_13, s_265_15, s_265_16, s_265_18, s_265_21, s_265_21n, s_265_23, s_265_24, s_265_26, s_265_26n, s_265_29, s_265_30, s_265_31, s_265_34, s_265_36, s_265_37, s_265_40, s_265_41, s_265_42, s_265_43, s_265_44, s_265_46, s_265_49, s_265_50, s_265_51, s_265_52, s_265_53, s_265_56, s_265_59, s_265_60, s_265_62, s_265_63, s_265_66, s_265_68, s_265_70, s_265_72, s_265_73, s_265_74, s_265_75, s_265_77, s_265_79, s_265_80, s_265_81, s_265_84, s_265_87, s_265_89, s_265_92, s_265_95, s_265_96, s_265_98, s_265_100, s_265_101, s_265_103, s_265_106, s_265_109, s_265_111, s_265_113, s_265_116, s_265_117, s_265_119, s_265_122, s_265_124, s_265_127, s_265_128, s_265_129, s_265_132, s_265_133, s_265_136, s_265_138, s_265_139, s_265_142, s_265_144, s_265_145, s_265_148, s_265_150, s_265_151, s_265_154, s_265_156, s_265_157, s_265_159, s_265_162, s_265_164, s_265_165, s_265_167, s_265_170, s_265_172, s_265_173, s_265_174, s_265_176, s_265_179, s_265_180, s_265_181, s_265_182, s_265_185, s_265_186, s_265_188, s_265_191, s_265_192, s_265_194, s_265_197, s_265_198, s_265_199, s_265_202, s_265_205, s_265_206, s_265_208, s_265_211, s_265_212, s_265_215, s_265_217, s_265_218, s_265_219, s_265_220, s_265_224, s_265_226, s_265_229, s_265_230, s_265_232, s_265_233, s_265_236, s_265_239, s_265_242, s_265_243, s_265_245, s_265_246, s_265_247, s_265_248, s_265_249, s_265_251, s_265_254, s_265_255, s_265_257, s_265_260, s_265_261, s_265_263, s_265_266, s_265_267, s_265_269, s_265_272, s_265_273, s_265_275, s_265_278, s_265_279, s_265_281, s_265_284, s_265_286, s_265_288, s_265_289, s_265_292, s_265_295, s_265_296, s_265_298, s_265_301, e_265, mv_i_1, mv_l_1, mv_a_1, mv_a_2, mv_a_3, mk2_n, mk2_i, mk2_l, mk2_a, mk2_u, mk2_x, mB_T, mB_F, mS_cons, mS_nil, mSB_T, mSB_F, mca_nil, mca_i, mca_l, mca_r, mca_u, mca_x, mcat_i, mcat_l, mcat_r, mcat_u, mcat_x, mK_some, mK_none, va_rf_s, va_rf_n, lgc_eq, lgc_lt, lgc_gt, lgc_ge, lgc_le, mrd_104, mrd_105, mrd_106, mrd_107, true_and, and_true, and_self, false_and, and_false, true_or, or_true, false_or, or_false, not_true_eq_false, not_false_eq_true, mgb, mga, mgr, mN, reduceCtorEq, ↓reduceIte, eq_self, ge_iff_le, gt_iff_lt, hk_si, hk_sj, hk_sr, hl_si, hl_sj, hl_sr, hn_si, hn_sj, hn_sr, hs_si, hs_sj, hs_sr, hi_sj, hi_sr, hj_si, hj_sr, hr_si, hr_sj, hi_si, hj_sj, hr_sr, mg_si, mg_sj, mg_sr, Nat.reduceAdd, Nat.reduceMul, Nat.reduceSub, Nat.reduceLT, Nat.reduceGT, Nat.reduceEqDiff, Nat.reduceLeDiff, Nat.left_eq_add, Nat.add_eq_left, Nat.reduceMod, Nat.reduceDiv, Nat.succ_ne_self, g0, g1, runT, run1, a14, a18, a22, b18, cb, cp, hE, ct1', ct2', ct6, ct3', nct, nct2, e1', e2', nn_mxT, nn_clamp]
end CMa
