set_option maxRecDepth 100000
/-! CHECKS: while -/
section CLa
variable {d : Nat} {h h1 h2 : mh_H} {s0 s1 o o' p q k e0 br T x to n ho fa m b f e : Nat} {E : nv} {D : fd} {w0 : wd} {s X F1 F2 : Option ab} {G : pgm} {J : pin} {cl : Nat → Option ab} {cs r c bs t : tr} {A : ab} {fst oth : Nat → Nat}
theorem chl_1c (H : CHX G J e0 cl) (S : SC h s0 o E D w0 G e0 cl br) (hp : p < e0) (e1 : G.n p = E.nu) (e2 : G.a p = E.ar) (e3 : ∀ x, x < E.ar → E.rm x = G.rm p x) (hC : eCo E cs) (N : nd (mh_i h 93) (mh_i h 95) (mh_i h 97) (k + 1) cs) (hb : k + 1 + ts cs ≤ 26000) (hs : s0 + 2 + cn3 cs ≤ 2048) (hd : 720 ≤ d) {nx' : Int32} : ∃ h' ho fa, rq s0 (sV o E.T) h h' ∧ CSP h' s0 o ho fa E D w0 G e0 cl br (cl p) (spl E.en cs false false (cl p) none).1 (spl E.en cs false false (cl p) none).2.1 ∧ (mh_i h' 93 = mh_i h 93 ∧ mh_i h' 95 = mh_i h 95 ∧ mh_i h' 97 = mh_i h 97) ∧ ∀ Q, mcall (d + 1) 269 [.ref 115, .int (Int32.ofNat k), .int (Int32.ofNat p), .int nx', .ref o] h Q = mw (d + 1) 269 Q 40 [some (.ref 115), some (.int (Int32.ofNat k)), some (.int (Int32.ofNat p)), some (.int nx'), some (.ref o), some (.int (Int32.ofNat s0)), some (.int (kb (decide (cl p ≠ none)))), some (.ref ho), some (.ref fa), none] [] h' := by
  obtain ⟨d, rfl⟩ : ∃ d', d = d' + 1 := ⟨d - 1, by omega⟩
  have he := H.he
  have J := S.A.j
  have lo := sp_lo J (lv_sp S.l)
  obtain ⟨h1, x1, A1, k1, a1, al1, C1, run1⟩ := w_258c (d := d) S.A S.l S.C he hp e2
  have J1 := A1.j
  have l1 := rq_lv x1 S.l
  obtain ⟨h2, ho, x2, J2, f2, i2, al2, ko2, run2⟩ := t_226 (d := d) J1 A1.s (by omega)
  have A2 := RA_q A1 vF x2 J2 i2
  have l2 := rq_lv x2 l1
  have C2 : CKS h2 G e0 cl br := ck_t C1 A1 lo he (sV_F (o := o) (T := 0) x2 (Nat.le_refl _)) (fun q w => cn_q A1 vF x2 w) (ck_35 J1.a.g (by decide) run2)
  obtain ⟨h3, fa, x3, J3, f3, i3, al3, ko3, run3⟩ := t_226 (d := d) J2 i2 (by omega)
  have A3 := RA_q A2 vF x3 J3 i3
  have l3 := rq_lv x3 l2
  have C3 : CKS h3 G e0 cl br := ck_t C2 A2 lo he (sV_F (o := o) (T := 0) x3 (Nat.le_refl _)) (fun q w => cn_q A2 vF x3 w) (ck_35 J2.a.g (by decide) run3)
  have f2' : mh_r h3 119 s0 = some ho := x3.k _ _ f2
  have noh : o ≠ ho := lv_ne J3 l3 (Nat.le_refl _) f2'
  have nof : o ≠ fa := lv_ne J3 l3 (by omega) f3
  have lh : lv h3 (s0 + 1) ho := ⟨s0, by omega, f2'⟩
  have nhf : ho ≠ fa := lv_ne J3 lh (Nat.le_refl _) f3
  have k3 : RK h3 o (cl p) := rq_K J2 x3 (lv_w l2 (by omega)) (fun _ _ _ w => w) (rq_K J1 x2 l1 (fun _ _ _ w => w) k1)
  have a3 : mh_i h3 o 2 = Int32.ofNat E.ar := by
    rw [rq_ki J2 x3 (lv_w l2 (by omega)) (fun _ w => w), rq_ki J1 x2 l1 (fun _ w => w)]
    exact a1
  obtain ⟨t1, t2, t3⟩ := sV_tr J lo x1
  obtain ⟨u1, u2, u3⟩ := rq_tr J1 vF x2
  obtain ⟨v1, v2', v3⟩ := rq_tr J2 vF x3
  obtain ⟨h4, x4, A4, kh4, kf4, ah4, af4, al4, ⟨r1, r2, r3⟩, zz4, c4, run4⟩ := ra_spl (d := d + 1) (G := G) A3 (lv_w l3 (by omega)) (lv_w lh (by omega)) ⟨s0 + 1, by omega, f3⟩ noh nof nhf k3 (cl_sh H hp e1 e2 e3) a3 hC (by rw [v1, v2', v3, u1, u2, u3, t1, t2, t3]; exact N) hb (by omega) (by omega)
  have y4 : rq s0 (sV o E.T) h3 h4 := sV_v x4 (by omega) (fun b j w => by
    rcases w with w | w
    · exact Or.inr ⟨s0, ho, Nat.le_refl _, f2', w⟩
    · exact Or.inr ⟨s0 + 1, fa, by omega, f3, w⟩)
  have C4 : CKS h4 G e0 cl br := ck_t C3 A3 lo he y4 c4 (ck_35 J3.a.g (by decide) run4)
  have k4 : RK h4 o (cl p) := rq_K J3 x4 (lv_w l3 (by omega)) (fun y hy j w => by
    rcases w with w | w
    · exact kc_no J3 (lv_sp l3) ⟨_, f2'⟩ noh y hy w
    · exact kc_no J3 (lv_sp l3) ⟨_, f3⟩ nof y hy w) k3
  refine ⟨h4, ho, fa, rq_t x1 (rq_t (sV_F x2 (Nat.le_refl _)) (rq_t (sV_F x3 (by omega)) y4)), CSP.of ⟨A4, C4, rq_lv x4 l3, x4.k _ _ f2', x4.k _ _ f3, k4, kh4, kf4⟩, ?_, fun Q => ?_⟩
  · rw [r1, r2, r3, v1, v2', v3, u1, u2, u3, t1, t2, t3]
    exact ⟨rfl, rfl, rfl⟩
  · have g := J.a.g
    have g1 := J1.a.g
    have g2 := J2.a.g
    have g3 := J3.a.g
    have g4 := A4.j.a.g
    have a11 := S.A.s
    have e1' : ∀ k, Int32.ofNat k + 1 = Int32.ofNat (k + 1) := fun k => nn_add (a := k) (b := 1)
    clear S H A1 A2 A3 A4 J J1 J2 J3 x1 x2 x3 x4 y4 k1 k3 k4 kh4 kf4 C1 C2 C3 C4 c4 N hC ko2 ko3
    simp (disch := omega) only [s_269_0, s_269_1, s_269_4, s_269_6, s_269_7, s_269_8, s_269_10, s_269_13, s_269_15, s_269_16, s_269_19, s_269_19n, s_269_21, s_269_22, s_269_25, s_269_25n, s_269_27, s_269_28, s_269_29, s_269_30, s_269_31, s_269_33, s_269_35, s_269_37, s_269_41, s_269_42, s_269_43, s_269_44, s_269_45, s_269_48, s_269_51, s_269_53, s_269_54, s_269_55, s_269_57, s_269_60, s_269_61, s_269_62, s_269_63, s_269_66, s_269_67, s_269_69, s_269_72, s_269_73, s_269_74, s_269_75, s_269_77, s_269_80, s_269_81, s_269_82, s_269_83, s_269_84, s_269_85, s_269_88, s_269_89, s_269_90, s_269_91, s_269_92, s_269_94, s_269_97, s_269_99, s_269_101, s_269_104, s_269_106, s_269_107, s_269_110, s_269_113, s_269_115, s_269_116, s_269_119, s_269_122, s_269_123, s_269_125, s_269_128, e_269, mv_i_1, mv_l_1, mv_a_1, mv_a_2, mv_a_3, mk2_n, mk2_i, mk2_l, mk2_a, mk2_u, mk2_x, mB_T, mB_F, mS_cons, mS_nil, mSB_T, mSB_F, mca_nil, mca_i, mca_l, mca_r, mca_u, mca_x, mcat_i, mcat_l, mcat_r, mcat_u, mcat_x, mK_some, mK_none, va_rf_s, va_rf_n, lgc_eq, lgc_lt, lgc_gt, lgc_ge, lgc_le, mrd_104, mrd_105, mrd_106, mrd_107, true_and, and_true, and_self, false_and, and_false, true_or, or_true, false_or, or_false, not_true_eq_false, not_false_eq_true, mgb, mga, mgr, mN, reduceCtorEq, ↓reduceIte, eq_self, ge_iff_le, gt_iff_lt, Nat.reduceAdd, Nat.reduceMul, Nat.reduceSub, Nat.reduceLT, Nat.reduceGT, Nat.reduceEqDiff, Nat.reduceLeDiff, Nat.left_eq_add, Nat.add_eq_left, Nat.reduceMod, Nat.reduceDiv, Nat.succ_ne_self, g, g1, g2, g3, g4, a11, run1, run2, run3, run4, e1']
/-- the run: goes twice, BLOCK -/
theorem chl_r {hg1 hg2 h3 : mh_H} {k1 Ee nx' to1 : Nat} {x6 : Option Value} (hp : p < 250) (hE1 : p < Ee) (hE : Ee < 250) (hk : k1 < 30000) (g : mg h 115 12) (gg1 : mg hg1 115 12) (gg2 : mg hg2 115 12) (c1 : ∀ Q, mcall d 228 [.ref 115, .int (Int32.ofNat (k + 1))] h Q = Q (some (.int (Int32.ofNat k1))) h) (c1' : ∀ Q, mcall d 228 [.ref 115, .int (Int32.ofNat (k + 1))] hg2 Q = Q (some (.int (Int32.ofNat k1))) hg2) (p1 : ∀ Q, mcall d 253 [.ref 115, .int (Int32.ofNat k1)] h Q = Q (some (.int (Int32.ofNat (Ee - (p + 1))))) h) (et1 : (if p + 1 < Ee then p + 1 else p) = to1) (rg1 : ∀ Q, mcall d 260 [.ref 115, .int (Int32.ofNat p), .int (Int32.ofNat to1), .ref ho] h Q = Q none hg1) (rg2 : ∀ Q, mcall d 260 [.ref 115, .int (Int32.ofNat p), .int (Int32.ofNat nx'), .ref fa] hg1 Q = Q none hg2) (run3 : ∀ Q, mcall d 257 [.ref 115, .int (Int32.ofNat k1), .int (Int32.ofNat (p + 1)), .int (Int32.ofNat p), .ref ho] hg2 Q = Q none h3) : ∀ Q, mw (d + 1) 269 Q 40 [some (.ref 115), some (.int (Int32.ofNat k)), some (.int (Int32.ofNat p)), some (.int (Int32.ofNat nx')), some (.ref o), some (.int (Int32.ofNat s0)), x6, some (.ref ho), some (.ref fa), none] [] h = mw (d + 1) 269 Q 97 [some (.ref 115), some (.int (Int32.ofNat k)), some (.int (Int32.ofNat p)), some (.int (Int32.ofNat nx')), some (.ref o), some (.int (Int32.ofNat s0)), x6, some (.ref ho), some (.ref fa), some (.int (Int32.ofNat (Ee - (p + 1))))] [] h3 := fun Q => by
  have e1' : ∀ k, Int32.ofNat k + 1 = Int32.ofNat (k + 1) := fun k => nn_add (a := k) (b := 1)
  have z0 : (0 : Int32) = Int32.ofNat 0 := rfl
  rw [s_269_40]
  by_cases hc : Ee - (p + 1) ≤ 0
  · rw [if_neg (by omega)] at et1
    subst et1
    have hc' : (Int32.ofNat (Ee - (p + 1)) ≤ 0) = True := by
      rw [z0, nn_le (by omega) (by omega)]; exact eq_true hc
    simp (disch := omega) only [s_269_0, s_269_1, s_269_4, s_269_6, s_269_7, s_269_8, s_269_10, s_269_13, s_269_15, s_269_16, s_269_19, s_269_19n, s_269_21, s_269_22, s_269_25, s_269_25n, s_269_27, s_269_28, s_269_29, s_269_30, s_269_31, s_269_33, s_269_35, s_269_37, s_269_41, s_269_42, s_269_43, s_269_44, s_269_45, s_269_48, s_269_51, s_269_53, s_269_54, s_269_55, s_269_57, s_269_60, s_269_61, s_269_62, s_269_63, s_269_66, s_269_67, s_269_69, s_269_72, s_269_73, s_269_74, s_269_75, s_269_77, s_269_80, s_269_81, s_269_82, s_269_83, s_269_84, s_269_85, s_269_88, s_269_89, s_269_90, s_269_91, s_269_92, s_269_94, s_269_99, s_269_101, s_269_104, s_269_106, s_269_107, s_269_110, s_269_113, s_269_115, s_269_116, s_269_119, s_269_122, s_269_123, s_269_125, s_269_128, e_269, mv_i_1, mv_l_1, mv_a_1, mv_a_2, mv_a_3, mk2_n, mk2_i, mk2_l, mk2_a, mk2_u, mk2_x, mB_T, mB_F, mS_cons, mS_nil, mSB_T, mSB_F, mca_nil, mca_i, mca_l, mca_r, mca_u, mca_x, mcat_i, mcat_l, mcat_r, mcat_u, mcat_x, mK_some, mK_none, va_rf_s, va_rf_n, lgc_eq, lgc_lt, lgc_gt, lgc_ge, lgc_le, mrd_104, mrd_105, mrd_106, mrd_107, true_and, and_true, and_self, false_and, and_false, true_or, or_true, false_or, or_false, not_true_eq_false, not_false_eq_true, mgb, mga, mgr, mN, reduceCtorEq, ↓reduceIte, eq_self, ge_iff_le, gt_iff_lt, Nat.reduceAdd, Nat.reduceMul, Nat.reduceSub, Nat.reduceLT, Nat.reduceGT, Nat.reduceEqDiff, Nat.reduceLeDiff, Nat.left_eq_add, Nat.add_eq_left, Nat.reduceMod, Nat.reduceDiv, Nat.succ_ne_self, g, gg1, gg2, c1, c1', p1, e1', hc', rg1, rg2, run3]
  · rw [if_pos (by omega)] at et1
    subst et1
    have hc' : (Int32.ofNat (Ee - (p + 1)) ≤ 0) = False := by
      rw [z0, nn_le (by omega) (by omega)]; exact eq_false hc
    simp (disch := omega) only [s_269_0, s_269_1, s_269_4, s_269_6, s_269_7, s_269_8, s_269_10, s_269_13, s_269_15, s_269_16, s_269_19, s_269_19n, s_269_21, s_269_22, s_269_25, s_269_25n, s_269_27, s_269_28, s_269_29, s_269_30, s_269_31, s_269_33, s_269_35, s_269_37, s_269_41, s_269_42, s_269_43, s_269_44, s_269_45, s_269_48, s_269_51, s_269_53, s_269_54, s_269_55, s_269_57, s_269_60, s_269_61, s_269_62, s_269_63, s_269_66, s_269_67, s_269_69, s_269_72, s_269_73, s_269_74, s_269_75, s_269_77, s_269_80, s_269_81, s_269_82, s_269_83, s_269_84, s_269_85, s_269_88, s_269_89, s_269_90, s_269_91, s_269_92, s_269_94, s_269_99, s_269_101, s_269_104, s_269_106, s_269_107, s_269_110, s_269_113, s_269_115, s_269_116, s_269_119, s_269_122, s_269_123, s_269_125, s_269_128, e_269, mv_i_1, mv_l_1, mv_a_1, mv_a_2, mv_a_3, mk2_n, mk2_i, mk2_l, mk2_a, mk2_u, mk2_x, mB_T, mB_F, mS_cons, mS_nil, mSB_T, mSB_F, mca_nil, mca_i, mca_l, mca_r, mca_u, mca_x, mcat_i, mcat_l, mcat_r, mcat_u, mcat_x, mK_some, mK_none, va_rf_s, va_rf_n, lgc_eq, lgc_lt, lgc_gt, lgc_ge, lgc_le, mrd_104, mrd_105, mrd_106, mrd_107, true_and, and_true, and_self, false_and, and_false, true_or, or_true, false_or, or_false, not_true_eq_false, not_false_eq_true, mgb, mga, mgr, mN, reduceCtorEq, ↓reduceIte, eq_self, ge_iff_le, gt_iff_lt, Nat.reduceAdd, Nat.reduceMul, Nat.reduceSub, Nat.reduceLT, Nat.reduceGT, Nat.reduceEqDiff, Nat.reduceLeDiff, Nat.left_eq_add, Nat.add_eq_left, Nat.reduceMod, Nat.reduceDiv, Nat.succ_ne_self, g, gg1, gg2, c1, c1', p1, e1', hc', rg1, rg2, run3]
/-- its end -/
theorem chl_9 (S : CSP h s0 o ho fa E D w0 G e0 cl br X F1 F2) (sh2 : shp E.nu E.ar E.rm F2) (m12 : E.nu ≤ 12 ∧ E.ar ≤ 6) (he : e0 < 250) (hw : wW w0 ≤ 4000) {x1 x2 x3 x6 x9 : Option Value} : ∃ h', rq s0 (sV o E.T) h h' ∧ SC h' s0 o E D w0 G e0 cl br ∧ ∀ Q, mw (d + 1) 269 Q 97 [some (.ref 115), x1, x2, x3, some (.ref o), some (.int (Int32.ofNat s0)), x6, some (.ref ho), some (.ref fa), x9] [] h = Q none h' := by
  have R := S.A
  have J := R.j
  have so := lv_sp S.l
  have lo := sp_lo J so
  have nof : o ≠ fa := lv_ne J S.l (by omega) S.r2
  obtain ⟨X1, f1, k1, run1⟩ := k_281 (d := d) (RK_ko S.ko) S.kf nof
  have R1 := ra_k R so f1 (RK_ko k1)
  have so1 : sp X1 o := sp_k so f1
  have k3 := RK_n (n := E.nu) k1 (fun A' e => (sh2 A' e).2.1) m12.1
  have f3 : fq (kW o) X1 (mh_si X1 o 1 (Int32.ofNat E.nu)) := fq_si kW0
  have R3 := ra_k R1 so1 f3 (RK_ko k3)
  have so3 : sp (mh_si X1 o 1 (Int32.ofNat E.nu)) o := sp_k so1 f3
  have k4 := RK_a (n := E.ar) k3 (fun A' e => (sh2 A' e).2.2.1) m12.2
  have f4 : fq (kW o) (mh_si X1 o 1 (Int32.ofNat E.nu)) (mh_si (mh_si X1 o 1 (Int32.ofNat E.nu)) o 2 (Int32.ofNat E.ar)) := fq_si kW0
  have R4 := ra_k R3 so3 f4 (RK_ko k4)
  have x : rq s0 (sV o E.T) h (mh_si (mh_si (mh_si X1 o 1 (Int32.ofNat E.nu)) o 2 (Int32.ofNat E.ar)) 115 11 (Int32.ofNat s0)) := rq_t (sV_k R so f1) (rq_t (sV_k R1 so1 f3) (rq_t (sV_k R3 so3 f4) (sV_115 (by omega))))
  have cc : ∀ q, cnQ G h q → cnQ G (mh_si (mh_si (mh_si X1 o 1 (Int32.ofNat E.nu)) o 2 (Int32.ofNat E.ar)) 115 11 (Int32.ofNat s0)) q := fun q w => cn_i (cn_k R3 so3 f4 (cn_k R1 so1 f3 (cn_k R so f1 w))) (fun b j hb => by rw [hi_si, if_neg (by omega)])
  have e35 : mh_i (mh_si (mh_si (mh_si X1 o 1 (Int32.ofNat E.nu)) o 2 (Int32.ofNat E.ar)) 115 11 (Int32.ofNat s0)) 115 35 = mh_i h 115 35 := by rw [hi_si, if_neg (by omega), hi_si, if_neg (by omega), hi_si, if_neg (by omega), rs_ij J so f1]
  refine ⟨_, x, SC.of ⟨RA_11 R4, rq_lv x S.l, ⟨F2, RK_fz (fz_si (W := fun b _ => b = 115) rfl) (fun y hy j w => by omega) k4, sh2⟩, m12, ck_t S.C R lo he x cc e35, hw⟩, fun Q => ?_⟩
  have go := (RK_ko S.ko).1
  have go1 := (RK_ko k1).1
  have g1 := R1.j.a.g
  have a20 := R1.n
  have a21 := R1.a
  have nho : ¬ o = 115 := by omega
  clear S R R1 R3 R4 J k1 k3 k4 f1 f3 f4 x cc e35 sh2
  simp (disch := omega) only [s_269_0, s_269_1, s_269_4, s_269_6, s_269_7, s_269_8, s_269_10, s_269_13, s_269_15, s_269_16, s_269_19, s_269_19n, s_269_21, s_269_22, s_269_25, s_269_25n, s_269_27, s_269_28, s_269_29, s_269_30, s_269_31, s_269_33, s_269_35, s_269_37, s_269_40, s_269_41, s_269_42, s_269_43, s_269_44, s_269_45, s_269_48, s_269_51, s_269_53, s_269_54, s_269_55, s_269_57, s_269_60, s_269_61, s_269_62, s_269_63, s_269_66, s_269_67, s_269_69, s_269_72, s_269_73, s_269_74, s_269_75, s_269_77, s_269_80, s_269_81, s_269_82, s_269_83, s_269_84, s_269_85, s_269_88, s_269_89, s_269_90, s_269_91, s_269_92, s_269_94, s_269_97, s_269_99, s_269_101, s_269_104, s_269_106, s_269_107, s_269_110, s_269_113, s_269_115, s_269_116, s_269_119, s_269_122, s_269_123, s_269_125, s_269_128, e_269, mv_i_1, mv_l_1, mv_a_1, mv_a_2, mv_a_3, mk2_n, mk2_i, mk2_l, mk2_a, mk2_u, mk2_x, mB_T, mB_F, mS_cons, mS_nil, mSB_T, mSB_F, mca_nil, mca_i, mca_l, mca_r, mca_u, mca_x, mcat_i, mcat_l, mcat_r, mcat_u, mcat_x, mK_some, mK_none, va_rf_s, va_rf_n, lgc_eq, lgc_lt, lgc_gt, lgc_ge, lgc_le, mrd_104, mrd_105, mrd_106, mrd_107, true_and, and_true, and_self, false_and, and_false, true_or, or_true, false_or, or_false, not_true_eq_false, not_false_eq_true, mgb, mga, mgr, mN, reduceCtorEq, ↓reduceIte, eq_self, ge_iff_le, gt_iff_lt, hk_si, hk_sj, hk_sr, hl_si, hl_sj, hl_sr, hn_si, hn_sj, hn_sr, hs_si, hs_sj, hs_sr, hi_sj, hi_sr, hj_si, hj_sr, hr_si, hr_sj, hi_si, hj_sj, hr_sr, mg_si, mg_sj, mg_sr, Nat.reduceAdd, Nat.reduceMul, Nat.reduceSub, Nat.reduceLT, Nat.reduceGT, Nat.reduceEqDiff, Nat.reduceLeDiff, Nat.left_eq_add, Nat.add_eq_left, Nat.reduceMod, Nat.reduceDiv, Nat.succ_ne_self, go, go1, g1, run1, a20, a21]
theorem stm_wc (H : CHX G J e0 cl) (B : BQc G J D cl e0 fst oth f) {qt : tr} (hk : tK n = 9) (hen : J.en p = E.en) (e1 : G.n p = E.nu) (e2 : G.a p = E.ar) (e3 : ∀ x, x < E.ar → E.rm x = G.rm p x) (hkd : G.kd p = 6) (jc : J.c p = 7) (jt : J.t p = .branch m c (.branch b bs qt)) (hC : eCo E (.branch m c (.branch b bs qt))) (hsp : G.sp p = cn3 (.branch m c (.branch b bs qt))) (hpE : p < G.E p) (hE : G.E p ≤ e0) (L1 : LW G J D f bs (p + 1) (G.E p) E) {nx' : Nat} (f1 : fst p = if p + 1 < G.E p then p + 1 else p) (f2 : oth p = nx') (U1 : SUC G fst oth f (p + 1) (G.E p) p) (hnx : nx' ≤ e0) (hdm : G.n nx' ≤ E.nu ∧ G.a nx' ≤ E.ar) (S : SC h s0 o E D w0 G e0 cl br) (N : nd (mh_i h 93) (mh_i h 95) (mh_i h 97) k (.branch n (.branch m c (.branch b bs qt)) r)) (hb : k + 1 + ts (.branch m c (.branch b bs qt)) ≤ 26000) (hs : s0 + 3 * (G.E p - p) + 360 ≤ 2048) (hd : 4 * (G.E p - p) + 839 ≤ d) : ∃ h' b', rq s0 (sV o E.T) h h' ∧ SC h' s0 o E D w0 G e0 cl b' ∧ BRK (VI G cl fst oth) p (G.E p) br b' ∧ ∀ Q, mcall d 261 [.ref 115, .int (Int32.ofNat k), .int (Int32.ofNat p), .int (Int32.ofNat nx'), .ref o] h Q = Q none h' := by
  obtain ⟨d, rfl⟩ : ∃ d', d = d' + 6 := ⟨d - 6, by omega⟩
  have he := H.he
  have hp : p < e0 := by omega
  have o1 : p < 250 := by omega
  have o2 : G.E p < 250 := by omega
  have o3 : G.E p ≤ 249 := by omega
  have o4 : s0 + 3 ≤ 2048 := by omega
  have o5 : s0 + 2 + 3 * (G.E p - (p + 1)) + 360 ≤ 2048 := by omega
  have o6 : 4 * (G.E p - (p + 1)) + 840 ≤ d + 3 := by omega
  have o7 : 2 * (G.E p - (p + 1)) + 3 ≤ d + 3 := by omega
  have oF : s0 ≤ s0 ∧ s0 < s0 + 2 := by omega
  have oG : s0 ≤ s0 + 1 ∧ s0 + 1 < s0 + 2 := by omega
  have oH : s0 ≠ s0 + 1 := by omega
  have oI : p + 1 ≤ G.E p := by omega
  have sp1 := H.sp p hp
  have nk : mh_i h 93 k = 9 := by rw [N.1, hk]; rfl
  have J0 := S.A.j
  have run0 := stm_0c (d := d + 6) (o := o) (nx := Int32.ofNat nx') S.A S.C.z o1 (by omega : k < 26000) nk
  have a34 := S.C.z
  have n4 := N.2.2.2.1
  have fe := fo_7 (E := E) (s := cl p) H.hG hen jc jt
  obtain ⟨sh1, sh2⟩ := spl_shp hC (cl_sh H hp e1 e2 e3)
  obtain ⟨h1, ho, fa, x1, S1, ⟨u1, u2, u3⟩, run1⟩ := chl_1c (d := d + 3) (nx' := Int32.ofNat nx') H S hp e1 e2 e3 hC n4 hb (by omega) (by omega)
  rw [← u1, ← u2, ← u3] at n4
  generalize et1 : (if p + 1 < G.E p then p + 1 else p) = to1 at f1
  have d1 : to1 ≤ e0 ∧ G.n to1 ≤ E.nu ∧ G.a to1 ≤ E.ar := by
    rw [← et1]
    by_cases z : p + 1 < G.E p
    · rw [if_pos z]
      have := LW_d L1 z
      exact ⟨by omega, by omega, by omega⟩
    · rw [if_neg z]; exact ⟨by omega, by omega, by omega⟩
  obtain ⟨hg1, hg2, y12, S2, ⟨b1, b2', b3⟩, gg1, rg1, rg2⟩ := cho_2a (d := d) (p := p) H S1 sh1 sh2 d1 ⟨hnx, hdm⟩ S.m o1 o4
  rw [ts_B, ts_B] at hb
  obtain ⟨-, -, s1', -, -, -, s2', n5, -⟩ := n4
  have w2 : k + 1 < 26000 := by clear S S1 S2 B L1 N H n5 x1 y12; omega
  have w3 : k + 1 + 1 + ts c < 26000 := by clear S S1 S2 B L1 N H n5 x1 y12; omega
  have w4 : k + 1 + 1 + ts c + 1 + ts bs ≤ 26000 := by clear S S1 S2 B L1 N H n5 x1 y12; omega
  have e3' : k + 1 + (1 + ts c) = k + 1 + 1 + ts c := by omega
  have J1 := S1.A.j
  have q1 := LW_Q f bs (p + 1) (G.E p) E L1 o3
  have c1 := u_228 (d := d + 3) J1.a (k := k + 1) w2 s1'
  have c1' := u_228 (d := d + 3) S2.A.j.a (k := k + 1) w2 (by rw [b3]; exact s1')
  rw [e3'] at c1 c1'
  have p1 := PQ_c (d := d + 3) (b := k + 1 + 1 + ts c) q1 J1 S1.A.F S1.A.X S1.A.f n5 w4 s2' o7
  have n5' : nd (mh_i hg2 93) (mh_i hg2 95) (mh_i hg2 97) (k + 1 + 1 + ts c + 1) bs := by rw [b1, b2', b3]; exact n5
  have s2'' : mh_i hg2 97 (k + 1 + 1 + ts c) = Int32.ofNat (1 + ts bs) := by rw [b3]; exact s2'
  obtain ⟨h3, b3', X1, x3, R3, C3, lo3, rk3, ko3, kX1, shX1, kf3, -, brk3, run3⟩ := csp_b (d := d + 3) B S2 S.m S.w S2.r1 oF S2.r2 oG oH S2.kh sh1 S2.kf L1 U1 (by omega : p ≤ e0) hE ⟨by omega, by omega⟩ n5' w4 s2'' o5 o6
  have S3 : CSP h3 s0 o ho fa E D w0 G e0 cl b3' (cl p) X1 (spl E.en (.branch m c (.branch b bs qt)) false false (cl p) none).2.1 := CSP.of ⟨R3, C3, lo3, rk3 _ _ S2.r1, rk3 _ _ S2.r2, ko3, kX1, kf3⟩
  obtain ⟨h4, x4, S4, run4⟩ := chl_9 (d := d + 3) (x1 := some (.int (Int32.ofNat k))) (x2 := some (.int (Int32.ofNat p))) (x3 := some (.int (Int32.ofNat nx'))) (x6 := some (.int (kb (decide (cl p ≠ none))))) (x9 := some (.int (Int32.ofNat (G.E p - (p + 1))))) S3 sh2 S.m he S.w
  have bb := brk_2 (S := VI G cl fst oth) (p := p) (br := br) (VI_2 (fst := fst) (oth := oth) (Or.inr hkd) (congrArg (fun z => z.1) fe) (congrArg (fun z => z.2.1) fe))
  rw [f1, f2] at bb
  refine ⟨h4, b3', rq_t x1 (rq_t y12 (rq_t x3 x4)), S4, brk_t bb brk3 (by omega) oI, fun Q => ?_⟩
  have g1 := J1.a.g
  have gg2 := S2.A.j.a.g
  have g0 := J0.a.g
  have runL := chl_r (d := d + 3) (h := h1) (k := k) (o := o) (s0 := s0) (x6 := some (.int (kb (decide (cl p ≠ none))))) o1 hpE o2 (by omega : k + 1 + 1 + ts c < 30000) g1 gg1 gg2 c1 c1' p1 et1 rg1 rg2 run3
  have e10 : ((1 : Int32) = 0) = False := by decide
  have run : ∀ Q, mcall (d + 4) 269 [.ref 115, .int (Int32.ofNat k), .int (Int32.ofNat p), .int (Int32.ofNat nx'), .ref o] h Q = Q none h4 := fun Q => (run1 Q).trans ((runL Q).trans (run4 Q))
  rw [run0, ts_9]
  clear S S1 S2 S3 S4 R3 C3 B L1 hC x1 x3 x4 y12 N H J0 J1 brk3 bb run0 run1 run3 run4 runL sh1 sh2 shX1 U1 kf3 ko3 kX1 n5 n5' q1
  simp (disch := omega) only [s_261_0, s_261_1, s_261_4, s_261_5, s_261_6, s_261_9, s_261_12, s_261_13, s_261_16, s_261_17, s_261_18, s_261_21, s_261_22, s_261_25, s_261_26, s_261_27, s_261_30, s_261_31, s_261_32, s_261_35, s_261_38, s_261_39, s_261_42, s_261_43, s_261_44, s_261_47, s_261_48, s_261_51, s_261_52, s_261_53, s_261_56, s_261_57, s_261_84, s_261_85, s_261_86, s_261_87, s_261_88, s_261_90, s_261_93, s_261_96, s_261_97, s_261_98, s_261_99, s_261_100, s_261_102, s_261_105, s_261_108, s_261_109, s_261_110, s_261_111, s_261_112, s_261_114, s_261_117, s_261_120, s_261_121, s_261_122, s_261_124, s_261_127, s_261_129, s_261_130, s_261_131, s_261_133, s_261_135, s_261_138, s_261_139, s_261_140, s_261_143, s_261_144, s_261_145, s_261_146, s_261_148, s_261_151, e_261, s_268_0, s_268_1, s_268_4, s_268_7, s_268_8, s_268_9, s_268_10, s_268_11, s_268_13, s_268_16, s_268_17, s_268_18, s_268_21, s_268_23, s_268_24, s_268_26, s_268_29, s_268_29n, s_268_31, s_268_32, s_268_34, s_268_37, s_268_37n, s_268_39, s_268_40, s_268_43, s_268_43n, s_268_45, s_268_46, s_268_49, s_268_49n, s_268_51, s_268_53, s_268_56, s_268_59, s_268_60, s_268_61, s_268_62, s_268_64, s_268_66, s_268_68, s_268_70, s_268_73, s_268_74, s_268_76, s_268_79, s_268_80, s_268_81, s_268_82, s_268_83, s_268_85, s_268_87, s_268_89, s_268_91, s_268_94, s_268_95, s_268_97, s_268_99, s_268_101, s_268_104, s_268_107, s_268_108, s_268_111, s_268_114, s_268_116, s_268_117, s_268_120, s_268_122, s_268_124, s_268_127, s_268_129, s_268_131, s_268_134, s_268_137, s_268_139, s_268_141, s_268_144, s_268_146, s_268_148, s_268_151, s_268_153, s_268_156, s_268_157, s_268_158, s_268_159, s_268_161, s_268_163, s_268_165, s_268_167, s_268_170, s_268_173, s_268_176, s_268_177, s_268_180, s_268_180n, s_268_182, s_268_183, s_268_186, s_268_186n, s_268_188, s_268_189, s_268_191, s_268_192, s_268_194, s_268_196, s_268_197, s_268_200, s_268_202, s_268_205, s_268_206, s_268_209, s_268_212, s_268_214, s_268_216, s_268_219, s_268_222, s_268_224, s_268_226, s_268_229, s_268_232, s_268_233, s_268_236, s_268_237, s_268_239, s_268_241, s_268_244, s_268_246, s_268_248, s_268_251, s_268_252, s_268_253, s_268_254, s_268_256, s_268_258, s_268_260, s_268_262, s_268_265, s_268_267, s_268_269, s_268_272, s_268_274, s_268_276, s_268_279, s_268_281, s_268_283, s_268_286, s_268_288, s_268_290, s_268_293, s_268_296, s_268_299, s_268_300, s_268_303, s_268_306, s_268_307, s_268_308, s_268_309, s_268_311, s_268_313, s_268_315, s_268_317, s_268_320, s_268_322, s_268_324, s_268_327, s_268_328, s_268_330, s_268_333, e_268, mv_i_1, mv_l_1, mv_a_1, mv_a_2, mv_a_3, mk2_n, mk2_i, mk2_l, mk2_a, mk2_u, mk2_x, mB_T, mB_F, mS_cons, mS_nil, mSB_T, mSB_F, mca_nil, mca_i, mca_l, mca_r, mca_u, mca_x, mcat_i, mcat_l, mcat_r, mcat_u, mcat_x, mK_some, mK_none, va_rf_s, va_rf_n, lgc_eq, lgc_lt, lgc_gt, lgc_ge, lgc_le, mrd_104, mrd_105, mrd_106, mrd_107, true_and, and_true, and_self, false_and, and_false, true_or, or_true, false_or, or_false, not_true_eq_false, not_false_eq_true, mgb, mga, mgr, mN, reduceCtorEq, ↓reduceIte, eq_self, ge_iff_le, gt_iff_lt, Nat.reduceAdd, Nat.reduceMul, Nat.reduceSub, Nat.reduceLT, Nat.reduceGT, Nat.reduceEqDiff, Nat.reduceLeDiff, Nat.left_eq_add, Nat.add_eq_left, Nat.reduceMod, Nat.reduceDiv, Nat.succ_ne_self, g0, a34, e10, run]
end CLa
