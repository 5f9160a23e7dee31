set_option maxRecDepth 100000
/-! CHECKS: choice -/
/-- what block does where claims are checked -/
def BQc (G : pgm) (J : pin) (D : fd) (cl : Nat → Option ab) (e0 : Nat) (fst oth : Nat → Nat) (f : Nat) : Prop := ∀ (t : tr) (p e : Nat) (E : nv), LW G J D f t p e E → ∀ (d b s0 o nx' : Nat) (h : mh_H) (w0 : wd) (br : Nat), SUC G fst oth f p e nx' → nx' ≤ e0 → e ≤ e0 → (G.n nx' ≤ E.nu ∧ G.a nx' ≤ E.ar) → SC h s0 o E D w0 G e0 cl br → nd (mh_i h 93) (mh_i h 95) (mh_i h 97) (b + 1) t → b + 1 + ts t ≤ 26000 → mh_i h 97 b = Int32.ofNat (1 + ts t) → s0 + 3 * (e - p) + 360 ≤ 2048 → 4 * (e - p) + 840 ≤ d → ∃ h' b', rq s0 (sV o E.T) h h' ∧ SC h' s0 o E D w0 G e0 cl b' ∧ BRK (VI G cl fst oth) p e br b' ∧ ∀ Q, mcall d 257 [.ref 115, .int (Int32.ofNat b), .int (Int32.ofNat p), .int (Int32.ofNat nx'), .ref o] h Q = Q none h'
/-- what stands while a COND has been split -/
def CSP (h : mh_H) (s0 o ho fa : Nat) (E : nv) (D : fd) (w0 : wd) (G : pgm) (e0 : Nat) (cl : Nat → Option ab) (br : Nat) (X F1 F2 : Option ab) : Prop := (RA h (s0 + 2) E D w0) ∧ (CKS h G e0 cl br) ∧ (lv h s0 o) ∧ (mh_r h 119 s0 = some ho) ∧ (mh_r h 119 (s0 + 1) = some fa) ∧ (RK h o X) ∧ (RK h ho F1) ∧ (RK h fa F2)
theorem CSP.of {h : mh_H} {s0 o ho fa : Nat} {E : nv} {D : fd} {w0 : wd} {G : pgm} {e0 : Nat} {cl : Nat → Option ab} {br : Nat} {X F1 F2 : Option ab} (q : (RA h (s0 + 2) E D w0) ∧ (CKS h G e0 cl br) ∧ (lv h s0 o) ∧ (mh_r h 119 s0 = some ho) ∧ (mh_r h 119 (s0 + 1) = some fa) ∧ (RK h o X) ∧ (RK h ho F1) ∧ (RK h fa F2)) : CSP h s0 o ho fa E D w0 G e0 cl br X F1 F2 := q
theorem CSP.A {h : mh_H} {s0 o ho fa : Nat} {E : nv} {D : fd} {w0 : wd} {G : pgm} {e0 : Nat} {cl : Nat → Option ab} {br : Nat} {X F1 F2 : Option ab} (q : CSP h s0 o ho fa E D w0 G e0 cl br X F1 F2) : RA h (s0 + 2) E D w0 := q.1
theorem CSP.C {h : mh_H} {s0 o ho fa : Nat} {E : nv} {D : fd} {w0 : wd} {G : pgm} {e0 : Nat} {cl : Nat → Option ab} {br : Nat} {X F1 F2 : Option ab} (q : CSP h s0 o ho fa E D w0 G e0 cl br X F1 F2) : CKS h G e0 cl br := q.2.1
theorem CSP.l {h : mh_H} {s0 o ho fa : Nat} {E : nv} {D : fd} {w0 : wd} {G : pgm} {e0 : Nat} {cl : Nat → Option ab} {br : Nat} {X F1 F2 : Option ab} (q : CSP h s0 o ho fa E D w0 G e0 cl br X F1 F2) : lv h s0 o := q.2.2.1
theorem CSP.r1 {h : mh_H} {s0 o ho fa : Nat} {E : nv} {D : fd} {w0 : wd} {G : pgm} {e0 : Nat} {cl : Nat → Option ab} {br : Nat} {X F1 F2 : Option ab} (q : CSP h s0 o ho fa E D w0 G e0 cl br X F1 F2) : mh_r h 119 s0 = some ho := q.2.2.2.1
theorem CSP.r2 {h : mh_H} {s0 o ho fa : Nat} {E : nv} {D : fd} {w0 : wd} {G : pgm} {e0 : Nat} {cl : Nat → Option ab} {br : Nat} {X F1 F2 : Option ab} (q : CSP h s0 o ho fa E D w0 G e0 cl br X F1 F2) : mh_r h 119 (s0 + 1) = some fa := q.2.2.2.2.1
theorem CSP.ko {h : mh_H} {s0 o ho fa : Nat} {E : nv} {D : fd} {w0 : wd} {G : pgm} {e0 : Nat} {cl : Nat → Option ab} {br : Nat} {X F1 F2 : Option ab} (q : CSP h s0 o ho fa E D w0 G e0 cl br X F1 F2) : RK h o X := q.2.2.2.2.2.1
theorem CSP.kh {h : mh_H} {s0 o ho fa : Nat} {E : nv} {D : fd} {w0 : wd} {G : pgm} {e0 : Nat} {cl : Nat → Option ab} {br : Nat} {X F1 F2 : Option ab} (q : CSP h s0 o ho fa E D w0 G e0 cl br X F1 F2) : RK h ho F1 := q.2.2.2.2.2.2.1
theorem CSP.kf {h : mh_H} {s0 o ho fa : Nat} {E : nv} {D : fd} {w0 : wd} {G : pgm} {e0 : Nat} {cl : Nat → Option ab} {br : Nat} {X F1 F2 : Option ab} (q : CSP h s0 o ho fa E D w0 G e0 cl br X F1 F2) : RK h fa F2 := q.2.2.2.2.2.2.2
section CCs
variable {d : Nat} {h h1 h2 : mh_H} {s0 s1 o o' p q k e0 br T x to n ho fa m b : Nat} {E : nv} {D : fd} {w0 : wd} {s X F1 F2 : Option ab} {G : pgm} {J : pin} {cl : Nat → Option ab} {cs r c bs t : tr} {A : ab}
/-- look, two Knowns, split, tell -/
theorem cho_1c (H : CHX G J e0 cl) (S : SC h s0 o E D w0 G e0 cl br) (hp : p < e0) (e1 : G.n p = E.nu) (e2 : G.a p = E.ar) (e3 : ∀ x, x < E.ar → E.rm x = G.rm p x) (hC : eCo E cs) (N : nd (mh_i h 93) (mh_i h 95) (mh_i h 97) (k + 1) cs) (hb : k + 1 + ts cs ≤ 26000) (hs : s0 + 2 + cn3 cs ≤ 2048) (hd : 720 ≤ d) {nx' : Int32} : ∃ h' ho fa, rq s0 (sV o E.T) h h' ∧ CSP h' s0 o ho fa E D w0 G e0 cl br (cl p) (spl E.en cs false false (cl p) none).1 (spl E.en cs false false (cl p) none).2.1 ∧ (mh_i h' 93 = mh_i h 93 ∧ mh_i h' 95 = mh_i h 95 ∧ mh_i h' 97 = mh_i h 97) ∧ ∀ Q, mcall (d + 1) 264 [.ref 115, .int (Int32.ofNat k), .int (Int32.ofNat p), .int nx', .ref o] h Q = mw (d + 1) 264 Q 45 [some (.ref 115), some (.int (Int32.ofNat k)), some (.int (Int32.ofNat p)), some (.int nx'), some (.ref o), some (.int (kb (decide (cl p ≠ none)))), some (.int (Int32.ofNat s0)), some (.ref ho), some (.ref fa), none, none, none, none] [] h' := by
  obtain ⟨d, rfl⟩ : ∃ d', d = d' + 1 := ⟨d - 1, by omega⟩
  have he := H.he
  have J := S.A.j
  have lo := sp_lo J (lv_sp S.l)
  obtain ⟨h1, x1, A1, k1, a1, al1, C1, run1⟩ := w_258c (d := d) S.A S.l S.C he hp e2
  have J1 := A1.j
  have l1 := rq_lv x1 S.l
  obtain ⟨h2, ho, x2, J2, f2, i2, al2, ko2, run2⟩ := t_226 (d := d) J1 A1.s (by omega)
  have A2 := RA_q A1 vF x2 J2 i2
  have l2 := rq_lv x2 l1
  have C2 : CKS h2 G e0 cl br := ck_t C1 A1 lo he (sV_F (o := o) (T := 0) x2 (Nat.le_refl _)) (fun q w => cn_q A1 vF x2 w) (ck_35 J1.a.g (by decide) run2)
  obtain ⟨h3, fa, x3, J3, f3, i3, al3, ko3, run3⟩ := t_226 (d := d) J2 i2 (by omega)
  have A3 := RA_q A2 vF x3 J3 i3
  have l3 := rq_lv x3 l2
  have C3 : CKS h3 G e0 cl br := ck_t C2 A2 lo he (sV_F (o := o) (T := 0) x3 (Nat.le_refl _)) (fun q w => cn_q A2 vF x3 w) (ck_35 J2.a.g (by decide) run3)
  have f2' : mh_r h3 119 s0 = some ho := x3.k _ _ f2
  have noh : o ≠ ho := lv_ne J3 l3 (Nat.le_refl _) f2'
  have nof : o ≠ fa := lv_ne J3 l3 (by omega) f3
  have lh : lv h3 (s0 + 1) ho := ⟨s0, by omega, f2'⟩
  have nhf : ho ≠ fa := lv_ne J3 lh (Nat.le_refl _) f3
  have k3 : RK h3 o (cl p) := rq_K J2 x3 (lv_w l2 (by omega)) (fun _ _ _ w => w) (rq_K J1 x2 l1 (fun _ _ _ w => w) k1)
  have a3 : mh_i h3 o 2 = Int32.ofNat E.ar := by
    rw [rq_ki J2 x3 (lv_w l2 (by omega)) (fun _ w => w), rq_ki J1 x2 l1 (fun _ w => w)]
    exact a1
  obtain ⟨t1, t2, t3⟩ := sV_tr J lo x1
  obtain ⟨u1, u2, u3⟩ := rq_tr J1 vF x2
  obtain ⟨v1, v2', v3⟩ := rq_tr J2 vF x3
  obtain ⟨h4, x4, A4, kh4, kf4, ah4, af4, al4, ⟨r1, r2, r3⟩, zz4, c4, run4⟩ := ra_spl (d := d + 1) (G := G) A3 (lv_w l3 (by omega)) (lv_w lh (by omega)) ⟨s0 + 1, by omega, f3⟩ noh nof nhf k3 (cl_sh H hp e1 e2 e3) a3 hC (by rw [v1, v2', v3, u1, u2, u3, t1, t2, t3]; exact N) hb (by omega) (by omega)
  have y4 : rq s0 (sV o E.T) h3 h4 := sV_v x4 (by omega) (fun b j w => by
    rcases w with w | w
    · exact Or.inr ⟨s0, ho, Nat.le_refl _, f2', w⟩
    · exact Or.inr ⟨s0 + 1, fa, by omega, f3, w⟩)
  have C4 : CKS h4 G e0 cl br := ck_t C3 A3 lo he y4 c4 (ck_35 J3.a.g (by decide) run4)
  have k4 : RK h4 o (cl p) := rq_K J3 x4 (lv_w l3 (by omega)) (fun y hy j w => by
    rcases w with w | w
    · exact kc_no J3 (lv_sp l3) ⟨_, f2'⟩ noh y hy w
    · exact kc_no J3 (lv_sp l3) ⟨_, f3⟩ nof y hy w) k3
  have run5 := w_259c (d := d + 1) (v := Int32.ofNat p) A4 C4.z
  refine ⟨h4, ho, fa, rq_t x1 (rq_t (sV_F x2 (Nat.le_refl _)) (rq_t (sV_F x3 (by omega)) y4)), CSP.of ⟨A4, C4, rq_lv x4 l3, x4.k _ _ f2', x4.k _ _ f3, k4, kh4, kf4⟩, ?_, fun Q => ?_⟩
  · rw [r1, r2, r3, v1, v2', v3, u1, u2, u3, t1, t2, t3]
    exact ⟨rfl, rfl, rfl⟩
  · have g := J.a.g
    have g1 := J1.a.g
    have g2 := J2.a.g
    have g3 := J3.a.g
    have g4 := A4.j.a.g
    have a11 := A1.s
    have e1' : ∀ k, Int32.ofNat k + 1 = Int32.ofNat (k + 1) := fun k => nn_add (a := k) (b := 1)
    clear S H A1 A2 A3 A4 J J1 J2 J3 x1 x2 x3 x4 y4 k1 k3 k4 kh4 kf4 C1 C2 C3 C4 c4 N hC ko2 ko3
    simp (disch := omega) only [s_264_0, s_264_1, s_264_2, s_264_4, s_264_7, s_264_9, s_264_10, s_264_13, s_264_15, s_264_16, s_264_19, s_264_19n, s_264_21, s_264_22, s_264_25, s_264_25n, s_264_27, s_264_28, s_264_29, s_264_30, s_264_31, s_264_33, s_264_35, s_264_37, s_264_40, s_264_41, s_264_42, s_264_46, s_264_47, s_264_48, s_264_49, s_264_52, s_264_54, s_264_55, s_264_57, s_264_60, s_264_61, s_264_62, s_264_65, s_264_68, s_264_69, s_264_71, s_264_74, s_264_77, s_264_78, s_264_80, s_264_81, s_264_82, s_264_83, s_264_84, s_264_86, s_264_89, s_264_90, s_264_92, s_264_94, s_264_97, s_264_99, s_264_102, s_264_104, s_264_105, s_264_107, s_264_110, s_264_111, s_264_113, s_264_114, s_264_115, s_264_117, s_264_118, s_264_119, s_264_120, s_264_123, s_264_124, s_264_125, s_264_126, s_264_129, s_264_130, s_264_132, s_264_135, s_264_136, s_264_137, s_264_139, s_264_141, s_264_144, s_264_146, s_264_149, s_264_150, s_264_152, s_264_155, s_264_156, s_264_158, s_264_159, s_264_160, s_264_161, s_264_162, s_264_164, s_264_167, s_264_169, s_264_172, s_264_173, s_264_175, s_264_177, s_264_178, s_264_180, s_264_183, s_264_185, s_264_187, s_264_190, s_264_192, s_264_194, s_264_197, s_264_200, s_264_202, s_264_204, s_264_207, s_264_209, s_264_210, s_264_213, s_264_216, s_264_218, s_264_219, s_264_222, s_264_225, s_264_226, s_264_228, s_264_231, e_264, mv_i_1, mv_l_1, mv_a_1, mv_a_2, mv_a_3, mk2_n, mk2_i, mk2_l, mk2_a, mk2_u, mk2_x, mB_T, mB_F, mS_cons, mS_nil, mSB_T, mSB_F, mca_nil, mca_i, mca_l, mca_r, mca_u, mca_x, mcat_i, mcat_l, mcat_r, mcat_u, mcat_x, mK_some, mK_none, va_rf_s, va_rf_n, lgc_eq, lgc_lt, lgc_gt, lgc_ge, lgc_le, mrd_104, mrd_105, mrd_106, mrd_107, true_and, and_true, and_self, false_and, and_false, true_or, or_true, false_or, or_false, not_true_eq_false, not_false_eq_true, mgb, mga, mgr, mN, reduceCtorEq, ↓reduceIte, eq_self, ge_iff_le, gt_iff_lt, Nat.reduceAdd, Nat.reduceMul, Nat.reduceSub, Nat.reduceLT, Nat.reduceGT, Nat.reduceEqDiff, Nat.reduceLeDiff, Nat.left_eq_add, Nat.add_eq_left, Nat.reduceMod, Nat.reduceDiv, Nat.succ_ne_self, g, g1, g2, g3, g4, a11, run1, run2, run3, run4, run5, e1']
end CCs
