set_option maxRecDepth 100000
/-! Analysis.relation, whole -/
def v2 (ho fa b : Nat) (_ : Nat) : Prop := kc ho b ∨ kc fa b
section RLw
variable {d : Nat} {h X Y : mh_H} {T st ho fa : Nat} {sN : Int → Prop} {en : Int → Nat} {A : ab} {PQ PS PU PF PL PH lP : Nat}
theorem v2_K (s1 : sp X ho) (s2 : sp X fa) : vK X (v2 ho fa) := fun b _ w => w.elim (fun q => ⟨ho, s1, q⟩) (fun q => ⟨fa, s2, q⟩)
theorem rs_1 (x : rs (fun b _ => kc ho b) X Y) : rs (v2 ho fa) X Y := rs_w x (fun _ _ _ w => Or.inl w)
theorem rs_2 (x : rs (fun b _ => kc fa b) X Y) : rs (v2 ho fa) X Y := rs_w x (fun _ _ _ w => Or.inr w)
/-- one Known becomes nothing -/
theorem none_1 (J : RJ X T sN en) (s : sp X ho) {C : Option ab} (k : RK X ho C) : rs (fun b _ => kc ho b) X (mh_si X ho 0 1) ∧ RJ (mh_si X ho 0 1) T sN en ∧ RK (mh_si X ho 0 1) ho none := by
  have y : rs (fun b _ => kc ho b) X (mh_si X ho 0 1) := rs_of (fR_si (Or.inr (Or.inr ⟨Nat.le_refl _, by omega⟩))) (fun _ _ _ => rfl)
  have kn := RK_n1 k
  obtain ⟨PQ, PS, PU, PF, PL, PH, lP, P⟩ := J.p
  exact ⟨y, RJ_1 J s y ⟨_, _, _, _, _, _, _, PR_k J s y (fun _ _ _ => rfl) P⟩ (RK_ko kn), kn⟩
theorem rel_none (J : RJ X T sN en) (s1 : sp X ho) (s2 : sp X fa) (n3 : ho ≠ fa) {C1 C2 : Option ab} (k1 : RK X ho C1) (k2 : RK X fa C2) {k w : Int32} {x6 : Option Value} : ∃ Y, rs (v2 ho fa) X Y ∧ RJ Y T sN en ∧ RK Y ho none ∧ RK Y fa none ∧ (∀ j, mh_i Y 115 j = mh_i X 115 j) ∧ ∀ Q, mw d 252 Q 33 [some (.ref 115), some (.int k), some (.int w), some (.ref st), some (.ref ho), some (.ref fa), x6] [] X = Q none Y := by
  obtain ⟨y1, J1, q1⟩ := none_1 J s1 k1
  have s21 := (rs_s J (vK_1 s1) y1 (o := fa)).mpr s2
  have k21 := rs_K J y1 s2 (fun y' hy _ w => kc_no J s2 s1 (fun z => n3 z.symm) y' hy w) k2
  obtain ⟨y2, J2, q2⟩ := none_1 J1 s21 k21
  have s11 := (rs_s J (vK_1 s1) y1 (o := ho)).mpr s1
  refine ⟨_, rs_t (rs_1 y1) (rs_2 y2), J2, rs_K J1 y2 s11 (fun y' hy _ w => kc_no J1 s11 s21 n3 y' hy w) q1, q2, fun j => by
    have h1 := sp_lo J s1
    have h2 := sp_lo J s2
    rw [hi_si, if_neg (by omega), hi_si, if_neg (by omega)], fun Q => ?_⟩
  have g1 : mg X ho 13 := (RK_ko k1).1
  have g2 : mg X fa 13 := (RK_ko k2).1
  clear J J1 J2 k1 k2 k21 q1 q2
  simp (disch := omega) only [s_252_0, s_252_1, s_252_2, s_252_2n, s_252_5, s_252_6, s_252_7, s_252_8, s_252_9, s_252_12, s_252_14, s_252_15, s_252_16, s_252_17, s_252_18, s_252_21, s_252_24, s_252_25, s_252_27, s_252_30, s_252_33, s_252_35, s_252_36, s_252_39, s_252_41, s_252_42, s_252_45, s_252_46, s_252_47, s_252_48, s_252_51, s_252_52, s_252_53, s_252_54, s_252_55, s_252_56, s_252_59, s_252_60, s_252_62, s_252_63, s_252_66, s_252_67, s_252_70, s_252_71, s_252_104, s_252_105, s_252_106, s_252_109, s_252_111, s_252_114, s_252_115, s_252_116, s_252_117, s_252_119, s_252_122, s_252_125, s_252_126, s_252_127, s_252_128, s_252_130, s_252_133, s_252_134, s_252_135, s_252_138, s_252_140, s_252_143, s_252_146, s_252_147, s_252_148, s_252_151, s_252_153, s_252_156, s_252_157, s_252_158, s_252_159, s_252_161, s_252_164, s_252_167, s_252_168, s_252_169, s_252_170, s_252_172, s_252_175, s_252_176, s_252_177, s_252_180, s_252_182, s_252_185, s_252_188, s_252_189, s_252_190, s_252_191, s_252_193, s_252_196, s_252_197, s_252_198, s_252_199, s_252_201, s_252_204, s_252_205, s_252_207, s_252_210, s_252_213, s_252_214, s_252_216, s_252_219, s_252_220, s_252_221, s_252_222, s_252_224, s_252_227, s_252_228, s_252_229, s_252_230, s_252_232, s_252_235, s_252_237, s_252_240, s_252_242, s_252_245, e_252, mv_i_1, mv_l_1, mv_a_1, mv_a_2, mv_a_3, mk2_n, mk2_i, mk2_l, mk2_a, mk2_u, mk2_x, mB_T, mB_F, mS_cons, mS_nil, mSB_T, mSB_F, mca_nil, mca_i, mca_l, mca_r, mca_u, mca_x, mcat_i, mcat_l, mcat_r, mcat_u, mcat_x, mK_some, mK_none, va_rf_s, va_rf_n, lgc_eq, lgc_lt, lgc_gt, lgc_ge, lgc_le, mrd_104, mrd_105, mrd_106, mrd_107, true_and, and_true, and_self, false_and, and_false, true_or, or_true, false_or, or_false, not_true_eq_false, not_false_eq_true, mgb, mga, mgr, mN, reduceCtorEq, ↓reduceIte, eq_self, ge_iff_le, gt_iff_lt, hk_si, hk_sj, hk_sr, hl_si, hl_sj, hl_sr, hn_si, hn_sj, hn_sr, hs_si, hs_sj, hs_sr, hi_sj, hi_sr, hj_si, hj_sr, hr_si, hr_sj, hi_si, hj_sj, hr_sr, mg_si, mg_sj, mg_sr, Nat.reduceAdd, Nat.reduceMul, Nat.reduceSub, Nat.reduceLT, Nat.reduceGT, Nat.reduceEqDiff, Nat.reduceLeDiff, Nat.left_eq_add, Nat.add_eq_left, Nat.reduceMod, Nat.reduceDiv, Nat.succ_ne_self, g1, g2, show ((1 : Int32) = 0 ∨ (1 : Int32) = 1) = True by decide]
/-- Analysis.relation -/
theorem u_252 {s0 : Nat} (J : RJ h T sN en) (s3 : sp h st) (s1 : sp h ho) (s2 : sp h fa) (n1 : st ≠ ho) (n2 : st ≠ fa) (n3 : ho ≠ fa) (k3 : RK h st (some A)) (k1 : RK h ho (some A)) (k2 : RK h fa (some A)) (hT : ab_T A) {m1 m2 p : Nat} {c1 c2 r2 : tr} (M1 : SM h sN en A (.branch m1 c1 (.branch m2 c2 r2)) (p + 1)) (M2 : SM h sN en A (.branch m2 c2 r2) (p + 1 + (1 + ts c1))) {w : Nat} (hw : w ≤ 5) (hd : 2 * th (.branch m1 c1 (.branch m2 c2 r2)) + 14 ≤ d) : ∃ h', rq s0 (v2 ho fa) h h' ∧ RJ h' T sN en ∧ RK h' ho (a_rel en A w (.branch m1 c1 (.branch m2 c2 r2)) (.branch m2 c2 r2)).1 ∧ RK h' fa (a_rel en A w (.branch m1 c1 (.branch m2 c2 r2)) (.branch m2 c2 r2)).2.1 ∧ mh_i h' 115 24 = mh_i h 115 24 ||| (a_rel en A w (.branch m1 c1 (.branch m2 c2 r2)) (.branch m2 c2 r2)).2.2 ∧ mh_i h' 115 11 = mh_i h 115 11 ∧ ∀ Q, mcall d 252 [.ref 115, .int (Int32.ofNat p), .int (Int32.ofNat w), .ref st, .ref ho, .ref fa] h Q = Q none h' := by
  obtain ⟨d', rfl⟩ : ∃ d', d = d' + 6 := ⟨d - 6, by omega⟩
  have th2 : th (.branch m2 c2 r2) ≤ th (.branch m1 c1 (.branch m2 c2 r2)) := by rw [th_B (n := m1)]; omega
  generalize ht1 : (.branch m1 c1 (.branch m2 c2 r2) : tr) = t1 at *
  have t1z : mh_i h 97 (p + 1) = Int32.ofNat (1 + ts c1) := by
    have := M1.n
    rw [← ht1] at this
    exact this.2.2.1
  have pb1 := M1.b
  have pb2 := M2.b
  have p2b : p + 1 + (1 + ts c1) ≤ 26000 := by omega
  generalize ht2 : (.branch m2 c2 r2 : tr) = t2 at *
  have g := J.a.g
  have l1 := sp_lo J s1
  have l2 := sp_lo J s2
  have l3 := sp_lo J s3
  -- what is known now
  have J1 := RJ_23 (v := some st) J
  have e119 : ∀ i, mh_r (mh_sr h 115 23 (some st)) 119 i = mh_r h 119 i := fun i => by rw [hr_sr, if_neg (by omega)]
  have sp1 : ∀ o, sp h o → sp (mh_sr h 115 23 (some st)) o := fun o s => by
    obtain ⟨i, e⟩ := s
    exact ⟨i, by rw [e119]; exact e⟩
  have k31 := RK_23 (v := some st) l3 k3
  have k11 := RK_23 (v := some st) l1 k1
  have k21 := RK_23 (v := some st) l2 k2
  have r231 : mh_r (mh_sr h 115 23 (some st)) 115 23 = some st := by rw [hr_sr, if_pos ⟨rfl, rfl⟩]
  have g1 := J1.a.g
  have ca := u_228 (d := d' + 5) J1.a (k := p + 1) (z := 1 + ts c1) (by omega) t1z
  have s11 := sp1 ho s1
  have s21 := sp1 fa s2
  have s31 := sp1 st s3
  have ei : ∀ k, Int32.ofNat k + 1 = Int32.ofNat (k + 1) := fun k => nn_add (a := k) (b := 1)
  have e10 : ((1 : Int32) = 0) = False := by decide
  have e00 : ((0 : Int32) = 0) = True := by decide
  obtain ⟨b1, lo1, hi1, er1, ec1⟩ := u_233 (d := d' + 5) J1.a r231 k31 hT (t := t1) (p := p + 1) (by omega) M1.n M1.b M1.w
  have vF : ∀ X : mh_H, vK X (fun _ _ => False) := fun X _ _ w => absurd w (fun z => z)
  have y0 : rs (fun _ _ => False) (mh_sr h 115 23 (some st)) (aS (mh_sr h 115 23 (some st)) 115 (mh_i (mh_sr h 115 23 (some st)) 115 24 ||| (ev en A t1 none).2) lo1 hi1) := rs_aS
  obtain ⟨PQ, PS, PU, PF, PL, PH, lP, P⟩ := J1.p
  have J2 := RJ_0 J1 y0 ⟨PQ, PS, PU, PF, PL, PH, lP, P⟩
  have P2 : PR (aS (mh_sr h 115 23 (some st)) 115 (mh_i (mh_sr h 115 23 (some st)) 115 24 ||| (ev en A t1 none).2) lo1 hi1) PQ PS PU PF PL PH lP := P
  have al2 : mh_i (aS (mh_sr h 115 23 (some st)) 115 (mh_i (mh_sr h 115 23 (some st)) 115 24 ||| (ev en A t1 none).2) lo1 hi1) 115 24 = mh_i h 115 24 ||| (ev en A t1 none).2 := by rw [aS_i, if_pos ⟨rfl, rfl⟩, hi_sr]
  have i11 : mh_i (aS (mh_sr h 115 23 (some st)) 115 (mh_i (mh_sr h 115 23 (some st)) 115 24 ||| (ev en A t1 none).2) lo1 hi1) 115 11 = mh_i h 115 11 := by rw [aS_i, if_neg (by omega), hi_sr]
  have r232 : mh_r (aS (mh_sr h 115 23 (some st)) 115 (mh_i (mh_sr h 115 23 (some st)) 115 24 ||| (ev en A t1 none).2) lo1 hi1) 115 23 = some st := r231
  have k12 := rs_K J1 y0 s11 (fun _ _ _ w => w) k11
  have k22 := rs_K J1 y0 s21 (fun _ _ _ w => w) k21
  have k32 := rs_K J1 y0 s31 (fun _ _ _ w => w) k31
  have s12 := (rs_s J1 (vF _) y0 (o := ho)).mpr s11
  have s22 := (rs_s J1 (vF _) y0 (o := fa)).mpr s21
  have s32 := (rs_s J1 (vF _) y0 (o := st)).mpr s31
  have nd2 : nd (mh_i (aS (mh_sr h 115 23 (some st)) 115 (mh_i (mh_sr h 115 23 (some st)) 115 24 ||| (ev en A t1 none).2) lo1 hi1) 93) (mh_i (aS (mh_sr h 115 23 (some st)) 115 (mh_i (mh_sr h 115 23 (some st)) 115 24 ||| (ev en A t1 none).2) lo1 hi1) 95) (mh_i (aS (mh_sr h 115 23 (some st)) 115 (mh_i (mh_sr h 115 23 (some st)) 115 24 ||| (ev en A t1 none).2) lo1 hi1) 97) (p + 1 + (1 + ts c1)) t2 := by
    obtain ⟨q1, q2, q3⟩ := rs_tr J1 (vF _) y0
    rw [q1, q2, q3]; exact M2.n
  have nd1 : nd (mh_i (aS (mh_sr h 115 23 (some st)) 115 (mh_i (mh_sr h 115 23 (some st)) 115 24 ||| (ev en A t1 none).2) lo1 hi1) 93) (mh_i (aS (mh_sr h 115 23 (some st)) 115 (mh_i (mh_sr h 115 23 (some st)) 115 24 ||| (ev en A t1 none).2) lo1 hi1) 95) (mh_i (aS (mh_sr h 115 23 (some st)) 115 (mh_i (mh_sr h 115 23 (some st)) 115 24 ||| (ev en A t1 none).2) lo1 hi1) 97) (p + 1) t1 := by
    obtain ⟨q1, q2, q3⟩ := rs_tr J1 (vF _) y0
    rw [q1, q2, q3]; exact M1.n
  have rq0 : rq s0 (v2 ho fa) h (aS (mh_sr h 115 23 (some st)) 115 (mh_i (mh_sr h 115 23 (some st)) 115 24 ||| (ev en A t1 none).2) lo1 hi1) := rq_t rq_23 (rq_rs J1 (v2_K s11 s21) (sk_rsF y0))
  generalize hX0 : aS (mh_sr h 115 23 (some st)) 115 (mh_i (mh_sr h 115 23 (some st)) 115 24 ||| (ev en A t1 none).2) lo1 hi1 = X0 at *
  -- how nothing goes on
  have fin : ∀ X, rq s0 (v2 ho fa) h X → RJ X T sN en → sp X ho → sp X fa → RK X ho (some A) → RK X fa (some A) → mh_i X 115 11 = mh_i h 115 11 → ∀ x6, ∃ Y, rq s0 (v2 ho fa) h Y ∧ RJ Y T sN en ∧ RK Y ho none ∧ RK Y fa none ∧ mh_i Y 115 24 = mh_i X 115 24 ∧ mh_i Y 115 11 = mh_i h 115 11 ∧ ∀ Q, mw (d' + 6) 252 Q 33 [some (.ref 115), some (.int (Int32.ofNat p)), some (.int (Int32.ofNat w)), some (.ref st), some (.ref ho), some (.ref fa), x6] [] X = Q none Y := fun X r JX q1 q2 z1 z2 i x6 => by
    obtain ⟨Y, y, JY, a, b, ii, e⟩ := rel_none (d := d' + 6) (st := st) (k := Int32.ofNat p) (w := Int32.ofNat w) (x6 := x6) JX q1 q2 n3 z1 z2
    exact ⟨Y, rq_t r (rq_rs JX (v2_K q1 q2) y), JY, a, b, ii 24, (ii 11).trans i, e⟩
  have k0' : kb false = 0 := rfl
  have k1' : kb true = 1 := rfl
  have gX0 := J2.a.g
  cases b1 with
  | false =>
    have en1 := eR_n er1 rfl
    have res : a_rel en A w t1 t2 = (none, none, (ev en A t1 none).2) := by unfold a_rel; rw [en1]
    rw [k0'] at ec1
    obtain ⟨Y, r, JY, a, b, al, ii, e⟩ := fin X0 rq0 J2 s12 s22 k12 k22 i11 (some (.int (Int32.ofNat (p + 1 + (1 + ts c1)))))
    rw [res]
    refine ⟨Y, r, JY, a, b, al.trans al2, ii, fun Q => ?_⟩
    rw [← e Q]
    clear fin J J1 J2 M1 M2 k1 k2 k3 k11 k21 k31 k12 k22 k32 P P2 a b JY r
    simp (disch := omega) only [s_252_0, s_252_1, s_252_2, s_252_2n, s_252_5, s_252_6, s_252_7, s_252_8, s_252_9, s_252_12, s_252_14, s_252_15, s_252_16, s_252_17, s_252_18, s_252_21, s_252_24, s_252_25, s_252_27, s_252_30, s_252_35, s_252_36, s_252_39, s_252_41, s_252_42, s_252_45, s_252_46, s_252_47, s_252_48, s_252_51, s_252_52, s_252_53, s_252_54, s_252_55, s_252_56, s_252_59, s_252_60, s_252_62, s_252_63, s_252_66, s_252_67, s_252_70, s_252_71, s_252_104, s_252_105, s_252_106, s_252_109, s_252_111, s_252_114, s_252_115, s_252_116, s_252_117, s_252_119, s_252_122, s_252_125, s_252_126, s_252_127, s_252_128, s_252_130, s_252_133, s_252_134, s_252_135, s_252_138, s_252_140, s_252_143, s_252_146, s_252_147, s_252_148, s_252_151, s_252_153, s_252_156, s_252_157, s_252_158, s_252_159, s_252_161, s_252_164, s_252_167, s_252_168, s_252_169, s_252_170, s_252_172, s_252_175, s_252_176, s_252_177, s_252_180, s_252_182, s_252_185, s_252_188, s_252_189, s_252_190, s_252_191, s_252_193, s_252_196, s_252_197, s_252_198, s_252_199, s_252_201, s_252_204, s_252_205, s_252_207, s_252_210, s_252_213, s_252_214, s_252_216, s_252_219, s_252_220, s_252_221, s_252_222, s_252_224, s_252_227, s_252_228, s_252_229, s_252_230, s_252_232, s_252_235, s_252_237, s_252_240, s_252_242, s_252_245, e_252, mv_i_1, mv_l_1, mv_a_1, mv_a_2, mv_a_3, mk2_n, mk2_i, mk2_l, mk2_a, mk2_u, mk2_x, mB_T, mB_F, mS_cons, mS_nil, mSB_T, mSB_F, mca_nil, mca_i, mca_l, mca_r, mca_u, mca_x, mcat_i, mcat_l, mcat_r, mcat_u, mcat_x, mK_some, mK_none, va_rf_s, va_rf_n, lgc_eq, lgc_lt, lgc_gt, lgc_ge, lgc_le, mrd_104, mrd_105, mrd_106, mrd_107, true_and, and_true, and_self, false_and, and_false, true_or, or_true, false_or, or_false, not_true_eq_false, not_false_eq_true, mgb, mga, mgr, mN, reduceCtorEq, ↓reduceIte, eq_self, ge_iff_le, gt_iff_lt, hk_si, hk_sj, hk_sr, hl_si, hl_sj, hl_sr, hn_si, hn_sj, hn_sr, hs_si, hs_sj, hs_sr, hi_sj, hi_sr, hj_si, hj_sr, hr_si, hr_sj, hi_si, hj_sj, hr_sr, mg_si, mg_sj, mg_sr, Nat.reduceAdd, Nat.reduceMul, Nat.reduceSub, Nat.reduceLT, Nat.reduceGT, Nat.reduceEqDiff, Nat.reduceLeDiff, Nat.left_eq_add, Nat.add_eq_left, Nat.reduceMod, Nat.reduceDiv, Nat.succ_ne_self, g, g1, ca, ec1, ei, e00]
  | true =>
    rw [k1'] at ec1
    obtain ⟨x1, y1, hv1, -, -⟩ := eR_s er1 rfl
    obtain ⟨b2, lo2, hi2, er2, ec2⟩ := u_233 (d := d' + 5) J2.a r232 k32 hT (t := t2) (p := p + 1 + (1 + ts c1)) (by omega) nd2 M2.b M2.w
    have yy : rs (fun _ _ => False) X0 (aS X0 115 (mh_i X0 115 24 ||| (ev en A t2 none).2) lo2 hi2) := rs_aS
    have J3 := RJ_0 J2 yy ⟨PQ, PS, PU, PF, PL, PH, lP, P2⟩
    have P3 : PR (aS X0 115 (mh_i X0 115 24 ||| (ev en A t2 none).2) lo2 hi2) PQ PS PU PF PL PH lP := P2
    have al3 : mh_i (aS X0 115 (mh_i X0 115 24 ||| (ev en A t2 none).2) lo2 hi2) 115 24 = mh_i h 115 24 ||| ((ev en A t1 none).2 ||| (ev en A t2 none).2) := by rw [aS_i, if_pos ⟨rfl, rfl⟩, al2, i32_ora]
    have i113 : mh_i (aS X0 115 (mh_i X0 115 24 ||| (ev en A t2 none).2) lo2 hi2) 115 11 = mh_i h 115 11 := by rw [aS_i, if_neg (by omega), i11]
    have r233 : mh_r (aS X0 115 (mh_i X0 115 24 ||| (ev en A t2 none).2) lo2 hi2) 115 23 = some st := r232
    have k13 := rs_K J2 yy s12 (fun _ _ _ w => w) k12
    have k23 := rs_K J2 yy s22 (fun _ _ _ w => w) k22
    have k33 := rs_K J2 yy s32 (fun _ _ _ w => w) k32
    have s13 := (rs_s J2 (vF _) yy (o := ho)).mpr s12
    have s23 := (rs_s J2 (vF _) yy (o := fa)).mpr s22
    have s33 := (rs_s J2 (vF _) yy (o := st)).mpr s32
    have rq1 : rq s0 (v2 ho fa) h (aS X0 115 (mh_i X0 115 24 ||| (ev en A t2 none).2) lo2 hi2) := rq_t rq0 (rq_rs J2 (v2_K s12 s22) (sk_rsF yy))
    obtain ⟨q1, q2, q3⟩ := rs_tr J2 (vF _) yy
    generalize hX1 : aS X0 115 (mh_i X0 115 24 ||| (ev en A t2 none).2) lo2 hi2 = X1 at *
    have gX1 := J3.a.g
    cases b2 with
    | false =>
      have en2 := eR_n er2 rfl
      have res : a_rel en A w t1 t2 = (none, none, (ev en A t1 none).2 ||| (ev en A t2 none).2) := by unfold a_rel; rw [hv1, en2]
      rw [k0'] at ec2
      obtain ⟨Y, r, JY, a, b, al, ii, e⟩ := fin X1 rq1 J3 s13 s23 k13 k23 i113 (some (.int (Int32.ofNat (p + 1 + (1 + ts c1)))))
      rw [res]
      refine ⟨Y, r, JY, a, b, al.trans al3, ii, fun Q => ?_⟩
      rw [← e Q]
      clear fin J J1 J2 J3 M1 M2 k1 k2 k3 k11 k21 k31 k12 k22 k32 k13 k23 k33 P P2 P3 a b JY r
      simp (disch := omega) only [s_252_0, s_252_1, s_252_2, s_252_2n, s_252_5, s_252_6, s_252_7, s_252_8, s_252_9, s_252_12, s_252_14, s_252_15, s_252_16, s_252_17, s_252_18, s_252_21, s_252_24, s_252_25, s_252_27, s_252_30, s_252_35, s_252_36, s_252_39, s_252_41, s_252_42, s_252_45, s_252_46, s_252_47, s_252_48, s_252_51, s_252_52, s_252_53, s_252_54, s_252_55, s_252_56, s_252_59, s_252_60, s_252_62, s_252_63, s_252_66, s_252_67, s_252_70, s_252_71, s_252_104, s_252_105, s_252_106, s_252_109, s_252_111, s_252_114, s_252_115, s_252_116, s_252_117, s_252_119, s_252_122, s_252_125, s_252_126, s_252_127, s_252_128, s_252_130, s_252_133, s_252_134, s_252_135, s_252_138, s_252_140, s_252_143, s_252_146, s_252_147, s_252_148, s_252_151, s_252_153, s_252_156, s_252_157, s_252_158, s_252_159, s_252_161, s_252_164, s_252_167, s_252_168, s_252_169, s_252_170, s_252_172, s_252_175, s_252_176, s_252_177, s_252_180, s_252_182, s_252_185, s_252_188, s_252_189, s_252_190, s_252_191, s_252_193, s_252_196, s_252_197, s_252_198, s_252_199, s_252_201, s_252_204, s_252_205, s_252_207, s_252_210, s_252_213, s_252_214, s_252_216, s_252_219, s_252_220, s_252_221, s_252_222, s_252_224, s_252_227, s_252_228, s_252_229, s_252_230, s_252_232, s_252_235, s_252_237, s_252_240, s_252_242, s_252_245, e_252, mv_i_1, mv_l_1, mv_a_1, mv_a_2, mv_a_3, mk2_n, mk2_i, mk2_l, mk2_a, mk2_u, mk2_x, mB_T, mB_F, mS_cons, mS_nil, mSB_T, mSB_F, mca_nil, mca_i, mca_l, mca_r, mca_u, mca_x, mcat_i, mcat_l, mcat_r, mcat_u, mcat_x, mK_some, mK_none, va_rf_s, va_rf_n, lgc_eq, lgc_lt, lgc_gt, lgc_ge, lgc_le, mrd_104, mrd_105, mrd_106, mrd_107, true_and, and_true, and_self, false_and, and_false, true_or, or_true, false_or, or_false, not_true_eq_false, not_false_eq_true, mgb, mga, mgr, mN, reduceCtorEq, ↓reduceIte, eq_self, ge_iff_le, gt_iff_lt, hk_si, hk_sj, hk_sr, hl_si, hl_sj, hl_sr, hn_si, hn_sj, hn_sr, hs_si, hs_sj, hs_sr, hi_sj, hi_sr, hj_si, hj_sr, hr_si, hr_sj, hi_si, hj_sj, hr_sr, mg_si, mg_sj, mg_sr, Nat.reduceAdd, Nat.reduceMul, Nat.reduceSub, Nat.reduceLT, Nat.reduceGT, Nat.reduceEqDiff, Nat.reduceLeDiff, Nat.left_eq_add, Nat.add_eq_left, Nat.reduceMod, Nat.reduceDiv, Nat.succ_ne_self, g, g1, gX0, ca, ec1, ec2, ei, e00, e10]
    | true =>
      rw [k1'] at ec2
      obtain ⟨x2, y2, hv2, -, -⟩ := eR_s er2 rfl
      have res : a_rel en A w t1 t2 = (o_cl (r_h A (pt en A t1 false false ++ pt en A t2 false true) w), o_cl (r_h A (pt en A t1 false false ++ pt en A t2 false true) (r_op w)), (ev en A t1 none).2 ||| (ev en A t2 none).2) := by unfold a_rel; rw [hv1, hv2]
      rw [res]
      dsimp only
      -- the parts of both
      have y4 : rs (fun _ _ => False) X1 (mh_si X1 115 33 0) := rs_si (by omega) (by omega)
      have J4 := RJ_0 J3 y4 ⟨PQ, PS, PU, PF, PL, PH, lP, P3⟩
      have P4 : PR (mh_si X1 115 33 0) PQ PS PU PF PL PH lP := P3
      obtain ⟨z1, z2, z3⟩ := rs_tr J3 (vF _) y4
      have nd14 : nd (mh_i (mh_si X1 115 33 0) 93) (mh_i (mh_si X1 115 33 0) 95) (mh_i (mh_si X1 115 33 0) 97) (p + 1) t1 := by rw [z1, z2, z3, q1, q2, q3]; exact nd1
      have nd24 : nd (mh_i (mh_si X1 115 33 0) 93) (mh_i (mh_si X1 115 33 0) 95) (mh_i (mh_si X1 115 33 0) 97) (p + 1 + (1 + ts c1)) t2 := by rw [z1, z2, z3, q1, q2, q3]; exact nd2
      have pm1 := M1.m
      have pm2 := M2.m
      have len1 := (pg_len t1).1 false (p + 1) false
      have len2 := (pg_len t2).1 false (p + 1 + (1 + ts c1)) true
      obtain ⟨X5, PQ1, PS1, PU1, PF1, PL1, PH1, lP1, w5, e5⟩ := u_243 (T := T) (sN := sN) (en := en) (A := A) t1 (d' + 5) (p + 1) 0 false (mh_si X1 115 33 0) PQ PS PU PF PL PH lP J4.a P4 (by rw [hi_si, if_pos ⟨rfl, rfl⟩]; rfl) (Nat.zero_le _) (by omega) nd14 M1.b M1.w (by omega)
      have a5 := AE_pW J4.a P4 w5.f.1
      obtain ⟨u1, u2, u3⟩ := nd_pW J4.a.F P4 w5.f.1
      obtain ⟨X6, PQ2, PS2, PU2, PF2, PL2, PH2, lP2, w6, e6⟩ := u_243 (T := T) (sN := sN) (en := en) (A := A) t2 (d' + 5) (p + 1 + (1 + ts c1)) (0 + (pg t1 false (p + 1) false).length) true X5 PQ1 PS1 PU1 PF1 PL1 PH1 lP1 a5 w5.P w5.c w5.b (by omega) (by rw [u1, u2, u3]; exact nd24) M2.b M2.w (by omega)
      have w56 := PP_t w5 w6
      have so1 : (ev en A t1 none).1 ≠ none := by rw [hv1]; exact Option.some_ne_none _
      have so2 : (ev en A t2 none).1 ≠ none := by rw [hv2]; exact Option.some_ne_none _
      have hl : ∀ e ∈ pg t1 false (p + 1) false ++ pg t2 false (p + 1 + (1 + ts c1)) true, pgP (mh_i (mh_si X1 115 33 0) 93) (mh_i (mh_si X1 115 33 0) 95) (mh_i (mh_si X1 115 33 0) 97) sN en A 0 26000 (th t1) e ∧ (ev en A e.2.2 none).1 ≠ none := fun e he => by
        rcases List.mem_append.mp he with he | he
        · obtain ⟨a1, a2, a3, a4, a5⟩ := (pg_all (A := A) (en := en) (sN := sN) t1).1 (p + 1) false (th t1) M1.w nd14 (Nat.le_refl _) e he
          exact ⟨⟨a1, Nat.zero_le _, by omega, a4, a5⟩, (pg_some (A := A) (en := en) (sN := sN) t1).1 (p + 1) false M1.w so1 e he⟩
        · obtain ⟨a1, a2, a3, a4, a5⟩ := (pg_all (A := A) (en := en) (sN := sN) t2).1 (p + 1 + (1 + ts c1)) true (th t1) M2.w nd24 th2 e he
          exact ⟨⟨a1, Nat.zero_le _, by omega, a4, a5⟩, (pg_some (A := A) (en := en) (sN := sN) t2).1 (p + 1 + (1 + ts c1)) true M2.w so2 e he⟩
      have s14 := (rs_s J3 (vF _) y4 (o := ho)).mpr s13
      have s24 := (rs_s J3 (vF _) y4 (o := fa)).mpr s23
      have s34 := (rs_s J3 (vF _) y4 (o := st)).mpr s33
      have k14 := rs_K J3 y4 s13 (fun _ _ _ w => w) k13
      have k24 := rs_K J3 y4 s23 (fun _ _ _ w => w) k23
      have k34 := rs_K J3 y4 s33 (fun _ _ _ w => w) k33
      obtain ⟨X7, y7, J7, R7, al7, e7⟩ := wr_of (d := d' + 5) (H := th t1) J4 P4 w56 r233 s34 k34 hT hl (by rw [List.length_append]; omega) (by omega)
      have s17 := (rs_s J4 (vF _) y7 (o := ho)).mpr s14
      have s27 := (rs_s J4 (vF _) y7 (o := fa)).mpr s24
      have s37 := (rs_s J4 (vF _) y7 (o := st)).mpr s34
      have k17 := rs_K J4 y7 s14 (fun _ _ _ w => w) k14
      have k27 := rs_K J4 y7 s24 (fun _ _ _ w => w) k24
      have ptq : (pg t1 false (p + 1) false ++ pg t2 false (p + 1 + (1 + ts c1)) true).map (pgE en A) = pt en A t1 false false ++ pt en A t2 false true := by
        rw [List.map_append, ← (pg_pt (A := A) (en := en) (sN := sN) t1).1 (p + 1) false M1.w, ← (pg_pt (A := A) (en := en) (sN := sN) t2).1 (p + 1 + (1 + ts c1)) true M2.w]
      have rq7 : rq s0 (v2 ho fa) h X7 := rq_t rq1 (rq_t (rq_rs J3 (v2_K s13 s23) (sk_rsF y4)) (rq_rs J4 (v2_K s14 s24) (sk_rsF y7)))
      have i117 : mh_i X7 115 11 = mh_i h 115 11 := by rw [(rs_lo J4 (vF _) y7 J4.a.g (by omega) (j := 11) (by omega)).1, hi_si, if_neg (by omega), i113]
      have al7' : mh_i X7 115 24 = mh_i h 115 24 ||| ((ev en A t1 none).2 ||| (ev en A t2 none).2) := by rw [al7, hi_si, if_neg (by omega), al3]
      obtain ⟨Y, Z, fY, JY, kY, fZ, JZ, kZ1, kZ2, eZ⟩ := rel_ops (d := d') (k := Int32.ofNat p) (x6 := some (.int (Int32.ofNat (p + 1 + (1 + ts c1))))) J7 R7 s17 s27 s37 n1 n2 n3 k17 k27 hw
      rw [ptq] at kY kZ1 kZ2
      have O := R7.o
      rw [ptq] at O
      obtain ⟨Z1, f1, kk1, ee1⟩ := u_286 (d := d' + 4) hT (r_ok O w) kZ1
      have yY := tW_rs J7 s17 fY
      have sY1 := (rs_s J7 (vK_1 s17) yY (o := ho)).mpr s17
      have sY2 := (rs_s J7 (vK_1 s17) yY (o := fa)).mpr s27
      have yZ := tW_rs JY sY2 fZ
      have sZ1 := (rs_s JY (vK_1 sY2) yZ (o := ho)).mpr sY1
      have sZ2 := (rs_s JY (vK_1 sY2) yZ (o := fa)).mpr sY2
      have yZ1 := rs_k f1
      obtain ⟨PQ3, PS3, PU3, PF3, PL3, PH3, lP3, PZ⟩ := JZ.p
      have PZ1 := PR_k JZ sZ1 yZ1 (fun j _ _ => by rw [f1.2.2.1]) PZ
      have JZ1 := RJ_1 JZ sZ1 yZ1 ⟨_, _, _, _, _, _, _, PZ1⟩ (RK_ko kk1)
      have sZ12 := (rs_s JZ (vK_1 sZ1) yZ1 (o := fa)).mpr sZ2
      have sZ11 := (rs_s JZ (vK_1 sZ1) yZ1 (o := ho)).mpr sZ1
      have kZ21 := rs_K JZ yZ1 sZ2 (fun y' hy _ w => kc_no JZ sZ2 sZ1 (fun z => n3 z.symm) y' hy w) kZ2
      obtain ⟨Z2, f2, kk2, ee2⟩ := u_286 (d := d' + 4) hT (r_ok O (r_op w)) kZ21
      have yZ2 := rs_k f2
      have PZ2 := PR_k JZ1 sZ12 yZ2 (fun j _ _ => by rw [f2.2.2.1]) PZ1
      have JZ2 := RJ_1 JZ1 sZ12 yZ2 ⟨_, _, _, _, _, _, _, PZ2⟩ (RK_ko kk2)
      have kk12 := rs_K JZ1 yZ2 sZ11 (fun y' hy _ w => kc_no JZ1 sZ11 sZ12 n3 y' hy w) kk1
      have tn : ∀ to, 2644 ≤ to → ∀ j, (j = 24 ∨ j = 11) → ¬ tW to 115 j := fun to ht j hj w => by
        unfold tW kc at w
        omega
      have kn : ∀ to, 2644 ≤ to → ¬ kW to 115 := fun to ht w => by
        unfold kW at w
        omega
      have keep : ∀ j, (j = 24 ∨ j = 11) → mh_i Z2 115 j = mh_i X7 115 j := fun j hj => by
        rw [(f2.2.2.2.2.2 115 (kn fa l2)).1, (f1.2.2.2.2.2 115 (kn ho l1)).1, fz_i fZ.1 JY.a.g (tn fa l2 j hj), fz_i fY.1 J7.a.g (tn ho l1 j hj)]
      refine ⟨Z2, rq_t rq7 (rq_t (rq_rs J7 (v2_K s17 s27) (rs_1 yY)) (rq_t (rq_rs JY (v2_K sY1 sY2) (rs_2 yZ)) (rq_t (rq_rs JZ (v2_K sZ1 sZ2) (rs_1 yZ1)) (rq_rs JZ1 (v2_K sZ11 sZ12) (rs_2 yZ2))))), JZ2, kk12, kk2, (keep 24 (Or.inl rfl)).trans al7', (keep 11 (Or.inr rfl)).trans i117, fun Q => ?_⟩
      have gt1 : mg Z ho 13 := (RK_ko kZ1).1
      have gt2 : mg Z1 fa 13 := (RK_ko kZ21).1
      have E2 : mw (d' + 6) 252 Q 235 [some (.ref 115), some (.int (Int32.ofNat p)), some (.int (Int32.ofNat w)), some (.ref st), some (.ref ho), some (.ref fa), some (.int (Int32.ofNat (p + 1 + (1 + ts c1))))] [] Z = Q none Z2 := by
        clear fin J J1 J2 J3 J4 J7 JY JZ JZ1 JZ2 M1 M2 k1 k2 k3 k11 k21 k31 k12 k22 k32 k13 k23 k33 k14 k24 k34 k17 k27 P P2 P3 P4 PZ PZ1 PZ2 R7 O hl w5 w6 w56
        simp (disch := omega) only [s_252_0, s_252_1, s_252_2, s_252_2n, s_252_5, s_252_6, s_252_7, s_252_8, s_252_9, s_252_12, s_252_14, s_252_15, s_252_16, s_252_17, s_252_18, s_252_21, s_252_24, s_252_25, s_252_27, s_252_30, s_252_33, s_252_35, s_252_36, s_252_39, s_252_41, s_252_42, s_252_45, s_252_46, s_252_47, s_252_48, s_252_51, s_252_52, s_252_53, s_252_54, s_252_55, s_252_56, s_252_59, s_252_60, s_252_62, s_252_63, s_252_66, s_252_67, s_252_70, s_252_71, s_252_104, s_252_105, s_252_106, s_252_109, s_252_111, s_252_114, s_252_115, s_252_116, s_252_117, s_252_119, s_252_122, s_252_125, s_252_126, s_252_127, s_252_128, s_252_130, s_252_133, s_252_134, s_252_135, s_252_138, s_252_140, s_252_143, s_252_146, s_252_147, s_252_148, s_252_151, s_252_153, s_252_156, s_252_157, s_252_158, s_252_159, s_252_161, s_252_164, s_252_167, s_252_168, s_252_169, s_252_170, s_252_172, s_252_175, s_252_176, s_252_177, s_252_180, s_252_182, s_252_185, s_252_188, s_252_189, s_252_190, s_252_191, s_252_193, s_252_196, s_252_197, s_252_198, s_252_199, s_252_201, s_252_204, s_252_205, s_252_207, s_252_210, s_252_213, s_252_214, s_252_216, s_252_219, s_252_220, s_252_221, s_252_222, s_252_224, s_252_227, s_252_228, s_252_229, s_252_230, s_252_232, s_252_235, s_252_237, s_252_240, s_252_242, s_252_245, e_252, mv_i_1, mv_l_1, mv_a_1, mv_a_2, mv_a_3, mk2_n, mk2_i, mk2_l, mk2_a, mk2_u, mk2_x, mB_T, mB_F, mS_cons, mS_nil, mSB_T, mSB_F, mca_nil, mca_i, mca_l, mca_r, mca_u, mca_x, mcat_i, mcat_l, mcat_r, mcat_u, mcat_x, mK_some, mK_none, va_rf_s, va_rf_n, lgc_eq, lgc_lt, lgc_gt, lgc_ge, lgc_le, mrd_104, mrd_105, mrd_106, mrd_107, true_and, and_true, and_self, false_and, and_false, true_or, or_true, false_or, or_false, not_true_eq_false, not_false_eq_true, mgb, mga, mgr, mN, reduceCtorEq, ↓reduceIte, eq_self, ge_iff_le, gt_iff_lt, Nat.reduceAdd, Nat.reduceMul, Nat.reduceSub, Nat.reduceLT, Nat.reduceGT, Nat.reduceEqDiff, Nat.reduceLeDiff, Nat.left_eq_add, Nat.add_eq_left, Nat.reduceMod, Nat.reduceDiv, Nat.succ_ne_self, gt1, gt2, ee1, ee2]
      rw [← E2, ← eZ Q]
      have gX4 := J4.a.g
      have gX5 := a5.g
      have gX6 : mg X6 115 12 := fz_mg w56.f.1 J4.a.g
      have sg0 : sgn false = 1 := rfl
      have sg1 : sgn true = -1 := rfl
      rw [sg0] at e5
      rw [sg1] at e6
      clear fin J J1 J2 J3 J4 J7 JY JZ JZ1 JZ2 M1 M2 k1 k2 k3 k11 k21 k31 k12 k22 k32 k13 k23 k33 k14 k24 k34 k17 k27 P P2 P3 P4 PZ PZ1 PZ2 R7 O hl w5 w6 w56
      simp (disch := omega) only [s_252_0, s_252_1, s_252_2, s_252_2n, s_252_5, s_252_6, s_252_7, s_252_8, s_252_9, s_252_12, s_252_14, s_252_15, s_252_16, s_252_17, s_252_18, s_252_21, s_252_24, s_252_25, s_252_27, s_252_30, s_252_33, s_252_35, s_252_36, s_252_39, s_252_41, s_252_42, s_252_45, s_252_46, s_252_47, s_252_48, s_252_51, s_252_52, s_252_53, s_252_54, s_252_55, s_252_56, s_252_59, s_252_60, s_252_62, s_252_63, s_252_66, s_252_67, s_252_71, s_252_104, s_252_105, s_252_106, s_252_109, s_252_111, s_252_114, s_252_115, s_252_116, s_252_117, s_252_119, s_252_122, s_252_125, s_252_126, s_252_127, s_252_128, s_252_130, s_252_133, s_252_134, s_252_135, s_252_138, s_252_140, s_252_143, s_252_146, s_252_147, s_252_148, s_252_151, s_252_153, s_252_156, s_252_157, s_252_158, s_252_159, s_252_161, s_252_164, s_252_167, s_252_168, s_252_169, s_252_170, s_252_172, s_252_175, s_252_176, s_252_177, s_252_180, s_252_182, s_252_185, s_252_188, s_252_189, s_252_190, s_252_191, s_252_193, s_252_196, s_252_197, s_252_198, s_252_199, s_252_201, s_252_204, s_252_205, s_252_207, s_252_210, s_252_213, s_252_214, s_252_216, s_252_219, s_252_220, s_252_221, s_252_222, s_252_224, s_252_227, s_252_228, s_252_229, s_252_230, s_252_232, s_252_235, s_252_237, s_252_240, s_252_242, s_252_245, e_252, mv_i_1, mv_l_1, mv_a_1, mv_a_2, mv_a_3, mk2_n, mk2_i, mk2_l, mk2_a, mk2_u, mk2_x, mB_T, mB_F, mS_cons, mS_nil, mSB_T, mSB_F, mca_nil, mca_i, mca_l, mca_r, mca_u, mca_x, mcat_i, mcat_l, mcat_r, mcat_u, mcat_x, mK_some, mK_none, va_rf_s, va_rf_n, lgc_eq, lgc_lt, lgc_gt, lgc_ge, lgc_le, mrd_104, mrd_105, mrd_106, mrd_107, true_and, and_true, and_self, false_and, and_false, true_or, or_true, false_or, or_false, not_true_eq_false, not_false_eq_true, mgb, mga, mgr, mN, reduceCtorEq, ↓reduceIte, eq_self, ge_iff_le, gt_iff_lt, hk_si, hk_sj, hk_sr, hl_si, hl_sj, hl_sr, hn_si, hn_sj, hn_sr, hs_si, hs_sj, hs_sr, hi_sj, hi_sr, hj_si, hj_sr, hr_si, hr_sj, hi_si, hj_sj, hr_sr, mg_si, mg_sj, mg_sr, Nat.reduceAdd, Nat.reduceMul, Nat.reduceSub, Nat.reduceLT, Nat.reduceGT, Nat.reduceEqDiff, Nat.reduceLeDiff, Nat.left_eq_add, Nat.add_eq_left, Nat.reduceMod, Nat.reduceDiv, Nat.succ_ne_self, g, g1, gX0, gX1, gX4, gX5, gX6, ca, ec1, ec2, e5, e6, e7, ei, e00, e10]
end RLw
