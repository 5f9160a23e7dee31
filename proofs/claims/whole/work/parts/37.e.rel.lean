set_option maxRecDepth 100000
/-! Analysis.relation -/
section RLa
variable {d : Nat} {h X Y : mh_H} {T N H ho fa : Nat} {sN : Int → Prop} {en : Int → Nat} {A : ab} {PQ PS PU PF PL PH lP : Nat} {l : List (Nat × Bool × tr)}
theorem RJ_23 {v : Option Nat} (J : RJ h T sN en) : RJ (mh_sr h 115 23 v) T sN en := by
  have x : fz (fun b j => b = 115 ∧ j = 23) h (mh_sr h 115 23 v) := fz_sr ⟨rfl, rfl⟩
  have F' : RF (mh_sr h 115 23 v) := RF_fz x J.a.F (fun j w => by omega) (fun j hj w => by simp at hj; omega) (fun p hp => ⟨fun j _ => ⟨fun w => by omega, fun w => by omega⟩, fun w => by omega, fun w => by omega⟩) (fun j _ w => by omega)
  obtain ⟨PQ, PS, PU, PF, PL, PH, lP, P⟩ := J.p
  have e119 : ∀ i, mh_r (mh_sr h 115 23 v) 119 i = mh_r h 119 i := fun i => by rw [hr_sr, if_neg (by omega)]
  refine ⟨AE_fz x J.a F' (by omega) (by omega) (by omega) (by omega) (fun j => ⟨by omega, by omega⟩), ⟨PQ, PS, PU, PF, PL, PH, lP, PR_same P x (fun j _ _ => by rw [hr_sr, if_neg (by omega)]) (fun i a e => Or.inl (by rw [← e119]; exact e))⟩, fun i a e => ?_, fun i j a e1 e2 => J.i i j a (by rw [← e119]; exact e1) (by rw [← e119]; exact e2)⟩
  rw [e119] at e
  obtain ⟨b1, b2⟩ := J.s i a e
  exact ⟨b1, ko_fz x (fun j w => by omega) b2⟩
theorem RK_23 {v : Option Nat} {o : Nat} {C : Option ab} (ho : 2644 ≤ o) (k : RK h o C) : RK (mh_sr h 115 23 v) o C := RK_fz (W := fun b j => b = 115 ∧ j = 23) (fz_sr ⟨rfl, rfl⟩) (fun y _ j w => by omega) k
theorem sp_lo (J : RJ h T sN en) {o : Nat} (s : sp h o) : 2644 ≤ o := by
  obtain ⟨i, hi⟩ := s
  exact (J.s i o hi).1
theorem rq_23 {s0 : Nat} {V : Nat → Nat → Prop} {v : Option Nat} : rq s0 V h (mh_sr h 115 23 v) := ⟨fR_sr (Or.inl ⟨rfl, Or.inr ⟨by omega, by omega⟩⟩) (by omega) (by omega), fun x hx => by
  obtain ⟨j, j1, j2, j3⟩ := hx
  rw [hr_sr, if_neg (by omega)] at j3
  exact Or.inl ⟨j, j1, j2, j3⟩, fun i a e => by rw [hr_sr, if_neg (by omega)]; exact e, fun i a e => Or.inl (by rw [hr_sr, if_neg (by omega)] at e; exact e)⟩
/-- what the two sides come to, before they are settled -/
theorem rel_ops (J : RJ X T sN en) (R : WR X T sN en N A l H PQ PS PU PF PL PH lP) (s1 : sp X ho) (s2 : sp X fa) (sN' : sp X N) (n1 : N ≠ ho) (n2 : N ≠ fa) (n3 : ho ≠ fa) (k1 : RK X ho (some A)) (k2 : RK X fa (some A)) {w : Nat} (hw : w ≤ 5) {k : Int32} {x6 : Option Value} : ∃ Y Z, fR (tW ho) X Y ∧ RJ Y T sN en ∧ RK Y ho (r_h A (l.map (pgE en A)) w) ∧ fR (tW fa) Y Z ∧ RJ Z T sN en ∧ RK Z ho (r_h A (l.map (pgE en A)) w) ∧ RK Z fa (r_h A (l.map (pgE en A)) (r_op w)) ∧ ∀ Q, mw (d + 6) 252 Q 70 [some (.ref 115), some (.int k), some (.int (Int32.ofNat w)), some (.ref N), some (.ref ho), some (.ref fa), x6] [] X = mw (d + 6) 252 Q 235 [some (.ref 115), some (.int k), some (.int (Int32.ofNat w)), some (.ref N), some (.ref ho), some (.ref fa), x6] [] Z := by
  have O := R.o
  have id : ∀ M, some A = some M → lsA A M := fun M e => by cases e; exact lsA_id O.T
  have ok : ∀ C, (∀ M, C = some M → lsA A M) → ∀ M, C = some M → oc_C M.n M.m ∧ A.n ≤ M.n ∧ M.n ≤ 12 := fun C hC M e => by
    have q := hC M e
    have := O.T.n12
    exact ⟨q.C, Nat.le_of_eq q.n.symm, by rw [q.n]; exact this⟩
  have g := J.a.g
  have m1 : (-1 : Int64).toInt = -1 := by decide
  have m0 : (0 : Int64).toInt = 0 := by decide
  have kt : kb true = 1 := rfl
  have kf : kb false = 0 := rfl
  have step : ∀ {X to oth : _} (C : Option ab), RJ X T sN en → WR X T sN en N A l H PQ PS PU PF PL PH lP → sp X to → sp X oth → sp X N → N ≠ to → oth ≠ to → RK X oth C → ∀ Y, fR (tW to) X Y → (∃ C', RK Y to C') → RJ Y T sN en ∧ WR Y T sN en N A l H PQ PS PU PF PL PH lP ∧ sp Y to ∧ sp Y oth ∧ sp Y N ∧ RK Y oth C := fun C J R s s' sN' n1 n2 k Y f kk => by
    obtain ⟨C', kk⟩ := kk
    obtain ⟨J', -⟩ := RJ_tW J s f (RK_ko kk) R.P
    have y := tW_rs J s f
    exact ⟨J', WR_tW J s sN' n1 f (RK_ko kk) R, (rs_s J (vK_1 s) y).mpr s, (rs_s J (vK_1 s) y).mpr s', (rs_s J (vK_1 s) y).mpr sN', rs_K J y s' (fun y' hy _ w => kc_no J s' s n2 y' hy w) k⟩
  have cases' : w = 0 ∨ w = 1 ∨ w = 2 ∨ w = 3 ∨ w = 4 ∨ w = 5 := by omega
  rcases cases' with e | e | e | e | e | e
  · subst e
    have rw1 : r_h A (l.map (pgE en A)) 0 = a_meet A (l.map (pgE en A)) false (-1) (some A) := by unfold r_h; simp
    have rw2 : r_h A (l.map (pgE en A)) (r_op 0) = a_meet A (l.map (pgE en A)) true 0 (some A) := by unfold r_h r_op; simp
    rw [rw1, rw2]
    obtain ⟨Y1, f1, kk1, e1⟩ := u_248 (d := d + 1) (mi := false) (c := (-1)) J R s1 sN' n1 (Or.inr rfl) k1 (ok _ (id))
    rw [m1] at kk1
    rw [kf] at e1
    obtain ⟨J1, R1, p1, q1, r1, ko1⟩ := step _ J R s1 s2 sN' n1 (fun z => n3 z.symm) k2 Y1 f1 ⟨_, kk1⟩
    have g1 := J1.a.g
    obtain ⟨Y2, f2, kk2, e2⟩ := u_248 (d := d + 1) (mi := true) (c := 0) J1 R1 q1 r1 n2 (Or.inl rfl) ko1 (ok _ (id))
    rw [m0] at kk2
    rw [kt] at e2
    obtain ⟨J2, R2, p2, q2, r2, ko2⟩ := step _ J1 R1 q1 p1 r1 n2 n3 kk1 Y2 f2 ⟨_, kk2⟩
    have g2 := J2.a.g
    refine ⟨Y1, Y2, f1, J1, kk1, f2, J2, ko2, kk2, fun Q => ?_⟩
    clear J R O id ok step k1 k2 J1 R1 kk1 ko1 J2 R2 kk2 ko2
    have w0 : Int32.ofNat 0 = 0 := rfl
    rw [w0]
    simp (disch := omega) only [s_252_0, s_252_1, s_252_2, s_252_2n, s_252_5, s_252_6, s_252_7, s_252_8, s_252_9, s_252_12, s_252_14, s_252_15, s_252_16, s_252_17, s_252_18, s_252_21, s_252_24, s_252_25, s_252_27, s_252_30, s_252_33, s_252_35, s_252_36, s_252_39, s_252_41, s_252_42, s_252_45, s_252_46, s_252_47, s_252_48, s_252_51, s_252_52, s_252_53, s_252_54, s_252_55, s_252_56, s_252_59, s_252_60, s_252_62, s_252_63, s_252_66, s_252_67, s_252_70, s_252_71, s_252_104, s_252_105, s_252_106, s_252_109, s_252_111, s_252_114, s_252_115, s_252_116, s_252_117, s_252_119, s_252_122, s_252_125, s_252_126, s_252_127, s_252_128, s_252_130, s_252_133, s_252_134, s_252_135, s_252_138, s_252_140, s_252_143, s_252_146, s_252_147, s_252_148, s_252_151, s_252_153, s_252_156, s_252_157, s_252_158, s_252_159, s_252_161, s_252_164, s_252_167, s_252_168, s_252_169, s_252_170, s_252_172, s_252_175, s_252_176, s_252_177, s_252_180, s_252_182, s_252_185, s_252_188, s_252_189, s_252_190, s_252_191, s_252_193, s_252_196, s_252_197, s_252_198, s_252_199, s_252_201, s_252_204, s_252_205, s_252_207, s_252_210, s_252_213, s_252_214, s_252_216, s_252_219, s_252_220, s_252_221, s_252_222, s_252_224, s_252_227, s_252_228, s_252_229, s_252_230, s_252_232, s_252_237, s_252_240, s_252_242, s_252_245, e_252, mv_i_1, mv_l_1, mv_a_1, mv_a_2, mv_a_3, mk2_n, mk2_i, mk2_l, mk2_a, mk2_u, mk2_x, mB_T, mB_F, mS_cons, mS_nil, mSB_T, mSB_F, mca_nil, mca_i, mca_l, mca_r, mca_u, mca_x, mcat_i, mcat_l, mcat_r, mcat_u, mcat_x, mK_some, mK_none, va_rf_s, va_rf_n, lgc_eq, lgc_lt, lgc_gt, lgc_ge, lgc_le, mrd_104, mrd_105, mrd_106, mrd_107, true_and, and_true, and_self, false_and, and_false, true_or, or_true, false_or, or_false, not_true_eq_false, not_false_eq_true, mgb, mga, mgr, mN, reduceCtorEq, ↓reduceIte, eq_self, ge_iff_le, gt_iff_lt, Nat.reduceAdd, Nat.reduceMul, Nat.reduceSub, Nat.reduceLT, Nat.reduceGT, Nat.reduceEqDiff, Nat.reduceLeDiff, Nat.left_eq_add, Nat.add_eq_left, Nat.reduceMod, Nat.reduceDiv, Nat.succ_ne_self, g, g1, g2, e1, e2]
  · subst e
    have rw1 : r_h A (l.map (pgE en A)) 1 = a_meet A (l.map (pgE en A)) false 0 (some A) := by unfold r_h; simp
    have rw2 : r_h A (l.map (pgE en A)) (r_op 1) = a_meet A (l.map (pgE en A)) true (-1) (some A) := by unfold r_h r_op; simp
    rw [rw1, rw2]
    obtain ⟨Y1, f1, kk1, e1⟩ := u_248 (d := d + 1) (mi := false) (c := 0) J R s1 sN' n1 (Or.inl rfl) k1 (ok _ (id))
    rw [m0] at kk1
    rw [kf] at e1
    obtain ⟨J1, R1, p1, q1, r1, ko1⟩ := step _ J R s1 s2 sN' n1 (fun z => n3 z.symm) k2 Y1 f1 ⟨_, kk1⟩
    have g1 := J1.a.g
    obtain ⟨Y2, f2, kk2, e2⟩ := u_248 (d := d + 1) (mi := true) (c := (-1)) J1 R1 q1 r1 n2 (Or.inr rfl) ko1 (ok _ (id))
    rw [m1] at kk2
    rw [kt] at e2
    obtain ⟨J2, R2, p2, q2, r2, ko2⟩ := step _ J1 R1 q1 p1 r1 n2 n3 kk1 Y2 f2 ⟨_, kk2⟩
    have g2 := J2.a.g
    refine ⟨Y1, Y2, f1, J1, kk1, f2, J2, ko2, kk2, fun Q => ?_⟩
    clear J R O id ok step k1 k2 J1 R1 kk1 ko1 J2 R2 kk2 ko2
    have w0 : Int32.ofNat 1 = 1 := rfl
    rw [w0]
    simp (disch := omega) only [s_252_0, s_252_1, s_252_2, s_252_2n, s_252_5, s_252_6, s_252_7, s_252_8, s_252_9, s_252_12, s_252_14, s_252_15, s_252_16, s_252_17, s_252_18, s_252_21, s_252_24, s_252_25, s_252_27, s_252_30, s_252_33, s_252_35, s_252_36, s_252_39, s_252_41, s_252_42, s_252_45, s_252_46, s_252_47, s_252_48, s_252_51, s_252_52, s_252_53, s_252_54, s_252_55, s_252_56, s_252_59, s_252_60, s_252_62, s_252_63, s_252_66, s_252_67, s_252_70, s_252_71, s_252_104, s_252_105, s_252_106, s_252_109, s_252_111, s_252_114, s_252_115, s_252_116, s_252_117, s_252_119, s_252_122, s_252_125, s_252_126, s_252_127, s_252_128, s_252_130, s_252_133, s_252_134, s_252_135, s_252_138, s_252_140, s_252_143, s_252_146, s_252_147, s_252_148, s_252_151, s_252_153, s_252_156, s_252_157, s_252_158, s_252_159, s_252_161, s_252_164, s_252_167, s_252_168, s_252_169, s_252_170, s_252_172, s_252_175, s_252_176, s_252_177, s_252_180, s_252_182, s_252_185, s_252_188, s_252_189, s_252_190, s_252_191, s_252_193, s_252_196, s_252_197, s_252_198, s_252_199, s_252_201, s_252_204, s_252_205, s_252_207, s_252_210, s_252_213, s_252_214, s_252_216, s_252_219, s_252_220, s_252_221, s_252_222, s_252_224, s_252_227, s_252_228, s_252_229, s_252_230, s_252_232, s_252_237, s_252_240, s_252_242, s_252_245, e_252, mv_i_1, mv_l_1, mv_a_1, mv_a_2, mv_a_3, mk2_n, mk2_i, mk2_l, mk2_a, mk2_u, mk2_x, mB_T, mB_F, mS_cons, mS_nil, mSB_T, mSB_F, mca_nil, mca_i, mca_l, mca_r, mca_u, mca_x, mcat_i, mcat_l, mcat_r, mcat_u, mcat_x, mK_some, mK_none, va_rf_s, va_rf_n, lgc_eq, lgc_lt, lgc_gt, lgc_ge, lgc_le, mrd_104, mrd_105, mrd_106, mrd_107, true_and, and_true, and_self, false_and, and_false, true_or, or_true, false_or, or_false, not_true_eq_false, not_false_eq_true, mgb, mga, mgr, mN, reduceCtorEq, ↓reduceIte, eq_self, ge_iff_le, gt_iff_lt, Nat.reduceAdd, Nat.reduceMul, Nat.reduceSub, Nat.reduceLT, Nat.reduceGT, Nat.reduceEqDiff, Nat.reduceLeDiff, Nat.left_eq_add, Nat.add_eq_left, Nat.reduceMod, Nat.reduceDiv, Nat.succ_ne_self, g, g1, g2, e1, e2, show ((1 : Int32) = 0) = False by decide]
  · subst e
    have rw1 : r_h A (l.map (pgE en A)) 2 = a_meet A (l.map (pgE en A)) true (-1) (some A) := by unfold r_h; simp
    have rw2 : r_h A (l.map (pgE en A)) (r_op 2) = a_meet A (l.map (pgE en A)) false 0 (some A) := by unfold r_h r_op; simp
    rw [rw1, rw2]
    obtain ⟨Y1, f1, kk1, e1⟩ := u_248 (d := d + 1) (mi := true) (c := (-1)) J R s1 sN' n1 (Or.inr rfl) k1 (ok _ (id))
    rw [m1] at kk1
    rw [kt] at e1
    obtain ⟨J1, R1, p1, q1, r1, ko1⟩ := step _ J R s1 s2 sN' n1 (fun z => n3 z.symm) k2 Y1 f1 ⟨_, kk1⟩
    have g1 := J1.a.g
    obtain ⟨Y2, f2, kk2, e2⟩ := u_248 (d := d + 1) (mi := false) (c := 0) J1 R1 q1 r1 n2 (Or.inl rfl) ko1 (ok _ (id))
    rw [m0] at kk2
    rw [kf] at e2
    obtain ⟨J2, R2, p2, q2, r2, ko2⟩ := step _ J1 R1 q1 p1 r1 n2 n3 kk1 Y2 f2 ⟨_, kk2⟩
    have g2 := J2.a.g
    refine ⟨Y1, Y2, f1, J1, kk1, f2, J2, ko2, kk2, fun Q => ?_⟩
    clear J R O id ok step k1 k2 J1 R1 kk1 ko1 J2 R2 kk2 ko2
    have w0 : Int32.ofNat 2 = 2 := rfl
    rw [w0]
    simp (disch := omega) only [s_252_0, s_252_1, s_252_2, s_252_2n, s_252_5, s_252_6, s_252_7, s_252_8, s_252_9, s_252_12, s_252_14, s_252_15, s_252_16, s_252_17, s_252_18, s_252_21, s_252_24, s_252_25, s_252_27, s_252_30, s_252_33, s_252_35, s_252_36, s_252_39, s_252_41, s_252_42, s_252_45, s_252_46, s_252_47, s_252_48, s_252_51, s_252_52, s_252_53, s_252_54, s_252_55, s_252_56, s_252_59, s_252_60, s_252_62, s_252_63, s_252_66, s_252_67, s_252_70, s_252_71, s_252_104, s_252_105, s_252_106, s_252_109, s_252_111, s_252_114, s_252_115, s_252_116, s_252_117, s_252_119, s_252_122, s_252_125, s_252_126, s_252_127, s_252_128, s_252_130, s_252_133, s_252_134, s_252_135, s_252_138, s_252_140, s_252_143, s_252_146, s_252_147, s_252_148, s_252_151, s_252_153, s_252_156, s_252_157, s_252_158, s_252_159, s_252_161, s_252_164, s_252_167, s_252_168, s_252_169, s_252_170, s_252_172, s_252_175, s_252_176, s_252_177, s_252_180, s_252_182, s_252_185, s_252_188, s_252_189, s_252_190, s_252_191, s_252_193, s_252_196, s_252_197, s_252_198, s_252_199, s_252_201, s_252_204, s_252_205, s_252_207, s_252_210, s_252_213, s_252_214, s_252_216, s_252_219, s_252_220, s_252_221, s_252_222, s_252_224, s_252_227, s_252_228, s_252_229, s_252_230, s_252_232, s_252_237, s_252_240, s_252_242, s_252_245, e_252, mv_i_1, mv_l_1, mv_a_1, mv_a_2, mv_a_3, mk2_n, mk2_i, mk2_l, mk2_a, mk2_u, mk2_x, mB_T, mB_F, mS_cons, mS_nil, mSB_T, mSB_F, mca_nil, mca_i, mca_l, mca_r, mca_u, mca_x, mcat_i, mcat_l, mcat_r, mcat_u, mcat_x, mK_some, mK_none, va_rf_s, va_rf_n, lgc_eq, lgc_lt, lgc_gt, lgc_ge, lgc_le, mrd_104, mrd_105, mrd_106, mrd_107, true_and, and_true, and_self, false_and, and_false, true_or, or_true, false_or, or_false, not_true_eq_false, not_false_eq_true, mgb, mga, mgr, mN, reduceCtorEq, ↓reduceIte, eq_self, ge_iff_le, gt_iff_lt, Nat.reduceAdd, Nat.reduceMul, Nat.reduceSub, Nat.reduceLT, Nat.reduceGT, Nat.reduceEqDiff, Nat.reduceLeDiff, Nat.left_eq_add, Nat.add_eq_left, Nat.reduceMod, Nat.reduceDiv, Nat.succ_ne_self, g, g1, g2, e1, e2, show ((2 : Int32) = 0) = False by decide, show ((2 : Int32) = 1) = False by decide]
  · subst e
    have rw1 : r_h A (l.map (pgE en A)) 3 = a_meet A (l.map (pgE en A)) true 0 (some A) := by unfold r_h; simp
    have rw2 : r_h A (l.map (pgE en A)) (r_op 3) = a_meet A (l.map (pgE en A)) false (-1) (some A) := by unfold r_h r_op; simp
    rw [rw1, rw2]
    obtain ⟨Y1, f1, kk1, e1⟩ := u_248 (d := d + 1) (mi := true) (c := 0) J R s1 sN' n1 (Or.inl rfl) k1 (ok _ (id))
    rw [m0] at kk1
    rw [kt] at e1
    obtain ⟨J1, R1, p1, q1, r1, ko1⟩ := step _ J R s1 s2 sN' n1 (fun z => n3 z.symm) k2 Y1 f1 ⟨_, kk1⟩
    have g1 := J1.a.g
    obtain ⟨Y2, f2, kk2, e2⟩ := u_248 (d := d + 1) (mi := false) (c := (-1)) J1 R1 q1 r1 n2 (Or.inr rfl) ko1 (ok _ (id))
    rw [m1] at kk2
    rw [kf] at e2
    obtain ⟨J2, R2, p2, q2, r2, ko2⟩ := step _ J1 R1 q1 p1 r1 n2 n3 kk1 Y2 f2 ⟨_, kk2⟩
    have g2 := J2.a.g
    refine ⟨Y1, Y2, f1, J1, kk1, f2, J2, ko2, kk2, fun Q => ?_⟩
    clear J R O id ok step k1 k2 J1 R1 kk1 ko1 J2 R2 kk2 ko2
    have w0 : Int32.ofNat 3 = 3 := rfl
    rw [w0]
    simp (disch := omega) only [s_252_0, s_252_1, s_252_2, s_252_2n, s_252_5, s_252_6, s_252_7, s_252_8, s_252_9, s_252_12, s_252_14, s_252_15, s_252_16, s_252_17, s_252_18, s_252_21, s_252_24, s_252_25, s_252_27, s_252_30, s_252_33, s_252_35, s_252_36, s_252_39, s_252_41, s_252_42, s_252_45, s_252_46, s_252_47, s_252_48, s_252_51, s_252_52, s_252_53, s_252_54, s_252_55, s_252_56, s_252_59, s_252_60, s_252_62, s_252_63, s_252_66, s_252_67, s_252_70, s_252_71, s_252_104, s_252_105, s_252_106, s_252_109, s_252_111, s_252_114, s_252_115, s_252_116, s_252_117, s_252_119, s_252_122, s_252_125, s_252_126, s_252_127, s_252_128, s_252_130, s_252_133, s_252_134, s_252_135, s_252_138, s_252_140, s_252_143, s_252_146, s_252_147, s_252_148, s_252_151, s_252_153, s_252_156, s_252_157, s_252_158, s_252_159, s_252_161, s_252_164, s_252_167, s_252_168, s_252_169, s_252_170, s_252_172, s_252_175, s_252_176, s_252_177, s_252_180, s_252_182, s_252_185, s_252_188, s_252_189, s_252_190, s_252_191, s_252_193, s_252_196, s_252_197, s_252_198, s_252_199, s_252_201, s_252_204, s_252_205, s_252_207, s_252_210, s_252_213, s_252_214, s_252_216, s_252_219, s_252_220, s_252_221, s_252_222, s_252_224, s_252_227, s_252_228, s_252_229, s_252_230, s_252_232, s_252_237, s_252_240, s_252_242, s_252_245, e_252, mv_i_1, mv_l_1, mv_a_1, mv_a_2, mv_a_3, mk2_n, mk2_i, mk2_l, mk2_a, mk2_u, mk2_x, mB_T, mB_F, mS_cons, mS_nil, mSB_T, mSB_F, mca_nil, mca_i, mca_l, mca_r, mca_u, mca_x, mcat_i, mcat_l, mcat_r, mcat_u, mcat_x, mK_some, mK_none, va_rf_s, va_rf_n, lgc_eq, lgc_lt, lgc_gt, lgc_ge, lgc_le, mrd_104, mrd_105, mrd_106, mrd_107, true_and, and_true, and_self, false_and, and_false, true_or, or_true, false_or, or_false, not_true_eq_false, not_false_eq_true, mgb, mga, mgr, mN, reduceCtorEq, ↓reduceIte, eq_self, ge_iff_le, gt_iff_lt, Nat.reduceAdd, Nat.reduceMul, Nat.reduceSub, Nat.reduceLT, Nat.reduceGT, Nat.reduceEqDiff, Nat.reduceLeDiff, Nat.left_eq_add, Nat.add_eq_left, Nat.reduceMod, Nat.reduceDiv, Nat.succ_ne_self, g, g1, g2, e1, e2, show ((3 : Int32) = 0) = False by decide, show ((3 : Int32) = 1) = False by decide, show ((3 : Int32) = 2) = False by decide]
  · subst e
    have rw1 : r_h A (l.map (pgE en A)) 4 = a_meet A (l.map (pgE en A)) true 0 (a_meet A (l.map (pgE en A)) false 0 (some A)) := by unfold r_h; simp
    have rw2 : r_h A (l.map (pgE en A)) (r_op 4) = a_differ A (l.map (pgE en A)) (some A) := by unfold r_h r_op; simp
    rw [rw1, rw2]
    obtain ⟨Y1, f1, kk1, e1⟩ := u_248 (d := d + 1) (mi := false) (c := 0) J R s1 sN' n1 (Or.inl rfl) k1 (ok _ (id))
    rw [m0] at kk1
    rw [kf] at e1
    obtain ⟨J1, R1, p1, q1, r1, ko1⟩ := step _ J R s1 s2 sN' n1 (fun z => n3 z.symm) k2 Y1 f1 ⟨_, kk1⟩
    have g1 := J1.a.g
    obtain ⟨Y2, f2, kk2, e2⟩ := u_248 (d := d + 1) (mi := true) (c := 0) J1 R1 p1 r1 n1 (Or.inl rfl) kk1 (ok _ (meet_ok O (by omega) (id)))
    rw [m0] at kk2
    rw [kt] at e2
    obtain ⟨J2, R2, p2, q2, r2, ko2⟩ := step _ J1 R1 p1 q1 r1 n1 (fun z => n3 z.symm) ko1 Y2 f2 ⟨_, kk2⟩
    have g2 := J2.a.g
    obtain ⟨Y3, f3, kk3, e3⟩ := u_249 (d := d) J2 R2 q2 r2 n2 ko2 (ok _ (id))
    obtain ⟨J3, R3, p3, q3, r3, ko3⟩ := step _ J2 R2 q2 p2 r2 n2 n3 kk2 Y3 f3 ⟨_, kk3⟩
    have g3 := J3.a.g
    refine ⟨Y2, Y3, tW_t f1 f2, J2, kk2, f3, J3, ko3, kk3, fun Q => ?_⟩
    clear J R O id ok step k1 k2 J1 R1 kk1 ko1 J2 R2 kk2 ko2 J3 R3 kk3 ko3
    have w0 : Int32.ofNat 4 = 4 := rfl
    rw [w0]
    simp (disch := omega) only [s_252_0, s_252_1, s_252_2, s_252_2n, s_252_5, s_252_6, s_252_7, s_252_8, s_252_9, s_252_12, s_252_14, s_252_15, s_252_16, s_252_17, s_252_18, s_252_21, s_252_24, s_252_25, s_252_27, s_252_30, s_252_33, s_252_35, s_252_36, s_252_39, s_252_41, s_252_42, s_252_45, s_252_46, s_252_47, s_252_48, s_252_51, s_252_52, s_252_53, s_252_54, s_252_55, s_252_56, s_252_59, s_252_60, s_252_62, s_252_63, s_252_66, s_252_67, s_252_70, s_252_71, s_252_104, s_252_105, s_252_106, s_252_109, s_252_111, s_252_114, s_252_115, s_252_116, s_252_117, s_252_119, s_252_122, s_252_125, s_252_126, s_252_127, s_252_128, s_252_130, s_252_133, s_252_134, s_252_135, s_252_138, s_252_140, s_252_143, s_252_146, s_252_147, s_252_148, s_252_151, s_252_153, s_252_156, s_252_157, s_252_158, s_252_159, s_252_161, s_252_164, s_252_167, s_252_168, s_252_169, s_252_170, s_252_172, s_252_175, s_252_176, s_252_177, s_252_180, s_252_182, s_252_185, s_252_188, s_252_189, s_252_190, s_252_191, s_252_193, s_252_196, s_252_197, s_252_198, s_252_199, s_252_201, s_252_204, s_252_205, s_252_207, s_252_210, s_252_213, s_252_214, s_252_216, s_252_219, s_252_220, s_252_221, s_252_222, s_252_224, s_252_227, s_252_228, s_252_229, s_252_230, s_252_232, s_252_237, s_252_240, s_252_242, s_252_245, e_252, mv_i_1, mv_l_1, mv_a_1, mv_a_2, mv_a_3, mk2_n, mk2_i, mk2_l, mk2_a, mk2_u, mk2_x, mB_T, mB_F, mS_cons, mS_nil, mSB_T, mSB_F, mca_nil, mca_i, mca_l, mca_r, mca_u, mca_x, mcat_i, mcat_l, mcat_r, mcat_u, mcat_x, mK_some, mK_none, va_rf_s, va_rf_n, lgc_eq, lgc_lt, lgc_gt, lgc_ge, lgc_le, mrd_104, mrd_105, mrd_106, mrd_107, true_and, and_true, and_self, false_and, and_false, true_or, or_true, false_or, or_false, not_true_eq_false, not_false_eq_true, mgb, mga, mgr, mN, reduceCtorEq, ↓reduceIte, eq_self, ge_iff_le, gt_iff_lt, Nat.reduceAdd, Nat.reduceMul, Nat.reduceSub, Nat.reduceLT, Nat.reduceGT, Nat.reduceEqDiff, Nat.reduceLeDiff, Nat.left_eq_add, Nat.add_eq_left, Nat.reduceMod, Nat.reduceDiv, Nat.succ_ne_self, g, g1, g2, g3, e1, e2, e3, show ((4 : Int32) = 0) = False by decide, show ((4 : Int32) = 1) = False by decide, show ((4 : Int32) = 2) = False by decide, show ((4 : Int32) = 3) = False by decide]
  · subst e
    have rw1 : r_h A (l.map (pgE en A)) 5 = a_differ A (l.map (pgE en A)) (some A) := by unfold r_h; simp
    have rw2 : r_h A (l.map (pgE en A)) (r_op 5) = a_meet A (l.map (pgE en A)) true 0 (a_meet A (l.map (pgE en A)) false 0 (some A)) := by unfold r_h r_op; simp
    rw [rw1, rw2]
    obtain ⟨Y1, f1, kk1, e1⟩ := u_249 (d := d) J R s1 sN' n1 k1 (ok _ (id))
    obtain ⟨J1, R1, p1, q1, r1, ko1⟩ := step _ J R s1 s2 sN' n1 (fun z => n3 z.symm) k2 Y1 f1 ⟨_, kk1⟩
    have g1 := J1.a.g
    obtain ⟨Y2, f2, kk2, e2⟩ := u_248 (d := d + 1) (mi := false) (c := 0) J1 R1 q1 r1 n2 (Or.inl rfl) ko1 (ok _ (id))
    rw [m0] at kk2
    rw [kf] at e2
    obtain ⟨J2, R2, p2, q2, r2, ko2⟩ := step _ J1 R1 q1 p1 r1 n2 n3 kk1 Y2 f2 ⟨_, kk2⟩
    have g2 := J2.a.g
    obtain ⟨Y3, f3, kk3, e3⟩ := u_248 (d := d + 1) (mi := true) (c := 0) J2 R2 p2 r2 n2 (Or.inl rfl) kk2 (ok _ (meet_ok O (by omega) (id)))
    rw [m0] at kk3
    rw [kt] at e3
    obtain ⟨J3, R3, p3, q3, r3, ko3⟩ := step _ J2 R2 p2 q2 r2 n2 n3 ko2 Y3 f3 ⟨_, kk3⟩
    have g3 := J3.a.g
    refine ⟨Y1, Y3, f1, J1, kk1, tW_t f2 f3, J3, ko3, kk3, fun Q => ?_⟩
    clear J R O id ok step k1 k2 J1 R1 kk1 ko1 J2 R2 kk2 ko2 J3 R3 kk3 ko3
    have w0 : Int32.ofNat 5 = 5 := rfl
    rw [w0]
    simp (disch := omega) only [s_252_0, s_252_1, s_252_2, s_252_2n, s_252_5, s_252_6, s_252_7, s_252_8, s_252_9, s_252_12, s_252_14, s_252_15, s_252_16, s_252_17, s_252_18, s_252_21, s_252_24, s_252_25, s_252_27, s_252_30, s_252_33, s_252_35, s_252_36, s_252_39, s_252_41, s_252_42, s_252_45, s_252_46, s_252_47, s_252_48, s_252_51, s_252_52, s_252_53, s_252_54, s_252_55, s_252_56, s_252_59, s_252_60, s_252_62, s_252_63, s_252_66, s_252_67, s_252_70, s_252_71, s_252_104, s_252_105, s_252_106, s_252_109, s_252_111, s_252_114, s_252_115, s_252_116, s_252_117, s_252_119, s_252_122, s_252_125, s_252_126, s_252_127, s_252_128, s_252_130, s_252_133, s_252_134, s_252_135, s_252_138, s_252_140, s_252_143, s_252_146, s_252_147, s_252_148, s_252_151, s_252_153, s_252_156, s_252_157, s_252_158, s_252_159, s_252_161, s_252_164, s_252_167, s_252_168, s_252_169, s_252_170, s_252_172, s_252_175, s_252_176, s_252_177, s_252_180, s_252_182, s_252_185, s_252_188, s_252_189, s_252_190, s_252_191, s_252_193, s_252_196, s_252_197, s_252_198, s_252_199, s_252_201, s_252_204, s_252_205, s_252_207, s_252_210, s_252_213, s_252_214, s_252_216, s_252_219, s_252_220, s_252_221, s_252_222, s_252_224, s_252_227, s_252_228, s_252_229, s_252_230, s_252_232, s_252_237, s_252_240, s_252_242, s_252_245, e_252, mv_i_1, mv_l_1, mv_a_1, mv_a_2, mv_a_3, mk2_n, mk2_i, mk2_l, mk2_a, mk2_u, mk2_x, mB_T, mB_F, mS_cons, mS_nil, mSB_T, mSB_F, mca_nil, mca_i, mca_l, mca_r, mca_u, mca_x, mcat_i, mcat_l, mcat_r, mcat_u, mcat_x, mK_some, mK_none, va_rf_s, va_rf_n, lgc_eq, lgc_lt, lgc_gt, lgc_ge, lgc_le, mrd_104, mrd_105, mrd_106, mrd_107, true_and, and_true, and_self, false_and, and_false, true_or, or_true, false_or, or_false, not_true_eq_false, not_false_eq_true, mgb, mga, mgr, mN, reduceCtorEq, ↓reduceIte, eq_self, ge_iff_le, gt_iff_lt, Nat.reduceAdd, Nat.reduceMul, Nat.reduceSub, Nat.reduceLT, Nat.reduceGT, Nat.reduceEqDiff, Nat.reduceLeDiff, Nat.left_eq_add, Nat.add_eq_left, Nat.reduceMod, Nat.reduceDiv, Nat.succ_ne_self, g, g1, g2, g3, e1, e2, e3, show ((5 : Int32) = 0) = False by decide, show ((5 : Int32) = 1) = False by decide, show ((5 : Int32) = 2) = False by decide, show ((5 : Int32) = 3) = False by decide, show ((5 : Int32) = 4) = False by decide]
end RLa
