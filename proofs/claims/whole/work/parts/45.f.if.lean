set_option maxRecDepth 100000
/-! CHECKS: if -/
section CHa
variable {d : Nat} {h h1 h2 : mh_H} {s0 s1 o o' p q k e0 br T x to n ho fa m b f e : Nat} {E : nv} {D : fd} {w0 : wd} {s X F1 F2 : Option ab} {G : pgm} {J : pin} {cl : Nat → Option ab} {cs r c bs t : tr} {A : ab} {fst oth : Nat → Nat}
theorem VI_2 (hk : G.kd p = 5 ∨ G.kd p = 6) (e1 : (fo G p (cl p)).1 = F1) (e2 : (fo G p (cl p)).2.1 = F2) : VI G cl fst oth p ↔ (gsC G cl F1 (fst p) ∨ gsC G cl F2 (oth p)) := by
  unfold VI
  rw [e1, e2]
  exact ⟨fun z => z.elim Or.inl (fun y => Or.inr y.2), fun z => z.elim Or.inl (fun y => Or.inr ⟨hk, y⟩)⟩
theorem VI_1 (hk : ¬ (G.kd p = 5 ∨ G.kd p = 6)) : VI G cl fst oth p ↔ gsC G cl (fo G p (cl p)).1 (fst p) := by
  unfold VI
  exact ⟨fun z => z.elim (fun y => y) (fun y => absurd y.1 hk), Or.inl⟩
theorem stm_ic (H : CHX G J e0 cl) (B : BQc G J D cl e0 fst oth f) {qt : tr} (hk : tK n = 8) (hen : J.en p = E.en) (e1 : G.n p = E.nu) (e2 : G.a p = E.ar) (e3 : ∀ x, x < E.ar → E.rm x = G.rm p x) (hkd : G.kd p = 5) (jc : J.c p = 7) (jt : J.t p = .branch m c (.branch b bs qt)) (hC : eCo E (.branch m c (.branch b bs qt))) (hsp : G.sp p = cn3 (.branch m c (.branch b bs qt))) (hM1 : p < G.M p) (hM2 : G.M p ≤ G.E p) (hE : G.E p ≤ e0) (L1 : LW G J D f bs (p + 1) (G.M p) E) (L2 : ((∃ u, qt = .leaf u) ∧ G.M p = G.E p) ∨ ∃ b2 bs2 u, qt = .branch b2 bs2 (.leaf u) ∧ LW G J D f bs2 (G.M p) (G.E p) E) {nx' : Nat} (f1 : fst p = if p + 1 < G.M p then p + 1 else nx') (f2 : oth p = if G.M p < G.E p then G.M p else nx') (U1 : SUC G fst oth f (p + 1) (G.M p) nx') (U2 : SUC G fst oth f (G.M p) (G.E p) nx') (hnx : nx' ≤ e0) (hdm : G.n nx' ≤ E.nu ∧ G.a nx' ≤ E.ar) (S : SC h s0 o E D w0 G e0 cl br) (N : nd (mh_i h 93) (mh_i h 95) (mh_i h 97) k (.branch n (.branch m c (.branch b bs qt)) r)) (hb : k + 1 + ts (.branch m c (.branch b bs qt)) ≤ 26000) (hs : s0 + 3 * (G.E p - p) + 360 ≤ 2048) (hd : 4 * (G.E p - p) + 839 ≤ d) : ∃ h' b', rq s0 (sV o E.T) h h' ∧ SC h' s0 o E D w0 G e0 cl b' ∧ BRK (VI G cl fst oth) p (G.E p) br b' ∧ ∀ Q, mcall d 261 [.ref 115, .int (Int32.ofNat k), .int (Int32.ofNat p), .int (Int32.ofNat nx'), .ref o] h Q = Q none h' := by
  obtain ⟨d, rfl⟩ : ∃ d', d = d' + 2 := ⟨d - 2, by omega⟩
  have he := H.he
  have hp : p < e0 := by omega
  have sp1 := H.sp p hp
  have nk : mh_i h 93 k = 8 := by rw [N.1, hk]; rfl
  have J0 := S.A.j
  have lo := sp_lo J0 (lv_sp S.l)
  have run0 := stm_0c (d := d + 2) (o := o) (nx := Int32.ofNat nx') S.A S.C.z (by omega : p < 250) (by omega : k < 26000) nk
  have n3 := N.2.2.1
  have n4 := N.2.2.2.1
  have fe := fo_7 (E := E) (s := cl p) H.hG hen jc jt
  obtain ⟨sh1, sh2⟩ := spl_shp hC (cl_sh H hp e1 e2 e3)
  obtain ⟨h1, ho, fa, x1, S1, ⟨u1, u2, u3⟩, run1⟩ := cho_1c (d := d) (nx' := Int32.ofNat nx') H S hp e1 e2 e3 hC n4 hb (by omega) (by omega)
  rw [← u1, ← u2, ← u3] at n4
  rw [← u3] at n3
  obtain ⟨h2, b2, X1, X2, y9, y10, y11, y12, x2, S2, shX1, shX2, brk, run2⟩ := cho_2c (d := d) (x5 := some (.int (kb (decide (cl p ≠ none))))) H B hM1 hM2 hE L1 L2 U1 U2 hnx hdm S.m S.w S1 sh1 sh2 n3 n4 hb hs (by omega)
  obtain ⟨h3, x3, A3, k3, a3, c3, b3, run3⟩ := cho_3 (d := d) (G := G) (x1 := some (.int (Int32.ofNat k))) (x2 := some (.int (Int32.ofNat p))) (x3 := some (.int (Int32.ofNat nx'))) (x5 := some (.int (kb (decide (cl p ≠ none))))) (x9 := y9) (x10 := y10) (x11 := y11) (x12 := y12) S2.A S2.l S2.ko S2.kh S2.kf shX1 shX2 S2.r1 S2.r2 S.m.1 S.m.2 (by omega)
  have C3 := ck_t S2.C S2.A lo he x3 c3 b3
  have b1 := brk_2 (S := VI G cl fst oth) (p := p) (br := br) (VI_2 (fst := fst) (oth := oth) (Or.inl hkd) (congrArg (fun z => z.1) fe) (congrArg (fun z => z.2.1) fe))
  rw [f1, f2] at b1
  refine ⟨h3, b2, rq_t x1 (rq_t x2 x3), SC.of ⟨A3, rq_lv x3 S2.l, ⟨_, k3, join_shp shX1 shX2⟩, S.m, C3, S.w⟩, brk_t b1 brk (by omega) (by omega), fun Q => ?_⟩
  have run : ∀ Q, mcall (d + 1) 264 [.ref 115, .int (Int32.ofNat k), .int (Int32.ofNat p), .int (Int32.ofNat nx'), .ref o] h Q = Q none h3 := fun Q => (run1 Q).trans ((run2 Q).trans (run3 Q))
  rw [run0, ts_8]
  have g0 := J0.a.g
  clear S S1 S2 A3 k3 B L1 L2 hC x1 x2 x3 N H J0 C3 brk b1 run0 run1 run2 run3 n4 sh1 sh2 shX1 shX2 U1 U2
  simp (disch := omega) only [s_261_0, s_261_1, s_261_4, s_261_5, s_261_6, s_261_9, s_261_12, s_261_13, s_261_16, s_261_17, s_261_18, s_261_21, s_261_22, s_261_25, s_261_26, s_261_27, s_261_30, s_261_31, s_261_32, s_261_35, s_261_38, s_261_39, s_261_42, s_261_43, s_261_44, s_261_47, s_261_48, s_261_51, s_261_52, s_261_53, s_261_56, s_261_57, s_261_84, s_261_85, s_261_86, s_261_87, s_261_88, s_261_90, s_261_93, s_261_96, s_261_97, s_261_98, s_261_99, s_261_100, s_261_102, s_261_105, s_261_108, s_261_109, s_261_110, s_261_111, s_261_112, s_261_114, s_261_117, s_261_120, s_261_121, s_261_122, s_261_124, s_261_127, s_261_129, s_261_130, s_261_131, s_261_133, s_261_135, s_261_138, s_261_139, s_261_140, s_261_143, s_261_144, s_261_145, s_261_146, s_261_148, s_261_151, e_261, mv_i_1, mv_l_1, mv_a_1, mv_a_2, mv_a_3, mk2_n, mk2_i, mk2_l, mk2_a, mk2_u, mk2_x, mB_T, mB_F, mS_cons, mS_nil, mSB_T, mSB_F, mca_nil, mca_i, mca_l, mca_r, mca_u, mca_x, mcat_i, mcat_l, mcat_r, mcat_u, mcat_x, mK_some, mK_none, va_rf_s, va_rf_n, lgc_eq, lgc_lt, lgc_gt, lgc_ge, lgc_le, mrd_104, mrd_105, mrd_106, mrd_107, true_and, and_true, and_self, false_and, and_false, true_or, or_true, false_or, or_false, not_true_eq_false, not_false_eq_true, mgb, mga, mgr, mN, reduceCtorEq, ↓reduceIte, eq_self, ge_iff_le, gt_iff_lt, Nat.reduceAdd, Nat.reduceMul, Nat.reduceSub, Nat.reduceLT, Nat.reduceGT, Nat.reduceEqDiff, Nat.reduceLeDiff, Nat.left_eq_add, Nat.add_eq_left, Nat.reduceMod, Nat.reduceDiv, Nat.succ_ne_self, g0, run]
end CHa
