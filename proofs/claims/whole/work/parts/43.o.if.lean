set_option maxRecDepth 100000
/-! statement: if -/
section CJs
variable {d : Nat} {h h1 h2 : mh_H} {s0 s1 o ho fa st b p k T f : Nat} {E E' : nv} {D : fd} {w0 w1 : wd} {s s' X Y F1 F2 : Option ab} {G : pgm} {J : pin} {A : ab} {t c bs cs r : tr} {m n : Nat} {u : Unit} {al : Int32}
theorem DS_5 {rc : rc3} (h5 : G.kd p = 5) : DS G rc p s w0 = (o_join (o_keep (G.n p) (G.a p) (rc (p + 1) (G.M p) (fo G p s).1 (wl p s (fo G p s).2.2 w0)).1) (o_keep (G.n p) (G.a p) (rc (G.M p) (G.E p) (fo G p s).2.1 (rc (p + 1) (G.M p) (fo G p s).1 (wl p s (fo G p s).2.2 w0)).2.1).1), (rc (G.M p) (G.E p) (fo G p s).2.1 (rc (p + 1) (G.M p) (fo G p s).1 (wl p s (fo G p s).2.2 w0)).2.1).2.1, 2 + max (G.sp p) (max (rc (p + 1) (G.M p) (fo G p s).1 (wl p s (fo G p s).2.2 w0)).2.2 (rc (G.M p) (G.E p) (fo G p s).2.1 (rc (p + 1) (G.M p) (fo G p s).1 (wl p s (fo G p s).2.2 w0)).2.1).2.2)) := by
  unfold DS
  rw [if_neg (by omega), if_pos h5]
theorem fo_7 (hG : G.fx = fxJ J) (hen : J.en p = E.en) (jc : J.c p = 7) (jt : J.t p = .branch m c t) : fo G p s = spl E.en (.branch m c t) false false s none := by
  cases s with
  | none => rfl
  | some A => rw [fx_J (E := E) hG hen jc, jt]; rfl
theorem stm_i (B : BQ G J D f) {q : tr} (hk : tK n = 8) (hG : G.fx = fxJ J) (hen : J.en p = E.en) (e1 : G.n p = E.nu) (e2 : G.a p = E.ar) (hkd : G.kd p = 5) (jc : J.c p = 7) (jt : J.t p = .branch m c (.branch b bs q)) (hC : eCo E (.branch m c (.branch b bs q))) (hsp : G.sp p = cn3 (.branch m c (.branch b bs q))) (hM1 : p < G.M p) (hM2 : G.M p ≤ G.E p) (hE : G.E p ≤ 249) (hfu : E.fu ≤ D.c) (L1 : LW G J D f bs (p + 1) (G.M p) E) (L2 : ((∃ u, q = .leaf u) ∧ G.M p = G.E p) ∨ ∃ b2 bs2 u, q = .branch b2 bs2 (.leaf u) ∧ LW G J D f bs2 (G.M p) (G.E p) E) (hw : wW w0 ≤ 4000) (S : SA h s0 o E D w0 s) (N : nd (mh_i h 93) (mh_i h 95) (mh_i h 97) k (.branch n (.branch m c (.branch b bs q)) r)) (hb : k + 1 + ts (.branch m c (.branch b bs q)) ≤ 26000) (hs : s0 + (DS G (DB G f) p s w0).2.2 + 1 ≤ 2048) (hd : 4 * (G.E p - p) + 829 ≤ d) {nx' : Int32} : ∃ h', BFi G h h' s0 o E.T p (G.E p) E D (DS G (DB G f) p s w0).2.1 (DS G (DB G f) p s w0).1 ∧ ∀ Q, mcall d 261 [.ref 115, .int (Int32.ofNat k), .int (Int32.ofNat p), .int nx', .ref o] h Q = Q none h' := by
  obtain ⟨d, rfl⟩ : ∃ d', d = d' + 2 := ⟨d - 2, by omega⟩
  rw [DS_5 hkd, fo_7 hG hen jc jt, e1, e2] at hs ⊢
  dsimp only at hs ⊢
  rw [hsp] at hs
  have nk : mh_i h 93 k = 8 := by rw [N.1, hk]; rfl
  obtain ⟨h0, x0, S0, ⟨t1, t2, t3⟩, cp, c0, run0⟩ := stm_0 (d := d + 2) (nx := nx') S (by omega) e1 e2 (by omega) nk
  have n3 := N.2.2.1
  have n4 := N.2.2.2.1
  rw [← t1, ← t2, ← t3] at n4
  rw [← t3] at n3
  obtain ⟨h1, ho, fa, x1, S1, S2, r1, r2, nhf, l1, k1, ⟨u1, u2, u3⟩, c1, kp, run1⟩ := cho_1 (d := d) (G := G) (nx' := nx') S0 (p := p) e2 (by omega) hw hC n4 hb (by omega) (by omega)
  rw [← u1, ← u2, ← u3] at n4
  rw [← u3] at n3
  obtain ⟨h2, y9, y10, y11, y12, x2, A2, kh2, kf2, sh1, sh2, r1', r2', l2, k2, c2, cn2, run2⟩ := cho_2 (d := d) (nx' := nx') (x5 := some (.int (kb (decide (s ≠ none))))) B hM1 hM2 hE hfu L1 L2 S1 S2 r1 r2 nhf l1 k1 n3 n4 hb (by omega) (by omega)
  obtain ⟨h3, x3, A3, k3, a3, c3, -, run3⟩ := cho_3 (d := d) (G := G) (x1 := some (.int (Int32.ofNat k))) (x2 := some (.int (Int32.ofNat p))) (x3 := some (.int nx')) (x5 := some (.int (kb (decide (s ≠ none))))) (x9 := y9) (x10 := y10) (x11 := y11) (x12 := y12) A2 l2 k2 kh2 kf2 sh1 sh2 r1' r2' S.m.1 S.m.2 (by omega)
  have run : ∀ Q, mcall (d + 1) 264 [.ref 115, .int (Int32.ofNat k), .int (Int32.ofNat p), .int nx', .ref o] h0 Q = Q none h3 := fun Q => (run1 Q).trans ((run2 Q).trans (run3 Q))
  refine ⟨h3, BFi.of ⟨rq_t x0 (rq_t x1 (rq_t x2 x3)), A3, k3, a3, fun q w => c3 q (c2 q (c1 q (c0 q w))), fun w q q1 q2 => ?_, join_shp sh1 sh2⟩, fun Q => ?_⟩
  · by_cases z : q = p
    · rw [z]; exact ⟨c3 p (c2 p (c1 p cp)), c3 _ (c2 _ kp)⟩
    · have b := cn2 w q (by omega) q2
      exact ⟨c3 q b.1, c3 _ b.2⟩
  · rw [run0, ts_8]
    have g0 := S0.A.j.a.g
    clear S S0 S1 S2 A2 A3 kh2 kf2 k2 k3 B L1 L2 hC x0 x1 x2 x3 N
    simp (disch := omega) only [s_261_0, s_261_1, s_261_4, s_261_5, s_261_6, s_261_9, s_261_12, s_261_13, s_261_16, s_261_17, s_261_18, s_261_21, s_261_22, s_261_25, s_261_26, s_261_27, s_261_30, s_261_31, s_261_32, s_261_35, s_261_38, s_261_39, s_261_42, s_261_43, s_261_44, s_261_47, s_261_48, s_261_51, s_261_52, s_261_53, s_261_56, s_261_57, s_261_84, s_261_85, s_261_86, s_261_87, s_261_88, s_261_90, s_261_93, s_261_96, s_261_97, s_261_98, s_261_99, s_261_100, s_261_102, s_261_105, s_261_108, s_261_109, s_261_110, s_261_111, s_261_112, s_261_114, s_261_117, s_261_120, s_261_121, s_261_122, s_261_124, s_261_127, s_261_129, s_261_130, s_261_131, s_261_133, s_261_135, s_261_138, s_261_139, s_261_140, s_261_143, s_261_144, s_261_145, s_261_146, s_261_148, s_261_151, e_261, mv_i_1, mv_l_1, mv_a_1, mv_a_2, mv_a_3, mk2_n, mk2_i, mk2_l, mk2_a, mk2_u, mk2_x, mB_T, mB_F, mS_cons, mS_nil, mSB_T, mSB_F, mca_nil, mca_i, mca_l, mca_r, mca_u, mca_x, mcat_i, mcat_l, mcat_r, mcat_u, mcat_x, mK_some, mK_none, va_rf_s, va_rf_n, lgc_eq, lgc_lt, lgc_gt, lgc_ge, lgc_le, mrd_104, mrd_105, mrd_106, mrd_107, true_and, and_true, and_self, false_and, and_false, true_or, or_true, false_or, or_false, not_true_eq_false, not_false_eq_true, mgb, mga, mgr, mN, reduceCtorEq, ↓reduceIte, eq_self, ge_iff_le, gt_iff_lt, Nat.reduceAdd, Nat.reduceMul, Nat.reduceSub, Nat.reduceLT, Nat.reduceGT, Nat.reduceEqDiff, Nat.reduceLeDiff, Nat.left_eq_add, Nat.add_eq_left, Nat.reduceMod, Nat.reduceDiv, Nat.succ_ne_self, g0, run]
end CJs
