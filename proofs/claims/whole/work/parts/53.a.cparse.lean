set_option maxRecDepth 100000
/-! THE CLASS'S PARSER, whole: parse -/
theorem mw_one {d y pc : Nat} {ls : me_L} {st : List Value} {h h' : mh_H} {r : Option Value} (k : ∀ Q : Option Value → mh_H → Prop, Q r h' → mw d y Q pc ls st h) : ∀ Q, mw d y Q pc ls st h = Q r h' := by
  intro Q
  obtain ⟨n, r1, h1, e1, q1, q2⟩ := k (fun a b => a = r ∧ b = h') ⟨rfl, rfl⟩
  subst q1
  subst q2
  apply propext
  constructor
  · rintro ⟨n2, r2, h2, e2, q⟩
    have a := mm_fuel mc_P mc_nl n (max n n2) d y pc ls st h _ (Nat.le_max_left _ _) e1
    have b := mm_fuel mc_P mc_nl n2 (max n n2) d y pc ls st h _ (Nat.le_max_right _ _) e2
    rw [a] at b
    cases b
    exact q
  · exact k Q
def fiA (s : cps) : cps := u2 (u2 s 10 (s.1 6) (Int32.ofNat (s.1 4))) 11 (s.1 6) (Int32.ofNat (s.1 5))
/-- what finish leaves -/
def fiS (s : cps) : cps := if s.1 9 = 0 ∨ s.2 15 (6 * (s.1 9 - 1) + 5) = -1 then fiA s else u2 (u2 (fiA s) (24 + (s.2 15 (6 * (s.1 9 - 1) + 5)).toNatClampNeg) 5 7) (24 + (s.2 15 (6 * (s.1 9 - 1) + 5)).toNatClampNeg) 6 (s.2 (24 + (s.2 15 (6 * (s.1 9 - 1) + 5)).toNatClampNeg) 2)
/-- the parser's state at its beginning -/
def PZ0 (s : cps) : Prop := (∀ c, s.1 c = 0) ∧ (s.2 16 7 = -1)
theorem PZ0.of {s : cps} (q : (∀ c, s.1 c = 0) ∧ (s.2 16 7 = -1)) : PZ0 s := q
theorem PZ0.z {s : cps} (q : PZ0 s) : ∀ c, s.1 c = 0 := q.1
theorem PZ0.f {s : cps} (q : PZ0 s) : s.2 16 7 = -1 := q.2
section FEz
variable {d : Nat} {h : mh_H} {B n m : Nat} {Bt : Nat → Int32} {K : Nat → Int32} {P U : Nat → Nat} {V : Nat → Int} {s s1 s2 s' : cps} {i N f j r : Nat}
theorem c_138 (b : CPB h B n) (h6 : s.1 6 ≤ n + 1) (h9 : 9 * s.1 9 ≤ n) (h8 : s.1 8 ≤ n / 3 + 2) (G : FGV s) : ∀ Q, mcall (d + 1) 138 [.ref (B + 5)] (cH h B s) Q = Q none (cH h B (fiS s)) := by
  intro Q
  have hn := b.n
  have q1 : 6 * s.1 9 ≤ 6 * (n / 9 + 2) := by omega
  unfold fiS
  by_cases c : s.1 9 = 0 ∨ s.2 15 (6 * (s.1 9 - 1) + 5) = -1
  · rw [if_pos c]
    exact c_138a b h6 (c.imp id (fun z => ⟨q1, z⟩)) Q
  · rw [if_neg c]
    have c9 : ¬ s.1 9 = 0 := fun z => c (Or.inl z)
    rcases G with G | G | ⟨x, x1, x2⟩
    · exact absurd G c9
    · exact absurd (Or.inr G) c
    · have ex : (s.2 15 (6 * (s.1 9 - 1) + 5)).toNatClampNeg = x := by rw [x2]; exact nn_clamp (by omega)
      rw [ex]
      exact c_138b b h6 (by omega) q1 x2 x1 h8 Q
theorem fi_7 : (fiS s).2 16 7 = s.2 16 7 := by
  have a : (fiA s).2 16 7 = s.2 16 7 := by
    unfold fiA
    rw [u2_2, if_neg (by omega), u2_2, if_neg (by omega)]
  unfold fiS
  split
  · exact a
  · rw [u2_2, if_neg (by omega), u2_2, if_neg (by omega)]
    exact a
theorem pz_end (b : CPB h B n) (hr : r < 1000000) (hx : s.1 0 = 0 ∨ ¬ s.2 16 7 = -1) (h6 : s.1 6 ≤ n + 1) (h9 : 9 * s.1 9 ≤ n) (h8 : s.1 8 ≤ n / 3 + 2) (G : FGV s) (Q : Option Value → mh_H → Prop) (q : Q (some (.int (s.2 16 7))) (cH h B (fiS s))) : pHD (d + 2) h B r s Q := by
  intro a c
  have a0 := c_138 (d := d) b h6 h9 h8 G
  have m1 : (1000000 ≤ Int32.ofNat r) = False := by
    rw [show (1000000 : Int32) = Int32.ofNat 1000000 from rfl, nn_le (by omega) (by omega)]
    exact eq_false (by omega)
  have f7 := fi_7 (s := s)
  rw [s_44_16]
  by_cases w0 : Int32.ofNat (s.1 0) ≤ 0
  · have w0' := eq_true w0
    simp (disch := first | omega | (simp only [u1_1, u1_2, u2_1, u2_2, ↓reduceIte, Nat.reduceAdd, Nat.reduceMul, Nat.reduceSub, Nat.reduceLT, Nat.reduceGT, Nat.reduceEqDiff, Nat.reduceLeDiff, Nat.left_eq_add, Nat.add_eq_left, Nat.reduceMod, Nat.reduceDiv, Nat.succ_ne_self]; omega)) only [s_44_0, s_44_1, s_44_4, s_44_7, s_44_8, s_44_11, s_44_14, s_44_15, s_44_17, s_44_19, s_44_22, s_44_23, s_44_26, s_44_29, s_44_30, s_44_33, s_44_34, s_44_37, s_44_38, s_44_39, s_44_42, s_44_43, s_44_44, s_44_47, s_44_48, s_44_51, s_44_52, s_44_55, s_44_56, s_44_59, s_44_60, s_44_61, s_44_62, s_44_65, s_44_66, s_44_69, s_44_70, s_44_72, s_44_73, s_44_75, s_44_78, s_44_81, s_44_82, s_44_83, s_44_86, s_44_89, s_44_90, s_44_93, s_44_96, s_44_97, s_44_98, s_44_101, s_44_104, s_44_105, s_44_108, s_44_111, s_44_112, s_44_113, s_44_114, s_44_117, s_44_120, s_44_121, s_44_124, s_44_127, s_44_128, s_44_131, s_44_134, s_44_135, s_44_138, s_44_141, s_44_142, s_44_143, s_44_146, s_44_149, s_44_150, s_44_153, s_44_156, s_44_157, s_44_158, s_44_161, s_44_164, s_44_165, s_44_168, s_44_171, s_44_172, s_44_173, s_44_174, s_44_177, s_44_180, s_44_181, s_44_182, s_44_183, s_44_186, s_44_189, s_44_192, s_44_193, s_44_196, s_44_199, s_44_200, s_44_203, e_44, mv_i_1, mv_l_1, mv_a_1, mv_a_2, mv_a_3, mk2_n, mk2_i, mk2_l, mk2_a, mk2_u, mk2_x, mB_T, mB_F, mS_cons, mS_nil, mSB_T, mSB_F, mca_nil, mca_i, mca_l, mca_r, mca_u, mca_x, mcat_i, mcat_l, mcat_r, mcat_u, mcat_x, mK_some, mK_none, va_rf_s, va_rf_n, lgc_eq, lgc_lt, lgc_gt, lgc_ge, lgc_le, mrd_104, mrd_105, mrd_106, mrd_107, true_and, and_true, and_self, false_and, and_false, true_or, or_true, false_or, or_false, not_true_eq_false, not_false_eq_true, mgb, mga, mgr, mN, reduceCtorEq, ↓reduceIte, eq_self, ge_iff_le, gt_iff_lt, Nat.reduceAdd, Nat.reduceMul, Nat.reduceSub, Nat.reduceLT, Nat.reduceGT, Nat.reduceEqDiff, Nat.reduceLeDiff, Nat.left_eq_add, Nat.add_eq_left, Nat.reduceMod, Nat.reduceDiv, Nat.succ_ne_self, ci_c0, cs_c0, ci_c1, cs_c1, ci_c2, cs_c2, ci_c3, cs_c3, ci_c4, cs_c4, ci_c5, cs_c5, ci_c6, cs_c6, ci_c7, cs_c7, ci_c8, ci_c9, cs_c9, ci_c10, cs_c10, ci_c11, cs_c11, ci_c12, cs_c12, ci_c13, cs_c13, ci_r6, cs_r6, ci_r7, cs_r7, ci_r8, cs_r8, ci_r9, cs_r9, ci_r10, cs_r10, ci_r11, cs_r11, ci_r12, cs_r12, ci_r13, cs_r13, ci_r15, cs_r15, ci_r17, cs_r17, ci_r19, cs_r19, ci_r20, cs_r20, ci_r21, cs_r21, ci_r22, cs_r22, ci_r23, cs_r23, ci_p7, cs_p7, ci_p11, cs_p11, ci_p12, cs_p12, ci_p13, cs_p13, ci_S, cs_S, ci_t, ci_t1, ci_t2, ci_t3, ci_t4, cg_0 b, cg_1 b, cln_1 b, cg_2 b, cln_2 b, cg_3 b, cln_3 b, cg_4 b, cln_4 b, cg_5 b, cg_6 b, cln_6 b, cg_7 b, cln_7 b, cg_8 b, cln_8 b, cg_9 b, cln_9 b, cg_10 b, cln_10 b, cg_11 b, cln_11 b, cg_12 b, cln_12 b, cg_13 b, cln_13 b, cg_14 b, cln_14 b, cg_15 b, cln_15 b, cg_16 b, cg_17 b, cln_17 b, cg_18 b, cg_19 b, cln_19 b, cg_20 b, cln_20 b, cg_21 b, cln_21 b, cg_22 b, cln_22 b, cg_23 b, cln_23 b, ck_14 b, cr_0_0 b, cr_0_1 b, cr_0_2 b, cr_0_3 b, cr_5_0 b, cr_5_2 b, cr_5_3 b, cr_5_4 b, cr_5_6 b, cr_5_7 b, cr_5_9 b, cr_5_10 b, cr_5_12 b, cr_5_14 b, cr_16_0 b, cr_16_1 b, cr_16_2 b, cr_16_3 b, cr_16_9 b, cr_18_0 b, cr_18_1 b, cr_18_2 b, cr_18_3 b, cr_18_5 b, cr_16_8, cr_14, cg_S, u1_1, u1_2, u2_1, u2_2, m1, w0', a0, f7]
    exact q
  · have w0' := eq_false w0
    have n7 : ¬ s.2 16 7 = -1 := hx.resolve_left (fun z => w0 (by rw [z]; decide))
    have n7' := eq_false n7
    simp (disch := first | omega | (simp only [u1_1, u1_2, u2_1, u2_2, ↓reduceIte, Nat.reduceAdd, Nat.reduceMul, Nat.reduceSub, Nat.reduceLT, Nat.reduceGT, Nat.reduceEqDiff, Nat.reduceLeDiff, Nat.left_eq_add, Nat.add_eq_left, Nat.reduceMod, Nat.reduceDiv, Nat.succ_ne_self]; omega)) only [s_44_0, s_44_1, s_44_4, s_44_7, s_44_8, s_44_11, s_44_14, s_44_15, s_44_17, s_44_19, s_44_22, s_44_23, s_44_26, s_44_29, s_44_30, s_44_33, s_44_34, s_44_37, s_44_38, s_44_39, s_44_42, s_44_43, s_44_44, s_44_47, s_44_48, s_44_51, s_44_52, s_44_55, s_44_56, s_44_59, s_44_60, s_44_61, s_44_62, s_44_65, s_44_66, s_44_69, s_44_70, s_44_72, s_44_73, s_44_75, s_44_78, s_44_81, s_44_82, s_44_83, s_44_86, s_44_89, s_44_90, s_44_93, s_44_96, s_44_97, s_44_98, s_44_101, s_44_104, s_44_105, s_44_108, s_44_111, s_44_112, s_44_113, s_44_114, s_44_117, s_44_120, s_44_121, s_44_124, s_44_127, s_44_128, s_44_131, s_44_134, s_44_135, s_44_138, s_44_141, s_44_142, s_44_143, s_44_146, s_44_149, s_44_150, s_44_153, s_44_156, s_44_157, s_44_158, s_44_161, s_44_164, s_44_165, s_44_168, s_44_171, s_44_172, s_44_173, s_44_174, s_44_177, s_44_180, s_44_181, s_44_182, s_44_183, s_44_186, s_44_189, s_44_192, s_44_193, s_44_196, s_44_199, s_44_200, s_44_203, e_44, mv_i_1, mv_l_1, mv_a_1, mv_a_2, mv_a_3, mk2_n, mk2_i, mk2_l, mk2_a, mk2_u, mk2_x, mB_T, mB_F, mS_cons, mS_nil, mSB_T, mSB_F, mca_nil, mca_i, mca_l, mca_r, mca_u, mca_x, mcat_i, mcat_l, mcat_r, mcat_u, mcat_x, mK_some, mK_none, va_rf_s, va_rf_n, lgc_eq, lgc_lt, lgc_gt, lgc_ge, lgc_le, mrd_104, mrd_105, mrd_106, mrd_107, true_and, and_true, and_self, false_and, and_false, true_or, or_true, false_or, or_false, not_true_eq_false, not_false_eq_true, mgb, mga, mgr, mN, reduceCtorEq, ↓reduceIte, eq_self, ge_iff_le, gt_iff_lt, Nat.reduceAdd, Nat.reduceMul, Nat.reduceSub, Nat.reduceLT, Nat.reduceGT, Nat.reduceEqDiff, Nat.reduceLeDiff, Nat.left_eq_add, Nat.add_eq_left, Nat.reduceMod, Nat.reduceDiv, Nat.succ_ne_self, ci_c0, cs_c0, ci_c1, cs_c1, ci_c2, cs_c2, ci_c3, cs_c3, ci_c4, cs_c4, ci_c5, cs_c5, ci_c6, cs_c6, ci_c7, cs_c7, ci_c8, ci_c9, cs_c9, ci_c10, cs_c10, ci_c11, cs_c11, ci_c12, cs_c12, ci_c13, cs_c13, ci_r6, cs_r6, ci_r7, cs_r7, ci_r8, cs_r8, ci_r9, cs_r9, ci_r10, cs_r10, ci_r11, cs_r11, ci_r12, cs_r12, ci_r13, cs_r13, ci_r15, cs_r15, ci_r17, cs_r17, ci_r19, cs_r19, ci_r20, cs_r20, ci_r21, cs_r21, ci_r22, cs_r22, ci_r23, cs_r23, ci_p7, cs_p7, ci_p11, cs_p11, ci_p12, cs_p12, ci_p13, cs_p13, ci_S, cs_S, ci_t, ci_t1, ci_t2, ci_t3, ci_t4, cg_0 b, cg_1 b, cln_1 b, cg_2 b, cln_2 b, cg_3 b, cln_3 b, cg_4 b, cln_4 b, cg_5 b, cg_6 b, cln_6 b, cg_7 b, cln_7 b, cg_8 b, cln_8 b, cg_9 b, cln_9 b, cg_10 b, cln_10 b, cg_11 b, cln_11 b, cg_12 b, cln_12 b, cg_13 b, cln_13 b, cg_14 b, cln_14 b, cg_15 b, cln_15 b, cg_16 b, cg_17 b, cln_17 b, cg_18 b, cg_19 b, cln_19 b, cg_20 b, cln_20 b, cg_21 b, cln_21 b, cg_22 b, cln_22 b, cg_23 b, cln_23 b, ck_14 b, cr_0_0 b, cr_0_1 b, cr_0_2 b, cr_0_3 b, cr_5_0 b, cr_5_2 b, cr_5_3 b, cr_5_4 b, cr_5_6 b, cr_5_7 b, cr_5_9 b, cr_5_10 b, cr_5_12 b, cr_5_14 b, cr_16_0 b, cr_16_1 b, cr_16_2 b, cr_16_3 b, cr_16_9 b, cr_18_0 b, cr_18_1 b, cr_18_2 b, cr_18_3 b, cr_18_5 b, cr_16_8, cr_14, cg_S, u1_1, u1_2, u2_1, u2_2, m1, w0', n7', a0, f7]
    exact q
/-- what parse leaves: a fault, or -1 and the program -/
def RPz (d : Nat) (h : mh_H) (B n m : Nat) (sp : Nat → Nat → Bool) (P : Nat → Nat) (N : Nat) (s : cps) (r : pqr) : Prop := match r with
  | (j, none) => j < m ∧ ∃ s', s'.1 8 ≤ n / 3 + 2 ∧ ∀ Q, mcall d 44 [.ref (B + 16)] (cH h B s) Q = Q (some (.int (Int32.ofNat (P j)))) (cH h B s')
  | (j, some t) => j < m ∧ ∃ s', FNH P m s' j ∧ 0 < s'.1 9 ∧ FGV s' ∧ fnZ sp s' N t 0 0 (s'.1 9) (s'.1 8) ∧ ∀ Q, mcall d 44 [.ref (B + 16)] (cH h B s) Q = Q (some (.int (-1))) (cH h B (fiS s'))
theorem fi_8 : (fiS s).1 = s.1 := by
  unfold fiS
  split
  · rfl
  · rfl
theorem v_44 (b : CPB h B n) (t : CTK h B n m Bt K P U V) (hP : TPL K P m) (hN8 : 8 * m + 6 ≤ N + 1) (hf : m ≤ f) (Z : PZ0 s) : RPz (d + 10) h B n m (spe Bt n P U) P N s (pgZ K P V (N + 1) f 0) := by
  have hm := t.m
  have hn := b.n
  have gw2 : 2 < gL n := gL_w (dp := 0) t (show 0 < m by omega) (Nat.zero_le _) (by decide) (by omega)
  have z0 := Z.z 0
  have a2 := c_45 (d := d + 8) (s := s) b (g := 140) (by omega)
  have a3 := c_45 (d := d + 8) (s := asS s 140 0) b (g := 141) (by rw [as_0]; omega)
  obtain ⟨x0, x1, x2, x3⟩ := asQ (s := s) (w := 0) (x := 140) (y := 0) z0
  have E0 : SCE s m [] := SCE.of ⟨Z.z 10, Z.z 12, Z.z 13, trivial⟩
  have E1 : SCE (asS s 140 0) m [] := SCE_as E0
  generalize asS s 140 0 = sa at a2 a3 x0 x1 x2 x3 E1
  obtain ⟨y0, y1, y2, y3⟩ := asQ (s := sa) (x := 141) (y := 0) x0
  have E2 : SCE (asS sa 141 0) m [] := SCE_as E1
  generalize asS sa 141 0 = sb at a3 y0 y1 y2 y3 E2
  have k1 : ∀ c, c ≠ 0 → sb.1 c = 0 := fun c hc => by rw [y1 c hc, x1 c hc]; exact Z.z c
  have k2 : ∀ z k, z ≠ 23 → sb.2 z k = s.2 z k := fun z k hz => by rw [y2 z k (by omega), x2 z k (by omega)]
  have z1 := k1 1 (by decide)
  have z2 := k1 2 (by decide)
  have z3 := k1 3 (by decide)
  have z4 := k1 4 (by decide)
  have z5 := k1 5 (by decide)
  have z6 := k1 6 (by decide)
  have z7 := k1 7 (by decide)
  have z8 := k1 8 (by decide)
  have z9 := k1 9 (by decide)
  have z11 := k1 11 (by decide)
  have H : FNH P m sb 0 := FNH.of ⟨z1, by omega, z2, z3, E2, z11, ⟨by omega, by omega, by omega, by omega⟩, by omega, by omega, fun g hg => absurd hg (by omega)⟩
  have T : TOP sb 1 141 0 := TOP.of ⟨y0, (k2 16 7 (by omega)).trans Z.f, y3, ⟨by decide, by decide⟩⟩
  have g0 : sb.2 23 0 = glI (Int32.ofNat 140) (Int32.ofNat 0) := (y2 23 0 (by omega)).trans x3
  have R := x_pgz (d := d) (V := V) b t hP hN8 f 0 sb (by omega) H T g0 (Or.inl z9)
  have gd := pgZ_b (P := P) (V := V) (N := N + 1) t.M f 0 (show 0 < m by omega)
  have ent : ∀ (Q : Option Value → mh_H → Prop), pHD (d + 10) h B 0 sb Q → mcall (d + 10) 44 [.ref (B + 16)] (cH h B s) Q := fun Q q => by
    have q' := q none none
    have i0 : Int32.ofNat 0 = 0 := rfl
    rw [i0] at q'
    clear R gd t H T E0 E1 E2
    simp (disch := first | omega | (simp only [u1_1, u1_2, u2_1, u2_2, ↓reduceIte, Nat.reduceAdd, Nat.reduceMul, Nat.reduceSub, Nat.reduceLT, Nat.reduceGT, Nat.reduceEqDiff, Nat.reduceLeDiff, Nat.left_eq_add, Nat.add_eq_left, Nat.reduceMod, Nat.reduceDiv, Nat.succ_ne_self]; omega)) only [s_44_0, s_44_1, s_44_4, s_44_7, s_44_8, s_44_11, s_44_14, s_44_15, s_44_17, s_44_19, s_44_22, s_44_23, s_44_26, s_44_29, s_44_30, s_44_33, s_44_34, s_44_37, s_44_38, s_44_39, s_44_42, s_44_43, s_44_44, s_44_47, s_44_48, s_44_51, s_44_52, s_44_55, s_44_56, s_44_59, s_44_60, s_44_61, s_44_62, s_44_65, s_44_66, s_44_69, s_44_70, s_44_72, s_44_73, s_44_74, s_44_75, s_44_78, s_44_81, s_44_82, s_44_83, s_44_86, s_44_89, s_44_90, s_44_93, s_44_96, s_44_97, s_44_98, s_44_101, s_44_104, s_44_105, s_44_108, s_44_111, s_44_112, s_44_113, s_44_114, s_44_117, s_44_120, s_44_121, s_44_124, s_44_127, s_44_128, s_44_131, s_44_134, s_44_135, s_44_138, s_44_141, s_44_142, s_44_143, s_44_146, s_44_149, s_44_150, s_44_153, s_44_156, s_44_157, s_44_158, s_44_161, s_44_164, s_44_165, s_44_168, s_44_171, s_44_172, s_44_173, s_44_174, s_44_177, s_44_180, s_44_181, s_44_182, s_44_183, s_44_186, s_44_189, s_44_192, s_44_193, s_44_196, s_44_199, s_44_200, s_44_203, e_44, mv_i_1, mv_l_1, mv_a_1, mv_a_2, mv_a_3, mk2_n, mk2_i, mk2_l, mk2_a, mk2_u, mk2_x, mB_T, mB_F, mS_cons, mS_nil, mSB_T, mSB_F, mca_nil, mca_i, mca_l, mca_r, mca_u, mca_x, mcat_i, mcat_l, mcat_r, mcat_u, mcat_x, mK_some, mK_none, va_rf_s, va_rf_n, lgc_eq, lgc_lt, lgc_gt, lgc_ge, lgc_le, mrd_104, mrd_105, mrd_106, mrd_107, true_and, and_true, and_self, false_and, and_false, true_or, or_true, false_or, or_false, not_true_eq_false, not_false_eq_true, mgb, mga, mgr, mN, reduceCtorEq, ↓reduceIte, eq_self, ge_iff_le, gt_iff_lt, Nat.reduceAdd, Nat.reduceMul, Nat.reduceSub, Nat.reduceLT, Nat.reduceGT, Nat.reduceEqDiff, Nat.reduceLeDiff, Nat.left_eq_add, Nat.add_eq_left, Nat.reduceMod, Nat.reduceDiv, Nat.succ_ne_self, ci_c0, cs_c0, ci_c1, cs_c1, ci_c2, cs_c2, ci_c3, cs_c3, ci_c4, cs_c4, ci_c5, cs_c5, ci_c6, cs_c6, ci_c7, cs_c7, ci_c8, ci_c9, cs_c9, ci_c10, cs_c10, ci_c11, cs_c11, ci_c12, cs_c12, ci_c13, cs_c13, ci_r6, cs_r6, ci_r7, cs_r7, ci_r8, cs_r8, ci_r9, cs_r9, ci_r10, cs_r10, ci_r11, cs_r11, ci_r12, cs_r12, ci_r13, cs_r13, ci_r15, cs_r15, ci_r17, cs_r17, ci_r19, cs_r19, ci_r20, cs_r20, ci_r21, cs_r21, ci_r22, cs_r22, ci_r23, cs_r23, ci_p7, cs_p7, ci_p11, cs_p11, ci_p12, cs_p12, ci_p13, cs_p13, ci_S, cs_S, ci_t, ci_t1, ci_t2, ci_t3, ci_t4, cg_0 b, cg_1 b, cln_1 b, cg_2 b, cln_2 b, cg_3 b, cln_3 b, cg_4 b, cln_4 b, cg_5 b, cg_6 b, cln_6 b, cg_7 b, cln_7 b, cg_8 b, cln_8 b, cg_9 b, cln_9 b, cg_10 b, cln_10 b, cg_11 b, cln_11 b, cg_12 b, cln_12 b, cg_13 b, cln_13 b, cg_14 b, cln_14 b, cg_15 b, cln_15 b, cg_16 b, cg_17 b, cln_17 b, cg_18 b, cg_19 b, cln_19 b, cg_20 b, cln_20 b, cg_21 b, cln_21 b, cg_22 b, cln_22 b, cg_23 b, cln_23 b, ck_14 b, cr_0_0 b, cr_0_1 b, cr_0_2 b, cr_0_3 b, cr_5_0 b, cr_5_2 b, cr_5_3 b, cr_5_4 b, cr_5_6 b, cr_5_7 b, cr_5_9 b, cr_5_10 b, cr_5_12 b, cr_5_14 b, cr_16_0 b, cr_16_1 b, cr_16_2 b, cr_16_3 b, cr_16_9 b, cr_18_0 b, cr_18_1 b, cr_18_2 b, cr_18_3 b, cr_18_5 b, cr_16_8, cr_14, cg_S, u1_1, u1_2, u2_1, u2_2, a2, a3]
    exact q'
  generalize pgZ K P V (N + 1) f 0 = r1 at R gd ⊢
  rcases r1 with ⟨j, _ | tt⟩
  · obtain ⟨k, s', p, b1, f1, f2, f3, f4, G⟩ := R
    have gj : j < m := gd.2.1
    have hq := t.q j gj
    refine ⟨gj, fiS s', by rw [fi_8]; exact f3, mw_one (fun Q q => ent Q (p 0 Q (by omega) ?_))⟩
    have n7 : ¬ s'.2 16 7 = -1 := by
      rw [f1]
      exact fun z => by
        have e : (Int32.ofNat (P j) = -1) = False := nn_m2 (by omega)
        exact e ▸ z
    rw [← f1] at q
    exact pz_end (d := d + 8) b (by omega) (Or.inr n7) (by omega) f4 f3 G Q q
  · obtain ⟨k, s', p, b1, ⟨w1, f1⟩, H1, F1, l1, G, fz⟩ := R
    have gj : j < m := gd.2.1
    have hq := t.q j gj
    have hc := H1.c
    have hN := H1.N
    have hF := H1.F
    rw [z9, z8] at fz
    refine ⟨gj, s', H1, by omega, G, fz, mw_one (fun Q q => ent Q (p 0 Q (by omega) ?_))⟩
    rw [← f1] at q
    exact pz_end (d := d + 8) b (by omega) (Or.inl w1) (by omega) (by omega) (by omega) G Q q
end FEz
