set_option maxRecDepth 100000
/-! simple calls: point, shown -/
def ptA (i a b c n m k l : Int32) : Int32 := if i = 0 then a else if i = 1 then b else if i = 2 then c else if i = 3 then n else if i = 4 then m else if i = 5 then k else if i = 6 then l else -1
/-- whether something is known -/
def nzI (v : Option ab) : Int32 := match v with
  | none => 0
  | some _ => 1
section PTs
variable {d : Nat} {h : mh_H} {i : Int32} {Y C E TT UU SC SP nC nE nS cnt p n l bs : Nat} {G : pgm} {kn cl : Option ab} {pl av : Int32}
theorem RS_z0 {o : Nat} {A : Option ab} (x : RS h o A) : mg h o 8 ∧ (mh_i h o 0 = 0) = (nzI A = 1) ∧ (nzI A = 1 ∨ nzI A = 0) := by
  cases A with
  | none =>
    have z := x.1.z
    exact ⟨x.1.s.1, by rw [z]; decide, Or.inr rfl⟩
  | some A =>
    have z := x.1.z
    exact ⟨x.1.s.1, by rw [z]; exact propext ⟨fun _ => rfl, fun _ => rfl⟩, Or.inl rfl⟩
theorem RK_z0 {o : Nat} {A : Option ab} (x : RK h o A) : mg h o 13 ∧ (mh_i h o 0 = 0) = (nzI A = 1) ∧ (nzI A = 1 ∨ nzI A = 0) := by
  cases A with
  | none =>
    have z := x.2.1
    exact ⟨x.1.1, by rw [z]; decide, Or.inr rfl⟩
  | some A =>
    have z := x.2.1
    exact ⟨x.1.1, by rw [z]; exact propext ⟨fun _ => rfl, fun _ => rfl⟩, Or.inl rfl⟩
theorem v_191n (B : BS h Y C E TT UU SC SP nC nE nS) (H : PH h G cnt) {pp : Int32} (hp : okP cnt pp = false) : ∀ Q, mcall (d + 1) 191 [.ref 0, .int pp, .int i] h Q = Q (some (.int (-1))) h := fun Q => by
  have r0 := v_192 (d := d) (p := pp) B H
  rw [hp] at r0
  have k0 : kb false = 0 := rfl
  have e00 : ((0 : Int32) = 0) = True := by decide
  have g0 := B.F.g 0 11 15 (by decide +kernel)
  clear B H
  simp (disch := omega) only [e_191, s_191_0, s_191_1, s_191_2, s_191_5, s_191_8, s_191_9, s_191_10, s_191_11, s_191_52, s_191_53, s_191_56, s_191_59, s_191_60, s_191_61, s_191_64, s_191_65, s_191_66, s_191_69, s_191_72, s_191_73, s_191_74, s_191_77, s_191_78, s_191_79, s_191_82, s_191_85, s_191_86, s_191_86x, s_191_87, s_191_88, s_191_89, s_191_92, s_191_93, s_191_96, s_191_97, s_191_98, s_191_101, s_191_102, s_191_105, s_191_106, s_191_107, s_191_110, s_191_113, s_191_114, s_191_115, s_191_118, s_191_121, s_191_122, s_191_125, s_191_126, s_191_127, s_191_128, s_191_131, s_191_132, s_191_133, s_191_136, s_191_139, s_191_140, s_191_143, s_191_144, s_191_145, s_191_146, e_191, mv_i_1, mv_l_1, mv_a_1, mv_a_2, mv_a_3, mk2_n, mk2_i, mk2_l, mk2_a, mk2_u, mk2_x, mB_T, mB_F, mS_cons, mS_nil, mSB_T, mSB_F, mca_nil, mca_i, mca_l, mca_r, mca_u, mca_x, mcat_i, mcat_l, mcat_r, mcat_u, mcat_x, mK_some, mK_none, va_rf_s, va_rf_n, lgc_eq, lgc_lt, lgc_gt, lgc_ge, lgc_le, mrd_104, mrd_105, mrd_106, mrd_107, true_and, and_true, and_self, false_and, and_false, true_or, or_true, false_or, or_false, not_true_eq_false, not_false_eq_true, mgb, mga, mgr, mN, reduceCtorEq, ↓reduceIte, eq_self, ge_iff_le, gt_iff_lt, hk_si, hk_sj, hk_sr, hl_si, hl_sj, hl_sr, hn_si, hn_sj, hn_sr, hs_si, hs_sj, hs_sr, hi_sj, hi_sr, hj_si, hj_sr, hr_si, hr_sj, hi_si, hj_sj, hr_sr, mg_si, mg_sj, mg_sr, Nat.reduceAdd, Nat.reduceMul, Nat.reduceSub, Nat.reduceLT, Nat.reduceGT, Nat.reduceEqDiff, Nat.reduceLeDiff, Nat.left_eq_add, Nat.add_eq_left, Nat.reduceMod, Nat.reduceDiv, Nat.succ_ne_self, g0, r0, k0, e00]
theorem v_191 (B : BS h Y C E TT UU SC SP nC nE nS) (H : PH h G cnt) (hp : p < cnt) (hl : ∀ St, mh_r h 20 p = some St → mh_i h St 2 = pl) (al : mh_i h 55 p = av) (K : pv h 54 p kn) (L : pv h 73 p cl) : ∀ Q, mcall (d + 1) 191 [.ref 0, .int (Int32.ofNat p), .int i] h Q = Q (some (.int (ptA i (Int32.ofNat (G.kd p)) pl av (Int32.ofNat (G.n p)) (Int32.ofNat (G.a p)) (nzI kn) (nzI cl)))) h := fun Q => by
  have r0 := v_192 (d := d) (p := Int32.ofNat p) B H
  have hc := H.b.2
  have ok : okP cnt (Int32.ofNat p) = true := by
    unfold okP
    exact decide_eq_true ⟨of_eq_false (nn_neg (by omega)), fun z => by rw [nn_le (by omega) (by omega)] at z; omega⟩
  rw [ok] at r0
  have k1 : kb true = 1 := rfl
  have e10 : ((1 : Int32) = 0) = False := by decide
  obtain ⟨St, nb, nm, na, nx, s1, s2, s3, s4, s5, s6, s7, s8, s9⟩ := H.s p hp
  have sl := hl St s1
  have F := B.F
  have c80 := c_80 (d := d) F (show p < 250 by omega) s4 s1 s2 s5
  have c81 := c_81 (d := d) F (show p < 250 by omega) s7 s1 s2 s8
  rw [s6] at c80
  rw [s9] at c81
  obtain ⟨o, o1, o2⟩ := K
  obtain ⟨o', o1', o2'⟩ := L
  obtain ⟨z1, z2, z3⟩ := RS_z0 o2
  obtain ⟨z1', z2', z3'⟩ := RS_z0 o2'
  have g0 := F.g 0 11 15 (by decide +kernel)
  have t2 := F.f 0 2 2 (by decide +kernel)
  have t4 := F.f 0 4 53 (by decide +kernel)
  have t6 := F.f 0 6 73 (by decide +kernel)
  have g2 := F.g 2 4 20 (by decide +kernel)
  have t23 := F.f 2 3 20 (by decide +kernel)
  have g20 := (F.g 20 105 250 (by decide +kernel)).1
  have g20b := (F.g 20 105 250 (by decide +kernel)).2
  have l20 := F.l 20 105 250 (by decide +kernel)
  have g53 := F.g 53 0 17 (by decide +kernel)
  have t530 := F.f 53 0 54 (by decide +kernel)
  have t531 := F.f 53 1 55 (by decide +kernel)
  have g54 := (F.g 54 104 250 (by decide +kernel)).1
  have g54b := (F.g 54 104 250 (by decide +kernel)).2
  have l54 := F.l 54 104 250 (by decide +kernel)
  have g55 := F.g 55 100 250 (by decide +kernel)
  have l55 := F.l 55 100 250 (by decide +kernel)
  have g73 := (F.g 73 104 250 (by decide +kernel)).1
  have g73b := (F.g 73 104 250 (by decide +kernel)).2
  have l73 := F.l 73 104 250 (by decide +kernel)
  unfold ptA
  clear B H F hl o2 o2' ok
  rcases Classical.propComplete (i = 0) with c0 | c0
  · rw [if_pos (of_eq_true c0)]
    simp (disch := omega) only [e_191, s_191_0, s_191_1, s_191_2, s_191_5, s_191_8, s_191_9, s_191_10, s_191_11, s_191_52, s_191_53, s_191_56, s_191_59, s_191_60, s_191_61, s_191_64, s_191_65, s_191_66, s_191_69, s_191_72, s_191_73, s_191_74, s_191_77, s_191_78, s_191_79, s_191_82, s_191_85, s_191_86, s_191_86x, s_191_87, s_191_88, s_191_89, s_191_92, s_191_93, s_191_96, s_191_97, s_191_98, s_191_101, s_191_102, s_191_105, s_191_106, s_191_107, s_191_110, s_191_113, s_191_114, s_191_115, s_191_118, s_191_121, s_191_122, s_191_125, s_191_126, s_191_127, s_191_128, s_191_131, s_191_132, s_191_133, s_191_136, s_191_139, s_191_140, s_191_143, s_191_144, s_191_145, s_191_146, e_191, mv_i_1, mv_l_1, mv_a_1, mv_a_2, mv_a_3, mk2_n, mk2_i, mk2_l, mk2_a, mk2_u, mk2_x, mB_T, mB_F, mS_cons, mS_nil, mSB_T, mSB_F, mca_nil, mca_i, mca_l, mca_r, mca_u, mca_x, mcat_i, mcat_l, mcat_r, mcat_u, mcat_x, mK_some, mK_none, va_rf_s, va_rf_n, lgc_eq, lgc_lt, lgc_gt, lgc_ge, lgc_le, mrd_104, mrd_105, mrd_106, mrd_107, true_and, and_true, and_self, false_and, and_false, true_or, or_true, false_or, or_false, not_true_eq_false, not_false_eq_true, mgb, mga, mgr, mN, reduceCtorEq, ↓reduceIte, eq_self, ge_iff_le, gt_iff_lt, hk_si, hk_sj, hk_sr, hl_si, hl_sj, hl_sr, hn_si, hn_sj, hn_sr, hs_si, hs_sj, hs_sr, hi_sj, hi_sr, hj_si, hj_sr, hr_si, hr_sj, hi_si, hj_sj, hr_sr, mg_si, mg_sj, mg_sr, Nat.reduceAdd, Nat.reduceMul, Nat.reduceSub, Nat.reduceLT, Nat.reduceGT, Nat.reduceEqDiff, Nat.reduceLeDiff, Nat.left_eq_add, Nat.add_eq_left, Nat.reduceMod, Nat.reduceDiv, Nat.succ_ne_self, mS_cons, mS_nil, mSB_T, mSB_F, r0, k1, e10, c0, g0, t2, g2, t23, g20, g20b, l20, s1, s2, s3, nn_mxT, nn_clamp]
  rw [if_neg (of_eq_false c0)]
  rcases Classical.propComplete (i = 1) with c1 | c1
  · rw [if_pos (of_eq_true c1)]
    simp (disch := omega) only [e_191, s_191_0, s_191_1, s_191_2, s_191_5, s_191_8, s_191_9, s_191_10, s_191_11, s_191_52, s_191_53, s_191_56, s_191_59, s_191_60, s_191_61, s_191_64, s_191_65, s_191_66, s_191_69, s_191_72, s_191_73, s_191_74, s_191_77, s_191_78, s_191_79, s_191_82, s_191_85, s_191_86, s_191_86x, s_191_87, s_191_88, s_191_89, s_191_92, s_191_93, s_191_96, s_191_97, s_191_98, s_191_101, s_191_102, s_191_105, s_191_106, s_191_107, s_191_110, s_191_113, s_191_114, s_191_115, s_191_118, s_191_121, s_191_122, s_191_125, s_191_126, s_191_127, s_191_128, s_191_131, s_191_132, s_191_133, s_191_136, s_191_139, s_191_140, s_191_143, s_191_144, s_191_145, s_191_146, e_191, mv_i_1, mv_l_1, mv_a_1, mv_a_2, mv_a_3, mk2_n, mk2_i, mk2_l, mk2_a, mk2_u, mk2_x, mB_T, mB_F, mS_cons, mS_nil, mSB_T, mSB_F, mca_nil, mca_i, mca_l, mca_r, mca_u, mca_x, mcat_i, mcat_l, mcat_r, mcat_u, mcat_x, mK_some, mK_none, va_rf_s, va_rf_n, lgc_eq, lgc_lt, lgc_gt, lgc_ge, lgc_le, mrd_104, mrd_105, mrd_106, mrd_107, true_and, and_true, and_self, false_and, and_false, true_or, or_true, false_or, or_false, not_true_eq_false, not_false_eq_true, mgb, mga, mgr, mN, reduceCtorEq, ↓reduceIte, eq_self, ge_iff_le, gt_iff_lt, hk_si, hk_sj, hk_sr, hl_si, hl_sj, hl_sr, hn_si, hn_sj, hn_sr, hs_si, hs_sj, hs_sr, hi_sj, hi_sr, hj_si, hj_sr, hr_si, hr_sj, hi_si, hj_sj, hr_sr, mg_si, mg_sj, mg_sr, Nat.reduceAdd, Nat.reduceMul, Nat.reduceSub, Nat.reduceLT, Nat.reduceGT, Nat.reduceEqDiff, Nat.reduceLeDiff, Nat.left_eq_add, Nat.add_eq_left, Nat.reduceMod, Nat.reduceDiv, Nat.succ_ne_self, mS_cons, mS_nil, mSB_T, mSB_F, r0, k1, e10, c0, c1, g0, t2, g2, t23, g20, g20b, l20, s1, s2, sl, nn_mxT, nn_clamp]
  rw [if_neg (of_eq_false c1)]
  rcases Classical.propComplete (i = 2) with c2 | c2
  · rw [if_pos (of_eq_true c2)]
    simp (disch := omega) only [e_191, s_191_0, s_191_1, s_191_2, s_191_5, s_191_8, s_191_9, s_191_10, s_191_11, s_191_52, s_191_53, s_191_56, s_191_59, s_191_60, s_191_61, s_191_64, s_191_65, s_191_66, s_191_69, s_191_72, s_191_73, s_191_74, s_191_77, s_191_78, s_191_79, s_191_82, s_191_85, s_191_86, s_191_86x, s_191_87, s_191_88, s_191_89, s_191_92, s_191_93, s_191_96, s_191_97, s_191_98, s_191_101, s_191_102, s_191_105, s_191_106, s_191_107, s_191_110, s_191_113, s_191_114, s_191_115, s_191_118, s_191_121, s_191_122, s_191_125, s_191_126, s_191_127, s_191_128, s_191_131, s_191_132, s_191_133, s_191_136, s_191_139, s_191_140, s_191_143, s_191_144, s_191_145, s_191_146, e_191, mv_i_1, mv_l_1, mv_a_1, mv_a_2, mv_a_3, mk2_n, mk2_i, mk2_l, mk2_a, mk2_u, mk2_x, mB_T, mB_F, mS_cons, mS_nil, mSB_T, mSB_F, mca_nil, mca_i, mca_l, mca_r, mca_u, mca_x, mcat_i, mcat_l, mcat_r, mcat_u, mcat_x, mK_some, mK_none, va_rf_s, va_rf_n, lgc_eq, lgc_lt, lgc_gt, lgc_ge, lgc_le, mrd_104, mrd_105, mrd_106, mrd_107, true_and, and_true, and_self, false_and, and_false, true_or, or_true, false_or, or_false, not_true_eq_false, not_false_eq_true, mgb, mga, mgr, mN, reduceCtorEq, ↓reduceIte, eq_self, ge_iff_le, gt_iff_lt, hk_si, hk_sj, hk_sr, hl_si, hl_sj, hl_sr, hn_si, hn_sj, hn_sr, hs_si, hs_sj, hs_sr, hi_sj, hi_sr, hj_si, hj_sr, hr_si, hr_sj, hi_si, hj_sj, hr_sr, mg_si, mg_sj, mg_sr, Nat.reduceAdd, Nat.reduceMul, Nat.reduceSub, Nat.reduceLT, Nat.reduceGT, Nat.reduceEqDiff, Nat.reduceLeDiff, Nat.left_eq_add, Nat.add_eq_left, Nat.reduceMod, Nat.reduceDiv, Nat.succ_ne_self, mS_cons, mS_nil, mSB_T, mSB_F, r0, k1, e10, c0, c1, c2, g0, t4, g53, t531, g55, l55, al, nn_mxT, nn_clamp]
  rw [if_neg (of_eq_false c2)]
  rcases Classical.propComplete (i = 3) with c3 | c3
  · rw [if_pos (of_eq_true c3)]
    simp (disch := omega) only [e_191, s_191_0, s_191_1, s_191_2, s_191_5, s_191_8, s_191_9, s_191_10, s_191_11, s_191_52, s_191_53, s_191_56, s_191_59, s_191_60, s_191_61, s_191_64, s_191_65, s_191_66, s_191_69, s_191_72, s_191_73, s_191_74, s_191_77, s_191_78, s_191_79, s_191_82, s_191_85, s_191_86, s_191_86x, s_191_87, s_191_88, s_191_89, s_191_92, s_191_93, s_191_96, s_191_97, s_191_98, s_191_101, s_191_102, s_191_105, s_191_106, s_191_107, s_191_110, s_191_113, s_191_114, s_191_115, s_191_118, s_191_121, s_191_122, s_191_125, s_191_126, s_191_127, s_191_128, s_191_131, s_191_132, s_191_133, s_191_136, s_191_139, s_191_140, s_191_143, s_191_144, s_191_145, s_191_146, e_191, mv_i_1, mv_l_1, mv_a_1, mv_a_2, mv_a_3, mk2_n, mk2_i, mk2_l, mk2_a, mk2_u, mk2_x, mB_T, mB_F, mS_cons, mS_nil, mSB_T, mSB_F, mca_nil, mca_i, mca_l, mca_r, mca_u, mca_x, mcat_i, mcat_l, mcat_r, mcat_u, mcat_x, mK_some, mK_none, va_rf_s, va_rf_n, lgc_eq, lgc_lt, lgc_gt, lgc_ge, lgc_le, mrd_104, mrd_105, mrd_106, mrd_107, true_and, and_true, and_self, false_and, and_false, true_or, or_true, false_or, or_false, not_true_eq_false, not_false_eq_true, mgb, mga, mgr, mN, reduceCtorEq, ↓reduceIte, eq_self, ge_iff_le, gt_iff_lt, hk_si, hk_sj, hk_sr, hl_si, hl_sj, hl_sr, hn_si, hn_sj, hn_sr, hs_si, hs_sj, hs_sr, hi_sj, hi_sr, hj_si, hj_sr, hr_si, hr_sj, hi_si, hj_sj, hr_sr, mg_si, mg_sj, mg_sr, Nat.reduceAdd, Nat.reduceMul, Nat.reduceSub, Nat.reduceLT, Nat.reduceGT, Nat.reduceEqDiff, Nat.reduceLeDiff, Nat.left_eq_add, Nat.add_eq_left, Nat.reduceMod, Nat.reduceDiv, Nat.succ_ne_self, mS_cons, mS_nil, mSB_T, mSB_F, r0, k1, e10, c0, c1, c2, c3, g0, t2, g2, c80]
  rw [if_neg (of_eq_false c3)]
  rcases Classical.propComplete (i = 4) with c4 | c4
  · rw [if_pos (of_eq_true c4)]
    simp (disch := omega) only [e_191, s_191_0, s_191_1, s_191_2, s_191_5, s_191_8, s_191_9, s_191_10, s_191_11, s_191_52, s_191_53, s_191_56, s_191_59, s_191_60, s_191_61, s_191_64, s_191_65, s_191_66, s_191_69, s_191_72, s_191_73, s_191_74, s_191_77, s_191_78, s_191_79, s_191_82, s_191_85, s_191_86, s_191_86x, s_191_87, s_191_88, s_191_89, s_191_92, s_191_93, s_191_96, s_191_97, s_191_98, s_191_101, s_191_102, s_191_105, s_191_106, s_191_107, s_191_110, s_191_113, s_191_114, s_191_115, s_191_118, s_191_121, s_191_122, s_191_125, s_191_126, s_191_127, s_191_128, s_191_131, s_191_132, s_191_133, s_191_136, s_191_139, s_191_140, s_191_143, s_191_144, s_191_145, s_191_146, e_191, mv_i_1, mv_l_1, mv_a_1, mv_a_2, mv_a_3, mk2_n, mk2_i, mk2_l, mk2_a, mk2_u, mk2_x, mB_T, mB_F, mS_cons, mS_nil, mSB_T, mSB_F, mca_nil, mca_i, mca_l, mca_r, mca_u, mca_x, mcat_i, mcat_l, mcat_r, mcat_u, mcat_x, mK_some, mK_none, va_rf_s, va_rf_n, lgc_eq, lgc_lt, lgc_gt, lgc_ge, lgc_le, mrd_104, mrd_105, mrd_106, mrd_107, true_and, and_true, and_self, false_and, and_false, true_or, or_true, false_or, or_false, not_true_eq_false, not_false_eq_true, mgb, mga, mgr, mN, reduceCtorEq, ↓reduceIte, eq_self, ge_iff_le, gt_iff_lt, hk_si, hk_sj, hk_sr, hl_si, hl_sj, hl_sr, hn_si, hn_sj, hn_sr, hs_si, hs_sj, hs_sr, hi_sj, hi_sr, hj_si, hj_sr, hr_si, hr_sj, hi_si, hj_sj, hr_sr, mg_si, mg_sj, mg_sr, Nat.reduceAdd, Nat.reduceMul, Nat.reduceSub, Nat.reduceLT, Nat.reduceGT, Nat.reduceEqDiff, Nat.reduceLeDiff, Nat.left_eq_add, Nat.add_eq_left, Nat.reduceMod, Nat.reduceDiv, Nat.succ_ne_self, mS_cons, mS_nil, mSB_T, mSB_F, r0, k1, e10, c0, c1, c2, c3, c4, g0, t2, g2, c81]
  rw [if_neg (of_eq_false c4)]
  rcases Classical.propComplete (i = 5) with c5 | c5
  · rw [if_pos (of_eq_true c5)]
    rcases z3 with w | w
    · rw [w] at z2 ⊢
      have z2' : (mh_i h o 0 = 0) = True := z2.trans (eq_true rfl)
      simp (disch := omega) only [e_191, s_191_0, s_191_1, s_191_2, s_191_5, s_191_8, s_191_9, s_191_10, s_191_11, s_191_52, s_191_53, s_191_56, s_191_59, s_191_60, s_191_61, s_191_64, s_191_65, s_191_66, s_191_69, s_191_72, s_191_73, s_191_74, s_191_77, s_191_78, s_191_79, s_191_82, s_191_85, s_191_86, s_191_86x, s_191_87, s_191_88, s_191_89, s_191_92, s_191_93, s_191_96, s_191_97, s_191_98, s_191_101, s_191_102, s_191_105, s_191_106, s_191_107, s_191_110, s_191_113, s_191_114, s_191_115, s_191_118, s_191_121, s_191_122, s_191_125, s_191_126, s_191_127, s_191_128, s_191_131, s_191_132, s_191_133, s_191_136, s_191_139, s_191_140, s_191_143, s_191_144, s_191_145, s_191_146, e_191, mv_i_1, mv_l_1, mv_a_1, mv_a_2, mv_a_3, mk2_n, mk2_i, mk2_l, mk2_a, mk2_u, mk2_x, mB_T, mB_F, mS_cons, mS_nil, mSB_T, mSB_F, mca_nil, mca_i, mca_l, mca_r, mca_u, mca_x, mcat_i, mcat_l, mcat_r, mcat_u, mcat_x, mK_some, mK_none, va_rf_s, va_rf_n, lgc_eq, lgc_lt, lgc_gt, lgc_ge, lgc_le, mrd_104, mrd_105, mrd_106, mrd_107, true_and, and_true, and_self, false_and, and_false, true_or, or_true, false_or, or_false, not_true_eq_false, not_false_eq_true, mgb, mga, mgr, mN, reduceCtorEq, ↓reduceIte, eq_self, ge_iff_le, gt_iff_lt, hk_si, hk_sj, hk_sr, hl_si, hl_sj, hl_sr, hn_si, hn_sj, hn_sr, hs_si, hs_sj, hs_sr, hi_sj, hi_sr, hj_si, hj_sr, hr_si, hr_sj, hi_si, hj_sj, hr_sr, mg_si, mg_sj, mg_sr, Nat.reduceAdd, Nat.reduceMul, Nat.reduceSub, Nat.reduceLT, Nat.reduceGT, Nat.reduceEqDiff, Nat.reduceLeDiff, Nat.left_eq_add, Nat.add_eq_left, Nat.reduceMod, Nat.reduceDiv, Nat.succ_ne_self, mS_cons, mS_nil, mSB_T, mSB_F, r0, k1, e10, c0, c1, c2, c3, c4, c5, g0, t4, g53, t530, g54, g54b, l54, o1, z1, z2', nn_mxT, nn_clamp]
    · rw [w] at z2 ⊢
      have z2' : (mh_i h o 0 = 0) = False := z2.trans (by decide)
      simp (disch := omega) only [e_191, s_191_0, s_191_1, s_191_2, s_191_5, s_191_8, s_191_9, s_191_10, s_191_11, s_191_52, s_191_53, s_191_56, s_191_59, s_191_60, s_191_61, s_191_64, s_191_65, s_191_66, s_191_69, s_191_72, s_191_73, s_191_74, s_191_77, s_191_78, s_191_79, s_191_82, s_191_85, s_191_86, s_191_86x, s_191_87, s_191_88, s_191_89, s_191_92, s_191_93, s_191_96, s_191_97, s_191_98, s_191_101, s_191_102, s_191_105, s_191_106, s_191_107, s_191_110, s_191_113, s_191_114, s_191_115, s_191_118, s_191_121, s_191_122, s_191_125, s_191_126, s_191_127, s_191_128, s_191_131, s_191_132, s_191_133, s_191_136, s_191_139, s_191_140, s_191_143, s_191_144, s_191_145, s_191_146, e_191, mv_i_1, mv_l_1, mv_a_1, mv_a_2, mv_a_3, mk2_n, mk2_i, mk2_l, mk2_a, mk2_u, mk2_x, mB_T, mB_F, mS_cons, mS_nil, mSB_T, mSB_F, mca_nil, mca_i, mca_l, mca_r, mca_u, mca_x, mcat_i, mcat_l, mcat_r, mcat_u, mcat_x, mK_some, mK_none, va_rf_s, va_rf_n, lgc_eq, lgc_lt, lgc_gt, lgc_ge, lgc_le, mrd_104, mrd_105, mrd_106, mrd_107, true_and, and_true, and_self, false_and, and_false, true_or, or_true, false_or, or_false, not_true_eq_false, not_false_eq_true, mgb, mga, mgr, mN, reduceCtorEq, ↓reduceIte, eq_self, ge_iff_le, gt_iff_lt, hk_si, hk_sj, hk_sr, hl_si, hl_sj, hl_sr, hn_si, hn_sj, hn_sr, hs_si, hs_sj, hs_sr, hi_sj, hi_sr, hj_si, hj_sr, hr_si, hr_sj, hi_si, hj_sj, hr_sr, mg_si, mg_sj, mg_sr, Nat.reduceAdd, Nat.reduceMul, Nat.reduceSub, Nat.reduceLT, Nat.reduceGT, Nat.reduceEqDiff, Nat.reduceLeDiff, Nat.left_eq_add, Nat.add_eq_left, Nat.reduceMod, Nat.reduceDiv, Nat.succ_ne_self, mS_cons, mS_nil, mSB_T, mSB_F, r0, k1, e10, c0, c1, c2, c3, c4, c5, g0, t4, g53, t530, g54, g54b, l54, o1, z1, z2', nn_mxT, nn_clamp]
  rw [if_neg (of_eq_false c5)]
  rcases Classical.propComplete (i = 6) with c6 | c6
  · rw [if_pos (of_eq_true c6)]
    rcases z3' with w | w
    · rw [w] at z2' ⊢
      have y2 : (mh_i h o' 0 = 0) = True := z2'.trans (eq_true rfl)
      simp (disch := omega) only [e_191, s_191_0, s_191_1, s_191_2, s_191_5, s_191_8, s_191_9, s_191_10, s_191_11, s_191_52, s_191_53, s_191_56, s_191_59, s_191_60, s_191_61, s_191_64, s_191_65, s_191_66, s_191_69, s_191_72, s_191_73, s_191_74, s_191_77, s_191_78, s_191_79, s_191_82, s_191_85, s_191_86, s_191_86x, s_191_87, s_191_88, s_191_89, s_191_92, s_191_93, s_191_96, s_191_97, s_191_98, s_191_101, s_191_102, s_191_105, s_191_106, s_191_107, s_191_110, s_191_113, s_191_114, s_191_115, s_191_118, s_191_121, s_191_122, s_191_125, s_191_126, s_191_127, s_191_128, s_191_131, s_191_132, s_191_133, s_191_136, s_191_139, s_191_140, s_191_143, s_191_144, s_191_145, s_191_146, e_191, mv_i_1, mv_l_1, mv_a_1, mv_a_2, mv_a_3, mk2_n, mk2_i, mk2_l, mk2_a, mk2_u, mk2_x, mB_T, mB_F, mS_cons, mS_nil, mSB_T, mSB_F, mca_nil, mca_i, mca_l, mca_r, mca_u, mca_x, mcat_i, mcat_l, mcat_r, mcat_u, mcat_x, mK_some, mK_none, va_rf_s, va_rf_n, lgc_eq, lgc_lt, lgc_gt, lgc_ge, lgc_le, mrd_104, mrd_105, mrd_106, mrd_107, true_and, and_true, and_self, false_and, and_false, true_or, or_true, false_or, or_false, not_true_eq_false, not_false_eq_true, mgb, mga, mgr, mN, reduceCtorEq, ↓reduceIte, eq_self, ge_iff_le, gt_iff_lt, hk_si, hk_sj, hk_sr, hl_si, hl_sj, hl_sr, hn_si, hn_sj, hn_sr, hs_si, hs_sj, hs_sr, hi_sj, hi_sr, hj_si, hj_sr, hr_si, hr_sj, hi_si, hj_sj, hr_sr, mg_si, mg_sj, mg_sr, Nat.reduceAdd, Nat.reduceMul, Nat.reduceSub, Nat.reduceLT, Nat.reduceGT, Nat.reduceEqDiff, Nat.reduceLeDiff, Nat.left_eq_add, Nat.add_eq_left, Nat.reduceMod, Nat.reduceDiv, Nat.succ_ne_self, mS_cons, mS_nil, mSB_T, mSB_F, r0, k1, e10, c0, c1, c2, c3, c4, c5, c6, g0, t6, g73, g73b, l73, o1', z1', y2, nn_mxT, nn_clamp]
    · rw [w] at z2' ⊢
      have y2 : (mh_i h o' 0 = 0) = False := z2'.trans (by decide)
      simp (disch := omega) only [e_191, s_191_0, s_191_1, s_191_2, s_191_5, s_191_8, s_191_9, s_191_10, s_191_11, s_191_52, s_191_53, s_191_56, s_191_59, s_191_60, s_191_61, s_191_64, s_191_65, s_191_66, s_191_69, s_191_72, s_191_73, s_191_74, s_191_77, s_191_78, s_191_79, s_191_82, s_191_85, s_191_86, s_191_86x, s_191_87, s_191_88, s_191_89, s_191_92, s_191_93, s_191_96, s_191_97, s_191_98, s_191_101, s_191_102, s_191_105, s_191_106, s_191_107, s_191_110, s_191_113, s_191_114, s_191_115, s_191_118, s_191_121, s_191_122, s_191_125, s_191_126, s_191_127, s_191_128, s_191_131, s_191_132, s_191_133, s_191_136, s_191_139, s_191_140, s_191_143, s_191_144, s_191_145, s_191_146, e_191, mv_i_1, mv_l_1, mv_a_1, mv_a_2, mv_a_3, mk2_n, mk2_i, mk2_l, mk2_a, mk2_u, mk2_x, mB_T, mB_F, mS_cons, mS_nil, mSB_T, mSB_F, mca_nil, mca_i, mca_l, mca_r, mca_u, mca_x, mcat_i, mcat_l, mcat_r, mcat_u, mcat_x, mK_some, mK_none, va_rf_s, va_rf_n, lgc_eq, lgc_lt, lgc_gt, lgc_ge, lgc_le, mrd_104, mrd_105, mrd_106, mrd_107, true_and, and_true, and_self, false_and, and_false, true_or, or_true, false_or, or_false, not_true_eq_false, not_false_eq_true, mgb, mga, mgr, mN, reduceCtorEq, ↓reduceIte, eq_self, ge_iff_le, gt_iff_lt, hk_si, hk_sj, hk_sr, hl_si, hl_sj, hl_sr, hn_si, hn_sj, hn_sr, hs_si, hs_sj, hs_sr, hi_sj, hi_sr, hj_si, hj_sr, hr_si, hr_sj, hi_si, hj_sj, hr_sr, mg_si, mg_sj, mg_sr, Nat.reduceAdd, Nat.reduceMul, Nat.reduceSub, Nat.reduceLT, Nat.reduceGT, Nat.reduceEqDiff, Nat.reduceLeDiff, Nat.left_eq_add, Nat.add_eq_left, Nat.reduceMod, Nat.reduceDiv, Nat.succ_ne_self, mS_cons, mS_nil, mSB_T, mSB_F, r0, k1, e10, c0, c1, c2, c3, c4, c5, c6, g0, t6, g73, g73b, l73, o1', z1', y2, nn_mxT, nn_clamp]
  rw [if_neg (of_eq_false c6)]
  simp (disch := omega) only [e_191, s_191_0, s_191_1, s_191_2, s_191_5, s_191_8, s_191_9, s_191_10, s_191_11, s_191_52, s_191_53, s_191_56, s_191_59, s_191_60, s_191_61, s_191_64, s_191_65, s_191_66, s_191_69, s_191_72, s_191_73, s_191_74, s_191_77, s_191_78, s_191_79, s_191_82, s_191_85, s_191_86, s_191_86x, s_191_87, s_191_88, s_191_89, s_191_92, s_191_93, s_191_96, s_191_97, s_191_98, s_191_101, s_191_102, s_191_105, s_191_106, s_191_107, s_191_110, s_191_113, s_191_114, s_191_115, s_191_118, s_191_121, s_191_122, s_191_125, s_191_126, s_191_127, s_191_128, s_191_131, s_191_132, s_191_133, s_191_136, s_191_139, s_191_140, s_191_143, s_191_144, s_191_145, s_191_146, e_191, mv_i_1, mv_l_1, mv_a_1, mv_a_2, mv_a_3, mk2_n, mk2_i, mk2_l, mk2_a, mk2_u, mk2_x, mB_T, mB_F, mS_cons, mS_nil, mSB_T, mSB_F, mca_nil, mca_i, mca_l, mca_r, mca_u, mca_x, mcat_i, mcat_l, mcat_r, mcat_u, mcat_x, mK_some, mK_none, va_rf_s, va_rf_n, lgc_eq, lgc_lt, lgc_gt, lgc_ge, lgc_le, mrd_104, mrd_105, mrd_106, mrd_107, true_and, and_true, and_self, false_and, and_false, true_or, or_true, false_or, or_false, not_true_eq_false, not_false_eq_true, mgb, mga, mgr, mN, reduceCtorEq, ↓reduceIte, eq_self, ge_iff_le, gt_iff_lt, hk_si, hk_sj, hk_sr, hl_si, hl_sj, hl_sr, hn_si, hn_sj, hn_sr, hs_si, hs_sj, hs_sr, hi_sj, hi_sr, hj_si, hj_sr, hr_si, hr_sj, hi_si, hj_sj, hr_sr, mg_si, mg_sj, mg_sr, Nat.reduceAdd, Nat.reduceMul, Nat.reduceSub, Nat.reduceLT, Nat.reduceGT, Nat.reduceEqDiff, Nat.reduceLeDiff, Nat.left_eq_add, Nat.add_eq_left, Nat.reduceMod, Nat.reduceDiv, Nat.succ_ne_self, mS_cons, mS_nil, mSB_T, mSB_F, r0, k1, e10, c0, c1, c2, c3, c4, c5, c6, g0]
theorem v_214 (F : CF h) (r13 : mh_r h 0 13 = some bs) (gb : mg h bs 102) (lb : mh_l h bs = l) (e14 : mh_i h 0 14 = Int32.ofNat n) (hn : n ≤ l) (hl : l < 2147483648) : ∀ Q, mcall d 214 [.ref 0, .int i] h Q = Q (some (.int (if i < 0 ∨ Int32.ofNat n ≤ i then -1 else mh_i h bs i.toNatClampNeg &&& 255))) h := fun Q => by
  have g0 := F.g 0 11 15 (by decide +kernel)
  have gb1 := gb.1
  have gb2 := gb.2
  clear F
  rcases Classical.propComplete (i < 0) with c | c
  · rw [if_pos (Or.inl (of_eq_true c))]
    simp (disch := omega) only [e_214, s_214_0, s_214_1, s_214_4, s_214_5, s_214_6, s_214_9, s_214_12, s_214_13, s_214_16, s_214_17, s_214_18, s_214_21, s_214_22, s_214_25, s_214_26, e_214, mv_i_1, mv_l_1, mv_a_1, mv_a_2, mv_a_3, mk2_n, mk2_i, mk2_l, mk2_a, mk2_u, mk2_x, mB_T, mB_F, mS_cons, mS_nil, mSB_T, mSB_F, mca_nil, mca_i, mca_l, mca_r, mca_u, mca_x, mcat_i, mcat_l, mcat_r, mcat_u, mcat_x, mK_some, mK_none, va_rf_s, va_rf_n, lgc_eq, lgc_lt, lgc_gt, lgc_ge, lgc_le, mrd_104, mrd_105, mrd_106, mrd_107, true_and, and_true, and_self, false_and, and_false, true_or, or_true, false_or, or_false, not_true_eq_false, not_false_eq_true, mgb, mga, mgr, mN, reduceCtorEq, ↓reduceIte, eq_self, ge_iff_le, gt_iff_lt, hk_si, hk_sj, hk_sr, hl_si, hl_sj, hl_sr, hn_si, hn_sj, hn_sr, hs_si, hs_sj, hs_sr, hi_sj, hi_sr, hj_si, hj_sr, hr_si, hr_sj, hi_si, hj_sj, hr_sr, mg_si, mg_sj, mg_sr, Nat.reduceAdd, Nat.reduceMul, Nat.reduceSub, Nat.reduceLT, Nat.reduceGT, Nat.reduceEqDiff, Nat.reduceLeDiff, Nat.left_eq_add, Nat.add_eq_left, Nat.reduceMod, Nat.reduceDiv, Nat.succ_ne_self, c]
  rcases Classical.propComplete (Int32.ofNat n ≤ i) with c2 | c2
  · rw [if_pos (Or.inr (of_eq_true c2))]
    simp (disch := omega) only [e_214, s_214_0, s_214_1, s_214_4, s_214_5, s_214_6, s_214_9, s_214_12, s_214_13, s_214_16, s_214_17, s_214_18, s_214_21, s_214_22, s_214_25, s_214_26, e_214, mv_i_1, mv_l_1, mv_a_1, mv_a_2, mv_a_3, mk2_n, mk2_i, mk2_l, mk2_a, mk2_u, mk2_x, mB_T, mB_F, mS_cons, mS_nil, mSB_T, mSB_F, mca_nil, mca_i, mca_l, mca_r, mca_u, mca_x, mcat_i, mcat_l, mcat_r, mcat_u, mcat_x, mK_some, mK_none, va_rf_s, va_rf_n, lgc_eq, lgc_lt, lgc_gt, lgc_ge, lgc_le, mrd_104, mrd_105, mrd_106, mrd_107, true_and, and_true, and_self, false_and, and_false, true_or, or_true, false_or, or_false, not_true_eq_false, not_false_eq_true, mgb, mga, mgr, mN, reduceCtorEq, ↓reduceIte, eq_self, ge_iff_le, gt_iff_lt, hk_si, hk_sj, hk_sr, hl_si, hl_sj, hl_sr, hn_si, hn_sj, hn_sr, hs_si, hs_sj, hs_sr, hi_sj, hi_sr, hj_si, hj_sr, hr_si, hr_sj, hi_si, hj_sj, hr_sr, mg_si, mg_sj, mg_sr, Nat.reduceAdd, Nat.reduceMul, Nat.reduceSub, Nat.reduceLT, Nat.reduceGT, Nat.reduceEqDiff, Nat.reduceLeDiff, Nat.left_eq_add, Nat.add_eq_left, Nat.reduceMod, Nat.reduceDiv, Nat.succ_ne_self, c, g0, e14, c2]
  · rw [if_neg (fun z => z.elim (of_eq_false c) (of_eq_false c2))]
    obtain ⟨k, hk⟩ : ∃ k, i = Int32.ofNat k ∧ k < n := by
      have c' := of_eq_false c
      have c2' := of_eq_false c2
      rw [Int32.lt_iff_toInt_lt] at c'
      rw [Int32.le_iff_toInt_le, nn_int (by omega)] at c2'
      have z0 : (0 : Int32).toInt = 0 := rfl
      rw [z0] at c'
      refine ⟨i.toInt.toNat, ?_, by omega⟩
      apply Int32.toInt_inj.mp
      rw [nn_int (by omega)]
      omega
    obtain ⟨hk, hk2⟩ := hk
    subst hk
    have mxl : mx (Int32.ofNat k) l = True := nn_mxT (by omega) (by omega)
    simp (disch := omega) only [e_214, s_214_0, s_214_1, s_214_4, s_214_5, s_214_6, s_214_9, s_214_12, s_214_13, s_214_16, s_214_17, s_214_18, s_214_21, s_214_22, s_214_25, s_214_26, e_214, mv_i_1, mv_l_1, mv_a_1, mv_a_2, mv_a_3, mk2_n, mk2_i, mk2_l, mk2_a, mk2_u, mk2_x, mB_T, mB_F, mS_cons, mS_nil, mSB_T, mSB_F, mca_nil, mca_i, mca_l, mca_r, mca_u, mca_x, mcat_i, mcat_l, mcat_r, mcat_u, mcat_x, mK_some, mK_none, va_rf_s, va_rf_n, lgc_eq, lgc_lt, lgc_gt, lgc_ge, lgc_le, mrd_104, mrd_105, mrd_106, mrd_107, true_and, and_true, and_self, false_and, and_false, true_or, or_true, false_or, or_false, not_true_eq_false, not_false_eq_true, mgb, mga, mgr, mN, reduceCtorEq, ↓reduceIte, eq_self, ge_iff_le, gt_iff_lt, hk_si, hk_sj, hk_sr, hl_si, hl_sj, hl_sr, hn_si, hn_sj, hn_sr, hs_si, hs_sj, hs_sr, hi_sj, hi_sr, hj_si, hj_sr, hr_si, hr_sj, hi_si, hj_sj, hr_sr, mg_si, mg_sj, mg_sr, Nat.reduceAdd, Nat.reduceMul, Nat.reduceSub, Nat.reduceLT, Nat.reduceGT, Nat.reduceEqDiff, Nat.reduceLeDiff, Nat.left_eq_add, Nat.add_eq_left, Nat.reduceMod, Nat.reduceDiv, Nat.succ_ne_self, c, g0, e14, c2, r13, gb, gb1, gb2, lb, mxl]
theorem u_391 (F : RF h) (e57 : mh_i h 81 57 = Int32.ofNat n) (r56 : mh_r h 81 56 = some bs) (gb : mg h bs 100) (lb : mh_l h bs = l) (hn : n ≤ l) (hl : l < 2147483648) : ∀ Q, mcall d 391 [.ref 81, .int i] h Q = Q (some (.int (if i < 0 ∨ Int32.ofNat n ≤ i then -1 else mh_i h bs i.toNatClampNeg))) h := fun Q => by
  have g0 := F.g 81 14 70 (by decide +kernel)
  clear F
  rcases Classical.propComplete (i < 0) with c | c
  · rw [if_pos (Or.inl (of_eq_true c))]
    simp (disch := omega) only [e_391, s_391_0, s_391_1, s_391_4, s_391_5, s_391_6, s_391_9, s_391_12, s_391_13, s_391_16, s_391_17, s_391_20, s_391_21, s_391_22, e_391, mv_i_1, mv_l_1, mv_a_1, mv_a_2, mv_a_3, mk2_n, mk2_i, mk2_l, mk2_a, mk2_u, mk2_x, mB_T, mB_F, mS_cons, mS_nil, mSB_T, mSB_F, mca_nil, mca_i, mca_l, mca_r, mca_u, mca_x, mcat_i, mcat_l, mcat_r, mcat_u, mcat_x, mK_some, mK_none, va_rf_s, va_rf_n, lgc_eq, lgc_lt, lgc_gt, lgc_ge, lgc_le, mrd_104, mrd_105, mrd_106, mrd_107, true_and, and_true, and_self, false_and, and_false, true_or, or_true, false_or, or_false, not_true_eq_false, not_false_eq_true, mgb, mga, mgr, mN, reduceCtorEq, ↓reduceIte, eq_self, ge_iff_le, gt_iff_lt, hk_si, hk_sj, hk_sr, hl_si, hl_sj, hl_sr, hn_si, hn_sj, hn_sr, hs_si, hs_sj, hs_sr, hi_sj, hi_sr, hj_si, hj_sr, hr_si, hr_sj, hi_si, hj_sj, hr_sr, mg_si, mg_sj, mg_sr, Nat.reduceAdd, Nat.reduceMul, Nat.reduceSub, Nat.reduceLT, Nat.reduceGT, Nat.reduceEqDiff, Nat.reduceLeDiff, Nat.left_eq_add, Nat.add_eq_left, Nat.reduceMod, Nat.reduceDiv, Nat.succ_ne_self, c]
  rcases Classical.propComplete (i < Int32.ofNat n) with c2 | c2
  · have c2' := of_eq_true c2
    rw [if_neg (fun z => z.elim (of_eq_false c) (fun y => by
      rw [Int32.lt_iff_toInt_lt] at c2'
      rw [Int32.le_iff_toInt_le] at y
      omega))]
    obtain ⟨k, hk, hk2⟩ : ∃ k, i = Int32.ofNat k ∧ k < n := by
      have c' := of_eq_false c
      rw [Int32.lt_iff_toInt_lt] at c'
      rw [Int32.lt_iff_toInt_lt, nn_int (by omega)] at c2'
      have z0 : (0 : Int32).toInt = 0 := rfl
      rw [z0] at c'
      refine ⟨i.toInt.toNat, ?_, by omega⟩
      apply Int32.toInt_inj.mp
      rw [nn_int (by omega)]
      omega
    subst hk
    have mxl : mx (Int32.ofNat k) l = True := nn_mxT (by omega) (by omega)
    simp (disch := omega) only [e_391, s_391_0, s_391_1, s_391_4, s_391_5, s_391_6, s_391_9, s_391_12, s_391_13, s_391_16, s_391_17, s_391_20, s_391_21, s_391_22, e_391, mv_i_1, mv_l_1, mv_a_1, mv_a_2, mv_a_3, mk2_n, mk2_i, mk2_l, mk2_a, mk2_u, mk2_x, mB_T, mB_F, mS_cons, mS_nil, mSB_T, mSB_F, mca_nil, mca_i, mca_l, mca_r, mca_u, mca_x, mcat_i, mcat_l, mcat_r, mcat_u, mcat_x, mK_some, mK_none, va_rf_s, va_rf_n, lgc_eq, lgc_lt, lgc_gt, lgc_ge, lgc_le, mrd_104, mrd_105, mrd_106, mrd_107, true_and, and_true, and_self, false_and, and_false, true_or, or_true, false_or, or_false, not_true_eq_false, not_false_eq_true, mgb, mga, mgr, mN, reduceCtorEq, ↓reduceIte, eq_self, ge_iff_le, gt_iff_lt, hk_si, hk_sj, hk_sr, hl_si, hl_sj, hl_sr, hn_si, hn_sj, hn_sr, hs_si, hs_sj, hs_sr, hi_sj, hi_sr, hj_si, hj_sr, hr_si, hr_sj, hi_si, hj_sj, hr_sr, mg_si, mg_sj, mg_sr, Nat.reduceAdd, Nat.reduceMul, Nat.reduceSub, Nat.reduceLT, Nat.reduceGT, Nat.reduceEqDiff, Nat.reduceLeDiff, Nat.left_eq_add, Nat.add_eq_left, Nat.reduceMod, Nat.reduceDiv, Nat.succ_ne_self, c, g0, e57, c2, r56, gb, lb, mxl]
  · have c2' := of_eq_false c2
    rw [if_pos (Or.inr (by
      rw [Int32.lt_iff_toInt_lt] at c2'
      rw [Int32.le_iff_toInt_le]
      omega))]
    simp (disch := omega) only [e_391, s_391_0, s_391_1, s_391_4, s_391_5, s_391_6, s_391_9, s_391_12, s_391_13, s_391_16, s_391_17, s_391_20, s_391_21, s_391_22, e_391, mv_i_1, mv_l_1, mv_a_1, mv_a_2, mv_a_3, mk2_n, mk2_i, mk2_l, mk2_a, mk2_u, mk2_x, mB_T, mB_F, mS_cons, mS_nil, mSB_T, mSB_F, mca_nil, mca_i, mca_l, mca_r, mca_u, mca_x, mcat_i, mcat_l, mcat_r, mcat_u, mcat_x, mK_some, mK_none, va_rf_s, va_rf_n, lgc_eq, lgc_lt, lgc_gt, lgc_ge, lgc_le, mrd_104, mrd_105, mrd_106, mrd_107, true_and, and_true, and_self, false_and, and_false, true_or, or_true, false_or, or_false, not_true_eq_false, not_false_eq_true, mgb, mga, mgr, mN, reduceCtorEq, ↓reduceIte, eq_self, ge_iff_le, gt_iff_lt, hk_si, hk_sj, hk_sr, hl_si, hl_sj, hl_sr, hn_si, hn_sj, hn_sr, hs_si, hs_sj, hs_sr, hi_sj, hi_sr, hj_si, hj_sr, hr_si, hr_sj, hi_si, hj_sj, hr_sr, mg_si, mg_sj, mg_sr, Nat.reduceAdd, Nat.reduceMul, Nat.reduceSub, Nat.reduceLT, Nat.reduceGT, Nat.reduceEqDiff, Nat.reduceLeDiff, Nat.left_eq_add, Nat.add_eq_left, Nat.reduceMod, Nat.reduceDiv, Nat.succ_ne_self, c, g0, e57, c2]
end PTs
