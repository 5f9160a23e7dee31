set_option maxRecDepth 100000
/-! Analysis.analyse, whole -/
section AYs
variable {d : Nat} {h : mh_H} {Y C E TT UU SC SP nC nE nS : Nat} {G : pgm} {cnt : Nat} {I : mh_H → Prop}
theorem RS_no {o : Nat} {v : Option ab} (k : RS h o v) : RS (mh_si h o 0 1) o none := by
  cases v with
  | some B =>
    obtain ⟨n1, n2⟩ := RN_on k
    exact ⟨n1, n2⟩
  | none =>
    obtain ⟨k, k5⟩ := k
    have x : fG (fun b j => b = o ∧ j = 0) h (mh_si h o 0 1) := fG_si ⟨rfl, rfl⟩
    exact ⟨⟨so_fG x k.s, by rw [hi_si, if_pos ⟨rfl, rfl⟩], by rw [hi_si, if_neg (by omega)]; exact k.n, by rw [hi_si, if_neg (by omega)]; exact k.a⟩, by rw [hi_si, if_neg (by omega)]; exact k5⟩
theorem fq_no {o R : Nat} {v : Int32} : fq (sW o R) h (mh_si h o 0 v) := ⟨rfl, rfl, rfl, rfl, rfl, fun b hb => ⟨fun j => by rw [hi_si, if_neg (fun z => hb (Or.inl z.1))], fun j => rfl⟩⟩
/-- it was too much -/
theorem en_t (B : BS h Y C E TT UU SC SP nC nE nS) (H : PH h G cnt) {v : Option ab} (kn : pv h 53 6 v) (a3 : mh_i h 53 3 = 1) (pk : ∀ q, q < cnt → mh_r h 54 q ≠ none) {x2 x3 : Option Value} : ∃ h', zS (fun b j => (b = 53 ∧ j = 6) ∨ (b = 54 ∧ j < cnt)) (fun b j => (b = 55 ∧ j < cnt) ∨ (b = 53 ∧ (j = 2 ∨ j = 7))) h h' ∧ BS h' Y C E TT UU SC SP nC nE nS ∧ mh_r h' 53 6 ≠ none ∧ mh_i h' 53 2 = 0 ∧ mh_i h' 53 3 = 1 ∧ (∀ q, q < cnt → pv h' 54 q none ∧ mh_i h' 55 q = 0) ∧ ∀ Q, mw (d + 7) 1 Q 207 [some (.ref 53), some (.int (Int32.ofNat (cnt - 1))), x2, x3] [] h = Q none h' := by
  have cb := H.b
  have P1 : isPl 53 6 := by unfold isPl; omega
  obtain ⟨o, e, k⟩ := kn
  obtain ⟨x1, B1⟩ := zS_i (k := 2) (v := 0) B (b := 53) (by omega)
  have a6 := (cs_so B.S ⟨53, 6, P1, e⟩).2
  have o53 : ¬ o = 53 := by unfold cAd at a6; omega
  have k1 : RS (mh_si h 53 2 0) o v := by
    obtain ⟨o', e', k'⟩ := x1.pp 53 6 v P1 (fun z => z) ⟨o, e, k⟩
    rw [hr_si, e] at e'
    cases e'
    exact k'
  obtain ⟨x2', B2⟩ := zS_q (h := mh_si h 53 2 0) B1 P1 e (fq_no (R := 52) (v := 1))
  have k2 := RS_no k1
  obtain ⟨x3', B3⟩ := zS_i (k := 7) (v := 0) B2 (b := 53) (by omega)
  have k3 : pv (mh_si (mh_si (mh_si h 53 2 0) o 0 1) 53 7 0) 53 6 none := x3'.pp 53 6 none P1 (fun z => z) ⟨o, e, k2⟩
  have x13 : zS (fun b j => b = 53 ∧ j = 6) (fun b j => b = 53 ∧ (j = 2 ∨ j = 7)) h (mh_si (mh_si (mh_si h 53 2 0) o 0 1) 53 7 0) := zS_t (zS_w x1 (fun _ _ z => z.elim) (fun b j z => ⟨z.1, Or.inl z.2⟩)) (zS_t (zS_w x2' (fun _ _ z => z) (fun _ _ z => z.elim)) (zS_w x3' (fun _ _ z => z.elim) (fun b j z => ⟨z.1, Or.inr z.2⟩)))
  have H3 := PH_s B x13 (fun b j u => by unfold aI; omega) H
  have a7 : mh_i (mh_si (mh_si (mh_si h 53 2 0) o 0 1) 53 7 0) 53 7 = Int32.ofNat 0 := by rw [hi_si, if_pos ⟨rfl, rfl⟩]; rfl
  obtain ⟨h4, x4, B4, k4, all, a74, c4⟩ := c_3 (d := d + 4) (p := 0) (e := cnt) B3 H3 a7 (Nat.zero_le _) (Nat.le_refl _) k3 (fun i _ hi => pk i hi)
  have g533 := B3.F.g 53 0 17 (by decide +kernel)
  have i4 : ∀ j, j ≠ 7 → mh_i h4 53 j = mh_i (mh_si (mh_si (mh_si h 53 2 0) o 0 1) 53 7 0) 53 j := fun j hj => x4.ii 53 0 j g533 (by decide) (by decide) (by unfold eff; omega) (by unfold skU; omega)
  refine ⟨h4, zS_t (zS_w x13 (fun b j z => Or.inl z) (fun b j z => Or.inr z)) (zS_w x4 (fun b j z => by unfold skV at z; omega) (fun b j z => by unfold skU at z; omega)), B4, pv_n k4, ?_, ?_, fun q hq => all q (Nat.zero_le _) hq, fun Q => ?_⟩
  · rw [i4 2 (by omega), hi_si, if_neg (by omega), hi_si, if_neg (by omega), hi_si, if_pos ⟨rfl, rfl⟩]
  · rw [i4 3 (by omega), hi_si, if_neg (by omega), hi_si, if_neg (by omega), hi_si, if_neg (by omega)]; exact a3
  · have F := B.F
    have g53 := F.g 53 0 17 (by decide +kernel)
    have g2 := F.g 2 4 20 (by decide +kernel)
    have t4 := F.f 53 4 2 (by decide +kernel)
    have gO := (RS_so k).1
    have c := H.c
    have e10 : ((1 : Int32) = 0) = False := by decide
    have o2 : ¬ o = 2 := by unfold cAd at a6; omega
    have o2' : ¬ 2 = o := fun z => o2 z.symm
    have o53' : ¬ 53 = o := fun z => o53 z.symm
    clear x1 x2' x3' x13 x4 B B1 B2 B3 B4 k k1 k2 k3 k4 all i4 H H3 F pk a6
    refine s_1_207.trans ?_
    cases x2 <;> cases x3 <;> simp (disch := omega) only [s_1_0, s_1_1, s_1_2, s_1_5, s_1_6, s_1_7, s_1_10, s_1_11, s_1_12, s_1_15, s_1_16, s_1_17, s_1_20, s_1_21, s_1_24, s_1_27, s_1_28, s_1_29, s_1_30, s_1_31, s_1_34, s_1_37, s_1_40, s_1_41, s_1_44, s_1_45, s_1_46n, s_1_46, s_1_49, s_1_50, s_1_53, s_1_54, s_1_57, s_1_58, s_1_61, s_1_61n, s_1_61x, s_1_62, s_1_65, s_1_68, s_1_69, s_1_72, s_1_75, s_1_76, s_1_77, s_1_78, s_1_79, s_1_81, s_1_83, s_1_86, s_1_87, s_1_90, s_1_93, s_1_94, s_1_97, s_1_100, s_1_101, s_1_104, s_1_105, s_1_108, s_1_109, s_1_112, s_1_115, s_1_116, s_1_119, s_1_120, s_1_121, s_1_124, s_1_125, s_1_128, s_1_129, s_1_130, s_1_130x, s_1_131, s_1_134, s_1_135, s_1_136, s_1_139, s_1_140, s_1_143, s_1_144, s_1_147, s_1_150, s_1_151, s_1_154, s_1_157, s_1_160, s_1_161, s_1_162, s_1_165, s_1_168, s_1_169, s_1_172, s_1_175, s_1_178, s_1_179, s_1_182, s_1_183, s_1_184, s_1_187, s_1_188, s_1_191, s_1_192, s_1_193, s_1_194, s_1_197, s_1_200, s_1_201, s_1_204, s_1_205, s_1_206, s_1_208, s_1_211, s_1_214, s_1_215, s_1_216, s_1_219, s_1_220, s_1_223, s_1_224, s_1_227, s_1_228, s_1_229, s_1_232, s_1_233, s_1_234, s_1_237, s_1_240, s_1_243, e_1, mv_i_1, mv_l_1, mv_a_1, mv_a_2, mv_a_3, mk2_n, mk2_i, mk2_l, mk2_a, mk2_u, mk2_x, mB_T, mB_F, mS_cons, mS_nil, mSB_T, mSB_F, mca_nil, mca_i, mca_l, mca_r, mca_u, mca_x, mcat_i, mcat_l, mcat_r, mcat_u, mcat_x, mK_some, mK_none, va_rf_s, va_rf_n, lgc_eq, lgc_lt, lgc_gt, lgc_ge, lgc_le, mrd_104, mrd_105, mrd_106, mrd_107, true_and, and_true, and_self, false_and, and_false, true_or, or_true, false_or, or_false, not_true_eq_false, not_false_eq_true, mgb, mga, mgr, mN, reduceCtorEq, ↓reduceIte, eq_self, ge_iff_le, gt_iff_lt, hk_si, hk_sj, hk_sr, hl_si, hl_sj, hl_sr, hn_si, hn_sj, hn_sr, hs_si, hs_sj, hs_sr, hi_sj, hi_sr, hj_si, hj_sr, hr_si, hr_sj, hi_si, hj_sj, hr_sr, mg_si, mg_sj, mg_sr, Nat.reduceAdd, Nat.reduceMul, Nat.reduceSub, Nat.reduceLT, Nat.reduceGT, Nat.reduceEqDiff, Nat.reduceLeDiff, Nat.left_eq_add, Nat.add_eq_left, Nat.reduceMod, Nat.reduceDiv, Nat.succ_ne_self, g53, a3, e10, e, gO, t4, g2, c, o53, o53', o2, o2', c4]
theorem en_n (B : BS h Y C E TT UU SC SP nC nE nS) (a3 : mh_i h 53 3 = 0) {x1 x2 x3 : Option Value} : ∀ Q, mw (d + 7) 1 Q 207 [some (.ref 53), x1, x2, x3] [] h = Q none h := fun Q => by
  have g53 := B.F.g 53 0 17 (by decide +kernel)
  have e00 : ((0 : Int32) = 0) = True := by decide
  clear B
  refine s_1_207.trans ?_
  simp (disch := omega) only [s_1_0, s_1_1, s_1_2, s_1_5, s_1_6, s_1_7, s_1_10, s_1_11, s_1_12, s_1_15, s_1_16, s_1_17, s_1_20, s_1_21, s_1_24, s_1_27, s_1_28, s_1_29, s_1_30, s_1_31, s_1_34, s_1_37, s_1_40, s_1_41, s_1_44, s_1_45, s_1_46n, s_1_46, s_1_49, s_1_50, s_1_53, s_1_54, s_1_57, s_1_58, s_1_61, s_1_61n, s_1_61x, s_1_62, s_1_65, s_1_68, s_1_69, s_1_72, s_1_75, s_1_76, s_1_77, s_1_78, s_1_79, s_1_81, s_1_83, s_1_86, s_1_87, s_1_90, s_1_93, s_1_94, s_1_97, s_1_100, s_1_101, s_1_104, s_1_105, s_1_108, s_1_109, s_1_112, s_1_115, s_1_116, s_1_119, s_1_120, s_1_121, s_1_124, s_1_125, s_1_128, s_1_129, s_1_130, s_1_130x, s_1_131, s_1_134, s_1_135, s_1_136, s_1_139, s_1_140, s_1_143, s_1_144, s_1_147, s_1_150, s_1_151, s_1_154, s_1_157, s_1_160, s_1_161, s_1_162, s_1_165, s_1_168, s_1_169, s_1_172, s_1_175, s_1_178, s_1_179, s_1_182, s_1_183, s_1_184, s_1_187, s_1_188, s_1_191, s_1_192, s_1_193, s_1_194, s_1_197, s_1_200, s_1_201, s_1_204, s_1_205, s_1_206, s_1_208, s_1_211, s_1_214, s_1_215, s_1_216, s_1_219, s_1_220, s_1_223, s_1_224, s_1_227, s_1_228, s_1_229, s_1_232, s_1_233, s_1_234, s_1_237, s_1_240, s_1_243, e_1, mv_i_1, mv_l_1, mv_a_1, mv_a_2, mv_a_3, mk2_n, mk2_i, mk2_l, mk2_a, mk2_u, mk2_x, mB_T, mB_F, mS_cons, mS_nil, mSB_T, mSB_F, mca_nil, mca_i, mca_l, mca_r, mca_u, mca_x, mcat_i, mcat_l, mcat_r, mcat_u, mcat_x, mK_some, mK_none, va_rf_s, va_rf_n, lgc_eq, lgc_lt, lgc_gt, lgc_ge, lgc_le, mrd_104, mrd_105, mrd_106, mrd_107, true_and, and_true, and_self, false_and, and_false, true_or, or_true, false_or, or_false, not_true_eq_false, not_false_eq_true, mgb, mga, mgr, mN, reduceCtorEq, ↓reduceIte, eq_self, ge_iff_le, gt_iff_lt, hk_si, hk_sj, hk_sr, hl_si, hl_sj, hl_sr, hn_si, hn_sj, hn_sr, hs_si, hs_sj, hs_sr, hi_sj, hi_sr, hj_si, hj_sr, hr_si, hr_sj, hi_si, hj_sj, hr_sr, mg_si, mg_sj, mg_sr, Nat.reduceAdd, Nat.reduceMul, Nat.reduceSub, Nat.reduceLT, Nat.reduceGT, Nat.reduceEqDiff, Nat.reduceLeDiff, Nat.left_eq_add, Nat.add_eq_left, Nat.reduceMod, Nat.reduceDiv, Nat.succ_ne_self, g53, a3, e00]
end AYs
