set_option maxRecDepth 100000
/-! Analysis.shut -/
section SHt
variable {d : Nat} {h : mh_H} {Y C E TT UU SC SP nC nE nS : Nat} {G : pgm} {cnt k p : Nat} {r : Nat → Nat}
theorem sh_0 (B : BS h Y C E TT UU SC SP nC nE nS) (H : PH h G cnt) (hp : p < cnt) (hk : k < 250) (k9 : mh_i h 53 9 = Int32.ofNat (k + 1)) (e59 : mh_i h 59 k = Int32.ofNat p) {s : Option ab} (kn : pv h 53 6 s) (ws : shg (G.n p) (G.a p) r s) : ∃ h', zS (fun b j => b = 53 ∧ j = 6) (fun _ _ => False) h h' ∧ BS h' Y C E TT UU SC SP nC nE nS ∧ mh_r h' = mh_r h ∧ pv h' 53 6 (o_keep (G.n p) (G.a p) s) ∧ ∀ Q, mcall (d + 6) 6 [.ref 53] h Q = mw (d + 6) 6 Q 50 [some (.ref 53), some (.int (Int32.ofNat k)), some (.int (Int32.ofNat p)), some (.int (Int32.ofNat (G.kd p)))] [] h' := by
  have P0 : isPl 53 6 := by unfold isPl; omega
  obtain ⟨o, e, -⟩ := id kn
  have cb := H.b
  have kk := H.k p hp
  obtain ⟨St, nb, nm, na, nx, q1, q2, q3, q4, q5, q6, q7, q8, q9⟩ := H.s p hp
  obtain ⟨n', a', r', w1, w2, w3, w4⟩ := ws
  obtain ⟨h1, x1, B1, er1, k1, c1⟩ := w_keep (d := d + 5) B P0 e kn kk.2.1 kk.2.2 (fun A z => by
    obtain ⟨-, z1, z2, -⟩ := w4 A z
    exact ⟨by omega, by omega⟩)
  refine ⟨h1, x1, B1, er1, k1, fun Q => ?_⟩
  have c80 := c_80 (d := d + 5) (nm := nm) B.F (by omega : p < 250) q4 q1 q2 q5
  have c81 := c_81 (d := d + 5) (nm := nx) B.F (by omega : p < 250) q7 q1 q2 q8
  rw [q6] at c80
  rw [q9] at c81
  have F := B.F
  have g53 := F.g 53 0 17 (by decide +kernel)
  have g2 := F.g 2 4 20 (by decide +kernel)
  have t4 := F.f 53 4 2 (by decide +kernel)
  have t3 := F.f 2 3 20 (by decide +kernel)
  have t8 := F.f 53 8 59 (by decide +kernel)
  have g20 := (F.g 20 105 250 (by decide +kernel)).1
  have g20' := (F.g 20 105 250 (by decide +kernel)).2
  have l20 := F.l 20 105 250 (by decide +kernel)
  have g59 := F.g 59 100 250 (by decide +kernel)
  have l59 := F.l 59 100 250 (by decide +kernel)
  have gO := (cs_so B.S ⟨53, 6, P0, e⟩).1.1
  have es : Int32.ofNat (k + 1) - 1 = Int32.ofNat k := nn_sub (a := k + 1) (b := 1) (by omega)
  clear x1 B B1 k1 kn F H w4
  simp (disch := omega) only [s_6_0, s_6_1, s_6_4, s_6_5, s_6_6, s_6_7, s_6_8, s_6_11, s_6_12, s_6_12x, s_6_13, s_6_14, s_6_15, s_6_18, s_6_21, s_6_22, s_6_23, s_6_26, s_6_27, s_6_28, s_6_31, s_6_32, s_6_35, s_6_36, s_6_39, s_6_40, s_6_43, s_6_44, s_6_47, s_6_51, s_6_53, s_6_56, s_6_57, s_6_58, s_6_61, s_6_64, s_6_65, s_6_66, s_6_69, s_6_70, s_6_73, s_6_74, s_6_74x, s_6_75, s_6_78, s_6_79, s_6_82, s_6_83, s_6_84, s_6_85, s_6_86, s_6_87, s_6_90, s_6_93, s_6_94, s_6_95, s_6_98, s_6_99, s_6_102, s_6_103, s_6_106, s_6_107, s_6_108, s_6_111, s_6_112, s_6_113, s_6_116, s_6_117, s_6_118, s_6_121, e_6, mv_i_1, mv_l_1, mv_a_1, mv_a_2, mv_a_3, mk2_n, mk2_i, mk2_l, mk2_a, mk2_u, mk2_x, mB_T, mB_F, mS_cons, mS_nil, mSB_T, mSB_F, mca_nil, mca_i, mca_l, mca_r, mca_u, mca_x, mcat_i, mcat_l, mcat_r, mcat_u, mcat_x, mK_some, mK_none, va_rf_s, va_rf_n, lgc_eq, lgc_lt, lgc_gt, lgc_ge, lgc_le, mrd_104, mrd_105, mrd_106, mrd_107, true_and, and_true, and_self, false_and, and_false, true_or, or_true, false_or, or_false, not_true_eq_false, not_false_eq_true, mgb, mga, mgr, mN, reduceCtorEq, ↓reduceIte, eq_self, ge_iff_le, gt_iff_lt, hk_si, hk_sj, hk_sr, hl_si, hl_sj, hl_sr, hn_si, hn_sj, hn_sr, hs_si, hs_sj, hs_sr, hi_sj, hi_sr, hj_si, hj_sr, hr_si, hr_sj, hi_si, hj_sj, hr_sr, mg_si, mg_sj, mg_sr, Nat.reduceAdd, Nat.reduceMul, Nat.reduceSub, Nat.reduceLT, Nat.reduceGT, Nat.reduceEqDiff, Nat.reduceLeDiff, Nat.left_eq_add, Nat.add_eq_left, Nat.reduceMod, Nat.reduceDiv, Nat.succ_ne_self, g53, k9, es, t8, g59, l59, e59, t4, g2, t3, g20, g20', l20, q1, q2, q3, e, gO, c80, c81, c1, nn_mxT, nn_clamp]
/-- of a while -/
theorem sh_6 (B : BS h Y C E TT UU SC SP nC nE nS) {h2 : mh_H} {x2 : Option Value} (run : ∀ Q, mcall (d + 5) 8 [.ref 53, .int (Int32.ofNat k)] h Q = Q none h2) : ∀ Q, mw (d + 6) 6 Q 50 [some (.ref 53), some (.int (Int32.ofNat k)), x2, some (.int (Int32.ofNat 6))] [] h = Q none h2 := fun Q => by
  have g53 := B.F.g 53 0 17 (by decide +kernel)
  have e66 : (Int32.ofNat 6 = 6) = True := by decide
  clear B
  simp (disch := omega) only [s_6_0, s_6_1, s_6_4, s_6_5, s_6_6, s_6_7, s_6_8, s_6_11, s_6_12, s_6_12x, s_6_13, s_6_14, s_6_15, s_6_18, s_6_21, s_6_22, s_6_23, s_6_26, s_6_27, s_6_28, s_6_31, s_6_32, s_6_35, s_6_36, s_6_39, s_6_40, s_6_43, s_6_44, s_6_47, s_6_50, s_6_51, s_6_53, s_6_56, s_6_57, s_6_58, s_6_61, s_6_64, s_6_65, s_6_66, s_6_69, s_6_70, s_6_73, s_6_74, s_6_74x, s_6_75, s_6_78, s_6_79, s_6_82, s_6_83, s_6_84, s_6_85, s_6_86, s_6_87, s_6_90, s_6_93, s_6_94, s_6_95, s_6_98, s_6_99, s_6_102, s_6_103, s_6_106, s_6_107, s_6_108, s_6_111, s_6_112, s_6_113, s_6_116, s_6_117, s_6_118, s_6_121, e_6, mv_i_1, mv_l_1, mv_a_1, mv_a_2, mv_a_3, mk2_n, mk2_i, mk2_l, mk2_a, mk2_u, mk2_x, mB_T, mB_F, mS_cons, mS_nil, mSB_T, mSB_F, mca_nil, mca_i, mca_l, mca_r, mca_u, mca_x, mcat_i, mcat_l, mcat_r, mcat_u, mcat_x, mK_some, mK_none, va_rf_s, va_rf_n, lgc_eq, lgc_lt, lgc_gt, lgc_ge, lgc_le, mrd_104, mrd_105, mrd_106, mrd_107, true_and, and_true, and_self, false_and, and_false, true_or, or_true, false_or, or_false, not_true_eq_false, not_false_eq_true, mgb, mga, mgr, mN, reduceCtorEq, ↓reduceIte, eq_self, ge_iff_le, gt_iff_lt, hk_si, hk_sj, hk_sr, hl_si, hl_sj, hl_sr, hn_si, hn_sj, hn_sr, hs_si, hs_sj, hs_sr, hi_sj, hi_sr, hj_si, hj_sr, hr_si, hr_sj, hi_si, hj_sj, hr_sr, mg_si, mg_sj, mg_sr, Nat.reduceAdd, Nat.reduceMul, Nat.reduceSub, Nat.reduceLT, Nat.reduceGT, Nat.reduceEqDiff, Nat.reduceLeDiff, Nat.left_eq_add, Nat.add_eq_left, Nat.reduceMod, Nat.reduceDiv, Nat.succ_ne_self, e66, g53, run]
/-- of an if, its first BLOCK -/
theorem sh_5a (B : BS h Y C E TT UU SC SP nC nE nS) (hk : k < 250) {v u : Option ab} (k1 : pv h 61 k v) (k2 : pv h 53 6 u) (ph : mh_i h 60 k = 0) {x2 : Option Value} : ∃ h', zS (fun b j => (b = 61 ∧ j = k) ∨ (b = 53 ∧ j = 6)) (fun b j => b = 60 ∧ j = k) h h' ∧ BS h' Y C E TT UU SC SP nC nE nS ∧ pv h' 61 k u ∧ pv h' 53 6 v ∧ mh_i h' 60 k = 1 ∧ ∀ Q, mw (d + 6) 6 Q 50 [some (.ref 53), some (.int (Int32.ofNat k)), x2, some (.int (Int32.ofNat 5))] [] h = Q none h' := by
  obtain ⟨x1, B1⟩ := zS_i (k := k) (v := 1) B (b := 60) (by omega)
  have P1 : isPl 61 k := by unfold isPl; omega
  have P2 : isPl 53 6 := by unfold isPl; omega
  obtain ⟨h2, x2', B2, q1, q2, c2⟩ := c_7 (d := d + 5) B1 hk (x1.pp _ _ _ P1 (fun z => z) k1) (x1.pp _ _ _ P2 (fun z => z) k2)
  have F := B.F
  have g60 := F.g 60 100 250 (by decide +kernel)
  refine ⟨h2, zS_t (zS_w x1 (fun _ _ z => z.elim) (fun _ _ z => z)) (zS_w x2' (fun _ _ z => z) (fun _ _ z => z.elim)), B2, q1, q2, ?_, fun Q => ?_⟩
  · rw [x2'.ii 60 100 k (B1.F.g 60 100 250 (by decide +kernel)) (by omega) (by omega) (by unfold eff; omega) (fun z => z), hi_si, if_pos ⟨rfl, rfl⟩]
  · have g53 := F.g 53 0 17 (by decide +kernel)
    have t10 := F.f 53 10 60 (by decide +kernel)
    have l60 := F.l 60 100 250 (by decide +kernel)
    have e56 : (Int32.ofNat 5 = 6) = False := by decide
    have e55 : (Int32.ofNat 5 = 5) = True := by decide
    have e00 : ((0 : Int32) = 0) = True := by decide
    clear B B1 B2 x1 x2' q1 q2 k1 k2 F
    simp (disch := omega) only [s_6_0, s_6_1, s_6_4, s_6_5, s_6_6, s_6_7, s_6_8, s_6_11, s_6_12, s_6_12x, s_6_13, s_6_14, s_6_15, s_6_18, s_6_21, s_6_22, s_6_23, s_6_26, s_6_27, s_6_28, s_6_31, s_6_32, s_6_35, s_6_36, s_6_39, s_6_40, s_6_43, s_6_44, s_6_47, s_6_50, s_6_51, s_6_53, s_6_56, s_6_57, s_6_58, s_6_61, s_6_64, s_6_65, s_6_66, s_6_69, s_6_70, s_6_73, s_6_74, s_6_74x, s_6_75, s_6_78, s_6_79, s_6_82, s_6_83, s_6_84, s_6_85, s_6_86, s_6_87, s_6_90, s_6_93, s_6_94, s_6_95, s_6_98, s_6_99, s_6_102, s_6_103, s_6_106, s_6_107, s_6_108, s_6_111, s_6_112, s_6_113, s_6_116, s_6_117, s_6_118, s_6_121, e_6, mv_i_1, mv_l_1, mv_a_1, mv_a_2, mv_a_3, mk2_n, mk2_i, mk2_l, mk2_a, mk2_u, mk2_x, mB_T, mB_F, mS_cons, mS_nil, mSB_T, mSB_F, mca_nil, mca_i, mca_l, mca_r, mca_u, mca_x, mcat_i, mcat_l, mcat_r, mcat_u, mcat_x, mK_some, mK_none, va_rf_s, va_rf_n, lgc_eq, lgc_lt, lgc_gt, lgc_ge, lgc_le, mrd_104, mrd_105, mrd_106, mrd_107, true_and, and_true, and_self, false_and, and_false, true_or, or_true, false_or, or_false, not_true_eq_false, not_false_eq_true, mgb, mga, mgr, mN, reduceCtorEq, ↓reduceIte, eq_self, ge_iff_le, gt_iff_lt, hk_si, hk_sj, hk_sr, hl_si, hl_sj, hl_sr, hn_si, hn_sj, hn_sr, hs_si, hs_sj, hs_sr, hi_sj, hi_sr, hj_si, hj_sr, hr_si, hr_sj, hi_si, hj_sj, hr_sr, mg_si, mg_sj, mg_sr, Nat.reduceAdd, Nat.reduceMul, Nat.reduceSub, Nat.reduceLT, Nat.reduceGT, Nat.reduceEqDiff, Nat.reduceLeDiff, Nat.left_eq_add, Nat.add_eq_left, Nat.reduceMod, Nat.reduceDiv, Nat.succ_ne_self, e56, e55, g53, t10, g60, l60, ph, e00, c2, nn_mxT, nn_clamp]
/-- of an if, the other one -/
theorem sh_5b (B : BS h Y C E TT UU SC SP nC nE nS) (hk : k < 250) (k9 : mh_i h 53 9 = Int32.ofNat (k + 1)) {v u : Option ab} (k1 : pv h 61 k v) (k2 : pv h 53 6 u) (hn : ∀ A' B', u = some A' → v = some B' → A'.n = B'.n ∧ A'.a = B'.a) (ph : mh_i h 60 k = 1) {x2 : Option Value} : ∃ h', zS (fun b j => b = 53 ∧ j = 6) (fun b j => b = 53 ∧ j = 9) h h' ∧ BS h' Y C E TT UU SC SP nC nE nS ∧ pv h' 53 6 (o_join v u) ∧ mh_i h' 53 9 = Int32.ofNat k ∧ ∀ Q, mw (d + 6) 6 Q 50 [some (.ref 53), some (.int (Int32.ofNat k)), x2, some (.int (Int32.ofNat 5))] [] h = Q none h' := by
  have P1 : isPl 61 k := by unfold isPl; omega
  have P2 : isPl 53 6 := by unfold isPl; omega
  obtain ⟨o1, e1, -⟩ := id k1
  obtain ⟨o2, e2, -⟩ := id k2
  obtain ⟨h1, x1, B1, er1, q1, c1⟩ := w_joinC (d := d + 3) B P2 P1 (by omega) e2 e1 k2 k1 hn
  obtain ⟨x2', B2⟩ := zS_i (k := 9) (v := Int32.ofNat k) B1 (b := 53) (by omega)
  have F := B.F
  have g53 := F.g 53 0 17 (by decide +kernel)
  refine ⟨_, zS_t (zS_w x1 (fun _ _ z => z) (fun _ _ z => z.elim)) (zS_w x2' (fun _ _ z => z.elim) (fun _ _ z => z)), B2, x2'.pp _ _ _ P2 (fun z => z) q1, by rw [hi_si, if_pos ⟨rfl, rfl⟩], fun Q => ?_⟩
  have k9' : mh_i h1 53 9 = Int32.ofNat (k + 1) := by rw [x1.ii 53 0 9 g53 (by omega) (by omega) (by unfold eff; omega) (fun z => z)]; exact k9
  have g531 := B1.F.g 53 0 17 (by decide +kernel)
  have t10 := F.f 53 10 60 (by decide +kernel)
  have g60 := F.g 60 100 250 (by decide +kernel)
  have l60 := F.l 60 100 250 (by decide +kernel)
  have t11 := F.f 53 11 61 (by decide +kernel)
  have g61 := (F.g 61 104 250 (by decide +kernel)).1
  have g61' := (F.g 61 104 250 (by decide +kernel)).2
  have l61 := F.l 61 104 250 (by decide +kernel)
  have gO1 := (cs_so B.S ⟨61, k, P1, e1⟩).1.1
  have gO2 := (cs_so B.S ⟨53, 6, P2, e2⟩).1.1
  have e56 : (Int32.ofNat 5 = 6) = False := by decide
  have e55 : (Int32.ofNat 5 = 5) = True := by decide
  have e10 : ((1 : Int32) = 0) = False := by decide
  have es : Int32.ofNat (k + 1) - 1 = Int32.ofNat k := nn_sub (a := k + 1) (b := 1) (by omega)
  clear B B1 B2 x1 x2' q1 k1 k2 F hn
  simp (disch := omega) only [s_6_0, s_6_1, s_6_4, s_6_5, s_6_6, s_6_7, s_6_8, s_6_11, s_6_12, s_6_12x, s_6_13, s_6_14, s_6_15, s_6_18, s_6_21, s_6_22, s_6_23, s_6_26, s_6_27, s_6_28, s_6_31, s_6_32, s_6_35, s_6_36, s_6_39, s_6_40, s_6_43, s_6_44, s_6_47, s_6_50, s_6_51, s_6_53, s_6_56, s_6_57, s_6_58, s_6_61, s_6_64, s_6_65, s_6_66, s_6_69, s_6_70, s_6_73, s_6_74, s_6_74x, s_6_75, s_6_78, s_6_79, s_6_82, s_6_83, s_6_84, s_6_85, s_6_86, s_6_87, s_6_90, s_6_93, s_6_94, s_6_95, s_6_98, s_6_99, s_6_102, s_6_103, s_6_106, s_6_107, s_6_108, s_6_111, s_6_112, s_6_113, s_6_116, s_6_117, s_6_118, s_6_121, e_6, mv_i_1, mv_l_1, mv_a_1, mv_a_2, mv_a_3, mk2_n, mk2_i, mk2_l, mk2_a, mk2_u, mk2_x, mB_T, mB_F, mS_cons, mS_nil, mSB_T, mSB_F, mca_nil, mca_i, mca_l, mca_r, mca_u, mca_x, mcat_i, mcat_l, mcat_r, mcat_u, mcat_x, mK_some, mK_none, va_rf_s, va_rf_n, lgc_eq, lgc_lt, lgc_gt, lgc_ge, lgc_le, mrd_104, mrd_105, mrd_106, mrd_107, true_and, and_true, and_self, false_and, and_false, true_or, or_true, false_or, or_false, not_true_eq_false, not_false_eq_true, mgb, mga, mgr, mN, reduceCtorEq, ↓reduceIte, eq_self, ge_iff_le, gt_iff_lt, hk_si, hk_sj, hk_sr, hl_si, hl_sj, hl_sr, hn_si, hn_sj, hn_sr, hs_si, hs_sj, hs_sr, hi_sj, hi_sr, hj_si, hj_sr, hr_si, hr_sj, hi_si, hj_sj, hr_sr, mg_si, mg_sj, mg_sr, Nat.reduceAdd, Nat.reduceMul, Nat.reduceSub, Nat.reduceLT, Nat.reduceGT, Nat.reduceEqDiff, Nat.reduceLeDiff, Nat.left_eq_add, Nat.add_eq_left, Nat.reduceMod, Nat.reduceDiv, Nat.succ_ne_self, e56, e55, g53, t10, g60, l60, ph, e10, t11, g61, g61', l61, e1, e2, gO1, gO2, c1, g531, k9', es, nn_mxT, nn_clamp]
/-- of a call -/
theorem sh_4 (B : BS h Y C E TT UU SC SP nC nE nS) (k9 : mh_i h 53 9 = Int32.ofNat (k + 1)) (hk : k < 250) {x2 : Option Value} : ∃ h', zS (fun _ _ => False) (fun b j => b = 53 ∧ j = 9) h h' ∧ BS h' Y C E TT UU SC SP nC nE nS ∧ mh_i h' 53 9 = Int32.ofNat k ∧ ∀ Q, mw (d + 6) 6 Q 50 [some (.ref 53), some (.int (Int32.ofNat k)), x2, some (.int (Int32.ofNat 4))] [] h = Q none h' := by
  obtain ⟨x2', B2⟩ := zS_i (k := 9) (v := Int32.ofNat k) B (b := 53) (by omega)
  refine ⟨_, x2', B2, by rw [hi_si, if_pos ⟨rfl, rfl⟩], fun Q => ?_⟩
  have g53 := B.F.g 53 0 17 (by decide +kernel)
  have e46 : (Int32.ofNat 4 = 6) = False := by decide
  have e45 : (Int32.ofNat 4 = 5) = False := by decide
  have es : Int32.ofNat (k + 1) - 1 = Int32.ofNat k := nn_sub (a := k + 1) (b := 1) (by omega)
  clear B B2 x2'
  simp (disch := omega) only [s_6_0, s_6_1, s_6_4, s_6_5, s_6_6, s_6_7, s_6_8, s_6_11, s_6_12, s_6_12x, s_6_13, s_6_14, s_6_15, s_6_18, s_6_21, s_6_22, s_6_23, s_6_26, s_6_27, s_6_28, s_6_31, s_6_32, s_6_35, s_6_36, s_6_39, s_6_40, s_6_43, s_6_44, s_6_47, s_6_50, s_6_51, s_6_53, s_6_56, s_6_57, s_6_58, s_6_61, s_6_64, s_6_65, s_6_66, s_6_69, s_6_70, s_6_73, s_6_74, s_6_74x, s_6_75, s_6_78, s_6_79, s_6_82, s_6_83, s_6_84, s_6_85, s_6_86, s_6_87, s_6_90, s_6_93, s_6_94, s_6_95, s_6_98, s_6_99, s_6_102, s_6_103, s_6_106, s_6_107, s_6_108, s_6_111, s_6_112, s_6_113, s_6_116, s_6_117, s_6_118, s_6_121, e_6, mv_i_1, mv_l_1, mv_a_1, mv_a_2, mv_a_3, mk2_n, mk2_i, mk2_l, mk2_a, mk2_u, mk2_x, mB_T, mB_F, mS_cons, mS_nil, mSB_T, mSB_F, mca_nil, mca_i, mca_l, mca_r, mca_u, mca_x, mcat_i, mcat_l, mcat_r, mcat_u, mcat_x, mK_some, mK_none, va_rf_s, va_rf_n, lgc_eq, lgc_lt, lgc_gt, lgc_ge, lgc_le, mrd_104, mrd_105, mrd_106, mrd_107, true_and, and_true, and_self, false_and, and_false, true_or, or_true, false_or, or_false, not_true_eq_false, not_false_eq_true, mgb, mga, mgr, mN, reduceCtorEq, ↓reduceIte, eq_self, ge_iff_le, gt_iff_lt, hk_si, hk_sj, hk_sr, hl_si, hl_sj, hl_sr, hn_si, hn_sj, hn_sr, hs_si, hs_sj, hs_sr, hi_sj, hi_sr, hj_si, hj_sr, hr_si, hr_sj, hi_si, hj_sj, hr_sr, mg_si, mg_sj, mg_sr, Nat.reduceAdd, Nat.reduceMul, Nat.reduceSub, Nat.reduceLT, Nat.reduceGT, Nat.reduceEqDiff, Nat.reduceLeDiff, Nat.left_eq_add, Nat.add_eq_left, Nat.reduceMod, Nat.reduceDiv, Nat.succ_ne_self, e46, e45, g53, k9, es]
end SHt
