set_option maxRecDepth 100000
/-! Analysis.endRound -/
def kX (k b j : Nat) : Prop := kU k b j ∨ (b = 53 ∧ (j = 7 ∨ j = 9))
section ERs
variable {d : Nat} {h : mh_H} {Y C E TT UU SC SP nC nE nS : Nat} {k n a p : Nat} {r : Nat → Nat}
/-- the last round is over -/
theorem c_8L (B : BS h Y C E TT UU SC SP nC nE nS) {be x : Option ab} (hk : k < 250) (k9 : mh_i h 53 9 = Int32.ofNat (k + 1)) (k1 : pv h 61 k be) (k2 : pv h 53 6 x) (ph : mh_i h 60 k = 2) : ∃ h', zS (kV k) (kX k) h h' ∧ BS h' Y C E TT UU SC SP nC nE nS ∧ pv h' 53 6 be ∧ mh_i h' 53 9 = Int32.ofNat k ∧ mh_i h' 53 7 = mh_i h 53 7 ∧ ∀ Q, mcall (d + 5) 8 [.ref 53, .int (Int32.ofNat k)] h Q = Q none h' := by
  obtain ⟨h1, x1, B1, q1, q2, c1⟩ := c_7 (d := d + 4) B hk k1 k2
  obtain ⟨x2, B2⟩ := zS_i (k := 9) (v := Int32.ofNat k) B1 (b := 53) (by omega)
  have F := B.F
  have g53 := F.g 53 0 17 (by decide +kernel)
  have i1 : ∀ j, mh_i h1 53 j = mh_i h 53 j := fun j => x1.ii 53 0 j g53 (by omega) (by omega) (by unfold eff; omega) (fun z => z)
  refine ⟨mh_si h1 53 9 (Int32.ofNat k), zS_t (zS_w x1 (fun b j z => by unfold kV; omega) (fun _ _ z => z.elim)) (zS_w x2 (fun _ _ z => z.elim) (fun b j z => by unfold kX; omega)), B2, x2.pp _ _ _ (by unfold isPl; omega) (fun z => z) q2, by rw [hi_si, if_pos ⟨rfl, rfl⟩], by rw [hi_si, if_neg (by omega), i1], fun Q => ?_⟩
  have t10 := F.f 53 10 60 (by decide +kernel)
  have g60 := F.g 60 100 250 (by decide +kernel)
  have l60 := F.l 60 100 250 (by decide +kernel)
  have g531 := B1.F.g 53 0 17 (by decide +kernel)
  have e22 : ((2 : Int32) = 2) = True := by decide
  have es : Int32.ofNat (k + 1) - 1 = Int32.ofNat k := nn_sub (a := k + 1) (b := 1) (by omega)
  have k9' := i1 9
  rw [k9] at k9'
  clear x1 x2 B B1 B2 q1 q2 k1 k2 F i1
  simp (disch := omega) only [s_8_0, s_8_1, s_8_4, s_8_5, s_8_5x, s_8_6, s_8_7, s_8_10, s_8_11, s_8_12, s_8_15, s_8_16, s_8_17, s_8_20, s_8_21, s_8_22, s_8_25, s_8_26, s_8_27, s_8_28, s_8_31, s_8_32, s_8_32x, s_8_33, s_8_36, s_8_37, s_8_40, s_8_41, s_8_44, s_8_45, s_8_46, s_8_49, s_8_50, s_8_53, s_8_54, s_8_54x, s_8_55, s_8_56, s_8_59, s_8_60, s_8_63, s_8_64, s_8_65, s_8_66, s_8_69, s_8_70, s_8_73, s_8_74, s_8_77, s_8_78, s_8_79, s_8_82, s_8_83, s_8_86, s_8_87, s_8_88, s_8_91, s_8_94, s_8_95, s_8_98, s_8_99, s_8_102, s_8_103, s_8_104, s_8_105, s_8_108, s_8_109, s_8_110, s_8_113, s_8_114, s_8_115, s_8_118, s_8_121, s_8_122, s_8_125, s_8_126, s_8_127, s_8_130, s_8_133, s_8_134, s_8_135, s_8_138, e_8, mv_i_1, mv_l_1, mv_a_1, mv_a_2, mv_a_3, mk2_n, mk2_i, mk2_l, mk2_a, mk2_u, mk2_x, mB_T, mB_F, mS_cons, mS_nil, mSB_T, mSB_F, mca_nil, mca_i, mca_l, mca_r, mca_u, mca_x, mcat_i, mcat_l, mcat_r, mcat_u, mcat_x, mK_some, mK_none, va_rf_s, va_rf_n, lgc_eq, lgc_lt, lgc_gt, lgc_ge, lgc_le, mrd_104, mrd_105, mrd_106, mrd_107, true_and, and_true, and_self, false_and, and_false, true_or, or_true, false_or, or_false, not_true_eq_false, not_false_eq_true, mgb, mga, mgr, mN, reduceCtorEq, ↓reduceIte, eq_self, ge_iff_le, gt_iff_lt, hk_si, hk_sj, hk_sr, hl_si, hl_sj, hl_sr, hn_si, hn_sj, hn_sr, hs_si, hs_sj, hs_sr, hi_sj, hi_sr, hj_si, hj_sr, hr_si, hr_sj, hi_si, hj_sj, hr_sr, mg_si, mg_sj, mg_sr, Nat.reduceAdd, Nat.reduceMul, Nat.reduceSub, Nat.reduceLT, Nat.reduceGT, Nat.reduceEqDiff, Nat.reduceLeDiff, Nat.left_eq_add, Nat.add_eq_left, Nat.reduceMod, Nat.reduceDiv, Nat.succ_ne_self, g53, t10, g60, l60, ph, e22, c1, g531, k9', es, nn_mxT, nn_clamp]
/-- its beginning, in another round -/
theorem er_0 (B : BS h Y C E TT UU SC SP nC nE nS) {S s1 : Option ab} (hk : k < 250) (e59 : mh_i h 59 k = Int32.ofNat p) (k1 : pv h 53 6 s1) (k2 : pv h 62 k S) (w1 : shp n a r S) (w2 : shp n a r s1) {phs : Int32} (ph : mh_i h 60 k = phs) (p2 : (phs = 2) = False) : ∃ h', zS (fun b j => b = 53 ∧ j = 6) (fun b j => b = 53 ∧ j = 7) h h' ∧ BS h' Y C E TT UU SC SP nC nE nS ∧ mh_r h' = mh_r h ∧ pv h' 53 6 (o_join S s1) ∧ mh_i h' 53 7 = Int32.ofNat p ∧ ∀ Q, mcall (d + 5) 8 [.ref 53, .int (Int32.ofNat k)] h Q = mw (d + 5) 8 Q 49 [some (.ref 53), some (.int (Int32.ofNat k)), none] [] h' := by
  have P1 : isPl 53 6 := by unfold isPl; omega
  have P2 : isPl 62 k := by unfold isPl; omega
  obtain ⟨o1, e1, -⟩ := id k1
  obtain ⟨o2, e2, -⟩ := id k2
  obtain ⟨x1, B1⟩ := zS_i (k := 7) (v := Int32.ofNat p) B (b := 53) (by omega)
  obtain ⟨h2, x2, B2, er2, q2, c2⟩ := w_joinC (d := d + 2) B1 P1 P2 (by omega) e1 e2 (x1.pp _ _ _ P1 (fun z => z) k1) (x1.pp _ _ _ P2 (fun z => z) k2) (shp_2 w2 w1)
  have F := B.F
  have g53 := F.g 53 0 17 (by decide +kernel)
  refine ⟨h2, zS_t (zS_w x1 (fun _ _ z => z.elim) (fun _ _ z => z)) (zS_w x2 (fun _ _ z => z) (fun _ _ z => z.elim)), B2, er2, q2, ?_, fun Q => ?_⟩
  · rw [x2.ii 53 0 7 (B1.F.g 53 0 17 (by decide +kernel)) (by omega) (by omega) (by unfold eff; omega) (fun z => z), hi_si, if_pos ⟨rfl, rfl⟩]
  · have t10 := F.f 53 10 60 (by decide +kernel)
    have g60 := F.g 60 100 250 (by decide +kernel)
    have l60 := F.l 60 100 250 (by decide +kernel)
    have t8 := F.f 53 8 59 (by decide +kernel)
    have g59 := F.g 59 100 250 (by decide +kernel)
    have l59 := F.l 59 100 250 (by decide +kernel)
    have t12 := F.f 53 12 62 (by decide +kernel)
    have g62 := (F.g 62 104 250 (by decide +kernel)).1
    have g62' := (F.g 62 104 250 (by decide +kernel)).2
    have l62 := F.l 62 104 250 (by decide +kernel)
    have gO1 := (cs_so B.S ⟨53, 6, P1, e1⟩).1.1
    have gO2 := (cs_so B.S ⟨62, k, P2, e2⟩).1.1
    clear x1 x2 B B1 B2 q2 k1 k2 F w1 w2
    simp (disch := omega) only [s_8_0, s_8_1, s_8_4, s_8_5, s_8_5x, s_8_6, s_8_7, s_8_10, s_8_11, s_8_12, s_8_15, s_8_16, s_8_17, s_8_20, s_8_21, s_8_22, s_8_25, s_8_26, s_8_27, s_8_28, s_8_31, s_8_32, s_8_32x, s_8_33, s_8_36, s_8_37, s_8_40, s_8_41, s_8_44, s_8_45, s_8_46, s_8_50, s_8_53, s_8_54, s_8_54x, s_8_55, s_8_56, s_8_59, s_8_60, s_8_63, s_8_64, s_8_65, s_8_66, s_8_69, s_8_70, s_8_73, s_8_74, s_8_77, s_8_78, s_8_79, s_8_82, s_8_83, s_8_86, s_8_87, s_8_88, s_8_91, s_8_94, s_8_95, s_8_98, s_8_99, s_8_102, s_8_103, s_8_104, s_8_105, s_8_108, s_8_109, s_8_110, s_8_113, s_8_114, s_8_115, s_8_118, s_8_121, s_8_122, s_8_125, s_8_126, s_8_127, s_8_130, s_8_133, s_8_134, s_8_135, s_8_138, e_8, mv_i_1, mv_l_1, mv_a_1, mv_a_2, mv_a_3, mk2_n, mk2_i, mk2_l, mk2_a, mk2_u, mk2_x, mB_T, mB_F, mS_cons, mS_nil, mSB_T, mSB_F, mca_nil, mca_i, mca_l, mca_r, mca_u, mca_x, mcat_i, mcat_l, mcat_r, mcat_u, mcat_x, mK_some, mK_none, va_rf_s, va_rf_n, lgc_eq, lgc_lt, lgc_gt, lgc_ge, lgc_le, mrd_104, mrd_105, mrd_106, mrd_107, true_and, and_true, and_self, false_and, and_false, true_or, or_true, false_or, or_false, not_true_eq_false, not_false_eq_true, mgb, mga, mgr, mN, reduceCtorEq, ↓reduceIte, eq_self, ge_iff_le, gt_iff_lt, hk_si, hk_sj, hk_sr, hl_si, hl_sj, hl_sr, hn_si, hn_sj, hn_sr, hs_si, hs_sj, hs_sr, hi_sj, hi_sr, hj_si, hj_sr, hr_si, hr_sj, hi_si, hj_sj, hr_sr, mg_si, mg_sj, mg_sr, Nat.reduceAdd, Nat.reduceMul, Nat.reduceSub, Nat.reduceLT, Nat.reduceGT, Nat.reduceEqDiff, Nat.reduceLeDiff, Nat.left_eq_add, Nat.add_eq_left, Nat.reduceMod, Nat.reduceDiv, Nat.succ_ne_self, g53, t10, g60, l60, ph, p2, t8, g59, l59, e59, e1, t12, g62, g62', l62, e2, gO1, gO2, c2, nn_mxT, nn_clamp]
/-- heads climb -/
theorem c_8C (B : BS h Y C E TT UU SC SP nC nE nS) {s1 : Option ab} {S H D : ab} {r0 t0 : Nat} (hk : k < 250) (e59 : mh_i h 59 k = Int32.ofNat p) (k1 : pv h 53 6 s1) (k2 : pv h 62 k (some S)) (k3 : pv h 63 k (some H)) (k4 : pv h 64 k (some D)) (nk : mh_r h 61 k ≠ none) (w1 : shp n a r (some S)) (w2 : shp n a r s1) (w3 : shp n a r (some H)) (w4 : shL n a r D) (lb : ∀ i j, i < 2 * n → j < 2 * n → -4294967296 ≤ D.m i j) (ph : mh_i h 60 k = 0) (e65 : mh_i h 65 k = Int32.ofNat r0) (hr : r0 < 100000) (e66 : mh_i h 66 k = Int32.ofNat t0) (ht : t0 ≤ 2) : ∃ h', zS (kV k) (kX k) h h' ∧ BS h' Y C E TT UU SC SP nC nE nS ∧ mh_i h' 53 7 = Int32.ofNat p ∧ mh_i h' 53 9 = mh_i h 53 9 ∧ ((¬ o_le (o_join (some S) s1) (some H) ∧ pv h' 63 k (if r0 + 1 ≤ 2 then o_join (some H) (o_join (some S) s1) else o_cl (o_wid (some D) (o_join (some S) s1))) ∧ pv h' 53 6 (if r0 + 1 ≤ 2 then o_join (some H) (o_join (some S) s1) else o_cl (o_wid (some D) (o_join (some S) s1))) ∧ pv h' 64 k (if r0 + 1 ≤ 2 then o_join (some H) (o_join (some S) s1) else o_wid (some D) (o_join (some S) s1)) ∧ mh_i h' 65 k = Int32.ofNat (r0 + 1) ∧ mh_i h' 60 k = 0 ∧ mh_i h' 66 k = Int32.ofNat t0) ∨ (o_le (o_join (some S) s1) (some H) ∧ pv h' 63 k (some H) ∧ mh_i h' 65 k = Int32.ofNat r0 ∧ ((t0 < 2 ∧ ¬ (o_le (o_join (some S) s1) (some H) ∧ o_le (some H) (o_join (some S) s1)) ∧ pv h' 53 6 (o_join (some S) s1) ∧ pv h' 61 k (o_join (some S) s1) ∧ mh_i h' 66 k = Int32.ofNat (t0 + 1) ∧ mh_i h' 60 k = 1) ∨ ((2 ≤ t0 ∨ (o_le (o_join (some S) s1) (some H) ∧ o_le (some H) (o_join (some S) s1))) ∧ pv h' 53 6 (some H) ∧ mh_i h' 66 k = Int32.ofNat t0 ∧ mh_i h' 60 k = 2)))) ∧ ∀ Q, mcall (d + 5) 8 [.ref 53, .int (Int32.ofNat k)] h Q = Q none h' := by
  have P1 : isPl 53 6 := by unfold isPl; omega
  have P3 : isPl 63 k := by unfold isPl; omega
  have P4 : isPl 64 k := by unfold isPl; omega
  obtain ⟨o3, e3, -⟩ := id k3
  obtain ⟨N, eN⟩ : ∃ N, o_join (some S) s1 = some N := by cases s1 <;> exact ⟨_, rfl⟩
  have wN : shp n a r (o_join (some S) s1) := join_shp w1 w2
  obtain ⟨h1, x1, B1, er1, q1, a7, run⟩ := er_0 (d := d) B hk e59 k1 k2 w1 w2 ph (by decide)
  rw [eN] at q1 wN ⊢
  obtain ⟨o1, e1, -⟩ := id q1
  have e1' : mh_r h 53 6 = some o1 := by rw [← er1]; exact e1
  have F := B.F
  have g60 := F.g 60 100 250 (by decide +kernel)
  have g65 := F.g 65 100 250 (by decide +kernel)
  have g66 := F.g 66 100 250 (by decide +kernel)
  have g53 := F.g 53 0 17 (by decide +kernel)
  have i1 : ∀ b, mg h b 100 → ¬ eff b → b ≠ 53 → mh_i h1 b k = mh_i h b k := fun b g ne n53 => x1.ii b 100 k g (by omega) (by omega) ne (by omega)
  have p1 : mh_i h1 60 k = 0 := by rw [i1 60 g60 (by unfold eff; omega) (by omega)]; exact ph
  have p5 : mh_i h1 65 k = Int32.ofNat r0 := by rw [i1 65 g65 (by unfold eff; omega) (by omega)]; exact e65
  have p6 : mh_i h1 66 k = Int32.ofNat t0 := by rw [i1 66 g66 (by unfold eff; omega) (by omega)]; exact e66
  have k31 := x1.pp _ _ _ P3 (by omega) k3
  have k41 := x1.pp _ _ _ P4 (by omega) k4
  have j9 : mh_i h1 53 9 = mh_i h 53 9 := x1.ii 53 0 9 g53 (by omega) (by omega) (by unfold eff; omega) (by omega)
  obtain ⟨x, hx, xiff, cin⟩ := w_in (d := d + 3) e1 (by rw [er1]; exact e3) q1 k31 (shp_2 wN w3)
  have F1 := B1.F
  have g531 := F1.g 53 0 17 (by decide +kernel)
  have t10 := F.f 53 10 60 (by decide +kernel)
  have g601 := F1.g 60 100 250 (by decide +kernel)
  have l601 := F1.l 60 100 250 (by decide +kernel)
  have t13 := F.f 53 13 63 (by decide +kernel)
  have g63 := (F1.g 63 104 250 (by decide +kernel)).1
  have g63' := (F1.g 63 104 250 (by decide +kernel)).2
  have l63 := F1.l 63 104 250 (by decide +kernel)
  have gO1 := (cs_so B1.S ⟨53, 6, P1, e1⟩).1.1
  have gO3 := (cs_so B1.S ⟨63, k, P3, by rw [er1]; exact e3⟩).1.1
  have e01 : ((0 : Int32) = 1) = False := by decide
  have e00 : ((0 : Int32) = 0) = True := by decide
  have e10 : ((1 : Int32) = 0) = False := by decide
  have kf : ∀ h2, zS (kV k) (kU k) h1 h2 → mh_i h2 53 7 = Int32.ofNat p ∧ mh_i h2 53 9 = mh_i h 53 9 ∧ zS (kV k) (kX k) h h2 := fun h2 x2 => ⟨by rw [x2.ii 53 0 7 g531 (by omega) (by omega) (by unfold eff; omega) (by unfold kU; omega)]; exact a7, by rw [x2.ii 53 0 9 g531 (by omega) (by omega) (by unfold eff; omega) (by unfold kU; omega)]; exact j9, zS_t (zS_w x1 (fun b j z => by unfold kV; omega) (fun b j z => by unfold kX; omega)) (zS_w x2 (fun _ _ z => z) (fun _ _ z => Or.inl z))⟩
  rcases hx with hx | hx
  · have nle : ¬ o_le (some N) (some H) := fun w => by rw [xiff.mpr w] at hx; exact absurd hx (by decide)
    obtain ⟨h2, x2, B2, q2, q3, q4, q5, q6, q7, c2⟩ := c_9 (d := d) B1 hk q1 k31 k41 wN w3 w4 lb p5 hr
    obtain ⟨f1, f2, f3⟩ := kf h2 x2
    refine ⟨h2, f3, B2, f1, f2, Or.inl ⟨nle, q2, q3, q4, q5, by rw [q6]; exact p1, by rw [q7]; exact p6⟩, fun Q => ?_⟩
    rw [run Q]
    rw [hx] at cin
    clear x1 x2 B B1 B2 F F1 k1 k2 k3 k4 k31 k41 q1 q2 q3 q4 q5 q6 q7 w1 w2 w3 w4 wN lb kf xiff run
    simp (disch := omega) only [s_8_0, s_8_1, s_8_4, s_8_5, s_8_5x, s_8_6, s_8_7, s_8_10, s_8_11, s_8_12, s_8_15, s_8_16, s_8_17, s_8_20, s_8_21, s_8_22, s_8_25, s_8_26, s_8_27, s_8_28, s_8_31, s_8_32, s_8_32x, s_8_33, s_8_36, s_8_37, s_8_40, s_8_41, s_8_44, s_8_45, s_8_46, s_8_49, s_8_50, s_8_53, s_8_54, s_8_54x, s_8_55, s_8_56, s_8_59, s_8_60, s_8_63, s_8_64, s_8_65, s_8_66, s_8_69, s_8_70, s_8_73, s_8_74, s_8_77, s_8_78, s_8_79, s_8_82, s_8_83, s_8_86, s_8_87, s_8_88, s_8_91, s_8_94, s_8_95, s_8_98, s_8_99, s_8_102, s_8_103, s_8_104, s_8_105, s_8_108, s_8_109, s_8_110, s_8_113, s_8_114, s_8_115, s_8_118, s_8_121, s_8_122, s_8_125, s_8_126, s_8_127, s_8_130, s_8_133, s_8_134, s_8_135, s_8_138, e_8, mv_i_1, mv_l_1, mv_a_1, mv_a_2, mv_a_3, mk2_n, mk2_i, mk2_l, mk2_a, mk2_u, mk2_x, mB_T, mB_F, mS_cons, mS_nil, mSB_T, mSB_F, mca_nil, mca_i, mca_l, mca_r, mca_u, mca_x, mcat_i, mcat_l, mcat_r, mcat_u, mcat_x, mK_some, mK_none, va_rf_s, va_rf_n, lgc_eq, lgc_lt, lgc_gt, lgc_ge, lgc_le, mrd_104, mrd_105, mrd_106, mrd_107, true_and, and_true, and_self, false_and, and_false, true_or, or_true, false_or, or_false, not_true_eq_false, not_false_eq_true, mgb, mga, mgr, mN, reduceCtorEq, ↓reduceIte, eq_self, ge_iff_le, gt_iff_lt, hk_si, hk_sj, hk_sr, hl_si, hl_sj, hl_sr, hn_si, hn_sj, hn_sr, hs_si, hs_sj, hs_sr, hi_sj, hi_sr, hj_si, hj_sr, hr_si, hr_sj, hi_si, hj_sj, hr_sr, mg_si, mg_sj, mg_sr, Nat.reduceAdd, Nat.reduceMul, Nat.reduceSub, Nat.reduceLT, Nat.reduceGT, Nat.reduceEqDiff, Nat.reduceLeDiff, Nat.left_eq_add, Nat.add_eq_left, Nat.reduceMod, Nat.reduceDiv, Nat.succ_ne_self, g531, er1, t10, g601, l601, p1, e01, e1', t13, g63, g63', l63, e3, gO1, gO3, e00, cin, c2, nn_mxT, nn_clamp]
  · have yle : o_le (some N) (some H) := xiff.mp hx
    obtain ⟨h2, x2, B2, q2, q3, q4, q5, c2⟩ := c_10 (d := d) B1 hk q1 k31 (by rw [er1]; exact nk) wN w3 p6 ht
    obtain ⟨f1, f2, f3⟩ := kf h2 x2
    refine ⟨h2, f3, B2, f1, f2, Or.inr ⟨yle, q3, by rw [q2]; exact p5, q5⟩, fun Q => ?_⟩
    rw [run Q]
    rw [hx] at cin
    clear x1 x2 B B1 B2 F F1 k1 k2 k3 k4 k31 k41 q1 q2 q3 q4 q5 w1 w2 w3 w4 wN lb kf xiff run
    simp (disch := omega) only [s_8_0, s_8_1, s_8_4, s_8_5, s_8_5x, s_8_6, s_8_7, s_8_10, s_8_11, s_8_12, s_8_15, s_8_16, s_8_17, s_8_20, s_8_21, s_8_22, s_8_25, s_8_26, s_8_27, s_8_28, s_8_31, s_8_32, s_8_32x, s_8_33, s_8_36, s_8_37, s_8_40, s_8_41, s_8_44, s_8_45, s_8_46, s_8_49, s_8_50, s_8_53, s_8_54, s_8_54x, s_8_55, s_8_56, s_8_59, s_8_60, s_8_63, s_8_64, s_8_65, s_8_66, s_8_69, s_8_70, s_8_73, s_8_74, s_8_77, s_8_78, s_8_79, s_8_82, s_8_83, s_8_86, s_8_87, s_8_88, s_8_91, s_8_94, s_8_95, s_8_98, s_8_99, s_8_102, s_8_103, s_8_104, s_8_105, s_8_108, s_8_109, s_8_110, s_8_113, s_8_114, s_8_115, s_8_118, s_8_121, s_8_122, s_8_125, s_8_126, s_8_127, s_8_130, s_8_133, s_8_134, s_8_135, s_8_138, e_8, mv_i_1, mv_l_1, mv_a_1, mv_a_2, mv_a_3, mk2_n, mk2_i, mk2_l, mk2_a, mk2_u, mk2_x, mB_T, mB_F, mS_cons, mS_nil, mSB_T, mSB_F, mca_nil, mca_i, mca_l, mca_r, mca_u, mca_x, mcat_i, mcat_l, mcat_r, mcat_u, mcat_x, mK_some, mK_none, va_rf_s, va_rf_n, lgc_eq, lgc_lt, lgc_gt, lgc_ge, lgc_le, mrd_104, mrd_105, mrd_106, mrd_107, true_and, and_true, and_self, false_and, and_false, true_or, or_true, false_or, or_false, not_true_eq_false, not_false_eq_true, mgb, mga, mgr, mN, reduceCtorEq, ↓reduceIte, eq_self, ge_iff_le, gt_iff_lt, hk_si, hk_sj, hk_sr, hl_si, hl_sj, hl_sr, hn_si, hn_sj, hn_sr, hs_si, hs_sj, hs_sr, hi_sj, hi_sr, hj_si, hj_sr, hr_si, hr_sj, hi_si, hj_sj, hr_sr, mg_si, mg_sj, mg_sr, Nat.reduceAdd, Nat.reduceMul, Nat.reduceSub, Nat.reduceLT, Nat.reduceGT, Nat.reduceEqDiff, Nat.reduceLeDiff, Nat.left_eq_add, Nat.add_eq_left, Nat.reduceMod, Nat.reduceDiv, Nat.succ_ne_self, g531, er1, t10, g601, l601, p1, e01, e1', t13, g63, g63', l63, e3, gO1, gO3, e00, e10, cin, c2, nn_mxT, nn_clamp]
/-- less is tried -/
theorem c_8T (B : BS h Y C E TT UU SC SP nC nE nS) {s1 : Option ab} {S : ab} {H T : Option ab} {t0 : Nat} (hk : k < 250) (e59 : mh_i h 59 k = Int32.ofNat p) (k1 : pv h 53 6 s1) (k2 : pv h 62 k (some S)) (k3 : pv h 63 k H) (k4 : pv h 61 k T) (w1 : shp n a r (some S)) (w2 : shp n a r s1) (w3 : shp n a r H) (w4 : shp n a r T) (ph : mh_i h 60 k = 1) (e66 : mh_i h 66 k = Int32.ofNat t0) (ht : t0 ≤ 2) : ∃ h', zS (kV k) (kX k) h h' ∧ BS h' Y C E TT UU SC SP nC nE nS ∧ mh_i h' 53 7 = Int32.ofNat p ∧ mh_i h' 53 9 = mh_i h 53 9 ∧ ((¬ o_le (o_join (some S) s1) T ∧ pv h' 63 k H ∧ pv h' 53 6 H ∧ mh_i h' 66 k = Int32.ofNat t0 ∧ mh_i h' 60 k = 2) ∨ (o_le (o_join (some S) s1) T ∧ pv h' 63 k T ∧ ((t0 < 2 ∧ ¬ (o_le (o_join (some S) s1) T ∧ o_le T (o_join (some S) s1)) ∧ pv h' 53 6 (o_join (some S) s1) ∧ pv h' 61 k (o_join (some S) s1) ∧ mh_i h' 66 k = Int32.ofNat (t0 + 1) ∧ mh_i h' 60 k = 1) ∨ ((2 ≤ t0 ∨ (o_le (o_join (some S) s1) T ∧ o_le T (o_join (some S) s1))) ∧ pv h' 53 6 T ∧ mh_i h' 66 k = Int32.ofNat t0 ∧ mh_i h' 60 k = 2)))) ∧ ∀ Q, mcall (d + 5) 8 [.ref 53, .int (Int32.ofNat k)] h Q = Q none h' := by
  have P1 : isPl 53 6 := by unfold isPl; omega
  have P3 : isPl 63 k := by unfold isPl; omega
  have P4 : isPl 61 k := by unfold isPl; omega
  obtain ⟨o3, e3, -⟩ := id k3
  obtain ⟨o4, e4, -⟩ := id k4
  have wN : shp n a r (o_join (some S) s1) := join_shp w1 w2
  obtain ⟨h1, x1, B1, er1, q1, a7, run⟩ := er_0 (d := d) B hk e59 k1 k2 w1 w2 ph (by decide)
  generalize o_join (some S) s1 = N at *
  obtain ⟨o1, e1, -⟩ := id q1
  have e1' : mh_r h 53 6 = some o1 := by rw [← er1]; exact e1
  have F := B.F
  have g60 := F.g 60 100 250 (by decide +kernel)
  have g66 := F.g 66 100 250 (by decide +kernel)
  have g53 := F.g 53 0 17 (by decide +kernel)
  have i1 : ∀ b, mg h b 100 → ¬ eff b → b ≠ 53 → mh_i h1 b k = mh_i h b k := fun b g ne n53 => x1.ii b 100 k g (by omega) (by omega) ne (by omega)
  have p1 : mh_i h1 60 k = 1 := by rw [i1 60 g60 (by unfold eff; omega) (by omega)]; exact ph
  have p6 : mh_i h1 66 k = Int32.ofNat t0 := by rw [i1 66 g66 (by unfold eff; omega) (by omega)]; exact e66
  have k31 := x1.pp _ _ _ P3 (by omega) k3
  have k41 := x1.pp _ _ _ P4 (by omega) k4
  have j9 : mh_i h1 53 9 = mh_i h 53 9 := x1.ii 53 0 9 g53 (by omega) (by omega) (by unfold eff; omega) (by omega)
  obtain ⟨x, hx, xiff, cin⟩ := w_in (d := d + 3) e1 (by rw [er1]; exact e4) q1 k41 (shp_2 wN w4)
  have F1 := B1.F
  have g531 := F1.g 53 0 17 (by decide +kernel)
  have t10 := F.f 53 10 60 (by decide +kernel)
  have g601 := F1.g 60 100 250 (by decide +kernel)
  have l601 := F1.l 60 100 250 (by decide +kernel)
  have t13 := F.f 53 13 63 (by decide +kernel)
  have g63 := (F1.g 63 104 250 (by decide +kernel)).1
  have g63' := (F1.g 63 104 250 (by decide +kernel)).2
  have l63 := F1.l 63 104 250 (by decide +kernel)
  have t11 := F.f 53 11 61 (by decide +kernel)
  have g61 := (F1.g 61 104 250 (by decide +kernel)).1
  have g61' := (F1.g 61 104 250 (by decide +kernel)).2
  have l61 := F1.l 61 104 250 (by decide +kernel)
  have gO1 := (cs_so B1.S ⟨53, 6, P1, e1⟩).1.1
  have gO3 := (cs_so B1.S ⟨63, k, P3, by rw [er1]; exact e3⟩).1.1
  have gO4 := (cs_so B1.S ⟨61, k, P4, by rw [er1]; exact e4⟩).1.1
  have e11 : ((1 : Int32) = 1) = True := by decide
  have e00 : ((0 : Int32) = 0) = True := by decide
  have e10 : ((1 : Int32) = 0) = False := by decide
  rcases hx with hx | hx
  · have nle : ¬ o_le N T := fun w => by rw [xiff.mpr w] at hx; exact absurd hx (by decide)
    obtain ⟨h2, x2, B2, q2, q3, c2⟩ := c_11 (d := d + 2) B1 hk k31 (by rw [e1]; exact fun z => by cases z)
    refine ⟨h2, zS_t (zS_w x1 (fun b j z => by unfold kV; omega) (fun b j z => by unfold kX; omega)) (zS_w x2 (fun b j z => by unfold kV; omega) (fun b j z => by unfold kX kU; omega)), B2, ?_, ?_, Or.inl ⟨nle, x2.pp _ _ _ P3 (by omega) k31, q2, ?_, q3⟩, fun Q => ?_⟩
    · rw [x2.ii 53 0 7 g531 (by omega) (by omega) (by unfold eff; omega) (by omega)]; exact a7
    · rw [x2.ii 53 0 9 g531 (by omega) (by omega) (by unfold eff; omega) (by omega)]; exact j9
    · rw [x2.ii 66 100 k (F1.g 66 100 250 (by decide +kernel)) (by omega) (by omega) (by unfold eff; omega) (by omega)]; exact p6
    · rw [run Q]
      rw [hx] at cin
      clear x1 x2 B B1 B2 F F1 k1 k2 k3 k4 k31 k41 q1 q2 q3 w1 w2 w3 w4 wN xiff run
      simp (disch := omega) only [s_8_0, s_8_1, s_8_4, s_8_5, s_8_5x, s_8_6, s_8_7, s_8_10, s_8_11, s_8_12, s_8_15, s_8_16, s_8_17, s_8_20, s_8_21, s_8_22, s_8_25, s_8_26, s_8_27, s_8_28, s_8_31, s_8_32, s_8_32x, s_8_33, s_8_36, s_8_37, s_8_40, s_8_41, s_8_44, s_8_45, s_8_46, s_8_49, s_8_50, s_8_53, s_8_54, s_8_54x, s_8_55, s_8_56, s_8_59, s_8_60, s_8_63, s_8_64, s_8_65, s_8_66, s_8_69, s_8_70, s_8_73, s_8_74, s_8_77, s_8_78, s_8_79, s_8_82, s_8_83, s_8_86, s_8_87, s_8_88, s_8_91, s_8_94, s_8_95, s_8_98, s_8_99, s_8_102, s_8_103, s_8_104, s_8_105, s_8_108, s_8_109, s_8_110, s_8_113, s_8_114, s_8_115, s_8_118, s_8_121, s_8_122, s_8_125, s_8_126, s_8_127, s_8_130, s_8_133, s_8_134, s_8_135, s_8_138, e_8, mv_i_1, mv_l_1, mv_a_1, mv_a_2, mv_a_3, mk2_n, mk2_i, mk2_l, mk2_a, mk2_u, mk2_x, mB_T, mB_F, mS_cons, mS_nil, mSB_T, mSB_F, mca_nil, mca_i, mca_l, mca_r, mca_u, mca_x, mcat_i, mcat_l, mcat_r, mcat_u, mcat_x, mK_some, mK_none, va_rf_s, va_rf_n, lgc_eq, lgc_lt, lgc_gt, lgc_ge, lgc_le, mrd_104, mrd_105, mrd_106, mrd_107, true_and, and_true, and_self, false_and, and_false, true_or, or_true, false_or, or_false, not_true_eq_false, not_false_eq_true, mgb, mga, mgr, mN, reduceCtorEq, ↓reduceIte, eq_self, ge_iff_le, gt_iff_lt, hk_si, hk_sj, hk_sr, hl_si, hl_sj, hl_sr, hn_si, hn_sj, hn_sr, hs_si, hs_sj, hs_sr, hi_sj, hi_sr, hj_si, hj_sr, hr_si, hr_sj, hi_si, hj_sj, hr_sr, mg_si, mg_sj, mg_sr, Nat.reduceAdd, Nat.reduceMul, Nat.reduceSub, Nat.reduceLT, Nat.reduceGT, Nat.reduceEqDiff, Nat.reduceLeDiff, Nat.left_eq_add, Nat.add_eq_left, Nat.reduceMod, Nat.reduceDiv, Nat.succ_ne_self, g531, er1, t10, g601, l601, p1, e11, e1', t11, g61, g61', l61, e4, gO1, gO4, e00, e10, cin, c2, nn_mxT, nn_clamp]
  · have yle : o_le N T := xiff.mp hx
    obtain ⟨h2, x2, B2, er2, q2, c2⟩ := w_copy (d := d + 3) B1 P3 P4 (by omega) (by rw [er1]; exact e3) (by rw [er1]; exact e4) k41
    have q12 := x2.pp _ _ _ P1 (by omega) q1
    have p62 : mh_i h2 66 k = Int32.ofNat t0 := by rw [x2.ii 66 100 k (F1.g 66 100 250 (by decide +kernel)) (by omega) (by omega) (by unfold eff; omega) (fun z => z)]; exact p6
    obtain ⟨h3, x3, B3, r2, r3, r4, r5, c3⟩ := c_10 (d := d) B2 hk q12 q2 (by rw [er2, er1, e4]; exact fun z => by cases z) wN w4 p62 ht
    have g532 := B2.F.g 53 0 17 (by decide +kernel)
    refine ⟨h3, zS_t (zS_w x1 (fun b j z => by unfold kV; omega) (fun b j z => by unfold kX; omega)) (zS_t (zS_w x2 (fun b j z => by unfold kV; omega) (fun _ _ z => z.elim)) (zS_w x3 (fun _ _ z => z) (fun _ _ z => Or.inl z))), B3, ?_, ?_, Or.inr ⟨yle, r3, r5⟩, fun Q => ?_⟩
    · rw [x3.ii 53 0 7 g532 (by omega) (by omega) (by unfold eff; omega) (by unfold kU; omega), x2.ii 53 0 7 g531 (by omega) (by omega) (by unfold eff; omega) (fun z => z)]; exact a7
    · rw [x3.ii 53 0 9 g532 (by omega) (by omega) (by unfold eff; omega) (by unfold kU; omega), x2.ii 53 0 9 g531 (by omega) (by omega) (by unfold eff; omega) (fun z => z)]; exact j9
    · rw [run Q]
      rw [hx] at cin
      clear x1 x2 x3 B B1 B2 B3 F F1 k1 k2 k3 k4 k31 k41 q1 q2 q12 r2 r3 r4 r5 w1 w2 w3 w4 wN xiff run
      simp (disch := omega) only [s_8_0, s_8_1, s_8_4, s_8_5, s_8_5x, s_8_6, s_8_7, s_8_10, s_8_11, s_8_12, s_8_15, s_8_16, s_8_17, s_8_20, s_8_21, s_8_22, s_8_25, s_8_26, s_8_27, s_8_28, s_8_31, s_8_32, s_8_32x, s_8_33, s_8_36, s_8_37, s_8_40, s_8_41, s_8_44, s_8_45, s_8_46, s_8_49, s_8_50, s_8_53, s_8_54, s_8_54x, s_8_55, s_8_56, s_8_59, s_8_60, s_8_63, s_8_64, s_8_65, s_8_66, s_8_69, s_8_70, s_8_73, s_8_74, s_8_77, s_8_78, s_8_79, s_8_82, s_8_83, s_8_86, s_8_87, s_8_88, s_8_91, s_8_94, s_8_95, s_8_98, s_8_99, s_8_102, s_8_103, s_8_104, s_8_105, s_8_108, s_8_109, s_8_110, s_8_113, s_8_114, s_8_115, s_8_118, s_8_121, s_8_122, s_8_125, s_8_126, s_8_127, s_8_130, s_8_133, s_8_134, s_8_135, s_8_138, e_8, mv_i_1, mv_l_1, mv_a_1, mv_a_2, mv_a_3, mk2_n, mk2_i, mk2_l, mk2_a, mk2_u, mk2_x, mB_T, mB_F, mS_cons, mS_nil, mSB_T, mSB_F, mca_nil, mca_i, mca_l, mca_r, mca_u, mca_x, mcat_i, mcat_l, mcat_r, mcat_u, mcat_x, mK_some, mK_none, va_rf_s, va_rf_n, lgc_eq, lgc_lt, lgc_gt, lgc_ge, lgc_le, mrd_104, mrd_105, mrd_106, mrd_107, true_and, and_true, and_self, false_and, and_false, true_or, or_true, false_or, or_false, not_true_eq_false, not_false_eq_true, mgb, mga, mgr, mN, reduceCtorEq, ↓reduceIte, eq_self, ge_iff_le, gt_iff_lt, hk_si, hk_sj, hk_sr, hl_si, hl_sj, hl_sr, hn_si, hn_sj, hn_sr, hs_si, hs_sj, hs_sr, hi_sj, hi_sr, hj_si, hj_sr, hr_si, hr_sj, hi_si, hj_sj, hr_sr, mg_si, mg_sj, mg_sr, Nat.reduceAdd, Nat.reduceMul, Nat.reduceSub, Nat.reduceLT, Nat.reduceGT, Nat.reduceEqDiff, Nat.reduceLeDiff, Nat.left_eq_add, Nat.add_eq_left, Nat.reduceMod, Nat.reduceDiv, Nat.succ_ne_self, g531, er1, t10, g601, l601, p1, e11, e1', t11, g61, g61', l61, e4, t13, g63, g63', l63, e3, gO1, gO3, gO4, e00, e10, cin, c2, g532, c3, nn_mxT, nn_clamp]
end ERs
