set_option maxRecDepth 100000
/-! unclaim, in the class -/
section UCs
variable {d : Nat} {h h1 : mh_H} {Y C E TT UU SC SP nC nE nS : Nat} {G : pgm} {cnt : Nat} {cl kn : Nat → Option ab}
theorem un_l (B : BS h Y C E TT UU SC SP nC nE nS) (H : PH h G cnt) (kc : ∀ q, q < cnt → pv h 73 q (cl q)) (kk : ∀ i, i < cnt → pv h 54 i (kn i)) (S : CSH G cnt cl) (S' : CSH G cnt kn) (L : CLE cnt cl kn) : ∀ n, n ≤ cnt → cnU kn cl n ≤ n ∧ ∀ Q, mw (d + 3) 202 Q 4 [some (.ref 0), some (.int (Int32.ofNat 0)), some (.int (Int32.ofNat 0))] [] h = mw (d + 3) 202 Q 4 [some (.ref 0), some (.int (Int32.ofNat (cnU kn cl n))), some (.int (Int32.ofNat n))] [] h := by
  intro n
  induction n with
  | zero => exact fun _ => ⟨Nat.le_refl _, fun _ => rfl⟩
  | succ n ih =>
    intro hn
    obtain ⟨i1, i2⟩ := ih (by omega)
    have cb := H.b
    have F := B.F
    have g0 := F.g 0 11 15 (by decide +kernel)
    have t2 := F.f 0 2 2 (by decide +kernel)
    have t4 := F.f 0 4 53 (by decide +kernel)
    have t6 := F.f 0 6 73 (by decide +kernel)
    have g2 := F.g 2 4 20 (by decide +kernel)
    have g53 := F.g 53 0 17 (by decide +kernel)
    have u0 := F.f 53 0 54 (by decide +kernel)
    have g54 := (F.g 54 104 250 (by decide +kernel)).1
    have g54' := (F.g 54 104 250 (by decide +kernel)).2
    have l54 := F.l 54 104 250 (by decide +kernel)
    have g73 := (F.g 73 104 250 (by decide +kernel)).1
    have g73' := (F.g 73 104 250 (by decide +kernel)).2
    have l73 := F.l 73 104 250 (by decide +kernel)
    have c := H.c
    have le : (cnt ≤ n) = False := eq_false (by omega)
    have ei : ∀ k, Int32.ofNat k + 1 = Int32.ofNat (k + 1) := fun k => nn_add (a := k) (b := 1)
    have P7 : isPl 73 n := by unfold isPl; omega
    have P5 : isPl 54 n := by unfold isPl; omega
    obtain ⟨o1, e1, -⟩ := id (kc n (by omega))
    obtain ⟨o2, e2, -⟩ := id (kk n (by omega))
    have gO1 := (cs_so B.S ⟨73, n, P7, e1⟩).1.1
    have gO2 := (cs_so B.S ⟨54, n, P5, e2⟩).1.1
    have e00 : ((0 : Int32) = 0) = True := by decide
    have e10 : ((1 : Int32) = 0) = False := by decide
    obtain ⟨x, w1, w2, c2⟩ := w_same (d := d) e1 e2 (kc n (by omega)) (kk n (by omega)) (fun A' B' z1 z2 => by
      obtain ⟨-, a1, a2, -⟩ := S n (by omega) A' z1
      obtain ⟨-, b1, b2, -⟩ := S' n (by omega) B' z2
      exact ⟨a1.trans b1.symm, a2.trans b2.symm⟩)
    have l := L n (by omega)
    by_cases k : o_le (kn n) (cl n)
    · have ek : cnU kn cl (n + 1) = cnU kn cl n := by
        show cnU kn cl n + @ite _ (o_le (kn n) (cl n)) (Classical.propDecidable _) 0 1 = _
        rw [if_pos k]
        rfl
      have x1 := w2.mpr ⟨l, k⟩
      subst x1
      refine ⟨by rw [ek]; omega, fun Q => ?_⟩
      rw [i2, ek]
      clear B H kc kk S S' L F w1 w2 l k ih i2
      rw [s_202_4]
      simp (disch := omega) only [s_202_0, s_202_1, s_202_2, s_202_3, s_202_5, s_202_6, s_202_9, s_202_12, s_202_15, s_202_16, s_202_19, s_202_20, s_202_21, s_202_22, s_202_25, s_202_28, s_202_29, s_202_30, s_202_33, s_202_36, s_202_39, s_202_42, s_202_45, s_202_46, s_202_49, s_202_50, e_202, mv_i_1, mv_l_1, mv_a_1, mv_a_2, mv_a_3, mk2_n, mk2_i, mk2_l, mk2_a, mk2_u, mk2_x, mB_T, mB_F, mS_cons, mS_nil, mSB_T, mSB_F, mca_nil, mca_i, mca_l, mca_r, mca_u, mca_x, mcat_i, mcat_l, mcat_r, mcat_u, mcat_x, mK_some, mK_none, va_rf_s, va_rf_n, lgc_eq, lgc_lt, lgc_gt, lgc_ge, lgc_le, mrd_104, mrd_105, mrd_106, mrd_107, true_and, and_true, and_self, false_and, and_false, true_or, or_true, false_or, or_false, not_true_eq_false, not_false_eq_true, mgb, mga, mgr, mN, reduceCtorEq, ↓reduceIte, eq_self, ge_iff_le, gt_iff_lt, hk_si, hk_sj, hk_sr, hl_si, hl_sj, hl_sr, hn_si, hn_sj, hn_sr, hs_si, hs_sj, hs_sr, hi_sj, hi_sr, hj_si, hj_sr, hr_si, hr_sj, hi_si, hj_sj, hr_sr, mg_si, mg_sj, mg_sr, Nat.reduceAdd, Nat.reduceMul, Nat.reduceSub, Nat.reduceLT, Nat.reduceGT, Nat.reduceEqDiff, Nat.reduceLeDiff, Nat.left_eq_add, Nat.add_eq_left, Nat.reduceMod, Nat.reduceDiv, Nat.succ_ne_self, g0, t2, t4, t6, g2, g53, u0, g54, g54', l54, g73, g73', l73, c, nn_le, le, e1, e2, gO1, gO2, c2, e10, ei, nn_mxT, nn_clamp]
    · have ek : cnU kn cl (n + 1) = cnU kn cl n + 1 := by
        show cnU kn cl n + @ite _ (o_le (kn n) (cl n)) (Classical.propDecidable _) 0 1 = _
        rw [if_neg k]
      have x0 : x = 0 := w1.resolve_right (fun z => k (w2.mp z).2)
      subst x0
      refine ⟨by rw [ek]; omega, fun Q => ?_⟩
      rw [i2, ek]
      clear B H kc kk S S' L F w1 w2 l k ih i2
      rw [s_202_4]
      simp (disch := omega) only [s_202_0, s_202_1, s_202_2, s_202_3, s_202_5, s_202_6, s_202_9, s_202_12, s_202_15, s_202_16, s_202_19, s_202_20, s_202_21, s_202_22, s_202_25, s_202_28, s_202_29, s_202_30, s_202_33, s_202_36, s_202_39, s_202_42, s_202_45, s_202_46, s_202_49, s_202_50, e_202, mv_i_1, mv_l_1, mv_a_1, mv_a_2, mv_a_3, mk2_n, mk2_i, mk2_l, mk2_a, mk2_u, mk2_x, mB_T, mB_F, mS_cons, mS_nil, mSB_T, mSB_F, mca_nil, mca_i, mca_l, mca_r, mca_u, mca_x, mcat_i, mcat_l, mcat_r, mcat_u, mcat_x, mK_some, mK_none, va_rf_s, va_rf_n, lgc_eq, lgc_lt, lgc_gt, lgc_ge, lgc_le, mrd_104, mrd_105, mrd_106, mrd_107, true_and, and_true, and_self, false_and, and_false, true_or, or_true, false_or, or_false, not_true_eq_false, not_false_eq_true, mgb, mga, mgr, mN, reduceCtorEq, ↓reduceIte, eq_self, ge_iff_le, gt_iff_lt, hk_si, hk_sj, hk_sr, hl_si, hl_sj, hl_sr, hn_si, hn_sj, hn_sr, hs_si, hs_sj, hs_sr, hi_sj, hi_sr, hj_si, hj_sr, hr_si, hr_sj, hi_si, hj_sj, hr_sr, mg_si, mg_sj, mg_sr, Nat.reduceAdd, Nat.reduceMul, Nat.reduceSub, Nat.reduceLT, Nat.reduceGT, Nat.reduceEqDiff, Nat.reduceLeDiff, Nat.left_eq_add, Nat.add_eq_left, Nat.reduceMod, Nat.reduceDiv, Nat.succ_ne_self, g0, t2, t4, t6, g2, g53, u0, g54, g54', l54, g73, g73', l73, c, nn_le, le, e1, e2, gO1, gO2, c2, e00, ei, nn_mxT, nn_clamp]
theorem v_202 (B : BS h Y C E TT UU SC SP nC nE nS) (H : PH h G cnt) (cn : ∀ i, i < 250 → mh_r h 73 i = none ∨ ∃ v, pv h 73 i v) (kc : ∀ q, q < cnt → pv h 73 q (cl q)) (kk : ∀ i, i < cnt → pv h 54 i (kn i)) (S : CSH G cnt cl) (S' : CSH G cnt kn) (L : CLE cnt cl kn) : ∃ h', zS (fun b _ => b = 73) ntU h h' ∧ BS h' Y C E TT UU SC SP nC nE nS ∧ (∀ i, i < 250 → mh_r h' 73 i = none ∨ ∃ v, pv h' 73 i v) ∧ (∀ i, i < cnt → pv h' 73 i (kn i)) ∧ mh_i h' 0 10 = 0 ∧ mh_i h' 0 11 = 0 ∧ ∀ Q, mcall (d + 3) 202 [.ref 0] h Q = Q (some (.int (Int32.ofNat (cnU kn cl cnt)))) h' := by
  obtain ⟨h1, x1, B1, cn1, k1, f1, f2, c187⟩ := v_187 (d := d) B H cn kk
  obtain ⟨i1, i2⟩ := un_l (d := d) B H kc kk S S' L cnt (Nat.le_refl _)
  refine ⟨h1, x1, B1, cn1, k1, f1, f2, fun Q => ?_⟩
  have cb := H.b
  have F := B.F
  have g0 := F.g 0 11 15 (by decide +kernel)
  have t2 := F.f 0 2 2 (by decide +kernel)
  have g2 := F.g 2 4 20 (by decide +kernel)
  have c := H.c
  have le : (cnt ≤ cnt) = True := eq_true (Nat.le_refl _)
  have r0 := i2 Q
  have e0 : Int32.ofNat 0 = 0 := rfl
  rw [e0] at r0
  have r1 : mcall (d + 3) 202 [.ref 0] h Q = mw (d + 3) 202 Q 4 [some (.ref 0), some (.int 0), some (.int 0)] [] h := by
    clear B H cn kc kk S S' L x1 B1 cn1 k1 F r0 i2
    simp (disch := omega) only [s_202_0, s_202_1, s_202_2, s_202_3, s_202_5, s_202_6, s_202_9, s_202_12, s_202_15, s_202_16, s_202_19, s_202_20, s_202_21, s_202_22, s_202_25, s_202_28, s_202_29, s_202_30, s_202_33, s_202_36, s_202_39, s_202_42, s_202_45, s_202_46, s_202_49, s_202_50, e_202, mv_i_1, mv_l_1, mv_a_1, mv_a_2, mv_a_3, mk2_n, mk2_i, mk2_l, mk2_a, mk2_u, mk2_x, mB_T, mB_F, mS_cons, mS_nil, mSB_T, mSB_F, mca_nil, mca_i, mca_l, mca_r, mca_u, mca_x, mcat_i, mcat_l, mcat_r, mcat_u, mcat_x, mK_some, mK_none, va_rf_s, va_rf_n, lgc_eq, lgc_lt, lgc_gt, lgc_ge, lgc_le, mrd_104, mrd_105, mrd_106, mrd_107, true_and, and_true, and_self, false_and, and_false, true_or, or_true, false_or, or_false, not_true_eq_false, not_false_eq_true, mgb, mga, mgr, mN, reduceCtorEq, ↓reduceIte, eq_self, ge_iff_le, gt_iff_lt, hk_si, hk_sj, hk_sr, hl_si, hl_sj, hl_sr, hn_si, hn_sj, hn_sr, hs_si, hs_sj, hs_sr, hi_sj, hi_sr, hj_si, hj_sr, hr_si, hr_sj, hi_si, hj_sj, hr_sr, mg_si, mg_sj, mg_sr, Nat.reduceAdd, Nat.reduceMul, Nat.reduceSub, Nat.reduceLT, Nat.reduceGT, Nat.reduceEqDiff, Nat.reduceLeDiff, Nat.left_eq_add, Nat.add_eq_left, Nat.reduceMod, Nat.reduceDiv, Nat.succ_ne_self, g0]
  rw [r1, r0, s_202_4]
  clear B H cn kc kk S S' L x1 B1 cn1 k1 F r0 i2 r1
  simp (disch := omega) only [s_202_0, s_202_1, s_202_2, s_202_3, s_202_5, s_202_6, s_202_9, s_202_12, s_202_15, s_202_16, s_202_19, s_202_20, s_202_21, s_202_22, s_202_25, s_202_28, s_202_29, s_202_30, s_202_33, s_202_36, s_202_39, s_202_42, s_202_45, s_202_46, s_202_49, s_202_50, e_202, mv_i_1, mv_l_1, mv_a_1, mv_a_2, mv_a_3, mk2_n, mk2_i, mk2_l, mk2_a, mk2_u, mk2_x, mB_T, mB_F, mS_cons, mS_nil, mSB_T, mSB_F, mca_nil, mca_i, mca_l, mca_r, mca_u, mca_x, mcat_i, mcat_l, mcat_r, mcat_u, mcat_x, mK_some, mK_none, va_rf_s, va_rf_n, lgc_eq, lgc_lt, lgc_gt, lgc_ge, lgc_le, mrd_104, mrd_105, mrd_106, mrd_107, true_and, and_true, and_self, false_and, and_false, true_or, or_true, false_or, or_false, not_true_eq_false, not_false_eq_true, mgb, mga, mgr, mN, reduceCtorEq, ↓reduceIte, eq_self, ge_iff_le, gt_iff_lt, hk_si, hk_sj, hk_sr, hl_si, hl_sj, hl_sr, hn_si, hn_sj, hn_sr, hs_si, hs_sj, hs_sr, hi_sj, hi_sr, hj_si, hj_sr, hr_si, hr_sj, hi_si, hj_sj, hr_sr, mg_si, mg_sj, mg_sr, Nat.reduceAdd, Nat.reduceMul, Nat.reduceSub, Nat.reduceLT, Nat.reduceGT, Nat.reduceEqDiff, Nat.reduceLeDiff, Nat.left_eq_add, Nat.add_eq_left, Nat.reduceMod, Nat.reduceDiv, Nat.succ_ne_self, g0, t2, g2, c, nn_le, le, c187]
end UCs
