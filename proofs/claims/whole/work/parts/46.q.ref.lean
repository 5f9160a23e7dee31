set_option maxRecDepth 100000
/-! claimRange, unclaim, inductive, in the reference -/
section REs
variable {d : Nat} {h h1 : mh_H} {G : pgm} {cnt q o k : Nat} {p a g c : Int32} {cl kn : Nat → Option ab} {X : Option ab} {A : ab} {w : Int64}
def rkH (h : mh_H) (o k : Nat) (g : Int32) (w : Int64) (z : Int32) : mh_H := mh_si (mh_sj h (if g = 0 then o + 2 else o + 3) k w) o 0 z
theorem rkH_f {z : Int32} : fq (kW o) h (rkH h o k g w z) := fq_t (fq_sj (by unfold kW; split <;> omega)) (fq_si (Or.inl rfl))
theorem rkH_n {z : Int32} {b j : Nat} (hj : ¬ (b = o ∧ j = 0)) : mh_i (rkH h o k g w z) b j = mh_i h b j := by
  unfold rkH
  rw [hi_si, if_neg hj, hi_sj]
theorem rkH_N (r : RK h o (some A)) : RK (rkH h o k g w 1) o none := by
  have r : KM h o A := r
  show KN _ o
  refine ⟨ko_fq rkH_f r.s, by unfold rkH; rw [hi_si, if_pos ⟨rfl, rfl⟩], ⟨A.n, r.n12, ?_⟩, ⟨A.a, r.a6, ?_⟩⟩
  · rw [rkH_n (by omega)]; exact r.n
  · rw [rkH_n (by omega)]; exact r.a
theorem rkH_S (r : RK h o (some A)) : RK (rkH h o k g w 0) o (some (rgO k g w.toInt A)) := by
  have r : KM h o A := r
  have e1 : ∀ b j, mh_j (rkH h o k g w 0) b j = if b = (if g = 0 then o + 2 else o + 3) ∧ j = k then w else mh_j h b j := fun b j => by unfold rkH; rw [hj_si, hj_sj]
  show KM _ o _
  refine ⟨ko_fq rkH_f r.s, by unfold rkH; rw [hi_si, if_pos ⟨rfl, rfl⟩], by rw [rkH_n (by omega)]; exact r.n, r.n12, by rw [rkH_n (by omega)]; exact r.a, r.a6, fun i j hi hj => ?_, fun x hx => ?_, fun x hx => ?_, fun x hx => ?_⟩
  · rw [e1, if_neg (by split <;> omega)]; exact r.m i j hi hj
  · have el : (rgO k g w.toInt A).lo x = if x = k ∧ g = 0 then w.toInt else A.lo x := rfl
    rw [e1, el]
    by_cases g0 : g = 0
    · rw [if_pos g0]
      by_cases xk : x = k
      · rw [if_pos ⟨rfl, xk⟩, if_pos ⟨xk, g0⟩]
      · rw [if_neg (fun z => xk z.2), if_neg (fun z => xk z.1)]; exact r.lo x hx
    · rw [if_neg g0, if_neg (by omega), if_neg (fun z => g0 z.2)]; exact r.lo x hx
  · have eh : (rgO k g w.toInt A).hi x = if x = k ∧ ¬ g = 0 then w.toInt else A.hi x := rfl
    rw [e1, eh]
    by_cases g0 : g = 0
    · rw [if_pos g0, if_neg (by omega), if_neg (fun z => z.2 g0)]; exact r.hi x hx
    · rw [if_neg g0]
      by_cases xk : x = k
      · rw [if_pos ⟨rfl, xk⟩, if_pos ⟨xk, g0⟩]
      · rw [if_neg (fun z => xk z.2), if_neg (fun z => xk z.1)]; exact r.hi x hx
  · rw [rkH_n (by omega)]; exact r.rm x hx
theorem u_380 (F : RF h) (H : RPH h G cnt) (kc : ∀ q, q < cnt → RK h (137 + 10 * q) (cl q)) (S : CSH G cnt cl) : ∃ h', fq (clW cnt) h h' ∧ (∀ q, q < cnt → RK h' (137 + 10 * q) (crC G cnt cl p a g c q)) ∧ (∀ q, q < 250 → mh_i h' (137 + 10 * q) 2 = mh_i h (137 + 10 * q) 2) ∧ ∀ Q, mcall (d + 3) 380 [.ref 81, .int p, .int a, .int g, .int c] h Q = Q (some (.int (crR G cnt cl p a g c))) h' := by
  have cb := H.b
  have c373 := u_373 (d := d + 2) (p := p) F H
  have g1 := F.g 81 14 70 (by decide +kernel)
  have t32 := F.f 81 32 104 (by decide +kernel)
  have g4 := F.g 104 100 250 (by decide +kernel)
  have l4 := F.l 104 100 250 (by decide +kernel)
  have t52 := F.f 81 52 115 (by decide +kernel)
  have t53 := F.f 81 53 2632 (by decide +kernel)
  have g5 := F.g 115 12 38 (by decide +kernel)
  have t5 := F.f 115 5 117 (by decide +kernel)
  have g7 := (F.g 117 106 250 (by decide +kernel)).1
  have g7' := (F.g 117 106 250 (by decide +kernel)).2
  have l7 := F.l 117 106 250 (by decide +kernel)
  have e00 : ((0 : Int32) = 0) = True := by decide
  have e10 : ((1 : Int32) = 0) = False := by decide
  cases ok : okP cnt p with
  | false =>
    have okA' : okA G cnt p a = false := by unfold okA; rw [ok, Bool.false_and]
    have r : crR G cnt cl p a g c = -1 := by unfold crR; rw [okA', if_neg (by decide)]
    have rc : crC G cnt cl p a g c = cl := by unfold crC; rw [okA', if_neg (by decide)]
    refine ⟨h, fq_id, by rw [rc]; exact kc, fun _ _ => rfl, fun Q => ?_⟩
    rw [r]
    rw [ok] at c373
    clear F H kc S
    simp (disch := omega) only [s_380_0, s_380_1, s_380_2, s_380_5, s_380_8, s_380_9, s_380_12, s_380_13, s_380_14, s_380_17, s_380_18, s_380_18x, s_380_19, s_380_22, s_380_23, s_380_24, s_380_25, s_380_28, s_380_31, s_380_32, s_380_33, s_380_33n, s_380_33x, s_380_35, s_380_37, s_380_40, s_380_43, s_380_44, s_380_45, s_380_46, s_380_49, s_380_51, s_380_54, s_380_55, s_380_58, s_380_60, s_380_63, s_380_64, s_380_66, s_380_69, s_380_70, s_380_71, s_380_73, s_380_74, s_380_77, s_380_78, s_380_81, s_380_83, s_380_86, s_380_87, s_380_89, s_380_92, s_380_93, s_380_94, s_380_96, s_380_97, s_380_100, s_380_101, s_380_103, s_380_105, s_380_108, s_380_109, s_380_110, s_380_112, s_380_115, s_380_116, s_380_117, s_380_118, s_380_121, s_380_122, s_380_125, s_380_126, s_380_129, s_380_130, s_380_133, s_380_135, s_380_138, s_380_141, s_380_142, s_380_145, s_380_146, e_380, mv_i_1, mv_l_1, mv_a_1, mv_a_2, mv_a_3, mk2_n, mk2_i, mk2_l, mk2_a, mk2_u, mk2_x, mB_T, mB_F, mS_cons, mS_nil, mSB_T, mSB_F, mca_nil, mca_i, mca_l, mca_r, mca_u, mca_x, mcat_i, mcat_l, mcat_r, mcat_u, mcat_x, mK_some, mK_none, va_rf_s, va_rf_n, lgc_eq, lgc_lt, lgc_gt, lgc_ge, lgc_le, mrd_104, mrd_105, mrd_106, mrd_107, true_and, and_true, and_self, false_and, and_false, true_or, or_true, false_or, or_false, not_true_eq_false, not_false_eq_true, mgb, mga, mgr, mN, reduceCtorEq, ↓reduceIte, eq_self, ge_iff_le, gt_iff_lt, hk_si, hk_sj, hk_sr, hl_si, hl_sj, hl_sr, hn_si, hn_sj, hn_sr, hs_si, hs_sj, hs_sr, hi_sj, hi_sr, hj_si, hj_sr, hr_si, hr_sj, hi_si, hj_sj, hr_sr, mg_si, mg_sj, mg_sr, Nat.reduceAdd, Nat.reduceMul, Nat.reduceSub, Nat.reduceLT, Nat.reduceGT, Nat.reduceEqDiff, Nat.reduceLeDiff, Nat.left_eq_add, Nat.add_eq_left, Nat.reduceMod, Nat.reduceDiv, Nat.succ_ne_self, g1, c373, kbF, e00]
  | true =>
    rw [ok] at c373
    obtain ⟨q, hq, ep, eq⟩ := okP_n (by omega) ok
    obtain ⟨ha, ha2⟩ := H.a q hq
    cases ok2 : okP (G.a q) a with
    | false =>
      have okA' : okA G cnt p a = false := by unfold okA; rw [eq, ok2, Bool.and_false]
      have r : crR G cnt cl p a g c = -1 := by unfold crR; rw [okA', if_neg (by decide)]
      have rc : crC G cnt cl p a g c = cl := by unfold crC; rw [okA', if_neg (by decide)]
      refine ⟨h, fq_id, by rw [rc]; exact kc, fun _ _ => rfl, fun Q => ?_⟩
      rw [r]
      unfold okP at ok2
      have ok3 := of_decide_eq_false ok2
      subst ep
      by_cases c1 : a < 0
      · clear F H kc S ok2 ok3
        simp (disch := omega) only [s_380_0, s_380_1, s_380_2, s_380_5, s_380_8, s_380_9, s_380_12, s_380_13, s_380_14, s_380_17, s_380_18, s_380_18x, s_380_19, s_380_22, s_380_23, s_380_24, s_380_25, s_380_28, s_380_31, s_380_32, s_380_33, s_380_33n, s_380_33x, s_380_35, s_380_37, s_380_40, s_380_43, s_380_44, s_380_45, s_380_46, s_380_49, s_380_51, s_380_54, s_380_55, s_380_58, s_380_60, s_380_63, s_380_64, s_380_66, s_380_69, s_380_70, s_380_71, s_380_73, s_380_74, s_380_77, s_380_78, s_380_81, s_380_83, s_380_86, s_380_87, s_380_89, s_380_92, s_380_93, s_380_94, s_380_96, s_380_97, s_380_100, s_380_101, s_380_103, s_380_105, s_380_108, s_380_109, s_380_110, s_380_112, s_380_115, s_380_116, s_380_117, s_380_118, s_380_121, s_380_122, s_380_125, s_380_126, s_380_129, s_380_130, s_380_133, s_380_135, s_380_138, s_380_141, s_380_142, s_380_145, s_380_146, e_380, mv_i_1, mv_l_1, mv_a_1, mv_a_2, mv_a_3, mk2_n, mk2_i, mk2_l, mk2_a, mk2_u, mk2_x, mB_T, mB_F, mS_cons, mS_nil, mSB_T, mSB_F, mca_nil, mca_i, mca_l, mca_r, mca_u, mca_x, mcat_i, mcat_l, mcat_r, mcat_u, mcat_x, mK_some, mK_none, va_rf_s, va_rf_n, lgc_eq, lgc_lt, lgc_gt, lgc_ge, lgc_le, mrd_104, mrd_105, mrd_106, mrd_107, true_and, and_true, and_self, false_and, and_false, true_or, or_true, false_or, or_false, not_true_eq_false, not_false_eq_true, mgb, mga, mgr, mN, reduceCtorEq, ↓reduceIte, eq_self, ge_iff_le, gt_iff_lt, hk_si, hk_sj, hk_sr, hl_si, hl_sj, hl_sr, hn_si, hn_sj, hn_sr, hs_si, hs_sj, hs_sr, hi_sj, hi_sr, hj_si, hj_sr, hr_si, hr_sj, hi_si, hj_sj, hr_sr, mg_si, mg_sj, mg_sr, Nat.reduceAdd, Nat.reduceMul, Nat.reduceSub, Nat.reduceLT, Nat.reduceGT, Nat.reduceEqDiff, Nat.reduceLeDiff, Nat.left_eq_add, Nat.add_eq_left, Nat.reduceMod, Nat.reduceDiv, Nat.succ_ne_self, g1, c373, kbT, e10, t32, g4, l4, ha, c1, nn_mxT, nn_clamp]
      · have c2 : Int32.ofNat (G.a q) ≤ a := Classical.byContradiction (fun z => ok3 ⟨c1, z⟩)
        have c3 : (a < Int32.ofNat (G.a q)) = False := eq_false (fun z => by rw [Int32.lt_iff_toInt_lt] at z; rw [Int32.le_iff_toInt_le] at c2; omega)
        clear F H kc S ok2 ok3 c2
        simp (disch := omega) only [s_380_0, s_380_1, s_380_2, s_380_5, s_380_8, s_380_9, s_380_12, s_380_13, s_380_14, s_380_17, s_380_18, s_380_18x, s_380_19, s_380_22, s_380_23, s_380_24, s_380_25, s_380_28, s_380_31, s_380_32, s_380_33, s_380_33n, s_380_33x, s_380_35, s_380_37, s_380_40, s_380_43, s_380_44, s_380_45, s_380_46, s_380_49, s_380_51, s_380_54, s_380_55, s_380_58, s_380_60, s_380_63, s_380_64, s_380_66, s_380_69, s_380_70, s_380_71, s_380_73, s_380_74, s_380_77, s_380_78, s_380_81, s_380_83, s_380_86, s_380_87, s_380_89, s_380_92, s_380_93, s_380_94, s_380_96, s_380_97, s_380_100, s_380_101, s_380_103, s_380_105, s_380_108, s_380_109, s_380_110, s_380_112, s_380_115, s_380_116, s_380_117, s_380_118, s_380_121, s_380_122, s_380_125, s_380_126, s_380_129, s_380_130, s_380_133, s_380_135, s_380_138, s_380_141, s_380_142, s_380_145, s_380_146, e_380, mv_i_1, mv_l_1, mv_a_1, mv_a_2, mv_a_3, mk2_n, mk2_i, mk2_l, mk2_a, mk2_u, mk2_x, mB_T, mB_F, mS_cons, mS_nil, mSB_T, mSB_F, mca_nil, mca_i, mca_l, mca_r, mca_u, mca_x, mcat_i, mcat_l, mcat_r, mcat_u, mcat_x, mK_some, mK_none, va_rf_s, va_rf_n, lgc_eq, lgc_lt, lgc_gt, lgc_ge, lgc_le, mrd_104, mrd_105, mrd_106, mrd_107, true_and, and_true, and_self, false_and, and_false, true_or, or_true, false_or, or_false, not_true_eq_false, not_false_eq_true, mgb, mga, mgr, mN, reduceCtorEq, ↓reduceIte, eq_self, ge_iff_le, gt_iff_lt, hk_si, hk_sj, hk_sr, hl_si, hl_sj, hl_sr, hn_si, hn_sj, hn_sr, hs_si, hs_sj, hs_sr, hi_sj, hi_sr, hj_si, hj_sr, hr_si, hr_sj, hi_si, hj_sj, hr_sr, mg_si, mg_sj, mg_sr, Nat.reduceAdd, Nat.reduceMul, Nat.reduceSub, Nat.reduceLT, Nat.reduceGT, Nat.reduceEqDiff, Nat.reduceLeDiff, Nat.left_eq_add, Nat.add_eq_left, Nat.reduceMod, Nat.reduceDiv, Nat.succ_ne_self, g1, c373, kbT, e10, t32, g4, l4, ha, c1, c3, nn_mxT, nn_clamp]
    | true =>
      have ok' : okA G cnt p a = true := by unfold okA; rw [eq, ok, ok2]; rfl
      obtain ⟨k, hk, ea, ea'⟩ := okP_n (by omega) ok2
      have c12 : ¬ a < 0 ∧ ¬ Int32.ofNat (G.a q) ≤ a := by unfold okP at ok2; exact of_decide_eq_true ok2
      obtain ⟨c1, c2⟩ := c12
      have c3 : (a < Int32.ofNat (G.a q)) = True := eq_true (by rw [Int32.lt_iff_toInt_lt]; rw [Int32.le_iff_toInt_le] at c2; omega)
      have r := kc q hq
      obtain ⟨-, -, -, p4⟩ := F.p q (by omega)
      cases ec : cl q with
      | none =>
        have w : crR G cnt cl p a g c = 0 := by unfold crR; rw [ok', if_pos rfl, eq, ec]
        have wc : crC G cnt cl p a g c = cl := by unfold crC; rw [ok', if_pos rfl, eq, ec]
        refine ⟨h, fq_id, by rw [wc]; exact kc, fun _ _ => rfl, fun Q => ?_⟩
        rw [w]
        have gO := (RK_ko r).1
        rw [ec] at r
        have z : mh_i h (137 + 10 * q) 0 = 1 := KN.z r
        subst ep
        clear F H kc S r ok2 ok' c2
        simp (disch := omega) only [s_380_0, s_380_1, s_380_2, s_380_5, s_380_8, s_380_9, s_380_12, s_380_13, s_380_14, s_380_17, s_380_18, s_380_18x, s_380_19, s_380_22, s_380_23, s_380_24, s_380_25, s_380_28, s_380_31, s_380_32, s_380_33, s_380_33n, s_380_33x, s_380_35, s_380_37, s_380_40, s_380_43, s_380_44, s_380_45, s_380_46, s_380_49, s_380_51, s_380_54, s_380_55, s_380_58, s_380_60, s_380_63, s_380_64, s_380_66, s_380_69, s_380_70, s_380_71, s_380_73, s_380_74, s_380_77, s_380_78, s_380_81, s_380_83, s_380_86, s_380_87, s_380_89, s_380_92, s_380_93, s_380_94, s_380_96, s_380_97, s_380_100, s_380_101, s_380_103, s_380_105, s_380_108, s_380_109, s_380_110, s_380_112, s_380_115, s_380_116, s_380_117, s_380_118, s_380_121, s_380_122, s_380_125, s_380_126, s_380_129, s_380_130, s_380_133, s_380_135, s_380_138, s_380_141, s_380_142, s_380_145, s_380_146, e_380, mv_i_1, mv_l_1, mv_a_1, mv_a_2, mv_a_3, mk2_n, mk2_i, mk2_l, mk2_a, mk2_u, mk2_x, mB_T, mB_F, mS_cons, mS_nil, mSB_T, mSB_F, mca_nil, mca_i, mca_l, mca_r, mca_u, mca_x, mcat_i, mcat_l, mcat_r, mcat_u, mcat_x, mK_some, mK_none, va_rf_s, va_rf_n, lgc_eq, lgc_lt, lgc_gt, lgc_ge, lgc_le, mrd_104, mrd_105, mrd_106, mrd_107, true_and, and_true, and_self, false_and, and_false, true_or, or_true, false_or, or_false, not_true_eq_false, not_false_eq_true, mgb, mga, mgr, mN, reduceCtorEq, ↓reduceIte, eq_self, ge_iff_le, gt_iff_lt, hk_si, hk_sj, hk_sr, hl_si, hl_sj, hl_sr, hn_si, hn_sj, hn_sr, hs_si, hs_sj, hs_sr, hi_sj, hi_sr, hj_si, hj_sr, hr_si, hr_sj, hi_si, hj_sj, hr_sr, mg_si, mg_sj, mg_sr, Nat.reduceAdd, Nat.reduceMul, Nat.reduceSub, Nat.reduceLT, Nat.reduceGT, Nat.reduceEqDiff, Nat.reduceLeDiff, Nat.left_eq_add, Nat.add_eq_left, Nat.reduceMod, Nat.reduceDiv, Nat.succ_ne_self, g1, c373, kbT, e10, t32, g4, l4, ha, c1, c3, t52, g5, t5, g7, g7', l7, p4, gO, z, nn_mxT, nn_clamp]
      | some A =>
        rw [ec] at r
        obtain ⟨T, n1, a1, -⟩ := S q hq A ec
        have av : crR G cnt cl p a g c = rgV k g c.toInt A := by unfold crR; rw [ok', if_pos rfl, eq, ec, ea']
        have ac : crC G cnt cl p a g c = upC cl q (rgP k g c.toInt A) := by unfold crC; rw [ok', if_pos rfl, eq, ec, ea']
        obtain ⟨h1, f1, w1, c281⟩ := k_281 (d := d + 2) F.w r (by omega : 2632 ≠ 137 + 10 * q)
        have r1 : RK h1 (137 + 10 * q) (some A) := RK_fz (fz_fq f1) (fun y hy j w => by unfold kW at w; omega) r
        have m1 : (mh_j h1 (137 + 10 * q + 2) k).toInt = A.lo k := KM.lo r1 k (by omega)
        have m2 : (mh_j h1 (137 + 10 * q + 3) k).toInt = A.hi k := KM.hi r1 k (by omega)
        have m3 := Int32.toInt_toInt64 c
        have te := T.e k (by omega)
        obtain ⟨w, ew⟩ : ∃ w, (if g = 0 then (if c.toInt64 < mh_j h1 (137 + 10 * q + 2) k then mh_j h1 (137 + 10 * q + 2) k else c.toInt64) else (if c.toInt64 < mh_j h1 (137 + 10 * q + 3) k then c.toInt64 else mh_j h1 (137 + 10 * q + 3) k)) = w := ⟨_, rfl⟩
        have ew' : w.toInt = if g = 0 then max (A.lo k) c.toInt else min (A.hi k) c.toInt := by
          rw [← ew]
          by_cases g0 : g = 0
          · rw [if_pos g0, if_pos g0, mx64, m1, m3]
          · rw [if_neg g0, if_neg g0, mn64, m2, m3]
        have el : (rgO k g w.toInt A).lo k = if k = k ∧ g = 0 then w.toInt else A.lo k := rfl
        have eh : (rgO k g w.toInt A).hi k = if k = k ∧ ¬ g = 0 then w.toInt else A.hi k := rfl
        obtain ⟨X, z', kX, kz, kr⟩ : ∃ X z', X = (if (rgO k g w.toInt A).hi k < (rgO k g w.toInt A).lo k then none else some (rgO k g w.toInt A)) ∧ (z' = if (rgO k g w.toInt A).hi k < (rgO k g w.toInt A).lo k then (1 : Int32) else 0) ∧ RK (rkH h1 (137 + 10 * q) k g w z') (137 + 10 * q) X := by
          by_cases c2 : (rgO k g w.toInt A).hi k < (rgO k g w.toInt A).lo k
          · exact ⟨none, 1, by rw [if_pos c2], by rw [if_pos c2], rkH_N r1⟩
          · exact ⟨some _, 0, by rw [if_neg c2], by rw [if_neg c2], rkH_S r1⟩
        obtain ⟨h2, e2⟩ : ∃ h2, rkH h1 (137 + 10 * q) k g w z' = h2 := ⟨_, rfl⟩
        have f2 : fq (kW (137 + 10 * q)) h1 h2 := by rw [← e2]; exact rkH_f
        rw [e2] at kr
        have w3 : RK h2 2632 (some A) := RK_fz (fz_fq f2) (fun y hy j w => by unfold kW at w; omega) w1
        obtain ⟨vv, v1, v2, c294⟩ := k_294x (d := d + 1) w3 kr
        have ln : ∀ A' B', some A = some A' → X = some B' → A'.n = B'.n ∧ A'.a = B'.a := fun A' B' e1 e2 => by
          cases e1
          rw [kX] at e2
          split at e2
          · cases e2
          · cases e2; exact ⟨rfl, rfl⟩
        have v2 := v2 ln
        have F12 : fq (clW cnt) h h2 := fq_t (fq_w f1 (fun b e => Or.inl e)) (fq_w f2 (fun b e => Or.inr ⟨q, by omega, e⟩))
        have oth : ∀ b, (∃ q', q' < 250 ∧ q' ≠ q ∧ kW (137 + 10 * q') b) → (∀ j, mh_i h2 b j = mh_i h b j) ∧ ∀ j, mh_j h2 b j = mh_j h b j := fun b z => by
          obtain ⟨q', y1, y2, y3⟩ := z
          obtain ⟨z1, z2⟩ := f1.2.2.2.2.2 b (by unfold kW at *; omega)
          obtain ⟨z3, z4⟩ := f2.2.2.2.2.2 b (by unfold kW at *; omega)
          exact ⟨fun j => (z3 j).trans (z1 j), fun j => (z4 j).trans (z2 j)⟩
        have fl2 : ∀ q', q' < 250 → mh_i h2 (137 + 10 * q') 2 = mh_i h (137 + 10 * q') 2 := fun q' hq' => by
          rw [← e2, rkH_n (by omega)]
          exact (f1.2.2.2.2.2 _ (by unfold kW; omega)).1 2
        have run : ∀ Q, mcall (d + 3) 380 [.ref 81, .int p, .int a, .int g, .int c] h Q = Q (some (.int (if vv = 1 then 0 else 1))) h2 := fun Q => by
          have er1 := f1.2.2.1
          have el1 := f1.2.1
          have mg1 : ∀ o ci, mg h1 o ci = mg h o ci := fun _ _ => propext (fq_mg f1)
          have s0 := RK_ko r
          unfold ko at s0
          obtain ⟨gO, -, -, -, r4, gL, lL, r5, gH, lH, -⟩ := s0
          have gw : mg h 2632 13 := F.w.1
          have z : mh_i h (137 + 10 * q) 0 = 0 := KM.z r
          subst ep
          subst ea
          unfold rkH at e2
          have er2 : mh_r h2 = mh_r h := f2.2.2.1.trans er1
          have mg2 : ∀ o ci, mg h2 o ci = mg h o ci := fun _ _ => (propext (fq_mg f2)).trans (mg1 _ _)
          clear F H kc S r r1 T f1 f2 w1 w3 F12 oth fl2 v2 ln av ac kr kX ok2 ok' c2
          obtain ⟨o, eo⟩ : ∃ o, 137 + 10 * q = o := ⟨_, rfl⟩
          rw [eo] at p4 gO r4 gL lL r5 gH lH z ew e2 m1 m2 c281 c294
          rcases Classical.propComplete (g = 0) with cg | cg
          · have g0 := of_eq_true cg
            rw [if_pos g0] at ew ew'
            rw [if_pos g0] at e2
            rw [if_pos ⟨rfl, g0⟩] at el
            rw [if_neg (fun w => w.2 g0)] at eh
            rw [el, eh] at kz
            by_cases c4 : A.hi k < w.toInt
            · have le : (w ≤ mh_j h1 (o + 3) k) = False := eq_false (fun z => by rw [Int64.le_iff_toInt_le] at z; omega)
              rw [if_pos c4] at kz
              subst kz
              rcases v1 with v1 | v1 <;> subst v1
              · rw [if_neg (by decide)]
                simp (disch := omega) only [s_380_0, s_380_1, s_380_2, s_380_5, s_380_8, s_380_9, s_380_12, s_380_13, s_380_14, s_380_17, s_380_18, s_380_18x, s_380_19, s_380_22, s_380_23, s_380_24, s_380_25, s_380_28, s_380_31, s_380_32, s_380_33, s_380_33n, s_380_33x, s_380_35, s_380_37, s_380_40, s_380_43, s_380_44, s_380_45, s_380_46, s_380_49, s_380_51, s_380_54, s_380_55, s_380_58, s_380_60, s_380_63, s_380_64, s_380_66, s_380_69, s_380_70, s_380_71, s_380_73, s_380_74, s_380_77, s_380_78, s_380_81, s_380_83, s_380_86, s_380_87, s_380_89, s_380_92, s_380_93, s_380_94, s_380_96, s_380_97, s_380_100, s_380_101, s_380_103, s_380_105, s_380_108, s_380_109, s_380_110, s_380_112, s_380_115, s_380_116, s_380_117, s_380_118, s_380_121, s_380_122, s_380_125, s_380_126, s_380_129, s_380_130, s_380_133, s_380_135, s_380_138, s_380_141, s_380_142, s_380_145, s_380_146, e_380, mv_i_1, mv_l_1, mv_a_1, mv_a_2, mv_a_3, mk2_n, mk2_i, mk2_l, mk2_a, mk2_u, mk2_x, mB_T, mB_F, mS_cons, mS_nil, mSB_T, mSB_F, mca_nil, mca_i, mca_l, mca_r, mca_u, mca_x, mcat_i, mcat_l, mcat_r, mcat_u, mcat_x, mK_some, mK_none, va_rf_s, va_rf_n, lgc_eq, lgc_lt, lgc_gt, lgc_ge, lgc_le, mrd_104, mrd_105, mrd_106, mrd_107, true_and, and_true, and_self, false_and, and_false, true_or, or_true, false_or, or_false, not_true_eq_false, not_false_eq_true, mgb, mga, mgr, mN, reduceCtorEq, ↓reduceIte, eq_self, ge_iff_le, gt_iff_lt, hk_si, hk_sj, hk_sr, hl_si, hl_sj, hl_sr, hn_si, hn_sj, hn_sr, hs_si, hs_sj, hs_sr, hi_sj, hi_sr, hj_si, hj_sr, hr_si, hr_sj, hi_si, hj_sj, hr_sr, mg_si, mg_sj, mg_sr, Nat.reduceAdd, Nat.reduceMul, Nat.reduceSub, Nat.reduceLT, Nat.reduceGT, Nat.reduceEqDiff, Nat.reduceLeDiff, Nat.left_eq_add, Nat.add_eq_left, Nat.reduceMod, Nat.reduceDiv, Nat.succ_ne_self, g1, c373, kbT, e10, e00, t32, g4, l4, ha, c1, c3, t52, g5, t5, g7, g7', l7, p4, gO, z, t53, gw, c281, er1, el1, mg1, r4, gL, lL, r5, gH, lH, cg, ew, le, e2, er2, mg2, c294, nn_mxT, nn_clamp]
              · rw [if_pos rfl]
                simp (disch := omega) only [s_380_0, s_380_1, s_380_2, s_380_5, s_380_8, s_380_9, s_380_12, s_380_13, s_380_14, s_380_17, s_380_18, s_380_18x, s_380_19, s_380_22, s_380_23, s_380_24, s_380_25, s_380_28, s_380_31, s_380_32, s_380_33, s_380_33n, s_380_33x, s_380_35, s_380_37, s_380_40, s_380_43, s_380_44, s_380_45, s_380_46, s_380_49, s_380_51, s_380_54, s_380_55, s_380_58, s_380_60, s_380_63, s_380_64, s_380_66, s_380_69, s_380_70, s_380_71, s_380_73, s_380_74, s_380_77, s_380_78, s_380_81, s_380_83, s_380_86, s_380_87, s_380_89, s_380_92, s_380_93, s_380_94, s_380_96, s_380_97, s_380_100, s_380_101, s_380_103, s_380_105, s_380_108, s_380_109, s_380_110, s_380_112, s_380_115, s_380_116, s_380_117, s_380_118, s_380_121, s_380_122, s_380_125, s_380_126, s_380_129, s_380_130, s_380_133, s_380_135, s_380_138, s_380_141, s_380_142, s_380_145, s_380_146, e_380, mv_i_1, mv_l_1, mv_a_1, mv_a_2, mv_a_3, mk2_n, mk2_i, mk2_l, mk2_a, mk2_u, mk2_x, mB_T, mB_F, mS_cons, mS_nil, mSB_T, mSB_F, mca_nil, mca_i, mca_l, mca_r, mca_u, mca_x, mcat_i, mcat_l, mcat_r, mcat_u, mcat_x, mK_some, mK_none, va_rf_s, va_rf_n, lgc_eq, lgc_lt, lgc_gt, lgc_ge, lgc_le, mrd_104, mrd_105, mrd_106, mrd_107, true_and, and_true, and_self, false_and, and_false, true_or, or_true, false_or, or_false, not_true_eq_false, not_false_eq_true, mgb, mga, mgr, mN, reduceCtorEq, ↓reduceIte, eq_self, ge_iff_le, gt_iff_lt, hk_si, hk_sj, hk_sr, hl_si, hl_sj, hl_sr, hn_si, hn_sj, hn_sr, hs_si, hs_sj, hs_sr, hi_sj, hi_sr, hj_si, hj_sr, hr_si, hr_sj, hi_si, hj_sj, hr_sr, mg_si, mg_sj, mg_sr, Nat.reduceAdd, Nat.reduceMul, Nat.reduceSub, Nat.reduceLT, Nat.reduceGT, Nat.reduceEqDiff, Nat.reduceLeDiff, Nat.left_eq_add, Nat.add_eq_left, Nat.reduceMod, Nat.reduceDiv, Nat.succ_ne_self, g1, c373, kbT, e10, e00, t32, g4, l4, ha, c1, c3, t52, g5, t5, g7, g7', l7, p4, gO, z, t53, gw, c281, er1, el1, mg1, r4, gL, lL, r5, gH, lH, cg, ew, le, e2, er2, mg2, c294, nn_mxT, nn_clamp]
            · have le : (w ≤ mh_j h1 (o + 3) k) = True := eq_true (by rw [Int64.le_iff_toInt_le]; omega)
              rw [if_neg c4] at kz
              subst kz
              rcases v1 with v1 | v1 <;> subst v1
              · rw [if_neg (by decide)]
                simp (disch := omega) only [s_380_0, s_380_1, s_380_2, s_380_5, s_380_8, s_380_9, s_380_12, s_380_13, s_380_14, s_380_17, s_380_18, s_380_18x, s_380_19, s_380_22, s_380_23, s_380_24, s_380_25, s_380_28, s_380_31, s_380_32, s_380_33, s_380_33n, s_380_33x, s_380_35, s_380_37, s_380_40, s_380_43, s_380_44, s_380_45, s_380_46, s_380_49, s_380_51, s_380_54, s_380_55, s_380_58, s_380_60, s_380_63, s_380_64, s_380_66, s_380_69, s_380_70, s_380_71, s_380_73, s_380_74, s_380_77, s_380_78, s_380_81, s_380_83, s_380_86, s_380_87, s_380_89, s_380_92, s_380_93, s_380_94, s_380_96, s_380_97, s_380_100, s_380_101, s_380_103, s_380_105, s_380_108, s_380_109, s_380_110, s_380_112, s_380_115, s_380_116, s_380_117, s_380_118, s_380_121, s_380_122, s_380_125, s_380_126, s_380_129, s_380_130, s_380_133, s_380_135, s_380_138, s_380_141, s_380_142, s_380_145, s_380_146, e_380, mv_i_1, mv_l_1, mv_a_1, mv_a_2, mv_a_3, mk2_n, mk2_i, mk2_l, mk2_a, mk2_u, mk2_x, mB_T, mB_F, mS_cons, mS_nil, mSB_T, mSB_F, mca_nil, mca_i, mca_l, mca_r, mca_u, mca_x, mcat_i, mcat_l, mcat_r, mcat_u, mcat_x, mK_some, mK_none, va_rf_s, va_rf_n, lgc_eq, lgc_lt, lgc_gt, lgc_ge, lgc_le, mrd_104, mrd_105, mrd_106, mrd_107, true_and, and_true, and_self, false_and, and_false, true_or, or_true, false_or, or_false, not_true_eq_false, not_false_eq_true, mgb, mga, mgr, mN, reduceCtorEq, ↓reduceIte, eq_self, ge_iff_le, gt_iff_lt, hk_si, hk_sj, hk_sr, hl_si, hl_sj, hl_sr, hn_si, hn_sj, hn_sr, hs_si, hs_sj, hs_sr, hi_sj, hi_sr, hj_si, hj_sr, hr_si, hr_sj, hi_si, hj_sj, hr_sr, mg_si, mg_sj, mg_sr, Nat.reduceAdd, Nat.reduceMul, Nat.reduceSub, Nat.reduceLT, Nat.reduceGT, Nat.reduceEqDiff, Nat.reduceLeDiff, Nat.left_eq_add, Nat.add_eq_left, Nat.reduceMod, Nat.reduceDiv, Nat.succ_ne_self, g1, c373, kbT, e10, e00, t32, g4, l4, ha, c1, c3, t52, g5, t5, g7, g7', l7, p4, gO, z, t53, gw, c281, er1, el1, mg1, r4, gL, lL, r5, gH, lH, cg, ew, le, e2, er2, mg2, c294, nn_mxT, nn_clamp]
              · rw [if_pos rfl]
                simp (disch := omega) only [s_380_0, s_380_1, s_380_2, s_380_5, s_380_8, s_380_9, s_380_12, s_380_13, s_380_14, s_380_17, s_380_18, s_380_18x, s_380_19, s_380_22, s_380_23, s_380_24, s_380_25, s_380_28, s_380_31, s_380_32, s_380_33, s_380_33n, s_380_33x, s_380_35, s_380_37, s_380_40, s_380_43, s_380_44, s_380_45, s_380_46, s_380_49, s_380_51, s_380_54, s_380_55, s_380_58, s_380_60, s_380_63, s_380_64, s_380_66, s_380_69, s_380_70, s_380_71, s_380_73, s_380_74, s_380_77, s_380_78, s_380_81, s_380_83, s_380_86, s_380_87, s_380_89, s_380_92, s_380_93, s_380_94, s_380_96, s_380_97, s_380_100, s_380_101, s_380_103, s_380_105, s_380_108, s_380_109, s_380_110, s_380_112, s_380_115, s_380_116, s_380_117, s_380_118, s_380_121, s_380_122, s_380_125, s_380_126, s_380_129, s_380_130, s_380_133, s_380_135, s_380_138, s_380_141, s_380_142, s_380_145, s_380_146, e_380, mv_i_1, mv_l_1, mv_a_1, mv_a_2, mv_a_3, mk2_n, mk2_i, mk2_l, mk2_a, mk2_u, mk2_x, mB_T, mB_F, mS_cons, mS_nil, mSB_T, mSB_F, mca_nil, mca_i, mca_l, mca_r, mca_u, mca_x, mcat_i, mcat_l, mcat_r, mcat_u, mcat_x, mK_some, mK_none, va_rf_s, va_rf_n, lgc_eq, lgc_lt, lgc_gt, lgc_ge, lgc_le, mrd_104, mrd_105, mrd_106, mrd_107, true_and, and_true, and_self, false_and, and_false, true_or, or_true, false_or, or_false, not_true_eq_false, not_false_eq_true, mgb, mga, mgr, mN, reduceCtorEq, ↓reduceIte, eq_self, ge_iff_le, gt_iff_lt, hk_si, hk_sj, hk_sr, hl_si, hl_sj, hl_sr, hn_si, hn_sj, hn_sr, hs_si, hs_sj, hs_sr, hi_sj, hi_sr, hj_si, hj_sr, hr_si, hr_sj, hi_si, hj_sj, hr_sr, mg_si, mg_sj, mg_sr, Nat.reduceAdd, Nat.reduceMul, Nat.reduceSub, Nat.reduceLT, Nat.reduceGT, Nat.reduceEqDiff, Nat.reduceLeDiff, Nat.left_eq_add, Nat.add_eq_left, Nat.reduceMod, Nat.reduceDiv, Nat.succ_ne_self, g1, c373, kbT, e10, e00, t32, g4, l4, ha, c1, c3, t52, g5, t5, g7, g7', l7, p4, gO, z, t53, gw, c281, er1, el1, mg1, r4, gL, lL, r5, gH, lH, cg, ew, le, e2, er2, mg2, c294, nn_mxT, nn_clamp]
          · have g0 := of_eq_false cg
            rw [if_neg g0] at ew ew'
            rw [if_neg g0] at e2
            rw [if_neg (fun w => g0 w.2)] at el
            rw [if_pos ⟨rfl, g0⟩] at eh
            rw [el, eh] at kz
            by_cases c4 : w.toInt < A.lo k
            · have le : (mh_j h1 (o + 2) k ≤ w) = False := eq_false (fun z => by rw [Int64.le_iff_toInt_le] at z; omega)
              rw [if_pos c4] at kz
              subst kz
              rcases v1 with v1 | v1 <;> subst v1
              · rw [if_neg (by decide)]
                simp (disch := omega) only [s_380_0, s_380_1, s_380_2, s_380_5, s_380_8, s_380_9, s_380_12, s_380_13, s_380_14, s_380_17, s_380_18, s_380_18x, s_380_19, s_380_22, s_380_23, s_380_24, s_380_25, s_380_28, s_380_31, s_380_32, s_380_33, s_380_33n, s_380_33x, s_380_35, s_380_37, s_380_40, s_380_43, s_380_44, s_380_45, s_380_46, s_380_49, s_380_51, s_380_54, s_380_55, s_380_58, s_380_60, s_380_63, s_380_64, s_380_66, s_380_69, s_380_70, s_380_71, s_380_73, s_380_74, s_380_77, s_380_78, s_380_81, s_380_83, s_380_86, s_380_87, s_380_89, s_380_92, s_380_93, s_380_94, s_380_96, s_380_97, s_380_100, s_380_101, s_380_103, s_380_105, s_380_108, s_380_109, s_380_110, s_380_112, s_380_115, s_380_116, s_380_117, s_380_118, s_380_121, s_380_122, s_380_125, s_380_126, s_380_129, s_380_130, s_380_133, s_380_135, s_380_138, s_380_141, s_380_142, s_380_145, s_380_146, e_380, mv_i_1, mv_l_1, mv_a_1, mv_a_2, mv_a_3, mk2_n, mk2_i, mk2_l, mk2_a, mk2_u, mk2_x, mB_T, mB_F, mS_cons, mS_nil, mSB_T, mSB_F, mca_nil, mca_i, mca_l, mca_r, mca_u, mca_x, mcat_i, mcat_l, mcat_r, mcat_u, mcat_x, mK_some, mK_none, va_rf_s, va_rf_n, lgc_eq, lgc_lt, lgc_gt, lgc_ge, lgc_le, mrd_104, mrd_105, mrd_106, mrd_107, true_and, and_true, and_self, false_and, and_false, true_or, or_true, false_or, or_false, not_true_eq_false, not_false_eq_true, mgb, mga, mgr, mN, reduceCtorEq, ↓reduceIte, eq_self, ge_iff_le, gt_iff_lt, hk_si, hk_sj, hk_sr, hl_si, hl_sj, hl_sr, hn_si, hn_sj, hn_sr, hs_si, hs_sj, hs_sr, hi_sj, hi_sr, hj_si, hj_sr, hr_si, hr_sj, hi_si, hj_sj, hr_sr, mg_si, mg_sj, mg_sr, Nat.reduceAdd, Nat.reduceMul, Nat.reduceSub, Nat.reduceLT, Nat.reduceGT, Nat.reduceEqDiff, Nat.reduceLeDiff, Nat.left_eq_add, Nat.add_eq_left, Nat.reduceMod, Nat.reduceDiv, Nat.succ_ne_self, g1, c373, kbT, e10, e00, t32, g4, l4, ha, c1, c3, t52, g5, t5, g7, g7', l7, p4, gO, z, t53, gw, c281, er1, el1, mg1, r4, gL, lL, r5, gH, lH, cg, ew, le, e2, er2, mg2, c294, nn_mxT, nn_clamp]
              · rw [if_pos rfl]
                simp (disch := omega) only [s_380_0, s_380_1, s_380_2, s_380_5, s_380_8, s_380_9, s_380_12, s_380_13, s_380_14, s_380_17, s_380_18, s_380_18x, s_380_19, s_380_22, s_380_23, s_380_24, s_380_25, s_380_28, s_380_31, s_380_32, s_380_33, s_380_33n, s_380_33x, s_380_35, s_380_37, s_380_40, s_380_43, s_380_44, s_380_45, s_380_46, s_380_49, s_380_51, s_380_54, s_380_55, s_380_58, s_380_60, s_380_63, s_380_64, s_380_66, s_380_69, s_380_70, s_380_71, s_380_73, s_380_74, s_380_77, s_380_78, s_380_81, s_380_83, s_380_86, s_380_87, s_380_89, s_380_92, s_380_93, s_380_94, s_380_96, s_380_97, s_380_100, s_380_101, s_380_103, s_380_105, s_380_108, s_380_109, s_380_110, s_380_112, s_380_115, s_380_116, s_380_117, s_380_118, s_380_121, s_380_122, s_380_125, s_380_126, s_380_129, s_380_130, s_380_133, s_380_135, s_380_138, s_380_141, s_380_142, s_380_145, s_380_146, e_380, mv_i_1, mv_l_1, mv_a_1, mv_a_2, mv_a_3, mk2_n, mk2_i, mk2_l, mk2_a, mk2_u, mk2_x, mB_T, mB_F, mS_cons, mS_nil, mSB_T, mSB_F, mca_nil, mca_i, mca_l, mca_r, mca_u, mca_x, mcat_i, mcat_l, mcat_r, mcat_u, mcat_x, mK_some, mK_none, va_rf_s, va_rf_n, lgc_eq, lgc_lt, lgc_gt, lgc_ge, lgc_le, mrd_104, mrd_105, mrd_106, mrd_107, true_and, and_true, and_self, false_and, and_false, true_or, or_true, false_or, or_false, not_true_eq_false, not_false_eq_true, mgb, mga, mgr, mN, reduceCtorEq, ↓reduceIte, eq_self, ge_iff_le, gt_iff_lt, hk_si, hk_sj, hk_sr, hl_si, hl_sj, hl_sr, hn_si, hn_sj, hn_sr, hs_si, hs_sj, hs_sr, hi_sj, hi_sr, hj_si, hj_sr, hr_si, hr_sj, hi_si, hj_sj, hr_sr, mg_si, mg_sj, mg_sr, Nat.reduceAdd, Nat.reduceMul, Nat.reduceSub, Nat.reduceLT, Nat.reduceGT, Nat.reduceEqDiff, Nat.reduceLeDiff, Nat.left_eq_add, Nat.add_eq_left, Nat.reduceMod, Nat.reduceDiv, Nat.succ_ne_self, g1, c373, kbT, e10, e00, t32, g4, l4, ha, c1, c3, t52, g5, t5, g7, g7', l7, p4, gO, z, t53, gw, c281, er1, el1, mg1, r4, gL, lL, r5, gH, lH, cg, ew, le, e2, er2, mg2, c294, nn_mxT, nn_clamp]
            · have le : (mh_j h1 (o + 2) k ≤ w) = True := eq_true (by rw [Int64.le_iff_toInt_le]; omega)
              rw [if_neg c4] at kz
              subst kz
              rcases v1 with v1 | v1 <;> subst v1
              · rw [if_neg (by decide)]
                simp (disch := omega) only [s_380_0, s_380_1, s_380_2, s_380_5, s_380_8, s_380_9, s_380_12, s_380_13, s_380_14, s_380_17, s_380_18, s_380_18x, s_380_19, s_380_22, s_380_23, s_380_24, s_380_25, s_380_28, s_380_31, s_380_32, s_380_33, s_380_33n, s_380_33x, s_380_35, s_380_37, s_380_40, s_380_43, s_380_44, s_380_45, s_380_46, s_380_49, s_380_51, s_380_54, s_380_55, s_380_58, s_380_60, s_380_63, s_380_64, s_380_66, s_380_69, s_380_70, s_380_71, s_380_73, s_380_74, s_380_77, s_380_78, s_380_81, s_380_83, s_380_86, s_380_87, s_380_89, s_380_92, s_380_93, s_380_94, s_380_96, s_380_97, s_380_100, s_380_101, s_380_103, s_380_105, s_380_108, s_380_109, s_380_110, s_380_112, s_380_115, s_380_116, s_380_117, s_380_118, s_380_121, s_380_122, s_380_125, s_380_126, s_380_129, s_380_130, s_380_133, s_380_135, s_380_138, s_380_141, s_380_142, s_380_145, s_380_146, e_380, mv_i_1, mv_l_1, mv_a_1, mv_a_2, mv_a_3, mk2_n, mk2_i, mk2_l, mk2_a, mk2_u, mk2_x, mB_T, mB_F, mS_cons, mS_nil, mSB_T, mSB_F, mca_nil, mca_i, mca_l, mca_r, mca_u, mca_x, mcat_i, mcat_l, mcat_r, mcat_u, mcat_x, mK_some, mK_none, va_rf_s, va_rf_n, lgc_eq, lgc_lt, lgc_gt, lgc_ge, lgc_le, mrd_104, mrd_105, mrd_106, mrd_107, true_and, and_true, and_self, false_and, and_false, true_or, or_true, false_or, or_false, not_true_eq_false, not_false_eq_true, mgb, mga, mgr, mN, reduceCtorEq, ↓reduceIte, eq_self, ge_iff_le, gt_iff_lt, hk_si, hk_sj, hk_sr, hl_si, hl_sj, hl_sr, hn_si, hn_sj, hn_sr, hs_si, hs_sj, hs_sr, hi_sj, hi_sr, hj_si, hj_sr, hr_si, hr_sj, hi_si, hj_sj, hr_sr, mg_si, mg_sj, mg_sr, Nat.reduceAdd, Nat.reduceMul, Nat.reduceSub, Nat.reduceLT, Nat.reduceGT, Nat.reduceEqDiff, Nat.reduceLeDiff, Nat.left_eq_add, Nat.add_eq_left, Nat.reduceMod, Nat.reduceDiv, Nat.succ_ne_self, g1, c373, kbT, e10, e00, t32, g4, l4, ha, c1, c3, t52, g5, t5, g7, g7', l7, p4, gO, z, t53, gw, c281, er1, el1, mg1, r4, gL, lL, r5, gH, lH, cg, ew, le, e2, er2, mg2, c294, nn_mxT, nn_clamp]
              · rw [if_pos rfl]
                simp (disch := omega) only [s_380_0, s_380_1, s_380_2, s_380_5, s_380_8, s_380_9, s_380_12, s_380_13, s_380_14, s_380_17, s_380_18, s_380_18x, s_380_19, s_380_22, s_380_23, s_380_24, s_380_25, s_380_28, s_380_31, s_380_32, s_380_33, s_380_33n, s_380_33x, s_380_35, s_380_37, s_380_40, s_380_43, s_380_44, s_380_45, s_380_46, s_380_49, s_380_51, s_380_54, s_380_55, s_380_58, s_380_60, s_380_63, s_380_64, s_380_66, s_380_69, s_380_70, s_380_71, s_380_73, s_380_74, s_380_77, s_380_78, s_380_81, s_380_83, s_380_86, s_380_87, s_380_89, s_380_92, s_380_93, s_380_94, s_380_96, s_380_97, s_380_100, s_380_101, s_380_103, s_380_105, s_380_108, s_380_109, s_380_110, s_380_112, s_380_115, s_380_116, s_380_117, s_380_118, s_380_121, s_380_122, s_380_125, s_380_126, s_380_129, s_380_130, s_380_133, s_380_135, s_380_138, s_380_141, s_380_142, s_380_145, s_380_146, e_380, mv_i_1, mv_l_1, mv_a_1, mv_a_2, mv_a_3, mk2_n, mk2_i, mk2_l, mk2_a, mk2_u, mk2_x, mB_T, mB_F, mS_cons, mS_nil, mSB_T, mSB_F, mca_nil, mca_i, mca_l, mca_r, mca_u, mca_x, mcat_i, mcat_l, mcat_r, mcat_u, mcat_x, mK_some, mK_none, va_rf_s, va_rf_n, lgc_eq, lgc_lt, lgc_gt, lgc_ge, lgc_le, mrd_104, mrd_105, mrd_106, mrd_107, true_and, and_true, and_self, false_and, and_false, true_or, or_true, false_or, or_false, not_true_eq_false, not_false_eq_true, mgb, mga, mgr, mN, reduceCtorEq, ↓reduceIte, eq_self, ge_iff_le, gt_iff_lt, hk_si, hk_sj, hk_sr, hl_si, hl_sj, hl_sr, hn_si, hn_sj, hn_sr, hs_si, hs_sj, hs_sr, hi_sj, hi_sr, hj_si, hj_sr, hr_si, hr_sj, hi_si, hj_sj, hr_sr, mg_si, mg_sj, mg_sr, Nat.reduceAdd, Nat.reduceMul, Nat.reduceSub, Nat.reduceLT, Nat.reduceGT, Nat.reduceEqDiff, Nat.reduceLeDiff, Nat.left_eq_add, Nat.add_eq_left, Nat.reduceMod, Nat.reduceDiv, Nat.succ_ne_self, g1, c373, kbT, e10, e00, t32, g4, l4, ha, c1, c3, t52, g5, t5, g7, g7', l7, p4, gO, z, t53, gw, c281, er1, el1, mg1, r4, gL, lL, r5, gH, lH, cg, ew, le, e2, er2, mg2, c294, nn_mxT, nn_clamp]
        rw [av, ac]
        by_cases c4 : if g = 0 then c.toInt ≤ A.lo k else A.hi k ≤ c.toInt
        · have w' : rgV k g c.toInt A = 0 := if_pos c4
          have w2 : rgP k g c.toInt A = some A := if_pos c4
          have sl : (rgO k g w.toInt A).lo = A.lo := funext fun x => by
            show (if x = k ∧ g = 0 then w.toInt else A.lo x) = A.lo x
            split
            · rename_i y
              rw [ew', if_pos y.2]
              rw [if_pos y.2] at c4
              rw [y.1]
              omega
            · rfl
          have sh : (rgO k g w.toInt A).hi = A.hi := funext fun x => by
            show (if x = k ∧ ¬ g = 0 then w.toInt else A.hi x) = A.hi x
            split
            · rename_i y
              rw [ew', if_neg y.2]
              rw [if_neg y.2] at c4
              rw [y.1]
              omega
            · rfl
          have kX' : X = some (rgO k g w.toInt A) := by
            rw [kX, if_neg]
            rw [sl, sh]
            omega
          have vv1 : vv = 1 := v2.mpr (by
            rw [kX']
            exact ⟨fun _ _ _ _ => Int.le_refl _, fun x _ => by rw [sl, sh]; exact ⟨Int.le_refl _, Int.le_refl _⟩⟩)
          rw [if_pos vv1] at run
          rw [w', w2]
          refine ⟨h2, F12, ?_, fl2, run⟩
          refine cl_upK F12 oth kc (by omega) ?_
          rw [kX'] at kr
          exact KM_e kr rfl rfl sl sh rfl (fun _ _ _ _ => rfl)
        · have w' : rgV k g c.toInt A = 1 := if_neg c4
          have ewc : w.toInt = c.toInt := by
            rw [ew']
            by_cases g0 : g = 0
            · rw [if_pos g0] at c4 ⊢; omega
            · rw [if_neg g0] at c4 ⊢; omega
          rw [ewc] at kX
          have w2 : rgP k g c.toInt A = X := by
            rw [kX]
            unfold rgP
            rw [if_neg c4]
          have vv0 : ¬ vv = 1 := fun z => by
            have z2 := v2.mp z
            rw [kX] at z2
            exact rg_n (by omega) c4 z2
          rw [if_neg vv0] at run
          rw [w', w2]
          exact ⟨h2, F12, cl_upK F12 oth kc (by omega) kr, fl2, run⟩
/-- unclaim -/
theorem u_382 (F : RF h) (f7 : mh_i h 115 7 = Int32.ofNat cnt) (hc : cnt ≤ 250) (kK : ∀ q, q < cnt → RK h (132 + 10 * q) (kn q)) (kC : ∀ q, q < cnt → RK h (137 + 10 * q) (cl q)) (S : CSH G cnt cl) (S' : CSH G cnt kn) : ∃ h', fq (clW cnt) h h' ∧ (∀ q, q < cnt → RK h' (137 + 10 * q) (kn q)) ∧ (∀ q, q < cnt → mh_i h' (137 + 10 * q) 2 = mh_i h (132 + 10 * q) 2) ∧ ∀ Q, mcall (d + 3) 382 [.ref 81] h Q = Q (some (.int (Int32.ofNat (cnU kn cl cnt)))) h' := by
  obtain ⟨h', m, -, f, k, k2, e, run⟩ := u_274 (d := d) F f7 hc kK kC
  have e := e (fun q hq A B e1 e2 => by
    obtain ⟨-, a1, a2, -⟩ := S' q hq A e1
    obtain ⟨-, b1, b2, -⟩ := S q hq B e2
    exact ⟨a1.trans b1.symm, a2.trans b2.symm⟩)
  refine ⟨h', fq_w f (fun b e => by obtain ⟨q, hq, e⟩ := e; exact Or.inr ⟨q, by omega, e⟩), k, k2, fun Q => ?_⟩
  rw [← e]
  have g := F.g 81 14 70 (by decide +kernel)
  have t52 := F.f 81 52 115 (by decide +kernel)
  have g5 := F.g 115 12 38 (by decide +kernel)
  clear F kK kC S S' f k k2
  simp (disch := omega) only [s_382_0, s_382_1, s_382_4, s_382_7, e_382, mv_i_1, mv_l_1, mv_a_1, mv_a_2, mv_a_3, mk2_n, mk2_i, mk2_l, mk2_a, mk2_u, mk2_x, mB_T, mB_F, mS_cons, mS_nil, mSB_T, mSB_F, mca_nil, mca_i, mca_l, mca_r, mca_u, mca_x, mcat_i, mcat_l, mcat_r, mcat_u, mcat_x, mK_some, mK_none, va_rf_s, va_rf_n, lgc_eq, lgc_lt, lgc_gt, lgc_ge, lgc_le, mrd_104, mrd_105, mrd_106, mrd_107, true_and, and_true, and_self, false_and, and_false, true_or, or_true, false_or, or_false, not_true_eq_false, not_false_eq_true, mgb, mga, mgr, mN, reduceCtorEq, ↓reduceIte, eq_self, ge_iff_le, gt_iff_lt, hk_si, hk_sj, hk_sr, hl_si, hl_sj, hl_sr, hn_si, hn_sj, hn_sr, hs_si, hs_sj, hs_sr, hi_sj, hi_sr, hj_si, hj_sr, hr_si, hr_sj, hi_si, hj_sj, hr_sr, mg_si, mg_sj, mg_sr, Nat.reduceAdd, Nat.reduceMul, Nat.reduceSub, Nat.reduceLT, Nat.reduceGT, Nat.reduceEqDiff, Nat.reduceLeDiff, Nat.left_eq_add, Nat.add_eq_left, Nat.reduceMod, Nat.reduceDiv, Nat.succ_ne_self, g, t52, g5, run]
/-- inductive, where too much was asked -/
theorem u_383m (F : RF h) (f49 : mh_i h 81 49 = 3) : ∀ Q, mcall d 383 [.ref 81] h Q = Q (some (.int (-3))) h := fun Q => by
  have g := F.g 81 14 70 (by decide +kernel)
  have m3 : (Int8.ofInt (-3)).toInt32 = -3 := by decide
  have e3 : ((3 : Int32) = 3) = True := by decide
  clear F
  simp (disch := omega) only [s_383_0, s_383_1, s_383_4, s_383_5, s_383_8, s_383_10, s_383_13, s_383_14, s_383_17, s_383_20, e_383, mv_i_1, mv_l_1, mv_a_1, mv_a_2, mv_a_3, mk2_n, mk2_i, mk2_l, mk2_a, mk2_u, mk2_x, mB_T, mB_F, mS_cons, mS_nil, mSB_T, mSB_F, mca_nil, mca_i, mca_l, mca_r, mca_u, mca_x, mcat_i, mcat_l, mcat_r, mcat_u, mcat_x, mK_some, mK_none, va_rf_s, va_rf_n, lgc_eq, lgc_lt, lgc_gt, lgc_ge, lgc_le, mrd_104, mrd_105, mrd_106, mrd_107, true_and, and_true, and_self, false_and, and_false, true_or, or_true, false_or, or_false, not_true_eq_false, not_false_eq_true, mgb, mga, mgr, mN, reduceCtorEq, ↓reduceIte, eq_self, ge_iff_le, gt_iff_lt, hk_si, hk_sj, hk_sr, hl_si, hl_sj, hl_sr, hn_si, hn_sj, hn_sr, hs_si, hs_sj, hs_sr, hi_sj, hi_sr, hj_si, hj_sr, hr_si, hr_sj, hi_si, hj_sj, hr_sr, mg_si, mg_sj, mg_sr, Nat.reduceAdd, Nat.reduceMul, Nat.reduceSub, Nat.reduceLT, Nat.reduceGT, Nat.reduceEqDiff, Nat.reduceLeDiff, Nat.left_eq_add, Nat.add_eq_left, Nat.reduceMod, Nat.reduceDiv, Nat.succ_ne_self, g, f49, m3, e3]
theorem u_383 (F : RF h) (f49 : (mh_i h 81 49 = 3) = False) {v : Int32} (run : ∀ Q, mcall d 275 [.ref 115] h Q = Q (some (.int v)) h1) : ∀ Q, mcall (d + 1) 383 [.ref 81] h Q = Q (some (.int v)) h1 := fun Q => by
  have g := F.g 81 14 70 (by decide +kernel)
  have t52 := F.f 81 52 115 (by decide +kernel)
  have g5 := F.g 115 12 38 (by decide +kernel)
  clear F
  simp (disch := omega) only [s_383_0, s_383_1, s_383_4, s_383_5, s_383_8, s_383_10, s_383_13, s_383_14, s_383_17, s_383_20, e_383, mv_i_1, mv_l_1, mv_a_1, mv_a_2, mv_a_3, mk2_n, mk2_i, mk2_l, mk2_a, mk2_u, mk2_x, mB_T, mB_F, mS_cons, mS_nil, mSB_T, mSB_F, mca_nil, mca_i, mca_l, mca_r, mca_u, mca_x, mcat_i, mcat_l, mcat_r, mcat_u, mcat_x, mK_some, mK_none, va_rf_s, va_rf_n, lgc_eq, lgc_lt, lgc_gt, lgc_ge, lgc_le, mrd_104, mrd_105, mrd_106, mrd_107, true_and, and_true, and_self, false_and, and_false, true_or, or_true, false_or, or_false, not_true_eq_false, not_false_eq_true, mgb, mga, mgr, mN, reduceCtorEq, ↓reduceIte, eq_self, ge_iff_le, gt_iff_lt, hk_si, hk_sj, hk_sr, hl_si, hl_sj, hl_sr, hn_si, hn_sj, hn_sr, hs_si, hs_sj, hs_sr, hi_sj, hi_sr, hj_si, hj_sr, hr_si, hr_sj, hi_si, hj_sj, hr_sr, mg_si, mg_sj, mg_sr, Nat.reduceAdd, Nat.reduceMul, Nat.reduceSub, Nat.reduceLT, Nat.reduceGT, Nat.reduceEqDiff, Nat.reduceLeDiff, Nat.left_eq_add, Nat.add_eq_left, Nat.reduceMod, Nat.reduceDiv, Nat.succ_ne_self, g, f49, t52, g5, run]
end REs
