set_option maxRecDepth 100000
/-! claims, in the reference -/
def clW (cnt b : Nat) : Prop := kW 2632 b ∨ ∃ q, q < cnt ∧ kW (137 + 10 * q) b
section RDs
variable {d : Nat} {h h1 : mh_H} {G : pgm} {cnt q o : Nat} {p x s y t b : Int32} {cl kn : Nat → Option ab} {X : Option ab} {A B : ab} {c : Int64}
theorem KM_e (r : RK h o (some B)) (e1 : B.n = A.n) (e2 : B.a = A.a) (e3 : B.lo = A.lo) (e4 : B.hi = A.hi) (e5 : B.rm = A.rm) (e6 : ∀ i j, i < 2 * A.n → j < 2 * A.n → B.m i j = A.m i j) : RK h o (some A) := by
  have r : KM h o B := r
  show KM h o A
  refine ⟨r.s, r.z, by rw [← e1]; exact r.n, by rw [← e1]; exact r.n12, by rw [← e2]; exact r.a, by rw [← e2]; exact r.a6, fun i j hi hj => ?_, fun x hx => ?_, fun x hx => ?_, fun x hx => ?_⟩
  · rw [r.m i j (by omega) (by omega), e6 _ _ (oc_bl hi) hj]
  · rw [← e3]; exact r.lo x (by omega)
  · rw [← e4]; exact r.hi x (by omega)
  · rw [← e5]; exact r.rm x (by omega)
theorem cl_upK (f : fq (clW cnt) h h1) (hf : ∀ b, (∃ q', q' < 250 ∧ q' ≠ q ∧ kW (137 + 10 * q') b) → (∀ j, mh_i h1 b j = mh_i h b j) ∧ ∀ j, mh_j h1 b j = mh_j h b j) (kc : ∀ q, q < cnt → RK h (137 + 10 * q) (cl q)) (hc : cnt ≤ 250) (k : RK h1 (137 + 10 * q) X) : ∀ q', q' < cnt → RK h1 (137 + 10 * q') (upC cl q X q') := fun q' hq' => by
  by_cases e : q' = q
  · subst e; rw [upC_s]; exact k
  · rw [upC_n e]
    have f' : fq (fun b => ¬ ∃ q', q' < 250 ∧ q' ≠ q ∧ kW (137 + 10 * q') b) h h1 := ⟨f.1, f.2.1, f.2.2.1, f.2.2.2.1, f.2.2.2.2.1, fun b hb => hf b (Classical.not_not.mp hb)⟩
    exact RK_fz (fz_fq f') (fun y hy j w => w ⟨q', by omega, e, by unfold kW; omega⟩) (kc q' hq')
/-- claimNothing -/
theorem u_381 (F : RF h) (H : RPH h G cnt) (kc : ∀ q, q < cnt → RK h (137 + 10 * q) (cl q)) : ∃ h', fq (clW cnt) h h' ∧ (∀ q, q < cnt → RK h' (137 + 10 * q) (cnC cnt cl p q)) ∧ (∀ q, q < 250 → mh_i h' (137 + 10 * q) 2 = mh_i h (137 + 10 * q) 2) ∧ ∀ Q, mcall (d + 1) 381 [.ref 81, .int p] h Q = Q (some (.int (cnR cnt cl p))) h' := by
  have cb := H.b
  have c373 := u_373 (d := d) (p := p) F H
  have g := F.g 81 14 70 (by decide +kernel)
  have t52 := F.f 81 52 115 (by decide +kernel)
  have g5 := F.g 115 12 38 (by decide +kernel)
  have t5 := F.f 115 5 117 (by decide +kernel)
  have g7 := (F.g 117 106 250 (by decide +kernel)).1
  have g7' := (F.g 117 106 250 (by decide +kernel)).2
  have l7 := F.l 117 106 250 (by decide +kernel)
  have e00 : ((0 : Int32) = 0) = True := by decide
  have e10 : ((1 : Int32) = 0) = False := by decide
  cases ok : okP cnt p with
  | false =>
    have r : cnR cnt cl p = -1 := by unfold cnR; rw [ok, if_neg (by decide)]
    have rc : cnC cnt cl p = cl := by unfold cnC; rw [ok, if_neg (by decide)]
    refine ⟨h, fq_id, by rw [rc]; exact kc, fun _ _ => rfl, fun Q => ?_⟩
    rw [r]
    rw [ok] at c373
    clear F H kc
    simp (disch := omega) only [s_381_0, s_381_1, s_381_2, s_381_5, s_381_8, s_381_9, s_381_10, s_381_11, s_381_14, s_381_17, s_381_18, s_381_19, s_381_22, s_381_25, s_381_26, s_381_29, s_381_30, s_381_31, s_381_32, s_381_35, s_381_38, s_381_39, s_381_40, s_381_41, s_381_44, s_381_45, e_381, mv_i_1, mv_l_1, mv_a_1, mv_a_2, mv_a_3, mk2_n, mk2_i, mk2_l, mk2_a, mk2_u, mk2_x, mB_T, mB_F, mS_cons, mS_nil, mSB_T, mSB_F, mca_nil, mca_i, mca_l, mca_r, mca_u, mca_x, mcat_i, mcat_l, mcat_r, mcat_u, mcat_x, mK_some, mK_none, va_rf_s, va_rf_n, lgc_eq, lgc_lt, lgc_gt, lgc_ge, lgc_le, mrd_104, mrd_105, mrd_106, mrd_107, true_and, and_true, and_self, false_and, and_false, true_or, or_true, false_or, or_false, not_true_eq_false, not_false_eq_true, mgb, mga, mgr, mN, reduceCtorEq, ↓reduceIte, eq_self, ge_iff_le, gt_iff_lt, hk_si, hk_sj, hk_sr, hl_si, hl_sj, hl_sr, hn_si, hn_sj, hn_sr, hs_si, hs_sj, hs_sr, hi_sj, hi_sr, hj_si, hj_sr, hr_si, hr_sj, hi_si, hj_sj, hr_sr, mg_si, mg_sj, mg_sr, Nat.reduceAdd, Nat.reduceMul, Nat.reduceSub, Nat.reduceLT, Nat.reduceGT, Nat.reduceEqDiff, Nat.reduceLeDiff, Nat.left_eq_add, Nat.add_eq_left, Nat.reduceMod, Nat.reduceDiv, Nat.succ_ne_self, g, c373, kbF, e00]
  | true =>
    rw [ok] at c373
    obtain ⟨q, hq, ep, eq⟩ := okP_n (by omega) ok
    have k := kc q hq
    have gO := (RK_ko k).1
    obtain ⟨-, -, -, p4⟩ := F.p q (by omega)
    have rc : cnC cnt cl p = upC cl q none := by unfold cnC; rw [ok, if_pos rfl, eq]
    have f : fq (fun b => b = 137 + 10 * q) h (mh_si h (137 + 10 * q) 0 1) := fq_si rfl
    have f' : fq (clW cnt) h (mh_si h (137 + 10 * q) 0 1) := fq_w f (fun b e => Or.inr ⟨q, by omega, by unfold kW; omega⟩)
    refine ⟨_, f', by rw [rc]; exact cl_upK f' (fun b w => f.2.2.2.2.2 b (fun e => by obtain ⟨q', w1, w2, w3⟩ := w; unfold kW at w3; omega)) kc (by omega) (RK_no k), fun q' hq' => by rw [hi_si, if_neg (by omega)], fun Q => ?_⟩
    cases ec : cl q with
    | none =>
      have r : cnR cnt cl p = 0 := by unfold cnR; rw [ok, if_pos rfl, eq, ec]
      rw [r]
      rw [ec] at k
      have z : mh_i h (137 + 10 * q) 0 = 1 := KN.z k
      subst ep
      clear F H kc k f f'
      simp (disch := omega) only [s_381_0, s_381_1, s_381_2, s_381_5, s_381_8, s_381_9, s_381_10, s_381_11, s_381_14, s_381_17, s_381_18, s_381_19, s_381_22, s_381_25, s_381_26, s_381_29, s_381_30, s_381_31, s_381_32, s_381_35, s_381_38, s_381_39, s_381_40, s_381_41, s_381_44, s_381_45, e_381, mv_i_1, mv_l_1, mv_a_1, mv_a_2, mv_a_3, mk2_n, mk2_i, mk2_l, mk2_a, mk2_u, mk2_x, mB_T, mB_F, mS_cons, mS_nil, mSB_T, mSB_F, mca_nil, mca_i, mca_l, mca_r, mca_u, mca_x, mcat_i, mcat_l, mcat_r, mcat_u, mcat_x, mK_some, mK_none, va_rf_s, va_rf_n, lgc_eq, lgc_lt, lgc_gt, lgc_ge, lgc_le, mrd_104, mrd_105, mrd_106, mrd_107, true_and, and_true, and_self, false_and, and_false, true_or, or_true, false_or, or_false, not_true_eq_false, not_false_eq_true, mgb, mga, mgr, mN, reduceCtorEq, ↓reduceIte, eq_self, ge_iff_le, gt_iff_lt, hk_si, hk_sj, hk_sr, hl_si, hl_sj, hl_sr, hn_si, hn_sj, hn_sr, hs_si, hs_sj, hs_sr, hi_sj, hi_sr, hj_si, hj_sr, hr_si, hr_sj, hi_si, hj_sj, hr_sr, mg_si, mg_sj, mg_sr, Nat.reduceAdd, Nat.reduceMul, Nat.reduceSub, Nat.reduceLT, Nat.reduceGT, Nat.reduceEqDiff, Nat.reduceLeDiff, Nat.left_eq_add, Nat.add_eq_left, Nat.reduceMod, Nat.reduceDiv, Nat.succ_ne_self, g, c373, kbT, e10, t52, g5, t5, g7, g7', l7, p4, gO, z, nn_mxT, nn_clamp]
    | some A =>
      have r : cnR cnt cl p = 1 := by unfold cnR; rw [ok, if_pos rfl, eq, ec]
      rw [r]
      rw [ec] at k
      have z : mh_i h (137 + 10 * q) 0 = 0 := KM.z k
      subst ep
      clear F H kc k f f'
      simp (disch := omega) only [s_381_0, s_381_1, s_381_2, s_381_5, s_381_8, s_381_9, s_381_10, s_381_11, s_381_14, s_381_17, s_381_18, s_381_19, s_381_22, s_381_25, s_381_26, s_381_29, s_381_30, s_381_31, s_381_32, s_381_35, s_381_38, s_381_39, s_381_40, s_381_41, s_381_44, s_381_45, e_381, mv_i_1, mv_l_1, mv_a_1, mv_a_2, mv_a_3, mk2_n, mk2_i, mk2_l, mk2_a, mk2_u, mk2_x, mB_T, mB_F, mS_cons, mS_nil, mSB_T, mSB_F, mca_nil, mca_i, mca_l, mca_r, mca_u, mca_x, mcat_i, mcat_l, mcat_r, mcat_u, mcat_x, mK_some, mK_none, va_rf_s, va_rf_n, lgc_eq, lgc_lt, lgc_gt, lgc_ge, lgc_le, mrd_104, mrd_105, mrd_106, mrd_107, true_and, and_true, and_self, false_and, and_false, true_or, or_true, false_or, or_false, not_true_eq_false, not_false_eq_true, mgb, mga, mgr, mN, reduceCtorEq, ↓reduceIte, eq_self, ge_iff_le, gt_iff_lt, hk_si, hk_sj, hk_sr, hl_si, hl_sj, hl_sr, hn_si, hn_sj, hn_sr, hs_si, hs_sj, hs_sr, hi_sj, hi_sr, hj_si, hj_sr, hr_si, hr_sj, hi_si, hj_sj, hr_sr, mg_si, mg_sj, mg_sr, Nat.reduceAdd, Nat.reduceMul, Nat.reduceSub, Nat.reduceLT, Nat.reduceGT, Nat.reduceEqDiff, Nat.reduceLeDiff, Nat.left_eq_add, Nat.add_eq_left, Nat.reduceMod, Nat.reduceDiv, Nat.succ_ne_self, g, c373, kbT, e10, e00, t52, g5, t5, g7, g7', l7, p4, gO, z, nn_mxT, nn_clamp]
/-- claim -/
theorem u_379 (F : RF h) (H : RPH h G cnt) (kc : ∀ q, q < cnt → RK h (137 + 10 * q) (cl q)) (S : CSH G cnt cl) : ∃ h', fq (clW cnt) h h' ∧ (∀ q, q < cnt → RK h' (137 + 10 * q) (cmC G cnt cl p x s y t c q)) ∧ (∀ q, q < 250 → mh_i h' (137 + 10 * q) 2 = mh_i h (137 + 10 * q) 2) ∧ ∀ Q, mcall (d + 3) 379 [.ref 81, .int p, .int x, .int s, .int y, .int t, .long c] h Q = Q (some (.int (cmR G cnt cl p x s y t c))) h' := by
  have cb := H.b
  have c375 := u_375 (d := d + 1) (p := p) (x := x) (s := s) (y := y) (t := t) F H
  have g := F.g 81 14 70 (by decide +kernel)
  have t52 := F.f 81 52 115 (by decide +kernel)
  have t53 := F.f 81 53 2632 (by decide +kernel)
  have g5 := F.g 115 12 38 (by decide +kernel)
  have t5 := F.f 115 5 117 (by decide +kernel)
  have g7 := (F.g 117 106 250 (by decide +kernel)).1
  have g7' := (F.g 117 106 250 (by decide +kernel)).2
  have l7 := F.l 117 106 250 (by decide +kernel)
  have e00 : ((0 : Int32) = 0) = True := by decide
  have e10 : ((1 : Int32) = 0) = False := by decide
  cases ok : okB G cnt p x s y t with
  | false =>
    have r : cmR G cnt cl p x s y t c = -1 := by unfold cmR; rw [ok, if_neg (by decide)]
    have rc : cmC G cnt cl p x s y t c = cl := by unfold cmC; rw [ok, if_neg (by decide)]
    refine ⟨h, fq_id, by rw [rc]; exact kc, fun _ _ => rfl, fun Q => ?_⟩
    rw [r]
    rw [ok] at c375
    clear F H kc S
    simp (disch := omega) only [s_379_0, s_379_1, s_379_2, s_379_3, s_379_4, s_379_6, s_379_8, s_379_11, s_379_14, s_379_15, s_379_16, s_379_17, s_379_20, s_379_23, s_379_24, s_379_25, s_379_25n, s_379_25x, s_379_27, s_379_29, s_379_32, s_379_35, s_379_36, s_379_37, s_379_38, s_379_41, s_379_43, s_379_46, s_379_48, s_379_49, s_379_50, s_379_53, s_379_55, s_379_57, s_379_60, s_379_63, s_379_66, s_379_68, s_379_71, s_379_74, s_379_77, s_379_79, s_379_82, s_379_83, s_379_86, s_379_88, s_379_91, s_379_94, s_379_95, s_379_98, s_379_99, e_379, mv_i_1, mv_l_1, mv_a_1, mv_a_2, mv_a_3, mk2_n, mk2_i, mk2_l, mk2_a, mk2_u, mk2_x, mB_T, mB_F, mS_cons, mS_nil, mSB_T, mSB_F, mca_nil, mca_i, mca_l, mca_r, mca_u, mca_x, mcat_i, mcat_l, mcat_r, mcat_u, mcat_x, mK_some, mK_none, va_rf_s, va_rf_n, lgc_eq, lgc_lt, lgc_gt, lgc_ge, lgc_le, mrd_104, mrd_105, mrd_106, mrd_107, true_and, and_true, and_self, false_and, and_false, true_or, or_true, false_or, or_false, not_true_eq_false, not_false_eq_true, mgb, mga, mgr, mN, reduceCtorEq, ↓reduceIte, eq_self, ge_iff_le, gt_iff_lt, hk_si, hk_sj, hk_sr, hl_si, hl_sj, hl_sr, hn_si, hn_sj, hn_sr, hs_si, hs_sj, hs_sr, hi_sj, hi_sr, hj_si, hj_sr, hr_si, hr_sj, hi_si, hj_sj, hr_sr, mg_si, mg_sj, mg_sr, Nat.reduceAdd, Nat.reduceMul, Nat.reduceSub, Nat.reduceLT, Nat.reduceGT, Nat.reduceEqDiff, Nat.reduceLeDiff, Nat.left_eq_add, Nat.add_eq_left, Nat.reduceMod, Nat.reduceDiv, Nat.succ_ne_self, g, c375, kbF, e00]
  | true =>
    rw [ok] at c375
    have ok' := ok
    unfold okB at ok'
    rw [Bool.and_eq_true] at ok'
    obtain ⟨o1, o2⟩ := ok'
    obtain ⟨q, hq, ep, eq⟩ := okP_n (by omega) o1
    obtain ⟨-, hn2⟩ := H.n q hq
    rw [eq] at o2
    obtain ⟨k, l, hk, hl, ex, ey, hs, ht, hv, hw, hvw⟩ := okT_n (by omega) o2
    obtain ⟨v, ev⟩ : ∃ v, sgx x s = v := ⟨_, rfl⟩
    obtain ⟨w, ew⟩ : ∃ w, sgx y t = w := ⟨_, rfl⟩
    have r := kc q hq
    have gO := (RK_ko r).1
    obtain ⟨-, -, -, p4⟩ := F.p q (by omega)
    cases ec : cl q with
    | none =>
      have a : cmR G cnt cl p x s y t c = 0 := by unfold cmR; rw [ok, if_pos rfl, eq, ec]
      have ac : cmC G cnt cl p x s y t c = cl := by unfold cmC; rw [ok, if_pos rfl, eq, ec]
      refine ⟨h, fq_id, by rw [ac]; exact kc, fun _ _ => rfl, fun Q => ?_⟩
      rw [a]
      rw [ec] at r
      have z : mh_i h (137 + 10 * q) 0 = 1 := KN.z r
      subst ep
      clear F H kc S r
      simp (disch := omega) only [s_379_0, s_379_1, s_379_2, s_379_3, s_379_4, s_379_6, s_379_8, s_379_11, s_379_14, s_379_15, s_379_16, s_379_17, s_379_20, s_379_23, s_379_24, s_379_25, s_379_25n, s_379_25x, s_379_27, s_379_29, s_379_32, s_379_35, s_379_36, s_379_37, s_379_38, s_379_41, s_379_43, s_379_46, s_379_48, s_379_49, s_379_50, s_379_53, s_379_55, s_379_57, s_379_60, s_379_63, s_379_66, s_379_68, s_379_71, s_379_74, s_379_77, s_379_79, s_379_82, s_379_83, s_379_86, s_379_88, s_379_91, s_379_94, s_379_95, s_379_98, s_379_99, e_379, mv_i_1, mv_l_1, mv_a_1, mv_a_2, mv_a_3, mk2_n, mk2_i, mk2_l, mk2_a, mk2_u, mk2_x, mB_T, mB_F, mS_cons, mS_nil, mSB_T, mSB_F, mca_nil, mca_i, mca_l, mca_r, mca_u, mca_x, mcat_i, mcat_l, mcat_r, mcat_u, mcat_x, mK_some, mK_none, va_rf_s, va_rf_n, lgc_eq, lgc_lt, lgc_gt, lgc_ge, lgc_le, mrd_104, mrd_105, mrd_106, mrd_107, true_and, and_true, and_self, false_and, and_false, true_or, or_true, false_or, or_false, not_true_eq_false, not_false_eq_true, mgb, mga, mgr, mN, reduceCtorEq, ↓reduceIte, eq_self, ge_iff_le, gt_iff_lt, hk_si, hk_sj, hk_sr, hl_si, hl_sj, hl_sr, hn_si, hn_sj, hn_sr, hs_si, hs_sj, hs_sr, hi_sj, hi_sr, hj_si, hj_sr, hr_si, hr_sj, hi_si, hj_sj, hr_sr, mg_si, mg_sj, mg_sr, Nat.reduceAdd, Nat.reduceMul, Nat.reduceSub, Nat.reduceLT, Nat.reduceGT, Nat.reduceEqDiff, Nat.reduceLeDiff, Nat.left_eq_add, Nat.add_eq_left, Nat.reduceMod, Nat.reduceDiv, Nat.succ_ne_self, g, c375, kbT, e10, t52, g5, t5, g7, g7', l7, p4, gO, z, nn_mxT, nn_clamp]
    | some A =>
      rw [ec] at r
      obtain ⟨T, n1, -, -⟩ := S q hq A ec
      have z : mh_i h (137 + 10 * q) 0 = 0 := KM.z r
      have av : cmR G cnt cl p x s y t c = cmV v w c.toInt A := by unfold cmR; rw [ok, if_pos rfl, eq, ec, ev, ew]
      have ac : cmC G cnt cl p x s y t c = upC cl q (cmO v w c.toInt A) := by unfold cmC; rw [ok, if_pos rfl, eq, ec, ev, ew]
      rw [ev, ew] at hvw
      rw [ev] at hv
      rw [ew] at hw
      obtain ⟨cc, ecc⟩ : ∃ cc, (if (if c < (1099511627776 : Int64) then c else 1099511627776) < (-1099511627776 : Int64) then (-1099511627776 : Int64) else (if c < (1099511627776 : Int64) then c else 1099511627776)) = cc := ⟨_, rfl⟩
      have ecc' : cc.toInt = max (-1099511627776) (min 1099511627776 c.toInt) := by
        rw [← ecc, mx64, mn64]
        rfl
      obtain ⟨h1, f1, w1, c281⟩ := k_281 (d := d + 2) F.w r (by omega : 2632 ≠ 137 + 10 * q)
      have r1 : RK h1 (137 + 10 * q) (some A) := RK_fz (fz_fq f1) (fun y hy j w => by unfold kW at w; omega) r
      obtain ⟨h2, f2, r2, c285⟩ := k_285 (d := d + 2) (i := v) (j := w) (c := cc) r1 T.t.1 (by omega) (by omega) (by omega)
      have lb : ∀ i j, i < 2 * A.n → j < 2 * A.n → -35184372088832 ≤ (a_lim v w cc.toInt A).m i j ∧ (a_lim v w cc.toInt A).m i j ≤ 17179869184 := fun i j hi hj => by
        have q := T.lo2 hi hj
        rw [a_lim_at]
        split
        · split <;> omega
        · omega
      obtain ⟨h3, f3, r3, c286⟩ := k_286 (d := d + 1) r2 (a_lim_C T.t.1 (by omega) (by omega) hvw) (Or.inl lb)
      have f23 := fq_t f2 f3
      have w3 : RK h3 2632 (some A) := RK_fz (fz_fq f23) (fun y hy j w => by unfold kW at w; omega) w1
      obtain ⟨vv, v1, v2, c294⟩ := k_294x (d := d + 1) w3 r3
      have ln : ∀ A' B', some A = some A' → a_cl (a_lim v w cc.toInt A) = some B' → A'.n = B'.n ∧ A'.a = B'.a := fun A' B' e1 e2 => by
        cases e1
        obtain ⟨-, q1, q2, -⟩ := a_cl_G e2
        exact ⟨q1.symm, q2.symm⟩
      have v2 := v2 ln
      have b1 := gr_b T (v := v) (w := w) (by omega) (by omega)
      have b2 := gr_b T (v := oc_b v) (w := oc_b w) (oc_bl (by omega)) (oc_bl (by omega))
      have F12 : fq (clW cnt) h h3 := fq_t (fq_w f1 (fun b e => Or.inl e)) (fq_w f23 (fun b e => Or.inr ⟨q, by omega, e⟩))
      have oth : ∀ b, (∃ q', q' < 250 ∧ q' ≠ q ∧ kW (137 + 10 * q') b) → (∀ j, mh_i h3 b j = mh_i h b j) ∧ ∀ j, mh_j h3 b j = mh_j h b j := fun b z => by
        obtain ⟨q', y1, y2, y3⟩ := z
        obtain ⟨z1, z2⟩ := f1.2.2.2.2.2 b (by unfold kW at *; omega)
        obtain ⟨z3, z4⟩ := f23.2.2.2.2.2 b (by unfold kW at *; omega)
        exact ⟨fun j => (z3 j).trans (z1 j), fun j => (z4 j).trans (z2 j)⟩
      have fl2 : ∀ q', q' < 250 → mh_i h3 (137 + 10 * q') 2 = mh_i h (137 + 10 * q') 2 := fun q' hq' => by
        by_cases e : q' = q
        · subst e
          have g1 := (RK_ko r1).1
          have g2 := (RK_ko r2).1
          rw [(cal_kf (by decide) yRel_2 (by decide) c286).2.2 _ g2.2 g2.1, (cal_kf (by decide) yRel_2 (by decide) c285).2.2 _ g1.2 g1.1]
          exact (f1.2.2.2.2.2 _ (by unfold kW; omega)).1 2
        · exact (oth _ ⟨q', hq', e, by unfold kW; omega⟩).1 2
      have ca := u_376 (d := d + 2) (h := h1) hs (k := k) (by omega) ex
      have cb' := u_376 (d := d + 2) (h := h1) ht (k := l) (by omega) ey
      rw [ev] at ca
      rw [ew] at cb'
      have er1 := f1.2.2.1
      have mg1 : ∀ o ci, mg h1 o ci = mg h o ci := fun _ _ => propext (fq_mg f1)
      have er2 : mh_r h2 = mh_r h := f2.2.2.1.trans er1
      have mg2 : ∀ o ci, mg h2 o ci = mg h o ci := fun _ _ => (propext (fq_mg f2)).trans (mg1 _ _)
      have er3 : mh_r h3 = mh_r h := f23.2.2.1.trans er1
      have mg3 : ∀ o ci, mg h3 o ci = mg h o ci := fun _ _ => (propext (fq_mg f23)).trans (mg1 _ _)
      have gw : mg h 2632 13 := F.w.1
      have run : ∀ Q, mcall (d + 3) 379 [.ref 81, .int p, .int x, .int s, .int y, .int t, .long c] h Q = Q (some (.int (if vv = 1 then 0 else 1))) h3 := fun Q => by
        subst ep
        clear F H kc S r r1 r2 r3 T f1 f2 f3 f23 w1 w3 F12 oth fl2 v2 ln lb av ac
        rcases v1 with v1 | v1 <;> subst v1
        · rw [if_neg (by decide)]
          simp (disch := omega) only [s_379_0, s_379_1, s_379_2, s_379_3, s_379_4, s_379_6, s_379_8, s_379_11, s_379_14, s_379_15, s_379_16, s_379_17, s_379_20, s_379_23, s_379_24, s_379_25, s_379_25n, s_379_25x, s_379_27, s_379_29, s_379_32, s_379_35, s_379_36, s_379_37, s_379_38, s_379_41, s_379_43, s_379_46, s_379_48, s_379_49, s_379_50, s_379_53, s_379_55, s_379_57, s_379_60, s_379_63, s_379_66, s_379_68, s_379_71, s_379_74, s_379_77, s_379_79, s_379_82, s_379_83, s_379_86, s_379_88, s_379_91, s_379_94, s_379_95, s_379_98, s_379_99, e_379, mv_i_1, mv_l_1, mv_a_1, mv_a_2, mv_a_3, mk2_n, mk2_i, mk2_l, mk2_a, mk2_u, mk2_x, mB_T, mB_F, mS_cons, mS_nil, mSB_T, mSB_F, mca_nil, mca_i, mca_l, mca_r, mca_u, mca_x, mcat_i, mcat_l, mcat_r, mcat_u, mcat_x, mK_some, mK_none, va_rf_s, va_rf_n, lgc_eq, lgc_lt, lgc_gt, lgc_ge, lgc_le, mrd_104, mrd_105, mrd_106, mrd_107, true_and, and_true, and_self, false_and, and_false, true_or, or_true, false_or, or_false, not_true_eq_false, not_false_eq_true, mgb, mga, mgr, mN, reduceCtorEq, ↓reduceIte, eq_self, ge_iff_le, gt_iff_lt, hk_si, hk_sj, hk_sr, hl_si, hl_sj, hl_sr, hn_si, hn_sj, hn_sr, hs_si, hs_sj, hs_sr, hi_sj, hi_sr, hj_si, hj_sr, hr_si, hr_sj, hi_si, hj_sj, hr_sr, mg_si, mg_sj, mg_sr, Nat.reduceAdd, Nat.reduceMul, Nat.reduceSub, Nat.reduceLT, Nat.reduceGT, Nat.reduceEqDiff, Nat.reduceLeDiff, Nat.left_eq_add, Nat.add_eq_left, Nat.reduceMod, Nat.reduceDiv, Nat.succ_ne_self, g, c375, kbT, e10, e00, t52, g5, t5, g7, g7', l7, p4, gO, z, t53, gw, c281, er1, mg1, ca, cb', ecc, c285, er2, mg2, c286, er3, mg3, c294, nn_mxT, nn_clamp]
        · rw [if_pos rfl]
          simp (disch := omega) only [s_379_0, s_379_1, s_379_2, s_379_3, s_379_4, s_379_6, s_379_8, s_379_11, s_379_14, s_379_15, s_379_16, s_379_17, s_379_20, s_379_23, s_379_24, s_379_25, s_379_25n, s_379_25x, s_379_27, s_379_29, s_379_32, s_379_35, s_379_36, s_379_37, s_379_38, s_379_41, s_379_43, s_379_46, s_379_48, s_379_49, s_379_50, s_379_53, s_379_55, s_379_57, s_379_60, s_379_63, s_379_66, s_379_68, s_379_71, s_379_74, s_379_77, s_379_79, s_379_82, s_379_83, s_379_86, s_379_88, s_379_91, s_379_94, s_379_95, s_379_98, s_379_99, e_379, mv_i_1, mv_l_1, mv_a_1, mv_a_2, mv_a_3, mk2_n, mk2_i, mk2_l, mk2_a, mk2_u, mk2_x, mB_T, mB_F, mS_cons, mS_nil, mSB_T, mSB_F, mca_nil, mca_i, mca_l, mca_r, mca_u, mca_x, mcat_i, mcat_l, mcat_r, mcat_u, mcat_x, mK_some, mK_none, va_rf_s, va_rf_n, lgc_eq, lgc_lt, lgc_gt, lgc_ge, lgc_le, mrd_104, mrd_105, mrd_106, mrd_107, true_and, and_true, and_self, false_and, and_false, true_or, or_true, false_or, or_false, not_true_eq_false, not_false_eq_true, mgb, mga, mgr, mN, reduceCtorEq, ↓reduceIte, eq_self, ge_iff_le, gt_iff_lt, hk_si, hk_sj, hk_sr, hl_si, hl_sj, hl_sr, hn_si, hn_sj, hn_sr, hs_si, hs_sj, hs_sr, hi_sj, hi_sr, hj_si, hj_sr, hr_si, hr_sj, hi_si, hj_sj, hr_sr, mg_si, mg_sj, mg_sr, Nat.reduceAdd, Nat.reduceMul, Nat.reduceSub, Nat.reduceLT, Nat.reduceGT, Nat.reduceEqDiff, Nat.reduceLeDiff, Nat.left_eq_add, Nat.add_eq_left, Nat.reduceMod, Nat.reduceDiv, Nat.succ_ne_self, g, c375, kbT, e10, e00, t52, g5, t5, g7, g7', l7, p4, gO, z, t53, gw, c281, er1, mg1, ca, cb', ecc, c285, er2, mg2, c286, er3, mg3, c294, nn_mxT, nn_clamp]
      refine ⟨h3, F12, ?_, fl2, ?_⟩
      · rw [ac]
        refine cl_upK F12 oth kc (by omega) ?_
        unfold cmO
        by_cases c1 : a_gr A v w ≤ c.toInt
        · rw [if_pos c1]
          obtain ⟨B, q1, q2, q3, q4, q5, q6, q7⟩ := cR_1 (c := cc.toInt) T (v := v) (w := w) (by omega) (by omega) (by omega)
          rw [q1] at r3
          exact KM_e r3 q2 q3 q4 q5 q6 q7
        · rw [if_neg c1]
          by_cases c2 : c.toInt < -a_gr A (oc_b v) (oc_b w)
          · rw [if_pos c2]
            have q1 := cR_2 (c := cc.toInt) T (v := v) (w := w) (by omega) (by omega) (by omega)
            rw [q1] at r3
            exact r3
          · rw [if_neg c2]
            have : cc.toInt = c.toInt := by omega
            rw [this] at r3
            exact r3
      · rw [av]
        unfold cmV
        by_cases c1 : a_gr A v w ≤ c.toInt
        · obtain ⟨B, q1, q2, q3, q4, q5, q6, q7⟩ := cR_1 (c := cc.toInt) T (v := v) (w := w) (by omega) (by omega) (by omega)
          have : vv = 1 := v2.mpr (by
            rw [q1]
            exact ⟨fun i j hi hj => Int.le_of_eq (q7 i j hi hj).symm, fun x hx => by rw [q4, q5]; exact ⟨Int.le_refl _, Int.le_refl _⟩⟩)
          rw [if_pos this] at run
          rw [if_pos c1]
          exact run
        · have n1 : ¬ o_le (some A) (a_cl (a_lim v w cc.toInt A)) := cR_3 T (by omega) (by omega) (by omega)
          have : ¬ vv = 1 := fun z => n1 (v2.mp z)
          rw [if_neg this] at run
          rw [if_neg c1]
          exact run
end RDs
