set_option maxRecDepth 100000
/-- which slots are loose, behind a limit on v and w -/
def sl (x : Int32) (v w : Nat) : Int32 := x ||| (1 <<< (Int32.ofNat v / 2 &&& 31) ||| 1 <<< (Int32.ofNat w / 2 &&& 31))
def lim (v w : Nat) (c : Int64) : Int64 := if v = w then 2 * c else c
/-- State.limit -/
theorem c_147 {d : Nat} {Q : Option Value → mh_H → Prop} {h : mh_H} {o v w : Nat} {c : Int64} (hs : so h o) (hv : v < 24) (hw : w < 24) : mcall (d + 1) 147 [.ref o, .int (Int32.ofNat v), .int (Int32.ofNat w), .long c] h Q = Q none (if lim v w c < sb h o (oc_b w) v then mh_si (mh_J h (o + 1) (fun j => if j = sc (oc_b w) v then lim v w c else mh_j h (o + 1) j)) o 5 (sl (mh_i h o 5) v w) else h) := by
  obtain ⟨s1, s2, s3, s4, s5, s6, s7⟩ := hs
  have h2 := oc_b24 hw
  have h5 := sc_lt h2 hv
  by_cases e : v = w
  · subst e
    by_cases q : lim v v c < sb h o (oc_b v) v
    all_goals
      have q' := q
      unfold lim sb at q'
      rw [if_pos rfl] at q'
      simp (disch := omega) only [s_147_0, s_147_1, s_147_2, s_147_3, s_147_4, s_147_7, s_147_9, s_147_10, s_147_11, s_147_14, s_147_17, s_147_18, s_147_19, s_147_22, s_147_23, s_147_25, s_147_27, s_147_28, s_147_31, s_147_33, s_147_34, s_147_35, s_147_38, s_147_39, s_147_42, s_147_44, s_147_46, s_147_47, s_147_48, s_147_49, s_147_52, s_147_53, s_147_54, s_147_55, s_147_56, s_147_57, s_147_58, s_147_59, s_147_60, s_147_61, s_147_62, s_147_63, s_147_64, s_147_67, e_147, mv_i_1, mv_l_1, mv_a_1, mv_a_2, mv_a_3, mk2_n, mk2_i, mk2_l, mk2_a, mk2_u, mk2_x, mB_T, mB_F, mS_cons, mS_nil, mSB_T, mSB_F, mca_nil, mca_i, mca_l, mca_r, mca_u, mca_x, mcat_i, mcat_l, mcat_r, mcat_u, mcat_x, mK_some, mK_none, va_rf_s, va_rf_n, lgc_eq, lgc_lt, lgc_gt, lgc_ge, lgc_le, mrd_104, mrd_105, mrd_106, mrd_107, true_and, and_true, and_self, false_and, and_false, true_or, or_true, false_or, or_false, not_true_eq_false, not_false_eq_true, mgb, mga, mgr, mN, reduceCtorEq, ↓reduceIte, eq_self, ge_iff_le, gt_iff_lt, hk_si, hk_sj, hk_sr, hl_si, hl_sj, hl_sr, hn_si, hn_sj, hn_sr, hs_si, hs_sj, hs_sr, hi_sj, hi_sr, hj_si, hj_sr, hr_si, hr_sj, hi_si, hj_sj, hr_sr, mg_si, mg_sj, mg_sr, hk_J, hl_J, hn_J, hr_J, mg_J, hi_J, sj_J, s1, s2, s3, s4, c_140, nn_xor1, nn_eq, nn_mxT, nn_clamp, lgc_ge, le_nlt64, mB_not, q, q', show ((2 : Int32) = 0) = False by decide, sl, lim, sb]
  · by_cases q : lim v w c < sb h o (oc_b w) v
    all_goals
      have q' := q
      unfold lim sb at q'
      rw [if_neg e] at q'
      simp (disch := omega) only [s_147_0, s_147_1, s_147_2, s_147_3, s_147_4, s_147_7, s_147_9, s_147_10, s_147_11, s_147_14, s_147_17, s_147_18, s_147_19, s_147_22, s_147_23, s_147_25, s_147_27, s_147_28, s_147_31, s_147_33, s_147_34, s_147_35, s_147_38, s_147_39, s_147_42, s_147_44, s_147_46, s_147_47, s_147_48, s_147_49, s_147_52, s_147_53, s_147_54, s_147_55, s_147_56, s_147_57, s_147_58, s_147_59, s_147_60, s_147_61, s_147_62, s_147_63, s_147_64, s_147_67, e_147, mv_i_1, mv_l_1, mv_a_1, mv_a_2, mv_a_3, mk2_n, mk2_i, mk2_l, mk2_a, mk2_u, mk2_x, mB_T, mB_F, mS_cons, mS_nil, mSB_T, mSB_F, mca_nil, mca_i, mca_l, mca_r, mca_u, mca_x, mcat_i, mcat_l, mcat_r, mcat_u, mcat_x, mK_some, mK_none, va_rf_s, va_rf_n, lgc_eq, lgc_lt, lgc_gt, lgc_ge, lgc_le, mrd_104, mrd_105, mrd_106, mrd_107, true_and, and_true, and_self, false_and, and_false, true_or, or_true, false_or, or_false, not_true_eq_false, not_false_eq_true, mgb, mga, mgr, mN, reduceCtorEq, ↓reduceIte, eq_self, ge_iff_le, gt_iff_lt, hk_si, hk_sj, hk_sr, hl_si, hl_sj, hl_sr, hn_si, hn_sj, hn_sr, hs_si, hs_sj, hs_sr, hi_sj, hi_sr, hj_si, hj_sr, hr_si, hr_sj, hi_si, hj_sj, hr_sr, mg_si, mg_sj, mg_sr, hk_J, hl_J, hn_J, hr_J, mg_J, hi_J, sj_J, s1, s2, s3, s4, c_140, nn_xor1, nn_eq, nn_mxT, nn_clamp, lgc_ge, le_nlt64, mB_not, e, q, q', show ((2 : Int32) = 0) = False by decide, sl, lim, sb]
/-- State.copy -/
def sc_n (n : Nat) : Nat := 2 * n * (n + 1)
theorem sc_n_le {n : Nat} (h : n ≤ 12) : sc_n n ≤ 312 := by
  have : ∀ n, n ≤ 12 → sc_n n ≤ 312 := by decide
  exact this n h
theorem c_144 {d : Nat} {Q : Option Value → mh_H → Prop} {h : mh_H} {o p n a : Nat} (hs : so h o) (hp : so h p) (hop : o ≠ p) (hn : mh_i h p 1 = Int32.ofNat n) (hn2 : n ≤ 12) (ha : mh_i h p 2 = Int32.ofNat a) (ha2 : a ≤ 6) (hz : mh_i h p 0 = 0 ∨ mh_i h p 0 = 1) : mcall (d + 1) 144 [.ref o, .ref p] h Q = Q none (if mh_i h p 0 = 0 then mh_cp (mh_cp (mh_si (mh_si (mh_si (mh_si h o 0 (mh_i h p 0)) o 1 (mh_i h p 1)) o 2 (mh_i h p 2)) o 5 (mh_i h p 5)) (p + 1) 0 (o + 1) 0 (sc_n n)) (p + 2) 0 (o + 2) 0 (2 * a) else mh_si (mh_si (mh_si (mh_si h o 0 (mh_i h p 0)) o 1 (mh_i h p 1)) o 2 (mh_i h p 2)) o 5 (mh_i h p 5)) := by
  obtain ⟨s1, s2, s3, s4, s5, s6, s7⟩ := hs
  obtain ⟨p1, p2, p3, p4, p5, p6, p7⟩ := hp
  have k3 := p3.1
  have k6 := p6.1
  have k3' := s3.1
  have k6' := s6.1
  have l1 := s3.2
  have l2 := s6.2
  have l3 := p3.2
  have l4 := p6.2
  have hc := sc_n_le hn2
  have hne : ¬ p = o := fun z => hop z.symm
  unfold sc_n at hc
  have n1 : ¬ p = o + 1 := fun z => by have := p1.1; rw [z, k3'] at this; omega
  have n2 : ¬ p = o + 2 := fun z => by have := p1.1; rw [z, k6'] at this; omega
  have n3 : ¬ o = o + 1 := by omega
  have n4 : 2 * a ≤ 12 := by omega
  rcases hz with z | z
  · simp (disch := first | omega | (simp only [hk_si, hk_sj, hk_sr, hl_si, hl_sj, hl_sr, hn_si, hn_sj, hn_sr, hs_si, hs_sj, hs_sr, hi_sj, hi_sr, hj_si, hj_sr, hr_si, hr_sj, hi_si, hj_sj, hr_sr, mg_si, mg_sj, mg_sr, hk_cp, k3, k6, Nat.reduceLT]; done)) only [s_144_0, s_144_1, s_144_2, s_144_5, s_144_8, s_144_9, s_144_10, s_144_13, s_144_16, s_144_17, s_144_18, s_144_21, s_144_24, s_144_25, s_144_26, s_144_29, s_144_32, s_144_33, s_144_36, s_144_39, s_144_40, s_144_43, s_144_44, s_144_45, s_144_48, s_144_49, s_144_50, s_144_53, s_144_56, s_144_57, s_144_60, s_144_61, s_144_62, s_144_65, s_144_66, s_144_67, s_144_68, s_144_71, s_144_72, s_144_75, e_144, s_142_0, s_142_1, s_142_2, s_142_5, s_142_6, s_142_7, s_142_10, s_142_11, s_142_12, s_142_13, e_142, mv_i_1, mv_l_1, mv_a_1, mv_a_2, mv_a_3, mk2_n, mk2_i, mk2_l, mk2_a, mk2_u, mk2_x, mB_T, mB_F, mS_cons, mS_nil, mSB_T, mSB_F, mca_nil, mca_i, mca_l, mca_r, mca_u, mca_x, mcat_i, mcat_l, mcat_r, mcat_u, mcat_x, mK_some, mK_none, va_rf_s, va_rf_n, lgc_eq, lgc_lt, lgc_gt, lgc_ge, lgc_le, mrd_104, mrd_105, mrd_106, mrd_107, true_and, and_true, and_self, false_and, and_false, true_or, or_true, false_or, or_false, not_true_eq_false, not_false_eq_true, mgb, mga, mgr, mN, reduceCtorEq, ↓reduceIte, eq_self, ge_iff_le, gt_iff_lt, hk_si, hk_sj, hk_sr, hl_si, hl_sj, hl_sr, hn_si, hn_sj, hn_sr, hs_si, hs_sj, hs_sr, hi_sj, hi_sr, hj_si, hj_sr, hr_si, hr_sj, hi_si, hj_sj, hr_sr, mg_si, mg_sj, mg_sr, Nat.reduceAdd, Nat.reduceMul, Nat.reduceSub, Nat.reduceLT, Nat.reduceGT, Nat.reduceEqDiff, Nat.reduceLeDiff, Nat.left_eq_add, Nat.add_eq_left, Nat.reduceMod, Nat.reduceDiv, Nat.succ_ne_self, hk_cp, hl_cp, hn_cp, hs_cp, hr_cp, hi_cp, mg_cp, cpok_eq, s1, s2, s3, s4, s5, s6, s7, p1, p2, p3, p4, p5, p6, p7, k3, k6, k3', k6', l1, l2, l3, l4, z, hn, ha, hne, hop, n1, n2, n3, n4, Nat.zero_le, nn_lit, nn_mul, nn_clamp, nn_ge, nn_le, nn_add, bf_eq, Nat.zero_add, sc_n, hc]
  · simp (disch := omega) only [s_144_0, s_144_1, s_144_2, s_144_5, s_144_8, s_144_9, s_144_10, s_144_13, s_144_16, s_144_17, s_144_18, s_144_21, s_144_24, s_144_25, s_144_26, s_144_29, s_144_32, s_144_33, s_144_36, s_144_39, s_144_40, s_144_43, s_144_44, s_144_45, s_144_48, s_144_49, s_144_50, s_144_53, s_144_56, s_144_57, s_144_60, s_144_61, s_144_62, s_144_65, s_144_66, s_144_67, s_144_68, s_144_71, s_144_72, s_144_75, e_144, mv_i_1, mv_l_1, mv_a_1, mv_a_2, mv_a_3, mk2_n, mk2_i, mk2_l, mk2_a, mk2_u, mk2_x, mB_T, mB_F, mS_cons, mS_nil, mSB_T, mSB_F, mca_nil, mca_i, mca_l, mca_r, mca_u, mca_x, mcat_i, mcat_l, mcat_r, mcat_u, mcat_x, mK_some, mK_none, va_rf_s, va_rf_n, lgc_eq, lgc_lt, lgc_gt, lgc_ge, lgc_le, mrd_104, mrd_105, mrd_106, mrd_107, true_and, and_true, and_self, false_and, and_false, true_or, or_true, false_or, or_false, not_true_eq_false, not_false_eq_true, mgb, mga, mgr, mN, reduceCtorEq, ↓reduceIte, eq_self, ge_iff_le, gt_iff_lt, hk_si, hk_sj, hk_sr, hl_si, hl_sj, hl_sr, hn_si, hn_sj, hn_sr, hs_si, hs_sj, hs_sr, hi_sj, hi_sr, hj_si, hj_sr, hr_si, hr_sj, hi_si, hj_sj, hr_sr, mg_si, mg_sj, mg_sr, s1, p1, z, hne, hop, show ((1 : Int32) = 0) = False by decide]

/-- State.within: the two loops, by what they look for -/
theorem c_149 {d : Nat} {Q : Option Value → mh_H → Prop} {h : mh_H} {o p n a : Nat} (hs : so h o) (hp : so h p) (hn : mh_i h o 1 = Int32.ofNat n) (hn2 : n ≤ 12) (ha : mh_i h o 2 = Int32.ofNat a) (ha2 : a ≤ 6) (hz : mh_i h o 0 = 0) (hz2 : mh_i h p 0 = 0) : mcall (d + 1) 149 [.ref o, .ref p] h Q = mI (∃ k, 0 ≤ k ∧ k < sc_n n ∧ mh_j h (p + 1) k < mh_j h (o + 1) k) (Q (some (.int 0)) h) (mI (∃ k, 0 ≤ k ∧ k < a ∧ (mh_j h (o + 2) (2 * k) < mh_j h (p + 2) (2 * k) ∨ mh_j h (p + 2) (2 * k + 1) < mh_j h (o + 2) (2 * k + 1))) (Q (some (.int 0)) h) (Q (some (.int 1)) h)) := by
  obtain ⟨s1, s2, s3, s4, s5, s6, s7⟩ := hs
  obtain ⟨p1, p2, p3, p4, p5, p6, p7⟩ := hp
  have hc := sc_n_le hn2
  have ei : ∀ k, Int32.ofNat k + 1 = Int32.ofNat (k + 1) := fun k => nn_add (a := k) (b := 1)
  have e2 : (2 : Int32) * Int32.ofNat n * Int32.ofNat (n + 1) = Int32.ofNat (sc_n n) := by rw [nn_lit, nn_mul, nn_mul]; rfl
  have e3 : ∀ k, (2 : Int32) * Int32.ofNat k = Int32.ofNat (2 * k) := fun k => nn_mul (a := 2) (b := k)
  have L1 := mw_until (d := d + 1) (y := 149) (pc := 21) (Q := Q) (st := []) (fun k => [some (.ref o), some (.ref p), some (.int (Int32.ofNat k))]) (fun _ => h) (fun k => mh_j h (p + 1) k < mh_j h (o + 1) k) (Q (some (.int 0)) h) (a := 0) (b := sc_n n) (Nat.zero_le _) (fun k _ hk => by
    have hk2 : ¬ sc_n n ≤ k := by omega
    by_cases c : mh_j h (p + 1) k < mh_j h (o + 1) k
    all_goals
      rw [s_149_21]
      simp (disch := omega) only [s_149_0, s_149_1, s_149_4, s_149_7, s_149_8, s_149_11, s_149_14, s_149_15, s_149_18, s_149_19, s_149_20, s_149_22, s_149_23, s_149_26, s_149_29, s_149_30, s_149_33, s_149_34, s_149_35, s_149_36, s_149_39, s_149_40, s_149_41, s_149_42, s_149_45, s_149_46, s_149_47, s_149_50, s_149_53, s_149_54, s_149_55, s_149_56, s_149_57, s_149_60, s_149_63, s_149_64, s_149_67, s_149_68, s_149_69, s_149_70, s_149_71, s_149_72, s_149_75, s_149_76, s_149_77, s_149_78, s_149_79, s_149_80, s_149_83, s_149_84, s_149_87, s_149_88, s_149_89, s_149_90, s_149_91, s_149_92, s_149_93, s_149_94, s_149_97, s_149_98, s_149_99, s_149_100, s_149_101, s_149_102, s_149_103, s_149_104, s_149_107, s_149_108, s_149_109, s_149_112, s_149_115, s_149_116, e_149, s_142_0, s_142_1, s_142_2, s_142_5, s_142_6, s_142_7, s_142_10, s_142_11, s_142_12, s_142_13, e_142, mv_i_1, mv_l_1, mv_a_1, mv_a_2, mv_a_3, mk2_n, mk2_i, mk2_l, mk2_a, mk2_u, mk2_x, mB_T, mB_F, mS_cons, mS_nil, mSB_T, mSB_F, mca_nil, mca_i, mca_l, mca_r, mca_u, mca_x, mcat_i, mcat_l, mcat_r, mcat_u, mcat_x, mK_some, mK_none, va_rf_s, va_rf_n, lgc_eq, lgc_lt, lgc_gt, lgc_ge, lgc_le, mrd_104, mrd_105, mrd_106, mrd_107, true_and, and_true, and_self, false_and, and_false, true_or, or_true, false_or, or_false, not_true_eq_false, not_false_eq_true, mgb, mga, mgr, mN, reduceCtorEq, ↓reduceIte, eq_self, ge_iff_le, gt_iff_lt, s1, s2, s3, s4, p1, p2, p3, p4, hn, e2, nn_le, nn_mxT, nn_clamp, ei, hk2, c, le_nlt64, mB_not, mI_t, mI_f])
  have L2 := mw_until (d := d + 1) (y := 149) (pc := 55) (Q := Q) (st := []) (fun k => [some (.ref o), some (.ref p), some (.int (Int32.ofNat k))]) (fun _ => h) (fun k => mh_j h (o + 2) (2 * k) < mh_j h (p + 2) (2 * k) ∨ mh_j h (p + 2) (2 * k + 1) < mh_j h (o + 2) (2 * k + 1)) (Q (some (.int 0)) h) (a := 0) (b := a) (Nat.zero_le _) (fun k _ hk => by
    have hk2 : ¬ a ≤ k := by omega
    by_cases c : mh_j h (o + 2) (2 * k) < mh_j h (p + 2) (2 * k)
    · rw [s_149_55]
      simp (disch := omega) only [s_149_0, s_149_1, s_149_4, s_149_7, s_149_8, s_149_11, s_149_14, s_149_15, s_149_18, s_149_19, s_149_20, s_149_21, s_149_22, s_149_23, s_149_26, s_149_29, s_149_30, s_149_33, s_149_34, s_149_35, s_149_36, s_149_39, s_149_40, s_149_41, s_149_42, s_149_45, s_149_46, s_149_47, s_149_50, s_149_53, s_149_54, s_149_56, s_149_57, s_149_60, s_149_63, s_149_64, s_149_67, s_149_68, s_149_69, s_149_70, s_149_71, s_149_72, s_149_75, s_149_76, s_149_77, s_149_78, s_149_79, s_149_80, s_149_83, s_149_84, s_149_87, s_149_88, s_149_89, s_149_90, s_149_91, s_149_92, s_149_93, s_149_94, s_149_97, s_149_98, s_149_99, s_149_100, s_149_101, s_149_102, s_149_103, s_149_104, s_149_107, s_149_108, s_149_109, s_149_112, s_149_115, s_149_116, e_149, mv_i_1, mv_l_1, mv_a_1, mv_a_2, mv_a_3, mk2_n, mk2_i, mk2_l, mk2_a, mk2_u, mk2_x, mB_T, mB_F, mS_cons, mS_nil, mSB_T, mSB_F, mca_nil, mca_i, mca_l, mca_r, mca_u, mca_x, mcat_i, mcat_l, mcat_r, mcat_u, mcat_x, mK_some, mK_none, va_rf_s, va_rf_n, lgc_eq, lgc_lt, lgc_gt, lgc_ge, lgc_le, mrd_104, mrd_105, mrd_106, mrd_107, true_and, and_true, and_self, false_and, and_false, true_or, or_true, false_or, or_false, not_true_eq_false, not_false_eq_true, mgb, mga, mgr, mN, reduceCtorEq, ↓reduceIte, eq_self, ge_iff_le, gt_iff_lt, s1, s2, s3, s4, s5, s6, s7, p1, p2, p3, p4, p5, p6, p7, ha, e3, nn_le, nn_mxT, nn_clamp, ei, hk2, c, le_nlt64, mB_not, mI_t, mI_f]
    · by_cases c2 : mh_j h (p + 2) (2 * k + 1) < mh_j h (o + 2) (2 * k + 1)
      all_goals
        rw [s_149_55]
        simp (disch := omega) only [s_149_0, s_149_1, s_149_4, s_149_7, s_149_8, s_149_11, s_149_14, s_149_15, s_149_18, s_149_19, s_149_20, s_149_21, s_149_22, s_149_23, s_149_26, s_149_29, s_149_30, s_149_33, s_149_34, s_149_35, s_149_36, s_149_39, s_149_40, s_149_41, s_149_42, s_149_45, s_149_46, s_149_47, s_149_50, s_149_53, s_149_54, s_149_56, s_149_57, s_149_60, s_149_63, s_149_64, s_149_67, s_149_68, s_149_69, s_149_70, s_149_71, s_149_72, s_149_75, s_149_76, s_149_77, s_149_78, s_149_79, s_149_80, s_149_83, s_149_84, s_149_87, s_149_88, s_149_89, s_149_90, s_149_91, s_149_92, s_149_93, s_149_94, s_149_97, s_149_98, s_149_99, s_149_100, s_149_101, s_149_102, s_149_103, s_149_104, s_149_107, s_149_108, s_149_109, s_149_112, s_149_115, s_149_116, e_149, mv_i_1, mv_l_1, mv_a_1, mv_a_2, mv_a_3, mk2_n, mk2_i, mk2_l, mk2_a, mk2_u, mk2_x, mB_T, mB_F, mS_cons, mS_nil, mSB_T, mSB_F, mca_nil, mca_i, mca_l, mca_r, mca_u, mca_x, mcat_i, mcat_l, mcat_r, mcat_u, mcat_x, mK_some, mK_none, va_rf_s, va_rf_n, lgc_eq, lgc_lt, lgc_gt, lgc_ge, lgc_le, mrd_104, mrd_105, mrd_106, mrd_107, true_and, and_true, and_self, false_and, and_false, true_or, or_true, false_or, or_false, not_true_eq_false, not_false_eq_true, mgb, mga, mgr, mN, reduceCtorEq, ↓reduceIte, eq_self, ge_iff_le, gt_iff_lt, s1, s2, s3, s4, s5, s6, s7, p1, p2, p3, p4, p5, p6, p7, ha, e3, nn_le, nn_mxT, nn_clamp, ei, hk2, c, c2, le_nlt64, mB_not, mI_t, mI_f])
  simp only [s_149_0, s_149_1, s_149_4, s_149_7, s_149_8, s_149_11, s_149_14, s_149_15, s_149_18, s_149_19, s_149_20, s_149_22, s_149_23, s_149_26, s_149_29, s_149_30, s_149_33, s_149_34, s_149_35, s_149_36, s_149_39, s_149_40, s_149_41, s_149_42, s_149_45, s_149_46, s_149_47, s_149_50, s_149_53, s_149_54, s_149_55, s_149_56, s_149_57, s_149_60, s_149_63, s_149_64, s_149_67, s_149_68, s_149_69, s_149_70, s_149_71, s_149_72, s_149_75, s_149_76, s_149_77, s_149_78, s_149_79, s_149_80, s_149_83, s_149_84, s_149_87, s_149_88, s_149_89, s_149_90, s_149_91, s_149_92, s_149_93, s_149_94, s_149_97, s_149_98, s_149_99, s_149_100, s_149_101, s_149_102, s_149_103, s_149_104, s_149_107, s_149_108, s_149_109, s_149_112, s_149_115, s_149_116, e_149, mv_i_1, mv_l_1, mv_a_1, mv_a_2, mv_a_3, mk2_n, mk2_i, mk2_l, mk2_a, mk2_u, mk2_x, mB_T, mB_F, mS_cons, mS_nil, mSB_T, mSB_F, mca_nil, mca_i, mca_l, mca_r, mca_u, mca_x, mcat_i, mcat_l, mcat_r, mcat_u, mcat_x, mK_some, mK_none, va_rf_s, va_rf_n, lgc_eq, lgc_lt, lgc_gt, lgc_ge, lgc_le, mrd_104, mrd_105, mrd_106, mrd_107, true_and, and_true, and_self, false_and, and_false, true_or, or_true, false_or, or_false, not_true_eq_false, not_false_eq_true, mgb, mga, mgr, mN, reduceCtorEq, ↓reduceIte, eq_self, ge_iff_le, gt_iff_lt, s1, p1, hz, hz2]
  refine L1.trans ?_
  congr 1
  have hx : (sc_n n ≤ sc_n n) = True := eq_true (Nat.le_refl _)
  have hy : (a ≤ a) = True := eq_true (Nat.le_refl _)
  rw [s_149_21]
  simp (disch := omega) only [s_149_0, s_149_1, s_149_4, s_149_7, s_149_8, s_149_11, s_149_14, s_149_15, s_149_18, s_149_19, s_149_20, s_149_21, s_149_22, s_149_23, s_149_26, s_149_29, s_149_30, s_149_33, s_149_34, s_149_35, s_149_36, s_149_39, s_149_40, s_149_41, s_149_42, s_149_45, s_149_46, s_149_47, s_149_50, s_149_53, s_149_54, s_149_56, s_149_57, s_149_60, s_149_63, s_149_64, s_149_67, s_149_68, s_149_69, s_149_70, s_149_71, s_149_72, s_149_75, s_149_76, s_149_77, s_149_78, s_149_79, s_149_80, s_149_83, s_149_84, s_149_87, s_149_88, s_149_89, s_149_90, s_149_91, s_149_92, s_149_93, s_149_94, s_149_97, s_149_98, s_149_99, s_149_100, s_149_101, s_149_102, s_149_103, s_149_104, s_149_107, s_149_108, s_149_109, s_149_112, s_149_115, s_149_116, e_149, s_142_0, s_142_1, s_142_2, s_142_5, s_142_6, s_142_7, s_142_10, s_142_11, s_142_12, s_142_13, e_142, mv_i_1, mv_l_1, mv_a_1, mv_a_2, mv_a_3, mk2_n, mk2_i, mk2_l, mk2_a, mk2_u, mk2_x, mB_T, mB_F, mS_cons, mS_nil, mSB_T, mSB_F, mca_nil, mca_i, mca_l, mca_r, mca_u, mca_x, mcat_i, mcat_l, mcat_r, mcat_u, mcat_x, mK_some, mK_none, va_rf_s, va_rf_n, lgc_eq, lgc_lt, lgc_gt, lgc_ge, lgc_le, mrd_104, mrd_105, mrd_106, mrd_107, true_and, and_true, and_self, false_and, and_false, true_or, or_true, false_or, or_false, not_true_eq_false, not_false_eq_true, mgb, mga, mgr, mN, reduceCtorEq, ↓reduceIte, eq_self, ge_iff_le, gt_iff_lt, s1, hn, e2, nn_le, ei, hx]
  refine L2.trans ?_
  congr 1
  rw [s_149_55]
  simp (disch := omega) only [s_149_0, s_149_1, s_149_4, s_149_7, s_149_8, s_149_11, s_149_14, s_149_15, s_149_18, s_149_19, s_149_20, s_149_21, s_149_22, s_149_23, s_149_26, s_149_29, s_149_30, s_149_33, s_149_34, s_149_35, s_149_36, s_149_39, s_149_40, s_149_41, s_149_42, s_149_45, s_149_46, s_149_47, s_149_50, s_149_53, s_149_54, s_149_55, s_149_56, s_149_57, s_149_60, s_149_63, s_149_64, s_149_67, s_149_68, s_149_69, s_149_70, s_149_71, s_149_72, s_149_75, s_149_76, s_149_77, s_149_78, s_149_79, s_149_80, s_149_83, s_149_84, s_149_87, s_149_88, s_149_89, s_149_90, s_149_91, s_149_92, s_149_93, s_149_94, s_149_97, s_149_98, s_149_99, s_149_100, s_149_101, s_149_102, s_149_103, s_149_104, s_149_107, s_149_108, s_149_109, s_149_112, s_149_115, s_149_116, e_149, mv_i_1, mv_l_1, mv_a_1, mv_a_2, mv_a_3, mk2_n, mk2_i, mk2_l, mk2_a, mk2_u, mk2_x, mB_T, mB_F, mS_cons, mS_nil, mSB_T, mSB_F, mca_nil, mca_i, mca_l, mca_r, mca_u, mca_x, mcat_i, mcat_l, mcat_r, mcat_u, mcat_x, mK_some, mK_none, va_rf_s, va_rf_n, lgc_eq, lgc_lt, lgc_gt, lgc_ge, lgc_le, mrd_104, mrd_105, mrd_106, mrd_107, true_and, and_true, and_self, false_and, and_false, true_or, or_true, false_or, or_false, not_true_eq_false, not_false_eq_true, mgb, mga, mgr, mN, reduceCtorEq, ↓reduceIte, eq_self, ge_iff_le, gt_iff_lt, s1, ha, nn_le, hy]
theorem mw_J {d y pc : Nat} {Q : Option Value → mh_H → Prop} {ls : me_L} {st : List Value} {h : mh_H} {a : Nat} {f g : Nat → Int64} (e : ∀ j, f j = g j) : mw d y Q pc ls st (mh_J h a f) = mw d y Q pc ls st (mh_J h a g) := by rw [J_ext e]
theorem so_ne {h : mh_H} {o p : Nat} (hs : so h o) (hp : so h p) (hop : o ≠ p) : (¬ p = o) ∧ (¬ p + 1 = o + 1) ∧ (¬ p + 2 = o + 2) ∧ (¬ p + 1 = o + 2) ∧ (¬ p + 2 = o + 1) ∧ ¬ p = o + 1 ∧ ¬ p = o + 2 ∧ ¬ o = p + 1 ∧ ¬ o = p + 2 := by
  obtain ⟨s1, s2, s3, s4, s5, s6, s7⟩ := hs
  obtain ⟨p1, p2, p3, p4, p5, p6, p7⟩ := hp
  have a1 := s1.1
  have a2 := s3.1
  have a3 := s6.1
  have b1 := p1.1
  have b2 := p3.1
  have b3 := p6.1
  refine ⟨fun z => hop z.symm, fun z => hop (by omega), fun z => hop (by omega), fun z => ?_, fun z => ?_, fun z => ?_, fun z => ?_, fun z => ?_, fun z => ?_⟩
  · rw [z] at p4; omega
  · rw [z] at p7; omega
  · rw [z] at b1; omega
  · rw [z] at b1; omega
  · rw [z] at a1; omega
  · rw [z] at a1; omega
/-- what join makes of two rows of bounds, of two rows of ends -/
def sj_m (f g : Nat → Int64) (k q : Nat) : Int64 := if q < k then (if g q < f q then f q else g q) else f q
def sj_e (f g : Nat → Int64) (k q : Nat) : Int64 := if q < 2 * k then (if q % 2 = 0 then (if g q < f q then g q else f q) else (if g q < f q then f q else g q)) else f q
/-- State.join of two that are something -/
theorem c_151 {d : Nat} {Q : Option Value → mh_H → Prop} {h : mh_H} {o p n a : Nat} (hs : so h o) (hp : so h p) (hop : o ≠ p) (hn : mh_i h o 1 = Int32.ofNat n) (hn2 : n ≤ 12) (ha : mh_i h o 2 = Int32.ofNat a) (ha2 : a ≤ 6) (hz : mh_i h o 0 = 0) (hz2 : mh_i h p 0 = 0) : mcall (d + 2) 151 [.ref o, .ref p] h Q = Q none (mh_J (mh_J h (o + 1) (sj_m (mh_j h (o + 1)) (mh_j h (p + 1)) (sc_n n))) (o + 2) (sj_e (mh_j h (o + 2)) (mh_j h (p + 2)) a)) := by
  obtain ⟨n1, n2, n3, n4, n5, n6, n7, n8, n9⟩ := so_ne hs hp hop
  obtain ⟨s1, s2, s3, s4, s5, s6, s7⟩ := hs
  obtain ⟨p1, p2, p3, p4, p5, p6, p7⟩ := hp
  have hc := sc_n_le hn2
  have ei : ∀ k, Int32.ofNat k + 1 = Int32.ofNat (k + 1) := fun k => nn_add (a := k) (b := 1)
  have e2 : (2 : Int32) * Int32.ofNat n * Int32.ofNat (n + 1) = Int32.ofNat (sc_n n) := by rw [nn_lit, nn_mul, nn_mul]; rfl
  have e3 : ∀ k, (2 : Int32) * Int32.ofNat k = Int32.ofNat (2 * k) := fun k => nn_mul (a := 2) (b := k)
  have m1 : ¬ o + 2 = o + 1 := by omega
  have m2 : ¬ o + 1 = o + 2 := by omega
  have L1 := mw_loop (d := d + 2) (y := 151) (pc := 23) (Q := Q) (st := []) (fun k => [some (.ref o), some (.ref p), some (.int (Int32.ofNat k))]) (fun k => mh_J h (o + 1) (sj_m (mh_j h (o + 1)) (mh_j h (p + 1)) k)) (a := 0) (b := sc_n n) (Nat.zero_le _) (fun k _ hk => by
    have hk2 : ¬ sc_n n ≤ k := by omega
    have v1 : sj_m (mh_j h (o + 1)) (mh_j h (p + 1)) k k = mh_j h (o + 1) k := if_neg (Nat.lt_irrefl k)
    rw [s_151_23]
    simp (disch := omega) only [s_151_0, s_151_1, s_151_4, s_151_7, s_151_8, s_151_9, s_151_12, s_151_15, s_151_16, s_151_17, s_151_20, s_151_21, s_151_22, s_151_24, s_151_25, s_151_28, s_151_31, s_151_32, s_151_35, s_151_36, s_151_37, s_151_40, s_151_41, s_151_42, s_151_43, s_151_46, s_151_47, s_151_48, s_151_51, s_151_52, s_151_55, s_151_58, s_151_59, s_151_60, s_151_61, s_151_62, s_151_65, s_151_68, s_151_69, s_151_72, s_151_73, s_151_74, s_151_75, s_151_76, s_151_79, s_151_80, s_151_81, s_151_82, s_151_83, s_151_84, s_151_87, s_151_88, s_151_89, s_151_90, s_151_91, s_151_94, s_151_95, s_151_96, s_151_99, s_151_100, s_151_101, s_151_102, s_151_103, s_151_104, s_151_105, s_151_108, s_151_109, s_151_110, s_151_111, s_151_112, s_151_113, s_151_114, s_151_115, s_151_118, s_151_119, s_151_120, s_151_121, s_151_122, s_151_123, s_151_124, s_151_127, s_151_128, s_151_131, s_151_134, e_151, s_142_0, s_142_1, s_142_2, s_142_5, s_142_6, s_142_7, s_142_10, s_142_11, s_142_12, s_142_13, e_142, mv_i_1, mv_l_1, mv_a_1, mv_a_2, mv_a_3, mk2_n, mk2_i, mk2_l, mk2_a, mk2_u, mk2_x, mB_T, mB_F, mS_cons, mS_nil, mSB_T, mSB_F, mca_nil, mca_i, mca_l, mca_r, mca_u, mca_x, mcat_i, mcat_l, mcat_r, mcat_u, mcat_x, mK_some, mK_none, va_rf_s, va_rf_n, lgc_eq, lgc_lt, lgc_gt, lgc_ge, lgc_le, mrd_104, mrd_105, mrd_106, mrd_107, true_and, and_true, and_self, false_and, and_false, true_or, or_true, false_or, or_false, not_true_eq_false, not_false_eq_true, mgb, mga, mgr, mN, reduceCtorEq, ↓reduceIte, eq_self, ge_iff_le, gt_iff_lt, hk_J, hl_J, hn_J, hr_J, hi_J, hj_J, mg_J, s1, s2, s3, s4, p1, p2, p3, p4, hn, e2, nn_le, nn_mxT, nn_clamp, ei, hk2, n2, m1, v1, J_sj]
    refine mw_J (fun q => ?_)
    unfold sj_m
    by_cases q1 : q = k
    · subst q1; simp
    · by_cases q2 : q < k
      · simp [q1, q2, show q < k + 1 by omega]
      · simp [q1, q2, show ¬ q < k + 1 by omega])
  have L2 : ∀ X : Nat → Int64, _ := fun X => mw_loop (d := d + 2) (y := 151) (pc := 60) (Q := Q) (st := []) (fun k => [some (.ref o), some (.ref p), some (.int (Int32.ofNat k))]) (fun k => mh_J (mh_J h (o + 1) X) (o + 2) (sj_e (mh_j h (o + 2)) (mh_j h (p + 2)) k)) (a := 0) (b := a) (Nat.zero_le _) (fun k _ hk => by
    have hk2 : ¬ a ≤ k := by omega
    have v1 : sj_e (mh_j h (o + 2)) (mh_j h (p + 2)) k (2 * k) = mh_j h (o + 2) (2 * k) := if_neg (Nat.lt_irrefl _)
    have v2 : sj_e (mh_j h (o + 2)) (mh_j h (p + 2)) k (2 * k + 1) = mh_j h (o + 2) (2 * k + 1) := if_neg (by omega)
    have v3 : ¬ 2 * k + 1 = 2 * k := by omega
    rw [s_151_60]
    simp (disch := omega) only [s_151_0, s_151_1, s_151_4, s_151_7, s_151_8, s_151_9, s_151_12, s_151_15, s_151_16, s_151_17, s_151_20, s_151_21, s_151_22, s_151_23, s_151_24, s_151_25, s_151_28, s_151_31, s_151_32, s_151_35, s_151_36, s_151_37, s_151_40, s_151_41, s_151_42, s_151_43, s_151_46, s_151_47, s_151_48, s_151_51, s_151_52, s_151_55, s_151_58, s_151_59, s_151_61, s_151_62, s_151_65, s_151_68, s_151_69, s_151_72, s_151_73, s_151_74, s_151_75, s_151_76, s_151_79, s_151_80, s_151_81, s_151_82, s_151_83, s_151_84, s_151_87, s_151_88, s_151_89, s_151_90, s_151_91, s_151_94, s_151_95, s_151_96, s_151_99, s_151_100, s_151_101, s_151_102, s_151_103, s_151_104, s_151_105, s_151_108, s_151_109, s_151_110, s_151_111, s_151_112, s_151_113, s_151_114, s_151_115, s_151_118, s_151_119, s_151_120, s_151_121, s_151_122, s_151_123, s_151_124, s_151_127, s_151_128, s_151_131, s_151_134, e_151, mv_i_1, mv_l_1, mv_a_1, mv_a_2, mv_a_3, mk2_n, mk2_i, mk2_l, mk2_a, mk2_u, mk2_x, mB_T, mB_F, mS_cons, mS_nil, mSB_T, mSB_F, mca_nil, mca_i, mca_l, mca_r, mca_u, mca_x, mcat_i, mcat_l, mcat_r, mcat_u, mcat_x, mK_some, mK_none, va_rf_s, va_rf_n, lgc_eq, lgc_lt, lgc_gt, lgc_ge, lgc_le, mrd_104, mrd_105, mrd_106, mrd_107, true_and, and_true, and_self, false_and, and_false, true_or, or_true, false_or, or_false, not_true_eq_false, not_false_eq_true, mgb, mga, mgr, mN, reduceCtorEq, ↓reduceIte, eq_self, ge_iff_le, gt_iff_lt, hk_J, hl_J, hn_J, hr_J, hi_J, hj_J, mg_J, s1, s2, s3, s4, s5, s6, s7, p1, p2, p3, p4, p5, p6, p7, ha, e3, nn_le, nn_mxT, nn_clamp, ei, hk2, n3, n5, m1, m2, v1, v2, v3, J_sj]
    refine mw_J (fun q => ?_)
    unfold sj_e
    by_cases q1 : q = 2 * k
    · subst q1; simp [show ¬ 2 * k = 2 * k + 1 by omega, show 2 * k < 2 * (k + 1) by omega, show 2 * k % 2 = 0 by omega]
    · by_cases q2 : q = 2 * k + 1
      · subst q2; simp [show 2 * k + 1 < 2 * (k + 1) by omega, show (2 * k + 1) % 2 = 1 by omega]
      · by_cases q3 : q < 2 * k
        · simp [q1, q2, q3, show q < 2 * (k + 1) by omega]
        · simp [q1, q2, q3, show ¬ q < 2 * (k + 1) by omega])
  have i1 : mh_J h (o + 1) (sj_m (mh_j h (o + 1)) (mh_j h (p + 1)) 0) = h := (J_ext (fun q => if_neg (Nat.not_lt_zero q))).trans J_id
  have i2 : ∀ X : Nat → Int64, mh_J (mh_J h (o + 1) X) (o + 2) (sj_e (mh_j h (o + 2)) (mh_j h (p + 2)) 0) = mh_J h (o + 1) X := fun X => (J_ext (fun q => by rw [sj_e, if_neg (by omega), hj_J, if_neg m1])).trans J_id
  have hx : (sc_n n ≤ sc_n n) = True := eq_true (Nat.le_refl _)
  have hy : (a ≤ a) = True := eq_true (Nat.le_refl _)
  rw [i1] at L1
  simp only [s_151_0, s_151_1, s_151_4, s_151_7, s_151_8, s_151_9, s_151_12, s_151_15, s_151_16, s_151_17, s_151_20, s_151_21, s_151_22, s_151_24, s_151_25, s_151_28, s_151_31, s_151_32, s_151_35, s_151_36, s_151_37, s_151_40, s_151_41, s_151_42, s_151_43, s_151_46, s_151_47, s_151_48, s_151_51, s_151_52, s_151_55, s_151_58, s_151_59, s_151_60, s_151_61, s_151_62, s_151_65, s_151_68, s_151_69, s_151_72, s_151_73, s_151_74, s_151_75, s_151_76, s_151_79, s_151_80, s_151_81, s_151_82, s_151_83, s_151_84, s_151_87, s_151_88, s_151_89, s_151_90, s_151_91, s_151_94, s_151_95, s_151_96, s_151_99, s_151_100, s_151_101, s_151_102, s_151_103, s_151_104, s_151_105, s_151_108, s_151_109, s_151_110, s_151_111, s_151_112, s_151_113, s_151_114, s_151_115, s_151_118, s_151_119, s_151_120, s_151_121, s_151_122, s_151_123, s_151_124, s_151_127, s_151_128, s_151_131, s_151_134, e_151, mv_i_1, mv_l_1, mv_a_1, mv_a_2, mv_a_3, mk2_n, mk2_i, mk2_l, mk2_a, mk2_u, mk2_x, mB_T, mB_F, mS_cons, mS_nil, mSB_T, mSB_F, mca_nil, mca_i, mca_l, mca_r, mca_u, mca_x, mcat_i, mcat_l, mcat_r, mcat_u, mcat_x, mK_some, mK_none, va_rf_s, va_rf_n, lgc_eq, lgc_lt, lgc_gt, lgc_ge, lgc_le, mrd_104, mrd_105, mrd_106, mrd_107, true_and, and_true, and_self, false_and, and_false, true_or, or_true, false_or, or_false, not_true_eq_false, not_false_eq_true, mgb, mga, mgr, mN, reduceCtorEq, ↓reduceIte, eq_self, ge_iff_le, gt_iff_lt, s1, p1, hz, hz2]
  refine L1.trans ?_
  rw [s_151_23]
  simp (disch := omega) only [s_151_0, s_151_1, s_151_4, s_151_7, s_151_8, s_151_9, s_151_12, s_151_15, s_151_16, s_151_17, s_151_20, s_151_21, s_151_22, s_151_23, s_151_24, s_151_25, s_151_28, s_151_31, s_151_32, s_151_35, s_151_36, s_151_37, s_151_40, s_151_41, s_151_42, s_151_43, s_151_46, s_151_47, s_151_48, s_151_51, s_151_52, s_151_55, s_151_58, s_151_59, s_151_61, s_151_62, s_151_65, s_151_68, s_151_69, s_151_72, s_151_73, s_151_74, s_151_75, s_151_76, s_151_79, s_151_80, s_151_81, s_151_82, s_151_83, s_151_84, s_151_87, s_151_88, s_151_89, s_151_90, s_151_91, s_151_94, s_151_95, s_151_96, s_151_99, s_151_100, s_151_101, s_151_102, s_151_103, s_151_104, s_151_105, s_151_108, s_151_109, s_151_110, s_151_111, s_151_112, s_151_113, s_151_114, s_151_115, s_151_118, s_151_119, s_151_120, s_151_121, s_151_122, s_151_123, s_151_124, s_151_127, s_151_128, s_151_131, s_151_134, e_151, s_142_0, s_142_1, s_142_2, s_142_5, s_142_6, s_142_7, s_142_10, s_142_11, s_142_12, s_142_13, e_142, mv_i_1, mv_l_1, mv_a_1, mv_a_2, mv_a_3, mk2_n, mk2_i, mk2_l, mk2_a, mk2_u, mk2_x, mB_T, mB_F, mS_cons, mS_nil, mSB_T, mSB_F, mca_nil, mca_i, mca_l, mca_r, mca_u, mca_x, mcat_i, mcat_l, mcat_r, mcat_u, mcat_x, mK_some, mK_none, va_rf_s, va_rf_n, lgc_eq, lgc_lt, lgc_gt, lgc_ge, lgc_le, mrd_104, mrd_105, mrd_106, mrd_107, true_and, and_true, and_self, false_and, and_false, true_or, or_true, false_or, or_false, not_true_eq_false, not_false_eq_true, mgb, mga, mgr, mN, reduceCtorEq, ↓reduceIte, eq_self, ge_iff_le, gt_iff_lt, hi_J, mg_J, s1, hn, e2, nn_le, ei, hx]
  have L2' := L2 (sj_m (mh_j h (o + 1)) (mh_j h (p + 1)) (sc_n n))
  rw [i2] at L2'
  refine L2'.trans ?_
  rw [s_151_60]
  simp (disch := omega) only [s_151_0, s_151_1, s_151_4, s_151_7, s_151_8, s_151_9, s_151_12, s_151_15, s_151_16, s_151_17, s_151_20, s_151_21, s_151_22, s_151_23, s_151_24, s_151_25, s_151_28, s_151_31, s_151_32, s_151_35, s_151_36, s_151_37, s_151_40, s_151_41, s_151_42, s_151_43, s_151_46, s_151_47, s_151_48, s_151_51, s_151_52, s_151_55, s_151_58, s_151_59, s_151_60, s_151_61, s_151_62, s_151_65, s_151_68, s_151_69, s_151_72, s_151_73, s_151_74, s_151_75, s_151_76, s_151_79, s_151_80, s_151_81, s_151_82, s_151_83, s_151_84, s_151_87, s_151_88, s_151_89, s_151_90, s_151_91, s_151_94, s_151_95, s_151_96, s_151_99, s_151_100, s_151_101, s_151_102, s_151_103, s_151_104, s_151_105, s_151_108, s_151_109, s_151_110, s_151_111, s_151_112, s_151_113, s_151_114, s_151_115, s_151_118, s_151_119, s_151_120, s_151_121, s_151_122, s_151_123, s_151_124, s_151_127, s_151_128, s_151_131, s_151_134, e_151, mv_i_1, mv_l_1, mv_a_1, mv_a_2, mv_a_3, mk2_n, mk2_i, mk2_l, mk2_a, mk2_u, mk2_x, mB_T, mB_F, mS_cons, mS_nil, mSB_T, mSB_F, mca_nil, mca_i, mca_l, mca_r, mca_u, mca_x, mcat_i, mcat_l, mcat_r, mcat_u, mcat_x, mK_some, mK_none, va_rf_s, va_rf_n, lgc_eq, lgc_lt, lgc_gt, lgc_ge, lgc_le, mrd_104, mrd_105, mrd_106, mrd_107, true_and, and_true, and_self, false_and, and_false, true_or, or_true, false_or, or_false, not_true_eq_false, not_false_eq_true, mgb, mga, mgr, mN, reduceCtorEq, ↓reduceIte, eq_self, ge_iff_le, gt_iff_lt, hi_J, mg_J, s1, ha, nn_le, hy]
/-- State.addArray -/
theorem c_154 {d : Nat} {Q : Option Value → mh_H → Prop} {h : mh_H} {o a : Nat} (hs : so h o) (ha : mh_i h o 2 = Int32.ofNat a) (ha2 : a < 6) : mcall d 154 [.ref o] h Q = Q none (mh_si (mh_J h (o + 2) (fun q => if q = 2 * a + 1 then 0 else if q = 2 * a then 0 else mh_j h (o + 2) q)) o 2 (Int32.ofNat (a + 1))) := by
  obtain ⟨s1, s2, s3, s4, s5, s6, s7⟩ := hs
  have ei : ∀ k, Int32.ofNat k + 1 = Int32.ofNat (k + 1) := fun k => nn_add (a := k) (b := 1)
  have e3 : ∀ k, (2 : Int32) * Int32.ofNat k = Int32.ofNat (2 * k) := fun k => nn_mul (a := 2) (b := k)
  simp (disch := omega) only [s_154_0, s_154_1, s_154_4, s_154_5, s_154_6, s_154_9, s_154_10, s_154_11, s_154_12, s_154_13, s_154_16, s_154_17, s_154_18, s_154_21, s_154_22, s_154_23, s_154_24, s_154_25, s_154_26, s_154_27, s_154_28, s_154_31, s_154_32, s_154_33, s_154_36, e_154, mv_i_1, mv_l_1, mv_a_1, mv_a_2, mv_a_3, mk2_n, mk2_i, mk2_l, mk2_a, mk2_u, mk2_x, mB_T, mB_F, mS_cons, mS_nil, mSB_T, mSB_F, mca_nil, mca_i, mca_l, mca_r, mca_u, mca_x, mcat_i, mcat_l, mcat_r, mcat_u, mcat_x, mK_some, mK_none, va_rf_s, va_rf_n, lgc_eq, lgc_lt, lgc_gt, lgc_ge, lgc_le, mrd_104, mrd_105, mrd_106, mrd_107, true_and, and_true, and_self, false_and, and_false, true_or, or_true, false_or, or_false, not_true_eq_false, not_false_eq_true, mgb, mga, mgr, mN, reduceCtorEq, ↓reduceIte, eq_self, ge_iff_le, gt_iff_lt, hk_J, hl_J, hn_J, hr_J, hi_J, hj_J, mg_J, sj_J, J_J, s1, s5, s6, s7, ha, e3, ei, nn_mxT, nn_clamp]
/-- State.unbind: what stands of the slot's bounds at turn j of the second sign -/
theorem sc_bb (i : Nat) : oc_b (oc_b i) = i := by unfold oc_b; split <;> split <;> omega
theorem sc_rows : ∀ i, i < 24 → ∀ k, k < 24 → i < k → sc_r i + oc_1 i < sc_r k := by decide +kernel
/-- two places of the half that is kept are the same only if they are the same -/
theorem sc_half {i j k l : Nat} (hi : i < 24) (hk : k < 24) (hj : j ≤ oc_1 i) (hl : l ≤ oc_1 k) (e : sc_r i + j = sc_r k + l) : i = k ∧ j = l := by
  rcases Nat.lt_trichotomy i k with z | z | z
  · have := sc_rows i hi k hk z; omega
  · subst z; exact ⟨rfl, by omega⟩
  · have := sc_rows k hk i hi z; omega
theorem oc_1_eq (i : Nat) : oc_1 i = 2 * (i / 2) + 1 := by unfold oc_1; split <;> omega
theorem oc_b_eq (i : Nat) : oc_b i + i = 4 * (i / 2) + 1 := by unfold oc_b; split <;> omega
theorem oc_b_h (i : Nat) : oc_b i / 2 = i / 2 := by unfold oc_b; split <;> omega
theorem sc_up {i j : Nat} (h : oc_1 i < j) : oc_b i ≤ oc_1 (oc_b j) := by
  have a1 := oc_1_eq i
  have a2 := oc_1_eq (oc_b j)
  have a3 := oc_b_eq i
  have a4 := oc_b_h j
  omega
theorem sc_inj {i j k l : Nat} (hi : i < 24) (hj : j < 24) (hk : k < 24) (hl : l < 24) (e : sc i j = sc k l) : (i = k ∧ j = l) ∨ (i = oc_b l ∧ j = oc_b k) := by
  unfold sc at e
  by_cases c1 : oc_1 i < j <;> by_cases c2 : oc_1 k < l
  · rw [if_pos c1, if_pos c2] at e
    obtain ⟨q1, q2⟩ := sc_half (oc_b24 hj) (oc_b24 hl) (sc_up c1) (sc_up c2) e
    left
    have := congrArg oc_b q1
    have := congrArg oc_b q2
    simp only [sc_bb] at *
    exact ⟨by assumption, by assumption⟩
  · rw [if_pos c1, if_neg c2] at e
    obtain ⟨q1, q2⟩ := sc_half (oc_b24 hj) hk (sc_up c1) (by omega) e
    right
    have := congrArg oc_b q1
    have := congrArg oc_b q2
    simp only [sc_bb] at *
    exact ⟨by assumption, by assumption⟩
  · rw [if_neg c1, if_pos c2] at e
    obtain ⟨q1, q2⟩ := sc_half hi (oc_b24 hl) (by omega) (sc_up c2) e
    exact Or.inr ⟨q1, q2⟩
  · rw [if_neg c1, if_neg c2] at e
    obtain ⟨q1, q2⟩ := sc_half hi hk (by omega) (by omega) e
    exact Or.inl ⟨q1, q2⟩
/-- a bound and the same turned round stand at one place, where the slots differ -/
theorem sc_turn {i j : Nat} (hij : i / 2 ≠ j / 2) : sc (oc_b j) (oc_b i) = sc i j := by
  unfold sc
  by_cases c : oc_1 i < j
  · have c' : ¬ oc_1 (oc_b j) < oc_b i := by have := sc_up c; omega
    rw [if_pos c, if_neg c']
  · have c' : oc_1 (oc_b j) < oc_b i := by
      have a1 := oc_1_eq i
      have a2 := oc_1_eq (oc_b j)
      have a3 := oc_b_eq i
      have a4 := oc_b_h j
      omega
    rw [if_neg c, if_pos c', sc_bb, sc_bb]
/-- the pair that a place stands for -/
def sc_i (q : Nat) : Nat := ((List.range 24).filter (fun i => decide (sc_r i ≤ q))).length - 1
def sc_j (q : Nat) : Nat := q - sc_r (sc_i q)
theorem sc_i_all : ∀ i, i < 24 → ∀ j, j < 24 → j ≤ oc_1 i → sc_i (sc_r i + j) = i := by decide +kernel
theorem sc_of {i j : Nat} (hi : i < 24) (hj : j < 24) : (sc_i (sc i j) = i ∧ sc_j (sc i j) = j) ∨ (sc_i (sc i j) = oc_b j ∧ sc_j (sc i j) = oc_b i ∧ oc_1 i < j) := by
  unfold sc
  by_cases c : oc_1 i < j
  · right
    rw [if_pos c]
    have e := sc_i_all (oc_b j) (oc_b24 hj) (oc_b i) (oc_b24 hi) (sc_up c)
    refine ⟨e, ?_, c⟩
    unfold sc_j; rw [e]; omega
  · left
    rw [if_neg c]
    have e := sc_i_all i hi j hj (by omega)
    refine ⟨e, ?_⟩
    unfold sc_j; rw [e]; omega
/-- rows of bounds out of bounds: those of the first n slots -/
def sm_of (n : Nat) (m : Nat → Nat → Int64) (f : Nat → Int64) : Nat → Int64 := fun q => if q < sc_n n then m (sc_i q) (sc_j q) else f q
theorem sc_n_all : ∀ n, n ≤ 12 → ∀ i, i < 24 → ∀ j, j < 24 → i < 2 * n → j < 2 * n → sc i j < sc_n n := by decide +kernel
theorem sc_n_all2 : ∀ n, n ≤ 12 → ∀ i, i < 24 → ∀ j, j < 24 → (2 * n ≤ i ∨ 2 * n ≤ j) → sc_n n ≤ sc i j := by decide +kernel
theorem sm_of_at {n : Nat} {m : Nat → Nat → Int64} {f : Nat → Int64} (hn : n ≤ 12) (hc : ∀ i j, i < 2 * n → j < 2 * n → i / 2 ≠ j / 2 → m i j = m (oc_b j) (oc_b i)) {i j : Nat} (hi : i < 2 * n) (hj : j < 2 * n) : sm_of n m f (sc i j) = m i j := by
  unfold sm_of
  rw [if_pos (sc_n_all n hn i (by omega) j (by omega) hi hj)]
  rcases sc_of (i := i) (j := j) (by omega) (by omega) with ⟨e1, e2⟩ | ⟨e1, e2, e3⟩
  · rw [e1, e2]
  · rw [e1, e2, ← hc i j hi hj]
    unfold oc_1 at e3
    split at e3 <;> omega
