set_option maxRecDepth 100000
theorem c_283 {d : Nat} {Q : Option Value → mh_H → Prop} {h : mh_H} {o x : Nat} (hk : ko h o) (hx : x < 12) : mcall (d + 2) 283 [.ref o, .int (Int32.ofNat x)] h Q = Q (some (.long (-(mh_j h (o + 1) (24 * (2 * x + 1) + (2 * x + 1)) / 2)))) h := by
  have ei : ∀ k, Int32.ofNat k + 1 = Int32.ofNat (k + 1) := fun k => nn_add (a := k) (b := 1)
  have e3 : ∀ k, (2 : Int32) * Int32.ofNat k = Int32.ofNat (2 * k) := fun k => nn_mul (a := 2) (b := k)
  have c2 := fun (Q' : Option Value → mh_H → Prop) => c_282 (d := d) (Q := Q') (h := h) (o := o) (i := 2 * x + 1) (j := 2 * x + 1) hk (by omega) (by omega)
  have e : k_bd (mh_j h (o + 1)) (2 * x + 1) (2 * x + 1) = mh_j h (o + 1) (24 * (2 * x + 1) + (2 * x + 1)) / 2 := by
    unfold k_bd; rw [if_neg (fun z => oc_bn _ z.symm), if_pos rfl]
  simp (disch := omega) only [s_283_0, s_283_1, s_283_2, s_283_3, s_283_4, s_283_5, s_283_6, s_283_7, s_283_8, s_283_9, s_283_10, s_283_11, s_283_14, s_283_15, e_283, mv_i_1, mv_l_1, mv_a_1, mv_a_2, mv_a_3, mk2_n, mk2_i, mk2_l, mk2_a, mk2_u, mk2_x, mB_T, mB_F, mS_cons, mS_nil, mSB_T, mSB_F, mca_nil, mca_i, mca_l, mca_r, mca_u, mca_x, mcat_i, mcat_l, mcat_r, mcat_u, mcat_x, mK_some, mK_none, va_rf_s, va_rf_n, lgc_eq, lgc_lt, lgc_gt, lgc_ge, lgc_le, mrd_104, mrd_105, mrd_106, mrd_107, true_and, and_true, and_self, false_and, and_false, true_or, or_true, false_or, or_false, not_true_eq_false, not_false_eq_true, mgb, mga, mgr, mN, reduceCtorEq, ↓reduceIte, eq_self, ge_iff_le, gt_iff_lt, hk.1, e3, ei, c2, e]
theorem c_284 {d : Nat} {Q : Option Value → mh_H → Prop} {h : mh_H} {o x : Nat} (hk : ko h o) (hx : x < 12) : mcall (d + 2) 284 [.ref o, .int (Int32.ofNat x)] h Q = Q (some (.long (mh_j h (o + 1) (24 * (2 * x) + 2 * x) / 2))) h := by
  have e3 : ∀ k, (2 : Int32) * Int32.ofNat k = Int32.ofNat (2 * k) := fun k => nn_mul (a := 2) (b := k)
  have c2 := fun (Q' : Option Value → mh_H → Prop) => c_282 (d := d) (Q := Q') (h := h) (o := o) (i := 2 * x) (j := 2 * x) hk (by omega) (by omega)
  have e : k_bd (mh_j h (o + 1)) (2 * x) (2 * x) = mh_j h (o + 1) (24 * (2 * x) + 2 * x) / 2 := by
    unfold k_bd; rw [if_neg (fun z => oc_bn _ z.symm), if_pos rfl]
  simp (disch := omega) only [s_284_0, s_284_1, s_284_2, s_284_3, s_284_4, s_284_5, s_284_6, s_284_7, s_284_10, e_284, mv_i_1, mv_l_1, mv_a_1, mv_a_2, mv_a_3, mk2_n, mk2_i, mk2_l, mk2_a, mk2_u, mk2_x, mB_T, mB_F, mS_cons, mS_nil, mSB_T, mSB_F, mca_nil, mca_i, mca_l, mca_r, mca_u, mca_x, mcat_i, mcat_l, mcat_r, mcat_u, mcat_x, mK_some, mK_none, va_rf_s, va_rf_n, lgc_eq, lgc_lt, lgc_gt, lgc_ge, lgc_le, mrd_104, mrd_105, mrd_106, mrd_107, true_and, and_true, and_self, false_and, and_false, true_or, or_true, false_or, or_false, not_true_eq_false, not_false_eq_true, mgb, mga, mgr, mN, reduceCtorEq, ↓reduceIte, eq_self, ge_iff_le, gt_iff_lt, hk.1, e3, c2, e]
theorem c_290 {d : Nat} {Q : Option Value → mh_H → Prop} {h : mh_H} {o : Nat} {x y : Int32} (hs : mg h o 13) : mcall d 290 [.ref o, .int x, .int y] h Q = Q none (mh_si (mh_si h o 1 x) o 2 y) := by
  simp only [s_290_0, s_290_1, s_290_2, s_290_5, s_290_6, s_290_7, s_290_10, e_290, mv_i_1, mv_l_1, mv_a_1, mv_a_2, mv_a_3, mk2_n, mk2_i, mk2_l, mk2_a, mk2_u, mk2_x, mB_T, mB_F, mS_cons, mS_nil, mSB_T, mSB_F, mca_nil, mca_i, mca_l, mca_r, mca_u, mca_x, mcat_i, mcat_l, mcat_r, mcat_u, mcat_x, mK_some, mK_none, va_rf_s, va_rf_n, lgc_eq, lgc_lt, lgc_gt, lgc_ge, lgc_le, mrd_104, mrd_105, mrd_106, mrd_107, true_and, and_true, and_self, false_and, and_false, true_or, or_true, false_or, or_false, not_true_eq_false, not_false_eq_true, mgb, mga, mgr, mN, reduceCtorEq, ↓reduceIte, eq_self, ge_iff_le, gt_iff_lt, hk_si, hk_sj, hk_sr, hl_si, hl_sj, hl_sr, hn_si, hn_sj, hn_sr, hs_si, hs_sj, hs_sr, hi_sj, hi_sr, hj_si, hj_sr, hr_si, hr_sj, hi_si, hj_sj, hr_sr, mg_si, mg_sj, mg_sr, hs]
/-- Known.addArray -/
theorem c_289 {d : Nat} {Q : Option Value → mh_H → Prop} {h : mh_H} {o a : Nat} {x : Int32} (hk : ko h o) (ha : mh_i h o 2 = Int32.ofNat a) (ha2 : a < 6) : mcall d 289 [.ref o, .int x] h Q = Q none (mh_si (mh_si (mh_J (mh_J h (o + 2) (fun q => if q = a then 0 else mh_j h (o + 2) q)) (o + 3) (fun q => if q = a then 0 else mh_j h (o + 3) q)) (o + 4) a x) o 2 (Int32.ofNat (a + 1))) := by
  obtain ⟨s1, s2, s3, s4, s5, s6, s7, s8, s9, s10, s11, s12, s13⟩ := hk
  have ei : ∀ k, Int32.ofNat k + 1 = Int32.ofNat (k + 1) := fun k => nn_add (a := k) (b := 1)
  have m1 : ¬ o + 3 = o + 2 := by omega
  have m2 : ¬ o = o + 4 := by omega
  simp (disch := omega) only [s_289_0, s_289_1, s_289_4, s_289_5, s_289_8, s_289_9, s_289_10, s_289_11, s_289_14, s_289_15, s_289_18, s_289_19, s_289_20, s_289_21, s_289_24, s_289_25, s_289_28, s_289_29, s_289_30, s_289_31, s_289_32, s_289_35, s_289_36, s_289_37, s_289_40, e_289, mv_i_1, mv_l_1, mv_a_1, mv_a_2, mv_a_3, mk2_n, mk2_i, mk2_l, mk2_a, mk2_u, mk2_x, mB_T, mB_F, mS_cons, mS_nil, mSB_T, mSB_F, mca_nil, mca_i, mca_l, mca_r, mca_u, mca_x, mcat_i, mcat_l, mcat_r, mcat_u, mcat_x, mK_some, mK_none, va_rf_s, va_rf_n, lgc_eq, lgc_lt, lgc_gt, lgc_ge, lgc_le, mrd_104, mrd_105, mrd_106, mrd_107, true_and, and_true, and_self, false_and, and_false, true_or, or_true, false_or, or_false, not_true_eq_false, not_false_eq_true, mgb, mga, mgr, mN, reduceCtorEq, ↓reduceIte, eq_self, ge_iff_le, gt_iff_lt, hk_si, hl_si, hn_si, hr_si, hj_si, hi_si, mg_si, hk_J, hl_J, hn_J, hr_J, hi_J, hj_J, mg_J, sj_J, s1, s5, s6, s7, s8, s9, s10, s11, s12, s13, ha, ei, m1, m2, nn_mxT, nn_clamp]
/-- places of the rows below i, and of row i below j, of the first 2n of each -/
def kr (n i j q : Nat) : Bool := decide ((q / 24 < i ∨ q / 24 = i ∧ q % 24 < j) ∧ q % 24 < 2 * n)
theorem kr_next {n i j q : Nat} (hj : j < 2 * n) (hn : n ≤ 12) : kr n i (j + 1) q = (kr n i j q || q == 24 * i + j) := by
  unfold kr
  by_cases c : q = 24 * i + j
  · subst c
    simp only [beq_self_eq_true, Bool.or_true, decide_eq_true_eq]
    omega
  · have : (q == 24 * i + j) = false := by simp [c]
    rw [this, Bool.or_false]
    exact decide_eq_decide.mpr (by omega)
theorem kr_row {n i q : Nat} (hn : n ≤ 12) : kr n i (2 * n) q = kr n (i + 1) 0 q := by
  unfold kr
  exact decide_eq_decide.mpr (by omega)
theorem kr_0 {n q : Nat} : kr n 0 0 q = false := by unfold kr; exact decide_eq_false (by omega)
def lmax (x w : Int64) : Int64 := if w < x then x else w
section KJ
variable {d : Nat} {Q : Option Value → mh_H → Prop} {h : mh_H} {o p n a : Nat}
theorem ko_ne (hs : ko h o) (hp : ko h p) (hop : o ≠ p) : ∀ x y, x ≤ 4 → y ≤ 4 → (x = y ∨ x = 0 ∨ y = 0 ∨ x = 1 ∨ y = 1 ∨ x = 4 ∨ y = 4) → ¬ p + x = o + y := by
  obtain ⟨s1, s2, s3, s4, s5, s6, s7, s8, s9, s10, s11, s12, s13⟩ := hs
  obtain ⟨p1, p2, p3, p4, p5, p6, p7, p8, p9, p10, p11, p12, p13⟩ := hp
  have a0 := s1.1
  have a1 := s3.1
  have a2 := s6.1
  have a3 := s9.1
  have a4 := s12.1
  have b0 := p1.1
  have b1 := p3.1
  have b2 := p6.1
  have b3 := p9.1
  have b4 := p12.1
  intro x y hx hy hxy z
  have x5 : x = 0 ∨ x = 1 ∨ x = 2 ∨ x = 3 ∨ x = 4 := by omega
  have y5 : y = 0 ∨ y = 1 ∨ y = 2 ∨ y = 3 ∨ y = 4 := by omega
  rcases x5 with rfl | rfl | rfl | rfl | rfl <;> rcases y5 with rfl | rfl | rfl | rfl | rfl <;> first
    | omega
    | (have z1 := congrArg (mh_k h) z
       have z2 := congrArg (mh_l h) z
       try simp only [Nat.add_zero] at z1 z2
       omega)
/-- Known.join of two that are something -/
theorem c_293 (hs : ko h o) (hp : ko h p) (hop : o ≠ p) (hn : mh_i h o 1 = Int32.ofNat n) (hn2 : n ≤ 12) (ha : mh_i h o 2 = Int32.ofNat a) (ha2 : a ≤ 6) (hz : mh_i h o 0 = 0) (hz2 : mh_i h p 0 = 0) : mcall (d + 1) 293 [.ref o, .ref p] h Q = Q none (mh_J (mh_J (mh_J h (o + 1) (sw (kr n (2 * n) 0) (fun q => lmax (mh_j h (o + 1) q) (mh_j h (p + 1) q)) (mh_j h (o + 1)))) (o + 2) (fun q => if q < a then lmin (mh_j h (o + 2) q) (mh_j h (p + 2) q) else mh_j h (o + 2) q)) (o + 3) (fun q => if q < a then lmax (mh_j h (o + 3) q) (mh_j h (p + 3) q) else mh_j h (o + 3) q)) := by
  have NE := ko_ne hs hp hop
  have n11 := NE 1 1 (by omega) (by omega) (by omega)
  have n22 := NE 2 2 (by omega) (by omega) (by omega)
  have n33 := NE 3 3 (by omega) (by omega) (by omega)
  have n21 := NE 2 1 (by omega) (by omega) (by omega)
  have n31 := NE 3 1 (by omega) (by omega) (by omega)
  obtain ⟨s1, s2, s3, s4, s5, s6, s7, s8, s9, s10, s11, s12, s13⟩ := hs
  obtain ⟨p1, p2, p3, p4, p5, p6, p7, p8, p9, p10, p11, p12, p13⟩ := hp
  have ei : ∀ k, Int32.ofNat k + 1 = Int32.ofNat (k + 1) := fun k => nn_add (a := k) (b := 1)
  have e3 : ∀ k, (2 : Int32) * Int32.ofNat k = Int32.ofNat (2 * k) := fun k => nn_mul (a := 2) (b := k)
  have e24 : ∀ k, (24 : Int32) * Int32.ofNat k = Int32.ofNat (24 * k) := fun k => nn_mul (a := 24) (b := k)
  have hle : (2 * n ≤ 2 * n) = True := eq_true (Nat.le_refl _)
  have hla : (a ≤ a) = True := eq_true (Nat.le_refl _)
  -- a row
  have L1 : ∀ i, i < 2 * n → mw (d + 1) 293 Q 35 [some (.ref o), some (.ref p), some (.int (Int32.ofNat i)), some (.int (Int32.ofNat 0))] [] (mh_J h (o + 1) (sw (kr n i 0) (fun q => lmax (mh_j h (o + 1) q) (mh_j h (p + 1) q)) (mh_j h (o + 1)))) = mw (d + 1) 293 Q 35 [some (.ref o), some (.ref p), some (.int (Int32.ofNat i)), some (.int (Int32.ofNat (2 * n)))] [] (mh_J h (o + 1) (sw (kr n i (2 * n)) (fun q => lmax (mh_j h (o + 1) q) (mh_j h (p + 1) q)) (mh_j h (o + 1)))) := fun i hi => mw_loop (d := d + 1) (y := 293) (pc := 35) (Q := Q) (st := []) (fun k => [some (.ref o), some (.ref p), some (.int (Int32.ofNat i)), some (.int (Int32.ofNat k))]) (fun k => mh_J h (o + 1) (sw (kr n i k) (fun q => lmax (mh_j h (o + 1) q) (mh_j h (p + 1) q)) (mh_j h (o + 1)))) (a := 0) (b := 2 * n) (Nat.zero_le _) (fun k _ hk => by
    have hk2 : ¬ 2 * n ≤ k := by omega
    have u1 : kr n i k (24 * i + k) = false := by unfold kr; exact decide_eq_false (by omega)
    have v1 := sw_un (f := fun q => lmax (mh_j h (o + 1) q) (mh_j h (p + 1) q)) (g := mh_j h (o + 1)) u1
    rw [s_293_35]
    simp (disch := omega) only [s_293_0, s_293_1, s_293_4, s_293_7, s_293_8, s_293_9, s_293_12, s_293_15, s_293_16, s_293_17, s_293_20, s_293_21, s_293_22, s_293_23, s_293_24, s_293_25, s_293_26, s_293_29, s_293_30, s_293_33, s_293_34, s_293_36, s_293_37, s_293_38, s_293_41, s_293_42, s_293_45, s_293_46, s_293_49, s_293_51, s_293_52, s_293_53, s_293_54, s_293_55, s_293_56, s_293_59, s_293_61, s_293_62, s_293_63, s_293_64, s_293_65, s_293_66, s_293_67, s_293_70, s_293_72, s_293_73, s_293_74, s_293_75, s_293_76, s_293_77, s_293_80, s_293_81, s_293_84, s_293_87, s_293_90, s_293_93, s_293_94, s_293_95, s_293_96, s_293_97, s_293_100, s_293_103, s_293_104, s_293_107, s_293_108, s_293_109, s_293_112, s_293_113, s_293_114, s_293_115, s_293_118, s_293_119, s_293_120, s_293_123, s_293_124, s_293_125, s_293_128, s_293_129, s_293_130, s_293_133, s_293_134, s_293_135, s_293_136, s_293_139, s_293_140, s_293_141, s_293_144, s_293_145, s_293_148, s_293_151, e_293, mv_i_1, mv_l_1, mv_a_1, mv_a_2, mv_a_3, mk2_n, mk2_i, mk2_l, mk2_a, mk2_u, mk2_x, mB_T, mB_F, mS_cons, mS_nil, mSB_T, mSB_F, mca_nil, mca_i, mca_l, mca_r, mca_u, mca_x, mcat_i, mcat_l, mcat_r, mcat_u, mcat_x, mK_some, mK_none, va_rf_s, va_rf_n, lgc_eq, lgc_lt, lgc_gt, lgc_ge, lgc_le, mrd_104, mrd_105, mrd_106, mrd_107, true_and, and_true, and_self, false_and, and_false, true_or, or_true, false_or, or_false, not_true_eq_false, not_false_eq_true, mgb, mga, mgr, mN, reduceCtorEq, ↓reduceIte, eq_self, ge_iff_le, gt_iff_lt, hk_J, hl_J, hn_J, hr_J, hi_J, hj_J, mg_J, s1, s2, s3, s4, p1, p2, p3, p4, hn, n11, e3, e24, ei, nn_add, nn_le, nn_mxT, nn_clamp, hk2, v1, J_sj]
    refine mw_J (fun q => ?_)
    exact sw_put (V := kr n i (k + 1)) (f := fun q => lmax (mh_j h (o + 1) q) (mh_j h (p + 1) q)) rfl (fun q => kr_next hk hn2) q)
  have L2 := mw_loopD (α := Option Value) (d := d + 1) (y := 293) (pc := 23) (Q := Q) (st := []) (fun k x => [some (.ref o), some (.ref p), some (.int (Int32.ofNat k)), x]) (fun k => mh_J h (o + 1) (sw (kr n k 0) (fun q => lmax (mh_j h (o + 1) q) (mh_j h (p + 1) q)) (mh_j h (o + 1)))) (a := 0) (b := 2 * n) (Nat.zero_le _) (fun i x _ hi => by
    refine ⟨some (.int (Int32.ofNat (2 * n))), ?_⟩
    have hi2 : ¬ 2 * n ≤ i := by omega
    have E1 : mw (d + 1) 293 Q 23 [some (.ref o), some (.ref p), some (.int (Int32.ofNat i)), x] [] (mh_J h (o + 1) (sw (kr n i 0) (fun q => lmax (mh_j h (o + 1) q) (mh_j h (p + 1) q)) (mh_j h (o + 1)))) = mw (d + 1) 293 Q 35 [some (.ref o), some (.ref p), some (.int (Int32.ofNat i)), some (.int (Int32.ofNat 0))] [] (mh_J h (o + 1) (sw (kr n i 0) (fun q => lmax (mh_j h (o + 1) q) (mh_j h (p + 1) q)) (mh_j h (o + 1)))) := by
      rw [s_293_23]
      simp (disch := omega) only [s_293_0, s_293_1, s_293_4, s_293_7, s_293_8, s_293_9, s_293_12, s_293_15, s_293_16, s_293_17, s_293_20, s_293_21, s_293_22, s_293_23, s_293_24, s_293_25, s_293_26, s_293_29, s_293_30, s_293_33, s_293_34, s_293_36, s_293_37, s_293_38, s_293_41, s_293_42, s_293_45, s_293_46, s_293_49, s_293_51, s_293_52, s_293_53, s_293_54, s_293_55, s_293_56, s_293_59, s_293_61, s_293_62, s_293_63, s_293_64, s_293_65, s_293_66, s_293_67, s_293_70, s_293_72, s_293_73, s_293_74, s_293_75, s_293_76, s_293_77, s_293_80, s_293_81, s_293_84, s_293_87, s_293_90, s_293_93, s_293_94, s_293_95, s_293_96, s_293_97, s_293_100, s_293_103, s_293_104, s_293_107, s_293_108, s_293_109, s_293_112, s_293_113, s_293_114, s_293_115, s_293_118, s_293_119, s_293_120, s_293_123, s_293_124, s_293_125, s_293_128, s_293_129, s_293_130, s_293_133, s_293_134, s_293_135, s_293_136, s_293_139, s_293_140, s_293_141, s_293_144, s_293_145, s_293_148, s_293_151, e_293, mv_i_1, mv_l_1, mv_a_1, mv_a_2, mv_a_3, mk2_n, mk2_i, mk2_l, mk2_a, mk2_u, mk2_x, mB_T, mB_F, mS_cons, mS_nil, mSB_T, mSB_F, mca_nil, mca_i, mca_l, mca_r, mca_u, mca_x, mcat_i, mcat_l, mcat_r, mcat_u, mcat_x, mK_some, mK_none, va_rf_s, va_rf_n, lgc_eq, lgc_lt, lgc_gt, lgc_ge, lgc_le, mrd_104, mrd_105, mrd_106, mrd_107, true_and, and_true, and_self, false_and, and_false, true_or, or_true, false_or, or_false, not_true_eq_false, not_false_eq_true, mgb, mga, mgr, mN, reduceCtorEq, ↓reduceIte, eq_self, ge_iff_le, gt_iff_lt, hi_J, mg_J, s1, hn, e3, nn_le, hi2]
      rfl
    refine E1.trans ((L1 i hi).trans ?_)
    rw [s_293_35]
    simp (disch := omega) only [s_293_0, s_293_1, s_293_4, s_293_7, s_293_8, s_293_9, s_293_12, s_293_15, s_293_16, s_293_17, s_293_20, s_293_21, s_293_22, s_293_24, s_293_25, s_293_26, s_293_29, s_293_30, s_293_33, s_293_34, s_293_35, s_293_36, s_293_37, s_293_38, s_293_41, s_293_42, s_293_45, s_293_46, s_293_49, s_293_51, s_293_52, s_293_53, s_293_54, s_293_55, s_293_56, s_293_59, s_293_61, s_293_62, s_293_63, s_293_64, s_293_65, s_293_66, s_293_67, s_293_70, s_293_72, s_293_73, s_293_74, s_293_75, s_293_76, s_293_77, s_293_80, s_293_81, s_293_84, s_293_87, s_293_90, s_293_93, s_293_94, s_293_95, s_293_96, s_293_97, s_293_100, s_293_103, s_293_104, s_293_107, s_293_108, s_293_109, s_293_112, s_293_113, s_293_114, s_293_115, s_293_118, s_293_119, s_293_120, s_293_123, s_293_124, s_293_125, s_293_128, s_293_129, s_293_130, s_293_133, s_293_134, s_293_135, s_293_136, s_293_139, s_293_140, s_293_141, s_293_144, s_293_145, s_293_148, s_293_151, e_293, mv_i_1, mv_l_1, mv_a_1, mv_a_2, mv_a_3, mk2_n, mk2_i, mk2_l, mk2_a, mk2_u, mk2_x, mB_T, mB_F, mS_cons, mS_nil, mSB_T, mSB_F, mca_nil, mca_i, mca_l, mca_r, mca_u, mca_x, mcat_i, mcat_l, mcat_r, mcat_u, mcat_x, mK_some, mK_none, va_rf_s, va_rf_n, lgc_eq, lgc_lt, lgc_gt, lgc_ge, lgc_le, mrd_104, mrd_105, mrd_106, mrd_107, true_and, and_true, and_self, false_and, and_false, true_or, or_true, false_or, or_false, not_true_eq_false, not_false_eq_true, mgb, mga, mgr, mN, reduceCtorEq, ↓reduceIte, eq_self, ge_iff_le, gt_iff_lt, hi_J, mg_J, s1, hn, e3, ei, nn_le, hle]
    exact mw_J (fun q => sw_cg (fun q => kr_row hn2) q)) none
  obtain ⟨x', e2⟩ := L2
  have i0 : mh_J h (o + 1) (sw (kr n 0 0) (fun q => lmax (mh_j h (o + 1) q) (mh_j h (p + 1) q)) (mh_j h (o + 1))) = h := (J_ext (fun q => sw_un kr_0)).trans J_id
  rw [i0] at e2
  generalize hX : sw (kr n (2 * n) 0) (fun q => lmax (mh_j h (o + 1) q) (mh_j h (p + 1) q)) (mh_j h (o + 1)) = X at e2 ⊢
  -- the arrays
  have m1 : ¬ o + 2 = o + 1 := by omega
  have m2 : ¬ o + 3 = o + 1 := by omega
  have m3 : ¬ o + 2 = o + 3 := by omega
  have m4 : ¬ o + 3 = o + 2 := by omega
  have n23 : ¬ p + 2 = o + 3 := fun z => by
    have q1 : p = o + 1 := by omega
    rw [q1] at p1
    have := p1.1
    have := s3.1
    omega
  have n32 : ¬ p + 3 = o + 2 := fun z => by
    have q1 : o = p + 1 := by omega
    rw [q1] at s1
    have := s1.1
    have := p3.1
    omega
  have L3 := mw_loop (d := d + 1) (y := 293) (pc := 95) (Q := Q) (st := []) (fun k => [some (.ref o), some (.ref p), some (.int (Int32.ofNat k)), x']) (fun k => mh_J (mh_J (mh_J h (o + 1) X) (o + 2) (fun q => if q < k then lmin (mh_j h (o + 2) q) (mh_j h (p + 2) q) else mh_j h (o + 2) q)) (o + 3) (fun q => if q < k then lmax (mh_j h (o + 3) q) (mh_j h (p + 3) q) else mh_j h (o + 3) q)) (a := 0) (b := a) (Nat.zero_le _) (fun k _ hk => by
    have hk2 : ¬ a ≤ k := by omega
    have kk : ¬ k < k := Nat.lt_irrefl k
    have J3 : ∀ (f g : Nat → Int64) (v : Int64), mh_sj (mh_J (mh_J (mh_J h (o + 1) X) (o + 2) f) (o + 3) g) (o + 2) k v = mh_J (mh_J (mh_J h (o + 1) X) (o + 2) (fun j => if j = k then v else f j)) (o + 3) g := by
      intro f g v
      rw [J_comm m3, J_sj, J_comm m4]
    rw [s_293_95]
    simp (disch := omega) only [s_293_0, s_293_1, s_293_4, s_293_7, s_293_8, s_293_9, s_293_12, s_293_15, s_293_16, s_293_17, s_293_20, s_293_21, s_293_22, s_293_23, s_293_24, s_293_25, s_293_26, s_293_29, s_293_30, s_293_33, s_293_34, s_293_35, s_293_36, s_293_37, s_293_38, s_293_41, s_293_42, s_293_45, s_293_46, s_293_49, s_293_51, s_293_52, s_293_53, s_293_54, s_293_55, s_293_56, s_293_59, s_293_61, s_293_62, s_293_63, s_293_64, s_293_65, s_293_66, s_293_67, s_293_70, s_293_72, s_293_73, s_293_74, s_293_75, s_293_76, s_293_77, s_293_80, s_293_81, s_293_84, s_293_87, s_293_90, s_293_93, s_293_94, s_293_96, s_293_97, s_293_100, s_293_103, s_293_104, s_293_107, s_293_108, s_293_109, s_293_112, s_293_113, s_293_114, s_293_115, s_293_118, s_293_119, s_293_120, s_293_123, s_293_124, s_293_125, s_293_128, s_293_129, s_293_130, s_293_133, s_293_134, s_293_135, s_293_136, s_293_139, s_293_140, s_293_141, s_293_144, s_293_145, s_293_148, s_293_151, e_293, mv_i_1, mv_l_1, mv_a_1, mv_a_2, mv_a_3, mk2_n, mk2_i, mk2_l, mk2_a, mk2_u, mk2_x, mB_T, mB_F, mS_cons, mS_nil, mSB_T, mSB_F, mca_nil, mca_i, mca_l, mca_r, mca_u, mca_x, mcat_i, mcat_l, mcat_r, mcat_u, mcat_x, mK_some, mK_none, va_rf_s, va_rf_n, lgc_eq, lgc_lt, lgc_gt, lgc_ge, lgc_le, mrd_104, mrd_105, mrd_106, mrd_107, true_and, and_true, and_self, false_and, and_false, true_or, or_true, false_or, or_false, not_true_eq_false, not_false_eq_true, mgb, mga, mgr, mN, reduceCtorEq, ↓reduceIte, eq_self, ge_iff_le, gt_iff_lt, hk_J, hl_J, hn_J, hr_J, hi_J, hj_J, mg_J, s1, s5, s6, s7, s8, s9, s10, p1, p5, p6, p7, p8, p9, p10, ha, n22, n33, n21, n31, n23, n32, m1, m2, m3, m4, ei, nn_le, nn_mxT, nn_clamp, hk2, kk, J3, J_sj]
    have stp : ∀ (F G : Nat → Int64), (∀ q, (if q = k then F k else (if q < k then F q else G q)) = if q < k + 1 then F q else G q) := by
      intro F G q
      by_cases c : q = k
      · subst c; rw [if_pos rfl, if_pos (Nat.lt_succ_self _)]
      · rw [if_neg c]
        by_cases c2 : q < k
        · rw [if_pos c2, if_pos (show q < k + 1 by omega)]
        · rw [if_neg c2, if_neg (show ¬ q < k + 1 by omega)]
    have r1 := stp (fun q => lmin (mh_j h (o + 2) q) (mh_j h (p + 2) q)) (mh_j h (o + 2))
    have r2 := stp (fun q => lmax (mh_j h (o + 3) q) (mh_j h (p + 3) q)) (mh_j h (o + 3))
    unfold lmin at r1
    unfold lmax at r2
    unfold lmin lmax
    rw [J_ext r1]
    exact mw_J r2)
  have i3 : mh_J (mh_J (mh_J h (o + 1) X) (o + 2) (fun q => if q < 0 then lmin (mh_j h (o + 2) q) (mh_j h (p + 2) q) else mh_j h (o + 2) q)) (o + 3) (fun q => if q < 0 then lmax (mh_j h (o + 3) q) (mh_j h (p + 3) q) else mh_j h (o + 3) q) = mh_J h (o + 1) X := by
    have e1 : mh_J (mh_J h (o + 1) X) (o + 2) (fun q => if q < 0 then lmin (mh_j h (o + 2) q) (mh_j h (p + 2) q) else mh_j h (o + 2) q) = mh_J h (o + 1) X := (J_ext (fun q => by rw [if_neg (Nat.not_lt_zero q), hj_J, if_neg m1])).trans J_id
    rw [e1]
    exact (J_ext (fun q => by rw [if_neg (Nat.not_lt_zero q), hj_J, if_neg m2])).trans J_id
  rw [i3] at L3
  simp only [s_293_0, s_293_1, s_293_4, s_293_7, s_293_8, s_293_9, s_293_12, s_293_15, s_293_16, s_293_17, s_293_20, s_293_21, s_293_22, s_293_24, s_293_25, s_293_26, s_293_29, s_293_30, s_293_33, s_293_34, s_293_35, s_293_36, s_293_37, s_293_38, s_293_41, s_293_42, s_293_45, s_293_46, s_293_49, s_293_51, s_293_52, s_293_53, s_293_54, s_293_55, s_293_56, s_293_59, s_293_61, s_293_62, s_293_63, s_293_64, s_293_65, s_293_66, s_293_67, s_293_70, s_293_72, s_293_73, s_293_74, s_293_75, s_293_76, s_293_77, s_293_80, s_293_81, s_293_84, s_293_87, s_293_90, s_293_93, s_293_94, s_293_95, s_293_96, s_293_97, s_293_100, s_293_103, s_293_104, s_293_107, s_293_108, s_293_109, s_293_112, s_293_113, s_293_114, s_293_115, s_293_118, s_293_119, s_293_120, s_293_123, s_293_124, s_293_125, s_293_128, s_293_129, s_293_130, s_293_133, s_293_134, s_293_135, s_293_136, s_293_139, s_293_140, s_293_141, s_293_144, s_293_145, s_293_148, s_293_151, e_293, mv_i_1, mv_l_1, mv_a_1, mv_a_2, mv_a_3, mk2_n, mk2_i, mk2_l, mk2_a, mk2_u, mk2_x, mB_T, mB_F, mS_cons, mS_nil, mSB_T, mSB_F, mca_nil, mca_i, mca_l, mca_r, mca_u, mca_x, mcat_i, mcat_l, mcat_r, mcat_u, mcat_x, mK_some, mK_none, va_rf_s, va_rf_n, lgc_eq, lgc_lt, lgc_gt, lgc_ge, lgc_le, mrd_104, mrd_105, mrd_106, mrd_107, true_and, and_true, and_self, false_and, and_false, true_or, or_true, false_or, or_false, not_true_eq_false, not_false_eq_true, mgb, mga, mgr, mN, reduceCtorEq, ↓reduceIte, eq_self, ge_iff_le, gt_iff_lt, s1, p1, hz, hz2]
  refine Eq.trans e2 ?_
  rw [s_293_23]
  simp (disch := omega) only [s_293_0, s_293_1, s_293_4, s_293_7, s_293_8, s_293_9, s_293_12, s_293_15, s_293_16, s_293_17, s_293_20, s_293_21, s_293_22, s_293_23, s_293_24, s_293_25, s_293_26, s_293_29, s_293_30, s_293_33, s_293_34, s_293_35, s_293_36, s_293_37, s_293_38, s_293_41, s_293_42, s_293_45, s_293_46, s_293_49, s_293_51, s_293_52, s_293_53, s_293_54, s_293_55, s_293_56, s_293_59, s_293_61, s_293_62, s_293_63, s_293_64, s_293_65, s_293_66, s_293_67, s_293_70, s_293_72, s_293_73, s_293_74, s_293_75, s_293_76, s_293_77, s_293_80, s_293_81, s_293_84, s_293_87, s_293_90, s_293_93, s_293_94, s_293_96, s_293_97, s_293_100, s_293_103, s_293_104, s_293_107, s_293_108, s_293_109, s_293_112, s_293_113, s_293_114, s_293_115, s_293_118, s_293_119, s_293_120, s_293_123, s_293_124, s_293_125, s_293_128, s_293_129, s_293_130, s_293_133, s_293_134, s_293_135, s_293_136, s_293_139, s_293_140, s_293_141, s_293_144, s_293_145, s_293_148, s_293_151, e_293, mv_i_1, mv_l_1, mv_a_1, mv_a_2, mv_a_3, mk2_n, mk2_i, mk2_l, mk2_a, mk2_u, mk2_x, mB_T, mB_F, mS_cons, mS_nil, mSB_T, mSB_F, mca_nil, mca_i, mca_l, mca_r, mca_u, mca_x, mcat_i, mcat_l, mcat_r, mcat_u, mcat_x, mK_some, mK_none, va_rf_s, va_rf_n, lgc_eq, lgc_lt, lgc_gt, lgc_ge, lgc_le, mrd_104, mrd_105, mrd_106, mrd_107, true_and, and_true, and_self, false_and, and_false, true_or, or_true, false_or, or_false, not_true_eq_false, not_false_eq_true, mgb, mga, mgr, mN, reduceCtorEq, ↓reduceIte, eq_self, ge_iff_le, gt_iff_lt, hi_J, mg_J, s1, hn, e3, nn_le, hle]
  refine Eq.trans L3 ?_
  rw [s_293_95]
  simp (disch := omega) only [s_293_0, s_293_1, s_293_4, s_293_7, s_293_8, s_293_9, s_293_12, s_293_15, s_293_16, s_293_17, s_293_20, s_293_21, s_293_22, s_293_23, s_293_24, s_293_25, s_293_26, s_293_29, s_293_30, s_293_33, s_293_34, s_293_35, s_293_36, s_293_37, s_293_38, s_293_41, s_293_42, s_293_45, s_293_46, s_293_49, s_293_51, s_293_52, s_293_53, s_293_54, s_293_55, s_293_56, s_293_59, s_293_61, s_293_62, s_293_63, s_293_64, s_293_65, s_293_66, s_293_67, s_293_70, s_293_72, s_293_73, s_293_74, s_293_75, s_293_76, s_293_77, s_293_80, s_293_81, s_293_84, s_293_87, s_293_90, s_293_93, s_293_94, s_293_95, s_293_96, s_293_97, s_293_100, s_293_103, s_293_104, s_293_107, s_293_108, s_293_109, s_293_112, s_293_113, s_293_114, s_293_115, s_293_118, s_293_119, s_293_120, s_293_123, s_293_124, s_293_125, s_293_128, s_293_129, s_293_130, s_293_133, s_293_134, s_293_135, s_293_136, s_293_139, s_293_140, s_293_141, s_293_144, s_293_145, s_293_148, s_293_151, e_293, mv_i_1, mv_l_1, mv_a_1, mv_a_2, mv_a_3, mk2_n, mk2_i, mk2_l, mk2_a, mk2_u, mk2_x, mB_T, mB_F, mS_cons, mS_nil, mSB_T, mSB_F, mca_nil, mca_i, mca_l, mca_r, mca_u, mca_x, mcat_i, mcat_l, mcat_r, mcat_u, mcat_x, mK_some, mK_none, va_rf_s, va_rf_n, lgc_eq, lgc_lt, lgc_gt, lgc_ge, lgc_le, mrd_104, mrd_105, mrd_106, mrd_107, true_and, and_true, and_self, false_and, and_false, true_or, or_true, false_or, or_false, not_true_eq_false, not_false_eq_true, mgb, mga, mgr, mN, reduceCtorEq, ↓reduceIte, eq_self, ge_iff_le, gt_iff_lt, hi_J, mg_J, s1, ha, nn_le, hla]
end KJ
/-- whether all places so far are no greater -/
def kl (f g : Nat → Int64) (n i j : Nat) : Bool := (List.range 576).all fun q => !(kr n i j q) || decide (¬ g q < f q)
theorem kl_iff {f g : Nat → Int64} {n i j : Nat} : kl f g n i j = true ↔ ∀ q, q < 576 → kr n i j q = true → ¬ g q < f q := by
  unfold kl
  rw [List.all_eq_true]
  constructor
  · intro h q hq hk
    have := h q (List.mem_range.mpr hq)
    rw [hk] at this
    simpa using this
  · intro h q hq
    have hq := List.mem_range.mp hq
    cases e : kr n i j q with
    | false => rfl
    | true => simpa using h q hq e
theorem kl_next {f g : Nat → Int64} {n i j : Nat} (hi : i < 24) (hj : j < 2 * n) (hn : n ≤ 12) : kl f g n i (j + 1) = (kl f g n i j && decide (¬ g (24 * i + j) < f (24 * i + j))) := by
  rw [Bool.eq_iff_iff, Bool.and_eq_true, kl_iff, kl_iff, decide_eq_true_eq]
  constructor
  · intro h
    refine ⟨fun q hq hk => h q hq (by rw [kr_next hj hn, hk]; rfl), h _ (by omega) (by rw [kr_next hj hn]; simp)⟩
  · rintro ⟨h1, h2⟩ q hq hk
    rw [kr_next hj hn, Bool.or_eq_true] at hk
    rcases hk with hk | hk
    · exact h1 q hq hk
    · rw [beq_iff_eq] at hk; rw [hk]; exact h2
theorem kl_row {f g : Nat → Int64} {n i : Nat} (hn : n ≤ 12) : kl f g n i (2 * n) = kl f g n (i + 1) 0 := by
  unfold kl
  exact congrArg (fun p => (List.range 576).all p) (funext fun q => by rw [kr_row hn])
theorem kl_0 {f g : Nat → Int64} {n : Nat} : kl f g n 0 0 = true := kl_iff.mpr (fun q _ hk => by rw [kr_0] at hk; cases hk)
/-- whether the first k arrays' ends lie within -/
def ke (l1 l2 g1 g2 : Nat → Int64) (k : Nat) : Bool := (List.range k).all fun q => decide (¬ l1 q < l2 q) && decide (¬ g2 q < g1 q)
theorem ke_next {l1 l2 g1 g2 : Nat → Int64} {k : Nat} : ke l1 l2 g1 g2 (k + 1) = (ke l1 l2 g1 g2 k && (decide (¬ l1 k < l2 k) && decide (¬ g2 k < g1 k))) := by unfold ke; rw [List.range_succ, List.all_append]; simp
def kb (b : Bool) : Int32 := if b then 1 else 0
theorem kb_and {a b : Bool} : kb a &&& kb b = kb (a && b) := by cases a <;> cases b <;> decide
section KL
variable {d : Nat} {Q : Option Value → mh_H → Prop} {h : mh_H} {o p n a : Nat}
/-- Known.lies of two that are something -/
theorem c_294 (hs : ko h o) (hp : ko h p) (hn : mh_i h o 1 = Int32.ofNat n) (hn2 : n ≤ 12) (ha : mh_i h o 2 = Int32.ofNat a) (ha2 : a ≤ 6) (hz : mh_i h o 0 = 0) (hz2 : mh_i h p 0 = 0) : mcall (d + 1) 294 [.ref o, .ref p] h Q = Q (some (.int (kb (kl (mh_j h (o + 1)) (mh_j h (p + 1)) n (2 * n) 0 && ke (mh_j h (o + 2)) (mh_j h (p + 2)) (mh_j h (o + 3)) (mh_j h (p + 3)) a)))) h := by
  obtain ⟨s1, s2, s3, s4, s5, s6, s7, s8, s9, s10, s11, s12, s13⟩ := hs
  obtain ⟨p1, p2, p3, p4, p5, p6, p7, p8, p9, p10, p11, p12, p13⟩ := hp
  have ei : ∀ k, Int32.ofNat k + 1 = Int32.ofNat (k + 1) := fun k => nn_add (a := k) (b := 1)
  have e3 : ∀ k, (2 : Int32) * Int32.ofNat k = Int32.ofNat (2 * k) := fun k => nn_mul (a := 2) (b := k)
  have e24 : ∀ k, (24 : Int32) * Int32.ofNat k = Int32.ofNat (24 * k) := fun k => nn_mul (a := 24) (b := k)
  have hle : (2 * n ≤ 2 * n) = True := eq_true (Nat.le_refl _)
  have hla : (a ≤ a) = True := eq_true (Nat.le_refl _)
  have k1 : (1 : Int32) = kb true := rfl
  have k0 : (0 : Int32) = kb false := rfl
  have L1 : ∀ i, i < 2 * n → mw (d + 1) 294 Q 36 [some (.ref o), some (.ref p), some (.int (kb (kl (mh_j h (o + 1)) (mh_j h (p + 1)) n i 0))), some (.int (Int32.ofNat i)), some (.int (Int32.ofNat 0))] [] h = mw (d + 1) 294 Q 36 [some (.ref o), some (.ref p), some (.int (kb (kl (mh_j h (o + 1)) (mh_j h (p + 1)) n i (2 * n)))), some (.int (Int32.ofNat i)), some (.int (Int32.ofNat (2 * n)))] [] h := fun i hi => mw_loop (d := d + 1) (y := 294) (pc := 36) (Q := Q) (st := []) (fun k => [some (.ref o), some (.ref p), some (.int (kb (kl (mh_j h (o + 1)) (mh_j h (p + 1)) n i k))), some (.int (Int32.ofNat i)), some (.int (Int32.ofNat k))]) (fun _ => h) (a := 0) (b := 2 * n) (Nat.zero_le _) (fun k _ hk => by
    have hk2 : ¬ 2 * n ≤ k := by omega
    have kn := kl_next (f := mh_j h (o + 1)) (g := mh_j h (p + 1)) (i := i) (by omega) hk hn2
    by_cases c : mh_j h (p + 1) (24 * i + k) < mh_j h (o + 1) (24 * i + k)
    · have e1 : kb (kl (mh_j h (o + 1)) (mh_j h (p + 1)) n i k) &&& 0 = kb (kl (mh_j h (o + 1)) (mh_j h (p + 1)) n i (k + 1)) := by rw [kn, k0, kb_and]; simp [c]
      rw [s_294_36]
      simp (disch := omega) only [s_294_0, s_294_1, s_294_4, s_294_7, s_294_8, s_294_11, s_294_14, s_294_15, s_294_18, s_294_19, s_294_20, s_294_21, s_294_22, s_294_23, s_294_24, s_294_25, s_294_26, s_294_29, s_294_30, s_294_33, s_294_34, s_294_38, s_294_39, s_294_40, s_294_43, s_294_44, s_294_47, s_294_48, s_294_49, s_294_52, s_294_54, s_294_55, s_294_56, s_294_58, s_294_59, s_294_60, s_294_61, s_294_64, s_294_66, s_294_67, s_294_68, s_294_70, s_294_71, s_294_72, s_294_73, s_294_76, s_294_77, s_294_80, s_294_81, s_294_82, s_294_83, s_294_86, s_294_89, s_294_92, s_294_95, s_294_96, s_294_97, s_294_98, s_294_99, s_294_102, s_294_105, s_294_106, s_294_107, s_294_110, s_294_111, s_294_112, s_294_113, s_294_116, s_294_117, s_294_118, s_294_119, s_294_122, s_294_123, s_294_126, s_294_127, s_294_128, s_294_129, s_294_132, s_294_133, s_294_134, s_294_135, s_294_138, s_294_139, s_294_142, s_294_143, s_294_144, s_294_145, s_294_148, s_294_151, s_294_152, e_294, mv_i_1, mv_l_1, mv_a_1, mv_a_2, mv_a_3, mk2_n, mk2_i, mk2_l, mk2_a, mk2_u, mk2_x, mB_T, mB_F, mS_cons, mS_nil, mSB_T, mSB_F, mca_nil, mca_i, mca_l, mca_r, mca_u, mca_x, mcat_i, mcat_l, mcat_r, mcat_u, mcat_x, mK_some, mK_none, va_rf_s, va_rf_n, lgc_eq, lgc_lt, lgc_gt, lgc_ge, lgc_le, mrd_104, mrd_105, mrd_106, mrd_107, true_and, and_true, and_self, false_and, and_false, true_or, or_true, false_or, or_false, not_true_eq_false, not_false_eq_true, mgb, mga, mgr, mN, reduceCtorEq, ↓reduceIte, eq_self, ge_iff_le, gt_iff_lt, s1, s2, s3, s4, p1, p2, p3, p4, hn, e3, e24, ei, nn_add, nn_le, nn_mxT, nn_clamp, hk2, c, e1]
    · have e1 : kb (kl (mh_j h (o + 1)) (mh_j h (p + 1)) n i k) &&& 1 = kb (kl (mh_j h (o + 1)) (mh_j h (p + 1)) n i (k + 1)) := by rw [kn, k1, kb_and]; simp [c]
      rw [s_294_36]
      simp (disch := omega) only [s_294_0, s_294_1, s_294_4, s_294_7, s_294_8, s_294_11, s_294_14, s_294_15, s_294_18, s_294_19, s_294_20, s_294_21, s_294_22, s_294_23, s_294_24, s_294_25, s_294_26, s_294_29, s_294_30, s_294_33, s_294_34, s_294_38, s_294_39, s_294_40, s_294_43, s_294_44, s_294_47, s_294_48, s_294_49, s_294_52, s_294_54, s_294_55, s_294_56, s_294_58, s_294_59, s_294_60, s_294_61, s_294_64, s_294_66, s_294_67, s_294_68, s_294_70, s_294_71, s_294_72, s_294_73, s_294_76, s_294_77, s_294_80, s_294_81, s_294_82, s_294_83, s_294_86, s_294_89, s_294_92, s_294_95, s_294_96, s_294_97, s_294_98, s_294_99, s_294_102, s_294_105, s_294_106, s_294_107, s_294_110, s_294_111, s_294_112, s_294_113, s_294_116, s_294_117, s_294_118, s_294_119, s_294_122, s_294_123, s_294_126, s_294_127, s_294_128, s_294_129, s_294_132, s_294_133, s_294_134, s_294_135, s_294_138, s_294_139, s_294_142, s_294_143, s_294_144, s_294_145, s_294_148, s_294_151, s_294_152, e_294, mv_i_1, mv_l_1, mv_a_1, mv_a_2, mv_a_3, mk2_n, mk2_i, mk2_l, mk2_a, mk2_u, mk2_x, mB_T, mB_F, mS_cons, mS_nil, mSB_T, mSB_F, mca_nil, mca_i, mca_l, mca_r, mca_u, mca_x, mcat_i, mcat_l, mcat_r, mcat_u, mcat_x, mK_some, mK_none, va_rf_s, va_rf_n, lgc_eq, lgc_lt, lgc_gt, lgc_ge, lgc_le, mrd_104, mrd_105, mrd_106, mrd_107, true_and, and_true, and_self, false_and, and_false, true_or, or_true, false_or, or_false, not_true_eq_false, not_false_eq_true, mgb, mga, mgr, mN, reduceCtorEq, ↓reduceIte, eq_self, ge_iff_le, gt_iff_lt, s1, s2, s3, s4, p1, p2, p3, p4, hn, e3, e24, ei, nn_add, nn_le, nn_mxT, nn_clamp, hk2, c, e1])
  have L2 := mw_loopD (α := Option Value) (d := d + 1) (y := 294) (pc := 23) (Q := Q) (st := []) (fun i x => [some (.ref o), some (.ref p), some (.int (kb (kl (mh_j h (o + 1)) (mh_j h (p + 1)) n i 0))), some (.int (Int32.ofNat i)), x]) (fun _ => h) (a := 0) (b := 2 * n) (Nat.zero_le _) (fun i x _ hi => by
    refine ⟨some (.int (Int32.ofNat (2 * n))), ?_⟩
    have hi2 : ¬ 2 * n ≤ i := by omega
    have E1 : mw (d + 1) 294 Q 23 [some (.ref o), some (.ref p), some (.int (kb (kl (mh_j h (o + 1)) (mh_j h (p + 1)) n i 0))), some (.int (Int32.ofNat i)), x] [] h = mw (d + 1) 294 Q 36 [some (.ref o), some (.ref p), some (.int (kb (kl (mh_j h (o + 1)) (mh_j h (p + 1)) n i 0))), some (.int (Int32.ofNat i)), some (.int (Int32.ofNat 0))] [] h := by
      rw [s_294_23]
      simp (disch := omega) only [s_294_0, s_294_1, s_294_4, s_294_7, s_294_8, s_294_11, s_294_14, s_294_15, s_294_18, s_294_19, s_294_20, s_294_21, s_294_22, s_294_23, s_294_24, s_294_25, s_294_26, s_294_29, s_294_30, s_294_33, s_294_34, s_294_38, s_294_39, s_294_40, s_294_43, s_294_44, s_294_47, s_294_48, s_294_49, s_294_52, s_294_54, s_294_55, s_294_56, s_294_58, s_294_59, s_294_60, s_294_61, s_294_64, s_294_66, s_294_67, s_294_68, s_294_70, s_294_71, s_294_72, s_294_73, s_294_76, s_294_77, s_294_80, s_294_81, s_294_82, s_294_83, s_294_86, s_294_89, s_294_92, s_294_95, s_294_96, s_294_97, s_294_98, s_294_99, s_294_102, s_294_105, s_294_106, s_294_107, s_294_110, s_294_111, s_294_112, s_294_113, s_294_116, s_294_117, s_294_118, s_294_119, s_294_122, s_294_123, s_294_126, s_294_127, s_294_128, s_294_129, s_294_132, s_294_133, s_294_134, s_294_135, s_294_138, s_294_139, s_294_142, s_294_143, s_294_144, s_294_145, s_294_148, s_294_151, s_294_152, e_294, mv_i_1, mv_l_1, mv_a_1, mv_a_2, mv_a_3, mk2_n, mk2_i, mk2_l, mk2_a, mk2_u, mk2_x, mB_T, mB_F, mS_cons, mS_nil, mSB_T, mSB_F, mca_nil, mca_i, mca_l, mca_r, mca_u, mca_x, mcat_i, mcat_l, mcat_r, mcat_u, mcat_x, mK_some, mK_none, va_rf_s, va_rf_n, lgc_eq, lgc_lt, lgc_gt, lgc_ge, lgc_le, mrd_104, mrd_105, mrd_106, mrd_107, true_and, and_true, and_self, false_and, and_false, true_or, or_true, false_or, or_false, not_true_eq_false, not_false_eq_true, mgb, mga, mgr, mN, reduceCtorEq, ↓reduceIte, eq_self, ge_iff_le, gt_iff_lt, s1, hn, e3, nn_le, hi2]
      rfl
    refine E1.trans ((L1 i hi).trans ?_)
    rw [s_294_36, kl_row hn2]
    simp (disch := omega) only [s_294_0, s_294_1, s_294_4, s_294_7, s_294_8, s_294_11, s_294_14, s_294_15, s_294_18, s_294_19, s_294_20, s_294_21, s_294_22, s_294_24, s_294_25, s_294_26, s_294_29, s_294_30, s_294_33, s_294_34, s_294_36, s_294_38, s_294_39, s_294_40, s_294_43, s_294_44, s_294_47, s_294_48, s_294_49, s_294_52, s_294_54, s_294_55, s_294_56, s_294_58, s_294_59, s_294_60, s_294_61, s_294_64, s_294_66, s_294_67, s_294_68, s_294_70, s_294_71, s_294_72, s_294_73, s_294_76, s_294_77, s_294_80, s_294_81, s_294_82, s_294_83, s_294_86, s_294_89, s_294_92, s_294_95, s_294_96, s_294_97, s_294_98, s_294_99, s_294_102, s_294_105, s_294_106, s_294_107, s_294_110, s_294_111, s_294_112, s_294_113, s_294_116, s_294_117, s_294_118, s_294_119, s_294_122, s_294_123, s_294_126, s_294_127, s_294_128, s_294_129, s_294_132, s_294_133, s_294_134, s_294_135, s_294_138, s_294_139, s_294_142, s_294_143, s_294_144, s_294_145, s_294_148, s_294_151, s_294_152, e_294, mv_i_1, mv_l_1, mv_a_1, mv_a_2, mv_a_3, mk2_n, mk2_i, mk2_l, mk2_a, mk2_u, mk2_x, mB_T, mB_F, mS_cons, mS_nil, mSB_T, mSB_F, mca_nil, mca_i, mca_l, mca_r, mca_u, mca_x, mcat_i, mcat_l, mcat_r, mcat_u, mcat_x, mK_some, mK_none, va_rf_s, va_rf_n, lgc_eq, lgc_lt, lgc_gt, lgc_ge, lgc_le, mrd_104, mrd_105, mrd_106, mrd_107, true_and, and_true, and_self, false_and, and_false, true_or, or_true, false_or, or_false, not_true_eq_false, not_false_eq_true, mgb, mga, mgr, mN, reduceCtorEq, ↓reduceIte, eq_self, ge_iff_le, gt_iff_lt, s1, hn, e3, ei, nn_le, hle]) none
  obtain ⟨x', e2⟩ := L2
  rw [kl_0] at e2
  generalize hB : kl (mh_j h (o + 1)) (mh_j h (p + 1)) n (2 * n) 0 = B at e2 ⊢
  have L3 := mw_loop (d := d + 1) (y := 294) (pc := 97) (Q := Q) (st := []) (fun k => [some (.ref o), some (.ref p), some (.int (kb (B && ke (mh_j h (o + 2)) (mh_j h (p + 2)) (mh_j h (o + 3)) (mh_j h (p + 3)) k))), some (.int (Int32.ofNat k)), x']) (fun _ => h) (a := 0) (b := a) (Nat.zero_le _) (fun k _ hk => by
    have hk2 : ¬ a ≤ k := by omega
    have kn := ke_next (l1 := mh_j h (o + 2)) (l2 := mh_j h (p + 2)) (g1 := mh_j h (o + 3)) (g2 := mh_j h (p + 3)) (k := k)
    by_cases c : mh_j h (o + 2) k < mh_j h (p + 2) k
    · have e1 : kb (B && ke (mh_j h (o + 2)) (mh_j h (p + 2)) (mh_j h (o + 3)) (mh_j h (p + 3)) k) &&& 0 = kb (B && ke (mh_j h (o + 2)) (mh_j h (p + 2)) (mh_j h (o + 3)) (mh_j h (p + 3)) (k + 1)) := by rw [kn, k0, kb_and]; simp [c]
      rw [s_294_97]
      simp (disch := omega) only [s_294_0, s_294_1, s_294_4, s_294_7, s_294_8, s_294_11, s_294_14, s_294_15, s_294_18, s_294_19, s_294_20, s_294_21, s_294_22, s_294_23, s_294_24, s_294_25, s_294_26, s_294_29, s_294_30, s_294_33, s_294_34, s_294_36, s_294_38, s_294_39, s_294_40, s_294_43, s_294_44, s_294_47, s_294_48, s_294_49, s_294_52, s_294_54, s_294_55, s_294_56, s_294_58, s_294_59, s_294_60, s_294_61, s_294_64, s_294_66, s_294_67, s_294_68, s_294_70, s_294_71, s_294_72, s_294_73, s_294_76, s_294_77, s_294_80, s_294_81, s_294_82, s_294_83, s_294_86, s_294_89, s_294_92, s_294_95, s_294_96, s_294_98, s_294_99, s_294_102, s_294_105, s_294_106, s_294_107, s_294_110, s_294_111, s_294_112, s_294_113, s_294_116, s_294_117, s_294_118, s_294_119, s_294_122, s_294_123, s_294_126, s_294_127, s_294_128, s_294_129, s_294_132, s_294_133, s_294_134, s_294_135, s_294_138, s_294_139, s_294_142, s_294_143, s_294_144, s_294_145, s_294_148, s_294_151, s_294_152, e_294, mv_i_1, mv_l_1, mv_a_1, mv_a_2, mv_a_3, mk2_n, mk2_i, mk2_l, mk2_a, mk2_u, mk2_x, mB_T, mB_F, mS_cons, mS_nil, mSB_T, mSB_F, mca_nil, mca_i, mca_l, mca_r, mca_u, mca_x, mcat_i, mcat_l, mcat_r, mcat_u, mcat_x, mK_some, mK_none, va_rf_s, va_rf_n, lgc_eq, lgc_lt, lgc_gt, lgc_ge, lgc_le, mrd_104, mrd_105, mrd_106, mrd_107, true_and, and_true, and_self, false_and, and_false, true_or, or_true, false_or, or_false, not_true_eq_false, not_false_eq_true, mgb, mga, mgr, mN, reduceCtorEq, ↓reduceIte, eq_self, ge_iff_le, gt_iff_lt, s1, s5, s6, s7, s8, s9, s10, p1, p5, p6, p7, p8, p9, p10, ha, ei, nn_le, nn_mxT, nn_clamp, hk2, c, e1]
    · by_cases c2 : mh_j h (p + 3) k < mh_j h (o + 3) k
      · have e1 : kb (B && ke (mh_j h (o + 2)) (mh_j h (p + 2)) (mh_j h (o + 3)) (mh_j h (p + 3)) k) &&& 0 = kb (B && ke (mh_j h (o + 2)) (mh_j h (p + 2)) (mh_j h (o + 3)) (mh_j h (p + 3)) (k + 1)) := by rw [kn, k0, kb_and]; simp [c2]
        rw [s_294_97]
        simp (disch := omega) only [s_294_0, s_294_1, s_294_4, s_294_7, s_294_8, s_294_11, s_294_14, s_294_15, s_294_18, s_294_19, s_294_20, s_294_21, s_294_22, s_294_23, s_294_24, s_294_25, s_294_26, s_294_29, s_294_30, s_294_33, s_294_34, s_294_36, s_294_38, s_294_39, s_294_40, s_294_43, s_294_44, s_294_47, s_294_48, s_294_49, s_294_52, s_294_54, s_294_55, s_294_56, s_294_58, s_294_59, s_294_60, s_294_61, s_294_64, s_294_66, s_294_67, s_294_68, s_294_70, s_294_71, s_294_72, s_294_73, s_294_76, s_294_77, s_294_80, s_294_81, s_294_82, s_294_83, s_294_86, s_294_89, s_294_92, s_294_95, s_294_96, s_294_98, s_294_99, s_294_102, s_294_105, s_294_106, s_294_107, s_294_110, s_294_111, s_294_112, s_294_113, s_294_116, s_294_117, s_294_118, s_294_119, s_294_122, s_294_123, s_294_126, s_294_127, s_294_128, s_294_129, s_294_132, s_294_133, s_294_134, s_294_135, s_294_138, s_294_139, s_294_142, s_294_143, s_294_144, s_294_145, s_294_148, s_294_151, s_294_152, e_294, mv_i_1, mv_l_1, mv_a_1, mv_a_2, mv_a_3, mk2_n, mk2_i, mk2_l, mk2_a, mk2_u, mk2_x, mB_T, mB_F, mS_cons, mS_nil, mSB_T, mSB_F, mca_nil, mca_i, mca_l, mca_r, mca_u, mca_x, mcat_i, mcat_l, mcat_r, mcat_u, mcat_x, mK_some, mK_none, va_rf_s, va_rf_n, lgc_eq, lgc_lt, lgc_gt, lgc_ge, lgc_le, mrd_104, mrd_105, mrd_106, mrd_107, true_and, and_true, and_self, false_and, and_false, true_or, or_true, false_or, or_false, not_true_eq_false, not_false_eq_true, mgb, mga, mgr, mN, reduceCtorEq, ↓reduceIte, eq_self, ge_iff_le, gt_iff_lt, s1, s5, s6, s7, s8, s9, s10, p1, p5, p6, p7, p8, p9, p10, ha, ei, nn_le, nn_mxT, nn_clamp, hk2, c, c2, e1]
      · have e1 : kb (B && ke (mh_j h (o + 2)) (mh_j h (p + 2)) (mh_j h (o + 3)) (mh_j h (p + 3)) k) &&& 1 = kb (B && ke (mh_j h (o + 2)) (mh_j h (p + 2)) (mh_j h (o + 3)) (mh_j h (p + 3)) (k + 1)) := by rw [kn, k1, kb_and]; simp [c, c2]
        rw [s_294_97]
        simp (disch := omega) only [s_294_0, s_294_1, s_294_4, s_294_7, s_294_8, s_294_11, s_294_14, s_294_15, s_294_18, s_294_19, s_294_20, s_294_21, s_294_22, s_294_23, s_294_24, s_294_25, s_294_26, s_294_29, s_294_30, s_294_33, s_294_34, s_294_36, s_294_38, s_294_39, s_294_40, s_294_43, s_294_44, s_294_47, s_294_48, s_294_49, s_294_52, s_294_54, s_294_55, s_294_56, s_294_58, s_294_59, s_294_60, s_294_61, s_294_64, s_294_66, s_294_67, s_294_68, s_294_70, s_294_71, s_294_72, s_294_73, s_294_76, s_294_77, s_294_80, s_294_81, s_294_82, s_294_83, s_294_86, s_294_89, s_294_92, s_294_95, s_294_96, s_294_98, s_294_99, s_294_102, s_294_105, s_294_106, s_294_107, s_294_110, s_294_111, s_294_112, s_294_113, s_294_116, s_294_117, s_294_118, s_294_119, s_294_122, s_294_123, s_294_126, s_294_127, s_294_128, s_294_129, s_294_132, s_294_133, s_294_134, s_294_135, s_294_138, s_294_139, s_294_142, s_294_143, s_294_144, s_294_145, s_294_148, s_294_151, s_294_152, e_294, mv_i_1, mv_l_1, mv_a_1, mv_a_2, mv_a_3, mk2_n, mk2_i, mk2_l, mk2_a, mk2_u, mk2_x, mB_T, mB_F, mS_cons, mS_nil, mSB_T, mSB_F, mca_nil, mca_i, mca_l, mca_r, mca_u, mca_x, mcat_i, mcat_l, mcat_r, mcat_u, mcat_x, mK_some, mK_none, va_rf_s, va_rf_n, lgc_eq, lgc_lt, lgc_gt, lgc_ge, lgc_le, mrd_104, mrd_105, mrd_106, mrd_107, true_and, and_true, and_self, false_and, and_false, true_or, or_true, false_or, or_false, not_true_eq_false, not_false_eq_true, mgb, mga, mgr, mN, reduceCtorEq, ↓reduceIte, eq_self, ge_iff_le, gt_iff_lt, s1, s5, s6, s7, s8, s9, s10, p1, p5, p6, p7, p8, p9, p10, ha, ei, nn_le, nn_mxT, nn_clamp, hk2, c, c2, e1])
  have i3 : (B && ke (mh_j h (o + 2)) (mh_j h (p + 2)) (mh_j h (o + 3)) (mh_j h (p + 3)) 0) = B := by unfold ke; simp
  rw [i3] at L3
  have fin : ∀ b : Bool, (kb b = 0 ∨ kb b = 1) = True := fun b => eq_true (by cases b; exact Or.inl rfl; exact Or.inr rfl)
  simp only [s_294_0, s_294_1, s_294_4, s_294_7, s_294_8, s_294_11, s_294_14, s_294_15, s_294_18, s_294_19, s_294_20, s_294_21, s_294_22, s_294_24, s_294_25, s_294_26, s_294_29, s_294_30, s_294_33, s_294_34, s_294_36, s_294_38, s_294_39, s_294_40, s_294_43, s_294_44, s_294_47, s_294_48, s_294_49, s_294_52, s_294_54, s_294_55, s_294_56, s_294_58, s_294_59, s_294_60, s_294_61, s_294_64, s_294_66, s_294_67, s_294_68, s_294_70, s_294_71, s_294_72, s_294_73, s_294_76, s_294_77, s_294_80, s_294_81, s_294_82, s_294_83, s_294_86, s_294_89, s_294_92, s_294_95, s_294_96, s_294_97, s_294_98, s_294_99, s_294_102, s_294_105, s_294_106, s_294_107, s_294_110, s_294_111, s_294_112, s_294_113, s_294_116, s_294_117, s_294_118, s_294_119, s_294_122, s_294_123, s_294_126, s_294_127, s_294_128, s_294_129, s_294_132, s_294_133, s_294_134, s_294_135, s_294_138, s_294_139, s_294_142, s_294_143, s_294_144, s_294_145, s_294_148, s_294_151, s_294_152, e_294, mv_i_1, mv_l_1, mv_a_1, mv_a_2, mv_a_3, mk2_n, mk2_i, mk2_l, mk2_a, mk2_u, mk2_x, mB_T, mB_F, mS_cons, mS_nil, mSB_T, mSB_F, mca_nil, mca_i, mca_l, mca_r, mca_u, mca_x, mcat_i, mcat_l, mcat_r, mcat_u, mcat_x, mK_some, mK_none, va_rf_s, va_rf_n, lgc_eq, lgc_lt, lgc_gt, lgc_ge, lgc_le, mrd_104, mrd_105, mrd_106, mrd_107, true_and, and_true, and_self, false_and, and_false, true_or, or_true, false_or, or_false, not_true_eq_false, not_false_eq_true, mgb, mga, mgr, mN, reduceCtorEq, ↓reduceIte, eq_self, ge_iff_le, gt_iff_lt, s1, p1, hz, hz2]
  refine Eq.trans e2 ?_
  rw [s_294_23]
  simp (disch := omega) only [s_294_0, s_294_1, s_294_4, s_294_7, s_294_8, s_294_11, s_294_14, s_294_15, s_294_18, s_294_19, s_294_20, s_294_21, s_294_22, s_294_23, s_294_24, s_294_25, s_294_26, s_294_29, s_294_30, s_294_33, s_294_34, s_294_36, s_294_38, s_294_39, s_294_40, s_294_43, s_294_44, s_294_47, s_294_48, s_294_49, s_294_52, s_294_54, s_294_55, s_294_56, s_294_58, s_294_59, s_294_60, s_294_61, s_294_64, s_294_66, s_294_67, s_294_68, s_294_70, s_294_71, s_294_72, s_294_73, s_294_76, s_294_77, s_294_80, s_294_81, s_294_82, s_294_83, s_294_86, s_294_89, s_294_92, s_294_95, s_294_96, s_294_98, s_294_99, s_294_102, s_294_105, s_294_106, s_294_107, s_294_110, s_294_111, s_294_112, s_294_113, s_294_116, s_294_117, s_294_118, s_294_119, s_294_122, s_294_123, s_294_126, s_294_127, s_294_128, s_294_129, s_294_132, s_294_133, s_294_134, s_294_135, s_294_138, s_294_139, s_294_142, s_294_143, s_294_144, s_294_145, s_294_148, s_294_151, s_294_152, e_294, mv_i_1, mv_l_1, mv_a_1, mv_a_2, mv_a_3, mk2_n, mk2_i, mk2_l, mk2_a, mk2_u, mk2_x, mB_T, mB_F, mS_cons, mS_nil, mSB_T, mSB_F, mca_nil, mca_i, mca_l, mca_r, mca_u, mca_x, mcat_i, mcat_l, mcat_r, mcat_u, mcat_x, mK_some, mK_none, va_rf_s, va_rf_n, lgc_eq, lgc_lt, lgc_gt, lgc_ge, lgc_le, mrd_104, mrd_105, mrd_106, mrd_107, true_and, and_true, and_self, false_and, and_false, true_or, or_true, false_or, or_false, not_true_eq_false, not_false_eq_true, mgb, mga, mgr, mN, reduceCtorEq, ↓reduceIte, eq_self, ge_iff_le, gt_iff_lt, s1, hn, e3, nn_le, hle]
  refine Eq.trans L3 ?_
  rw [s_294_97]
  simp (disch := omega) only [s_294_0, s_294_1, s_294_4, s_294_7, s_294_8, s_294_11, s_294_14, s_294_15, s_294_18, s_294_19, s_294_20, s_294_21, s_294_22, s_294_23, s_294_24, s_294_25, s_294_26, s_294_29, s_294_30, s_294_33, s_294_34, s_294_36, s_294_38, s_294_39, s_294_40, s_294_43, s_294_44, s_294_47, s_294_48, s_294_49, s_294_52, s_294_54, s_294_55, s_294_56, s_294_58, s_294_59, s_294_60, s_294_61, s_294_64, s_294_66, s_294_67, s_294_68, s_294_70, s_294_71, s_294_72, s_294_73, s_294_76, s_294_77, s_294_80, s_294_81, s_294_82, s_294_83, s_294_86, s_294_89, s_294_92, s_294_95, s_294_96, s_294_97, s_294_98, s_294_99, s_294_102, s_294_105, s_294_106, s_294_107, s_294_110, s_294_111, s_294_112, s_294_113, s_294_116, s_294_117, s_294_118, s_294_119, s_294_122, s_294_123, s_294_126, s_294_127, s_294_128, s_294_129, s_294_132, s_294_133, s_294_134, s_294_135, s_294_138, s_294_139, s_294_142, s_294_143, s_294_144, s_294_145, s_294_148, s_294_151, s_294_152, e_294, mv_i_1, mv_l_1, mv_a_1, mv_a_2, mv_a_3, mk2_n, mk2_i, mk2_l, mk2_a, mk2_u, mk2_x, mB_T, mB_F, mS_cons, mS_nil, mSB_T, mSB_F, mca_nil, mca_i, mca_l, mca_r, mca_u, mca_x, mcat_i, mcat_l, mcat_r, mcat_u, mcat_x, mK_some, mK_none, va_rf_s, va_rf_n, lgc_eq, lgc_lt, lgc_gt, lgc_ge, lgc_le, mrd_104, mrd_105, mrd_106, mrd_107, true_and, and_true, and_self, false_and, and_false, true_or, or_true, false_or, or_false, not_true_eq_false, not_false_eq_true, mgb, mga, mgr, mN, reduceCtorEq, ↓reduceIte, eq_self, ge_iff_le, gt_iff_lt, s1, ha, nn_le, hla, fin]
end KL
section KW
variable {d : Nat} {Q : Option Value → mh_H → Prop} {h : mh_H} {o p n a : Nat}
def kw_f (f g : Nat → Int64) (q : Nat) : Int64 := if f q < g q then k_far (q / 24) (q % 24) else f q
def kw_l (f g : Nat → Int64) (k q : Nat) : Int64 := if q < k then (if g q < f q then -2147483648 else f q) else f q
def kw_g (f g : Nat → Int64) (k q : Nat) : Int64 := if q < k then (if f q < g q then 2147483647 else f q) else f q
/-- Known.widen -/
theorem c_295 (hs : ko h o) (hp : ko h p) (hop : o ≠ p) (hn : mh_i h o 1 = Int32.ofNat n) (hn2 : n ≤ 12) (ha : mh_i h o 2 = Int32.ofNat a) (ha2 : a ≤ 6) : mcall (d + 2) 295 [.ref o, .ref p] h Q = Q none (mh_J (mh_J (mh_J h (o + 1) (sw (kr n (2 * n) 0) (kw_f (mh_j h (o + 1)) (mh_j h (p + 1))) (mh_j h (o + 1)))) (o + 2) (kw_l (mh_j h (o + 2)) (mh_j h (p + 2)) a)) (o + 3) (kw_g (mh_j h (o + 3)) (mh_j h (p + 3)) a)) := by
  have NE := ko_ne hs hp hop
  have n11 := NE 1 1 (by omega) (by omega) (by omega)
  have n22 := NE 2 2 (by omega) (by omega) (by omega)
  have n33 := NE 3 3 (by omega) (by omega) (by omega)
  have n21 := NE 2 1 (by omega) (by omega) (by omega)
  have n31 := NE 3 1 (by omega) (by omega) (by omega)
  obtain ⟨s1, s2, s3, s4, s5, s6, s7, s8, s9, s10, s11, s12, s13⟩ := hs
  obtain ⟨p1, p2, p3, p4, p5, p6, p7, p8, p9, p10, p11, p12, p13⟩ := hp
  have ei : ∀ k, Int32.ofNat k + 1 = Int32.ofNat (k + 1) := fun k => nn_add (a := k) (b := 1)
  have e3 : ∀ k, (2 : Int32) * Int32.ofNat k = Int32.ofNat (2 * k) := fun k => nn_mul (a := 2) (b := k)
  have e24 : ∀ k, (24 : Int32) * Int32.ofNat k = Int32.ofNat (24 * k) := fun k => nn_mul (a := 24) (b := k)
  have hle : (2 * n ≤ 2 * n) = True := eq_true (Nat.le_refl _)
  have hla : (a ≤ a) = True := eq_true (Nat.le_refl _)
  have L1 : ∀ i, i < 2 * n → mw (d + 2) 295 Q 14 [some (.ref o), some (.ref p), some (.int (Int32.ofNat i)), some (.int (Int32.ofNat 0))] [] (mh_J h (o + 1) (sw (kr n i 0) (kw_f (mh_j h (o + 1)) (mh_j h (p + 1))) (mh_j h (o + 1)))) = mw (d + 2) 295 Q 14 [some (.ref o), some (.ref p), some (.int (Int32.ofNat i)), some (.int (Int32.ofNat (2 * n)))] [] (mh_J h (o + 1) (sw (kr n i (2 * n)) (kw_f (mh_j h (o + 1)) (mh_j h (p + 1))) (mh_j h (o + 1)))) := fun i hi => mw_loop (d := d + 2) (y := 295) (pc := 14) (Q := Q) (st := []) (fun k => [some (.ref o), some (.ref p), some (.int (Int32.ofNat i)), some (.int (Int32.ofNat k))]) (fun k => mh_J h (o + 1) (sw (kr n i k) (kw_f (mh_j h (o + 1)) (mh_j h (p + 1))) (mh_j h (o + 1)))) (a := 0) (b := 2 * n) (Nat.zero_le _) (fun k _ hk => by
    have hk2 : ¬ 2 * n ≤ k := by omega
    have u1 : kr n i k (24 * i + k) = false := by unfold kr; exact decide_eq_false (by omega)
    have v1 := sw_un (f := kw_f (mh_j h (o + 1)) (mh_j h (p + 1))) (g := mh_j h (o + 1)) u1
    have q1 : (24 * i + k) / 24 = i := by omega
    have q2 : (24 * i + k) % 24 = k := by omega
    by_cases c : mh_j h (o + 1) (24 * i + k) < mh_j h (p + 1) (24 * i + k)
    · have f1 : k_far i k = kw_f (mh_j h (o + 1)) (mh_j h (p + 1)) (24 * i + k) := by unfold kw_f; rw [if_pos c, q1, q2]
      rw [s_295_14]
      simp (disch := omega) only [s_295_0, s_295_1, s_295_2, s_295_3, s_295_4, s_295_5, s_295_8, s_295_9, s_295_12, s_295_13, s_295_15, s_295_16, s_295_17, s_295_20, s_295_21, s_295_24, s_295_25, s_295_28, s_295_30, s_295_31, s_295_32, s_295_33, s_295_34, s_295_35, s_295_38, s_295_40, s_295_41, s_295_42, s_295_43, s_295_44, s_295_45, s_295_46, s_295_49, s_295_51, s_295_52, s_295_53, s_295_54, s_295_55, s_295_56, s_295_57, s_295_60, s_295_61, s_295_62, s_295_65, s_295_68, s_295_69, s_295_72, s_295_74, s_295_75, s_295_76, s_295_77, s_295_78, s_295_79, s_295_80, s_295_83, s_295_86, s_295_89, s_295_92, s_295_93, s_295_94, s_295_95, s_295_96, s_295_99, s_295_102, s_295_103, s_295_106, s_295_107, s_295_108, s_295_111, s_295_112, s_295_113, s_295_114, s_295_117, s_295_118, s_295_119, s_295_120, s_295_123, s_295_126, s_295_129, s_295_130, s_295_133, s_295_134, s_295_135, s_295_136, s_295_137, s_295_140, s_295_141, s_295_142, s_295_145, s_295_146, s_295_147, s_295_148, s_295_151, s_295_152, s_295_153, s_295_154, s_295_157, s_295_160, s_295_163, s_295_164, s_295_167, s_295_168, s_295_169, s_295_170, s_295_173, s_295_176, e_295, mv_i_1, mv_l_1, mv_a_1, mv_a_2, mv_a_3, mk2_n, mk2_i, mk2_l, mk2_a, mk2_u, mk2_x, mB_T, mB_F, mS_cons, mS_nil, mSB_T, mSB_F, mca_nil, mca_i, mca_l, mca_r, mca_u, mca_x, mcat_i, mcat_l, mcat_r, mcat_u, mcat_x, mK_some, mK_none, va_rf_s, va_rf_n, lgc_eq, lgc_lt, lgc_gt, lgc_ge, lgc_le, mrd_104, mrd_105, mrd_106, mrd_107, true_and, and_true, and_self, false_and, and_false, true_or, or_true, false_or, or_false, not_true_eq_false, not_false_eq_true, mgb, mga, mgr, mN, reduceCtorEq, ↓reduceIte, eq_self, ge_iff_le, gt_iff_lt, hk_J, hl_J, hn_J, hr_J, hi_J, hj_J, mg_J, s1, s2, s3, s4, p1, p2, p3, p4, hn, n11, e3, e24, ei, c_279, nn_add, nn_le, nn_mxT, nn_clamp, hk2, v1, le_nlt64, mB_not, c, J_sj]
      exact mw_J (fun q => sw_put (V := kr n i (k + 1)) f1 (fun q => kr_next hk hn2) q)
    · have f1 : mh_j h (o + 1) (24 * i + k) = kw_f (mh_j h (o + 1)) (mh_j h (p + 1)) (24 * i + k) := by unfold kw_f; rw [if_neg c]
      rw [s_295_14]
      simp (disch := omega) only [s_295_0, s_295_1, s_295_2, s_295_3, s_295_4, s_295_5, s_295_8, s_295_9, s_295_12, s_295_13, s_295_15, s_295_16, s_295_17, s_295_20, s_295_21, s_295_24, s_295_25, s_295_28, s_295_30, s_295_31, s_295_32, s_295_33, s_295_34, s_295_35, s_295_38, s_295_40, s_295_41, s_295_42, s_295_43, s_295_44, s_295_45, s_295_46, s_295_49, s_295_51, s_295_52, s_295_53, s_295_54, s_295_55, s_295_56, s_295_57, s_295_60, s_295_61, s_295_62, s_295_65, s_295_68, s_295_69, s_295_72, s_295_74, s_295_75, s_295_76, s_295_77, s_295_78, s_295_79, s_295_80, s_295_83, s_295_86, s_295_89, s_295_92, s_295_93, s_295_94, s_295_95, s_295_96, s_295_99, s_295_102, s_295_103, s_295_106, s_295_107, s_295_108, s_295_111, s_295_112, s_295_113, s_295_114, s_295_117, s_295_118, s_295_119, s_295_120, s_295_123, s_295_126, s_295_129, s_295_130, s_295_133, s_295_134, s_295_135, s_295_136, s_295_137, s_295_140, s_295_141, s_295_142, s_295_145, s_295_146, s_295_147, s_295_148, s_295_151, s_295_152, s_295_153, s_295_154, s_295_157, s_295_160, s_295_163, s_295_164, s_295_167, s_295_168, s_295_169, s_295_170, s_295_173, s_295_176, e_295, mv_i_1, mv_l_1, mv_a_1, mv_a_2, mv_a_3, mk2_n, mk2_i, mk2_l, mk2_a, mk2_u, mk2_x, mB_T, mB_F, mS_cons, mS_nil, mSB_T, mSB_F, mca_nil, mca_i, mca_l, mca_r, mca_u, mca_x, mcat_i, mcat_l, mcat_r, mcat_u, mcat_x, mK_some, mK_none, va_rf_s, va_rf_n, lgc_eq, lgc_lt, lgc_gt, lgc_ge, lgc_le, mrd_104, mrd_105, mrd_106, mrd_107, true_and, and_true, and_self, false_and, and_false, true_or, or_true, false_or, or_false, not_true_eq_false, not_false_eq_true, mgb, mga, mgr, mN, reduceCtorEq, ↓reduceIte, eq_self, ge_iff_le, gt_iff_lt, hk_J, hl_J, hn_J, hr_J, hi_J, hj_J, mg_J, s1, s2, s3, s4, p1, p2, p3, p4, hn, n11, e3, e24, ei, nn_add, nn_le, nn_mxT, nn_clamp, hk2, v1, le_nlt64, mB_not, c, J_sj]
      exact mw_J (fun q => sw_put (V := kr n i (k + 1)) f1 (fun q => kr_next hk hn2) q))
  have L2 := mw_loopD (α := Option Value) (d := d + 2) (y := 295) (pc := 2) (Q := Q) (st := []) (fun k x => [some (.ref o), some (.ref p), some (.int (Int32.ofNat k)), x]) (fun k => mh_J h (o + 1) (sw (kr n k 0) (kw_f (mh_j h (o + 1)) (mh_j h (p + 1))) (mh_j h (o + 1)))) (a := 0) (b := 2 * n) (Nat.zero_le _) (fun i x _ hi => by
    refine ⟨some (.int (Int32.ofNat (2 * n))), ?_⟩
    have hi2 : ¬ 2 * n ≤ i := by omega
    have E1 : mw (d + 2) 295 Q 2 [some (.ref o), some (.ref p), some (.int (Int32.ofNat i)), x] [] (mh_J h (o + 1) (sw (kr n i 0) (kw_f (mh_j h (o + 1)) (mh_j h (p + 1))) (mh_j h (o + 1)))) = mw (d + 2) 295 Q 14 [some (.ref o), some (.ref p), some (.int (Int32.ofNat i)), some (.int (Int32.ofNat 0))] [] (mh_J h (o + 1) (sw (kr n i 0) (kw_f (mh_j h (o + 1)) (mh_j h (p + 1))) (mh_j h (o + 1)))) := by
      rw [s_295_2]
      simp (disch := omega) only [s_295_0, s_295_1, s_295_2, s_295_3, s_295_4, s_295_5, s_295_8, s_295_9, s_295_12, s_295_13, s_295_15, s_295_16, s_295_17, s_295_20, s_295_21, s_295_24, s_295_25, s_295_28, s_295_30, s_295_31, s_295_32, s_295_33, s_295_34, s_295_35, s_295_38, s_295_40, s_295_41, s_295_42, s_295_43, s_295_44, s_295_45, s_295_46, s_295_49, s_295_51, s_295_52, s_295_53, s_295_54, s_295_55, s_295_56, s_295_57, s_295_60, s_295_61, s_295_62, s_295_65, s_295_68, s_295_69, s_295_72, s_295_74, s_295_75, s_295_76, s_295_77, s_295_78, s_295_79, s_295_80, s_295_83, s_295_86, s_295_89, s_295_92, s_295_93, s_295_94, s_295_95, s_295_96, s_295_99, s_295_102, s_295_103, s_295_106, s_295_107, s_295_108, s_295_111, s_295_112, s_295_113, s_295_114, s_295_117, s_295_118, s_295_119, s_295_120, s_295_123, s_295_126, s_295_129, s_295_130, s_295_133, s_295_134, s_295_135, s_295_136, s_295_137, s_295_140, s_295_141, s_295_142, s_295_145, s_295_146, s_295_147, s_295_148, s_295_151, s_295_152, s_295_153, s_295_154, s_295_157, s_295_160, s_295_163, s_295_164, s_295_167, s_295_168, s_295_169, s_295_170, s_295_173, s_295_176, e_295, mv_i_1, mv_l_1, mv_a_1, mv_a_2, mv_a_3, mk2_n, mk2_i, mk2_l, mk2_a, mk2_u, mk2_x, mB_T, mB_F, mS_cons, mS_nil, mSB_T, mSB_F, mca_nil, mca_i, mca_l, mca_r, mca_u, mca_x, mcat_i, mcat_l, mcat_r, mcat_u, mcat_x, mK_some, mK_none, va_rf_s, va_rf_n, lgc_eq, lgc_lt, lgc_gt, lgc_ge, lgc_le, mrd_104, mrd_105, mrd_106, mrd_107, true_and, and_true, and_self, false_and, and_false, true_or, or_true, false_or, or_false, not_true_eq_false, not_false_eq_true, mgb, mga, mgr, mN, reduceCtorEq, ↓reduceIte, eq_self, ge_iff_le, gt_iff_lt, hi_J, mg_J, s1, hn, e3, nn_le, hi2]
      rfl
    refine E1.trans ((L1 i hi).trans ?_)
    rw [s_295_14]
    simp (disch := omega) only [s_295_0, s_295_1, s_295_3, s_295_4, s_295_5, s_295_8, s_295_9, s_295_12, s_295_13, s_295_14, s_295_15, s_295_16, s_295_17, s_295_20, s_295_21, s_295_24, s_295_25, s_295_28, s_295_30, s_295_31, s_295_32, s_295_33, s_295_34, s_295_35, s_295_38, s_295_40, s_295_41, s_295_42, s_295_43, s_295_44, s_295_45, s_295_46, s_295_49, s_295_51, s_295_52, s_295_53, s_295_54, s_295_55, s_295_56, s_295_57, s_295_60, s_295_61, s_295_62, s_295_65, s_295_68, s_295_69, s_295_72, s_295_74, s_295_75, s_295_76, s_295_77, s_295_78, s_295_79, s_295_80, s_295_83, s_295_86, s_295_89, s_295_92, s_295_93, s_295_94, s_295_95, s_295_96, s_295_99, s_295_102, s_295_103, s_295_106, s_295_107, s_295_108, s_295_111, s_295_112, s_295_113, s_295_114, s_295_117, s_295_118, s_295_119, s_295_120, s_295_123, s_295_126, s_295_129, s_295_130, s_295_133, s_295_134, s_295_135, s_295_136, s_295_137, s_295_140, s_295_141, s_295_142, s_295_145, s_295_146, s_295_147, s_295_148, s_295_151, s_295_152, s_295_153, s_295_154, s_295_157, s_295_160, s_295_163, s_295_164, s_295_167, s_295_168, s_295_169, s_295_170, s_295_173, s_295_176, e_295, mv_i_1, mv_l_1, mv_a_1, mv_a_2, mv_a_3, mk2_n, mk2_i, mk2_l, mk2_a, mk2_u, mk2_x, mB_T, mB_F, mS_cons, mS_nil, mSB_T, mSB_F, mca_nil, mca_i, mca_l, mca_r, mca_u, mca_x, mcat_i, mcat_l, mcat_r, mcat_u, mcat_x, mK_some, mK_none, va_rf_s, va_rf_n, lgc_eq, lgc_lt, lgc_gt, lgc_ge, lgc_le, mrd_104, mrd_105, mrd_106, mrd_107, true_and, and_true, and_self, false_and, and_false, true_or, or_true, false_or, or_false, not_true_eq_false, not_false_eq_true, mgb, mga, mgr, mN, reduceCtorEq, ↓reduceIte, eq_self, ge_iff_le, gt_iff_lt, hi_J, mg_J, s1, hn, e3, ei, nn_le, hle]
    exact mw_J (fun q => sw_cg (fun q => kr_row hn2) q)) none
  obtain ⟨x', e2⟩ := L2
  have i0 : mh_J h (o + 1) (sw (kr n 0 0) (kw_f (mh_j h (o + 1)) (mh_j h (p + 1))) (mh_j h (o + 1))) = h := (J_ext (fun q => sw_un kr_0)).trans J_id
  rw [i0] at e2
  generalize hX : sw (kr n (2 * n) 0) (kw_f (mh_j h (o + 1)) (mh_j h (p + 1))) (mh_j h (o + 1)) = X at e2 ⊢
  have m1 : ¬ o + 2 = o + 1 := by omega
  have m2 : ¬ o + 3 = o + 1 := by omega
  have m3 : ¬ o + 2 = o + 3 := by omega
  have m4 : ¬ o + 3 = o + 2 := by omega
  have n23 : ¬ p + 2 = o + 3 := fun z => by
    have q1 : p = o + 1 := by omega
    rw [q1] at p1
    have := p1.1
    have := s3.1
    omega
  have n32 : ¬ p + 3 = o + 2 := fun z => by
    have q1 : o = p + 1 := by omega
    rw [q1] at s1
    have := s1.1
    have := p3.1
    omega
  have L3 := mw_loop (d := d + 2) (y := 295) (pc := 94) (Q := Q) (st := []) (fun k => [some (.ref o), some (.ref p), some (.int (Int32.ofNat k)), x']) (fun k => mh_J (mh_J (mh_J h (o + 1) X) (o + 2) (kw_l (mh_j h (o + 2)) (mh_j h (p + 2)) k)) (o + 3) (kw_g (mh_j h (o + 3)) (mh_j h (p + 3)) k)) (a := 0) (b := a) (Nat.zero_le _) (fun k _ hk => by
    have hk2 : ¬ a ≤ k := by omega
    have w1 : kw_l (mh_j h (o + 2)) (mh_j h (p + 2)) k k = mh_j h (o + 2) k := if_neg (Nat.lt_irrefl k)
    have w2 : kw_g (mh_j h (o + 3)) (mh_j h (p + 3)) k k = mh_j h (o + 3) k := if_neg (Nat.lt_irrefl k)
    have J3 : ∀ (f g : Nat → Int64) (v : Int64), mh_sj (mh_J (mh_J (mh_J h (o + 1) X) (o + 2) f) (o + 3) g) (o + 2) k v = mh_J (mh_J (mh_J h (o + 1) X) (o + 2) (fun j => if j = k then v else f j)) (o + 3) g := by
      intro f g v
      rw [J_comm m3, J_sj, J_comm m4]
    have stl : ∀ v, v = (if mh_j h (p + 2) k < mh_j h (o + 2) k then -2147483648 else mh_j h (o + 2) k) → ∀ q, (if q = k then v else kw_l (mh_j h (o + 2)) (mh_j h (p + 2)) k q) = kw_l (mh_j h (o + 2)) (mh_j h (p + 2)) (k + 1) q := by
      intro v hv q
      subst hv
      unfold kw_l
      by_cases c : q = k
      · subst c; rw [if_pos rfl, if_pos (Nat.lt_succ_self _)]
      · rw [if_neg c]
        by_cases c2 : q < k
        · rw [if_pos c2, if_pos (show q < k + 1 by omega)]
        · rw [if_neg c2, if_neg (show ¬ q < k + 1 by omega)]
    have stg : ∀ v, v = (if mh_j h (o + 3) k < mh_j h (p + 3) k then 2147483647 else mh_j h (o + 3) k) → ∀ q, (if q = k then v else kw_g (mh_j h (o + 3)) (mh_j h (p + 3)) k q) = kw_g (mh_j h (o + 3)) (mh_j h (p + 3)) (k + 1) q := by
      intro v hv q
      subst hv
      unfold kw_g
      by_cases c : q = k
      · subst c; rw [if_pos rfl, if_pos (Nat.lt_succ_self _)]
      · rw [if_neg c]
        by_cases c2 : q < k
        · rw [if_pos c2, if_pos (show q < k + 1 by omega)]
        · rw [if_neg c2, if_neg (show ¬ q < k + 1 by omega)]
    by_cases c : mh_j h (p + 2) k < mh_j h (o + 2) k <;> by_cases c2 : mh_j h (o + 3) k < mh_j h (p + 3) k
    all_goals
      rw [s_295_94]
      simp (disch := omega) only [s_295_0, s_295_1, s_295_2, s_295_3, s_295_4, s_295_5, s_295_8, s_295_9, s_295_12, s_295_13, s_295_14, s_295_15, s_295_16, s_295_17, s_295_20, s_295_21, s_295_24, s_295_25, s_295_28, s_295_30, s_295_31, s_295_32, s_295_33, s_295_34, s_295_35, s_295_38, s_295_40, s_295_41, s_295_42, s_295_43, s_295_44, s_295_45, s_295_46, s_295_49, s_295_51, s_295_52, s_295_53, s_295_54, s_295_55, s_295_56, s_295_57, s_295_60, s_295_61, s_295_62, s_295_65, s_295_68, s_295_69, s_295_72, s_295_74, s_295_75, s_295_76, s_295_77, s_295_78, s_295_79, s_295_80, s_295_83, s_295_86, s_295_89, s_295_92, s_295_93, s_295_95, s_295_96, s_295_99, s_295_102, s_295_103, s_295_106, s_295_107, s_295_108, s_295_111, s_295_112, s_295_113, s_295_114, s_295_117, s_295_118, s_295_119, s_295_120, s_295_123, s_295_126, s_295_129, s_295_130, s_295_133, s_295_134, s_295_135, s_295_136, s_295_137, s_295_140, s_295_141, s_295_142, s_295_145, s_295_146, s_295_147, s_295_148, s_295_151, s_295_152, s_295_153, s_295_154, s_295_157, s_295_160, s_295_163, s_295_164, s_295_167, s_295_168, s_295_169, s_295_170, s_295_173, s_295_176, e_295, mv_i_1, mv_l_1, mv_a_1, mv_a_2, mv_a_3, mk2_n, mk2_i, mk2_l, mk2_a, mk2_u, mk2_x, mB_T, mB_F, mS_cons, mS_nil, mSB_T, mSB_F, mca_nil, mca_i, mca_l, mca_r, mca_u, mca_x, mcat_i, mcat_l, mcat_r, mcat_u, mcat_x, mK_some, mK_none, va_rf_s, va_rf_n, lgc_eq, lgc_lt, lgc_gt, lgc_ge, lgc_le, mrd_104, mrd_105, mrd_106, mrd_107, true_and, and_true, and_self, false_and, and_false, true_or, or_true, false_or, or_false, not_true_eq_false, not_false_eq_true, mgb, mga, mgr, mN, reduceCtorEq, ↓reduceIte, eq_self, ge_iff_le, gt_iff_lt, hk_J, hl_J, hn_J, hr_J, hi_J, hj_J, mg_J, s1, s5, s6, s7, s8, s9, s10, p1, p5, p6, p7, p8, p9, p10, ha, n22, n33, n21, n31, n23, n32, m1, m2, m3, m4, ei, nn_le, nn_mxT, nn_clamp, hk2, w1, w2, le_nlt64, mB_not, c, c2, J3, J_sj]
      rw [J_ext (stl _ (by simp [c]))]
      exact mw_J (stg _ (by simp [c2])))
  have i3 : mh_J (mh_J (mh_J h (o + 1) X) (o + 2) (kw_l (mh_j h (o + 2)) (mh_j h (p + 2)) 0)) (o + 3) (kw_g (mh_j h (o + 3)) (mh_j h (p + 3)) 0) = mh_J h (o + 1) X := by
    have e1 : mh_J (mh_J h (o + 1) X) (o + 2) (kw_l (mh_j h (o + 2)) (mh_j h (p + 2)) 0) = mh_J h (o + 1) X := (J_ext (fun q => by unfold kw_l; rw [if_neg (Nat.not_lt_zero q), hj_J, if_neg m1])).trans J_id
    rw [e1]
    exact (J_ext (fun q => by unfold kw_g; rw [if_neg (Nat.not_lt_zero q), hj_J, if_neg m2])).trans J_id
  rw [i3] at L3
  simp only [s_295_0, s_295_1, s_295_3, s_295_4, s_295_5, s_295_8, s_295_9, s_295_12, s_295_13, s_295_14, s_295_15, s_295_16, s_295_17, s_295_20, s_295_21, s_295_24, s_295_25, s_295_28, s_295_30, s_295_31, s_295_32, s_295_33, s_295_34, s_295_35, s_295_38, s_295_40, s_295_41, s_295_42, s_295_43, s_295_44, s_295_45, s_295_46, s_295_49, s_295_51, s_295_52, s_295_53, s_295_54, s_295_55, s_295_56, s_295_57, s_295_60, s_295_61, s_295_62, s_295_65, s_295_68, s_295_69, s_295_72, s_295_74, s_295_75, s_295_76, s_295_77, s_295_78, s_295_79, s_295_80, s_295_83, s_295_86, s_295_89, s_295_92, s_295_93, s_295_94, s_295_95, s_295_96, s_295_99, s_295_102, s_295_103, s_295_106, s_295_107, s_295_108, s_295_111, s_295_112, s_295_113, s_295_114, s_295_117, s_295_118, s_295_119, s_295_120, s_295_123, s_295_126, s_295_129, s_295_130, s_295_133, s_295_134, s_295_135, s_295_136, s_295_137, s_295_140, s_295_141, s_295_142, s_295_145, s_295_146, s_295_147, s_295_148, s_295_151, s_295_152, s_295_153, s_295_154, s_295_157, s_295_160, s_295_163, s_295_164, s_295_167, s_295_168, s_295_169, s_295_170, s_295_173, s_295_176, e_295, mv_i_1, mv_l_1, mv_a_1, mv_a_2, mv_a_3, mk2_n, mk2_i, mk2_l, mk2_a, mk2_u, mk2_x, mB_T, mB_F, mS_cons, mS_nil, mSB_T, mSB_F, mca_nil, mca_i, mca_l, mca_r, mca_u, mca_x, mcat_i, mcat_l, mcat_r, mcat_u, mcat_x, mK_some, mK_none, va_rf_s, va_rf_n, lgc_eq, lgc_lt, lgc_gt, lgc_ge, lgc_le, mrd_104, mrd_105, mrd_106, mrd_107, true_and, and_true, and_self, false_and, and_false, true_or, or_true, false_or, or_false, not_true_eq_false, not_false_eq_true, mgb, mga, mgr, mN, reduceCtorEq, ↓reduceIte, eq_self, ge_iff_le, gt_iff_lt]
  refine Eq.trans e2 ?_
  rw [s_295_2]
  simp (disch := omega) only [s_295_0, s_295_1, s_295_2, s_295_3, s_295_4, s_295_5, s_295_8, s_295_9, s_295_12, s_295_13, s_295_14, s_295_15, s_295_16, s_295_17, s_295_20, s_295_21, s_295_24, s_295_25, s_295_28, s_295_30, s_295_31, s_295_32, s_295_33, s_295_34, s_295_35, s_295_38, s_295_40, s_295_41, s_295_42, s_295_43, s_295_44, s_295_45, s_295_46, s_295_49, s_295_51, s_295_52, s_295_53, s_295_54, s_295_55, s_295_56, s_295_57, s_295_60, s_295_61, s_295_62, s_295_65, s_295_68, s_295_69, s_295_72, s_295_74, s_295_75, s_295_76, s_295_77, s_295_78, s_295_79, s_295_80, s_295_83, s_295_86, s_295_89, s_295_92, s_295_93, s_295_95, s_295_96, s_295_99, s_295_102, s_295_103, s_295_106, s_295_107, s_295_108, s_295_111, s_295_112, s_295_113, s_295_114, s_295_117, s_295_118, s_295_119, s_295_120, s_295_123, s_295_126, s_295_129, s_295_130, s_295_133, s_295_134, s_295_135, s_295_136, s_295_137, s_295_140, s_295_141, s_295_142, s_295_145, s_295_146, s_295_147, s_295_148, s_295_151, s_295_152, s_295_153, s_295_154, s_295_157, s_295_160, s_295_163, s_295_164, s_295_167, s_295_168, s_295_169, s_295_170, s_295_173, s_295_176, e_295, mv_i_1, mv_l_1, mv_a_1, mv_a_2, mv_a_3, mk2_n, mk2_i, mk2_l, mk2_a, mk2_u, mk2_x, mB_T, mB_F, mS_cons, mS_nil, mSB_T, mSB_F, mca_nil, mca_i, mca_l, mca_r, mca_u, mca_x, mcat_i, mcat_l, mcat_r, mcat_u, mcat_x, mK_some, mK_none, va_rf_s, va_rf_n, lgc_eq, lgc_lt, lgc_gt, lgc_ge, lgc_le, mrd_104, mrd_105, mrd_106, mrd_107, true_and, and_true, and_self, false_and, and_false, true_or, or_true, false_or, or_false, not_true_eq_false, not_false_eq_true, mgb, mga, mgr, mN, reduceCtorEq, ↓reduceIte, eq_self, ge_iff_le, gt_iff_lt, hi_J, mg_J, s1, hn, e3, nn_le, hle]
  refine Eq.trans L3 ?_
  rw [s_295_94]
  simp (disch := omega) only [s_295_0, s_295_1, s_295_2, s_295_3, s_295_4, s_295_5, s_295_8, s_295_9, s_295_12, s_295_13, s_295_14, s_295_15, s_295_16, s_295_17, s_295_20, s_295_21, s_295_24, s_295_25, s_295_28, s_295_30, s_295_31, s_295_32, s_295_33, s_295_34, s_295_35, s_295_38, s_295_40, s_295_41, s_295_42, s_295_43, s_295_44, s_295_45, s_295_46, s_295_49, s_295_51, s_295_52, s_295_53, s_295_54, s_295_55, s_295_56, s_295_57, s_295_60, s_295_61, s_295_62, s_295_65, s_295_68, s_295_69, s_295_72, s_295_74, s_295_75, s_295_76, s_295_77, s_295_78, s_295_79, s_295_80, s_295_83, s_295_86, s_295_89, s_295_92, s_295_93, s_295_94, s_295_95, s_295_96, s_295_99, s_295_102, s_295_103, s_295_106, s_295_107, s_295_108, s_295_111, s_295_112, s_295_113, s_295_114, s_295_117, s_295_118, s_295_119, s_295_120, s_295_123, s_295_126, s_295_129, s_295_130, s_295_133, s_295_134, s_295_135, s_295_136, s_295_137, s_295_140, s_295_141, s_295_142, s_295_145, s_295_146, s_295_147, s_295_148, s_295_151, s_295_152, s_295_153, s_295_154, s_295_157, s_295_160, s_295_163, s_295_164, s_295_167, s_295_168, s_295_169, s_295_170, s_295_173, s_295_176, e_295, mv_i_1, mv_l_1, mv_a_1, mv_a_2, mv_a_3, mk2_n, mk2_i, mk2_l, mk2_a, mk2_u, mk2_x, mB_T, mB_F, mS_cons, mS_nil, mSB_T, mSB_F, mca_nil, mca_i, mca_l, mca_r, mca_u, mca_x, mcat_i, mcat_l, mcat_r, mcat_u, mcat_x, mK_some, mK_none, va_rf_s, va_rf_n, lgc_eq, lgc_lt, lgc_gt, lgc_ge, lgc_le, mrd_104, mrd_105, mrd_106, mrd_107, true_and, and_true, and_self, false_and, and_false, true_or, or_true, false_or, or_false, not_true_eq_false, not_false_eq_true, mgb, mga, mgr, mN, reduceCtorEq, ↓reduceIte, eq_self, ge_iff_le, gt_iff_lt, hi_J, mg_J, s1, ha, nn_le, hla]
end KW
section KB
variable {d : Nat} {Q : Option Value → mh_H → Prop} {h : mh_H} {o p : Nat}
/-- what become makes -/
def kbec (h : mh_H) (o p : Nat) : mh_H := mh_cp (mh_cp (mh_cp (mh_cp (mh_si (mh_si (mh_si h o 0 (mh_i h p 0)) o 1 (mh_i h p 1)) o 2 (mh_i h p 2)) (p + 1) 0 (o + 1) 0 576) (p + 2) 0 (o + 2) 0 6) (p + 3) 0 (o + 3) 0 6) (p + 4) 0 (o + 4) 0 6
theorem c_281 (hs : ko h o) (hp : ko h p) (hop : o ≠ p) (hz : mh_i h p 0 = 0 ∨ mh_i h p 0 = 1) : mcall d 281 [.ref o, .ref p] h Q = Q none (kbec h o p) := by
  have NE := ko_ne hs hp hop
  have n00 := NE 0 0 (by omega) (by omega) (by omega)
  have n01 := NE 0 1 (by omega) (by omega) (by omega)
  have n02 := NE 0 2 (by omega) (by omega) (by omega)
  have n03 := NE 0 3 (by omega) (by omega) (by omega)
  have n04 := NE 0 4 (by omega) (by omega) (by omega)
  simp only [Nat.add_zero] at n00 n01 n02 n03 n04
  obtain ⟨s1, s2, s3, s4, s5, s6, s7, s8, s9, s10, s11, s12, s13⟩ := hs
  obtain ⟨p1, p2, p3, p4, p5, p6, p7, p8, p9, p10, p11, p12, p13⟩ := hp
  have a1 := s3.1
  have a2 := s6.1
  have a3 := s9.1
  have a4 := s12.1
  have b1 := p3.1
  have b2 := p6.1
  have b3 := p9.1
  have b4 := p12.1
  have l1 := s3.2
  have l2 := s6.2
  have l3 := s9.2
  have l4 := s12.2
  have q1 := p3.2
  have q2 := p6.2
  have q3 := p9.2
  have q4 := p12.2
  have zz : (mh_i h p 0 = 0 ∨ mh_i h p 0 = 1) = True := eq_true hz
  have t1 : (0 : Int32).toNatClampNeg = 0 := rfl
  have t6 : (6 : Int32).toNatClampNeg = 6 := rfl
  have t576 : (Int32.ofNat 576).toNatClampNeg = 576 := rfl
  have r1 : ((0 : Int32) ≤ 0) = True := eq_true (by decide)
  have r6 : ((0 : Int32) ≤ 6) = True := eq_true (by decide)
  have r576 : ((0 : Int32) ≤ Int32.ofNat 576) = True := eq_true (by decide)
  unfold kbec
  simp (disch := first | omega | (simp only [hk_si, hk_cp, b1, b2, b3, b4, Nat.reduceLT]; done)) only [s_281_0, s_281_1, s_281_2, s_281_5, s_281_8, s_281_9, s_281_10, s_281_13, s_281_16, s_281_17, s_281_18, s_281_21, s_281_24, s_281_25, s_281_28, s_281_29, s_281_30, s_281_33, s_281_34, s_281_35, s_281_38, s_281_39, s_281_42, s_281_43, s_281_46, s_281_47, s_281_48, s_281_51, s_281_52, s_281_54, s_281_57, s_281_58, s_281_61, s_281_62, s_281_63, s_281_66, s_281_67, s_281_69, s_281_72, s_281_73, s_281_76, s_281_77, s_281_78, s_281_81, s_281_82, s_281_84, s_281_87, e_281, mv_i_1, mv_l_1, mv_a_1, mv_a_2, mv_a_3, mk2_n, mk2_i, mk2_l, mk2_a, mk2_u, mk2_x, mB_T, mB_F, mS_cons, mS_nil, mSB_T, mSB_F, mca_nil, mca_i, mca_l, mca_r, mca_u, mca_x, mcat_i, mcat_l, mcat_r, mcat_u, mcat_x, mK_some, mK_none, va_rf_s, va_rf_n, lgc_eq, lgc_lt, lgc_gt, lgc_ge, lgc_le, mrd_104, mrd_105, mrd_106, mrd_107, true_and, and_true, and_self, false_and, and_false, true_or, or_true, false_or, or_false, not_true_eq_false, not_false_eq_true, mgb, mga, mgr, mN, reduceCtorEq, ↓reduceIte, eq_self, ge_iff_le, gt_iff_lt, hk_si, hk_sj, hk_sr, hl_si, hl_sj, hl_sr, hn_si, hn_sj, hn_sr, hs_si, hs_sj, hs_sr, hi_sj, hi_sr, hj_si, hj_sr, hr_si, hr_sj, hi_si, hj_sj, hr_sr, mg_si, mg_sj, mg_sr, Nat.reduceAdd, Nat.reduceMul, Nat.reduceSub, Nat.reduceLT, Nat.reduceGT, Nat.reduceEqDiff, Nat.reduceLeDiff, Nat.left_eq_add, Nat.add_eq_left, Nat.reduceMod, Nat.reduceDiv, Nat.succ_ne_self, hk_cp, hl_cp, hn_cp, hs_cp, hr_cp, hi_cp, mg_cp, cpok_eq, bf_eq, s1, s2, s3, s4, s5, s6, s7, s8, s9, s10, s11, s12, s13, p1, p2, p3, p4, p5, p6, p7, p8, p9, p10, p11, p12, p13, a1, a2, a3, a4, b1, b2, b3, b4, l1, l2, l3, l4, q1, q2, q3, q4, n00, n01, n02, n03, n04, zz, t1, t6, t576, r1, r6, r576, Nat.zero_add]
end KB
