set_option maxRecDepth 100000
/-! THE REFERENCE'S PARSER: rows of FACTORs -/
def PL4 (h : mh_H) (m : Nat) (K : Nat → Int32) (P : Nat → Nat) (V : Nat → Int) (f : Nat) : Prop := ∀ d D (s : pst) S0 L (x2 x4 : Option Value), 8 * (m - s.at) + 1 ≤ f → s.at < m → s.bd = false → d ≤ 60 → 3 * (62 - d) + 5 ≤ D → s.dr + 2 * (m - s.at) + 7 ≤ 52000 → S0 < s.dr → L < s.dr → L ≠ S0 → s.L S0 = Int32.ofNat L → ¬ s.F S0 = -1 → s.N L = -1 → ∃ s', LR P (pgX K P V f 4 d s.at) s.at s.dr S0 L s s' ∧ ∀ Q, mw D 319 Q 55 [some (.ref 81), some (.int (Int32.ofNat d)), x2, some (.int (Int32.ofNat S0)), x4] [] (pH h s) = Q (some (.int (Int32.ofNat S0))) (pH h s')
section PQ4
variable {D f : Nat} {h : mh_H} {m : Nat} {K : Nat → Int32} {P : Nat → Nat} {V : Nat → Int} {s : pst} {d : Nat}
theorem lp4_x (R : RTK h m K P V) (hi : s.at < m) {S0 : Nat} {x2 x4 : Option Value} (c : ¬ (s.bd = false ∧ (K s.at = 42 ∨ K s.at = 47 ∨ K s.at = 37))) : ∀ Q, mw (D + 1) 319 Q 55 [some (.ref 81), some (.int (Int32.ofNat d)), x2, some (.int (Int32.ofNat S0)), x4] [] (pH h s) = Q (some (.int (Int32.ofNat S0))) (pH h s) := by
  intro Q
  have g := R.F.g 81 14 70 (by decide +kernel)
  have q0 := c_310 (D := D) R hi
  have lv := lk_v R hi
  have ll : ∀ c', s.lk K = c' → c' ≠ 1 → s.bd = false ∧ K s.at = c' := by
    intro c' e1 e2
    cases b : s.bd with
    | true => rw [lk_b b] at e1; exact absurd e1.symm e2
    | false => rw [lk_0 b] at e1; exact ⟨rfl, e1⟩
  have x42 : (rkd (s.lk K) = 42) = False := by rw [rk_e lv (c := 42) (y := 42) (by decide) rfl]; exact eq_false (fun y => by have z := ll _ y (by decide); exact c ⟨z.1, Or.inl z.2⟩)
  have x47 : (rkd (s.lk K) = 47) = False := by rw [rk_e lv (c := 47) (y := 47) (by decide) rfl]; exact eq_false (fun y => by have z := ll _ y (by decide); exact c ⟨z.1, Or.inr (Or.inl z.2)⟩)
  have x37 : (rkd (s.lk K) = 37) = False := by rw [rk_e lv (c := 37) (y := 37) (by decide) rfl]; exact eq_false (fun y => by have z := ll _ y (by decide); exact c ⟨z.1, Or.inr (Or.inr (z.2))⟩)
  clear R c ll
  simp (disch := omega) only [s_319_0, s_319_1, s_319_2, s_319_5, s_319_6, s_319_7, s_319_10, s_319_12, s_319_15, s_319_16, s_319_19, s_319_21, s_319_24, s_319_25, s_319_28, s_319_30, s_319_33, s_319_34, s_319_35, s_319_36, s_319_38, s_319_39, s_319_42, s_319_43, s_319_44, s_319_45, s_319_48, s_319_49, s_319_50, s_319_51, s_319_52, s_319_55, s_319_56, s_319_59, s_319_61, s_319_64, s_319_65, s_319_68, s_319_70, s_319_73, s_319_74, s_319_77, s_319_79, s_319_82, s_319_83, s_319_84, s_319_87, s_319_89, s_319_92, s_319_94, s_319_97, s_319_98, s_319_101, s_319_103, s_319_106, s_319_108, s_319_111, s_319_113, s_319_114, s_319_117, s_319_118, s_319_121, s_319_122, s_319_123, s_319_126, s_319_128, s_319_129, s_319_130, s_319_133, s_319_136, s_319_137, s_319_139, s_319_140, s_319_143, s_319_146, s_319_147, s_319_150, s_319_151, s_319_152, s_319_155, s_319_158, s_319_159, s_319_160, s_319_162, s_319_165, s_319_168, s_319_169, e_319, mv_i_1, mv_l_1, mv_a_1, mv_a_2, mv_a_3, mk2_n, mk2_i, mk2_l, mk2_a, mk2_u, mk2_x, mB_T, mB_F, mS_cons, mS_nil, mSB_T, mSB_F, mca_nil, mca_i, mca_l, mca_r, mca_u, mca_x, mcat_i, mcat_l, mcat_r, mcat_u, mcat_x, mK_some, mK_none, va_rf_s, va_rf_n, lgc_eq, lgc_lt, lgc_gt, lgc_ge, lgc_le, mrd_104, mrd_105, mrd_106, mrd_107, true_and, and_true, and_self, false_and, and_false, true_or, or_true, false_or, or_false, not_true_eq_false, not_false_eq_true, mgb, mga, mgr, mN, reduceCtorEq, ↓reduceIte, eq_self, ge_iff_le, gt_iff_lt, Nat.reduceAdd, Nat.reduceMul, Nat.reduceSub, Nat.reduceLT, Nat.reduceGT, Nat.reduceEqDiff, Nat.reduceLeDiff, Nat.left_eq_add, Nat.add_eq_left, Nat.reduceMod, Nat.reduceDiv, Nat.succ_ne_self, pH_g, g, q0, x42, x47, x37]
theorem lp4_s (R : RTK h m K P V) (it : PE2 h m K P V f) (il : PL4 h m K P V f) : PL4 h m K P V (f + 1) := by
  intro d D s S0 L x2 x4 hf hi eb hd hD hr hS hL hLS eL eF eN
  obtain ⟨D, rfl⟩ : ∃ D', D = D' + 4 := ⟨D - 4, by omega⟩
  rw [pgX_4]
  by_cases c : K s.at = 42 ∨ K s.at = 47 ∨ K s.at = 37
  · rw [if_pos c]
    have hp := (R.p _ hi).2
    have hm := R.m
    have h1 : s.at + 1 < m := by
      rcases c with c | c | c
      all_goals exact tkM_s R.M hi c (by decide) (by decide)
    have g := R.F.g 81 14 70 (by decide +kernel)
    have r1 := R.F.f 81 5 84 (by decide +kernel)
    have g1 := R.F.g 84 100 16402 (by decide +kernel)
    have l1 := R.F.l 84 100 16402 (by decide +kernel)
    have e := (R.p _ hi).1
    have k0 : kb false = 0 := rfl
    obtain ⟨kk, hkk⟩ : ∃ x : Nat, x = (if K s.at = 42 then 21 else (if K s.at = 47 then 22 else 23)) := ⟨_, rfl⟩
    rw [← hkk]
    have q0 := c_310 (D := D + 3) R hi
    rw [lk_0 eb] at q0
    have q1 := c_313 (D := D + 3) (s := s) R.F (by omega) (k := Int32.ofNat kk) (p := Int32.ofNat (P s.at)) (v := 0)
    obtain ⟨s1, hs1⟩ : ∃ x : pst, x = s.dft (Int32.ofNat kk) (Int32.ofNat (P s.at)) 0 := ⟨_, rfl⟩
    rw [← hs1] at q1
    have at1 : s1.at = s.at := by rw [hs1]; rfl
    have bd1 : s1.bd = false := by rw [hs1]; exact eb
    have q0b := c_310 (D := D + 3) (s := s1) R (by omega)
    rw [lk_0 bd1, at1] at q0b
    have q2 := c_312 (D := D + 2) (s := s1) R (by omega) (c := K s.at) (y := rkd (K s.at)) (R.k _ hi).2 rfl (by rcases c with c | c | c <;> (rw [c]; decide))
    rw [tk_1 bd1 (by rw [at1]), at1] at q2
    obtain ⟨s2, hs2⟩ : ∃ x : pst, x = s1.uA (s.at + 1) := ⟨_, rfl⟩
    rw [← hs2] at q2
    have at2 : s2.at = s.at + 1 := by rw [hs2]; rfl
    have bd2 : s2.bd = false := by rw [hs2]; exact bd1
    have fl2 : s2.fl = s.fl := by rw [hs2, hs1]; rfl
    have dr2 : s2.dr = s.dr + 1 := by rw [hs2, hs1]; rfl
    have m2 : pSm s.dr s s2 := by rw [hs2, hs1]; exact pSm_t (dft_m (Nat.le_refl _)) uA_m
    have a2 : nf s2 s.dr (Int32.ofNat kk) (Int32.ofNat (P s.at)) 0 (-1) (-1) (-1) := by rw [hs2, hs1]; exact dft_n (s := s)
    have w2 : nf s2 S0 (s.K S0) (s.P S0) (s.V S0) (s.F S0) (Int32.ofNat L) (s.N S0) := nf_S ⟨rfl, rfl, rfl, rfl, eL, rfl⟩ m2 hS
    obtain ⟨s3, v3, S3, q3⟩ := it d (D + 3) s2 (by rw [at2]; omega) (by rw [at2]; exact h1) bd2 hd (by omega) (by rw [at2, dr2]; omega)
    have gb := pgX_b (P := P) (V := V) R.M f 2 d (s.at + 1) (by decide) h1
    rw [at2, dr2] at S3
    have run : ∀ s4 s5, (∀ Q, mcall (D + 3) 314 [.ref 81, .int (Int32.ofNat s.dr), .int v3] (pH h s3) Q = Q none (pH h s4)) → (∀ Q, mcall (D + 3) 314 [.ref 81, .int (Int32.ofNat S0), .int (Int32.ofNat s.dr)] (pH h s4) Q = Q none (pH h s5)) → ∀ Q, mw (D + 4) 319 Q 55 [some (.ref 81), some (.int (Int32.ofNat d)), x2, some (.int (Int32.ofNat S0)), x4] [] (pH h s) = mw (D + 4) 319 Q 55 [some (.ref 81), some (.int (Int32.ofNat d)), x2, some (.int (Int32.ofNat S0)), some (.int (Int32.ofNat s.dr))] [] (pH h s5) := by
      intro s4 s5 y1 y2 Q
      clear R it il S3 gb m2 a2 w2
      rw [s_319_55]
      rcases c with c | c | c
      · have hk : kk = 21 := by rw [hkk, c]; rfl
        subst hk
        rw [c] at q0 q0b q2
        have x42 : (rkd 42 = 42) = True := by decide
        have x47 : (rkd 42 = 47) = False := by decide
        have x37 : (rkd 42 = 37) = False := by decide
        have q1' : ∀ Q, mcall (D + 3) 313 [.ref 81, .int 21, .int (Int32.ofNat (P s.at)), .int 0] (pH h s) Q = Q (some (.int (Int32.ofNat s.dr))) (pH h s1) := q1
        simp (disch := omega) only [s_319_0, s_319_1, s_319_2, s_319_5, s_319_6, s_319_7, s_319_10, s_319_12, s_319_15, s_319_16, s_319_19, s_319_21, s_319_24, s_319_25, s_319_28, s_319_30, s_319_33, s_319_34, s_319_35, s_319_36, s_319_38, s_319_39, s_319_42, s_319_43, s_319_44, s_319_45, s_319_48, s_319_49, s_319_50, s_319_51, s_319_52, s_319_56, s_319_59, s_319_61, s_319_64, s_319_65, s_319_68, s_319_70, s_319_73, s_319_74, s_319_77, s_319_79, s_319_82, s_319_83, s_319_84, s_319_87, s_319_89, s_319_92, s_319_94, s_319_97, s_319_98, s_319_101, s_319_103, s_319_106, s_319_108, s_319_111, s_319_113, s_319_114, s_319_117, s_319_118, s_319_121, s_319_122, s_319_123, s_319_126, s_319_128, s_319_129, s_319_130, s_319_133, s_319_136, s_319_137, s_319_139, s_319_140, s_319_143, s_319_146, s_319_147, s_319_150, s_319_151, s_319_152, s_319_155, s_319_158, s_319_159, s_319_160, s_319_162, s_319_165, s_319_168, s_319_169, e_319, mv_i_1, mv_l_1, mv_a_1, mv_a_2, mv_a_3, mk2_n, mk2_i, mk2_l, mk2_a, mk2_u, mk2_x, mB_T, mB_F, mS_cons, mS_nil, mSB_T, mSB_F, mca_nil, mca_i, mca_l, mca_r, mca_u, mca_x, mcat_i, mcat_l, mcat_r, mcat_u, mcat_x, mK_some, mK_none, va_rf_s, va_rf_n, lgc_eq, lgc_lt, lgc_gt, lgc_ge, lgc_le, mrd_104, mrd_105, mrd_106, mrd_107, true_and, and_true, and_self, false_and, and_false, true_or, or_true, false_or, or_false, not_true_eq_false, not_false_eq_true, mgb, mga, mgr, mN, reduceCtorEq, ↓reduceIte, eq_self, ge_iff_le, gt_iff_lt, Nat.reduceAdd, Nat.reduceMul, Nat.reduceSub, Nat.reduceLT, Nat.reduceGT, Nat.reduceEqDiff, Nat.reduceLeDiff, Nat.left_eq_add, Nat.add_eq_left, Nat.reduceMod, Nat.reduceDiv, Nat.succ_ne_self, pH_g, pH_r, pH_l, g, r1, g1, l1, pH_8, pH_9, pH_84, nn_mxT, nn_clamp, e, q0, q0b, x42, x47, x37, q1', q2, bd2, k0, q3, y1, y2]
      · have hk : kk = 22 := by rw [hkk, c]; rfl
        subst hk
        rw [c] at q0 q0b q2
        have x42 : (rkd 47 = 42) = False := by decide
        have x47 : (rkd 47 = 47) = True := by decide
        have x37 : (rkd 47 = 37) = False := by decide
        have q1' : ∀ Q, mcall (D + 3) 313 [.ref 81, .int 22, .int (Int32.ofNat (P s.at)), .int 0] (pH h s) Q = Q (some (.int (Int32.ofNat s.dr))) (pH h s1) := q1
        simp (disch := omega) only [s_319_0, s_319_1, s_319_2, s_319_5, s_319_6, s_319_7, s_319_10, s_319_12, s_319_15, s_319_16, s_319_19, s_319_21, s_319_24, s_319_25, s_319_28, s_319_30, s_319_33, s_319_34, s_319_35, s_319_36, s_319_38, s_319_39, s_319_42, s_319_43, s_319_44, s_319_45, s_319_48, s_319_49, s_319_50, s_319_51, s_319_52, s_319_56, s_319_59, s_319_61, s_319_64, s_319_65, s_319_68, s_319_70, s_319_73, s_319_74, s_319_77, s_319_79, s_319_82, s_319_83, s_319_84, s_319_87, s_319_89, s_319_92, s_319_94, s_319_97, s_319_98, s_319_101, s_319_103, s_319_106, s_319_108, s_319_111, s_319_113, s_319_114, s_319_117, s_319_118, s_319_121, s_319_122, s_319_123, s_319_126, s_319_128, s_319_129, s_319_130, s_319_133, s_319_136, s_319_137, s_319_139, s_319_140, s_319_143, s_319_146, s_319_147, s_319_150, s_319_151, s_319_152, s_319_155, s_319_158, s_319_159, s_319_160, s_319_162, s_319_165, s_319_168, s_319_169, e_319, mv_i_1, mv_l_1, mv_a_1, mv_a_2, mv_a_3, mk2_n, mk2_i, mk2_l, mk2_a, mk2_u, mk2_x, mB_T, mB_F, mS_cons, mS_nil, mSB_T, mSB_F, mca_nil, mca_i, mca_l, mca_r, mca_u, mca_x, mcat_i, mcat_l, mcat_r, mcat_u, mcat_x, mK_some, mK_none, va_rf_s, va_rf_n, lgc_eq, lgc_lt, lgc_gt, lgc_ge, lgc_le, mrd_104, mrd_105, mrd_106, mrd_107, true_and, and_true, and_self, false_and, and_false, true_or, or_true, false_or, or_false, not_true_eq_false, not_false_eq_true, mgb, mga, mgr, mN, reduceCtorEq, ↓reduceIte, eq_self, ge_iff_le, gt_iff_lt, Nat.reduceAdd, Nat.reduceMul, Nat.reduceSub, Nat.reduceLT, Nat.reduceGT, Nat.reduceEqDiff, Nat.reduceLeDiff, Nat.left_eq_add, Nat.add_eq_left, Nat.reduceMod, Nat.reduceDiv, Nat.succ_ne_self, pH_g, pH_r, pH_l, g, r1, g1, l1, pH_8, pH_9, pH_84, nn_mxT, nn_clamp, e, q0, q0b, x42, x47, x37, q1', q2, bd2, k0, q3, y1, y2]
      · have hk : kk = 23 := by rw [hkk, c]; rfl
        subst hk
        rw [c] at q0 q0b q2
        have x42 : (rkd 37 = 42) = False := by decide
        have x47 : (rkd 37 = 47) = False := by decide
        have x37 : (rkd 37 = 37) = True := by decide
        have q1' : ∀ Q, mcall (D + 3) 313 [.ref 81, .int 23, .int (Int32.ofNat (P s.at)), .int 0] (pH h s) Q = Q (some (.int (Int32.ofNat s.dr))) (pH h s1) := q1
        simp (disch := omega) only [s_319_0, s_319_1, s_319_2, s_319_5, s_319_6, s_319_7, s_319_10, s_319_12, s_319_15, s_319_16, s_319_19, s_319_21, s_319_24, s_319_25, s_319_28, s_319_30, s_319_33, s_319_34, s_319_35, s_319_36, s_319_38, s_319_39, s_319_42, s_319_43, s_319_44, s_319_45, s_319_48, s_319_49, s_319_50, s_319_51, s_319_52, s_319_56, s_319_59, s_319_61, s_319_64, s_319_65, s_319_68, s_319_70, s_319_73, s_319_74, s_319_77, s_319_79, s_319_82, s_319_83, s_319_84, s_319_87, s_319_89, s_319_92, s_319_94, s_319_97, s_319_98, s_319_101, s_319_103, s_319_106, s_319_108, s_319_111, s_319_113, s_319_114, s_319_117, s_319_118, s_319_121, s_319_122, s_319_123, s_319_126, s_319_128, s_319_129, s_319_130, s_319_133, s_319_136, s_319_137, s_319_139, s_319_140, s_319_143, s_319_146, s_319_147, s_319_150, s_319_151, s_319_152, s_319_155, s_319_158, s_319_159, s_319_160, s_319_162, s_319_165, s_319_168, s_319_169, e_319, mv_i_1, mv_l_1, mv_a_1, mv_a_2, mv_a_3, mk2_n, mk2_i, mk2_l, mk2_a, mk2_u, mk2_x, mB_T, mB_F, mS_cons, mS_nil, mSB_T, mSB_F, mca_nil, mca_i, mca_l, mca_r, mca_u, mca_x, mcat_i, mcat_l, mcat_r, mcat_u, mcat_x, mK_some, mK_none, va_rf_s, va_rf_n, lgc_eq, lgc_lt, lgc_gt, lgc_ge, lgc_le, mrd_104, mrd_105, mrd_106, mrd_107, true_and, and_true, and_self, false_and, and_false, true_or, or_true, false_or, or_false, not_true_eq_false, not_false_eq_true, mgb, mga, mgr, mN, reduceCtorEq, ↓reduceIte, eq_self, ge_iff_le, gt_iff_lt, Nat.reduceAdd, Nat.reduceMul, Nat.reduceSub, Nat.reduceLT, Nat.reduceGT, Nat.reduceEqDiff, Nat.reduceLeDiff, Nat.left_eq_add, Nat.add_eq_left, Nat.reduceMod, Nat.reduceDiv, Nat.succ_ne_self, pH_g, pH_r, pH_l, g, r1, g1, l1, pH_8, pH_9, pH_84, nn_mxT, nn_clamp, e, q0, q0b, x42, x47, x37, q1', q2, bd2, k0, q3, y1, y2]
    generalize pgX K P V f 2 d (s.at + 1) = r at *
    obtain ⟨j, o⟩ := r
    obtain ⟨gb1, gb2, gb3⟩ := gb
    have gb1' : s.at + 1 ≤ j := gb1
    have gb2' : j < m := gb2
    obtain ⟨T1, T2, T3⟩ := S3
    have T2' : s3.at = j := T2
    have m3 : pSm s.dr s s3 := pSm_t m2 (pSm_w T1 (by omega))
    have a3 := nf_S a2 T1 (by omega)
    have w3 := nf_S w2 T1 (by omega)
    rcases T3 with ⟨n, cs, o1, bd3, fl3, dr3, t3, vv⟩ | ⟨o1, bd3, fl3, dr3, dr3', vv⟩
    · have o1' : o = some (tNd n cs) := o1
      subst o1'
      have gs' : 1 + ts cs ≤ 2 * (j - (s.at + 1)) := (gb3 (tNd n cs) rfl).2.1
      have ob := dOf_b (n := n) (cs := cs)
      subst vv
      have q4 := c_314 (D := D + 3) (s := s3) R.F (o := s.dr) (y := s.dr + 1 + dOf n cs) (by omega) (by omega) (fun z => absurd a3.2.2.2.1 z)
      obtain ⟨f1, f2, f3, f4⟩ := jn_f (s := s3) (o := s.dr) (y := s.dr + 1 + dOf n cs)
      obtain ⟨s4, hs4⟩ : ∃ x : pst, x = s3.jn s.dr (s.dr + 1 + dOf n cs) := ⟨_, rfl⟩
      rw [← hs4] at q4 f1 f2 f3 f4
      have a4 : nf s4 s.dr (Int32.ofNat kk) (Int32.ofNat (P s.at)) 0 (Int32.ofNat (s.dr + 1 + dOf n cs)) (Int32.ofNat (s.dr + 1 + dOf n cs)) (-1) := by rw [hs4]; exact jn1_n a3
      have E4 : ∀ z, z ≠ s.dr → pE s3 s4 z := fun z hz => by rw [hs4]; exact jn1_E a3 hz
      have w4 := nf_E w3 (E4 S0 (by omega))
      have q5 := c_314 (D := D + 3) (s := s4) R.F (o := S0) (y := s.dr) (by omega) (by omega) (fun _ => ⟨L, by omega, w4.2.2.2.2.1⟩)
      obtain ⟨j1, j2, j3, j4⟩ := jn_f (s := s4) (o := S0) (y := s.dr)
      obtain ⟨s5, hs5⟩ : ∃ x : pst, x = s4.jn S0 s.dr := ⟨_, rfl⟩
      rw [← hs5] at q5 j1 j2 j3 j4
      have w5 : nf s5 S0 (s.K S0) (s.P S0) (s.V S0) (s.F S0) (Int32.ofNat s.dr) (s.N S0) := by rw [hs5]; exact jn2_n w4 eF (by omega) hLS
      have E5 : ∀ z, z ≠ S0 → z ≠ L → pE s4 s5 z := fun z z1 z2 => by rw [hs5]; exact jn2_E w4 eF (by omega) z1 z2
      have X5 := jn2_x (y := s.dr) w4 eF (by omega)
      rw [← hs5] at X5
      have a5 := nf_E a4 (E5 s.dr (by omega) (by omega))
      have dr5 : s5.dr = s.dr + (1 + (1 + ts cs)) := by rw [j4, f4, dr3]; omega
      have at5 : s5.at = j := by rw [j1, f1]; exact T2'
      have t5 : s5.dq (tNd n cs) true (s.dr + 1) (-1) := dq_S t3 (fun y y1 y2 => pE_t (E4 y (by omega)) (E5 y (by omega) (by omega)))
      obtain ⟨s6, S6, q6⟩ := il d (D + 4) s5 S0 s.dr x2 (some (.int (Int32.ofNat s.dr))) (by rw [at5]; omega) (by rw [at5]; exact gb2') (by rw [j2, f2]; exact bd3) hd (by omega) (by rw [at5, dr5]; omega) (by omega) (by omega) (by omega) w5.2.2.2.2.1 (by rw [w5.2.2.2.1]; exact eF) a5.2.2.2.2.2
      rw [at5, dr5] at S6
      refine ⟨s6, ?_, fun Q => by rw [run s4 s5 q4 q5 Q]; exact q6 Q⟩
      show LR P (bnd (pgX K P V f 4 d j) fun r k => (k, some (.branch (tE kk (P s.at) 0) (tNd n cs) r))) s.at s.dr S0 L s s6
      obtain ⟨U1, U2, U3, U4⟩ := S6
      have gb5 := pgX_b (P := P) (V := V) R.M f 4 d j (by decide) gb2'
      clear run q6 q5 q4 q3 q2 q1 q0 q0b e g r1 g1 l1 R it il
      have F1 : ∀ y, y < s.dr → y ≠ S0 → y ≠ L → pE s s6 y := fun y y1 y2 y3 => pE_t (m3 y y1) (pE_t (E4 y (by omega)) (pE_t (E5 y y2 y3) (U1 y (by omega) y2 (by omega))))
      have F2 : ∀ y, y < s.dr → s6.K y = s.K y ∧ s6.P y = s.P y ∧ s6.V y = s.V y ∧ s6.F y = s.F y ∧ (y ≠ L → s6.N y = s.N y) := by
        intro y hy
        obtain ⟨u1, u2, u3, u4, u5⟩ := U2 y (by omega)
        obtain ⟨v1, v2, v3, v4, v5⟩ := X5.2 y
        obtain ⟨z1, z2, z3, z4, z5, z6⟩ := pE_t (m3 y hy) (E4 y (by omega))
        exact ⟨u1.trans (v1.trans z1), u2.trans (v2.trans z2), u3.trans (v3.trans z3), u4.trans (v4.trans z4), fun q => (u5 (by omega)).trans ((v5 q).trans z6)⟩
      generalize pgX K P V f 4 d j = r at *
      obtain ⟨k, o⟩ := r
      obtain ⟨gc1, gc2, gc3⟩ := gb5
      have gc1' : j ≤ k := gc1
      rcases U4 with ⟨t, o2, bd6, fl6, dr6, n6, t6⟩ | ⟨o2, bd6, fl6, dr6, dr6'⟩
      · have o2' : o = some t := o2
        subst o2'
        refine ⟨F1, F2, U3, Or.inl ⟨_, rfl, bd6, by rw [fl6, j3, f3, fl3, fl2], by rw [dr6]; show _ = s.dr + (1 + (1 + ts cs + 0) + ts t); omega, ?_, ?_⟩⟩
        · have hk : dSc (tE kk (P s.at) 0) (tNd n cs) = 0 := by
            rcases c with c | c | c <;> (rw [hkk, c]; unfold dSc; rw [tE_K (by decide)]; rfl)
          show _ = Int32.ofNat (s.dr + dOf (tE kk (P s.at) 0) (tNd n cs))
          rw [dOf_0 hk, (U2 L (by omega)).2.2.2.2 (by omega)]
          exact X5.1
        · have hk : dSc (tE kk (P s.at) 0) (tNd n cs) = 0 := by
            rcases c with c | c | c <;> (rw [hkk, c]; unfold dSc; rw [tE_K (by decide)]; rfl)
          have hk64 : kk < 64 := by rcases c with c | c | c <;> (rw [hkk, c]; decide)
          obtain ⟨v1, v2, v3, v4, v5⟩ := U2 s.dr (by omega)
          have a6 : nf s6 s.dr (Int32.ofNat kk) (Int32.ofNat (P s.at)) 0 (Int32.ofNat (s.dr + 1 + dOf n cs)) (s6.L s.dr) (dHd t (s.dr + (1 + (1 + ts cs)))) := ⟨v1.trans a5.1, v2.trans a5.2.1, v3.trans a5.2.2.1, v4.trans a5.2.2.2.1, rfl, n6⟩
          have t7 : s6.dq (tNd n cs) true (s.dr + 1) (-1) := dq_S t5 (fun y y1 y2 => by rw [dSz_N] at y2; exact U1 y (by omega) (by omega) (by omega))
          exact dq_A (r := .leaf ()) (dq_m0 (cs := tNd n cs) a6 (by rw [tE_K hk64]) (by rw [tE_P hk64 (by omega)]) (by rw [tE_V hk64 (by omega)]; rfl) hk rfl rfl (dq_1 t7)) t6
      · have o2' : o = none := o2
        subst o2'
        have dr6'' : s6.dr ≤ s.dr + (1 + (1 + ts cs)) + 2 * (k - j) + 3 := dr6'
        exact ⟨F1, F2, U3, Or.inr ⟨rfl, bd6, fl6, by omega, by show s6.dr ≤ s.dr + 2 * (k - s.at) + 3; omega⟩⟩
    · have o1' : o = none := o1
      subst o1'
      have dr4' : s3.dr ≤ s.dr + 1 + 2 * (j - (s.at + 1)) + 4 := dr3'
      obtain ⟨s4, y1, y2, y3, y4, y5, y6, y7⟩ := bad_j R.F m3 bd3 (Nat.le_refl _) (by omega) (by omega) a3 (Or.inl rfl) vv
      have nm1 : ∀ l, (-1 : Int32) = Int32.ofNat l → S0 ≠ l := fun l z y => ofn_m (by omega : S0 < 1000000) (by rw [y]; exact z.symm)
      have w4 := nf_E w3 (y6 S0 (by omega) nm1)
      have q5 := c_314 (D := D + 3) (s := s4) R.F (o := S0) (y := s.dr) (by omega) (by omega) (fun _ => ⟨L, by omega, w4.2.2.2.2.1⟩)
      obtain ⟨j1, j2, j3, j4⟩ := jn_f (s := s4) (o := S0) (y := s.dr)
      obtain ⟨s5, hs5⟩ : ∃ x : pst, x = s4.jn S0 s.dr := ⟨_, rfl⟩
      rw [← hs5] at q5 j1 j2 j3 j4
      have E5 : ∀ z, z ≠ S0 → z ≠ L → pE s4 s5 z := fun z z1 z2 => by rw [hs5]; exact jn2_E w4 eF (by omega) z1 z2
      have X5 := jn2_x (y := s.dr) w4 eF (by omega)
      rw [← hs5] at X5
      have q6 := lp4_x (D := D + 3) (s := s5) (d := d) R (by rw [j1, y2, T2']; exact gb2') (S0 := S0) (x2 := x2) (x4 := some (.int (Int32.ofNat s.dr))) (fun z => by rw [j2, y3] at z; exact absurd z.1 (by decide))
      refine ⟨s5, ⟨fun y z1 z2 z3 => pE_t (y1 y z1) (E5 y z2 z3), fun y z1 => ?_, by rw [j1, y2]; exact T2', Or.inr ⟨rfl, j2.trans y3, by rw [j3, y4]; exact fl3, by omega, by show s5.dr ≤ s.dr + 2 * (j - s.at) + 3; omega⟩⟩, fun Q => by rw [run s4 s5 (y7 (D + 3)) q5 Q]; exact q6 Q⟩
      obtain ⟨v1, v2, v3, v4, v5⟩ := X5.2 y
      obtain ⟨u1, u2, u3, u4, u5, u6⟩ := y1 y z1
      exact ⟨v1.trans u1, v2.trans u2, v3.trans u3, v4.trans u4, fun q => (v5 q).trans u6⟩
  · rw [if_neg c]
    have q6 := lp4_x (D := D + 3) (s := s) (d := d) R hi (S0 := S0) (x2 := x2) (x4 := x4) (fun z => c z.2)
    exact ⟨s, ⟨fun _ _ _ _ => pE_r, fun _ _ => ⟨rfl, rfl, rfl, rfl, fun _ => rfl⟩, rfl, Or.inl ⟨_, rfl, eb, rfl, rfl, eN, trivial⟩⟩, q6⟩
end PQ4
