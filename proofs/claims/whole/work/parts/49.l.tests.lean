set_option maxRecDepth 100000
/-! THE REFERENCE'S PARSER: CONDs: contracts, rows -/
def PC0 (h : mh_H) (m : Nat) (K : Nat → Int32) (P : Nat → Nat) (V : Nat → Int) (N f : Nat) : Prop := ∀ d D (s : pst), 8 * (m - s.at) + 6 ≤ f → s.at < m → s.bd = false → d ≤ 61 → 4 * (62 - d) + 10 ≤ D → s.dr + 2 * (m - s.at) + 8 ≤ 52000 → ∃ s' v, SR P (pgC K P V N f 0 d s.at) s.at s.dr s s' v ∧ ∀ Q, mcall D 321 [.ref 81, .int (Int32.ofNat d)] (pH h s) Q = Q (some (.int v)) (pH h s')
def PC1 (h : mh_H) (m : Nat) (K : Nat → Int32) (P : Nat → Nat) (V : Nat → Int) (N f : Nat) : Prop := ∀ d D (s : pst), 8 * (m - s.at) + 5 ≤ f → s.at < m → s.bd = false → d ≤ 60 → 4 * (62 - d) + 8 ≤ D → s.dr + 2 * (m - s.at) + 8 ≤ 52000 → ∃ s' v, SR P (pgC K P V N f 1 d s.at) s.at s.dr s s' v ∧ ∀ Q, mcall D 322 [.ref 81, .int (Int32.ofNat d), .int 25] (pH h s) Q = Q (some (.int v)) (pH h s')
def PC2 (h : mh_H) (m : Nat) (K : Nat → Int32) (P : Nat → Nat) (V : Nat → Int) (N f : Nat) : Prop := ∀ d D (s : pst), 8 * (m - s.at) + 4 ≤ f → s.at < m → s.bd = false → d ≤ 60 → 4 * (62 - d) + 7 ≤ D → s.dr + 2 * (m - s.at) + 8 ≤ 52000 → ∃ s' v, SR P (pgC K P V N f 2 d s.at) s.at s.dr s s' v ∧ ∀ Q, mcall D 323 [.ref 81, .int (Int32.ofNat d)] (pH h s) Q = Q (some (.int v)) (pH h s')
def PK4 (h : mh_H) (m : Nat) (K : Nat → Int32) (P : Nat → Nat) (V : Nat → Int) (N f : Nat) : Prop := ∀ d D (s : pst) S0 L (x4 : Option Value), 8 * (m - s.at) + 1 ≤ f → s.at < m → s.bd = false → d ≤ 60 → 4 * (62 - d) + 8 ≤ D → s.dr + 2 * (m - s.at) + 7 ≤ 52000 → S0 < s.dr → L < s.dr → L ≠ S0 → s.L S0 = Int32.ofNat L → ¬ s.F S0 = -1 → s.N L = -1 → ∃ s', LR P (pgC K P V N f 4 d s.at) s.at s.dr S0 L s s' ∧ ∀ Q, mw D 322 Q 73 [some (.ref 81), some (.int (Int32.ofNat d)), some (.int 25), some (.int 260), x4, some (.int (Int32.ofNat S0))] [] (pH h s) = Q (some (.int (Int32.ofNat S0))) (pH h s')
section PR4
variable {D f N : Nat} {h : mh_H} {m : Nat} {K : Nat → Int32} {P : Nat → Nat} {V : Nat → Int} {s : pst} {d : Nat}
theorem kp4_x (R : RTK h m K P V) (hi : s.at < m) {S0 : Nat} {x4 : Option Value} (c : ¬ (s.bd = false ∧ K s.at = 132)) : ∀ Q, mw (D + 1) 322 Q 73 [some (.ref 81), some (.int (Int32.ofNat d)), some (.int 25), some (.int 260), x4, some (.int (Int32.ofNat S0))] [] (pH h s) = Q (some (.int (Int32.ofNat S0))) (pH h s) := by
  intro Q
  have g := R.F.g 81 14 70 (by decide +kernel)
  have q0 := c_310 (D := D) R hi
  have lv := lk_v R hi
  have x1 : (rkd (s.lk K) = 260) = False := by
    rw [rk_e lv (c := 132) (y := 260) (by decide) rfl]
    refine eq_false (fun y => ?_)
    cases b : s.bd with
    | true => rw [lk_b b] at y; exact absurd y (by decide)
    | false => rw [lk_0 b] at y; exact c ⟨b, y⟩
  clear R c
  simp (disch := omega) only [s_322_0, s_322_1, s_322_3, s_322_6, s_322_9, s_322_12, s_322_15, s_322_16, s_322_17, s_322_19, s_322_22, s_322_23, s_322_24, s_322_26, s_322_29, s_322_32, s_322_33, s_322_34, s_322_37, s_322_39, s_322_40, s_322_43, s_322_44, s_322_47, s_322_49, s_322_50, s_322_51, s_322_52, s_322_53, s_322_56, s_322_58, s_322_59, s_322_60, s_322_63, s_322_65, s_322_66, s_322_68, s_322_70, s_322_73, s_322_74, s_322_77, s_322_78, s_322_81, s_322_82, s_322_83, s_322_86, s_322_87, s_322_89, s_322_90, s_322_93, s_322_96, s_322_97, s_322_100, s_322_101, s_322_103, s_322_106, s_322_107, s_322_108, s_322_110, s_322_113, s_322_116, s_322_117, s_322_118, s_322_121, s_322_124, s_322_127, s_322_129, e_322, mv_i_1, mv_l_1, mv_a_1, mv_a_2, mv_a_3, mk2_n, mk2_i, mk2_l, mk2_a, mk2_u, mk2_x, mB_T, mB_F, mS_cons, mS_nil, mSB_T, mSB_F, mca_nil, mca_i, mca_l, mca_r, mca_u, mca_x, mcat_i, mcat_l, mcat_r, mcat_u, mcat_x, mK_some, mK_none, va_rf_s, va_rf_n, lgc_eq, lgc_lt, lgc_gt, lgc_ge, lgc_le, mrd_104, mrd_105, mrd_106, mrd_107, true_and, and_true, and_self, false_and, and_false, true_or, or_true, false_or, or_false, not_true_eq_false, not_false_eq_true, mgb, mga, mgr, mN, reduceCtorEq, ↓reduceIte, eq_self, ge_iff_le, gt_iff_lt, Nat.reduceAdd, Nat.reduceMul, Nat.reduceSub, Nat.reduceLT, Nat.reduceGT, Nat.reduceEqDiff, Nat.reduceLeDiff, Nat.left_eq_add, Nat.add_eq_left, Nat.reduceMod, Nat.reduceDiv, Nat.succ_ne_self, pH_g, g, q0, x1]
theorem kp4_s (R : RTK h m K P V) (it : PC2 h m K P V N f) (il : PK4 h m K P V N f) : PK4 h m K P V N (f + 1) := by
  intro d D s S0 L x4 hf hi eb hd hD hr hS hL hLS eL eF eN
  obtain ⟨D, rfl⟩ : ∃ D', D = D' + 4 := ⟨D - 4, by omega⟩
  rw [pgC_4]
  by_cases c : K s.at = 132
  · rw [if_pos c]
    have hm := R.m
    have h1 := tkM_s R.M hi c (by decide) (by decide)
    have g := R.F.g 81 14 70 (by decide +kernel)
    have k0 : kb false = 0 := rfl
    have q0 := c_310 (D := D + 3) R hi
    rw [lk_0 eb, c] at q0
    have q0' : ∀ Q, mcall (D + 3) 310 [.ref 81] (pH h s) Q = Q (some (.int 260)) (pH h s) := q0
    have n1 : ((260 : Int32) = 260) = True := by decide
    have n2 : ((25 : Int32) = 24) = False := by decide
    have q2 := c_312 (D := D + 2) (s := s) R hi (c := 132) (y := 260) (by decide) rfl (by decide)
    rw [tk_1 eb c] at q2
    obtain ⟨s2, hs2⟩ : ∃ x : pst, x = s.uA (s.at + 1) := ⟨_, rfl⟩
    rw [← hs2] at q2
    have at2 : s2.at = s.at + 1 := by rw [hs2]; rfl
    have bd2 : s2.bd = false := by rw [hs2]; exact eb
    have fl2 : s2.fl = s.fl := by rw [hs2]; rfl
    have dr2 : s2.dr = s.dr := by rw [hs2]; rfl
    have m2 : pSm s.dr s s2 := by rw [hs2]; exact uA_m
    have w2 : nf s2 S0 (s.K S0) (s.P S0) (s.V S0) (s.F S0) (Int32.ofNat L) (s.N S0) := nf_S ⟨rfl, rfl, rfl, rfl, eL, rfl⟩ m2 hS
    obtain ⟨s3, v3, S3, q3⟩ := it d (D + 3) s2 (by rw [at2]; omega) (by rw [at2]; exact h1) bd2 hd (by omega) (by rw [at2, dr2]; omega)
    have gb := (pgC_b (P := P) (V := V) (N := N) R.M f 2 d (s.at + 1) (by decide) h1).1
    rw [at2, dr2] at S3
    have run : ∀ s5, (∀ Q, mcall (D + 3) 314 [.ref 81, .int (Int32.ofNat S0), .int v3] (pH h s3) Q = Q none (pH h s5)) → ∀ Q, mw (D + 4) 322 Q 73 [some (.ref 81), some (.int (Int32.ofNat d)), some (.int 25), some (.int 260), x4, some (.int (Int32.ofNat S0))] [] (pH h s) = mw (D + 4) 322 Q 73 [some (.ref 81), some (.int (Int32.ofNat d)), some (.int 25), some (.int 260), x4, some (.int (Int32.ofNat S0))] [] (pH h s5) := by
      intro s5 y2 Q
      clear R it il S3 gb m2 w2
      rw [s_322_73]
      simp (disch := omega) only [s_322_0, s_322_1, s_322_3, s_322_6, s_322_9, s_322_12, s_322_15, s_322_16, s_322_17, s_322_19, s_322_22, s_322_23, s_322_24, s_322_26, s_322_29, s_322_32, s_322_33, s_322_34, s_322_37, s_322_39, s_322_40, s_322_43, s_322_44, s_322_47, s_322_49, s_322_50, s_322_51, s_322_52, s_322_53, s_322_56, s_322_58, s_322_59, s_322_60, s_322_63, s_322_65, s_322_66, s_322_68, s_322_70, s_322_74, s_322_77, s_322_78, s_322_81, s_322_82, s_322_83, s_322_86, s_322_87, s_322_89, s_322_90, s_322_93, s_322_96, s_322_97, s_322_100, s_322_101, s_322_103, s_322_106, s_322_107, s_322_108, s_322_110, s_322_113, s_322_116, s_322_117, s_322_118, s_322_121, s_322_124, s_322_127, s_322_129, e_322, mv_i_1, mv_l_1, mv_a_1, mv_a_2, mv_a_3, mk2_n, mk2_i, mk2_l, mk2_a, mk2_u, mk2_x, mB_T, mB_F, mS_cons, mS_nil, mSB_T, mSB_F, mca_nil, mca_i, mca_l, mca_r, mca_u, mca_x, mcat_i, mcat_l, mcat_r, mcat_u, mcat_x, mK_some, mK_none, va_rf_s, va_rf_n, lgc_eq, lgc_lt, lgc_gt, lgc_ge, lgc_le, mrd_104, mrd_105, mrd_106, mrd_107, true_and, and_true, and_self, false_and, and_false, true_or, or_true, false_or, or_false, not_true_eq_false, not_false_eq_true, mgb, mga, mgr, mN, reduceCtorEq, ↓reduceIte, eq_self, ge_iff_le, gt_iff_lt, Nat.reduceAdd, Nat.reduceMul, Nat.reduceSub, Nat.reduceLT, Nat.reduceGT, Nat.reduceEqDiff, Nat.reduceLeDiff, Nat.left_eq_add, Nat.add_eq_left, Nat.reduceMod, Nat.reduceDiv, Nat.succ_ne_self, pH_g, g, pH_9, q0', n1, n2, q2, bd2, k0, q3, y2]
    generalize pgC K P V N f 2 d (s.at + 1) = r at *
    obtain ⟨j, o⟩ := r
    obtain ⟨gb1, gb2, gb3⟩ := gb
    have gb1' : s.at + 1 ≤ j := gb1
    have gb2' : j < m := gb2
    obtain ⟨T1, T2, T3⟩ := S3
    have T2' : s3.at = j := T2
    have m3 : pSm s.dr s s3 := pSm_t m2 T1
    have w3 := nf_S w2 T1 (by omega)
    rcases T3 with ⟨n, cs, o1, bd3, fl3, dr3, t3, vv⟩ | ⟨o1, bd3, fl3, dr3, dr3', vv⟩
    · have o1' : o = some (tNd n cs) := o1
      subst o1'
      have gs' : 1 + ts cs ≤ 2 * (j - (s.at + 1)) := (gb3 (tNd n cs) rfl).2.1
      have ob := dOf_b (n := n) (cs := cs)
      subst vv
      have q5 := c_314 (D := D + 3) (s := s3) R.F (o := S0) (y := s.dr + dOf n cs) (by omega) (by omega) (fun _ => ⟨L, by omega, w3.2.2.2.2.1⟩)
      obtain ⟨j1, j2, j3, j4⟩ := jn_f (s := s3) (o := S0) (y := s.dr + dOf n cs)
      obtain ⟨s5, hs5⟩ : ∃ x : pst, x = s3.jn S0 (s.dr + dOf n cs) := ⟨_, rfl⟩
      rw [← hs5] at q5 j1 j2 j3 j4
      have w5 : nf s5 S0 (s.K S0) (s.P S0) (s.V S0) (s.F S0) (Int32.ofNat (s.dr + dOf n cs)) (s.N S0) := by rw [hs5]; exact jn2_n w3 eF (by omega) hLS
      have E5 : ∀ z, z ≠ S0 → z ≠ L → pE s3 s5 z := fun z z1 z2 => by rw [hs5]; exact jn2_E w3 eF (by omega) z1 z2
      have X5 := jn2_x (y := s.dr + dOf n cs) w3 eF (by omega)
      rw [← hs5] at X5
      have dr5 : s5.dr = s.dr + (1 + ts cs) := by rw [j4, dr3]
      have at5 : s5.at = j := by rw [j1]; exact T2'
      have t5 : s5.dq (tNd n cs) true s.dr (-1) := dq_S t3 (fun y y1 y2 => E5 y (by omega) (by omega))
      have nl5 : s5.N (s.dr + dOf n cs) = -1 := (dq_N t5).2
      obtain ⟨s6, S6, q6⟩ := il d (D + 4) s5 S0 (s.dr + dOf n cs) x4 (by rw [at5]; omega) (by rw [at5]; exact gb2') (by rw [j2]; exact bd3) hd (by omega) (by rw [at5, dr5]; omega) (by omega) (by omega) (by omega) w5.2.2.2.2.1 (by rw [w5.2.2.2.1]; exact eF) nl5
      rw [at5, dr5] at S6
      refine ⟨s6, ?_, fun Q => by rw [run s5 q5 Q]; exact q6 Q⟩
      show LR P (bnd (pgC K P V N f 4 d j) fun r k => (k, some (tA (tNd n cs) r))) s.at s.dr S0 L s s6
      obtain ⟨U1, U2, U3, U4⟩ := S6
      have gb5 := (pgC_b (P := P) (V := V) (N := N) R.M f 4 d j (by decide) gb2').1
      clear run q6 q5 q3 q2 q0 q0' g R it il
      have F1 : ∀ y, y < s.dr → y ≠ S0 → y ≠ L → pE s s6 y := fun y y1 y2 y3 => pE_t (m3 y y1) (pE_t (E5 y y2 y3) (U1 y (by omega) y2 (by omega)))
      have F2 : ∀ y, y < s.dr → s6.K y = s.K y ∧ s6.P y = s.P y ∧ s6.V y = s.V y ∧ s6.F y = s.F y ∧ (y ≠ L → s6.N y = s.N y) := by
        intro y hy
        obtain ⟨u1, u2, u3, u4, u5⟩ := U2 y (by omega)
        obtain ⟨v1, v2, v3, v4, v5⟩ := X5.2 y
        obtain ⟨z1, z2, z3, z4, z5, z6⟩ := m3 y hy
        exact ⟨u1.trans (v1.trans z1), u2.trans (v2.trans z2), u3.trans (v3.trans z3), u4.trans (v4.trans z4), fun q => (u5 (by omega)).trans ((v5 q).trans z6)⟩
      generalize pgC K P V N f 4 d j = r at *
      obtain ⟨k, o⟩ := r
      obtain ⟨gc1, gc2, gc3⟩ := gb5
      have gc1' : j ≤ k := gc1
      rcases U4 with ⟨t, o2, bd6, fl6, dr6, n6, t6⟩ | ⟨o2, bd6, fl6, dr6, dr6'⟩
      · have o2' : o = some t := o2
        subst o2'
        refine ⟨F1, F2, U3, Or.inl ⟨_, rfl, bd6, by rw [fl6, j3, fl3, fl2], by rw [dr6]; show _ = s.dr + (1 + ts cs + ts t); omega, ?_, ?_⟩⟩
        · show _ = Int32.ofNat (s.dr + dOf n cs)
          rw [(U2 L (by omega)).2.2.2.2 (by omega)]
          exact X5.1
        · have t7 : s6.dq (.branch n cs (.leaf ())) true s.dr (dHd t (s.dr + (1 + ts cs))) := dq_n (x := -1) (fun y y1 y2 => by
            obtain ⟨u1, u2, u3, u4, u5⟩ := U2 y (by omega)
            exact ⟨u1, u2, u3, u4, u5⟩) n6 t5
          exact dq_A (r := .leaf ()) t7 t6
      · have o2' : o = none := o2
        subst o2'
        have dr6'' : s6.dr ≤ s.dr + (1 + ts cs) + 2 * (k - j) + 3 := dr6'
        exact ⟨F1, F2, U3, Or.inr ⟨rfl, bd6, fl6, by omega, by show s6.dr ≤ s.dr + 2 * (k - s.at) + 3; omega⟩⟩
    · have o1' : o = none := o1
      subst o1'
      have dr4' : s3.dr ≤ s.dr + 2 * (j - (s.at + 1)) + 4 := dr3'
      obtain ⟨s5, y1, y2, y3, y4, y5, y6⟩ : ∃ s5, (∀ y, y < s.dr → y ≠ S0 → y ≠ L → pE s s5 y) ∧ (∀ y, y < s.dr → s5.K y = s.K y ∧ s5.P y = s.P y ∧ s5.V y = s.V y ∧ s5.F y = s.F y ∧ (y ≠ L → s5.N y = s.N y)) ∧ s5.at = j ∧ s5.bd = true ∧ (s5.fl = s3.fl ∧ s5.dr = s3.dr) ∧ ∀ Q, mcall (D + 3) 314 [.ref 81, .int (Int32.ofNat S0), .int v3] (pH h s3) Q = Q none (pH h s5) := by
        rcases vv with vv | ⟨y, vv, hy⟩
        · subst vv
          exact ⟨s3, fun y z1 _ _ => m3 y z1, fun y z1 => ⟨(m3 y z1).1, (m3 y z1).2.1, (m3 y z1).2.2.1, (m3 y z1).2.2.2.1, fun _ => (m3 y z1).2.2.2.2.2⟩, T2', bd3, ⟨rfl, rfl⟩, c_314n⟩
        · subst vv
          obtain ⟨j1, j2, j3, j4⟩ := jn_f (s := s3) (o := S0) (y := y)
          have X5 := jn2_x (y := y) w3 eF (by omega)
          refine ⟨s3.jn S0 y, fun z z1 z2 z3 => pE_t (m3 z z1) (jn2_E w3 eF (by omega) z2 z3), fun z z1 => ?_, by rw [j1]; exact T2', by rw [j2]; exact bd3, ⟨j3, j4⟩, c_314 R.F (by omega) (by omega) (fun _ => ⟨L, by omega, w3.2.2.2.2.1⟩)⟩
          obtain ⟨v1, v2, v3, v4, v5⟩ := X5.2 z
          obtain ⟨u1, u2, u3, u4, u5, u6⟩ := m3 z z1
          exact ⟨v1.trans u1, v2.trans u2, v3.trans u3, v4.trans u4, fun q => (v5 q).trans u6⟩
      have q6 := kp4_x (D := D + 3) (s := s5) (d := d) R (by rw [y3]; exact gb2') (S0 := S0) (x4 := x4) (fun z => by rw [y4] at z; exact absurd z.1 (by decide))
      exact ⟨s5, ⟨y1, y2, y3, Or.inr ⟨rfl, y4, by rw [y5.1]; exact fl3, by omega, by show s5.dr ≤ s.dr + 2 * (j - s.at) + 3; omega⟩⟩, fun Q => by rw [run s5 y6 Q]; exact q6 Q⟩
  · rw [if_neg c]
    have q6 := kp4_x (D := D + 3) (s := s) (d := d) R hi (S0 := S0) (x4 := x4) (fun z => c z.2)
    exact ⟨s, ⟨fun _ _ _ _ => pE_r, fun _ _ => ⟨rfl, rfl, rfl, rfl, fun _ => rfl⟩, rfl, Or.inl ⟨_, rfl, eb, rfl, rfl, eN, trivial⟩⟩, q6⟩
end PR4
def PK3 (h : mh_H) (m : Nat) (K : Nat → Int32) (P : Nat → Nat) (V : Nat → Int) (N f : Nat) : Prop := ∀ d D (s : pst) S0 L (x4 : Option Value), 8 * (m - s.at) + 1 ≤ f → s.at < m → s.bd = false → d ≤ 60 → 4 * (62 - d) + 9 ≤ D → s.dr + 2 * (m - s.at) + 7 ≤ 52000 → S0 < s.dr → L < s.dr → L ≠ S0 → s.L S0 = Int32.ofNat L → ¬ s.F S0 = -1 → s.N L = -1 → ∃ s', LR P (pgC K P V N f 3 d s.at) s.at s.dr S0 L s s' ∧ ∀ Q, mw D 322 Q 73 [some (.ref 81), some (.int (Int32.ofNat d)), some (.int 24), some (.int 261), x4, some (.int (Int32.ofNat S0))] [] (pH h s) = Q (some (.int (Int32.ofNat S0))) (pH h s')
section PR3
variable {D f N : Nat} {h : mh_H} {m : Nat} {K : Nat → Int32} {P : Nat → Nat} {V : Nat → Int} {s : pst} {d : Nat}
theorem kp3_x (R : RTK h m K P V) (hi : s.at < m) {S0 : Nat} {x4 : Option Value} (c : ¬ (s.bd = false ∧ K s.at = 133)) : ∀ Q, mw (D + 1) 322 Q 73 [some (.ref 81), some (.int (Int32.ofNat d)), some (.int 24), some (.int 261), x4, some (.int (Int32.ofNat S0))] [] (pH h s) = Q (some (.int (Int32.ofNat S0))) (pH h s) := by
  intro Q
  have g := R.F.g 81 14 70 (by decide +kernel)
  have q0 := c_310 (D := D) R hi
  have lv := lk_v R hi
  have x1 : (rkd (s.lk K) = 261) = False := by
    rw [rk_e lv (c := 133) (y := 261) (by decide) rfl]
    refine eq_false (fun y => ?_)
    cases b : s.bd with
    | true => rw [lk_b b] at y; exact absurd y (by decide)
    | false => rw [lk_0 b] at y; exact c ⟨b, y⟩
  clear R c
  simp (disch := omega) only [s_322_0, s_322_1, s_322_3, s_322_6, s_322_9, s_322_12, s_322_15, s_322_16, s_322_17, s_322_19, s_322_22, s_322_23, s_322_24, s_322_26, s_322_29, s_322_32, s_322_33, s_322_34, s_322_37, s_322_39, s_322_40, s_322_43, s_322_44, s_322_47, s_322_49, s_322_50, s_322_51, s_322_52, s_322_53, s_322_56, s_322_58, s_322_59, s_322_60, s_322_63, s_322_65, s_322_66, s_322_68, s_322_70, s_322_73, s_322_74, s_322_77, s_322_78, s_322_81, s_322_82, s_322_83, s_322_86, s_322_87, s_322_89, s_322_90, s_322_93, s_322_96, s_322_97, s_322_100, s_322_101, s_322_103, s_322_106, s_322_107, s_322_108, s_322_110, s_322_113, s_322_116, s_322_117, s_322_118, s_322_121, s_322_124, s_322_127, s_322_129, e_322, mv_i_1, mv_l_1, mv_a_1, mv_a_2, mv_a_3, mk2_n, mk2_i, mk2_l, mk2_a, mk2_u, mk2_x, mB_T, mB_F, mS_cons, mS_nil, mSB_T, mSB_F, mca_nil, mca_i, mca_l, mca_r, mca_u, mca_x, mcat_i, mcat_l, mcat_r, mcat_u, mcat_x, mK_some, mK_none, va_rf_s, va_rf_n, lgc_eq, lgc_lt, lgc_gt, lgc_ge, lgc_le, mrd_104, mrd_105, mrd_106, mrd_107, true_and, and_true, and_self, false_and, and_false, true_or, or_true, false_or, or_false, not_true_eq_false, not_false_eq_true, mgb, mga, mgr, mN, reduceCtorEq, ↓reduceIte, eq_self, ge_iff_le, gt_iff_lt, Nat.reduceAdd, Nat.reduceMul, Nat.reduceSub, Nat.reduceLT, Nat.reduceGT, Nat.reduceEqDiff, Nat.reduceLeDiff, Nat.left_eq_add, Nat.add_eq_left, Nat.reduceMod, Nat.reduceDiv, Nat.succ_ne_self, pH_g, g, q0, x1]
theorem kp3_s (R : RTK h m K P V) (it : PC1 h m K P V N f) (il : PK3 h m K P V N f) : PK3 h m K P V N (f + 1) := by
  intro d D s S0 L x4 hf hi eb hd hD hr hS hL hLS eL eF eN
  obtain ⟨D, rfl⟩ : ∃ D', D = D' + 4 := ⟨D - 4, by omega⟩
  rw [pgC_3]
  by_cases c : K s.at = 133
  · rw [if_pos c]
    have hm := R.m
    have h1 := tkM_s R.M hi c (by decide) (by decide)
    have g := R.F.g 81 14 70 (by decide +kernel)
    have k0 : kb false = 0 := rfl
    have q0 := c_310 (D := D + 3) R hi
    rw [lk_0 eb, c] at q0
    have q0' : ∀ Q, mcall (D + 3) 310 [.ref 81] (pH h s) Q = Q (some (.int 261)) (pH h s) := q0
    have n1 : ((261 : Int32) = 261) = True := by decide
    have n2 : ((24 : Int32) = 24) = True := by decide
    have q2 := c_312 (D := D + 2) (s := s) R hi (c := 133) (y := 261) (by decide) rfl (by decide)
    rw [tk_1 eb c] at q2
    obtain ⟨s2, hs2⟩ : ∃ x : pst, x = s.uA (s.at + 1) := ⟨_, rfl⟩
    rw [← hs2] at q2
    have at2 : s2.at = s.at + 1 := by rw [hs2]; rfl
    have bd2 : s2.bd = false := by rw [hs2]; exact eb
    have fl2 : s2.fl = s.fl := by rw [hs2]; rfl
    have dr2 : s2.dr = s.dr := by rw [hs2]; rfl
    have m2 : pSm s.dr s s2 := by rw [hs2]; exact uA_m
    have w2 : nf s2 S0 (s.K S0) (s.P S0) (s.V S0) (s.F S0) (Int32.ofNat L) (s.N S0) := nf_S ⟨rfl, rfl, rfl, rfl, eL, rfl⟩ m2 hS
    obtain ⟨s3, v3, S3, q3⟩ := it d (D + 3) s2 (by rw [at2]; omega) (by rw [at2]; exact h1) bd2 hd (by omega) (by rw [at2, dr2]; omega)
    have gb := (pgC_b (P := P) (V := V) (N := N) R.M f 1 d (s.at + 1) (by decide) h1).1
    rw [at2, dr2] at S3
    have run : ∀ s5, (∀ Q, mcall (D + 3) 314 [.ref 81, .int (Int32.ofNat S0), .int v3] (pH h s3) Q = Q none (pH h s5)) → ∀ Q, mw (D + 4) 322 Q 73 [some (.ref 81), some (.int (Int32.ofNat d)), some (.int 24), some (.int 261), x4, some (.int (Int32.ofNat S0))] [] (pH h s) = mw (D + 4) 322 Q 73 [some (.ref 81), some (.int (Int32.ofNat d)), some (.int 24), some (.int 261), x4, some (.int (Int32.ofNat S0))] [] (pH h s5) := by
      intro s5 y2 Q
      clear R it il S3 gb m2 w2
      rw [s_322_73]
      simp (disch := omega) only [s_322_0, s_322_1, s_322_3, s_322_6, s_322_9, s_322_12, s_322_15, s_322_16, s_322_17, s_322_19, s_322_22, s_322_23, s_322_24, s_322_26, s_322_29, s_322_32, s_322_33, s_322_34, s_322_37, s_322_39, s_322_40, s_322_43, s_322_44, s_322_47, s_322_49, s_322_50, s_322_51, s_322_52, s_322_53, s_322_56, s_322_58, s_322_59, s_322_60, s_322_63, s_322_65, s_322_66, s_322_68, s_322_70, s_322_74, s_322_77, s_322_78, s_322_81, s_322_82, s_322_83, s_322_86, s_322_87, s_322_89, s_322_90, s_322_93, s_322_96, s_322_97, s_322_100, s_322_101, s_322_103, s_322_106, s_322_107, s_322_108, s_322_110, s_322_113, s_322_116, s_322_117, s_322_118, s_322_121, s_322_124, s_322_127, s_322_129, e_322, mv_i_1, mv_l_1, mv_a_1, mv_a_2, mv_a_3, mk2_n, mk2_i, mk2_l, mk2_a, mk2_u, mk2_x, mB_T, mB_F, mS_cons, mS_nil, mSB_T, mSB_F, mca_nil, mca_i, mca_l, mca_r, mca_u, mca_x, mcat_i, mcat_l, mcat_r, mcat_u, mcat_x, mK_some, mK_none, va_rf_s, va_rf_n, lgc_eq, lgc_lt, lgc_gt, lgc_ge, lgc_le, mrd_104, mrd_105, mrd_106, mrd_107, true_and, and_true, and_self, false_and, and_false, true_or, or_true, false_or, or_false, not_true_eq_false, not_false_eq_true, mgb, mga, mgr, mN, reduceCtorEq, ↓reduceIte, eq_self, ge_iff_le, gt_iff_lt, Nat.reduceAdd, Nat.reduceMul, Nat.reduceSub, Nat.reduceLT, Nat.reduceGT, Nat.reduceEqDiff, Nat.reduceLeDiff, Nat.left_eq_add, Nat.add_eq_left, Nat.reduceMod, Nat.reduceDiv, Nat.succ_ne_self, pH_g, g, pH_9, q0', n1, n2, q2, bd2, k0, q3, y2]
    generalize pgC K P V N f 1 d (s.at + 1) = r at *
    obtain ⟨j, o⟩ := r
    obtain ⟨gb1, gb2, gb3⟩ := gb
    have gb1' : s.at + 1 ≤ j := gb1
    have gb2' : j < m := gb2
    obtain ⟨T1, T2, T3⟩ := S3
    have T2' : s3.at = j := T2
    have m3 : pSm s.dr s s3 := pSm_t m2 T1
    have w3 := nf_S w2 T1 (by omega)
    rcases T3 with ⟨n, cs, o1, bd3, fl3, dr3, t3, vv⟩ | ⟨o1, bd3, fl3, dr3, dr3', vv⟩
    · have o1' : o = some (tNd n cs) := o1
      subst o1'
      have gs' : 1 + ts cs ≤ 2 * (j - (s.at + 1)) := (gb3 (tNd n cs) rfl).2.1
      have ob := dOf_b (n := n) (cs := cs)
      subst vv
      have q5 := c_314 (D := D + 3) (s := s3) R.F (o := S0) (y := s.dr + dOf n cs) (by omega) (by omega) (fun _ => ⟨L, by omega, w3.2.2.2.2.1⟩)
      obtain ⟨j1, j2, j3, j4⟩ := jn_f (s := s3) (o := S0) (y := s.dr + dOf n cs)
      obtain ⟨s5, hs5⟩ : ∃ x : pst, x = s3.jn S0 (s.dr + dOf n cs) := ⟨_, rfl⟩
      rw [← hs5] at q5 j1 j2 j3 j4
      have w5 : nf s5 S0 (s.K S0) (s.P S0) (s.V S0) (s.F S0) (Int32.ofNat (s.dr + dOf n cs)) (s.N S0) := by rw [hs5]; exact jn2_n w3 eF (by omega) hLS
      have E5 : ∀ z, z ≠ S0 → z ≠ L → pE s3 s5 z := fun z z1 z2 => by rw [hs5]; exact jn2_E w3 eF (by omega) z1 z2
      have X5 := jn2_x (y := s.dr + dOf n cs) w3 eF (by omega)
      rw [← hs5] at X5
      have dr5 : s5.dr = s.dr + (1 + ts cs) := by rw [j4, dr3]
      have at5 : s5.at = j := by rw [j1]; exact T2'
      have t5 : s5.dq (tNd n cs) true s.dr (-1) := dq_S t3 (fun y y1 y2 => E5 y (by omega) (by omega))
      have nl5 : s5.N (s.dr + dOf n cs) = -1 := (dq_N t5).2
      obtain ⟨s6, S6, q6⟩ := il d (D + 4) s5 S0 (s.dr + dOf n cs) x4 (by rw [at5]; omega) (by rw [at5]; exact gb2') (by rw [j2]; exact bd3) hd (by omega) (by rw [at5, dr5]; omega) (by omega) (by omega) (by omega) w5.2.2.2.2.1 (by rw [w5.2.2.2.1]; exact eF) nl5
      rw [at5, dr5] at S6
      refine ⟨s6, ?_, fun Q => by rw [run s5 q5 Q]; exact q6 Q⟩
      show LR P (bnd (pgC K P V N f 3 d j) fun r k => (k, some (tA (tNd n cs) r))) s.at s.dr S0 L s s6
      obtain ⟨U1, U2, U3, U4⟩ := S6
      have gb5 := (pgC_b (P := P) (V := V) (N := N) R.M f 3 d j (by decide) gb2').1
      clear run q6 q5 q3 q2 q0 q0' g R it il
      have F1 : ∀ y, y < s.dr → y ≠ S0 → y ≠ L → pE s s6 y := fun y y1 y2 y3 => pE_t (m3 y y1) (pE_t (E5 y y2 y3) (U1 y (by omega) y2 (by omega)))
      have F2 : ∀ y, y < s.dr → s6.K y = s.K y ∧ s6.P y = s.P y ∧ s6.V y = s.V y ∧ s6.F y = s.F y ∧ (y ≠ L → s6.N y = s.N y) := by
        intro y hy
        obtain ⟨u1, u2, u3, u4, u5⟩ := U2 y (by omega)
        obtain ⟨v1, v2, v3, v4, v5⟩ := X5.2 y
        obtain ⟨z1, z2, z3, z4, z5, z6⟩ := m3 y hy
        exact ⟨u1.trans (v1.trans z1), u2.trans (v2.trans z2), u3.trans (v3.trans z3), u4.trans (v4.trans z4), fun q => (u5 (by omega)).trans ((v5 q).trans z6)⟩
      generalize pgC K P V N f 3 d j = r at *
      obtain ⟨k, o⟩ := r
      obtain ⟨gc1, gc2, gc3⟩ := gb5
      have gc1' : j ≤ k := gc1
      rcases U4 with ⟨t, o2, bd6, fl6, dr6, n6, t6⟩ | ⟨o2, bd6, fl6, dr6, dr6'⟩
      · have o2' : o = some t := o2
        subst o2'
        refine ⟨F1, F2, U3, Or.inl ⟨_, rfl, bd6, by rw [fl6, j3, fl3, fl2], by rw [dr6]; show _ = s.dr + (1 + ts cs + ts t); omega, ?_, ?_⟩⟩
        · show _ = Int32.ofNat (s.dr + dOf n cs)
          rw [(U2 L (by omega)).2.2.2.2 (by omega)]
          exact X5.1
        · have t7 : s6.dq (.branch n cs (.leaf ())) true s.dr (dHd t (s.dr + (1 + ts cs))) := dq_n (x := -1) (fun y y1 y2 => by
            obtain ⟨u1, u2, u3, u4, u5⟩ := U2 y (by omega)
            exact ⟨u1, u2, u3, u4, u5⟩) n6 t5
          exact dq_A (r := .leaf ()) t7 t6
      · have o2' : o = none := o2
        subst o2'
        have dr6'' : s6.dr ≤ s.dr + (1 + ts cs) + 2 * (k - j) + 3 := dr6'
        exact ⟨F1, F2, U3, Or.inr ⟨rfl, bd6, fl6, by omega, by show s6.dr ≤ s.dr + 2 * (k - s.at) + 3; omega⟩⟩
    · have o1' : o = none := o1
      subst o1'
      have dr4' : s3.dr ≤ s.dr + 2 * (j - (s.at + 1)) + 4 := dr3'
      obtain ⟨s5, y1, y2, y3, y4, y5, y6⟩ : ∃ s5, (∀ y, y < s.dr → y ≠ S0 → y ≠ L → pE s s5 y) ∧ (∀ y, y < s.dr → s5.K y = s.K y ∧ s5.P y = s.P y ∧ s5.V y = s.V y ∧ s5.F y = s.F y ∧ (y ≠ L → s5.N y = s.N y)) ∧ s5.at = j ∧ s5.bd = true ∧ (s5.fl = s3.fl ∧ s5.dr = s3.dr) ∧ ∀ Q, mcall (D + 3) 314 [.ref 81, .int (Int32.ofNat S0), .int v3] (pH h s3) Q = Q none (pH h s5) := by
        rcases vv with vv | ⟨y, vv, hy⟩
        · subst vv
          exact ⟨s3, fun y z1 _ _ => m3 y z1, fun y z1 => ⟨(m3 y z1).1, (m3 y z1).2.1, (m3 y z1).2.2.1, (m3 y z1).2.2.2.1, fun _ => (m3 y z1).2.2.2.2.2⟩, T2', bd3, ⟨rfl, rfl⟩, c_314n⟩
        · subst vv
          obtain ⟨j1, j2, j3, j4⟩ := jn_f (s := s3) (o := S0) (y := y)
          have X5 := jn2_x (y := y) w3 eF (by omega)
          refine ⟨s3.jn S0 y, fun z z1 z2 z3 => pE_t (m3 z z1) (jn2_E w3 eF (by omega) z2 z3), fun z z1 => ?_, by rw [j1]; exact T2', by rw [j2]; exact bd3, ⟨j3, j4⟩, c_314 R.F (by omega) (by omega) (fun _ => ⟨L, by omega, w3.2.2.2.2.1⟩)⟩
          obtain ⟨v1, v2, v3, v4, v5⟩ := X5.2 z
          obtain ⟨u1, u2, u3, u4, u5, u6⟩ := m3 z z1
          exact ⟨v1.trans u1, v2.trans u2, v3.trans u3, v4.trans u4, fun q => (v5 q).trans u6⟩
      have q6 := kp3_x (D := D + 3) (s := s5) (d := d) R (by rw [y3]; exact gb2') (S0 := S0) (x4 := x4) (fun z => by rw [y4] at z; exact absurd z.1 (by decide))
      exact ⟨s5, ⟨y1, y2, y3, Or.inr ⟨rfl, y4, by rw [y5.1]; exact fl3, by omega, by show s5.dr ≤ s.dr + 2 * (j - s.at) + 3; omega⟩⟩, fun Q => by rw [run s5 y6 Q]; exact q6 Q⟩
  · rw [if_neg c]
    have q6 := kp3_x (D := D + 3) (s := s) (d := d) R hi (S0 := S0) (x4 := x4) (fun z => c z.2)
    exact ⟨s, ⟨fun _ _ _ _ => pE_r, fun _ _ => ⟨rfl, rfl, rfl, rfl, fun _ => rfl⟩, rfl, Or.inl ⟨_, rfl, eb, rfl, rfl, eN, trivial⟩⟩, q6⟩
end PR3
