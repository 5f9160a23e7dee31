set_option maxRecDepth 100000
section KL3
variable {d : Nat} {h : mh_H} {o p : Nat} {A B : ab}
/-- become -/
theorem k_281 {A : Option ab} (hs : ko h o) (r : RK h p A) (hop : o ≠ p) : ∃ h', fq (kW o) h h' ∧ RK h' o A ∧ ∀ Q, mcall d 281 [.ref o, .ref p] h Q = Q none h' := by
  have hp := RK_ko r
  have N := ko_ap hs hp hop
  have n21 := N 2 1 (by omega) (by omega)
  have n31 := N 3 1 (by omega) (by omega)
  have n32 := N 3 2 (by omega) (by omega)
  have n40 := N 4 0 (by omega) (by omega)
  have n41 := N 4 1 (by omega) (by omega)
  have n42 := N 4 2 (by omega) (by omega)
  have n43 := N 4 3 (by omega) (by omega)
  have m01 : ¬ o = o + 1 := by omega
  have m02 : ¬ o = o + 2 := by omega
  have m03 : ¬ o = o + 3 := by omega
  have m04 : ¬ o = o + 4 := by omega
  have m12 : ¬ o + 1 = o + 2 := by omega
  have m13 : ¬ o + 1 = o + 3 := by omega
  have m14 : ¬ o + 1 = o + 4 := by omega
  have m23 : ¬ o + 2 = o + 3 := by omega
  have m24 : ¬ o + 2 = o + 4 := by omega
  have m34 : ¬ o + 3 = o + 4 := by omega
  have hz : mh_i h p 0 = 0 ∨ mh_i h p 0 = 1 := by
    cases A with
    | none => exact Or.inr (KN.z r)
    | some A => exact Or.inl (KM.z r)
  have I0 : ∀ k, mh_i (kbec h o p) o k = if k = 2 then mh_i h p 2 else if k = 1 then mh_i h p 1 else if k = 0 then mh_i h p 0 else mh_i h o k := fun k => by
    unfold kbec
    simp only [hi_cp, hi_si, m01, m02, m03, m04, false_and, if_false, true_and]
  refine ⟨_, ?f, ?r, fun Q => c_281 hs hp hop hz⟩
  case f =>
    unfold kbec
    exact fq_t (fq_t (fq_t (fq_t (fq_t (fq_t (fq_si kW0) (fq_si kW0)) (fq_si kW0)) (fq_cp kW1)) (fq_cp kW2)) (fq_cp kW3)) (fq_cp kW4)
  case r =>
    cases A with
    | none =>
      have r : KN h p := r
      obtain ⟨n, hn, en⟩ := r.n
      obtain ⟨a, ha, ea⟩ := r.a
      refine ⟨hs, ?_, ⟨n, hn, ?_⟩, ⟨a, ha, ?_⟩⟩
      · rw [I0]; exact r.z
      · rw [I0]; exact en
      · rw [I0]; exact ea
    | some A =>
      have r : KM h p A := r
      have n12 := r.n12
      have a6 := r.a6
      refine ⟨hs, ?_, ?_, r.n12, ?_, r.a6, fun i j hi hj => ?_, fun x hx => ?_, fun x hx => ?_, fun x hx => ?_⟩
      · rw [I0]; exact r.z
      · rw [I0]; exact r.n
      · rw [I0]; exact r.a
      · have e : mh_j (kbec h o p) (o + 1) (24 * i + j) = mh_j h (p + 1) (24 * i + j) := by
          have c : 24 * i + j < 576 := by omega
          unfold kbec
          simp only [hj_cp, hj_si, m12, m13, m14, false_and, if_false, true_and, Nat.zero_le, Nat.zero_add, Nat.sub_zero, c, if_true]
        rw [e]; exact r.m i j hi hj
      · have e : mh_j (kbec h o p) (o + 2) x = mh_j h (p + 2) x := by
          have c : x < 6 := by omega
          unfold kbec
          simp only [hj_cp, hj_si, m23, m24, n21, false_and, if_false, true_and, Nat.zero_le, Nat.zero_add, Nat.sub_zero, c, if_true]
        rw [e]; exact r.lo x hx
      · have e : mh_j (kbec h o p) (o + 3) x = mh_j h (p + 3) x := by
          have c : x < 6 := by omega
          unfold kbec
          simp only [hj_cp, hj_si, m34, n31, n32, false_and, if_false, true_and, Nat.zero_le, Nat.zero_add, Nat.sub_zero, c, if_true]
        rw [e]; exact r.hi x hx
      · have e : mh_i (kbec h o p) (o + 4) x = mh_i h (p + 4) x := by
          have c : x < 6 := by omega
          have n40' : ¬ p + 4 = o := n40
          unfold kbec
          simp only [hi_cp, hi_si, n40', n41, n42, n43, false_and, if_false, true_and, Nat.zero_le, Nat.zero_add, Nat.sub_zero, c, if_true]
        rw [e]; exact r.rm x hx
theorem lmax_int {x w : Int64} : (lmax x w).toInt = max x.toInt w.toInt := by
  unfold lmax
  by_cases c : w < x
  · rw [if_pos c]
    have := Int64.lt_iff_toInt_lt.mp c
    omega
  · rw [if_neg c]
    have : ¬ w.toInt < x.toInt := fun z => c (Int64.lt_iff_toInt_lt.mpr z)
    omega
/-- join -/
theorem k_293 (r : RK h o (some A)) (q : RK h p (some B)) (hop : o ≠ p) (hn : A.n = B.n) (ha : A.a = B.a) : ∃ h', fq (kW o) h h' ∧ RK h' o (some (a_join A B)) ∧ ∀ Q, mcall (d + 1) 293 [.ref o, .ref p] h Q = Q none h' := by
  have r : KM h o A := r
  have q : KM h p B := q
  have n12 := r.n12
  refine ⟨_, ?f, ?r, fun Q => c_293 r.s q.s hop r.n r.n12 r.a r.a6 r.z q.z⟩
  case f => exact fq_t (fq_t (fq_J kW1) (fq_J kW2)) (fq_J kW3)
  case r =>
    refine ⟨r.s, r.z, r.n, r.n12, r.a, r.a6, fun i j hi hj => ?_, fun x hx => ?_, fun x hx => ?_, fun x hx => r.rm x hx⟩
    · have hi : i < 2 * A.n := hi
      have hj : j < 2 * A.n := hj
      show _ = max (A.m (oc_b i) j) (B.m (oc_b i) j)
      rw [hj_J, if_neg (by omega), hj_J, if_neg (by omega), hj_J, if_pos rfl, kr_T n12 hi hj, lmax_int, r.m i j hi hj, q.m i j (by omega) (by omega)]
    · have hx : x < A.a := hx
      show _ = min (A.lo x) (B.lo x)
      rw [hj_J, if_neg (by omega), hj_J, if_pos rfl, if_pos hx, lmin_int, r.lo x hx, q.lo x (by omega)]
    · have hx : x < A.a := hx
      show _ = max (A.hi x) (B.hi x)
      rw [hj_J, if_pos rfl, if_pos hx, lmax_int, r.hi x hx, q.hi x (by omega)]
theorem k_293m {A : Option ab} (r : RK h o A) (q : RK h p none) : ∃ h', fq (kW o) h h' ∧ RK h' o A ∧ ∀ Q, mcall (d + 1) 293 [.ref o, .ref p] h Q = Q none h' := by
  have q : KN h p := q
  refine ⟨h, fq_id, r, fun Q => ?_⟩
  have s2 := q.s.1
  have z2 := q.z
  have e : ((1 : Int32) = 0) = False := by decide
  simp only [s_293_0, s_293_1, s_293_4, s_293_7, s_293_8, s_293_9, s_293_12, s_293_15, s_293_16, s_293_17, s_293_20, s_293_21, s_293_22, s_293_23, s_293_24, s_293_25, s_293_26, s_293_29, s_293_30, s_293_33, s_293_34, s_293_35, s_293_36, s_293_37, s_293_38, s_293_41, s_293_42, s_293_45, s_293_46, s_293_49, s_293_51, s_293_52, s_293_53, s_293_54, s_293_55, s_293_56, s_293_59, s_293_61, s_293_62, s_293_63, s_293_64, s_293_65, s_293_66, s_293_67, s_293_70, s_293_72, s_293_73, s_293_74, s_293_75, s_293_76, s_293_77, s_293_80, s_293_81, s_293_84, s_293_87, s_293_90, s_293_93, s_293_94, s_293_95, s_293_96, s_293_97, s_293_100, s_293_103, s_293_104, s_293_107, s_293_108, s_293_109, s_293_112, s_293_113, s_293_114, s_293_115, s_293_118, s_293_119, s_293_120, s_293_123, s_293_124, s_293_125, s_293_128, s_293_129, s_293_130, s_293_133, s_293_134, s_293_135, s_293_136, s_293_139, s_293_140, s_293_141, s_293_144, s_293_145, s_293_148, s_293_151, e_293, mv_i_1, mv_l_1, mv_a_1, mv_a_2, mv_a_3, mk2_n, mk2_i, mk2_l, mk2_a, mk2_u, mk2_x, mB_T, mB_F, mS_cons, mS_nil, mSB_T, mSB_F, mca_nil, mca_i, mca_l, mca_r, mca_u, mca_x, mcat_i, mcat_l, mcat_r, mcat_u, mcat_x, mK_some, mK_none, va_rf_s, va_rf_n, lgc_eq, lgc_lt, lgc_gt, lgc_ge, lgc_le, mrd_104, mrd_105, mrd_106, mrd_107, true_and, and_true, and_self, false_and, and_false, true_or, or_true, false_or, or_false, not_true_eq_false, not_false_eq_true, mgb, mga, mgr, mN, reduceCtorEq, ↓reduceIte, eq_self, ge_iff_le, gt_iff_lt, s2, z2, e]
theorem k_293n (r : RK h o none) (q : RK h p (some B)) (hop : o ≠ p) : ∃ h', fq (kW o) h h' ∧ RK h' o (some B) ∧ ∀ Q, mcall (d + 1) 293 [.ref o, .ref p] h Q = Q none h' := by
  obtain ⟨h', f, rr, cc⟩ := k_281 (d := d) (RK_ko r) q hop
  have r : KN h o := r
  have q : KM h p B := q
  refine ⟨h', f, rr, fun Q => ?_⟩
  have s1 := r.s.1
  have z1 := r.z
  have s2 := q.s.1
  have z2 := q.z
  have e : ((1 : Int32) = 0) = False := by decide
  simp only [s_293_0, s_293_1, s_293_4, s_293_7, s_293_8, s_293_9, s_293_12, s_293_15, s_293_16, s_293_17, s_293_20, s_293_21, s_293_22, s_293_23, s_293_24, s_293_25, s_293_26, s_293_29, s_293_30, s_293_33, s_293_34, s_293_35, s_293_36, s_293_37, s_293_38, s_293_41, s_293_42, s_293_45, s_293_46, s_293_49, s_293_51, s_293_52, s_293_53, s_293_54, s_293_55, s_293_56, s_293_59, s_293_61, s_293_62, s_293_63, s_293_64, s_293_65, s_293_66, s_293_67, s_293_70, s_293_72, s_293_73, s_293_74, s_293_75, s_293_76, s_293_77, s_293_80, s_293_81, s_293_84, s_293_87, s_293_90, s_293_93, s_293_94, s_293_95, s_293_96, s_293_97, s_293_100, s_293_103, s_293_104, s_293_107, s_293_108, s_293_109, s_293_112, s_293_113, s_293_114, s_293_115, s_293_118, s_293_119, s_293_120, s_293_123, s_293_124, s_293_125, s_293_128, s_293_129, s_293_130, s_293_133, s_293_134, s_293_135, s_293_136, s_293_139, s_293_140, s_293_141, s_293_144, s_293_145, s_293_148, s_293_151, e_293, mv_i_1, mv_l_1, mv_a_1, mv_a_2, mv_a_3, mk2_n, mk2_i, mk2_l, mk2_a, mk2_u, mk2_x, mB_T, mB_F, mS_cons, mS_nil, mSB_T, mSB_F, mca_nil, mca_i, mca_l, mca_r, mca_u, mca_x, mcat_i, mcat_l, mcat_r, mcat_u, mcat_x, mK_some, mK_none, va_rf_s, va_rf_n, lgc_eq, lgc_lt, lgc_gt, lgc_ge, lgc_le, mrd_104, mrd_105, mrd_106, mrd_107, true_and, and_true, and_self, false_and, and_false, true_or, or_true, false_or, or_false, not_true_eq_false, not_false_eq_true, mgb, mga, mgr, mN, reduceCtorEq, ↓reduceIte, eq_self, ge_iff_le, gt_iff_lt, s1, z1, s2, z2, e, cc]
theorem k_293o {A B : Option ab} (r : RK h o A) (q : RK h p B) (hop : o ≠ p) (hn : ∀ A' B', A = some A' → B = some B' → A'.n = B'.n ∧ A'.a = B'.a) : ∃ h', fq (kW o) h h' ∧ RK h' o (o_join A B) ∧ ∀ Q, mcall (d + 1) 293 [.ref o, .ref p] h Q = Q none h' := by
  cases B with
  | none =>
    have e : o_join A none = A := by cases A <;> rfl
    rw [e]; exact k_293m r q
  | some B =>
    cases A with
    | none => exact k_293n r q hop
    | some A => exact k_293 r q hop (hn A B rfl rfl).1 (hn A B rfl rfl).2
/-- widen -/
theorem k_295 (r : RK h o (some A)) (q : RK h p (some B)) (hop : o ≠ p) (hn : A.n = B.n) (ha : A.a = B.a) (hd : ∀ i, i < 2 * A.n → A.m i i = 0 ∧ B.m i i = 0) : ∃ h', fq (kW o) h h' ∧ RK h' o (some (a_wid A B)) ∧ ∀ Q, mcall (d + 2) 295 [.ref o, .ref p] h Q = Q none h' := by
  have r : KM h o A := r
  have q : KM h p B := q
  have n12 := r.n12
  refine ⟨_, ?f, ?r, fun Q => c_295 r.s q.s hop r.n r.n12 r.a r.a6⟩
  case f => exact fq_t (fq_t (fq_J kW1) (fq_J kW2)) (fq_J kW3)
  case r =>
    refine ⟨r.s, r.z, r.n, r.n12, r.a, r.a6, fun i j hi hj => ?_, fun x hx => ?_, fun x hx => ?_, fun x hx => r.rm x hx⟩
    · have hi : i < 2 * A.n := hi
      have hj : j < 2 * A.n := hj
      have d1 : (24 * i + j) / 24 = i := by omega
      have d2 : (24 * i + j) % 24 = j := by omega
      show _ = if A.m (oc_b i) j < B.m (oc_b i) j then gI j + gI (oc_b (oc_b i)) else A.m (oc_b i) j
      rw [hj_J, if_neg (by omega), hj_J, if_neg (by omega), hj_J, if_pos rfl, kr_T n12 hi hj, ← r.m i j hi hj, ← q.m i j (by omega) (by omega)]
      unfold kw_f
      by_cases c : mh_j h (o + 1) (24 * i + j) < mh_j h (p + 1) (24 * i + j)
      · have c' := Int64.lt_iff_toInt_lt.mp c
        rw [if_pos c, if_pos c', d1, d2, oc_bb]
        unfold k_far
        have ne : ¬ j = oc_b i := fun z => by
          rw [r.m i j hi hj, q.m i j (by omega) (by omega), z, (hd _ (oc_bl hi)).1, (hd _ (oc_bl hi)).2] at c'
          omega
        have a := gI_r i
        have b := gI_r j
        rw [← gI_sg] at a b
        rw [if_neg ne, ladd_int (by omega) (by omega), gI_sg, gI_sg]; omega
      · rw [if_neg c, if_neg (fun z => c (Int64.lt_iff_toInt_lt.mpr z))]
    · have hx : x < A.a := hx
      show _ = if B.lo x < A.lo x then -2147483648 else A.lo x
      rw [hj_J, if_neg (by omega), hj_J, if_pos rfl, ← r.lo x hx, ← q.lo x (by omega)]
      unfold kw_l
      rw [if_pos hx]
      by_cases c : mh_j h (p + 2) x < mh_j h (o + 2) x
      · rw [if_pos c, if_pos (Int64.lt_iff_toInt_lt.mp c)]; rfl
      · rw [if_neg c, if_neg (fun z => c (Int64.lt_iff_toInt_lt.mpr z))]
    · have hx : x < A.a := hx
      show _ = if A.hi x < B.hi x then 2147483647 else A.hi x
      rw [hj_J, if_pos rfl, ← r.hi x hx, ← q.hi x (by omega)]
      unfold kw_g
      rw [if_pos hx]
      by_cases c : mh_j h (o + 3) x < mh_j h (p + 3) x
      · rw [if_pos c, if_pos (Int64.lt_iff_toInt_lt.mp c)]; rfl
      · rw [if_neg c, if_neg (fun z => c (Int64.lt_iff_toInt_lt.mpr z))]
/-- lies -/
theorem k_294n {B : Option ab} (r : RK h o none) (q : RK h p B) : ∀ Q, mcall (d + 1) 294 [.ref o, .ref p] h Q = Q (some (.int 1)) h := by
  intro Q
  have r : KN h o := r
  have s1 := r.s.1
  have z := r.z
  have e : ((1 : Int32) = 0) = False := by decide
  simp only [s_294_0, s_294_1, s_294_4, s_294_7, s_294_8, s_294_11, s_294_14, s_294_15, s_294_18, s_294_19, s_294_20, s_294_21, s_294_22, s_294_23, s_294_24, s_294_25, s_294_26, s_294_29, s_294_30, s_294_33, s_294_34, s_294_36, s_294_38, s_294_39, s_294_40, s_294_43, s_294_44, s_294_47, s_294_48, s_294_49, s_294_52, s_294_54, s_294_55, s_294_56, s_294_58, s_294_59, s_294_60, s_294_61, s_294_64, s_294_66, s_294_67, s_294_68, s_294_70, s_294_71, s_294_72, s_294_73, s_294_76, s_294_77, s_294_80, s_294_81, s_294_82, s_294_83, s_294_86, s_294_89, s_294_92, s_294_95, s_294_96, s_294_97, s_294_98, s_294_99, s_294_102, s_294_105, s_294_106, s_294_107, s_294_110, s_294_111, s_294_112, s_294_113, s_294_116, s_294_117, s_294_118, s_294_119, s_294_122, s_294_123, s_294_126, s_294_127, s_294_128, s_294_129, s_294_132, s_294_133, s_294_134, s_294_135, s_294_138, s_294_139, s_294_142, s_294_143, s_294_144, s_294_145, s_294_148, s_294_151, s_294_152, e_294, mv_i_1, mv_l_1, mv_a_1, mv_a_2, mv_a_3, mk2_n, mk2_i, mk2_l, mk2_a, mk2_u, mk2_x, mB_T, mB_F, mS_cons, mS_nil, mSB_T, mSB_F, mca_nil, mca_i, mca_l, mca_r, mca_u, mca_x, mcat_i, mcat_l, mcat_r, mcat_u, mcat_x, mK_some, mK_none, va_rf_s, va_rf_n, lgc_eq, lgc_lt, lgc_gt, lgc_ge, lgc_le, mrd_104, mrd_105, mrd_106, mrd_107, true_and, and_true, and_self, false_and, and_false, true_or, or_true, false_or, or_false, not_true_eq_false, not_false_eq_true, mgb, mga, mgr, mN, reduceCtorEq, ↓reduceIte, eq_self, ge_iff_le, gt_iff_lt, s1, z, e]
theorem k_294m (r : RK h o (some A)) (q : RK h p none) : ∀ Q, mcall (d + 1) 294 [.ref o, .ref p] h Q = Q (some (.int 0)) h := by
  intro Q
  have r : KM h o A := r
  have q : KN h p := q
  have s1 := r.s.1
  have z := r.z
  have s2 := q.s.1
  have z2 := q.z
  have e : ((1 : Int32) = 0) = False := by decide
  simp only [s_294_0, s_294_1, s_294_4, s_294_7, s_294_8, s_294_11, s_294_14, s_294_15, s_294_18, s_294_19, s_294_20, s_294_21, s_294_22, s_294_23, s_294_24, s_294_25, s_294_26, s_294_29, s_294_30, s_294_33, s_294_34, s_294_36, s_294_38, s_294_39, s_294_40, s_294_43, s_294_44, s_294_47, s_294_48, s_294_49, s_294_52, s_294_54, s_294_55, s_294_56, s_294_58, s_294_59, s_294_60, s_294_61, s_294_64, s_294_66, s_294_67, s_294_68, s_294_70, s_294_71, s_294_72, s_294_73, s_294_76, s_294_77, s_294_80, s_294_81, s_294_82, s_294_83, s_294_86, s_294_89, s_294_92, s_294_95, s_294_96, s_294_97, s_294_98, s_294_99, s_294_102, s_294_105, s_294_106, s_294_107, s_294_110, s_294_111, s_294_112, s_294_113, s_294_116, s_294_117, s_294_118, s_294_119, s_294_122, s_294_123, s_294_126, s_294_127, s_294_128, s_294_129, s_294_132, s_294_133, s_294_134, s_294_135, s_294_138, s_294_139, s_294_142, s_294_143, s_294_144, s_294_145, s_294_148, s_294_151, s_294_152, e_294, mv_i_1, mv_l_1, mv_a_1, mv_a_2, mv_a_3, mk2_n, mk2_i, mk2_l, mk2_a, mk2_u, mk2_x, mB_T, mB_F, mS_cons, mS_nil, mSB_T, mSB_F, mca_nil, mca_i, mca_l, mca_r, mca_u, mca_x, mcat_i, mcat_l, mcat_r, mcat_u, mcat_x, mK_some, mK_none, va_rf_s, va_rf_n, lgc_eq, lgc_lt, lgc_gt, lgc_ge, lgc_le, mrd_104, mrd_105, mrd_106, mrd_107, true_and, and_true, and_self, false_and, and_false, true_or, or_true, false_or, or_false, not_true_eq_false, not_false_eq_true, mgb, mga, mgr, mN, reduceCtorEq, ↓reduceIte, eq_self, ge_iff_le, gt_iff_lt, s1, z, s2, z2, e]
theorem k_294 (r : RK h o (some A)) (q : RK h p (some B)) (hn : A.n = B.n) (ha : A.a = B.a) : ∃ x : Int32, (x = 0 ∨ x = 1) ∧ (x = 1 ↔ a_le A B) ∧ ∀ Q, mcall (d + 1) 294 [.ref o, .ref p] h Q = Q (some (.int x)) h := by
  have r : KM h o A := r
  have q : KM h p B := q
  have n12 := r.n12
  refine ⟨_, ?_, ?_, fun Q => c_294 r.s q.s r.n r.n12 r.a r.a6 r.z q.z⟩
  · unfold kb; split
    · exact Or.inr rfl
    · exact Or.inl rfl
  · have e : (kl (mh_j h (o + 1)) (mh_j h (p + 1)) A.n (2 * A.n) 0 && ke (mh_j h (o + 2)) (mh_j h (p + 2)) (mh_j h (o + 3)) (mh_j h (p + 3)) A.a) = true ↔ a_le A B := by
      rw [Bool.and_eq_true]
      unfold kl ke
      rw [List.all_eq_true, List.all_eq_true]
      constructor
      · rintro ⟨h1, h2⟩
        refine ⟨fun i j hi hj => ?_, fun x hx => ?_⟩
        · have t := h1 (24 * oc_b i + j) (List.mem_range.mpr (by have := oc_bl hi; omega))
          rw [(kr_at n12 (by have := oc_bl hi; omega) (by omega)).mpr ⟨oc_bl hi, hj⟩] at t
          simp only [Bool.not_true, Bool.false_or, decide_eq_true_eq] at t
          rw [Int64.lt_iff_toInt_lt, r.m _ _ (oc_bl hi) hj, q.m _ _ (by have := oc_bl hi; omega) (by omega), oc_bb] at t
          omega
        · have t := h2 x (List.mem_range.mpr hx)
          simp only [Bool.and_eq_true, decide_eq_true_eq] at t
          rw [Int64.lt_iff_toInt_lt, Int64.lt_iff_toInt_lt, r.lo x hx, q.lo x (by omega), r.hi x hx, q.hi x (by omega)] at t
          omega
      · rintro ⟨h1, h2⟩
        refine ⟨fun z hz => ?_, fun x hx => ?_⟩
        · have hz := List.mem_range.mp hz
          by_cases c : kr A.n (2 * A.n) 0 z = true
          · rw [c]
            simp only [Bool.not_true, Bool.false_or, decide_eq_true_eq]
            have ez : z = 24 * (z / 24) + z % 24 := by omega
            rw [ez] at c
            have c' := (kr_at n12 (by omega) (by omega)).mp c
            have t := h1 (oc_b (z / 24)) (z % 24) (oc_bl c'.1) c'.2
            rw [Int64.lt_iff_toInt_lt, ez, r.m _ _ c'.1 c'.2, q.m _ _ (by omega) (by omega)]
            omega
          · rw [Bool.not_eq_true] at c
            rw [c]; rfl
        · have hx := List.mem_range.mp hx
          have t := h2 x hx
          simp only [Bool.and_eq_true, decide_eq_true_eq]
          rw [Int64.lt_iff_toInt_lt, Int64.lt_iff_toInt_lt, r.lo x hx, q.lo x (by omega), r.hi x hx, q.hi x (by omega)]
          omega
    unfold kb
    split
    · next c => exact ⟨fun _ => e.mp c, fun _ => rfl⟩
    · next c => exact ⟨fun z => absurd z (by decide), fun z => absurd (e.mpr z) c⟩
end KL3
