set_option maxRecDepth 100000
/-! whether values lie in what is known: State.admits, Known.has -/
theorem mw_untilD {α : Type} {d y pc : Nat} {Q : Option Value → mh_H → Prop} {st : List Value} (ls : Nat → α → me_L) (F : Nat → mh_H) (P : Nat → Prop) (R : Prop) {a b : Nat} (hab : a ≤ b) (step : ∀ k x, a ≤ k → k < b → ∃ x', mw d y Q pc (ls k x) st (F k) = mI (P k) R (mw d y Q pc (ls (k + 1) x') st (F (k + 1)))) (x : α) : ∃ x', mw d y Q pc (ls a x) st (F a) = mI (∃ k, a ≤ k ∧ k < b ∧ P k) R (mw d y Q pc (ls b x') st (F b)) := by
  obtain ⟨n, rfl⟩ : ∃ n, b = a + n := ⟨b - a, by omega⟩
  clear hab
  induction n with
  | zero => exact ⟨x, by rw [mI_F (fun z => by obtain ⟨k, z1, z2, -⟩ := z; omega)]; rfl⟩
  | succ n ih =>
    obtain ⟨x1, e1⟩ := ih (fun k x h1 h2 => step k x h1 (by omega))
    obtain ⟨x2, e2⟩ := step (a + n) x1 (by omega) (by omega)
    refine ⟨x2, ?_⟩
    rw [e1, e2]
    by_cases c : ∃ k, a ≤ k ∧ k < a + n ∧ P k
    · have c' : ∃ k, a ≤ k ∧ k < a + (n + 1) ∧ P k := by obtain ⟨k, z1, z2, z3⟩ := c; exact ⟨k, z1, by omega, z3⟩
      rw [mI_T c, mI_T c']
    · rw [mI_F c]
      by_cases e : P (a + n)
      · rw [mI_T e, mI_T ⟨a + n, by omega, by omega, e⟩]
      · rw [mI_F e, mI_F]
        · rfl
        · rintro ⟨k, z1, z2, z3⟩
          by_cases q : k = a + n
          · rw [q] at z3; exact e z3
          · exact c ⟨k, z1, by omega, z3⟩
/-- the value of a signed slot -/
def vS (f : Nat → Int32) (i : Nat) : Int64 := if i % 2 = 0 then (f (i / 2)).toInt64 else -(f (i / 2)).toInt64
def vI (f : Nat → Int) (i : Nat) : Int := if i % 2 = 0 then f (i / 2) else -f (i / 2)
theorem vS_int (f : Nat → Int32) (i : Nat) : (vS f i).toInt = vI (fun k => (f k).toInt) i ∧ -2147483648 ≤ (vS f i).toInt ∧ (vS f i).toInt ≤ 2147483648 := by
  have a := Int32.le_toInt (f (i / 2))
  have b := Int32.toInt_lt (f (i / 2))
  have e : (f (i / 2)).toInt64.toInt = (f (i / 2)).toInt := Int32.toInt_toInt64 _
  unfold vS vI
  split
  · dsimp only; rw [e]; omega
  · dsimp only; rw [i64_n (by rw [e]; omega), e]; omega
/-- a row of ints -/
def ri (h : mh_H) (o n : Nat) : Prop := mg h o 100 ∧ mh_l h o = n
theorem ri_fq {W : Nat → Prop} {h h1 : mh_H} {o n : Nat} (x : fq W h h1) (r : ri h o n) : ri h1 o n := ⟨(fq_mg x).mpr r.1, by rw [x.2.1]; exact r.2⟩
section AD
variable {d : Nat} {Q : Option Value → mh_H → Prop} {h : mh_H} {o V P S n a : Nat}
theorem rem2' {v : Nat} (hv : v < 64) : (Int32.ofNat v - Int32.ofNat (v / 2) * 2 = 0) = (v % 2 = 0) := by rw [← nn_div2 hv]; exact rem2_all v hv
theorem c_296 {i : Nat} (hV : ri h V 12) (hi : i < 24) : mcall d 296 [.int (Int32.ofNat i), .ref V] h Q = Q (some (.long (vS (mh_i h V) i))) h := by
  obtain ⟨v1, v2⟩ := hV
  have e := rem2' (v := i) (by omega)
  have e20 : ((2 : Int32) = 0) = False := by decide
  by_cases c : i % 2 = 0
  · simp (disch := omega) only [s_296_0, s_296_1, s_296_2, s_296_3, s_296_6, s_296_7, s_296_8, s_296_9, s_296_10, s_296_11, s_296_12, s_296_15, s_296_16, s_296_17, s_296_18, s_296_19, s_296_20, s_296_21, s_296_22, e_296, mv_i_1, mv_l_1, mv_a_1, mv_a_2, mv_a_3, mk2_n, mk2_i, mk2_l, mk2_a, mk2_u, mk2_x, mB_T, mB_F, mS_cons, mS_nil, mSB_T, mSB_F, mca_nil, mca_i, mca_l, mca_r, mca_u, mca_x, mcat_i, mcat_l, mcat_r, mcat_u, mcat_x, mK_some, mK_none, va_rf_s, va_rf_n, lgc_eq, lgc_lt, lgc_gt, lgc_ge, lgc_le, mrd_104, mrd_105, mrd_106, mrd_107, true_and, and_true, and_self, false_and, and_false, true_or, or_true, false_or, or_false, not_true_eq_false, not_false_eq_true, mgb, mga, mgr, mN, reduceCtorEq, ↓reduceIte, eq_self, ge_iff_le, gt_iff_lt, v1, v2, nn_div2, nn_mxT, nn_clamp, e, e20, c, vS]
  · simp (disch := omega) only [s_296_0, s_296_1, s_296_2, s_296_3, s_296_6, s_296_7, s_296_8, s_296_9, s_296_10, s_296_11, s_296_12, s_296_15, s_296_16, s_296_17, s_296_18, s_296_19, s_296_20, s_296_21, s_296_22, e_296, mv_i_1, mv_l_1, mv_a_1, mv_a_2, mv_a_3, mk2_n, mk2_i, mk2_l, mk2_a, mk2_u, mk2_x, mB_T, mB_F, mS_cons, mS_nil, mSB_T, mSB_F, mca_nil, mca_i, mca_l, mca_r, mca_u, mca_x, mcat_i, mcat_l, mcat_r, mcat_u, mcat_x, mK_some, mK_none, va_rf_s, va_rf_n, lgc_eq, lgc_lt, lgc_gt, lgc_ge, lgc_le, mrd_104, mrd_105, mrd_106, mrd_107, true_and, and_true, and_self, false_and, and_false, true_or, or_true, false_or, or_false, not_true_eq_false, not_false_eq_true, mgb, mga, mgr, mN, reduceCtorEq, ↓reduceIte, eq_self, ge_iff_le, gt_iff_lt, v1, v2, nn_div2, nn_mxT, nn_clamp, e, e20, c, vS]
/-- State.admits, of one that is nothing -/
theorem c_163n (hs : so h o) (hn : mh_i h o 1 = Int32.ofNat n) (hn2 : n ≤ 12) (ha : mh_i h o 2 = Int32.ofNat a) (ha2 : a ≤ 6) (hz : mh_i h o 0 = 1) : mcall d 163 [.ref o, .ref V, .ref P, .ref S] h Q = Q (some (.int 0)) h := by
  have s1 := hs.1
  have e3 : ∀ k, (2 : Int32) * Int32.ofNat k = Int32.ofNat (2 * k) := fun k => nn_mul (a := 2) (b := k)
  have e10 : ((1 : Int32) = 0) = False := by decide
  have l0 : ∀ k : Nat, k < 2147483648 → ((Int32.ofNat k ≤ 0) = (k = 0)) := fun k hk => by
    rw [show (0 : Int32) = Int32.ofNat 0 from rfl, nn_le hk (by omega)]
    exact propext ⟨fun z => by omega, fun z => by omega⟩
  by_cases c : 2 * n = 0 <;> by_cases c2 : a = 0
  all_goals simp (disch := omega) only [s_163_0, s_163_1, s_163_3, s_163_5, s_163_6, s_163_7, s_163_10, s_163_11, s_163_14, s_163_15, s_163_18, s_163_21, s_163_23, s_163_24, s_163_25, s_163_28, s_163_29, s_163_31, s_163_32, s_163_33, s_163_33x, s_163_34, s_163_35, s_163_38, s_163_39, s_163_41, s_163_42, s_163_43, s_163_43x, s_163_44, s_163_45, s_163_46, s_163_48, s_163_49, s_163_51, s_163_53, s_163_55, s_163_56, s_163_57, s_163_60, s_163_62, s_163_63, s_163_64, s_163_67, s_163_68, s_163_70, s_163_71, s_163_72, s_163_72x, s_163_73, s_163_74, s_163_77, s_163_78, s_163_80, s_163_81, s_163_82, s_163_82x, s_163_83, s_163_84, s_163_85, s_163_87, s_163_89, s_163_91, s_163_92, s_163_93, s_163_96, s_163_99, s_163_101, s_163_101x, s_163_102, s_163_104, s_163_105, s_163_106, s_163_107, s_163_110, s_163_111, s_163_112, s_163_115, s_163_118, s_163_121, s_163_124, s_163_125, s_163_127, s_163_129, s_163_130, s_163_133, s_163_136, s_163_137, s_163_140, s_163_143, s_163_144, s_163_146, s_163_148, s_163_149, s_163_151, s_163_151x, s_163_152, s_163_155, s_163_156, s_163_158, s_163_160, s_163_161, s_163_163, s_163_164, s_163_164x, s_163_165, s_163_167, s_163_169, s_163_170, s_163_171, s_163_174, s_163_175, s_163_177, s_163_178, s_163_179, s_163_180, s_163_183, s_163_185, s_163_186, s_163_187, s_163_190, s_163_191, s_163_193, s_163_194, s_163_195, s_163_196, s_163_197, s_163_198, s_163_201, s_163_202, s_163_203, s_163_206, s_163_209, s_163_212, s_163_215, s_163_216, s_163_219, s_163_222, s_163_223, s_163_226, s_163_227, e_163, mv_i_1, mv_l_1, mv_a_1, mv_a_2, mv_a_3, mk2_n, mk2_i, mk2_l, mk2_a, mk2_u, mk2_x, mB_T, mB_F, mS_cons, mS_nil, mSB_T, mSB_F, mca_nil, mca_i, mca_l, mca_r, mca_u, mca_x, mcat_i, mcat_l, mcat_r, mcat_u, mcat_x, mK_some, mK_none, va_rf_s, va_rf_n, lgc_eq, lgc_lt, lgc_gt, lgc_ge, lgc_le, mrd_104, mrd_105, mrd_106, mrd_107, true_and, and_true, and_self, false_and, and_false, true_or, or_true, false_or, or_false, not_true_eq_false, not_false_eq_true, mgb, mga, mgr, mN, reduceCtorEq, ↓reduceIte, eq_self, ge_iff_le, gt_iff_lt, s1, hn, ha, hz, e3, e10, l0, c, c2]
def ad_P (f : Nat → Int64) (v : Nat → Int32) (i j : Nat) : Prop := f (sc_r i + j) < vS v j - vS v i
theorem ad_in (hs : so h o) (hV : ri h V 12) {i : Nat} (hi : i < 24) {x : Option Value} : ∃ x', mw d 163 Q 51 [some (.ref o), some (.ref V), some (.ref P), some (.ref S), some (.int (Int32.ofNat i)), some (.long (vS (mh_i h V) i)), none, some (.int (Int32.ofNat 0)), x, none] [] h = mI (∃ j, 0 ≤ j ∧ j < oc_1 i + 1 ∧ ad_P (mh_j h (o + 1)) (mh_i h V) i j) (Q (some (.int 0)) h) (mw d 163 Q 51 [some (.ref o), some (.ref V), some (.ref P), some (.ref S), some (.int (Int32.ofNat i)), some (.long (vS (mh_i h V) i)), none, some (.int (Int32.ofNat (oc_1 i + 1))), x', none] [] h) := by
  obtain ⟨s1, s2, s3, s4, s5, s6, s7⟩ := hs
  obtain ⟨v1, v2⟩ := hV
  have ei : ∀ k, Int32.ofNat k + 1 = Int32.ofNat (k + 1) := fun k => nn_add (a := k) (b := 1)
  have e20 : ((2 : Int32) = 0) = False := by decide
  have h1 := oc_1_24 hi
  exact mw_untilD (α := Option Value) (d := d) (y := 163) (pc := 51) (Q := Q) (st := []) (fun j x => [some (.ref o), some (.ref V), some (.ref P), some (.ref S), some (.int (Int32.ofNat i)), some (.long (vS (mh_i h V) i)), none, some (.int (Int32.ofNat j)), x, none]) (fun _ => h) (ad_P (mh_j h (o + 1)) (mh_i h V) i) (Q (some (.int 0)) h) (a := 0) (b := oc_1 i + 1) (Nat.zero_le _) (fun j x _ hj => by
    refine ⟨some (.long (vS (mh_i h V) j)), ?_⟩
    have hj2 : ¬ oc_1 i < j := by omega
    have e := rem2' (v := j) (by omega)
    have h3 := sc_r_top i hi j (by omega) (by omega)
    try dsimp only
    rw [s_163_51]
    by_cases c : j % 2 = 0 <;> by_cases q : ad_P (mh_j h (o + 1)) (mh_i h V) i j
    all_goals
      have q' := q
      unfold ad_P at q'
      have w : vS (mh_i h V) j = if j % 2 = 0 then (mh_i h V (j / 2)).toInt64 else -(mh_i h V (j / 2)).toInt64 := rfl
      simp only [c, if_true, if_false] at w
      rw [w] at q'
      simp (disch := omega) only [s_163_0, s_163_1, s_163_3, s_163_5, s_163_6, s_163_7, s_163_10, s_163_11, s_163_14, s_163_15, s_163_18, s_163_21, s_163_23, s_163_24, s_163_25, s_163_28, s_163_29, s_163_31, s_163_32, s_163_33, s_163_33x, s_163_34, s_163_35, s_163_38, s_163_39, s_163_41, s_163_42, s_163_43, s_163_43x, s_163_44, s_163_45, s_163_46, s_163_48, s_163_49, s_163_53, s_163_55, s_163_56, s_163_57, s_163_60, s_163_62, s_163_63, s_163_64, s_163_67, s_163_68, s_163_70, s_163_71, s_163_72, s_163_72x, s_163_73, s_163_74, s_163_77, s_163_78, s_163_80, s_163_81, s_163_82, s_163_82x, s_163_83, s_163_84, s_163_85, s_163_87, s_163_89, s_163_91, s_163_92, s_163_93, s_163_96, s_163_99, s_163_101, s_163_101x, s_163_102, s_163_104, s_163_105, s_163_106, s_163_107, s_163_110, s_163_111, s_163_112, s_163_115, s_163_118, s_163_121, s_163_124, s_163_125, s_163_127, s_163_129, s_163_130, s_163_133, s_163_136, s_163_137, s_163_140, s_163_143, s_163_144, s_163_146, s_163_148, s_163_149, s_163_151, s_163_151x, s_163_152, s_163_155, s_163_156, s_163_158, s_163_160, s_163_161, s_163_163, s_163_164, s_163_164x, s_163_165, s_163_167, s_163_169, s_163_170, s_163_171, s_163_174, s_163_175, s_163_177, s_163_178, s_163_179, s_163_180, s_163_183, s_163_185, s_163_186, s_163_187, s_163_190, s_163_191, s_163_193, s_163_194, s_163_195, s_163_196, s_163_197, s_163_198, s_163_201, s_163_202, s_163_203, s_163_206, s_163_209, s_163_212, s_163_215, s_163_216, s_163_219, s_163_222, s_163_223, s_163_226, s_163_227, e_163, mv_i_1, mv_l_1, mv_a_1, mv_a_2, mv_a_3, mk2_n, mk2_i, mk2_l, mk2_a, mk2_u, mk2_x, mB_T, mB_F, mS_cons, mS_nil, mSB_T, mSB_F, mca_nil, mca_i, mca_l, mca_r, mca_u, mca_x, mcat_i, mcat_l, mcat_r, mcat_u, mcat_x, mK_some, mK_none, va_rf_s, va_rf_n, lgc_eq, lgc_lt, lgc_gt, lgc_ge, lgc_le, mrd_104, mrd_105, mrd_106, mrd_107, true_and, and_true, and_self, false_and, and_false, true_or, or_true, false_or, or_false, not_true_eq_false, not_false_eq_true, mgb, mga, mgr, mN, reduceCtorEq, ↓reduceIte, eq_self, ge_iff_le, gt_iff_lt, s1, s2, s3, s4, v1, v2, nn_or1, nn_lt, nn_div2, nn_mxT, nn_clamp, nn_row, nn_add, ei, e, e20, c, hj2, le_nlt64, mB_not, q, q', mI_t, mI_f, w]) x
theorem c_163 (hs : so h o) (hn : mh_i h o 1 = Int32.ofNat n) (hn2 : n ≤ 12) (ha : mh_i h o 2 = Int32.ofNat a) (ha2 : a ≤ 6) (hz : mh_i h o 0 = 0) (hV : ri h V 12) (hP : ri h P 384) (hS : ri h S 6) {sz : Nat → Nat} (hsz : ∀ x, x < a → mh_i h S x = Int32.ofNat (sz x) ∧ sz x ≤ 64) : mcall d 163 [.ref o, .ref V, .ref P, .ref S] h Q = mI (∃ i, 0 ≤ i ∧ i < 2 * n ∧ ∃ j, 0 ≤ j ∧ j < oc_1 i + 1 ∧ ad_P (mh_j h (o + 1)) (mh_i h V) i j) (Q (some (.int 0)) h) (mI (∃ x, 0 ≤ x ∧ x < a ∧ ∃ k, 0 ≤ k ∧ k < sz x ∧ ((mh_i h P (64 * x + k)).toInt64 < mh_j h (o + 2) (2 * x) ∨ mh_j h (o + 2) (2 * x + 1) < (mh_i h P (64 * x + k)).toInt64)) (Q (some (.int 0)) h) (Q (some (.int 1)) h)) := by
  have hs' := hs
  have hV' := hV
  obtain ⟨s1, s2, s3, s4, s5, s6, s7⟩ := hs
  obtain ⟨v1, v2⟩ := hV
  obtain ⟨p1, p2⟩ := hP
  obtain ⟨t1, t2⟩ := hS
  have ei : ∀ k, Int32.ofNat k + 1 = Int32.ofNat (k + 1) := fun k => nn_add (a := k) (b := 1)
  have e3 : ∀ k, (2 : Int32) * Int32.ofNat k = Int32.ofNat (2 * k) := fun k => nn_mul (a := 2) (b := k)
  have e64 : ∀ k, Int32.ofNat k * 64 = Int32.ofNat (64 * k) := fun k => by rw [Nat.mul_comm]; exact nn_mul (a := k) (b := 64)
  have e20 : ((2 : Int32) = 0) = False := by decide
  have hle : (2 * n ≤ 2 * n) = True := eq_true (Nat.le_refl _)
  have hla : (a ≤ a) = True := eq_true (Nat.le_refl _)
  have L1 := mw_untilD (α := Option Value × Option Value × Option Value × Option Value) (d := d) (y := 163) (pc := 3) (Q := Q) (st := []) (fun i x => [some (.ref o), some (.ref V), some (.ref P), some (.ref S), some (.int (Int32.ofNat i)), x.1, x.2.1, x.2.2.1, x.2.2.2, none]) (fun _ => h) (fun i => ∃ j, 0 ≤ j ∧ j < oc_1 i + 1 ∧ ad_P (mh_j h (o + 1)) (mh_i h V) i j) (Q (some (.int 0)) h) (a := 0) (b := 2 * n) (Nat.zero_le _) (fun i x _ hi => by
    obtain ⟨x', e⟩ := ad_in (d := d) (Q := Q) (P := P) (S := S) hs' hV' (i := i) (by omega) (x := x.2.2.2)
    refine ⟨(some (.long (vS (mh_i h V) i)), none, some (.int (Int32.ofNat (oc_1 i + 1))), x'), ?_⟩
    have hi2 : ¬ 2 * n ≤ i := by omega
    have er := rem2' (v := i) (by omega)
    have h1 := oc_1_24 (a := i) (by omega)
    have hx : oc_1 i < oc_1 i + 1 := Nat.lt_succ_self _
    have E1 : mw d 163 Q 3 [some (.ref o), some (.ref V), some (.ref P), some (.ref S), some (.int (Int32.ofNat i)), x.1, x.2.1, x.2.2.1, x.2.2.2, none] [] h = mw d 163 Q 51 [some (.ref o), some (.ref V), some (.ref P), some (.ref S), some (.int (Int32.ofNat i)), some (.long (vS (mh_i h V) i)), none, some (.int (Int32.ofNat 0)), x.2.2.2, none] [] h := by
      rw [s_163_3]
      by_cases c : i % 2 = 0
      all_goals
        have w : vS (mh_i h V) i = if i % 2 = 0 then (mh_i h V (i / 2)).toInt64 else -(mh_i h V (i / 2)).toInt64 := rfl
        simp only [c, if_true, if_false] at w
        simp (disch := omega) only [s_163_0, s_163_1, s_163_5, s_163_6, s_163_7, s_163_10, s_163_11, s_163_14, s_163_15, s_163_18, s_163_21, s_163_23, s_163_24, s_163_25, s_163_28, s_163_29, s_163_31, s_163_32, s_163_33, s_163_33x, s_163_34, s_163_35, s_163_38, s_163_39, s_163_41, s_163_42, s_163_43, s_163_43x, s_163_44, s_163_45, s_163_46, s_163_48, s_163_49, s_163_53, s_163_55, s_163_56, s_163_57, s_163_60, s_163_62, s_163_63, s_163_64, s_163_67, s_163_68, s_163_70, s_163_71, s_163_72, s_163_72x, s_163_73, s_163_74, s_163_77, s_163_78, s_163_80, s_163_81, s_163_82, s_163_82x, s_163_83, s_163_84, s_163_85, s_163_87, s_163_89, s_163_91, s_163_92, s_163_93, s_163_96, s_163_99, s_163_101, s_163_101x, s_163_102, s_163_104, s_163_105, s_163_106, s_163_107, s_163_110, s_163_111, s_163_112, s_163_115, s_163_118, s_163_121, s_163_124, s_163_125, s_163_127, s_163_129, s_163_130, s_163_133, s_163_136, s_163_137, s_163_140, s_163_143, s_163_144, s_163_146, s_163_148, s_163_149, s_163_151, s_163_151x, s_163_152, s_163_155, s_163_156, s_163_158, s_163_160, s_163_161, s_163_163, s_163_164, s_163_164x, s_163_165, s_163_167, s_163_169, s_163_170, s_163_171, s_163_174, s_163_175, s_163_177, s_163_178, s_163_179, s_163_180, s_163_183, s_163_185, s_163_186, s_163_187, s_163_190, s_163_191, s_163_193, s_163_194, s_163_195, s_163_196, s_163_197, s_163_198, s_163_201, s_163_202, s_163_203, s_163_206, s_163_209, s_163_212, s_163_215, s_163_216, s_163_219, s_163_222, s_163_223, s_163_226, s_163_227, e_163, mv_i_1, mv_l_1, mv_a_1, mv_a_2, mv_a_3, mk2_n, mk2_i, mk2_l, mk2_a, mk2_u, mk2_x, mB_T, mB_F, mS_cons, mS_nil, mSB_T, mSB_F, mca_nil, mca_i, mca_l, mca_r, mca_u, mca_x, mcat_i, mcat_l, mcat_r, mcat_u, mcat_x, mK_some, mK_none, va_rf_s, va_rf_n, lgc_eq, lgc_lt, lgc_gt, lgc_ge, lgc_le, mrd_104, mrd_105, mrd_106, mrd_107, true_and, and_true, and_self, false_and, and_false, true_or, or_true, false_or, or_false, not_true_eq_false, not_false_eq_true, mgb, mga, mgr, mN, reduceCtorEq, ↓reduceIte, eq_self, ge_iff_le, gt_iff_lt, s1, hn, hz, v1, v2, e3, nn_le, nn_div2, nn_mxT, nn_clamp, er, e20, c, hi2, w]
        rfl
    try dsimp only
    rw [E1, e]
    by_cases c : ∃ j, 0 ≤ j ∧ j < oc_1 i + 1 ∧ ad_P (mh_j h (o + 1)) (mh_i h V) i j
    · rw [mI_T c, mI_T c]
    · rw [mI_F c, mI_F c, s_163_51]
      simp (disch := omega) only [s_163_0, s_163_1, s_163_5, s_163_6, s_163_7, s_163_10, s_163_11, s_163_14, s_163_15, s_163_18, s_163_21, s_163_23, s_163_24, s_163_25, s_163_28, s_163_29, s_163_31, s_163_32, s_163_33, s_163_33x, s_163_34, s_163_35, s_163_38, s_163_39, s_163_41, s_163_42, s_163_43, s_163_43x, s_163_44, s_163_45, s_163_46, s_163_48, s_163_49, s_163_53, s_163_55, s_163_56, s_163_57, s_163_60, s_163_62, s_163_63, s_163_64, s_163_67, s_163_68, s_163_70, s_163_71, s_163_72, s_163_72x, s_163_73, s_163_74, s_163_77, s_163_78, s_163_80, s_163_81, s_163_82, s_163_82x, s_163_83, s_163_84, s_163_85, s_163_87, s_163_89, s_163_91, s_163_92, s_163_93, s_163_96, s_163_99, s_163_101, s_163_101x, s_163_102, s_163_104, s_163_105, s_163_106, s_163_107, s_163_110, s_163_111, s_163_112, s_163_115, s_163_118, s_163_121, s_163_124, s_163_125, s_163_127, s_163_129, s_163_130, s_163_133, s_163_136, s_163_137, s_163_140, s_163_143, s_163_144, s_163_146, s_163_148, s_163_149, s_163_151, s_163_151x, s_163_152, s_163_155, s_163_156, s_163_158, s_163_160, s_163_161, s_163_163, s_163_164, s_163_164x, s_163_165, s_163_167, s_163_169, s_163_170, s_163_171, s_163_174, s_163_175, s_163_177, s_163_178, s_163_179, s_163_180, s_163_183, s_163_185, s_163_186, s_163_187, s_163_190, s_163_191, s_163_193, s_163_194, s_163_195, s_163_196, s_163_197, s_163_198, s_163_201, s_163_202, s_163_203, s_163_206, s_163_209, s_163_212, s_163_215, s_163_216, s_163_219, s_163_222, s_163_223, s_163_226, s_163_227, e_163, mv_i_1, mv_l_1, mv_a_1, mv_a_2, mv_a_3, mk2_n, mk2_i, mk2_l, mk2_a, mk2_u, mk2_x, mB_T, mB_F, mS_cons, mS_nil, mSB_T, mSB_F, mca_nil, mca_i, mca_l, mca_r, mca_u, mca_x, mcat_i, mcat_l, mcat_r, mcat_u, mcat_x, mK_some, mK_none, va_rf_s, va_rf_n, lgc_eq, lgc_lt, lgc_gt, lgc_ge, lgc_le, mrd_104, mrd_105, mrd_106, mrd_107, true_and, and_true, and_self, false_and, and_false, true_or, or_true, false_or, or_false, not_true_eq_false, not_false_eq_true, mgb, mga, mgr, mN, reduceCtorEq, ↓reduceIte, eq_self, ge_iff_le, gt_iff_lt, ei, nn_or1, nn_lt, hx]) (none, none, none, none)
  obtain ⟨y, E1⟩ := L1
  have L2 := mw_untilD (α := Option Value × Option Value × Option Value × Option Value) (d := d) (y := 163) (pc := 127) (Q := Q) (st := []) (fun x z => [some (.ref o), some (.ref V), some (.ref P), some (.ref S), some (.int (Int32.ofNat x)), z.1, z.2.1, z.2.2.1, z.2.2.2, none]) (fun _ => h) (fun x => ∃ k, 0 ≤ k ∧ k < sz x ∧ ((mh_i h P (64 * x + k)).toInt64 < mh_j h (o + 2) (2 * x) ∨ mh_j h (o + 2) (2 * x + 1) < (mh_i h P (64 * x + k)).toInt64)) (Q (some (.int 0)) h) (a := 0) (b := a) (Nat.zero_le _) (fun x z _ hx => by
    obtain ⟨z1, z2⟩ := hsz x hx
    have hx2 : ¬ a ≤ x := by omega
    have I := mw_untilD (α := Option Value) (d := d) (y := 163) (pc := 146) (Q := Q) (st := []) (fun k w => [some (.ref o), some (.ref V), some (.ref P), some (.ref S), some (.int (Int32.ofNat x)), some (.int (Int32.ofNat k)), w, z.2.2.1, z.2.2.2, none]) (fun _ => h) (fun k => (mh_i h P (64 * x + k)).toInt64 < mh_j h (o + 2) (2 * x) ∨ mh_j h (o + 2) (2 * x + 1) < (mh_i h P (64 * x + k)).toInt64) (Q (some (.int 0)) h) (a := 0) (b := sz x) (Nat.zero_le _) (fun k w _ hk => by
      refine ⟨some (.int (mh_i h P (64 * x + k))), ?_⟩
      have hk2 : ¬ sz x ≤ k := by omega
      have b1 : 64 * x + k < 384 := by omega
      have b2 : 2 * x + 1 < 12 := by omega
      try dsimp only
      rw [s_163_146]
      by_cases c : (mh_i h P (64 * x + k)).toInt64 < mh_j h (o + 2) (2 * x) <;> by_cases c2 : mh_j h (o + 2) (2 * x + 1) < (mh_i h P (64 * x + k)).toInt64
      all_goals simp (disch := omega) only [s_163_0, s_163_1, s_163_3, s_163_5, s_163_6, s_163_7, s_163_10, s_163_11, s_163_14, s_163_15, s_163_18, s_163_21, s_163_23, s_163_24, s_163_25, s_163_28, s_163_29, s_163_31, s_163_32, s_163_33, s_163_33x, s_163_34, s_163_35, s_163_38, s_163_39, s_163_41, s_163_42, s_163_43, s_163_43x, s_163_44, s_163_45, s_163_46, s_163_48, s_163_49, s_163_51, s_163_53, s_163_55, s_163_56, s_163_57, s_163_60, s_163_62, s_163_63, s_163_64, s_163_67, s_163_68, s_163_70, s_163_71, s_163_72, s_163_72x, s_163_73, s_163_74, s_163_77, s_163_78, s_163_80, s_163_81, s_163_82, s_163_82x, s_163_83, s_163_84, s_163_85, s_163_87, s_163_89, s_163_91, s_163_92, s_163_93, s_163_96, s_163_99, s_163_101, s_163_101x, s_163_102, s_163_104, s_163_105, s_163_106, s_163_107, s_163_110, s_163_111, s_163_112, s_163_115, s_163_118, s_163_121, s_163_124, s_163_125, s_163_127, s_163_129, s_163_130, s_163_133, s_163_136, s_163_137, s_163_140, s_163_143, s_163_144, s_163_148, s_163_149, s_163_151, s_163_151x, s_163_152, s_163_155, s_163_156, s_163_158, s_163_160, s_163_161, s_163_163, s_163_164, s_163_164x, s_163_165, s_163_167, s_163_169, s_163_170, s_163_171, s_163_174, s_163_175, s_163_177, s_163_178, s_163_179, s_163_180, s_163_183, s_163_185, s_163_186, s_163_187, s_163_190, s_163_191, s_163_193, s_163_194, s_163_195, s_163_196, s_163_197, s_163_198, s_163_201, s_163_202, s_163_203, s_163_206, s_163_209, s_163_212, s_163_215, s_163_216, s_163_219, s_163_222, s_163_223, s_163_226, s_163_227, e_163, mv_i_1, mv_l_1, mv_a_1, mv_a_2, mv_a_3, mk2_n, mk2_i, mk2_l, mk2_a, mk2_u, mk2_x, mB_T, mB_F, mS_cons, mS_nil, mSB_T, mSB_F, mca_nil, mca_i, mca_l, mca_r, mca_u, mca_x, mcat_i, mcat_l, mcat_r, mcat_u, mcat_x, mK_some, mK_none, va_rf_s, va_rf_n, lgc_eq, lgc_lt, lgc_gt, lgc_ge, lgc_le, mrd_104, mrd_105, mrd_106, mrd_107, true_and, and_true, and_self, false_and, and_false, true_or, or_true, false_or, or_false, not_true_eq_false, not_false_eq_true, mgb, mga, mgr, mN, reduceCtorEq, ↓reduceIte, eq_self, ge_iff_le, gt_iff_lt, s1, s5, s6, s7, p1, p2, t1, t2, z1, e3, e64, ei, nn_le, nn_mxT, nn_clamp, nn_add, hk2, c, c2, le_nlt64, mB_not, mI_t, mI_f]) z.2.1
    obtain ⟨w', E⟩ := I
    refine ⟨(some (.int (Int32.ofNat (sz x))), w', z.2.2.1, z.2.2.2), ?_⟩
    have E1 : mw d 163 Q 127 [some (.ref o), some (.ref V), some (.ref P), some (.ref S), some (.int (Int32.ofNat x)), z.1, z.2.1, z.2.2.1, z.2.2.2, none] [] h = mw d 163 Q 146 [some (.ref o), some (.ref V), some (.ref P), some (.ref S), some (.int (Int32.ofNat x)), some (.int (Int32.ofNat 0)), z.2.1, z.2.2.1, z.2.2.2, none] [] h := by
      rw [s_163_127]
      simp (disch := omega) only [s_163_0, s_163_1, s_163_3, s_163_5, s_163_6, s_163_7, s_163_10, s_163_11, s_163_14, s_163_15, s_163_18, s_163_21, s_163_23, s_163_24, s_163_25, s_163_28, s_163_29, s_163_31, s_163_32, s_163_33, s_163_33x, s_163_34, s_163_35, s_163_38, s_163_39, s_163_41, s_163_42, s_163_43, s_163_43x, s_163_44, s_163_45, s_163_46, s_163_48, s_163_49, s_163_51, s_163_53, s_163_55, s_163_56, s_163_57, s_163_60, s_163_62, s_163_63, s_163_64, s_163_67, s_163_68, s_163_70, s_163_71, s_163_72, s_163_72x, s_163_73, s_163_74, s_163_77, s_163_78, s_163_80, s_163_81, s_163_82, s_163_82x, s_163_83, s_163_84, s_163_85, s_163_87, s_163_89, s_163_91, s_163_92, s_163_93, s_163_96, s_163_99, s_163_101, s_163_101x, s_163_102, s_163_104, s_163_105, s_163_106, s_163_107, s_163_110, s_163_111, s_163_112, s_163_115, s_163_118, s_163_121, s_163_124, s_163_125, s_163_129, s_163_130, s_163_133, s_163_136, s_163_137, s_163_140, s_163_143, s_163_144, s_163_148, s_163_149, s_163_151, s_163_151x, s_163_152, s_163_155, s_163_156, s_163_158, s_163_160, s_163_161, s_163_163, s_163_164, s_163_164x, s_163_165, s_163_167, s_163_169, s_163_170, s_163_171, s_163_174, s_163_175, s_163_177, s_163_178, s_163_179, s_163_180, s_163_183, s_163_185, s_163_186, s_163_187, s_163_190, s_163_191, s_163_193, s_163_194, s_163_195, s_163_196, s_163_197, s_163_198, s_163_201, s_163_202, s_163_203, s_163_206, s_163_209, s_163_212, s_163_215, s_163_216, s_163_219, s_163_222, s_163_223, s_163_226, s_163_227, e_163, mv_i_1, mv_l_1, mv_a_1, mv_a_2, mv_a_3, mk2_n, mk2_i, mk2_l, mk2_a, mk2_u, mk2_x, mB_T, mB_F, mS_cons, mS_nil, mSB_T, mSB_F, mca_nil, mca_i, mca_l, mca_r, mca_u, mca_x, mcat_i, mcat_l, mcat_r, mcat_u, mcat_x, mK_some, mK_none, va_rf_s, va_rf_n, lgc_eq, lgc_lt, lgc_gt, lgc_ge, lgc_le, mrd_104, mrd_105, mrd_106, mrd_107, true_and, and_true, and_self, false_and, and_false, true_or, or_true, false_or, or_false, not_true_eq_false, not_false_eq_true, mgb, mga, mgr, mN, reduceCtorEq, ↓reduceIte, eq_self, ge_iff_le, gt_iff_lt, s1, ha, hz, nn_le, hx2]
      rfl
    try dsimp only
    rw [E1, E]
    by_cases c : ∃ k, 0 ≤ k ∧ k < sz x ∧ ((mh_i h P (64 * x + k)).toInt64 < mh_j h (o + 2) (2 * x) ∨ mh_j h (o + 2) (2 * x + 1) < (mh_i h P (64 * x + k)).toInt64)
    · rw [mI_T c, mI_T c]
    · have hl : (sz x ≤ sz x) = True := eq_true (Nat.le_refl _)
      rw [mI_F c, mI_F c, s_163_146]
      simp (disch := omega) only [s_163_0, s_163_1, s_163_3, s_163_5, s_163_6, s_163_7, s_163_10, s_163_11, s_163_14, s_163_15, s_163_18, s_163_21, s_163_23, s_163_24, s_163_25, s_163_28, s_163_29, s_163_31, s_163_32, s_163_33, s_163_33x, s_163_34, s_163_35, s_163_38, s_163_39, s_163_41, s_163_42, s_163_43, s_163_43x, s_163_44, s_163_45, s_163_46, s_163_48, s_163_49, s_163_51, s_163_53, s_163_55, s_163_56, s_163_57, s_163_60, s_163_62, s_163_63, s_163_64, s_163_67, s_163_68, s_163_70, s_163_71, s_163_72, s_163_72x, s_163_73, s_163_74, s_163_77, s_163_78, s_163_80, s_163_81, s_163_82, s_163_82x, s_163_83, s_163_84, s_163_85, s_163_87, s_163_89, s_163_91, s_163_92, s_163_93, s_163_96, s_163_99, s_163_101, s_163_101x, s_163_102, s_163_104, s_163_105, s_163_106, s_163_107, s_163_110, s_163_111, s_163_112, s_163_115, s_163_118, s_163_121, s_163_124, s_163_125, s_163_129, s_163_130, s_163_133, s_163_136, s_163_137, s_163_140, s_163_143, s_163_144, s_163_148, s_163_149, s_163_151, s_163_151x, s_163_152, s_163_155, s_163_156, s_163_158, s_163_160, s_163_161, s_163_163, s_163_164, s_163_164x, s_163_165, s_163_167, s_163_169, s_163_170, s_163_171, s_163_174, s_163_175, s_163_177, s_163_178, s_163_179, s_163_180, s_163_183, s_163_185, s_163_186, s_163_187, s_163_190, s_163_191, s_163_193, s_163_194, s_163_195, s_163_196, s_163_197, s_163_198, s_163_201, s_163_202, s_163_203, s_163_206, s_163_209, s_163_212, s_163_215, s_163_216, s_163_219, s_163_222, s_163_223, s_163_226, s_163_227, e_163, mv_i_1, mv_l_1, mv_a_1, mv_a_2, mv_a_3, mk2_n, mk2_i, mk2_l, mk2_a, mk2_u, mk2_x, mB_T, mB_F, mS_cons, mS_nil, mSB_T, mSB_F, mca_nil, mca_i, mca_l, mca_r, mca_u, mca_x, mcat_i, mcat_l, mcat_r, mcat_u, mcat_x, mK_some, mK_none, va_rf_s, va_rf_n, lgc_eq, lgc_lt, lgc_gt, lgc_ge, lgc_le, mrd_104, mrd_105, mrd_106, mrd_107, true_and, and_true, and_self, false_and, and_false, true_or, or_true, false_or, or_false, not_true_eq_false, not_false_eq_true, mgb, mga, mgr, mN, reduceCtorEq, ↓reduceIte, eq_self, ge_iff_le, gt_iff_lt, s1, t1, t2, z1, ei, nn_le, nn_mxT, nn_clamp, hl]) y
  obtain ⟨y', E2⟩ := L2
  have E0 : mcall d 163 [.ref o, .ref V, .ref P, .ref S] h Q = mw d 163 Q 3 [some (.ref o), some (.ref V), some (.ref P), some (.ref S), some (.int (Int32.ofNat 0)), none, none, none, none, none] [] h := by
    simp only [s_163_0, s_163_1, s_163_5, s_163_6, s_163_7, s_163_10, s_163_11, s_163_14, s_163_15, s_163_18, s_163_21, s_163_23, s_163_24, s_163_25, s_163_28, s_163_29, s_163_31, s_163_32, s_163_33, s_163_33x, s_163_34, s_163_35, s_163_38, s_163_39, s_163_41, s_163_42, s_163_43, s_163_43x, s_163_44, s_163_45, s_163_46, s_163_48, s_163_49, s_163_51, s_163_53, s_163_55, s_163_56, s_163_57, s_163_60, s_163_62, s_163_63, s_163_64, s_163_67, s_163_68, s_163_70, s_163_71, s_163_72, s_163_72x, s_163_73, s_163_74, s_163_77, s_163_78, s_163_80, s_163_81, s_163_82, s_163_82x, s_163_83, s_163_84, s_163_85, s_163_87, s_163_89, s_163_91, s_163_92, s_163_93, s_163_96, s_163_99, s_163_101, s_163_101x, s_163_102, s_163_104, s_163_105, s_163_106, s_163_107, s_163_110, s_163_111, s_163_112, s_163_115, s_163_118, s_163_121, s_163_124, s_163_125, s_163_127, s_163_129, s_163_130, s_163_133, s_163_136, s_163_137, s_163_140, s_163_143, s_163_144, s_163_146, s_163_148, s_163_149, s_163_151, s_163_151x, s_163_152, s_163_155, s_163_156, s_163_158, s_163_160, s_163_161, s_163_163, s_163_164, s_163_164x, s_163_165, s_163_167, s_163_169, s_163_170, s_163_171, s_163_174, s_163_175, s_163_177, s_163_178, s_163_179, s_163_180, s_163_183, s_163_185, s_163_186, s_163_187, s_163_190, s_163_191, s_163_193, s_163_194, s_163_195, s_163_196, s_163_197, s_163_198, s_163_201, s_163_202, s_163_203, s_163_206, s_163_209, s_163_212, s_163_215, s_163_216, s_163_219, s_163_222, s_163_223, s_163_226, s_163_227, e_163, mv_i_1, mv_l_1, mv_a_1, mv_a_2, mv_a_3, mk2_n, mk2_i, mk2_l, mk2_a, mk2_u, mk2_x, mB_T, mB_F, mS_cons, mS_nil, mSB_T, mSB_F, mca_nil, mca_i, mca_l, mca_r, mca_u, mca_x, mcat_i, mcat_l, mcat_r, mcat_u, mcat_x, mK_some, mK_none, va_rf_s, va_rf_n, lgc_eq, lgc_lt, lgc_gt, lgc_ge, lgc_le, mrd_104, mrd_105, mrd_106, mrd_107, true_and, and_true, and_self, false_and, and_false, true_or, or_true, false_or, or_false, not_true_eq_false, not_false_eq_true, mgb, mga, mgr, mN, reduceCtorEq, ↓reduceIte, eq_self, ge_iff_le, gt_iff_lt]
    rfl
  refine E0.trans (E1.trans ?_)
  by_cases c1 : ∃ i, 0 ≤ i ∧ i < 2 * n ∧ ∃ j, 0 ≤ j ∧ j < oc_1 i + 1 ∧ ad_P (mh_j h (o + 1)) (mh_i h V) i j
  · rw [mI_T c1, mI_T c1]
  · rw [mI_F c1, mI_F c1]
    have E3 : mw d 163 Q 3 [some (.ref o), some (.ref V), some (.ref P), some (.ref S), some (.int (Int32.ofNat (2 * n))), y.1, y.2.1, y.2.2.1, y.2.2.2, none] [] h = mw d 163 Q 127 [some (.ref o), some (.ref V), some (.ref P), some (.ref S), some (.int (Int32.ofNat 0)), y.1, y.2.1, y.2.2.1, y.2.2.2, none] [] h := by
      rw [s_163_3]
      simp (disch := omega) only [s_163_0, s_163_1, s_163_5, s_163_6, s_163_7, s_163_10, s_163_11, s_163_14, s_163_15, s_163_18, s_163_21, s_163_23, s_163_24, s_163_25, s_163_28, s_163_29, s_163_31, s_163_32, s_163_33, s_163_33x, s_163_34, s_163_35, s_163_38, s_163_39, s_163_41, s_163_42, s_163_43, s_163_43x, s_163_44, s_163_45, s_163_46, s_163_48, s_163_49, s_163_51, s_163_53, s_163_55, s_163_56, s_163_57, s_163_60, s_163_62, s_163_63, s_163_64, s_163_67, s_163_68, s_163_70, s_163_71, s_163_72, s_163_72x, s_163_73, s_163_74, s_163_77, s_163_78, s_163_80, s_163_81, s_163_82, s_163_82x, s_163_83, s_163_84, s_163_85, s_163_87, s_163_89, s_163_91, s_163_92, s_163_93, s_163_96, s_163_99, s_163_101, s_163_101x, s_163_102, s_163_104, s_163_105, s_163_106, s_163_107, s_163_110, s_163_111, s_163_112, s_163_115, s_163_118, s_163_121, s_163_124, s_163_125, s_163_129, s_163_130, s_163_133, s_163_136, s_163_137, s_163_140, s_163_143, s_163_144, s_163_146, s_163_148, s_163_149, s_163_151, s_163_151x, s_163_152, s_163_155, s_163_156, s_163_158, s_163_160, s_163_161, s_163_163, s_163_164, s_163_164x, s_163_165, s_163_167, s_163_169, s_163_170, s_163_171, s_163_174, s_163_175, s_163_177, s_163_178, s_163_179, s_163_180, s_163_183, s_163_185, s_163_186, s_163_187, s_163_190, s_163_191, s_163_193, s_163_194, s_163_195, s_163_196, s_163_197, s_163_198, s_163_201, s_163_202, s_163_203, s_163_206, s_163_209, s_163_212, s_163_215, s_163_216, s_163_219, s_163_222, s_163_223, s_163_226, s_163_227, e_163, mv_i_1, mv_l_1, mv_a_1, mv_a_2, mv_a_3, mk2_n, mk2_i, mk2_l, mk2_a, mk2_u, mk2_x, mB_T, mB_F, mS_cons, mS_nil, mSB_T, mSB_F, mca_nil, mca_i, mca_l, mca_r, mca_u, mca_x, mcat_i, mcat_l, mcat_r, mcat_u, mcat_x, mK_some, mK_none, va_rf_s, va_rf_n, lgc_eq, lgc_lt, lgc_gt, lgc_ge, lgc_le, mrd_104, mrd_105, mrd_106, mrd_107, true_and, and_true, and_self, false_and, and_false, true_or, or_true, false_or, or_false, not_true_eq_false, not_false_eq_true, mgb, mga, mgr, mN, reduceCtorEq, ↓reduceIte, eq_self, ge_iff_le, gt_iff_lt, s1, hn, e3, nn_le, hle]
      rfl
    try dsimp only
    refine E3.trans (E2.trans ?_)
    by_cases c2 : ∃ x, 0 ≤ x ∧ x < a ∧ ∃ k, 0 ≤ k ∧ k < sz x ∧ ((mh_i h P (64 * x + k)).toInt64 < mh_j h (o + 2) (2 * x) ∨ mh_j h (o + 2) (2 * x + 1) < (mh_i h P (64 * x + k)).toInt64)
    · rw [mI_T c2, mI_T c2]
    · rw [mI_F c2, mI_F c2]
      try dsimp only
      rw [s_163_127]
      simp (disch := omega) only [s_163_0, s_163_1, s_163_5, s_163_6, s_163_7, s_163_10, s_163_11, s_163_14, s_163_15, s_163_18, s_163_21, s_163_23, s_163_24, s_163_25, s_163_28, s_163_29, s_163_31, s_163_32, s_163_33, s_163_33x, s_163_34, s_163_35, s_163_38, s_163_39, s_163_41, s_163_42, s_163_43, s_163_43x, s_163_44, s_163_45, s_163_46, s_163_48, s_163_49, s_163_51, s_163_53, s_163_55, s_163_56, s_163_57, s_163_60, s_163_62, s_163_63, s_163_64, s_163_67, s_163_68, s_163_70, s_163_71, s_163_72, s_163_72x, s_163_73, s_163_74, s_163_77, s_163_78, s_163_80, s_163_81, s_163_82, s_163_82x, s_163_83, s_163_84, s_163_85, s_163_87, s_163_89, s_163_91, s_163_92, s_163_93, s_163_96, s_163_99, s_163_101, s_163_101x, s_163_102, s_163_104, s_163_105, s_163_106, s_163_107, s_163_110, s_163_111, s_163_112, s_163_115, s_163_118, s_163_121, s_163_124, s_163_125, s_163_129, s_163_130, s_163_133, s_163_136, s_163_137, s_163_140, s_163_143, s_163_144, s_163_146, s_163_148, s_163_149, s_163_151, s_163_151x, s_163_152, s_163_155, s_163_156, s_163_158, s_163_160, s_163_161, s_163_163, s_163_164, s_163_164x, s_163_165, s_163_167, s_163_169, s_163_170, s_163_171, s_163_174, s_163_175, s_163_177, s_163_178, s_163_179, s_163_180, s_163_183, s_163_185, s_163_186, s_163_187, s_163_190, s_163_191, s_163_193, s_163_194, s_163_195, s_163_196, s_163_197, s_163_198, s_163_201, s_163_202, s_163_203, s_163_206, s_163_209, s_163_212, s_163_215, s_163_216, s_163_219, s_163_222, s_163_223, s_163_226, s_163_227, e_163, mv_i_1, mv_l_1, mv_a_1, mv_a_2, mv_a_3, mk2_n, mk2_i, mk2_l, mk2_a, mk2_u, mk2_x, mB_T, mB_F, mS_cons, mS_nil, mSB_T, mSB_F, mca_nil, mca_i, mca_l, mca_r, mca_u, mca_x, mcat_i, mcat_l, mcat_r, mcat_u, mcat_x, mK_some, mK_none, va_rf_s, va_rf_n, lgc_eq, lgc_lt, lgc_gt, lgc_ge, lgc_le, mrd_104, mrd_105, mrd_106, mrd_107, true_and, and_true, and_self, false_and, and_false, true_or, or_true, false_or, or_false, not_true_eq_false, not_false_eq_true, mgb, mga, mgr, mN, reduceCtorEq, ↓reduceIte, eq_self, ge_iff_le, gt_iff_lt, s1, ha, hz, nn_le, hla]
end AD
theorem kb_1 (b : Bool) : kb b &&& 1 = kb b := by cases b <;> decide
theorem kb_0 (b : Bool) : kb b &&& 0 = kb false := by cases b <;> decide
theorem kb_z (b : Bool) : (kb b = 0) = (b = false) := by cases b <;> simp [kb]
def kq_r (f : Nat → Int64) (v : Nat → Int32) (i j : Nat) : Bool := (List.range j).all fun k => decide (¬ f (24 * i + k) < vS v i + vS v k)
theorem kq_rn {f : Nat → Int64} {v : Nat → Int32} {i j : Nat} : kq_r f v i (j + 1) = (kq_r f v i j && decide (¬ f (24 * i + j) < vS v i + vS v j)) := by unfold kq_r; rw [List.range_succ, List.all_append]; simp
def kq_a (lo hi : Int64) (p : Nat → Int32) (x j : Nat) : Bool := (List.range j).all fun k => decide (¬ (p (64 * x + k)).toInt64 < lo) && decide (¬ hi < (p (64 * x + k)).toInt64)
theorem kq_an {lo hi : Int64} {p : Nat → Int32} {x j : Nat} : kq_a lo hi p x (j + 1) = (kq_a lo hi p x j && (decide (¬ (p (64 * x + j)).toInt64 < lo) && decide (¬ hi < (p (64 * x + j)).toInt64))) := by unfold kq_a; rw [List.range_succ, List.all_append]; simp
section HS
variable {d : Nat} {Q : Option Value → mh_H → Prop} {h : mh_H} {o V P n a : Nat}
theorem c_297n (hs : ko h o) (hn : mh_i h o 1 = Int32.ofNat n) (hn2 : n ≤ 12) (ha : mh_i h o 2 = Int32.ofNat a) (ha2 : a ≤ 6) (hz : mh_i h o 0 = 1) : mcall d 297 [.ref o, .ref V, .ref P] h Q = Q (some (.int 0)) h := by
  have s1 := hs.1
  have e3 : ∀ k, (2 : Int32) * Int32.ofNat k = Int32.ofNat (2 * k) := fun k => nn_mul (a := 2) (b := k)
  have e10 : ((1 : Int32) = 0) = False := by decide
  have l0 : ∀ k : Nat, k < 2147483648 → ((Int32.ofNat k ≤ 0) = (k = 0)) := fun k hk => by
    rw [show (0 : Int32) = Int32.ofNat 0 from rfl, nn_le hk (by omega)]
    exact propext ⟨fun z => by omega, fun z => by omega⟩
  by_cases c : 2 * n = 0 <;> by_cases c2 : a = 0
  all_goals simp (disch := omega) only [s_297_0, s_297_1, s_297_4, s_297_7, s_297_8, s_297_11, s_297_12, s_297_13, s_297_14, s_297_16, s_297_18, s_297_19, s_297_20, s_297_23, s_297_24, s_297_27, s_297_28, s_297_31, s_297_32, s_297_34, s_297_36, s_297_37, s_297_38, s_297_41, s_297_42, s_297_45, s_297_46, s_297_48, s_297_49, s_297_52, s_297_54, s_297_55, s_297_58, s_297_59, s_297_60, s_297_63, s_297_65, s_297_67, s_297_68, s_297_70, s_297_71, s_297_72, s_297_73, s_297_76, s_297_77, s_297_80, s_297_81, s_297_82, s_297_83, s_297_86, s_297_89, s_297_92, s_297_95, s_297_96, s_297_98, s_297_100, s_297_101, s_297_104, s_297_107, s_297_108, s_297_111, s_297_112, s_297_114, s_297_116, s_297_117, s_297_120, s_297_122, s_297_123, s_297_126, s_297_127, s_297_128, s_297_130, s_297_132, s_297_133, s_297_135, s_297_136, s_297_137, s_297_138, s_297_139, s_297_142, s_297_144, s_297_145, s_297_146, s_297_149, s_297_150, s_297_152, s_297_154, s_297_155, s_297_157, s_297_158, s_297_159, s_297_160, s_297_161, s_297_164, s_297_166, s_297_167, s_297_168, s_297_171, s_297_172, s_297_175, s_297_176, s_297_177, s_297_178, s_297_181, s_297_184, s_297_187, s_297_190, s_297_191, e_297, mv_i_1, mv_l_1, mv_a_1, mv_a_2, mv_a_3, mk2_n, mk2_i, mk2_l, mk2_a, mk2_u, mk2_x, mB_T, mB_F, mS_cons, mS_nil, mSB_T, mSB_F, mca_nil, mca_i, mca_l, mca_r, mca_u, mca_x, mcat_i, mcat_l, mcat_r, mcat_u, mcat_x, mK_some, mK_none, va_rf_s, va_rf_n, lgc_eq, lgc_lt, lgc_gt, lgc_ge, lgc_le, mrd_104, mrd_105, mrd_106, mrd_107, true_and, and_true, and_self, false_and, and_false, true_or, or_true, false_or, or_false, not_true_eq_false, not_false_eq_true, mgb, mga, mgr, mN, reduceCtorEq, ↓reduceIte, eq_self, ge_iff_le, gt_iff_lt, s1, hn, ha, hz, e3, e10, l0, c, c2]
theorem c_297 (hs : ko h o) (hn : mh_i h o 1 = Int32.ofNat n) (hn2 : n ≤ 12) (ha : mh_i h o 2 = Int32.ofNat a) (ha2 : a ≤ 6) (hz : mh_i h o 0 = 0) (hV : ri h V 12) (hP : ri h P 384) {sz : Nat → Nat} (hsz : ∀ x, x < a → mh_i h (o + 4) x = Int32.ofNat (sz x) ∧ sz x ≤ 64) : mcall (d + 1) 297 [.ref o, .ref V, .ref P] h Q = mI (∃ i, 0 ≤ i ∧ i < 2 * n ∧ kq_r (mh_j h (o + 1)) (mh_i h V) i (2 * n) = false) (Q (some (.int 0)) h) (mI (∃ x, 0 ≤ x ∧ x < a ∧ kq_a (mh_j h (o + 2) x) (mh_j h (o + 3) x) (mh_i h P) x (sz x) = false) (Q (some (.int 0)) h) (Q (some (.int 1)) h)) := by
  have hV' := hV
  obtain ⟨s1, s2, s3, s4, s5, s6, s7, s8, s9, s10, s11, s12, s13⟩ := hs
  obtain ⟨v1, v2⟩ := hV
  obtain ⟨p1, p2⟩ := hP
  have ei : ∀ k, Int32.ofNat k + 1 = Int32.ofNat (k + 1) := fun k => nn_add (a := k) (b := 1)
  have e3 : ∀ k, (2 : Int32) * Int32.ofNat k = Int32.ofNat (2 * k) := fun k => nn_mul (a := 2) (b := k)
  have e24 : ∀ k, (24 : Int32) * Int32.ofNat k = Int32.ofNat (24 * k) := fun k => nn_mul (a := 24) (b := k)
  have e64 : ∀ k, (64 : Int32) * Int32.ofNat k = Int32.ofNat (64 * k) := fun k => nn_mul (a := 64) (b := k)
  have e10 : ((1 : Int32) = 0) = False := by decide
  have e00 : ((0 : Int32) = 0) = True := by decide
  have hle : (2 * n ≤ 2 * n) = True := eq_true (Nat.le_refl _)
  have hla : (a ≤ a) = True := eq_true (Nat.le_refl _)
  have k1 : kb true = 1 := rfl
  have k0 : kb false = 0 := rfl
  -- behind a row that fails all is over
  have OUT : ∀ (x4 x5 : Option Value), mw (d + 1) 297 Q 95 [some (.ref o), some (.ref V), some (.ref P), some (.int 0), x4, x5] [] h = Q (some (.int 0)) h := by
    intro x4 x5
    have l0 : ∀ k : Nat, k < 2147483648 → ((Int32.ofNat k ≤ 0) = (k = 0)) := fun k hk => by
      rw [show (0 : Int32) = Int32.ofNat 0 from rfl, nn_le hk (by omega)]
      exact propext ⟨fun z => by omega, fun z => by omega⟩
    by_cases c : a = 0
    all_goals simp (disch := omega) only [s_297_0, s_297_1, s_297_4, s_297_7, s_297_8, s_297_11, s_297_12, s_297_13, s_297_14, s_297_16, s_297_18, s_297_19, s_297_20, s_297_23, s_297_24, s_297_27, s_297_28, s_297_31, s_297_32, s_297_34, s_297_36, s_297_37, s_297_38, s_297_41, s_297_42, s_297_45, s_297_46, s_297_48, s_297_49, s_297_52, s_297_54, s_297_55, s_297_58, s_297_59, s_297_60, s_297_63, s_297_65, s_297_67, s_297_68, s_297_70, s_297_71, s_297_72, s_297_73, s_297_76, s_297_77, s_297_80, s_297_81, s_297_82, s_297_83, s_297_86, s_297_89, s_297_92, s_297_95, s_297_96, s_297_98, s_297_100, s_297_101, s_297_104, s_297_107, s_297_108, s_297_111, s_297_112, s_297_114, s_297_116, s_297_117, s_297_120, s_297_122, s_297_123, s_297_126, s_297_127, s_297_128, s_297_130, s_297_132, s_297_133, s_297_135, s_297_136, s_297_137, s_297_138, s_297_139, s_297_142, s_297_144, s_297_145, s_297_146, s_297_149, s_297_150, s_297_152, s_297_154, s_297_155, s_297_157, s_297_158, s_297_159, s_297_160, s_297_161, s_297_164, s_297_166, s_297_167, s_297_168, s_297_171, s_297_172, s_297_175, s_297_176, s_297_177, s_297_178, s_297_181, s_297_184, s_297_187, s_297_190, s_297_191, e_297, mv_i_1, mv_l_1, mv_a_1, mv_a_2, mv_a_3, mk2_n, mk2_i, mk2_l, mk2_a, mk2_u, mk2_x, mB_T, mB_F, mS_cons, mS_nil, mSB_T, mSB_F, mca_nil, mca_i, mca_l, mca_r, mca_u, mca_x, mcat_i, mcat_l, mcat_r, mcat_u, mcat_x, mK_some, mK_none, va_rf_s, va_rf_n, lgc_eq, lgc_lt, lgc_gt, lgc_ge, lgc_le, mrd_104, mrd_105, mrd_106, mrd_107, true_and, and_true, and_self, false_and, and_false, true_or, or_true, false_or, or_false, not_true_eq_false, not_false_eq_true, mgb, mga, mgr, mN, reduceCtorEq, ↓reduceIte, eq_self, ge_iff_le, gt_iff_lt, s1, ha, l0, c, e00]
  have IN : ∀ i, i < 2 * n → mw (d + 1) 297 Q 34 [some (.ref o), some (.ref V), some (.ref P), some (.int (kb true)), some (.int (Int32.ofNat i)), some (.int (Int32.ofNat 0))] [] h = mw (d + 1) 297 Q 34 [some (.ref o), some (.ref V), some (.ref P), some (.int (kb (kq_r (mh_j h (o + 1)) (mh_i h V) i (2 * n)))), some (.int (Int32.ofNat i)), some (.int (Int32.ofNat (2 * n)))] [] h := by
    intro i hi
    exact mw_loop (d := d + 1) (y := 297) (pc := 34) (Q := Q) (st := []) (fun j => [some (.ref o), some (.ref V), some (.ref P), some (.int (kb (kq_r (mh_j h (o + 1)) (mh_i h V) i j))), some (.int (Int32.ofNat i)), some (.int (Int32.ofNat j))]) (fun _ => h) (a := 0) (b := 2 * n) (Nat.zero_le _) (fun j _ hj => by
      have hj2 : ¬ 2 * n ≤ j := by omega
      have b1 : 24 * i + j < 576 := by omega
      have c1 := fun Q' => c_296 (d := d) (Q := Q') hV' (i := i) (by omega)
      have c2 := fun Q' => c_296 (d := d) (Q := Q') hV' (i := j) (by omega)
      try dsimp only
      rw [s_297_34, kq_rn]
      by_cases c : mh_j h (o + 1) (24 * i + j) < vS (mh_i h V) i + vS (mh_i h V) j
      · have dc : decide (¬ mh_j h (o + 1) (24 * i + j) < vS (mh_i h V) i + vS (mh_i h V) j) = false := by simpa using c
        rw [dc, Bool.and_false]
        simp (disch := omega) only [s_297_0, s_297_1, s_297_4, s_297_7, s_297_8, s_297_11, s_297_12, s_297_13, s_297_14, s_297_16, s_297_18, s_297_19, s_297_20, s_297_23, s_297_24, s_297_27, s_297_28, s_297_31, s_297_32, s_297_36, s_297_37, s_297_38, s_297_41, s_297_42, s_297_45, s_297_46, s_297_48, s_297_49, s_297_52, s_297_54, s_297_55, s_297_58, s_297_59, s_297_60, s_297_63, s_297_65, s_297_67, s_297_68, s_297_70, s_297_71, s_297_72, s_297_73, s_297_76, s_297_77, s_297_80, s_297_81, s_297_82, s_297_83, s_297_86, s_297_89, s_297_92, s_297_95, s_297_96, s_297_98, s_297_100, s_297_101, s_297_104, s_297_107, s_297_108, s_297_111, s_297_112, s_297_114, s_297_116, s_297_117, s_297_120, s_297_122, s_297_123, s_297_126, s_297_127, s_297_128, s_297_130, s_297_132, s_297_133, s_297_135, s_297_136, s_297_137, s_297_138, s_297_139, s_297_142, s_297_144, s_297_145, s_297_146, s_297_149, s_297_150, s_297_152, s_297_154, s_297_155, s_297_157, s_297_158, s_297_159, s_297_160, s_297_161, s_297_164, s_297_166, s_297_167, s_297_168, s_297_171, s_297_172, s_297_175, s_297_176, s_297_177, s_297_178, s_297_181, s_297_184, s_297_187, s_297_190, s_297_191, e_297, mv_i_1, mv_l_1, mv_a_1, mv_a_2, mv_a_3, mk2_n, mk2_i, mk2_l, mk2_a, mk2_u, mk2_x, mB_T, mB_F, mS_cons, mS_nil, mSB_T, mSB_F, mca_nil, mca_i, mca_l, mca_r, mca_u, mca_x, mcat_i, mcat_l, mcat_r, mcat_u, mcat_x, mK_some, mK_none, va_rf_s, va_rf_n, lgc_eq, lgc_lt, lgc_gt, lgc_ge, lgc_le, mrd_104, mrd_105, mrd_106, mrd_107, true_and, and_true, and_self, false_and, and_false, true_or, or_true, false_or, or_false, not_true_eq_false, not_false_eq_true, mgb, mga, mgr, mN, reduceCtorEq, ↓reduceIte, eq_self, ge_iff_le, gt_iff_lt, s1, s2, s3, s4, hn, e3, e24, ei, nn_le, nn_mxT, nn_clamp, nn_add, hj2, c1, c2, c, le_nlt64, mB_not, kb_0]
      · have dc : decide (¬ mh_j h (o + 1) (24 * i + j) < vS (mh_i h V) i + vS (mh_i h V) j) = true := by simpa using c
        rw [dc, Bool.and_true]
        simp (disch := omega) only [s_297_0, s_297_1, s_297_4, s_297_7, s_297_8, s_297_11, s_297_12, s_297_13, s_297_14, s_297_16, s_297_18, s_297_19, s_297_20, s_297_23, s_297_24, s_297_27, s_297_28, s_297_31, s_297_32, s_297_36, s_297_37, s_297_38, s_297_41, s_297_42, s_297_45, s_297_46, s_297_48, s_297_49, s_297_52, s_297_54, s_297_55, s_297_58, s_297_59, s_297_60, s_297_63, s_297_65, s_297_67, s_297_68, s_297_70, s_297_71, s_297_72, s_297_73, s_297_76, s_297_77, s_297_80, s_297_81, s_297_82, s_297_83, s_297_86, s_297_89, s_297_92, s_297_95, s_297_96, s_297_98, s_297_100, s_297_101, s_297_104, s_297_107, s_297_108, s_297_111, s_297_112, s_297_114, s_297_116, s_297_117, s_297_120, s_297_122, s_297_123, s_297_126, s_297_127, s_297_128, s_297_130, s_297_132, s_297_133, s_297_135, s_297_136, s_297_137, s_297_138, s_297_139, s_297_142, s_297_144, s_297_145, s_297_146, s_297_149, s_297_150, s_297_152, s_297_154, s_297_155, s_297_157, s_297_158, s_297_159, s_297_160, s_297_161, s_297_164, s_297_166, s_297_167, s_297_168, s_297_171, s_297_172, s_297_175, s_297_176, s_297_177, s_297_178, s_297_181, s_297_184, s_297_187, s_297_190, s_297_191, e_297, mv_i_1, mv_l_1, mv_a_1, mv_a_2, mv_a_3, mk2_n, mk2_i, mk2_l, mk2_a, mk2_u, mk2_x, mB_T, mB_F, mS_cons, mS_nil, mSB_T, mSB_F, mca_nil, mca_i, mca_l, mca_r, mca_u, mca_x, mcat_i, mcat_l, mcat_r, mcat_u, mcat_x, mK_some, mK_none, va_rf_s, va_rf_n, lgc_eq, lgc_lt, lgc_gt, lgc_ge, lgc_le, mrd_104, mrd_105, mrd_106, mrd_107, true_and, and_true, and_self, false_and, and_false, true_or, or_true, false_or, or_false, not_true_eq_false, not_false_eq_true, mgb, mga, mgr, mN, reduceCtorEq, ↓reduceIte, eq_self, ge_iff_le, gt_iff_lt, s1, s2, s3, s4, hn, e3, e24, ei, nn_le, nn_mxT, nn_clamp, nn_add, hj2, c1, c2, c, le_nlt64, mB_not, kb_1])
  have L1 := mw_untilD (α := Option Value) (d := d + 1) (y := 297) (pc := 16) (Q := Q) (st := []) (fun i x => [some (.ref o), some (.ref V), some (.ref P), some (.int (kb true)), some (.int (Int32.ofNat i)), x]) (fun _ => h) (fun i => kq_r (mh_j h (o + 1)) (mh_i h V) i (2 * n) = false) (Q (some (.int 0)) h) (a := 0) (b := 2 * n) (Nat.zero_le _) (fun i x _ hi => by
    refine ⟨some (.int (Int32.ofNat (2 * n))), ?_⟩
    have hi2 : ¬ 2 * n ≤ i := by omega
    have E1 : mw (d + 1) 297 Q 16 [some (.ref o), some (.ref V), some (.ref P), some (.int (kb true)), some (.int (Int32.ofNat i)), x] [] h = mw (d + 1) 297 Q 34 [some (.ref o), some (.ref V), some (.ref P), some (.int (kb true)), some (.int (Int32.ofNat i)), some (.int (Int32.ofNat 0))] [] h := by
      rw [s_297_16]
      simp (disch := omega) only [s_297_0, s_297_1, s_297_4, s_297_7, s_297_8, s_297_11, s_297_12, s_297_13, s_297_14, s_297_18, s_297_19, s_297_20, s_297_23, s_297_24, s_297_27, s_297_28, s_297_31, s_297_32, s_297_36, s_297_37, s_297_38, s_297_41, s_297_42, s_297_45, s_297_46, s_297_48, s_297_49, s_297_52, s_297_54, s_297_55, s_297_58, s_297_59, s_297_60, s_297_63, s_297_65, s_297_67, s_297_68, s_297_70, s_297_71, s_297_72, s_297_73, s_297_76, s_297_77, s_297_80, s_297_81, s_297_82, s_297_83, s_297_86, s_297_89, s_297_92, s_297_95, s_297_96, s_297_98, s_297_100, s_297_101, s_297_104, s_297_107, s_297_108, s_297_111, s_297_112, s_297_114, s_297_116, s_297_117, s_297_120, s_297_122, s_297_123, s_297_126, s_297_127, s_297_128, s_297_130, s_297_132, s_297_133, s_297_135, s_297_136, s_297_137, s_297_138, s_297_139, s_297_142, s_297_144, s_297_145, s_297_146, s_297_149, s_297_150, s_297_152, s_297_154, s_297_155, s_297_157, s_297_158, s_297_159, s_297_160, s_297_161, s_297_164, s_297_166, s_297_167, s_297_168, s_297_171, s_297_172, s_297_175, s_297_176, s_297_177, s_297_178, s_297_181, s_297_184, s_297_187, s_297_190, s_297_191, e_297, mv_i_1, mv_l_1, mv_a_1, mv_a_2, mv_a_3, mk2_n, mk2_i, mk2_l, mk2_a, mk2_u, mk2_x, mB_T, mB_F, mS_cons, mS_nil, mSB_T, mSB_F, mca_nil, mca_i, mca_l, mca_r, mca_u, mca_x, mcat_i, mcat_l, mcat_r, mcat_u, mcat_x, mK_some, mK_none, va_rf_s, va_rf_n, lgc_eq, lgc_lt, lgc_gt, lgc_ge, lgc_le, mrd_104, mrd_105, mrd_106, mrd_107, true_and, and_true, and_self, false_and, and_false, true_or, or_true, false_or, or_false, not_true_eq_false, not_false_eq_true, mgb, mga, mgr, mN, reduceCtorEq, ↓reduceIte, eq_self, ge_iff_le, gt_iff_lt, s1, hn, e3, nn_le, hi2, k1, e10]
      rfl
    try dsimp only
    rw [E1, IN i hi]
    cases hb : kq_r (mh_j h (o + 1)) (mh_i h V) i (2 * n) with
    | true =>
      rw [mI_F (by decide), s_297_34]
      simp (disch := omega) only [s_297_0, s_297_1, s_297_4, s_297_7, s_297_8, s_297_11, s_297_12, s_297_13, s_297_14, s_297_18, s_297_19, s_297_20, s_297_23, s_297_24, s_297_27, s_297_28, s_297_31, s_297_32, s_297_36, s_297_37, s_297_38, s_297_41, s_297_42, s_297_45, s_297_46, s_297_48, s_297_49, s_297_52, s_297_54, s_297_55, s_297_58, s_297_59, s_297_60, s_297_63, s_297_65, s_297_67, s_297_68, s_297_70, s_297_71, s_297_72, s_297_73, s_297_76, s_297_77, s_297_80, s_297_81, s_297_82, s_297_83, s_297_86, s_297_89, s_297_92, s_297_95, s_297_96, s_297_98, s_297_100, s_297_101, s_297_104, s_297_107, s_297_108, s_297_111, s_297_112, s_297_114, s_297_116, s_297_117, s_297_120, s_297_122, s_297_123, s_297_126, s_297_127, s_297_128, s_297_130, s_297_132, s_297_133, s_297_135, s_297_136, s_297_137, s_297_138, s_297_139, s_297_142, s_297_144, s_297_145, s_297_146, s_297_149, s_297_150, s_297_152, s_297_154, s_297_155, s_297_157, s_297_158, s_297_159, s_297_160, s_297_161, s_297_164, s_297_166, s_297_167, s_297_168, s_297_171, s_297_172, s_297_175, s_297_176, s_297_177, s_297_178, s_297_181, s_297_184, s_297_187, s_297_190, s_297_191, e_297, mv_i_1, mv_l_1, mv_a_1, mv_a_2, mv_a_3, mk2_n, mk2_i, mk2_l, mk2_a, mk2_u, mk2_x, mB_T, mB_F, mS_cons, mS_nil, mSB_T, mSB_F, mca_nil, mca_i, mca_l, mca_r, mca_u, mca_x, mcat_i, mcat_l, mcat_r, mcat_u, mcat_x, mK_some, mK_none, va_rf_s, va_rf_n, lgc_eq, lgc_lt, lgc_gt, lgc_ge, lgc_le, mrd_104, mrd_105, mrd_106, mrd_107, true_and, and_true, and_self, false_and, and_false, true_or, or_true, false_or, or_false, not_true_eq_false, not_false_eq_true, mgb, mga, mgr, mN, reduceCtorEq, ↓reduceIte, eq_self, ge_iff_le, gt_iff_lt, s1, hn, e3, ei, nn_le, hle]
    | false =>
      rw [mI_T rfl, s_297_34, k0]
      by_cases c : 2 * n ≤ i + 1
      all_goals simp (disch := omega) only [s_297_0, s_297_1, s_297_4, s_297_7, s_297_8, s_297_11, s_297_12, s_297_13, s_297_14, s_297_16, s_297_18, s_297_19, s_297_20, s_297_23, s_297_24, s_297_27, s_297_28, s_297_31, s_297_32, s_297_36, s_297_37, s_297_38, s_297_41, s_297_42, s_297_45, s_297_46, s_297_48, s_297_49, s_297_52, s_297_54, s_297_55, s_297_58, s_297_59, s_297_60, s_297_63, s_297_65, s_297_67, s_297_68, s_297_70, s_297_71, s_297_72, s_297_73, s_297_76, s_297_77, s_297_80, s_297_81, s_297_82, s_297_83, s_297_86, s_297_89, s_297_92, s_297_96, s_297_98, s_297_100, s_297_101, s_297_104, s_297_107, s_297_108, s_297_111, s_297_112, s_297_114, s_297_116, s_297_117, s_297_120, s_297_122, s_297_123, s_297_126, s_297_127, s_297_128, s_297_130, s_297_132, s_297_133, s_297_135, s_297_136, s_297_137, s_297_138, s_297_139, s_297_142, s_297_144, s_297_145, s_297_146, s_297_149, s_297_150, s_297_152, s_297_154, s_297_155, s_297_157, s_297_158, s_297_159, s_297_160, s_297_161, s_297_164, s_297_166, s_297_167, s_297_168, s_297_171, s_297_172, s_297_175, s_297_176, s_297_177, s_297_178, s_297_181, s_297_184, s_297_187, s_297_190, s_297_191, e_297, mv_i_1, mv_l_1, mv_a_1, mv_a_2, mv_a_3, mk2_n, mk2_i, mk2_l, mk2_a, mk2_u, mk2_x, mB_T, mB_F, mS_cons, mS_nil, mSB_T, mSB_F, mca_nil, mca_i, mca_l, mca_r, mca_u, mca_x, mcat_i, mcat_l, mcat_r, mcat_u, mcat_x, mK_some, mK_none, va_rf_s, va_rf_n, lgc_eq, lgc_lt, lgc_gt, lgc_ge, lgc_le, mrd_104, mrd_105, mrd_106, mrd_107, true_and, and_true, and_self, false_and, and_false, true_or, or_true, false_or, or_false, not_true_eq_false, not_false_eq_true, mgb, mga, mgr, mN, reduceCtorEq, ↓reduceIte, eq_self, ge_iff_le, gt_iff_lt, s1, hn, e3, ei, nn_le, hle, c, e00, OUT]) none
  obtain ⟨y, E1⟩ := L1
  have L2 := mw_untilD (α := Option Value) (d := d + 1) (y := 297) (pc := 98) (Q := Q) (st := []) (fun x z => [some (.ref o), some (.ref V), some (.ref P), some (.int (kb true)), some (.int (Int32.ofNat x)), z]) (fun _ => h) (fun x => kq_a (mh_j h (o + 2) x) (mh_j h (o + 3) x) (mh_i h P) x (sz x) = false) (Q (some (.int 0)) h) (a := 0) (b := a) (Nat.zero_le _) (fun x z _ hx => by
    obtain ⟨z1, z2⟩ := hsz x hx
    have hx2 : ¬ a ≤ x := by omega
    have hl : (sz x ≤ sz x) = True := eq_true (Nat.le_refl _)
    have I := mw_loop (d := d + 1) (y := 297) (pc := 114) (Q := Q) (st := []) (fun k => [some (.ref o), some (.ref V), some (.ref P), some (.int (kb (kq_a (mh_j h (o + 2) x) (mh_j h (o + 3) x) (mh_i h P) x k))), some (.int (Int32.ofNat x)), some (.int (Int32.ofNat k))]) (fun _ => h) (a := 0) (b := sz x) (Nat.zero_le _) (fun k _ hk => by
      have hk2 : ¬ sz x ≤ k := by omega
      have b1 : 64 * x + k < 384 := by omega
      try dsimp only
      rw [s_297_114, kq_an]
      by_cases c : (mh_i h P (64 * x + k)).toInt64 < mh_j h (o + 2) x
      · have dc : decide (¬ (mh_i h P (64 * x + k)).toInt64 < mh_j h (o + 2) x) = false := by simpa using c
        rw [dc, Bool.false_and, Bool.and_false]
        simp (disch := omega) only [s_297_0, s_297_1, s_297_4, s_297_7, s_297_8, s_297_11, s_297_12, s_297_13, s_297_14, s_297_16, s_297_18, s_297_19, s_297_20, s_297_23, s_297_24, s_297_27, s_297_28, s_297_31, s_297_32, s_297_34, s_297_36, s_297_37, s_297_38, s_297_41, s_297_42, s_297_45, s_297_46, s_297_48, s_297_49, s_297_52, s_297_54, s_297_55, s_297_58, s_297_59, s_297_60, s_297_63, s_297_65, s_297_67, s_297_68, s_297_70, s_297_71, s_297_72, s_297_73, s_297_76, s_297_77, s_297_80, s_297_81, s_297_82, s_297_83, s_297_86, s_297_89, s_297_92, s_297_95, s_297_96, s_297_98, s_297_100, s_297_101, s_297_104, s_297_107, s_297_108, s_297_111, s_297_112, s_297_116, s_297_117, s_297_120, s_297_122, s_297_123, s_297_126, s_297_127, s_297_128, s_297_130, s_297_132, s_297_133, s_297_135, s_297_136, s_297_137, s_297_138, s_297_139, s_297_142, s_297_144, s_297_145, s_297_146, s_297_149, s_297_150, s_297_152, s_297_154, s_297_155, s_297_157, s_297_158, s_297_159, s_297_160, s_297_161, s_297_164, s_297_166, s_297_167, s_297_168, s_297_171, s_297_172, s_297_175, s_297_176, s_297_177, s_297_178, s_297_181, s_297_184, s_297_187, s_297_190, s_297_191, e_297, mv_i_1, mv_l_1, mv_a_1, mv_a_2, mv_a_3, mk2_n, mk2_i, mk2_l, mk2_a, mk2_u, mk2_x, mB_T, mB_F, mS_cons, mS_nil, mSB_T, mSB_F, mca_nil, mca_i, mca_l, mca_r, mca_u, mca_x, mcat_i, mcat_l, mcat_r, mcat_u, mcat_x, mK_some, mK_none, va_rf_s, va_rf_n, lgc_eq, lgc_lt, lgc_gt, lgc_ge, lgc_le, mrd_104, mrd_105, mrd_106, mrd_107, true_and, and_true, and_self, false_and, and_false, true_or, or_true, false_or, or_false, not_true_eq_false, not_false_eq_true, mgb, mga, mgr, mN, reduceCtorEq, ↓reduceIte, eq_self, ge_iff_le, gt_iff_lt, s1, s5, s6, s7, s8, s9, s10, s11, s12, s13, p1, p2, z1, e64, ei, nn_le, nn_mxT, nn_clamp, nn_add, hk2, c, le_nlt64, mB_not, kb_0]
      · have dc : decide (¬ (mh_i h P (64 * x + k)).toInt64 < mh_j h (o + 2) x) = true := by simpa using c
        rw [dc, Bool.true_and]
        by_cases c2 : mh_j h (o + 3) x < (mh_i h P (64 * x + k)).toInt64
        · have dc2 : decide (¬ mh_j h (o + 3) x < (mh_i h P (64 * x + k)).toInt64) = false := by simpa using c2
          rw [dc2, Bool.and_false]
          simp (disch := omega) only [s_297_0, s_297_1, s_297_4, s_297_7, s_297_8, s_297_11, s_297_12, s_297_13, s_297_14, s_297_16, s_297_18, s_297_19, s_297_20, s_297_23, s_297_24, s_297_27, s_297_28, s_297_31, s_297_32, s_297_34, s_297_36, s_297_37, s_297_38, s_297_41, s_297_42, s_297_45, s_297_46, s_297_48, s_297_49, s_297_52, s_297_54, s_297_55, s_297_58, s_297_59, s_297_60, s_297_63, s_297_65, s_297_67, s_297_68, s_297_70, s_297_71, s_297_72, s_297_73, s_297_76, s_297_77, s_297_80, s_297_81, s_297_82, s_297_83, s_297_86, s_297_89, s_297_92, s_297_95, s_297_96, s_297_98, s_297_100, s_297_101, s_297_104, s_297_107, s_297_108, s_297_111, s_297_112, s_297_116, s_297_117, s_297_120, s_297_122, s_297_123, s_297_126, s_297_127, s_297_128, s_297_130, s_297_132, s_297_133, s_297_135, s_297_136, s_297_137, s_297_138, s_297_139, s_297_142, s_297_144, s_297_145, s_297_146, s_297_149, s_297_150, s_297_152, s_297_154, s_297_155, s_297_157, s_297_158, s_297_159, s_297_160, s_297_161, s_297_164, s_297_166, s_297_167, s_297_168, s_297_171, s_297_172, s_297_175, s_297_176, s_297_177, s_297_178, s_297_181, s_297_184, s_297_187, s_297_190, s_297_191, e_297, mv_i_1, mv_l_1, mv_a_1, mv_a_2, mv_a_3, mk2_n, mk2_i, mk2_l, mk2_a, mk2_u, mk2_x, mB_T, mB_F, mS_cons, mS_nil, mSB_T, mSB_F, mca_nil, mca_i, mca_l, mca_r, mca_u, mca_x, mcat_i, mcat_l, mcat_r, mcat_u, mcat_x, mK_some, mK_none, va_rf_s, va_rf_n, lgc_eq, lgc_lt, lgc_gt, lgc_ge, lgc_le, mrd_104, mrd_105, mrd_106, mrd_107, true_and, and_true, and_self, false_and, and_false, true_or, or_true, false_or, or_false, not_true_eq_false, not_false_eq_true, mgb, mga, mgr, mN, reduceCtorEq, ↓reduceIte, eq_self, ge_iff_le, gt_iff_lt, s1, s5, s6, s7, s8, s9, s10, s11, s12, s13, p1, p2, z1, e64, ei, nn_le, nn_mxT, nn_clamp, nn_add, hk2, c, c2, le_nlt64, mB_not, kb_0]
        · have dc2 : decide (¬ mh_j h (o + 3) x < (mh_i h P (64 * x + k)).toInt64) = true := by simpa using c2
          rw [dc2, Bool.and_true]
          simp (disch := omega) only [s_297_0, s_297_1, s_297_4, s_297_7, s_297_8, s_297_11, s_297_12, s_297_13, s_297_14, s_297_16, s_297_18, s_297_19, s_297_20, s_297_23, s_297_24, s_297_27, s_297_28, s_297_31, s_297_32, s_297_34, s_297_36, s_297_37, s_297_38, s_297_41, s_297_42, s_297_45, s_297_46, s_297_48, s_297_49, s_297_52, s_297_54, s_297_55, s_297_58, s_297_59, s_297_60, s_297_63, s_297_65, s_297_67, s_297_68, s_297_70, s_297_71, s_297_72, s_297_73, s_297_76, s_297_77, s_297_80, s_297_81, s_297_82, s_297_83, s_297_86, s_297_89, s_297_92, s_297_95, s_297_96, s_297_98, s_297_100, s_297_101, s_297_104, s_297_107, s_297_108, s_297_111, s_297_112, s_297_116, s_297_117, s_297_120, s_297_122, s_297_123, s_297_126, s_297_127, s_297_128, s_297_130, s_297_132, s_297_133, s_297_135, s_297_136, s_297_137, s_297_138, s_297_139, s_297_142, s_297_144, s_297_145, s_297_146, s_297_149, s_297_150, s_297_152, s_297_154, s_297_155, s_297_157, s_297_158, s_297_159, s_297_160, s_297_161, s_297_164, s_297_166, s_297_167, s_297_168, s_297_171, s_297_172, s_297_175, s_297_176, s_297_177, s_297_178, s_297_181, s_297_184, s_297_187, s_297_190, s_297_191, e_297, mv_i_1, mv_l_1, mv_a_1, mv_a_2, mv_a_3, mk2_n, mk2_i, mk2_l, mk2_a, mk2_u, mk2_x, mB_T, mB_F, mS_cons, mS_nil, mSB_T, mSB_F, mca_nil, mca_i, mca_l, mca_r, mca_u, mca_x, mcat_i, mcat_l, mcat_r, mcat_u, mcat_x, mK_some, mK_none, va_rf_s, va_rf_n, lgc_eq, lgc_lt, lgc_gt, lgc_ge, lgc_le, mrd_104, mrd_105, mrd_106, mrd_107, true_and, and_true, and_self, false_and, and_false, true_or, or_true, false_or, or_false, not_true_eq_false, not_false_eq_true, mgb, mga, mgr, mN, reduceCtorEq, ↓reduceIte, eq_self, ge_iff_le, gt_iff_lt, s1, s5, s6, s7, s8, s9, s10, s11, s12, s13, p1, p2, z1, e64, ei, nn_le, nn_mxT, nn_clamp, nn_add, hk2, c, c2, le_nlt64, mB_not, kb_1])
    refine ⟨some (.int (Int32.ofNat (sz x))), ?_⟩
    have E1 : mw (d + 1) 297 Q 98 [some (.ref o), some (.ref V), some (.ref P), some (.int (kb true)), some (.int (Int32.ofNat x)), z] [] h = mw (d + 1) 297 Q 114 [some (.ref o), some (.ref V), some (.ref P), some (.int (kb true)), some (.int (Int32.ofNat x)), some (.int (Int32.ofNat 0))] [] h := by
      rw [s_297_98]
      simp (disch := omega) only [s_297_0, s_297_1, s_297_4, s_297_7, s_297_8, s_297_11, s_297_12, s_297_13, s_297_14, s_297_16, s_297_18, s_297_19, s_297_20, s_297_23, s_297_24, s_297_27, s_297_28, s_297_31, s_297_32, s_297_34, s_297_36, s_297_37, s_297_38, s_297_41, s_297_42, s_297_45, s_297_46, s_297_48, s_297_49, s_297_52, s_297_54, s_297_55, s_297_58, s_297_59, s_297_60, s_297_63, s_297_65, s_297_67, s_297_68, s_297_70, s_297_71, s_297_72, s_297_73, s_297_76, s_297_77, s_297_80, s_297_81, s_297_82, s_297_83, s_297_86, s_297_89, s_297_92, s_297_95, s_297_96, s_297_100, s_297_101, s_297_104, s_297_107, s_297_108, s_297_111, s_297_112, s_297_116, s_297_117, s_297_120, s_297_122, s_297_123, s_297_126, s_297_127, s_297_128, s_297_130, s_297_132, s_297_133, s_297_135, s_297_136, s_297_137, s_297_138, s_297_139, s_297_142, s_297_144, s_297_145, s_297_146, s_297_149, s_297_150, s_297_152, s_297_154, s_297_155, s_297_157, s_297_158, s_297_159, s_297_160, s_297_161, s_297_164, s_297_166, s_297_167, s_297_168, s_297_171, s_297_172, s_297_175, s_297_176, s_297_177, s_297_178, s_297_181, s_297_184, s_297_187, s_297_190, s_297_191, e_297, mv_i_1, mv_l_1, mv_a_1, mv_a_2, mv_a_3, mk2_n, mk2_i, mk2_l, mk2_a, mk2_u, mk2_x, mB_T, mB_F, mS_cons, mS_nil, mSB_T, mSB_F, mca_nil, mca_i, mca_l, mca_r, mca_u, mca_x, mcat_i, mcat_l, mcat_r, mcat_u, mcat_x, mK_some, mK_none, va_rf_s, va_rf_n, lgc_eq, lgc_lt, lgc_gt, lgc_ge, lgc_le, mrd_104, mrd_105, mrd_106, mrd_107, true_and, and_true, and_self, false_and, and_false, true_or, or_true, false_or, or_false, not_true_eq_false, not_false_eq_true, mgb, mga, mgr, mN, reduceCtorEq, ↓reduceIte, eq_self, ge_iff_le, gt_iff_lt, s1, ha, nn_le, hx2, k1, e10]
      rfl
    try dsimp only at I
    try dsimp only
    rw [E1]
    refine Eq.trans I ?_
    cases hb : kq_a (mh_j h (o + 2) x) (mh_j h (o + 3) x) (mh_i h P) x (sz x) with
    | true =>
      rw [mI_F (by decide), s_297_114]
      simp (disch := omega) only [s_297_0, s_297_1, s_297_4, s_297_7, s_297_8, s_297_11, s_297_12, s_297_13, s_297_14, s_297_16, s_297_18, s_297_19, s_297_20, s_297_23, s_297_24, s_297_27, s_297_28, s_297_31, s_297_32, s_297_34, s_297_36, s_297_37, s_297_38, s_297_41, s_297_42, s_297_45, s_297_46, s_297_48, s_297_49, s_297_52, s_297_54, s_297_55, s_297_58, s_297_59, s_297_60, s_297_63, s_297_65, s_297_67, s_297_68, s_297_70, s_297_71, s_297_72, s_297_73, s_297_76, s_297_77, s_297_80, s_297_81, s_297_82, s_297_83, s_297_86, s_297_89, s_297_92, s_297_95, s_297_96, s_297_100, s_297_101, s_297_104, s_297_107, s_297_108, s_297_111, s_297_112, s_297_116, s_297_117, s_297_120, s_297_122, s_297_123, s_297_126, s_297_127, s_297_128, s_297_130, s_297_132, s_297_133, s_297_135, s_297_136, s_297_137, s_297_138, s_297_139, s_297_142, s_297_144, s_297_145, s_297_146, s_297_149, s_297_150, s_297_152, s_297_154, s_297_155, s_297_157, s_297_158, s_297_159, s_297_160, s_297_161, s_297_164, s_297_166, s_297_167, s_297_168, s_297_171, s_297_172, s_297_175, s_297_176, s_297_177, s_297_178, s_297_181, s_297_184, s_297_187, s_297_190, s_297_191, e_297, mv_i_1, mv_l_1, mv_a_1, mv_a_2, mv_a_3, mk2_n, mk2_i, mk2_l, mk2_a, mk2_u, mk2_x, mB_T, mB_F, mS_cons, mS_nil, mSB_T, mSB_F, mca_nil, mca_i, mca_l, mca_r, mca_u, mca_x, mcat_i, mcat_l, mcat_r, mcat_u, mcat_x, mK_some, mK_none, va_rf_s, va_rf_n, lgc_eq, lgc_lt, lgc_gt, lgc_ge, lgc_le, mrd_104, mrd_105, mrd_106, mrd_107, true_and, and_true, and_self, false_and, and_false, true_or, or_true, false_or, or_false, not_true_eq_false, not_false_eq_true, mgb, mga, mgr, mN, reduceCtorEq, ↓reduceIte, eq_self, ge_iff_le, gt_iff_lt, s1, s11, s12, s13, z1, ei, nn_le, nn_mxT, nn_clamp, hl]
    | false =>
      rw [mI_T rfl, s_297_114, k0]
      by_cases c : a ≤ x + 1
      all_goals simp (disch := omega) only [s_297_0, s_297_1, s_297_4, s_297_7, s_297_8, s_297_11, s_297_12, s_297_13, s_297_14, s_297_16, s_297_18, s_297_19, s_297_20, s_297_23, s_297_24, s_297_27, s_297_28, s_297_31, s_297_32, s_297_34, s_297_36, s_297_37, s_297_38, s_297_41, s_297_42, s_297_45, s_297_46, s_297_48, s_297_49, s_297_52, s_297_54, s_297_55, s_297_58, s_297_59, s_297_60, s_297_63, s_297_65, s_297_67, s_297_68, s_297_70, s_297_71, s_297_72, s_297_73, s_297_76, s_297_77, s_297_80, s_297_81, s_297_82, s_297_83, s_297_86, s_297_89, s_297_92, s_297_95, s_297_96, s_297_98, s_297_100, s_297_101, s_297_104, s_297_107, s_297_108, s_297_111, s_297_112, s_297_116, s_297_117, s_297_120, s_297_122, s_297_123, s_297_126, s_297_127, s_297_128, s_297_130, s_297_132, s_297_133, s_297_135, s_297_136, s_297_137, s_297_138, s_297_139, s_297_142, s_297_144, s_297_145, s_297_146, s_297_149, s_297_150, s_297_152, s_297_154, s_297_155, s_297_157, s_297_158, s_297_159, s_297_160, s_297_161, s_297_164, s_297_166, s_297_167, s_297_168, s_297_171, s_297_172, s_297_175, s_297_176, s_297_177, s_297_178, s_297_181, s_297_184, s_297_187, s_297_190, s_297_191, e_297, mv_i_1, mv_l_1, mv_a_1, mv_a_2, mv_a_3, mk2_n, mk2_i, mk2_l, mk2_a, mk2_u, mk2_x, mB_T, mB_F, mS_cons, mS_nil, mSB_T, mSB_F, mca_nil, mca_i, mca_l, mca_r, mca_u, mca_x, mcat_i, mcat_l, mcat_r, mcat_u, mcat_x, mK_some, mK_none, va_rf_s, va_rf_n, lgc_eq, lgc_lt, lgc_gt, lgc_ge, lgc_le, mrd_104, mrd_105, mrd_106, mrd_107, true_and, and_true, and_self, false_and, and_false, true_or, or_true, false_or, or_false, not_true_eq_false, not_false_eq_true, mgb, mga, mgr, mN, reduceCtorEq, ↓reduceIte, eq_self, ge_iff_le, gt_iff_lt, s1, s11, s12, s13, z1, ha, ei, nn_le, nn_mxT, nn_clamp, hl, c, e00]) y
  obtain ⟨y', E2⟩ := L2
  have E0 : mcall (d + 1) 297 [.ref o, .ref V, .ref P] h Q = mw (d + 1) 297 Q 16 [some (.ref o), some (.ref V), some (.ref P), some (.int (kb true)), some (.int (Int32.ofNat 0)), none] [] h := by
    simp only [s_297_0, s_297_1, s_297_4, s_297_7, s_297_8, s_297_11, s_297_12, s_297_13, s_297_14, s_297_18, s_297_19, s_297_20, s_297_23, s_297_24, s_297_27, s_297_28, s_297_31, s_297_32, s_297_34, s_297_36, s_297_37, s_297_38, s_297_41, s_297_42, s_297_45, s_297_46, s_297_48, s_297_49, s_297_52, s_297_54, s_297_55, s_297_58, s_297_59, s_297_60, s_297_63, s_297_65, s_297_67, s_297_68, s_297_70, s_297_71, s_297_72, s_297_73, s_297_76, s_297_77, s_297_80, s_297_81, s_297_82, s_297_83, s_297_86, s_297_89, s_297_92, s_297_95, s_297_96, s_297_98, s_297_100, s_297_101, s_297_104, s_297_107, s_297_108, s_297_111, s_297_112, s_297_114, s_297_116, s_297_117, s_297_120, s_297_122, s_297_123, s_297_126, s_297_127, s_297_128, s_297_130, s_297_132, s_297_133, s_297_135, s_297_136, s_297_137, s_297_138, s_297_139, s_297_142, s_297_144, s_297_145, s_297_146, s_297_149, s_297_150, s_297_152, s_297_154, s_297_155, s_297_157, s_297_158, s_297_159, s_297_160, s_297_161, s_297_164, s_297_166, s_297_167, s_297_168, s_297_171, s_297_172, s_297_175, s_297_176, s_297_177, s_297_178, s_297_181, s_297_184, s_297_187, s_297_190, s_297_191, e_297, mv_i_1, mv_l_1, mv_a_1, mv_a_2, mv_a_3, mk2_n, mk2_i, mk2_l, mk2_a, mk2_u, mk2_x, mB_T, mB_F, mS_cons, mS_nil, mSB_T, mSB_F, mca_nil, mca_i, mca_l, mca_r, mca_u, mca_x, mcat_i, mcat_l, mcat_r, mcat_u, mcat_x, mK_some, mK_none, va_rf_s, va_rf_n, lgc_eq, lgc_lt, lgc_gt, lgc_ge, lgc_le, mrd_104, mrd_105, mrd_106, mrd_107, true_and, and_true, and_self, false_and, and_false, true_or, or_true, false_or, or_false, not_true_eq_false, not_false_eq_true, mgb, mga, mgr, mN, reduceCtorEq, ↓reduceIte, eq_self, ge_iff_le, gt_iff_lt, s1, hz, k1]
    rfl
  refine E0.trans (E1.trans ?_)
  by_cases c1 : ∃ i, 0 ≤ i ∧ i < 2 * n ∧ kq_r (mh_j h (o + 1)) (mh_i h V) i (2 * n) = false
  · rw [mI_T c1, mI_T c1]
  · rw [mI_F c1, mI_F c1]
    have E3 : mw (d + 1) 297 Q 16 [some (.ref o), some (.ref V), some (.ref P), some (.int (kb true)), some (.int (Int32.ofNat (2 * n))), y] [] h = mw (d + 1) 297 Q 98 [some (.ref o), some (.ref V), some (.ref P), some (.int (kb true)), some (.int (Int32.ofNat 0)), y] [] h := by
      rw [s_297_16]
      simp (disch := omega) only [s_297_0, s_297_1, s_297_4, s_297_7, s_297_8, s_297_11, s_297_12, s_297_13, s_297_14, s_297_18, s_297_19, s_297_20, s_297_23, s_297_24, s_297_27, s_297_28, s_297_31, s_297_32, s_297_34, s_297_36, s_297_37, s_297_38, s_297_41, s_297_42, s_297_45, s_297_46, s_297_48, s_297_49, s_297_52, s_297_54, s_297_55, s_297_58, s_297_59, s_297_60, s_297_63, s_297_65, s_297_67, s_297_68, s_297_70, s_297_71, s_297_72, s_297_73, s_297_76, s_297_77, s_297_80, s_297_81, s_297_82, s_297_83, s_297_86, s_297_89, s_297_92, s_297_95, s_297_96, s_297_100, s_297_101, s_297_104, s_297_107, s_297_108, s_297_111, s_297_112, s_297_114, s_297_116, s_297_117, s_297_120, s_297_122, s_297_123, s_297_126, s_297_127, s_297_128, s_297_130, s_297_132, s_297_133, s_297_135, s_297_136, s_297_137, s_297_138, s_297_139, s_297_142, s_297_144, s_297_145, s_297_146, s_297_149, s_297_150, s_297_152, s_297_154, s_297_155, s_297_157, s_297_158, s_297_159, s_297_160, s_297_161, s_297_164, s_297_166, s_297_167, s_297_168, s_297_171, s_297_172, s_297_175, s_297_176, s_297_177, s_297_178, s_297_181, s_297_184, s_297_187, s_297_190, s_297_191, e_297, mv_i_1, mv_l_1, mv_a_1, mv_a_2, mv_a_3, mk2_n, mk2_i, mk2_l, mk2_a, mk2_u, mk2_x, mB_T, mB_F, mS_cons, mS_nil, mSB_T, mSB_F, mca_nil, mca_i, mca_l, mca_r, mca_u, mca_x, mcat_i, mcat_l, mcat_r, mcat_u, mcat_x, mK_some, mK_none, va_rf_s, va_rf_n, lgc_eq, lgc_lt, lgc_gt, lgc_ge, lgc_le, mrd_104, mrd_105, mrd_106, mrd_107, true_and, and_true, and_self, false_and, and_false, true_or, or_true, false_or, or_false, not_true_eq_false, not_false_eq_true, mgb, mga, mgr, mN, reduceCtorEq, ↓reduceIte, eq_self, ge_iff_le, gt_iff_lt, s1, hn, e3, nn_le, hle]
      rfl
    try dsimp only
    refine E3.trans (E2.trans ?_)
    by_cases c2 : ∃ x, 0 ≤ x ∧ x < a ∧ kq_a (mh_j h (o + 2) x) (mh_j h (o + 3) x) (mh_i h P) x (sz x) = false
    · rw [mI_T c2, mI_T c2]
    · rw [mI_F c2, mI_F c2]
      try dsimp only
      rw [s_297_98]
      simp (disch := omega) only [s_297_0, s_297_1, s_297_4, s_297_7, s_297_8, s_297_11, s_297_12, s_297_13, s_297_14, s_297_16, s_297_18, s_297_19, s_297_20, s_297_23, s_297_24, s_297_27, s_297_28, s_297_31, s_297_32, s_297_34, s_297_36, s_297_37, s_297_38, s_297_41, s_297_42, s_297_45, s_297_46, s_297_48, s_297_49, s_297_52, s_297_54, s_297_55, s_297_58, s_297_59, s_297_60, s_297_63, s_297_65, s_297_67, s_297_68, s_297_70, s_297_71, s_297_72, s_297_73, s_297_76, s_297_77, s_297_80, s_297_81, s_297_82, s_297_83, s_297_86, s_297_89, s_297_92, s_297_95, s_297_96, s_297_100, s_297_101, s_297_104, s_297_107, s_297_108, s_297_111, s_297_112, s_297_114, s_297_116, s_297_117, s_297_120, s_297_122, s_297_123, s_297_126, s_297_127, s_297_128, s_297_130, s_297_132, s_297_133, s_297_135, s_297_136, s_297_137, s_297_138, s_297_139, s_297_142, s_297_144, s_297_145, s_297_146, s_297_149, s_297_150, s_297_152, s_297_154, s_297_155, s_297_157, s_297_158, s_297_159, s_297_160, s_297_161, s_297_164, s_297_166, s_297_167, s_297_168, s_297_171, s_297_172, s_297_175, s_297_176, s_297_177, s_297_178, s_297_181, s_297_184, s_297_187, s_297_190, s_297_191, e_297, mv_i_1, mv_l_1, mv_a_1, mv_a_2, mv_a_3, mk2_n, mk2_i, mk2_l, mk2_a, mk2_u, mk2_x, mB_T, mB_F, mS_cons, mS_nil, mSB_T, mSB_F, mca_nil, mca_i, mca_l, mca_r, mca_u, mca_x, mcat_i, mcat_l, mcat_r, mcat_u, mcat_x, mK_some, mK_none, va_rf_s, va_rf_n, lgc_eq, lgc_lt, lgc_gt, lgc_ge, lgc_le, mrd_104, mrd_105, mrd_106, mrd_107, true_and, and_true, and_self, false_and, and_false, true_or, or_true, false_or, or_false, not_true_eq_false, not_false_eq_true, mgb, mga, mgr, mN, reduceCtorEq, ↓reduceIte, eq_self, ge_iff_le, gt_iff_lt, s1, ha, nn_le, hla, k1]
end HS
theorem vI_b {f : Nat → Int} (i : Nat) : vI f (oc_b i) = -vI f i := by
  have h := oc_bh i
  have e := oc_b_eq i
  unfold vI
  rw [h]
  by_cases c : i % 2 = 0
  · rw [if_pos c, if_neg (by omega)]
  · rw [if_neg c, if_pos (by omega)]; omega
theorem lsub_int {x w : Int64} (h1 : -9223372036854775808 ≤ x.toInt - w.toInt) (h2 : x.toInt - w.toInt < 9223372036854775808) : (x - w).toInt = x.toInt - w.toInt := by
  rw [Int64.toInt_sub]
  exact Int.bmod_eq_of_le (by omega) (by omega)
/-- these values lie in it -/
def a_has (A : ab) (v pl : Nat → Int) : Prop := (∀ i j, i < 2 * A.n → j < 2 * A.n → vI v j - vI v i ≤ A.m i j) ∧ ∀ x, x < A.a → ∀ k, k < A.rm x → A.lo x ≤ pl (64 * x + k) ∧ pl (64 * x + k) ≤ A.hi x
def hI (h : mh_H) (o k : Nat) : Int := (mh_i h o k).toInt
section AH
variable {d : Nat} {h : mh_H} {o p V P S : Nat} {A B : ab}
/-- State.same -/
theorem l_150 (r : RS h o (some A)) (q : RS h p (some B)) (hn : A.n = B.n) (ha : A.a = B.a) : ∃ x : Int32, (x = 0 ∨ x = 1) ∧ (x = 1 ↔ (a_le A B ∧ a_le B A)) ∧ ∀ Q, mcall (d + 2) 150 [.ref o, .ref p] h Q = Q (some (.int x)) h := by
  obtain ⟨x, x1, x2, x3⟩ := l_149 (d := d) r q hn ha
  obtain ⟨y, y1, y2, y3⟩ := l_149 (d := d) q r hn.symm ha.symm
  have e10 : ((1 : Int32) = 0) = False := by decide
  have e00 : ((0 : Int32) = 0) = True := by decide
  have s1 := (RS_so r).1
  have s2 := (RS_so q).1
  rcases x1 with rfl | rfl
  · refine ⟨0, Or.inl rfl, ⟨fun z => absurd z (by decide), fun z => absurd (x2.mpr z.1) (by decide)⟩, fun Q => ?_⟩
    simp only [s_150_0, s_150_1, s_150_2, s_150_5, s_150_8, s_150_9, s_150_10, s_150_13, s_150_16, s_150_17, s_150_20, s_150_21, e_150, mv_i_1, mv_l_1, mv_a_1, mv_a_2, mv_a_3, mk2_n, mk2_i, mk2_l, mk2_a, mk2_u, mk2_x, mB_T, mB_F, mS_cons, mS_nil, mSB_T, mSB_F, mca_nil, mca_i, mca_l, mca_r, mca_u, mca_x, mcat_i, mcat_l, mcat_r, mcat_u, mcat_x, mK_some, mK_none, va_rf_s, va_rf_n, lgc_eq, lgc_lt, lgc_gt, lgc_ge, lgc_le, mrd_104, mrd_105, mrd_106, mrd_107, true_and, and_true, and_self, false_and, and_false, true_or, or_true, false_or, or_false, not_true_eq_false, not_false_eq_true, mgb, mga, mgr, mN, reduceCtorEq, ↓reduceIte, eq_self, ge_iff_le, gt_iff_lt, s1, s2, x3, e00]
  · rcases y1 with rfl | rfl
    · refine ⟨0, Or.inl rfl, ⟨fun z => absurd z (by decide), fun z => absurd (y2.mpr z.2) (by decide)⟩, fun Q => ?_⟩
      simp only [s_150_0, s_150_1, s_150_2, s_150_5, s_150_8, s_150_9, s_150_10, s_150_13, s_150_16, s_150_17, s_150_20, s_150_21, e_150, mv_i_1, mv_l_1, mv_a_1, mv_a_2, mv_a_3, mk2_n, mk2_i, mk2_l, mk2_a, mk2_u, mk2_x, mB_T, mB_F, mS_cons, mS_nil, mSB_T, mSB_F, mca_nil, mca_i, mca_l, mca_r, mca_u, mca_x, mcat_i, mcat_l, mcat_r, mcat_u, mcat_x, mK_some, mK_none, va_rf_s, va_rf_n, lgc_eq, lgc_lt, lgc_gt, lgc_ge, lgc_le, mrd_104, mrd_105, mrd_106, mrd_107, true_and, and_true, and_self, false_and, and_false, true_or, or_true, false_or, or_false, not_true_eq_false, not_false_eq_true, mgb, mga, mgr, mN, reduceCtorEq, ↓reduceIte, eq_self, ge_iff_le, gt_iff_lt, s1, s2, x3, y3, e00, e10]
    · refine ⟨1, Or.inr rfl, ⟨fun _ => ⟨x2.mp rfl, y2.mp rfl⟩, fun _ => rfl⟩, fun Q => ?_⟩
      simp only [s_150_0, s_150_1, s_150_2, s_150_5, s_150_8, s_150_9, s_150_10, s_150_13, s_150_16, s_150_17, s_150_20, s_150_21, e_150, mv_i_1, mv_l_1, mv_a_1, mv_a_2, mv_a_3, mk2_n, mk2_i, mk2_l, mk2_a, mk2_u, mk2_x, mB_T, mB_F, mS_cons, mS_nil, mSB_T, mSB_F, mca_nil, mca_i, mca_l, mca_r, mca_u, mca_x, mcat_i, mcat_l, mcat_r, mcat_u, mcat_x, mK_some, mK_none, va_rf_s, va_rf_n, lgc_eq, lgc_lt, lgc_gt, lgc_ge, lgc_le, mrd_104, mrd_105, mrd_106, mrd_107, true_and, and_true, and_self, false_and, and_false, true_or, or_true, false_or, or_false, not_true_eq_false, not_false_eq_true, mgb, mga, mgr, mN, reduceCtorEq, ↓reduceIte, eq_self, ge_iff_le, gt_iff_lt, s1, s2, x3, y3, e10]
theorem l_150n (r : RS h o none) (q : RS h p none) : ∀ Q, mcall (d + 2) 150 [.ref o, .ref p] h Q = Q (some (.int 1)) h := by
  intro Q
  have s1 := (RS_so r).1
  have s2 := (RS_so q).1
  have e10 : ((1 : Int32) = 0) = False := by decide
  have c1 := l_149n (d := d) r q
  have c2 := l_149n (d := d) q r
  simp only [s_150_0, s_150_1, s_150_2, s_150_5, s_150_8, s_150_9, s_150_10, s_150_13, s_150_16, s_150_17, s_150_20, s_150_21, e_150, mv_i_1, mv_l_1, mv_a_1, mv_a_2, mv_a_3, mk2_n, mk2_i, mk2_l, mk2_a, mk2_u, mk2_x, mB_T, mB_F, mS_cons, mS_nil, mSB_T, mSB_F, mca_nil, mca_i, mca_l, mca_r, mca_u, mca_x, mcat_i, mcat_l, mcat_r, mcat_u, mcat_x, mK_some, mK_none, va_rf_s, va_rf_n, lgc_eq, lgc_lt, lgc_gt, lgc_ge, lgc_le, mrd_104, mrd_105, mrd_106, mrd_107, true_and, and_true, and_self, false_and, and_false, true_or, or_true, false_or, or_false, not_true_eq_false, not_false_eq_true, mgb, mga, mgr, mN, reduceCtorEq, ↓reduceIte, eq_self, ge_iff_le, gt_iff_lt, s1, s2, c1, c2, e10]
theorem l_150l (r : RS h o none) (q : RS h p (some B)) : ∀ Q, mcall (d + 2) 150 [.ref o, .ref p] h Q = Q (some (.int 0)) h := by
  intro Q
  have s1 := (RS_so r).1
  have s2 := (RS_so q).1
  have e10 : ((1 : Int32) = 0) = False := by decide
  have e00 : ((0 : Int32) = 0) = True := by decide
  have c1 := l_149n (d := d) r q
  have c2 := l_149m (d := d) q r
  simp only [s_150_0, s_150_1, s_150_2, s_150_5, s_150_8, s_150_9, s_150_10, s_150_13, s_150_16, s_150_17, s_150_20, s_150_21, e_150, mv_i_1, mv_l_1, mv_a_1, mv_a_2, mv_a_3, mk2_n, mk2_i, mk2_l, mk2_a, mk2_u, mk2_x, mB_T, mB_F, mS_cons, mS_nil, mSB_T, mSB_F, mca_nil, mca_i, mca_l, mca_r, mca_u, mca_x, mcat_i, mcat_l, mcat_r, mcat_u, mcat_x, mK_some, mK_none, va_rf_s, va_rf_n, lgc_eq, lgc_lt, lgc_gt, lgc_ge, lgc_le, mrd_104, mrd_105, mrd_106, mrd_107, true_and, and_true, and_self, false_and, and_false, true_or, or_true, false_or, or_false, not_true_eq_false, not_false_eq_true, mgb, mga, mgr, mN, reduceCtorEq, ↓reduceIte, eq_self, ge_iff_le, gt_iff_lt, s1, s2, c1, c2, e10, e00]
theorem l_150r (r : RS h o (some A)) (q : RS h p none) : ∀ Q, mcall (d + 2) 150 [.ref o, .ref p] h Q = Q (some (.int 0)) h := by
  intro Q
  have s1 := (RS_so r).1
  have s2 := (RS_so q).1
  have e00 : ((0 : Int32) = 0) = True := by decide
  have c1 := l_149m (d := d) r q
  simp only [s_150_0, s_150_1, s_150_2, s_150_5, s_150_8, s_150_9, s_150_10, s_150_13, s_150_16, s_150_17, s_150_20, s_150_21, e_150, mv_i_1, mv_l_1, mv_a_1, mv_a_2, mv_a_3, mk2_n, mk2_i, mk2_l, mk2_a, mk2_u, mk2_x, mB_T, mB_F, mS_cons, mS_nil, mSB_T, mSB_F, mca_nil, mca_i, mca_l, mca_r, mca_u, mca_x, mcat_i, mcat_l, mcat_r, mcat_u, mcat_x, mK_some, mK_none, va_rf_s, va_rf_n, lgc_eq, lgc_lt, lgc_gt, lgc_ge, lgc_le, mrd_104, mrd_105, mrd_106, mrd_107, true_and, and_true, and_self, false_and, and_false, true_or, or_true, false_or, or_false, not_true_eq_false, not_false_eq_true, mgb, mga, mgr, mN, reduceCtorEq, ↓reduceIte, eq_self, ge_iff_le, gt_iff_lt, s1, s2, c1, e00]
/-- State.admits -/
theorem l_163n (r : RS h o none) : ∀ Q, mcall d 163 [.ref o, .ref V, .ref P, .ref S] h Q = Q (some (.int 0)) h := by
  intro Q
  obtain ⟨n, hn, en⟩ := r.1.n
  obtain ⟨a, ha, ea⟩ := r.1.a
  exact c_163n r.1.s en hn ea ha r.1.z
theorem l_163 (r : RS h o (some A)) (hC : oc_C A.n A.m) (hV : ri h V 12) (hP : ri h P 384) (hS : ri h S 6) (hsz : ∀ x, x < A.a → mh_i h S x = Int32.ofNat (A.rm x) ∧ A.rm x ≤ 64) : ∃ x : Int32, (x = 0 ∨ x = 1) ∧ (x = 1 ↔ a_has A (hI h V) (hI h P)) ∧ ∀ Q, mcall d 163 [.ref o, .ref V, .ref P, .ref S] h Q = Q (some (.int x)) h := by
  obtain ⟨r, r5⟩ := r
  have n12 := r.n12
  have E := fun Q => c_163 (d := d) (Q := Q) r.s r.n r.n12 r.a r.a6 r.z hV hP hS hsz
  have vs := fun i => vS_int (mh_i h V) i
  have hV' : ∀ i, vI (fun k => (mh_i h V k).toInt) i = vI (hI h V) i := fun i => rfl
  have ad : ∀ i j, i < 2 * A.n → j < oc_1 i + 1 → (ad_P (mh_j h (o + 1)) (mh_i h V) i j ↔ A.m i j < vI (hI h V) j - vI (hI h V) i) := fun i j hi hj => by
    have o1 := oc_1_eq i
    have e : sc i j = sc_r i + j := by unfold sc; rw [if_neg (by omega)]
    have a := vs i
    have b := vs j
    have m : (mh_j h (o + 1) (sc_r i + j)).toInt = A.m i j := by rw [← e]; exact r.m i j hi (by omega)
    unfold ad_P
    rw [Int64.lt_iff_toInt_lt, lsub_int (by omega) (by omega), m, a.1, b.1, hV', hV']
  have pe : ∀ k, ((mh_i h P k).toInt64).toInt = hI h P k := fun k => Int32.toInt_toInt64 _
  by_cases c1 : ∃ i, 0 ≤ i ∧ i < 2 * A.n ∧ ∃ j, 0 ≤ j ∧ j < oc_1 i + 1 ∧ ad_P (mh_j h (o + 1)) (mh_i h V) i j
  · refine ⟨0, Or.inl rfl, ⟨fun z => absurd z (by decide), fun z => ?_⟩, fun Q => by rw [E, mI_T c1]⟩
    exfalso
    obtain ⟨i, -, hi, j, -, hj, q⟩ := c1
    have o1 := oc_1_eq i
    have := z.1 i j hi (by omega)
    have := (ad i j hi hj).mp q
    omega
  · by_cases c2 : ∃ x, 0 ≤ x ∧ x < A.a ∧ ∃ k, 0 ≤ k ∧ k < A.rm x ∧ ((mh_i h P (64 * x + k)).toInt64 < mh_j h (o + 2) (2 * x) ∨ mh_j h (o + 2) (2 * x + 1) < (mh_i h P (64 * x + k)).toInt64)
    · refine ⟨0, Or.inl rfl, ⟨fun z => absurd z (by decide), fun z => ?_⟩, fun Q => by rw [E, mI_F c1, mI_T c2]⟩
      exfalso
      obtain ⟨x, -, hx, k, -, hk, q⟩ := c2
      have a := z.2 x hx k hk
      rw [Int64.lt_iff_toInt_lt, Int64.lt_iff_toInt_lt, pe, (r.e x hx).1, (r.e x hx).2] at q
      omega
    · refine ⟨1, Or.inr rfl, ⟨fun _ => ⟨fun i j hi hj => ?_, fun x hx k hk => ?_⟩, fun _ => rfl⟩, fun Q => by rw [E, mI_F c1, mI_F c2]⟩
      · by_cases q : j < oc_1 i + 1
        · have : ¬ ad_P (mh_j h (o + 1)) (mh_i h V) i j := fun z => c1 ⟨i, Nat.zero_le _, hi, j, Nat.zero_le _, q, z⟩
          have := mt (ad i j hi q).mpr this
          omega
        · have u := sc_up (i := i) (j := j) (by omega)
          have : ¬ ad_P (mh_j h (o + 1)) (mh_i h V) (oc_b j) (oc_b i) := fun z => c1 ⟨oc_b j, Nat.zero_le _, oc_bl hj, oc_b i, Nat.zero_le _, by omega, z⟩
          have := mt (ad (oc_b j) (oc_b i) (oc_bl hj) (by omega)).mpr this
          rw [vI_b, vI_b, ← hC.2 i j hi hj] at this
          omega
      · have : ¬ ((mh_i h P (64 * x + k)).toInt64 < mh_j h (o + 2) (2 * x) ∨ mh_j h (o + 2) (2 * x + 1) < (mh_i h P (64 * x + k)).toInt64) := fun z => c2 ⟨x, Nat.zero_le _, hx, k, Nat.zero_le _, hk, z⟩
        rw [Int64.lt_iff_toInt_lt, Int64.lt_iff_toInt_lt, pe, (r.e x hx).1, (r.e x hx).2] at this
        omega
/-- Known.has -/
theorem k_297n (r : RK h o none) : ∀ Q, mcall d 297 [.ref o, .ref V, .ref P] h Q = Q (some (.int 0)) h := by
  intro Q
  have r : KN h o := r
  obtain ⟨n, hn, en⟩ := r.n
  obtain ⟨a, ha, ea⟩ := r.a
  exact c_297n r.s en hn ea ha r.z
theorem k_297 (r : RK h o (some A)) (hV : ri h V 12) (hP : ri h P 384) (hsz : ∀ x, x < A.a → A.rm x ≤ 64) : ∃ x : Int32, (x = 0 ∨ x = 1) ∧ (x = 1 ↔ a_has A (hI h V) (hI h P)) ∧ ∀ Q, mcall (d + 1) 297 [.ref o, .ref V, .ref P] h Q = Q (some (.int x)) h := by
  have r : KM h o A := r
  have n12 := r.n12
  have E := fun Q => c_297 (d := d) (Q := Q) r.s r.n r.n12 r.a r.a6 r.z hV hP (sz := A.rm) (fun x hx => ⟨r.rm x hx, hsz x hx⟩)
  have vs := fun i => vS_int (mh_i h V) i
  have hV' : ∀ i, vI (fun k => (mh_i h V k).toInt) i = vI (hI h V) i := fun i => rfl
  have pe : ∀ k, ((mh_i h P k).toInt64).toInt = hI h P k := fun k => Int32.toInt_toInt64 _
  have ro : ∀ i, i < 2 * A.n → (kq_r (mh_j h (o + 1)) (mh_i h V) i (2 * A.n) = true ↔ ∀ j, j < 2 * A.n → vI (hI h V) j - vI (hI h V) (oc_b i) ≤ A.m (oc_b i) j) := fun i hi => by
    unfold kq_r
    rw [List.all_eq_true]
    have one : ∀ j, j < 2 * A.n → (decide (¬ mh_j h (o + 1) (24 * i + j) < vS (mh_i h V) i + vS (mh_i h V) j) = true ↔ vI (hI h V) j - vI (hI h V) (oc_b i) ≤ A.m (oc_b i) j) := fun j hj => by
      have a := vs i
      have b := vs j
      rw [decide_eq_true_eq, Int64.lt_iff_toInt_lt, ladd_int (by omega) (by omega), r.m i j hi hj, a.1, b.1, hV', hV', vI_b]
      omega
    exact ⟨fun z j hj => (one j hj).mp (z j (List.mem_range.mpr hj)), fun z j hj => (one j (List.mem_range.mp hj)).mpr (z j (List.mem_range.mp hj))⟩
  have ar : ∀ x, x < A.a → (kq_a (mh_j h (o + 2) x) (mh_j h (o + 3) x) (mh_i h P) x (A.rm x) = true ↔ ∀ k, k < A.rm x → A.lo x ≤ hI h P (64 * x + k) ∧ hI h P (64 * x + k) ≤ A.hi x) := fun x hx => by
    unfold kq_a
    rw [List.all_eq_true]
    have one : ∀ k, ((decide (¬ (mh_i h P (64 * x + k)).toInt64 < mh_j h (o + 2) x) && decide (¬ mh_j h (o + 3) x < (mh_i h P (64 * x + k)).toInt64)) = true ↔ A.lo x ≤ hI h P (64 * x + k) ∧ hI h P (64 * x + k) ≤ A.hi x) := fun k => by
      rw [Bool.and_eq_true, decide_eq_true_eq, decide_eq_true_eq, Int64.lt_iff_toInt_lt, Int64.lt_iff_toInt_lt, pe, r.lo x hx, r.hi x hx]
      omega
    exact ⟨fun z k hk => (one k).mp (z k (List.mem_range.mpr hk)), fun z k hk => (one k).mpr (z k (List.mem_range.mp hk))⟩
  by_cases c1 : ∃ i, 0 ≤ i ∧ i < 2 * A.n ∧ kq_r (mh_j h (o + 1)) (mh_i h V) i (2 * A.n) = false
  · refine ⟨0, Or.inl rfl, ⟨fun z => absurd z (by decide), fun z => ?_⟩, fun Q => by rw [E, mI_T c1]⟩
    exfalso
    obtain ⟨i, -, hi, q⟩ := c1
    have := (ro i hi).mpr (fun j hj => z.1 (oc_b i) j (oc_bl hi) hj)
    rw [q] at this
    cases this
  · by_cases c2 : ∃ x, 0 ≤ x ∧ x < A.a ∧ kq_a (mh_j h (o + 2) x) (mh_j h (o + 3) x) (mh_i h P) x (A.rm x) = false
    · refine ⟨0, Or.inl rfl, ⟨fun z => absurd z (by decide), fun z => ?_⟩, fun Q => by rw [E, mI_F c1, mI_T c2]⟩
      exfalso
      obtain ⟨x, -, hx, q⟩ := c2
      have := (ar x hx).mpr (fun k hk => z.2 x hx k hk)
      rw [q] at this
      cases this
    · refine ⟨1, Or.inr rfl, ⟨fun _ => ⟨fun i j hi hj => ?_, fun x hx => ?_⟩, fun _ => rfl⟩, fun Q => by rw [E, mI_F c1, mI_F c2]⟩
      · have q : kq_r (mh_j h (o + 1)) (mh_i h V) (oc_b i) (2 * A.n) = true := by
          cases hb : kq_r (mh_j h (o + 1)) (mh_i h V) (oc_b i) (2 * A.n) with
          | true => rfl
          | false => exact absurd ⟨oc_b i, Nat.zero_le _, oc_bl hi, hb⟩ c1
        have := (ro (oc_b i) (oc_bl hi)).mp q j hj
        rw [oc_bb] at this; exact this
      · have q : kq_a (mh_j h (o + 2) x) (mh_j h (o + 3) x) (mh_i h P) x (A.rm x) = true := by
          cases hb : kq_a (mh_j h (o + 2) x) (mh_j h (o + 3) x) (mh_i h P) x (A.rm x) with
          | true => rfl
          | false => exact absurd ⟨x, Nat.zero_le _, hx, hb⟩ c2
        exact (ar x hx).mp q
end AH
