set_option maxRecDepth 100000
theorem lit_lo : (-2147483648 : Int64).toInt = -2147483648 := by decide
theorem lit_hi : (2147483647 : Int64).toInt = 2147483647 := by decide
theorem lit_0 : (0 : Int64).toInt = 0 := by decide
theorem lit_1 : (1 : Int64).toInt = 1 := by decide
theorem lit_m1 : (-1 : Int64).toInt = -1 := by decide
theorem lit_2 : (2 : Int64).toInt = 2 := by decide
theorem lt64 {x y : Int64} : x < y ↔ x.toInt < y.toInt := Int64.lt_iff_toInt_lt
theorem le64 {x y : Int64} : x ≤ y ↔ x.toInt ≤ y.toInt := Int64.le_iff_toInt_le
theorem eq64 {x y : Int64} : x = y ↔ x.toInt = y.toInt := Int64.toInt_inj.symm
theorem lmul_int {x w : Int64} (h1 : -9223372036854775808 ≤ x.toInt * w.toInt) (h2 : x.toInt * w.toInt < 9223372036854775808) : (x * w).toInt = x.toInt * w.toInt := by
  rw [Int64.toInt_mul]
  exact Int.bmod_eq_of_le (by omega) (by omega)
/-- within the ints -/
def iI (a : Int) : Prop := -2147483648 ≤ a ∧ a ≤ 2147483647
theorem mul_r {a b : Int} (ha : iI a) (hb : iI b) : -4611686018427387904 ≤ a * b ∧ a * b ≤ 4611686018427387904 := by
  have h : (a * b).natAbs ≤ 2147483648 * 2147483648 := by
    rw [Int.natAbs_mul]
    exact Nat.mul_le_mul (by unfold iI at ha; omega) (by unfold iI at hb; omega)
  omega
theorem div_r {a b : Int} (ha : iI a) : -2147483648 ≤ a.tdiv b ∧ a.tdiv b ≤ 2147483648 := by
  have h : (a.tdiv b).natAbs ≤ a.natAbs := by
    rw [Int.natAbs_tdiv]
    exact Nat.div_le_self _ _
  unfold iI at ha
  omega
theorem ldiv_int {x w : Int64} (hx : iI x.toInt) : (x / w).toInt = x.toInt.tdiv w.toInt := by
  rw [Int64.toInt_div]
  have := div_r (b := w.toInt) hx
  exact Int.bmod_eq_of_le (by omega) (by omega)
theorem f_lmin {x w : Int64} : (if w < x then w else x) = lmin x w := rfl
theorem f_lmax {x w : Int64} : (if w < x then x else w) = lmax x w := rfl
theorem kb_01 (b : Bool) : (kb b = 0 ∨ kb b = 1) = True := eq_true (by cases b; exact Or.inl rfl; exact Or.inr rfl)
section RG2
variable {d : Nat} {h : mh_H} {o : Nat} {al : Int32} {lo hi : Int64}
theorem r_231 {x y : Int64} (hg : mg h o 12) : ∃ b l u, eR (some (x.toInt, y.toInt), 0) b l u ∧ ∀ Q, mcall d 231 [.ref o, .long x, .long y] (aS h o al lo hi) Q = Q (some (.int (kb b))) (aS h o (al ||| 0) l u) :=
  ⟨true, x, y, ⟨rfl, rfl, rfl⟩, fun Q => by rw [c_231 hg, i32_or0]; rfl⟩
theorem r_232 {x y : Int64} (hg : mg h o 12) : ∃ b l u, eR (e_ints x.toInt y.toInt) b l u ∧ ∀ Q, mcall d 232 [.ref o, .long x, .long y] (aS h o al lo hi) Q = Q (some (.int (kb b))) (aS h o (al ||| (e_ints x.toInt y.toInt).2) l u) := by
  refine ⟨decide (lmax x (-2147483648) ≤ lmin y 2147483647), lmax x (-2147483648), lmin y 2147483647, ?e, fun Q => ?c⟩
  case c =>
    rw [c_232 hg]
    have e : (if x < -2147483648 ∨ 2147483647 < y then (1 : Int32) else 0) = (e_ints x.toInt y.toInt).2 := by
      unfold e_ints
      simp only [lt64, lit_lo, lit_hi]
    rw [e]
  case e =>
    unfold eR e_ints
    dsimp only
    have e : (lmax x (-2147483648) ≤ lmin y 2147483647) ↔ max x.toInt (-2147483648) ≤ min y.toInt 2147483647 := by
      rw [le64, lmax_int, lmin_int, lit_lo, lit_hi]
    by_cases c : max x.toInt (-2147483648) ≤ min y.toInt 2147483647
    · rw [if_pos c]
      exact ⟨decide_eq_true (e.mpr c), by rw [lmax_int, lit_lo], by rw [lmin_int, lit_hi]⟩
    · rw [if_neg c]
      exact decide_eq_false (fun z => c (e.mp z))
theorem c_238 {Q : Option Value → mh_H → Prop} {x y : Int64} (hg : mg h o 12) : mcall d 238 [.ref o, .long x, .long y] (aS h o al lo hi) Q = Q (some (.int (kb (decide (¬ (x = 0 ∧ y = 0)))))) (aS h o (al ||| e_dv x.toInt y.toInt) lo hi) := by
  have e : e_dv x.toInt y.toInt = if ¬ 0 < x ∧ ¬ y < 0 then 2 else 0 := by
    unfold e_dv
    simp only [lt64, lit_0, Int.not_lt]
  rw [e]
  have z00 : ((0 : Int64) < 0) = False := by decide
  have X : x = 0 ∨ (¬ x = 0 ∧ 0 < x) ∨ (¬ x = 0 ∧ ¬ 0 < x) := by
    by_cases a : x = 0
    · exact Or.inl a
    · by_cases b : 0 < x
      · exact Or.inr (Or.inl ⟨a, b⟩)
      · exact Or.inr (Or.inr ⟨a, b⟩)
  have Y : y = 0 ∨ (¬ y = 0 ∧ y < 0) ∨ (¬ y = 0 ∧ ¬ y < 0) := by
    by_cases a : y = 0
    · exact Or.inl a
    · by_cases b : y < 0
      · exact Or.inr (Or.inl ⟨a, b⟩)
      · exact Or.inr (Or.inr ⟨a, b⟩)
  clear e
  rcases X with rfl | ⟨c3, c1⟩ | ⟨c3, c1⟩ <;> rcases Y with rfl | ⟨c4, c2⟩ | ⟨c4, c2⟩
  all_goals simp only [s_238_0, s_238_1, s_238_2, s_238_5, s_238_6, s_238_7, s_238_8, s_238_11, s_238_12, s_238_13, s_238_14, s_238_17, s_238_18, s_238_21, s_238_22, s_238_23, s_238_26, s_238_27, s_238_28, s_238_29, s_238_32, s_238_33, s_238_34, s_238_35, s_238_38, s_238_39, s_238_42, s_238_43, e_238, mv_i_1, mv_l_1, mv_a_1, mv_a_2, mv_a_3, mk2_n, mk2_i, mk2_l, mk2_a, mk2_u, mk2_x, mB_T, mB_F, mS_cons, mS_nil, mSB_T, mSB_F, mca_nil, mca_i, mca_l, mca_r, mca_u, mca_x, mcat_i, mcat_l, mcat_r, mcat_u, mcat_x, mK_some, mK_none, va_rf_s, va_rf_n, lgc_eq, lgc_lt, lgc_gt, lgc_ge, lgc_le, mrd_104, mrd_105, mrd_106, mrd_107, true_and, and_true, and_self, false_and, and_false, true_or, or_true, false_or, or_false, not_true_eq_false, not_false_eq_true, mgb, mga, mgr, mN, reduceCtorEq, ↓reduceIte, eq_self, ge_iff_le, gt_iff_lt, Nat.reduceAdd, Nat.reduceMul, Nat.reduceSub, Nat.reduceLT, Nat.reduceGT, Nat.reduceEqDiff, Nat.reduceLeDiff, Nat.left_eq_add, Nat.add_eq_left, Nat.reduceMod, Nat.reduceDiv, Nat.succ_ne_self, aS_g, aS_24, aS_i, aS_j, hg, z00, *, le_nlt64, mB_not, decide_true, decide_false, kb, Bool.false_eq_true, not_false_eq_true, not_true_eq_false]
/-- / -/
theorem over_1 {a b y m w : Int64} (ha : iI a.toInt) (hb : iI b.toInt) : (lmin m (lmin (a / y) (b / y))).toInt = min m.toInt (min (a.toInt.tdiv y.toInt) (b.toInt.tdiv y.toInt)) ∧ (lmax w (lmax (a / y) (b / y))).toInt = max w.toInt (max (a.toInt.tdiv y.toInt) (b.toInt.tdiv y.toInt)) := by
  rw [lmin_int, lmin_int, lmax_int, lmax_int, ldiv_int ha, ldiv_int hb]
  exact ⟨rfl, rfl⟩
theorem r_239 {a b x y : Int64} (hg : mg h o 12) (ha : iI a.toInt) (hb : iI b.toInt) (hx : iI x.toInt) (hy : iI y.toInt) (hxy : x.toInt ≤ y.toInt) : ∃ f l u, eR (e_over a.toInt b.toInt x.toInt y.toInt) f l u ∧ ∀ Q, mcall (d + 1) 239 [.ref o, .long a, .long b, .long x, .long y] (aS h o al lo hi) Q = Q (some (.int (kb f))) (aS h o (al ||| (e_over a.toInt b.toInt x.toInt y.toInt).2) l u) := by
  have c1 := fun Q' => c_238 (d := d) (Q := Q') (x := x) (y := y) (al := al) (lo := lo) (hi := hi) hg
  have e10 : ((1 : Int32) = 0) = False := by decide
  have e00 : ((0 : Int32) = 0) = True := by decide
  by_cases z : x = 0 ∧ y = 0
  · have zi : x.toInt = 0 ∧ y.toInt = 0 := by rw [z.1, z.2]; decide
    have ev : e_over a.toInt b.toInt x.toInt y.toInt = (none, 2) := by unfold e_over; rw [if_pos zi]
    rw [ev]
    have dz : decide (¬ (x = 0 ∧ y = 0)) = false := decide_eq_false (fun w => w z)
    have dv : e_dv x.toInt y.toInt = 2 := by unfold e_dv; rw [if_pos (by omega)]
    rw [dz, dv] at c1
    refine ⟨false, lo, hi, rfl, fun Q => ?_⟩
    have k0 : kb false = 0 := rfl
    rw [k0] at c1
    simp only [s_239_0, s_239_1, s_239_3, s_239_5, s_239_8, s_239_11, s_239_12, s_239_13, s_239_16, s_239_18, s_239_21, s_239_23, s_239_24, s_239_26, s_239_28, s_239_29, s_239_32, s_239_34, s_239_37, s_239_39, s_239_42, s_239_44, s_239_45, s_239_48, s_239_50, s_239_53, s_239_56, s_239_59, s_239_61, s_239_62, s_239_65, s_239_67, s_239_68, s_239_71, s_239_74, s_239_76, s_239_78, s_239_80, s_239_81, s_239_84, s_239_86, s_239_87, s_239_88, s_239_91, s_239_92, s_239_95, s_239_96, s_239_99, s_239_101, s_239_102, s_239_103, s_239_106, s_239_107, s_239_110, s_239_111, s_239_113, s_239_115, s_239_118, s_239_120, s_239_121, s_239_123, s_239_124, s_239_125, s_239_127, s_239_128, s_239_131, s_239_134, s_239_136, s_239_138, s_239_139, s_239_141, s_239_142, s_239_143, s_239_145, s_239_146, s_239_149, s_239_152, s_239_154, s_239_157, s_239_160, s_239_161, s_239_163, s_239_165, s_239_168, e_239, mv_i_1, mv_l_1, mv_a_1, mv_a_2, mv_a_3, mk2_n, mk2_i, mk2_l, mk2_a, mk2_u, mk2_x, mB_T, mB_F, mS_cons, mS_nil, mSB_T, mSB_F, mca_nil, mca_i, mca_l, mca_r, mca_u, mca_x, mcat_i, mcat_l, mcat_r, mcat_u, mcat_x, mK_some, mK_none, va_rf_s, va_rf_n, lgc_eq, lgc_lt, lgc_gt, lgc_ge, lgc_le, mrd_104, mrd_105, mrd_106, mrd_107, true_and, and_true, and_self, false_and, and_false, true_or, or_true, false_or, or_false, not_true_eq_false, not_false_eq_true, mgb, mga, mgr, mN, reduceCtorEq, ↓reduceIte, eq_self, ge_iff_le, gt_iff_lt, aS_g, hg, c1, e00, k0]
  · have zi : ¬ (x.toInt = 0 ∧ y.toInt = 0) := fun w => z ⟨eq64.mpr (by rw [w.1]; decide), eq64.mpr (by rw [w.2]; decide)⟩
    have dz : decide (¬ (x = 0 ∧ y = 0)) = true := decide_eq_true z
    have k1 : kb true = 1 := rfl
    rw [dz, k1] at c1
    have ev : e_over a.toInt b.toInt x.toInt y.toInt = e_al (e_dv x.toInt y.toInt) (e_ints ((e_bys x.toInt y.toInt).foldl (fun m y => min m (min (a.toInt.tdiv y) (b.toInt.tdiv y))) 9223372036854775807) ((e_bys x.toInt y.toInt).foldl (fun m y => max m (max (a.toInt.tdiv y) (b.toInt.tdiv y))) (-9223372036854775808))) := by unfold e_over; rw [if_neg zi]
    rw [ev]
    -- what stands before the last call
    have fin : ∀ (m w : Int64), m.toInt = (e_bys x.toInt y.toInt).foldl (fun m y => min m (min (a.toInt.tdiv y) (b.toInt.tdiv y))) 9223372036854775807 → w.toInt = (e_bys x.toInt y.toInt).foldl (fun m y => max m (max (a.toInt.tdiv y) (b.toInt.tdiv y))) (-9223372036854775808) → (∀ (f' : Bool) (H' : mh_H), (∀ Q', mcall d 232 [.ref o, .long m, .long w] (aS h o (al ||| e_dv x.toInt y.toInt) lo hi) Q' = Q' (some (.int (kb f'))) H') → ∀ Q, mcall (d + 1) 239 [.ref o, .long a, .long b, .long x, .long y] (aS h o al lo hi) Q = Q (some (.int (kb f'))) H') → ∃ f l u, eR (e_al (e_dv x.toInt y.toInt) (e_ints ((e_bys x.toInt y.toInt).foldl (fun m y => min m (min (a.toInt.tdiv y) (b.toInt.tdiv y))) 9223372036854775807) ((e_bys x.toInt y.toInt).foldl (fun m y => max m (max (a.toInt.tdiv y) (b.toInt.tdiv y))) (-9223372036854775808)))) f l u ∧ ∀ Q, mcall (d + 1) 239 [.ref o, .long a, .long b, .long x, .long y] (aS h o al lo hi) Q = Q (some (.int (kb f))) (aS h o (al ||| (e_al (e_dv x.toInt y.toInt) (e_ints ((e_bys x.toInt y.toInt).foldl (fun m y => min m (min (a.toInt.tdiv y) (b.toInt.tdiv y))) 9223372036854775807) ((e_bys x.toInt y.toInt).foldl (fun m y => max m (max (a.toInt.tdiv y) (b.toInt.tdiv y))) (-9223372036854775808)))).2) l u) := by
      intro m w hm hw hc
      obtain ⟨f, l, u, e1, e2⟩ := r_232 (d := d) (al := al ||| e_dv x.toInt y.toInt) (lo := lo) (hi := hi) (x := m) (y := w) hg
      rw [hm, hw] at e1 e2
      refine ⟨f, l, u, e1, fun Q => ?_⟩
      rw [hc f _ e2, i32_ora]; rfl
    have ci : ∀ z : Int64, (z < 0) = (z.toInt < 0) := fun z => propext (by rw [lt64, lit_0])
    have n0 : ∀ z : Int64, ¬ z.toInt = 0 → (z = 0) = False := fun z hz => eq_false (fun w => hz (by rw [w]; decide))
    have mx : (9223372036854775807 : Int64).toInt = 9223372036854775807 := by decide
    have mn : (-9223372036854775808 : Int64).toInt = -9223372036854775808 := by decide
    have e1n : (lmin y (-1)).toInt = min y.toInt (-1) := by rw [lmin_int, lit_m1]
    have e1x : (lmax x 1).toInt = max x.toInt 1 := by rw [lmax_int, lit_1]
    have f0 := n0 x
    have f1 := n0 (lmin y (-1))
    have f2 := n0 (lmax x 1)
    have f3 := n0 y
    have LT : ∀ k : Nat, k < 4 → ((4 : Int32) ≤ Int32.ofNat k) = False := fun k hk => eq_false (by
      rw [show (4 : Int32) = Int32.ofNat 4 from rfl, nn_le (by omega) (by omega)]; omega)
    have q0 : ((1 : Int32) = 1) = True := by decide
    have q1 : ((2 : Int32) = 1) = False := by decide
    have q2 : ((3 : Int32) = 1) = False := by decide
    have q3 : ((3 : Int32) = 2) = False := by decide
    have q4 : ((2 : Int32) = 0) = False := by decide
    have q5 : ((3 : Int32) = 0) = False := by decide
    have q6 : ((2 : Int32) = 2) = True := by decide
    by_cases cx : x < 0 <;> by_cases cy : 0 < y
    · have cx' : x.toInt < 0 := by rw [lt64, lit_0] at cx; exact cx
      have cy' : 0 < y.toInt := by rw [lt64, lit_0] at cy; exact cy
      refine fin (lmin (lmin (lmin (lmin 9223372036854775807 (lmin (a / x) (b / x))) (lmin (a / lmin y (-1)) (b / lmin y (-1)))) (lmin (a / lmax x 1) (b / lmax x 1))) (lmin (a / y) (b / y))) (lmax (lmax (lmax (lmax (-9223372036854775808) (lmax (a / x) (b / x))) (lmax (a / lmin y (-1)) (b / lmin y (-1)))) (lmax (a / lmax x 1) (b / lmax x 1))) (lmax (a / y) (b / y))) ?_ ?_ (fun f' H' ec Q => ?_)
      · unfold e_bys
        rw [if_pos cx', if_pos cy']
        simp only [List.cons_append, List.nil_append, List.foldl, (over_1 (w := 0) ha hb).1, mx, e1n, e1x]
      · unfold e_bys
        rw [if_pos cx', if_pos cy']
        simp only [List.cons_append, List.nil_append, List.foldl, (over_1 (m := 0) ha hb).2, mn, e1n, e1x]
      · have g0 := f0 (by omega)
        have g1 := f1 (by rw [e1n]; omega)
        have g2 := f2 (by rw [e1x]; omega)
        have g3 := f3 (by omega)
        simp only [s_239_0, s_239_1, s_239_3, s_239_5, s_239_8, s_239_11, s_239_12, s_239_13, s_239_16, s_239_18, s_239_21, s_239_23, s_239_24, s_239_26, s_239_28, s_239_29, s_239_32, s_239_34, s_239_37, s_239_39, s_239_42, s_239_44, s_239_45, s_239_48, s_239_50, s_239_53, s_239_56, s_239_59, s_239_61, s_239_62, s_239_65, s_239_67, s_239_68, s_239_71, s_239_74, s_239_76, s_239_78, s_239_80, s_239_81, s_239_84, s_239_86, s_239_87, s_239_88, s_239_91, s_239_92, s_239_95, s_239_96, s_239_99, s_239_101, s_239_102, s_239_103, s_239_106, s_239_107, s_239_110, s_239_111, s_239_113, s_239_115, s_239_118, s_239_120, s_239_121, s_239_123, s_239_124, s_239_125, s_239_127, s_239_128, s_239_131, s_239_134, s_239_136, s_239_138, s_239_139, s_239_141, s_239_142, s_239_143, s_239_145, s_239_146, s_239_149, s_239_152, s_239_154, s_239_157, s_239_160, s_239_161, s_239_163, s_239_165, s_239_168, e_239, mv_i_1, mv_l_1, mv_a_1, mv_a_2, mv_a_3, mk2_n, mk2_i, mk2_l, mk2_a, mk2_u, mk2_x, mB_T, mB_F, mS_cons, mS_nil, mSB_T, mSB_F, mca_nil, mca_i, mca_l, mca_r, mca_u, mca_x, mcat_i, mcat_l, mcat_r, mcat_u, mcat_x, mK_some, mK_none, va_rf_s, va_rf_n, lgc_eq, lgc_lt, lgc_gt, lgc_ge, lgc_le, mrd_104, mrd_105, mrd_106, mrd_107, true_and, and_true, and_self, false_and, and_false, true_or, or_true, false_or, or_false, not_true_eq_false, not_false_eq_true, mgb, mga, mgr, mN, reduceCtorEq, ↓reduceIte, eq_self, ge_iff_le, gt_iff_lt, Nat.reduceAdd, Nat.reduceMul, Nat.reduceSub, Nat.reduceDiv, Nat.reduceMod, Nat.reduceLT, Nat.reduceGT, Nat.reduceEqDiff, Nat.reduceLeDiff, Int32.reduceAdd, Int32.reduceMul, Int32.reduceSub, Int32.reduceLT, Int32.reduceLE, Int32.reduceGT, Int32.reduceGE, Int32.reduceToNatClampNeg, Int32.reduceOfNat, Int32.reduceOfInt, Int64.reduceAdd, Int64.reduceMul, Int64.reduceSub, Int64.reduceLT, Int64.reduceLE, Int64.reduceGT, Int64.reduceGE, Int64.reduceToNatClampNeg, Int64.reduceOfNat, Int64.reduceOfInt, aS_g, hg, c1, e10, cx, cy, le_nlt64, mB_not, g0, g1, g2, g3, f_lmin, f_lmax, q0, q1, q2, q3, q4, q5, q6, ec, kb_01]
    · have cx' : x.toInt < 0 := by rw [lt64, lit_0] at cx; exact cx
      have cy' : ¬ 0 < y.toInt := by rw [lt64, lit_0] at cy; exact cy
      refine fin (lmin (lmin 9223372036854775807 (lmin (a / x) (b / x))) (lmin (a / lmin y (-1)) (b / lmin y (-1)))) (lmax (lmax (-9223372036854775808) (lmax (a / x) (b / x))) (lmax (a / lmin y (-1)) (b / lmin y (-1)))) ?_ ?_ (fun f' H' ec Q => ?_)
      · unfold e_bys
        rw [if_pos cx', if_neg cy']
        simp only [List.cons_append, List.nil_append, List.foldl, (over_1 (w := 0) ha hb).1, mx, e1n, e1x]
      · unfold e_bys
        rw [if_pos cx', if_neg cy']
        simp only [List.cons_append, List.nil_append, List.foldl, (over_1 (m := 0) ha hb).2, mn, e1n, e1x]
      · have g0 := f0 (by omega)
        have g1 := f1 (by rw [e1n]; omega)
        simp only [s_239_0, s_239_1, s_239_3, s_239_5, s_239_8, s_239_11, s_239_12, s_239_13, s_239_16, s_239_18, s_239_21, s_239_23, s_239_24, s_239_26, s_239_28, s_239_29, s_239_32, s_239_34, s_239_37, s_239_39, s_239_42, s_239_44, s_239_45, s_239_48, s_239_50, s_239_53, s_239_56, s_239_59, s_239_61, s_239_62, s_239_65, s_239_67, s_239_68, s_239_71, s_239_74, s_239_76, s_239_78, s_239_80, s_239_81, s_239_84, s_239_86, s_239_87, s_239_88, s_239_91, s_239_92, s_239_95, s_239_96, s_239_99, s_239_101, s_239_102, s_239_103, s_239_106, s_239_107, s_239_110, s_239_111, s_239_113, s_239_115, s_239_118, s_239_120, s_239_121, s_239_123, s_239_124, s_239_125, s_239_127, s_239_128, s_239_131, s_239_134, s_239_136, s_239_138, s_239_139, s_239_141, s_239_142, s_239_143, s_239_145, s_239_146, s_239_149, s_239_152, s_239_154, s_239_157, s_239_160, s_239_161, s_239_163, s_239_165, s_239_168, e_239, mv_i_1, mv_l_1, mv_a_1, mv_a_2, mv_a_3, mk2_n, mk2_i, mk2_l, mk2_a, mk2_u, mk2_x, mB_T, mB_F, mS_cons, mS_nil, mSB_T, mSB_F, mca_nil, mca_i, mca_l, mca_r, mca_u, mca_x, mcat_i, mcat_l, mcat_r, mcat_u, mcat_x, mK_some, mK_none, va_rf_s, va_rf_n, lgc_eq, lgc_lt, lgc_gt, lgc_ge, lgc_le, mrd_104, mrd_105, mrd_106, mrd_107, true_and, and_true, and_self, false_and, and_false, true_or, or_true, false_or, or_false, not_true_eq_false, not_false_eq_true, mgb, mga, mgr, mN, reduceCtorEq, ↓reduceIte, eq_self, ge_iff_le, gt_iff_lt, Nat.reduceAdd, Nat.reduceMul, Nat.reduceSub, Nat.reduceDiv, Nat.reduceMod, Nat.reduceLT, Nat.reduceGT, Nat.reduceEqDiff, Nat.reduceLeDiff, Int32.reduceAdd, Int32.reduceMul, Int32.reduceSub, Int32.reduceLT, Int32.reduceLE, Int32.reduceGT, Int32.reduceGE, Int32.reduceToNatClampNeg, Int32.reduceOfNat, Int32.reduceOfInt, Int64.reduceAdd, Int64.reduceMul, Int64.reduceSub, Int64.reduceLT, Int64.reduceLE, Int64.reduceGT, Int64.reduceGE, Int64.reduceToNatClampNeg, Int64.reduceOfNat, Int64.reduceOfInt, aS_g, hg, c1, e10, e00, cx, cy, le_nlt64, mB_not, g0, g1, f_lmin, f_lmax, q0, q1, q2, q3, q4, q5, q6, ec, kb_01]
    · have cx' : ¬ x.toInt < 0 := by rw [lt64, lit_0] at cx; exact cx
      have cy' : 0 < y.toInt := by rw [lt64, lit_0] at cy; exact cy
      refine fin (lmin (lmin 9223372036854775807 (lmin (a / lmax x 1) (b / lmax x 1))) (lmin (a / y) (b / y))) (lmax (lmax (-9223372036854775808) (lmax (a / lmax x 1) (b / lmax x 1))) (lmax (a / y) (b / y))) ?_ ?_ (fun f' H' ec Q => ?_)
      · unfold e_bys
        rw [if_neg cx', if_pos cy']
        simp only [List.cons_append, List.nil_append, List.foldl, (over_1 (w := 0) ha hb).1, mx, e1n, e1x]
      · unfold e_bys
        rw [if_neg cx', if_pos cy']
        simp only [List.cons_append, List.nil_append, List.foldl, (over_1 (m := 0) ha hb).2, mn, e1n, e1x]
      · have g2 := f2 (by rw [e1x]; omega)
        have g3 := f3 (by omega)
        simp only [s_239_0, s_239_1, s_239_3, s_239_5, s_239_8, s_239_11, s_239_12, s_239_13, s_239_16, s_239_18, s_239_21, s_239_23, s_239_24, s_239_26, s_239_28, s_239_29, s_239_32, s_239_34, s_239_37, s_239_39, s_239_42, s_239_44, s_239_45, s_239_48, s_239_50, s_239_53, s_239_56, s_239_59, s_239_61, s_239_62, s_239_65, s_239_67, s_239_68, s_239_71, s_239_74, s_239_76, s_239_78, s_239_80, s_239_81, s_239_84, s_239_86, s_239_87, s_239_88, s_239_91, s_239_92, s_239_95, s_239_96, s_239_99, s_239_101, s_239_102, s_239_103, s_239_106, s_239_107, s_239_110, s_239_111, s_239_113, s_239_115, s_239_118, s_239_120, s_239_121, s_239_123, s_239_124, s_239_125, s_239_127, s_239_128, s_239_131, s_239_134, s_239_136, s_239_138, s_239_139, s_239_141, s_239_142, s_239_143, s_239_145, s_239_146, s_239_149, s_239_152, s_239_154, s_239_157, s_239_160, s_239_161, s_239_163, s_239_165, s_239_168, e_239, mv_i_1, mv_l_1, mv_a_1, mv_a_2, mv_a_3, mk2_n, mk2_i, mk2_l, mk2_a, mk2_u, mk2_x, mB_T, mB_F, mS_cons, mS_nil, mSB_T, mSB_F, mca_nil, mca_i, mca_l, mca_r, mca_u, mca_x, mcat_i, mcat_l, mcat_r, mcat_u, mcat_x, mK_some, mK_none, va_rf_s, va_rf_n, lgc_eq, lgc_lt, lgc_gt, lgc_ge, lgc_le, mrd_104, mrd_105, mrd_106, mrd_107, true_and, and_true, and_self, false_and, and_false, true_or, or_true, false_or, or_false, not_true_eq_false, not_false_eq_true, mgb, mga, mgr, mN, reduceCtorEq, ↓reduceIte, eq_self, ge_iff_le, gt_iff_lt, Nat.reduceAdd, Nat.reduceMul, Nat.reduceSub, Nat.reduceDiv, Nat.reduceMod, Nat.reduceLT, Nat.reduceGT, Nat.reduceEqDiff, Nat.reduceLeDiff, Int32.reduceAdd, Int32.reduceMul, Int32.reduceSub, Int32.reduceLT, Int32.reduceLE, Int32.reduceGT, Int32.reduceGE, Int32.reduceToNatClampNeg, Int32.reduceOfNat, Int32.reduceOfInt, Int64.reduceAdd, Int64.reduceMul, Int64.reduceSub, Int64.reduceLT, Int64.reduceLE, Int64.reduceGT, Int64.reduceGE, Int64.reduceToNatClampNeg, Int64.reduceOfNat, Int64.reduceOfInt, aS_g, hg, c1, e10, e00, cx, cy, le_nlt64, mB_not, g2, g3, f_lmin, f_lmax, q0, q1, q2, q3, q4, q5, q6, ec, kb_01]
    · exfalso
      have cx' : ¬ x.toInt < 0 := by rw [lt64, lit_0] at cx; exact cx
      have cy' : ¬ 0 < y.toInt := by rw [lt64, lit_0] at cy; exact cy
      omega
end RG2
