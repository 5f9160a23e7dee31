set_option maxRecDepth 100000
/-! THE REFERENCE'S TEXT: bytes, blanks, words, numbers -/
abbrev RTx (h : mh_H) (n : Nat) (B : Nat → Int32) : Prop := (RF h) ∧ (mh_i h 81 3 = Int32.ofNat n) ∧ (n ≤ 16400) ∧ (∀ i, i < n → mh_i h 82 i = B i) ∧ (∀ i, i < n → ∃ m, m < 256 ∧ B i = Int32.ofNat m) ∧ (∀ k, k < 8 → me_xr (mh_i h 2643 k) = .retAddr (3 * (18 + k) + 3))
theorem RTx.F {h : mh_H} {n : Nat} {B : Nat → Int32} (q : RTx h n B) : RF h := q.1
theorem RTx.e {h : mh_H} {n : Nat} {B : Nat → Int32} (q : RTx h n B) : mh_i h 81 3 = Int32.ofNat n := q.2.1
theorem RTx.n {h : mh_H} {n : Nat} {B : Nat → Int32} (q : RTx h n B) : n ≤ 16400 := q.2.2.1
theorem RTx.b {h : mh_H} {n : Nat} {B : Nat → Int32} (q : RTx h n B) : ∀ i, i < n → mh_i h 82 i = B i := q.2.2.2.1
theorem RTx.v {h : mh_H} {n : Nat} {B : Nat → Int32} (q : RTx h n B) : ∀ i, i < n → ∃ m, m < 256 ∧ B i = Int32.ofNat m := q.2.2.2.2.1
theorem RTx.w {h : mh_H} {n : Nat} {B : Nat → Int32} (q : RTx h n B) : ∀ k, k < 8 → me_xr (mh_i h 2643 k) = .retAddr (3 * (18 + k) + 3) := q.2.2.2.2.2
theorem cw_t {p : Int32 → Bool} {B : Nat → Int32} : ∀ f i j, j < cw p B f i → p (B (i + j)) = true := by
  intro f
  induction f with
  | zero => exact fun i j z => absurd z (Nat.not_lt_zero _)
  | succ f ih =>
    intro i j z
    have e : cw p B (f + 1) i = (if p (B i) = true then cw p B f (i + 1) + 1 else 0) := rfl
    rw [e] at z
    by_cases c : p (B i) = true
    · rw [if_pos c] at z
      cases j with
      | zero => exact c
      | succ j => have := ih (i + 1) j (by omega); rw [show i + (j + 1) = i + 1 + j from by omega]; exact this
    · rw [if_neg c] at z; exact absurd z (Nat.not_lt_zero _)
theorem cw_e {p : Int32 → Bool} {B : Nat → Int32} : ∀ f i, cw p B f i < f → p (B (i + cw p B f i)) = false := by
  intro f
  induction f with
  | zero => exact fun i z => absurd z (Nat.not_lt_zero _)
  | succ f ih =>
    intro i
    have e : cw p B (f + 1) i = (if p (B i) = true then cw p B f (i + 1) + 1 else 0) := rfl
    rw [e]
    by_cases c : p (B i) = true
    · rw [if_pos c]
      intro z
      have := ih (i + 1) (by omega)
      rw [show i + (cw p B f (i + 1) + 1) = i + 1 + cw p B f (i + 1) from by omega]; exact this
    · rw [if_neg c]
      intro z
      cases q : p (B (i + 0)) with
      | true => exact absurd q c
      | false => rfl
theorem nvl_f {B : Nat → Int32} : ∀ f i v, nvl B (cw isG B f i) i v = nvl B f i v := by
  intro f
  induction f with
  | zero => exact fun i v => rfl
  | succ f ih =>
    intro i v
    have e : cw isG B (f + 1) i = (if isG (B i) = true then cw isG B f (i + 1) + 1 else 0) := rfl
    have e1 : nvl B (f + 1) i v = (if isG (B i) = true ∧ v ≤ 2147483647 then nvl B f (i + 1) (10 * v + (B i).toInt - 48) else v) := rfl
    rw [e, e1]
    by_cases c : isG (B i) = true
    · rw [if_pos c]
      show (if isG (B i) = true ∧ v ≤ 2147483647 then nvl B (cw isG B f (i + 1)) (i + 1) (10 * v + (B i).toInt - 48) else v) = _
      rw [ih]
    · rw [if_neg c, if_neg (fun z => c z.1)]; rfl
theorem xw_ok : ∀ k, k < 8 → xL (18 + k) = xL (10 + k) ∧ mx_byt.getD (18 + k) [] = mx_byt.getD (10 + k) [] := by decide +kernel
theorem spq_w {B : Nat → Int32} {n i k : Nat} (hk : k < 8) : ∀ f q, spq B n i (18 + k) f q = spq B n i (10 + k) f q := by
  have e : ∀ q, xB (18 + k) q = xB (10 + k) q := fun q => by unfold xB; rw [(xw_ok k hk).2]
  intro f
  induction f with
  | zero => exact fun q => rfl
  | succ f ih =>
    intro q
    show (if bt B n (i + q) = xB (18 + k) q then spq B n i (18 + k) f (q + 1) else false) = (if bt B n (i + q) = xB (10 + k) q then spq B n i (10 + k) f (q + 1) else false)
    rw [e, ih]
theorem spl9_w {B : Nat → Int32} {n i w k : Nat} (hk : k < 8) : spl9 B n i w (18 + k) = spl9 B n i w (10 + k) := by
  unfold spl9
  rw [(xw_ok k hk).1, spq_w hk]
def rwF (B : Nat → Int32) (n i w : Nat) : Nat → Nat → Int32
  | 0, _ => if 30 < w then 1 else 2
  | f + 1, k => if spl9 B n i w (18 + k) = true then Int32.ofNat (300 + k) else rwF B n i w f (k + 1)
section RBs
variable {d : Nat} {h : mh_H} {n : Nat} {B : Nat → Int32}
theorem c_303 (c : Int32) : ∀ Q, mcall d 303 [.int c] h Q = Q (some (.int (kb (isL c)))) h := by
  intro Q
  have k1 : kb true = 1 := rfl
  have k0 : kb false = 0 := rfl
  have t0 : (decide False) = false := rfl
  have t1 : (decide True) = true := rfl
  rcases Classical.propComplete (c < 97) with a1 | a1 <;> rcases Classical.propComplete (c ≤ 122) with a2 | a2 <;> rcases Classical.propComplete (c < 65) with a3 | a3 <;> rcases Classical.propComplete (c ≤ 90) with a4 | a4 <;> rcases Classical.propComplete (c = 95) with a5 | a5 <;> simp only [s_303_0, s_303_1, s_303_3, s_303_6, s_303_7, s_303_9, s_303_12, s_303_13, s_303_15, s_303_18, s_303_19, s_303_21, s_303_24, s_303_25, s_303_27, s_303_30, s_303_31, s_303_34, s_303_35, e_303, mv_i_1, mv_l_1, mv_a_1, mv_a_2, mv_a_3, mk2_n, mk2_i, mk2_l, mk2_a, mk2_u, mk2_x, mB_T, mB_F, mS_cons, mS_nil, mSB_T, mSB_F, mca_nil, mca_i, mca_l, mca_r, mca_u, mca_x, mcat_i, mcat_l, mcat_r, mcat_u, mcat_x, mK_some, mK_none, va_rf_s, va_rf_n, lgc_eq, lgc_lt, lgc_gt, lgc_ge, lgc_le, mrd_104, mrd_105, mrd_106, mrd_107, true_and, and_true, and_self, false_and, and_false, true_or, or_true, false_or, or_false, not_true_eq_false, not_false_eq_true, mgb, mga, mgr, mN, reduceCtorEq, ↓reduceIte, eq_self, ge_iff_le, gt_iff_lt, isL, a1, a2, a3, a4, a5, k1, k0, t0, t1, if_true, if_false]
theorem c_304 (c : Int32) : ∀ Q, mcall d 304 [.int c] h Q = Q (some (.int (kb (isG c)))) h := by
  intro Q
  have k1 : kb true = 1 := rfl
  have k0 : kb false = 0 := rfl
  have t0 : (decide False) = false := rfl
  have t1 : (decide True) = true := rfl
  rcases Classical.propComplete (c < 48) with a1 | a1 <;> rcases Classical.propComplete (57 < c) with a2 | a2 <;> simp only [s_304_0, s_304_1, s_304_3, s_304_6, s_304_7, s_304_9, s_304_12, s_304_13, s_304_16, s_304_17, e_304, mv_i_1, mv_l_1, mv_a_1, mv_a_2, mv_a_3, mk2_n, mk2_i, mk2_l, mk2_a, mk2_u, mk2_x, mB_T, mB_F, mS_cons, mS_nil, mSB_T, mSB_F, mca_nil, mca_i, mca_l, mca_r, mca_u, mca_x, mcat_i, mcat_l, mcat_r, mcat_u, mcat_x, mK_some, mK_none, va_rf_s, va_rf_n, lgc_eq, lgc_lt, lgc_gt, lgc_ge, lgc_le, mrd_104, mrd_105, mrd_106, mrd_107, true_and, and_true, and_self, false_and, and_false, true_or, or_true, false_or, or_false, not_true_eq_false, not_false_eq_true, mgb, mga, mgr, mN, reduceCtorEq, ↓reduceIte, eq_self, ge_iff_le, gt_iff_lt, isG, a1, a2, k1, k0, t0, t1, if_true, if_false]
theorem c_302 (T : RTx h n B) {i : Nat} {a b : Int32} (hi : i < n) (hb : b ≠ -1) : ∀ Q, mcall d 302 [.ref 81, .int (Int32.ofNat i), .int a, .int b] h Q = Q (some (.int (kb (decide (B i = a ∧ bt B n (i + 1) = b))))) h := by
  intro Q
  have g := T.F.g 81 14 70 (by decide +kernel)
  have r1 := T.F.f 81 1 82 (by decide +kernel)
  have g1 := T.F.g 82 100 16400 (by decide +kernel)
  have l1 := T.F.l 82 100 16400 (by decide +kernel)
  have e := T.e
  have hn := T.n
  have b0 := T.b i hi
  have k1 : kb true = 1 := rfl
  have k0 : kb false = 0 := rfl
  have t0 : (decide False) = false := rfl
  have t1 : (decide True) = true := rfl
  have e1' : ∀ k, Int32.ofNat k + 1 = Int32.ofNat (k + 1) := fun k => nn_add (a := k) (b := 1)
  by_cases c : i + 1 < n
  · have b1 := T.b (i + 1) c
    have eb : bt B n (i + 1) = B (i + 1) := if_pos c
    have c' : (n ≤ i + 1) = False := eq_false (by omega)
    clear T
    rcases Classical.propComplete (B i = a) with q1 | q1 <;> rcases Classical.propComplete (B (i + 1) = b) with q2 | q2 <;> simp (disch := omega) only [s_302_0, s_302_1, s_302_2, s_302_3, s_302_4, s_302_7, s_302_10, s_302_11, s_302_14, s_302_15, s_302_16, s_302_17, s_302_20, s_302_21, s_302_24, s_302_25, s_302_26, s_302_27, s_302_28, s_302_29, s_302_32, s_302_33, s_302_36, s_302_37, e_302, mv_i_1, mv_l_1, mv_a_1, mv_a_2, mv_a_3, mk2_n, mk2_i, mk2_l, mk2_a, mk2_u, mk2_x, mB_T, mB_F, mS_cons, mS_nil, mSB_T, mSB_F, mca_nil, mca_i, mca_l, mca_r, mca_u, mca_x, mcat_i, mcat_l, mcat_r, mcat_u, mcat_x, mK_some, mK_none, va_rf_s, va_rf_n, lgc_eq, lgc_lt, lgc_gt, lgc_ge, lgc_le, mrd_104, mrd_105, mrd_106, mrd_107, true_and, and_true, and_self, false_and, and_false, true_or, or_true, false_or, or_false, not_true_eq_false, not_false_eq_true, mgb, mga, mgr, mN, reduceCtorEq, ↓reduceIte, eq_self, ge_iff_le, gt_iff_lt, Nat.reduceAdd, Nat.reduceMul, Nat.reduceSub, Nat.reduceLT, Nat.reduceGT, Nat.reduceEqDiff, Nat.reduceLeDiff, Nat.left_eq_add, Nat.add_eq_left, Nat.reduceMod, Nat.reduceDiv, Nat.succ_ne_self, g, r1, g1, l1, e, e1', nn_le, c', nn_mxT, nn_clamp, b0, b1, eb, q1, q2, k1, k0, t0, t1]
  · have eb : bt B n (i + 1) = -1 := if_neg c
    have c' : (n ≤ i + 1) = True := eq_true (by omega)
    have nb : ((-1 : Int32) = b) = False := eq_false (fun z => hb z.symm)
    clear T
    simp (disch := omega) only [s_302_0, s_302_1, s_302_2, s_302_3, s_302_4, s_302_7, s_302_10, s_302_11, s_302_14, s_302_15, s_302_16, s_302_17, s_302_20, s_302_21, s_302_24, s_302_25, s_302_26, s_302_27, s_302_28, s_302_29, s_302_32, s_302_33, s_302_36, s_302_37, e_302, mv_i_1, mv_l_1, mv_a_1, mv_a_2, mv_a_3, mk2_n, mk2_i, mk2_l, mk2_a, mk2_u, mk2_x, mB_T, mB_F, mS_cons, mS_nil, mSB_T, mSB_F, mca_nil, mca_i, mca_l, mca_r, mca_u, mca_x, mcat_i, mcat_l, mcat_r, mcat_u, mcat_x, mK_some, mK_none, va_rf_s, va_rf_n, lgc_eq, lgc_lt, lgc_gt, lgc_ge, lgc_le, mrd_104, mrd_105, mrd_106, mrd_107, true_and, and_true, and_self, false_and, and_false, true_or, or_true, false_or, or_false, not_true_eq_false, not_false_eq_true, mgb, mga, mgr, mN, reduceCtorEq, ↓reduceIte, eq_self, ge_iff_le, gt_iff_lt, Nat.reduceAdd, Nat.reduceMul, Nat.reduceSub, Nat.reduceLT, Nat.reduceGT, Nat.reduceEqDiff, Nat.reduceLeDiff, Nat.left_eq_add, Nat.add_eq_left, Nat.reduceMod, Nat.reduceDiv, Nat.succ_ne_self, g, r1, g1, l1, e, e1', nn_le, c', eb, nb, k0, t0]
theorem c_305 (T : RTx h n B) {i : Nat} (hi : i ≤ 20000) : ∀ Q, mcall (d + 1) 305 [.ref 81, .int (Int32.ofNat i)] h Q = Q (some (.int (kb (decide (i < n) && (isL (B i) || isG (B i)))))) h := by
  intro Q
  have g := T.F.g 81 14 70 (by decide +kernel)
  have r1 := T.F.f 81 1 82 (by decide +kernel)
  have g1 := T.F.g 82 100 16400 (by decide +kernel)
  have l1 := T.F.l 82 100 16400 (by decide +kernel)
  have e := T.e
  have hn := T.n
  have k1 : kb true = 1 := rfl
  have k0 : kb false = 0 := rfl
  have n1 : ((1 : Int32) = 0) = False := by decide
  have p1 := c_303 (d := d) (h := h) (B i)
  have p2 := c_304 (d := d) (h := h) (B i)
  by_cases c : i < n
  · have b0 := T.b i c
    have c' : (n ≤ i) = False := eq_false (by omega)
    rw [show decide (i < n) = true from decide_eq_true c, Bool.true_and]
    clear T
    cases q1 : isL (B i) with
    | true =>
      rw [q1] at p1
      rw [Bool.true_or]
      simp (disch := omega) only [s_305_0, s_305_1, s_305_2, s_305_5, s_305_8, s_305_9, s_305_12, s_305_13, s_305_14, s_305_17, s_305_20, s_305_21, s_305_24, s_305_25, s_305_26, s_305_29, s_305_32, s_305_33, s_305_36, s_305_37, e_305, mv_i_1, mv_l_1, mv_a_1, mv_a_2, mv_a_3, mk2_n, mk2_i, mk2_l, mk2_a, mk2_u, mk2_x, mB_T, mB_F, mS_cons, mS_nil, mSB_T, mSB_F, mca_nil, mca_i, mca_l, mca_r, mca_u, mca_x, mcat_i, mcat_l, mcat_r, mcat_u, mcat_x, mK_some, mK_none, va_rf_s, va_rf_n, lgc_eq, lgc_lt, lgc_gt, lgc_ge, lgc_le, mrd_104, mrd_105, mrd_106, mrd_107, true_and, and_true, and_self, false_and, and_false, true_or, or_true, false_or, or_false, not_true_eq_false, not_false_eq_true, mgb, mga, mgr, mN, reduceCtorEq, ↓reduceIte, eq_self, ge_iff_le, gt_iff_lt, Nat.reduceAdd, Nat.reduceMul, Nat.reduceSub, Nat.reduceLT, Nat.reduceGT, Nat.reduceEqDiff, Nat.reduceLeDiff, Nat.left_eq_add, Nat.add_eq_left, Nat.reduceMod, Nat.reduceDiv, Nat.succ_ne_self, g, r1, g1, l1, e, nn_le, c', nn_mxT, nn_clamp, b0, p1, k1, n1]
    | false =>
      rw [q1] at p1
      rw [Bool.false_or]
      cases q2 : isG (B i) with
      | true =>
        rw [q2] at p2
        simp (disch := omega) only [s_305_0, s_305_1, s_305_2, s_305_5, s_305_8, s_305_9, s_305_12, s_305_13, s_305_14, s_305_17, s_305_20, s_305_21, s_305_24, s_305_25, s_305_26, s_305_29, s_305_32, s_305_33, s_305_36, s_305_37, e_305, mv_i_1, mv_l_1, mv_a_1, mv_a_2, mv_a_3, mk2_n, mk2_i, mk2_l, mk2_a, mk2_u, mk2_x, mB_T, mB_F, mS_cons, mS_nil, mSB_T, mSB_F, mca_nil, mca_i, mca_l, mca_r, mca_u, mca_x, mcat_i, mcat_l, mcat_r, mcat_u, mcat_x, mK_some, mK_none, va_rf_s, va_rf_n, lgc_eq, lgc_lt, lgc_gt, lgc_ge, lgc_le, mrd_104, mrd_105, mrd_106, mrd_107, true_and, and_true, and_self, false_and, and_false, true_or, or_true, false_or, or_false, not_true_eq_false, not_false_eq_true, mgb, mga, mgr, mN, reduceCtorEq, ↓reduceIte, eq_self, ge_iff_le, gt_iff_lt, Nat.reduceAdd, Nat.reduceMul, Nat.reduceSub, Nat.reduceLT, Nat.reduceGT, Nat.reduceEqDiff, Nat.reduceLeDiff, Nat.left_eq_add, Nat.add_eq_left, Nat.reduceMod, Nat.reduceDiv, Nat.succ_ne_self, g, r1, g1, l1, e, nn_le, c', nn_mxT, nn_clamp, b0, p1, p2, k1, k0, n1]
      | false =>
        rw [q2] at p2
        simp (disch := omega) only [s_305_0, s_305_1, s_305_2, s_305_5, s_305_8, s_305_9, s_305_12, s_305_13, s_305_14, s_305_17, s_305_20, s_305_21, s_305_24, s_305_25, s_305_26, s_305_29, s_305_32, s_305_33, s_305_36, s_305_37, e_305, mv_i_1, mv_l_1, mv_a_1, mv_a_2, mv_a_3, mk2_n, mk2_i, mk2_l, mk2_a, mk2_u, mk2_x, mB_T, mB_F, mS_cons, mS_nil, mSB_T, mSB_F, mca_nil, mca_i, mca_l, mca_r, mca_u, mca_x, mcat_i, mcat_l, mcat_r, mcat_u, mcat_x, mK_some, mK_none, va_rf_s, va_rf_n, lgc_eq, lgc_lt, lgc_gt, lgc_ge, lgc_le, mrd_104, mrd_105, mrd_106, mrd_107, true_and, and_true, and_self, false_and, and_false, true_or, or_true, false_or, or_false, not_true_eq_false, not_false_eq_true, mgb, mga, mgr, mN, reduceCtorEq, ↓reduceIte, eq_self, ge_iff_le, gt_iff_lt, Nat.reduceAdd, Nat.reduceMul, Nat.reduceSub, Nat.reduceLT, Nat.reduceGT, Nat.reduceEqDiff, Nat.reduceLeDiff, Nat.left_eq_add, Nat.add_eq_left, Nat.reduceMod, Nat.reduceDiv, Nat.succ_ne_self, g, r1, g1, l1, e, nn_le, c', nn_mxT, nn_clamp, b0, p1, p2, k0]
  · have c' : (n ≤ i) = True := eq_true (by omega)
    rw [show decide (i < n) = false from decide_eq_false c, Bool.false_and]
    clear T
    simp (disch := omega) only [s_305_0, s_305_1, s_305_2, s_305_5, s_305_8, s_305_9, s_305_12, s_305_13, s_305_14, s_305_17, s_305_20, s_305_21, s_305_24, s_305_25, s_305_26, s_305_29, s_305_32, s_305_33, s_305_36, s_305_37, e_305, mv_i_1, mv_l_1, mv_a_1, mv_a_2, mv_a_3, mk2_n, mk2_i, mk2_l, mk2_a, mk2_u, mk2_x, mB_T, mB_F, mS_cons, mS_nil, mSB_T, mSB_F, mca_nil, mca_i, mca_l, mca_r, mca_u, mca_x, mcat_i, mcat_l, mcat_r, mcat_u, mcat_x, mK_some, mK_none, va_rf_s, va_rf_n, lgc_eq, lgc_lt, lgc_gt, lgc_ge, lgc_le, mrd_104, mrd_105, mrd_106, mrd_107, true_and, and_true, and_self, false_and, and_false, true_or, or_true, false_or, or_false, not_true_eq_false, not_false_eq_true, mgb, mga, mgr, mN, reduceCtorEq, ↓reduceIte, eq_self, ge_iff_le, gt_iff_lt, Nat.reduceAdd, Nat.reduceMul, Nat.reduceSub, Nat.reduceLT, Nat.reduceGT, Nat.reduceEqDiff, Nat.reduceLeDiff, Nat.left_eq_add, Nat.add_eq_left, Nat.reduceMod, Nat.reduceDiv, Nat.succ_ne_self, g, r1, g1, l1, e, nn_le, c', k0]
/-- behindBlanks -/
theorem l_306 (T : RTx h n B) {x1 : Int32} : ∀ f i, i + f = n → (∀ (x4 : Option Value) Q, mw (d + 1) 306 Q 4 [some (.ref 81), some (.int x1), some (.int (Int32.ofNat i)), some (.int 1), x4] [] h = Q (some (.int (Int32.ofNat (bl B n f false i)))) h) ∧ (∀ (x4 : Int32) Q, mw (d + 1) 306 Q 70 [some (.ref 81), some (.int x1), some (.int (Int32.ofNat i)), some (.int 1), some (.int x4)] [] h = Q (some (.int (Int32.ofNat (bl B n f true i)))) h) := by
  have g := T.F.g 81 14 70 (by decide +kernel)
  have r1 := T.F.f 81 1 82 (by decide +kernel)
  have g1 := T.F.g 82 100 16400 (by decide +kernel)
  have l1 := T.F.l 82 100 16400 (by decide +kernel)
  have e := T.e
  have hn := T.n
  have k1 : kb true = 1 := rfl
  have k0 : kb false = 0 := rfl
  have n1 : ((1 : Int32) = 0) = False := by decide
  have e1' : ∀ k, Int32.ofNat k + 1 = Int32.ofNat (k + 1) := fun k => nn_add (a := k) (b := 1)
  intro f
  induction f with
  | zero =>
    intro i hi
    have c' : (n ≤ i) = True := eq_true (by omega)
    have hi' : i = n := by omega
    have e0 : ∀ r, bl B n 0 r i = n := fun r => rfl
    refine ⟨fun x4 Q => ?_, fun x4 Q => ?_⟩
    · rw [e0, ← hi']
      clear T
      simp (disch := omega) only [s_306_0, s_306_1, s_306_2, s_306_3, s_306_4, s_306_5, s_306_8, s_306_9, s_306_10, s_306_13, s_306_16, s_306_17, s_306_20, s_306_21, s_306_22, s_306_24, s_306_26, s_306_28, s_306_31, s_306_33, s_306_35, s_306_38, s_306_40, s_306_42, s_306_45, s_306_47, s_306_49, s_306_52, s_306_55, s_306_58, s_306_59, s_306_60, s_306_62, s_306_64, s_306_67, s_306_70, s_306_71, s_306_72, s_306_75, s_306_78, s_306_79, s_306_82, s_306_83, s_306_84, s_306_86, s_306_89, s_306_92, s_306_95, s_306_96, s_306_97, s_306_100, s_306_101, e_306, mv_i_1, mv_l_1, mv_a_1, mv_a_2, mv_a_3, mk2_n, mk2_i, mk2_l, mk2_a, mk2_u, mk2_x, mB_T, mB_F, mS_cons, mS_nil, mSB_T, mSB_F, mca_nil, mca_i, mca_l, mca_r, mca_u, mca_x, mcat_i, mcat_l, mcat_r, mcat_u, mcat_x, mK_some, mK_none, va_rf_s, va_rf_n, lgc_eq, lgc_lt, lgc_gt, lgc_ge, lgc_le, mrd_104, mrd_105, mrd_106, mrd_107, true_and, and_true, and_self, false_and, and_false, true_or, or_true, false_or, or_false, not_true_eq_false, not_false_eq_true, mgb, mga, mgr, mN, reduceCtorEq, ↓reduceIte, eq_self, ge_iff_le, gt_iff_lt, Nat.reduceAdd, Nat.reduceMul, Nat.reduceSub, Nat.reduceLT, Nat.reduceGT, Nat.reduceEqDiff, Nat.reduceLeDiff, Nat.left_eq_add, Nat.add_eq_left, Nat.reduceMod, Nat.reduceDiv, Nat.succ_ne_self, g, r1, g1, l1, e, nn_le, c', n1]
    · rw [e0, ← hi']
      clear T
      simp (disch := omega) only [s_306_0, s_306_1, s_306_2, s_306_3, s_306_4, s_306_5, s_306_8, s_306_9, s_306_10, s_306_13, s_306_16, s_306_17, s_306_20, s_306_21, s_306_22, s_306_24, s_306_26, s_306_28, s_306_31, s_306_33, s_306_35, s_306_38, s_306_40, s_306_42, s_306_45, s_306_47, s_306_49, s_306_52, s_306_55, s_306_58, s_306_59, s_306_60, s_306_62, s_306_64, s_306_67, s_306_70, s_306_71, s_306_72, s_306_75, s_306_78, s_306_79, s_306_82, s_306_83, s_306_84, s_306_86, s_306_89, s_306_92, s_306_95, s_306_96, s_306_97, s_306_100, s_306_101, e_306, mv_i_1, mv_l_1, mv_a_1, mv_a_2, mv_a_3, mk2_n, mk2_i, mk2_l, mk2_a, mk2_u, mk2_x, mB_T, mB_F, mS_cons, mS_nil, mSB_T, mSB_F, mca_nil, mca_i, mca_l, mca_r, mca_u, mca_x, mcat_i, mcat_l, mcat_r, mcat_u, mcat_x, mK_some, mK_none, va_rf_s, va_rf_n, lgc_eq, lgc_lt, lgc_gt, lgc_ge, lgc_le, mrd_104, mrd_105, mrd_106, mrd_107, true_and, and_true, and_self, false_and, and_false, true_or, or_true, false_or, or_false, not_true_eq_false, not_false_eq_true, mgb, mga, mgr, mN, reduceCtorEq, ↓reduceIte, eq_self, ge_iff_le, gt_iff_lt, Nat.reduceAdd, Nat.reduceMul, Nat.reduceSub, Nat.reduceLT, Nat.reduceGT, Nat.reduceEqDiff, Nat.reduceLeDiff, Nat.left_eq_add, Nat.add_eq_left, Nat.reduceMod, Nat.reduceDiv, Nat.succ_ne_self, g, r1, g1, l1, e, nn_le, c', n1]
  | succ f ih =>
    intro i hi
    obtain ⟨ih1, ih2⟩ := ih (i + 1) (by omega)
    have c' : (n ≤ i) = False := eq_false (by omega)
    have b0 := T.b i (by omega)
    have a1 := c_302 (d := d) T (i := i) (a := 47) (b := 47) (by omega) (by decide)
    have inn : ∀ (x4 : Int32) Q, mw (d + 1) 306 Q 70 [some (.ref 81), some (.int x1), some (.int (Int32.ofNat i)), some (.int 1), some (.int x4)] [] h = Q (some (.int (Int32.ofNat (bl B n (f + 1) true i)))) h := by
      intro x4 Q
      have es : bl B n (f + 1) true i = bl B n f (decide (B i ≠ 10)) (i + 1) := rfl
      rw [es]
      by_cases c : B i = 10
      · rw [show decide (B i ≠ 10) = false from decide_eq_false (fun z => z c), ← ih1 (some (.int (B i))) Q]
        clear T ih1 ih2 ih
        rw [s_306_70]
        have st : ∀ Q, mw (d + 1) 306 Q 4 [some (.ref 81), some (.int x1), some (.int (Int32.ofNat i)), some (.int 1), some (.int x4)] [] h = mw (d + 1) 306 Q 4 [some (.ref 81), some (.int x1), some (.int (Int32.ofNat (i + 1))), some (.int 1), some (.int (B i))] [] h := by
          intro Q
          rw [s_306_4]
          have t1 : (B i = 10) = True := eq_true c
          have t2 : (B i = 9) = False := eq_false (by rw [c]; decide)
          simp (disch := omega) only [s_306_0, s_306_1, s_306_2, s_306_3, s_306_5, s_306_8, s_306_9, s_306_10, s_306_13, s_306_16, s_306_17, s_306_20, s_306_21, s_306_22, s_306_24, s_306_26, s_306_28, s_306_31, s_306_33, s_306_35, s_306_38, s_306_40, s_306_42, s_306_45, s_306_47, s_306_49, s_306_52, s_306_55, s_306_58, s_306_59, s_306_60, s_306_62, s_306_64, s_306_67, s_306_70, s_306_71, s_306_72, s_306_75, s_306_78, s_306_79, s_306_82, s_306_83, s_306_84, s_306_86, s_306_89, s_306_92, s_306_95, s_306_96, s_306_97, s_306_100, s_306_101, e_306, mv_i_1, mv_l_1, mv_a_1, mv_a_2, mv_a_3, mk2_n, mk2_i, mk2_l, mk2_a, mk2_u, mk2_x, mB_T, mB_F, mS_cons, mS_nil, mSB_T, mSB_F, mca_nil, mca_i, mca_l, mca_r, mca_u, mca_x, mcat_i, mcat_l, mcat_r, mcat_u, mcat_x, mK_some, mK_none, va_rf_s, va_rf_n, lgc_eq, lgc_lt, lgc_gt, lgc_ge, lgc_le, mrd_104, mrd_105, mrd_106, mrd_107, true_and, and_true, and_self, false_and, and_false, true_or, or_true, false_or, or_false, not_true_eq_false, not_false_eq_true, mgb, mga, mgr, mN, reduceCtorEq, ↓reduceIte, eq_self, ge_iff_le, gt_iff_lt, Nat.reduceAdd, Nat.reduceMul, Nat.reduceSub, Nat.reduceLT, Nat.reduceGT, Nat.reduceEqDiff, Nat.reduceLeDiff, Nat.left_eq_add, Nat.add_eq_left, Nat.reduceMod, Nat.reduceDiv, Nat.succ_ne_self, g, r1, g1, l1, e, nn_le, c', n1, nn_mxT, nn_clamp, b0, t1, t2, e1']
        rw [← st Q]
        have t1 : (B i = 10) = True := eq_true c
        simp (disch := omega) only [s_306_0, s_306_1, s_306_2, s_306_3, s_306_5, s_306_8, s_306_9, s_306_10, s_306_13, s_306_16, s_306_17, s_306_20, s_306_21, s_306_22, s_306_24, s_306_26, s_306_28, s_306_31, s_306_33, s_306_35, s_306_38, s_306_40, s_306_42, s_306_45, s_306_47, s_306_49, s_306_52, s_306_55, s_306_58, s_306_59, s_306_60, s_306_62, s_306_64, s_306_67, s_306_71, s_306_72, s_306_75, s_306_78, s_306_79, s_306_82, s_306_83, s_306_84, s_306_86, s_306_89, s_306_92, s_306_95, s_306_96, s_306_97, s_306_100, s_306_101, e_306, mv_i_1, mv_l_1, mv_a_1, mv_a_2, mv_a_3, mk2_n, mk2_i, mk2_l, mk2_a, mk2_u, mk2_x, mB_T, mB_F, mS_cons, mS_nil, mSB_T, mSB_F, mca_nil, mca_i, mca_l, mca_r, mca_u, mca_x, mcat_i, mcat_l, mcat_r, mcat_u, mcat_x, mK_some, mK_none, va_rf_s, va_rf_n, lgc_eq, lgc_lt, lgc_gt, lgc_ge, lgc_le, mrd_104, mrd_105, mrd_106, mrd_107, true_and, and_true, and_self, false_and, and_false, true_or, or_true, false_or, or_false, not_true_eq_false, not_false_eq_true, mgb, mga, mgr, mN, reduceCtorEq, ↓reduceIte, eq_self, ge_iff_le, gt_iff_lt, Nat.reduceAdd, Nat.reduceMul, Nat.reduceSub, Nat.reduceLT, Nat.reduceGT, Nat.reduceEqDiff, Nat.reduceLeDiff, Nat.left_eq_add, Nat.add_eq_left, Nat.reduceMod, Nat.reduceDiv, Nat.succ_ne_self, g, r1, g1, l1, e, nn_le, c', n1, nn_mxT, nn_clamp, b0, t1, e1']
      · rw [show decide (B i ≠ 10) = true from decide_eq_true c, ← ih2 x4 Q]
        clear T ih1 ih2 ih
        rw [s_306_70]
        simp (disch := omega) only [s_306_0, s_306_1, s_306_2, s_306_3, s_306_5, s_306_8, s_306_9, s_306_10, s_306_13, s_306_16, s_306_17, s_306_20, s_306_21, s_306_22, s_306_24, s_306_26, s_306_28, s_306_31, s_306_33, s_306_35, s_306_38, s_306_40, s_306_42, s_306_45, s_306_47, s_306_49, s_306_52, s_306_55, s_306_58, s_306_59, s_306_60, s_306_62, s_306_64, s_306_67, s_306_71, s_306_72, s_306_75, s_306_78, s_306_79, s_306_82, s_306_83, s_306_84, s_306_86, s_306_89, s_306_92, s_306_95, s_306_96, s_306_97, s_306_100, s_306_101, e_306, mv_i_1, mv_l_1, mv_a_1, mv_a_2, mv_a_3, mk2_n, mk2_i, mk2_l, mk2_a, mk2_u, mk2_x, mB_T, mB_F, mS_cons, mS_nil, mSB_T, mSB_F, mca_nil, mca_i, mca_l, mca_r, mca_u, mca_x, mcat_i, mcat_l, mcat_r, mcat_u, mcat_x, mK_some, mK_none, va_rf_s, va_rf_n, lgc_eq, lgc_lt, lgc_gt, lgc_ge, lgc_le, mrd_104, mrd_105, mrd_106, mrd_107, true_and, and_true, and_self, false_and, and_false, true_or, or_true, false_or, or_false, not_true_eq_false, not_false_eq_true, mgb, mga, mgr, mN, reduceCtorEq, ↓reduceIte, eq_self, ge_iff_le, gt_iff_lt, Nat.reduceAdd, Nat.reduceMul, Nat.reduceSub, Nat.reduceLT, Nat.reduceGT, Nat.reduceEqDiff, Nat.reduceLeDiff, Nat.left_eq_add, Nat.add_eq_left, Nat.reduceMod, Nat.reduceDiv, Nat.succ_ne_self, g, r1, g1, l1, e, nn_le, c', n1, nn_mxT, nn_clamp, b0, c, e1']
    refine ⟨fun x4 Q => ?_, inn⟩
    have es : bl B n (f + 1) false i = (if B i = 47 ∧ bt B n (i + 1) = 47 then bl B n f true (i + 1) else if isB (B i) = true then bl B n f false (i + 1) else i) := rfl
    rw [es]
    by_cases q : isB (B i) = true
    · have q' := of_decide_eq_true q
      have n47 : B i ≠ 47 := fun z => by rw [z] at q'; revert q'; decide
      rw [if_neg (fun z => n47 z.1), if_pos q, ← ih1 (some (.int (B i))) Q]
      clear T ih1 ih2 ih inn
      rw [s_306_4]
      by_cases t1 : B i = 9
      · have t1' := eq_true t1
        simp (disch := omega) only [s_306_0, s_306_1, s_306_2, s_306_3, s_306_5, s_306_8, s_306_9, s_306_10, s_306_13, s_306_16, s_306_17, s_306_20, s_306_21, s_306_22, s_306_24, s_306_26, s_306_28, s_306_31, s_306_33, s_306_35, s_306_38, s_306_40, s_306_42, s_306_45, s_306_47, s_306_49, s_306_52, s_306_55, s_306_58, s_306_59, s_306_60, s_306_62, s_306_64, s_306_67, s_306_71, s_306_72, s_306_75, s_306_78, s_306_79, s_306_82, s_306_83, s_306_84, s_306_86, s_306_89, s_306_92, s_306_95, s_306_96, s_306_97, s_306_100, s_306_101, e_306, mv_i_1, mv_l_1, mv_a_1, mv_a_2, mv_a_3, mk2_n, mk2_i, mk2_l, mk2_a, mk2_u, mk2_x, mB_T, mB_F, mS_cons, mS_nil, mSB_T, mSB_F, mca_nil, mca_i, mca_l, mca_r, mca_u, mca_x, mcat_i, mcat_l, mcat_r, mcat_u, mcat_x, mK_some, mK_none, va_rf_s, va_rf_n, lgc_eq, lgc_lt, lgc_gt, lgc_ge, lgc_le, mrd_104, mrd_105, mrd_106, mrd_107, true_and, and_true, and_self, false_and, and_false, true_or, or_true, false_or, or_false, not_true_eq_false, not_false_eq_true, mgb, mga, mgr, mN, reduceCtorEq, ↓reduceIte, eq_self, ge_iff_le, gt_iff_lt, Nat.reduceAdd, Nat.reduceMul, Nat.reduceSub, Nat.reduceLT, Nat.reduceGT, Nat.reduceEqDiff, Nat.reduceLeDiff, Nat.left_eq_add, Nat.add_eq_left, Nat.reduceMod, Nat.reduceDiv, Nat.succ_ne_self, g, r1, g1, l1, e, nn_le, c', n1, nn_mxT, nn_clamp, b0, t1', e1']
      by_cases t2 : B i = 10
      · have t2' := eq_true t2
        have t1' := eq_false t1
        simp (disch := omega) only [s_306_0, s_306_1, s_306_2, s_306_3, s_306_5, s_306_8, s_306_9, s_306_10, s_306_13, s_306_16, s_306_17, s_306_20, s_306_21, s_306_22, s_306_24, s_306_26, s_306_28, s_306_31, s_306_33, s_306_35, s_306_38, s_306_40, s_306_42, s_306_45, s_306_47, s_306_49, s_306_52, s_306_55, s_306_58, s_306_59, s_306_60, s_306_62, s_306_64, s_306_67, s_306_71, s_306_72, s_306_75, s_306_78, s_306_79, s_306_82, s_306_83, s_306_84, s_306_86, s_306_89, s_306_92, s_306_95, s_306_96, s_306_97, s_306_100, s_306_101, e_306, mv_i_1, mv_l_1, mv_a_1, mv_a_2, mv_a_3, mk2_n, mk2_i, mk2_l, mk2_a, mk2_u, mk2_x, mB_T, mB_F, mS_cons, mS_nil, mSB_T, mSB_F, mca_nil, mca_i, mca_l, mca_r, mca_u, mca_x, mcat_i, mcat_l, mcat_r, mcat_u, mcat_x, mK_some, mK_none, va_rf_s, va_rf_n, lgc_eq, lgc_lt, lgc_gt, lgc_ge, lgc_le, mrd_104, mrd_105, mrd_106, mrd_107, true_and, and_true, and_self, false_and, and_false, true_or, or_true, false_or, or_false, not_true_eq_false, not_false_eq_true, mgb, mga, mgr, mN, reduceCtorEq, ↓reduceIte, eq_self, ge_iff_le, gt_iff_lt, Nat.reduceAdd, Nat.reduceMul, Nat.reduceSub, Nat.reduceLT, Nat.reduceGT, Nat.reduceEqDiff, Nat.reduceLeDiff, Nat.left_eq_add, Nat.add_eq_left, Nat.reduceMod, Nat.reduceDiv, Nat.succ_ne_self, g, r1, g1, l1, e, nn_le, c', n1, nn_mxT, nn_clamp, b0, t1', t2', e1']
      by_cases t3 : B i = 13
      · have t3' := eq_true t3
        have t1' := eq_false t1
        have t2' := eq_false t2
        simp (disch := omega) only [s_306_0, s_306_1, s_306_2, s_306_3, s_306_5, s_306_8, s_306_9, s_306_10, s_306_13, s_306_16, s_306_17, s_306_20, s_306_21, s_306_22, s_306_24, s_306_26, s_306_28, s_306_31, s_306_33, s_306_35, s_306_38, s_306_40, s_306_42, s_306_45, s_306_47, s_306_49, s_306_52, s_306_55, s_306_58, s_306_59, s_306_60, s_306_62, s_306_64, s_306_67, s_306_71, s_306_72, s_306_75, s_306_78, s_306_79, s_306_82, s_306_83, s_306_84, s_306_86, s_306_89, s_306_92, s_306_95, s_306_96, s_306_97, s_306_100, s_306_101, e_306, mv_i_1, mv_l_1, mv_a_1, mv_a_2, mv_a_3, mk2_n, mk2_i, mk2_l, mk2_a, mk2_u, mk2_x, mB_T, mB_F, mS_cons, mS_nil, mSB_T, mSB_F, mca_nil, mca_i, mca_l, mca_r, mca_u, mca_x, mcat_i, mcat_l, mcat_r, mcat_u, mcat_x, mK_some, mK_none, va_rf_s, va_rf_n, lgc_eq, lgc_lt, lgc_gt, lgc_ge, lgc_le, mrd_104, mrd_105, mrd_106, mrd_107, true_and, and_true, and_self, false_and, and_false, true_or, or_true, false_or, or_false, not_true_eq_false, not_false_eq_true, mgb, mga, mgr, mN, reduceCtorEq, ↓reduceIte, eq_self, ge_iff_le, gt_iff_lt, Nat.reduceAdd, Nat.reduceMul, Nat.reduceSub, Nat.reduceLT, Nat.reduceGT, Nat.reduceEqDiff, Nat.reduceLeDiff, Nat.left_eq_add, Nat.add_eq_left, Nat.reduceMod, Nat.reduceDiv, Nat.succ_ne_self, g, r1, g1, l1, e, nn_le, c', n1, nn_mxT, nn_clamp, b0, t1', t2', t3', e1']
      have t4' : (B i = 32) = True := eq_true (by rcases q' with z | z | z | z; exact absurd z t1; exact absurd z t2; exact absurd z t3; exact z)
      have t1' := eq_false t1
      have t2' := eq_false t2
      have t3' := eq_false t3
      simp (disch := omega) only [s_306_0, s_306_1, s_306_2, s_306_3, s_306_5, s_306_8, s_306_9, s_306_10, s_306_13, s_306_16, s_306_17, s_306_20, s_306_21, s_306_22, s_306_24, s_306_26, s_306_28, s_306_31, s_306_33, s_306_35, s_306_38, s_306_40, s_306_42, s_306_45, s_306_47, s_306_49, s_306_52, s_306_55, s_306_58, s_306_59, s_306_60, s_306_62, s_306_64, s_306_67, s_306_71, s_306_72, s_306_75, s_306_78, s_306_79, s_306_82, s_306_83, s_306_84, s_306_86, s_306_89, s_306_92, s_306_95, s_306_96, s_306_97, s_306_100, s_306_101, e_306, mv_i_1, mv_l_1, mv_a_1, mv_a_2, mv_a_3, mk2_n, mk2_i, mk2_l, mk2_a, mk2_u, mk2_x, mB_T, mB_F, mS_cons, mS_nil, mSB_T, mSB_F, mca_nil, mca_i, mca_l, mca_r, mca_u, mca_x, mcat_i, mcat_l, mcat_r, mcat_u, mcat_x, mK_some, mK_none, va_rf_s, va_rf_n, lgc_eq, lgc_lt, lgc_gt, lgc_ge, lgc_le, mrd_104, mrd_105, mrd_106, mrd_107, true_and, and_true, and_self, false_and, and_false, true_or, or_true, false_or, or_false, not_true_eq_false, not_false_eq_true, mgb, mga, mgr, mN, reduceCtorEq, ↓reduceIte, eq_self, ge_iff_le, gt_iff_lt, Nat.reduceAdd, Nat.reduceMul, Nat.reduceSub, Nat.reduceLT, Nat.reduceGT, Nat.reduceEqDiff, Nat.reduceLeDiff, Nat.left_eq_add, Nat.add_eq_left, Nat.reduceMod, Nat.reduceDiv, Nat.succ_ne_self, g, r1, g1, l1, e, nn_le, c', n1, nn_mxT, nn_clamp, b0, t1', t2', t3', t4', e1']
    · have q' : ¬ (B i = 9 ∨ B i = 10 ∨ B i = 13 ∨ B i = 32) := fun z => q (decide_eq_true z)
      have t1' : (B i = 9) = False := eq_false (fun z => q' (Or.inl z))
      have t2' : (B i = 10) = False := eq_false (fun z => q' (Or.inr (Or.inl z)))
      have t3' : (B i = 13) = False := eq_false (fun z => q' (Or.inr (Or.inr (Or.inl z))))
      have t4' : (B i = 32) = False := eq_false (fun z => q' (Or.inr (Or.inr (Or.inr z))))
      by_cases b : B i = 47 ∧ bt B n (i + 1) = 47
      · rw [if_pos b]
        have e2 : bl B n (f + 1) true i = bl B n f true (i + 1) := by
          show bl B n f (decide (B i ≠ 10)) (i + 1) = _
          rw [show decide (B i ≠ 10) = true from decide_eq_true (fun z => by rw [z] at b; exact absurd b.1 (by decide))]
        rw [← e2, ← inn (B i) Q]
        rw [show decide (B i = 47 ∧ bt B n (i + 1) = 47) = true from decide_eq_true b] at a1
        clear T ih1 ih2 ih inn e2
        rw [s_306_4]
        simp (disch := omega) only [s_306_0, s_306_1, s_306_2, s_306_3, s_306_5, s_306_8, s_306_9, s_306_10, s_306_13, s_306_16, s_306_17, s_306_20, s_306_21, s_306_22, s_306_24, s_306_26, s_306_28, s_306_31, s_306_33, s_306_35, s_306_38, s_306_40, s_306_42, s_306_45, s_306_47, s_306_49, s_306_52, s_306_55, s_306_58, s_306_59, s_306_60, s_306_62, s_306_64, s_306_67, s_306_71, s_306_72, s_306_75, s_306_78, s_306_79, s_306_82, s_306_83, s_306_84, s_306_86, s_306_89, s_306_92, s_306_95, s_306_96, s_306_97, s_306_100, s_306_101, e_306, mv_i_1, mv_l_1, mv_a_1, mv_a_2, mv_a_3, mk2_n, mk2_i, mk2_l, mk2_a, mk2_u, mk2_x, mB_T, mB_F, mS_cons, mS_nil, mSB_T, mSB_F, mca_nil, mca_i, mca_l, mca_r, mca_u, mca_x, mcat_i, mcat_l, mcat_r, mcat_u, mcat_x, mK_some, mK_none, va_rf_s, va_rf_n, lgc_eq, lgc_lt, lgc_gt, lgc_ge, lgc_le, mrd_104, mrd_105, mrd_106, mrd_107, true_and, and_true, and_self, false_and, and_false, true_or, or_true, false_or, or_false, not_true_eq_false, not_false_eq_true, mgb, mga, mgr, mN, reduceCtorEq, ↓reduceIte, eq_self, ge_iff_le, gt_iff_lt, Nat.reduceAdd, Nat.reduceMul, Nat.reduceSub, Nat.reduceLT, Nat.reduceGT, Nat.reduceEqDiff, Nat.reduceLeDiff, Nat.left_eq_add, Nat.add_eq_left, Nat.reduceMod, Nat.reduceDiv, Nat.succ_ne_self, g, r1, g1, l1, e, nn_le, c', n1, nn_mxT, nn_clamp, b0, t1', t2', t3', t4', a1, k1, e1']
      · rw [if_neg b, if_neg q]
        rw [show decide (B i = 47 ∧ bt B n (i + 1) = 47) = false from decide_eq_false b] at a1
        clear T ih1 ih2 ih inn
        rw [s_306_4]
        simp (disch := omega) only [s_306_0, s_306_1, s_306_2, s_306_3, s_306_5, s_306_8, s_306_9, s_306_10, s_306_13, s_306_16, s_306_17, s_306_20, s_306_21, s_306_22, s_306_24, s_306_26, s_306_28, s_306_31, s_306_33, s_306_35, s_306_38, s_306_40, s_306_42, s_306_45, s_306_47, s_306_49, s_306_52, s_306_55, s_306_58, s_306_59, s_306_60, s_306_62, s_306_64, s_306_67, s_306_71, s_306_72, s_306_75, s_306_78, s_306_79, s_306_82, s_306_83, s_306_84, s_306_86, s_306_89, s_306_92, s_306_95, s_306_96, s_306_97, s_306_100, s_306_101, e_306, mv_i_1, mv_l_1, mv_a_1, mv_a_2, mv_a_3, mk2_n, mk2_i, mk2_l, mk2_a, mk2_u, mk2_x, mB_T, mB_F, mS_cons, mS_nil, mSB_T, mSB_F, mca_nil, mca_i, mca_l, mca_r, mca_u, mca_x, mcat_i, mcat_l, mcat_r, mcat_u, mcat_x, mK_some, mK_none, va_rf_s, va_rf_n, lgc_eq, lgc_lt, lgc_gt, lgc_ge, lgc_le, mrd_104, mrd_105, mrd_106, mrd_107, true_and, and_true, and_self, false_and, and_false, true_or, or_true, false_or, or_false, not_true_eq_false, not_false_eq_true, mgb, mga, mgr, mN, reduceCtorEq, ↓reduceIte, eq_self, ge_iff_le, gt_iff_lt, Nat.reduceAdd, Nat.reduceMul, Nat.reduceSub, Nat.reduceLT, Nat.reduceGT, Nat.reduceEqDiff, Nat.reduceLeDiff, Nat.left_eq_add, Nat.add_eq_left, Nat.reduceMod, Nat.reduceDiv, Nat.succ_ne_self, g, r1, g1, l1, e, nn_le, c', n1, nn_mxT, nn_clamp, b0, t1', t2', t3', t4', a1, k0, e1']
        rw [s_306_4]
        simp (disch := omega) only [s_306_0, s_306_1, s_306_2, s_306_3, s_306_5, s_306_8, s_306_9, s_306_10, s_306_13, s_306_16, s_306_17, s_306_20, s_306_21, s_306_22, s_306_24, s_306_26, s_306_28, s_306_31, s_306_33, s_306_35, s_306_38, s_306_40, s_306_42, s_306_45, s_306_47, s_306_49, s_306_52, s_306_55, s_306_58, s_306_59, s_306_60, s_306_62, s_306_64, s_306_67, s_306_71, s_306_72, s_306_75, s_306_78, s_306_79, s_306_82, s_306_83, s_306_84, s_306_86, s_306_89, s_306_92, s_306_95, s_306_96, s_306_97, s_306_100, s_306_101, e_306, mv_i_1, mv_l_1, mv_a_1, mv_a_2, mv_a_3, mk2_n, mk2_i, mk2_l, mk2_a, mk2_u, mk2_x, mB_T, mB_F, mS_cons, mS_nil, mSB_T, mSB_F, mca_nil, mca_i, mca_l, mca_r, mca_u, mca_x, mcat_i, mcat_l, mcat_r, mcat_u, mcat_x, mK_some, mK_none, va_rf_s, va_rf_n, lgc_eq, lgc_lt, lgc_gt, lgc_ge, lgc_le, mrd_104, mrd_105, mrd_106, mrd_107, true_and, and_true, and_self, false_and, and_false, true_or, or_true, false_or, or_false, not_true_eq_false, not_false_eq_true, mgb, mga, mgr, mN, reduceCtorEq, ↓reduceIte, eq_self, ge_iff_le, gt_iff_lt, Nat.reduceAdd, Nat.reduceMul, Nat.reduceSub, Nat.reduceLT, Nat.reduceGT, Nat.reduceEqDiff, Nat.reduceLeDiff, Nat.left_eq_add, Nat.add_eq_left, Nat.reduceMod, Nat.reduceDiv, Nat.succ_ne_self]
theorem c_306 (T : RTx h n B) {i : Nat} (hi : i ≤ n) : ∀ Q, mcall (d + 1) 306 [.ref 81, .int (Int32.ofNat i)] h Q = Q (some (.int (Int32.ofNat (bl B n (n - i) false i)))) h := fun Q => by
  rw [← (l_306 (d := d) T (x1 := Int32.ofNat i) (n - i) i (by omega)).1 none Q]
  clear T
  simp only [s_306_0, s_306_1, s_306_2, s_306_3, s_306_5, s_306_8, s_306_9, s_306_10, s_306_13, s_306_16, s_306_17, s_306_20, s_306_21, s_306_22, s_306_24, s_306_26, s_306_28, s_306_31, s_306_33, s_306_35, s_306_38, s_306_40, s_306_42, s_306_45, s_306_47, s_306_49, s_306_52, s_306_55, s_306_58, s_306_59, s_306_60, s_306_62, s_306_64, s_306_67, s_306_70, s_306_71, s_306_72, s_306_75, s_306_78, s_306_79, s_306_82, s_306_83, s_306_84, s_306_86, s_306_89, s_306_92, s_306_95, s_306_96, s_306_97, s_306_100, s_306_101, e_306, mv_i_1, mv_l_1, mv_a_1, mv_a_2, mv_a_3, mk2_n, mk2_i, mk2_l, mk2_a, mk2_u, mk2_x, mB_T, mB_F, mS_cons, mS_nil, mSB_T, mSB_F, mca_nil, mca_i, mca_l, mca_r, mca_u, mca_x, mcat_i, mcat_l, mcat_r, mcat_u, mcat_x, mK_some, mK_none, va_rf_s, va_rf_n, lgc_eq, lgc_lt, lgc_gt, lgc_ge, lgc_le, mrd_104, mrd_105, mrd_106, mrd_107, true_and, and_true, and_self, false_and, and_false, true_or, or_true, false_or, or_false, not_true_eq_false, not_false_eq_true, mgb, mga, mgr, mN, reduceCtorEq, ↓reduceIte, eq_self, ge_iff_le, gt_iff_lt]
end RBs
