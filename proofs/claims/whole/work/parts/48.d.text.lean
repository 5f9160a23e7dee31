set_option maxRecDepth 100000
/-! STRINGS OF THE START; words -/
def xL (j : Nat) : Nat := mx_len.getD j 0
def xB (j i : Nat) : Int32 := (mx_byt.getD j []).getD i 0
theorem shr0 (a : Int32) : a >>> ((0 : Int32) &&& 31) = a := by simp
theorem xs_ok : ∀ j, j < 35 → me_xs (3 * j + 3) = true ∧ me_xb (3 * j + 3 + 1) = true := by decide +kernel
theorem xl_ok : ∀ j, j < 35 → xL j ≤ 17 := by decide +kernel
theorem xb_ok : ∀ j, j < 35 → ∀ i, i < xL j → ((xB j i &&& 255).toUInt32 % 65536).toInt32 = xB j i ∧ 0 ≤ xB j i ∧ xB j i ≤ 127 := by decide +kernel
theorem xc_ok : ∀ j, j < 35 → ∀ i, i < xL j → narrow .char (.int (xB j i)) = .int (xB j i) := by decide +kernel
/-- a word stands there -/
def spq (B : Nat → Int32) (n i j : Nat) : Nat → Nat → Bool
  | 0, _ => true
  | f + 1, k => if bt B n (i + k) = xB j k then spq B n i j f (k + 1) else false
def spl9 (B : Nat → Int32) (n i w j : Nat) : Bool := if w = xL j then spq B n i j w 0 else false
def wdK (B : Nat → Int32) (n i w : Nat) : Int32 := if spl9 B n i w 10 = true then 4 else if spl9 B n i w 11 = true then 5 else if spl9 B n i w 12 = true then 6 else if spl9 B n i w 13 = true then 7 else if spl9 B n i w 14 = true then 8 else if spl9 B n i w 15 = true then 9 else if spl9 B n i w 16 = true then 10 else if spl9 B n i w 17 = true then 11 else 2
section XSs
variable {d : Nat} {h : mh_H} {j i : Nat}
theorem c_394 (hj : j < 35) : ∀ Q, mcall (d + 1) 394 [.retAddr (3 * j + 3)] h Q = Q (some (.int (Int32.ofNat (xL j)))) h := by
  intro Q
  obtain ⟨a1, a2⟩ := xs_ok j hj
  have a3 : (3 * j + 3 + 1) / 3 - 1 = j := by omega
  have n1 : ((1 : Int32) = 0) = False := by decide
  have nz : (narrow .byte (.int 0) = .int 0) = True := eq_true rfl
  simp only [s_394_0, s_394_1, s_394_4, s_394_4x, s_394_5, s_394_6, s_394_9, s_394_10, e_394, s_395_0, s_395_3, s_395_6, s_395_7, s_395_10, s_395_13, s_395_14, e_395, mv_i_1, mv_l_1, mv_a_1, mv_a_2, mv_a_3, mk2_n, mk2_i, mk2_l, mk2_a, mk2_u, mk2_x, mB_T, mB_F, mS_cons, mS_nil, mSB_T, mSB_F, mca_nil, mca_i, mca_l, mca_r, mca_u, mca_x, mcat_i, mcat_l, mcat_r, mcat_u, mcat_x, mK_some, mK_none, va_rf_s, va_rf_n, lgc_eq, lgc_lt, lgc_gt, lgc_ge, lgc_le, mrd_104, mrd_105, mrd_106, mrd_107, true_and, and_true, and_self, false_and, and_false, true_or, or_true, false_or, or_false, not_true_eq_false, not_false_eq_true, mgb, mga, mgr, mN, reduceCtorEq, ↓reduceIte, eq_self, ge_iff_le, gt_iff_lt, a1, a2, a3, n1, shr0, nz]
  rfl
theorem c_397 (hj : j < 35) (hi : i < xL j) : ∀ Q, mcall (d + 3) 397 [.retAddr (3 * j + 3), .int (Int32.ofNat i)] h Q = Q (some (.int (xB j i))) h := by
  intro Q
  obtain ⟨a1, a2⟩ := xs_ok j hj
  have a3 : (3 * j + 3 + 1) / 3 - 1 = j := by omega
  have n1 : ((1 : Int32) = 0) = False := by decide
  have n2 : ((1 : Int32) = 1) = True := by decide
  have b1 := xl_ok j hj
  have b2 := (xb_ok j hj i hi).1
  have b3 := xc_ok j hj i hi
  have f1 : mx_len.getD j 0 = xL j := rfl
  have f2 : (mx_byt.getD j []).getD i 0 = xB j i := rfl
  have lt : (i < xL j) = True := eq_true hi
  simp (disch := omega) only [s_397_0, s_397_1, s_397_4, s_397_7, s_397_8, s_397_11, s_397_12, s_397_15, s_397_16, s_397_17, s_397_20, s_397_24, e_397, s_396_0, s_396_3, s_396_6, s_396_7, s_396_10, s_396_13, s_396_14, s_396_17, s_396_18, e_396, s_401_0, s_401_1, s_401_2, s_401_2x, s_401_3, s_401_6, s_401_7, s_401_8, s_401_8x, s_401_9, s_401_12, s_401_13, s_401_14, e_401, s_398_0, s_398_1, s_398_2, s_398_5, s_398_8, s_398_9, e_398, s_405_0, s_405_1, s_405_4, s_405_5, s_405_6, s_405_9, s_405_10, s_405_11, s_405_16, s_405_17, e_405, mv_i_1, mv_l_1, mv_a_1, mv_a_2, mv_a_3, mk2_n, mk2_i, mk2_l, mk2_a, mk2_u, mk2_x, mB_T, mB_F, mS_cons, mS_nil, mSB_T, mSB_F, mca_nil, mca_i, mca_l, mca_r, mca_u, mca_x, mcat_i, mcat_l, mcat_r, mcat_u, mcat_x, mK_some, mK_none, va_rf_s, va_rf_n, lgc_eq, lgc_lt, lgc_gt, lgc_ge, lgc_le, mrd_104, mrd_105, mrd_106, mrd_107, true_and, and_true, and_self, false_and, and_false, true_or, or_true, false_or, or_false, not_true_eq_false, not_false_eq_true, mgb, mga, mgr, mN, reduceCtorEq, ↓reduceIte, eq_self, ge_iff_le, gt_iff_lt, a1, a2, a3, n1, n2, f1, f2, nn_neg, nn_lt, nn_mxT, nn_clamp, lt, b2, b3, Value.category]
end XSs
section TEs
variable {d : Nat} {h : mh_H} {To X n : Nat} {B : Nat → Int32}
/-- spells -/
theorem l_181 (T : TB h To X n B) {i w j : Nat} (hi : i ≤ 20000) (hw : w = xL j) (hj : j < 35) : ∀ f k, k + f = w → ∀ Q, mw (d + 4) 181 Q 13 [some (.ref To), some (.int (Int32.ofNat i)), some (.int (Int32.ofNat w)), some (.retAddr (3 * j + 3)), some (.int (Int32.ofNat k))] [] h = Q (some (.int (kb (spq B n i j f k)))) h := by
  have k1 : kb true = 1 := rfl
  have k0 : kb false = 0 := rfl
  have e1' : ∀ k, Int32.ofNat k + 1 = Int32.ofNat (k + 1) := fun k => nn_add (a := k) (b := 1)
  have b1 := xl_ok j hj
  have w17 : w ≤ 17 := by omega
  have xs := (xs_ok j hj).1
  intro f
  induction f with
  | zero =>
    intro k hk Q
    have c' : (w ≤ k) = True := eq_true (by omega)
    have e : spq B n i j 0 k = true := rfl
    clear T
    simp (disch := omega) only [s_181_0, s_181_1, s_181_2, s_181_5, s_181_8, s_181_9, s_181_10, s_181_11, s_181_13, s_181_15, s_181_16, s_181_19, s_181_20, s_181_21, s_181_23, s_181_24, s_181_27, s_181_28, s_181_30, s_181_33, s_181_36, s_181_37, s_181_38, s_181_41, s_181_44, s_181_45, e_181, mv_i_1, mv_l_1, mv_a_1, mv_a_2, mv_a_3, mk2_n, mk2_i, mk2_l, mk2_a, mk2_u, mk2_x, mB_T, mB_F, mS_cons, mS_nil, mSB_T, mSB_F, mca_nil, mca_i, mca_l, mca_r, mca_u, mca_x, mcat_i, mcat_l, mcat_r, mcat_u, mcat_x, mK_some, mK_none, va_rf_s, va_rf_n, lgc_eq, lgc_lt, lgc_gt, lgc_ge, lgc_le, mrd_104, mrd_105, mrd_106, mrd_107, true_and, and_true, and_self, false_and, and_false, true_or, or_true, false_or, or_false, not_true_eq_false, not_false_eq_true, mgb, mga, mgr, mN, reduceCtorEq, ↓reduceIte, eq_self, ge_iff_le, gt_iff_lt, Nat.reduceAdd, Nat.reduceMul, Nat.reduceSub, Nat.reduceLT, Nat.reduceGT, Nat.reduceEqDiff, Nat.reduceLeDiff, Nat.left_eq_add, Nat.add_eq_left, Nat.reduceMod, Nat.reduceDiv, Nat.succ_ne_self, nn_le, c', e, k1]
  | succ f ih =>
    intro k hk Q
    have c' : (w ≤ k) = False := eq_false (by omega)
    have a1 := c_170 (d := d + 3) T (i := i + k) (by omega)
    have a2 := c_397 (d := d) (h := h) hj (i := k) (by omega)
    have g := T.g
    have e : spq B n i j (f + 1) k = (if bt B n (i + k) = xB j k then spq B n i j f (k + 1) else false) := rfl
    rw [e]
    by_cases c : bt B n (i + k) = xB j k
    · rw [if_pos c, ← ih (k + 1) (by omega) Q]
      clear T ih e hw
      rw [s_181_13]
      simp (disch := omega) only [s_181_0, s_181_1, s_181_2, s_181_5, s_181_8, s_181_9, s_181_10, s_181_11, s_181_15, s_181_16, s_181_19, s_181_20, s_181_21, s_181_23, s_181_24, s_181_27, s_181_28, s_181_30, s_181_33, s_181_36, s_181_37, s_181_38, s_181_41, s_181_44, s_181_45, e_181, mv_i_1, mv_l_1, mv_a_1, mv_a_2, mv_a_3, mk2_n, mk2_i, mk2_l, mk2_a, mk2_u, mk2_x, mB_T, mB_F, mS_cons, mS_nil, mSB_T, mSB_F, mca_nil, mca_i, mca_l, mca_r, mca_u, mca_x, mcat_i, mcat_l, mcat_r, mcat_u, mcat_x, mK_some, mK_none, va_rf_s, va_rf_n, lgc_eq, lgc_lt, lgc_gt, lgc_ge, lgc_le, mrd_104, mrd_105, mrd_106, mrd_107, true_and, and_true, and_self, false_and, and_false, true_or, or_true, false_or, or_false, not_true_eq_false, not_false_eq_true, mgb, mga, mgr, mN, reduceCtorEq, ↓reduceIte, eq_self, ge_iff_le, gt_iff_lt, Nat.reduceAdd, Nat.reduceMul, Nat.reduceSub, Nat.reduceLT, Nat.reduceGT, Nat.reduceEqDiff, Nat.reduceLeDiff, Nat.left_eq_add, Nat.add_eq_left, Nat.reduceMod, Nat.reduceDiv, Nat.succ_ne_self, nn_le, c', nn_add, g, xs, a1, a2, c, e1']
    · rw [if_neg c]
      clear T ih e hw
      rw [s_181_13]
      simp (disch := omega) only [s_181_0, s_181_1, s_181_2, s_181_5, s_181_8, s_181_9, s_181_10, s_181_11, s_181_15, s_181_16, s_181_19, s_181_20, s_181_21, s_181_23, s_181_24, s_181_27, s_181_28, s_181_30, s_181_33, s_181_36, s_181_37, s_181_38, s_181_41, s_181_44, s_181_45, e_181, mv_i_1, mv_l_1, mv_a_1, mv_a_2, mv_a_3, mk2_n, mk2_i, mk2_l, mk2_a, mk2_u, mk2_x, mB_T, mB_F, mS_cons, mS_nil, mSB_T, mSB_F, mca_nil, mca_i, mca_l, mca_r, mca_u, mca_x, mcat_i, mcat_l, mcat_r, mcat_u, mcat_x, mK_some, mK_none, va_rf_s, va_rf_n, lgc_eq, lgc_lt, lgc_gt, lgc_ge, lgc_le, mrd_104, mrd_105, mrd_106, mrd_107, true_and, and_true, and_self, false_and, and_false, true_or, or_true, false_or, or_false, not_true_eq_false, not_false_eq_true, mgb, mga, mgr, mN, reduceCtorEq, ↓reduceIte, eq_self, ge_iff_le, gt_iff_lt, Nat.reduceAdd, Nat.reduceMul, Nat.reduceSub, Nat.reduceLT, Nat.reduceGT, Nat.reduceEqDiff, Nat.reduceLeDiff, Nat.left_eq_add, Nat.add_eq_left, Nat.reduceMod, Nat.reduceDiv, Nat.succ_ne_self, nn_le, c', nn_add, g, xs, a1, a2, c, e1', k0]
theorem c_181 (T : TB h To X n B) {i w j : Nat} (hi : i ≤ 20000) (hw : w ≤ 20000) (hj : j < 35) : ∀ Q, mcall (d + 4) 181 [.ref To, .int (Int32.ofNat i), .int (Int32.ofNat w), .retAddr (3 * j + 3)] h Q = Q (some (.int (kb (spl9 B n i w j)))) h := by
  intro Q
  have b1 := xl_ok j hj
  have xs := (xs_ok j hj).1
  have a0 := c_394 (d := d + 2) (h := h) hj
  by_cases c : w = xL j
  · have e : spl9 B n i w j = spq B n i j w 0 := if_pos c
    rw [e, ← l_181 (d := d) T hi c hj w 0 (by omega) Q]
    have c' : (Int32.ofNat w = Int32.ofNat (xL j)) = True := eq_true (by rw [c])
    clear T
    simp (disch := omega) only [s_181_0, s_181_1, s_181_2, s_181_5, s_181_8, s_181_9, s_181_10, s_181_11, s_181_15, s_181_16, s_181_19, s_181_20, s_181_21, s_181_23, s_181_24, s_181_27, s_181_28, s_181_30, s_181_33, s_181_36, s_181_37, s_181_38, s_181_41, s_181_44, s_181_45, e_181, mv_i_1, mv_l_1, mv_a_1, mv_a_2, mv_a_3, mk2_n, mk2_i, mk2_l, mk2_a, mk2_u, mk2_x, mB_T, mB_F, mS_cons, mS_nil, mSB_T, mSB_F, mca_nil, mca_i, mca_l, mca_r, mca_u, mca_x, mcat_i, mcat_l, mcat_r, mcat_u, mcat_x, mK_some, mK_none, va_rf_s, va_rf_n, lgc_eq, lgc_lt, lgc_gt, lgc_ge, lgc_le, mrd_104, mrd_105, mrd_106, mrd_107, true_and, and_true, and_self, false_and, and_false, true_or, or_true, false_or, or_false, not_true_eq_false, not_false_eq_true, mgb, mga, mgr, mN, reduceCtorEq, ↓reduceIte, eq_self, ge_iff_le, gt_iff_lt, Nat.reduceAdd, Nat.reduceMul, Nat.reduceSub, Nat.reduceLT, Nat.reduceGT, Nat.reduceEqDiff, Nat.reduceLeDiff, Nat.left_eq_add, Nat.add_eq_left, Nat.reduceMod, Nat.reduceDiv, Nat.succ_ne_self, xs, a0, c']
    rfl
  · have e : spl9 B n i w j = false := if_neg c
    have k0 : kb false = 0 := rfl
    have c' : (Int32.ofNat w = Int32.ofNat (xL j)) = False := by rw [nn_eq (by omega) (by omega)]; exact eq_false c
    rw [e]
    clear T
    simp (disch := omega) only [s_181_0, s_181_1, s_181_2, s_181_5, s_181_8, s_181_9, s_181_10, s_181_11, s_181_13, s_181_15, s_181_16, s_181_19, s_181_20, s_181_21, s_181_23, s_181_24, s_181_27, s_181_28, s_181_30, s_181_33, s_181_36, s_181_37, s_181_38, s_181_41, s_181_44, s_181_45, e_181, mv_i_1, mv_l_1, mv_a_1, mv_a_2, mv_a_3, mk2_n, mk2_i, mk2_l, mk2_a, mk2_u, mk2_x, mB_T, mB_F, mS_cons, mS_nil, mSB_T, mSB_F, mca_nil, mca_i, mca_l, mca_r, mca_u, mca_x, mcat_i, mcat_l, mcat_r, mcat_u, mcat_x, mK_some, mK_none, va_rf_s, va_rf_n, lgc_eq, lgc_lt, lgc_gt, lgc_ge, lgc_le, mrd_104, mrd_105, mrd_106, mrd_107, true_and, and_true, and_self, false_and, and_false, true_or, or_true, false_or, or_false, not_true_eq_false, not_false_eq_true, mgb, mga, mgr, mN, reduceCtorEq, ↓reduceIte, eq_self, ge_iff_le, gt_iff_lt, Nat.reduceAdd, Nat.reduceMul, Nat.reduceSub, Nat.reduceLT, Nat.reduceGT, Nat.reduceEqDiff, Nat.reduceLeDiff, Nat.left_eq_add, Nat.add_eq_left, Nat.reduceMod, Nat.reduceDiv, Nat.succ_ne_self, xs, a0, c', k0]
/-- wordAt -/
theorem c_180 (T : TB h To X n B) {i w : Nat} (hi : i ≤ 20000) (hw : w ≤ 20000) : ∀ Q, mcall (d + 5) 180 [.ref To, .int (Int32.ofNat i), .int (Int32.ofNat w)] h Q = Q (some (.int (wdK B n i w))) h := by
  intro Q
  have k1 : kb true = 1 := rfl
  have k0 : kb false = 0 := rfl
  have n1 : ((1 : Int32) = 0) = False := by decide
  have g := T.g
  have a0 : ∀ Q, mcall (d + 4) 181 [.ref To, .int (Int32.ofNat i), .int (Int32.ofNat w), .retAddr 33] h Q = Q (some (.int (kb (spl9 B n i w 10)))) h := c_181 (d := d) T hi hw (j := 10) (by decide)
  have a1 : ∀ Q, mcall (d + 4) 181 [.ref To, .int (Int32.ofNat i), .int (Int32.ofNat w), .retAddr 36] h Q = Q (some (.int (kb (spl9 B n i w 11)))) h := c_181 (d := d) T hi hw (j := 11) (by decide)
  have a2 : ∀ Q, mcall (d + 4) 181 [.ref To, .int (Int32.ofNat i), .int (Int32.ofNat w), .retAddr 39] h Q = Q (some (.int (kb (spl9 B n i w 12)))) h := c_181 (d := d) T hi hw (j := 12) (by decide)
  have a3 : ∀ Q, mcall (d + 4) 181 [.ref To, .int (Int32.ofNat i), .int (Int32.ofNat w), .retAddr 42] h Q = Q (some (.int (kb (spl9 B n i w 13)))) h := c_181 (d := d) T hi hw (j := 13) (by decide)
  have a4 : ∀ Q, mcall (d + 4) 181 [.ref To, .int (Int32.ofNat i), .int (Int32.ofNat w), .retAddr 45] h Q = Q (some (.int (kb (spl9 B n i w 14)))) h := c_181 (d := d) T hi hw (j := 14) (by decide)
  have a5 : ∀ Q, mcall (d + 4) 181 [.ref To, .int (Int32.ofNat i), .int (Int32.ofNat w), .retAddr 48] h Q = Q (some (.int (kb (spl9 B n i w 15)))) h := c_181 (d := d) T hi hw (j := 15) (by decide)
  have a6 : ∀ Q, mcall (d + 4) 181 [.ref To, .int (Int32.ofNat i), .int (Int32.ofNat w), .retAddr 51] h Q = Q (some (.int (kb (spl9 B n i w 16)))) h := c_181 (d := d) T hi hw (j := 16) (by decide)
  have a7 : ∀ Q, mcall (d + 4) 181 [.ref To, .int (Int32.ofNat i), .int (Int32.ofNat w), .retAddr 54] h Q = Q (some (.int (kb (spl9 B n i w 17)))) h := c_181 (d := d) T hi hw (j := 17) (by decide)
  clear T
  unfold wdK
  cases b0 : spl9 B n i w 10 with
  | true =>
    rw [if_pos rfl]
    simp (disch := omega) only [s_180_0, s_180_1, s_180_2, s_180_3, s_180_5, s_180_8, s_180_11, s_180_12, s_180_13, s_180_14, s_180_15, s_180_16, s_180_18, s_180_21, s_180_24, s_180_25, s_180_26, s_180_27, s_180_28, s_180_29, s_180_31, s_180_34, s_180_37, s_180_39, s_180_40, s_180_41, s_180_42, s_180_43, s_180_45, s_180_48, s_180_51, s_180_53, s_180_54, s_180_55, s_180_56, s_180_57, s_180_59, s_180_62, s_180_65, s_180_67, s_180_68, s_180_69, s_180_70, s_180_71, s_180_73, s_180_76, s_180_79, s_180_81, s_180_82, s_180_83, s_180_84, s_180_85, s_180_87, s_180_90, s_180_93, s_180_95, s_180_96, s_180_97, s_180_98, s_180_99, s_180_101, s_180_104, s_180_107, s_180_109, s_180_112, s_180_113, e_180, mv_i_1, mv_l_1, mv_a_1, mv_a_2, mv_a_3, mk2_n, mk2_i, mk2_l, mk2_a, mk2_u, mk2_x, mB_T, mB_F, mS_cons, mS_nil, mSB_T, mSB_F, mca_nil, mca_i, mca_l, mca_r, mca_u, mca_x, mcat_i, mcat_l, mcat_r, mcat_u, mcat_x, mK_some, mK_none, va_rf_s, va_rf_n, lgc_eq, lgc_lt, lgc_gt, lgc_ge, lgc_le, mrd_104, mrd_105, mrd_106, mrd_107, true_and, and_true, and_self, false_and, and_false, true_or, or_true, false_or, or_false, not_true_eq_false, not_false_eq_true, mgb, mga, mgr, mN, reduceCtorEq, ↓reduceIte, eq_self, ge_iff_le, gt_iff_lt, Nat.reduceAdd, Nat.reduceMul, Nat.reduceSub, Nat.reduceLT, Nat.reduceGT, Nat.reduceEqDiff, Nat.reduceLeDiff, Nat.left_eq_add, Nat.add_eq_left, Nat.reduceMod, Nat.reduceDiv, Nat.succ_ne_self, g, a0, b0, k1, k0, n1]
  | false =>
    cases b1 : spl9 B n i w 11 with
    | true =>
      rw [if_neg (by decide), if_pos rfl]
      simp (disch := omega) only [s_180_0, s_180_1, s_180_2, s_180_3, s_180_5, s_180_8, s_180_11, s_180_12, s_180_13, s_180_14, s_180_15, s_180_16, s_180_18, s_180_21, s_180_24, s_180_25, s_180_26, s_180_27, s_180_28, s_180_29, s_180_31, s_180_34, s_180_37, s_180_39, s_180_40, s_180_41, s_180_42, s_180_43, s_180_45, s_180_48, s_180_51, s_180_53, s_180_54, s_180_55, s_180_56, s_180_57, s_180_59, s_180_62, s_180_65, s_180_67, s_180_68, s_180_69, s_180_70, s_180_71, s_180_73, s_180_76, s_180_79, s_180_81, s_180_82, s_180_83, s_180_84, s_180_85, s_180_87, s_180_90, s_180_93, s_180_95, s_180_96, s_180_97, s_180_98, s_180_99, s_180_101, s_180_104, s_180_107, s_180_109, s_180_112, s_180_113, e_180, mv_i_1, mv_l_1, mv_a_1, mv_a_2, mv_a_3, mk2_n, mk2_i, mk2_l, mk2_a, mk2_u, mk2_x, mB_T, mB_F, mS_cons, mS_nil, mSB_T, mSB_F, mca_nil, mca_i, mca_l, mca_r, mca_u, mca_x, mcat_i, mcat_l, mcat_r, mcat_u, mcat_x, mK_some, mK_none, va_rf_s, va_rf_n, lgc_eq, lgc_lt, lgc_gt, lgc_ge, lgc_le, mrd_104, mrd_105, mrd_106, mrd_107, true_and, and_true, and_self, false_and, and_false, true_or, or_true, false_or, or_false, not_true_eq_false, not_false_eq_true, mgb, mga, mgr, mN, reduceCtorEq, ↓reduceIte, eq_self, ge_iff_le, gt_iff_lt, Nat.reduceAdd, Nat.reduceMul, Nat.reduceSub, Nat.reduceLT, Nat.reduceGT, Nat.reduceEqDiff, Nat.reduceLeDiff, Nat.left_eq_add, Nat.add_eq_left, Nat.reduceMod, Nat.reduceDiv, Nat.succ_ne_self, g, a0, b0, a1, b1, k1, k0, n1]
    | false =>
      cases b2 : spl9 B n i w 12 with
      | true =>
        rw [if_neg (by decide), if_neg (by decide), if_pos rfl]
        simp (disch := omega) only [s_180_0, s_180_1, s_180_2, s_180_3, s_180_5, s_180_8, s_180_11, s_180_12, s_180_13, s_180_14, s_180_15, s_180_16, s_180_18, s_180_21, s_180_24, s_180_25, s_180_26, s_180_27, s_180_28, s_180_29, s_180_31, s_180_34, s_180_37, s_180_39, s_180_40, s_180_41, s_180_42, s_180_43, s_180_45, s_180_48, s_180_51, s_180_53, s_180_54, s_180_55, s_180_56, s_180_57, s_180_59, s_180_62, s_180_65, s_180_67, s_180_68, s_180_69, s_180_70, s_180_71, s_180_73, s_180_76, s_180_79, s_180_81, s_180_82, s_180_83, s_180_84, s_180_85, s_180_87, s_180_90, s_180_93, s_180_95, s_180_96, s_180_97, s_180_98, s_180_99, s_180_101, s_180_104, s_180_107, s_180_109, s_180_112, s_180_113, e_180, mv_i_1, mv_l_1, mv_a_1, mv_a_2, mv_a_3, mk2_n, mk2_i, mk2_l, mk2_a, mk2_u, mk2_x, mB_T, mB_F, mS_cons, mS_nil, mSB_T, mSB_F, mca_nil, mca_i, mca_l, mca_r, mca_u, mca_x, mcat_i, mcat_l, mcat_r, mcat_u, mcat_x, mK_some, mK_none, va_rf_s, va_rf_n, lgc_eq, lgc_lt, lgc_gt, lgc_ge, lgc_le, mrd_104, mrd_105, mrd_106, mrd_107, true_and, and_true, and_self, false_and, and_false, true_or, or_true, false_or, or_false, not_true_eq_false, not_false_eq_true, mgb, mga, mgr, mN, reduceCtorEq, ↓reduceIte, eq_self, ge_iff_le, gt_iff_lt, Nat.reduceAdd, Nat.reduceMul, Nat.reduceSub, Nat.reduceLT, Nat.reduceGT, Nat.reduceEqDiff, Nat.reduceLeDiff, Nat.left_eq_add, Nat.add_eq_left, Nat.reduceMod, Nat.reduceDiv, Nat.succ_ne_self, g, a0, b0, a1, b1, a2, b2, k1, k0, n1]
      | false =>
        cases b3 : spl9 B n i w 13 with
        | true =>
          rw [if_neg (by decide), if_neg (by decide), if_neg (by decide), if_pos rfl]
          simp (disch := omega) only [s_180_0, s_180_1, s_180_2, s_180_3, s_180_5, s_180_8, s_180_11, s_180_12, s_180_13, s_180_14, s_180_15, s_180_16, s_180_18, s_180_21, s_180_24, s_180_25, s_180_26, s_180_27, s_180_28, s_180_29, s_180_31, s_180_34, s_180_37, s_180_39, s_180_40, s_180_41, s_180_42, s_180_43, s_180_45, s_180_48, s_180_51, s_180_53, s_180_54, s_180_55, s_180_56, s_180_57, s_180_59, s_180_62, s_180_65, s_180_67, s_180_68, s_180_69, s_180_70, s_180_71, s_180_73, s_180_76, s_180_79, s_180_81, s_180_82, s_180_83, s_180_84, s_180_85, s_180_87, s_180_90, s_180_93, s_180_95, s_180_96, s_180_97, s_180_98, s_180_99, s_180_101, s_180_104, s_180_107, s_180_109, s_180_112, s_180_113, e_180, mv_i_1, mv_l_1, mv_a_1, mv_a_2, mv_a_3, mk2_n, mk2_i, mk2_l, mk2_a, mk2_u, mk2_x, mB_T, mB_F, mS_cons, mS_nil, mSB_T, mSB_F, mca_nil, mca_i, mca_l, mca_r, mca_u, mca_x, mcat_i, mcat_l, mcat_r, mcat_u, mcat_x, mK_some, mK_none, va_rf_s, va_rf_n, lgc_eq, lgc_lt, lgc_gt, lgc_ge, lgc_le, mrd_104, mrd_105, mrd_106, mrd_107, true_and, and_true, and_self, false_and, and_false, true_or, or_true, false_or, or_false, not_true_eq_false, not_false_eq_true, mgb, mga, mgr, mN, reduceCtorEq, ↓reduceIte, eq_self, ge_iff_le, gt_iff_lt, Nat.reduceAdd, Nat.reduceMul, Nat.reduceSub, Nat.reduceLT, Nat.reduceGT, Nat.reduceEqDiff, Nat.reduceLeDiff, Nat.left_eq_add, Nat.add_eq_left, Nat.reduceMod, Nat.reduceDiv, Nat.succ_ne_self, g, a0, b0, a1, b1, a2, b2, a3, b3, k1, k0, n1]
        | false =>
          cases b4 : spl9 B n i w 14 with
          | true =>
            rw [if_neg (by decide), if_neg (by decide), if_neg (by decide), if_neg (by decide), if_pos rfl]
            simp (disch := omega) only [s_180_0, s_180_1, s_180_2, s_180_3, s_180_5, s_180_8, s_180_11, s_180_12, s_180_13, s_180_14, s_180_15, s_180_16, s_180_18, s_180_21, s_180_24, s_180_25, s_180_26, s_180_27, s_180_28, s_180_29, s_180_31, s_180_34, s_180_37, s_180_39, s_180_40, s_180_41, s_180_42, s_180_43, s_180_45, s_180_48, s_180_51, s_180_53, s_180_54, s_180_55, s_180_56, s_180_57, s_180_59, s_180_62, s_180_65, s_180_67, s_180_68, s_180_69, s_180_70, s_180_71, s_180_73, s_180_76, s_180_79, s_180_81, s_180_82, s_180_83, s_180_84, s_180_85, s_180_87, s_180_90, s_180_93, s_180_95, s_180_96, s_180_97, s_180_98, s_180_99, s_180_101, s_180_104, s_180_107, s_180_109, s_180_112, s_180_113, e_180, mv_i_1, mv_l_1, mv_a_1, mv_a_2, mv_a_3, mk2_n, mk2_i, mk2_l, mk2_a, mk2_u, mk2_x, mB_T, mB_F, mS_cons, mS_nil, mSB_T, mSB_F, mca_nil, mca_i, mca_l, mca_r, mca_u, mca_x, mcat_i, mcat_l, mcat_r, mcat_u, mcat_x, mK_some, mK_none, va_rf_s, va_rf_n, lgc_eq, lgc_lt, lgc_gt, lgc_ge, lgc_le, mrd_104, mrd_105, mrd_106, mrd_107, true_and, and_true, and_self, false_and, and_false, true_or, or_true, false_or, or_false, not_true_eq_false, not_false_eq_true, mgb, mga, mgr, mN, reduceCtorEq, ↓reduceIte, eq_self, ge_iff_le, gt_iff_lt, Nat.reduceAdd, Nat.reduceMul, Nat.reduceSub, Nat.reduceLT, Nat.reduceGT, Nat.reduceEqDiff, Nat.reduceLeDiff, Nat.left_eq_add, Nat.add_eq_left, Nat.reduceMod, Nat.reduceDiv, Nat.succ_ne_self, g, a0, b0, a1, b1, a2, b2, a3, b3, a4, b4, k1, k0, n1]
          | false =>
            cases b5 : spl9 B n i w 15 with
            | true =>
              rw [if_neg (by decide), if_neg (by decide), if_neg (by decide), if_neg (by decide), if_neg (by decide), if_pos rfl]
              simp (disch := omega) only [s_180_0, s_180_1, s_180_2, s_180_3, s_180_5, s_180_8, s_180_11, s_180_12, s_180_13, s_180_14, s_180_15, s_180_16, s_180_18, s_180_21, s_180_24, s_180_25, s_180_26, s_180_27, s_180_28, s_180_29, s_180_31, s_180_34, s_180_37, s_180_39, s_180_40, s_180_41, s_180_42, s_180_43, s_180_45, s_180_48, s_180_51, s_180_53, s_180_54, s_180_55, s_180_56, s_180_57, s_180_59, s_180_62, s_180_65, s_180_67, s_180_68, s_180_69, s_180_70, s_180_71, s_180_73, s_180_76, s_180_79, s_180_81, s_180_82, s_180_83, s_180_84, s_180_85, s_180_87, s_180_90, s_180_93, s_180_95, s_180_96, s_180_97, s_180_98, s_180_99, s_180_101, s_180_104, s_180_107, s_180_109, s_180_112, s_180_113, e_180, mv_i_1, mv_l_1, mv_a_1, mv_a_2, mv_a_3, mk2_n, mk2_i, mk2_l, mk2_a, mk2_u, mk2_x, mB_T, mB_F, mS_cons, mS_nil, mSB_T, mSB_F, mca_nil, mca_i, mca_l, mca_r, mca_u, mca_x, mcat_i, mcat_l, mcat_r, mcat_u, mcat_x, mK_some, mK_none, va_rf_s, va_rf_n, lgc_eq, lgc_lt, lgc_gt, lgc_ge, lgc_le, mrd_104, mrd_105, mrd_106, mrd_107, true_and, and_true, and_self, false_and, and_false, true_or, or_true, false_or, or_false, not_true_eq_false, not_false_eq_true, mgb, mga, mgr, mN, reduceCtorEq, ↓reduceIte, eq_self, ge_iff_le, gt_iff_lt, Nat.reduceAdd, Nat.reduceMul, Nat.reduceSub, Nat.reduceLT, Nat.reduceGT, Nat.reduceEqDiff, Nat.reduceLeDiff, Nat.left_eq_add, Nat.add_eq_left, Nat.reduceMod, Nat.reduceDiv, Nat.succ_ne_self, g, a0, b0, a1, b1, a2, b2, a3, b3, a4, b4, a5, b5, k1, k0, n1]
            | false =>
              cases b6 : spl9 B n i w 16 with
              | true =>
                rw [if_neg (by decide), if_neg (by decide), if_neg (by decide), if_neg (by decide), if_neg (by decide), if_neg (by decide), if_pos rfl]
                simp (disch := omega) only [s_180_0, s_180_1, s_180_2, s_180_3, s_180_5, s_180_8, s_180_11, s_180_12, s_180_13, s_180_14, s_180_15, s_180_16, s_180_18, s_180_21, s_180_24, s_180_25, s_180_26, s_180_27, s_180_28, s_180_29, s_180_31, s_180_34, s_180_37, s_180_39, s_180_40, s_180_41, s_180_42, s_180_43, s_180_45, s_180_48, s_180_51, s_180_53, s_180_54, s_180_55, s_180_56, s_180_57, s_180_59, s_180_62, s_180_65, s_180_67, s_180_68, s_180_69, s_180_70, s_180_71, s_180_73, s_180_76, s_180_79, s_180_81, s_180_82, s_180_83, s_180_84, s_180_85, s_180_87, s_180_90, s_180_93, s_180_95, s_180_96, s_180_97, s_180_98, s_180_99, s_180_101, s_180_104, s_180_107, s_180_109, s_180_112, s_180_113, e_180, mv_i_1, mv_l_1, mv_a_1, mv_a_2, mv_a_3, mk2_n, mk2_i, mk2_l, mk2_a, mk2_u, mk2_x, mB_T, mB_F, mS_cons, mS_nil, mSB_T, mSB_F, mca_nil, mca_i, mca_l, mca_r, mca_u, mca_x, mcat_i, mcat_l, mcat_r, mcat_u, mcat_x, mK_some, mK_none, va_rf_s, va_rf_n, lgc_eq, lgc_lt, lgc_gt, lgc_ge, lgc_le, mrd_104, mrd_105, mrd_106, mrd_107, true_and, and_true, and_self, false_and, and_false, true_or, or_true, false_or, or_false, not_true_eq_false, not_false_eq_true, mgb, mga, mgr, mN, reduceCtorEq, ↓reduceIte, eq_self, ge_iff_le, gt_iff_lt, Nat.reduceAdd, Nat.reduceMul, Nat.reduceSub, Nat.reduceLT, Nat.reduceGT, Nat.reduceEqDiff, Nat.reduceLeDiff, Nat.left_eq_add, Nat.add_eq_left, Nat.reduceMod, Nat.reduceDiv, Nat.succ_ne_self, g, a0, b0, a1, b1, a2, b2, a3, b3, a4, b4, a5, b5, a6, b6, k1, k0, n1]
              | false =>
                cases b7 : spl9 B n i w 17 with
                | true =>
                  rw [if_neg (by decide), if_neg (by decide), if_neg (by decide), if_neg (by decide), if_neg (by decide), if_neg (by decide), if_neg (by decide), if_pos rfl]
                  simp (disch := omega) only [s_180_0, s_180_1, s_180_2, s_180_3, s_180_5, s_180_8, s_180_11, s_180_12, s_180_13, s_180_14, s_180_15, s_180_16, s_180_18, s_180_21, s_180_24, s_180_25, s_180_26, s_180_27, s_180_28, s_180_29, s_180_31, s_180_34, s_180_37, s_180_39, s_180_40, s_180_41, s_180_42, s_180_43, s_180_45, s_180_48, s_180_51, s_180_53, s_180_54, s_180_55, s_180_56, s_180_57, s_180_59, s_180_62, s_180_65, s_180_67, s_180_68, s_180_69, s_180_70, s_180_71, s_180_73, s_180_76, s_180_79, s_180_81, s_180_82, s_180_83, s_180_84, s_180_85, s_180_87, s_180_90, s_180_93, s_180_95, s_180_96, s_180_97, s_180_98, s_180_99, s_180_101, s_180_104, s_180_107, s_180_109, s_180_112, s_180_113, e_180, mv_i_1, mv_l_1, mv_a_1, mv_a_2, mv_a_3, mk2_n, mk2_i, mk2_l, mk2_a, mk2_u, mk2_x, mB_T, mB_F, mS_cons, mS_nil, mSB_T, mSB_F, mca_nil, mca_i, mca_l, mca_r, mca_u, mca_x, mcat_i, mcat_l, mcat_r, mcat_u, mcat_x, mK_some, mK_none, va_rf_s, va_rf_n, lgc_eq, lgc_lt, lgc_gt, lgc_ge, lgc_le, mrd_104, mrd_105, mrd_106, mrd_107, true_and, and_true, and_self, false_and, and_false, true_or, or_true, false_or, or_false, not_true_eq_false, not_false_eq_true, mgb, mga, mgr, mN, reduceCtorEq, ↓reduceIte, eq_self, ge_iff_le, gt_iff_lt, Nat.reduceAdd, Nat.reduceMul, Nat.reduceSub, Nat.reduceLT, Nat.reduceGT, Nat.reduceEqDiff, Nat.reduceLeDiff, Nat.left_eq_add, Nat.add_eq_left, Nat.reduceMod, Nat.reduceDiv, Nat.succ_ne_self, g, a0, b0, a1, b1, a2, b2, a3, b3, a4, b4, a5, b5, a6, b6, a7, b7, k1, k0, n1]
                | false =>
                  rw [if_neg (by decide), if_neg (by decide), if_neg (by decide), if_neg (by decide), if_neg (by decide), if_neg (by decide), if_neg (by decide), if_neg (by decide)]
                  simp (disch := omega) only [s_180_0, s_180_1, s_180_2, s_180_3, s_180_5, s_180_8, s_180_11, s_180_12, s_180_13, s_180_14, s_180_15, s_180_16, s_180_18, s_180_21, s_180_24, s_180_25, s_180_26, s_180_27, s_180_28, s_180_29, s_180_31, s_180_34, s_180_37, s_180_39, s_180_40, s_180_41, s_180_42, s_180_43, s_180_45, s_180_48, s_180_51, s_180_53, s_180_54, s_180_55, s_180_56, s_180_57, s_180_59, s_180_62, s_180_65, s_180_67, s_180_68, s_180_69, s_180_70, s_180_71, s_180_73, s_180_76, s_180_79, s_180_81, s_180_82, s_180_83, s_180_84, s_180_85, s_180_87, s_180_90, s_180_93, s_180_95, s_180_96, s_180_97, s_180_98, s_180_99, s_180_101, s_180_104, s_180_107, s_180_109, s_180_112, s_180_113, e_180, mv_i_1, mv_l_1, mv_a_1, mv_a_2, mv_a_3, mk2_n, mk2_i, mk2_l, mk2_a, mk2_u, mk2_x, mB_T, mB_F, mS_cons, mS_nil, mSB_T, mSB_F, mca_nil, mca_i, mca_l, mca_r, mca_u, mca_x, mcat_i, mcat_l, mcat_r, mcat_u, mcat_x, mK_some, mK_none, va_rf_s, va_rf_n, lgc_eq, lgc_lt, lgc_gt, lgc_ge, lgc_le, mrd_104, mrd_105, mrd_106, mrd_107, true_and, and_true, and_self, false_and, and_false, true_or, or_true, false_or, or_false, not_true_eq_false, not_false_eq_true, mgb, mga, mgr, mN, reduceCtorEq, ↓reduceIte, eq_self, ge_iff_le, gt_iff_lt, Nat.reduceAdd, Nat.reduceMul, Nat.reduceSub, Nat.reduceLT, Nat.reduceGT, Nat.reduceEqDiff, Nat.reduceLeDiff, Nat.left_eq_add, Nat.add_eq_left, Nat.reduceMod, Nat.reduceDiv, Nat.succ_ne_self, g, a0, b0, a1, b1, a2, b2, a3, b3, a4, b4, a5, b5, a6, b6, a7, b7, k1, k0, n1]
end TEs
