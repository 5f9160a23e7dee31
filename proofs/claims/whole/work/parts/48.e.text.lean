set_option maxRecDepth 100000
/-! signs, tokens: the class's scan -/
def isS (c : Int32) : Bool := decide (c = 40 ∨ c = 41 ∨ c = 123 ∨ c = 125 ∨ c = 91 ∨ c = 93 ∨ c = 44 ∨ c = 59 ∨ c = 61 ∨ c = 43 ∨ c = 45 ∨ c = 42 ∨ c = 47 ∨ c = 37 ∨ c = 60 ∨ c = 62 ∨ c = 33)
def hsS (c : Int32) : Nat → Nat → Bool
  | 0, _ => false
  | f + 1, k => if xB 9 k = c then true else hsS c f (k + 1)
theorem hsS_ok : ∀ m, m < 256 → hsS (Int32.ofNat m).toInt8.toInt32 17 0 = isS (Int32.ofNat m) := by decide +kernel
theorem i2c_ok : ∀ m, m < 256 → ((Int32.ofNat m).toUInt32 % 65536).toInt32 = Int32.ofNat m := by decide +kernel
/-- how wide the token at i is, 0 for none; what it is -/
def tkW (B : Nat → Int32) (n i : Nat) : Nat := if isL (B i) = true then (if cw (fun c => isL c || isG c) B (n - i) i ≤ 30 then cw (fun c => isL c || isG c) B (n - i) i else 0) else if isG (B i) = true then nmW B n i else if s2 (B i) (bt B n (i + 1)) = 1 then (if isS (B i) = true then 1 else 0) else 2
def tkA (B : Nat → Int32) (n i w : Nat) : Int32 := if isL (B i) = true then wdK B n i w else if isG (B i) = true then 3 else if w = 2 then s2 (B i) (bt B n (i + 1)) else B i
def tkD (B : Nat → Int32) (n i : Nat) : Int32 := if tkW B n i = 0 then 1 else tkA B n i (tkW B n i)
/-- the tokens from i on: kind, place, width -/
abbrev tks : Type := List (Int32 × Nat × Nat)
def scn (B : Nat → Int32) (n : Nat) : Nat → Nat → tks
  | 0, _ => [(0, n, 0)]
  | f + 1, i => if i < n then (if tkD B n i = 1 then [(1, i, tkW B n i)] else (tkD B n i, i, tkW B n i) :: scn B n f (bl B n (n - (i + tkW B n i)) false (i + tkW B n i))) else [(0, n, 0)]
theorem nmW_b {B : Nat → Int32} {n i : Nat} : nmW B n i ≤ n - i := by
  have := cw_le (p := isG) (B := B) (n - i) i
  unfold nmW
  split <;> omega
theorem s2_b {b : Int32} {n i : Nat} {B : Nat → Int32} (h : ¬ s2 b (bt B n (i + 1)) = 1) : i + 2 ≤ n := by
  by_cases c : i + 1 < n
  · omega
  · exact absurd (by rw [show bt B n (i + 1) = -1 from if_neg c]; unfold s2; rw [if_neg (by decide), if_neg (fun z => absurd z.2 (by decide)), if_neg (fun z => absurd z.2 (by decide))]) h
theorem tkW_b {B : Nat → Int32} {n i : Nat} (hi : i < n) : i + tkW B n i ≤ n := by
  have h1 := cw_le (p := fun c => isL c || isG c) (B := B) (n - i) i
  have h2 := nmW_b (B := B) (n := n) (i := i)
  unfold tkW
  split
  · split <;> omega
  · split
    · omega
    · split
      · split <;> omega
      · rename_i q
        have := s2_b (i := i) (n := n) (B := B) q
        omega
section TFs
variable {d : Nat} {h : mh_H} {To X n : Nat} {B : Nat → Int32}
theorem l_404 {c4 : Int32} {x1 x2 : Option Value} : ∀ f k, k + f = 17 → ∃ w : Int32, (w < 0) = (hsS c4 f k = false) ∧ ∀ Q, mw d 404 Q 7 [some (.retAddr 31), x1, x2, some (.int (Int32.ofNat 17)), some (.int c4), some (.int (Int32.ofNat k))] [] h = Q (some (.int w)) h := by
  have a1 := (xs_ok 9 (by decide)).2
  have a1' : me_xb 31 = true := a1
  have f1 : mx_len.getD 9 0 = 17 := rfl
  have f2 : ∀ i, (mx_byt.getD 9 []).getD i 0 = xB 9 i := fun i => rfl
  have e1' : ∀ k, Int32.ofNat k + 1 = Int32.ofNat (k + 1) := fun k => nn_add (a := k) (b := 1)
  intro f
  induction f with
  | zero =>
    intro k hk
    have c' : (17 ≤ k) = True := eq_true (by omega)
    refine ⟨-1, ?_, fun Q => ?_⟩
    · rw [show hsS c4 0 k = false from rfl]; decide
    · simp (disch := omega) only [s_404_0, s_404_1, s_404_2, s_404_4, s_404_5, s_404_7, s_404_9, s_404_10, s_404_13, s_404_14, s_404_16, s_404_16x, s_404_17, s_404_19, s_404_22, s_404_24, s_404_25, s_404_28, s_404_31, s_404_32, e_404, mv_i_1, mv_l_1, mv_a_1, mv_a_2, mv_a_3, mk2_n, mk2_i, mk2_l, mk2_a, mk2_u, mk2_x, mB_T, mB_F, mS_cons, mS_nil, mSB_T, mSB_F, mca_nil, mca_i, mca_l, mca_r, mca_u, mca_x, mcat_i, mcat_l, mcat_r, mcat_u, mcat_x, mK_some, mK_none, va_rf_s, va_rf_n, lgc_eq, lgc_lt, lgc_gt, lgc_ge, lgc_le, mrd_104, mrd_105, mrd_106, mrd_107, true_and, and_true, and_self, false_and, and_false, true_or, or_true, false_or, or_false, not_true_eq_false, not_false_eq_true, mgb, mga, mgr, mN, reduceCtorEq, ↓reduceIte, eq_self, ge_iff_le, gt_iff_lt, Nat.reduceAdd, Nat.reduceMul, Nat.reduceSub, Nat.reduceLT, Nat.reduceGT, Nat.reduceEqDiff, Nat.reduceLeDiff, Nat.left_eq_add, Nat.add_eq_left, Nat.reduceMod, Nat.reduceDiv, Nat.succ_ne_self, nn_le, c']
  | succ f ih =>
    intro k hk
    have c' : (17 ≤ k) = False := eq_false (by omega)
    have e : hsS c4 (f + 1) k = (if xB 9 k = c4 then true else hsS c4 f (k + 1)) := rfl
    rw [e]
    by_cases c : xB 9 k = c4
    · refine ⟨Int32.ofNat k, ?_, fun Q => ?_⟩
      · rw [if_pos c, nn_neg (by omega)]; exact propext ⟨fun z => z.elim, fun z => absurd z (by decide)⟩
      · clear ih
        rw [s_404_7]
        simp (disch := omega) only [s_404_0, s_404_1, s_404_2, s_404_4, s_404_5, s_404_9, s_404_10, s_404_13, s_404_14, s_404_16, s_404_16x, s_404_17, s_404_19, s_404_22, s_404_24, s_404_25, s_404_28, s_404_31, s_404_32, e_404, mv_i_1, mv_l_1, mv_a_1, mv_a_2, mv_a_3, mk2_n, mk2_i, mk2_l, mk2_a, mk2_u, mk2_x, mB_T, mB_F, mS_cons, mS_nil, mSB_T, mSB_F, mca_nil, mca_i, mca_l, mca_r, mca_u, mca_x, mcat_i, mcat_l, mcat_r, mcat_u, mcat_x, mK_some, mK_none, va_rf_s, va_rf_n, lgc_eq, lgc_lt, lgc_gt, lgc_ge, lgc_le, mrd_104, mrd_105, mrd_106, mrd_107, true_and, and_true, and_self, false_and, and_false, true_or, or_true, false_or, or_false, not_true_eq_false, not_false_eq_true, mgb, mga, mgr, mN, reduceCtorEq, ↓reduceIte, eq_self, ge_iff_le, gt_iff_lt, Nat.reduceAdd, Nat.reduceMul, Nat.reduceSub, Nat.reduceLT, Nat.reduceGT, Nat.reduceEqDiff, Nat.reduceLeDiff, Nat.left_eq_add, Nat.add_eq_left, Nat.reduceMod, Nat.reduceDiv, Nat.succ_ne_self, nn_le, c', a1', f1, f2, nn_mxT, nn_clamp, c]
    · obtain ⟨w, w1, w2⟩ := ih (k + 1) (by omega)
      refine ⟨w, by rw [if_neg c]; exact w1, fun Q => ?_⟩
      rw [← w2 Q]
      clear ih w1 w2
      rw [s_404_7]
      simp (disch := omega) only [s_404_0, s_404_1, s_404_2, s_404_4, s_404_5, s_404_9, s_404_10, s_404_13, s_404_14, s_404_16, s_404_16x, s_404_17, s_404_19, s_404_22, s_404_24, s_404_25, s_404_28, s_404_31, s_404_32, e_404, mv_i_1, mv_l_1, mv_a_1, mv_a_2, mv_a_3, mk2_n, mk2_i, mk2_l, mk2_a, mk2_u, mk2_x, mB_T, mB_F, mS_cons, mS_nil, mSB_T, mSB_F, mca_nil, mca_i, mca_l, mca_r, mca_u, mca_x, mcat_i, mcat_l, mcat_r, mcat_u, mcat_x, mK_some, mK_none, va_rf_s, va_rf_n, lgc_eq, lgc_lt, lgc_gt, lgc_ge, lgc_le, mrd_104, mrd_105, mrd_106, mrd_107, true_and, and_true, and_self, false_and, and_false, true_or, or_true, false_or, or_false, not_true_eq_false, not_false_eq_true, mgb, mga, mgr, mN, reduceCtorEq, ↓reduceIte, eq_self, ge_iff_le, gt_iff_lt, Nat.reduceAdd, Nat.reduceMul, Nat.reduceSub, Nat.reduceLT, Nat.reduceGT, Nat.reduceEqDiff, Nat.reduceLeDiff, Nat.left_eq_add, Nat.add_eq_left, Nat.reduceMod, Nat.reduceDiv, Nat.succ_ne_self, nn_le, c', a1', f1, f2, nn_mxT, nn_clamp, c, e1']
theorem c_399 {m : Nat} (hm : m < 256) : ∃ w : Int32, (w < 0) = (isS (Int32.ofNat m) = false) ∧ ∀ Q, mcall (d + 3) 399 [.retAddr 30, .int (Int32.ofNat m)] h Q = Q (some (.int w)) h := by
  obtain ⟨w, w1, w2⟩ := l_404 (d := d) (h := h) (c4 := (Int32.ofNat m).toInt8.toInt32) (x1 := some (.int (Int32.ofNat m))) (x2 := some (.int 0)) 17 0 (by omega)
  rw [hsS_ok m hm] at w1
  refine ⟨w, w1, fun Q => ?_⟩
  have a0 : me_xs 30 = true := (xs_ok 9 (by decide)).1
  have a1 : me_xb 31 = true := (xs_ok 9 (by decide)).2
  have f1 : mx_len.getD 9 0 = 17 := rfl
  have c0 : ∀ Q, mcall (d + 1) 394 [.retAddr 30] h Q = Q (some (.int (Int32.ofNat 17))) h := c_394 (d := d) (h := h) (j := 9) (by decide)
  have n1 : ((1 : Int32) = 0) = False := by decide
  have n2 : ((0 : Int32) < 0) = False := by decide
  have n3 : (Int32.ofNat 17 < Int32.ofNat 17) = False := by decide
  have n4 : ((0 : Int32) < Int32.ofNat 17) = True := by decide
  have n5 : (255 < Int32.ofNat m) = False := by rw [show (255 : Int32) = Int32.ofNat 255 from rfl, nn_lt (by omega) (by omega)]; exact eq_false (by omega)
  have n6 : ((0 : Int32) = 0 ∨ (0 : Int32) = 1) = True := eq_true (Or.inl rfl)
  have n7 : ((1 : Int32) = 0 ∨ (1 : Int32) = 1) = True := eq_true (Or.inr rfl)
  have w3 : ∀ Q, mw d 404 Q 7 [some (.retAddr 31), some (.int (Int32.ofNat m)), some (.int 0), some (.int (Int32.ofNat 17)), some (.int (Int32.ofNat m).toInt8.toInt32), some (.int 0)] [] h = Q (some (.int w)) h := w2
  clear w1 w2
  simp (disch := omega) only [s_399_0, s_399_1, s_399_2, s_399_3, s_399_6, e_399, s_400_0, s_400_1, s_400_4, s_400_7, s_400_8, s_400_11, s_400_12, s_400_13, s_400_14, s_400_17, s_400_20, s_400_23, s_400_24, s_400_27, s_400_28, s_400_29, s_400_30, s_400_36, e_400, s_396_0, s_396_3, s_396_6, s_396_7, s_396_10, s_396_13, s_396_14, s_396_17, s_396_18, e_396, s_402_0, s_402_1, s_402_4, s_402_7, s_402_8, s_402_9, s_402_10, s_402_11, s_402_14, s_402_15, s_402_16, s_402_17, s_402_17x, s_402_18, s_402_21, s_402_22, s_402_23, s_402_24, s_402_27, s_402_28, s_402_29, s_402_30, s_402_31, s_402_32, s_402_33, s_402_36, e_402, s_403_0, s_403_1, s_403_4, s_403_5, s_403_8, s_403_11, s_403_12, s_403_15, s_403_16, e_403, s_404_0, s_404_1, s_404_2, s_404_4, s_404_5, s_404_9, s_404_10, s_404_13, s_404_14, s_404_16, s_404_16x, s_404_17, s_404_19, s_404_22, s_404_24, s_404_25, s_404_28, s_404_31, s_404_32, e_404, mv_i_1, mv_l_1, mv_a_1, mv_a_2, mv_a_3, mk2_n, mk2_i, mk2_l, mk2_a, mk2_u, mk2_x, mB_T, mB_F, mS_cons, mS_nil, mSB_T, mSB_F, mca_nil, mca_i, mca_l, mca_r, mca_u, mca_x, mcat_i, mcat_l, mcat_r, mcat_u, mcat_x, mK_some, mK_none, va_rf_s, va_rf_n, lgc_eq, lgc_lt, lgc_gt, lgc_ge, lgc_le, mrd_104, mrd_105, mrd_106, mrd_107, true_and, and_true, and_self, false_and, and_false, true_or, or_true, false_or, or_false, not_true_eq_false, not_false_eq_true, mgb, mga, mgr, mN, reduceCtorEq, ↓reduceIte, eq_self, ge_iff_le, gt_iff_lt, Nat.reduceAdd, Nat.reduceMul, Nat.reduceSub, Nat.reduceLT, Nat.reduceGT, Nat.reduceEqDiff, Nat.reduceLeDiff, Nat.left_eq_add, Nat.add_eq_left, Nat.reduceMod, Nat.reduceDiv, Nat.succ_ne_self, a0, a1, f1, c0, n1, n2, n3, n4, n5, n6, n7, nn_neg, if_false, if_true, w3]
/-- widthAt -/
theorem c_174 (T : TB h To X n B) {i : Nat} (hi : i < n) : ∀ Q, mcall (d + 4) 174 [.ref To, .int (Int32.ofNat i)] h Q = Q (some (.int (Int32.ofNat (tkW B n i)))) h := by
  intro Q
  have g := T.g
  have hn := T.n
  obtain ⟨m, m1, m2⟩ := T.v i hi
  have k1 : kb true = 1 := rfl
  have k0 : kb false = 0 := rfl
  have n1 : ((1 : Int32) = 0) = False := by decide
  have e1' : ∀ k, Int32.ofNat k + 1 = Int32.ofNat (k + 1) := fun k => nn_add (a := k) (b := 1)
  have a1 := c_170 (d := d + 3) T (i := i) (by omega)
  have a2 := c_170 (d := d + 3) T (i := i + 1) (by omega)
  have eb : bt B n i = B i := if_pos hi
  have p1 := c_172 (d := d + 3) (h := h) (B i)
  have p2 := c_173 (d := d + 3) (h := h) (B i)
  have p3 := c_175 (d := d + 2) T (i := i) (by omega)
  have p4 := c_176 (d := d + 1) T (i := i) hi
  have p5 := c_179 (d := d + 3) (h := h) (B i) (bt B n (i + 1))
  obtain ⟨w, w1, p6⟩ := c_399 (d := d) (h := h) m1
  have ic := i2c_ok m m1
  have x30 : me_xs 30 = true := (xs_ok 9 (by decide)).1
  have hw := cw_le (p := fun c => isL c || isG c) (B := B) (n - i) i
  clear T
  unfold tkW
  cases b1 : isL (B i) with
  | true =>
    rw [if_pos rfl]
    rw [b1] at p1
    generalize cw (fun c => isL c || isG c) B (n - i) i = W at *
    have e3 : (30 < Int32.ofNat W) = (30 < W) := nn_lt (a := 30) (b := W) (by omega) (by omega)
    by_cases c : W ≤ 30
    · rw [if_pos c]
      have c' : (30 < W) = False := eq_false (by omega)
      simp (disch := omega) only [s_174_0, s_174_1, s_174_2, s_174_5, s_174_6, s_174_7, s_174_10, s_174_13, s_174_14, s_174_15, s_174_18, s_174_19, s_174_20, s_174_22, s_174_25, s_174_26, s_174_29, s_174_30, s_174_31, s_174_32, s_174_35, s_174_38, s_174_39, s_174_40, s_174_43, s_174_44, s_174_45, s_174_46, s_174_47, s_174_48, s_174_49, s_174_52, s_174_55, s_174_56, s_174_59, s_174_60, s_174_61, s_174_63, s_174_64, s_174_65, s_174_68, s_174_71, s_174_72, s_174_75, s_174_76, e_174, mv_i_1, mv_l_1, mv_a_1, mv_a_2, mv_a_3, mk2_n, mk2_i, mk2_l, mk2_a, mk2_u, mk2_x, mB_T, mB_F, mS_cons, mS_nil, mSB_T, mSB_F, mca_nil, mca_i, mca_l, mca_r, mca_u, mca_x, mcat_i, mcat_l, mcat_r, mcat_u, mcat_x, mK_some, mK_none, va_rf_s, va_rf_n, lgc_eq, lgc_lt, lgc_gt, lgc_ge, lgc_le, mrd_104, mrd_105, mrd_106, mrd_107, true_and, and_true, and_self, false_and, and_false, true_or, or_true, false_or, or_false, not_true_eq_false, not_false_eq_true, mgb, mga, mgr, mN, reduceCtorEq, ↓reduceIte, eq_self, ge_iff_le, gt_iff_lt, Nat.reduceAdd, Nat.reduceMul, Nat.reduceSub, Nat.reduceLT, Nat.reduceGT, Nat.reduceEqDiff, Nat.reduceLeDiff, Nat.left_eq_add, Nat.add_eq_left, Nat.reduceMod, Nat.reduceDiv, Nat.succ_ne_self, g, a1, eb, p1, k1, n1, p3, e3, c']
    · rw [if_neg c]
      have c' : (30 < W) = True := eq_true (by omega)
      simp (disch := omega) only [s_174_0, s_174_1, s_174_2, s_174_5, s_174_6, s_174_7, s_174_10, s_174_13, s_174_14, s_174_15, s_174_18, s_174_19, s_174_20, s_174_22, s_174_25, s_174_26, s_174_29, s_174_30, s_174_31, s_174_32, s_174_35, s_174_38, s_174_39, s_174_40, s_174_43, s_174_44, s_174_45, s_174_46, s_174_47, s_174_48, s_174_49, s_174_52, s_174_55, s_174_56, s_174_59, s_174_60, s_174_61, s_174_63, s_174_64, s_174_65, s_174_68, s_174_71, s_174_72, s_174_75, s_174_76, e_174, mv_i_1, mv_l_1, mv_a_1, mv_a_2, mv_a_3, mk2_n, mk2_i, mk2_l, mk2_a, mk2_u, mk2_x, mB_T, mB_F, mS_cons, mS_nil, mSB_T, mSB_F, mca_nil, mca_i, mca_l, mca_r, mca_u, mca_x, mcat_i, mcat_l, mcat_r, mcat_u, mcat_x, mK_some, mK_none, va_rf_s, va_rf_n, lgc_eq, lgc_lt, lgc_gt, lgc_ge, lgc_le, mrd_104, mrd_105, mrd_106, mrd_107, true_and, and_true, and_self, false_and, and_false, true_or, or_true, false_or, or_false, not_true_eq_false, not_false_eq_true, mgb, mga, mgr, mN, reduceCtorEq, ↓reduceIte, eq_self, ge_iff_le, gt_iff_lt, Nat.reduceAdd, Nat.reduceMul, Nat.reduceSub, Nat.reduceLT, Nat.reduceGT, Nat.reduceEqDiff, Nat.reduceLeDiff, Nat.left_eq_add, Nat.add_eq_left, Nat.reduceMod, Nat.reduceDiv, Nat.succ_ne_self, g, a1, eb, p1, k1, n1, p3, e3, c']
      rfl
  | false =>
    rw [if_neg (by decide)]
    rw [b1] at p1
    cases b2 : isG (B i) with
    | true =>
      rw [if_pos rfl]
      rw [b2] at p2
      simp (disch := omega) only [s_174_0, s_174_1, s_174_2, s_174_5, s_174_6, s_174_7, s_174_10, s_174_13, s_174_14, s_174_15, s_174_18, s_174_19, s_174_20, s_174_22, s_174_25, s_174_26, s_174_29, s_174_30, s_174_31, s_174_32, s_174_35, s_174_38, s_174_39, s_174_40, s_174_43, s_174_44, s_174_45, s_174_46, s_174_47, s_174_48, s_174_49, s_174_52, s_174_55, s_174_56, s_174_59, s_174_60, s_174_61, s_174_63, s_174_64, s_174_65, s_174_68, s_174_71, s_174_72, s_174_75, s_174_76, e_174, mv_i_1, mv_l_1, mv_a_1, mv_a_2, mv_a_3, mk2_n, mk2_i, mk2_l, mk2_a, mk2_u, mk2_x, mB_T, mB_F, mS_cons, mS_nil, mSB_T, mSB_F, mca_nil, mca_i, mca_l, mca_r, mca_u, mca_x, mcat_i, mcat_l, mcat_r, mcat_u, mcat_x, mK_some, mK_none, va_rf_s, va_rf_n, lgc_eq, lgc_lt, lgc_gt, lgc_ge, lgc_le, mrd_104, mrd_105, mrd_106, mrd_107, true_and, and_true, and_self, false_and, and_false, true_or, or_true, false_or, or_false, not_true_eq_false, not_false_eq_true, mgb, mga, mgr, mN, reduceCtorEq, ↓reduceIte, eq_self, ge_iff_le, gt_iff_lt, Nat.reduceAdd, Nat.reduceMul, Nat.reduceSub, Nat.reduceLT, Nat.reduceGT, Nat.reduceEqDiff, Nat.reduceLeDiff, Nat.left_eq_add, Nat.add_eq_left, Nat.reduceMod, Nat.reduceDiv, Nat.succ_ne_self, g, a1, eb, p1, p2, k1, k0, n1, p4]
    | false =>
      rw [if_neg (by decide)]
      rw [b2] at p2
      by_cases c : s2 (B i) (bt B n (i + 1)) = 1
      · rw [if_pos c]
        rw [c] at p5
        have n2 : ((1 : Int32) = 1) = True := by decide
        cases b3 : isS (B i) with
        | true =>
          rw [if_pos rfl]
          have w2 : (w < 0) = False := by rw [w1, ← m2, b3]; decide
          rw [m2] at p1 p2 p5 eb
          simp (disch := omega) only [s_174_0, s_174_1, s_174_2, s_174_5, s_174_6, s_174_7, s_174_10, s_174_13, s_174_14, s_174_15, s_174_18, s_174_19, s_174_20, s_174_22, s_174_25, s_174_26, s_174_29, s_174_30, s_174_31, s_174_32, s_174_35, s_174_38, s_174_39, s_174_40, s_174_43, s_174_44, s_174_45, s_174_46, s_174_47, s_174_48, s_174_49, s_174_52, s_174_55, s_174_56, s_174_59, s_174_60, s_174_61, s_174_63, s_174_64, s_174_65, s_174_68, s_174_71, s_174_72, s_174_75, s_174_76, e_174, mv_i_1, mv_l_1, mv_a_1, mv_a_2, mv_a_3, mk2_n, mk2_i, mk2_l, mk2_a, mk2_u, mk2_x, mB_T, mB_F, mS_cons, mS_nil, mSB_T, mSB_F, mca_nil, mca_i, mca_l, mca_r, mca_u, mca_x, mcat_i, mcat_l, mcat_r, mcat_u, mcat_x, mK_some, mK_none, va_rf_s, va_rf_n, lgc_eq, lgc_lt, lgc_gt, lgc_ge, lgc_le, mrd_104, mrd_105, mrd_106, mrd_107, true_and, and_true, and_self, false_and, and_false, true_or, or_true, false_or, or_false, not_true_eq_false, not_false_eq_true, mgb, mga, mgr, mN, reduceCtorEq, ↓reduceIte, eq_self, ge_iff_le, gt_iff_lt, Nat.reduceAdd, Nat.reduceMul, Nat.reduceSub, Nat.reduceLT, Nat.reduceGT, Nat.reduceEqDiff, Nat.reduceLeDiff, Nat.left_eq_add, Nat.add_eq_left, Nat.reduceMod, Nat.reduceDiv, Nat.succ_ne_self, g, a1, a2, eb, p1, p2, k0, n1, n2, e1', p5, ic, p6, w2, x30]
          rfl
        | false =>
          rw [if_neg (by decide)]
          have w2 : (w < 0) = True := by rw [w1, ← m2, b3]; decide
          rw [m2] at p1 p2 p5 eb
          simp (disch := omega) only [s_174_0, s_174_1, s_174_2, s_174_5, s_174_6, s_174_7, s_174_10, s_174_13, s_174_14, s_174_15, s_174_18, s_174_19, s_174_20, s_174_22, s_174_25, s_174_26, s_174_29, s_174_30, s_174_31, s_174_32, s_174_35, s_174_38, s_174_39, s_174_40, s_174_43, s_174_44, s_174_45, s_174_46, s_174_47, s_174_48, s_174_49, s_174_52, s_174_55, s_174_56, s_174_59, s_174_60, s_174_61, s_174_63, s_174_64, s_174_65, s_174_68, s_174_71, s_174_72, s_174_75, s_174_76, e_174, mv_i_1, mv_l_1, mv_a_1, mv_a_2, mv_a_3, mk2_n, mk2_i, mk2_l, mk2_a, mk2_u, mk2_x, mB_T, mB_F, mS_cons, mS_nil, mSB_T, mSB_F, mca_nil, mca_i, mca_l, mca_r, mca_u, mca_x, mcat_i, mcat_l, mcat_r, mcat_u, mcat_x, mK_some, mK_none, va_rf_s, va_rf_n, lgc_eq, lgc_lt, lgc_gt, lgc_ge, lgc_le, mrd_104, mrd_105, mrd_106, mrd_107, true_and, and_true, and_self, false_and, and_false, true_or, or_true, false_or, or_false, not_true_eq_false, not_false_eq_true, mgb, mga, mgr, mN, reduceCtorEq, ↓reduceIte, eq_self, ge_iff_le, gt_iff_lt, Nat.reduceAdd, Nat.reduceMul, Nat.reduceSub, Nat.reduceLT, Nat.reduceGT, Nat.reduceEqDiff, Nat.reduceLeDiff, Nat.left_eq_add, Nat.add_eq_left, Nat.reduceMod, Nat.reduceDiv, Nat.succ_ne_self, g, a1, a2, eb, p1, p2, k0, n1, n2, e1', p5, ic, p6, w2, x30]
          rfl
      · rw [if_neg c]
        simp (disch := omega) only [s_174_0, s_174_1, s_174_2, s_174_5, s_174_6, s_174_7, s_174_10, s_174_13, s_174_14, s_174_15, s_174_18, s_174_19, s_174_20, s_174_22, s_174_25, s_174_26, s_174_29, s_174_30, s_174_31, s_174_32, s_174_35, s_174_38, s_174_39, s_174_40, s_174_43, s_174_44, s_174_45, s_174_46, s_174_47, s_174_48, s_174_49, s_174_52, s_174_55, s_174_56, s_174_59, s_174_60, s_174_61, s_174_63, s_174_64, s_174_65, s_174_68, s_174_71, s_174_72, s_174_75, s_174_76, e_174, mv_i_1, mv_l_1, mv_a_1, mv_a_2, mv_a_3, mk2_n, mk2_i, mk2_l, mk2_a, mk2_u, mk2_x, mB_T, mB_F, mS_cons, mS_nil, mSB_T, mSB_F, mca_nil, mca_i, mca_l, mca_r, mca_u, mca_x, mcat_i, mcat_l, mcat_r, mcat_u, mcat_x, mK_some, mK_none, va_rf_s, va_rf_n, lgc_eq, lgc_lt, lgc_gt, lgc_ge, lgc_le, mrd_104, mrd_105, mrd_106, mrd_107, true_and, and_true, and_self, false_and, and_false, true_or, or_true, false_or, or_false, not_true_eq_false, not_false_eq_true, mgb, mga, mgr, mN, reduceCtorEq, ↓reduceIte, eq_self, ge_iff_le, gt_iff_lt, Nat.reduceAdd, Nat.reduceMul, Nat.reduceSub, Nat.reduceLT, Nat.reduceGT, Nat.reduceEqDiff, Nat.reduceLeDiff, Nat.left_eq_add, Nat.add_eq_left, Nat.reduceMod, Nat.reduceDiv, Nat.succ_ne_self, g, a1, a2, eb, p1, p2, k0, n1, e1', p5, c]
        rfl
/-- kindAt -/
theorem c_178 (T : TB h To X n B) {i w : Nat} (hi : i < n) (hw : w ≤ 20000) : ∀ Q, mcall (d + 6) 178 [.ref To, .int (Int32.ofNat i), .int (Int32.ofNat w)] h Q = Q (some (.int (tkA B n i w))) h := by
  intro Q
  have g := T.g
  have hn := T.n
  have k1 : kb true = 1 := rfl
  have k0 : kb false = 0 := rfl
  have n1 : ((1 : Int32) = 0) = False := by decide
  have e1' : ∀ k, Int32.ofNat k + 1 = Int32.ofNat (k + 1) := fun k => nn_add (a := k) (b := 1)
  have a1 := c_170 (d := d + 5) T (i := i) (by omega)
  have a2 := c_170 (d := d + 5) T (i := i + 1) (by omega)
  have eb : bt B n i = B i := if_pos hi
  have p1 := c_172 (d := d + 5) (h := h) (B i)
  have p2 := c_173 (d := d + 5) (h := h) (B i)
  have p3 := c_180 (d := d) T (i := i) (w := w) (by omega) hw
  have p5 := c_179 (d := d + 5) (h := h) (B i) (bt B n (i + 1))
  have e2 : (Int32.ofNat w = 2) = (w = 2) := nn_eq (a := w) (b := 2) (by omega) (by omega)
  clear T
  unfold tkA
  cases b1 : isL (B i) with
  | true =>
    rw [if_pos rfl]
    rw [b1] at p1
    simp (disch := omega) only [s_178_0, s_178_1, s_178_2, s_178_5, s_178_6, s_178_7, s_178_10, s_178_13, s_178_14, s_178_15, s_178_16, s_178_19, s_178_20, s_178_21, s_178_24, s_178_27, s_178_28, s_178_29, s_178_30, s_178_31, s_178_34, s_178_35, s_178_36, s_178_37, s_178_38, s_178_39, s_178_42, s_178_45, s_178_48, s_178_49, e_178, mv_i_1, mv_l_1, mv_a_1, mv_a_2, mv_a_3, mk2_n, mk2_i, mk2_l, mk2_a, mk2_u, mk2_x, mB_T, mB_F, mS_cons, mS_nil, mSB_T, mSB_F, mca_nil, mca_i, mca_l, mca_r, mca_u, mca_x, mcat_i, mcat_l, mcat_r, mcat_u, mcat_x, mK_some, mK_none, va_rf_s, va_rf_n, lgc_eq, lgc_lt, lgc_gt, lgc_ge, lgc_le, mrd_104, mrd_105, mrd_106, mrd_107, true_and, and_true, and_self, false_and, and_false, true_or, or_true, false_or, or_false, not_true_eq_false, not_false_eq_true, mgb, mga, mgr, mN, reduceCtorEq, ↓reduceIte, eq_self, ge_iff_le, gt_iff_lt, Nat.reduceAdd, Nat.reduceMul, Nat.reduceSub, Nat.reduceLT, Nat.reduceGT, Nat.reduceEqDiff, Nat.reduceLeDiff, Nat.left_eq_add, Nat.add_eq_left, Nat.reduceMod, Nat.reduceDiv, Nat.succ_ne_self, g, a1, eb, p1, k1, n1, p3]
  | false =>
    rw [if_neg (by decide)]
    rw [b1] at p1
    cases b2 : isG (B i) with
    | true =>
      rw [if_pos rfl]
      rw [b2] at p2
      simp (disch := omega) only [s_178_0, s_178_1, s_178_2, s_178_5, s_178_6, s_178_7, s_178_10, s_178_13, s_178_14, s_178_15, s_178_16, s_178_19, s_178_20, s_178_21, s_178_24, s_178_27, s_178_28, s_178_29, s_178_30, s_178_31, s_178_34, s_178_35, s_178_36, s_178_37, s_178_38, s_178_39, s_178_42, s_178_45, s_178_48, s_178_49, e_178, mv_i_1, mv_l_1, mv_a_1, mv_a_2, mv_a_3, mk2_n, mk2_i, mk2_l, mk2_a, mk2_u, mk2_x, mB_T, mB_F, mS_cons, mS_nil, mSB_T, mSB_F, mca_nil, mca_i, mca_l, mca_r, mca_u, mca_x, mcat_i, mcat_l, mcat_r, mcat_u, mcat_x, mK_some, mK_none, va_rf_s, va_rf_n, lgc_eq, lgc_lt, lgc_gt, lgc_ge, lgc_le, mrd_104, mrd_105, mrd_106, mrd_107, true_and, and_true, and_self, false_and, and_false, true_or, or_true, false_or, or_false, not_true_eq_false, not_false_eq_true, mgb, mga, mgr, mN, reduceCtorEq, ↓reduceIte, eq_self, ge_iff_le, gt_iff_lt, Nat.reduceAdd, Nat.reduceMul, Nat.reduceSub, Nat.reduceLT, Nat.reduceGT, Nat.reduceEqDiff, Nat.reduceLeDiff, Nat.left_eq_add, Nat.add_eq_left, Nat.reduceMod, Nat.reduceDiv, Nat.succ_ne_self, g, a1, eb, p1, p2, k1, k0, n1]
    | false =>
      rw [if_neg (by decide)]
      rw [b2] at p2
      by_cases c : w = 2
      · rw [if_pos c]
        have c' := eq_true c
        simp (disch := omega) only [s_178_0, s_178_1, s_178_2, s_178_5, s_178_6, s_178_7, s_178_10, s_178_13, s_178_14, s_178_15, s_178_16, s_178_19, s_178_20, s_178_21, s_178_24, s_178_27, s_178_28, s_178_29, s_178_30, s_178_31, s_178_34, s_178_35, s_178_36, s_178_37, s_178_38, s_178_39, s_178_42, s_178_45, s_178_48, s_178_49, e_178, mv_i_1, mv_l_1, mv_a_1, mv_a_2, mv_a_3, mk2_n, mk2_i, mk2_l, mk2_a, mk2_u, mk2_x, mB_T, mB_F, mS_cons, mS_nil, mSB_T, mSB_F, mca_nil, mca_i, mca_l, mca_r, mca_u, mca_x, mcat_i, mcat_l, mcat_r, mcat_u, mcat_x, mK_some, mK_none, va_rf_s, va_rf_n, lgc_eq, lgc_lt, lgc_gt, lgc_ge, lgc_le, mrd_104, mrd_105, mrd_106, mrd_107, true_and, and_true, and_self, false_and, and_false, true_or, or_true, false_or, or_false, not_true_eq_false, not_false_eq_true, mgb, mga, mgr, mN, reduceCtorEq, ↓reduceIte, eq_self, ge_iff_le, gt_iff_lt, Nat.reduceAdd, Nat.reduceMul, Nat.reduceSub, Nat.reduceLT, Nat.reduceGT, Nat.reduceEqDiff, Nat.reduceLeDiff, Nat.left_eq_add, Nat.add_eq_left, Nat.reduceMod, Nat.reduceDiv, Nat.succ_ne_self, g, a1, a2, eb, p1, p2, k0, n1, e2, c', e1', p5]
      · rw [if_neg c]
        have c' := eq_false c
        simp (disch := omega) only [s_178_0, s_178_1, s_178_2, s_178_5, s_178_6, s_178_7, s_178_10, s_178_13, s_178_14, s_178_15, s_178_16, s_178_19, s_178_20, s_178_21, s_178_24, s_178_27, s_178_28, s_178_29, s_178_30, s_178_31, s_178_34, s_178_35, s_178_36, s_178_37, s_178_38, s_178_39, s_178_42, s_178_45, s_178_48, s_178_49, e_178, mv_i_1, mv_l_1, mv_a_1, mv_a_2, mv_a_3, mk2_n, mk2_i, mk2_l, mk2_a, mk2_u, mk2_x, mB_T, mB_F, mS_cons, mS_nil, mSB_T, mSB_F, mca_nil, mca_i, mca_l, mca_r, mca_u, mca_x, mcat_i, mcat_l, mcat_r, mcat_u, mcat_x, mK_some, mK_none, va_rf_s, va_rf_n, lgc_eq, lgc_lt, lgc_gt, lgc_ge, lgc_le, mrd_104, mrd_105, mrd_106, mrd_107, true_and, and_true, and_self, false_and, and_false, true_or, or_true, false_or, or_false, not_true_eq_false, not_false_eq_true, mgb, mga, mgr, mN, reduceCtorEq, ↓reduceIte, eq_self, ge_iff_le, gt_iff_lt, Nat.reduceAdd, Nat.reduceMul, Nat.reduceSub, Nat.reduceLT, Nat.reduceGT, Nat.reduceEqDiff, Nat.reduceLeDiff, Nat.left_eq_add, Nat.add_eq_left, Nat.reduceMod, Nat.reduceDiv, Nat.succ_ne_self, g, a1, eb, p1, p2, k0, n1, e2, c']
end TFs
