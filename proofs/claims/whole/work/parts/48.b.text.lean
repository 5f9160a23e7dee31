set_option maxRecDepth 100000
/-! THE TEXT: bytes, letters, digits, blanks, names, numbers, signs; the class's Tokens -/
def bt (B : Nat → Int32) (n i : Nat) : Int32 := if i < n then B i else -1
def isL (c : Int32) : Bool := if ¬ c < 97 ∧ c ≤ 122 then true else if ¬ c < 65 ∧ c ≤ 90 then true else decide (c = 95)
def isG (c : Int32) : Bool := if c < 48 then false else decide (¬ 57 < c)
def isB (c : Int32) : Bool := decide (c = 9 ∨ c = 10 ∨ c = 13 ∨ c = 32)
/-- behind blanks and remarks -/
def bl (B : Nat → Int32) (n : Nat) : Nat → Bool → Nat → Nat
  | 0, _, _ => n
  | f + 1, rem, i => if rem = true then bl B n f (decide (B i ≠ 10)) (i + 1) else if B i = 47 ∧ bt B n (i + 1) = 47 then bl B n f true (i + 1) else if isB (B i) = true then bl B n f false (i + 1) else i
/-- how many bytes from i on are such -/
def cw (p : Int32 → Bool) (B : Nat → Int32) : Nat → Nat → Nat
  | 0, _ => 0
  | f + 1, i => if p (B i) = true then cw p B f (i + 1) + 1 else 0
/-- a number's value, no further than needed -/
def nvl (B : Nat → Int32) : Nat → Nat → Int → Int
  | 0, _, v => v
  | f + 1, i, v => if isG (B i) = true ∧ v ≤ 2147483647 then nvl B f (i + 1) (10 * v + (B i).toInt - 48) else v
def s2 (b c : Int32) : Int32 := if c = 61 then (if b = 33 then 131 else if b = 60 then 128 else if b = 61 then 130 else if b = 62 then 129 else 1) else if b = 38 ∧ c = 38 then 132 else if b = 124 ∧ c = 124 then 133 else 1
theorem cw_le {p : Int32 → Bool} {B : Nat → Int32} : ∀ f i, cw p B f i ≤ f := by
  intro f
  induction f with
  | zero => exact fun i => Nat.le_refl _
  | succ f ih =>
    intro i
    show (if p (B i) = true then cw p B f (i + 1) + 1 else 0) ≤ f + 1
    have := ih (i + 1)
    split <;> omega
theorem bl_b {B : Nat → Int32} {n : Nat} : ∀ f r i, i + f = n → i ≤ bl B n f r i ∧ bl B n f r i ≤ n := by
  intro f
  induction f with
  | zero =>
    intro r i hi
    show i ≤ n ∧ n ≤ n
    omega
  | succ f ih =>
    intro r i hi
    show i ≤ (if r = true then bl B n f (decide (B i ≠ 10)) (i + 1) else if B i = 47 ∧ bt B n (i + 1) = 47 then bl B n f true (i + 1) else if isB (B i) = true then bl B n f false (i + 1) else i) ∧ (if r = true then bl B n f (decide (B i ≠ 10)) (i + 1) else if B i = 47 ∧ bt B n (i + 1) = 47 then bl B n f true (i + 1) else if isB (B i) = true then bl B n f false (i + 1) else i) ≤ n
    have a1 := ih (decide (B i ≠ 10)) (i + 1) (by omega)
    have a2 := ih true (i + 1) (by omega)
    have a3 := ih false (i + 1) (by omega)
    split
    · omega
    · split
      · omega
      · split <;> omega
theorem isG_b {c : Int32} (g : isG c = true) : 48 ≤ c.toInt ∧ c.toInt ≤ 57 := by
  unfold isG at g
  by_cases a : c < 48
  · rw [if_pos a] at g; cases g
  · rw [if_neg a] at g
    have b := of_decide_eq_true g
    rw [Int32.lt_iff_toInt_lt] at a b
    have e1 : (48 : Int32).toInt = 48 := rfl
    have e2 : (57 : Int32).toInt = 57 := rfl
    omega
abbrev TB (h : mh_H) (To X n : Nat) (B : Nat → Int32) : Prop := (mg h To 10) ∧ (mh_r h To 0 = some X) ∧ (mh_k h X = 102) ∧ (X < mh_n h) ∧ (mh_l h X = n) ∧ (n ≤ 16400) ∧ (∀ i, i < n → mh_i h X i &&& 255 = B i) ∧ (∀ i, i < n → ∃ m, m < 256 ∧ B i = Int32.ofNat m)
theorem TB.g {h : mh_H} {To X n : Nat} {B : Nat → Int32} (q : TB h To X n B) : mg h To 10 := q.1
theorem TB.r {h : mh_H} {To X n : Nat} {B : Nat → Int32} (q : TB h To X n B) : mh_r h To 0 = some X := q.2.1
theorem TB.k {h : mh_H} {To X n : Nat} {B : Nat → Int32} (q : TB h To X n B) : mh_k h X = 102 := q.2.2.1
theorem TB.x {h : mh_H} {To X n : Nat} {B : Nat → Int32} (q : TB h To X n B) : X < mh_n h := q.2.2.2.1
theorem TB.l {h : mh_H} {To X n : Nat} {B : Nat → Int32} (q : TB h To X n B) : mh_l h X = n := q.2.2.2.2.1
theorem TB.n {h : mh_H} {To X n : Nat} {B : Nat → Int32} (q : TB h To X n B) : n ≤ 16400 := q.2.2.2.2.2.1
theorem TB.b {h : mh_H} {To X n : Nat} {B : Nat → Int32} (q : TB h To X n B) : ∀ i, i < n → mh_i h X i &&& 255 = B i := q.2.2.2.2.2.2.1
theorem TB.v {h : mh_H} {To X n : Nat} {B : Nat → Int32} (q : TB h To X n B) : ∀ i, i < n → ∃ m, m < 256 ∧ B i = Int32.ofNat m := q.2.2.2.2.2.2.2
section TBs
variable {d : Nat} {h : mh_H} {To X n : Nat} {B : Nat → Int32}
theorem c_172 (c : Int32) : ∀ Q, mcall d 172 [.int c] h Q = Q (some (.int (kb (isL c)))) h := by
  intro Q
  have k1 : kb true = 1 := rfl
  have k0 : kb false = 0 := rfl
  have t0 : (decide False) = false := rfl
  have t1 : (decide True) = true := rfl
  rcases Classical.propComplete (c < 97) with a1 | a1 <;> rcases Classical.propComplete (c ≤ 122) with a2 | a2 <;> rcases Classical.propComplete (c < 65) with a3 | a3 <;> rcases Classical.propComplete (c ≤ 90) with a4 | a4 <;> rcases Classical.propComplete (c = 95) with a5 | a5 <;> simp only [s_172_0, s_172_1, s_172_3, s_172_6, s_172_7, s_172_9, s_172_12, s_172_13, s_172_15, s_172_18, s_172_19, s_172_21, s_172_24, s_172_25, s_172_27, s_172_30, s_172_31, s_172_34, s_172_35, e_172, mv_i_1, mv_l_1, mv_a_1, mv_a_2, mv_a_3, mk2_n, mk2_i, mk2_l, mk2_a, mk2_u, mk2_x, mB_T, mB_F, mS_cons, mS_nil, mSB_T, mSB_F, mca_nil, mca_i, mca_l, mca_r, mca_u, mca_x, mcat_i, mcat_l, mcat_r, mcat_u, mcat_x, mK_some, mK_none, va_rf_s, va_rf_n, lgc_eq, lgc_lt, lgc_gt, lgc_ge, lgc_le, mrd_104, mrd_105, mrd_106, mrd_107, true_and, and_true, and_self, false_and, and_false, true_or, or_true, false_or, or_false, not_true_eq_false, not_false_eq_true, mgb, mga, mgr, mN, reduceCtorEq, ↓reduceIte, eq_self, ge_iff_le, gt_iff_lt, isL, a1, a2, a3, a4, a5, k1, k0, t0, t1, if_true, if_false]
theorem c_173 (c : Int32) : ∀ Q, mcall d 173 [.int c] h Q = Q (some (.int (kb (isG c)))) h := by
  intro Q
  have k1 : kb true = 1 := rfl
  have k0 : kb false = 0 := rfl
  have t0 : (decide False) = false := rfl
  have t1 : (decide True) = true := rfl
  rcases Classical.propComplete (c < 48) with a1 | a1 <;> rcases Classical.propComplete (57 < c) with a2 | a2 <;> simp only [s_173_0, s_173_1, s_173_3, s_173_6, s_173_7, s_173_9, s_173_12, s_173_13, s_173_16, s_173_17, e_173, mv_i_1, mv_l_1, mv_a_1, mv_a_2, mv_a_3, mk2_n, mk2_i, mk2_l, mk2_a, mk2_u, mk2_x, mB_T, mB_F, mS_cons, mS_nil, mSB_T, mSB_F, mca_nil, mca_i, mca_l, mca_r, mca_u, mca_x, mcat_i, mcat_l, mcat_r, mcat_u, mcat_x, mK_some, mK_none, va_rf_s, va_rf_n, lgc_eq, lgc_lt, lgc_gt, lgc_ge, lgc_le, mrd_104, mrd_105, mrd_106, mrd_107, true_and, and_true, and_self, false_and, and_false, true_or, or_true, false_or, or_false, not_true_eq_false, not_false_eq_true, mgb, mga, mgr, mN, reduceCtorEq, ↓reduceIte, eq_self, ge_iff_le, gt_iff_lt, isG, a1, a2, k1, k0, t0, t1, if_true, if_false]
theorem c_179 (b c : Int32) : ∀ Q, mcall d 179 [.int b, .int c] h Q = Q (some (.int (s2 b c))) h := by
  intro Q
  rcases Classical.propComplete (c = 61) with a1 | a1
  · rcases Classical.propComplete (b = 33) with b1 | b1
    · simp only [s_179_0, s_179_1, s_179_3, s_179_6, s_179_7, s_179_48, s_179_51, s_179_52, s_179_55, s_179_56, s_179_59, s_179_60, s_179_63, s_179_64, s_179_65, s_179_66, s_179_67, s_179_69, s_179_72, s_179_73, s_179_75, s_179_78, s_179_81, s_179_82, s_179_83, s_179_85, s_179_88, s_179_89, s_179_91, s_179_94, s_179_97, s_179_100, s_179_101, e_179, mv_i_1, mv_l_1, mv_a_1, mv_a_2, mv_a_3, mk2_n, mk2_i, mk2_l, mk2_a, mk2_u, mk2_x, mB_T, mB_F, mS_cons, mS_nil, mSB_T, mSB_F, mca_nil, mca_i, mca_l, mca_r, mca_u, mca_x, mcat_i, mcat_l, mcat_r, mcat_u, mcat_x, mK_some, mK_none, va_rf_s, va_rf_n, lgc_eq, lgc_lt, lgc_gt, lgc_ge, lgc_le, mrd_104, mrd_105, mrd_106, mrd_107, true_and, and_true, and_self, false_and, and_false, true_or, or_true, false_or, or_false, not_true_eq_false, not_false_eq_true, mgb, mga, mgr, mN, reduceCtorEq, ↓reduceIte, eq_self, ge_iff_le, gt_iff_lt, s2, a1, b1, if_true, if_false]
    · rcases Classical.propComplete (b = 60) with b2 | b2
      · simp only [s_179_0, s_179_1, s_179_3, s_179_6, s_179_7, s_179_48, s_179_51, s_179_52, s_179_55, s_179_56, s_179_59, s_179_60, s_179_63, s_179_64, s_179_65, s_179_66, s_179_67, s_179_69, s_179_72, s_179_73, s_179_75, s_179_78, s_179_81, s_179_82, s_179_83, s_179_85, s_179_88, s_179_89, s_179_91, s_179_94, s_179_97, s_179_100, s_179_101, e_179, mv_i_1, mv_l_1, mv_a_1, mv_a_2, mv_a_3, mk2_n, mk2_i, mk2_l, mk2_a, mk2_u, mk2_x, mB_T, mB_F, mS_cons, mS_nil, mSB_T, mSB_F, mca_nil, mca_i, mca_l, mca_r, mca_u, mca_x, mcat_i, mcat_l, mcat_r, mcat_u, mcat_x, mK_some, mK_none, va_rf_s, va_rf_n, lgc_eq, lgc_lt, lgc_gt, lgc_ge, lgc_le, mrd_104, mrd_105, mrd_106, mrd_107, true_and, and_true, and_self, false_and, and_false, true_or, or_true, false_or, or_false, not_true_eq_false, not_false_eq_true, mgb, mga, mgr, mN, reduceCtorEq, ↓reduceIte, eq_self, ge_iff_le, gt_iff_lt, s2, a1, b1, b2, if_true, if_false]
      · rcases Classical.propComplete (b = 61) with b3 | b3
        · simp only [s_179_0, s_179_1, s_179_3, s_179_6, s_179_7, s_179_48, s_179_51, s_179_52, s_179_55, s_179_56, s_179_59, s_179_60, s_179_63, s_179_64, s_179_65, s_179_66, s_179_67, s_179_69, s_179_72, s_179_73, s_179_75, s_179_78, s_179_81, s_179_82, s_179_83, s_179_85, s_179_88, s_179_89, s_179_91, s_179_94, s_179_97, s_179_100, s_179_101, e_179, mv_i_1, mv_l_1, mv_a_1, mv_a_2, mv_a_3, mk2_n, mk2_i, mk2_l, mk2_a, mk2_u, mk2_x, mB_T, mB_F, mS_cons, mS_nil, mSB_T, mSB_F, mca_nil, mca_i, mca_l, mca_r, mca_u, mca_x, mcat_i, mcat_l, mcat_r, mcat_u, mcat_x, mK_some, mK_none, va_rf_s, va_rf_n, lgc_eq, lgc_lt, lgc_gt, lgc_ge, lgc_le, mrd_104, mrd_105, mrd_106, mrd_107, true_and, and_true, and_self, false_and, and_false, true_or, or_true, false_or, or_false, not_true_eq_false, not_false_eq_true, mgb, mga, mgr, mN, reduceCtorEq, ↓reduceIte, eq_self, ge_iff_le, gt_iff_lt, s2, a1, b1, b2, b3, if_true, if_false]
        · rcases Classical.propComplete (b = 62) with b4 | b4 <;> simp only [s_179_0, s_179_1, s_179_3, s_179_6, s_179_7, s_179_48, s_179_51, s_179_52, s_179_55, s_179_56, s_179_59, s_179_60, s_179_63, s_179_64, s_179_65, s_179_66, s_179_67, s_179_69, s_179_72, s_179_73, s_179_75, s_179_78, s_179_81, s_179_82, s_179_83, s_179_85, s_179_88, s_179_89, s_179_91, s_179_94, s_179_97, s_179_100, s_179_101, e_179, mv_i_1, mv_l_1, mv_a_1, mv_a_2, mv_a_3, mk2_n, mk2_i, mk2_l, mk2_a, mk2_u, mk2_x, mB_T, mB_F, mS_cons, mS_nil, mSB_T, mSB_F, mca_nil, mca_i, mca_l, mca_r, mca_u, mca_x, mcat_i, mcat_l, mcat_r, mcat_u, mcat_x, mK_some, mK_none, va_rf_s, va_rf_n, lgc_eq, lgc_lt, lgc_gt, lgc_ge, lgc_le, mrd_104, mrd_105, mrd_106, mrd_107, true_and, and_true, and_self, false_and, and_false, true_or, or_true, false_or, or_false, not_true_eq_false, not_false_eq_true, mgb, mga, mgr, mN, reduceCtorEq, ↓reduceIte, eq_self, ge_iff_le, gt_iff_lt, s2, a1, b1, b2, b3, b4, if_true, if_false]
  · rcases Classical.propComplete (b = 38) with b1 | b1 <;> rcases Classical.propComplete (c = 38) with b2 | b2 <;> rcases Classical.propComplete (b = 124) with b3 | b3 <;> rcases Classical.propComplete (c = 124) with b4 | b4 <;> simp only [s_179_0, s_179_1, s_179_3, s_179_6, s_179_7, s_179_48, s_179_51, s_179_52, s_179_55, s_179_56, s_179_59, s_179_60, s_179_63, s_179_64, s_179_65, s_179_66, s_179_67, s_179_69, s_179_72, s_179_73, s_179_75, s_179_78, s_179_81, s_179_82, s_179_83, s_179_85, s_179_88, s_179_89, s_179_91, s_179_94, s_179_97, s_179_100, s_179_101, e_179, mv_i_1, mv_l_1, mv_a_1, mv_a_2, mv_a_3, mk2_n, mk2_i, mk2_l, mk2_a, mk2_u, mk2_x, mB_T, mB_F, mS_cons, mS_nil, mSB_T, mSB_F, mca_nil, mca_i, mca_l, mca_r, mca_u, mca_x, mcat_i, mcat_l, mcat_r, mcat_u, mcat_x, mK_some, mK_none, va_rf_s, va_rf_n, lgc_eq, lgc_lt, lgc_gt, lgc_ge, lgc_le, mrd_104, mrd_105, mrd_106, mrd_107, true_and, and_true, and_self, false_and, and_false, true_or, or_true, false_or, or_false, not_true_eq_false, not_false_eq_true, mgb, mga, mgr, mN, reduceCtorEq, ↓reduceIte, eq_self, ge_iff_le, gt_iff_lt, s2, a1, b1, b2, b3, b4, if_true, if_false]
theorem c_170 (T : TB h To X n B) {i : Nat} (hi : i < 1000000) : ∀ Q, mcall d 170 [.ref To, .int (Int32.ofNat i)] h Q = Q (some (.int (bt B n i))) h := by
  intro Q
  have g := T.g
  have r := T.r
  have k := T.k
  have x := T.x
  have l := T.l
  have hn := T.n
  by_cases c : i < n
  · have e := T.b i c
    have c' : (n ≤ i) = False := eq_false (by omega)
    have eb : bt B n i = B i := if_pos c
    clear T
    simp (disch := omega) only [s_170_0, s_170_1, s_170_4, s_170_5, s_170_6, s_170_9, s_170_10, s_170_13, s_170_14, s_170_17, s_170_18, s_170_19, s_170_22, s_170_23, s_170_26, s_170_27, e_170, mv_i_1, mv_l_1, mv_a_1, mv_a_2, mv_a_3, mk2_n, mk2_i, mk2_l, mk2_a, mk2_u, mk2_x, mB_T, mB_F, mS_cons, mS_nil, mSB_T, mSB_F, mca_nil, mca_i, mca_l, mca_r, mca_u, mca_x, mcat_i, mcat_l, mcat_r, mcat_u, mcat_x, mK_some, mK_none, va_rf_s, va_rf_n, lgc_eq, lgc_lt, lgc_gt, lgc_ge, lgc_le, mrd_104, mrd_105, mrd_106, mrd_107, true_and, and_true, and_self, false_and, and_false, true_or, or_true, false_or, or_false, not_true_eq_false, not_false_eq_true, mgb, mga, mgr, mN, reduceCtorEq, ↓reduceIte, eq_self, ge_iff_le, gt_iff_lt, Nat.reduceAdd, Nat.reduceMul, Nat.reduceSub, Nat.reduceLT, Nat.reduceGT, Nat.reduceEqDiff, Nat.reduceLeDiff, Nat.left_eq_add, Nat.add_eq_left, Nat.reduceMod, Nat.reduceDiv, Nat.succ_ne_self, g, r, k, x, l, nn_neg, nn_le, c', nn_mxT, nn_clamp, e, eb]
  · have c' : (n ≤ i) = True := eq_true (by omega)
    have eb : bt B n i = -1 := if_neg c
    clear T
    simp (disch := omega) only [s_170_0, s_170_1, s_170_4, s_170_5, s_170_6, s_170_9, s_170_10, s_170_13, s_170_14, s_170_17, s_170_18, s_170_19, s_170_22, s_170_23, s_170_26, s_170_27, e_170, mv_i_1, mv_l_1, mv_a_1, mv_a_2, mv_a_3, mk2_n, mk2_i, mk2_l, mk2_a, mk2_u, mk2_x, mB_T, mB_F, mS_cons, mS_nil, mSB_T, mSB_F, mca_nil, mca_i, mca_l, mca_r, mca_u, mca_x, mcat_i, mcat_l, mcat_r, mcat_u, mcat_x, mK_some, mK_none, va_rf_s, va_rf_n, lgc_eq, lgc_lt, lgc_gt, lgc_ge, lgc_le, mrd_104, mrd_105, mrd_106, mrd_107, true_and, and_true, and_self, false_and, and_false, true_or, or_true, false_or, or_false, not_true_eq_false, not_false_eq_true, mgb, mga, mgr, mN, reduceCtorEq, ↓reduceIte, eq_self, ge_iff_le, gt_iff_lt, Nat.reduceAdd, Nat.reduceMul, Nat.reduceSub, Nat.reduceLT, Nat.reduceGT, Nat.reduceEqDiff, Nat.reduceLeDiff, Nat.left_eq_add, Nat.add_eq_left, Nat.reduceMod, Nat.reduceDiv, Nat.succ_ne_self, g, r, k, x, l, nn_neg, nn_le, c', nn_clamp, eb]
/-- behindBlanks -/
theorem l_171 (T : TB h To X n B) {x1 : Int32} : ∀ f i (r : Bool) (x4 : Option Value), i + f = n → ∀ Q, mw (d + 1) 171 Q 4 [some (.ref To), some (.int x1), some (.int (kb r)), some (.int (Int32.ofNat i)), x4] [] h = Q (some (.int (Int32.ofNat (bl B n f r i)))) h := by
  have g := T.g
  have rr := T.r
  have k := T.k
  have x := T.x
  have l := T.l
  have hn := T.n
  have k1 : kb true = 1 := rfl
  have k0 : kb false = 0 := rfl
  have n1 : ((1 : Int32) = 0) = False := by decide
  have e1' : ∀ k, Int32.ofNat k + 1 = Int32.ofNat (k + 1) := fun k => nn_add (a := k) (b := 1)
  intro f
  induction f with
  | zero =>
    intro i r x4 hi Q
    have c' : (n ≤ i) = True := eq_true (by omega)
    have e : bl B n 0 r i = n := rfl
    clear T
    simp (disch := omega) only [s_171_0, s_171_1, s_171_2, s_171_3, s_171_4, s_171_5, s_171_6, s_171_9, s_171_10, s_171_13, s_171_14, s_171_15, s_171_18, s_171_20, s_171_21, s_171_24, s_171_26, s_171_28, s_171_31, s_171_32, s_171_35, s_171_36, s_171_37, s_171_40, s_171_42, s_171_44, s_171_47, s_171_48, s_171_49, s_171_50, s_171_51, s_171_54, s_171_56, s_171_59, s_171_60, s_171_61, s_171_64, s_171_66, s_171_68, s_171_71, s_171_73, s_171_75, s_171_78, s_171_80, s_171_82, s_171_85, s_171_87, s_171_89, s_171_92, s_171_93, s_171_94, s_171_97, s_171_100, s_171_101, s_171_104, s_171_105, e_171, mv_i_1, mv_l_1, mv_a_1, mv_a_2, mv_a_3, mk2_n, mk2_i, mk2_l, mk2_a, mk2_u, mk2_x, mB_T, mB_F, mS_cons, mS_nil, mSB_T, mSB_F, mca_nil, mca_i, mca_l, mca_r, mca_u, mca_x, mcat_i, mcat_l, mcat_r, mcat_u, mcat_x, mK_some, mK_none, va_rf_s, va_rf_n, lgc_eq, lgc_lt, lgc_gt, lgc_ge, lgc_le, mrd_104, mrd_105, mrd_106, mrd_107, true_and, and_true, and_self, false_and, and_false, true_or, or_true, false_or, or_false, not_true_eq_false, not_false_eq_true, mgb, mga, mgr, mN, reduceCtorEq, ↓reduceIte, eq_self, ge_iff_le, gt_iff_lt, Nat.reduceAdd, Nat.reduceMul, Nat.reduceSub, Nat.reduceLT, Nat.reduceGT, Nat.reduceEqDiff, Nat.reduceLeDiff, Nat.left_eq_add, Nat.add_eq_left, Nat.reduceMod, Nat.reduceDiv, Nat.succ_ne_self, g, rr, k, x, l, nn_le, c', e]
  | succ f ih =>
    intro i r x4 hi Q
    have c' : (n ≤ i) = False := eq_false (by omega)
    have a1 := c_170 (d := d) T (i := i) (by omega)
    have a2 := c_170 (d := d) T (i := i + 1) (by omega)
    have eb : bt B n i = B i := if_pos (by omega)
    have e : bl B n (f + 1) r i = (if r = true then bl B n f (decide (B i ≠ 10)) (i + 1) else if B i = 47 ∧ bt B n (i + 1) = 47 then bl B n f true (i + 1) else if isB (B i) = true then bl B n f false (i + 1) else i) := rfl
    rw [e]
    cases r with
    | true =>
      rw [if_pos rfl, ← ih (i + 1) (decide (B i ≠ 10)) (some (.int (B i))) (by omega) Q]
      clear T ih e
      by_cases b : B i = 10
      · rw [show decide (B i ≠ 10) = false from decide_eq_false (fun z => z b)]
        rw [s_171_4]
        simp (disch := omega) only [s_171_0, s_171_1, s_171_2, s_171_3, s_171_5, s_171_6, s_171_9, s_171_10, s_171_13, s_171_14, s_171_15, s_171_18, s_171_20, s_171_21, s_171_24, s_171_26, s_171_28, s_171_31, s_171_32, s_171_35, s_171_36, s_171_37, s_171_40, s_171_42, s_171_44, s_171_47, s_171_48, s_171_49, s_171_50, s_171_51, s_171_54, s_171_56, s_171_59, s_171_60, s_171_61, s_171_64, s_171_66, s_171_68, s_171_71, s_171_73, s_171_75, s_171_78, s_171_80, s_171_82, s_171_85, s_171_87, s_171_89, s_171_92, s_171_93, s_171_94, s_171_97, s_171_100, s_171_101, s_171_104, s_171_105, e_171, mv_i_1, mv_l_1, mv_a_1, mv_a_2, mv_a_3, mk2_n, mk2_i, mk2_l, mk2_a, mk2_u, mk2_x, mB_T, mB_F, mS_cons, mS_nil, mSB_T, mSB_F, mca_nil, mca_i, mca_l, mca_r, mca_u, mca_x, mcat_i, mcat_l, mcat_r, mcat_u, mcat_x, mK_some, mK_none, va_rf_s, va_rf_n, lgc_eq, lgc_lt, lgc_gt, lgc_ge, lgc_le, mrd_104, mrd_105, mrd_106, mrd_107, true_and, and_true, and_self, false_and, and_false, true_or, or_true, false_or, or_false, not_true_eq_false, not_false_eq_true, mgb, mga, mgr, mN, reduceCtorEq, ↓reduceIte, eq_self, ge_iff_le, gt_iff_lt, Nat.reduceAdd, Nat.reduceMul, Nat.reduceSub, Nat.reduceLT, Nat.reduceGT, Nat.reduceEqDiff, Nat.reduceLeDiff, Nat.left_eq_add, Nat.add_eq_left, Nat.reduceMod, Nat.reduceDiv, Nat.succ_ne_self, g, rr, k, x, l, nn_le, c', a1, eb, k1, k0, n1, b, e1']
      · rw [show decide (B i ≠ 10) = true from decide_eq_true b]
        rw [s_171_4]
        simp (disch := omega) only [s_171_0, s_171_1, s_171_2, s_171_3, s_171_5, s_171_6, s_171_9, s_171_10, s_171_13, s_171_14, s_171_15, s_171_18, s_171_20, s_171_21, s_171_24, s_171_26, s_171_28, s_171_31, s_171_32, s_171_35, s_171_36, s_171_37, s_171_40, s_171_42, s_171_44, s_171_47, s_171_48, s_171_49, s_171_50, s_171_51, s_171_54, s_171_56, s_171_59, s_171_60, s_171_61, s_171_64, s_171_66, s_171_68, s_171_71, s_171_73, s_171_75, s_171_78, s_171_80, s_171_82, s_171_85, s_171_87, s_171_89, s_171_92, s_171_93, s_171_94, s_171_97, s_171_100, s_171_101, s_171_104, s_171_105, e_171, mv_i_1, mv_l_1, mv_a_1, mv_a_2, mv_a_3, mk2_n, mk2_i, mk2_l, mk2_a, mk2_u, mk2_x, mB_T, mB_F, mS_cons, mS_nil, mSB_T, mSB_F, mca_nil, mca_i, mca_l, mca_r, mca_u, mca_x, mcat_i, mcat_l, mcat_r, mcat_u, mcat_x, mK_some, mK_none, va_rf_s, va_rf_n, lgc_eq, lgc_lt, lgc_gt, lgc_ge, lgc_le, mrd_104, mrd_105, mrd_106, mrd_107, true_and, and_true, and_self, false_and, and_false, true_or, or_true, false_or, or_false, not_true_eq_false, not_false_eq_true, mgb, mga, mgr, mN, reduceCtorEq, ↓reduceIte, eq_self, ge_iff_le, gt_iff_lt, Nat.reduceAdd, Nat.reduceMul, Nat.reduceSub, Nat.reduceLT, Nat.reduceGT, Nat.reduceEqDiff, Nat.reduceLeDiff, Nat.left_eq_add, Nat.add_eq_left, Nat.reduceMod, Nat.reduceDiv, Nat.succ_ne_self, g, rr, k, x, l, nn_le, c', a1, eb, k1, k0, n1, b, e1']
    | false =>
      rw [if_neg (by decide)]
      by_cases b : B i = 47 ∧ bt B n (i + 1) = 47
      · rw [if_pos b, ← ih (i + 1) true (some (.int (B i))) (by omega) Q]
        obtain ⟨b1, b2⟩ := b
        clear T ih e
        rw [s_171_4]
        simp (disch := omega) only [s_171_0, s_171_1, s_171_2, s_171_3, s_171_5, s_171_6, s_171_9, s_171_10, s_171_13, s_171_14, s_171_15, s_171_18, s_171_20, s_171_21, s_171_24, s_171_26, s_171_28, s_171_31, s_171_32, s_171_35, s_171_36, s_171_37, s_171_40, s_171_42, s_171_44, s_171_47, s_171_48, s_171_49, s_171_50, s_171_51, s_171_54, s_171_56, s_171_59, s_171_60, s_171_61, s_171_64, s_171_66, s_171_68, s_171_71, s_171_73, s_171_75, s_171_78, s_171_80, s_171_82, s_171_85, s_171_87, s_171_89, s_171_92, s_171_93, s_171_94, s_171_97, s_171_100, s_171_101, s_171_104, s_171_105, e_171, mv_i_1, mv_l_1, mv_a_1, mv_a_2, mv_a_3, mk2_n, mk2_i, mk2_l, mk2_a, mk2_u, mk2_x, mB_T, mB_F, mS_cons, mS_nil, mSB_T, mSB_F, mca_nil, mca_i, mca_l, mca_r, mca_u, mca_x, mcat_i, mcat_l, mcat_r, mcat_u, mcat_x, mK_some, mK_none, va_rf_s, va_rf_n, lgc_eq, lgc_lt, lgc_gt, lgc_ge, lgc_le, mrd_104, mrd_105, mrd_106, mrd_107, true_and, and_true, and_self, false_and, and_false, true_or, or_true, false_or, or_false, not_true_eq_false, not_false_eq_true, mgb, mga, mgr, mN, reduceCtorEq, ↓reduceIte, eq_self, ge_iff_le, gt_iff_lt, Nat.reduceAdd, Nat.reduceMul, Nat.reduceSub, Nat.reduceLT, Nat.reduceGT, Nat.reduceEqDiff, Nat.reduceLeDiff, Nat.left_eq_add, Nat.add_eq_left, Nat.reduceMod, Nat.reduceDiv, Nat.succ_ne_self, g, rr, k, x, l, nn_le, c', a1, a2, eb, k1, k0, b1, b2, e1']
      · rw [if_neg b]
        by_cases q : isB (B i) = true
        · rw [if_pos q, ← ih (i + 1) false (some (.int (B i))) (by omega) Q]
          have q' := of_decide_eq_true q
          clear T ih e
          have n47 : B i ≠ 47 := fun z => by rw [z] at q'; revert q'; decide
          rw [s_171_4]
          rcases q' with q' | q' | q' | q' <;> simp (disch := omega) only [s_171_0, s_171_1, s_171_2, s_171_3, s_171_5, s_171_6, s_171_9, s_171_10, s_171_13, s_171_14, s_171_15, s_171_18, s_171_20, s_171_21, s_171_24, s_171_26, s_171_28, s_171_31, s_171_32, s_171_35, s_171_36, s_171_37, s_171_40, s_171_42, s_171_44, s_171_47, s_171_48, s_171_49, s_171_50, s_171_51, s_171_54, s_171_56, s_171_59, s_171_60, s_171_61, s_171_64, s_171_66, s_171_68, s_171_71, s_171_73, s_171_75, s_171_78, s_171_80, s_171_82, s_171_85, s_171_87, s_171_89, s_171_92, s_171_93, s_171_94, s_171_97, s_171_100, s_171_101, s_171_104, s_171_105, e_171, mv_i_1, mv_l_1, mv_a_1, mv_a_2, mv_a_3, mk2_n, mk2_i, mk2_l, mk2_a, mk2_u, mk2_x, mB_T, mB_F, mS_cons, mS_nil, mSB_T, mSB_F, mca_nil, mca_i, mca_l, mca_r, mca_u, mca_x, mcat_i, mcat_l, mcat_r, mcat_u, mcat_x, mK_some, mK_none, va_rf_s, va_rf_n, lgc_eq, lgc_lt, lgc_gt, lgc_ge, lgc_le, mrd_104, mrd_105, mrd_106, mrd_107, true_and, and_true, and_self, false_and, and_false, true_or, or_true, false_or, or_false, not_true_eq_false, not_false_eq_true, mgb, mga, mgr, mN, reduceCtorEq, ↓reduceIte, eq_self, ge_iff_le, gt_iff_lt, Nat.reduceAdd, Nat.reduceMul, Nat.reduceSub, Nat.reduceLT, Nat.reduceGT, Nat.reduceEqDiff, Nat.reduceLeDiff, Nat.left_eq_add, Nat.add_eq_left, Nat.reduceMod, Nat.reduceDiv, Nat.succ_ne_self, g, rr, k, x, l, nn_le, c', a1, a2, eb, k1, k0, n47, q', e1', show ((10 : Int32) = 9) = False from by decide, show ((13 : Int32) = 9) = False from by decide, show ((32 : Int32) = 9) = False from by decide, show ((13 : Int32) = 10) = False from by decide, show ((32 : Int32) = 10) = False from by decide, show ((32 : Int32) = 13) = False from by decide, show ((9 : Int32) = 47) = False from by decide, show ((10 : Int32) = 47) = False from by decide, show ((13 : Int32) = 47) = False from by decide, show ((32 : Int32) = 47) = False from by decide]
        · rw [if_neg q]
          have q' : ¬ (B i = 9 ∨ B i = 10 ∨ B i = 13 ∨ B i = 32) := fun z => q (decide_eq_true z)
          have q1 : B i ≠ 9 := fun z => q' (Or.inl z)
          have q2 : B i ≠ 10 := fun z => q' (Or.inr (Or.inl z))
          have q3 : B i ≠ 13 := fun z => q' (Or.inr (Or.inr (Or.inl z)))
          have q4 : B i ≠ 32 := fun z => q' (Or.inr (Or.inr (Or.inr z)))
          clear T ih e
          by_cases b1 : B i = 47
          · have b2 : bt B n (i + 1) ≠ 47 := fun z => b ⟨b1, z⟩
            rw [s_171_4]
            simp (disch := omega) only [s_171_0, s_171_1, s_171_2, s_171_3, s_171_5, s_171_6, s_171_9, s_171_10, s_171_13, s_171_14, s_171_15, s_171_18, s_171_20, s_171_21, s_171_24, s_171_26, s_171_28, s_171_31, s_171_32, s_171_35, s_171_36, s_171_37, s_171_40, s_171_42, s_171_44, s_171_47, s_171_48, s_171_49, s_171_50, s_171_51, s_171_54, s_171_56, s_171_59, s_171_60, s_171_61, s_171_64, s_171_66, s_171_68, s_171_71, s_171_73, s_171_75, s_171_78, s_171_80, s_171_82, s_171_85, s_171_87, s_171_89, s_171_92, s_171_93, s_171_94, s_171_97, s_171_100, s_171_101, s_171_104, s_171_105, e_171, mv_i_1, mv_l_1, mv_a_1, mv_a_2, mv_a_3, mk2_n, mk2_i, mk2_l, mk2_a, mk2_u, mk2_x, mB_T, mB_F, mS_cons, mS_nil, mSB_T, mSB_F, mca_nil, mca_i, mca_l, mca_r, mca_u, mca_x, mcat_i, mcat_l, mcat_r, mcat_u, mcat_x, mK_some, mK_none, va_rf_s, va_rf_n, lgc_eq, lgc_lt, lgc_gt, lgc_ge, lgc_le, mrd_104, mrd_105, mrd_106, mrd_107, true_and, and_true, and_self, false_and, and_false, true_or, or_true, false_or, or_false, not_true_eq_false, not_false_eq_true, mgb, mga, mgr, mN, reduceCtorEq, ↓reduceIte, eq_self, ge_iff_le, gt_iff_lt, Nat.reduceAdd, Nat.reduceMul, Nat.reduceSub, Nat.reduceLT, Nat.reduceGT, Nat.reduceEqDiff, Nat.reduceLeDiff, Nat.left_eq_add, Nat.add_eq_left, Nat.reduceMod, Nat.reduceDiv, Nat.succ_ne_self, g, rr, k, x, l, nn_le, c', a1, a2, eb, k1, k0, b1, b2, e1', show ((47 : Int32) = 9) = False from by decide, show ((47 : Int32) = 10) = False from by decide, show ((47 : Int32) = 13) = False from by decide, show ((47 : Int32) = 32) = False from by decide]
          · rw [s_171_4]
            simp (disch := omega) only [s_171_0, s_171_1, s_171_2, s_171_3, s_171_5, s_171_6, s_171_9, s_171_10, s_171_13, s_171_14, s_171_15, s_171_18, s_171_20, s_171_21, s_171_24, s_171_26, s_171_28, s_171_31, s_171_32, s_171_35, s_171_36, s_171_37, s_171_40, s_171_42, s_171_44, s_171_47, s_171_48, s_171_49, s_171_50, s_171_51, s_171_54, s_171_56, s_171_59, s_171_60, s_171_61, s_171_64, s_171_66, s_171_68, s_171_71, s_171_73, s_171_75, s_171_78, s_171_80, s_171_82, s_171_85, s_171_87, s_171_89, s_171_92, s_171_93, s_171_94, s_171_97, s_171_100, s_171_101, s_171_104, s_171_105, e_171, mv_i_1, mv_l_1, mv_a_1, mv_a_2, mv_a_3, mk2_n, mk2_i, mk2_l, mk2_a, mk2_u, mk2_x, mB_T, mB_F, mS_cons, mS_nil, mSB_T, mSB_F, mca_nil, mca_i, mca_l, mca_r, mca_u, mca_x, mcat_i, mcat_l, mcat_r, mcat_u, mcat_x, mK_some, mK_none, va_rf_s, va_rf_n, lgc_eq, lgc_lt, lgc_gt, lgc_ge, lgc_le, mrd_104, mrd_105, mrd_106, mrd_107, true_and, and_true, and_self, false_and, and_false, true_or, or_true, false_or, or_false, not_true_eq_false, not_false_eq_true, mgb, mga, mgr, mN, reduceCtorEq, ↓reduceIte, eq_self, ge_iff_le, gt_iff_lt, Nat.reduceAdd, Nat.reduceMul, Nat.reduceSub, Nat.reduceLT, Nat.reduceGT, Nat.reduceEqDiff, Nat.reduceLeDiff, Nat.left_eq_add, Nat.add_eq_left, Nat.reduceMod, Nat.reduceDiv, Nat.succ_ne_self, g, rr, k, x, l, nn_le, c', a1, a2, eb, k1, k0, b1, q1, q2, q3, q4, e1']
theorem c_171 (T : TB h To X n B) {i : Nat} (hi : i ≤ n) : ∀ Q, mcall (d + 1) 171 [.ref To, .int (Int32.ofNat i)] h Q = Q (some (.int (Int32.ofNat (bl B n (n - i) false i)))) h := fun Q => by
  have k0 : kb false = 0 := rfl
  rw [← l_171 (d := d) T (x1 := Int32.ofNat i) (n - i) i false none (by omega) Q, k0]
  clear T
  simp only [s_171_0, s_171_1, s_171_2, s_171_3, s_171_5, s_171_6, s_171_9, s_171_10, s_171_13, s_171_14, s_171_15, s_171_18, s_171_20, s_171_21, s_171_24, s_171_26, s_171_28, s_171_31, s_171_32, s_171_35, s_171_36, s_171_37, s_171_40, s_171_42, s_171_44, s_171_47, s_171_48, s_171_49, s_171_50, s_171_51, s_171_54, s_171_56, s_171_59, s_171_60, s_171_61, s_171_64, s_171_66, s_171_68, s_171_71, s_171_73, s_171_75, s_171_78, s_171_80, s_171_82, s_171_85, s_171_87, s_171_89, s_171_92, s_171_93, s_171_94, s_171_97, s_171_100, s_171_101, s_171_104, s_171_105, e_171, mv_i_1, mv_l_1, mv_a_1, mv_a_2, mv_a_3, mk2_n, mk2_i, mk2_l, mk2_a, mk2_u, mk2_x, mB_T, mB_F, mS_cons, mS_nil, mSB_T, mSB_F, mca_nil, mca_i, mca_l, mca_r, mca_u, mca_x, mcat_i, mcat_l, mcat_r, mcat_u, mcat_x, mK_some, mK_none, va_rf_s, va_rf_n, lgc_eq, lgc_lt, lgc_gt, lgc_ge, lgc_le, mrd_104, mrd_105, mrd_106, mrd_107, true_and, and_true, and_self, false_and, and_false, true_or, or_true, false_or, or_false, not_true_eq_false, not_false_eq_true, mgb, mga, mgr, mN, reduceCtorEq, ↓reduceIte, eq_self, ge_iff_le, gt_iff_lt]
/-- nameWidth -/
theorem l_175 (T : TB h To X n B) {j : Nat} : ∀ f i (x3 : Option Value), i + f = n → j ≤ i → ∀ Q, mw (d + 1) 175 Q 2 [some (.ref To), some (.int (Int32.ofNat j)), some (.int (Int32.ofNat i)), x3] [] h = Q (some (.int (Int32.ofNat (i - j + cw (fun c => isL c || isG c) B f i)))) h := by
  have g := T.g
  have rr := T.r
  have k := T.k
  have x := T.x
  have l := T.l
  have hn := T.n
  have k1 : kb true = 1 := rfl
  have k0 : kb false = 0 := rfl
  have n1 : ((1 : Int32) = 0) = False := by decide
  have e1' : ∀ k, Int32.ofNat k + 1 = Int32.ofNat (k + 1) := fun k => nn_add (a := k) (b := 1)
  intro f
  induction f with
  | zero =>
    intro i x3 hi hj Q
    have c' : (n ≤ i) = True := eq_true (by omega)
    have e : i - j + cw (fun c => isL c || isG c) B 0 i = n - j := by show i - j + 0 = _; omega
    clear T
    simp (disch := omega) only [s_175_0, s_175_1, s_175_2, s_175_3, s_175_4, s_175_7, s_175_8, s_175_11, s_175_12, s_175_13, s_175_16, s_175_17, s_175_18, s_175_21, s_175_24, s_175_25, s_175_28, s_175_31, s_175_32, s_175_33, s_175_34, s_175_35, s_175_38, s_175_41, s_175_42, s_175_45, s_175_46, s_175_47, s_175_48, e_175, mv_i_1, mv_l_1, mv_a_1, mv_a_2, mv_a_3, mk2_n, mk2_i, mk2_l, mk2_a, mk2_u, mk2_x, mB_T, mB_F, mS_cons, mS_nil, mSB_T, mSB_F, mca_nil, mca_i, mca_l, mca_r, mca_u, mca_x, mcat_i, mcat_l, mcat_r, mcat_u, mcat_x, mK_some, mK_none, va_rf_s, va_rf_n, lgc_eq, lgc_lt, lgc_gt, lgc_ge, lgc_le, mrd_104, mrd_105, mrd_106, mrd_107, true_and, and_true, and_self, false_and, and_false, true_or, or_true, false_or, or_false, not_true_eq_false, not_false_eq_true, mgb, mga, mgr, mN, reduceCtorEq, ↓reduceIte, eq_self, ge_iff_le, gt_iff_lt, Nat.reduceAdd, Nat.reduceMul, Nat.reduceSub, Nat.reduceLT, Nat.reduceGT, Nat.reduceEqDiff, Nat.reduceLeDiff, Nat.left_eq_add, Nat.add_eq_left, Nat.reduceMod, Nat.reduceDiv, Nat.succ_ne_self, g, rr, k, x, l, nn_le, c', e, nn_sub]
  | succ f ih =>
    intro i x3 hi hj Q
    have c' : (n ≤ i) = False := eq_false (by omega)
    have a1 := c_170 (d := d) T (i := i) (by omega)
    have eb : bt B n i = B i := if_pos (by omega)
    have p1 := c_172 (d := d) (h := h) (B i)
    have p2 := c_173 (d := d) (h := h) (B i)
    have e : cw (fun c => isL c || isG c) B (f + 1) i = (if (isL (B i) || isG (B i)) = true then cw (fun c => isL c || isG c) B f (i + 1) + 1 else 0) := rfl
    rw [e]
    by_cases b : (isL (B i) || isG (B i)) = true
    · rw [if_pos b, show i - j + (cw (fun c => isL c || isG c) B f (i + 1) + 1) = i + 1 - j + cw (fun c => isL c || isG c) B f (i + 1) from by omega, ← ih (i + 1) (some (.int (B i))) (by omega) (by omega) Q]
      clear T ih e
      rw [s_175_2]
      cases b1 : isL (B i) with
      | true =>
        rw [b1] at p1
        simp (disch := omega) only [s_175_0, s_175_1, s_175_3, s_175_4, s_175_7, s_175_8, s_175_11, s_175_12, s_175_13, s_175_16, s_175_17, s_175_18, s_175_21, s_175_24, s_175_25, s_175_28, s_175_31, s_175_32, s_175_33, s_175_34, s_175_35, s_175_38, s_175_41, s_175_42, s_175_45, s_175_46, s_175_47, s_175_48, e_175, mv_i_1, mv_l_1, mv_a_1, mv_a_2, mv_a_3, mk2_n, mk2_i, mk2_l, mk2_a, mk2_u, mk2_x, mB_T, mB_F, mS_cons, mS_nil, mSB_T, mSB_F, mca_nil, mca_i, mca_l, mca_r, mca_u, mca_x, mcat_i, mcat_l, mcat_r, mcat_u, mcat_x, mK_some, mK_none, va_rf_s, va_rf_n, lgc_eq, lgc_lt, lgc_gt, lgc_ge, lgc_le, mrd_104, mrd_105, mrd_106, mrd_107, true_and, and_true, and_self, false_and, and_false, true_or, or_true, false_or, or_false, not_true_eq_false, not_false_eq_true, mgb, mga, mgr, mN, reduceCtorEq, ↓reduceIte, eq_self, ge_iff_le, gt_iff_lt, Nat.reduceAdd, Nat.reduceMul, Nat.reduceSub, Nat.reduceLT, Nat.reduceGT, Nat.reduceEqDiff, Nat.reduceLeDiff, Nat.left_eq_add, Nat.add_eq_left, Nat.reduceMod, Nat.reduceDiv, Nat.succ_ne_self, g, rr, k, x, l, nn_le, c', a1, eb, p1, k1, k0, n1, e1']
      | false =>
        rw [b1] at p1 b
        have b2 : isG (B i) = true := b
        rw [b2] at p2
        simp (disch := omega) only [s_175_0, s_175_1, s_175_3, s_175_4, s_175_7, s_175_8, s_175_11, s_175_12, s_175_13, s_175_16, s_175_17, s_175_18, s_175_21, s_175_24, s_175_25, s_175_28, s_175_31, s_175_32, s_175_33, s_175_34, s_175_35, s_175_38, s_175_41, s_175_42, s_175_45, s_175_46, s_175_47, s_175_48, e_175, mv_i_1, mv_l_1, mv_a_1, mv_a_2, mv_a_3, mk2_n, mk2_i, mk2_l, mk2_a, mk2_u, mk2_x, mB_T, mB_F, mS_cons, mS_nil, mSB_T, mSB_F, mca_nil, mca_i, mca_l, mca_r, mca_u, mca_x, mcat_i, mcat_l, mcat_r, mcat_u, mcat_x, mK_some, mK_none, va_rf_s, va_rf_n, lgc_eq, lgc_lt, lgc_gt, lgc_ge, lgc_le, mrd_104, mrd_105, mrd_106, mrd_107, true_and, and_true, and_self, false_and, and_false, true_or, or_true, false_or, or_false, not_true_eq_false, not_false_eq_true, mgb, mga, mgr, mN, reduceCtorEq, ↓reduceIte, eq_self, ge_iff_le, gt_iff_lt, Nat.reduceAdd, Nat.reduceMul, Nat.reduceSub, Nat.reduceLT, Nat.reduceGT, Nat.reduceEqDiff, Nat.reduceLeDiff, Nat.left_eq_add, Nat.add_eq_left, Nat.reduceMod, Nat.reduceDiv, Nat.succ_ne_self, g, rr, k, x, l, nn_le, c', a1, eb, p1, p2, k1, k0, n1, e1']
    · rw [if_neg b]
      clear T ih e
      have b1 : isL (B i) = false := by cases z : isL (B i) with | true => rw [z] at b; exact absurd rfl b | false => rfl
      have b2 : isG (B i) = false := by cases z : isG (B i) with | true => rw [z, b1] at b; exact absurd rfl b | false => rfl
      rw [b1] at p1
      rw [b2] at p2
      rw [s_175_2]
      simp (disch := omega) only [s_175_0, s_175_1, s_175_3, s_175_4, s_175_7, s_175_8, s_175_11, s_175_12, s_175_13, s_175_16, s_175_17, s_175_18, s_175_21, s_175_24, s_175_25, s_175_28, s_175_31, s_175_32, s_175_33, s_175_34, s_175_35, s_175_38, s_175_41, s_175_42, s_175_45, s_175_46, s_175_47, s_175_48, e_175, mv_i_1, mv_l_1, mv_a_1, mv_a_2, mv_a_3, mk2_n, mk2_i, mk2_l, mk2_a, mk2_u, mk2_x, mB_T, mB_F, mS_cons, mS_nil, mSB_T, mSB_F, mca_nil, mca_i, mca_l, mca_r, mca_u, mca_x, mcat_i, mcat_l, mcat_r, mcat_u, mcat_x, mK_some, mK_none, va_rf_s, va_rf_n, lgc_eq, lgc_lt, lgc_gt, lgc_ge, lgc_le, mrd_104, mrd_105, mrd_106, mrd_107, true_and, and_true, and_self, false_and, and_false, true_or, or_true, false_or, or_false, not_true_eq_false, not_false_eq_true, mgb, mga, mgr, mN, reduceCtorEq, ↓reduceIte, eq_self, ge_iff_le, gt_iff_lt, Nat.reduceAdd, Nat.reduceMul, Nat.reduceSub, Nat.reduceLT, Nat.reduceGT, Nat.reduceEqDiff, Nat.reduceLeDiff, Nat.left_eq_add, Nat.add_eq_left, Nat.reduceMod, Nat.reduceDiv, Nat.succ_ne_self, g, rr, k, x, l, nn_le, c', a1, eb, p1, p2, k1, k0, n1, e1', nn_sub, Nat.add_zero]
theorem c_175 (T : TB h To X n B) {i : Nat} (hi : i ≤ n) : ∀ Q, mcall (d + 1) 175 [.ref To, .int (Int32.ofNat i)] h Q = Q (some (.int (Int32.ofNat (cw (fun c => isL c || isG c) B (n - i) i)))) h := fun Q => by
  have e := l_175 (d := d) T (j := i) (n - i) i none (by omega) (Nat.le_refl _) Q
  rw [Nat.sub_self, Nat.zero_add] at e
  rw [← e]
  clear T
  simp only [s_175_0, s_175_1, s_175_3, s_175_4, s_175_7, s_175_8, s_175_11, s_175_12, s_175_13, s_175_16, s_175_17, s_175_18, s_175_21, s_175_24, s_175_25, s_175_28, s_175_31, s_175_32, s_175_33, s_175_34, s_175_35, s_175_38, s_175_41, s_175_42, s_175_45, s_175_46, s_175_47, s_175_48, e_175, mv_i_1, mv_l_1, mv_a_1, mv_a_2, mv_a_3, mk2_n, mk2_i, mk2_l, mk2_a, mk2_u, mk2_x, mB_T, mB_F, mS_cons, mS_nil, mSB_T, mSB_F, mca_nil, mca_i, mca_l, mca_r, mca_u, mca_x, mcat_i, mcat_l, mcat_r, mcat_u, mcat_x, mK_some, mK_none, va_rf_s, va_rf_n, lgc_eq, lgc_lt, lgc_gt, lgc_ge, lgc_le, mrd_104, mrd_105, mrd_106, mrd_107, true_and, and_true, and_self, false_and, and_false, true_or, or_true, false_or, or_false, not_true_eq_false, not_false_eq_true, mgb, mga, mgr, mN, reduceCtorEq, ↓reduceIte, eq_self, ge_iff_le, gt_iff_lt]
end TBs
