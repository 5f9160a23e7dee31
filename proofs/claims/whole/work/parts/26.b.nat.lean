set_option maxRecDepth 100000
/-! ints that are numbers below 2^31 -/
section NN
variable {a b n : Nat}
theorem nn_int (h : a < 2147483648) : (Int32.ofNat a).toInt = a := Int32.toInt_ofNat_of_lt h
theorem nn_clamp (h : a < 2147483648) : (Int32.ofNat a).toNatClampNeg = a := Int32.toNatClampNeg_ofNat_of_lt h
theorem nn_ge (h : a < 2147483648) : (0 ≤ Int32.ofNat a) = True := eq_true (by rw [Int32.le_iff_toInt_le, nn_int h]; exact Int.natCast_nonneg a)
theorem nn_neg (h : a < 2147483648) : (Int32.ofNat a < 0) = False := eq_false (by rw [Int32.lt_iff_toInt_lt, nn_int h]; exact Int.not_lt.mpr (Int.natCast_nonneg a))
theorem nn_mx (h : a < 2147483648) : mx (Int32.ofNat a) n = (a < n) := by unfold mx; rw [nn_ge h, nn_clamp h, true_and]
theorem nn_mxT (h : a < n) (h2 : a < 2147483648) : mx (Int32.ofNat a) n = True := by rw [nn_mx h2]; exact eq_true h
theorem nn_lt (ha : a < 2147483648) (hb : b < 2147483648) : (Int32.ofNat a < Int32.ofNat b) = (a < b) := by rw [Int32.lt_iff_toInt_lt, nn_int ha, nn_int hb, Int.ofNat_lt]
theorem nn_le (ha : a < 2147483648) (hb : b < 2147483648) : (Int32.ofNat a ≤ Int32.ofNat b) = (a ≤ b) := by rw [Int32.le_iff_toInt_le, nn_int ha, nn_int hb, Int.ofNat_le]
theorem nn_eq (ha : a < 2147483648) (hb : b < 2147483648) : (Int32.ofNat a = Int32.ofNat b) = (a = b) := by rw [← Int32.toInt_inj, nn_int ha, nn_int hb, Int.ofNat_inj]
theorem nn_lit : (OfNat.ofNat n : Int32) = Int32.ofNat n := rfl
theorem nn_add : Int32.ofNat a + Int32.ofNat b = Int32.ofNat (a + b) := (Int32.ofNat_add a b).symm
theorem nn_mul : Int32.ofNat a * Int32.ofNat b = Int32.ofNat (a * b) := (Int32.ofNat_mul a b).symm
theorem nn_sub (h : b ≤ a) : Int32.ofNat a - Int32.ofNat b = Int32.ofNat (a - b) := by
  have e : Int32.ofNat a = Int32.ofNat (a - b) + Int32.ofNat b := by rw [nn_add, Nat.sub_add_cancel h]
  rw [e, Int32.add_sub_cancel]
end NN
def oc_1 (i : Nat) : Nat := if i % 2 = 0 then i + 1 else i
def sc_r (i : Nat) : Nat := (i + 1) * (i + 1) / 2
def sc (i j : Nat) : Nat := if oc_1 i < j then sc_r (oc_b j) + oc_b i else sc_r i + j
theorem nn_or1_all : ∀ a, a < 64 → Int32.ofNat a ||| 1 = Int32.ofNat (oc_1 a) := by decide +kernel
theorem nn_xor1_all : ∀ a, a < 64 → Int32.ofNat a ^^^ 1 = Int32.ofNat (oc_b a) := by decide +kernel
theorem nn_row_all : ∀ a, a < 24 → mx_row.getD a 0 = Int32.ofNat (sc_r a) := by decide +kernel
theorem nn_or1 {a : Nat} (h : a < 64) : Int32.ofNat a ||| 1 = Int32.ofNat (oc_1 a) := nn_or1_all a h
theorem nn_xor1 {a : Nat} (h : a < 64) : Int32.ofNat a ^^^ 1 = Int32.ofNat (oc_b a) := nn_xor1_all a h
theorem nn_row {a : Nat} (h : a < 24) : mx_row.getD a 0 = Int32.ofNat (sc_r a) := nn_row_all a h
theorem oc_b_lt {a n : Nat} (h : a < 2 * n) : oc_b a < 2 * n := oc_bl h
theorem oc_b24 {a : Nat} (h : a < 24) : oc_b a < 24 := oc_b_lt (n := 12) h
theorem oc_1_24 {a : Nat} (h : a < 24) : oc_1 a < 24 := by unfold oc_1; split <;> omega
theorem sc_lt_all : ∀ i, i < 24 → ∀ j, j < 24 → sc i j < 312 := by decide +kernel
theorem sc_lt {i j : Nat} (hi : i < 24) (hj : j < 24) : sc i j < 312 := sc_lt_all i hi j hj
theorem sc_r_lt_all : ∀ i, i < 24 → sc_r i < 312 := by decide +kernel
/-- State.cell -/
theorem c_140 {d : Nat} {Q : Option Value → mh_H → Prop} {h : mh_H} {i j : Nat} (hi : i < 24) (hj : j < 24) : mcall d 140 [.int (Int32.ofNat i), .int (Int32.ofNat j)] h Q = Q (some (.int (Int32.ofNat (sc i j)))) h := by
  have h1 := oc_1_24 hi
  have h2 := oc_b24 hi
  have h3 := oc_b24 hj
  by_cases c : oc_1 i < j
  · simp (disch := omega) only [s_140_0, s_140_1, s_140_2, s_140_3, s_140_4, s_140_7, s_140_10, s_140_11, s_140_11x, s_140_12, s_140_13, s_140_14, s_140_17, s_140_20, s_140_21, s_140_22, s_140_23, s_140_23x, s_140_24, s_140_25, s_140_26, s_140_27, s_140_28, e_140, mv_i_1, mv_l_1, mv_a_1, mv_a_2, mv_a_3, mk2_n, mk2_i, mk2_l, mk2_a, mk2_u, mk2_x, mB_T, mB_F, mS_cons, mS_nil, mSB_T, mSB_F, mca_nil, mca_i, mca_l, mca_r, mca_u, mca_x, mcat_i, mcat_l, mcat_r, mcat_u, mcat_x, mK_some, mK_none, va_rf_s, va_rf_n, lgc_eq, lgc_lt, lgc_gt, lgc_ge, lgc_le, mrd_104, mrd_105, mrd_106, mrd_107, true_and, and_true, and_self, false_and, and_false, true_or, or_true, false_or, or_false, not_true_eq_false, not_false_eq_true, mgb, mga, mgr, mN, reduceCtorEq, ↓reduceIte, eq_self, ge_iff_le, gt_iff_lt, Nat.reduceAdd, Nat.reduceMul, Nat.reduceSub, Nat.reduceDiv, Nat.reduceMod, Nat.reduceLT, Nat.reduceGT, Nat.reduceEqDiff, Nat.reduceLeDiff, Int32.reduceAdd, Int32.reduceMul, Int32.reduceSub, Int32.reduceLT, Int32.reduceLE, Int32.reduceGT, Int32.reduceGE, Int32.reduceToNatClampNeg, Int32.reduceOfNat, Int32.reduceOfInt, Int64.reduceAdd, Int64.reduceMul, Int64.reduceSub, Int64.reduceLT, Int64.reduceLE, Int64.reduceGT, Int64.reduceGE, Int64.reduceToNatClampNeg, Int64.reduceOfNat, Int64.reduceOfInt, nn_or1, nn_xor1, nn_le, nn_lt, nn_mxT, nn_clamp, nn_row, nn_add, sc, c]
  · simp (disch := omega) only [s_140_0, s_140_1, s_140_2, s_140_3, s_140_4, s_140_7, s_140_10, s_140_11, s_140_11x, s_140_12, s_140_13, s_140_14, s_140_17, s_140_20, s_140_21, s_140_22, s_140_23, s_140_23x, s_140_24, s_140_25, s_140_26, s_140_27, s_140_28, e_140, mv_i_1, mv_l_1, mv_a_1, mv_a_2, mv_a_3, mk2_n, mk2_i, mk2_l, mk2_a, mk2_u, mk2_x, mB_T, mB_F, mS_cons, mS_nil, mSB_T, mSB_F, mca_nil, mca_i, mca_l, mca_r, mca_u, mca_x, mcat_i, mcat_l, mcat_r, mcat_u, mcat_x, mK_some, mK_none, va_rf_s, va_rf_n, lgc_eq, lgc_lt, lgc_gt, lgc_ge, lgc_le, mrd_104, mrd_105, mrd_106, mrd_107, true_and, and_true, and_self, false_and, and_false, true_or, or_true, false_or, or_false, not_true_eq_false, not_false_eq_true, mgb, mga, mgr, mN, reduceCtorEq, ↓reduceIte, eq_self, ge_iff_le, gt_iff_lt, Nat.reduceAdd, Nat.reduceMul, Nat.reduceSub, Nat.reduceDiv, Nat.reduceMod, Nat.reduceLT, Nat.reduceGT, Nat.reduceEqDiff, Nat.reduceLeDiff, Int32.reduceAdd, Int32.reduceMul, Int32.reduceSub, Int32.reduceLT, Int32.reduceLE, Int32.reduceGT, Int32.reduceGE, Int32.reduceToNatClampNeg, Int32.reduceOfNat, Int32.reduceOfInt, Int64.reduceAdd, Int64.reduceMul, Int64.reduceSub, Int64.reduceLT, Int64.reduceLE, Int64.reduceGT, Int64.reduceGE, Int64.reduceToNatClampNeg, Int64.reduceOfNat, Int64.reduceOfInt, nn_or1, nn_xor1, nn_le, nn_lt, nn_mxT, nn_clamp, nn_row, nn_add, sc, c]

/-- a State: its rows of bounds and of ends stand behind it -/
def so (h : mh_H) (o : Nat) : Prop := mg h o 8 ∧ mh_r h o 3 = some (o + 1) ∧ mg h (o + 1) 101 ∧ mh_l h (o + 1) = 312 ∧ mh_r h o 4 = some (o + 2) ∧ mg h (o + 2) 101 ∧ mh_l h (o + 2) = 12
/-- its bound of v_j - v_i -/
def sb (h : mh_H) (o i j : Nat) : Int64 := mh_j h (o + 1) (sc i j)
theorem c_142 {d : Nat} {Q : Option Value → mh_H → Prop} {h : mh_H} {o n : Nat} (hs : so h o) (hn : mh_i h o 1 = Int32.ofNat n) (hn2 : n ≤ 12) : mcall d 142 [.ref o] h Q = Q (some (.int (Int32.ofNat (2 * n * (n + 1))))) h := by
  obtain ⟨s1, s2, s3, s4, s5, s6, s7⟩ := hs
  simp (disch := omega) only [s_142_0, s_142_1, s_142_2, s_142_5, s_142_6, s_142_7, s_142_10, s_142_11, s_142_12, s_142_13, e_142, mv_i_1, mv_l_1, mv_a_1, mv_a_2, mv_a_3, mk2_n, mk2_i, mk2_l, mk2_a, mk2_u, mk2_x, mB_T, mB_F, mS_cons, mS_nil, mSB_T, mSB_F, mca_nil, mca_i, mca_l, mca_r, mca_u, mca_x, mcat_i, mcat_l, mcat_r, mcat_u, mcat_x, mK_some, mK_none, va_rf_s, va_rf_n, lgc_eq, lgc_lt, lgc_gt, lgc_ge, lgc_le, mrd_104, mrd_105, mrd_106, mrd_107, true_and, and_true, and_self, false_and, and_false, true_or, or_true, false_or, or_false, not_true_eq_false, not_false_eq_true, mgb, mga, mgr, mN, reduceCtorEq, ↓reduceIte, eq_self, ge_iff_le, gt_iff_lt, s1, hn, nn_lit, nn_mul, nn_add]
/-- State.greatest -/
theorem c_146 {d : Nat} {Q : Option Value → mh_H → Prop} {h : mh_H} {o v w : Nat} (hs : so h o) (hv : v < 24) (hw : w < 24) : mcall d 146 [.ref o, .int (Int32.ofNat v), .int (Int32.ofNat w)] h Q = Q (some (.long (if v = w then sb h o (oc_b w) v / 2 else sb h o (oc_b w) v))) h := by
  obtain ⟨s1, s2, s3, s4, s5, s6, s7⟩ := hs
  have h1 := oc_1_24 hv
  have h2 := oc_b24 hw
  have h3 := oc_b24 hv
  have h4 := oc_1_24 hw
  have h5 := sc_lt h2 hv
  have e1 : sc (oc_b w) v = if oc_1 w < v then sc_r (oc_b v) + w else sc_r (oc_b w) + v := by
    unfold sc
    have : oc_1 (oc_b w) = oc_1 w := by unfold oc_1 oc_b; split <;> split <;> omega
    have : oc_b (oc_b w) = w := by unfold oc_b; split <;> split <;> omega
    simp_all
  by_cases e : v = w
  · subst e
    have c : ¬ oc_1 v < v := by unfold oc_1; split <;> omega
    rw [if_neg c] at e1
    rw [e1] at h5
    simp (disch := omega) only [s_146_0, s_146_1, s_146_4, s_146_5, s_146_6, s_146_7, s_146_8, s_146_11, s_146_14, s_146_15, s_146_16, s_146_17, s_146_17x, s_146_18, s_146_19, s_146_20, s_146_23, s_146_26, s_146_27, s_146_28, s_146_29, s_146_29x, s_146_30, s_146_31, s_146_32, s_146_33, s_146_34, s_146_35, s_146_36, s_146_39, s_146_40, s_146_43, s_146_44, s_146_47, s_146_48, e_146, mv_i_1, mv_l_1, mv_a_1, mv_a_2, mv_a_3, mk2_n, mk2_i, mk2_l, mk2_a, mk2_u, mk2_x, mB_T, mB_F, mS_cons, mS_nil, mSB_T, mSB_F, mca_nil, mca_i, mca_l, mca_r, mca_u, mca_x, mcat_i, mcat_l, mcat_r, mcat_u, mcat_x, mK_some, mK_none, va_rf_s, va_rf_n, lgc_eq, lgc_lt, lgc_gt, lgc_ge, lgc_le, mrd_104, mrd_105, mrd_106, mrd_107, true_and, and_true, and_self, false_and, and_false, true_or, or_true, false_or, or_false, not_true_eq_false, not_false_eq_true, mgb, mga, mgr, mN, reduceCtorEq, ↓reduceIte, eq_self, ge_iff_le, gt_iff_lt, hk_si, hk_sj, hk_sr, hl_si, hl_sj, hl_sr, hn_si, hn_sj, hn_sr, hs_si, hs_sj, hs_sr, hi_sj, hi_sr, hj_si, hj_sr, hr_si, hr_sj, hi_si, hj_sj, hr_sr, mg_si, mg_sj, mg_sr, s1, s2, s3, s4, nn_or1, nn_xor1, nn_lt, nn_eq, nn_mxT, nn_clamp, nn_row, nn_add, c, sb, e1, show ((2 : Int64) = 0) = False by decide]
  · by_cases c : oc_1 w < v
    all_goals
      first | rw [if_pos c] at e1 | rw [if_neg c] at e1
      rw [e1] at h5
      simp (disch := omega) only [s_146_0, s_146_1, s_146_4, s_146_5, s_146_6, s_146_7, s_146_8, s_146_11, s_146_14, s_146_15, s_146_16, s_146_17, s_146_17x, s_146_18, s_146_19, s_146_20, s_146_23, s_146_26, s_146_27, s_146_28, s_146_29, s_146_29x, s_146_30, s_146_31, s_146_32, s_146_33, s_146_34, s_146_35, s_146_36, s_146_39, s_146_40, s_146_43, s_146_44, s_146_47, s_146_48, e_146, mv_i_1, mv_l_1, mv_a_1, mv_a_2, mv_a_3, mk2_n, mk2_i, mk2_l, mk2_a, mk2_u, mk2_x, mB_T, mB_F, mS_cons, mS_nil, mSB_T, mSB_F, mca_nil, mca_i, mca_l, mca_r, mca_u, mca_x, mcat_i, mcat_l, mcat_r, mcat_u, mcat_x, mK_some, mK_none, va_rf_s, va_rf_n, lgc_eq, lgc_lt, lgc_gt, lgc_ge, lgc_le, mrd_104, mrd_105, mrd_106, mrd_107, true_and, and_true, and_self, false_and, and_false, true_or, or_true, false_or, or_false, not_true_eq_false, not_false_eq_true, mgb, mga, mgr, mN, reduceCtorEq, ↓reduceIte, eq_self, ge_iff_le, gt_iff_lt, hk_si, hk_sj, hk_sr, hl_si, hl_sj, hl_sr, hn_si, hn_sj, hn_sr, hs_si, hs_sj, hs_sr, hi_sj, hi_sr, hj_si, hj_sr, hr_si, hr_sj, hi_si, hj_sj, hr_sr, mg_si, mg_sj, mg_sr, s1, s2, s3, s4, nn_or1, nn_xor1, nn_lt, nn_eq, nn_mxT, nn_clamp, nn_row, nn_add, c, e, sb, e1]
/-! loops -/
theorem mw_loop {d y pc : Nat} {Q : Option Value → mh_H → Prop} {st : List Value} (ls : Nat → me_L) (F : Nat → mh_H) {a b : Nat} (hab : a ≤ b) (step : ∀ k, a ≤ k → k < b → mw d y Q pc (ls k) st (F k) = mw d y Q pc (ls (k + 1)) st (F (k + 1))) : mw d y Q pc (ls a) st (F a) = mw d y Q pc (ls b) st (F b) := by
  obtain ⟨n, rfl⟩ : ∃ n, b = a + n := ⟨b - a, by omega⟩
  clear hab
  induction n with
  | zero => rfl
  | succ n ih => exact (ih (fun k h1 h2 => step k h1 (by omega))).trans (step (a + n) (by omega) (by omega))
/-- one or the other -/
def mI (c p q : Prop) : Prop := (c → p) ∧ (¬ c → q)
theorem mI_T {c p q : Prop} (h : c) : mI c p q = p := propext ⟨fun z => z.1 h, fun z => ⟨fun _ => z, fun n => absurd h n⟩⟩
theorem mI_F {c p q : Prop} (h : ¬ c) : mI c p q = q := propext ⟨fun z => z.2 h, fun z => ⟨fun n => absurd n h, fun _ => z⟩⟩
theorem mI_t {p q : Prop} : mI True p q = p := mI_T trivial
theorem mI_f {p q : Prop} : mI False p q = q := mI_F (fun z => z)
theorem mw_until {d y pc : Nat} {Q : Option Value → mh_H → Prop} {st : List Value} (ls : Nat → me_L) (F : Nat → mh_H) (P : Nat → Prop) (R : Prop) {a b : Nat} (hab : a ≤ b) (step : ∀ k, a ≤ k → k < b → mw d y Q pc (ls k) st (F k) = mI (P k) R (mw d y Q pc (ls (k + 1)) st (F (k + 1)))) : mw d y Q pc (ls a) st (F a) = mI (∃ k, a ≤ k ∧ k < b ∧ P k) R (mw d y Q pc (ls b) st (F b)) := by
  obtain ⟨n, rfl⟩ : ∃ n, b = a + n := ⟨b - a, by omega⟩
  clear hab
  induction n with
  | zero => rw [mI_F (fun z => by obtain ⟨k, z1, z2, -⟩ := z; omega)]; rfl
  | succ n ih =>
    rw [ih (fun k h1 h2 => step k h1 (by omega)), step (a + n) (by omega) (by omega)]
    by_cases c : ∃ k, a ≤ k ∧ k < a + n ∧ P k
    · have c' : ∃ k, a ≤ k ∧ k < a + (n + 1) ∧ P k := by obtain ⟨k, z1, z2, z3⟩ := c; exact ⟨k, z1, by omega, z3⟩
      rw [mI_T c, mI_T c']
    · rw [mI_F c]
      by_cases e : P (a + n)
      · rw [mI_T e, mI_T ⟨a + n, by omega, by omega, e⟩]
      · rw [mI_F e, mI_F]
        · rfl
        · rintro ⟨k, z1, z2, z3⟩
          by_cases q : k = a + n
          · rw [q] at z3; exact e z3
          · exact c ⟨k, z1, by omega, z3⟩
/-- a row of longs as a whole -/
def mh_J (h : mh_H) (a : Nat) (f : Nat → Int64) : mh_H := (mh_k h, mh_l h, mh_i h, (fun b j => if b = a then f j else mh_j h b j), mh_r h, mh_n h, mh_s h)
section MHJ
variable {h : mh_H} {a b j k : Nat} {f g : Nat → Int64} {v : Int64} {x : Int32} {r : Option Nat}
theorem hk_J : mh_k (mh_J h a f) = mh_k h := nrfl rfl
theorem hl_J : mh_l (mh_J h a f) = mh_l h := nrfl rfl
theorem hn_J : mh_n (mh_J h a f) = mh_n h := nrfl rfl
theorem hs_J : mh_s (mh_J h a f) = mh_s h := nrfl rfl
theorem hi_J : mh_i (mh_J h a f) = mh_i h := nrfl rfl
theorem hr_J : mh_r (mh_J h a f) = mh_r h := nrfl rfl
theorem hj_J : mh_j (mh_J h a f) b j = if b = a then f j else mh_j h b j := nrfl rfl
theorem mg_J {o ci : Nat} : mg (mh_J h a f) o ci = mg h o ci := nrfl rfl
theorem J_id : mh_J h a (mh_j h a) = h := by
  have : (fun b j => if b = a then mh_j h a j else mh_j h b j) = mh_j h := by
    funext b j; split
    · next e => rw [e]
    · rfl
  unfold mh_J; rw [this]; rfl
theorem sj_J : mh_sj h a k v = mh_J h a (fun j => if j = k then v else mh_j h a j) := by
  have : mh_u (mh_j h) a k v = fun b j => if b = a then (if j = k then v else mh_j h a j) else mh_j h b j := by
    funext b j; unfold mh_u
    by_cases e : b = a <;> by_cases e2 : j = k <;> simp [e, e2]
  unfold mh_sj mh_J; rw [this]
theorem J_J : mh_J (mh_J h a f) a g = mh_J h a g := by
  have : (fun b j => if b = a then g j else mh_j (mh_J h a f) b j) = fun b j => if b = a then g j else mh_j h b j := by
    funext b j
    by_cases e : b = a
    · simp [e]
    · rw [if_neg e, if_neg e, hj_J, if_neg e]
  unfold mh_J at this ⊢; rw [show (fun b j => if b = a then g j else mh_j (mh_k h, mh_l h, mh_i h, (fun b j => if b = a then f j else mh_j h b j), mh_r h, mh_n h, mh_s h) b j) = _ from this]; rfl
theorem J_sj : mh_sj (mh_J h a f) a k v = mh_J h a (fun j => if j = k then v else f j) := by
  rw [sj_J, J_J]
  have : (fun j => if j = k then v else mh_j (mh_J h a f) a j) = fun j => if j = k then v else f j := by
    funext j; rw [hj_J, if_pos rfl]
  rw [this]
theorem J_si : mh_si (mh_J h a f) b k x = mh_J (mh_si h b k x) a f := nrfl rfl
theorem J_sr : mh_sr (mh_J h a f) b k r = mh_J (mh_sr h b k r) a f := nrfl rfl
theorem J_ext (e : ∀ j, f j = g j) : mh_J h a f = mh_J h a g := by rw [show f = g from funext e]
end MHJ
/-- State.greatestOf -/
def sg (v : Nat) : Int64 := if v % 2 = 0 then 2147483647 else 2147483648
theorem rem2_all : ∀ v, v < 64 → (Int32.ofNat v - Int32.ofNat v / 2 * 2 = 0) = (v % 2 = 0) := by intro v hv; exact propext ((show ∀ v, v < 64 → ((Int32.ofNat v - Int32.ofNat v / 2 * 2 = 0) ↔ (v % 2 = 0)) by decide +kernel) v hv)
theorem c_141 {d : Nat} {Q : Option Value → mh_H → Prop} {h : mh_H} {v : Nat} (hv : v < 64) : mcall d 141 [.int (Int32.ofNat v)] h Q = Q (some (.long (sg v))) h := by
  have e := rem2_all v hv
  by_cases c : v % 2 = 0
  · simp only [s_141_0, s_141_1, s_141_2, s_141_3, s_141_6, s_141_9, s_141_12, s_141_15, e_141, mv_i_1, mv_l_1, mv_a_1, mv_a_2, mv_a_3, mk2_n, mk2_i, mk2_l, mk2_a, mk2_u, mk2_x, mB_T, mB_F, mS_cons, mS_nil, mSB_T, mSB_F, mca_nil, mca_i, mca_l, mca_r, mca_u, mca_x, mcat_i, mcat_l, mcat_r, mcat_u, mcat_x, mK_some, mK_none, va_rf_s, va_rf_n, lgc_eq, lgc_lt, lgc_gt, lgc_ge, lgc_le, mrd_104, mrd_105, mrd_106, mrd_107, true_and, and_true, and_self, false_and, and_false, true_or, or_true, false_or, or_false, not_true_eq_false, not_false_eq_true, mgb, mga, mgr, mN, reduceCtorEq, ↓reduceIte, eq_self, ge_iff_le, gt_iff_lt, e, c, sg, show ((2 : Int32) = 0) = False by decide]
  · simp only [s_141_0, s_141_1, s_141_2, s_141_3, s_141_6, s_141_9, s_141_12, s_141_15, e_141, mv_i_1, mv_l_1, mv_a_1, mv_a_2, mv_a_3, mk2_n, mk2_i, mk2_l, mk2_a, mk2_u, mk2_x, mB_T, mB_F, mS_cons, mS_nil, mSB_T, mSB_F, mca_nil, mca_i, mca_l, mca_r, mca_u, mca_x, mcat_i, mcat_l, mcat_r, mcat_u, mcat_x, mK_some, mK_none, va_rf_s, va_rf_n, lgc_eq, lgc_lt, lgc_gt, lgc_ge, lgc_le, mrd_104, mrd_105, mrd_106, mrd_107, true_and, and_true, and_self, false_and, and_false, true_or, or_true, false_or, or_false, not_true_eq_false, not_false_eq_true, mgb, mga, mgr, mN, reduceCtorEq, ↓reduceIte, eq_self, ge_iff_le, gt_iff_lt, e, c, sg, show ((2 : Int32) = 0) = False by decide]
theorem c_143 {d : Nat} {Q : Option Value → mh_H → Prop} {h : mh_H} {o : Nat} (hs : mg h o 8) : mcall d 143 [.ref o] h Q = Q none (mh_si (mh_si (mh_si (mh_si h o 0 0) o 1 0) o 2 0) o 5 0) := by
  simp only [s_143_0, s_143_1, s_143_2, s_143_5, s_143_6, s_143_7, s_143_10, s_143_11, s_143_12, s_143_15, s_143_16, s_143_17, s_143_20, e_143, mv_i_1, mv_l_1, mv_a_1, mv_a_2, mv_a_3, mk2_n, mk2_i, mk2_l, mk2_a, mk2_u, mk2_x, mB_T, mB_F, mS_cons, mS_nil, mSB_T, mSB_F, mca_nil, mca_i, mca_l, mca_r, mca_u, mca_x, mcat_i, mcat_l, mcat_r, mcat_u, mcat_x, mK_some, mK_none, va_rf_s, va_rf_n, lgc_eq, lgc_lt, lgc_gt, lgc_ge, lgc_le, mrd_104, mrd_105, mrd_106, mrd_107, true_and, and_true, and_self, false_and, and_false, true_or, or_true, false_or, or_false, not_true_eq_false, not_false_eq_true, mgb, mga, mgr, mN, reduceCtorEq, ↓reduceIte, eq_self, ge_iff_le, gt_iff_lt, hk_si, hk_sj, hk_sr, hl_si, hl_sj, hl_sr, hn_si, hn_sj, hn_sr, hs_si, hs_sj, hs_sr, hi_sj, hi_sr, hj_si, hj_sr, hr_si, hr_sj, hi_si, hj_sj, hr_sr, mg_si, mg_sj, mg_sr, hs]
theorem c_145 {d : Nat} {Q : Option Value → mh_H → Prop} {h : mh_H} {o : Nat} {x y : Int32} (hs : mg h o 8) : mcall d 145 [.ref o, .int x, .int y] h Q = Q none (mh_si (mh_si h o 1 x) o 2 y) := by
  simp only [s_145_0, s_145_1, s_145_2, s_145_5, s_145_6, s_145_7, s_145_10, e_145, mv_i_1, mv_l_1, mv_a_1, mv_a_2, mv_a_3, mk2_n, mk2_i, mk2_l, mk2_a, mk2_u, mk2_x, mB_T, mB_F, mS_cons, mS_nil, mSB_T, mSB_F, mca_nil, mca_i, mca_l, mca_r, mca_u, mca_x, mcat_i, mcat_l, mcat_r, mcat_u, mcat_x, mK_some, mK_none, va_rf_s, va_rf_n, lgc_eq, lgc_lt, lgc_gt, lgc_ge, lgc_le, mrd_104, mrd_105, mrd_106, mrd_107, true_and, and_true, and_self, false_and, and_false, true_or, or_true, false_or, or_false, not_true_eq_false, not_false_eq_true, mgb, mga, mgr, mN, reduceCtorEq, ↓reduceIte, eq_self, ge_iff_le, gt_iff_lt, hk_si, hk_sj, hk_sr, hl_si, hl_sj, hl_sr, hn_si, hn_sj, hn_sr, hs_si, hs_sj, hs_sr, hi_sj, hi_sr, hj_si, hj_sr, hr_si, hr_sj, hi_si, hj_sj, hr_sr, mg_si, mg_sj, mg_sr, hs]
/-- State.swap -/
theorem c_157 {d : Nat} {Q : Option Value → mh_H → Prop} {h : mh_H} {o a b : Nat} (hs : so h o) (ha : a < 312) (hb : b < 312) : mcall d 157 [.ref o, .int (Int32.ofNat a), .int (Int32.ofNat b)] h Q = Q none (mh_J h (o + 1) (fun j => if j = b then mh_j h (o + 1) a else if j = a then mh_j h (o + 1) b else mh_j h (o + 1) j)) := by
  obtain ⟨s1, s2, s3, s4, s5, s6, s7⟩ := hs
  simp (disch := omega) only [s_157_0, s_157_1, s_157_4, s_157_5, s_157_6, s_157_7, s_157_8, s_157_11, s_157_12, s_157_13, s_157_16, s_157_17, s_157_18, s_157_19, s_157_20, s_157_23, s_157_24, s_157_25, s_157_26, e_157, mv_i_1, mv_l_1, mv_a_1, mv_a_2, mv_a_3, mk2_n, mk2_i, mk2_l, mk2_a, mk2_u, mk2_x, mB_T, mB_F, mS_cons, mS_nil, mSB_T, mSB_F, mca_nil, mca_i, mca_l, mca_r, mca_u, mca_x, mcat_i, mcat_l, mcat_r, mcat_u, mcat_x, mK_some, mK_none, va_rf_s, va_rf_n, lgc_eq, lgc_lt, lgc_gt, lgc_ge, lgc_le, mrd_104, mrd_105, mrd_106, mrd_107, true_and, and_true, and_self, false_and, and_false, true_or, or_true, false_or, or_false, not_true_eq_false, not_false_eq_true, mgb, mga, mgr, mN, reduceCtorEq, ↓reduceIte, eq_self, ge_iff_le, gt_iff_lt, hk_J, hl_J, hn_J, hr_J, mg_J, s1, s2, s3, s4, nn_mxT, nn_clamp, sj_J, J_J, hj_J]
