set_option maxRecDepth 100000
/-! the reference's ranges: what its methods do to alarm, low and high -/
def aS (h : mh_H) (o : Nat) (al : Int32) (lo hi : Int64) : mh_H := (mh_k h, mh_l h, (fun b k => if b = o ∧ k = 24 then al else mh_i h b k), (fun b k => if b = o ∧ k = 26 then hi else if b = o ∧ k = 25 then lo else mh_j h b k), mh_r h, mh_n h, mh_s h)
section AS
variable {h : mh_H} {o b k : Nat} {al x : Int32} {lo hi y : Int64}
theorem aS_k : mh_k (aS h o al lo hi) = mh_k h := nrfl rfl
theorem aS_l : mh_l (aS h o al lo hi) = mh_l h := nrfl rfl
theorem aS_r : mh_r (aS h o al lo hi) = mh_r h := nrfl rfl
theorem aS_n : mh_n (aS h o al lo hi) = mh_n h := nrfl rfl
theorem aS_s : mh_s (aS h o al lo hi) = mh_s h := nrfl rfl
theorem aS_i : mh_i (aS h o al lo hi) b k = if b = o ∧ k = 24 then al else mh_i h b k := nrfl rfl
theorem aS_j : mh_j (aS h o al lo hi) b k = if b = o ∧ k = 26 then hi else if b = o ∧ k = 25 then lo else mh_j h b k := nrfl rfl
theorem aS_g {ci : Nat} : mg (aS h o al lo hi) b ci = mg h b ci := nrfl rfl
theorem aS_24 : mh_si (aS h o al lo hi) o 24 x = aS h o x lo hi := by
  have e : mh_u (fun b k => if b = o ∧ k = 24 then al else mh_i h b k) o 24 x = fun b k => if b = o ∧ k = 24 then x else mh_i h b k := by
    funext b k
    unfold mh_u
    dsimp only
    by_cases c : b = o ∧ k = 24
    · rw [if_pos c, if_pos c]
    · rw [if_neg c, if_neg c, if_neg c]
  show (mh_k h, mh_l h, mh_u (fun b k => if b = o ∧ k = 24 then al else mh_i h b k) o 24 x, _, mh_r h, mh_n h, mh_s h) = _
  rw [e]; rfl
theorem aS_25 : mh_sj (aS h o al lo hi) o 25 y = aS h o al y hi := by
  have e : mh_u (fun b k => if b = o ∧ k = 26 then hi else if b = o ∧ k = 25 then lo else mh_j h b k) o 25 y = fun b k => if b = o ∧ k = 26 then hi else if b = o ∧ k = 25 then y else mh_j h b k := by
    funext b k
    unfold mh_u
    dsimp only
    by_cases c : b = o ∧ k = 25
    · have c' : ¬ (b = o ∧ k = 26) := by omega
      rw [if_pos c, if_neg c', if_pos c]
    · rw [if_neg c, if_neg c, if_neg c]
  show (mh_k h, mh_l h, _, mh_u (fun b k => if b = o ∧ k = 26 then hi else if b = o ∧ k = 25 then lo else mh_j h b k) o 25 y, mh_r h, mh_n h, mh_s h) = _
  rw [e]; rfl
theorem aS_26 : mh_sj (aS h o al lo hi) o 26 y = aS h o al lo y := by
  have e : mh_u (fun b k => if b = o ∧ k = 26 then hi else if b = o ∧ k = 25 then lo else mh_j h b k) o 26 y = fun b k => if b = o ∧ k = 26 then y else if b = o ∧ k = 25 then lo else mh_j h b k := by
    funext b k
    unfold mh_u
    dsimp only
    by_cases c : b = o ∧ k = 26
    · rw [if_pos c, if_pos c]
    · rw [if_neg c, if_neg c, if_neg c]
  show (mh_k h, mh_l h, _, mh_u (fun b k => if b = o ∧ k = 26 then hi else if b = o ∧ k = 25 then lo else mh_j h b k) o 26 y, mh_r h, mh_n h, mh_s h) = _
  rw [e]; rfl
theorem aS_id : aS h o (mh_i h o 24) (mh_j h o 25) (mh_j h o 26) = h := by
  have e1 : (fun b k => if b = o ∧ k = 24 then mh_i h o 24 else mh_i h b k) = mh_i h := by
    funext b k
    split
    · next c => rw [c.1, c.2]
    · rfl
  have e2 : (fun b k => if b = o ∧ k = 26 then mh_j h o 26 else if b = o ∧ k = 25 then mh_j h o 25 else mh_j h b k) = mh_j h := by
    funext b k
    split
    · next c => rw [c.1, c.2]
    · split
      · next c => rw [c.1, c.2]
      · rfl
  unfold aS
  rw [e1, e2]; rfl
theorem aS_aS {al' : Int32} {lo' hi' : Int64} : aS (aS h o al lo hi) o al' lo' hi' = aS h o al' lo' hi' := by
  have e1 : (fun b k => if b = o ∧ k = 24 then al' else mh_i (aS h o al lo hi) b k) = fun b k => if b = o ∧ k = 24 then al' else mh_i h b k := by
    funext b k
    by_cases c : b = o ∧ k = 24
    · rw [if_pos c, if_pos c]
    · rw [if_neg c, if_neg c, aS_i, if_neg c]
  have e2 : (fun b k => if b = o ∧ k = 26 then hi' else if b = o ∧ k = 25 then lo' else mh_j (aS h o al lo hi) b k) = fun b k => if b = o ∧ k = 26 then hi' else if b = o ∧ k = 25 then lo' else mh_j h b k := by
    funext b k
    by_cases c : b = o ∧ k = 26
    · rw [if_pos c, if_pos c]
    · rw [if_neg c, if_neg c]
      by_cases c2 : b = o ∧ k = 25
      · rw [if_pos c2, if_pos c2]
      · rw [if_neg c2, if_neg c2, aS_j, if_neg c, if_neg c2]
  show (mh_k h, mh_l h, (fun b k => if b = o ∧ k = 24 then al' else mh_i (aS h o al lo hi) b k), (fun b k => if b = o ∧ k = 26 then hi' else if b = o ∧ k = 25 then lo' else mh_j (aS h o al lo hi) b k), mh_r h, mh_n h, mh_s h) = _
  rw [e1, e2]; rfl
theorem aS_fq : fq (fun b => b = o) h (aS h o al lo hi) := ⟨rfl, rfl, rfl, rfl, rfl, fun b hb => ⟨fun j => by rw [aS_i, if_neg (fun z => hb z.1)], fun j => by rw [aS_j, if_neg (fun z => hb z.1), if_neg (fun z => hb z.1)]⟩⟩
end AS
/-- the answer of a method that looks for a range -/
def eR (q : er) (b : Bool) (lo hi : Int64) : Prop := match q.1 with
  | none => b = false
  | some ab => b = true ∧ lo.toInt = ab.1 ∧ hi.toInt = ab.2
theorem i32_or0 (x : Int32) : x ||| 0 = x := by
  rw [← Int32.toBitVec_inj, Int32.toBitVec_or]
  show x.toBitVec ||| 0#32 = _
  exact BitVec.or_zero
theorem i32_ora (x y z : Int32) : x ||| y ||| z = x ||| (y ||| z) := by
  rw [← Int32.toBitVec_inj, Int32.toBitVec_or, Int32.toBitVec_or, Int32.toBitVec_or, Int32.toBitVec_or]
  exact BitVec.or_assoc _ _ _
section RG
variable {d : Nat} {h : mh_H} {o : Nat} {al : Int32} {lo hi : Int64}
theorem c_231 {Q : Option Value → mh_H → Prop} {x y : Int64} (hg : mg h o 12) : mcall d 231 [.ref o, .long x, .long y] (aS h o al lo hi) Q = Q (some (.int 1)) (aS h o al x y) := by
  simp only [s_231_0, s_231_1, s_231_2, s_231_5, s_231_6, s_231_7, s_231_10, s_231_11, e_231, mv_i_1, mv_l_1, mv_a_1, mv_a_2, mv_a_3, mk2_n, mk2_i, mk2_l, mk2_a, mk2_u, mk2_x, mB_T, mB_F, mS_cons, mS_nil, mSB_T, mSB_F, mca_nil, mca_i, mca_l, mca_r, mca_u, mca_x, mcat_i, mcat_l, mcat_r, mcat_u, mcat_x, mK_some, mK_none, va_rf_s, va_rf_n, lgc_eq, lgc_lt, lgc_gt, lgc_ge, lgc_le, mrd_104, mrd_105, mrd_106, mrd_107, true_and, and_true, and_self, false_and, and_false, true_or, or_true, false_or, or_false, not_true_eq_false, not_false_eq_true, mgb, mga, mgr, mN, reduceCtorEq, ↓reduceIte, eq_self, ge_iff_le, gt_iff_lt, aS_g, aS_25, aS_26, hg]
theorem c_232 {Q : Option Value → mh_H → Prop} {x y : Int64} (hg : mg h o 12) : mcall d 232 [.ref o, .long x, .long y] (aS h o al lo hi) Q = Q (some (.int (kb (decide (lmax x (-2147483648) ≤ lmin y 2147483647))))) (aS h o (al ||| (if x < -2147483648 ∨ 2147483647 < y then 1 else 0)) (lmax x (-2147483648)) (lmin y 2147483647)) := by
  have ee : o = o ∧ 24 = 24 := ⟨rfl, rfl⟩
  have n1 : ¬ (o = o ∧ 25 = 26) := by omega
  have n2 : o = o ∧ 25 = 25 := ⟨rfl, rfl⟩
  have n3 : o = o ∧ 26 = 26 := ⟨rfl, rfl⟩
  by_cases c1 : x < -2147483648 <;> by_cases c4 : -2147483648 < x <;> by_cases c2 : 2147483647 < y
  all_goals
    have m1 : lmax x (-2147483648) = if -2147483648 < x then x else -2147483648 := rfl
    have m2 : lmin y 2147483647 = if 2147483647 < y then 2147483647 else y := rfl
    simp only [c4, c2, if_true, if_false] at m1 m2
    rw [m1, m2]
    clear m1 m2
    by_cases c3 : (if 2147483647 < y then 2147483647 else y) < (if -2147483648 < x then x else -2147483648)
    all_goals
      simp only [c4, c2, if_true, if_false] at c3
      simp only [s_232_0, s_232_1, s_232_2, s_232_5, s_232_6, s_232_9, s_232_10, s_232_13, s_232_14, s_232_17, s_232_18, s_232_21, s_232_22, s_232_25, s_232_26, s_232_27, s_232_30, s_232_31, s_232_32, s_232_35, s_232_38, s_232_41, s_232_42, s_232_43, s_232_46, s_232_49, s_232_52, s_232_53, s_232_56, s_232_57, s_232_60, s_232_61, s_232_64, s_232_65, s_232_68, s_232_69, e_232, mv_i_1, mv_l_1, mv_a_1, mv_a_2, mv_a_3, mk2_n, mk2_i, mk2_l, mk2_a, mk2_u, mk2_x, mB_T, mB_F, mS_cons, mS_nil, mSB_T, mSB_F, mca_nil, mca_i, mca_l, mca_r, mca_u, mca_x, mcat_i, mcat_l, mcat_r, mcat_u, mcat_x, mK_some, mK_none, va_rf_s, va_rf_n, lgc_eq, lgc_lt, lgc_gt, lgc_ge, lgc_le, mrd_104, mrd_105, mrd_106, mrd_107, true_and, and_true, and_self, false_and, and_false, true_or, or_true, false_or, or_false, not_true_eq_false, not_false_eq_true, mgb, mga, mgr, mN, reduceCtorEq, ↓reduceIte, eq_self, ge_iff_le, gt_iff_lt, Nat.reduceAdd, Nat.reduceMul, Nat.reduceSub, Nat.reduceLT, Nat.reduceGT, Nat.reduceEqDiff, Nat.reduceLeDiff, Nat.left_eq_add, Nat.add_eq_left, Nat.reduceMod, Nat.reduceDiv, Nat.succ_ne_self, aS_g, aS_24, aS_25, aS_26, aS_i, aS_j, hg, c1, c2, c3, c4, le_nlt64, mB_not, decide_true, decide_false, kb, Bool.false_eq_true]
end RG
