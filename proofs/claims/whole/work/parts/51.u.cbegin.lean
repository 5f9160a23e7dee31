set_option maxRecDepth 100000
/-! the class's parser: begin (a new statement), openFunction, countParameter, giveBy, closeFunction, shutBlock -/
def stF (s : cps) (k p : Int32) (j : Nat) : Int32 := if j = 0 then k else if j = 1 then Int32.ofNat (s.1 8) else if j = 2 then p else if j = 3 then Int32.ofNat (s.1 12) else if j = 4 then Int32.ofNat (s.1 13) else if j = 8 then -1 else if j = 10 then Int32.ofNat (s.1 6) else if j = 12 then Int32.ofNat (s.1 7) else 0
def bgS (s : cps) (k p : Int32) : cps := (fun c => if c = 8 then s.1 8 + 1 else s.1 c, fun o j => if o = 24 + s.1 8 then stF s k p j else s.2 o j)
def ofS (s : cps) (i : Nat) : cps := u2 (u2 (u2 (u2 (u2 s 15 (6 * s.1 9) (Int32.ofNat i)) 15 (6 * s.1 9 + 1) 0) 15 (6 * s.1 9 + 2) (-1)) 15 (6 * s.1 9 + 3) (Int32.ofNat (s.1 8))) 15 (6 * s.1 9 + 5) (-1)
def cpS (s : cps) (tw : Bool) (i : Int32) : cps := if tw = true ∧ s.2 15 (6 * s.1 9 + 2) = -1 then u2 (u2 s 15 (6 * s.1 9 + 1) (s.2 15 (6 * s.1 9 + 1) + 1)) 15 (6 * s.1 9 + 2) i else u2 s 15 (6 * s.1 9 + 1) (s.2 15 (6 * s.1 9 + 1) + 1)
def gbS (s : cps) (x : Int32) : cps := u2 s 15 (6 * s.1 9 + 5) x
def cfS (s : cps) : cps := u1 (u2 s 15 (6 * s.1 9 + 4) (Int32.ofNat (s.1 8))) 9 (s.1 9 + 1)
/-- how many of the names from k on have that size 0 -/
def cnZ (s : cps) : Nat → Nat → Nat
  | 0, _ => 0
  | f + 1, k => (if s.2 22 k = 0 then 1 else 0) + cnZ s f (k + 1)
def shS (s : cps) (k0 : Nat) : cps := u1 (u1 (u1 (u1 s 11 (s.1 11 - 1)) 12 (s.1 12 - cnZ s (s.1 10 - k0) k0)) 13 (s.1 13 - (s.1 10 - k0 - cnZ s (s.1 10 - k0) k0))) 10 k0
section BGs
variable {d : Nat} {h : mh_H} {B n m : Nat} {Bt : Nat → Int32} {K : Nat → Int32} {P U : Nat → Nat} {V : Nat → Int} {s : cps}
theorem bg_H {k p : Int32} : mh_sr (mh_si (mh_sr (mh_si (mh_si (mh_si (mh_si (mh_si (mh_si (mh_si (mh_si (mh_new (cH h B s) 9 17) (B + (24 + s.1 8)) 8 (-1)) (B + (24 + s.1 8)) 0 k) (B + (24 + s.1 8)) 1 (Int32.ofNat (s.1 8))) (B + (24 + s.1 8)) 2 p) (B + (24 + s.1 8)) 3 (Int32.ofNat (s.1 12))) (B + (24 + s.1 8)) 4 (Int32.ofNat (s.1 13))) (B + (24 + s.1 8)) 10 (Int32.ofNat (s.1 6))) (B + (24 + s.1 8)) 12 (Int32.ofNat (s.1 7))) (B + 14) (s.1 8) (some (B + (24 + s.1 8)))) (B + 5) 13 (Int32.ofNat (s.1 8 + 1))) (B + 16) 8 (some (B + (24 + s.1 8))) = cH h B (bgS s k p) := by
  have nw : mh_n (cH h B s) = B + (24 + s.1 8) := rfl
  have n8 : (bgS s k p).1 8 = s.1 8 + 1 := rfl
  refine mh_xi ?_ ?_ (fun b j => ?_) ?_ ?_ ?_ ?_
  · funext b
    simp only [hk_si, hk_sr, hk_new, nw]
    show (if b = B + (24 + s.1 8) then 9 else if B + 24 ≤ b ∧ b < B + (24 + s.1 8) then 9 else mh_k h b) = (if B + 24 ≤ b ∧ b < B + (24 + (s.1 8 + 1)) then 9 else mh_k h b)
    by_cases c : b = B + (24 + s.1 8)
    · rw [if_pos c, if_pos (by omega)]
    · rw [if_neg c]
      by_cases c2 : B + 24 ≤ b ∧ b < B + (24 + s.1 8)
      · rw [if_pos c2, if_pos (by omega)]
      · rw [if_neg c2, if_neg (by omega)]
  · funext b
    simp only [hl_si, hl_sr, hl_new, nw]
    show (if b = B + (24 + s.1 8) then 17 else if B + 24 ≤ b ∧ b < B + (24 + s.1 8) then 17 else mh_l h b) = (if B + 24 ≤ b ∧ b < B + (24 + (s.1 8 + 1)) then 17 else mh_l h b)
    by_cases c : b = B + (24 + s.1 8)
    · rw [if_pos c, if_pos (by omega)]
    · rw [if_neg c]
      by_cases c2 : B + 24 ≤ b ∧ b < B + (24 + s.1 8)
      · rw [if_pos c2, if_pos (by omega)]
      · rw [if_neg c2, if_neg (by omega)]
  · simp only [hi_si, hi_sr, hi_new, nw]
    show _ = (if b < B + 5 then mh_i h b j else cI (bgS s k p) (b - B) j)
    by_cases c : b = B + (24 + s.1 8)
    · subst c
      rw [if_neg (show ¬ (B + (24 + s.1 8) = B + 5 ∧ j = 13) from by omega), if_neg (show ¬ B + (24 + s.1 8) < B + 5 from by omega), Nat.add_sub_cancel_left]
      unfold cI
      rw [if_pos (ct_S (by omega))]
      show _ = (if 24 + s.1 8 = 24 + s.1 8 then stF s k p j else s.2 (24 + s.1 8) j)
      rw [if_pos rfl]
      simp only [true_and, if_true]
      unfold stF
      by_cases j0 : j = 0
      · subst j0; rfl
      by_cases j1 : j = 1
      · subst j1; rfl
      by_cases j2 : j = 2
      · subst j2; rfl
      by_cases j3 : j = 3
      · subst j3; rfl
      by_cases j4 : j = 4
      · subst j4; rfl
      by_cases j8 : j = 8
      · subst j8; rfl
      by_cases j10 : j = 10
      · subst j10; rfl
      by_cases j12 : j = 12
      · subst j12; rfl
      simp only [j0, j1, j2, j3, j4, j8, j10, j12, if_false]
    · simp only [c, false_and, if_false]
      by_cases c5 : b < B + 5
      · rw [if_neg (by omega), if_pos c5]
        exact cH_i4 c5
      · rw [if_neg c5]
        have e : mh_i (cH h B s) b j = cI s (b - B) j := if_neg c5
        rw [e]
        unfold cI
        by_cases c13 : b = B + 5 ∧ j = 13
        · obtain ⟨x1, x2⟩ := c13
          subst x1; subst x2
          rw [if_pos ⟨rfl, rfl⟩, Nat.add_sub_cancel_left]
          rfl
        · rw [if_neg c13]
          have nn8 : ¬ ct (b - B) j = 8 := fun z => by
            have := (ct_i z).2.2.2.2.2.2.2.2.1 rfl
            omega
          by_cases c99 : ct (b - B) j = 99
          · rw [if_pos c99, if_pos c99]
            show s.2 (b - B) j = (if b - B = 24 + s.1 8 then stF s k p j else s.2 (b - B) j)
            rw [if_neg (by omega)]
          · rw [if_neg c99, if_neg c99]
            show Int32.ofNat (s.1 (ct (b - B) j)) = Int32.ofNat (if ct (b - B) j = 8 then s.1 8 + 1 else s.1 (ct (b - B) j))
            rw [if_neg nn8]
  · funext b j
    simp only [hj_si, hj_sr, hj_new, nw]
    show (if b = B + (24 + s.1 8) then 0 else if B + 24 ≤ b ∧ b < B + (24 + s.1 8) then 0 else mh_j h b j) = (if B + 24 ≤ b ∧ b < B + (24 + (s.1 8 + 1)) then 0 else mh_j h b j)
    by_cases c : b = B + (24 + s.1 8)
    · rw [if_pos c, if_pos (by omega)]
    · rw [if_neg c]
      by_cases c2 : B + 24 ≤ b ∧ b < B + (24 + s.1 8)
      · rw [if_pos c2, if_pos (by omega)]
      · rw [if_neg c2, if_neg (by omega)]
  · funext b j
    simp only [hr_si, hr_sr, hr_nw, nw]
    show (if b = B + 16 ∧ j = 8 then some (B + (24 + s.1 8)) else if b = B + 14 ∧ j = s.1 8 then some (B + (24 + s.1 8)) else if b = B + (24 + s.1 8) then none else if B + 24 ≤ b ∧ b < B + (24 + s.1 8) then none else if b = B + 14 ∧ j < s.1 8 then some (B + (24 + j)) else if b = B + 16 ∧ j = 8 ∧ 0 < s.1 8 then some (B + (23 + s.1 8)) else mh_r h b j) = (if B + 24 ≤ b ∧ b < B + (24 + (s.1 8 + 1)) then none else if b = B + 14 ∧ j < s.1 8 + 1 then some (B + (24 + j)) else if b = B + 16 ∧ j = 8 ∧ 0 < s.1 8 + 1 then some (B + (23 + (s.1 8 + 1))) else mh_r h b j)
    by_cases c1 : b = B + 16 ∧ j = 8
    · rw [if_pos c1, if_neg (by omega), if_neg (by omega), if_pos (by omega)]
      congr 1
      omega
    · rw [if_neg c1]
      by_cases c2 : b = B + 14 ∧ j = s.1 8
      · rw [if_pos c2, if_neg (by omega), if_pos (by omega), c2.2]
      · rw [if_neg c2]
        by_cases c3 : b = B + (24 + s.1 8)
        · rw [if_pos c3, if_pos (by omega)]
        · rw [if_neg c3]
          by_cases c4 : B + 24 ≤ b ∧ b < B + (24 + s.1 8)
          · rw [if_pos c4, if_pos (by omega)]
          · rw [if_neg c4, if_neg (show ¬ (B + 24 ≤ b ∧ b < B + (24 + (s.1 8 + 1))) from by omega)]
            by_cases c5 : b = B + 14 ∧ j < s.1 8
            · rw [if_pos c5, if_pos (by omega)]
            · rw [if_neg c5, if_neg (by omega), if_neg (by omega), if_neg (by omega)]
  · show B + (24 + s.1 8) + 1 = B + (24 + (s.1 8 + 1))
    omega
  · show mh_s h + 17 * s.1 8 + 17 = mh_s h + 17 * (s.1 8 + 1)
    omega
theorem c_57 (b : CPB h B n) (t : CTK h B n m Bt K P U V) {k : Int32} (hi : s.1 1 < m) (h8 : s.1 8 < n / 3 + 2) : ∀ Q, mcall (d + 2) 57 [.ref (B + 16), .int k] (cH h B s) Q = Q none (cH h B (bgS s k (Int32.ofNat (P (s.1 1))))) := by
  intro Q
  have hn := b.n
  have a0 := c_49 (d := d + 1) b t hi
  have e1' : ∀ k, Int32.ofNat k + 1 = Int32.ofNat (k + 1) := fun k => nn_add (a := k) (b := 1)
  have nw : mh_n (cH h B s) = B + (24 + s.1 8) := rfl
  have ne5 : (B + 5 = B + (24 + s.1 8)) = False := eq_false (by omega)
  have ne14 : (B + 14 = B + (24 + s.1 8)) = False := eq_false (by omega)
  have ne16 : (B + 16 = B + (24 + s.1 8)) = False := eq_false (by omega)
  have ne18 : (B + 18 = B + (24 + s.1 8)) = False := eq_false (by omega)
  have ac : me_ac 105 = 9 := rfl
  have lt14 : (B + 14 < B + (24 + s.1 8) + 1) = True := eq_true (by omega)
  clear t
  simp (disch := first | omega | (simp only [u1_1, u1_2, u2_1, u2_2, ↓reduceIte, Nat.reduceAdd, Nat.reduceMul, Nat.reduceSub, Nat.reduceLT, Nat.reduceGT, Nat.reduceEqDiff, Nat.reduceLeDiff, Nat.left_eq_add, Nat.add_eq_left, Nat.reduceMod, Nat.reduceDiv, Nat.succ_ne_self]; omega)) only [s_57_0, s_57_1, s_57_2, s_57_5, s_57_6, s_57_7, s_57_10, s_57_11, s_57_14, s_57_17, s_57_18, s_57_21, s_57_24, s_57_27, s_57_27n, s_57_30, e_57, s_132_0, s_132_3, s_132_4, s_132_5, s_132_6, s_132_9, s_132_10, s_132_11, s_132_13, s_132_16, s_132_16n, s_132_18, s_132_20, s_132_21, s_132_24, s_132_27, s_132_29, s_132_30, s_132_33, s_132_36, s_132_37, s_132_40, s_132_41, s_132_44, s_132_46, s_132_46n, s_132_47, s_132_48, s_132_49, s_132_52, s_132_53, s_132_54, s_132_57, s_132_59, s_132_59n, e_132, s_164_0, s_164_1, s_164_4, s_164_5, s_164_6, s_164_9, s_164_10, s_164_11, s_164_14, s_164_15, s_164_16, s_164_19, s_164_20, s_164_21, s_164_24, s_164_25, s_164_27, s_164_30, s_164_31, s_164_33, s_164_36, e_164, mv_i_1, mv_l_1, mv_a_1, mv_a_2, mv_a_3, mk2_n, mk2_i, mk2_l, mk2_a, mk2_u, mk2_x, mB_T, mB_F, mS_cons, mS_nil, mSB_T, mSB_F, mca_nil, mca_i, mca_l, mca_r, mca_u, mca_x, mcat_i, mcat_l, mcat_r, mcat_u, mcat_x, mK_some, mK_none, va_rf_s, va_rf_n, lgc_eq, lgc_lt, lgc_gt, lgc_ge, lgc_le, mrd_104, mrd_105, mrd_106, mrd_107, true_and, and_true, and_self, false_and, and_false, true_or, or_true, false_or, or_false, not_true_eq_false, not_false_eq_true, mgb, mga, mgr, mN, reduceCtorEq, ↓reduceIte, eq_self, ge_iff_le, gt_iff_lt, Nat.reduceAdd, Nat.reduceMul, Nat.reduceSub, Nat.reduceLT, Nat.reduceGT, Nat.reduceEqDiff, Nat.reduceLeDiff, Nat.left_eq_add, Nat.add_eq_left, Nat.reduceMod, Nat.reduceDiv, Nat.succ_ne_self, ci_c0, cs_c0, ci_c1, cs_c1, ci_c2, cs_c2, ci_c3, cs_c3, ci_c4, cs_c4, ci_c5, cs_c5, ci_c6, cs_c6, ci_c7, cs_c7, ci_c8, ci_c9, cs_c9, ci_c10, cs_c10, ci_c11, cs_c11, ci_c12, cs_c12, ci_c13, cs_c13, ci_r6, cs_r6, ci_r7, cs_r7, ci_r8, cs_r8, ci_r9, cs_r9, ci_r10, cs_r10, ci_r11, cs_r11, ci_r12, cs_r12, ci_r13, cs_r13, ci_r15, cs_r15, ci_r17, cs_r17, ci_r19, cs_r19, ci_r20, cs_r20, ci_r21, cs_r21, ci_r22, cs_r22, ci_r23, cs_r23, ci_p7, cs_p7, ci_p11, cs_p11, ci_p12, cs_p12, ci_p13, cs_p13, ci_S, cs_S, ci_t, ci_t1, ci_t2, ci_t3, ci_t4, cg_0 b, cg_1 b, cln_1 b, cg_2 b, cln_2 b, cg_3 b, cln_3 b, cg_4 b, cln_4 b, cg_5 b, cg_6 b, cln_6 b, cg_7 b, cln_7 b, cg_8 b, cln_8 b, cg_9 b, cln_9 b, cg_10 b, cln_10 b, cg_11 b, cln_11 b, cg_12 b, cln_12 b, cg_13 b, cln_13 b, cg_14 b, cln_14 b, cg_15 b, cln_15 b, cg_16 b, cg_17 b, cln_17 b, cg_18 b, cg_19 b, cln_19 b, cg_20 b, cln_20 b, cg_21 b, cln_21 b, cg_22 b, cln_22 b, cg_23 b, cln_23 b, ck_14 b, cr_0_0 b, cr_0_1 b, cr_0_2 b, cr_0_3 b, cr_5_0 b, cr_5_2 b, cr_5_3 b, cr_5_4 b, cr_5_6 b, cr_5_7 b, cr_5_9 b, cr_5_10 b, cr_5_12 b, cr_5_14 b, cr_16_0 b, cr_16_1 b, cr_16_2 b, cr_16_3 b, cr_16_9 b, cr_18_0 b, cr_18_1 b, cr_18_2 b, cr_18_3 b, cr_18_5 b, cr_16_8, cr_14, cg_S, u1_1, u1_2, u2_1, u2_2, hk_si, hk_sj, hk_sr, hl_si, hl_sj, hl_sr, hn_si, hn_sj, hn_sr, hs_si, hs_sj, hs_sr, hi_sj, hi_sr, hj_si, hj_sr, hr_si, hr_sj, hi_si, hj_sj, hr_sr, mg_si, mg_sj, mg_sr, a0, nw, hk_new, hl_new, hi_new, hr_nw, hn_new, mg_new, ne5, ne14, ne16, ne18, ac, nn_mxT, nn_clamp, e1', lt14, bg_H]
theorem c_133 (b : CPB h B n) {i : Nat} (hc : 6 * s.1 9 + 5 < 6 * (n / 9 + 2)) : ∀ Q, mcall d 133 [.ref (B + 5), .int (Int32.ofNat i)] (cH h B s) Q = Q none (cH h B (ofS s i)) := by
  intro Q
  have hn := b.n
  have e0' : ∀ k, Int32.ofNat k + 0 = Int32.ofNat k := fun k => Int32.add_zero _
  have e1' : ∀ k, Int32.ofNat k + 1 = Int32.ofNat (k + 1) := fun k => nn_add (a := k) (b := 1)
  have e2' : ∀ k, Int32.ofNat k + 2 = Int32.ofNat (k + 2) := fun k => nn_add (a := k) (b := 2)
  have e3' : ∀ k, Int32.ofNat k + 3 = Int32.ofNat (k + 3) := fun k => nn_add (a := k) (b := 3)
  have e5' : ∀ k, Int32.ofNat k + 5 = Int32.ofNat (k + 5) := fun k => nn_add (a := k) (b := 5)
  have e6' : ∀ k, 6 * Int32.ofNat k = Int32.ofNat (6 * k) := fun k => nn_mul (a := 6) (b := k)
  simp (disch := first | omega | (simp only [u1_1, u1_2, u2_1, u2_2, ↓reduceIte, Nat.reduceAdd, Nat.reduceMul, Nat.reduceSub, Nat.reduceLT, Nat.reduceGT, Nat.reduceEqDiff, Nat.reduceLeDiff, Nat.left_eq_add, Nat.add_eq_left, Nat.reduceMod, Nat.reduceDiv, Nat.succ_ne_self]; omega)) only [s_133_0, s_133_2, s_133_3, s_133_6, s_133_7, s_133_8, s_133_9, s_133_12, s_133_13, s_133_14, s_133_15, s_133_16, s_133_17, s_133_18, s_133_21, s_133_22, s_133_23, s_133_24, s_133_25, s_133_26, s_133_27, s_133_30, s_133_31, s_133_32, s_133_33, s_133_34, s_133_35, s_133_36, s_133_39, s_133_40, s_133_41, s_133_42, s_133_43, s_133_46, s_133_47, s_133_48, s_133_51, s_133_52, s_133_53, s_133_54, s_133_55, s_133_56, e_133, mv_i_1, mv_l_1, mv_a_1, mv_a_2, mv_a_3, mk2_n, mk2_i, mk2_l, mk2_a, mk2_u, mk2_x, mB_T, mB_F, mS_cons, mS_nil, mSB_T, mSB_F, mca_nil, mca_i, mca_l, mca_r, mca_u, mca_x, mcat_i, mcat_l, mcat_r, mcat_u, mcat_x, mK_some, mK_none, va_rf_s, va_rf_n, lgc_eq, lgc_lt, lgc_gt, lgc_ge, lgc_le, mrd_104, mrd_105, mrd_106, mrd_107, true_and, and_true, and_self, false_and, and_false, true_or, or_true, false_or, or_false, not_true_eq_false, not_false_eq_true, mgb, mga, mgr, mN, reduceCtorEq, ↓reduceIte, eq_self, ge_iff_le, gt_iff_lt, Nat.reduceAdd, Nat.reduceMul, Nat.reduceSub, Nat.reduceLT, Nat.reduceGT, Nat.reduceEqDiff, Nat.reduceLeDiff, Nat.left_eq_add, Nat.add_eq_left, Nat.reduceMod, Nat.reduceDiv, Nat.succ_ne_self, ci_c0, cs_c0, ci_c1, cs_c1, ci_c2, cs_c2, ci_c3, cs_c3, ci_c4, cs_c4, ci_c5, cs_c5, ci_c6, cs_c6, ci_c7, cs_c7, ci_c8, ci_c9, cs_c9, ci_c10, cs_c10, ci_c11, cs_c11, ci_c12, cs_c12, ci_c13, cs_c13, ci_r6, cs_r6, ci_r7, cs_r7, ci_r8, cs_r8, ci_r9, cs_r9, ci_r10, cs_r10, ci_r11, cs_r11, ci_r12, cs_r12, ci_r13, cs_r13, ci_r15, cs_r15, ci_r17, cs_r17, ci_r19, cs_r19, ci_r20, cs_r20, ci_r21, cs_r21, ci_r22, cs_r22, ci_r23, cs_r23, ci_p7, cs_p7, ci_p11, cs_p11, ci_p12, cs_p12, ci_p13, cs_p13, ci_S, cs_S, ci_t, ci_t1, ci_t2, ci_t3, ci_t4, cg_0 b, cg_1 b, cln_1 b, cg_2 b, cln_2 b, cg_3 b, cln_3 b, cg_4 b, cln_4 b, cg_5 b, cg_6 b, cln_6 b, cg_7 b, cln_7 b, cg_8 b, cln_8 b, cg_9 b, cln_9 b, cg_10 b, cln_10 b, cg_11 b, cln_11 b, cg_12 b, cln_12 b, cg_13 b, cln_13 b, cg_14 b, cln_14 b, cg_15 b, cln_15 b, cg_16 b, cg_17 b, cln_17 b, cg_18 b, cg_19 b, cln_19 b, cg_20 b, cln_20 b, cg_21 b, cln_21 b, cg_22 b, cln_22 b, cg_23 b, cln_23 b, ck_14 b, cr_0_0 b, cr_0_1 b, cr_0_2 b, cr_0_3 b, cr_5_0 b, cr_5_2 b, cr_5_3 b, cr_5_4 b, cr_5_6 b, cr_5_7 b, cr_5_9 b, cr_5_10 b, cr_5_12 b, cr_5_14 b, cr_16_0 b, cr_16_1 b, cr_16_2 b, cr_16_3 b, cr_16_9 b, cr_18_0 b, cr_18_1 b, cr_18_2 b, cr_18_3 b, cr_18_5 b, cr_16_8, cr_14, cg_S, u1_1, u1_2, u2_1, u2_2, nn_mxT, nn_clamp, e0', e1', e2', e3', e5', e6', ofS]
theorem c_134 (b : CPB h B n) {tw : Bool} {i : Int32} (hc : 6 * s.1 9 + 5 < 6 * (n / 9 + 2)) : ∀ Q, mcall d 134 [.ref (B + 5), .int (kb tw), .int i] (cH h B s) Q = Q none (cH h B (cpS s tw i)) := by
  intro Q
  have hn := b.n
  have e1' : ∀ k, Int32.ofNat k + 1 = Int32.ofNat (k + 1) := fun k => nn_add (a := k) (b := 1)
  have e2' : ∀ k, Int32.ofNat k + 2 = Int32.ofNat (k + 2) := fun k => nn_add (a := k) (b := 2)
  have e6' : ∀ k, 6 * Int32.ofNat k = Int32.ofNat (6 * k) := fun k => nn_mul (a := 6) (b := k)
  have k1 : kb true = 1 := rfl
  have k0 : kb false = 0 := rfl
  have n1 : ((1 : Int32) = 0) = False := by decide
  have ne : (6 * s.1 9 + 2 = 6 * s.1 9 + 1) = False := eq_false (by omega)
  unfold cpS
  cases tw with
  | false =>
    rw [if_neg (fun z => absurd z.1 (by decide))]
    simp (disch := first | omega | (simp only [u1_1, u1_2, u2_1, u2_2, ↓reduceIte, Nat.reduceAdd, Nat.reduceMul, Nat.reduceSub, Nat.reduceLT, Nat.reduceGT, Nat.reduceEqDiff, Nat.reduceLeDiff, Nat.left_eq_add, Nat.add_eq_left, Nat.reduceMod, Nat.reduceDiv, Nat.succ_ne_self]; omega)) only [s_134_0, s_134_2, s_134_3, s_134_6, s_134_7, s_134_8, s_134_9, s_134_12, s_134_13, s_134_14, s_134_15, s_134_15l, s_134_16, s_134_17, s_134_18, s_134_19, s_134_20, s_134_21, s_134_24, s_134_25, s_134_28, s_134_29, s_134_30, s_134_31, s_134_32, s_134_33, s_134_36, s_134_37, s_134_40, s_134_41, s_134_42, s_134_43, s_134_44, s_134_45, e_134, mv_i_1, mv_l_1, mv_a_1, mv_a_2, mv_a_3, mk2_n, mk2_i, mk2_l, mk2_a, mk2_u, mk2_x, mB_T, mB_F, mS_cons, mS_nil, mSB_T, mSB_F, mca_nil, mca_i, mca_l, mca_r, mca_u, mca_x, mcat_i, mcat_l, mcat_r, mcat_u, mcat_x, mK_some, mK_none, va_rf_s, va_rf_n, lgc_eq, lgc_lt, lgc_gt, lgc_ge, lgc_le, mrd_104, mrd_105, mrd_106, mrd_107, true_and, and_true, and_self, false_and, and_false, true_or, or_true, false_or, or_false, not_true_eq_false, not_false_eq_true, mgb, mga, mgr, mN, reduceCtorEq, ↓reduceIte, eq_self, ge_iff_le, gt_iff_lt, Nat.reduceAdd, Nat.reduceMul, Nat.reduceSub, Nat.reduceLT, Nat.reduceGT, Nat.reduceEqDiff, Nat.reduceLeDiff, Nat.left_eq_add, Nat.add_eq_left, Nat.reduceMod, Nat.reduceDiv, Nat.succ_ne_self, ci_c0, cs_c0, ci_c1, cs_c1, ci_c2, cs_c2, ci_c3, cs_c3, ci_c4, cs_c4, ci_c5, cs_c5, ci_c6, cs_c6, ci_c7, cs_c7, ci_c8, ci_c9, cs_c9, ci_c10, cs_c10, ci_c11, cs_c11, ci_c12, cs_c12, ci_c13, cs_c13, ci_r6, cs_r6, ci_r7, cs_r7, ci_r8, cs_r8, ci_r9, cs_r9, ci_r10, cs_r10, ci_r11, cs_r11, ci_r12, cs_r12, ci_r13, cs_r13, ci_r15, cs_r15, ci_r17, cs_r17, ci_r19, cs_r19, ci_r20, cs_r20, ci_r21, cs_r21, ci_r22, cs_r22, ci_r23, cs_r23, ci_p7, cs_p7, ci_p11, cs_p11, ci_p12, cs_p12, ci_p13, cs_p13, ci_S, cs_S, ci_t, ci_t1, ci_t2, ci_t3, ci_t4, cg_0 b, cg_1 b, cln_1 b, cg_2 b, cln_2 b, cg_3 b, cln_3 b, cg_4 b, cln_4 b, cg_5 b, cg_6 b, cln_6 b, cg_7 b, cln_7 b, cg_8 b, cln_8 b, cg_9 b, cln_9 b, cg_10 b, cln_10 b, cg_11 b, cln_11 b, cg_12 b, cln_12 b, cg_13 b, cln_13 b, cg_14 b, cln_14 b, cg_15 b, cln_15 b, cg_16 b, cg_17 b, cln_17 b, cg_18 b, cg_19 b, cln_19 b, cg_20 b, cln_20 b, cg_21 b, cln_21 b, cg_22 b, cln_22 b, cg_23 b, cln_23 b, ck_14 b, cr_0_0 b, cr_0_1 b, cr_0_2 b, cr_0_3 b, cr_5_0 b, cr_5_2 b, cr_5_3 b, cr_5_4 b, cr_5_6 b, cr_5_7 b, cr_5_9 b, cr_5_10 b, cr_5_12 b, cr_5_14 b, cr_16_0 b, cr_16_1 b, cr_16_2 b, cr_16_3 b, cr_16_9 b, cr_18_0 b, cr_18_1 b, cr_18_2 b, cr_18_3 b, cr_18_5 b, cr_16_8, cr_14, cg_S, u1_1, u1_2, u2_1, u2_2, nn_mxT, nn_clamp, e1', e2', e6', k0]
  | true =>
    by_cases c : s.2 15 (6 * s.1 9 + 2) = -1
    · rw [if_pos ⟨rfl, c⟩]
      have c' := eq_true c
      simp (disch := first | omega | (simp only [u1_1, u1_2, u2_1, u2_2, ↓reduceIte, Nat.reduceAdd, Nat.reduceMul, Nat.reduceSub, Nat.reduceLT, Nat.reduceGT, Nat.reduceEqDiff, Nat.reduceLeDiff, Nat.left_eq_add, Nat.add_eq_left, Nat.reduceMod, Nat.reduceDiv, Nat.succ_ne_self]; omega)) only [s_134_0, s_134_2, s_134_3, s_134_6, s_134_7, s_134_8, s_134_9, s_134_12, s_134_13, s_134_14, s_134_15, s_134_15l, s_134_16, s_134_17, s_134_18, s_134_19, s_134_20, s_134_21, s_134_24, s_134_25, s_134_28, s_134_29, s_134_30, s_134_31, s_134_32, s_134_33, s_134_36, s_134_37, s_134_40, s_134_41, s_134_42, s_134_43, s_134_44, s_134_45, e_134, mv_i_1, mv_l_1, mv_a_1, mv_a_2, mv_a_3, mk2_n, mk2_i, mk2_l, mk2_a, mk2_u, mk2_x, mB_T, mB_F, mS_cons, mS_nil, mSB_T, mSB_F, mca_nil, mca_i, mca_l, mca_r, mca_u, mca_x, mcat_i, mcat_l, mcat_r, mcat_u, mcat_x, mK_some, mK_none, va_rf_s, va_rf_n, lgc_eq, lgc_lt, lgc_gt, lgc_ge, lgc_le, mrd_104, mrd_105, mrd_106, mrd_107, true_and, and_true, and_self, false_and, and_false, true_or, or_true, false_or, or_false, not_true_eq_false, not_false_eq_true, mgb, mga, mgr, mN, reduceCtorEq, ↓reduceIte, eq_self, ge_iff_le, gt_iff_lt, Nat.reduceAdd, Nat.reduceMul, Nat.reduceSub, Nat.reduceLT, Nat.reduceGT, Nat.reduceEqDiff, Nat.reduceLeDiff, Nat.left_eq_add, Nat.add_eq_left, Nat.reduceMod, Nat.reduceDiv, Nat.succ_ne_self, ci_c0, cs_c0, ci_c1, cs_c1, ci_c2, cs_c2, ci_c3, cs_c3, ci_c4, cs_c4, ci_c5, cs_c5, ci_c6, cs_c6, ci_c7, cs_c7, ci_c8, ci_c9, cs_c9, ci_c10, cs_c10, ci_c11, cs_c11, ci_c12, cs_c12, ci_c13, cs_c13, ci_r6, cs_r6, ci_r7, cs_r7, ci_r8, cs_r8, ci_r9, cs_r9, ci_r10, cs_r10, ci_r11, cs_r11, ci_r12, cs_r12, ci_r13, cs_r13, ci_r15, cs_r15, ci_r17, cs_r17, ci_r19, cs_r19, ci_r20, cs_r20, ci_r21, cs_r21, ci_r22, cs_r22, ci_r23, cs_r23, ci_p7, cs_p7, ci_p11, cs_p11, ci_p12, cs_p12, ci_p13, cs_p13, ci_S, cs_S, ci_t, ci_t1, ci_t2, ci_t3, ci_t4, cg_0 b, cg_1 b, cln_1 b, cg_2 b, cln_2 b, cg_3 b, cln_3 b, cg_4 b, cln_4 b, cg_5 b, cg_6 b, cln_6 b, cg_7 b, cln_7 b, cg_8 b, cln_8 b, cg_9 b, cln_9 b, cg_10 b, cln_10 b, cg_11 b, cln_11 b, cg_12 b, cln_12 b, cg_13 b, cln_13 b, cg_14 b, cln_14 b, cg_15 b, cln_15 b, cg_16 b, cg_17 b, cln_17 b, cg_18 b, cg_19 b, cln_19 b, cg_20 b, cln_20 b, cg_21 b, cln_21 b, cg_22 b, cln_22 b, cg_23 b, cln_23 b, ck_14 b, cr_0_0 b, cr_0_1 b, cr_0_2 b, cr_0_3 b, cr_5_0 b, cr_5_2 b, cr_5_3 b, cr_5_4 b, cr_5_6 b, cr_5_7 b, cr_5_9 b, cr_5_10 b, cr_5_12 b, cr_5_14 b, cr_16_0 b, cr_16_1 b, cr_16_2 b, cr_16_3 b, cr_16_9 b, cr_18_0 b, cr_18_1 b, cr_18_2 b, cr_18_3 b, cr_18_5 b, cr_16_8, cr_14, cg_S, u1_1, u1_2, u2_1, u2_2, nn_mxT, nn_clamp, e1', e2', e6', k1, n1, ne, c']
    · rw [if_neg (fun z => c z.2)]
      have c' := eq_false c
      simp (disch := first | omega | (simp only [u1_1, u1_2, u2_1, u2_2, ↓reduceIte, Nat.reduceAdd, Nat.reduceMul, Nat.reduceSub, Nat.reduceLT, Nat.reduceGT, Nat.reduceEqDiff, Nat.reduceLeDiff, Nat.left_eq_add, Nat.add_eq_left, Nat.reduceMod, Nat.reduceDiv, Nat.succ_ne_self]; omega)) only [s_134_0, s_134_2, s_134_3, s_134_6, s_134_7, s_134_8, s_134_9, s_134_12, s_134_13, s_134_14, s_134_15, s_134_15l, s_134_16, s_134_17, s_134_18, s_134_19, s_134_20, s_134_21, s_134_24, s_134_25, s_134_28, s_134_29, s_134_30, s_134_31, s_134_32, s_134_33, s_134_36, s_134_37, s_134_40, s_134_41, s_134_42, s_134_43, s_134_44, s_134_45, e_134, mv_i_1, mv_l_1, mv_a_1, mv_a_2, mv_a_3, mk2_n, mk2_i, mk2_l, mk2_a, mk2_u, mk2_x, mB_T, mB_F, mS_cons, mS_nil, mSB_T, mSB_F, mca_nil, mca_i, mca_l, mca_r, mca_u, mca_x, mcat_i, mcat_l, mcat_r, mcat_u, mcat_x, mK_some, mK_none, va_rf_s, va_rf_n, lgc_eq, lgc_lt, lgc_gt, lgc_ge, lgc_le, mrd_104, mrd_105, mrd_106, mrd_107, true_and, and_true, and_self, false_and, and_false, true_or, or_true, false_or, or_false, not_true_eq_false, not_false_eq_true, mgb, mga, mgr, mN, reduceCtorEq, ↓reduceIte, eq_self, ge_iff_le, gt_iff_lt, Nat.reduceAdd, Nat.reduceMul, Nat.reduceSub, Nat.reduceLT, Nat.reduceGT, Nat.reduceEqDiff, Nat.reduceLeDiff, Nat.left_eq_add, Nat.add_eq_left, Nat.reduceMod, Nat.reduceDiv, Nat.succ_ne_self, ci_c0, cs_c0, ci_c1, cs_c1, ci_c2, cs_c2, ci_c3, cs_c3, ci_c4, cs_c4, ci_c5, cs_c5, ci_c6, cs_c6, ci_c7, cs_c7, ci_c8, ci_c9, cs_c9, ci_c10, cs_c10, ci_c11, cs_c11, ci_c12, cs_c12, ci_c13, cs_c13, ci_r6, cs_r6, ci_r7, cs_r7, ci_r8, cs_r8, ci_r9, cs_r9, ci_r10, cs_r10, ci_r11, cs_r11, ci_r12, cs_r12, ci_r13, cs_r13, ci_r15, cs_r15, ci_r17, cs_r17, ci_r19, cs_r19, ci_r20, cs_r20, ci_r21, cs_r21, ci_r22, cs_r22, ci_r23, cs_r23, ci_p7, cs_p7, ci_p11, cs_p11, ci_p12, cs_p12, ci_p13, cs_p13, ci_S, cs_S, ci_t, ci_t1, ci_t2, ci_t3, ci_t4, cg_0 b, cg_1 b, cln_1 b, cg_2 b, cln_2 b, cg_3 b, cln_3 b, cg_4 b, cln_4 b, cg_5 b, cg_6 b, cln_6 b, cg_7 b, cln_7 b, cg_8 b, cln_8 b, cg_9 b, cln_9 b, cg_10 b, cln_10 b, cg_11 b, cln_11 b, cg_12 b, cln_12 b, cg_13 b, cln_13 b, cg_14 b, cln_14 b, cg_15 b, cln_15 b, cg_16 b, cg_17 b, cln_17 b, cg_18 b, cg_19 b, cln_19 b, cg_20 b, cln_20 b, cg_21 b, cln_21 b, cg_22 b, cln_22 b, cg_23 b, cln_23 b, ck_14 b, cr_0_0 b, cr_0_1 b, cr_0_2 b, cr_0_3 b, cr_5_0 b, cr_5_2 b, cr_5_3 b, cr_5_4 b, cr_5_6 b, cr_5_7 b, cr_5_9 b, cr_5_10 b, cr_5_12 b, cr_5_14 b, cr_16_0 b, cr_16_1 b, cr_16_2 b, cr_16_3 b, cr_16_9 b, cr_18_0 b, cr_18_1 b, cr_18_2 b, cr_18_3 b, cr_18_5 b, cr_16_8, cr_14, cg_S, u1_1, u1_2, u2_1, u2_2, nn_mxT, nn_clamp, e1', e2', e6', k1, n1, ne, c']
theorem c_135 (b : CPB h B n) {x : Int32} (hc : 6 * s.1 9 + 5 < 6 * (n / 9 + 2)) : ∀ Q, mcall d 135 [.ref (B + 5), .int x] (cH h B s) Q = Q none (cH h B (gbS s x)) := by
  intro Q
  have hn := b.n
  have e5' : ∀ k, Int32.ofNat k + 5 = Int32.ofNat (k + 5) := fun k => nn_add (a := k) (b := 5)
  have e6' : ∀ k, 6 * Int32.ofNat k = Int32.ofNat (6 * k) := fun k => nn_mul (a := 6) (b := k)
  simp (disch := first | omega | (simp only [u1_1, u1_2, u2_1, u2_2, ↓reduceIte, Nat.reduceAdd, Nat.reduceMul, Nat.reduceSub, Nat.reduceLT, Nat.reduceGT, Nat.reduceEqDiff, Nat.reduceLeDiff, Nat.left_eq_add, Nat.add_eq_left, Nat.reduceMod, Nat.reduceDiv, Nat.succ_ne_self]; omega)) only [s_135_0, s_135_1, s_135_4, s_135_6, s_135_7, s_135_10, s_135_11, s_135_12, s_135_13, s_135_14, s_135_15, e_135, mv_i_1, mv_l_1, mv_a_1, mv_a_2, mv_a_3, mk2_n, mk2_i, mk2_l, mk2_a, mk2_u, mk2_x, mB_T, mB_F, mS_cons, mS_nil, mSB_T, mSB_F, mca_nil, mca_i, mca_l, mca_r, mca_u, mca_x, mcat_i, mcat_l, mcat_r, mcat_u, mcat_x, mK_some, mK_none, va_rf_s, va_rf_n, lgc_eq, lgc_lt, lgc_gt, lgc_ge, lgc_le, mrd_104, mrd_105, mrd_106, mrd_107, true_and, and_true, and_self, false_and, and_false, true_or, or_true, false_or, or_false, not_true_eq_false, not_false_eq_true, mgb, mga, mgr, mN, reduceCtorEq, ↓reduceIte, eq_self, ge_iff_le, gt_iff_lt, Nat.reduceAdd, Nat.reduceMul, Nat.reduceSub, Nat.reduceLT, Nat.reduceGT, Nat.reduceEqDiff, Nat.reduceLeDiff, Nat.left_eq_add, Nat.add_eq_left, Nat.reduceMod, Nat.reduceDiv, Nat.succ_ne_self, ci_c0, cs_c0, ci_c1, cs_c1, ci_c2, cs_c2, ci_c3, cs_c3, ci_c4, cs_c4, ci_c5, cs_c5, ci_c6, cs_c6, ci_c7, cs_c7, ci_c8, ci_c9, cs_c9, ci_c10, cs_c10, ci_c11, cs_c11, ci_c12, cs_c12, ci_c13, cs_c13, ci_r6, cs_r6, ci_r7, cs_r7, ci_r8, cs_r8, ci_r9, cs_r9, ci_r10, cs_r10, ci_r11, cs_r11, ci_r12, cs_r12, ci_r13, cs_r13, ci_r15, cs_r15, ci_r17, cs_r17, ci_r19, cs_r19, ci_r20, cs_r20, ci_r21, cs_r21, ci_r22, cs_r22, ci_r23, cs_r23, ci_p7, cs_p7, ci_p11, cs_p11, ci_p12, cs_p12, ci_p13, cs_p13, ci_S, cs_S, ci_t, ci_t1, ci_t2, ci_t3, ci_t4, cg_0 b, cg_1 b, cln_1 b, cg_2 b, cln_2 b, cg_3 b, cln_3 b, cg_4 b, cln_4 b, cg_5 b, cg_6 b, cln_6 b, cg_7 b, cln_7 b, cg_8 b, cln_8 b, cg_9 b, cln_9 b, cg_10 b, cln_10 b, cg_11 b, cln_11 b, cg_12 b, cln_12 b, cg_13 b, cln_13 b, cg_14 b, cln_14 b, cg_15 b, cln_15 b, cg_16 b, cg_17 b, cln_17 b, cg_18 b, cg_19 b, cln_19 b, cg_20 b, cln_20 b, cg_21 b, cln_21 b, cg_22 b, cln_22 b, cg_23 b, cln_23 b, ck_14 b, cr_0_0 b, cr_0_1 b, cr_0_2 b, cr_0_3 b, cr_5_0 b, cr_5_2 b, cr_5_3 b, cr_5_4 b, cr_5_6 b, cr_5_7 b, cr_5_9 b, cr_5_10 b, cr_5_12 b, cr_5_14 b, cr_16_0 b, cr_16_1 b, cr_16_2 b, cr_16_3 b, cr_16_9 b, cr_18_0 b, cr_18_1 b, cr_18_2 b, cr_18_3 b, cr_18_5 b, cr_16_8, cr_14, cg_S, u1_1, u1_2, u2_1, u2_2, nn_mxT, nn_clamp, e5', e6', gbS]
theorem c_136 (b : CPB h B n) (hc : 6 * s.1 9 + 5 < 6 * (n / 9 + 2)) : ∀ Q, mcall d 136 [.ref (B + 5)] (cH h B s) Q = Q none (cH h B (cfS s)) := by
  intro Q
  have hn := b.n
  have e1' : ∀ k, Int32.ofNat k + 1 = Int32.ofNat (k + 1) := fun k => nn_add (a := k) (b := 1)
  have e4' : ∀ k, Int32.ofNat k + 4 = Int32.ofNat (k + 4) := fun k => nn_add (a := k) (b := 4)
  have e6' : ∀ k, 6 * Int32.ofNat k = Int32.ofNat (6 * k) := fun k => nn_mul (a := 6) (b := k)
  simp (disch := first | omega | (simp only [u1_1, u1_2, u2_1, u2_2, ↓reduceIte, Nat.reduceAdd, Nat.reduceMul, Nat.reduceSub, Nat.reduceLT, Nat.reduceGT, Nat.reduceEqDiff, Nat.reduceLeDiff, Nat.left_eq_add, Nat.add_eq_left, Nat.reduceMod, Nat.reduceDiv, Nat.succ_ne_self]; omega)) only [s_136_0, s_136_1, s_136_4, s_136_6, s_136_7, s_136_10, s_136_11, s_136_12, s_136_13, s_136_14, s_136_17, s_136_18, s_136_19, s_136_20, s_136_23, s_136_24, s_136_25, s_136_28, e_136, mv_i_1, mv_l_1, mv_a_1, mv_a_2, mv_a_3, mk2_n, mk2_i, mk2_l, mk2_a, mk2_u, mk2_x, mB_T, mB_F, mS_cons, mS_nil, mSB_T, mSB_F, mca_nil, mca_i, mca_l, mca_r, mca_u, mca_x, mcat_i, mcat_l, mcat_r, mcat_u, mcat_x, mK_some, mK_none, va_rf_s, va_rf_n, lgc_eq, lgc_lt, lgc_gt, lgc_ge, lgc_le, mrd_104, mrd_105, mrd_106, mrd_107, true_and, and_true, and_self, false_and, and_false, true_or, or_true, false_or, or_false, not_true_eq_false, not_false_eq_true, mgb, mga, mgr, mN, reduceCtorEq, ↓reduceIte, eq_self, ge_iff_le, gt_iff_lt, Nat.reduceAdd, Nat.reduceMul, Nat.reduceSub, Nat.reduceLT, Nat.reduceGT, Nat.reduceEqDiff, Nat.reduceLeDiff, Nat.left_eq_add, Nat.add_eq_left, Nat.reduceMod, Nat.reduceDiv, Nat.succ_ne_self, ci_c0, cs_c0, ci_c1, cs_c1, ci_c2, cs_c2, ci_c3, cs_c3, ci_c4, cs_c4, ci_c5, cs_c5, ci_c6, cs_c6, ci_c7, cs_c7, ci_c8, ci_c9, cs_c9, ci_c10, cs_c10, ci_c11, cs_c11, ci_c12, cs_c12, ci_c13, cs_c13, ci_r6, cs_r6, ci_r7, cs_r7, ci_r8, cs_r8, ci_r9, cs_r9, ci_r10, cs_r10, ci_r11, cs_r11, ci_r12, cs_r12, ci_r13, cs_r13, ci_r15, cs_r15, ci_r17, cs_r17, ci_r19, cs_r19, ci_r20, cs_r20, ci_r21, cs_r21, ci_r22, cs_r22, ci_r23, cs_r23, ci_p7, cs_p7, ci_p11, cs_p11, ci_p12, cs_p12, ci_p13, cs_p13, ci_S, cs_S, ci_t, ci_t1, ci_t2, ci_t3, ci_t4, cg_0 b, cg_1 b, cln_1 b, cg_2 b, cln_2 b, cg_3 b, cln_3 b, cg_4 b, cln_4 b, cg_5 b, cg_6 b, cln_6 b, cg_7 b, cln_7 b, cg_8 b, cln_8 b, cg_9 b, cln_9 b, cg_10 b, cln_10 b, cg_11 b, cln_11 b, cg_12 b, cln_12 b, cg_13 b, cln_13 b, cg_14 b, cln_14 b, cg_15 b, cln_15 b, cg_16 b, cg_17 b, cln_17 b, cg_18 b, cg_19 b, cln_19 b, cg_20 b, cln_20 b, cg_21 b, cln_21 b, cg_22 b, cln_22 b, cg_23 b, cln_23 b, ck_14 b, cr_0_0 b, cr_0_1 b, cr_0_2 b, cr_0_3 b, cr_5_0 b, cr_5_2 b, cr_5_3 b, cr_5_4 b, cr_5_6 b, cr_5_7 b, cr_5_9 b, cr_5_10 b, cr_5_12 b, cr_5_14 b, cr_16_0 b, cr_16_1 b, cr_16_2 b, cr_16_3 b, cr_16_9 b, cr_18_0 b, cr_18_1 b, cr_18_2 b, cr_18_3 b, cr_18_5 b, cr_16_8, cr_14, cg_S, u1_1, u1_2, u2_1, u2_2, nn_mxT, nn_clamp, e1', e4', e6', cfS]
theorem cnZ_b : ∀ f k, cnZ s f k ≤ f := by
  intro f
  induction f with
  | zero => exact fun k => Nat.le_refl _
  | succ f ih =>
    intro k
    show (if s.2 22 k = 0 then 1 else 0) + cnZ s f (k + 1) ≤ f + 1
    have := ih (k + 1)
    split <;> omega
theorem l_118 (b : CPB h B n) {c : Nat} (h10 : s.1 10 = c) (hc : c ≤ n / 2 + 1) : ∀ f k nu ar, k + f = c → cnZ s f k ≤ nu → f - cnZ s f k ≤ ar → ∀ Q, mw d 118 Q 20 [some (.ref (B + 18)), some (.int (Int32.ofNat k))] [] (cH h B (u1 (u1 s 12 nu) 13 ar)) = mw d 118 Q 66 [some (.ref (B + 18)), some (.int (Int32.ofNat c))] [] (cH h B (u1 (u1 s 12 (nu - cnZ s f k)) 13 (ar - (f - cnZ s f k)))) := by
  have hn := b.n
  have e1' : ∀ k, Int32.ofNat k + 1 = Int32.ofNat (k + 1) := fun k => nn_add (a := k) (b := 1)
  intro f
  induction f with
  | zero =>
    intro k nu ar hk h1 h2 Q
    have c' : (c ≤ k) = True := eq_true (by omega)
    have ek : k = c := by omega
    have z : cnZ s 0 k = 0 := rfl
    rw [z, Nat.sub_zero, Nat.sub_zero]
    subst ek
    simp (disch := first | omega | (simp only [u1_1, u1_2, u2_1, u2_2, ↓reduceIte, Nat.reduceAdd, Nat.reduceMul, Nat.reduceSub, Nat.reduceLT, Nat.reduceGT, Nat.reduceEqDiff, Nat.reduceLeDiff, Nat.left_eq_add, Nat.add_eq_left, Nat.reduceMod, Nat.reduceDiv, Nat.succ_ne_self]; omega)) only [s_118_0, s_118_1, s_118_2, s_118_5, s_118_6, s_118_7, s_118_10, s_118_11, s_118_14, s_118_15, s_118_18, s_118_19, s_118_20, s_118_21, s_118_22, s_118_25, s_118_28, s_118_29, s_118_32, s_118_33, s_118_34, s_118_37, s_118_38, s_118_39, s_118_42, s_118_43, s_118_44, s_118_47, s_118_50, s_118_51, s_118_52, s_118_55, s_118_56, s_118_57, s_118_60, s_118_63, s_118_67, s_118_68, s_118_71, s_118_72, s_118_75, s_118_76, s_118_79, e_118, mv_i_1, mv_l_1, mv_a_1, mv_a_2, mv_a_3, mk2_n, mk2_i, mk2_l, mk2_a, mk2_u, mk2_x, mB_T, mB_F, mS_cons, mS_nil, mSB_T, mSB_F, mca_nil, mca_i, mca_l, mca_r, mca_u, mca_x, mcat_i, mcat_l, mcat_r, mcat_u, mcat_x, mK_some, mK_none, va_rf_s, va_rf_n, lgc_eq, lgc_lt, lgc_gt, lgc_ge, lgc_le, mrd_104, mrd_105, mrd_106, mrd_107, true_and, and_true, and_self, false_and, and_false, true_or, or_true, false_or, or_false, not_true_eq_false, not_false_eq_true, mgb, mga, mgr, mN, reduceCtorEq, ↓reduceIte, eq_self, ge_iff_le, gt_iff_lt, Nat.reduceAdd, Nat.reduceMul, Nat.reduceSub, Nat.reduceLT, Nat.reduceGT, Nat.reduceEqDiff, Nat.reduceLeDiff, Nat.left_eq_add, Nat.add_eq_left, Nat.reduceMod, Nat.reduceDiv, Nat.succ_ne_self, ci_c0, cs_c0, ci_c1, cs_c1, ci_c2, cs_c2, ci_c3, cs_c3, ci_c4, cs_c4, ci_c5, cs_c5, ci_c6, cs_c6, ci_c7, cs_c7, ci_c8, ci_c9, cs_c9, ci_c10, cs_c10, ci_c11, cs_c11, ci_c12, cs_c12, ci_c13, cs_c13, ci_r6, cs_r6, ci_r7, cs_r7, ci_r8, cs_r8, ci_r9, cs_r9, ci_r10, cs_r10, ci_r11, cs_r11, ci_r12, cs_r12, ci_r13, cs_r13, ci_r15, cs_r15, ci_r17, cs_r17, ci_r19, cs_r19, ci_r20, cs_r20, ci_r21, cs_r21, ci_r22, cs_r22, ci_r23, cs_r23, ci_p7, cs_p7, ci_p11, cs_p11, ci_p12, cs_p12, ci_p13, cs_p13, ci_S, cs_S, ci_t, ci_t1, ci_t2, ci_t3, ci_t4, cg_0 b, cg_1 b, cln_1 b, cg_2 b, cln_2 b, cg_3 b, cln_3 b, cg_4 b, cln_4 b, cg_5 b, cg_6 b, cln_6 b, cg_7 b, cln_7 b, cg_8 b, cln_8 b, cg_9 b, cln_9 b, cg_10 b, cln_10 b, cg_11 b, cln_11 b, cg_12 b, cln_12 b, cg_13 b, cln_13 b, cg_14 b, cln_14 b, cg_15 b, cln_15 b, cg_16 b, cg_17 b, cln_17 b, cg_18 b, cg_19 b, cln_19 b, cg_20 b, cln_20 b, cg_21 b, cln_21 b, cg_22 b, cln_22 b, cg_23 b, cln_23 b, ck_14 b, cr_0_0 b, cr_0_1 b, cr_0_2 b, cr_0_3 b, cr_5_0 b, cr_5_2 b, cr_5_3 b, cr_5_4 b, cr_5_6 b, cr_5_7 b, cr_5_9 b, cr_5_10 b, cr_5_12 b, cr_5_14 b, cr_16_0 b, cr_16_1 b, cr_16_2 b, cr_16_3 b, cr_16_9 b, cr_18_0 b, cr_18_1 b, cr_18_2 b, cr_18_3 b, cr_18_5 b, cr_16_8, cr_14, cg_S, u1_1, u1_2, u2_1, u2_2, h10, nn_le, c']
  | succ f ih =>
    intro k nu ar hk h1 h2 Q
    have c' : (c ≤ k) = False := eq_false (by omega)
    have zb := cnZ_b (s := s) f (k + 1)
    have z : cnZ s (f + 1) k = (if s.2 22 k = 0 then 1 else 0) + cnZ s f (k + 1) := rfl
    rw [z] at h1 h2 ⊢
    by_cases q : s.2 22 k = 0
    · rw [if_pos q] at h1 h2 ⊢
      have q' := eq_true q
      have es : Int32.ofNat nu - 1 = Int32.ofNat (nu - 1) := nn_sub (a := nu) (b := 1) (by omega)
      have eu : u1 (u1 (u1 s 12 nu) 13 ar) 12 (nu - 1) = u1 (u1 s 12 (nu - 1)) 13 ar := by
        refine Prod.ext (funext fun x => ?_) rfl
        show (if x = 12 then nu - 1 else if x = 13 then ar else if x = 12 then nu else s.1 x) = (if x = 13 then ar else if x = 12 then nu - 1 else s.1 x)
        by_cases x1 : x = 12
        · rw [if_pos x1, if_neg (by omega), if_pos x1]
        · rw [if_neg x1, if_neg x1, if_neg x1]
      have r := ih (k + 1) (nu - 1) ar (by omega) (by omega) (by omega) Q
      rw [show nu - (1 + cnZ s f (k + 1)) = nu - 1 - cnZ s f (k + 1) from by omega, show ar - (f + 1 - (1 + cnZ s f (k + 1))) = ar - (f - cnZ s f (k + 1)) from by omega, ← r]
      clear ih r z
      rw [s_118_20]
      simp (disch := first | omega | (simp only [u1_1, u1_2, u2_1, u2_2, ↓reduceIte, Nat.reduceAdd, Nat.reduceMul, Nat.reduceSub, Nat.reduceLT, Nat.reduceGT, Nat.reduceEqDiff, Nat.reduceLeDiff, Nat.left_eq_add, Nat.add_eq_left, Nat.reduceMod, Nat.reduceDiv, Nat.succ_ne_self]; omega)) only [s_118_0, s_118_1, s_118_2, s_118_5, s_118_6, s_118_7, s_118_10, s_118_11, s_118_14, s_118_15, s_118_18, s_118_19, s_118_21, s_118_22, s_118_25, s_118_28, s_118_29, s_118_32, s_118_33, s_118_34, s_118_37, s_118_38, s_118_39, s_118_42, s_118_43, s_118_44, s_118_47, s_118_50, s_118_51, s_118_52, s_118_55, s_118_56, s_118_57, s_118_60, s_118_63, s_118_67, s_118_68, s_118_71, s_118_72, s_118_75, s_118_76, s_118_79, e_118, mv_i_1, mv_l_1, mv_a_1, mv_a_2, mv_a_3, mk2_n, mk2_i, mk2_l, mk2_a, mk2_u, mk2_x, mB_T, mB_F, mS_cons, mS_nil, mSB_T, mSB_F, mca_nil, mca_i, mca_l, mca_r, mca_u, mca_x, mcat_i, mcat_l, mcat_r, mcat_u, mcat_x, mK_some, mK_none, va_rf_s, va_rf_n, lgc_eq, lgc_lt, lgc_gt, lgc_ge, lgc_le, mrd_104, mrd_105, mrd_106, mrd_107, true_and, and_true, and_self, false_and, and_false, true_or, or_true, false_or, or_false, not_true_eq_false, not_false_eq_true, mgb, mga, mgr, mN, reduceCtorEq, ↓reduceIte, eq_self, ge_iff_le, gt_iff_lt, Nat.reduceAdd, Nat.reduceMul, Nat.reduceSub, Nat.reduceLT, Nat.reduceGT, Nat.reduceEqDiff, Nat.reduceLeDiff, Nat.left_eq_add, Nat.add_eq_left, Nat.reduceMod, Nat.reduceDiv, Nat.succ_ne_self, ci_c0, cs_c0, ci_c1, cs_c1, ci_c2, cs_c2, ci_c3, cs_c3, ci_c4, cs_c4, ci_c5, cs_c5, ci_c6, cs_c6, ci_c7, cs_c7, ci_c8, ci_c9, cs_c9, ci_c10, cs_c10, ci_c11, cs_c11, ci_c12, cs_c12, ci_c13, cs_c13, ci_r6, cs_r6, ci_r7, cs_r7, ci_r8, cs_r8, ci_r9, cs_r9, ci_r10, cs_r10, ci_r11, cs_r11, ci_r12, cs_r12, ci_r13, cs_r13, ci_r15, cs_r15, ci_r17, cs_r17, ci_r19, cs_r19, ci_r20, cs_r20, ci_r21, cs_r21, ci_r22, cs_r22, ci_r23, cs_r23, ci_p7, cs_p7, ci_p11, cs_p11, ci_p12, cs_p12, ci_p13, cs_p13, ci_S, cs_S, ci_t, ci_t1, ci_t2, ci_t3, ci_t4, cg_0 b, cg_1 b, cln_1 b, cg_2 b, cln_2 b, cg_3 b, cln_3 b, cg_4 b, cln_4 b, cg_5 b, cg_6 b, cln_6 b, cg_7 b, cln_7 b, cg_8 b, cln_8 b, cg_9 b, cln_9 b, cg_10 b, cln_10 b, cg_11 b, cln_11 b, cg_12 b, cln_12 b, cg_13 b, cln_13 b, cg_14 b, cln_14 b, cg_15 b, cln_15 b, cg_16 b, cg_17 b, cln_17 b, cg_18 b, cg_19 b, cln_19 b, cg_20 b, cln_20 b, cg_21 b, cln_21 b, cg_22 b, cln_22 b, cg_23 b, cln_23 b, ck_14 b, cr_0_0 b, cr_0_1 b, cr_0_2 b, cr_0_3 b, cr_5_0 b, cr_5_2 b, cr_5_3 b, cr_5_4 b, cr_5_6 b, cr_5_7 b, cr_5_9 b, cr_5_10 b, cr_5_12 b, cr_5_14 b, cr_16_0 b, cr_16_1 b, cr_16_2 b, cr_16_3 b, cr_16_9 b, cr_18_0 b, cr_18_1 b, cr_18_2 b, cr_18_3 b, cr_18_5 b, cr_16_8, cr_14, cg_S, u1_1, u1_2, u2_1, u2_2, h10, nn_le, c', nn_mxT, nn_clamp, q', es, eu, e1']
    · rw [if_neg q, Nat.zero_add] at h1 h2 ⊢
      have q' := eq_false q
      have es : Int32.ofNat ar - 1 = Int32.ofNat (ar - 1) := nn_sub (a := ar) (b := 1) (by omega)
      have eu : u1 (u1 (u1 s 12 nu) 13 ar) 13 (ar - 1) = u1 (u1 s 12 nu) 13 (ar - 1) := by
        refine Prod.ext (funext fun x => ?_) rfl
        show (if x = 13 then ar - 1 else if x = 13 then ar else if x = 12 then nu else s.1 x) = (if x = 13 then ar - 1 else if x = 12 then nu else s.1 x)
        by_cases x1 : x = 13
        · rw [if_pos x1, if_pos x1]
        · rw [if_neg x1, if_neg x1, if_neg x1]
      have r := ih (k + 1) nu (ar - 1) (by omega) (by omega) (by omega) Q
      rw [show ar - (f + 1 - cnZ s f (k + 1)) = ar - 1 - (f - cnZ s f (k + 1)) from by omega, ← r]
      clear ih r z
      rw [s_118_20]
      simp (disch := first | omega | (simp only [u1_1, u1_2, u2_1, u2_2, ↓reduceIte, Nat.reduceAdd, Nat.reduceMul, Nat.reduceSub, Nat.reduceLT, Nat.reduceGT, Nat.reduceEqDiff, Nat.reduceLeDiff, Nat.left_eq_add, Nat.add_eq_left, Nat.reduceMod, Nat.reduceDiv, Nat.succ_ne_self]; omega)) only [s_118_0, s_118_1, s_118_2, s_118_5, s_118_6, s_118_7, s_118_10, s_118_11, s_118_14, s_118_15, s_118_18, s_118_19, s_118_21, s_118_22, s_118_25, s_118_28, s_118_29, s_118_32, s_118_33, s_118_34, s_118_37, s_118_38, s_118_39, s_118_42, s_118_43, s_118_44, s_118_47, s_118_50, s_118_51, s_118_52, s_118_55, s_118_56, s_118_57, s_118_60, s_118_63, s_118_67, s_118_68, s_118_71, s_118_72, s_118_75, s_118_76, s_118_79, e_118, mv_i_1, mv_l_1, mv_a_1, mv_a_2, mv_a_3, mk2_n, mk2_i, mk2_l, mk2_a, mk2_u, mk2_x, mB_T, mB_F, mS_cons, mS_nil, mSB_T, mSB_F, mca_nil, mca_i, mca_l, mca_r, mca_u, mca_x, mcat_i, mcat_l, mcat_r, mcat_u, mcat_x, mK_some, mK_none, va_rf_s, va_rf_n, lgc_eq, lgc_lt, lgc_gt, lgc_ge, lgc_le, mrd_104, mrd_105, mrd_106, mrd_107, true_and, and_true, and_self, false_and, and_false, true_or, or_true, false_or, or_false, not_true_eq_false, not_false_eq_true, mgb, mga, mgr, mN, reduceCtorEq, ↓reduceIte, eq_self, ge_iff_le, gt_iff_lt, Nat.reduceAdd, Nat.reduceMul, Nat.reduceSub, Nat.reduceLT, Nat.reduceGT, Nat.reduceEqDiff, Nat.reduceLeDiff, Nat.left_eq_add, Nat.add_eq_left, Nat.reduceMod, Nat.reduceDiv, Nat.succ_ne_self, ci_c0, cs_c0, ci_c1, cs_c1, ci_c2, cs_c2, ci_c3, cs_c3, ci_c4, cs_c4, ci_c5, cs_c5, ci_c6, cs_c6, ci_c7, cs_c7, ci_c8, ci_c9, cs_c9, ci_c10, cs_c10, ci_c11, cs_c11, ci_c12, cs_c12, ci_c13, cs_c13, ci_r6, cs_r6, ci_r7, cs_r7, ci_r8, cs_r8, ci_r9, cs_r9, ci_r10, cs_r10, ci_r11, cs_r11, ci_r12, cs_r12, ci_r13, cs_r13, ci_r15, cs_r15, ci_r17, cs_r17, ci_r19, cs_r19, ci_r20, cs_r20, ci_r21, cs_r21, ci_r22, cs_r22, ci_r23, cs_r23, ci_p7, cs_p7, ci_p11, cs_p11, ci_p12, cs_p12, ci_p13, cs_p13, ci_S, cs_S, ci_t, ci_t1, ci_t2, ci_t3, ci_t4, cg_0 b, cg_1 b, cln_1 b, cg_2 b, cln_2 b, cg_3 b, cln_3 b, cg_4 b, cln_4 b, cg_5 b, cg_6 b, cln_6 b, cg_7 b, cln_7 b, cg_8 b, cln_8 b, cg_9 b, cln_9 b, cg_10 b, cln_10 b, cg_11 b, cln_11 b, cg_12 b, cln_12 b, cg_13 b, cln_13 b, cg_14 b, cln_14 b, cg_15 b, cln_15 b, cg_16 b, cg_17 b, cln_17 b, cg_18 b, cg_19 b, cln_19 b, cg_20 b, cln_20 b, cg_21 b, cln_21 b, cg_22 b, cln_22 b, cg_23 b, cln_23 b, ck_14 b, cr_0_0 b, cr_0_1 b, cr_0_2 b, cr_0_3 b, cr_5_0 b, cr_5_2 b, cr_5_3 b, cr_5_4 b, cr_5_6 b, cr_5_7 b, cr_5_9 b, cr_5_10 b, cr_5_12 b, cr_5_14 b, cr_16_0 b, cr_16_1 b, cr_16_2 b, cr_16_3 b, cr_16_9 b, cr_18_0 b, cr_18_1 b, cr_18_2 b, cr_18_3 b, cr_18_5 b, cr_16_8, cr_14, cg_S, u1_1, u1_2, u2_1, u2_2, h10, nn_le, c', nn_mxT, nn_clamp, q', es, eu, e1']
/-- shutBlock -/
theorem c_118 (b : CPB h B n) {k0 : Nat} (hb : 1 ≤ s.1 11 ∧ s.1 11 ≤ 62) (hk : s.2 19 (s.1 11 - 1) = Int32.ofNat k0) (h0 : k0 ≤ s.1 10) (hc : s.1 10 ≤ n / 2 + 1) (h1 : cnZ s (s.1 10 - k0) k0 ≤ s.1 12) (h2 : s.1 10 - k0 - cnZ s (s.1 10 - k0) k0 ≤ s.1 13) : ∀ Q, mcall d 118 [.ref (B + 18)] (cH h B s) Q = Q none (cH h B (shS s k0)) := by
  intro Q
  have hn := b.n
  have es : Int32.ofNat (s.1 11) - 1 = Int32.ofNat (s.1 11 - 1) := nn_sub (a := s.1 11) (b := 1) (by omega)
  have cz : ∀ f k, cnZ (u1 s 11 (s.1 11 - 1)) f k = cnZ s f k := by
    intro f
    induction f with
    | zero => exact fun _ => rfl
    | succ f ih =>
      intro k
      show (if s.2 22 k = 0 then 1 else 0) + cnZ (u1 s 11 (s.1 11 - 1)) f (k + 1) = (if s.2 22 k = 0 then 1 else 0) + cnZ s f (k + 1)
      rw [ih]
  have eu : u1 (u1 (u1 s 11 (s.1 11 - 1)) 12 (s.1 12)) 13 (s.1 13) = u1 s 11 (s.1 11 - 1) := by
    refine Prod.ext (funext fun x => ?_) rfl
    show (if x = 13 then s.1 13 else if x = 12 then s.1 12 else if x = 11 then s.1 11 - 1 else s.1 x) = (if x = 11 then s.1 11 - 1 else s.1 x)
    by_cases x1 : x = 13
    · subst x1; rfl
    · by_cases x2 : x = 12
      · subst x2; rfl
      · rw [if_neg x1, if_neg x2]
  have r := l_118 (d := d) (s := u1 s 11 (s.1 11 - 1)) b (c := s.1 10) rfl hc (s.1 10 - k0) k0 (s.1 12) (s.1 13) (by omega) (by rw [cz]; exact h1) (by rw [cz]; exact h2) Q
  rw [cz, eu] at r
  unfold shS
  simp (disch := first | omega | (simp only [u1_1, u1_2, u2_1, u2_2, ↓reduceIte, Nat.reduceAdd, Nat.reduceMul, Nat.reduceSub, Nat.reduceLT, Nat.reduceGT, Nat.reduceEqDiff, Nat.reduceLeDiff, Nat.left_eq_add, Nat.add_eq_left, Nat.reduceMod, Nat.reduceDiv, Nat.succ_ne_self]; omega)) only [s_118_0, s_118_1, s_118_2, s_118_5, s_118_6, s_118_7, s_118_10, s_118_11, s_118_14, s_118_15, s_118_18, s_118_19, s_118_21, s_118_22, s_118_25, s_118_28, s_118_29, s_118_32, s_118_33, s_118_34, s_118_37, s_118_38, s_118_39, s_118_42, s_118_43, s_118_44, s_118_47, s_118_50, s_118_51, s_118_52, s_118_55, s_118_56, s_118_57, s_118_60, s_118_63, s_118_67, s_118_68, s_118_71, s_118_72, s_118_75, s_118_76, s_118_79, e_118, mv_i_1, mv_l_1, mv_a_1, mv_a_2, mv_a_3, mk2_n, mk2_i, mk2_l, mk2_a, mk2_u, mk2_x, mB_T, mB_F, mS_cons, mS_nil, mSB_T, mSB_F, mca_nil, mca_i, mca_l, mca_r, mca_u, mca_x, mcat_i, mcat_l, mcat_r, mcat_u, mcat_x, mK_some, mK_none, va_rf_s, va_rf_n, lgc_eq, lgc_lt, lgc_gt, lgc_ge, lgc_le, mrd_104, mrd_105, mrd_106, mrd_107, true_and, and_true, and_self, false_and, and_false, true_or, or_true, false_or, or_false, not_true_eq_false, not_false_eq_true, mgb, mga, mgr, mN, reduceCtorEq, ↓reduceIte, eq_self, ge_iff_le, gt_iff_lt, Nat.reduceAdd, Nat.reduceMul, Nat.reduceSub, Nat.reduceLT, Nat.reduceGT, Nat.reduceEqDiff, Nat.reduceLeDiff, Nat.left_eq_add, Nat.add_eq_left, Nat.reduceMod, Nat.reduceDiv, Nat.succ_ne_self, ci_c0, cs_c0, ci_c1, cs_c1, ci_c2, cs_c2, ci_c3, cs_c3, ci_c4, cs_c4, ci_c5, cs_c5, ci_c6, cs_c6, ci_c7, cs_c7, ci_c8, ci_c9, cs_c9, ci_c10, cs_c10, ci_c11, cs_c11, ci_c12, cs_c12, ci_c13, cs_c13, ci_r6, cs_r6, ci_r7, cs_r7, ci_r8, cs_r8, ci_r9, cs_r9, ci_r10, cs_r10, ci_r11, cs_r11, ci_r12, cs_r12, ci_r13, cs_r13, ci_r15, cs_r15, ci_r17, cs_r17, ci_r19, cs_r19, ci_r20, cs_r20, ci_r21, cs_r21, ci_r22, cs_r22, ci_r23, cs_r23, ci_p7, cs_p7, ci_p11, cs_p11, ci_p12, cs_p12, ci_p13, cs_p13, ci_S, cs_S, ci_t, ci_t1, ci_t2, ci_t3, ci_t4, cg_0 b, cg_1 b, cln_1 b, cg_2 b, cln_2 b, cg_3 b, cln_3 b, cg_4 b, cln_4 b, cg_5 b, cg_6 b, cln_6 b, cg_7 b, cln_7 b, cg_8 b, cln_8 b, cg_9 b, cln_9 b, cg_10 b, cln_10 b, cg_11 b, cln_11 b, cg_12 b, cln_12 b, cg_13 b, cln_13 b, cg_14 b, cln_14 b, cg_15 b, cln_15 b, cg_16 b, cg_17 b, cln_17 b, cg_18 b, cg_19 b, cln_19 b, cg_20 b, cln_20 b, cg_21 b, cln_21 b, cg_22 b, cln_22 b, cg_23 b, cln_23 b, ck_14 b, cr_0_0 b, cr_0_1 b, cr_0_2 b, cr_0_3 b, cr_5_0 b, cr_5_2 b, cr_5_3 b, cr_5_4 b, cr_5_6 b, cr_5_7 b, cr_5_9 b, cr_5_10 b, cr_5_12 b, cr_5_14 b, cr_16_0 b, cr_16_1 b, cr_16_2 b, cr_16_3 b, cr_16_9 b, cr_18_0 b, cr_18_1 b, cr_18_2 b, cr_18_3 b, cr_18_5 b, cr_16_8, cr_14, cg_S, u1_1, u1_2, u2_1, u2_2, nn_mxT, nn_clamp, es, hk]
  rw [r]
  simp (disch := first | omega | (simp only [u1_1, u1_2, u2_1, u2_2, ↓reduceIte, Nat.reduceAdd, Nat.reduceMul, Nat.reduceSub, Nat.reduceLT, Nat.reduceGT, Nat.reduceEqDiff, Nat.reduceLeDiff, Nat.left_eq_add, Nat.add_eq_left, Nat.reduceMod, Nat.reduceDiv, Nat.succ_ne_self]; omega)) only [s_118_0, s_118_1, s_118_2, s_118_5, s_118_6, s_118_7, s_118_10, s_118_11, s_118_14, s_118_15, s_118_18, s_118_19, s_118_21, s_118_22, s_118_25, s_118_28, s_118_29, s_118_32, s_118_33, s_118_34, s_118_37, s_118_38, s_118_39, s_118_42, s_118_43, s_118_44, s_118_47, s_118_50, s_118_51, s_118_52, s_118_55, s_118_56, s_118_57, s_118_60, s_118_63, s_118_66, s_118_67, s_118_68, s_118_71, s_118_72, s_118_75, s_118_76, s_118_79, e_118, mv_i_1, mv_l_1, mv_a_1, mv_a_2, mv_a_3, mk2_n, mk2_i, mk2_l, mk2_a, mk2_u, mk2_x, mB_T, mB_F, mS_cons, mS_nil, mSB_T, mSB_F, mca_nil, mca_i, mca_l, mca_r, mca_u, mca_x, mcat_i, mcat_l, mcat_r, mcat_u, mcat_x, mK_some, mK_none, va_rf_s, va_rf_n, lgc_eq, lgc_lt, lgc_gt, lgc_ge, lgc_le, mrd_104, mrd_105, mrd_106, mrd_107, true_and, and_true, and_self, false_and, and_false, true_or, or_true, false_or, or_false, not_true_eq_false, not_false_eq_true, mgb, mga, mgr, mN, reduceCtorEq, ↓reduceIte, eq_self, ge_iff_le, gt_iff_lt, Nat.reduceAdd, Nat.reduceMul, Nat.reduceSub, Nat.reduceLT, Nat.reduceGT, Nat.reduceEqDiff, Nat.reduceLeDiff, Nat.left_eq_add, Nat.add_eq_left, Nat.reduceMod, Nat.reduceDiv, Nat.succ_ne_self, ci_c0, cs_c0, ci_c1, cs_c1, ci_c2, cs_c2, ci_c3, cs_c3, ci_c4, cs_c4, ci_c5, cs_c5, ci_c6, cs_c6, ci_c7, cs_c7, ci_c8, ci_c9, cs_c9, ci_c10, cs_c10, ci_c11, cs_c11, ci_c12, cs_c12, ci_c13, cs_c13, ci_r6, cs_r6, ci_r7, cs_r7, ci_r8, cs_r8, ci_r9, cs_r9, ci_r10, cs_r10, ci_r11, cs_r11, ci_r12, cs_r12, ci_r13, cs_r13, ci_r15, cs_r15, ci_r17, cs_r17, ci_r19, cs_r19, ci_r20, cs_r20, ci_r21, cs_r21, ci_r22, cs_r22, ci_r23, cs_r23, ci_p7, cs_p7, ci_p11, cs_p11, ci_p12, cs_p12, ci_p13, cs_p13, ci_S, cs_S, ci_t, ci_t1, ci_t2, ci_t3, ci_t4, cg_0 b, cg_1 b, cln_1 b, cg_2 b, cln_2 b, cg_3 b, cln_3 b, cg_4 b, cln_4 b, cg_5 b, cg_6 b, cln_6 b, cg_7 b, cln_7 b, cg_8 b, cln_8 b, cg_9 b, cln_9 b, cg_10 b, cln_10 b, cg_11 b, cln_11 b, cg_12 b, cln_12 b, cg_13 b, cln_13 b, cg_14 b, cln_14 b, cg_15 b, cln_15 b, cg_16 b, cg_17 b, cln_17 b, cg_18 b, cg_19 b, cln_19 b, cg_20 b, cln_20 b, cg_21 b, cln_21 b, cg_22 b, cln_22 b, cg_23 b, cln_23 b, ck_14 b, cr_0_0 b, cr_0_1 b, cr_0_2 b, cr_0_3 b, cr_5_0 b, cr_5_2 b, cr_5_3 b, cr_5_4 b, cr_5_6 b, cr_5_7 b, cr_5_9 b, cr_5_10 b, cr_5_12 b, cr_5_14 b, cr_16_0 b, cr_16_1 b, cr_16_2 b, cr_16_3 b, cr_16_9 b, cr_18_0 b, cr_18_1 b, cr_18_2 b, cr_18_3 b, cr_18_5 b, cr_16_8, cr_14, cg_S, u1_1, u1_2, u2_1, u2_2, nn_mxT, nn_clamp, hk]
end BGs
