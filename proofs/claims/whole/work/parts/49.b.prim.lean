set_option maxRecDepth 100000
/-! the reference's parser: look, need, take, draft, join, name, deep, number -/
abbrev RTK (h : mh_H) (m : Nat) (K : Nat → Int32) (P : Nat → Nat) (V : Nat → Int) : Prop := (RF h) ∧ (m ≤ 16402) ∧ (tkM K m) ∧ (∀ i, i < m → mh_i h 83 i = rkd (K i) ∧ K i ∈ kvs) ∧ (∀ i, i < m → mh_i h 84 i = Int32.ofNat (P i) ∧ P i ≤ 16400) ∧ (∀ i, i < m → K i = 3 → ∃ w, mh_i h 85 i = Int32.ofNat w ∧ P i + w ≤ 16400 ∧ (∀ j, j < w → isG (mh_i h 82 (P i + j)) = true) ∧ V i = nvl (mh_i h 82) w (P i) 0 ∧ V i ≤ 2147483647)
theorem RTK.F {h : mh_H} {m : Nat} {K : Nat → Int32} {P : Nat → Nat} {V : Nat → Int} (q : RTK h m K P V) : RF h := q.1
theorem RTK.m {h : mh_H} {m : Nat} {K : Nat → Int32} {P : Nat → Nat} {V : Nat → Int} (q : RTK h m K P V) : m ≤ 16402 := q.2.1
theorem RTK.M {h : mh_H} {m : Nat} {K : Nat → Int32} {P : Nat → Nat} {V : Nat → Int} (q : RTK h m K P V) : tkM K m := q.2.2.1
theorem RTK.k {h : mh_H} {m : Nat} {K : Nat → Int32} {P : Nat → Nat} {V : Nat → Int} (q : RTK h m K P V) : ∀ i, i < m → mh_i h 83 i = rkd (K i) ∧ K i ∈ kvs := q.2.2.2.1
theorem RTK.p {h : mh_H} {m : Nat} {K : Nat → Int32} {P : Nat → Nat} {V : Nat → Int} (q : RTK h m K P V) : ∀ i, i < m → mh_i h 84 i = Int32.ofNat (P i) ∧ P i ≤ 16400 := q.2.2.2.2.1
theorem RTK.v {h : mh_H} {m : Nat} {K : Nat → Int32} {P : Nat → Nat} {V : Nat → Int} (q : RTK h m K P V) : ∀ i, i < m → K i = 3 → ∃ w, mh_i h 85 i = Int32.ofNat w ∧ P i + w ≤ 16400 ∧ (∀ j, j < w → isG (mh_i h 82 (P i + j)) = true) ∧ V i = nvl (mh_i h 82) w (P i) 0 ∧ V i ≤ 2147483647 := q.2.2.2.2.2
def pst.ko (s : pst) (p : Nat) : pst := (s.at, true, Int32.ofNat p, s.dr, s.K, s.P, s.V, s.F, s.L, s.N)
def pst.lk (s : pst) (K : Nat → Int32) : Int32 := if s.bd = true then 1 else K s.at
def pst.tk (s : pst) (K : Nat → Int32) (P : Nat → Nat) (c : Int32) : pst := if s.bd = true then s else if K s.at = c then s.uA (s.at + 1) else s.ko (P s.at)
def pst.nm (s : pst) (K : Nat → Int32) (P : Nat → Nat) : pst := (s.dft 13 (Int32.ofNat (P s.at)) (Int32.ofNat s.at)).tk K P 2
def pst.dp (s : pst) (P : Nat → Nat) (d : Nat) : pst := if 60 < d ∧ s.bd = false then s.ko (P s.at) else s
section PIs
variable {D : Nat} {h : mh_H} {m : Nat} {K : Nat → Int32} {P : Nat → Nat} {V : Nat → Int} {s : pst}
theorem lk_v (R : RTK h m K P V) (ha : s.at < m) : s.lk K ∈ kvs := by
  unfold pst.lk
  cases s.bd with
  | true => rw [if_pos rfl]; decide
  | false => rw [if_neg (by decide)]; exact (R.k _ ha).2
theorem c_310 (R : RTK h m K P V) (ha : s.at < m) : ∀ Q, mcall D 310 [.ref 81] (pH h s) Q = Q (some (.int (rkd (s.lk K)))) (pH h s) := by
  intro Q
  have g := R.F.g 81 14 70 (by decide +kernel)
  have r1 := R.F.f 81 4 83 (by decide +kernel)
  have g1 := R.F.g 83 100 16402 (by decide +kernel)
  have l1 := R.F.l 83 100 16402 (by decide +kernel)
  have hm := R.m
  have k1 : kb true = 1 := rfl
  have k0 : kb false = 0 := rfl
  have n1 : ((1 : Int32) = 0) = False := by decide
  have e := (R.k _ ha).1
  clear R
  unfold pst.lk
  cases b : s.bd with
  | true =>
    rw [if_pos rfl]
    have z : rkd 1 = 1 := rfl
    simp (disch := omega) only [s_310_0, s_310_1, s_310_4, s_310_7, s_310_8, s_310_11, s_310_12, s_310_15, s_310_16, s_310_19, s_310_20, e_310, mv_i_1, mv_l_1, mv_a_1, mv_a_2, mv_a_3, mk2_n, mk2_i, mk2_l, mk2_a, mk2_u, mk2_x, mB_T, mB_F, mS_cons, mS_nil, mSB_T, mSB_F, mca_nil, mca_i, mca_l, mca_r, mca_u, mca_x, mcat_i, mcat_l, mcat_r, mcat_u, mcat_x, mK_some, mK_none, va_rf_s, va_rf_n, lgc_eq, lgc_lt, lgc_gt, lgc_ge, lgc_le, mrd_104, mrd_105, mrd_106, mrd_107, true_and, and_true, and_self, false_and, and_false, true_or, or_true, false_or, or_false, not_true_eq_false, not_false_eq_true, mgb, mga, mgr, mN, reduceCtorEq, ↓reduceIte, eq_self, ge_iff_le, gt_iff_lt, Nat.reduceAdd, Nat.reduceMul, Nat.reduceSub, Nat.reduceLT, Nat.reduceGT, Nat.reduceEqDiff, Nat.reduceLeDiff, Nat.left_eq_add, Nat.add_eq_left, Nat.reduceMod, Nat.reduceDiv, Nat.succ_ne_self, pH_g, g, pH_9, b, k1, n1, z]
  | false =>
    rw [if_neg (by decide)]
    simp (disch := omega) only [s_310_0, s_310_1, s_310_4, s_310_7, s_310_8, s_310_11, s_310_12, s_310_15, s_310_16, s_310_19, s_310_20, e_310, mv_i_1, mv_l_1, mv_a_1, mv_a_2, mv_a_3, mk2_n, mk2_i, mk2_l, mk2_a, mk2_u, mk2_x, mB_T, mB_F, mS_cons, mS_nil, mSB_T, mSB_F, mca_nil, mca_i, mca_l, mca_r, mca_u, mca_x, mcat_i, mcat_l, mcat_r, mcat_u, mcat_x, mK_some, mK_none, va_rf_s, va_rf_n, lgc_eq, lgc_lt, lgc_gt, lgc_ge, lgc_le, mrd_104, mrd_105, mrd_106, mrd_107, true_and, and_true, and_self, false_and, and_false, true_or, or_true, false_or, or_false, not_true_eq_false, not_false_eq_true, mgb, mga, mgr, mN, reduceCtorEq, ↓reduceIte, eq_self, ge_iff_le, gt_iff_lt, Nat.reduceAdd, Nat.reduceMul, Nat.reduceSub, Nat.reduceLT, Nat.reduceGT, Nat.reduceEqDiff, Nat.reduceLeDiff, Nat.left_eq_add, Nat.add_eq_left, Nat.reduceMod, Nat.reduceDiv, Nat.succ_ne_self, pH_g, pH_r, pH_l, g, r1, g1, l1, pH_9, pH_8, pH_83, b, k0, nn_mxT, nn_clamp, e]
theorem c_311t (R : RTK h m K P V) : ∀ Q, mcall D 311 [.ref 81, .int 1] (pH h s) Q = Q none (pH h s) := by
  intro Q
  have n1 : ((1 : Int32) = 0) = False := by decide
  clear R
  simp only [s_311_0, s_311_1, s_311_4, s_311_5, s_311_8, s_311_11, s_311_12, s_311_13, s_311_16, s_311_17, s_311_18, s_311_21, s_311_22, s_311_25, s_311_26, s_311_29, e_311, mv_i_1, mv_l_1, mv_a_1, mv_a_2, mv_a_3, mk2_n, mk2_i, mk2_l, mk2_a, mk2_u, mk2_x, mB_T, mB_F, mS_cons, mS_nil, mSB_T, mSB_F, mca_nil, mca_i, mca_l, mca_r, mca_u, mca_x, mcat_i, mcat_l, mcat_r, mcat_u, mcat_x, mK_some, mK_none, va_rf_s, va_rf_n, lgc_eq, lgc_lt, lgc_gt, lgc_ge, lgc_le, mrd_104, mrd_105, mrd_106, mrd_107, true_and, and_true, and_self, false_and, and_false, true_or, or_true, false_or, or_false, not_true_eq_false, not_false_eq_true, mgb, mga, mgr, mN, reduceCtorEq, ↓reduceIte, eq_self, ge_iff_le, gt_iff_lt, n1]
theorem c_311f (R : RTK h m K P V) (ha : s.at < m) : ∀ Q, mcall D 311 [.ref 81, .int 0] (pH h s) Q = Q none (pH h (if s.bd = true then s else s.ko (P s.at))) := by
  intro Q
  have g := R.F.g 81 14 70 (by decide +kernel)
  have r1 := R.F.f 81 5 84 (by decide +kernel)
  have g1 := R.F.g 84 100 16402 (by decide +kernel)
  have l1 := R.F.l 84 100 16402 (by decide +kernel)
  have hm := R.m
  have k1 : kb true = 1 := rfl
  have k0 : kb false = 0 := rfl
  have n1 : ((1 : Int32) = 0) = False := by decide
  have e := (R.p _ ha).1
  clear R
  cases b : s.bd with
  | true =>
    rw [if_pos rfl]
    simp (disch := omega) only [s_311_0, s_311_1, s_311_4, s_311_5, s_311_8, s_311_11, s_311_12, s_311_13, s_311_16, s_311_17, s_311_18, s_311_21, s_311_22, s_311_25, s_311_26, s_311_29, e_311, mv_i_1, mv_l_1, mv_a_1, mv_a_2, mv_a_3, mk2_n, mk2_i, mk2_l, mk2_a, mk2_u, mk2_x, mB_T, mB_F, mS_cons, mS_nil, mSB_T, mSB_F, mca_nil, mca_i, mca_l, mca_r, mca_u, mca_x, mcat_i, mcat_l, mcat_r, mcat_u, mcat_x, mK_some, mK_none, va_rf_s, va_rf_n, lgc_eq, lgc_lt, lgc_gt, lgc_ge, lgc_le, mrd_104, mrd_105, mrd_106, mrd_107, true_and, and_true, and_self, false_and, and_false, true_or, or_true, false_or, or_false, not_true_eq_false, not_false_eq_true, mgb, mga, mgr, mN, reduceCtorEq, ↓reduceIte, eq_self, ge_iff_le, gt_iff_lt, Nat.reduceAdd, Nat.reduceMul, Nat.reduceSub, Nat.reduceLT, Nat.reduceGT, Nat.reduceEqDiff, Nat.reduceLeDiff, Nat.left_eq_add, Nat.add_eq_left, Nat.reduceMod, Nat.reduceDiv, Nat.succ_ne_self, pH_g, g, pH_9, b, k1, n1]
  | false =>
    rw [if_neg (by decide)]
    have ua : s.uB.at = s.at := rfl
    simp (disch := omega) only [s_311_0, s_311_1, s_311_4, s_311_5, s_311_8, s_311_11, s_311_12, s_311_13, s_311_16, s_311_17, s_311_18, s_311_21, s_311_22, s_311_25, s_311_26, s_311_29, e_311, mv_i_1, mv_l_1, mv_a_1, mv_a_2, mv_a_3, mk2_n, mk2_i, mk2_l, mk2_a, mk2_u, mk2_x, mB_T, mB_F, mS_cons, mS_nil, mSB_T, mSB_F, mca_nil, mca_i, mca_l, mca_r, mca_u, mca_x, mcat_i, mcat_l, mcat_r, mcat_u, mcat_x, mK_some, mK_none, va_rf_s, va_rf_n, lgc_eq, lgc_lt, lgc_gt, lgc_ge, lgc_le, mrd_104, mrd_105, mrd_106, mrd_107, true_and, and_true, and_self, false_and, and_false, true_or, or_true, false_or, or_false, not_true_eq_false, not_false_eq_true, mgb, mga, mgr, mN, reduceCtorEq, ↓reduceIte, eq_self, ge_iff_le, gt_iff_lt, Nat.reduceAdd, Nat.reduceMul, Nat.reduceSub, Nat.reduceLT, Nat.reduceGT, Nat.reduceEqDiff, Nat.reduceLeDiff, Nat.left_eq_add, Nat.add_eq_left, Nat.reduceMod, Nat.reduceDiv, Nat.succ_ne_self, pH_g, pH_r, pH_l, g, r1, g1, l1, pH_9, pH_8, pH_84, pH_s9, pH_s10, ua, b, k0, nn_mxT, nn_clamp, e]
    rfl
theorem uA_id : s.uA s.at = s := rfl
/-- take -/
theorem c_312 (R : RTK h m K P V) (ha : s.at < m) {c y : Int32} (hc : c ∈ kvs) (hy : rkd c = y) (h1 : c ≠ 1) : ∀ Q, mcall (D + 1) 312 [.ref 81, .int y] (pH h s) Q = Q none (pH h (s.tk K P c)) := by
  intro Q
  have g := R.F.g 81 14 70 (by decide +kernel)
  have a0 := c_310 (D := D) R ha
  have a1 := c_311t (D := D) (s := s) R
  have a2 := c_311f (D := D) R ha
  have k1 : kb true = 1 := rfl
  have k0 : kb false = 0 := rfl
  have n1 : ((1 : Int32) = 0) = False := by decide
  have e1' : ∀ k, Int32.ofNat k + 1 = Int32.ofNat (k + 1) := fun k => nn_add (a := k) (b := 1)
  have lv := rk_e (lk_v R ha) hc hy
  clear R
  unfold pst.tk
  unfold pst.lk at lv a0
  cases b : s.bd with
  | true =>
    rw [b, if_pos rfl] at lv a0
    rw [b, if_pos rfl] at a2
    rw [if_pos rfl]
    have lv' : (rkd 1 = y) = False := by rw [lv]; exact eq_false (fun z => h1 z.symm)
    simp (disch := omega) only [s_312_0, s_312_1, s_312_2, s_312_5, s_312_6, s_312_9, s_312_10, s_312_13, s_312_14, s_312_17, s_312_18, s_312_19, s_312_22, s_312_25, s_312_26, s_312_29, s_312_32, s_312_33, s_312_36, s_312_37, s_312_38, s_312_41, e_312, mv_i_1, mv_l_1, mv_a_1, mv_a_2, mv_a_3, mk2_n, mk2_i, mk2_l, mk2_a, mk2_u, mk2_x, mB_T, mB_F, mS_cons, mS_nil, mSB_T, mSB_F, mca_nil, mca_i, mca_l, mca_r, mca_u, mca_x, mcat_i, mcat_l, mcat_r, mcat_u, mcat_x, mK_some, mK_none, va_rf_s, va_rf_n, lgc_eq, lgc_lt, lgc_gt, lgc_ge, lgc_le, mrd_104, mrd_105, mrd_106, mrd_107, true_and, and_true, and_self, false_and, and_false, true_or, or_true, false_or, or_false, not_true_eq_false, not_false_eq_true, mgb, mga, mgr, mN, reduceCtorEq, ↓reduceIte, eq_self, ge_iff_le, gt_iff_lt, Nat.reduceAdd, Nat.reduceMul, Nat.reduceSub, Nat.reduceLT, Nat.reduceGT, Nat.reduceEqDiff, Nat.reduceLeDiff, Nat.left_eq_add, Nat.add_eq_left, Nat.reduceMod, Nat.reduceDiv, Nat.succ_ne_self, pH_g, g, a0, lv', a2, pH_9, b, k1, n1, pH_8, pH_s8, uA_id]
  | false =>
    rw [b, if_neg (by decide)] at lv a0
    rw [b, if_neg (by decide)] at a2
    rw [if_neg (by decide)]
    by_cases q : K s.at = c
    · have lv' : (rkd (K s.at) = y) = True := by rw [lv]; exact eq_true q
      rw [if_pos q]
      simp (disch := omega) only [s_312_0, s_312_1, s_312_2, s_312_5, s_312_6, s_312_9, s_312_10, s_312_13, s_312_14, s_312_17, s_312_18, s_312_19, s_312_22, s_312_25, s_312_26, s_312_29, s_312_32, s_312_33, s_312_36, s_312_37, s_312_38, s_312_41, e_312, mv_i_1, mv_l_1, mv_a_1, mv_a_2, mv_a_3, mk2_n, mk2_i, mk2_l, mk2_a, mk2_u, mk2_x, mB_T, mB_F, mS_cons, mS_nil, mSB_T, mSB_F, mca_nil, mca_i, mca_l, mca_r, mca_u, mca_x, mcat_i, mcat_l, mcat_r, mcat_u, mcat_x, mK_some, mK_none, va_rf_s, va_rf_n, lgc_eq, lgc_lt, lgc_gt, lgc_ge, lgc_le, mrd_104, mrd_105, mrd_106, mrd_107, true_and, and_true, and_self, false_and, and_false, true_or, or_true, false_or, or_false, not_true_eq_false, not_false_eq_true, mgb, mga, mgr, mN, reduceCtorEq, ↓reduceIte, eq_self, ge_iff_le, gt_iff_lt, Nat.reduceAdd, Nat.reduceMul, Nat.reduceSub, Nat.reduceLT, Nat.reduceGT, Nat.reduceEqDiff, Nat.reduceLeDiff, Nat.left_eq_add, Nat.add_eq_left, Nat.reduceMod, Nat.reduceDiv, Nat.succ_ne_self, pH_g, g, a0, lv', a1, pH_9, b, k0, pH_8, e1', pH_s8]
    · have lv' : (rkd (K s.at) = y) = False := by rw [lv]; exact eq_false q
      rw [if_neg q]
      have kb1 : (s.ko (P s.at)).bd = true := rfl
      have ka : (s.ko (P s.at)).uA (s.ko (P s.at)).at = s.ko (P s.at) := rfl
      simp (disch := omega) only [s_312_0, s_312_1, s_312_2, s_312_5, s_312_6, s_312_9, s_312_10, s_312_13, s_312_14, s_312_17, s_312_18, s_312_19, s_312_22, s_312_25, s_312_26, s_312_29, s_312_32, s_312_33, s_312_36, s_312_37, s_312_38, s_312_41, e_312, mv_i_1, mv_l_1, mv_a_1, mv_a_2, mv_a_3, mk2_n, mk2_i, mk2_l, mk2_a, mk2_u, mk2_x, mB_T, mB_F, mS_cons, mS_nil, mSB_T, mSB_F, mca_nil, mca_i, mca_l, mca_r, mca_u, mca_x, mcat_i, mcat_l, mcat_r, mcat_u, mcat_x, mK_some, mK_none, va_rf_s, va_rf_n, lgc_eq, lgc_lt, lgc_gt, lgc_ge, lgc_le, mrd_104, mrd_105, mrd_106, mrd_107, true_and, and_true, and_self, false_and, and_false, true_or, or_true, false_or, or_false, not_true_eq_false, not_false_eq_true, mgb, mga, mgr, mN, reduceCtorEq, ↓reduceIte, eq_self, ge_iff_le, gt_iff_lt, Nat.reduceAdd, Nat.reduceMul, Nat.reduceSub, Nat.reduceLT, Nat.reduceGT, Nat.reduceEqDiff, Nat.reduceLeDiff, Nat.left_eq_add, Nat.add_eq_left, Nat.reduceMod, Nat.reduceDiv, Nat.succ_ne_self, pH_g, g, a0, lv', a2, pH_9, kb1, k1, n1, pH_8, pH_s8, ka]
/-- draft -/
theorem c_313 (F : RF h) (hd : s.dr < 52000) {k p v : Int32} : ∀ Q, mcall D 313 [.ref 81, .int k, .int p, .int v] (pH h s) Q = Q (some (.int (Int32.ofNat s.dr))) (pH h (s.dft k p v)) := by
  intro Q
  have g := F.g 81 14 70 (by decide +kernel)
  have r1 := F.f 81 11 86 (by decide +kernel)
  have g1 := F.g 86 100 52000 (by decide +kernel)
  have l1 := F.l 86 100 52000 (by decide +kernel)
  have r2 := F.f 81 12 87 (by decide +kernel)
  have g2 := F.g 87 100 52000 (by decide +kernel)
  have l2 := F.l 87 100 52000 (by decide +kernel)
  have r3 := F.f 81 13 88 (by decide +kernel)
  have g3 := F.g 88 100 52000 (by decide +kernel)
  have l3 := F.l 88 100 52000 (by decide +kernel)
  have r4 := F.f 81 14 89 (by decide +kernel)
  have g4 := F.g 89 100 52000 (by decide +kernel)
  have l4 := F.l 89 100 52000 (by decide +kernel)
  have r5 := F.f 81 15 90 (by decide +kernel)
  have g5 := F.g 90 100 52000 (by decide +kernel)
  have l5 := F.l 90 100 52000 (by decide +kernel)
  have r6 := F.f 81 16 91 (by decide +kernel)
  have g6 := F.g 91 100 52000 (by decide +kernel)
  have l6 := F.l 91 100 52000 (by decide +kernel)
  have e1' : ∀ k, Int32.ofNat k + 1 = Int32.ofNat (k + 1) := fun k => nn_add (a := k) (b := 1)
  have es : Int32.ofNat (s.dr + 1) - 1 = Int32.ofNat s.dr := nn_sub (a := s.dr + 1) (b := 1) (by omega)
  have u1 : ∀ (s : pst) k v, (s.uK k v).dr = s.dr := fun _ _ _ => rfl
  have u2 : ∀ (s : pst) k v, (s.uP k v).dr = s.dr := fun _ _ _ => rfl
  have u3 : ∀ (s : pst) k v, (s.uV k v).dr = s.dr := fun _ _ _ => rfl
  have u4 : ∀ (s : pst) k v, (s.uF k v).dr = s.dr := fun _ _ _ => rfl
  have u5 : ∀ (s : pst) k v, (s.uL k v).dr = s.dr := fun _ _ _ => rfl
  have u6 : ∀ (s : pst) k v, (s.uN k v).dr = s.dr := fun _ _ _ => rfl
  have u7 : ∀ (s : pst) v, (s.ud v).dr = v := fun _ _ => rfl
  clear F
  simp (disch := omega) only [s_313_0, s_313_1, s_313_4, s_313_5, s_313_8, s_313_9, s_313_10, s_313_11, s_313_14, s_313_15, s_313_18, s_313_19, s_313_20, s_313_21, s_313_24, s_313_25, s_313_28, s_313_29, s_313_30, s_313_31, s_313_34, s_313_35, s_313_38, s_313_39, s_313_40, s_313_41, s_313_44, s_313_45, s_313_48, s_313_49, s_313_50, s_313_51, s_313_54, s_313_55, s_313_58, s_313_59, s_313_60, s_313_61, s_313_62, s_313_65, s_313_66, s_313_67, s_313_70, s_313_71, s_313_74, s_313_75, s_313_76, e_313, mv_i_1, mv_l_1, mv_a_1, mv_a_2, mv_a_3, mk2_n, mk2_i, mk2_l, mk2_a, mk2_u, mk2_x, mB_T, mB_F, mS_cons, mS_nil, mSB_T, mSB_F, mca_nil, mca_i, mca_l, mca_r, mca_u, mca_x, mcat_i, mcat_l, mcat_r, mcat_u, mcat_x, mK_some, mK_none, va_rf_s, va_rf_n, lgc_eq, lgc_lt, lgc_gt, lgc_ge, lgc_le, mrd_104, mrd_105, mrd_106, mrd_107, true_and, and_true, and_self, false_and, and_false, true_or, or_true, false_or, or_false, not_true_eq_false, not_false_eq_true, mgb, mga, mgr, mN, reduceCtorEq, ↓reduceIte, eq_self, ge_iff_le, gt_iff_lt, Nat.reduceAdd, Nat.reduceMul, Nat.reduceSub, Nat.reduceLT, Nat.reduceGT, Nat.reduceEqDiff, Nat.reduceLeDiff, Nat.left_eq_add, Nat.add_eq_left, Nat.reduceMod, Nat.reduceDiv, Nat.succ_ne_self, pH_g, pH_r, pH_l, g, r1, g1, l1, r2, g2, l2, r3, g3, l3, r4, g4, l4, r5, g5, l5, r6, g6, l6, pH_17, pH_s86, pH_s87, pH_s88, pH_s89, pH_s90, pH_s91, pH_s17, u1, u2, u3, u4, u5, u6, u7, nn_mxT, nn_clamp, e1', es]
  rfl
/-- join -/
theorem c_314n {o : Int32} : ∀ Q, mcall D 314 [.ref 81, .int o, .int (-1)] (pH h s) Q = Q none (pH h s) := by
  intro Q
  have n1 : ((-1 : Int32) = -1) = True := by decide
  simp only [s_314_0, s_314_1, s_314_2, s_314_5, s_314_6, s_314_7, s_314_10, s_314_11, s_314_12, s_314_13, s_314_16, s_314_17, s_314_20, s_314_21, s_314_22, s_314_23, s_314_26, s_314_27, s_314_30, s_314_31, s_314_34, s_314_35, s_314_36, s_314_37, s_314_38, s_314_39, s_314_42, s_314_43, s_314_44, s_314_45, e_314, mv_i_1, mv_l_1, mv_a_1, mv_a_2, mv_a_3, mk2_n, mk2_i, mk2_l, mk2_a, mk2_u, mk2_x, mB_T, mB_F, mS_cons, mS_nil, mSB_T, mSB_F, mca_nil, mca_i, mca_l, mca_r, mca_u, mca_x, mcat_i, mcat_l, mcat_r, mcat_u, mcat_x, mK_some, mK_none, va_rf_s, va_rf_n, lgc_eq, lgc_lt, lgc_gt, lgc_ge, lgc_le, mrd_104, mrd_105, mrd_106, mrd_107, true_and, and_true, and_self, false_and, and_false, true_or, or_true, false_or, or_false, not_true_eq_false, not_false_eq_true, mgb, mga, mgr, mN, reduceCtorEq, ↓reduceIte, eq_self, ge_iff_le, gt_iff_lt, n1]
theorem c_314 (F : RF h) {o y : Nat} (ho : o < 52000) (hy : y < 52000) (hl : ¬ s.F o = -1 → ∃ l, l < 52000 ∧ s.L o = Int32.ofNat l) : ∀ Q, mcall D 314 [.ref 81, .int (Int32.ofNat o), .int (Int32.ofNat y)] (pH h s) Q = Q none (pH h (s.jn o y)) := by
  intro Q
  have g := F.g 81 14 70 (by decide +kernel)
  have r4 := F.f 81 14 89 (by decide +kernel)
  have g4 := F.g 89 100 52000 (by decide +kernel)
  have l4 := F.l 89 100 52000 (by decide +kernel)
  have r5 := F.f 81 15 90 (by decide +kernel)
  have g5 := F.g 90 100 52000 (by decide +kernel)
  have l5 := F.l 90 100 52000 (by decide +kernel)
  have r6 := F.f 81 16 91 (by decide +kernel)
  have g6 := F.g 91 100 52000 (by decide +kernel)
  have l6 := F.l 91 100 52000 (by decide +kernel)
  have ny : (Int32.ofNat y = -1) = False := nn_m2 (by omega)
  clear F
  unfold pst.jn
  by_cases c : s.F o = -1
  · rw [if_pos c]
    have c' := eq_true c
    simp (disch := omega) only [s_314_0, s_314_1, s_314_2, s_314_5, s_314_6, s_314_7, s_314_10, s_314_11, s_314_12, s_314_13, s_314_16, s_314_17, s_314_20, s_314_21, s_314_22, s_314_23, s_314_26, s_314_27, s_314_30, s_314_31, s_314_34, s_314_35, s_314_36, s_314_37, s_314_38, s_314_39, s_314_42, s_314_43, s_314_44, s_314_45, e_314, mv_i_1, mv_l_1, mv_a_1, mv_a_2, mv_a_3, mk2_n, mk2_i, mk2_l, mk2_a, mk2_u, mk2_x, mB_T, mB_F, mS_cons, mS_nil, mSB_T, mSB_F, mca_nil, mca_i, mca_l, mca_r, mca_u, mca_x, mcat_i, mcat_l, mcat_r, mcat_u, mcat_x, mK_some, mK_none, va_rf_s, va_rf_n, lgc_eq, lgc_lt, lgc_gt, lgc_ge, lgc_le, mrd_104, mrd_105, mrd_106, mrd_107, true_and, and_true, and_self, false_and, and_false, true_or, or_true, false_or, or_false, not_true_eq_false, not_false_eq_true, mgb, mga, mgr, mN, reduceCtorEq, ↓reduceIte, eq_self, ge_iff_le, gt_iff_lt, Nat.reduceAdd, Nat.reduceMul, Nat.reduceSub, Nat.reduceLT, Nat.reduceGT, Nat.reduceEqDiff, Nat.reduceLeDiff, Nat.left_eq_add, Nat.add_eq_left, Nat.reduceMod, Nat.reduceDiv, Nat.succ_ne_self, pH_g, pH_r, pH_l, g, r4, g4, l4, r5, g5, l5, ny, pH_89, c', pH_s89, pH_s90, nn_mxT, nn_clamp]
    rfl
  · rw [if_neg c]
    obtain ⟨l, l0, l9⟩ := hl c
    have c' := eq_false c
    simp (disch := omega) only [s_314_0, s_314_1, s_314_2, s_314_5, s_314_6, s_314_7, s_314_10, s_314_11, s_314_12, s_314_13, s_314_16, s_314_17, s_314_20, s_314_21, s_314_22, s_314_23, s_314_26, s_314_27, s_314_30, s_314_31, s_314_34, s_314_35, s_314_36, s_314_37, s_314_38, s_314_39, s_314_42, s_314_43, s_314_44, s_314_45, e_314, mv_i_1, mv_l_1, mv_a_1, mv_a_2, mv_a_3, mk2_n, mk2_i, mk2_l, mk2_a, mk2_u, mk2_x, mB_T, mB_F, mS_cons, mS_nil, mSB_T, mSB_F, mca_nil, mca_i, mca_l, mca_r, mca_u, mca_x, mcat_i, mcat_l, mcat_r, mcat_u, mcat_x, mK_some, mK_none, va_rf_s, va_rf_n, lgc_eq, lgc_lt, lgc_gt, lgc_ge, lgc_le, mrd_104, mrd_105, mrd_106, mrd_107, true_and, and_true, and_self, false_and, and_false, true_or, or_true, false_or, or_false, not_true_eq_false, not_false_eq_true, mgb, mga, mgr, mN, reduceCtorEq, ↓reduceIte, eq_self, ge_iff_le, gt_iff_lt, Nat.reduceAdd, Nat.reduceMul, Nat.reduceSub, Nat.reduceLT, Nat.reduceGT, Nat.reduceEqDiff, Nat.reduceLeDiff, Nat.left_eq_add, Nat.add_eq_left, Nat.reduceMod, Nat.reduceDiv, Nat.succ_ne_self, pH_g, pH_r, pH_l, g, r4, g4, l4, r5, g5, l5, r6, g6, l6, ny, pH_89, pH_90, c', l9, pH_s91, pH_s90, nn_mxT, nn_clamp]
    rfl
/-- name -/
theorem c_315 (R : RTK h m K P V) (ha : s.at < m) (hd : s.dr < 52000) : ∀ Q, mcall (D + 2) 315 [.ref 81] (pH h s) Q = Q (some (.int (Int32.ofNat s.dr))) (pH h (s.nm K P)) := by
  intro Q
  have g := R.F.g 81 14 70 (by decide +kernel)
  have r1 := R.F.f 81 5 84 (by decide +kernel)
  have g1 := R.F.g 84 100 16402 (by decide +kernel)
  have l1 := R.F.l 84 100 16402 (by decide +kernel)
  have hm := R.m
  have e := (R.p _ ha).1
  have a0 := c_313 (D := D + 1) R.F hd (k := 13) (p := Int32.ofNat (P s.at)) (v := Int32.ofNat s.at)
  have a1 := c_312 (D := D) (s := s.dft 13 (Int32.ofNat (P s.at)) (Int32.ofNat s.at)) R ha (c := 2) (y := 2) (by decide) rfl (by decide)
  clear R
  unfold pst.nm
  simp (disch := omega) only [s_315_0, s_315_1, s_315_3, s_315_4, s_315_7, s_315_8, s_315_11, s_315_12, s_315_13, s_315_16, s_315_19, s_315_20, s_315_21, s_315_22, s_315_25, s_315_26, e_315, mv_i_1, mv_l_1, mv_a_1, mv_a_2, mv_a_3, mk2_n, mk2_i, mk2_l, mk2_a, mk2_u, mk2_x, mB_T, mB_F, mS_cons, mS_nil, mSB_T, mSB_F, mca_nil, mca_i, mca_l, mca_r, mca_u, mca_x, mcat_i, mcat_l, mcat_r, mcat_u, mcat_x, mK_some, mK_none, va_rf_s, va_rf_n, lgc_eq, lgc_lt, lgc_gt, lgc_ge, lgc_le, mrd_104, mrd_105, mrd_106, mrd_107, true_and, and_true, and_self, false_and, and_false, true_or, or_true, false_or, or_false, not_true_eq_false, not_false_eq_true, mgb, mga, mgr, mN, reduceCtorEq, ↓reduceIte, eq_self, ge_iff_le, gt_iff_lt, Nat.reduceAdd, Nat.reduceMul, Nat.reduceSub, Nat.reduceLT, Nat.reduceGT, Nat.reduceEqDiff, Nat.reduceLeDiff, Nat.left_eq_add, Nat.add_eq_left, Nat.reduceMod, Nat.reduceDiv, Nat.succ_ne_self, pH_g, pH_r, pH_l, g, r1, g1, l1, pH_8, pH_84, nn_mxT, nn_clamp, e, a0, a1]
/-- deep -/
theorem c_317 (R : RTK h m K P V) (ha : s.at < m) {d : Nat} (hd : d < 1000) : ∀ Q, mcall (D + 1) 317 [.ref 81, .int (Int32.ofNat d)] (pH h s) Q = Q none (pH h (s.dp P d)) := by
  intro Q
  have g := R.F.g 81 14 70 (by decide +kernel)
  have a1 := c_311t (D := D) (s := s) R
  have a2 := c_311f (D := D) R ha
  have e : (60 < Int32.ofNat d) = (60 < d) := nn_lt (a := 60) (b := d) (by omega) (by omega)
  clear R
  unfold pst.dp
  by_cases c : 60 < d
  · have c' := eq_true c
    have e2 : (if s.bd = true then s else s.ko (P s.at)) = (if 60 < d ∧ s.bd = false then s.ko (P s.at) else s) := by
      cases s.bd with
      | true => rw [if_pos rfl, if_neg (fun z => absurd z.2 (by decide))]
      | false => rw [if_neg (by decide), if_pos ⟨c, rfl⟩]
    rw [e2] at a2
    simp (disch := omega) only [s_317_0, s_317_1, s_317_2, s_317_4, s_317_7, s_317_8, s_317_11, s_317_12, s_317_15, e_317, mv_i_1, mv_l_1, mv_a_1, mv_a_2, mv_a_3, mk2_n, mk2_i, mk2_l, mk2_a, mk2_u, mk2_x, mB_T, mB_F, mS_cons, mS_nil, mSB_T, mSB_F, mca_nil, mca_i, mca_l, mca_r, mca_u, mca_x, mcat_i, mcat_l, mcat_r, mcat_u, mcat_x, mK_some, mK_none, va_rf_s, va_rf_n, lgc_eq, lgc_lt, lgc_gt, lgc_ge, lgc_le, mrd_104, mrd_105, mrd_106, mrd_107, true_and, and_true, and_self, false_and, and_false, true_or, or_true, false_or, or_false, not_true_eq_false, not_false_eq_true, mgb, mga, mgr, mN, reduceCtorEq, ↓reduceIte, eq_self, ge_iff_le, gt_iff_lt, Nat.reduceAdd, Nat.reduceMul, Nat.reduceSub, Nat.reduceLT, Nat.reduceGT, Nat.reduceEqDiff, Nat.reduceLeDiff, Nat.left_eq_add, Nat.add_eq_left, Nat.reduceMod, Nat.reduceDiv, Nat.succ_ne_self, pH_g, g, e, c', a2]
  · have c' := eq_false c
    rw [if_neg (fun z => c z.1)]
    simp (disch := omega) only [s_317_0, s_317_1, s_317_2, s_317_4, s_317_7, s_317_8, s_317_11, s_317_12, s_317_15, e_317, mv_i_1, mv_l_1, mv_a_1, mv_a_2, mv_a_3, mk2_n, mk2_i, mk2_l, mk2_a, mk2_u, mk2_x, mB_T, mB_F, mS_cons, mS_nil, mSB_T, mSB_F, mca_nil, mca_i, mca_l, mca_r, mca_u, mca_x, mcat_i, mcat_l, mcat_r, mcat_u, mcat_x, mK_some, mK_none, va_rf_s, va_rf_n, lgc_eq, lgc_lt, lgc_gt, lgc_ge, lgc_le, mrd_104, mrd_105, mrd_106, mrd_107, true_and, and_true, and_self, false_and, and_false, true_or, or_true, false_or, or_false, not_true_eq_false, not_false_eq_true, mgb, mga, mgr, mN, reduceCtorEq, ↓reduceIte, eq_self, ge_iff_le, gt_iff_lt, Nat.reduceAdd, Nat.reduceMul, Nat.reduceSub, Nat.reduceLT, Nat.reduceGT, Nat.reduceEqDiff, Nat.reduceLeDiff, Nat.left_eq_add, Nat.add_eq_left, Nat.reduceMod, Nat.reduceDiv, Nat.succ_ne_self, pH_g, g, e, c', a1]
end PIs
