set_option maxRecDepth 100000
/-! the reference's blockOf, lastStatement, returns, whichFunction, functionOf -/
/-- where the last node of a row stands -/
def lsI : tr → Nat → Option Nat
  | .leaf _, _ => none
  | .branch _ cs r, k => if ts r = 0 then some k else lsI r (k + 1 + ts cs)
/-- the node below the root, above k -/
def chW (Wh : Nat → Int32) : Nat → Nat → Nat → Prop
  | 0, _, _ => False
  | f + 1, k, g => k < 26000 ∧ ((Wh k = 0 ∧ k = g) ∨ ∃ w, Wh k = Int32.ofNat w ∧ 0 < w ∧ w < 26000 ∧ chW Wh f w g)
section BOs
variable {d : Nat} {h : mh_H} {nm : Nat → Nat} {k : Nat} {o : Int32}
theorem l_337 (F : RF h) {x1 : Int32} : ∀ f p, (∀ i, i < f → mh_i h 93 (p + i) = 13) → ¬ mh_i h 93 (p + f) = 13 → p + f < 26000 → ∀ Q, mw d 337 Q 4 [some (.ref 81), some (.int x1), some (.int (Int32.ofNat p))] [] h = Q (some (.int (Int32.ofNat (p + f)))) h := by
  have g := F.g 81 14 70 (by decide +kernel)
  have r19 := F.f 81 19 93 (by decide +kernel)
  have g19 := F.g 93 102 26000 (by decide +kernel)
  have g19a := g19.1
  have g19b := g19.2
  have l19 := F.l 93 102 26000 (by decide +kernel)
  have e1' : ∀ k, Int32.ofNat k + 1 = Int32.ofNat (k + 1) := fun k => nn_add (a := k) (b := 1)
  clear F
  intro f
  induction f with
  | zero =>
    intro p _ n13 hp Q
    rw [Nat.add_zero] at n13 hp
    have n' := eq_false n13
    rw [Nat.add_zero p, s_337_4]
    simp (disch := omega) only [s_337_0, s_337_1, s_337_2, s_337_3, s_337_5, s_337_8, s_337_9, s_337_10, s_337_12, s_337_15, s_337_18, s_337_21, s_337_22, e_337, mv_i_1, mv_l_1, mv_a_1, mv_a_2, mv_a_3, mk2_n, mk2_i, mk2_l, mk2_a, mk2_u, mk2_x, mB_T, mB_F, mS_cons, mS_nil, mSB_T, mSB_F, mca_nil, mca_i, mca_l, mca_r, mca_u, mca_x, mcat_i, mcat_l, mcat_r, mcat_u, mcat_x, mK_some, mK_none, va_rf_s, va_rf_n, lgc_eq, lgc_lt, lgc_gt, lgc_ge, lgc_le, mrd_104, mrd_105, mrd_106, mrd_107, true_and, and_true, and_self, false_and, and_false, true_or, or_true, false_or, or_false, not_true_eq_false, not_false_eq_true, mgb, mga, mgr, mN, reduceCtorEq, ↓reduceIte, eq_self, ge_iff_le, gt_iff_lt, Nat.reduceAdd, Nat.reduceMul, Nat.reduceSub, Nat.reduceLT, Nat.reduceGT, Nat.reduceEqDiff, Nat.reduceLeDiff, Nat.left_eq_add, Nat.add_eq_left, Nat.reduceMod, Nat.reduceDiv, Nat.succ_ne_self, g, r19, g19, g19a, g19b, l19, n', nn_mxT, nn_clamp]
  | succ f ih =>
    intro p h13 n13 hp Q
    have e13 := h13 0 (by omega)
    rw [Nat.add_zero] at e13
    have i1 := ih (p + 1) (fun i hi => by rw [show p + 1 + i = p + (i + 1) from by omega]; exact h13 (i + 1) (by omega)) (by rw [show p + 1 + f = p + (f + 1) from by omega]; exact n13) (by omega) Q
    rw [show p + (f + 1) = p + 1 + f from by omega, ← i1]
    have z13 : ((13 : Int32) = 13) = True := eq_true rfl
    clear ih i1
    rw [s_337_4]
    simp (disch := omega) only [s_337_0, s_337_1, s_337_2, s_337_3, s_337_5, s_337_8, s_337_9, s_337_10, s_337_12, s_337_15, s_337_18, s_337_21, s_337_22, e_337, mv_i_1, mv_l_1, mv_a_1, mv_a_2, mv_a_3, mk2_n, mk2_i, mk2_l, mk2_a, mk2_u, mk2_x, mB_T, mB_F, mS_cons, mS_nil, mSB_T, mSB_F, mca_nil, mca_i, mca_l, mca_r, mca_u, mca_x, mcat_i, mcat_l, mcat_r, mcat_u, mcat_x, mK_some, mK_none, va_rf_s, va_rf_n, lgc_eq, lgc_lt, lgc_gt, lgc_ge, lgc_le, mrd_104, mrd_105, mrd_106, mrd_107, true_and, and_true, and_self, false_and, and_false, true_or, or_true, false_or, or_false, not_true_eq_false, not_false_eq_true, mgb, mga, mgr, mN, reduceCtorEq, ↓reduceIte, eq_self, ge_iff_le, gt_iff_lt, Nat.reduceAdd, Nat.reduceMul, Nat.reduceSub, Nat.reduceLT, Nat.reduceGT, Nat.reduceEqDiff, Nat.reduceLeDiff, Nat.left_eq_add, Nat.add_eq_left, Nat.reduceMod, Nat.reduceDiv, Nat.succ_ne_self, g, r19, g19, g19a, g19b, l19, e13, z13, nn_mxT, nn_clamp, e1']
theorem c_337 (F : RF h) {fn q : Nat} (h13 : ∀ i, i < q → mh_i h 93 (fn + 1 + i) = 13) (n13 : ¬ mh_i h 93 (fn + 1 + q) = 13) (hq : fn + 1 + q < 26000) : ∀ Q, mcall d 337 [.ref 81, .int (Int32.ofNat fn)] h Q = Q (some (.int (Int32.ofNat (fn + 1 + q)))) h := by
  intro Q
  have lp := l_337 (d := d) (x1 := Int32.ofNat fn) F q (fn + 1) h13 n13 hq Q
  rw [← lp]
  have e1' : ∀ k, Int32.ofNat k + 1 = Int32.ofNat (k + 1) := fun k => nn_add (a := k) (b := 1)
  clear lp F
  simp (disch := omega) only [s_337_0, s_337_1, s_337_2, s_337_3, s_337_5, s_337_8, s_337_9, s_337_10, s_337_12, s_337_15, s_337_18, s_337_21, s_337_22, e_337, mv_i_1, mv_l_1, mv_a_1, mv_a_2, mv_a_3, mk2_n, mk2_i, mk2_l, mk2_a, mk2_u, mk2_x, mB_T, mB_F, mS_cons, mS_nil, mSB_T, mSB_F, mca_nil, mca_i, mca_l, mca_r, mca_u, mca_x, mcat_i, mcat_l, mcat_r, mcat_u, mcat_x, mK_some, mK_none, va_rf_s, va_rf_n, lgc_eq, lgc_lt, lgc_gt, lgc_ge, lgc_le, mrd_104, mrd_105, mrd_106, mrd_107, true_and, and_true, and_self, false_and, and_false, true_or, or_true, false_or, or_false, not_true_eq_false, not_false_eq_true, mgb, mga, mgr, mN, reduceCtorEq, ↓reduceIte, eq_self, ge_iff_le, gt_iff_lt, Nat.reduceAdd, Nat.reduceMul, Nat.reduceSub, Nat.reduceLT, Nat.reduceGT, Nat.reduceEqDiff, Nat.reduceLeDiff, Nat.left_eq_add, Nat.add_eq_left, Nat.reduceMod, Nat.reduceDiv, Nat.succ_ne_self, e1']
theorem l_336 (F : RF h) {bl sz : Nat} (hb : bl < 26000) (hs : mh_i h 97 bl = Int32.ofNat sz) (hsz : bl + sz ≤ 26000) : ∀ t k (x : Int32), trR h nm t k o → k + ts t = bl + sz → ∀ Q, mw (d + 1) 336 Q 6 [some (.ref 81), some (.int (Int32.ofNat bl)), some (.int x), some (.int (Int32.ofNat k))] [] h = Q (some (.int (match lsI t k with | none => x | some j => Int32.ofNat j))) h := by
  have g := F.g 81 14 70 (by decide +kernel)
  have a0 := c_333 (d := d) (k := bl) (z := sz) F hb hs
  intro t
  induction t with
  | leaf _ =>
    intro k x _ hk Q
    have hk' : k + 0 = bl + sz := hk
    have le : (bl + sz ≤ k) = True := eq_true (by omega)
    clear F
    rw [s_336_6]
    simp (disch := omega) only [s_336_0, s_336_1, s_336_2, s_336_3, s_336_4, s_336_5, s_336_7, s_336_8, s_336_9, s_336_12, s_336_15, s_336_16, s_336_17, s_336_18, s_336_19, s_336_22, s_336_23, s_336_26, s_336_27, e_336, mv_i_1, mv_l_1, mv_a_1, mv_a_2, mv_a_3, mk2_n, mk2_i, mk2_l, mk2_a, mk2_u, mk2_x, mB_T, mB_F, mS_cons, mS_nil, mSB_T, mSB_F, mca_nil, mca_i, mca_l, mca_r, mca_u, mca_x, mcat_i, mcat_l, mcat_r, mcat_u, mcat_x, mK_some, mK_none, va_rf_s, va_rf_n, lgc_eq, lgc_lt, lgc_gt, lgc_ge, lgc_le, mrd_104, mrd_105, mrd_106, mrd_107, true_and, and_true, and_self, false_and, and_false, true_or, or_true, false_or, or_false, not_true_eq_false, not_false_eq_true, mgb, mga, mgr, mN, reduceCtorEq, ↓reduceIte, eq_self, ge_iff_le, gt_iff_lt, Nat.reduceAdd, Nat.reduceMul, Nat.reduceSub, Nat.reduceLT, Nat.reduceGT, Nat.reduceEqDiff, Nat.reduceLeDiff, Nat.left_eq_add, Nat.add_eq_left, Nat.reduceMod, Nat.reduceDiv, Nat.succ_ne_self, g, a0, nn_le, le, lsI]
  | branch n cs r _ ih =>
    intro k x T hk Q
    obtain ⟨⟨t1, t2, t3, t4, t5, t6⟩, -, T2⟩ := T
    rw [ts_B] at hk
    have le : (bl + sz ≤ k) = False := eq_false (by omega)
    have a1 := c_333 (d := d) (k := k) (z := 1 + ts cs) F (by omega) t6
    have i1 := ih (k + 1 + ts cs) (Int32.ofNat k) T2 (by omega) Q
    have ls : (match lsI (.branch n cs r) k with | none => x | some j => Int32.ofNat j) = (match lsI r (k + 1 + ts cs) with | none => Int32.ofNat k | some j => Int32.ofNat j) := by
      have e : lsI (.branch n cs r) k = if ts r = 0 then some k else lsI r (k + 1 + ts cs) := rfl
      rw [e]
      by_cases c : ts r = 0
      · rw [if_pos c]
        obtain ⟨u, hu⟩ := ts_z c
        subst hu
        rfl
      · rw [if_neg c]
        cases r with
        | leaf _ => exact absurd rfl c
        | branch a b q =>
          have key : ∀ (q : tr) j, 0 < ts q → ∃ y, lsI q j = some y := by
            intro q
            induction q with
            | leaf _ => exact fun j hj => absurd hj (Nat.lt_irrefl _)
            | branch n' c' r' _ i2 =>
              intro j _
              show ∃ y, (if ts r' = 0 then some j else lsI r' (j + 1 + ts c')) = some y
              by_cases c2 : ts r' = 0
              · rw [if_pos c2]; exact ⟨j, rfl⟩
              · rw [if_neg c2]; exact i2 _ (by omega)
          obtain ⟨y, hy⟩ := key (.branch a b q) (k + 1 + ts cs) (by omega)
          rw [hy]
    rw [ls, ← i1]
    rw [show k + (1 + ts cs) = k + 1 + ts cs from by omega] at a1
    clear F i1 ih ls
    rw [s_336_6]
    simp (disch := omega) only [s_336_0, s_336_1, s_336_2, s_336_3, s_336_4, s_336_5, s_336_7, s_336_8, s_336_9, s_336_12, s_336_15, s_336_16, s_336_17, s_336_18, s_336_19, s_336_22, s_336_23, s_336_26, s_336_27, e_336, mv_i_1, mv_l_1, mv_a_1, mv_a_2, mv_a_3, mk2_n, mk2_i, mk2_l, mk2_a, mk2_u, mk2_x, mB_T, mB_F, mS_cons, mS_nil, mSB_T, mSB_F, mca_nil, mca_i, mca_l, mca_r, mca_u, mca_x, mcat_i, mcat_l, mcat_r, mcat_u, mcat_x, mK_some, mK_none, va_rf_s, va_rf_n, lgc_eq, lgc_lt, lgc_gt, lgc_ge, lgc_le, mrd_104, mrd_105, mrd_106, mrd_107, true_and, and_true, and_self, false_and, and_false, true_or, or_true, false_or, or_false, not_true_eq_false, not_false_eq_true, mgb, mga, mgr, mN, reduceCtorEq, ↓reduceIte, eq_self, ge_iff_le, gt_iff_lt, Nat.reduceAdd, Nat.reduceMul, Nat.reduceSub, Nat.reduceLT, Nat.reduceGT, Nat.reduceEqDiff, Nat.reduceLeDiff, Nat.left_eq_add, Nat.add_eq_left, Nat.reduceMod, Nat.reduceDiv, Nat.succ_ne_self, g, a0, a1, nn_le, le]
theorem c_336 (F : RF h) {bl : Nat} {t : tr} (hb : bl + (1 + ts t) ≤ 26000) (hs : mh_i h 97 bl = Int32.ofNat (1 + ts t)) (T : trR h nm t (bl + 1) o) : ∀ Q, mcall (d + 1) 336 [.ref 81, .int (Int32.ofNat bl)] h Q = Q (some (.int (match lsI t (bl + 1) with | none => -1 | some j => Int32.ofNat j))) h := by
  intro Q
  have lp := l_336 (d := d) (nm := nm) (o := o) F (bl := bl) (sz := 1 + ts t) (by omega) hs (by omega) t (bl + 1) (-1) T (by omega) Q
  rw [← lp]
  have e1' : ∀ k, Int32.ofNat k + 1 = Int32.ofNat (k + 1) := fun k => nn_add (a := k) (b := 1)
  clear lp F T
  simp (disch := omega) only [s_336_0, s_336_1, s_336_2, s_336_3, s_336_4, s_336_5, s_336_7, s_336_8, s_336_9, s_336_12, s_336_15, s_336_16, s_336_17, s_336_18, s_336_19, s_336_22, s_336_23, s_336_26, s_336_27, e_336, mv_i_1, mv_l_1, mv_a_1, mv_a_2, mv_a_3, mk2_n, mk2_i, mk2_l, mk2_a, mk2_u, mk2_x, mB_T, mB_F, mS_cons, mS_nil, mSB_T, mSB_F, mca_nil, mca_i, mca_l, mca_r, mca_u, mca_x, mcat_i, mcat_l, mcat_r, mcat_u, mcat_x, mK_some, mK_none, va_rf_s, va_rf_n, lgc_eq, lgc_lt, lgc_gt, lgc_ge, lgc_le, mrd_104, mrd_105, mrd_106, mrd_107, true_and, and_true, and_self, false_and, and_false, true_or, or_true, false_or, or_false, not_true_eq_false, not_false_eq_true, mgb, mga, mgr, mN, reduceCtorEq, ↓reduceIte, eq_self, ge_iff_le, gt_iff_lt, Nat.reduceAdd, Nat.reduceMul, Nat.reduceSub, Nat.reduceLT, Nat.reduceGT, Nat.reduceEqDiff, Nat.reduceLeDiff, Nat.left_eq_add, Nat.add_eq_left, Nat.reduceMod, Nat.reduceDiv, Nat.succ_ne_self, e1']
theorem ls_g : ∀ t k, trR h nm t k o → k + ts t ≤ 26000 → (gvT t = true ↔ ∃ j, lsI t k = some j ∧ mh_i h 93 j = 11) ∧ ∀ j, lsI t k = some j → k ≤ j ∧ j < 26000 := by
  intro t
  induction t with
  | leaf _ => exact fun k _ _ => ⟨⟨fun z => (by cases z), fun ⟨j, z, _⟩ => (by cases z)⟩, fun j z => (by cases z)⟩
  | branch n cs r _ ih =>
    intro k T hk
    rw [ts_B] at hk
    obtain ⟨⟨t1, t2, t3, t4, t5, t6⟩, -, T2⟩ := T
    have e : lsI (.branch n cs r) k = if ts r = 0 then some k else lsI r (k + 1 + ts cs) := rfl
    have eg : gvT (.branch n cs r) = if ts r = 0 then decide (tK n = 11) else gvT r := rfl
    rw [e, eg]
    have k64 := tK_b (x := n)
    by_cases c : ts r = 0
    · rw [if_pos c, if_pos c]
      refine ⟨⟨fun z => ⟨k, rfl, by rw [t1, of_decide_eq_true z]; rfl⟩, fun ⟨j, z1, z2⟩ => ?_⟩, fun j z => by cases z; omega⟩
      cases z1
      rw [t1] at z2
      exact decide_eq_true ((nn_eq (a := tK n) (b := 11) (by omega) (by decide)) ▸ z2)
    · rw [if_neg c, if_neg c]
      obtain ⟨i1, i2⟩ := ih (k + 1 + ts cs) T2 (by omega)
      exact ⟨i1, fun j z => by have := i2 j z; omega⟩
/-- returns -/
theorem c_338 (F : RF h) {fn q : Nat} {t : tr} (h13 : ∀ i, i < q → mh_i h 93 (fn + 1 + i) = 13) (n13 : ¬ mh_i h 93 (fn + 1 + q) = 13) (hb : fn + 1 + q + (1 + ts t) ≤ 26000) (hs : mh_i h 97 (fn + 1 + q) = Int32.ofNat (1 + ts t)) (T : trR h nm t (fn + 1 + q + 1) o) : ∀ Q, mcall (d + 2) 338 [.ref 81, .int (Int32.ofNat fn)] h Q = Q (some (.int (kb (gvT t)))) h := by
  intro Q
  have g := F.g 81 14 70 (by decide +kernel)
  have r19 := F.f 81 19 93 (by decide +kernel)
  have g19 := F.g 93 102 26000 (by decide +kernel)
  have g19a := g19.1
  have g19b := g19.2
  have l19 := F.l 93 102 26000 (by decide +kernel)
  have a0 := c_337 (d := d + 1) F h13 n13 (by omega)
  have a1 := c_336 (d := d) (nm := nm) (o := o) F hb hs T
  obtain ⟨q1, q2⟩ := ls_g t _ T (by omega)
  have m1 : ((-1 : Int32) = -1) = True := eq_true rfl
  have k1 : kb true = 1 := rfl
  have k0 : kb false = 0 := rfl
  clear F T h13 n13
  cases hl : lsI t (fn + 1 + q + 1) with
  | none =>
    rw [hl] at a1
    have gv : gvT t = false := Bool.eq_false_iff.mpr (fun z => by obtain ⟨j, z1, _⟩ := q1.mp z; rw [hl] at z1; cases z1)
    rw [gv, k0]
    simp (disch := omega) only [s_338_0, s_338_1, s_338_2, s_338_3, s_338_6, s_338_9, s_338_10, s_338_11, s_338_12, s_338_15, s_338_16, s_338_19, s_338_20, s_338_21, s_338_23, s_338_26, s_338_27, s_338_30, s_338_31, e_338, mv_i_1, mv_l_1, mv_a_1, mv_a_2, mv_a_3, mk2_n, mk2_i, mk2_l, mk2_a, mk2_u, mk2_x, mB_T, mB_F, mS_cons, mS_nil, mSB_T, mSB_F, mca_nil, mca_i, mca_l, mca_r, mca_u, mca_x, mcat_i, mcat_l, mcat_r, mcat_u, mcat_x, mK_some, mK_none, va_rf_s, va_rf_n, lgc_eq, lgc_lt, lgc_gt, lgc_ge, lgc_le, mrd_104, mrd_105, mrd_106, mrd_107, true_and, and_true, and_self, false_and, and_false, true_or, or_true, false_or, or_false, not_true_eq_false, not_false_eq_true, mgb, mga, mgr, mN, reduceCtorEq, ↓reduceIte, eq_self, ge_iff_le, gt_iff_lt, Nat.reduceAdd, Nat.reduceMul, Nat.reduceSub, Nat.reduceLT, Nat.reduceGT, Nat.reduceEqDiff, Nat.reduceLeDiff, Nat.left_eq_add, Nat.add_eq_left, Nat.reduceMod, Nat.reduceDiv, Nat.succ_ne_self, g, a0, a1, m1]
  | some j =>
    rw [hl] at a1
    have hj := q2 j hl
    have ni : (Int32.ofNat j = -1) = False := nn_m2 (by omega)
    by_cases c : mh_i h 93 j = 11
    · have c' := eq_true c
      rw [q1.mpr ⟨j, hl, c⟩, k1]
      simp (disch := omega) only [s_338_0, s_338_1, s_338_2, s_338_3, s_338_6, s_338_9, s_338_10, s_338_11, s_338_12, s_338_15, s_338_16, s_338_19, s_338_20, s_338_21, s_338_23, s_338_26, s_338_27, s_338_30, s_338_31, e_338, mv_i_1, mv_l_1, mv_a_1, mv_a_2, mv_a_3, mk2_n, mk2_i, mk2_l, mk2_a, mk2_u, mk2_x, mB_T, mB_F, mS_cons, mS_nil, mSB_T, mSB_F, mca_nil, mca_i, mca_l, mca_r, mca_u, mca_x, mcat_i, mcat_l, mcat_r, mcat_u, mcat_x, mK_some, mK_none, va_rf_s, va_rf_n, lgc_eq, lgc_lt, lgc_gt, lgc_ge, lgc_le, mrd_104, mrd_105, mrd_106, mrd_107, true_and, and_true, and_self, false_and, and_false, true_or, or_true, false_or, or_false, not_true_eq_false, not_false_eq_true, mgb, mga, mgr, mN, reduceCtorEq, ↓reduceIte, eq_self, ge_iff_le, gt_iff_lt, Nat.reduceAdd, Nat.reduceMul, Nat.reduceSub, Nat.reduceLT, Nat.reduceGT, Nat.reduceEqDiff, Nat.reduceLeDiff, Nat.left_eq_add, Nat.add_eq_left, Nat.reduceMod, Nat.reduceDiv, Nat.succ_ne_self, g, a0, a1, ni, r19, g19, g19a, g19b, l19, c', nn_mxT, nn_clamp]
    · have c' := eq_false c
      have gv : gvT t = false := Bool.eq_false_iff.mpr (fun z => by obtain ⟨j', z1, z2⟩ := q1.mp z; rw [hl] at z1; cases z1; exact c z2)
      rw [gv, k0]
      simp (disch := omega) only [s_338_0, s_338_1, s_338_2, s_338_3, s_338_6, s_338_9, s_338_10, s_338_11, s_338_12, s_338_15, s_338_16, s_338_19, s_338_20, s_338_21, s_338_23, s_338_26, s_338_27, s_338_30, s_338_31, e_338, mv_i_1, mv_l_1, mv_a_1, mv_a_2, mv_a_3, mk2_n, mk2_i, mk2_l, mk2_a, mk2_u, mk2_x, mB_T, mB_F, mS_cons, mS_nil, mSB_T, mSB_F, mca_nil, mca_i, mca_l, mca_r, mca_u, mca_x, mcat_i, mcat_l, mcat_r, mcat_u, mcat_x, mK_some, mK_none, va_rf_s, va_rf_n, lgc_eq, lgc_lt, lgc_gt, lgc_ge, lgc_le, mrd_104, mrd_105, mrd_106, mrd_107, true_and, and_true, and_self, false_and, and_false, true_or, or_true, false_or, or_false, not_true_eq_false, not_false_eq_true, mgb, mga, mgr, mN, reduceCtorEq, ↓reduceIte, eq_self, ge_iff_le, gt_iff_lt, Nat.reduceAdd, Nat.reduceMul, Nat.reduceSub, Nat.reduceLT, Nat.reduceGT, Nat.reduceEqDiff, Nat.reduceLeDiff, Nat.left_eq_add, Nat.add_eq_left, Nat.reduceMod, Nat.reduceDiv, Nat.succ_ne_self, g, a0, a1, ni, r19, g19, g19a, g19b, l19, c', nn_mxT, nn_clamp]
theorem l_349 (F : RF h) {x1 : Int32} {gg : Nat} : ∀ f k, chW (mh_i h 96) f k gg → ∀ Q, mw d 349 Q 2 [some (.ref 81), some (.int x1), some (.int (Int32.ofNat k))] [] h = Q (some (.int (Int32.ofNat gg))) h := by
  have g := F.g 81 14 70 (by decide +kernel)
  have r22 := F.f 81 22 96 (by decide +kernel)
  have g22 := F.g 96 100 26000 (by decide +kernel)
  have l22 := F.l 96 100 26000 (by decide +kernel)
  have z0 : ((0 : Int32) = 0) = True := eq_true rfl
  clear F
  intro f
  induction f with
  | zero => exact fun k w => absurd w (fun z => z)
  | succ f ih =>
    intro k w Q
    obtain ⟨hk, w⟩ := w
    rcases w with ⟨w1, w2⟩ | ⟨y, w1, w2, w3, w4⟩
    · subst w2
      rw [s_349_2]
      simp (disch := omega) only [s_349_0, s_349_1, s_349_3, s_349_6, s_349_7, s_349_8, s_349_11, s_349_12, s_349_15, s_349_16, s_349_17, s_349_18, s_349_21, s_349_22, e_349, mv_i_1, mv_l_1, mv_a_1, mv_a_2, mv_a_3, mk2_n, mk2_i, mk2_l, mk2_a, mk2_u, mk2_x, mB_T, mB_F, mS_cons, mS_nil, mSB_T, mSB_F, mca_nil, mca_i, mca_l, mca_r, mca_u, mca_x, mcat_i, mcat_l, mcat_r, mcat_u, mcat_x, mK_some, mK_none, va_rf_s, va_rf_n, lgc_eq, lgc_lt, lgc_gt, lgc_ge, lgc_le, mrd_104, mrd_105, mrd_106, mrd_107, true_and, and_true, and_self, false_and, and_false, true_or, or_true, false_or, or_false, not_true_eq_false, not_false_eq_true, mgb, mga, mgr, mN, reduceCtorEq, ↓reduceIte, eq_self, ge_iff_le, gt_iff_lt, Nat.reduceAdd, Nat.reduceMul, Nat.reduceSub, Nat.reduceLT, Nat.reduceGT, Nat.reduceEqDiff, Nat.reduceLeDiff, Nat.left_eq_add, Nat.add_eq_left, Nat.reduceMod, Nat.reduceDiv, Nat.succ_ne_self, g, r22, g22, l22, w1, z0, nn_mxT, nn_clamp]
    · have i1 := ih y w4 Q
      have ny : (Int32.ofNat y = 0) = False := by
        rw [show (0 : Int32) = Int32.ofNat 0 from rfl, nn_eq (by omega) (by omega)]
        exact eq_false (by omega)
      rw [← i1]
      clear ih i1
      rw [s_349_2]
      simp (disch := omega) only [s_349_0, s_349_1, s_349_3, s_349_6, s_349_7, s_349_8, s_349_11, s_349_12, s_349_15, s_349_16, s_349_17, s_349_18, s_349_21, s_349_22, e_349, mv_i_1, mv_l_1, mv_a_1, mv_a_2, mv_a_3, mk2_n, mk2_i, mk2_l, mk2_a, mk2_u, mk2_x, mB_T, mB_F, mS_cons, mS_nil, mSB_T, mSB_F, mca_nil, mca_i, mca_l, mca_r, mca_u, mca_x, mcat_i, mcat_l, mcat_r, mcat_u, mcat_x, mK_some, mK_none, va_rf_s, va_rf_n, lgc_eq, lgc_lt, lgc_gt, lgc_ge, lgc_le, mrd_104, mrd_105, mrd_106, mrd_107, true_and, and_true, and_self, false_and, and_false, true_or, or_true, false_or, or_false, not_true_eq_false, not_false_eq_true, mgb, mga, mgr, mN, reduceCtorEq, ↓reduceIte, eq_self, ge_iff_le, gt_iff_lt, Nat.reduceAdd, Nat.reduceMul, Nat.reduceSub, Nat.reduceLT, Nat.reduceGT, Nat.reduceEqDiff, Nat.reduceLeDiff, Nat.left_eq_add, Nat.add_eq_left, Nat.reduceMod, Nat.reduceDiv, Nat.succ_ne_self, g, r22, g22, l22, w1, ny, nn_mxT, nn_clamp]
theorem c_349 (F : RF h) {gg f : Nat} (w : chW (mh_i h 96) f k gg) : ∀ Q, mcall d 349 [.ref 81, .int (Int32.ofNat k)] h Q = Q (some (.int (Int32.ofNat gg))) h := by
  intro Q
  have lp := l_349 (d := d) (x1 := Int32.ofNat k) F f k w Q
  rw [← lp]
  clear lp F w
  simp (disch := omega) only [s_349_0, s_349_1, s_349_3, s_349_6, s_349_7, s_349_8, s_349_11, s_349_12, s_349_15, s_349_16, s_349_17, s_349_18, s_349_21, s_349_22, e_349, mv_i_1, mv_l_1, mv_a_1, mv_a_2, mv_a_3, mk2_n, mk2_i, mk2_l, mk2_a, mk2_u, mk2_x, mB_T, mB_F, mS_cons, mS_nil, mSB_T, mSB_F, mca_nil, mca_i, mca_l, mca_r, mca_u, mca_x, mcat_i, mcat_l, mcat_r, mcat_u, mcat_x, mK_some, mK_none, va_rf_s, va_rf_n, lgc_eq, lgc_lt, lgc_gt, lgc_ge, lgc_le, mrd_104, mrd_105, mrd_106, mrd_107, true_and, and_true, and_self, false_and, and_false, true_or, or_true, false_or, or_false, not_true_eq_false, not_false_eq_true, mgb, mga, mgr, mN, reduceCtorEq, ↓reduceIte, eq_self, ge_iff_le, gt_iff_lt, Nat.reduceAdd, Nat.reduceMul, Nat.reduceSub, Nat.reduceLT, Nat.reduceGT, Nat.reduceEqDiff, Nat.reduceLeDiff, Nat.left_eq_add, Nat.add_eq_left, Nat.reduceMod, Nat.reduceDiv, Nat.succ_ne_self]
end BOs
