set_option maxRecDepth 100000
/-! the reference's isNew, give -/
section INs
variable {d : Nat} {h : mh_H} {sp : Nat → Nat → Bool} {nm : Nat → Nat} {X : lcx} {L : cen} {b id bs v k : Nat}
theorem enR_i : ∀ (L : cen) b i, enR h nm X bs id L b → i < L.length → ∃ a z y, L[L.length - 1 - i]? = some (a, z) ∧ mh_i h 109 (bs + i) = Int32.ofNat (nm a) ∧ nm a < 100000 ∧ y < 100000 ∧ mh_i h 112 (bs + i) = Int32.ofNat y ∧ (y = id ↔ L.length - 1 - i < b) := by
  intro L
  induction L with
  | nil => exact fun b i _ hi => absurd hi (Nat.not_lt_zero _)
  | cons e l ih =>
    obtain ⟨a0, z0⟩ := e
    intro b i w hi
    obtain ⟨⟨w1, w2, w3, w4, w5, y, y1, y2, y3⟩, w7⟩ := w
    have hi' : i < l.length + 1 := hi
    have el : ((a0, z0) :: l).length = l.length + 1 := rfl
    rw [el]
    by_cases c : i = l.length
    · subst c
      rw [show l.length + 1 - 1 - l.length = 0 from by omega]
      exact ⟨a0, z0, y, rfl, w1, w2, y1, y2, y3⟩
    · obtain ⟨a, z, y', q1, q2, q3, q4, q5, q6⟩ := ih (b - 1) i w7 (by omega)
      rw [show l.length + 1 - 1 - i = (l.length - 1 - i) + 1 from by omega]
      refine ⟨a, z, y', q1, q2, q3, q4, q5, q6.trans ⟨fun z => by omega, fun z => by omega⟩⟩
theorem tw_i : ∀ (L : cen) b, twE sp b L v = true ↔ ∃ i a z, L[i]? = some (a, z) ∧ i < b ∧ sp a v = true := by
  intro L
  induction L with
  | nil =>
    intro b
    have t0 : twE sp b [] v = false := by cases b <;> rfl
    rw [t0]
    exact ⟨fun z => (by cases z), fun ⟨i, a, z, e, _⟩ => (by cases e)⟩
  | cons e l ih =>
    obtain ⟨a0, z0⟩ := e
    intro b
    cases b with
    | zero => exact ⟨fun z => (by cases z), fun ⟨i, a, z, _, q, _⟩ => absurd q (Nat.not_lt_zero _)⟩
    | succ b =>
      show (sp a0 v || twE sp b l v) = true ↔ _
      rw [Bool.or_eq_true, ih b]
      refine ⟨fun q => ?_, fun ⟨i, a, z, q1, q2, q3⟩ => ?_⟩
      · rcases q with q | ⟨i, a, z, q1, q2, q3⟩
        · exact ⟨0, a0, z0, rfl, by omega, q⟩
        · exact ⟨i + 1, a, z, q1, by omega, q3⟩
      · cases i with
        | zero => cases q1; exact Or.inl q3
        | succ i => exact Or.inr ⟨i, a, z, q1, by omega, q3⟩
theorem l_343 (R : REN h nm X L b id bs) (hk : k < 26000) (ev : mh_i h 95 k = Int32.ofNat (nm v)) (kv : nm v < 100000) (hq : ∀ a z, (a, z) ∈ L → (nm a = nm v ↔ sp a v = true)) (e0 : mh_i h 81 47 = 0) : ∀ f j, j + f = L.length → (∀ i a z, L[i]? = some (a, z) → L.length ≤ i + j → i < b → ¬ sp a v = true) → ∀ Q, mw (d + 1) 343 Q 5 [some (.ref 81), some (.int (Int32.ofNat k)), some (.int (Int32.ofNat id)), some (.int (Int32.ofNat (bs + j)))] [] h = if twE sp b L v = true then Q (some (.int 0)) (wrH h 2 (mh_i h 94 k)) else Q (some (.int 1)) h := by
  have F := R.F
  have g := F.g 81 14 70 (by decide +kernel)
  have r38 := F.f 81 38 109 (by decide +kernel)
  have g38 := F.g 109 100 40 (by decide +kernel)
  have l38 := F.l 109 100 40 (by decide +kernel)
  have r41 := F.f 81 41 112 (by decide +kernel)
  have g41 := F.g 112 100 40 (by decide +kernel)
  have l41 := F.l 112 100 40 (by decide +kernel)
  have r21 := F.f 81 21 95 (by decide +kernel)
  have g21 := F.g 95 100 26000 (by decide +kernel)
  have l21 := F.l 95 100 26000 (by decide +kernel)
  have w2 := c_335 (d := d) (k := k) (w := 2) F hk e0
  have e1' : ∀ k, Int32.ofNat k + 1 = Int32.ofNat (k + 1) := fun k => nn_add (a := k) (b := 1)
  have ee := R.e
  have hl := R.l
  have hid := R.i
  clear F
  intro f
  induction f with
  | zero =>
    intro j hj no Q
    have t0 : ¬ twE sp b L v = true := fun q => by
      obtain ⟨i, a, z, q1, q2, q3⟩ := (tw_i L b).mp q
      exact no i a z q1 (by omega) q2 q3
    rw [if_neg t0]
    have le : (bs + L.length ≤ bs + j) = True := eq_true (by omega)
    clear R
    rw [s_343_5]
    simp (disch := omega) only [s_343_0, s_343_1, s_343_4, s_343_6, s_343_7, s_343_10, s_343_13, s_343_14, s_343_17, s_343_18, s_343_19, s_343_20, s_343_23, s_343_24, s_343_27, s_343_28, s_343_29, s_343_30, s_343_33, s_343_34, s_343_35, s_343_38, s_343_39, s_343_40, s_343_41, s_343_44, s_343_45, s_343_48, s_343_51, s_343_52, e_343, mv_i_1, mv_l_1, mv_a_1, mv_a_2, mv_a_3, mk2_n, mk2_i, mk2_l, mk2_a, mk2_u, mk2_x, mB_T, mB_F, mS_cons, mS_nil, mSB_T, mSB_F, mca_nil, mca_i, mca_l, mca_r, mca_u, mca_x, mcat_i, mcat_l, mcat_r, mcat_u, mcat_x, mK_some, mK_none, va_rf_s, va_rf_n, lgc_eq, lgc_lt, lgc_gt, lgc_ge, lgc_le, mrd_104, mrd_105, mrd_106, mrd_107, true_and, and_true, and_self, false_and, and_false, true_or, or_true, false_or, or_false, not_true_eq_false, not_false_eq_true, mgb, mga, mgr, mN, reduceCtorEq, ↓reduceIte, eq_self, ge_iff_le, gt_iff_lt, Nat.reduceAdd, Nat.reduceMul, Nat.reduceSub, Nat.reduceLT, Nat.reduceGT, Nat.reduceEqDiff, Nat.reduceLeDiff, Nat.left_eq_add, Nat.add_eq_left, Nat.reduceMod, Nat.reduceDiv, Nat.succ_ne_self, g, ee, nn_le, le]
  | succ f ih =>
    intro j hj no Q
    obtain ⟨a, z, y, q1, q2, q3, q4, q5, q6⟩ := enR_i L b j R.n (by omega)
    have mem : (a, z) ∈ L := List.mem_of_getElem? q1
    have le : (bs + L.length ≤ bs + j) = False := eq_false (by omega)
    have ey : (Int32.ofNat y = Int32.ofNat id) = (y = id) := nn_eq (by omega) (by omega)
    have en : (Int32.ofNat (nm a) = Int32.ofNat (nm v)) = (nm a = nm v) := nn_eq (by omega) (by omega)
    have hqa := hq a z mem
    by_cases c1 : y = id
    · have c1' := ey.trans (eq_true c1)
      by_cases c2 : sp a v = true
      · have c2' := en.trans (eq_true (hqa.mpr c2))
        rw [if_pos ((tw_i L b).mpr ⟨_, a, z, q1, q6.mp c1, c2⟩)]
        clear R ih
        rw [s_343_5]
        simp (disch := omega) only [s_343_0, s_343_1, s_343_4, s_343_6, s_343_7, s_343_10, s_343_13, s_343_14, s_343_17, s_343_18, s_343_19, s_343_20, s_343_23, s_343_24, s_343_27, s_343_28, s_343_29, s_343_30, s_343_33, s_343_34, s_343_35, s_343_38, s_343_39, s_343_40, s_343_41, s_343_44, s_343_45, s_343_48, s_343_51, s_343_52, e_343, mv_i_1, mv_l_1, mv_a_1, mv_a_2, mv_a_3, mk2_n, mk2_i, mk2_l, mk2_a, mk2_u, mk2_x, mB_T, mB_F, mS_cons, mS_nil, mSB_T, mSB_F, mca_nil, mca_i, mca_l, mca_r, mca_u, mca_x, mcat_i, mcat_l, mcat_r, mcat_u, mcat_x, mK_some, mK_none, va_rf_s, va_rf_n, lgc_eq, lgc_lt, lgc_gt, lgc_ge, lgc_le, mrd_104, mrd_105, mrd_106, mrd_107, true_and, and_true, and_self, false_and, and_false, true_or, or_true, false_or, or_false, not_true_eq_false, not_false_eq_true, mgb, mga, mgr, mN, reduceCtorEq, ↓reduceIte, eq_self, ge_iff_le, gt_iff_lt, Nat.reduceAdd, Nat.reduceMul, Nat.reduceSub, Nat.reduceLT, Nat.reduceGT, Nat.reduceEqDiff, Nat.reduceLeDiff, Nat.left_eq_add, Nat.add_eq_left, Nat.reduceMod, Nat.reduceDiv, Nat.succ_ne_self, g, r38, g38, l38, r41, g41, l41, r21, g21, l21, ee, ev, q2, q5, c1', c2', nn_le, le, nn_mxT, nn_clamp, w2]
      · have c2' := en.trans (eq_false (fun q => c2 (hqa.mp q)))
        rw [← ih (j + 1) (by omega) (fun i a' z' u1 u2 u3 u4 => by
          by_cases ci : i = L.length - 1 - j
          · rw [ci, q1] at u1; cases u1; exact c2 u4
          · exact no i a' z' u1 (by omega) u3 u4) Q]
        clear R ih
        rw [s_343_5]
        simp (disch := omega) only [s_343_0, s_343_1, s_343_4, s_343_6, s_343_7, s_343_10, s_343_13, s_343_14, s_343_17, s_343_18, s_343_19, s_343_20, s_343_23, s_343_24, s_343_27, s_343_28, s_343_29, s_343_30, s_343_33, s_343_34, s_343_35, s_343_38, s_343_39, s_343_40, s_343_41, s_343_44, s_343_45, s_343_48, s_343_51, s_343_52, e_343, mv_i_1, mv_l_1, mv_a_1, mv_a_2, mv_a_3, mk2_n, mk2_i, mk2_l, mk2_a, mk2_u, mk2_x, mB_T, mB_F, mS_cons, mS_nil, mSB_T, mSB_F, mca_nil, mca_i, mca_l, mca_r, mca_u, mca_x, mcat_i, mcat_l, mcat_r, mcat_u, mcat_x, mK_some, mK_none, va_rf_s, va_rf_n, lgc_eq, lgc_lt, lgc_gt, lgc_ge, lgc_le, mrd_104, mrd_105, mrd_106, mrd_107, true_and, and_true, and_self, false_and, and_false, true_or, or_true, false_or, or_false, not_true_eq_false, not_false_eq_true, mgb, mga, mgr, mN, reduceCtorEq, ↓reduceIte, eq_self, ge_iff_le, gt_iff_lt, Nat.reduceAdd, Nat.reduceMul, Nat.reduceSub, Nat.reduceLT, Nat.reduceGT, Nat.reduceEqDiff, Nat.reduceLeDiff, Nat.left_eq_add, Nat.add_eq_left, Nat.reduceMod, Nat.reduceDiv, Nat.succ_ne_self, g, r38, g38, l38, r41, g41, l41, r21, g21, l21, ee, ev, q2, q5, c1', c2', nn_le, le, nn_mxT, nn_clamp, e1', Nat.add_assoc]
    · have c1' := ey.trans (eq_false c1)
      rw [← ih (j + 1) (by omega) (fun i a' z' u1 u2 u3 u4 => by
        by_cases ci : i = L.length - 1 - j
        · exact c1 (q6.mpr (by omega))
        · exact no i a' z' u1 (by omega) u3 u4) Q]
      clear R ih
      rw [s_343_5]
      simp (disch := omega) only [s_343_0, s_343_1, s_343_4, s_343_6, s_343_7, s_343_10, s_343_13, s_343_14, s_343_17, s_343_18, s_343_19, s_343_20, s_343_23, s_343_24, s_343_27, s_343_28, s_343_29, s_343_30, s_343_33, s_343_34, s_343_35, s_343_38, s_343_39, s_343_40, s_343_41, s_343_44, s_343_45, s_343_48, s_343_51, s_343_52, e_343, mv_i_1, mv_l_1, mv_a_1, mv_a_2, mv_a_3, mk2_n, mk2_i, mk2_l, mk2_a, mk2_u, mk2_x, mB_T, mB_F, mS_cons, mS_nil, mSB_T, mSB_F, mca_nil, mca_i, mca_l, mca_r, mca_u, mca_x, mcat_i, mcat_l, mcat_r, mcat_u, mcat_x, mK_some, mK_none, va_rf_s, va_rf_n, lgc_eq, lgc_lt, lgc_gt, lgc_ge, lgc_le, mrd_104, mrd_105, mrd_106, mrd_107, true_and, and_true, and_self, false_and, and_false, true_or, or_true, false_or, or_false, not_true_eq_false, not_false_eq_true, mgb, mga, mgr, mN, reduceCtorEq, ↓reduceIte, eq_self, ge_iff_le, gt_iff_lt, Nat.reduceAdd, Nat.reduceMul, Nat.reduceSub, Nat.reduceLT, Nat.reduceGT, Nat.reduceEqDiff, Nat.reduceLeDiff, Nat.left_eq_add, Nat.add_eq_left, Nat.reduceMod, Nat.reduceDiv, Nat.succ_ne_self, g, r41, g41, l41, ee, q5, c1', nn_le, le, nn_mxT, nn_clamp, e1', Nat.add_assoc]
theorem c_343 (R : REN h nm X L b id bs) (hk : k < 26000) (ev : mh_i h 95 k = Int32.ofNat (nm v)) (kv : nm v < 100000) (hq : ∀ a z, (a, z) ∈ L → (nm a = nm v ↔ sp a v = true)) (e0 : mh_i h 81 47 = 0) : ∀ Q, mcall (d + 1) 343 [.ref 81, .int (Int32.ofNat k), .int (Int32.ofNat id)] h Q = if twE sp b L v = true then Q (some (.int 0)) (wrH h 2 (mh_i h 94 k)) else Q (some (.int 1)) h := by
  intro Q
  have g := R.F.g 81 14 70 (by decide +kernel)
  have eb := R.b
  have lp := l_343 (d := d) (sp := sp) R hk ev kv hq e0 L.length 0 (by omega) (fun i a z u1 u2 _ _ => by
    have : i < L.length := by
      rcases Nat.lt_or_ge i L.length with q | q
      · exact q
      · rw [List.getElem?_eq_none q] at u1; cases u1
    omega) Q
  rw [Nat.add_zero bs] at lp
  rw [← lp]
  clear R lp
  simp (disch := omega) only [s_343_0, s_343_1, s_343_4, s_343_6, s_343_7, s_343_10, s_343_13, s_343_14, s_343_17, s_343_18, s_343_19, s_343_20, s_343_23, s_343_24, s_343_27, s_343_28, s_343_29, s_343_30, s_343_33, s_343_34, s_343_35, s_343_38, s_343_39, s_343_40, s_343_41, s_343_44, s_343_45, s_343_48, s_343_51, s_343_52, e_343, mv_i_1, mv_l_1, mv_a_1, mv_a_2, mv_a_3, mk2_n, mk2_i, mk2_l, mk2_a, mk2_u, mk2_x, mB_T, mB_F, mS_cons, mS_nil, mSB_T, mSB_F, mca_nil, mca_i, mca_l, mca_r, mca_u, mca_x, mcat_i, mcat_l, mcat_r, mcat_u, mcat_x, mK_some, mK_none, va_rf_s, va_rf_n, lgc_eq, lgc_lt, lgc_gt, lgc_ge, lgc_le, mrd_104, mrd_105, mrd_106, mrd_107, true_and, and_true, and_self, false_and, and_false, true_or, or_true, false_or, or_false, not_true_eq_false, not_false_eq_true, mgb, mga, mgr, mN, reduceCtorEq, ↓reduceIte, eq_self, ge_iff_le, gt_iff_lt, Nat.reduceAdd, Nat.reduceMul, Nat.reduceSub, Nat.reduceLT, Nat.reduceGT, Nat.reduceEqDiff, Nat.reduceLeDiff, Nat.left_eq_add, Nat.add_eq_left, Nat.reduceMod, Nat.reduceDiv, Nat.succ_ne_self, g, eb]
/-- give -/
def giH (h : mh_H) (e : Nat) (a s z i : Int32) : mh_H := mh_si (mh_si (mh_si (mh_si (mh_si h 109 e a) 110 e s) 111 e z) 112 e i) 81 42 (Int32.ofNat (e + 1))
theorem c_344 (F : RF h) {e : Nat} (he : mh_i h 81 42 = Int32.ofNat e) (hl : e < 40) {a s z i : Int32} : ∀ Q, mcall d 344 [.ref 81, .int a, .int s, .int z, .int i] h Q = Q none (giH h e a s z i) := by
  intro Q
  have g := F.g 81 14 70 (by decide +kernel)
  have r38 := F.f 81 38 109 (by decide +kernel)
  have g38 := F.g 109 100 40 (by decide +kernel)
  have l38 := F.l 109 100 40 (by decide +kernel)
  have r39 := F.f 81 39 110 (by decide +kernel)
  have g39 := F.g 110 100 40 (by decide +kernel)
  have l39 := F.l 110 100 40 (by decide +kernel)
  have r40 := F.f 81 40 111 (by decide +kernel)
  have g40 := F.g 111 100 40 (by decide +kernel)
  have l40 := F.l 111 100 40 (by decide +kernel)
  have r41 := F.f 81 41 112 (by decide +kernel)
  have g41 := F.g 112 100 40 (by decide +kernel)
  have l41 := F.l 112 100 40 (by decide +kernel)
  have e1' : ∀ k, Int32.ofNat k + 1 = Int32.ofNat (k + 1) := fun k => nn_add (a := k) (b := 1)
  unfold giH
  clear F
  simp (disch := omega) only [s_344_0, s_344_1, s_344_4, s_344_5, s_344_8, s_344_9, s_344_10, s_344_11, s_344_14, s_344_15, s_344_18, s_344_19, s_344_20, s_344_21, s_344_24, s_344_25, s_344_28, s_344_29, s_344_30, s_344_31, s_344_34, s_344_35, s_344_38, s_344_40, s_344_41, s_344_42, s_344_43, s_344_46, s_344_47, s_344_48, s_344_51, e_344, mv_i_1, mv_l_1, mv_a_1, mv_a_2, mv_a_3, mk2_n, mk2_i, mk2_l, mk2_a, mk2_u, mk2_x, mB_T, mB_F, mS_cons, mS_nil, mSB_T, mSB_F, mca_nil, mca_i, mca_l, mca_r, mca_u, mca_x, mcat_i, mcat_l, mcat_r, mcat_u, mcat_x, mK_some, mK_none, va_rf_s, va_rf_n, lgc_eq, lgc_lt, lgc_gt, lgc_ge, lgc_le, mrd_104, mrd_105, mrd_106, mrd_107, true_and, and_true, and_self, false_and, and_false, true_or, or_true, false_or, or_false, not_true_eq_false, not_false_eq_true, mgb, mga, mgr, mN, reduceCtorEq, ↓reduceIte, eq_self, ge_iff_le, gt_iff_lt, hk_si, hk_sj, hk_sr, hl_si, hl_sj, hl_sr, hn_si, hn_sj, hn_sr, hs_si, hs_sj, hs_sr, hi_sj, hi_sr, hj_si, hj_sr, hr_si, hr_sj, hi_si, hj_sj, hr_sr, mg_si, mg_sj, mg_sr, Nat.reduceAdd, Nat.reduceMul, Nat.reduceSub, Nat.reduceLT, Nat.reduceGT, Nat.reduceEqDiff, Nat.reduceLeDiff, Nat.left_eq_add, Nat.add_eq_left, Nat.reduceMod, Nat.reduceDiv, Nat.succ_ne_self, g, r38, g38, l38, r39, g39, l39, r40, g40, l40, r41, g41, l41, he, nn_mxT, nn_clamp, e1']
theorem gi_g {e : Nat} {a s z i : Int32} : (∀ b j, j ≠ e → ¬ (b = 81 ∧ j = 42) → mh_i (giH h e a s z i) b j = mh_i h b j) ∧ (∀ b j, ¬ (109 ≤ b ∧ b ≤ 112) → ¬ (b = 81 ∧ j = 42) → mh_i (giH h e a s z i) b j = mh_i h b j) := by
  unfold giH
  refine ⟨fun b j hj h2 => ?_, fun b j hb h2 => ?_⟩
  · rw [hi_si, if_neg h2, hi_si, if_neg (fun q => hj q.2), hi_si, if_neg (fun q => hj q.2), hi_si, if_neg (fun q => hj q.2), hi_si, if_neg (fun q => hj q.2)]
  · rw [hi_si, if_neg h2, hi_si, if_neg (by omega), hi_si, if_neg (by omega), hi_si, if_neg (by omega), hi_si, if_neg (by omega)]
theorem enR_c {h2 : mh_H} : ∀ (L : cen) b, (∀ y j, 109 ≤ y → y ≤ 112 → bs ≤ j → j < bs + L.length → mh_i h2 y j = mh_i h y j) → enR h nm X bs id L b → enR h2 nm X bs id L b := by
  intro L
  induction L with
  | nil => exact fun b _ _ => trivial
  | cons e l ih =>
    obtain ⟨a0, z0⟩ := e
    intro b q w
    have q' : ∀ y j, 109 ≤ y → y ≤ 112 → bs ≤ j → j < bs + (l.length + 1) → mh_i h2 y j = mh_i h y j := q
    obtain ⟨⟨w1, w2, w3, w4, w5, y, y1, y2, y3⟩, w7⟩ := w
    exact ⟨⟨(q' 109 _ (by omega) (by omega) (by omega) (by omega)).trans w1, w2, (q' 110 _ (by omega) (by omega) (by omega) (by omega)).trans w3, (q' 111 _ (by omega) (by omega) (by omega) (by omega)).trans w4, w5, y, y1, (q' 112 _ (by omega) (by omega) (by omega) (by omega)).trans y2, y3⟩, ih (b - 1) (fun y j a b c d => q' y j a b c (by omega)) w7⟩
/-- a name more -/
theorem REN_a (R : REN h nm X L b id bs) {a z : Nat} (hl : bs + L.length < 40) (ha : nm a < 100000) (hz : z < 100000) : REN (giH h (bs + L.length) (Int32.ofNat (nm a)) (Int32.ofNat (if z = 0 then X.nb + cnZl L else X.na + cnAl L)) (Int32.ofNat z) (Int32.ofNat id)) nm X ((a, z) :: L) (b + 1) id bs := by
  obtain ⟨g1, g2⟩ := gi_g (h := h) (e := bs + L.length) (a := Int32.ofNat (nm a)) (s := Int32.ofNat (if z = 0 then X.nb + cnZl L else X.na + cnAl L)) (z := Int32.ofNat z) (i := Int32.ofNat id)
  refine REN.of ⟨R.F, ?_, ?_, by show bs + (L.length + 1) ≤ 40; omega, ⟨⟨?_, ha, ?_, ?_, hz, id, R.i, ?_, ⟨fun _ => by omega, fun _ => rfl⟩⟩, ?_⟩, R.i⟩
  · unfold giH
    rw [hi_si, if_pos ⟨rfl, rfl⟩]
    rfl
  · rw [g2 81 43 (by omega) (by omega)]
    exact R.b
  · unfold giH
    rw [hi_si, if_neg (by omega), hi_si, if_neg (by omega), hi_si, if_neg (by omega), hi_si, if_neg (by omega), hi_si, if_pos ⟨rfl, rfl⟩]
  · unfold giH
    rw [hi_si, if_neg (by omega), hi_si, if_neg (by omega), hi_si, if_neg (by omega), hi_si, if_pos ⟨rfl, rfl⟩]
  · unfold giH
    rw [hi_si, if_neg (by omega), hi_si, if_neg (by omega), hi_si, if_pos ⟨rfl, rfl⟩]
  · unfold giH
    rw [hi_si, if_neg (by omega), hi_si, if_pos ⟨rfl, rfl⟩]
  · rw [Nat.add_sub_cancel]
    exact enR_c L b (fun y j u1 u2 u3 u4 => g1 y j (by omega) (by omega)) R.n
end INs
