set_option maxRecDepth 100000
/-! the class's machine: a statement -/
def mdW (b j : Nat) : Prop := (69 ≤ b ∧ b ≤ 72) ∨ (b = 67 ∧ (j = 3 ∨ j = 4 ∨ j = 10 ∨ j = 12))
theorem md_mc : ∀ b j, mcW b j → mdW b j := fun b j z => by unfold mcW at z; unfold mdW; omega
section STs
variable {d : Nat} {h h1 : mh_H} {Y C SC nC nS nb na p gv c sum s n a x sz St : Nat} {en : Int → Nat} {sN : Int → Prop} {A : ab} {t : tr} {v w : Int32} {rm : Nat → Nat}
theorem c_32s (B : MB h Y C SC nC nS nb na p gv) (e10 : mh_i h 67 10 = 0) (hs : s < 12) : ∀ Q, mcall d 32 [.ref 67, .int (Int32.ofNat s), .int v] h Q = Q none (mh_si h 69 s v) := fun Q => by
  have g := B.g
  have r6 := B.r6
  have g69 := B.g69
  have l69 := B.l69
  have e00 : ((0 : Int32) = 0) = True := by decide
  have n1 : (Int32.ofNat s = -1) = False := nn_m1 (by omega)
  clear B
  simp (disch := omega) only [s_32_0, s_32_1, s_32_4, s_32_7, s_32_8, s_32_9, s_32_12, s_32_13, s_32_16, s_32_17, s_32_18, s_32_19, e_32, mv_i_1, mv_l_1, mv_a_1, mv_a_2, mv_a_3, mk2_n, mk2_i, mk2_l, mk2_a, mk2_u, mk2_x, mB_T, mB_F, mS_cons, mS_nil, mSB_T, mSB_F, mca_nil, mca_i, mca_l, mca_r, mca_u, mca_x, mcat_i, mcat_l, mcat_r, mcat_u, mcat_x, mK_some, mK_none, va_rf_s, va_rf_n, lgc_eq, lgc_lt, lgc_gt, lgc_ge, lgc_le, mrd_104, mrd_105, mrd_106, mrd_107, true_and, and_true, and_self, false_and, and_false, true_or, or_true, false_or, or_false, not_true_eq_false, not_false_eq_true, mgb, mga, mgr, mN, reduceCtorEq, ↓reduceIte, eq_self, ge_iff_le, gt_iff_lt, hk_si, hk_sj, hk_sr, hl_si, hl_sj, hl_sr, hn_si, hn_sj, hn_sr, hs_si, hs_sj, hs_sr, hi_sj, hi_sr, hj_si, hj_sr, hr_si, hr_sj, hi_si, hj_sj, hr_sr, mg_si, mg_sj, mg_sr, Nat.reduceAdd, Nat.reduceMul, Nat.reduceSub, Nat.reduceLT, Nat.reduceGT, Nat.reduceEqDiff, Nat.reduceLeDiff, Nat.left_eq_add, Nat.add_eq_left, Nat.reduceMod, Nat.reduceDiv, Nat.succ_ne_self, g, e10, e00, n1, r6, g69, l69, nn_mxT, nn_clamp]
theorem c_32n (B : MB h Y C SC nC nS nb na p gv) : ∀ Q, mcall d 32 [.ref 67, .int (-1), .int v] h Q = Q none h := fun Q => by
  have g := B.g
  have n1 : ((-1 : Int32) = -1) = True := by decide
  clear B
  rcases Classical.propComplete (mh_i h 67 10 = 0) with e | e <;> simp (disch := omega) only [s_32_0, s_32_1, s_32_4, s_32_7, s_32_8, s_32_9, s_32_12, s_32_13, s_32_16, s_32_17, s_32_18, s_32_19, e_32, mv_i_1, mv_l_1, mv_a_1, mv_a_2, mv_a_3, mk2_n, mk2_i, mk2_l, mk2_a, mk2_u, mk2_x, mB_T, mB_F, mS_cons, mS_nil, mSB_T, mSB_F, mca_nil, mca_i, mca_l, mca_r, mca_u, mca_x, mcat_i, mcat_l, mcat_r, mcat_u, mcat_x, mK_some, mK_none, va_rf_s, va_rf_n, lgc_eq, lgc_lt, lgc_gt, lgc_ge, lgc_le, mrd_104, mrd_105, mrd_106, mrd_107, true_and, and_true, and_self, false_and, and_false, true_or, or_true, false_or, or_false, not_true_eq_false, not_false_eq_true, mgb, mga, mgr, mN, reduceCtorEq, ↓reduceIte, eq_self, ge_iff_le, gt_iff_lt, hk_si, hk_sj, hk_sr, hl_si, hl_sj, hl_sr, hn_si, hn_sj, hn_sr, hs_si, hs_sj, hs_sr, hi_sj, hi_sr, hj_si, hj_sr, hr_si, hr_sj, hi_si, hj_sj, hr_sr, mg_si, mg_sj, mg_sr, Nat.reduceAdd, Nat.reduceMul, Nat.reduceSub, Nat.reduceLT, Nat.reduceGT, Nat.reduceEqDiff, Nat.reduceLeDiff, Nat.left_eq_add, Nat.add_eq_left, Nat.reduceMod, Nat.reduceDiv, Nat.succ_ne_self, g, e, n1]
theorem c_32t (B : MB h Y C SC nC nS nb na p gv) (e10 : ¬ mh_i h 67 10 = 0) : ∀ Q, mcall d 32 [.ref 67, .int w, .int v] h Q = Q none h := fun Q => by
  have g := B.g
  have e := eq_false e10
  clear B
  simp (disch := omega) only [s_32_0, s_32_1, s_32_4, s_32_7, s_32_8, s_32_9, s_32_12, s_32_13, s_32_16, s_32_17, s_32_18, s_32_19, e_32, mv_i_1, mv_l_1, mv_a_1, mv_a_2, mv_a_3, mk2_n, mk2_i, mk2_l, mk2_a, mk2_u, mk2_x, mB_T, mB_F, mS_cons, mS_nil, mSB_T, mSB_F, mca_nil, mca_i, mca_l, mca_r, mca_u, mca_x, mcat_i, mcat_l, mcat_r, mcat_u, mcat_x, mK_some, mK_none, va_rf_s, va_rf_n, lgc_eq, lgc_lt, lgc_gt, lgc_ge, lgc_le, mrd_104, mrd_105, mrd_106, mrd_107, true_and, and_true, and_self, false_and, and_false, true_or, or_true, false_or, or_false, not_true_eq_false, not_false_eq_true, mgb, mga, mgr, mN, reduceCtorEq, ↓reduceIte, eq_self, ge_iff_le, gt_iff_lt, hk_si, hk_sj, hk_sr, hl_si, hl_sj, hl_sr, hn_si, hn_sj, hn_sr, hs_si, hs_sj, hs_sr, hi_sj, hi_sr, hj_si, hj_sr, hr_si, hr_sj, hi_si, hj_sj, hr_sr, mg_si, mg_sj, mg_sr, Nat.reduceAdd, Nat.reduceMul, Nat.reduceSub, Nat.reduceLT, Nat.reduceGT, Nat.reduceEqDiff, Nat.reduceLeDiff, Nat.left_eq_add, Nat.add_eq_left, Nat.reduceMod, Nat.reduceDiv, Nat.succ_ne_self, g, e]
/-- a SUM's value goes into a cell -/
def stV (q : so5) (h h' : mh_H) (gv : Nat) : Prop := fG mdW h h' ∧ mh_i h' 67 3 = Int32.ofNat (min q.c gv) ∧ mh_i h' 67 10 = q.w ∧ mh_i h' 67 4 = mh_i h 67 4 ∧ mh_i h' 69 = q.V ∧ mh_i h' 70 = q.P ∧ mh_i h' 71 = mh_i h 71
theorem i32_oi {x : Int32} {v : Int} (h : x.toInt = v) : Int32.ofInt v = x := by rw [← h]; exact Int32.ofInt_toInt x
theorem s_up_h {b k : Nat} (hb : b ≠ 67) : mh_i (mh_si h b k v) b = fun j => if j = k then v else mh_i h b j := funext fun j => by
  rw [hi_si]
  by_cases e : j = k
  · rw [if_pos ⟨rfl, e⟩, if_pos e]
  · rw [if_neg (fun z => e z.2), if_neg e]
/-- reckon, then put -/
theorem st_p (hA : A.n ≤ 12 ∧ A.a ≤ 6) (B : MB h Y C SC nC nS nb na p gv) (m : mS1 h C SC nC nS nb na sN en A t sum) (e10 : mh_i h 67 10 = 0) (e3 : mh_i h 67 3 = Int32.ofNat (min c gv)) (hs : s < 12) : ∃ h1 y h2, fG mcW h h1 ∧ stV (s_z (mh_i h 69) (mh_i h 70) (xv en (mh_i h 69) (mh_i h 70) A.rm (mh_i h 68) gv t none c) (fun v c' => (0, c', s_up (mh_i h 69) s v, mh_i h 70, true))) h h2 gv ∧ (∀ Q, mcall (d + 3) 37 [.ref 67, .int (Int32.ofNat sum)] h Q = Q (some (.int y)) h1) ∧ ∀ d' Q, mcall d' 32 [.ref 67, .int (Int32.ofNat s), .int y] h1 Q = Q none h2 := by
  obtain ⟨h1, y, f1, q1, run1⟩ := v_37s (d := d) hA B m e10 e3
  have B1 := MB_G f1 B
  have i9 : mh_i h1 69 = mh_i h 69 := MB_i f1 (by omega)
  have i0 : mh_i h1 70 = mh_i h 70 := MB_i f1 (by omega)
  have i1 : mh_i h1 71 = mh_i h 71 := MB_i f1 (by omega)
  have i4 : mh_i h1 67 4 = mh_i h 67 4 := (f1.2.2.2.2.2 67 4 (by unfold mcW; omega)).1
  obtain ⟨q, eq⟩ : ∃ q, xv en (mh_i h 69) (mh_i h 70) A.rm (mh_i h 68) gv t none c = q := ⟨_, rfl⟩
  rw [eq] at q1 ⊢
  obtain ⟨t3, t10⟩ := q1
  unfold s_z
  cases hq : q.1 with
  | none =>
    rw [hq] at t10
    exact ⟨h1, y, h1, f1, ⟨fG_w f1 md_mc, t3, t10.2, i4, i9, i0, i1⟩, run1, fun d' Q => c_32t B1 (by rw [t10.2]; exact t10.1) Q⟩
  | some v =>
    rw [hq] at t10
    refine ⟨h1, y, mh_si h1 69 s y, f1, ⟨fG_t (fG_w f1 md_mc) (fG_si (Or.inl (by omega))), ?_, ?_, ?_, ?_, ?_, ?_⟩, run1, fun d' Q => c_32s B1 t10.1 hs Q⟩
    · rw [hi_si, if_neg (by omega)]; exact t3
    · rw [hi_si, if_neg (by omega)]; exact t10.1
    · rw [hi_si, if_neg (by omega)]; exact i4
    · show _ = s_up (mh_i h 69) s v
      rw [s_up_h (by omega), i9]
      unfold s_up
      rw [i32_oi t10.2]
    · show _ = mh_i h 70
      funext j
      rw [hi_si, if_neg (by omega), i0]
    · funext j
      rw [hi_si, if_neg (by omega), i1]
/-- declare a number by a SUM -/
theorem v_33a (hA : A.n ≤ 12 ∧ A.a ≤ 6) (B : MB h Y C SC nC nS nb na p gv) (gS : mg h St 9) (s9 : mh_i h St 9 = 0) {su : Nat} (s11 : mh_i h St 11 = Int32.ofNat su) (hsu : 0 < su ∧ su < 1000) (s10 : mh_i h St 10 = Int32.ofNat sum) (m : mS1 h C SC nC nS nb na sN en A t sum) (e10 : mh_i h 67 10 = 0) (e3 : mh_i h 67 3 = Int32.ofNat (min c gv)) (hn : n < 12) (h80 : ∀ Q, mcall (d + 3) 80 [.ref 2, .int (Int32.ofNat p)] h Q = Q (some (.int (Int32.ofNat n))) h) : ∃ h', stV (s_z (mh_i h 69) (mh_i h 70) (xv en (mh_i h 69) (mh_i h 70) A.rm (mh_i h 68) gv t none c) (fun v c' => (0, c', s_up (mh_i h 69) n v, mh_i h 70, true))) h h' gv ∧ ∀ Q, mcall (d + 4) 33 [.ref 67, .ref St] h Q = Q none h' := by
  obtain ⟨h1, y, h2, f1, o, run1, run2⟩ := st_p (d := d) (s := n) hA B m e10 e3 hn
  refine ⟨h2, o, fun Q => ?_⟩
  have run2 := run2 (d + 3)
  have g := B.g
  have r0 := B.r0
  have g2 := B.g2
  have f4 := B.p4
  have g1 : mg h1 67 2 := by rw [fG_me f1]; exact g
  have e00 : ((0 : Int32) = 0) = True := by decide
  have n0 : (Int32.ofNat su = 0) = False := by
    have e0 : (0 : Int32) = Int32.ofNat 0 := rfl
    rw [e0, nn_eq (by omega) (by omega)]
    exact eq_false (by omega)
  clear B o m f1
  simp (disch := omega) only [s_33_0, s_33_1, s_33_4, s_33_7, s_33_8, s_33_9, s_33_12, s_33_13, s_33_16, s_33_19, s_33_20, s_33_23, s_33_26, s_33_27, s_33_30, s_33_31, s_33_32, s_33_35, s_33_38, s_33_41, s_33_42, s_33_43, s_33_46, s_33_47, s_33_50, s_33_53, s_33_54, s_33_55, s_33_58, s_33_59, s_33_60, s_33_63, s_33_64, s_33_65, s_33_66, s_33_67, s_33_68, s_33_71, s_33_74, s_33_75, s_33_78, s_33_79, s_33_81, s_33_82, s_33_83, s_33_84, s_33_85, s_33_86, s_33_89, s_33_92, e_33, mv_i_1, mv_l_1, mv_a_1, mv_a_2, mv_a_3, mk2_n, mk2_i, mk2_l, mk2_a, mk2_u, mk2_x, mB_T, mB_F, mS_cons, mS_nil, mSB_T, mSB_F, mca_nil, mca_i, mca_l, mca_r, mca_u, mca_x, mcat_i, mcat_l, mcat_r, mcat_u, mcat_x, mK_some, mK_none, va_rf_s, va_rf_n, lgc_eq, lgc_lt, lgc_gt, lgc_ge, lgc_le, mrd_104, mrd_105, mrd_106, mrd_107, true_and, and_true, and_self, false_and, and_false, true_or, or_true, false_or, or_false, not_true_eq_false, not_false_eq_true, mgb, mga, mgr, mN, reduceCtorEq, ↓reduceIte, eq_self, ge_iff_le, gt_iff_lt, hk_si, hk_sj, hk_sr, hl_si, hl_sj, hl_sr, hn_si, hn_sj, hn_sr, hs_si, hs_sj, hs_sr, hi_sj, hi_sr, hj_si, hj_sr, hr_si, hr_sj, hi_si, hj_sj, hr_sr, mg_si, mg_sj, mg_sr, Nat.reduceAdd, Nat.reduceMul, Nat.reduceSub, Nat.reduceLT, Nat.reduceGT, Nat.reduceEqDiff, Nat.reduceLeDiff, Nat.left_eq_add, Nat.add_eq_left, Nat.reduceMod, Nat.reduceDiv, Nat.succ_ne_self, g, gS, s9, e00, r0, g2, f4, h80, s11, n0, s10, run1, g1, run2]
/-- .. that is 0 -/
theorem v_33b (B : MB h Y C SC nC nS nb na p gv) (gS : mg h St 9) (s9 : mh_i h St 9 = 0) (s11 : mh_i h St 11 = 0) (e10 : mh_i h 67 10 = 0) (e3 : mh_i h 67 3 = Int32.ofNat (min c gv)) (hn : n < 12) (h80 : ∀ Q, mcall (d + 3) 80 [.ref 2, .int (Int32.ofNat p)] h Q = Q (some (.int (Int32.ofNat n))) h) : ∃ h', stV (0, c, s_up (mh_i h 69) n 0, mh_i h 70, true) h h' gv ∧ ∀ Q, mcall (d + 4) 33 [.ref 67, .ref St] h Q = Q none h' := by
  have c32 := c_32s (d := d + 3) (v := 0) (s := n) B e10 hn
  refine ⟨mh_si h 69 n 0, ⟨fG_si (Or.inl (by omega)), ?_, ?_, ?_, ?_, ?_, ?_⟩, fun Q => ?_⟩
  · rw [hi_si, if_neg (by omega)]; exact e3
  · rw [hi_si, if_neg (by omega)]; exact e10
  · rw [hi_si, if_neg (by omega)]
  · rw [s_up_h (by omega)]; rfl
  · show _ = mh_i h 70
    funext j
    rw [hi_si, if_neg (by omega)]
  · funext j
    rw [hi_si, if_neg (by omega)]
  · have g := B.g
    have r0 := B.r0
    have g2 := B.g2
    have f4 := B.p4
    have e00 : ((0 : Int32) = 0) = True := by decide
    clear B
    simp (disch := omega) only [s_33_0, s_33_1, s_33_4, s_33_7, s_33_8, s_33_9, s_33_12, s_33_13, s_33_16, s_33_19, s_33_20, s_33_23, s_33_26, s_33_27, s_33_30, s_33_31, s_33_32, s_33_35, s_33_38, s_33_41, s_33_42, s_33_43, s_33_46, s_33_47, s_33_50, s_33_53, s_33_54, s_33_55, s_33_58, s_33_59, s_33_60, s_33_63, s_33_64, s_33_65, s_33_66, s_33_67, s_33_68, s_33_71, s_33_74, s_33_75, s_33_78, s_33_79, s_33_81, s_33_82, s_33_83, s_33_84, s_33_85, s_33_86, s_33_89, s_33_92, e_33, mv_i_1, mv_l_1, mv_a_1, mv_a_2, mv_a_3, mk2_n, mk2_i, mk2_l, mk2_a, mk2_u, mk2_x, mB_T, mB_F, mS_cons, mS_nil, mSB_T, mSB_F, mca_nil, mca_i, mca_l, mca_r, mca_u, mca_x, mcat_i, mcat_l, mcat_r, mcat_u, mcat_x, mK_some, mK_none, va_rf_s, va_rf_n, lgc_eq, lgc_lt, lgc_gt, lgc_ge, lgc_le, mrd_104, mrd_105, mrd_106, mrd_107, true_and, and_true, and_self, false_and, and_false, true_or, or_true, false_or, or_false, not_true_eq_false, not_false_eq_true, mgb, mga, mgr, mN, reduceCtorEq, ↓reduceIte, eq_self, ge_iff_le, gt_iff_lt, hk_si, hk_sj, hk_sr, hl_si, hl_sj, hl_sr, hn_si, hn_sj, hn_sr, hs_si, hs_sj, hs_sr, hi_sj, hi_sr, hj_si, hj_sr, hr_si, hr_sj, hi_si, hj_sj, hr_sr, mg_si, mg_sj, mg_sr, Nat.reduceAdd, Nat.reduceMul, Nat.reduceSub, Nat.reduceLT, Nat.reduceGT, Nat.reduceEqDiff, Nat.reduceLeDiff, Nat.left_eq_add, Nat.add_eq_left, Nat.reduceMod, Nat.reduceDiv, Nat.succ_ne_self, g, gS, s9, e00, r0, g2, f4, h80, s11, c32]
/-- store -/
theorem v_34 (hA : A.n ≤ 12 ∧ A.a ≤ 6) (B : MB h Y C SC nC nS nb na p gv) (gS : mg h St 9) (nS' : St ≠ 67 ∧ St ≠ 72) {sl z : Nat} (hx : na + sl = x) (xa : x < 6) (s8 : mh_i h St 8 = Int32.ofNat sl) (s9 : mh_i h St 9 = Int32.ofNat z) (hz : 1 ≤ z ∧ z ≤ 64) (rz : A.rm x = z) (s10 : mh_i h St 10 = Int32.ofNat sum) (hsum : sum < 999999) (m : mS1 h C SC nC nS nb na sN en A t sum) (m' : mS1 h C SC nC nS nb na sN en A (tT t) (sum + 1)) (e10 : mh_i h 67 10 = 0) (e3 : mh_i h 67 3 = Int32.ofNat (min c gv)) : ∃ h', stV (s_z (mh_i h 69) (mh_i h 70) (xv en (mh_i h 69) (mh_i h 70) A.rm (mh_i h 68) gv t none c) (fun i c' => if i < 0 ∨ (A.rm x : Int) ≤ i then (4, c', mh_i h 69, mh_i h 70, true) else s_z (mh_i h 69) (mh_i h 70) (xv en (mh_i h 69) (mh_i h 70) A.rm (mh_i h 68) gv (tT t) none c') (fun v c' => (0, c', mh_i h 69, s_up (mh_i h 70) (64 * x + i.toNat) v, true)))) h h' gv ∧ ∀ Q, mcall (d + 4) 34 [.ref 67, .ref St] h Q = Q none h' := by
  obtain ⟨h1, y, f1, q1, run1⟩ := v_37s (d := d) hA B m e10 e3
  have B1 := MB_G f1 B
  have iS : ∀ {h1 : mh_H}, fG mcW h h1 → ∀ j, mh_i h1 St j = mh_i h St j := fun f j => by rw [MB_i f ⟨nS'.2, nS'.1⟩]
  have g := B.g
  have g1 := B1.g
  have gS1 : mg h1 St 9 := by rw [fG_me f1]; exact gS
  have s91 : mh_i h1 St 9 = Int32.ofNat z := by rw [iS f1]; exact s9
  have s101 : mh_i h1 St 10 = Int32.ofNat sum := by rw [iS f1]; exact s10
  have m1 := mS1_G f1 B m'
  have eS : Int32.ofNat sum + 1 = Int32.ofNat (sum + 1) := nn_add (a := sum) (b := 1)
  have z0 : (0 : Int32).toInt = 0 := rfl
  have zz : (Int32.ofNat z).toInt = z := nn_int (by omega)
  have fr : ∀ {h2 : mh_H}, fG mcW h h2 → mh_i h2 69 = mh_i h 69 ∧ mh_i h2 70 = mh_i h 70 ∧ mh_i h2 71 = mh_i h 71 ∧ mh_i h2 68 = mh_i h 68 ∧ mh_i h2 67 4 = mh_i h 67 4 := fun f => ⟨MB_i f (by omega), MB_i f (by omega), MB_i f (by omega), MB_i f (by omega), (f.2.2.2.2.2 67 4 (by unfold mcW; omega)).1⟩
  obtain ⟨q, eq⟩ : ∃ q, xv en (mh_i h 69) (mh_i h 70) A.rm (mh_i h 68) gv t none c = q := ⟨_, rfl⟩
  rw [eq] at q1 ⊢
  obtain ⟨t3, t10⟩ := q1
  -- behind a trap
  have trap : ∀ (h2 : mh_H), fG mcW h h2 → ¬ mh_i h2 67 10 = 0 → (∀ Q, mcall (d + 4) 34 [.ref 67, .ref St] h Q = mw (d + 4) 34 Q 26 [some (.ref 67), some (.ref St), some (.int y), none] [] h2) → ∃ h3, fG mcW h h3 ∧ mh_i h3 67 3 = mh_i h2 67 3 ∧ mh_i h3 67 10 = mh_i h2 67 10 ∧ ∀ Q, mcall (d + 4) 34 [.ref 67, .ref St] h Q = Q none h3 := fun h2 f2 n10 run => by
    have B2 := MB_G f2 B
    obtain ⟨h3, y3, f3, u3, u10, run3⟩ := v_37t (d := d) B2 (mS1_G f2 B m') n10
    refine ⟨h3, fG_t f2 f3, u3, u10, fun Q => ?_⟩
    rw [run]
    have g2 := B2.g
    have g3 : mg h3 67 2 := by rw [fG_me f3]; exact g2
    have gS2 : mg h2 St 9 := by rw [fG_me f2]; exact gS
    have s102 : mh_i h2 St 10 = Int32.ofNat sum := by rw [iS f2]; exact s10
    have e := eq_false n10
    rw [← u10] at e
    clear B B1 B2 m m' m1 t3 t10 run1 run
    simp (disch := omega) only [s_34_0, s_34_1, s_34_2, s_34_5, s_34_8, s_34_9, s_34_10, s_34_13, s_34_14, s_34_15, s_34_18, s_34_21, s_34_22, s_34_23, s_34_26, s_34_27, s_34_28, s_34_31, s_34_32, s_34_33, s_34_36, s_34_37, s_34_38, s_34_41, s_34_44, s_34_45, s_34_48, s_34_49, s_34_52, s_34_55, s_34_56, s_34_59, s_34_60, s_34_61, s_34_64, s_34_65, s_34_67, s_34_68, s_34_69, s_34_70, s_34_71, s_34_72, e_34, mv_i_1, mv_l_1, mv_a_1, mv_a_2, mv_a_3, mk2_n, mk2_i, mk2_l, mk2_a, mk2_u, mk2_x, mB_T, mB_F, mS_cons, mS_nil, mSB_T, mSB_F, mca_nil, mca_i, mca_l, mca_r, mca_u, mca_x, mcat_i, mcat_l, mcat_r, mcat_u, mcat_x, mK_some, mK_none, va_rf_s, va_rf_n, lgc_eq, lgc_lt, lgc_gt, lgc_ge, lgc_le, mrd_104, mrd_105, mrd_106, mrd_107, true_and, and_true, and_self, false_and, and_false, true_or, or_true, false_or, or_false, not_true_eq_false, not_false_eq_true, mgb, mga, mgr, mN, reduceCtorEq, ↓reduceIte, eq_self, ge_iff_le, gt_iff_lt, hk_si, hk_sj, hk_sr, hl_si, hl_sj, hl_sr, hn_si, hn_sj, hn_sr, hs_si, hs_sj, hs_sr, hi_sj, hi_sr, hj_si, hj_sr, hr_si, hr_sj, hi_si, hj_sj, hr_sr, mg_si, mg_sj, mg_sr, Nat.reduceAdd, Nat.reduceMul, Nat.reduceSub, Nat.reduceLT, Nat.reduceGT, Nat.reduceEqDiff, Nat.reduceLeDiff, Nat.left_eq_add, Nat.add_eq_left, Nat.reduceMod, Nat.reduceDiv, Nat.succ_ne_self, g2, gS2, s102, eS, run3, g3, e]
  unfold s_z
  cases hq : q.1 with
  | none =>
    rw [hq] at t10
    have n10 : (mh_i h1 67 10 = 0) = False := eq_false (by rw [t10.2]; exact t10.1)
    have c31t : ∀ Q, mcall (d + 3) 31 [.ref 67, .int 4] h1 Q = Q none h1 := fun Q => by
      clear B B1 m m' m1 t3 t10 run1
      simp (disch := omega) only [s_31_0, s_31_1, s_31_4, s_31_7, s_31_8, s_31_9, s_31_12, e_31, mv_i_1, mv_l_1, mv_a_1, mv_a_2, mv_a_3, mk2_n, mk2_i, mk2_l, mk2_a, mk2_u, mk2_x, mB_T, mB_F, mS_cons, mS_nil, mSB_T, mSB_F, mca_nil, mca_i, mca_l, mca_r, mca_u, mca_x, mcat_i, mcat_l, mcat_r, mcat_u, mcat_x, mK_some, mK_none, va_rf_s, va_rf_n, lgc_eq, lgc_lt, lgc_gt, lgc_ge, lgc_le, mrd_104, mrd_105, mrd_106, mrd_107, true_and, and_true, and_self, false_and, and_false, true_or, or_true, false_or, or_false, not_true_eq_false, not_false_eq_true, mgb, mga, mgr, mN, reduceCtorEq, ↓reduceIte, eq_self, ge_iff_le, gt_iff_lt, hk_si, hk_sj, hk_sr, hl_si, hl_sj, hl_sr, hn_si, hn_sj, hn_sr, hs_si, hs_sj, hs_sr, hi_sj, hi_sr, hj_si, hj_sr, hr_si, hr_sj, hi_si, hj_sj, hr_sr, mg_si, mg_sj, mg_sr, Nat.reduceAdd, Nat.reduceMul, Nat.reduceSub, Nat.reduceLT, Nat.reduceGT, Nat.reduceEqDiff, Nat.reduceLeDiff, Nat.left_eq_add, Nat.add_eq_left, Nat.reduceMod, Nat.reduceDiv, Nat.succ_ne_self, g1, n10]
    obtain ⟨h3, f3, u3, u10, run⟩ := trap h1 f1 (of_eq_false n10) (fun Q => by
      clear B B1 m m' m1 t3 t10
      by_cases c1 : y < 0
      · simp (disch := omega) only [s_34_0, s_34_1, s_34_2, s_34_5, s_34_8, s_34_9, s_34_10, s_34_13, s_34_14, s_34_15, s_34_18, s_34_21, s_34_22, s_34_23, s_34_27, s_34_28, s_34_31, s_34_32, s_34_33, s_34_36, s_34_37, s_34_38, s_34_41, s_34_44, s_34_45, s_34_48, s_34_49, s_34_52, s_34_55, s_34_56, s_34_59, s_34_60, s_34_61, s_34_64, s_34_65, s_34_67, s_34_68, s_34_69, s_34_70, s_34_71, s_34_72, e_34, mv_i_1, mv_l_1, mv_a_1, mv_a_2, mv_a_3, mk2_n, mk2_i, mk2_l, mk2_a, mk2_u, mk2_x, mB_T, mB_F, mS_cons, mS_nil, mSB_T, mSB_F, mca_nil, mca_i, mca_l, mca_r, mca_u, mca_x, mcat_i, mcat_l, mcat_r, mcat_u, mcat_x, mK_some, mK_none, va_rf_s, va_rf_n, lgc_eq, lgc_lt, lgc_gt, lgc_ge, lgc_le, mrd_104, mrd_105, mrd_106, mrd_107, true_and, and_true, and_self, false_and, and_false, true_or, or_true, false_or, or_false, not_true_eq_false, not_false_eq_true, mgb, mga, mgr, mN, reduceCtorEq, ↓reduceIte, eq_self, ge_iff_le, gt_iff_lt, hk_si, hk_sj, hk_sr, hl_si, hl_sj, hl_sr, hn_si, hn_sj, hn_sr, hs_si, hs_sj, hs_sr, hi_sj, hi_sr, hj_si, hj_sr, hr_si, hr_sj, hi_si, hj_sj, hr_sr, mg_si, mg_sj, mg_sr, Nat.reduceAdd, Nat.reduceMul, Nat.reduceSub, Nat.reduceLT, Nat.reduceGT, Nat.reduceEqDiff, Nat.reduceLeDiff, Nat.left_eq_add, Nat.add_eq_left, Nat.reduceMod, Nat.reduceDiv, Nat.succ_ne_self, g, gS, s10, run1, c1, g1, c31t]
      · rcases Classical.propComplete (y < Int32.ofNat z) with c2 | c2 <;> simp (disch := omega) only [s_34_0, s_34_1, s_34_2, s_34_5, s_34_8, s_34_9, s_34_10, s_34_13, s_34_14, s_34_15, s_34_18, s_34_21, s_34_22, s_34_23, s_34_27, s_34_28, s_34_31, s_34_32, s_34_33, s_34_36, s_34_37, s_34_38, s_34_41, s_34_44, s_34_45, s_34_48, s_34_49, s_34_52, s_34_55, s_34_56, s_34_59, s_34_60, s_34_61, s_34_64, s_34_65, s_34_67, s_34_68, s_34_69, s_34_70, s_34_71, s_34_72, e_34, mv_i_1, mv_l_1, mv_a_1, mv_a_2, mv_a_3, mk2_n, mk2_i, mk2_l, mk2_a, mk2_u, mk2_x, mB_T, mB_F, mS_cons, mS_nil, mSB_T, mSB_F, mca_nil, mca_i, mca_l, mca_r, mca_u, mca_x, mcat_i, mcat_l, mcat_r, mcat_u, mcat_x, mK_some, mK_none, va_rf_s, va_rf_n, lgc_eq, lgc_lt, lgc_gt, lgc_ge, lgc_le, mrd_104, mrd_105, mrd_106, mrd_107, true_and, and_true, and_self, false_and, and_false, true_or, or_true, false_or, or_false, not_true_eq_false, not_false_eq_true, mgb, mga, mgr, mN, reduceCtorEq, ↓reduceIte, eq_self, ge_iff_le, gt_iff_lt, hk_si, hk_sj, hk_sr, hl_si, hl_sj, hl_sr, hn_si, hn_sj, hn_sr, hs_si, hs_sj, hs_sr, hi_sj, hi_sr, hj_si, hj_sr, hr_si, hr_sj, hi_si, hj_sj, hr_sr, mg_si, mg_sj, mg_sr, Nat.reduceAdd, Nat.reduceMul, Nat.reduceSub, Nat.reduceLT, Nat.reduceGT, Nat.reduceEqDiff, Nat.reduceLeDiff, Nat.left_eq_add, Nat.add_eq_left, Nat.reduceMod, Nat.reduceDiv, Nat.succ_ne_self, g, gS, s10, run1, c1, gS1, s91, c2, g1, c31t])
    obtain ⟨k1, k2, k3, -, k4⟩ := fr f3
    exact ⟨h3, ⟨fG_w f3 md_mc, u3.trans t3, u10.trans t10.2, k4, k1, k2, k3⟩, run⟩
  | some v =>
    rw [hq] at t10
    obtain ⟨t10, tv⟩ := t10
    show ∃ h', stV (if v < 0 ∨ (A.rm x : Int) ≤ v then _ else _) h h' gv ∧ _
    rw [rz]
    by_cases cc : v < 0 ∨ (z : Int) ≤ v
    · rw [if_pos cc]
      have c31 := c_31 (d := d + 3) (w := 4) g1 t10
      have f2 : fG mcW h (mh_si h1 67 10 4) := fG_t f1 flH_f
      obtain ⟨h3, f3, u3, u10, run⟩ := trap (mh_si h1 67 10 4) f2 (by rw [hi_si, if_pos ⟨rfl, rfl⟩]; decide) (fun Q => by
        clear B B1 m m' m1 t3 trap
        by_cases c1 : y < 0
        · simp (disch := omega) only [s_34_0, s_34_1, s_34_2, s_34_5, s_34_8, s_34_9, s_34_10, s_34_13, s_34_14, s_34_15, s_34_18, s_34_21, s_34_22, s_34_23, s_34_27, s_34_28, s_34_31, s_34_32, s_34_33, s_34_36, s_34_37, s_34_38, s_34_41, s_34_44, s_34_45, s_34_48, s_34_49, s_34_52, s_34_55, s_34_56, s_34_59, s_34_60, s_34_61, s_34_64, s_34_65, s_34_67, s_34_68, s_34_69, s_34_70, s_34_71, s_34_72, e_34, mv_i_1, mv_l_1, mv_a_1, mv_a_2, mv_a_3, mk2_n, mk2_i, mk2_l, mk2_a, mk2_u, mk2_x, mB_T, mB_F, mS_cons, mS_nil, mSB_T, mSB_F, mca_nil, mca_i, mca_l, mca_r, mca_u, mca_x, mcat_i, mcat_l, mcat_r, mcat_u, mcat_x, mK_some, mK_none, va_rf_s, va_rf_n, lgc_eq, lgc_lt, lgc_gt, lgc_ge, lgc_le, mrd_104, mrd_105, mrd_106, mrd_107, true_and, and_true, and_self, false_and, and_false, true_or, or_true, false_or, or_false, not_true_eq_false, not_false_eq_true, mgb, mga, mgr, mN, reduceCtorEq, ↓reduceIte, eq_self, ge_iff_le, gt_iff_lt, hk_si, hk_sj, hk_sr, hl_si, hl_sj, hl_sr, hn_si, hn_sj, hn_sr, hs_si, hs_sj, hs_sr, hi_sj, hi_sr, hj_si, hj_sr, hr_si, hr_sj, hi_si, hj_sj, hr_sr, mg_si, mg_sj, mg_sr, Nat.reduceAdd, Nat.reduceMul, Nat.reduceSub, Nat.reduceLT, Nat.reduceGT, Nat.reduceEqDiff, Nat.reduceLeDiff, Nat.left_eq_add, Nat.add_eq_left, Nat.reduceMod, Nat.reduceDiv, Nat.succ_ne_self, g, gS, s10, run1, c1, g1, c31]
        · have c2 : (y < Int32.ofNat z) = False := eq_false (fun w => by rw [Int32.lt_iff_toInt_lt, zz, tv] at w; rw [Int32.lt_iff_toInt_lt, z0, tv] at c1; omega)
          simp (disch := omega) only [s_34_0, s_34_1, s_34_2, s_34_5, s_34_8, s_34_9, s_34_10, s_34_13, s_34_14, s_34_15, s_34_18, s_34_21, s_34_22, s_34_23, s_34_27, s_34_28, s_34_31, s_34_32, s_34_33, s_34_36, s_34_37, s_34_38, s_34_41, s_34_44, s_34_45, s_34_48, s_34_49, s_34_52, s_34_55, s_34_56, s_34_59, s_34_60, s_34_61, s_34_64, s_34_65, s_34_67, s_34_68, s_34_69, s_34_70, s_34_71, s_34_72, e_34, mv_i_1, mv_l_1, mv_a_1, mv_a_2, mv_a_3, mk2_n, mk2_i, mk2_l, mk2_a, mk2_u, mk2_x, mB_T, mB_F, mS_cons, mS_nil, mSB_T, mSB_F, mca_nil, mca_i, mca_l, mca_r, mca_u, mca_x, mcat_i, mcat_l, mcat_r, mcat_u, mcat_x, mK_some, mK_none, va_rf_s, va_rf_n, lgc_eq, lgc_lt, lgc_gt, lgc_ge, lgc_le, mrd_104, mrd_105, mrd_106, mrd_107, true_and, and_true, and_self, false_and, and_false, true_or, or_true, false_or, or_false, not_true_eq_false, not_false_eq_true, mgb, mga, mgr, mN, reduceCtorEq, ↓reduceIte, eq_self, ge_iff_le, gt_iff_lt, hk_si, hk_sj, hk_sr, hl_si, hl_sj, hl_sr, hn_si, hn_sj, hn_sr, hs_si, hs_sj, hs_sr, hi_sj, hi_sr, hj_si, hj_sr, hr_si, hr_sj, hi_si, hj_sj, hr_sr, mg_si, mg_sj, mg_sr, Nat.reduceAdd, Nat.reduceMul, Nat.reduceSub, Nat.reduceLT, Nat.reduceGT, Nat.reduceEqDiff, Nat.reduceLeDiff, Nat.left_eq_add, Nat.add_eq_left, Nat.reduceMod, Nat.reduceDiv, Nat.succ_ne_self, g, gS, s10, run1, c1, gS1, s91, c2, g1, c31])
      obtain ⟨k1, k2, k3, -, k4⟩ := fr f3
      refine ⟨h3, ⟨fG_w f3 md_mc, u3.trans ?_, u10.trans ?_, k4, k1, k2, k3⟩, run⟩
      · rw [hi_si, if_neg (by omega)]; exact t3
      · rw [hi_si, if_pos ⟨rfl, rfl⟩]; rfl
    · rw [if_neg cc]
      obtain ⟨h2, y2, f2, q2, run2⟩ := v_37s (d := d) hA B1 m1 t10 t3
      have f12 := fG_t f1 f2
      obtain ⟨j1, j2, j3, j5, j4⟩ := fr f1
      rw [j1, j2, j5] at q2
      obtain ⟨q', eq'⟩ : ∃ q', xv en (mh_i h 69) (mh_i h 70) A.rm (mh_i h 68) gv (tT t) none q.2.2 = q' := ⟨_, rfl⟩
      rw [eq'] at q2 ⊢
      obtain ⟨u3, u10⟩ := q2
      have B2 := MB_G f2 B1
      obtain ⟨k1, k2, k3, -, k4⟩ := fr f12
      have c1 : (y < 0) = False := eq_false (fun w => by rw [Int32.lt_iff_toInt_lt, z0, tv] at w; omega)
      have c2 : (y < Int32.ofNat z) = True := eq_true (by rw [Int32.lt_iff_toInt_lt, zz, tv]; omega)
      have g2 := B2.g
      cases hq' : q'.1 with
      | none =>
        rw [hq'] at u10
        refine ⟨h2, ⟨fG_w f12 md_mc, u3, u10.2, k4, k1, k2, k3⟩, fun Q => ?_⟩
        have e : (mh_i h2 67 10 = 0) = False := eq_false (by rw [u10.2]; exact u10.1)
        clear B B1 B2 m m' m1 t3 trap u3 u10
        simp (disch := omega) only [s_34_0, s_34_1, s_34_2, s_34_5, s_34_8, s_34_9, s_34_10, s_34_13, s_34_14, s_34_15, s_34_18, s_34_21, s_34_22, s_34_23, s_34_26, s_34_27, s_34_28, s_34_31, s_34_32, s_34_33, s_34_36, s_34_37, s_34_38, s_34_41, s_34_44, s_34_45, s_34_48, s_34_49, s_34_52, s_34_55, s_34_56, s_34_59, s_34_60, s_34_61, s_34_64, s_34_65, s_34_67, s_34_68, s_34_69, s_34_70, s_34_71, s_34_72, e_34, mv_i_1, mv_l_1, mv_a_1, mv_a_2, mv_a_3, mk2_n, mk2_i, mk2_l, mk2_a, mk2_u, mk2_x, mB_T, mB_F, mS_cons, mS_nil, mSB_T, mSB_F, mca_nil, mca_i, mca_l, mca_r, mca_u, mca_x, mcat_i, mcat_l, mcat_r, mcat_u, mcat_x, mK_some, mK_none, va_rf_s, va_rf_n, lgc_eq, lgc_lt, lgc_gt, lgc_ge, lgc_le, mrd_104, mrd_105, mrd_106, mrd_107, true_and, and_true, and_self, false_and, and_false, true_or, or_true, false_or, or_false, not_true_eq_false, not_false_eq_true, mgb, mga, mgr, mN, reduceCtorEq, ↓reduceIte, eq_self, ge_iff_le, gt_iff_lt, hk_si, hk_sj, hk_sr, hl_si, hl_sj, hl_sr, hn_si, hn_sj, hn_sr, hs_si, hs_sj, hs_sr, hi_sj, hi_sr, hj_si, hj_sr, hr_si, hr_sj, hi_si, hj_sj, hr_sr, mg_si, mg_sj, mg_sr, Nat.reduceAdd, Nat.reduceMul, Nat.reduceSub, Nat.reduceLT, Nat.reduceGT, Nat.reduceEqDiff, Nat.reduceLeDiff, Nat.left_eq_add, Nat.add_eq_left, Nat.reduceMod, Nat.reduceDiv, Nat.succ_ne_self, g, gS, s10, run1, c1, gS1, s91, c2, g1, s101, eS, run2, g2, e]
      | some w =>
        rw [hq'] at u10
        have r0 := B2.r0
        have r7 := B2.r7
        have g22 := B2.g2
        have r25 := B2.r25
        have g22' := B2.g22
        have l22 := B2.l22
        have f4 := B2.p4
        have pb := B2.pb
        have i22 := B2.i22
        have g70 := B2.g70
        have l70 := B2.l70
        have gS2 : mg h2 St 9 := by rw [fG_me f12]; exact gS
        have s82 : mh_i h2 St 8 = Int32.ofNat sl := by rw [iS f12]; exact s8
        have e00 : ((0 : Int32) = 0) = True := by decide
        have e1 := u10.1
        have ea : Int32.ofNat na + Int32.ofNat sl = Int32.ofNat x := by rw [← hx]; exact nn_add
        have yk : y = Int32.ofNat v.toNat := Int32.toInt_inj.mp (by rw [nn_int (by omega), tv]; omega)
        have em : Int32.ofNat x * 64 = Int32.ofNat (x * 64) := nn_mul (a := x) (b := 64)
        have ek : Int32.ofNat (x * 64) + Int32.ofNat v.toNat = Int32.ofNat (x * 64 + v.toNat) := nn_add
        have ec : x * 64 + v.toNat = 64 * x + v.toNat := by omega
        rw [ec] at ek
        refine ⟨mh_si h2 70 (64 * x + v.toNat) y2, ⟨fG_t (fG_w f12 md_mc) (fG_si (Or.inl (by omega))), ?_, ?_, ?_, ?_, ?_, ?_⟩, fun Q => ?_⟩
        · rw [hi_si, if_neg (by omega)]; exact u3
        · rw [hi_si, if_neg (by omega)]; exact e1
        · rw [hi_si, if_neg (by omega)]; exact k4
        · show _ = mh_i h 69
          funext j
          rw [hi_si, if_neg (by omega), k1]
        · show _ = s_up (mh_i h 70) (64 * x + v.toNat) w
          rw [s_up_h (by omega), k2]
          unfold s_up
          rw [i32_oi u10.2]
        · funext j
          rw [hi_si, if_neg (by omega), k3]
        · subst yk
          clear B B1 B2 m m' m1 t3 trap u3 u10
          simp (disch := omega) only [s_34_0, s_34_1, s_34_2, s_34_5, s_34_8, s_34_9, s_34_10, s_34_13, s_34_14, s_34_15, s_34_18, s_34_21, s_34_22, s_34_23, s_34_26, s_34_27, s_34_28, s_34_31, s_34_32, s_34_33, s_34_36, s_34_37, s_34_38, s_34_41, s_34_44, s_34_45, s_34_48, s_34_49, s_34_52, s_34_55, s_34_56, s_34_59, s_34_60, s_34_61, s_34_64, s_34_65, s_34_67, s_34_68, s_34_69, s_34_70, s_34_71, s_34_72, e_34, mv_i_1, mv_l_1, mv_a_1, mv_a_2, mv_a_3, mk2_n, mk2_i, mk2_l, mk2_a, mk2_u, mk2_x, mB_T, mB_F, mS_cons, mS_nil, mSB_T, mSB_F, mca_nil, mca_i, mca_l, mca_r, mca_u, mca_x, mcat_i, mcat_l, mcat_r, mcat_u, mcat_x, mK_some, mK_none, va_rf_s, va_rf_n, lgc_eq, lgc_lt, lgc_gt, lgc_ge, lgc_le, mrd_104, mrd_105, mrd_106, mrd_107, true_and, and_true, and_self, false_and, and_false, true_or, or_true, false_or, or_false, not_true_eq_false, not_false_eq_true, mgb, mga, mgr, mN, reduceCtorEq, ↓reduceIte, eq_self, ge_iff_le, gt_iff_lt, hk_si, hk_sj, hk_sr, hl_si, hl_sj, hl_sr, hn_si, hn_sj, hn_sr, hs_si, hs_sj, hs_sr, hi_sj, hi_sr, hj_si, hj_sr, hr_si, hr_sj, hi_si, hj_sj, hr_sr, mg_si, mg_sj, mg_sr, Nat.reduceAdd, Nat.reduceMul, Nat.reduceSub, Nat.reduceLT, Nat.reduceGT, Nat.reduceEqDiff, Nat.reduceLeDiff, Nat.left_eq_add, Nat.add_eq_left, Nat.reduceMod, Nat.reduceDiv, Nat.succ_ne_self, g, gS, s10, run1, c1, gS1, s91, c2, g1, s101, eS, run2, g2, e1, e00, r0, r7, g22, r25, g22', l22, f4, i22, gS2, s82, ea, em, ek, g70, l70, nn_mxT, nn_clamp]
end STs
