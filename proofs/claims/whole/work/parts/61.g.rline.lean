set_option maxRecDepth 100000
/-! THE REFERENCE'S LINE -/
def lrW (b j : Nat) : Prop := b = 2638 ∨ (b = 81 ∧ j = 69)
def LNr (h0 h : mh_H) (L : List Int32) : Prop := (fG lrW h0 h) ∧ (mh_i h 81 69 = Int32.ofNat L.length) ∧ (∀ i v, L[i]? = some v → mh_i h 2638 i = v)
theorem LNr.of {h0 h : mh_H} {L : List Int32} (q : (fG lrW h0 h) ∧ (mh_i h 81 69 = Int32.ofNat L.length) ∧ (∀ i v, L[i]? = some v → mh_i h 2638 i = v)) : LNr h0 h L := q
theorem LNr.f {h0 h : mh_H} {L : List Int32} (q : LNr h0 h L) : fG lrW h0 h := q.1
theorem LNr.n {h0 h : mh_H} {L : List Int32} (q : LNr h0 h L) : mh_i h 81 69 = Int32.ofNat L.length := q.2.1
theorem LNr.b {h0 h : mh_H} {L : List Int32} (q : LNr h0 h L) : ∀ i v, L[i]? = some v → mh_i h 2638 i = v := q.2.2
/-- a name's letters -/
def NMl (h : mh_H) (k : Nat) (T : List Int32) : Prop := ∃ s, mh_i h 99 k = Int32.ofNat s ∧ mh_i h 99 (k + 1) = Int32.ofNat (s + T.length) ∧ k + 1 < 8300 ∧ s + T.length ≤ 16400 ∧ ∀ j v, T[j]? = some v → mh_i h 98 (s + j) = v
def NMr (h0 : mh_H) (p : Nat) (nm am : Nat → List Int32) (N A : Nat) : Prop := (RF h0) ∧ (p < 250) ∧ (N ≤ 12 ∧ A ≤ 6) ∧ (mh_i h0 103 p = Int32.ofNat N ∧ mh_i h0 104 p = Int32.ofNat A) ∧ (∀ x, x < N → ∃ k, k < 8300 ∧ mh_i h0 113 (12 * p + x) = Int32.ofNat k ∧ NMl h0 k (nm x) ∧ (nm x).length ≤ 30) ∧ (∀ x, x < A → ∃ k, k < 8300 ∧ mh_i h0 114 (6 * p + x) = Int32.ofNat k ∧ NMl h0 k (am x) ∧ (am x).length ≤ 30)
theorem NMr.of {h0 : mh_H} {p : Nat} {nm am : Nat → List Int32} {N A : Nat} (q : (RF h0) ∧ (p < 250) ∧ (N ≤ 12 ∧ A ≤ 6) ∧ (mh_i h0 103 p = Int32.ofNat N ∧ mh_i h0 104 p = Int32.ofNat A) ∧ (∀ x, x < N → ∃ k, k < 8300 ∧ mh_i h0 113 (12 * p + x) = Int32.ofNat k ∧ NMl h0 k (nm x) ∧ (nm x).length ≤ 30) ∧ (∀ x, x < A → ∃ k, k < 8300 ∧ mh_i h0 114 (6 * p + x) = Int32.ofNat k ∧ NMl h0 k (am x) ∧ (am x).length ≤ 30)) : NMr h0 p nm am N A := q
theorem NMr.F {h0 : mh_H} {p : Nat} {nm am : Nat → List Int32} {N A : Nat} (q : NMr h0 p nm am N A) : RF h0 := q.1
theorem NMr.p {h0 : mh_H} {p : Nat} {nm am : Nat → List Int32} {N A : Nat} (q : NMr h0 p nm am N A) : p < 250 := q.2.1
theorem NMr.n {h0 : mh_H} {p : Nat} {nm am : Nat → List Int32} {N A : Nat} (q : NMr h0 p nm am N A) : N ≤ 12 ∧ A ≤ 6 := q.2.2.1
theorem NMr.m {h0 : mh_H} {p : Nat} {nm am : Nat → List Int32} {N A : Nat} (q : NMr h0 p nm am N A) : mh_i h0 103 p = Int32.ofNat N ∧ mh_i h0 104 p = Int32.ofNat A := q.2.2.2.1
theorem NMr.np {h0 : mh_H} {p : Nat} {nm am : Nat → List Int32} {N A : Nat} (q : NMr h0 p nm am N A) : ∀ x, x < N → ∃ k, k < 8300 ∧ mh_i h0 113 (12 * p + x) = Int32.ofNat k ∧ NMl h0 k (nm x) ∧ (nm x).length ≤ 30 := q.2.2.2.2.1
theorem NMr.ap {h0 : mh_H} {p : Nat} {nm am : Nat → List Int32} {N A : Nat} (q : NMr h0 p nm am N A) : ∀ x, x < A → ∃ k, k < 8300 ∧ mh_i h0 114 (6 * p + x) = Int32.ofNat k ∧ NMl h0 k (am x) ∧ (am x).length ≤ 30 := q.2.2.2.2.2
section RLn
variable {d : Nat} {h0 h h1 : mh_H} {L : List Int32} {v : Int32} {p N A' o : Nat} {nm am : Nat → List Int32} {A : ab}
theorem w_385 (F : RF h0) (H : LNr h0 h L) (hL : L.length < 24000) : ∃ h', LNr h0 h' (L ++ [v]) ∧ ∀ Q, mcall d 385 [.ref 81, .int v] h Q = Q none h' := by
  have F1 := RF_G H.f F
  have g := F1.g 81 14 70 (by decide +kernel)
  have r58 := F1.f 81 58 2638 (by decide +kernel)
  have gb := F1.g 2638 100 24000 (by decide +kernel)
  have lb := F1.l 2638 100 24000 (by decide +kernel)
  have e69 := H.n
  have e1' : Int32.ofNat L.length + 1 = Int32.ofNat (L.length + 1) := nn_add (a := L.length) (b := 1)
  have ll : (L ++ [v]).length = L.length + 1 := by rw [List.length_append]; rfl
  refine ⟨mh_si (mh_si h 2638 L.length v) 81 69 (Int32.ofNat (L.length + 1)), LNr.of ⟨fG_t H.f (fG_t (fG_si (Or.inl rfl)) (fG_si (Or.inr ⟨rfl, rfl⟩))), by rw [hi_si, if_pos ⟨rfl, rfl⟩, ll], fun i u hu => ?_⟩, fun Q => ?_⟩
  · rw [hi_si, if_neg (by omega), hi_si]
    by_cases c : i = L.length
    · rw [if_pos ⟨rfl, c⟩]
      have hu' : (L ++ [v])[i]? = some v := by
        rw [List.getElem?_append_right (by omega), c, Nat.sub_self]
        rfl
      rw [hu'] at hu
      cases hu
      rfl
    · rw [if_neg (fun z => c z.2)]
      have hi : i < (L ++ [v]).length := (List.getElem?_eq_some_iff.mp hu).1
      rw [List.getElem?_append_left (by omega)] at hu
      exact H.b i u hu
  · clear H F F1
    simp (disch := omega) only [s_385_0, s_385_1, s_385_4, s_385_5, s_385_8, s_385_9, s_385_10, s_385_11, s_385_12, s_385_15, s_385_16, s_385_17, s_385_20, e_385, mv_i_1, mv_l_1, mv_a_1, mv_a_2, mv_a_3, mk2_n, mk2_i, mk2_l, mk2_a, mk2_u, mk2_x, mB_T, mB_F, mS_cons, mS_nil, mSB_T, mSB_F, mca_nil, mca_i, mca_l, mca_r, mca_u, mca_x, mcat_i, mcat_l, mcat_r, mcat_u, mcat_x, mK_some, mK_none, va_rf_s, va_rf_n, lgc_eq, lgc_lt, lgc_gt, lgc_ge, lgc_le, mrd_104, mrd_105, mrd_106, mrd_107, true_and, and_true, and_self, false_and, and_false, true_or, or_true, false_or, or_false, not_true_eq_false, not_false_eq_true, mgb, mga, mgr, mN, reduceCtorEq, ↓reduceIte, eq_self, ge_iff_le, gt_iff_lt, hk_si, hk_sj, hk_sr, hl_si, hl_sj, hl_sr, hn_si, hn_sj, hn_sr, hs_si, hs_sj, hs_sr, hi_sj, hi_sr, hj_si, hj_sr, hr_si, hr_sj, hi_si, hj_sj, hr_sr, mg_si, mg_sj, mg_sr, Nat.reduceAdd, Nat.reduceMul, Nat.reduceSub, Nat.reduceLT, Nat.reduceGT, Nat.reduceEqDiff, Nat.reduceLeDiff, Nat.left_eq_add, Nat.add_eq_left, Nat.reduceMod, Nat.reduceDiv, Nat.succ_ne_self, g, r58, gb, lb, e69, nn_mxT, nn_clamp, e1']
/-- text -/
theorem l_384 (F : RF h0) {j : Nat} (hj : j < 35) : ∀ f i (L : List Int32) (h : mh_H), i + f = xL j → LNr h0 h L → L.length + f ≤ 24000 → ∃ h', LNr h0 h' (L ++ xT j f i) ∧ ∀ Q, mw (d + 4) 384 Q 2 [some (.ref 81), some (.retAddr (3 * j + 3)), some (.int (Int32.ofNat i))] [] h = Q none h' := by
  have b1 := xl_ok j hj
  have xs := (xs_ok j hj).1
  have e1' : ∀ k, Int32.ofNat k + 1 = Int32.ofNat (k + 1) := fun k => nn_add (a := k) (b := 1)
  intro f
  induction f with
  | zero =>
    intro i L h hi H _
    have c' : (xL j ≤ i) = True := eq_true (by omega)
    have a1 := c_394 (d := d + 2) (h := h) hj
    refine ⟨h, by rw [show xT j 0 i = [] from rfl, List.append_nil]; exact H, fun Q => ?_⟩
    clear H F
    simp (disch := omega) only [s_384_0, s_384_1, s_384_2, s_384_3, s_384_4, s_384_7, s_384_10, s_384_11, s_384_12, s_384_13, s_384_16, s_384_19, s_384_22, s_384_25, e_384, mv_i_1, mv_l_1, mv_a_1, mv_a_2, mv_a_3, mk2_n, mk2_i, mk2_l, mk2_a, mk2_u, mk2_x, mB_T, mB_F, mS_cons, mS_nil, mSB_T, mSB_F, mca_nil, mca_i, mca_l, mca_r, mca_u, mca_x, mcat_i, mcat_l, mcat_r, mcat_u, mcat_x, mK_some, mK_none, va_rf_s, va_rf_n, lgc_eq, lgc_lt, lgc_gt, lgc_ge, lgc_le, mrd_104, mrd_105, mrd_106, mrd_107, true_and, and_true, and_self, false_and, and_false, true_or, or_true, false_or, or_false, not_true_eq_false, not_false_eq_true, mgb, mga, mgr, mN, reduceCtorEq, ↓reduceIte, eq_self, ge_iff_le, gt_iff_lt, Nat.reduceAdd, Nat.reduceMul, Nat.reduceSub, Nat.reduceLT, Nat.reduceGT, Nat.reduceEqDiff, Nat.reduceLeDiff, Nat.left_eq_add, Nat.add_eq_left, Nat.reduceMod, Nat.reduceDiv, Nat.succ_ne_self, xs, a1, nn_le, c']
  | succ f ih =>
    intro i L h hi H hL
    have c' : (xL j ≤ i) = False := eq_false (by omega)
    have a1 := c_394 (d := d + 2) (h := h) hj
    have a2 := c_397 (d := d) (h := h) (i := i) hj (by omega)
    have g := (RF_G H.f F).g 81 14 70 (by decide +kernel)
    obtain ⟨h1, H1, r1⟩ := w_385 (d := d + 3) (v := xB j i) F H (by omega)
    obtain ⟨h2, H2, r2⟩ := ih (i + 1) (L ++ [xB j i]) h1 (by omega) H1 (by rw [List.length_append]; show L.length + 1 + f ≤ 24000; omega)
    refine ⟨h2, by rw [List.append_assoc] at H2; exact H2, fun Q => ?_⟩
    rw [← r2 Q]
    clear ih H H1 H2 F
    rw [s_384_2]
    simp (disch := omega) only [s_384_0, s_384_1, s_384_3, s_384_4, s_384_7, s_384_10, s_384_11, s_384_12, s_384_13, s_384_16, s_384_19, s_384_22, s_384_25, e_384, mv_i_1, mv_l_1, mv_a_1, mv_a_2, mv_a_3, mk2_n, mk2_i, mk2_l, mk2_a, mk2_u, mk2_x, mB_T, mB_F, mS_cons, mS_nil, mSB_T, mSB_F, mca_nil, mca_i, mca_l, mca_r, mca_u, mca_x, mcat_i, mcat_l, mcat_r, mcat_u, mcat_x, mK_some, mK_none, va_rf_s, va_rf_n, lgc_eq, lgc_lt, lgc_gt, lgc_ge, lgc_le, mrd_104, mrd_105, mrd_106, mrd_107, true_and, and_true, and_self, false_and, and_false, true_or, or_true, false_or, or_false, not_true_eq_false, not_false_eq_true, mgb, mga, mgr, mN, reduceCtorEq, ↓reduceIte, eq_self, ge_iff_le, gt_iff_lt, Nat.reduceAdd, Nat.reduceMul, Nat.reduceSub, Nat.reduceLT, Nat.reduceGT, Nat.reduceEqDiff, Nat.reduceLeDiff, Nat.left_eq_add, Nat.add_eq_left, Nat.reduceMod, Nat.reduceDiv, Nat.succ_ne_self, xs, a1, a2, g, r1, nn_le, c', e1']
theorem w_384 (F : RF h0) {j : Nat} (hj : j < 35) (H : LNr h0 h L) (hL : L.length + xL j ≤ 24000) : ∃ h', LNr h0 h' (L ++ xW j) ∧ ∀ Q, mcall (d + 4) 384 [.ref 81, .retAddr (3 * j + 3)] h Q = Q none h' := by
  obtain ⟨h', a1, a3⟩ := l_384 (d := d) F hj (xL j) 0 L h (by omega) H hL
  refine ⟨h', a1, fun Q => ?_⟩
  have a3' : ∀ Q, mw (d + 4) 384 Q 2 [some (.ref 81), some (.retAddr (3 * j + 3)), some (.int 0)] [] h = Q none h' := a3
  rw [← a3' Q]
  simp (disch := omega) only [e_384, s_384_0, s_384_1, mv_i_1, mv_l_1, mv_a_1, mv_a_2, mv_a_3, mk2_n, mk2_i, mk2_l, mk2_a, mk2_u, mk2_x, mB_T, mB_F, mS_cons, mS_nil, mSB_T, mSB_F, mca_nil, mca_i, mca_l, mca_r, mca_u, mca_x, mcat_i, mcat_l, mcat_r, mcat_u, mcat_x, mK_some, mK_none, va_rf_s, va_rf_n, lgc_eq, lgc_lt, lgc_gt, lgc_ge, lgc_le, mrd_104, mrd_105, mrd_106, mrd_107, true_and, and_true, and_self, false_and, and_false, true_or, or_true, false_or, or_false, not_true_eq_false, not_false_eq_true, mgb, mga, mgr, mN, reduceCtorEq, ↓reduceIte, eq_self, ge_iff_le, gt_iff_lt, Nat.reduceAdd, Nat.reduceMul, Nat.reduceSub, Nat.reduceLT, Nat.reduceGT, Nat.reduceEqDiff, Nat.reduceLeDiff, Nat.left_eq_add, Nat.add_eq_left, Nat.reduceMod, Nat.reduceDiv, Nat.succ_ne_self]
/-- comma -/
theorem w_386 (F : RF h0) (H : LNr h0 h L) (hL : L.length + 2 ≤ 24000) : ∃ h', LNr h0 h' (wCm L) ∧ ∀ Q, mcall (d + 5) 386 [.ref 81] h Q = Q none h' := by
  have g := (RF_G H.f F).g 81 14 70 (by decide +kernel)
  have e69 := H.n
  unfold wCm
  by_cases c : L.length = 0
  · rw [if_pos c]
    refine ⟨h, H, fun Q => ?_⟩
    have c' : (Int32.ofNat L.length ≤ 0) = True := by rw [c]; decide
    clear H F
    simp (disch := omega) only [s_386_0, s_386_1, s_386_4, s_386_7, s_386_8, s_386_11, s_386_14, e_386, mv_i_1, mv_l_1, mv_a_1, mv_a_2, mv_a_3, mk2_n, mk2_i, mk2_l, mk2_a, mk2_u, mk2_x, mB_T, mB_F, mS_cons, mS_nil, mSB_T, mSB_F, mca_nil, mca_i, mca_l, mca_r, mca_u, mca_x, mcat_i, mcat_l, mcat_r, mcat_u, mcat_x, mK_some, mK_none, va_rf_s, va_rf_n, lgc_eq, lgc_lt, lgc_gt, lgc_ge, lgc_le, mrd_104, mrd_105, mrd_106, mrd_107, true_and, and_true, and_self, false_and, and_false, true_or, or_true, false_or, or_false, not_true_eq_false, not_false_eq_true, mgb, mga, mgr, mN, reduceCtorEq, ↓reduceIte, eq_self, ge_iff_le, gt_iff_lt, hk_si, hk_sj, hk_sr, hl_si, hl_sj, hl_sr, hn_si, hn_sj, hn_sr, hs_si, hs_sj, hs_sr, hi_sj, hi_sr, hj_si, hj_sr, hr_si, hr_sj, hi_si, hj_sj, hr_sr, mg_si, mg_sj, mg_sr, Nat.reduceAdd, Nat.reduceMul, Nat.reduceSub, Nat.reduceLT, Nat.reduceGT, Nat.reduceEqDiff, Nat.reduceLeDiff, Nat.left_eq_add, Nat.add_eq_left, Nat.reduceMod, Nat.reduceDiv, Nat.succ_ne_self, g, e69, c']
  · rw [if_neg c]
    have l6 : xL 26 = 2 := by decide +kernel
    obtain ⟨h', H', r⟩ := w_384 (d := d) F (j := 26) (by decide) H (by omega)
    rw [xW_ref.1] at H'
    refine ⟨h', H', fun Q => ?_⟩
    have c' : (Int32.ofNat L.length ≤ 0) = False := by
      rw [show (0 : Int32) = Int32.ofNat 0 from rfl, nn_le (by omega) (by omega)]
      exact eq_false (by omega)
    have r' : ∀ Q, mcall (d + 4) 384 [.ref 81, .retAddr 81] h Q = Q none h' := r
    clear H H' F r
    simp (disch := omega) only [s_386_0, s_386_1, s_386_4, s_386_7, s_386_8, s_386_11, s_386_14, e_386, mv_i_1, mv_l_1, mv_a_1, mv_a_2, mv_a_3, mk2_n, mk2_i, mk2_l, mk2_a, mk2_u, mk2_x, mB_T, mB_F, mS_cons, mS_nil, mSB_T, mSB_F, mca_nil, mca_i, mca_l, mca_r, mca_u, mca_x, mcat_i, mcat_l, mcat_r, mcat_u, mcat_x, mK_some, mK_none, va_rf_s, va_rf_n, lgc_eq, lgc_lt, lgc_gt, lgc_ge, lgc_le, mrd_104, mrd_105, mrd_106, mrd_107, true_and, and_true, and_self, false_and, and_false, true_or, or_true, false_or, or_false, not_true_eq_false, not_false_eq_true, mgb, mga, mgr, mN, reduceCtorEq, ↓reduceIte, eq_self, ge_iff_le, gt_iff_lt, hk_si, hk_sj, hk_sr, hl_si, hl_sj, hl_sr, hn_si, hn_sj, hn_sr, hs_si, hs_sj, hs_sr, hi_sj, hi_sr, hj_si, hj_sr, hr_si, hr_sj, hi_si, hj_sj, hr_sr, mg_si, mg_sj, mg_sr, Nat.reduceAdd, Nat.reduceMul, Nat.reduceSub, Nat.reduceLT, Nat.reduceGT, Nat.reduceEqDiff, Nat.reduceLeDiff, Nat.left_eq_add, Nat.add_eq_left, Nat.reduceMod, Nat.reduceDiv, Nat.succ_ne_self, g, e69, c', r']
/-- spell -/
theorem l_387 (F : RF h0) {k e : Nat} (hk : k + 1 < 8300) (e9 : mh_i h0 99 (k + 1) = Int32.ofNat e) (he : e ≤ 16400) : ∀ (T : List Int32) i (L : List Int32) (h : mh_H), i + T.length = e → (∀ j v, T[j]? = some v → mh_i h0 98 (i + j) = v) → LNr h0 h L → L.length + T.length ≤ 24000 → ∃ h', LNr h0 h' (L ++ T) ∧ ∀ Q, mw (d + 1) 387 Q 7 [some (.ref 81), some (.int (Int32.ofNat k)), some (.int (Int32.ofNat i))] [] h = Q none h' := by
  have e1' : ∀ k, Int32.ofNat k + 1 = Int32.ofNat (k + 1) := fun k => nn_add (a := k) (b := 1)
  intro T
  induction T with
  | nil =>
    intro i L h hi w H _
    have F1 := RF_G H.f F
    have g := F1.g 81 14 70 (by decide +kernel)
    have r26 := F1.f 81 26 99 (by decide +kernel)
    have g99 := F1.g 99 100 8300 (by decide +kernel)
    have l99 := F1.l 99 100 8300 (by decide +kernel)
    have i9 : mh_i h 99 (k + 1) = Int32.ofNat e := by rw [fG_i H.f (by unfold lrW; omega)]; exact e9
    have hi' : i = e := hi
    have c' : (e ≤ i) = True := eq_true (by omega)
    refine ⟨h, by rw [List.append_nil]; exact H, fun Q => ?_⟩
    clear H F F1 w
    simp (disch := omega) only [s_387_0, s_387_1, s_387_4, s_387_5, s_387_6, s_387_7, s_387_8, s_387_9, s_387_12, s_387_13, s_387_14, s_387_15, s_387_16, s_387_19, s_387_20, s_387_21, s_387_24, s_387_25, s_387_26, s_387_29, s_387_32, s_387_35, e_387, mv_i_1, mv_l_1, mv_a_1, mv_a_2, mv_a_3, mk2_n, mk2_i, mk2_l, mk2_a, mk2_u, mk2_x, mB_T, mB_F, mS_cons, mS_nil, mSB_T, mSB_F, mca_nil, mca_i, mca_l, mca_r, mca_u, mca_x, mcat_i, mcat_l, mcat_r, mcat_u, mcat_x, mK_some, mK_none, va_rf_s, va_rf_n, lgc_eq, lgc_lt, lgc_gt, lgc_ge, lgc_le, mrd_104, mrd_105, mrd_106, mrd_107, true_and, and_true, and_self, false_and, and_false, true_or, or_true, false_or, or_false, not_true_eq_false, not_false_eq_true, mgb, mga, mgr, mN, reduceCtorEq, ↓reduceIte, eq_self, ge_iff_le, gt_iff_lt, hk_si, hk_sj, hk_sr, hl_si, hl_sj, hl_sr, hn_si, hn_sj, hn_sr, hs_si, hs_sj, hs_sr, hi_sj, hi_sr, hj_si, hj_sr, hr_si, hr_sj, hi_si, hj_sj, hr_sr, mg_si, mg_sj, mg_sr, Nat.reduceAdd, Nat.reduceMul, Nat.reduceSub, Nat.reduceLT, Nat.reduceGT, Nat.reduceEqDiff, Nat.reduceLeDiff, Nat.left_eq_add, Nat.add_eq_left, Nat.reduceMod, Nat.reduceDiv, Nat.succ_ne_self, g, r26, g99, l99, e1', nn_mxT, nn_clamp, i9, nn_le, c']
  | cons v T ih =>
    intro i L h hi w H hL
    have F1 := RF_G H.f F
    have g := F1.g 81 14 70 (by decide +kernel)
    have r26 := F1.f 81 26 99 (by decide +kernel)
    have g99 := F1.g 99 100 8300 (by decide +kernel)
    have l99 := F1.l 99 100 8300 (by decide +kernel)
    have r25 := F1.f 81 25 98 (by decide +kernel)
    have g98 := F1.g 98 100 16400 (by decide +kernel)
    have l98 := F1.l 98 100 16400 (by decide +kernel)
    have i9 : mh_i h 99 (k + 1) = Int32.ofNat e := by rw [fG_i H.f (by unfold lrW; omega)]; exact e9
    have hi' : i + (T.length + 1) = e := hi
    have hL' : L.length + (T.length + 1) ≤ 24000 := hL
    have c' : (e ≤ i) = False := eq_false (by omega)
    have ev : mh_i h 98 i = v := by rw [fG_i H.f (by unfold lrW; omega)]; exact w 0 v rfl
    obtain ⟨h1, H1, r1⟩ := w_385 (d := d) (v := v) F H (by omega)
    obtain ⟨h2, H2, r2⟩ := ih (i + 1) (L ++ [v]) h1 (by omega) (fun j u hu => by rw [show i + 1 + j = i + (j + 1) from by omega]; exact w (j + 1) u hu) H1 (by rw [List.length_append]; show L.length + 1 + T.length ≤ 24000; omega)
    refine ⟨h2, by rw [List.append_assoc] at H2; exact H2, fun Q => ?_⟩
    rw [← r2 Q]
    clear ih H H1 H2 F F1 w
    rw [s_387_7]
    simp (disch := omega) only [s_387_0, s_387_1, s_387_4, s_387_5, s_387_6, s_387_8, s_387_9, s_387_12, s_387_13, s_387_14, s_387_15, s_387_16, s_387_19, s_387_20, s_387_21, s_387_24, s_387_25, s_387_26, s_387_29, s_387_32, s_387_35, e_387, mv_i_1, mv_l_1, mv_a_1, mv_a_2, mv_a_3, mk2_n, mk2_i, mk2_l, mk2_a, mk2_u, mk2_x, mB_T, mB_F, mS_cons, mS_nil, mSB_T, mSB_F, mca_nil, mca_i, mca_l, mca_r, mca_u, mca_x, mcat_i, mcat_l, mcat_r, mcat_u, mcat_x, mK_some, mK_none, va_rf_s, va_rf_n, lgc_eq, lgc_lt, lgc_gt, lgc_ge, lgc_le, mrd_104, mrd_105, mrd_106, mrd_107, true_and, and_true, and_self, false_and, and_false, true_or, or_true, false_or, or_false, not_true_eq_false, not_false_eq_true, mgb, mga, mgr, mN, reduceCtorEq, ↓reduceIte, eq_self, ge_iff_le, gt_iff_lt, hk_si, hk_sj, hk_sr, hl_si, hl_sj, hl_sr, hn_si, hn_sj, hn_sr, hs_si, hs_sj, hs_sr, hi_sj, hi_sr, hj_si, hj_sr, hr_si, hr_sj, hi_si, hj_sj, hr_sr, mg_si, mg_sj, mg_sr, Nat.reduceAdd, Nat.reduceMul, Nat.reduceSub, Nat.reduceLT, Nat.reduceGT, Nat.reduceEqDiff, Nat.reduceLeDiff, Nat.left_eq_add, Nat.add_eq_left, Nat.reduceMod, Nat.reduceDiv, Nat.succ_ne_self, g, r26, g99, l99, r25, g98, l98, e1', nn_mxT, nn_clamp, i9, ev, nn_le, c', r1]
theorem w_387 (F : RF h0) {k : Nat} {T : List Int32} (M : NMl h0 k T) (H : LNr h0 h L) (hL : L.length + T.length ≤ 24000) : ∃ h', LNr h0 h' (L ++ T) ∧ ∀ Q, mcall (d + 1) 387 [.ref 81, .int (Int32.ofNat k)] h Q = Q none h' := by
  obtain ⟨s, m1, m2, m3, m4, m5⟩ := M
  obtain ⟨h', a, b⟩ := l_387 (d := d) F m3 m2 m4 T s L h rfl m5 H hL
  refine ⟨h', a, fun Q => ?_⟩
  have F1 := RF_G H.f F
  have g := F1.g 81 14 70 (by decide +kernel)
  have r26 := F1.f 81 26 99 (by decide +kernel)
  have g99 := F1.g 99 100 8300 (by decide +kernel)
  have l99 := F1.l 99 100 8300 (by decide +kernel)
  have i9 : mh_i h 99 k = Int32.ofNat s := by rw [fG_i H.f (by unfold lrW; omega)]; exact m1
  rw [← b Q]
  clear H F F1 a m5
  simp (disch := omega) only [e_387, s_387_0, s_387_1, s_387_4, s_387_5, s_387_6, s_387_8, s_387_9, s_387_12, s_387_13, s_387_14, s_387_15, s_387_16, s_387_19, s_387_20, s_387_21, s_387_24, s_387_25, s_387_26, s_387_29, s_387_32, s_387_35, e_387, mv_i_1, mv_l_1, mv_a_1, mv_a_2, mv_a_3, mk2_n, mk2_i, mk2_l, mk2_a, mk2_u, mk2_x, mB_T, mB_F, mS_cons, mS_nil, mSB_T, mSB_F, mca_nil, mca_i, mca_l, mca_r, mca_u, mca_x, mcat_i, mcat_l, mcat_r, mcat_u, mcat_x, mK_some, mK_none, va_rf_s, va_rf_n, lgc_eq, lgc_lt, lgc_gt, lgc_ge, lgc_le, mrd_104, mrd_105, mrd_106, mrd_107, true_and, and_true, and_self, false_and, and_false, true_or, or_true, false_or, or_false, not_true_eq_false, not_false_eq_true, mgb, mga, mgr, mN, reduceCtorEq, ↓reduceIte, eq_self, ge_iff_le, gt_iff_lt, hk_si, hk_sj, hk_sr, hl_si, hl_sj, hl_sr, hn_si, hn_sj, hn_sr, hs_si, hs_sj, hs_sr, hi_sj, hi_sr, hj_si, hj_sr, hr_si, hr_sj, hi_si, hj_sj, hr_sr, mg_si, mg_sj, mg_sr, Nat.reduceAdd, Nat.reduceMul, Nat.reduceSub, Nat.reduceLT, Nat.reduceGT, Nat.reduceEqDiff, Nat.reduceLeDiff, Nat.left_eq_add, Nat.add_eq_left, Nat.reduceMod, Nat.reduceDiv, Nat.succ_ne_self, g, r26, g99, l99, nn_mxT, nn_clamp, i9]
/-- number: the unit -/
theorem l_388a {v w : Int64} {s : Nat} (e : w.toInt = s) (hs : s < 1000000000000) : ∀ (f u : Nat) (x : Int64), x.toInt = u → 0 < u → s < u * 10 ^ f → ∃ x' : Int64, x'.toInt = uni f s u ∧ ∀ (h : mh_H) Q, mw d 388 Q 20 [some (.ref 81), some (.long v), none, some (.long w), none, some (.long x), none] [] h = mw d 388 Q 42 [some (.ref 81), some (.long v), none, some (.long w), none, some (.long x'), none] [] h := by
  intro f
  induction f with
  | zero =>
    intro u x ex h0 h1
    have x0 : (x = 0) = False := eq_false (fun z => by rw [z] at ex; have : (0 : Int64).toInt = 0 := rfl; omega)
    have dz : s / u = 0 := Nat.div_eq_of_lt (by rw [Nat.pow_zero, Nat.mul_one] at h1; exact h1)
    have q := ld_n e ex hs
    have lt : (w / x ≤ 9) = True := eq_true (by rw [Int64.le_iff_toInt_le, q, show (9 : Int64).toInt = 9 from rfl]; omega)
    refine ⟨x, ex, fun h Q => ?_⟩
    simp (disch := omega) only [s_388_0, s_388_1, s_388_2, s_388_3, s_388_6, s_388_7, s_388_9, s_388_12, s_388_13, s_388_16, s_388_17, s_388_18, s_388_20, s_388_21, s_388_23, s_388_24, s_388_27, s_388_28, s_388_31, s_388_34, s_388_36, s_388_37, s_388_39, s_388_44, s_388_45, s_388_46, s_388_49, s_388_50, s_388_53, s_388_54, s_388_56, s_388_57, s_388_60, s_388_61, s_388_62, s_388_63, s_388_66, s_388_68, s_388_71, s_388_72, s_388_74, s_388_77, e_388, mv_i_1, mv_l_1, mv_a_1, mv_a_2, mv_a_3, mk2_n, mk2_i, mk2_l, mk2_a, mk2_u, mk2_x, mB_T, mB_F, mS_cons, mS_nil, mSB_T, mSB_F, mca_nil, mca_i, mca_l, mca_r, mca_u, mca_x, mcat_i, mcat_l, mcat_r, mcat_u, mcat_x, mK_some, mK_none, va_rf_s, va_rf_n, lgc_eq, lgc_lt, lgc_gt, lgc_ge, lgc_le, mrd_104, mrd_105, mrd_106, mrd_107, true_and, and_true, and_self, false_and, and_false, true_or, or_true, false_or, or_false, not_true_eq_false, not_false_eq_true, mgb, mga, mgr, mN, reduceCtorEq, ↓reduceIte, eq_self, ge_iff_le, gt_iff_lt, Nat.reduceAdd, Nat.reduceMul, Nat.reduceSub, Nat.reduceLT, Nat.reduceGT, Nat.reduceEqDiff, Nat.reduceLeDiff, Nat.left_eq_add, Nat.add_eq_left, Nat.reduceMod, Nat.reduceDiv, Nat.succ_ne_self, x0, lt]
  | succ f ih =>
    intro u x ex h0 h1
    have x0 : (x = 0) = False := eq_false (fun z => by rw [z] at ex; have : (0 : Int64).toInt = 0 := rfl; omega)
    have q := ld_n e ex hs
    by_cases c : 10 ≤ s / u
    · have eu : uni (f + 1) s u = uni f s (10 * u) := if_pos c
      have lt : (w / x ≤ 9) = False := eq_false (by rw [Int64.le_iff_toInt_le, q, show (9 : Int64).toInt = 9 from rfl]; omega)
      have hs' := Nat.mul_le_of_le_div u 10 s c
      have e5 : u * 10 ^ (f + 1) = 10 * u * 10 ^ f := by rw [Nat.pow_succ, Nat.mul_comm (10 ^ f) 10, ← Nat.mul_assoc, Nat.mul_comm u 10]
      obtain ⟨x', a1, a2⟩ := ih (10 * u) (10 * x) (lm_n ex (by omega)).1 (by omega) (by omega)
      refine ⟨x', by rw [eu]; exact a1, fun h Q => ?_⟩
      rw [← a2 h Q, s_388_20]
      simp (disch := omega) only [s_388_0, s_388_1, s_388_2, s_388_3, s_388_6, s_388_7, s_388_9, s_388_12, s_388_13, s_388_16, s_388_17, s_388_18, s_388_21, s_388_23, s_388_24, s_388_27, s_388_28, s_388_31, s_388_34, s_388_36, s_388_37, s_388_39, s_388_44, s_388_45, s_388_46, s_388_49, s_388_50, s_388_53, s_388_54, s_388_56, s_388_57, s_388_60, s_388_61, s_388_62, s_388_63, s_388_66, s_388_68, s_388_71, s_388_72, s_388_74, s_388_77, e_388, mv_i_1, mv_l_1, mv_a_1, mv_a_2, mv_a_3, mk2_n, mk2_i, mk2_l, mk2_a, mk2_u, mk2_x, mB_T, mB_F, mS_cons, mS_nil, mSB_T, mSB_F, mca_nil, mca_i, mca_l, mca_r, mca_u, mca_x, mcat_i, mcat_l, mcat_r, mcat_u, mcat_x, mK_some, mK_none, va_rf_s, va_rf_n, lgc_eq, lgc_lt, lgc_gt, lgc_ge, lgc_le, mrd_104, mrd_105, mrd_106, mrd_107, true_and, and_true, and_self, false_and, and_false, true_or, or_true, false_or, or_false, not_true_eq_false, not_false_eq_true, mgb, mga, mgr, mN, reduceCtorEq, ↓reduceIte, eq_self, ge_iff_le, gt_iff_lt, Nat.reduceAdd, Nat.reduceMul, Nat.reduceSub, Nat.reduceLT, Nat.reduceGT, Nat.reduceEqDiff, Nat.reduceLeDiff, Nat.left_eq_add, Nat.add_eq_left, Nat.reduceMod, Nat.reduceDiv, Nat.succ_ne_self, x0, lt]
    · have eu : uni (f + 1) s u = u := if_neg c
      have lt : (w / x ≤ 9) = True := eq_true (by rw [Int64.le_iff_toInt_le, q, show (9 : Int64).toInt = 9 from rfl]; omega)
      refine ⟨x, by rw [eu]; exact ex, fun h Q => ?_⟩
      simp (disch := omega) only [s_388_0, s_388_1, s_388_2, s_388_3, s_388_6, s_388_7, s_388_9, s_388_12, s_388_13, s_388_16, s_388_17, s_388_18, s_388_20, s_388_21, s_388_23, s_388_24, s_388_27, s_388_28, s_388_31, s_388_34, s_388_36, s_388_37, s_388_39, s_388_44, s_388_45, s_388_46, s_388_49, s_388_50, s_388_53, s_388_54, s_388_56, s_388_57, s_388_60, s_388_61, s_388_62, s_388_63, s_388_66, s_388_68, s_388_71, s_388_72, s_388_74, s_388_77, e_388, mv_i_1, mv_l_1, mv_a_1, mv_a_2, mv_a_3, mk2_n, mk2_i, mk2_l, mk2_a, mk2_u, mk2_x, mB_T, mB_F, mS_cons, mS_nil, mSB_T, mSB_F, mca_nil, mca_i, mca_l, mca_r, mca_u, mca_x, mcat_i, mcat_l, mcat_r, mcat_u, mcat_x, mK_some, mK_none, va_rf_s, va_rf_n, lgc_eq, lgc_lt, lgc_gt, lgc_ge, lgc_le, mrd_104, mrd_105, mrd_106, mrd_107, true_and, and_true, and_self, false_and, and_false, true_or, or_true, false_or, or_false, not_true_eq_false, not_false_eq_true, mgb, mga, mgr, mN, reduceCtorEq, ↓reduceIte, eq_self, ge_iff_le, gt_iff_lt, Nat.reduceAdd, Nat.reduceMul, Nat.reduceSub, Nat.reduceLT, Nat.reduceGT, Nat.reduceEqDiff, Nat.reduceLeDiff, Nat.left_eq_add, Nat.add_eq_left, Nat.reduceMod, Nat.reduceDiv, Nat.succ_ne_self, x0, lt]
/-- number: the digits -/
theorem l_388b (F : RF h0) {v w : Int64} {s : Nat} (e : w.toInt = s) (hs : s < 1000000000000) : ∀ (f u : Nat) (x : Int64) (L : List Int32) (h : mh_H), x.toInt = u → u < 10 ^ f → u < 1000000000000 → LNr h0 h L → L.length + f ≤ 24000 → ∃ h', LNr h0 h' (L ++ dgs (f + 1) s u) ∧ ∀ Q, mw (d + 1) 388 Q 42 [some (.ref 81), some (.long v), none, some (.long w), none, some (.long x), none] [] h = Q none h' := by
  have stop : ∀ (f u : Nat) (x : Int64) (L : List Int32) (h : mh_H), x.toInt = u → u = 0 → LNr h0 h L → ∃ h', LNr h0 h' (L ++ dgs (f + 1) s u) ∧ ∀ Q, mw (d + 1) 388 Q 42 [some (.ref 81), some (.long v), none, some (.long w), none, some (.long x), none] [] h = Q none h' := by
    intro f u x L h ex u0 H
    have ed : dgs (f + 1) s u = [] := if_pos u0
    have le : (x ≤ 0) = True := eq_true (by rw [Int64.le_iff_toInt_le, ex, u0]; decide)
    refine ⟨h, by rw [ed, List.append_nil]; exact H, fun Q => ?_⟩
    clear H F
    simp (disch := omega) only [s_388_0, s_388_1, s_388_2, s_388_3, s_388_6, s_388_7, s_388_9, s_388_12, s_388_13, s_388_16, s_388_17, s_388_18, s_388_20, s_388_21, s_388_23, s_388_24, s_388_27, s_388_28, s_388_31, s_388_34, s_388_36, s_388_37, s_388_39, s_388_42, s_388_44, s_388_45, s_388_46, s_388_49, s_388_50, s_388_53, s_388_54, s_388_56, s_388_57, s_388_60, s_388_61, s_388_62, s_388_63, s_388_66, s_388_68, s_388_71, s_388_72, s_388_74, s_388_77, e_388, mv_i_1, mv_l_1, mv_a_1, mv_a_2, mv_a_3, mk2_n, mk2_i, mk2_l, mk2_a, mk2_u, mk2_x, mB_T, mB_F, mS_cons, mS_nil, mSB_T, mSB_F, mca_nil, mca_i, mca_l, mca_r, mca_u, mca_x, mcat_i, mcat_l, mcat_r, mcat_u, mcat_x, mK_some, mK_none, va_rf_s, va_rf_n, lgc_eq, lgc_lt, lgc_gt, lgc_ge, lgc_le, mrd_104, mrd_105, mrd_106, mrd_107, true_and, and_true, and_self, false_and, and_false, true_or, or_true, false_or, or_false, not_true_eq_false, not_false_eq_true, mgb, mga, mgr, mN, reduceCtorEq, ↓reduceIte, eq_self, ge_iff_le, gt_iff_lt, Nat.reduceAdd, Nat.reduceMul, Nat.reduceSub, Nat.reduceLT, Nat.reduceGT, Nat.reduceEqDiff, Nat.reduceLeDiff, Nat.left_eq_add, Nat.add_eq_left, Nat.reduceMod, Nat.reduceDiv, Nat.succ_ne_self, le]
  intro f
  induction f with
  | zero => exact fun u x L h ex h1 _ H _ => stop 0 u x L h ex (by rw [Nat.pow_zero] at h1; omega) H
  | succ f ih =>
    intro u x L h ex h1 h2 H hL
    by_cases u0 : u = 0
    · exact stop (f + 1) u x L h ex u0 H
    · have ed : dgs (f + 1 + 1) s u = Int32.ofNat (48 + s / u % 10) :: dgs (f + 1) s (u / 10) := if_neg u0
      have le : (x ≤ 0) = False := eq_false (by rw [Int64.le_iff_toInt_le, ex]; show ¬ (u : Int) ≤ 0; omega)
      have x0 : (x = 0) = False := eq_false (fun z => by rw [z] at ex; have : (0 : Int64).toInt = 0 := rfl; omega)
      have t0 : ((10 : Int64) = 0) = False := by decide
      have dg := dg_n e ex hs
      have g := (RF_G H.f F).g 81 14 70 (by decide +kernel)
      obtain ⟨h1', H1, r1⟩ := w_385 (d := d) (v := Int32.ofNat (48 + s / u % 10)) F H (by omega)
      obtain ⟨h2', H2, r2⟩ := ih (u / 10) (x / 10) (L ++ [Int32.ofNat (48 + s / u % 10)]) h1' (ld_n (x := 10) (u := 10) ex rfl h2) (by rw [Nat.pow_succ] at h1; omega) (by omega) H1 (by rw [List.length_append]; show L.length + 1 + f ≤ 24000; omega)
      refine ⟨h2', by rw [ed]; rw [List.append_assoc] at H2; exact H2, fun Q => ?_⟩
      rw [← r2 Q, s_388_42]
      clear ih stop H H1 H2 F
      simp (disch := omega) only [s_388_0, s_388_1, s_388_2, s_388_3, s_388_6, s_388_7, s_388_9, s_388_12, s_388_13, s_388_16, s_388_17, s_388_18, s_388_20, s_388_21, s_388_23, s_388_24, s_388_27, s_388_28, s_388_31, s_388_34, s_388_36, s_388_37, s_388_39, s_388_44, s_388_45, s_388_46, s_388_49, s_388_50, s_388_53, s_388_54, s_388_56, s_388_57, s_388_60, s_388_61, s_388_62, s_388_63, s_388_66, s_388_68, s_388_71, s_388_72, s_388_74, s_388_77, e_388, mv_i_1, mv_l_1, mv_a_1, mv_a_2, mv_a_3, mk2_n, mk2_i, mk2_l, mk2_a, mk2_u, mk2_x, mB_T, mB_F, mS_cons, mS_nil, mSB_T, mSB_F, mca_nil, mca_i, mca_l, mca_r, mca_u, mca_x, mcat_i, mcat_l, mcat_r, mcat_u, mcat_x, mK_some, mK_none, va_rf_s, va_rf_n, lgc_eq, lgc_lt, lgc_gt, lgc_ge, lgc_le, mrd_104, mrd_105, mrd_106, mrd_107, true_and, and_true, and_self, false_and, and_false, true_or, or_true, false_or, or_false, not_true_eq_false, not_false_eq_true, mgb, mga, mgr, mN, reduceCtorEq, ↓reduceIte, eq_self, ge_iff_le, gt_iff_lt, Nat.reduceAdd, Nat.reduceMul, Nat.reduceSub, Nat.reduceLT, Nat.reduceGT, Nat.reduceEqDiff, Nat.reduceLeDiff, Nat.left_eq_add, Nat.add_eq_left, Nat.reduceMod, Nat.reduceDiv, Nat.succ_ne_self, le, x0, t0, dg, g, r1]
/-- number -/
theorem w_388 (F : RF h0) {v : Int64} (hv : -4294967296 ≤ v.toInt ∧ v.toInt ≤ 4294967296) (H : LNr h0 h L) (hL : L.length + 11 ≤ 24000) : ∃ h', LNr h0 h' (L ++ nbT v.toInt) ∧ ∀ Q, mcall (d + 1) 388 [.ref 81, .long v] h Q = Q none h' := by
  have z0 : (0 : Int64).toInt = 0 := rfl
  have fin : ∀ (w : Int64) (h : mh_H) (L : List Int32), w.toInt = (v.toInt.natAbs : Nat) → LNr h0 h L → L.length + 10 ≤ 24000 → ∃ h', LNr h0 h' (L ++ dgs 11 v.toInt.natAbs (uni 10 v.toInt.natAbs 1)) ∧ ∀ Q, mw (d + 1) 388 Q 20 [some (.ref 81), some (.long v), none, some (.long w), none, some (.long 1), none] [] h = Q none h' := by
    intro w h L ew H hL
    have hs : v.toInt.natAbs ≤ 4294967296 := by omega
    obtain ⟨x', a1, a2⟩ := l_388a (d := d + 1) (v := v) (w := w) (s := v.toInt.natAbs) ew (by omega) 10 1 1 rfl (by decide) (by omega)
    have u10 := uni_10 hs
    obtain ⟨h', b1, b3⟩ := l_388b (d := d) (v := v) F ew (by omega) 10 (uni 10 v.toInt.natAbs 1) x' L h a1 u10 (by omega) H hL
    exact ⟨h', b1, fun Q => (a2 h Q).trans (b3 Q)⟩
  by_cases c : v.toInt < 0
  · have lt : (0 ≤ v) = False := eq_false (by rw [Int64.le_iff_toInt_le, z0]; omega)
    have l2 : (0 < v) = False := eq_false (by rw [Int64.lt_iff_toInt_lt, z0]; omega)
    have en : (-v).toInt = (v.toInt.natAbs : Nat) := by
      rw [Int64.toInt_neg, Int.bmod_eq_of_le (by omega) (by omega)]
      omega
    have g := (RF_G H.f F).g 81 14 70 (by decide +kernel)
    obtain ⟨h1, H1, r1⟩ := w_385 (d := d) (v := 45) F H (by omega)
    obtain ⟨h2, H2, r2⟩ := fin (-v) h1 (L ++ [45]) en H1 (by rw [List.length_append]; show L.length + 1 + 10 ≤ 24000; omega)
    refine ⟨h2, by unfold nbT; rw [if_pos c]; rw [List.append_assoc] at H2; exact H2, fun Q => ?_⟩
    rw [← r2 Q]
    clear fin H H1 H2 F
    simp (disch := omega) only [e_388, s_388_0, s_388_1, s_388_2, s_388_3, s_388_6, s_388_7, s_388_9, s_388_12, s_388_13, s_388_16, s_388_17, s_388_18, s_388_21, s_388_23, s_388_24, s_388_27, s_388_28, s_388_31, s_388_34, s_388_36, s_388_37, s_388_39, s_388_42, s_388_44, s_388_45, s_388_46, s_388_49, s_388_50, s_388_53, s_388_54, s_388_56, s_388_57, s_388_60, s_388_61, s_388_62, s_388_63, s_388_66, s_388_68, s_388_71, s_388_72, s_388_74, s_388_77, e_388, mv_i_1, mv_l_1, mv_a_1, mv_a_2, mv_a_3, mk2_n, mk2_i, mk2_l, mk2_a, mk2_u, mk2_x, mB_T, mB_F, mS_cons, mS_nil, mSB_T, mSB_F, mca_nil, mca_i, mca_l, mca_r, mca_u, mca_x, mcat_i, mcat_l, mcat_r, mcat_u, mcat_x, mK_some, mK_none, va_rf_s, va_rf_n, lgc_eq, lgc_lt, lgc_gt, lgc_ge, lgc_le, mrd_104, mrd_105, mrd_106, mrd_107, true_and, and_true, and_self, false_and, and_false, true_or, or_true, false_or, or_false, not_true_eq_false, not_false_eq_true, mgb, mga, mgr, mN, reduceCtorEq, ↓reduceIte, eq_self, ge_iff_le, gt_iff_lt, Nat.reduceAdd, Nat.reduceMul, Nat.reduceSub, Nat.reduceLT, Nat.reduceGT, Nat.reduceEqDiff, Nat.reduceLeDiff, Nat.left_eq_add, Nat.add_eq_left, Nat.reduceMod, Nat.reduceDiv, Nat.succ_ne_self, lt, l2, g, r1]
  · have lt : (0 ≤ v) = True := eq_true (by rw [Int64.le_iff_toInt_le, z0]; omega)
    by_cases c2 : 0 < v.toInt
    · have l2 : (0 < v) = True := eq_true (by rw [Int64.lt_iff_toInt_lt, z0]; omega)
      obtain ⟨h2, H2, r2⟩ := fin v h L (by omega) H (by omega)
      refine ⟨h2, by unfold nbT; rw [if_neg c]; exact H2, fun Q => ?_⟩
      rw [← r2 Q]
      clear fin H H2 F
      simp (disch := omega) only [e_388, s_388_0, s_388_1, s_388_2, s_388_3, s_388_6, s_388_7, s_388_9, s_388_12, s_388_13, s_388_16, s_388_17, s_388_18, s_388_21, s_388_23, s_388_24, s_388_27, s_388_28, s_388_31, s_388_34, s_388_36, s_388_37, s_388_39, s_388_42, s_388_44, s_388_45, s_388_46, s_388_49, s_388_50, s_388_53, s_388_54, s_388_56, s_388_57, s_388_60, s_388_61, s_388_62, s_388_63, s_388_66, s_388_68, s_388_71, s_388_72, s_388_74, s_388_77, e_388, mv_i_1, mv_l_1, mv_a_1, mv_a_2, mv_a_3, mk2_n, mk2_i, mk2_l, mk2_a, mk2_u, mk2_x, mB_T, mB_F, mS_cons, mS_nil, mSB_T, mSB_F, mca_nil, mca_i, mca_l, mca_r, mca_u, mca_x, mcat_i, mcat_l, mcat_r, mcat_u, mcat_x, mK_some, mK_none, va_rf_s, va_rf_n, lgc_eq, lgc_lt, lgc_gt, lgc_ge, lgc_le, mrd_104, mrd_105, mrd_106, mrd_107, true_and, and_true, and_self, false_and, and_false, true_or, or_true, false_or, or_false, not_true_eq_false, not_false_eq_true, mgb, mga, mgr, mN, reduceCtorEq, ↓reduceIte, eq_self, ge_iff_le, gt_iff_lt, Nat.reduceAdd, Nat.reduceMul, Nat.reduceSub, Nat.reduceLT, Nat.reduceGT, Nat.reduceEqDiff, Nat.reduceLeDiff, Nat.left_eq_add, Nat.add_eq_left, Nat.reduceMod, Nat.reduceDiv, Nat.succ_ne_self, lt, l2]
    · have l2 : (0 < v) = False := eq_false (by rw [Int64.lt_iff_toInt_lt, z0]; omega)
      have en : (-v).toInt = (v.toInt.natAbs : Nat) := by
        rw [Int64.toInt_neg, Int.bmod_eq_of_le (by omega) (by omega)]
        omega
      obtain ⟨h2, H2, r2⟩ := fin (-v) h L en H (by omega)
      refine ⟨h2, by unfold nbT; rw [if_neg c]; exact H2, fun Q => ?_⟩
      rw [← r2 Q]
      clear fin H H2 F
      simp (disch := omega) only [e_388, s_388_0, s_388_1, s_388_2, s_388_3, s_388_6, s_388_7, s_388_9, s_388_12, s_388_13, s_388_16, s_388_17, s_388_18, s_388_21, s_388_23, s_388_24, s_388_27, s_388_28, s_388_31, s_388_34, s_388_36, s_388_37, s_388_39, s_388_42, s_388_44, s_388_45, s_388_46, s_388_49, s_388_50, s_388_53, s_388_54, s_388_56, s_388_57, s_388_60, s_388_61, s_388_62, s_388_63, s_388_66, s_388_68, s_388_71, s_388_72, s_388_74, s_388_77, e_388, mv_i_1, mv_l_1, mv_a_1, mv_a_2, mv_a_3, mk2_n, mk2_i, mk2_l, mk2_a, mk2_u, mk2_x, mB_T, mB_F, mS_cons, mS_nil, mSB_T, mSB_F, mca_nil, mca_i, mca_l, mca_r, mca_u, mca_x, mcat_i, mcat_l, mcat_r, mcat_u, mcat_x, mK_some, mK_none, va_rf_s, va_rf_n, lgc_eq, lgc_lt, lgc_gt, lgc_ge, lgc_le, mrd_104, mrd_105, mrd_106, mrd_107, true_and, and_true, and_self, false_and, and_false, true_or, or_true, false_or, or_false, not_true_eq_false, not_false_eq_true, mgb, mga, mgr, mN, reduceCtorEq, ↓reduceIte, eq_self, ge_iff_le, gt_iff_lt, Nat.reduceAdd, Nat.reduceMul, Nat.reduceSub, Nat.reduceLT, Nat.reduceGT, Nat.reduceEqDiff, Nat.reduceLeDiff, Nat.left_eq_add, Nat.add_eq_left, Nat.reduceMod, Nat.reduceDiv, Nat.succ_ne_self, lt, l2]
end RLn
