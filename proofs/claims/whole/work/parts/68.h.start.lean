set_option maxRecDepth 100000
/-! THE START: the rest of the reference's constructor, run -/
def zwA (h : mh_H) : mh_H := kn_i 2632 (mh_new (mh_sr h 81 52 (some 115)) 13 7)
def zwB (h : mh_H) : mh_H := mh_new (mh_sr (mh_new (mh_sr (mh_new (mh_sr (mh_new (mh_sr (mh_new (mh_sr (mh_new (mh_sr (mh_new (mh_sr h 81 53 (some 2632)) 100 24000) 81 56 (some 2637)) 100 24000) 81 58 (some 2638)) 100 1000) 81 59 (some 2639)) 100 12) 81 61 (some 2640)) 100 384) 81 62 (some 2641)) 101 13) 81 63 (some 2642)) 107 8
def zwC (h : mh_H) : mh_H := mh_sr (mh_si (mh_si (mh_si (mh_si (mh_si (mh_si (mh_si (mh_si h 2643 0 (Int32.ofNat 57)) 2643 1 (Int32.ofNat 60)) 2643 2 (Int32.ofNat 63)) 2643 3 (Int32.ofNat 66)) 2643 4 (Int32.ofNat 69)) 2643 5 (Int32.ofNat 72)) 2643 6 (Int32.ofNat 75)) 2643 7 (Int32.ofNat 78)) 81 0 (some 2643)
section ZWs
variable {d : Nat} {h h1 : mh_H}
theorem zw_1 (g : mg h 81 14) (hn : mh_n h = 2632) : ∀ Q, mw (d + 1) 298 Q 308 [some (.ref 81)] [.ref 115, .ref 81] h = mw (d + 1) 298 Q 319 [some (.ref 81)] [.ref 2632, .ref 81] (zwA h) := fun Q => by
  have cs : ∀ Q', mcall d 276 [.ref 2632] (mh_new (mh_sr h 81 52 (some 115)) 13 7) Q' = Q' none (kn_i 2632 (mh_new (mh_sr h 81 52 (some 115)) 13 7)) := fun Q' => c_276 ⟨by rw [hk_new, hn_sr, hn, if_pos rfl], by rw [hn_new, hn_sr, hn]; omega⟩
  unfold zwA
  simp (disch := omega) only [s_298_308, s_298_311, s_298_312, s_298_315, s_298_316, mv_i_1, mv_l_1, mv_a_1, mv_a_2, mv_a_3, mk2_n, mk2_i, mk2_l, mk2_a, mk2_u, mk2_x, mB_T, mB_F, mS_cons, mS_nil, mSB_T, mSB_F, mca_nil, mca_i, mca_l, mca_r, mca_u, mca_x, mcat_i, mcat_l, mcat_r, mcat_u, mcat_x, mK_some, mK_none, va_rf_s, va_rf_n, lgc_eq, lgc_lt, lgc_gt, lgc_ge, lgc_le, mrd_104, mrd_105, mrd_106, mrd_107, true_and, and_true, and_self, false_and, and_false, true_or, or_true, false_or, or_false, not_true_eq_false, not_false_eq_true, mgb, mga, mgr, mN, reduceCtorEq, ↓reduceIte, eq_self, ge_iff_le, gt_iff_lt, hk_si, hk_sj, hk_sr, hl_si, hl_sj, hl_sr, hn_si, hn_sj, hn_sr, hs_si, hs_sj, hs_sr, hi_sj, hi_sr, hj_si, hj_sr, hr_si, hr_sj, hi_si, hj_sj, hr_sr, mg_si, mg_sj, mg_sr, Nat.reduceAdd, Nat.reduceMul, Nat.reduceSub, Nat.reduceLT, Nat.reduceGT, Nat.reduceEqDiff, Nat.reduceLeDiff, Nat.left_eq_add, Nat.add_eq_left, Nat.reduceMod, Nat.reduceDiv, Nat.succ_ne_self, hn_new, g, hn, cs]
theorem zw_2 (g : mg h 81 14) (hn : mh_n h = 2637) : ∀ Q, mw (d + 1) 298 Q 319 [some (.ref 81)] [.ref 2632, .ref 81] h = mw (d + 1) 298 Q 380 [some (.ref 81)] [.ref 2643, .ref 81] (zwB h) := fun Q => by
  have c1 : (24000 : Int32).toNatClampNeg = 24000 := by decide +kernel
  have c2 : (1000 : Int32).toNatClampNeg = 1000 := by decide +kernel
  have c3 : (12 : Int32).toNatClampNeg = 12 := by decide +kernel
  have c4 : (384 : Int32).toNatClampNeg = 384 := by decide +kernel
  have c5 : (13 : Int32).toNatClampNeg = 13 := by decide +kernel
  have c6 : (8 : Int32).toNatClampNeg = 8 := by decide +kernel
  have p1 : ((0 : Int32) ≤ 24000) = True := eq_true (by decide +kernel)
  have p2 : ((0 : Int32) ≤ 1000) = True := eq_true (by decide +kernel)
  have p3 : ((0 : Int32) ≤ 12) = True := eq_true (by decide +kernel)
  have p4 : ((0 : Int32) ≤ 384) = True := eq_true (by decide +kernel)
  have p5 : ((0 : Int32) ≤ 13) = True := eq_true (by decide +kernel)
  have p6 : ((0 : Int32) ≤ 8) = True := eq_true (by decide +kernel)
  unfold zwB
  simp (disch := omega) only [s_298_319, s_298_322, s_298_323, s_298_326, s_298_328, s_298_331, s_298_332, s_298_335, s_298_337, s_298_340, s_298_341, s_298_344, s_298_346, s_298_349, s_298_350, s_298_352, s_298_354, s_298_357, s_298_358, s_298_361, s_298_363, s_298_366, s_298_367, s_298_369, s_298_371, s_298_374, s_298_375, s_298_377, mv_i_1, mv_l_1, mv_a_1, mv_a_2, mv_a_3, mk2_n, mk2_i, mk2_l, mk2_a, mk2_u, mk2_x, mB_T, mB_F, mS_cons, mS_nil, mSB_T, mSB_F, mca_nil, mca_i, mca_l, mca_r, mca_u, mca_x, mcat_i, mcat_l, mcat_r, mcat_u, mcat_x, mK_some, mK_none, va_rf_s, va_rf_n, lgc_eq, lgc_lt, lgc_gt, lgc_ge, lgc_le, mrd_104, mrd_105, mrd_106, mrd_107, true_and, and_true, and_self, false_and, and_false, true_or, or_true, false_or, or_false, not_true_eq_false, not_false_eq_true, mgb, mga, mgr, mN, reduceCtorEq, ↓reduceIte, eq_self, ge_iff_le, gt_iff_lt, hk_si, hk_sj, hk_sr, hl_si, hl_sj, hl_sr, hn_si, hn_sj, hn_sr, hs_si, hs_sj, hs_sr, hi_sj, hi_sr, hj_si, hj_sr, hr_si, hr_sj, hi_si, hj_sj, hr_sr, mg_si, mg_sj, mg_sr, Nat.reduceAdd, Nat.reduceMul, Nat.reduceSub, Nat.reduceLT, Nat.reduceGT, Nat.reduceEqDiff, Nat.reduceLeDiff, Nat.left_eq_add, Nat.add_eq_left, Nat.reduceMod, Nat.reduceDiv, Nat.succ_ne_self, hn_new, mg_new, g, hn, c1, c2, c3, c4, c5, c6, p1, p2, p3, p4, p5, p6]
theorem zw_3 (g : mg h 81 14) (g' : mg h 2643 107) (l : mh_l h 2643 = 8) : ∀ Q, mw (d + 1) 298 Q 380 [some (.ref 81)] [.ref 2643, .ref 81] h = mw (d + 1) 298 Q 425 [some (.ref 81)] [] (zwC h) := fun Q => by
  have c0 : (0 : Int32).toNatClampNeg = 0 := by decide +kernel
  have c1 : (1 : Int32).toNatClampNeg = 1 := by decide +kernel
  have c2 : (2 : Int32).toNatClampNeg = 2 := by decide +kernel
  have c3 : (3 : Int32).toNatClampNeg = 3 := by decide +kernel
  have c4 : (4 : Int32).toNatClampNeg = 4 := by decide +kernel
  have c5 : (5 : Int32).toNatClampNeg = 5 := by decide +kernel
  have c6 : (6 : Int32).toNatClampNeg = 6 := by decide +kernel
  have c7 : (7 : Int32).toNatClampNeg = 7 := by decide +kernel
  have m0 : mx (0 : Int32) 8 = True := eq_true ⟨by decide +kernel, by decide +kernel⟩
  have m1 : mx (1 : Int32) 8 = True := eq_true ⟨by decide +kernel, by decide +kernel⟩
  have m2 : mx (2 : Int32) 8 = True := eq_true ⟨by decide +kernel, by decide +kernel⟩
  have m3 : mx (3 : Int32) 8 = True := eq_true ⟨by decide +kernel, by decide +kernel⟩
  have m4 : mx (4 : Int32) 8 = True := eq_true ⟨by decide +kernel, by decide +kernel⟩
  have m5 : mx (5 : Int32) 8 = True := eq_true ⟨by decide +kernel, by decide +kernel⟩
  have m6 : mx (6 : Int32) 8 = True := eq_true ⟨by decide +kernel, by decide +kernel⟩
  have m7 : mx (7 : Int32) 8 = True := eq_true ⟨by decide +kernel, by decide +kernel⟩
  have x0 : me_xs 57 = true := by decide +kernel
  have x1 : me_xs 60 = true := by decide +kernel
  have x2 : me_xs 63 = true := by decide +kernel
  have x3 : me_xs 66 = true := by decide +kernel
  have x4 : me_xs 69 = true := by decide +kernel
  have x5 : me_xs 72 = true := by decide +kernel
  have x6 : me_xs 75 = true := by decide +kernel
  have x7 : me_xs 78 = true := by decide +kernel
  unfold zwC
  simp (disch := omega) only [s_298_380, s_298_381, s_298_382, s_298_384x, s_298_385, s_298_386, s_298_387, s_298_389x, s_298_390, s_298_391, s_298_392, s_298_394x, s_298_395, s_298_396, s_298_397, s_298_399x, s_298_400, s_298_401, s_298_402, s_298_404x, s_298_405, s_298_406, s_298_407, s_298_409x, s_298_410, s_298_411, s_298_413, s_298_415x, s_298_416, s_298_417, s_298_419, s_298_421x, s_298_422, mv_i_1, mv_l_1, mv_a_1, mv_a_2, mv_a_3, mk2_n, mk2_i, mk2_l, mk2_a, mk2_u, mk2_x, mB_T, mB_F, mS_cons, mS_nil, mSB_T, mSB_F, mca_nil, mca_i, mca_l, mca_r, mca_u, mca_x, mcat_i, mcat_l, mcat_r, mcat_u, mcat_x, mK_some, mK_none, va_rf_s, va_rf_n, lgc_eq, lgc_lt, lgc_gt, lgc_ge, lgc_le, mrd_104, mrd_105, mrd_106, mrd_107, true_and, and_true, and_self, false_and, and_false, true_or, or_true, false_or, or_false, not_true_eq_false, not_false_eq_true, mgb, mga, mgr, mN, reduceCtorEq, ↓reduceIte, eq_self, ge_iff_le, gt_iff_lt, hk_si, hk_sj, hk_sr, hl_si, hl_sj, hl_sr, hn_si, hn_sj, hn_sr, hs_si, hs_sj, hs_sr, hi_sj, hi_sr, hj_si, hj_sr, hr_si, hr_sj, hi_si, hj_sj, hr_sr, mg_si, mg_sj, mg_sr, Nat.reduceAdd, Nat.reduceMul, Nat.reduceSub, Nat.reduceLT, Nat.reduceGT, Nat.reduceEqDiff, Nat.reduceLeDiff, Nat.left_eq_add, Nat.add_eq_left, Nat.reduceMod, Nat.reduceDiv, Nat.succ_ne_self, g, g', l, c0, c1, c2, c3, c4, c5, c6, c7, m0, m1, m2, m3, m4, m5, m6, m7, x0, x1, x2, x3, x4, x5, x6, x7]
theorem zw_4 (g : mg h 81 14) (y : ∀ Q : Option Value → mh_H → Prop, mcall d 299 [.ref 81] h Q = Q none h1) : ∀ Q, mw (d + 1) 298 Q 425 [some (.ref 81)] [] h = Q none h1 := fun Q => by
  simp (disch := omega) only [s_298_425, s_298_426, s_298_429, mv_i_1, mv_l_1, mv_a_1, mv_a_2, mv_a_3, mk2_n, mk2_i, mk2_l, mk2_a, mk2_u, mk2_x, mB_T, mB_F, mS_cons, mS_nil, mSB_T, mSB_F, mca_nil, mca_i, mca_l, mca_r, mca_u, mca_x, mcat_i, mcat_l, mcat_r, mcat_u, mcat_x, mK_some, mK_none, va_rf_s, va_rf_n, lgc_eq, lgc_lt, lgc_gt, lgc_ge, lgc_le, mrd_104, mrd_105, mrd_106, mrd_107, true_and, and_true, and_self, false_and, and_false, true_or, or_true, false_or, or_false, not_true_eq_false, not_false_eq_true, mgb, mga, mgr, mN, reduceCtorEq, ↓reduceIte, eq_self, ge_iff_le, gt_iff_lt, hk_si, hk_sj, hk_sr, hl_si, hl_sj, hl_sr, hn_si, hn_sj, hn_sr, hs_si, hs_sj, hs_sr, hi_sj, hi_sr, hj_si, hj_sr, hr_si, hr_sj, hi_si, hj_sj, hr_sr, mg_si, mg_sj, mg_sr, Nat.reduceAdd, Nat.reduceMul, Nat.reduceSub, Nat.reduceLT, Nat.reduceGT, Nat.reduceEqDiff, Nat.reduceLeDiff, Nat.left_eq_add, Nat.add_eq_left, Nat.reduceMod, Nat.reduceDiv, Nat.succ_ne_self, g, y]
/-! what it leaves -/
def zwW (b j : Nat) : Prop := b = 81 ∧ (j = 0 ∨ j = 52 ∨ j = 53 ∨ j = 56 ∨ j = 58 ∨ j = 59 ∨ j = 61 ∨ j = 62 ∨ j = 63)
theorem zw_a (hn : mh_n h = 2632) : zwA h = kn_new (mh_sr h 81 52 (some 115)) := by
  unfold zwA kn_new
  rw [hn_sr, hn]
theorem zw_An (hn : mh_n h = 2632) : mh_n (zwA h) = 2637 := by
  have e := kw_n (h := mh_sr h 81 52 (some 115))
  rw [← zw_a hn, hn_sr, hn] at e
  exact e
theorem zw_Az (hn : mh_n h = 2632) : fz zwW h (zwA h) := by
  rw [zw_a hn]
  exact fz_t (fz_sr ⟨rfl, Or.inr (Or.inl rfl)⟩) (fz_w kw_z (fun _ _ _ z => z.elim))
theorem zw_Ak (hn : mh_n h = 2632) : RK (zwA h) 2632 (some A00) := by
  have w := kw_k (h := mh_sr h 81 52 (some 115))
  rw [← zw_a hn, hn_sr, hn] at w
  exact w
theorem zw_Ar (hn : mh_n h = 2632) : mh_r (zwA h) 81 52 = some 115 := by
  rw [zw_a hn, (kw_z.2.2 81 52 (by rw [hn_sr, hn]; omega) (fun z => z)).2.2, hr_sr, if_pos ⟨rfl, rfl⟩]
theorem zw_Bz : fz zwW h (zwB h) := by
  unfold zwB
  exact fz_t (fz_t (fz_t (fz_t (fz_t (fz_t (fz_t (fz_t (fz_t (fz_t (fz_t (fz_t (fz_t (fz_sr ⟨rfl, by decide⟩) fz_new) (fz_sr ⟨rfl, by decide⟩)) fz_new) (fz_sr ⟨rfl, by decide⟩)) fz_new) (fz_sr ⟨rfl, by decide⟩)) fz_new) (fz_sr ⟨rfl, by decide⟩)) fz_new) (fz_sr ⟨rfl, by decide⟩)) fz_new) (fz_sr ⟨rfl, by decide⟩)) fz_new
theorem zw_Cz : fz (fun b j => zwW b j ∨ b = 2643) h (zwC h) := by
  unfold zwC
  exact fz_t (fz_t (fz_t (fz_t (fz_t (fz_t (fz_t (fz_t (fz_si (Or.inr rfl)) (fz_si (Or.inr rfl))) (fz_si (Or.inr rfl))) (fz_si (Or.inr rfl))) (fz_si (Or.inr rfl))) (fz_si (Or.inr rfl))) (fz_si (Or.inr rfl))) (fz_si (Or.inr rfl))) (fz_sr (Or.inl ⟨rfl, Or.inl rfl⟩))
theorem zw_Ck : mh_k (zwC h) = mh_k h ∧ mh_l (zwC h) = mh_l h ∧ mh_n (zwC h) = mh_n h := by
  unfold zwC
  simp only [hk_si, hk_sr, hl_si, hl_sr, hn_si, hn_sr, and_self]
theorem zw_Bn (hn : mh_n h = 2637) : mh_n (zwB h) = 2644 := by
  unfold zwB
  simp only [hn_sr, hn_new, hn, Nat.reduceAdd, Nat.reduceMul, Nat.reduceSub, Nat.reduceLT, Nat.reduceGT, Nat.reduceEqDiff, Nat.reduceLeDiff, Nat.left_eq_add, Nat.add_eq_left, Nat.reduceMod, Nat.reduceDiv, Nat.succ_ne_self]
theorem zw_Bk (hn : mh_n h = 2637) : (mh_k (zwB h) 2637 = 100 ∧ mh_l (zwB h) 2637 = 24000) ∧ (mh_k (zwB h) 2638 = 100 ∧ mh_l (zwB h) 2638 = 24000) ∧ (mh_k (zwB h) 2639 = 100 ∧ mh_l (zwB h) 2639 = 1000) ∧ (mh_k (zwB h) 2640 = 100 ∧ mh_l (zwB h) 2640 = 12) ∧ (mh_k (zwB h) 2641 = 100 ∧ mh_l (zwB h) 2641 = 384) ∧ (mh_k (zwB h) 2642 = 101 ∧ mh_l (zwB h) 2642 = 13) ∧ (mh_k (zwB h) 2643 = 107 ∧ mh_l (zwB h) 2643 = 8) := by
  unfold zwB
  simp only [hk_sr, hl_sr, hk_new, hl_new, hn_sr, hn_new, hn, Nat.reduceAdd, Nat.reduceMul, Nat.reduceSub, Nat.reduceLT, Nat.reduceGT, Nat.reduceEqDiff, Nat.reduceLeDiff, Nat.left_eq_add, Nat.add_eq_left, Nat.reduceMod, Nat.reduceDiv, Nat.succ_ne_self, ↓reduceIte, and_self, eq_self]
theorem zw_Br (hn : mh_n h = 2637) : mh_r (zwB h) 81 52 = mh_r h 81 52 ∧ mh_r (zwB h) 81 53 = some 2632 ∧ mh_r (zwB h) 81 56 = some 2637 ∧ mh_r (zwB h) 81 58 = some 2638 ∧ mh_r (zwB h) 81 59 = some 2639 ∧ mh_r (zwB h) 81 61 = some 2640 ∧ mh_r (zwB h) 81 62 = some 2641 ∧ mh_r (zwB h) 81 63 = some 2642 := by
  unfold zwB
  simp only [hr_sr, hr_nw, hn_sr, hn_new, hn, Nat.reduceAdd, Nat.reduceMul, Nat.reduceSub, Nat.reduceLT, Nat.reduceGT, Nat.reduceEqDiff, Nat.reduceLeDiff, Nat.left_eq_add, Nat.add_eq_left, Nat.reduceMod, Nat.reduceDiv, Nat.succ_ne_self, ↓reduceIte, and_self, and_true, true_and, and_false, false_and, eq_self]
theorem zw_Bi (hn : mh_n h = 2637) : ∀ j, mh_i (zwB h) 2639 j = 0 := fun j => by
  unfold zwB
  simp only [hi_sr, hi_new, hn_sr, hn_new, hn, Nat.reduceAdd, Nat.reduceMul, Nat.reduceSub, Nat.reduceLT, Nat.reduceGT, Nat.reduceEqDiff, Nat.reduceLeDiff, Nat.left_eq_add, Nat.add_eq_left, Nat.reduceMod, Nat.reduceDiv, Nat.succ_ne_self, ↓reduceIte]
theorem zw_Cr : mh_r (zwC h) 81 0 = some 2643 ∧ ∀ j, j ≠ 0 → mh_r (zwC h) 81 j = mh_r h 81 j := by
  unfold zwC
  refine ⟨by rw [hr_sr, if_pos ⟨rfl, rfl⟩], fun j hj => ?_⟩
  rw [hr_sr, if_neg (fun z => hj z.2), hr_si, hr_si, hr_si, hr_si, hr_si, hr_si, hr_si, hr_si]
theorem zw_Ci : mh_i (zwC h) 2643 0 = Int32.ofNat 57 ∧ mh_i (zwC h) 2643 1 = Int32.ofNat 60 ∧ mh_i (zwC h) 2643 2 = Int32.ofNat 63 ∧ mh_i (zwC h) 2643 3 = Int32.ofNat 66 ∧ mh_i (zwC h) 2643 4 = Int32.ofNat 69 ∧ mh_i (zwC h) 2643 5 = Int32.ofNat 72 ∧ mh_i (zwC h) 2643 6 = Int32.ofNat 75 ∧ mh_i (zwC h) 2643 7 = Int32.ofNat 78 := by
  unfold zwC
  simp only [hi_sr, hi_si, Nat.reduceAdd, Nat.reduceMul, Nat.reduceSub, Nat.reduceLT, Nat.reduceGT, Nat.reduceEqDiff, Nat.reduceLeDiff, Nat.left_eq_add, Nat.add_eq_left, Nat.reduceMod, Nat.reduceDiv, Nat.succ_ne_self, ↓reduceIte, and_self, and_true, true_and, and_false, false_and, eq_self]
end ZWs
