set_option maxRecDepth 100000
/-! the class's parser begins: the constructors of Tokens, Source, Scope, Parser; cells that are added -/
/-- cells l are new from N on; ints of those in W may be others than 0 -/
def ADD (W : Nat → Nat → Prop) (h h' : mh_H) (N : Nat) (l : List (Nat × Nat)) : Prop := (mh_n h' = N + l.length ∧ mh_s h' = mh_s h + (l.map fun c => c.2).sum) ∧ (∀ b, b < N → mh_k h' b = mh_k h b ∧ mh_l h' b = mh_l h b ∧ ∀ j, mh_i h' b j = mh_i h b j ∧ mh_j h' b j = mh_j h b j) ∧ ∀ i c, l[i]? = some c → mh_k h' (N + i) = c.1 ∧ mh_l h' (N + i) = c.2 ∧ ∀ j, ¬ W (N + i) j → mh_i h' (N + i) j = 0
section ADs
variable {d : Nat} {h h' : mh_H} {W : Nat → Nat → Prop} {N Y T X a n : Nat} {l : List (Nat × Nat)}
theorem ADD_0 : ADD W h h (mh_n h) [] := ⟨⟨rfl, rfl⟩, fun _ _ => ⟨rfl, rfl, fun _ => ⟨rfl, rfl⟩⟩, fun i c e => by cases e⟩
theorem ADD_new (A : ADD W h h' N l) {c z : Nat} : ADD W h (mh_new h' c z) N (l ++ [(c, z)]) := by
  obtain ⟨⟨a1, a2⟩, a3, a4⟩ := A
  refine ⟨⟨?_, ?_⟩, fun b hb => ?_, fun i e he => ?_⟩
  · rw [hn_new, a1, List.length_append]; rfl
  · rw [hs_new, a2, List.map_append, List.sum_append]
    show mh_s h + (l.map fun c => c.2).sum + z = mh_s h + ((l.map fun c => c.2).sum + (z + 0))
    omega
  · obtain ⟨b1, b2, b3⟩ := a3 b hb
    have ne : ¬ b = mh_n h' := by omega
    refine ⟨by rw [hk_new, if_neg ne]; exact b1, by rw [hl_new, if_neg ne]; exact b2, fun j => ⟨by rw [hi_new, if_neg ne]; exact (b3 j).1, by rw [hj_new, if_neg ne]; exact (b3 j).2⟩⟩
  · by_cases c1 : i < l.length
    · rw [List.getElem?_append_left c1] at he
      obtain ⟨b1, b2, b3⟩ := a4 i e he
      have ne : ¬ N + i = mh_n h' := by omega
      exact ⟨by rw [hk_new, if_neg ne]; exact b1, by rw [hl_new, if_neg ne]; exact b2, fun j w => by rw [hi_new, if_neg ne]; exact b3 j w⟩
    · by_cases c2 : i = l.length
      · have ee : N + i = mh_n h' := by omega
        rw [List.getElem?_append_right (by omega), c2, Nat.sub_self] at he
        cases he
        exact ⟨by rw [hk_new, if_pos ee], by rw [hl_new, if_pos ee], fun j _ => by rw [hi_new, if_pos ee]⟩
      · rw [List.getElem?_eq_none (by rw [List.length_append]; show l.length + 1 ≤ i; omega)] at he
        cases he
theorem ADD_sr (A : ADD W h h' N l) {b k : Nat} {r : Option Nat} : ADD W h (mh_sr h' b k r) N l := A
theorem ADD_si (A : ADD W h h' N l) {b k : Nat} {x : Int32} (hb : N ≤ b) (w : W b k) : ADD W h (mh_si h' b k x) N l := by
  obtain ⟨a1, a3, a4⟩ := A
  refine ⟨a1, fun c hc => ?_, fun i e he => ?_⟩
  · obtain ⟨b1, b2, b3⟩ := a3 c hc
    exact ⟨b1, b2, fun j => ⟨by rw [hi_si, if_neg (by omega)]; exact (b3 j).1, (b3 j).2⟩⟩
  · obtain ⟨b1, b2, b3⟩ := a4 i e he
    exact ⟨b1, b2, fun j nw => by rw [hi_si, if_neg (fun z => nw (by rw [z.1, z.2]; exact w))]; exact b3 j nw⟩
theorem ADD_cp (A : ADD W h h' N l) {o b m : Nat} (hb : N ≤ b) (w : ∀ j, W b j) : ADD W h (mh_cp h' o 0 b 0 m) N l := by
  obtain ⟨a1, a3, a4⟩ := A
  refine ⟨a1, fun c hc => ?_, fun i e he => ?_⟩
  · obtain ⟨b1, b2, b3⟩ := a3 c hc
    exact ⟨b1, b2, fun j => ⟨by rw [hi_cp, if_neg (by omega)]; exact (b3 j).1, by rw [hj_cp, if_neg (by omega)]; exact (b3 j).2⟩⟩
  · obtain ⟨b1, b2, b3⟩ := a4 i e he
    exact ⟨b1, b2, fun j nw => by rw [hi_cp, if_neg (fun z => nw (by rw [z.1]; exact w j))]; exact b3 j nw⟩
theorem ADD_G {U : Nat → Nat → Prop} {h2 : mh_H} (A : ADD W h h' N l) (F : fG U h' h2) (hU : ∀ b j, U b j → N ≤ b ∧ W b j) : ADD W h h2 N l := by
  obtain ⟨⟨a1, a2⟩, a3, a4⟩ := A
  refine ⟨⟨by rw [F.2.2.2.1]; exact a1, by rw [F.2.2.2.2.1]; exact a2⟩, fun c hc => ?_, fun i e he => ?_⟩
  · obtain ⟨b1, b2, b3⟩ := a3 c hc
    exact ⟨by rw [F.1]; exact b1, by rw [F.2.1]; exact b2, fun j => by
      have nu : ¬ U c j := fun u => by have := (hU c j u).1; omega
      exact ⟨(fG_i F nu).trans (b3 j).1, (fG_j F nu).trans (b3 j).2⟩⟩
  · obtain ⟨b1, b2, b3⟩ := a4 i e he
    exact ⟨by rw [F.1]; exact b1, by rw [F.2.1]; exact b2, fun j nw => (fG_i F (fun u => nw (hU _ j u).2)).trans (b3 j nw)⟩
/-- Arrays.copyOf -/
theorem c_392 (g : mg h a 102) (l : mh_l h a = 16400) (hn : n < 16400) (bf : me_bf (mh_new h 102 n) a = true) : ∀ Q, mcall d 392 [.ref a, .int (Int32.ofNat n)] h Q = Q (some (.ref (mh_n h))) (mh_cp (mh_new h 102 n) a 0 (mh_n h) 0 n) := by
  intro Q
  have g1 := g.1
  have g2 := g.2
  have n1 : (a = mh_n h) = False := eq_false (by omega)
  have f1 : (a < mh_n h + 1) = True := eq_true (by omega)
  have f2 : (mh_n h < mh_n h + 1) = True := eq_true (by omega)
  have ne : (Int32.ofNat n = Int32.ofNat 16400) = False := by rw [nn_eq (by omega) (by omega)]; exact eq_false (by omega)
  have lt : (Int32.ofNat n < Int32.ofNat 16400) = True := by rw [nn_lt (by omega) (by omega)]; exact eq_true (by omega)
  have n4 : (n ≤ 16400) = True := eq_true (by omega)
  have n5 : (n ≤ 10000000) = True := eq_true (by omega)
  simp (disch := omega) only [s_392_0, s_392_1, s_392_2, s_392_2x, s_392_3, s_392_6, s_392_7, s_392_10, s_392_13, s_392_13n, s_392_14, s_392_15, s_392_17, s_392_17n, s_392_17x, s_392_18, s_392_19, s_392_20, s_392_21, s_392_22, s_392_23, s_392_23x, s_392_24, s_392_25, s_392_28, s_392_31, s_392_32, s_392_32n, e_392, mv_i_1, mv_l_1, mv_a_1, mv_a_2, mv_a_3, mk2_n, mk2_i, mk2_l, mk2_a, mk2_u, mk2_x, mB_T, mB_F, mS_cons, mS_nil, mSB_T, mSB_F, mca_nil, mca_i, mca_l, mca_r, mca_u, mca_x, mcat_i, mcat_l, mcat_r, mcat_u, mcat_x, mK_some, mK_none, va_rf_s, va_rf_n, lgc_eq, lgc_lt, lgc_gt, lgc_ge, lgc_le, mrd_104, mrd_105, mrd_106, mrd_107, true_and, and_true, and_self, false_and, and_false, true_or, or_true, false_or, or_false, not_true_eq_false, not_false_eq_true, mgb, mga, mgr, mN, reduceCtorEq, ↓reduceIte, eq_self, ge_iff_le, gt_iff_lt, hk_si, hk_sj, hk_sr, hl_si, hl_sj, hl_sr, hn_si, hn_sj, hn_sr, hs_si, hs_sj, hs_sr, hi_sj, hi_sr, hj_si, hj_sr, hr_si, hr_sj, hi_si, hj_sj, hr_sr, mg_si, mg_sj, mg_sr, Nat.reduceAdd, Nat.reduceMul, Nat.reduceSub, Nat.reduceLT, Nat.reduceGT, Nat.reduceEqDiff, Nat.reduceLeDiff, Nat.left_eq_add, Nat.add_eq_left, Nat.reduceMod, Nat.reduceDiv, Nat.succ_ne_self, hk_new, hl_new, hn_new, mg_new, cpok_eq, g, g1, g2, l, ne, lt, nn_clamp, nn_ge, n1, n4, n5, f1, f2, bf, Nat.zero_add, Nat.le_refl, show (0 : Int32).toNatClampNeg = 0 by decide, show ((0 : Int32) ≤ 0) = True by decide]
def tknH (h : mh_H) (Y a n : Nat) : mh_H := mh_sr (mh_new (mh_sr (mh_new (mh_sr (mh_new (mh_sr (mh_cp (mh_new (h) 102 (n)) (a) 0 (mh_n h) 0 (n)) (Y) 0 (some (mh_n h))) 100 (n + 1)) (Y) 1 (some (mh_n h + 1))) 100 (n + 1)) (Y) 2 (some (mh_n h + 2))) 100 (n + 1)) (Y) 3 (some (mh_n h + 3))
theorem c_167 (gY : mg h Y 10) (g : mg h a 102) (l : mh_l h a = 16400) (hn : n < 16400) (bf : me_bf (mh_new h 102 n) a = true) : ∀ Q, mcall (d + 1) 167 [.ref Y, .ref a, .int (Int32.ofNat n)] h Q = Q none (tknH h Y a n) := by
  intro Q
  have gY2 := gY.2
  have a0 := c_392 (d := d) g l hn bf
  have e1' : ∀ k, Int32.ofNat k + 1 = Int32.ofNat (k + 1) := fun k => nn_add (a := k) (b := 1)
  have n5 : (n + 1 ≤ 10000000) = True := eq_true (by omega)
  have y0 : (Y = mh_n h) = False := eq_false (by omega)
  have y1 : (Y = mh_n h + 1) = False := eq_false (by omega)
  have y2 : (Y = mh_n h + 2) = False := eq_false (by omega)
  have y3 : (Y = mh_n h + 3) = False := eq_false (by omega)
  unfold tknH
  simp (disch := omega) only [s_167_0, s_167_1, s_167_4, s_167_5, s_167_6, s_167_7, s_167_10, s_167_10n, s_167_13, s_167_14, s_167_15, s_167_16, s_167_17, s_167_19, s_167_19n, s_167_22, s_167_23, s_167_24, s_167_25, s_167_26, s_167_28, s_167_28n, s_167_31, s_167_32, s_167_33, s_167_34, s_167_35, s_167_37, s_167_37n, s_167_40, e_167, mv_i_1, mv_l_1, mv_a_1, mv_a_2, mv_a_3, mk2_n, mk2_i, mk2_l, mk2_a, mk2_u, mk2_x, mB_T, mB_F, mS_cons, mS_nil, mSB_T, mSB_F, mca_nil, mca_i, mca_l, mca_r, mca_u, mca_x, mcat_i, mcat_l, mcat_r, mcat_u, mcat_x, mK_some, mK_none, va_rf_s, va_rf_n, lgc_eq, lgc_lt, lgc_gt, lgc_ge, lgc_le, mrd_104, mrd_105, mrd_106, mrd_107, true_and, and_true, and_self, false_and, and_false, true_or, or_true, false_or, or_false, not_true_eq_false, not_false_eq_true, mgb, mga, mgr, mN, reduceCtorEq, ↓reduceIte, eq_self, ge_iff_le, gt_iff_lt, hk_si, hk_sj, hk_sr, hl_si, hl_sj, hl_sr, hn_si, hn_sj, hn_sr, hs_si, hs_sj, hs_sr, hi_sj, hi_sr, hj_si, hj_sr, hr_si, hr_sj, hi_si, hj_sj, hr_sr, mg_si, mg_sj, mg_sr, Nat.reduceAdd, Nat.reduceMul, Nat.reduceSub, Nat.reduceLT, Nat.reduceGT, Nat.reduceEqDiff, Nat.reduceLeDiff, Nat.left_eq_add, Nat.add_eq_left, Nat.reduceMod, Nat.reduceDiv, Nat.succ_ne_self, hk_new, hl_new, hr_nw, hn_new, mg_new, hk_cp, hl_cp, hr_cp, hn_cp, mg_cp, nn_clamp, nn_ge, Nat.add_assoc, gY, a0, e1', n5, y0, y1, y2, y3]
def soH (h : mh_H) (Y n : Nat) : mh_H := mh_sr (mh_new (mh_sr (mh_new (mh_sr (mh_new (mh_sr (mh_new (mh_sr (mh_new (mh_sr (mh_new (mh_sr (mh_new (mh_sr (mh_new (mh_sr (mh_new (mh_sr (mh_new (h) 100 (3 * n + 3)) (Y) 0 (some (mh_n h))) 100 (n + 1)) (Y) 2 (some (mh_n h + 1))) 100 (n + 1)) (Y) 3 (some (mh_n h + 2))) 100 (n + 1)) (Y) 4 (some (mh_n h + 3))) 100 (n + 2)) (Y) 6 (some (mh_n h + 4))) 100 (n + 2)) (Y) 7 (some (mh_n h + 5))) 100 (n + 1)) (Y) 9 (some (mh_n h + 6))) 100 (n + 1)) (Y) 10 (some (mh_n h + 7))) 105 (n / 3 + 2)) (Y) 12 (some (mh_n h + 8))) 100 (6 * (n / 9 + 2))) (Y) 14 (some (mh_n h + 9))
theorem c_125 (gY : mg h Y 7) (hn : n ≤ 16400) : ∀ Q, mcall (d) 125 [.ref Y, .int (Int32.ofNat n)] h Q = Q none (soH h Y n) := by
  intro Q
  have gY2 := gY.2
  have e1' : ∀ k, Int32.ofNat k + 1 = Int32.ofNat (k + 1) := fun k => nn_add (a := k) (b := 1)
  have e2' : ∀ k, Int32.ofNat k + 2 = Int32.ofNat (k + 2) := fun k => nn_add (a := k) (b := 2)
  have e3' : ∀ k, Int32.ofNat k + 3 = Int32.ofNat (k + 3) := fun k => nn_add (a := k) (b := 3)
  have m3' : ∀ k, 3 * Int32.ofNat k = Int32.ofNat (3 * k) := fun k => nn_mul (a := 3) (b := k)
  have m6' : ∀ k, 6 * Int32.ofNat k = Int32.ofNat (6 * k) := fun k => nn_mul (a := 6) (b := k)
  have d3' : Int32.ofNat n / 3 = Int32.ofNat (n / 3) := nn_div (a := n) (c := 3) (by omega) (by decide)
  have d9' : Int32.ofNat n / 9 = Int32.ofNat (n / 9) := nn_div (a := n) (c := 9) (by omega) (by decide)
  have z3 : ((3 : Int32) = 0) = False := by decide
  have z9 : ((9 : Int32) = 0) = False := by decide
  have b0 : (3 * n + 3 ≤ 10000000) = True := eq_true (by omega)
  have b1 : (n + 1 ≤ 10000000) = True := eq_true (by omega)
  have b2 : (n + 2 ≤ 10000000) = True := eq_true (by omega)
  have b3 : (n / 3 + 2 ≤ 10000000) = True := eq_true (by omega)
  have b4 : (6 * (n / 9 + 2) ≤ 10000000) = True := eq_true (by omega)
  have y0 : (Y = mh_n h) = False := eq_false (by omega)
  have y1 : (Y = mh_n h + 1) = False := eq_false (by omega)
  have y2 : (Y = mh_n h + 2) = False := eq_false (by omega)
  have y3 : (Y = mh_n h + 3) = False := eq_false (by omega)
  have y4 : (Y = mh_n h + 4) = False := eq_false (by omega)
  have y5 : (Y = mh_n h + 5) = False := eq_false (by omega)
  have y6 : (Y = mh_n h + 6) = False := eq_false (by omega)
  have y7 : (Y = mh_n h + 7) = False := eq_false (by omega)
  have y8 : (Y = mh_n h + 8) = False := eq_false (by omega)
  have y9 : (Y = mh_n h + 9) = False := eq_false (by omega)
  unfold soH
  simp (disch := omega) only [s_125_0, s_125_1, s_125_4, s_125_5, s_125_6, s_125_7, s_125_8, s_125_9, s_125_10, s_125_12, s_125_12n, s_125_15, s_125_16, s_125_17, s_125_18, s_125_19, s_125_21, s_125_21n, s_125_24, s_125_25, s_125_26, s_125_27, s_125_28, s_125_30, s_125_30n, s_125_33, s_125_34, s_125_35, s_125_36, s_125_37, s_125_39, s_125_39n, s_125_42, s_125_43, s_125_44, s_125_45, s_125_46, s_125_48, s_125_48n, s_125_51, s_125_52, s_125_53, s_125_54, s_125_55, s_125_57, s_125_57n, s_125_60, s_125_61, s_125_62, s_125_63, s_125_64, s_125_66, s_125_66n, s_125_69, s_125_70, s_125_71, s_125_72, s_125_73, s_125_75, s_125_75n, s_125_78, s_125_79, s_125_80, s_125_81, s_125_82, s_125_83, s_125_84, s_125_87, s_125_87n, s_125_90, s_125_91, s_125_93, s_125_94, s_125_96, s_125_97, s_125_98, s_125_99, s_125_100, s_125_102, s_125_102n, s_125_105, e_125, mv_i_1, mv_l_1, mv_a_1, mv_a_2, mv_a_3, mk2_n, mk2_i, mk2_l, mk2_a, mk2_u, mk2_x, mB_T, mB_F, mS_cons, mS_nil, mSB_T, mSB_F, mca_nil, mca_i, mca_l, mca_r, mca_u, mca_x, mcat_i, mcat_l, mcat_r, mcat_u, mcat_x, mK_some, mK_none, va_rf_s, va_rf_n, lgc_eq, lgc_lt, lgc_gt, lgc_ge, lgc_le, mrd_104, mrd_105, mrd_106, mrd_107, true_and, and_true, and_self, false_and, and_false, true_or, or_true, false_or, or_false, not_true_eq_false, not_false_eq_true, mgb, mga, mgr, mN, reduceCtorEq, ↓reduceIte, eq_self, ge_iff_le, gt_iff_lt, hk_si, hk_sj, hk_sr, hl_si, hl_sj, hl_sr, hn_si, hn_sj, hn_sr, hs_si, hs_sj, hs_sr, hi_sj, hi_sr, hj_si, hj_sr, hr_si, hr_sj, hi_si, hj_sj, hr_sr, mg_si, mg_sj, mg_sr, Nat.reduceAdd, Nat.reduceMul, Nat.reduceSub, Nat.reduceLT, Nat.reduceGT, Nat.reduceEqDiff, Nat.reduceLeDiff, Nat.left_eq_add, Nat.add_eq_left, Nat.reduceMod, Nat.reduceDiv, Nat.succ_ne_self, hk_new, hl_new, hr_nw, hn_new, mg_new, hk_cp, hl_cp, hr_cp, hn_cp, mg_cp, nn_clamp, nn_ge, Nat.add_assoc, gY, e1', e2', e3', m3', m6', d3', d9', z3, z9, b0, b1, b2, b3, b4, y0, y1, y2, y3, y4, y5, y6, y7, y8, y9]
def scH (h : mh_H) (Y T n : Nat) : mh_H := mh_sr (mh_new (mh_sr (mh_new (mh_sr (mh_new (mh_sr (mh_sr (mh_new (h) 100 (62)) (Y) 5 (some (mh_n h))) (Y) 0 (some (T))) 100 (n / 2 + 1)) (Y) 1 (some (mh_n h + 1))) 100 (n / 2 + 1)) (Y) 2 (some (mh_n h + 2))) 100 (n / 2 + 1)) (Y) 3 (some (mh_n h + 3))
theorem c_116 (gY : mg h Y 6) (gT : mg h T 10) (rT : mh_r h T 0 = some X) (kX : mh_k h X = 102) (xX : X < mh_n h) (lX : mh_l h X = n) (hYT : Y ≠ T) (hn : n ≤ 16400) : ∀ Q, mcall (d) 116 [.ref Y, .ref T] h Q = Q none (scH h Y T n) := by
  intro Q
  have gY2 := gY.2
  have gT2 := gT.2
  have x1 : (X < mh_n h + 1) = True := eq_true (by omega)
  have e1' : ∀ k, Int32.ofNat k + 1 = Int32.ofNat (k + 1) := fun k => nn_add (a := k) (b := 1)
  have d2' : Int32.ofNat n / 2 = Int32.ofNat (n / 2) := nn_div (a := n) (c := 2) (by omega) (by decide)
  have z2 : ((2 : Int32) = 0) = False := by decide
  have b1 : (n / 2 + 1 ≤ 10000000) = True := eq_true (by omega)
  have b0 : (62 ≤ 10000000) = True := eq_true (by omega)
  have c62 : (62 : Int32).toNatClampNeg = 62 := by decide
  have p62 : ((0 : Int32) ≤ 62) = True := by decide
  have x0 : (X = mh_n h) = False := eq_false (by omega)
  have t0 : (T = mh_n h) = False := eq_false (by omega)
  have ty : (T = Y) = False := eq_false (fun z => hYT z.symm)
  have y0 : (Y = mh_n h) = False := eq_false (by omega)
  have y1 : (Y = mh_n h + 1) = False := eq_false (by omega)
  have y2 : (Y = mh_n h + 2) = False := eq_false (by omega)
  have y3 : (Y = mh_n h + 3) = False := eq_false (by omega)
  unfold scH
  simp (disch := omega) only [s_116_0, s_116_1, s_116_4, s_116_5, s_116_7, s_116_9, s_116_9n, s_116_12, s_116_13, s_116_14, s_116_14n, s_116_17, s_116_18, s_116_21, s_116_22, s_116_23, s_116_24, s_116_25, s_116_26, s_116_27, s_116_28, s_116_29, s_116_31, s_116_31n, s_116_34, s_116_35, s_116_36, s_116_38, s_116_38n, s_116_41, s_116_42, s_116_43, s_116_45, s_116_45n, s_116_48, e_116, mv_i_1, mv_l_1, mv_a_1, mv_a_2, mv_a_3, mk2_n, mk2_i, mk2_l, mk2_a, mk2_u, mk2_x, mB_T, mB_F, mS_cons, mS_nil, mSB_T, mSB_F, mca_nil, mca_i, mca_l, mca_r, mca_u, mca_x, mcat_i, mcat_l, mcat_r, mcat_u, mcat_x, mK_some, mK_none, va_rf_s, va_rf_n, lgc_eq, lgc_lt, lgc_gt, lgc_ge, lgc_le, mrd_104, mrd_105, mrd_106, mrd_107, true_and, and_true, and_self, false_and, and_false, true_or, or_true, false_or, or_false, not_true_eq_false, not_false_eq_true, mgb, mga, mgr, mN, reduceCtorEq, ↓reduceIte, eq_self, ge_iff_le, gt_iff_lt, hk_si, hk_sj, hk_sr, hl_si, hl_sj, hl_sr, hn_si, hn_sj, hn_sr, hs_si, hs_sj, hs_sr, hi_sj, hi_sr, hj_si, hj_sr, hr_si, hr_sj, hi_si, hj_sj, hr_sr, mg_si, mg_sj, mg_sr, Nat.reduceAdd, Nat.reduceMul, Nat.reduceSub, Nat.reduceLT, Nat.reduceGT, Nat.reduceEqDiff, Nat.reduceLeDiff, Nat.left_eq_add, Nat.add_eq_left, Nat.reduceMod, Nat.reduceDiv, Nat.succ_ne_self, hk_new, hl_new, hr_nw, hn_new, mg_new, hk_cp, hl_cp, hr_cp, hn_cp, mg_cp, nn_clamp, nn_ge, Nat.add_assoc, gY, gT, rT, kX, x1, lX, e1', d2', z2, b0, b1, c62, p62, x0, t0, ty, y0, y1, y2, y3]
theorem rn_o {b j c z : Nat} (hb : b < mh_n h) : mh_r (mh_new h c z) b j = mh_r h b j := by rw [hr_nw, if_neg (by omega)]
theorem sr_o {b j Y k : Nat} {r : Option Nat} (hb : b ≠ Y) : mh_r (mh_sr h Y k r) b j = mh_r h b j := by rw [hr_sr, if_neg (fun z => hb z.1)]
theorem sc_A (A : ADD W h h' N l) : ADD W h (scH h' Y T n) N (l ++ [(100, 62)] ++ [(100, n / 2 + 1)] ++ [(100, n / 2 + 1)] ++ [(100, n / 2 + 1)]) := ADD_sr (ADD_new (ADD_sr (ADD_new (ADD_sr (ADD_new (ADD_sr (ADD_sr (ADD_new A))))))))
theorem scH_r {b j : Nat} (hb : b < mh_n h) (hY : b ≠ Y) : mh_r (scH h Y T n) b j = mh_r h b j := by
  unfold scH
  rw [sr_o hY, rn_o (by show b < mh_n h + 1 + 1 + 1; omega), sr_o hY, rn_o (by show b < mh_n h + 1 + 1; omega), sr_o hY, rn_o (by show b < mh_n h + 1; omega), sr_o hY, sr_o hY, rn_o hb]
theorem sc_f (hY : Y < mh_n h) : mh_r (scH h Y T n) Y 0 = some T ∧ mh_r (scH h Y T n) Y 1 = some (mh_n h + 1) ∧ mh_r (scH h Y T n) Y 2 = some (mh_n h + 2) ∧ mh_r (scH h Y T n) Y 3 = some (mh_n h + 3) ∧ mh_r (scH h Y T n) Y 5 = some (mh_n h) := by
  have y0 : ¬ Y = mh_n h := by omega
  have y1 : ¬ Y = mh_n h + 1 := by omega
  have y2 : ¬ Y = mh_n h + 2 := by omega
  have y3 : ¬ Y = mh_n h + 3 := by omega
  unfold scH
  refine ⟨?_, ?_, ?_, ?_, ?_⟩ <;> simp only [hr_sr, hr_nw, hn_sr, hn_new, y0, y1, y2, y3, if_true, if_false, true_and, and_true, and_self, Nat.reduceEqDiff, reduceCtorEq, ↓reduceIte, Nat.reduceAdd, Nat.add_assoc]
def pa2 (h : mh_H) (Y T S : Nat) : mh_H := mh_new (mh_sr (mh_sr (mh_sr (mh_new (mh_si h Y 7 (-1)) 100 62) Y 9 (some (mh_n h))) Y 0 (some T)) Y 1 (some S)) 6 9
def paH (h : mh_H) (Y T S n : Nat) : mh_H := mh_sr (mh_new (mh_sr (scH (pa2 h Y T S) (mh_n h + 1) T n) Y 2 (some (mh_n h + 1))) 100 (gL n)) Y 3 (some (mh_n h + 6))
theorem c_43 {S : Nat} (gY : mg h Y 3) (gT : mg h T 10) (rT : mh_r h T 0 = some X) (kX : mh_k h X = 102) (xX : X < mh_n h) (lX : mh_l h X = n) (hYT : T ≠ Y) (hn : n ≤ 16400) : ∀ Q, mcall (d + 1) 43 [.ref Y, .ref T, .ref S] h Q = Q none (paH h Y T S n) := by
  intro Q
  have gY2 := gY.2
  have gT2 := gT.2
  have gY1 := gY.1
  have gT1 := gT.1
  have e2 : pa2 h Y T S = mh_new (mh_sr (mh_sr (mh_sr (mh_new (mh_si h Y 7 (-1)) 100 62) Y 9 (some (mh_n h))) Y 0 (some T)) Y 1 (some S)) 6 9 := rfl
  have n2 : mh_n (pa2 h Y T S) = mh_n h + 2 := rfl
  have k2 : ∀ b, b < mh_n h → mh_k (pa2 h Y T S) b = mh_k h b ∧ mh_l (pa2 h Y T S) b = mh_l h b := fun b hb => by
    show (if b = mh_n h + 1 then 6 else if b = mh_n h then 100 else mh_k h b) = _ ∧ (if b = mh_n h + 1 then 9 else if b = mh_n h then 62 else mh_l h b) = _
    rw [if_neg (by omega), if_neg (by omega), if_neg (by omega), if_neg (by omega)]
    exact ⟨rfl, rfl⟩
  have r2 : mh_r (pa2 h Y T S) T 0 = some X := by
    unfold pa2
    rw [rn_o (by show T < mh_n h + 1; omega), sr_o hYT, sr_o hYT, sr_o hYT, rn_o (by show T < mh_n h; omega)]
    exact rT
  have gs : mg (pa2 h Y T S) (mh_n h + 1) 6 := ⟨by show (if mh_n h + 1 = mh_n h + 1 then 6 else _) = 6; rw [if_pos rfl], by show mh_n h + 1 < mh_n h + 2; omega⟩
  have a0 := c_116 (d := d) (h := pa2 h Y T S) (Y := mh_n h + 1) (T := T) (X := X) (n := n) gs ⟨(k2 T gT2).1.trans gT1, by rw [n2]; omega⟩ r2 ((k2 X xX).1.trans kX) (by rw [n2]; omega) ((k2 X xX).2.trans lX) (by omega) hn
  have A := sc_A (W := fun _ _ => True) (Y := mh_n h + 1) (T := T) (n := n) (ADD_0 (h := pa2 h Y T S))
  obtain ⟨⟨A1, -⟩, A2, -⟩ := A
  rw [n2] at A1 A2
  have s1 : mh_n (scH (pa2 h Y T S) (mh_n h + 1) T n) = mh_n h + 6 := A1
  have sk : ∀ b, b < mh_n h → mh_k (scH (pa2 h Y T S) (mh_n h + 1) T n) b = mh_k h b ∧ mh_l (scH (pa2 h Y T S) (mh_n h + 1) T n) b = mh_l h b := fun b hb => ⟨(A2 b (by omega)).1.trans (k2 b hb).1, (A2 b (by omega)).2.1.trans (k2 b hb).2⟩
  have sY : mg (scH (pa2 h Y T S) (mh_n h + 1) T n) Y 3 := ⟨(sk Y gY2).1.trans gY1, by omega⟩
  have sT : mg (scH (pa2 h Y T S) (mh_n h + 1) T n) T 10 := ⟨(sk T gT2).1.trans gT1, by omega⟩
  have sr : mh_r (scH (pa2 h Y T S) (mh_n h + 1) T n) T 0 = some X := (scH_r (by rw [n2]; omega) (by omega)).trans r2
  have sX1 := (sk X xX).1.trans kX
  have sX2 := (sk X xX).2.trans lX
  have xx : (X < mh_n h + 6) = True := eq_true (by omega)
  have e3' : ∀ k, Int32.ofNat k + 3 = Int32.ofNat (k + 3) := fun k => nn_add (a := k) (b := 3)
  have m12' : ∀ k, 12 * Int32.ofNat k = Int32.ofNat (12 * k) := fun k => nn_mul (a := 12) (b := k)
  have mi : (if (60 : Int32) < Int32.ofNat n then 60 else Int32.ofNat n) = Int32.ofNat (min n 60) := by
    have l : ((60 : Int32) < Int32.ofNat n) = (60 < n) := nn_lt (a := 60) (b := n) (by decide) (by omega)
    by_cases c : 60 < n
    · rw [if_pos (by rw [l]; exact c), Nat.min_eq_right (by omega)]
      rfl
    · rw [if_neg (by rw [l]; exact c), Nat.min_eq_left (by omega)]
  have b0 : (62 ≤ 10000000) = True := eq_true (by omega)
  have b1 : (12 * (min n 60 + 3) ≤ 10000000) = True := eq_true (by omega)
  have c62 : (62 : Int32).toNatClampNeg = 62 := by decide
  have p62 : ((0 : Int32) ≤ 62) = True := by decide
  have y0 : (Y = mh_n h) = False := eq_false (by omega)
  have yT : (T = Y) = False := eq_false hYT
  have y6 : (Y = mh_n h + 6) = False := eq_false (by omega)
  unfold paH gL
  simp (disch := omega) only [s_43_0, s_43_1, s_43_4, s_43_5, s_43_6, s_43_9, s_43_10, s_43_12, s_43_14, s_43_14n, s_43_17, s_43_18, s_43_19, s_43_19n, s_43_22, s_43_23, s_43_24, s_43_24n, s_43_27, s_43_28, s_43_31, s_43_32, s_43_33, s_43_36, s_43_36n, s_43_39, s_43_40, s_43_42, s_43_43, s_43_46, s_43_47, s_43_49, s_43_52, s_43_53, s_43_54, s_43_55, s_43_57, s_43_57n, s_43_60, e_43, mv_i_1, mv_l_1, mv_a_1, mv_a_2, mv_a_3, mk2_n, mk2_i, mk2_l, mk2_a, mk2_u, mk2_x, mB_T, mB_F, mS_cons, mS_nil, mSB_T, mSB_F, mca_nil, mca_i, mca_l, mca_r, mca_u, mca_x, mcat_i, mcat_l, mcat_r, mcat_u, mcat_x, mK_some, mK_none, va_rf_s, va_rf_n, lgc_eq, lgc_lt, lgc_gt, lgc_ge, lgc_le, mrd_104, mrd_105, mrd_106, mrd_107, true_and, and_true, and_self, false_and, and_false, true_or, or_true, false_or, or_false, not_true_eq_false, not_false_eq_true, mgb, mga, mgr, mN, reduceCtorEq, ↓reduceIte, eq_self, ge_iff_le, gt_iff_lt, hk_si, hk_sj, hk_sr, hl_si, hl_sj, hl_sr, hn_si, hn_sj, hn_sr, hs_si, hs_sj, hs_sr, hi_sj, hi_sr, hj_si, hj_sr, hr_si, hr_sj, hi_si, hj_sj, hr_sr, mg_si, mg_sj, mg_sr, Nat.reduceAdd, Nat.reduceMul, Nat.reduceSub, Nat.reduceLT, Nat.reduceGT, Nat.reduceEqDiff, Nat.reduceLeDiff, Nat.left_eq_add, Nat.add_eq_left, Nat.reduceMod, Nat.reduceDiv, Nat.succ_ne_self, hk_new, hl_new, hr_nw, hn_new, mg_new, hk_cp, hl_cp, hr_cp, hn_cp, mg_cp, nn_clamp, nn_ge, Nat.add_assoc, gY, b0, b1, c62, p62, y0, y6, yT, Nat.reduceAdd, ← e2, a0, s1, sY, sT, sr, sX1, sX2, xx, mi, e3', m12']
theorem tk_A (A : ADD W h h' N l) (hb : N ≤ mh_n h') (w : ∀ j, W (mh_n h') j) : ADD W h (tknH h' Y a n) N (l ++ [(102, n)] ++ [(100, n + 1)] ++ [(100, n + 1)] ++ [(100, n + 1)]) := ADD_sr (ADD_new (ADD_sr (ADD_new (ADD_sr (ADD_new (ADD_sr (ADD_cp (ADD_new (A)) hb w)))))))
theorem so_A (A : ADD W h h' N l) : ADD W h (soH h' Y n) N (l ++ [(100, 3 * n + 3)] ++ [(100, n + 1)] ++ [(100, n + 1)] ++ [(100, n + 1)] ++ [(100, n + 2)] ++ [(100, n + 2)] ++ [(100, n + 1)] ++ [(100, n + 1)] ++ [(105, n / 3 + 2)] ++ [(100, 6 * (n / 9 + 2))]) := ADD_sr (ADD_new (ADD_sr (ADD_new (ADD_sr (ADD_new (ADD_sr (ADD_new (ADD_sr (ADD_new (ADD_sr (ADD_new (ADD_sr (ADD_new (ADD_sr (ADD_new (ADD_sr (ADD_new (ADD_sr (ADD_new (A))))))))))))))))))))
theorem pa_A {S : Nat} (A : ADD W h h' N l) (hb : N ≤ Y) (w : W Y 7) : ADD W h (paH h' Y T S n) N (l ++ [(100, 62)] ++ [(6, 9)] ++ [(100, 62)] ++ [(100, n / 2 + 1)] ++ [(100, n / 2 + 1)] ++ [(100, n / 2 + 1)] ++ [(100, gL n)]) := ADD_sr (ADD_new (ADD_sr (sc_A (ADD_new (ADD_sr (ADD_sr (ADD_sr (ADD_new (ADD_si A hb w)))))))))
theorem tk_r {b j : Nat} (hb : b < mh_n h) (hY : b ≠ Y) : mh_r (tknH h Y a n) b j = mh_r h b j := by
  unfold tknH
  rw [sr_o hY, rn_o (by show b < mh_n h + 1 + 1 + 1; omega), sr_o hY, rn_o (by show b < mh_n h + 1 + 1; omega), sr_o hY, rn_o (by show b < mh_n h + 1; omega), sr_o hY, hr_cp, rn_o (by show b < mh_n h; omega)]
theorem so_r {b j : Nat} (hb : b < mh_n h) (hY : b ≠ Y) : mh_r (soH h Y n) b j = mh_r h b j := by
  unfold soH
  rw [sr_o hY, rn_o (by show b < mh_n h + 1 + 1 + 1 + 1 + 1 + 1 + 1 + 1 + 1; omega), sr_o hY, rn_o (by show b < mh_n h + 1 + 1 + 1 + 1 + 1 + 1 + 1 + 1; omega), sr_o hY, rn_o (by show b < mh_n h + 1 + 1 + 1 + 1 + 1 + 1 + 1; omega), sr_o hY, rn_o (by show b < mh_n h + 1 + 1 + 1 + 1 + 1 + 1; omega), sr_o hY, rn_o (by show b < mh_n h + 1 + 1 + 1 + 1 + 1; omega), sr_o hY, rn_o (by show b < mh_n h + 1 + 1 + 1 + 1; omega), sr_o hY, rn_o (by show b < mh_n h + 1 + 1 + 1; omega), sr_o hY, rn_o (by show b < mh_n h + 1 + 1; omega), sr_o hY, rn_o (by show b < mh_n h + 1; omega), sr_o hY, rn_o (by show b < mh_n h; omega)]
theorem tk_f (hY : Y < mh_n h) : mh_r (tknH h Y a n) Y 0 = some (mh_n h) ∧ mh_r (tknH h Y a n) Y 1 = some (mh_n h + 1) ∧ mh_r (tknH h Y a n) Y 2 = some (mh_n h + 2) ∧ mh_r (tknH h Y a n) Y 3 = some (mh_n h + 3) := by
  have y0 : ¬ Y = mh_n h := by omega
  have y1 : ¬ Y = mh_n h + 1 := by omega
  have y2 : ¬ Y = mh_n h + 2 := by omega
  have y3 : ¬ Y = mh_n h + 3 := by omega
  unfold tknH
  refine ⟨?_, ?_, ?_, ?_⟩ <;> simp only [hr_sr, hr_nw, hr_cp, hn_sr, hn_new, hn_cp, hr_si, hn_si, if_true, if_false, true_and, and_true, and_self, and_false, Nat.reduceEqDiff, reduceCtorEq, ↓reduceIte, Nat.reduceAdd, Nat.add_assoc, y0, y1, y2, y3]
theorem so_f (hY : Y < mh_n h) : mh_r (soH h Y n) Y 0 = some (mh_n h) ∧ mh_r (soH h Y n) Y 2 = some (mh_n h + 1) ∧ mh_r (soH h Y n) Y 3 = some (mh_n h + 2) ∧ mh_r (soH h Y n) Y 4 = some (mh_n h + 3) ∧ mh_r (soH h Y n) Y 6 = some (mh_n h + 4) ∧ mh_r (soH h Y n) Y 7 = some (mh_n h + 5) ∧ mh_r (soH h Y n) Y 9 = some (mh_n h + 6) ∧ mh_r (soH h Y n) Y 10 = some (mh_n h + 7) ∧ mh_r (soH h Y n) Y 12 = some (mh_n h + 8) ∧ mh_r (soH h Y n) Y 14 = some (mh_n h + 9) := by
  have y0 : ¬ Y = mh_n h := by omega
  have y1 : ¬ Y = mh_n h + 1 := by omega
  have y2 : ¬ Y = mh_n h + 2 := by omega
  have y3 : ¬ Y = mh_n h + 3 := by omega
  have y4 : ¬ Y = mh_n h + 4 := by omega
  have y5 : ¬ Y = mh_n h + 5 := by omega
  have y6 : ¬ Y = mh_n h + 6 := by omega
  have y7 : ¬ Y = mh_n h + 7 := by omega
  have y8 : ¬ Y = mh_n h + 8 := by omega
  have y9 : ¬ Y = mh_n h + 9 := by omega
  unfold soH
  refine ⟨?_, ?_, ?_, ?_, ?_, ?_, ?_, ?_, ?_, ?_⟩ <;> simp only [hr_sr, hr_nw, hr_cp, hn_sr, hn_new, hn_cp, hr_si, hn_si, if_true, if_false, true_and, and_true, and_self, and_false, Nat.reduceEqDiff, reduceCtorEq, ↓reduceIte, Nat.reduceAdd, Nat.add_assoc, y0, y1, y2, y3, y4, y5, y6, y7, y8, y9]
end ADs
