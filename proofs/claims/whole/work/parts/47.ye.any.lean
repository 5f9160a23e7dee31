set_option maxRecDepth 100000
/-! the reference's step: any statement -/
/-- a point in the reference's rows -/
def RPT (h : mh_H) (p : Nat) (sN : Int → Prop) (en aR : Int → Nat) (n a : Nat) (rm : Nat → Nat) (cc : Nat) (t : tr) (x : Nat) (tk : Option Nat) (cnt f1 o1 : Nat) : Prop := ∃ k zk bh m, mh_i h 100 p = Int32.ofNat k ∧ mh_i h 97 k = Int32.ofNat zk ∧ k + zk ≤ 26000 ∧ k < 26000 ∧ afr h cnt m p bh ∧ mh_i h 103 p = Int32.ofNat n ∧ mh_i h 104 p = Int32.ofNat a ∧ xA aR en rm t ∧
  (cc = 1 → f1 = bh ∧ mh_i h 93 k = 3 ∧ (mh_i h 97 k = 2) = False ∧ mh_i h 97 (k + 1) = Int32.ofNat 1 ∧ nd (mh_i h 93) (mh_i h 95) (mh_i h 97) (k + 2) t ∧ k + 2 + ts t ≤ 26000 ∧ n < 12) ∧
  (cc = 2 → f1 = bh ∧ mh_i h 93 k = 3 ∧ mh_i h 97 k = 2 ∧ n < 12) ∧
  (cc = 3 → f1 = bh ∧ mh_i h 93 k = 4 ∧ a < 6) ∧
  (cc = 4 → f1 = bh ∧ mh_i h 93 k = 5 ∧ mh_i h 97 (k + 1) = Int32.ofNat 1 ∧ sN (mh_i h 95 (k + 1)).toInt ∧ en (mh_i h 95 (k + 1)).toInt = x ∧ x < 12 ∧ nd (mh_i h 93) (mh_i h 95) (mh_i h 97) (k + 2) t ∧ k + 2 + ts t ≤ 26000) ∧
  (cc = 5 → f1 = bh ∧ mh_i h 93 k = 6 ∧ mh_i h 97 (k + 1) = Int32.ofNat 1 ∧ sN (mh_i h 95 (k + 1)).toInt ∧ en (mh_i h 95 (k + 1)).toInt = x ∧ x < 6 ∧ aR (mh_i h 95 (k + 1)).toInt = rm x ∧ rm x ≤ 64 ∧ nd (mh_i h 93) (mh_i h 95) (mh_i h 97) (k + 2) t ∧ k + 2 + ts t ≤ 26000) ∧
  (cc = 6 → mh_i h 93 k = 7 ∧ k + 3 + ts t = k + zk ∧ n + tl t ≤ 12 ∧ nd (mh_i h 93) (mh_i h 95) (mh_i h 97) (k + 3) t ∧ ∃ E, mh_i h 102 p = Int32.ofNat E ∧ E ≤ 250 ∧ f1 = if p + 1 < E then p + 1 else bh) ∧
  (cc = 7 → nd (mh_i h 93) (mh_i h 95) (mh_i h 97) (k + 1) t ∧ k + 1 + ts t ≤ 26000 ∧ ∃ z1 zb b, mh_i h 97 (k + 1) = Int32.ofNat z1 ∧ k + 1 + z1 = b ∧ mh_i h 97 b = Int32.ofNat zb ∧ b < 26000 ∧ zb ≤ 26000 ∧ ((mh_i h 93 k = 9 ∧ o1 = bh ∧ f1 = if 1 < zb then p + 1 else p) ∨ (mh_i h 93 k = 8 ∧ b + zb ≤ k + zk ∧ f1 = (if 1 < zb then p + 1 else bh) ∧ ∃ ze, (b + zb < k + zk → mh_i h 97 (b + zb) = Int32.ofNat ze ∧ ze ≤ 26000) ∧ (¬ (b + zb < k + zk ∧ 1 < ze) → o1 = bh) ∧ (b + zb < k + zk ∧ 1 < ze → obF h p o1)))) ∧
  (cc = 8 → f1 = bh ∧ mh_i h 93 k = 10 ∧ nd (mh_i h 93) (mh_i h 95) (mh_i h 97) (k + 1) t ∧ k + 1 + ts t ≤ 26000) ∧
  (cc = 9 → f1 = bh ∧ mh_i h 93 k = 11 ∧ glF h p tk ∧ (∀ y, tk = some y → y < 12) ∧ nd (mh_i h 93) (mh_i h 95) (mh_i h 97) (k + 1) t ∧ k + 1 + ts t ≤ 26000)
section UYs
variable {d : Nat} {h h1 : mh_H} {p gv c n a cnt f1 o1 x cc : Nat} {sN : Int → Prop} {en aR : Int → Nat} {t : tr} {rm : Nat → Nat} {tk : Option Nat}
theorem u_364 (hA : n ≤ 12 ∧ a ≤ 6) (R : RRU h p gv sN en aR) (c33 : mh_i h 81 33 = Int32.ofNat cnt) (hc : 1 ≤ cnt ∧ cnt ≤ 250) (hcc : 1 ≤ cc ∧ cc ≤ 9) (w : wT cc sN en (A0 n a rm) t) (W : RPT h p sN en aR n a rm cc t x tk cnt f1 o1) (hd : 2 * th t + 5 ≤ d) (e8 : mh_i h 81 68 = 0) (e7 : mh_i h 81 67 = Int32.ofNat c) (hb : c + 60000 < 1000000000) : ∃ h' r, UST (s_st en t x tk n a rm (mh_i h 2639) gv (mh_i h 2640) (mh_i h 2641) c cc) h h' ∧ ((s_st en t x tk n a rm (mh_i h 2639) gv (mh_i h 2640) (mh_i h 2641) c cc).w = 0 → r = Int32.ofNat (if (s_st en t x tk n a rm (mh_i h 2639) gv (mh_i h 2640) (mh_i h 2641) c cc).b = true then f1 else o1)) ∧ ∀ Q, mcall (d + 1) 364 [.ref 81] h Q = Q (some (.int r)) h' := by
  obtain ⟨k, zk, bh, m, i100, hzk, kz, hk, af, i103, i104, xa, W1, W2, W3, W4, W5, W6, W7, W8, W9⟩ := W
  obtain ⟨w1, w5, w6, w7⟩ := w
  have A5 := af_D R.F c33 hc af
  have hA' : (A0 n a rm).n ≤ 12 ∧ (A0 n a rm).a ≤ 6 := hA
  have aRm : (A0 n a rm).rm = rm := rfl
  obtain ⟨d', ed⟩ : ∃ d', d = d' + 1 := ⟨d - 1, by omega⟩
  have c9 : cc = 1 ∨ cc = 2 ∨ cc = 3 ∨ cc = 4 ∨ cc = 5 ∨ cc = 6 ∨ cc = 7 ∨ cc = 8 ∨ cc = 9 := by omega
  have B1 : ∀ k', ¬ k' = 7 → (s_st en t x tk n a rm (mh_i h 2639) gv (mh_i h 2640) (mh_i h 2641) c k').b = true := fun k' e => s_st_b e
  rcases c9 with e | e | e | e | e | e | e | e | e <;> subst e
  · obtain ⟨ef, b1, b2, b3, b4, b5, b6⟩ := W1 rfl
    obtain ⟨h', o, run⟩ := u_3a (d := d) (bh := bh) hA' R i100 b1 b2 b3 b4 (w1 (by omega)) xa b5 (by omega) e8 e7 (by omega) i103 b6 A5
    rw [B1 1 (by omega), if_pos rfl, ef]
    exact ⟨h', _, o, fun _ => rfl, run⟩
  · obtain ⟨ef, b1, b2, b3⟩ := W2 rfl
    obtain ⟨h', o, run⟩ := u_3b (d := d') (bh := bh) R i100 hk b1 b2 e8 e7 i103 b3 A5
    rw [B1 2 (by omega), if_pos rfl, ef, ed]
    exact ⟨h', _, o, fun _ => rfl, run⟩
  · obtain ⟨ef, b1, b2⟩ := W3 rfl
    obtain ⟨h', o, run⟩ := u_4 (d := d') (bh := bh) R i100 hk b1 e8 e7 i104 b2 A5
    rw [B1 3 (by omega), if_pos rfl, ef, ed]
    exact ⟨h', _, o, fun _ => rfl, run⟩
  · obtain ⟨ef, b1, b2, b3, b4, b5, b6, b7⟩ := W4 rfl
    obtain ⟨h', o, run⟩ := u_5 (d := d) (bh := bh) hA' R i100 b1 b2 b3 b4 b5 b6 (w1 (by omega)) xa b7 (by omega) e8 e7 (by omega) A5
    rw [B1 4 (by omega), if_pos rfl, ef]
    exact ⟨h', _, o, fun _ => rfl, run⟩
  · obtain ⟨ef, b1, b2, b3, b4, b5, b6, b7, b8, b9⟩ := W5 rfl
    obtain ⟨h', o, run⟩ := u_6 (d := d) (bh := bh) hA' R i100 b1 b2 b3 b4 b5 b6 b7 b8 (w5 rfl).1 (w5 rfl).2 xa b9 (by omega) e8 e7 (by omega) A5
    rw [B1 5 (by omega), if_pos rfl, ef]
    exact ⟨h', _, o, fun _ => rfl, run⟩
  · obtain ⟨b1, b2, b3, b4, E, b5, b6, ef⟩ := W6 rfl
    obtain ⟨h', o, run⟩ := u_7 (d := d) (bh := bh) (f1 := f1) hA' R i100 b1 hzk kz b2 i103 b3 b5 b6 ef b4 (w6 rfl) xa (by omega) e8 e7 (by omega) A5
    rw [B1 6 (by omega), if_pos rfl]
    exact ⟨h', _, o, fun _ => rfl, run⟩
  · obtain ⟨b1, b2, z1, zb, b, b3, b4, b5, b6, b7, b8⟩ := W7 rfl
    have key : ∀ h' r, UST (s_y (mh_i h 2640) (mh_i h 2641) (xh en (mh_i h 2640) (mh_i h 2641) rm (mh_i h 2639) gv t false false c) (fun b c' => (0, c', mh_i h 2640, mh_i h 2641, b))) h h' → (∀ bb, (xh en (mh_i h 2640) (mh_i h 2641) rm (mh_i h 2639) gv t false false c).1 = some bb → r = Int32.ofNat (if bb = true then f1 else o1)) → (∀ Q, mcall (d + 1) 364 [.ref 81] h Q = Q (some (.int r)) h') → ∃ h' r, UST (s_st en t x tk n a rm (mh_i h 2639) gv (mh_i h 2640) (mh_i h 2641) c 7) h h' ∧ ((s_st en t x tk n a rm (mh_i h 2639) gv (mh_i h 2640) (mh_i h 2641) c 7).w = 0 → r = Int32.ofNat (if (s_st en t x tk n a rm (mh_i h 2639) gv (mh_i h 2640) (mh_i h 2641) c 7).b = true then f1 else o1)) ∧ ∀ Q, mcall (d + 1) 364 [.ref 81] h Q = Q (some (.int r)) h' := fun h' r o hr run => by
      rw [sst_7]
      refine ⟨h', r, o, fun z => ?_, run⟩
      have xw := xh_w (en := en) (V := mh_i h 2640) (P := mh_i h 2641) (rm := rm) (N := mh_i h 2639) (g := gv) t false false c
      obtain ⟨q, eq⟩ : ∃ q, xh en (mh_i h 2640) (mh_i h 2641) rm (mh_i h 2639) gv t false false c = q := ⟨_, rfl⟩
      rw [eq] at z hr xw ⊢
      unfold s_y at z ⊢
      cases hq : q.1 with
      | none =>
        rw [hq] at z
        exact absurd z (xw hq)
      | some bb => exact hr bb hq
    rcases b8 with ⟨c1, c2, c3⟩ | ⟨c1, c2, c3, ze, c4, c5, c6⟩
    · obtain ⟨h', r, o, hr, run⟩ := u_9 (d := d) (bh := bh) (f1 := f1) hA' R i100 c1 b3 b4 b5 b6 b7 c3 b1 (w7 (Or.inl rfl)) xa b2 (by omega) e8 e7 (by omega) A5
      rw [aRm] at o hr
      exact key h' r o (by rw [c2]; exact hr) run
    · obtain ⟨h', r, o, hr, run⟩ := u_8 (d := d) (bh := bh) (f1 := f1) (o1 := o1) hA' R i100 c1 b3 b4 b5 hzk kz b6 c2 c4 c3 c5 c6 b1 (w7 (Or.inl rfl)) xa b2 (by omega) e8 e7 (by omega) A5
      rw [aRm] at o hr
      exact key h' r o hr run
  · obtain ⟨ef, b1, b2, b3⟩ := W8 rfl
    obtain ⟨h', o, run⟩ := u_10 (d := d) (bh := bh) hA' R i100 b1 b2 (w7 (Or.inr rfl)) xa b3 (by omega) e8 e7 (by omega) A5
    rw [B1 8 (by omega), if_pos rfl, ef]
    exact ⟨h', _, o, fun _ => rfl, run⟩
  · obtain ⟨ef, b1, b2, b3, b4, b5⟩ := W9 rfl
    obtain ⟨h', o, run⟩ := u_11 (d := d) (bh := bh) hA' R i100 b1 b3 b2 b4 (w1 (by omega)) xa b5 (by omega) e8 e7 (by omega) A5
    rw [B1 9 (by omega), if_pos rfl, ef]
    exact ⟨h', _, o, fun _ => rfl, run⟩
/-- isOutside -/
theorem u_367 (F : RF h) (hp : p < 250) (f64 : mh_i h 81 64 = Int32.ofNat p) {tru : Bool} (f55 : mh_i h 81 55 = kb tru) {X Z : Option ab} (kX : RK h (132 + 10 * p) X) (kZ : RK h (137 + 10 * p) Z) (sX : shp n a rm X) (sZ : shp n a rm Z) (hr : ∀ y, y < a → rm y ≤ 64) : ∃ b : Bool, (b = false ↔ (o_has X (mh_i h 2640) (mh_i h 2641) ∧ (tru = true → o_has Z (mh_i h 2640) (mh_i h 2641)))) ∧ ∀ Q, mcall (d + 2) 367 [.ref 81] h Q = Q (some (.int (kb b))) h := by
  have g := F.g 81 14 70 (by decide +kernel)
  have t52 := F.f 81 52 115 (by decide +kernel)
  have g5 := F.g 115 12 38 (by decide +kernel)
  have t4 := F.f 115 4 116 (by decide +kernel)
  have t5 := F.f 115 5 117 (by decide +kernel)
  have g6 := (F.g 116 106 250 (by decide +kernel)).1
  have g6' := (F.g 116 106 250 (by decide +kernel)).2
  have l6 := F.l 116 106 250 (by decide +kernel)
  have g7 := (F.g 117 106 250 (by decide +kernel)).1
  have g7' := (F.g 117 106 250 (by decide +kernel)).2
  have l7 := F.l 117 106 250 (by decide +kernel)
  have r61 := F.f 81 61 2640 (by decide +kernel)
  have r62 := F.f 81 62 2641 (by decide +kernel)
  have g40 := F.g 2640 100 12 (by decide +kernel)
  have g41 := F.g 2641 100 384 (by decide +kernel)
  have ri1 : ri h 2640 12 := ⟨g40, F.l 2640 100 12 (by decide +kernel)⟩
  have ri2 : ri h 2641 384 := ⟨g41, F.l 2641 100 384 (by decide +kernel)⟩
  obtain ⟨-, -, p3, p4⟩ := F.p p hp
  have key : ∀ (o : Nat) (W : Option ab), RK h o W → shp n a rm W → ∃ x : Int32, mg h o 13 ∧ (x = 0 ∨ x = 1) ∧ (x = 1 ↔ o_has W (mh_i h 2640) (mh_i h 2641)) ∧ ∀ Q, mcall (d + 1) 297 [.ref o, .ref 2640, .ref 2641] h Q = Q (some (.int x)) h := fun o W r s => by
    have gO := (RK_ko r).1
    cases W with
    | none => exact ⟨0, gO, Or.inl rfl, ⟨fun z => absurd z (by decide), fun z => z.elim⟩, k_297n r⟩
    | some A =>
      obtain ⟨T, s1, s2, s3⟩ := s A rfl
      obtain ⟨x, x1, x2, run⟩ := k_297 (d := d) r ri1 ri2 (fun y hy => by rw [s3 y (by omega)]; exact hr y (by omega))
      exact ⟨x, gO, x1, x2, run⟩
  obtain ⟨x1, gO1, a1, a2, c1⟩ := key _ X kX sX
  obtain ⟨x2, gO2, b1, b2, c2⟩ := key _ Z kZ sZ
  have e00 : ((0 : Int32) = 0) = True := by decide
  have e10 : ((1 : Int32) = 0) = False := by decide
  have o01 : ((0 : Int32) = 0 ∨ (0 : Int32) = 1) = True := by decide
  have o11 : ((1 : Int32) = 0 ∨ (1 : Int32) = 1) = True := by decide
  rcases a1 with a1 | a1
  · have nX : ¬ o_has X (mh_i h 2640) (mh_i h 2641) := fun z => absurd (a2.mpr z) (by rw [a1]; decide)
    subst a1
    refine ⟨true, ⟨fun z => (by cases z), fun z => absurd z.1 nX⟩, fun Q => ?_⟩
    clear F key kX kZ sX sZ a2 b2 nX
    simp (disch := omega) only [s_367_0, s_367_1, s_367_4, s_367_7, s_367_8, s_367_11, s_367_12, s_367_13, s_367_16, s_367_17, s_367_20, s_367_23, s_367_26, s_367_27, s_367_30, s_367_33, s_367_34, s_367_37, s_367_40, s_367_41, s_367_44, s_367_45, s_367_46, s_367_49, s_367_50, s_367_53, s_367_56, s_367_59, s_367_60, s_367_63, s_367_64, e_367, mv_i_1, mv_l_1, mv_a_1, mv_a_2, mv_a_3, mk2_n, mk2_i, mk2_l, mk2_a, mk2_u, mk2_x, mB_T, mB_F, mS_cons, mS_nil, mSB_T, mSB_F, mca_nil, mca_i, mca_l, mca_r, mca_u, mca_x, mcat_i, mcat_l, mcat_r, mcat_u, mcat_x, mK_some, mK_none, va_rf_s, va_rf_n, lgc_eq, lgc_lt, lgc_gt, lgc_ge, lgc_le, mrd_104, mrd_105, mrd_106, mrd_107, true_and, and_true, and_self, false_and, and_false, true_or, or_true, false_or, or_false, not_true_eq_false, not_false_eq_true, mgb, mga, mgr, mN, reduceCtorEq, ↓reduceIte, eq_self, ge_iff_le, gt_iff_lt, hk_si, hk_sj, hk_sr, hl_si, hl_sj, hl_sr, hn_si, hn_sj, hn_sr, hs_si, hs_sj, hs_sr, hi_sj, hi_sr, hj_si, hj_sr, hr_si, hr_sj, hi_si, hj_sj, hr_sr, mg_si, mg_sj, mg_sr, Nat.reduceAdd, Nat.reduceMul, Nat.reduceSub, Nat.reduceLT, Nat.reduceGT, Nat.reduceEqDiff, Nat.reduceLeDiff, Nat.left_eq_add, Nat.add_eq_left, Nat.reduceMod, Nat.reduceDiv, Nat.succ_ne_self, g, t52, g5, t4, g6, g6', l6, f64, p3, gO1, r61, r62, g40, g41, c1, e00, kbT, o11, nn_mxT, nn_clamp]
  · have hX := a2.mp a1
    subst a1
    cases tru with
    | false =>
      have f55' : mh_i h 81 55 = 0 := f55
      refine ⟨false, ⟨fun _ => ⟨hX, fun z => by cases z⟩, fun _ => rfl⟩, fun Q => ?_⟩
      clear F key kX kZ sX sZ a2 b2 hX
      simp (disch := omega) only [s_367_0, s_367_1, s_367_4, s_367_7, s_367_8, s_367_11, s_367_12, s_367_13, s_367_16, s_367_17, s_367_20, s_367_23, s_367_26, s_367_27, s_367_30, s_367_33, s_367_34, s_367_37, s_367_40, s_367_41, s_367_44, s_367_45, s_367_46, s_367_49, s_367_50, s_367_53, s_367_56, s_367_59, s_367_60, s_367_63, s_367_64, e_367, mv_i_1, mv_l_1, mv_a_1, mv_a_2, mv_a_3, mk2_n, mk2_i, mk2_l, mk2_a, mk2_u, mk2_x, mB_T, mB_F, mS_cons, mS_nil, mSB_T, mSB_F, mca_nil, mca_i, mca_l, mca_r, mca_u, mca_x, mcat_i, mcat_l, mcat_r, mcat_u, mcat_x, mK_some, mK_none, va_rf_s, va_rf_n, lgc_eq, lgc_lt, lgc_gt, lgc_ge, lgc_le, mrd_104, mrd_105, mrd_106, mrd_107, true_and, and_true, and_self, false_and, and_false, true_or, or_true, false_or, or_false, not_true_eq_false, not_false_eq_true, mgb, mga, mgr, mN, reduceCtorEq, ↓reduceIte, eq_self, ge_iff_le, gt_iff_lt, hk_si, hk_sj, hk_sr, hl_si, hl_sj, hl_sr, hn_si, hn_sj, hn_sr, hs_si, hs_sj, hs_sr, hi_sj, hi_sr, hj_si, hj_sr, hr_si, hr_sj, hi_si, hj_sj, hr_sr, mg_si, mg_sj, mg_sr, Nat.reduceAdd, Nat.reduceMul, Nat.reduceSub, Nat.reduceLT, Nat.reduceGT, Nat.reduceEqDiff, Nat.reduceLeDiff, Nat.left_eq_add, Nat.add_eq_left, Nat.reduceMod, Nat.reduceDiv, Nat.succ_ne_self, g, t52, g5, t4, g6, g6', l6, f64, p3, gO1, r61, r62, g40, g41, c1, e00, e10, f55', kbF, o01, nn_mxT, nn_clamp]
    | true =>
      have f55' : mh_i h 81 55 = 1 := f55
      rcases b1 with b1 | b1
      · have nZ : ¬ o_has Z (mh_i h 2640) (mh_i h 2641) := fun z => absurd (b2.mpr z) (by rw [b1]; decide)
        subst b1
        refine ⟨true, ⟨fun z => (by cases z), fun z => absurd (z.2 rfl) nZ⟩, fun Q => ?_⟩
        clear F key kX kZ sX sZ a2 b2 hX nZ
        simp (disch := omega) only [s_367_0, s_367_1, s_367_4, s_367_7, s_367_8, s_367_11, s_367_12, s_367_13, s_367_16, s_367_17, s_367_20, s_367_23, s_367_26, s_367_27, s_367_30, s_367_33, s_367_34, s_367_37, s_367_40, s_367_41, s_367_44, s_367_45, s_367_46, s_367_49, s_367_50, s_367_53, s_367_56, s_367_59, s_367_60, s_367_63, s_367_64, e_367, mv_i_1, mv_l_1, mv_a_1, mv_a_2, mv_a_3, mk2_n, mk2_i, mk2_l, mk2_a, mk2_u, mk2_x, mB_T, mB_F, mS_cons, mS_nil, mSB_T, mSB_F, mca_nil, mca_i, mca_l, mca_r, mca_u, mca_x, mcat_i, mcat_l, mcat_r, mcat_u, mcat_x, mK_some, mK_none, va_rf_s, va_rf_n, lgc_eq, lgc_lt, lgc_gt, lgc_ge, lgc_le, mrd_104, mrd_105, mrd_106, mrd_107, true_and, and_true, and_self, false_and, and_false, true_or, or_true, false_or, or_false, not_true_eq_false, not_false_eq_true, mgb, mga, mgr, mN, reduceCtorEq, ↓reduceIte, eq_self, ge_iff_le, gt_iff_lt, hk_si, hk_sj, hk_sr, hl_si, hl_sj, hl_sr, hn_si, hn_sj, hn_sr, hs_si, hs_sj, hs_sr, hi_sj, hi_sr, hj_si, hj_sr, hr_si, hr_sj, hi_si, hj_sj, hr_sr, mg_si, mg_sj, mg_sr, Nat.reduceAdd, Nat.reduceMul, Nat.reduceSub, Nat.reduceLT, Nat.reduceGT, Nat.reduceEqDiff, Nat.reduceLeDiff, Nat.left_eq_add, Nat.add_eq_left, Nat.reduceMod, Nat.reduceDiv, Nat.succ_ne_self, g, t52, g5, t4, t5, g6, g6', l6, g7, g7', l7, f64, p3, p4, gO1, gO2, r61, r62, g40, g41, c1, c2, e00, e10, f55', kbT, o11, nn_mxT, nn_clamp]
      · have hZ := b2.mp b1
        subst b1
        refine ⟨false, ⟨fun _ => ⟨hX, fun _ => hZ⟩, fun _ => rfl⟩, fun Q => ?_⟩
        clear F key kX kZ sX sZ a2 b2 hX hZ
        simp (disch := omega) only [s_367_0, s_367_1, s_367_4, s_367_7, s_367_8, s_367_11, s_367_12, s_367_13, s_367_16, s_367_17, s_367_20, s_367_23, s_367_26, s_367_27, s_367_30, s_367_33, s_367_34, s_367_37, s_367_40, s_367_41, s_367_44, s_367_45, s_367_46, s_367_49, s_367_50, s_367_53, s_367_56, s_367_59, s_367_60, s_367_63, s_367_64, e_367, mv_i_1, mv_l_1, mv_a_1, mv_a_2, mv_a_3, mk2_n, mk2_i, mk2_l, mk2_a, mk2_u, mk2_x, mB_T, mB_F, mS_cons, mS_nil, mSB_T, mSB_F, mca_nil, mca_i, mca_l, mca_r, mca_u, mca_x, mcat_i, mcat_l, mcat_r, mcat_u, mcat_x, mK_some, mK_none, va_rf_s, va_rf_n, lgc_eq, lgc_lt, lgc_gt, lgc_ge, lgc_le, mrd_104, mrd_105, mrd_106, mrd_107, true_and, and_true, and_self, false_and, and_false, true_or, or_true, false_or, or_false, not_true_eq_false, not_false_eq_true, mgb, mga, mgr, mN, reduceCtorEq, ↓reduceIte, eq_self, ge_iff_le, gt_iff_lt, hk_si, hk_sj, hk_sr, hl_si, hl_sj, hl_sr, hn_si, hn_sj, hn_sr, hs_si, hs_sj, hs_sr, hi_sj, hi_sr, hj_si, hj_sr, hr_si, hr_sj, hi_si, hj_sj, hr_sr, mg_si, mg_sj, mg_sr, Nat.reduceAdd, Nat.reduceMul, Nat.reduceSub, Nat.reduceLT, Nat.reduceGT, Nat.reduceEqDiff, Nat.reduceLeDiff, Nat.left_eq_add, Nat.add_eq_left, Nat.reduceMod, Nat.reduceDiv, Nat.succ_ne_self, g, t52, g5, t4, t5, g6, g6', l6, g7, g7', l7, f64, p3, p4, gO1, gO2, r61, r62, g40, g41, c1, c2, e00, e10, f55', kbF, o01, nn_mxT, nn_clamp]
end UYs
