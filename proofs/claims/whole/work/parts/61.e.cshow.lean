set_option maxRecDepth 100000
/-! THE CLASS'S show -/
def tri : Nat → Nat
  | 0 => 0
  | k + 1 => k + tri k
section LEs2
variable {d : Nat} {h0 h h1 : mh_H} {s0 TK X n p N A' : Nat} {Bt : Nat → Int32} {np ap : Nat → Nat} {L : List Int32} {A : ab} {o : Nat}
theorem t_216 (M : NMc h0 s0 TK X n Bt p np ap N A') (S : StL h0 s0 o A) (hN : A.n = N) {x y s : Nat} (hx : x < N) (hy : y < N) (hs : s < 4) (H : LNc h0 h s0 L) (mb : mbf h) (hL : L.length + 81 ≤ 24000) : ∃ h', LNc h0 h' s0 (gPr (fun x => nmX Bt n (np x)) A (2 * x + s / 2) (2 * y + s % 2) L) ∧ mbf h' ∧ ∀ Q, mw (d + 7) 216 Q 27 [some (.ref 0), some (.int (Int32.ofNat p)), some (.ref o), some (.int (Int32.ofNat x)), some (.int (Int32.ofNat y)), some (.int (Int32.ofNat s))] [] h = mw (d + 7) 216 Q 27 [some (.ref 0), some (.int (Int32.ofNat p)), some (.ref o), some (.int (Int32.ofNat x)), some (.int (Int32.ofNat y)), some (.int (Int32.ofNat (s + 1)))] [] h' := by
  have nn := M.n
  obtain ⟨h', a, b, r⟩ := w_217 (d := d) (i := 2 * x + s / 2) (j := 2 * y + s % 2) M S hN (by omega) (by omega) H mb hL
  refine ⟨h', a, b, fun Q => ?_⟩
  have z0 := fz_mg H.f M.g0
  have e1' : ∀ k, Int32.ofNat k + 1 = Int32.ofNat (k + 1) := fun k => nn_add (a := k) (b := 1)
  have e2 : ∀ k, (2 : Int32) * Int32.ofNat k = Int32.ofNat (2 * k) := fun k => nn_mul (a := 2) (b := k)
  have s2 : Int32.ofNat s / 2 = Int32.ofNat (s / 2) := nn_div (a := s) (c := 2) (by omega) (by omega)
  have sr : Int32.ofNat s - Int32.ofNat (s / 2) * 2 = Int32.ofNat (s % 2) := by rw [← s2]; exact nn_rem (a := s) (c := 2) (by omega) (by omega)
  have t2 : ((2 : Int32) = 0) = False := by decide
  have s4 : ((4 : Int32) ≤ Int32.ofNat s) = False := by rw [show (4 : Int32) = Int32.ofNat 4 from rfl, nn_le (by omega) (by omega)]; exact eq_false (by omega)
  clear H mb M S a b
  rw [s_216_27]
  simp (disch := omega) only [s_216_0, s_216_1, s_216_2, s_216_3, s_216_4, s_216_7, s_216_10, s_216_11, s_216_12, s_216_13, s_216_15, s_216_17, s_216_18, s_216_21, s_216_24, s_216_25, s_216_29, s_216_30, s_216_33, s_216_34, s_216_35, s_216_36, s_216_37, s_216_38, s_216_39, s_216_41, s_216_42, s_216_43, s_216_44, s_216_45, s_216_47, s_216_48, s_216_50, s_216_51, s_216_52, s_216_53, s_216_56, s_216_59, s_216_62, s_216_65, s_216_68, s_216_71, s_216_74, e_216, mv_i_1, mv_l_1, mv_a_1, mv_a_2, mv_a_3, mk2_n, mk2_i, mk2_l, mk2_a, mk2_u, mk2_x, mB_T, mB_F, mS_cons, mS_nil, mSB_T, mSB_F, mca_nil, mca_i, mca_l, mca_r, mca_u, mca_x, mcat_i, mcat_l, mcat_r, mcat_u, mcat_x, mK_some, mK_none, va_rf_s, va_rf_n, lgc_eq, lgc_lt, lgc_gt, lgc_ge, lgc_le, mrd_104, mrd_105, mrd_106, mrd_107, true_and, and_true, and_self, false_and, and_false, true_or, or_true, false_or, or_false, not_true_eq_false, not_false_eq_true, mgb, mga, mgr, mN, reduceCtorEq, ↓reduceIte, eq_self, ge_iff_le, gt_iff_lt, hk_si, hk_sj, hk_sr, hl_si, hl_sj, hl_sr, hn_si, hn_sj, hn_sr, hs_si, hs_sj, hs_sr, hi_sj, hi_sr, hj_si, hj_sr, hr_si, hr_sj, hi_si, hj_sj, hr_sr, mg_si, mg_sj, mg_sr, Nat.reduceAdd, Nat.reduceMul, Nat.reduceSub, Nat.reduceLT, Nat.reduceGT, Nat.reduceEqDiff, Nat.reduceLeDiff, Nat.left_eq_add, Nat.add_eq_left, Nat.reduceMod, Nat.reduceDiv, Nat.succ_ne_self, s4, e2, s2, sr, t2, nn_add, z0, r, e1']
theorem l_216y (M : NMc h0 s0 TK X n Bt p np ap N A') (S : StL h0 s0 o A) (hN : A.n = N) {x : Nat} (hx : x < N) : ∀ k y (L : List Int32) (h : mh_H) (x5 : Option Value), y + k = N → LNc h0 h s0 L → mbf h → L.length + 324 * k ≤ 24000 → ∃ h' x5', LNc h0 h' s0 (itr (gP4 (fun x => nmX Bt n (np x)) A x) k y L) ∧ mbf h' ∧ ∀ Q, mw (d + 7) 216 Q 15 [some (.ref 0), some (.int (Int32.ofNat p)), some (.ref o), some (.int (Int32.ofNat x)), some (.int (Int32.ofNat y)), x5] [] h = mw (d + 7) 216 Q 68 [some (.ref 0), some (.int (Int32.ofNat p)), some (.ref o), some (.int (Int32.ofNat x)), some (.int (Int32.ofNat N)), x5'] [] h' := by
  have e1' : ∀ k, Int32.ofNat k + 1 = Int32.ofNat (k + 1) := fun k => nn_add (a := k) (b := 1)
  have nn := M.n
  have n30 : ∀ x, (fun x => nmX Bt n (np x)) x = nmX Bt n (np x) := fun _ => rfl
  intro k
  induction k with
  | zero =>
    intro y L h x5 hy H mb _
    have r := St_l H.f S
    have gS := r.1.1
    have en := r.2.2.1
    have c' : (A.n ≤ y) = True := eq_true (by omega)
    have ey : y = N := by omega
    refine ⟨h, x5, H, mb, fun Q => ?_⟩
    rw [← ey]
    clear H mb M S r
    simp (disch := omega) only [s_216_0, s_216_1, s_216_2, s_216_3, s_216_4, s_216_7, s_216_10, s_216_11, s_216_12, s_216_13, s_216_15, s_216_17, s_216_18, s_216_21, s_216_24, s_216_25, s_216_27, s_216_29, s_216_30, s_216_33, s_216_34, s_216_35, s_216_36, s_216_37, s_216_38, s_216_39, s_216_41, s_216_42, s_216_43, s_216_44, s_216_45, s_216_47, s_216_48, s_216_50, s_216_51, s_216_52, s_216_53, s_216_56, s_216_59, s_216_62, s_216_65, s_216_71, s_216_74, e_216, mv_i_1, mv_l_1, mv_a_1, mv_a_2, mv_a_3, mk2_n, mk2_i, mk2_l, mk2_a, mk2_u, mk2_x, mB_T, mB_F, mS_cons, mS_nil, mSB_T, mSB_F, mca_nil, mca_i, mca_l, mca_r, mca_u, mca_x, mcat_i, mcat_l, mcat_r, mcat_u, mcat_x, mK_some, mK_none, va_rf_s, va_rf_n, lgc_eq, lgc_lt, lgc_gt, lgc_ge, lgc_le, mrd_104, mrd_105, mrd_106, mrd_107, true_and, and_true, and_self, false_and, and_false, true_or, or_true, false_or, or_false, not_true_eq_false, not_false_eq_true, mgb, mga, mgr, mN, reduceCtorEq, ↓reduceIte, eq_self, ge_iff_le, gt_iff_lt, hk_si, hk_sj, hk_sr, hl_si, hl_sj, hl_sr, hn_si, hn_sj, hn_sr, hs_si, hs_sj, hs_sr, hi_sj, hi_sr, hj_si, hj_sr, hr_si, hr_sj, hi_si, hj_sj, hr_sr, mg_si, mg_sj, mg_sr, Nat.reduceAdd, Nat.reduceMul, Nat.reduceSub, Nat.reduceLT, Nat.reduceGT, Nat.reduceEqDiff, Nat.reduceLeDiff, Nat.left_eq_add, Nat.add_eq_left, Nat.reduceMod, Nat.reduceDiv, Nat.succ_ne_self, gS, en, nn_le, c']
  | succ k ih =>
    intro y L h x5 hy H mb hL
    have r := St_l H.f S
    have gS := r.1.1
    have en := r.2.2.1
    have c' : (A.n ≤ y) = False := eq_false (by omega)
    have gl : ∀ i j (L : List Int32), i < 2 * N → j < 2 * N → (gPr (fun x => nmX Bt n (np x)) A i j L).length ≤ L.length + 81 := fun i j L hi hj => by
      have q1 := (M.np (i / 2) (by omega)).2.2
      have q2 := (M.np (j / 2) (by omega)).2.2
      have l1 := gr_b S.2.1 (v := i) (w := j) (by omega) (by omega)
      have a1 := nbT_len l1.1 l1.2
      have a3 := wCm_len L
      unfold gPr
      split
      · have c1 : (if i % 2 = 1 then [(45 : Int32)] else []).length ≤ 1 := by split <;> decide
        have c2 : (if j % 2 = 1 then [(32 : Int32), 45, 32] else [32, 43, 32]).length = 3 := by split <;> rfl
        simp only [List.length_append, List.length_cons, List.length_nil, c2]
        omega
      · omega
    have v0 := gl (2 * x + 0 / 2) (2 * y + 0 % 2) L (by omega) (by omega)
    obtain ⟨h1, H1, m1, r1⟩ := t_216 (d := d) (s := 0) M S hN hx (y := y) (by omega) (by omega) H mb (by omega)
    have v1 := gl (2 * x + 1 / 2) (2 * y + 1 % 2) (gPr (fun x => nmX Bt n (np x)) A (2 * x + 0 / 2) (2 * y + 0 % 2) L) (by omega) (by omega)
    obtain ⟨h2, H2, m2, r2⟩ := t_216 (d := d) (s := 1) M S hN hx (y := y) (by omega) (by omega) H1 m1 (by omega)
    have v2 := gl (2 * x + 2 / 2) (2 * y + 2 % 2) (gPr (fun x => nmX Bt n (np x)) A (2 * x + 1 / 2) (2 * y + 1 % 2) (gPr (fun x => nmX Bt n (np x)) A (2 * x + 0 / 2) (2 * y + 0 % 2) L)) (by omega) (by omega)
    obtain ⟨h3, H3, m3, r3⟩ := t_216 (d := d) (s := 2) M S hN hx (y := y) (by omega) (by omega) H2 m2 (by omega)
    have v3 := gl (2 * x + 3 / 2) (2 * y + 3 % 2) (gPr (fun x => nmX Bt n (np x)) A (2 * x + 2 / 2) (2 * y + 2 % 2) (gPr (fun x => nmX Bt n (np x)) A (2 * x + 1 / 2) (2 * y + 1 % 2) (gPr (fun x => nmX Bt n (np x)) A (2 * x + 0 / 2) (2 * y + 0 % 2) L))) (by omega) (by omega)
    obtain ⟨h4, H4, m4, r4⟩ := t_216 (d := d) (s := 3) M S hN hx (y := y) (by omega) (by omega) H3 m3 (by omega)
    obtain ⟨h5, x5', H5, m5, r5⟩ := ih (y + 1) (gP4 (fun x => nmX Bt n (np x)) A x y L) h4 (some (.int (Int32.ofNat 4))) (by omega) H4 m4 (by
      have e : (gP4 (fun x => nmX Bt n (np x)) A x y L).length ≤ L.length + 324 := by
        show (gPr (fun x => nmX Bt n (np x)) A (2 * x + 3 / 2) (2 * y + 3 % 2) (gPr (fun x => nmX Bt n (np x)) A (2 * x + 2 / 2) (2 * y + 2 % 2) (gPr (fun x => nmX Bt n (np x)) A (2 * x + 1 / 2) (2 * y + 1 % 2) (gPr (fun x => nmX Bt n (np x)) A (2 * x + 0 / 2) (2 * y + 0 % 2) L)))).length ≤ L.length + 324
        omega
      omega)
    refine ⟨h5, x5', H5, m5, fun Q => ?_⟩
    rw [← r5 Q]
    have s4 : ((4 : Int32) ≤ Int32.ofNat 4) = True := by decide
    clear ih H H1 H2 H3 H4 H5 mb m1 m2 m3 m4 m5 M S r gl v0 v1 v2 v3
    rw [s_216_15]
    simp (disch := omega) only [s_216_0, s_216_1, s_216_2, s_216_3, s_216_4, s_216_7, s_216_10, s_216_11, s_216_12, s_216_13, s_216_17, s_216_18, s_216_21, s_216_24, s_216_25, s_216_29, s_216_30, s_216_33, s_216_34, s_216_35, s_216_36, s_216_37, s_216_38, s_216_39, s_216_41, s_216_42, s_216_43, s_216_44, s_216_45, s_216_47, s_216_48, s_216_50, s_216_51, s_216_52, s_216_53, s_216_56, s_216_59, s_216_62, s_216_65, s_216_71, s_216_74, e_216, mv_i_1, mv_l_1, mv_a_1, mv_a_2, mv_a_3, mk2_n, mk2_i, mk2_l, mk2_a, mk2_u, mk2_x, mB_T, mB_F, mS_cons, mS_nil, mSB_T, mSB_F, mca_nil, mca_i, mca_l, mca_r, mca_u, mca_x, mcat_i, mcat_l, mcat_r, mcat_u, mcat_x, mK_some, mK_none, va_rf_s, va_rf_n, lgc_eq, lgc_lt, lgc_gt, lgc_ge, lgc_le, mrd_104, mrd_105, mrd_106, mrd_107, true_and, and_true, and_self, false_and, and_false, true_or, or_true, false_or, or_false, not_true_eq_false, not_false_eq_true, mgb, mga, mgr, mN, reduceCtorEq, ↓reduceIte, eq_self, ge_iff_le, gt_iff_lt, hk_si, hk_sj, hk_sr, hl_si, hl_sj, hl_sr, hn_si, hn_sj, hn_sr, hs_si, hs_sj, hs_sr, hi_sj, hi_sr, hj_si, hj_sr, hr_si, hr_sj, hi_si, hj_sj, hr_sr, mg_si, mg_sj, mg_sr, Nat.reduceAdd, Nat.reduceMul, Nat.reduceSub, Nat.reduceLT, Nat.reduceGT, Nat.reduceEqDiff, Nat.reduceLeDiff, Nat.left_eq_add, Nat.add_eq_left, Nat.reduceMod, Nat.reduceDiv, Nat.succ_ne_self, gS, en, nn_le, c']
    refine (r1 Q).trans ((r2 Q).trans ((r3 Q).trans ((r4 Q).trans ?_)))
    rw [s_216_27]
    simp (disch := omega) only [s_216_0, s_216_1, s_216_2, s_216_3, s_216_4, s_216_7, s_216_10, s_216_11, s_216_12, s_216_13, s_216_17, s_216_18, s_216_21, s_216_24, s_216_25, s_216_29, s_216_30, s_216_33, s_216_34, s_216_35, s_216_36, s_216_37, s_216_38, s_216_39, s_216_41, s_216_42, s_216_43, s_216_44, s_216_45, s_216_47, s_216_48, s_216_50, s_216_51, s_216_52, s_216_53, s_216_56, s_216_59, s_216_62, s_216_65, s_216_71, s_216_74, e_216, mv_i_1, mv_l_1, mv_a_1, mv_a_2, mv_a_3, mk2_n, mk2_i, mk2_l, mk2_a, mk2_u, mk2_x, mB_T, mB_F, mS_cons, mS_nil, mSB_T, mSB_F, mca_nil, mca_i, mca_l, mca_r, mca_u, mca_x, mcat_i, mcat_l, mcat_r, mcat_u, mcat_x, mK_some, mK_none, va_rf_s, va_rf_n, lgc_eq, lgc_lt, lgc_gt, lgc_ge, lgc_le, mrd_104, mrd_105, mrd_106, mrd_107, true_and, and_true, and_self, false_and, and_false, true_or, or_true, false_or, or_false, not_true_eq_false, not_false_eq_true, mgb, mga, mgr, mN, reduceCtorEq, ↓reduceIte, eq_self, ge_iff_le, gt_iff_lt, hk_si, hk_sj, hk_sr, hl_si, hl_sj, hl_sr, hn_si, hn_sj, hn_sr, hs_si, hs_sj, hs_sr, hi_sj, hi_sr, hj_si, hj_sr, hr_si, hr_sj, hi_si, hj_sj, hr_sr, mg_si, mg_sj, mg_sr, Nat.reduceAdd, Nat.reduceMul, Nat.reduceSub, Nat.reduceLT, Nat.reduceGT, Nat.reduceEqDiff, Nat.reduceLeDiff, Nat.left_eq_add, Nat.add_eq_left, Nat.reduceMod, Nat.reduceDiv, Nat.succ_ne_self, s4, e1']
theorem l_216x (M : NMc h0 s0 TK X n Bt p np ap N A') (S : StL h0 s0 o A) (hN : A.n = N) : ∀ k x (L : List Int32) (h : mh_H) (x4 x5 : Option Value), x + k = N → LNc h0 h s0 L → mbf h → L.length + 324 * tri k ≤ 24000 → ∃ h', LNc h0 h' s0 (itr (fun x L => itr (gP4 (fun x => nmX Bt n (np x)) A x) (N - (x + 1)) (x + 1) L) k x L) ∧ mbf h' ∧ ∀ Q, mw (d + 7) 216 Q 2 [some (.ref 0), some (.int (Int32.ofNat p)), some (.ref o), some (.int (Int32.ofNat x)), x4, x5] [] h = Q none h' := by
  have e1' : ∀ k, Int32.ofNat k + 1 = Int32.ofNat (k + 1) := fun k => nn_add (a := k) (b := 1)
  have nn := M.n
  intro k
  induction k with
  | zero =>
    intro x L h x4 x5 hx H mb _
    have r := St_l H.f S
    have gS := r.1.1
    have en := r.2.2.1
    have c' : (A.n ≤ x) = True := eq_true (by omega)
    refine ⟨h, H, mb, fun Q => ?_⟩
    clear H mb M S r
    simp (disch := omega) only [s_216_0, s_216_1, s_216_2, s_216_3, s_216_4, s_216_7, s_216_10, s_216_11, s_216_12, s_216_13, s_216_15, s_216_17, s_216_18, s_216_21, s_216_24, s_216_25, s_216_27, s_216_29, s_216_30, s_216_33, s_216_34, s_216_35, s_216_36, s_216_37, s_216_38, s_216_39, s_216_41, s_216_42, s_216_43, s_216_44, s_216_45, s_216_47, s_216_48, s_216_50, s_216_51, s_216_52, s_216_53, s_216_56, s_216_59, s_216_62, s_216_65, s_216_68, s_216_71, s_216_74, e_216, mv_i_1, mv_l_1, mv_a_1, mv_a_2, mv_a_3, mk2_n, mk2_i, mk2_l, mk2_a, mk2_u, mk2_x, mB_T, mB_F, mS_cons, mS_nil, mSB_T, mSB_F, mca_nil, mca_i, mca_l, mca_r, mca_u, mca_x, mcat_i, mcat_l, mcat_r, mcat_u, mcat_x, mK_some, mK_none, va_rf_s, va_rf_n, lgc_eq, lgc_lt, lgc_gt, lgc_ge, lgc_le, mrd_104, mrd_105, mrd_106, mrd_107, true_and, and_true, and_self, false_and, and_false, true_or, or_true, false_or, or_false, not_true_eq_false, not_false_eq_true, mgb, mga, mgr, mN, reduceCtorEq, ↓reduceIte, eq_self, ge_iff_le, gt_iff_lt, hk_si, hk_sj, hk_sr, hl_si, hl_sj, hl_sr, hn_si, hn_sj, hn_sr, hs_si, hs_sj, hs_sr, hi_sj, hi_sr, hj_si, hj_sr, hr_si, hr_sj, hi_si, hj_sj, hr_sr, mg_si, mg_sj, mg_sr, Nat.reduceAdd, Nat.reduceMul, Nat.reduceSub, Nat.reduceLT, Nat.reduceGT, Nat.reduceEqDiff, Nat.reduceLeDiff, Nat.left_eq_add, Nat.add_eq_left, Nat.reduceMod, Nat.reduceDiv, Nat.succ_ne_self, gS, en, nn_le, c']
  | succ k ih =>
    intro x L h x4 x5 hx H mb hL
    have r := St_l H.f S
    have gS := r.1.1
    have en := r.2.2.1
    have c' : (A.n ≤ x) = False := eq_false (by omega)
    have ek : N - (x + 1) = k := by omega
    have et : tri (k + 1) = k + tri k := rfl
    obtain ⟨h1, x5', H1, m1, r1⟩ := l_216y (d := d) (x := x) M S hN (by omega) k (x + 1) L h x5 (by omega) H mb (by omega)
    have le := (itr_len (g := gP4 (fun x => nmX Bt n (np x)) A x) (c := 324) (N := N) (fun y L hy => by
      have gl : ∀ i j (L : List Int32), i < 2 * N → j < 2 * N → L.length ≤ (gPr (fun x => nmX Bt n (np x)) A i j L).length ∧ (gPr (fun x => nmX Bt n (np x)) A i j L).length ≤ L.length + 81 := fun i j L hi hj => by
        have q1 := (M.np (i / 2) (by omega)).2.2
        have q2 := (M.np (j / 2) (by omega)).2.2
        have l1 := gr_b S.2.1 (v := i) (w := j) (by omega) (by omega)
        have a1 := nbT_len l1.1 l1.2
        have a3 := wCm_len L
        unfold gPr
        split
        · have c1 : (if i % 2 = 1 then [(45 : Int32)] else []).length ≤ 1 := by split <;> decide
          have c2 : (if j % 2 = 1 then [(32 : Int32), 45, 32] else [32, 43, 32]).length = 3 := by split <;> rfl
          simp only [List.length_append, List.length_cons, List.length_nil, c2]
          omega
        · omega
      have v0 := gl (2 * x) (2 * y) L (by omega) (by omega)
      have v1 := gl (2 * x) (2 * y + 1) (gPr (fun x => nmX Bt n (np x)) A (2 * x) (2 * y) L) (by omega) (by omega)
      have v2 := gl (2 * x + 1) (2 * y) (gPr (fun x => nmX Bt n (np x)) A (2 * x) (2 * y + 1) (gPr (fun x => nmX Bt n (np x)) A (2 * x) (2 * y) L)) (by omega) (by omega)
      have v3 := gl (2 * x + 1) (2 * y + 1) (gPr (fun x => nmX Bt n (np x)) A (2 * x + 1) (2 * y) (gPr (fun x => nmX Bt n (np x)) A (2 * x) (2 * y + 1) (gPr (fun x => nmX Bt n (np x)) A (2 * x) (2 * y) L))) (by omega) (by omega)
      unfold gP4
      omega) k (x + 1) L (by omega)).2
    have H1' : LNc h0 h1 s0 ((fun x L => itr (gP4 (fun x => nmX Bt n (np x)) A x) (N - (x + 1)) (x + 1) L) x L) := by
      show LNc h0 h1 s0 (itr (gP4 (fun x => nmX Bt n (np x)) A x) (N - (x + 1)) (x + 1) L)
      rw [ek]
      exact H1
    obtain ⟨h2, H2, m2, r2⟩ := ih (x + 1) _ h1 (some (.int (Int32.ofNat N))) x5' (by omega) H1' m1 (by
      show (itr (gP4 (fun x => nmX Bt n (np x)) A x) (N - (x + 1)) (x + 1) L).length + 324 * tri k ≤ 24000
      rw [ek]
      omega)
    refine ⟨h2, H2, m2, fun Q => ?_⟩
    rw [← r2 Q]
    clear ih H H1 H1' H2 mb m1 m2 M S r le
    rw [s_216_2]
    simp (disch := omega) only [s_216_0, s_216_1, s_216_3, s_216_4, s_216_7, s_216_10, s_216_11, s_216_12, s_216_13, s_216_17, s_216_18, s_216_21, s_216_24, s_216_25, s_216_27, s_216_29, s_216_30, s_216_33, s_216_34, s_216_35, s_216_36, s_216_37, s_216_38, s_216_39, s_216_41, s_216_42, s_216_43, s_216_44, s_216_45, s_216_47, s_216_48, s_216_50, s_216_51, s_216_52, s_216_53, s_216_56, s_216_59, s_216_62, s_216_65, s_216_71, s_216_74, e_216, mv_i_1, mv_l_1, mv_a_1, mv_a_2, mv_a_3, mk2_n, mk2_i, mk2_l, mk2_a, mk2_u, mk2_x, mB_T, mB_F, mS_cons, mS_nil, mSB_T, mSB_F, mca_nil, mca_i, mca_l, mca_r, mca_u, mca_x, mcat_i, mcat_l, mcat_r, mcat_u, mcat_x, mK_some, mK_none, va_rf_s, va_rf_n, lgc_eq, lgc_lt, lgc_gt, lgc_ge, lgc_le, mrd_104, mrd_105, mrd_106, mrd_107, true_and, and_true, and_self, false_and, and_false, true_or, or_true, false_or, or_false, not_true_eq_false, not_false_eq_true, mgb, mga, mgr, mN, reduceCtorEq, ↓reduceIte, eq_self, ge_iff_le, gt_iff_lt, hk_si, hk_sj, hk_sr, hl_si, hl_sj, hl_sr, hn_si, hn_sj, hn_sr, hs_si, hs_sj, hs_sr, hi_sj, hi_sr, hj_si, hj_sr, hr_si, hr_sj, hi_si, hj_sj, hr_sr, mg_si, mg_sj, mg_sr, Nat.reduceAdd, Nat.reduceMul, Nat.reduceSub, Nat.reduceLT, Nat.reduceGT, Nat.reduceEqDiff, Nat.reduceLeDiff, Nat.left_eq_add, Nat.add_eq_left, Nat.reduceMod, Nat.reduceDiv, Nat.succ_ne_self, gS, en, nn_le, c', e1']
    refine (r1 Q).trans ?_
    rw [s_216_68]
    simp (disch := omega) only [s_216_0, s_216_1, s_216_3, s_216_4, s_216_7, s_216_10, s_216_11, s_216_12, s_216_13, s_216_17, s_216_18, s_216_21, s_216_24, s_216_25, s_216_27, s_216_29, s_216_30, s_216_33, s_216_34, s_216_35, s_216_36, s_216_37, s_216_38, s_216_39, s_216_41, s_216_42, s_216_43, s_216_44, s_216_45, s_216_47, s_216_48, s_216_50, s_216_51, s_216_52, s_216_53, s_216_56, s_216_59, s_216_62, s_216_65, s_216_71, s_216_74, e_216, mv_i_1, mv_l_1, mv_a_1, mv_a_2, mv_a_3, mk2_n, mk2_i, mk2_l, mk2_a, mk2_u, mk2_x, mB_T, mB_F, mS_cons, mS_nil, mSB_T, mSB_F, mca_nil, mca_i, mca_l, mca_r, mca_u, mca_x, mcat_i, mcat_l, mcat_r, mcat_u, mcat_x, mK_some, mK_none, va_rf_s, va_rf_n, lgc_eq, lgc_lt, lgc_gt, lgc_ge, lgc_le, mrd_104, mrd_105, mrd_106, mrd_107, true_and, and_true, and_self, false_and, and_false, true_or, or_true, false_or, or_false, not_true_eq_false, not_false_eq_true, mgb, mga, mgr, mN, reduceCtorEq, ↓reduceIte, eq_self, ge_iff_le, gt_iff_lt, hk_si, hk_sj, hk_sr, hl_si, hl_sj, hl_sr, hn_si, hn_sj, hn_sr, hs_si, hs_sj, hs_sr, hi_sj, hi_sr, hj_si, hj_sr, hr_si, hr_sj, hi_si, hj_sj, hr_sr, mg_si, mg_sj, mg_sr, Nat.reduceAdd, Nat.reduceMul, Nat.reduceSub, Nat.reduceLT, Nat.reduceGT, Nat.reduceEqDiff, Nat.reduceLeDiff, Nat.left_eq_add, Nat.add_eq_left, Nat.reduceMod, Nat.reduceDiv, Nat.succ_ne_self, e1']
theorem w_216 (M : NMc h0 s0 TK X n Bt p np ap N A') (S : StL h0 s0 o A) (hN : A.n = N) (H : LNc h0 h s0 L) (mb : mbf h) (hL : L.length + 21384 ≤ 24000) : ∃ h', LNc h0 h' s0 (shP (fun x => nmX Bt n (np x)) A L) ∧ mbf h' ∧ ∀ Q, mcall (d + 7) 216 [.ref 0, .int (Int32.ofNat p), .ref o] h Q = Q none h' := by
  have nn := M.n
  have t12 : ∀ N, N ≤ 12 → tri N ≤ 66 := by decide
  have := t12 N nn.1
  obtain ⟨h', a, b, c⟩ := l_216x (d := d) M S hN N 0 L h none none (by omega) H mb (by omega)
  refine ⟨h', by unfold shP; rw [hN]; exact a, b, fun Q => ?_⟩
  have c' : ∀ Q, mw (d + 7) 216 Q 2 [some (.ref 0), some (.int (Int32.ofNat p)), some (.ref o), some (.int 0), none, none] [] h = Q none h' := c
  rw [← c' Q]
  simp (disch := omega) only [e_216, s_216_0, s_216_1, mv_i_1, mv_l_1, mv_a_1, mv_a_2, mv_a_3, mk2_n, mk2_i, mk2_l, mk2_a, mk2_u, mk2_x, mB_T, mB_F, mS_cons, mS_nil, mSB_T, mSB_F, mca_nil, mca_i, mca_l, mca_r, mca_u, mca_x, mcat_i, mcat_l, mcat_r, mcat_u, mcat_x, mK_some, mK_none, va_rf_s, va_rf_n, lgc_eq, lgc_lt, lgc_gt, lgc_ge, lgc_le, mrd_104, mrd_105, mrd_106, mrd_107, true_and, and_true, and_self, false_and, and_false, true_or, or_true, false_or, or_false, not_true_eq_false, not_false_eq_true, mgb, mga, mgr, mN, reduceCtorEq, ↓reduceIte, eq_self, ge_iff_le, gt_iff_lt, Nat.reduceAdd, Nat.reduceMul, Nat.reduceSub, Nat.reduceLT, Nat.reduceGT, Nat.reduceEqDiff, Nat.reduceLeDiff, Nat.left_eq_add, Nat.add_eq_left, Nat.reduceMod, Nat.reduceDiv, Nat.succ_ne_self]
/-- writeArrays -/
theorem l_218 (M : NMc h0 s0 TK X n Bt p np ap N A') (S : StL h0 s0 o A) (hA : A.a = A') : ∀ k x (L : List Int32) (h : mh_H), x + k = A' → LNc h0 h s0 L → mbf h → L.length + 62 * k ≤ 24000 → ∃ h', LNc h0 h' s0 (itr (gAr (fun x => nmX Bt n (ap x)) A) k x L) ∧ mbf h' ∧ ∀ Q, mw (d + 6) 218 Q 2 [some (.ref 0), some (.int (Int32.ofNat p)), some (.ref o), some (.int (Int32.ofNat x))] [] h = Q none h' := by
  have e1' : ∀ k, Int32.ofNat k + 1 = Int32.ofNat (k + 1) := fun k => nn_add (a := k) (b := 1)
  have e2 : ∀ k, (2 : Int32) * Int32.ofNat k = Int32.ofNat (2 * k) := fun k => nn_mul (a := 2) (b := k)
  have nn := M.n
  intro k
  induction k with
  | zero =>
    intro x L h hx H mb _
    have r := St_l H.f S
    have gS := r.1.1
    have en := r.2.2.2.2.1
    have c' : (A.a ≤ x) = True := eq_true (by omega)
    refine ⟨h, H, mb, fun Q => ?_⟩
    clear H mb M S r
    simp (disch := omega) only [s_218_0, s_218_1, s_218_2, s_218_3, s_218_4, s_218_7, s_218_10, s_218_11, s_218_14, s_218_15, s_218_16, s_218_19, s_218_20, s_218_21, s_218_24, s_218_27, s_218_28, s_218_31, s_218_34, s_218_35, s_218_36, s_218_39, s_218_40, s_218_41, s_218_42, s_218_43, s_218_44, s_218_47, s_218_48, s_218_49, s_218_50, s_218_51, s_218_52, s_218_53, s_218_56, s_218_59, s_218_62, e_218, mv_i_1, mv_l_1, mv_a_1, mv_a_2, mv_a_3, mk2_n, mk2_i, mk2_l, mk2_a, mk2_u, mk2_x, mB_T, mB_F, mS_cons, mS_nil, mSB_T, mSB_F, mca_nil, mca_i, mca_l, mca_r, mca_u, mca_x, mcat_i, mcat_l, mcat_r, mcat_u, mcat_x, mK_some, mK_none, va_rf_s, va_rf_n, lgc_eq, lgc_lt, lgc_gt, lgc_ge, lgc_le, mrd_104, mrd_105, mrd_106, mrd_107, true_and, and_true, and_self, false_and, and_false, true_or, or_true, false_or, or_false, not_true_eq_false, not_false_eq_true, mgb, mga, mgr, mN, reduceCtorEq, ↓reduceIte, eq_self, ge_iff_le, gt_iff_lt, hk_si, hk_sj, hk_sr, hl_si, hl_sj, hl_sr, hn_si, hn_sj, hn_sr, hs_si, hs_sj, hs_sr, hi_sj, hi_sr, hj_si, hj_sr, hr_si, hr_sj, hi_si, hj_sj, hr_sr, mg_si, mg_sj, mg_sr, Nat.reduceAdd, Nat.reduceMul, Nat.reduceSub, Nat.reduceLT, Nat.reduceGT, Nat.reduceEqDiff, Nat.reduceLeDiff, Nat.left_eq_add, Nat.add_eq_left, Nat.reduceMod, Nat.reduceDiv, Nat.succ_ne_self, gS, en, nn_le, c']
  | succ k ih =>
    intro x L h hx H mb hL
    have r := St_l H.f S
    have gS := r.1.1
    have en := r.2.2.2.2.1
    have c' : (A.a ≤ x) = False := eq_false (by omega)
    obtain ⟨-, q0, q2, r2, -⟩ := TB_l H.f M (by omega)
    obtain ⟨n1, n2, n3⟩ := M.ap x (by omega)
    obtain ⟨cl1, cl2⟩ := wCm_len L
    obtain ⟨h1, H1, m1, r1⟩ := w_219 (d := d) M.g0 H mb (by omega)
    obtain ⟨-, q10, q12, r12, -⟩ := TB_l H1.f M (by omega)
    have a83 := w_83 (d := d + 5) H1.f M (x := x) (by omega)
    obtain ⟨h2, H2, m2, r3⟩ := w_221 (d := d + 3) M (by omega) n2 n3 H1 m1 (by omega)
    have l5 : xL 5 = 2 := by decide +kernel
    obtain ⟨h3, H3, m3, r4⟩ := w_222 (d := d + 1) M.g0 (j := 5) (by decide) H2 m2 (by rw [List.length_append]; omega)
    rw [xW_all.2.2.2.2.2.1] at H3
    have rm3 := St_l H3.f S
    obtain ⟨el, eh⟩ := rm3.2.2.2.2.2.2.2 x (by omega)
    have bb := S.2.1.2.2.2.2 x (by omega)
    obtain ⟨h4, H4, m4, r5⟩ := w_220 (d := d) (v := mh_j h3 (o + 2) (2 * x)) (w := mh_j h3 (o + 2) (2 * x + 1)) M.g0 (by omega) (by omega) H3 m3 (by simp only [List.length_append, List.length_cons, List.length_nil]; omega)
    rw [el, eh] at H4
    have H4' : LNc h0 h4 s0 (gAr (fun x => nmX Bt n (ap x)) A x L) := by
      unfold gAr
      have e : wCm L ++ nmX Bt n (ap x) ++ [91, 93, 32, 105, 110, 32] = wCm L ++ nmX Bt n (ap x) ++ [91, 93] ++ [32, 105, 110, 32] := by
        rw [List.append_assoc (wCm L ++ nmX Bt n (ap x)) [91, 93] [32, 105, 110, 32]]
        rfl
      rw [e]
      exact H4
    have gl := gAr_len (am := fun x => nmX Bt n (ap x)) (A := A) (x := x) (L := L) n3 (by omega) (by omega)
    obtain ⟨h5, H5, m5, r6⟩ := ih (x + 1) (gAr (fun x => nmX Bt n (ap x)) A x L) h4 (by omega) H4' m4 (by omega)
    refine ⟨h5, H5, m5, fun Q => ?_⟩
    rw [← r6 Q]
    have z2 := fz_mg H2.f M.g0
    have z3 := fz_mg H3.f M.g0
    have s1 := rm3.1.1
    have s5 := rm3.1.2.2.2.2.1
    have s6 := rm3.1.2.2.2.2.2.1
    have s7 := rm3.1.2.2.2.2.2.2
    have s6k := s6.1
    have s6n := s6.2
    have r4' : ∀ Q, mcall (d + 5) 222 [.ref 0, .retAddr 18] h2 Q = Q none h3 := r4
    clear ih H H1 H2 H3 H4 H4' H5 mb m1 m2 m3 m4 m5 M S r rm3 gl el eh bb r4
    rw [s_218_2]
    simp (disch := omega) only [s_218_0, s_218_1, s_218_3, s_218_4, s_218_7, s_218_10, s_218_11, s_218_14, s_218_15, s_218_16, s_218_19, s_218_20, s_218_21, s_218_24, s_218_27, s_218_28, s_218_31, s_218_34, s_218_35, s_218_36, s_218_39, s_218_40, s_218_41, s_218_42, s_218_43, s_218_44, s_218_47, s_218_48, s_218_49, s_218_50, s_218_51, s_218_52, s_218_53, s_218_56, s_218_59, s_218_62, e_218, mv_i_1, mv_l_1, mv_a_1, mv_a_2, mv_a_3, mk2_n, mk2_i, mk2_l, mk2_a, mk2_u, mk2_x, mB_T, mB_F, mS_cons, mS_nil, mSB_T, mSB_F, mca_nil, mca_i, mca_l, mca_r, mca_u, mca_x, mcat_i, mcat_l, mcat_r, mcat_u, mcat_x, mK_some, mK_none, va_rf_s, va_rf_n, lgc_eq, lgc_lt, lgc_gt, lgc_ge, lgc_le, mrd_104, mrd_105, mrd_106, mrd_107, true_and, and_true, and_self, false_and, and_false, true_or, or_true, false_or, or_false, not_true_eq_false, not_false_eq_true, mgb, mga, mgr, mN, reduceCtorEq, ↓reduceIte, eq_self, ge_iff_le, gt_iff_lt, hk_si, hk_sj, hk_sr, hl_si, hl_sj, hl_sr, hn_si, hn_sj, hn_sr, hs_si, hs_sj, hs_sr, hi_sj, hi_sr, hj_si, hj_sr, hr_si, hr_sj, hi_si, hj_sj, hr_sr, mg_si, mg_sj, mg_sr, Nat.reduceAdd, Nat.reduceMul, Nat.reduceSub, Nat.reduceLT, Nat.reduceGT, Nat.reduceEqDiff, Nat.reduceLeDiff, Nat.left_eq_add, Nat.add_eq_left, Nat.reduceMod, Nat.reduceDiv, Nat.succ_ne_self, gS, en, nn_le, c', e1', e2, q0, q10, q12, r12, z2, z3, r1, a83, r3, r4', s1, s5, s6, s6k, s6n, s7, nn_mxT, nn_clamp, r5]
theorem w_218 (M : NMc h0 s0 TK X n Bt p np ap N A') (S : StL h0 s0 o A) (hA : A.a = A') (H : LNc h0 h s0 L) (mb : mbf h) (hL : L.length + 372 ≤ 24000) : ∃ h', LNc h0 h' s0 (shA (fun x => nmX Bt n (ap x)) A L) ∧ mbf h' ∧ ∀ Q, mcall (d + 6) 218 [.ref 0, .int (Int32.ofNat p), .ref o] h Q = Q none h' := by
  have nn := M.n
  obtain ⟨h', a, b, c⟩ := l_218 (d := d) M S hA A' 0 L h (by omega) H mb (by omega)
  refine ⟨h', by unfold shA; rw [hA]; exact a, b, fun Q => ?_⟩
  have c' : ∀ Q, mw (d + 6) 218 Q 2 [some (.ref 0), some (.int (Int32.ofNat p)), some (.ref o), some (.int 0)] [] h = Q none h' := c
  rw [← c' Q]
  simp (disch := omega) only [e_218, s_218_0, s_218_1, mv_i_1, mv_l_1, mv_a_1, mv_a_2, mv_a_3, mk2_n, mk2_i, mk2_l, mk2_a, mk2_u, mk2_x, mB_T, mB_F, mS_cons, mS_nil, mSB_T, mSB_F, mca_nil, mca_i, mca_l, mca_r, mca_u, mca_x, mcat_i, mcat_l, mcat_r, mcat_u, mcat_x, mK_some, mK_none, va_rf_s, va_rf_n, lgc_eq, lgc_lt, lgc_gt, lgc_ge, lgc_le, mrd_104, mrd_105, mrd_106, mrd_107, true_and, and_true, and_self, false_and, and_false, true_or, or_true, false_or, or_false, not_true_eq_false, not_false_eq_true, mgb, mga, mgr, mN, reduceCtorEq, ↓reduceIte, eq_self, ge_iff_le, gt_iff_lt, Nat.reduceAdd, Nat.reduceMul, Nat.reduceSub, Nat.reduceLT, Nat.reduceGT, Nat.reduceEqDiff, Nat.reduceLeDiff, Nat.left_eq_add, Nat.add_eq_left, Nat.reduceMod, Nat.reduceDiv, Nat.succ_ne_self]
end LEs2
