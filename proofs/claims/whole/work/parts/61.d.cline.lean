set_option maxRecDepth 100000
/-! THE CLASS'S LINE: names, ranges, pairs -/
/-- the bytes of a name -/
def nmX (Bt : Nat → Int32) (n pl : Nat) : List Int32 := nmB Bt (cw (fun c => isL c || isG c) Bt (n - pl) pl) pl
def NMc (h0 : mh_H) (s0 TK X n : Nat) (Bt : Nat → Int32) (p : Nat) (np ap : Nat → Nat) (N A : Nat) : Prop := (mg h0 0 11) ∧ (mg h0 2 4) ∧ (mh_r h0 0 2 = some 2) ∧ (0 < N + A → mh_r h0 2 0 = some TK) ∧ (0 < N + A → TB h0 TK X n Bt) ∧ (mg h0 30 100 ∧ mh_l h0 30 = 4500 ∧ mh_r h0 2 13 = some 30) ∧ ((s0 ≠ 0 ∧ s0 ≠ 2 ∧ s0 ≠ 30) ∧ (0 < N + A → s0 ≠ TK ∧ s0 ≠ X)) ∧ (p < 250) ∧ (N ≤ 12 ∧ A ≤ 6) ∧ (∀ x, x < N → mh_i h0 30 (18 * p + x) = Int32.ofNat (np x) ∧ np x ≤ n ∧ (nmX Bt n (np x)).length ≤ 30) ∧ (∀ x, x < A → mh_i h0 30 (18 * p + (12 + x)) = Int32.ofNat (ap x) ∧ ap x ≤ n ∧ (nmX Bt n (ap x)).length ≤ 30)
theorem NMc.of {h0 : mh_H} {s0 TK X n : Nat} {Bt : Nat → Int32} {p : Nat} {np ap : Nat → Nat} {N A : Nat} (q : (mg h0 0 11) ∧ (mg h0 2 4) ∧ (mh_r h0 0 2 = some 2) ∧ (0 < N + A → mh_r h0 2 0 = some TK) ∧ (0 < N + A → TB h0 TK X n Bt) ∧ (mg h0 30 100 ∧ mh_l h0 30 = 4500 ∧ mh_r h0 2 13 = some 30) ∧ ((s0 ≠ 0 ∧ s0 ≠ 2 ∧ s0 ≠ 30) ∧ (0 < N + A → s0 ≠ TK ∧ s0 ≠ X)) ∧ (p < 250) ∧ (N ≤ 12 ∧ A ≤ 6) ∧ (∀ x, x < N → mh_i h0 30 (18 * p + x) = Int32.ofNat (np x) ∧ np x ≤ n ∧ (nmX Bt n (np x)).length ≤ 30) ∧ (∀ x, x < A → mh_i h0 30 (18 * p + (12 + x)) = Int32.ofNat (ap x) ∧ ap x ≤ n ∧ (nmX Bt n (ap x)).length ≤ 30)) : NMc h0 s0 TK X n Bt p np ap N A := q
theorem NMc.g0 {h0 : mh_H} {s0 TK X n : Nat} {Bt : Nat → Int32} {p : Nat} {np ap : Nat → Nat} {N A : Nat} (q : NMc h0 s0 TK X n Bt p np ap N A) : mg h0 0 11 := q.1
theorem NMc.g2 {h0 : mh_H} {s0 TK X n : Nat} {Bt : Nat → Int32} {p : Nat} {np ap : Nat → Nat} {N A : Nat} (q : NMc h0 s0 TK X n Bt p np ap N A) : mg h0 2 4 := q.2.1
theorem NMc.r2 {h0 : mh_H} {s0 TK X n : Nat} {Bt : Nat → Int32} {p : Nat} {np ap : Nat → Nat} {N A : Nat} (q : NMc h0 s0 TK X n Bt p np ap N A) : mh_r h0 0 2 = some 2 := q.2.2.1
theorem NMc.t {h0 : mh_H} {s0 TK X n : Nat} {Bt : Nat → Int32} {p : Nat} {np ap : Nat → Nat} {N A : Nat} (q : NMc h0 s0 TK X n Bt p np ap N A) : 0 < N + A → mh_r h0 2 0 = some TK := q.2.2.2.1
theorem NMc.T {h0 : mh_H} {s0 TK X n : Nat} {Bt : Nat → Int32} {p : Nat} {np ap : Nat → Nat} {N A : Nat} (q : NMc h0 s0 TK X n Bt p np ap N A) : 0 < N + A → TB h0 TK X n Bt := q.2.2.2.2.1
theorem NMc.g30 {h0 : mh_H} {s0 TK X n : Nat} {Bt : Nat → Int32} {p : Nat} {np ap : Nat → Nat} {N A : Nat} (q : NMc h0 s0 TK X n Bt p np ap N A) : mg h0 30 100 ∧ mh_l h0 30 = 4500 ∧ mh_r h0 2 13 = some 30 := q.2.2.2.2.2.1
theorem NMc.s {h0 : mh_H} {s0 TK X n : Nat} {Bt : Nat → Int32} {p : Nat} {np ap : Nat → Nat} {N A : Nat} (q : NMc h0 s0 TK X n Bt p np ap N A) : (s0 ≠ 0 ∧ s0 ≠ 2 ∧ s0 ≠ 30) ∧ (0 < N + A → s0 ≠ TK ∧ s0 ≠ X) := q.2.2.2.2.2.2.1
theorem NMc.p {h0 : mh_H} {s0 TK X n : Nat} {Bt : Nat → Int32} {p : Nat} {np ap : Nat → Nat} {N A : Nat} (q : NMc h0 s0 TK X n Bt p np ap N A) : p < 250 := q.2.2.2.2.2.2.2.1
theorem NMc.n {h0 : mh_H} {s0 TK X n : Nat} {Bt : Nat → Int32} {p : Nat} {np ap : Nat → Nat} {N A : Nat} (q : NMc h0 s0 TK X n Bt p np ap N A) : N ≤ 12 ∧ A ≤ 6 := q.2.2.2.2.2.2.2.2.1
theorem NMc.np {h0 : mh_H} {s0 TK X n : Nat} {Bt : Nat → Int32} {p : Nat} {np ap : Nat → Nat} {N A : Nat} (q : NMc h0 s0 TK X n Bt p np ap N A) : ∀ x, x < N → mh_i h0 30 (18 * p + x) = Int32.ofNat (np x) ∧ np x ≤ n ∧ (nmX Bt n (np x)).length ≤ 30 := q.2.2.2.2.2.2.2.2.2.1
theorem NMc.ap {h0 : mh_H} {s0 TK X n : Nat} {Bt : Nat → Int32} {p : Nat} {np ap : Nat → Nat} {N A : Nat} (q : NMc h0 s0 TK X n Bt p np ap N A) : ∀ x, x < A → mh_i h0 30 (18 * p + (12 + x)) = Int32.ofNat (ap x) ∧ ap x ≤ n ∧ (nmX Bt n (ap x)).length ≤ 30 := q.2.2.2.2.2.2.2.2.2.2
theorem by_255 : ∀ m, m < 256 → Int32.ofNat m &&& 255 = Int32.ofNat m := by decide +kernel
section LDs
variable {d : Nat} {h0 h h1 : mh_H} {s0 TK X n p N A' : Nat} {Bt : Nat → Int32} {np ap : Nat → Nat} {L : List Int32} {A : ab} {o : Nat}
theorem TB_l (f : fz (lcW s0) h0 h) (M : NMc h0 s0 TK X n Bt p np ap N A') (hN : 0 < N + A') : TB h TK X n Bt ∧ mg h 0 11 ∧ mg h 2 4 ∧ mh_r h 0 2 = some 2 ∧ mh_r h 2 0 = some TK ∧ mh_r h 2 13 = some 30 ∧ mg h 30 100 ∧ mh_l h 30 = 4500 ∧ mh_i h 30 = mh_i h0 30 := by
  obtain ⟨⟨s1, s2, s3⟩, s45⟩ := M.s
  obtain ⟨s4, s5⟩ := s45 hN
  obtain ⟨a1, a2, a3⟩ := M.g30
  have T := M.T hN
  have gT := T.g.1
  have gX := T.k
  have g0 := M.g0.1
  have t0 : TK ≠ 0 := fun z => by rw [z] at gT; omega
  have x0 : X ≠ 0 := fun z => by rw [z] at gX; omega
  have w2 : ∀ j, ¬ lcW s0 2 j := fun j z => by unfold lcW at z; omega
  have w30 : ∀ j, ¬ lcW s0 30 j := fun j z => by unfold lcW at z; omega
  have wT : ∀ j, ¬ lcW s0 TK j := fun j z => by unfold lcW at z; omega
  have wX : ∀ j, ¬ lcW s0 X j := fun j z => by unfold lcW at z; omega
  have w0 : ¬ lcW s0 0 2 := fun z => by unfold lcW at z; omega
  have gx : mg h0 X 102 := ⟨T.k, T.x⟩
  refine ⟨⟨fz_mg f T.g, by rw [fz_r f T.g (wT 0)]; exact T.r, (fz_mg f gx).1, (fz_mg f gx).2, by rw [fz_l f gx]; exact T.l, T.n, fun i hi => by rw [fz_i f gx (wX i)]; exact T.b i hi, T.2.2.2.2.2.2.2⟩, fz_mg f M.g0, fz_mg f M.g2, by rw [fz_r f M.g0 w0]; exact M.r2, by rw [fz_r f M.g2 (w2 0)]; exact M.t hN, by rw [fz_r f M.g2 (w2 13)]; exact a3, fz_mg f a1, by rw [fz_l f a1]; exact a2, funext fun j => fz_i f a1 (w30 j)⟩
theorem w_82 (f : fz (lcW s0) h0 h) (M : NMc h0 s0 TK X n Bt p np ap N A') {x : Nat} (hx : x < N) : ∀ Q, mcall d 82 [.ref 2, .int (Int32.ofNat p), .int (Int32.ofNat x)] h Q = Q (some (.int (Int32.ofNat (np x)))) h := fun Q => by
  obtain ⟨-, -, g2, -, -, r13, g30, l30, i30⟩ := TB_l f M (by omega)
  have e := (M.np x hx).1
  rw [← i30] at e
  have pp := M.p
  have nn := M.n
  have e1 : (18 : Int32) * Int32.ofNat p = Int32.ofNat (18 * p) := nn_mul (a := 18) (b := p)
  have gk := g30.1
  have gn := g30.2
  clear M f i30
  simp (disch := omega) only [s_82_0, s_82_1, s_82_4, s_82_6, s_82_7, s_82_8, s_82_9, s_82_10, s_82_11, e_82, mv_i_1, mv_l_1, mv_a_1, mv_a_2, mv_a_3, mk2_n, mk2_i, mk2_l, mk2_a, mk2_u, mk2_x, mB_T, mB_F, mS_cons, mS_nil, mSB_T, mSB_F, mca_nil, mca_i, mca_l, mca_r, mca_u, mca_x, mcat_i, mcat_l, mcat_r, mcat_u, mcat_x, mK_some, mK_none, va_rf_s, va_rf_n, lgc_eq, lgc_lt, lgc_gt, lgc_ge, lgc_le, mrd_104, mrd_105, mrd_106, mrd_107, true_and, and_true, and_self, false_and, and_false, true_or, or_true, false_or, or_false, not_true_eq_false, not_false_eq_true, mgb, mga, mgr, mN, reduceCtorEq, ↓reduceIte, eq_self, ge_iff_le, gt_iff_lt, hk_si, hk_sj, hk_sr, hl_si, hl_sj, hl_sr, hn_si, hn_sj, hn_sr, hs_si, hs_sj, hs_sr, hi_sj, hi_sr, hj_si, hj_sr, hr_si, hr_sj, hi_si, hj_sj, hr_sr, mg_si, mg_sj, mg_sr, Nat.reduceAdd, Nat.reduceMul, Nat.reduceSub, Nat.reduceLT, Nat.reduceGT, Nat.reduceEqDiff, Nat.reduceLeDiff, Nat.left_eq_add, Nat.add_eq_left, Nat.reduceMod, Nat.reduceDiv, Nat.succ_ne_self, g2, r13, g30, gk, gn, l30, e1, nn_add, nn_mxT, nn_clamp, e]
theorem w_83 (f : fz (lcW s0) h0 h) (M : NMc h0 s0 TK X n Bt p np ap N A') {x : Nat} (hx : x < A') : ∀ Q, mcall d 83 [.ref 2, .int (Int32.ofNat p), .int (Int32.ofNat x)] h Q = Q (some (.int (Int32.ofNat (ap x)))) h := fun Q => by
  obtain ⟨-, -, g2, -, -, r13, g30, l30, i30⟩ := TB_l f M (by omega)
  have e := (M.ap x hx).1
  rw [← i30, ← Nat.add_assoc] at e
  have pp := M.p
  have nn := M.n
  have e1 : (18 : Int32) * Int32.ofNat p = Int32.ofNat (18 * p) := nn_mul (a := 18) (b := p)
  have e2 : Int32.ofNat (18 * p) + 12 = Int32.ofNat (18 * p + 12) := nn_add (a := 18 * p) (b := 12)
  have gk := g30.1
  have gn := g30.2
  clear M f i30
  simp (disch := omega) only [s_83_0, s_83_1, s_83_4, s_83_6, s_83_7, s_83_8, s_83_10, s_83_11, s_83_12, s_83_13, s_83_14, e_83, mv_i_1, mv_l_1, mv_a_1, mv_a_2, mv_a_3, mk2_n, mk2_i, mk2_l, mk2_a, mk2_u, mk2_x, mB_T, mB_F, mS_cons, mS_nil, mSB_T, mSB_F, mca_nil, mca_i, mca_l, mca_r, mca_u, mca_x, mcat_i, mcat_l, mcat_r, mcat_u, mcat_x, mK_some, mK_none, va_rf_s, va_rf_n, lgc_eq, lgc_lt, lgc_gt, lgc_ge, lgc_le, mrd_104, mrd_105, mrd_106, mrd_107, true_and, and_true, and_self, false_and, and_false, true_or, or_true, false_or, or_false, not_true_eq_false, not_false_eq_true, mgb, mga, mgr, mN, reduceCtorEq, ↓reduceIte, eq_self, ge_iff_le, gt_iff_lt, hk_si, hk_sj, hk_sr, hl_si, hl_sj, hl_sr, hn_si, hn_sj, hn_sr, hs_si, hs_sj, hs_sr, hi_sj, hi_sr, hj_si, hj_sr, hr_si, hr_sj, hi_si, hj_sj, hr_sr, mg_si, mg_sj, mg_sr, Nat.reduceAdd, Nat.reduceMul, Nat.reduceSub, Nat.reduceLT, Nat.reduceGT, Nat.reduceEqDiff, Nat.reduceLeDiff, Nat.left_eq_add, Nat.add_eq_left, Nat.reduceMod, Nat.reduceDiv, Nat.succ_ne_self, g2, r13, g30, gk, gn, l30, e1, e2, nn_add, nn_mxT, nn_clamp, e]
/-- writeName -/
theorem l_221 (M : NMc h0 s0 TK X n Bt p np ap N A') (hN : 0 < N + A') {pl w : Nat} (hw : pl + w ≤ n) : ∀ f k (L : List Int32) (h : mh_H), k + f = w → LNc h0 h s0 L → mbf h → L.length + f ≤ 24000 → ∃ h', LNc h0 h' s0 (L ++ nmB Bt f (pl + k)) ∧ mbf h' ∧ ∀ Q, mw (d + 2) 221 Q 14 [some (.ref 0), some (.int (Int32.ofNat pl)), some (.int (Int32.ofNat w)), some (.int (Int32.ofNat k))] [] h = Q none h' := by
  have n164 := (M.T hN).n
  have e1' : ∀ k, Int32.ofNat k + 1 = Int32.ofNat (k + 1) := fun k => nn_add (a := k) (b := 1)
  intro f
  induction f with
  | zero =>
    intro k L h hk H mb _
    have c' : (w ≤ k) = True := eq_true (by omega)
    refine ⟨h, by rw [show nmB Bt 0 (pl + k) = [] from rfl, List.append_nil]; exact H, mb, fun Q => ?_⟩
    clear H mb M
    simp (disch := omega) only [s_221_0, s_221_1, s_221_4, s_221_7, s_221_8, s_221_11, s_221_12, s_221_13, s_221_14, s_221_15, s_221_16, s_221_19, s_221_20, s_221_21, s_221_24, s_221_27, s_221_28, s_221_29, s_221_30, s_221_33, s_221_36, s_221_39, s_221_42, e_221, mv_i_1, mv_l_1, mv_a_1, mv_a_2, mv_a_3, mk2_n, mk2_i, mk2_l, mk2_a, mk2_u, mk2_x, mB_T, mB_F, mS_cons, mS_nil, mSB_T, mSB_F, mca_nil, mca_i, mca_l, mca_r, mca_u, mca_x, mcat_i, mcat_l, mcat_r, mcat_u, mcat_x, mK_some, mK_none, va_rf_s, va_rf_n, lgc_eq, lgc_lt, lgc_gt, lgc_ge, lgc_le, mrd_104, mrd_105, mrd_106, mrd_107, true_and, and_true, and_self, false_and, and_false, true_or, or_true, false_or, or_false, not_true_eq_false, not_false_eq_true, mgb, mga, mgr, mN, reduceCtorEq, ↓reduceIte, eq_self, ge_iff_le, gt_iff_lt, Nat.reduceAdd, Nat.reduceMul, Nat.reduceSub, Nat.reduceLT, Nat.reduceGT, Nat.reduceEqDiff, Nat.reduceLeDiff, Nat.left_eq_add, Nat.add_eq_left, Nat.reduceMod, Nat.reduceDiv, Nat.succ_ne_self, nn_le, c']
  | succ f ih =>
    intro k L h hk H mb hL
    have c' : (w ≤ k) = False := eq_false (by omega)
    obtain ⟨T, q0, q2, r2, t, -⟩ := TB_l H.f M hN
    obtain ⟨m, hm, em⟩ := (M.T hN).2.2.2.2.2.2.2 (pl + k) (by omega)
    have a1 := c_170 (d := d + 1) T (i := pl + k) (by omega)
    have eb : bt Bt n (pl + k) = Bt (pl + k) := if_pos (by omega)
    rw [eb] at a1
    obtain ⟨h1, H1, m1, r1⟩ := w_224 (d := d) (v := Bt (pl + k)) M.g0 H mb (by omega) (by rw [em]; exact by_255 m hm)
    obtain ⟨h2, H2, m2, r3⟩ := ih (k + 1) (L ++ [Bt (pl + k)]) h1 (by omega) H1 m1 (by rw [List.length_append]; show L.length + 1 + f ≤ 24000; omega)
    refine ⟨h2, by rw [List.append_assoc] at H2; exact H2, m2, fun Q => ?_⟩
    rw [← r3 Q]
    have gT := T.g
    clear ih H H1 H2 mb m1 m2 M T em
    rw [s_221_14]
    simp (disch := omega) only [s_221_0, s_221_1, s_221_4, s_221_7, s_221_8, s_221_11, s_221_12, s_221_13, s_221_15, s_221_16, s_221_19, s_221_20, s_221_21, s_221_24, s_221_27, s_221_28, s_221_29, s_221_30, s_221_33, s_221_36, s_221_39, s_221_42, e_221, mv_i_1, mv_l_1, mv_a_1, mv_a_2, mv_a_3, mk2_n, mk2_i, mk2_l, mk2_a, mk2_u, mk2_x, mB_T, mB_F, mS_cons, mS_nil, mSB_T, mSB_F, mca_nil, mca_i, mca_l, mca_r, mca_u, mca_x, mcat_i, mcat_l, mcat_r, mcat_u, mcat_x, mK_some, mK_none, va_rf_s, va_rf_n, lgc_eq, lgc_lt, lgc_gt, lgc_ge, lgc_le, mrd_104, mrd_105, mrd_106, mrd_107, true_and, and_true, and_self, false_and, and_false, true_or, or_true, false_or, or_false, not_true_eq_false, not_false_eq_true, mgb, mga, mgr, mN, reduceCtorEq, ↓reduceIte, eq_self, ge_iff_le, gt_iff_lt, hk_si, hk_sj, hk_sr, hl_si, hl_sj, hl_sr, hn_si, hn_sj, hn_sr, hs_si, hs_sj, hs_sr, hi_sj, hi_sr, hj_si, hj_sr, hr_si, hr_sj, hi_si, hj_sj, hr_sr, mg_si, mg_sj, mg_sr, Nat.reduceAdd, Nat.reduceMul, Nat.reduceSub, Nat.reduceLT, Nat.reduceGT, Nat.reduceEqDiff, Nat.reduceLeDiff, Nat.left_eq_add, Nat.add_eq_left, Nat.reduceMod, Nat.reduceDiv, Nat.succ_ne_self, nn_le, nn_add, c', q0, q2, r2, t, a1, r1, e1', gT]
theorem w_221 (M : NMc h0 s0 TK X n Bt p np ap N A') (hN : 0 < N + A') {pl : Nat} (hp : pl ≤ n) (h30 : (nmX Bt n pl).length ≤ 30) (H : LNc h0 h s0 L) (mb : mbf h) (hL : L.length + 30 ≤ 24000) : ∃ h', LNc h0 h' s0 (L ++ nmX Bt n pl) ∧ mbf h' ∧ ∀ Q, mcall (d + 2) 221 [.ref 0, .int (Int32.ofNat pl)] h Q = Q none h' := by
  have cf := cw_le (p := fun c => isL c || isG c) (B := Bt) (n - pl) pl
  have l30 : cw (fun c => isL c || isG c) Bt (n - pl) pl ≤ 30 := by
    unfold nmX at h30
    rw [nmB_len] at h30
    exact h30
  obtain ⟨T, q0, q2, r2, t, -⟩ := TB_l H.f M hN
  have a1 := c_175 (d := d) T hp
  obtain ⟨h', a, b, c⟩ := l_221 (d := d) M hN (pl := pl) (w := cw (fun c => isL c || isG c) Bt (n - pl) pl) (by omega) (cw (fun c => isL c || isG c) Bt (n - pl) pl) 0 L h (by omega) H mb (by omega)
  refine ⟨h', a, b, fun Q => ?_⟩
  have c' : ∀ Q, mw (d + 2) 221 Q 14 [some (.ref 0), some (.int (Int32.ofNat pl)), some (.int (Int32.ofNat (cw (fun c => isL c || isG c) Bt (n - pl) pl))), some (.int 0)] [] h = Q none h' := c
  rw [← c' Q]
  have gT := T.g
  clear H mb M T a b
  simp (disch := omega) only [e_221, s_221_0, s_221_1, s_221_4, s_221_7, s_221_8, s_221_11, s_221_12, s_221_13, s_221_15, s_221_16, s_221_19, s_221_20, s_221_21, s_221_24, s_221_27, s_221_28, s_221_29, s_221_30, s_221_33, s_221_36, s_221_39, s_221_42, e_221, mv_i_1, mv_l_1, mv_a_1, mv_a_2, mv_a_3, mk2_n, mk2_i, mk2_l, mk2_a, mk2_u, mk2_x, mB_T, mB_F, mS_cons, mS_nil, mSB_T, mSB_F, mca_nil, mca_i, mca_l, mca_r, mca_u, mca_x, mcat_i, mcat_l, mcat_r, mcat_u, mcat_x, mK_some, mK_none, va_rf_s, va_rf_n, lgc_eq, lgc_lt, lgc_gt, lgc_ge, lgc_le, mrd_104, mrd_105, mrd_106, mrd_107, true_and, and_true, and_self, false_and, and_false, true_or, or_true, false_or, or_false, not_true_eq_false, not_false_eq_true, mgb, mga, mgr, mN, reduceCtorEq, ↓reduceIte, eq_self, ge_iff_le, gt_iff_lt, hk_si, hk_sj, hk_sr, hl_si, hl_sj, hl_sr, hn_si, hn_sj, hn_sr, hs_si, hs_sj, hs_sr, hi_sj, hi_sr, hj_si, hj_sr, hr_si, hr_sj, hi_si, hj_sj, hr_sr, mg_si, mg_sj, mg_sr, Nat.reduceAdd, Nat.reduceMul, Nat.reduceSub, Nat.reduceLT, Nat.reduceGT, Nat.reduceEqDiff, Nat.reduceLeDiff, Nat.left_eq_add, Nat.add_eq_left, Nat.reduceMod, Nat.reduceDiv, Nat.succ_ne_self, q0, q2, r2, t, a1, gT]
/-- the State that is shown -/
def StL (h0 : mh_H) (s0 o : Nat) (A : ab) : Prop := RS h0 o (some A) ∧ ab_T A ∧ (∀ y, y ≤ 2 → o + y ≠ 0 ∧ o + y ≠ s0)
theorem St_l (f : fz (lcW s0) h0 h) (S : StL h0 s0 o A) : RM h o A := (RS_fz f (fun y hy j z => by have := S.2.2 y hy; unfold lcW at z; omega) S.1).1
/-- writeNumbers -/
theorem l_215 (M : NMc h0 s0 TK X n Bt p np ap N A') (S : StL h0 s0 o A) (hN : A.n = N) : ∀ k x (L : List Int32) (h : mh_H), x + k = N → LNc h0 h s0 L → mbf h → L.length + 60 * k ≤ 24000 → ∃ h', LNc h0 h' s0 (itr (gNm (fun x => nmX Bt n (np x)) (fun x => -a_gr A (2 * x + 1) (2 * x + 1)) (fun x => a_gr A (2 * x) (2 * x))) k x L) ∧ mbf h' ∧ ∀ Q, mw (d + 6) 215 Q 2 [some (.ref 0), some (.int (Int32.ofNat p)), some (.ref o), some (.int (Int32.ofNat x))] [] h = Q none h' := by
  have e1' : ∀ k, Int32.ofNat k + 1 = Int32.ofNat (k + 1) := fun k => nn_add (a := k) (b := 1)
  have e2 : ∀ k, (2 : Int32) * Int32.ofNat k = Int32.ofNat (2 * k) := fun k => nn_mul (a := 2) (b := k)
  have nn := M.n
  intro k
  induction k with
  | zero =>
    intro x L h hx H mb _
    have r := St_l H.f S
    have gS := r.1.1
    have en := r.2.2.1
    have c' : (A.n ≤ x) = True := eq_true (by omega)
    refine ⟨h, H, mb, fun Q => ?_⟩
    clear H mb M S r
    simp (disch := omega) only [s_215_0, s_215_1, s_215_2, s_215_3, s_215_4, s_215_7, s_215_10, s_215_11, s_215_14, s_215_15, s_215_16, s_215_19, s_215_20, s_215_21, s_215_24, s_215_27, s_215_28, s_215_29, s_215_30, s_215_31, s_215_32, s_215_33, s_215_34, s_215_35, s_215_36, s_215_37, s_215_38, s_215_39, s_215_42, s_215_43, s_215_44, s_215_45, s_215_46, s_215_47, s_215_48, s_215_49, s_215_50, s_215_53, s_215_56, s_215_59, s_215_62, e_215, mv_i_1, mv_l_1, mv_a_1, mv_a_2, mv_a_3, mk2_n, mk2_i, mk2_l, mk2_a, mk2_u, mk2_x, mB_T, mB_F, mS_cons, mS_nil, mSB_T, mSB_F, mca_nil, mca_i, mca_l, mca_r, mca_u, mca_x, mcat_i, mcat_l, mcat_r, mcat_u, mcat_x, mK_some, mK_none, va_rf_s, va_rf_n, lgc_eq, lgc_lt, lgc_gt, lgc_ge, lgc_le, mrd_104, mrd_105, mrd_106, mrd_107, true_and, and_true, and_self, false_and, and_false, true_or, or_true, false_or, or_false, not_true_eq_false, not_false_eq_true, mgb, mga, mgr, mN, reduceCtorEq, ↓reduceIte, eq_self, ge_iff_le, gt_iff_lt, hk_si, hk_sj, hk_sr, hl_si, hl_sj, hl_sr, hn_si, hn_sj, hn_sr, hs_si, hs_sj, hs_sr, hi_sj, hi_sr, hj_si, hj_sr, hr_si, hr_sj, hi_si, hj_sj, hr_sr, mg_si, mg_sj, mg_sr, Nat.reduceAdd, Nat.reduceMul, Nat.reduceSub, Nat.reduceLT, Nat.reduceGT, Nat.reduceEqDiff, Nat.reduceLeDiff, Nat.left_eq_add, Nat.add_eq_left, Nat.reduceMod, Nat.reduceDiv, Nat.succ_ne_self, gS, en, nn_le, c']
  | succ k ih =>
    intro x L h hx H mb hL
    have r := St_l H.f S
    have gS := r.1.1
    have en := r.2.2.1
    have c' : (A.n ≤ x) = False := eq_false (by omega)
    obtain ⟨-, q0, q2, r2, -⟩ := TB_l H.f M (by omega)
    obtain ⟨n1, n2, n3⟩ := M.np x (by omega)
    obtain ⟨cl1, cl2⟩ := wCm_len L
    obtain ⟨h1, H1, m1, r1⟩ := w_219 (d := d) M.g0 H mb (by omega)
    obtain ⟨-, q10, q12, r12, -⟩ := TB_l H1.f M (by omega)
    have a82 := w_82 (d := d + 5) H1.f M (x := x) (by omega)
    obtain ⟨h2, H2, m2, r3⟩ := w_221 (d := d + 3) M (by omega) n2 n3 H1 m1 (by omega)
    have rm2 := St_l H2.f S
    obtain ⟨y1, ey1, g1⟩ := l_146 (d := d + 5) (v := 2 * x + 1) (w := 2 * x + 1) rm2 S.2.1.2.2.1 (by omega) (by omega)
    obtain ⟨y2, ey2, g2⟩ := l_146 (d := d + 5) (v := 2 * x) (w := 2 * x) rm2 S.2.1.2.2.1 (by omega) (by omega)
    have ey1' : y1.toInt = a_gr A (2 * x + 1) (2 * x + 1) := ey1
    have ey2' : y2.toInt = a_gr A (2 * x) (2 * x) := ey2
    have b1 := gr_b S.2.1 (v := 2 * x + 1) (w := 2 * x + 1) (by omega) (by omega)
    have b2 := gr_b S.2.1 (v := 2 * x) (w := 2 * x) (by omega) (by omega)
    have en1 : (-y1).toInt = -a_gr A (2 * x + 1) (2 * x + 1) := by rw [Int64.toInt_neg, ey1', Int.bmod_eq_of_le (by omega) (by omega)]
    obtain ⟨h3, H3, m3, r4⟩ := w_220 (d := d) (v := -y1) (w := y2) M.g0 (by omega) (by omega) H2 m2 (by rw [List.length_append]; omega)
    rw [en1, ey2'] at H3
    have gl := gNm_len (nm := fun x => nmX Bt n (np x)) (lo := fun x => -a_gr A (2 * x + 1) (2 * x + 1)) (hi := fun x => a_gr A (2 * x) (2 * x)) (x := x) (L := L) n3 (by show -4294967296 ≤ -a_gr A (2 * x + 1) (2 * x + 1) ∧ -a_gr A (2 * x + 1) (2 * x + 1) ≤ 4294967296; omega) b2
    obtain ⟨h4, H4, m4, r5⟩ := ih (x + 1) (gNm (fun x => nmX Bt n (np x)) (fun x => -a_gr A (2 * x + 1) (2 * x + 1)) (fun x => a_gr A (2 * x) (2 * x)) x L) h3 (by omega) H3 m3 (by omega)
    refine ⟨h4, H4, m4, fun Q => ?_⟩
    rw [← r5 Q]
    have z0 := fz_mg H2.f M.g0
    have gS2 := rm2.1.1
    clear ih H H1 H2 H3 H4 mb m1 m2 m3 m4 M S r rm2 ey1 ey2 gl
    rw [s_215_2]
    simp (disch := omega) only [s_215_0, s_215_1, s_215_3, s_215_4, s_215_7, s_215_10, s_215_11, s_215_14, s_215_15, s_215_16, s_215_19, s_215_20, s_215_21, s_215_24, s_215_27, s_215_28, s_215_29, s_215_30, s_215_31, s_215_32, s_215_33, s_215_34, s_215_35, s_215_36, s_215_37, s_215_38, s_215_39, s_215_42, s_215_43, s_215_44, s_215_45, s_215_46, s_215_47, s_215_48, s_215_49, s_215_50, s_215_53, s_215_56, s_215_59, s_215_62, e_215, mv_i_1, mv_l_1, mv_a_1, mv_a_2, mv_a_3, mk2_n, mk2_i, mk2_l, mk2_a, mk2_u, mk2_x, mB_T, mB_F, mS_cons, mS_nil, mSB_T, mSB_F, mca_nil, mca_i, mca_l, mca_r, mca_u, mca_x, mcat_i, mcat_l, mcat_r, mcat_u, mcat_x, mK_some, mK_none, va_rf_s, va_rf_n, lgc_eq, lgc_lt, lgc_gt, lgc_ge, lgc_le, mrd_104, mrd_105, mrd_106, mrd_107, true_and, and_true, and_self, false_and, and_false, true_or, or_true, false_or, or_false, not_true_eq_false, not_false_eq_true, mgb, mga, mgr, mN, reduceCtorEq, ↓reduceIte, eq_self, ge_iff_le, gt_iff_lt, hk_si, hk_sj, hk_sr, hl_si, hl_sj, hl_sr, hn_si, hn_sj, hn_sr, hs_si, hs_sj, hs_sr, hi_sj, hi_sr, hj_si, hj_sr, hr_si, hr_sj, hi_si, hj_sj, hr_sr, mg_si, mg_sj, mg_sr, Nat.reduceAdd, Nat.reduceMul, Nat.reduceSub, Nat.reduceLT, Nat.reduceGT, Nat.reduceEqDiff, Nat.reduceLeDiff, Nat.left_eq_add, Nat.add_eq_left, Nat.reduceMod, Nat.reduceDiv, Nat.succ_ne_self, gS, en, nn_le, c', e1', e2, q0, q10, q12, r12, z0, r1, a82, r3, g1, g2, r4, gS2]
theorem w_215 (M : NMc h0 s0 TK X n Bt p np ap N A') (S : StL h0 s0 o A) (hN : A.n = N) (H : LNc h0 h s0 []) (mb : mbf h) : ∃ h', LNc h0 h' s0 (shN (fun x => nmX Bt n (np x)) A) ∧ mbf h' ∧ ∀ Q, mcall (d + 6) 215 [.ref 0, .int (Int32.ofNat p), .ref o] h Q = Q none h' := by
  have nn := M.n
  obtain ⟨h', a, b, c⟩ := l_215 (d := d) M S hN N 0 [] h (by omega) H mb (by show 0 + 60 * N ≤ 24000; omega)
  refine ⟨h', by unfold shN; rw [hN]; exact a, b, fun Q => ?_⟩
  have c' : ∀ Q, mw (d + 6) 215 Q 2 [some (.ref 0), some (.int (Int32.ofNat p)), some (.ref o), some (.int 0)] [] h = Q none h' := c
  rw [← c' Q]
  simp (disch := omega) only [e_215, s_215_0, s_215_1, mv_i_1, mv_l_1, mv_a_1, mv_a_2, mv_a_3, mk2_n, mk2_i, mk2_l, mk2_a, mk2_u, mk2_x, mB_T, mB_F, mS_cons, mS_nil, mSB_T, mSB_F, mca_nil, mca_i, mca_l, mca_r, mca_u, mca_x, mcat_i, mcat_l, mcat_r, mcat_u, mcat_x, mK_some, mK_none, va_rf_s, va_rf_n, lgc_eq, lgc_lt, lgc_gt, lgc_ge, lgc_le, mrd_104, mrd_105, mrd_106, mrd_107, true_and, and_true, and_self, false_and, and_false, true_or, or_true, false_or, or_false, not_true_eq_false, not_false_eq_true, mgb, mga, mgr, mN, reduceCtorEq, ↓reduceIte, eq_self, ge_iff_le, gt_iff_lt, Nat.reduceAdd, Nat.reduceMul, Nat.reduceSub, Nat.reduceLT, Nat.reduceGT, Nat.reduceEqDiff, Nat.reduceLeDiff, Nat.left_eq_add, Nat.add_eq_left, Nat.reduceMod, Nat.reduceDiv, Nat.succ_ne_self]
/-- writePair -/
theorem w_217 (M : NMc h0 s0 TK X n Bt p np ap N A') (S : StL h0 s0 o A) (hN : A.n = N) {i j : Nat} (hi : i < 2 * N) (hj : j < 2 * N) (H : LNc h0 h s0 L) (mb : mbf h) (hL : L.length + 81 ≤ 24000) : ∃ h', LNc h0 h' s0 (gPr (fun x => nmX Bt n (np x)) A i j L) ∧ mbf h' ∧ ∀ Q, mcall (d + 6) 217 [.ref 0, .int (Int32.ofNat p), .ref o, .int (Int32.ofNat i), .int (Int32.ofNat j)] h Q = Q none h' := by
  have nn := M.n
  have r := St_l H.f S
  have gS := r.1.1
  obtain ⟨y1, ey1, g1⟩ := l_146 (d := d + 5) (v := i) (w := j) r S.2.1.2.2.1 (by omega) (by omega)
  obtain ⟨y2, ey2, g2⟩ := l_146 (d := d + 5) (v := i) (w := i) r S.2.1.2.2.1 (by omega) (by omega)
  obtain ⟨y3, ey3, g3⟩ := l_146 (d := d + 5) (v := j) (w := j) r S.2.1.2.2.1 (by omega) (by omega)
  have ey1' : y1.toInt = a_gr A i j := ey1
  have ey2' : y2.toInt = a_gr A i i := ey2
  have ey3' : y3.toInt = a_gr A j j := ey3
  have b1 := gr_b S.2.1 (v := i) (w := j) (by omega) (by omega)
  have b2 := gr_b S.2.1 (v := i) (w := i) (by omega) (by omega)
  have b3 := gr_b S.2.1 (v := j) (w := j) (by omega) (by omega)
  have es : (y2 + y3).toInt = a_gr A i i + a_gr A j j := by rw [Int64.toInt_add, ey2', ey3', Int.bmod_eq_of_le (by omega) (by omega)]
  have i2 : Int32.ofNat i / 2 = Int32.ofNat (i / 2) := nn_div (a := i) (c := 2) (by omega) (by omega)
  have j2 : Int32.ofNat j / 2 = Int32.ofNat (j / 2) := nn_div (a := j) (c := 2) (by omega) (by omega)
  have ir : Int32.ofNat i - Int32.ofNat (i / 2) * 2 = Int32.ofNat (i % 2) := by rw [← i2]; exact nn_rem (a := i) (c := 2) (by omega) (by omega)
  have jr : Int32.ofNat j - Int32.ofNat (j / 2) * 2 = Int32.ofNat (j % 2) := by rw [← j2]; exact nn_rem (a := j) (c := 2) (by omega) (by omega)
  have t2 : ((2 : Int32) = 0) = False := by decide
  by_cases c : a_gr A i j < a_gr A i i + a_gr A j j
  · have lt : (y1 < y2 + y3) = True := eq_true (by rw [Int64.lt_iff_toInt_lt, es, ey1']; exact c)
    unfold gPr
    rw [if_pos c]
    obtain ⟨cl1, cl2⟩ := wCm_len L
    obtain ⟨n1, n2, n3⟩ := M.np (i / 2) (by omega)
    obtain ⟨o1, o2, o3⟩ := M.np (j / 2) (by omega)
    obtain ⟨h1, H1, m1, r1⟩ := w_219 (d := d) M.g0 H mb (by omega)
    -- the sign in front
    have A1 : ∃ h2, LNc h0 h2 s0 (wCm L ++ (if i % 2 = 1 then [45] else [])) ∧ mbf h2 ∧ ∀ Q, mw (d + 6) 217 Q 35 [some (.ref 0), some (.int (Int32.ofNat p)), some (.ref o), some (.int (Int32.ofNat i)), some (.int (Int32.ofNat j)), some (.long y1), none] [] h1 = mw (d + 6) 217 Q 48 [some (.ref 0), some (.int (Int32.ofNat p)), some (.ref o), some (.int (Int32.ofNat i)), some (.int (Int32.ofNat j)), some (.long y1), none] [] h2 := by
      have z0 := fz_mg H1.f M.g0
      by_cases ci : i % 2 = 1
      · obtain ⟨h2, H2, m2, r2⟩ := w_224 (d := d + 4) (v := 45) M.g0 H1 m1 (by omega) (by decide)
        rw [if_pos ci]
        refine ⟨h2, H2, m2, fun Q => ?_⟩
        have e : (Int32.ofNat (i % 2) = 1) = True := by rw [ci]; decide
        clear H H1 H2 mb m1 m2 M S r
        simp (disch := omega) only [s_217_0, s_217_1, s_217_2, s_217_4, s_217_7, s_217_9, s_217_11, s_217_12, s_217_13, s_217_14, s_217_17, s_217_18, s_217_20, s_217_22, s_217_25, s_217_26, s_217_27, s_217_30, s_217_31, s_217_32, s_217_35, s_217_36, s_217_37, s_217_38, s_217_39, s_217_42, s_217_43, s_217_45, s_217_49, s_217_50, s_217_53, s_217_54, s_217_55, s_217_56, s_217_57, s_217_60, s_217_63, s_217_64, s_217_66, s_217_67, s_217_68, s_217_69, s_217_72, s_217_75, s_217_78, s_217_81, s_217_84, s_217_85, s_217_86, s_217_89, s_217_90, s_217_92, s_217_93, s_217_94, s_217_97, s_217_100, s_217_101, s_217_104, s_217_107, s_217_108, s_217_110, s_217_113, e_217, mv_i_1, mv_l_1, mv_a_1, mv_a_2, mv_a_3, mk2_n, mk2_i, mk2_l, mk2_a, mk2_u, mk2_x, mB_T, mB_F, mS_cons, mS_nil, mSB_T, mSB_F, mca_nil, mca_i, mca_l, mca_r, mca_u, mca_x, mcat_i, mcat_l, mcat_r, mcat_u, mcat_x, mK_some, mK_none, va_rf_s, va_rf_n, lgc_eq, lgc_lt, lgc_gt, lgc_ge, lgc_le, mrd_104, mrd_105, mrd_106, mrd_107, true_and, and_true, and_self, false_and, and_false, true_or, or_true, false_or, or_false, not_true_eq_false, not_false_eq_true, mgb, mga, mgr, mN, reduceCtorEq, ↓reduceIte, eq_self, ge_iff_le, gt_iff_lt, hk_si, hk_sj, hk_sr, hl_si, hl_sj, hl_sr, hn_si, hn_sj, hn_sr, hs_si, hs_sj, hs_sr, hi_sj, hi_sr, hj_si, hj_sr, hr_si, hr_sj, hi_si, hj_sj, hr_sr, mg_si, mg_sj, mg_sr, Nat.reduceAdd, Nat.reduceMul, Nat.reduceSub, Nat.reduceLT, Nat.reduceGT, Nat.reduceEqDiff, Nat.reduceLeDiff, Nat.left_eq_add, Nat.add_eq_left, Nat.reduceMod, Nat.reduceDiv, Nat.succ_ne_self, i2, ir, t2, e, z0, r2]
      · rw [if_neg ci, List.append_nil]
        refine ⟨h1, H1, m1, fun Q => ?_⟩
        have ci' : i % 2 = 0 := by omega
        have e : (Int32.ofNat (i % 2) = 1) = False := by rw [ci']; decide
        clear H H1 mb m1 M S r
        simp (disch := omega) only [s_217_0, s_217_1, s_217_2, s_217_4, s_217_7, s_217_9, s_217_11, s_217_12, s_217_13, s_217_14, s_217_17, s_217_18, s_217_20, s_217_22, s_217_25, s_217_26, s_217_27, s_217_30, s_217_31, s_217_32, s_217_35, s_217_36, s_217_37, s_217_38, s_217_39, s_217_42, s_217_43, s_217_45, s_217_49, s_217_50, s_217_53, s_217_54, s_217_55, s_217_56, s_217_57, s_217_60, s_217_63, s_217_64, s_217_66, s_217_67, s_217_68, s_217_69, s_217_72, s_217_75, s_217_78, s_217_81, s_217_84, s_217_85, s_217_86, s_217_89, s_217_90, s_217_92, s_217_93, s_217_94, s_217_97, s_217_100, s_217_101, s_217_104, s_217_107, s_217_108, s_217_110, s_217_113, e_217, mv_i_1, mv_l_1, mv_a_1, mv_a_2, mv_a_3, mk2_n, mk2_i, mk2_l, mk2_a, mk2_u, mk2_x, mB_T, mB_F, mS_cons, mS_nil, mSB_T, mSB_F, mca_nil, mca_i, mca_l, mca_r, mca_u, mca_x, mcat_i, mcat_l, mcat_r, mcat_u, mcat_x, mK_some, mK_none, va_rf_s, va_rf_n, lgc_eq, lgc_lt, lgc_gt, lgc_ge, lgc_le, mrd_104, mrd_105, mrd_106, mrd_107, true_and, and_true, and_self, false_and, and_false, true_or, or_true, false_or, or_false, not_true_eq_false, not_false_eq_true, mgb, mga, mgr, mN, reduceCtorEq, ↓reduceIte, eq_self, ge_iff_le, gt_iff_lt, hk_si, hk_sj, hk_sr, hl_si, hl_sj, hl_sr, hn_si, hn_sj, hn_sr, hs_si, hs_sj, hs_sr, hi_sj, hi_sr, hj_si, hj_sr, hr_si, hr_sj, hi_si, hj_sj, hr_sr, mg_si, mg_sj, mg_sr, Nat.reduceAdd, Nat.reduceMul, Nat.reduceSub, Nat.reduceLT, Nat.reduceGT, Nat.reduceEqDiff, Nat.reduceLeDiff, Nat.left_eq_add, Nat.add_eq_left, Nat.reduceMod, Nat.reduceDiv, Nat.succ_ne_self, i2, ir, t2, e]
    obtain ⟨h2, H2, m2, r2⟩ := A1
    have s1 : (if i % 2 = 1 then [(45 : Int32)] else []).length ≤ 1 := by split <;> decide
    obtain ⟨-, q20, q22, r22, -⟩ := TB_l H2.f M (by omega)
    have a82 := w_82 (d := d + 5) H2.f M (x := i / 2) (by omega)
    obtain ⟨h3, H3, m3, r3⟩ := w_221 (d := d + 3) M (by omega) n2 n3 H2 m2 (by rw [List.length_append]; omega)
    -- the sign between
    have A2 : ∃ h4, LNc h0 h4 s0 (wCm L ++ (if i % 2 = 1 then [45] else []) ++ nmX Bt n (np (i / 2)) ++ (if j % 2 = 1 then [32, 45, 32] else [32, 43, 32])) ∧ mbf h4 ∧ ∀ Q, mw (d + 6) 217 Q 63 [some (.ref 0), some (.int (Int32.ofNat p)), some (.ref o), some (.int (Int32.ofNat i)), some (.int (Int32.ofNat j)), some (.long y1), none] [] h3 = mw (d + 6) 217 Q 84 [some (.ref 0), some (.int (Int32.ofNat p)), some (.ref o), some (.int (Int32.ofNat i)), some (.int (Int32.ofNat j)), some (.long y1), none] [] h4 := by
      have z0 := fz_mg H3.f M.g0
      by_cases cj : j % 2 = 1
      · have l2 : xL 2 = 3 := by decide +kernel
        obtain ⟨h4, H4, m4, r4⟩ := w_222 (d := d + 1) M.g0 (j := 2) (by decide) H3 m3 (by simp only [List.length_append]; omega)
        rw [xW_all.2.2.1] at H4
        rw [if_pos cj]
        refine ⟨h4, H4, m4, fun Q => ?_⟩
        have r4' : ∀ Q, mcall (d + 5) 222 [.ref 0, .retAddr 9] h3 Q = Q none h4 := r4
        have e : (Int32.ofNat (j % 2) = 1) = True := by rw [cj]; decide
        clear H H1 H2 H3 H4 mb m1 m2 m3 m4 M S r r4
        simp (disch := omega) only [s_217_0, s_217_1, s_217_2, s_217_4, s_217_7, s_217_9, s_217_11, s_217_12, s_217_13, s_217_14, s_217_17, s_217_18, s_217_20, s_217_22, s_217_25, s_217_26, s_217_27, s_217_30, s_217_31, s_217_32, s_217_35, s_217_36, s_217_37, s_217_38, s_217_39, s_217_42, s_217_43, s_217_45, s_217_48, s_217_49, s_217_50, s_217_53, s_217_54, s_217_55, s_217_56, s_217_57, s_217_60, s_217_63, s_217_64, s_217_66, s_217_67, s_217_68, s_217_69, s_217_72, s_217_75, s_217_78, s_217_81, s_217_85, s_217_86, s_217_89, s_217_90, s_217_92, s_217_93, s_217_94, s_217_97, s_217_100, s_217_101, s_217_104, s_217_107, s_217_108, s_217_110, s_217_113, e_217, mv_i_1, mv_l_1, mv_a_1, mv_a_2, mv_a_3, mk2_n, mk2_i, mk2_l, mk2_a, mk2_u, mk2_x, mB_T, mB_F, mS_cons, mS_nil, mSB_T, mSB_F, mca_nil, mca_i, mca_l, mca_r, mca_u, mca_x, mcat_i, mcat_l, mcat_r, mcat_u, mcat_x, mK_some, mK_none, va_rf_s, va_rf_n, lgc_eq, lgc_lt, lgc_gt, lgc_ge, lgc_le, mrd_104, mrd_105, mrd_106, mrd_107, true_and, and_true, and_self, false_and, and_false, true_or, or_true, false_or, or_false, not_true_eq_false, not_false_eq_true, mgb, mga, mgr, mN, reduceCtorEq, ↓reduceIte, eq_self, ge_iff_le, gt_iff_lt, hk_si, hk_sj, hk_sr, hl_si, hl_sj, hl_sr, hn_si, hn_sj, hn_sr, hs_si, hs_sj, hs_sr, hi_sj, hi_sr, hj_si, hj_sr, hr_si, hr_sj, hi_si, hj_sj, hr_sr, mg_si, mg_sj, mg_sr, Nat.reduceAdd, Nat.reduceMul, Nat.reduceSub, Nat.reduceLT, Nat.reduceGT, Nat.reduceEqDiff, Nat.reduceLeDiff, Nat.left_eq_add, Nat.add_eq_left, Nat.reduceMod, Nat.reduceDiv, Nat.succ_ne_self, j2, jr, t2, e, z0, r4']
      · have l3 : xL 3 = 3 := by decide +kernel
        obtain ⟨h4, H4, m4, r4⟩ := w_222 (d := d + 1) M.g0 (j := 3) (by decide) H3 m3 (by simp only [List.length_append]; omega)
        rw [xW_all.2.2.2.1] at H4
        rw [if_neg cj]
        refine ⟨h4, H4, m4, fun Q => ?_⟩
        have r4' : ∀ Q, mcall (d + 5) 222 [.ref 0, .retAddr 12] h3 Q = Q none h4 := r4
        have cj' : j % 2 = 0 := by omega
        have e : (Int32.ofNat (j % 2) = 1) = False := by rw [cj']; decide
        clear H H1 H2 H3 H4 mb m1 m2 m3 m4 M S r r4
        simp (disch := omega) only [s_217_0, s_217_1, s_217_2, s_217_4, s_217_7, s_217_9, s_217_11, s_217_12, s_217_13, s_217_14, s_217_17, s_217_18, s_217_20, s_217_22, s_217_25, s_217_26, s_217_27, s_217_30, s_217_31, s_217_32, s_217_35, s_217_36, s_217_37, s_217_38, s_217_39, s_217_42, s_217_43, s_217_45, s_217_48, s_217_49, s_217_50, s_217_53, s_217_54, s_217_55, s_217_56, s_217_57, s_217_60, s_217_63, s_217_64, s_217_66, s_217_67, s_217_68, s_217_69, s_217_72, s_217_75, s_217_78, s_217_81, s_217_85, s_217_86, s_217_89, s_217_90, s_217_92, s_217_93, s_217_94, s_217_97, s_217_100, s_217_101, s_217_104, s_217_107, s_217_108, s_217_110, s_217_113, e_217, mv_i_1, mv_l_1, mv_a_1, mv_a_2, mv_a_3, mk2_n, mk2_i, mk2_l, mk2_a, mk2_u, mk2_x, mB_T, mB_F, mS_cons, mS_nil, mSB_T, mSB_F, mca_nil, mca_i, mca_l, mca_r, mca_u, mca_x, mcat_i, mcat_l, mcat_r, mcat_u, mcat_x, mK_some, mK_none, va_rf_s, va_rf_n, lgc_eq, lgc_lt, lgc_gt, lgc_ge, lgc_le, mrd_104, mrd_105, mrd_106, mrd_107, true_and, and_true, and_self, false_and, and_false, true_or, or_true, false_or, or_false, not_true_eq_false, not_false_eq_true, mgb, mga, mgr, mN, reduceCtorEq, ↓reduceIte, eq_self, ge_iff_le, gt_iff_lt, hk_si, hk_sj, hk_sr, hl_si, hl_sj, hl_sr, hn_si, hn_sj, hn_sr, hs_si, hs_sj, hs_sr, hi_sj, hi_sr, hj_si, hj_sr, hr_si, hr_sj, hi_si, hj_sj, hr_sr, mg_si, mg_sj, mg_sr, Nat.reduceAdd, Nat.reduceMul, Nat.reduceSub, Nat.reduceLT, Nat.reduceGT, Nat.reduceEqDiff, Nat.reduceLeDiff, Nat.left_eq_add, Nat.add_eq_left, Nat.reduceMod, Nat.reduceDiv, Nat.succ_ne_self, j2, jr, t2, e, z0, r4']
    obtain ⟨h4, H4, m4, r4⟩ := A2
    have s2 : (if j % 2 = 1 then [(32 : Int32), 45, 32] else [32, 43, 32]).length = 3 := by split <;> rfl
    obtain ⟨-, q40, q42, r42, -⟩ := TB_l H4.f M (by omega)
    have b82 := w_82 (d := d + 5) H4.f M (x := j / 2) (by omega)
    obtain ⟨h5, H5, m5, r5⟩ := w_221 (d := d + 3) M (by omega) o2 o3 H4 m4 (by simp only [List.length_append, s2]; omega)
    have l4 : xL 4 = 4 := by decide +kernel
    obtain ⟨h6, H6, m6, r6⟩ := w_222 (d := d + 1) M.g0 (j := 4) (by decide) H5 m5 (by simp only [List.length_append, s2]; omega)
    rw [xW_all.2.2.2.2.1] at H6
    obtain ⟨h7, H7, m7, r7⟩ := w_223 (d := d + 3) (v := y1) M.g0 (by omega) H6 m6 (by simp only [List.length_append, List.length_cons, List.length_nil, s2]; omega)
    rw [ey1'] at H7
    refine ⟨h7, H7, m7, fun Q => ?_⟩
    have r6' : ∀ Q, mcall (d + 5) 222 [.ref 0, .retAddr 15] h5 Q = Q none h6 := r6
    have z0 := fz_mg H.f M.g0
    have z5 := fz_mg H5.f M.g0
    have z6 := fz_mg H6.f M.g0
    clear H H1 H2 H3 H4 H5 H6 H7 mb m1 m2 m3 m4 m5 m6 m7 M S r r6
    simp (disch := omega) only [e_217, s_217_0, s_217_1, s_217_2, s_217_4, s_217_7, s_217_9, s_217_11, s_217_12, s_217_13, s_217_14, s_217_17, s_217_18, s_217_20, s_217_22, s_217_25, s_217_26, s_217_27, s_217_30, s_217_31, s_217_32, s_217_36, s_217_37, s_217_38, s_217_39, s_217_42, s_217_43, s_217_45, s_217_49, s_217_50, s_217_53, s_217_54, s_217_55, s_217_56, s_217_57, s_217_60, s_217_64, s_217_66, s_217_67, s_217_68, s_217_69, s_217_72, s_217_75, s_217_78, s_217_81, s_217_85, s_217_86, s_217_89, s_217_90, s_217_92, s_217_93, s_217_94, s_217_97, s_217_100, s_217_101, s_217_104, s_217_107, s_217_108, s_217_110, s_217_113, e_217, mv_i_1, mv_l_1, mv_a_1, mv_a_2, mv_a_3, mk2_n, mk2_i, mk2_l, mk2_a, mk2_u, mk2_x, mB_T, mB_F, mS_cons, mS_nil, mSB_T, mSB_F, mca_nil, mca_i, mca_l, mca_r, mca_u, mca_x, mcat_i, mcat_l, mcat_r, mcat_u, mcat_x, mK_some, mK_none, va_rf_s, va_rf_n, lgc_eq, lgc_lt, lgc_gt, lgc_ge, lgc_le, mrd_104, mrd_105, mrd_106, mrd_107, true_and, and_true, and_self, false_and, and_false, true_or, or_true, false_or, or_false, not_true_eq_false, not_false_eq_true, mgb, mga, mgr, mN, reduceCtorEq, ↓reduceIte, eq_self, ge_iff_le, gt_iff_lt, hk_si, hk_sj, hk_sr, hl_si, hl_sj, hl_sr, hn_si, hn_sj, hn_sr, hs_si, hs_sj, hs_sr, hi_sj, hi_sr, hj_si, hj_sr, hr_si, hr_sj, hi_si, hj_sj, hr_sr, mg_si, mg_sj, mg_sr, Nat.reduceAdd, Nat.reduceMul, Nat.reduceSub, Nat.reduceLT, Nat.reduceGT, Nat.reduceEqDiff, Nat.reduceLeDiff, Nat.left_eq_add, Nat.add_eq_left, Nat.reduceMod, Nat.reduceDiv, Nat.succ_ne_self, g1, g2, g3, lt, z0, r1, r2, gS]
    rw [s_217_48]
    simp (disch := omega) only [s_217_0, s_217_1, s_217_2, s_217_4, s_217_7, s_217_9, s_217_11, s_217_12, s_217_13, s_217_14, s_217_17, s_217_18, s_217_20, s_217_22, s_217_25, s_217_26, s_217_27, s_217_30, s_217_31, s_217_32, s_217_36, s_217_37, s_217_38, s_217_39, s_217_42, s_217_43, s_217_45, s_217_49, s_217_50, s_217_53, s_217_54, s_217_55, s_217_56, s_217_57, s_217_60, s_217_64, s_217_66, s_217_67, s_217_68, s_217_69, s_217_72, s_217_75, s_217_78, s_217_81, s_217_85, s_217_86, s_217_89, s_217_90, s_217_92, s_217_93, s_217_94, s_217_97, s_217_100, s_217_101, s_217_104, s_217_107, s_217_108, s_217_110, s_217_113, e_217, mv_i_1, mv_l_1, mv_a_1, mv_a_2, mv_a_3, mk2_n, mk2_i, mk2_l, mk2_a, mk2_u, mk2_x, mB_T, mB_F, mS_cons, mS_nil, mSB_T, mSB_F, mca_nil, mca_i, mca_l, mca_r, mca_u, mca_x, mcat_i, mcat_l, mcat_r, mcat_u, mcat_x, mK_some, mK_none, va_rf_s, va_rf_n, lgc_eq, lgc_lt, lgc_gt, lgc_ge, lgc_le, mrd_104, mrd_105, mrd_106, mrd_107, true_and, and_true, and_self, false_and, and_false, true_or, or_true, false_or, or_false, not_true_eq_false, not_false_eq_true, mgb, mga, mgr, mN, reduceCtorEq, ↓reduceIte, eq_self, ge_iff_le, gt_iff_lt, hk_si, hk_sj, hk_sr, hl_si, hl_sj, hl_sr, hn_si, hn_sj, hn_sr, hs_si, hs_sj, hs_sr, hi_sj, hi_sr, hj_si, hj_sr, hr_si, hr_sj, hi_si, hj_sj, hr_sr, mg_si, mg_sj, mg_sr, Nat.reduceAdd, Nat.reduceMul, Nat.reduceSub, Nat.reduceLT, Nat.reduceGT, Nat.reduceEqDiff, Nat.reduceLeDiff, Nat.left_eq_add, Nat.add_eq_left, Nat.reduceMod, Nat.reduceDiv, Nat.succ_ne_self, q20, q22, r22, i2, t2, a82, r3, r4]
    rw [s_217_84]
    simp (disch := omega) only [s_217_0, s_217_1, s_217_2, s_217_4, s_217_7, s_217_9, s_217_11, s_217_12, s_217_13, s_217_14, s_217_17, s_217_18, s_217_20, s_217_22, s_217_25, s_217_26, s_217_27, s_217_30, s_217_31, s_217_32, s_217_36, s_217_37, s_217_38, s_217_39, s_217_42, s_217_43, s_217_45, s_217_49, s_217_50, s_217_53, s_217_54, s_217_55, s_217_56, s_217_57, s_217_60, s_217_64, s_217_66, s_217_67, s_217_68, s_217_69, s_217_72, s_217_75, s_217_78, s_217_81, s_217_85, s_217_86, s_217_89, s_217_90, s_217_92, s_217_93, s_217_94, s_217_97, s_217_100, s_217_101, s_217_104, s_217_107, s_217_108, s_217_110, s_217_113, e_217, mv_i_1, mv_l_1, mv_a_1, mv_a_2, mv_a_3, mk2_n, mk2_i, mk2_l, mk2_a, mk2_u, mk2_x, mB_T, mB_F, mS_cons, mS_nil, mSB_T, mSB_F, mca_nil, mca_i, mca_l, mca_r, mca_u, mca_x, mcat_i, mcat_l, mcat_r, mcat_u, mcat_x, mK_some, mK_none, va_rf_s, va_rf_n, lgc_eq, lgc_lt, lgc_gt, lgc_ge, lgc_le, mrd_104, mrd_105, mrd_106, mrd_107, true_and, and_true, and_self, false_and, and_false, true_or, or_true, false_or, or_false, not_true_eq_false, not_false_eq_true, mgb, mga, mgr, mN, reduceCtorEq, ↓reduceIte, eq_self, ge_iff_le, gt_iff_lt, hk_si, hk_sj, hk_sr, hl_si, hl_sj, hl_sr, hn_si, hn_sj, hn_sr, hs_si, hs_sj, hs_sr, hi_sj, hi_sr, hj_si, hj_sr, hr_si, hr_sj, hi_si, hj_sj, hr_sr, mg_si, mg_sj, mg_sr, Nat.reduceAdd, Nat.reduceMul, Nat.reduceSub, Nat.reduceLT, Nat.reduceGT, Nat.reduceEqDiff, Nat.reduceLeDiff, Nat.left_eq_add, Nat.add_eq_left, Nat.reduceMod, Nat.reduceDiv, Nat.succ_ne_self, q40, q42, r42, j2, t2, b82, r5, z5, r6', z6, r7]
  · have lt : (y1 < y2 + y3) = False := eq_false (by rw [Int64.lt_iff_toInt_lt, es, ey1']; exact c)
    unfold gPr
    rw [if_neg c]
    refine ⟨h, H, mb, fun Q => ?_⟩
    clear H mb M S r
    simp (disch := omega) only [s_217_0, s_217_1, s_217_2, s_217_4, s_217_7, s_217_9, s_217_11, s_217_12, s_217_13, s_217_14, s_217_17, s_217_18, s_217_20, s_217_22, s_217_25, s_217_26, s_217_27, s_217_30, s_217_31, s_217_32, s_217_35, s_217_36, s_217_37, s_217_38, s_217_39, s_217_42, s_217_43, s_217_45, s_217_48, s_217_49, s_217_50, s_217_53, s_217_54, s_217_55, s_217_56, s_217_57, s_217_60, s_217_63, s_217_64, s_217_66, s_217_67, s_217_68, s_217_69, s_217_72, s_217_75, s_217_78, s_217_81, s_217_84, s_217_85, s_217_86, s_217_89, s_217_90, s_217_92, s_217_93, s_217_94, s_217_97, s_217_100, s_217_101, s_217_104, s_217_107, s_217_108, s_217_110, s_217_113, e_217, mv_i_1, mv_l_1, mv_a_1, mv_a_2, mv_a_3, mk2_n, mk2_i, mk2_l, mk2_a, mk2_u, mk2_x, mB_T, mB_F, mS_cons, mS_nil, mSB_T, mSB_F, mca_nil, mca_i, mca_l, mca_r, mca_u, mca_x, mcat_i, mcat_l, mcat_r, mcat_u, mcat_x, mK_some, mK_none, va_rf_s, va_rf_n, lgc_eq, lgc_lt, lgc_gt, lgc_ge, lgc_le, mrd_104, mrd_105, mrd_106, mrd_107, true_and, and_true, and_self, false_and, and_false, true_or, or_true, false_or, or_false, not_true_eq_false, not_false_eq_true, mgb, mga, mgr, mN, reduceCtorEq, ↓reduceIte, eq_self, ge_iff_le, gt_iff_lt, hk_si, hk_sj, hk_sr, hl_si, hl_sj, hl_sr, hn_si, hn_sj, hn_sr, hs_si, hs_sj, hs_sr, hi_sj, hi_sr, hj_si, hj_sr, hr_si, hr_sj, hi_si, hj_sj, hr_sr, mg_si, mg_sj, mg_sr, Nat.reduceAdd, Nat.reduceMul, Nat.reduceSub, Nat.reduceLT, Nat.reduceGT, Nat.reduceEqDiff, Nat.reduceLeDiff, Nat.left_eq_add, Nat.add_eq_left, Nat.reduceMod, Nat.reduceDiv, Nat.succ_ne_self, g1, g2, g3, lt, gS]
end LDs
