set_option maxRecDepth 100000
/-! Analysis.skip, swapKept, beginLast -/
section SKs
variable {d : Nat} {h : mh_H} {Y C E TT UU SC SP nC nE nS : Nat} {G : pgm} {cnt k e : Nat}
def skV (p e b j : Nat) : Prop := b = 54 ∧ p ≤ j ∧ j < e
def skU (p e b j : Nat) : Prop := (b = 55 ∧ p ≤ j ∧ j < e) ∨ (b = 53 ∧ j = 7)
theorem sk_l (he : e ≤ cnt) : ∀ m q (h : mh_H), q + m = e → BS h Y C E TT UU SC SP nC nE nS → PH h G cnt → pv h 53 6 none → (∀ i, q ≤ i → i < e → mh_r h 54 i ≠ none) → ∃ h', zS (skV q e) (skU q e) h h' ∧ BS h' Y C E TT UU SC SP nC nE nS ∧ pv h' 53 6 none ∧ (∀ i, q ≤ i → i < e → pv h' 54 i none ∧ mh_i h' 55 i = 0) ∧ ∀ Q, mw (d + 2) 3 Q 5 [some (.ref 53), some (.int (Int32.ofNat e)), some (.int (Int32.ofNat q))] [] h = mw (d + 2) 3 Q 61 [some (.ref 53), some (.int (Int32.ofNat e)), some (.int (Int32.ofNat e))] [] h' := by
  intro m
  induction m with
  | zero =>
    intro q h hq B H kn nn
    have cb := H.b
    have e0 : q = e := by omega
    subst e0
    refine ⟨h, zS_id, B, kn, fun i i1 i2 => by omega, fun Q => ?_⟩
    have le : (q ≤ q) = True := eq_true (Nat.le_refl _)
    simp (disch := omega) only [s_3_0, s_3_1, s_3_4, s_3_5, s_3_6, s_3_7, s_3_10, s_3_11, s_3_14, s_3_15, s_3_16, s_3_17, s_3_20, s_3_23, s_3_24, s_3_27, s_3_28, s_3_29, s_3_30, s_3_33, s_3_34, s_3_37, s_3_38, s_3_41, s_3_42, s_3_45, s_3_48, s_3_49, s_3_52, s_3_53, s_3_54, s_3_55, s_3_58, s_3_62, s_3_63, s_3_66, e_3, mv_i_1, mv_l_1, mv_a_1, mv_a_2, mv_a_3, mk2_n, mk2_i, mk2_l, mk2_a, mk2_u, mk2_x, mB_T, mB_F, mS_cons, mS_nil, mSB_T, mSB_F, mca_nil, mca_i, mca_l, mca_r, mca_u, mca_x, mcat_i, mcat_l, mcat_r, mcat_u, mcat_x, mK_some, mK_none, va_rf_s, va_rf_n, lgc_eq, lgc_lt, lgc_gt, lgc_ge, lgc_le, mrd_104, mrd_105, mrd_106, mrd_107, true_and, and_true, and_self, false_and, and_false, true_or, or_true, false_or, or_false, not_true_eq_false, not_false_eq_true, mgb, mga, mgr, mN, reduceCtorEq, ↓reduceIte, eq_self, ge_iff_le, gt_iff_lt, hk_si, hk_sj, hk_sr, hl_si, hl_sj, hl_sr, hn_si, hn_sj, hn_sr, hs_si, hs_sj, hs_sr, hi_sj, hi_sr, hj_si, hj_sr, hr_si, hr_sj, hi_si, hj_sj, hr_sr, mg_si, mg_sj, mg_sr, Nat.reduceAdd, Nat.reduceMul, Nat.reduceSub, Nat.reduceLT, Nat.reduceGT, Nat.reduceEqDiff, Nat.reduceLeDiff, Nat.left_eq_add, Nat.add_eq_left, Nat.reduceMod, Nat.reduceDiv, Nat.succ_ne_self, nn_le, le]
  | succ m ih =>
    intro q h hq B H kn nn
    have cb := H.b
    have hqc : q < cnt := by omega
    obtain ⟨o, e1⟩ : ∃ o, mh_r h 54 q = some o := by
      cases hc : mh_r h 54 q with
      | none => exact absurd hc (nn q (by omega) (by omega))
      | some o => exact ⟨o, rfl⟩
    obtain ⟨w, e2, kw⟩ := kn
    have p1 : isPl 54 q := by unfold isPl; omega
    have p2 : isPl 53 6 := by unfold isPl; omega
    obtain ⟨h1, x1, B1, er1, k1, c1⟩ := w_copy (d := d) B p1 p2 (by omega) e1 e2 ⟨w, e2, kw⟩
    have H1 := PH_s B x1 (fun _ _ u => u.elim) H
    have kk := H.k q hqc
    obtain ⟨h2, x2, B2, er2, k2, c2⟩ := w_keep (d := d + 1) B1 (n := G.n q) (a := G.a q) p1 (by rw [er1]; exact e1) k1 kk.2.1 kk.2.2 (fun A z => by cases z)
    obtain ⟨x3, B3⟩ := zS_i (k := q) (v := 0) B2 (Or.inr (Or.inl rfl))
    have x13 : zS (skV q e) (skU q e) h (mh_si h2 55 q 0) := zS_t (zS_w x1 (fun b j z => by unfold skV; omega) (fun _ _ u => u.elim)) (zS_t (zS_w x2 (fun b j z => by unfold skV; omega) (fun _ _ u => u.elim)) (zS_w x3 (fun _ _ u => u.elim) (fun b j z => by unfold skU; omega)))
    have H3 := PH_s B x13 (fun b j u => by unfold skU at u; unfold aI; omega) H
    have kn3 : pv (mh_si h2 55 q 0) 53 6 none := x13.pp 53 6 none p2 (by unfold skV; omega) ⟨w, e2, kw⟩
    obtain ⟨h4, x4, B4, kn4, all, run⟩ := ih (q + 1) (mh_si h2 55 q 0) (by omega) B3 H3 kn3 (fun i i1 i2 => x13.pn 54 i (by unfold isPl; omega) (by omega) (nn i (by omega) i2))
    have kq : pv (mh_si h2 55 q 0) 54 q none := x3.pp 54 q none p1 (fun z => z) k2
    refine ⟨h4, zS_t x13 (zS_w x4 (fun b j z => by unfold skV at z ⊢; omega) (fun b j z => by unfold skU at z ⊢; omega)), B4, kn4, fun i i1 i2 => ?_, fun Q => ?_⟩
    · by_cases c : i = q
      · subst c
        refine ⟨x4.pp 54 i none p1 (by unfold skV; omega) kq, ?_⟩
        rw [x4.ii 55 100 i (B3.F.g 55 100 250 (by decide +kernel)) (by omega) (by omega) (by unfold eff; omega) (by unfold skU; omega), hi_si, if_pos ⟨rfl, rfl⟩]
      · exact all i (by omega) i2
    · obtain ⟨St, nb, nm, na, nx, q1, q2, q3, q4, q5, q6, q7, q8, q9⟩ := H1.s q hqc
      have c80 := c_80 (d := d + 1) (nm := nm) B1.F (by omega : q < 250) q4 q1 q2 q5
      have c81 := c_81 (d := d + 1) (nm := nx) B1.F (by omega : q < 250) q7 q1 q2 q8
      rw [q6] at c80
      rw [q9] at c81
      have F := B.F
      have F1 := B1.F
      have F2 := B2.F
      have g53 := F.g 53 0 17 (by decide +kernel)
      have t0 := F.f 53 0 54 (by decide +kernel)
      have g54 := (F.g 54 104 250 (by decide +kernel)).1
      have g54' := (F.g 54 104 250 (by decide +kernel)).2
      have l54 := F.l 54 104 250 (by decide +kernel)
      have gO := (cs_so B.S ⟨54, q, p1, e1⟩).1.1
      have gW := (cs_so B.S ⟨53, 6, p2, e2⟩).1.1
      have g531 := F1.g 53 0 17 (by decide +kernel)
      have g21 := F1.g 2 4 20 (by decide +kernel)
      have t4 := F.f 53 4 2 (by decide +kernel)
      have g541 := (F1.g 54 104 250 (by decide +kernel)).1
      have g541' := (F1.g 54 104 250 (by decide +kernel)).2
      have l541 := F1.l 54 104 250 (by decide +kernel)
      have gO1 := zS_g x1 gO
      have g532 := F2.g 53 0 17 (by decide +kernel)
      have t1 := F2.f 53 1 55 (by decide +kernel)
      have g55 := F2.g 55 100 250 (by decide +kernel)
      have l55 := F2.l 55 100 250 (by decide +kernel)
      have le : (e ≤ q) = False := eq_false (by omega)
      have ei : ∀ k, Int32.ofNat k + 1 = Int32.ofNat (k + 1) := fun k => nn_add (a := k) (b := 1)
      clear B H H1 H3 nn ih x1 x2 x3 x13 x4 B1 B2 B3 B4 kn3 kn4 all kw k1 k2 kq F F1 F2
      refine s_3_5.trans ?_
      simp (disch := omega) only [s_3_0, s_3_1, s_3_4, s_3_6, s_3_7, s_3_10, s_3_11, s_3_14, s_3_15, s_3_16, s_3_17, s_3_20, s_3_23, s_3_24, s_3_27, s_3_28, s_3_29, s_3_30, s_3_33, s_3_34, s_3_37, s_3_38, s_3_41, s_3_42, s_3_45, s_3_48, s_3_49, s_3_52, s_3_53, s_3_54, s_3_55, s_3_58, s_3_62, s_3_63, s_3_66, e_3, mv_i_1, mv_l_1, mv_a_1, mv_a_2, mv_a_3, mk2_n, mk2_i, mk2_l, mk2_a, mk2_u, mk2_x, mB_T, mB_F, mS_cons, mS_nil, mSB_T, mSB_F, mca_nil, mca_i, mca_l, mca_r, mca_u, mca_x, mcat_i, mcat_l, mcat_r, mcat_u, mcat_x, mK_some, mK_none, va_rf_s, va_rf_n, lgc_eq, lgc_lt, lgc_gt, lgc_ge, lgc_le, mrd_104, mrd_105, mrd_106, mrd_107, true_and, and_true, and_self, false_and, and_false, true_or, or_true, false_or, or_false, not_true_eq_false, not_false_eq_true, mgb, mga, mgr, mN, reduceCtorEq, ↓reduceIte, eq_self, ge_iff_le, gt_iff_lt, hk_si, hk_sj, hk_sr, hl_si, hl_sj, hl_sr, hn_si, hn_sj, hn_sr, hs_si, hs_sj, hs_sr, hi_sj, hi_sr, hj_si, hj_sr, hr_si, hr_sj, hi_si, hj_sj, hr_sr, mg_si, mg_sj, mg_sr, Nat.reduceAdd, Nat.reduceMul, Nat.reduceSub, Nat.reduceLT, Nat.reduceGT, Nat.reduceEqDiff, Nat.reduceLeDiff, Nat.left_eq_add, Nat.add_eq_left, Nat.reduceMod, Nat.reduceDiv, Nat.succ_ne_self, nn_le, le, g53, t0, g54, g54', l54, e1, gO, e2, gW, c1, g531, er1, g541, g541', l541, gO1, t4, g21, c80, c81, c2, g532, t1, g55, l55, ei, nn_mxT, nn_clamp, run]
theorem c_3 {p : Nat} (B : BS h Y C E TT UU SC SP nC nE nS) (H : PH h G cnt) (hat : mh_i h 53 7 = Int32.ofNat p) (hp : p ≤ e) (he : e ≤ cnt) (kn : pv h 53 6 none) (nn : ∀ i, p ≤ i → i < e → mh_r h 54 i ≠ none) : ∃ h', zS (skV p e) (skU p e) h h' ∧ BS h' Y C E TT UU SC SP nC nE nS ∧ pv h' 53 6 none ∧ (∀ i, p ≤ i → i < e → pv h' 54 i none ∧ mh_i h' 55 i = 0) ∧ mh_i h' 53 7 = Int32.ofNat e ∧ ∀ Q, mcall (d + 2) 3 [.ref 53, .int (Int32.ofNat e)] h Q = Q none h' := by
  obtain ⟨h1, x1, B1, k1, all, run⟩ := sk_l (d := d) he (e - p) p h (by omega) B H kn nn
  obtain ⟨x2, B2⟩ := zS_i (k := 7) (v := Int32.ofNat e) B1 (Or.inl rfl)
  refine ⟨mh_si h1 53 7 (Int32.ofNat e), zS_t x1 (zS_w x2 (fun _ _ u => u.elim) (fun b j z => by unfold skU; omega)), B2, x2.pp 53 6 none (by unfold isPl; omega) (fun z => z) k1, fun i i1 i2 => ⟨x2.pp 54 i none (by unfold isPl; omega) (fun z => z) (all i i1 i2).1, by rw [hi_si, if_neg (by omega)]; exact (all i i1 i2).2⟩, by rw [hi_si, if_pos ⟨rfl, rfl⟩], fun Q => ?_⟩
  have g53 := B.F.g 53 0 17 (by decide +kernel)
  have g531 := B1.F.g 53 0 17 (by decide +kernel)
  clear x1 x2 B1 B2 k1 all B H kn nn
  simp (disch := omega) only [s_3_0, s_3_1, s_3_4, s_3_6, s_3_7, s_3_10, s_3_11, s_3_14, s_3_15, s_3_16, s_3_17, s_3_20, s_3_23, s_3_24, s_3_27, s_3_28, s_3_29, s_3_30, s_3_33, s_3_34, s_3_37, s_3_38, s_3_41, s_3_42, s_3_45, s_3_48, s_3_49, s_3_52, s_3_53, s_3_54, s_3_55, s_3_58, s_3_61, s_3_62, s_3_63, s_3_66, e_3, mv_i_1, mv_l_1, mv_a_1, mv_a_2, mv_a_3, mk2_n, mk2_i, mk2_l, mk2_a, mk2_u, mk2_x, mB_T, mB_F, mS_cons, mS_nil, mSB_T, mSB_F, mca_nil, mca_i, mca_l, mca_r, mca_u, mca_x, mcat_i, mcat_l, mcat_r, mcat_u, mcat_x, mK_some, mK_none, va_rf_s, va_rf_n, lgc_eq, lgc_lt, lgc_gt, lgc_ge, lgc_le, mrd_104, mrd_105, mrd_106, mrd_107, true_and, and_true, and_self, false_and, and_false, true_or, or_true, false_or, or_false, not_true_eq_false, not_false_eq_true, mgb, mga, mgr, mN, reduceCtorEq, ↓reduceIte, eq_self, ge_iff_le, gt_iff_lt, hk_si, hk_sj, hk_sr, hl_si, hl_sj, hl_sr, hn_si, hn_sj, hn_sr, hs_si, hs_sj, hs_sr, hi_sj, hi_sr, hj_si, hj_sr, hr_si, hr_sj, hi_si, hj_sj, hr_sr, mg_si, mg_sj, mg_sr, Nat.reduceAdd, Nat.reduceMul, Nat.reduceSub, Nat.reduceLT, Nat.reduceGT, Nat.reduceEqDiff, Nat.reduceLeDiff, Nat.left_eq_add, Nat.add_eq_left, Nat.reduceMod, Nat.reduceDiv, Nat.succ_ne_self, g53, hat, run, g531]
/-- swapKept -/
theorem c_7 (B : BS h Y C E TT UU SC SP nC nE nS) {v u : Option ab} (hk : k < 250) (k1 : pv h 61 k v) (k2 : pv h 53 6 u) : ∃ h', zS (fun b j => (b = 61 ∧ j = k) ∨ (b = 53 ∧ j = 6)) (fun _ _ => False) h h' ∧ BS h' Y C E TT UU SC SP nC nE nS ∧ pv h' 61 k u ∧ pv h' 53 6 v ∧ ∀ Q, mcall d 7 [.ref 53, .int (Int32.ofNat k)] h Q = Q none h' := by
  have p1 : isPl 61 k := by unfold isPl; omega
  have p2 : isPl 53 6 := by unfold isPl; omega
  obtain ⟨o1, e1, -⟩ := id k1
  obtain ⟨o2, e2, -⟩ := id k2
  obtain ⟨x, B', q1, q2⟩ := pl_swap B ⟨p1, by omega, by omega⟩ ⟨p2, by omega, by omega⟩ (by omega) e1 e2
  refine ⟨_, x, B', q2 u k2, q1 v k1, fun Q => ?_⟩
  have F := B.F
  have g53 := F.g 53 0 17 (by decide +kernel)
  have t11 := F.f 53 11 61 (by decide +kernel)
  have g61 := (F.g 61 104 250 (by decide +kernel)).1
  have g61' := (F.g 61 104 250 (by decide +kernel)).2
  have l61 := F.l 61 104 250 (by decide +kernel)
  have gO := (cs_so B.S ⟨61, k, p1, e1⟩).1.1
  have gW := (cs_so B.S ⟨53, 6, p2, e2⟩).1.1
  have ac : me_ac 104 = 8 := by decide
  clear x B' q1 q2 k1 k2 B F
  simp (disch := omega) only [s_7_0, s_7_1, s_7_4, s_7_5, s_7_6, s_7_6n, s_7_6x, s_7_7, s_7_8, s_7_11, s_7_12, s_7_13, s_7_16, s_7_16n, s_7_16x, s_7_17, s_7_18, s_7_19, s_7_19n, s_7_22, e_7, mv_i_1, mv_l_1, mv_a_1, mv_a_2, mv_a_3, mk2_n, mk2_i, mk2_l, mk2_a, mk2_u, mk2_x, mB_T, mB_F, mS_cons, mS_nil, mSB_T, mSB_F, mca_nil, mca_i, mca_l, mca_r, mca_u, mca_x, mcat_i, mcat_l, mcat_r, mcat_u, mcat_x, mK_some, mK_none, va_rf_s, va_rf_n, lgc_eq, lgc_lt, lgc_gt, lgc_ge, lgc_le, mrd_104, mrd_105, mrd_106, mrd_107, true_and, and_true, and_self, false_and, and_false, true_or, or_true, false_or, or_false, not_true_eq_false, not_false_eq_true, mgb, mga, mgr, mN, reduceCtorEq, ↓reduceIte, eq_self, ge_iff_le, gt_iff_lt, hk_si, hk_sj, hk_sr, hl_si, hl_sj, hl_sr, hn_si, hn_sj, hn_sr, hs_si, hs_sj, hs_sr, hi_sj, hi_sr, hj_si, hj_sr, hr_si, hr_sj, hi_si, hj_sj, hr_sr, mg_si, mg_sj, mg_sr, Nat.reduceAdd, Nat.reduceMul, Nat.reduceSub, Nat.reduceLT, Nat.reduceGT, Nat.reduceEqDiff, Nat.reduceLeDiff, Nat.left_eq_add, Nat.add_eq_left, Nat.reduceMod, Nat.reduceDiv, Nat.succ_ne_self, g53, t11, g61, g61', l61, e1, e2, gO, gW, ac, nn_mxT, nn_clamp]
/-- beginLast -/
theorem c_11 (B : BS h Y C E TT UU SC SP nC nE nS) {v : Option ab} (hk : k < 250) (k1 : pv h 63 k v) (nw : mh_r h 53 6 ≠ none) : ∃ h', zS (fun b j => b = 53 ∧ j = 6) (fun b j => b = 60 ∧ j = k) h h' ∧ BS h' Y C E TT UU SC SP nC nE nS ∧ pv h' 53 6 v ∧ mh_i h' 60 k = 2 ∧ ∀ Q, mcall (d + 2) 11 [.ref 53, .int (Int32.ofNat k)] h Q = Q none h' := by
  have p1 : isPl 63 k := by unfold isPl; omega
  have p2 : isPl 53 6 := by unfold isPl; omega
  obtain ⟨o2, e2⟩ : ∃ o, mh_r h 53 6 = some o := by
    cases hc : mh_r h 53 6 with
    | none => exact absurd hc nw
    | some o => exact ⟨o, rfl⟩
  obtain ⟨o1, e1, -⟩ := id k1
  obtain ⟨x1, B1⟩ := zS_i (k := k) (v := 2) B (Or.inr (Or.inr (Or.inr (Or.inl rfl))))
  obtain ⟨h2, x2, B2, er2, k2, c2⟩ := w_copy (d := d) B1 p2 p1 (by omega) e2 e1 (x1.pp 63 k v p1 (fun z => z) k1)
  refine ⟨h2, zS_t (zS_w x1 (fun _ _ z => z.elim) (fun _ _ z => z)) (zS_w x2 (fun _ _ z => z) (fun _ _ z => z.elim)), B2, k2, ?_, fun Q => ?_⟩
  · rw [x2.ii 60 100 k (B1.F.g 60 100 250 (by decide +kernel)) (by omega) (by omega) (by unfold eff; omega) (fun z => z), hi_si, if_pos ⟨rfl, rfl⟩]
  · have F := B.F
    have g53 := F.g 53 0 17 (by decide +kernel)
    have t10 := F.f 53 10 60 (by decide +kernel)
    have t13 := F.f 53 13 63 (by decide +kernel)
    have g60 := F.g 60 100 250 (by decide +kernel)
    have l60 := F.l 60 100 250 (by decide +kernel)
    have g63 := (F.g 63 104 250 (by decide +kernel)).1
    have g63' := (F.g 63 104 250 (by decide +kernel)).2
    have l63 := F.l 63 104 250 (by decide +kernel)
    have gO := (cs_so B.S ⟨63, k, p1, e1⟩).1.1
    have gW := (cs_so B.S ⟨53, 6, p2, e2⟩).1.1
    clear x1 x2 B1 B2 k2 k1 B F
    simp (disch := omega) only [s_11_0, s_11_1, s_11_4, s_11_5, s_11_6, s_11_7, s_11_8, s_11_11, s_11_12, s_11_15, s_11_16, s_11_17, s_11_20, e_11, mv_i_1, mv_l_1, mv_a_1, mv_a_2, mv_a_3, mk2_n, mk2_i, mk2_l, mk2_a, mk2_u, mk2_x, mB_T, mB_F, mS_cons, mS_nil, mSB_T, mSB_F, mca_nil, mca_i, mca_l, mca_r, mca_u, mca_x, mcat_i, mcat_l, mcat_r, mcat_u, mcat_x, mK_some, mK_none, va_rf_s, va_rf_n, lgc_eq, lgc_lt, lgc_gt, lgc_ge, lgc_le, mrd_104, mrd_105, mrd_106, mrd_107, true_and, and_true, and_self, false_and, and_false, true_or, or_true, false_or, or_false, not_true_eq_false, not_false_eq_true, mgb, mga, mgr, mN, reduceCtorEq, ↓reduceIte, eq_self, ge_iff_le, gt_iff_lt, hk_si, hk_sj, hk_sr, hl_si, hl_sj, hl_sr, hn_si, hn_sj, hn_sr, hs_si, hs_sj, hs_sr, hi_sj, hi_sr, hj_si, hj_sr, hr_si, hr_sj, hi_si, hj_sj, hr_sr, mg_si, mg_sj, mg_sr, Nat.reduceAdd, Nat.reduceMul, Nat.reduceSub, Nat.reduceLT, Nat.reduceGT, Nat.reduceEqDiff, Nat.reduceLeDiff, Nat.left_eq_add, Nat.add_eq_left, Nat.reduceMod, Nat.reduceDiv, Nat.succ_ne_self, g53, t10, t13, g60, l60, g63, g63', l63, e1, e2, gO, gW, c2, nn_mxT, nn_clamp]
end SKs
