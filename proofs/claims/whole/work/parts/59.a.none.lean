set_option maxRecDepth 100000
/-! the reference: no program; the table of functions -/
def noW (b j : Nat) : Prop := (b = 81 ∧ (j = 33 ∨ (64 ≤ j ∧ j ≤ 66))) ∨ ((100 ≤ b ∧ b ≤ 104) ∧ j = 0) ∨ (b = 115 ∧ ((7 ≤ j ∧ j ≤ 9) ∨ j = 13)) ∨ ((b = 118 ∨ b = 130 ∨ b = 131) ∧ j = 0) ∨ (132 ≤ b ∧ b ≤ 141)
def n4H (h : mh_H) : mh_H := mh_si (mh_si (mh_si (mh_si h 115 7 1) 115 8 0) 115 9 0) 115 13 0
def n3H (h : mh_H) : mh_H := mh_si (mh_si (mh_si h 118 0 0) 130 0 0) 131 0 0
def n9H (h : mh_H) : mh_H := mh_si (mh_si (mh_si (mh_si (mh_si (mh_si (mh_si (mh_si (mh_si h 81 33 1) 100 0 (-1)) 101 0 (-1)) 102 0 1) 103 0 0) 104 0 0) 81 64 0) 81 65 0) 81 66 0
section NOs
variable {d : Nat} {h h1 h2 : mh_H} {V : Nat → Prop} {W : Nat → Nat → Prop}
theorem fG_ofq (x : fq V h h1) (w : ∀ b j, V b → W b j) : fG W h h1 := ⟨x.1, x.2.1, x.2.2.1, x.2.2.2.1, x.2.2.2.2.1, fun b j hw => ⟨(x.2.2.2.2.2 b (fun z => hw (w b j z))).1 j, (x.2.2.2.2.2 b (fun z => hw (w b j z))).2 j⟩⟩
theorem RK_G {o : Nat} {A : Option ab} (x : fG W h h1) (w : ∀ y j, y ≤ 4 → ¬ W (o + y) j) (r : RK h o A) : RK h1 o A := RK_fq (W := fun b => ¬ (o ≤ b ∧ b ≤ o + 4)) ⟨x.1, x.2.1, x.2.2.1, x.2.2.2.1, x.2.2.2.2.1, fun b hb => by
  have hb' : o ≤ b ∧ b ≤ o + 4 := Classical.byContradiction hb
  have hw : ∀ j, ¬ W b j := fun j => by
    have := w (b - o) j (by omega)
    rw [show o + (b - o) = b from by omega] at this
    exact this
  exact ⟨fun j => (x.2.2.2.2.2 b j (hw j)).1, fun j => (x.2.2.2.2.2 b j (hw j)).2⟩⟩ (fun y hy z => z ⟨by omega, by omega⟩) r
theorem u_272 (F : RF h) {c0 : Option ab} (C0 : RK h 137 c0) : ∃ h', fG noW h h' ∧ (mh_i h' 115 7 = 1 ∧ mh_i h' 115 8 = 0 ∧ mh_i h' 115 9 = 0 ∧ mh_i h' 115 13 = 0) ∧ RK h' 132 (some A00) ∧ RK h' 137 (some A00) ∧ (mh_i h' 118 0 = 0 ∧ mh_i h' 130 0 = 0 ∧ mh_i h' 131 0 = 0) ∧ (∀ b j, b < 115 → mh_i h' b j = mh_i h b j) ∧ ∀ Q, mcall (d + 3) 272 [.ref 115] h Q = Q none h' := by
  have g0 : mg h 115 12 := F.g 115 12 38 (by decide +kernel)
  have ent : ∀ Q, mcall (d + 3) 272 [.ref 115] h Q = mw (d + 3) 272 Q 20 [some (.ref 115)] [] (n4H h) := fun Q => by
    unfold n4H
    clear F C0
    simp (disch := omega) only [s_272_0, s_272_1, s_272_2, s_272_5, s_272_6, s_272_7, s_272_10, s_272_11, s_272_12, s_272_15, s_272_16, s_272_17, s_272_21, s_272_24, s_272_25, s_272_26, s_272_29, s_272_30, s_272_33, s_272_34, s_272_35, s_272_36, s_272_37, s_272_40, s_272_41, s_272_42, s_272_43, s_272_44, s_272_47, s_272_48, s_272_49, s_272_50, s_272_51, s_272_54, s_272_55, e_272, mv_i_1, mv_l_1, mv_a_1, mv_a_2, mv_a_3, mk2_n, mk2_i, mk2_l, mk2_a, mk2_u, mk2_x, mB_T, mB_F, mS_cons, mS_nil, mSB_T, mSB_F, mca_nil, mca_i, mca_l, mca_r, mca_u, mca_x, mcat_i, mcat_l, mcat_r, mcat_u, mcat_x, mK_some, mK_none, va_rf_s, va_rf_n, lgc_eq, lgc_lt, lgc_gt, lgc_ge, lgc_le, mrd_104, mrd_105, mrd_106, mrd_107, true_and, and_true, and_self, false_and, and_false, true_or, or_true, false_or, or_false, not_true_eq_false, not_false_eq_true, mgb, mga, mgr, mN, reduceCtorEq, ↓reduceIte, eq_self, ge_iff_le, gt_iff_lt, hk_si, hk_sj, hk_sr, hl_si, hl_sj, hl_sr, hn_si, hn_sj, hn_sr, hs_si, hs_sj, hs_sr, hi_sj, hi_sr, hj_si, hj_sr, hr_si, hr_sj, hi_si, hj_sj, hr_sr, mg_si, mg_sj, mg_sr, Nat.reduceAdd, Nat.reduceMul, Nat.reduceSub, Nat.reduceLT, Nat.reduceGT, Nat.reduceEqDiff, Nat.reduceLeDiff, Nat.left_eq_add, Nat.add_eq_left, Nat.reduceMod, Nat.reduceDiv, Nat.succ_ne_self, g0]
  have f4 : fG noW h (n4H h) := by
    unfold n4H
    exact fG_t (fG_si (Or.inr (Or.inr (Or.inl ⟨rfl, Or.inl ⟨by decide, by decide⟩⟩)))) (fG_t (fG_si (Or.inr (Or.inr (Or.inl ⟨rfl, Or.inl ⟨by decide, by decide⟩⟩)))) (fG_t (fG_si (Or.inr (Or.inr (Or.inl ⟨rfl, Or.inl ⟨by decide, by decide⟩⟩)))) (fG_si (Or.inr (Or.inr (Or.inl ⟨rfl, Or.inr rfl⟩))))))
  have v4 : mh_i (n4H h) 115 7 = 1 ∧ mh_i (n4H h) 115 8 = 0 ∧ mh_i (n4H h) 115 9 = 0 ∧ mh_i (n4H h) 115 13 = 0 := by
    unfold n4H
    refine ⟨?_, ?_, ?_, ?_⟩
    · rw [hi_si, if_neg (by omega), hi_si, if_neg (by omega), hi_si, if_neg (by omega), hi_si, if_pos ⟨rfl, rfl⟩]
    · rw [hi_si, if_neg (by omega), hi_si, if_neg (by omega), hi_si, if_pos ⟨rfl, rfl⟩]
    · rw [hi_si, if_neg (by omega), hi_si, if_pos ⟨rfl, rfl⟩]
    · rw [hi_si, if_pos ⟨rfl, rfl⟩]
  have C4 : RK (n4H h) 137 c0 := by
    unfold n4H
    exact RK_fq (W := fun b => b = 115) (fq_t (fq_si rfl) (fq_t (fq_si rfl) (fq_t (fq_si rfl) (fq_si rfl)))) (fun y hy => by omega) C0
  have u4 : ∀ b j, b < 115 → mh_i (n4H h) b j = mh_i h b j := fun b j hb => by
    unfold n4H
    rw [hi_si, if_neg (by omega), hi_si, if_neg (by omega), hi_si, if_neg (by omega), hi_si, if_neg (by omega)]
  generalize n4H h = hA at ent f4 v4 C4 u4
  have FA : RF hA := RF_G f4 F
  obtain ⟨ko1, ko2, p3, p4⟩ := FA.p 0 (by decide)
  obtain ⟨hB, y1, y2, y3⟩ := k_280 (d := d + 2) (o := 132) (A := A00) ko1 rfl rfl
  have fB : fG noW hA hB := fG_ofq y1 (fun b j z => by unfold kW at z; unfold noW; omega)
  have FB : RF hB := RF_G fB FA
  have C5 : RK hB 137 c0 := RK_fq y1 (fun y hy z => by unfold kW at z; omega) C4
  have vB : ∀ j, mh_i hB 115 j = mh_i hA 115 j := fun j => (y1.2.2.2.2.2 115 (fun z => by unfold kW at z; omega)).1 j
  have fC : fG noW hB (n3H hB) := by
    unfold n3H
    exact fG_t (fG_si (Or.inr (Or.inr (Or.inr (Or.inl ⟨Or.inl rfl, rfl⟩))))) (fG_t (fG_si (Or.inr (Or.inr (Or.inr (Or.inl ⟨Or.inr (Or.inl rfl), rfl⟩))))) (fG_si (Or.inr (Or.inr (Or.inr (Or.inl ⟨Or.inr (Or.inr rfl), rfl⟩))))))
  have qC : fq (fun b => b = 118 ∨ b = 130 ∨ b = 131) hB (n3H hB) := by
    unfold n3H
    exact fq_t (fq_si (Or.inl rfl)) (fq_t (fq_si (Or.inr (Or.inl rfl))) (fq_si (Or.inr (Or.inr rfl))))
  have vC : mh_i (n3H hB) 118 0 = 0 ∧ mh_i (n3H hB) 130 0 = 0 ∧ mh_i (n3H hB) 131 0 = 0 := by
    unfold n3H
    refine ⟨?_, ?_, ?_⟩
    · rw [hi_si, if_neg (by omega), hi_si, if_neg (by omega), hi_si, if_pos ⟨rfl, rfl⟩]
    · rw [hi_si, if_neg (by omega), hi_si, if_pos ⟨rfl, rfl⟩]
    · rw [hi_si, if_pos ⟨rfl, rfl⟩]
  have st2 : ∀ Q, mw (d + 3) 272 Q 20 [some (.ref 115)] [] hA = mw (d + 3) 272 Q 50 [some (.ref 115)] [] (n3H hB) := fun Q => by
    have gA : mg hA 115 12 := FA.g 115 12 38 (by decide +kernel)
    have t4 := FA.f 115 4 116 (by decide +kernel)
    have g116 := (FA.g 116 106 250 (by decide +kernel)).1
    have g116b := (FA.g 116 106 250 (by decide +kernel)).2
    have l116 := FA.l 116 106 250 (by decide +kernel)
    have gk := ko1.1
    have gB : mg hB 115 12 := FB.g 115 12 38 (by decide +kernel)
    have t6 := FB.f 115 6 118 (by decide +kernel)
    have g118 := FB.g 118 100 250 (by decide +kernel)
    have l118 := FB.l 118 100 250 (by decide +kernel)
    have t36 := FB.f 115 36 130 (by decide +kernel)
    have g130 := FB.g 130 100 250 (by decide +kernel)
    have l130 := FB.l 130 100 250 (by decide +kernel)
    have t37 := FB.f 115 37 131 (by decide +kernel)
    have g131 := FB.g 131 100 250 (by decide +kernel)
    have l131 := FB.l 131 100 250 (by decide +kernel)
    have mx0 : mx (0 : Int32) 250 = True := nn_mxT (a := 0) (n := 250) (by omega) (by omega)
    have cl0 : (0 : Int32).toNatClampNeg = 0 := rfl
    unfold n3H
    clear F C0 FA FB C4 C5 fB fC qC y1 y2 ent
    simp (disch := omega) only [s_272_0, s_272_1, s_272_2, s_272_5, s_272_6, s_272_7, s_272_10, s_272_11, s_272_12, s_272_15, s_272_16, s_272_17, s_272_20, s_272_21, s_272_24, s_272_25, s_272_26, s_272_29, s_272_30, s_272_33, s_272_34, s_272_35, s_272_36, s_272_37, s_272_40, s_272_41, s_272_42, s_272_43, s_272_44, s_272_47, s_272_48, s_272_49, s_272_51, s_272_54, s_272_55, e_272, mv_i_1, mv_l_1, mv_a_1, mv_a_2, mv_a_3, mk2_n, mk2_i, mk2_l, mk2_a, mk2_u, mk2_x, mB_T, mB_F, mS_cons, mS_nil, mSB_T, mSB_F, mca_nil, mca_i, mca_l, mca_r, mca_u, mca_x, mcat_i, mcat_l, mcat_r, mcat_u, mcat_x, mK_some, mK_none, va_rf_s, va_rf_n, lgc_eq, lgc_lt, lgc_gt, lgc_ge, lgc_le, mrd_104, mrd_105, mrd_106, mrd_107, true_and, and_true, and_self, false_and, and_false, true_or, or_true, false_or, or_false, not_true_eq_false, not_false_eq_true, mgb, mga, mgr, mN, reduceCtorEq, ↓reduceIte, eq_self, ge_iff_le, gt_iff_lt, hk_si, hk_sj, hk_sr, hl_si, hl_sj, hl_sr, hn_si, hn_sj, hn_sr, hs_si, hs_sj, hs_sr, hi_sj, hi_sr, hj_si, hj_sr, hr_si, hr_sj, hi_si, hj_sj, hr_sr, mg_si, mg_sj, mg_sr, Nat.reduceAdd, Nat.reduceMul, Nat.reduceSub, Nat.reduceLT, Nat.reduceGT, Nat.reduceEqDiff, Nat.reduceLeDiff, Nat.left_eq_add, Nat.add_eq_left, Nat.reduceMod, Nat.reduceDiv, Nat.succ_ne_self, gA, t4, g116, g116b, l116, p3, gk, y3, gB, t6, g118, l118, t36, g130, l130, t37, g131, l131, mx0, cl0]
  have K6 : RK (n3H hB) 132 (some A00) := RK_fq qC (fun y hy => by omega) y2
  have C6 : RK (n3H hB) 137 c0 := RK_fq qC (fun y hy => by omega) C5
  have w6 : ∀ j, mh_i (n3H hB) 115 j = mh_i hA 115 j := fun j => ((qC.2.2.2.2.2 115 (by decide)).1 j).trans (vB j)
  have uC : ∀ b j, b < 115 → mh_i (n3H hB) b j = mh_i hB b j := fun b j hb => (qC.2.2.2.2.2 b (by omega)).1 j
  generalize n3H hB = hC at fC vC st2 K6 C6 w6 uC
  have FC : RF hC := RF_G fC FB
  obtain ⟨hD, mm, m1, z1, z2, z3, -, z5⟩ := u_274 (d := d) (h := hC) (cnt := 1) (K := fun _ => some A00) (C := fun _ => c0) FC ((w6 7).trans v4.1) (by decide) (fun q hq => by rw [show q = 0 from by omega]; exact K6) (fun q hq => by rw [show q = 0 from by omega]; exact C6)
  have fD : fG noW hC hD := fG_ofq z1 (fun b j z => by
    obtain ⟨q, q1, q2⟩ := z
    have : q = 0 := by omega
    subst this
    unfold kW at q2
    unfold noW
    omega)
  have vD : ∀ b j, ¬ (137 ≤ b ∧ b ≤ 141) → mh_i hD b j = mh_i hC b j := fun b j w => (z1.2.2.2.2.2 b (fun z => by
    obtain ⟨q, q1, q2⟩ := z
    have : q = 0 := by omega
    subst this
    unfold kW at q2
    omega)).1 j
  refine ⟨hD, fG_t f4 (fG_t fB (fG_t fC fD)), ⟨(vD 115 7 (by omega)).trans ((w6 7).trans v4.1), (vD 115 8 (by omega)).trans ((w6 8).trans v4.2.1), (vD 115 9 (by omega)).trans ((w6 9).trans v4.2.2.1), (vD 115 13 (by omega)).trans ((w6 13).trans v4.2.2.2)⟩, RK_fq z1 (fun y hy z => by
    obtain ⟨q, q1, q2⟩ := z
    unfold kW at q2
    omega) K6, z2 0 (by decide), ⟨(vD 118 0 (by omega)).trans vC.1, (vD 130 0 (by omega)).trans vC.2.1, (vD 131 0 (by omega)).trans vC.2.2⟩, fun b j hb => ?_, fun Q => ?_⟩
  · rw [vD b j (by omega), uC b j hb, (y1.2.2.2.2.2 b (fun z => by unfold kW at z; omega)).1 j]
    exact u4 b j hb
  rw [ent Q, st2 Q]
  have gC : mg hC 115 12 := FC.g 115 12 38 (by decide +kernel)
  clear F C0 FA FB FC fB fC fD vD C4 C5 C6 K6 z1 z2 z3 ent st2
  simp (disch := omega) only [s_272_0, s_272_1, s_272_2, s_272_5, s_272_6, s_272_7, s_272_10, s_272_11, s_272_12, s_272_15, s_272_16, s_272_17, s_272_20, s_272_21, s_272_24, s_272_25, s_272_26, s_272_29, s_272_30, s_272_33, s_272_34, s_272_35, s_272_36, s_272_37, s_272_40, s_272_41, s_272_42, s_272_43, s_272_44, s_272_47, s_272_48, s_272_49, s_272_50, s_272_51, s_272_54, s_272_55, e_272, mv_i_1, mv_l_1, mv_a_1, mv_a_2, mv_a_3, mk2_n, mk2_i, mk2_l, mk2_a, mk2_u, mk2_x, mB_T, mB_F, mS_cons, mS_nil, mSB_T, mSB_F, mca_nil, mca_i, mca_l, mca_r, mca_u, mca_x, mcat_i, mcat_l, mcat_r, mcat_u, mcat_x, mK_some, mK_none, va_rf_s, va_rf_n, lgc_eq, lgc_lt, lgc_gt, lgc_ge, lgc_le, mrd_104, mrd_105, mrd_106, mrd_107, true_and, and_true, and_self, false_and, and_false, true_or, or_true, false_or, or_false, not_true_eq_false, not_false_eq_true, mgb, mga, mgr, mN, reduceCtorEq, ↓reduceIte, eq_self, ge_iff_le, gt_iff_lt, Nat.reduceAdd, Nat.reduceMul, Nat.reduceSub, Nat.reduceLT, Nat.reduceGT, Nat.reduceEqDiff, Nat.reduceLeDiff, Nat.left_eq_add, Nat.add_eq_left, Nat.reduceMod, Nat.reduceDiv, Nat.succ_ne_self, gC, z5]
/-- nothing -/
theorem u_299 (F : RF h) {c0 : Option ab} (C0 : RK h 137 c0) : ∃ h', fG noW h h' ∧ (mh_i h' 115 7 = 1 ∧ mh_i h' 115 8 = 0 ∧ mh_i h' 115 9 = 0 ∧ mh_i h' 115 13 = 0) ∧ RK h' 132 (some A00) ∧ RK h' 137 (some A00) ∧ (mh_i h' 118 0 = 0 ∧ mh_i h' 130 0 = 0 ∧ mh_i h' 131 0 = 0) ∧ (mh_i h' 81 33 = 1 ∧ mh_i h' 81 64 = 0 ∧ mh_i h' 81 65 = 0 ∧ mh_i h' 81 66 = 0) ∧ (mh_i h' 100 0 = -1 ∧ mh_i h' 101 0 = -1 ∧ mh_i h' 102 0 = 1 ∧ mh_i h' 103 0 = 0 ∧ mh_i h' 104 0 = 0) ∧ ∀ Q, mcall (d + 4) 299 [.ref 81] h Q = Q none h' := by
  have g := F.g 81 14 70 (by decide +kernel)
  have r100 := F.f 81 28 100 (by decide +kernel)
  have g100 := F.g 100 100 250 (by decide +kernel)
  have l100 := F.l 100 100 250 (by decide +kernel)
  have r101 := F.f 81 29 101 (by decide +kernel)
  have g101 := F.g 101 100 250 (by decide +kernel)
  have l101 := F.l 101 100 250 (by decide +kernel)
  have r102 := F.f 81 30 102 (by decide +kernel)
  have g102 := F.g 102 100 250 (by decide +kernel)
  have l102 := F.l 102 100 250 (by decide +kernel)
  have r103 := F.f 81 31 103 (by decide +kernel)
  have g103 := F.g 103 100 250 (by decide +kernel)
  have l103 := F.l 103 100 250 (by decide +kernel)
  have r104 := F.f 81 32 104 (by decide +kernel)
  have g104 := F.g 104 100 250 (by decide +kernel)
  have l104 := F.l 104 100 250 (by decide +kernel)
  have mx0 : mx (0 : Int32) 250 = True := nn_mxT (a := 0) (n := 250) (by omega) (by omega)
  have cl0 : (0 : Int32).toNatClampNeg = 0 := rfl
  have ent : ∀ Q, mcall (d + 4) 299 [.ref 81] h Q = mw (d + 4) 299 Q 55 [some (.ref 81)] [] (n9H h) := fun Q => by
    unfold n9H
    clear F C0
    simp (disch := omega) only [s_299_0, s_299_1, s_299_2, s_299_5, s_299_6, s_299_9, s_299_10, s_299_11, s_299_12, s_299_13, s_299_16, s_299_17, s_299_18, s_299_19, s_299_20, s_299_23, s_299_24, s_299_25, s_299_26, s_299_27, s_299_30, s_299_31, s_299_32, s_299_33, s_299_34, s_299_37, s_299_38, s_299_39, s_299_40, s_299_41, s_299_42, s_299_45, s_299_46, s_299_47, s_299_50, s_299_51, s_299_52, s_299_56, s_299_59, s_299_62, e_299, mv_i_1, mv_l_1, mv_a_1, mv_a_2, mv_a_3, mk2_n, mk2_i, mk2_l, mk2_a, mk2_u, mk2_x, mB_T, mB_F, mS_cons, mS_nil, mSB_T, mSB_F, mca_nil, mca_i, mca_l, mca_r, mca_u, mca_x, mcat_i, mcat_l, mcat_r, mcat_u, mcat_x, mK_some, mK_none, va_rf_s, va_rf_n, lgc_eq, lgc_lt, lgc_gt, lgc_ge, lgc_le, mrd_104, mrd_105, mrd_106, mrd_107, true_and, and_true, and_self, false_and, and_false, true_or, or_true, false_or, or_false, not_true_eq_false, not_false_eq_true, mgb, mga, mgr, mN, reduceCtorEq, ↓reduceIte, eq_self, ge_iff_le, gt_iff_lt, hk_si, hk_sj, hk_sr, hl_si, hl_sj, hl_sr, hn_si, hn_sj, hn_sr, hs_si, hs_sj, hs_sr, hi_sj, hi_sr, hj_si, hj_sr, hr_si, hr_sj, hi_si, hj_sj, hr_sr, mg_si, mg_sj, mg_sr, Nat.reduceAdd, Nat.reduceMul, Nat.reduceSub, Nat.reduceLT, Nat.reduceGT, Nat.reduceEqDiff, Nat.reduceLeDiff, Nat.left_eq_add, Nat.add_eq_left, Nat.reduceMod, Nat.reduceDiv, Nat.succ_ne_self, g, r100, g100, l100, r101, g101, l101, r102, g102, l102, r103, g103, l103, r104, g104, l104, mx0, cl0]
  have f9 : fG noW h (n9H h) := by
    unfold n9H
    exact fG_t (fG_si (Or.inl ⟨rfl, Or.inl rfl⟩)) (fG_t (fG_si (Or.inr (Or.inl ⟨⟨by decide, by decide⟩, rfl⟩))) (fG_t (fG_si (Or.inr (Or.inl ⟨⟨by decide, by decide⟩, rfl⟩))) (fG_t (fG_si (Or.inr (Or.inl ⟨⟨by decide, by decide⟩, rfl⟩))) (fG_t (fG_si (Or.inr (Or.inl ⟨⟨by decide, by decide⟩, rfl⟩))) (fG_t (fG_si (Or.inr (Or.inl ⟨⟨by decide, by decide⟩, rfl⟩))) (fG_t (fG_si (Or.inl ⟨rfl, Or.inr ⟨by decide, by decide⟩⟩)) (fG_t (fG_si (Or.inl ⟨rfl, Or.inr ⟨by decide, by decide⟩⟩)) (fG_si (Or.inl ⟨rfl, Or.inr ⟨by decide, by decide⟩⟩)))))))))
  have i9 : ∀ b j, mh_i (n9H h) b j = if b = 81 ∧ j = 66 then 0 else if b = 81 ∧ j = 65 then 0 else if b = 81 ∧ j = 64 then 0 else if b = 104 ∧ j = 0 then 0 else if b = 103 ∧ j = 0 then 0 else if b = 102 ∧ j = 0 then 1 else if b = 101 ∧ j = 0 then -1 else if b = 100 ∧ j = 0 then -1 else if b = 81 ∧ j = 33 then 1 else mh_i h b j := fun b j => by
    unfold n9H
    rw [hi_si, hi_si, hi_si, hi_si, hi_si, hi_si, hi_si, hi_si, hi_si]
  have v9 : (mh_i (n9H h) 81 33 = 1 ∧ mh_i (n9H h) 81 64 = 0 ∧ mh_i (n9H h) 81 65 = 0 ∧ mh_i (n9H h) 81 66 = 0) ∧ (mh_i (n9H h) 100 0 = -1 ∧ mh_i (n9H h) 101 0 = -1 ∧ mh_i (n9H h) 102 0 = 1 ∧ mh_i (n9H h) 103 0 = 0 ∧ mh_i (n9H h) 104 0 = 0) := by
    simp only [i9]
    exact ⟨⟨rfl, rfl, rfl, rfl⟩, rfl, rfl, rfl, rfl, rfl⟩
  have q9 : fq (fun b => b = 81 ∨ (100 ≤ b ∧ b ≤ 104)) h (n9H h) := by
    unfold n9H
    exact fq_t (fq_si (Or.inl rfl)) (fq_t (fq_si (Or.inr ⟨by decide, by decide⟩)) (fq_t (fq_si (Or.inr ⟨by decide, by decide⟩)) (fq_t (fq_si (Or.inr ⟨by decide, by decide⟩)) (fq_t (fq_si (Or.inr ⟨by decide, by decide⟩)) (fq_t (fq_si (Or.inr ⟨by decide, by decide⟩)) (fq_t (fq_si (Or.inl rfl)) (fq_t (fq_si (Or.inl rfl)) (fq_si (Or.inl rfl)))))))))
  have C9 : RK (n9H h) 137 c0 := RK_fq q9 (fun y hy z => by omega) C0
  clear i9
  generalize n9H h = hA at ent f9 v9 C9 q9
  have FA : RF hA := RF_G f9 F
  obtain ⟨h', y1, y2, y3, y4, y5, yi, y6⟩ := u_272 (d := d) FA C9
  have gA : mg hA 81 14 := FA.g 81 14 70 (by decide +kernel)
  have t52 := FA.f 81 52 115 (by decide +kernel)
  have g115 : mg hA 115 12 := FA.g 115 12 38 (by decide +kernel)
  obtain ⟨⟨a1, a2, a3, a4⟩, a5, a6, a7, a8, a9⟩ := v9
  refine ⟨h', fG_t f9 y1, y2, y3, y4, y5, ⟨(yi 81 33 (by omega)).trans a1, (yi 81 64 (by omega)).trans a2, (yi 81 65 (by omega)).trans a3, (yi 81 66 (by omega)).trans a4⟩, ⟨(yi 100 0 (by omega)).trans a5, (yi 101 0 (by omega)).trans a6, (yi 102 0 (by omega)).trans a7, (yi 103 0 (by omega)).trans a8, (yi 104 0 (by omega)).trans a9⟩, fun Q => ?_⟩
  rw [ent Q]
  clear F C0 FA C9 q9 f9 y1 y2 y3 y4 y5 yi ent
  simp (disch := omega) only [s_299_0, s_299_1, s_299_2, s_299_5, s_299_6, s_299_9, s_299_10, s_299_11, s_299_12, s_299_13, s_299_16, s_299_17, s_299_18, s_299_19, s_299_20, s_299_23, s_299_24, s_299_25, s_299_26, s_299_27, s_299_30, s_299_31, s_299_32, s_299_33, s_299_34, s_299_37, s_299_38, s_299_39, s_299_40, s_299_41, s_299_42, s_299_45, s_299_46, s_299_47, s_299_50, s_299_51, s_299_52, s_299_55, s_299_56, s_299_59, s_299_62, e_299, mv_i_1, mv_l_1, mv_a_1, mv_a_2, mv_a_3, mk2_n, mk2_i, mk2_l, mk2_a, mk2_u, mk2_x, mB_T, mB_F, mS_cons, mS_nil, mSB_T, mSB_F, mca_nil, mca_i, mca_l, mca_r, mca_u, mca_x, mcat_i, mcat_l, mcat_r, mcat_u, mcat_x, mK_some, mK_none, va_rf_s, va_rf_n, lgc_eq, lgc_lt, lgc_gt, lgc_ge, lgc_le, mrd_104, mrd_105, mrd_106, mrd_107, true_and, and_true, and_self, false_and, and_false, true_or, or_true, false_or, or_false, not_true_eq_false, not_false_eq_true, mgb, mga, mgr, mN, reduceCtorEq, ↓reduceIte, eq_self, ge_iff_le, gt_iff_lt, Nat.reduceAdd, Nat.reduceMul, Nat.reduceSub, Nat.reduceLT, Nat.reduceGT, Nat.reduceEqDiff, Nat.reduceLeDiff, Nat.left_eq_add, Nat.add_eq_left, Nat.reduceMod, Nat.reduceDiv, Nat.succ_ne_self, gA, t52, g115, y6]
end NOs
