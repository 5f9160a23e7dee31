set_option maxRecDepth 100000
/-! RUNS: the whole of one, pure -/
/-- what is added to outside on arrival -/
noncomputable def ar (m tr : Bool) (X Y : Option ab) (V P : Nat → Int32) : Int32 := @ite _ (m = true ∨ (o_has X V P ∧ (tr = true → o_has Y V P))) (Classical.propDecidable _) 0 1
/-- point, inputs read, cells, places, outside, steps done, trap -/
abbrev rst : Type := Nat × Nat × (Nat → Int32) × (Nat → Int32) × Int32 × Nat × Int32
def rst.p (s : rst) : Nat := s.1
def rst.c (s : rst) : Nat := s.2.1
def rst.V (s : rst) : Nat → Int32 := s.2.2.1
def rst.P (s : rst) : Nat → Int32 := s.2.2.2.1
def rst.o (s : rst) : Int32 := s.2.2.2.2.1
def rst.d (s : rst) : Nat := s.2.2.2.2.2.1
def rst.w (s : rst) : Int32 := s.2.2.2.2.2.2
noncomputable def rgo (S : Nat → (Nat → Int32) → (Nat → Int32) → Nat → so5) (fst oth : Nat → Nat) (m tr : Bool) (kn cl : Nat → Option ab) (al : Nat → Int32) (last : Nat) : Nat → rst → rst
  | 0, s => s
  | k + 1, s => if s.p = last ∨ ¬ s.w = 0 then s else
      if (S s.p s.V s.P s.c).w = 0 then rgo S fst oth m tr kn cl al last k ((if (S s.p s.V s.P s.c).b = true then fst s.p else oth s.p), (S s.p s.V s.P s.c).c, (S s.p s.V s.P s.c).V, (S s.p s.V s.P s.c).P, s.o + ar m tr (kn (if (S s.p s.V s.P s.c).b = true then fst s.p else oth s.p)) (cl (if (S s.p s.V s.P s.c).b = true then fst s.p else oth s.p)) (S s.p s.V s.P s.c).V (S s.p s.V s.P s.c).P, s.d + 1, 0)
      else (s.p, (S s.p s.V s.P s.c).c, (S s.p s.V s.P s.c).V, (S s.p s.V s.P s.c).P, s.o + (if m = true ∨ ¬ (al s.p &&& (S s.p s.V s.P s.c).w) = 0 then 0 else 1), s.d + 1, (S s.p s.V s.P s.c).w)
/-- what a run answers -/
def rAn (last : Nat) (s : rst) : Int32 := if s.w = 0 then (if s.p = last then 0 else 16) else s.w
section ARs
variable {d : Nat} {h h1 : mh_H} {Y C E TT UU SC SP nC nE nS p gv cnt : Nat} {G : pgm} {X Z : Option ab} {m tr : Bool}
/-- arrive -/
theorem v_29 (B : BS h Y C E TT UU SC SP nC nE nS) (hp : p < 250) (e4 : mh_i h 67 4 = Int32.ofNat p) (f3 : mh_i h 53 3 = kb m) (k54 : pv h 54 p X) (k73 : pv h 73 p Z) {n a : Nat} {rm : Nat → Nat} (sX : shp n a rm X) (sZ : shp n a rm Z) (sz : ∀ x, x < a → mh_i h 71 x = Int32.ofNat (rm x) ∧ rm x ≤ 64) : ∃ h', fG (fun b j => b = 67 ∧ j = 9) h h' ∧ mh_i h' 67 9 = mh_i h 67 9 + ar m tr X Z (mh_i h 69) (mh_i h 70) ∧ ∀ Q, mcall (d + 1) 29 [.ref 67, .ref 53, if tr = true then .ref 73 else .null] h Q = Q none h' := by
  have F := B.F
  have g := F.g 67 2 13 (by decide +kernel)
  have g53 := F.g 53 0 17 (by decide +kernel)
  have u0 := F.f 53 0 54 (by decide +kernel)
  have r6 := F.f 67 6 69 (by decide +kernel)
  have r7 := F.f 67 7 70 (by decide +kernel)
  have r8 := F.f 67 8 71 (by decide +kernel)
  have g54 := (F.g 54 104 250 (by decide +kernel)).1
  have g54' := (F.g 54 104 250 (by decide +kernel)).2
  have l54 := F.l 54 104 250 (by decide +kernel)
  have g73 := (F.g 73 104 250 (by decide +kernel)).1
  have g73' := (F.g 73 104 250 (by decide +kernel)).2
  have l73 := F.l 73 104 250 (by decide +kernel)
  have g69 := F.g 69 100 12 (by decide +kernel)
  have g70 := F.g 70 100 384 (by decide +kernel)
  have g71 := F.g 71 100 6 (by decide +kernel)
  have ri69 : ri h 69 12 := ⟨g69, F.l 69 100 12 (by decide +kernel)⟩
  have ri70 : ri h 70 384 := ⟨g70, F.l 70 100 384 (by decide +kernel)⟩
  have ri71 : ri h 71 6 := ⟨g71, F.l 71 100 6 (by decide +kernel)⟩
  have key : ∀ (b : Nat) (W : Option ab), pv h b p W → isPl b p → shp n a rm W → ∃ o x, mh_r h b p = some o ∧ mg h o 8 ∧ (x = 0 ∨ x = 1) ∧ (x = 1 ↔ o_has W (mh_i h 69) (mh_i h 70)) ∧ ∀ Q, mcall d 163 [.ref o, .ref 69, .ref 70, .ref 71] h Q = Q (some (.int x)) h := fun b W k P s => by
    obtain ⟨o, e, r⟩ := k
    refine ⟨o, ?_⟩
    have gO := (RS_so r).1
    cases W with
    | none => exact ⟨0, e, gO, Or.inl rfl, ⟨fun z => absurd z (by decide), fun z => z.elim⟩, l_163n r⟩
    | some A =>
      obtain ⟨T, s1, s2, s3⟩ := s A rfl
      obtain ⟨x, x1, x2, run⟩ := l_163 (d := d) r T.t.1 ri69 ri70 ri71 (fun y hy => by rw [s3 y (by omega)]; exact sz y (by omega))
      exact ⟨x, e, gO, x1, x2, run⟩
  obtain ⟨o1, x1, e1, gO1, a1, a2, c1⟩ := key 54 X k54 (by unfold isPl; omega) sX
  obtain ⟨o2, x2, e2, gO2, b1, b2, c2⟩ := key 73 Z k73 (by unfold isPl; omega) sZ
  have e00 : ((0 : Int32) = 0) = True := by decide
  have e10 : ((1 : Int32) = 0) = False := by decide
  have z0 : mh_i h 67 9 + 0 = mh_i h 67 9 := Int32.add_zero _
  have H1 : fG (fun b j => b = 67 ∧ j = 9) h (mh_si h 67 9 (mh_i h 67 9 + 1)) := fG_si ⟨rfl, rfl⟩
  have H2 : mh_i (mh_si h 67 9 (mh_i h 67 9 + 1)) 67 9 = mh_i h 67 9 + 1 := by rw [hi_si, if_pos ⟨rfl, rfl⟩]
  unfold ar
  cases m with
  | true =>
    refine ⟨h, fG_id, by rw [if_pos (Or.inl rfl), z0], fun Q => ?_⟩
    have f3' : mh_i h 53 3 = 1 := f3
    clear B F key k54 k73 sX sZ
    cases tr with
    | true =>
      rw [if_pos rfl]
      simp (disch := omega) only [e_29n, s_29_0, s_29_1, s_29_4, s_29_7, s_29_8, s_29_9, s_29_12, s_29_13, s_29_16, s_29_17, s_29_18, s_29_21, s_29_22, s_29_25, s_29_26, s_29_29, s_29_32, s_29_33, s_29_34, s_29_37, s_29_38n, s_29_38, s_29_41, s_29_42, s_29_43, s_29_46, s_29_47, s_29_48, s_29_51, s_29_52, s_29_55, s_29_56, s_29_59, s_29_62, s_29_63, s_29_64, s_29_67, s_29_68, s_29_69, s_29_72, s_29_73, s_29_74, s_29_77, e_29, mv_i_1, mv_l_1, mv_a_1, mv_a_2, mv_a_3, mk2_n, mk2_i, mk2_l, mk2_a, mk2_u, mk2_x, mB_T, mB_F, mS_cons, mS_nil, mSB_T, mSB_F, mca_nil, mca_i, mca_l, mca_r, mca_u, mca_x, mcat_i, mcat_l, mcat_r, mcat_u, mcat_x, mK_some, mK_none, va_rf_s, va_rf_n, lgc_eq, lgc_lt, lgc_gt, lgc_ge, lgc_le, mrd_104, mrd_105, mrd_106, mrd_107, true_and, and_true, and_self, false_and, and_false, true_or, or_true, false_or, or_false, not_true_eq_false, not_false_eq_true, mgb, mga, mgr, mN, reduceCtorEq, ↓reduceIte, eq_self, ge_iff_le, gt_iff_lt, hk_si, hk_sj, hk_sr, hl_si, hl_sj, hl_sr, hn_si, hn_sj, hn_sr, hs_si, hs_sj, hs_sr, hi_sj, hi_sr, hj_si, hj_sr, hr_si, hr_sj, hi_si, hj_sj, hr_sr, mg_si, mg_sj, mg_sr, Nat.reduceAdd, Nat.reduceMul, Nat.reduceSub, Nat.reduceLT, Nat.reduceGT, Nat.reduceEqDiff, Nat.reduceLeDiff, Nat.left_eq_add, Nat.add_eq_left, Nat.reduceMod, Nat.reduceDiv, Nat.succ_ne_self, g53, f3', e10]
    | false =>
      rw [if_neg (by decide)]
      simp (disch := omega) only [e_29n, s_29_0, s_29_1, s_29_4, s_29_7, s_29_8, s_29_9, s_29_12, s_29_13, s_29_16, s_29_17, s_29_18, s_29_21, s_29_22, s_29_25, s_29_26, s_29_29, s_29_32, s_29_33, s_29_34, s_29_37, s_29_38n, s_29_38, s_29_41, s_29_42, s_29_43, s_29_46, s_29_47, s_29_48, s_29_51, s_29_52, s_29_55, s_29_56, s_29_59, s_29_62, s_29_63, s_29_64, s_29_67, s_29_68, s_29_69, s_29_72, s_29_73, s_29_74, s_29_77, e_29, mv_i_1, mv_l_1, mv_a_1, mv_a_2, mv_a_3, mk2_n, mk2_i, mk2_l, mk2_a, mk2_u, mk2_x, mB_T, mB_F, mS_cons, mS_nil, mSB_T, mSB_F, mca_nil, mca_i, mca_l, mca_r, mca_u, mca_x, mcat_i, mcat_l, mcat_r, mcat_u, mcat_x, mK_some, mK_none, va_rf_s, va_rf_n, lgc_eq, lgc_lt, lgc_gt, lgc_ge, lgc_le, mrd_104, mrd_105, mrd_106, mrd_107, true_and, and_true, and_self, false_and, and_false, true_or, or_true, false_or, or_false, not_true_eq_false, not_false_eq_true, mgb, mga, mgr, mN, reduceCtorEq, ↓reduceIte, eq_self, ge_iff_le, gt_iff_lt, hk_si, hk_sj, hk_sr, hl_si, hl_sj, hl_sr, hn_si, hn_sj, hn_sr, hs_si, hs_sj, hs_sr, hi_sj, hi_sr, hj_si, hj_sr, hr_si, hr_sj, hi_si, hj_sj, hr_sr, mg_si, mg_sj, mg_sr, Nat.reduceAdd, Nat.reduceMul, Nat.reduceSub, Nat.reduceLT, Nat.reduceGT, Nat.reduceEqDiff, Nat.reduceLeDiff, Nat.left_eq_add, Nat.add_eq_left, Nat.reduceMod, Nat.reduceDiv, Nat.succ_ne_self, g53, f3', e10]
  | false =>
    have f3' : mh_i h 53 3 = 0 := f3
    rcases a1 with a1 | a1
    · have nX : ¬ o_has X (mh_i h 69) (mh_i h 70) := fun z => absurd (a2.mpr z) (by rw [a1]; decide)
      subst a1
      refine ⟨_, H1, by rw [H2, if_neg (fun z => z.elim (fun z => by cases z) (fun z => nX z.1))], fun Q => ?_⟩
      clear B F key k54 k73 sX sZ a2 b2 nX H1 H2
      cases tr with
      | true =>
        rw [if_pos rfl]
        simp (disch := omega) only [e_29n, s_29_0, s_29_1, s_29_4, s_29_7, s_29_8, s_29_9, s_29_12, s_29_13, s_29_16, s_29_17, s_29_18, s_29_21, s_29_22, s_29_25, s_29_26, s_29_29, s_29_32, s_29_33, s_29_34, s_29_37, s_29_38n, s_29_38, s_29_41, s_29_42, s_29_43, s_29_46, s_29_47, s_29_48, s_29_51, s_29_52, s_29_55, s_29_56, s_29_59, s_29_62, s_29_63, s_29_64, s_29_67, s_29_68, s_29_69, s_29_72, s_29_73, s_29_74, s_29_77, e_29, mv_i_1, mv_l_1, mv_a_1, mv_a_2, mv_a_3, mk2_n, mk2_i, mk2_l, mk2_a, mk2_u, mk2_x, mB_T, mB_F, mS_cons, mS_nil, mSB_T, mSB_F, mca_nil, mca_i, mca_l, mca_r, mca_u, mca_x, mcat_i, mcat_l, mcat_r, mcat_u, mcat_x, mK_some, mK_none, va_rf_s, va_rf_n, lgc_eq, lgc_lt, lgc_gt, lgc_ge, lgc_le, mrd_104, mrd_105, mrd_106, mrd_107, true_and, and_true, and_self, false_and, and_false, true_or, or_true, false_or, or_false, not_true_eq_false, not_false_eq_true, mgb, mga, mgr, mN, reduceCtorEq, ↓reduceIte, eq_self, ge_iff_le, gt_iff_lt, hk_si, hk_sj, hk_sr, hl_si, hl_sj, hl_sr, hn_si, hn_sj, hn_sr, hs_si, hs_sj, hs_sr, hi_sj, hi_sr, hj_si, hj_sr, hr_si, hr_sj, hi_si, hj_sj, hr_sr, mg_si, mg_sj, mg_sr, Nat.reduceAdd, Nat.reduceMul, Nat.reduceSub, Nat.reduceLT, Nat.reduceGT, Nat.reduceEqDiff, Nat.reduceLeDiff, Nat.left_eq_add, Nat.add_eq_left, Nat.reduceMod, Nat.reduceDiv, Nat.succ_ne_self, g53, f3', e00, u0, g54, g54', l54, g, e4, e1, gO1, r6, r7, r8, g69, g70, g71, c1, nn_mxT, nn_clamp]
      | false =>
        rw [if_neg (by decide)]
        simp (disch := omega) only [e_29n, s_29_0, s_29_1, s_29_4, s_29_7, s_29_8, s_29_9, s_29_12, s_29_13, s_29_16, s_29_17, s_29_18, s_29_21, s_29_22, s_29_25, s_29_26, s_29_29, s_29_32, s_29_33, s_29_34, s_29_37, s_29_38n, s_29_38, s_29_41, s_29_42, s_29_43, s_29_46, s_29_47, s_29_48, s_29_51, s_29_52, s_29_55, s_29_56, s_29_59, s_29_62, s_29_63, s_29_64, s_29_67, s_29_68, s_29_69, s_29_72, s_29_73, s_29_74, s_29_77, e_29, mv_i_1, mv_l_1, mv_a_1, mv_a_2, mv_a_3, mk2_n, mk2_i, mk2_l, mk2_a, mk2_u, mk2_x, mB_T, mB_F, mS_cons, mS_nil, mSB_T, mSB_F, mca_nil, mca_i, mca_l, mca_r, mca_u, mca_x, mcat_i, mcat_l, mcat_r, mcat_u, mcat_x, mK_some, mK_none, va_rf_s, va_rf_n, lgc_eq, lgc_lt, lgc_gt, lgc_ge, lgc_le, mrd_104, mrd_105, mrd_106, mrd_107, true_and, and_true, and_self, false_and, and_false, true_or, or_true, false_or, or_false, not_true_eq_false, not_false_eq_true, mgb, mga, mgr, mN, reduceCtorEq, ↓reduceIte, eq_self, ge_iff_le, gt_iff_lt, hk_si, hk_sj, hk_sr, hl_si, hl_sj, hl_sr, hn_si, hn_sj, hn_sr, hs_si, hs_sj, hs_sr, hi_sj, hi_sr, hj_si, hj_sr, hr_si, hr_sj, hi_si, hj_sj, hr_sr, mg_si, mg_sj, mg_sr, Nat.reduceAdd, Nat.reduceMul, Nat.reduceSub, Nat.reduceLT, Nat.reduceGT, Nat.reduceEqDiff, Nat.reduceLeDiff, Nat.left_eq_add, Nat.add_eq_left, Nat.reduceMod, Nat.reduceDiv, Nat.succ_ne_self, g53, f3', e00, u0, g54, g54', l54, g, e4, e1, gO1, r6, r7, r8, g69, g70, g71, c1, nn_mxT, nn_clamp]
    · have hX := a2.mp a1
      subst a1
      cases tr with
      | false =>
        refine ⟨h, fG_id, by rw [if_pos (Or.inr ⟨hX, fun z => by cases z⟩), z0], fun Q => ?_⟩
        clear B F key k54 k73 sX sZ a2 b2 hX H1 H2
        rw [if_neg (by decide)]
        simp (disch := omega) only [e_29n, s_29_0, s_29_1, s_29_4, s_29_7, s_29_8, s_29_9, s_29_12, s_29_13, s_29_16, s_29_17, s_29_18, s_29_21, s_29_22, s_29_25, s_29_26, s_29_29, s_29_32, s_29_33, s_29_34, s_29_37, s_29_38n, s_29_38, s_29_41, s_29_42, s_29_43, s_29_46, s_29_47, s_29_48, s_29_51, s_29_52, s_29_55, s_29_56, s_29_59, s_29_62, s_29_63, s_29_64, s_29_67, s_29_68, s_29_69, s_29_72, s_29_73, s_29_74, s_29_77, e_29, mv_i_1, mv_l_1, mv_a_1, mv_a_2, mv_a_3, mk2_n, mk2_i, mk2_l, mk2_a, mk2_u, mk2_x, mB_T, mB_F, mS_cons, mS_nil, mSB_T, mSB_F, mca_nil, mca_i, mca_l, mca_r, mca_u, mca_x, mcat_i, mcat_l, mcat_r, mcat_u, mcat_x, mK_some, mK_none, va_rf_s, va_rf_n, lgc_eq, lgc_lt, lgc_gt, lgc_ge, lgc_le, mrd_104, mrd_105, mrd_106, mrd_107, true_and, and_true, and_self, false_and, and_false, true_or, or_true, false_or, or_false, not_true_eq_false, not_false_eq_true, mgb, mga, mgr, mN, reduceCtorEq, ↓reduceIte, eq_self, ge_iff_le, gt_iff_lt, hk_si, hk_sj, hk_sr, hl_si, hl_sj, hl_sr, hn_si, hn_sj, hn_sr, hs_si, hs_sj, hs_sr, hi_sj, hi_sr, hj_si, hj_sr, hr_si, hr_sj, hi_si, hj_sj, hr_sr, mg_si, mg_sj, mg_sr, Nat.reduceAdd, Nat.reduceMul, Nat.reduceSub, Nat.reduceLT, Nat.reduceGT, Nat.reduceEqDiff, Nat.reduceLeDiff, Nat.left_eq_add, Nat.add_eq_left, Nat.reduceMod, Nat.reduceDiv, Nat.succ_ne_self, g53, f3', e00, e10, u0, g54, g54', l54, g, e4, e1, gO1, r6, r7, r8, g69, g70, g71, c1, nn_mxT, nn_clamp]
      | true =>
        rcases b1 with b1 | b1
        · have nZ : ¬ o_has Z (mh_i h 69) (mh_i h 70) := fun z => absurd (b2.mpr z) (by rw [b1]; decide)
          subst b1
          refine ⟨_, H1, by rw [H2, if_neg (fun z => z.elim (fun z => by cases z) (fun z => nZ (z.2 rfl)))], fun Q => ?_⟩
          clear B F key k54 k73 sX sZ a2 b2 nZ hX H1 H2
          rw [if_pos rfl]
          simp (disch := omega) only [e_29n, s_29_0, s_29_1, s_29_4, s_29_7, s_29_8, s_29_9, s_29_12, s_29_13, s_29_16, s_29_17, s_29_18, s_29_21, s_29_22, s_29_25, s_29_26, s_29_29, s_29_32, s_29_33, s_29_34, s_29_37, s_29_38n, s_29_38, s_29_41, s_29_42, s_29_43, s_29_46, s_29_47, s_29_48, s_29_51, s_29_52, s_29_55, s_29_56, s_29_59, s_29_62, s_29_63, s_29_64, s_29_67, s_29_68, s_29_69, s_29_72, s_29_73, s_29_74, s_29_77, e_29, mv_i_1, mv_l_1, mv_a_1, mv_a_2, mv_a_3, mk2_n, mk2_i, mk2_l, mk2_a, mk2_u, mk2_x, mB_T, mB_F, mS_cons, mS_nil, mSB_T, mSB_F, mca_nil, mca_i, mca_l, mca_r, mca_u, mca_x, mcat_i, mcat_l, mcat_r, mcat_u, mcat_x, mK_some, mK_none, va_rf_s, va_rf_n, lgc_eq, lgc_lt, lgc_gt, lgc_ge, lgc_le, mrd_104, mrd_105, mrd_106, mrd_107, true_and, and_true, and_self, false_and, and_false, true_or, or_true, false_or, or_false, not_true_eq_false, not_false_eq_true, mgb, mga, mgr, mN, reduceCtorEq, ↓reduceIte, eq_self, ge_iff_le, gt_iff_lt, hk_si, hk_sj, hk_sr, hl_si, hl_sj, hl_sr, hn_si, hn_sj, hn_sr, hs_si, hs_sj, hs_sr, hi_sj, hi_sr, hj_si, hj_sr, hr_si, hr_sj, hi_si, hj_sj, hr_sr, mg_si, mg_sj, mg_sr, Nat.reduceAdd, Nat.reduceMul, Nat.reduceSub, Nat.reduceLT, Nat.reduceGT, Nat.reduceEqDiff, Nat.reduceLeDiff, Nat.left_eq_add, Nat.add_eq_left, Nat.reduceMod, Nat.reduceDiv, Nat.succ_ne_self, g53, f3', e00, e10, u0, g54, g54', l54, g, e4, e1, gO1, r6, r7, r8, g69, g70, g71, c1, g73, g73', l73, e2, gO2, c2, nn_mxT, nn_clamp]
        · have hZ := b2.mp b1
          subst b1
          refine ⟨h, fG_id, by rw [if_pos (Or.inr ⟨hX, fun _ => hZ⟩), z0], fun Q => ?_⟩
          clear B F key k54 k73 sX sZ a2 b2 hX hZ H1 H2
          rw [if_pos rfl]
          simp (disch := omega) only [e_29n, s_29_0, s_29_1, s_29_4, s_29_7, s_29_8, s_29_9, s_29_12, s_29_13, s_29_16, s_29_17, s_29_18, s_29_21, s_29_22, s_29_25, s_29_26, s_29_29, s_29_32, s_29_33, s_29_34, s_29_37, s_29_38n, s_29_38, s_29_41, s_29_42, s_29_43, s_29_46, s_29_47, s_29_48, s_29_51, s_29_52, s_29_55, s_29_56, s_29_59, s_29_62, s_29_63, s_29_64, s_29_67, s_29_68, s_29_69, s_29_72, s_29_73, s_29_74, s_29_77, e_29, mv_i_1, mv_l_1, mv_a_1, mv_a_2, mv_a_3, mk2_n, mk2_i, mk2_l, mk2_a, mk2_u, mk2_x, mB_T, mB_F, mS_cons, mS_nil, mSB_T, mSB_F, mca_nil, mca_i, mca_l, mca_r, mca_u, mca_x, mcat_i, mcat_l, mcat_r, mcat_u, mcat_x, mK_some, mK_none, va_rf_s, va_rf_n, lgc_eq, lgc_lt, lgc_gt, lgc_ge, lgc_le, mrd_104, mrd_105, mrd_106, mrd_107, true_and, and_true, and_self, false_and, and_false, true_or, or_true, false_or, or_false, not_true_eq_false, not_false_eq_true, mgb, mga, mgr, mN, reduceCtorEq, ↓reduceIte, eq_self, ge_iff_le, gt_iff_lt, hk_si, hk_sj, hk_sr, hl_si, hl_sj, hl_sr, hn_si, hn_sj, hn_sr, hs_si, hs_sj, hs_sr, hi_sj, hi_sr, hj_si, hj_sr, hr_si, hr_sj, hi_si, hj_sj, hr_sr, mg_si, mg_sj, mg_sr, Nat.reduceAdd, Nat.reduceMul, Nat.reduceSub, Nat.reduceLT, Nat.reduceGT, Nat.reduceEqDiff, Nat.reduceLeDiff, Nat.left_eq_add, Nat.add_eq_left, Nat.reduceMod, Nat.reduceDiv, Nat.succ_ne_self, g53, f3', e00, e10, u0, g54, g54', l54, g, e4, e1, gO1, r6, r7, r8, g69, g70, g71, c1, g73, g73', l73, e2, gO2, c2, nn_mxT, nn_clamp]
end ARs
