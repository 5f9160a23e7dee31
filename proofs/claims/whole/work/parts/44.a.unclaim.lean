set_option maxRecDepth 100000
/-! unclaim -/
noncomputable def cnU (K C : Nat → Option ab) : Nat → Nat
  | 0 => 0
  | n + 1 => cnU K C n + @ite _ (o_le (K n) (C n)) (Classical.propDecidable _) 0 1
section UNs
variable {d : Nat} {h h1 : mh_H} {o x y cnt : Nat} {X Y : Option ab} {K C : Nat → Option ab}
/-- lies, whatever shapes they have -/
theorem k_294x (r : RK h x X) (q : RK h y Y) : ∃ v : Int32, (v = 0 ∨ v = 1) ∧ ((∀ A B, X = some A → Y = some B → A.n = B.n ∧ A.a = B.a) → (v = 1 ↔ o_le X Y)) ∧ ∀ Q, mcall (d + 1) 294 [.ref x, .ref y] h Q = Q (some (.int v)) h := by
  cases X with
  | none => exact ⟨1, Or.inr rfl, fun _ => ⟨fun _ => trivial, fun _ => rfl⟩, k_294n r q⟩
  | some A =>
    cases Y with
    | none => exact ⟨0, Or.inl rfl, fun _ => ⟨fun z => absurd z (by decide), fun z => absurd z (fun z => z)⟩, k_294m r q⟩
    | some B =>
      by_cases c : A.n = B.n ∧ A.a = B.a
      · obtain ⟨v, v1, v2, v3⟩ := k_294 (d := d) r q c.1 c.2
        exact ⟨v, v1, fun _ => v2, v3⟩
      · have r' : KM h x A := r
        have q' : KM h y B := q
        refine ⟨_, ?_, fun z => absurd (z A B rfl rfl) c, fun Q => c_294 (RK_ko r) (RK_ko q) r'.n r'.n12 r'.a r'.a6 r'.z q'.z⟩
        unfold kb
        split
        · exact Or.inr rfl
        · exact Or.inl rfl
theorem unc_l (F : RF h) (f7 : mh_i h 115 7 = Int32.ofNat cnt) (hc : cnt ≤ 250) (kK : ∀ q, q < cnt → RK h (132 + 10 * q) (K q)) (kC : ∀ q, q < cnt → RK h (137 + 10 * q) (C q)) : ∀ n, n ≤ cnt → ∃ h' m, m ≤ n ∧ fq (fun b => ∃ q, q < n ∧ kW (137 + 10 * q) b) h h' ∧ (∀ q, q < n → RK h' (137 + 10 * q) (K q)) ∧ (∀ q, q < n → mh_i h' (137 + 10 * q) 2 = mh_i h (132 + 10 * q) 2) ∧ ((∀ q, q < cnt → ∀ A B, K q = some A → C q = some B → A.n = B.n ∧ A.a = B.a) → m = cnU K C n) ∧ ∀ Q, mw (d + 2) 274 Q 4 [some (.ref 115), some (.int 0), some (.int 0)] [] h = mw (d + 2) 274 Q 4 [some (.ref 115), some (.int (Int32.ofNat m)), some (.int (Int32.ofNat n))] [] h' := by
  intro n
  induction n with
  | zero => exact fun _ => ⟨h, 0, Nat.le_refl _, fq_id, fun q hq => absurd hq (by omega), fun q hq => absurd hq (by omega), fun _ => rfl, fun Q => rfl⟩
  | succ n ih =>
    intro hn
    obtain ⟨h1, m, m1, x1, k1, y1, e1, run1⟩ := ih (by omega)
    have nk : ∀ q, n ≤ q → ∀ y, y ≤ 4 → ¬ (∃ q', q' < n ∧ kW (137 + 10 * q') (137 + 10 * q + y)) := fun q hq y hy ⟨q', q1, q2⟩ => by unfold kW at q2; omega
    have nk2 : ∀ q y, y ≤ 4 → ¬ (∃ q', q' < n ∧ kW (137 + 10 * q') (132 + 10 * q + y)) := fun q y hy ⟨q', q1, q2⟩ => by unfold kW at q2; omega
    have kn1 : RK h1 (132 + 10 * n) (K n) := RK_fz (fz_fq x1) (fun y hy j w => nk2 n y hy w) (kK n (by omega))
    have kc1 : RK h1 (137 + 10 * n) (C n) := RK_fz (fz_fq x1) (fun y hy j w => nk n (Nat.le_refl _) y hy w) (kC n (by omega))
    obtain ⟨v, v1, v2, run2⟩ := k_294x (d := d) kn1 kc1
    obtain ⟨h2, x2, k2, run3⟩ := k_281 (d := d + 1) (RK_ko kc1) kn1 (by omega : 137 + 10 * n ≠ 132 + 10 * n)
    have x12 : fq (fun b => ∃ q, q < n + 1 ∧ kW (137 + 10 * q) b) h h2 := fq_t (fq_w x1 (fun b ⟨q, q1, q2⟩ => ⟨q, by omega, q2⟩)) (fq_w x2 (fun b w => ⟨n, by omega, w⟩))
    have y2 : ∀ q, q < n + 1 → mh_i h2 (137 + 10 * q) 2 = mh_i h (132 + 10 * q) 2 := fun q hq => by
      by_cases c : q = n
      · rw [c, k_281f (RK_ko kc1) kn1 (by omega) run3]
        exact (x1.2.2.2.2.2 _ (fun w => nk2 n 0 (by omega) w)).1 2
      · rw [← y1 q (by omega)]
        exact (x2.2.2.2.2.2 _ (by unfold kW; omega)).1 2
    have g := F.g 115 12 38 (by decide +kernel)
    have g1 : mg h1 115 12 := (fq_mg x1).mpr g
    have g2 : mg h2 115 12 := (fq_mg x2).mpr g1
    have n115 : ∀ {n : Nat}, ¬ (∃ q', q' < n ∧ kW (137 + 10 * q') 115) := fun ⟨q', q1, q2⟩ => by unfold kW at q2; omega
    have i7 : mh_i h1 115 7 = Int32.ofNat cnt := ((x1.2.2.2.2.2 115 n115).1 7).trans f7
    have t4 := F.f 115 4 116 (by decide +kernel)
    have t5 := F.f 115 5 117 (by decide +kernel)
    have g116 : mg h1 116 106 := (fq_mg x1).mpr (F.g 116 106 250 (by decide +kernel))
    have g116a := g116.1
    have g116b := g116.2
    have l116 : mh_l h1 116 = 250 := by rw [x1.2.1]; exact F.l 116 106 250 (by decide +kernel)
    have g117 : mg h1 117 106 := (fq_mg x1).mpr (F.g 117 106 250 (by decide +kernel))
    have g117a := g117.1
    have g117b := g117.2
    have l117 : mh_l h1 117 = 250 := by rw [x1.2.1]; exact F.l 117 106 250 (by decide +kernel)
    obtain ⟨-, -, p3, p4⟩ := F.p n (by omega)
    rw [← x1.2.2.1] at t4 t5 p3 p4
    have gk := (RK_ko kn1).1
    have gc := (RK_ko kc1).1
    have le : (cnt ≤ n) = False := eq_false (by omega)
    have lt : (n < cnt) = True := eq_true (by omega)
    have ei : ∀ k, Int32.ofNat k + 1 = Int32.ofNat (k + 1) := fun k => nn_add (a := k) (b := 1)
    have ez : ∀ k, Int32.ofNat k + 0 = Int32.ofNat k := fun k => nn_add (a := k) (b := 0)
    have e00 : ((0 : Int32) = 0) = True := by decide
    have e10 : ((1 : Int32) = 0) = False := by decide
    rcases v1 with v1 | v1
    · subst v1
      refine ⟨h2, m + 1, by omega, x12, fun q hq => ?_, y2, fun w => ?_, fun Q => ?_⟩
      · by_cases c : q = n
        · rw [c]; exact k2
        · exact RK_fz (fz_fq x2) (fun y hy j w => by unfold kW at w; omega) (k1 q (by omega))
      · have nl : ¬ o_le (K n) (C n) := fun z => absurd ((v2 (w n (by omega))).mpr z) (by decide)
        show m + 1 = cnU K C n + @ite _ (o_le (K n) (C n)) (Classical.propDecidable _) 0 1
        rw [if_neg nl, e1 w]
      · rw [run1]
        clear F kK kC kn1 kc1 k1 k2 ih x1 x2 x12 e1 y1 y2 v2 nk nk2 n115 run1
        rw [s_274_4]
        simp (disch := omega) only [s_274_0, s_274_1, s_274_2, s_274_3, s_274_5, s_274_6, s_274_9, s_274_12, s_274_13, s_274_14, s_274_17, s_274_18, s_274_19, s_274_20, s_274_23, s_274_24, s_274_25, s_274_28, s_274_31, s_274_32, s_274_35, s_274_36, s_274_37, s_274_38, s_274_39, s_274_42, s_274_43, s_274_44, s_274_45, s_274_48, s_274_49, s_274_50, s_274_53, s_274_56, s_274_59, s_274_60, e_274, mv_i_1, mv_l_1, mv_a_1, mv_a_2, mv_a_3, mk2_n, mk2_i, mk2_l, mk2_a, mk2_u, mk2_x, mB_T, mB_F, mS_cons, mS_nil, mSB_T, mSB_F, mca_nil, mca_i, mca_l, mca_r, mca_u, mca_x, mcat_i, mcat_l, mcat_r, mcat_u, mcat_x, mK_some, mK_none, va_rf_s, va_rf_n, lgc_eq, lgc_lt, lgc_gt, lgc_ge, lgc_le, mrd_104, mrd_105, mrd_106, mrd_107, true_and, and_true, and_self, false_and, and_false, true_or, or_true, false_or, or_false, not_true_eq_false, not_false_eq_true, mgb, mga, mgr, mN, reduceCtorEq, ↓reduceIte, eq_self, ge_iff_le, gt_iff_lt, Nat.reduceAdd, Nat.reduceMul, Nat.reduceSub, Nat.reduceLT, Nat.reduceGT, Nat.reduceEqDiff, Nat.reduceLeDiff, Nat.left_eq_add, Nat.add_eq_left, Nat.reduceMod, Nat.reduceDiv, Nat.succ_ne_self, g1, i7, nn_le, nn_lt, le, lt, t4, t5, g116a, g116b, l116, g117a, g117b, l117, p3, p4, gk, gc, run2, run3, e00, ei, nn_mxT, nn_clamp]
    · subst v1
      refine ⟨h2, m, by omega, x12, fun q hq => ?_, y2, fun w => ?_, fun Q => ?_⟩
      · by_cases c : q = n
        · rw [c]; exact k2
        · exact RK_fz (fz_fq x2) (fun y hy j w => by unfold kW at w; omega) (k1 q (by omega))
      · have nl : o_le (K n) (C n) := (v2 (w n (by omega))).mp rfl
        show m = cnU K C n + @ite _ (o_le (K n) (C n)) (Classical.propDecidable _) 0 1
        rw [if_pos nl, Nat.add_zero]; exact e1 w
      · rw [run1]
        clear F kK kC kn1 kc1 k1 k2 ih x1 x2 x12 e1 y1 y2 v2 nk nk2 n115 run1
        rw [s_274_4]
        simp (disch := omega) only [s_274_0, s_274_1, s_274_2, s_274_3, s_274_5, s_274_6, s_274_9, s_274_12, s_274_13, s_274_14, s_274_17, s_274_18, s_274_19, s_274_20, s_274_23, s_274_24, s_274_25, s_274_28, s_274_31, s_274_32, s_274_35, s_274_36, s_274_37, s_274_38, s_274_39, s_274_42, s_274_43, s_274_44, s_274_45, s_274_48, s_274_49, s_274_50, s_274_53, s_274_56, s_274_59, s_274_60, e_274, mv_i_1, mv_l_1, mv_a_1, mv_a_2, mv_a_3, mk2_n, mk2_i, mk2_l, mk2_a, mk2_u, mk2_x, mB_T, mB_F, mS_cons, mS_nil, mSB_T, mSB_F, mca_nil, mca_i, mca_l, mca_r, mca_u, mca_x, mcat_i, mcat_l, mcat_r, mcat_u, mcat_x, mK_some, mK_none, va_rf_s, va_rf_n, lgc_eq, lgc_lt, lgc_gt, lgc_ge, lgc_le, mrd_104, mrd_105, mrd_106, mrd_107, true_and, and_true, and_self, false_and, and_false, true_or, or_true, false_or, or_false, not_true_eq_false, not_false_eq_true, mgb, mga, mgr, mN, reduceCtorEq, ↓reduceIte, eq_self, ge_iff_le, gt_iff_lt, Nat.reduceAdd, Nat.reduceMul, Nat.reduceSub, Nat.reduceLT, Nat.reduceGT, Nat.reduceEqDiff, Nat.reduceLeDiff, Nat.left_eq_add, Nat.add_eq_left, Nat.reduceMod, Nat.reduceDiv, Nat.succ_ne_self, g1, i7, nn_le, nn_lt, le, lt, t4, t5, g116a, g116b, l116, g117a, g117b, l117, p3, p4, gk, gc, run2, run3, e10, ei, ez, nn_mxT, nn_clamp]
theorem u_274 (F : RF h) (f7 : mh_i h 115 7 = Int32.ofNat cnt) (hc : cnt ≤ 250) (kK : ∀ q, q < cnt → RK h (132 + 10 * q) (K q)) (kC : ∀ q, q < cnt → RK h (137 + 10 * q) (C q)) : ∃ h' m, m ≤ cnt ∧ fq (fun b => ∃ q, q < cnt ∧ kW (137 + 10 * q) b) h h' ∧ (∀ q, q < cnt → RK h' (137 + 10 * q) (K q)) ∧ (∀ q, q < cnt → mh_i h' (137 + 10 * q) 2 = mh_i h (132 + 10 * q) 2) ∧ ((∀ q, q < cnt → ∀ A B, K q = some A → C q = some B → A.n = B.n ∧ A.a = B.a) → m = cnU K C cnt) ∧ ∀ Q, mcall (d + 2) 274 [.ref 115] h Q = Q (some (.int (Int32.ofNat m))) h' := by
  obtain ⟨h1, m, m1, x1, k1, y1, e1, run1⟩ := unc_l (d := d) F f7 hc kK kC cnt (Nat.le_refl _)
  refine ⟨h1, m, m1, x1, k1, y1, e1, fun Q => ?_⟩
  have g := F.g 115 12 38 (by decide +kernel)
  have g1 : mg h1 115 12 := (fq_mg x1).mpr g
  have i7 : mh_i h1 115 7 = Int32.ofNat cnt := ((x1.2.2.2.2.2 115 (fun ⟨q', q1, q2⟩ => by unfold kW at q2; omega)).1 7).trans f7
  have E0 : mcall (d + 2) 274 [.ref 115] h Q = mw (d + 2) 274 Q 4 [some (.ref 115), some (.int 0), some (.int 0)] [] h := by
    simp (disch := omega) only [s_274_0, s_274_1, s_274_2, s_274_3, s_274_5, s_274_6, s_274_9, s_274_12, s_274_13, s_274_14, s_274_17, s_274_18, s_274_19, s_274_20, s_274_23, s_274_24, s_274_25, s_274_28, s_274_31, s_274_32, s_274_35, s_274_36, s_274_37, s_274_38, s_274_39, s_274_42, s_274_43, s_274_44, s_274_45, s_274_48, s_274_49, s_274_50, s_274_53, s_274_56, s_274_59, s_274_60, e_274, mv_i_1, mv_l_1, mv_a_1, mv_a_2, mv_a_3, mk2_n, mk2_i, mk2_l, mk2_a, mk2_u, mk2_x, mB_T, mB_F, mS_cons, mS_nil, mSB_T, mSB_F, mca_nil, mca_i, mca_l, mca_r, mca_u, mca_x, mcat_i, mcat_l, mcat_r, mcat_u, mcat_x, mK_some, mK_none, va_rf_s, va_rf_n, lgc_eq, lgc_lt, lgc_gt, lgc_ge, lgc_le, mrd_104, mrd_105, mrd_106, mrd_107, true_and, and_true, and_self, false_and, and_false, true_or, or_true, false_or, or_false, not_true_eq_false, not_false_eq_true, mgb, mga, mgr, mN, reduceCtorEq, ↓reduceIte, eq_self, ge_iff_le, gt_iff_lt, Nat.reduceAdd, Nat.reduceMul, Nat.reduceSub, Nat.reduceLT, Nat.reduceGT, Nat.reduceEqDiff, Nat.reduceLeDiff, Nat.left_eq_add, Nat.add_eq_left, Nat.reduceMod, Nat.reduceDiv, Nat.succ_ne_self]
  rw [E0, run1]
  have le : (cnt ≤ cnt) = True := eq_true (Nat.le_refl _)
  have lt : (cnt < cnt) = False := eq_false (by omega)
  clear F kK kC k1 x1 e1 run1 E0
  rw [s_274_4]
  simp (disch := omega) only [s_274_0, s_274_1, s_274_2, s_274_3, s_274_5, s_274_6, s_274_9, s_274_12, s_274_13, s_274_14, s_274_17, s_274_18, s_274_19, s_274_20, s_274_23, s_274_24, s_274_25, s_274_28, s_274_31, s_274_32, s_274_35, s_274_36, s_274_37, s_274_38, s_274_39, s_274_42, s_274_43, s_274_44, s_274_45, s_274_48, s_274_49, s_274_50, s_274_53, s_274_56, s_274_59, s_274_60, e_274, mv_i_1, mv_l_1, mv_a_1, mv_a_2, mv_a_3, mk2_n, mk2_i, mk2_l, mk2_a, mk2_u, mk2_x, mB_T, mB_F, mS_cons, mS_nil, mSB_T, mSB_F, mca_nil, mca_i, mca_l, mca_r, mca_u, mca_x, mcat_i, mcat_l, mcat_r, mcat_u, mcat_x, mK_some, mK_none, va_rf_s, va_rf_n, lgc_eq, lgc_lt, lgc_gt, lgc_ge, lgc_le, mrd_104, mrd_105, mrd_106, mrd_107, true_and, and_true, and_self, false_and, and_false, true_or, or_true, false_or, or_false, not_true_eq_false, not_false_eq_true, mgb, mga, mgr, mN, reduceCtorEq, ↓reduceIte, eq_self, ge_iff_le, gt_iff_lt, Nat.reduceAdd, Nat.reduceMul, Nat.reduceSub, Nat.reduceLT, Nat.reduceGT, Nat.reduceEqDiff, Nat.reduceLeDiff, Nat.left_eq_add, Nat.add_eq_left, Nat.reduceMod, Nat.reduceDiv, Nat.succ_ne_self, g1, i7, nn_le, nn_lt, le, lt]
end UNs
