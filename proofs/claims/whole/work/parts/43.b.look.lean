set_option maxRecDepth 100000
/-! the reference's look and tell -/
section LKr
variable {d : Nat} {h h1 : mh_H} {T s0 o p w : Nat} {sN : Int → Prop} {en : Int → Nat} {s : Option ab}
theorem ko_same (ek : mh_k h1 = mh_k h) (el : mh_l h1 = mh_l h) (en' : mh_n h1 = mh_n h) {o : Nat} (er : ∀ j, mh_r h1 o j = mh_r h o j) (k : ko h o) : ko h1 o := by
  unfold ko mg at k ⊢
  rw [ek, el, en', er, er, er, er]; exact k
/-- where no cell is new and references stay -/
theorem RZ_same (Z : RZ h) (ek : mh_k h1 = mh_k h) (el : mh_l h1 = mh_l h) (en' : mh_n h1 = mh_n h) (er : ∀ b j, ¬ (b = 115 ∧ j = 23) → mh_r h1 b j = mh_r h b j) : RZ h1 := by
  have g : ∀ {b c : Nat}, mg h b c → mg h1 b c := fun {b c} z => by unfold mg at z ⊢; rw [ek, en']; exact z
  have F := Z.F
  obtain ⟨PQ, PS, PU, PF, PL, PH, lP, P⟩ := Z.p
  have kk : ∀ o, ¬ o = 115 → ko h o → ko h1 o := fun o no z => ko_same ek el en' (fun j => er o j (fun y => no y.1)) z
  have ef : ∀ t ∈ rfR, ¬ (t.1 = 115 ∧ t.2.1 = 23) := by decide +kernel
  refine ⟨⟨fun t ht => ⟨g (F.k t ht).1, by rw [el]; exact (F.k t ht).2⟩, fun t ht => by rw [er _ _ (ef t ht)]; exact F.r t ht, fun q hq => ?_, kk 2632 (by decide) F.w, ?_⟩, by rw [er _ _ (by decide)]; exact Z.r0, by rw [er _ _ (by decide)]; exact Z.r1, by rw [er _ _ (by decide)]; exact Z.r2, ⟨PQ, PS, PU, PF, PL, PH, lP, ?_⟩, fun i a e => ?_, fun i j a e e' => ?_⟩
  · obtain ⟨f1, f2, f3, f4⟩ := F.p q hq
    exact ⟨kk _ (by omega) f1, kk _ (by omega) f2, by rw [er _ _ (by omega)]; exact f3, by rw [er _ _ (by omega)]; exact f4⟩
  · obtain ⟨b, b1, b2⟩ := F.fn
    exact ⟨b, by rw [er _ _ (by decide)]; exact b1, by rw [en']; exact b2⟩
  · exact ⟨by rw [er _ _ (by decide)]; exact P.r27, by rw [er _ _ (by decide)]; exact P.r28, by rw [er _ _ (by decide)]; exact P.r29, by rw [er _ _ (by decide)]; exact P.r30, by rw [er _ _ (by decide)]; exact P.r31, by rw [er _ _ (by decide)]; exact P.r32, g P.g27, g P.g28, g P.g29, g P.g30, g P.g31, g P.g32, by rw [el]; exact P.l27, by rw [el]; exact P.l28, by rw [el]; exact P.l29, by rw [el]; exact P.l30, by rw [el]; exact P.l31, by rw [el]; exact P.l32, P.d1, P.d2, P.d3, P.d4, P.n, fun i a e => by rw [er _ _ (by omega)] at e; rw [en']; exact P.s i a e, P.c, P.b⟩
  · rw [er _ _ (by omega)] at e
    obtain ⟨a1, a2⟩ := Z.s i a e
    exact ⟨a1, kk a (by omega) a2⟩
  · rw [er _ _ (by omega)] at e e'
    exact Z.i i j a e e'
theorem EV_same (V : EV h T sN en) (e18 : mh_i h1 115 18 = mh_i h 115 18) (e1 : ∀ j, j < T → mh_i h1 121 j = mh_i h 121 j) (e2 : ∀ j, j < T → mh_i h1 122 j = mh_i h 122 j) : EV h1 T sN en := ⟨by rw [e18]; exact V.t, V.t64, fun v hv => by
  obtain ⟨i, q1, q2, q3, q4⟩ := V.e v hv
  exact ⟨i, q1, by rw [e1 i q1]; exact q2, fun j j1 j2 => by rw [e1 j j2]; exact q3 j j1 j2, by rw [e2 i q1]; exact q4⟩⟩
theorem k_281f {d x y : Nat} {h h1 : mh_H} {A : Option ab} (hs : ko h x) (r : RK h y A) (hop : x ≠ y) (run : ∀ Q, mcall d 281 [.ref x, .ref y] h Q = Q none h1) : mh_i h1 x 2 = mh_i h y 2 := by
  have hz : mh_i h y 0 = 0 ∨ mh_i h y 0 = 1 := by
    cases A with
    | none => exact Or.inr (KN.z r)
    | some A => exact Or.inl (KM.z r)
  have e : h1 = kbec h x y := cal_u run (fun Q => c_281 hs (RK_ko r) hop hz)
  have m01 : ¬ x = x + 1 := by omega
  have m02 : ¬ x = x + 2 := by omega
  have m03 : ¬ x = x + 3 := by omega
  have m04 : ¬ x = x + 4 := by omega
  have I0 : ∀ k, mh_i (kbec h x y) x k = if k = 2 then mh_i h y 2 else if k = 1 then mh_i h y 1 else if k = 0 then mh_i h y 0 else mh_i h x k := fun k => by
    unfold kbec
    simp only [hi_cp, hi_si, m01, m02, m03, m04, false_and, if_false, true_and]
  rw [e]
  exact (I0 2).trans (if_pos rfl)
/-- look, where nothing is checked -/
theorem u_258 (J : RJ h T sN en) (l : lv h s0 o) (c : RK h o s) (hp : p < 250) (a8 : mh_i h 115 8 = Int32.ofNat w) (hw : w < 1000000) {m : Bool} (a9 : mh_i h 115 9 = kb m) (a34 : mh_i h 115 34 = 0) : ∃ h', mh_k h' = mh_k h ∧ mh_l h' = mh_l h ∧ mh_n h' = mh_n h ∧ mh_s h' = mh_s h ∧ (∀ b j, ¬ (b = 115 ∧ j = 23) → mh_r h' b j = mh_r h b j) ∧ (∀ b j, ¬ kc (132 + 10 * p) b → ¬ (b = 118 ∧ j = p) → ¬ (b = 115 ∧ (j = 8 ∨ j = 9 ∨ j = 24)) → mh_i h' b j = mh_i h b j) ∧ (∀ b j, ¬ kc (132 + 10 * p) b → mh_j h' b j = mh_j h b j) ∧ RK h' (132 + 10 * p) s ∧ mh_i h' 118 p = 0 ∧ mh_i h' 115 8 = Int32.ofNat (w + wi s) ∧ mh_i h' 115 9 = kb (m || decide (4000 < w + wi s)) ∧ mh_i h' 115 24 = 0 ∧ mh_r h' 115 23 = some o ∧ mh_i h' (132 + 10 * p) 2 = mh_i h o 2 ∧ ∀ Q, mcall (d + 1) 258 [.ref 115, .int (Int32.ofNat p), .ref o] h Q = Q (some (.int (kb (decide (s ≠ none))))) h' := by
  have F := J.a.F
  obtain ⟨f1, -, f3, -⟩ := F.p p hp
  have lo := sp_lo J (lv_sp l)
  obtain ⟨h1, x, r, e⟩ := k_281 (d := d) f1 c (by omega : 132 + 10 * p ≠ o)
  have g := J.a.g
  have co : RK h1 o s := RK_fz (fz_fq x) (fun y hy j z => by unfold kW at z; omega) c
  have i1 : ∀ j, mh_i h1 115 j = mh_i h 115 j := fun j => (x.2.2.2.2.2 115 (by unfold kW; omega)).1 j
  have hz : ∃ zz : Int32, mh_i h1 o 0 = zz ∧ ((s = none ∧ zz = 1) ∨ (s ≠ none ∧ zz = 0)) := by
    cases s with
    | none => exact ⟨1, KN.z co, Or.inl ⟨rfl, rfl⟩⟩
    | some A => exact ⟨0, KM.z co, Or.inr ⟨(fun z => (by cases z)), rfl⟩⟩
  obtain ⟨zz, z1, z2⟩ := hz
  refine ⟨mh_sr (mh_si (mh_si (mh_si (mh_si h1 118 p 0) 115 8 (Int32.ofNat (w + wi s))) 115 9 (kb (m || decide (4000 < w + wi s)))) 115 24 0) 115 23 (some o), x.1, x.2.1, x.2.2.2.1, x.2.2.2.2.1, fun b j nb => ?_, fun b j n1 n2 n3 => ?_, fun b j n1 => ?_, ?_, ?_, ?_, ?_, ?_, ?_, ?_, fun Q => ?_⟩
  · rw [hr_sr, if_neg nb, hr_si, hr_si, hr_si, hr_si, x.2.2.1]
  · rw [hi_sr, hi_si, if_neg (by omega), hi_si, if_neg (by omega), hi_si, if_neg (by omega), hi_si, if_neg (by omega)]
    exact (x.2.2.2.2.2 b (by unfold kW; unfold kc at n1; omega)).1 j
  · rw [hj_sr, hj_si, hj_si, hj_si, hj_si]
    exact (x.2.2.2.2.2 b (by unfold kW; unfold kc at n1; omega)).2 j
  · have zf : fz (fun b j => b = 118 ∨ b = 115) h1 (mh_sr (mh_si (mh_si (mh_si (mh_si h1 118 p 0) 115 8 (Int32.ofNat (w + wi s))) 115 9 (kb (m || decide (4000 < w + wi s)))) 115 24 0) 115 23 (some o)) := fz_t (fz_si (Or.inl rfl)) (fz_t (fz_si (Or.inr rfl)) (fz_t (fz_si (Or.inr rfl)) (fz_t (fz_si (Or.inr rfl)) (fz_sr (Or.inr rfl)))))
    exact RK_fz zf (fun y hy j z => by omega) r
  · rw [hi_sr, hi_si, if_neg (by omega), hi_si, if_neg (by omega), hi_si, if_neg (by omega), hi_si, if_pos ⟨rfl, rfl⟩]
  · rw [hi_sr, hi_si, if_neg (by omega), hi_si, if_neg (by omega), hi_si, if_pos ⟨rfl, rfl⟩]
  · rw [hi_sr, hi_si, if_neg (by omega), hi_si, if_pos ⟨rfl, rfl⟩]
  · rw [hi_sr, hi_si, if_pos ⟨rfl, rfl⟩]
  · rw [hr_sr, if_pos ⟨rfl, rfl⟩]
  · rw [hi_sr, hi_si, if_neg (by omega), hi_si, if_neg (by omega), hi_si, if_neg (by omega), hi_si, if_neg (by omega)]
    exact k_281f f1 c (by omega) e
  · have t4 := F.f 115 4 116 (by decide +kernel)
    have t6 := F.f 115 6 118 (by decide +kernel)
    have g116 := (F.g 116 106 250 (by decide +kernel)).1
    have g116' := (F.g 116 106 250 (by decide +kernel)).2
    have l116 := F.l 116 106 250 (by decide +kernel)
    have gk := f1.1
    have go := (RK_ko c).1
    have go1 := (RK_ko co).1
    have g1 : mg h1 115 12 := (fq_mg x).mpr g
    have er := x.2.2.1
    have g118 : mg h1 118 100 := (fq_mg x).mpr (F.g 118 100 250 (by decide +kernel))
    have l118 : mh_l h1 118 = 250 := by rw [x.2.1]; exact F.l 118 100 250 (by decide +kernel)
    have i8 := i1 8
    have i9 := i1 9
    rw [a8] at i8
    rw [a9] at i9
    have e00 : ((0 : Int32) = 0) = True := by decide
    have e10 : ((1 : Int32) = 0) = False := by decide
    have e4 : (4000 : Int32) = Int32.ofNat 4000 := rfl
    have no118 : ¬ o = 118 := by omega
    have no115 : ¬ o = 115 := by omega
    have or0 : ∀ b : Bool, kb b ||| 0 = kb b := fun b => by cases b <;> decide
    have or1 : ∀ b : Bool, kb b ||| 1 = 1 := fun b => by cases b <;> decide
    have k1' : kb true = 1 := rfl
    have k0' : kb false = 0 := rfl
    have k01 : ∀ b : Bool, (kb b = 0 ∨ kb b = 1) = True := fun b => by cases b <;> decide
    have w0 : w + 0 = w := rfl
    have ew0 : Int32.ofNat w + 0 = Int32.ofNat w := nn_add (a := w) (b := 0)
    have ew1 : Int32.ofNat w + 1 = Int32.ofNat (w + 1) := nn_add (a := w) (b := 1)
    clear J F x r co c i1
    rcases z2 with ⟨e1, e2⟩ | ⟨e1, e2⟩
    · subst e2
      have ws : wi s = 0 := by rw [e1]; rfl
      have dn : decide (s ≠ none) = false := decide_eq_false (fun y => y e1)
      rw [ws, dn, w0, k0']
      by_cases c4 : 4000 < w
      · have le : (w ≤ 4000) = False := eq_false (by omega)
        rw [decide_eq_true c4, Bool.or_true, k1']
        simp (disch := omega) only [s_258_0, s_258_1, s_258_4, s_258_7, s_258_8, s_258_9, s_258_12, s_258_13, s_258_14, s_258_17, s_258_20, s_258_21, s_258_24, s_258_25, s_258_26, s_258_27, s_258_30, s_258_31, s_258_34, s_258_35, s_258_36, s_258_37, s_258_38, s_258_39, s_258_42, s_258_43, s_258_46, s_258_49, s_258_50, s_258_53, s_258_54, s_258_55, s_258_58, s_258_59, s_258_60, s_258_63, s_258_64, s_258_67, s_258_70, s_258_73, s_258_74, s_258_77, s_258_78, s_258_79, s_258_82, s_258_83, s_258_84, s_258_87, s_258_88, s_258_89, s_258_89n, s_258_92, s_258_93, s_258_96, s_258_99, s_258_100, s_258_103, s_258_104, e_258, mv_i_1, mv_l_1, mv_a_1, mv_a_2, mv_a_3, mk2_n, mk2_i, mk2_l, mk2_a, mk2_u, mk2_x, mB_T, mB_F, mS_cons, mS_nil, mSB_T, mSB_F, mca_nil, mca_i, mca_l, mca_r, mca_u, mca_x, mcat_i, mcat_l, mcat_r, mcat_u, mcat_x, mK_some, mK_none, va_rf_s, va_rf_n, lgc_eq, lgc_lt, lgc_gt, lgc_ge, lgc_le, mrd_104, mrd_105, mrd_106, mrd_107, true_and, and_true, and_self, false_and, and_false, true_or, or_true, false_or, or_false, not_true_eq_false, not_false_eq_true, mgb, mga, mgr, mN, reduceCtorEq, ↓reduceIte, eq_self, ge_iff_le, gt_iff_lt, hk_si, hk_sj, hk_sr, hl_si, hl_sj, hl_sr, hn_si, hn_sj, hn_sr, hs_si, hs_sj, hs_sr, hi_sj, hi_sr, hj_si, hj_sr, hr_si, hr_sj, hi_si, hj_sj, hr_sr, mg_si, mg_sj, mg_sr, Nat.reduceAdd, Nat.reduceMul, Nat.reduceSub, Nat.reduceLT, Nat.reduceGT, Nat.reduceEqDiff, Nat.reduceLeDiff, Nat.left_eq_add, Nat.add_eq_left, Nat.reduceMod, Nat.reduceDiv, Nat.succ_ne_self, g, a34, e00, t4, g116, g116', l116, f3, gk, go, e, g1, er, t6, g118, l118, i8, z1, go1, e10, ew0, i9, e4, nn_le, le, or1, no118, no115, nn_mxT, nn_clamp]
      · have le : (w ≤ 4000) = True := eq_true (by omega)
        rw [decide_eq_false c4, Bool.or_false]
        simp (disch := omega) only [s_258_0, s_258_1, s_258_4, s_258_7, s_258_8, s_258_9, s_258_12, s_258_13, s_258_14, s_258_17, s_258_20, s_258_21, s_258_24, s_258_25, s_258_26, s_258_27, s_258_30, s_258_31, s_258_34, s_258_35, s_258_36, s_258_37, s_258_38, s_258_39, s_258_42, s_258_43, s_258_46, s_258_49, s_258_50, s_258_53, s_258_54, s_258_55, s_258_58, s_258_59, s_258_60, s_258_63, s_258_64, s_258_67, s_258_70, s_258_73, s_258_74, s_258_77, s_258_78, s_258_79, s_258_82, s_258_83, s_258_84, s_258_87, s_258_88, s_258_89, s_258_89n, s_258_92, s_258_93, s_258_96, s_258_99, s_258_100, s_258_103, s_258_104, e_258, mv_i_1, mv_l_1, mv_a_1, mv_a_2, mv_a_3, mk2_n, mk2_i, mk2_l, mk2_a, mk2_u, mk2_x, mB_T, mB_F, mS_cons, mS_nil, mSB_T, mSB_F, mca_nil, mca_i, mca_l, mca_r, mca_u, mca_x, mcat_i, mcat_l, mcat_r, mcat_u, mcat_x, mK_some, mK_none, va_rf_s, va_rf_n, lgc_eq, lgc_lt, lgc_gt, lgc_ge, lgc_le, mrd_104, mrd_105, mrd_106, mrd_107, true_and, and_true, and_self, false_and, and_false, true_or, or_true, false_or, or_false, not_true_eq_false, not_false_eq_true, mgb, mga, mgr, mN, reduceCtorEq, ↓reduceIte, eq_self, ge_iff_le, gt_iff_lt, hk_si, hk_sj, hk_sr, hl_si, hl_sj, hl_sr, hn_si, hn_sj, hn_sr, hs_si, hs_sj, hs_sr, hi_sj, hi_sr, hj_si, hj_sr, hr_si, hr_sj, hi_si, hj_sj, hr_sr, mg_si, mg_sj, mg_sr, Nat.reduceAdd, Nat.reduceMul, Nat.reduceSub, Nat.reduceLT, Nat.reduceGT, Nat.reduceEqDiff, Nat.reduceLeDiff, Nat.left_eq_add, Nat.add_eq_left, Nat.reduceMod, Nat.reduceDiv, Nat.succ_ne_self, g, a34, e00, t4, g116, g116', l116, f3, gk, go, e, g1, er, t6, g118, l118, i8, z1, go1, e10, ew0, i9, e4, nn_le, le, or0, no118, no115, k01, nn_mxT, nn_clamp]
    · subst e2
      have ws : wi s = 1 := by
        cases s with
        | none => exact absurd rfl e1
        | some A => rfl
      have dn : decide (s ≠ none) = true := decide_eq_true e1
      rw [ws, dn, k1']
      by_cases c4 : 4000 < w + 1
      · have le : (w + 1 ≤ 4000) = False := eq_false (by omega)
        rw [decide_eq_true c4, Bool.or_true, k1']
        simp (disch := omega) only [s_258_0, s_258_1, s_258_4, s_258_7, s_258_8, s_258_9, s_258_12, s_258_13, s_258_14, s_258_17, s_258_20, s_258_21, s_258_24, s_258_25, s_258_26, s_258_27, s_258_30, s_258_31, s_258_34, s_258_35, s_258_36, s_258_37, s_258_38, s_258_39, s_258_42, s_258_43, s_258_46, s_258_49, s_258_50, s_258_53, s_258_54, s_258_55, s_258_58, s_258_59, s_258_60, s_258_63, s_258_64, s_258_67, s_258_70, s_258_73, s_258_74, s_258_77, s_258_78, s_258_79, s_258_82, s_258_83, s_258_84, s_258_87, s_258_88, s_258_89, s_258_89n, s_258_92, s_258_93, s_258_96, s_258_99, s_258_100, s_258_103, s_258_104, e_258, mv_i_1, mv_l_1, mv_a_1, mv_a_2, mv_a_3, mk2_n, mk2_i, mk2_l, mk2_a, mk2_u, mk2_x, mB_T, mB_F, mS_cons, mS_nil, mSB_T, mSB_F, mca_nil, mca_i, mca_l, mca_r, mca_u, mca_x, mcat_i, mcat_l, mcat_r, mcat_u, mcat_x, mK_some, mK_none, va_rf_s, va_rf_n, lgc_eq, lgc_lt, lgc_gt, lgc_ge, lgc_le, mrd_104, mrd_105, mrd_106, mrd_107, true_and, and_true, and_self, false_and, and_false, true_or, or_true, false_or, or_false, not_true_eq_false, not_false_eq_true, mgb, mga, mgr, mN, reduceCtorEq, ↓reduceIte, eq_self, ge_iff_le, gt_iff_lt, hk_si, hk_sj, hk_sr, hl_si, hl_sj, hl_sr, hn_si, hn_sj, hn_sr, hs_si, hs_sj, hs_sr, hi_sj, hi_sr, hj_si, hj_sr, hr_si, hr_sj, hi_si, hj_sj, hr_sr, mg_si, mg_sj, mg_sr, Nat.reduceAdd, Nat.reduceMul, Nat.reduceSub, Nat.reduceLT, Nat.reduceGT, Nat.reduceEqDiff, Nat.reduceLeDiff, Nat.left_eq_add, Nat.add_eq_left, Nat.reduceMod, Nat.reduceDiv, Nat.succ_ne_self, g, a34, e00, t4, g116, g116', l116, f3, gk, go, e, g1, er, t6, g118, l118, i8, z1, go1, ew1, i9, e4, nn_le, le, or1, no118, no115, nn_mxT, nn_clamp]
      · have le : (w + 1 ≤ 4000) = True := eq_true (by omega)
        rw [decide_eq_false c4, Bool.or_false]
        simp (disch := omega) only [s_258_0, s_258_1, s_258_4, s_258_7, s_258_8, s_258_9, s_258_12, s_258_13, s_258_14, s_258_17, s_258_20, s_258_21, s_258_24, s_258_25, s_258_26, s_258_27, s_258_30, s_258_31, s_258_34, s_258_35, s_258_36, s_258_37, s_258_38, s_258_39, s_258_42, s_258_43, s_258_46, s_258_49, s_258_50, s_258_53, s_258_54, s_258_55, s_258_58, s_258_59, s_258_60, s_258_63, s_258_64, s_258_67, s_258_70, s_258_73, s_258_74, s_258_77, s_258_78, s_258_79, s_258_82, s_258_83, s_258_84, s_258_87, s_258_88, s_258_89, s_258_89n, s_258_92, s_258_93, s_258_96, s_258_99, s_258_100, s_258_103, s_258_104, e_258, mv_i_1, mv_l_1, mv_a_1, mv_a_2, mv_a_3, mk2_n, mk2_i, mk2_l, mk2_a, mk2_u, mk2_x, mB_T, mB_F, mS_cons, mS_nil, mSB_T, mSB_F, mca_nil, mca_i, mca_l, mca_r, mca_u, mca_x, mcat_i, mcat_l, mcat_r, mcat_u, mcat_x, mK_some, mK_none, va_rf_s, va_rf_n, lgc_eq, lgc_lt, lgc_gt, lgc_ge, lgc_le, mrd_104, mrd_105, mrd_106, mrd_107, true_and, and_true, and_self, false_and, and_false, true_or, or_true, false_or, or_false, not_true_eq_false, not_false_eq_true, mgb, mga, mgr, mN, reduceCtorEq, ↓reduceIte, eq_self, ge_iff_le, gt_iff_lt, hk_si, hk_sj, hk_sr, hl_si, hl_sj, hl_sr, hn_si, hn_sj, hn_sr, hs_si, hs_sj, hs_sr, hi_sj, hi_sr, hj_si, hj_sr, hr_si, hr_sj, hi_si, hj_sj, hr_sr, mg_si, mg_sj, mg_sr, Nat.reduceAdd, Nat.reduceMul, Nat.reduceSub, Nat.reduceLT, Nat.reduceGT, Nat.reduceEqDiff, Nat.reduceLeDiff, Nat.left_eq_add, Nat.add_eq_left, Nat.reduceMod, Nat.reduceDiv, Nat.succ_ne_self, g, a34, e00, t4, g116, g116', l116, f3, gk, go, e, g1, er, t6, g118, l118, i8, z1, go1, ew1, i9, e4, nn_le, le, or0, no118, no115, k01, nn_mxT, nn_clamp]
/-- tell -/
theorem u_259 (J : RJ h T sN en) (hp : p < 250) (a34 : mh_i h 115 34 = 0) : ∀ Q, mcall d 259 [.ref 115, .int (Int32.ofNat p)] h Q = Q none (mh_si h 118 p (mh_i h 118 p ||| mh_i h 115 24)) := fun Q => by
  have F := J.a.F
  have g := J.a.g
  have t6 := F.f 115 6 118 (by decide +kernel)
  have g118 := F.g 118 100 250 (by decide +kernel)
  have l118 := F.l 118 100 250 (by decide +kernel)
  have e00 : ((0 : Int32) = 0) = True := by decide
  clear J F
  simp (disch := omega) only [s_259_0, s_259_1, s_259_4, s_259_7, s_259_8, s_259_11, s_259_12, s_259_12l, s_259_13, s_259_14, s_259_15, s_259_18, s_259_19, s_259_20, e_259, mv_i_1, mv_l_1, mv_a_1, mv_a_2, mv_a_3, mk2_n, mk2_i, mk2_l, mk2_a, mk2_u, mk2_x, mB_T, mB_F, mS_cons, mS_nil, mSB_T, mSB_F, mca_nil, mca_i, mca_l, mca_r, mca_u, mca_x, mcat_i, mcat_l, mcat_r, mcat_u, mcat_x, mK_some, mK_none, va_rf_s, va_rf_n, lgc_eq, lgc_lt, lgc_gt, lgc_ge, lgc_le, mrd_104, mrd_105, mrd_106, mrd_107, true_and, and_true, and_self, false_and, and_false, true_or, or_true, false_or, or_false, not_true_eq_false, not_false_eq_true, mgb, mga, mgr, mN, reduceCtorEq, ↓reduceIte, eq_self, ge_iff_le, gt_iff_lt, hk_si, hk_sj, hk_sr, hl_si, hl_sj, hl_sr, hn_si, hn_sj, hn_sr, hs_si, hs_sj, hs_sr, hi_sj, hi_sr, hj_si, hj_sr, hr_si, hr_sj, hi_si, hj_sj, hr_sr, mg_si, mg_sj, mg_sr, Nat.reduceAdd, Nat.reduceMul, Nat.reduceSub, Nat.reduceLT, Nat.reduceGT, Nat.reduceEqDiff, Nat.reduceLeDiff, Nat.left_eq_add, Nat.add_eq_left, Nat.reduceMod, Nat.reduceDiv, Nat.succ_ne_self, g, a34, e00, t6, g118, l118, nn_mxT, nn_clamp]
end LKr
