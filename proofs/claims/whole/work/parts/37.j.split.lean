set_option maxRecDepth 100000
/-! Analysis.joint and split, whole -/
section JNw
variable {T : Nat} {sN : Int → Prop} {en : Int → Nat}
theorem RJ_11 {h : mh_H} {v : Int32} (J : RJ h T sN en) : RJ (mh_si h 115 11 v) T sN en := by
  have x : fz (fun b j => b = 115 ∧ j = 11) h (mh_si h 115 11 v) := fz_si ⟨rfl, rfl⟩
  have F' : RF (mh_si h 115 11 v) := J.a.F
  exact ⟨AE_fz x J.a F' (by omega) (by omega) (by omega) (by omega) (fun j => ⟨by omega, by omega⟩), J.p, J.s, J.i⟩
theorem rq_11 {s0 : Nat} {V : Nat → Nat → Prop} {h : mh_H} {v : Int32} : rq s0 V h (mh_si h 115 11 v) := ⟨fR_si (Or.inl ⟨rfl, Or.inl rfl⟩), fun _ hx => Or.inl hx, fun _ _ e => e, fun _ _ e => Or.inl e⟩
theorem RK_11 {h : mh_H} {v : Int32} {o : Nat} {C : Option ab} (ho : 2644 ≤ o) (k : RK h o C) : RK (mh_si h 115 11 v) o C := RK_fz (W := fun b j => b = 115 ∧ j = 11) (fz_si ⟨rfl, rfl⟩) (fun y _ j w => by omega) k
theorem u_251 {cs : tr} (p1 : P1 T sN en cs) {d p s0 st ho fa : Nat} {h : mh_H} {A B : ab} {an : Bool} {D1 D2 : Option ab} (J : RJ h T sN en) (i11 : mh_i h 115 11 = Int32.ofNat s0) (hs : s0 + 3 + cn3 cs ≤ 2048) (l3 : lv h s0 st) (l1 : lv h s0 ho) (l2 : lv h s0 fa) (ne : ho ≠ fa) (k3 : RK h st (some B)) (k1 : RK h ho D1) (k2 : RK h fa D2) (oB : okS A (some B)) (n : nd (mh_i h 93) (mh_i h 95) (mh_i h 97) (p + 1) cs) (hp : p + 1 + ts cs ≤ 26000) (hz : mh_i h 97 p = Int32.ofNat (1 + ts cs)) (w : wC sN en A cs true) (hd : 2 * th cs + 21 ≤ d) : ∃ h', rq s0 (v2 ho fa) h h' ∧ RJ h' T sN en ∧ mh_i h' 115 11 = Int32.ofNat s0 ∧ RK h' ho (s_fx an (spl en cs true an (some B) none)).1 ∧ RK h' fa (s_fx an (spl en cs true an (some B) none)).2.1 ∧ mh_i h' 115 24 = mh_i h 115 24 ||| (s_fx an (spl en cs true an (some B) none)).2.2 ∧ (∀ j, f12 j → mh_i h ho j = mh_i h st j → mh_i h fa j = mh_i h st j → mh_i h' ho j = mh_i h st j ∧ mh_i h' fa j = mh_i h st j) ∧ ∀ Q, mcall d 251 [.ref 115, .int (Int32.ofNat p), .int (kb an), .ref st, .ref ho, .ref fa] h Q = Q none h' := by
  obtain ⟨d', rfl⟩ : ∃ d', d = d' + 3 := ⟨d - 3, by omega⟩
  have no : okS A none := fun _ z => by cases z
  -- on
  obtain ⟨h1, on, x1, J1, e1, j1, a1, kO1, c1⟩ := t_227 (d := d') J i11 (by omega) l3 k3
  have f227 : ∀ j, f12 j → mh_i h1 on j = mh_i h st j := fun j hj => fi_227 J i11 (by omega) l3 k3 e1 c1 hj
  have x1' : rq s0 (v2 ho fa) h h1 := rq_w x1 (Nat.le_refl _) (fun _ _ _ w => absurd w (fun z => z))
  obtain ⟨dn, hdn⟩ : ∃ dn, dn = (if an = true then fa else ho) := ⟨_, rfl⟩
  obtain ⟨ot, hot⟩ : ∃ ot, ot = (if an = true then ho else fa) := ⟨_, rfl⟩
  have ldn : lv h s0 dn := by rw [hdn]; split; exact l2; exact l1
  have lot : lv h s0 ot := by rw [hot]; split; exact l1; exact l2
  have nod : ot ≠ dn := by rw [hot, hdn]; split; exact ne; exact fun q => ne q.symm
  have kdn : ∃ D, RK h dn D := by rw [hdn]; split; exact ⟨_, k2⟩; exact ⟨_, k1⟩
  obtain ⟨D, kdn⟩ := kdn
  have kdn1 := rq_K J x1 ldn (fun _ _ _ w => w) kdn
  -- done is nothing
  obtain ⟨x2, J2, kD2⟩ := none_1 J1 (lv_sp (rq_lv x1 ldn)) kdn1
  have x2' : rq s0 (v2 ho fa) h1 (mh_si h1 dn 0 1) := rq_w (rq_rs (s0 := s0) J1 (vK_1 (lv_sp (rq_lv x1 ldn))) x2) (Nat.le_refl _) (fun b j _ w => Or.inl (by
    unfold v2
    rw [hdn] at w
    split at w
    · exact Or.inr w
    · exact Or.inl w))
  have lodn := sp_lo J (lv_sp ldn)
  have ii2 : ∀ j, mh_i (mh_si h1 dn 0 1) 115 j = mh_i h1 115 j := fun j => by rw [hi_si, if_neg (by omega)]
  have e2 := x2'.k _ _ e1
  have d1 : dn ≠ on := lv_ne J1 (rq_lv x1 ldn) (Nat.le_refl _) e1
  have kO2 := rs_K J1 x2 ⟨_, e1⟩ (fun y hy _ w => kc_no J1 ⟨_, e1⟩ (lv_sp (rq_lv x1 ldn)) (fun q => d1 q.symm) y hy w) kO1
  have gdn : mg h1 dn 13 := (RK_ko kdn1).1
  generalize hh2 : mh_si h1 dn 0 1 = h2 at *
  -- h, f
  obtain ⟨h3, hh, x3, J3, e3, j3, a3, ko3, c3⟩ := t_226 (d := d' + 1) J2 (by rw [ii2]; exact j1) (by omega)
  have lvon2 : lv h2 (s0 + 1) on := ⟨s0, by omega, e2⟩
  have ldn2 : lv h2 (s0 + 1) dn := lv_w (rq_lv x2' (rq_lv x1' ldn)) (by omega)
  have kO3 := rq_K J2 x3 lvon2 (fun _ _ _ w => w) kO2
  have kD3 := rq_K J2 x3 ldn2 (fun _ _ _ w => w) kD2
  have x3' : rq s0 (v2 ho fa) h2 h3 := rq_w x3 (by omega) (fun _ _ _ w => absurd w (fun z => z))
  obtain ⟨h4, ff, x4, J4, e4, j4, a4, ko4, c4⟩ := t_226 (d := d' + 1) J3 j3 (by omega)
  have kO4 := rq_K J3 x4 (lv_w (rq_lv x3 lvon2) (by omega)) (fun _ _ _ w => w) kO3
  have kD4 := rq_K J3 x4 (lv_w (rq_lv x3 ldn2) (by omega)) (fun _ _ _ w => w) kD3
  have x4' : rq s0 (v2 ho fa) h3 h4 := rq_w x4 (by omega) (fun _ _ _ w => absurd w (fun z => z))
  have x04 : rq s0 (v2 ho fa) h h4 := rq_t x1' (rq_t x2' (rq_t x3' x4'))
  have v2h : vK h (v2 ho fa) := v2_K (lv_sp l1) (lv_sp l2)
  obtain ⟨t1, t2, t3⟩ := rq_tr J v2h x04
  obtain ⟨h5, x5, J5, i5, kO5, kD5, kp5, al5, F5, c5⟩ := p1 (d' + 3) p (1 + ts cs) (p + 1) s0 st ho fa on dn hh ff an h4 A (some B) none J4 j4 (by omega) (x4.k _ _ (x3.k _ _ e2)) (x4.k _ _ e3) e4 (rq_lv x04 l1) (rq_lv x04 l2) ne hdn kO4 kD4 oB no (by rw [t1, t2, t3]; exact n) (by omega) (by omega) (by omega) (by rw [t3]; exact hz) w (by omega)
  -- the other side is what on is
  have e5 := x5.k _ _ (x4.k _ _ (x3.k _ _ e2))
  have lot5 := rq_lv x5 (rq_lv x04 lot)
  have nooo : ot ≠ on := lv_ne J5 lot5 (Nat.le_refl _) e5
  obtain ⟨h6, x6, J6, k6, i6, c6⟩ := t_281 (d := d' + 2) J5 (lv_sp lot5) nooo kO5
  have ldn5 := rq_lv x5 (rq_lv x04 ldn)
  have kD6 := rs_K J5 x6 (lv_sp ldn5) (fun y hy _ w => kc_no J5 (lv_sp ldn5) (lv_sp lot5) (fun q => nod q.symm) y hy w) kD5
  have x6' : rq s0 (v2 ho fa) h5 h6 := rq_w (rq_rs (s0 := s0) J5 (vK_1 (lv_sp lot5)) x6) (Nat.le_refl _) (fun b j _ w => Or.inl (by
    unfold v2
    rw [hot] at w
    split at w
    · exact Or.inl w
    · exact Or.inr w))
  have loot := sp_lo J (lv_sp lot)
  have kO7 := RK_11 (v := Int32.ofNat s0) loot k6
  have kD7 := RK_11 (v := Int32.ofNat s0) lodn kD6
  have al : mh_i (mh_si h6 115 11 (Int32.ofNat s0)) 115 24 = mh_i h 115 24 ||| (spl en cs true an (some B) none).2.2 := by
    rw [hi_si, if_neg (by omega), i6, al5, a4, a3, ii2, a1]
  have fld : ∀ j, f12 j → mh_i h ho j = mh_i h st j → mh_i h fa j = mh_i h st j → mh_i h6 ot j = mh_i h st j ∧ mh_i h6 dn j = mh_i h st j := fun j hj y1 y2 => by
    have yd : mh_i h dn j = mh_i h st j := by rw [hdn]; split; exact y2; exact y1
    have a0 : mh_i h1 dn j = mh_i h dn j := rq_ki J x1 ldn (fun _ w => w) j
    have o1' : mh_i h1 on j = mh_i h st j := f227 j hj
    have a2' : mh_i h2 dn j = mh_i h1 dn j := by
      have j0 : ¬ j = 0 := by unfold f12 at hj; omega
      rw [← hh2, hi_si, if_neg (fun z => j0 z.2)]
    have o2' : mh_i h2 on j = mh_i h1 on j := by rw [← hh2, hi_si, if_neg (fun z => d1 z.1.symm)]
    have a3' : mh_i h3 dn j = mh_i h2 dn j := rq_ki J2 x3 ldn2 (fun _ w => w) j
    have o3' : mh_i h3 on j = mh_i h2 on j := rq_ki J2 x3 lvon2 (fun _ w => w) j
    have a4' : mh_i h4 dn j = mh_i h3 dn j := rq_ki J3 x4 (lv_w (rq_lv x3 ldn2) (by omega)) (fun _ w => w) j
    have o4' : mh_i h4 on j = mh_i h3 on j := rq_ki J3 x4 (lv_w (rq_lv x3 lvon2) (by omega)) (fun _ w => w) j
    have on4 : mh_i h4 on j = mh_i h st j := by rw [o4', o3', o2', o1']
    obtain ⟨b1, b2⟩ := F5 j hj (by rw [on4, a4', a3', a2', a0, yd])
    have dn6 : mh_i h6 dn j = mh_i h5 dn j := rs_ki J5 x6 (lv_sp ldn5) (fun j w => kc_no J5 (lv_sp ldn5) (lv_sp lot5) (fun q => nod q.symm) 0 (by omega) w) j
    have kot : ko h5 ot := by
      obtain ⟨i, -, q⟩ := lot5
      exact (J5.s i ot q).2
    exact ⟨by rw [fi_281 kot nooo kO5 c6 hj, b1, on4], by rw [dn6, b2, on4]⟩
  have n11 : ∀ o, 2644 ≤ o → ∀ j, mh_i (mh_si h6 115 11 (Int32.ofNat s0)) o j = mh_i h6 o j := fun o lo j => by rw [hi_si, if_neg (by omega)]
  refine ⟨mh_si h6 115 11 (Int32.ofNat s0), rq_t x04 (rq_t x5 (rq_t x6' rq_11)), RJ_11 J6, by rw [hi_si, if_pos ⟨rfl, rfl⟩], ?_, ?_, ?_, fun j hj y1 y2 => ?_, fun Q => ?_⟩
  · cases an with
    | true => rw [if_pos rfl] at hot; rw [← hot]; exact kO7
    | false => rw [if_neg (by decide)] at hdn; rw [← hdn]; exact kD7
  · cases an with
    | true => rw [if_pos rfl] at hdn; rw [← hdn]; exact kD7
    | false => rw [if_neg (by decide)] at hot; rw [← hot]; exact kO7
  · rw [al]
    cases an <;> rfl
  · obtain ⟨b1, b2⟩ := fld j hj y1 y2
    cases an with
    | true =>
      rw [if_pos rfl] at hot hdn
      rw [← hot, ← hdn, n11 ot loot, n11 dn lodn]
      exact ⟨b1, b2⟩
    | false =>
      rw [if_neg (by decide)] at hot hdn
      rw [← hot, ← hdn, n11 ot loot, n11 dn lodn]
      exact ⟨b2, b1⟩
  · have g := J.a.g
    have g1 := J1.a.g
    have g2 := J2.a.g
    have g3 := J3.a.g
    have g6 := J6.a.g
    have got : mg h5 ot 13 := by
      obtain ⟨i, -, q⟩ := lot5
      exact (J5.s i ot q).2.1
    have ei : ∀ k, Int32.ofNat k + 1 = Int32.ofNat (k + 1) := fun k => nn_add (a := k) (b := 1)
    have e10 : ((1 : Int32) = 0) = False := by decide
    have e00 : ((0 : Int32) = 0) = True := by decide
    have k1' : kb true = 1 := rfl
    have k0' : kb false = 0 := rfl
    have E1 : mcall (d' + 3) 251 [.ref 115, .int (Int32.ofNat p), .int (kb an), .ref st, .ref ho, .ref fa] h Q = mw (d' + 3) 251 Q 49 [some (.ref 115), some (.int (Int32.ofNat p)), some (.int (kb an)), some (.ref st), some (.ref ho), some (.ref fa), some (.int (Int32.ofNat s0)), some (.ref on), some (.ref dn), some (.ref hh), some (.ref ff), some (.int (Int32.ofNat (p + 1)))] [] h4 := by
      clear J J1 J2 J3 J4 J5 J6 k1 k2 k3 kO1 kO2 kO3 kO4 kO5 kO7 kD2 kD3 kD4 kD5 kD6 kD7 kdn kdn1 kp5 p1 fld f227 F5 n11 x1 x1' x2 x2' x3 x3' x4 x4' x04 x5 x6 x6' k6
      cases an with
      | true =>
        rw [if_pos rfl] at hdn
        subst hdn
        rw [k1']
        simp (disch := omega) only [s_251_0, s_251_1, s_251_4, s_251_6, s_251_7, s_251_8, s_251_11, s_251_11n, s_251_13, s_251_14, s_251_17, s_251_19, s_251_22, s_251_24, s_251_24n, s_251_26, s_251_28, s_251_29, s_251_32, s_251_33, s_251_36, s_251_36n, s_251_38, s_251_39, s_251_42, s_251_42n, s_251_44, s_251_45, s_251_46, s_251_47, s_251_51, s_251_52, s_251_53, s_251_56, s_251_59, s_251_60, s_251_62, s_251_64, s_251_66, s_251_68, s_251_71, s_251_73, s_251_74, s_251_77, s_251_79, s_251_82, s_251_84, s_251_87, s_251_89, s_251_90, s_251_93, s_251_95, s_251_98, s_251_100, s_251_103, s_251_104, s_251_106, s_251_109, s_251_111, s_251_114, s_251_115, s_251_118, s_251_120, s_251_123, s_251_125, s_251_127, s_251_130, s_251_131, s_251_133, s_251_136, e_251, mv_i_1, mv_l_1, mv_a_1, mv_a_2, mv_a_3, mk2_n, mk2_i, mk2_l, mk2_a, mk2_u, mk2_x, mB_T, mB_F, mS_cons, mS_nil, mSB_T, mSB_F, mca_nil, mca_i, mca_l, mca_r, mca_u, mca_x, mcat_i, mcat_l, mcat_r, mcat_u, mcat_x, mK_some, mK_none, va_rf_s, va_rf_n, lgc_eq, lgc_lt, lgc_gt, lgc_ge, lgc_le, mrd_104, mrd_105, mrd_106, mrd_107, true_and, and_true, and_self, false_and, and_false, true_or, or_true, false_or, or_false, not_true_eq_false, not_false_eq_true, mgb, mga, mgr, mN, reduceCtorEq, ↓reduceIte, eq_self, ge_iff_le, gt_iff_lt, Nat.reduceAdd, Nat.reduceMul, Nat.reduceSub, Nat.reduceLT, Nat.reduceGT, Nat.reduceEqDiff, Nat.reduceLeDiff, Nat.left_eq_add, Nat.add_eq_left, Nat.reduceMod, Nat.reduceDiv, Nat.succ_ne_self, g, g1, g2, g3, gdn, i11, c1, hh2, c3, c4, ei, e10, show ((1 : Int32) = 0 ∨ (1 : Int32) = 1) = True by decide]
      | false =>
        rw [if_neg (by decide)] at hdn
        subst hdn
        rw [k0']
        simp (disch := omega) only [s_251_0, s_251_1, s_251_4, s_251_6, s_251_7, s_251_8, s_251_11, s_251_11n, s_251_13, s_251_14, s_251_17, s_251_19, s_251_22, s_251_24, s_251_24n, s_251_26, s_251_28, s_251_29, s_251_32, s_251_33, s_251_36, s_251_36n, s_251_38, s_251_39, s_251_42, s_251_42n, s_251_44, s_251_45, s_251_46, s_251_47, s_251_51, s_251_52, s_251_53, s_251_56, s_251_59, s_251_60, s_251_62, s_251_64, s_251_66, s_251_68, s_251_71, s_251_73, s_251_74, s_251_77, s_251_79, s_251_82, s_251_84, s_251_87, s_251_89, s_251_90, s_251_93, s_251_95, s_251_98, s_251_100, s_251_103, s_251_104, s_251_106, s_251_109, s_251_111, s_251_114, s_251_115, s_251_118, s_251_120, s_251_123, s_251_125, s_251_127, s_251_130, s_251_131, s_251_133, s_251_136, e_251, mv_i_1, mv_l_1, mv_a_1, mv_a_2, mv_a_3, mk2_n, mk2_i, mk2_l, mk2_a, mk2_u, mk2_x, mB_T, mB_F, mS_cons, mS_nil, mSB_T, mSB_F, mca_nil, mca_i, mca_l, mca_r, mca_u, mca_x, mcat_i, mcat_l, mcat_r, mcat_u, mcat_x, mK_some, mK_none, va_rf_s, va_rf_n, lgc_eq, lgc_lt, lgc_gt, lgc_ge, lgc_le, mrd_104, mrd_105, mrd_106, mrd_107, true_and, and_true, and_self, false_and, and_false, true_or, or_true, false_or, or_false, not_true_eq_false, not_false_eq_true, mgb, mga, mgr, mN, reduceCtorEq, ↓reduceIte, eq_self, ge_iff_le, gt_iff_lt, Nat.reduceAdd, Nat.reduceMul, Nat.reduceSub, Nat.reduceLT, Nat.reduceGT, Nat.reduceEqDiff, Nat.reduceLeDiff, Nat.left_eq_add, Nat.add_eq_left, Nat.reduceMod, Nat.reduceDiv, Nat.succ_ne_self, g, g1, g2, g3, gdn, i11, c1, hh2, c3, c4, ei, e00, show ((1 : Int32) = 0 ∨ (1 : Int32) = 1) = True by decide]
    rw [E1, c5 Q]
    clear J J1 J2 J3 J4 J5 J6 k1 k2 k3 kO1 kO2 kO3 kO4 kO5 kO7 kD2 kD3 kD4 kD5 kD6 kD7 kdn kdn1 kp5 p1 fld f227 F5 n11 x1 x1' x2 x2' x3 x3' x4 x4' x04 x5 x6 x6' k6 E1
    cases an with
    | true =>
      rw [if_pos rfl] at hot
      subst hot
      rw [k1']
      simp (disch := omega) only [s_251_0, s_251_1, s_251_4, s_251_6, s_251_7, s_251_8, s_251_11, s_251_11n, s_251_13, s_251_14, s_251_17, s_251_19, s_251_22, s_251_24, s_251_24n, s_251_26, s_251_28, s_251_29, s_251_32, s_251_33, s_251_36, s_251_36n, s_251_38, s_251_39, s_251_42, s_251_42n, s_251_44, s_251_45, s_251_46, s_251_47, s_251_51, s_251_52, s_251_53, s_251_56, s_251_59, s_251_60, s_251_62, s_251_64, s_251_66, s_251_68, s_251_71, s_251_73, s_251_74, s_251_77, s_251_79, s_251_82, s_251_84, s_251_87, s_251_89, s_251_90, s_251_93, s_251_95, s_251_98, s_251_100, s_251_103, s_251_104, s_251_106, s_251_109, s_251_111, s_251_114, s_251_115, s_251_118, s_251_120, s_251_123, s_251_125, s_251_127, s_251_130, s_251_131, s_251_133, s_251_136, e_251, mv_i_1, mv_l_1, mv_a_1, mv_a_2, mv_a_3, mk2_n, mk2_i, mk2_l, mk2_a, mk2_u, mk2_x, mB_T, mB_F, mS_cons, mS_nil, mSB_T, mSB_F, mca_nil, mca_i, mca_l, mca_r, mca_u, mca_x, mcat_i, mcat_l, mcat_r, mcat_u, mcat_x, mK_some, mK_none, va_rf_s, va_rf_n, lgc_eq, lgc_lt, lgc_gt, lgc_ge, lgc_le, mrd_104, mrd_105, mrd_106, mrd_107, true_and, and_true, and_self, false_and, and_false, true_or, or_true, false_or, or_false, not_true_eq_false, not_false_eq_true, mgb, mga, mgr, mN, reduceCtorEq, ↓reduceIte, eq_self, ge_iff_le, gt_iff_lt, Nat.reduceAdd, Nat.reduceMul, Nat.reduceSub, Nat.reduceLT, Nat.reduceGT, Nat.reduceEqDiff, Nat.reduceLeDiff, Nat.left_eq_add, Nat.add_eq_left, Nat.reduceMod, Nat.reduceDiv, Nat.succ_ne_self, got, g6, c6, e10]
    | false =>
      rw [if_neg (by decide)] at hot
      subst hot
      rw [k0']
      simp (disch := omega) only [s_251_0, s_251_1, s_251_4, s_251_6, s_251_7, s_251_8, s_251_11, s_251_11n, s_251_13, s_251_14, s_251_17, s_251_19, s_251_22, s_251_24, s_251_24n, s_251_26, s_251_28, s_251_29, s_251_32, s_251_33, s_251_36, s_251_36n, s_251_38, s_251_39, s_251_42, s_251_42n, s_251_44, s_251_45, s_251_46, s_251_47, s_251_51, s_251_52, s_251_53, s_251_56, s_251_59, s_251_60, s_251_62, s_251_64, s_251_66, s_251_68, s_251_71, s_251_73, s_251_74, s_251_77, s_251_79, s_251_82, s_251_84, s_251_87, s_251_89, s_251_90, s_251_93, s_251_95, s_251_98, s_251_100, s_251_103, s_251_104, s_251_106, s_251_109, s_251_111, s_251_114, s_251_115, s_251_118, s_251_120, s_251_123, s_251_125, s_251_127, s_251_130, s_251_131, s_251_133, s_251_136, e_251, mv_i_1, mv_l_1, mv_a_1, mv_a_2, mv_a_3, mk2_n, mk2_i, mk2_l, mk2_a, mk2_u, mk2_x, mB_T, mB_F, mS_cons, mS_nil, mSB_T, mSB_F, mca_nil, mca_i, mca_l, mca_r, mca_u, mca_x, mcat_i, mcat_l, mcat_r, mcat_u, mcat_x, mK_some, mK_none, va_rf_s, va_rf_n, lgc_eq, lgc_lt, lgc_gt, lgc_ge, lgc_le, mrd_104, mrd_105, mrd_106, mrd_107, true_and, and_true, and_self, false_and, and_false, true_or, or_true, false_or, or_false, not_true_eq_false, not_false_eq_true, mgb, mga, mgr, mN, reduceCtorEq, ↓reduceIte, eq_self, ge_iff_le, gt_iff_lt, Nat.reduceAdd, Nat.reduceMul, Nat.reduceSub, Nat.reduceLT, Nat.reduceGT, Nat.reduceEqDiff, Nat.reduceLeDiff, Nat.left_eq_add, Nat.add_eq_left, Nat.reduceMod, Nat.reduceDiv, Nat.succ_ne_self, got, g6, c6, e00]
theorem P0_br {n : Nat} {cs r : tr} (i0 : P0 T sN en cs) (i1 : P1 T sN en cs) : P0 T sN en (.branch n cs r) := by
  intro d p s0 st ho fa h A C J i11 hs l3 l1 l2 n1 n2 n3 k3 oC hnd hp w hd
  obtain ⟨d', rfl⟩ : ∃ d', d = d' + 1 := ⟨d - 1, by omega⟩
  have hts := ts_B (n := n) (cs := cs) (r := r)
  have hth : th cs + 1 ≤ th (.branch n cs r) := by rw [th_B]; omega
  obtain ⟨d1, d2, d3, d4, d5⟩ := hnd
  have v2h : vK h (v2 ho fa) := v2_K (lv_sp l1) (lv_sp l2)
  -- both become the state
  obtain ⟨h1, x1, J1, k11, ii1, c1⟩ := t_281 (d := d') J (lv_sp l1) (fun q => n1 q.symm) k3
  have k31 := rs_K J x1 (lv_sp l3) (fun y hy _ w => kc_no J (lv_sp l3) (lv_sp l1) n1 y hy w) k3
  have x1' : rq s0 (v2 ho fa) h h1 := rq_rs J v2h (rs_1 x1)
  have l21 := rq_lv x1' l2
  obtain ⟨h2, x2, J2, k22, ii2, c2⟩ := t_281 (d := d') J1 (lv_sp l21) (fun q => n2 q.symm) k31
  have l31 := rq_lv x1' l3
  have l11 := rq_lv x1' l1
  have k32 := rs_K J1 x2 (lv_sp l31) (fun y hy _ w => kc_no J1 (lv_sp l31) (lv_sp l21) n2 y hy w) k31
  have k12 := rs_K J1 x2 (lv_sp l11) (fun y hy _ w => kc_no J1 (lv_sp l11) (lv_sp l21) n3 y hy w) k11
  have x2' : rq s0 (v2 ho fa) h1 h2 := rq_rs J1 (v2_K (lv_sp l11) (lv_sp l21)) (rs_2 x2)
  have x02 := rq_t x1' x2'
  obtain ⟨t1, t2, t3⟩ := rq_tr J v2h x02
  have ii : ∀ j, mh_i h2 115 j = mh_i h 115 j := fun j => (ii2 j).trans (ii1 j)
  have l12 := rq_lv x02 l1
  have l22 := rq_lv x02 l2
  have l32 := rq_lv x02 l3
  have g := J2.a.g
  have gh : mg h ho 13 := by
    obtain ⟨i, -, q⟩ := l1
    exact (J.s i ho q).2.1
  have gf : mg h1 fa 13 := by
    obtain ⟨i, -, q⟩ := l21
    exact (J1.s i fa q).2.1
  have gs : mg h2 st 13 := (RK_ko k32).1
  have r0 := J2.a.r0
  have gK := J2.a.F.g 93 102 26000 (by decide +kernel)
  have gK1 := gK.1
  have gK2 := gK.2
  have lK := J2.a.F.l 93 102 26000 (by decide +kernel)
  have dk : mh_i h2 93 p = Int32.ofNat (tK n) := by rw [t1]; exact d1
  have tk : tK n < 64 := by unfold tK; omega
  have ei : ∀ k, Int32.ofNat k + 1 = Int32.ofNat (k + 1) := fun k => nn_add (a := k) (b := 1)
  have e10 : ((1 : Int32) = 0) = False := by decide
  have e00 : ((0 : Int32) = 0) = True := by decide
  have k26e : (Int32.ofNat (tK n) = 26) = (tK n = 26) := ofn_eq (by omega) (by decide)
  have k25e : (Int32.ofNat (tK n) = 25) = (tK n = 25) := ofn_eq (by omega) (by decide)
  have k24e : (Int32.ofNat (tK n) = 24) = (tK n = 24) := ofn_eq (by omega) (by decide)
  have nd2 : nd (mh_i h2 93) (mh_i h2 95) (mh_i h2 97) (p + 1) cs := by rw [t1, t2, t3]; exact d4
  have fh1 : ∀ j, f12 j → mh_i h1 ho j = mh_i h st j := fun j hj => by
    obtain ⟨i, -, q⟩ := l1
    exact fi_281 (J.s i ho q).2 (fun q => n1 q.symm) k3 c1 hj
  have fs1 : ∀ j, mh_i h1 st j = mh_i h st j := fun j => rs_ki J x1 (lv_sp l3) (fun j w => kc_no J (lv_sp l3) (lv_sp l1) n1 0 (by omega) w) j
  have ff2 : ∀ j, f12 j → mh_i h2 fa j = mh_i h st j := fun j hj => by
    obtain ⟨i, -, q⟩ := l21
    rw [fi_281 (J1.s i fa q).2 (fun q => n2 q.symm) k31 c2 hj]; exact fs1 j
  have fh2 : ∀ j, f12 j → mh_i h2 ho j = mh_i h st j := fun j hj => by
    rw [rs_ki J1 x2 (lv_sp l11) (fun j w => kc_no J1 (lv_sp l11) (lv_sp l21) n3 0 (by omega) w) j]; exact fh1 j hj
  have fs2 : ∀ j, mh_i h2 st j = mh_i h st j := fun j => by
    rw [rs_ki J1 x2 (lv_sp l31) (fun j w => kc_no J1 (lv_sp l31) (lv_sp l21) n2 0 (by omega) w) j]; exact fs1 j
  cases C with
  | none =>
    have kz : KN h2 st := k32
    have z1 := kz.z
    refine ⟨h2, x02, J2, (ii 11).trans i11, k12, k22, (ii 24).trans (i32_or0 _).symm, fun j hj => ⟨fh2 j hj, ff2 j hj⟩, fun Q => ?_⟩
    clear fh1 fs1 fh2 ff2 fs2 J J1 J2 k3 k11 k31 k22 k32 k12 i0 i1
    simp (disch := omega) only [s_250_0, s_250_1, s_250_2, s_250_5, s_250_7, s_250_8, s_250_11, s_250_12, s_250_15, s_250_16, s_250_17, s_250_19, s_250_20, s_250_23, s_250_26, s_250_27, s_250_29, s_250_31, s_250_34, s_250_35, s_250_36, s_250_37, s_250_38, s_250_39, s_250_41, s_250_42, s_250_45, s_250_48, s_250_50, s_250_52, s_250_55, s_250_57, s_250_59, s_250_62, s_250_63, s_250_64, s_250_66, s_250_68, s_250_71, s_250_72, s_250_75, s_250_76, s_250_77, s_250_78, s_250_80, s_250_83, s_250_86, s_250_87, s_250_88, s_250_90, s_250_92, s_250_93, s_250_94, s_250_95, s_250_97, s_250_100, e_250, mv_i_1, mv_l_1, mv_a_1, mv_a_2, mv_a_3, mk2_n, mk2_i, mk2_l, mk2_a, mk2_u, mk2_x, mB_T, mB_F, mS_cons, mS_nil, mSB_T, mSB_F, mca_nil, mca_i, mca_l, mca_r, mca_u, mca_x, mcat_i, mcat_l, mcat_r, mcat_u, mcat_x, mK_some, mK_none, va_rf_s, va_rf_n, lgc_eq, lgc_lt, lgc_gt, lgc_ge, lgc_le, mrd_104, mrd_105, mrd_106, mrd_107, true_and, and_true, and_self, false_and, and_false, true_or, or_true, false_or, or_false, not_true_eq_false, not_false_eq_true, mgb, mga, mgr, mN, reduceCtorEq, ↓reduceIte, eq_self, ge_iff_le, gt_iff_lt, Nat.reduceAdd, Nat.reduceMul, Nat.reduceSub, Nat.reduceLT, Nat.reduceGT, Nat.reduceEqDiff, Nat.reduceLeDiff, Nat.left_eq_add, Nat.add_eq_left, Nat.reduceMod, Nat.reduceDiv, Nat.succ_ne_self, g, gh, gf, gs, r0, gK1, gK2, lK, c1, c2, dk, z1, nn_mxT, nn_clamp, e10]
  | some B =>
    have kz : KM h2 st B := k32
    have z0 := kz.z
    obtain ⟨tB, nB, aB, rB⟩ := oC B rfl
    by_cases k26 : tK n = 26
    · have c3' : cn3 cs ≤ cn3 (.branch n cs r) := by
        show cn3 cs ≤ max (if tK n = 26 then cn3 cs else _) _
        rw [if_pos k26]; omega
      obtain ⟨h3, x3, J3, j3, kf3, kh3, al3, F3, c3⟩ := i0 d' (p + 1) s0 st fa ho h2 A (some B) J2 ((ii 11).trans i11) (by omega) l32 l22 l12 n2 n1 (fun q => n3 q.symm) k32 oC nd2 (by omega) (wC_26 k26 w) (by omega)
      rw [spl_26 k26]
      have x3' : rq s0 (v2 ho fa) h2 h3 := rq_w x3 (Nat.le_refl _) (fun b j _ w => Or.inl w.symm)
      refine ⟨h3, rq_t x02 x3', J3, j3, kh3, kf3, ?_, fun j hj => ⟨(F3 j hj).2.trans (fs2 j), (F3 j hj).1.trans (fs2 j)⟩, fun Q => ?_⟩
      · rw [al3, ii]; rfl
      · rw [eq_true k26] at k26e
        clear fh1 fs1 fh2 ff2 fs2 F3 J J1 J2 J3 k3 k11 k31 k22 k32 k12 i0 i1 kf3 kh3 kz
        simp (disch := omega) only [s_250_0, s_250_1, s_250_2, s_250_5, s_250_7, s_250_8, s_250_11, s_250_12, s_250_15, s_250_16, s_250_17, s_250_19, s_250_20, s_250_23, s_250_26, s_250_27, s_250_29, s_250_31, s_250_34, s_250_35, s_250_36, s_250_37, s_250_38, s_250_39, s_250_41, s_250_42, s_250_45, s_250_48, s_250_50, s_250_52, s_250_55, s_250_57, s_250_59, s_250_62, s_250_63, s_250_64, s_250_66, s_250_68, s_250_71, s_250_72, s_250_75, s_250_76, s_250_77, s_250_78, s_250_80, s_250_83, s_250_86, s_250_87, s_250_88, s_250_90, s_250_92, s_250_93, s_250_94, s_250_95, s_250_97, s_250_100, e_250, mv_i_1, mv_l_1, mv_a_1, mv_a_2, mv_a_3, mk2_n, mk2_i, mk2_l, mk2_a, mk2_u, mk2_x, mB_T, mB_F, mS_cons, mS_nil, mSB_T, mSB_F, mca_nil, mca_i, mca_l, mca_r, mca_u, mca_x, mcat_i, mcat_l, mcat_r, mcat_u, mcat_x, mK_some, mK_none, va_rf_s, va_rf_n, lgc_eq, lgc_lt, lgc_gt, lgc_ge, lgc_le, mrd_104, mrd_105, mrd_106, mrd_107, true_and, and_true, and_self, false_and, and_false, true_or, or_true, false_or, or_false, not_true_eq_false, not_false_eq_true, mgb, mga, mgr, mN, reduceCtorEq, ↓reduceIte, eq_self, ge_iff_le, gt_iff_lt, Nat.reduceAdd, Nat.reduceMul, Nat.reduceSub, Nat.reduceLT, Nat.reduceGT, Nat.reduceEqDiff, Nat.reduceLeDiff, Nat.left_eq_add, Nat.add_eq_left, Nat.reduceMod, Nat.reduceDiv, Nat.succ_ne_self, g, gh, gf, gs, r0, gK1, gK2, lK, c1, c2, c3, dk, z0, nn_mxT, nn_clamp, e00, k26e, ei]
    · rw [eq_false k26] at k26e
      by_cases k25 : tK n = 24 ∨ tK n = 25
      · have c3' : 3 + cn3 cs ≤ cn3 (.branch n cs r) := by
          show 3 + cn3 cs ≤ max (if tK n = 26 then cn3 cs else if tK n = 24 ∨ tK n = 25 then 3 + cn3 cs else 0) _
          rw [if_neg k26, if_pos k25]; omega
        obtain ⟨h3, x3, J3, j3, kh3, kf3, al3, F3, c3⟩ := u_251 (an := decide (tK n = 25)) i1 (d := d') (p := p) J2 ((ii 11).trans i11) (by omega) l32 l12 l22 n3 k32 k12 k22 oC nd2 (by omega) (by rw [t3]; exact d3) (wC_25 k25 w) (by omega)
        rw [spl_25 k25]
        refine ⟨h3, rq_t x02 x3, J3, j3, kh3, kf3, ?_, fun j hj => by have z := F3 j hj ((fh2 j hj).trans (fs2 j).symm) ((ff2 j hj).trans (fs2 j).symm); exact ⟨z.1.trans (fs2 j), z.2.trans (fs2 j)⟩, fun Q => ?_⟩
        · rw [al3, ii]
        · clear fh1 fs1 fh2 ff2 fs2 F3 J J1 J2 J3 k3 k11 k31 k22 k32 k12 i0 i1 kf3 kh3 kz
          by_cases k5 : tK n = 25
          · rw [decide_eq_true k5] at c3
            have k1' : kb true = 1 := rfl
            rw [k1'] at c3
            rw [eq_true k5] at k25e
            rw [eq_false (show ¬ tK n = 24 by omega)] at k24e
            simp (disch := omega) only [s_250_0, s_250_1, s_250_2, s_250_5, s_250_7, s_250_8, s_250_11, s_250_12, s_250_15, s_250_16, s_250_17, s_250_19, s_250_20, s_250_23, s_250_26, s_250_27, s_250_29, s_250_31, s_250_34, s_250_35, s_250_36, s_250_37, s_250_38, s_250_39, s_250_41, s_250_42, s_250_45, s_250_48, s_250_50, s_250_52, s_250_55, s_250_57, s_250_59, s_250_62, s_250_63, s_250_64, s_250_66, s_250_68, s_250_71, s_250_72, s_250_75, s_250_76, s_250_77, s_250_78, s_250_80, s_250_83, s_250_86, s_250_87, s_250_88, s_250_90, s_250_92, s_250_93, s_250_94, s_250_95, s_250_97, s_250_100, e_250, mv_i_1, mv_l_1, mv_a_1, mv_a_2, mv_a_3, mk2_n, mk2_i, mk2_l, mk2_a, mk2_u, mk2_x, mB_T, mB_F, mS_cons, mS_nil, mSB_T, mSB_F, mca_nil, mca_i, mca_l, mca_r, mca_u, mca_x, mcat_i, mcat_l, mcat_r, mcat_u, mcat_x, mK_some, mK_none, va_rf_s, va_rf_n, lgc_eq, lgc_lt, lgc_gt, lgc_ge, lgc_le, mrd_104, mrd_105, mrd_106, mrd_107, true_and, and_true, and_self, false_and, and_false, true_or, or_true, false_or, or_false, not_true_eq_false, not_false_eq_true, mgb, mga, mgr, mN, reduceCtorEq, ↓reduceIte, eq_self, ge_iff_le, gt_iff_lt, Nat.reduceAdd, Nat.reduceMul, Nat.reduceSub, Nat.reduceLT, Nat.reduceGT, Nat.reduceEqDiff, Nat.reduceLeDiff, Nat.left_eq_add, Nat.add_eq_left, Nat.reduceMod, Nat.reduceDiv, Nat.succ_ne_self, g, gh, gf, gs, r0, gK1, gK2, lK, c1, c2, c3, dk, z0, nn_mxT, nn_clamp, e00, k26e, k25e, k24e, ei]
          · rw [decide_eq_false k5] at c3
            have k0' : kb false = 0 := rfl
            rw [k0'] at c3
            rw [eq_false k5] at k25e
            rw [eq_true (show tK n = 24 by omega)] at k24e
            simp (disch := omega) only [s_250_0, s_250_1, s_250_2, s_250_5, s_250_7, s_250_8, s_250_11, s_250_12, s_250_15, s_250_16, s_250_17, s_250_19, s_250_20, s_250_23, s_250_26, s_250_27, s_250_29, s_250_31, s_250_34, s_250_35, s_250_36, s_250_37, s_250_38, s_250_39, s_250_41, s_250_42, s_250_45, s_250_48, s_250_50, s_250_52, s_250_55, s_250_57, s_250_59, s_250_62, s_250_63, s_250_64, s_250_66, s_250_68, s_250_71, s_250_72, s_250_75, s_250_76, s_250_77, s_250_78, s_250_80, s_250_83, s_250_86, s_250_87, s_250_88, s_250_90, s_250_92, s_250_93, s_250_94, s_250_95, s_250_97, s_250_100, e_250, mv_i_1, mv_l_1, mv_a_1, mv_a_2, mv_a_3, mk2_n, mk2_i, mk2_l, mk2_a, mk2_u, mk2_x, mB_T, mB_F, mS_cons, mS_nil, mSB_T, mSB_F, mca_nil, mca_i, mca_l, mca_r, mca_u, mca_x, mcat_i, mcat_l, mcat_r, mcat_u, mcat_x, mK_some, mK_none, va_rf_s, va_rf_n, lgc_eq, lgc_lt, lgc_gt, lgc_ge, lgc_le, mrd_104, mrd_105, mrd_106, mrd_107, true_and, and_true, and_self, false_and, and_false, true_or, or_true, false_or, or_false, not_true_eq_false, not_false_eq_true, mgb, mga, mgr, mN, reduceCtorEq, ↓reduceIte, eq_self, ge_iff_le, gt_iff_lt, Nat.reduceAdd, Nat.reduceMul, Nat.reduceSub, Nat.reduceLT, Nat.reduceGT, Nat.reduceEqDiff, Nat.reduceLeDiff, Nat.left_eq_add, Nat.add_eq_left, Nat.reduceMod, Nat.reduceDiv, Nat.succ_ne_self, g, gh, gf, gs, r0, gK1, gK2, lK, c1, c2, c3, dk, z0, nn_mxT, nn_clamp, e00, k26e, k25e, k24e, ei]
      · obtain ⟨b1, b2, m1, c1', m2, c2', r2, rfl, w1, w2, w3, w4, w5, w6⟩ := wC_27 k26 k25 w
        rw [eq_false (show ¬ tK n = 25 by omega)] at k25e
        rw [eq_false (show ¬ tK n = 24 by omega)] at k24e
        have nd3 := nd2
        rw [nd_B] at nd3
        have e5 : p + 1 + 1 + ts c1' = p + 1 + (1 + ts c1') := by omega
        rw [e5] at nd3
        have tq : ts (.branch m1 c1' (.branch m2 c2' r2)) = 1 + ts c1' + ts (.branch m2 c2' r2) := rfl
        have M1 : SM h2 sN en B (.branch m1 c1' (.branch m2 c2' r2)) (p + 1) := ⟨nd2, by omega, (wS_ab nB aB rB _).1 w1, w2, w3⟩
        have M2 : SM h2 sN en B (.branch m2 c2' r2) (p + 1 + (1 + ts c1')) := ⟨nd3.2.2.2.2, by omega, (wS_ab nB aB rB _).1 w4, w5, w6⟩
        obtain ⟨h3, x3, J3, kh3, kf3, al3, j3, c3⟩ := u_252 (s0 := s0) (d := d') J2 (lv_sp l32) (lv_sp l12) (lv_sp l22) n1 n2 n3 k32 k12 k22 tB M1 M2 (w := tK n - 27) (by omega) (by omega)
        rw [spl_27 b1]
        have es : Int32.ofNat (tK n) - 27 = Int32.ofNat (tK n - 27) := nn_sub (a := tK n) (b := 27) b1
        have gho : mg h2 ho 13 := by
          obtain ⟨i, -, q⟩ := l12
          exact (J2.s i ho q).2.1
        have gfa : mg h2 fa 13 := by
          obtain ⟨i, -, q⟩ := l22
          exact (J2.s i fa q).2.1
        refine ⟨h3, rq_t x02 x3, J3, j3.trans ((ii 11).trans i11), kh3, kf3, by rw [al3, ii]; rfl, fun j hj => ⟨(fi_252 c3 gho hj).trans (fh2 j hj), (fi_252 c3 gfa hj).trans (ff2 j hj)⟩, fun Q => ?_⟩
        clear gho gfa fh1 fs1 fh2 ff2 fs2 J J1 J2 J3 k3 k11 k31 k22 k32 k12 i0 i1 kf3 kh3 kz M1 M2
        simp (disch := omega) only [s_250_0, s_250_1, s_250_2, s_250_5, s_250_7, s_250_8, s_250_11, s_250_12, s_250_15, s_250_16, s_250_17, s_250_19, s_250_20, s_250_23, s_250_26, s_250_27, s_250_29, s_250_31, s_250_34, s_250_35, s_250_36, s_250_37, s_250_38, s_250_39, s_250_41, s_250_42, s_250_45, s_250_48, s_250_50, s_250_52, s_250_55, s_250_57, s_250_59, s_250_62, s_250_63, s_250_64, s_250_66, s_250_68, s_250_71, s_250_72, s_250_75, s_250_76, s_250_77, s_250_78, s_250_80, s_250_83, s_250_86, s_250_87, s_250_88, s_250_90, s_250_92, s_250_93, s_250_94, s_250_95, s_250_97, s_250_100, e_250, mv_i_1, mv_l_1, mv_a_1, mv_a_2, mv_a_3, mk2_n, mk2_i, mk2_l, mk2_a, mk2_u, mk2_x, mB_T, mB_F, mS_cons, mS_nil, mSB_T, mSB_F, mca_nil, mca_i, mca_l, mca_r, mca_u, mca_x, mcat_i, mcat_l, mcat_r, mcat_u, mcat_x, mK_some, mK_none, va_rf_s, va_rf_n, lgc_eq, lgc_lt, lgc_gt, lgc_ge, lgc_le, mrd_104, mrd_105, mrd_106, mrd_107, true_and, and_true, and_self, false_and, and_false, true_or, or_true, false_or, or_false, not_true_eq_false, not_false_eq_true, mgb, mga, mgr, mN, reduceCtorEq, ↓reduceIte, eq_self, ge_iff_le, gt_iff_lt, Nat.reduceAdd, Nat.reduceMul, Nat.reduceSub, Nat.reduceLT, Nat.reduceGT, Nat.reduceEqDiff, Nat.reduceLeDiff, Nat.left_eq_add, Nat.add_eq_left, Nat.reduceMod, Nat.reduceDiv, Nat.succ_ne_self, g, gh, gf, gs, r0, gK1, gK2, lK, c1, c2, c3, dk, z0, nn_mxT, nn_clamp, e00, k26e, k25e, k24e, ei, es]
theorem split_all : ∀ t, P0 T sN en t ∧ P1 T sN en t := by
  intro t
  induction t with
  | leaf u =>
    refine ⟨?_, P1_leaf u⟩
    intro d p s0 st ho fa h A C _ _ _ _ _ _ _ _ _ _ _ _ _ w
    exact absurd w (by intro z; cases z)
  | branch n cs r ih1 ih2 =>
    have p0 := P0_br (n := n) (r := r) ih1.1 ih1.2
    exact ⟨p0, P1_br p0 ih2.2⟩
/-- Analysis.split -/
theorem u_250 (t : tr) : P0 T sN en t := (split_all t).1
end JNw
