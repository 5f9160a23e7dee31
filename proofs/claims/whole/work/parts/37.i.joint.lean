set_option maxRecDepth 100000
/-! Analysis.split and joint -/
/-- split over a COND -/
def P0 (T : Nat) (sN : Int → Prop) (en : Int → Nat) (t : tr) : Prop := ∀ (d p s0 st ho fa : Nat) (h : mh_H) (A : ab) (C : Option ab), RJ h T sN en → mh_i h 115 11 = Int32.ofNat s0 → s0 + cn3 t ≤ 2048 → lv h s0 st → lv h s0 ho → lv h s0 fa → st ≠ ho → st ≠ fa → ho ≠ fa → RK h st C → okS A C → nd (mh_i h 93) (mh_i h 95) (mh_i h 97) p t → p + ts t ≤ 26000 → wC sN en A t false → 2 * th t + 20 ≤ d → ∃ h', rq s0 (v2 ho fa) h h' ∧ RJ h' T sN en ∧ mh_i h' 115 11 = Int32.ofNat s0 ∧ RK h' ho (spl en t false false C none).1 ∧ RK h' fa (spl en t false false C none).2.1 ∧ mh_i h' 115 24 = mh_i h 115 24 ||| (spl en t false false C none).2.2 ∧ (∀ j, f12 j → mh_i h' ho j = mh_i h st j ∧ mh_i h' fa j = mh_i h st j) ∧ ∀ Q, mcall d 250 [.ref 115, .int (Int32.ofNat p), .ref st, .ref ho, .ref fa] h Q = Q none h'
/-- the loop of joint -/
def P1 (T : Nat) (sN : Int → Prop) (en : Int → Nat) (t : tr) : Prop := ∀ (d k0 z p s0 st ho fa on dn hh ff : Nat) (an : Bool) (h : mh_H) (A : ab) (CO CD : Option ab), RJ h T sN en → mh_i h 115 11 = Int32.ofNat (s0 + 3) → s0 + 3 + cn3 t ≤ 2048 → mh_r h 119 s0 = some on → mh_r h 119 (s0 + 1) = some hh → mh_r h 119 (s0 + 2) = some ff → lv h s0 ho → lv h s0 fa → ho ≠ fa → dn = (if an = true then fa else ho) → RK h on CO → RK h dn CD → okS A CO → okS A CD → nd (mh_i h 93) (mh_i h 95) (mh_i h 97) p t → p + ts t = k0 + z → k0 + z ≤ 26000 → k0 < 26000 → mh_i h 97 k0 = Int32.ofNat z → wC sN en A t true → 2 * th t + 21 ≤ d → ∃ h', rq s0 (v2 ho fa) h h' ∧ RJ h' T sN en ∧ mh_i h' 115 11 = Int32.ofNat (s0 + 3) ∧ RK h' on (spl en t true an CO CD).1 ∧ RK h' dn (spl en t true an CO CD).2.1 ∧ (∀ o D, lv h s0 o → o ≠ dn → RK h o D → RK h' o D) ∧ mh_i h' 115 24 = mh_i h 115 24 ||| (spl en t true an CO CD).2.2 ∧ (∀ j, f12 j → mh_i h on j = mh_i h dn j → mh_i h' on j = mh_i h on j ∧ mh_i h' dn j = mh_i h on j) ∧ ∀ Q, mw d 251 Q 49 [some (.ref 115), some (.int (Int32.ofNat k0)), some (.int (kb an)), some (.ref st), some (.ref ho), some (.ref fa), some (.int (Int32.ofNat s0)), some (.ref on), some (.ref dn), some (.ref hh), some (.ref ff), some (.int (Int32.ofNat p))] [] h = mw d 251 Q 114 [some (.ref 115), some (.int (Int32.ofNat k0)), some (.int (kb an)), some (.ref st), some (.ref ho), some (.ref fa), some (.int (Int32.ofNat s0)), some (.ref on), some (.ref dn), some (.ref hh), some (.ref ff), some (.int (Int32.ofNat (k0 + z)))] [] h'
section JNs
variable {T : Nat} {sN : Int → Prop} {en : Int → Nat}
theorem P1_leaf (u : Unit) : P1 T sN en (.leaf u) := by
  intro d k0 z p s0 st ho fa on dn hh ff an h A CO CD J i11 hs e0 e1 e2 l1 l2 ne hdn kO kD o1 o2 _ hp hz hk0 hzz _ hd
  obtain ⟨d', rfl⟩ : ∃ d', d = d' + 1 := ⟨d - 1, by omega⟩
  have e : p = k0 + z := hp
  subst e
  have ca := u_228 (d := d') J.a hk0 hzz
  have g := J.a.g
  have hle : (k0 + z ≤ k0 + z) = True := eq_true (Nat.le_refl _)
  refine ⟨h, rq_id, J, i11, kO, kD, fun _ _ _ _ k => k, (i32_or0 _).symm, fun j _ e => ⟨rfl, e.symm⟩, fun Q => ?_⟩
  rw [s_251_49]
  simp (disch := omega) only [s_251_0, s_251_1, s_251_4, s_251_6, s_251_7, s_251_8, s_251_11, s_251_11n, s_251_13, s_251_14, s_251_17, s_251_19, s_251_22, s_251_24, s_251_24n, s_251_26, s_251_28, s_251_29, s_251_32, s_251_33, s_251_36, s_251_36n, s_251_38, s_251_39, s_251_42, s_251_42n, s_251_44, s_251_45, s_251_46, s_251_47, s_251_51, s_251_52, s_251_53, s_251_56, s_251_59, s_251_60, s_251_62, s_251_64, s_251_66, s_251_68, s_251_71, s_251_73, s_251_74, s_251_77, s_251_79, s_251_82, s_251_84, s_251_87, s_251_89, s_251_90, s_251_93, s_251_95, s_251_98, s_251_100, s_251_103, s_251_104, s_251_106, s_251_109, s_251_111, s_251_114, s_251_115, s_251_118, s_251_120, s_251_123, s_251_125, s_251_127, s_251_130, s_251_131, s_251_133, s_251_136, e_251, mv_i_1, mv_l_1, mv_a_1, mv_a_2, mv_a_3, mk2_n, mk2_i, mk2_l, mk2_a, mk2_u, mk2_x, mB_T, mB_F, mS_cons, mS_nil, mSB_T, mSB_F, mca_nil, mca_i, mca_l, mca_r, mca_u, mca_x, mcat_i, mcat_l, mcat_r, mcat_u, mcat_x, mK_some, mK_none, va_rf_s, va_rf_n, lgc_eq, lgc_lt, lgc_gt, lgc_ge, lgc_le, mrd_104, mrd_105, mrd_106, mrd_107, true_and, and_true, and_self, false_and, and_false, true_or, or_true, false_or, or_false, not_true_eq_false, not_false_eq_true, mgb, mga, mgr, mN, reduceCtorEq, ↓reduceIte, eq_self, ge_iff_le, gt_iff_lt, Nat.reduceAdd, Nat.reduceMul, Nat.reduceSub, Nat.reduceLT, Nat.reduceGT, Nat.reduceEqDiff, Nat.reduceLeDiff, Nat.left_eq_add, Nat.add_eq_left, Nat.reduceMod, Nat.reduceDiv, Nat.succ_ne_self, g, ca, nn_le, hle]
theorem P1_br {n : Nat} {cs r : tr} (p0 : P0 T sN en (.branch n cs r)) (p1 : P1 T sN en r) : P1 T sN en (.branch n cs r) := by
  intro d k0 z p s0 st ho fa on dn hh ff an h A CO CD J i11 hs e0 e1 e2 l1 l2 ne hdn kO kD o1 o2 hnd hp hz hk0 hzz w hd
  obtain ⟨d', rfl⟩ : ∃ d', d = d' + 1 := ⟨d - 1, by omega⟩
  have cr : cn3 r ≤ cn3 (.branch n cs r) := by show cn3 r ≤ max _ (cn3 r); omega
  have tr' : th r ≤ th (.branch n cs r) := by rw [th_B]; omega
  have hts := ts_B (n := n) (cs := cs) (r := r)
  rw [hts] at hp
  have lon : lv h (s0 + 3) on := ⟨s0, by omega, e0⟩
  have lhh : lv h (s0 + 3) hh := ⟨s0 + 1, by omega, e1⟩
  have lff : lv h (s0 + 3) ff := ⟨s0 + 2, by omega, e2⟩
  have n1 : on ≠ hh := fun q => by rw [q] at e0; have := J.i _ _ _ e0 e1; omega
  have n2 : on ≠ ff := fun q => by rw [q] at e0; have := J.i _ _ _ e0 e2; omega
  have n3 : hh ≠ ff := fun q => by rw [q] at e1; have := J.i _ _ _ e1 e2; omega
  have ldn : lv h s0 dn := by rw [hdn]; split; exact l2; exact l1
  have d1 : dn ≠ on := lv_ne J ldn (Nat.le_refl _) e0
  have d2 : dn ≠ hh := lv_ne J ldn (by omega) e1
  have d3 : dn ≠ ff := lv_ne J ldn (by omega) e2
  obtain ⟨h1, x1, J1, i1, kh1, kf1, al1, F1, ex1⟩ := p0 d' p (s0 + 3) on hh ff h A CO J i11 hs lon lhh lff n1 n2 n3 kO o1 hnd (by rw [hts]; omega) (wC_f w) (by omega)
  have hv2 : vK h (v2 hh ff) := v2_K (lv_sp lhh) (lv_sp lff)
  obtain ⟨t1, t2, t3⟩ := rq_tr J hv2 x1
  -- the parts of that step that are ours
  have x1' : rq s0 (v2 ho fa) h h1 := rq_w x1 (by omega) (fun b j _ w => Or.inr (Or.inr (Or.inr (Or.inr (Or.inl (by
    rcases w with w | w
    · exact ⟨s0 + 1, hh, by omega, e1, w⟩
    · exact ⟨s0 + 2, ff, by omega, e2, w⟩))))))
  have oth : ∀ o D, lv h (s0 + 3) o → o ≠ hh → o ≠ ff → RK h o D → RK h1 o D := fun o D l q1 q2 k => rq_K J x1 l (fun y hy j w => by
    rcases w with w | w
    · exact kc_no J (lv_sp l) (lv_sp lhh) q1 y hy w
    · exact kc_no J (lv_sp l) (lv_sp lff) q2 y hy w) k
  have kO1 := oth on CO lon n1 n2 kO
  have kD1 := oth dn CD (lv_w ldn (by omega)) d2 d3 kD
  have F := (spl_ok (sN := sN) (en := en) (A := A) (.branch n cs r)).1 false CO none (wC_f w) o1
  -- done.join(and ? f : h)
  have sdn1 := lv_sp (rq_lv x1' ldn)
  have jn : ∃ h2, rs (fun b _ => kc dn b) h1 h2 ∧ RJ h2 T sN en ∧ RK h2 dn (o_join CD (if an = true then (spl en (.branch n cs r) false false CO none).2.1 else (spl en (.branch n cs r) false false CO none).1)) ∧ (∀ j, mh_i h2 115 j = mh_i h1 115 j) ∧ ∀ Q, mcall d' 293 [.ref dn, .ref (if an = true then ff else hh)] h1 Q = Q none h2 := by
    obtain ⟨d2', rfl⟩ : ∃ d2', d' = d2' + 1 := ⟨d' - 1, by omega⟩
    cases an with
    | true =>
      rw [if_pos rfl, if_pos rfl]
      exact t_293 J1 sdn1 d3 kD1 kf1 (fun A' B' q1 q2 => by
        have a := o2 A' q1
        have b := F.2 B' q2
        exact ⟨a.2.1.trans b.2.1.symm, a.2.2.1.trans b.2.2.1.symm⟩)
    | false =>
      rw [if_neg (by decide), if_neg (by decide)]
      exact t_293 J1 sdn1 d2 kD1 kh1 (fun A' B' q1 q2 => by
        have a := o2 A' q1
        have b := F.1 B' q2
        exact ⟨a.2.1.trans b.2.1.symm, a.2.2.1.trans b.2.2.1.symm⟩)
  obtain ⟨h2, x2, J2, kD2, i2, ex2⟩ := jn
  have e11 := x1'.k s0 on e0
  have e12 := x1'.k (s0 + 1) hh e1
  have e13 := x1'.k (s0 + 2) ff e2
  have keep2 : ∀ o D, sp h1 o → o ≠ dn → RK h1 o D → RK h2 o D := fun o D s q k => rs_K J1 x2 s (fun y hy _ w => kc_no J1 s sdn1 q y hy w) k
  have kh2 := keep2 hh _ ⟨_, e12⟩ (fun q => d2 q.symm) kh1
  have kf2 := keep2 ff _ ⟨_, e13⟩ (fun q => d3 q.symm) kf1
  have x2' : rq s0 (v2 ho fa) h1 h2 := rq_w (rq_rs (s0 := s0) J1 (vK_1 sdn1) x2) (Nat.le_refl _) (fun b j _ w => Or.inl (by
    unfold v2
    rw [hdn] at w
    split at w
    · exact Or.inr w
    · exact Or.inl w))
  have e21 := x2'.k s0 on e11
  have e22 := x2'.k (s0 + 1) hh e12
  have e23 := x2'.k (s0 + 2) ff e13
  -- on.become(and ? h : f)
  have bn : ∃ h3, rs (fun b _ => kc on b) h2 h3 ∧ RJ h3 T sN en ∧ RK h3 on (if an = true then (spl en (.branch n cs r) false false CO none).1 else (spl en (.branch n cs r) false false CO none).2.1) ∧ (∀ j, mh_i h3 115 j = mh_i h2 115 j) ∧ ∀ Q, mcall d' 281 [.ref on, .ref (if an = true then hh else ff)] h2 Q = Q none h3 := by
    cases an with
    | true =>
      rw [if_pos rfl, if_pos rfl]
      exact t_281 J2 ⟨_, e21⟩ n1 kh2
    | false =>
      rw [if_neg (by decide), if_neg (by decide)]
      exact t_281 J2 ⟨_, e21⟩ n2 kf2
  obtain ⟨h3, x3, J3, kO3, i3, ex3⟩ := bn
  have x3' : rq s0 (v2 ho fa) h2 h3 := rq_w (rq_rs (s0 := s0) J2 (vK_1 ⟨_, e21⟩) x3) (Nat.le_refl _) (fun b j _ w => Or.inr (Or.inr (Or.inr (Or.inr (Or.inl ⟨s0, on, Nat.le_refl _, e21, w⟩)))))
  have keep3 : ∀ o D, sp h2 o → o ≠ on → RK h2 o D → RK h3 o D := fun o D s q k => rs_K J2 x3 s (fun y hy _ w => kc_no J2 s ⟨_, e21⟩ q y hy w) k
  have kD3 := keep3 dn _ (lv_sp (rq_lv x2' (rq_lv x1' ldn))) d1 kD2
  have x03 : rq s0 (v2 ho fa) h h3 := rq_t x1' (rq_t x2' x3')
  obtain ⟨u1, u2, u3⟩ := rs_tr J1 (vK_1 sdn1) x2
  obtain ⟨v1, v2', v3⟩ := rs_tr J2 (vK_1 ⟨_, e21⟩) x3
  obtain ⟨q1, q2, q3, q4, q5⟩ := hnd
  have oj : okS A (if an = true then (spl en (.branch n cs r) false false CO none).1 else (spl en (.branch n cs r) false false CO none).2.1) := by split; exact F.1; exact F.2
  have oj2 : okS A (o_join CD (if an = true then (spl en (.branch n cs r) false false CO none).2.1 else (spl en (.branch n cs r) false false CO none).1)) := join_ok o2 (by split; exact F.2; exact F.1)
  obtain ⟨h4, x4, J4, i4, kO4, kD4, kp4, al4, F4, ex4⟩ := p1 (d' + 1) k0 z (p + 1 + ts cs) s0 st ho fa on dn hh ff an h3 A _ _ J3 (by rw [i3, i2]; exact i1) (by omega) (x3'.k _ _ e21) (x3'.k _ _ e22) (x3'.k _ _ e23) (rq_lv x03 l1) (rq_lv x03 l2) ne hdn kO3 kD3 oj oj2 (by rw [v1, v2', v3, u1, u2, u3, t1, t2, t3]; exact q5) (by omega) hz hk0 (by rw [v3, u3, t3]; exact hzz) (wC_r w) (by omega)
  have LS := spl_L (en := en) (n := n) (cs := cs) (r := r) (an := an) (on := CO) (done := CD)
  have FF : spl en (.branch n cs r) false an CO none = spl en (.branch n cs r) false false CO none := rfl
  rw [FF] at LS
  rw [LS]
  have fld : ∀ j, f12 j → mh_i h on j = mh_i h dn j → mh_i h4 on j = mh_i h on j ∧ mh_i h4 dn j = mh_i h on j := fun j hj ee => by
    obtain ⟨a1, a2⟩ := F1 j hj
    have b1 : mh_i h1 dn j = mh_i h dn j := rq_ki J x1 (lv_w ldn (by omega)) (fun j w => by
      rcases w with w | w
      · exact kc_no J (lv_sp ldn) (lv_sp lhh) d2 0 (by omega) w
      · exact kc_no J (lv_sp ldn) (lv_sp lff) d3 0 (by omega) w) j
    have jf : mh_i h2 dn j = mh_i h1 dn j := by
      obtain ⟨d2', rfl⟩ : ∃ d2', d' = d2' + 1 := ⟨d' - 1, by omega⟩
      cases an with
      | true =>
        rw [if_pos rfl] at kD2 ex2
        exact fi_293 d3 kD1 kf1 (fun A' B' q1 q2 => by
          have a := o2 A' q1
          have b := F.2 B' q2
          exact ⟨a.2.1.trans b.2.1.symm, a.2.2.1.trans b.2.2.1.symm⟩) kD2 ex2 hj (by rw [b1, a2, ee])
      | false =>
        rw [if_neg (by decide)] at kD2 ex2
        exact fi_293 d2 kD1 kh1 (fun A' B' q1 q2 => by
          have a := o2 A' q1
          have b := F.1 B' q2
          exact ⟨a.2.1.trans b.2.1.symm, a.2.2.1.trans b.2.2.1.symm⟩) kD2 ex2 hj (by rw [b1, a1, ee])
    have hh2 : mh_i h2 hh j = mh_i h1 hh j := rs_ki J1 x2 ⟨_, e12⟩ (fun j w => kc_no J1 ⟨_, e12⟩ sdn1 (fun q => d2 q.symm) 0 (by omega) w) j
    have ff2 : mh_i h2 ff j = mh_i h1 ff j := rs_ki J1 x2 ⟨_, e13⟩ (fun j w => kc_no J1 ⟨_, e13⟩ sdn1 (fun q => d3 q.symm) 0 (by omega) w) j
    have bf : mh_i h3 on j = mh_i h on j := by
      have kon : ko h2 on := (J2.s _ _ e21).2
      cases an with
      | true =>
        rw [if_pos rfl] at ex3
        rw [fi_281 kon n1 kh2 ex3 hj, hh2, a1]
      | false =>
        rw [if_neg (by decide)] at ex3
        rw [fi_281 kon n2 kf2 ex3 hj, ff2, a2]
    have dn3 : mh_i h3 dn j = mh_i h2 dn j := rs_ki J2 x3 (lv_sp (rq_lv x2' (rq_lv x1' ldn))) (fun j w => kc_no J2 (lv_sp (rq_lv x2' (rq_lv x1' ldn))) ⟨_, e21⟩ d1 0 (by omega) w) j
    obtain ⟨c1, c2⟩ := F4 j hj (by rw [bf, dn3, jf, b1]; exact ee)
    exact ⟨c1.trans bf, c2.trans bf⟩
  refine ⟨h4, rq_t x03 x4, J4, i4, kO4, kD4, fun o D l q k => ?_, ?_, fld, fun Q => ?_⟩
  · have a1 := oth o D (lv_w l (by omega)) (lv_ne J l (by omega) e1) (lv_ne J l (by omega) e2) k
    have a2 := keep2 o D (lv_sp (rq_lv x1' l)) q a1
    have a3 := keep3 o D (lv_sp (rq_lv x2' (rq_lv x1' l))) (lv_ne J2 (rq_lv x2' (rq_lv x1' l)) (Nat.le_refl _) e21) a2
    exact kp4 o D (rq_lv x03 l) q a3
  · rw [al4, i3, i2, al1, i32_ora]
    rfl
  · rw [← ex4 Q]
    have g := J.a.g
    have g3 := J3.a.g
    have ca := u_228 (d := d') J.a hk0 hzz
    have cb := u_228 (d := d') J3.a (k := p) (z := 1 + ts cs) (by omega) (by rw [v3, u3, t3]; exact q3)
    have gdn : mg h1 dn 13 := (RK_ko kD1).1
    have gon : mg h2 on 13 := by
      obtain ⟨a, b⟩ := J2.s _ _ e21
      exact b.1
    have hle : (k0 + z ≤ p) = False := eq_false (by omega)
    have as : p + (1 + ts cs) = p + 1 + ts cs := by omega
    have e10 : ((1 : Int32) = 0) = False := by decide
    have e00 : ((0 : Int32) = 0) = True := by decide
    have k1' : kb true = 1 := rfl
    have k0' : kb false = 0 := rfl
    clear fld F1 F4 J J1 J2 J3 J4 kO kD kO1 kD1 kh1 kf1 kD2 kh2 kf2 kO3 kD3 kO4 kD4 kp4 oth keep2 keep3 F oj oj2 LS FF p0 p1 x1 x1' x2 x2' x3 x3' x03 x4
    cases an with
    | true =>
      rw [if_pos rfl] at ex2 ex3
      rw [k1', s_251_49]
      simp (disch := omega) only [s_251_0, s_251_1, s_251_4, s_251_6, s_251_7, s_251_8, s_251_11, s_251_11n, s_251_13, s_251_14, s_251_17, s_251_19, s_251_22, s_251_24, s_251_24n, s_251_26, s_251_28, s_251_29, s_251_32, s_251_33, s_251_36, s_251_36n, s_251_38, s_251_39, s_251_42, s_251_42n, s_251_44, s_251_45, s_251_46, s_251_47, s_251_51, s_251_52, s_251_53, s_251_56, s_251_59, s_251_60, s_251_62, s_251_64, s_251_66, s_251_68, s_251_71, s_251_73, s_251_74, s_251_77, s_251_79, s_251_82, s_251_84, s_251_87, s_251_89, s_251_90, s_251_93, s_251_95, s_251_98, s_251_100, s_251_103, s_251_104, s_251_106, s_251_109, s_251_111, s_251_114, s_251_115, s_251_118, s_251_120, s_251_123, s_251_125, s_251_127, s_251_130, s_251_131, s_251_133, s_251_136, e_251, mv_i_1, mv_l_1, mv_a_1, mv_a_2, mv_a_3, mk2_n, mk2_i, mk2_l, mk2_a, mk2_u, mk2_x, mB_T, mB_F, mS_cons, mS_nil, mSB_T, mSB_F, mca_nil, mca_i, mca_l, mca_r, mca_u, mca_x, mcat_i, mcat_l, mcat_r, mcat_u, mcat_x, mK_some, mK_none, va_rf_s, va_rf_n, lgc_eq, lgc_lt, lgc_gt, lgc_ge, lgc_le, mrd_104, mrd_105, mrd_106, mrd_107, true_and, and_true, and_self, false_and, and_false, true_or, or_true, false_or, or_false, not_true_eq_false, not_false_eq_true, mgb, mga, mgr, mN, reduceCtorEq, ↓reduceIte, eq_self, ge_iff_le, gt_iff_lt, Nat.reduceAdd, Nat.reduceMul, Nat.reduceSub, Nat.reduceLT, Nat.reduceGT, Nat.reduceEqDiff, Nat.reduceLeDiff, Nat.left_eq_add, Nat.add_eq_left, Nat.reduceMod, Nat.reduceDiv, Nat.succ_ne_self, g, g3, gdn, gon, ca, cb, ex1, ex2, ex3, nn_le, hle, e10, as]
    | false =>
      rw [if_neg (by decide)] at ex2 ex3
      rw [k0', s_251_49]
      simp (disch := omega) only [s_251_0, s_251_1, s_251_4, s_251_6, s_251_7, s_251_8, s_251_11, s_251_11n, s_251_13, s_251_14, s_251_17, s_251_19, s_251_22, s_251_24, s_251_24n, s_251_26, s_251_28, s_251_29, s_251_32, s_251_33, s_251_36, s_251_36n, s_251_38, s_251_39, s_251_42, s_251_42n, s_251_44, s_251_45, s_251_46, s_251_47, s_251_51, s_251_52, s_251_53, s_251_56, s_251_59, s_251_60, s_251_62, s_251_64, s_251_66, s_251_68, s_251_71, s_251_73, s_251_74, s_251_77, s_251_79, s_251_82, s_251_84, s_251_87, s_251_89, s_251_90, s_251_93, s_251_95, s_251_98, s_251_100, s_251_103, s_251_104, s_251_106, s_251_109, s_251_111, s_251_114, s_251_115, s_251_118, s_251_120, s_251_123, s_251_125, s_251_127, s_251_130, s_251_131, s_251_133, s_251_136, e_251, mv_i_1, mv_l_1, mv_a_1, mv_a_2, mv_a_3, mk2_n, mk2_i, mk2_l, mk2_a, mk2_u, mk2_x, mB_T, mB_F, mS_cons, mS_nil, mSB_T, mSB_F, mca_nil, mca_i, mca_l, mca_r, mca_u, mca_x, mcat_i, mcat_l, mcat_r, mcat_u, mcat_x, mK_some, mK_none, va_rf_s, va_rf_n, lgc_eq, lgc_lt, lgc_gt, lgc_ge, lgc_le, mrd_104, mrd_105, mrd_106, mrd_107, true_and, and_true, and_self, false_and, and_false, true_or, or_true, false_or, or_false, not_true_eq_false, not_false_eq_true, mgb, mga, mgr, mN, reduceCtorEq, ↓reduceIte, eq_self, ge_iff_le, gt_iff_lt, Nat.reduceAdd, Nat.reduceMul, Nat.reduceSub, Nat.reduceLT, Nat.reduceGT, Nat.reduceEqDiff, Nat.reduceLeDiff, Nat.left_eq_add, Nat.add_eq_left, Nat.reduceMod, Nat.reduceDiv, Nat.succ_ne_self, g, g3, gdn, gon, ca, cb, ex1, ex2, ex3, nn_le, hle, e00, as]
end JNs
