set_option maxRecDepth 100000
/-! CHECKS: goes -/
section CGs
variable {d : Nat} {h h1 h2 : mh_H} {s0 s1 o o' p q e0 br T x to : Nat} {E : nv} {D : fd} {w0 : wd} {s X : Option ab} {G : pgm} {cl : Nat → Option ab} {r : Nat → Nat}
theorem w_260c (R : RA h s0 E D w0) (l : lv h s0 o) (kx : RK h o X) (sh : shg (G.n to) (G.a to) r X) (C : CKS h G e0 cl br) (he : e0 < 250) (hto : to ≤ e0) (hp : p < 250) (hs : s0 + 1 ≤ 2048) (shc : ∀ A, cl to = some A → A.n = G.n to ∧ A.a = G.a to) (h12 : G.n to ≤ 12 ∧ G.a to ≤ 6) : ∃ h', (∀ o' T, rq s0 (sV o' T) h h') ∧ RA h' s0 E D w0 ∧ (∀ z Y, lv h s0 z → RK h z Y → RK h' z Y) ∧ (∀ z j, lv h s0 z → mh_i h' z j = mh_i h z j) ∧ (mh_i h' 93 = mh_i h 93 ∧ mh_i h' 95 = mh_i h 95 ∧ mh_i h' 97 = mh_i h 97) ∧ CKS h' G e0 cl (gsB G cl X to p br) ∧ ∀ Q, mcall (d + 3) 260 [.ref 115, .int (Int32.ofNat p), .int (Int32.ofNat to), .ref o] h Q = Q none h' := by
  have J0 := R.j
  have so := lv_sp l
  have lo := sp_lo J0 so
  have g := J0.a.g
  have go := (RK_ko kx).1
  have a34 := C.z
  have e00 : ((0 : Int32) = 0) = True := by decide
  have e10 : ((1 : Int32) = 0) = False := by decide
  cases X with
  | none =>
    have eb : gsB G cl none to p br = br := by
      unfold gsB
      rw [if_neg (fun z => z.1 rfl)]
    rw [eb]
    refine ⟨h, fun _ _ => rq_id, R, fun _ _ _ k => k, fun _ _ _ => rfl, ⟨rfl, rfl, rfl⟩, C, fun Q => ?_⟩
    have z1 : mh_i h o 0 = 1 := KN.z kx
    clear R C kx J0
    simp (disch := omega) only [s_260_0, s_260_1, s_260_4, s_260_7, s_260_8, s_260_11, s_260_14, s_260_15, s_260_16, s_260_19, s_260_21, s_260_22, s_260_23, s_260_26, s_260_26n, s_260_26x, s_260_28, s_260_30, s_260_31, s_260_34, s_260_35, s_260_35x, s_260_36, s_260_37, s_260_40, s_260_41, s_260_41x, s_260_42, s_260_45, s_260_47, s_260_48, s_260_51, s_260_52, s_260_53, s_260_56, s_260_59, s_260_60, s_260_61, s_260_64, s_260_65, s_260_68, s_260_71, s_260_72, s_260_74, s_260_77, e_260, mv_i_1, mv_l_1, mv_a_1, mv_a_2, mv_a_3, mk2_n, mk2_i, mk2_l, mk2_a, mk2_u, mk2_x, mB_T, mB_F, mS_cons, mS_nil, mSB_T, mSB_F, mca_nil, mca_i, mca_l, mca_r, mca_u, mca_x, mcat_i, mcat_l, mcat_r, mcat_u, mcat_x, mK_some, mK_none, va_rf_s, va_rf_n, lgc_eq, lgc_lt, lgc_gt, lgc_ge, lgc_le, mrd_104, mrd_105, mrd_106, mrd_107, true_and, and_true, and_self, false_and, and_false, true_or, or_true, false_or, or_false, not_true_eq_false, not_false_eq_true, mgb, mga, mgr, mN, reduceCtorEq, ↓reduceIte, eq_self, ge_iff_le, gt_iff_lt, Nat.reduceAdd, Nat.reduceMul, Nat.reduceSub, Nat.reduceLT, Nat.reduceGT, Nat.reduceEqDiff, Nat.reduceLeDiff, Nat.left_eq_add, Nat.add_eq_left, Nat.reduceMod, Nat.reduceDiv, Nat.succ_ne_self, g, go, a34, e10, z1]
  | some A =>
    have F := J0.a.F
    obtain ⟨n', a', r2, q1, q2, q3, q4⟩ := sh
    obtain ⟨TA, m1, m2, m3⟩ := q4 A rfl
    obtain ⟨h1, t, x1, J1, f1, i11, -, k1, run1⟩ := t_227 (d := d) J0 R.s (by omega) l kx
    have R1 := RA_q R vF x1 J1 i11
    have st : sp h1 t := ⟨_, f1⟩
    obtain ⟨h2, x2, k2, run2⟩ := k_290 (d := d + 2) (n := G.n to) (a := G.a to) k1 (by omega) (by omega)
    have R2 := ra_k R1 st x2 (RK_ko k2)
    have lt1 := sp_lo J1 st
    have y1 : ∀ o' T, rq s0 (sV o' T) h h1 := fun o' T => sV_F x1 (Nat.le_refl _)
    have y2 : ∀ o' T, rq s0 (sV o' T) h1 h2 := fun o' T => sV_v (rq_rs (s0 := s0) J1 (vK_1 st) (rs_k x2)) (Nat.le_refl _) (fun b j w => Or.inr ⟨s0, t, Nat.le_refl _, f1, w⟩)
    have y12 : ∀ o' T, rq s0 (sV o' T) h h2 := fun o' T => rq_t (y1 o' T) (y2 o' T)
    have e35 : mh_i h2 115 35 = mh_i h 115 35 := (rs_ij J1 st x2 35).trans ((rq_lo J0 vF x1 g (by omega) (by omega) (by omega)).1)
    have C2 : CKS h2 G e0 cl br := ck_t C R lo he (y12 o 0) (fun q w => cn_k R1 st x2 (cn_q R vF x1 w)) e35
    have keepK : ∀ z Y, lv h s0 z → RK h z Y → RK h2 z Y := fun z Y lz kz => by
      have l1 := rq_lv x1 lz
      exact ra_o R1 st (lv_sp l1) (lv_ne J1 l1 (Nat.le_refl _) f1) x2 (rq_K J0 x1 lz (fun _ _ _ w => w) kz)
    have keepI : ∀ z j, lv h s0 z → mh_i h2 z j = mh_i h z j := fun z j lz => by
      have l1 := rq_lv x1 lz
      exact (ra_oi R1 st (lv_sp l1) (lv_ne J1 l1 (Nat.le_refl _) f1) x2 j).trans (rq_ki J0 x1 lz (fun _ w => w) j)
    have rows2 : mh_i h2 93 = mh_i h 93 ∧ mh_i h2 95 = mh_i h 95 ∧ mh_i h2 97 = mh_i h 97 := by
      obtain ⟨u1, u2, u3⟩ := rq_tr J0 vF x1
      obtain ⟨v1, v2, v3⟩ := rs_tr J1 (vK_1 st) (rs_k x2)
      exact ⟨v1.trans u1, v2.trans u2, v3.trans u3⟩
    obtain ⟨v, v1, v2, lr⟩ := le_294 (d := d + 1) k2 (C2.c to hto) (fun A' B' e1 e2 => by
      cases e1
      obtain ⟨c1, c2⟩ := shc B' e2
      exact ⟨c1.symm, c2.symm⟩)
    have z1 : mh_i h o 0 = 0 := KM.z kx
    have as := R.s
    have g1 := J1.a.g
    have g2 := R2.j.a.g
    have gt1 := (RK_ko k1).1
    have gt2 := (RK_ko k2).1
    have cn := C.n to (Or.inl hto)
    have cn1 := (cn_q R vF x1 cn).1 (by omega)
    have b1 := cn1.1
    have b2 := cn1.2
    have F1 := J1.a.F
    have t36 := F1.f 115 36 130 (by decide +kernel)
    have t37 := F1.f 115 37 131 (by decide +kernel)
    have g130 := F1.g 130 100 250 (by decide +kernel)
    have l130 := F1.l 130 100 250 (by decide +kernel)
    have g131 := F1.g 131 100 250 (by decide +kernel)
    have l131 := F1.l 131 100 250 (by decide +kernel)
    have F2 := R2.j.a.F
    have t5 := F2.f 115 5 117 (by decide +kernel)
    have g117 := (F2.g 117 106 250 (by decide +kernel)).1
    have g117' := (F2.g 117 106 250 (by decide +kernel)).2
    have l117 := F2.l 117 106 250 (by decide +kernel)
    have p4 := (F2.p to (by omega)).2.2.2
    have b35 := C2.b
    have brl := C.l
    by_cases le : o_le (o_keep (G.n to) (G.a to) (some A)) (cl to)
    · have eb : gsB G cl (some A) to p br = br := by
        unfold gsB
        rw [if_neg (fun z => z.2 le)]
      rw [eb]
      have ev := v2.mpr le
      subst ev
      have i3 : ∀ b j, ¬ (b = 115 ∧ j = 11) → mh_i (mh_si h2 115 11 (Int32.ofNat s0)) b j = mh_i h2 b j := fun b j hb => by rw [hi_si, if_neg hb]
      have z3 : fz (fun b _ => b = 115) h2 (mh_si h2 115 11 (Int32.ofNat s0)) := fz_si rfl
      have C3 : CKS (mh_si h2 115 11 (Int32.ofNat s0)) G e0 cl br := ck_t (T' := 0) C2 R2 lo he (sV_115 (s0 := s0) (by omega)) (fun q w => cn_i w (fun b j hb => i3 b j (by omega))) (i3 _ _ (by omega))
      refine ⟨mh_si h2 115 11 (Int32.ofNat s0), fun o' T => rq_t (y12 o' T) (sV_115 (by omega)), RA_11 R2, fun z Y lz kz => RK_fz z3 (fun y hy j w => by have := sp_lo J0 (lv_sp lz); omega) (keepK z Y lz kz), fun z j lz => (i3 _ _ (by have := sp_lo J0 (lv_sp lz); omega)).trans (keepI z j lz), ⟨(funext fun j => i3 93 j (by omega)).trans rows2.1, (funext fun j => i3 95 j (by omega)).trans rows2.2.1, (funext fun j => i3 97 j (by omega)).trans rows2.2.2⟩, C3, fun Q => ?_⟩
      clear R R1 R2 C C2 C3 J0 J1 F F1 F2 kx k1 k2 x1 x2 y1 y2 y12 keepK keepI rows2 i3 z3 cn cn1 q4 TA
      simp (disch := omega) only [s_260_0, s_260_1, s_260_4, s_260_7, s_260_8, s_260_11, s_260_14, s_260_15, s_260_16, s_260_19, s_260_21, s_260_22, s_260_23, s_260_26, s_260_26n, s_260_26x, s_260_28, s_260_30, s_260_31, s_260_34, s_260_35, s_260_35x, s_260_36, s_260_37, s_260_40, s_260_41, s_260_41x, s_260_42, s_260_45, s_260_47, s_260_48, s_260_51, s_260_52, s_260_53, s_260_56, s_260_59, s_260_60, s_260_61, s_260_64, s_260_65, s_260_68, s_260_71, s_260_72, s_260_74, s_260_77, e_260, mv_i_1, mv_l_1, mv_a_1, mv_a_2, mv_a_3, mk2_n, mk2_i, mk2_l, mk2_a, mk2_u, mk2_x, mB_T, mB_F, mS_cons, mS_nil, mSB_T, mSB_F, mca_nil, mca_i, mca_l, mca_r, mca_u, mca_x, mcat_i, mcat_l, mcat_r, mcat_u, mcat_x, mK_some, mK_none, va_rf_s, va_rf_n, lgc_eq, lgc_lt, lgc_gt, lgc_ge, lgc_le, mrd_104, mrd_105, mrd_106, mrd_107, true_and, and_true, and_self, false_and, and_false, true_or, or_true, false_or, or_false, not_true_eq_false, not_false_eq_true, mgb, mga, mgr, mN, reduceCtorEq, ↓reduceIte, eq_self, ge_iff_le, gt_iff_lt, Nat.reduceAdd, Nat.reduceMul, Nat.reduceSub, Nat.reduceLT, Nat.reduceGT, Nat.reduceEqDiff, Nat.reduceLeDiff, Nat.left_eq_add, Nat.add_eq_left, Nat.reduceMod, Nat.reduceDiv, Nat.succ_ne_self, g, g1, g2, go, gt1, gt2, a34, e10, z1, e00, as, run1, t36, t37, g130, l130, g131, l131, b1, b2, run2, t5, g117, g117', l117, p4, lr, nn_mxT, nn_clamp]
    · have eb : gsB G cl (some A) to p br = min br p := by
        unfold gsB
        rw [if_pos ⟨(fun z => by cases z), le⟩]
      rw [eb]
      have ev : v = 0 := v1.elim (fun z => z) (fun z => absurd (v2.mp z) le)
      subst ev
      have mn : (if Int32.ofNat p < Int32.ofNat br then Int32.ofNat p else Int32.ofNat br) = Int32.ofNat (min br p) := by
        by_cases c : p < br
        · rw [if_pos (by rw [nn_lt (by omega) (by omega)]; exact c), Nat.min_eq_right (by omega)]
        · rw [if_neg (by rw [nn_lt (by omega) (by omega)]; exact c), Nat.min_eq_left (by omega)]
      generalize eh3 : mh_si h2 115 35 (Int32.ofNat (min br p)) = h3
      have i3 : ∀ b j, ¬ (b = 115 ∧ j = 35) → mh_i h3 b j = mh_i h2 b j := fun b j hb => by rw [← eh3, hi_si, if_neg hb]
      have i35 : mh_i h3 115 35 = Int32.ofNat (min br p) := by rw [← eh3, hi_si, if_pos ⟨rfl, rfl⟩]
      have z3 : fz (fun b _ => b = 115) h2 h3 := by
        rw [← eh3]
        exact fz_si rfl
      have R3 : RA h3 (s0 + 1) E D w0 := by
        rw [← eh3]
        have o1 : ∀ j, ¬ j = 35 → mh_i (mh_si h2 115 35 (Int32.ofNat (min br p))) 115 j = mh_i h2 115 j := fun j hj => by rw [hi_si, if_neg (fun z => hj z.2)]
        have o2 : ∀ b j, ¬ b = 115 → mh_i (mh_si h2 115 35 (Int32.ofNat (min br p))) b j = mh_i h2 b j := fun b j hb => by rw [hi_si, if_neg (fun z => hb z.1)]
        exact RA_put R2 rfl rfl rfl (fun _ _ _ => rfl) rfl (fun b j n1 _ _ => o2 b j n1) (EV_same R2.V (o1 18 (by omega)) (fun j _ => o2 _ _ (by omega)) (fun j _ => o2 _ _ (by omega))) ((o1 11 (by omega)).trans R2.s) ((o1 20 (by omega)).trans R2.n) ((o1 21 (by omega)).trans R2.a) ((o1 14 (by omega)).trans R2.f) ((o1 22 (by omega)).trans R2.t) (o1 34 (by omega)) (o1 8 (by omega)) (o1 9 (by omega))
      have y3 : ∀ o' T, rq s0 (sV o' T) h2 h3 := fun o' T => by
        rw [← eh3]
        exact sV_115 (by omega)
      have C3 : CKS h3 G e0 cl (min br p) := CKS.of ⟨(i3 _ _ (by omega)).trans C2.z, i35, by omega, fun q hq => RK_fz z3 (fun y hy j w => by omega) (C2.c q hq), fun q hq => (i3 _ _ (by omega)).trans (C2.f q hq), fun q hq => cn_i (C2.n q hq) (fun b j hb => i3 b j (by omega))⟩
      have i4 : ∀ b j, ¬ (b = 115 ∧ j = 11) → mh_i (mh_si h3 115 11 (Int32.ofNat s0)) b j = mh_i h3 b j := fun b j hb => by rw [hi_si, if_neg hb]
      have z4 : fz (fun b _ => b = 115) h3 (mh_si h3 115 11 (Int32.ofNat s0)) := fz_si rfl
      have C4 : CKS (mh_si h3 115 11 (Int32.ofNat s0)) G e0 cl (min br p) := ck_t (T' := 0) C3 R3 lo he (sV_115 (s0 := s0) (by omega)) (fun q w => cn_i w (fun b j hb => i4 b j (by omega))) (i4 _ _ (by omega))
      refine ⟨mh_si h3 115 11 (Int32.ofNat s0), fun o' T => rq_t (y12 o' T) (rq_t (y3 o' T) (sV_115 (by omega))), RA_11 R3, fun z Y lz kz => RK_fz z4 (fun y hy j w => by have := sp_lo J0 (lv_sp lz); omega) (RK_fz z3 (fun y hy j w => by have := sp_lo J0 (lv_sp lz); omega) (keepK z Y lz kz)), fun z j lz => (i4 _ _ (by have := sp_lo J0 (lv_sp lz); omega)).trans ((i3 _ _ (by have := sp_lo J0 (lv_sp lz); omega)).trans (keepI z j lz)), ⟨(funext fun j => (i4 93 j (by omega)).trans (i3 93 j (by omega))).trans rows2.1, (funext fun j => (i4 95 j (by omega)).trans (i3 95 j (by omega))).trans rows2.2.1, (funext fun j => (i4 97 j (by omega)).trans (i3 97 j (by omega))).trans rows2.2.2⟩, C4, fun Q => ?_⟩
      have g3 := R3.j.a.g
      clear R R1 R2 R3 C C2 C3 C4 J0 J1 F F1 F2 kx k1 k2 x1 x2 y1 y2 y12 y3 keepK keepI rows2 i3 i4 z3 z4 cn cn1 q4 TA
      simp (disch := omega) only [s_260_0, s_260_1, s_260_4, s_260_7, s_260_8, s_260_11, s_260_14, s_260_15, s_260_16, s_260_19, s_260_21, s_260_22, s_260_23, s_260_26, s_260_26n, s_260_26x, s_260_28, s_260_30, s_260_31, s_260_34, s_260_35, s_260_35x, s_260_36, s_260_37, s_260_40, s_260_41, s_260_41x, s_260_42, s_260_45, s_260_47, s_260_48, s_260_51, s_260_52, s_260_53, s_260_56, s_260_59, s_260_60, s_260_61, s_260_64, s_260_65, s_260_68, s_260_71, s_260_72, s_260_74, s_260_77, e_260, mv_i_1, mv_l_1, mv_a_1, mv_a_2, mv_a_3, mk2_n, mk2_i, mk2_l, mk2_a, mk2_u, mk2_x, mB_T, mB_F, mS_cons, mS_nil, mSB_T, mSB_F, mca_nil, mca_i, mca_l, mca_r, mca_u, mca_x, mcat_i, mcat_l, mcat_r, mcat_u, mcat_x, mK_some, mK_none, va_rf_s, va_rf_n, lgc_eq, lgc_lt, lgc_gt, lgc_ge, lgc_le, mrd_104, mrd_105, mrd_106, mrd_107, true_and, and_true, and_self, false_and, and_false, true_or, or_true, false_or, or_false, not_true_eq_false, not_false_eq_true, mgb, mga, mgr, mN, reduceCtorEq, ↓reduceIte, eq_self, ge_iff_le, gt_iff_lt, Nat.reduceAdd, Nat.reduceMul, Nat.reduceSub, Nat.reduceLT, Nat.reduceGT, Nat.reduceEqDiff, Nat.reduceLeDiff, Nat.left_eq_add, Nat.add_eq_left, Nat.reduceMod, Nat.reduceDiv, Nat.succ_ne_self, g, g1, g2, g3, go, gt1, gt2, a34, e10, z1, e00, as, run1, t36, t37, g130, l130, g131, l131, b1, b2, run2, t5, g117, g117', l117, p4, lr, b35, mn, eh3, nn_mxT, nn_clamp]
end CGs
