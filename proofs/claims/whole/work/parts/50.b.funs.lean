set_option maxRecDepth 100000
/-! THE REFERENCE'S PARSER: a function -/
section HHs
variable {D N : Nat} {h : mh_H} {m : Nat} {K : Nat → Int32} {P : Nat → Nat} {V : Nat → Int} {s : pst}
/-- behind a fault: the rest of a function, from the bracket on -/
theorem bt_1 (R : RTK h m K P V) {t : pst} {a i j : Nat} {k p v Fx L Nx : Int32} (hm' : pSm a s t) (b : t.bd = true) (ea : t.at = j) (hj : j < m) (ef : t.fl = Int32.ofNat (P j)) (ho2 : a < t.dr) (hdr : t.dr + 1 ≤ a + 2 * (j - i) + 4) (h52 : a + 2 * (j - i) + 8 ≤ 52000) (w : nf t a k p v Fx L Nx) (hw : Fx = -1 ∨ (¬ Fx = -1 ∧ ∃ l, L = Int32.ofNat l ∧ a ≤ l ∧ l < 52000)) (hlo : ∀ l, L = Int32.ofNat l → l < 1000000 → l ≠ a) : ∃ s' v', SR P (j, none) i a s s' v' ∧ ∀ Q, mw (D + 4) 328 Q 38 [some (.ref 81), some (.int (Int32.ofNat a))] [] (pH h t) = Q (some (.int v')) (pH h s') := by
  obtain ⟨t2, x1, x2, x3, x4, x5, -, x6, x7⟩ := bt_n R hm' b (by omega) (Nat.le_refl _) ho2 (by omega) w hw hlo
  have g := R.F.g 81 14 70 (by decide +kernel)
  have k1 : kb true = 1 := rfl
  have n1 : ((1 : Int32) = 0) = False := by decide
  have q0 := c_310 (D := D + 3) (s := t) R (by omega)
  rw [lk_b b] at q0
  have q1 := c_310 (D := D + 3) (s := t2) R (by omega)
  rw [lk_b x3] at q1
  have q2 := c_312 (D := D + 2) (s := t2) R (by omega) (c := 41) (y := 41) (by decide) rfl (by decide)
  rw [tk_b x3] at q2
  have q3 := c_314n (D := D + 3) (h := h) (s := t2) (o := Int32.ofNat a)
  have y1 : (rkd 1 = 41) = False := by decide
  have y2 : (rkd 1 = 44) = False := by decide
  have x6' := x6 (D + 1)
  have x7' := x7 (D + 3)
  refine ⟨t2, Int32.ofNat a, SR_no x1 (x2.trans ea) x3 (x4.trans ef) (by omega) (by omega) (Or.inr ⟨_, rfl, by omega⟩), fun Q => ?_⟩
  clear R x1 x6 x7 hm' w hw
  simp (disch := omega) only [s_328_0, s_328_1, s_328_2, s_328_3, s_328_6, s_328_7, s_328_10, s_328_11, s_328_12, s_328_15, s_328_16, s_328_17, s_328_20, s_328_23, s_328_24, s_328_25, s_328_26, s_328_29, s_328_32, s_328_33, s_328_35, s_328_38, s_328_39, s_328_42, s_328_44, s_328_47, s_328_48, s_328_49, s_328_50, s_328_53, s_328_56, s_328_57, s_328_60, s_328_62, s_328_65, s_328_66, s_328_68, s_328_71, s_328_72, s_328_73, s_328_74, s_328_77, s_328_80, s_328_83, s_328_84, s_328_86, s_328_89, s_328_90, s_328_91, s_328_92, s_328_95, s_328_98, s_328_99, s_328_102, s_328_103, s_328_104, s_328_107, s_328_110, s_328_111, e_328, mv_i_1, mv_l_1, mv_a_1, mv_a_2, mv_a_3, mk2_n, mk2_i, mk2_l, mk2_a, mk2_u, mk2_x, mB_T, mB_F, mS_cons, mS_nil, mSB_T, mSB_F, mca_nil, mca_i, mca_l, mca_r, mca_u, mca_x, mcat_i, mcat_l, mcat_r, mcat_u, mcat_x, mK_some, mK_none, va_rf_s, va_rf_n, lgc_eq, lgc_lt, lgc_gt, lgc_ge, lgc_le, mrd_104, mrd_105, mrd_106, mrd_107, true_and, and_true, and_self, false_and, and_false, true_or, or_true, false_or, or_false, not_true_eq_false, not_false_eq_true, mgb, mga, mgr, mN, reduceCtorEq, ↓reduceIte, eq_self, ge_iff_le, gt_iff_lt, Nat.reduceAdd, Nat.reduceMul, Nat.reduceSub, Nat.reduceLT, Nat.reduceGT, Nat.reduceEqDiff, Nat.reduceLeDiff, Nat.left_eq_add, Nat.add_eq_left, Nat.reduceMod, Nat.reduceDiv, Nat.succ_ne_self, pH_g, pH_9, g, q0, y1, x6', x7', q1, y2, q2, x3, k1, n1, q3]
/-- a function -/
theorem c_328 (R : RTK h m K P V) (hN : 8 * m + 6 ≤ N) (hi : s.at < m) (eb : s.bd = false) (hD : 384 ≤ D + 3) (hr : s.dr + 2 * (m - s.at) + 8 ≤ 52000) : ∃ s' v, SR P (pgF K P V N s.at) s.at s.dr s s' v ∧ ∀ Q, mcall (D + 4) 328 [.ref 81] (pH h s) Q = Q (some (.int v)) (pH h s') := by
  have hp := (R.p _ hi).2
  have hm := R.m
  have g := R.F.g 81 14 70 (by decide +kernel)
  have r1 := R.F.f 81 5 84 (by decide +kernel)
  have g1 := R.F.g 84 100 16402 (by decide +kernel)
  have l1 := R.F.l 84 100 16402 (by decide +kernel)
  have e := (R.p _ hi).1
  have k0 : kb false = 0 := rfl
  have k1 : kb true = 1 := rfl
  have n1 : ((1 : Int32) = 0) = False := by decide
  have q1 := c_313 (D := D + 3) (s := s) R.F (by omega) (k := 1) (p := Int32.ofNat (P s.at)) (v := 0)
  obtain ⟨s1, hs1⟩ : ∃ x : pst, x = s.dft 1 (Int32.ofNat (P s.at)) 0 := ⟨_, rfl⟩
  rw [← hs1] at q1
  have at1 : s1.at = s.at := by rw [hs1]; rfl
  have bd1 : s1.bd = false := by rw [hs1]; exact eb
  have dr1 : s1.dr = s.dr + 1 := by rw [hs1]; rfl
  have m1 : pSm s.dr s s1 := by rw [hs1]; exact dft_m (Nat.le_refl _)
  have a1 : nf s1 s.dr 1 (Int32.ofNat (P s.at)) 0 (-1) (-1) (-1) := by rw [hs1]; exact dft_n (s := s)
  have q2 := c_312 (D := D + 2) (s := s1) R (by omega) (c := 4) (y := 300) (by decide) rfl (by decide)
  have nl : ∀ l, (-1 : Int32) = Int32.ofNat l → l < 1000000 → l ≠ s.dr := fun l z y => absurd z.symm (ofn_m y)
  unfold pgF
  by_cases c : K s.at = 4
  · have h1 := tkM_s R.M hi c (by decide) (by decide)
    rw [show ∀ r, tak K 4 s.at r = r from fun r => if_pos c]
    rw [tk_1 bd1 (by rw [at1]; exact c), at1] at q2
    obtain ⟨s2, hs2⟩ : ∃ x : pst, x = s1.uA (s.at + 1) := ⟨_, rfl⟩
    rw [← hs2] at q2
    have at2 : s2.at = s.at + 1 := by rw [hs2]; rfl
    have bd2 : s2.bd = false := by rw [hs2]; exact bd1
    have dr2 : s2.dr = s.dr + 1 := by rw [hs2]; exact dr1
    have m2 : pSm s.dr s s2 := by rw [hs2]; exact pSm_t m1 uA_m
    have a2 : nf s2 s.dr 1 (Int32.ofNat (P s.at)) 0 (-1) (-1) (-1) := by rw [hs2]; exact a1
    have G2 : GS P false s s.at s.dr s.dr s.dr (s.dr + 1) 0 1 (Int32.ofNat (P s.at)) 0 s2 (s.at + 1, some (.leaf ())) := GS_0 m2 at2 (by omega) bd2 (by rw [hs2, hs1]; rfl) dr2 (by omega) a2
    by_cases c2 : K (s.at + 1) = 2
    · have h2 := tkM_s R.M h1 c2 (by decide) (by decide)
      rw [show ∀ r, tak K 2 (s.at + 1) r = r from fun r => if_pos c2]
      obtain ⟨b3, s3, G3, z3⟩ := GS_sub (m := m) (Fp := fun j => tak K 2 j (j + 1, some (tL (tE 13 (P j) (j : Int))))) (M := 315) (D := D + 3) (ar := [.ref 81]) R.F G2 (by omega) h1 (fun y1 y2 y3 => ⟨_, _, nm_sr R y2 y1, c_315 (D := D + 1) R y2 (by omega)⟩) (fun j hj => nam_b R.M hj)
      have e3 : (bnd (s.at + 1, some (.leaf ())) fun r j => bnd (tak K 2 j (j + 1, some (tL (tE 13 (P j) (j : Int))))) fun t k => (k, some (tC r t))) = (s.at + 2, some (tL (tE 13 (P (s.at + 1)) ((s.at + 1 : Nat) : Int)))) := by
        rw [bnd_o, show ∀ r, tak K 2 (s.at + 1) r = r from fun r => if_pos c2, bnd_o]; rfl
      rw [e3] at G3
      have at3 : s3.at = s.at + 2 := G3.2.1
      have st3 : ∀ Q, mcall (D + 4) 328 [.ref 81] (pH h s) Q = mw (D + 4) 328 Q 32 [some (.ref 81), some (.int (Int32.ofNat s.dr))] [] (pH h s3) := by
        intro Q
        rcases z3 with ⟨z, -⟩ | ⟨-, s7, v7, u1, u2⟩
        · rw [bd2] at z; cases z
        have u2' := u2 (D + 3)
        clear R G2 G3 b3 e3 m1 m2 a1 a2 u2
        simp (disch := omega) only [s_328_0, s_328_1, s_328_2, s_328_3, s_328_6, s_328_7, s_328_10, s_328_11, s_328_12, s_328_15, s_328_16, s_328_17, s_328_20, s_328_23, s_328_24, s_328_25, s_328_26, s_328_29, s_328_33, s_328_35, s_328_38, s_328_39, s_328_42, s_328_44, s_328_47, s_328_48, s_328_49, s_328_50, s_328_53, s_328_56, s_328_57, s_328_60, s_328_62, s_328_65, s_328_66, s_328_68, s_328_71, s_328_72, s_328_73, s_328_74, s_328_77, s_328_80, s_328_83, s_328_84, s_328_86, s_328_89, s_328_90, s_328_91, s_328_92, s_328_95, s_328_98, s_328_99, s_328_102, s_328_103, s_328_104, s_328_107, s_328_110, s_328_111, e_328, mv_i_1, mv_l_1, mv_a_1, mv_a_2, mv_a_3, mk2_n, mk2_i, mk2_l, mk2_a, mk2_u, mk2_x, mB_T, mB_F, mS_cons, mS_nil, mSB_T, mSB_F, mca_nil, mca_i, mca_l, mca_r, mca_u, mca_x, mcat_i, mcat_l, mcat_r, mcat_u, mcat_x, mK_some, mK_none, va_rf_s, va_rf_n, lgc_eq, lgc_lt, lgc_gt, lgc_ge, lgc_le, mrd_104, mrd_105, mrd_106, mrd_107, true_and, and_true, and_self, false_and, and_false, true_or, or_true, false_or, or_false, not_true_eq_false, not_false_eq_true, mgb, mga, mgr, mN, reduceCtorEq, ↓reduceIte, eq_self, ge_iff_le, gt_iff_lt, Nat.reduceAdd, Nat.reduceMul, Nat.reduceSub, Nat.reduceLT, Nat.reduceGT, Nat.reduceEqDiff, Nat.reduceLeDiff, Nat.left_eq_add, Nat.add_eq_left, Nat.reduceMod, Nat.reduceDiv, Nat.succ_ne_self, pH_g, pH_r, pH_l, g, r1, g1, l1, pH_8, pH_84, nn_mxT, nn_clamp, e, q1, q2, u1, u2']
      have q4 := c_312 (D := D + 2) (s := s3) R (by omega) (c := 40) (y := 40) (by decide) rfl (by decide)
      by_cases c3 : K (s.at + 2) = 40
      · have h3 := tkM_s R.M h2 c3 (by decide) (by decide)
        rw [show ∀ r, tak K 40 (s.at + 2) r = r from fun r => if_pos c3]
        have G4 := GS_tk (K := K) (c := 40) (by show s.dr + 2 * (s.at + 2 - s.at) + 8 ≤ 52000; omega) G3
        have e4 : (bnd (s.at + 2, some (tL (tE 13 (P (s.at + 1)) ((s.at + 1 : Nat) : Int)))) fun r j => tak K 40 j (j + 1, some r)) = (s.at + 3, some (tL (tE 13 (P (s.at + 1)) ((s.at + 1 : Nat) : Int)))) := by rw [bnd_o]; exact if_pos c3
        rw [e4] at G4
        generalize s3.tk K P 40 = s4 at *
        have at4 : s4.at = s.at + 3 := G4.2.1
        have bd4 : s4.bd = false := by
          rcases G4.2.2.2.2.2 with ⟨r, -, z, -⟩ | ⟨z, -⟩
          · exact z
          · cases z
        have q5 := c_310 (D := D + 3) (s := s4) R (by omega)
        rw [lk_0 bd4, at4] at q5
        -- the parameters
        have par : ∃ x6 s6, x6.1 < m ∧ s.at + 3 ≤ x6.1 ∧ GS P false s s.at s.dr s.dr s.dr (s.dr + 1) 0 1 (Int32.ofNat (P s.at)) 0 s6 x6 ∧ (bnd (if K (s.at + 3) = 41 then (s.at + 4, some (.leaf ())) else tak K 2 (s.at + 3) (bnd (pgM K P N (s.at + 4)) fun r k => (k, some (.branch (tE 13 (P (s.at + 3)) (s.at + 3)) (.leaf ()) r)))) fun r j => (j, some (.branch (tE 13 (P (s.at + 1)) (s.at + 1)) (.leaf ()) r))) = x6 ∧ ∀ Q, mw (D + 4) 328 Q 32 [some (.ref 81), some (.int (Int32.ofNat s.dr))] [] (pH h s3) = mw (D + 4) 328 Q 89 [some (.ref 81), some (.int (Int32.ofNat s.dr))] [] (pH h s6) := by
          by_cases c4 : K (s.at + 3) = 41
          · have h4 := tkM_s R.M h3 c4 (by decide) (by decide)
            rw [if_pos c4, bnd_o]
            have y1 : (rkd (K (s.at + 3)) = 41) = True := by rw [rk_e (R.k _ h3).2 (c := 41) (y := 41) (by decide) rfl]; exact eq_true c4
            have q6 := c_312 (D := D + 2) (s := s4) R (by omega) (c := 41) (y := 41) (by decide) rfl (by decide)
            have G5 := GS_tk (K := K) (c := 41) (by show s.dr + 2 * (s.at + 3 - s.at) + 8 ≤ 52000; omega) G4
            have e5 : (bnd (s.at + 3, some (tL (tE 13 (P (s.at + 1)) ((s.at + 1 : Nat) : Int)))) fun r j => tak K 41 j (j + 1, some r)) = (s.at + 4, some (.branch (tE 13 (P (s.at + 1)) (s.at + 1)) (.leaf ()) (.leaf ()))) := by rw [bnd_o]; exact if_pos c4
            rw [e5] at G5
            refine ⟨_, _, h4, by show s.at + 3 ≤ s.at + 4; omega, G5, rfl, fun Q => ?_⟩
            clear R G2 G3 G4 G5 b3 e3 e4 e5 m1 m2 a1 a2 z3 st3
            simp (disch := omega) only [s_328_0, s_328_1, s_328_2, s_328_3, s_328_6, s_328_7, s_328_10, s_328_11, s_328_12, s_328_15, s_328_16, s_328_17, s_328_20, s_328_23, s_328_24, s_328_25, s_328_26, s_328_29, s_328_32, s_328_33, s_328_35, s_328_38, s_328_39, s_328_42, s_328_44, s_328_47, s_328_48, s_328_49, s_328_50, s_328_53, s_328_56, s_328_57, s_328_60, s_328_62, s_328_65, s_328_66, s_328_68, s_328_71, s_328_72, s_328_73, s_328_74, s_328_77, s_328_80, s_328_83, s_328_84, s_328_86, s_328_90, s_328_91, s_328_92, s_328_95, s_328_98, s_328_99, s_328_102, s_328_103, s_328_104, s_328_107, s_328_110, s_328_111, e_328, mv_i_1, mv_l_1, mv_a_1, mv_a_2, mv_a_3, mk2_n, mk2_i, mk2_l, mk2_a, mk2_u, mk2_x, mB_T, mB_F, mS_cons, mS_nil, mSB_T, mSB_F, mca_nil, mca_i, mca_l, mca_r, mca_u, mca_x, mcat_i, mcat_l, mcat_r, mcat_u, mcat_x, mK_some, mK_none, va_rf_s, va_rf_n, lgc_eq, lgc_lt, lgc_gt, lgc_ge, lgc_le, mrd_104, mrd_105, mrd_106, mrd_107, true_and, and_true, and_self, false_and, and_false, true_or, or_true, false_or, or_false, not_true_eq_false, not_false_eq_true, mgb, mga, mgr, mN, reduceCtorEq, ↓reduceIte, eq_self, ge_iff_le, gt_iff_lt, Nat.reduceAdd, Nat.reduceMul, Nat.reduceSub, Nat.reduceLT, Nat.reduceGT, Nat.reduceEqDiff, Nat.reduceLeDiff, Nat.left_eq_add, Nat.add_eq_left, Nat.reduceMod, Nat.reduceDiv, Nat.succ_ne_self, pH_g, g, q4, q5, y1, q6]
          · rw [if_neg c4]
            have y1 : (rkd (K (s.at + 3)) = 41) = False := by rw [rk_e (R.k _ h3).2 (c := 41) (y := 41) (by decide) rfl]; exact eq_false c4
            obtain ⟨b5, s5, G5, z5⟩ := GS_sub (m := m) (Fp := fun j => tak K 2 j (j + 1, some (tL (tE 13 (P j) (j : Int))))) (M := 315) (D := D + 3) (ar := [.ref 81]) R.F G4 (by omega) h3 (fun y1 y2 y3 => ⟨_, _, nm_sr R y2 y1, c_315 (D := D + 1) R y2 (by omega)⟩) (fun j hj => nam_b R.M hj)
            obtain ⟨b6, s6, G6, z6⟩ := l_328 (D := D) R (by omega) N s5 _ G5 b5 (by omega)
            have x6 := gd_bs (m := m) (x := (s.at + 3, some (tL (tE 13 (P (s.at + 1)) ((s.at + 1 : Nat) : Int))))) (Fp := fun j => tak K 2 j (j + 1, some (tL (tE 13 (P j) (j : Int))))) h3 (fun j hj => nam_b R.M hj)
            have EQ : (bnd (bnd (s.at + 3, some (tL (tE 13 (P (s.at + 1)) ((s.at + 1 : Nat) : Int)))) fun r j => bnd (tak K 2 j (j + 1, some (tL (tE 13 (P j) (j : Int))))) fun t k => (k, some (tC r t))) fun r j => bnd (pgM K P N j) fun t k => (k, some (tC r t))) = (bnd (tak K 2 (s.at + 3) (bnd (pgM K P N (s.at + 4)) fun r k => (k, some (.branch (tE 13 (P (s.at + 3)) (s.at + 3)) (.leaf ()) r)))) fun r j => (j, some (.branch (tE 13 (P (s.at + 1)) (s.at + 1)) (.leaf ()) r))) := by
              rw [bnd_o, bnd_t, bnd_t, bnd_t, bnd_o, bnd_o, bnd_b]
              exact congrArg (tak K 2 (s.at + 3)) (bnd_f (fun t k => rfl))
            rw [EQ] at G6 b6
            have lo : s.at + 3 ≤ (bnd (tak K 2 (s.at + 3) (bnd (pgM K P N (s.at + 4)) fun r k => (k, some (.branch (tE 13 (P (s.at + 3)) (s.at + 3)) (.leaf ()) r)))) fun r j => (j, some (.branch (tE 13 (P (s.at + 1)) (s.at + 1)) (.leaf ()) r))).1 := by
              unfold tak
              by_cases c5 : K (s.at + 3) = 2
              · rw [if_pos c5]
                have h4 := tkM_s R.M h3 c5 (by decide) (by decide)
                have gm := pgM_b (P := P) R.M N (s.at + 4) h4
                generalize pgM K P N (s.at + 4) = y at *
                obtain ⟨k', _ | t⟩ := y
                · show s.at + 3 ≤ k'; have : s.at + 4 ≤ k' := gm.1; omega
                · show s.at + 3 ≤ k'; have : s.at + 4 ≤ k' := gm.1; omega
              · rw [if_neg c5]; exact Nat.le_refl _
            refine ⟨_, s6, b6, lo, G6, rfl, fun Q => ?_⟩
            rw [← z6 Q]
            rcases z5 with ⟨z, -⟩ | ⟨-, s7, v7, u1, u2⟩
            · rw [bd4] at z; cases z
            have u2' := u2 (D + 3)
            clear R G2 G3 G4 G5 G6 b3 b5 b6 e3 e4 m1 m2 a1 a2 z3 z6 st3 u2 EQ lo x6
            simp (disch := omega) only [s_328_0, s_328_1, s_328_2, s_328_3, s_328_6, s_328_7, s_328_10, s_328_11, s_328_12, s_328_15, s_328_16, s_328_17, s_328_20, s_328_23, s_328_24, s_328_25, s_328_26, s_328_29, s_328_32, s_328_33, s_328_35, s_328_38, s_328_39, s_328_42, s_328_44, s_328_47, s_328_48, s_328_49, s_328_50, s_328_53, s_328_57, s_328_60, s_328_62, s_328_65, s_328_66, s_328_68, s_328_71, s_328_72, s_328_73, s_328_74, s_328_77, s_328_80, s_328_83, s_328_84, s_328_86, s_328_89, s_328_90, s_328_91, s_328_92, s_328_95, s_328_98, s_328_99, s_328_102, s_328_103, s_328_104, s_328_107, s_328_110, s_328_111, e_328, mv_i_1, mv_l_1, mv_a_1, mv_a_2, mv_a_3, mk2_n, mk2_i, mk2_l, mk2_a, mk2_u, mk2_x, mB_T, mB_F, mS_cons, mS_nil, mSB_T, mSB_F, mca_nil, mca_i, mca_l, mca_r, mca_u, mca_x, mcat_i, mcat_l, mcat_r, mcat_u, mcat_x, mK_some, mK_none, va_rf_s, va_rf_n, lgc_eq, lgc_lt, lgc_gt, lgc_ge, lgc_le, mrd_104, mrd_105, mrd_106, mrd_107, true_and, and_true, and_self, false_and, and_false, true_or, or_true, false_or, or_false, not_true_eq_false, not_false_eq_true, mgb, mga, mgr, mN, reduceCtorEq, ↓reduceIte, eq_self, ge_iff_le, gt_iff_lt, Nat.reduceAdd, Nat.reduceMul, Nat.reduceSub, Nat.reduceLT, Nat.reduceGT, Nat.reduceEqDiff, Nat.reduceLeDiff, Nat.left_eq_add, Nat.add_eq_left, Nat.reduceMod, Nat.reduceDiv, Nat.succ_ne_self, pH_g, g, q4, q5, y1, u1, u2']
        obtain ⟨x6, s6, b6, lo6, G6, E6, z6⟩ := par
        obtain ⟨b7, s7, G7, z7⟩ := GS_sub (m := m) (Fp := fun j => pgB K P V N N 2 1 j) (M := 324) (D := D + 3) (ar := [.ref 81, .int (Int32.ofNat 1)]) R.F G6 (by omega) b6 (fun y1 y2 y3 => (ps_all R hN N).2.2 1 (D + 3) s6 (by omega) y2 y1 (by omega) (by omega) y3) (fun j hj => (pgB_b R.M N 2 1 j (by decide) hj).1)
        have ST := GS_e0 (n := tE 1 (P s.at) 0) G7 pSm_r rfl (by rw [tE_K (by decide)]; rfl) (by rw [tE_P (by decide) (by omega)]) (by rw [tE_V (by decide) (by omega)]; rfl) (fun r => by unfold dSc; rw [tE_K (by decide)]; rfl)
        refine ⟨s7, Int32.ofNat s.dr, ?_, fun Q => ?_⟩
        · rw [← E6] at ST
          simp only [bnd_o, bnd_b, tC] at ST
          exact ST
        · rw [st3 Q, z6 Q]
          clear R ST G2 G3 G4 G6 G7 E6 b3 b6 b7 m1 m2 a1 a2 z3 z6 st3 e3 e4
          rcases z7 with ⟨z, zz⟩ | ⟨z, s8, v8, u1, u2⟩
          · subst zz
            have q8 := c_314n (D := D + 3) (h := h) (s := s7) (o := Int32.ofNat s.dr)
            simp (disch := omega) only [s_328_0, s_328_1, s_328_2, s_328_3, s_328_6, s_328_7, s_328_10, s_328_11, s_328_12, s_328_15, s_328_16, s_328_17, s_328_20, s_328_23, s_328_24, s_328_25, s_328_26, s_328_29, s_328_32, s_328_33, s_328_35, s_328_38, s_328_39, s_328_42, s_328_44, s_328_47, s_328_48, s_328_49, s_328_50, s_328_53, s_328_56, s_328_57, s_328_60, s_328_62, s_328_65, s_328_66, s_328_68, s_328_71, s_328_72, s_328_73, s_328_74, s_328_77, s_328_80, s_328_83, s_328_84, s_328_86, s_328_89, s_328_90, s_328_91, s_328_92, s_328_95, s_328_98, s_328_99, s_328_102, s_328_103, s_328_104, s_328_107, s_328_110, s_328_111, e_328, mv_i_1, mv_l_1, mv_a_1, mv_a_2, mv_a_3, mk2_n, mk2_i, mk2_l, mk2_a, mk2_u, mk2_x, mB_T, mB_F, mS_cons, mS_nil, mSB_T, mSB_F, mca_nil, mca_i, mca_l, mca_r, mca_u, mca_x, mcat_i, mcat_l, mcat_r, mcat_u, mcat_x, mK_some, mK_none, va_rf_s, va_rf_n, lgc_eq, lgc_lt, lgc_gt, lgc_ge, lgc_le, mrd_104, mrd_105, mrd_106, mrd_107, true_and, and_true, and_self, false_and, and_false, true_or, or_true, false_or, or_false, not_true_eq_false, not_false_eq_true, mgb, mga, mgr, mN, reduceCtorEq, ↓reduceIte, eq_self, ge_iff_le, gt_iff_lt, Nat.reduceAdd, Nat.reduceMul, Nat.reduceSub, Nat.reduceLT, Nat.reduceGT, Nat.reduceEqDiff, Nat.reduceLeDiff, Nat.left_eq_add, Nat.add_eq_left, Nat.reduceMod, Nat.reduceDiv, Nat.succ_ne_self, pH_g, pH_9, g, z, k1, n1, q8]
          · have u2' := u2 (D + 3)
            have u1' : ∀ Q, mcall (D + 3) 324 [.ref 81, .int 1] (pH h s6) Q = Q (some (.int v8)) (pH h s8) := u1
            clear u2
            simp (disch := omega) only [s_328_0, s_328_1, s_328_2, s_328_3, s_328_6, s_328_7, s_328_10, s_328_11, s_328_12, s_328_15, s_328_16, s_328_17, s_328_20, s_328_23, s_328_24, s_328_25, s_328_26, s_328_29, s_328_32, s_328_33, s_328_35, s_328_38, s_328_39, s_328_42, s_328_44, s_328_47, s_328_48, s_328_49, s_328_50, s_328_53, s_328_56, s_328_57, s_328_60, s_328_62, s_328_65, s_328_66, s_328_68, s_328_71, s_328_72, s_328_73, s_328_74, s_328_77, s_328_80, s_328_83, s_328_84, s_328_86, s_328_89, s_328_90, s_328_91, s_328_92, s_328_95, s_328_98, s_328_99, s_328_102, s_328_103, s_328_104, s_328_107, s_328_110, s_328_111, e_328, mv_i_1, mv_l_1, mv_a_1, mv_a_2, mv_a_3, mk2_n, mk2_i, mk2_l, mk2_a, mk2_u, mk2_x, mB_T, mB_F, mS_cons, mS_nil, mSB_T, mSB_F, mca_nil, mca_i, mca_l, mca_r, mca_u, mca_x, mcat_i, mcat_l, mcat_r, mcat_u, mcat_x, mK_some, mK_none, va_rf_s, va_rf_n, lgc_eq, lgc_lt, lgc_gt, lgc_ge, lgc_le, mrd_104, mrd_105, mrd_106, mrd_107, true_and, and_true, and_self, false_and, and_false, true_or, or_true, false_or, or_false, not_true_eq_false, not_false_eq_true, mgb, mga, mgr, mN, reduceCtorEq, ↓reduceIte, eq_self, ge_iff_le, gt_iff_lt, Nat.reduceAdd, Nat.reduceMul, Nat.reduceSub, Nat.reduceLT, Nat.reduceGT, Nat.reduceEqDiff, Nat.reduceLeDiff, Nat.left_eq_add, Nat.add_eq_left, Nat.reduceMod, Nat.reduceDiv, Nat.succ_ne_self, pH_g, pH_9, g, z, k0, u1', u2']
      · rw [show ∀ r, tak K 40 (s.at + 2) r = (s.at + 2, none) from fun r => if_neg c3]
        obtain ⟨w1, w2, w3, w4, w5, w6⟩ := G3
        rcases w6 with ⟨r, o1, bd3, fl3, dr3, bo3, gn⟩ | ⟨o1, -⟩
        · have o1' : tL (tE 13 (P (s.at + 1)) ((s.at + 1 : Nat) : Int)) = r := by cases o1; rfl
          subst o1'
          have dr3' : s3.dr = s.dr + 2 := dr3
          rw [tk_0 bd3 (by rw [at3]; exact c3), at3] at q4
          obtain ⟨gn, -⟩ := gn
          rw [if_neg (by decide)] at gn
          obtain ⟨L, g5, g6⟩ := gn
          have g7 := g6 (show 1 ≤ 1 from Nat.le_refl _)
          subst g7
          have dl : dLs (tL (tE 13 (P (s.at + 1)) ((s.at + 1 : Nat) : Int))) (s.dr + 1) 0 = s.dr + 1 := by show s.dr + 1 + dOf _ _ = _; rw [dOf_0 d13]
          rw [dl] at g5
          have dh : dHd (tL (tE 13 (P (s.at + 1)) ((s.at + 1 : Nat) : Int))) (s.dr + 1) = Int32.ofNat (s.dr + 1) := by show Int32.ofNat (s.dr + 1 + dOf _ _) = _; rw [dOf_0 d13]
          rw [dh] at g5
          obtain ⟨t', v', S', z'⟩ := bt_1 (D := D) (s := s) (i := s.at) R (t := s3.ko (P (s.at + 2))) (a := s.dr) (j := s.at + 2) (pSm_t w1 ko_m) rfl at3 h2 rfl (by show s.dr < s3.dr; omega) (by show s3.dr + 1 ≤ _; omega) (by omega) g5 (Or.inr ⟨ofn_m (by omega), s.dr + 1, rfl, by omega, by omega⟩) (fun l z y => by
            have z' := congrArg Int32.toInt z
            rw [nn_int (by omega), nn_int (by omega)] at z'
            omega)
          refine ⟨t', v', S', fun Q => ?_⟩
          rw [st3 Q, ← z' Q]
          clear R w1 w4 w5 m1 m2 a1 a2 z3 st3 S' z' G2 e3 g5 g6
          simp (disch := omega) only [s_328_0, s_328_1, s_328_2, s_328_3, s_328_6, s_328_7, s_328_10, s_328_11, s_328_12, s_328_15, s_328_16, s_328_17, s_328_20, s_328_23, s_328_24, s_328_25, s_328_26, s_328_29, s_328_32, s_328_33, s_328_35, s_328_39, s_328_42, s_328_44, s_328_47, s_328_48, s_328_49, s_328_50, s_328_53, s_328_56, s_328_57, s_328_60, s_328_62, s_328_65, s_328_66, s_328_68, s_328_71, s_328_72, s_328_73, s_328_74, s_328_77, s_328_80, s_328_83, s_328_84, s_328_86, s_328_89, s_328_90, s_328_91, s_328_92, s_328_95, s_328_98, s_328_99, s_328_102, s_328_103, s_328_104, s_328_107, s_328_110, s_328_111, e_328, mv_i_1, mv_l_1, mv_a_1, mv_a_2, mv_a_3, mk2_n, mk2_i, mk2_l, mk2_a, mk2_u, mk2_x, mB_T, mB_F, mS_cons, mS_nil, mSB_T, mSB_F, mca_nil, mca_i, mca_l, mca_r, mca_u, mca_x, mcat_i, mcat_l, mcat_r, mcat_u, mcat_x, mK_some, mK_none, va_rf_s, va_rf_n, lgc_eq, lgc_lt, lgc_gt, lgc_ge, lgc_le, mrd_104, mrd_105, mrd_106, mrd_107, true_and, and_true, and_self, false_and, and_false, true_or, or_true, false_or, or_false, not_true_eq_false, not_false_eq_true, mgb, mga, mgr, mN, reduceCtorEq, ↓reduceIte, eq_self, ge_iff_le, gt_iff_lt, Nat.reduceAdd, Nat.reduceMul, Nat.reduceSub, Nat.reduceLT, Nat.reduceGT, Nat.reduceEqDiff, Nat.reduceLeDiff, Nat.left_eq_add, Nat.add_eq_left, Nat.reduceMod, Nat.reduceDiv, Nat.succ_ne_self, pH_g, g, q4]
        · cases o1
    · rw [show ∀ r, tak K 2 (s.at + 1) r = (s.at + 1, none) from fun r => if_neg c2]
      have q3 := c_315 (D := D + 1) (s := s2) R (by omega) (by omega)
      rw [dr2] at q3
      have e3 : s2.nm K P = (s2.dft 13 (Int32.ofNat (P s2.at)) (Int32.ofNat s2.at)).ko (P s2.at) := by
        unfold pst.nm
        exact tk_0 (s := s2.dft 13 (Int32.ofNat (P s2.at)) (Int32.ofNat s2.at)) bd2 (by show ¬ K s2.at = 2; rw [at2]; exact c2)
      obtain ⟨d1, d2, -⟩ := nm_d (K := K) (P := P) (s := s2)
      have bd3 : (s2.nm K P).bd = true := by rw [e3]; rfl
      have at3 : (s2.nm K P).at = s.at + 1 := by rw [e3]; exact at2
      have fl3 : (s2.nm K P).fl = Int32.ofNat (P (s.at + 1)) := by rw [e3]; show Int32.ofNat (P s2.at) = _; rw [at2]
      generalize s2.nm K P = s3 at *
      have a3 := nf_S a2 d2 (by omega)
      have q4 := c_314 (D := D + 3) (s := s3) R.F (o := s.dr) (y := s.dr + 1) (by omega) (by omega) (fun z => absurd a3.2.2.2.1 z)
      obtain ⟨f1, f2, f3, f4⟩ := jn_f (s := s3) (o := s.dr) (y := s.dr + 1)
      obtain ⟨s4, hs4⟩ : ∃ x : pst, x = s3.jn s.dr (s.dr + 1) := ⟨_, rfl⟩
      rw [← hs4] at q4 f1 f2 f3 f4
      have a4 : nf s4 s.dr 1 (Int32.ofNat (P s.at)) 0 (Int32.ofNat (s.dr + 1)) (Int32.ofNat (s.dr + 1)) (-1) := by rw [hs4]; exact jn1_n a3
      have m4 : pSm s.dr s s4 := fun y hy => pE_t (m2 y hy) (pE_t (d2 y (by omega)) (show pE s3 s4 y from by rw [hs4]; exact jn1_E a3 (by omega)))
      have q5 := c_312 (D := D + 2) (s := s4) R (by omega) (c := 40) (y := 40) (by decide) rfl (by decide)
      rw [tk_b (f2.trans bd3)] at q5
      obtain ⟨t', v', S', z'⟩ := bt_1 (D := D) (s := s) (i := s.at) R (t := s4) (a := s.dr) (j := s.at + 1) m4 (f2.trans bd3) (f1.trans at3) h1 (f3.trans fl3) (by omega) (by omega) (by omega) a4 (Or.inr ⟨ofn_m (by omega), s.dr + 1, rfl, by omega, by omega⟩) (fun l z y => by
        have z' := congrArg Int32.toInt z
        rw [nn_int (by omega), nn_int (by omega)] at z'
        omega)
      refine ⟨t', v', S', fun Q => ?_⟩
      rw [← z' Q]
      clear R G2 m1 m2 m4 a1 a2 a3 a4 d2 S' z'
      simp (disch := omega) only [s_328_0, s_328_1, s_328_2, s_328_3, s_328_6, s_328_7, s_328_10, s_328_11, s_328_12, s_328_15, s_328_16, s_328_17, s_328_20, s_328_23, s_328_24, s_328_25, s_328_26, s_328_29, s_328_32, s_328_33, s_328_35, s_328_39, s_328_42, s_328_44, s_328_47, s_328_48, s_328_49, s_328_50, s_328_53, s_328_56, s_328_57, s_328_60, s_328_62, s_328_65, s_328_66, s_328_68, s_328_71, s_328_72, s_328_73, s_328_74, s_328_77, s_328_80, s_328_83, s_328_84, s_328_86, s_328_89, s_328_90, s_328_91, s_328_92, s_328_95, s_328_98, s_328_99, s_328_102, s_328_103, s_328_104, s_328_107, s_328_110, s_328_111, e_328, mv_i_1, mv_l_1, mv_a_1, mv_a_2, mv_a_3, mk2_n, mk2_i, mk2_l, mk2_a, mk2_u, mk2_x, mB_T, mB_F, mS_cons, mS_nil, mSB_T, mSB_F, mca_nil, mca_i, mca_l, mca_r, mca_u, mca_x, mcat_i, mcat_l, mcat_r, mcat_u, mcat_x, mK_some, mK_none, va_rf_s, va_rf_n, lgc_eq, lgc_lt, lgc_gt, lgc_ge, lgc_le, mrd_104, mrd_105, mrd_106, mrd_107, true_and, and_true, and_self, false_and, and_false, true_or, or_true, false_or, or_false, not_true_eq_false, not_false_eq_true, mgb, mga, mgr, mN, reduceCtorEq, ↓reduceIte, eq_self, ge_iff_le, gt_iff_lt, Nat.reduceAdd, Nat.reduceMul, Nat.reduceSub, Nat.reduceLT, Nat.reduceGT, Nat.reduceEqDiff, Nat.reduceLeDiff, Nat.left_eq_add, Nat.add_eq_left, Nat.reduceMod, Nat.reduceDiv, Nat.succ_ne_self, pH_g, pH_r, pH_l, g, r1, g1, l1, pH_8, pH_84, nn_mxT, nn_clamp, e, q1, q2, q3, q4, q5]
  · rw [show ∀ r, tak K 4 s.at r = (s.at, none) from fun r => if_neg c]
    rw [tk_0 bd1 (by rw [at1]; exact c), at1] at q2
    obtain ⟨s2, hs2⟩ : ∃ x : pst, x = s1.ko (P s.at) := ⟨_, rfl⟩
    rw [← hs2] at q2
    have a2 : nf s2 s.dr 1 (Int32.ofNat (P s.at)) 0 (-1) (-1) (-1) := by rw [hs2]; exact a1
    have bd2 : s2.bd = true := by rw [hs2]; rfl
    have at2 : s2.at = s.at := by rw [hs2]; exact at1
    have dr2 : s2.dr = s.dr + 1 := by rw [hs2]; exact dr1
    have fl2 : s2.fl = Int32.ofNat (P s.at) := by rw [hs2]; rfl
    obtain ⟨t2, x1, x2, x3, x4, x5, ⟨F2, N2, x8, x9⟩, x6, x7⟩ := bt_n R (s := s) (t := s2) (by rw [hs2]; exact pSm_t m1 ko_m) bd2 (by omega) (Nat.le_refl s.dr) (by omega) (by omega) a2 (Or.inl rfl) nl
    have q5 := c_312 (D := D + 2) (s := t2) R (by omega) (c := 40) (y := 40) (by decide) rfl (by decide)
    rw [tk_b x3] at q5
    obtain ⟨t', v', S', z'⟩ := bt_1 (D := D) (s := s) (i := s.at) R (t := t2) (a := s.dr) (j := s.at) x1 x3 (x2.trans at2) hi (x4.trans fl2) (by omega) (by omega) (by omega) x8 (Or.inr ⟨x9, s2.dr, rfl, by omega, by omega⟩) (fun l z y => by
      have z' := congrArg Int32.toInt z
      rw [nn_int (by omega), nn_int (by omega)] at z'
      omega)
    have x6' := x6 (D + 1)
    have x7' := x7 (D + 3)
    refine ⟨t', v', S', fun Q => ?_⟩
    rw [← z' Q]
    clear R m1 a1 a2 S' z' x1 x6 x7 x8
    simp (disch := omega) only [s_328_0, s_328_1, s_328_2, s_328_3, s_328_6, s_328_7, s_328_10, s_328_11, s_328_12, s_328_15, s_328_16, s_328_17, s_328_20, s_328_23, s_328_24, s_328_25, s_328_26, s_328_29, s_328_32, s_328_33, s_328_35, s_328_39, s_328_42, s_328_44, s_328_47, s_328_48, s_328_49, s_328_50, s_328_53, s_328_56, s_328_57, s_328_60, s_328_62, s_328_65, s_328_66, s_328_68, s_328_71, s_328_72, s_328_73, s_328_74, s_328_77, s_328_80, s_328_83, s_328_84, s_328_86, s_328_89, s_328_90, s_328_91, s_328_92, s_328_95, s_328_98, s_328_99, s_328_102, s_328_103, s_328_104, s_328_107, s_328_110, s_328_111, e_328, mv_i_1, mv_l_1, mv_a_1, mv_a_2, mv_a_3, mk2_n, mk2_i, mk2_l, mk2_a, mk2_u, mk2_x, mB_T, mB_F, mS_cons, mS_nil, mSB_T, mSB_F, mca_nil, mca_i, mca_l, mca_r, mca_u, mca_x, mcat_i, mcat_l, mcat_r, mcat_u, mcat_x, mK_some, mK_none, va_rf_s, va_rf_n, lgc_eq, lgc_lt, lgc_gt, lgc_ge, lgc_le, mrd_104, mrd_105, mrd_106, mrd_107, true_and, and_true, and_self, false_and, and_false, true_or, or_true, false_or, or_false, not_true_eq_false, not_false_eq_true, mgb, mga, mgr, mN, reduceCtorEq, ↓reduceIte, eq_self, ge_iff_le, gt_iff_lt, Nat.reduceAdd, Nat.reduceMul, Nat.reduceSub, Nat.reduceLT, Nat.reduceGT, Nat.reduceEqDiff, Nat.reduceLeDiff, Nat.left_eq_add, Nat.add_eq_left, Nat.reduceMod, Nat.reduceDiv, Nat.succ_ne_self, pH_g, pH_r, pH_l, g, r1, g1, l1, pH_8, pH_84, nn_mxT, nn_clamp, e, q1, q2, x6', x7', q5]
end HHs
