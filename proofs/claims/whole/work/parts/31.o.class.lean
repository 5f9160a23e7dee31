set_option maxRecDepth 100000
section RKT2
variable {h : mh_H} {o L G D P R X Y C E SC SP nC nE nS nb na lP : Nat} {A : ab} {sN : Int → Prop} {en : Int → Nat}
theorem prt_1 {pl ph : Nat → Int64} {q : Nat} {p : pa} (h1 : (pl q).toInt = p.2.2.1) (h2 : (ph q).toInt = p.2.2.2) : prt pl ph q [p] := ⟨h1, h2, trivial⟩
theorem T0_br (H : RE h o L G D P R X Y C E SC SP nC nE nS nb na A) (l1 : mh_l h P = lP) (l2 : mh_l h R = lP) {n : Nat} {cs r : tr} (i0 : T0 h o L G D P R C E SC SP nC nE nS nb na lP A sN en cs) (i2 : T1 h o L G D P R C E SC SP nC nE nS nb na lP A sN en (tT cs)) : T0 h o L G D P R C E SC SP nC nE nS nb na lP A sN en (.branch n cs r) := by
  intro d sum part k Ke pE Ht al lw hg nm pl ph x4 tu c w p k1 k2 k3 s1 s2 s3 s4 s4' s4'' s5 s6 pn'
  have B := H.B
  have S := H.S
  have tn : tN (.branch n cs r) = if tK n = 13 then some (tV n) else none := rfl
  have tn0 : ¬ tK n = 13 → (tN (.branch n cs r)).map en = none := fun z => by rw [tn, if_neg z]; rfl
  by_cases k15 : tK n = 15
  · have w' := w_15 k15 w
    rw [cl_15 k15] at k1 pn' ⊢
    rw [sh_15 k15] at s6
    rw [pn_15 k15] at s4 pn' ⊢
    obtain ⟨c1, c2⟩ := cd_15 k15 c
    have cp' := cl_pos w'
    rw [tn0 (by omega), ev_15 k15, pt_15 k15]
    have Z1 := i0 d sum part k Ke pE Ht al lw hg nm pl ph x4 (!tu) c1 w' (pe_15 k15 p) (by omega) k2 k3 s1 s2 s3 s4 s4' s4'' s5 s6 (PN_le pn' (by omega))
    rcases Z1 with ⟨lw1, hg1, nm1, pl1, ph1, a, b, q1, q2, q3, q4, q5⟩ | ⟨q1, H', lw1, hg1, nm1, pl1, ph1, q5⟩
    · obtain ⟨b1, b2, b3⟩ := (ev_in H.T cs).1 w' a b q1
      rw [e_bi_y q1]
      have ea : ∀ z, (e_al (ev en A cs none).2 z).2 = (ev en A cs none).2 ||| z.2 := fun z => rfl
      obtain ⟨t1, -⟩ := rk_1 (d := d) (al := al ||| (ev en A cs none).2) (lw := lw1) (hg := hg1) (nm := nm1) (pl := pl1) (ph := ph1) B S (H := Ht + 1) (part := part + pn cs false) (x4 := some (.int 1)) s1 s2 (by omega) (k := k + cl cs false) (by omega) (by omega)
      have F := t1 c2 (Ht + 1) _ _ _ (fun Q' => c_105 (d := d + 2) (Q := Q') (al := al ||| (ev en A cs none).2) (lw := lw1) (hg := hg1) (nm := nm1) (pl := pl1) (ph := ph1) B (by omega))
      have K := rk_K (d := d + 2) (F := fun Q => mw (d + 3) 99 Q 25 [some (.ref o), some (.int (Int32.ofNat sum)), some (.int (Int32.ofNat (part + pn cs false))), some (.int (Int32.ofNat (k + cl cs false))), some (.int 1)] [] (rS h o L G D P R (al ||| (ev en A cs none).2) (Int32.ofNat (Ht + 1)) lw1 hg1 nm1 pl1 ph1)) (al := al ||| (ev en A cs none).2) (al1 := 0) (al2 := 0) (lw := lw1) (hg := hg1) (nm := nm1) (pl := pl1) (ph := ph1) (Ht := Ht) B (by omega) (sum := sum) (part := part + pn cs false) (k := k + cl cs false) (s := none) (fun Q => by rw [i32_or0]; exact F Q) (fun j hj => ⟨up_n (by omega), up_n (by omega), up_n (by omega)⟩) up_s
      have v1 := q2.2.1
      have v2 := q2.2.2.1
      unfold iI at b1 b2
      rw [e_al0, up_s, up_s, i64_n (by omega), i64_n (by omega), v1, v2] at K
      rcases K with ⟨lw2, hg2, nm2, x2, y2, g1, g2, g3⟩ | ⟨g1, H', lw2, hg2, nm2, g3⟩
      · have NN := rk_n H (d := d + 3) (Ht := Ht) (al := (al ||| (ev en A cs none).2) ||| (e_ints (-b) (-a)).2) (lw := lw2) (hg := hg2) (nm := nm2) (pl := pl1) (ph := ph1) (x4 := some (.int 1)) s1 s3 s5 (part := part + pn cs false) (by omega) (k := k + cl cs false) (by omega) (PN_le pn' (by omega))
        refine Or.inl ⟨lw2, hg2, nm2, pl1, ph1, x2, y2, g1, ⟨fun j hj => ?_, g2.2⟩, q3, q4, fun Q => ?_⟩
        · have z1 := g2.1 j hj
          have z2 := q2.1 j hj
          exact ⟨z1.1.trans z2.1, z1.2.1.trans z2.2.1, z1.2.2.trans z2.2.2⟩
        · refine (q5 Q).trans ((g3 Q).trans ((NN Q).trans ?_))
          rw [ea, ← i32_ora]; rfl
      · refine Or.inr ⟨g1, H', lw2, hg2, nm2, pl1, ph1, fun Q => ?_⟩
        refine (q5 Q).trans ((g3 Q).trans ?_)
        rw [ea, ← i32_ora]
    · rw [e_bi_n q1]
      exact Or.inr ⟨rfl, H', lw1, hg1, nm1, pl1, ph1, q5⟩
  · by_cases k1' : tK n = 17
    · obtain ⟨m, cs', r', rfl, w1, w2⟩ := w_17 (k17 k1') w
      rw [cl_17 (k17 k1')] at k1 pn' ⊢
      rw [sh_17 (k17 k1')] at s6
      rw [pn_17 k1'] at s4 pn' ⊢
      obtain ⟨c1, c2, c3⟩ := cd_17 (k17 k1') c
      obtain ⟨p1', p2'⟩ := pe_17 k1' p
      have cp' := cl_pos w1
      rw [tn0 (by omega), ev_17 (k17 k1'), pt_17 k1']
      have i2' : T1 h o L G D P R C E SC SP nC nE nS nb na lP A sN en r' := i2
      have PNx : PN h E nE pE (part + pn (.branch m cs' r') false) (k + cl (.branch m cs' r') false) := by
        cases r' with
        | leaf u => exact absurd c3 (Nat.lt_irrefl 0)
        | branch m2 c' r2 =>
          obtain ⟨f1, e, f2, f3, f4⟩ := pe_first c' _ _ w2.2.1 p2'.1
          rw [pn_L] at s4
          rw [cl_L] at k1
          exact Or.inr ⟨by omega, e, f2, f3, by omega⟩
      have Z1 := i0 d sum part k Ke pE Ht al lw hg nm pl ph x4 tu c1 w1 p1' (by omega) k2 k3 s1 s2 s3 (by omega) s4' s4'' s5 (by omega) PNx
      rcases Z1 with ⟨lw1, hg1, nm1, pl1, ph1, a, b, q1, q2, q3, q4, q5⟩ | ⟨q1, H', lw1, hg1, nm1, pl1, ph1, q5⟩
      · obtain ⟨b1, b2, b3⟩ := (ev_in H.T _).1 w1 a b q1
        rw [e_bi_y q1]
        have tnm : tN (.branch m cs' r') = if tK m = 13 then some (tV m) else none := rfl
        have AL : ∀ z : er, (al ||| (ev en A (.branch m cs' r') none).2) ||| z.2 = al ||| (e_al (ev en A (.branch m cs' r') none).2 z).2 := fun z => by
          show _ = al ||| ((ev en A (.branch m cs' r') none).2 ||| z.2)
          rw [i32_ora]
        have Z2 := i2' d sum (part + pn (.branch m cs' r') false) (k + cl (.branch m cs' r') false) Ke pE Ht (al ||| (ev en A (.branch m cs' r') none).2) lw1 hg1 nm1 pl1 ph1 tu a b (if tK m = 13 then some (tV m) else none) c2 w2 p2' (by omega) k2 k3 s1 s2 s3 (by omega) s4' s4'' s5 (by omega) (by
          have e1 : part + pn (.branch m cs' r') false + pn r' true = part + (pn (.branch m cs' r') false + pn r' true) := by omega
          have e2 : k + cl (.branch m cs' r') false + cl r' true = k + (cl (.branch m cs' r') false + cl r' true) := by omega
          rw [e1, e2]; exact pn') q2.2.1 q2.2.2.1 b1 b2 b3 (by rw [← tnm]; exact q2.2.2.2) (by rw [← tnm]; exact nmC_of w1 q1)
        have tsr : ¬ ts r' = 0 := by omega
        rw [if_neg tsr] at Z2
        rcases Z2 with ⟨lw3, hg3, nm3, pl3, ph3, x3, y3, u1, u2, u3, u4, u5⟩ | ⟨u1, H', lw3, hg3, nm3, pl3, ph3, u5⟩
        · refine Or.inl ⟨lw3, hg3, nm3, pl3, ph3, x3, y3, u1, ⟨fun j hj => ?_, u2.2⟩, ?_, fun j hj => ?_, fun Q => ?_⟩
          · have z1 := u2.1 j hj
            have z3 := q2.1 j (by omega)
            exact ⟨z1.1.trans z3.1, z1.2.1.trans z3.2.1, z1.2.2.trans z3.2.2⟩
          · have ln := (pt_len (en := en) (A := A) (.branch m cs' r') false tu).1
            refine prt_app _ _ _ (prt_ext _ _ (fun j j1 j2 => u4 j (Or.inl (by rw [ln] at j2; exact j2))) q3) ?_
            rw [ln]; exact u3
          · have z1 := u4 j (by omega)
            have z2 := q4 j (by omega)
            exact ⟨z1.1.trans z2.1, z1.2.trans z2.2⟩
          · have e1 : part + (pn (.branch m cs' r') false + pn r' true) = part + pn (.branch m cs' r') false + pn r' true := by omega
            have e2 : k + (cl (.branch m cs' r') false + cl r' true) = k + cl (.branch m cs' r') false + cl r' true := by omega
            refine (q5 Q).trans ((u5 Q).trans ?_)
            rw [AL, e1, e2]
        · refine Or.inr ⟨u1, H', lw3, hg3, nm3, pl3, ph3, fun Q => ?_⟩
          refine (q5 Q).trans ((u5 Q).trans ?_)
          rw [AL]
      · rw [e_bi_n q1]
        exact Or.inr ⟨rfl, H', lw1, hg1, nm1, pl1, ph1, q5⟩
    · have cp := cl_pos w
      rw [pn_1 k15 k1'] at s4 pn' ⊢
      rw [pt_1 k15 k1']
      have hE := pe_1 k15 k1' p
      have Z := (o_99 (sN := sN) (en := en) H (.branch n cs r)).1 d sum part k Ke pE Ht al lw hg nm pl ph x4 c w k1 k2 (by omega) s1 s2 s3 s5 (by omega) s6 (Or.inr ⟨by omega, _, hE, by omega, by omega⟩)
      rcases Z with ⟨lw1, hg1, nm1, a, b, q1, q2, q3⟩ | ⟨q1, H', lw1, hg1, nm1, q3⟩
      · have Y3 := rk_3y (d := d + 3) (al := al ||| (ev en A (.branch n cs r) none).2) (lw := lw1) (hg := hg1) (nm := nm1) (pl := pl) (ph := ph) B S (H := Ht) (by omega) (sum := sum) (part := part) (k := k + cl (.branch n cs r) false - 1) (pE := pE) (lP := lP) (x4 := some (.int 1)) s1 s3 (by omega) (by omega) (by omega) (by omega) (by
          have e : k + cl (.branch n cs r) false - 1 + 1 = k + cl (.branch n cs r) false := by omega
          rw [e]; exact hE) l1 l2 (by omega)
        have e : k + cl (.branch n cs r) false - 1 + 1 = k + cl (.branch n cs r) false := by omega
        rw [e] at Y3
        have ep : p1 en A n cs r tu = (tu, pk en n, a, b) := by unfold p1; rw [q1]
        rw [ep]
        refine Or.inl ⟨lw1, hg1, nm1, up pl part (lw1 Ht), up ph part (hg1 Ht), a, b, q1, q2, prt_1 (by rw [up_s]; exact q2.2.1) (by rw [up_s]; exact q2.2.2.1), fun j hj => ⟨up_n (by omega), up_n (by omega)⟩, fun Q => ?_⟩
        exact (q3 Q).trans (Y3 Q)
      · exact Or.inr ⟨q1, H', lw1, hg1, nm1, pl, ph, q3⟩
/-- the class's reckoning is ev, with its parts' ranges -/
theorem t_99 (H : RE h o L G D P R X Y C E SC SP nC nE nS nb na A) (l1 : mh_l h P = lP) (l2 : mh_l h R = lP) : ∀ t, T0 h o L G D P R C E SC SP nC nE nS nb na lP A sN en t ∧ T1 h o L G D P R C E SC SP nC nE nS nb na lP A sN en t ∧ T1 h o L G D P R C E SC SP nC nE nS nb na lP A sN en (tT t) := by
  intro t
  induction t with
  | leaf u =>
    refine ⟨?_, T1_leaf u, T1_leaf u⟩
    intro d sum part k Ke pE Ht al lw hg nm pl ph x4 tu _ w
    exact absurd w (fun z => z)
  | branch n cs r ih1 ih2 => exact ⟨T0_br H l1 l2 ih1.1 ih1.2.2, T1_br H ih1.1 ih2.2.1, ih2.2.1⟩
/-- Ranges.reckon -/
theorem q_99 (H : RE h o L G D P R X Y C E SC SP nC nE nS nb na A) (l1 : mh_l h P = lP) (l2 : mh_l h R = lP) {t : tr} {d sum c0 p0 : Nat} {al : Int32} {H0 : Int32} {lw hg : Nat → Int64} {nm : Nat → Int32} {pl ph : Nat → Int64} (tu : Bool) (hs : sum + 1 < nS) (hc0 : mh_i h SC sum = Int32.ofNat c0) (hc1 : mh_i h SC (sum + 1) = Int32.ofNat (c0 + cl t false)) (hp0 : mh_i h SP sum = Int32.ofNat p0) (hp1 : mh_i h SP (sum + 1) = Int32.ofNat (p0 + pn t false)) (hc : cd en nb na A.rm (mh_i h C) t false c0) (hw : wS sN en A t false) (hpe : pe (mh_i h E) t false p0 c0) (b1 : 3 * (c0 + cl t false) ≤ nC) (b2 : c0 + cl t false < 1000000 - 1) (b3 : p0 + pn t false ≤ nE) (b4 : p0 + pn t false ≤ lP) (b5 : p0 + pn t false < 1000000) (b6 : sh t false ≤ 124) : (∃ lw' hg' nm' pl' ph' a b, (ev en A t none).1 = some (a, b) ∧ (lw' 0).toInt = a ∧ (hg' 0).toInt = b ∧ prt pl' ph' p0 (pt en A t false tu) ∧ (∀ j, (j < p0 ∨ p0 + pn t false ≤ j) → pl' j = pl j ∧ ph' j = ph j) ∧ ∀ Q, mcall (d + 3) 99 [.ref o, .int (Int32.ofNat sum)] (rS h o L G D P R al H0 lw hg nm pl ph) Q = Q (some (.int 1)) (rS h o L G D P R (al ||| (ev en A t none).2) (Int32.ofNat 1) lw' hg' nm' pl' ph')) ∨ ((ev en A t none).1 = none ∧ ∃ H' lw' hg' nm' pl' ph', ∀ Q, mcall (d + 3) 99 [.ref o, .int (Int32.ofNat sum)] (rS h o L G D P R al H0 lw hg nm pl ph) Q = Q (some (.int 0)) (rS h o L G D P R (al ||| (ev en A t none).2) (Int32.ofNat H') lw' hg' nm' pl' ph')) := by
  have B := H.B
  have S := H.S
  have Z := (t_99 (sN := sN) (en := en) H l1 l2 t).1 d sum p0 c0 (c0 + cl t false) (p0 + pn t false) 0 al lw hg nm pl ph none tu hc hw hpe (Nat.le_refl _) b1 b2 hs hc1 hp1 (Nat.le_refl _) b3 b4 b5 (by omega) (Or.inl (Nat.le_refl _))
  obtain ⟨r0, gY, rC, rE, s6, s7, gC, gE, g6, g7, lC, lE, l6, l7, dC, dE, d6, d7, bC, bE, bS⟩ := S
  have g := B.g
  have n6 : ¬ SC = o := fun z => by have := g.1; have := g6.1; rw [z] at *; omega
  have n7 : ¬ SP = o := fun z => by have := g.1; have := g7.1; rw [z] at *; omega
  have ei : ∀ k, Int32.ofNat k + 1 = Int32.ofNat (k + 1) := fun k => nn_add (a := k) (b := 1)
  have E0 : ∀ Q, mcall (d + 3) 99 [.ref o, .int (Int32.ofNat sum)] (rS h o L G D P R al H0 lw hg nm pl ph) Q = mw (d + 3) 99 Q 25 [some (.ref o), some (.int (Int32.ofNat sum)), some (.int (Int32.ofNat p0)), some (.int (Int32.ofNat c0)), none] [] (rS h o L G D P R al (Int32.ofNat 0) lw hg nm pl ph) := fun Q => by
    have z0 : (0 : Int32) = Int32.ofNat 0 := rfl
    simp (disch := omega) only [s_99_0, s_99_1, s_99_2, s_99_5, s_99_6, s_99_9, s_99_12, s_99_13, s_99_14, s_99_15, s_99_16, s_99_19, s_99_22, s_99_23, s_99_24, s_99_26, s_99_27, s_99_30, s_99_33, s_99_34, s_99_35, s_99_36, s_99_37, s_99_40, s_99_41, s_99_43, s_99_44, s_99_47, s_99_50, s_99_51, s_99_52, s_99_53, s_99_54, s_99_112, s_99_113, s_99_116, s_99_119, s_99_120, s_99_121, s_99_124, s_99_127, s_99_128, s_99_129, s_99_132, s_99_135, s_99_136, s_99_139, s_99_142, s_99_143, s_99_146, s_99_148, s_99_151, s_99_152, s_99_155, s_99_157, s_99_160, s_99_161, s_99_162, s_99_165, s_99_168, s_99_169, s_99_170, s_99_171, s_99_172, s_99_173, s_99_176, s_99_179, s_99_180, s_99_181, s_99_182, s_99_183, s_99_184, s_99_185, s_99_186, s_99_189, s_99_192, s_99_193, s_99_194, s_99_195, s_99_196, s_99_197, s_99_198, s_99_201, s_99_203, s_99_205, s_99_208, s_99_209, s_99_212, s_99_215, s_99_216, s_99_217, s_99_218, s_99_219, s_99_222, s_99_225, s_99_226, s_99_227, s_99_228, s_99_229, s_99_232, s_99_233, s_99_236, s_99_239, s_99_240, s_99_241, s_99_242, s_99_243, s_99_244, s_99_247, s_99_248, s_99_251, s_99_252, s_99_253, s_99_256, s_99_257, s_99_260, s_99_261, s_99_262, s_99_263, s_99_264, s_99_265, s_99_268, s_99_269, s_99_270, s_99_273, s_99_274, s_99_277, s_99_278, s_99_279, s_99_280, s_99_281, s_99_284, s_99_287, s_99_290, s_99_291, e_99, mv_i_1, mv_l_1, mv_a_1, mv_a_2, mv_a_3, mk2_n, mk2_i, mk2_l, mk2_a, mk2_u, mk2_x, mB_T, mB_F, mS_cons, mS_nil, mSB_T, mSB_F, mca_nil, mca_i, mca_l, mca_r, mca_u, mca_x, mcat_i, mcat_l, mcat_r, mcat_u, mcat_x, mK_some, mK_none, va_rf_s, va_rf_n, lgc_eq, lgc_lt, lgc_gt, lgc_ge, lgc_le, mrd_104, mrd_105, mrd_106, mrd_107, true_and, and_true, and_self, false_and, and_false, true_or, or_true, false_or, or_false, not_true_eq_false, not_false_eq_true, mgb, mga, mgr, mN, reduceCtorEq, ↓reduceIte, eq_self, ge_iff_le, gt_iff_lt, Nat.reduceAdd, Nat.reduceMul, Nat.reduceSub, Nat.reduceLT, Nat.reduceGT, Nat.reduceEqDiff, Nat.reduceLeDiff, Nat.left_eq_add, Nat.add_eq_left, Nat.reduceMod, Nat.reduceDiv, Nat.succ_ne_self, rS_g, rS_i, rS_k, rS_n, rS_r, rS_l, rS_8, g, r0, gY, s6, s7, g6, g7, l6, l7, n6, n7, d6, d7, nn_mxT, nn_clamp, hc0, hp0]
    rw [z0]
  have hle : (c0 + cl t false ≤ c0 + cl t false) = True := eq_true (Nat.le_refl _)
  have END : ∀ Q al' lw' hg' nm' pl' ph', mw (d + 3) 99 Q 25 [some (.ref o), some (.int (Int32.ofNat sum)), some (.int (Int32.ofNat (p0 + pn t false))), some (.int (Int32.ofNat (c0 + cl t false))), some (.int 1)] [] (rS h o L G D P R al' (Int32.ofNat (0 + 1)) lw' hg' nm' pl' ph') = Q (some (.int 1)) (rS h o L G D P R al' (Int32.ofNat 1) lw' hg' nm' pl' ph') := fun Q al' lw' hg' nm' pl' ph' => by
    rw [s_99_25]
    simp (disch := omega) only [s_99_0, s_99_1, s_99_2, s_99_5, s_99_6, s_99_9, s_99_12, s_99_13, s_99_14, s_99_15, s_99_16, s_99_19, s_99_22, s_99_23, s_99_24, s_99_26, s_99_27, s_99_30, s_99_33, s_99_34, s_99_35, s_99_36, s_99_37, s_99_40, s_99_41, s_99_43, s_99_44, s_99_47, s_99_50, s_99_51, s_99_52, s_99_53, s_99_54, s_99_112, s_99_113, s_99_116, s_99_119, s_99_120, s_99_121, s_99_124, s_99_127, s_99_128, s_99_129, s_99_132, s_99_135, s_99_136, s_99_139, s_99_142, s_99_143, s_99_146, s_99_148, s_99_151, s_99_152, s_99_155, s_99_157, s_99_160, s_99_161, s_99_162, s_99_165, s_99_168, s_99_169, s_99_170, s_99_171, s_99_172, s_99_173, s_99_176, s_99_179, s_99_180, s_99_181, s_99_182, s_99_183, s_99_184, s_99_185, s_99_186, s_99_189, s_99_192, s_99_193, s_99_194, s_99_195, s_99_196, s_99_197, s_99_198, s_99_201, s_99_203, s_99_205, s_99_208, s_99_209, s_99_212, s_99_215, s_99_216, s_99_217, s_99_218, s_99_219, s_99_222, s_99_225, s_99_226, s_99_227, s_99_228, s_99_229, s_99_232, s_99_233, s_99_236, s_99_239, s_99_240, s_99_241, s_99_242, s_99_243, s_99_244, s_99_247, s_99_248, s_99_251, s_99_252, s_99_253, s_99_256, s_99_257, s_99_260, s_99_261, s_99_262, s_99_263, s_99_264, s_99_265, s_99_268, s_99_269, s_99_270, s_99_273, s_99_274, s_99_277, s_99_278, s_99_279, s_99_280, s_99_281, s_99_284, s_99_287, s_99_290, s_99_291, e_99, mv_i_1, mv_l_1, mv_a_1, mv_a_2, mv_a_3, mk2_n, mk2_i, mk2_l, mk2_a, mk2_u, mk2_x, mB_T, mB_F, mS_cons, mS_nil, mSB_T, mSB_F, mca_nil, mca_i, mca_l, mca_r, mca_u, mca_x, mcat_i, mcat_l, mcat_r, mcat_u, mcat_x, mK_some, mK_none, va_rf_s, va_rf_n, lgc_eq, lgc_lt, lgc_gt, lgc_ge, lgc_le, mrd_104, mrd_105, mrd_106, mrd_107, true_and, and_true, and_self, false_and, and_false, true_or, or_true, false_or, or_false, not_true_eq_false, not_false_eq_true, mgb, mga, mgr, mN, reduceCtorEq, ↓reduceIte, eq_self, ge_iff_le, gt_iff_lt, Nat.reduceAdd, Nat.reduceMul, Nat.reduceSub, Nat.reduceLT, Nat.reduceGT, Nat.reduceEqDiff, Nat.reduceLeDiff, Nat.left_eq_add, Nat.add_eq_left, Nat.reduceMod, Nat.reduceDiv, Nat.succ_ne_self, rS_g, rS_i, rS_k, rS_n, rS_r, rS_l, g, r0, gY, s6, g6, l6, n6, d6, nn_mxT, nn_clamp, nn_le, ei, hc1, hle]
  rcases Z with ⟨lw1, hg1, nm1, pl1, ph1, a, b, q1, q2, q3, q4, q5⟩ | ⟨q1, H', lw1, hg1, nm1, pl1, ph1, q5⟩
  · exact Or.inl ⟨lw1, hg1, nm1, pl1, ph1, a, b, q1, q2.2.1, q2.2.2.1, q3, q4, fun Q => (E0 Q).trans ((q5 Q).trans (END Q _ _ _ _ _ _))⟩
  · exact Or.inr ⟨q1, H', lw1, hg1, nm1, pl1, ph1, fun Q => (E0 Q).trans (q5 Q)⟩
end RKT2
