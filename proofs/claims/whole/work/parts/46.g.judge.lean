set_option maxRecDepth 100000
/-! InvariantDesk.judge -/
/-- claims, and where points lead, in the class's heap -/
abbrev CLH (h : mh_H) (G : pgm) (cnt : Nat) (cl : Nat → Option ab) (fst oth : Nat → Nat) : Prop := (∀ q, q < cnt → pv h 73 q (cl q)) ∧ (∀ p, p + 1 < cnt → mh_i h 27 p = Int32.ofNat (fst p) ∧ fst p < cnt) ∧ (∀ p, p + 1 < cnt → G.kd p = 5 ∨ G.kd p = 6 ∨ G.kd p = 7 → mh_i h 28 p = Int32.ofNat (oth p) ∧ oth p < cnt)
theorem CLH.c {h : mh_H} {G : pgm} {cnt : Nat} {cl : Nat → Option ab} {fst oth : Nat → Nat} (q : CLH h G cnt cl fst oth) : ∀ q, q < cnt → pv h 73 q (cl q) := q.1
theorem CLH.f {h : mh_H} {G : pgm} {cnt : Nat} {cl : Nat → Option ab} {fst oth : Nat → Nat} (q : CLH h G cnt cl fst oth) : ∀ p, p + 1 < cnt → mh_i h 27 p = Int32.ofNat (fst p) ∧ fst p < cnt := q.2.1
theorem CLH.o {h : mh_H} {G : pgm} {cnt : Nat} {cl : Nat → Option ab} {fst oth : Nat → Nat} (q : CLH h G cnt cl fst oth) : ∀ p, p + 1 < cnt → G.kd p = 5 ∨ G.kd p = 6 ∨ G.kd p = 7 → mh_i h 28 p = Int32.ofNat (oth p) ∧ oth p < cnt := q.2.2
/-- what leads on has the slots of where it leads -/
def DMS (G : pgm) (fst oth : Nat → Nat) (cnt : Nat) : Prop := ∀ p A, p + 1 < cnt → shp (G.n p) (G.a p) (G.rm p) (some A) → (∀ X, (G.fx p A).1 = some X → G.n (fst p) ≤ X.n ∧ G.a (fst p) ≤ X.a) ∧ (G.kd p = 5 ∨ G.kd p = 6 → ∀ X, (G.fx p A).2.1 = some X → G.n (oth p) ≤ X.n ∧ G.a (oth p) ≤ X.a)
/-- claims in order -/
def CSH (G : pgm) (cnt : Nat) (cl : Nat → Option ab) : Prop := ∀ q, q < cnt → shp (G.n q) (G.a q) (G.rm q) (cl q)
/-- what inductive answers -/
def JV (G : pgm) (cnt : Nat) (cl : Nat → Option ab) (fst oth : Nat → Nat) (m : Bool) (v : Int32) : Prop := (m = true ∧ v = -3) ∨ (m = false ∧ cl 0 = none ∧ v = -2) ∨ (m = false ∧ cl 0 ≠ none ∧ ∃ b', BRK (VI G cl fst oth) 0 (cnt - 1) 250 b' ∧ v = if b' = 250 then -1 else Int32.ofNat b')
section JGs
variable {V U W : Nat → Nat → Prop} {d : Nat} {h h1 : mh_H} {Y C E TT UU SC SP nC nE nS : Nat} {G : pgm} {cnt k p w : Nat} {I : mh_H → Prop} {A : ab} {cl : Nat → Option ab} {fst oth : Nat → Nat}
theorem CLH_s (B : BS h Y C E TT UU SC SP nC nE nS) (x : zS V U h h1) (hV : ∀ b j, V b j → b ≠ 73) (hU : ∀ b j, U b j → aX h b) (L : CLH h G cnt cl fst oth) : CLH h1 G cnt cl fst oth := by
  have g27 := B.F.g 27 100 250 (by decide +kernel)
  have g28 := B.F.g 28 100 250 (by decide +kernel)
  have k27 := g27.1
  have k28 := g28.1
  refine ⟨fun q hq => x.pp _ _ _ (by unfold isPl; omega) (fun z => hV _ _ z rfl) (L.c q hq), fun p hp => ?_, fun p hp k => ?_⟩
  · rw [x.ii 27 100 p g27 (by decide) (by decide) (by unfold eff; omega) (fun z => by have := hU _ _ z; unfold aX aI at this; omega)]; exact L.f p hp
  · rw [x.ii 28 100 p g28 (by decide) (by decide) (by unfold eff; omega) (fun z => by have := hU _ _ z; unfold aX aI at this; omega)]; exact L.o p hp k
theorem v_205 (EF : EFF Y C E TT UU SC SP nC nE nS G cnt I) (hI : hIp Y C E TT UU SC SP nC nE nS I) (B : BS h Y C E TT UU SC SP nC nE nS) (H : PH h G cnt) (i0 : I h) (L : CLH h G cnt cl fst oth) (D : DMS G fst oth cnt) (S : CSH G cnt cl) (hp : p + 1 < cnt) (ec : cl p = some A) : ∃ h' x, zS (fun b _ => b = 34 ∨ b = 51) (fun _ _ => False) h h' ∧ BS h' Y C E TT UU SC SP nC nE nS ∧ (x = 0 ∨ x = 1) ∧ (x = 0 ↔ VI G cl fst oth p) ∧ ∀ Q, mcall (d + 6) 205 [.ref 0, .int (Int32.ofNat p)] h Q = Q (some (.int x)) h' := by
  have cb := H.b
  have sA : shp (G.n p) (G.a p) (G.rm p) (some A) := by rw [← ec]; exact S p (by omega)
  have kc := L.c p (by omega)
  rw [ec] at kc
  obtain ⟨h1, x1, B1, q1, q2, c1⟩ := lc_1 (d := d) EF B H i0 hp kc sA
  have H1 := PH_s B x1 (fun _ _ z => z.elim) H
  have L1 := CLH_s B x1 (fun b j z => by omega) (fun _ _ z => z.elim) L
  obtain ⟨d1, d2⟩ := D p A hp sA
  have sc : ∀ q, q < cnt → ∀ A, cl q = some A → A.n = G.n q ∧ A.a = G.a q := fun q hq A e => by
    obtain ⟨-, w1, w2, -⟩ := S q hq A e
    exact ⟨w1, w2⟩
  have f1 : (fo G p (cl p)).1 = (G.fx p A).1 := by rw [ec]; rfl
  have f2 : (fo G p (cl p)).2.1 = (G.fx p A).2.1 := by rw [ec]; rfl
  obtain ⟨r27, hf⟩ := L1.f p hp
  by_cases c : G.kd p = 5 ∨ G.kd p = 6
  · obtain ⟨r28, ho⟩ := L1.o p hp (by omega)
    obtain ⟨h2, y, x2, B2, q3, wy, wy2, c2⟩ := lc_2 (d := d) B1 H1 (by omega) c r28 ho (q2 c) (L1.c _ ho) (d2 c) (sc _ ho)
    have H2 := PH_s B1 x2 (fun _ _ z => z.elim) H1
    have L2 := CLH_s B1 x2 (fun b j z => by omega) (fun _ _ z => z.elim) L1
    obtain ⟨h3, x, x3, B3, wx, wx2, c3⟩ := lc_3 (d := d) (x3 := some (.int (Int32.ofNat (oth p)))) B2 H2 (by omega) (L2.f p hp).1 hf (q3 _ q1) (L2.c _ hf) d1 (sc _ hf) wy
    refine ⟨h3, x, zS_t x1 (zS_t x2 x3), B3, wx, ?_, fun Q => by rw [c1, c2, c3]⟩
    rw [wx2, wy2]
    unfold VI
    rw [f1, f2]
    constructor
    · rintro (z | z)
      · exact Or.inr ⟨c, z⟩
      · exact Or.inl z
    · rintro (z | z)
      · exact Or.inr z
      · exact Or.inl z.2
  · obtain ⟨h3, x, x3, B3, wx, wx2, c3⟩ := lc_3 (d := d) (x3 := none) B1 H1 (by omega) r27 hf q1 (L1.c _ hf) d1 (sc _ hf) (Or.inr rfl : (1 : Int32) = 0 ∨ (1 : Int32) = 1)
    refine ⟨h3, x, zS_t x1 x3, B3, wx, ?_, fun Q => by rw [c1, lc_2n B1 H1 (by omega) c, c3]⟩
    rw [wx2]
    unfold VI
    rw [f1, f2]
    constructor
    · rintro (z | z)
      · exact absurd z (by decide)
      · exact Or.inl z
    · rintro (z | z)
      · exact Or.inr z
      · exact absurd z.1 c
def jgU (b j : Nat) : Prop := b = 0 ∧ (j = 11 ∨ j = 12)
theorem jgX : ∀ b j, jgU b j → aX h b := fun b j z => by unfold jgU at z; unfold aX; omega
/-- its loop -/
theorem jg_l (EF : EFF Y C E TT UU SC SP nC nE nS G cnt I) (hI : hIp Y C E TT UU SC SP nC nE nS I) (hX : ∀ (h h1 : mh_H) (V U : Nat → Nat → Prop), BS h Y C E TT UU SC SP nC nE nS → zS V U h h1 → (∀ b j, U b j → aX h b) → I h → I h1) (D : DMS G fst oth cnt) (S : CSH G cnt cl) : ∀ m p (h : mh_H), p + m + 1 = cnt → BS h Y C E TT UU SC SP nC nE nS → PH h G cnt → I h → CLH h G cnt cl fst oth → mh_i h 0 12 = -1 → (∀ q, q < p → ¬ VI G cl fst oth q) → ∃ h' b', zS (fun b _ => b = 34 ∨ b = 51) jgU h h' ∧ BS h' Y C E TT UU SC SP nC nE nS ∧ BRK (VI G cl fst oth) 0 (cnt - 1) 250 b' ∧ mh_i h' 0 11 = mh_i h 0 11 ∧ mh_i h' 0 12 = (if b' = 250 then -1 else Int32.ofNat b') ∧ ∀ Q, mw (d + 7) 204 Q 61 [some (.ref 0), some (.int (Int32.ofNat p))] [] h = Q (some (.int (if b' = 250 then -1 else Int32.ofNat b'))) h' := by
  intro m
  induction m with
  | zero =>
    intro p h hm B H i0 L f12 nv
    have cb := H.b
    refine ⟨h, 250, zS_id, B, ⟨Nat.le_refl _, fun q _ q2 z => absurd z (nv q (by omega)), Or.inl rfl⟩, rfl, f12, fun Q => ?_⟩
    have F := B.F
    have g0 := F.g 0 11 15 (by decide +kernel)
    have t2 := F.f 0 2 2 (by decide +kernel)
    have g2 := F.g 2 4 20 (by decide +kernel)
    have c2 := H.c
    have es : Int32.ofNat cnt - 1 = Int32.ofNat (cnt - 1) := nn_sub (a := cnt) (b := 1) (by omega)
    have ep : p = cnt - 1 := by omega
    have le : (cnt - 1 ≤ p) = True := eq_true (by omega)
    rw [if_pos rfl]
    clear EF hI hX B H L F S D
    simp (disch := omega) only [s_204_0, s_204_1, s_204_4, s_204_7, s_204_8, s_204_11, s_204_12, s_204_13, s_204_14, s_204_17, s_204_18, s_204_19, s_204_22, s_204_23, s_204_26, s_204_29, s_204_32, s_204_33, s_204_35, s_204_38, s_204_41, s_204_42, s_204_45, s_204_46, s_204_47, s_204_50, s_204_53, s_204_54, s_204_56, s_204_59, s_204_60, s_204_61, s_204_62, s_204_63, s_204_66, s_204_69, s_204_70, s_204_71, s_204_74, s_204_75, s_204_78, s_204_79, s_204_82, s_204_83, s_204_86, s_204_87, s_204_88, s_204_91, s_204_94, s_204_95, s_204_96, s_204_99, s_204_102, s_204_103, s_204_104, s_204_107, s_204_110, s_204_113, s_204_114, s_204_117, e_204, mv_i_1, mv_l_1, mv_a_1, mv_a_2, mv_a_3, mk2_n, mk2_i, mk2_l, mk2_a, mk2_u, mk2_x, mB_T, mB_F, mS_cons, mS_nil, mSB_T, mSB_F, mca_nil, mca_i, mca_l, mca_r, mca_u, mca_x, mcat_i, mcat_l, mcat_r, mcat_u, mcat_x, mK_some, mK_none, va_rf_s, va_rf_n, lgc_eq, lgc_lt, lgc_gt, lgc_ge, lgc_le, mrd_104, mrd_105, mrd_106, mrd_107, true_and, and_true, and_self, false_and, and_false, true_or, or_true, false_or, or_false, not_true_eq_false, not_false_eq_true, mgb, mga, mgr, mN, reduceCtorEq, ↓reduceIte, eq_self, ge_iff_le, gt_iff_lt, hk_si, hk_sj, hk_sr, hl_si, hl_sj, hl_sr, hn_si, hn_sj, hn_sr, hs_si, hs_sj, hs_sr, hi_sj, hi_sr, hj_si, hj_sr, hr_si, hr_sj, hi_si, hj_sj, hr_sr, mg_si, mg_sj, mg_sr, Nat.reduceAdd, Nat.reduceMul, Nat.reduceSub, Nat.reduceLT, Nat.reduceGT, Nat.reduceEqDiff, Nat.reduceLeDiff, Nat.left_eq_add, Nat.add_eq_left, Nat.reduceMod, Nat.reduceDiv, Nat.succ_ne_self, g0, t2, g2, c2, es, nn_le, le, f12]
  | succ m ih =>
    intro p h hm B H i0 L f12 nv
    have cb := H.b
    have hp : p + 1 < cnt := by omega
    have F := B.F
    have g0 := F.g 0 11 15 (by decide +kernel)
    have t2 := F.f 0 2 2 (by decide +kernel)
    have t6 := F.f 0 6 73 (by decide +kernel)
    have g2 := F.g 2 4 20 (by decide +kernel)
    have c2 := H.c
    have g73 := (F.g 73 104 250 (by decide +kernel)).1
    have g73' := (F.g 73 104 250 (by decide +kernel)).2
    have l73 := F.l 73 104 250 (by decide +kernel)
    have P1 : isPl 73 p := by unfold isPl; omega
    obtain ⟨o1, e1, k1⟩ := L.c p (by omega)
    have gO1 := (cs_so B.S ⟨73, p, P1, e1⟩).1.1
    have es : Int32.ofNat cnt - 1 = Int32.ofNat (cnt - 1) := nn_sub (a := cnt) (b := 1) (by omega)
    have le : (cnt - 1 ≤ p) = False := eq_false (by omega)
    have ei : Int32.ofNat p + 1 = Int32.ofNat (p + 1) := nn_add (a := p) (b := 1)
    have e11 : ((-1 : Int32) = -1) = True := eq_true rfl
    have e10 : ((1 : Int32) = 0) = False := by decide
    have e00 : ((0 : Int32) = 0) = True := by decide
    cases ec : cl p with
    | none =>
      have nvp : ¬ VI G cl fst oth p := by
        unfold VI
        rw [ec]
        rintro (z | z)
        · exact z.1 rfl
        · exact z.2.1 rfl
      obtain ⟨h', b', x, B', q1, q2, q3, run⟩ := ih (p + 1) h (by omega) B H i0 L f12 (fun q hq => by
        by_cases e : q = p
        · rw [e]; exact nvp
        · exact nv q (by omega))
      refine ⟨h', b', x, B', q1, q2, q3, fun Q => ?_⟩
      rw [← run Q]
      rw [ec] at k1
      have z1 : mh_i h o1 0 = 1 := k1.1.z
      clear EF hI hX B H L F S D ih run x B' q1 k1
      simp (disch := omega) only [s_204_0, s_204_1, s_204_4, s_204_7, s_204_8, s_204_11, s_204_12, s_204_13, s_204_14, s_204_17, s_204_18, s_204_19, s_204_22, s_204_23, s_204_26, s_204_29, s_204_32, s_204_33, s_204_35, s_204_38, s_204_41, s_204_42, s_204_45, s_204_46, s_204_47, s_204_50, s_204_53, s_204_54, s_204_56, s_204_59, s_204_60, s_204_62, s_204_63, s_204_66, s_204_69, s_204_70, s_204_71, s_204_74, s_204_75, s_204_78, s_204_79, s_204_82, s_204_83, s_204_86, s_204_87, s_204_88, s_204_91, s_204_94, s_204_95, s_204_96, s_204_99, s_204_102, s_204_103, s_204_104, s_204_107, s_204_110, s_204_113, s_204_114, s_204_117, e_204, s_204_61, mv_i_1, mv_l_1, mv_a_1, mv_a_2, mv_a_3, mk2_n, mk2_i, mk2_l, mk2_a, mk2_u, mk2_x, mB_T, mB_F, mS_cons, mS_nil, mSB_T, mSB_F, mca_nil, mca_i, mca_l, mca_r, mca_u, mca_x, mcat_i, mcat_l, mcat_r, mcat_u, mcat_x, mK_some, mK_none, va_rf_s, va_rf_n, lgc_eq, lgc_lt, lgc_gt, lgc_ge, lgc_le, mrd_104, mrd_105, mrd_106, mrd_107, true_and, and_true, and_self, false_and, and_false, true_or, or_true, false_or, or_false, not_true_eq_false, not_false_eq_true, mgb, mga, mgr, mN, reduceCtorEq, ↓reduceIte, eq_self, ge_iff_le, gt_iff_lt, hk_si, hk_sj, hk_sr, hl_si, hl_sj, hl_sr, hn_si, hn_sj, hn_sr, hs_si, hs_sj, hs_sr, hi_sj, hi_sr, hj_si, hj_sr, hr_si, hr_sj, hi_si, hj_sj, hr_sr, mg_si, mg_sj, mg_sr, Nat.reduceAdd, Nat.reduceMul, Nat.reduceSub, Nat.reduceLT, Nat.reduceGT, Nat.reduceEqDiff, Nat.reduceLeDiff, Nat.left_eq_add, Nat.add_eq_left, Nat.reduceMod, Nat.reduceDiv, Nat.succ_ne_self, g0, t2, t6, g2, c2, es, nn_le, le, f12, e11, g73, g73', l73, e1, gO1, z1, e10, ei, nn_mxT, nn_clamp]
    | some A =>
      obtain ⟨h1, x, x1, B1, w1, w2, c1⟩ := v_205 (d := d) EF hI B H i0 L D S hp ec
      have z1 : mh_i h o1 0 = 0 := by
        rw [ec] at k1
        exact k1.1.z
      have H1 := PH_s B x1 (fun _ _ z => z.elim) H
      have L1 := CLH_s B x1 (fun b j z => by omega) (fun _ _ z => z.elim) L
      have i1 := hI h h1 _ _ B x1 (fun _ _ z => z.elim) i0
      have F1 := B1.F
      have g01 := F1.g 0 11 15 (by decide +kernel)
      have f12' : mh_i h1 0 12 = -1 := by rw [x1.ii 0 11 12 g0 (by decide) (by decide) (by unfold eff; omega) (fun z => z)]; exact f12
      have f11' : mh_i h1 0 11 = mh_i h 0 11 := x1.ii 0 11 11 g0 (by decide) (by decide) (by unfold eff; omega) (fun z => z)
      rcases w1 with w1 | w1
      · have vp := w2.mp w1
        obtain ⟨x2, B2⟩ := zS_G (W := fun b j => b = 0 ∧ j = 12) B1 (fG_si (v := Int32.ofNat p) (a := 0) (k := 12) ⟨rfl, rfl⟩) (fun b j z => by unfold aX; omega)
        refine ⟨_, p, zS_t (zS_w x1 (fun _ _ z => z) (fun _ _ z => z.elim)) (zS_w x2 (fun _ _ z => z.elim) (fun b j z => by unfold jgU; omega)), B2, ⟨by omega, fun q _ q2 z => Nat.le_of_not_lt (fun y => nv q y z), Or.inr ⟨Nat.zero_le _, by omega, vp⟩⟩, by rw [hi_si, if_neg (by omega)]; exact f11', by rw [hi_si, if_pos ⟨rfl, rfl⟩, if_neg (by omega)], fun Q => ?_⟩
        rw [if_neg (by omega)]
        subst w1
        have t21 := F1.f 0 2 2 (by decide +kernel)
        have g21 := F1.g 2 4 20 (by decide +kernel)
        have c21 := H1.c
        have em : (Int32.ofNat p = -1) = False := nn_m1 (by omega)
        by_cases c : p + 1 = cnt - 1
        · have le2 : (cnt - 1 ≤ p + 1) = True := eq_true (by omega)
          clear EF hI hX B H L F S D ih B1 B2 x1 x2 H1 L1 i1 F1 k1 w2 vp
          simp (disch := omega) only [s_204_0, s_204_1, s_204_4, s_204_7, s_204_8, s_204_11, s_204_12, s_204_13, s_204_14, s_204_17, s_204_18, s_204_19, s_204_22, s_204_23, s_204_26, s_204_29, s_204_32, s_204_33, s_204_35, s_204_38, s_204_41, s_204_42, s_204_45, s_204_46, s_204_47, s_204_50, s_204_53, s_204_54, s_204_56, s_204_59, s_204_60, s_204_61, s_204_62, s_204_63, s_204_66, s_204_69, s_204_70, s_204_71, s_204_74, s_204_75, s_204_78, s_204_79, s_204_82, s_204_83, s_204_86, s_204_87, s_204_88, s_204_91, s_204_94, s_204_95, s_204_96, s_204_99, s_204_102, s_204_103, s_204_104, s_204_107, s_204_110, s_204_113, s_204_114, s_204_117, e_204, mv_i_1, mv_l_1, mv_a_1, mv_a_2, mv_a_3, mk2_n, mk2_i, mk2_l, mk2_a, mk2_u, mk2_x, mB_T, mB_F, mS_cons, mS_nil, mSB_T, mSB_F, mca_nil, mca_i, mca_l, mca_r, mca_u, mca_x, mcat_i, mcat_l, mcat_r, mcat_u, mcat_x, mK_some, mK_none, va_rf_s, va_rf_n, lgc_eq, lgc_lt, lgc_gt, lgc_ge, lgc_le, mrd_104, mrd_105, mrd_106, mrd_107, true_and, and_true, and_self, false_and, and_false, true_or, or_true, false_or, or_false, not_true_eq_false, not_false_eq_true, mgb, mga, mgr, mN, reduceCtorEq, ↓reduceIte, eq_self, ge_iff_le, gt_iff_lt, hk_si, hk_sj, hk_sr, hl_si, hl_sj, hl_sr, hn_si, hn_sj, hn_sr, hs_si, hs_sj, hs_sr, hi_sj, hi_sr, hj_si, hj_sr, hr_si, hr_sj, hi_si, hj_sj, hr_sr, mg_si, mg_sj, mg_sr, Nat.reduceAdd, Nat.reduceMul, Nat.reduceSub, Nat.reduceLT, Nat.reduceGT, Nat.reduceEqDiff, Nat.reduceLeDiff, Nat.left_eq_add, Nat.add_eq_left, Nat.reduceMod, Nat.reduceDiv, Nat.succ_ne_self, g0, t2, t6, g2, c2, es, nn_le, le, f12, e11, g73, g73', l73, e1, gO1, z1, e00, c1, g01, t21, g21, c21, ei, le2, nn_mxT, nn_clamp]
        · have le2 : (cnt - 1 ≤ p + 1) = False := eq_false (by omega)
          clear EF hI hX B H L F S D ih B1 B2 x1 x2 H1 L1 i1 F1 k1 w2 vp
          simp (disch := omega) only [s_204_0, s_204_1, s_204_4, s_204_7, s_204_8, s_204_11, s_204_12, s_204_13, s_204_14, s_204_17, s_204_18, s_204_19, s_204_22, s_204_23, s_204_26, s_204_29, s_204_32, s_204_33, s_204_35, s_204_38, s_204_41, s_204_42, s_204_45, s_204_46, s_204_47, s_204_50, s_204_53, s_204_54, s_204_56, s_204_59, s_204_60, s_204_61, s_204_62, s_204_63, s_204_66, s_204_69, s_204_70, s_204_71, s_204_74, s_204_75, s_204_78, s_204_79, s_204_82, s_204_83, s_204_86, s_204_87, s_204_88, s_204_91, s_204_94, s_204_95, s_204_96, s_204_99, s_204_102, s_204_103, s_204_104, s_204_107, s_204_110, s_204_113, s_204_114, s_204_117, e_204, mv_i_1, mv_l_1, mv_a_1, mv_a_2, mv_a_3, mk2_n, mk2_i, mk2_l, mk2_a, mk2_u, mk2_x, mB_T, mB_F, mS_cons, mS_nil, mSB_T, mSB_F, mca_nil, mca_i, mca_l, mca_r, mca_u, mca_x, mcat_i, mcat_l, mcat_r, mcat_u, mcat_x, mK_some, mK_none, va_rf_s, va_rf_n, lgc_eq, lgc_lt, lgc_gt, lgc_ge, lgc_le, mrd_104, mrd_105, mrd_106, mrd_107, true_and, and_true, and_self, false_and, and_false, true_or, or_true, false_or, or_false, not_true_eq_false, not_false_eq_true, mgb, mga, mgr, mN, reduceCtorEq, ↓reduceIte, eq_self, ge_iff_le, gt_iff_lt, hk_si, hk_sj, hk_sr, hl_si, hl_sj, hl_sr, hn_si, hn_sj, hn_sr, hs_si, hs_sj, hs_sr, hi_sj, hi_sr, hj_si, hj_sr, hr_si, hr_sj, hi_si, hj_sj, hr_sr, mg_si, mg_sj, mg_sr, Nat.reduceAdd, Nat.reduceMul, Nat.reduceSub, Nat.reduceLT, Nat.reduceGT, Nat.reduceEqDiff, Nat.reduceLeDiff, Nat.left_eq_add, Nat.add_eq_left, Nat.reduceMod, Nat.reduceDiv, Nat.succ_ne_self, g0, t2, t6, g2, c2, es, nn_le, le, f12, e11, g73, g73', l73, e1, gO1, z1, e00, c1, g01, t21, g21, c21, ei, le2, em, nn_mxT, nn_clamp]
      · have nvp : ¬ VI G cl fst oth p := fun z => by
          have := w2.mpr z
          rw [w1] at this
          exact absurd this (by decide)
        obtain ⟨h', b', x', B', q1, q2, q3, run⟩ := ih (p + 1) h1 (by omega) B1 H1 i1 L1 f12' (fun q hq => by
          by_cases e : q = p
          · rw [e]; exact nvp
          · exact nv q (by omega))
        refine ⟨h', b', zS_t (zS_w x1 (fun _ _ z => z) (fun _ _ z => z.elim)) x', B', q1, q2.trans f11', q3, fun Q => ?_⟩
        rw [← run Q]
        subst w1
        clear EF hI hX B H L F S D ih run x' B' q1 k1 B1 x1 H1 L1 i1 F1 w2 nvp
        simp (disch := omega) only [s_204_0, s_204_1, s_204_4, s_204_7, s_204_8, s_204_11, s_204_12, s_204_13, s_204_14, s_204_17, s_204_18, s_204_19, s_204_22, s_204_23, s_204_26, s_204_29, s_204_32, s_204_33, s_204_35, s_204_38, s_204_41, s_204_42, s_204_45, s_204_46, s_204_47, s_204_50, s_204_53, s_204_54, s_204_56, s_204_59, s_204_60, s_204_62, s_204_63, s_204_66, s_204_69, s_204_70, s_204_71, s_204_74, s_204_75, s_204_78, s_204_79, s_204_82, s_204_83, s_204_86, s_204_87, s_204_88, s_204_91, s_204_94, s_204_95, s_204_96, s_204_99, s_204_102, s_204_103, s_204_104, s_204_107, s_204_110, s_204_113, s_204_114, s_204_117, e_204, s_204_61, mv_i_1, mv_l_1, mv_a_1, mv_a_2, mv_a_3, mk2_n, mk2_i, mk2_l, mk2_a, mk2_u, mk2_x, mB_T, mB_F, mS_cons, mS_nil, mSB_T, mSB_F, mca_nil, mca_i, mca_l, mca_r, mca_u, mca_x, mcat_i, mcat_l, mcat_r, mcat_u, mcat_x, mK_some, mK_none, va_rf_s, va_rf_n, lgc_eq, lgc_lt, lgc_gt, lgc_ge, lgc_le, mrd_104, mrd_105, mrd_106, mrd_107, true_and, and_true, and_self, false_and, and_false, true_or, or_true, false_or, or_false, not_true_eq_false, not_false_eq_true, mgb, mga, mgr, mN, reduceCtorEq, ↓reduceIte, eq_self, ge_iff_le, gt_iff_lt, hk_si, hk_sj, hk_sr, hl_si, hl_sj, hl_sr, hn_si, hn_sj, hn_sr, hs_si, hs_sj, hs_sr, hi_sj, hi_sr, hj_si, hj_sr, hr_si, hr_sj, hi_si, hj_sj, hr_sr, mg_si, mg_sj, mg_sr, Nat.reduceAdd, Nat.reduceMul, Nat.reduceSub, Nat.reduceLT, Nat.reduceGT, Nat.reduceEqDiff, Nat.reduceLeDiff, Nat.left_eq_add, Nat.add_eq_left, Nat.reduceMod, Nat.reduceDiv, Nat.succ_ne_self, g0, t2, t6, g2, c2, es, nn_le, le, f12, e11, g73, g73', l73, e1, gO1, z1, e00, c1, e10, ei, nn_mxT, nn_clamp]
/-- judge, where it isn't judged yet -/
theorem v_204 (EF : EFF Y C E TT UU SC SP nC nE nS G cnt I) (hI : hIp Y C E TT UU SC SP nC nE nS I) (hX : ∀ (h h1 : mh_H) (V U : Nat → Nat → Prop), BS h Y C E TT UU SC SP nC nE nS → zS V U h h1 → (∀ b j, U b j → aX h b) → I h → I h1) (D : DMS G fst oth cnt) (S : CSH G cnt cl) (B : BS h Y C E TT UU SC SP nC nE nS) (H : PH h G cnt) (i0 : I h) (L : CLH h G cnt cl fst oth) (f11 : mh_i h 0 11 = 0) {m : Bool} (f3 : mh_i h 53 3 = kb m) : ∃ h' v, JV G cnt cl fst oth m v ∧ zS (fun b _ => b = 34 ∨ b = 51) jgU h h' ∧ BS h' Y C E TT UU SC SP nC nE nS ∧ mh_i h' 0 11 = 1 ∧ mh_i h' 0 12 = v ∧ ∀ Q, mcall (d + 7) 204 [.ref 0] h Q = Q (some (.int v)) h' := by
  have cb := H.b
  have F := B.F
  have g0 := F.g 0 11 15 (by decide +kernel)
  have t2 := F.f 0 2 2 (by decide +kernel)
  have t4 := F.f 0 4 53 (by decide +kernel)
  have t6 := F.f 0 6 73 (by decide +kernel)
  have g2 := F.g 2 4 20 (by decide +kernel)
  have g53 := F.g 53 0 17 (by decide +kernel)
  have c2 := H.c
  have g73 := (F.g 73 104 250 (by decide +kernel)).1
  have g73' := (F.g 73 104 250 (by decide +kernel)).2
  have l73 := F.l 73 104 250 (by decide +kernel)
  have P1 : isPl 73 0 := by unfold isPl; omega
  obtain ⟨o1, e1, k1⟩ := L.c 0 (by omega)
  have gO1 := (cs_so B.S ⟨73, 0, P1, e1⟩).1.1
  have a1 := (cs_so B.S ⟨73, 0, P1, e1⟩).2
  have no1 : ¬ o1 = 0 := by unfold cAd at a1; omega
  obtain ⟨h1, eh⟩ : ∃ h1, mh_si (mh_si h 0 11 1) 0 12 (-1) = h1 := ⟨_, rfl⟩
  have y1 : fG jgU h h1 := by rw [← eh]; exact fG_t (fG_si ⟨rfl, Or.inl rfl⟩) (fG_si ⟨rfl, Or.inr rfl⟩)
  obtain ⟨x1, B1⟩ := zS_G B y1 jgX
  have a11 : mh_i h1 0 11 = 1 := by rw [← eh, hi_si, if_neg (by omega), hi_si, if_pos ⟨rfl, rfl⟩]
  have a12 : mh_i h1 0 12 = -1 := by rw [← eh, hi_si, if_pos ⟨rfl, rfl⟩]
  have e10 : ((1 : Int32) = 0) = False := by decide
  have e00 : ((0 : Int32) = 0) = True := by decide
  have es : Int32.ofNat cnt - 1 = Int32.ofNat (cnt - 1) := nn_sub (a := cnt) (b := 1) (by omega)
  have m3 : (Int8.ofInt (-3)).toInt32 = -3 := by decide
  have m2 : (Int8.ofInt (-2)).toInt32 = -2 := by decide
  have n3 : ((-3 : Int32) = -1) = False := by decide
  have n2 : ((-2 : Int32) = -1) = False := by decide
  have e0n : (0 : Int32) = Int32.ofNat 0 := rfl
  have lz : ∀ b : Prop, ((cnt - 1 ≤ 0) = b) → (Int32.ofNat (cnt - 1) ≤ 0) = b := fun b z => by rw [e0n, nn_le (by omega) (by omega)]; exact z
  have mx0 : mx (0 : Int32) 250 = True := nn_mxT (a := 0) (n := 250) (by omega) (by omega)
  have cl0 : (0 : Int32).toNatClampNeg = 0 := rfl
  cases m with
  | true =>
    obtain ⟨x2, B2⟩ := zS_G (W := jgU) B1 (fG_si (v := -3) (a := 0) (k := 12) ⟨rfl, Or.inr rfl⟩) jgX
    refine ⟨_, -3, Or.inl ⟨rfl, rfl⟩, zS_t (zS_w x1 (fun _ _ z => z.elim) (fun _ _ z => z)) (zS_w x2 (fun _ _ z => z.elim) (fun _ _ z => z)), B2, by rw [hi_si, if_neg (by omega)]; exact a11, by rw [hi_si, if_pos ⟨rfl, rfl⟩], fun Q => ?_⟩
    have f3' : mh_i h 53 3 = 1 := f3
    subst eh
    by_cases c : (cnt - 1 ≤ 0)
    · have le := lz _ (eq_true c)
      clear EF hI hX B H L F S D B1 B2 x1 x2 k1 y1 f3 c
      simp (disch := omega) only [s_204_0, s_204_1, s_204_4, s_204_7, s_204_8, s_204_11, s_204_12, s_204_13, s_204_14, s_204_17, s_204_18, s_204_19, s_204_22, s_204_23, s_204_26, s_204_29, s_204_32, s_204_33, s_204_35, s_204_38, s_204_41, s_204_42, s_204_45, s_204_46, s_204_47, s_204_50, s_204_53, s_204_54, s_204_56, s_204_59, s_204_60, s_204_61, s_204_62, s_204_63, s_204_66, s_204_69, s_204_70, s_204_71, s_204_74, s_204_75, s_204_78, s_204_79, s_204_82, s_204_83, s_204_86, s_204_87, s_204_88, s_204_91, s_204_94, s_204_95, s_204_96, s_204_99, s_204_102, s_204_103, s_204_104, s_204_107, s_204_110, s_204_113, s_204_114, s_204_117, e_204, mv_i_1, mv_l_1, mv_a_1, mv_a_2, mv_a_3, mk2_n, mk2_i, mk2_l, mk2_a, mk2_u, mk2_x, mB_T, mB_F, mS_cons, mS_nil, mSB_T, mSB_F, mca_nil, mca_i, mca_l, mca_r, mca_u, mca_x, mcat_i, mcat_l, mcat_r, mcat_u, mcat_x, mK_some, mK_none, va_rf_s, va_rf_n, lgc_eq, lgc_lt, lgc_gt, lgc_ge, lgc_le, mrd_104, mrd_105, mrd_106, mrd_107, true_and, and_true, and_self, false_and, and_false, true_or, or_true, false_or, or_false, not_true_eq_false, not_false_eq_true, mgb, mga, mgr, mN, reduceCtorEq, ↓reduceIte, eq_self, ge_iff_le, gt_iff_lt, hk_si, hk_sj, hk_sr, hl_si, hl_sj, hl_sr, hn_si, hn_sj, hn_sr, hs_si, hs_sj, hs_sr, hi_sj, hi_sr, hj_si, hj_sr, hr_si, hr_sj, hi_si, hj_sj, hr_sr, mg_si, mg_sj, mg_sr, Nat.reduceAdd, Nat.reduceMul, Nat.reduceSub, Nat.reduceLT, Nat.reduceGT, Nat.reduceEqDiff, Nat.reduceLeDiff, Nat.left_eq_add, Nat.add_eq_left, Nat.reduceMod, Nat.reduceDiv, Nat.succ_ne_self, g0, t2, t4, t6, g2, g53, c2, es, le, f11, f3', e10, e00, m3, n3, mx0, cl0]
    · have le := lz _ (eq_false c)
      clear EF hI hX B H L F S D B1 B2 x1 x2 k1 y1 f3 c
      simp (disch := omega) only [s_204_0, s_204_1, s_204_4, s_204_7, s_204_8, s_204_11, s_204_12, s_204_13, s_204_14, s_204_17, s_204_18, s_204_19, s_204_22, s_204_23, s_204_26, s_204_29, s_204_32, s_204_33, s_204_35, s_204_38, s_204_41, s_204_42, s_204_45, s_204_46, s_204_47, s_204_50, s_204_53, s_204_54, s_204_56, s_204_59, s_204_60, s_204_61, s_204_62, s_204_63, s_204_66, s_204_69, s_204_70, s_204_71, s_204_74, s_204_75, s_204_78, s_204_79, s_204_82, s_204_83, s_204_86, s_204_87, s_204_88, s_204_91, s_204_94, s_204_95, s_204_96, s_204_99, s_204_102, s_204_103, s_204_104, s_204_107, s_204_110, s_204_113, s_204_114, s_204_117, e_204, mv_i_1, mv_l_1, mv_a_1, mv_a_2, mv_a_3, mk2_n, mk2_i, mk2_l, mk2_a, mk2_u, mk2_x, mB_T, mB_F, mS_cons, mS_nil, mSB_T, mSB_F, mca_nil, mca_i, mca_l, mca_r, mca_u, mca_x, mcat_i, mcat_l, mcat_r, mcat_u, mcat_x, mK_some, mK_none, va_rf_s, va_rf_n, lgc_eq, lgc_lt, lgc_gt, lgc_ge, lgc_le, mrd_104, mrd_105, mrd_106, mrd_107, true_and, and_true, and_self, false_and, and_false, true_or, or_true, false_or, or_false, not_true_eq_false, not_false_eq_true, mgb, mga, mgr, mN, reduceCtorEq, ↓reduceIte, eq_self, ge_iff_le, gt_iff_lt, hk_si, hk_sj, hk_sr, hl_si, hl_sj, hl_sr, hn_si, hn_sj, hn_sr, hs_si, hs_sj, hs_sr, hi_sj, hi_sr, hj_si, hj_sr, hr_si, hr_sj, hi_si, hj_sj, hr_sr, mg_si, mg_sj, mg_sr, Nat.reduceAdd, Nat.reduceMul, Nat.reduceSub, Nat.reduceLT, Nat.reduceGT, Nat.reduceEqDiff, Nat.reduceLeDiff, Nat.left_eq_add, Nat.add_eq_left, Nat.reduceMod, Nat.reduceDiv, Nat.succ_ne_self, g0, t2, t4, t6, g2, g53, c2, es, le, f11, f3', e10, e00, m3, n3, mx0, cl0]
  | false =>
    have f3' : mh_i h 53 3 = 0 := f3
    cases ec : cl 0 with
    | none =>
      obtain ⟨x2, B2⟩ := zS_G (W := jgU) B1 (fG_si (v := -2) (a := 0) (k := 12) ⟨rfl, Or.inr rfl⟩) jgX
      refine ⟨_, -2, Or.inr (Or.inl ⟨rfl, ec, rfl⟩), zS_t (zS_w x1 (fun _ _ z => z.elim) (fun _ _ z => z)) (zS_w x2 (fun _ _ z => z.elim) (fun _ _ z => z)), B2, by rw [hi_si, if_neg (by omega)]; exact a11, by rw [hi_si, if_pos ⟨rfl, rfl⟩], fun Q => ?_⟩
      rw [ec] at k1
      have z1 : mh_i h o1 0 = 1 := k1.1.z
      subst eh
      by_cases c : (cnt - 1 ≤ 0)
      · have le := lz _ (eq_true c)
        clear EF hI hX B H L F S D B1 B2 x1 x2 k1 y1 f3 c
        simp (disch := omega) only [s_204_0, s_204_1, s_204_4, s_204_7, s_204_8, s_204_11, s_204_12, s_204_13, s_204_14, s_204_17, s_204_18, s_204_19, s_204_22, s_204_23, s_204_26, s_204_29, s_204_32, s_204_33, s_204_35, s_204_38, s_204_41, s_204_42, s_204_45, s_204_46, s_204_47, s_204_50, s_204_53, s_204_54, s_204_56, s_204_59, s_204_60, s_204_61, s_204_62, s_204_63, s_204_66, s_204_69, s_204_70, s_204_71, s_204_74, s_204_75, s_204_78, s_204_79, s_204_82, s_204_83, s_204_86, s_204_87, s_204_88, s_204_91, s_204_94, s_204_95, s_204_96, s_204_99, s_204_102, s_204_103, s_204_104, s_204_107, s_204_110, s_204_113, s_204_114, s_204_117, e_204, mv_i_1, mv_l_1, mv_a_1, mv_a_2, mv_a_3, mk2_n, mk2_i, mk2_l, mk2_a, mk2_u, mk2_x, mB_T, mB_F, mS_cons, mS_nil, mSB_T, mSB_F, mca_nil, mca_i, mca_l, mca_r, mca_u, mca_x, mcat_i, mcat_l, mcat_r, mcat_u, mcat_x, mK_some, mK_none, va_rf_s, va_rf_n, lgc_eq, lgc_lt, lgc_gt, lgc_ge, lgc_le, mrd_104, mrd_105, mrd_106, mrd_107, true_and, and_true, and_self, false_and, and_false, true_or, or_true, false_or, or_false, not_true_eq_false, not_false_eq_true, mgb, mga, mgr, mN, reduceCtorEq, ↓reduceIte, eq_self, ge_iff_le, gt_iff_lt, hk_si, hk_sj, hk_sr, hl_si, hl_sj, hl_sr, hn_si, hn_sj, hn_sr, hs_si, hs_sj, hs_sr, hi_sj, hi_sr, hj_si, hj_sr, hr_si, hr_sj, hi_si, hj_sj, hr_sr, mg_si, mg_sj, mg_sr, Nat.reduceAdd, Nat.reduceMul, Nat.reduceSub, Nat.reduceLT, Nat.reduceGT, Nat.reduceEqDiff, Nat.reduceLeDiff, Nat.left_eq_add, Nat.add_eq_left, Nat.reduceMod, Nat.reduceDiv, Nat.succ_ne_self, g0, t2, t4, t6, g2, g53, c2, es, le, f11, f3', e10, e00, m2, n2, mx0, cl0, g73, g73', l73, e1, gO1, no1, z1, nn_mxT, nn_clamp]
      · have le := lz _ (eq_false c)
        clear EF hI hX B H L F S D B1 B2 x1 x2 k1 y1 f3 c
        simp (disch := omega) only [s_204_0, s_204_1, s_204_4, s_204_7, s_204_8, s_204_11, s_204_12, s_204_13, s_204_14, s_204_17, s_204_18, s_204_19, s_204_22, s_204_23, s_204_26, s_204_29, s_204_32, s_204_33, s_204_35, s_204_38, s_204_41, s_204_42, s_204_45, s_204_46, s_204_47, s_204_50, s_204_53, s_204_54, s_204_56, s_204_59, s_204_60, s_204_61, s_204_62, s_204_63, s_204_66, s_204_69, s_204_70, s_204_71, s_204_74, s_204_75, s_204_78, s_204_79, s_204_82, s_204_83, s_204_86, s_204_87, s_204_88, s_204_91, s_204_94, s_204_95, s_204_96, s_204_99, s_204_102, s_204_103, s_204_104, s_204_107, s_204_110, s_204_113, s_204_114, s_204_117, e_204, mv_i_1, mv_l_1, mv_a_1, mv_a_2, mv_a_3, mk2_n, mk2_i, mk2_l, mk2_a, mk2_u, mk2_x, mB_T, mB_F, mS_cons, mS_nil, mSB_T, mSB_F, mca_nil, mca_i, mca_l, mca_r, mca_u, mca_x, mcat_i, mcat_l, mcat_r, mcat_u, mcat_x, mK_some, mK_none, va_rf_s, va_rf_n, lgc_eq, lgc_lt, lgc_gt, lgc_ge, lgc_le, mrd_104, mrd_105, mrd_106, mrd_107, true_and, and_true, and_self, false_and, and_false, true_or, or_true, false_or, or_false, not_true_eq_false, not_false_eq_true, mgb, mga, mgr, mN, reduceCtorEq, ↓reduceIte, eq_self, ge_iff_le, gt_iff_lt, hk_si, hk_sj, hk_sr, hl_si, hl_sj, hl_sr, hn_si, hn_sj, hn_sr, hs_si, hs_sj, hs_sr, hi_sj, hi_sr, hj_si, hj_sr, hr_si, hr_sj, hi_si, hj_sj, hr_sr, mg_si, mg_sj, mg_sr, Nat.reduceAdd, Nat.reduceMul, Nat.reduceSub, Nat.reduceLT, Nat.reduceGT, Nat.reduceEqDiff, Nat.reduceLeDiff, Nat.left_eq_add, Nat.add_eq_left, Nat.reduceMod, Nat.reduceDiv, Nat.succ_ne_self, g0, t2, t4, t6, g2, g53, c2, es, le, f11, f3', e10, e00, m2, n2, mx0, cl0, g73, g73', l73, e1, gO1, no1, z1, nn_mxT, nn_clamp]
    | some A =>
      have H1 := PH_sX B x1 jgX H
      have L1 := CLH_s B x1 (fun b j z => z.elim) jgX L
      have i1 := hX h h1 _ _ B x1 jgX i0
      obtain ⟨h', b', x2, B2, q1, q2, q3, run⟩ := jg_l (d := d) EF hI hX D S (cnt - 1) 0 h1 (by omega) B1 H1 i1 L1 a12 (fun q hq => by omega)
      refine ⟨h', _, Or.inr (Or.inr ⟨rfl, by rw [ec]; exact (fun z => by cases z), b', q1, rfl⟩), zS_t (zS_w x1 (fun _ _ z => z.elim) (fun _ _ z => z)) x2, B2, q2.trans a11, q3, fun Q => ?_⟩
      rw [← run Q]
      rw [ec] at k1
      have z1 : mh_i h o1 0 = 0 := k1.1.z
      subst eh
      clear EF hI hX B H L F S D B1 B2 x1 x2 k1 y1 f3 H1 L1 i1 run q1 q2 q3
      simp (disch := omega) only [s_204_0, s_204_1, s_204_4, s_204_7, s_204_8, s_204_11, s_204_12, s_204_13, s_204_14, s_204_17, s_204_18, s_204_19, s_204_22, s_204_23, s_204_26, s_204_29, s_204_32, s_204_33, s_204_35, s_204_38, s_204_41, s_204_42, s_204_45, s_204_46, s_204_47, s_204_50, s_204_53, s_204_54, s_204_56, s_204_59, s_204_60, s_204_62, s_204_63, s_204_66, s_204_69, s_204_70, s_204_71, s_204_74, s_204_75, s_204_78, s_204_79, s_204_82, s_204_83, s_204_86, s_204_87, s_204_88, s_204_91, s_204_94, s_204_95, s_204_96, s_204_99, s_204_102, s_204_103, s_204_104, s_204_107, s_204_110, s_204_113, s_204_114, s_204_117, e_204, mv_i_1, mv_l_1, mv_a_1, mv_a_2, mv_a_3, mk2_n, mk2_i, mk2_l, mk2_a, mk2_u, mk2_x, mB_T, mB_F, mS_cons, mS_nil, mSB_T, mSB_F, mca_nil, mca_i, mca_l, mca_r, mca_u, mca_x, mcat_i, mcat_l, mcat_r, mcat_u, mcat_x, mK_some, mK_none, va_rf_s, va_rf_n, lgc_eq, lgc_lt, lgc_gt, lgc_ge, lgc_le, mrd_104, mrd_105, mrd_106, mrd_107, true_and, and_true, and_self, false_and, and_false, true_or, or_true, false_or, or_false, not_true_eq_false, not_false_eq_true, mgb, mga, mgr, mN, reduceCtorEq, ↓reduceIte, eq_self, ge_iff_le, gt_iff_lt, hk_si, hk_sj, hk_sr, hl_si, hl_sj, hl_sr, hn_si, hn_sj, hn_sr, hs_si, hs_sj, hs_sr, hi_sj, hi_sr, hj_si, hj_sr, hr_si, hr_sj, hi_si, hj_sj, hr_sr, mg_si, mg_sj, mg_sr, Nat.reduceAdd, Nat.reduceMul, Nat.reduceSub, Nat.reduceLT, Nat.reduceGT, Nat.reduceEqDiff, Nat.reduceLeDiff, Nat.left_eq_add, Nat.add_eq_left, Nat.reduceMod, Nat.reduceDiv, Nat.succ_ne_self, g0, t2, t4, t6, g2, g53, f11, f3', e10, e00, mx0, cl0, g73, g73', l73, e1, gO1, no1, z1, nn_mxT, nn_clamp]
      rfl
/-- judge, where it is -/
theorem v_204j (B : BS h Y C E TT UU SC SP nC nE nS) (f11 : mh_i h 0 11 = 1) : ∀ Q, mcall d 204 [.ref 0] h Q = Q (some (.int (mh_i h 0 12))) h := fun Q => by
  have g0 := B.F.g 0 11 15 (by decide +kernel)
  have e10 : ((1 : Int32) = 0) = False := by decide
  clear B
  simp (disch := omega) only [s_204_0, s_204_1, s_204_4, s_204_7, s_204_8, s_204_11, s_204_12, s_204_13, s_204_14, s_204_17, s_204_18, s_204_19, s_204_22, s_204_23, s_204_26, s_204_29, s_204_32, s_204_33, s_204_35, s_204_38, s_204_41, s_204_42, s_204_45, s_204_46, s_204_47, s_204_50, s_204_53, s_204_54, s_204_56, s_204_59, s_204_60, s_204_61, s_204_62, s_204_63, s_204_66, s_204_69, s_204_70, s_204_71, s_204_74, s_204_75, s_204_78, s_204_79, s_204_82, s_204_83, s_204_86, s_204_87, s_204_88, s_204_91, s_204_94, s_204_95, s_204_96, s_204_99, s_204_102, s_204_103, s_204_104, s_204_107, s_204_110, s_204_113, s_204_114, s_204_117, e_204, mv_i_1, mv_l_1, mv_a_1, mv_a_2, mv_a_3, mk2_n, mk2_i, mk2_l, mk2_a, mk2_u, mk2_x, mB_T, mB_F, mS_cons, mS_nil, mSB_T, mSB_F, mca_nil, mca_i, mca_l, mca_r, mca_u, mca_x, mcat_i, mcat_l, mcat_r, mcat_u, mcat_x, mK_some, mK_none, va_rf_s, va_rf_n, lgc_eq, lgc_lt, lgc_gt, lgc_ge, lgc_le, mrd_104, mrd_105, mrd_106, mrd_107, true_and, and_true, and_self, false_and, and_false, true_or, or_true, false_or, or_false, not_true_eq_false, not_false_eq_true, mgb, mga, mgr, mN, reduceCtorEq, ↓reduceIte, eq_self, ge_iff_le, gt_iff_lt, hk_si, hk_sj, hk_sr, hl_si, hl_sj, hl_sr, hn_si, hn_sj, hn_sr, hs_si, hs_sj, hs_sr, hi_sj, hi_sr, hj_si, hj_sr, hr_si, hr_sj, hi_si, hj_sj, hr_sr, mg_si, mg_sj, mg_sr, Nat.reduceAdd, Nat.reduceMul, Nat.reduceSub, Nat.reduceLT, Nat.reduceGT, Nat.reduceEqDiff, Nat.reduceLeDiff, Nat.left_eq_add, Nat.add_eq_left, Nat.reduceMod, Nat.reduceDiv, Nat.succ_ne_self, g0, f11, e10]
end JGs
