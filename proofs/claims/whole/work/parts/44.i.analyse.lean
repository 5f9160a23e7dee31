set_option maxRecDepth 100000
/-! analyse, whole -/
section ANt
variable {d : Nat} {h h1 : mh_H} {s0 s1 o p e f T q cnt : Nat} {E : nv} {D : fd} {w0 : wd} {G : pgm} {J : pin} {X Y : Option ab}
/-- what it found: Knowns, alarms -/
def KF (e : Nat) (r : rs3) (q : Nat) : Option ab := if 4000 < wW r.2.1 then none else if q = e then o_keep 0 0 r.1 else wK r.2.1 q
def AF (e : Nat) (r : rs3) (q : Nat) : Int32 := if 4000 < wW r.2.1 then 0 else if q = e then 0 else wA r.2.1 q
/-- its end: unclaim -/
theorem an_d {K C : Nat → Option ab} {A : Nat → Int32} (B : AB h e D K C A) (he : e ≤ 249) {m : Bool} (f9 : mh_i h 115 9 = kb m) {x1 x3 : Option Value} : ∃ h', rq 0 aZ h h' ∧ RZ h' ∧ FT h' D ∧ (∀ q, q < 250 → RK h' (132 + 10 * q) (K q)) ∧ (∀ q, q ≤ e → RK h' (137 + 10 * q) (K q)) ∧ (∀ q, q < 250 → ∃ x, RK h' (137 + 10 * q) x) ∧ (∀ b, b < 132 → mh_i h' b = mh_i h b) ∧ mh_r h' = mh_r h ∧ (∀ q, q ≤ e → mh_i h' (137 + 10 * q) 2 = mh_i h (132 + 10 * q) 2) ∧ (∀ q, q < 250 → mh_i h' (132 + 10 * q) 2 = mh_i h (132 + 10 * q) 2) ∧ ∀ Q, mw (d + 3) 273 Q 152 [some (.ref 115), x1, some (.ref o), x3] [] h = Q (some (.int (kb (!m)))) h' := by
  obtain ⟨h', v, v1, x, kc', y2, -, run⟩ := u_274 (d := d) (cnt := e + 1) B.Z.F B.f (by omega) (fun q hq => B.k q (by omega)) (fun q hq => B.c q (by omega))
  have nW : ∀ b, ¬ (137 ≤ b ∧ b < 2644) → ¬ (∃ q, q < e + 1 ∧ kW (137 + 10 * q) b) := fun b hb ⟨q, q1, q2⟩ => by unfold kW at q2; omega
  have ii : ∀ b j, ¬ (137 ≤ b ∧ b < 2644) → mh_i h' b j = mh_i h b j := fun b j hb => (x.2.2.2.2.2 b (nW b hb)).1 j
  have er := x.2.2.1
  refine ⟨h', ?_, RZ_same B.Z x.1 x.2.1 x.2.2.2.1 (fun _ _ _ => by rw [er]), FT_same B.F x.1 x.2.1 x.2.2.2.1 er (fun c f hc _ => ii c f (by omega)), fun q hq => RK_fz (fz_fq x) (fun y hy j ⟨q', q1, q2⟩ => by unfold kW at q2; omega) (B.k q hq), fun q hq => kc' q (by omega), fun q hq => ?_, fun b hb => funext fun j => ii b j (by omega), er, fun q hq => y2 q (by omega), fun q hq => (x.2.2.2.2.2 _ (fun ⟨q', q1, q2⟩ => by unfold kW at q2; omega)).1 2, fun Q => ?_⟩
  · refine ⟨fR_w (fR_fq x) (fun b j _ ⟨q, q1, q2⟩ => Or.inr (Or.inr (Or.inr (Or.inr (Or.inr (Or.inr (Or.inr (Or.inr (Or.inr (Or.inr ⟨q, by omega, by unfold kW at q2; unfold kc; omega⟩)))))))))), fun y ⟨j, j1, j2, j3⟩ => Or.inl ⟨j, j1, j2, by rw [← er]; exact j3⟩, fun i a e => by rw [er]; exact e, fun i a e => Or.inl (by rw [← er]; exact e)⟩
  · by_cases c : q < e + 1
    · exact ⟨_, kc' q c⟩
    · exact ⟨_, RK_fz (fz_fq x) (fun y hy j ⟨q', q1, q2⟩ => by unfold kW at q2; omega) (B.c q hq)⟩
  · have g := B.Z.F.g 115 12 38 (by decide +kernel)
    have g' : mg h' 115 12 := (fq_mg x).mpr g
    have i9 : mh_i h' 115 9 = kb m := (ii _ _ (by omega)).trans f9
    have e00 : ((0 : Int32) = 0) = True := by decide
    have e10 : ((1 : Int32) = 0) = False := by decide
    have k1 : kb true = 1 := rfl
    have k0 : kb false = 0 := rfl
    have or01 : ((0 : Int32) = 0 ∨ (0 : Int32) = 1) = True := by decide
    have or11 : ((1 : Int32) = 0 ∨ (1 : Int32) = 1) = True := by decide
    clear B x kc' nW ii
    cases m with
    | true =>
      rw [k1] at i9
      show _ = Q (some (.int (kb false))) h'
      rw [k0]
      simp (disch := omega) only [s_273_0, s_273_1, s_273_4, s_273_5, s_273_6, s_273_9, s_273_10, s_273_11, s_273_14, s_273_15, s_273_16, s_273_19, s_273_20, s_273_21, s_273_24, s_273_27, s_273_28, s_273_29, s_273_30, s_273_31, s_273_34, s_273_35, s_273_36, s_273_39, s_273_40, s_273_43, s_273_43n, s_273_43x, s_273_44, s_273_45, s_273_48, s_273_49, s_273_50, s_273_51, s_273_52, s_273_55, s_273_56, s_273_57, s_273_58, s_273_61, s_273_62, s_273_65, s_273_66, s_273_69, s_273_70, s_273_71, s_273_72, s_273_73, s_273_74, s_273_77, s_273_78, s_273_81, s_273_82, s_273_83, s_273_84, s_273_85, s_273_86, s_273_89, s_273_90, s_273_93, s_273_94, s_273_95, s_273_96, s_273_97, s_273_100, s_273_101, s_273_104, s_273_105, s_273_108, s_273_109, s_273_110, s_273_111, s_273_112, s_273_113, s_273_116, s_273_119, s_273_120, s_273_121, s_273_122, s_273_123, s_273_126, s_273_129, s_273_130, s_273_133, s_273_134, s_273_135, s_273_136, s_273_139, s_273_140, s_273_143, s_273_144, s_273_145, s_273_146, s_273_149, s_273_152, s_273_153, s_273_156, s_273_157, s_273_158, s_273_161, s_273_164, s_273_165, s_273_168, s_273_169, e_273, mv_i_1, mv_l_1, mv_a_1, mv_a_2, mv_a_3, mk2_n, mk2_i, mk2_l, mk2_a, mk2_u, mk2_x, mB_T, mB_F, mS_cons, mS_nil, mSB_T, mSB_F, mca_nil, mca_i, mca_l, mca_r, mca_u, mca_x, mcat_i, mcat_l, mcat_r, mcat_u, mcat_x, mK_some, mK_none, va_rf_s, va_rf_n, lgc_eq, lgc_lt, lgc_gt, lgc_ge, lgc_le, mrd_104, mrd_105, mrd_106, mrd_107, true_and, and_true, and_self, false_and, and_false, true_or, or_true, false_or, or_false, not_true_eq_false, not_false_eq_true, mgb, mga, mgr, mN, reduceCtorEq, ↓reduceIte, eq_self, ge_iff_le, gt_iff_lt, Nat.reduceAdd, Nat.reduceMul, Nat.reduceSub, Nat.reduceLT, Nat.reduceGT, Nat.reduceEqDiff, Nat.reduceLeDiff, Nat.left_eq_add, Nat.add_eq_left, Nat.reduceMod, Nat.reduceDiv, Nat.succ_ne_self, g, g', run, i9, e10, or01]
    | false =>
      rw [k0] at i9
      show _ = Q (some (.int (kb true))) h'
      rw [k1]
      simp (disch := omega) only [s_273_0, s_273_1, s_273_4, s_273_5, s_273_6, s_273_9, s_273_10, s_273_11, s_273_14, s_273_15, s_273_16, s_273_19, s_273_20, s_273_21, s_273_24, s_273_27, s_273_28, s_273_29, s_273_30, s_273_31, s_273_34, s_273_35, s_273_36, s_273_39, s_273_40, s_273_43, s_273_43n, s_273_43x, s_273_44, s_273_45, s_273_48, s_273_49, s_273_50, s_273_51, s_273_52, s_273_55, s_273_56, s_273_57, s_273_58, s_273_61, s_273_62, s_273_65, s_273_66, s_273_69, s_273_70, s_273_71, s_273_72, s_273_73, s_273_74, s_273_77, s_273_78, s_273_81, s_273_82, s_273_83, s_273_84, s_273_85, s_273_86, s_273_89, s_273_90, s_273_93, s_273_94, s_273_95, s_273_96, s_273_97, s_273_100, s_273_101, s_273_104, s_273_105, s_273_108, s_273_109, s_273_110, s_273_111, s_273_112, s_273_113, s_273_116, s_273_119, s_273_120, s_273_121, s_273_122, s_273_123, s_273_126, s_273_129, s_273_130, s_273_133, s_273_134, s_273_135, s_273_136, s_273_139, s_273_140, s_273_143, s_273_144, s_273_145, s_273_146, s_273_149, s_273_152, s_273_153, s_273_156, s_273_157, s_273_158, s_273_161, s_273_164, s_273_165, s_273_168, s_273_169, e_273, mv_i_1, mv_l_1, mv_a_1, mv_a_2, mv_a_3, mk2_n, mk2_i, mk2_l, mk2_a, mk2_u, mk2_x, mB_T, mB_F, mS_cons, mS_nil, mSB_T, mSB_F, mca_nil, mca_i, mca_l, mca_r, mca_u, mca_x, mcat_i, mcat_l, mcat_r, mcat_u, mcat_x, mK_some, mK_none, va_rf_s, va_rf_n, lgc_eq, lgc_lt, lgc_gt, lgc_ge, lgc_le, mrd_104, mrd_105, mrd_106, mrd_107, true_and, and_true, and_self, false_and, and_false, true_or, or_true, false_or, or_false, not_true_eq_false, not_false_eq_true, mgb, mga, mgr, mN, reduceCtorEq, ↓reduceIte, eq_self, ge_iff_le, gt_iff_lt, Nat.reduceAdd, Nat.reduceMul, Nat.reduceSub, Nat.reduceLT, Nat.reduceGT, Nat.reduceEqDiff, Nat.reduceLeDiff, Nat.left_eq_add, Nat.add_eq_left, Nat.reduceMod, Nat.reduceDiv, Nat.succ_ne_self, g, g', run, i9, e00, or11]
/-- Analysis.analyse of the reference -/
theorem u_273 (Z : RZ h) (F : FT h D) (X : FX (mh_i h 93) (mh_i h 95) (mh_i h 97) D) (f13 : mh_i h 115 13 = Int32.ofNat D.c) (hc : 1 ≤ D.c) (K : ∀ q, q < 250 → ∃ x, RK h (132 + 10 * q) x) (C : ∀ q, q < 250 → ∃ x, RK h (137 + 10 * q) x) (hG : G.fx = fxJ J) (L : LW G J D f (D.t (D.c - 1)) 0 e (E00 D)) (he : e ≤ 249) (hsp : ∀ p, p < e → G.sp p ≤ 350) (hd : 4 * e + 840 ≤ d) : ∃ h' w0, wW w0 = 0 ∧ rq 0 aZ h h' ∧ RZ h' ∧ FT h' D ∧ (∀ q, q ≤ e → RK h' (132 + 10 * q) (KF e (DB G f 0 e (some A00) w0) q) ∧ RK h' (137 + 10 * q) (KF e (DB G f 0 e (some A00) w0) q) ∧ mh_i h' 118 q = AF e (DB G f 0 e (some A00) w0) q) ∧ (∀ q, q < 250 → (∃ x, RK h' (132 + 10 * q) x) ∧ ∃ x, RK h' (137 + 10 * q) x) ∧ (mh_i h' 93 = mh_i h 93 ∧ mh_i h' 95 = mh_i h 95 ∧ mh_i h' 97 = mh_i h 97) ∧ mh_i h' 115 7 = Int32.ofNat (e + 1) ∧ mh_i h' 115 13 = Int32.ofNat D.c ∧ mh_i h' 115 8 = Int32.ofNat (wW (DB G f 0 e (some A00) w0).2.1) ∧ mh_i h' 115 9 = kb (decide (4000 < wW (DB G f 0 e (some A00) w0).2.1)) ∧ mh_i h' 115 34 = 0 ∧ (wW (DB G f 0 e (some A00) w0).2.1 ≤ 4000 → ∀ q, q < e → cnQ G h' q ∧ mh_i h' (132 + 10 * q) 2 = Int32.ofNat (G.a q) ∧ mh_i h' (137 + 10 * q) 2 = Int32.ofNat (G.a q)) ∧ (mh_i h' 130 e = 0 ∧ mh_i h' 131 e = 0) ∧ ∀ Q, mcall (d + 1) 273 [.ref 115] h Q = Q (some (.int (kb (!(decide (4000 < wW (DB G f 0 e (some A00) w0).2.1)))))) h' := by
  obtain ⟨d, rfl⟩ : ∃ d', d = d' + 2 := ⟨d - 2, by omega⟩
  obtain ⟨h4, o, w0, hw0, x4, S4, r4, i7, i13, ⟨t1, t2, t3⟩, C4, run4⟩ := an_a (d := d + 2) Z F X f13 hc K C L he (by omega)
  have sp' : (DB G f 0 e (some A00) w0).2.2 ≤ 2046 := LW_sp hG L he hsp S4.sh hw0
  obtain ⟨y1, -, -, -, y5, y6⟩ := S4.A.X (D.c - 1) (by omega)
  obtain ⟨h5, B5, run5⟩ := (blk_all hG f).1 (D.t (D.c - 1)) 0 e (E00 D) L (d + 2) (D.b (D.c - 1)) 1 o (Int32.ofNat e) h4 (some A00) w0 S4 y6 y1 y5 (by omega) he (by omega)
  generalize hr : DB G f 0 e (some A00) w0 = r at *
  have J4 := S4.A.j
  have so4 := lv_sp S4.l
  have lo := sp_lo J4 so4
  have x45 : rq 0 aZ h4 h5 := aZ_sV B5.x (by omega) ⟨0, Nat.le_refl _, r4⟩
  have g4 := J4.a.g
  have f7 : mh_i h5 115 7 = Int32.ofNat (e + 1) := ((sV_lo J4 lo B5.x g4 (by omega) (by omega) (by omega)).1).trans i7
  have f13' : mh_i h5 115 13 = Int32.ofNat D.c := ((sV_lo J4 lo B5.x g4 (by omega) (by omega) (by omega)).1).trans i13
  obtain ⟨u1, u2, u3⟩ := sV_tr J4 lo B5.x
  have C5 : ∃ c : Nat → Option ab, ∀ q, q < 250 → RK h5 (137 + 10 * q) (c q) := by
    refine ⟨fun q => if hq : q < 250 then Classical.choose (C4 q hq) else none, fun q hq => ?_⟩
    dsimp only
    rw [dif_pos hq]
    exact cl_sV (E := E00 D) J4 lo B5.x hq (Classical.choose_spec (C4 q hq))
  obtain ⟨c5, hc5⟩ := C5
  have so5 : sp h5 o := lv_sp (rq_lv B5.x S4.l)
  obtain ⟨h8, x8, B8, j8, b8, n8, er8, s8, run8⟩ := an_b (d := d + 2) (x1 := some (.int (Int32.ofNat (D.b (D.c - 1))))) (x3 := none) B5.A so5 B5.k he f7 hc5
  have f9 : mh_i h8 115 9 = kb (decide (4000 < wW r.2.1)) := (j8 9).trans B5.A.m
  have f8 : mh_i h8 115 8 = Int32.ofNat (wW r.2.1) := (j8 8).trans B5.A.w
  have f34 : mh_i h8 115 34 = 0 := (j8 34).trans ((sV_z J4 lo B5.x).trans S4.z)
  have go4 := (RK_ko S4.k).1
  -- from where unclaim begins, all is the same
  have fin : ∀ (h9 : mh_H) (K9 : Nat → Option ab) (A9 : Nat → Int32) (x3 : Option Value), AB h9 e D K9 c5 A9 → rq 0 aZ h8 h9 → (∀ j, mh_i h9 115 j = mh_i h8 115 j) → (∀ b, b < 115 ∨ b = 130 ∨ b = 131 → mh_i h9 b = mh_i h8 b) → (∀ q, q ≤ e → K9 q = KF e r q ∧ A9 q = AF e r q) → (wW r.2.1 ≤ 4000 → ∀ q, q < 250 → mh_i h9 (132 + 10 * q) 2 = mh_i h8 (132 + 10 * q) 2) → (∀ Q, mw (d + 3) 273 Q 112 [some (.ref 115), some (.int (Int32.ofNat (D.b (D.c - 1)))), some (.ref o), none] [] h8 = mw (d + 3) 273 Q 152 [some (.ref 115), some (.int (Int32.ofNat (D.b (D.c - 1)))), some (.ref o), x3] [] h9) → ∃ h', rq 0 aZ h h' ∧ RZ h' ∧ FT h' D ∧ (∀ q, q ≤ e → RK h' (132 + 10 * q) (KF e r q) ∧ RK h' (137 + 10 * q) (KF e r q) ∧ mh_i h' 118 q = AF e r q) ∧ (∀ q, q < 250 → (∃ x, RK h' (132 + 10 * q) x) ∧ ∃ x, RK h' (137 + 10 * q) x) ∧ (mh_i h' 93 = mh_i h 93 ∧ mh_i h' 95 = mh_i h 95 ∧ mh_i h' 97 = mh_i h 97) ∧ mh_i h' 115 7 = Int32.ofNat (e + 1) ∧ mh_i h' 115 13 = Int32.ofNat D.c ∧ mh_i h' 115 8 = Int32.ofNat (wW r.2.1) ∧ mh_i h' 115 9 = kb (decide (4000 < wW r.2.1)) ∧ mh_i h' 115 34 = 0 ∧ (wW r.2.1 ≤ 4000 → ∀ q, q < e → cnQ G h' q ∧ mh_i h' (132 + 10 * q) 2 = Int32.ofNat (G.a q) ∧ mh_i h' (137 + 10 * q) 2 = Int32.ofNat (G.a q)) ∧ (mh_i h' 130 e = 0 ∧ mh_i h' 131 e = 0) ∧ ∀ Q, mcall (d + 3) 273 [.ref 115] h Q = Q (some (.int (kb (!(decide (4000 < wW r.2.1)))))) h' := fun h9 K9 A9 x3 B9 x9 j9 b9 hK s9 run9 => by
    obtain ⟨h', xd, Zd, Fd, kd', kc', kc2, bd, erd, sd1, sd2, rund⟩ := an_d (d := d) (o := o) (x1 := some (.int (Int32.ofNat (D.b (D.c - 1))))) (x3 := x3) (m := decide (4000 < wW r.2.1)) B9 he ((j9 9).trans f9)
    have ff : ∀ j, mh_i h' 115 j = mh_i h8 115 j := fun j => by rw [bd 115 (by omega)]; exact j9 j
    have fr : ∀ b, b < 115 ∨ b = 130 ∨ b = 131 → mh_i h' b = mh_i h8 b := fun b hb => by rw [bd b (by omega)]; exact b9 b hb
    refine ⟨h', rq_t x4 (rq_t x45 (rq_t x8 (rq_t x9 xd))), Zd, Fd, fun q hq => ⟨?_, ?_, ?_⟩, fun q hq => ⟨⟨_, kd' q hq⟩, kc2 q hq⟩, ⟨?_, ?_, ?_⟩, ?_, ?_, (ff 8).trans f8, (ff 9).trans f9, (ff 34).trans f34, fun w q hq => ?_, ⟨?_, ?_⟩, fun Q => ?_⟩
    · rw [← (hK q hq).1]; exact kd' q (by omega)
    · rw [← (hK q hq).1]; exact kc' q hq
    · rw [← (hK q hq).2, bd 118 (by omega)]; exact B9.a q hq
    · rw [fr 93 (by omega), b8 93 (by omega), u1, t1]
    · rw [fr 95 (by omega), b8 95 (by omega), u2, t2]
    · rw [fr 97 (by omega), b8 97 (by omega), u3, t3]
    · rw [ff]; exact (j8 7).trans f7
    · rw [ff]; exact (j8 13).trans f13'
    · have cq := B5.n w q (Nat.zero_le _) hq
      have c1 := cq.1.1 (by omega)
      have c2 := (cq.2.2 (by omega)).2
      rw [Nat.add_sub_cancel] at c2
      have k9 : mh_i h9 (132 + 10 * q) 2 = Int32.ofNat (G.a q) := (s9 w q (by omega)).trans ((s8 q (by omega) (by omega)).trans c2)
      exact ⟨⟨fun _ => ⟨by rw [fr 130 (by omega), n8 130 q (by omega), if_neg (by omega)]; exact c1.1, by rw [fr 131 (by omega), n8 131 q (by omega), if_neg (by omega)]; exact c1.2⟩, fun z => by omega⟩, (sd2 q (by omega)).trans k9, (sd1 q (by omega)).trans k9⟩
    · rw [fr 130 (by omega), n8 130 e (by omega), if_pos rfl]
    · rw [fr 131 (by omega), n8 131 e (by omega), if_pos rfl]
    · rw [run4, ← rund Q, ← run9 Q, ← run8 Q]
      have es : Int32.ofNat (e + 1) - 1 = Int32.ofNat e := nn_sub (a := e + 1) (b := 1) (by omega)
      have z0 : (0 : Int32) = Int32.ofNat 0 := rfl
      clear Z F X K C L S4 J4 B5 B8 B9 x4 x45 x8 x9 xd C4 hc5 run4 rund run9 run8 b8 n8 j8 j9 b9 hK kd' kc' kc2 bd ff fr Zd Fd hsp y6
      rw [s_273_48]
      simp (disch := omega) only [s_273_0, s_273_1, s_273_4, s_273_5, s_273_6, s_273_9, s_273_10, s_273_11, s_273_14, s_273_15, s_273_16, s_273_19, s_273_20, s_273_21, s_273_24, s_273_27, s_273_28, s_273_29, s_273_30, s_273_31, s_273_34, s_273_35, s_273_36, s_273_39, s_273_40, s_273_43, s_273_43n, s_273_43x, s_273_44, s_273_45, s_273_49, s_273_50, s_273_51, s_273_52, s_273_55, s_273_56, s_273_57, s_273_58, s_273_62, s_273_65, s_273_66, s_273_69, s_273_70, s_273_71, s_273_72, s_273_73, s_273_74, s_273_77, s_273_78, s_273_81, s_273_82, s_273_83, s_273_84, s_273_85, s_273_86, s_273_89, s_273_90, s_273_93, s_273_94, s_273_95, s_273_96, s_273_97, s_273_100, s_273_101, s_273_104, s_273_105, s_273_108, s_273_109, s_273_110, s_273_111, s_273_112, s_273_113, s_273_116, s_273_119, s_273_120, s_273_121, s_273_122, s_273_123, s_273_126, s_273_129, s_273_130, s_273_133, s_273_134, s_273_135, s_273_136, s_273_139, s_273_140, s_273_143, s_273_144, s_273_145, s_273_146, s_273_149, s_273_152, s_273_153, s_273_156, s_273_157, s_273_158, s_273_161, s_273_164, s_273_165, s_273_168, s_273_169, e_273, mv_i_1, mv_l_1, mv_a_1, mv_a_2, mv_a_3, mk2_n, mk2_i, mk2_l, mk2_a, mk2_u, mk2_x, mB_T, mB_F, mS_cons, mS_nil, mSB_T, mSB_F, mca_nil, mca_i, mca_l, mca_r, mca_u, mca_x, mcat_i, mcat_l, mcat_r, mcat_u, mcat_x, mK_some, mK_none, va_rf_s, va_rf_n, lgc_eq, lgc_lt, lgc_gt, lgc_ge, lgc_le, mrd_104, mrd_105, mrd_106, mrd_107, true_and, and_true, and_self, false_and, and_false, true_or, or_true, false_or, or_false, not_true_eq_false, not_false_eq_true, mgb, mga, mgr, mN, reduceCtorEq, ↓reduceIte, eq_self, ge_iff_le, gt_iff_lt, Nat.reduceAdd, Nat.reduceMul, Nat.reduceSub, Nat.reduceLT, Nat.reduceGT, Nat.reduceEqDiff, Nat.reduceLeDiff, Nat.left_eq_add, Nat.add_eq_left, Nat.reduceMod, Nat.reduceDiv, Nat.succ_ne_self, g4, i7, es, z0, run5]
  have g8 := B8.Z.F.g 115 12 38 (by decide +kernel)
  have e00 : ((0 : Int32) = 0) = True := by decide
  have e10 : ((1 : Int32) = 0) = False := by decide
  have k1 : kb true = 1 := rfl
  have k0 : kb false = 0 := rfl
  have main : ∃ h', rq 0 aZ h h' ∧ RZ h' ∧ FT h' D ∧ (∀ q, q ≤ e → RK h' (132 + 10 * q) (KF e r q) ∧ RK h' (137 + 10 * q) (KF e r q) ∧ mh_i h' 118 q = AF e r q) ∧ (∀ q, q < 250 → (∃ x, RK h' (132 + 10 * q) x) ∧ ∃ x, RK h' (137 + 10 * q) x) ∧ (mh_i h' 93 = mh_i h 93 ∧ mh_i h' 95 = mh_i h 95 ∧ mh_i h' 97 = mh_i h 97) ∧ mh_i h' 115 7 = Int32.ofNat (e + 1) ∧ mh_i h' 115 13 = Int32.ofNat D.c ∧ mh_i h' 115 8 = Int32.ofNat (wW r.2.1) ∧ mh_i h' 115 9 = kb (decide (4000 < wW r.2.1)) ∧ mh_i h' 115 34 = 0 ∧ (wW r.2.1 ≤ 4000 → ∀ q, q < e → cnQ G h' q ∧ mh_i h' (132 + 10 * q) 2 = Int32.ofNat (G.a q) ∧ mh_i h' (137 + 10 * q) 2 = Int32.ofNat (G.a q)) ∧ (mh_i h' 130 e = 0 ∧ mh_i h' 131 e = 0) ∧ ∀ Q, mcall (d + 3) 273 [.ref 115] h Q = Q (some (.int (kb (!(decide (4000 < wW r.2.1)))))) h' := by
    by_cases hm : 4000 < wW r.2.1
    · obtain ⟨h9, x9, B9, j9, b9, er9, run9⟩ := an_c (d := d + 2) (o := o) (x1 := some (.int (Int32.ofNat (D.b (D.c - 1))))) B8 he (e + 1) (Nat.le_refl _)
      refine fin h9 _ _ (some (.int (Int32.ofNat (e + 1)))) B9 x9 j9 b9 (fun q hq => ⟨?_, ?_⟩) (fun w => absurd hm (by omega)) (fun Q => ?_)
      · unfold KF
        rw [if_pos hm, if_pos (by omega)]
      · unfold AF
        rw [if_pos hm, if_pos (by omega)]
      · rw [decide_eq_true hm, k1] at f9
        have g9 := B9.Z.F.g 115 12 38 (by decide +kernel)
        have i97 := B9.f
        have le : (e + 1 ≤ e + 1) = True := eq_true (Nat.le_refl _)
        have lt : (e + 1 < e + 1) = False := eq_false (by omega)
        have E1 : mw (d + 3) 273 Q 112 [some (.ref 115), some (.int (Int32.ofNat (D.b (D.c - 1)))), some (.ref o), none] [] h8 = mw (d + 3) 273 Q 121 [some (.ref 115), some (.int (Int32.ofNat (D.b (D.c - 1)))), some (.ref o), some (.int 0)] [] h8 := by
          clear Z F X K C L S4 J4 B5 B8 B9 fin x4 x45 x8 x9 C4 hc5 run4 run8 run9 b8 n8 j8 j9 b9 hsp y6
          rw [s_273_112]
          simp (disch := omega) only [s_273_0, s_273_1, s_273_4, s_273_5, s_273_6, s_273_9, s_273_10, s_273_11, s_273_14, s_273_15, s_273_16, s_273_19, s_273_20, s_273_21, s_273_24, s_273_27, s_273_28, s_273_29, s_273_30, s_273_31, s_273_34, s_273_35, s_273_36, s_273_39, s_273_40, s_273_43, s_273_43n, s_273_43x, s_273_44, s_273_45, s_273_48, s_273_49, s_273_50, s_273_51, s_273_52, s_273_55, s_273_56, s_273_57, s_273_58, s_273_61, s_273_62, s_273_65, s_273_66, s_273_69, s_273_70, s_273_71, s_273_72, s_273_73, s_273_74, s_273_77, s_273_78, s_273_81, s_273_82, s_273_83, s_273_84, s_273_85, s_273_86, s_273_89, s_273_90, s_273_93, s_273_94, s_273_95, s_273_96, s_273_97, s_273_100, s_273_101, s_273_104, s_273_105, s_273_108, s_273_109, s_273_110, s_273_111, s_273_113, s_273_116, s_273_119, s_273_120, s_273_122, s_273_123, s_273_126, s_273_129, s_273_130, s_273_133, s_273_134, s_273_135, s_273_136, s_273_139, s_273_140, s_273_143, s_273_144, s_273_145, s_273_146, s_273_149, s_273_152, s_273_153, s_273_156, s_273_157, s_273_158, s_273_161, s_273_164, s_273_165, s_273_168, s_273_169, e_273, mv_i_1, mv_l_1, mv_a_1, mv_a_2, mv_a_3, mk2_n, mk2_i, mk2_l, mk2_a, mk2_u, mk2_x, mB_T, mB_F, mS_cons, mS_nil, mSB_T, mSB_F, mca_nil, mca_i, mca_l, mca_r, mca_u, mca_x, mcat_i, mcat_l, mcat_r, mcat_u, mcat_x, mK_some, mK_none, va_rf_s, va_rf_n, lgc_eq, lgc_lt, lgc_gt, lgc_ge, lgc_le, mrd_104, mrd_105, mrd_106, mrd_107, true_and, and_true, and_self, false_and, and_false, true_or, or_true, false_or, or_false, not_true_eq_false, not_false_eq_true, mgb, mga, mgr, mN, reduceCtorEq, ↓reduceIte, eq_self, ge_iff_le, gt_iff_lt, Nat.reduceAdd, Nat.reduceMul, Nat.reduceSub, Nat.reduceLT, Nat.reduceGT, Nat.reduceEqDiff, Nat.reduceLeDiff, Nat.left_eq_add, Nat.add_eq_left, Nat.reduceMod, Nat.reduceDiv, Nat.succ_ne_self, g8, f9, e10]
        rw [E1, run9]
        clear Z F X K C L S4 J4 B5 B8 B9 fin x4 x45 x8 x9 C4 hc5 run4 run8 run9 b8 n8 j8 j9 b9 hsp y6 E1
        rw [s_273_121]
        simp (disch := omega) only [s_273_0, s_273_1, s_273_4, s_273_5, s_273_6, s_273_9, s_273_10, s_273_11, s_273_14, s_273_15, s_273_16, s_273_19, s_273_20, s_273_21, s_273_24, s_273_27, s_273_28, s_273_29, s_273_30, s_273_31, s_273_34, s_273_35, s_273_36, s_273_39, s_273_40, s_273_43, s_273_43n, s_273_43x, s_273_44, s_273_45, s_273_48, s_273_49, s_273_50, s_273_51, s_273_52, s_273_55, s_273_56, s_273_57, s_273_58, s_273_61, s_273_62, s_273_65, s_273_66, s_273_69, s_273_70, s_273_71, s_273_72, s_273_73, s_273_74, s_273_77, s_273_78, s_273_81, s_273_82, s_273_83, s_273_84, s_273_85, s_273_86, s_273_89, s_273_90, s_273_93, s_273_94, s_273_95, s_273_96, s_273_97, s_273_100, s_273_101, s_273_104, s_273_105, s_273_108, s_273_109, s_273_110, s_273_111, s_273_112, s_273_113, s_273_116, s_273_119, s_273_120, s_273_122, s_273_123, s_273_126, s_273_129, s_273_130, s_273_133, s_273_134, s_273_135, s_273_136, s_273_139, s_273_140, s_273_143, s_273_144, s_273_145, s_273_146, s_273_149, s_273_153, s_273_156, s_273_157, s_273_158, s_273_161, s_273_164, s_273_165, s_273_168, s_273_169, e_273, mv_i_1, mv_l_1, mv_a_1, mv_a_2, mv_a_3, mk2_n, mk2_i, mk2_l, mk2_a, mk2_u, mk2_x, mB_T, mB_F, mS_cons, mS_nil, mSB_T, mSB_F, mca_nil, mca_i, mca_l, mca_r, mca_u, mca_x, mcat_i, mcat_l, mcat_r, mcat_u, mcat_x, mK_some, mK_none, va_rf_s, va_rf_n, lgc_eq, lgc_lt, lgc_gt, lgc_ge, lgc_le, mrd_104, mrd_105, mrd_106, mrd_107, true_and, and_true, and_self, false_and, and_false, true_or, or_true, false_or, or_false, not_true_eq_false, not_false_eq_true, mgb, mga, mgr, mN, reduceCtorEq, ↓reduceIte, eq_self, ge_iff_le, gt_iff_lt, Nat.reduceAdd, Nat.reduceMul, Nat.reduceSub, Nat.reduceLT, Nat.reduceGT, Nat.reduceEqDiff, Nat.reduceLeDiff, Nat.left_eq_add, Nat.add_eq_left, Nat.reduceMod, Nat.reduceDiv, Nat.succ_ne_self, g9, i97, nn_le, nn_lt, le, lt]
    · refine fin h8 _ _ none B8 rq_id (fun _ => rfl) (fun _ _ => rfl) (fun q hq => ⟨?_, ?_⟩) (fun _ _ _ => rfl) (fun Q => ?_)
      · unfold KF
        rw [if_neg hm]
        rfl
      · unfold AF
        rw [if_neg hm]
      · rw [decide_eq_false hm, k0] at f9
        clear Z F X K C L S4 J4 B5 B8 fin x4 x45 x8 C4 hc5 run4 run8 b8 n8 j8 hsp y6
        rw [s_273_112]
        simp (disch := omega) only [s_273_0, s_273_1, s_273_4, s_273_5, s_273_6, s_273_9, s_273_10, s_273_11, s_273_14, s_273_15, s_273_16, s_273_19, s_273_20, s_273_21, s_273_24, s_273_27, s_273_28, s_273_29, s_273_30, s_273_31, s_273_34, s_273_35, s_273_36, s_273_39, s_273_40, s_273_43, s_273_43n, s_273_43x, s_273_44, s_273_45, s_273_48, s_273_49, s_273_50, s_273_51, s_273_52, s_273_55, s_273_56, s_273_57, s_273_58, s_273_61, s_273_62, s_273_65, s_273_66, s_273_69, s_273_70, s_273_71, s_273_72, s_273_73, s_273_74, s_273_77, s_273_78, s_273_81, s_273_82, s_273_83, s_273_84, s_273_85, s_273_86, s_273_89, s_273_90, s_273_93, s_273_94, s_273_95, s_273_96, s_273_97, s_273_100, s_273_101, s_273_104, s_273_105, s_273_108, s_273_109, s_273_110, s_273_111, s_273_113, s_273_116, s_273_119, s_273_120, s_273_121, s_273_122, s_273_123, s_273_126, s_273_129, s_273_130, s_273_133, s_273_134, s_273_135, s_273_136, s_273_139, s_273_140, s_273_143, s_273_144, s_273_145, s_273_146, s_273_149, s_273_153, s_273_156, s_273_157, s_273_158, s_273_161, s_273_164, s_273_165, s_273_168, s_273_169, e_273, mv_i_1, mv_l_1, mv_a_1, mv_a_2, mv_a_3, mk2_n, mk2_i, mk2_l, mk2_a, mk2_u, mk2_x, mB_T, mB_F, mS_cons, mS_nil, mSB_T, mSB_F, mca_nil, mca_i, mca_l, mca_r, mca_u, mca_x, mcat_i, mcat_l, mcat_r, mcat_u, mcat_x, mK_some, mK_none, va_rf_s, va_rf_n, lgc_eq, lgc_lt, lgc_gt, lgc_ge, lgc_le, mrd_104, mrd_105, mrd_106, mrd_107, true_and, and_true, and_self, false_and, and_false, true_or, or_true, false_or, or_false, not_true_eq_false, not_false_eq_true, mgb, mga, mgr, mN, reduceCtorEq, ↓reduceIte, eq_self, ge_iff_le, gt_iff_lt, Nat.reduceAdd, Nat.reduceMul, Nat.reduceSub, Nat.reduceLT, Nat.reduceGT, Nat.reduceEqDiff, Nat.reduceLeDiff, Nat.left_eq_add, Nat.add_eq_left, Nat.reduceMod, Nat.reduceDiv, Nat.succ_ne_self, g8, f9, e00]
  rw [← hr] at main
  obtain ⟨h', m⟩ := main
  exact ⟨h', w0, hw0, m⟩
end ANt
