set_option maxRecDepth 100000
/-! show, on both sides -/
section SWs
variable {R R' : Nat → Prop} {k d : Nat} {h h1 h2 : mh_H} {fd : Nat × (Nat → Int32)} {td : Bool × Int32 × Int32 × Int32} {g : pgz} {cl : Nat → Option ab} {ip : Nat × (Nat → Int32)} {rz : rnz} {T T' : List Int32}
theorem v_213n (F : CF h) {b p : Int32} (a192 : ∀ Q, mcall d 192 [.ref 0, .int p] h Q = Q (some (.int 0)) h) : ∀ Q, mcall (d + 1) 213 [.ref 0, .int b, .int p] h Q = Q (some (.int (-1))) h := fun Q => by
  have g := F.g 0 11 15 (by decide +kernel)
  have zer : ((0 : Int32) = 0) = True := by decide
  clear F
  simp (disch := omega) only [s_213_0, s_213_1, s_213_2, s_213_5, s_213_8, s_213_9, s_213_10, s_213_11, s_213_12, s_213_13, s_213_16, s_213_16n, s_213_16x, s_213_17, s_213_18, s_213_19, s_213_22, s_213_23, s_213_26, s_213_29, s_213_30, s_213_33, s_213_36, s_213_39, s_213_40, s_213_43, s_213_44, s_213_47, s_213_48, s_213_51, s_213_52, s_213_55, s_213_58, s_213_61, s_213_62, s_213_63, s_213_64, s_213_67, s_213_68, s_213_69, s_213_70, s_213_73, s_213_74, s_213_75, s_213_76, s_213_79, s_213_80, s_213_83, e_213, mv_i_1, mv_l_1, mv_a_1, mv_a_2, mv_a_3, mk2_n, mk2_i, mk2_l, mk2_a, mk2_u, mk2_x, mB_T, mB_F, mS_cons, mS_nil, mSB_T, mSB_F, mca_nil, mca_i, mca_l, mca_r, mca_u, mca_x, mcat_i, mcat_l, mcat_r, mcat_u, mcat_x, mK_some, mK_none, va_rf_s, va_rf_n, lgc_eq, lgc_lt, lgc_gt, lgc_ge, lgc_le, mrd_104, mrd_105, mrd_106, mrd_107, true_and, and_true, and_self, false_and, and_false, true_or, or_true, false_or, or_false, not_true_eq_false, not_false_eq_true, mgb, mga, mgr, mN, reduceCtorEq, ↓reduceIte, eq_self, ge_iff_le, gt_iff_lt, hk_si, hk_sj, hk_sr, hl_si, hl_sj, hl_sr, hn_si, hn_sj, hn_sr, hs_si, hs_sj, hs_sr, hi_sj, hi_sr, hj_si, hj_sr, hr_si, hr_sj, hi_si, hj_sj, hr_sr, mg_si, mg_sj, mg_sr, Nat.reduceAdd, Nat.reduceMul, Nat.reduceSub, Nat.reduceLT, Nat.reduceGT, Nat.reduceEqDiff, Nat.reduceLeDiff, Nat.left_eq_add, Nat.add_eq_left, Nat.reduceMod, Nat.reduceDiv, Nat.succ_ne_self, g, a192, zer]
theorem u_390n (F : RF h) {b p : Int32} (a373 : ∀ Q, mcall d 373 [.ref 81, .int p] h Q = Q (some (.int 0)) h) : ∀ Q, mcall (d + 1) 390 [.ref 81, .int b, .int p] h Q = Q (some (.int (-1))) h := fun Q => by
  have g := F.g 81 14 70 (by decide +kernel)
  have zer : ((0 : Int32) = 0) = True := by decide
  have m1 : (Int8.ofInt (-1)).toInt32 = -1 := by decide
  clear F
  simp (disch := omega) only [s_390_0, s_390_1, s_390_2, s_390_5, s_390_8, s_390_9, s_390_10, s_390_11, s_390_12, s_390_13, s_390_16, s_390_16n, s_390_16x, s_390_17, s_390_18, s_390_19, s_390_22, s_390_23, s_390_26, s_390_29, s_390_30, s_390_33, s_390_36, s_390_39, s_390_40, s_390_42, s_390_44, s_390_45, s_390_48, s_390_49, s_390_49x, s_390_50, s_390_53, s_390_54, s_390_57, s_390_58, s_390_59, s_390_62, s_390_64, s_390_65, s_390_66, s_390_68, s_390_69, s_390_69x, s_390_70, s_390_73, s_390_74, s_390_77, s_390_80, s_390_81, s_390_82, s_390_84, s_390_87, s_390_90, s_390_91, s_390_94, s_390_97, s_390_98, s_390_99, s_390_101, s_390_104, s_390_107, s_390_110, s_390_113, s_390_114, s_390_116, s_390_118, s_390_119, s_390_122, s_390_123, s_390_123x, s_390_124, s_390_127, s_390_129, s_390_130, s_390_131, s_390_133, s_390_135, s_390_136, s_390_139, s_390_140, s_390_140x, s_390_141, s_390_144, s_390_145, s_390_146, s_390_147, s_390_148, s_390_150, s_390_151, s_390_152, s_390_154, s_390_155, s_390_158, s_390_159, s_390_160, s_390_161, s_390_162, s_390_164, s_390_165, s_390_166, s_390_168, s_390_169, s_390_170, s_390_171, s_390_174, s_390_175, s_390_176, s_390_177, s_390_178, s_390_180, s_390_181, s_390_182, s_390_183, s_390_184, s_390_186, s_390_187, s_390_190, s_390_191, s_390_192, s_390_193, s_390_194, s_390_196, s_390_197, s_390_198, s_390_199, s_390_200, s_390_202, s_390_203, s_390_204, s_390_205, s_390_208, s_390_211, s_390_214, s_390_217, s_390_220, s_390_221, s_390_223, s_390_225, s_390_226, s_390_229, s_390_230, s_390_230x, s_390_231, s_390_234, s_390_235, s_390_238, s_390_239, s_390_240, s_390_243, s_390_245, s_390_246, s_390_247, s_390_249, s_390_250, s_390_250x, s_390_251, s_390_254, s_390_255, s_390_258, s_390_261, s_390_262, s_390_263, s_390_266, s_390_268, s_390_269, s_390_272, s_390_273, s_390_276, s_390_279, s_390_280, s_390_281, s_390_284, s_390_286, s_390_287, s_390_290, s_390_293, s_390_296, s_390_297, s_390_300, s_390_303, s_390_304, s_390_307, s_390_310, s_390_311, s_390_312, s_390_315, s_390_318, s_390_319, s_390_321, s_390_323, s_390_324, s_390_327, s_390_330, s_390_331, s_390_334, s_390_336, s_390_337, s_390_340, s_390_342, s_390_342x, s_390_343, s_390_344, s_390_347, s_390_350, s_390_351, s_390_354, e_390, mv_i_1, mv_l_1, mv_a_1, mv_a_2, mv_a_3, mk2_n, mk2_i, mk2_l, mk2_a, mk2_u, mk2_x, mB_T, mB_F, mS_cons, mS_nil, mSB_T, mSB_F, mca_nil, mca_i, mca_l, mca_r, mca_u, mca_x, mcat_i, mcat_l, mcat_r, mcat_u, mcat_x, mK_some, mK_none, va_rf_s, va_rf_n, lgc_eq, lgc_lt, lgc_gt, lgc_ge, lgc_le, mrd_104, mrd_105, mrd_106, mrd_107, true_and, and_true, and_self, false_and, and_false, true_or, or_true, false_or, or_false, not_true_eq_false, not_false_eq_true, mgb, mga, mgr, mN, reduceCtorEq, ↓reduceIte, eq_self, ge_iff_le, gt_iff_lt, hk_si, hk_sj, hk_sr, hl_si, hl_sj, hl_sr, hn_si, hn_sj, hn_sr, hs_si, hs_sj, hs_sr, hi_sj, hi_sr, hj_si, hj_sr, hr_si, hr_sj, hi_si, hj_sj, hr_sr, mg_si, mg_sj, mg_sr, Nat.reduceAdd, Nat.reduceMul, Nat.reduceSub, Nat.reduceLT, Nat.reduceGT, Nat.reduceEqDiff, Nat.reduceLeDiff, Nat.left_eq_add, Nat.add_eq_left, Nat.reduceMod, Nat.reduceDiv, Nat.succ_ne_self, g, a373, zer, m1]
/-- the class's line where it was written anew -/
theorem c_line {s0 l : Nat} (I : ICl h fd td g cl ip rz T) (L : LNa h T s0 l) (H : LNc (mh_si h 0 14 0) h1 s0 T') (hT : T'.length ≤ 24000) : ICl h1 fd td g cl ip rz T' ∧ cN h1 - (ln h1 0 13 : Int) ≤ cN h - (ln h 0 13 : Int) + 60 ∧ cS h1 - 2 * (ln h1 0 13 : Int) ≤ cS h - 2 * (ln h 0 13 : Int) + 1800 := by
  obtain ⟨Y, C, E, TT, UU, SC, SP, nC, nE, nS, pa, P⟩ := I.P
  have hn := P.B.N
  have F := P.B.F
  have sL := L.s
  have k1 := L.g.1
  have f1 : fz (lcW s0) h h1 := fz_t (fz_si (Or.inl ⟨rfl, Or.inr rfl⟩)) H.f
  have kk : WC (lcW s0) (fun _ => True) h := wc_T (fun b j q => by
    unfold lcW at q
    rcases q with q | q
    · exact Or.inl ⟨q.1, by omega⟩
    · exact Or.inr (Or.inr (Or.inr ⟨by rw [q]; exact k1, by rw [q]; omega⟩)))
  have nz : ∀ b j, (b ≠ 0 ∨ j < 13) → b ≠ s0 → ¬ lcW s0 b j := fun b j h1 h2 => by
    unfold lcW
    omega
  have ii : ∀ b j, b < 2644 → (b ≠ 0 ∨ j < 13) → b ≠ s0 → mh_i h1 b j = mh_i h b j := fun b j hb h1 h2 => (f1.2.2 b j (by omega) (nz b j h1 h2)).1
  have row : ∀ b, b < 2644 → b ≠ 0 → b ≠ s0 → mh_i h1 b = mh_i h b := fun b hb h1 h2 => funext fun j => ii b j hb (Or.inl h1) h2
  obtain ⟨bs, l', u1, u2, u3, u4, u5, u6, u7, u8, u9, u10⟩ := H.b
  have en : mh_n (mh_si h 0 14 0) = mh_n h := hn_si
  have es : mh_s (mh_si h 0 14 0) = mh_s h := hs_si
  have el : mh_l (mh_si h 0 14 0) = mh_l h := hl_si
  rw [en] at u7 u10
  rw [es] at u9
  rw [el, L.l] at u9 u10
  have L1 : LNa h1 T' bs l' := LNa.of ⟨u1, u2, u3, ⟨u5, u6⟩, by omega, ⟨u4, hT⟩, H.n, u8⟩
  have N1 : CNm h1 g := by
    obtain ⟨TK, X, n, Bt, np, ap, w1, w2, w3⟩ := I.n
    have i30 := row 30 (by omega) (by omega) (by omega)
    refine ⟨TK, X, n, Bt, np, ap, fun p hp h0 => ?_, by rw [i30]; exact w2, by rw [i30]; exact w3⟩
    obtain ⟨v1, v2, ⟨b1, b2⟩, v4⟩ := w1 p hp h0
    obtain ⟨n1, n2⟩ := v4 s0 L.r
    have gX : mg h X 102 := ⟨v2.k, v2.x⟩
    have g2 := F.g 2 4 20 (by decide +kernel)
    have tK := v2.g.2
    have tX := v2.x
    refine ⟨(fz_r f1 g2 (nz 2 0 (by omega) (by omega))).trans v1, ⟨fz_mg f1 v2.g, (fz_r f1 v2.g (nz TK 0 (by omega) (fun z => n1 z.symm))).trans v2.r, (fz_mg f1 gX).1, (fz_mg f1 gX).2, (fz_l f1 gX).trans v2.l, v2.n, fun i hi => by rw [fz_i f1 gX (nz X i (by omega) (fun z => n2 z.symm))]; exact v2.b i hi, v2.2.2.2.2.2.2.2⟩, ⟨b1, b2⟩, fun s e => ?_⟩
    have e' : bs = s := by
      have := u1.symm.trans e
      cases this
      rfl
    subst e'
    rcases u7 with q | q
    · rw [q]
      exact ⟨n1, n2⟩
    · exact ⟨by omega, by omega⟩
  have IC1 : ICl h1 fd td g cl ip rz T' := by
    refine ICl_w (ip' := ip) (fd' := fd) (rz' := rz) (T' := T') f1 kk I ⟨(ii 0 1 (by omega) (by omega) (by omega)).trans I.f.1, fun i hi => by rw [ii 1 i (by omega) (by omega) (by omega)]; exact I.f.2 i hi⟩ (fun j h7 h12 => ii 0 j (by omega) (by omega) (by omega)) ⟨(ii 67 2 (by omega) (by omega) (by omega)).trans I.i.1, (row 68 (by omega) (by omega) (by omega)).trans I.i.2⟩ ?_ ⟨bs, l', L1⟩ N1
    rw [row 67 (by omega) (by omega) (by omega), row 69 (by omega) (by omega) (by omega), row 70 (by omega) (by omega) (by omega), row 71 (by omega) (by omega) (by omega)]
    exact I.r
  obtain ⟨c1, c2⟩ := cT_f f1 kk P.B
  have e1 : ln h1 0 13 = l' := by
    unfold ln
    rw [u1]
    exact u3
  have e2 : ln h 0 13 = l := by
    unfold ln
    rw [L.r]
    exact L.l
  exact ⟨IC1, by rw [e1, e2]; omega, by rw [e1, e2]; omega⟩
theorem s_show (I : INV R k h fd td g cl ip rz T) (b p : Int32) : NXT k h 213 390 [.ref 0, .int b, .int p] [.ref 81, .int b, .int p] := by
  obtain ⟨Y, C, E, TT, UU, SC, SP, nC, nE, nS, pa, P⟩ := I.C.P
  have hn := P.B.N
  have F := P.B.F
  have cb := I.w.P.c
  have a192 := v_192 (d := 2045) (p := p) P.B P.H
  obtain ⟨ap0, Pr0⟩ := I.R.P
  cases ok : okP g.c p with
  | false =>
    rw [ok] at a192
    have a373 := u_373 (d := 2045) (p := p) Pr0.b.Y.F Pr0.H
    rw [ok] at a373
    exact NXT_r I ⟨_, v_213n (d := 2045) F a192, u_390n (d := 2045) Pr0.b.Y.F a373⟩
  | true =>
    rw [ok] at a192
    obtain ⟨q, hq, eq, -⟩ := okP_n (by omega) ok
    subst eq
    obtain ⟨s0, l, L⟩ := I.C.l
    have lb := L.b
    have sL := L.s
    obtain ⟨st, est⟩ : ∃ st, st = if b = 0 then g.kn q else cl q := ⟨_, rfl⟩
    have pvq : pv h (if b = 0 then 54 else 73) q st := by
      rw [est]
      by_cases c : b = 0
      · rw [if_pos c, if_pos c]
        exact I.C.k q hq
      · rw [if_neg c, if_neg c]
        exact I.C.c q hq
    have pl : isPl (if b = 0 then 54 else 73) q := by
      unfold isPl
      split <;> omega
    have sh : shp (g.G.n q) (g.G.a q) (g.G.rm q) st := by
      rw [est]
      split
      · exact I.w.P.k q hq
      · exact I.w.c q hq
    obtain ⟨o, eo, ro⟩ := pvq
    obtain ⟨so1, ao⟩ := P.B.S.o _ _ o pl eo
    have ho : ∀ y, y ≤ 2 → o + y ≠ 0 ∧ o + y ≠ s0 := fun y hy => by
      have k0 := so1.1.1
      have k1 := so1.2.2.1.1
      have k2 := so1.2.2.2.2.2.1.1
      have ks := L.g.1
      refine ⟨by unfold cAd at ao; omega, fun z => ?_⟩
      rw [← z] at ks
      have yy : y = 0 ∨ y = 1 ∨ y = 2 := by omega
      rcases yy with e | e | e <;> subst e
      · rw [Nat.add_zero, k0] at ks
        omega
      · rw [k1] at ks
        omega
      · rw [k2] at ks
        omega
    obtain ⟨TK, X, n, Bt, np, ap, w1, w2, w3⟩ := I.C.n
    have nn := (Pr0.H.n q hq).2
    have na := (Pr0.H.a q hq).2
    have i0 : ∀ b j, b ≠ 0 → mh_i (mh_si h 0 14 0) b j = mh_i h b j := fun b j hb => by rw [hi_si, if_neg (fun z => hb z.1)]
    have fx : fz (fun b _ => b = 0) h (mh_si h 0 14 0) := fz_si rfl
    have M : NMc (mh_si h 0 14 0) s0 TK X n Bt q (np q) (ap q) (g.G.n q) (g.G.a q) := by
      refine NMc.of ⟨F.g 0 11 15 (by decide +kernel), F.g 2 4 20 (by decide +kernel), F.f 0 2 2 (by decide +kernel), fun z => (w1 q hq z).1, fun z => ?_, ⟨F.g 30 100 4500 (by decide +kernel), F.l 30 100 4500 (by decide +kernel), F.f 2 13 30 (by decide +kernel)⟩, ⟨by omega, fun z => (w1 q hq z).2.2.2 s0 L.r⟩, by omega, ⟨nn, na⟩, fun x hx => ?_, fun x hx => ?_⟩
      · obtain ⟨-, v2, ⟨-, b2⟩, -⟩ := w1 q hq z
        exact ⟨v2.g, v2.r, v2.k, v2.x, v2.l, v2.n, fun i hi => by rw [i0 X i (by omega)]; exact v2.b i hi, v2.2.2.2.2.2.2.2⟩
      · obtain ⟨v1, v2, v3, -⟩ := w2 q x hq hx
        exact ⟨by rw [i0 30 _ (by omega)]; exact v1, v2, v3⟩
      · obtain ⟨v1, v2, v3, -⟩ := w3 q x hq hx
        exact ⟨by rw [i0 30 _ (by omega)]; exact v1, v2, v3⟩
    have T0 : ∀ A, st = some A → ab_T A ∧ A.n = g.G.n q ∧ A.a = g.G.a q := fun A e => by
      obtain ⟨t1, t2, t3, -⟩ := sh A e
      exact ⟨t1, t2, t3⟩
    obtain ⟨h1, H, m1, run1⟩ := v_213 (d := 2038) (b := b) (l := l) rfl M L.r L.g L.l lb.1 lb.2 I.S.m a192 (v_197 (d := 2038 + 7) P.B (by omega) eo) (RS_fz fx (fun y hy j z => (ho y hy).1 z) ro) T0 ho
    obtain ⟨D1, sk⟩ := sd_c I.S (ar_0 (fun v hv o e => by subst e; simp at hv)) run1 hn
    have IR1 := IRf_x I.S sk I.R
    obtain ⟨ap1, Pr1⟩ := IR1.P
    have a373 := u_373 (d := 2038 + 7) (p := Int32.ofNat q) Pr1.b.Y.F Pr1.H
    rw [ok] at a373
    have NR : NMr h1 q (fun x => nmX Bt n (np q x)) (fun x => nmX Bt n (ap q x)) (g.G.n q) (g.G.a q) := by
      obtain ⟨p1, p2⟩ := Pr1.n q hq
      refine NMr.of ⟨Pr1.b.Y.F, by omega, ⟨nn, na⟩, ⟨(Pr1.H.n q hq).1, (Pr1.H.a q hq).1⟩, fun x hx => ?_, fun x hx => ?_⟩
      · obtain ⟨k', v1, v2, v3, v4⟩ := p1 x hx
        obtain ⟨-, -, -, e⟩ := w2 q x hq hx
        rw [e] at v3 v4
        exact ⟨k', v1, v2, v3, v4⟩
      · obtain ⟨k', v1, v2, v3, v4⟩ := p2 x hx
        obtain ⟨-, -, -, e⟩ := w3 q x hq hx
        rw [e] at v3 v4
        exact ⟨k', v1, v2, v3, v4⟩
    have rk : RK h1 (kO b q) st := by
      unfold kO
      rw [est]
      by_cases c : b = 0
      · rw [if_pos c, if_pos c]
        exact Pr1.k q hq
      · rw [if_neg c, if_neg c]
        exact Pr1.c q hq
    obtain ⟨h2, y, y57, yT, yL, run2⟩ := u_390 (d := 2038) (b := b) NR a373 (u_372 (d := 2038 + 7) Pr1.b.Y.F (by omega)) rk (by unfold kO; split <;> omega) T0
    obtain ⟨IC1, c1, c2⟩ := c_line I.C L H yT
    obtain ⟨D2, sk2⟩ := sd_r D1 (ar_81 (fun v hv o e => by subst e; simp at hv)) run2 (Nat.le_trans hn sk.1)
    have ej : ∀ b j, ¬ lr2 b j → mh_i h2 b j = mh_i h1 b j := fun b j w => fG_i y w
    have IR2 : IRf h2 fd td g cl ip rz (shO (fun x => nmX Bt n (np q x)) (fun x => nmX Bt n (ap q x)) st) := by
      refine IRf_w (rz' := rz) (fG_z y) (fun b j w => by unfold lr2 at w; omega) IR1 ?_ ⟨y57, yL⟩
      rw [ej 81 64 (by unfold lr2; omega), ej 81 65 (by unfold lr2; omega), ej 81 66 (by unfold lr2; omega), ej 81 54 (by unfold lr2; omega), show mh_i h2 2640 = mh_i h1 2640 from funext fun j => ej 2640 j (by unfold lr2; omega), show mh_i h2 2641 = mh_i h1 2641 from funext fun j => ej 2641 j (by unfold lr2; omega)]
      exact IR1.r
    obtain ⟨q1, q2⟩ := fG_rm y
    exact ⟨_, h1, h2, _, fd, td, g, cl, ip, rz, _, run1, run2, INV_2 I D1 sk D2 sk2 IC1 IR2 I.w (Int.le_of_eq q1) (Int.le_of_eq q2) c1 c2⟩
end SWs
