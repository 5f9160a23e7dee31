set_option maxRecDepth 100000
/-! Effect.reckonBoth, whole -/
section RBw
variable {d : Nat} {h : mh_H} {P R lP X Y C E TT UU SC SP nC nE nS nb na Ho Fa : Nat} {sN : Int → Prop} {en : Int → Nat} {A : ab} {t1 t2 : tr} {sum c0 c1 p0 : Nat}
theorem v_21 (S1 : ES h P R lP X Y C E TT UU SC SP nC nE nS nb na Ho A) (S2 : ES h P R lP X Y C E TT UU SC SP nC nE nS nb na Fa A) (ne : Ho ≠ Fa) (r2 : mh_r h 34 2 = some Ho) (r3 : mh_r h 34 3 = some Fa) (r4 : mh_r h 34 4 = some X) (U1 : SU h C E TT UU SC SP nC nE nS lP nb na sN en A t1 false sum c0 p0) (U2 : SU h C E TT UU SC SP nC nE nS lP nb na sN en A t2 true (sum + 1) c1 (p0 + pn t1 false)) : ∃ h', fG (st2 Ho Fa P R) h h' ∧ ((∃ l, (ev en A t1 none).1 ≠ none ∧ (ev en A t2 none).1 ≠ none ∧ LQ sN en A l ∧ l.length ≤ 12000 ∧ l.map (pgE en A) = pt en A t1 false false ++ pt en A t2 false true ∧ CW h' nb p0 TT UU en A (l.map (pgE en A)) ∧ RS h' Ho (some A) ∧ RS h' Fa (some A) ∧ mh_i h' 35 4 = mh_i h 35 4 ||| ((ev en A t1 none).2 ||| (ev en A t2 none).2) ∧ ∀ Q, mcall (d + 4) 21 [.ref 34, .int (Int32.ofNat sum)] h Q = Q (some (.int 1)) h') ∨ (RS h' Ho none ∧ RS h' Fa none ∧ ∃ al, (∀ w, a_rel en A w t1 t2 = (none, none, al)) ∧ mh_i h' 35 4 = mh_i h 35 4 ||| al ∧ ∀ Q, mcall (d + 4) 21 [.ref 34, .int (Int32.ofNat sum)] h Q = Q (some (.int 0)) h')) := by
  obtain ⟨h1, F1, k11, k21, al1, e1⟩ := both_cp (d := d) (sum := sum) S1 S2 ne r2 r3 r4
  obtain ⟨S11, S21⟩ := ES_2 S1 S2 F1
  have U11 := ES_2U S1 S2 F1 U1
  have U21 := ES_2U S1 S2 F1 U2
  have er1 := fG_r F1
  have g1 : mg h1 34 1 := S11.G.F.g 34 1 9 (by decide +kernel)
  have q1 : mh_r h1 34 1 = some 35 := S11.G.F.f 34 1 35 (by decide +kernel)
  have g15 := S11.G.g
  have e00 : ((0 : Int32) = 0) = True := by decide
  have e10 : ((1 : Int32) = 0) = False := by decide
  have ei : ∀ k, Int32.ofNat k + 1 = Int32.ofNat (k + 1) := fun k => nn_add (a := k) (b := 1)
  have ej : ∀ k, Int32.ofNat k + 2 = Int32.ofNat (k + 2) := fun k => nn_add (a := k) (b := 2)
  obtain ⟨h2, f2, al2, q⟩ := v_99 (d := d) S11.G U11
  have F2 : fG (st2 Ho Fa P R) h1 h2 := fG_w f2 (fun b j w => Or.inl (Or.inl w))
  obtain ⟨S12, S22⟩ := ES_2 S11 S21 F2
  have U22 := ES_2U S11 S21 F2 U21
  have k12 : RS h2 Ho (some A) := RS_fz (fG_z f2) (fun y hy j => (S11.hh y hy j).1) k11
  have k22 : RS h2 Fa (some A) := RS_fz (fG_z f2) (fun y hy j => (S21.hh y hy j).1) k21
  have er2 := fG_r f2
  have g2 : mg h2 34 1 := S12.G.F.g 34 1 9 (by decide +kernel)
  have q2 : mh_r h2 34 1 = some 35 := S12.G.F.f 34 1 35 (by decide +kernel)
  have g25 := S12.G.g
  rcases q with ⟨a, b, v1, ja, jb, hr1, -, e2⟩ | ⟨v1, e2⟩
  · obtain ⟨h3, f3, al3, q⟩ := v_99 (d := d) S12.G U22
    have F3 : fG (st2 Ho Fa P R) h2 h3 := fG_w f3 (fun b j w => Or.inl (Or.inl w))
    obtain ⟨S13, S23⟩ := ES_2 S12 S22 F3
    have k13 : RS h3 Ho (some A) := RS_fz (fG_z f3) (fun y hy j => (S12.hh y hy j).1) k12
    have k23 : RS h3 Fa (some A) := RS_fz (fG_z f3) (fun y hy j => (S22.hh y hy j).1) k22
    have er3 := fG_r f3
    have g3 : mg h3 34 1 := S13.G.F.g 34 1 9 (by decide +kernel)
    have q3 : mh_r h3 34 1 = some 35 := S13.G.F.f 34 1 35 (by decide +kernel)
    have g35 := S13.G.g
    rcases q with ⟨a', b', v2, ja', jb', hr2, hk, e3⟩ | ⟨v2, e3⟩
    · have so1 : (ev en A t1 none).1 ≠ none := by rw [v1]; exact Option.some_ne_none _
      have so2 : (ev en A t2 none).1 ≠ none := by rw [v2]; exact Option.some_ne_none _
      have w1 := U1.w
      have w2 := U2.w
      have m1 := U1.m
      have m2 := U2.m
      have Q' : LQ sN en A (pg t1 false 0 false ++ pg t2 false 0 true) := fun e he => by
        rcases List.mem_append.mp he with he | he
        · exact ⟨(pg_w t1).1 0 false w1 e he, (pg_some t1).1 0 false w1 so1 e he⟩
        · exact ⟨(pg_w t2).1 0 true w2 e he, (pg_some t2).1 0 true w2 so2 e he⟩
      have len : (pg t1 false 0 false ++ pg t2 false 0 true).length = pn t1 false + pn t2 false := by rw [List.length_append, (pg_len t1).1, (pg_len t2).1]
      have ptq : (pg t1 false 0 false ++ pg t2 false 0 true).map (pgE en A) = pt en A t1 false false ++ pt en A t2 false true := by
        rw [List.map_append, ← (pg_pt (sN := sN) t1).1 0 false w1, ← (pg_pt (sN := sN) t2).1 0 true w2]
      generalize pg t1 false 0 false ++ pg t2 false 0 true = l at *
      have pl1 : (pt en A t1 false false).length = pn t1 false := (pt_len t1 false false).1
      have pl2 : (pt en A t2 false true).length = pn t2 false := (pt_len t2 false true).1
      have U13 := ES_2U S12 S22 F3 (ES_2U S11 S21 F2 U11)
      have U23 := ES_2U S12 S22 F3 U22
      have hr : prt (mh_j h3 P) (mh_j h3 R) p0 (pt en A t1 false false ++ pt en A t2 false true) := by
        refine prt_app _ _ _ (prt_ext _ _ (fun j j1 j2 => ?_) hr1) (by rw [pl1]; exact hr2)
        rw [pl1] at j2
        exact hk j (Or.inl j2)
      have hu : ptr nb (fun i => mh_i h3 TT (p0 + i)) (fun i => mh_i h3 UU (p0 + i)) (pt en A t1 false false ++ pt en A t2 false true) := ptr_app U13.u (by rw [pl1]; exact U23.u)
      have p1 := U23.p1
      rw [show sum + 1 + 1 = sum + 2 by omega, Nat.add_assoc] at p1
      obtain ⟨h4, f4, K4, e4⟩ := v_113 (d := d + 2) S13.G Q' (by omega) (a := sum) (b := sum + 2) (p0 := p0) (by have := U1.s; omega) (by have := U2.s; omega) U13.p0 (by rw [len]; exact p1) (by rw [len]; have := U23.b3; omega) (by rw [len]; have := U23.b4; omega) (by rw [ptq]; exact hr) (by rw [ptq]; exact hu)
      have F4 : fG (st2 Ho Fa P R) h3 h4 := fG_w f4 (fun b j w => Or.inl (Or.inr (Or.inl w)))
      obtain ⟨S14, S24⟩ := ES_2 S13 S23 F4
      have k14 : RS h4 Ho (some A) := RS_fz (fG_z f4) (fun y hy j => (S13.hh y hy j).2.1) k13
      have k24 : RS h4 Fa (some A) := RS_fz (fG_z f4) (fun y hy j => (S23.hh y hy j).2.1) k23
      have er4 := fG_r f4
      have f5 : fq (sW Ho 52) h4 (mh_si h4 Ho 0 0) := fq_si (Or.inl rfl)
      have F5' : fG (soW Ho) h4 (mh_si h4 Ho 0 0) := fG_si (Or.inr (Or.inl rfl))
      have F5 : fG (st2 Ho Fa P R) h4 (mh_si h4 Ho 0 0) := fG_w F5' (fun b j w => Or.inl (soW_st w))
      obtain ⟨S15, S25⟩ := ES_2 S14 S24 F5
      have K5 := ES_C S14 F5' K4
      have k15 := RS_z k14
      have k25 : RS (mh_si h4 Ho 0 0) Fa (some A) := RS_o f5 S14.so S14.w (fun z => ne z.symm) k24
      have f6 : fq (sW Fa 52) (mh_si h4 Ho 0 0) (mh_si (mh_si h4 Ho 0 0) Fa 0 0) := fq_si (Or.inl rfl)
      have F6' : fG (soW Fa) (mh_si h4 Ho 0 0) (mh_si (mh_si h4 Ho 0 0) Fa 0 0) := fG_si (Or.inr (Or.inl rfl))
      have F6 : fG (st2 Ho Fa P R) (mh_si h4 Ho 0 0) (mh_si (mh_si h4 Ho 0 0) Fa 0 0) := fG_w F6' (fun b j w => Or.inr (soW_st w))
      have K6 := ES_C S25 F6' K5
      have k26 := RS_z k25
      have k16 : RS (mh_si (mh_si h4 Ho 0 0) Fa 0 0) Ho (some A) := RS_o f6 S25.so S25.w ne k15
      have a1 := (cs_so S1.G.S S1.c).2
      have a2 := (cs_so S2.G.S S2.c).2
      unfold cAd at a1 a2
      refine ⟨mh_si (mh_si h4 Ho 0 0) Fa 0 0, fG_t F1 (fG_t F2 (fG_t F3 (fG_t F4 (fG_t F5 F6)))), Or.inl ⟨l, so1, so2, Q', by omega, ptq, K6, k16, k26, ?_, fun Q => ?_⟩⟩
      · rw [hi_si, if_neg (by omega), hi_si, if_neg (by omega), fG_i f4 (by unfold fmW; omega), al3, al2, al1, Int32.or_assoc]
      · have g4 : mg h4 34 1 := S14.G.F.g 34 1 9 (by decide +kernel)
        have gH : mg h4 Ho 8 := S14.so.1
        have gF : mg h4 Fa 8 := S24.so.1
        rw [e1 Q]
        clear S1 S2 S11 S21 S12 S22 S13 S23 S14 S24 S15 S25 U1 U2 U11 U21 U22 U13 U23 k11 k21 k12 k22 k13 k23 k14 k24 k15 k25 k16 k26 K4 K5 K6 F1 F2 F3 F4 F5 F6 F5' F6' f2 f3 f4 f5 f6 Q' hr hu hr1 hr2 hk
        simp (disch := omega) only [s_21_0, s_21_1, s_21_4, s_21_5, s_21_8, s_21_11, s_21_12, s_21_15, s_21_16, s_21_19, s_21_22, s_21_23, s_21_26, s_21_29, s_21_32, s_21_33, s_21_34, s_21_35, s_21_38, s_21_39, s_21_42, s_21_45, s_21_46, s_21_49, s_21_50, s_21_51, s_21_52, s_21_55, s_21_58, s_21_59, s_21_62, s_21_63, s_21_64, s_21_65, s_21_68, s_21_69, s_21_72, s_21_73, s_21_74, s_21_75, s_21_76, s_21_79, s_21_80, s_21_83, s_21_84, s_21_87, s_21_88, s_21_91, s_21_92, s_21_95, s_21_96, s_21_99, s_21_100, s_21_103, s_21_104, s_21_107, s_21_108, s_21_111, s_21_112, e_21, mv_i_1, mv_l_1, mv_a_1, mv_a_2, mv_a_3, mk2_n, mk2_i, mk2_l, mk2_a, mk2_u, mk2_x, mB_T, mB_F, mS_cons, mS_nil, mSB_T, mSB_F, mca_nil, mca_i, mca_l, mca_r, mca_u, mca_x, mcat_i, mcat_l, mcat_r, mcat_u, mcat_x, mK_some, mK_none, va_rf_s, va_rf_n, lgc_eq, lgc_lt, lgc_gt, lgc_ge, lgc_le, mrd_104, mrd_105, mrd_106, mrd_107, true_and, and_true, and_self, false_and, and_false, true_or, or_true, false_or, or_false, not_true_eq_false, not_false_eq_true, mgb, mga, mgr, mN, reduceCtorEq, ↓reduceIte, eq_self, ge_iff_le, gt_iff_lt, hk_si, hk_sj, hk_sr, hl_si, hl_sj, hl_sr, hn_si, hn_sj, hn_sr, hs_si, hs_sj, hs_sr, hi_sj, hi_sr, hj_si, hj_sr, hr_si, hr_sj, hi_si, hj_sj, hr_sr, mg_si, mg_sj, mg_sr, Nat.reduceAdd, Nat.reduceMul, Nat.reduceSub, Nat.reduceLT, Nat.reduceGT, Nat.reduceEqDiff, Nat.reduceLeDiff, Nat.left_eq_add, Nat.add_eq_left, Nat.reduceMod, Nat.reduceDiv, Nat.succ_ne_self, g1, q1, g15, e2, g2, q2, g25, e3, g3, q3, g35, e4, g4, gH, gF, er4, er3, er2, er1, r2, r3, e00, e10, ei, ej]
    · have r23 : mh_r h3 34 2 = some Ho := by rw [er3, er2, er1]; exact r2
      have r33 : mh_r h3 34 3 = some Fa := by rw [er3, er2, er1]; exact r3
      obtain ⟨h4, F4, n1, n2, al4, e4⟩ := both_0 (d := d) (sum := sum) S13 S23 ne r23 r33 k13 k23
      refine ⟨h4, fG_t F1 (fG_t F2 (fG_t F3 F4)), Or.inr ⟨n1, n2, (ev en A t1 none).2 ||| (ev en A t2 none).2, fun w => ?_, ?_, fun Q => ?_⟩⟩
      · unfold a_rel; rw [v1, v2]
      · rw [al4, al3, al2, al1, Int32.or_assoc]
      · rw [e1 Q, ← e4 Q]
        clear S1 S2 S11 S21 S12 S22 S13 S23 U1 U2 U11 U21 U22 k11 k21 k12 k22 k13 k23 F1 F2 F3 F4 f2 f3 n1 n2 hr1
        simp (disch := omega) only [s_21_0, s_21_1, s_21_4, s_21_5, s_21_8, s_21_11, s_21_12, s_21_15, s_21_16, s_21_19, s_21_22, s_21_23, s_21_26, s_21_29, s_21_32, s_21_33, s_21_34, s_21_35, s_21_38, s_21_39, s_21_42, s_21_45, s_21_46, s_21_49, s_21_50, s_21_51, s_21_52, s_21_55, s_21_58, s_21_59, s_21_62, s_21_63, s_21_65, s_21_68, s_21_69, s_21_72, s_21_73, s_21_74, s_21_75, s_21_76, s_21_79, s_21_80, s_21_83, s_21_84, s_21_87, s_21_88, s_21_91, s_21_92, s_21_95, s_21_96, s_21_99, s_21_100, s_21_103, s_21_104, s_21_107, s_21_108, s_21_111, s_21_112, e_21, mv_i_1, mv_l_1, mv_a_1, mv_a_2, mv_a_3, mk2_n, mk2_i, mk2_l, mk2_a, mk2_u, mk2_x, mB_T, mB_F, mS_cons, mS_nil, mSB_T, mSB_F, mca_nil, mca_i, mca_l, mca_r, mca_u, mca_x, mcat_i, mcat_l, mcat_r, mcat_u, mcat_x, mK_some, mK_none, va_rf_s, va_rf_n, lgc_eq, lgc_lt, lgc_gt, lgc_ge, lgc_le, mrd_104, mrd_105, mrd_106, mrd_107, true_and, and_true, and_self, false_and, and_false, true_or, or_true, false_or, or_false, not_true_eq_false, not_false_eq_true, mgb, mga, mgr, mN, reduceCtorEq, ↓reduceIte, eq_self, ge_iff_le, gt_iff_lt, hk_si, hk_sj, hk_sr, hl_si, hl_sj, hl_sr, hn_si, hn_sj, hn_sr, hs_si, hs_sj, hs_sr, hi_sj, hi_sr, hj_si, hj_sr, hr_si, hr_sj, hi_si, hj_sj, hr_sr, mg_si, mg_sj, mg_sr, Nat.reduceAdd, Nat.reduceMul, Nat.reduceSub, Nat.reduceLT, Nat.reduceGT, Nat.reduceEqDiff, Nat.reduceLeDiff, Nat.left_eq_add, Nat.add_eq_left, Nat.reduceMod, Nat.reduceDiv, Nat.succ_ne_self, g1, q1, g15, e2, g2, q2, g25, e3, e00, e10, ei]
  · have r22 : mh_r h2 34 2 = some Ho := by rw [er2, er1]; exact r2
    have r32 : mh_r h2 34 3 = some Fa := by rw [er2, er1]; exact r3
    obtain ⟨h4, F4, n1, n2, al4, e4⟩ := both_0 (d := d) (sum := sum) S12 S22 ne r22 r32 k12 k22
    refine ⟨h4, fG_t F1 (fG_t F2 F4), Or.inr ⟨n1, n2, (ev en A t1 none).2, fun w => ?_, ?_, fun Q => ?_⟩⟩
    · unfold a_rel; rw [v1]
    · rw [al4, al2, al1]
    · rw [e1 Q, ← e4 Q]
      clear S1 S2 S11 S21 S12 S22 U1 U2 U11 U21 U22 k11 k21 k12 k22 F1 F2 F4 f2 n1 n2
      simp (disch := omega) only [s_21_0, s_21_1, s_21_4, s_21_5, s_21_8, s_21_11, s_21_12, s_21_15, s_21_16, s_21_19, s_21_22, s_21_23, s_21_26, s_21_29, s_21_32, s_21_33, s_21_34, s_21_35, s_21_38, s_21_39, s_21_42, s_21_45, s_21_46, s_21_49, s_21_50, s_21_51, s_21_52, s_21_55, s_21_58, s_21_59, s_21_62, s_21_63, s_21_65, s_21_68, s_21_69, s_21_72, s_21_73, s_21_74, s_21_75, s_21_76, s_21_79, s_21_80, s_21_83, s_21_84, s_21_87, s_21_88, s_21_91, s_21_92, s_21_95, s_21_96, s_21_99, s_21_100, s_21_103, s_21_104, s_21_107, s_21_108, s_21_111, s_21_112, e_21, mv_i_1, mv_l_1, mv_a_1, mv_a_2, mv_a_3, mk2_n, mk2_i, mk2_l, mk2_a, mk2_u, mk2_x, mB_T, mB_F, mS_cons, mS_nil, mSB_T, mSB_F, mca_nil, mca_i, mca_l, mca_r, mca_u, mca_x, mcat_i, mcat_l, mcat_r, mcat_u, mcat_x, mK_some, mK_none, va_rf_s, va_rf_n, lgc_eq, lgc_lt, lgc_gt, lgc_ge, lgc_le, mrd_104, mrd_105, mrd_106, mrd_107, true_and, and_true, and_self, false_and, and_false, true_or, or_true, false_or, or_false, not_true_eq_false, not_false_eq_true, mgb, mga, mgr, mN, reduceCtorEq, ↓reduceIte, eq_self, ge_iff_le, gt_iff_lt, hk_si, hk_sj, hk_sr, hl_si, hl_sj, hl_sr, hn_si, hn_sj, hn_sr, hs_si, hs_sj, hs_sr, hi_sj, hi_sr, hj_si, hj_sr, hr_si, hr_sj, hi_si, hj_sj, hr_sr, mg_si, mg_sj, mg_sr, Nat.reduceAdd, Nat.reduceMul, Nat.reduceSub, Nat.reduceLT, Nat.reduceGT, Nat.reduceEqDiff, Nat.reduceLeDiff, Nat.left_eq_add, Nat.add_eq_left, Nat.reduceMod, Nat.reduceDiv, Nat.succ_ne_self, g1, q1, g15, e2, e00]
end RBw
