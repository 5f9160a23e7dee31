set_option maxRecDepth 100000
/-! Effect.split: a relation, whatever is known before -/
section RLo
variable {d : Nat} {h h1 : mh_H} {P R lP Y C E TT UU SC SP nC nE nS nb na Ho Fa Be n : Nat} {sN : Int → Prop} {en : Int → Nat} {A : ab} {sum c0 c1 p0 : Nat} {tu : Bool} {t : tr}
theorem SV.cH (V : SV h P R lP Y C E TT UU SC SP nC nE nS nb na Ho Fa Be n) : cs h Ho ∧ cs h Fa ∧ cs h Be := ⟨⟨34, 2, Or.inl ⟨rfl, by omega⟩, V.h2⟩, ⟨34, 3, Or.inl ⟨rfl, by omega⟩, V.h3⟩, ⟨34, 4, Or.inl ⟨rfl, by omega⟩, V.h4⟩⟩
theorem SV_2 (V : SV h P R lP Y C E TT UU SC SP nC nE nS nb na Ho Fa Be n) (x : fG (st2 Ho Fa P R) h h1) : SV h1 P R lP Y C E TT UU SC SP nC nE nS nb na Ho Fa Be n := by
  obtain ⟨cH, cF, -⟩ := V.cH
  have a1 := (cs_so V.S cH).2
  have a2 := (cs_so V.S cF).2
  unfold cAd at a1 a2
  have nP := V.p.n P (by simp)
  have nR := V.p.n R (by simp)
  have no : ∀ b j, (b = 35 ∧ j < 4) ∨ (b = 34 ∧ j = 6) → ¬ st2 Ho Fa P R b j := fun b j hb w => by
    unfold st2 stW rgW fmW sW at w
    omega
  exact SV_fG x (no 35 2 (by omega)) (no 35 3 (by omega)) V (by rw [fG_i x (no 34 6 (by omega))]; exact V.a6)
/-- other cells stay -/
theorem sS_i (V : SV h P R lP Y C E TT UU SC SP nC nE nS nb na Ho Fa Be n) {m b c : Nat} (x : sS m P R h h1) (g : mg h b c) (c8 : c ≠ 8) (c1 : c ≠ 101) (nb' : ¬ (b = 34 ∨ b = 35 ∨ b = 38 ∨ b = 41 ∨ b = 51)) (j : Nat) : mh_i h1 b j = mh_i h b j ∧ mh_r h1 b j = mh_r h b j := by
  have w : ¬ svW m P R h b j := fun w => by
    have g1 := g.1
    have k36 := (V.F.g 36 101 124 (by decide +kernel)).1
    have k37 := (V.F.g 37 101 124 (by decide +kernel)).1
    have k52 := (V.F.g 52 101 48 (by decide +kernel)).1
    have kP := V.p.g9.1
    have kR := V.p.g10.1
    rcases w with w | w | w | w | w | w | w | w | ⟨o, o1, o2, o3⟩
    · omega
    · omega
    · have : b = 36 ∨ b = 37 ∨ b = 38 := by omega
      rcases this with e | e | e
      · rw [e] at g1; omega
      · rw [e] at g1; omega
      · omega
    · omega
    · rw [w] at g1; omega
    · rw [w] at g1; omega
    · rw [w] at g1; omega
    · omega
    · have := so_k (cs_so V.S (V.ms o1)).1 g c8 c1
      omega
  have := x.1.1.2.2 b j g.2 w
  exact ⟨this.1, this.2.2⟩
theorem SU_s (V : SV h P R lP Y C E TT UU SC SP nC nE nS nb na Ho Fa Be n) {m : Nat} (x : sS m P R h h1) (U : SU h C E TT UU SC SP nC nE nS lP nb na sN en A t tu sum c0 p0) : SU h1 C E TT UU SC SP nC nE nS lP nb na sN en A t tu sum c0 p0 := by
  have q := V.q
  have e : ∀ b, b = C ∨ b = E ∨ b = TT ∨ b = UU ∨ b = SC ∨ b = SP → mh_i h1 b = mh_i h b := fun b hb => funext fun j => by
    have n := q.n b (by rcases hb with e | e | e | e | e | e <;> simp [e])
    have g : mg h b 100 := by
      rcases hb with e | e | e | e | e | e <;> subst e
      · exact q.gC
      · exact q.gE
      · exact q.gT
      · exact q.gU
      · exact q.g6
      · exact q.g7
    exact (sS_i V x g (by omega) (by omega) (by omega) j).1
  exact ⟨U.s, by rw [e SC (by simp)]; exact U.c0, by rw [e SC (by simp)]; exact U.c1, by rw [e SP (by simp)]; exact U.p0, by rw [e SP (by simp)]; exact U.p1, by rw [e C (by simp)]; exact U.c, U.w, U.z, U.m, by rw [e E (by simp)]; exact U.e, by rw [e TT (by simp), e UU (by simp)]; exact U.u, U.b1, U.b3, U.b4, U.b6⟩
/-- nothing was known -/
theorem v_21n (V : SV h P R lP Y C E TT UU SC SP nC nE nS nb na Ho Fa Be n) (k : RS h Be none) (s : Int32) : ∃ h', fG (st2 Ho Fa P R) h h' ∧ RS h' Ho none ∧ RS h' Fa none ∧ mh_i h' 35 4 = mh_i h 35 4 ∧ ∀ Q, mcall (d + 4) 21 [.ref 34, .int s] h Q = Q (some (.int 0)) h' := by
  have g : mg h 34 1 := V.F.g 34 1 9 (by decide +kernel)
  obtain ⟨cH, cF, cB⟩ := V.cH
  obtain ⟨n1, n2, n3⟩ := V.ne
  have a1 := (cs_so V.S cH).2
  have a2 := (cs_so V.S cF).2
  unfold cAd at a1 a2
  have sH := (cs_so V.S cH).1
  have sF' := (cs_so V.S cF).1
  obtain ⟨h1, f1, k1, e1⟩ := l_144 (d := d + 2) 52 sH k n2
  have kB1 := RS_o f1 sH V.w (fun z => n2 z.symm) k
  have sF1 := so_fq f1 sF'
  obtain ⟨h2, f2, k2, e2⟩ := l_144 (d := d + 2) 52 sF1 kB1 n3
  have kB2 := RS_o f2 sF1 (rw_fq f1 V.w) (fun z => n3 z.symm) kB1
  have k12 := RS_o f2 sF1 (rw_fq f1 V.w) n1 k1
  have z : mh_i h2 Be 0 = 1 := kB2.1.z
  refine ⟨h2, fG_t (fG_w (fG_fq f1) (fun b j w => Or.inl (Or.inr (Or.inr w)))) (fG_w (fG_fq f2) (fun b j w => Or.inr (Or.inr (Or.inr w)))), k12, k2, ?_, fun Q => ?_⟩
  · rw [(f2.2.2.2.2.2 35 (by unfold sW; omega)).1, (f1.2.2.2.2.2 35 (by unfold sW; omega)).1]
  · have gH := sH.1
    have gF := sF1.1
    have g1 : mg h1 34 1 := (fq_mg f1).mpr g
    have g2 : mg h2 34 1 := (fq_mg f2).mpr g1
    have gB := (RS_so k).1
    have gB2 := (RS_so kB2).1
    have er1 : mh_r h1 = mh_r h := f1.2.2.1
    have er2 : mh_r h2 = mh_r h1 := f2.2.2.1
    have r2 := V.h2
    have r3 := V.h3
    have r4 := V.h4
    have e10 : ((1 : Int32) = 0) = False := by decide
    clear V k k1 k2 k12 kB1 kB2 f1 f2
    simp (disch := omega) only [s_21_0, s_21_1, s_21_4, s_21_5, s_21_8, s_21_11, s_21_12, s_21_15, s_21_16, s_21_19, s_21_22, s_21_23, s_21_26, s_21_29, s_21_32, s_21_33, s_21_34, s_21_35, s_21_38, s_21_39, s_21_42, s_21_45, s_21_46, s_21_49, s_21_50, s_21_51, s_21_52, s_21_55, s_21_58, s_21_59, s_21_62, s_21_63, s_21_64, s_21_65, s_21_68, s_21_69, s_21_72, s_21_73, s_21_74, s_21_75, s_21_76, s_21_79, s_21_80, s_21_83, s_21_84, s_21_87, s_21_88, s_21_91, s_21_92, s_21_95, s_21_96, s_21_99, s_21_100, s_21_103, s_21_104, s_21_107, s_21_108, s_21_111, s_21_112, e_21, mv_i_1, mv_l_1, mv_a_1, mv_a_2, mv_a_3, mk2_n, mk2_i, mk2_l, mk2_a, mk2_u, mk2_x, mB_T, mB_F, mS_cons, mS_nil, mSB_T, mSB_F, mca_nil, mca_i, mca_l, mca_r, mca_u, mca_x, mcat_i, mcat_l, mcat_r, mcat_u, mcat_x, mK_some, mK_none, va_rf_s, va_rf_n, lgc_eq, lgc_lt, lgc_gt, lgc_ge, lgc_le, mrd_104, mrd_105, mrd_106, mrd_107, true_and, and_true, and_self, false_and, and_false, true_or, or_true, false_or, or_false, not_true_eq_false, not_false_eq_true, mgb, mga, mgr, mN, reduceCtorEq, ↓reduceIte, eq_self, ge_iff_le, gt_iff_lt, hk_si, hk_sj, hk_sr, hl_si, hl_sj, hl_sr, hn_si, hn_sj, hn_sr, hs_si, hs_sj, hs_sr, hi_sj, hi_sr, hj_si, hj_sr, hr_si, hr_sj, hi_si, hj_sj, hr_sr, mg_si, mg_sj, mg_sr, Nat.reduceAdd, Nat.reduceMul, Nat.reduceSub, Nat.reduceLT, Nat.reduceGT, Nat.reduceEqDiff, Nat.reduceLeDiff, Nat.left_eq_add, Nat.add_eq_left, Nat.reduceMod, Nat.reduceDiv, Nat.succ_ne_self, g, r2, r3, r4, gH, gF, gB, e1, g1, er1, e2, g2, er2, gB2, z, e10]
/-- one relation -/
theorem v_relO (V : SV h P R lP Y C E TT UU SC SP nC nE nS nb na Ho Fa Be n) {on : Option ab} {A0 : ab} (k : RS h Be on) (ok : okS A0 on) {N : Nat} {cs r : tr} (hN : 27 ≤ tK N ∧ tK N ≤ 32) {WW nW kk : Nat} (rW : mh_r h Y 10 = some WW) (gW : mg h WW 100) (lW : mh_l h WW = nW) (hk : kk < nW) (hn : nW < 1000000) (U : ∃ sum c0 c1 p0, mh_i h WW kk = Int32.ofNat sum ∧ ∀ A', A'.n = A0.n → A'.a = A0.a → A'.rm = A0.rm → SU h C E TT UU SC SP nC nE nS lP nb na sN en A' cs false sum c0 p0 ∧ SU h C E TT UU SC SP nC nE nS lP nb na sN en A' (tT cs) true (sum + 1) c1 (p0 + pn cs false)) {v1 v2 v3 : Option Value} : ∃ h', fG (st2 Ho Fa P R) h h' ∧ RS h' Ho (spl en (.branch N cs r) false false on none).1 ∧ RS h' Fa (spl en (.branch N cs r) false false on none).2.1 ∧ mh_i h' 35 4 = mh_i h 35 4 ||| (spl en (.branch N cs r) false false on none).2.2 ∧ ∀ Q, mw (d + 5) 17 Q 140 [some (.ref 34), v1, v2, v3, some (.ref Y), some (.int (Int32.ofNat kk)), some (.int (kd (tK N - 27)))] [] h = mw (d + 5) 17 Q 207 [some (.ref 34), v1, v2, v3, some (.ref Y), some (.int (Int32.ofNat kk)), some (.int (kd (tK N - 27)))] [] h' := by
  obtain ⟨sum, c0, c1, p0, vW, U⟩ := U
  cases on with
  | none =>
    obtain ⟨h', F, kh, kf, al, e⟩ := v_21n (d := d) V k (Int32.ofNat sum)
    refine ⟨h', F, kh, kf, by rw [al]; exact (i32_or0 _).symm, fun Q => ?_⟩
    have g : mg h 34 1 := V.F.g 34 1 9 (by decide +kernel)
    have gY := V.q.gY
    have k33 := kd_33 (tK N - 27) (by omega)
    have e00 : ((0 : Int32) = 0) = True := by decide
    clear V k kh kf U F
    simp (disch := omega) only [s_17_0, s_17_1, s_17_4, s_17_7, s_17_8, s_17_9, s_17_9n, s_17_9x, s_17_10, s_17_11, s_17_14, s_17_17, s_17_17n, s_17_17x, s_17_19, s_17_20, s_17_23, s_17_24, s_17_27, s_17_28, s_17_31, s_17_32, s_17_35, s_17_36, s_17_37, s_17_40, s_17_43, s_17_44, s_17_45, s_17_48, s_17_49, s_17_52, s_17_54, s_17_56, s_17_57, s_17_60, s_17_63, s_17_65, s_17_68, s_17_70, s_17_70x, s_17_71, s_17_73, s_17_75, s_17_78, s_17_81, s_17_83, s_17_85, s_17_88, s_17_89, s_17_92, s_17_94, s_17_97, s_17_100, s_17_102, s_17_105, s_17_108, s_17_109, s_17_112, s_17_115, s_17_117, s_17_120, s_17_123, s_17_125, s_17_128, s_17_131, s_17_132, s_17_134, s_17_137, s_17_140, s_17_142, s_17_144, s_17_147, s_17_148, s_17_150, s_17_153, s_17_155, s_17_155x, s_17_156, s_17_159, s_17_162, s_17_163, s_17_164, s_17_167, s_17_169, s_17_172, s_17_173, s_17_174, s_17_177, s_17_179, s_17_182, s_17_185, s_17_186, s_17_189, s_17_190, s_17_193, s_17_196, s_17_197, s_17_200, s_17_201, s_17_204, s_17_210, s_17_213, s_17_214, s_17_215, s_17_218, s_17_221, s_17_224, s_17_225, s_17_228, s_17_230, s_17_233, s_17_234, s_17_237, s_17_240, s_17_243, s_17_244, s_17_245, s_17_248, s_17_250, s_17_251, s_17_254, e_17, mv_i_1, mv_l_1, mv_a_1, mv_a_2, mv_a_3, mk2_n, mk2_i, mk2_l, mk2_a, mk2_u, mk2_x, mB_T, mB_F, mS_cons, mS_nil, mSB_T, mSB_F, mca_nil, mca_i, mca_l, mca_r, mca_u, mca_x, mcat_i, mcat_l, mcat_r, mcat_u, mcat_x, mK_some, mK_none, va_rf_s, va_rf_n, lgc_eq, lgc_lt, lgc_gt, lgc_ge, lgc_le, mrd_104, mrd_105, mrd_106, mrd_107, true_and, and_true, and_self, false_and, and_false, true_or, or_true, false_or, or_false, not_true_eq_false, not_false_eq_true, mgb, mga, mgr, mN, reduceCtorEq, ↓reduceIte, eq_self, ge_iff_le, gt_iff_lt, hk_si, hk_sj, hk_sr, hl_si, hl_sj, hl_sr, hn_si, hn_sj, hn_sr, hs_si, hs_sj, hs_sr, hi_sj, hi_sr, hj_si, hj_sr, hr_si, hr_sj, hi_si, hj_sj, hr_sr, mg_si, mg_sj, mg_sr, Nat.reduceAdd, Nat.reduceMul, Nat.reduceSub, Nat.reduceLT, Nat.reduceGT, Nat.reduceEqDiff, Nat.reduceLeDiff, Nat.left_eq_add, Nat.add_eq_left, Nat.reduceMod, Nat.reduceDiv, Nat.succ_ne_self, g, gY, rW, gW, lW, vW, nn_mxT, nn_clamp, k33, e, e00]
  | some A =>
    obtain ⟨T, t1, t2, t3⟩ := ok A rfl
    obtain ⟨S1, S2⟩ := V.e k T
    obtain ⟨U1, U2⟩ := U A t1 t2 t3
    rw [spl_27 hN.1]
    exact v_rel S1 S2 V.ne.1 V.h2 V.h3 V.h4 U1 U2 rW gW lW hk hn vW (by omega)
end RLo
