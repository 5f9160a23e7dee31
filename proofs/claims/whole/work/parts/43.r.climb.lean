set_option maxRecDepth 100000
/-! a while: heads climb -/
/-- what stands of the states -/
def LKi (h : mh_H) (o hh tt nn bh : Nat) (E : nv) (S : ab) (H TT NN BE : Option ab) : Prop := (RK h o (some S)) ∧ (RK h hh H) ∧ (RK h tt TT) ∧ (RK h nn NN) ∧ (RK h bh BE) ∧ (mh_i h bh 2 = Int32.ofNat E.ar) ∧ (CI E.nu E.ar E.rm S H TT NN BE)
theorem LKi.of {h : mh_H} {o hh tt nn bh : Nat} {E : nv} {S : ab} {H TT NN BE : Option ab} (q : (RK h o (some S)) ∧ (RK h hh H) ∧ (RK h tt TT) ∧ (RK h nn NN) ∧ (RK h bh BE) ∧ (mh_i h bh 2 = Int32.ofNat E.ar) ∧ (CI E.nu E.ar E.rm S H TT NN BE)) : LKi h o hh tt nn bh E S H TT NN BE := q
theorem LKi.ko {h : mh_H} {o hh tt nn bh : Nat} {E : nv} {S : ab} {H TT NN BE : Option ab} (q : LKi h o hh tt nn bh E S H TT NN BE) : RK h o (some S) := q.1
theorem LKi.kh {h : mh_H} {o hh tt nn bh : Nat} {E : nv} {S : ab} {H TT NN BE : Option ab} (q : LKi h o hh tt nn bh E S H TT NN BE) : RK h hh H := q.2.1
theorem LKi.kt {h : mh_H} {o hh tt nn bh : Nat} {E : nv} {S : ab} {H TT NN BE : Option ab} (q : LKi h o hh tt nn bh E S H TT NN BE) : RK h tt TT := q.2.2.1
theorem LKi.kn {h : mh_H} {o hh tt nn bh : Nat} {E : nv} {S : ab} {H TT NN BE : Option ab} (q : LKi h o hh tt nn bh E S H TT NN BE) : RK h nn NN := q.2.2.2.1
theorem LKi.kb {h : mh_H} {o hh tt nn bh : Nat} {E : nv} {S : ab} {H TT NN BE : Option ab} (q : LKi h o hh tt nn bh E S H TT NN BE) : RK h bh BE := q.2.2.2.2.1
theorem LKi.a2 {h : mh_H} {o hh tt nn bh : Nat} {E : nv} {S : ab} {H TT NN BE : Option ab} (q : LKi h o hh tt nn bh E S H TT NN BE) : mh_i h bh 2 = Int32.ofNat E.ar := q.2.2.2.2.2.1
theorem LKi.ci {h : mh_H} {o hh tt nn bh : Nat} {E : nv} {S : ab} {H TT NN BE : Option ab} (q : LKi h o hh tt nn bh E S H TT NN BE) : CI E.nu E.ar E.rm S H TT NN BE := q.2.2.2.2.2.2
section CLs
variable {d : Nat} {hO h h1 h2 : mh_H} {s0 sb o hh tt nn bh p k f i x y m b : Nat} {E : nv} {D : fd} {w0 w1 : wd} {S : ab} {H TT NN BE X : Option ab} {G : pgm} {J : pin} {c bs q : tr} {nx' : Int32}
theorem le_294 {A' B' : Option ab} (r : RK h x A') (q : RK h y B') (hn : ∀ A B, A' = some A → B' = some B → A.n = B.n ∧ A.a = B.a) : ∃ v : Int32, (v = 0 ∨ v = 1) ∧ (v = 1 ↔ o_le A' B') ∧ ∀ Q, mcall (d + 1) 294 [.ref x, .ref y] h Q = Q (some (.int v)) h := by
  cases A' with
  | none => exact ⟨1, Or.inr rfl, ⟨fun _ => trivial, fun _ => rfl⟩, k_294n r q⟩
  | some A =>
    cases B' with
    | none => exact ⟨0, Or.inl rfl, ⟨fun z => absurd z (by decide), fun z => absurd z (fun z => z)⟩, k_294m r q⟩
    | some B =>
      obtain ⟨e1, e2⟩ := hn A B rfl rfl
      exact k_294 r q e1 e2
/-- heads are higher: join or widen -/
theorem clm_h (W : WHL G J D f E p k m c b bs q hO) (I : LPi G hO h s0 sb o hh tt nn bh E D w0) (K : LKi h o hh tt nn bh E S H TT NN BE) (shS : shp E.nu E.ar E.rm (some S)) (hd1 : 1 ≤ d) (r : Nat) : ∃ h', LPi G hO h' s0 sb o hh tt nn bh E D w0 ∧ (∀ q, cnQ G h q → cnQ G h' q) ∧ RK h' o (some S) ∧ RK h' hh (if r ≤ 2 then o_join H NN else o_cl (o_wid TT NN)) ∧ RK h' tt (if r ≤ 2 then o_join H NN else o_wid TT NN) ∧ ∀ Q x10, r < 5000 → mw (d + 2) 268 Q 114 [some (.ref 115), some (.int (Int32.ofNat k)), some (.int (Int32.ofNat p)), some (.int nx'), some (.ref o), some (.int (Int32.ofNat s0)), some (.ref hh), some (.ref tt), some (.ref nn), some (.ref bh), some (.int (Int32.ofNat r)), x10, none, none] [] h = mw (d + 2) 268 Q 156 [some (.ref 115), some (.int (Int32.ofNat k)), some (.int (Int32.ofNat p)), some (.int nx'), some (.ref o), some (.int (Int32.ofNat s0)), some (.ref hh), some (.ref tt), some (.ref nn), some (.ref bh), some (.int (Int32.ofNat r)), x10, none, none] [] h' := by
  obtain ⟨d, rfl⟩ : ∃ d', d = d' + 1 := ⟨d - 1, by omega⟩
  obtain ⟨A, eA, sA, lA⟩ := K.ci.iH
  obtain ⟨D', eD, sD, lD⟩ := K.ci.iT
  obtain ⟨N', eN, sN'⟩ := K.ci.iQ
  have kh := K.kh
  have kt := K.kt
  have kn := K.kn
  have ko' := K.ko
  rw [eA] at kh ⊢
  rw [eD] at kt ⊢
  rw [eN] at kn ⊢
  obtain ⟨TA, a1, a2, a3⟩ := sA A rfl
  obtain ⟨TN, b1, b2, b3⟩ := sN' N' rfl
  have d01 := li_ne I I.r0 I.r1 (by omega)
  have d02 := li_ne I I.r0 I.r2 (by omega)
  have d12 := li_ne I I.r1 I.r2 (by omega)
  have do0 := li_lo I I.r0 (by omega)
  have do1 := li_lo I I.r1 (by omega)
  have gh := (RK_ko kh).1
  have gt := (RK_ko kt).1
  have e2c : (2 : Int32) = Int32.ofNat 2 := rfl
  by_cases hr : r ≤ 2
  · rw [if_pos hr, if_pos hr]
    obtain ⟨X1, f1, k1, run1⟩ := k_293 (d := d + 1) kh kn d02 (by omega) (by omega)
    obtain ⟨I1, c1, er1⟩ := li_k I (Nat.le_refl _) I.r0 f1 (RK_ko k1)
    have kt1 := li_o I I.r0 f1 ⟨_, I.r1⟩ (fun z => d01 z.symm) kt
    have ko1 := li_o I I.r0 f1 (lv_sp I.l) do0 ko'
    have gt1 := (RK_ko kt1).1
    obtain ⟨X2, f2, k2, run2⟩ := k_281 (d := d + 1 + 1) (RK_ko kt1) k1 (fun z => d01 z.symm)
    obtain ⟨I2, c2, er2⟩ := li_k I1 (by omega) I1.r1 f2 (RK_ko k2)
    refine ⟨X2, I2, fun q w => c2 q (c1 q w), li_o I1 I1.r1 f2 (lv_sp I1.l) do1 ko1, li_o I1 I1.r1 f2 ⟨_, I1.r0⟩ d01 k1, k2, fun Q x10 h5 => ?_⟩
    have le : (r ≤ 2) = True := eq_true hr
    have lt : (2 < r) = False := eq_false (by omega)
    clear W I I1 I2 K kh kt kn ko' k1 k2 kt1 ko1 c1 c2 f1 f2 sA lA sD lD sN' TA TN shS
    rw [s_268_114]
    simp (disch := omega) only [s_268_0, s_268_1, s_268_4, s_268_7, s_268_8, s_268_9, s_268_10, s_268_11, s_268_13, s_268_16, s_268_17, s_268_18, s_268_21, s_268_23, s_268_24, s_268_26, s_268_29, s_268_29n, s_268_31, s_268_32, s_268_34, s_268_37, s_268_37n, s_268_39, s_268_40, s_268_43, s_268_43n, s_268_45, s_268_46, s_268_49, s_268_49n, s_268_51, s_268_53, s_268_56, s_268_59, s_268_60, s_268_61, s_268_62, s_268_64, s_268_66, s_268_68, s_268_70, s_268_73, s_268_74, s_268_76, s_268_79, s_268_80, s_268_81, s_268_82, s_268_83, s_268_85, s_268_87, s_268_89, s_268_91, s_268_94, s_268_95, s_268_97, s_268_99, s_268_101, s_268_104, s_268_107, s_268_108, s_268_111, s_268_116, s_268_117, s_268_120, s_268_122, s_268_124, s_268_127, s_268_129, s_268_131, s_268_134, s_268_137, s_268_139, s_268_141, s_268_144, s_268_146, s_268_148, s_268_151, s_268_153, s_268_157, s_268_158, s_268_159, s_268_161, s_268_163, s_268_165, s_268_167, s_268_170, s_268_173, s_268_176, s_268_177, s_268_180, s_268_180n, s_268_182, s_268_183, s_268_186, s_268_186n, s_268_188, s_268_189, s_268_191, s_268_192, s_268_194, s_268_196, s_268_197, s_268_200, s_268_202, s_268_205, s_268_206, s_268_209, s_268_212, s_268_214, s_268_216, s_268_219, s_268_222, s_268_224, s_268_226, s_268_229, s_268_232, s_268_233, s_268_236, s_268_237, s_268_239, s_268_241, s_268_244, s_268_246, s_268_248, s_268_251, s_268_252, s_268_253, s_268_254, s_268_256, s_268_258, s_268_260, s_268_262, s_268_265, s_268_267, s_268_269, s_268_272, s_268_274, s_268_276, s_268_279, s_268_281, s_268_283, s_268_286, s_268_288, s_268_290, s_268_293, s_268_296, s_268_299, s_268_300, s_268_303, s_268_306, s_268_307, s_268_308, s_268_309, s_268_311, s_268_313, s_268_315, s_268_317, s_268_320, s_268_322, s_268_324, s_268_327, s_268_328, s_268_330, s_268_333, e_268, mv_i_1, mv_l_1, mv_a_1, mv_a_2, mv_a_3, mk2_n, mk2_i, mk2_l, mk2_a, mk2_u, mk2_x, mB_T, mB_F, mS_cons, mS_nil, mSB_T, mSB_F, mca_nil, mca_i, mca_l, mca_r, mca_u, mca_x, mcat_i, mcat_l, mcat_r, mcat_u, mcat_x, mK_some, mK_none, va_rf_s, va_rf_n, lgc_eq, lgc_lt, lgc_gt, lgc_ge, lgc_le, mrd_104, mrd_105, mrd_106, mrd_107, true_and, and_true, and_self, false_and, and_false, true_or, or_true, false_or, or_false, not_true_eq_false, not_false_eq_true, mgb, mga, mgr, mN, reduceCtorEq, ↓reduceIte, eq_self, ge_iff_le, gt_iff_lt, Nat.reduceAdd, Nat.reduceMul, Nat.reduceSub, Nat.reduceLT, Nat.reduceGT, Nat.reduceEqDiff, Nat.reduceLeDiff, Nat.left_eq_add, Nat.add_eq_left, Nat.reduceMod, Nat.reduceDiv, Nat.succ_ne_self, gh, gt1, e2c, nn_le, nn_lt, le, lt, run1, run2]
  · rw [if_neg hr, if_neg hr]
    have hnD := sD.n
    have haD := sD.a
    obtain ⟨X1, f1, k1, run1⟩ := k_295 (d := d) kt kn d12 (by omega) (by omega) (fun i hi => ⟨sD.C.1 i (by omega), TN.t.1.1 i (by omega)⟩)
    obtain ⟨I1, c1, er1⟩ := li_k I (by omega) I.r1 f1 (RK_ko k1)
    have kh1 := li_o I I.r1 f1 ⟨_, I.r0⟩ d01 kh
    have ko1 := li_o I I.r1 f1 (lv_sp I.l) do1 ko'
    have gh1 := (RK_ko kh1).1
    obtain ⟨X2, f2, k2, run2⟩ := k_281 (d := d + 1 + 1) (RK_ko kh1) k1 d01
    obtain ⟨I2, c2, er2⟩ := li_k I1 (Nat.le_refl _) I1.r0 f2 (RK_ko k2)
    have kt2 := li_o I1 I1.r0 f2 ⟨_, I1.r1⟩ (fun z => d01 z.symm) k1
    have ko2 := li_o I1 I1.r0 f2 (lv_sp I1.l) do0 ko1
    have gh2 := (RK_ko k2).1
    have sw := shL_wid sD sN'
    have swn := sw.n
    obtain ⟨-, q2⟩ := CI_next shS K.ci r
    rw [if_neg hr, eD, eN] at q2
    obtain ⟨Z, z1, z2, z3⟩ := q2
    have z1' : a_wid D' N' = Z := by
      have : some (a_wid D' N') = some Z := z1
      injection this
    obtain ⟨TS, p1, -, -⟩ := shS S rfl
    obtain ⟨X3, f3, k3, run3⟩ := k_286 (d := d + 1) k2 (by rw [swn]; exact sw.C) (Or.inl (fun i j hi hj => by
      rw [swn] at hi hj
      have l1 := z3 i j hi hj
      rw [← z1'] at l1
      have l2 := TS.lo2 (i := i) (j := j) (by omega) (by omega)
      refine ⟨by omega, ?_⟩
      by_cases e : i = j
      · rw [e, sw.C.1 j hj]; decide
      · have u := sw.up i j hi hj e
        have g1 : gI j ≤ 2147483648 := by unfold gI; split <;> omega
        have g2 : gI (oc_b i) ≤ 2147483648 := by unfold gI; split <;> omega
        omega))
    obtain ⟨I3, c3, er3⟩ := li_k I2 (Nat.le_refl _) I2.r0 f3 (RK_ko k3)
    refine ⟨X3, I3, fun q w => c3 q (c2 q (c1 q w)), li_o I2 I2.r0 f3 (lv_sp I2.l) do0 ko2, k3, li_o I2 I2.r0 f3 ⟨_, I2.r1⟩ (fun z => d01 z.symm) kt2, fun Q x10 h5 => ?_⟩
    have run1' : ∀ Q, mcall (d + 1 + 1) 295 [.ref tt, .ref nn] h Q = Q none X1 := run1
    have le : (r ≤ 2) = False := eq_false hr
    have lt : (2 < r) = True := eq_true (by omega)
    clear W I I1 I2 I3 K kh kt kn ko' k1 k2 k3 kt2 kh1 ko1 ko2 c1 c2 c3 f1 f2 f3 sA lA sD lD sN' TA TN shS sw z3 TS
    rw [s_268_114]
    simp (disch := omega) only [s_268_0, s_268_1, s_268_4, s_268_7, s_268_8, s_268_9, s_268_10, s_268_11, s_268_13, s_268_16, s_268_17, s_268_18, s_268_21, s_268_23, s_268_24, s_268_26, s_268_29, s_268_29n, s_268_31, s_268_32, s_268_34, s_268_37, s_268_37n, s_268_39, s_268_40, s_268_43, s_268_43n, s_268_45, s_268_46, s_268_49, s_268_49n, s_268_51, s_268_53, s_268_56, s_268_59, s_268_60, s_268_61, s_268_62, s_268_64, s_268_66, s_268_68, s_268_70, s_268_73, s_268_74, s_268_76, s_268_79, s_268_80, s_268_81, s_268_82, s_268_83, s_268_85, s_268_87, s_268_89, s_268_91, s_268_94, s_268_95, s_268_97, s_268_99, s_268_101, s_268_104, s_268_107, s_268_108, s_268_111, s_268_116, s_268_117, s_268_120, s_268_122, s_268_124, s_268_127, s_268_129, s_268_131, s_268_134, s_268_137, s_268_139, s_268_141, s_268_144, s_268_146, s_268_148, s_268_151, s_268_153, s_268_157, s_268_158, s_268_159, s_268_161, s_268_163, s_268_165, s_268_167, s_268_170, s_268_173, s_268_176, s_268_177, s_268_180, s_268_180n, s_268_182, s_268_183, s_268_186, s_268_186n, s_268_188, s_268_189, s_268_191, s_268_192, s_268_194, s_268_196, s_268_197, s_268_200, s_268_202, s_268_205, s_268_206, s_268_209, s_268_212, s_268_214, s_268_216, s_268_219, s_268_222, s_268_224, s_268_226, s_268_229, s_268_232, s_268_233, s_268_236, s_268_237, s_268_239, s_268_241, s_268_244, s_268_246, s_268_248, s_268_251, s_268_252, s_268_253, s_268_254, s_268_256, s_268_258, s_268_260, s_268_262, s_268_265, s_268_267, s_268_269, s_268_272, s_268_274, s_268_276, s_268_279, s_268_281, s_268_283, s_268_286, s_268_288, s_268_290, s_268_293, s_268_296, s_268_299, s_268_300, s_268_303, s_268_306, s_268_307, s_268_308, s_268_309, s_268_311, s_268_313, s_268_315, s_268_317, s_268_320, s_268_322, s_268_324, s_268_327, s_268_328, s_268_330, s_268_333, e_268, mv_i_1, mv_l_1, mv_a_1, mv_a_2, mv_a_3, mk2_n, mk2_i, mk2_l, mk2_a, mk2_u, mk2_x, mB_T, mB_F, mS_cons, mS_nil, mSB_T, mSB_F, mca_nil, mca_i, mca_l, mca_r, mca_u, mca_x, mcat_i, mcat_l, mcat_r, mcat_u, mcat_x, mK_some, mK_none, va_rf_s, va_rf_n, lgc_eq, lgc_lt, lgc_gt, lgc_ge, lgc_le, mrd_104, mrd_105, mrd_106, mrd_107, true_and, and_true, and_self, false_and, and_false, true_or, or_true, false_or, or_false, not_true_eq_false, not_false_eq_true, mgb, mga, mgr, mN, reduceCtorEq, ↓reduceIte, eq_self, ge_iff_le, gt_iff_lt, Nat.reduceAdd, Nat.reduceMul, Nat.reduceSub, Nat.reduceLT, Nat.reduceGT, Nat.reduceEqDiff, Nat.reduceLeDiff, Nat.left_eq_add, Nat.add_eq_left, Nat.reduceMod, Nat.reduceDiv, Nat.succ_ne_self, gt, gh1, gh2, e2c, nn_le, nn_lt, le, lt, run1', run2, run3]
/-- the climb ends here -/
theorem clm_x (I : LPi G hO h s0 sb o hh tt nn bh E D w0) (K : LKi h o hh tt nn bh E S H TT NN BE) {x10 : Option Value} : ∀ Q, (o_le NN TT ∨ 4000 < wW w0 → mw (d + 2) 268 Q 97 [some (.ref 115), some (.int (Int32.ofNat k)), some (.int (Int32.ofNat p)), some (.int nx'), some (.ref o), some (.int (Int32.ofNat s0)), some (.ref hh), some (.ref tt), some (.ref nn), some (.ref bh), x10, none, none, none] [] h = mw (d + 2) 268 Q 176 [some (.ref 115), some (.int (Int32.ofNat k)), some (.int (Int32.ofNat p)), some (.int nx'), some (.ref o), some (.int (Int32.ofNat s0)), some (.ref hh), some (.ref tt), some (.ref nn), some (.ref bh), x10, none, none, none] [] h) ∧ (¬ (o_le NN TT ∨ 4000 < wW w0) → mw (d + 2) 268 Q 97 [some (.ref 115), some (.int (Int32.ofNat k)), some (.int (Int32.ofNat p)), some (.int nx'), some (.ref o), some (.int (Int32.ofNat s0)), some (.ref hh), some (.ref tt), some (.ref nn), some (.ref bh), x10, none, none, none] [] h = mw (d + 2) 268 Q 114 [some (.ref 115), some (.int (Int32.ofNat k)), some (.int (Int32.ofNat p)), some (.int nx'), some (.ref o), some (.int (Int32.ofNat s0)), some (.ref hh), some (.ref tt), some (.ref nn), some (.ref bh), x10, none, none, none] [] h) := fun Q => by
  obtain ⟨D', eD, sD, lD⟩ := K.ci.iT
  obtain ⟨N', eN, sN'⟩ := K.ci.iQ
  obtain ⟨TN, b1, b2, b3⟩ := sN' N' rfl
  have hnD := sD.n
  have haD := sD.a
  obtain ⟨v, v1, v2, run⟩ := le_294 (d := d) K.kn K.kt (fun A B e1 e2 => by
    rw [eN] at e1
    rw [eD] at e2
    cases e1
    cases e2
    exact ⟨by omega, by omega⟩)
  have g := I.A.j.a.g
  have gn := (RK_ko K.kn).1
  have a9 := I.A.m
  have e00 : ((0 : Int32) = 0) = True := by decide
  have e10 : ((1 : Int32) = 0) = False := by decide
  have k1 : kb true = 1 := rfl
  have k0 : kb false = 0 := rfl
  refine ⟨fun hq => ?_, fun hq => ?_⟩
  · by_cases le : o_le NN TT
    · have ev := v2.mpr le
      subst ev
      clear I K sD lD sN' TN
      rw [s_268_97]
      simp (disch := omega) only [s_268_0, s_268_1, s_268_4, s_268_7, s_268_8, s_268_9, s_268_10, s_268_11, s_268_13, s_268_16, s_268_17, s_268_18, s_268_21, s_268_23, s_268_24, s_268_26, s_268_29, s_268_29n, s_268_31, s_268_32, s_268_34, s_268_37, s_268_37n, s_268_39, s_268_40, s_268_43, s_268_43n, s_268_45, s_268_46, s_268_49, s_268_49n, s_268_51, s_268_53, s_268_56, s_268_59, s_268_60, s_268_61, s_268_62, s_268_64, s_268_66, s_268_68, s_268_70, s_268_73, s_268_74, s_268_76, s_268_79, s_268_80, s_268_81, s_268_82, s_268_83, s_268_85, s_268_87, s_268_89, s_268_91, s_268_94, s_268_95, s_268_99, s_268_101, s_268_104, s_268_107, s_268_108, s_268_111, s_268_114, s_268_116, s_268_117, s_268_120, s_268_122, s_268_124, s_268_127, s_268_129, s_268_131, s_268_134, s_268_137, s_268_139, s_268_141, s_268_144, s_268_146, s_268_148, s_268_151, s_268_153, s_268_156, s_268_157, s_268_158, s_268_159, s_268_161, s_268_163, s_268_165, s_268_167, s_268_170, s_268_173, s_268_177, s_268_180, s_268_180n, s_268_182, s_268_183, s_268_186, s_268_186n, s_268_188, s_268_189, s_268_191, s_268_192, s_268_194, s_268_196, s_268_197, s_268_200, s_268_202, s_268_205, s_268_206, s_268_209, s_268_212, s_268_214, s_268_216, s_268_219, s_268_222, s_268_224, s_268_226, s_268_229, s_268_232, s_268_233, s_268_236, s_268_237, s_268_239, s_268_241, s_268_244, s_268_246, s_268_248, s_268_251, s_268_252, s_268_253, s_268_254, s_268_256, s_268_258, s_268_260, s_268_262, s_268_265, s_268_267, s_268_269, s_268_272, s_268_274, s_268_276, s_268_279, s_268_281, s_268_283, s_268_286, s_268_288, s_268_290, s_268_293, s_268_296, s_268_299, s_268_300, s_268_303, s_268_306, s_268_307, s_268_308, s_268_309, s_268_311, s_268_313, s_268_315, s_268_317, s_268_320, s_268_322, s_268_324, s_268_327, s_268_328, s_268_330, s_268_333, e_268, mv_i_1, mv_l_1, mv_a_1, mv_a_2, mv_a_3, mk2_n, mk2_i, mk2_l, mk2_a, mk2_u, mk2_x, mB_T, mB_F, mS_cons, mS_nil, mSB_T, mSB_F, mca_nil, mca_i, mca_l, mca_r, mca_u, mca_x, mcat_i, mcat_l, mcat_r, mcat_u, mcat_x, mK_some, mK_none, va_rf_s, va_rf_n, lgc_eq, lgc_lt, lgc_gt, lgc_ge, lgc_le, mrd_104, mrd_105, mrd_106, mrd_107, true_and, and_true, and_self, false_and, and_false, true_or, or_true, false_or, or_false, not_true_eq_false, not_false_eq_true, mgb, mga, mgr, mN, reduceCtorEq, ↓reduceIte, eq_self, ge_iff_le, gt_iff_lt, Nat.reduceAdd, Nat.reduceMul, Nat.reduceSub, Nat.reduceLT, Nat.reduceGT, Nat.reduceEqDiff, Nat.reduceLeDiff, Nat.left_eq_add, Nat.add_eq_left, Nat.reduceMod, Nat.reduceDiv, Nat.succ_ne_self, g, gn, run, e10]
    · have ev : v = 0 := v1.elim (fun z => z) (fun z => absurd (v2.mp z) le)
      subst ev
      have hm : 4000 < wW w0 := hq.elim (fun z => absurd z le) (fun z => z)
      rw [decide_eq_true hm, k1] at a9
      clear I K sD lD sN' TN
      rw [s_268_97]
      simp (disch := omega) only [s_268_0, s_268_1, s_268_4, s_268_7, s_268_8, s_268_9, s_268_10, s_268_11, s_268_13, s_268_16, s_268_17, s_268_18, s_268_21, s_268_23, s_268_24, s_268_26, s_268_29, s_268_29n, s_268_31, s_268_32, s_268_34, s_268_37, s_268_37n, s_268_39, s_268_40, s_268_43, s_268_43n, s_268_45, s_268_46, s_268_49, s_268_49n, s_268_51, s_268_53, s_268_56, s_268_59, s_268_60, s_268_61, s_268_62, s_268_64, s_268_66, s_268_68, s_268_70, s_268_73, s_268_74, s_268_76, s_268_79, s_268_80, s_268_81, s_268_82, s_268_83, s_268_85, s_268_87, s_268_89, s_268_91, s_268_94, s_268_95, s_268_99, s_268_101, s_268_104, s_268_107, s_268_108, s_268_111, s_268_114, s_268_116, s_268_117, s_268_120, s_268_122, s_268_124, s_268_127, s_268_129, s_268_131, s_268_134, s_268_137, s_268_139, s_268_141, s_268_144, s_268_146, s_268_148, s_268_151, s_268_153, s_268_156, s_268_157, s_268_158, s_268_159, s_268_161, s_268_163, s_268_165, s_268_167, s_268_170, s_268_173, s_268_177, s_268_180, s_268_180n, s_268_182, s_268_183, s_268_186, s_268_186n, s_268_188, s_268_189, s_268_191, s_268_192, s_268_194, s_268_196, s_268_197, s_268_200, s_268_202, s_268_205, s_268_206, s_268_209, s_268_212, s_268_214, s_268_216, s_268_219, s_268_222, s_268_224, s_268_226, s_268_229, s_268_232, s_268_233, s_268_236, s_268_237, s_268_239, s_268_241, s_268_244, s_268_246, s_268_248, s_268_251, s_268_252, s_268_253, s_268_254, s_268_256, s_268_258, s_268_260, s_268_262, s_268_265, s_268_267, s_268_269, s_268_272, s_268_274, s_268_276, s_268_279, s_268_281, s_268_283, s_268_286, s_268_288, s_268_290, s_268_293, s_268_296, s_268_299, s_268_300, s_268_303, s_268_306, s_268_307, s_268_308, s_268_309, s_268_311, s_268_313, s_268_315, s_268_317, s_268_320, s_268_322, s_268_324, s_268_327, s_268_328, s_268_330, s_268_333, e_268, mv_i_1, mv_l_1, mv_a_1, mv_a_2, mv_a_3, mk2_n, mk2_i, mk2_l, mk2_a, mk2_u, mk2_x, mB_T, mB_F, mS_cons, mS_nil, mSB_T, mSB_F, mca_nil, mca_i, mca_l, mca_r, mca_u, mca_x, mcat_i, mcat_l, mcat_r, mcat_u, mcat_x, mK_some, mK_none, va_rf_s, va_rf_n, lgc_eq, lgc_lt, lgc_gt, lgc_ge, lgc_le, mrd_104, mrd_105, mrd_106, mrd_107, true_and, and_true, and_self, false_and, and_false, true_or, or_true, false_or, or_false, not_true_eq_false, not_false_eq_true, mgb, mga, mgr, mN, reduceCtorEq, ↓reduceIte, eq_self, ge_iff_le, gt_iff_lt, Nat.reduceAdd, Nat.reduceMul, Nat.reduceSub, Nat.reduceLT, Nat.reduceGT, Nat.reduceEqDiff, Nat.reduceLeDiff, Nat.left_eq_add, Nat.add_eq_left, Nat.reduceMod, Nat.reduceDiv, Nat.succ_ne_self, g, gn, run, e00, e10, a9]
  · have le : ¬ o_le NN TT := fun z => hq (Or.inl z)
    have ev : v = 0 := v1.elim (fun z => z) (fun z => absurd (v2.mp z) le)
    subst ev
    have hm : ¬ 4000 < wW w0 := fun z => hq (Or.inr z)
    rw [decide_eq_false hm, k0] at a9
    clear I K sD lD sN' TN
    rw [s_268_97]
    simp (disch := omega) only [s_268_0, s_268_1, s_268_4, s_268_7, s_268_8, s_268_9, s_268_10, s_268_11, s_268_13, s_268_16, s_268_17, s_268_18, s_268_21, s_268_23, s_268_24, s_268_26, s_268_29, s_268_29n, s_268_31, s_268_32, s_268_34, s_268_37, s_268_37n, s_268_39, s_268_40, s_268_43, s_268_43n, s_268_45, s_268_46, s_268_49, s_268_49n, s_268_51, s_268_53, s_268_56, s_268_59, s_268_60, s_268_61, s_268_62, s_268_64, s_268_66, s_268_68, s_268_70, s_268_73, s_268_74, s_268_76, s_268_79, s_268_80, s_268_81, s_268_82, s_268_83, s_268_85, s_268_87, s_268_89, s_268_91, s_268_94, s_268_95, s_268_99, s_268_101, s_268_104, s_268_107, s_268_108, s_268_111, s_268_116, s_268_117, s_268_120, s_268_122, s_268_124, s_268_127, s_268_129, s_268_131, s_268_134, s_268_137, s_268_139, s_268_141, s_268_144, s_268_146, s_268_148, s_268_151, s_268_153, s_268_156, s_268_157, s_268_158, s_268_159, s_268_161, s_268_163, s_268_165, s_268_167, s_268_170, s_268_173, s_268_176, s_268_177, s_268_180, s_268_180n, s_268_182, s_268_183, s_268_186, s_268_186n, s_268_188, s_268_189, s_268_191, s_268_192, s_268_194, s_268_196, s_268_197, s_268_200, s_268_202, s_268_205, s_268_206, s_268_209, s_268_212, s_268_214, s_268_216, s_268_219, s_268_222, s_268_224, s_268_226, s_268_229, s_268_232, s_268_233, s_268_236, s_268_237, s_268_239, s_268_241, s_268_244, s_268_246, s_268_248, s_268_251, s_268_252, s_268_253, s_268_254, s_268_256, s_268_258, s_268_260, s_268_262, s_268_265, s_268_267, s_268_269, s_268_272, s_268_274, s_268_276, s_268_279, s_268_281, s_268_283, s_268_286, s_268_288, s_268_290, s_268_293, s_268_296, s_268_299, s_268_300, s_268_303, s_268_306, s_268_307, s_268_308, s_268_309, s_268_311, s_268_313, s_268_315, s_268_317, s_268_320, s_268_322, s_268_324, s_268_327, s_268_328, s_268_330, s_268_333, e_268, mv_i_1, mv_l_1, mv_a_1, mv_a_2, mv_a_3, mk2_n, mk2_i, mk2_l, mk2_a, mk2_u, mk2_x, mB_T, mB_F, mS_cons, mS_nil, mSB_T, mSB_F, mca_nil, mca_i, mca_l, mca_r, mca_u, mca_x, mcat_i, mcat_l, mcat_r, mcat_u, mcat_x, mK_some, mK_none, va_rf_s, va_rf_n, lgc_eq, lgc_lt, lgc_gt, lgc_ge, lgc_le, mrd_104, mrd_105, mrd_106, mrd_107, true_and, and_true, and_self, false_and, and_false, true_or, or_true, false_or, or_false, not_true_eq_false, not_false_eq_true, mgb, mga, mgr, mN, reduceCtorEq, ↓reduceIte, eq_self, ge_iff_le, gt_iff_lt, Nat.reduceAdd, Nat.reduceMul, Nat.reduceSub, Nat.reduceLT, Nat.reduceGT, Nat.reduceEqDiff, Nat.reduceLeDiff, Nat.left_eq_add, Nat.add_eq_left, Nat.reduceMod, Nat.reduceDiv, Nat.succ_ne_self, g, gn, run, e00, a9]
/-- heads climb -/
theorem clm_r (W : WHL G J D f E p k m c b bs q hO) (shS : shp E.nu E.ar E.rm (some S)) (hd : 4 * (G.E p - p) + 826 ≤ d) : ∀ g h H TT NN BE w0 mx r, LPi G hO h s0 (s0 + 4) o hh tt nn bh E D w0 → LKi h o hh tt nn bh E S H TT NN BE → cNq G h p w0 → 4001 ≤ g + wW w0 → r + g ≤ 4500 → s0 + (clm G (DB G f) p (some S) g H TT NN BE w0 mx r).2.2.2.2 + 1 ≤ 2048 → ∃ h' x10 TT', LPi G hO h' s0 (s0 + 4) o hh tt nn bh E D (clm G (DB G f) p (some S) g H TT NN BE w0 mx r).2.2.2.1 ∧ LKi h' o hh tt nn bh E S (clm G (DB G f) p (some S) g H TT NN BE w0 mx r).1 TT' (clm G (DB G f) p (some S) g H TT NN BE w0 mx r).2.1 (clm G (DB G f) p (some S) g H TT NN BE w0 mx r).2.2.1 ∧ cNq G h' p (clm G (DB G f) p (some S) g H TT NN BE w0 mx r).2.2.2.1 ∧ ∀ Q, mw (d + 2) 268 Q 97 [some (.ref 115), some (.int (Int32.ofNat k)), some (.int (Int32.ofNat p)), some (.int nx'), some (.ref o), some (.int (Int32.ofNat s0)), some (.ref hh), some (.ref tt), some (.ref nn), some (.ref bh), some (.int (Int32.ofNat r)), none, none, none] [] h = mw (d + 2) 268 Q 176 [some (.ref 115), some (.int (Int32.ofNat k)), some (.int (Int32.ofNat p)), some (.int nx'), some (.ref o), some (.int (Int32.ofNat s0)), some (.ref hh), some (.ref tt), some (.ref nn), some (.ref bh), x10, none, none, none] [] h' := by
  intro g
  induction g with
  | zero =>
    intro h H TT NN BE w0 mx r I K cn hg hr hs
    exact ⟨h, _, TT, I, K, cn, fun Q => (clm_x I K Q).1 (Or.inr (by omega))⟩
  | succ g ih =>
    intro h H TT NN BE w0 mx r I K cn hg hr hs
    rw [clm_1] at hs ⊢
    by_cases hq : o_le NN TT ∨ 4000 < wW w0
    · rw [if_pos hq] at hs ⊢
      exact ⟨h, _, TT, I, K, cn, fun Q => (clm_x I K Q).1 hq⟩
    · rw [if_neg hq] at hs ⊢
      have hw : wW w0 ≤ 4000 := by
        have : ¬ 4000 < wW w0 := fun z => hq (Or.inr z)
        omega
      obtain ⟨h1, I1, c1, ko1, kh1, kt1, run1⟩ := clm_h (d := d) (nx' := nx') W I K shS (by omega) r
      obtain ⟨⟨A', eA, sA, lA⟩, hT⟩ := CI_next shS K.ci r
      generalize eH : (if r ≤ 2 then o_join H NN else o_cl (o_wid TT NN)) = H1 at *
      generalize eT : (if r ≤ 2 then o_join H NN else o_wid TT NN) = TT1 at *
      have mxx := clm_mx (G := G) (rc := DB G f) (p := p) (S := some S) g H1 TT1 (rnd G (DB G f) p (some S) H1 w0).1 (rnd G (DB G f) p (some S) H1 w0).2.1 (rnd G (DB G f) p (some S) H1 w0).2.2.1 (max mx (4 + (rnd G (DB G f) p (some S) H1 w0).2.2.2)) (r + 1)
      have sH1 : shp E.nu E.ar E.rm H1 := by rw [eA]; exact sA
      have aH1 : mh_i h1 hh 2 = Int32.ofNat E.ar := by
        have kk := kh1
        rw [eA] at kk
        rw [KM.a kk, (sA A' rfl).2.2.1]
      obtain ⟨h2, I2, kn2, kb2, ab2, keep, -, rk, cn2, shB, shN, run2⟩ := li_r (d := d) (sb := s0 + 4) W I1 (by omega) hw I1.r0 (by omega) I1.r2 (by omega) (by omega) (by omega) (by omega) ko1 kh1 shS sH1 aH1 (by omega) hd
      have do2 := li_lo I1 I1.r2 (by omega)
      have do3 := li_lo I1 I1.r3 (by omega)
      have ko2 := keep o _ (lv_w I1.l (by omega)) do2 do3 ko1
      have kh2 := keep hh _ ⟨s0, by omega, I1.r0⟩ (li_ne I1 I1.r0 I1.r2 (by omega)) (li_ne I1 I1.r0 I1.r3 (by omega)) kh1
      have kt2 := keep tt _ ⟨s0 + 1, by omega, I1.r1⟩ (li_ne I1 I1.r1 I1.r2 (by omega)) (li_ne I1 I1.r1 I1.r3 (by omega)) kt1
      have wr : wW w0 + wi H1 ≤ wW (rnd G (DB G f) p (some S) H1 w0).2.2.1 := rnd_w (DB_w G f)
      have wi1 : wi H1 = 1 := by rw [eA]; rfl
      have hnN : ∃ N, (rnd G (DB G f) p (some S) H1 w0).1 = some N := by
        unfold rnd
        dsimp only
        cases o_keep (G.n p) (G.a p) (DB G f (p + 1) (G.E p) (fo G p H1).1 (wl p H1 (fo G p H1).2.2 w0)).1 <;> exact ⟨_, rfl⟩
      obtain ⟨N2, eN2⟩ := hnN
      obtain ⟨h3, x10, TT', I3, K3, cn3', run3⟩ := ih h2 H1 TT1 _ _ _ (max mx (4 + (rnd G (DB G f) p (some S) H1 w0).2.2.2)) (r + 1) I2 (LKi.of ⟨ko2, kh2, kt2, kn2, kb2, ab2, ⟨⟨A', eA, sA, lA⟩, hT, ⟨N2, eN2, by rw [← eN2]; exact shN⟩, shB⟩⟩) cn2 (by omega) (by omega) hs
      refine ⟨h3, x10, TT', I3, K3, cn3', fun Q => ?_⟩
      rw [(clm_x I K Q).2 hq, run1 Q none (by omega), ← run3]
      have g1 := I1.A.j.a.g
      have e1' : ∀ k, Int32.ofNat k + 1 = Int32.ofNat (k + 1) := fun k => nn_add (a := k) (b := 1)
      clear W I I1 I2 I3 K K3 ko1 kh1 kt1 ko2 kh2 kt2 kn2 kb2 keep cn cn2 cn3' c1 shS shB sH1 sA lA hT ih run3 rk
      rw [s_268_156]
      simp (disch := omega) only [s_268_0, s_268_1, s_268_4, s_268_7, s_268_8, s_268_9, s_268_10, s_268_11, s_268_13, s_268_16, s_268_17, s_268_18, s_268_21, s_268_23, s_268_24, s_268_26, s_268_29, s_268_29n, s_268_31, s_268_32, s_268_34, s_268_37, s_268_37n, s_268_39, s_268_40, s_268_43, s_268_43n, s_268_45, s_268_46, s_268_49, s_268_49n, s_268_51, s_268_53, s_268_56, s_268_59, s_268_60, s_268_61, s_268_62, s_268_64, s_268_66, s_268_68, s_268_70, s_268_73, s_268_74, s_268_76, s_268_79, s_268_80, s_268_81, s_268_82, s_268_83, s_268_85, s_268_87, s_268_89, s_268_91, s_268_94, s_268_95, s_268_99, s_268_101, s_268_104, s_268_107, s_268_108, s_268_111, s_268_114, s_268_116, s_268_117, s_268_120, s_268_122, s_268_124, s_268_127, s_268_129, s_268_131, s_268_134, s_268_137, s_268_139, s_268_141, s_268_144, s_268_146, s_268_148, s_268_151, s_268_153, s_268_157, s_268_158, s_268_159, s_268_161, s_268_163, s_268_165, s_268_167, s_268_170, s_268_173, s_268_176, s_268_177, s_268_180, s_268_180n, s_268_182, s_268_183, s_268_186, s_268_186n, s_268_188, s_268_189, s_268_191, s_268_192, s_268_194, s_268_196, s_268_197, s_268_200, s_268_202, s_268_205, s_268_206, s_268_209, s_268_212, s_268_214, s_268_216, s_268_219, s_268_222, s_268_224, s_268_226, s_268_229, s_268_232, s_268_233, s_268_236, s_268_237, s_268_239, s_268_241, s_268_244, s_268_246, s_268_248, s_268_251, s_268_252, s_268_253, s_268_254, s_268_256, s_268_258, s_268_260, s_268_262, s_268_265, s_268_267, s_268_269, s_268_272, s_268_274, s_268_276, s_268_279, s_268_281, s_268_283, s_268_286, s_268_288, s_268_290, s_268_293, s_268_296, s_268_299, s_268_300, s_268_303, s_268_306, s_268_307, s_268_308, s_268_309, s_268_311, s_268_313, s_268_315, s_268_317, s_268_320, s_268_322, s_268_324, s_268_327, s_268_328, s_268_330, s_268_333, e_268, mv_i_1, mv_l_1, mv_a_1, mv_a_2, mv_a_3, mk2_n, mk2_i, mk2_l, mk2_a, mk2_u, mk2_x, mB_T, mB_F, mS_cons, mS_nil, mSB_T, mSB_F, mca_nil, mca_i, mca_l, mca_r, mca_u, mca_x, mcat_i, mcat_l, mcat_r, mcat_u, mcat_x, mK_some, mK_none, va_rf_s, va_rf_n, lgc_eq, lgc_lt, lgc_gt, lgc_ge, lgc_le, mrd_104, mrd_105, mrd_106, mrd_107, true_and, and_true, and_self, false_and, and_false, true_or, or_true, false_or, or_false, not_true_eq_false, not_false_eq_true, mgb, mga, mgr, mN, reduceCtorEq, ↓reduceIte, eq_self, ge_iff_le, gt_iff_lt, Nat.reduceAdd, Nat.reduceMul, Nat.reduceSub, Nat.reduceLT, Nat.reduceGT, Nat.reduceEqDiff, Nat.reduceLeDiff, Nat.left_eq_add, Nat.add_eq_left, Nat.reduceMod, Nat.reduceDiv, Nat.succ_ne_self, g1, run2, e1']
end CLs
