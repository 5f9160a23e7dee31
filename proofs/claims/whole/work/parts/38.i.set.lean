set_option maxRecDepth 100000
/-! Effect.set: its limits, and whole -/
section SETl
variable {d : Nat} {h Z : mh_H} {P R lP X Y C E TT UU SC SP nC nE nS nb na H : Nat} {sN : Int → Prop} {en : Int → Nat} {A B : ab} {p0 c0 sum x y i v w : Nat} {l : List (Nat × Bool × tr)} {new : Bool} {lo hi : Int} {t : tr} {tu : Bool}
theorem lim_c {M : ab} {L : List lm} {c : oc_M} {u : Nat} {k : Int64} (r : RL Z H (a_lims L M) c u) (hv : v < 2 * M.n) (hw : w < 2 * M.n) (hvw : v ≠ oc_b w) (hk : -1152921504606846976 ≤ k.toInt ∧ k.toInt ≤ 1152921504606846976) : ∃ Z' u', fq (sW H 52) Z Z' ∧ RL Z' H (a_lims (L ++ [(v, w, k.toInt)]) M) c u' ∧ ∀ Q, mcall (d + 1) 147 [.ref H, .int (Int32.ofNat v), .int (Int32.ofNat w), .long k] Z Q = Q none Z' := by
  obtain ⟨f1, -⟩ := lims_f L M
  obtain ⟨Z', u', f, r', e⟩ := l_147 (d := d) 52 r (by rw [f1]; exact hv) (by rw [f1]; exact hw) hvw hk
  exact ⟨Z', u', f, by rw [lims_1]; exact r', e⟩
theorem ES.n35 (S : ES h P R lP X Y C E TT UU SC SP nC nE nS nb na H A) : ¬ sW H 52 35 ∧ ¬ sW H 52 34 := by
  obtain ⟨sH, aH⟩ := cs_so S.G.S S.c
  unfold cAd at aH
  unfold sW
  omega
theorem set_cl (S : ES h P R lP X Y C E TT UU SC SP nC nE nS nb na H A) (Q' : LQ sN en A l) (hm : l.length ≤ 12000) (K : CW h nb p0 TT UU en A (l.map (pgE en A))) (r2 : mh_r h 34 2 = some H) (k : RS h H (some (a_base A B (l.map (pgE en A)) x new))) (O : SO A B (l.map (pgE en A)) x new lo hi) {a3 a5 : Int64} {sm : Int32} : ∃ h' w8 c u, fG (soW H) h h' ∧ RL h' H (a_lims (clL A (l.map (pgE en A)) x 12) (a_base A B (l.map (pgE en A)) x new)) c u ∧ ∀ Q, mw (d + 4) 16 Q 143 [some (.ref 34), some (.int (Int32.ofNat x)), some (.int sm), some (.long a3), none, some (.long a5), none, some (.int (Int32.ofNat 0)), none] [] h = mw (d + 4) 16 Q 143 [some (.ref 34), some (.int (Int32.ofNat x)), some (.int sm), some (.long a3), none, some (.long a5), none, some (.int (Int32.ofNat 12)), w8] [] h' := by
  have x12 := O.x12
  have xn := O.xn
  obtain ⟨bn, -, -, -, -, bT, -, -⟩ := O.base
  have n12 : (a_base A B (l.map (pgE en A)) x new).n ≤ 12 := by
    rw [bn]
    cases new with
    | true => have := O.x1 rfl; rw [if_pos rfl]; omega
    | false => have := O.B.n12; rw [if_neg (by decide)]; omega
  have sl := O.lim
  have L := mw_inv (d := d + 4) (y := 16) (pc := 143) (st := []) (fun y ls Z => ∃ w8 c u, ls = [some (.ref 34), some (.int (Int32.ofNat x)), some (.int sm), some (.long a3), none, some (.long a5), none, some (.int (Int32.ofNat y)), w8] ∧ fG (soW H) h Z ∧ RL Z H (a_lims (clL A (l.map (pgE en A)) x y) (a_base A B (l.map (pgE en A)) x new)) c u) (b := 12) (fun y ls Z y12 I => by
    obtain ⟨w8, c, u, rfl, f, kZ⟩ := I
    have SZ := ES_fG S (fG_w f (fun b j w => soW_st w))
    have KZ := ES_C S f K
    have g : mg Z 34 1 := SZ.G.F.g 34 1 9 (by decide +kernel)
    have r1 : mh_r Z 34 1 = some 35 := SZ.G.F.f 34 1 35 (by decide +kernel)
    have r11 : mh_r Z 35 11 = some 41 := SZ.G.F.f 35 11 41 (by decide +kernel)
    have r2' : mh_r Z 34 2 = some H := by rw [fG_r f]; exact r2
    have g5 := SZ.G.g
    have gH : mg Z H 8 := SZ.so.1
    have c4 := v_114 (d := d + 3) SZ.G KZ y12
    have ei : ∀ k, Int32.ofNat k + 1 = Int32.ofNat (k + 1) := fun k => nn_add (a := k) (b := 1)
    have e2 : ∀ k, (2 : Int32) * Int32.ofNat k = Int32.ofNat (2 * k) := fun k => nn_mul (a := 2) (b := k)
    have e10 : ((1 : Int32) = 0) = False := by decide
    have e00 : ((0 : Int32) = 0) = True := by decide
    have i12 : (12 : Int32) = Int32.ofNat 12 := rfl
    have l12 : ((12 : Int32) ≤ Int32.ofNat y) = False := by rw [i12, nn_le (by omega) (by omega)]; exact eq_false (by omega)
    have st : clL A (l.map (pgE en A)) x (y + 1) = clL A (l.map (pgE en A)) x y ++ clC A (l.map (pgE en A)) x y := rfl
    by_cases yx : y = x
    · have sc : clC A (l.map (pgE en A)) x y = [] := by unfold clC; rw [if_pos yx]
      have q : (Int32.ofNat y = Int32.ofNat x) = True := eq_true (by rw [yx])
      refine ⟨_, Z, ⟨w8, c, u, rfl, f, by rw [st, sc, List.append_nil]; exact kZ⟩, fun Q => ?_⟩
      clear S SZ Q' K KZ k kZ O c4 f sl bT st sc
      rw [s_16_143]
      simp (disch := omega) only [s_16_0, s_16_1, s_16_4, s_16_5, s_16_8, s_16_11, s_16_12, s_16_15, s_16_16, s_16_19, s_16_20, s_16_23, s_16_26, s_16_29, s_16_30, s_16_31, s_16_34, s_16_35, s_16_36, s_16_39, s_16_42, s_16_43, s_16_44, s_16_45, s_16_46, s_16_49, s_16_52, s_16_53, s_16_54, s_16_56, s_16_57, s_16_60, s_16_61, s_16_62, s_16_63, s_16_64, s_16_67, s_16_68, s_16_71, s_16_72, s_16_75, s_16_78, s_16_79, s_16_82, s_16_83, s_16_84, s_16_87, s_16_88, s_16_91, s_16_94, s_16_95, s_16_96, s_16_99, s_16_100, s_16_103, s_16_104, s_16_107, s_16_108, s_16_111, s_16_112, s_16_113, s_16_116, s_16_119, s_16_120, s_16_123, s_16_126, s_16_129, s_16_132, s_16_133, s_16_136, s_16_137, s_16_140, s_16_141, s_16_145, s_16_147, s_16_150, s_16_152, s_16_153, s_16_156, s_16_157, s_16_160, s_16_162, s_16_165, s_16_168, s_16_169, s_16_172, s_16_174, s_16_175, s_16_178, s_16_179, s_16_182, s_16_185, s_16_187, s_16_188, s_16_191, s_16_192, s_16_194, s_16_195, s_16_198, s_16_199, s_16_201, s_16_202, s_16_203, s_16_204, s_16_206, s_16_207, s_16_210, s_16_211, s_16_212, s_16_213, s_16_215, s_16_216, s_16_219, s_16_222, s_16_225, s_16_226, s_16_229, s_16_230, s_16_231, s_16_232, s_16_233, s_16_234, s_16_236, s_16_237, s_16_238, s_16_239, s_16_242, s_16_245, s_16_246, s_16_249, s_16_252, s_16_255, s_16_256, s_16_259, s_16_260, s_16_261, s_16_262, s_16_263, s_16_264, s_16_265, s_16_267, s_16_270, s_16_271, s_16_274, s_16_275, s_16_276, s_16_277, s_16_278, s_16_279, s_16_280, s_16_281, s_16_282, s_16_283, s_16_284, s_16_285, s_16_286, s_16_289, e_16, mv_i_1, mv_l_1, mv_a_1, mv_a_2, mv_a_3, mk2_n, mk2_i, mk2_l, mk2_a, mk2_u, mk2_x, mB_T, mB_F, mS_cons, mS_nil, mSB_T, mSB_F, mca_nil, mca_i, mca_l, mca_r, mca_u, mca_x, mcat_i, mcat_l, mcat_r, mcat_u, mcat_x, mK_some, mK_none, va_rf_s, va_rf_n, lgc_eq, lgc_lt, lgc_gt, lgc_ge, lgc_le, mrd_104, mrd_105, mrd_106, mrd_107, true_and, and_true, and_self, false_and, and_false, true_or, or_true, false_or, or_false, not_true_eq_false, not_false_eq_true, mgb, mga, mgr, mN, reduceCtorEq, ↓reduceIte, eq_self, ge_iff_le, gt_iff_lt, Nat.reduceAdd, Nat.reduceMul, Nat.reduceSub, Nat.reduceLT, Nat.reduceGT, Nat.reduceEqDiff, Nat.reduceLeDiff, Nat.left_eq_add, Nat.add_eq_left, Nat.reduceMod, Nat.reduceDiv, Nat.succ_ne_self, l12, q, ei]
    · have q : (Int32.ofNat y = Int32.ofNat x) = False := by rw [nn_eq (by omega) (by omega)]; exact eq_false yx
      cases ho : ownI (l.map (pgE en A)) y (l.map (pgE en A)).length with
      | none =>
        have sc : clC A (l.map (pgE en A)) x y = [] := by unfold clC; rw [if_neg yx, ho]
        rw [ho] at c4
        have c4' : ∀ Q, mcall (d + 3) 114 [.ref 35, .int (Int32.ofNat y)] Z Q = Q (some (.int 0)) Z := c4
        refine ⟨_, Z, ⟨w8, c, u, rfl, f, by rw [st, sc, List.append_nil]; exact kZ⟩, fun Q => ?_⟩
        clear S SZ Q' K KZ k kZ O c4 f sl bT st sc
        rw [s_16_143]
        simp (disch := omega) only [s_16_0, s_16_1, s_16_4, s_16_5, s_16_8, s_16_11, s_16_12, s_16_15, s_16_16, s_16_19, s_16_20, s_16_23, s_16_26, s_16_29, s_16_30, s_16_31, s_16_34, s_16_35, s_16_36, s_16_39, s_16_42, s_16_43, s_16_44, s_16_45, s_16_46, s_16_49, s_16_52, s_16_53, s_16_54, s_16_56, s_16_57, s_16_60, s_16_61, s_16_62, s_16_63, s_16_64, s_16_67, s_16_68, s_16_71, s_16_72, s_16_75, s_16_78, s_16_79, s_16_82, s_16_83, s_16_84, s_16_87, s_16_88, s_16_91, s_16_94, s_16_95, s_16_96, s_16_99, s_16_100, s_16_103, s_16_104, s_16_107, s_16_108, s_16_111, s_16_112, s_16_113, s_16_116, s_16_119, s_16_120, s_16_123, s_16_126, s_16_129, s_16_132, s_16_133, s_16_136, s_16_137, s_16_140, s_16_141, s_16_145, s_16_147, s_16_150, s_16_152, s_16_153, s_16_156, s_16_157, s_16_160, s_16_162, s_16_165, s_16_168, s_16_169, s_16_172, s_16_174, s_16_175, s_16_178, s_16_179, s_16_182, s_16_185, s_16_187, s_16_188, s_16_191, s_16_192, s_16_194, s_16_195, s_16_198, s_16_199, s_16_201, s_16_202, s_16_203, s_16_204, s_16_206, s_16_207, s_16_210, s_16_211, s_16_212, s_16_213, s_16_215, s_16_216, s_16_219, s_16_222, s_16_225, s_16_226, s_16_229, s_16_230, s_16_231, s_16_232, s_16_233, s_16_234, s_16_236, s_16_237, s_16_238, s_16_239, s_16_242, s_16_245, s_16_246, s_16_249, s_16_252, s_16_255, s_16_256, s_16_259, s_16_260, s_16_261, s_16_262, s_16_263, s_16_264, s_16_265, s_16_267, s_16_270, s_16_271, s_16_274, s_16_275, s_16_276, s_16_277, s_16_278, s_16_279, s_16_280, s_16_281, s_16_282, s_16_283, s_16_284, s_16_285, s_16_286, s_16_289, e_16, mv_i_1, mv_l_1, mv_a_1, mv_a_2, mv_a_3, mk2_n, mk2_i, mk2_l, mk2_a, mk2_u, mk2_x, mB_T, mB_F, mS_cons, mS_nil, mSB_T, mSB_F, mca_nil, mca_i, mca_l, mca_r, mca_u, mca_x, mcat_i, mcat_l, mcat_r, mcat_u, mcat_x, mK_some, mK_none, va_rf_s, va_rf_n, lgc_eq, lgc_lt, lgc_gt, lgc_ge, lgc_le, mrd_104, mrd_105, mrd_106, mrd_107, true_and, and_true, and_self, false_and, and_false, true_or, or_true, false_or, or_false, not_true_eq_false, not_false_eq_true, mgb, mga, mgr, mN, reduceCtorEq, ↓reduceIte, eq_self, ge_iff_le, gt_iff_lt, Nat.reduceAdd, Nat.reduceMul, Nat.reduceSub, Nat.reduceLT, Nat.reduceGT, Nat.reduceEqDiff, Nat.reduceLeDiff, Nat.left_eq_add, Nat.add_eq_left, Nat.reduceMod, Nat.reduceDiv, Nat.succ_ne_self, l12, q, ei, g, g5, r1, c4', e00]
      | some i =>
        have sc : clC A (l.map (pgE en A)) x y = [(2 * x, oc_b (pqU (l.map (pgE en A)) i), (otV A (l.map (pgE en A)) (sk1 i)).2), (2 * x + 1, pqU (l.map (pgE en A)) i, -(otV A (l.map (pgE en A)) (sk1 i)).1)] := by unfold clC; rw [if_neg yx, ho]
        rw [ho] at c4
        have c4' : ∀ Q, mcall (d + 3) 114 [.ref 35, .int (Int32.ofNat y)] Z Q = Q (some (.int 1)) Z := c4
        obtain ⟨i1, i2⟩ := ownI_s _ ho
        obtain ⟨i3, i4⟩ := ownB_F i2
        have oi : (!new && ownB (l.map (pgE en A)) x i) = false := by
          have : ownB (l.map (pgE en A)) x i = false := Bool.eq_false_iff.mpr (fun z => by have := (ownB_F z).2; omega)
          rw [this, Bool.and_false]
        obtain ⟨Z1, f1, o1, b1, e1⟩ := v_o1 (d := d + 2) SZ Q' hm KZ y12 ho
        have F1 : fG (soW H) Z Z1 := fG_w f1 (fun b j w => Or.inl w)
        have S1 := ES_fG SZ (fG_w F1 (fun b j w => soW_st w))
        have K1 := ES_C SZ F1 KZ
        have k1 := RL_fz (fG_z f1) (fun y hy j => (SZ.hh y hy j).2.2) kZ
        obtain ⟨s1, s2⟩ := K1.sg ho
        have q1 := sl (2 * x, oc_b (pqU (l.map (pgE en A)) i), (otV A (l.map (pgE en A)) (sk1 i)).2) (List.mem_append_left _ ((setL_m _).mpr ⟨i, i1, i3, oi, Or.inl rfl⟩))
        have q2 := sl (2 * x + 1, pqU (l.map (pgE en A)) i, -(otV A (l.map (pgE en A)) (sk1 i)).1) (List.mem_append_left _ ((setL_m _).mpr ⟨i, i1, i3, oi, Or.inr rfl⟩))
        rw [o1] at q1 q2 sc
        dsimp only at q1 q2 sc
        have bl := b1 17 (by omega)
        have bh := b1 18 (by omega)
        have nl : (-mh_j Z1 35 17).toInt = -(mh_j Z1 35 17).toInt := i64_n (by omega)
        obtain ⟨Z2, u2, f2, k2, e2'⟩ := lim_c (d := d + 2) (v := 2 * x) (w := oc_b (pqU (l.map (pgE en A)) i)) (k := mh_j Z1 35 18) k1 q1.1 q1.2.1 q1.2.2.1 (by omega)
        obtain ⟨Z3, u3, f3, k3, e3'⟩ := lim_c (d := d + 2) (v := 2 * x + 1) (w := pqU (l.map (pgE en A)) i) (k := -mh_j Z1 35 17) k2 q2.1 q2.2.1 q2.2.2.1 (by rw [nl]; omega)
        have g1 : mg Z1 34 1 := S1.G.F.g 34 1 9 (by decide +kernel)
        have g15 := S1.G.g
        have g1H : mg Z1 H 8 := S1.so.1
        have er1 := fG_r f1
        have gs : mg Z1 41 100 := S1.G.F.g 41 100 12 (by decide +kernel)
        have ls : mh_l Z1 41 = 12 := S1.G.F.l 41 100 12 (by decide +kernel)
        have n35 := SZ.n35.1
        have er2 : mh_r Z2 = mh_r Z1 := f2.2.2.1
        have g2 : mg Z2 34 1 := (fq_mg f2).mpr g1
        have g25 : mg Z2 35 5 := (fq_mg f2).mpr g15
        have g2H : mg Z2 H 8 := (fq_mg f2).mpr g1H
        have j17 : mh_j Z2 35 17 = mh_j Z1 35 17 := (f2.2.2.2.2.2 35 n35).2 17
        have u24 : pqU (l.map (pgE en A)) i < 24 := by omega
        have xo : Int32.ofNat (oc_b (pqU (l.map (pgE en A)) i)) ^^^ 1 = Int32.ofNat (pqU (l.map (pgE en A)) i) := by
          have := oc_b24 u24
          rw [nn_xor1 (by omega), oc_bb]
        have fin : RL Z3 H (a_lims (clL A (l.map (pgE en A)) x (y + 1)) (a_base A B (l.map (pgE en A)) x new)) c u3 := by
          rw [st, sc]
          rw [List.append_assoc, nl] at k3
          exact k3
        have F3 : fG (soW H) h Z3 := fG_t f (fG_t F1 (fG_t (fG_w (fG_fq f2) (fun b j w => Or.inr w)) (fG_w (fG_fq f3) (fun b j w => Or.inr w))))
        refine ⟨[some (.ref 34), some (.int (Int32.ofNat x)), some (.int sm), some (.long a3), none, some (.long a5), none, some (.int (Int32.ofNat (y + 1))), some (.int (Int32.ofNat (oc_b (pqU (l.map (pgE en A)) i))))], Z3, ⟨_, c, u3, rfl, F3, fin⟩, fun Q => ?_⟩
        clear S SZ S1 Q' K KZ K1 k kZ k1 k2 k3 O c4 f f1 f2 f3 F1 F3 fin sl bT st sc q1 q2 b1 bl bh nl
        unfold foU at s1
        rw [s_16_143]
        by_cases neg : mh_i Z1 41 y < 0
        · rw [if_pos neg] at s1
          have ou : oc_b (pqU (l.map (pgE en A)) i) = 2 * y := by rw [← s1]; exact oc_b1 y
          rw [ou] at xo e2' ⊢
          simp (disch := omega) only [s_16_0, s_16_1, s_16_4, s_16_5, s_16_8, s_16_11, s_16_12, s_16_15, s_16_16, s_16_19, s_16_20, s_16_23, s_16_26, s_16_29, s_16_30, s_16_31, s_16_34, s_16_35, s_16_36, s_16_39, s_16_42, s_16_43, s_16_44, s_16_45, s_16_46, s_16_49, s_16_52, s_16_53, s_16_54, s_16_56, s_16_57, s_16_60, s_16_61, s_16_62, s_16_63, s_16_64, s_16_67, s_16_68, s_16_71, s_16_72, s_16_75, s_16_78, s_16_79, s_16_82, s_16_83, s_16_84, s_16_87, s_16_88, s_16_91, s_16_94, s_16_95, s_16_96, s_16_99, s_16_100, s_16_103, s_16_104, s_16_107, s_16_108, s_16_111, s_16_112, s_16_113, s_16_116, s_16_119, s_16_120, s_16_123, s_16_126, s_16_129, s_16_132, s_16_133, s_16_136, s_16_137, s_16_140, s_16_141, s_16_145, s_16_147, s_16_150, s_16_152, s_16_153, s_16_156, s_16_157, s_16_160, s_16_162, s_16_165, s_16_168, s_16_169, s_16_172, s_16_174, s_16_175, s_16_178, s_16_179, s_16_182, s_16_185, s_16_187, s_16_188, s_16_191, s_16_192, s_16_194, s_16_195, s_16_198, s_16_199, s_16_201, s_16_202, s_16_203, s_16_204, s_16_206, s_16_207, s_16_210, s_16_211, s_16_212, s_16_213, s_16_215, s_16_216, s_16_219, s_16_222, s_16_225, s_16_226, s_16_229, s_16_230, s_16_231, s_16_232, s_16_233, s_16_234, s_16_236, s_16_237, s_16_238, s_16_239, s_16_242, s_16_245, s_16_246, s_16_249, s_16_252, s_16_255, s_16_256, s_16_259, s_16_260, s_16_261, s_16_262, s_16_263, s_16_264, s_16_265, s_16_267, s_16_270, s_16_271, s_16_274, s_16_275, s_16_276, s_16_277, s_16_278, s_16_279, s_16_280, s_16_281, s_16_282, s_16_283, s_16_284, s_16_285, s_16_286, s_16_289, e_16, mv_i_1, mv_l_1, mv_a_1, mv_a_2, mv_a_3, mk2_n, mk2_i, mk2_l, mk2_a, mk2_u, mk2_x, mB_T, mB_F, mS_cons, mS_nil, mSB_T, mSB_F, mca_nil, mca_i, mca_l, mca_r, mca_u, mca_x, mcat_i, mcat_l, mcat_r, mcat_u, mcat_x, mK_some, mK_none, va_rf_s, va_rf_n, lgc_eq, lgc_lt, lgc_gt, lgc_ge, lgc_le, mrd_104, mrd_105, mrd_106, mrd_107, true_and, and_true, and_self, false_and, and_false, true_or, or_true, false_or, or_false, not_true_eq_false, not_false_eq_true, mgb, mga, mgr, mN, reduceCtorEq, ↓reduceIte, eq_self, ge_iff_le, gt_iff_lt, Nat.reduceAdd, Nat.reduceMul, Nat.reduceSub, Nat.reduceLT, Nat.reduceGT, Nat.reduceEqDiff, Nat.reduceLeDiff, Nat.left_eq_add, Nat.add_eq_left, Nat.reduceMod, Nat.reduceDiv, Nat.succ_ne_self, l12, q, ei, e2, g, g5, gH, r1, r2', r11, c4', e10, e1, g1, g15, g1H, er1, er2, gs, ls, nn_mxT, nn_clamp, neg, le_nlt32, mB_not, g2, g25, g2H, j17, xo, e2', e3']
        · rw [if_neg neg] at s1
          have ou : oc_b (pqU (l.map (pgE en A)) i) = 2 * y + 1 := by rw [← s1]; exact oc_b0 y
          rw [ou] at xo e2' ⊢
          simp (disch := omega) only [s_16_0, s_16_1, s_16_4, s_16_5, s_16_8, s_16_11, s_16_12, s_16_15, s_16_16, s_16_19, s_16_20, s_16_23, s_16_26, s_16_29, s_16_30, s_16_31, s_16_34, s_16_35, s_16_36, s_16_39, s_16_42, s_16_43, s_16_44, s_16_45, s_16_46, s_16_49, s_16_52, s_16_53, s_16_54, s_16_56, s_16_57, s_16_60, s_16_61, s_16_62, s_16_63, s_16_64, s_16_67, s_16_68, s_16_71, s_16_72, s_16_75, s_16_78, s_16_79, s_16_82, s_16_83, s_16_84, s_16_87, s_16_88, s_16_91, s_16_94, s_16_95, s_16_96, s_16_99, s_16_100, s_16_103, s_16_104, s_16_107, s_16_108, s_16_111, s_16_112, s_16_113, s_16_116, s_16_119, s_16_120, s_16_123, s_16_126, s_16_129, s_16_132, s_16_133, s_16_136, s_16_137, s_16_140, s_16_141, s_16_145, s_16_147, s_16_150, s_16_152, s_16_153, s_16_156, s_16_157, s_16_160, s_16_162, s_16_165, s_16_168, s_16_169, s_16_172, s_16_174, s_16_175, s_16_178, s_16_179, s_16_182, s_16_185, s_16_187, s_16_188, s_16_191, s_16_192, s_16_194, s_16_195, s_16_198, s_16_199, s_16_201, s_16_202, s_16_203, s_16_204, s_16_206, s_16_207, s_16_210, s_16_211, s_16_212, s_16_213, s_16_215, s_16_216, s_16_219, s_16_222, s_16_225, s_16_226, s_16_229, s_16_230, s_16_231, s_16_232, s_16_233, s_16_234, s_16_236, s_16_237, s_16_238, s_16_239, s_16_242, s_16_245, s_16_246, s_16_249, s_16_252, s_16_255, s_16_256, s_16_259, s_16_260, s_16_261, s_16_262, s_16_263, s_16_264, s_16_265, s_16_267, s_16_270, s_16_271, s_16_274, s_16_275, s_16_276, s_16_277, s_16_278, s_16_279, s_16_280, s_16_281, s_16_282, s_16_283, s_16_284, s_16_285, s_16_286, s_16_289, e_16, mv_i_1, mv_l_1, mv_a_1, mv_a_2, mv_a_3, mk2_n, mk2_i, mk2_l, mk2_a, mk2_u, mk2_x, mB_T, mB_F, mS_cons, mS_nil, mSB_T, mSB_F, mca_nil, mca_i, mca_l, mca_r, mca_u, mca_x, mcat_i, mcat_l, mcat_r, mcat_u, mcat_x, mK_some, mK_none, va_rf_s, va_rf_n, lgc_eq, lgc_lt, lgc_gt, lgc_ge, lgc_le, mrd_104, mrd_105, mrd_106, mrd_107, true_and, and_true, and_self, false_and, and_false, true_or, or_true, false_or, or_false, not_true_eq_false, not_false_eq_true, mgb, mga, mgr, mN, reduceCtorEq, ↓reduceIte, eq_self, ge_iff_le, gt_iff_lt, Nat.reduceAdd, Nat.reduceMul, Nat.reduceSub, Nat.reduceLT, Nat.reduceGT, Nat.reduceEqDiff, Nat.reduceLeDiff, Nat.left_eq_add, Nat.add_eq_left, Nat.reduceMod, Nat.reduceDiv, Nat.succ_ne_self, l12, q, ei, e2, g, g5, gH, r1, r2', r11, c4', e10, e1, g1, g15, g1H, er1, er2, gs, ls, nn_mxT, nn_clamp, neg, le_nlt32, mB_not, g2, g25, g2H, j17, xo, e2', e3']) 12 0 (by omega) _ h ⟨none, _, 0, rfl, fG_id, RL_of k bT⟩
  obtain ⟨ls, Z, ⟨w8, c, u, rfl, f, kZ⟩, e⟩ := L
  exact ⟨Z, w8, c, u, f, kZ, e⟩
end SETl
