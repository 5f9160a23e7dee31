set_option maxRecDepth 100000
/-! Analysis.set, its limits -/
section STl
variable {d : Nat} {h X Y : mh_H} {T N H to : Nat} {sN : Int → Prop} {en : Int → Nat} {A B : ab} {PQ PS PU PF PL PH lP : Nat} {l : List (Nat × Bool × tr)} {x : Nat} {new : Bool} {lo hi : Int}
theorem own_iff {ps : List pa} {i : Nat} (hi : i < ps.length) (hm : ps.length ≤ 12000) : (Int32.ofNat i = nSl (if new = true then none else ownI ps x ps.length)) = ((!new && ownB ps x i) = true) := by
  cases new with
  | true =>
    have : nSl (if (true : Bool) = true then none else ownI ps x ps.length) = -1 := rfl
    rw [this, rK_m1 (by omega)]
    simp
  | false =>
    have e1 : (if (false : Bool) = true then none else ownI ps x ps.length) = ownI ps x ps.length := rfl
    rw [e1]
    have e2 : ((!false && ownB ps x i) = true) = (ownB ps x i = true) := by rw [Bool.not_false, Bool.true_and]
    rw [e2]
    cases ho : ownI ps x ps.length with
    | none =>
      have : nSl none = -1 := rfl
      rw [this, rK_m1 (by omega), ownI_n _ ho i hi]
      simp
    | some k =>
      obtain ⟨k1, k2⟩ := ownI_s _ ho
      have : nSl (some k) = Int32.ofNat k := rfl
      rw [this, nn_eq (by omega) (by omega)]
      exact propext ⟨fun z => by rw [z]; exact k2, fun z => ownB_u k1 hi k2 z⟩
/-- one limit more -/
theorem lim_1 {M : ab} {L : List lm} {v w : Nat} {c : Int64} (k : RK Y to (some (a_lims L M))) (hC : oc_C M.n M.m) (hL : ∀ c ∈ L, c.1 < 2 * M.n ∧ c.2.1 < 2 * M.n ∧ c.1 ≠ oc_b c.2.1) (hv : v < 2 * M.n) (hw : w < 2 * M.n) (hc : -1152921504606846976 ≤ c.toInt ∧ c.toInt ≤ 1152921504606846976) : ∃ Z, fq (kW to) Y Z ∧ RK Z to (some (a_lims (L ++ [(v, w, c.toInt)]) M)) ∧ ∀ Q, mcall d 285 [.ref to, .int (Int32.ofNat v), .int (Int32.ofNat w), .long c] Y Q = Q none Z := by
  obtain ⟨f1, -⟩ := lims_f L M
  obtain ⟨Z, f, r, e⟩ := k_285 (d := d) (i := v) (j := w) (c := c) k (by rw [f1]; exact lims_C L M hC hL) (by rw [f1]; exact hv) (by rw [f1]; exact hw) hc
  exact ⟨Z, f, by rw [lims_1]; exact r, e⟩
theorem SO.xl (S : SO A B (l.map (pgE en A)) x new lo hi) : ∀ c ∈ xtra (l.map (pgE en A)) x new, c.1 < 2 * (a_base A B (l.map (pgE en A)) x new).n ∧ c.2.1 < 2 * (a_base A B (l.map (pgE en A)) x new).n ∧ c.1 ≠ oc_b c.2.1 := fun c hc => by
  have xn := S.xn
  have b0 := oc_b0 x
  have b1 := oc_b1 x
  rcases xtra_m hc with e | e
  · subst e; exact ⟨by dsimp only; omega, by dsimp only; omega, by dsimp only; omega⟩
  · subst e; exact ⟨by dsimp only; omega, by dsimp only; omega, by dsimp only; omega⟩
/-- what it tells of the free ones -/
theorem set_ml (J : RJ X T sN en) (R : WR X T sN en N A l H PQ PS PU PF PL PH lP) (S : SO A B (l.map (pgE en A)) x new lo hi) (s : sp X to) (sN' : sp X N) (ne : N ≠ to) (kt : RK X to (some (a_lims (xtra (l.map (pgE en A)) x new) (a_base A B (l.map (pgE en A)) x new)))) {k : Int32} {a5 a7 : Int64} : ∃ Y x11, fR (tW to) X Y ∧ RK Y to (some (a_lims (xtra (l.map (pgE en A)) x new ++ setL A (l.map (pgE en A)) (fun i => !new && ownB (l.map (pgE en A)) x i) x l.length) (a_base A B (l.map (pgE en A)) x new))) ∧ ∀ Q, mw (d + 4) 247 Q 163 [some (.ref 115), some (.int k), some (.int (Int32.ofNat x)), some (.int (kb new)), some (.ref to), some (.long a5), none, some (.long a7), none, some (.int (nSl (if new = true then none else ownI (l.map (pgE en A)) x l.length))), some (.int (Int32.ofNat 0)), none] [] X = mw (d + 4) 247 Q 163 [some (.ref 115), some (.int k), some (.int (Int32.ofNat x)), some (.int (kb new)), some (.ref to), some (.long a5), none, some (.long a7), none, some (.int (nSl (if new = true then none else ownI (l.map (pgE en A)) x l.length))), some (.int (Int32.ofNat l.length)), x11] [] Y := by
  have LL : (l.map (pgE en A)).length = l.length := List.length_map _
  have x12 := S.x12
  have xn := S.xn
  obtain ⟨bn, -, -, -, -, bT, -, -⟩ := S.base
  have n12 : (a_base A B (l.map (pgE en A)) x new).n ≤ 12 := by
    rw [bn]
    cases new with
    | true => have := S.x1 rfl; rw [if_pos rfl]; omega
    | false => have := S.B.n12; rw [if_neg (by decide)]; omega
  have sl := S.lim
  have L := mw_inv (d := d + 4) (y := 247) (pc := 163) (st := []) (fun i ls Y => ∃ x11, ls = [some (.ref 115), some (.int k), some (.int (Int32.ofNat x)), some (.int (kb new)), some (.ref to), some (.long a5), none, some (.long a7), none, some (.int (nSl (if new = true then none else ownI (l.map (pgE en A)) x l.length))), some (.int (Int32.ofNat i)), x11] ∧ fR (tW to) X Y ∧ RK Y to (some (a_lims (xtra (l.map (pgE en A)) x new ++ setL A (l.map (pgE en A)) (fun i => !new && ownB (l.map (pgE en A)) x i) x i) (a_base A B (l.map (pgE en A)) x new)))) (b := l.length) (fun i ls Y hi' I => by
    obtain ⟨x11, rfl, f, kY⟩ := I
    have RY := WR_tW J s sN' ne f (RK_ko kY) R
    have gt : mg Y to 13 := (RK_ko kY).1
    have g := RY.a.g
    have m := RY.m
    have b := RY.b
    have lb := RY.P.b
    have c := RY.c
    have r30 := RY.P.r30
    have g301 := RY.P.g30.1
    have g302 := RY.P.g30.2
    have l30 := RY.P.l30
    have hle : (l.length ≤ i) = False := eq_false (by omega)
    have fv := (RY.v i hi').1
    have ei : ∀ k, Int32.ofNat k + 1 = Int32.ofNat (k + 1) := fun k => nn_add (a := k) (b := 1)
    have e2 : ∀ k, (2 : Int32) * Int32.ofNat k = Int32.ofNat (2 * k) := fun k => nn_mul (a := 2) (b := k)
    have e10 : ((1 : Int32) = 0) = False := by decide
    have e00 : ((0 : Int32) = 0) = True := by decide
    have oi := own_iff (x := x) (new := new) (ps := l.map (pgE en A)) (i := i) (by rw [LL]; exact hi') (by rw [LL]; exact m)
    rw [LL] at oi
    have st : setL A (l.map (pgE en A)) (fun i => !new && ownB (l.map (pgE en A)) x i) x (i + 1) = setL A (l.map (pgE en A)) (fun i => !new && ownB (l.map (pgE en A)) x i) x i ++ setC A (l.map (pgE en A)) (fun i => !new && ownB (l.map (pgE en A)) x i) x i := rfl
    cases hf : pqF (l.map (pgE en A)) i with
    | false =>
      have sc : setC A (l.map (pgE en A)) (fun i => !new && ownB (l.map (pgE en A)) x i) x i = [] := by
        unfold setC
        rw [hf, Bool.false_and, if_neg (by decide)]
      rw [hf] at fv
      have k0' : kb false = 0 := rfl
      rw [k0'] at fv
      refine ⟨_, Y, ⟨x11, rfl, f, by rw [st, sc, List.append_nil]; exact kY⟩, fun Q => ?_⟩
      clear sl S bT RY kY R J oi
      rw [s_247_163]
      simp (disch := omega) only [s_247_0, s_247_1, s_247_2, s_247_5, s_247_8, s_247_10, s_247_11, s_247_14, s_247_15, s_247_16, s_247_19, s_247_21, s_247_22, s_247_25, s_247_27, s_247_28, s_247_29, s_247_32, s_247_33, s_247_34, s_247_35, s_247_38, s_247_39, s_247_42, s_247_43, s_247_45, s_247_46, s_247_48, s_247_50, s_247_51, s_247_54, s_247_57, s_247_58, s_247_61, s_247_63, s_247_64, s_247_67, s_247_68, s_247_71, s_247_73, s_247_74, s_247_75, s_247_78, s_247_79, s_247_82, s_247_84, s_247_87, s_247_89, s_247_91, s_247_94, s_247_97, s_247_98, s_247_101, s_247_103, s_247_106, s_247_109, s_247_111, s_247_114, s_247_115, s_247_117, s_247_118, s_247_121, s_247_122, s_247_125, s_247_127, s_247_128, s_247_131, s_247_133, s_247_134, s_247_137, s_247_139, s_247_140, s_247_141, s_247_144, s_247_145, s_247_148, s_247_151, s_247_154, s_247_156, s_247_157, s_247_160, s_247_161, s_247_165, s_247_166, s_247_169, s_247_172, s_247_173, s_247_176, s_247_178, s_247_179, s_247_182, s_247_184, s_247_186, s_247_189, s_247_190, s_247_192, s_247_193, s_247_196, s_247_197, s_247_199, s_247_202, s_247_203, s_247_204, s_247_206, s_247_208, s_247_209, s_247_210, s_247_211, s_247_213, s_247_214, s_247_217, s_247_220, s_247_222, s_247_223, s_247_224, s_247_225, s_247_226, s_247_227, s_247_229, s_247_230, s_247_231, s_247_232, s_247_235, s_247_236, s_247_239, s_247_242, s_247_245, s_247_247, s_247_248, s_247_249, s_247_250, s_247_251, s_247_252, s_247_253, s_247_255, s_247_258, s_247_260, s_247_261, s_247_262, s_247_263, s_247_264, s_247_265, s_247_266, s_247_267, s_247_268, s_247_269, s_247_270, s_247_272, s_247_273, s_247_276, s_247_278, s_247_281, e_247, mv_i_1, mv_l_1, mv_a_1, mv_a_2, mv_a_3, mk2_n, mk2_i, mk2_l, mk2_a, mk2_u, mk2_x, mB_T, mB_F, mS_cons, mS_nil, mSB_T, mSB_F, mca_nil, mca_i, mca_l, mca_r, mca_u, mca_x, mcat_i, mcat_l, mcat_r, mcat_u, mcat_x, mK_some, mK_none, va_rf_s, va_rf_n, lgc_eq, lgc_lt, lgc_gt, lgc_ge, lgc_le, mrd_104, mrd_105, mrd_106, mrd_107, true_and, and_true, and_self, false_and, and_false, true_or, or_true, false_or, or_false, not_true_eq_false, not_false_eq_true, mgb, mga, mgr, mN, reduceCtorEq, ↓reduceIte, eq_self, ge_iff_le, gt_iff_lt, Nat.reduceAdd, Nat.reduceMul, Nat.reduceSub, Nat.reduceLT, Nat.reduceGT, Nat.reduceEqDiff, Nat.reduceLeDiff, Nat.left_eq_add, Nat.add_eq_left, Nat.reduceMod, Nat.reduceDiv, Nat.succ_ne_self, g, c, r30, g301, g302, l30, fv, nn_le, nn_mxT, nn_clamp, hle, e00, ei]
    | true =>
      have k1' : kb true = 1 := rfl
      rw [hf, k1'] at fv
      cases ho : (!new && ownB (l.map (pgE en A)) x i) with
      | true =>
        have sc : setC A (l.map (pgE en A)) (fun i => !new && ownB (l.map (pgE en A)) x i) x i = [] := by
          unfold setC
          exact if_neg (by rw [hf, Bool.true_and]; show ¬ (!(!new && ownB (l.map (pgE en A)) x i)) = true; rw [ho]; decide)
        rw [ho] at oi
        have oi' := oi.trans (eq_true rfl)
        refine ⟨_, Y, ⟨x11, rfl, f, by rw [st, sc, List.append_nil]; exact kY⟩, fun Q => ?_⟩
        clear sl S bT RY kY R J oi
        rw [s_247_163]
        simp (disch := omega) only [s_247_0, s_247_1, s_247_2, s_247_5, s_247_8, s_247_10, s_247_11, s_247_14, s_247_15, s_247_16, s_247_19, s_247_21, s_247_22, s_247_25, s_247_27, s_247_28, s_247_29, s_247_32, s_247_33, s_247_34, s_247_35, s_247_38, s_247_39, s_247_42, s_247_43, s_247_45, s_247_46, s_247_48, s_247_50, s_247_51, s_247_54, s_247_57, s_247_58, s_247_61, s_247_63, s_247_64, s_247_67, s_247_68, s_247_71, s_247_73, s_247_74, s_247_75, s_247_78, s_247_79, s_247_82, s_247_84, s_247_87, s_247_89, s_247_91, s_247_94, s_247_97, s_247_98, s_247_101, s_247_103, s_247_106, s_247_109, s_247_111, s_247_114, s_247_115, s_247_117, s_247_118, s_247_121, s_247_122, s_247_125, s_247_127, s_247_128, s_247_131, s_247_133, s_247_134, s_247_137, s_247_139, s_247_140, s_247_141, s_247_144, s_247_145, s_247_148, s_247_151, s_247_154, s_247_156, s_247_157, s_247_160, s_247_161, s_247_165, s_247_166, s_247_169, s_247_172, s_247_173, s_247_176, s_247_178, s_247_179, s_247_182, s_247_184, s_247_186, s_247_189, s_247_190, s_247_192, s_247_193, s_247_196, s_247_197, s_247_199, s_247_202, s_247_203, s_247_204, s_247_206, s_247_208, s_247_209, s_247_210, s_247_211, s_247_213, s_247_214, s_247_217, s_247_220, s_247_222, s_247_223, s_247_224, s_247_225, s_247_226, s_247_227, s_247_229, s_247_230, s_247_231, s_247_232, s_247_235, s_247_236, s_247_239, s_247_242, s_247_245, s_247_247, s_247_248, s_247_249, s_247_250, s_247_251, s_247_252, s_247_253, s_247_255, s_247_258, s_247_260, s_247_261, s_247_262, s_247_263, s_247_264, s_247_265, s_247_266, s_247_267, s_247_268, s_247_269, s_247_270, s_247_272, s_247_273, s_247_276, s_247_278, s_247_281, e_247, mv_i_1, mv_l_1, mv_a_1, mv_a_2, mv_a_3, mk2_n, mk2_i, mk2_l, mk2_a, mk2_u, mk2_x, mB_T, mB_F, mS_cons, mS_nil, mSB_T, mSB_F, mca_nil, mca_i, mca_l, mca_r, mca_u, mca_x, mcat_i, mcat_l, mcat_r, mcat_u, mcat_x, mK_some, mK_none, va_rf_s, va_rf_n, lgc_eq, lgc_lt, lgc_gt, lgc_ge, lgc_le, mrd_104, mrd_105, mrd_106, mrd_107, true_and, and_true, and_self, false_and, and_false, true_or, or_true, false_or, or_false, not_true_eq_false, not_false_eq_true, mgb, mga, mgr, mN, reduceCtorEq, ↓reduceIte, eq_self, ge_iff_le, gt_iff_lt, Nat.reduceAdd, Nat.reduceMul, Nat.reduceSub, Nat.reduceLT, Nat.reduceGT, Nat.reduceEqDiff, Nat.reduceLeDiff, Nat.left_eq_add, Nat.add_eq_left, Nat.reduceMod, Nat.reduceDiv, Nat.succ_ne_self, g, c, r30, g301, g302, l30, fv, nn_le, nn_mxT, nn_clamp, hle, e10, oi', ei]
      | false =>
        have sc : setC A (l.map (pgE en A)) (fun i => !new && ownB (l.map (pgE en A)) x i) x i = [(2 * x, oc_b (pqU (l.map (pgE en A)) i), (otV A (l.map (pgE en A)) (sk1 i)).2), (2 * x + 1, pqU (l.map (pgE en A)) i, -(otV A (l.map (pgE en A)) (sk1 i)).1)] := by
          unfold setC
          exact if_pos (by rw [hf, Bool.true_and]; show (!(!new && ownB (l.map (pgE en A)) x i)) = true; rw [ho]; decide)
        rw [ho] at oi
        have oi' := oi.trans (eq_false (by decide))
        have u := S.U i (by rw [LL]; exact hi') hf
        have u' : pqU (l.map (pgE en A)) i < 2 * (a_base A B (l.map (pgE en A)) x new).n := by
          have := S.n
          rw [bn]
          cases new with
          | true => rw [if_pos rfl]; omega
          | false => rw [if_neg (by decide)]; omega
        have ub := oc_bl u'
        obtain ⟨lo', hi2, o, bd, eo⟩ := all1 (d := d + 1) RY hi' hf
        have f1 : fR (tW to) Y (aS Y 115 (mh_i Y 115 24) lo' hi2) := tW_aS
        have kA : RK (aS Y 115 (mh_i Y 115 24) lo' hi2) to (some (a_lims (xtra (l.map (pgE en A)) x new ++ setL A (l.map (pgE en A)) (fun i => !new && ownB (l.map (pgE en A)) x i) x i) (a_base A B (l.map (pgE en A)) x new))) := RK_aS g kY
        have RA := WR_tW J s sN' ne (tW_t f f1) (RK_ko kA) R
        have eu := u_245 (d := d + 3) RA hi' hf
        have cond : ∀ c ∈ xtra (l.map (pgE en A)) x new ++ setL A (l.map (pgE en A)) (fun i => !new && ownB (l.map (pgE en A)) x i) x i, c.1 < 2 * (a_base A B (l.map (pgE en A)) x new).n ∧ c.2.1 < 2 * (a_base A B (l.map (pgE en A)) x new).n ∧ c.1 ≠ oc_b c.2.1 := fun c hc => by
          rcases List.mem_append.mp hc with hc | hc
          · exact S.xl c hc
          · obtain ⟨i', hi3, q⟩ := (setL_m _).mp hc
            have := sl c (List.mem_append_left _ ((setL_m _).mpr ⟨i', by rw [LL]; omega, q⟩))
            exact ⟨this.1, this.2.1, this.2.2.1⟩
        have q1 := sl (2 * x, oc_b (pqU (l.map (pgE en A)) i), (otV A (l.map (pgE en A)) (sk1 i)).2) (List.mem_append_left _ ((setL_m _).mpr ⟨i, by rw [LL]; exact hi', hf, ho, Or.inl rfl⟩))
        obtain ⟨Z1, g1, k1, e1⟩ := lim_1 (d := d + 3) (v := 2 * x) (w := oc_b (pqU (l.map (pgE en A)) i)) (c := hi2) kA bT.1 cond (by omega) ub (by omega)
        obtain ⟨Z2, g2, k2, e2'⟩ := lim_1 (d := d + 3) (v := 2 * x + 1) (w := pqU (l.map (pgE en A)) i) (c := -lo') k1 bT.1 (fun c hc => by
          rcases List.mem_append.mp hc with hc | hc
          · exact cond c hc
          · rcases List.mem_singleton.mp hc with rfl
            exact ⟨q1.1, q1.2.1, q1.2.2.1⟩) (by omega) u' (by rw [i64_n (by omega)]; omega)
        have to2 : 2644 ≤ to := by
          obtain ⟨j, hj⟩ := s
          exact (J.s j to hj).1
        have nk : ¬ kW to 115 := by unfold kW; omega
        have gz : mg Z1 115 12 := (fq_mg g1).mpr g
        have gtz : mg Z1 to 13 := (RK_ko k1).1
        have j25 : mh_j Z1 115 25 = lo' := by rw [(g1.2.2.2.2.2 115 nk).2, aS_j, if_neg (by omega), if_pos ⟨rfl, rfl⟩]
        have ul : pqU (l.map (pgE en A)) i < 24 := by omega
        have x1 : Int32.ofNat (pqU (l.map (pgE en A)) i) ^^^ 1 = Int32.ofNat (oc_b (pqU (l.map (pgE en A)) i)) := nn_xor1 (by omega)
        have x2 : Int32.ofNat (oc_b (pqU (l.map (pgE en A)) i)) ^^^ 1 = Int32.ofNat (pqU (l.map (pgE en A)) i) := by rw [nn_xor1 (by omega), oc_bb]
        refine ⟨[some (.ref 115), some (.int k), some (.int (Int32.ofNat x)), some (.int (kb new)), some (.ref to), some (.long a5), none, some (.long a7), none, some (.int (nSl (if new = true then none else ownI (l.map (pgE en A)) x l.length))), some (.int (Int32.ofNat (i + 1))), some (.int (Int32.ofNat (oc_b (pqU (l.map (pgE en A)) i))))], Z2, ⟨_, rfl, tW_t f (tW_t f1 (tW_t (tW_k g1) (tW_k g2))), ?_⟩, fun Q => ?_⟩
        · rw [st, sc, o]
          rw [i64_n (by omega), List.append_assoc, List.append_assoc] at k2
          exact k2
        · clear sl S bT RY kY R J oi RA kA k1 k2 cond q1 bd st sc
          rw [s_247_163]
          simp (disch := omega) only [s_247_0, s_247_1, s_247_2, s_247_5, s_247_8, s_247_10, s_247_11, s_247_14, s_247_15, s_247_16, s_247_19, s_247_21, s_247_22, s_247_25, s_247_27, s_247_28, s_247_29, s_247_32, s_247_33, s_247_34, s_247_35, s_247_38, s_247_39, s_247_42, s_247_43, s_247_45, s_247_46, s_247_48, s_247_50, s_247_51, s_247_54, s_247_57, s_247_58, s_247_61, s_247_63, s_247_64, s_247_67, s_247_68, s_247_71, s_247_73, s_247_74, s_247_75, s_247_78, s_247_79, s_247_82, s_247_84, s_247_87, s_247_89, s_247_91, s_247_94, s_247_97, s_247_98, s_247_101, s_247_103, s_247_106, s_247_109, s_247_111, s_247_114, s_247_115, s_247_117, s_247_118, s_247_121, s_247_122, s_247_125, s_247_127, s_247_128, s_247_131, s_247_133, s_247_134, s_247_137, s_247_139, s_247_140, s_247_141, s_247_144, s_247_145, s_247_148, s_247_151, s_247_154, s_247_156, s_247_157, s_247_160, s_247_161, s_247_165, s_247_166, s_247_169, s_247_172, s_247_173, s_247_176, s_247_178, s_247_179, s_247_182, s_247_184, s_247_186, s_247_189, s_247_190, s_247_192, s_247_193, s_247_196, s_247_197, s_247_199, s_247_202, s_247_203, s_247_204, s_247_206, s_247_208, s_247_209, s_247_210, s_247_211, s_247_213, s_247_214, s_247_217, s_247_220, s_247_222, s_247_223, s_247_224, s_247_225, s_247_226, s_247_227, s_247_229, s_247_230, s_247_231, s_247_232, s_247_235, s_247_236, s_247_239, s_247_242, s_247_245, s_247_247, s_247_248, s_247_249, s_247_250, s_247_251, s_247_252, s_247_253, s_247_255, s_247_258, s_247_260, s_247_261, s_247_262, s_247_263, s_247_264, s_247_265, s_247_266, s_247_267, s_247_268, s_247_269, s_247_270, s_247_272, s_247_273, s_247_276, s_247_278, s_247_281, e_247, mv_i_1, mv_l_1, mv_a_1, mv_a_2, mv_a_3, mk2_n, mk2_i, mk2_l, mk2_a, mk2_u, mk2_x, mB_T, mB_F, mS_cons, mS_nil, mSB_T, mSB_F, mca_nil, mca_i, mca_l, mca_r, mca_u, mca_x, mcat_i, mcat_l, mcat_r, mcat_u, mcat_x, mK_some, mK_none, va_rf_s, va_rf_n, lgc_eq, lgc_lt, lgc_gt, lgc_ge, lgc_le, mrd_104, mrd_105, mrd_106, mrd_107, true_and, and_true, and_self, false_and, and_false, true_or, or_true, false_or, or_false, not_true_eq_false, not_false_eq_true, mgb, mga, mgr, mN, reduceCtorEq, ↓reduceIte, eq_self, ge_iff_le, gt_iff_lt, Nat.reduceAdd, Nat.reduceMul, Nat.reduceSub, Nat.reduceLT, Nat.reduceGT, Nat.reduceEqDiff, Nat.reduceLeDiff, Nat.left_eq_add, Nat.add_eq_left, Nat.reduceMod, Nat.reduceDiv, Nat.succ_ne_self, g, gt, gz, gtz, aS_g, aS_i, aS_j, c, r30, g301, g302, l30, fv, nn_le, nn_mxT, nn_clamp, hle, e10, oi', ei, e2, eo, eu, x1, x2, e1, e2', j25]) l.length 0 (by omega) _ X ⟨none, rfl, fR_id, by rw [show setL A (l.map (pgE en A)) (fun i => !new && ownB (l.map (pgE en A)) x i) x 0 = [] from rfl, List.append_nil]; exact kt⟩
  obtain ⟨ls, Y, ⟨x11, rfl, f, kY⟩, e⟩ := L
  exact ⟨Y, x11, f, kY, e⟩
end STl
