set_option maxRecDepth 100000
/-! Analysis.meet -/
section MTm
variable {d : Nat} {h X Y : mh_H} {T N H to : Nat} {sN : Int → Prop} {en : Int → Nat} {A M : ab} {PQ PS PU PF PL PH lP : Nat} {l : List (Nat × Bool × tr)} {mi : Bool} {c : Int64}
theorem WR.o (R : WR X T sN en N A l H PQ PS PU PF PL PH lP) : MO A (l.map (pgE en A)) := by
  have LL : (l.map (pgE en A)).length = l.length := List.length_map _
  exact ⟨R.T, LQ_PB R.T R.q R.m, fun i hi fi => by
    rw [LL] at hi
    exact ((LQ_pq R.T R.q hi).2 (of_decide_eq_true fi).1).2.1⟩
theorem c_i64 (hc : c = 0 ∨ c = -1) : -1 ≤ c.toInt ∧ c.toInt ≤ 0 := by
  rcases hc with e | e
  · rw [e]; exact ⟨by decide, by decide⟩
  · rw [e]; exact ⟨by decide, by decide⟩
/-- one row of pairs -/
theorem meet_in (J : RJ X T sN en) (R : WR X T sN en N A l H PQ PS PU PF PL PH lP) (s : sp X to) (sN' : sp X N) (ne : N ≠ to) (hc : c = 0 ∨ c = -1) (hM : oc_C M.n M.m) (hn : A.n ≤ M.n) (h12 : M.n ≤ 12) {i : Nat} (hi : i < l.length) (fi : pqF (l.map (pgE en A)) i = true) (kt : RK X to (some (a_lims (mtL A (l.map (pgE en A)) mi c.toInt l.length i) M))) {y6 y7 y8 y9 y10 : Option Value} : ∃ Y z6 z7 z8 z9 z10, fR (tW to) X Y ∧ RK Y to (some (a_lims (mtL A (l.map (pgE en A)) mi c.toInt l.length (i + 1)) M)) ∧ ∀ Q, mw (d + 4) 248 Q 57 [some (.ref 115), some (.int (kb mi)), some (.long c), none, some (.ref to), some (.int (Int32.ofNat i)), some (.int (Int32.ofNat i)), y7, y8, y9, y10] [] X = mw (d + 4) 248 Q 177 [some (.ref 115), some (.int (kb mi)), some (.long c), none, some (.ref to), some (.int (Int32.ofNat i)), z6, z7, z8, z9, z10] [] Y := by
  have LL : (l.map (pgE en A)).length = l.length := List.length_map _
  have O := R.o
  have cb := c_i64 hc
  have cond : ∀ n, n ≤ l.length - i → ∀ e ∈ mtL A (l.map (pgE en A)) mi c.toInt l.length i ++ mtI A (l.map (pgE en A)) mi c.toInt i n, e.1 < 2 * M.n ∧ e.2.1 < 2 * M.n ∧ e.1 ≠ oc_b e.2.1 := fun n hn' e he => by
    rcases List.mem_append.mp he with he | he
    · obtain ⟨i', j', h1, h2, h3, h4⟩ := (mtL_m _ (by omega)).mp he
      exact O.cc hn (by rw [LL]; omega) (by rw [LL]; omega) h4
    · obtain ⟨j', h1, h2, h4⟩ := (mtI_m _).mp he
      exact O.cc hn (by rw [LL]; omega) (by rw [LL]; omega) h4
  have L := mw_inv (d := d + 4) (y := 248) (pc := 57) (st := []) (fun n ls Y => ∃ x7 x8 x9 x10 : Option Value, ls = [some (.ref 115), some (.int (kb mi)), some (.long c), none, some (.ref to), some (.int (Int32.ofNat i)), some (.int (Int32.ofNat (i + n))), x7, x8, x9, x10] ∧ fR (tW to) X Y ∧ RK Y to (some (a_lims (mtL A (l.map (pgE en A)) mi c.toInt l.length i ++ mtI A (l.map (pgE en A)) mi c.toInt i n) M))) (b := l.length - i) (fun n ls Y hn' I => by
    obtain ⟨x7, x8, x9, x10, rfl, f, kY⟩ := I
    have RY := WR_tW J s sN' ne f (RK_ko kY) R
    have gt : mg Y to 13 := (RK_ko kY).1
    have g := RY.a.g
    have m := RY.m
    have b := RY.b
    have lb := RY.P.b
    have cc := RY.c
    have r30 := RY.P.r30
    have g301 := RY.P.g30.1
    have g302 := RY.P.g30.2
    have l30 := RY.P.l30
    have hle : (l.length ≤ i + n) = False := eq_false (by omega)
    have fv := (RY.v i hi).1
    have k1' : kb true = 1 := rfl
    rw [fi, k1'] at fv
    have fw := (RY.v (i + n) (by omega)).1
    have ei : ∀ k, Int32.ofNat k + 1 = Int32.ofNat (k + 1) := fun k => nn_add (a := k) (b := 1)
    have e10 : ((1 : Int32) = 0) = False := by decide
    have e00 : ((0 : Int32) = 0) = True := by decide
    have as : i + n + 1 = i + (n + 1) := by omega
    have st : mtI A (l.map (pgE en A)) mi c.toInt i (n + 1) = mtI A (l.map (pgE en A)) mi c.toInt i n ++ mtC A (l.map (pgE en A)) mi c.toInt i (i + n) := rfl
    cases hf : pqF (l.map (pgE en A)) (i + n) with
    | false =>
      have k0' : kb false = 0 := rfl
      rw [hf, k0'] at fw
      have sc : mtC A (l.map (pgE en A)) mi c.toInt i (i + n) = [] := by
        unfold mtC
        rw [hf, Bool.and_false, if_neg (by decide)]
      refine ⟨_, Y, ⟨x7, x8, x9, x10, rfl, f, by rw [st, sc, List.append_nil]; exact kY⟩, fun Q => ?_⟩
      clear cond O RY kY R J
      rw [s_248_57]
      simp (disch := omega) only [s_248_0, s_248_1, s_248_2, s_248_3, s_248_6, s_248_7, s_248_10, s_248_11, s_248_14, s_248_15, s_248_18, s_248_19, s_248_22, s_248_23, s_248_24, s_248_27, s_248_29, s_248_30, s_248_33, s_248_34, s_248_36, s_248_38, s_248_39, s_248_42, s_248_45, s_248_47, s_248_50, s_248_53, s_248_55, s_248_58, s_248_61, s_248_63, s_248_64, s_248_67, s_248_69, s_248_70, s_248_73, s_248_76, s_248_77, s_248_80, s_248_82, s_248_83, s_248_86, s_248_87, s_248_89, s_248_91, s_248_94, s_248_95, s_248_96, s_248_99, s_248_100, s_248_103, s_248_104, s_248_107, s_248_108, s_248_111, s_248_112, s_248_114, s_248_115, s_248_118, s_248_119, s_248_121, s_248_124, s_248_125, s_248_126, s_248_129, s_248_130, s_248_132, s_248_135, s_248_137, s_248_138, s_248_141, s_248_142, s_248_144, s_248_147, s_248_148, s_248_149, s_248_152, s_248_153, s_248_155, s_248_158, s_248_160, s_248_162, s_248_164, s_248_166, s_248_168, s_248_171, s_248_174, s_248_177, s_248_180, s_248_183, e_248, mv_i_1, mv_l_1, mv_a_1, mv_a_2, mv_a_3, mk2_n, mk2_i, mk2_l, mk2_a, mk2_u, mk2_x, mB_T, mB_F, mS_cons, mS_nil, mSB_T, mSB_F, mca_nil, mca_i, mca_l, mca_r, mca_u, mca_x, mcat_i, mcat_l, mcat_r, mcat_u, mcat_x, mK_some, mK_none, va_rf_s, va_rf_n, lgc_eq, lgc_lt, lgc_gt, lgc_ge, lgc_le, mrd_104, mrd_105, mrd_106, mrd_107, true_and, and_true, and_self, false_and, and_false, true_or, or_true, false_or, or_false, not_true_eq_false, not_false_eq_true, mgb, mga, mgr, mN, reduceCtorEq, ↓reduceIte, eq_self, ge_iff_le, gt_iff_lt, Nat.reduceAdd, Nat.reduceMul, Nat.reduceSub, Nat.reduceLT, Nat.reduceGT, Nat.reduceEqDiff, Nat.reduceLeDiff, Nat.left_eq_add, Nat.add_eq_left, Nat.reduceMod, Nat.reduceDiv, Nat.succ_ne_self, g, cc, r30, g301, g302, l30, fv, fw, nn_le, nn_mxT, nn_clamp, hle, e00, e10, ei, as]
    | true =>
      rw [hf, k1'] at fw
      have sc : mtC A (l.map (pgE en A)) mi c.toInt i (i + n) = [(mU mi (pqU (l.map (pgE en A)) i), mU mi (pqU (l.map (pgE en A)) (i + n)), c.toInt - mLow A (l.map (pgE en A)) mi (sk2 i (i + n)))] := by
        unfold mtC
        rw [fi, hf, if_pos (by decide)]
      have ui := O.U i (by rw [LL]; exact hi) fi
      have uj := O.U (i + n) (by rw [LL]; omega) hf
      obtain ⟨lo', hi2, o, bd, eo⟩ := all2 (d := d + 1) RY hi (by omega) fi hf
      have f1 : fR (tW to) Y (aS Y 115 (mh_i Y 115 24) lo' hi2) := tW_aS
      have kA : RK (aS Y 115 (mh_i Y 115 24) lo' hi2) to (some (a_lims (mtL A (l.map (pgE en A)) mi c.toInt l.length i ++ mtI A (l.map (pgE en A)) mi c.toInt i n) M)) := RK_aS g kY
      have RA := WR_tW J s sN' ne (tW_t f f1) (RK_ko kA) R
      have eu := u_245 (d := d + 3) RA hi fi
      have eu2 := u_245 (d := d + 3) RA (show i + n < l.length by omega) hf
      have cv : (c - (if mi = true then -hi2 else lo')).toInt = c.toInt - mLow A (l.map (pgE en A)) mi (sk2 i (i + n)) := by
        unfold mLow
        rw [o]
        cases mi with
        | true => rw [if_pos rfl, if_pos rfl, lsub_int (by rw [i64_n (by omega)]; omega) (by rw [i64_n (by omega)]; omega), i64_n (by omega)]
        | false => rw [if_neg (by decide), if_neg (by decide), lsub_int (by omega) (by omega)]
      have vi := mU_l (mi := mi) (n := M.n) (show pqU (l.map (pgE en A)) i < 2 * M.n by omega)
      have vj := mU_l (mi := mi) (n := M.n) (show pqU (l.map (pgE en A)) (i + n) < 2 * M.n by omega)
      have cb2 : -1152921504606846976 ≤ (c - (if mi = true then -hi2 else lo')).toInt ∧ (c - (if mi = true then -hi2 else lo')).toInt ≤ 1152921504606846976 := by
        rw [cv]
        unfold mLow
        rw [o]
        cases mi with
        | true => rw [if_pos rfl]; dsimp only; omega
        | false => rw [if_neg (by decide)]; dsimp only; omega
      obtain ⟨Z1, g1, k1, e1⟩ := lim_1 (d := d + 3) (v := mU mi (pqU (l.map (pgE en A)) i)) (w := mU mi (pqU (l.map (pgE en A)) (i + n))) (c := c - (if mi = true then -hi2 else lo')) kA hM (cond n (by omega)) vi vj cb2
      have x1 : Int32.ofNat (pqU (l.map (pgE en A)) i) ^^^ 1 = Int32.ofNat (oc_b (pqU (l.map (pgE en A)) i)) := nn_xor1 (by omega)
      have x2 : Int32.ofNat (pqU (l.map (pgE en A)) (i + n)) ^^^ 1 = Int32.ofNat (oc_b (pqU (l.map (pgE en A)) (i + n))) := nn_xor1 (by omega)
      refine ⟨[some (.ref 115), some (.int (kb mi)), some (.long c), none, some (.ref to), some (.int (Int32.ofNat i)), some (.int (Int32.ofNat (i + (n + 1)))), some (.long (c - (if mi = true then -hi2 else lo'))), none, some (.int (Int32.ofNat (mU mi (pqU (l.map (pgE en A)) i)))), some (.int (Int32.ofNat (mU mi (pqU (l.map (pgE en A)) (i + n)))))], Z1, ⟨_, _, _, _, rfl, tW_t f (tW_t f1 (tW_k g1)), ?_⟩, fun Q => ?_⟩
      · rw [st, sc, ← cv, ← List.append_assoc]
        exact k1
      · clear cond O RY kY R J RA kA k1 bd st sc cv cb2
        cases mi with
        | true =>
          have m1 : ∀ u, mU true u = oc_b u := fun u => rfl
          rw [m1, m1, if_pos rfl] at e1
          rw [m1, m1, if_pos rfl, k1', s_248_57]
          simp (disch := omega) only [s_248_0, s_248_1, s_248_2, s_248_3, s_248_6, s_248_7, s_248_10, s_248_11, s_248_14, s_248_15, s_248_18, s_248_19, s_248_22, s_248_23, s_248_24, s_248_27, s_248_29, s_248_30, s_248_33, s_248_34, s_248_36, s_248_38, s_248_39, s_248_42, s_248_45, s_248_47, s_248_50, s_248_53, s_248_55, s_248_58, s_248_61, s_248_63, s_248_64, s_248_67, s_248_69, s_248_70, s_248_73, s_248_76, s_248_77, s_248_80, s_248_82, s_248_83, s_248_86, s_248_87, s_248_89, s_248_91, s_248_94, s_248_95, s_248_96, s_248_99, s_248_100, s_248_103, s_248_104, s_248_107, s_248_108, s_248_111, s_248_112, s_248_114, s_248_115, s_248_118, s_248_119, s_248_121, s_248_124, s_248_125, s_248_126, s_248_129, s_248_130, s_248_132, s_248_135, s_248_137, s_248_138, s_248_141, s_248_142, s_248_144, s_248_147, s_248_148, s_248_149, s_248_152, s_248_153, s_248_155, s_248_158, s_248_160, s_248_162, s_248_164, s_248_166, s_248_168, s_248_171, s_248_174, s_248_177, s_248_180, s_248_183, e_248, mv_i_1, mv_l_1, mv_a_1, mv_a_2, mv_a_3, mk2_n, mk2_i, mk2_l, mk2_a, mk2_u, mk2_x, mB_T, mB_F, mS_cons, mS_nil, mSB_T, mSB_F, mca_nil, mca_i, mca_l, mca_r, mca_u, mca_x, mcat_i, mcat_l, mcat_r, mcat_u, mcat_x, mK_some, mK_none, va_rf_s, va_rf_n, lgc_eq, lgc_lt, lgc_gt, lgc_ge, lgc_le, mrd_104, mrd_105, mrd_106, mrd_107, true_and, and_true, and_self, false_and, and_false, true_or, or_true, false_or, or_false, not_true_eq_false, not_false_eq_true, mgb, mga, mgr, mN, reduceCtorEq, ↓reduceIte, eq_self, ge_iff_le, gt_iff_lt, Nat.reduceAdd, Nat.reduceMul, Nat.reduceSub, Nat.reduceLT, Nat.reduceGT, Nat.reduceEqDiff, Nat.reduceLeDiff, Nat.left_eq_add, Nat.add_eq_left, Nat.reduceMod, Nat.reduceDiv, Nat.succ_ne_self, g, gt, aS_g, aS_i, aS_j, cc, r30, g301, g302, l30, fv, fw, nn_le, nn_mxT, nn_clamp, hle, e10, ei, eo, eu, eu2, x1, x2, e1, as]
        | false =>
          have m1 : ∀ u, mU false u = u := fun u => rfl
          have k0' : kb false = 0 := rfl
          rw [m1, m1, if_neg (by decide)] at e1
          rw [m1, m1, if_neg (by decide), k0', s_248_57]
          simp (disch := omega) only [s_248_0, s_248_1, s_248_2, s_248_3, s_248_6, s_248_7, s_248_10, s_248_11, s_248_14, s_248_15, s_248_18, s_248_19, s_248_22, s_248_23, s_248_24, s_248_27, s_248_29, s_248_30, s_248_33, s_248_34, s_248_36, s_248_38, s_248_39, s_248_42, s_248_45, s_248_47, s_248_50, s_248_53, s_248_55, s_248_58, s_248_61, s_248_63, s_248_64, s_248_67, s_248_69, s_248_70, s_248_73, s_248_76, s_248_77, s_248_80, s_248_82, s_248_83, s_248_86, s_248_87, s_248_89, s_248_91, s_248_94, s_248_95, s_248_96, s_248_99, s_248_100, s_248_103, s_248_104, s_248_107, s_248_108, s_248_111, s_248_112, s_248_114, s_248_115, s_248_118, s_248_119, s_248_121, s_248_124, s_248_125, s_248_126, s_248_129, s_248_130, s_248_132, s_248_135, s_248_137, s_248_138, s_248_141, s_248_142, s_248_144, s_248_147, s_248_148, s_248_149, s_248_152, s_248_153, s_248_155, s_248_158, s_248_160, s_248_162, s_248_164, s_248_166, s_248_168, s_248_171, s_248_174, s_248_177, s_248_180, s_248_183, e_248, mv_i_1, mv_l_1, mv_a_1, mv_a_2, mv_a_3, mk2_n, mk2_i, mk2_l, mk2_a, mk2_u, mk2_x, mB_T, mB_F, mS_cons, mS_nil, mSB_T, mSB_F, mca_nil, mca_i, mca_l, mca_r, mca_u, mca_x, mcat_i, mcat_l, mcat_r, mcat_u, mcat_x, mK_some, mK_none, va_rf_s, va_rf_n, lgc_eq, lgc_lt, lgc_gt, lgc_ge, lgc_le, mrd_104, mrd_105, mrd_106, mrd_107, true_and, and_true, and_self, false_and, and_false, true_or, or_true, false_or, or_false, not_true_eq_false, not_false_eq_true, mgb, mga, mgr, mN, reduceCtorEq, ↓reduceIte, eq_self, ge_iff_le, gt_iff_lt, Nat.reduceAdd, Nat.reduceMul, Nat.reduceSub, Nat.reduceLT, Nat.reduceGT, Nat.reduceEqDiff, Nat.reduceLeDiff, Nat.left_eq_add, Nat.add_eq_left, Nat.reduceMod, Nat.reduceDiv, Nat.succ_ne_self, g, gt, aS_g, aS_i, aS_j, cc, r30, g301, g302, l30, fv, fw, nn_le, nn_mxT, nn_clamp, hle, e10, e00, ei, eo, eu, eu2, e1, as]) (l.length - i) 0 (by omega) [some (.ref 115), some (.int (kb mi)), some (.long c), none, some (.ref to), some (.int (Int32.ofNat i)), some (.int (Int32.ofNat i)), y7, y8, y9, y10] X ⟨y7, y8, y9, y10, rfl, fR_id, by rw [show mtI A (l.map (pgE en A)) mi c.toInt i 0 = [] from rfl, List.append_nil]; exact kt⟩
  obtain ⟨ls, Y, ⟨x7, x8, x9, x10, rfl, f, kY⟩, e⟩ := L
  have RY := WR_tW J s sN' ne f (RK_ko kY) R
  have g := RY.a.g
  have m := RY.m
  have b := RY.b
  have lb := RY.P.b
  have cc := RY.c
  have r30 := RY.P.r30
  have g301 := RY.P.g30.1
  have g302 := RY.P.g30.2
  have l30 := RY.P.l30
  have fv := (RY.v i hi).1
  have k1' : kb true = 1 := rfl
  rw [fi, k1'] at fv
  have hle : (l.length ≤ i + (l.length - i)) = True := eq_true (by omega)
  refine ⟨Y, some (.int (Int32.ofNat (i + (l.length - i)))), x7, x8, x9, x10, f, kY, fun Q => (e Q).trans ?_⟩
  clear cond O RY kY R J e
  rw [s_248_57]
  simp (disch := omega) only [s_248_0, s_248_1, s_248_2, s_248_3, s_248_6, s_248_7, s_248_10, s_248_11, s_248_14, s_248_15, s_248_18, s_248_19, s_248_22, s_248_23, s_248_24, s_248_27, s_248_29, s_248_30, s_248_33, s_248_34, s_248_36, s_248_38, s_248_39, s_248_42, s_248_45, s_248_47, s_248_50, s_248_53, s_248_55, s_248_58, s_248_61, s_248_63, s_248_64, s_248_67, s_248_69, s_248_70, s_248_73, s_248_76, s_248_77, s_248_80, s_248_82, s_248_83, s_248_86, s_248_87, s_248_89, s_248_91, s_248_94, s_248_95, s_248_96, s_248_99, s_248_100, s_248_103, s_248_104, s_248_107, s_248_108, s_248_111, s_248_112, s_248_114, s_248_115, s_248_118, s_248_119, s_248_121, s_248_124, s_248_125, s_248_126, s_248_129, s_248_130, s_248_132, s_248_135, s_248_137, s_248_138, s_248_141, s_248_142, s_248_144, s_248_147, s_248_148, s_248_149, s_248_152, s_248_153, s_248_155, s_248_158, s_248_160, s_248_162, s_248_164, s_248_166, s_248_168, s_248_171, s_248_174, s_248_177, s_248_180, s_248_183, e_248, mv_i_1, mv_l_1, mv_a_1, mv_a_2, mv_a_3, mk2_n, mk2_i, mk2_l, mk2_a, mk2_u, mk2_x, mB_T, mB_F, mS_cons, mS_nil, mSB_T, mSB_F, mca_nil, mca_i, mca_l, mca_r, mca_u, mca_x, mcat_i, mcat_l, mcat_r, mcat_u, mcat_x, mK_some, mK_none, va_rf_s, va_rf_n, lgc_eq, lgc_lt, lgc_gt, lgc_ge, lgc_le, mrd_104, mrd_105, mrd_106, mrd_107, true_and, and_true, and_self, false_and, and_false, true_or, or_true, false_or, or_false, not_true_eq_false, not_false_eq_true, mgb, mga, mgr, mN, reduceCtorEq, ↓reduceIte, eq_self, ge_iff_le, gt_iff_lt, Nat.reduceAdd, Nat.reduceMul, Nat.reduceSub, Nat.reduceLT, Nat.reduceGT, Nat.reduceEqDiff, Nat.reduceLeDiff, Nat.left_eq_add, Nat.add_eq_left, Nat.reduceMod, Nat.reduceDiv, Nat.succ_ne_self, g, cc, r30, g301, g302, l30, fv, nn_le, nn_mxT, nn_clamp, hle, show ((1 : Int32) = 0) = False by decide]
end MTm
