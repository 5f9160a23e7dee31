set_option maxRecDepth 100000
/-! Analysis.weigh -/
section WG2
variable {d : Nat} {h X : mh_H} {T N : Nat} {sN : Int → Prop} {en : Int → Nat} {A : ab} {PQ PS PU PF PL PH lP : Nat} {l : List (Nat × Bool × tr)}
theorem pgE_v {e : Nat × Bool × tr} {x y : Int} (h : (ev en A e.2.2 none).1 = some (x, y)) : pgE en A e = (e.2.1, (pgE en A e).2.1, x, y) := by
  unfold pgE
  cases ht : e.2.2 with
  | leaf u => rw [ht] at h; cases h
  | branch n cs r =>
    rw [ht] at h
    try dsimp only
    unfold p1
    rw [h]
theorem wg_a (a : AE X T sN en) (P : PR X PQ PS PU PF PL PH lP) {m i : Nat} {al : Int32} {x3 x4 : Option Value} (c : mh_i X 115 33 = Int32.ofNat m) (b : m ≤ lP) (hi : i < m) : ∀ Q, mw d 244 Q 7 [some (.ref 115), some (.int al), some (.int (Int32.ofNat i)), x3, x4] [] X = mw d 244 Q 33 [some (.ref 115), some (.int al), some (.int (Int32.ofNat i)), some (.int (kb (decide (¬ mh_i X PU i < 0)))), some (.int (Int32.ofNat 0))] [] X := by
  intro Q
  have g := a.g
  have bb := P.b
  have r29 := P.r29
  have g29 := P.g29
  have l29 := P.l29
  clear a P
  have hle : (m ≤ i) = False := eq_false (by omega)
  rw [s_244_7]
  by_cases cz : mh_i X PU i < 0
  · have : kb (decide (¬ mh_i X PU i < 0)) = 0 := by rw [decide_eq_false (fun z => z cz)]; rfl
    rw [this]
    simp (disch := omega) only [s_244_0, s_244_1, s_244_4, s_244_5, s_244_6, s_244_8, s_244_9, s_244_12, s_244_15, s_244_16, s_244_19, s_244_20, s_244_21, s_244_24, s_244_25, s_244_28, s_244_29, s_244_30, s_244_31, s_244_35, s_244_36, s_244_39, s_244_42, s_244_43, s_244_46, s_244_48, s_244_49, s_244_52, s_244_53, s_244_56, s_244_58, s_244_59, s_244_60, s_244_63, s_244_64, s_244_65, s_244_68, s_244_69, s_244_72, s_244_73, s_244_74, s_244_77, s_244_80, s_244_81, s_244_84, s_244_85, s_244_86, s_244_87, s_244_88, s_244_89, s_244_92, s_244_93, s_244_94, s_244_97, s_244_98, s_244_99, s_244_102, s_244_103, s_244_104, s_244_107, s_244_108, s_244_109, s_244_112, s_244_113, s_244_116, s_244_119, s_244_120, s_244_123, s_244_124, s_244_125, s_244_126, s_244_129, s_244_130, s_244_131, s_244_134, s_244_135, s_244_136, s_244_139, s_244_140, s_244_143, s_244_146, s_244_147, s_244_150, s_244_151, s_244_152, s_244_155, s_244_158, s_244_159, s_244_160, s_244_163, e_244, mv_i_1, mv_l_1, mv_a_1, mv_a_2, mv_a_3, mk2_n, mk2_i, mk2_l, mk2_a, mk2_u, mk2_x, mB_T, mB_F, mS_cons, mS_nil, mSB_T, mSB_F, mca_nil, mca_i, mca_l, mca_r, mca_u, mca_x, mcat_i, mcat_l, mcat_r, mcat_u, mcat_x, mK_some, mK_none, va_rf_s, va_rf_n, lgc_eq, lgc_lt, lgc_gt, lgc_ge, lgc_le, mrd_104, mrd_105, mrd_106, mrd_107, true_and, and_true, and_self, false_and, and_false, true_or, or_true, false_or, or_false, not_true_eq_false, not_false_eq_true, mgb, mga, mgr, mN, reduceCtorEq, ↓reduceIte, eq_self, ge_iff_le, gt_iff_lt, Nat.reduceAdd, Nat.reduceMul, Nat.reduceSub, Nat.reduceLT, Nat.reduceGT, Nat.reduceEqDiff, Nat.reduceLeDiff, Nat.left_eq_add, Nat.add_eq_left, Nat.reduceMod, Nat.reduceDiv, Nat.succ_ne_self, g, c, r29, g29, l29, nn_le, nn_mxT, nn_clamp, hle, cz]
    rfl
  · have : kb (decide (¬ mh_i X PU i < 0)) = 1 := by rw [decide_eq_true cz]; rfl
    rw [this]
    simp (disch := omega) only [s_244_0, s_244_1, s_244_4, s_244_5, s_244_6, s_244_8, s_244_9, s_244_12, s_244_15, s_244_16, s_244_19, s_244_20, s_244_21, s_244_24, s_244_25, s_244_28, s_244_29, s_244_30, s_244_31, s_244_35, s_244_36, s_244_39, s_244_42, s_244_43, s_244_46, s_244_48, s_244_49, s_244_52, s_244_53, s_244_56, s_244_58, s_244_59, s_244_60, s_244_63, s_244_64, s_244_65, s_244_68, s_244_69, s_244_72, s_244_73, s_244_74, s_244_77, s_244_80, s_244_81, s_244_84, s_244_85, s_244_86, s_244_87, s_244_88, s_244_89, s_244_92, s_244_93, s_244_94, s_244_97, s_244_98, s_244_99, s_244_102, s_244_103, s_244_104, s_244_107, s_244_108, s_244_109, s_244_112, s_244_113, s_244_116, s_244_119, s_244_120, s_244_123, s_244_124, s_244_125, s_244_126, s_244_129, s_244_130, s_244_131, s_244_134, s_244_135, s_244_136, s_244_139, s_244_140, s_244_143, s_244_146, s_244_147, s_244_150, s_244_151, s_244_152, s_244_155, s_244_158, s_244_159, s_244_160, s_244_163, e_244, mv_i_1, mv_l_1, mv_a_1, mv_a_2, mv_a_3, mk2_n, mk2_i, mk2_l, mk2_a, mk2_u, mk2_x, mB_T, mB_F, mS_cons, mS_nil, mSB_T, mSB_F, mca_nil, mca_i, mca_l, mca_r, mca_u, mca_x, mcat_i, mcat_l, mcat_r, mcat_u, mcat_x, mK_some, mK_none, va_rf_s, va_rf_n, lgc_eq, lgc_lt, lgc_gt, lgc_ge, lgc_le, mrd_104, mrd_105, mrd_106, mrd_107, true_and, and_true, and_self, false_and, and_false, true_or, or_true, false_or, or_false, not_true_eq_false, not_false_eq_true, mgb, mga, mgr, mN, reduceCtorEq, ↓reduceIte, eq_self, ge_iff_le, gt_iff_lt, Nat.reduceAdd, Nat.reduceMul, Nat.reduceSub, Nat.reduceLT, Nat.reduceGT, Nat.reduceEqDiff, Nat.reduceLeDiff, Nat.left_eq_add, Nat.add_eq_left, Nat.reduceMod, Nat.reduceDiv, Nat.succ_ne_self, g, c, r29, g29, l29, nn_le, nn_mxT, nn_clamp, hle, cz]
    rfl
theorem wg_b (a : AE X T sN en) (P : PR X PQ PS PU PF PL PH lP) {i k : Nat} {al A' : Int32} {f tu : Bool} {j' : Int32} {lo hi : Int64} (hi' : i < lP) (k0 : mh_i X PQ i = Int32.ofNat k) (s0 : mh_i X PS i = sgn tu) (er : ∀ Q, mcall d 233 [.ref 115, .int (Int32.ofNat k)] (mh_si X PF i (kb f)) Q = Q (some (.int 1)) (aS (mh_si X PF i (kb f)) 115 A' lo hi)) : ∀ Q, mw (d + 1) 244 Q 80 [some (.ref 115), some (.int al), some (.int (Int32.ofNat i)), some (.int (kb f)), some (.int j')] [] X = mw (d + 1) 244 Q 7 [some (.ref 115), some (.int al), some (.int (Int32.ofNat (i + 1))), some (.int (kb f)), some (.int j')] [] (mh_sj (mh_sj (aS (mh_si X PF i (kb f)) 115 A' lo hi) PL i (if tu = true then -hi else lo)) PH i (if tu = true then -lo else hi)) := by
  intro Q
  have g := a.g
  have bb := P.b
  have nF := P.n PF (by simp)
  have nL := P.n PL (by simp)
  have nH := P.n PH (by simp)
  have nS := P.n PS (by simp)
  have oF : ¬ PF = 115 := by omega
  have oL : ¬ PL = 115 := by omega
  have oH : ¬ PH = 115 := by omega
  have oS : ¬ PS = 115 := by omega
  have o115 : ¬ 115 = PL := by omega
  have dLH := P.d4
  have ei : ∀ k, Int32.ofNat k + 1 = Int32.ofNat (k + 1) := fun k => nn_add (a := k) (b := 1)
  obtain ⟨r27, r28, r29, r30, r31, r32, g27, g28, g29, g30, g31, g32, l27, l28, l29, l30, l31, l32, -, -, -, -, -, -, -, -⟩ := P
  have g301 := g30.1
  have g302 := g30.2
  have kQF : ¬ PQ = PF := fun z => by have := g27.1; have := g30.1; rw [z] at *; omega
  have kSF : ¬ PS = PF := fun z => by have := g28.1; have := g30.1; rw [z] at *; omega
  have mb := mna_b (h := X) g301 f
  clear a nF nL nH nS
  cases tu with
  | true =>
    have sg1 : sgn true = -1 := rfl
    rw [sg1] at s0
    rw [if_pos rfl, if_pos rfl]
    simp (disch := omega) only [s_244_0, s_244_1, s_244_4, s_244_5, s_244_6, s_244_8, s_244_9, s_244_12, s_244_15, s_244_16, s_244_19, s_244_20, s_244_21, s_244_24, s_244_25, s_244_28, s_244_29, s_244_30, s_244_31, s_244_33, s_244_35, s_244_36, s_244_39, s_244_42, s_244_43, s_244_46, s_244_48, s_244_49, s_244_52, s_244_53, s_244_56, s_244_58, s_244_59, s_244_60, s_244_63, s_244_64, s_244_65, s_244_68, s_244_69, s_244_72, s_244_73, s_244_74, s_244_77, s_244_80, s_244_81, s_244_84, s_244_85, s_244_86, s_244_87, s_244_88, s_244_89, s_244_92, s_244_93, s_244_94, s_244_97, s_244_98, s_244_99, s_244_102, s_244_103, s_244_104, s_244_107, s_244_108, s_244_109, s_244_112, s_244_113, s_244_116, s_244_119, s_244_120, s_244_123, s_244_124, s_244_125, s_244_126, s_244_129, s_244_130, s_244_131, s_244_134, s_244_135, s_244_136, s_244_139, s_244_140, s_244_143, s_244_146, s_244_147, s_244_150, s_244_151, s_244_152, s_244_155, s_244_158, s_244_159, s_244_160, s_244_163, e_244, mv_i_1, mv_l_1, mv_a_1, mv_a_2, mv_a_3, mk2_n, mk2_i, mk2_l, mk2_a, mk2_u, mk2_x, mB_T, mB_F, mS_cons, mS_nil, mSB_T, mSB_F, mca_nil, mca_i, mca_l, mca_r, mca_u, mca_x, mcat_i, mcat_l, mcat_r, mcat_u, mcat_x, mK_some, mK_none, va_rf_s, va_rf_n, lgc_eq, lgc_lt, lgc_gt, lgc_ge, lgc_le, mrd_104, mrd_105, mrd_106, mrd_107, true_and, and_true, and_self, false_and, and_false, true_or, or_true, false_or, or_false, not_true_eq_false, not_false_eq_true, mgb, mga, mgr, mN, reduceCtorEq, ↓reduceIte, eq_self, ge_iff_le, gt_iff_lt, hk_si, hk_sj, hk_sr, hl_si, hl_sj, hl_sr, hn_si, hn_sj, hn_sr, hs_si, hs_sj, hs_sr, hi_sj, hi_sr, hj_si, hj_sr, hr_si, hr_sj, hi_si, hj_sj, hr_sr, mg_si, mg_sj, mg_sr, Nat.reduceAdd, Nat.reduceMul, Nat.reduceSub, Nat.reduceLT, Nat.reduceGT, Nat.reduceEqDiff, Nat.reduceLeDiff, Nat.left_eq_add, Nat.add_eq_left, Nat.reduceMod, Nat.reduceDiv, Nat.succ_ne_self, g, r27, r28, r30, r31, r32, g27, g28, g31, g32, g301, g302, l27, l28, l30, l31, l32, k0, s0, mb, er, aS_g, aS_i, aS_j, aS_r, aS_l, aS_k, aS_n, nn_le, nn_mxT, nn_clamp, o115, oS, oL, dLH, kQF, kSF, false_and, ei, show ((-1 : Int32) ≤ 0) = True by decide]
  | false =>
    have sg1 : sgn false = 1 := rfl
    rw [sg1] at s0
    rw [if_neg (by decide), if_neg (by decide)]
    simp (disch := omega) only [s_244_0, s_244_1, s_244_4, s_244_5, s_244_6, s_244_8, s_244_9, s_244_12, s_244_15, s_244_16, s_244_19, s_244_20, s_244_21, s_244_24, s_244_25, s_244_28, s_244_29, s_244_30, s_244_31, s_244_33, s_244_35, s_244_36, s_244_39, s_244_42, s_244_43, s_244_46, s_244_48, s_244_49, s_244_52, s_244_53, s_244_56, s_244_58, s_244_59, s_244_60, s_244_63, s_244_64, s_244_65, s_244_68, s_244_69, s_244_72, s_244_73, s_244_74, s_244_77, s_244_80, s_244_81, s_244_84, s_244_85, s_244_86, s_244_87, s_244_88, s_244_89, s_244_92, s_244_93, s_244_94, s_244_97, s_244_98, s_244_99, s_244_102, s_244_103, s_244_104, s_244_107, s_244_108, s_244_109, s_244_112, s_244_113, s_244_116, s_244_119, s_244_120, s_244_123, s_244_124, s_244_125, s_244_126, s_244_129, s_244_130, s_244_131, s_244_134, s_244_135, s_244_136, s_244_139, s_244_140, s_244_143, s_244_146, s_244_147, s_244_150, s_244_151, s_244_152, s_244_155, s_244_158, s_244_159, s_244_160, s_244_163, e_244, mv_i_1, mv_l_1, mv_a_1, mv_a_2, mv_a_3, mk2_n, mk2_i, mk2_l, mk2_a, mk2_u, mk2_x, mB_T, mB_F, mS_cons, mS_nil, mSB_T, mSB_F, mca_nil, mca_i, mca_l, mca_r, mca_u, mca_x, mcat_i, mcat_l, mcat_r, mcat_u, mcat_x, mK_some, mK_none, va_rf_s, va_rf_n, lgc_eq, lgc_lt, lgc_gt, lgc_ge, lgc_le, mrd_104, mrd_105, mrd_106, mrd_107, true_and, and_true, and_self, false_and, and_false, true_or, or_true, false_or, or_false, not_true_eq_false, not_false_eq_true, mgb, mga, mgr, mN, reduceCtorEq, ↓reduceIte, eq_self, ge_iff_le, gt_iff_lt, hk_si, hk_sj, hk_sr, hl_si, hl_sj, hl_sr, hn_si, hn_sj, hn_sr, hs_si, hs_sj, hs_sr, hi_sj, hi_sr, hj_si, hj_sr, hr_si, hr_sj, hi_si, hj_sj, hr_sr, mg_si, mg_sj, mg_sr, Nat.reduceAdd, Nat.reduceMul, Nat.reduceSub, Nat.reduceLT, Nat.reduceGT, Nat.reduceEqDiff, Nat.reduceLeDiff, Nat.left_eq_add, Nat.add_eq_left, Nat.reduceMod, Nat.reduceDiv, Nat.succ_ne_self, g, r27, r28, r30, r31, r32, g27, g28, g31, g32, g301, g302, l27, l28, l30, l31, l32, k0, s0, mb, er, aS_g, aS_i, aS_j, aS_r, aS_l, aS_k, aS_n, nn_le, nn_mxT, nn_clamp, o115, oS, oL, dLH, kQF, kSF, false_and, ei, show ((1 : Int32) ≤ 0) = False by decide]
theorem u_244 (a : AE h T sN en) (r23 : mh_r h 115 23 = some N) (k : RK h N (some A)) (hT : ab_T A) (P : PR h PQ PS PU PF PL PH lP) (hN : ∀ y, y ≤ 4 → ∀ j, ¬ wgW PF PL PH (N + y) j) {H : Nat} (c : mh_i h 115 33 = Int32.ofNat l.length) (b : l.length ≤ lP) (rows : ∀ i e, l[i]? = some e → mh_i h PQ i = Int32.ofNat e.1 ∧ mh_i h PS i = sgn e.2.1 ∧ mh_i h PU i = pSt en e.2.2) (hl : ∀ e ∈ l, pgP (mh_i h 93) (mh_i h 95) (mh_i h 97) sN en A 0 26000 H e ∧ (ev en A e.2.2 none).1 ≠ none) (hd : 2 * H + 7 ≤ d) : ∃ h', fR (wgW PF PL PH) h h' ∧ mh_i h' 115 24 = mh_i h 115 24 ∧ (∀ i, i < l.length → mh_i h' PF i = kb (pqF (l.map (pgE en A)) i) ∧ (mh_j h' PL i).toInt = pqL (l.map (pgE en A)) i ∧ (mh_j h' PH i).toInt = pqH (l.map (pgE en A)) i) ∧ ∀ Q, mcall d 244 [.ref 115] h Q = Q none h' := by
  obtain ⟨d', rfl⟩ : ∃ d', d = d' + 1 := ⟨d - 1, by omega⟩
  have bb := P.b
  have nF := P.n PF (by simp)
  have nL := P.n PL (by simp)
  have nH := P.n PH (by simp)
  have kFL : ¬ PF = PL := fun z => by have := P.g30.1; have := P.g31.1; rw [z] at *; omega
  have kFH : ¬ PF = PH := fun z => by have := P.g30.1; have := P.g32.1; rw [z] at *; omega
  have dLH := P.d4
  have dHL : ¬ PH = PL := fun z => dLH z.symm
  have oF : ¬ PF = 115 := by omega
  have oL : ¬ PL = 115 := by omega
  have oH : ¬ PH = 115 := by omega
  have ei : ∀ k, Int32.ofNat k + 1 = Int32.ofNat (k + 1) := fun k => nn_add (a := k) (b := 1)
  have L := mw_inv (d := d' + 1) (y := 244) (pc := 7) (st := []) (fun i ls X => ∃ x3 x4 : Option Value, ls = [some (.ref 115), some (.int (mh_i h 115 24)), some (.int (Int32.ofNat i)), x3, x4] ∧ fR (wgW PF PL PH) h X ∧ ∀ q, q < i → mh_i X PF q = kb (pqF (l.map (pgE en A)) q) ∧ (mh_j X PL q).toInt = pqL (l.map (pgE en A)) q ∧ (mh_j X PH q).toInt = pqH (l.map (pgE en A)) q) (b := l.length) (fun i ls X hi I => by
    obtain ⟨x3, x4, rfl, f, done⟩ := I
    obtain ⟨aX, PX, -, rX, cX, RQ, RS', RU⟩ := wg_st a P f.1
    have he : l[i]? = some l[i] := List.getElem?_eq_getElem hi
    obtain ⟨q1, q2, q3⟩ := rows i _ he
    obtain ⟨pp, sm⟩ := hl _ (List.getElem_mem hi)
    generalize hee : l[i] = e at *
    have g := aX.g
    have cX' : mh_i X 115 33 = Int32.ofNat l.length := cX.trans c
    obtain ⟨r27, r28, r29, r30, r31, r32, g27, g28, g29, g30, g31, g32, l27, l28, l29, l30, l31, l32, -, -, -, -, -, -, -, -⟩ := id PX
    have g301 := g30.1
    have g302 := g30.2
    have u0 : mh_i X PU i = pSt en e.2.2 := by rw [RU]; exact q3
    have s0 : mh_i X PS i = sgn e.2.1 := by rw [RS']; exact q2
    have k0 : mh_i X PQ i = Int32.ofNat e.1 := by rw [RQ]; exact q1
    -- free or not
    have fr := fre_at (l := l) hT (fun e he => (hl e he).1.w) (u := mh_i X PU) (fun i e he => by rw [RU]; exact (rows i e he).2.2) hi
    obtain ⟨j', ej⟩ := wg_in (d := d' + 1) (al := mh_i h 115 24) aX PX cX' b hi l.length 0 (decide (¬ mh_i X PU i < 0)) (by omega)
    rw [fr] at ej
    -- the row of free ones
    have f1 : fR (wgW PF PL PH) h (mh_si X PF i (kb (pqF (l.map (pgE en A)) i))) := fR_t f (fR_si (Or.inr (Or.inl rfl)))
    obtain ⟨a1, -, ⟨n1, n2, n3⟩, r1, -, -⟩ := wg_st a P f1.1
    have K1 : RK (mh_si X PF i (kb (pqF (l.map (pgE en A)) i))) N (some A) := RK_fz f1.1 hN k
    have tt := pp.hi
    obtain ⟨b1, lo, hi', eR1, er⟩ := u_233 (d := d') a1 (r1.trans r23) K1 hT (t := e.2.2) (p := e.1) (by have := pp.h; omega) (by rw [n1, n2, n3]; exact pp.nd) (by omega) pp.w
    obtain ⟨vx, vy, hv⟩ : ∃ x y, (ev en A e.2.2 none).1 = some (x, y) := by
      cases hq : (ev en A e.2.2 none).1 with
      | none => exact absurd hq sm
      | some p => exact ⟨p.1, p.2, rfl⟩
    have bt : b1 = true := by
      cases b1 with
      | true => rfl
      | false => exact absurd (eR_n eR1 rfl) sm
    obtain ⟨vx', vy', hv', vl, vh⟩ := eR_s eR1 bt
    rw [hv] at hv'
    cases hv'
    obtain ⟨ix, iy, ixy⟩ := (ev_in hT e.2.2).1 pp.w vx vy hv
    have pqe := pq_at (en := en) (A := A) he
    rw [pgE_v hv] at pqe
    have fin : ∀ tu, e.2.1 = tu → ∃ v w : Int64, v.toInt = pqL (l.map (pgE en A)) i ∧ w.toInt = pqH (l.map (pgE en A)) i ∧ v = (if tu = true then -hi' else lo) ∧ w = (if tu = true then -lo else hi') := fun tu ht => by
      refine ⟨_, _, ?_, ?_, rfl, rfl⟩
      · unfold pqL
        rw [pqe]
        try dsimp only
        rw [ht]
        have := ix.1
        have := iy.1
        cases tu with
        | true => rw [if_pos rfl, if_pos rfl, i64_n (by omega), vh]
        | false => rw [if_neg (by decide), if_neg (by decide), vl]
      · unfold pqH
        rw [pqe]
        try dsimp only
        rw [ht]
        have := ix.1
        have := iy.1
        cases tu with
        | true => rw [if_pos rfl, if_pos rfl, i64_n (by omega), vl]
        | false => rw [if_neg (by decide), if_neg (by decide), vh]
    obtain ⟨v, w, v1, w1, v2, w2⟩ := fin _ rfl
    generalize hX1 : mh_si X PF i (kb (pqF (l.map (pgE en A)) i)) = X1 at *
    refine ⟨[some (.ref 115), some (.int (mh_i h 115 24)), some (.int (Int32.ofNat (i + 1))), some (.int (kb (pqF (l.map (pgE en A)) i))), some (.int j')], mh_sj (mh_sj (aS X1 115 (mh_i X1 115 24 ||| (ev en A e.2.2 none).2) lo hi') PL i v) PH i w, ⟨_, _, rfl, fR_t f1 (fR_t (fR_t (fR_aS (fun j hj => Or.inl ⟨rfl, hj⟩)) (fR_sj (Or.inr (Or.inr (Or.inl rfl))))) (fR_sj (Or.inr (Or.inr (Or.inr rfl))))), fun q hq => ?_⟩, fun Q => ?_⟩
    · rw [← hX1]
      by_cases cq : q = i
      · subst cq
        simp only [hi_sj, hj_sj, aS_i, aS_j, hi_si, hj_si, oF, oL, oH, kFL, kFH, dLH, dHL, false_and, and_self, if_false, if_true]
        exact ⟨trivial, v1, w1⟩
      · have d0 := done q (by omega)
        simp only [hi_sj, hj_sj, aS_i, aS_j, hi_si, hj_si, oF, oL, oH, cq, false_and, and_false, if_false]
        exact d0
    · rw [bt] at er
      rw [wg_a aX PX cX' b hi Q, ej Q]
      have e9 := wg_b (d := d') (al := mh_i h 115 24) (j' := j') (tu := e.2.1) aX PX (i := i) (by omega) k0 s0 (by rw [hX1]; exact er) Q
      rw [hX1, ← v2, ← w2] at e9
      exact e9) l.length 0 (by omega) [some (.ref 115), some (.int (mh_i h 115 24)), some (.int (Int32.ofNat 0)), none, none] h ⟨none, none, rfl, fR_id, fun q hq => by omega⟩
  obtain ⟨ls, X, ⟨x3, x4, rfl, f, done⟩, eL⟩ := L
  obtain ⟨aX, PX, -, rX, cX, RQ, RS', RU⟩ := wg_st a P f.1
  have g := a.g
  have gX := aX.g
  have cX' : mh_i X 115 33 = Int32.ofNat l.length := cX.trans c
  have hle : (l.length ≤ l.length) = True := eq_true (Nat.le_refl _)
  refine ⟨mh_si X 115 24 (mh_i h 115 24), fR_t f (fR_si (Or.inl ⟨rfl, Or.inl rfl⟩)), by rw [hi_si, if_pos ⟨rfl, rfl⟩], fun i hi => ?_, fun Q => ?_⟩
  · rw [hi_si, if_neg (fun z => oF z.1)]
    exact done i hi
  · have E0 : mcall (d' + 1) 244 [.ref 115] h Q = mw (d' + 1) 244 Q 7 [some (.ref 115), some (.int (mh_i h 115 24)), some (.int (Int32.ofNat 0)), none, none] [] h := by
      simp (disch := omega) only [s_244_0, s_244_1, s_244_4, s_244_5, s_244_6, s_244_8, s_244_9, s_244_12, s_244_15, s_244_16, s_244_19, s_244_20, s_244_21, s_244_24, s_244_25, s_244_28, s_244_29, s_244_30, s_244_31, s_244_33, s_244_35, s_244_36, s_244_39, s_244_42, s_244_43, s_244_46, s_244_48, s_244_49, s_244_52, s_244_53, s_244_56, s_244_58, s_244_59, s_244_60, s_244_63, s_244_64, s_244_65, s_244_68, s_244_69, s_244_72, s_244_73, s_244_74, s_244_77, s_244_80, s_244_81, s_244_84, s_244_85, s_244_86, s_244_87, s_244_88, s_244_89, s_244_92, s_244_93, s_244_94, s_244_97, s_244_98, s_244_99, s_244_102, s_244_103, s_244_104, s_244_107, s_244_108, s_244_109, s_244_112, s_244_113, s_244_116, s_244_119, s_244_120, s_244_123, s_244_124, s_244_125, s_244_126, s_244_129, s_244_130, s_244_131, s_244_134, s_244_135, s_244_136, s_244_139, s_244_140, s_244_143, s_244_146, s_244_147, s_244_150, s_244_151, s_244_152, s_244_155, s_244_158, s_244_159, s_244_160, s_244_163, e_244, mv_i_1, mv_l_1, mv_a_1, mv_a_2, mv_a_3, mk2_n, mk2_i, mk2_l, mk2_a, mk2_u, mk2_x, mB_T, mB_F, mS_cons, mS_nil, mSB_T, mSB_F, mca_nil, mca_i, mca_l, mca_r, mca_u, mca_x, mcat_i, mcat_l, mcat_r, mcat_u, mcat_x, mK_some, mK_none, va_rf_s, va_rf_n, lgc_eq, lgc_lt, lgc_gt, lgc_ge, lgc_le, mrd_104, mrd_105, mrd_106, mrd_107, true_and, and_true, and_self, false_and, and_false, true_or, or_true, false_or, or_false, not_true_eq_false, not_false_eq_true, mgb, mga, mgr, mN, reduceCtorEq, ↓reduceIte, eq_self, ge_iff_le, gt_iff_lt, Nat.reduceAdd, Nat.reduceMul, Nat.reduceSub, Nat.reduceLT, Nat.reduceGT, Nat.reduceEqDiff, Nat.reduceLeDiff, Nat.left_eq_add, Nat.add_eq_left, Nat.reduceMod, Nat.reduceDiv, Nat.succ_ne_self, g]
      rfl
    rw [E0, eL Q, s_244_7]
    simp (disch := omega) only [s_244_0, s_244_1, s_244_4, s_244_5, s_244_6, s_244_8, s_244_9, s_244_12, s_244_15, s_244_16, s_244_19, s_244_20, s_244_21, s_244_24, s_244_25, s_244_28, s_244_29, s_244_30, s_244_31, s_244_33, s_244_35, s_244_36, s_244_39, s_244_42, s_244_43, s_244_46, s_244_48, s_244_49, s_244_52, s_244_53, s_244_56, s_244_58, s_244_59, s_244_60, s_244_63, s_244_64, s_244_65, s_244_68, s_244_69, s_244_72, s_244_73, s_244_74, s_244_77, s_244_80, s_244_81, s_244_84, s_244_85, s_244_86, s_244_87, s_244_88, s_244_89, s_244_92, s_244_93, s_244_94, s_244_97, s_244_98, s_244_99, s_244_102, s_244_103, s_244_104, s_244_107, s_244_108, s_244_109, s_244_112, s_244_113, s_244_116, s_244_119, s_244_120, s_244_123, s_244_124, s_244_125, s_244_126, s_244_129, s_244_130, s_244_131, s_244_134, s_244_135, s_244_136, s_244_139, s_244_140, s_244_143, s_244_146, s_244_147, s_244_150, s_244_151, s_244_152, s_244_155, s_244_158, s_244_159, s_244_160, s_244_163, e_244, mv_i_1, mv_l_1, mv_a_1, mv_a_2, mv_a_3, mk2_n, mk2_i, mk2_l, mk2_a, mk2_u, mk2_x, mB_T, mB_F, mS_cons, mS_nil, mSB_T, mSB_F, mca_nil, mca_i, mca_l, mca_r, mca_u, mca_x, mcat_i, mcat_l, mcat_r, mcat_u, mcat_x, mK_some, mK_none, va_rf_s, va_rf_n, lgc_eq, lgc_lt, lgc_gt, lgc_ge, lgc_le, mrd_104, mrd_105, mrd_106, mrd_107, true_and, and_true, and_self, false_and, and_false, true_or, or_true, false_or, or_false, not_true_eq_false, not_false_eq_true, mgb, mga, mgr, mN, reduceCtorEq, ↓reduceIte, eq_self, ge_iff_le, gt_iff_lt, Nat.reduceAdd, Nat.reduceMul, Nat.reduceSub, Nat.reduceLT, Nat.reduceGT, Nat.reduceEqDiff, Nat.reduceLeDiff, Nat.left_eq_add, Nat.add_eq_left, Nat.reduceMod, Nat.reduceDiv, Nat.succ_ne_self, gX, cX', nn_le, hle]
end WG2
