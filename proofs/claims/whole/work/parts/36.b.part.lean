set_option maxRecDepth 100000
/-! the reference's analysis: what NAMEs mean, the rows of parts -/
abbrev AE (h : mh_H) (T : Nat) (sN : Int → Prop) (en : Int → Nat) : Prop := (RF h) ∧ (mh_r h 115 0 = some 93) ∧ (mh_r h 115 1 = some 95) ∧ (mh_r h 115 2 = some 97) ∧ (mh_i h 115 18 = Int32.ofNat T) ∧ (T ≤ 64) ∧ (∀ v, sN v → ∃ i, i < T ∧ (mh_i h 121 i).toInt = v ∧ (∀ j, i < j → j < T → (mh_i h 121 j).toInt ≠ v) ∧ mh_i h 122 i = Int32.ofNat (en v))
theorem AE.F {h : mh_H} {T : Nat} {sN : Int → Prop} {en : Int → Nat} (q : AE h T sN en) : RF h := q.1
theorem AE.r0 {h : mh_H} {T : Nat} {sN : Int → Prop} {en : Int → Nat} (q : AE h T sN en) : mh_r h 115 0 = some 93 := q.2.1
theorem AE.r1 {h : mh_H} {T : Nat} {sN : Int → Prop} {en : Int → Nat} (q : AE h T sN en) : mh_r h 115 1 = some 95 := q.2.2.1
theorem AE.r2 {h : mh_H} {T : Nat} {sN : Int → Prop} {en : Int → Nat} (q : AE h T sN en) : mh_r h 115 2 = some 97 := q.2.2.2.1
theorem AE.t {h : mh_H} {T : Nat} {sN : Int → Prop} {en : Int → Nat} (q : AE h T sN en) : mh_i h 115 18 = Int32.ofNat T := q.2.2.2.2.1
theorem AE.t64 {h : mh_H} {T : Nat} {sN : Int → Prop} {en : Int → Nat} (q : AE h T sN en) : T ≤ 64 := q.2.2.2.2.2.1
theorem AE.e {h : mh_H} {T : Nat} {sN : Int → Prop} {en : Int → Nat} (q : AE h T sN en) : ∀ v, sN v → ∃ i, i < T ∧ (mh_i h 121 i).toInt = v ∧ (∀ j, i < j → j < T → (mh_i h 121 j).toInt ≠ v) ∧ mh_i h 122 i = Int32.ofNat (en v) := q.2.2.2.2.2.2
section AEs
variable {d : Nat} {h h1 : mh_H} {T : Nat} {sN : Int → Prop} {en : Int → Nat} {W : Nat → Nat → Prop}
theorem AE.g (a : AE h T sN en) : mg h 115 12 := a.F.g 115 12 38 (by decide +kernel)
theorem AE.H (a : AE h T sN en) {N : Nat} {A : ab} (r23 : mh_r h 115 23 = some N) (k : RK h N (some A)) (hT : ab_T A) : AH h 115 93 95 97 121 122 N T A sN en :=
  ⟨a.g, a.r0, a.r1, a.r2, a.F.f 115 15 121 (by decide +kernel), a.F.f 115 16 122 (by decide +kernel), r23, a.F.g 93 102 26000 (by decide +kernel), a.F.g 95 100 26000 (by decide +kernel), a.F.g 97 100 26000 (by decide +kernel), a.F.g 121 100 64 (by decide +kernel), a.F.g 122 100 64 (by decide +kernel), a.F.l 93 102 26000 (by decide +kernel), a.F.l 95 100 26000 (by decide +kernel), a.F.l 97 100 26000 (by decide +kernel), a.F.l 121 100 64 (by decide +kernel), a.F.l 122 100 64 (by decide +kernel), a.t, a.t64, a.e, k, hT⟩
theorem AE_fz (x : fz W h h1) (a : AE h T sN en) (F' : RF h1) (w0 : ¬ W 115 0) (w1 : ¬ W 115 1) (w2 : ¬ W 115 2) (w3 : ¬ W 115 18) (wn : ∀ j, ¬ W 121 j ∧ ¬ W 122 j) : AE h1 T sN en := by
  have gM := a.F.g 121 100 64 (by decide +kernel)
  have gS := a.F.g 122 100 64 (by decide +kernel)
  refine ⟨F', by rw [fz_r x a.g w0]; exact a.r0, by rw [fz_r x a.g w1]; exact a.r1, by rw [fz_r x a.g w2]; exact a.r2, by rw [fz_i x a.g w3]; exact a.t, a.t64, fun v hv => ?_⟩
  obtain ⟨i, h1, h2, h3, h4⟩ := a.e v hv
  refine ⟨i, h1, ?_, fun j hj hj2 => ?_, ?_⟩
  · rw [fz_i x gM (wn i).1]; exact h2
  · rw [fz_i x gM (wn j).1]; exact h3 j hj hj2
  · rw [fz_i x gS (wn i).2]; exact h4
theorem u_229 (a : AE h T sN en) {k : Nat} {v : Int} (hk : k < 26000) (hv : (mh_i h 95 k).toInt = v) (hs : sN v) : ∀ Q, mcall d 229 [.ref 115, .int (Int32.ofNat k)] h Q = Q (some (.int (Int32.ofNat (en v)))) h := by
  intro Q
  obtain ⟨i, h1, h2, h3, h4⟩ := a.e v hs
  have t64 := a.t64
  have g := a.g
  have r1 := a.r1
  have r15 := a.F.f 115 15 121 (by decide +kernel)
  have r16 := a.F.f 115 16 122 (by decide +kernel)
  have gV := a.F.g 95 100 26000 (by decide +kernel)
  have gM := a.F.g 121 100 64 (by decide +kernel)
  have gS := a.F.g 122 100 64 (by decide +kernel)
  have lV := a.F.l 95 100 26000 (by decide +kernel)
  have lM := a.F.l 121 100 64 (by decide +kernel)
  have lS := a.F.l 122 100 64 (by decide +kernel)
  have ht := a.t
  have es : ∀ j, 1 ≤ j → Int32.ofNat j - 1 = Int32.ofNat (j - 1) := fun j hj => nn_sub (a := j) (b := 1) hj
  have ep : ∀ j, 1 ≤ j → Int32.ofNat j + -1 = Int32.ofNat (j - 1) := fun j hj => by rw [← es j hj, Int32.sub_eq_add_neg]
  have L := mw_loop (d := d) (y := 229) (pc := 7) (Q := Q) (st := []) (fun q => [some (.ref 115), some (.int (Int32.ofNat k)), some (.int (Int32.ofNat (T - 1 - q)))]) (fun _ => h) (a := 0) (b := T - 1 - i) (Nat.zero_le _) (fun q _ hq => by
    have ne2 : ¬ mh_i h 121 (T - 1 - q) = mh_i h 95 k := fun z => h3 (T - 1 - q) (by omega) (by omega) (by rw [z]; exact hv)
    have e1 : T - 1 - q - 1 = T - 1 - (q + 1) := by omega
    rw [s_229_7]
    simp (disch := omega) only [s_229_0, s_229_1, s_229_4, s_229_5, s_229_6, s_229_8, s_229_11, s_229_12, s_229_13, s_229_14, s_229_17, s_229_18, s_229_19, s_229_22, s_229_25, s_229_28, s_229_29, s_229_32, s_229_33, s_229_34, e_229, mv_i_1, mv_l_1, mv_a_1, mv_a_2, mv_a_3, mk2_n, mk2_i, mk2_l, mk2_a, mk2_u, mk2_x, mB_T, mB_F, mS_cons, mS_nil, mSB_T, mSB_F, mca_nil, mca_i, mca_l, mca_r, mca_u, mca_x, mcat_i, mcat_l, mcat_r, mcat_u, mcat_x, mK_some, mK_none, va_rf_s, va_rf_n, lgc_eq, lgc_lt, lgc_gt, lgc_ge, lgc_le, mrd_104, mrd_105, mrd_106, mrd_107, true_and, and_true, and_self, false_and, and_false, true_or, or_true, false_or, or_false, not_true_eq_false, not_false_eq_true, mgb, mga, mgr, mN, reduceCtorEq, ↓reduceIte, eq_self, ge_iff_le, gt_iff_lt, Nat.reduceAdd, Nat.reduceMul, Nat.reduceSub, Nat.reduceLT, Nat.reduceGT, Nat.reduceEqDiff, Nat.reduceLeDiff, Nat.left_eq_add, Nat.add_eq_left, Nat.reduceMod, Nat.reduceDiv, Nat.succ_ne_self, g, r1, r15, gV, gM, lV, lM, nn_mxT, nn_clamp, ne2, ep, e1])
  have e0 : T - 1 - 0 = T - 1 := by omega
  have e9 : T - 1 - (T - 1 - i) = i := by omega
  rw [e0, e9] at L
  have eq : mh_i h 121 i = mh_i h 95 k := Int32.toInt_inj.mp (by rw [h2, hv])
  have E0 : mcall d 229 [.ref 115, .int (Int32.ofNat k)] h Q = mw d 229 Q 7 [some (.ref 115), some (.int (Int32.ofNat k)), some (.int (Int32.ofNat (T - 1)))] [] h := by
    simp (disch := omega) only [s_229_0, s_229_1, s_229_4, s_229_5, s_229_6, s_229_8, s_229_11, s_229_12, s_229_13, s_229_14, s_229_17, s_229_18, s_229_19, s_229_22, s_229_25, s_229_28, s_229_29, s_229_32, s_229_33, s_229_34, e_229, mv_i_1, mv_l_1, mv_a_1, mv_a_2, mv_a_3, mk2_n, mk2_i, mk2_l, mk2_a, mk2_u, mk2_x, mB_T, mB_F, mS_cons, mS_nil, mSB_T, mSB_F, mca_nil, mca_i, mca_l, mca_r, mca_u, mca_x, mcat_i, mcat_l, mcat_r, mcat_u, mcat_x, mK_some, mK_none, va_rf_s, va_rf_n, lgc_eq, lgc_lt, lgc_gt, lgc_ge, lgc_le, mrd_104, mrd_105, mrd_106, mrd_107, true_and, and_true, and_self, false_and, and_false, true_or, or_true, false_or, or_false, not_true_eq_false, not_false_eq_true, mgb, mga, mgr, mN, reduceCtorEq, ↓reduceIte, eq_self, ge_iff_le, gt_iff_lt, Nat.reduceAdd, Nat.reduceMul, Nat.reduceSub, Nat.reduceLT, Nat.reduceGT, Nat.reduceEqDiff, Nat.reduceLeDiff, Nat.left_eq_add, Nat.add_eq_left, Nat.reduceMod, Nat.reduceDiv, Nat.succ_ne_self, g, ht, es]
  refine E0.trans (L.trans ?_)
  rw [s_229_7]
  simp (disch := omega) only [s_229_0, s_229_1, s_229_4, s_229_5, s_229_6, s_229_8, s_229_11, s_229_12, s_229_13, s_229_14, s_229_17, s_229_18, s_229_19, s_229_22, s_229_25, s_229_28, s_229_29, s_229_32, s_229_33, s_229_34, e_229, mv_i_1, mv_l_1, mv_a_1, mv_a_2, mv_a_3, mk2_n, mk2_i, mk2_l, mk2_a, mk2_u, mk2_x, mB_T, mB_F, mS_cons, mS_nil, mSB_T, mSB_F, mca_nil, mca_i, mca_l, mca_r, mca_u, mca_x, mcat_i, mcat_l, mcat_r, mcat_u, mcat_x, mK_some, mK_none, va_rf_s, va_rf_n, lgc_eq, lgc_lt, lgc_gt, lgc_ge, lgc_le, mrd_104, mrd_105, mrd_106, mrd_107, true_and, and_true, and_self, false_and, and_false, true_or, or_true, false_or, or_false, not_true_eq_false, not_false_eq_true, mgb, mga, mgr, mN, reduceCtorEq, ↓reduceIte, eq_self, ge_iff_le, gt_iff_lt, Nat.reduceAdd, Nat.reduceMul, Nat.reduceSub, Nat.reduceLT, Nat.reduceGT, Nat.reduceEqDiff, Nat.reduceLeDiff, Nat.left_eq_add, Nat.add_eq_left, Nat.reduceMod, Nat.reduceDiv, Nat.succ_ne_self, g, r1, r15, r16, gV, gM, gS, lV, lM, lS, nn_mxT, nn_clamp, eq, h4]
theorem u_228 (a : AE h T sN en) {k z : Nat} (hk : k < 26000) (hz : mh_i h 97 k = Int32.ofNat z) : ∀ Q, mcall d 228 [.ref 115, .int (Int32.ofNat k)] h Q = Q (some (.int (Int32.ofNat (k + z)))) h := by
  intro Q
  have g := a.g
  have r2 := a.r2
  have gZ := a.F.g 97 100 26000 (by decide +kernel)
  have lZ := a.F.l 97 100 26000 (by decide +kernel)
  simp (disch := omega) only [s_228_0, s_228_1, s_228_2, s_228_5, s_228_6, s_228_7, s_228_8, e_228, mv_i_1, mv_l_1, mv_a_1, mv_a_2, mv_a_3, mk2_n, mk2_i, mk2_l, mk2_a, mk2_u, mk2_x, mB_T, mB_F, mS_cons, mS_nil, mSB_T, mSB_F, mca_nil, mca_i, mca_l, mca_r, mca_u, mca_x, mcat_i, mcat_l, mcat_r, mcat_u, mcat_x, mK_some, mK_none, va_rf_s, va_rf_n, lgc_eq, lgc_lt, lgc_gt, lgc_ge, lgc_le, mrd_104, mrd_105, mrd_106, mrd_107, true_and, and_true, and_self, false_and, and_false, true_or, or_true, false_or, or_false, not_true_eq_false, not_false_eq_true, mgb, mga, mgr, mN, reduceCtorEq, ↓reduceIte, eq_self, ge_iff_le, gt_iff_lt, Nat.reduceAdd, Nat.reduceMul, Nat.reduceSub, Nat.reduceLT, Nat.reduceGT, Nat.reduceEqDiff, Nat.reduceLeDiff, Nat.left_eq_add, Nat.add_eq_left, Nat.reduceMod, Nat.reduceDiv, Nat.succ_ne_self, g, r2, gZ, lZ, nn_mxT, nn_clamp, nn_add, hz]
end AEs
/-- the rows of parts -/
abbrev PR (h : mh_H) (PQ PS PU PF PL PH lP : Nat) : Prop := (mh_r h 115 27 = some PQ) ∧ (mh_r h 115 28 = some PS) ∧ (mh_r h 115 29 = some PU) ∧ (mh_r h 115 30 = some PF) ∧ (mh_r h 115 31 = some PL) ∧ (mh_r h 115 32 = some PH) ∧ (mg h PQ 100) ∧ (mg h PS 100) ∧ (mg h PU 100) ∧ (mg h PF 103) ∧ (mg h PL 101) ∧ (mg h PH 101) ∧ (mh_l h PQ = lP) ∧ (mh_l h PS = lP) ∧ (mh_l h PU = lP) ∧ (mh_l h PF = lP) ∧ (mh_l h PL = lP) ∧ (mh_l h PH = lP) ∧ (¬ PQ = PS) ∧ (¬ PQ = PU) ∧ (¬ PS = PU) ∧ (¬ PL = PH) ∧ (∀ x, x = PQ ∨ x = PS ∨ x = PU ∨ x = PF ∨ x = PL ∨ x = PH → (124 ≤ x ∧ x ≤ 129) ∨ 2644 ≤ x) ∧ (∀ i a, mh_r h 119 i = some a → a + 4 < mh_n h ∧ ∀ x, x = PQ ∨ x = PS ∨ x = PU ∨ x = PF ∨ x = PL ∨ x = PH → x < a ∨ a + 4 < x) ∧ (1 ≤ lP) ∧ (lP ≤ 60000)
theorem PR.r27 {h : mh_H} {PQ PS PU PF PL PH lP : Nat} (q : PR h PQ PS PU PF PL PH lP) : mh_r h 115 27 = some PQ := q.1
theorem PR.r28 {h : mh_H} {PQ PS PU PF PL PH lP : Nat} (q : PR h PQ PS PU PF PL PH lP) : mh_r h 115 28 = some PS := q.2.1
theorem PR.r29 {h : mh_H} {PQ PS PU PF PL PH lP : Nat} (q : PR h PQ PS PU PF PL PH lP) : mh_r h 115 29 = some PU := q.2.2.1
theorem PR.r30 {h : mh_H} {PQ PS PU PF PL PH lP : Nat} (q : PR h PQ PS PU PF PL PH lP) : mh_r h 115 30 = some PF := q.2.2.2.1
theorem PR.r31 {h : mh_H} {PQ PS PU PF PL PH lP : Nat} (q : PR h PQ PS PU PF PL PH lP) : mh_r h 115 31 = some PL := q.2.2.2.2.1
theorem PR.r32 {h : mh_H} {PQ PS PU PF PL PH lP : Nat} (q : PR h PQ PS PU PF PL PH lP) : mh_r h 115 32 = some PH := q.2.2.2.2.2.1
theorem PR.g27 {h : mh_H} {PQ PS PU PF PL PH lP : Nat} (q : PR h PQ PS PU PF PL PH lP) : mg h PQ 100 := q.2.2.2.2.2.2.1
theorem PR.g28 {h : mh_H} {PQ PS PU PF PL PH lP : Nat} (q : PR h PQ PS PU PF PL PH lP) : mg h PS 100 := q.2.2.2.2.2.2.2.1
theorem PR.g29 {h : mh_H} {PQ PS PU PF PL PH lP : Nat} (q : PR h PQ PS PU PF PL PH lP) : mg h PU 100 := q.2.2.2.2.2.2.2.2.1
theorem PR.g30 {h : mh_H} {PQ PS PU PF PL PH lP : Nat} (q : PR h PQ PS PU PF PL PH lP) : mg h PF 103 := q.2.2.2.2.2.2.2.2.2.1
theorem PR.g31 {h : mh_H} {PQ PS PU PF PL PH lP : Nat} (q : PR h PQ PS PU PF PL PH lP) : mg h PL 101 := q.2.2.2.2.2.2.2.2.2.2.1
theorem PR.g32 {h : mh_H} {PQ PS PU PF PL PH lP : Nat} (q : PR h PQ PS PU PF PL PH lP) : mg h PH 101 := q.2.2.2.2.2.2.2.2.2.2.2.1
theorem PR.l27 {h : mh_H} {PQ PS PU PF PL PH lP : Nat} (q : PR h PQ PS PU PF PL PH lP) : mh_l h PQ = lP := q.2.2.2.2.2.2.2.2.2.2.2.2.1
theorem PR.l28 {h : mh_H} {PQ PS PU PF PL PH lP : Nat} (q : PR h PQ PS PU PF PL PH lP) : mh_l h PS = lP := q.2.2.2.2.2.2.2.2.2.2.2.2.2.1
theorem PR.l29 {h : mh_H} {PQ PS PU PF PL PH lP : Nat} (q : PR h PQ PS PU PF PL PH lP) : mh_l h PU = lP := q.2.2.2.2.2.2.2.2.2.2.2.2.2.2.1
theorem PR.l30 {h : mh_H} {PQ PS PU PF PL PH lP : Nat} (q : PR h PQ PS PU PF PL PH lP) : mh_l h PF = lP := q.2.2.2.2.2.2.2.2.2.2.2.2.2.2.2.1
theorem PR.l31 {h : mh_H} {PQ PS PU PF PL PH lP : Nat} (q : PR h PQ PS PU PF PL PH lP) : mh_l h PL = lP := q.2.2.2.2.2.2.2.2.2.2.2.2.2.2.2.2.1
theorem PR.l32 {h : mh_H} {PQ PS PU PF PL PH lP : Nat} (q : PR h PQ PS PU PF PL PH lP) : mh_l h PH = lP := q.2.2.2.2.2.2.2.2.2.2.2.2.2.2.2.2.2.1
theorem PR.d1 {h : mh_H} {PQ PS PU PF PL PH lP : Nat} (q : PR h PQ PS PU PF PL PH lP) : ¬ PQ = PS := q.2.2.2.2.2.2.2.2.2.2.2.2.2.2.2.2.2.2.1
theorem PR.d2 {h : mh_H} {PQ PS PU PF PL PH lP : Nat} (q : PR h PQ PS PU PF PL PH lP) : ¬ PQ = PU := q.2.2.2.2.2.2.2.2.2.2.2.2.2.2.2.2.2.2.2.1
theorem PR.d3 {h : mh_H} {PQ PS PU PF PL PH lP : Nat} (q : PR h PQ PS PU PF PL PH lP) : ¬ PS = PU := q.2.2.2.2.2.2.2.2.2.2.2.2.2.2.2.2.2.2.2.2.1
theorem PR.d4 {h : mh_H} {PQ PS PU PF PL PH lP : Nat} (q : PR h PQ PS PU PF PL PH lP) : ¬ PL = PH := q.2.2.2.2.2.2.2.2.2.2.2.2.2.2.2.2.2.2.2.2.2.1
theorem PR.n {h : mh_H} {PQ PS PU PF PL PH lP : Nat} (q : PR h PQ PS PU PF PL PH lP) : ∀ x, x = PQ ∨ x = PS ∨ x = PU ∨ x = PF ∨ x = PL ∨ x = PH → (124 ≤ x ∧ x ≤ 129) ∨ 2644 ≤ x := q.2.2.2.2.2.2.2.2.2.2.2.2.2.2.2.2.2.2.2.2.2.2.1
theorem PR.s {h : mh_H} {PQ PS PU PF PL PH lP : Nat} (q : PR h PQ PS PU PF PL PH lP) : ∀ i a, mh_r h 119 i = some a → a + 4 < mh_n h ∧ ∀ x, x = PQ ∨ x = PS ∨ x = PU ∨ x = PF ∨ x = PL ∨ x = PH → x < a ∨ a + 4 < x := q.2.2.2.2.2.2.2.2.2.2.2.2.2.2.2.2.2.2.2.2.2.2.2.1
theorem PR.c {h : mh_H} {PQ PS PU PF PL PH lP : Nat} (q : PR h PQ PS PU PF PL PH lP) : 1 ≤ lP := q.2.2.2.2.2.2.2.2.2.2.2.2.2.2.2.2.2.2.2.2.2.2.2.2.1
theorem PR.b {h : mh_H} {PQ PS PU PF PL PH lP : Nat} (q : PR h PQ PS PU PF PL PH lP) : lP ≤ 60000 := q.2.2.2.2.2.2.2.2.2.2.2.2.2.2.2.2.2.2.2.2.2.2.2.2.2
section PRs
variable {d : Nat} {h h1 : mh_H} {T : Nat} {sN : Int → Prop} {en : Int → Nat} {W : Nat → Nat → Prop} {PQ PS PU PF PL PH lP : Nat}
theorem PR_fz (x : fz W h h1) (a : RF h) (P : PR h PQ PS PU PF PL PH lP) (w : ∀ j, 27 ≤ j → j ≤ 32 → ¬ W 115 j) (w2 : ∀ i a, mh_r h1 119 i = some a → mh_r h 119 i = some a ∨ (mh_n h ≤ a ∧ a + 4 < mh_n h1)) : PR h1 PQ PS PU PF PL PH lP := by
  have g := a.g 115 12 38 (by decide +kernel)
  obtain ⟨r27, r28, r29, r30, r31, r32, g27, g28, g29, g30, g31, g32, l27, l28, l29, l30, l31, l32, d1, d2, d3, d4, n, s, c, b⟩ := P
  have rr : ∀ j, 27 ≤ j → j ≤ 32 → mh_r h1 115 j = mh_r h 115 j := fun j h1 h2 => fz_r x g (w j h1 h2)
  refine ⟨by rw [rr 27 (by omega) (by omega)]; exact r27, by rw [rr 28 (by omega) (by omega)]; exact r28, by rw [rr 29 (by omega) (by omega)]; exact r29, by rw [rr 30 (by omega) (by omega)]; exact r30, by rw [rr 31 (by omega) (by omega)]; exact r31, by rw [rr 32 (by omega) (by omega)]; exact r32, fz_mg x g27, fz_mg x g28, fz_mg x g29, fz_mg x g30, fz_mg x g31, fz_mg x g32, by rw [fz_l x g27]; exact l27, by rw [fz_l x g28]; exact l28, by rw [fz_l x g29]; exact l29, by rw [fz_l x g30]; exact l30, by rw [fz_l x g31]; exact l31, by rw [fz_l x g32]; exact l32, d1, d2, d3, d4, n, fun i a hi => ?_, c, b⟩
  rcases w2 i a hi with q | q
  · exact ⟨Nat.lt_of_lt_of_le (s i a q).1 x.1, (s i a q).2⟩
  · refine ⟨q.2, fun x' hx => Or.inl ?_⟩
    have k27 := g27.2
    have k28 := g28.2
    have k29 := g29.2
    have k30 := g30.2
    have k31 := g31.2
    have k32 := g32.2
    omega
/-- a part's slot as it stands in the row -/
def pSl (en : Int → Nat) (n : Nat) : Int32 := if tK n = 13 then Int32.ofNat (en (tV n)) else -1
theorem u_241a (a : AE h T sN en) (P : PR h PQ PS PU PF PL PH lP) {q k n : Nat} {s : Int32} {x3 x4 x5 : Option Value} (c : mh_i h 115 33 = Int32.ofNat q) (hq : q < lP) (hk : k < 26000) (hK : mh_i h 93 k = Int32.ofNat (tK n)) (hV : (mh_i h 95 k).toInt = tV n) (hn : tK n = 13 → sN (tV n)) : ∀ Q, mw (d + 1) 241 Q 121 [some (.ref 115), some (.int (Int32.ofNat k)), some (.int s), x3, x4, x5] [] h = Q none (mh_si (mh_si (mh_si (mh_si h PQ q (Int32.ofNat k)) PS q s) PU q (pSl en n)) 115 33 (Int32.ofNat (q + 1))) := by
  intro Q
  have b := P.b
  have nn := P.n
  have nQ := nn PQ (by simp)
  have nS := nn PS (by simp)
  have nU := nn PU (by simp)
  have e1 : ¬ 115 = PQ := by omega
  have e2 : ¬ 115 = PS := by omega
  have e3 : ¬ 115 = PU := by omega
  have e4 : ¬ 93 = PQ := by omega
  have e5 : ¬ 93 = PS := by omega
  have e6 : ¬ 93 = PU := by omega
  have e7 : ¬ 95 = PQ := by omega
  have e8 : ¬ 95 = PS := by omega
  have g := a.g
  have r0 := a.r0
  have gK := a.F.g 93 102 26000 (by decide +kernel)
  have gK1 := gK.1
  have gK2 := gK.2
  have lK := a.F.l 93 102 26000 (by decide +kernel)
  obtain ⟨r27, r28, r29, r30, r31, r32, g27, g28, g29, g30, g31, g32, l27, l28, l29, l30, l31, l32, d1, d2, d3, d4, -, -, -, -⟩ := P
  have ei : ∀ k, Int32.ofNat k + 1 = Int32.ofNat (k + 1) := fun k => nn_add (a := k) (b := 1)
  have tk : tK n < 64 := by unfold tK; omega
  have k13 : (Int32.ofNat (tK n) = 13) = (tK n = 13) := ofn_eq (by omega) (by decide)
  unfold pSl
  by_cases z : tK n = 13
  · have x : fz (fun b _ => b = PQ ∨ b = PS) h (mh_si (mh_si h PQ q (Int32.ofNat k)) PS q s) := fz_t (fz_si (Or.inl rfl)) (fz_si (Or.inr rfl))
    have F' : RF (mh_si (mh_si h PQ q (Int32.ofNat k)) PS q s) := RF_fz x a.F (fun j w => by omega) (fun j _ w => by omega) (fun p hp => ⟨fun j _ => ⟨fun w => by omega, fun w => by omega⟩, fun w => by omega, fun w => by omega⟩) (fun j _ w => by omega)
    have a' : AE (mh_si (mh_si h PQ q (Int32.ofNat k)) PS q s) T sN en := AE_fz x a F' (fun w => by omega) (fun w => by omega) (fun w => by omega) (fun w => by omega) (fun j => ⟨fun w => by omega, fun w => by omega⟩)
    have cs := fun Q' => u_229 (d := d) a' (k := k) hk (v := tV n) (by rw [hi_si, if_neg (fun w => e8 w.1), hi_si, if_neg (fun w => e7 w.1)]; exact hV) (hn z) Q'
    rw [if_pos z]
    rw [eq_true z] at k13
    simp (disch := omega) only [s_241_0, s_241_1, s_241_4, s_241_5, s_241_8, s_241_9, s_241_12, s_241_13, s_241_14, s_241_17, s_241_20, s_241_20n, s_241_23, s_241_24, s_241_25, s_241_28, s_241_31, s_241_31n, s_241_34, s_241_35, s_241_36, s_241_39, s_241_42, s_241_42n, s_241_45, s_241_46, s_241_47, s_241_50, s_241_51, s_241_53, s_241_53n, s_241_54, s_241_55, s_241_56, s_241_59, s_241_60, s_241_62, s_241_62n, s_241_64, s_241_65, s_241_66, s_241_69, s_241_70, s_241_72, s_241_72n, s_241_74, s_241_75, s_241_78, s_241_79, s_241_81, s_241_82, s_241_83, s_241_86, s_241_89, s_241_90, s_241_93, s_241_94, s_241_96, s_241_97, s_241_98, s_241_101, s_241_104, s_241_105, s_241_106, s_241_106n, s_241_109, s_241_110, s_241_112, s_241_112n, s_241_115, s_241_116, s_241_118, s_241_118n, s_241_121, s_241_122, s_241_125, s_241_126, s_241_129, s_241_130, s_241_131, s_241_132, s_241_135, s_241_136, s_241_139, s_241_140, s_241_141, s_241_142, s_241_145, s_241_146, s_241_149, s_241_150, s_241_153, s_241_154, s_241_155, s_241_157, s_241_160, s_241_161, s_241_162, s_241_165, s_241_168, s_241_169, s_241_170, s_241_171, s_241_172, s_241_175, s_241_176, s_241_177, s_241_180, e_241, mv_i_1, mv_l_1, mv_a_1, mv_a_2, mv_a_3, mk2_n, mk2_i, mk2_l, mk2_a, mk2_u, mk2_x, mB_T, mB_F, mS_cons, mS_nil, mSB_T, mSB_F, mca_nil, mca_i, mca_l, mca_r, mca_u, mca_x, mcat_i, mcat_l, mcat_r, mcat_u, mcat_x, mK_some, mK_none, va_rf_s, va_rf_n, lgc_eq, lgc_lt, lgc_gt, lgc_ge, lgc_le, mrd_104, mrd_105, mrd_106, mrd_107, true_and, and_true, and_self, false_and, and_false, true_or, or_true, false_or, or_false, not_true_eq_false, not_false_eq_true, mgb, mga, mgr, mN, reduceCtorEq, ↓reduceIte, eq_self, ge_iff_le, gt_iff_lt, hk_si, hk_sj, hk_sr, hl_si, hl_sj, hl_sr, hn_si, hn_sj, hn_sr, hs_si, hs_sj, hs_sr, hi_sj, hi_sr, hj_si, hj_sr, hr_si, hr_sj, hi_si, hj_sj, hr_sr, mg_si, mg_sj, mg_sr, Nat.reduceAdd, Nat.reduceMul, Nat.reduceSub, Nat.reduceLT, Nat.reduceGT, Nat.reduceEqDiff, Nat.reduceLeDiff, Nat.left_eq_add, Nat.add_eq_left, Nat.reduceMod, Nat.reduceDiv, Nat.succ_ne_self, g, r0, r27, r28, r29, g27, g28, g29, l27, l28, l29, gK1, gK2, lK, c, hK, k13, nn_mxT, nn_clamp, e1, e2, e3, e4, e5, e6, false_and, ei, cs]
  · rw [if_neg z]
    rw [eq_false z] at k13
    simp (disch := omega) only [s_241_0, s_241_1, s_241_4, s_241_5, s_241_8, s_241_9, s_241_12, s_241_13, s_241_14, s_241_17, s_241_20, s_241_20n, s_241_23, s_241_24, s_241_25, s_241_28, s_241_31, s_241_31n, s_241_34, s_241_35, s_241_36, s_241_39, s_241_42, s_241_42n, s_241_45, s_241_46, s_241_47, s_241_50, s_241_51, s_241_53, s_241_53n, s_241_54, s_241_55, s_241_56, s_241_59, s_241_60, s_241_62, s_241_62n, s_241_64, s_241_65, s_241_66, s_241_69, s_241_70, s_241_72, s_241_72n, s_241_74, s_241_75, s_241_78, s_241_79, s_241_81, s_241_82, s_241_83, s_241_86, s_241_89, s_241_90, s_241_93, s_241_94, s_241_96, s_241_97, s_241_98, s_241_101, s_241_104, s_241_105, s_241_106, s_241_106n, s_241_109, s_241_110, s_241_112, s_241_112n, s_241_115, s_241_116, s_241_118, s_241_118n, s_241_121, s_241_122, s_241_125, s_241_126, s_241_129, s_241_130, s_241_131, s_241_132, s_241_135, s_241_136, s_241_139, s_241_140, s_241_141, s_241_142, s_241_145, s_241_146, s_241_149, s_241_150, s_241_153, s_241_154, s_241_155, s_241_157, s_241_160, s_241_161, s_241_162, s_241_165, s_241_168, s_241_169, s_241_170, s_241_171, s_241_172, s_241_175, s_241_176, s_241_177, s_241_180, e_241, mv_i_1, mv_l_1, mv_a_1, mv_a_2, mv_a_3, mk2_n, mk2_i, mk2_l, mk2_a, mk2_u, mk2_x, mB_T, mB_F, mS_cons, mS_nil, mSB_T, mSB_F, mca_nil, mca_i, mca_l, mca_r, mca_u, mca_x, mcat_i, mcat_l, mcat_r, mcat_u, mcat_x, mK_some, mK_none, va_rf_s, va_rf_n, lgc_eq, lgc_lt, lgc_gt, lgc_ge, lgc_le, mrd_104, mrd_105, mrd_106, mrd_107, true_and, and_true, and_self, false_and, and_false, true_or, or_true, false_or, or_false, not_true_eq_false, not_false_eq_true, mgb, mga, mgr, mN, reduceCtorEq, ↓reduceIte, eq_self, ge_iff_le, gt_iff_lt, hk_si, hk_sj, hk_sr, hl_si, hl_sj, hl_sr, hn_si, hn_sj, hn_sr, hs_si, hs_sj, hs_sr, hi_sj, hi_sr, hj_si, hj_sr, hr_si, hr_sj, hi_si, hj_sj, hr_sr, mg_si, mg_sj, mg_sr, Nat.reduceAdd, Nat.reduceMul, Nat.reduceSub, Nat.reduceLT, Nat.reduceGT, Nat.reduceEqDiff, Nat.reduceLeDiff, Nat.left_eq_add, Nat.add_eq_left, Nat.reduceMod, Nat.reduceDiv, Nat.succ_ne_self, g, r0, r27, r28, r29, g27, g28, g29, l27, l28, l29, gK1, gK2, lK, c, hK, k13, nn_mxT, nn_clamp, e1, e2, e3, e4, e5, e6, false_and, ei]
theorem c_242 {Q : Option Value → mh_H → Prop} {a len : Nat} (g : mg h a 100) (l : mh_l h a = len) (hl : len < 1000000) : mcall d 242 [.ref a] h Q = Q (some (.ref (mh_n h))) (mh_cp (mh_new h 100 (2 * len)) a 0 (mh_n h) 0 len) := by
  have g1 := g.1
  have g2 := g.2
  have n1 : ¬ a = mh_n h := by omega
  have f1 : a < mh_n h + 1 := by omega
  have f2 : mh_n h < mh_n h + 1 := by omega
  have e3 : (2 : Int32) * Int32.ofNat len = Int32.ofNat (2 * len) := nn_mul (a := 2) (b := len)
  have n2 : (0 : Int32) ≤ Int32.ofNat (2 * len) := by rw [nn_ge (by omega)]; trivial
  have n3 : (0 : Int32) ≤ Int32.ofNat len := by rw [nn_ge (by omega)]; trivial
  have n4 : len ≤ 2 * len := by omega
  have n5 : 2 * len ≤ 10000000 := by omega
  have bf : me_bf (mh_new h 100 (2 * len)) a = true := bf_eq (by rw [hk_new, if_neg n1]; omega)
  simp (disch := omega) only [s_242_0, s_242_1, s_242_2, s_242_3, s_242_4, s_242_6, s_242_6n, s_242_7, s_242_8, s_242_9, s_242_10, s_242_11, s_242_12, s_242_13, s_242_16, s_242_17, s_242_17n, e_242, mv_i_1, mv_l_1, mv_a_1, mv_a_2, mv_a_3, mk2_n, mk2_i, mk2_l, mk2_a, mk2_u, mk2_x, mB_T, mB_F, mS_cons, mS_nil, mSB_T, mSB_F, mca_nil, mca_i, mca_l, mca_r, mca_u, mca_x, mcat_i, mcat_l, mcat_r, mcat_u, mcat_x, mK_some, mK_none, va_rf_s, va_rf_n, lgc_eq, lgc_lt, lgc_gt, lgc_ge, lgc_le, mrd_104, mrd_105, mrd_106, mrd_107, true_and, and_true, and_self, false_and, and_false, true_or, or_true, false_or, or_false, not_true_eq_false, not_false_eq_true, mgb, mga, mgr, mN, reduceCtorEq, ↓reduceIte, eq_self, ge_iff_le, gt_iff_lt, hk_si, hk_sj, hk_sr, hl_si, hl_sj, hl_sr, hn_si, hn_sj, hn_sr, hs_si, hs_sj, hs_sr, hi_sj, hi_sr, hj_si, hj_sr, hr_si, hr_sj, hi_si, hj_sj, hr_sr, mg_si, mg_sj, mg_sr, Nat.reduceAdd, Nat.reduceMul, Nat.reduceSub, Nat.reduceLT, Nat.reduceGT, Nat.reduceEqDiff, Nat.reduceLeDiff, Nat.left_eq_add, Nat.add_eq_left, Nat.reduceMod, Nat.reduceDiv, Nat.succ_ne_self, hk_new, hl_new, hn_new, mg_new, cpok_eq, g1, g2, l, e3, nn_clamp, n1, n2, n3, n4, n5, f1, f2, bf, Nat.zero_add, Nat.le_refl, show (0 : Int32).toNatClampNeg = 0 by decide, show ((0 : Int32) ≤ 0) = True by decide]
end PRs
