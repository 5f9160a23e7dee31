set_option maxRecDepth 100000
/-! the rows of parts grow -/
def pG (h : mh_H) (PQ PS PU PL PH L : Nat) : mh_H := mh_sr (mh_sr (mh_sr (mh_cp (mh_cp (mh_new (mh_new (mh_new (mh_sr (mh_cp (mh_new (mh_sr (mh_cp (mh_new (mh_sr (mh_cp (mh_new h 100 (2 * L)) PQ 0 (mh_n h) 0 L) 115 27 (some (mh_n h))) 100 (2 * L)) PS 0 (mh_n h + 1) 0 L) 115 28 (some (mh_n h + 1))) 100 (2 * L)) PU 0 (mh_n h + 2) 0 L) 115 29 (some (mh_n h + 2))) 103 (2 * L)) 101 (2 * L)) 101 (2 * L)) PL 0 (mh_n h + 4) 0 L) PH 0 (mh_n h + 5) 0 L) 115 30 (some (mh_n h + 3))) 115 31 (some (mh_n h + 4))) 115 32 (some (mh_n h + 5))
section PGs
variable {d : Nat} {h : mh_H} {PQ PS PU PF PL PH lP L : Nat}
theorem pG_n : mh_n (pG h PQ PS PU PL PH L) = mh_n h + 6 := nrfl rfl
theorem pG_s : mh_s (pG h PQ PS PU PL PH L) = mh_s h + 12 * L := by
  show mh_s h + 2 * L + 2 * L + 2 * L + 2 * L + 2 * L + 2 * L = _
  omega
theorem pG_k {b : Nat} : mh_k (pG h PQ PS PU PL PH L) b = if b = mh_n h + 5 then 101 else if b = mh_n h + 4 then 101 else if b = mh_n h + 3 then 103 else if b = mh_n h + 2 then 100 else if b = mh_n h + 1 then 100 else if b = mh_n h then 100 else mh_k h b := by
  unfold pG
  simp only [hk_sr, hk_cp, hk_new, hn_sr, hn_cp, hn_new, Nat.add_assoc, Nat.reduceAdd]
theorem pG_l {b : Nat} : mh_l (pG h PQ PS PU PL PH L) b = if mh_n h ≤ b ∧ b ≤ mh_n h + 5 then 2 * L else mh_l h b := by
  unfold pG
  simp only [hl_sr, hl_cp, hl_new, hn_sr, hn_cp, hn_new, Nat.add_assoc, Nat.reduceAdd]
  by_cases c : mh_n h ≤ b ∧ b ≤ mh_n h + 5
  · rw [if_pos c]
    repeat' split
    all_goals first | rfl | omega
  · rw [if_neg c]
    repeat' split
    all_goals first | rfl | omega
theorem pG_r {b j : Nat} (hb : b < mh_n h) : mh_r (pG h PQ PS PU PL PH L) b j = if b = 115 ∧ j = 32 then some (mh_n h + 5) else if b = 115 ∧ j = 31 then some (mh_n h + 4) else if b = 115 ∧ j = 30 then some (mh_n h + 3) else if b = 115 ∧ j = 29 then some (mh_n h + 2) else if b = 115 ∧ j = 28 then some (mh_n h + 1) else if b = 115 ∧ j = 27 then some (mh_n h) else mh_r h b j := by
  have e0 : ¬ b = mh_n h := by omega
  have e1 : ∀ i, ¬ b = mh_n h + i := fun i => by omega
  unfold pG
  simp only [hr_sr, hr_cp, hr_nw, hn_sr, hn_cp, hn_new, Nat.add_assoc, Nat.reduceAdd, e0, e1, if_false]
theorem pG_i {b j : Nat} (hb : b < mh_n h) : mh_i (pG h PQ PS PU PL PH L) b j = mh_i h b j := by
  have e0 : ¬ b = mh_n h := by omega
  have e1 : ∀ i, ¬ b = mh_n h + i := fun i => by omega
  unfold pG
  simp only [hi_sr, hi_cp, hi_new, hn_sr, hn_cp, hn_new, Nat.add_assoc, Nat.reduceAdd, e0, e1, false_and, if_false]
theorem pG_j {b j : Nat} (hb : b < mh_n h) : mh_j (pG h PQ PS PU PL PH L) b j = mh_j h b j := by
  have e0 : ¬ b = mh_n h := by omega
  have e1 : ∀ i, ¬ b = mh_n h + i := fun i => by omega
  unfold pG
  simp only [hj_sr, hj_cp, hj_new, hn_sr, hn_cp, hn_new, Nat.add_assoc, Nat.reduceAdd, e0, e1, false_and, if_false]
theorem pG_q {i : Nat} (hi : i < L) (k1 : PQ < mh_n h) (k2 : PS < mh_n h) (k3 : PU < mh_n h) : mh_i (pG h PQ PS PU PL PH L) (mh_n h) i = mh_i h PQ i ∧ mh_i (pG h PQ PS PU PL PH L) (mh_n h + 1) i = mh_i h PS i ∧ mh_i (pG h PQ PS PU PL PH L) (mh_n h + 2) i = mh_i h PU i := by
  have a0 : ¬ PQ = mh_n h := by omega
  have b0 : ¬ PS = mh_n h := by omega
  have c0 : ¬ PU = mh_n h := by omega
  have b1 : ∀ i, ¬ PS = mh_n h + i := fun i => by omega
  have c1 : ∀ i, ¬ PU = mh_n h + i := fun i => by omega
  have l0 : i < 0 + L := by omega
  have z0 : 0 + (i - 0) = i := by omega
  unfold pG
  refine ⟨?_, ?_, ?_⟩
  all_goals simp only [hi_sr, hi_cp, hi_new, hn_sr, hn_cp, hn_new, Nat.add_assoc, Nat.reduceAdd, a0, b0, c0, b1, c1, l0, z0, Nat.zero_le, and_self, true_and, false_and, if_true, if_false, Nat.left_eq_add, Nat.add_left_cancel_iff, Nat.reduceEqDiff, Nat.add_eq_left]
theorem pG_fz {W : Nat → Nat → Prop} (w : ∀ j, 27 ≤ j → j ≤ 32 → W 115 j) : fz W h (pG h PQ PS PU PL PH L) := by
  refine ⟨by rw [pG_n]; omega, fun b hb => ⟨?_, ?_⟩, fun b j hb hw => ⟨pG_i hb, pG_j hb, ?_⟩⟩
  · rw [pG_k]
    repeat' split
    all_goals first | rfl | omega
  · rw [pG_l, if_neg (by omega)]
  · have q : ¬ (b = 115 ∧ 27 ≤ j ∧ j ≤ 32) := fun z => hw (by rw [z.1]; exact w j z.2.1 z.2.2)
    rw [pG_r hb, if_neg (by omega), if_neg (by omega), if_neg (by omega), if_neg (by omega), if_neg (by omega), if_neg (by omega)]
end PGs
section PGt
variable {d : Nat} {h : mh_H} {T : Nat} {sN : Int → Prop} {en : Int → Nat} {PQ PS PU PF PL PH lP : Nat}
theorem u_241g (a : AE h T sN en) (P : PR h PQ PS PU PF PL PH lP) {k s : Int32} (c : mh_i h 115 33 = Int32.ofNat lP) : ∀ Q, mw (d + 1) 241 Q 0 [some (.ref 115), some (.int k), some (.int s), none, none, none] [] h = mw (d + 1) 241 Q 121 [some (.ref 115), some (.int k), some (.int s), some (.ref (mh_n h + 3)), some (.ref (mh_n h + 4)), some (.ref (mh_n h + 5))] [] (pG h PQ PS PU PL PH lP) := by
  intro Q
  have bb := P.b
  have g := a.g
  have g' := g.2
  obtain ⟨r27, r28, r29, r30, r31, r32, g27, g28, g29, g30, g31, g32, l27, l28, l29, l30, l31, l32, d1, d2, d3, d4, -, -, -, -⟩ := P
  have k27 := g27.1
  have k28 := g28.1
  have k29 := g29.1
  have k31 := g31.1
  have k32 := g32.1
  have m27 := g27.2
  have m28 := g28.2
  have m29 := g29.2
  have m31 := g31.2
  have m32 := g32.2
  have e3 : (2 : Int32) * Int32.ofNat lP = Int32.ofNat (2 * lP) := nn_mul (a := 2) (b := lP)
  have n2 : (0 : Int32) ≤ Int32.ofNat (2 * lP) := by rw [nn_ge (by omega)]; trivial
  have n3 : (0 : Int32) ≤ Int32.ofNat lP := by rw [nn_ge (by omega)]; trivial
  have n4 : lP ≤ 2 * lP := by omega
  have n5 : 2 * lP ≤ 10000000 := by omega
  have o0 : ¬ 115 = mh_n h := by omega
  have o1 : ∀ i, ¬ 115 = mh_n h + i := fun i => by omega
  have s0 : ¬ PS = mh_n h := by omega
  have u0 : ¬ PU = mh_n h := by omega
  have x0 : ¬ PL = mh_n h := by omega
  have y0 : ¬ PH = mh_n h := by omega
  have s1 : ∀ i, ¬ PS = mh_n h + i := fun i => by omega
  have u1 : ∀ i, ¬ PU = mh_n h + i := fun i => by omega
  have x1 : ∀ i, ¬ PL = mh_n h + i := fun i => by omega
  have y1 : ∀ i, ¬ PH = mh_n h + i := fun i => by omega
  have q1 : ∀ i, PL < mh_n h + i := fun i => by omega
  have q2 : ∀ i, PH < mh_n h + i := fun i => by omega
  have q3 : mh_n h + 4 < mh_n h + 6 := by omega
  have q4 : mh_n h + 5 < mh_n h + 6 := by omega
  have c1 : ∀ Q', mcall d 242 [.ref PQ] h Q' = Q' (some (.ref (mh_n h))) (mh_cp (mh_new h 100 (2 * lP)) PQ 0 (mh_n h) 0 lP) := fun Q' => c_242 g27 l27 (by omega)
  have c2 : ∀ Q', mcall d 242 [.ref PS] (mh_sr (mh_cp (mh_new h 100 (2 * lP)) PQ 0 (mh_n h) 0 lP) 115 27 (some (mh_n h))) Q' = Q' (some (.ref (mh_n h + 1))) (mh_cp (mh_new (mh_sr (mh_cp (mh_new h 100 (2 * lP)) PQ 0 (mh_n h) 0 lP) 115 27 (some (mh_n h))) 100 (2 * lP)) PS 0 (mh_n h + 1) 0 lP) := fun Q' => c_242 (h := mh_sr (mh_cp (mh_new h 100 (2 * lP)) PQ 0 (mh_n h) 0 lP) 115 27 (some (mh_n h))) ⟨by rw [hk_sr, hk_cp, hk_new, if_neg s0]; exact k28, by show PS < mh_n h + 1; omega⟩ (by rw [hl_sr, hl_cp, hl_new, if_neg s0]; exact l28) (by omega)
  have c3 : ∀ Q', mcall d 242 [.ref PU] (mh_sr (mh_cp (mh_new (mh_sr (mh_cp (mh_new h 100 (2 * lP)) PQ 0 (mh_n h) 0 lP) 115 27 (some (mh_n h))) 100 (2 * lP)) PS 0 (mh_n h + 1) 0 lP) 115 28 (some (mh_n h + 1))) Q' = Q' (some (.ref (mh_n h + 2))) (mh_cp (mh_new (mh_sr (mh_cp (mh_new (mh_sr (mh_cp (mh_new h 100 (2 * lP)) PQ 0 (mh_n h) 0 lP) 115 27 (some (mh_n h))) 100 (2 * lP)) PS 0 (mh_n h + 1) 0 lP) 115 28 (some (mh_n h + 1))) 100 (2 * lP)) PU 0 (mh_n h + 2) 0 lP) := fun Q' => c_242 (h := mh_sr (mh_cp (mh_new (mh_sr (mh_cp (mh_new h 100 (2 * lP)) PQ 0 (mh_n h) 0 lP) 115 27 (some (mh_n h))) 100 (2 * lP)) PS 0 (mh_n h + 1) 0 lP) 115 28 (some (mh_n h + 1))) ⟨by rw [hk_sr, hk_cp, hk_new, hn_sr, hn_cp, hn_new, if_neg (show ¬ PU = mh_n h + 1 by omega), hk_sr, hk_cp, hk_new, if_neg u0]; exact k29, by show PU < mh_n h + 2; omega⟩ (by rw [hl_sr, hl_cp, hl_new, hn_sr, hn_cp, hn_new, if_neg (show ¬ PU = mh_n h + 1 by omega), hl_sr, hl_cp, hl_new, if_neg u0]; exact l29) (by omega)
  unfold pG
  simp (disch := first | omega | (simp only [hk_sr, hk_cp, hk_new, hn_sr, hn_cp, hn_new, Nat.add_assoc, Nat.reduceAdd, x0, y0, x1, y1, k31, k32, if_false, Nat.reduceLT]; done)) only [s_241_0, s_241_1, s_241_4, s_241_5, s_241_8, s_241_9, s_241_12, s_241_13, s_241_14, s_241_17, s_241_20, s_241_20n, s_241_23, s_241_24, s_241_25, s_241_28, s_241_31, s_241_31n, s_241_34, s_241_35, s_241_36, s_241_39, s_241_42, s_241_42n, s_241_45, s_241_46, s_241_47, s_241_50, s_241_51, s_241_53, s_241_53n, s_241_54, s_241_55, s_241_56, s_241_59, s_241_60, s_241_62, s_241_62n, s_241_64, s_241_65, s_241_66, s_241_69, s_241_70, s_241_72, s_241_72n, s_241_74, s_241_75, s_241_78, s_241_79, s_241_81, s_241_82, s_241_83, s_241_86, s_241_89, s_241_90, s_241_93, s_241_94, s_241_96, s_241_97, s_241_98, s_241_101, s_241_104, s_241_105, s_241_106, s_241_106n, s_241_109, s_241_110, s_241_112, s_241_112n, s_241_115, s_241_116, s_241_118, s_241_118n, s_241_122, s_241_125, s_241_126, s_241_129, s_241_130, s_241_131, s_241_132, s_241_135, s_241_136, s_241_139, s_241_140, s_241_141, s_241_142, s_241_145, s_241_146, s_241_149, s_241_150, s_241_153, s_241_154, s_241_155, s_241_157, s_241_160, s_241_161, s_241_162, s_241_165, s_241_168, s_241_169, s_241_170, s_241_171, s_241_172, s_241_175, s_241_176, s_241_177, s_241_180, e_241, mv_i_1, mv_l_1, mv_a_1, mv_a_2, mv_a_3, mk2_n, mk2_i, mk2_l, mk2_a, mk2_u, mk2_x, mB_T, mB_F, mS_cons, mS_nil, mSB_T, mSB_F, mca_nil, mca_i, mca_l, mca_r, mca_u, mca_x, mcat_i, mcat_l, mcat_r, mcat_u, mcat_x, mK_some, mK_none, va_rf_s, va_rf_n, lgc_eq, lgc_lt, lgc_gt, lgc_ge, lgc_le, mrd_104, mrd_105, mrd_106, mrd_107, true_and, and_true, and_self, false_and, and_false, true_or, or_true, false_or, or_false, not_true_eq_false, not_false_eq_true, mgb, mga, mgr, mN, reduceCtorEq, ↓reduceIte, eq_self, ge_iff_le, gt_iff_lt, hk_si, hk_sj, hk_sr, hl_si, hl_sj, hl_sr, hn_si, hn_sj, hn_sr, hs_si, hs_sj, hs_sr, hi_sj, hi_sr, hj_si, hj_sr, hr_si, hr_sj, hi_si, hj_sj, hr_sr, mg_si, mg_sj, mg_sr, Nat.reduceAdd, Nat.reduceMul, Nat.reduceSub, Nat.reduceLT, Nat.reduceGT, Nat.reduceEqDiff, Nat.reduceLeDiff, Nat.left_eq_add, Nat.add_eq_left, Nat.reduceMod, Nat.reduceDiv, Nat.succ_ne_self, hk_cp, hl_cp, hn_cp, hs_cp, hr_cp, hi_cp, mg_cp, hk_new, hl_new, hi_new, hr_nw, hn_new, mg_new, cpok_eq, bf_eq, g, g', r27, r28, r29, r31, r32, k27, m27, k31, m31, k32, m32, l27, l31, l32, c, c1, c2, c3, e3, n2, n3, n4, n5, nn_clamp, o0, o1, x0, y0, x1, y1, q1, q2, q3, q4, false_and, if_false, Nat.zero_add, Nat.le_refl, Nat.add_assoc, Nat.add_left_cancel_iff, show (0 : Int32).toNatClampNeg = 0 by decide, show ((0 : Int32) ≤ 0) = True by decide]
theorem pG_P (F : RF h) (P : PR h PQ PS PU PF PL PH lP) (hb : 2 * lP ≤ 60000) : PR (pG h PQ PS PU PL PH lP) (mh_n h) (mh_n h + 1) (mh_n h + 2) (mh_n h + 3) (mh_n h + 4) (mh_n h + 5) (2 * lP) := by
  have g := (F.g 115 12 38 (by decide +kernel)).2
  have g2 := (F.g 2643 107 8 (by decide +kernel)).2
  have g119 := (F.g 119 106 2048 (by decide +kernel)).2
  have c := P.c
  have kk : ∀ i kd, i ≤ 5 → (mh_k (pG h PQ PS PU PL PH lP) (mh_n h + i) = kd) → mg (pG h PQ PS PU PL PH lP) (mh_n h + i) kd := fun i kd hi e => ⟨e, by rw [pG_n]; omega⟩
  have ll : ∀ i, i ≤ 5 → mh_l (pG h PQ PS PU PL PH lP) (mh_n h + i) = 2 * lP := fun i hi => by rw [pG_l, if_pos (by omega)]
  refine ⟨?_, ?_, ?_, ?_, ?_, ?_, kk 0 100 (by omega) ?_, kk 1 100 (by omega) ?_, kk 2 100 (by omega) ?_, kk 3 103 (by omega) ?_, kk 4 101 (by omega) ?_, kk 5 101 (by omega) ?_, ll 0 (by omega), ll 1 (by omega), ll 2 (by omega), ll 3 (by omega), ll 4 (by omega), ll 5 (by omega), by omega, by omega, by omega, by omega, fun x hx => by right; omega, fun i a hi => ?_, by omega, hb⟩
  · rw [pG_r g]; simp
  · rw [pG_r g]; simp
  · rw [pG_r g]; simp
  · rw [pG_r g]; simp
  · rw [pG_r g]; simp
  · rw [pG_r g]; simp
  · rw [pG_k]; simp
  · rw [pG_k]; simp
  · rw [pG_k]; simp
  · rw [pG_k]; simp
  · rw [pG_k]; simp
  · rw [pG_k]; simp
  · rw [pG_r g119, if_neg (by omega), if_neg (by omega), if_neg (by omega), if_neg (by omega), if_neg (by omega), if_neg (by omega)] at hi
    have := (P.s i a hi).1
    rw [pG_n]
    exact ⟨by omega, fun x hx => by right; omega⟩
/-- where the rows may be after more parts -/
def pNew (h : mh_H) (X X' : Nat) : Prop := X' = X ∨ mh_n h ≤ X'
def pW (PQ PS PU b j : Nat) : Prop := (b = 115 ∧ 27 ≤ j ∧ j ≤ 33) ∨ b = PQ ∨ b = PS ∨ b = PU
/-- one more part -/
theorem u_241 (a : AE h T sN en) (P : PR h PQ PS PU PF PL PH lP) {q k n : Nat} {s : Int32} (c : mh_i h 115 33 = Int32.ofNat q) (hq : q ≤ lP) (hq2 : q < 30000) (hk : k < 26000) (hK : mh_i h 93 k = Int32.ofNat (tK n)) (hV : (mh_i h 95 k).toInt = tV n) (hn : tK n = 13 → sN (tV n)) : ∃ h' PQ' PS' PU' PF' PL' PH' lP', fR (pW PQ PS PU) h h' ∧ PR h' PQ' PS' PU' PF' PL' PH' lP' ∧ mh_i h' 115 33 = Int32.ofNat (q + 1) ∧ q + 1 ≤ lP' ∧ (∀ i, i < q → mh_i h' PQ' i = mh_i h PQ i ∧ mh_i h' PS' i = mh_i h PS i ∧ mh_i h' PU' i = mh_i h PU i) ∧ mh_i h' PQ' q = Int32.ofNat k ∧ mh_i h' PS' q = s ∧ mh_i h' PU' q = pSl en n ∧ (pNew h PQ PQ' ∧ pNew h PS PS' ∧ pNew h PU PU' ∧ pNew h PF PF' ∧ pNew h PL PL' ∧ pNew h PH PH') ∧ (∀ i, mh_r h' 119 i = mh_r h 119 i) ∧ ∀ Q, mcall (d + 1) 241 [.ref 115, .int (Int32.ofNat k), .int s] h Q = Q none h' := by
  have nn := P.n
  have nQ := nn PQ (by simp)
  have nS := nn PS (by simp)
  have nU := nn PU (by simp)
  have d1 := P.d1
  have d2 := P.d2
  have d3 := P.d3
  have g := a.g
  have r27 := P.r27
  have g27 := P.g27
  have l27 := P.l27
  have k27 := g27.1
  have k272 := g27.2
  have b := P.b
  have g119 := (a.F.g 119 106 2048 (by decide +kernel)).2
  -- the writes
  have wr : ∀ {h : mh_H} {PQ PS PU PF PL PH lP : Nat} (W : Nat → Nat → Prop), AE h T sN en → PR h PQ PS PU PF PL PH lP → W 115 33 → (∀ j, W PQ j ∧ W PS j ∧ W PU j) → fR W h (mh_si (mh_si (mh_si (mh_si h PQ q (Int32.ofNat k)) PS q s) PU q (pSl en n)) 115 33 (Int32.ofNat (q + 1))) := fun W _ _ w1 w2 => fR_t (fR_t (fR_t (fR_si (w2 q).1) (fR_si (w2 q).2.1)) (fR_si (w2 q).2.2)) (fR_si w1)
  have rd : ∀ {h : mh_H} {PQ PS PU PF PL PH lP : Nat}, PR h PQ PS PU PF PL PH lP → ∀ i, (i < q → mh_i (mh_si (mh_si (mh_si (mh_si h PQ q (Int32.ofNat k)) PS q s) PU q (pSl en n)) 115 33 (Int32.ofNat (q + 1))) PQ i = mh_i h PQ i ∧ mh_i (mh_si (mh_si (mh_si (mh_si h PQ q (Int32.ofNat k)) PS q s) PU q (pSl en n)) 115 33 (Int32.ofNat (q + 1))) PS i = mh_i h PS i ∧ mh_i (mh_si (mh_si (mh_si (mh_si h PQ q (Int32.ofNat k)) PS q s) PU q (pSl en n)) 115 33 (Int32.ofNat (q + 1))) PU i = mh_i h PU i) ∧ mh_i (mh_si (mh_si (mh_si (mh_si h PQ q (Int32.ofNat k)) PS q s) PU q (pSl en n)) 115 33 (Int32.ofNat (q + 1))) PQ q = Int32.ofNat k ∧ mh_i (mh_si (mh_si (mh_si (mh_si h PQ q (Int32.ofNat k)) PS q s) PU q (pSl en n)) 115 33 (Int32.ofNat (q + 1))) PS q = s ∧ mh_i (mh_si (mh_si (mh_si (mh_si h PQ q (Int32.ofNat k)) PS q s) PU q (pSl en n)) 115 33 (Int32.ofNat (q + 1))) PU q = pSl en n ∧ mh_i (mh_si (mh_si (mh_si (mh_si h PQ q (Int32.ofNat k)) PS q s) PU q (pSl en n)) 115 33 (Int32.ofNat (q + 1))) 115 33 = Int32.ofNat (q + 1) := fun {h PQ PS PU PF PL PH lP} P i => by
    have nQ := P.n PQ (by simp)
    have nS := P.n PS (by simp)
    have nU := P.n PU (by simp)
    have d1 := P.d1
    have d2 := P.d2
    have d3 := P.d3
    have d1' : ¬ PS = PQ := fun z => d1 z.symm
    have d2' : ¬ PU = PQ := fun z => d2 z.symm
    have d3' : ¬ PU = PS := fun z => d3 z.symm
    have f1 : ¬ PQ = 115 := by omega
    have f2 : ¬ PS = 115 := by omega
    have f3 : ¬ PU = 115 := by omega
    refine ⟨fun hi => ?_, ?_, ?_, ?_, ?_⟩
    · have : ¬ i = q := by omega
      simp only [hi_si, this, and_false, if_false, d1, d2, d3, d1', d2', d3', f1, f2, f3, false_and, and_self]
    · simp only [hi_si, d1, d2, d3, f1, f2, f3, false_and, if_false, and_self, if_true]
    · simp only [hi_si, d1, d2, d3, f1, f2, f3, false_and, if_false, and_self, if_true]
    · simp only [hi_si, d1, d2, d3, f1, f2, f3, false_and, if_false, and_self, if_true]
    · simp only [hi_si, and_self, if_true]
  have PRw : ∀ {h : mh_H} {PQ PS PU PF PL PH lP : Nat}, AE h T sN en → PR h PQ PS PU PF PL PH lP → PR (mh_si (mh_si (mh_si (mh_si h PQ q (Int32.ofNat k)) PS q s) PU q (pSl en n)) 115 33 (Int32.ofNat (q + 1))) PQ PS PU PF PL PH lP := fun {h PQ PS PU PF PL PH lP} a P => by
    have nQ := P.n PQ (by simp)
    have nS := P.n PS (by simp)
    have nU := P.n PU (by simp)
    exact PR_fz (wr (fun b j => (b = 115 ∧ j = 33) ∨ b = PQ ∨ b = PS ∨ b = PU) a P (Or.inl ⟨rfl, rfl⟩) (fun j => ⟨Or.inr (Or.inl rfl), Or.inr (Or.inr (Or.inl rfl)), Or.inr (Or.inr (Or.inr rfl))⟩)).1 a.F P (fun j h1 h2 z => by omega) (fun i a hi => Or.inl hi)
  by_cases cq : q < lP
  · have e1 : ¬ q = lP := by omega
    have ne : (Int32.ofNat q = Int32.ofNat lP) = False := by rw [nn_eq (by omega) (by omega)]; exact eq_false e1
    have E := fun Q => u_241a (d := d) (x3 := none) (x4 := none) (x5 := none) (s := s) a P c cq hk hK hV hn Q
    obtain ⟨-, R2, R3, R4, R5⟩ := rd P 0
    refine ⟨_, PQ, PS, PU, PF, PL, PH, lP, wr (pW PQ PS PU) a P (Or.inl ⟨rfl, by omega, by omega⟩) (fun j => ⟨Or.inr (Or.inl rfl), Or.inr (Or.inr (Or.inl rfl)), Or.inr (Or.inr (Or.inr rfl))⟩), PRw a P, R5, cq, fun i hi => (rd P i).1 hi, R2, R3, R4, ⟨Or.inl rfl, Or.inl rfl, Or.inl rfl, Or.inl rfl, Or.inl rfl, Or.inl rfl⟩, fun i => rfl, fun Q => ?_⟩
    rw [← E Q]
    simp (disch := omega) only [s_241_0, s_241_1, s_241_4, s_241_5, s_241_8, s_241_9, s_241_12, s_241_13, s_241_14, s_241_17, s_241_20, s_241_20n, s_241_23, s_241_24, s_241_25, s_241_28, s_241_31, s_241_31n, s_241_34, s_241_35, s_241_36, s_241_39, s_241_42, s_241_42n, s_241_45, s_241_46, s_241_47, s_241_50, s_241_51, s_241_53, s_241_53n, s_241_54, s_241_55, s_241_56, s_241_59, s_241_60, s_241_62, s_241_62n, s_241_64, s_241_65, s_241_66, s_241_69, s_241_70, s_241_72, s_241_72n, s_241_74, s_241_75, s_241_78, s_241_79, s_241_81, s_241_82, s_241_83, s_241_86, s_241_89, s_241_90, s_241_93, s_241_94, s_241_96, s_241_97, s_241_98, s_241_101, s_241_104, s_241_105, s_241_106, s_241_106n, s_241_109, s_241_110, s_241_112, s_241_112n, s_241_115, s_241_116, s_241_118, s_241_118n, s_241_122, s_241_125, s_241_126, s_241_129, s_241_130, s_241_131, s_241_132, s_241_135, s_241_136, s_241_139, s_241_140, s_241_141, s_241_142, s_241_145, s_241_146, s_241_149, s_241_150, s_241_153, s_241_154, s_241_155, s_241_157, s_241_160, s_241_161, s_241_162, s_241_165, s_241_168, s_241_169, s_241_170, s_241_171, s_241_172, s_241_175, s_241_176, s_241_177, s_241_180, e_241, mv_i_1, mv_l_1, mv_a_1, mv_a_2, mv_a_3, mk2_n, mk2_i, mk2_l, mk2_a, mk2_u, mk2_x, mB_T, mB_F, mS_cons, mS_nil, mSB_T, mSB_F, mca_nil, mca_i, mca_l, mca_r, mca_u, mca_x, mcat_i, mcat_l, mcat_r, mcat_u, mcat_x, mK_some, mK_none, va_rf_s, va_rf_n, lgc_eq, lgc_lt, lgc_gt, lgc_ge, lgc_le, mrd_104, mrd_105, mrd_106, mrd_107, true_and, and_true, and_self, false_and, and_false, true_or, or_true, false_or, or_false, not_true_eq_false, not_false_eq_true, mgb, mga, mgr, mN, reduceCtorEq, ↓reduceIte, eq_self, ge_iff_le, gt_iff_lt, Nat.reduceAdd, Nat.reduceMul, Nat.reduceSub, Nat.reduceLT, Nat.reduceGT, Nat.reduceEqDiff, Nat.reduceLeDiff, Nat.left_eq_add, Nat.add_eq_left, Nat.reduceMod, Nat.reduceDiv, Nat.succ_ne_self, g, r27, k27, k272, l27, c, ne]
  · have e1 : q = lP := by omega
    subst e1
    have F' := pG_P a.F P (by omega)
    have x : fz (fun b j => b = 115 ∧ 27 ≤ j ∧ j ≤ 32) h (pG h PQ PS PU PL PH q) := pG_fz (fun j h1 h2 => ⟨rfl, h1, h2⟩)
    have RF' : RF (pG h PQ PS PU PL PH q) := RF_fz x a.F (fun j w => by omega) (fun j hj w => by simp at hj; omega) (fun p hp => ⟨fun j _ => ⟨fun w => by omega, fun w => by omega⟩, fun w => by omega, fun w => by omega⟩) (fun j _ w => by omega)
    have a' : AE (pG h PQ PS PU PL PH q) T sN en := AE_fz x a RF' (fun w => by omega) (fun w => by omega) (fun w => by omega) (fun w => by omega) (fun j => ⟨fun w => by omega, fun w => by omega⟩)
    have gK := (a.F.g 93 102 26000 (by decide +kernel)).2
    have gV := (a.F.g 95 100 26000 (by decide +kernel)).2
    have E := fun Q => u_241a (d := d) (x3 := some (.ref (mh_n h + 3))) (x4 := some (.ref (mh_n h + 4))) (x5 := some (.ref (mh_n h + 5))) (s := s) a' F' (q := q) (by rw [pG_i g.2]; exact c) (by have := P.c; omega) hk (by rw [pG_i gK]; exact hK) (by rw [pG_i gV]; exact hV) hn Q
    obtain ⟨-, R2, R3, R4, R5⟩ := rd F' 0
    have y := wr (h := pG h PQ PS PU PL PH q) (fun b j => (b = 115 ∧ 27 ≤ j ∧ j ≤ 33) ∨ mh_n h ≤ b) a' F' (Or.inl ⟨rfl, by omega, by omega⟩) (fun j => ⟨Or.inr (by omega), Or.inr (by omega), Or.inr (by omega)⟩)
    have z : fz (pW PQ PS PU) h (mh_si (mh_si (mh_si (mh_si (pG h PQ PS PU PL PH q) (mh_n h) q (Int32.ofNat k)) (mh_n h + 1) q s) (mh_n h + 2) q (pSl en n)) 115 33 (Int32.ofNat (q + 1))) := by
      refine fz_n (Nat.le_refl _) (fz_w x (fun b j _ w => Or.inl ⟨w.1, w.2.1, by omega⟩)) (fz_w y.1 (fun b j _ w => ?_))
      rcases w with w | w
      · exact Or.inl (Or.inl w)
      · exact Or.inr w
    have ec : cnS (pG h PQ PS PU PL PH q) 119 2048 = cnS h 119 2048 := n64_cong _ (fun i _ => by rw [pG_r g119, if_neg (by omega), if_neg (by omega), if_neg (by omega), if_neg (by omega), if_neg (by omega), if_neg (by omega)])
    have l1 : ln (pG h PQ PS PU PL PH q) 115 27 = 2 * q := by
      unfold ln
      rw [F'.r27]
      exact F'.l27
    have l2 : ln h 115 27 = q := by
      unfold ln
      rw [r27]
      exact l27
    have l3 : ln (pG h PQ PS PU PL PH q) 115 12 = ln h 115 12 := by
      obtain ⟨b', b1, b2⟩ := a.F.fn
      unfold ln
      rw [pG_r g.2, if_neg (by omega), if_neg (by omega), if_neg (by omega), if_neg (by omega), if_neg (by omega), if_neg (by omega), b1]
      try dsimp only
      rw [pG_l, if_neg (by omega)]
    have pc := P.c
    have w1 : qN (pG h PQ PS PU PL PH q) ≤ qN h := by
      unfold qN
      rw [pG_n, ec, l1, l2, l3]
      omega
    have w2 : qS (pG h PQ PS PU PL PH q) ≤ qS h := by
      unfold qS
      rw [pG_s, ec, l1, l2, l3]
      omega
    refine ⟨_, mh_n h, mh_n h + 1, mh_n h + 2, mh_n h + 3, mh_n h + 4, mh_n h + 5, 2 * q, ⟨z, Int.le_trans y.2.1 w1, Int.le_trans y.2.2 w2⟩, PRw a' F', R5, by omega, fun i hi => ?_, R2, R3, R4, ⟨Or.inr (by omega), Or.inr (by omega), Or.inr (by omega), Or.inr (by omega), Or.inr (by omega), Or.inr (by omega)⟩, fun i => ?_, fun Q => ?_⟩
    · obtain ⟨x1, x2, x3⟩ := (rd F' i).1 hi
      obtain ⟨y1, y2, y3⟩ := pG_q (h := h) (PQ := PQ) (PS := PS) (PU := PU) (PL := PL) (PH := PH) (L := q) hi P.g27.2 P.g28.2 P.g29.2
      exact ⟨x1.trans y1, x2.trans y2, x3.trans y3⟩
    · show mh_r (pG h PQ PS PU PL PH q) 119 i = _
      rw [pG_r g119, if_neg (by omega), if_neg (by omega), if_neg (by omega), if_neg (by omega), if_neg (by omega), if_neg (by omega)]
    · rw [e_241, u_241g a P c Q]
      exact E Q
end PGt
