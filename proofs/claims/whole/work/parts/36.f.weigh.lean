set_option maxRecDepth 100000
/-! a loop by what holds at its head -/
theorem mw_inv {d y pc : Nat} {st : List Value} (I : Nat → me_L → mh_H → Prop) {b : Nat} (step : ∀ k ls h, k < b → I k ls h → ∃ ls' h', I (k + 1) ls' h' ∧ ∀ Q, mw d y Q pc ls st h = mw d y Q pc ls' st h') : ∀ n a, a + n = b → ∀ ls h, I a ls h → ∃ ls' h', I b ls' h' ∧ ∀ Q, mw d y Q pc ls st h = mw d y Q pc ls' st h' := by
  intro n
  induction n with
  | zero =>
    intro a e ls h i
    have : a = b := e
    subst this
    exact ⟨ls, h, i, fun _ => rfl⟩
  | succ n ih =>
    intro a e ls h i
    obtain ⟨ls1, h1, i1, e1⟩ := step a ls h (by omega) i
    obtain ⟨ls2, h2, i2, e2⟩ := ih (a + 1) (by omega) ls1 h1 i1
    exact ⟨ls2, h2, i2, fun Q => (e1 Q).trans (e2 Q)⟩
theorem fR_aS {W : Nat → Nat → Prop} {h : mh_H} {al : Int32} {lo hi : Int64} (w : ∀ j, j = 24 ∨ j = 25 ∨ j = 26 → W 115 j) : fR W h (aS h 115 al lo hi) := by
  refine ⟨⟨Nat.le_refl _, fun _ _ => ⟨rfl, rfl⟩, fun b j _ hw => ⟨?_, ?_, rfl⟩⟩, Int.le_refl _, Int.le_refl _⟩
  · rw [aS_i, if_neg (fun z => hw (by rw [z.1]; exact w j (by omega)))]
  · rw [aS_j, if_neg (fun z => hw (by rw [z.1]; exact w j (by omega))), if_neg (fun z => hw (by rw [z.1]; exact w j (by omega)))]
theorem mna_b {h : mh_H} {o : Nat} (hk : mh_k h o = 103) (b : Bool) : mna h o (kb b) = kb b := by
  unfold mna
  rw [if_neg (by omega)]
  cases b <;> decide
section U233
variable {d : Nat} {h : mh_H} {T N : Nat} {sN : Int → Prop} {en : Int → Nat} {A : ab}
/-- Analysis.range, over any heap -/
theorem u_233 (a : AE h T sN en) (r23 : mh_r h 115 23 = some N) (k : RK h N (some A)) (hT : ab_T A) {t : tr} {p : Nat} (hd : 2 * th t + 6 ≤ d) (n : nd (mh_i h 93) (mh_i h 95) (mh_i h 97) p t) (hp : p + ts t ≤ 26000) (w : wS sN en A t false) : ∃ b lo hi, eR (ev en A t none) b lo hi ∧ ∀ Q, mcall d 233 [.ref 115, .int (Int32.ofNat p)] h Q = Q (some (.int (kb b))) (aS h 115 (mh_i h 115 24 ||| (ev en A t none).2) lo hi) := by
  obtain ⟨b, l, u, e, q⟩ := (r_233 (a.H r23 k hT) t).1 d p (mh_i h 115 24) (mh_j h 115 25) (mh_j h 115 26) hd n hp w
  refine ⟨b, l, u, e, fun Q => ?_⟩
  have := q Q
  rw [aS_id] at this
  exact this
end U233
def frA (u : Nat → Int32) (i : Nat) : Nat → Nat → Bool
  | _, 0 => true
  | j, n + 1 => (decide (j = i) || !decide (u j = u i)) && frA u i (j + 1) n
theorem frA_iff {u : Nat → Int32} {i : Nat} : ∀ n j, frA u i j n = true ↔ ∀ q, j ≤ q → q < j + n → q = i ∨ u q ≠ u i := by
  intro n
  induction n with
  | zero => intro j; exact ⟨fun _ q h1 h2 => by omega, fun _ => rfl⟩
  | succ n ih =>
    intro j
    show ((decide (j = i) || !decide (u j = u i)) && frA u i (j + 1) n) = true ↔ _
    rw [Bool.and_eq_true, ih (j + 1), Bool.or_eq_true, Bool.not_eq_true', decide_eq_true_eq, decide_eq_false_iff_not]
    constructor
    · rintro ⟨a, b⟩ q h1 h2
      by_cases c : q = j
      · rw [c]; exact a
      · exact b q (by omega) (by omega)
    · intro w
      exact ⟨w j (Nat.le_refl _) (by omega), fun q h1 h2 => w q (by omega) (by omega)⟩
def wgW (PF PL PH b j : Nat) : Prop := (b = 115 ∧ (j = 24 ∨ j = 25 ∨ j = 26)) ∨ b = PF ∨ b = PL ∨ b = PH
section WG
variable {d : Nat} {h X : mh_H} {T N : Nat} {sN : Int → Prop} {en : Int → Nat} {A : ab} {PQ PS PU PF PL PH lP : Nat} {l : List (Nat × Bool × tr)} {W : Nat → Nat → Prop}
/-- what weigh leaves -/
theorem wg_st (a : AE h T sN en) (P : PR h PQ PS PU PF PL PH lP) (x : fz (wgW PF PL PH) h X) : AE X T sN en ∧ PR X PQ PS PU PF PL PH lP ∧ (mh_i X 93 = mh_i h 93 ∧ mh_i X 95 = mh_i h 95 ∧ mh_i X 97 = mh_i h 97) ∧ mh_r X 115 23 = mh_r h 115 23 ∧ mh_i X 115 33 = mh_i h 115 33 ∧ (mh_i X PQ = mh_i h PQ ∧ mh_i X PS = mh_i h PS ∧ mh_i X PU = mh_i h PU) := by
  have nF := P.n PF (by simp)
  have nL := P.n PL (by simp)
  have nH := P.n PH (by simp)
  have g := a.g
  have kf : ∀ b, mg h b 100 → ¬ (b = PF ∨ b = PL ∨ b = PH) := fun b hb z => by
    have := hb.1
    have h1 := P.g30.1
    have h2 := P.g31.1
    have h3 := P.g32.1
    rcases z with z | z | z
    · rw [z] at this; omega
    · rw [z] at this; omega
    · rw [z] at this; omega
  have n115 : ∀ b, mg h b 100 → ¬ b = 115 := fun b hb z => by
    have := hb.1
    have := g.1
    rw [z] at *; omega
  have rows : ∀ b, mg h b 100 → mh_i X b = mh_i h b := fun b hb => funext fun j => fz_i x hb (fun w => by
    unfold wgW at w
    rcases w with w | w
    · exact n115 b hb w.1
    · exact kf b hb w)
  unfold wgW at x
  have F' : RF X := RF_fz x a.F (fun j w => by omega) (fun j hj w => by simp at hj; omega) (fun p hp => ⟨fun j _ => ⟨fun w => by omega, fun w => by omega⟩, fun w => by omega, fun w => by omega⟩) (fun j _ w => by omega)
  refine ⟨AE_fz x a F' (fun w => by omega) (fun w => by omega) (fun w => by omega) (fun w => by omega) (fun j => ⟨fun w => by omega, fun w => by omega⟩), PR_fz x a.F P (fun j h1 h2 w => by omega) (fun i b hb => Or.inl (by rw [← fz_r x (a.F.g 119 106 2048 (by decide +kernel)) (fun w => by omega)]; exact hb)), ⟨funext fun j => fz_i x (a.F.g 93 102 26000 (by decide +kernel)) (fun w => by omega), funext fun j => fz_i x (a.F.g 95 100 26000 (by decide +kernel)) (fun w => by omega), funext fun j => fz_i x (a.F.g 97 100 26000 (by decide +kernel)) (fun w => by omega)⟩, fz_r x g (fun w => by omega), fz_i x g (fun w => by omega), rows PQ P.g27, rows PS P.g28, rows PU P.g29⟩
/-- is the part free -/
theorem wg_in (a : AE X T sN en) (P : PR X PQ PS PU PF PL PH lP) {m i : Nat} {al : Int32} (c : mh_i X 115 33 = Int32.ofNat m) (b : m ≤ lP) (hi : i < m) : ∀ n j f, j + n = m → ∃ j' : Int32, ∀ Q, mw d 244 Q 33 [some (.ref 115), some (.int al), some (.int (Int32.ofNat i)), some (.int (kb f)), some (.int (Int32.ofNat j))] [] X = mw d 244 Q 80 [some (.ref 115), some (.int al), some (.int (Int32.ofNat i)), some (.int (kb (f && frA (mh_i X PU) i j n))), some (.int j')] [] X := by
  have g := a.g
  have bb := P.b
  have r29 := P.r29
  have g29 := P.g29
  have l29 := P.l29
  have ei : ∀ k, Int32.ofNat k + 1 = Int32.ofNat (k + 1) := fun k => nn_add (a := k) (b := 1)
  have e10 : ((1 : Int32) = 0) = False := by decide
  have e00 : ((0 : Int32) = 0) = True := by decide
  have k1' : kb true = 1 := rfl
  have k0' : kb false = 0 := rfl
  intro n
  induction n with
  | zero =>
    intro j f hj
    refine ⟨Int32.ofNat j, fun Q => ?_⟩
    have hle : (m ≤ j) = True := eq_true (by omega)
    have : (f && frA (mh_i X PU) i j 0) = f := Bool.and_true _
    rw [this, s_244_33]
    simp (disch := omega) only [s_244_0, s_244_1, s_244_4, s_244_5, s_244_6, s_244_7, s_244_8, s_244_9, s_244_12, s_244_15, s_244_16, s_244_19, s_244_20, s_244_21, s_244_24, s_244_25, s_244_28, s_244_29, s_244_30, s_244_31, s_244_35, s_244_36, s_244_39, s_244_42, s_244_43, s_244_46, s_244_48, s_244_49, s_244_52, s_244_53, s_244_56, s_244_58, s_244_59, s_244_60, s_244_63, s_244_64, s_244_65, s_244_68, s_244_69, s_244_72, s_244_73, s_244_74, s_244_77, s_244_80, s_244_81, s_244_84, s_244_85, s_244_86, s_244_87, s_244_88, s_244_89, s_244_92, s_244_93, s_244_94, s_244_97, s_244_98, s_244_99, s_244_102, s_244_103, s_244_104, s_244_107, s_244_108, s_244_109, s_244_112, s_244_113, s_244_116, s_244_119, s_244_120, s_244_123, s_244_124, s_244_125, s_244_126, s_244_129, s_244_130, s_244_131, s_244_134, s_244_135, s_244_136, s_244_139, s_244_140, s_244_143, s_244_146, s_244_147, s_244_150, s_244_151, s_244_152, s_244_155, s_244_158, s_244_159, s_244_160, s_244_163, e_244, mv_i_1, mv_l_1, mv_a_1, mv_a_2, mv_a_3, mk2_n, mk2_i, mk2_l, mk2_a, mk2_u, mk2_x, mB_T, mB_F, mS_cons, mS_nil, mSB_T, mSB_F, mca_nil, mca_i, mca_l, mca_r, mca_u, mca_x, mcat_i, mcat_l, mcat_r, mcat_u, mcat_x, mK_some, mK_none, va_rf_s, va_rf_n, lgc_eq, lgc_lt, lgc_gt, lgc_ge, lgc_le, mrd_104, mrd_105, mrd_106, mrd_107, true_and, and_true, and_self, false_and, and_false, true_or, or_true, false_or, or_false, not_true_eq_false, not_false_eq_true, mgb, mga, mgr, mN, reduceCtorEq, ↓reduceIte, eq_self, ge_iff_le, gt_iff_lt, Nat.reduceAdd, Nat.reduceMul, Nat.reduceSub, Nat.reduceLT, Nat.reduceGT, Nat.reduceEqDiff, Nat.reduceLeDiff, Nat.left_eq_add, Nat.add_eq_left, Nat.reduceMod, Nat.reduceDiv, Nat.succ_ne_self, g, c, nn_le, hle]
  | succ n ih =>
    intro j f hj
    have hle : (m ≤ j) = False := eq_false (by omega)
    cases f with
    | false =>
      refine ⟨Int32.ofNat j, fun Q => ?_⟩
      rw [Bool.false_and, k0', s_244_33]
      simp (disch := omega) only [s_244_0, s_244_1, s_244_4, s_244_5, s_244_6, s_244_7, s_244_8, s_244_9, s_244_12, s_244_15, s_244_16, s_244_19, s_244_20, s_244_21, s_244_24, s_244_25, s_244_28, s_244_29, s_244_30, s_244_31, s_244_35, s_244_36, s_244_39, s_244_42, s_244_43, s_244_46, s_244_48, s_244_49, s_244_52, s_244_53, s_244_56, s_244_58, s_244_59, s_244_60, s_244_63, s_244_64, s_244_65, s_244_68, s_244_69, s_244_72, s_244_73, s_244_74, s_244_77, s_244_80, s_244_81, s_244_84, s_244_85, s_244_86, s_244_87, s_244_88, s_244_89, s_244_92, s_244_93, s_244_94, s_244_97, s_244_98, s_244_99, s_244_102, s_244_103, s_244_104, s_244_107, s_244_108, s_244_109, s_244_112, s_244_113, s_244_116, s_244_119, s_244_120, s_244_123, s_244_124, s_244_125, s_244_126, s_244_129, s_244_130, s_244_131, s_244_134, s_244_135, s_244_136, s_244_139, s_244_140, s_244_143, s_244_146, s_244_147, s_244_150, s_244_151, s_244_152, s_244_155, s_244_158, s_244_159, s_244_160, s_244_163, e_244, mv_i_1, mv_l_1, mv_a_1, mv_a_2, mv_a_3, mk2_n, mk2_i, mk2_l, mk2_a, mk2_u, mk2_x, mB_T, mB_F, mS_cons, mS_nil, mSB_T, mSB_F, mca_nil, mca_i, mca_l, mca_r, mca_u, mca_x, mcat_i, mcat_l, mcat_r, mcat_u, mcat_x, mK_some, mK_none, va_rf_s, va_rf_n, lgc_eq, lgc_lt, lgc_gt, lgc_ge, lgc_le, mrd_104, mrd_105, mrd_106, mrd_107, true_and, and_true, and_self, false_and, and_false, true_or, or_true, false_or, or_false, not_true_eq_false, not_false_eq_true, mgb, mga, mgr, mN, reduceCtorEq, ↓reduceIte, eq_self, ge_iff_le, gt_iff_lt, Nat.reduceAdd, Nat.reduceMul, Nat.reduceSub, Nat.reduceLT, Nat.reduceGT, Nat.reduceEqDiff, Nat.reduceLeDiff, Nat.left_eq_add, Nat.add_eq_left, Nat.reduceMod, Nat.reduceDiv, Nat.succ_ne_self, g, c, nn_le, hle, e00]
    | true =>
      have st : frA (mh_i X PU) i j (n + 1) = ((decide (j = i) || !decide (mh_i X PU j = mh_i X PU i)) && frA (mh_i X PU) i (j + 1) n) := rfl
      obtain ⟨j', ej⟩ := ih (j + 1) (decide (j = i) || !decide (mh_i X PU j = mh_i X PU i)) (by omega)
      refine ⟨j', fun Q => ?_⟩
      rw [Bool.true_and, st, ← ej Q, k1', s_244_33]
      by_cases c1 : j = i
      · have q1 : (decide (j = i) || !decide (mh_i X PU j = mh_i X PU i)) = true := by rw [decide_eq_true c1]; rfl
        have q2 : (Int32.ofNat j = Int32.ofNat i) = True := eq_true (by rw [c1])
        rw [q1, k1']
        simp (disch := omega) only [s_244_0, s_244_1, s_244_4, s_244_5, s_244_6, s_244_7, s_244_8, s_244_9, s_244_12, s_244_15, s_244_16, s_244_19, s_244_20, s_244_21, s_244_24, s_244_25, s_244_28, s_244_29, s_244_30, s_244_31, s_244_35, s_244_36, s_244_39, s_244_42, s_244_43, s_244_46, s_244_48, s_244_49, s_244_52, s_244_53, s_244_56, s_244_58, s_244_59, s_244_60, s_244_63, s_244_64, s_244_65, s_244_68, s_244_69, s_244_72, s_244_73, s_244_74, s_244_77, s_244_80, s_244_81, s_244_84, s_244_85, s_244_86, s_244_87, s_244_88, s_244_89, s_244_92, s_244_93, s_244_94, s_244_97, s_244_98, s_244_99, s_244_102, s_244_103, s_244_104, s_244_107, s_244_108, s_244_109, s_244_112, s_244_113, s_244_116, s_244_119, s_244_120, s_244_123, s_244_124, s_244_125, s_244_126, s_244_129, s_244_130, s_244_131, s_244_134, s_244_135, s_244_136, s_244_139, s_244_140, s_244_143, s_244_146, s_244_147, s_244_150, s_244_151, s_244_152, s_244_155, s_244_158, s_244_159, s_244_160, s_244_163, e_244, mv_i_1, mv_l_1, mv_a_1, mv_a_2, mv_a_3, mk2_n, mk2_i, mk2_l, mk2_a, mk2_u, mk2_x, mB_T, mB_F, mS_cons, mS_nil, mSB_T, mSB_F, mca_nil, mca_i, mca_l, mca_r, mca_u, mca_x, mcat_i, mcat_l, mcat_r, mcat_u, mcat_x, mK_some, mK_none, va_rf_s, va_rf_n, lgc_eq, lgc_lt, lgc_gt, lgc_ge, lgc_le, mrd_104, mrd_105, mrd_106, mrd_107, true_and, and_true, and_self, false_and, and_false, true_or, or_true, false_or, or_false, not_true_eq_false, not_false_eq_true, mgb, mga, mgr, mN, reduceCtorEq, ↓reduceIte, eq_self, ge_iff_le, gt_iff_lt, Nat.reduceAdd, Nat.reduceMul, Nat.reduceSub, Nat.reduceLT, Nat.reduceGT, Nat.reduceEqDiff, Nat.reduceLeDiff, Nat.left_eq_add, Nat.add_eq_left, Nat.reduceMod, Nat.reduceDiv, Nat.succ_ne_self, g, c, nn_le, hle, e10, q2, ei]
      · have q2 : (Int32.ofNat j = Int32.ofNat i) = False := by rw [nn_eq (by omega) (by omega)]; exact eq_false c1
        by_cases c2 : mh_i X PU j = mh_i X PU i
        · have q1 : (decide (j = i) || !decide (mh_i X PU j = mh_i X PU i)) = false := by rw [decide_eq_false c1, decide_eq_true c2]; rfl
          rw [q1, k0']
          simp (disch := omega) only [s_244_0, s_244_1, s_244_4, s_244_5, s_244_6, s_244_7, s_244_8, s_244_9, s_244_12, s_244_15, s_244_16, s_244_19, s_244_20, s_244_21, s_244_24, s_244_25, s_244_28, s_244_29, s_244_30, s_244_31, s_244_35, s_244_36, s_244_39, s_244_42, s_244_43, s_244_46, s_244_48, s_244_49, s_244_52, s_244_53, s_244_56, s_244_58, s_244_59, s_244_60, s_244_63, s_244_64, s_244_65, s_244_68, s_244_69, s_244_72, s_244_73, s_244_74, s_244_77, s_244_80, s_244_81, s_244_84, s_244_85, s_244_86, s_244_87, s_244_88, s_244_89, s_244_92, s_244_93, s_244_94, s_244_97, s_244_98, s_244_99, s_244_102, s_244_103, s_244_104, s_244_107, s_244_108, s_244_109, s_244_112, s_244_113, s_244_116, s_244_119, s_244_120, s_244_123, s_244_124, s_244_125, s_244_126, s_244_129, s_244_130, s_244_131, s_244_134, s_244_135, s_244_136, s_244_139, s_244_140, s_244_143, s_244_146, s_244_147, s_244_150, s_244_151, s_244_152, s_244_155, s_244_158, s_244_159, s_244_160, s_244_163, e_244, mv_i_1, mv_l_1, mv_a_1, mv_a_2, mv_a_3, mk2_n, mk2_i, mk2_l, mk2_a, mk2_u, mk2_x, mB_T, mB_F, mS_cons, mS_nil, mSB_T, mSB_F, mca_nil, mca_i, mca_l, mca_r, mca_u, mca_x, mcat_i, mcat_l, mcat_r, mcat_u, mcat_x, mK_some, mK_none, va_rf_s, va_rf_n, lgc_eq, lgc_lt, lgc_gt, lgc_ge, lgc_le, mrd_104, mrd_105, mrd_106, mrd_107, true_and, and_true, and_self, false_and, and_false, true_or, or_true, false_or, or_false, not_true_eq_false, not_false_eq_true, mgb, mga, mgr, mN, reduceCtorEq, ↓reduceIte, eq_self, ge_iff_le, gt_iff_lt, Nat.reduceAdd, Nat.reduceMul, Nat.reduceSub, Nat.reduceLT, Nat.reduceGT, Nat.reduceEqDiff, Nat.reduceLeDiff, Nat.left_eq_add, Nat.add_eq_left, Nat.reduceMod, Nat.reduceDiv, Nat.succ_ne_self, g, c, r29, g29, l29, nn_le, nn_mxT, nn_clamp, hle, e10, q2, c2, ei]
        · have q1 : (decide (j = i) || !decide (mh_i X PU j = mh_i X PU i)) = true := by rw [decide_eq_false c1, decide_eq_false c2]; rfl
          rw [q1, k1']
          simp (disch := omega) only [s_244_0, s_244_1, s_244_4, s_244_5, s_244_6, s_244_7, s_244_8, s_244_9, s_244_12, s_244_15, s_244_16, s_244_19, s_244_20, s_244_21, s_244_24, s_244_25, s_244_28, s_244_29, s_244_30, s_244_31, s_244_35, s_244_36, s_244_39, s_244_42, s_244_43, s_244_46, s_244_48, s_244_49, s_244_52, s_244_53, s_244_56, s_244_58, s_244_59, s_244_60, s_244_63, s_244_64, s_244_65, s_244_68, s_244_69, s_244_72, s_244_73, s_244_74, s_244_77, s_244_80, s_244_81, s_244_84, s_244_85, s_244_86, s_244_87, s_244_88, s_244_89, s_244_92, s_244_93, s_244_94, s_244_97, s_244_98, s_244_99, s_244_102, s_244_103, s_244_104, s_244_107, s_244_108, s_244_109, s_244_112, s_244_113, s_244_116, s_244_119, s_244_120, s_244_123, s_244_124, s_244_125, s_244_126, s_244_129, s_244_130, s_244_131, s_244_134, s_244_135, s_244_136, s_244_139, s_244_140, s_244_143, s_244_146, s_244_147, s_244_150, s_244_151, s_244_152, s_244_155, s_244_158, s_244_159, s_244_160, s_244_163, e_244, mv_i_1, mv_l_1, mv_a_1, mv_a_2, mv_a_3, mk2_n, mk2_i, mk2_l, mk2_a, mk2_u, mk2_x, mB_T, mB_F, mS_cons, mS_nil, mSB_T, mSB_F, mca_nil, mca_i, mca_l, mca_r, mca_u, mca_x, mcat_i, mcat_l, mcat_r, mcat_u, mcat_x, mK_some, mK_none, va_rf_s, va_rf_n, lgc_eq, lgc_lt, lgc_gt, lgc_ge, lgc_le, mrd_104, mrd_105, mrd_106, mrd_107, true_and, and_true, and_self, false_and, and_false, true_or, or_true, false_or, or_false, not_true_eq_false, not_false_eq_true, mgb, mga, mgr, mN, reduceCtorEq, ↓reduceIte, eq_self, ge_iff_le, gt_iff_lt, Nat.reduceAdd, Nat.reduceMul, Nat.reduceSub, Nat.reduceLT, Nat.reduceGT, Nat.reduceEqDiff, Nat.reduceLeDiff, Nat.left_eq_add, Nat.add_eq_left, Nat.reduceMod, Nat.reduceDiv, Nat.succ_ne_self, g, c, r29, g29, l29, nn_le, nn_mxT, nn_clamp, hle, e10, q2, c2, ei]
/-- a part's slot in the row, and in the list -/
theorem slot_at {e : Nat × Bool × tr} (w : wS sN en A e.2.2 false) (hT : ab_T A) : ((pgE en A e).2.1 < 0 ∧ pSt en e.2.2 = -1) ∨ ∃ s : Nat, s < A.n ∧ (pgE en A e).2.1 = (s : Int) ∧ pSt en e.2.2 = Int32.ofNat s := by
  obtain ⟨n, cs, r, he⟩ := w_b w
  have e1 : (pgE en A e).2.1 = pk en n := by
    unfold pgE
    rw [he]
    show (p1 en A n cs r e.2.1).2.1 = _
    unfold p1
    split <;> rfl
  have e2 : pSt en e.2.2 = pSl en n := by rw [he]; rfl
  rw [e1, e2]
  unfold pk pSl
  by_cases c : tK n = 13
  · right
    rw [he] at w
    exact ⟨en (tV n), (w_13 c w).2, if_pos c, if_pos c⟩
  · left
    rw [if_neg c, if_neg c]
    exact ⟨by split <;> omega, rfl⟩
theorem pq_at {i : Nat} {e : Nat × Bool × tr} (he : l[i]? = some e) : pq (l.map (pgE en A)) i = pgE en A e := by
  unfold pq
  rw [List.getD_eq_getElem?_getD, List.getElem?_map, he]
  rfl
/-- the row says which parts are free -/
theorem fre_at (hT : ab_T A) (hw : ∀ e ∈ l, wS sN en A e.2.2 false) {u : Nat → Int32} (hu : ∀ i e, l[i]? = some e → u i = pSt en e.2.2) {i : Nat} (hi : i < l.length) : (decide (¬ u i < 0) && frA u i 0 l.length) = pqF (l.map (pgE en A)) i := by
  have n12 := hT.n12
  have at' : ∀ j, j < l.length → (pqS (l.map (pgE en A)) j < 0 ∧ u j = -1) ∨ ∃ s : Nat, s < 12 ∧ pqS (l.map (pgE en A)) j = (s : Int) ∧ u j = Int32.ofNat s := fun j hj => by
    have hj' : l[j]? = some l[j] := List.getElem?_eq_getElem hj
    unfold pqS
    rw [pq_at hj', hu j _ hj']
    rcases slot_at (hw _ (List.getElem_mem hj)) hT with q | ⟨s, s1, s2, s3⟩
    · exact Or.inl q
    · exact Or.inr ⟨s, by omega, s2, s3⟩
  rcases at' i hi with ⟨p, q⟩ | ⟨s, s1, s2, s3⟩
  · have f : pqF (l.map (pgE en A)) i = false := decide_eq_false (fun z => by omega)
    rw [f, q]
    rfl
  · have nz : decide (¬ u i < 0) = true := decide_eq_true (by rw [s3, nn_neg (by omega)]; exact fun z => z)
    rw [nz, Bool.true_and]
    have ek : ∀ j, j < l.length → (pqK (l.map (pgE en A)) (s : Int) j = true ↔ u j = u i) := fun j hj => by
      unfold pqK
      rw [decide_eq_true_eq, s3]
      rcases at' j hj with ⟨p, q⟩ | ⟨s', s1', s2', s3'⟩
      · rw [q]
        refine ⟨fun z => by omega, fun z => ?_⟩
        have := congrArg Int32.toInt z
        rw [nn_int (by omega)] at this
        have e : (-1 : Int32).toInt = -1 := by decide
        omega
      · rw [s3', nn_eq (by omega) (by omega), s2']
        omega
    have key : n64 (pqK (l.map (pgE en A)) (s : Int)) (l.map (pgE en A)).length = 1 ↔ frA u i 0 l.length = true := by
      rw [List.length_map, frA_iff]
      constructor
      · intro h q _ hq
        by_cases c : u q = u i
        · exact Or.inl (n64_1u h hi (by omega) ((ek i hi).mpr rfl) ((ek q (by omega)).mpr c))
        · exact Or.inr c
      · intro h
        refine n64_only (a := i) _ hi (fun q hq => ?_)
        rw [ek q hq]
        exact ⟨fun z => (h q (Nat.zero_le _) (by omega)).elim (fun y => y) (fun y => absurd z y), fun z => by rw [z]⟩
    unfold pqF
    rw [s2]
    cases hf : frA u i 0 l.length with
    | true => exact (decide_eq_true ⟨by omega, key.mpr hf⟩).symm
    | false => exact (decide_eq_false (fun z => by rw [key.mp z.2] at hf; cases hf)).symm
end WG
