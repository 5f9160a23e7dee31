set_option maxRecDepth 100000
/-! the reference's nameOf -/
def NTK (h : mh_H) (n m : Nat) (Bt : Nat → Int32) (K : Nat → Int32) (P U : Nat → Nat) : Prop := (RF h) ∧ (n ≤ 16400 ∧ m ≤ n + 1) ∧ (∀ i, i < m → mh_i h 84 i = Int32.ofNat (P i)) ∧ (∀ i, i < m → K i = 2 → mh_i h 85 i = Int32.ofNat (U i)) ∧ (∀ i, i < n → mh_i h 82 i = Bt i) ∧ (∀ i, i < m → P i + U i ≤ n)
theorem NTK.of {h : mh_H} {n m : Nat} {Bt : Nat → Int32} {K : Nat → Int32} {P U : Nat → Nat} (q : (RF h) ∧ (n ≤ 16400 ∧ m ≤ n + 1) ∧ (∀ i, i < m → mh_i h 84 i = Int32.ofNat (P i)) ∧ (∀ i, i < m → K i = 2 → mh_i h 85 i = Int32.ofNat (U i)) ∧ (∀ i, i < n → mh_i h 82 i = Bt i) ∧ (∀ i, i < m → P i + U i ≤ n)) : NTK h n m Bt K P U := q
theorem NTK.F {h : mh_H} {n m : Nat} {Bt : Nat → Int32} {K : Nat → Int32} {P U : Nat → Nat} (q : NTK h n m Bt K P U) : RF h := q.1
theorem NTK.n {h : mh_H} {n m : Nat} {Bt : Nat → Int32} {K : Nat → Int32} {P U : Nat → Nat} (q : NTK h n m Bt K P U) : n ≤ 16400 ∧ m ≤ n + 1 := q.2.1
theorem NTK.p {h : mh_H} {n m : Nat} {Bt : Nat → Int32} {K : Nat → Int32} {P U : Nat → Nat} (q : NTK h n m Bt K P U) : ∀ i, i < m → mh_i h 84 i = Int32.ofNat (P i) := q.2.2.1
theorem NTK.u {h : mh_H} {n m : Nat} {Bt : Nat → Int32} {K : Nat → Int32} {P U : Nat → Nat} (q : NTK h n m Bt K P U) : ∀ i, i < m → K i = 2 → mh_i h 85 i = Int32.ofNat (U i) := q.2.2.2.1
theorem NTK.b {h : mh_H} {n m : Nat} {Bt : Nat → Int32} {K : Nat → Int32} {P U : Nat → Nat} (q : NTK h n m Bt K P U) : ∀ i, i < n → mh_i h 82 i = Bt i := q.2.2.2.2.1
theorem NTK.w {h : mh_H} {n m : Nat} {Bt : Nat → Int32} {K : Nat → Int32} {P U : Nat → Nat} (q : NTK h n m Bt K P U) : ∀ i, i < m → P i + U i ≤ n := q.2.2.2.2.2
def NMS (h : mh_H) (P U : Nat → Nat) (L : List Nat) : Prop := (mh_i h 81 27 = Int32.ofNat L.length) ∧ (∀ k, k ≤ L.length → mh_i h 99 k = Int32.ofNat (lsN U (L.take k))) ∧ (∀ k a, L[k]? = some a → ∀ j, j < U a → mh_i h 98 (lsN U (L.take k) + j) = mh_i h 82 (P a + j))
theorem NMS.of {h : mh_H} {P U : Nat → Nat} {L : List Nat} (q : (mh_i h 81 27 = Int32.ofNat L.length) ∧ (∀ k, k ≤ L.length → mh_i h 99 k = Int32.ofNat (lsN U (L.take k))) ∧ (∀ k a, L[k]? = some a → ∀ j, j < U a → mh_i h 98 (lsN U (L.take k) + j) = mh_i h 82 (P a + j))) : NMS h P U L := q
theorem NMS.c {h : mh_H} {P U : Nat → Nat} {L : List Nat} (q : NMS h P U L) : mh_i h 81 27 = Int32.ofNat L.length := q.1
theorem NMS.s {h : mh_H} {P U : Nat → Nat} {L : List Nat} (q : NMS h P U L) : ∀ k, k ≤ L.length → mh_i h 99 k = Int32.ofNat (lsN U (L.take k)) := q.2.1
theorem NMS.l {h : mh_H} {P U : Nat → Nat} {L : List Nat} (q : NMS h P U L) : ∀ k a, L[k]? = some a → ∀ j, j < U a → mh_i h 98 (lsN U (L.take k) + j) = mh_i h 82 (P a + j) := q.2.2
def nmWr (b j : Nat) : Prop := b = 98 ∨ b = 99 ∨ (b = 81 ∧ j = 27)
def icp (h : mh_H) (p S i : Nat) : mh_H := (mh_k h, mh_l h, fun b j => if b = 98 ∧ S ≤ j ∧ j < S + i then mh_i h 82 (p + (j - S)) else mh_i h b j, mh_j h, mh_r h, mh_n h, mh_s h)
section NOs
variable {d : Nat} {h : mh_H} {n m : Nat} {Bt : Nat → Int32} {K : Nat → Int32} {P U : Nat → Nat} {L : List Nat} {t : Nat}
theorem ic_k {p S i : Nat} : mh_k (icp h p S i) = mh_k h := nrfl rfl
theorem ic_l {p S i : Nat} : mh_l (icp h p S i) = mh_l h := nrfl rfl
theorem ic_r {p S i : Nat} : mh_r (icp h p S i) = mh_r h := nrfl rfl
theorem ic_g {p S i o c : Nat} : mg (icp h p S i) o c = mg h o c := nrfl rfl
theorem ic_i {p S i b j : Nat} : mh_i (icp h p S i) b j = if b = 98 ∧ S ≤ j ∧ j < S + i then mh_i h 82 (p + (j - S)) else mh_i h b j := nrfl rfl
theorem ic_0 {p S : Nat} : icp h p S 0 = h := by
  refine mh_xi rfl rfl (fun b j => ?_) rfl rfl rfl rfl
  rw [ic_i, if_neg (by omega)]
theorem ic_s {p S i : Nat} : mh_si (icp h p S i) 98 (S + i) (mh_i h 82 (p + i)) = icp h p S (i + 1) := by
  refine mh_xi rfl rfl (fun b j => ?_) rfl rfl rfl rfl
  rw [hi_si, ic_i, ic_i]
  by_cases c : b = 98 ∧ j = S + i
  · rw [if_pos c, if_pos (by omega), show j - S = i from by omega]
  · rw [if_neg c]
    by_cases c2 : b = 98 ∧ S ≤ j ∧ j < S + i
    · rw [if_pos c2, if_pos (by omega)]
    · rw [if_neg c2, if_neg (by omega)]
theorem z_329 (R : NTK h n m Bt K P U) (ht : t < m) (k2 : K t = 2) {x2 : Option Value} {i : Nat} (hi : i ≤ U t) : ∀ Q, mw d 329 Q 43 [some (.ref 81), some (.int (Int32.ofNat t)), x2, some (.int 0), some (.int (Int32.ofNat i))] [] h = mw d 329 Q 101 [some (.ref 81), some (.int (Int32.ofNat t)), x2, some (.int 0), some (.int (Int32.ofNat i))] [] h := by
  intro Q
  obtain ⟨hn, hm⟩ := R.n
  have g := R.F.g 81 14 70 (by decide +kernel)
  have r6 := R.F.f 81 6 85 (by decide +kernel)
  have g6 := R.F.g 85 100 16402 (by decide +kernel)
  have l6 := R.F.l 85 100 16402 (by decide +kernel)
  have u := R.u t ht k2
  have hw := R.w t ht
  have z0 : ((0 : Int32) = 0) = True := eq_true rfl
  clear R
  by_cases c : U t ≤ i
  · have c' := eq_true c
    rw [s_329_43]
    simp (disch := omega) only [s_329_0, s_329_1, s_329_2, s_329_3, s_329_4, s_329_7, s_329_10, s_329_11, s_329_14, s_329_15, s_329_16, s_329_17, s_329_18, s_329_19, s_329_22, s_329_23, s_329_24, s_329_25, s_329_26, s_329_29, s_329_30, s_329_31, s_329_34, s_329_35, s_329_38, s_329_39, s_329_40, s_329_41, s_329_45, s_329_46, s_329_49, s_329_50, s_329_51, s_329_54, s_329_55, s_329_58, s_329_59, s_329_62, s_329_63, s_329_66, s_329_67, s_329_68, s_329_70, s_329_71, s_329_72, s_329_73, s_329_76, s_329_77, s_329_80, s_329_81, s_329_82, s_329_84, s_329_85, s_329_86, s_329_89, s_329_90, s_329_93, s_329_94, s_329_95, s_329_98, s_329_102, s_329_105, s_329_106, s_329_107, s_329_110, s_329_113, s_329_114, s_329_115, s_329_116, s_329_117, s_329_120, s_329_121, s_329_122, s_329_125, s_329_126, s_329_129, s_329_130, s_329_133, s_329_134, s_329_137, s_329_138, s_329_139, s_329_140, s_329_141, s_329_144, s_329_145, s_329_148, s_329_149, s_329_150, s_329_151, s_329_152, s_329_153, s_329_154, s_329_157, s_329_160, s_329_161, s_329_162, s_329_165, s_329_166, s_329_167, s_329_170, s_329_171, s_329_174, s_329_175, s_329_178, s_329_179, s_329_182, s_329_183, s_329_186, s_329_187, s_329_188, s_329_189, s_329_190, s_329_193, s_329_194, s_329_195, s_329_196, s_329_197, s_329_198, s_329_201, s_329_202, s_329_203, e_329, mv_i_1, mv_l_1, mv_a_1, mv_a_2, mv_a_3, mk2_n, mk2_i, mk2_l, mk2_a, mk2_u, mk2_x, mB_T, mB_F, mS_cons, mS_nil, mSB_T, mSB_F, mca_nil, mca_i, mca_l, mca_r, mca_u, mca_x, mcat_i, mcat_l, mcat_r, mcat_u, mcat_x, mK_some, mK_none, va_rf_s, va_rf_n, lgc_eq, lgc_lt, lgc_gt, lgc_ge, lgc_le, mrd_104, mrd_105, mrd_106, mrd_107, true_and, and_true, and_self, false_and, and_false, true_or, or_true, false_or, or_false, not_true_eq_false, not_false_eq_true, mgb, mga, mgr, mN, reduceCtorEq, ↓reduceIte, eq_self, ge_iff_le, gt_iff_lt, Nat.reduceAdd, Nat.reduceMul, Nat.reduceSub, Nat.reduceLT, Nat.reduceGT, Nat.reduceEqDiff, Nat.reduceLeDiff, Nat.left_eq_add, Nat.add_eq_left, Nat.reduceMod, Nat.reduceDiv, Nat.succ_ne_self, g, r6, g6, l6, u, nn_mxT, nn_clamp, nn_le, c']
  · have c' := eq_false c
    rw [s_329_43]
    simp (disch := omega) only [s_329_0, s_329_1, s_329_2, s_329_3, s_329_4, s_329_7, s_329_10, s_329_11, s_329_14, s_329_15, s_329_16, s_329_17, s_329_18, s_329_19, s_329_22, s_329_23, s_329_24, s_329_25, s_329_26, s_329_29, s_329_30, s_329_31, s_329_34, s_329_35, s_329_38, s_329_39, s_329_40, s_329_41, s_329_45, s_329_46, s_329_49, s_329_50, s_329_51, s_329_54, s_329_55, s_329_58, s_329_59, s_329_62, s_329_63, s_329_66, s_329_67, s_329_68, s_329_70, s_329_71, s_329_72, s_329_73, s_329_76, s_329_77, s_329_80, s_329_81, s_329_82, s_329_84, s_329_85, s_329_86, s_329_89, s_329_90, s_329_93, s_329_94, s_329_95, s_329_98, s_329_102, s_329_105, s_329_106, s_329_107, s_329_110, s_329_113, s_329_114, s_329_115, s_329_116, s_329_117, s_329_120, s_329_121, s_329_122, s_329_125, s_329_126, s_329_129, s_329_130, s_329_133, s_329_134, s_329_137, s_329_138, s_329_139, s_329_140, s_329_141, s_329_144, s_329_145, s_329_148, s_329_149, s_329_150, s_329_151, s_329_152, s_329_153, s_329_154, s_329_157, s_329_160, s_329_161, s_329_162, s_329_165, s_329_166, s_329_167, s_329_170, s_329_171, s_329_174, s_329_175, s_329_178, s_329_179, s_329_182, s_329_183, s_329_186, s_329_187, s_329_188, s_329_189, s_329_190, s_329_193, s_329_194, s_329_195, s_329_196, s_329_197, s_329_198, s_329_201, s_329_202, s_329_203, e_329, mv_i_1, mv_l_1, mv_a_1, mv_a_2, mv_a_3, mk2_n, mk2_i, mk2_l, mk2_a, mk2_u, mk2_x, mB_T, mB_F, mS_cons, mS_nil, mSB_T, mSB_F, mca_nil, mca_i, mca_l, mca_r, mca_u, mca_x, mcat_i, mcat_l, mcat_r, mcat_u, mcat_x, mK_some, mK_none, va_rf_s, va_rf_n, lgc_eq, lgc_lt, lgc_gt, lgc_ge, lgc_le, mrd_104, mrd_105, mrd_106, mrd_107, true_and, and_true, and_self, false_and, and_false, true_or, or_true, false_or, or_false, not_true_eq_false, not_false_eq_true, mgb, mga, mgr, mN, reduceCtorEq, ↓reduceIte, eq_self, ge_iff_le, gt_iff_lt, Nat.reduceAdd, Nat.reduceMul, Nat.reduceSub, Nat.reduceLT, Nat.reduceGT, Nat.reduceEqDiff, Nat.reduceLeDiff, Nat.left_eq_add, Nat.add_eq_left, Nat.reduceMod, Nat.reduceDiv, Nat.succ_ne_self, g, r6, g6, l6, u, nn_mxT, nn_clamp, nn_le, c', z0]
theorem l_329 (R : NTK h n m Bt K P U) (N : NMS h P U L) (hL : L.length < 8299) (hS : lsN U L ≤ 16400) (ht : t < m) (k2 : K t = 2) {k a : Nat} (hk : L[k]? = some a) (ha : a < m) (hU : U a = U t) : ∀ f i, i + f = U t → ∃ y, ∀ Q, mw d 329 Q 43 [some (.ref 81), some (.int (Int32.ofNat t)), some (.int (Int32.ofNat k)), some (.int 1), some (.int (Int32.ofNat i))] [] h = mw d 329 Q 101 [some (.ref 81), some (.int (Int32.ofNat t)), some (.int (Int32.ofNat k)), some (.int (kb (spz Bt n (P a) (P t) f i))), some (.int y)] [] h := by
  obtain ⟨hn, hm⟩ := R.n
  have g := R.F.g 81 14 70 (by decide +kernel)
  have r1 := R.F.f 81 1 82 (by decide +kernel)
  have g1 := R.F.g 82 100 16400 (by decide +kernel)
  have l1 := R.F.l 82 100 16400 (by decide +kernel)
  have r5 := R.F.f 81 5 84 (by decide +kernel)
  have g5 := R.F.g 84 100 16402 (by decide +kernel)
  have l5 := R.F.l 84 100 16402 (by decide +kernel)
  have r6 := R.F.f 81 6 85 (by decide +kernel)
  have g6 := R.F.g 85 100 16402 (by decide +kernel)
  have l6 := R.F.l 85 100 16402 (by decide +kernel)
  have r25 := R.F.f 81 25 98 (by decide +kernel)
  have g25 := R.F.g 98 100 16400 (by decide +kernel)
  have l25 := R.F.l 98 100 16400 (by decide +kernel)
  have r26 := R.F.f 81 26 99 (by decide +kernel)
  have g26 := R.F.g 99 100 8300 (by decide +kernel)
  have l26 := R.F.l 99 100 8300 (by decide +kernel)
  have u := R.u t ht k2
  have p := R.p t ht
  have hw := R.w t ht
  have hwa := R.w a ha
  have kl : k < L.length := by
    rcases Nat.lt_or_ge k L.length with z | z
    · exact z
    · rw [List.getElem?_eq_none z] at hk; cases hk
  have sk := N.s k (by omega)
  obtain ⟨tk1, tk2⟩ := ls_tk U L k a hk
  have e1' : ∀ k, Int32.ofNat k + 1 = Int32.ofNat (k + 1) := fun k => nn_add (a := k) (b := 1)
  have n1 : ((1 : Int32) = 0) = False := by decide
  intro f
  induction f with
  | zero =>
    intro i hi
    refine ⟨Int32.ofNat i, fun Q => ?_⟩
    have c' : (U t ≤ i) = True := eq_true (by omega)
    have k1 : kb (spz Bt n (P a) (P t) 0 i) = 1 := rfl
    rw [k1, s_329_43]
    clear R N
    simp (disch := omega) only [s_329_0, s_329_1, s_329_2, s_329_3, s_329_4, s_329_7, s_329_10, s_329_11, s_329_14, s_329_15, s_329_16, s_329_17, s_329_18, s_329_19, s_329_22, s_329_23, s_329_24, s_329_25, s_329_26, s_329_29, s_329_30, s_329_31, s_329_34, s_329_35, s_329_38, s_329_39, s_329_40, s_329_41, s_329_45, s_329_46, s_329_49, s_329_50, s_329_51, s_329_54, s_329_55, s_329_58, s_329_59, s_329_62, s_329_63, s_329_66, s_329_67, s_329_68, s_329_70, s_329_71, s_329_72, s_329_73, s_329_76, s_329_77, s_329_80, s_329_81, s_329_82, s_329_84, s_329_85, s_329_86, s_329_89, s_329_90, s_329_93, s_329_94, s_329_95, s_329_98, s_329_102, s_329_105, s_329_106, s_329_107, s_329_110, s_329_113, s_329_114, s_329_115, s_329_116, s_329_117, s_329_120, s_329_121, s_329_122, s_329_125, s_329_126, s_329_129, s_329_130, s_329_133, s_329_134, s_329_137, s_329_138, s_329_139, s_329_140, s_329_141, s_329_144, s_329_145, s_329_148, s_329_149, s_329_150, s_329_151, s_329_152, s_329_153, s_329_154, s_329_157, s_329_160, s_329_161, s_329_162, s_329_165, s_329_166, s_329_167, s_329_170, s_329_171, s_329_174, s_329_175, s_329_178, s_329_179, s_329_182, s_329_183, s_329_186, s_329_187, s_329_188, s_329_189, s_329_190, s_329_193, s_329_194, s_329_195, s_329_196, s_329_197, s_329_198, s_329_201, s_329_202, s_329_203, e_329, mv_i_1, mv_l_1, mv_a_1, mv_a_2, mv_a_3, mk2_n, mk2_i, mk2_l, mk2_a, mk2_u, mk2_x, mB_T, mB_F, mS_cons, mS_nil, mSB_T, mSB_F, mca_nil, mca_i, mca_l, mca_r, mca_u, mca_x, mcat_i, mcat_l, mcat_r, mcat_u, mcat_x, mK_some, mK_none, va_rf_s, va_rf_n, lgc_eq, lgc_lt, lgc_gt, lgc_ge, lgc_le, mrd_104, mrd_105, mrd_106, mrd_107, true_and, and_true, and_self, false_and, and_false, true_or, or_true, false_or, or_false, not_true_eq_false, not_false_eq_true, mgb, mga, mgr, mN, reduceCtorEq, ↓reduceIte, eq_self, ge_iff_le, gt_iff_lt, Nat.reduceAdd, Nat.reduceMul, Nat.reduceSub, Nat.reduceLT, Nat.reduceGT, Nat.reduceEqDiff, Nat.reduceLeDiff, Nat.left_eq_add, Nat.add_eq_left, Nat.reduceMod, Nat.reduceDiv, Nat.succ_ne_self, g, r6, g6, l6, u, nn_mxT, nn_clamp, nn_le, c']
  | succ f ih =>
    intro i hi
    have c' : (U t ≤ i) = False := eq_false (by omega)
    have ea : mh_i h 98 (lsN U (L.take k) + i) = Bt (P a + i) := (N.l k a hk i (by omega)).trans (R.b _ (by omega))
    have eb : mh_i h 82 (P t + i) = Bt (P t + i) := R.b _ (by omega)
    have b1 : bt Bt n (P a + i) = Bt (P a + i) := if_pos (by omega)
    have b2 : bt Bt n (P t + i) = Bt (P t + i) := if_pos (by omega)
    have es : spz Bt n (P a) (P t) (f + 1) i = if bt Bt n (P a + i) = bt Bt n (P t + i) then spz Bt n (P a) (P t) f (i + 1) else false := rfl
    rw [es, b1, b2]
    by_cases q : Bt (P a + i) = Bt (P t + i)
    · rw [if_pos q]
      obtain ⟨y, hy⟩ := ih (i + 1) (by omega)
      refine ⟨y, fun Q => ?_⟩
      rw [← hy Q]
      have q' := eq_true q
      clear hy ih R N es
      rw [s_329_43]
      simp (disch := omega) only [s_329_0, s_329_1, s_329_2, s_329_3, s_329_4, s_329_7, s_329_10, s_329_11, s_329_14, s_329_15, s_329_16, s_329_17, s_329_18, s_329_19, s_329_22, s_329_23, s_329_24, s_329_25, s_329_26, s_329_29, s_329_30, s_329_31, s_329_34, s_329_35, s_329_38, s_329_39, s_329_40, s_329_41, s_329_45, s_329_46, s_329_49, s_329_50, s_329_51, s_329_54, s_329_55, s_329_58, s_329_59, s_329_62, s_329_63, s_329_66, s_329_67, s_329_68, s_329_70, s_329_71, s_329_72, s_329_73, s_329_76, s_329_77, s_329_80, s_329_81, s_329_82, s_329_84, s_329_85, s_329_86, s_329_89, s_329_90, s_329_93, s_329_94, s_329_95, s_329_98, s_329_102, s_329_105, s_329_106, s_329_107, s_329_110, s_329_113, s_329_114, s_329_115, s_329_116, s_329_117, s_329_120, s_329_121, s_329_122, s_329_125, s_329_126, s_329_129, s_329_130, s_329_133, s_329_134, s_329_137, s_329_138, s_329_139, s_329_140, s_329_141, s_329_144, s_329_145, s_329_148, s_329_149, s_329_150, s_329_151, s_329_152, s_329_153, s_329_154, s_329_157, s_329_160, s_329_161, s_329_162, s_329_165, s_329_166, s_329_167, s_329_170, s_329_171, s_329_174, s_329_175, s_329_178, s_329_179, s_329_182, s_329_183, s_329_186, s_329_187, s_329_188, s_329_189, s_329_190, s_329_193, s_329_194, s_329_195, s_329_196, s_329_197, s_329_198, s_329_201, s_329_202, s_329_203, e_329, mv_i_1, mv_l_1, mv_a_1, mv_a_2, mv_a_3, mk2_n, mk2_i, mk2_l, mk2_a, mk2_u, mk2_x, mB_T, mB_F, mS_cons, mS_nil, mSB_T, mSB_F, mca_nil, mca_i, mca_l, mca_r, mca_u, mca_x, mcat_i, mcat_l, mcat_r, mcat_u, mcat_x, mK_some, mK_none, va_rf_s, va_rf_n, lgc_eq, lgc_lt, lgc_gt, lgc_ge, lgc_le, mrd_104, mrd_105, mrd_106, mrd_107, true_and, and_true, and_self, false_and, and_false, true_or, or_true, false_or, or_false, not_true_eq_false, not_false_eq_true, mgb, mga, mgr, mN, reduceCtorEq, ↓reduceIte, eq_self, ge_iff_le, gt_iff_lt, Nat.reduceAdd, Nat.reduceMul, Nat.reduceSub, Nat.reduceLT, Nat.reduceGT, Nat.reduceEqDiff, Nat.reduceLeDiff, Nat.left_eq_add, Nat.add_eq_left, Nat.reduceMod, Nat.reduceDiv, Nat.succ_ne_self, g, r1, g1, l1, r5, g5, l5, r6, g6, l6, r25, g25, l25, r26, g26, l26, u, p, sk, nn_mxT, nn_clamp, nn_le, nn_add, c', n1, ea, eb, q', e1']
    · rw [if_neg q]
      refine ⟨Int32.ofNat (i + 1), fun Q => ?_⟩
      have zz := z_329 (d := d) R ht k2 (x2 := some (.int (Int32.ofNat k))) (i := i + 1) (by omega) Q
      have k0 : kb false = 0 := rfl
      rw [k0, ← zz]
      have q' := eq_false q
      clear ih R N zz es
      rw [s_329_43]
      simp (disch := omega) only [s_329_0, s_329_1, s_329_2, s_329_3, s_329_4, s_329_7, s_329_10, s_329_11, s_329_14, s_329_15, s_329_16, s_329_17, s_329_18, s_329_19, s_329_22, s_329_23, s_329_24, s_329_25, s_329_26, s_329_29, s_329_30, s_329_31, s_329_34, s_329_35, s_329_38, s_329_39, s_329_40, s_329_41, s_329_45, s_329_46, s_329_49, s_329_50, s_329_51, s_329_54, s_329_55, s_329_58, s_329_59, s_329_62, s_329_63, s_329_66, s_329_67, s_329_68, s_329_70, s_329_71, s_329_72, s_329_73, s_329_76, s_329_77, s_329_80, s_329_81, s_329_82, s_329_84, s_329_85, s_329_86, s_329_89, s_329_90, s_329_93, s_329_94, s_329_95, s_329_98, s_329_102, s_329_105, s_329_106, s_329_107, s_329_110, s_329_113, s_329_114, s_329_115, s_329_116, s_329_117, s_329_120, s_329_121, s_329_122, s_329_125, s_329_126, s_329_129, s_329_130, s_329_133, s_329_134, s_329_137, s_329_138, s_329_139, s_329_140, s_329_141, s_329_144, s_329_145, s_329_148, s_329_149, s_329_150, s_329_151, s_329_152, s_329_153, s_329_154, s_329_157, s_329_160, s_329_161, s_329_162, s_329_165, s_329_166, s_329_167, s_329_170, s_329_171, s_329_174, s_329_175, s_329_178, s_329_179, s_329_182, s_329_183, s_329_186, s_329_187, s_329_188, s_329_189, s_329_190, s_329_193, s_329_194, s_329_195, s_329_196, s_329_197, s_329_198, s_329_201, s_329_202, s_329_203, e_329, mv_i_1, mv_l_1, mv_a_1, mv_a_2, mv_a_3, mk2_n, mk2_i, mk2_l, mk2_a, mk2_u, mk2_x, mB_T, mB_F, mS_cons, mS_nil, mSB_T, mSB_F, mca_nil, mca_i, mca_l, mca_r, mca_u, mca_x, mcat_i, mcat_l, mcat_r, mcat_u, mcat_x, mK_some, mK_none, va_rf_s, va_rf_n, lgc_eq, lgc_lt, lgc_gt, lgc_ge, lgc_le, mrd_104, mrd_105, mrd_106, mrd_107, true_and, and_true, and_self, false_and, and_false, true_or, or_true, false_or, or_false, not_true_eq_false, not_false_eq_true, mgb, mga, mgr, mN, reduceCtorEq, ↓reduceIte, eq_self, ge_iff_le, gt_iff_lt, Nat.reduceAdd, Nat.reduceMul, Nat.reduceSub, Nat.reduceLT, Nat.reduceGT, Nat.reduceEqDiff, Nat.reduceLeDiff, Nat.left_eq_add, Nat.add_eq_left, Nat.reduceMod, Nat.reduceDiv, Nat.succ_ne_self, g, r1, g1, l1, r5, g5, l5, r6, g6, l6, r25, g25, l25, r26, g26, l26, u, p, sk, nn_mxT, nn_clamp, nn_le, nn_add, c', n1, ea, eb, q', e1']
theorem dr_s {L : List Nat} {k : Nat} (h : k < L.length) : ∃ a, L[k]? = some a ∧ L.drop k = a :: L.drop (k + 1) := by
  refine ⟨L[k], List.getElem?_eq_getElem h, ?_⟩
  exact List.drop_eq_getElem_cons h
theorem o_329 (R : NTK h n m Bt K P U) (N : NMS h P U L) (hL : L.length < 8299) (hS : lsN U L ≤ 16400) (hA : ∀ a, a ∈ L → a < m) (ht : t < m) (k2 : K t = 2) : ∀ f k x3 x4, k + f = L.length → ∃ y3 y4, ∀ Q, mw d 329 Q 2 [some (.ref 81), some (.int (Int32.ofNat t)), some (.int (Int32.ofNat k)), x3, x4] [] h = if nix (spe Bt n P U) (L.drop k) t < (L.drop k).length then Q (some (.int (Int32.ofNat (k + nix (spe Bt n P U) (L.drop k) t)))) h else mw d 329 Q 113 [some (.ref 81), some (.int (Int32.ofNat t)), some (.int (Int32.ofNat L.length)), y3, y4] [] h := by
  obtain ⟨hn, hm⟩ := R.n
  have g := R.F.g 81 14 70 (by decide +kernel)
  have r6 := R.F.f 81 6 85 (by decide +kernel)
  have g6 := R.F.g 85 100 16402 (by decide +kernel)
  have l6 := R.F.l 85 100 16402 (by decide +kernel)
  have r26 := R.F.f 81 26 99 (by decide +kernel)
  have g26 := R.F.g 99 100 8300 (by decide +kernel)
  have l26 := R.F.l 99 100 8300 (by decide +kernel)
  have c27 := N.c
  have u := R.u t ht k2
  have hw := R.w t ht
  have e1' : ∀ k, Int32.ofNat k + 1 = Int32.ofNat (k + 1) := fun k => nn_add (a := k) (b := 1)
  have n1 : ((1 : Int32) = 0) = False := by decide
  have z0 : ((0 : Int32) = 0) = True := eq_true rfl
  intro f
  induction f with
  | zero =>
    intro k x3 x4 hk
    refine ⟨x3, x4, fun Q => ?_⟩
    rw [List.drop_eq_nil_of_le (by omega), if_neg (show ¬ nix (spe Bt n P U) [] t < ([] : List Nat).length from Nat.not_lt_zero _)]
    have ek : k = L.length := by omega
    subst ek
    have c' : (L.length ≤ L.length) = True := eq_true (Nat.le_refl _)
    clear R N
    rw [s_329_2]
    simp (disch := omega) only [s_329_0, s_329_1, s_329_3, s_329_4, s_329_7, s_329_10, s_329_11, s_329_14, s_329_15, s_329_16, s_329_17, s_329_18, s_329_19, s_329_22, s_329_23, s_329_24, s_329_25, s_329_26, s_329_29, s_329_30, s_329_31, s_329_34, s_329_35, s_329_38, s_329_39, s_329_40, s_329_41, s_329_43, s_329_45, s_329_46, s_329_49, s_329_50, s_329_51, s_329_54, s_329_55, s_329_58, s_329_59, s_329_62, s_329_63, s_329_66, s_329_67, s_329_68, s_329_70, s_329_71, s_329_72, s_329_73, s_329_76, s_329_77, s_329_80, s_329_81, s_329_82, s_329_84, s_329_85, s_329_86, s_329_89, s_329_90, s_329_93, s_329_94, s_329_95, s_329_98, s_329_101, s_329_102, s_329_105, s_329_106, s_329_107, s_329_110, s_329_114, s_329_115, s_329_116, s_329_117, s_329_120, s_329_121, s_329_122, s_329_125, s_329_126, s_329_129, s_329_130, s_329_133, s_329_134, s_329_137, s_329_138, s_329_139, s_329_140, s_329_141, s_329_144, s_329_145, s_329_148, s_329_149, s_329_150, s_329_151, s_329_152, s_329_153, s_329_154, s_329_157, s_329_160, s_329_161, s_329_162, s_329_165, s_329_166, s_329_167, s_329_170, s_329_171, s_329_174, s_329_175, s_329_178, s_329_179, s_329_182, s_329_183, s_329_186, s_329_187, s_329_188, s_329_189, s_329_190, s_329_193, s_329_194, s_329_195, s_329_196, s_329_197, s_329_198, s_329_201, s_329_202, s_329_203, e_329, mv_i_1, mv_l_1, mv_a_1, mv_a_2, mv_a_3, mk2_n, mk2_i, mk2_l, mk2_a, mk2_u, mk2_x, mB_T, mB_F, mS_cons, mS_nil, mSB_T, mSB_F, mca_nil, mca_i, mca_l, mca_r, mca_u, mca_x, mcat_i, mcat_l, mcat_r, mcat_u, mcat_x, mK_some, mK_none, va_rf_s, va_rf_n, lgc_eq, lgc_lt, lgc_gt, lgc_ge, lgc_le, mrd_104, mrd_105, mrd_106, mrd_107, true_and, and_true, and_self, false_and, and_false, true_or, or_true, false_or, or_false, not_true_eq_false, not_false_eq_true, mgb, mga, mgr, mN, reduceCtorEq, ↓reduceIte, eq_self, ge_iff_le, gt_iff_lt, Nat.reduceAdd, Nat.reduceMul, Nat.reduceSub, Nat.reduceLT, Nat.reduceGT, Nat.reduceEqDiff, Nat.reduceLeDiff, Nat.left_eq_add, Nat.add_eq_left, Nat.reduceMod, Nat.reduceDiv, Nat.succ_ne_self, g, c27, nn_le, c']
  | succ f ih =>
    intro k x3 x4 hk
    obtain ⟨a, ha, hd⟩ := dr_s (L := L) (k := k) (by omega)
    have am : a < m := hA a (List.mem_of_getElem? ha)
    have hwa := R.w a am
    have sk := N.s k (by omega)
    have sk1 := N.s (k + 1) (by omega)
    obtain ⟨tk1, tk2⟩ := ls_tk U L k a ha
    rw [tk1] at sk1
    have es : Int32.ofNat (lsN U (L.take k) + U a) - Int32.ofNat (lsN U (L.take k)) = Int32.ofNat (U a) := by
      rw [nn_sub (by omega)]
      congr 1
      omega
    have c' : (L.length ≤ k) = False := eq_false (by omega)
    rw [hd]
    have en : nix (spe Bt n P U) (a :: L.drop (k + 1)) t = if spe Bt n P U a t = true then 0 else nix (spe Bt n P U) (L.drop (k + 1)) t + 1 := rfl
    have el : (a :: L.drop (k + 1)).length = (L.drop (k + 1)).length + 1 := rfl
    have esp : spe Bt n P U a t = if U a = U t then spz Bt n (P a) (P t) (U a) 0 else false := rfl
    rw [en, el]
    have eU : (Int32.ofNat (U a) = Int32.ofNat (U t)) = (U a = U t) := nn_eq (by omega) (by omega)
    have nxt : ∀ x3' x4', ¬ spe Bt n P U a t = true → (∀ Q, mw d 329 Q 2 [some (.ref 81), some (.int (Int32.ofNat t)), some (.int (Int32.ofNat k)), x3, x4] [] h = mw d 329 Q 2 [some (.ref 81), some (.int (Int32.ofNat t)), some (.int (Int32.ofNat (k + 1))), x3', x4'] [] h) → ∃ y3 y4, ∀ Q, mw d 329 Q 2 [some (.ref 81), some (.int (Int32.ofNat t)), some (.int (Int32.ofNat k)), x3, x4] [] h = if (if spe Bt n P U a t = true then 0 else nix (spe Bt n P U) (L.drop (k + 1)) t + 1) < (L.drop (k + 1)).length + 1 then Q (some (.int (Int32.ofNat (k + (if spe Bt n P U a t = true then 0 else nix (spe Bt n P U) (L.drop (k + 1)) t + 1))))) h else mw d 329 Q 113 [some (.ref 81), some (.int (Int32.ofNat t)), some (.int (Int32.ofNat L.length)), y3, y4] [] h := fun x3' x4' ne st => by
      obtain ⟨y3, y4, hy⟩ := ih (k + 1) x3' x4' (by omega)
      refine ⟨y3, y4, fun Q => ?_⟩
      rw [st Q, hy Q, if_neg ne]
      by_cases c : nix (spe Bt n P U) (L.drop (k + 1)) t < (L.drop (k + 1)).length
      · rw [if_pos c, if_pos (by omega), show k + 1 + nix (spe Bt n P U) (L.drop (k + 1)) t = k + (nix (spe Bt n P U) (L.drop (k + 1)) t + 1) from by omega]
      · rw [if_neg c, if_neg (by omega)]
    by_cases q : U a = U t
    · obtain ⟨y, hy⟩ := l_329 (d := d) R N hL hS ht k2 ha am q (U t) 0 (by omega)
      have i0 : Int32.ofNat 0 = 0 := rfl
      rw [i0] at hy
      rw [if_pos q, q] at esp
      have q' := eU.trans (eq_true q)
      cases hz : spz Bt n (P a) (P t) (U t) 0 with
      | true =>
        rw [hz] at hy esp
        have k1 : kb true = 1 := rfl
        rw [k1] at hy
        refine ⟨none, none, fun Q => ?_⟩
        rw [if_pos esp, if_pos (Nat.succ_pos _), Nat.add_zero]
        have hyQ := hy Q
        clear R N hy nxt ih hz
        rw [s_329_2]
        simp (disch := omega) only [s_329_0, s_329_1, s_329_3, s_329_4, s_329_7, s_329_10, s_329_11, s_329_14, s_329_15, s_329_16, s_329_17, s_329_18, s_329_19, s_329_22, s_329_23, s_329_24, s_329_25, s_329_26, s_329_29, s_329_30, s_329_31, s_329_34, s_329_35, s_329_38, s_329_39, s_329_40, s_329_41, s_329_45, s_329_46, s_329_49, s_329_50, s_329_51, s_329_54, s_329_55, s_329_58, s_329_59, s_329_62, s_329_63, s_329_66, s_329_67, s_329_68, s_329_70, s_329_71, s_329_72, s_329_73, s_329_76, s_329_77, s_329_80, s_329_81, s_329_82, s_329_84, s_329_85, s_329_86, s_329_89, s_329_90, s_329_93, s_329_94, s_329_95, s_329_98, s_329_101, s_329_102, s_329_105, s_329_106, s_329_107, s_329_110, s_329_113, s_329_114, s_329_115, s_329_116, s_329_117, s_329_120, s_329_121, s_329_122, s_329_125, s_329_126, s_329_129, s_329_130, s_329_133, s_329_134, s_329_137, s_329_138, s_329_139, s_329_140, s_329_141, s_329_144, s_329_145, s_329_148, s_329_149, s_329_150, s_329_151, s_329_152, s_329_153, s_329_154, s_329_157, s_329_160, s_329_161, s_329_162, s_329_165, s_329_166, s_329_167, s_329_170, s_329_171, s_329_174, s_329_175, s_329_178, s_329_179, s_329_182, s_329_183, s_329_186, s_329_187, s_329_188, s_329_189, s_329_190, s_329_193, s_329_194, s_329_195, s_329_196, s_329_197, s_329_198, s_329_201, s_329_202, s_329_203, e_329, mv_i_1, mv_l_1, mv_a_1, mv_a_2, mv_a_3, mk2_n, mk2_i, mk2_l, mk2_a, mk2_u, mk2_x, mB_T, mB_F, mS_cons, mS_nil, mSB_T, mSB_F, mca_nil, mca_i, mca_l, mca_r, mca_u, mca_x, mcat_i, mcat_l, mcat_r, mcat_u, mcat_x, mK_some, mK_none, va_rf_s, va_rf_n, lgc_eq, lgc_lt, lgc_gt, lgc_ge, lgc_le, mrd_104, mrd_105, mrd_106, mrd_107, true_and, and_true, and_self, false_and, and_false, true_or, or_true, false_or, or_false, not_true_eq_false, not_false_eq_true, mgb, mga, mgr, mN, reduceCtorEq, ↓reduceIte, eq_self, ge_iff_le, gt_iff_lt, Nat.reduceAdd, Nat.reduceMul, Nat.reduceSub, Nat.reduceLT, Nat.reduceGT, Nat.reduceEqDiff, Nat.reduceLeDiff, Nat.left_eq_add, Nat.add_eq_left, Nat.reduceMod, Nat.reduceDiv, Nat.succ_ne_self, g, r6, g6, l6, r26, g26, l26, c27, u, sk, sk1, es, q', nn_mxT, nn_clamp, nn_le, c', e1', hyQ, n1]
      | false =>
        rw [hz] at hy esp
        have k0 : kb false = 0 := rfl
        rw [k0] at hy
        refine nxt (some (.int 0)) (some (.int y)) (fun z => by rw [esp] at z; cases z) (fun Q => ?_)
        have hyQ := hy Q
        clear R N hy nxt ih hz
        rw [s_329_2]
        simp (disch := omega) only [s_329_0, s_329_1, s_329_3, s_329_4, s_329_7, s_329_10, s_329_11, s_329_14, s_329_15, s_329_16, s_329_17, s_329_18, s_329_19, s_329_22, s_329_23, s_329_24, s_329_25, s_329_26, s_329_29, s_329_30, s_329_31, s_329_34, s_329_35, s_329_38, s_329_39, s_329_40, s_329_41, s_329_45, s_329_46, s_329_49, s_329_50, s_329_51, s_329_54, s_329_55, s_329_58, s_329_59, s_329_62, s_329_63, s_329_66, s_329_67, s_329_68, s_329_70, s_329_71, s_329_72, s_329_73, s_329_76, s_329_77, s_329_80, s_329_81, s_329_82, s_329_84, s_329_85, s_329_86, s_329_89, s_329_90, s_329_93, s_329_94, s_329_95, s_329_98, s_329_101, s_329_102, s_329_105, s_329_106, s_329_107, s_329_110, s_329_113, s_329_114, s_329_115, s_329_116, s_329_117, s_329_120, s_329_121, s_329_122, s_329_125, s_329_126, s_329_129, s_329_130, s_329_133, s_329_134, s_329_137, s_329_138, s_329_139, s_329_140, s_329_141, s_329_144, s_329_145, s_329_148, s_329_149, s_329_150, s_329_151, s_329_152, s_329_153, s_329_154, s_329_157, s_329_160, s_329_161, s_329_162, s_329_165, s_329_166, s_329_167, s_329_170, s_329_171, s_329_174, s_329_175, s_329_178, s_329_179, s_329_182, s_329_183, s_329_186, s_329_187, s_329_188, s_329_189, s_329_190, s_329_193, s_329_194, s_329_195, s_329_196, s_329_197, s_329_198, s_329_201, s_329_202, s_329_203, e_329, mv_i_1, mv_l_1, mv_a_1, mv_a_2, mv_a_3, mk2_n, mk2_i, mk2_l, mk2_a, mk2_u, mk2_x, mB_T, mB_F, mS_cons, mS_nil, mSB_T, mSB_F, mca_nil, mca_i, mca_l, mca_r, mca_u, mca_x, mcat_i, mcat_l, mcat_r, mcat_u, mcat_x, mK_some, mK_none, va_rf_s, va_rf_n, lgc_eq, lgc_lt, lgc_gt, lgc_ge, lgc_le, mrd_104, mrd_105, mrd_106, mrd_107, true_and, and_true, and_self, false_and, and_false, true_or, or_true, false_or, or_false, not_true_eq_false, not_false_eq_true, mgb, mga, mgr, mN, reduceCtorEq, ↓reduceIte, eq_self, ge_iff_le, gt_iff_lt, Nat.reduceAdd, Nat.reduceMul, Nat.reduceSub, Nat.reduceLT, Nat.reduceGT, Nat.reduceEqDiff, Nat.reduceLeDiff, Nat.left_eq_add, Nat.add_eq_left, Nat.reduceMod, Nat.reduceDiv, Nat.succ_ne_self, g, r6, g6, l6, r26, g26, l26, c27, u, sk, sk1, es, q', nn_mxT, nn_clamp, nn_le, c', e1', hyQ, z0]
    · rw [if_neg q] at esp
      have q' := eU.trans (eq_false q)
      have zz := z_329 (d := d) R ht k2 (x2 := some (.int (Int32.ofNat k))) (i := 0) (by omega)
      have i0 : Int32.ofNat 0 = 0 := rfl
      rw [i0] at zz
      refine nxt (some (.int 0)) (some (.int 0)) (fun z => by rw [esp] at z; cases z) (fun Q => ?_)
      have hyQ := zz Q
      clear R N zz nxt ih
      rw [s_329_2]
      simp (disch := omega) only [s_329_0, s_329_1, s_329_3, s_329_4, s_329_7, s_329_10, s_329_11, s_329_14, s_329_15, s_329_16, s_329_17, s_329_18, s_329_19, s_329_22, s_329_23, s_329_24, s_329_25, s_329_26, s_329_29, s_329_30, s_329_31, s_329_34, s_329_35, s_329_38, s_329_39, s_329_40, s_329_41, s_329_45, s_329_46, s_329_49, s_329_50, s_329_51, s_329_54, s_329_55, s_329_58, s_329_59, s_329_62, s_329_63, s_329_66, s_329_67, s_329_68, s_329_70, s_329_71, s_329_72, s_329_73, s_329_76, s_329_77, s_329_80, s_329_81, s_329_82, s_329_84, s_329_85, s_329_86, s_329_89, s_329_90, s_329_93, s_329_94, s_329_95, s_329_98, s_329_101, s_329_102, s_329_105, s_329_106, s_329_107, s_329_110, s_329_113, s_329_114, s_329_115, s_329_116, s_329_117, s_329_120, s_329_121, s_329_122, s_329_125, s_329_126, s_329_129, s_329_130, s_329_133, s_329_134, s_329_137, s_329_138, s_329_139, s_329_140, s_329_141, s_329_144, s_329_145, s_329_148, s_329_149, s_329_150, s_329_151, s_329_152, s_329_153, s_329_154, s_329_157, s_329_160, s_329_161, s_329_162, s_329_165, s_329_166, s_329_167, s_329_170, s_329_171, s_329_174, s_329_175, s_329_178, s_329_179, s_329_182, s_329_183, s_329_186, s_329_187, s_329_188, s_329_189, s_329_190, s_329_193, s_329_194, s_329_195, s_329_196, s_329_197, s_329_198, s_329_201, s_329_202, s_329_203, e_329, mv_i_1, mv_l_1, mv_a_1, mv_a_2, mv_a_3, mk2_n, mk2_i, mk2_l, mk2_a, mk2_u, mk2_x, mB_T, mB_F, mS_cons, mS_nil, mSB_T, mSB_F, mca_nil, mca_i, mca_l, mca_r, mca_u, mca_x, mcat_i, mcat_l, mcat_r, mcat_u, mcat_x, mK_some, mK_none, va_rf_s, va_rf_n, lgc_eq, lgc_lt, lgc_gt, lgc_ge, lgc_le, mrd_104, mrd_105, mrd_106, mrd_107, true_and, and_true, and_self, false_and, and_false, true_or, or_true, false_or, or_false, not_true_eq_false, not_false_eq_true, mgb, mga, mgr, mN, reduceCtorEq, ↓reduceIte, eq_self, ge_iff_le, gt_iff_lt, Nat.reduceAdd, Nat.reduceMul, Nat.reduceSub, Nat.reduceLT, Nat.reduceGT, Nat.reduceEqDiff, Nat.reduceLeDiff, Nat.left_eq_add, Nat.add_eq_left, Nat.reduceMod, Nat.reduceDiv, Nat.succ_ne_self, g, r6, g6, l6, r26, g26, l26, c27, u, sk, sk1, es, q', nn_mxT, nn_clamp, nn_le, c', e1', hyQ, z0]
theorem k_329 (R : NTK h n m Bt K P U) (N : NMS h P U L) (hL : L.length < 8299) (hS : lsN U L + U t ≤ 16400) (ht : t < m) (k2 : K t = 2) {y3 y4 : Option Value} : ∀ f i, i + f = U t → ∀ Q, mw d 329 Q 115 [some (.ref 81), some (.int (Int32.ofNat t)), some (.int (Int32.ofNat i)), y3, y4] [] (icp h (P t) (lsN U L) i) = mw d 329 Q 160 [some (.ref 81), some (.int (Int32.ofNat t)), some (.int (Int32.ofNat (U t))), y3, y4] [] (icp h (P t) (lsN U L) (U t)) := by
  obtain ⟨hn, hm⟩ := R.n
  have g := R.F.g 81 14 70 (by decide +kernel)
  have r1 := R.F.f 81 1 82 (by decide +kernel)
  have g1 := R.F.g 82 100 16400 (by decide +kernel)
  have l1 := R.F.l 82 100 16400 (by decide +kernel)
  have r5 := R.F.f 81 5 84 (by decide +kernel)
  have g5 := R.F.g 84 100 16402 (by decide +kernel)
  have l5 := R.F.l 84 100 16402 (by decide +kernel)
  have r6 := R.F.f 81 6 85 (by decide +kernel)
  have g6 := R.F.g 85 100 16402 (by decide +kernel)
  have l6 := R.F.l 85 100 16402 (by decide +kernel)
  have r25 := R.F.f 81 25 98 (by decide +kernel)
  have g25 := R.F.g 98 100 16400 (by decide +kernel)
  have l25 := R.F.l 98 100 16400 (by decide +kernel)
  have r26 := R.F.f 81 26 99 (by decide +kernel)
  have g26 := R.F.g 99 100 8300 (by decide +kernel)
  have l26 := R.F.l 99 100 8300 (by decide +kernel)
  have c27 := N.c
  have u := R.u t ht k2
  have p := R.p t ht
  have hw := R.w t ht
  have sk := N.s L.length (Nat.le_refl _)
  rw [List.take_length] at sk
  have e1' : ∀ k, Int32.ofNat k + 1 = Int32.ofNat (k + 1) := fun k => nn_add (a := k) (b := 1)
  intro f
  induction f with
  | zero =>
    intro i hi Q
    have ei : i = U t := by omega
    subst ei
    have c' : (U t ≤ U t) = True := eq_true (Nat.le_refl _)
    clear R N
    rw [s_329_115]
    simp (disch := omega) only [s_329_0, s_329_1, s_329_2, s_329_3, s_329_4, s_329_7, s_329_10, s_329_11, s_329_14, s_329_15, s_329_16, s_329_17, s_329_18, s_329_19, s_329_22, s_329_23, s_329_24, s_329_25, s_329_26, s_329_29, s_329_30, s_329_31, s_329_34, s_329_35, s_329_38, s_329_39, s_329_40, s_329_41, s_329_43, s_329_45, s_329_46, s_329_49, s_329_50, s_329_51, s_329_54, s_329_55, s_329_58, s_329_59, s_329_62, s_329_63, s_329_66, s_329_67, s_329_68, s_329_70, s_329_71, s_329_72, s_329_73, s_329_76, s_329_77, s_329_80, s_329_81, s_329_82, s_329_84, s_329_85, s_329_86, s_329_89, s_329_90, s_329_93, s_329_94, s_329_95, s_329_98, s_329_101, s_329_102, s_329_105, s_329_106, s_329_107, s_329_110, s_329_113, s_329_114, s_329_116, s_329_117, s_329_120, s_329_121, s_329_122, s_329_125, s_329_126, s_329_129, s_329_130, s_329_133, s_329_134, s_329_137, s_329_138, s_329_139, s_329_140, s_329_141, s_329_144, s_329_145, s_329_148, s_329_149, s_329_150, s_329_151, s_329_152, s_329_153, s_329_154, s_329_157, s_329_161, s_329_162, s_329_165, s_329_166, s_329_167, s_329_170, s_329_171, s_329_174, s_329_175, s_329_178, s_329_179, s_329_182, s_329_183, s_329_186, s_329_187, s_329_188, s_329_189, s_329_190, s_329_193, s_329_194, s_329_195, s_329_196, s_329_197, s_329_198, s_329_201, s_329_202, s_329_203, e_329, mv_i_1, mv_l_1, mv_a_1, mv_a_2, mv_a_3, mk2_n, mk2_i, mk2_l, mk2_a, mk2_u, mk2_x, mB_T, mB_F, mS_cons, mS_nil, mSB_T, mSB_F, mca_nil, mca_i, mca_l, mca_r, mca_u, mca_x, mcat_i, mcat_l, mcat_r, mcat_u, mcat_x, mK_some, mK_none, va_rf_s, va_rf_n, lgc_eq, lgc_lt, lgc_gt, lgc_ge, lgc_le, mrd_104, mrd_105, mrd_106, mrd_107, true_and, and_true, and_self, false_and, and_false, true_or, or_true, false_or, or_false, not_true_eq_false, not_false_eq_true, mgb, mga, mgr, mN, reduceCtorEq, ↓reduceIte, eq_self, ge_iff_le, gt_iff_lt, Nat.reduceAdd, Nat.reduceMul, Nat.reduceSub, Nat.reduceLT, Nat.reduceGT, Nat.reduceEqDiff, Nat.reduceLeDiff, Nat.left_eq_add, Nat.add_eq_left, Nat.reduceMod, Nat.reduceDiv, Nat.succ_ne_self, ic_g, ic_r, ic_l, ic_i, g, r6, g6, l6, u, nn_mxT, nn_clamp, nn_le, c']
  | succ f ih =>
    intro i hi Q
    rw [← ih (i + 1) (by omega) Q]
    have c' : (U t ≤ i) = False := eq_false (by omega)
    have es := ic_s (h := h) (p := P t) (S := lsN U L) (i := i)
    clear R N ih
    rw [s_329_115]
    simp (disch := omega) only [s_329_0, s_329_1, s_329_2, s_329_3, s_329_4, s_329_7, s_329_10, s_329_11, s_329_14, s_329_15, s_329_16, s_329_17, s_329_18, s_329_19, s_329_22, s_329_23, s_329_24, s_329_25, s_329_26, s_329_29, s_329_30, s_329_31, s_329_34, s_329_35, s_329_38, s_329_39, s_329_40, s_329_41, s_329_43, s_329_45, s_329_46, s_329_49, s_329_50, s_329_51, s_329_54, s_329_55, s_329_58, s_329_59, s_329_62, s_329_63, s_329_66, s_329_67, s_329_68, s_329_70, s_329_71, s_329_72, s_329_73, s_329_76, s_329_77, s_329_80, s_329_81, s_329_82, s_329_84, s_329_85, s_329_86, s_329_89, s_329_90, s_329_93, s_329_94, s_329_95, s_329_98, s_329_101, s_329_102, s_329_105, s_329_106, s_329_107, s_329_110, s_329_113, s_329_114, s_329_116, s_329_117, s_329_120, s_329_121, s_329_122, s_329_125, s_329_126, s_329_129, s_329_130, s_329_133, s_329_134, s_329_137, s_329_138, s_329_139, s_329_140, s_329_141, s_329_144, s_329_145, s_329_148, s_329_149, s_329_150, s_329_151, s_329_152, s_329_153, s_329_154, s_329_157, s_329_161, s_329_162, s_329_165, s_329_166, s_329_167, s_329_170, s_329_171, s_329_174, s_329_175, s_329_178, s_329_179, s_329_182, s_329_183, s_329_186, s_329_187, s_329_188, s_329_189, s_329_190, s_329_193, s_329_194, s_329_195, s_329_196, s_329_197, s_329_198, s_329_201, s_329_202, s_329_203, e_329, mv_i_1, mv_l_1, mv_a_1, mv_a_2, mv_a_3, mk2_n, mk2_i, mk2_l, mk2_a, mk2_u, mk2_x, mB_T, mB_F, mS_cons, mS_nil, mSB_T, mSB_F, mca_nil, mca_i, mca_l, mca_r, mca_u, mca_x, mcat_i, mcat_l, mcat_r, mcat_u, mcat_x, mK_some, mK_none, va_rf_s, va_rf_n, lgc_eq, lgc_lt, lgc_gt, lgc_ge, lgc_le, mrd_104, mrd_105, mrd_106, mrd_107, true_and, and_true, and_self, false_and, and_false, true_or, or_true, false_or, or_false, not_true_eq_false, not_false_eq_true, mgb, mga, mgr, mN, reduceCtorEq, ↓reduceIte, eq_self, ge_iff_le, gt_iff_lt, Nat.reduceAdd, Nat.reduceMul, Nat.reduceSub, Nat.reduceLT, Nat.reduceGT, Nat.reduceEqDiff, Nat.reduceLeDiff, Nat.left_eq_add, Nat.add_eq_left, Nat.reduceMod, Nat.reduceDiv, Nat.succ_ne_self, ic_g, ic_r, ic_l, ic_i, g, r1, g1, l1, r5, g5, l5, r6, g6, l6, r25, g25, l25, r26, g26, l26, c27, u, p, sk, nn_mxT, nn_clamp, nn_le, nn_add, c', es, e1']
theorem u_329 (R : NTK h n m Bt K P U) (N : NMS h P U L) (hL : L.length < 8299) (hS : lsN U (nad (spe Bt n P U) L t) ≤ 16400) (hA : ∀ a, a ∈ L → a < m) (ht : t < m) (k2 : K t = 2) : ∃ h', fG nmWr h h' ∧ NMS h' P U (nad (spe Bt n P U) L t) ∧ ∀ Q, mcall d 329 [.ref 81, .int (Int32.ofNat t)] h Q = Q (some (.int (Int32.ofNat (nix (spe Bt n P U) L t)))) h' := by
  have hl0 : lsN U L ≤ 16400 := by
    unfold nad at hS
    split at hS
    · exact hS
    · rw [ls_app] at hS; omega
  obtain ⟨y3, y4, hy⟩ := o_329 (d := d) R N hL hl0 hA ht k2 L.length 0 none none (by omega)
  rw [List.drop_zero] at hy
  have i0 : Int32.ofNat 0 = 0 := rfl
  rw [i0] at hy
  unfold nad at hS ⊢
  by_cases c : nix (spe Bt n P U) L t < L.length
  · rw [if_pos c]
    refine ⟨h, fG_id, N, fun Q => ?_⟩
    have hyQ := hy Q
    rw [if_pos c, Nat.zero_add] at hyQ
    clear R N hy hS
    simp (disch := omega) only [s_329_0, s_329_1, s_329_3, s_329_4, s_329_7, s_329_10, s_329_11, s_329_14, s_329_15, s_329_16, s_329_17, s_329_18, s_329_19, s_329_22, s_329_23, s_329_24, s_329_25, s_329_26, s_329_29, s_329_30, s_329_31, s_329_34, s_329_35, s_329_38, s_329_39, s_329_40, s_329_41, s_329_43, s_329_45, s_329_46, s_329_49, s_329_50, s_329_51, s_329_54, s_329_55, s_329_58, s_329_59, s_329_62, s_329_63, s_329_66, s_329_67, s_329_68, s_329_70, s_329_71, s_329_72, s_329_73, s_329_76, s_329_77, s_329_80, s_329_81, s_329_82, s_329_84, s_329_85, s_329_86, s_329_89, s_329_90, s_329_93, s_329_94, s_329_95, s_329_98, s_329_101, s_329_102, s_329_105, s_329_106, s_329_107, s_329_110, s_329_113, s_329_114, s_329_115, s_329_116, s_329_117, s_329_120, s_329_121, s_329_122, s_329_125, s_329_126, s_329_129, s_329_130, s_329_133, s_329_134, s_329_137, s_329_138, s_329_139, s_329_140, s_329_141, s_329_144, s_329_145, s_329_148, s_329_149, s_329_150, s_329_151, s_329_152, s_329_153, s_329_154, s_329_157, s_329_160, s_329_161, s_329_162, s_329_165, s_329_166, s_329_167, s_329_170, s_329_171, s_329_174, s_329_175, s_329_178, s_329_179, s_329_182, s_329_183, s_329_186, s_329_187, s_329_188, s_329_189, s_329_190, s_329_193, s_329_194, s_329_195, s_329_196, s_329_197, s_329_198, s_329_201, s_329_202, s_329_203, e_329, mv_i_1, mv_l_1, mv_a_1, mv_a_2, mv_a_3, mk2_n, mk2_i, mk2_l, mk2_a, mk2_u, mk2_x, mB_T, mB_F, mS_cons, mS_nil, mSB_T, mSB_F, mca_nil, mca_i, mca_l, mca_r, mca_u, mca_x, mcat_i, mcat_l, mcat_r, mcat_u, mcat_x, mK_some, mK_none, va_rf_s, va_rf_n, lgc_eq, lgc_lt, lgc_gt, lgc_ge, lgc_le, mrd_104, mrd_105, mrd_106, mrd_107, true_and, and_true, and_self, false_and, and_false, true_or, or_true, false_or, or_false, not_true_eq_false, not_false_eq_true, mgb, mga, mgr, mN, reduceCtorEq, ↓reduceIte, eq_self, ge_iff_le, gt_iff_lt, Nat.reduceAdd, Nat.reduceMul, Nat.reduceSub, Nat.reduceLT, Nat.reduceGT, Nat.reduceEqDiff, Nat.reduceLeDiff, Nat.left_eq_add, Nat.add_eq_left, Nat.reduceMod, Nat.reduceDiv, Nat.succ_ne_self, hyQ]
  · rw [if_neg c] at hS ⊢
    rw [ls_app] at hS
    have hS' : lsN U L + U t ≤ 16400 := by
      have e : lsN U [t] = U t + 0 := rfl
      omega
    have nx : nix (spe Bt n P U) L t = L.length := by have := nix_le (sp := spe Bt n P U) (t := t) L; omega
    have kk := k_329 (d := d) R N hL hS' ht k2 (y3 := y3) (y4 := y4) (U t) 0 (by omega)
    rw [ic_0, i0] at kk
    obtain ⟨hn, hm⟩ := R.n
    have g := R.F.g 81 14 70 (by decide +kernel)
    have r6 := R.F.f 81 6 85 (by decide +kernel)
    have g6 := R.F.g 85 100 16402 (by decide +kernel)
    have l6 := R.F.l 85 100 16402 (by decide +kernel)
    have r26 := R.F.f 81 26 99 (by decide +kernel)
    have g26 := R.F.g 99 100 8300 (by decide +kernel)
    have l26 := R.F.l 99 100 8300 (by decide +kernel)
    have c27 := N.c
    have u := R.u t ht k2
    have hw := R.w t ht
    have sk := N.s L.length (Nat.le_refl _)
    rw [List.take_length] at sk
    have e1' : ∀ k, Int32.ofNat k + 1 = Int32.ofNat (k + 1) := fun k => nn_add (a := k) (b := 1)
    have es1 : Int32.ofNat (L.length + 1) - 1 = Int32.ofNat L.length := nn_sub (a := L.length + 1) (b := 1) (by omega)
    have rd : ∀ b j, b ≠ 98 → mh_i (icp h (P t) (lsN U L) (U t)) b j = mh_i h b j := fun b j hb => by rw [ic_i, if_neg (fun z => hb z.1)]
    refine ⟨mh_si (mh_si (icp h (P t) (lsN U L) (U t)) 81 27 (Int32.ofNat (L.length + 1))) 99 (L.length + 1) (Int32.ofNat (lsN U L + U t)), ?_, ?_, fun Q => ?_⟩
    · have fi : fG nmWr h (icp h (P t) (lsN U L) (U t)) := ⟨rfl, rfl, rfl, rfl, rfl, fun b j nb => ⟨rd b j (fun z => nb (Or.inl z)), rfl⟩⟩
      exact fG_t (fG_t fi (fG_si (Or.inr (Or.inr ⟨rfl, rfl⟩)))) (fG_si (Or.inr (Or.inl rfl)))
    · refine NMS.of ⟨?_, fun k hk => ?_, fun k a hk j hj => ?_⟩
      · rw [hi_si, if_neg (by omega), hi_si, if_pos ⟨rfl, rfl⟩, List.length_append]
        rfl
      · have hk' : k ≤ L.length + 1 := by rw [List.length_append] at hk; exact hk
        by_cases ck : k = L.length + 1
        · rw [hi_si, if_pos ⟨rfl, ck⟩, ck]
          have et : (L ++ [t]).take (L.length + 1) = L ++ [t] := List.take_of_length_le (by rw [List.length_append]; exact Nat.le_refl _)
          rw [et, ls_app]
          rfl
        · rw [hi_si, if_neg (fun z => ck z.2), hi_si, if_neg (by omega), rd 99 k (by decide), N.s k (by omega), List.take_append_of_le_length (by omega)]
      · rw [hi_si, if_neg (by omega), hi_si, if_neg (by omega), hi_si, if_neg (by omega), hi_si, if_neg (by omega), rd 82 _ (by decide), ic_i]
        by_cases ck : k < L.length
        · rw [List.getElem?_append_left ck] at hk
          obtain ⟨tk1, tk2⟩ := ls_tk U L k a hk
          rw [List.take_append_of_le_length (by omega), if_neg (by omega)]
          exact N.l k a hk j hj
        · have ek : k = L.length := by
            rcases Nat.lt_or_ge k (L.length + 1) with z | z
            · omega
            · rw [List.getElem?_eq_none (by rw [List.length_append]; exact z)] at hk; cases hk
          subst ek
          rw [List.getElem?_append_right (Nat.le_refl _), Nat.sub_self] at hk
          cases hk
          rw [List.take_append_of_le_length (Nat.le_refl _), List.take_length, if_pos ⟨rfl, by omega, by omega⟩, show lsN U L + j - lsN U L = j from by omega]
    · have hyQ := hy Q
      rw [if_neg c] at hyQ
      have kkQ := kk Q
      have q99 : (99 = 98) = False := by decide
      rw [nx]
      clear R N hy kk hS
      rw [show mcall d 329 [.ref 81, .int (Int32.ofNat t)] h Q = mw d 329 Q 2 [some (.ref 81), some (.int (Int32.ofNat t)), some (.int 0), none, none] [] h from by simp (disch := omega) only [s_329_0, s_329_1, s_329_3, s_329_4, s_329_7, s_329_10, s_329_11, s_329_14, s_329_15, s_329_16, s_329_17, s_329_18, s_329_19, s_329_22, s_329_23, s_329_24, s_329_25, s_329_26, s_329_29, s_329_30, s_329_31, s_329_34, s_329_35, s_329_38, s_329_39, s_329_40, s_329_41, s_329_43, s_329_45, s_329_46, s_329_49, s_329_50, s_329_51, s_329_54, s_329_55, s_329_58, s_329_59, s_329_62, s_329_63, s_329_66, s_329_67, s_329_68, s_329_70, s_329_71, s_329_72, s_329_73, s_329_76, s_329_77, s_329_80, s_329_81, s_329_82, s_329_84, s_329_85, s_329_86, s_329_89, s_329_90, s_329_93, s_329_94, s_329_95, s_329_98, s_329_101, s_329_102, s_329_105, s_329_106, s_329_107, s_329_110, s_329_113, s_329_114, s_329_115, s_329_116, s_329_117, s_329_120, s_329_121, s_329_122, s_329_125, s_329_126, s_329_129, s_329_130, s_329_133, s_329_134, s_329_137, s_329_138, s_329_139, s_329_140, s_329_141, s_329_144, s_329_145, s_329_148, s_329_149, s_329_150, s_329_151, s_329_152, s_329_153, s_329_154, s_329_157, s_329_160, s_329_161, s_329_162, s_329_165, s_329_166, s_329_167, s_329_170, s_329_171, s_329_174, s_329_175, s_329_178, s_329_179, s_329_182, s_329_183, s_329_186, s_329_187, s_329_188, s_329_189, s_329_190, s_329_193, s_329_194, s_329_195, s_329_196, s_329_197, s_329_198, s_329_201, s_329_202, s_329_203, e_329, mv_i_1, mv_l_1, mv_a_1, mv_a_2, mv_a_3, mk2_n, mk2_i, mk2_l, mk2_a, mk2_u, mk2_x, mB_T, mB_F, mS_cons, mS_nil, mSB_T, mSB_F, mca_nil, mca_i, mca_l, mca_r, mca_u, mca_x, mcat_i, mcat_l, mcat_r, mcat_u, mcat_x, mK_some, mK_none, va_rf_s, va_rf_n, lgc_eq, lgc_lt, lgc_gt, lgc_ge, lgc_le, mrd_104, mrd_105, mrd_106, mrd_107, true_and, and_true, and_self, false_and, and_false, true_or, or_true, false_or, or_false, not_true_eq_false, not_false_eq_true, mgb, mga, mgr, mN, reduceCtorEq, ↓reduceIte, eq_self, ge_iff_le, gt_iff_lt, Nat.reduceAdd, Nat.reduceMul, Nat.reduceSub, Nat.reduceLT, Nat.reduceGT, Nat.reduceEqDiff, Nat.reduceLeDiff, Nat.left_eq_add, Nat.add_eq_left, Nat.reduceMod, Nat.reduceDiv, Nat.succ_ne_self], hyQ]
      rw [show mw d 329 Q 113 [some (.ref 81), some (.int (Int32.ofNat t)), some (.int (Int32.ofNat L.length)), y3, y4] [] h = mw d 329 Q 115 [some (.ref 81), some (.int (Int32.ofNat t)), some (.int 0), y3, y4] [] h from by simp (disch := omega) only [s_329_0, s_329_1, s_329_2, s_329_3, s_329_4, s_329_7, s_329_10, s_329_11, s_329_14, s_329_15, s_329_16, s_329_17, s_329_18, s_329_19, s_329_22, s_329_23, s_329_24, s_329_25, s_329_26, s_329_29, s_329_30, s_329_31, s_329_34, s_329_35, s_329_38, s_329_39, s_329_40, s_329_41, s_329_43, s_329_45, s_329_46, s_329_49, s_329_50, s_329_51, s_329_54, s_329_55, s_329_58, s_329_59, s_329_62, s_329_63, s_329_66, s_329_67, s_329_68, s_329_70, s_329_71, s_329_72, s_329_73, s_329_76, s_329_77, s_329_80, s_329_81, s_329_82, s_329_84, s_329_85, s_329_86, s_329_89, s_329_90, s_329_93, s_329_94, s_329_95, s_329_98, s_329_101, s_329_102, s_329_105, s_329_106, s_329_107, s_329_110, s_329_113, s_329_114, s_329_116, s_329_117, s_329_120, s_329_121, s_329_122, s_329_125, s_329_126, s_329_129, s_329_130, s_329_133, s_329_134, s_329_137, s_329_138, s_329_139, s_329_140, s_329_141, s_329_144, s_329_145, s_329_148, s_329_149, s_329_150, s_329_151, s_329_152, s_329_153, s_329_154, s_329_157, s_329_160, s_329_161, s_329_162, s_329_165, s_329_166, s_329_167, s_329_170, s_329_171, s_329_174, s_329_175, s_329_178, s_329_179, s_329_182, s_329_183, s_329_186, s_329_187, s_329_188, s_329_189, s_329_190, s_329_193, s_329_194, s_329_195, s_329_196, s_329_197, s_329_198, s_329_201, s_329_202, s_329_203, e_329, mv_i_1, mv_l_1, mv_a_1, mv_a_2, mv_a_3, mk2_n, mk2_i, mk2_l, mk2_a, mk2_u, mk2_x, mB_T, mB_F, mS_cons, mS_nil, mSB_T, mSB_F, mca_nil, mca_i, mca_l, mca_r, mca_u, mca_x, mcat_i, mcat_l, mcat_r, mcat_u, mcat_x, mK_some, mK_none, va_rf_s, va_rf_n, lgc_eq, lgc_lt, lgc_gt, lgc_ge, lgc_le, mrd_104, mrd_105, mrd_106, mrd_107, true_and, and_true, and_self, false_and, and_false, true_or, or_true, false_or, or_false, not_true_eq_false, not_false_eq_true, mgb, mga, mgr, mN, reduceCtorEq, ↓reduceIte, eq_self, ge_iff_le, gt_iff_lt, Nat.reduceAdd, Nat.reduceMul, Nat.reduceSub, Nat.reduceLT, Nat.reduceGT, Nat.reduceEqDiff, Nat.reduceLeDiff, Nat.left_eq_add, Nat.add_eq_left, Nat.reduceMod, Nat.reduceDiv, Nat.succ_ne_self], kkQ]
      simp (disch := omega) only [s_329_0, s_329_1, s_329_2, s_329_3, s_329_4, s_329_7, s_329_10, s_329_11, s_329_14, s_329_15, s_329_16, s_329_17, s_329_18, s_329_19, s_329_22, s_329_23, s_329_24, s_329_25, s_329_26, s_329_29, s_329_30, s_329_31, s_329_34, s_329_35, s_329_38, s_329_39, s_329_40, s_329_41, s_329_43, s_329_45, s_329_46, s_329_49, s_329_50, s_329_51, s_329_54, s_329_55, s_329_58, s_329_59, s_329_62, s_329_63, s_329_66, s_329_67, s_329_68, s_329_70, s_329_71, s_329_72, s_329_73, s_329_76, s_329_77, s_329_80, s_329_81, s_329_82, s_329_84, s_329_85, s_329_86, s_329_89, s_329_90, s_329_93, s_329_94, s_329_95, s_329_98, s_329_101, s_329_102, s_329_105, s_329_106, s_329_107, s_329_110, s_329_113, s_329_114, s_329_115, s_329_116, s_329_117, s_329_120, s_329_121, s_329_122, s_329_125, s_329_126, s_329_129, s_329_130, s_329_133, s_329_134, s_329_137, s_329_138, s_329_139, s_329_140, s_329_141, s_329_144, s_329_145, s_329_148, s_329_149, s_329_150, s_329_151, s_329_152, s_329_153, s_329_154, s_329_157, s_329_160, s_329_161, s_329_162, s_329_165, s_329_166, s_329_167, s_329_170, s_329_171, s_329_174, s_329_175, s_329_178, s_329_179, s_329_182, s_329_183, s_329_186, s_329_187, s_329_188, s_329_189, s_329_190, s_329_193, s_329_194, s_329_195, s_329_196, s_329_197, s_329_198, s_329_201, s_329_202, s_329_203, e_329, mv_i_1, mv_l_1, mv_a_1, mv_a_2, mv_a_3, mk2_n, mk2_i, mk2_l, mk2_a, mk2_u, mk2_x, mB_T, mB_F, mS_cons, mS_nil, mSB_T, mSB_F, mca_nil, mca_i, mca_l, mca_r, mca_u, mca_x, mcat_i, mcat_l, mcat_r, mcat_u, mcat_x, mK_some, mK_none, va_rf_s, va_rf_n, lgc_eq, lgc_lt, lgc_gt, lgc_ge, lgc_le, mrd_104, mrd_105, mrd_106, mrd_107, true_and, and_true, and_self, false_and, and_false, true_or, or_true, false_or, or_false, not_true_eq_false, not_false_eq_true, mgb, mga, mgr, mN, reduceCtorEq, ↓reduceIte, eq_self, ge_iff_le, gt_iff_lt, hk_si, hk_sj, hk_sr, hl_si, hl_sj, hl_sr, hn_si, hn_sj, hn_sr, hs_si, hs_sj, hs_sr, hi_sj, hi_sr, hj_si, hj_sr, hr_si, hr_sj, hi_si, hj_sj, hr_sr, mg_si, mg_sj, mg_sr, Nat.reduceAdd, Nat.reduceMul, Nat.reduceSub, Nat.reduceLT, Nat.reduceGT, Nat.reduceEqDiff, Nat.reduceLeDiff, Nat.left_eq_add, Nat.add_eq_left, Nat.reduceMod, Nat.reduceDiv, Nat.succ_ne_self, ic_g, ic_r, ic_l, ic_i, g, r6, g6, l6, r26, g26, l26, c27, u, sk, nn_mxT, nn_clamp, nn_add, es1, e1']
end NOs
