set_option maxRecDepth 100000
/-! the reference's end: what follows -/
def yWr (b j : Nat) : Prop := noW b j ∨ lyWr b j ∨ (b = 81 ∧ (j = 2 ∨ j = 49))
/-- no program -/
def NOP (h : mh_H) : Prop := (mh_i h 115 7 = 1 ∧ mh_i h 115 8 = 0 ∧ mh_i h 115 9 = 0 ∧ mh_i h 115 13 = 0) ∧ RK h 132 (some A00) ∧ RK h 137 (some A00) ∧ (mh_i h 118 0 = 0 ∧ mh_i h 130 0 = 0 ∧ mh_i h 131 0 = 0) ∧ (mh_i h 81 33 = 1 ∧ mh_i h 81 64 = 0 ∧ mh_i h 81 65 = 0 ∧ mh_i h 81 66 = 0) ∧ (mh_i h 100 0 = -1 ∧ mh_i h 101 0 = -1 ∧ mh_i h 102 0 = 1 ∧ mh_i h 103 0 = 0 ∧ mh_i h 104 0 = 0)
def y1H (h : mh_H) (v : Int32) : mh_H := mh_si (mh_si (mh_si h 81 2 0) 81 47 0) 81 48 v
section YYs
variable {d n f nP : Nat} {h h1 : mh_H} {W : Nat → Nat → Prop}
theorem NOP_G (x : fG W h h1) (w : ∀ b j, W b j → ¬ noW b j) (N : NOP h) : NOP h1 := by
  have q : ∀ b j, noW b j → mh_i h1 b j = mh_i h b j := fun b j z => (x.2.2.2.2.2 b j (fun y => w b j y z)).1
  have k1 : ∀ o, 132 ≤ o → o ≤ 137 → ∀ A, RK h o A → RK h1 o A := fun o o1 o2 A r => RK_G x (fun y j hy z => w _ j z (Or.inr (Or.inr (Or.inr (Or.inr ⟨by omega, by omega⟩))))) r
  obtain ⟨⟨a1, a2, a3, a4⟩, b1, b2, ⟨c1, c2, c3⟩, ⟨d1, d2, d3, d4⟩, e1, e2, e3, e4, e5⟩ := N
  refine ⟨⟨?_, ?_, ?_, ?_⟩, k1 132 (by omega) (by omega) _ b1, k1 137 (by omega) (by omega) _ b2, ⟨?_, ?_, ?_⟩, ⟨?_, ?_, ?_, ?_⟩, ?_, ?_, ?_, ?_, ?_⟩
  · rw [q 115 7 (by unfold noW; omega)]; exact a1
  · rw [q 115 8 (by unfold noW; omega)]; exact a2
  · rw [q 115 9 (by unfold noW; omega)]; exact a3
  · rw [q 115 13 (by unfold noW; omega)]; exact a4
  · rw [q 118 0 (by unfold noW; omega)]; exact c1
  · rw [q 130 0 (by unfold noW; omega)]; exact c2
  · rw [q 131 0 (by unfold noW; omega)]; exact c3
  · rw [q 81 33 (by unfold noW; omega)]; exact d1
  · rw [q 81 64 (by unfold noW; omega)]; exact d2
  · rw [q 81 65 (by unfold noW; omega)]; exact d3
  · rw [q 81 66 (by unfold noW; omega)]; exact d4
  · rw [q 100 0 (by unfold noW; omega)]; exact e1
  · rw [q 101 0 (by unfold noW; omega)]; exact e2
  · rw [q 102 0 (by unfold noW; omega)]; exact e3
  · rw [q 103 0 (by unfold noW; omega)]; exact e4
  · rw [q 104 0 (by unfold noW; omega)]; exact e5
theorem y1_i {v : Int32} {b j : Nat} : mh_i (y1H h v) b j = if b = 81 ∧ j = 48 then v else if b = 81 ∧ j = 47 then 0 else if b = 81 ∧ j = 2 then 0 else mh_i h b j := by
  unfold y1H
  rw [hi_si, hi_si, hi_si]
theorem y1_f {v : Int32} : fG (fun b j => b = 81 ∧ (j = 2 ∨ j = 47 ∨ j = 48)) h (y1H h v) := by
  unfold y1H
  exact fG_t (fG_si ⟨rfl, by omega⟩) (fG_t (fG_si ⟨rfl, by omega⟩) (fG_si ⟨rfl, by omega⟩))
/-- up to where nothing is known -/
theorem y_331n (F : RF h) {c0 : Option ab} (C0 : RK h 137 c0) {b : Bool} (b9 : mh_i h 81 9 = kb b) {x1 x2 : Option Value} : ∃ h', fG yWr h h' ∧ NOP h' ∧ (mh_i h' 81 2 = 0 ∧ mh_i h' 81 47 = 0 ∧ mh_i h' 81 48 = (if b = true then mh_i h 81 10 else 0) ∧ mh_i h' 81 49 = kb b ∧ mh_i h' 81 9 = kb b) ∧ (∀ q, 1 ≤ q → q < 250 → (∀ A, RK h (132 + 10 * q) A → RK h' (132 + 10 * q) A) ∧ ∀ A, RK h (137 + 10 * q) A → RK h' (137 + 10 * q) A) ∧ ∀ Q, mw (d + 5) 331 Q 93 [some (.ref 81), x1, x2] [] h = mw (d + 5) 331 Q 142 [some (.ref 81), x1, x2] [] h' := by
  have g0 : mg h 81 14 := F.g 81 14 70 (by decide +kernel)
  have ent : ∀ Q, mw (d + 5) 331 Q 93 [some (.ref 81), x1, x2] [] h = mw (d + 5) 331 Q 122 [some (.ref 81), x1, x2] [] (y1H h (if b = true then mh_i h 81 10 else 0)) := fun Q => by
    unfold y1H
    cases b with
    | true =>
      have b9' : mh_i h 81 9 = 1 := b9
      have n1 : ((1 : Int32) = 0) = False := by decide
      clear F C0 b9
      rw [s_331_93]
      simp only [s_331_0, s_331_1, s_331_4, s_331_5, s_331_6, s_331_9, s_331_12, s_331_13, s_331_14, s_331_15, s_331_16, s_331_19, s_331_20, s_331_21, s_331_24, s_331_25, s_331_26, s_331_29, s_331_30, s_331_31, s_331_32, s_331_33, s_331_34, s_331_37, s_331_38, s_331_39, s_331_42, s_331_43, s_331_44, s_331_47, s_331_48, s_331_49, s_331_52, s_331_53, s_331_54, s_331_57, s_331_58, s_331_59, s_331_62, s_331_63, s_331_66, s_331_67, s_331_68, s_331_71, s_331_74, s_331_75, s_331_76, s_331_79, s_331_80, s_331_83, s_331_86, s_331_87, s_331_90, s_331_94, s_331_95, s_331_98, s_331_99, s_331_100, s_331_103, s_331_104, s_331_105, s_331_108, s_331_111, s_331_112, s_331_115, s_331_118, s_331_119, s_331_123, s_331_126, s_331_127, s_331_128, s_331_131, s_331_134, s_331_135, s_331_138, s_331_139, s_331_142, s_331_143, s_331_146, s_331_149, s_331_150, s_331_153, s_331_154, s_331_157, s_331_160, s_331_161, s_331_162, s_331_165, s_331_166, s_331_169, s_331_172, s_331_173, s_331_176, s_331_179, s_331_180, s_331_183, s_331_184, s_331_187, s_331_188, s_331_191, s_331_192, s_331_195, s_331_196, s_331_199, s_331_202, s_331_203, s_331_204, s_331_207, s_331_210, s_331_213, s_331_214, s_331_217, s_331_218, s_331_221, s_331_222, s_331_225, e_331, mv_i_1, mv_l_1, mv_a_1, mv_a_2, mv_a_3, mk2_n, mk2_i, mk2_l, mk2_a, mk2_u, mk2_x, mB_T, mB_F, mS_cons, mS_nil, mSB_T, mSB_F, mca_nil, mca_i, mca_l, mca_r, mca_u, mca_x, mcat_i, mcat_l, mcat_r, mcat_u, mcat_x, mK_some, mK_none, va_rf_s, va_rf_n, lgc_eq, lgc_lt, lgc_gt, lgc_ge, lgc_le, mrd_104, mrd_105, mrd_106, mrd_107, true_and, and_true, and_self, false_and, and_false, true_or, or_true, false_or, or_false, not_true_eq_false, not_false_eq_true, mgb, mga, mgr, mN, reduceCtorEq, ↓reduceIte, eq_self, ge_iff_le, gt_iff_lt, hk_si, hk_sj, hk_sr, hl_si, hl_sj, hl_sr, hn_si, hn_sj, hn_sr, hs_si, hs_sj, hs_sr, hi_sj, hi_sr, hj_si, hj_sr, hr_si, hr_sj, hi_si, hj_sj, hr_sr, mg_si, mg_sj, mg_sr, Nat.reduceAdd, Nat.reduceMul, Nat.reduceSub, Nat.reduceLT, Nat.reduceGT, Nat.reduceEqDiff, Nat.reduceLeDiff, Nat.left_eq_add, Nat.add_eq_left, Nat.reduceMod, Nat.reduceDiv, Nat.succ_ne_self, g0, b9', n1, if_true]
    | false =>
      have b9' : mh_i h 81 9 = 0 := b9
      have n1 : ((0 : Int32) = 0) = True := by decide
      have n2 : ((false : Bool) = true) = False := by decide
      clear F C0 b9
      rw [s_331_93]
      simp only [s_331_0, s_331_1, s_331_4, s_331_5, s_331_6, s_331_9, s_331_12, s_331_13, s_331_14, s_331_15, s_331_16, s_331_19, s_331_20, s_331_21, s_331_24, s_331_25, s_331_26, s_331_29, s_331_30, s_331_31, s_331_32, s_331_33, s_331_34, s_331_37, s_331_38, s_331_39, s_331_42, s_331_43, s_331_44, s_331_47, s_331_48, s_331_49, s_331_52, s_331_53, s_331_54, s_331_57, s_331_58, s_331_59, s_331_62, s_331_63, s_331_66, s_331_67, s_331_68, s_331_71, s_331_74, s_331_75, s_331_76, s_331_79, s_331_80, s_331_83, s_331_86, s_331_87, s_331_90, s_331_94, s_331_95, s_331_98, s_331_99, s_331_100, s_331_103, s_331_104, s_331_105, s_331_108, s_331_111, s_331_112, s_331_115, s_331_118, s_331_119, s_331_123, s_331_126, s_331_127, s_331_128, s_331_131, s_331_134, s_331_135, s_331_138, s_331_139, s_331_142, s_331_143, s_331_146, s_331_149, s_331_150, s_331_153, s_331_154, s_331_157, s_331_160, s_331_161, s_331_162, s_331_165, s_331_166, s_331_169, s_331_172, s_331_173, s_331_176, s_331_179, s_331_180, s_331_183, s_331_184, s_331_187, s_331_188, s_331_191, s_331_192, s_331_195, s_331_196, s_331_199, s_331_202, s_331_203, s_331_204, s_331_207, s_331_210, s_331_213, s_331_214, s_331_217, s_331_218, s_331_221, s_331_222, s_331_225, e_331, mv_i_1, mv_l_1, mv_a_1, mv_a_2, mv_a_3, mk2_n, mk2_i, mk2_l, mk2_a, mk2_u, mk2_x, mB_T, mB_F, mS_cons, mS_nil, mSB_T, mSB_F, mca_nil, mca_i, mca_l, mca_r, mca_u, mca_x, mcat_i, mcat_l, mcat_r, mcat_u, mcat_x, mK_some, mK_none, va_rf_s, va_rf_n, lgc_eq, lgc_lt, lgc_gt, lgc_ge, lgc_le, mrd_104, mrd_105, mrd_106, mrd_107, true_and, and_true, and_self, false_and, and_false, true_or, or_true, false_or, or_false, not_true_eq_false, not_false_eq_true, mgb, mga, mgr, mN, reduceCtorEq, ↓reduceIte, eq_self, ge_iff_le, gt_iff_lt, hk_si, hk_sj, hk_sr, hl_si, hl_sj, hl_sr, hn_si, hn_sj, hn_sr, hs_si, hs_sj, hs_sr, hi_sj, hi_sr, hj_si, hj_sr, hr_si, hr_sj, hi_si, hj_sj, hr_sr, mg_si, mg_sj, mg_sr, Nat.reduceAdd, Nat.reduceMul, Nat.reduceSub, Nat.reduceLT, Nat.reduceGT, Nat.reduceEqDiff, Nat.reduceLeDiff, Nat.left_eq_add, Nat.add_eq_left, Nat.reduceMod, Nat.reduceDiv, Nat.succ_ne_self, g0, b9', n1, n2, if_false]
  have f1 := y1_f (h := h) (v := if b = true then mh_i h 81 10 else 0)
  have i1 : ∀ y j, mh_i (y1H h (if b = true then mh_i h 81 10 else 0)) y j = _ := fun y j => y1_i
  generalize y1H h (if b = true then mh_i h 81 10 else 0) = hA at ent f1 i1
  have FA : RF hA := RF_G f1 F
  have CA : RK hA 137 c0 := RK_G f1 (fun y j _ z => by omega) C0
  obtain ⟨hB, y1, y2, y3, y4, y5, y6, y7, y8⟩ := u_299 (d := d) FA CA
  have FB : RF hB := RF_G y1 FA
  have q1 : ∀ b j, ¬ noW b j → mh_i hB b j = mh_i hA b j := fun b j z => (y1.2.2.2.2.2 b j z).1
  have NB : NOP hB := ⟨y2, y3, y4, y5, y6, y7⟩
  have f3 : fG (fun b j => b = 81 ∧ j = 49) hB (mh_si hB 81 49 (kb b)) := fG_si ⟨rfl, rfl⟩
  have NC : NOP (mh_si hB 81 49 (kb b)) := NOP_G f3 (fun y j z => by unfold noW; omega) NB
  have jj : ∀ j, ¬ noW 81 j → j ≠ 49 → mh_i (mh_si hB 81 49 (kb b)) 81 j = mh_i hA 81 j := fun j z z2 => by
    rw [hi_si, if_neg (fun y => z2 y.2), q1 81 j z]
  refine ⟨mh_si hB 81 49 (kb b), fG_t (fG_sub f1 (fun y j z => ?_)) (fG_t (fG_sub y1 (fun y j z => Or.inl z)) (fG_sub f3 (fun y j z => Or.inr (Or.inr ⟨z.1, Or.inr z.2⟩)))), NC, ⟨?_, ?_, ?_, ?_, ?_⟩, fun q h1' h2' => ⟨fun A r => ?_, fun A r => ?_⟩, fun Q => ?_⟩
  · unfold yWr lyWr
    omega
  · rw [jj 2 (by unfold noW; omega) (by omega), i1, if_neg (by omega), if_neg (by omega), if_pos ⟨rfl, rfl⟩]
  · rw [jj 47 (by unfold noW; omega) (by omega), i1, if_neg (by omega), if_pos ⟨rfl, rfl⟩]
  · rw [jj 48 (by unfold noW; omega) (by omega), i1, if_pos ⟨rfl, rfl⟩]
  · rw [hi_si, if_pos ⟨rfl, rfl⟩]
  · rw [jj 9 (by unfold noW; omega) (by omega), i1, if_neg (by omega), if_neg (by omega), if_neg (by omega)]
    exact b9
  · exact RK_G f3 (fun y j hy z => by omega) (RK_G y1 (fun y j hy z => by unfold noW at z; omega) (RK_G f1 (fun y j hy z => by omega) r))
  · exact RK_G f3 (fun y j hy z => by omega) (RK_G y1 (fun y j hy z => by unfold noW at z; omega) (RK_G f1 (fun y j hy z => by omega) r))
  · rw [ent Q]
    have gA : mg hA 81 14 := FA.g 81 14 70 (by decide +kernel)
    have gB : mg hB 81 14 := FB.g 81 14 70 (by decide +kernel)
    have e9 : mh_i hB 81 9 = kb b := by
      rw [q1 81 9 (by unfold noW; omega), i1, if_neg (by omega), if_neg (by omega), if_neg (by omega)]
      exact b9
    cases b with
    | true =>
      have e9' : mh_i hB 81 9 = 1 := e9
      have kt : kb true = 1 := rfl
      have n1 : ((1 : Int32) = 0) = False := by decide
      clear F C0 FA CA FB NB NC f1 f3 y1 y3 y4 i1 jj q1 e9 b9 ent
      rw [s_331_122]
      simp only [s_331_0, s_331_1, s_331_4, s_331_5, s_331_6, s_331_9, s_331_12, s_331_13, s_331_14, s_331_15, s_331_16, s_331_19, s_331_20, s_331_21, s_331_24, s_331_25, s_331_26, s_331_29, s_331_30, s_331_31, s_331_32, s_331_33, s_331_34, s_331_37, s_331_38, s_331_39, s_331_42, s_331_43, s_331_44, s_331_47, s_331_48, s_331_49, s_331_52, s_331_53, s_331_54, s_331_57, s_331_58, s_331_59, s_331_62, s_331_63, s_331_66, s_331_67, s_331_68, s_331_71, s_331_74, s_331_75, s_331_76, s_331_79, s_331_80, s_331_83, s_331_86, s_331_87, s_331_90, s_331_93, s_331_94, s_331_95, s_331_98, s_331_99, s_331_100, s_331_103, s_331_104, s_331_105, s_331_108, s_331_111, s_331_112, s_331_115, s_331_118, s_331_119, s_331_123, s_331_126, s_331_127, s_331_128, s_331_131, s_331_134, s_331_135, s_331_138, s_331_139, s_331_143, s_331_146, s_331_149, s_331_150, s_331_153, s_331_154, s_331_157, s_331_160, s_331_161, s_331_162, s_331_165, s_331_166, s_331_169, s_331_172, s_331_173, s_331_176, s_331_179, s_331_180, s_331_183, s_331_184, s_331_187, s_331_188, s_331_191, s_331_192, s_331_195, s_331_196, s_331_199, s_331_202, s_331_203, s_331_204, s_331_207, s_331_210, s_331_213, s_331_214, s_331_217, s_331_218, s_331_221, s_331_222, s_331_225, e_331, mv_i_1, mv_l_1, mv_a_1, mv_a_2, mv_a_3, mk2_n, mk2_i, mk2_l, mk2_a, mk2_u, mk2_x, mB_T, mB_F, mS_cons, mS_nil, mSB_T, mSB_F, mca_nil, mca_i, mca_l, mca_r, mca_u, mca_x, mcat_i, mcat_l, mcat_r, mcat_u, mcat_x, mK_some, mK_none, va_rf_s, va_rf_n, lgc_eq, lgc_lt, lgc_gt, lgc_ge, lgc_le, mrd_104, mrd_105, mrd_106, mrd_107, true_and, and_true, and_self, false_and, and_false, true_or, or_true, false_or, or_false, not_true_eq_false, not_false_eq_true, mgb, mga, mgr, mN, reduceCtorEq, ↓reduceIte, eq_self, ge_iff_le, gt_iff_lt, hk_si, hk_sj, hk_sr, hl_si, hl_sj, hl_sr, hn_si, hn_sj, hn_sr, hs_si, hs_sj, hs_sr, hi_sj, hi_sr, hj_si, hj_sr, hr_si, hr_sj, hi_si, hj_sj, hr_sr, mg_si, mg_sj, mg_sr, Nat.reduceAdd, Nat.reduceMul, Nat.reduceSub, Nat.reduceLT, Nat.reduceGT, Nat.reduceEqDiff, Nat.reduceLeDiff, Nat.left_eq_add, Nat.add_eq_left, Nat.reduceMod, Nat.reduceDiv, Nat.succ_ne_self, gA, gB, y8, e9', n1, kt]
    | false =>
      have e9' : mh_i hB 81 9 = 0 := e9
      have kt : kb false = 0 := rfl
      have n1 : ((0 : Int32) = 0) = True := by decide
      clear F C0 FA CA FB NB NC f1 f3 y1 y3 y4 i1 jj q1 e9 b9 ent
      rw [s_331_122]
      simp only [s_331_0, s_331_1, s_331_4, s_331_5, s_331_6, s_331_9, s_331_12, s_331_13, s_331_14, s_331_15, s_331_16, s_331_19, s_331_20, s_331_21, s_331_24, s_331_25, s_331_26, s_331_29, s_331_30, s_331_31, s_331_32, s_331_33, s_331_34, s_331_37, s_331_38, s_331_39, s_331_42, s_331_43, s_331_44, s_331_47, s_331_48, s_331_49, s_331_52, s_331_53, s_331_54, s_331_57, s_331_58, s_331_59, s_331_62, s_331_63, s_331_66, s_331_67, s_331_68, s_331_71, s_331_74, s_331_75, s_331_76, s_331_79, s_331_80, s_331_83, s_331_86, s_331_87, s_331_90, s_331_93, s_331_94, s_331_95, s_331_98, s_331_99, s_331_100, s_331_103, s_331_104, s_331_105, s_331_108, s_331_111, s_331_112, s_331_115, s_331_118, s_331_119, s_331_123, s_331_126, s_331_127, s_331_128, s_331_131, s_331_134, s_331_135, s_331_138, s_331_139, s_331_143, s_331_146, s_331_149, s_331_150, s_331_153, s_331_154, s_331_157, s_331_160, s_331_161, s_331_162, s_331_165, s_331_166, s_331_169, s_331_172, s_331_173, s_331_176, s_331_179, s_331_180, s_331_183, s_331_184, s_331_187, s_331_188, s_331_191, s_331_192, s_331_195, s_331_196, s_331_199, s_331_202, s_331_203, s_331_204, s_331_207, s_331_210, s_331_213, s_331_214, s_331_217, s_331_218, s_331_221, s_331_222, s_331_225, e_331, mv_i_1, mv_l_1, mv_a_1, mv_a_2, mv_a_3, mk2_n, mk2_i, mk2_l, mk2_a, mk2_u, mk2_x, mB_T, mB_F, mS_cons, mS_nil, mSB_T, mSB_F, mca_nil, mca_i, mca_l, mca_r, mca_u, mca_x, mcat_i, mcat_l, mcat_r, mcat_u, mcat_x, mK_some, mK_none, va_rf_s, va_rf_n, lgc_eq, lgc_lt, lgc_gt, lgc_ge, lgc_le, mrd_104, mrd_105, mrd_106, mrd_107, true_and, and_true, and_self, false_and, and_false, true_or, or_true, false_or, or_false, not_true_eq_false, not_false_eq_true, mgb, mga, mgr, mN, reduceCtorEq, ↓reduceIte, eq_self, ge_iff_le, gt_iff_lt, hk_si, hk_sj, hk_sr, hl_si, hl_sj, hl_sr, hn_si, hn_sj, hn_sr, hs_si, hs_sj, hs_sr, hi_sj, hi_sr, hj_si, hj_sr, hr_si, hr_sj, hi_si, hj_sj, hr_sr, mg_si, mg_sj, mg_sr, Nat.reduceAdd, Nat.reduceMul, Nat.reduceSub, Nat.reduceLT, Nat.reduceGT, Nat.reduceEqDiff, Nat.reduceLeDiff, Nat.left_eq_add, Nat.add_eq_left, Nat.reduceMod, Nat.reduceDiv, Nat.succ_ne_self, gA, gB, y8, e9', n1, kt]
/-- no tree -/
theorem y_331a (F : RF h) {c0 : Option ab} (C0 : RK h 137 c0) (b9 : mh_i h 81 9 = 1) {x1 x2 : Option Value} : ∃ h', fG yWr h h' ∧ NOP h' ∧ (mh_i h' 81 2 = 0 ∧ mh_i h' 81 47 = 0 ∧ mh_i h' 81 48 = mh_i h 81 10 ∧ mh_i h' 81 49 = 1) ∧ (∀ q, 1 ≤ q → q < 250 → (∀ A, RK h (132 + 10 * q) A → RK h' (132 + 10 * q) A) ∧ ∀ A, RK h (137 + 10 * q) A → RK h' (137 + 10 * q) A) ∧ ∀ Q, mw (d + 5) 331 Q 93 [some (.ref 81), x1, x2] [] h = Q (some (.int 1)) h' := by
  obtain ⟨hB, y1, y2, ⟨y3, y4, y5, y6, y7⟩, y8, y9⟩ := y_331n (d := d) (x1 := x1) (x2 := x2) (b := true) F C0 b9
  refine ⟨hB, y1, y2, ⟨y3, y4, y5, y6⟩, y8, fun Q => ?_⟩
  have gB : mg hB 81 14 := (RF_G y1 F).g 81 14 70 (by decide +kernel)
  have y6' : mh_i hB 81 49 = 1 := y6
  have y7' : mh_i hB 81 9 = 1 := y7
  have n1 : ((1 : Int32) = 0) = False := by decide
  have n2 : ((0 : Int32) ≤ 0) = True := by decide
  rw [y9 Q]
  clear F C0 y1 y2 y5 y6 y7 y8 y9
  rw [s_331_142]
  simp only [s_331_0, s_331_1, s_331_4, s_331_5, s_331_6, s_331_9, s_331_12, s_331_13, s_331_14, s_331_15, s_331_16, s_331_19, s_331_20, s_331_21, s_331_24, s_331_25, s_331_26, s_331_29, s_331_30, s_331_31, s_331_32, s_331_33, s_331_34, s_331_37, s_331_38, s_331_39, s_331_42, s_331_43, s_331_44, s_331_47, s_331_48, s_331_49, s_331_52, s_331_53, s_331_54, s_331_57, s_331_58, s_331_59, s_331_62, s_331_63, s_331_66, s_331_67, s_331_68, s_331_71, s_331_74, s_331_75, s_331_76, s_331_79, s_331_80, s_331_83, s_331_86, s_331_87, s_331_90, s_331_93, s_331_94, s_331_95, s_331_98, s_331_99, s_331_100, s_331_103, s_331_104, s_331_105, s_331_108, s_331_111, s_331_112, s_331_115, s_331_118, s_331_119, s_331_122, s_331_123, s_331_126, s_331_127, s_331_128, s_331_131, s_331_134, s_331_135, s_331_138, s_331_139, s_331_143, s_331_146, s_331_149, s_331_150, s_331_153, s_331_154, s_331_157, s_331_160, s_331_161, s_331_162, s_331_165, s_331_166, s_331_169, s_331_172, s_331_173, s_331_176, s_331_179, s_331_180, s_331_183, s_331_184, s_331_187, s_331_188, s_331_191, s_331_192, s_331_195, s_331_196, s_331_199, s_331_202, s_331_203, s_331_204, s_331_207, s_331_210, s_331_213, s_331_214, s_331_217, s_331_218, s_331_221, s_331_222, s_331_225, e_331, mv_i_1, mv_l_1, mv_a_1, mv_a_2, mv_a_3, mk2_n, mk2_i, mk2_l, mk2_a, mk2_u, mk2_x, mB_T, mB_F, mS_cons, mS_nil, mSB_T, mSB_F, mca_nil, mca_i, mca_l, mca_r, mca_u, mca_x, mcat_i, mcat_l, mcat_r, mcat_u, mcat_x, mK_some, mK_none, va_rf_s, va_rf_n, lgc_eq, lgc_lt, lgc_gt, lgc_ge, lgc_le, mrd_104, mrd_105, mrd_106, mrd_107, true_and, and_true, and_self, false_and, and_false, true_or, or_true, false_or, or_false, not_true_eq_false, not_false_eq_true, mgb, mga, mgr, mN, reduceCtorEq, ↓reduceIte, eq_self, ge_iff_le, gt_iff_lt, hk_si, hk_sj, hk_sr, hl_si, hl_sj, hl_sr, hn_si, hn_sj, hn_sr, hs_si, hs_sj, hs_sr, hi_sj, hi_sr, hj_si, hj_sr, hr_si, hr_sj, hi_si, hj_sj, hr_sr, mg_si, mg_sj, mg_sr, Nat.reduceAdd, Nat.reduceMul, Nat.reduceSub, Nat.reduceLT, Nat.reduceGT, Nat.reduceEqDiff, Nat.reduceLeDiff, Nat.left_eq_add, Nat.add_eq_left, Nat.reduceMod, Nat.reduceDiv, Nat.succ_ne_self, gB, y4, y6', y7', n1, n2]
/-- a tree: it is laid out -/
theorem y_331l (F : RF h) {c0 : Option ab} (C0 : RK h 137 c0) (b9 : mh_i h 81 9 = 0) {nm : Nat → Nat} {KN : Nat → Prop} {D : lyD} {K : Nat → Int32} {m cnt N : Nat} {FK : Nat → Nat} {T : tr} {Sc : cps} (RL : ∀ h2, (∀ b j, 93 ≤ b → b ≤ 97 → mh_i h2 b j = mh_i h b j) → mh_i h2 81 24 = mh_i h 81 24 → RLC h2 nm KN D K m cnt FK T) (hc : 0 < D.c) (STg : ∀ g, g < D.c → ∃ k', stR D.sp Sc g N true (D.FT g) (D.S g) k' (D.FP g) (D.FP g).length) (hL : lsI T 1 = some (FK (D.c - 1))) (eP : mh_i h 94 (FK (D.c - 1) + 1) = Int32.ofNat nP) (hf : ts (D.FT (D.c - 1)) + rkF D (D.c - 1) ≤ f) (hd : 758 ≤ d) {x1 x2 : Option Value} : ∃ h', fG yWr h h' ∧ (mh_i h' 81 2 = 0 ∧ mh_i h' 81 49 = 0 ∧ mh_i h' 81 9 = 0) ∧ RK h' 132 (some A00) ∧ RK h' 137 (some A00) ∧ (mh_i h' 118 0 = 0 ∧ mh_i h' 130 0 = 0 ∧ mh_i h' 131 0 = 0) ∧ (mh_i h' 81 64 = 0 ∧ mh_i h' 81 65 = 0 ∧ mh_i h' 81 66 = 0) ∧ (∀ q, 1 ≤ q → q < 250 → (∀ A, RK h (132 + 10 * q) A → RK h' (132 + 10 * q) A) ∧ ∀ A, RK h (137 + 10 * q) A → RK h' (137 + 10 * q) A) ∧ (¬ (lyT D f nP).1.1 = 0 → mh_i h' 81 47 = Int32.ofNat (lyT D f nP).1.1 ∧ mh_i h' 81 48 = Int32.ofNat (lyT D f nP).1.2) ∧ ((lyT D f nP).1.1 = 0 → mh_i h' 81 47 = 0 ∧ mh_i h' 81 48 = 0 ∧ mh_i h' 81 33 = Int32.ofNat ((lyT D f nP).2 + 1) ∧ (lyT D f nP).2 ≤ 249 ∧ (D.FP (D.c - 1)).length = 0 ∧ REz h' (lyT D f nP).2 ∧ ∀ Pt, LYR D Pt f true (D.FT (D.c - 1)) (D.B (D.c - 1) + 1) (D.B (D.c - 1)) (D.S (D.c - 1)) 0 (lyT D f nP).2 [] 0 (lyX0 D) → PTz h' nm Pt 0 (lyT D f nP).2) ∧ ∀ Q, mw (d + 5) 331 Q 93 [some (.ref 81), x1, x2] [] h = mw (d + 5) 331 Q 153 [some (.ref 81), x1, x2] [] h' := by
  obtain ⟨hB, y1, y2, ⟨y3, y4, y5, y6, y7⟩, y8, y9⟩ := y_331n (d := d) (x1 := x1) (x2 := x2) (b := false) F C0 b9
  have FB : RF hB := RF_G y1 F
  have gB : mg hB 81 14 := FB.g 81 14 70 (by decide +kernel)
  have q1 : ∀ b j, ¬ yWr b j → mh_i hB b j = mh_i h b j := fun b j z => (y1.2.2.2.2.2 b j z).1
  have CB := RL hB (fun b j u1 u2 => q1 b j (by unfold yWr noW lyWr; omega)) (q1 81 24 (by unfold yWr noW lyWr; omega))
  obtain ⟨hC, z1, z2, z3, z4⟩ := u_345 (d := d + 3) (h := hB) (f := f) (nP := nP) CB FB hc STg y4 (y5.trans (if_neg (by decide))) hL (by rw [q1 94 _ (by unfold yWr noW lyWr; omega)]; exact eP) hf (by omega)
  have q2 : ∀ b j, ¬ lyWr b j → mh_i hC b j = mh_i hB b j := fun b j z => (z1.2.2.2.2.2 b j z).1
  obtain ⟨-, n3, n4, n5, ⟨-, n6⟩, -⟩ := y2
  refine ⟨hC, fG_t y1 (fG_sub z1 (fun b j z => Or.inr (Or.inl z))), ⟨?_, ?_, ?_⟩, RK_G z1 (fun y j hy z => by unfold lyWr at z; omega) n3, RK_G z1 (fun y j hy z => by unfold lyWr at z; omega) n4, ⟨?_, ?_, ?_⟩, ⟨?_, ?_, ?_⟩, fun q h1' h2' => ⟨fun A r => ?_, fun A r => ?_⟩, z2, z3, fun Q => ?_⟩
  · rw [q2 81 2 (by unfold lyWr; omega)]; exact y3
  · rw [q2 81 49 (by unfold lyWr; omega)]; exact y6
  · rw [q2 81 9 (by unfold lyWr; omega)]; exact y7
  · rw [q2 118 0 (by unfold lyWr; omega)]; exact n5.1
  · rw [q2 130 0 (by unfold lyWr; omega)]; exact n5.2.1
  · rw [q2 131 0 (by unfold lyWr; omega)]; exact n5.2.2
  · rw [q2 81 64 (by unfold lyWr; omega)]; exact n6.1
  · rw [q2 81 65 (by unfold lyWr; omega)]; exact n6.2.1
  · rw [q2 81 66 (by unfold lyWr; omega)]; exact n6.2.2
  · exact RK_G z1 (fun y j hy z => by unfold lyWr at z; omega) ((y8 q h1' h2').1 A r)
  · exact RK_G z1 (fun y j hy z => by unfold lyWr at z; omega) ((y8 q h1' h2').2 A r)
  · rw [y9 Q]
    have y7' : mh_i hB 81 9 = 0 := y7
    have n1 : ((0 : Int32) = 0) = True := by decide
    clear F C0 FB CB y1 y5 y6 y7 y8 y9 z1 z2 z3 q1 q2 n3 n4 RL
    rw [s_331_142]
    simp only [s_331_0, s_331_1, s_331_4, s_331_5, s_331_6, s_331_9, s_331_12, s_331_13, s_331_14, s_331_15, s_331_16, s_331_19, s_331_20, s_331_21, s_331_24, s_331_25, s_331_26, s_331_29, s_331_30, s_331_31, s_331_32, s_331_33, s_331_34, s_331_37, s_331_38, s_331_39, s_331_42, s_331_43, s_331_44, s_331_47, s_331_48, s_331_49, s_331_52, s_331_53, s_331_54, s_331_57, s_331_58, s_331_59, s_331_62, s_331_63, s_331_66, s_331_67, s_331_68, s_331_71, s_331_74, s_331_75, s_331_76, s_331_79, s_331_80, s_331_83, s_331_86, s_331_87, s_331_90, s_331_93, s_331_94, s_331_95, s_331_98, s_331_99, s_331_100, s_331_103, s_331_104, s_331_105, s_331_108, s_331_111, s_331_112, s_331_115, s_331_118, s_331_119, s_331_122, s_331_123, s_331_126, s_331_127, s_331_128, s_331_131, s_331_134, s_331_135, s_331_138, s_331_139, s_331_143, s_331_146, s_331_149, s_331_150, s_331_154, s_331_157, s_331_160, s_331_161, s_331_162, s_331_165, s_331_166, s_331_169, s_331_172, s_331_173, s_331_176, s_331_179, s_331_180, s_331_183, s_331_184, s_331_187, s_331_188, s_331_191, s_331_192, s_331_195, s_331_196, s_331_199, s_331_202, s_331_203, s_331_204, s_331_207, s_331_210, s_331_213, s_331_214, s_331_217, s_331_218, s_331_221, s_331_222, s_331_225, e_331, mv_i_1, mv_l_1, mv_a_1, mv_a_2, mv_a_3, mk2_n, mk2_i, mk2_l, mk2_a, mk2_u, mk2_x, mB_T, mB_F, mS_cons, mS_nil, mSB_T, mSB_F, mca_nil, mca_i, mca_l, mca_r, mca_u, mca_x, mcat_i, mcat_l, mcat_r, mcat_u, mcat_x, mK_some, mK_none, va_rf_s, va_rf_n, lgc_eq, lgc_lt, lgc_gt, lgc_ge, lgc_le, mrd_104, mrd_105, mrd_106, mrd_107, true_and, and_true, and_self, false_and, and_false, true_or, or_true, false_or, or_false, not_true_eq_false, not_false_eq_true, mgb, mga, mgr, mN, reduceCtorEq, ↓reduceIte, eq_self, ge_iff_le, gt_iff_lt, hk_si, hk_sj, hk_sr, hl_si, hl_sj, hl_sr, hn_si, hn_sj, hn_sr, hs_si, hs_sj, hs_sr, hi_sj, hi_sr, hj_si, hj_sr, hr_si, hr_sj, hi_si, hj_sj, hr_sr, mg_si, mg_sj, mg_sr, Nat.reduceAdd, Nat.reduceMul, Nat.reduceSub, Nat.reduceLT, Nat.reduceGT, Nat.reduceEqDiff, Nat.reduceLeDiff, Nat.left_eq_add, Nat.add_eq_left, Nat.reduceMod, Nat.reduceDiv, Nat.succ_ne_self, gB, y7', n1, z4]
theorem lyT_b {D : lyD} : (lyT D f nP).1.1 < 100 := by
  unfold lyT
  by_cases c : (D.FP (D.c - 1)).length = 0
  · rw [if_pos c]
    exact lyQ_b _ _ _ _ _ _ _
  · rw [if_neg c]
    show 7 < 100
    decide
/-- something is wrong with it -/
theorem y_331b (F : RF h) {c0 : Option ab} (C0 : RK h 137 c0) (b9 : mh_i h 81 9 = 0) {nm : Nat → Nat} {KN : Nat → Prop} {D : lyD} {K : Nat → Int32} {m cnt N : Nat} {FK : Nat → Nat} {T : tr} {Sc : cps} (RL : ∀ h2, (∀ b j, 93 ≤ b → b ≤ 97 → mh_i h2 b j = mh_i h b j) → mh_i h2 81 24 = mh_i h 81 24 → RLC h2 nm KN D K m cnt FK T) (hc : 0 < D.c) (STg : ∀ g, g < D.c → ∃ k', stR D.sp Sc g N true (D.FT g) (D.S g) k' (D.FP g) (D.FP g).length) (hL : lsI T 1 = some (FK (D.c - 1))) (eP : mh_i h 94 (FK (D.c - 1) + 1) = Int32.ofNat nP) (hf : ts (D.FT (D.c - 1)) + rkF D (D.c - 1) ≤ f) (hd : 758 ≤ d) (W : ¬ (lyT D f nP).1.1 = 0) {x1 x2 : Option Value} : ∃ h', fG yWr h h' ∧ NOP h' ∧ (mh_i h' 81 2 = 0 ∧ mh_i h' 81 47 = Int32.ofNat (lyT D f nP).1.1 ∧ mh_i h' 81 48 = Int32.ofNat (lyT D f nP).1.2 ∧ mh_i h' 81 49 = 2) ∧ (∀ q, 1 ≤ q → q < 250 → (∀ A, RK h (132 + 10 * q) A → RK h' (132 + 10 * q) A) ∧ ∀ A, RK h (137 + 10 * q) A → RK h' (137 + 10 * q) A) ∧ ∀ Q, mw (d + 5) 331 Q 93 [some (.ref 81), x1, x2] [] h = Q (some (.int 2)) h' := by
  obtain ⟨hB, y1, ⟨y2, y3, y4⟩, -, y6, -, -, y9, y10, -, y12⟩ := y_331l (d := d) (x1 := x1) (x2 := x2) F C0 b9 RL hc STg hL eP hf hd
  obtain ⟨e47, e48⟩ := y10 W
  have lb := lyT_b (D := D) (f := f) (nP := nP)
  have FB : RF hB := RF_G y1 F
  have f1 : fG (fun b j => b = 81 ∧ j = 49) hB (mh_si hB 81 49 2) := fG_si ⟨rfl, rfl⟩
  have FC : RF (mh_si hB 81 49 2) := RF_G f1 FB
  have jC : ∀ j, j ≠ 49 → mh_i (mh_si hB 81 49 2) 81 j = mh_i hB 81 j := fun j w => by rw [hi_si, if_neg (fun z => w z.2)]
  have v49 : mh_i (mh_si hB 81 49 2) 81 49 = 2 := by rw [hi_si, if_pos ⟨rfl, rfl⟩]
  obtain ⟨hD, z1, z2, z3, z4, z5, z6, z7, z8⟩ := u_299 (d := d) FC (RK_G f1 (fun y j _ z => by omega) y6)
  have q1 : ∀ b j, ¬ noW b j → mh_i hD b j = mh_i (mh_si hB 81 49 2) b j := fun b j z => (z1.2.2.2.2.2 b j z).1
  have jD : ∀ j, ¬ noW 81 j → j ≠ 49 → mh_i hD 81 j = mh_i hB 81 j := fun j w w2 => (q1 81 j w).trans (jC j w2)
  refine ⟨hD, fG_t y1 (fG_t (fG_sub f1 (fun y j z => Or.inr (Or.inr ⟨z.1, Or.inr z.2⟩))) (fG_sub z1 (fun y j z => Or.inl z))), ⟨z2, z3, z4, z5, z6, z7⟩, ⟨?_, ?_, ?_, ?_⟩, fun q h1' h2' => ⟨fun A r => ?_, fun A r => ?_⟩, fun Q => ?_⟩
  · rw [jD 2 (by unfold noW; omega) (by omega)]; exact y2
  · rw [jD 47 (by unfold noW; omega) (by omega)]; exact e47
  · rw [jD 48 (by unfold noW; omega) (by omega)]; exact e48
  · rw [q1 81 49 (by unfold noW; omega)]; exact v49
  · exact RK_G z1 (fun y j hy z => by unfold noW at z; omega) (RK_G f1 (fun y j hy z => by omega) ((y9 q h1' h2').1 A r))
  · exact RK_G z1 (fun y j hy z => by unfold noW at z; omega) (RK_G f1 (fun y j hy z => by omega) ((y9 q h1' h2').2 A r))
  · rw [y12 Q]
    have gB : mg hB 81 14 := FB.g 81 14 70 (by decide +kernel)
    have gD : mg hD 81 14 := (RF_G z1 FC).g 81 14 70 (by decide +kernel)
    have le : (Int32.ofNat (lyT D f nP).1.1 ≤ 0) = False := by
      rw [show (0 : Int32) = Int32.ofNat 0 from rfl, nn_le (by omega) (by omega)]
      exact eq_false (by omega)
    have w49 : mh_i hD 81 49 = 2 := (q1 81 49 (by unfold noW; omega)).trans v49
    clear F C0 FB FC y1 y6 y9 y10 y12 z1 z2 z3 z4 z5 q1 jD jC f1 RL STg
    rw [s_331_153]
    simp only [s_331_0, s_331_1, s_331_4, s_331_5, s_331_6, s_331_9, s_331_12, s_331_13, s_331_14, s_331_15, s_331_16, s_331_19, s_331_20, s_331_21, s_331_24, s_331_25, s_331_26, s_331_29, s_331_30, s_331_31, s_331_32, s_331_33, s_331_34, s_331_37, s_331_38, s_331_39, s_331_42, s_331_43, s_331_44, s_331_47, s_331_48, s_331_49, s_331_52, s_331_53, s_331_54, s_331_57, s_331_58, s_331_59, s_331_62, s_331_63, s_331_66, s_331_67, s_331_68, s_331_71, s_331_74, s_331_75, s_331_76, s_331_79, s_331_80, s_331_83, s_331_86, s_331_87, s_331_90, s_331_93, s_331_94, s_331_95, s_331_98, s_331_99, s_331_100, s_331_103, s_331_104, s_331_105, s_331_108, s_331_111, s_331_112, s_331_115, s_331_118, s_331_119, s_331_122, s_331_123, s_331_126, s_331_127, s_331_128, s_331_131, s_331_134, s_331_135, s_331_138, s_331_139, s_331_142, s_331_143, s_331_146, s_331_149, s_331_150, s_331_154, s_331_157, s_331_160, s_331_161, s_331_162, s_331_165, s_331_166, s_331_169, s_331_172, s_331_173, s_331_176, s_331_179, s_331_180, s_331_183, s_331_184, s_331_187, s_331_188, s_331_191, s_331_192, s_331_195, s_331_196, s_331_199, s_331_202, s_331_203, s_331_204, s_331_207, s_331_210, s_331_213, s_331_214, s_331_217, s_331_218, s_331_221, s_331_222, s_331_225, e_331, mv_i_1, mv_l_1, mv_a_1, mv_a_2, mv_a_3, mk2_n, mk2_i, mk2_l, mk2_a, mk2_u, mk2_x, mB_T, mB_F, mS_cons, mS_nil, mSB_T, mSB_F, mca_nil, mca_i, mca_l, mca_r, mca_u, mca_x, mcat_i, mcat_l, mcat_r, mcat_u, mcat_x, mK_some, mK_none, va_rf_s, va_rf_n, lgc_eq, lgc_lt, lgc_gt, lgc_ge, lgc_le, mrd_104, mrd_105, mrd_106, mrd_107, true_and, and_true, and_self, false_and, and_false, true_or, or_true, false_or, or_false, not_true_eq_false, not_false_eq_true, mgb, mga, mgr, mN, reduceCtorEq, ↓reduceIte, eq_self, ge_iff_le, gt_iff_lt, hk_si, hk_sj, hk_sr, hl_si, hl_sj, hl_sr, hn_si, hn_sj, hn_sr, hs_si, hs_sj, hs_sr, hi_sj, hi_sr, hj_si, hj_sr, hr_si, hr_sj, hi_si, hj_sj, hr_sr, mg_si, mg_sj, mg_sr, Nat.reduceAdd, Nat.reduceMul, Nat.reduceSub, Nat.reduceLT, Nat.reduceGT, Nat.reduceEqDiff, Nat.reduceLeDiff, Nat.left_eq_add, Nat.add_eq_left, Nat.reduceMod, Nat.reduceDiv, Nat.succ_ne_self, gB, gD, e47, le, z8, w49]
/-- the frame alone -/
theorem RYh_G (x : fG W h h1) (Y : RYh h) : RYh h1 := by
  have F := RF_G x Y.F
  obtain ⟨e1, e2, e3, e4, -, -⟩ := x
  obtain ⟨PQ, PS, PU, PF, PL, PH, lP, Pr⟩ := Y.P
  obtain ⟨c, c1, c2, c3, c4, c5, c6, c7⟩ := Y.t
  refine RYh.of ⟨F, ⟨PQ, PS, PU, PF, PL, PH, lP, PR_same (U := fun _ _ => True) Pr ⟨Nat.le_of_eq e4.symm, fun b _ => ⟨by rw [e1], by rw [e2]⟩, fun b j _ w => absurd trivial w⟩ (fun j _ _ => by rw [e3]) (fun i a ha => Or.inl (by rw [e3] at ha; exact ha))⟩, fun i a ha => ?_, fun i j a ha hb => ?_, c, ?_, ?_, ?_, ?_, c5, fun i a ha => ?_, fun z => ?_⟩
  · rw [e3] at ha
    obtain ⟨a1, a2⟩ := Y.K i a ha
    refine ⟨a1, ?_⟩
    unfold ko mg at a2 ⊢
    rw [e1, e2, e3, e4]
    exact a2
  · rw [e3] at ha hb
    exact Y.u i j a ha hb
  · rw [e3]; exact c1
  · unfold mg at c2 ⊢
    rw [e1, e4]
    exact c2
  · rw [e2]; exact c3
  · rw [e2]; exact c4
  · rw [e3] at ha
    exact c6 i a ha
  · unfold paR at c7 z
    rw [e3] at z
    exact c7 z
end YYs
