set_option maxRecDepth 100000
/-! the fields numbers and arrays of Knowns, where they are nothing too -/
def f12 (j : Nat) : Prop := j = 1 ∨ j = 2
section FIs
variable {s0 k d : Nat} {V : Nat → Nat → Prop} {h h1 : mh_H} {T : Nat} {sN : Int → Prop} {en : Int → Nat} {o q : Nat} {C D : Option ab} {A : ab}
theorem rs_ki (J : RJ h T sN en) (x : rs V h h1) (s : sp h o) (n : ∀ j, ¬ V o j) (j : Nat) : mh_i h1 o j = mh_i h o j := by
  obtain ⟨PQ, PS, PU, PF, PL, PH, lP, P⟩ := J.p
  obtain ⟨i, hi⟩ := id s
  have lo := J.s i o hi
  refine (x.1.1.2.2 o j lo.2.1.2 (fun w => ?_)).1
  rcases w with w | w | w
  · omega
  · exact sp_pa P s (y := 0) (by omega) w
  · exact n j w
theorem rq_ki (J : RJ h T sN en) (x : rq s0 V h h1) (l : lv h s0 o) (n : ∀ j, ¬ V o j) (j : Nat) : mh_i h1 o j = mh_i h o j := by
  obtain ⟨PQ, PS, PU, PF, PL, PH, lP, P⟩ := J.p
  obtain ⟨i, hi, e⟩ := id l
  have lo := J.s i o e
  refine (x.f.1.2.2 o j lo.2.1.2 (fun w => ?_)).1
  rcases w with w | w | w | ⟨i', a, w1, w2, w3⟩ | w
  · omega
  · exact sp_pa P ⟨i, e⟩ (y := 0) (by omega) w
  · omega
  · have ne := lv_ne J l w1 w2
    exact kc_no J ⟨i, e⟩ ⟨i', w2⟩ ne 0 (by omega) w3
  · exact n j w
theorem fi_281 (ho : ko h o) (ne : o ≠ q) (c : RK h q C) (e : ∀ Q, mcall d 281 [.ref o, .ref q] h Q = Q none h1) {j : Nat} (hj : f12 j) : mh_i h1 o j = mh_i h q j := by
  have hz : mh_i h q 0 = 0 ∨ mh_i h q 0 = 1 := by
    cases C with
    | none => exact Or.inr (KN.z c)
    | some A => exact Or.inl (KM.z c)
  have u := cal_u e (fun Q => c_281 (Q := Q) ho (RK_ko c) ne hz)
  rw [u]
  have m01 : ¬ o = o + 1 := by omega
  have m02 : ¬ o = o + 2 := by omega
  have m03 : ¬ o = o + 3 := by omega
  have m04 : ¬ o = o + 4 := by omega
  unfold kbec
  rcases hj with e | e <;> subst e
  · simp only [hi_cp, hi_si, m01, m02, m03, m04, false_and, if_false, true_and, Nat.reduceEqDiff, if_true, and_self]
  · simp only [hi_cp, hi_si, m01, m02, m03, m04, false_and, if_false, true_and, Nat.reduceEqDiff, if_true, and_self]
theorem RK_f (c : RK h o (some A)) : mh_i h o 1 = Int32.ofNat A.n ∧ mh_i h o 2 = Int32.ofNat A.a := ⟨KM.n c, KM.a c⟩
theorem fi_293 (ne : o ≠ q) (c : RK h o C) (c2 : RK h q D) (hn : ∀ A' B', C = some A' → D = some B' → A'.n = B'.n ∧ A'.a = B'.a) (c1 : RK h1 o (o_join C D)) (e : ∀ Q, mcall (d + 1) 293 [.ref o, .ref q] h Q = Q none h1) {j : Nat} (hj : f12 j) (eq : mh_i h o j = mh_i h q j) : mh_i h1 o j = mh_i h o j := by
  cases D with
  | none =>
    have gq := (RK_ko c2).1
    have z1 : mh_i h q 0 = 1 := KN.z c2
    have e10 : ((1 : Int32) = 0) = False := by decide
    have ex : ∀ Q, mcall (d + 1) 293 [.ref o, .ref q] h Q = Q none h := fun Q => by
      clear c c2 c1 hn e eq hj
      simp (disch := omega) only [s_293_0, s_293_1, s_293_4, s_293_7, s_293_8, s_293_9, s_293_12, s_293_15, s_293_16, s_293_17, s_293_20, s_293_21, s_293_22, s_293_23, s_293_24, s_293_25, s_293_26, s_293_29, s_293_30, s_293_33, s_293_34, s_293_35, s_293_36, s_293_37, s_293_38, s_293_41, s_293_42, s_293_45, s_293_46, s_293_49, s_293_51, s_293_52, s_293_53, s_293_54, s_293_55, s_293_56, s_293_59, s_293_61, s_293_62, s_293_63, s_293_64, s_293_65, s_293_66, s_293_67, s_293_70, s_293_72, s_293_73, s_293_74, s_293_75, s_293_76, s_293_77, s_293_80, s_293_81, s_293_84, s_293_87, s_293_90, s_293_93, s_293_94, s_293_95, s_293_96, s_293_97, s_293_100, s_293_103, s_293_104, s_293_107, s_293_108, s_293_109, s_293_112, s_293_113, s_293_114, s_293_115, s_293_118, s_293_119, s_293_120, s_293_123, s_293_124, s_293_125, s_293_128, s_293_129, s_293_130, s_293_133, s_293_134, s_293_135, s_293_136, s_293_139, s_293_140, s_293_141, s_293_144, s_293_145, s_293_148, s_293_151, e_293, mv_i_1, mv_l_1, mv_a_1, mv_a_2, mv_a_3, mk2_n, mk2_i, mk2_l, mk2_a, mk2_u, mk2_x, mB_T, mB_F, mS_cons, mS_nil, mSB_T, mSB_F, mca_nil, mca_i, mca_l, mca_r, mca_u, mca_x, mcat_i, mcat_l, mcat_r, mcat_u, mcat_x, mK_some, mK_none, va_rf_s, va_rf_n, lgc_eq, lgc_lt, lgc_gt, lgc_ge, lgc_le, mrd_104, mrd_105, mrd_106, mrd_107, true_and, and_true, and_self, false_and, and_false, true_or, or_true, false_or, or_false, not_true_eq_false, not_false_eq_true, mgb, mga, mgr, mN, reduceCtorEq, ↓reduceIte, eq_self, ge_iff_le, gt_iff_lt, Nat.reduceAdd, Nat.reduceMul, Nat.reduceSub, Nat.reduceLT, Nat.reduceGT, Nat.reduceEqDiff, Nat.reduceLeDiff, Nat.left_eq_add, Nat.add_eq_left, Nat.reduceMod, Nat.reduceDiv, Nat.succ_ne_self, gq, z1, e10]
    rw [cal_u e ex]
  | some B =>
    cases C with
    | none =>
      have f1 := RK_f (A := B) c1
      have f2 := RK_f c2
      rcases hj with z | z <;> subst z
      · rw [f1.1, eq, f2.1]
      · rw [f1.2, eq, f2.2]
    | some A =>
      have f1 := RK_f (A := a_join A B) c1
      have f2 := RK_f c
      rcases hj with z | z <;> subst z
      · rw [f1.1, f2.1]; rfl
      · rw [f1.2, f2.2]; rfl
theorem fi_227 (J : RJ h T sN en) (hk : mh_i h 115 11 = Int32.ofNat k) (hk2 : k < 2048) (l : lv h k q) (c : RK h q C) {h2 : mh_H} (e1 : mh_r h2 119 k = some o) (e : ∀ Q, mcall (d + 2) 227 [.ref 115, .ref q] h Q = Q (some (.ref o)) h2) {j : Nat} (hj : f12 j) : mh_i h2 o j = mh_i h q j := by
  obtain ⟨h1, o', x, J1, a1, a2, a3, a4, a5⟩ := t_226 (d := d) J hk hk2
  have l1 := rq_lv x l
  have c1 := rq_K J x l (fun _ _ _ w => w) c
  have ne : o' ≠ q := fun z => lv_ne J1 l1 (Nat.le_refl _) a1 z.symm
  obtain ⟨h3, y, J2, r2, i2, b6⟩ := t_281 (d := d + 1) J1 ⟨k, a1⟩ ne c1
  have g := J.a.g
  have go : mg h1 o' 13 := a4.1
  have ex : ∀ Q, mcall (d + 2) 227 [.ref 115, .ref q] h Q = Q (some (.ref o')) h3 := fun Q => by
    simp (disch := omega) only [s_227_0, s_227_1, s_227_4, s_227_4n, s_227_5, s_227_6, s_227_7, s_227_10, s_227_11, s_227_11n, e_227, mv_i_1, mv_l_1, mv_a_1, mv_a_2, mv_a_3, mk2_n, mk2_i, mk2_l, mk2_a, mk2_u, mk2_x, mB_T, mB_F, mS_cons, mS_nil, mSB_T, mSB_F, mca_nil, mca_i, mca_l, mca_r, mca_u, mca_x, mcat_i, mcat_l, mcat_r, mcat_u, mcat_x, mK_some, mK_none, va_rf_s, va_rf_n, lgc_eq, lgc_lt, lgc_gt, lgc_ge, lgc_le, mrd_104, mrd_105, mrd_106, mrd_107, true_and, and_true, and_self, false_and, and_false, true_or, or_true, false_or, or_false, not_true_eq_false, not_false_eq_true, mgb, mga, mgr, mN, reduceCtorEq, ↓reduceIte, eq_self, ge_iff_le, gt_iff_lt, Nat.reduceAdd, Nat.reduceMul, Nat.reduceSub, Nat.reduceLT, Nat.reduceGT, Nat.reduceEqDiff, Nat.reduceLeDiff, Nat.left_eq_add, Nat.add_eq_left, Nat.reduceMod, Nat.reduceDiv, Nat.succ_ne_self, g, go, a5, b6]
  have u := cal_u e ex
  have r19 : mh_r h3 119 k = some o' := by
    have y' : rq k (fun _ _ => False) h1 h3 := rq_w (rq_rs (s0 := k) J1 (vK_1 ⟨k, a1⟩) y) (Nat.le_refl _) (fun b j _ w => Or.inr (Or.inr (Or.inr (Or.inr (Or.inl ⟨k, o', Nat.le_refl _, a1, w⟩)))))
    exact y'.k k o' a1
  rw [u, r19] at e1
  cases e1
  rw [u, fi_281 a4 ne c1 b6 hj]
  exact rq_ki J x l (fun _ w => w) j
theorem fi_252 {as : List Value} {r : Option Value} (e : ∀ Q, mcall d 252 as h Q = Q r h1) (g : mg h o 13) {j : Nat} (hj : f12 j) : mh_i h1 o j = mh_i h o j := by
  rcases hj with z | z <;> subst z
  · exact (cal_kf (by decide) yRel_1 (by decide) e).2.2 o g.2 g.1
  · exact (cal_kf (by decide) yRel_2 (by decide) e).2.2 o g.2 g.1
end FIs
