set_option maxRecDepth 100000
/-- the answer of Analysis.range at a node -/
def R0 (h : mh_H) (o K V Z : Nat) (A : ab) (sN : Int → Prop) (en : Int → Nat) (t : tr) : Prop := ∀ (d k : Nat) (al : Int32) (lo hi : Int64), 2 * th t + 6 ≤ d → nd (mh_i h K) (mh_i h V) (mh_i h Z) k t → k + ts t ≤ 26000 → wS sN en A t false → ∃ b l u, eR (ev en A t none) b l u ∧ ∀ Q, mcall d 233 [.ref o, .int (Int32.ofNat k)] (aS h o al lo hi) Q = Q (some (.int (kb b))) (aS h o (al ||| (ev en A t none).2) l u)
/-- the loop of Analysis.several -/
def R1 (h : mh_H) (o K V Z : Nat) (A : ab) (sN : Int → Prop) (en : Int → Nat) (t : tr) : Prop := ∀ (d k0 z p : Nat) (al : Int32) (a b : Int64) (nm : Option Int) (x7 : Int32) (x8 : Option Value), 2 * th t + 5 ≤ d → nd (mh_i h K) (mh_i h V) (mh_i h Z) p t → p + ts t = k0 + z → k0 + z ≤ 26000 → k0 < 26000 → mh_i h Z k0 = Int32.ofNat z → wS sN en A t true → iI a.toInt → iI b.toInt → a.toInt ≤ b.toInt → nmR h V sN en A x7 nm → ∃ f l u, eR (ev en A t (some (a.toInt, b.toInt, nm))) f l u ∧ ∀ Q, mw d 235 Q 49 [some (.ref o), some (.int (Int32.ofNat k0)), some (.int (Int32.ofNat p)), some (.long a), none, some (.long b), none, some (.int x7), x8] [] (aS h o al a b) = Q (some (.int (kb f))) (aS h o (al ||| (ev en A t (some (a.toInt, b.toInt, nm))).2) l u)
section R233
variable {d : Nat} {h : mh_H} {o K V Z M S N T : Nat} {A : ab} {sN : Int → Prop} {en : Int → Nat} {al : Int32} {lo hi : Int64}
theorem eR_s {q : er} {b : Bool} {lo hi : Int64} (h : eR q b lo hi) (hb : b = true) : ∃ x y, q.1 = some (x, y) ∧ lo.toInt = x ∧ hi.toInt = y := by
  unfold eR at h
  cases hq : q.1 with
  | none => rw [hq] at h; rw [hb] at h; cases h
  | some p => rw [hq] at h; exact ⟨p.1, p.2, rfl, h.2.1, h.2.2⟩
theorem eR_n {q : er} {b : Bool} {lo hi : Int64} (h : eR q b lo hi) (hb : b = false) : q.1 = none := by
  unfold eR at h
  cases hq : q.1 with
  | none => rfl
  | some p => rw [hq] at h; rw [hb] at h; exact absurd h.1 (by decide)
theorem e_bi_n {q : er} {f : Int → Int → er} (h : q.1 = none) : e_bi q f = (none, q.2) := by unfold e_bi; rw [h]
theorem e_bi_y {q : er} {f : Int → Int → er} {x y : Int} (h : q.1 = some (x, y)) : e_bi q f = e_al q.2 (f x y) := by unfold e_bi; rw [h]
theorem eR_al {q : er} {b : Bool} {lo hi : Int64} {x : Int32} (h : eR q b lo hi) : eR (e_al x q) b lo hi := h
theorem R1_leaf (H : AH h o K V Z M S N T A sN en) (u : Unit) : R1 h o K V Z A sN en (.leaf u) := by
  intro d k0 z p al a b nm x7 x8 hd hn hp hz hk hZ w ha hb hab hnm
  refine ⟨true, a, b, ⟨rfl, rfl, rfl⟩, fun Q => ?_⟩
  obtain ⟨e, rfl⟩ : ∃ e, d = e + 5 := ⟨d - 5, by omega⟩
  have g := H.g
  have c := fun Q' => c_228 (d := e + 4) (Q := Q') (al := al) (lo := a) (hi := b) H hk hZ
  have hp' : p = k0 + z := by have : ts (.leaf u) = 0 := rfl; omega
  have hle : (k0 + z ≤ k0 + z) = True := eq_true (Nat.le_refl _)
  have a0 : al ||| (ev en A (.leaf u) (some (a.toInt, b.toInt, nm))).2 = al := i32_or0 al
  have k1' : kb true = 1 := rfl
  rw [a0, k1', s_235_49]
  subst hp'
  simp (disch := omega) only [s_235_0, s_235_1, s_235_2, s_235_3, s_235_4, s_235_5, s_235_6, s_235_9, s_235_12, s_235_13, s_235_14, s_235_15, s_235_18, s_235_19, s_235_20, s_235_23, s_235_25, s_235_26, s_235_29, s_235_30, s_235_31, s_235_33, s_235_36, s_235_37, s_235_40, s_235_41, s_235_43, s_235_44, s_235_45, s_235_48, s_235_50, s_235_51, s_235_52, s_235_55, s_235_58, s_235_59, s_235_60, s_235_61, s_235_62, s_235_65, s_235_68, s_235_69, s_235_70, s_235_72, s_235_75, s_235_76, s_235_79, s_235_80, s_235_81, s_235_82, s_235_83, s_235_85, s_235_88, s_235_89, s_235_92, s_235_93, s_235_94, s_235_96, s_235_99, s_235_100, s_235_103, s_235_104, s_235_105, s_235_107, s_235_110, s_235_111, s_235_114, s_235_115, s_235_117, s_235_119, s_235_122, s_235_123, s_235_124, s_235_127, s_235_128, s_235_129, s_235_130, s_235_132, s_235_135, s_235_136, s_235_137, s_235_138, s_235_139, s_235_142, s_235_145, s_235_148, s_235_151, s_235_152, s_235_153, s_235_156, s_235_157, s_235_158, s_235_159, s_235_161, s_235_162, s_235_165, s_235_166, s_235_169, s_235_172, s_235_175, s_235_176, s_235_177, s_235_178, s_235_180, s_235_181, s_235_184, s_235_185, s_235_186, s_235_189, s_235_191, s_235_192, s_235_193, s_235_196, s_235_197, s_235_200, s_235_201, e_235, mv_i_1, mv_l_1, mv_a_1, mv_a_2, mv_a_3, mk2_n, mk2_i, mk2_l, mk2_a, mk2_u, mk2_x, mB_T, mB_F, mS_cons, mS_nil, mSB_T, mSB_F, mca_nil, mca_i, mca_l, mca_r, mca_u, mca_x, mcat_i, mcat_l, mcat_r, mcat_u, mcat_x, mK_some, mK_none, va_rf_s, va_rf_n, lgc_eq, lgc_lt, lgc_gt, lgc_ge, lgc_le, mrd_104, mrd_105, mrd_106, mrd_107, true_and, and_true, and_self, false_and, and_false, true_or, or_true, false_or, or_false, not_true_eq_false, not_false_eq_true, mgb, mga, mgr, mN, reduceCtorEq, ↓reduceIte, eq_self, ge_iff_le, gt_iff_lt, Nat.reduceAdd, Nat.reduceMul, Nat.reduceSub, Nat.reduceLT, Nat.reduceGT, Nat.reduceEqDiff, Nat.reduceLeDiff, Nat.left_eq_add, Nat.add_eq_left, Nat.reduceMod, Nat.reduceDiv, Nat.succ_ne_self, aS_g, g, c, nn_le, hle]
theorem R1_br (H : AH h o K V Z M S N T A sN en) {n : Nat} {cs r : tr} (i0 : R0 h o K V Z A sN en cs) (i1 : R1 h o K V Z A sN en r) : R1 h o K V Z A sN en (.branch n cs r) := by
  intro d k0 z p al a b nm x7 x8 hd hn hp hz hk hZ w ha hb hab hnm
  obtain ⟨e, rfl⟩ : ∃ e, d = e + 5 := ⟨d - 5, by omega⟩
  rw [th_B] at hd
  rw [ts_B] at hp
  rw [nd_B] at hn
  obtain ⟨n1, n2, n3, n4, n5⟩ := hn
  obtain ⟨w1, w2, w3⟩ := w
  obtain ⟨m, c1, r1, rfl⟩ := w_b w2
  have n4' := n4
  rw [nd_B] at n4'
  obtain ⟨m1, m2, m3, -, -⟩ := n4'
  rw [ts_B] at hp n3 n5
  have g := H.g
  have cA := fun Q' => c_228 (d := e + 4) (Q := Q') (al := al) (lo := a) (hi := b) H hk hZ
  have ei : ∀ k, Int32.ofNat k + 1 = Int32.ofNat (k + 1) := fun k => nn_add (a := k) (b := 1)
  have e10 : ((1 : Int32) = 0) = False := by decide
  have e00 : ((0 : Int32) = 0) = True := by decide
  have hlt : ¬ k0 + z ≤ p := by omega
  obtain ⟨f, l, u, q1, q2⟩ := i0 (e + 4) (p + 1) al a b (by omega) n4 (by rw [ts_B]; omega) w2
  rw [ev_L]
  cases f with
  | false =>
    have qn := eR_n q1 rfl
    rw [e_bi_n qn]
    refine ⟨false, l, u, rfl, fun Q => ?_⟩
    have k0' : kb false = 0 := rfl
    rw [k0'] at q2
    rw [s_235_49, k0']
    simp (disch := omega) only [s_235_0, s_235_1, s_235_2, s_235_3, s_235_4, s_235_5, s_235_6, s_235_9, s_235_12, s_235_13, s_235_14, s_235_15, s_235_18, s_235_19, s_235_20, s_235_23, s_235_25, s_235_26, s_235_29, s_235_30, s_235_31, s_235_33, s_235_36, s_235_37, s_235_40, s_235_41, s_235_43, s_235_44, s_235_45, s_235_48, s_235_50, s_235_51, s_235_52, s_235_55, s_235_58, s_235_59, s_235_60, s_235_61, s_235_62, s_235_65, s_235_68, s_235_69, s_235_70, s_235_72, s_235_75, s_235_76, s_235_79, s_235_80, s_235_81, s_235_82, s_235_83, s_235_85, s_235_88, s_235_89, s_235_92, s_235_93, s_235_94, s_235_96, s_235_99, s_235_100, s_235_103, s_235_104, s_235_105, s_235_107, s_235_110, s_235_111, s_235_114, s_235_115, s_235_117, s_235_119, s_235_122, s_235_123, s_235_124, s_235_127, s_235_128, s_235_129, s_235_130, s_235_132, s_235_135, s_235_136, s_235_137, s_235_138, s_235_139, s_235_142, s_235_145, s_235_148, s_235_151, s_235_152, s_235_153, s_235_156, s_235_157, s_235_158, s_235_159, s_235_161, s_235_162, s_235_165, s_235_166, s_235_169, s_235_172, s_235_175, s_235_176, s_235_177, s_235_178, s_235_180, s_235_181, s_235_184, s_235_185, s_235_186, s_235_189, s_235_191, s_235_192, s_235_193, s_235_196, s_235_197, s_235_200, s_235_201, e_235, mv_i_1, mv_l_1, mv_a_1, mv_a_2, mv_a_3, mk2_n, mk2_i, mk2_l, mk2_a, mk2_u, mk2_x, mB_T, mB_F, mS_cons, mS_nil, mSB_T, mSB_F, mca_nil, mca_i, mca_l, mca_r, mca_u, mca_x, mcat_i, mcat_l, mcat_r, mcat_u, mcat_x, mK_some, mK_none, va_rf_s, va_rf_n, lgc_eq, lgc_lt, lgc_gt, lgc_ge, lgc_le, mrd_104, mrd_105, mrd_106, mrd_107, true_and, and_true, and_self, false_and, and_false, true_or, or_true, false_or, or_false, not_true_eq_false, not_false_eq_true, mgb, mga, mgr, mN, reduceCtorEq, ↓reduceIte, eq_self, ge_iff_le, gt_iff_lt, Nat.reduceAdd, Nat.reduceMul, Nat.reduceSub, Nat.reduceLT, Nat.reduceGT, Nat.reduceEqDiff, Nat.reduceLeDiff, Nat.left_eq_add, Nat.add_eq_left, Nat.reduceMod, Nat.reduceDiv, Nat.succ_ne_self, aS_g, g, cA, nn_le, hlt, ei, q2, e00]
  | true =>
    obtain ⟨x, y, qs, qx, qy⟩ := eR_s q1 rfl
    obtain ⟨b1, b2, b3⟩ := (ev_in H.T _).1 w2 x y qs
    rw [e_bi_y qs]
    rw [← qx, ← qy] at *
    have tn : tN (.branch m c1 r1) = if tK m = 13 then some (tV m) else none := rfl
    rw [tn]
    obtain ⟨f2, l2, u2, x8', s1, s2⟩ := sv_2 (d := e + 2) (al := al ||| (ev en A (.branch m c1 r1) none).2) (k0 := k0) (x8 := x8) H (p := p) (n := n) (m := m) (a := a) (b := b) (c := l) (e := u) (by omega) n1 m1 m2 (fun z => w_13 z w2) w1 ha hb b1 b2 b3 hnm n3
    have k1' : kb true = 1 := rfl
    rw [k1'] at q2
    have E1 : ∀ Q, mw (e + 5) 235 Q 49 [some (.ref o), some (.int (Int32.ofNat k0)), some (.int (Int32.ofNat p)), some (.long a), none, some (.long b), none, some (.int x7), x8] [] (aS h o al a b) = mw (e + 5) 235 Q 70 [some (.ref o), some (.int (Int32.ofNat k0)), some (.int (Int32.ofNat p)), some (.long a), none, some (.long b), none, some (.int x7), x8] [] (aS h o (al ||| (ev en A (.branch m c1 r1) none).2) l u) := fun Q => by
      rw [s_235_49]
      simp (disch := omega) only [s_235_0, s_235_1, s_235_2, s_235_3, s_235_4, s_235_5, s_235_6, s_235_9, s_235_12, s_235_13, s_235_14, s_235_15, s_235_18, s_235_19, s_235_20, s_235_23, s_235_25, s_235_26, s_235_29, s_235_30, s_235_31, s_235_33, s_235_36, s_235_37, s_235_40, s_235_41, s_235_43, s_235_44, s_235_45, s_235_48, s_235_50, s_235_51, s_235_52, s_235_55, s_235_58, s_235_59, s_235_60, s_235_61, s_235_62, s_235_65, s_235_68, s_235_69, s_235_72, s_235_75, s_235_76, s_235_79, s_235_80, s_235_81, s_235_82, s_235_83, s_235_85, s_235_88, s_235_89, s_235_92, s_235_93, s_235_94, s_235_96, s_235_99, s_235_100, s_235_103, s_235_104, s_235_105, s_235_107, s_235_110, s_235_111, s_235_114, s_235_115, s_235_117, s_235_119, s_235_122, s_235_123, s_235_124, s_235_127, s_235_128, s_235_129, s_235_130, s_235_132, s_235_135, s_235_136, s_235_137, s_235_138, s_235_139, s_235_142, s_235_145, s_235_148, s_235_151, s_235_152, s_235_153, s_235_156, s_235_157, s_235_158, s_235_159, s_235_161, s_235_162, s_235_165, s_235_166, s_235_169, s_235_172, s_235_175, s_235_176, s_235_177, s_235_178, s_235_180, s_235_181, s_235_184, s_235_185, s_235_186, s_235_189, s_235_191, s_235_192, s_235_193, s_235_196, s_235_197, s_235_200, s_235_201, e_235, mv_i_1, mv_l_1, mv_a_1, mv_a_2, mv_a_3, mk2_n, mk2_i, mk2_l, mk2_a, mk2_u, mk2_x, mB_T, mB_F, mS_cons, mS_nil, mSB_T, mSB_F, mca_nil, mca_i, mca_l, mca_r, mca_u, mca_x, mcat_i, mcat_l, mcat_r, mcat_u, mcat_x, mK_some, mK_none, va_rf_s, va_rf_n, lgc_eq, lgc_lt, lgc_gt, lgc_ge, lgc_le, mrd_104, mrd_105, mrd_106, mrd_107, true_and, and_true, and_self, false_and, and_false, true_or, or_true, false_or, or_false, not_true_eq_false, not_false_eq_true, mgb, mga, mgr, mN, reduceCtorEq, ↓reduceIte, eq_self, ge_iff_le, gt_iff_lt, Nat.reduceAdd, Nat.reduceMul, Nat.reduceSub, Nat.reduceLT, Nat.reduceGT, Nat.reduceEqDiff, Nat.reduceLeDiff, Nat.left_eq_add, Nat.add_eq_left, Nat.reduceMod, Nat.reduceDiv, Nat.succ_ne_self, aS_g, g, cA, nn_le, hlt, ei, q2, e10]
    cases f2 with
    | false =>
      have sn := eR_n s1 rfl
      rw [e_bi_n sn]
      refine ⟨false, l2, u2, rfl, fun Q => ?_⟩
      rw [E1, s2, if_neg (by decide), i32_ora]
      rfl
    | true =>
      obtain ⟨x', y', ss, sx, sy⟩ := eR_s s1 rfl
      obtain ⟨d1, d2, d3⟩ := e_two_in ha hb b1 b2 ss
      rw [e_bi_y ss]
      rw [← sx, ← sy] at *
      obtain ⟨f3, l3, u3, v1, v2⟩ := i1 (e + 5) k0 z (p + (1 + (1 + ts c1 + ts r1))) ((al ||| (ev en A (.branch m c1 r1) none).2) ||| (e_two en A (tK n) nm (if tK m = 13 then some (tV m) else none) a.toInt b.toInt l.toInt u.toInt).2) l2 u2 none (-1) x8' (by omega) (by
        have : p + (1 + (1 + ts c1 + ts r1)) = p + 1 + (1 + ts c1 + ts r1) := by omega
        rw [this]; exact n5) (by omega) hz hk hZ w3 d1 d2 d3 rfl
      refine ⟨f3, l3, u3, v1, fun Q => ?_⟩
      rw [E1, s2, if_pos rfl, v2, i32_ora, i32_ora]
      rfl
end R233
