set_option maxRecDepth 100000
section WS
variable {sN : Int → Prop} {en : Int → Nat} {A : ab} {n : Nat} {cs r : tr}
theorem w_12 (k : tK n = 12) (w : wS sN en A (.branch n cs r) false) : iI (tV n) := by
  rcases cs with _ | ⟨_, _, _ | ⟨_, _, _⟩⟩
  all_goals
    have w' : (if tK n = 12 then iI (tV n) else _) := w
    rw [if_pos k] at w'
    exact w'
theorem w_13 (k : tK n = 13) (w : wS sN en A (.branch n cs r) false) : sN (tV n) ∧ en (tV n) < A.n := by
  rcases cs with _ | ⟨_, _, _ | ⟨_, _, _⟩⟩
  all_goals
    have w' : (if tK n = 12 then _ else if tK n = 13 then sN (tV n) ∧ en (tV n) < A.n else _) := w
    rw [if_neg (by omega), if_pos k] at w'
    exact w'
theorem w_14 (k : tK n = 14) (w : wS sN en A (.branch n cs r) false) : ∃ m cs' r', cs = .branch m cs' r' ∧ ts cs' = 0 ∧ sN (tV m) ∧ en (tV m) < A.a ∧ 1 ≤ A.rm (en (tV m)) ∧ A.rm (en (tV m)) ≤ 64 ∧ wS sN en A r' false := by
  rcases cs with _ | ⟨m, cs', r'⟩
  · have w' : (if tK n = 12 then _ else if tK n = 13 then _ else if tK n = 14 then False else _) := w
    rw [if_neg (by omega), if_neg (by omega), if_pos k] at w'
    exact absurd w' (fun z => z)
  · refine ⟨m, cs', r', rfl, ?_⟩
    rcases r' with _ | ⟨_, _, _⟩
    all_goals
      have w' : (if tK n = 12 then _ else if tK n = 13 then _ else if tK n = 14 then _ else _) := w
      rw [if_neg (by omega), if_neg (by omega), if_pos k] at w'
      exact w'
theorem w_15 (k : tK n = 15) (w : wS sN en A (.branch n cs r) false) : wS sN en A cs false := by
  rcases cs with _ | ⟨_, _, _ | ⟨_, _, _⟩⟩
  all_goals
    have w' : (if tK n = 12 then _ else if tK n = 13 then _ else if tK n = 14 then _ else if tK n = 15 then _ else _) := w
    rw [if_neg (by omega), if_neg (by omega), if_neg (by omega), if_pos k] at w'
    exact w'
theorem w_16 (k : tK n = 16) (w : wS sN en A (.branch n cs r) false) : (∃ u, cs = .leaf u) ∨ ∃ l c1 g c2 r2, cs = .branch l c1 (.branch g c2 r2) ∧ ts c1 = 0 ∧ iI (tV l) ∧ iI (tV g) ∧ tV l ≤ tV g := by
  rcases cs with u | ⟨l, c1, _ | ⟨g, c2, r2⟩⟩
  · exact Or.inl ⟨u, rfl⟩
  · have w' : (if tK n = 12 then _ else if tK n = 13 then _ else if tK n = 14 then _ else if tK n = 15 then _ else if tK n = 16 then False else _) := w
    rw [if_neg (by omega), if_neg (by omega), if_neg (by omega), if_neg (by omega), if_pos k] at w'
    exact absurd w' (fun z => z)
  · have w' : (if tK n = 12 then _ else if tK n = 13 then _ else if tK n = 14 then _ else if tK n = 15 then _ else if tK n = 16 then ts c1 = 0 ∧ iI (tV l) ∧ iI (tV g) ∧ tV l ≤ tV g else _) := w
    rw [if_neg (by omega), if_neg (by omega), if_neg (by omega), if_neg (by omega), if_pos k] at w'
    exact Or.inr ⟨l, c1, g, c2, r2, rfl, w'⟩
theorem w_17 (k : ¬ tK n = 12 ∧ ¬ tK n = 13 ∧ ¬ tK n = 14 ∧ ¬ tK n = 15 ∧ ¬ tK n = 16) (w : wS sN en A (.branch n cs r) false) : ∃ m cs' r', cs = .branch m cs' r' ∧ wS sN en A (.branch m cs' r') false ∧ wS sN en A r' true := by
  obtain ⟨k12, k13, k14, k15, k16⟩ := k
  rcases cs with _ | ⟨m, cs', r'⟩
  · have w' : (if tK n = 12 then _ else if tK n = 13 then _ else if tK n = 14 then _ else if tK n = 15 then _ else if tK n = 16 then _ else False) := w
    rw [if_neg k12, if_neg k13, if_neg k14, if_neg k15, if_neg k16] at w'
    exact absurd w' (fun z => z)
  · refine ⟨m, cs', r', rfl, ?_⟩
    rcases r' with _ | ⟨_, _, _⟩
    all_goals
      have w' : (if tK n = 12 then _ else if tK n = 13 then _ else if tK n = 14 then _ else if tK n = 15 then _ else if tK n = 16 then _ else _) := w
      rw [if_neg k12, if_neg k13, if_neg k14, if_neg k15, if_neg k16] at w'
      exact w'
theorem w_b (w : wS sN en A cs false) : ∃ m c1 r1, cs = .branch m c1 r1 := by
  cases cs with
  | leaf u => exact absurd w (fun z => z)
  | branch m c1 r1 => exact ⟨m, c1, r1, rfl⟩
end WS
/-- the name in front, if it is one: the node that it is -/
def nmR (h : mh_H) (V : Nat) (sN : Int → Prop) (en : Int → Nat) (A : ab) (x7 : Int32) : Option Int → Prop
  | none => x7 = -1
  | some v => ∃ q, q < 26000 ∧ x7 = Int32.ofNat q ∧ (mh_i h V q).toInt = v ∧ sN v ∧ en v < A.n
section SV
variable {d : Nat} {h : mh_H} {o K V Z M S N T : Nat} {A : ab} {sN : Int → Prop} {en : Int → Nat} {al : Int32}
theorem ofn_eq {a b : Nat} (ha : a < 2147483648) (hb : b < 2147483648) : (Int32.ofNat a = OfNat.ofNat b) = (a = b) := nn_eq ha hb
/-- behind the second operand's range: the operator -/
theorem sv_2 (H : AH h o K V Z M S N T A sN en) {k0 p n m z : Nat} {a b c e : Int64} {x7 : Int32} {x8 : Option Value} {nm : Option Int} (hp : p + 1 < 26000) (hKp : mh_i h K p = Int32.ofNat (tK n)) (hKm : mh_i h K (p + 1) = Int32.ofNat (tK m)) (hVm : (mh_i h V (p + 1)).toInt = tV m) (hm : tK m = 13 → sN (tV m) ∧ en (tV m) < A.n) (hk : tK n = 18 ∨ tK n = 19 ∨ tK n = 21 ∨ tK n = 22 ∨ tK n = 23) (ha : iI a.toInt) (hb : iI b.toInt) (hc : iI c.toInt) (he : iI e.toInt) (hce : c.toInt ≤ e.toInt) (hn : nmR h V sN en A x7 nm) (hz : mh_i h Z p = Int32.ofNat z) : ∃ f l u x8', eR (e_two en A (tK n) nm (if tK m = 13 then some (tV m) else none) a.toInt b.toInt c.toInt e.toInt) f l u ∧ ∀ Q, mw (d + 3) 235 Q 70 [some (.ref o), some (.int (Int32.ofNat k0)), some (.int (Int32.ofNat p)), some (.long a), none, some (.long b), none, some (.int x7), x8] [] (aS h o al c e) = if f = true then mw (d + 3) 235 Q 49 [some (.ref o), some (.int (Int32.ofNat k0)), some (.int (Int32.ofNat (p + z))), some (.long l), none, some (.long u), none, some (.int (-1)), x8'] [] (aS h o (al ||| (e_two en A (tK n) nm (if tK m = 13 then some (tV m) else none) a.toInt b.toInt c.toInt e.toInt).2) l u) else Q (some (.int 0)) (aS h o (al ||| (e_two en A (tK n) nm (if tK m = 13 then some (tV m) else none) a.toInt b.toInt c.toInt e.toInt).2) l u) := by
  have g := H.g
  have r0 := H.r0
  have gK := H.gK
  have gK1 := H.gK.1
  have gK2 := H.gK.2
  have lK := H.lK
  have nK : ¬ K = o := fun z => by have := gK1; have := g.1; rw [z] at *; omega
  have ei : ∀ k, Int32.ofNat k + 1 = Int32.ofNat (k + 1) := fun k => nn_add (a := k) (b := 1)
  have e10 : ((1 : Int32) = 0) = False := by decide
  have e00 : ((0 : Int32) = 0) = True := by decide
  have em : ((-1 : Int32) < 0) = True := by decide
  have k0' : kb false = 0 := rfl
  have k1' : kb true = 1 := rfl
  have t13 : (Int32.ofNat (tK m) = 13) = (tK m = 13) := nn_eq (a := tK m) (b := 13) (by unfold tK; omega) (by omega)
  have t18 : (Int32.ofNat (tK n) = 18) = (tK n = 18) := nn_eq (a := tK n) (b := 18) (by unfold tK; omega) (by omega)
  have t19 : (Int32.ofNat (tK n) = 19) = (tK n = 19) := nn_eq (a := tK n) (b := 19) (by unfold tK; omega) (by omega)
  have cz := fun (al' : Int32) (l u : Int64) (Q' : Option Value → mh_H → Prop) => c_228 (d := d + 2) (Q := Q') (al := al') (lo := l) (hi := u) H (k := p) (z := z) (by omega) hz
  -- the road without names
  have J : (e_two en A (tK n) nm (if tK m = 13 then some (tV m) else none) a.toInt b.toInt c.toInt e.toInt) = e_op (tK n) a.toInt b.toInt c.toInt e.toInt → (∀ Q, ∃ w8, mw (d + 3) 235 Q 70 [some (.ref o), some (.int (Int32.ofNat k0)), some (.int (Int32.ofNat p)), some (.long a), none, some (.long b), none, some (.int x7), x8] [] (aS h o al c e) = mw (d + 3) 235 Q 117 [some (.ref o), some (.int (Int32.ofNat k0)), some (.int (Int32.ofNat p)), some (.long a), none, some (.long b), none, some (.int x7), some (.int 0)] [] (aS h o al c e) ∧ w8 = (0 : Nat)) → ∃ f l u x8', eR (e_two en A (tK n) nm (if tK m = 13 then some (tV m) else none) a.toInt b.toInt c.toInt e.toInt) f l u ∧ ∀ Q, mw (d + 3) 235 Q 70 [some (.ref o), some (.int (Int32.ofNat k0)), some (.int (Int32.ofNat p)), some (.long a), none, some (.long b), none, some (.int x7), x8] [] (aS h o al c e) = if f = true then mw (d + 3) 235 Q 49 [some (.ref o), some (.int (Int32.ofNat k0)), some (.int (Int32.ofNat (p + z))), some (.long l), none, some (.long u), none, some (.int (-1)), x8'] [] (aS h o (al ||| (e_two en A (tK n) nm (if tK m = 13 then some (tV m) else none) a.toInt b.toInt c.toInt e.toInt).2) l u) else Q (some (.int 0)) (aS h o (al ||| (e_two en A (tK n) nm (if tK m = 13 then some (tV m) else none) a.toInt b.toInt c.toInt e.toInt).2) l u) := by
    intro E W
    rw [E]
    obtain ⟨f, l, u, e1, e2⟩ := r_237 (d := d) (al := al) (lo := c) (hi := e) (k := tK n) g ha hb hc he hce hk
    refine ⟨f, l, u, some (.int 0), e1, fun Q => ?_⟩
    obtain ⟨-, w, -⟩ := W Q
    rw [w]
    cases f
    · rw [k0'] at e2
      simp (disch := omega) only [s_235_0, s_235_1, s_235_2, s_235_3, s_235_4, s_235_5, s_235_6, s_235_9, s_235_12, s_235_13, s_235_14, s_235_15, s_235_18, s_235_19, s_235_20, s_235_23, s_235_25, s_235_26, s_235_29, s_235_30, s_235_31, s_235_33, s_235_36, s_235_37, s_235_40, s_235_41, s_235_43, s_235_44, s_235_45, s_235_48, s_235_50, s_235_51, s_235_52, s_235_55, s_235_58, s_235_59, s_235_60, s_235_61, s_235_62, s_235_65, s_235_68, s_235_69, s_235_70, s_235_72, s_235_75, s_235_76, s_235_79, s_235_80, s_235_81, s_235_82, s_235_83, s_235_85, s_235_88, s_235_89, s_235_92, s_235_93, s_235_94, s_235_96, s_235_99, s_235_100, s_235_103, s_235_104, s_235_105, s_235_107, s_235_110, s_235_111, s_235_114, s_235_115, s_235_117, s_235_119, s_235_122, s_235_123, s_235_124, s_235_127, s_235_128, s_235_129, s_235_130, s_235_132, s_235_135, s_235_136, s_235_137, s_235_138, s_235_139, s_235_142, s_235_145, s_235_148, s_235_151, s_235_152, s_235_153, s_235_156, s_235_157, s_235_158, s_235_159, s_235_161, s_235_162, s_235_165, s_235_166, s_235_169, s_235_172, s_235_175, s_235_176, s_235_177, s_235_178, s_235_180, s_235_181, s_235_184, s_235_185, s_235_186, s_235_189, s_235_191, s_235_192, s_235_193, s_235_196, s_235_197, s_235_200, s_235_201, e_235, mv_i_1, mv_l_1, mv_a_1, mv_a_2, mv_a_3, mk2_n, mk2_i, mk2_l, mk2_a, mk2_u, mk2_x, mB_T, mB_F, mS_cons, mS_nil, mSB_T, mSB_F, mca_nil, mca_i, mca_l, mca_r, mca_u, mca_x, mcat_i, mcat_l, mcat_r, mcat_u, mcat_x, mK_some, mK_none, va_rf_s, va_rf_n, lgc_eq, lgc_lt, lgc_gt, lgc_ge, lgc_le, mrd_104, mrd_105, mrd_106, mrd_107, true_and, and_true, and_self, false_and, and_false, true_or, or_true, false_or, or_false, not_true_eq_false, not_false_eq_true, mgb, mga, mgr, mN, reduceCtorEq, ↓reduceIte, eq_self, ge_iff_le, gt_iff_lt, Nat.reduceAdd, Nat.reduceMul, Nat.reduceSub, Nat.reduceLT, Nat.reduceGT, Nat.reduceEqDiff, Nat.reduceLeDiff, Nat.left_eq_add, Nat.add_eq_left, Nat.reduceMod, Nat.reduceDiv, Nat.succ_ne_self, aS_g, aS_i, aS_j, aS_k, aS_n, aS_l, aS_r, g, r0, gK1, gK2, lK, nK, nn_mxT, nn_clamp, hKp, e00, e2, kb_01, Bool.false_eq_true]
    · rw [k1'] at e2
      simp (disch := omega) only [s_235_0, s_235_1, s_235_2, s_235_3, s_235_4, s_235_5, s_235_6, s_235_9, s_235_12, s_235_13, s_235_14, s_235_15, s_235_18, s_235_19, s_235_20, s_235_23, s_235_25, s_235_26, s_235_29, s_235_30, s_235_31, s_235_33, s_235_36, s_235_37, s_235_40, s_235_41, s_235_43, s_235_44, s_235_45, s_235_48, s_235_50, s_235_51, s_235_52, s_235_55, s_235_58, s_235_59, s_235_60, s_235_61, s_235_62, s_235_65, s_235_68, s_235_69, s_235_70, s_235_72, s_235_75, s_235_76, s_235_79, s_235_80, s_235_81, s_235_82, s_235_83, s_235_85, s_235_88, s_235_89, s_235_92, s_235_93, s_235_94, s_235_96, s_235_99, s_235_100, s_235_103, s_235_104, s_235_105, s_235_107, s_235_110, s_235_111, s_235_114, s_235_115, s_235_117, s_235_119, s_235_122, s_235_123, s_235_124, s_235_127, s_235_128, s_235_129, s_235_130, s_235_132, s_235_135, s_235_136, s_235_137, s_235_138, s_235_139, s_235_142, s_235_145, s_235_148, s_235_151, s_235_152, s_235_153, s_235_156, s_235_157, s_235_158, s_235_159, s_235_161, s_235_162, s_235_165, s_235_166, s_235_169, s_235_172, s_235_175, s_235_176, s_235_177, s_235_178, s_235_180, s_235_181, s_235_184, s_235_185, s_235_186, s_235_189, s_235_191, s_235_192, s_235_193, s_235_196, s_235_197, s_235_200, s_235_201, e_235, mv_i_1, mv_l_1, mv_a_1, mv_a_2, mv_a_3, mk2_n, mk2_i, mk2_l, mk2_a, mk2_u, mk2_x, mB_T, mB_F, mS_cons, mS_nil, mSB_T, mSB_F, mca_nil, mca_i, mca_l, mca_r, mca_u, mca_x, mcat_i, mcat_l, mcat_r, mcat_u, mcat_x, mK_some, mK_none, va_rf_s, va_rf_n, lgc_eq, lgc_lt, lgc_gt, lgc_ge, lgc_le, mrd_104, mrd_105, mrd_106, mrd_107, true_and, and_true, and_self, false_and, and_false, true_or, or_true, false_or, or_false, not_true_eq_false, not_false_eq_true, mgb, mga, mgr, mN, reduceCtorEq, ↓reduceIte, eq_self, ge_iff_le, gt_iff_lt, Nat.reduceAdd, Nat.reduceMul, Nat.reduceSub, Nat.reduceLT, Nat.reduceGT, Nat.reduceEqDiff, Nat.reduceLeDiff, Nat.left_eq_add, Nat.add_eq_left, Nat.reduceMod, Nat.reduceDiv, Nat.succ_ne_self, aS_g, aS_i, aS_j, aS_k, aS_n, aS_l, aS_r, g, r0, gK1, gK2, lK, nK, nn_mxT, nn_clamp, hKp, e00, e10, e2, cz]
  cases nm with
  | none =>
    have hx : x7 = -1 := hn
    refine J (by unfold e_two; rfl) (fun Q => ⟨0, ?_, rfl⟩)
    rw [hx]
    simp (disch := omega) only [s_235_0, s_235_1, s_235_2, s_235_3, s_235_4, s_235_5, s_235_6, s_235_9, s_235_12, s_235_13, s_235_14, s_235_15, s_235_18, s_235_19, s_235_20, s_235_23, s_235_25, s_235_26, s_235_29, s_235_30, s_235_31, s_235_33, s_235_36, s_235_37, s_235_40, s_235_41, s_235_43, s_235_44, s_235_45, s_235_48, s_235_49, s_235_50, s_235_51, s_235_52, s_235_55, s_235_58, s_235_59, s_235_60, s_235_61, s_235_62, s_235_65, s_235_68, s_235_69, s_235_70, s_235_72, s_235_75, s_235_76, s_235_79, s_235_80, s_235_81, s_235_82, s_235_83, s_235_85, s_235_88, s_235_89, s_235_92, s_235_93, s_235_94, s_235_96, s_235_99, s_235_100, s_235_103, s_235_104, s_235_105, s_235_107, s_235_110, s_235_111, s_235_114, s_235_115, s_235_119, s_235_122, s_235_123, s_235_124, s_235_127, s_235_128, s_235_129, s_235_130, s_235_132, s_235_135, s_235_136, s_235_137, s_235_138, s_235_139, s_235_142, s_235_145, s_235_148, s_235_151, s_235_152, s_235_153, s_235_156, s_235_157, s_235_158, s_235_159, s_235_161, s_235_162, s_235_165, s_235_166, s_235_169, s_235_172, s_235_175, s_235_176, s_235_177, s_235_178, s_235_180, s_235_181, s_235_184, s_235_185, s_235_186, s_235_189, s_235_191, s_235_192, s_235_193, s_235_196, s_235_197, s_235_200, s_235_201, e_235, mv_i_1, mv_l_1, mv_a_1, mv_a_2, mv_a_3, mk2_n, mk2_i, mk2_l, mk2_a, mk2_u, mk2_x, mB_T, mB_F, mS_cons, mS_nil, mSB_T, mSB_F, mca_nil, mca_i, mca_l, mca_r, mca_u, mca_x, mcat_i, mcat_l, mcat_r, mcat_u, mcat_x, mK_some, mK_none, va_rf_s, va_rf_n, lgc_eq, lgc_lt, lgc_gt, lgc_ge, lgc_le, mrd_104, mrd_105, mrd_106, mrd_107, true_and, and_true, and_self, false_and, and_false, true_or, or_true, false_or, or_false, not_true_eq_false, not_false_eq_true, mgb, mga, mgr, mN, reduceCtorEq, ↓reduceIte, eq_self, ge_iff_le, gt_iff_lt, Nat.reduceAdd, Nat.reduceMul, Nat.reduceSub, Nat.reduceLT, Nat.reduceGT, Nat.reduceEqDiff, Nat.reduceLeDiff, Nat.left_eq_add, Nat.add_eq_left, Nat.reduceMod, Nat.reduceDiv, Nat.succ_ne_self, em]
  | some v =>
    obtain ⟨q, q1, q2, q3, q4, q5⟩ := hn
    subst q2
    have qn : (Int32.ofNat q < 0) = False := nn_neg (by omega)
    by_cases m13 : tK m = 13
    · have mm := hm m13
      by_cases op : tK n = 18 ∨ tK n = 19
      · have E : e_two en A (tK n) (some v) (if tK m = 13 then some (tV m) else none) a.toInt b.toInt c.toInt e.toInt = e_nm A (tK n) (en v) (en (tV m)) c.toInt e.toInt := by
          rw [if_pos m13]; unfold e_two; exact if_pos op
        rw [E]
        unfold iI at hc he
        obtain ⟨f, l, u, e1, e2⟩ := r_236 (d := d) (al := al) (lo := c) (hi := e) (k := tK n) (x := en v) (y := en (tV m)) g H.r23 H.k H.T q5 mm.2 op (by omega) (by omega)
        have s1 := fun Q' => c_229 (d := d + 2) (Q := Q') (al := al) (lo := c) (hi := e) H q1 q3 q4
        have s2 := fun Q' => c_229 (d := d + 2) (Q := Q') (al := al) (lo := c) (hi := e) H hp hVm mm.1
        refine ⟨f, l, u, some (.int 1), e1, fun Q => ?_⟩
        rcases op with op | op
        all_goals
          have n18 : (tK n = 18) = (tK n = 18) := rfl
          rw [op] at hKp e2 ⊢
          cases f
          · rw [k0'] at e2
            simp (disch := omega) only [s_235_0, s_235_1, s_235_2, s_235_3, s_235_4, s_235_5, s_235_6, s_235_9, s_235_12, s_235_13, s_235_14, s_235_15, s_235_18, s_235_19, s_235_20, s_235_23, s_235_25, s_235_26, s_235_29, s_235_30, s_235_31, s_235_33, s_235_36, s_235_37, s_235_40, s_235_41, s_235_43, s_235_44, s_235_45, s_235_48, s_235_50, s_235_51, s_235_52, s_235_55, s_235_58, s_235_59, s_235_60, s_235_61, s_235_62, s_235_65, s_235_68, s_235_69, s_235_70, s_235_72, s_235_75, s_235_76, s_235_79, s_235_80, s_235_81, s_235_82, s_235_83, s_235_85, s_235_88, s_235_89, s_235_92, s_235_93, s_235_94, s_235_96, s_235_99, s_235_100, s_235_103, s_235_104, s_235_105, s_235_107, s_235_110, s_235_111, s_235_114, s_235_115, s_235_117, s_235_119, s_235_122, s_235_123, s_235_124, s_235_127, s_235_128, s_235_129, s_235_130, s_235_132, s_235_135, s_235_136, s_235_137, s_235_138, s_235_139, s_235_142, s_235_145, s_235_148, s_235_151, s_235_152, s_235_153, s_235_156, s_235_157, s_235_158, s_235_159, s_235_161, s_235_162, s_235_165, s_235_166, s_235_169, s_235_172, s_235_175, s_235_176, s_235_177, s_235_178, s_235_180, s_235_181, s_235_184, s_235_185, s_235_186, s_235_189, s_235_191, s_235_192, s_235_193, s_235_196, s_235_197, s_235_200, s_235_201, e_235, mv_i_1, mv_l_1, mv_a_1, mv_a_2, mv_a_3, mk2_n, mk2_i, mk2_l, mk2_a, mk2_u, mk2_x, mB_T, mB_F, mS_cons, mS_nil, mSB_T, mSB_F, mca_nil, mca_i, mca_l, mca_r, mca_u, mca_x, mcat_i, mcat_l, mcat_r, mcat_u, mcat_x, mK_some, mK_none, va_rf_s, va_rf_n, lgc_eq, lgc_lt, lgc_gt, lgc_ge, lgc_le, mrd_104, mrd_105, mrd_106, mrd_107, true_and, and_true, and_self, false_and, and_false, true_or, or_true, false_or, or_false, not_true_eq_false, not_false_eq_true, mgb, mga, mgr, mN, reduceCtorEq, ↓reduceIte, eq_self, ge_iff_le, gt_iff_lt, Nat.reduceAdd, Nat.reduceMul, Nat.reduceSub, Nat.reduceLT, Nat.reduceGT, Nat.reduceEqDiff, Nat.reduceLeDiff, Nat.left_eq_add, Nat.add_eq_left, Nat.reduceMod, Nat.reduceDiv, Nat.succ_ne_self, aS_g, aS_i, aS_j, aS_k, aS_n, aS_l, aS_r, g, r0, gK1, gK2, lK, nK, nn_mxT, nn_clamp, hKp, hKm, ei, t13, m13, qn, s1, s2, e00, e10, e2, kb_01, Bool.false_eq_true, show (Int32.ofNat 18 = 18) = True by decide, show (Int32.ofNat 19 = 18) = False by decide, show (Int32.ofNat 19 = 19) = True by decide, show (Int32.ofNat 13 = 13) = True by decide]
          · rw [k1'] at e2
            simp (disch := omega) only [s_235_0, s_235_1, s_235_2, s_235_3, s_235_4, s_235_5, s_235_6, s_235_9, s_235_12, s_235_13, s_235_14, s_235_15, s_235_18, s_235_19, s_235_20, s_235_23, s_235_25, s_235_26, s_235_29, s_235_30, s_235_31, s_235_33, s_235_36, s_235_37, s_235_40, s_235_41, s_235_43, s_235_44, s_235_45, s_235_48, s_235_50, s_235_51, s_235_52, s_235_55, s_235_58, s_235_59, s_235_60, s_235_61, s_235_62, s_235_65, s_235_68, s_235_69, s_235_70, s_235_72, s_235_75, s_235_76, s_235_79, s_235_80, s_235_81, s_235_82, s_235_83, s_235_85, s_235_88, s_235_89, s_235_92, s_235_93, s_235_94, s_235_96, s_235_99, s_235_100, s_235_103, s_235_104, s_235_105, s_235_107, s_235_110, s_235_111, s_235_114, s_235_115, s_235_117, s_235_119, s_235_122, s_235_123, s_235_124, s_235_127, s_235_128, s_235_129, s_235_130, s_235_132, s_235_135, s_235_136, s_235_137, s_235_138, s_235_139, s_235_142, s_235_145, s_235_148, s_235_151, s_235_152, s_235_153, s_235_156, s_235_157, s_235_158, s_235_159, s_235_161, s_235_162, s_235_165, s_235_166, s_235_169, s_235_172, s_235_175, s_235_176, s_235_177, s_235_178, s_235_180, s_235_181, s_235_184, s_235_185, s_235_186, s_235_189, s_235_191, s_235_192, s_235_193, s_235_196, s_235_197, s_235_200, s_235_201, e_235, mv_i_1, mv_l_1, mv_a_1, mv_a_2, mv_a_3, mk2_n, mk2_i, mk2_l, mk2_a, mk2_u, mk2_x, mB_T, mB_F, mS_cons, mS_nil, mSB_T, mSB_F, mca_nil, mca_i, mca_l, mca_r, mca_u, mca_x, mcat_i, mcat_l, mcat_r, mcat_u, mcat_x, mK_some, mK_none, va_rf_s, va_rf_n, lgc_eq, lgc_lt, lgc_gt, lgc_ge, lgc_le, mrd_104, mrd_105, mrd_106, mrd_107, true_and, and_true, and_self, false_and, and_false, true_or, or_true, false_or, or_false, not_true_eq_false, not_false_eq_true, mgb, mga, mgr, mN, reduceCtorEq, ↓reduceIte, eq_self, ge_iff_le, gt_iff_lt, Nat.reduceAdd, Nat.reduceMul, Nat.reduceSub, Nat.reduceLT, Nat.reduceGT, Nat.reduceEqDiff, Nat.reduceLeDiff, Nat.left_eq_add, Nat.add_eq_left, Nat.reduceMod, Nat.reduceDiv, Nat.succ_ne_self, aS_g, aS_i, aS_j, aS_k, aS_n, aS_l, aS_r, g, r0, gK1, gK2, lK, nK, nn_mxT, nn_clamp, hKp, hKm, ei, t13, m13, qn, s1, s2, e00, e10, e2, cz, show (Int32.ofNat 18 = 18) = True by decide, show (Int32.ofNat 19 = 18) = False by decide, show (Int32.ofNat 19 = 19) = True by decide, show (Int32.ofNat 13 = 13) = True by decide]
      · refine J (by rw [if_pos m13]; unfold e_two; exact if_neg op) (fun Q => ⟨0, ?_, rfl⟩)
        have o1 : ¬ tK n = 18 := fun z => op (Or.inl z)
        have o2 : ¬ tK n = 19 := fun z => op (Or.inr z)
        simp (disch := omega) only [s_235_0, s_235_1, s_235_2, s_235_3, s_235_4, s_235_5, s_235_6, s_235_9, s_235_12, s_235_13, s_235_14, s_235_15, s_235_18, s_235_19, s_235_20, s_235_23, s_235_25, s_235_26, s_235_29, s_235_30, s_235_31, s_235_33, s_235_36, s_235_37, s_235_40, s_235_41, s_235_43, s_235_44, s_235_45, s_235_48, s_235_49, s_235_50, s_235_51, s_235_52, s_235_55, s_235_58, s_235_59, s_235_60, s_235_61, s_235_62, s_235_65, s_235_68, s_235_69, s_235_70, s_235_72, s_235_75, s_235_76, s_235_79, s_235_80, s_235_81, s_235_82, s_235_83, s_235_85, s_235_88, s_235_89, s_235_92, s_235_93, s_235_94, s_235_96, s_235_99, s_235_100, s_235_103, s_235_104, s_235_105, s_235_107, s_235_110, s_235_111, s_235_114, s_235_115, s_235_119, s_235_122, s_235_123, s_235_124, s_235_127, s_235_128, s_235_129, s_235_130, s_235_132, s_235_135, s_235_136, s_235_137, s_235_138, s_235_139, s_235_142, s_235_145, s_235_148, s_235_151, s_235_152, s_235_153, s_235_156, s_235_157, s_235_158, s_235_159, s_235_161, s_235_162, s_235_165, s_235_166, s_235_169, s_235_172, s_235_175, s_235_176, s_235_177, s_235_178, s_235_180, s_235_181, s_235_184, s_235_185, s_235_186, s_235_189, s_235_191, s_235_192, s_235_193, s_235_196, s_235_197, s_235_200, s_235_201, e_235, mv_i_1, mv_l_1, mv_a_1, mv_a_2, mv_a_3, mk2_n, mk2_i, mk2_l, mk2_a, mk2_u, mk2_x, mB_T, mB_F, mS_cons, mS_nil, mSB_T, mSB_F, mca_nil, mca_i, mca_l, mca_r, mca_u, mca_x, mcat_i, mcat_l, mcat_r, mcat_u, mcat_x, mK_some, mK_none, va_rf_s, va_rf_n, lgc_eq, lgc_lt, lgc_gt, lgc_ge, lgc_le, mrd_104, mrd_105, mrd_106, mrd_107, true_and, and_true, and_self, false_and, and_false, true_or, or_true, false_or, or_false, not_true_eq_false, not_false_eq_true, mgb, mga, mgr, mN, reduceCtorEq, ↓reduceIte, eq_self, ge_iff_le, gt_iff_lt, Nat.reduceAdd, Nat.reduceMul, Nat.reduceSub, Nat.reduceLT, Nat.reduceGT, Nat.reduceEqDiff, Nat.reduceLeDiff, Nat.left_eq_add, Nat.add_eq_left, Nat.reduceMod, Nat.reduceDiv, Nat.succ_ne_self, aS_g, aS_i, aS_j, aS_k, aS_n, aS_l, aS_r, g, r0, gK1, gK2, lK, nK, nn_mxT, nn_clamp, hKp, hKm, ei, t13, t18, t19, m13, o1, o2, qn, show (Int32.ofNat 13 = 13) = True by decide]
    · refine J (by rw [if_neg m13]; unfold e_two; rfl) (fun Q => ⟨0, ?_, rfl⟩)
      simp (disch := omega) only [s_235_0, s_235_1, s_235_2, s_235_3, s_235_4, s_235_5, s_235_6, s_235_9, s_235_12, s_235_13, s_235_14, s_235_15, s_235_18, s_235_19, s_235_20, s_235_23, s_235_25, s_235_26, s_235_29, s_235_30, s_235_31, s_235_33, s_235_36, s_235_37, s_235_40, s_235_41, s_235_43, s_235_44, s_235_45, s_235_48, s_235_49, s_235_50, s_235_51, s_235_52, s_235_55, s_235_58, s_235_59, s_235_60, s_235_61, s_235_62, s_235_65, s_235_68, s_235_69, s_235_70, s_235_72, s_235_75, s_235_76, s_235_79, s_235_80, s_235_81, s_235_82, s_235_83, s_235_85, s_235_88, s_235_89, s_235_92, s_235_93, s_235_94, s_235_96, s_235_99, s_235_100, s_235_103, s_235_104, s_235_105, s_235_107, s_235_110, s_235_111, s_235_114, s_235_115, s_235_119, s_235_122, s_235_123, s_235_124, s_235_127, s_235_128, s_235_129, s_235_130, s_235_132, s_235_135, s_235_136, s_235_137, s_235_138, s_235_139, s_235_142, s_235_145, s_235_148, s_235_151, s_235_152, s_235_153, s_235_156, s_235_157, s_235_158, s_235_159, s_235_161, s_235_162, s_235_165, s_235_166, s_235_169, s_235_172, s_235_175, s_235_176, s_235_177, s_235_178, s_235_180, s_235_181, s_235_184, s_235_185, s_235_186, s_235_189, s_235_191, s_235_192, s_235_193, s_235_196, s_235_197, s_235_200, s_235_201, e_235, mv_i_1, mv_l_1, mv_a_1, mv_a_2, mv_a_3, mk2_n, mk2_i, mk2_l, mk2_a, mk2_u, mk2_x, mB_T, mB_F, mS_cons, mS_nil, mSB_T, mSB_F, mca_nil, mca_i, mca_l, mca_r, mca_u, mca_x, mcat_i, mcat_l, mcat_r, mcat_u, mcat_x, mK_some, mK_none, va_rf_s, va_rf_n, lgc_eq, lgc_lt, lgc_gt, lgc_ge, lgc_le, mrd_104, mrd_105, mrd_106, mrd_107, true_and, and_true, and_self, false_and, and_false, true_or, or_true, false_or, or_false, not_true_eq_false, not_false_eq_true, mgb, mga, mgr, mN, reduceCtorEq, ↓reduceIte, eq_self, ge_iff_le, gt_iff_lt, Nat.reduceAdd, Nat.reduceMul, Nat.reduceSub, Nat.reduceLT, Nat.reduceGT, Nat.reduceEqDiff, Nat.reduceLeDiff, Nat.left_eq_add, Nat.add_eq_left, Nat.reduceMod, Nat.reduceDiv, Nat.succ_ne_self, aS_g, aS_i, aS_j, aS_k, aS_n, aS_l, aS_r, g, r0, gK1, gK2, lK, nK, nn_mxT, nn_clamp, hKp, hKm, ei, t13, m13, qn]
end SV
