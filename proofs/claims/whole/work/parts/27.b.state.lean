set_option maxRecDepth 100000
/-- a loop with locals that nobody looks at any more -/
theorem mw_loopD {α : Type} {d y pc : Nat} {Q : Option Value → mh_H → Prop} {st : List Value} (ls : Nat → α → me_L) (F : Nat → mh_H) {a b : Nat} (hab : a ≤ b) (step : ∀ k x, a ≤ k → k < b → ∃ x', mw d y Q pc (ls k x) st (F k) = mw d y Q pc (ls (k + 1) x') st (F (k + 1))) (x : α) : ∃ x', mw d y Q pc (ls a x) st (F a) = mw d y Q pc (ls b x') st (F b) := by
  obtain ⟨n, rfl⟩ : ∃ n, b = a + n := ⟨b - a, by omega⟩
  clear hab
  induction n with
  | zero => exact ⟨x, rfl⟩
  | succ n ih =>
    obtain ⟨x1, e1⟩ := ih (fun k x h1 h2 => step k x h1 (by omega))
    obtain ⟨x2, e2⟩ := step (a + n) x1 (by omega) (by omega)
    exact ⟨x2, e1.trans e2⟩
theorem si_id {h : mh_H} {o k : Nat} : mh_si h o k (mh_i h o k) = h := by
  have : mh_u (mh_i h) o k (mh_i h o k) = mh_i h := by
    funext b j; unfold mh_u; split
    · next e => rw [e.1, e.2]
    · rfl
  unfold mh_si; rw [this]; rfl
/-- Math.min of longs -/
def lmin (x w : Int64) : Int64 := if w < x then w else x
/-- the two rows of a slot -/
def gt_E (g : Nat → Int64) (s j : Nat) : Int64 := lmin (g (sc (2 * s) j)) (g (sc (2 * s) (2 * s + 1)) + g (sc (2 * s + 1) j))
def gt_O (g : Nat → Int64) (s j : Nat) : Int64 := lmin (g (sc (2 * s + 1) j)) (g (sc (2 * s + 1) (2 * s)) + g (sc (2 * s) j))
def gt_R (g r : Nat → Int64) (s k q : Nat) : Int64 := if q < k then gt_E g s q else if 24 ≤ q ∧ q < 24 + k then gt_O g s (q - 24) else r q
def gt_W (g : Nat → Int64) (s i j : Nat) : Int64 := lmin (gt_O g s (oc_b i) + gt_E g s j) (gt_E g s (oc_b i) + gt_O g s j)
def gt_M (g : Nat → Int64) (s k q : Nat) : Int64 := if q < k then lmin (g q) (gt_W g s (sc_i q) (sc_j q)) else g q
def gt_N (g : Nat → Int64) (s k : Nat) : Bool := (List.range k).any fun i => decide (gt_M g s 312 (sc_r i + i) < 0)
theorem sc_r_next : ∀ i, i < 24 → sc_r i + (oc_1 i + 1) = sc_r (i + 1) := by decide +kernel
theorem sc_r_2n : ∀ n, n ≤ 12 → sc_r (2 * n) = sc_n n := by decide +kernel
theorem sc_r_top : ∀ i, i < 24 → ∀ j, j < 24 → j ≤ oc_1 i → sc_r i + j < 312 := by decide +kernel
section GT
variable {d : Nat} {Q : Option Value → mh_H → Prop} {h : mh_H} {o R n s : Nat}
theorem gt_1 (hs : so h o) (hn : mh_i h o 1 = Int32.ofNat n) (hn2 : n ≤ 12) (hs2 : s < n) (hR : mg h R 101) (hRl : mh_l h R = 48) (hR1 : ¬ R = o + 1) {x10 x11 x12 x13 x14 x15 x16 x17 : Option Value} : ∃ y10 y12, mw (d + 1) 160 Q 57 [some (.ref o), some (.int (Int32.ofNat s)), some (.ref R), some (.int (Int32.ofNat (2 * s))), some (.int (Int32.ofNat 24)), some (.long (mh_j h (o + 1) (sc (2 * s) (2 * s + 1)))), none, some (.long (mh_j h (o + 1) (sc (2 * s + 1) (2 * s)))), none, some (.int (Int32.ofNat 0)), x10, none, x12, none, x14, x15, x16, x17] [] h = mw (d + 1) 160 Q 57 [some (.ref o), some (.int (Int32.ofNat s)), some (.ref R), some (.int (Int32.ofNat (2 * s))), some (.int (Int32.ofNat 24)), some (.long (mh_j h (o + 1) (sc (2 * s) (2 * s + 1)))), none, some (.long (mh_j h (o + 1) (sc (2 * s + 1) (2 * s)))), none, some (.int (Int32.ofNat (2 * n))), y10, none, y12, none, x14, x15, x16, x17] [] (mh_J h R (gt_R (mh_j h (o + 1)) (mh_j h R) s (2 * n))) := by
  obtain ⟨s1, s2, s3, s4, s5, s6, s7⟩ := hs
  have ei : ∀ k, Int32.ofNat k + 1 = Int32.ofNat (k + 1) := fun k => nn_add (a := k) (b := 1)
  have e3 : ∀ k, (2 : Int32) * Int32.ofNat k = Int32.ofNat (2 * k) := fun k => nn_mul (a := 2) (b := k)
  have hR2 : ¬ o + 1 = R := fun z => hR1 z.symm
  have L := mw_loopD (α := Option Value × Option Value) (d := d + 1) (y := 160) (pc := 57) (Q := Q) (st := []) (fun k x => [some (.ref o), some (.int (Int32.ofNat s)), some (.ref R), some (.int (Int32.ofNat (2 * s))), some (.int (Int32.ofNat 24)), some (.long (mh_j h (o + 1) (sc (2 * s) (2 * s + 1)))), none, some (.long (mh_j h (o + 1) (sc (2 * s + 1) (2 * s)))), none, some (.int (Int32.ofNat k)), x.1, none, x.2, none, x14, x15, x16, x17]) (fun k => mh_J h R (gt_R (mh_j h (o + 1)) (mh_j h R) s k)) (a := 0) (b := 2 * n) (Nat.zero_le _) (fun k x _ hk => by
    refine ⟨(some (.long (mh_j h (o + 1) (sc (2 * s) k))), some (.long (mh_j h (o + 1) (sc (2 * s + 1) k)))), ?_⟩
    have hk2 : ¬ 2 * n ≤ k := by omega
    have h1 := sc_lt (i := 2 * s) (j := k) (by omega) (by omega)
    have h2 := sc_lt (i := 2 * s + 1) (j := k) (by omega) (by omega)
    have h3 : 24 + k < 48 := by omega
    dsimp only
    rw [s_160_57]
    simp (disch := omega) only [s_160_0, s_160_1, s_160_2, s_160_3, s_160_4, s_160_5, s_160_6, s_160_7, s_160_8, s_160_10, s_160_11, s_160_14, s_160_15, s_160_16, s_160_17, s_160_18, s_160_21, s_160_22, s_160_24, s_160_25, s_160_28, s_160_29, s_160_30, s_160_31, s_160_32, s_160_35, s_160_36, s_160_38, s_160_40, s_160_42, s_160_43, s_160_44, s_160_45, s_160_48, s_160_49, s_160_50, s_160_53, s_160_54, s_160_55, s_160_59, s_160_60, s_160_61, s_160_64, s_160_65, s_160_68, s_160_69, s_160_72, s_160_73, s_160_75, s_160_78, s_160_79, s_160_81, s_160_82, s_160_85, s_160_86, s_160_87, s_160_88, s_160_90, s_160_93, s_160_94, s_160_96, s_160_97, s_160_99, s_160_101, s_160_103, s_160_105, s_160_106, s_160_109, s_160_110, s_160_111, s_160_113, s_160_115, s_160_116, s_160_118, s_160_120, s_160_122, s_160_123, s_160_126, s_160_127, s_160_130, s_160_133, s_160_134, s_160_136, s_160_138, s_160_139, s_160_140, s_160_143, s_160_144, s_160_147, s_160_148, s_160_150, s_160_152, s_160_153, s_160_154, s_160_155, s_160_156, s_160_158, s_160_159, s_160_161, s_160_162, s_160_163, s_160_164, s_160_166, s_160_169, s_160_171, s_160_171x, s_160_172, s_160_174, s_160_175, s_160_177, s_160_179, s_160_181, s_160_182, s_160_183, s_160_186, s_160_188, s_160_189, s_160_191, s_160_192, s_160_193, s_160_195, s_160_196, s_160_198, s_160_200, s_160_201, s_160_202, s_160_203, s_160_206, s_160_208, s_160_209, s_160_212, s_160_214, s_160_216, s_160_217, s_160_218, s_160_221, s_160_223, s_160_225, s_160_226, s_160_227, s_160_229, s_160_232, s_160_233, s_160_236, s_160_239, s_160_240, s_160_243, s_160_245, s_160_247, s_160_248, s_160_249, s_160_250, s_160_251, s_160_254, s_160_255, s_160_256, s_160_259, s_160_262, s_160_265, e_160, mv_i_1, mv_l_1, mv_a_1, mv_a_2, mv_a_3, mk2_n, mk2_i, mk2_l, mk2_a, mk2_u, mk2_x, mB_T, mB_F, mS_cons, mS_nil, mSB_T, mSB_F, mca_nil, mca_i, mca_l, mca_r, mca_u, mca_x, mcat_i, mcat_l, mcat_r, mcat_u, mcat_x, mK_some, mK_none, va_rf_s, va_rf_n, lgc_eq, lgc_lt, lgc_gt, lgc_ge, lgc_le, mrd_104, mrd_105, mrd_106, mrd_107, true_and, and_true, and_self, false_and, and_false, true_or, or_true, false_or, or_false, not_true_eq_false, not_false_eq_true, mgb, mga, mgr, mN, reduceCtorEq, ↓reduceIte, eq_self, ge_iff_le, gt_iff_lt, hk_J, hl_J, hn_J, hr_J, hi_J, hj_J, mg_J, s1, s2, s3, s4, hR, hRl, hR1, hR2, hn, e3, ei, c_140, nn_le, nn_mxT, nn_clamp, nn_add, hk2, J_sj]
    refine mw_J (fun q => ?_)
    show (if q = 24 + k then gt_O (mh_j h (o + 1)) s k else if q = k then gt_E (mh_j h (o + 1)) s k else gt_R (mh_j h (o + 1)) (mh_j h R) s k q) = gt_R (mh_j h (o + 1)) (mh_j h R) s (k + 1) q
    unfold gt_R
    by_cases q1 : q = 24 + k
    · subst q1
      rw [if_pos rfl, if_neg (show ¬ 24 + k < k + 1 by omega), if_pos (show 24 ≤ 24 + k ∧ 24 + k < 24 + (k + 1) by omega), show 24 + k - 24 = k by omega]
    · rw [if_neg q1]
      by_cases q2 : q = k
      · subst q2
        rw [if_pos rfl, if_pos (show q < q + 1 by omega)]
      · rw [if_neg q2]
        by_cases q3 : q < k
        · rw [if_pos q3, if_pos (show q < k + 1 by omega)]
        · rw [if_neg q3, if_neg (show ¬ q < k + 1 by omega)]
          by_cases q4 : 24 ≤ q ∧ q < 24 + k
          · rw [if_pos q4, if_pos (show 24 ≤ q ∧ q < 24 + (k + 1) by omega)]
          · rw [if_neg q4, if_neg (show ¬ (24 ≤ q ∧ q < 24 + (k + 1)) by omega)]) (x10, x12)
  obtain ⟨x', e⟩ := L
  have i1 : mh_J h R (gt_R (mh_j h (o + 1)) (mh_j h R) s 0) = h := (J_ext (fun q => by unfold gt_R; rw [if_neg (by omega), if_neg (by omega)])).trans J_id
  rw [i1] at e
  exact ⟨x'.1, x'.2, e⟩
end GT
/-- the locals of goThrough -/
def gtl (o s R : Nat) (ac bk : Int64) (i : Nat) (x10 x12 x14 x15 x16 : Option Value) : me_L := [some (.ref o), some (.int (Int32.ofNat s)), some (.ref R), some (.int (Int32.ofNat (2 * s))), some (.int (Int32.ofNat 24)), some (.long ac), none, some (.long bk), none, some (.int (Int32.ofNat i)), x10, none, x12, none, x14, x15, x16, none]
/-- what holds of the heap while the bounds are gone through -/
def gth (h : mh_H) (o R n s : Nat) (g : Nat → Int64) : Prop := mg h o 8 ∧ mh_r h o 3 = some (o + 1) ∧ mg h (o + 1) 101 ∧ mh_l h (o + 1) = 312 ∧ mg h R 101 ∧ mh_l h R = 48 ∧ mh_i h o 1 = Int32.ofNat n ∧ ∀ j, j < 2 * n → mh_j h R j = gt_E g s j ∧ mh_j h R (24 + j) = gt_O g s j
section GT2
variable {d : Nat} {Q : Option Value → mh_H → Prop} {h : mh_H} {o R n s : Nat} {ac bk : Int64} {g : Nat → Int64}
theorem gt_3 (hh : gth h o R n s g) (hn2 : n ≤ 12) (hR1 : ¬ R = o + 1) {i : Nat} (hi : i < 2 * n) (x16 : Option Value) : ∃ y16, mw (d + 1) 160 Q 177 (gtl o s R ac bk i (some (.long (gt_O g s (oc_b i)))) (some (.long (gt_E g s (oc_b i)))) (some (.int (Int32.ofNat (sc_r i)))) (some (.int (Int32.ofNat 0))) x16) [] (mh_J h (o + 1) (gt_M g s (sc_r i))) = mw (d + 1) 160 Q 177 (gtl o s R ac bk i (some (.long (gt_O g s (oc_b i)))) (some (.long (gt_E g s (oc_b i)))) (some (.int (Int32.ofNat (sc_r i)))) (some (.int (Int32.ofNat (oc_1 i + 1)))) y16) [] (mh_J h (o + 1) (gt_M g s (sc_r (i + 1)))) := by
  obtain ⟨s1, s2, s3, s4, r1, r2, hn, hr⟩ := hh
  have ei : ∀ k, Int32.ofNat k + 1 = Int32.ofNat (k + 1) := fun k => nn_add (a := k) (b := 1)
  have h1 := oc_1_eq i
  have hi24 : i < 24 := by omega
  have L := mw_loopD (α := Option Value) (d := d + 1) (y := 160) (pc := 177) (Q := Q) (st := []) (fun j x => gtl o s R ac bk i (some (.long (gt_O g s (oc_b i)))) (some (.long (gt_E g s (oc_b i)))) (some (.int (Int32.ofNat (sc_r i)))) (some (.int (Int32.ofNat j))) x) (fun j => mh_J h (o + 1) (gt_M g s (sc_r i + j))) (a := 0) (b := oc_1 i + 1) (Nat.zero_le _) (fun j x _ hj => by
    refine ⟨some (.long (gt_W g s i j)), ?_⟩
    have hj2 : ¬ oc_1 i < j := by omega
    obtain ⟨q1, q2⟩ := hr j (by omega)
    have h3 := sc_r_top i hi24 j (by omega) (by omega)
    have h4 : 24 + j < 48 := by omega
    have v1 : gt_M g s (sc_r i + j) (sc_r i + j) = g (sc_r i + j) := if_neg (Nat.lt_irrefl _)
    have w1 : (if gt_E g s (oc_b i) + gt_O g s j < gt_O g s (oc_b i) + gt_E g s j then gt_E g s (oc_b i) + gt_O g s j else gt_O g s (oc_b i) + gt_E g s j) = gt_W g s i j := rfl
    unfold gtl
    rw [s_160_177]
    simp (disch := omega) only [s_160_0, s_160_1, s_160_2, s_160_3, s_160_4, s_160_5, s_160_6, s_160_7, s_160_8, s_160_10, s_160_11, s_160_14, s_160_15, s_160_16, s_160_17, s_160_18, s_160_21, s_160_22, s_160_24, s_160_25, s_160_28, s_160_29, s_160_30, s_160_31, s_160_32, s_160_35, s_160_36, s_160_38, s_160_40, s_160_42, s_160_43, s_160_44, s_160_45, s_160_48, s_160_49, s_160_50, s_160_53, s_160_54, s_160_55, s_160_57, s_160_59, s_160_60, s_160_61, s_160_64, s_160_65, s_160_68, s_160_69, s_160_72, s_160_73, s_160_75, s_160_78, s_160_79, s_160_81, s_160_82, s_160_85, s_160_86, s_160_87, s_160_88, s_160_90, s_160_93, s_160_94, s_160_96, s_160_97, s_160_99, s_160_101, s_160_103, s_160_105, s_160_106, s_160_109, s_160_110, s_160_111, s_160_113, s_160_115, s_160_116, s_160_118, s_160_120, s_160_122, s_160_123, s_160_126, s_160_127, s_160_130, s_160_133, s_160_134, s_160_136, s_160_138, s_160_139, s_160_140, s_160_143, s_160_144, s_160_147, s_160_148, s_160_150, s_160_152, s_160_153, s_160_154, s_160_155, s_160_156, s_160_158, s_160_159, s_160_161, s_160_162, s_160_163, s_160_164, s_160_166, s_160_169, s_160_171, s_160_171x, s_160_172, s_160_174, s_160_175, s_160_179, s_160_181, s_160_182, s_160_183, s_160_186, s_160_188, s_160_189, s_160_191, s_160_192, s_160_193, s_160_195, s_160_196, s_160_198, s_160_200, s_160_201, s_160_202, s_160_203, s_160_206, s_160_208, s_160_209, s_160_212, s_160_214, s_160_216, s_160_217, s_160_218, s_160_221, s_160_223, s_160_225, s_160_226, s_160_227, s_160_229, s_160_232, s_160_233, s_160_236, s_160_239, s_160_240, s_160_243, s_160_245, s_160_247, s_160_248, s_160_249, s_160_250, s_160_251, s_160_254, s_160_255, s_160_256, s_160_259, s_160_262, s_160_265, e_160, mv_i_1, mv_l_1, mv_a_1, mv_a_2, mv_a_3, mk2_n, mk2_i, mk2_l, mk2_a, mk2_u, mk2_x, mB_T, mB_F, mS_cons, mS_nil, mSB_T, mSB_F, mca_nil, mca_i, mca_l, mca_r, mca_u, mca_x, mcat_i, mcat_l, mcat_r, mcat_u, mcat_x, mK_some, mK_none, va_rf_s, va_rf_n, lgc_eq, lgc_lt, lgc_gt, lgc_ge, lgc_le, mrd_104, mrd_105, mrd_106, mrd_107, true_and, and_true, and_self, false_and, and_false, true_or, or_true, false_or, or_false, not_true_eq_false, not_false_eq_true, mgb, mga, mgr, mN, reduceCtorEq, ↓reduceIte, eq_self, ge_iff_le, gt_iff_lt, hk_J, hl_J, hn_J, hr_J, hi_J, hj_J, mg_J, s1, s2, s3, s4, r1, r2, hR1, q1, q2, ei, nn_or1, nn_lt, nn_mxT, nn_clamp, nn_add, hj2, v1, w1, J_sj]
    refine mw_J (fun q => ?_)
    show (if q = sc_r i + j then lmin (g (sc_r i + j)) (gt_W g s i j) else gt_M g s (sc_r i + j) q) = gt_M g s (sc_r i + j + 1) q
    have e1 := sc_i_all i hi24 j (by omega) (by omega)
    have e2 : sc_j (sc_r i + j) = j := by unfold sc_j; rw [e1]; omega
    unfold gt_M
    by_cases c : q = sc_r i + j
    · subst c
      rw [if_pos rfl, if_pos (show sc_r i + j < sc_r i + j + 1 by omega), e1, e2]
    · rw [if_neg c]
      by_cases c2 : q < sc_r i + j
      · rw [if_pos c2, if_pos (show q < sc_r i + j + 1 by omega)]
      · rw [if_neg c2, if_neg (show ¬ q < sc_r i + j + 1 by omega)]) x16
  obtain ⟨y, e⟩ := L
  refine ⟨y, ?_⟩
  have := sc_r_next i hi24
  rw [this] at e
  exact e
theorem J_si2 {h : mh_H} {a b k : Nat} {f : Nat → Int64} {x : Int32} : mh_J (mh_si h b k x) a f = mh_si (mh_J h a f) b k x := nrfl rfl
theorem si_si {h : mh_H} {a k : Nat} {x y : Int32} : mh_si (mh_si h a k x) a k y = mh_si h a k y := by
  have : mh_u (mh_u (mh_i h) a k x) a k y = mh_u (mh_i h) a k y := by
    funext b j; unfold mh_u; split <;> simp_all
  show (_, _, mh_u (mh_u (mh_i h) a k x) a k y, _) = _
  rw [this]; rfl
/-- whether something fell below 0 on the way to oneself -/
def gt_z (g : Nat → Int64) (s k : Nat) : Int32 := if gt_N g s k then 1 else 0
theorem gt_2 (hh : gth h o R n s g) (hn2 : n ≤ 12) (hR1 : ¬ R = o + 1) (hz : mh_i h o 0 = 0) (x : Option Value × Option Value × Option Value × Option Value × Option Value) : ∃ y : Option Value × Option Value × Option Value × Option Value × Option Value, mw (d + 1) 160 Q 136 (gtl o s R ac bk 0 x.1 x.2.1 x.2.2.1 x.2.2.2.1 x.2.2.2.2) [] (mh_J h (o + 1) (gt_M g s 0)) = mw (d + 1) 160 Q 136 (gtl o s R ac bk (2 * n) y.1 y.2.1 y.2.2.1 y.2.2.2.1 y.2.2.2.2) [] (mh_si (mh_J h (o + 1) (gt_M g s (sc_n n))) o 0 (gt_z g s (2 * n))) := by
  have ei : ∀ k, Int32.ofNat k + 1 = Int32.ofNat (k + 1) := fun k => nn_add (a := k) (b := 1)
  have e3 : ∀ k, (2 : Int32) * Int32.ofNat k = Int32.ofNat (2 * k) := fun k => nn_mul (a := 2) (b := k)
  have L := mw_loopD (α := Option Value × Option Value × Option Value × Option Value × Option Value) (d := d + 1) (y := 160) (pc := 136) (Q := Q) (st := []) (fun i x => gtl o s R ac bk i x.1 x.2.1 x.2.2.1 x.2.2.2.1 x.2.2.2.2) (fun i => mh_si (mh_J h (o + 1) (gt_M g s (sc_r i))) o 0 (gt_z g s i)) (a := 0) (b := 2 * n) (Nat.zero_le _) (fun i x _ hi => by
    have hi24 : i < 24 := by omega
    have hb := oc_b24 hi24
    have hb2 := oc_b_lt (n := n) (a := i) hi
    have h1 := oc_1_eq i
    have hi2 : ¬ 2 * n ≤ i := by omega
    have hx : oc_1 i < oc_1 i + 1 := Nat.lt_succ_self _
    have h3 := sc_r_top i hi24 i hi24 (by omega)
    have h5 : sc_r i < 2147483648 := by have := sc_r_lt_all i hi24; omega
    -- the heap with its flag
    have hh' : gth (mh_si h o 0 (gt_z g s i)) o R n s g := by
      obtain ⟨s1, s2, s3, s4, r1, r2, hn, hr⟩ := hh
      refine ⟨s1, s2, s3, s4, r1, r2, ?_, hr⟩
      rw [hi_si, if_neg (by omega)]; exact hn
    obtain ⟨y16, e16⟩ := gt_3 (d := d) (Q := Q) (ac := ac) (bk := bk) hh' hn2 hR1 hi x.2.2.2.2
    obtain ⟨s1, s2, s3, s4, r1, r2, hn, hr⟩ := hh
    obtain ⟨q1, q2⟩ := hr (oc_b i) hb2
    rw [J_si2, J_si2] at e16
    refine ⟨(some (.long (gt_O g s (oc_b i))), some (.long (gt_E g s (oc_b i))), some (.int (Int32.ofNat (sc_r i))), some (.int (Int32.ofNat (oc_1 i + 1))), y16), ?_⟩
    have E1 : mw (d + 1) 160 Q 136 (gtl o s R ac bk i x.1 x.2.1 x.2.2.1 x.2.2.2.1 x.2.2.2.2) [] (mh_si (mh_J h (o + 1) (gt_M g s (sc_r i))) o 0 (gt_z g s i)) = mw (d + 1) 160 Q 177 (gtl o s R ac bk i (some (.long (gt_O g s (oc_b i)))) (some (.long (gt_E g s (oc_b i)))) (some (.int (Int32.ofNat (sc_r i)))) (some (.int (Int32.ofNat 0))) x.2.2.2.2) [] (mh_si (mh_J h (o + 1) (gt_M g s (sc_r i))) o 0 (gt_z g s i)) := by
      have hne : ¬ (o = o ∧ 1 = 0) := by omega
      unfold gtl
      rw [s_160_136]
      simp (disch := omega) only [s_160_0, s_160_1, s_160_2, s_160_3, s_160_4, s_160_5, s_160_6, s_160_7, s_160_8, s_160_10, s_160_11, s_160_14, s_160_15, s_160_16, s_160_17, s_160_18, s_160_21, s_160_22, s_160_24, s_160_25, s_160_28, s_160_29, s_160_30, s_160_31, s_160_32, s_160_35, s_160_36, s_160_38, s_160_40, s_160_42, s_160_43, s_160_44, s_160_45, s_160_48, s_160_49, s_160_50, s_160_53, s_160_54, s_160_55, s_160_57, s_160_59, s_160_60, s_160_61, s_160_64, s_160_65, s_160_68, s_160_69, s_160_72, s_160_73, s_160_75, s_160_78, s_160_79, s_160_81, s_160_82, s_160_85, s_160_86, s_160_87, s_160_88, s_160_90, s_160_93, s_160_94, s_160_96, s_160_97, s_160_99, s_160_101, s_160_103, s_160_105, s_160_106, s_160_109, s_160_110, s_160_111, s_160_113, s_160_115, s_160_116, s_160_118, s_160_120, s_160_122, s_160_123, s_160_126, s_160_127, s_160_130, s_160_133, s_160_134, s_160_136, s_160_138, s_160_139, s_160_140, s_160_143, s_160_144, s_160_147, s_160_148, s_160_150, s_160_152, s_160_153, s_160_154, s_160_155, s_160_156, s_160_158, s_160_159, s_160_161, s_160_162, s_160_163, s_160_164, s_160_166, s_160_169, s_160_171, s_160_171x, s_160_172, s_160_174, s_160_175, s_160_179, s_160_181, s_160_182, s_160_183, s_160_186, s_160_188, s_160_189, s_160_191, s_160_192, s_160_193, s_160_195, s_160_196, s_160_198, s_160_200, s_160_201, s_160_202, s_160_203, s_160_206, s_160_208, s_160_209, s_160_212, s_160_214, s_160_216, s_160_217, s_160_218, s_160_221, s_160_223, s_160_225, s_160_226, s_160_227, s_160_229, s_160_232, s_160_233, s_160_236, s_160_239, s_160_240, s_160_243, s_160_245, s_160_247, s_160_248, s_160_249, s_160_250, s_160_251, s_160_254, s_160_255, s_160_256, s_160_259, s_160_262, s_160_265, e_160, mv_i_1, mv_l_1, mv_a_1, mv_a_2, mv_a_3, mk2_n, mk2_i, mk2_l, mk2_a, mk2_u, mk2_x, mB_T, mB_F, mS_cons, mS_nil, mSB_T, mSB_F, mca_nil, mca_i, mca_l, mca_r, mca_u, mca_x, mcat_i, mcat_l, mcat_r, mcat_u, mcat_x, mK_some, mK_none, va_rf_s, va_rf_n, lgc_eq, lgc_lt, lgc_gt, lgc_ge, lgc_le, mrd_104, mrd_105, mrd_106, mrd_107, true_and, and_true, and_self, false_and, and_false, true_or, or_true, false_or, or_false, not_true_eq_false, not_false_eq_true, mgb, mga, mgr, mN, reduceCtorEq, ↓reduceIte, eq_self, ge_iff_le, gt_iff_lt, hk_si, hl_si, hn_si, hr_si, hj_si, hi_si, mg_si, hk_J, hl_J, hn_J, hr_J, hi_J, hj_J, mg_J, s1, s2, s3, s4, r1, r2, hn, hne, hR1, q1, q2, e3, ei, nn_xor1, nn_le, nn_mxT, nn_clamp, nn_add, nn_row, hi2]
      rfl
    refine E1.trans (e16.trans ?_)
    have hnl : ¬ (gt_M g s (sc_r (i + 1)) (sc_r i + i) < 0 ∧ False) := fun z => z.2
    have v1 : gt_M g s (sc_r (i + 1)) (sc_r i + i) = gt_M g s 312 (sc_r i + i) := by
      have := sc_r_next i hi24
      unfold gt_M
      rw [if_pos (show sc_r i + i < sc_r (i + 1) by omega), if_pos h3]
    have gN : gt_N g s (i + 1) = (gt_N g s i || decide (gt_M g s 312 (sc_r i + i) < 0)) := by
      unfold gt_N
      rw [List.range_succ, List.any_append]; simp
    by_cases c : gt_M g s 312 (sc_r i + i) < 0
    · have z1 : gt_z g s (i + 1) = 1 := by unfold gt_z; rw [gN]; simp [c]
      unfold gtl
      rw [s_160_177]
      simp (disch := omega) only [s_160_0, s_160_1, s_160_2, s_160_3, s_160_4, s_160_5, s_160_6, s_160_7, s_160_8, s_160_10, s_160_11, s_160_14, s_160_15, s_160_16, s_160_17, s_160_18, s_160_21, s_160_22, s_160_24, s_160_25, s_160_28, s_160_29, s_160_30, s_160_31, s_160_32, s_160_35, s_160_36, s_160_38, s_160_40, s_160_42, s_160_43, s_160_44, s_160_45, s_160_48, s_160_49, s_160_50, s_160_53, s_160_54, s_160_55, s_160_57, s_160_59, s_160_60, s_160_61, s_160_64, s_160_65, s_160_68, s_160_69, s_160_72, s_160_73, s_160_75, s_160_78, s_160_79, s_160_81, s_160_82, s_160_85, s_160_86, s_160_87, s_160_88, s_160_90, s_160_93, s_160_94, s_160_96, s_160_97, s_160_99, s_160_101, s_160_103, s_160_105, s_160_106, s_160_109, s_160_110, s_160_111, s_160_113, s_160_115, s_160_116, s_160_118, s_160_120, s_160_122, s_160_123, s_160_126, s_160_127, s_160_130, s_160_133, s_160_134, s_160_138, s_160_139, s_160_140, s_160_143, s_160_144, s_160_147, s_160_148, s_160_150, s_160_152, s_160_153, s_160_154, s_160_155, s_160_156, s_160_158, s_160_159, s_160_161, s_160_162, s_160_163, s_160_164, s_160_166, s_160_169, s_160_171, s_160_171x, s_160_172, s_160_174, s_160_175, s_160_177, s_160_179, s_160_181, s_160_182, s_160_183, s_160_186, s_160_188, s_160_189, s_160_191, s_160_192, s_160_193, s_160_195, s_160_196, s_160_198, s_160_200, s_160_201, s_160_202, s_160_203, s_160_206, s_160_208, s_160_209, s_160_212, s_160_214, s_160_216, s_160_217, s_160_218, s_160_221, s_160_223, s_160_225, s_160_226, s_160_227, s_160_229, s_160_232, s_160_233, s_160_236, s_160_239, s_160_240, s_160_243, s_160_245, s_160_247, s_160_248, s_160_249, s_160_250, s_160_251, s_160_254, s_160_255, s_160_256, s_160_259, s_160_262, s_160_265, e_160, mv_i_1, mv_l_1, mv_a_1, mv_a_2, mv_a_3, mk2_n, mk2_i, mk2_l, mk2_a, mk2_u, mk2_x, mB_T, mB_F, mS_cons, mS_nil, mSB_T, mSB_F, mca_nil, mca_i, mca_l, mca_r, mca_u, mca_x, mcat_i, mcat_l, mcat_r, mcat_u, mcat_x, mK_some, mK_none, va_rf_s, va_rf_n, lgc_eq, lgc_lt, lgc_gt, lgc_ge, lgc_le, mrd_104, mrd_105, mrd_106, mrd_107, true_and, and_true, and_self, false_and, and_false, true_or, or_true, false_or, or_false, not_true_eq_false, not_false_eq_true, mgb, mga, mgr, mN, reduceCtorEq, ↓reduceIte, eq_self, ge_iff_le, gt_iff_lt, hk_si, hl_si, hn_si, hr_si, hj_si, hi_si, mg_si, hk_J, hl_J, hn_J, hr_J, hi_J, hj_J, mg_J, s1, s2, s3, s4, ei, nn_or1, nn_lt, nn_mxT, nn_clamp, nn_add, hx, v1, le_nlt64, mB_not, c, z1, si_si]
    · have z1 : gt_z g s (i + 1) = gt_z g s i := by unfold gt_z; rw [gN]; simp [c]
      unfold gtl
      rw [s_160_177]
      simp (disch := omega) only [s_160_0, s_160_1, s_160_2, s_160_3, s_160_4, s_160_5, s_160_6, s_160_7, s_160_8, s_160_10, s_160_11, s_160_14, s_160_15, s_160_16, s_160_17, s_160_18, s_160_21, s_160_22, s_160_24, s_160_25, s_160_28, s_160_29, s_160_30, s_160_31, s_160_32, s_160_35, s_160_36, s_160_38, s_160_40, s_160_42, s_160_43, s_160_44, s_160_45, s_160_48, s_160_49, s_160_50, s_160_53, s_160_54, s_160_55, s_160_57, s_160_59, s_160_60, s_160_61, s_160_64, s_160_65, s_160_68, s_160_69, s_160_72, s_160_73, s_160_75, s_160_78, s_160_79, s_160_81, s_160_82, s_160_85, s_160_86, s_160_87, s_160_88, s_160_90, s_160_93, s_160_94, s_160_96, s_160_97, s_160_99, s_160_101, s_160_103, s_160_105, s_160_106, s_160_109, s_160_110, s_160_111, s_160_113, s_160_115, s_160_116, s_160_118, s_160_120, s_160_122, s_160_123, s_160_126, s_160_127, s_160_130, s_160_133, s_160_134, s_160_138, s_160_139, s_160_140, s_160_143, s_160_144, s_160_147, s_160_148, s_160_150, s_160_152, s_160_153, s_160_154, s_160_155, s_160_156, s_160_158, s_160_159, s_160_161, s_160_162, s_160_163, s_160_164, s_160_166, s_160_169, s_160_171, s_160_171x, s_160_172, s_160_174, s_160_175, s_160_177, s_160_179, s_160_181, s_160_182, s_160_183, s_160_186, s_160_188, s_160_189, s_160_191, s_160_192, s_160_193, s_160_195, s_160_196, s_160_198, s_160_200, s_160_201, s_160_202, s_160_203, s_160_206, s_160_208, s_160_209, s_160_212, s_160_214, s_160_216, s_160_217, s_160_218, s_160_221, s_160_223, s_160_225, s_160_226, s_160_227, s_160_229, s_160_232, s_160_233, s_160_236, s_160_239, s_160_240, s_160_243, s_160_245, s_160_247, s_160_248, s_160_249, s_160_250, s_160_251, s_160_254, s_160_255, s_160_256, s_160_259, s_160_262, s_160_265, e_160, mv_i_1, mv_l_1, mv_a_1, mv_a_2, mv_a_3, mk2_n, mk2_i, mk2_l, mk2_a, mk2_u, mk2_x, mB_T, mB_F, mS_cons, mS_nil, mSB_T, mSB_F, mca_nil, mca_i, mca_l, mca_r, mca_u, mca_x, mcat_i, mcat_l, mcat_r, mcat_u, mcat_x, mK_some, mK_none, va_rf_s, va_rf_n, lgc_eq, lgc_lt, lgc_gt, lgc_ge, lgc_le, mrd_104, mrd_105, mrd_106, mrd_107, true_and, and_true, and_self, false_and, and_false, true_or, or_true, false_or, or_false, not_true_eq_false, not_false_eq_true, mgb, mga, mgr, mN, reduceCtorEq, ↓reduceIte, eq_self, ge_iff_le, gt_iff_lt, hk_si, hl_si, hn_si, hr_si, hj_si, hi_si, mg_si, hk_J, hl_J, hn_J, hr_J, hi_J, hj_J, mg_J, s1, s2, s3, s4, ei, nn_or1, nn_lt, nn_mxT, nn_clamp, nn_add, hx, v1, le_nlt64, mB_not, c, z1, si_si]) x
  obtain ⟨y, e⟩ := L
  refine ⟨y, ?_⟩
  have e0 : mh_si (mh_J h (o + 1) (gt_M g s (sc_r 0))) o 0 (gt_z g s 0) = mh_J h (o + 1) (gt_M g s 0) := by
    have : gt_z g s 0 = mh_i (mh_J h (o + 1) (gt_M g s 0)) o 0 := by rw [hi_J, hz]; rfl
    rw [this]; exact si_id
  rw [e0, sc_r_2n n hn2] at e
  exact e
end GT2

/-- State.goThrough -/
theorem c_160 {d : Nat} {Q : Option Value → mh_H → Prop} {h : mh_H} {o R n s : Nat} (hs : so h o) (hn : mh_i h o 1 = Int32.ofNat n) (hn2 : n ≤ 12) (hs2 : s < n) (hR : mg h R 101) (hRl : mh_l h R = 48) (hR1 : ¬ R = o + 1) (hz : mh_i h o 0 = 0) : mcall (d + 1) 160 [.ref o, .int (Int32.ofNat s), .ref R] h Q = Q none (if mh_j h (o + 1) (sc (2 * s) (2 * s + 1)) + mh_j h (o + 1) (sc (2 * s + 1) (2 * s)) < 0 then mh_si h o 0 1 else mh_si (mh_J (mh_J h R (gt_R (mh_j h (o + 1)) (mh_j h R) s (2 * n))) (o + 1) (gt_M (mh_j h (o + 1)) s (sc_n n))) o 0 (gt_z (mh_j h (o + 1)) s (2 * n))) := by
  have hs' := hs
  obtain ⟨s1, s2, s3, s4, s5, s6, s7⟩ := hs
  have ei : ∀ k, Int32.ofNat k + 1 = Int32.ofNat (k + 1) := fun k => nn_add (a := k) (b := 1)
  have e3 : ∀ k, (2 : Int32) * Int32.ofNat k = Int32.ofNat (2 * k) := fun k => nn_mul (a := 2) (b := k)
  have h1 := sc_lt (i := 2 * s) (j := 2 * s + 1) (by omega) (by omega)
  have h2 := sc_lt (i := 2 * s + 1) (j := 2 * s) (by omega) (by omega)
  have e48 : Int32.ofNat 48 / 2 = Int32.ofNat 24 := by decide
  have e20 : ((2 : Int32) = 0) = False := by decide
  have k1 : 100 ≤ mh_k h R := by rw [hR.1]; omega
  have k2 : mh_k h R < 108 := by rw [hR.1]; omega
  have k3 := hR.2
  have hR2 : ¬ o + 1 = R := fun z => hR1 z.symm
  have m1 : ¬ o = R := fun z => by have := s1.1; rw [z, hR.1] at this; omega
  by_cases c : mh_j h (o + 1) (sc (2 * s) (2 * s + 1)) + mh_j h (o + 1) (sc (2 * s + 1) (2 * s)) < 0
  · simp (disch := omega) only [s_160_0, s_160_1, s_160_2, s_160_3, s_160_4, s_160_5, s_160_6, s_160_7, s_160_8, s_160_10, s_160_11, s_160_14, s_160_15, s_160_16, s_160_17, s_160_18, s_160_21, s_160_22, s_160_24, s_160_25, s_160_28, s_160_29, s_160_30, s_160_31, s_160_32, s_160_35, s_160_36, s_160_38, s_160_40, s_160_42, s_160_43, s_160_44, s_160_45, s_160_48, s_160_49, s_160_50, s_160_53, s_160_54, s_160_55, s_160_59, s_160_60, s_160_61, s_160_64, s_160_65, s_160_68, s_160_69, s_160_72, s_160_73, s_160_75, s_160_78, s_160_79, s_160_81, s_160_82, s_160_85, s_160_86, s_160_87, s_160_88, s_160_90, s_160_93, s_160_94, s_160_96, s_160_97, s_160_99, s_160_101, s_160_103, s_160_105, s_160_106, s_160_109, s_160_110, s_160_111, s_160_113, s_160_115, s_160_116, s_160_118, s_160_120, s_160_122, s_160_123, s_160_126, s_160_127, s_160_130, s_160_133, s_160_134, s_160_136, s_160_138, s_160_139, s_160_140, s_160_143, s_160_144, s_160_147, s_160_148, s_160_150, s_160_152, s_160_153, s_160_154, s_160_155, s_160_156, s_160_158, s_160_159, s_160_161, s_160_162, s_160_163, s_160_164, s_160_166, s_160_169, s_160_171, s_160_171x, s_160_172, s_160_174, s_160_175, s_160_177, s_160_179, s_160_181, s_160_182, s_160_183, s_160_186, s_160_188, s_160_189, s_160_191, s_160_192, s_160_193, s_160_195, s_160_196, s_160_198, s_160_200, s_160_201, s_160_202, s_160_203, s_160_206, s_160_208, s_160_209, s_160_212, s_160_214, s_160_216, s_160_217, s_160_218, s_160_221, s_160_223, s_160_225, s_160_226, s_160_227, s_160_229, s_160_232, s_160_233, s_160_236, s_160_239, s_160_240, s_160_243, s_160_245, s_160_247, s_160_248, s_160_249, s_160_250, s_160_251, s_160_254, s_160_255, s_160_256, s_160_259, s_160_262, s_160_265, e_160, mv_i_1, mv_l_1, mv_a_1, mv_a_2, mv_a_3, mk2_n, mk2_i, mk2_l, mk2_a, mk2_u, mk2_x, mB_T, mB_F, mS_cons, mS_nil, mSB_T, mSB_F, mca_nil, mca_i, mca_l, mca_r, mca_u, mca_x, mcat_i, mcat_l, mcat_r, mcat_u, mcat_x, mK_some, mK_none, va_rf_s, va_rf_n, lgc_eq, lgc_lt, lgc_gt, lgc_ge, lgc_le, mrd_104, mrd_105, mrd_106, mrd_107, true_and, and_true, and_self, false_and, and_false, true_or, or_true, false_or, or_false, not_true_eq_false, not_false_eq_true, mgb, mga, mgr, mN, reduceCtorEq, ↓reduceIte, eq_self, ge_iff_le, gt_iff_lt, s1, s2, s3, s4, hRl, k1, k2, k3, e3, ei, e48, e20, c_140, nn_mxT, nn_clamp, le_nlt64, mB_not, c]
  · rw [if_neg c]
    simp (disch := omega) only [s_160_0, s_160_1, s_160_2, s_160_3, s_160_4, s_160_5, s_160_6, s_160_7, s_160_8, s_160_10, s_160_11, s_160_14, s_160_15, s_160_16, s_160_17, s_160_18, s_160_21, s_160_22, s_160_24, s_160_25, s_160_28, s_160_29, s_160_30, s_160_31, s_160_32, s_160_35, s_160_36, s_160_38, s_160_40, s_160_42, s_160_43, s_160_44, s_160_45, s_160_48, s_160_49, s_160_50, s_160_53, s_160_54, s_160_55, s_160_59, s_160_60, s_160_61, s_160_64, s_160_65, s_160_68, s_160_69, s_160_72, s_160_73, s_160_75, s_160_78, s_160_79, s_160_81, s_160_82, s_160_85, s_160_86, s_160_87, s_160_88, s_160_90, s_160_93, s_160_94, s_160_96, s_160_97, s_160_99, s_160_101, s_160_103, s_160_105, s_160_106, s_160_109, s_160_110, s_160_111, s_160_113, s_160_115, s_160_116, s_160_118, s_160_120, s_160_122, s_160_123, s_160_126, s_160_127, s_160_130, s_160_133, s_160_134, s_160_136, s_160_138, s_160_139, s_160_140, s_160_143, s_160_144, s_160_147, s_160_148, s_160_150, s_160_152, s_160_153, s_160_154, s_160_155, s_160_156, s_160_158, s_160_159, s_160_161, s_160_162, s_160_163, s_160_164, s_160_166, s_160_169, s_160_171, s_160_171x, s_160_172, s_160_174, s_160_175, s_160_177, s_160_179, s_160_181, s_160_182, s_160_183, s_160_186, s_160_188, s_160_189, s_160_191, s_160_192, s_160_193, s_160_195, s_160_196, s_160_198, s_160_200, s_160_201, s_160_202, s_160_203, s_160_206, s_160_208, s_160_209, s_160_212, s_160_214, s_160_216, s_160_217, s_160_218, s_160_221, s_160_223, s_160_225, s_160_226, s_160_227, s_160_229, s_160_232, s_160_233, s_160_236, s_160_239, s_160_240, s_160_243, s_160_245, s_160_247, s_160_248, s_160_249, s_160_250, s_160_251, s_160_254, s_160_255, s_160_256, s_160_259, s_160_262, s_160_265, e_160, mv_i_1, mv_l_1, mv_a_1, mv_a_2, mv_a_3, mk2_n, mk2_i, mk2_l, mk2_a, mk2_u, mk2_x, mB_T, mB_F, mS_cons, mS_nil, mSB_T, mSB_F, mca_nil, mca_i, mca_l, mca_r, mca_u, mca_x, mcat_i, mcat_l, mcat_r, mcat_u, mcat_x, mK_some, mK_none, va_rf_s, va_rf_n, lgc_eq, lgc_lt, lgc_gt, lgc_ge, lgc_le, mrd_104, mrd_105, mrd_106, mrd_107, true_and, and_true, and_self, false_and, and_false, true_or, or_true, false_or, or_false, not_true_eq_false, not_false_eq_true, mgb, mga, mgr, mN, reduceCtorEq, ↓reduceIte, eq_self, ge_iff_le, gt_iff_lt, s1, s2, s3, s4, hRl, k1, k2, k3, e3, ei, e48, e20, c_140, nn_mxT, nn_clamp, le_nlt64, mB_not, c]
    obtain ⟨y10, y12, e1⟩ := gt_1 (d := d) (Q := Q) (x10 := none) (x11 := none) (x12 := none) (x13 := none) (x14 := none) (x15 := none) (x16 := none) (x17 := none) hs' hn hn2 hs2 hR hRl hR1
    refine Eq.trans e1 ?_
    have hle : (2 * n ≤ 2 * n) = True := eq_true (Nat.le_refl _)
    have hh : gth (mh_J h R (gt_R (mh_j h (o + 1)) (mh_j h R) s (2 * n))) o R n s (mh_j h (o + 1)) := by
      refine ⟨s1, s2, s3, s4, hR, hRl, hn, fun j hj => ?_⟩
      rw [hj_J, hj_J, if_pos rfl, if_pos rfl]
      unfold gt_R
      rw [if_pos hj, if_neg (show ¬ 24 + j < 2 * n by omega), if_pos (show 24 ≤ 24 + j ∧ 24 + j < 24 + 2 * n by omega), show 24 + j - 24 = j by omega]
      exact ⟨rfl, rfl⟩
    obtain ⟨y, e2⟩ := gt_2 (d := d) (Q := Q) (ac := mh_j h (o + 1) (sc (2 * s) (2 * s + 1))) (bk := mh_j h (o + 1) (sc (2 * s + 1) (2 * s))) hh hn2 hR1 hz (y10, y12, none, none, none)
    have i0 : mh_J (mh_J h R (gt_R (mh_j h (o + 1)) (mh_j h R) s (2 * n))) (o + 1) (gt_M (mh_j h (o + 1)) s 0) = mh_J h R (gt_R (mh_j h (o + 1)) (mh_j h R) s (2 * n)) := by
      refine (J_ext (fun q => ?_)).trans J_id
      unfold gt_M
      rw [if_neg (by omega), hj_J, if_neg hR2]
    rw [i0] at e2
    have E : mw (d + 1) 160 Q 57 [some (.ref o), some (.int (Int32.ofNat s)), some (.ref R), some (.int (Int32.ofNat (2 * s))), some (.int (Int32.ofNat 24)), some (.long (mh_j h (o + 1) (sc (2 * s) (2 * s + 1)))), none, some (.long (mh_j h (o + 1) (sc (2 * s + 1) (2 * s)))), none, some (.int (Int32.ofNat (2 * n))), y10, none, y12, none, none, none, none, none] [] (mh_J h R (gt_R (mh_j h (o + 1)) (mh_j h R) s (2 * n))) = mw (d + 1) 160 Q 136 (gtl o s R (mh_j h (o + 1) (sc (2 * s) (2 * s + 1))) (mh_j h (o + 1) (sc (2 * s + 1) (2 * s))) 0 y10 y12 none none none) [] (mh_J h R (gt_R (mh_j h (o + 1)) (mh_j h R) s (2 * n))) := by
      rw [s_160_57]
      simp (disch := omega) only [s_160_0, s_160_1, s_160_2, s_160_3, s_160_4, s_160_5, s_160_6, s_160_7, s_160_8, s_160_10, s_160_11, s_160_14, s_160_15, s_160_16, s_160_17, s_160_18, s_160_21, s_160_22, s_160_24, s_160_25, s_160_28, s_160_29, s_160_30, s_160_31, s_160_32, s_160_35, s_160_36, s_160_38, s_160_40, s_160_42, s_160_43, s_160_44, s_160_45, s_160_48, s_160_49, s_160_50, s_160_53, s_160_54, s_160_55, s_160_57, s_160_59, s_160_60, s_160_61, s_160_64, s_160_65, s_160_68, s_160_69, s_160_72, s_160_73, s_160_75, s_160_78, s_160_79, s_160_81, s_160_82, s_160_85, s_160_86, s_160_87, s_160_88, s_160_90, s_160_93, s_160_94, s_160_96, s_160_97, s_160_99, s_160_101, s_160_103, s_160_105, s_160_106, s_160_109, s_160_110, s_160_111, s_160_113, s_160_115, s_160_116, s_160_118, s_160_120, s_160_122, s_160_123, s_160_126, s_160_127, s_160_130, s_160_133, s_160_134, s_160_138, s_160_139, s_160_140, s_160_143, s_160_144, s_160_147, s_160_148, s_160_150, s_160_152, s_160_153, s_160_154, s_160_155, s_160_156, s_160_158, s_160_159, s_160_161, s_160_162, s_160_163, s_160_164, s_160_166, s_160_169, s_160_171, s_160_171x, s_160_172, s_160_174, s_160_175, s_160_177, s_160_179, s_160_181, s_160_182, s_160_183, s_160_186, s_160_188, s_160_189, s_160_191, s_160_192, s_160_193, s_160_195, s_160_196, s_160_198, s_160_200, s_160_201, s_160_202, s_160_203, s_160_206, s_160_208, s_160_209, s_160_212, s_160_214, s_160_216, s_160_217, s_160_218, s_160_221, s_160_223, s_160_225, s_160_226, s_160_227, s_160_229, s_160_232, s_160_233, s_160_236, s_160_239, s_160_240, s_160_243, s_160_245, s_160_247, s_160_248, s_160_249, s_160_250, s_160_251, s_160_254, s_160_255, s_160_256, s_160_259, s_160_262, s_160_265, e_160, mv_i_1, mv_l_1, mv_a_1, mv_a_2, mv_a_3, mk2_n, mk2_i, mk2_l, mk2_a, mk2_u, mk2_x, mB_T, mB_F, mS_cons, mS_nil, mSB_T, mSB_F, mca_nil, mca_i, mca_l, mca_r, mca_u, mca_x, mcat_i, mcat_l, mcat_r, mcat_u, mcat_x, mK_some, mK_none, va_rf_s, va_rf_n, lgc_eq, lgc_lt, lgc_gt, lgc_ge, lgc_le, mrd_104, mrd_105, mrd_106, mrd_107, true_and, and_true, and_self, false_and, and_false, true_or, or_true, false_or, or_false, not_true_eq_false, not_false_eq_true, mgb, mga, mgr, mN, reduceCtorEq, ↓reduceIte, eq_self, ge_iff_le, gt_iff_lt, hi_J, mg_J, s1, hn, e3, nn_le, hle]
      rfl
    refine E.trans (e2.trans ?_)
    unfold gtl
    rw [s_160_136]
    have hne : ¬ (o = o ∧ 1 = 0) := by omega
    simp (disch := omega) only [s_160_0, s_160_1, s_160_2, s_160_3, s_160_4, s_160_5, s_160_6, s_160_7, s_160_8, s_160_10, s_160_11, s_160_14, s_160_15, s_160_16, s_160_17, s_160_18, s_160_21, s_160_22, s_160_24, s_160_25, s_160_28, s_160_29, s_160_30, s_160_31, s_160_32, s_160_35, s_160_36, s_160_38, s_160_40, s_160_42, s_160_43, s_160_44, s_160_45, s_160_48, s_160_49, s_160_50, s_160_53, s_160_54, s_160_55, s_160_57, s_160_59, s_160_60, s_160_61, s_160_64, s_160_65, s_160_68, s_160_69, s_160_72, s_160_73, s_160_75, s_160_78, s_160_79, s_160_81, s_160_82, s_160_85, s_160_86, s_160_87, s_160_88, s_160_90, s_160_93, s_160_94, s_160_96, s_160_97, s_160_99, s_160_101, s_160_103, s_160_105, s_160_106, s_160_109, s_160_110, s_160_111, s_160_113, s_160_115, s_160_116, s_160_118, s_160_120, s_160_122, s_160_123, s_160_126, s_160_127, s_160_130, s_160_133, s_160_134, s_160_136, s_160_138, s_160_139, s_160_140, s_160_143, s_160_144, s_160_147, s_160_148, s_160_150, s_160_152, s_160_153, s_160_154, s_160_155, s_160_156, s_160_158, s_160_159, s_160_161, s_160_162, s_160_163, s_160_164, s_160_166, s_160_169, s_160_171, s_160_171x, s_160_172, s_160_174, s_160_175, s_160_177, s_160_179, s_160_181, s_160_182, s_160_183, s_160_186, s_160_188, s_160_189, s_160_191, s_160_192, s_160_193, s_160_195, s_160_196, s_160_198, s_160_200, s_160_201, s_160_202, s_160_203, s_160_206, s_160_208, s_160_209, s_160_212, s_160_214, s_160_216, s_160_217, s_160_218, s_160_221, s_160_223, s_160_225, s_160_226, s_160_227, s_160_229, s_160_232, s_160_233, s_160_236, s_160_239, s_160_240, s_160_243, s_160_245, s_160_247, s_160_248, s_160_249, s_160_250, s_160_251, s_160_254, s_160_255, s_160_256, s_160_259, s_160_262, s_160_265, e_160, mv_i_1, mv_l_1, mv_a_1, mv_a_2, mv_a_3, mk2_n, mk2_i, mk2_l, mk2_a, mk2_u, mk2_x, mB_T, mB_F, mS_cons, mS_nil, mSB_T, mSB_F, mca_nil, mca_i, mca_l, mca_r, mca_u, mca_x, mcat_i, mcat_l, mcat_r, mcat_u, mcat_x, mK_some, mK_none, va_rf_s, va_rf_n, lgc_eq, lgc_lt, lgc_gt, lgc_ge, lgc_le, mrd_104, mrd_105, mrd_106, mrd_107, true_and, and_true, and_self, false_and, and_false, true_or, or_true, false_or, or_false, not_true_eq_false, not_false_eq_true, mgb, mga, mgr, mN, reduceCtorEq, ↓reduceIte, eq_self, ge_iff_le, gt_iff_lt, hi_si, mg_si, hi_J, mg_J, s1, hn, hne, e3, nn_le, hle]
/-- rounding down the first k of the slots' own bounds -/
def rd_U (k q : Nat) : Bool := (List.range k).any fun i => q == sc i (oc_b i)
def rd_M (g : Nat → Int64) (k q : Nat) : Int64 := if rd_U k q then g q &&& (-2) else g q
def rd_N (g : Nat → Int64) (k : Nat) : Bool := (List.range k).any fun x => decide (g (sc (2 * x) (2 * x + 1)) + g (sc (2 * x + 1) (2 * x)) < 0)
def rd_z (g : Nat → Int64) (k : Nat) : Int32 := if rd_N g k then 1 else 0
theorem rd_U_next {k q : Nat} : rd_U (k + 1) q = (rd_U k q || q == sc k (oc_b k)) := by unfold rd_U; rw [List.range_succ, List.any_append]; simp
theorem rd_U_not {k : Nat} (hk : k < 24) : rd_U k (sc k (oc_b k)) = false := by
  unfold rd_U
  rw [List.any_eq_false]
  intro i hi
  have hi := List.mem_range.mp hi
  simp only [beq_iff_eq]
  intro z
  rcases sc_inj hk (oc_b24 hk) (by omega) (oc_b24 (by omega)) z with q | q
  · omega
  · have := q.1; rw [sc_bb] at this; omega
/-- State.roundDown -/
theorem c_161 {d : Nat} {Q : Option Value → mh_H → Prop} {h : mh_H} {o n : Nat} (hs : so h o) (hn : mh_i h o 1 = Int32.ofNat n) (hn2 : n ≤ 12) (hz : mh_i h o 0 = 0) : mcall (d + 1) 161 [.ref o] h Q = Q none (mh_si (mh_J h (o + 1) (rd_M (mh_j h (o + 1)) (2 * n))) o 0 (rd_z (rd_M (mh_j h (o + 1)) (2 * n)) n)) := by
  obtain ⟨s1, s2, s3, s4, s5, s6, s7⟩ := hs
  have ei : ∀ k, Int32.ofNat k + 1 = Int32.ofNat (k + 1) := fun k => nn_add (a := k) (b := 1)
  have ei2 : ∀ k, Int32.ofNat k + 2 = Int32.ofNat (k + 2) := fun k => nn_add (a := k) (b := 2)
  have e3 : ∀ k, (2 : Int32) * Int32.ofNat k = Int32.ofNat (2 * k) := fun k => nn_mul (a := 2) (b := k)
  have hne : ¬ (o = o ∧ 1 = 0) := by omega
  have L1 := mw_loop (d := d + 1) (y := 161) (pc := 2) (Q := Q) (st := []) (fun k => [some (.ref o), some (.int (Int32.ofNat k))]) (fun k => mh_J h (o + 1) (rd_M (mh_j h (o + 1)) k)) (a := 0) (b := 2 * n) (Nat.zero_le _) (fun k _ hk => by
    have hk2 : ¬ 2 * n ≤ k := by omega
    have hb := oc_b24 (a := k) (by omega)
    have h1 := sc_lt (i := k) (j := oc_b k) (by omega) hb
    have v1 : rd_M (mh_j h (o + 1)) k (sc k (oc_b k)) = mh_j h (o + 1) (sc k (oc_b k)) := by unfold rd_M; rw [rd_U_not (by omega), if_neg (by decide)]
    rw [s_161_2]
    simp (disch := omega) only [s_161_0, s_161_1, s_161_3, s_161_4, s_161_5, s_161_8, s_161_9, s_161_12, s_161_13, s_161_16, s_161_17, s_161_18, s_161_19, s_161_20, s_161_23, s_161_23l, s_161_24, s_161_25, s_161_28, s_161_29, s_161_30, s_161_33, s_161_36, s_161_37, s_161_38, s_161_39, s_161_40, s_161_41, s_161_44, s_161_45, s_161_48, s_161_49, s_161_52, s_161_53, s_161_54, s_161_55, s_161_56, s_161_59, s_161_60, s_161_61, s_161_64, s_161_65, s_161_66, s_161_67, s_161_68, s_161_71, s_161_72, s_161_73, s_161_74, s_161_75, s_161_78, s_161_79, s_161_80, s_161_83, s_161_86, s_161_89, e_161, mv_i_1, mv_l_1, mv_a_1, mv_a_2, mv_a_3, mk2_n, mk2_i, mk2_l, mk2_a, mk2_u, mk2_x, mB_T, mB_F, mS_cons, mS_nil, mSB_T, mSB_F, mca_nil, mca_i, mca_l, mca_r, mca_u, mca_x, mcat_i, mcat_l, mcat_r, mcat_u, mcat_x, mK_some, mK_none, va_rf_s, va_rf_n, lgc_eq, lgc_lt, lgc_gt, lgc_ge, lgc_le, mrd_104, mrd_105, mrd_106, mrd_107, true_and, and_true, and_self, false_and, and_false, true_or, or_true, false_or, or_false, not_true_eq_false, not_false_eq_true, mgb, mga, mgr, mN, reduceCtorEq, ↓reduceIte, eq_self, ge_iff_le, gt_iff_lt, hk_J, hl_J, hn_J, hr_J, hi_J, hj_J, mg_J, s1, s2, s3, s4, hn, e3, ei, c_140, nn_xor1, nn_le, nn_mxT, nn_clamp, hk2, v1, J_sj]
    refine mw_J (fun q => ?_)
    unfold rd_M
    rw [rd_U_next]
    by_cases c : q = sc k (oc_b k)
    · rw [if_pos c, c]; simp
    · rw [if_neg c]
      have : (q == sc k (oc_b k)) = false := by simp [c]
      rw [this, Bool.or_false])
  have L2 : ∀ g : Nat → Int64, mw (d + 1) 161 Q 38 [some (.ref o), some (.int (Int32.ofNat (2 * 0)))] [] (mh_si (mh_J h (o + 1) g) o 0 (rd_z g 0)) = mw (d + 1) 161 Q 38 [some (.ref o), some (.int (Int32.ofNat (2 * n)))] [] (mh_si (mh_J h (o + 1) g) o 0 (rd_z g n)) := fun g => mw_loop (d := d + 1) (y := 161) (pc := 38) (Q := Q) (st := []) (fun k => [some (.ref o), some (.int (Int32.ofNat (2 * k)))]) (fun k => mh_si (mh_J h (o + 1) g) o 0 (rd_z g k)) (a := 0) (b := n) (Nat.zero_le _) (fun k _ hk => by
    have hk2 : ¬ 2 * n ≤ 2 * k := by omega
    have h1 := sc_lt (i := 2 * k) (j := 2 * k + 1) (by omega) (by omega)
    have h2 := sc_lt (i := 2 * k + 1) (j := 2 * k) (by omega) (by omega)
    have gN : rd_N g (k + 1) = (rd_N g k || decide (g (sc (2 * k) (2 * k + 1)) + g (sc (2 * k + 1) (2 * k)) < 0)) := by
      unfold rd_N; rw [List.range_succ, List.any_append]; simp
    have e4 : 2 * k + 2 = 2 * (k + 1) := by omega
    by_cases c : g (sc (2 * k) (2 * k + 1)) + g (sc (2 * k + 1) (2 * k)) < 0
    · have z1 : rd_z g (k + 1) = 1 := by unfold rd_z; rw [gN]; simp [c]
      rw [s_161_38]
      simp (disch := omega) only [s_161_0, s_161_1, s_161_2, s_161_3, s_161_4, s_161_5, s_161_8, s_161_9, s_161_12, s_161_13, s_161_16, s_161_17, s_161_18, s_161_19, s_161_20, s_161_23, s_161_23l, s_161_24, s_161_25, s_161_28, s_161_29, s_161_30, s_161_33, s_161_36, s_161_37, s_161_39, s_161_40, s_161_41, s_161_44, s_161_45, s_161_48, s_161_49, s_161_52, s_161_53, s_161_54, s_161_55, s_161_56, s_161_59, s_161_60, s_161_61, s_161_64, s_161_65, s_161_66, s_161_67, s_161_68, s_161_71, s_161_72, s_161_73, s_161_74, s_161_75, s_161_78, s_161_79, s_161_80, s_161_83, s_161_86, s_161_89, e_161, mv_i_1, mv_l_1, mv_a_1, mv_a_2, mv_a_3, mk2_n, mk2_i, mk2_l, mk2_a, mk2_u, mk2_x, mB_T, mB_F, mS_cons, mS_nil, mSB_T, mSB_F, mca_nil, mca_i, mca_l, mca_r, mca_u, mca_x, mcat_i, mcat_l, mcat_r, mcat_u, mcat_x, mK_some, mK_none, va_rf_s, va_rf_n, lgc_eq, lgc_lt, lgc_gt, lgc_ge, lgc_le, mrd_104, mrd_105, mrd_106, mrd_107, true_and, and_true, and_self, false_and, and_false, true_or, or_true, false_or, or_false, not_true_eq_false, not_false_eq_true, mgb, mga, mgr, mN, reduceCtorEq, ↓reduceIte, eq_self, ge_iff_le, gt_iff_lt, hk_si, hl_si, hn_si, hr_si, hj_si, hi_si, mg_si, hk_J, hl_J, hn_J, hr_J, hi_J, hj_J, mg_J, s1, s2, s3, s4, hn, hne, e3, ei, ei2, e4, c_140, nn_le, nn_mxT, nn_clamp, hk2, le_nlt64, mB_not, c, z1, si_si]
    · have z1 : rd_z g (k + 1) = rd_z g k := by unfold rd_z; rw [gN]; simp [c]
      rw [s_161_38]
      simp (disch := omega) only [s_161_0, s_161_1, s_161_2, s_161_3, s_161_4, s_161_5, s_161_8, s_161_9, s_161_12, s_161_13, s_161_16, s_161_17, s_161_18, s_161_19, s_161_20, s_161_23, s_161_23l, s_161_24, s_161_25, s_161_28, s_161_29, s_161_30, s_161_33, s_161_36, s_161_37, s_161_39, s_161_40, s_161_41, s_161_44, s_161_45, s_161_48, s_161_49, s_161_52, s_161_53, s_161_54, s_161_55, s_161_56, s_161_59, s_161_60, s_161_61, s_161_64, s_161_65, s_161_66, s_161_67, s_161_68, s_161_71, s_161_72, s_161_73, s_161_74, s_161_75, s_161_78, s_161_79, s_161_80, s_161_83, s_161_86, s_161_89, e_161, mv_i_1, mv_l_1, mv_a_1, mv_a_2, mv_a_3, mk2_n, mk2_i, mk2_l, mk2_a, mk2_u, mk2_x, mB_T, mB_F, mS_cons, mS_nil, mSB_T, mSB_F, mca_nil, mca_i, mca_l, mca_r, mca_u, mca_x, mcat_i, mcat_l, mcat_r, mcat_u, mcat_x, mK_some, mK_none, va_rf_s, va_rf_n, lgc_eq, lgc_lt, lgc_gt, lgc_ge, lgc_le, mrd_104, mrd_105, mrd_106, mrd_107, true_and, and_true, and_self, false_and, and_false, true_or, or_true, false_or, or_false, not_true_eq_false, not_false_eq_true, mgb, mga, mgr, mN, reduceCtorEq, ↓reduceIte, eq_self, ge_iff_le, gt_iff_lt, hk_si, hl_si, hn_si, hr_si, hj_si, hi_si, mg_si, hk_J, hl_J, hn_J, hr_J, hi_J, hj_J, mg_J, s1, s2, s3, s4, hn, hne, e3, ei, ei2, e4, c_140, nn_le, nn_mxT, nn_clamp, hk2, le_nlt64, mB_not, c, z1, si_si])
  have i1 : mh_J h (o + 1) (rd_M (mh_j h (o + 1)) 0) = h := (J_ext (fun q => rfl)).trans J_id
  have i2 : ∀ g : Nat → Int64, mh_si (mh_J h (o + 1) g) o 0 (rd_z g 0) = mh_J h (o + 1) g := fun g => by
    have : rd_z g 0 = mh_i (mh_J h (o + 1) g) o 0 := by rw [hi_J, hz]; rfl
    rw [this]; exact si_id
  have hle : (2 * n ≤ 2 * n) = True := eq_true (Nat.le_refl _)
  rw [i1] at L1
  simp only [s_161_0, s_161_1, s_161_3, s_161_4, s_161_5, s_161_8, s_161_9, s_161_12, s_161_13, s_161_16, s_161_17, s_161_18, s_161_19, s_161_20, s_161_23, s_161_23l, s_161_24, s_161_25, s_161_28, s_161_29, s_161_30, s_161_33, s_161_36, s_161_37, s_161_38, s_161_39, s_161_40, s_161_41, s_161_44, s_161_45, s_161_48, s_161_49, s_161_52, s_161_53, s_161_54, s_161_55, s_161_56, s_161_59, s_161_60, s_161_61, s_161_64, s_161_65, s_161_66, s_161_67, s_161_68, s_161_71, s_161_72, s_161_73, s_161_74, s_161_75, s_161_78, s_161_79, s_161_80, s_161_83, s_161_86, s_161_89, e_161, mv_i_1, mv_l_1, mv_a_1, mv_a_2, mv_a_3, mk2_n, mk2_i, mk2_l, mk2_a, mk2_u, mk2_x, mB_T, mB_F, mS_cons, mS_nil, mSB_T, mSB_F, mca_nil, mca_i, mca_l, mca_r, mca_u, mca_x, mcat_i, mcat_l, mcat_r, mcat_u, mcat_x, mK_some, mK_none, va_rf_s, va_rf_n, lgc_eq, lgc_lt, lgc_gt, lgc_ge, lgc_le, mrd_104, mrd_105, mrd_106, mrd_107, true_and, and_true, and_self, false_and, and_false, true_or, or_true, false_or, or_false, not_true_eq_false, not_false_eq_true, mgb, mga, mgr, mN, reduceCtorEq, ↓reduceIte, eq_self, ge_iff_le, gt_iff_lt]
  refine Eq.trans L1 ?_
  rw [s_161_2]
  simp (disch := omega) only [s_161_0, s_161_1, s_161_2, s_161_3, s_161_4, s_161_5, s_161_8, s_161_9, s_161_12, s_161_13, s_161_16, s_161_17, s_161_18, s_161_19, s_161_20, s_161_23, s_161_23l, s_161_24, s_161_25, s_161_28, s_161_29, s_161_30, s_161_33, s_161_36, s_161_37, s_161_39, s_161_40, s_161_41, s_161_44, s_161_45, s_161_48, s_161_49, s_161_52, s_161_53, s_161_54, s_161_55, s_161_56, s_161_59, s_161_60, s_161_61, s_161_64, s_161_65, s_161_66, s_161_67, s_161_68, s_161_71, s_161_72, s_161_73, s_161_74, s_161_75, s_161_78, s_161_79, s_161_80, s_161_83, s_161_86, s_161_89, e_161, mv_i_1, mv_l_1, mv_a_1, mv_a_2, mv_a_3, mk2_n, mk2_i, mk2_l, mk2_a, mk2_u, mk2_x, mB_T, mB_F, mS_cons, mS_nil, mSB_T, mSB_F, mca_nil, mca_i, mca_l, mca_r, mca_u, mca_x, mcat_i, mcat_l, mcat_r, mcat_u, mcat_x, mK_some, mK_none, va_rf_s, va_rf_n, lgc_eq, lgc_lt, lgc_gt, lgc_ge, lgc_le, mrd_104, mrd_105, mrd_106, mrd_107, true_and, and_true, and_self, false_and, and_false, true_or, or_true, false_or, or_false, not_true_eq_false, not_false_eq_true, mgb, mga, mgr, mN, reduceCtorEq, ↓reduceIte, eq_self, ge_iff_le, gt_iff_lt, hi_J, mg_J, s1, hn, e3, nn_le, hle]
  have L2' := L2 (rd_M (mh_j h (o + 1)) (2 * n))
  rw [i2] at L2'
  refine Eq.trans L2' ?_
  rw [s_161_38]
  simp (disch := omega) only [s_161_0, s_161_1, s_161_2, s_161_3, s_161_4, s_161_5, s_161_8, s_161_9, s_161_12, s_161_13, s_161_16, s_161_17, s_161_18, s_161_19, s_161_20, s_161_23, s_161_23l, s_161_24, s_161_25, s_161_28, s_161_29, s_161_30, s_161_33, s_161_36, s_161_37, s_161_38, s_161_39, s_161_40, s_161_41, s_161_44, s_161_45, s_161_48, s_161_49, s_161_52, s_161_53, s_161_54, s_161_55, s_161_56, s_161_59, s_161_60, s_161_61, s_161_64, s_161_65, s_161_66, s_161_67, s_161_68, s_161_71, s_161_72, s_161_73, s_161_74, s_161_75, s_161_78, s_161_79, s_161_80, s_161_83, s_161_86, s_161_89, e_161, mv_i_1, mv_l_1, mv_a_1, mv_a_2, mv_a_3, mk2_n, mk2_i, mk2_l, mk2_a, mk2_u, mk2_x, mB_T, mB_F, mS_cons, mS_nil, mSB_T, mSB_F, mca_nil, mca_i, mca_l, mca_r, mca_u, mca_x, mcat_i, mcat_l, mcat_r, mcat_u, mcat_x, mK_some, mK_none, va_rf_s, va_rf_n, lgc_eq, lgc_lt, lgc_gt, lgc_ge, lgc_le, mrd_104, mrd_105, mrd_106, mrd_107, true_and, and_true, and_self, false_and, and_false, true_or, or_true, false_or, or_false, not_true_eq_false, not_false_eq_true, mgb, mga, mgr, mN, reduceCtorEq, ↓reduceIte, eq_self, ge_iff_le, gt_iff_lt, hi_si, mg_si, hi_J, mg_J, s1, hn, hne, e3, nn_le, hle]
/-- adding up two slots' own bounds -/
def au_h (g : Nat → Int64) (j : Nat) : Int64 := g (sc (oc_b j) j) / 2
def au_R (g r : Nat → Int64) (k q : Nat) : Int64 := if q < k then au_h g q else r q
def au_M (g : Nat → Int64) (k q : Nat) : Int64 := if q < k then lmin (g q) (au_h g (oc_b (sc_i q)) + au_h g (sc_j q)) else g q
section AU
variable {d : Nat} {Q : Option Value → mh_H → Prop} {h : mh_H} {o R n : Nat} {g : Nat → Int64}
def auh (h : mh_H) (o R n : Nat) (g : Nat → Int64) : Prop := mg h o 8 ∧ mh_r h o 3 = some (o + 1) ∧ mg h (o + 1) 101 ∧ mh_l h (o + 1) = 312 ∧ mg h R 101 ∧ mh_l h R = 48 ∧ mh_i h o 1 = Int32.ofNat n ∧ ∀ j, j < 2 * n → mh_j h R j = au_h g j
theorem au_3 (hh : auh h o R n g) (hn2 : n ≤ 12) (hR1 : ¬ R = o + 1) {i : Nat} (hi : i < 2 * n) : mw (d + 1) 162 Q 58 [some (.ref o), some (.ref R), some (.int (Int32.ofNat i)), some (.int (Int32.ofNat (sc_r i))), some (.int (Int32.ofNat 0))] [] (mh_J h (o + 1) (au_M g (sc_r i))) = mw (d + 1) 162 Q 58 [some (.ref o), some (.ref R), some (.int (Int32.ofNat i)), some (.int (Int32.ofNat (sc_r i))), some (.int (Int32.ofNat (oc_1 i + 1)))] [] (mh_J h (o + 1) (au_M g (sc_r (i + 1)))) := by
  obtain ⟨s1, s2, s3, s4, r1, r2, hn, hr⟩ := hh
  have ei : ∀ k, Int32.ofNat k + 1 = Int32.ofNat (k + 1) := fun k => nn_add (a := k) (b := 1)
  have h1 := oc_1_eq i
  have hi24 : i < 24 := by omega
  have hb := oc_b24 hi24
  have hb2 := oc_b_lt (n := n) (a := i) hi
  have q0 := hr (oc_b i) hb2
  have L := mw_loop (d := d + 1) (y := 162) (pc := 58) (Q := Q) (st := []) (fun j => [some (.ref o), some (.ref R), some (.int (Int32.ofNat i)), some (.int (Int32.ofNat (sc_r i))), some (.int (Int32.ofNat j))]) (fun j => mh_J h (o + 1) (au_M g (sc_r i + j))) (a := 0) (b := oc_1 i + 1) (Nat.zero_le _) (fun j _ hj => by
    have hj2 : ¬ oc_1 i < j := by omega
    have q1 := hr j (by omega)
    have h3 := sc_r_top i hi24 j (by omega) (by omega)
    have v1 : au_M g (sc_r i + j) (sc_r i + j) = g (sc_r i + j) := if_neg (Nat.lt_irrefl _)
    rw [s_162_58]
    simp (disch := omega) only [s_162_0, s_162_1, s_162_2, s_162_3, s_162_4, s_162_5, s_162_8, s_162_9, s_162_12, s_162_13, s_162_14, s_162_15, s_162_18, s_162_19, s_162_20, s_162_21, s_162_22, s_162_25, s_162_26, s_162_29, s_162_30, s_162_31, s_162_34, s_162_37, s_162_38, s_162_39, s_162_40, s_162_41, s_162_42, s_162_45, s_162_46, s_162_49, s_162_52, s_162_53, s_162_53x, s_162_54, s_162_55, s_162_56, s_162_60, s_162_61, s_162_62, s_162_63, s_162_66, s_162_67, s_162_70, s_162_71, s_162_73, s_162_74, s_162_75, s_162_78, s_162_79, s_162_81, s_162_82, s_162_83, s_162_84, s_162_85, s_162_86, s_162_87, s_162_88, s_162_89, s_162_91, s_162_92, s_162_93, s_162_96, s_162_97, s_162_100, s_162_103, s_162_106, s_162_109, e_162, mv_i_1, mv_l_1, mv_a_1, mv_a_2, mv_a_3, mk2_n, mk2_i, mk2_l, mk2_a, mk2_u, mk2_x, mB_T, mB_F, mS_cons, mS_nil, mSB_T, mSB_F, mca_nil, mca_i, mca_l, mca_r, mca_u, mca_x, mcat_i, mcat_l, mcat_r, mcat_u, mcat_x, mK_some, mK_none, va_rf_s, va_rf_n, lgc_eq, lgc_lt, lgc_gt, lgc_ge, lgc_le, mrd_104, mrd_105, mrd_106, mrd_107, true_and, and_true, and_self, false_and, and_false, true_or, or_true, false_or, or_false, not_true_eq_false, not_false_eq_true, mgb, mga, mgr, mN, reduceCtorEq, ↓reduceIte, eq_self, ge_iff_le, gt_iff_lt, hk_J, hl_J, hn_J, hr_J, hi_J, hj_J, mg_J, s1, s2, s3, s4, r1, r2, hR1, q0, q1, ei, nn_or1, nn_xor1, nn_lt, nn_mxT, nn_clamp, nn_add, hj2, v1, J_sj]
    refine mw_J (fun q => ?_)
    show (if q = sc_r i + j then lmin (g (sc_r i + j)) (au_h g (oc_b i) + au_h g j) else au_M g (sc_r i + j) q) = au_M g (sc_r i + j + 1) q
    have e1 := sc_i_all i hi24 j (by omega) (by omega)
    have e2 : sc_j (sc_r i + j) = j := by unfold sc_j; rw [e1]; omega
    unfold au_M
    by_cases c : q = sc_r i + j
    · subst c
      rw [if_pos rfl, if_pos (show sc_r i + j < sc_r i + j + 1 by omega), e1, e2]
    · rw [if_neg c]
      by_cases c2 : q < sc_r i + j
      · rw [if_pos c2, if_pos (show q < sc_r i + j + 1 by omega)]
      · rw [if_neg c2, if_neg (show ¬ q < sc_r i + j + 1 by omega)])
  have := sc_r_next i hi24
  rw [this] at L
  exact L
/-- State.addUp -/
theorem c_162 (hs : so h o) (hn : mh_i h o 1 = Int32.ofNat n) (hn2 : n ≤ 12) (hR : mg h R 101) (hRl : mh_l h R = 48) (hR1 : ¬ R = o + 1) : mcall (d + 1) 162 [.ref o, .ref R] h Q = Q none (mh_J (mh_J h R (au_R (mh_j h (o + 1)) (mh_j h R) (2 * n))) (o + 1) (au_M (mh_j h (o + 1)) (sc_n n))) := by
  obtain ⟨s1, s2, s3, s4, s5, s6, s7⟩ := hs
  have ei : ∀ k, Int32.ofNat k + 1 = Int32.ofNat (k + 1) := fun k => nn_add (a := k) (b := 1)
  have e3 : ∀ k, (2 : Int32) * Int32.ofNat k = Int32.ofNat (2 * k) := fun k => nn_mul (a := 2) (b := k)
  have e20 : ((2 : Int64) = 0) = False := by decide
  have hR2 : ¬ o + 1 = R := fun z => hR1 z.symm
  have L1 := mw_loop (d := d + 1) (y := 162) (pc := 2) (Q := Q) (st := []) (fun k => [some (.ref o), some (.ref R), some (.int (Int32.ofNat k)), none, none]) (fun k => mh_J h R (au_R (mh_j h (o + 1)) (mh_j h R) k)) (a := 0) (b := 2 * n) (Nat.zero_le _) (fun k _ hk => by
    have hk2 : ¬ 2 * n ≤ k := by omega
    have hb := oc_b24 (a := k) (by omega)
    have h1 := sc_lt (i := oc_b k) (j := k) hb (by omega)
    rw [s_162_2]
    simp (disch := omega) only [s_162_0, s_162_1, s_162_3, s_162_4, s_162_5, s_162_8, s_162_9, s_162_12, s_162_13, s_162_14, s_162_15, s_162_18, s_162_19, s_162_20, s_162_21, s_162_22, s_162_25, s_162_26, s_162_29, s_162_30, s_162_31, s_162_34, s_162_37, s_162_38, s_162_39, s_162_40, s_162_41, s_162_42, s_162_45, s_162_46, s_162_49, s_162_52, s_162_53, s_162_53x, s_162_54, s_162_55, s_162_56, s_162_58, s_162_60, s_162_61, s_162_62, s_162_63, s_162_66, s_162_67, s_162_70, s_162_71, s_162_73, s_162_74, s_162_75, s_162_78, s_162_79, s_162_81, s_162_82, s_162_83, s_162_84, s_162_85, s_162_86, s_162_87, s_162_88, s_162_89, s_162_91, s_162_92, s_162_93, s_162_96, s_162_97, s_162_100, s_162_103, s_162_106, s_162_109, e_162, mv_i_1, mv_l_1, mv_a_1, mv_a_2, mv_a_3, mk2_n, mk2_i, mk2_l, mk2_a, mk2_u, mk2_x, mB_T, mB_F, mS_cons, mS_nil, mSB_T, mSB_F, mca_nil, mca_i, mca_l, mca_r, mca_u, mca_x, mcat_i, mcat_l, mcat_r, mcat_u, mcat_x, mK_some, mK_none, va_rf_s, va_rf_n, lgc_eq, lgc_lt, lgc_gt, lgc_ge, lgc_le, mrd_104, mrd_105, mrd_106, mrd_107, true_and, and_true, and_self, false_and, and_false, true_or, or_true, false_or, or_false, not_true_eq_false, not_false_eq_true, mgb, mga, mgr, mN, reduceCtorEq, ↓reduceIte, eq_self, ge_iff_le, gt_iff_lt, hk_J, hl_J, hn_J, hr_J, hi_J, hj_J, mg_J, s1, s2, s3, s4, hR, hRl, hR2, hn, e3, ei, e20, c_140, nn_xor1, nn_le, nn_mxT, nn_clamp, hk2, J_sj]
    refine mw_J (fun q => ?_)
    show (if q = k then au_h (mh_j h (o + 1)) k else au_R (mh_j h (o + 1)) (mh_j h R) k q) = au_R (mh_j h (o + 1)) (mh_j h R) (k + 1) q
    unfold au_R
    by_cases c : q = k
    · subst c; rw [if_pos rfl, if_pos (show q < q + 1 by omega)]
    · rw [if_neg c]
      by_cases c2 : q < k
      · rw [if_pos c2, if_pos (show q < k + 1 by omega)]
      · rw [if_neg c2, if_neg (show ¬ q < k + 1 by omega)])
  have i1 : mh_J h R (au_R (mh_j h (o + 1)) (mh_j h R) 0) = h := (J_ext (fun q => if_neg (Nat.not_lt_zero q))).trans J_id
  rw [i1] at L1
  have hh : auh (mh_J h R (au_R (mh_j h (o + 1)) (mh_j h R) (2 * n))) o R n (mh_j h (o + 1)) := by
    refine ⟨s1, s2, s3, s4, hR, hRl, hn, fun j hj => ?_⟩
    rw [hj_J, if_pos rfl]
    exact if_pos hj
  have L2 := mw_loopD (α := Option Value × Option Value) (d := d + 1) (y := 162) (pc := 39) (Q := Q) (st := []) (fun i x => [some (.ref o), some (.ref R), some (.int (Int32.ofNat i)), x.1, x.2]) (fun i => mh_J (mh_J h R (au_R (mh_j h (o + 1)) (mh_j h R) (2 * n))) (o + 1) (au_M (mh_j h (o + 1)) (sc_r i))) (a := 0) (b := 2 * n) (Nat.zero_le _) (fun i x _ hi => by
    refine ⟨(some (.int (Int32.ofNat (sc_r i))), some (.int (Int32.ofNat (oc_1 i + 1)))), ?_⟩
    have hi2 : ¬ 2 * n ≤ i := by omega
    have hi24 : i < 24 := by omega
    have h1 := oc_1_eq i
    have hx : oc_1 i < oc_1 i + 1 := Nat.lt_succ_self _
    have e := au_3 (d := d) (Q := Q) hh hn2 hR1 hi
    have E1 : mw (d + 1) 162 Q 39 [some (.ref o), some (.ref R), some (.int (Int32.ofNat i)), x.1, x.2] [] (mh_J (mh_J h R (au_R (mh_j h (o + 1)) (mh_j h R) (2 * n))) (o + 1) (au_M (mh_j h (o + 1)) (sc_r i))) = mw (d + 1) 162 Q 58 [some (.ref o), some (.ref R), some (.int (Int32.ofNat i)), some (.int (Int32.ofNat (sc_r i))), some (.int (Int32.ofNat 0))] [] (mh_J (mh_J h R (au_R (mh_j h (o + 1)) (mh_j h R) (2 * n))) (o + 1) (au_M (mh_j h (o + 1)) (sc_r i))) := by
      rw [s_162_39]
      simp (disch := omega) only [s_162_0, s_162_1, s_162_2, s_162_3, s_162_4, s_162_5, s_162_8, s_162_9, s_162_12, s_162_13, s_162_14, s_162_15, s_162_18, s_162_19, s_162_20, s_162_21, s_162_22, s_162_25, s_162_26, s_162_29, s_162_30, s_162_31, s_162_34, s_162_37, s_162_38, s_162_39, s_162_40, s_162_41, s_162_42, s_162_45, s_162_46, s_162_49, s_162_52, s_162_53, s_162_53x, s_162_54, s_162_55, s_162_56, s_162_60, s_162_61, s_162_62, s_162_63, s_162_66, s_162_67, s_162_70, s_162_71, s_162_73, s_162_74, s_162_75, s_162_78, s_162_79, s_162_81, s_162_82, s_162_83, s_162_84, s_162_85, s_162_86, s_162_87, s_162_88, s_162_89, s_162_91, s_162_92, s_162_93, s_162_96, s_162_97, s_162_100, s_162_103, s_162_106, s_162_109, e_162, mv_i_1, mv_l_1, mv_a_1, mv_a_2, mv_a_3, mk2_n, mk2_i, mk2_l, mk2_a, mk2_u, mk2_x, mB_T, mB_F, mS_cons, mS_nil, mSB_T, mSB_F, mca_nil, mca_i, mca_l, mca_r, mca_u, mca_x, mcat_i, mcat_l, mcat_r, mcat_u, mcat_x, mK_some, mK_none, va_rf_s, va_rf_n, lgc_eq, lgc_lt, lgc_gt, lgc_ge, lgc_le, mrd_104, mrd_105, mrd_106, mrd_107, true_and, and_true, and_self, false_and, and_false, true_or, or_true, false_or, or_false, not_true_eq_false, not_false_eq_true, mgb, mga, mgr, mN, reduceCtorEq, ↓reduceIte, eq_self, ge_iff_le, gt_iff_lt, hi_J, mg_J, s1, hn, e3, nn_le, nn_mxT, nn_clamp, nn_row, hi2]
      rfl
    refine E1.trans (e.trans ?_)
    rw [s_162_58]
    simp (disch := omega) only [s_162_0, s_162_1, s_162_2, s_162_3, s_162_4, s_162_5, s_162_8, s_162_9, s_162_12, s_162_13, s_162_14, s_162_15, s_162_18, s_162_19, s_162_20, s_162_21, s_162_22, s_162_25, s_162_26, s_162_29, s_162_30, s_162_31, s_162_34, s_162_37, s_162_38, s_162_40, s_162_41, s_162_42, s_162_45, s_162_46, s_162_49, s_162_52, s_162_53, s_162_53x, s_162_54, s_162_55, s_162_56, s_162_58, s_162_60, s_162_61, s_162_62, s_162_63, s_162_66, s_162_67, s_162_70, s_162_71, s_162_73, s_162_74, s_162_75, s_162_78, s_162_79, s_162_81, s_162_82, s_162_83, s_162_84, s_162_85, s_162_86, s_162_87, s_162_88, s_162_89, s_162_91, s_162_92, s_162_93, s_162_96, s_162_97, s_162_100, s_162_103, s_162_106, s_162_109, e_162, mv_i_1, mv_l_1, mv_a_1, mv_a_2, mv_a_3, mk2_n, mk2_i, mk2_l, mk2_a, mk2_u, mk2_x, mB_T, mB_F, mS_cons, mS_nil, mSB_T, mSB_F, mca_nil, mca_i, mca_l, mca_r, mca_u, mca_x, mcat_i, mcat_l, mcat_r, mcat_u, mcat_x, mK_some, mK_none, va_rf_s, va_rf_n, lgc_eq, lgc_lt, lgc_gt, lgc_ge, lgc_le, mrd_104, mrd_105, mrd_106, mrd_107, true_and, and_true, and_self, false_and, and_false, true_or, or_true, false_or, or_false, not_true_eq_false, not_false_eq_true, mgb, mga, mgr, mN, reduceCtorEq, ↓reduceIte, eq_self, ge_iff_le, gt_iff_lt, ei, nn_or1, nn_lt, hx]) (none, none)
  obtain ⟨y, e2⟩ := L2
  have i0 : mh_J (mh_J h R (au_R (mh_j h (o + 1)) (mh_j h R) (2 * n))) (o + 1) (au_M (mh_j h (o + 1)) (sc_r 0)) = mh_J h R (au_R (mh_j h (o + 1)) (mh_j h R) (2 * n)) := by
    refine (J_ext (fun q => ?_)).trans J_id
    rw [hj_J, if_neg hR2]
    exact if_neg (Nat.not_lt_zero q)
  rw [i0, sc_r_2n n hn2] at e2
  have hle : (2 * n ≤ 2 * n) = True := eq_true (Nat.le_refl _)
  simp only [s_162_0, s_162_1, s_162_3, s_162_4, s_162_5, s_162_8, s_162_9, s_162_12, s_162_13, s_162_14, s_162_15, s_162_18, s_162_19, s_162_20, s_162_21, s_162_22, s_162_25, s_162_26, s_162_29, s_162_30, s_162_31, s_162_34, s_162_37, s_162_38, s_162_39, s_162_40, s_162_41, s_162_42, s_162_45, s_162_46, s_162_49, s_162_52, s_162_53, s_162_53x, s_162_54, s_162_55, s_162_56, s_162_58, s_162_60, s_162_61, s_162_62, s_162_63, s_162_66, s_162_67, s_162_70, s_162_71, s_162_73, s_162_74, s_162_75, s_162_78, s_162_79, s_162_81, s_162_82, s_162_83, s_162_84, s_162_85, s_162_86, s_162_87, s_162_88, s_162_89, s_162_91, s_162_92, s_162_93, s_162_96, s_162_97, s_162_100, s_162_103, s_162_106, s_162_109, e_162, mv_i_1, mv_l_1, mv_a_1, mv_a_2, mv_a_3, mk2_n, mk2_i, mk2_l, mk2_a, mk2_u, mk2_x, mB_T, mB_F, mS_cons, mS_nil, mSB_T, mSB_F, mca_nil, mca_i, mca_l, mca_r, mca_u, mca_x, mcat_i, mcat_l, mcat_r, mcat_u, mcat_x, mK_some, mK_none, va_rf_s, va_rf_n, lgc_eq, lgc_lt, lgc_gt, lgc_ge, lgc_le, mrd_104, mrd_105, mrd_106, mrd_107, true_and, and_true, and_self, false_and, and_false, true_or, or_true, false_or, or_false, not_true_eq_false, not_false_eq_true, mgb, mga, mgr, mN, reduceCtorEq, ↓reduceIte, eq_self, ge_iff_le, gt_iff_lt]
  refine Eq.trans L1 ?_
  rw [s_162_2]
  simp (disch := omega) only [s_162_0, s_162_1, s_162_2, s_162_3, s_162_4, s_162_5, s_162_8, s_162_9, s_162_12, s_162_13, s_162_14, s_162_15, s_162_18, s_162_19, s_162_20, s_162_21, s_162_22, s_162_25, s_162_26, s_162_29, s_162_30, s_162_31, s_162_34, s_162_37, s_162_38, s_162_40, s_162_41, s_162_42, s_162_45, s_162_46, s_162_49, s_162_52, s_162_53, s_162_53x, s_162_54, s_162_55, s_162_56, s_162_58, s_162_60, s_162_61, s_162_62, s_162_63, s_162_66, s_162_67, s_162_70, s_162_71, s_162_73, s_162_74, s_162_75, s_162_78, s_162_79, s_162_81, s_162_82, s_162_83, s_162_84, s_162_85, s_162_86, s_162_87, s_162_88, s_162_89, s_162_91, s_162_92, s_162_93, s_162_96, s_162_97, s_162_100, s_162_103, s_162_106, s_162_109, e_162, mv_i_1, mv_l_1, mv_a_1, mv_a_2, mv_a_3, mk2_n, mk2_i, mk2_l, mk2_a, mk2_u, mk2_x, mB_T, mB_F, mS_cons, mS_nil, mSB_T, mSB_F, mca_nil, mca_i, mca_l, mca_r, mca_u, mca_x, mcat_i, mcat_l, mcat_r, mcat_u, mcat_x, mK_some, mK_none, va_rf_s, va_rf_n, lgc_eq, lgc_lt, lgc_gt, lgc_ge, lgc_le, mrd_104, mrd_105, mrd_106, mrd_107, true_and, and_true, and_self, false_and, and_false, true_or, or_true, false_or, or_false, not_true_eq_false, not_false_eq_true, mgb, mga, mgr, mN, reduceCtorEq, ↓reduceIte, eq_self, ge_iff_le, gt_iff_lt, hi_J, mg_J, s1, hn, e3, nn_le, hle]
  refine Eq.trans e2 ?_
  rw [s_162_39]
  simp (disch := omega) only [s_162_0, s_162_1, s_162_2, s_162_3, s_162_4, s_162_5, s_162_8, s_162_9, s_162_12, s_162_13, s_162_14, s_162_15, s_162_18, s_162_19, s_162_20, s_162_21, s_162_22, s_162_25, s_162_26, s_162_29, s_162_30, s_162_31, s_162_34, s_162_37, s_162_38, s_162_39, s_162_40, s_162_41, s_162_42, s_162_45, s_162_46, s_162_49, s_162_52, s_162_53, s_162_53x, s_162_54, s_162_55, s_162_56, s_162_58, s_162_60, s_162_61, s_162_62, s_162_63, s_162_66, s_162_67, s_162_70, s_162_71, s_162_73, s_162_74, s_162_75, s_162_78, s_162_79, s_162_81, s_162_82, s_162_83, s_162_84, s_162_85, s_162_86, s_162_87, s_162_88, s_162_89, s_162_91, s_162_92, s_162_93, s_162_96, s_162_97, s_162_100, s_162_103, s_162_106, s_162_109, e_162, mv_i_1, mv_l_1, mv_a_1, mv_a_2, mv_a_3, mk2_n, mk2_i, mk2_l, mk2_a, mk2_u, mk2_x, mB_T, mB_F, mS_cons, mS_nil, mSB_T, mSB_F, mca_nil, mca_i, mca_l, mca_r, mca_u, mca_x, mcat_i, mcat_l, mcat_r, mcat_u, mcat_x, mK_some, mK_none, va_rf_s, va_rf_n, lgc_eq, lgc_lt, lgc_gt, lgc_ge, lgc_le, mrd_104, mrd_105, mrd_106, mrd_107, true_and, and_true, and_self, false_and, and_false, true_or, or_true, false_or, or_false, not_true_eq_false, not_false_eq_true, mgb, mga, mgr, mN, reduceCtorEq, ↓reduceIte, eq_self, ge_iff_le, gt_iff_lt, hi_J, mg_J, s1, hn, e3, nn_le, hle]
end AU
