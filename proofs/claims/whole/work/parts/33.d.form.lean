set_option maxRecDepth 100000
/-! findOthers -/
def gr64 (h : mh_H) (X v w : Nat) : Int64 := if v = w then mh_j h (X + 1) (sc (oc_b w) v) / 2 else mh_j h (X + 1) (sc (oc_b w) v)
abbrev foT : Type := Int32 × Option Nat × Option Nat × Int64 × Int64
def foU (sg : Nat → Int32) (z : Nat) : Nat := if sg z < 0 then 2 * z + 1 else 2 * z
def foN (gr : Nat → Nat → Int64) (sg : Nat → Int32) (x y : Int32) (z : Nat) (s : foT) : foT :=
  if sF (sg z) = true then (if Int32.ofNat z = x ∨ Int32.ofNat z = y then (s.1 + -1, s.2.1, s.2.2.1, s.2.2.2.1 + gr (oc_b (foU sg z)) (oc_b (foU sg z)), s.2.2.2.2 - gr (foU sg z) (foU sg z)) else (s.1, s.2.2.1, some (foU sg z), s.2.2.2.1, s.2.2.2.2)) else s
def foS (gr : Nat → Nat → Int64) (sg : Nat → Int32) (x y mx : Int32) (fl fh : Int64) : Nat → foT
  | 0 => (mx, none, none, fl, fh)
  | z + 1 => foN gr sg x y z (foS gr sg x y mx fl fh z)
/-- where two are left, both free -/
def foE (gr : Nat → Nat → Int64) (fr mx : Int32) (li : Int64) (s : foT) : Int64 × Int64 := match s.2.1, s.2.2.1 with
  | some v, some w => if fr = mx ∧ s.1 = 2 then (li - gr (oc_b v) (oc_b w), li + gr v w) else (s.2.2.2.1, s.2.2.2.2)
  | _, _ => (s.2.2.2.1, s.2.2.2.2)
theorem foS_v {gr : Nat → Nat → Int64} {sg : Nat → Int32} {x y mx : Int32} {fl fh : Int64} : ∀ z, z ≤ 12 → (∀ v, (foS gr sg x y mx fl fh z).2.1 = some v → v < 24 ∧ ∃ w, (foS gr sg x y mx fl fh z).2.2.1 = some w) ∧ ∀ w, (foS gr sg x y mx fl fh z).2.2.1 = some w → w < 24 := by
  intro z
  induction z with
  | zero => exact fun _ => ⟨fun v hv => (by cases hv), fun w hw => (by cases hw)⟩
  | succ z ih =>
    intro hz
    obtain ⟨i1, i2⟩ := ih (by omega)
    have ub : foU sg z < 24 := by unfold foU; split <;> omega
    show (∀ v, (foN gr sg x y z (foS gr sg x y mx fl fh z)).2.1 = some v → v < 24 ∧ ∃ w, (foN gr sg x y z (foS gr sg x y mx fl fh z)).2.2.1 = some w) ∧ ∀ w, (foN gr sg x y z (foS gr sg x y mx fl fh z)).2.2.1 = some w → w < 24
    unfold foN
    split
    · split
      · exact ⟨i1, i2⟩
      · exact ⟨fun v hv => ⟨i2 v hv, _, rfl⟩, fun w hw => by cases hw; exact ub⟩
    · exact ⟨i1, i2⟩
theorem le_nlt32 {a b : Int32} : (a ≤ b) = ¬ (b < a) := by rw [Int32.not_lt]
section FO
variable {d : Nat} {h : mh_H} {o SG X : Nat} {fr mx : Int32} {sg : Nat → Int32} {fl fh li ol oh : Int64}
theorem so_gS (g : mg h o 5) (gS' : mg h SG 100) (hs : so h X) : so (gS h o SG fr mx sg fl fh li ol oh) X := so_fq gS_fq hs
theorem g_146 {Q : Option Value → mh_H → Prop} (g : mg h o 5) (gS' : mg h SG 100) (hs : so h X) {v w : Nat} (hv : v < 24) (hw : w < 24) : mcall d 146 [.ref X, .int (Int32.ofNat v), .int (Int32.ofNat w)] (gS h o SG fr mx sg fl fh li ol oh) Q = Q (some (.long (gr64 h X v w))) (gS h o SG fr mx sg fl fh li ol oh) := by
  rw [c_146 (so_gS g gS' hs) hv hw]
  have ne : ¬ X + 1 = o := fun z => by have := hs.2.2.1.1; have := g.1; rw [z] at *; omega
  have e : ∀ i j, sb (gS h o SG fr mx sg fl fh li ol oh) X i j = mh_j h (X + 1) (sc i j) := fun i j => by
    unfold sb
    rw [gS_j]
    simp [ne]
  rw [e]
  rfl
theorem c_115 {Q : Option Value → mh_H → Prop} (g : mg h o 5) (r1 : mh_r h o 1 = some X) (r11 : mh_r h o 11 = some SG) (gS' : mg h SG 100) (lS : mh_l h SG = 12) (hs : so h X) {x y : Int32} : mcall (d + 1) 115 [.ref o, .int x, .int y] (gS h o SG fr mx sg fl fh li ol oh) Q = Q none (gS h o SG fr mx sg fl fh li (foE (gr64 h X) fr mx li (foS (gr64 h X) sg x y mx fl fh 12)).1 (foE (gr64 h X) fr mx li (foS (gr64 h X) sg x y mx fl fh 12)).2) := by
  have nSo : ¬ SG = o := fun z => by have := g.1; have := gS'.1; rw [z] at *; omega
  have gX := hs.1
  have c4 := fun ol' oh' Q' (z : Nat) (hz : z < 12) => c_114 (d := d) (Q := Q') (fr := fr) (mx := mx) (sg := sg) (fl := fl) (fh := fh) (li := li) (ol := ol') (oh := oh') g r11 gS' lS hz
  have c6 := fun ol' oh' Q' (v w : Nat) (hv : v < 24) (hw : w < 24) => g_146 (d := d) (Q := Q') (fr := fr) (mx := mx) (sg := sg) (fl := fl) (fh := fh) (li := li) (ol := ol') (oh := oh') g gS' hs hv hw
  have ei : ∀ k, Int32.ofNat k + 1 = Int32.ofNat (k + 1) := fun k => nn_add (a := k) (b := 1)
  have e3 : ∀ k, (2 : Int32) * Int32.ofNat k = Int32.ofNat (2 * k) := fun k => nn_mul (a := 2) (b := k)
  have e10 : ((1 : Int32) = 0) = False := by decide
  have e00 : ((0 : Int32) = 0) = True := by decide
  have i12 : (12 : Int32) = Int32.ofNat 12 := rfl
  have L := mw_loopD (α := Option Value) (d := d + 1) (y := 115) (pc := 30) (Q := Q) (st := []) (fun z w => [some (.ref o), some (.int x), some (.int y), some (.int (foS (gr64 h X) sg x y mx fl fh z).1), some (.int (nSl (foS (gr64 h X) sg x y mx fl fh z).2.1)), some (.int (nSl (foS (gr64 h X) sg x y mx fl fh z).2.2.1)), some (.int (Int32.ofNat z)), w]) (fun z => gS h o SG fr mx sg fl fh li (foS (gr64 h X) sg x y mx fl fh z).2.2.2.1 (foS (gr64 h X) sg x y mx fl fh z).2.2.2.2) (a := 0) (b := 12) (Nat.zero_le _) (fun z w _ hz => by
    have l12 : ((12 : Int32) ≤ Int32.ofNat z) = False := by rw [i12, nn_le (by omega) (by omega)]; exact eq_false (by omega)
    have l12' : (Int32.ofNat z < (12 : Int32)) = True := by rw [i12, nn_lt (by omega) (by omega)]; exact eq_true (by omega)
    have st : foS (gr64 h X) sg x y mx fl fh (z + 1) = foN (gr64 h X) sg x y z (foS (gr64 h X) sg x y mx fl fh z) := rfl
    rw [st]
    generalize foS (gr64 h X) sg x y mx fl fh z = s
    obtain ⟨s1, s2, s3, s4, s5⟩ := s
    have ub : foU sg z < 24 := by unfold foU; split <;> omega
    have ub2 := oc_b24 ub
    have cc := fun Q' => c4 s4 s5 Q' z hz
    have c6a := fun ol' oh' Q' => c6 ol' oh' Q' (oc_b (foU sg z)) (oc_b (foU sg z)) ub2 ub2
    have c6b := fun ol' oh' Q' => c6 ol' oh' Q' (foU sg z) (foU sg z) ub ub
    have xu : Int32.ofNat (foU sg z) ^^^ 1 = Int32.ofNat (oc_b (foU sg z)) := nn_xor1 (by omega)
    unfold foN
    cases hf : sF (sg z) with
    | false =>
      refine ⟨w, ?_⟩
      rw [hf] at cc
      have k0' : kb false = 0 := rfl
      rw [k0'] at cc
      rw [if_neg (by decide), s_115_30]
      simp (disch := omega) only [s_115_0, s_115_1, s_115_4, s_115_5, s_115_6, s_115_8, s_115_9, s_115_11, s_115_12, s_115_13, s_115_16, s_115_19, s_115_20, s_115_21, s_115_24, s_115_27, s_115_28, s_115_32, s_115_34, s_115_37, s_115_38, s_115_40, s_115_43, s_115_46, s_115_47, s_115_50, s_115_52, s_115_53, s_115_56, s_115_57, s_115_59, s_115_60, s_115_61, s_115_62, s_115_65, s_115_66, s_115_68, s_115_69, s_115_71, s_115_73, s_115_74, s_115_77, s_115_79, s_115_80, s_115_83, s_115_84, s_115_85, s_115_88, s_115_89, s_115_92, s_115_94, s_115_95, s_115_96, s_115_98, s_115_99, s_115_100, s_115_103, s_115_104, s_115_107, s_115_108, s_115_109, s_115_112, s_115_113, s_115_116, s_115_118, s_115_120, s_115_123, s_115_124, s_115_127, s_115_130, s_115_133, s_115_135, s_115_137, s_115_139, s_115_141, s_115_144, s_115_147, s_115_148, s_115_151, s_115_152, s_115_155, s_115_158, s_115_159, s_115_160, s_115_163, s_115_165, s_115_166, s_115_169, s_115_170, s_115_171, s_115_174, s_115_175, s_115_178, s_115_180, s_115_181, s_115_182, s_115_184, s_115_185, s_115_186, s_115_189, s_115_190, s_115_193, s_115_194, s_115_195, s_115_198, s_115_199, s_115_202, s_115_204, s_115_206, s_115_209, s_115_210, s_115_213, e_115, mv_i_1, mv_l_1, mv_a_1, mv_a_2, mv_a_3, mk2_n, mk2_i, mk2_l, mk2_a, mk2_u, mk2_x, mB_T, mB_F, mS_cons, mS_nil, mSB_T, mSB_F, mca_nil, mca_i, mca_l, mca_r, mca_u, mca_x, mcat_i, mcat_l, mcat_r, mcat_u, mcat_x, mK_some, mK_none, va_rf_s, va_rf_n, lgc_eq, lgc_lt, lgc_gt, lgc_ge, lgc_le, mrd_104, mrd_105, mrd_106, mrd_107, true_and, and_true, and_self, false_and, and_false, true_or, or_true, false_or, or_false, not_true_eq_false, not_false_eq_true, mgb, mga, mgr, mN, reduceCtorEq, ↓reduceIte, eq_self, ge_iff_le, gt_iff_lt, Nat.reduceAdd, Nat.reduceMul, Nat.reduceSub, Nat.reduceLT, Nat.reduceGT, Nat.reduceEqDiff, Nat.reduceLeDiff, Nat.left_eq_add, Nat.add_eq_left, Nat.reduceMod, Nat.reduceDiv, Nat.succ_ne_self, gS_g, g, l12, cc, e00, ei]
    | true =>
      rw [hf] at cc
      have k1' : kb true = 1 := rfl
      rw [k1'] at cc
      refine ⟨some (.int (Int32.ofNat (foU sg z))), ?_⟩
      rw [if_pos rfl, s_115_30]
      by_cases neg : sg z < 0
      all_goals
        have fu : foU sg z = if sg z < 0 then 2 * z + 1 else 2 * z := rfl
        simp only [neg, if_true, if_false] at fu
        by_cases hx : Int32.ofNat z = x
        · rw [if_pos (Or.inl hx)]
          rw [fu] at xu c6a c6b ⊢
          simp (disch := omega) only [s_115_0, s_115_1, s_115_4, s_115_5, s_115_6, s_115_8, s_115_9, s_115_11, s_115_12, s_115_13, s_115_16, s_115_19, s_115_20, s_115_21, s_115_24, s_115_27, s_115_28, s_115_32, s_115_34, s_115_37, s_115_38, s_115_40, s_115_43, s_115_46, s_115_47, s_115_50, s_115_52, s_115_53, s_115_56, s_115_57, s_115_59, s_115_60, s_115_61, s_115_62, s_115_65, s_115_66, s_115_68, s_115_69, s_115_71, s_115_73, s_115_74, s_115_77, s_115_79, s_115_80, s_115_83, s_115_84, s_115_85, s_115_88, s_115_89, s_115_92, s_115_94, s_115_95, s_115_96, s_115_98, s_115_99, s_115_100, s_115_103, s_115_104, s_115_107, s_115_108, s_115_109, s_115_112, s_115_113, s_115_116, s_115_118, s_115_120, s_115_123, s_115_124, s_115_127, s_115_130, s_115_133, s_115_135, s_115_137, s_115_139, s_115_141, s_115_144, s_115_147, s_115_148, s_115_151, s_115_152, s_115_155, s_115_158, s_115_159, s_115_160, s_115_163, s_115_165, s_115_166, s_115_169, s_115_170, s_115_171, s_115_174, s_115_175, s_115_178, s_115_180, s_115_181, s_115_182, s_115_184, s_115_185, s_115_186, s_115_189, s_115_190, s_115_193, s_115_194, s_115_195, s_115_198, s_115_199, s_115_202, s_115_204, s_115_206, s_115_209, s_115_210, s_115_213, e_115, mv_i_1, mv_l_1, mv_a_1, mv_a_2, mv_a_3, mk2_n, mk2_i, mk2_l, mk2_a, mk2_u, mk2_x, mB_T, mB_F, mS_cons, mS_nil, mSB_T, mSB_F, mca_nil, mca_i, mca_l, mca_r, mca_u, mca_x, mcat_i, mcat_l, mcat_r, mcat_u, mcat_x, mK_some, mK_none, va_rf_s, va_rf_n, lgc_eq, lgc_lt, lgc_gt, lgc_ge, lgc_le, mrd_104, mrd_105, mrd_106, mrd_107, true_and, and_true, and_self, false_and, and_false, true_or, or_true, false_or, or_false, not_true_eq_false, not_false_eq_true, mgb, mga, mgr, mN, reduceCtorEq, ↓reduceIte, eq_self, ge_iff_le, gt_iff_lt, Nat.reduceAdd, Nat.reduceMul, Nat.reduceSub, Nat.reduceLT, Nat.reduceGT, Nat.reduceEqDiff, Nat.reduceLeDiff, Nat.left_eq_add, Nat.add_eq_left, Nat.reduceMod, Nat.reduceDiv, Nat.succ_ne_self, gS_g, gS_i, gS_j, gS_k, gS_n, gS_r, gS_l, gS_17, gS_18, g, gX, r1, r11, gS', lS, nSo, nn_mxT, nn_clamp, l12', cc, e10, ei, e3, le_nlt32, mB_not, neg, hx.symm, xu, c6a, c6b]
        · by_cases hy : Int32.ofNat z = y
          · rw [if_pos (Or.inr hy)]
            rw [fu] at xu c6a c6b ⊢
            simp (disch := omega) only [s_115_0, s_115_1, s_115_4, s_115_5, s_115_6, s_115_8, s_115_9, s_115_11, s_115_12, s_115_13, s_115_16, s_115_19, s_115_20, s_115_21, s_115_24, s_115_27, s_115_28, s_115_32, s_115_34, s_115_37, s_115_38, s_115_40, s_115_43, s_115_46, s_115_47, s_115_50, s_115_52, s_115_53, s_115_56, s_115_57, s_115_59, s_115_60, s_115_61, s_115_62, s_115_65, s_115_66, s_115_68, s_115_69, s_115_71, s_115_73, s_115_74, s_115_77, s_115_79, s_115_80, s_115_83, s_115_84, s_115_85, s_115_88, s_115_89, s_115_92, s_115_94, s_115_95, s_115_96, s_115_98, s_115_99, s_115_100, s_115_103, s_115_104, s_115_107, s_115_108, s_115_109, s_115_112, s_115_113, s_115_116, s_115_118, s_115_120, s_115_123, s_115_124, s_115_127, s_115_130, s_115_133, s_115_135, s_115_137, s_115_139, s_115_141, s_115_144, s_115_147, s_115_148, s_115_151, s_115_152, s_115_155, s_115_158, s_115_159, s_115_160, s_115_163, s_115_165, s_115_166, s_115_169, s_115_170, s_115_171, s_115_174, s_115_175, s_115_178, s_115_180, s_115_181, s_115_182, s_115_184, s_115_185, s_115_186, s_115_189, s_115_190, s_115_193, s_115_194, s_115_195, s_115_198, s_115_199, s_115_202, s_115_204, s_115_206, s_115_209, s_115_210, s_115_213, e_115, mv_i_1, mv_l_1, mv_a_1, mv_a_2, mv_a_3, mk2_n, mk2_i, mk2_l, mk2_a, mk2_u, mk2_x, mB_T, mB_F, mS_cons, mS_nil, mSB_T, mSB_F, mca_nil, mca_i, mca_l, mca_r, mca_u, mca_x, mcat_i, mcat_l, mcat_r, mcat_u, mcat_x, mK_some, mK_none, va_rf_s, va_rf_n, lgc_eq, lgc_lt, lgc_gt, lgc_ge, lgc_le, mrd_104, mrd_105, mrd_106, mrd_107, true_and, and_true, and_self, false_and, and_false, true_or, or_true, false_or, or_false, not_true_eq_false, not_false_eq_true, mgb, mga, mgr, mN, reduceCtorEq, ↓reduceIte, eq_self, ge_iff_le, gt_iff_lt, Nat.reduceAdd, Nat.reduceMul, Nat.reduceSub, Nat.reduceLT, Nat.reduceGT, Nat.reduceEqDiff, Nat.reduceLeDiff, Nat.left_eq_add, Nat.add_eq_left, Nat.reduceMod, Nat.reduceDiv, Nat.succ_ne_self, gS_g, gS_i, gS_j, gS_k, gS_n, gS_r, gS_l, gS_17, gS_18, g, gX, r1, r11, gS', lS, nSo, nn_mxT, nn_clamp, l12', cc, e10, ei, e3, le_nlt32, mB_not, neg, hx, hy.symm, xu, c6a, c6b]
          · rw [if_neg (fun q => q.elim hx hy)]
            rw [fu] at xu c6a c6b ⊢
            simp (disch := omega) only [s_115_0, s_115_1, s_115_4, s_115_5, s_115_6, s_115_8, s_115_9, s_115_11, s_115_12, s_115_13, s_115_16, s_115_19, s_115_20, s_115_21, s_115_24, s_115_27, s_115_28, s_115_32, s_115_34, s_115_37, s_115_38, s_115_40, s_115_43, s_115_46, s_115_47, s_115_50, s_115_52, s_115_53, s_115_56, s_115_57, s_115_59, s_115_60, s_115_61, s_115_62, s_115_65, s_115_66, s_115_68, s_115_69, s_115_71, s_115_73, s_115_74, s_115_77, s_115_79, s_115_80, s_115_83, s_115_84, s_115_85, s_115_88, s_115_89, s_115_92, s_115_94, s_115_95, s_115_96, s_115_98, s_115_99, s_115_100, s_115_103, s_115_104, s_115_107, s_115_108, s_115_109, s_115_112, s_115_113, s_115_116, s_115_118, s_115_120, s_115_123, s_115_124, s_115_127, s_115_130, s_115_133, s_115_135, s_115_137, s_115_139, s_115_141, s_115_144, s_115_147, s_115_148, s_115_151, s_115_152, s_115_155, s_115_158, s_115_159, s_115_160, s_115_163, s_115_165, s_115_166, s_115_169, s_115_170, s_115_171, s_115_174, s_115_175, s_115_178, s_115_180, s_115_181, s_115_182, s_115_184, s_115_185, s_115_186, s_115_189, s_115_190, s_115_193, s_115_194, s_115_195, s_115_198, s_115_199, s_115_202, s_115_204, s_115_206, s_115_209, s_115_210, s_115_213, e_115, mv_i_1, mv_l_1, mv_a_1, mv_a_2, mv_a_3, mk2_n, mk2_i, mk2_l, mk2_a, mk2_u, mk2_x, mB_T, mB_F, mS_cons, mS_nil, mSB_T, mSB_F, mca_nil, mca_i, mca_l, mca_r, mca_u, mca_x, mcat_i, mcat_l, mcat_r, mcat_u, mcat_x, mK_some, mK_none, va_rf_s, va_rf_n, lgc_eq, lgc_lt, lgc_gt, lgc_ge, lgc_le, mrd_104, mrd_105, mrd_106, mrd_107, true_and, and_true, and_self, false_and, and_false, true_or, or_true, false_or, or_false, not_true_eq_false, not_false_eq_true, mgb, mga, mgr, mN, reduceCtorEq, ↓reduceIte, eq_self, ge_iff_le, gt_iff_lt, Nat.reduceAdd, Nat.reduceMul, Nat.reduceSub, Nat.reduceLT, Nat.reduceGT, Nat.reduceEqDiff, Nat.reduceLeDiff, Nat.left_eq_add, Nat.add_eq_left, Nat.reduceMod, Nat.reduceDiv, Nat.succ_ne_self, gS_g, gS_i, gS_j, gS_k, gS_n, gS_r, gS_l, g, r11, gS', lS, nSo, nn_mxT, nn_clamp, l12', cc, e10, ei, e3, le_nlt32, mB_not, neg, hx, hy]
            rfl) none
  obtain ⟨w, L⟩ := L
  have E0 : mcall (d + 1) 115 [.ref o, .int x, .int y] (gS h o SG fr mx sg fl fh li ol oh) Q = mw (d + 1) 115 Q 30 [some (.ref o), some (.int x), some (.int y), some (.int mx), some (.int (-1)), some (.int (-1)), some (.int (Int32.ofNat 0)), none] [] (gS h o SG fr mx sg fl fh li fl fh) := by
    simp (disch := omega) only [s_115_0, s_115_1, s_115_4, s_115_5, s_115_6, s_115_8, s_115_9, s_115_11, s_115_12, s_115_13, s_115_16, s_115_19, s_115_20, s_115_21, s_115_24, s_115_27, s_115_28, s_115_32, s_115_34, s_115_37, s_115_38, s_115_40, s_115_43, s_115_46, s_115_47, s_115_50, s_115_52, s_115_53, s_115_56, s_115_57, s_115_59, s_115_60, s_115_61, s_115_62, s_115_65, s_115_66, s_115_68, s_115_69, s_115_71, s_115_73, s_115_74, s_115_77, s_115_79, s_115_80, s_115_83, s_115_84, s_115_85, s_115_88, s_115_89, s_115_92, s_115_94, s_115_95, s_115_96, s_115_98, s_115_99, s_115_100, s_115_103, s_115_104, s_115_107, s_115_108, s_115_109, s_115_112, s_115_113, s_115_116, s_115_118, s_115_120, s_115_123, s_115_124, s_115_127, s_115_130, s_115_133, s_115_135, s_115_137, s_115_139, s_115_141, s_115_144, s_115_147, s_115_148, s_115_151, s_115_152, s_115_155, s_115_158, s_115_159, s_115_160, s_115_163, s_115_165, s_115_166, s_115_169, s_115_170, s_115_171, s_115_174, s_115_175, s_115_178, s_115_180, s_115_181, s_115_182, s_115_184, s_115_185, s_115_186, s_115_189, s_115_190, s_115_193, s_115_194, s_115_195, s_115_198, s_115_199, s_115_202, s_115_204, s_115_206, s_115_209, s_115_210, s_115_213, e_115, mv_i_1, mv_l_1, mv_a_1, mv_a_2, mv_a_3, mk2_n, mk2_i, mk2_l, mk2_a, mk2_u, mk2_x, mB_T, mB_F, mS_cons, mS_nil, mSB_T, mSB_F, mca_nil, mca_i, mca_l, mca_r, mca_u, mca_x, mcat_i, mcat_l, mcat_r, mcat_u, mcat_x, mK_some, mK_none, va_rf_s, va_rf_n, lgc_eq, lgc_lt, lgc_gt, lgc_ge, lgc_le, mrd_104, mrd_105, mrd_106, mrd_107, true_and, and_true, and_self, false_and, and_false, true_or, or_true, false_or, or_false, not_true_eq_false, not_false_eq_true, mgb, mga, mgr, mN, reduceCtorEq, ↓reduceIte, eq_self, ge_iff_le, gt_iff_lt, Nat.reduceAdd, Nat.reduceMul, Nat.reduceSub, Nat.reduceLT, Nat.reduceGT, Nat.reduceEqDiff, Nat.reduceLeDiff, Nat.left_eq_add, Nat.add_eq_left, Nat.reduceMod, Nat.reduceDiv, Nat.succ_ne_self, gS_g, gS_i, gS_j, gS_17, gS_18, g]
    rfl
  refine E0.trans (L.trans ?_)
  obtain ⟨V1, V2⟩ := foS_v (gr := gr64 h X) (sg := sg) (x := x) (y := y) (mx := mx) (fl := fl) (fh := fh) 12 (Nat.le_refl _)
  revert V1 V2
  generalize foS (gr64 h X) sg x y mx fl fh 12 = s
  obtain ⟨s1, s2, s3, s4, s5⟩ := s
  intro V1 V2
  have l12 : ((12 : Int32) ≤ Int32.ofNat 12) = True := by decide
  have mm : ∀ p : Nat, p < 100 → (Int32.ofNat p = -1) = False := fun p hp => eq_false (fun z => by
    have := congrArg Int32.toInt z
    rw [nn_int (by omega)] at this
    have e : (-1 : Int32).toInt = -1 := by decide
    omega)
  have nl : nSl none = -1 := rfl
  cases s2 with
  | none =>
    have e : foE (gr64 h X) fr mx li (s1, none, s3, s4, s5) = (s4, s5) := by cases s3 <;> rfl
    rw [e, s_115_30]
    by_cases c1 : fr = mx <;> by_cases c2 : s1 = 2
    all_goals simp (disch := omega) only [s_115_0, s_115_1, s_115_4, s_115_5, s_115_6, s_115_8, s_115_9, s_115_11, s_115_12, s_115_13, s_115_16, s_115_19, s_115_20, s_115_21, s_115_24, s_115_27, s_115_28, s_115_32, s_115_34, s_115_37, s_115_38, s_115_40, s_115_43, s_115_46, s_115_47, s_115_50, s_115_52, s_115_53, s_115_56, s_115_57, s_115_59, s_115_60, s_115_61, s_115_62, s_115_65, s_115_66, s_115_68, s_115_69, s_115_71, s_115_73, s_115_74, s_115_77, s_115_79, s_115_80, s_115_83, s_115_84, s_115_85, s_115_88, s_115_89, s_115_92, s_115_94, s_115_95, s_115_96, s_115_98, s_115_99, s_115_100, s_115_103, s_115_104, s_115_107, s_115_108, s_115_109, s_115_112, s_115_113, s_115_116, s_115_118, s_115_120, s_115_123, s_115_124, s_115_127, s_115_130, s_115_133, s_115_135, s_115_137, s_115_139, s_115_141, s_115_144, s_115_147, s_115_148, s_115_151, s_115_152, s_115_155, s_115_158, s_115_159, s_115_160, s_115_163, s_115_165, s_115_166, s_115_169, s_115_170, s_115_171, s_115_174, s_115_175, s_115_178, s_115_180, s_115_181, s_115_182, s_115_184, s_115_185, s_115_186, s_115_189, s_115_190, s_115_193, s_115_194, s_115_195, s_115_198, s_115_199, s_115_202, s_115_204, s_115_206, s_115_209, s_115_210, s_115_213, e_115, mv_i_1, mv_l_1, mv_a_1, mv_a_2, mv_a_3, mk2_n, mk2_i, mk2_l, mk2_a, mk2_u, mk2_x, mB_T, mB_F, mS_cons, mS_nil, mSB_T, mSB_F, mca_nil, mca_i, mca_l, mca_r, mca_u, mca_x, mcat_i, mcat_l, mcat_r, mcat_u, mcat_x, mK_some, mK_none, va_rf_s, va_rf_n, lgc_eq, lgc_lt, lgc_gt, lgc_ge, lgc_le, mrd_104, mrd_105, mrd_106, mrd_107, true_and, and_true, and_self, false_and, and_false, true_or, or_true, false_or, or_false, not_true_eq_false, not_false_eq_true, mgb, mga, mgr, mN, reduceCtorEq, ↓reduceIte, eq_self, ge_iff_le, gt_iff_lt, Nat.reduceAdd, Nat.reduceMul, Nat.reduceSub, Nat.reduceLT, Nat.reduceGT, Nat.reduceEqDiff, Nat.reduceLeDiff, Nat.left_eq_add, Nat.add_eq_left, Nat.reduceMod, Nat.reduceDiv, Nat.succ_ne_self, gS_g, gS_i, g, l12, nl, c1, c2]
  | some v =>
    obtain ⟨v24, w', hw⟩ := V1 v rfl
    have hw : s3 = some w' := hw
    subst hw
    have w24 := V2 w' rfl
    have vm := mm v (by omega)
    have ns : ∀ p, nSl (some p) = Int32.ofNat p := fun p => rfl
    have xv : Int32.ofNat v ^^^ 1 = Int32.ofNat (oc_b v) := nn_xor1 (by omega)
    have xw : Int32.ofNat w' ^^^ 1 = Int32.ofNat (oc_b w') := nn_xor1 (by omega)
    have c6a := fun ol' oh' Q' => c6 ol' oh' Q' (oc_b v) (oc_b w') (oc_b24 v24) (oc_b24 w24)
    have c6b := fun ol' oh' Q' => c6 ol' oh' Q' v w' v24 w24
    have e : foE (gr64 h X) fr mx li (s1, some v, some w', s4, s5) = if fr = mx ∧ s1 = 2 then (li - gr64 h X (oc_b v) (oc_b w'), li + gr64 h X v w') else (s4, s5) := rfl
    rw [e, s_115_30]
    by_cases c1 : fr = mx
    · by_cases c2 : s1 = 2
      · rw [if_pos ⟨c1, c2⟩]
        subst c1
        subst c2
        simp (disch := omega) only [s_115_0, s_115_1, s_115_4, s_115_5, s_115_6, s_115_8, s_115_9, s_115_11, s_115_12, s_115_13, s_115_16, s_115_19, s_115_20, s_115_21, s_115_24, s_115_27, s_115_28, s_115_32, s_115_34, s_115_37, s_115_38, s_115_40, s_115_43, s_115_46, s_115_47, s_115_50, s_115_52, s_115_53, s_115_56, s_115_57, s_115_59, s_115_60, s_115_61, s_115_62, s_115_65, s_115_66, s_115_68, s_115_69, s_115_71, s_115_73, s_115_74, s_115_77, s_115_79, s_115_80, s_115_83, s_115_84, s_115_85, s_115_88, s_115_89, s_115_92, s_115_94, s_115_95, s_115_96, s_115_98, s_115_99, s_115_100, s_115_103, s_115_104, s_115_107, s_115_108, s_115_109, s_115_112, s_115_113, s_115_116, s_115_118, s_115_120, s_115_123, s_115_124, s_115_127, s_115_130, s_115_133, s_115_135, s_115_137, s_115_139, s_115_141, s_115_144, s_115_147, s_115_148, s_115_151, s_115_152, s_115_155, s_115_158, s_115_159, s_115_160, s_115_163, s_115_165, s_115_166, s_115_169, s_115_170, s_115_171, s_115_174, s_115_175, s_115_178, s_115_180, s_115_181, s_115_182, s_115_184, s_115_185, s_115_186, s_115_189, s_115_190, s_115_193, s_115_194, s_115_195, s_115_198, s_115_199, s_115_202, s_115_204, s_115_206, s_115_209, s_115_210, s_115_213, e_115, mv_i_1, mv_l_1, mv_a_1, mv_a_2, mv_a_3, mk2_n, mk2_i, mk2_l, mk2_a, mk2_u, mk2_x, mB_T, mB_F, mS_cons, mS_nil, mSB_T, mSB_F, mca_nil, mca_i, mca_l, mca_r, mca_u, mca_x, mcat_i, mcat_l, mcat_r, mcat_u, mcat_x, mK_some, mK_none, va_rf_s, va_rf_n, lgc_eq, lgc_lt, lgc_gt, lgc_ge, lgc_le, mrd_104, mrd_105, mrd_106, mrd_107, true_and, and_true, and_self, false_and, and_false, true_or, or_true, false_or, or_false, not_true_eq_false, not_false_eq_true, mgb, mga, mgr, mN, reduceCtorEq, ↓reduceIte, eq_self, ge_iff_le, gt_iff_lt, Nat.reduceAdd, Nat.reduceMul, Nat.reduceSub, Nat.reduceLT, Nat.reduceGT, Nat.reduceEqDiff, Nat.reduceLeDiff, Nat.left_eq_add, Nat.add_eq_left, Nat.reduceMod, Nat.reduceDiv, Nat.succ_ne_self, gS_g, gS_i, gS_j, gS_r, gS_17, gS_18, g, gX, r1, l12, ns, vm, xv, xw, c6a, c6b]
      · rw [if_neg (fun z => c2 z.2)]
        simp (disch := omega) only [s_115_0, s_115_1, s_115_4, s_115_5, s_115_6, s_115_8, s_115_9, s_115_11, s_115_12, s_115_13, s_115_16, s_115_19, s_115_20, s_115_21, s_115_24, s_115_27, s_115_28, s_115_32, s_115_34, s_115_37, s_115_38, s_115_40, s_115_43, s_115_46, s_115_47, s_115_50, s_115_52, s_115_53, s_115_56, s_115_57, s_115_59, s_115_60, s_115_61, s_115_62, s_115_65, s_115_66, s_115_68, s_115_69, s_115_71, s_115_73, s_115_74, s_115_77, s_115_79, s_115_80, s_115_83, s_115_84, s_115_85, s_115_88, s_115_89, s_115_92, s_115_94, s_115_95, s_115_96, s_115_98, s_115_99, s_115_100, s_115_103, s_115_104, s_115_107, s_115_108, s_115_109, s_115_112, s_115_113, s_115_116, s_115_118, s_115_120, s_115_123, s_115_124, s_115_127, s_115_130, s_115_133, s_115_135, s_115_137, s_115_139, s_115_141, s_115_144, s_115_147, s_115_148, s_115_151, s_115_152, s_115_155, s_115_158, s_115_159, s_115_160, s_115_163, s_115_165, s_115_166, s_115_169, s_115_170, s_115_171, s_115_174, s_115_175, s_115_178, s_115_180, s_115_181, s_115_182, s_115_184, s_115_185, s_115_186, s_115_189, s_115_190, s_115_193, s_115_194, s_115_195, s_115_198, s_115_199, s_115_202, s_115_204, s_115_206, s_115_209, s_115_210, s_115_213, e_115, mv_i_1, mv_l_1, mv_a_1, mv_a_2, mv_a_3, mk2_n, mk2_i, mk2_l, mk2_a, mk2_u, mk2_x, mB_T, mB_F, mS_cons, mS_nil, mSB_T, mSB_F, mca_nil, mca_i, mca_l, mca_r, mca_u, mca_x, mcat_i, mcat_l, mcat_r, mcat_u, mcat_x, mK_some, mK_none, va_rf_s, va_rf_n, lgc_eq, lgc_lt, lgc_gt, lgc_ge, lgc_le, mrd_104, mrd_105, mrd_106, mrd_107, true_and, and_true, and_self, false_and, and_false, true_or, or_true, false_or, or_false, not_true_eq_false, not_false_eq_true, mgb, mga, mgr, mN, reduceCtorEq, ↓reduceIte, eq_self, ge_iff_le, gt_iff_lt, Nat.reduceAdd, Nat.reduceMul, Nat.reduceSub, Nat.reduceLT, Nat.reduceGT, Nat.reduceEqDiff, Nat.reduceLeDiff, Nat.left_eq_add, Nat.add_eq_left, Nat.reduceMod, Nat.reduceDiv, Nat.succ_ne_self, gS_g, gS_i, g, l12, ns, c1, c2]
    · rw [if_neg (fun z => c1 z.1)]
      simp (disch := omega) only [s_115_0, s_115_1, s_115_4, s_115_5, s_115_6, s_115_8, s_115_9, s_115_11, s_115_12, s_115_13, s_115_16, s_115_19, s_115_20, s_115_21, s_115_24, s_115_27, s_115_28, s_115_32, s_115_34, s_115_37, s_115_38, s_115_40, s_115_43, s_115_46, s_115_47, s_115_50, s_115_52, s_115_53, s_115_56, s_115_57, s_115_59, s_115_60, s_115_61, s_115_62, s_115_65, s_115_66, s_115_68, s_115_69, s_115_71, s_115_73, s_115_74, s_115_77, s_115_79, s_115_80, s_115_83, s_115_84, s_115_85, s_115_88, s_115_89, s_115_92, s_115_94, s_115_95, s_115_96, s_115_98, s_115_99, s_115_100, s_115_103, s_115_104, s_115_107, s_115_108, s_115_109, s_115_112, s_115_113, s_115_116, s_115_118, s_115_120, s_115_123, s_115_124, s_115_127, s_115_130, s_115_133, s_115_135, s_115_137, s_115_139, s_115_141, s_115_144, s_115_147, s_115_148, s_115_151, s_115_152, s_115_155, s_115_158, s_115_159, s_115_160, s_115_163, s_115_165, s_115_166, s_115_169, s_115_170, s_115_171, s_115_174, s_115_175, s_115_178, s_115_180, s_115_181, s_115_182, s_115_184, s_115_185, s_115_186, s_115_189, s_115_190, s_115_193, s_115_194, s_115_195, s_115_198, s_115_199, s_115_202, s_115_204, s_115_206, s_115_209, s_115_210, s_115_213, e_115, mv_i_1, mv_l_1, mv_a_1, mv_a_2, mv_a_3, mk2_n, mk2_i, mk2_l, mk2_a, mk2_u, mk2_x, mB_T, mB_F, mS_cons, mS_nil, mSB_T, mSB_F, mca_nil, mca_i, mca_l, mca_r, mca_u, mca_x, mcat_i, mcat_l, mcat_r, mcat_u, mcat_x, mK_some, mK_none, va_rf_s, va_rf_n, lgc_eq, lgc_lt, lgc_gt, lgc_ge, lgc_le, mrd_104, mrd_105, mrd_106, mrd_107, true_and, and_true, and_self, false_and, and_false, true_or, or_true, false_or, or_false, not_true_eq_false, not_false_eq_true, mgb, mga, mgr, mN, reduceCtorEq, ↓reduceIte, eq_self, ge_iff_le, gt_iff_lt, Nat.reduceAdd, Nat.reduceMul, Nat.reduceSub, Nat.reduceLT, Nat.reduceGT, Nat.reduceEqDiff, Nat.reduceLeDiff, Nat.left_eq_add, Nat.add_eq_left, Nat.reduceMod, Nat.reduceDiv, Nat.succ_ne_self, gS_g, gS_i, g, l12, ns, c1]
end FO
