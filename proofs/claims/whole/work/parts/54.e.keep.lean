set_option maxRecDepth 100000
/-! the reference's keep: its loop -/
section KLs
variable {d : Nat} {h : mh_H} {n m : Nat} {Bt : Nat → Int32} {K : Nat → Int32} {P U : Nat → Nat} {L : List Nat} {c top di : Nat} {o : Int32} {an : List Nat}
/-- one node -/
theorem kp_1 (I : KPI h n m Bt K P U L c) (room : ∀ L, nmG (spe Bt n P U) K m L → lsN U L ≤ 16400 ∧ L.length < 8299) (hc : c < 26000) (hl : an.Nodup) (ha : ∀ a, a ∈ an → a < c) (A : anC (mh_i h 96) an o) {nn i : Nat} (hi : i < 52000) (e1 : mh_i h 86 i = Int32.ofNat (tK nn)) (e2 : mh_i h 87 i = Int32.ofNat (tP nn)) (e3 : (mh_i h 88 i).toInt = tV nn) (tv : tK nn = 13 → ∃ a : Nat, a < m ∧ tV nn = (a : Int) ∧ K a = 2) {x1 x2 x5 : Option Value} : ∃ h1 L1 v, fG nmWr h h1 ∧ NMS h1 P U L1 ∧ nmG (spe Bt n P U) K m L1 ∧ (∃ M, L1 = L ++ M) ∧ (tK nn = 13 → nix (spe Bt n P U) L1 (tV nn).toNat < L1.length) ∧ v.toInt = tV (ndR (spe Bt n P U) L1 nn) ∧ ∀ Q, mw (d + 1) 330 Q 7 [some (.ref 81), x1, some (.int (Int32.ofNat top)), some (.int (Int32.ofNat i)), some (.int o), x5] [] h = mw (d + 1) 330 Q 62 [some (.ref 81), x1, some (.int (Int32.ofNat top)), some (.int (Int32.ofNat i)), some (.int o), some (.int (Int32.ofNat c))] [] (addH h1 c (Int32.ofNat (tK nn)) (Int32.ofNat (tP nn)) v o an) := by
  have R := I.R
  have F := R.F
  have g := F.g 81 14 70 (by decide +kernel)
  have r11 := F.f 81 11 86 (by decide +kernel)
  have g11 := F.g 86 100 52000 (by decide +kernel)
  have l11 := F.l 86 100 52000 (by decide +kernel)
  have r12 := F.f 81 12 87 (by decide +kernel)
  have g12 := F.g 87 100 52000 (by decide +kernel)
  have l12 := F.l 87 100 52000 (by decide +kernel)
  have r13 := F.f 81 13 88 (by decide +kernel)
  have g13 := F.g 88 100 52000 (by decide +kernel)
  have l13 := F.l 88 100 52000 (by decide +kernel)
  have kb64 := tK_b (x := nn)
  have cn : c ∉ an := fun z => by have := ha c z; omega
  have ne : (Int32.ofNat i = -1) = False := nn_m2 (by omega)
  by_cases q : tK nn = 13
  · obtain ⟨a, a1, a2, a3⟩ := tv q
    have ev : mh_i h 88 i = Int32.ofNat a := by
      rw [← Int32.toInt_inj, e3, a2]
      have hm := R.n
      exact (nn_int (by omega)).symm
    have rm := room _ (nad_G a1 a3 I.G)
    have rm0 := room _ I.G
    obtain ⟨h1, f1, N1, z⟩ := u_329 (d := d) R I.N rm0.2 rm.1 (fun b hb => (nmG_n L (fun _ => spe_r) I.G).2 b hb |>.1) a1 a3
    have en : (tV nn).toNat = a := by rw [a2]; rfl
    obtain ⟨k1, k2⟩ := nad_k (L := L) (t := a) (spe_r (Bt := Bt) (n := n) (a := a) (P := P) (U := U))
    have c1 : mh_i h1 81 24 = Int32.ofNat c := (fG_i f1 (by unfold nmWr; omega)).trans I.c
    have A1 : anC (mh_i h1 96) an o := anC_c an o (fun b _ => fG_i f1 (by unfold nmWr; omega)) A
    have ad := u_300 (d := d) (h := h1) (kk := tK nn) (p := Int32.ofNat (tP nn)) (v := Int32.ofNat (nix (spe Bt n P U) L a)) (RF_G f1 F) kb64 c1 hc A1 cn
    have k13 : (Int32.ofNat (tK nn) = 13) = True := eq_true (by rw [q]; rfl)
    have g1h : mg h1 81 14 := ⟨by rw [f1.1]; exact g.1, by rw [f1.2.2.2.1]; exact g.2⟩
    refine ⟨h1, nad (spe Bt n P U) L a, Int32.ofNat (nix (spe Bt n P U) L a), f1, N1, nad_G a1 a3 I.G, nad_x, fun _ => by rw [en]; exact k1, ?_, fun Q => ?_⟩
    · unfold ndR
      rw [if_pos q, tE_V (by decide) tP_b, en, k2]
      have := nix_le (sp := spe Bt n P U) (t := a) L
      exact nn_int (by omega)
    · clear A A1 R F I room rm rm0 tv
      rw [s_330_7]
      simp (disch := omega) only [s_330_0, s_330_1, s_330_2, s_330_3, s_330_4, s_330_5, s_330_8, s_330_9, s_330_12, s_330_13, s_330_14, s_330_17, s_330_18, s_330_19, s_330_20, s_330_23, s_330_24, s_330_25, s_330_26, s_330_29, s_330_30, s_330_31, s_330_33, s_330_36, s_330_37, s_330_38, s_330_41, s_330_42, s_330_43, s_330_46, s_330_49, s_330_50, s_330_53, s_330_54, s_330_55, s_330_57, s_330_60, s_330_63, s_330_66, s_330_67, s_330_68, s_330_69, s_330_72, s_330_73, s_330_74, s_330_77, s_330_78, s_330_81, s_330_82, s_330_83, s_330_86, s_330_87, s_330_88, s_330_89, s_330_90, s_330_93, s_330_94, s_330_95, s_330_96, s_330_98, s_330_99, s_330_102, s_330_103, s_330_106, s_330_107, s_330_108, s_330_109, s_330_112, s_330_113, s_330_116, s_330_117, s_330_118, s_330_119, s_330_121, s_330_123, s_330_126, s_330_127, s_330_130, s_330_133, s_330_134, s_330_137, s_330_138, s_330_139, s_330_140, s_330_141, s_330_144, s_330_145, s_330_146, s_330_147, s_330_148, s_330_150, s_330_153, s_330_154, s_330_155, s_330_158, e_330, mv_i_1, mv_l_1, mv_a_1, mv_a_2, mv_a_3, mk2_n, mk2_i, mk2_l, mk2_a, mk2_u, mk2_x, mB_T, mB_F, mS_cons, mS_nil, mSB_T, mSB_F, mca_nil, mca_i, mca_l, mca_r, mca_u, mca_x, mcat_i, mcat_l, mcat_r, mcat_u, mcat_x, mK_some, mK_none, va_rf_s, va_rf_n, lgc_eq, lgc_lt, lgc_gt, lgc_ge, lgc_le, mrd_104, mrd_105, mrd_106, mrd_107, true_and, and_true, and_self, false_and, and_false, true_or, or_true, false_or, or_false, not_true_eq_false, not_false_eq_true, mgb, mga, mgr, mN, reduceCtorEq, ↓reduceIte, eq_self, ge_iff_le, gt_iff_lt, Nat.reduceAdd, Nat.reduceMul, Nat.reduceSub, Nat.reduceLT, Nat.reduceGT, Nat.reduceEqDiff, Nat.reduceLeDiff, Nat.left_eq_add, Nat.add_eq_left, Nat.reduceMod, Nat.reduceDiv, Nat.succ_ne_self, g, r11, g11, l11, r12, g12, l12, r13, g13, l13, e1, e2, ev, ne, k13, nn_mxT, nn_clamp, z, ad, g1h]
  · have ad := u_300 (d := d) (h := h) (kk := tK nn) (p := Int32.ofNat (tP nn)) (v := mh_i h 88 i) F kb64 I.c hc A cn
    have k13 : (Int32.ofNat (tK nn) = 13) = False := (nn_eq (a := tK nn) (b := 13) (by omega) (by decide)).trans (eq_false q)
    refine ⟨h, L, mh_i h 88 i, fG_id, I.N, I.G, ⟨[], (List.append_nil _).symm⟩, fun z => absurd z q, ?_, fun Q => ?_⟩
    · unfold ndR
      rw [if_neg q]
      exact e3
    · clear A R F I room tv
      rw [s_330_7]
      simp (disch := omega) only [s_330_0, s_330_1, s_330_2, s_330_3, s_330_4, s_330_5, s_330_8, s_330_9, s_330_12, s_330_13, s_330_14, s_330_17, s_330_18, s_330_19, s_330_20, s_330_23, s_330_24, s_330_25, s_330_26, s_330_29, s_330_30, s_330_31, s_330_33, s_330_36, s_330_37, s_330_38, s_330_41, s_330_42, s_330_43, s_330_46, s_330_49, s_330_50, s_330_53, s_330_54, s_330_55, s_330_57, s_330_60, s_330_63, s_330_66, s_330_67, s_330_68, s_330_69, s_330_72, s_330_73, s_330_74, s_330_77, s_330_78, s_330_81, s_330_82, s_330_83, s_330_86, s_330_87, s_330_88, s_330_89, s_330_90, s_330_93, s_330_94, s_330_95, s_330_96, s_330_98, s_330_99, s_330_102, s_330_103, s_330_106, s_330_107, s_330_108, s_330_109, s_330_112, s_330_113, s_330_116, s_330_117, s_330_118, s_330_119, s_330_121, s_330_123, s_330_126, s_330_127, s_330_130, s_330_133, s_330_134, s_330_137, s_330_138, s_330_139, s_330_140, s_330_141, s_330_144, s_330_145, s_330_146, s_330_147, s_330_148, s_330_150, s_330_153, s_330_154, s_330_155, s_330_158, e_330, mv_i_1, mv_l_1, mv_a_1, mv_a_2, mv_a_3, mk2_n, mk2_i, mk2_l, mk2_a, mk2_u, mk2_x, mB_T, mB_F, mS_cons, mS_nil, mSB_T, mSB_F, mca_nil, mca_i, mca_l, mca_r, mca_u, mca_x, mcat_i, mcat_l, mcat_r, mcat_u, mcat_x, mK_some, mK_none, va_rf_s, va_rf_n, lgc_eq, lgc_lt, lgc_gt, lgc_ge, lgc_le, mrd_104, mrd_105, mrd_106, mrd_107, true_and, and_true, and_self, false_and, and_false, true_or, or_true, false_or, or_false, not_true_eq_false, not_false_eq_true, mgb, mga, mgr, mN, reduceCtorEq, ↓reduceIte, eq_self, ge_iff_le, gt_iff_lt, Nat.reduceAdd, Nat.reduceMul, Nat.reduceSub, Nat.reduceLT, Nat.reduceGT, Nat.reduceEqDiff, Nat.reduceLeDiff, Nat.left_eq_add, Nat.add_eq_left, Nat.reduceMod, Nat.reduceDiv, Nat.succ_ne_self, g, r11, g11, l11, r12, g12, l12, r13, g13, l13, e1, e2, ne, k13, nn_mxT, nn_clamp, ad]
/-- behind a node: what waits, what is below -/
theorem kp_2 (F : RF h) {i : Nat} (hi : i < 52000) (ht : top + 2 ≤ 52000) {x5 : Option Value} (nx fs : Int32) (e1 : mh_i h 91 i = nx) (e2 : mh_i h 89 i = fs) (hd : ¬ nx = -1 → i ≠ di ∧ di < 52000) : ∀ Q, mw d 330 Q 62 [some (.ref 81), some (.int (Int32.ofNat di)), some (.int (Int32.ofNat top)), some (.int (Int32.ofNat i)), some (.int o), some (.int (Int32.ofNat c))] [] h = (if nx = -1 then (if fs = -1 then mw d 330 Q 126 [some (.ref 81), some (.int (Int32.ofNat di)), some (.int (Int32.ofNat top)), some (.int (Int32.ofNat i)), some (.int o), some (.int (Int32.ofNat c))] [] h else mw d 330 Q 7 [some (.ref 81), some (.int (Int32.ofNat di)), some (.int (Int32.ofNat top)), some (.int fs), some (.int (Int32.ofNat c)), some (.int (Int32.ofNat c))] [] h) else (if fs = -1 then mw d 330 Q 126 [some (.ref 81), some (.int (Int32.ofNat di)), some (.int (Int32.ofNat (top + 2))), some (.int (Int32.ofNat i)), some (.int o), some (.int (Int32.ofNat c))] [] (mh_si (mh_si h 92 top nx) 92 (top + 1) o) else mw d 330 Q 7 [some (.ref 81), some (.int (Int32.ofNat di)), some (.int (Int32.ofNat (top + 2))), some (.int fs), some (.int (Int32.ofNat c)), some (.int (Int32.ofNat c))] [] (mh_si (mh_si h 92 top nx) 92 (top + 1) o))) := by
  intro Q
  have g := F.g 81 14 70 (by decide +kernel)
  have r16 := F.f 81 16 91 (by decide +kernel)
  have g16 := F.g 91 100 52000 (by decide +kernel)
  have l16 := F.l 91 100 52000 (by decide +kernel)
  have r14 := F.f 81 14 89 (by decide +kernel)
  have g14 := F.g 89 100 52000 (by decide +kernel)
  have l14 := F.l 89 100 52000 (by decide +kernel)
  have r18 := F.f 81 18 92 (by decide +kernel)
  have g18 := F.g 92 100 52000 (by decide +kernel)
  have l18 := F.l 92 100 52000 (by decide +kernel)
  have e1' : ∀ k, Int32.ofNat k + 1 = Int32.ofNat (k + 1) := fun k => nn_add (a := k) (b := 1)
  have e2' : ∀ k, Int32.ofNat k + 2 = Int32.ofNat (k + 2) := fun k => nn_add (a := k) (b := 2)
  clear F
  by_cases q1 : nx = -1
  · rw [if_pos q1]
    have q1' := eq_true q1
    by_cases q2 : fs = -1
    · rw [if_pos q2]
      have q2' := eq_true q2
      simp (disch := omega) only [s_330_0, s_330_1, s_330_2, s_330_3, s_330_4, s_330_5, s_330_8, s_330_9, s_330_12, s_330_13, s_330_14, s_330_17, s_330_18, s_330_19, s_330_20, s_330_23, s_330_24, s_330_25, s_330_26, s_330_29, s_330_30, s_330_31, s_330_33, s_330_36, s_330_37, s_330_38, s_330_41, s_330_42, s_330_43, s_330_46, s_330_49, s_330_50, s_330_53, s_330_54, s_330_55, s_330_57, s_330_60, s_330_62, s_330_63, s_330_66, s_330_67, s_330_68, s_330_69, s_330_72, s_330_73, s_330_74, s_330_77, s_330_78, s_330_81, s_330_82, s_330_83, s_330_86, s_330_87, s_330_88, s_330_89, s_330_90, s_330_93, s_330_94, s_330_95, s_330_96, s_330_98, s_330_99, s_330_102, s_330_103, s_330_106, s_330_107, s_330_108, s_330_109, s_330_112, s_330_113, s_330_116, s_330_117, s_330_118, s_330_119, s_330_121, s_330_123, s_330_127, s_330_130, s_330_133, s_330_134, s_330_137, s_330_138, s_330_139, s_330_140, s_330_141, s_330_144, s_330_145, s_330_146, s_330_147, s_330_148, s_330_150, s_330_153, s_330_154, s_330_155, s_330_158, e_330, mv_i_1, mv_l_1, mv_a_1, mv_a_2, mv_a_3, mk2_n, mk2_i, mk2_l, mk2_a, mk2_u, mk2_x, mB_T, mB_F, mS_cons, mS_nil, mSB_T, mSB_F, mca_nil, mca_i, mca_l, mca_r, mca_u, mca_x, mcat_i, mcat_l, mcat_r, mcat_u, mcat_x, mK_some, mK_none, va_rf_s, va_rf_n, lgc_eq, lgc_lt, lgc_gt, lgc_ge, lgc_le, mrd_104, mrd_105, mrd_106, mrd_107, true_and, and_true, and_self, false_and, and_false, true_or, or_true, false_or, or_false, not_true_eq_false, not_false_eq_true, mgb, mga, mgr, mN, reduceCtorEq, ↓reduceIte, eq_self, ge_iff_le, gt_iff_lt, Nat.reduceAdd, Nat.reduceMul, Nat.reduceSub, Nat.reduceLT, Nat.reduceGT, Nat.reduceEqDiff, Nat.reduceLeDiff, Nat.left_eq_add, Nat.add_eq_left, Nat.reduceMod, Nat.reduceDiv, Nat.succ_ne_self, g, r16, g16, l16, r14, g14, l14, e1, e2, q1', q2', nn_mxT, nn_clamp]
    · rw [if_neg q2]
      have q2' := eq_false q2
      simp (disch := omega) only [s_330_0, s_330_1, s_330_2, s_330_3, s_330_4, s_330_5, s_330_8, s_330_9, s_330_12, s_330_13, s_330_14, s_330_17, s_330_18, s_330_19, s_330_20, s_330_23, s_330_24, s_330_25, s_330_26, s_330_29, s_330_30, s_330_31, s_330_33, s_330_36, s_330_37, s_330_38, s_330_41, s_330_42, s_330_43, s_330_46, s_330_49, s_330_50, s_330_53, s_330_54, s_330_55, s_330_57, s_330_60, s_330_62, s_330_63, s_330_66, s_330_67, s_330_68, s_330_69, s_330_72, s_330_73, s_330_74, s_330_77, s_330_78, s_330_81, s_330_82, s_330_83, s_330_86, s_330_87, s_330_88, s_330_89, s_330_90, s_330_93, s_330_94, s_330_95, s_330_96, s_330_98, s_330_99, s_330_102, s_330_103, s_330_106, s_330_107, s_330_108, s_330_109, s_330_112, s_330_113, s_330_116, s_330_117, s_330_118, s_330_119, s_330_121, s_330_123, s_330_127, s_330_130, s_330_133, s_330_134, s_330_137, s_330_138, s_330_139, s_330_140, s_330_141, s_330_144, s_330_145, s_330_146, s_330_147, s_330_148, s_330_150, s_330_153, s_330_154, s_330_155, s_330_158, e_330, mv_i_1, mv_l_1, mv_a_1, mv_a_2, mv_a_3, mk2_n, mk2_i, mk2_l, mk2_a, mk2_u, mk2_x, mB_T, mB_F, mS_cons, mS_nil, mSB_T, mSB_F, mca_nil, mca_i, mca_l, mca_r, mca_u, mca_x, mcat_i, mcat_l, mcat_r, mcat_u, mcat_x, mK_some, mK_none, va_rf_s, va_rf_n, lgc_eq, lgc_lt, lgc_gt, lgc_ge, lgc_le, mrd_104, mrd_105, mrd_106, mrd_107, true_and, and_true, and_self, false_and, and_false, true_or, or_true, false_or, or_false, not_true_eq_false, not_false_eq_true, mgb, mga, mgr, mN, reduceCtorEq, ↓reduceIte, eq_self, ge_iff_le, gt_iff_lt, Nat.reduceAdd, Nat.reduceMul, Nat.reduceSub, Nat.reduceLT, Nat.reduceGT, Nat.reduceEqDiff, Nat.reduceLeDiff, Nat.left_eq_add, Nat.add_eq_left, Nat.reduceMod, Nat.reduceDiv, Nat.succ_ne_self, g, r16, g16, l16, r14, g14, l14, e1, e2, q1', q2', nn_mxT, nn_clamp]
  · rw [if_neg q1]
    have q1' := eq_false q1
    obtain ⟨d1, d2⟩ := hd q1
    have dd : (Int32.ofNat i = Int32.ofNat di) = False := (nn_eq (by omega) (by omega)).trans (eq_false d1)
    by_cases q2 : fs = -1
    · rw [if_pos q2]
      have q2' := eq_true q2
      simp (disch := omega) only [s_330_0, s_330_1, s_330_2, s_330_3, s_330_4, s_330_5, s_330_8, s_330_9, s_330_12, s_330_13, s_330_14, s_330_17, s_330_18, s_330_19, s_330_20, s_330_23, s_330_24, s_330_25, s_330_26, s_330_29, s_330_30, s_330_31, s_330_33, s_330_36, s_330_37, s_330_38, s_330_41, s_330_42, s_330_43, s_330_46, s_330_49, s_330_50, s_330_53, s_330_54, s_330_55, s_330_57, s_330_60, s_330_62, s_330_63, s_330_66, s_330_67, s_330_68, s_330_69, s_330_72, s_330_73, s_330_74, s_330_77, s_330_78, s_330_81, s_330_82, s_330_83, s_330_86, s_330_87, s_330_88, s_330_89, s_330_90, s_330_93, s_330_94, s_330_95, s_330_96, s_330_98, s_330_99, s_330_102, s_330_103, s_330_106, s_330_107, s_330_108, s_330_109, s_330_112, s_330_113, s_330_116, s_330_117, s_330_118, s_330_119, s_330_121, s_330_123, s_330_127, s_330_130, s_330_133, s_330_134, s_330_137, s_330_138, s_330_139, s_330_140, s_330_141, s_330_144, s_330_145, s_330_146, s_330_147, s_330_148, s_330_150, s_330_153, s_330_154, s_330_155, s_330_158, e_330, mv_i_1, mv_l_1, mv_a_1, mv_a_2, mv_a_3, mk2_n, mk2_i, mk2_l, mk2_a, mk2_u, mk2_x, mB_T, mB_F, mS_cons, mS_nil, mSB_T, mSB_F, mca_nil, mca_i, mca_l, mca_r, mca_u, mca_x, mcat_i, mcat_l, mcat_r, mcat_u, mcat_x, mK_some, mK_none, va_rf_s, va_rf_n, lgc_eq, lgc_lt, lgc_gt, lgc_ge, lgc_le, mrd_104, mrd_105, mrd_106, mrd_107, true_and, and_true, and_self, false_and, and_false, true_or, or_true, false_or, or_false, not_true_eq_false, not_false_eq_true, mgb, mga, mgr, mN, reduceCtorEq, ↓reduceIte, eq_self, ge_iff_le, gt_iff_lt, hk_si, hk_sj, hk_sr, hl_si, hl_sj, hl_sr, hn_si, hn_sj, hn_sr, hs_si, hs_sj, hs_sr, hi_sj, hi_sr, hj_si, hj_sr, hr_si, hr_sj, hi_si, hj_sj, hr_sr, mg_si, mg_sj, mg_sr, Nat.reduceAdd, Nat.reduceMul, Nat.reduceSub, Nat.reduceLT, Nat.reduceGT, Nat.reduceEqDiff, Nat.reduceLeDiff, Nat.left_eq_add, Nat.add_eq_left, Nat.reduceMod, Nat.reduceDiv, Nat.succ_ne_self, g, r16, g16, l16, r14, g14, l14, r18, g18, l18, e1, e2, q1', q2', dd, nn_mxT, nn_clamp, e1', e2']
    · rw [if_neg q2]
      have q2' := eq_false q2
      simp (disch := omega) only [s_330_0, s_330_1, s_330_2, s_330_3, s_330_4, s_330_5, s_330_8, s_330_9, s_330_12, s_330_13, s_330_14, s_330_17, s_330_18, s_330_19, s_330_20, s_330_23, s_330_24, s_330_25, s_330_26, s_330_29, s_330_30, s_330_31, s_330_33, s_330_36, s_330_37, s_330_38, s_330_41, s_330_42, s_330_43, s_330_46, s_330_49, s_330_50, s_330_53, s_330_54, s_330_55, s_330_57, s_330_60, s_330_62, s_330_63, s_330_66, s_330_67, s_330_68, s_330_69, s_330_72, s_330_73, s_330_74, s_330_77, s_330_78, s_330_81, s_330_82, s_330_83, s_330_86, s_330_87, s_330_88, s_330_89, s_330_90, s_330_93, s_330_94, s_330_95, s_330_96, s_330_98, s_330_99, s_330_102, s_330_103, s_330_106, s_330_107, s_330_108, s_330_109, s_330_112, s_330_113, s_330_116, s_330_117, s_330_118, s_330_119, s_330_121, s_330_123, s_330_127, s_330_130, s_330_133, s_330_134, s_330_137, s_330_138, s_330_139, s_330_140, s_330_141, s_330_144, s_330_145, s_330_146, s_330_147, s_330_148, s_330_150, s_330_153, s_330_154, s_330_155, s_330_158, e_330, mv_i_1, mv_l_1, mv_a_1, mv_a_2, mv_a_3, mk2_n, mk2_i, mk2_l, mk2_a, mk2_u, mk2_x, mB_T, mB_F, mS_cons, mS_nil, mSB_T, mSB_F, mca_nil, mca_i, mca_l, mca_r, mca_u, mca_x, mcat_i, mcat_l, mcat_r, mcat_u, mcat_x, mK_some, mK_none, va_rf_s, va_rf_n, lgc_eq, lgc_lt, lgc_gt, lgc_ge, lgc_le, mrd_104, mrd_105, mrd_106, mrd_107, true_and, and_true, and_self, false_and, and_false, true_or, or_true, false_or, or_false, not_true_eq_false, not_false_eq_true, mgb, mga, mgr, mN, reduceCtorEq, ↓reduceIte, eq_self, ge_iff_le, gt_iff_lt, hk_si, hk_sj, hk_sr, hl_si, hl_sj, hl_sr, hn_si, hn_sj, hn_sr, hs_si, hs_sj, hs_sr, hi_sj, hi_sr, hj_si, hj_sr, hr_si, hr_sj, hi_si, hj_sj, hr_sr, mg_si, mg_sj, mg_sr, Nat.reduceAdd, Nat.reduceMul, Nat.reduceSub, Nat.reduceLT, Nat.reduceGT, Nat.reduceEqDiff, Nat.reduceLeDiff, Nat.left_eq_add, Nat.add_eq_left, Nat.reduceMod, Nat.reduceDiv, Nat.succ_ne_self, g, r16, g16, l16, r14, g14, l14, r18, g18, l18, e1, e2, q1', q2', dd, nn_mxT, nn_clamp, e1', e2']
/-- what waits is taken -/
theorem kp_3 (F : RF h) (ht : top + 2 ≤ 52000) {x1 y3 y4 y5 : Option Value} {nx : Int32} (e1 : mh_i h 92 top = nx) (e2 : mh_i h 92 (top + 1) = o) : ∀ Q, mw d 330 Q 126 [some (.ref 81), x1, some (.int (Int32.ofNat (top + 2))), y3, y4, y5] [] h = mw d 330 Q 7 [some (.ref 81), mk2 x1, some (.int (Int32.ofNat top)), some (.int nx), some (.int o), y5] [] h := by
  intro Q
  have g := F.g 81 14 70 (by decide +kernel)
  have r18 := F.f 81 18 92 (by decide +kernel)
  have g18 := F.g 92 100 52000 (by decide +kernel)
  have l18 := F.l 92 100 52000 (by decide +kernel)
  have e1' : ∀ k, Int32.ofNat k + 1 = Int32.ofNat (k + 1) := fun k => nn_add (a := k) (b := 1)
  have em : Int32.ofNat (top + 2) + -2 = Int32.ofNat top := by
    rw [show (-2 : Int32) = -(2 : Int32) from rfl, ← Int32.sub_eq_add_neg]
    exact nn_sub (a := top + 2) (b := 2) (by omega)
  have le : (Int32.ofNat (top + 2) ≤ 0) = False := by
    rw [show (0 : Int32) = Int32.ofNat 0 from rfl, nn_le (by omega) (by omega)]
    exact eq_false (by omega)
  clear F
  simp (disch := omega) only [s_330_0, s_330_1, s_330_2, s_330_3, s_330_4, s_330_5, s_330_8, s_330_9, s_330_12, s_330_13, s_330_14, s_330_17, s_330_18, s_330_19, s_330_20, s_330_23, s_330_24, s_330_25, s_330_26, s_330_29, s_330_30, s_330_31, s_330_33, s_330_36, s_330_37, s_330_38, s_330_41, s_330_42, s_330_43, s_330_46, s_330_49, s_330_50, s_330_53, s_330_54, s_330_55, s_330_57, s_330_60, s_330_62, s_330_63, s_330_66, s_330_67, s_330_68, s_330_69, s_330_72, s_330_73, s_330_74, s_330_77, s_330_78, s_330_81, s_330_82, s_330_83, s_330_86, s_330_87, s_330_88, s_330_89, s_330_90, s_330_93, s_330_94, s_330_95, s_330_96, s_330_98, s_330_99, s_330_102, s_330_103, s_330_106, s_330_107, s_330_108, s_330_109, s_330_112, s_330_113, s_330_116, s_330_117, s_330_118, s_330_119, s_330_121, s_330_123, s_330_126, s_330_127, s_330_130, s_330_133, s_330_134, s_330_137, s_330_138, s_330_139, s_330_140, s_330_141, s_330_144, s_330_145, s_330_146, s_330_147, s_330_148, s_330_150, s_330_153, s_330_154, s_330_155, s_330_158, e_330, mv_i_1, mv_l_1, mv_a_1, mv_a_2, mv_a_3, mk2_n, mk2_i, mk2_l, mk2_a, mk2_u, mk2_x, mB_T, mB_F, mS_cons, mS_nil, mSB_T, mSB_F, mca_nil, mca_i, mca_l, mca_r, mca_u, mca_x, mcat_i, mcat_l, mcat_r, mcat_u, mcat_x, mK_some, mK_none, va_rf_s, va_rf_n, lgc_eq, lgc_lt, lgc_gt, lgc_ge, lgc_le, mrd_104, mrd_105, mrd_106, mrd_107, true_and, and_true, and_self, false_and, and_false, true_or, or_true, false_or, or_false, not_true_eq_false, not_false_eq_true, mgb, mga, mgr, mN, reduceCtorEq, ↓reduceIte, eq_self, ge_iff_le, gt_iff_lt, Nat.reduceAdd, Nat.reduceMul, Nat.reduceSub, Nat.reduceLT, Nat.reduceGT, Nat.reduceEqDiff, Nat.reduceLeDiff, Nat.left_eq_add, Nat.add_eq_left, Nat.reduceMod, Nat.reduceDiv, Nat.succ_ne_self, g, r18, g18, l18, e1, e2, le, em, nn_mxT, nn_clamp, e1']
theorem kp_l (room : ∀ L, nmG (spe Bt n P U) K m L → lsN U L ≤ 16400 ∧ L.length < 8299) (hdi : di < 52000) : ∀ z t h x o c an L top, ts t ≤ z → 0 < ts t → KPI h n m Bt K P U L c → tpt (mh_i h 86) (mh_i h 87) (mh_i h 88) (mh_i h 89) (mh_i h 91) 52000 t x → tvT K m t → anC (mh_i h 96) an (Int32.ofNat o) → an.Nodup → (∀ a, a ∈ an → a < c) → top + 2 * ts t ≤ 52000 → c + ts t ≤ 26000 → mh_i h 91 di = -1 → ∀ x5, ∃ h' L' y3 y4 y5, KRs h h' n m Bt K P U c t (Int32.ofNat o) an L L' top ∧ ∀ Q, mw (d + 1) 330 Q 7 [some (.ref 81), some (.int (Int32.ofNat di)), some (.int (Int32.ofNat top)), some (.int x), some (.int (Int32.ofNat o)), x5] [] h = mw (d + 1) 330 Q 126 [some (.ref 81), some (.int (Int32.ofNat di)), some (.int (Int32.ofNat top)), y3, y4, y5] [] h' := by
  intro z
  induction z with
  | zero => intro t h x o c an L top h1 h2; omega
  | succ z ih =>
    intro t h x o c an L top h1 h2 I T tv A nd ha hp hc hdn x5
    cases t with
    | leaf _ => exact absurd h2 (Nat.lt_irrefl _)
    | branch nn cs r =>
      rw [ts_B] at h1 hp hc
      obtain ⟨i, t1, t2, t3, t4, t5, t6, t7⟩ := T
      subst t1
      obtain ⟨v1, v2, v3⟩ := tv
      obtain ⟨ha1, L1, v, f1, N1, G1, x1, k1, hv, st1⟩ := kp_1 (d := d) (top := top) (x1 := some (.int (Int32.ofNat di))) (x2 := none) (x5 := x5) I room (by omega) nd ha A t2 t3 t4 t5 (fun q => (v1.1 q).1)
      have cn : c ∉ an := fun q => by have := ha c q; omega
      obtain ⟨a1, a2, ⟨b1, b2, b3, b4, b5⟩, a4, a5⟩ := add_f (h := ha1) (c := c) (k := Int32.ofNat (tK nn)) (p := Int32.ofNat (tP nn)) (v := v) (o := Int32.ofNat o) (l := an) nd cn
      have fW : fG keWr h ha1 := ⟨f1.1, f1.2.1, f1.2.2.1, f1.2.2.2.1, f1.2.2.2.2.1, fun b j w => f1.2.2.2.2.2 b j (fun q => w (by unfold nmWr at q; unfold keWr; omega))⟩
      obtain ⟨h2', eh2⟩ : ∃ y, y = addH ha1 c (Int32.ofNat (tK nn)) (Int32.ofNat (tP nn)) v (Int32.ofNat o) an := ⟨_, rfl⟩
      rw [← eh2] at st1 a1 a2 b1 b2 b3 b4 b5 a4 a5
      have F2 : fG keWr h h2' := fG_t fW a1
      have RF2 : RF h2' := RF_G F2 I.R.F
      have dr : ∀ (H : mh_H), fG keWr h H → ∀ b j, 86 ≤ b → b ≤ 91 → mh_i H b j = mh_i h b j := fun H fH b j u1 u2 => fG_i fH (by unfold keWr; omega)
      have KI : ∀ H : mh_H, fG keWr h2' H → (∀ b j, 93 ≤ b → mh_i H b j = mh_i h2' b j) → (∀ j, mh_i H 81 j = mh_i h2' 81 j) → KPI H n m Bt K P U L1 (c + 1) := fun H fH e e81 => KPI.of ⟨NTK_G I.R (fG_t F2 fH) (fun b j w => by unfold keWr at w; omega), NMS.of ⟨(e81 27).trans ((a5 81 27 (by decide) (by decide) (by decide) (by decide) (by decide) (by omega)).trans N1.c), fun k hk => (e 99 k (by omega)).trans ((a5 99 k (by decide) (by decide) (by decide) (by decide) (by decide) (by omega)).trans (N1.s k hk)), fun k a hk j hj => (e 98 _ (by omega)).trans ((a5 98 _ (by decide) (by decide) (by decide) (by decide) (by decide) (by omega)).trans ((N1.l k a hk j hj).trans (by rw [fG_i (fG_t a1 fH) (by unfold keWr; omega)])))⟩, G1, (e81 24).trans a2⟩
      have st2 := kp_2 (d := d + 1) (c := c) (di := di) (o := Int32.ofNat o) (h := h2') RF2 t2 (top := top) (by omega) (x5 := x5) _ _ (dr h2' F2 91 i (by omega) (by omega)) (dr h2' F2 89 i (by omega) (by omega)) (fun q => ⟨fun e => q (by rw [e]; exact hdn), hdi⟩)
      have sub : ∀ (H : mh_H) tp, fG keWr h2' H → (∀ b j, 93 ≤ b → mh_i H b j = mh_i h2' b j) → (∀ j, mh_i H 81 j = mh_i h2' 81 j) → tp + 2 * ts cs ≤ 52000 → 0 < ts cs → ∃ h' L' y3 y4 y5, KRs H h' n m Bt K P U (c + 1) cs (Int32.ofNat c) (c :: an) L1 L' tp ∧ ∀ Q, mw (d + 1) 330 Q 7 [some (.ref 81), some (.int (Int32.ofNat di)), some (.int (Int32.ofNat tp)), some (.int (mh_i h 89 i)), some (.int (Int32.ofNat c)), some (.int (Int32.ofNat c))] [] H = mw (d + 1) 330 Q 126 [some (.ref 81), some (.int (Int32.ofNat di)), some (.int (Int32.ofNat tp)), y3, y4, y5] [] h' := fun H tp fH e e81 htp hz => by
        refine ih cs H (mh_i h 89 i) c (c + 1) (c :: an) L1 tp (by omega) hz (KI H fH e e81) (tpt_c (fun j _ => ⟨dr H (fG_t F2 fH) 86 j (by omega) (by omega), dr H (fG_t F2 fH) 87 j (by omega) (by omega), dr H (fG_t F2 fH) 88 j (by omega) (by omega), dr H (fG_t F2 fH) 89 j (by omega) (by omega), dr H (fG_t F2 fH) 91 j (by omega) (by omega)⟩) cs _ t6) v2 ⟨rfl, by omega, ?_⟩ (List.nodup_cons.mpr ⟨cn, nd⟩) (fun a q => ?_) htp (by omega) ((dr H (fG_t F2 fH) 91 di (by omega) (by omega)).trans hdn) _
        · rw [e 96 c (by omega), b4]
          exact anC_c an _ (fun a q => by rw [e 96 a (by omega), (a4 a (ha a q)).2.2.2.1, fG_i f1 (by unfold nmWr; omega)]) A
        · rcases List.mem_cons.mp q with e' | e'
          · omega
          · have := ha a e'; omega
      have rest : ∀ (H4 : mh_H) L2 y5, fG keWr h H4 → KPI H4 n m Bt K P U L2 (c + 1 + ts cs) → (∀ a, a < c → mh_i H4 96 a = mh_i h 96 a) → 0 < ts r → ∃ h' L' y3 y4 y5', KRs H4 h' n m Bt K P U (c + 1 + ts cs) r (Int32.ofNat o) an L2 L' top ∧ ∀ Q, mw (d + 1) 330 Q 7 [some (.ref 81), some (.int (Int32.ofNat di)), some (.int (Int32.ofNat top)), some (.int (mh_i h 91 i)), some (.int (Int32.ofNat o)), y5] [] H4 = mw (d + 1) 330 Q 126 [some (.ref 81), some (.int (Int32.ofNat di)), some (.int (Int32.ofNat top)), y3, y4, y5'] [] h' := fun H4 L2 y5 fH I4 e hz => by
        refine ih r H4 (mh_i h 91 i) o (c + 1 + ts cs) an L2 top (by omega) hz I4 (tpt_c (fun j _ => ⟨dr H4 fH 86 j (by omega) (by omega), dr H4 fH 87 j (by omega) (by omega), dr H4 fH 88 j (by omega) (by omega), dr H4 fH 89 j (by omega) (by omega), dr H4 fH 91 j (by omega) (by omega)⟩) r _ t7) v3 (anC_c an _ (fun a q => e a (ha a q)) A) nd (fun a q => by have := ha a q; omega) (by omega) (by omega) ((dr H4 fH 91 di (by omega) (by omega)).trans hdn) _
      have lf : ∀ t x, tpt (mh_i h 86) (mh_i h 87) (mh_i h 88) (mh_i h 89) (mh_i h 91) 52000 t x → (x = -1 ↔ ts t = 0) := fun t x w => by
        cases t with
        | leaf _ => exact ⟨fun _ => rfl, fun _ => w⟩
        | branch a b c =>
          obtain ⟨j, j1, j2, -⟩ := w
          refine ⟨fun q => ?_, fun q => by rw [ts_B] at q; omega⟩
          have ne : (Int32.ofNat j = -1) = False := nn_m2 (by omega)
          rw [j1] at q
          exact absurd q (by rw [ne]; exact id)
      have lc := lf cs _ t6
      have lr := lf r _ t7
      have fin : ∀ (H h4 h' : mh_H) L2 L' tp, top ≤ tp → fG keWr h2' H → (∀ b j, 93 ≤ b → mh_i H b j = mh_i h2' b j) → (∀ j, j < top → mh_i H 92 j = mh_i h2' 92 j) → KRs H h4 n m Bt K P U (c + 1) cs (Int32.ofNat c) (c :: an) L1 L2 tp → KRs h4 h' n m Bt K P U (c + 1 + ts cs) r (Int32.ofNat o) an L2 L' top → KRs h h' n m Bt K P U c (.branch nn cs r) (Int32.ofNat o) an L L' top := fun H h4 h' L2 L' tp htp fH e ep RA RB => by
        rw [eh2] at fH e ep
        exact KR_T (by omega) nd ha f1 x1 k1 hv fH (fun b j u1 u2 => e b j u1) ep htp RA RB
      have oldW : ∀ (H h4 : mh_H) L2 tp, (∀ b j, 93 ≤ b → mh_i H b j = mh_i h2' b j) → KRs H h4 n m Bt K P U (c + 1) cs (Int32.ofNat c) (c :: an) L1 L2 tp → ∀ a, a < c → mh_i h4 96 a = mh_i h 96 a := fun H h4 L2 tp e RA a q => by
        rw [(RA.o a (by omega)).2.2.2, e 96 a (by omega), (a4 a q).2.2.2.1, fG_i f1 (by unfold nmWr; omega)]
      by_cases q1 : ts r = 0
      · obtain ⟨u, hu⟩ := ts_z q1
        have n1 : mh_i h 91 i = -1 := lr.mpr q1
        by_cases q2 : ts cs = 0
        · obtain ⟨u', hu'⟩ := ts_z q2
          have n2 : mh_i h 89 i = -1 := lc.mpr q2
          have K1 := KI h2' fG_id (fun _ _ _ => rfl) (fun _ => rfl)
          refine ⟨h2', L1, some (.int (Int32.ofNat i)), some (.int (Int32.ofNat o)), some (.int (Int32.ofNat c)), fin h2' h2' h2' L1 L1 top (Nat.le_refl _) fG_id (fun _ _ _ => rfl) (fun _ _ => rfl) (by rw [hu']; exact KR_0 K1) (by rw [hu, q2]; exact KR_0 K1), fun Q => ?_⟩
          rw [st1 Q, st2 Q, if_pos n1, if_pos n2]
        · have n2 : ¬ mh_i h 89 i = -1 := fun e => q2 (lc.mp e)
          obtain ⟨h4, L2, y3, y4, y5, RA, sa⟩ := sub h2' top fG_id (fun _ _ _ => rfl) (fun _ => rfl) (by omega) (by omega)
          refine ⟨h4, L2, y3, y4, y5, fin h2' h4 h4 L2 L2 top (Nat.le_refl _) fG_id (fun _ _ _ => rfl) (fun _ _ => rfl) RA (by rw [hu]; exact KR_0 RA.I), fun Q => ?_⟩
          rw [st1 Q, st2 Q, if_pos n1, if_neg n2, sa Q]
      · have n1 : ¬ mh_i h 91 i = -1 := fun e => q1 (lr.mp e)
        obtain ⟨h3, eh3⟩ : ∃ y, y = mh_si (mh_si h2' 92 top (mh_i h 91 i)) 92 (top + 1) (Int32.ofNat o) := ⟨_, rfl⟩
        have f3 : fG keWr h2' h3 := by
          rw [eh3]
          exact fG_t (fG_si (Or.inl (by omega))) (fG_si (Or.inl (by omega)))
        have r3 : ∀ b j, b ≠ 92 → mh_i h3 b j = mh_i h2' b j := fun b j hb => by
          rw [eh3, hi_si, if_neg (fun q => hb q.1), hi_si, if_neg (fun q => hb q.1)]
        have p0 : mh_i h3 92 top = mh_i h 91 i := by rw [eh3, hi_si, if_neg (by omega), hi_si, if_pos ⟨rfl, rfl⟩]
        have p1 : mh_i h3 92 (top + 1) = Int32.ofNat o := by rw [eh3, hi_si, if_pos ⟨rfl, rfl⟩]
        have pj : ∀ j, j < top → mh_i h3 92 j = mh_i h2' 92 j := fun j hj => by rw [eh3, hi_si, if_neg (by omega), hi_si, if_neg (by omega)]
        rw [← eh3] at st2
        by_cases q2 : ts cs = 0
        · obtain ⟨u', hu'⟩ := ts_z q2
          have n2 : mh_i h 89 i = -1 := lc.mpr q2
          have K3 := KI h3 f3 (fun b j hb => r3 b j (by omega)) (fun j => r3 81 j (by decide))
          have RA : KRs h3 h3 n m Bt K P U (c + 1) cs (Int32.ofNat c) (c :: an) L1 L1 top := by rw [hu']; exact KR_0 K3
          obtain ⟨h5, L3, y3, y4, y5, RB, sb⟩ := rest h3 L1 (some (.int (Int32.ofNat c))) (fG_t F2 f3) (by rw [q2]; exact K3) (oldW h3 h3 L1 top (fun b j hb => r3 b j (by omega)) RA) (by omega)
          refine ⟨h5, L3, y3, y4, y5, fin h3 h3 h5 L1 L3 top (Nat.le_refl _) f3 (fun b j hb => r3 b j (by omega)) pj RA RB, fun Q => ?_⟩
          have s3 := kp_3 (d := d + 1) (h := h3) (top := top) (o := Int32.ofNat o) (x1 := some (.int (Int32.ofNat di))) (y3 := some (.int (Int32.ofNat i))) (y4 := some (.int (Int32.ofNat o))) (y5 := some (.int (Int32.ofNat c))) (RF_G (fG_t F2 f3) I.R.F) (by omega) p0 p1 Q
          rw [mk2_i] at s3
          rw [st1 Q, st2 Q, if_neg n1, if_pos n2, s3, sb Q]
        · have n2 : ¬ mh_i h 89 i = -1 := fun e => q2 (lc.mp e)
          obtain ⟨h4, L2, y3, y4, y5, RA, sa⟩ := sub h3 (top + 2) f3 (fun b j hb => r3 b j (by omega)) (fun j => r3 81 j (by decide)) (by omega) (by omega)
          have F4 := fG_t (fG_t F2 f3) RA.f
          obtain ⟨h5, L3, w3, w4, w5, RB, sb⟩ := rest h4 L2 y5 F4 RA.I (oldW h3 h4 L2 (top + 2) (fun b j hb => r3 b j (by omega)) RA) (by omega)
          refine ⟨h5, L3, w3, w4, w5, fin h3 h4 h5 L2 L3 (top + 2) (by omega) f3 (fun b j hb => r3 b j (by omega)) pj RA RB, fun Q => ?_⟩
          have s3 := kp_3 (d := d + 1) (h := h4) (top := top) (o := Int32.ofNat o) (x1 := some (.int (Int32.ofNat di))) (y3 := y3) (y4 := y4) (y5 := y5) (RF_G F4 I.R.F) (by omega) ((RA.p top (by omega)).trans p0) ((RA.p (top + 1) (by omega)).trans p1) Q
          rw [mk2_i] at s3
          rw [st1 Q, st2 Q, if_neg n1, if_neg n2, sa Q, s3, sb Q]
end KLs
