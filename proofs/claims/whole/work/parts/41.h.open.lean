set_option maxRecDepth 100000
/-! Analysis.openBlocks, whole -/
def nul (h : mh_H) : Prop := ∀ i, i < 250 → (mh_r h 62 i = none ∧ mh_r h 63 i = none ∧ mh_r h 64 i = none) ∨ (mh_r h 62 i ≠ none ∧ mh_r h 63 i ≠ none ∧ mh_r h 64 i ≠ none)
section OCs
variable {d : Nat} {h : mh_H} {Y C E TT UU SC SP nC nE nS : Nat} {G : pgm} {cnt k p : Nat}
/-- places for S and the heads -/
theorem ob_2 (B : BS h Y C E TT UU SC SP nC nE nS) (N : nul h) (hk : k < 250) {St : Nat} (gS : mg h St 9) (s0 : mh_i h St 0 = Int32.ofNat 6) : ∃ h', zS (fun b j => (b = 62 ∨ b = 63 ∨ b = 64) ∧ j = k) (fun _ _ => False) h h' ∧ BS h' Y C E TT UU SC SP nC nE nS ∧ (mh_r h' 62 k ≠ none ∧ mh_r h' 63 k ≠ none ∧ mh_r h' 64 k ≠ none) ∧ ∀ Q, mw (d + 3) 5 Q 81 [some (.ref 53), some (.int (Int32.ofNat p)), some (.ref St), some (.int (Int32.ofNat k))] [] h = mw (d + 3) 5 Q 138 [some (.ref 53), some (.int (Int32.ofNat p)), some (.ref St), some (.int (Int32.ofNat k))] [] h' := by
  have F := B.F
  have g53 := F.g 53 0 17 (by decide +kernel)
  have t12 := F.f 53 12 62 (by decide +kernel)
  have t13 := F.f 53 13 63 (by decide +kernel)
  have t14 := F.f 53 14 64 (by decide +kernel)
  have g62 := (F.g 62 104 250 (by decide +kernel)).1
  have g62' := (F.g 62 104 250 (by decide +kernel)).2
  have l62 := F.l 62 104 250 (by decide +kernel)
  have e66 : (Int32.ofNat 6 = 6) = True := by decide
  rcases N k hk with ⟨n1, n2, n3⟩ | n
  · obtain ⟨x1, B1, r1⟩ := pl_new B (b := 62) (by omega) hk n1
    have n2' := x1.pz 63 k (by unfold isPl; omega) (by omega) n2
    obtain ⟨x2, B2, r2⟩ := pl_new B1 (b := 63) (by omega) hk n2'
    have n3' := x2.pz 64 k (by unfold isPl; omega) (by omega) (x1.pz 64 k (by unfold isPl; omega) (by omega) n3)
    obtain ⟨x3, B3, r3⟩ := pl_new B2 (b := 64) (by omega) hk n3'
    have s1 : ∀ {x : Nat}, some x ≠ (none : Option Nat) := fun z => by cases z
    refine ⟨_, zS_t (zS_w x1 (fun b j z => by omega) (fun _ _ z => z)) (zS_t (zS_w x2 (fun b j z => by omega) (fun _ _ z => z)) (zS_w x3 (fun b j z => by omega) (fun _ _ z => z))), B3, ⟨x3.pn 62 k (by unfold isPl; omega) (by omega) (x2.pn 62 k (by unfold isPl; omega) (by omega) (by rw [r1]; exact s1)), x3.pn 63 k (by unfold isPl; omega) (by omega) (by rw [r2]; exact s1), by rw [r3]; exact s1⟩, fun Q => ?_⟩
    have ac : me_ac 104 = 8 := by decide
    have step : ∀ (X : mh_H), BS X Y C E TT UU SC SP nC nE nS → mg X 53 0 ∧ mg (mh_new X 8 6) (mh_n X) 8 ∧ (∀ Q, mcall (d + 2) 139 [.ref (mh_n X)] (mh_new X 8 6) Q = Q none (nw X)) ∧ mg (nw X) (mh_n X) 8 ∧ (∀ b, b = 62 ∨ b = 63 ∨ b = 64 → mh_k (nw X) b = 104 ∧ b < mh_n (nw X) ∧ mh_l (nw X) b = 250 ∧ mh_k X b = 104 ∧ b < mh_n X ∧ mh_l X b = 250) ∧ mh_r X 53 13 = some 63 ∧ mh_r X 53 14 = some 64 := fun X BX => by
      have FX := BX.F
      have z := nw_z (h := X)
      have gn : mg (mh_new X 8 6) (mh_n X) 8 := ⟨by rw [hk_new, if_pos rfl], by rw [hn_new]; omega⟩
      refine ⟨FX.g 53 0 17 (by decide +kernel), gn, fun Q => c_139 (d := d + 2) (Q := Q) gn, nw_so.1, fun b hb => ?_, FX.f 53 13 63 (by decide +kernel), FX.f 53 14 64 (by decide +kernel)⟩
      have gb : mg X b 104 ∧ mh_l X b = 250 := by
        rcases hb with e | e | e <;> subst e
        · exact ⟨FX.g 62 104 250 (by decide +kernel), FX.l 62 104 250 (by decide +kernel)⟩
        · exact ⟨FX.g 63 104 250 (by decide +kernel), FX.l 63 104 250 (by decide +kernel)⟩
        · exact ⟨FX.g 64 104 250 (by decide +kernel), FX.l 64 104 250 (by decide +kernel)⟩
      exact ⟨(fz_mg z gb.1).1, (fz_mg z gb.1).2, by rw [fz_l z gb.1]; exact gb.2, gb.1.1, gb.1.2, gb.2⟩
    obtain ⟨-, a2, a3, a4, a5, -⟩ := step h B
    obtain ⟨b1, b2, b3, b4, b5, b6, -⟩ := step _ B1
    obtain ⟨d1, d2, d3, d4, d5, -, d7⟩ := step _ B2
    obtain ⟨a51, a52, a53, -⟩ := a5 62 (by omega)
    obtain ⟨b51, b52, b53, b54, b55, b56⟩ := b5 63 (by omega)
    obtain ⟨d51, d52, d53, d54, d55, d56⟩ := d5 64 (by omega)
    clear B F N x1 x2 x3 B1 B2 B3 step a5 b5 d5 r1 r2 r3 n2' n3'
    generalize hX1 : mh_sr (nw h) 62 k (some (mh_n h)) = X1 at *
    generalize hX2 : mh_sr (nw X1) 63 k (some (mh_n X1)) = X2 at *
    simp (disch := omega) only [s_5_0, s_5_1, s_5_4, s_5_7, s_5_8, s_5_9, s_5_9n, s_5_9x, s_5_10, s_5_11, s_5_14, s_5_15, s_5_16, s_5_17, s_5_20, s_5_21, s_5_22, s_5_25, s_5_26, s_5_29, s_5_30, s_5_31, s_5_32, s_5_33, s_5_36, s_5_37, s_5_38, s_5_41, s_5_43, s_5_46, s_5_47, s_5_50, s_5_51, s_5_52, s_5_53, s_5_56, s_5_59, s_5_60, s_5_63, s_5_64, s_5_65n, s_5_65, s_5_68, s_5_69, s_5_72, s_5_73, s_5_76, s_5_77, s_5_80, s_5_80n, s_5_80x, s_5_81, s_5_82, s_5_85, s_5_87, s_5_90, s_5_91, s_5_94, s_5_95, s_5_96n, s_5_96, s_5_99, s_5_100, s_5_103, s_5_104, s_5_107, s_5_108, s_5_111, s_5_111n, s_5_111x, s_5_112, s_5_113, s_5_116, s_5_117, s_5_120, s_5_121, s_5_124, s_5_124n, s_5_124x, s_5_125, s_5_126, s_5_129, s_5_130, s_5_133, s_5_134, s_5_137, s_5_137n, s_5_137x, s_5_139, s_5_142, s_5_143, s_5_144, s_5_145, s_5_148, s_5_151, s_5_152, s_5_155, s_5_156, s_5_157, s_5_158, s_5_161, s_5_164, s_5_165, s_5_168, s_5_169, s_5_170, s_5_171, s_5_174, s_5_177, s_5_178, s_5_181, s_5_182, s_5_183, s_5_184, s_5_185, s_5_188, s_5_189, s_5_190, s_5_191, e_5, mv_i_1, mv_l_1, mv_a_1, mv_a_2, mv_a_3, mk2_n, mk2_i, mk2_l, mk2_a, mk2_u, mk2_x, mB_T, mB_F, mS_cons, mS_nil, mSB_T, mSB_F, mca_nil, mca_i, mca_l, mca_r, mca_u, mca_x, mcat_i, mcat_l, mcat_r, mcat_u, mcat_x, mK_some, mK_none, va_rf_s, va_rf_n, lgc_eq, lgc_lt, lgc_gt, lgc_ge, lgc_le, mrd_104, mrd_105, mrd_106, mrd_107, true_and, and_true, and_self, false_and, and_false, true_or, or_true, false_or, or_false, not_true_eq_false, not_false_eq_true, mgb, mga, mgr, mN, reduceCtorEq, ↓reduceIte, eq_self, ge_iff_le, gt_iff_lt, Nat.reduceAdd, Nat.reduceMul, Nat.reduceSub, Nat.reduceLT, Nat.reduceGT, Nat.reduceEqDiff, Nat.reduceLeDiff, Nat.left_eq_add, Nat.add_eq_left, Nat.reduceMod, Nat.reduceDiv, Nat.succ_ne_self, gS, s0, e66, g53, t12, g62, g62', l62, n1, a2, a3, a4, a51, a52, a53, hX1, b1, b2, b3, b4, b51, b52, b53, b54, b55, b56, b6, hX2, d1, d2, d3, d4, d51, d52, d53, d54, d55, d56, d7, ac, nn_mxT, nn_clamp]
  · obtain ⟨o, e1⟩ : ∃ o, mh_r h 62 k = some o := by
      cases hc : mh_r h 62 k with
      | none => exact absurd hc n.1
      | some o => exact ⟨o, rfl⟩
    refine ⟨h, zS_id, B, n, fun Q => ?_⟩
    have gO := (cs_so B.S ⟨62, k, by unfold isPl; omega, e1⟩).1.1
    clear B F N
    simp (disch := omega) only [s_5_0, s_5_1, s_5_4, s_5_7, s_5_8, s_5_9, s_5_9n, s_5_9x, s_5_10, s_5_11, s_5_14, s_5_15, s_5_16, s_5_17, s_5_20, s_5_21, s_5_22, s_5_25, s_5_26, s_5_29, s_5_30, s_5_31, s_5_32, s_5_33, s_5_36, s_5_37, s_5_38, s_5_41, s_5_43, s_5_46, s_5_47, s_5_50, s_5_51, s_5_52, s_5_53, s_5_56, s_5_59, s_5_60, s_5_63, s_5_64, s_5_65n, s_5_65, s_5_68, s_5_69, s_5_72, s_5_73, s_5_76, s_5_77, s_5_80, s_5_80n, s_5_80x, s_5_81, s_5_82, s_5_85, s_5_87, s_5_90, s_5_91, s_5_94, s_5_95, s_5_96n, s_5_96, s_5_99, s_5_100, s_5_103, s_5_104, s_5_107, s_5_108, s_5_111, s_5_111n, s_5_111x, s_5_112, s_5_113, s_5_116, s_5_117, s_5_120, s_5_121, s_5_124, s_5_124n, s_5_124x, s_5_125, s_5_126, s_5_129, s_5_130, s_5_133, s_5_134, s_5_137, s_5_137n, s_5_137x, s_5_139, s_5_142, s_5_143, s_5_144, s_5_145, s_5_148, s_5_151, s_5_152, s_5_155, s_5_156, s_5_157, s_5_158, s_5_161, s_5_164, s_5_165, s_5_168, s_5_169, s_5_170, s_5_171, s_5_174, s_5_177, s_5_178, s_5_181, s_5_182, s_5_183, s_5_184, s_5_185, s_5_188, s_5_189, s_5_190, s_5_191, e_5, mv_i_1, mv_l_1, mv_a_1, mv_a_2, mv_a_3, mk2_n, mk2_i, mk2_l, mk2_a, mk2_u, mk2_x, mB_T, mB_F, mS_cons, mS_nil, mSB_T, mSB_F, mca_nil, mca_i, mca_l, mca_r, mca_u, mca_x, mcat_i, mcat_l, mcat_r, mcat_u, mcat_x, mK_some, mK_none, va_rf_s, va_rf_n, lgc_eq, lgc_lt, lgc_gt, lgc_ge, lgc_le, mrd_104, mrd_105, mrd_106, mrd_107, true_and, and_true, and_self, false_and, and_false, true_or, or_true, false_or, or_false, not_true_eq_false, not_false_eq_true, mgb, mga, mgr, mN, reduceCtorEq, ↓reduceIte, eq_self, ge_iff_le, gt_iff_lt, hk_si, hk_sj, hk_sr, hl_si, hl_sj, hl_sr, hn_si, hn_sj, hn_sr, hs_si, hs_sj, hs_sr, hi_sj, hi_sr, hj_si, hj_sr, hr_si, hr_sj, hi_si, hj_sj, hr_sr, mg_si, mg_sj, mg_sr, Nat.reduceAdd, Nat.reduceMul, Nat.reduceSub, Nat.reduceLT, Nat.reduceGT, Nat.reduceEqDiff, Nat.reduceLeDiff, Nat.left_eq_add, Nat.add_eq_left, Nat.reduceMod, Nat.reduceDiv, Nat.succ_ne_self, gS, s0, e66, g53, t12, g62, g62', l62, e1, gO, nn_mxT, nn_clamp]
/-- what is known now is S and both heads -/
theorem ob_3 (B : BS h Y C E TT UU SC SP nC nE nS) (hk : k < 250) {s : Option ab} (kn : pv h 53 6 s) (N : mh_r h 62 k ≠ none ∧ mh_r h 63 k ≠ none ∧ mh_r h 64 k ≠ none) {x2 : Option Value} : ∃ h', zS (fun b j => (b = 62 ∨ b = 63 ∨ b = 64) ∧ j = k) (fun b j => (b = 65 ∨ b = 66) ∧ j = k) h h' ∧ BS h' Y C E TT UU SC SP nC nE nS ∧ pv h' 62 k s ∧ pv h' 63 k s ∧ pv h' 64 k s ∧ mh_i h' 65 k = 0 ∧ mh_i h' 66 k = 0 ∧ ∀ Q, mw (d + 3) 5 Q 138 [some (.ref 53), some (.int (Int32.ofNat p)), x2, some (.int (Int32.ofNat k))] [] h = Q none h' := by
  have P0 : isPl 53 6 := by unfold isPl; omega
  have P1 : isPl 62 k := by unfold isPl; omega
  have P2 : isPl 63 k := by unfold isPl; omega
  have P3 : isPl 64 k := by unfold isPl; omega
  have ex : ∀ b, mh_r h b k ≠ none → ∃ o, mh_r h b k = some o := fun b n => by
    cases hc : mh_r h b k with
    | none => exact absurd hc n
    | some o => exact ⟨o, rfl⟩
  obtain ⟨o0, e0, -⟩ := id kn
  obtain ⟨o1, e1⟩ := ex 62 N.1
  obtain ⟨o2, e2⟩ := ex 63 N.2.1
  obtain ⟨o3, e3⟩ := ex 64 N.2.2
  obtain ⟨h1, x1, B1, er1, q1, c1⟩ := w_copy (d := d + 1) B P1 P0 (by omega) e1 e0 kn
  obtain ⟨h2, x2', B2, er2, q2, c2⟩ := w_copy (d := d + 1) B1 P2 P0 (by omega) (by rw [er1]; exact e2) (by rw [er1]; exact e0) (x1.pp _ _ _ P0 (by omega) kn)
  obtain ⟨h3, x3, B3, er3, q3, c3⟩ := w_copy (d := d + 1) B2 P3 P0 (by omega) (by rw [er2, er1]; exact e3) (by rw [er2, er1]; exact e0) (x2'.pp _ _ _ P0 (by omega) (x1.pp _ _ _ P0 (by omega) kn))
  obtain ⟨x4, B4⟩ := zS_i (k := k) (v := 0) B3 (b := 65) (by omega)
  obtain ⟨x5, B5⟩ := zS_i (k := k) (v := 0) B4 (b := 66) (by omega)
  refine ⟨_, zS_t (zS_w x1 (fun b j z => by omega) (fun _ _ z => z.elim)) (zS_t (zS_w x2' (fun b j z => by omega) (fun _ _ z => z.elim)) (zS_t (zS_w x3 (fun b j z => by omega) (fun _ _ z => z.elim)) (zS_t (zS_w x4 (fun _ _ z => z.elim) (fun b j z => by omega)) (zS_w x5 (fun _ _ z => z.elim) (fun b j z => by omega))))), B5, x5.pp _ _ _ P1 (fun z => z) (x4.pp _ _ _ P1 (fun z => z) (x3.pp _ _ _ P1 (by omega) (x2'.pp _ _ _ P1 (by omega) q1))), x5.pp _ _ _ P2 (fun z => z) (x4.pp _ _ _ P2 (fun z => z) (x3.pp _ _ _ P2 (by omega) q2)), x5.pp _ _ _ P3 (fun z => z) (x4.pp _ _ _ P3 (fun z => z) q3), by rw [hi_si, if_neg (by omega), hi_si, if_pos ⟨rfl, rfl⟩], by rw [hi_si, if_pos ⟨rfl, rfl⟩], fun Q => ?_⟩
  have row : ∀ {h' : mh_H}, BS h' Y C E TT UU SC SP nC nE nS → mg h' 53 0 ∧ (mh_k h' 62 = 104 ∧ 62 < mh_n h' ∧ mh_l h' 62 = 250) ∧ (mh_k h' 63 = 104 ∧ 63 < mh_n h' ∧ mh_l h' 63 = 250) ∧ (mh_k h' 64 = 104 ∧ 64 < mh_n h' ∧ mh_l h' 64 = 250) := fun B' => ⟨B'.F.g 53 0 17 (by decide +kernel), ⟨(B'.F.g 62 104 250 (by decide +kernel)).1, (B'.F.g 62 104 250 (by decide +kernel)).2, B'.F.l 62 104 250 (by decide +kernel)⟩, ⟨(B'.F.g 63 104 250 (by decide +kernel)).1, (B'.F.g 63 104 250 (by decide +kernel)).2, B'.F.l 63 104 250 (by decide +kernel)⟩, ⟨(B'.F.g 64 104 250 (by decide +kernel)).1, (B'.F.g 64 104 250 (by decide +kernel)).2, B'.F.l 64 104 250 (by decide +kernel)⟩⟩
  obtain ⟨u1, ⟨u2, u3, u4⟩, -⟩ := row B
  obtain ⟨v1, -, ⟨v2, v3, v4⟩, -⟩ := row B1
  obtain ⟨w1, -, -, ⟨w2, w3, w4⟩⟩ := row B2
  have y1 := B3.F.g 53 0 17 (by decide +kernel)
  have F := B.F
  have t12 := F.f 53 12 62 (by decide +kernel)
  have t13 := F.f 53 13 63 (by decide +kernel)
  have t14 := F.f 53 14 64 (by decide +kernel)
  have t15 := F.f 53 15 65 (by decide +kernel)
  have t16 := F.f 53 16 66 (by decide +kernel)
  have g65 := B3.F.g 65 100 250 (by decide +kernel)
  have l65 := B3.F.l 65 100 250 (by decide +kernel)
  have g66 := B3.F.g 66 100 250 (by decide +kernel)
  have l66 := B3.F.l 66 100 250 (by decide +kernel)
  have gO0 := (cs_so B.S ⟨53, 6, P0, e0⟩).1.1
  have gO1 := (cs_so B.S ⟨62, k, P1, e1⟩).1.1
  have gO01 := zS_g x1 gO0
  have gO2 := zS_g x1 (cs_so B.S ⟨63, k, P2, e2⟩).1.1
  have gO02 := zS_g x2' gO01
  have gO3 := zS_g x2' (zS_g x1 (cs_so B.S ⟨64, k, P3, e3⟩).1.1)
  clear x1 x2' x3 x4 x5 B B1 B2 B3 B4 B5 q1 q2 q3 kn N ex row F
  simp (disch := omega) only [s_5_0, s_5_1, s_5_4, s_5_7, s_5_8, s_5_9, s_5_9n, s_5_9x, s_5_10, s_5_11, s_5_14, s_5_15, s_5_16, s_5_17, s_5_20, s_5_21, s_5_22, s_5_25, s_5_26, s_5_29, s_5_30, s_5_31, s_5_32, s_5_33, s_5_36, s_5_37, s_5_38, s_5_41, s_5_43, s_5_46, s_5_47, s_5_50, s_5_51, s_5_52, s_5_53, s_5_56, s_5_59, s_5_60, s_5_63, s_5_64, s_5_65n, s_5_65, s_5_68, s_5_69, s_5_72, s_5_73, s_5_76, s_5_77, s_5_80, s_5_80n, s_5_80x, s_5_81, s_5_82, s_5_85, s_5_87, s_5_90, s_5_91, s_5_94, s_5_95, s_5_96n, s_5_96, s_5_99, s_5_100, s_5_103, s_5_104, s_5_107, s_5_108, s_5_111, s_5_111n, s_5_111x, s_5_112, s_5_113, s_5_116, s_5_117, s_5_120, s_5_121, s_5_124, s_5_124n, s_5_124x, s_5_125, s_5_126, s_5_129, s_5_130, s_5_133, s_5_134, s_5_137, s_5_137n, s_5_137x, s_5_138, s_5_139, s_5_142, s_5_143, s_5_144, s_5_145, s_5_148, s_5_151, s_5_152, s_5_155, s_5_156, s_5_157, s_5_158, s_5_161, s_5_164, s_5_165, s_5_168, s_5_169, s_5_170, s_5_171, s_5_174, s_5_177, s_5_178, s_5_181, s_5_182, s_5_183, s_5_184, s_5_185, s_5_188, s_5_189, s_5_190, s_5_191, e_5, mv_i_1, mv_l_1, mv_a_1, mv_a_2, mv_a_3, mk2_n, mk2_i, mk2_l, mk2_a, mk2_u, mk2_x, mB_T, mB_F, mS_cons, mS_nil, mSB_T, mSB_F, mca_nil, mca_i, mca_l, mca_r, mca_u, mca_x, mcat_i, mcat_l, mcat_r, mcat_u, mcat_x, mK_some, mK_none, va_rf_s, va_rf_n, lgc_eq, lgc_lt, lgc_gt, lgc_ge, lgc_le, mrd_104, mrd_105, mrd_106, mrd_107, true_and, and_true, and_self, false_and, and_false, true_or, or_true, false_or, or_false, not_true_eq_false, not_false_eq_true, mgb, mga, mgr, mN, reduceCtorEq, ↓reduceIte, eq_self, ge_iff_le, gt_iff_lt, hk_si, hk_sj, hk_sr, hl_si, hl_sj, hl_sr, hn_si, hn_sj, hn_sr, hs_si, hs_sj, hs_sr, hi_sj, hi_sr, hj_si, hj_sr, hr_si, hr_sj, hi_si, hj_sj, hr_sr, mg_si, mg_sj, mg_sr, Nat.reduceAdd, Nat.reduceMul, Nat.reduceSub, Nat.reduceLT, Nat.reduceGT, Nat.reduceEqDiff, Nat.reduceLeDiff, Nat.left_eq_add, Nat.add_eq_left, Nat.reduceMod, Nat.reduceDiv, Nat.succ_ne_self, u1, u2, u3, u4, t12, e1, e0, gO1, gO0, c1, v1, v2, v3, v4, er1, t13, e2, gO2, gO01, c2, w1, w2, w3, w4, er2, t14, e3, gO3, gO02, c3, y1, er3, t15, g65, l65, t16, g66, l66, nn_mxT, nn_clamp]
/-- a call -/
theorem c_5c (B : BS h Y C E TT UU SC SP nC nE nS) (H : PH h G cnt) (hp : p < cnt) (hk : k < 250) (k9 : mh_i h 53 9 = Int32.ofNat k) (kd : G.kd p = 4) : ∃ h', zS (obV k) (obU k) h h' ∧ BS h' Y C E TT UU SC SP nC nE nS ∧ mh_i h' 53 9 = Int32.ofNat (k + 1) ∧ mh_i h' 59 k = Int32.ofNat p ∧ mh_i h' 60 k = 0 ∧ (∀ i, mh_r h' 62 i = mh_r h 62 i ∧ mh_r h' 63 i = mh_r h 63 i ∧ mh_r h' 64 i = mh_r h 64 i) ∧ ∀ Q, mcall (d + 3) 5 [.ref 53, .int (Int32.ofNat p)] h Q = Q none h' := by
  obtain ⟨St, nb, nm, na, nx, q1, q2, q3, -⟩ := H.s p hp
  obtain ⟨h1, x1, B1, er1, a1, a2, a3, run⟩ := ob_0 (d := d) B H hp hk k9 q1 q2 q3
  refine ⟨h1, zS_w x1 (fun _ _ z => z.elim) (fun _ _ z => z), B1, a1, a2, a3, fun i => by rw [er1]; exact ⟨rfl, rfl, rfl⟩, fun Q => ?_⟩
  rw [run Q]
  have gS1 := zS_g x1 q2
  have w := st_ne B q2
  have s1 : mh_i h1 St 0 = Int32.ofNat 4 := by rw [x1.ii St 9 0 q2 (by omega) (by omega) w.1 (fun z => w.2 (by unfold obU at z; unfold aI; omega)), q3, kd]
  have c166 := c_166 (d := d + 2) gS1 s1 (by omega)
  have w' : kb (decide (4 = 5 ∨ 4 = 6)) = 0 := by decide
  rw [w'] at c166
  have e00 : ((0 : Int32) = 0) = True := by decide
  have e46 : (Int32.ofNat 4 = 6) = False := by decide
  clear B H B1 x1 run
  simp (disch := omega) only [s_5_0, s_5_1, s_5_4, s_5_7, s_5_8, s_5_9, s_5_9n, s_5_9x, s_5_10, s_5_11, s_5_14, s_5_15, s_5_16, s_5_17, s_5_20, s_5_21, s_5_22, s_5_25, s_5_26, s_5_29, s_5_30, s_5_31, s_5_32, s_5_33, s_5_36, s_5_37, s_5_38, s_5_41, s_5_43, s_5_46, s_5_47, s_5_50, s_5_51, s_5_52, s_5_53, s_5_56, s_5_59, s_5_60, s_5_63, s_5_64, s_5_65n, s_5_65, s_5_68, s_5_69, s_5_72, s_5_73, s_5_76, s_5_77, s_5_80, s_5_80n, s_5_80x, s_5_81, s_5_82, s_5_85, s_5_87, s_5_90, s_5_91, s_5_94, s_5_95, s_5_96n, s_5_96, s_5_99, s_5_100, s_5_103, s_5_104, s_5_107, s_5_108, s_5_111, s_5_111n, s_5_111x, s_5_112, s_5_113, s_5_116, s_5_117, s_5_120, s_5_121, s_5_124, s_5_124n, s_5_124x, s_5_125, s_5_126, s_5_129, s_5_130, s_5_133, s_5_134, s_5_137, s_5_137n, s_5_137x, s_5_138, s_5_139, s_5_142, s_5_143, s_5_144, s_5_145, s_5_148, s_5_151, s_5_152, s_5_155, s_5_156, s_5_157, s_5_158, s_5_161, s_5_164, s_5_165, s_5_168, s_5_169, s_5_170, s_5_171, s_5_174, s_5_177, s_5_178, s_5_181, s_5_182, s_5_183, s_5_184, s_5_185, s_5_188, s_5_189, s_5_190, s_5_191, e_5, mv_i_1, mv_l_1, mv_a_1, mv_a_2, mv_a_3, mk2_n, mk2_i, mk2_l, mk2_a, mk2_u, mk2_x, mB_T, mB_F, mS_cons, mS_nil, mSB_T, mSB_F, mca_nil, mca_i, mca_l, mca_r, mca_u, mca_x, mcat_i, mcat_l, mcat_r, mcat_u, mcat_x, mK_some, mK_none, va_rf_s, va_rf_n, lgc_eq, lgc_lt, lgc_gt, lgc_ge, lgc_le, mrd_104, mrd_105, mrd_106, mrd_107, true_and, and_true, and_self, false_and, and_false, true_or, or_true, false_or, or_false, not_true_eq_false, not_false_eq_true, mgb, mga, mgr, mN, reduceCtorEq, ↓reduceIte, eq_self, ge_iff_le, gt_iff_lt, hk_si, hk_sj, hk_sr, hl_si, hl_sj, hl_sr, hn_si, hn_sj, hn_sr, hs_si, hs_sj, hs_sr, hi_sj, hi_sr, hj_si, hj_sr, hr_si, hr_sj, hi_si, hj_sj, hr_sr, mg_si, mg_sj, mg_sr, Nat.reduceAdd, Nat.reduceMul, Nat.reduceSub, Nat.reduceLT, Nat.reduceGT, Nat.reduceEqDiff, Nat.reduceLeDiff, Nat.left_eq_add, Nat.add_eq_left, Nat.reduceMod, Nat.reduceDiv, Nat.succ_ne_self, gS1, c166, e00, s1, e46]
/-- an if -/
theorem c_5i (B : BS h Y C E TT UU SC SP nC nE nS) (H : PH h G cnt) (hp : p < cnt) (hk : k < 250) (k9 : mh_i h 53 9 = Int32.ofNat k) (kd : G.kd p = 5) : ∃ h', zS (obV k) (obU k) h h' ∧ BS h' Y C E TT UU SC SP nC nE nS ∧ mh_i h' 53 9 = Int32.ofNat (k + 1) ∧ mh_i h' 59 k = Int32.ofNat p ∧ mh_i h' 60 k = 0 ∧ mh_r h' 61 k ≠ none ∧ (nul h → nul h') ∧ ∀ Q, mcall (d + 3) 5 [.ref 53, .int (Int32.ofNat p)] h Q = Q none h' := by
  obtain ⟨St, nb, nm, na, nx, q1, q2, q3, -⟩ := H.s p hp
  obtain ⟨h1, x1, B1, er1, a1, a2, a3, run⟩ := ob_0 (d := d) B H hp hk k9 q1 q2 q3
  have gS1 := zS_g x1 q2
  have w := st_ne B q2
  have s1 : mh_i h1 St 0 = Int32.ofNat 5 := by rw [x1.ii St 9 0 q2 (by omega) (by omega) w.1 (fun z => w.2 (by unfold obU at z; unfold aI; omega)), q3, kd]
  obtain ⟨h2, x2, B2, n61, run2⟩ := ob_1 (d := d) (p := p) B1 hk gS1 s1 (by omega) (Or.inl rfl)
  have F1 := B1.F
  refine ⟨h2, zS_t (zS_w x1 (fun _ _ z => z.elim) (fun _ _ z => z)) (zS_w x2 (fun b j z => by unfold obV; omega) (fun _ _ z => z.elim)), B2, ?_, ?_, ?_, n61, fun N i hi => ?_, fun Q => ?_⟩
  · rw [x2.ii 53 0 9 (F1.g 53 0 17 (by decide +kernel)) (by omega) (by omega) (by unfold eff; omega) (fun z => z)]; exact a1
  · rw [x2.ii 59 100 k (F1.g 59 100 250 (by decide +kernel)) (by omega) (by omega) (by unfold eff; omega) (fun z => z)]; exact a2
  · rw [x2.ii 60 100 k (F1.g 60 100 250 (by decide +kernel)) (by omega) (by omega) (by unfold eff; omega) (fun z => z)]; exact a3
  · have z := x2.pz
    have n := x2.pn
    rw [er1] at z n
    rcases N i hi with ⟨n1, n2, n3⟩ | ⟨n1, n2, n3⟩
    · exact Or.inl ⟨z 62 i (by unfold isPl; omega) (by omega) n1, z 63 i (by unfold isPl; omega) (by omega) n2, z 64 i (by unfold isPl; omega) (by omega) n3⟩
    · exact Or.inr ⟨n 62 i (by unfold isPl; omega) (by omega) n1, n 63 i (by unfold isPl; omega) (by omega) n2, n 64 i (by unfold isPl; omega) (by omega) n3⟩
  · rw [run Q, run2 Q]
    have gS2 := zS_g x2 gS1
    have w2 := st_ne B1 gS1
    have s2 : mh_i h2 St 0 = Int32.ofNat 5 := by rw [x2.ii St 9 0 gS1 (by omega) (by omega) w2.1 (fun z => z)]; exact s1
    have e56 : (Int32.ofNat 5 = 6) = False := by decide
    clear B H B1 B2 x1 x2 run run2 F1
    simp (disch := omega) only [s_5_0, s_5_1, s_5_4, s_5_7, s_5_8, s_5_9, s_5_9n, s_5_9x, s_5_10, s_5_11, s_5_14, s_5_15, s_5_16, s_5_17, s_5_20, s_5_21, s_5_22, s_5_25, s_5_26, s_5_29, s_5_30, s_5_31, s_5_32, s_5_33, s_5_36, s_5_37, s_5_38, s_5_41, s_5_43, s_5_46, s_5_47, s_5_50, s_5_51, s_5_52, s_5_53, s_5_56, s_5_59, s_5_60, s_5_63, s_5_64, s_5_65n, s_5_65, s_5_68, s_5_69, s_5_72, s_5_73, s_5_76, s_5_77, s_5_80, s_5_80n, s_5_80x, s_5_81, s_5_82, s_5_85, s_5_87, s_5_90, s_5_91, s_5_94, s_5_95, s_5_96n, s_5_96, s_5_99, s_5_100, s_5_103, s_5_104, s_5_107, s_5_108, s_5_111, s_5_111n, s_5_111x, s_5_112, s_5_113, s_5_116, s_5_117, s_5_120, s_5_121, s_5_124, s_5_124n, s_5_124x, s_5_125, s_5_126, s_5_129, s_5_130, s_5_133, s_5_134, s_5_137, s_5_137n, s_5_137x, s_5_138, s_5_139, s_5_142, s_5_143, s_5_144, s_5_145, s_5_148, s_5_151, s_5_152, s_5_155, s_5_156, s_5_157, s_5_158, s_5_161, s_5_164, s_5_165, s_5_168, s_5_169, s_5_170, s_5_171, s_5_174, s_5_177, s_5_178, s_5_181, s_5_182, s_5_183, s_5_184, s_5_185, s_5_188, s_5_189, s_5_190, s_5_191, e_5, mv_i_1, mv_l_1, mv_a_1, mv_a_2, mv_a_3, mk2_n, mk2_i, mk2_l, mk2_a, mk2_u, mk2_x, mB_T, mB_F, mS_cons, mS_nil, mSB_T, mSB_F, mca_nil, mca_i, mca_l, mca_r, mca_u, mca_x, mcat_i, mcat_l, mcat_r, mcat_u, mcat_x, mK_some, mK_none, va_rf_s, va_rf_n, lgc_eq, lgc_lt, lgc_gt, lgc_ge, lgc_le, mrd_104, mrd_105, mrd_106, mrd_107, true_and, and_true, and_self, false_and, and_false, true_or, or_true, false_or, or_false, not_true_eq_false, not_false_eq_true, mgb, mga, mgr, mN, reduceCtorEq, ↓reduceIte, eq_self, ge_iff_le, gt_iff_lt, hk_si, hk_sj, hk_sr, hl_si, hl_sj, hl_sr, hn_si, hn_sj, hn_sr, hs_si, hs_sj, hs_sr, hi_sj, hi_sr, hj_si, hj_sr, hr_si, hr_sj, hi_si, hj_sj, hr_sr, mg_si, mg_sj, mg_sr, Nat.reduceAdd, Nat.reduceMul, Nat.reduceSub, Nat.reduceLT, Nat.reduceGT, Nat.reduceEqDiff, Nat.reduceLeDiff, Nat.left_eq_add, Nat.add_eq_left, Nat.reduceMod, Nat.reduceDiv, Nat.succ_ne_self, gS2, s2, e56]
/-- a while -/
theorem c_5w (B : BS h Y C E TT UU SC SP nC nE nS) (H : PH h G cnt) (N : nul h) (hp : p < cnt) (hk : k < 250) (k9 : mh_i h 53 9 = Int32.ofNat k) (kd : G.kd p = 6) {s : Option ab} (kn : pv h 53 6 s) : ∃ h', zS (obV k) (obU k) h h' ∧ BS h' Y C E TT UU SC SP nC nE nS ∧ mh_i h' 53 9 = Int32.ofNat (k + 1) ∧ mh_i h' 59 k = Int32.ofNat p ∧ mh_i h' 60 k = 0 ∧ mh_i h' 65 k = 0 ∧ mh_i h' 66 k = 0 ∧ mh_r h' 61 k ≠ none ∧ pv h' 62 k s ∧ pv h' 63 k s ∧ pv h' 64 k s ∧ nul h' ∧ ∀ Q, mcall (d + 3) 5 [.ref 53, .int (Int32.ofNat p)] h Q = Q none h' := by
  obtain ⟨St, nb, nm, na, nx, q1, q2, q3, -⟩ := H.s p hp
  obtain ⟨h1, x1, B1, er1, a1, a2, a3, run⟩ := ob_0 (d := d) B H hp hk k9 q1 q2 q3
  have gS1 := zS_g x1 q2
  have w := st_ne B q2
  have s1 : mh_i h1 St 0 = Int32.ofNat 6 := by rw [x1.ii St 9 0 q2 (by omega) (by omega) w.1 (fun z => w.2 (by unfold obU at z; unfold aI; omega)), q3, kd]
  obtain ⟨h2, x2, B2, n61, run2⟩ := ob_1 (d := d) (p := p) B1 hk gS1 s1 (by omega) (Or.inr rfl)
  have gS2 := zS_g x2 gS1
  have w2 := st_ne B1 gS1
  have s2 : mh_i h2 St 0 = Int32.ofNat 6 := by rw [x2.ii St 9 0 gS1 (by omega) (by omega) w2.1 (fun z => z)]; exact s1
  have N2 : nul h2 := fun i hi => by
    have z := x2.pz
    have n := x2.pn
    rw [er1] at z n
    rcases N i hi with ⟨n1, n2, n3⟩ | ⟨n1, n2, n3⟩
    · exact Or.inl ⟨z 62 i (by unfold isPl; omega) (by omega) n1, z 63 i (by unfold isPl; omega) (by omega) n2, z 64 i (by unfold isPl; omega) (by omega) n3⟩
    · exact Or.inr ⟨n 62 i (by unfold isPl; omega) (by omega) n1, n 63 i (by unfold isPl; omega) (by omega) n2, n 64 i (by unfold isPl; omega) (by omega) n3⟩
  obtain ⟨h3, x3, B3, N3, run3⟩ := ob_2 (d := d) (p := p) B2 N2 hk gS2 s2
  have kn3 := x3.pp 53 6 s (by unfold isPl; omega) (by omega) (x2.pp 53 6 s (by unfold isPl; omega) (by omega) (x1.pp 53 6 s (by unfold isPl; omega) (fun z => z) kn))
  obtain ⟨h4, x4, B4, k1, k2, k3, i5, i6, run4⟩ := ob_3 (d := d) (p := p) (x2 := some (.ref St)) B3 hk kn3 N3
  have x24 : zS (obV k) (fun b j => (b = 65 ∨ b = 66) ∧ j = k) h1 h4 := zS_t (zS_w x2 (fun b j z => by unfold obV; omega) (fun _ _ z => z.elim)) (zS_t (zS_w x3 (fun b j z => by unfold obV; omega) (fun _ _ z => z.elim)) (zS_w x4 (fun b j z => by unfold obV; omega) (fun _ _ z => z)))
  have F1 := B1.F
  refine ⟨h4, zS_t (zS_w x1 (fun _ _ z => z.elim) (fun _ _ z => z)) (zS_w x24 (fun _ _ z => z) (fun b j z => by unfold obU; omega)), B4, ?_, ?_, ?_, i5, i6, ?_, k1, k2, k3, fun i hi => ?_, fun Q => ?_⟩
  · rw [x24.ii 53 0 9 (F1.g 53 0 17 (by decide +kernel)) (by omega) (by omega) (by unfold eff; omega) (by omega)]; exact a1
  · rw [x24.ii 59 100 k (F1.g 59 100 250 (by decide +kernel)) (by omega) (by omega) (by unfold eff; omega) (by omega)]; exact a2
  · rw [x24.ii 60 100 k (F1.g 60 100 250 (by decide +kernel)) (by omega) (by omega) (by unfold eff; omega) (by omega)]; exact a3
  · exact x4.pn 61 k (by unfold isPl; omega) (by omega) (x3.pn 61 k (by unfold isPl; omega) (by omega) n61)
  · by_cases c : i = k
    · subst c
      exact Or.inr ⟨x4.pn 62 i (by unfold isPl; omega) (by omega) N3.1, x4.pn 63 i (by unfold isPl; omega) (by omega) N3.2.1, x4.pn 64 i (by unfold isPl; omega) (by omega) N3.2.2⟩
    · rcases N2 i hi with ⟨n1, n2, n3⟩ | ⟨n1, n2, n3⟩
      · exact Or.inl ⟨x4.pz 62 i (by unfold isPl; omega) (by omega) (x3.pz 62 i (by unfold isPl; omega) (by omega) n1), x4.pz 63 i (by unfold isPl; omega) (by omega) (x3.pz 63 i (by unfold isPl; omega) (by omega) n2), x4.pz 64 i (by unfold isPl; omega) (by omega) (x3.pz 64 i (by unfold isPl; omega) (by omega) n3)⟩
      · exact Or.inr ⟨x4.pn 62 i (by unfold isPl; omega) (by omega) (x3.pn 62 i (by unfold isPl; omega) (by omega) n1), x4.pn 63 i (by unfold isPl; omega) (by omega) (x3.pn 63 i (by unfold isPl; omega) (by omega) n2), x4.pn 64 i (by unfold isPl; omega) (by omega) (x3.pn 64 i (by unfold isPl; omega) (by omega) n3)⟩
  · rw [run Q, run2 Q, run3 Q, run4 Q]
end OCs
