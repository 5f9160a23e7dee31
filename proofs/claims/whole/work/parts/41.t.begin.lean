set_option maxRecDepth 100000
/-! Analysis.analyse, whole -/
def A00 : ab := ab_mk 0 0 (fun _ _ => 0) (fun _ => 0) (fun _ => 0) (fun _ => 0)
theorem A00_T : ab_T A00 := ⟨Nat.zero_le _, Nat.zero_le _, ⟨⟨fun i hi => absurd hi (by show ¬ i < 2 * 0; omega), fun i j hi => absurd hi (by show ¬ i < 2 * 0; omega)⟩, fun k hk => absurd hk (by show ¬ k < 2 * 0; omega), fun i hi => absurd hi (by show ¬ i < 2 * 0; omega), fun i j hi => absurd hi (by show ¬ i < 2 * 0; omega)⟩, fun i j hi => absurd hi (by show ¬ i < 2 * 0; omega), fun x hx => absurd hx (by show ¬ x < 0; omega)⟩
section AWs
variable {d : Nat} {h : mh_H} {Y C E TT UU SC SP nC nE nS : Nat} {G : pgm} {cnt : Nat} {I : mh_H → Prop}
theorem nw_i {j : Nat} : mh_i (nw h) (mh_n h) j = 0 := by
  unfold nw nwS
  simp only [hi_sr, hi_new, hn_sr, hn_new, Nat.left_eq_add, Nat.add_eq_left, Nat.reduceEqDiff, Nat.add_assoc, if_true, if_false, Nat.succ_ne_self]
theorem nw_RS {b j : Nat} (n : nwP h (mh_sr (nw h) b j (some (mh_n h))) b j) : RS (mh_sr (nw h) b j (some (mh_n h))) (mh_n h) (some A00) := by
  have i0 : ∀ k, mh_i (mh_sr (nw h) b j (some (mh_n h))) (mh_n h) k = 0 := fun k => by rw [hi_sr]; exact nw_i
  exact ⟨⟨n.sn, i0 0, by rw [i0]; rfl, by show 0 ≤ 12; omega, by rw [i0]; rfl, by show 0 ≤ 6; omega, fun i j hi => absurd hi (by show ¬ i < 2 * 0; omega), fun x hx => absurd hx (by show ¬ x < 0; omega)⟩, i0 5⟩
/-- where States are missing they are made -/
theorem an_k : ∀ m q (h : mh_H), q + m = cnt → BS h Y C E TT UU SC SP nC nE nS → PH h G cnt → (∀ i, i < 250 → mh_r h 54 i = none ∨ ∃ v, pv h 54 i v) → ∃ h', zS (fun b _ => b = 54) (fun _ _ => False) h h' ∧ BS h' Y C E TT UU SC SP nC nE nS ∧ (∀ i v, pv h 54 i v → pv h' 54 i v) ∧ (∀ i, i < 250 → mh_r h' 54 i = none ∨ ∃ v, pv h' 54 i v) ∧ (∀ i, q ≤ i → i < cnt → ∃ v, pv h' 54 i v) ∧ ∀ Q, mw (d + 7) 1 Q 29 [some (.ref 53), some (.int (Int32.ofNat q)), none, none] [] h = mw (d + 7) 1 Q 68 [some (.ref 53), some (.int (Int32.ofNat cnt)), none, none] [] h' := by
  intro m
  induction m with
  | zero =>
    intro q h hq B H kn
    have e0 : q = cnt := by omega
    subst e0
    refine ⟨h, zS_id, B, fun _ _ z => z, kn, fun i i1 i2 => by omega, fun Q => ?_⟩
    have cb := H.b
    have F := B.F
    have g53 := F.g 53 0 17 (by decide +kernel)
    have g2 := F.g 2 4 20 (by decide +kernel)
    have t4 := F.f 53 4 2 (by decide +kernel)
    have c := H.c
    have le : (q ≤ q) = True := eq_true (Nat.le_refl _)
    clear B F H kn
    simp (disch := omega) only [s_1_0, s_1_1, s_1_2, s_1_5, s_1_6, s_1_7, s_1_10, s_1_11, s_1_12, s_1_15, s_1_16, s_1_17, s_1_20, s_1_21, s_1_24, s_1_27, s_1_28, s_1_29, s_1_30, s_1_31, s_1_34, s_1_37, s_1_40, s_1_41, s_1_44, s_1_45, s_1_46n, s_1_46, s_1_49, s_1_50, s_1_53, s_1_54, s_1_57, s_1_58, s_1_61, s_1_61n, s_1_61x, s_1_62, s_1_65, s_1_69, s_1_72, s_1_75, s_1_76, s_1_77, s_1_78, s_1_79, s_1_80, s_1_81, s_1_83, s_1_86, s_1_87, s_1_90, s_1_93, s_1_94, s_1_97, s_1_100, s_1_101, s_1_104, s_1_105, s_1_108, s_1_109, s_1_112, s_1_115, s_1_116, s_1_119, s_1_120, s_1_121, s_1_124, s_1_125, s_1_128, s_1_129, s_1_130, s_1_130x, s_1_131, s_1_134, s_1_135, s_1_136, s_1_139, s_1_140, s_1_143, s_1_144, s_1_147, s_1_150, s_1_151, s_1_154, s_1_157, s_1_160, s_1_161, s_1_162, s_1_165, s_1_168, s_1_169, s_1_172, s_1_175, s_1_178, s_1_179, s_1_182, s_1_183, s_1_184, s_1_187, s_1_188, s_1_191, s_1_192, s_1_193, s_1_194, s_1_197, s_1_200, s_1_201, s_1_204, s_1_205, s_1_206, s_1_207, s_1_208, s_1_211, s_1_214, s_1_215, s_1_216, s_1_219, s_1_220, s_1_223, s_1_224, s_1_227, s_1_228, s_1_229, s_1_232, s_1_233, s_1_234, s_1_237, s_1_240, s_1_243, e_1, mv_i_1, mv_l_1, mv_a_1, mv_a_2, mv_a_3, mk2_n, mk2_i, mk2_l, mk2_a, mk2_u, mk2_x, mB_T, mB_F, mS_cons, mS_nil, mSB_T, mSB_F, mca_nil, mca_i, mca_l, mca_r, mca_u, mca_x, mcat_i, mcat_l, mcat_r, mcat_u, mcat_x, mK_some, mK_none, va_rf_s, va_rf_n, lgc_eq, lgc_lt, lgc_gt, lgc_ge, lgc_le, mrd_104, mrd_105, mrd_106, mrd_107, true_and, and_true, and_self, false_and, and_false, true_or, or_true, false_or, or_false, not_true_eq_false, not_false_eq_true, mgb, mga, mgr, mN, reduceCtorEq, ↓reduceIte, eq_self, ge_iff_le, gt_iff_lt, hk_si, hk_sj, hk_sr, hl_si, hl_sj, hl_sr, hn_si, hn_sj, hn_sr, hs_si, hs_sj, hs_sr, hi_sj, hi_sr, hj_si, hj_sr, hr_si, hr_sj, hi_si, hj_sj, hr_sr, mg_si, mg_sj, mg_sr, Nat.reduceAdd, Nat.reduceMul, Nat.reduceSub, Nat.reduceLT, Nat.reduceGT, Nat.reduceEqDiff, Nat.reduceLeDiff, Nat.left_eq_add, Nat.add_eq_left, Nat.reduceMod, Nat.reduceDiv, Nat.succ_ne_self, g53, t4, g2, c, nn_le, le]
  | succ m ih =>
    intro q h hq B H kn
    have cb := H.b
    have F := B.F
    have g53 := F.g 53 0 17 (by decide +kernel)
    have g2 := F.g 2 4 20 (by decide +kernel)
    have t4 := F.f 53 4 2 (by decide +kernel)
    have t0 := F.f 53 0 54 (by decide +kernel)
    have g54 := (F.g 54 104 250 (by decide +kernel)).1
    have g54' := (F.g 54 104 250 (by decide +kernel)).2
    have l54 := F.l 54 104 250 (by decide +kernel)
    have c := H.c
    have le : (cnt ≤ q) = False := eq_false (by omega)
    have ei : Int32.ofNat q + 1 = Int32.ofNat (q + 1) := nn_add (a := q) (b := 1)
    rcases kn q (by omega) with hn | ⟨v, hv⟩
    · obtain ⟨x, B', r'⟩ := pl_new B (b := 54) (by omega) (by omega : q < 250) hn
      have P := nw_P (h := h) (b := 54) (j := q) (by omega) B.N
      have hv' : pv (mh_sr (nw h) 54 q (some (mh_n h))) 54 q (some A00) := ⟨mh_n h, r', nw_RS P⟩
      have old : ∀ i v, pv h 54 i v → pv (mh_sr (nw h) 54 q (some (mh_n h))) 54 i v := fun i v z => x.pp 54 i v (by unfold isPl; omega) (fun y => by
        obtain ⟨o, eo, -⟩ := z
        rw [y.2, hn] at eo
        cases eo) z
      obtain ⟨h2, x2, B2, o2, kn2, all, run⟩ := ih (q + 1) _ (by omega) B' (PH_s B x (fun _ _ z => z.elim) H) (fun i hi => by
        by_cases c : i = q
        · rw [c]; exact Or.inr ⟨_, hv'⟩
        · rcases kn i hi with z | ⟨v, z⟩
          · exact Or.inl (x.pz 54 i (by unfold isPl; omega) (fun y => c y.2) z)
          · exact Or.inr ⟨v, old i v z⟩)
      refine ⟨h2, zS_t (zS_w x (fun b j z => z.1) (fun _ _ z => z)) x2, B2, fun i v z => o2 i v (old i v z), kn2, fun i i1 i2 => ?_, fun Q => ?_⟩
      · by_cases c : i = q
        · rw [c]; exact ⟨_, o2 q _ hv'⟩
        · exact all i (by omega) i2
      · have z := nw_z (h := h)
        have gn : mg (mh_new h 8 6) (mh_n h) 8 := ⟨by rw [hk_new, if_pos rfl], by rw [hn_new]; omega⟩
        have c9 := fun Q => c_139 (d := d + 6) (Q := Q) gn
        have nwe : nwS (mh_n h) (mh_new h 8 6) = nw h := rfl
        have gaS : mg (nw h) (mh_n h) 8 := nw_so.1
        have k54 : mh_k (nw h) 54 = 104 := (fz_mg z ⟨g54, g54'⟩).1
        have n54 : 54 < mh_n (nw h) := (fz_mg z ⟨g54, g54'⟩).2
        have la : mh_l (nw h) 54 = 250 := by rw [fz_l z ⟨g54, g54'⟩]; exact l54
        have ac : me_ac 104 = 8 := by decide
        clear B F H kn x B' P hv' old x2 B2 o2 kn2 all ih z
        refine s_1_29.trans ?_
        simp (disch := omega) only [s_1_0, s_1_1, s_1_2, s_1_5, s_1_6, s_1_7, s_1_10, s_1_11, s_1_12, s_1_15, s_1_16, s_1_17, s_1_20, s_1_21, s_1_24, s_1_27, s_1_28, s_1_30, s_1_31, s_1_34, s_1_37, s_1_40, s_1_41, s_1_44, s_1_45, s_1_46n, s_1_46, s_1_49, s_1_50, s_1_53, s_1_54, s_1_57, s_1_58, s_1_61, s_1_61n, s_1_61x, s_1_62, s_1_65, s_1_69, s_1_72, s_1_75, s_1_76, s_1_77, s_1_78, s_1_79, s_1_80, s_1_81, s_1_83, s_1_86, s_1_87, s_1_90, s_1_93, s_1_94, s_1_97, s_1_100, s_1_101, s_1_104, s_1_105, s_1_108, s_1_109, s_1_112, s_1_115, s_1_116, s_1_119, s_1_120, s_1_121, s_1_124, s_1_125, s_1_128, s_1_129, s_1_130, s_1_130x, s_1_131, s_1_134, s_1_135, s_1_136, s_1_139, s_1_140, s_1_143, s_1_144, s_1_147, s_1_150, s_1_151, s_1_154, s_1_157, s_1_160, s_1_161, s_1_162, s_1_165, s_1_168, s_1_169, s_1_172, s_1_175, s_1_178, s_1_179, s_1_182, s_1_183, s_1_184, s_1_187, s_1_188, s_1_191, s_1_192, s_1_193, s_1_194, s_1_197, s_1_200, s_1_201, s_1_204, s_1_205, s_1_206, s_1_207, s_1_208, s_1_211, s_1_214, s_1_215, s_1_216, s_1_219, s_1_220, s_1_223, s_1_224, s_1_227, s_1_228, s_1_229, s_1_232, s_1_233, s_1_234, s_1_237, s_1_240, s_1_243, e_1, mv_i_1, mv_l_1, mv_a_1, mv_a_2, mv_a_3, mk2_n, mk2_i, mk2_l, mk2_a, mk2_u, mk2_x, mB_T, mB_F, mS_cons, mS_nil, mSB_T, mSB_F, mca_nil, mca_i, mca_l, mca_r, mca_u, mca_x, mcat_i, mcat_l, mcat_r, mcat_u, mcat_x, mK_some, mK_none, va_rf_s, va_rf_n, lgc_eq, lgc_lt, lgc_gt, lgc_ge, lgc_le, mrd_104, mrd_105, mrd_106, mrd_107, true_and, and_true, and_self, false_and, and_false, true_or, or_true, false_or, or_false, not_true_eq_false, not_false_eq_true, mgb, mga, mgr, mN, reduceCtorEq, ↓reduceIte, eq_self, ge_iff_le, gt_iff_lt, hk_si, hk_sj, hk_sr, hl_si, hl_sj, hl_sr, hn_si, hn_sj, hn_sr, hs_si, hs_sj, hs_sr, hi_sj, hi_sr, hj_si, hj_sr, hr_si, hr_sj, hi_si, hj_sj, hr_sr, mg_si, mg_sj, mg_sr, Nat.reduceAdd, Nat.reduceMul, Nat.reduceSub, Nat.reduceLT, Nat.reduceGT, Nat.reduceEqDiff, Nat.reduceLeDiff, Nat.left_eq_add, Nat.add_eq_left, Nat.reduceMod, Nat.reduceDiv, Nat.succ_ne_self, g53, t4, g2, c, nn_le, le, t0, g54, g54', l54, hn, gn, c9, nwe, gaS, k54, n54, la, ac, nn_mxT, nn_clamp, ei, run]
    · obtain ⟨h2, x2, B2, o2, kn2, all, run⟩ := ih (q + 1) h (by omega) B H kn
      refine ⟨h2, x2, B2, o2, kn2, fun i i1 i2 => ?_, fun Q => ?_⟩
      · by_cases c : i = q
        · rw [c]; exact ⟨v, o2 q v hv⟩
        · exact all i (by omega) i2
      · obtain ⟨o, e, -⟩ := id hv
        have gO := (cs_so B.S ⟨54, q, by unfold isPl; omega, e⟩).1.1
        clear B F H kn hv x2 B2 o2 kn2 all ih
        refine s_1_29.trans ?_
        simp (disch := omega) only [s_1_0, s_1_1, s_1_2, s_1_5, s_1_6, s_1_7, s_1_10, s_1_11, s_1_12, s_1_15, s_1_16, s_1_17, s_1_20, s_1_21, s_1_24, s_1_27, s_1_28, s_1_30, s_1_31, s_1_34, s_1_37, s_1_40, s_1_41, s_1_44, s_1_45, s_1_46n, s_1_46, s_1_49, s_1_50, s_1_53, s_1_54, s_1_57, s_1_58, s_1_61, s_1_61n, s_1_61x, s_1_62, s_1_65, s_1_69, s_1_72, s_1_75, s_1_76, s_1_77, s_1_78, s_1_79, s_1_80, s_1_81, s_1_83, s_1_86, s_1_87, s_1_90, s_1_93, s_1_94, s_1_97, s_1_100, s_1_101, s_1_104, s_1_105, s_1_108, s_1_109, s_1_112, s_1_115, s_1_116, s_1_119, s_1_120, s_1_121, s_1_124, s_1_125, s_1_128, s_1_129, s_1_130, s_1_130x, s_1_131, s_1_134, s_1_135, s_1_136, s_1_139, s_1_140, s_1_143, s_1_144, s_1_147, s_1_150, s_1_151, s_1_154, s_1_157, s_1_160, s_1_161, s_1_162, s_1_165, s_1_168, s_1_169, s_1_172, s_1_175, s_1_178, s_1_179, s_1_182, s_1_183, s_1_184, s_1_187, s_1_188, s_1_191, s_1_192, s_1_193, s_1_194, s_1_197, s_1_200, s_1_201, s_1_204, s_1_205, s_1_206, s_1_207, s_1_208, s_1_211, s_1_214, s_1_215, s_1_216, s_1_219, s_1_220, s_1_223, s_1_224, s_1_227, s_1_228, s_1_229, s_1_232, s_1_233, s_1_234, s_1_237, s_1_240, s_1_243, e_1, mv_i_1, mv_l_1, mv_a_1, mv_a_2, mv_a_3, mk2_n, mk2_i, mk2_l, mk2_a, mk2_u, mk2_x, mB_T, mB_F, mS_cons, mS_nil, mSB_T, mSB_F, mca_nil, mca_i, mca_l, mca_r, mca_u, mca_x, mcat_i, mcat_l, mcat_r, mcat_u, mcat_x, mK_some, mK_none, va_rf_s, va_rf_n, lgc_eq, lgc_lt, lgc_gt, lgc_ge, lgc_le, mrd_104, mrd_105, mrd_106, mrd_107, true_and, and_true, and_self, false_and, and_false, true_or, or_true, false_or, or_false, not_true_eq_false, not_false_eq_true, mgb, mga, mgr, mN, reduceCtorEq, ↓reduceIte, eq_self, ge_iff_le, gt_iff_lt, hk_si, hk_sj, hk_sr, hl_si, hl_sj, hl_sr, hn_si, hn_sj, hn_sr, hs_si, hs_sj, hs_sr, hi_sj, hi_sr, hj_si, hj_sr, hr_si, hr_sj, hi_si, hj_sj, hr_sr, mg_si, mg_sj, mg_sr, Nat.reduceAdd, Nat.reduceMul, Nat.reduceSub, Nat.reduceLT, Nat.reduceGT, Nat.reduceEqDiff, Nat.reduceLeDiff, Nat.left_eq_add, Nat.add_eq_left, Nat.reduceMod, Nat.reduceDiv, Nat.succ_ne_self, g53, t4, g2, c, nn_le, le, t0, g54, g54', l54, e, gO, nn_mxT, nn_clamp, ei, run]
/-- its beginning -/
theorem an_0 (hI : hIp Y C E TT UU SC SP nC nE nS I) (B : BS h Y C E TT UU SC SP nC nE nS) (H : PH h G cnt) (i0 : I h) (nu : nul h) (n6 : mh_r h 53 6 ≠ none) (kn : ∀ i, i < 250 → mh_r h 54 i = none ∨ ∃ v, pv h 54 i v) : ∃ h' K, zS (fun b j => (b = 53 ∧ j = 6) ∨ b = 54) (fun b j => b = 53) h h' ∧ AN h' Y C E TT UU SC SP nC nE nS G cnt I 0 0 (some A00) (K, mh_i h' 55, 0) ∧ (∀ i, i < 250 → mh_r h' 54 i = none ∨ ∃ v, pv h' 54 i v) ∧ ∀ Q, mcall (d + 7) 1 [.ref 53] h Q = mw (d + 7) 1 Q 80 [some (.ref 53), some (.int (Int32.ofNat (cnt - 1))), some (.int (Int32.ofNat 0)), none] [] h' := by
  have cb := H.b
  have P6 : isPl 53 6 := by unfold isPl; omega
  obtain ⟨o, e6⟩ : ∃ o, mh_r h 53 6 = some o := by
    cases hc : mh_r h 53 6 with
    | none => exact absurd hc n6
    | some o => exact ⟨o, rfl⟩
  obtain ⟨x1, B1⟩ := zS_i (k := 2) (v := 0) B (b := 53) (by omega)
  obtain ⟨x2, B2⟩ := zS_i (k := 3) (v := 0) B1 (b := 53) (by omega)
  obtain ⟨x3, B3⟩ := zS_i (k := 7) (v := 0) B2 (b := 53) (by omega)
  obtain ⟨x4, B4⟩ := zS_i (k := 9) (v := 0) B3 (b := 53) (by omega)
  have x14 : zS (fun _ _ => False) (fun b j => b = 53) h (mh_si (mh_si (mh_si (mh_si h 53 2 0) 53 3 0) 53 7 0) 53 9 0) := zS_t (zS_w x1 (fun _ _ z => z) (fun b j z => z.1)) (zS_t (zS_w x2 (fun _ _ z => z) (fun b j z => z.1)) (zS_t (zS_w x3 (fun _ _ z => z) (fun b j z => z.1)) (zS_w x4 (fun _ _ z => z) (fun b j z => z.1))))
  have so4 := (cs_so B4.S ⟨53, 6, P6, e6⟩).1
  obtain ⟨h5, f5, k5, c5⟩ := l_143 (d := d + 6) (A := A00) 52 so4 rfl rfl
  obtain ⟨x5, B5⟩ := zS_q B4 P6 e6 f5
  have kn5 : ∀ i, i < 250 → mh_r h5 54 i = none ∨ ∃ v, pv h5 54 i v := fun i hi => by
    have P : isPl 54 i := by unfold isPl; omega
    rcases kn i hi with z | ⟨v, z⟩
    · exact Or.inl (x5.pz 54 i P (by omega) (x14.pz 54 i P (fun y => y) z))
    · exact Or.inr ⟨v, x5.pp 54 i v P (by omega) (x14.pp 54 i v P (fun y => y) z)⟩
  have x15 : zS (fun b j => b = 53 ∧ j = 6) (fun b j => b = 53) h h5 := zS_t (zS_w x14 (fun _ _ z => z.elim) (fun _ _ z => z)) (zS_w x5 (fun _ _ z => z) (fun _ _ z => z.elim))
  have H5 := PH_s B x15 (fun b j u => by unfold aI; omega) H
  obtain ⟨h6, x6, B6, o6, kn6, all, run6⟩ := an_k (d := d) cnt 0 h5 (by omega) B5 H5 kn5
  have x16 : zS (fun b j => (b = 53 ∧ j = 6) ∨ b = 54) (fun b j => b = 53) h h6 := zS_t (zS_w x15 (fun b j z => Or.inl z) (fun _ _ z => z)) (zS_w x6 (fun b j z => Or.inr z) (fun _ _ z => z.elim))
  have H6 := PH_s B5 x6 (fun _ _ z => z.elim) H5
  have g535 := B5.F.g 53 0 17 (by decide +kernel)
  have g534 := B4.F.g 53 0 17 (by decide +kernel)
  have i6 : ∀ j, mh_i h6 53 j = mh_i (mh_si (mh_si (mh_si (mh_si h 53 2 0) 53 3 0) 53 7 0) 53 9 0) 53 j := fun j => by rw [x6.ii 53 0 j g535 (by decide) (by decide) (by unfold eff; omega) (fun z => z), x5.ii 53 0 j g534 (by decide) (by decide) (by unfold eff; omega) (fun z => z)]
  have k6 : pv h5 53 6 (some A00) := ⟨o, by rw [f5.2.2.1]; exact e6, k5⟩
  refine ⟨h6, fun q => if c : q < cnt then (all q (Nat.zero_le _) c).choose else none, x16, AN.of ⟨B6, H6, hI h h6 _ _ B x16 (fun b j u => by unfold aI; omega) i0, x6.pp _ _ _ P6 (by omega) k6, ?_, ?_, ?_, ?_, Nat.zero_le _, Nat.zero_le _, cb.1, fun q hq => ?_, fun q hq => rfl, nul_s x16 (fun b j hb z => by omega) nu, fun i hi _ => kn6 i hi⟩, kn6, fun Q => ?_⟩
  · rw [i6, hi_si, if_neg (by omega), hi_si, if_pos ⟨rfl, rfl⟩]; rfl
  · rw [i6, hi_si, if_pos ⟨rfl, rfl⟩]; rfl
  · rw [i6, hi_si, if_neg (by omega), hi_si, if_neg (by omega), hi_si, if_neg (by omega), hi_si, if_pos ⟨rfl, rfl⟩]; rfl
  · rw [i6, hi_si, if_neg (by omega), hi_si, if_neg (by omega), hi_si, if_pos ⟨rfl, rfl⟩]
  · show pv h6 54 q (if c : q < cnt then (all q (Nat.zero_le _) c).choose else none)
    rw [dif_pos hq]
    exact (all q (Nat.zero_le _) hq).choose_spec
  · have F := B.F
    have g53 := F.g 53 0 17 (by decide +kernel)
    have gO := (cs_so B.S ⟨53, 6, P6, e6⟩).1.1
    have g536 := B6.F.g 53 0 17 (by decide +kernel)
    have g26 := B6.F.g 2 4 20 (by decide +kernel)
    have t46 := B6.F.f 53 4 2 (by decide +kernel)
    have c6 := H6.c
    have es : Int32.ofNat cnt - 1 = Int32.ofNat (cnt - 1) := nn_sub (a := cnt) (b := 1) (by omega)
    have z0 : (0 : Int32) = Int32.ofNat 0 := rfl
    rw [← z0] at run6 ⊢
    clear B F H x1 x2 x3 x4 x14 x5 x15 x6 x16 B1 B2 B3 B4 B5 B6 kn kn5 kn6 H5 H6 o6 all k5 k6 i6 f5 so4 nu i0 hI
    simp (disch := omega) only [s_1_0, s_1_1, s_1_2, s_1_5, s_1_6, s_1_7, s_1_10, s_1_11, s_1_12, s_1_15, s_1_16, s_1_17, s_1_20, s_1_21, s_1_24, s_1_27, s_1_28, s_1_30, s_1_31, s_1_34, s_1_37, s_1_40, s_1_41, s_1_44, s_1_45, s_1_46n, s_1_46, s_1_49, s_1_50, s_1_53, s_1_54, s_1_57, s_1_58, s_1_61, s_1_61n, s_1_61x, s_1_62, s_1_65, s_1_68, s_1_69, s_1_72, s_1_75, s_1_76, s_1_77, s_1_78, s_1_79, s_1_81, s_1_83, s_1_86, s_1_87, s_1_90, s_1_93, s_1_94, s_1_97, s_1_100, s_1_101, s_1_104, s_1_105, s_1_108, s_1_109, s_1_112, s_1_115, s_1_116, s_1_119, s_1_120, s_1_121, s_1_124, s_1_125, s_1_128, s_1_129, s_1_130, s_1_130x, s_1_131, s_1_134, s_1_135, s_1_136, s_1_139, s_1_140, s_1_143, s_1_144, s_1_147, s_1_150, s_1_151, s_1_154, s_1_157, s_1_160, s_1_161, s_1_162, s_1_165, s_1_168, s_1_169, s_1_172, s_1_175, s_1_178, s_1_179, s_1_182, s_1_183, s_1_184, s_1_187, s_1_188, s_1_191, s_1_192, s_1_193, s_1_194, s_1_197, s_1_200, s_1_201, s_1_204, s_1_205, s_1_206, s_1_207, s_1_208, s_1_211, s_1_214, s_1_215, s_1_216, s_1_219, s_1_220, s_1_223, s_1_224, s_1_227, s_1_228, s_1_229, s_1_232, s_1_233, s_1_234, s_1_237, s_1_240, s_1_243, e_1, mv_i_1, mv_l_1, mv_a_1, mv_a_2, mv_a_3, mk2_n, mk2_i, mk2_l, mk2_a, mk2_u, mk2_x, mB_T, mB_F, mS_cons, mS_nil, mSB_T, mSB_F, mca_nil, mca_i, mca_l, mca_r, mca_u, mca_x, mcat_i, mcat_l, mcat_r, mcat_u, mcat_x, mK_some, mK_none, va_rf_s, va_rf_n, lgc_eq, lgc_lt, lgc_gt, lgc_ge, lgc_le, mrd_104, mrd_105, mrd_106, mrd_107, true_and, and_true, and_self, false_and, and_false, true_or, or_true, false_or, or_false, not_true_eq_false, not_false_eq_true, mgb, mga, mgr, mN, reduceCtorEq, ↓reduceIte, eq_self, ge_iff_le, gt_iff_lt, hk_si, hk_sj, hk_sr, hl_si, hl_sj, hl_sr, hn_si, hn_sj, hn_sr, hs_si, hs_sj, hs_sr, hi_sj, hi_sr, hj_si, hj_sr, hr_si, hr_sj, hi_si, hj_sj, hr_sr, mg_si, mg_sj, mg_sr, Nat.reduceAdd, Nat.reduceMul, Nat.reduceSub, Nat.reduceLT, Nat.reduceGT, Nat.reduceEqDiff, Nat.reduceLeDiff, Nat.left_eq_add, Nat.add_eq_left, Nat.reduceMod, Nat.reduceDiv, Nat.succ_ne_self, g53, e6, gO, c5, run6, g536, t46, g26, c6, es]
end AWs
