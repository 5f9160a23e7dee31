set_option maxRecDepth 100000
/-! end, on both sides: what it leaves -/
section ENs
variable {R R' : Nat → Prop} {k d : Nat} {h h1 h2 : mh_H} {fd : Nat × (Nat → Int32)} {td : Bool × Int32 × Int32 × Int32} {g g' : pgz} {cl : Nat → Option ab} {ip : Nat × (Nat → Int32)} {rz : rnz} {T : List Int32} {n : Nat} {t8 t9 w : Int32} {sp : Nat → Nat → Bool} {NL : List Nat} {Pt : Nat → lpt} {E0 : nv}
theorem END_i (I : INV R k h fd td g cl ip rz T) (hn : n ≤ fd.1) (D1 : SDs R h1) (sk : sdK R h h1) (D2 : SDs R' h2) (sk2 : sdK (fun b => ¬ R b ∧ b < mh_n h1) h1 h2) (ce : CEd h h1 n) (re : REd h1 h2) (U' : PUR g') (P1 : ∃ Y C E TT UU SC SP nC nE nS pa, CPg h1 Y C E TT UU SC SP nC nE nS pa g'.G g'.J g'.J2 g'.c g'.fs g'.ot g'.pl) (k1 : ∀ q, q < g'.c → pv h1 54 q (g'.kn q)) (c1 : ∀ q, q < g'.c → pv h1 73 q (g'.kn q)) (a1 : ∀ q, q < g'.c → mh_i h1 55 q = g'.al q) (m1 : mh_i h1 53 3 = kb g'.m) (t1 : mh_i h1 0 8 = t8 ∧ mh_i h1 0 9 = t9 ∧ mh_i h1 53 2 = w) (N1 : CNm h1 g') (P2 : ∃ ap, RPg h2 g'.G g'.J g'.J2 ap g'.c g'.kn g'.kn g'.fs g'.ot g'.al g'.m g'.nm g'.am g'.pl) (t2 : (mh_i h2 81 49 = -1) = False ∧ mh_i h2 81 47 = t8 ∧ mh_i h2 81 48 = t9 ∧ (if mh_i h2 81 49 = 0 then mh_i h2 115 8 else 0) = w) : INV R' (k + 1) h2 (0, fd.2) (true, t8, t9, w) g' g'.kn ip (0, 0, 0, rz.o, rz.V, rz.P) T := by
  have IR1 := IRf_x I.S sk I.R
  obtain ⟨ap0, Pr0⟩ := I.R.P
  obtain ⟨z1, z7, z10, z11, z3, z4, z5⟩ := ce.z
  obtain ⟨y2, y64, y65, y66⟩ := re.z
  obtain ⟨s0, l, L⟩ := I.C.l
  obtain ⟨u1, u2⟩ := U'.o
  have L1 : LNa h1 T s0 l := LNa.of ⟨by rw [ce.r]; exact L.r, ⟨(ce.k.2 s0 L.g.2).1.trans L.g.1, Nat.lt_of_lt_of_le L.g.2 ce.k.1⟩, (ce.k.2 s0 L.g.2).2.trans L.l, L.b, L.s, L.n, (ce.i 0 14 (by omega)).trans L.e, fun i v e => by rw [ce.l s0 i L.g]; exact L.t i v e⟩
  have IC1 : ICl h1 (0, fd.2) (true, t8, t9, w) g' g'.kn ip (0, 0, 0, rz.o, rz.V, rz.P) T := by
    refine ICl.of ⟨P1, k1, c1, ⟨z1, fun i hi => absurd hi (Nat.not_lt_zero _)⟩, ⟨z7, t1.1, t1.2.1, t1.2.2⟩, m1, a1, ⟨false, false, z10, z11, fun z => (by cases z), fun _ _ _ => rfl⟩, ⟨(ce.i 67 2 (by omega)).trans I.C.i.1, (funext fun j => ce.i 68 j (by omega)).trans I.C.i.2⟩, ⟨z4, z5, z3, (ce.i 67 9 (by omega)).trans I.C.r.2.2.2.1, fun x hx => ?_, fun x hx => ?_⟩, ⟨s0, l, L1⟩, N1⟩
    · have hx' : x < g'.G.n 0 := hx
      rw [u1] at hx'
      exact absurd hx' (Nat.not_lt_zero _)
    · have hx' : x < g'.G.a 0 := hx
      rw [u2] at hx'
      exact absurd hx' (Nat.not_lt_zero _)
  have IR2 : IRf h2 (0, fd.2) (true, t8, t9, w) g' g'.kn ip (0, 0, 0, rz.o, rz.V, rz.P) T := IRf.of ⟨P2, ⟨y2, fun i hi => absurd hi (Nat.not_lt_zero _)⟩, ⟨fun z => (by cases z), fun _ => t2⟩, ⟨(re.i 81 60 (by omega)).trans IR1.i.1, (funext fun j => re.i 2639 j (by omega)).trans IR1.i.2⟩, ⟨y64, y65, y66, (re.i 81 54 (by omega)).trans IR1.r.2.2.2.1, (funext fun j => re.i 2640 j (by omega)).trans IR1.r.2.2.2.2.1, (funext fun j => re.i 2641 j (by omega)).trans IR1.r.2.2.2.2.2⟩, ⟨(re.i 81 57 (by omega)).trans IR1.l.1, fun i v e => by rw [re.i 2637 i (by omega)]; exact IR1.l.2 i v e⟩⟩
  have IC2 := ICl_x D1 sk2 IC1
  obtain ⟨Y, C, E, TT, UU, SC, SP, nC, nE, nS, pa, P⟩ := P1
  have lnE : ln h1 0 13 = ln h 0 13 := by
    unfold ln
    rw [ce.r, L.r]
    exact (ce.k.2 s0 L.g.2).2
  have cn := ce.N
  have cs' := ce.S
  have hF := I.F
  refine INV.of ⟨D2, IC2, IR2, PUW.of ⟨U', U'.k, fun q hq => o_le_r, ⟨Nat.zero_le _, fun i hi => absurd hi (Nat.not_lt_zero _)⟩, I.w.i, ⟨U'.c.1, fun x y hx => ?_⟩⟩, RM_2 (F' := 0) I.S sk Pr0.b.Y sk2 D1 P.B ⟨s0, L1.r, L1.g.2⟩ re.N re.S (by rw [lnE]; omega) (by rw [lnE]; omega) I.m, Nat.zero_le _⟩
  have hx' : x < g'.G.a 0 := hx
  rw [u2] at hx'
  exact absurd hx' (Nat.not_lt_zero _)
theorem CNm_n : CNm h (gNo sp NL Pt E0) := by
  have ge : (pgG sp NL Pt E0 0).n 0 = 0 ∧ (pgG sp NL Pt E0 0).a 0 = 0 := pg_e
  have z1 : ∀ p, p < (gNo sp NL Pt E0).c → p = 0 := fun p hp => by
    have hp' : p < 1 := hp
    omega
  refine ⟨0, 0, 0, fun _ => 0, fun _ _ => 0, fun _ _ => 0, fun p hp h0 => ?_, fun p x hp hx => ?_, fun p x hp hx => ?_⟩
  · rw [z1 p hp] at h0
    have h0' : 0 < (pgG sp NL Pt E0 0).n 0 + (pgG sp NL Pt E0 0).a 0 := h0
    rw [ge.1, ge.2] at h0'
    exact absurd h0' (Nat.lt_irrefl _)
  · rw [z1 p hp] at hx
    have hx' : x < (pgG sp NL Pt E0 0).n 0 := hx
    rw [ge.1] at hx'
    exact absurd hx' (Nat.not_lt_zero _)
  · rw [z1 p hp] at hx
    have hx' : x < (pgG sp NL Pt E0 0).a 0 := hx
    rw [ge.2] at hx'
    exact absurd hx' (Nat.not_lt_zero _)
/-- no program -/
theorem END_N {Y C E TT UU SC SP nC nE nS pa : Nat} {w0 : wd} (I : INV R k h fd td g cl ip rz T) (hn : n ≤ fd.1) (D1 : SDs R h1) (sk : sdK R h h1) (D2 : SDs R' h2) (sk2 : sdK (fun b => ¬ R b ∧ b < mh_n h1) h1 h2) (ce : CEd h h1 n) (re : REd h1 h2) (P1 : CPg h1 Y C E TT UU SC SP nC nE nS pa (pgG sp NL Pt E0 0) (pJ sp NL Pt E0) (pJ2 sp NL Pt E0) 1 (fun _ => 0) (fun _ => 0) (fun _ => 0)) (hw : wW w0 = 0) (A : CAZ h1 (pgG sp NL Pt E0 0) 0 1 w0) (t1 : mh_i h1 0 8 = t8 ∧ mh_i h1 0 9 = t9) (B2 : RBz h2) (N2 : NOP h2) (h49 : mh_i h2 81 49 = 1 ∨ mh_i h2 81 49 = 2) (t2 : mh_i h2 81 47 = t8 ∧ mh_i h2 81 48 = t9) : INV R' (k + 1) h2 (0, fd.2) (true, t8, t9, 0) (gNo sp NL Pt E0) (fun _ => some A00) ip (0, 0, 0, rz.o, rz.V, rz.P) T := by
  have d0 : DB (pgG sp NL Pt E0 0) 0 0 (1 - 1) (some A00) w0 = (some A00, w0, 0) := DB_0
  have w4 : ¬ 4000 < wW w0 := by omega
  have kf : ∀ q, q < 1 → KF (1 - 1) ((some A00, w0, 0) : rs3) q = some A00 := fun q hq => by
    have q0 : q = 0 := by omega
    subst q0
    unfold KF
    rw [if_neg w4, if_pos rfl]
    rfl
  have af : ∀ q, q < 1 → AF (1 - 1) ((some A00, w0, 0) : rs3) q = 0 := fun q hq => by
    have q0 : q = 0 := by omega
    subst q0
    unfold AF
    rw [if_neg w4, if_pos rfl]
  have Ak := A.k
  have Ac := A.c
  have Aa := A.a
  have Aw := A.w
  have Am := A.m
  rw [d0] at Ak Ac Aa Aw Am
  have w4' : ¬ 4000 < wW (((some A00, w0, 0) : rs3).2.1) := w4
  rw [if_neg w4'] at Aw
  rw [decide_eq_false w4'] at Am
  have n9 : ¬ mh_i h2 81 49 = 0 ∧ ¬ mh_i h2 81 49 = -1 ∧ ¬ mh_i h2 81 49 = 3 := by
    rcases h49 with e | e <;> (rw [e]; decide)
  have Aw' : mh_i h1 53 2 = 0 := by
    rw [Aw]
    show Int32.ofNat (wW w0) = 0
    rw [hw]
    rfl
  exact END_i (g' := gNo sp NL Pt E0) I hn D1 sk D2 sk2 ce re PUR_n ⟨Y, C, E, TT, UU, SC, SP, nC, nE, nS, pa, P1⟩ (fun q hq => by have := Ak q hq; rw [kf q hq] at this; exact this) (fun q hq => by have := Ac q hq; rw [kf q hq] at this; exact this) (fun q hq => by have := Aa q hq; rw [af q hq] at this; exact this) Am ⟨t1.1, t1.2, Aw'⟩ CNm_n ⟨fun _ _ => 0, RPg_0 B2 N2 n9.2.2⟩ ⟨eq_false n9.2.1, t2.1, t2.2, if_neg n9.1⟩
theorem v_186n (F : CF h) {x fe : Int32} (e1 : mh_i h 0 1 = fe) (c : x < 0 ∨ ¬ x ≤ fe) : ∀ Q, mcall d 186 [.ref 0, .int x] h Q = Q (some (.int (-1))) h := fun Q => by
  have g := F.g 0 11 15 (by decide +kernel)
  clear F
  by_cases q : x < 0
  · simp (disch := omega) only [e_186, s_186_0, s_186_1, s_186_4, s_186_5, s_186_6, s_186_9, s_186_12, s_186_13, s_186_17, s_186_18, s_186_19, s_186_22, s_186_23, s_186_26, s_186_26n, s_186_27, s_186_28, s_186_31, s_186_34, s_186_35, s_186_36, s_186_39, s_186_39n, s_186_40, s_186_43, s_186_44, s_186_45, s_186_46, s_186_49, s_186_49n, s_186_51, s_186_53, s_186_56, s_186_58, s_186_59, s_186_60, s_186_63, s_186_64, s_186_65, s_186_68, s_186_69, s_186_71, s_186_72, s_186_75, s_186_78, s_186_80, s_186_81, s_186_84, s_186_85, s_186_87, s_186_88, s_186_90, s_186_93, s_186_96, s_186_97, s_186_100, s_186_101, s_186_102, s_186_105, s_186_108, s_186_109, s_186_111, s_186_112, s_186_113, s_186_116, s_186_119, s_186_122, s_186_123, s_186_124, s_186_127, s_186_130, s_186_133, s_186_134, s_186_137, s_186_140, s_186_141, s_186_144, s_186_147, s_186_148, s_186_151, s_186_152, s_186_155, s_186_158, s_186_159, s_186_160, s_186_163, s_186_164, s_186_165, s_186_168, s_186_169, s_186_172, s_186_175, s_186_178, s_186_179, s_186_182, s_186_184, e_186, mv_i_1, mv_l_1, mv_a_1, mv_a_2, mv_a_3, mk2_n, mk2_i, mk2_l, mk2_a, mk2_u, mk2_x, mB_T, mB_F, mS_cons, mS_nil, mSB_T, mSB_F, mca_nil, mca_i, mca_l, mca_r, mca_u, mca_x, mcat_i, mcat_l, mcat_r, mcat_u, mcat_x, mK_some, mK_none, va_rf_s, va_rf_n, lgc_eq, lgc_lt, lgc_gt, lgc_ge, lgc_le, mrd_104, mrd_105, mrd_106, mrd_107, true_and, and_true, and_self, false_and, and_false, true_or, or_true, false_or, or_false, not_true_eq_false, not_false_eq_true, mgb, mga, mgr, mN, reduceCtorEq, ↓reduceIte, eq_self, ge_iff_le, gt_iff_lt, hk_si, hk_sj, hk_sr, hl_si, hl_sj, hl_sr, hn_si, hn_sj, hn_sr, hs_si, hs_sj, hs_sr, hi_sj, hi_sr, hj_si, hj_sr, hr_si, hr_sj, hi_si, hj_sj, hr_sr, mg_si, mg_sj, mg_sr, Nat.reduceAdd, Nat.reduceMul, Nat.reduceSub, Nat.reduceLT, Nat.reduceGT, Nat.reduceEqDiff, Nat.reduceLeDiff, Nat.left_eq_add, Nat.add_eq_left, Nat.reduceMod, Nat.reduceDiv, Nat.succ_ne_self, q]
  · have l : (x ≤ fe) = False := eq_false (c.resolve_left q)
    simp (disch := omega) only [e_186, s_186_0, s_186_1, s_186_4, s_186_5, s_186_6, s_186_9, s_186_12, s_186_13, s_186_17, s_186_18, s_186_19, s_186_22, s_186_23, s_186_26, s_186_26n, s_186_27, s_186_28, s_186_31, s_186_34, s_186_35, s_186_36, s_186_39, s_186_39n, s_186_40, s_186_43, s_186_44, s_186_45, s_186_46, s_186_49, s_186_49n, s_186_51, s_186_53, s_186_56, s_186_58, s_186_59, s_186_60, s_186_63, s_186_64, s_186_65, s_186_68, s_186_69, s_186_71, s_186_72, s_186_75, s_186_78, s_186_80, s_186_81, s_186_84, s_186_85, s_186_87, s_186_88, s_186_90, s_186_93, s_186_96, s_186_97, s_186_100, s_186_101, s_186_102, s_186_105, s_186_108, s_186_109, s_186_111, s_186_112, s_186_113, s_186_116, s_186_119, s_186_122, s_186_123, s_186_124, s_186_127, s_186_130, s_186_133, s_186_134, s_186_137, s_186_140, s_186_141, s_186_144, s_186_147, s_186_148, s_186_151, s_186_152, s_186_155, s_186_158, s_186_159, s_186_160, s_186_163, s_186_164, s_186_165, s_186_168, s_186_169, s_186_172, s_186_175, s_186_178, s_186_179, s_186_182, s_186_184, e_186, mv_i_1, mv_l_1, mv_a_1, mv_a_2, mv_a_3, mk2_n, mk2_i, mk2_l, mk2_a, mk2_u, mk2_x, mB_T, mB_F, mS_cons, mS_nil, mSB_T, mSB_F, mca_nil, mca_i, mca_l, mca_r, mca_u, mca_x, mcat_i, mcat_l, mcat_r, mcat_u, mcat_x, mK_some, mK_none, va_rf_s, va_rf_n, lgc_eq, lgc_lt, lgc_gt, lgc_ge, lgc_le, mrd_104, mrd_105, mrd_106, mrd_107, true_and, and_true, and_self, false_and, and_false, true_or, or_true, false_or, or_false, not_true_eq_false, not_false_eq_true, mgb, mga, mgr, mN, reduceCtorEq, ↓reduceIte, eq_self, ge_iff_le, gt_iff_lt, hk_si, hk_sj, hk_sr, hl_si, hl_sj, hl_sr, hn_si, hn_sj, hn_sr, hs_si, hs_sj, hs_sr, hi_sj, hi_sr, hj_si, hj_sr, hr_si, hr_sj, hi_si, hj_sj, hr_sr, mg_si, mg_sj, mg_sr, Nat.reduceAdd, Nat.reduceMul, Nat.reduceSub, Nat.reduceLT, Nat.reduceGT, Nat.reduceEqDiff, Nat.reduceLeDiff, Nat.left_eq_add, Nat.add_eq_left, Nat.reduceMod, Nat.reduceDiv, Nat.succ_ne_self, q, l, g, e1]
theorem u_331n (F : RF h) {x fe : Int32} (e1 : mh_i h 81 2 = fe) (c : x < 0 ∨ ¬ x ≤ fe) : ∀ Q, mcall d 331 [.ref 81, .int x] h Q = Q (some (.int (-1))) h := fun Q => by
  have g := F.g 81 14 70 (by decide +kernel)
  clear F
  by_cases q : x < 0
  · simp (disch := omega) only [e_331, s_331_0, s_331_1, s_331_4, s_331_5, s_331_6, s_331_9, s_331_12, s_331_13, s_331_15, s_331_16, s_331_19, s_331_20, s_331_21, s_331_24, s_331_25, s_331_26, s_331_29, s_331_30, s_331_31, s_331_32, s_331_33, s_331_34, s_331_37, s_331_38, s_331_39, s_331_42, s_331_43, s_331_44, s_331_47, s_331_48, s_331_49, s_331_52, s_331_53, s_331_54, s_331_57, s_331_58, s_331_59, s_331_62, s_331_63, s_331_66, s_331_67, s_331_68, s_331_71, s_331_74, s_331_75, s_331_76, s_331_79, s_331_80, s_331_83, s_331_86, s_331_87, s_331_90, s_331_93, s_331_94, s_331_95, s_331_98, s_331_99, s_331_100, s_331_103, s_331_104, s_331_105, s_331_108, s_331_111, s_331_112, s_331_115, s_331_118, s_331_119, s_331_122, s_331_123, s_331_126, s_331_127, s_331_128, s_331_131, s_331_134, s_331_135, s_331_138, s_331_139, s_331_142, s_331_143, s_331_146, s_331_149, s_331_150, s_331_153, s_331_154, s_331_157, s_331_160, s_331_161, s_331_162, s_331_165, s_331_166, s_331_169, s_331_172, s_331_173, s_331_176, s_331_179, s_331_180, s_331_183, s_331_184, s_331_187, s_331_188, s_331_191, s_331_192, s_331_195, s_331_196, s_331_199, s_331_202, s_331_203, s_331_204, s_331_207, s_331_210, s_331_213, s_331_214, s_331_217, s_331_218, s_331_221, s_331_222, s_331_225, e_331, mv_i_1, mv_l_1, mv_a_1, mv_a_2, mv_a_3, mk2_n, mk2_i, mk2_l, mk2_a, mk2_u, mk2_x, mB_T, mB_F, mS_cons, mS_nil, mSB_T, mSB_F, mca_nil, mca_i, mca_l, mca_r, mca_u, mca_x, mcat_i, mcat_l, mcat_r, mcat_u, mcat_x, mK_some, mK_none, va_rf_s, va_rf_n, lgc_eq, lgc_lt, lgc_gt, lgc_ge, lgc_le, mrd_104, mrd_105, mrd_106, mrd_107, true_and, and_true, and_self, false_and, and_false, true_or, or_true, false_or, or_false, not_true_eq_false, not_false_eq_true, mgb, mga, mgr, mN, reduceCtorEq, ↓reduceIte, eq_self, ge_iff_le, gt_iff_lt, hk_si, hk_sj, hk_sr, hl_si, hl_sj, hl_sr, hn_si, hn_sj, hn_sr, hs_si, hs_sj, hs_sr, hi_sj, hi_sr, hj_si, hj_sr, hr_si, hr_sj, hi_si, hj_sj, hr_sr, mg_si, mg_sj, mg_sr, Nat.reduceAdd, Nat.reduceMul, Nat.reduceSub, Nat.reduceLT, Nat.reduceGT, Nat.reduceEqDiff, Nat.reduceLeDiff, Nat.left_eq_add, Nat.add_eq_left, Nat.reduceMod, Nat.reduceDiv, Nat.succ_ne_self, q]
  · have l : (x ≤ fe) = False := eq_false (c.resolve_left q)
    simp (disch := omega) only [e_331, s_331_0, s_331_1, s_331_4, s_331_5, s_331_6, s_331_9, s_331_12, s_331_13, s_331_15, s_331_16, s_331_19, s_331_20, s_331_21, s_331_24, s_331_25, s_331_26, s_331_29, s_331_30, s_331_31, s_331_32, s_331_33, s_331_34, s_331_37, s_331_38, s_331_39, s_331_42, s_331_43, s_331_44, s_331_47, s_331_48, s_331_49, s_331_52, s_331_53, s_331_54, s_331_57, s_331_58, s_331_59, s_331_62, s_331_63, s_331_66, s_331_67, s_331_68, s_331_71, s_331_74, s_331_75, s_331_76, s_331_79, s_331_80, s_331_83, s_331_86, s_331_87, s_331_90, s_331_93, s_331_94, s_331_95, s_331_98, s_331_99, s_331_100, s_331_103, s_331_104, s_331_105, s_331_108, s_331_111, s_331_112, s_331_115, s_331_118, s_331_119, s_331_122, s_331_123, s_331_126, s_331_127, s_331_128, s_331_131, s_331_134, s_331_135, s_331_138, s_331_139, s_331_142, s_331_143, s_331_146, s_331_149, s_331_150, s_331_153, s_331_154, s_331_157, s_331_160, s_331_161, s_331_162, s_331_165, s_331_166, s_331_169, s_331_172, s_331_173, s_331_176, s_331_179, s_331_180, s_331_183, s_331_184, s_331_187, s_331_188, s_331_191, s_331_192, s_331_195, s_331_196, s_331_199, s_331_202, s_331_203, s_331_204, s_331_207, s_331_210, s_331_213, s_331_214, s_331_217, s_331_218, s_331_221, s_331_222, s_331_225, e_331, mv_i_1, mv_l_1, mv_a_1, mv_a_2, mv_a_3, mk2_n, mk2_i, mk2_l, mk2_a, mk2_u, mk2_x, mB_T, mB_F, mS_cons, mS_nil, mSB_T, mSB_F, mca_nil, mca_i, mca_l, mca_r, mca_u, mca_x, mcat_i, mcat_l, mcat_r, mcat_u, mcat_x, mK_some, mK_none, va_rf_s, va_rf_n, lgc_eq, lgc_lt, lgc_gt, lgc_ge, lgc_le, mrd_104, mrd_105, mrd_106, mrd_107, true_and, and_true, and_self, false_and, and_false, true_or, or_true, false_or, or_false, not_true_eq_false, not_false_eq_true, mgb, mga, mgr, mN, reduceCtorEq, ↓reduceIte, eq_self, ge_iff_le, gt_iff_lt, hk_si, hk_sj, hk_sr, hl_si, hl_sj, hl_sr, hn_si, hn_sj, hn_sr, hs_si, hs_sj, hs_sr, hi_sj, hi_sr, hj_si, hj_sr, hr_si, hr_sj, hi_si, hj_sj, hr_sr, mg_si, mg_sj, mg_sr, Nat.reduceAdd, Nat.reduceMul, Nat.reduceSub, Nat.reduceLT, Nat.reduceGT, Nat.reduceEqDiff, Nat.reduceLeDiff, Nat.left_eq_add, Nat.add_eq_left, Nat.reduceMod, Nat.reduceDiv, Nat.succ_ne_self, q, l, g, e1]
theorem i_le {x : Int32} {m : Nat} (hm : m < 2147483648) (c : ¬ (x < 0 ∨ ¬ x ≤ Int32.ofNat m)) : ∃ n, n ≤ m ∧ x = Int32.ofNat n := by
  obtain ⟨j, e, hj⟩ : ∃ j, x = Int32.ofNat j ∧ j < 2147483648 := by
    refine ⟨x.toNatClampNeg, ?_, ?_⟩
    · have : 0 ≤ x.toInt := by
        have := Int32.not_lt.mp (fun z => c (Or.inl z))
        rw [Int32.le_iff_toInt_le] at this
        exact this
      apply Int32.toInt_inj.mp
      rw [nn_int (by have := Int32.toInt_lt x; unfold Int32.toNatClampNeg; omega)]
      unfold Int32.toNatClampNeg
      omega
    · have := Int32.toInt_lt x
      unfold Int32.toNatClampNeg
      omega
  refine ⟨j, ?_, e⟩
  have w : x ≤ Int32.ofNat m := Classical.not_not.mp (fun z => c (Or.inr z))
  rw [Int32.le_iff_toInt_le, e, nn_int hj, nn_int hm] at w
  omega
end ENs
