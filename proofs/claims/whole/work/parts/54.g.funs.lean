set_option maxRecDepth 100000
/-! the reference's keep, whole; its loop over functions IS pgZ -/
def pfWr (b j : Nat) : Prop := (86 ≤ b ∧ b ≤ 91) ∨ (b = 81 ∧ (j = 8 ∨ j = 9 ∨ j = 10 ∨ j = 17))
def kzWr (b j : Nat) : Prop := (86 ≤ b ∧ b ≤ 99) ∨ (b = 81 ∧ (j = 8 ∨ j = 9 ∨ j = 10 ∨ j = 17 ∨ j = 24 ∨ j = 27))
def KZs (h h' : mh_H) (n m : Nat) (Bt : Nat → Int32) (K : Nat → Int32) (P U : Nat → Nat) (c : Nat) (t : tr) (L L' : List Nat) : Prop := (fG kzWr h h') ∧ (KPI h' n m Bt K P U L' (c + ts t)) ∧ (∃ M, L' = L ++ M) ∧ (knT (spe Bt n P U) L' t) ∧ (∀ k, k < c → mh_i h' 93 k = mh_i h 93 k ∧ mh_i h' 94 k = mh_i h 94 k ∧ mh_i h' 95 k = mh_i h 95 k ∧ mh_i h' 96 k = mh_i h 96 k) ∧ (∀ k, 1 ≤ k → k < c → mh_i h' 97 k = mh_i h 97 k) ∧ (mh_i h' 97 0 = mh_i h 97 0 + Int32.ofNat (ts t)) ∧ (nd (mh_i h' 93) (mh_i h' 95) (mh_i h' 97) c (rn (spe Bt n P U) L' t)) ∧ (pw (mh_i h' 96) (mh_i h' 94) t c (Int32.ofNat 0))
theorem KZs.of {h h' : mh_H} {n m : Nat} {Bt : Nat → Int32} {K : Nat → Int32} {P U : Nat → Nat} {c : Nat} {t : tr} {L L' : List Nat} (q : (fG kzWr h h') ∧ (KPI h' n m Bt K P U L' (c + ts t)) ∧ (∃ M, L' = L ++ M) ∧ (knT (spe Bt n P U) L' t) ∧ (∀ k, k < c → mh_i h' 93 k = mh_i h 93 k ∧ mh_i h' 94 k = mh_i h 94 k ∧ mh_i h' 95 k = mh_i h 95 k ∧ mh_i h' 96 k = mh_i h 96 k) ∧ (∀ k, 1 ≤ k → k < c → mh_i h' 97 k = mh_i h 97 k) ∧ (mh_i h' 97 0 = mh_i h 97 0 + Int32.ofNat (ts t)) ∧ (nd (mh_i h' 93) (mh_i h' 95) (mh_i h' 97) c (rn (spe Bt n P U) L' t)) ∧ (pw (mh_i h' 96) (mh_i h' 94) t c (Int32.ofNat 0))) : KZs h h' n m Bt K P U c t L L' := q
theorem KZs.f {h h' : mh_H} {n m : Nat} {Bt : Nat → Int32} {K : Nat → Int32} {P U : Nat → Nat} {c : Nat} {t : tr} {L L' : List Nat} (q : KZs h h' n m Bt K P U c t L L') : fG kzWr h h' := q.1
theorem KZs.I {h h' : mh_H} {n m : Nat} {Bt : Nat → Int32} {K : Nat → Int32} {P U : Nat → Nat} {c : Nat} {t : tr} {L L' : List Nat} (q : KZs h h' n m Bt K P U c t L L') : KPI h' n m Bt K P U L' (c + ts t) := q.2.1
theorem KZs.x {h h' : mh_H} {n m : Nat} {Bt : Nat → Int32} {K : Nat → Int32} {P U : Nat → Nat} {c : Nat} {t : tr} {L L' : List Nat} (q : KZs h h' n m Bt K P U c t L L') : ∃ M, L' = L ++ M := q.2.2.1
theorem KZs.k {h h' : mh_H} {n m : Nat} {Bt : Nat → Int32} {K : Nat → Int32} {P U : Nat → Nat} {c : Nat} {t : tr} {L L' : List Nat} (q : KZs h h' n m Bt K P U c t L L') : knT (spe Bt n P U) L' t := q.2.2.2.1
theorem KZs.o {h h' : mh_H} {n m : Nat} {Bt : Nat → Int32} {K : Nat → Int32} {P U : Nat → Nat} {c : Nat} {t : tr} {L L' : List Nat} (q : KZs h h' n m Bt K P U c t L L') : ∀ k, k < c → mh_i h' 93 k = mh_i h 93 k ∧ mh_i h' 94 k = mh_i h 94 k ∧ mh_i h' 95 k = mh_i h 95 k ∧ mh_i h' 96 k = mh_i h 96 k := q.2.2.2.2.1
theorem KZs.s {h h' : mh_H} {n m : Nat} {Bt : Nat → Int32} {K : Nat → Int32} {P U : Nat → Nat} {c : Nat} {t : tr} {L L' : List Nat} (q : KZs h h' n m Bt K P U c t L L') : ∀ k, 1 ≤ k → k < c → mh_i h' 97 k = mh_i h 97 k := q.2.2.2.2.2.1
theorem KZs.z {h h' : mh_H} {n m : Nat} {Bt : Nat → Int32} {K : Nat → Int32} {P U : Nat → Nat} {c : Nat} {t : tr} {L L' : List Nat} (q : KZs h h' n m Bt K P U c t L L') : mh_i h' 97 0 = mh_i h 97 0 + Int32.ofNat (ts t) := q.2.2.2.2.2.2.1
theorem KZs.n {h h' : mh_H} {n m : Nat} {Bt : Nat → Int32} {K : Nat → Int32} {P U : Nat → Nat} {c : Nat} {t : tr} {L L' : List Nat} (q : KZs h h' n m Bt K P U c t L L') : nd (mh_i h' 93) (mh_i h' 95) (mh_i h' 97) c (rn (spe Bt n P U) L' t) := q.2.2.2.2.2.2.2.1
theorem KZs.w {h h' : mh_H} {n m : Nat} {Bt : Nat → Int32} {K : Nat → Int32} {P U : Nat → Nat} {c : Nat} {t : tr} {L L' : List Nat} (q : KZs h h' n m Bt K P U c t L L') : pw (mh_i h' 96) (mh_i h' 94) t c (Int32.ofNat 0) := q.2.2.2.2.2.2.2.2
section KZz
variable {d D : Nat} {h h1 h2 h3 : mh_H} {n m : Nat} {Bt : Nat → Int32} {K : Nat → Int32} {P U : Nat → Nat} {V : Nat → Int} {L L1 L2 : List Nat} {c : Nat} {s s' : pst}
theorem u_330 (I : KPI h n m Bt K P U L c) (room : ∀ L, nmG (spe Bt n P U) K m L → lsN U L ≤ 16400 ∧ L.length < 8299) {nn : Nat} {cs : tr} {v : Int32} (T : tpt (mh_i h 86) (mh_i h 87) (mh_i h 88) (mh_i h 89) (mh_i h 91) 52000 (tNd nn cs) v) (tv : tvT K m (tNd nn cs)) (w0 : mh_i h 96 0 = -1) (c1 : 1 ≤ c) (hc : c + (1 + ts cs) ≤ 26000) : ∃ h' L', KRs h h' n m Bt K P U c (tNd nn cs) (Int32.ofNat 0) [0] L L' 0 ∧ ∀ Q, mcall (d + 1) 330 [.ref 81, .int v] h Q = Q none h' := by
  obtain ⟨i, t1, t2, t3, t4, t5, t6, t7⟩ := id T
  have t7' : mh_i h 91 i = -1 := t7
  have es : ts (tNd nn cs) = 1 + ts cs := rfl
  subst t1
  obtain ⟨h', L', y3, y4, y5, KR, st⟩ := kp_l (d := d) (di := i) room t2 (1 + ts cs) (tNd nn cs) h (Int32.ofNat i) 0 c [0] L 0 (Nat.le_refl _) (by rw [es]; omega) I T tv ⟨rfl, by decide, w0⟩ (List.nodup_cons.mpr ⟨fun z => (by cases z), List.nodup_nil⟩) (fun a ha => by rw [List.mem_singleton.mp ha]; omega) (by rw [es]; omega) (by rw [es]; exact hc) t7' none
  refine ⟨h', L', KR, fun Q => ?_⟩
  have i0 : Int32.ofNat 0 = 0 := rfl
  have stQ := st Q
  rw [i0] at stQ
  have le : ((0 : Int32) ≤ 0) = True := by decide
  have m1 : ((-1 : Int32) = -1) = True := eq_true rfl
  have en : mw (d + 1) 330 Q 126 [some (.ref 81), some (.int (Int32.ofNat i)), some (.int 0), y3, y4, y5] [] h' = Q none h' := by
    clear stQ st KR
    rw [show mw (d + 1) 330 Q 126 [some (.ref 81), some (.int (Int32.ofNat i)), some (.int 0), y3, y4, y5] [] h' = mw (d + 1) 330 Q 7 [some (.ref 81), some (.int (Int32.ofNat i)), some (.int 0), some (.int (-1)), y4, y5] [] h' from by simp only [s_330_0, s_330_1, s_330_2, s_330_3, s_330_4, s_330_5, s_330_8, s_330_9, s_330_12, s_330_13, s_330_14, s_330_17, s_330_18, s_330_19, s_330_20, s_330_23, s_330_24, s_330_25, s_330_26, s_330_29, s_330_30, s_330_31, s_330_33, s_330_36, s_330_37, s_330_38, s_330_41, s_330_42, s_330_43, s_330_46, s_330_49, s_330_50, s_330_53, s_330_54, s_330_55, s_330_57, s_330_60, s_330_62, s_330_63, s_330_66, s_330_67, s_330_68, s_330_69, s_330_72, s_330_73, s_330_74, s_330_77, s_330_78, s_330_81, s_330_82, s_330_83, s_330_86, s_330_87, s_330_88, s_330_89, s_330_90, s_330_93, s_330_94, s_330_95, s_330_96, s_330_98, s_330_99, s_330_102, s_330_103, s_330_106, s_330_107, s_330_108, s_330_109, s_330_112, s_330_113, s_330_116, s_330_117, s_330_118, s_330_119, s_330_121, s_330_123, s_330_126, s_330_127, s_330_130, s_330_133, s_330_134, s_330_137, s_330_138, s_330_139, s_330_140, s_330_141, s_330_144, s_330_145, s_330_146, s_330_147, s_330_148, s_330_150, s_330_153, s_330_154, s_330_155, s_330_158, e_330, mv_i_1, mv_l_1, mv_a_1, mv_a_2, mv_a_3, mk2_n, mk2_i, mk2_l, mk2_a, mk2_u, mk2_x, mB_T, mB_F, mS_cons, mS_nil, mSB_T, mSB_F, mca_nil, mca_i, mca_l, mca_r, mca_u, mca_x, mcat_i, mcat_l, mcat_r, mcat_u, mcat_x, mK_some, mK_none, va_rf_s, va_rf_n, lgc_eq, lgc_lt, lgc_gt, lgc_ge, lgc_le, mrd_104, mrd_105, mrd_106, mrd_107, true_and, and_true, and_self, false_and, and_false, true_or, or_true, false_or, or_false, not_true_eq_false, not_false_eq_true, mgb, mga, mgr, mN, reduceCtorEq, ↓reduceIte, eq_self, ge_iff_le, gt_iff_lt, le]]
    rw [s_330_7]
    simp only [s_330_0, s_330_1, s_330_2, s_330_3, s_330_4, s_330_5, s_330_8, s_330_9, s_330_12, s_330_13, s_330_14, s_330_17, s_330_18, s_330_19, s_330_20, s_330_23, s_330_24, s_330_25, s_330_26, s_330_29, s_330_30, s_330_31, s_330_33, s_330_36, s_330_37, s_330_38, s_330_41, s_330_42, s_330_43, s_330_46, s_330_49, s_330_50, s_330_53, s_330_54, s_330_55, s_330_57, s_330_60, s_330_62, s_330_63, s_330_66, s_330_67, s_330_68, s_330_69, s_330_72, s_330_73, s_330_74, s_330_77, s_330_78, s_330_81, s_330_82, s_330_83, s_330_86, s_330_87, s_330_88, s_330_89, s_330_90, s_330_93, s_330_94, s_330_95, s_330_96, s_330_98, s_330_99, s_330_102, s_330_103, s_330_106, s_330_107, s_330_108, s_330_109, s_330_112, s_330_113, s_330_116, s_330_117, s_330_118, s_330_119, s_330_121, s_330_123, s_330_126, s_330_127, s_330_130, s_330_133, s_330_134, s_330_137, s_330_138, s_330_139, s_330_140, s_330_141, s_330_144, s_330_145, s_330_146, s_330_147, s_330_148, s_330_150, s_330_153, s_330_154, s_330_155, s_330_158, e_330, mv_i_1, mv_l_1, mv_a_1, mv_a_2, mv_a_3, mk2_n, mk2_i, mk2_l, mk2_a, mk2_u, mk2_x, mB_T, mB_F, mS_cons, mS_nil, mSB_T, mSB_F, mca_nil, mca_i, mca_l, mca_r, mca_u, mca_x, mcat_i, mcat_l, mcat_r, mcat_u, mcat_x, mK_some, mK_none, va_rf_s, va_rf_n, lgc_eq, lgc_lt, lgc_gt, lgc_ge, lgc_le, mrd_104, mrd_105, mrd_106, mrd_107, true_and, and_true, and_self, false_and, and_false, true_or, or_true, false_or, or_false, not_true_eq_false, not_false_eq_true, mgb, mga, mgr, mN, reduceCtorEq, ↓reduceIte, eq_self, ge_iff_le, gt_iff_lt, m1]
  rw [← en, ← stQ]
  clear stQ st KR en
  simp only [s_330_0, s_330_1, s_330_2, s_330_3, s_330_4, s_330_5, s_330_8, s_330_9, s_330_12, s_330_13, s_330_14, s_330_17, s_330_18, s_330_19, s_330_20, s_330_23, s_330_24, s_330_25, s_330_26, s_330_29, s_330_30, s_330_31, s_330_33, s_330_36, s_330_37, s_330_38, s_330_41, s_330_42, s_330_43, s_330_46, s_330_49, s_330_50, s_330_53, s_330_54, s_330_55, s_330_57, s_330_60, s_330_62, s_330_63, s_330_66, s_330_67, s_330_68, s_330_69, s_330_72, s_330_73, s_330_74, s_330_77, s_330_78, s_330_81, s_330_82, s_330_83, s_330_86, s_330_87, s_330_88, s_330_89, s_330_90, s_330_93, s_330_94, s_330_95, s_330_96, s_330_98, s_330_99, s_330_102, s_330_103, s_330_106, s_330_107, s_330_108, s_330_109, s_330_112, s_330_113, s_330_116, s_330_117, s_330_118, s_330_119, s_330_121, s_330_123, s_330_126, s_330_127, s_330_130, s_330_133, s_330_134, s_330_137, s_330_138, s_330_139, s_330_140, s_330_141, s_330_144, s_330_145, s_330_146, s_330_147, s_330_148, s_330_150, s_330_153, s_330_154, s_330_155, s_330_158, e_330, mv_i_1, mv_l_1, mv_a_1, mv_a_2, mv_a_3, mk2_n, mk2_i, mk2_l, mk2_a, mk2_u, mk2_x, mB_T, mB_F, mS_cons, mS_nil, mSB_T, mSB_F, mca_nil, mca_i, mca_l, mca_r, mca_u, mca_x, mcat_i, mcat_l, mcat_r, mcat_u, mcat_x, mK_some, mK_none, va_rf_s, va_rf_n, lgc_eq, lgc_lt, lgc_gt, lgc_ge, lgc_le, mrd_104, mrd_105, mrd_106, mrd_107, true_and, and_true, and_self, false_and, and_false, true_or, or_true, false_or, or_false, not_true_eq_false, not_false_eq_true, mgb, mga, mgr, mN, reduceCtorEq, ↓reduceIte, eq_self, ge_iff_le, gt_iff_lt]
theorem KZ_1 {nn : Nat} {cs : tr} (c1 : 1 ≤ c) (F : fG pfWr h h1) (A : KRs h1 h2 n m Bt K P U c (tNd nn cs) (Int32.ofNat 0) [0] L L1 0) : KZs h h2 n m Bt K P U c (tNd nn cs) L L1 := by
  have q : ∀ b j, 92 ≤ b → b ≤ 99 → mh_i h1 b j = mh_i h b j := fun b j u1 u2 => fG_i F (by unfold pfWr; omega)
  have f1 : fG kzWr h h1 := ⟨F.1, F.2.1, F.2.2.1, F.2.2.2.1, F.2.2.2.2.1, fun b j w => F.2.2.2.2.2 b j (fun z => w (by unfold pfWr at z; unfold kzWr; omega))⟩
  have f2 : fG kzWr h1 h2 := ⟨A.f.1, A.f.2.1, A.f.2.2.1, A.f.2.2.2.1, A.f.2.2.2.2.1, fun b j w => A.f.2.2.2.2.2 b j (fun z => w (by unfold keWr at z; unfold kzWr; omega))⟩
  refine KZs.of ⟨fG_t f1 f2, A.I, A.x, A.k, fun k hk => ?_, fun k h1' hk => ?_, ?_, A.n, A.w⟩
  · obtain ⟨a1, a2, a3, a4⟩ := A.o k hk
    exact ⟨a1.trans (q 93 k (by omega) (by omega)), a2.trans (q 94 k (by omega) (by omega)), a3.trans (q 95 k (by omega) (by omega)), a4.trans (q 96 k (by omega) (by omega))⟩
  · rw [A.s k hk, if_neg (fun z => by have := List.mem_singleton.mp z; omega), q 97 k (by omega) (by omega)]
  · rw [A.s 0 (by omega), if_pos (List.mem_singleton.mpr rfl), q 97 0 (by omega) (by omega)]
theorem KZ_C {nn : Nat} {cs r : tr} (c1 : 1 ≤ c) (A : KZs h h2 n m Bt K P U c (tNd nn cs) L L1) (B : KZs h2 h3 n m Bt K P U (c + (1 + ts cs)) r L1 L2) : KZs h h3 n m Bt K P U c (.branch nn cs r) L L2 := by
  obtain ⟨M1, e1⟩ := A.x
  obtain ⟨M2, e2⟩ := B.x
  have es : ts (tNd nn cs) = 1 + ts cs := rfl
  have kA := rn_app (M := M2) (tNd nn cs) A.k
  rw [← e2] at kA
  have nA := A.n
  rw [← kA.1] at nA
  have nA' : nd (mh_i h3 93) (mh_i h3 95) (mh_i h3 97) c (rn (spe Bt n P U) L2 (tNd nn cs)) := nd_c _ _ (fun j j1 j2 => by
    rw [ts_rn, es] at j2
    obtain ⟨u1, u2, u3, u4⟩ := B.o j (by omega)
    exact ⟨u1, u3, B.s j (by omega) (by omega)⟩) nA
  have wA' : pw (mh_i h3 96) (mh_i h3 94) (tNd nn cs) c (Int32.ofNat 0) := pw_c _ _ _ (fun j j1 j2 => by
    rw [es] at j2
    obtain ⟨u1, u2, u3, u4⟩ := B.o j (by omega)
    exact ⟨u4, u2⟩) A.w
  obtain ⟨n1, n2, n3, n4, -⟩ := nA'
  obtain ⟨w1, w2, w3, -⟩ := wA'
  refine KZs.of ⟨fG_t A.f B.f, ?_, ⟨M1 ++ M2, by rw [e2, e1, List.append_assoc]⟩, ⟨kA.2.1, kA.2.2.1, B.k⟩, fun k hk => ?_, fun k h1' hk => ?_, ?_, ⟨n1, n2, n3, n4, ?_⟩, ⟨w1, w2, w3, ?_⟩⟩
  · have z := B.I
    rw [show c + (1 + ts cs) + ts r = c + ts (.branch nn cs r) from by rw [ts_B]; omega] at z
    exact z
  · obtain ⟨a1, a2, a3, a4⟩ := A.o k hk
    obtain ⟨b1, b2, b3, b4⟩ := B.o k (by omega)
    exact ⟨b1.trans a1, b2.trans a2, b3.trans a3, b4.trans a4⟩
  · exact (B.s k h1' (by omega)).trans (A.s k h1' hk)
  · rw [B.z, A.z, ts_B, es, Int32.add_assoc, nn_add]
  · show nd _ _ _ (c + 1 + ts (rn (spe Bt n P U) L2 cs)) (rn (spe Bt n P U) L2 r)
    rw [ts_rn, show c + 1 + ts cs = c + (1 + ts cs) from by omega]
    exact B.n
  · rw [show c + 1 + ts cs = c + (1 + ts cs) from by omega]
    exact B.w
theorem pH_F : fG pfWr (pH h s) (pH h s') := ⟨rfl, rfl, rfl, rfl, rfl, fun b j w => ⟨by
  unfold pfWr at w
  rw [pH_i, pH_i, if_neg (by omega), if_neg (by omega), if_neg (by omega), if_neg (by omega), if_neg (by omega), if_neg (by omega), if_neg (by omega), if_neg (by omega), if_neg (by omega), if_neg (by omega), if_neg (by omega), if_neg (by omega), if_neg (by omega), if_neg (by omega), if_neg (by omega), if_neg (by omega), if_neg (by omega), if_neg (by omega), if_neg (by omega), if_neg (by omega)], rfl⟩⟩
theorem pH_same (F : fG keWr (pH h s) h2) : pH h2 s = h2 := by
  have q : ∀ b j, ¬ keWr b j → mh_i h2 b j = mh_i (pH h s) b j := fun b j w => fG_i F w
  refine mh_xi rfl rfl (fun b j => ?_) rfl rfl rfl rfl
  rw [pH_i]
  by_cases c1 : b = 81 ∧ j = 8
  · rw [if_pos c1, c1.1, c1.2, q 81 8 (by unfold keWr; omega), pH_8]
  rw [if_neg c1]
  by_cases c2 : b = 81 ∧ j = 9
  · rw [if_pos c2, c2.1, c2.2, q 81 9 (by unfold keWr; omega), pH_9]
  rw [if_neg c2]
  by_cases c3 : b = 81 ∧ j = 10
  · rw [if_pos c3, c3.1, c3.2, q 81 10 (by unfold keWr; omega), pH_10]
  rw [if_neg c3]
  by_cases c4 : b = 81 ∧ j = 17
  · rw [if_pos c4, c4.1, c4.2, q 81 17 (by unfold keWr; omega), pH_17]
  rw [if_neg c4]
  by_cases c5 : b = 86
  · rw [if_pos c5, c5, q 86 j (by unfold keWr; omega), pH_86]
  rw [if_neg c5]
  by_cases c6 : b = 87
  · rw [if_pos c6, c6, q 87 j (by unfold keWr; omega), pH_87]
  rw [if_neg c6]
  by_cases c7 : b = 88
  · rw [if_pos c7, c7, q 88 j (by unfold keWr; omega), pH_88]
  rw [if_neg c7]
  by_cases c8 : b = 89
  · rw [if_pos c8, c8, q 89 j (by unfold keWr; omega), pH_89]
  rw [if_neg c8]
  by_cases c9 : b = 90
  · rw [if_pos c9, c9, q 90 j (by unfold keWr; omega), pH_90]
  rw [if_neg c9]
  by_cases c10 : b = 91
  · rw [if_pos c10, c10, q 91 j (by unfold keWr; omega), pH_91]
  rw [if_neg c10]
theorem RTK_G {W : Nat → Nat → Prop} (R : RTK h m K P V) (x : fG W h h2) (e : ∀ b j, W b j → ¬ (82 ≤ b ∧ b ≤ 85)) : RTK h2 m K P V := by
  have q : ∀ b j, 82 ≤ b → b ≤ 85 → mh_i h2 b j = mh_i h b j := fun b j u1 u2 => fG_i x (fun w => e b j w ⟨u1, u2⟩)
  have q82 : mh_i h2 82 = mh_i h 82 := funext fun j => q 82 j (by omega) (by omega)
  refine ⟨RF_G x R.F, R.m, R.M, fun i hi => ?_, fun i hi => ?_, fun i hi k3 => ?_⟩
  · rw [q 83 i (by omega) (by omega)]; exact R.k i hi
  · rw [q 84 i (by omega) (by omega)]; exact R.p i hi
  · rw [q 85 i (by omega) (by omega), q82]; exact R.v i hi k3
theorem RTK_p (R : RTK h m K P V) : RTK (pH h s) m K P V := ⟨R.F, R.m, R.M, R.k, R.p, R.v⟩
theorem KPI_p (I : KPI (pH h s) n m Bt K P U L c) : KPI (pH h s') n m Bt K P U L c := KPI.of ⟨NTK_G I.R pH_F (fun b j w => by unfold pfWr at w; omega), NMS_G I.N pH_F (fun b j w => by unfold pfWr at w; omega), I.G, I.c⟩
theorem rkd_0 : ∀ k, k ∈ kvs → (rkd k = 0) = (k = 0) := by decide +kernel
def RZr (D : Nat) (h : mh_H) (n m : Nat) (Bt : Nat → Int32) (K : Nat → Int32) (P U : Nat → Nat) (c : Nat) (L : List Nat) (x1 x2 : Option Value) (r : pqr) : Prop := match r with
  | (j, none) => ∃ h' y2, fG kzWr h h' ∧ mh_i h' 81 9 = 1 ∧ mh_i h' 81 10 = Int32.ofNat (P j) ∧ mh_i h' 99 0 = 0 ∧ ∀ Q, mw D 331 Q 57 [some (.ref 81), x1, x2] [] h = mw D 331 Q 93 [some (.ref 81), x1, y2] [] h'
  | (_, some t) => ∃ h' L' y2, KZs h h' n m Bt K P U c t L L' ∧ mh_i h' 81 9 = 0 ∧ ∀ Q, mw D 331 Q 57 [some (.ref 81), x1, x2] [] h = mw D 331 Q 93 [some (.ref 81), x1, y2] [] h'
theorem z_331 (room : ∀ L, nmG (spe Bt n P U) K m L → lsN U L ≤ 16400 ∧ L.length < 8299) (hz : ∀ i, K i = 2 → i < m ∧ P i < 65536) {N : Nat} (hN : 8 * m + 6 ≤ N) (hD : 384 ≤ D + 3) {x1 : Int32} : ∀ f i h s c L x2, m ≤ f + i → RTK h m K P V → s.at = i → s.bd = false → i < m → KPI (pH h s) n m Bt K P U L c → 1 ≤ c → c + 2 * (m - i) ≤ 26000 → mh_i (pH h s) 96 0 = -1 → RZr (D + 5) (pH h s) n m Bt K P U c L (some (.int x1)) x2 (pgZ K P V N f i) := by
  intro f
  induction f with
  | zero => intro i h s c L x2 hf; omega
  | succ f ih =>
    intro i h s c L x2 hf R ea eb hi I c1 hc w0
    have hm := R.m
    have F := R.F
    have g := F.g 81 14 70 (by decide +kernel)
    have k0 : kb false = 0 := rfl
    have k1 : kb true = 1 := rfl
    have n1 : ((1 : Int32) = 0) = False := by decide
    have z0 : ((0 : Int32) = 0) = True := eq_true rfl
    have es0 : mh_si (pH h s) 81 17 0 = pH h (s.ud 0) := pH_s17 (v := 0)
    obtain ⟨s1, v, SR1, cal⟩ := c_328 (D := D) (N := N) (s := s.ud 0) R hN (by show s.at < m; omega) eb hD (by show 0 + 2 * (m - s.at) + 8 ≤ 52000; omega)
    have ea' : (s.ud 0).at = i := ea
    rw [ea'] at SR1
    have gd := pgF_b (P := P) (V := V) (N := N) R.M hi
    have tvF := pgF_v (V := V) (N := N) hz i
    show RZr (D + 5) (pH h s) n m Bt K P U c L (some (.int x1)) x2 (bnd (pgF K P V N i) fun t j => if K j = 0 then (j, some t) else bnd (pgZ K P V N f j) fun r k => (k, some (tA t r)))
    generalize pgF K P V N i = r1 at SR1 gd tvF ⊢
    rcases r1 with ⟨j, _ | tt⟩
    · obtain ⟨-, a1, s3⟩ := SR1
      rcases s3 with ⟨nn, cs, e, -⟩ | ⟨-, b1, f1, -⟩
      · cases e
      have a1' : s1.at = j := a1
      have gj : j < m := gd.2.1
      have q0 := c_310 (D := D + 4) (h := h) (s := s1) R (by rw [a1']; exact gj)
      rw [lk_b b1] at q0
      have y0 : (rkd 1 = 0) = False := by decide
      refine ⟨pH h s1, some (.int v), ?_, by rw [pH_9, b1]; rfl, by rw [pH_10]; exact f1, (show mh_i (pH h s) 99 0 = 0 from I.N.2.1 0 (Nat.zero_le _)), fun Q => ?_⟩
      · have F1 := pH_F (h := h) (s := s) (s' := s1)
        exact ⟨F1.1, F1.2.1, F1.2.2.1, F1.2.2.2.1, F1.2.2.2.2.1, fun b j w => F1.2.2.2.2.2 b j (fun z => w (by unfold pfWr at z; unfold kzWr; omega))⟩
      · clear R I ih gd tvF F
        rw [s_331_57]
        simp only [s_331_0, s_331_1, s_331_4, s_331_5, s_331_6, s_331_9, s_331_12, s_331_13, s_331_14, s_331_15, s_331_16, s_331_19, s_331_20, s_331_21, s_331_24, s_331_25, s_331_26, s_331_29, s_331_30, s_331_31, s_331_32, s_331_33, s_331_34, s_331_37, s_331_38, s_331_39, s_331_42, s_331_43, s_331_44, s_331_47, s_331_48, s_331_49, s_331_52, s_331_53, s_331_54, s_331_58, s_331_59, s_331_62, s_331_63, s_331_66, s_331_67, s_331_68, s_331_71, s_331_74, s_331_75, s_331_76, s_331_79, s_331_80, s_331_83, s_331_86, s_331_87, s_331_90, s_331_94, s_331_95, s_331_98, s_331_99, s_331_100, s_331_103, s_331_104, s_331_105, s_331_108, s_331_111, s_331_112, s_331_115, s_331_118, s_331_119, s_331_122, s_331_123, s_331_126, s_331_127, s_331_128, s_331_131, s_331_134, s_331_135, s_331_138, s_331_139, s_331_142, s_331_143, s_331_146, s_331_149, s_331_150, s_331_153, s_331_154, s_331_157, s_331_160, s_331_161, s_331_162, s_331_165, s_331_166, s_331_169, s_331_172, s_331_173, s_331_176, s_331_179, s_331_180, s_331_183, s_331_184, s_331_187, s_331_188, s_331_191, s_331_192, s_331_195, s_331_196, s_331_199, s_331_202, s_331_203, s_331_204, s_331_207, s_331_210, s_331_213, s_331_214, s_331_217, s_331_218, s_331_221, s_331_222, s_331_225, e_331, mv_i_1, mv_l_1, mv_a_1, mv_a_2, mv_a_3, mk2_n, mk2_i, mk2_l, mk2_a, mk2_u, mk2_x, mB_T, mB_F, mS_cons, mS_nil, mSB_T, mSB_F, mca_nil, mca_i, mca_l, mca_r, mca_u, mca_x, mcat_i, mcat_l, mcat_r, mcat_u, mcat_x, mK_some, mK_none, va_rf_s, va_rf_n, lgc_eq, lgc_lt, lgc_gt, lgc_ge, lgc_le, mrd_104, mrd_105, mrd_106, mrd_107, true_and, and_true, and_self, false_and, and_false, true_or, or_true, false_or, or_false, not_true_eq_false, not_false_eq_true, mgb, mga, mgr, mN, reduceCtorEq, ↓reduceIte, eq_self, ge_iff_le, gt_iff_lt, hk_si, hk_sj, hk_sr, hl_si, hl_sj, hl_sr, hn_si, hn_sj, hn_sr, hs_si, hs_sj, hs_sr, hi_sj, hi_sr, hj_si, hj_sr, hr_si, hr_sj, hi_si, hj_sj, hr_sr, mg_si, mg_sj, mg_sr, Nat.reduceAdd, Nat.reduceMul, Nat.reduceSub, Nat.reduceLT, Nat.reduceGT, Nat.reduceEqDiff, Nat.reduceLeDiff, Nat.left_eq_add, Nat.add_eq_left, Nat.reduceMod, Nat.reduceDiv, Nat.succ_ne_self, pH_g, g, es0, cal, pH_9, b1, k1, n1, q0, y0]
    · obtain ⟨-, a1, s3⟩ := SR1
      rcases s3 with ⟨nn, cs, e, b1, f1, d1, dq1, v1⟩ | ⟨e, -⟩
      · cases e
        have a1' : s1.at = j := a1
        have gj : i ≤ j ∧ j < m := ⟨gd.1, gd.2.1⟩
        obtain ⟨g1, g2, -⟩ := gd.2.2 _ rfl
        have g1' := (g1 rfl).1
        have es : ts (tNd nn cs) = 1 + ts cs := rfl
        rw [es] at g2
        have g2' : 1 + ts cs ≤ 2 * (j - i) := g2
        have tp := (dq_t (K := s1.K) (P := s1.P) (V := s1.V) (F := s1.F) (N := s1.N) (lim := 52000) (1 + ts cs)).2 nn cs (.leaf ()) 0 (-1) (by rw [ts_B]; show 1 + ts cs + 0 ≤ 1 + ts cs + 0; omega) (by omega) dq1 rfl
        have v1' : v = Int32.ofNat (0 + dOf nn cs) := v1
        rw [← v1'] at tp
        have tp' : tpt (mh_i (pH h s1) 86) (mh_i (pH h s1) 87) (mh_i (pH h s1) 88) (mh_i (pH h s1) 89) (mh_i (pH h s1) 91) 52000 (tNd nn cs) v := tpt_c (fun i _ => ⟨pH_86, pH_87, pH_88, pH_89, pH_91⟩) _ _ tp
        obtain ⟨h2, L1, KR, ck⟩ := u_330 (d := D + 3) (KPI_p (s' := s1) I) room tp' (tvF _ rfl) w0 c1 (by omega)
        have sm : pH h2 s1 = h2 := pH_same KR.f
        have R2 : RTK h2 m K P V := RTK_G (RTK_p (s := s1) R) KR.f (fun b j w => by unfold keWr at w; omega)
        have KZ := KZ_1 c1 (pH_F (h := h) (s := s) (s' := s1)) KR
        have q0 := c_310 (D := D + 4) (h := h2) (s := s1) R2 (by rw [a1']; exact gj.2)
        rw [lk_0 b1, a1', sm] at q0
        have b9 : mh_i h2 81 9 = 0 := by rw [← sm, pH_9, b1]; rfl
        have g2h : mg h2 81 14 := ⟨by rw [KR.f.1]; exact g.1, by rw [KR.f.2.2.2.1]; exact g.2⟩
        have kk := (R.k j gj.2).2
        have rz := rkd_0 _ kk
        show RZr (D + 5) (pH h s) n m Bt K P U c L (some (.int x1)) x2 (if K j = 0 then (j, some (tNd nn cs)) else bnd (pgZ K P V N f j) fun r k => (k, some (tA (tNd nn cs) r)))
        by_cases c0 : K j = 0
        · rw [if_pos c0]
          have y0 : (rkd (K j) = 0) = True := rz.trans (eq_true c0)
          refine ⟨h2, L1, some (.int v), KZ, b9, fun Q => ?_⟩
          clear R R2 I ih gd tvF F KR KZ tp tp' dq1
          rw [s_331_57]
          simp only [s_331_0, s_331_1, s_331_4, s_331_5, s_331_6, s_331_9, s_331_12, s_331_13, s_331_14, s_331_15, s_331_16, s_331_19, s_331_20, s_331_21, s_331_24, s_331_25, s_331_26, s_331_29, s_331_30, s_331_31, s_331_32, s_331_33, s_331_34, s_331_37, s_331_38, s_331_39, s_331_42, s_331_43, s_331_44, s_331_47, s_331_48, s_331_49, s_331_52, s_331_53, s_331_54, s_331_58, s_331_59, s_331_62, s_331_63, s_331_66, s_331_67, s_331_68, s_331_71, s_331_74, s_331_75, s_331_76, s_331_79, s_331_80, s_331_83, s_331_86, s_331_87, s_331_90, s_331_94, s_331_95, s_331_98, s_331_99, s_331_100, s_331_103, s_331_104, s_331_105, s_331_108, s_331_111, s_331_112, s_331_115, s_331_118, s_331_119, s_331_122, s_331_123, s_331_126, s_331_127, s_331_128, s_331_131, s_331_134, s_331_135, s_331_138, s_331_139, s_331_142, s_331_143, s_331_146, s_331_149, s_331_150, s_331_153, s_331_154, s_331_157, s_331_160, s_331_161, s_331_162, s_331_165, s_331_166, s_331_169, s_331_172, s_331_173, s_331_176, s_331_179, s_331_180, s_331_183, s_331_184, s_331_187, s_331_188, s_331_191, s_331_192, s_331_195, s_331_196, s_331_199, s_331_202, s_331_203, s_331_204, s_331_207, s_331_210, s_331_213, s_331_214, s_331_217, s_331_218, s_331_221, s_331_222, s_331_225, e_331, mv_i_1, mv_l_1, mv_a_1, mv_a_2, mv_a_3, mk2_n, mk2_i, mk2_l, mk2_a, mk2_u, mk2_x, mB_T, mB_F, mS_cons, mS_nil, mSB_T, mSB_F, mca_nil, mca_i, mca_l, mca_r, mca_u, mca_x, mcat_i, mcat_l, mcat_r, mcat_u, mcat_x, mK_some, mK_none, va_rf_s, va_rf_n, lgc_eq, lgc_lt, lgc_gt, lgc_ge, lgc_le, mrd_104, mrd_105, mrd_106, mrd_107, true_and, and_true, and_self, false_and, and_false, true_or, or_true, false_or, or_false, not_true_eq_false, not_false_eq_true, mgb, mga, mgr, mN, reduceCtorEq, ↓reduceIte, eq_self, ge_iff_le, gt_iff_lt, hk_si, hk_sj, hk_sr, hl_si, hl_sj, hl_sr, hn_si, hn_sj, hn_sr, hs_si, hs_sj, hs_sr, hi_sj, hi_sr, hj_si, hj_sr, hr_si, hr_sj, hi_si, hj_sj, hr_sr, mg_si, mg_sj, mg_sr, Nat.reduceAdd, Nat.reduceMul, Nat.reduceSub, Nat.reduceLT, Nat.reduceGT, Nat.reduceEqDiff, Nat.reduceLeDiff, Nat.left_eq_add, Nat.add_eq_left, Nat.reduceMod, Nat.reduceDiv, Nat.succ_ne_self, pH_g, g, g2h, es0, cal, ck, pH_9, b1, b9, k0, z0, q0, y0]
        · rw [if_neg c0]
          have y0 : (rkd (K j) = 0) = False := rz.trans (eq_false c0)
          have st : ∀ Q, mw (D + 5) 331 Q 57 [some (.ref 81), some (.int x1), x2] [] (pH h s) = mw (D + 5) 331 Q 57 [some (.ref 81), some (.int x1), some (.int v)] [] (pH h2 s1) := fun Q => by
            rw [sm]
            clear R R2 I ih gd tvF F KR KZ tp tp' dq1
            rw [s_331_57]
            simp only [s_331_0, s_331_1, s_331_4, s_331_5, s_331_6, s_331_9, s_331_12, s_331_13, s_331_14, s_331_15, s_331_16, s_331_19, s_331_20, s_331_21, s_331_24, s_331_25, s_331_26, s_331_29, s_331_30, s_331_31, s_331_32, s_331_33, s_331_34, s_331_37, s_331_38, s_331_39, s_331_42, s_331_43, s_331_44, s_331_47, s_331_48, s_331_49, s_331_52, s_331_53, s_331_54, s_331_58, s_331_59, s_331_62, s_331_63, s_331_66, s_331_67, s_331_68, s_331_71, s_331_74, s_331_75, s_331_76, s_331_79, s_331_80, s_331_83, s_331_86, s_331_87, s_331_90, s_331_94, s_331_95, s_331_98, s_331_99, s_331_100, s_331_103, s_331_104, s_331_105, s_331_108, s_331_111, s_331_112, s_331_115, s_331_118, s_331_119, s_331_122, s_331_123, s_331_126, s_331_127, s_331_128, s_331_131, s_331_134, s_331_135, s_331_138, s_331_139, s_331_142, s_331_143, s_331_146, s_331_149, s_331_150, s_331_153, s_331_154, s_331_157, s_331_160, s_331_161, s_331_162, s_331_165, s_331_166, s_331_169, s_331_172, s_331_173, s_331_176, s_331_179, s_331_180, s_331_183, s_331_184, s_331_187, s_331_188, s_331_191, s_331_192, s_331_195, s_331_196, s_331_199, s_331_202, s_331_203, s_331_204, s_331_207, s_331_210, s_331_213, s_331_214, s_331_217, s_331_218, s_331_221, s_331_222, s_331_225, e_331, mv_i_1, mv_l_1, mv_a_1, mv_a_2, mv_a_3, mk2_n, mk2_i, mk2_l, mk2_a, mk2_u, mk2_x, mB_T, mB_F, mS_cons, mS_nil, mSB_T, mSB_F, mca_nil, mca_i, mca_l, mca_r, mca_u, mca_x, mcat_i, mcat_l, mcat_r, mcat_u, mcat_x, mK_some, mK_none, va_rf_s, va_rf_n, lgc_eq, lgc_lt, lgc_gt, lgc_ge, lgc_le, mrd_104, mrd_105, mrd_106, mrd_107, true_and, and_true, and_self, false_and, and_false, true_or, or_true, false_or, or_false, not_true_eq_false, not_false_eq_true, mgb, mga, mgr, mN, reduceCtorEq, ↓reduceIte, eq_self, ge_iff_le, gt_iff_lt, hk_si, hk_sj, hk_sr, hl_si, hl_sj, hl_sr, hn_si, hn_sj, hn_sr, hs_si, hs_sj, hs_sr, hi_sj, hi_sr, hj_si, hj_sr, hr_si, hr_sj, hi_si, hj_sj, hr_sr, mg_si, mg_sj, mg_sr, Nat.reduceAdd, Nat.reduceMul, Nat.reduceSub, Nat.reduceLT, Nat.reduceGT, Nat.reduceEqDiff, Nat.reduceLeDiff, Nat.left_eq_add, Nat.add_eq_left, Nat.reduceMod, Nat.reduceDiv, Nat.succ_ne_self, pH_g, g, g2h, es0, cal, ck, pH_9, b1, b9, k0, z0, q0, y0]
          have I2 := KR.I
          rw [es] at I2
          have Z := ih j h2 s1 (c + (1 + ts cs)) L1 (some (.int v)) (by omega) R2 a1' b1 gj.2 (by rw [sm]; exact I2) (by omega) (by omega) (by rw [sm, (KR.o 0 (by omega)).2.2.2]; exact w0)
          have gz := pgZ_b (P := P) (V := V) (N := N) R.M f j gj.2
          rw [sm] at Z st
          generalize pgZ K P V N f j = r2 at Z gz ⊢
          rcases r2 with ⟨l, _ | rr⟩
          · obtain ⟨h', y2, z1, z2, z3, z5, z4⟩ := Z
            exact ⟨h', y2, fG_t KZ.f z1, z2, z3, z5, fun Q => (st Q).trans (z4 Q)⟩
          · obtain ⟨h', L', y2, z1, z2, z3⟩ := Z
            exact ⟨h', L', y2, KZ_C c1 KZ z1, z2, fun Q => (st Q).trans (z3 Q)⟩
      · cases e
end KZz
