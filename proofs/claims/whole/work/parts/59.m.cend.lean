set_option maxRecDepth 100000
/-! the class's end: codes in its rows; a fault, a layout -/
section CQs
variable {d n B m : Nat} {h h' h5 hP hT : mh_H} {s Sc : cps}
theorem CSR_of {P : Nat → Nat} {j : Nat} (hB2 : 2644 ≤ B) (CB : CPB h5 B n) (hm : m ≤ n + 1) (H : FNH P m Sc j) (nn : B + 24 ≤ mh_n h') (kk : ∀ y, B ≤ y → y < B + 24 → mh_k h' y = mh_k (cH h5 B (fiS Sc)) y ∧ mh_l h' y = mh_l (cH h5 B (fiS Sc)) y ∧ (∀ j, mh_i h' y j = mh_i (cH h5 B (fiS Sc)) y j) ∧ ∀ j, mh_r h' y j = mh_r (cH h5 B (fiS Sc)) y j) : CSR h' B n Sc := by
  have hn := CB.n
  have hj := H.j
  have e8 : (fiS Sc).1 = Sc.1 := fi_8
  have gk : ∀ o c l, (o, c, l) ∈ cpK n → o < 24 → mg h' (B + o) c ∧ mh_l h' (B + o) = l := fun o c l ho h24 => by
    obtain ⟨a, b⟩ := CB.k (o, c, l) ho
    obtain ⟨x1, x2, -, -⟩ := kk (B + o) (by omega) (by omega)
    exact ⟨⟨x1.trans ((cH_k (by omega)).trans a), by omega⟩, x2.trans ((cH_l (by omega)).trans b)⟩
  have rk : ∀ o k x, (o, k, x) ∈ cpR → o < 24 → o ≠ 14 → ¬ (o = 16 ∧ k = 8) → mh_r h' (B + o) k = some (B + x) := fun o k x ho h24 h14 h16 => by
    rw [(kk (B + o) (by omega) (by omega)).2.2.2 k, cH_r (by omega) (by omega) (by omega)]
    exact CB.r (o, k, x) ho
  have c99 : ∀ o k, o ≠ 16 → o ≠ 5 → o ≠ 18 → ct o k = 99 := fun o k h1 h2 h3 => by unfold ct; rw [if_neg h1, if_neg h2, if_neg h3]
  have ik : ∀ o k, 5 ≤ o → o < 24 → o ≠ 16 → o ≠ 5 → o ≠ 18 → mh_i h' (B + o) k = (fiS Sc).2 o k := fun o k h1 h2 h3 h4 h5' => by
    rw [(kk (B + o) (by omega) (by omega)).2.2.1 k, cH_i5 h1]
    show (if ct o k = 99 then (fiS Sc).2 o k else Int32.ofNat ((fiS Sc).1 (ct o k))) = _
    rw [c99 o k h3 h4 h5', if_pos rfl]
  obtain ⟨⟨s1, s2⟩, s3⟩ := fiS_s (s := Sc)
  have hc := H.c
  refine CSR.of ⟨?_, ⟨?_, ?_, ?_⟩, ⟨?_, ?_, ?_⟩, ?_, fun o k ho => ?_, ⟨fun k hk => ⟨?_, ?_⟩, ?_, ?_⟩, ⟨by omega, by omega, by omega, by omega, hn⟩, hB2⟩
  · exact ⟨(gk 5 7 16 (by simp [cpK]) (by omega)).1, rk 5 0 6 (by simp [cpR]) (by omega) (by omega) (by omega), rk 5 2 7 (by simp [cpR]) (by omega) (by omega) (by omega), rk 5 3 8 (by simp [cpR]) (by omega) (by omega) (by omega), rk 5 4 9 (by simp [cpR]) (by omega) (by omega) (by omega), rk 5 6 10 (by simp [cpR]) (by omega) (by omega) (by omega), rk 5 7 11 (by simp [cpR]) (by omega) (by omega) (by omega), (gk 6 100 (3 * n + 3) (by simp [cpK]) (by omega)).1, (gk 7 100 (n + 1) (by simp [cpK]) (by omega)).1, (gk 8 100 (n + 1) (by simp [cpK]) (by omega)).1, (gk 9 100 (n + 1) (by simp [cpK]) (by omega)).1, (gk 10 100 (n + 2) (by simp [cpK]) (by omega)).1, (gk 11 100 (n + 2) (by simp [cpK]) (by omega)).1, (gk 6 100 (3 * n + 3) (by simp [cpK]) (by omega)).2, (gk 7 100 (n + 1) (by simp [cpK]) (by omega)).2, (gk 8 100 (n + 1) (by simp [cpK]) (by omega)).2, (gk 9 100 (n + 1) (by simp [cpK]) (by omega)).2, (gk 10 100 (n + 2) (by simp [cpK]) (by omega)).2, (gk 11 100 (n + 2) (by simp [cpK]) (by omega)).2, fun x hx => by omega, by omega, by omega, by omega⟩
  · exact rk 5 9 12 (by simp [cpR]) (by omega) (by omega) (by omega)
  · exact (gk 12 100 (n + 1) (by simp [cpK]) (by omega)).1
  · exact (gk 12 100 (n + 1) (by simp [cpK]) (by omega)).2
  · exact rk 5 10 13 (by simp [cpR]) (by omega) (by omega) (by omega)
  · exact (gk 13 100 (n + 1) (by simp [cpK]) (by omega)).1
  · exact (gk 13 100 (n + 1) (by simp [cpK]) (by omega)).2
  · rw [(kk (B + 5) (by omega) (by omega)).2.2.1 5, cH_i5 (by omega)]
    show (if ct 5 5 = 99 then (fiS Sc).2 5 5 else Int32.ofNat ((fiS Sc).1 (ct 5 5))) = _
    have e5 : ct 5 5 = 5 := rfl
    rw [e5, if_neg (by omega), e8]
  · rw [ik o k (by omega) (by omega) (by omega) (by omega) (by omega)]
    exact fiS_o (by omega) (by omega) (by omega)
  · rw [ik 10 k (by omega) (by omega) (by omega) (by omega) (by omega)]
    exact s3 10 k (Or.inl rfl) hk
  · rw [ik 11 k (by omega) (by omega) (by omega) (by omega) (by omega)]
    exact s3 11 k (Or.inr rfl) hk
  · rw [ik 10 _ (by omega) (by omega) (by omega) (by omega) (by omega)]
    exact s1
  · rw [ik 11 _ (by omega) (by omega) (by omega) (by omega) (by omega)]
    exact s2
/-- a fault in the text -/
theorem y_186f {v : Nat} (F : CF hT) (hv : v < 1000000) {x1 x2 x3 x4 : Option Value} : ∀ Q, mw (d + 1) 186 Q 78 [some (.ref 0), x1, x2, x3, x4, some (.int (Int32.ofNat v)), some (.int 0)] [] hT = mw (d + 1) 186 Q 140 [some (.ref 0), x1, x2, x3, x4, some (.int (Int32.ofNat v)), some (.int 1)] [] (mh_si hT 0 9 (Int32.ofNat v)) := fun Q => by
  have g0 := F.g 0 11 15 (by decide +kernel)
  have ne : (Int32.ofNat v = -1) = False := nn_m2 hv
  clear F
  rw [s_186_78]
  simp (disch := omega) only [s_186_0, s_186_1, s_186_4, s_186_5, s_186_6, s_186_9, s_186_12, s_186_13, s_186_14, s_186_17, s_186_18, s_186_19, s_186_22, s_186_23, s_186_26, s_186_26n, s_186_27, s_186_28, s_186_31, s_186_34, s_186_35, s_186_36, s_186_39, s_186_39n, s_186_40, s_186_43, s_186_44, s_186_45, s_186_46, s_186_49, s_186_49n, s_186_51, s_186_53, s_186_56, s_186_58, s_186_59, s_186_60, s_186_63, s_186_64, s_186_65, s_186_68, s_186_69, s_186_71, s_186_72, s_186_75, s_186_80, s_186_81, s_186_84, s_186_85, s_186_87, s_186_88, s_186_90, s_186_93, s_186_96, s_186_97, s_186_100, s_186_101, s_186_102, s_186_105, s_186_108, s_186_109, s_186_111, s_186_112, s_186_113, s_186_116, s_186_119, s_186_122, s_186_123, s_186_124, s_186_127, s_186_130, s_186_133, s_186_134, s_186_137, s_186_141, s_186_144, s_186_147, s_186_148, s_186_151, s_186_152, s_186_155, s_186_158, s_186_159, s_186_160, s_186_163, s_186_164, s_186_165, s_186_168, s_186_169, s_186_172, s_186_175, s_186_178, s_186_179, s_186_182, s_186_184, e_186, mv_i_1, mv_l_1, mv_a_1, mv_a_2, mv_a_3, mk2_n, mk2_i, mk2_l, mk2_a, mk2_u, mk2_x, mB_T, mB_F, mS_cons, mS_nil, mSB_T, mSB_F, mca_nil, mca_i, mca_l, mca_r, mca_u, mca_x, mcat_i, mcat_l, mcat_r, mcat_u, mcat_x, mK_some, mK_none, va_rf_s, va_rf_n, lgc_eq, lgc_lt, lgc_gt, lgc_ge, lgc_le, mrd_104, mrd_105, mrd_106, mrd_107, true_and, and_true, and_self, false_and, and_false, true_or, or_true, false_or, or_false, not_true_eq_false, not_false_eq_true, mgb, mga, mgr, mN, reduceCtorEq, ↓reduceIte, eq_self, ge_iff_le, gt_iff_lt, hk_si, hk_sj, hk_sr, hl_si, hl_sj, hl_sr, hn_si, hn_sj, hn_sr, hs_si, hs_sj, hs_sr, hi_sj, hi_sr, hj_si, hj_sr, hr_si, hr_sj, hi_si, hj_sj, hr_sr, mg_si, mg_sj, mg_sr, Nat.reduceAdd, Nat.reduceMul, Nat.reduceSub, Nat.reduceLT, Nat.reduceGT, Nat.reduceEqDiff, Nat.reduceLeDiff, Nat.left_eq_add, Nat.add_eq_left, Nat.reduceMod, Nat.reduceDiv, Nat.succ_ne_self, g0, ne]
/-- a layout in order -/
theorem y_186s (F : CF hT) (a85 : ∀ Q, mcall d 85 [.ref 2, .ref B, .ref (B + 5)] hT Q = Q (some (.int 1)) h') {x1 x4 : Option Value} : ∀ Q, mw (d + 1) 186 Q 78 [some (.ref 0), x1, some (.ref B), some (.ref (B + 5)), x4, some (.int (-1)), some (.int 0)] [] hT = mw (d + 1) 186 Q 140 [some (.ref 0), x1, some (.ref B), some (.ref (B + 5)), x4, some (.int (-1)), some (.int 0)] [] h' := fun Q => by
  have g0 := F.g 0 11 15 (by decide +kernel)
  have t2 := F.f 0 2 2 (by decide +kernel)
  have g2 := F.g 2 4 20 (by decide +kernel)
  have ne : ((-1 : Int32) = -1) = True := by decide
  have n1 : ((1 : Int32) = 0) = False := by decide
  clear F
  rw [s_186_78]
  simp (disch := omega) only [s_186_0, s_186_1, s_186_4, s_186_5, s_186_6, s_186_9, s_186_12, s_186_13, s_186_14, s_186_17, s_186_18, s_186_19, s_186_22, s_186_23, s_186_26, s_186_26n, s_186_27, s_186_28, s_186_31, s_186_34, s_186_35, s_186_36, s_186_39, s_186_39n, s_186_40, s_186_43, s_186_44, s_186_45, s_186_46, s_186_49, s_186_49n, s_186_51, s_186_53, s_186_56, s_186_58, s_186_59, s_186_60, s_186_63, s_186_64, s_186_65, s_186_68, s_186_69, s_186_71, s_186_72, s_186_75, s_186_80, s_186_81, s_186_84, s_186_85, s_186_87, s_186_88, s_186_90, s_186_93, s_186_96, s_186_97, s_186_100, s_186_101, s_186_102, s_186_105, s_186_108, s_186_109, s_186_111, s_186_112, s_186_113, s_186_116, s_186_119, s_186_122, s_186_123, s_186_124, s_186_127, s_186_130, s_186_133, s_186_134, s_186_137, s_186_141, s_186_144, s_186_147, s_186_148, s_186_151, s_186_152, s_186_155, s_186_158, s_186_159, s_186_160, s_186_163, s_186_164, s_186_165, s_186_168, s_186_169, s_186_172, s_186_175, s_186_178, s_186_179, s_186_182, s_186_184, e_186, mv_i_1, mv_l_1, mv_a_1, mv_a_2, mv_a_3, mk2_n, mk2_i, mk2_l, mk2_a, mk2_u, mk2_x, mB_T, mB_F, mS_cons, mS_nil, mSB_T, mSB_F, mca_nil, mca_i, mca_l, mca_r, mca_u, mca_x, mcat_i, mcat_l, mcat_r, mcat_u, mcat_x, mK_some, mK_none, va_rf_s, va_rf_n, lgc_eq, lgc_lt, lgc_gt, lgc_ge, lgc_le, mrd_104, mrd_105, mrd_106, mrd_107, true_and, and_true, and_self, false_and, and_false, true_or, or_true, false_or, or_false, not_true_eq_false, not_false_eq_true, mgb, mga, mgr, mN, reduceCtorEq, ↓reduceIte, eq_self, ge_iff_le, gt_iff_lt, hk_si, hk_sj, hk_sr, hl_si, hl_sj, hl_sr, hn_si, hn_sj, hn_sr, hs_si, hs_sj, hs_sr, hi_sj, hi_sr, hj_si, hj_sr, hr_si, hr_sj, hi_si, hj_sj, hr_sr, mg_si, mg_sj, mg_sr, Nat.reduceAdd, Nat.reduceMul, Nat.reduceSub, Nat.reduceLT, Nat.reduceGT, Nat.reduceEqDiff, Nat.reduceLeDiff, Nat.left_eq_add, Nat.add_eq_left, Nat.reduceMod, Nat.reduceDiv, Nat.succ_ne_self, g0, t2, g2, ne, n1, a85]
/-- something is wrong with the program -/
theorem y_186w (F : CF hT) (F' : CF h') (hN : 2644 ≤ mh_n h') (a85 : ∀ Q, mcall (d + 2) 85 [.ref 2, .ref B, .ref (B + 5)] hT Q = Q (some (.int 0)) h') {w p : Int32} (e18 : mh_i h' 2 18 = w) (e19 : mh_i h' 2 19 = p) {x1 x4 : Option Value} : ∀ Q, mw (d + 3) 186 Q 78 [some (.ref 0), x1, some (.ref B), some (.ref (B + 5)), x4, some (.int (-1)), some (.int 0)] [] hT = mw (d + 3) 186 Q 140 [some (.ref 0), x1, some (.ref B), some (.ref (B + 5)), x4, some (.int (-1)), some (.int 2)] [] (leH (mh_si (mh_si h' 0 8 w) 0 9 p) 0) := fun Q => by
  have g0 := F.g 0 11 15 (by decide +kernel)
  have t2 := F.f 0 2 2 (by decide +kernel)
  have g2 := F.g 2 4 20 (by decide +kernel)
  have g0' := F'.g 0 11 15 (by decide +kernel)
  have t2' := F'.f 0 2 2 (by decide +kernel)
  have g2' := F'.g 2 4 20 (by decide +kernel)
  have F2 : CF (mh_si (mh_si h' 0 8 w) 0 9 p) := CF_fG (W := fun b j => b = 0 ∧ (j = 8 ∨ j = 9)) (fG_t (fG_si ⟨rfl, Or.inl rfl⟩) (fG_si ⟨rfl, Or.inr rfl⟩)) F'
  have a79 := c_79 (d := d) F2 (by show 2644 ≤ mh_n h'; omega)
  have ne : ((-1 : Int32) = -1) = True := by decide
  have n1 : ((0 : Int32) = 0) = True := by decide
  clear F F' F2
  rw [s_186_78]
  simp (disch := omega) only [s_186_0, s_186_1, s_186_4, s_186_5, s_186_6, s_186_9, s_186_12, s_186_13, s_186_14, s_186_17, s_186_18, s_186_19, s_186_22, s_186_23, s_186_26, s_186_26n, s_186_27, s_186_28, s_186_31, s_186_34, s_186_35, s_186_36, s_186_39, s_186_39n, s_186_40, s_186_43, s_186_44, s_186_45, s_186_46, s_186_49, s_186_49n, s_186_51, s_186_53, s_186_56, s_186_58, s_186_59, s_186_60, s_186_63, s_186_64, s_186_65, s_186_68, s_186_69, s_186_71, s_186_72, s_186_75, s_186_80, s_186_81, s_186_84, s_186_85, s_186_87, s_186_88, s_186_90, s_186_93, s_186_96, s_186_97, s_186_100, s_186_101, s_186_102, s_186_105, s_186_108, s_186_109, s_186_111, s_186_112, s_186_113, s_186_116, s_186_119, s_186_122, s_186_123, s_186_124, s_186_127, s_186_130, s_186_133, s_186_134, s_186_137, s_186_141, s_186_144, s_186_147, s_186_148, s_186_151, s_186_152, s_186_155, s_186_158, s_186_159, s_186_160, s_186_163, s_186_164, s_186_165, s_186_168, s_186_169, s_186_172, s_186_175, s_186_178, s_186_179, s_186_182, s_186_184, e_186, mv_i_1, mv_l_1, mv_a_1, mv_a_2, mv_a_3, mk2_n, mk2_i, mk2_l, mk2_a, mk2_u, mk2_x, mB_T, mB_F, mS_cons, mS_nil, mSB_T, mSB_F, mca_nil, mca_i, mca_l, mca_r, mca_u, mca_x, mcat_i, mcat_l, mcat_r, mcat_u, mcat_x, mK_some, mK_none, va_rf_s, va_rf_n, lgc_eq, lgc_lt, lgc_gt, lgc_ge, lgc_le, mrd_104, mrd_105, mrd_106, mrd_107, true_and, and_true, and_self, false_and, and_false, true_or, or_true, false_or, or_false, not_true_eq_false, not_false_eq_true, mgb, mga, mgr, mN, reduceCtorEq, ↓reduceIte, eq_self, ge_iff_le, gt_iff_lt, hk_si, hk_sj, hk_sr, hl_si, hl_sj, hl_sr, hn_si, hn_sj, hn_sr, hs_si, hs_sj, hs_sr, hi_sj, hi_sr, hj_si, hj_sr, hr_si, hr_sj, hi_si, hj_sj, hr_sr, mg_si, mg_sj, mg_sr, Nat.reduceAdd, Nat.reduceMul, Nat.reduceSub, Nat.reduceLT, Nat.reduceGT, Nat.reduceEqDiff, Nat.reduceLeDiff, Nat.left_eq_add, Nat.add_eq_left, Nat.reduceMod, Nat.reduceDiv, Nat.succ_ne_self, g0, t2, g2, ne, n1, a85, g0', t2', g2', e18, e19, a79]
end CQs
