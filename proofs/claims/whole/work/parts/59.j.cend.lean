set_option maxRecDepth 100000
/-! the class's end: tokens, source, parser; nothing is known at first -/
def z8H (h : mh_H) : mh_H := mh_si (mh_si h 0 8 0) 0 9 0
/-- what stands behind the parser -/
def RC3 (d : Nat) (h : mh_H) (n B : Nat) (Bt : Nat → Int32) (N : Nat) (r : pqr) : Prop := match r with
  | (j, none) => j < (toks Bt n).length ∧ ∃ h5 s', CPB h5 B n ∧ (∀ b j, b < B → mh_r h5 b j = mh_r h b j) ∧ ADD (cpW B) h h5 B (cpL n) ∧ s'.1 8 ≤ n / 3 + 2 ∧ ∀ Q, mcall d 186 [.ref 0, .int (Int32.ofNat n)] h Q = mw d 186 Q 78 [some (.ref 0), some (.int (Int32.ofNat n)), some (.ref B), some (.ref (B + 5)), some (.ref (B + 16)), some (.int (Int32.ofNat (tkPl (toks Bt n) j))), some (.int 0)] [] (leH (z8H (cH h5 B s')) 0)
  | (j, some t) => j < (toks Bt n).length ∧ ∃ h5 s', CPB h5 B n ∧ (∀ b j, b < B → mh_r h5 b j = mh_r h b j) ∧ ADD (cpW B) h h5 B (cpL n) ∧ CTK h5 B n (toks Bt n).length Bt (tkK (toks Bt n)) (tkPl (toks Bt n)) (tkWd (toks Bt n)) (fun i => nvl Bt (n - tkPl (toks Bt n) i) (tkPl (toks Bt n) i) 0) ∧ FNH (tkPl (toks Bt n)) (toks Bt n).length s' j ∧ 0 < s'.1 9 ∧ FGV s' ∧ fnZ (spe Bt n (tkPl (toks Bt n)) (tkWd (toks Bt n))) s' N t 0 0 (s'.1 9) (s'.1 8) ∧ ∀ Q, mcall d 186 [.ref 0, .int (Int32.ofNat n)] h Q = mw d 186 Q 78 [some (.ref 0), some (.int (Int32.ofNat n)), some (.ref B), some (.ref (B + 5)), some (.ref (B + 16)), some (.int (-1)), some (.int 0)] [] (leH (z8H (cH h5 B (fiS s'))) 0)
section CEs
variable {d n B : Nat} {h h1 : mh_H} {Bt : Nat → Int32}
theorem c_79 (F : CF h) (hN : 2644 ≤ mh_n h) : ∀ Q, mcall (d + 2) 79 [.ref 2] h Q = Q none (leH h 0) := by
  intro Q
  have g2 := F.g 2 4 20 (by decide +kernel)
  have t3 := F.f 2 3 20 (by decide +kernel)
  have g20 := (F.g 20 105 250 (by decide +kernel)).1
  have g20b := (F.g 20 105 250 (by decide +kernel)).2
  have l20 := F.l 20 105 250 (by decide +kernel)
  have t4 := F.f 2 4 21 (by decide +kernel)
  have g21 := F.g 21 100 250 (by decide +kernel)
  have l21 := F.l 21 100 250 (by decide +kernel)
  have t5 := F.f 2 5 22 (by decide +kernel)
  have g22 := F.g 22 100 250 (by decide +kernel)
  have l22 := F.l 22 100 250 (by decide +kernel)
  have ac : me_ac 105 = 9 := rfl
  have k107 : (105 : Nat) < 107 := by decide
  have n2 : (2 = mh_n h) = False := eq_false (by omega)
  have n20 : (20 = mh_n h) = False := eq_false (by omega)
  have n21 : (21 = mh_n h) = False := eq_false (by omega)
  have n22 : (22 = mh_n h) = False := eq_false (by omega)
  have g20c : 20 < mh_n h + 1 := by omega
  have mx0 : mx (0 : Int32) 250 = True := nn_mxT (a := 0) (n := 250) (by omega) (by omega)
  have cl0 : (0 : Int32).toNatClampNeg = 0 := rfl
  unfold leH nsH
  rw [show Int32.ofNat (0 + 1) = 1 from rfl]
  clear F
  simp (disch := omega) only [s_79_0, s_79_1, s_79_4, s_79_5, s_79_8, s_79_9, s_79_10, s_79_11, s_79_12, s_79_13, s_79_14, s_79_17, s_79_17n, s_79_18, s_79_19, s_79_22, s_79_23, s_79_24, s_79_25, s_79_26, s_79_29, s_79_30, s_79_31, s_79_32, s_79_33, s_79_34, s_79_37, e_79, s_164_0, s_164_1, s_164_4, s_164_5, s_164_6, s_164_9, s_164_10, s_164_11, s_164_14, s_164_15, s_164_16, s_164_19, s_164_20, s_164_21, s_164_24, s_164_25, s_164_27, s_164_30, s_164_31, s_164_33, s_164_36, e_164, mv_i_1, mv_l_1, mv_a_1, mv_a_2, mv_a_3, mk2_n, mk2_i, mk2_l, mk2_a, mk2_u, mk2_x, mB_T, mB_F, mS_cons, mS_nil, mSB_T, mSB_F, mca_nil, mca_i, mca_l, mca_r, mca_u, mca_x, mcat_i, mcat_l, mcat_r, mcat_u, mcat_x, mK_some, mK_none, va_rf_s, va_rf_n, lgc_eq, lgc_lt, lgc_gt, lgc_ge, lgc_le, mrd_104, mrd_105, mrd_106, mrd_107, true_and, and_true, and_self, false_and, and_false, true_or, or_true, false_or, or_false, not_true_eq_false, not_false_eq_true, mgb, mga, mgr, mN, reduceCtorEq, ↓reduceIte, eq_self, ge_iff_le, gt_iff_lt, hk_si, hk_sj, hk_sr, hl_si, hl_sj, hl_sr, hn_si, hn_sj, hn_sr, hs_si, hs_sj, hs_sr, hi_sj, hi_sr, hj_si, hj_sr, hr_si, hr_sj, hi_si, hj_sj, hr_sr, mg_si, mg_sj, mg_sr, Nat.reduceAdd, Nat.reduceMul, Nat.reduceSub, Nat.reduceLT, Nat.reduceGT, Nat.reduceEqDiff, Nat.reduceLeDiff, Nat.left_eq_add, Nat.add_eq_left, Nat.reduceMod, Nat.reduceDiv, Nat.succ_ne_self, hk_new, hl_new, hi_new, hr_nw, hn_new, mg_new, g2, t3, g20, g20b, g20c, l20, ac, k107, t4, g21, l21, t5, g22, l22, n2, n20, n21, n22, mx0, cl0]
theorem c_27 (F : CF h) : ∀ Q, mcall d 27 [.ref 67] h Q = Q none (mh_si (mh_si (mh_si h 67 4 0) 67 5 0) 67 3 0) := by
  intro Q
  have g := F.g 67 2 13 (by decide +kernel)
  clear F
  simp (disch := omega) only [s_27_0, s_27_1, s_27_2, s_27_5, s_27_6, s_27_7, s_27_10, s_27_11, s_27_12, s_27_15, e_27, mv_i_1, mv_l_1, mv_a_1, mv_a_2, mv_a_3, mk2_n, mk2_i, mk2_l, mk2_a, mk2_u, mk2_x, mB_T, mB_F, mS_cons, mS_nil, mSB_T, mSB_F, mca_nil, mca_i, mca_l, mca_r, mca_u, mca_x, mcat_i, mcat_l, mcat_r, mcat_u, mcat_x, mK_some, mK_none, va_rf_s, va_rf_n, lgc_eq, lgc_lt, lgc_gt, lgc_ge, lgc_le, mrd_104, mrd_105, mrd_106, mrd_107, true_and, and_true, and_self, false_and, and_false, true_or, or_true, false_or, or_false, not_true_eq_false, not_false_eq_true, mgb, mga, mgr, mN, reduceCtorEq, ↓reduceIte, eq_self, ge_iff_le, gt_iff_lt, hk_si, hk_sj, hk_sr, hl_si, hl_sj, hl_sr, hn_si, hn_sj, hn_sr, hs_si, hs_sj, hs_sr, hi_sj, hi_sr, hj_si, hj_sr, hr_si, hr_sj, hi_si, hj_sj, hr_sr, mg_si, mg_sj, mg_sr, Nat.reduceAdd, Nat.reduceMul, Nat.reduceSub, Nat.reduceLT, Nat.reduceGT, Nat.reduceEqDiff, Nat.reduceLeDiff, Nat.left_eq_add, Nat.add_eq_left, Nat.reduceMod, Nat.reduceDiv, Nat.succ_ne_self, g]
theorem CF_z8 (F : CF h) : CF (z8H h) := by
  unfold z8H
  exact CF_fG (W := fun b j => b = 0 ∧ (j = 8 ∨ j = 9)) (fG_t (fG_si ⟨rfl, Or.inl rfl⟩) (fG_si ⟨rfl, Or.inr rfl⟩)) F
/-- cells below stay -/
theorem CF_cH {s : cps} (F : CF h) (hB : 2644 ≤ B) (hn : B ≤ mh_n h) (e : mh_n h1 = B + 24) (k : ∀ b, b < B → mh_k h1 b = mh_k h b ∧ mh_l h1 b = mh_l h b) (r : ∀ b j, b < B → mh_r h1 b j = mh_r h b j) : CF (cH h1 B s) := by
  obtain ⟨F1, F2⟩ := F
  have q1 : ∀ t ∈ cfK, t.1 < 2644 := by decide +kernel
  have q2 : ∀ t ∈ cfR, t.1 < 2644 := by decide +kernel
  refine ⟨fun t ht => ?_, fun t ht => ?_⟩
  · have lt := q1 t ht
    obtain ⟨⟨a1, a2⟩, a3⟩ := F1 t ht
    obtain ⟨b1, b2⟩ := k t.1 (by omega)
    have i1 : mh_k (cH h1 B s) t.1 = mh_k h1 t.1 := by
      show (if B + 24 ≤ t.1 ∧ t.1 < B + (24 + s.1 8) then 9 else mh_k h1 t.1) = _
      rw [if_neg (by omega)]
    have i2 : mh_l (cH h1 B s) t.1 = mh_l h1 t.1 := by
      show (if B + 24 ≤ t.1 ∧ t.1 < B + (24 + s.1 8) then 17 else mh_l h1 t.1) = _
      rw [if_neg (by omega)]
    exact ⟨⟨by rw [i1, b1]; exact a1, by show t.1 < B + (24 + s.1 8); omega⟩, by rw [i2, b2]; exact a3⟩
  · have lt := q2 t ht
    have i3 : mh_r (cH h1 B s) t.1 t.2.1 = mh_r h1 t.1 t.2.1 := by
      show (if B + 24 ≤ t.1 ∧ t.1 < B + (24 + s.1 8) then none else if t.1 = B + 14 ∧ t.2.1 < s.1 8 then some (B + (24 + t.2.1)) else if t.1 = B + 16 ∧ t.2.1 = 8 ∧ 0 < s.1 8 then some (B + (23 + s.1 8)) else mh_r h1 t.1 t.2.1) = _
      rw [if_neg (by omega), if_neg (by omega), if_neg (by omega)]
    rw [i3, r t.1 _ (by omega)]
    exact F2 t ht
theorem g_h2 {a : Nat} {h0 h2 : mh_H} (g : mg h0 a 102) (l : mh_l h0 a = 16400) (hn : n < 16400) (mb : mbf h0) (hB : mh_n h0 = B) (a167 : ∀ Q, mcall (d + 7) 167 [.ref B, .ref a, .int (Int32.ofNat n)] (mh_new h0 10 5) Q = Q none h2) : mg h2 B 10 := by
  have ga := g.2
  have gk := g.1
  have n1 : mh_n (mh_new h0 10 5) = B + 1 := by rw [hn_new, hB]
  have gB : mg (mh_new h0 10 5) B 10 := ⟨by rw [hk_new, if_pos hB.symm], by rw [n1]; omega⟩
  have ga1 : mg (mh_new h0 10 5) a 102 := ⟨by rw [hk_new, if_neg (by omega)]; exact gk, by rw [n1]; omega⟩
  have la1 : mh_l (mh_new h0 10 5) a = 16400 := by rw [hl_new, if_neg (by omega)]; exact l
  have bf : me_bf (mh_new (mh_new h0 10 5) 102 n) a = true := mbf_bf (mbf_new (mbf_new mb)) (by show a < mh_n h0 + 1 + 1; omega) (by rw [hk_new, if_neg (by rw [n1]; omega), ga1.1]; decide)
  have e1 := c_167 (d := d + 6) gB ga1 la1 hn bf
  have A1 : ADD (cpW B) h0 (mh_new h0 10 5) B ([] ++ [(10, 5)]) := by
    have z := ADD_new (c := 10) (z := 5) (ADD_0 (W := cpW B) (h := h0))
    rw [hB] at z
    exact z
  have A2 : ADD (cpW B) h0 (tknH (mh_new h0 10 5) B a n) B [(10, 5), (102, n), (100, n + 1), (100, n + 1), (100, n + 1)] := tk_A (Y := B) (a := a) (n := n) A1 (by rw [n1]; omega) (fun j => Or.inl (by rw [n1]; omega))
  have q := (a167 (fun _ x => x = tknH (mh_new h0 10 5) B a n)).symm.trans (e1 (fun _ x => x = tknH (mh_new h0 10 5) B a n))
  have eq : h2 = tknH (mh_new h0 10 5) B a n := Eq.mpr q rfl
  rw [eq]
  obtain ⟨⟨m2, -⟩, -, c2⟩ := id A2
  have m2' : mh_n (tknH (mh_new h0 10 5) B a n) = B + 5 := m2
  exact ⟨(c2 0 (10, 5) rfl).1, by rw [m2']; omega⟩
theorem x_186 (F : CF h) (hB : mh_n h = B) (hB2 : 2644 ≤ B) (mb : mbf h) {fed : Nat} (e1 : mh_i h 0 1 = Int32.ofNat fed) (hf : n ≤ fed) (hfd : fed ≤ 16400) (hn : n ≤ 12000) (hb : ∀ i, i < n → mh_i h 1 i &&& 255 = Bt i) (hv : ∀ i, i < n → ∃ m, m < 256 ∧ Bt i = Int32.ofNat m) {N : Nat} (hN : 8 * (toks Bt n).length + 6 ≤ N + 1) : RC3 (d + 13) h n B Bt N (pgZ (tkK (toks Bt n)) (tkPl (toks Bt n)) (fun i => nvl Bt (n - tkPl (toks Bt n) i) (tkPl (toks Bt n) i) 0) (N + 1) (toks Bt n).length 0) := by
  have g0 := F.g 0 11 15 (by decide +kernel)
  have t0 := F.f 0 0 1 (by decide +kernel)
  obtain ⟨h2, h3, h4, h5, a167, a168, a125, a43, ⟨n3, n4⟩, CB, CT, r5, AD, s0, Z0, ec⟩ := en_pre (d := d + 5) (a := 1) (n := n) (B := B) (Bt := Bt) (F.g 1 102 16400 (by decide +kernel)) (F.l 1 102 16400 (by decide +kernel)) (by omega) mb hb hv hB
  have gh2 : mg h2 B 10 := g_h2 (d := d + 5) (a := 1) (F.g 1 102 16400 (by decide +kernel)) (F.l 1 102 16400 (by decide +kernel)) (by omega) mb hB a167
  have V := v_44 (d := d + 2) (s := s0) (f := (toks Bt n).length) (N := N) CB CT toks_P hN (Nat.le_refl _) Z0
  have kk : ∀ b, b < B → mh_k h5 b = mh_k h b ∧ mh_l h5 b = mh_l h b := fun b hb' => ⟨(AD.2.1 b hb').1, (AD.2.1 b hb').2.1⟩
  have n5 : mh_n h5 = B + 24 := CB.N
  have ent : ∀ (v : Int32) (hP : mh_H) (Q : Option Value → mh_H → Prop), (∃ s, hP = cH h5 B s) → (∀ Q, mcall (d + 2 + 10) 44 [.ref (B + 16)] h5 Q = Q (some (.int v)) hP) → mcall (d + 13) 186 [.ref 0, .int (Int32.ofNat n)] h Q = mw (d + 13) 186 Q 78 [some (.ref 0), some (.int (Int32.ofNat n)), some (.ref B), some (.ref (B + 5)), some (.ref (B + 16)), some (.int v), some (.int 0)] [] (leH (z8H hP) 0) := fun v hP Q hs a44 => by
    obtain ⟨s, hs⟩ := hs
    have FP : CF hP := by rw [hs]; exact CF_cH F hB2 (by omega) n5 kk r5
    have nP : mh_n hP = B + (24 + s.1 8) := by rw [hs]; rfl
    have FZ : CF (z8H hP) := CF_z8 FP
    have a79 := c_79 (d := d + 10) FZ (by show 2644 ≤ mh_n hP; omega)
    have gP := FP.g 0 11 15 (by decide +kernel)
    have gZ := FZ.g 0 11 15 (by decide +kernel)
    have tZ := FZ.f 0 2 2 (by decide +kernel)
    have gZ2 := FZ.g 2 4 20 (by decide +kernel)
    have neg : (Int32.ofNat n < 0) = False := nn_neg (by omega)
    have le : (Int32.ofNat n ≤ Int32.ofNat fed) = True := (nn_le (by omega) (by omega)).trans (eq_true hf)
    have z0 : (0 = B) = False := eq_false (by omega)
    have k0 := g0.1
    have a44' : ∀ Q, mcall (d + 12) 44 [.ref (B + 16)] h5 Q = Q (some (.int v)) hP := a44
    have k5 : mg h5 (B + 16) 3 := ⟨(AD.2.2 16 (3, 14) rfl).1, by omega⟩
    have lt0 : 0 < B + 1 := by omega
    have z8 : mh_si (mh_si hP 0 8 0) 0 9 0 = z8H hP := rfl
    clear F CB CT r5 AD V kk FP FZ Z0 a44
    simp (disch := omega) only [e_186, s_186_0, s_186_1, s_186_4, s_186_5, s_186_6, s_186_9, s_186_12, s_186_13, s_186_14, s_186_17, s_186_18, s_186_19, s_186_22, s_186_23, s_186_26, s_186_26n, s_186_27, s_186_28, s_186_31, s_186_34, s_186_35, s_186_36, s_186_39, s_186_39n, s_186_40, s_186_43, s_186_44, s_186_45, s_186_46, s_186_49, s_186_49n, s_186_51, s_186_53, s_186_56, s_186_58, s_186_59, s_186_60, s_186_63, s_186_64, s_186_65, s_186_68, s_186_69, s_186_71, s_186_72, s_186_75, s_186_80, s_186_81, s_186_84, s_186_85, s_186_87, s_186_88, s_186_90, s_186_93, s_186_96, s_186_97, s_186_100, s_186_101, s_186_102, s_186_105, s_186_108, s_186_109, s_186_111, s_186_112, s_186_113, s_186_116, s_186_119, s_186_122, s_186_123, s_186_124, s_186_127, s_186_130, s_186_133, s_186_134, s_186_137, s_186_140, s_186_141, s_186_144, s_186_147, s_186_148, s_186_151, s_186_152, s_186_155, s_186_158, s_186_159, s_186_160, s_186_163, s_186_164, s_186_165, s_186_168, s_186_169, s_186_172, s_186_175, s_186_178, s_186_179, s_186_182, s_186_184, e_186, mv_i_1, mv_l_1, mv_a_1, mv_a_2, mv_a_3, mk2_n, mk2_i, mk2_l, mk2_a, mk2_u, mk2_x, mB_T, mB_F, mS_cons, mS_nil, mSB_T, mSB_F, mca_nil, mca_i, mca_l, mca_r, mca_u, mca_x, mcat_i, mcat_l, mcat_r, mcat_u, mcat_x, mK_some, mK_none, va_rf_s, va_rf_n, lgc_eq, lgc_lt, lgc_gt, lgc_ge, lgc_le, mrd_104, mrd_105, mrd_106, mrd_107, true_and, and_true, and_self, false_and, and_false, true_or, or_true, false_or, or_false, not_true_eq_false, not_false_eq_true, mgb, mga, mgr, mN, reduceCtorEq, ↓reduceIte, eq_self, ge_iff_le, gt_iff_lt, hk_si, hk_sj, hk_sr, hl_si, hl_sj, hl_sr, hn_si, hn_sj, hn_sr, hs_si, hs_sj, hs_sr, hi_sj, hi_sr, hj_si, hj_sr, hr_si, hr_sj, hi_si, hj_sj, hr_sr, mg_si, mg_sj, mg_sr, Nat.reduceAdd, Nat.reduceMul, Nat.reduceSub, Nat.reduceLT, Nat.reduceGT, Nat.reduceEqDiff, Nat.reduceLeDiff, Nat.left_eq_add, Nat.add_eq_left, Nat.reduceMod, Nat.reduceDiv, Nat.succ_ne_self, hk_new, hl_new, hi_new, hr_nw, hn_new, mg_new, g0, k0, t0, e1, neg, le, hB, z0, lt0, a167, gh2, a168, n3, a125, n4, a43, a44', k5, n5, gP, z8, gZ, tZ, gZ2, a79]
  revert V
  generalize pgZ (tkK (toks Bt n)) (tkPl (toks Bt n)) (fun i => nvl Bt (n - tkPl (toks Bt n) i) (tkPl (toks Bt n) i) 0) (N + 1) (toks Bt n).length 0 = r
  intro V
  rcases r with ⟨j, _ | t⟩
  · obtain ⟨v1, s', v2, v3⟩ := V
    rw [ec] at v3
    exact ⟨v1, h5, s', CB, r5, AD, v2, fun Q => ent _ _ Q ⟨s', rfl⟩ v3⟩
  · obtain ⟨v1, s', v2, v3, v4, v5, v6⟩ := V
    rw [ec] at v6
    exact ⟨v1, h5, s', CB, r5, AD, CT, v2, v3, v4, v5, fun Q => ent _ _ Q ⟨fiS s', rfl⟩ v6⟩
end CEs
