set_option maxRecDepth 100000
/-! feed: bytes of a word -/
/-- the k-th byte of a word -/
def byW (w : Int32) (k : Nat) : Int32 := if k = 0 then (w >>> (24 : Int32)) &&& 255 else if k = 1 then (w >>> (16 : Int32)) &&& 255 else if k = 2 then (w >>> (8 : Int32)) &&& 255 else (w >>> (0 : Int32)) &&& 255
section BYs
theorem s8_and (y : BitVec 32) : (BitVec.signExtend 32 (BitVec.signExtend 8 y)) &&& 255#32 = y &&& 255#32 := by
  apply BitVec.eq_of_getLsbD_eq
  intro i hi
  have e255 : ∀ i : Fin 32, (255#32).getLsbD i.val = decide (i.val < 8) := by decide
  have e := e255 ⟨i, hi⟩
  rw [BitVec.getLsbD_and, BitVec.getLsbD_and, e]
  by_cases c : i < 8
  · simp only [BitVec.getLsbD_signExtend]
    simp [c, hi]
  · rw [decide_eq_false c, Bool.and_false, Bool.and_false]
theorem i8_and (y : Int32) : y.toInt8.toInt32 &&& 255 = y &&& 255 := by
  apply Int32.toBitVec_inj.mp
  rw [Int32.toBitVec_and, Int32.toBitVec_and, Int8.toBitVec_toInt32, Int32.toBitVec_toInt8]
  exact s8_and y.toBitVec
theorem us_and (x : BitVec 32) (c : Nat) (hc : c ≤ 24) : (x >>> c) &&& 255#32 = (x.sshiftRight c) &&& 255#32 := by
  apply BitVec.eq_of_getLsbD_eq
  intro i hi
  have e255 : ∀ i : Fin 32, (255#32).getLsbD i.val = decide (i.val < 8) := by decide
  have e := e255 ⟨i, hi⟩
  rw [BitVec.getLsbD_and, BitVec.getLsbD_and, e]
  by_cases c8 : i < 8
  · rw [BitVec.getLsbD_ushiftRight, BitVec.getLsbD_sshiftRight]
    have h1 : c + i < 32 := by omega
    have h2 : ¬ 32 ≤ i := by omega
    simp [h1, hi, h2]
  · rw [decide_eq_false c8, Bool.and_false, Bool.and_false]
theorem by_24 (x : Int32) : ((x.toUInt32 >>> ((24 : Int32).toUInt32 &&& Int32.toUInt32 31)).toInt32) &&& 255 = (x >>> (24 : Int32)) &&& 255 := by
  apply Int32.toBitVec_inj.mp
  have sm : ((24 : Int32).toBitVec.smod 32) = 24#32 := by decide
  rw [Int32.toBitVec_and, Int32.toBitVec_and, Int32.toBitVec_shiftRight, sm, BitVec.sshiftRight_eq']
  exact us_and x.toBitVec 24 (by decide)
theorem by_16 (x : Int32) : ((x.toUInt32 >>> ((16 : Int32).toUInt32 &&& Int32.toUInt32 31)).toInt32) &&& 255 = (x >>> (16 : Int32)) &&& 255 := by
  apply Int32.toBitVec_inj.mp
  have sm : ((16 : Int32).toBitVec.smod 32) = 16#32 := by decide
  rw [Int32.toBitVec_and, Int32.toBitVec_and, Int32.toBitVec_shiftRight, sm, BitVec.sshiftRight_eq']
  exact us_and x.toBitVec 16 (by decide)
theorem by_8 (x : Int32) : ((x.toUInt32 >>> ((8 : Int32).toUInt32 &&& Int32.toUInt32 31)).toInt32) &&& 255 = (x >>> (8 : Int32)) &&& 255 := by
  apply Int32.toBitVec_inj.mp
  have sm : ((8 : Int32).toBitVec.smod 32) = 8#32 := by decide
  rw [Int32.toBitVec_and, Int32.toBitVec_and, Int32.toBitVec_shiftRight, sm, BitVec.sshiftRight_eq']
  exact us_and x.toBitVec 8 (by decide)
theorem by_0 (x : Int32) : ((x.toUInt32 >>> ((0 : Int32).toUInt32 &&& Int32.toUInt32 31)).toInt32) &&& 255 = (x >>> (0 : Int32)) &&& 255 := by
  apply Int32.toBitVec_inj.mp
  have sm : ((0 : Int32).toBitVec.smod 32) = 0#32 := by decide
  rw [Int32.toBitVec_and, Int32.toBitVec_and, Int32.toBitVec_shiftRight, sm, BitVec.sshiftRight_eq']
  exact us_and x.toBitVec 0 (by decide)
theorem by_lt (w : Int32) (k : Nat) : ∃ m, m < 256 ∧ byW w k = Int32.ofNat m := by
  have q : ∀ y : Int32, ∃ m, m < 256 ∧ y &&& 255 = Int32.ofNat m := fun y => by
    refine ⟨y.toBitVec.toNat % 256, Nat.mod_lt _ (by decide), ?_⟩
    apply Int32.toBitVec_inj.mp
    rw [Int32.toBitVec_and]
    apply BitVec.eq_of_toNat_eq
    rw [BitVec.toNat_and]
    show y.toBitVec.toNat &&& (BitVec.ofNat 32 255).toNat = (BitVec.ofNat 32 (y.toBitVec.toNat % 256)).toNat
    rw [BitVec.toNat_ofNat, BitVec.toNat_ofNat, show 255 % 2 ^ 32 = 2 ^ 8 - 1 from by decide, Nat.and_two_pow_sub_one_eq_mod]
    have := Nat.mod_lt y.toBitVec.toNat (show 256 > 0 by decide)
    rw [Nat.mod_eq_of_lt (show y.toBitVec.toNat % 256 < 2 ^ 32 by omega)]
  unfold byW
  by_cases c0 : k = 0
  · rw [if_pos c0]; exact q _
  rw [if_neg c0]
  by_cases c1 : k = 1
  · rw [if_pos c1]; exact q _
  rw [if_neg c1]
  by_cases c2 : k = 2
  · rw [if_pos c2]; exact q _
  rw [if_neg c2]
  exact q _
end BYs
/-- one byte more -/
def fdW (F n : Nat) (b j : Nat) : Prop := (b = 1 ∧ F ≤ j ∧ j < F + n) ∨ (b = 0 ∧ j = 1)
section FEs
variable {d F : Nat} {h h1 : mh_H} {w : Int32}
theorem t_185 (C : CF h) (e1 : mh_i h 0 1 = Int32.ofNat F) (hF : F < 16400) {c c' : Int32} (hc : (c < 0) = False) (hcc : c + -8 = c') {v : Int32} (hv : ((w.toUInt32 >>> (c.toUInt32 &&& Int32.toUInt32 31)).toInt32) &&& 255 = v) : ∃ h', fG (fdW F 1) h h' ∧ CF h' ∧ mh_i h' 0 1 = Int32.ofNat (F + 1) ∧ mh_i h' 1 F &&& 255 = v ∧ ∀ Q, mw d 185 Q 3 [some (.ref 0), some (.int w), some (.int c)] [] h = mw d 185 Q 3 [some (.ref 0), some (.int w), some (.int c')] [] h' := by
  have g0 := C.g 0 11 15 (by decide +kernel)
  have t0 := C.f 0 0 1 (by decide +kernel)
  have g1 := C.g 1 102 16400 (by decide +kernel)
  have l1 := C.l 1 102 16400 (by decide +kernel)
  have gk := g1.1
  have gn := g1.2
  have e1' : Int32.ofNat F + 1 = Int32.ofNat (F + 1) := nn_add (a := F) (b := 1)
  have fr : fG (fdW F 1) h (mh_si (mh_si h 1 F (mna h 1 ((w.toUInt32 >>> (c.toUInt32 &&& Int32.toUInt32 31)).toInt32).toInt8.toInt32)) 0 1 (Int32.ofNat (F + 1))) := fG_t (fG_si (Or.inl ⟨rfl, Nat.le_refl _, by omega⟩)) (fG_si (Or.inr ⟨rfl, rfl⟩))
  refine ⟨_, fr, CF_fG fr C, by rw [hi_si, if_pos ⟨rfl, rfl⟩], ?_, fun Q => ?_⟩
  · rw [hi_si, if_neg (by omega), hi_si, if_pos ⟨rfl, rfl⟩]
    unfold mna
    rw [if_pos g1.1]
    show (((w.toUInt32 >>> (c.toUInt32 &&& Int32.toUInt32 31)).toInt32).toInt8.toInt32).toInt8.toInt32 &&& 255 = v
    rw [i8_and, i8_and]
    exact hv
  · clear C fr
    rw [s_185_3]
    simp (disch := omega) only [s_185_0, s_185_2, s_185_4, s_185_7, s_185_8, s_185_11, s_185_12, s_185_15, s_185_16, s_185_17, s_185_18, s_185_19, s_185_20, s_185_21, s_185_22, s_185_25, s_185_26, s_185_27, s_185_30, s_185_33, s_185_36, e_185, mv_i_1, mv_l_1, mv_a_1, mv_a_2, mv_a_3, mk2_n, mk2_i, mk2_l, mk2_a, mk2_u, mk2_x, mB_T, mB_F, mS_cons, mS_nil, mSB_T, mSB_F, mca_nil, mca_i, mca_l, mca_r, mca_u, mca_x, mcat_i, mcat_l, mcat_r, mcat_u, mcat_x, mK_some, mK_none, va_rf_s, va_rf_n, lgc_eq, lgc_lt, lgc_gt, lgc_ge, lgc_le, mrd_104, mrd_105, mrd_106, mrd_107, true_and, and_true, and_self, false_and, and_false, true_or, or_true, false_or, or_false, not_true_eq_false, not_false_eq_true, mgb, mga, mgr, mN, reduceCtorEq, ↓reduceIte, eq_self, ge_iff_le, gt_iff_lt, hk_si, hk_sj, hk_sr, hl_si, hl_sj, hl_sr, hn_si, hn_sj, hn_sr, hs_si, hs_sj, hs_sr, hi_sj, hi_sr, hj_si, hj_sr, hr_si, hr_sj, hi_si, hj_sj, hr_sr, mg_si, mg_sj, mg_sr, Nat.reduceAdd, Nat.reduceMul, Nat.reduceSub, Nat.reduceLT, Nat.reduceGT, Nat.reduceEqDiff, Nat.reduceLeDiff, Nat.left_eq_add, Nat.add_eq_left, Nat.reduceMod, Nat.reduceDiv, Nat.succ_ne_self, hc, g0, t0, e1, gk, gn, l1, nn_mxT, nn_clamp, e1', hcc]
/-- a word -/
theorem c_185 (C : CF h) (e1 : mh_i h 0 1 = Int32.ofNat F) (hF : F + 4 ≤ 16400) : ∃ h', fG (fdW F 4) h h' ∧ CF h' ∧ mh_i h' 0 1 = Int32.ofNat (F + 4) ∧ (∀ k, k < 4 → mh_i h' 1 (F + k) &&& 255 = byW w k) ∧ ∀ Q, mcall d 185 [.ref 0, .int w] h Q = Q none h' := by
  obtain ⟨h1, a1, a2, a3, a4, a5⟩ := t_185 (d := d) (w := w) (c := 24) (c' := 16) C e1 (by omega) (by decide) (by decide) (by_24 w)
  obtain ⟨h2, b1, b2, b3, b4, b5⟩ := t_185 (d := d) (w := w) (c := 16) (c' := 8) a2 a3 (by omega) (by decide) (by decide) (by_16 w)
  obtain ⟨h3, c1, c2, c3, c4, c5⟩ := t_185 (d := d) (w := w) (c := 8) (c' := 0) b2 b3 (by omega) (by decide) (by decide) (by_8 w)
  obtain ⟨h4, d1, d2, d3, d4, d5⟩ := t_185 (d := d) (w := w) (c := 0) (c' := -8) c2 c3 (by omega) (by decide) (by decide) (by_0 w)
  have q2 : ∀ j, j < F + 1 → mh_i h2 1 j = mh_i h1 1 j := fun j hj => (b1.2.2.2.2.2 1 j (by unfold fdW; omega)).1
  have q3 : ∀ j, j < F + 2 → mh_i h3 1 j = mh_i h2 1 j := fun j hj => (c1.2.2.2.2.2 1 j (by unfold fdW; omega)).1
  have q4 : ∀ j, j < F + 3 → mh_i h4 1 j = mh_i h3 1 j := fun j hj => (d1.2.2.2.2.2 1 j (by unfold fdW; omega)).1
  refine ⟨h4, fG_t (fG_sub a1 (fun b j z => by unfold fdW at z ⊢; omega)) (fG_t (fG_sub b1 (fun b j z => by unfold fdW at z ⊢; omega)) (fG_t (fG_sub c1 (fun b j z => by unfold fdW at z ⊢; omega)) (fG_sub d1 (fun b j z => by unfold fdW at z ⊢; omega)))), d2, d3, fun k hk => ?_, fun Q => ?_⟩
  · have : k = 0 ∨ k = 1 ∨ k = 2 ∨ k = 3 := by omega
    rcases this with e | e | e | e <;> subst e
    · rw [q4 _ (by omega), q3 _ (by omega), q2 _ (by omega)]; exact a4
    · rw [q4 _ (by omega), q3 _ (by omega)]; exact b4
    · rw [q4 _ (by omega)]; exact c4
    · exact d4
  · have ent : mcall d 185 [.ref 0, .int w] h Q = mw d 185 Q 3 [some (.ref 0), some (.int w), some (.int 24)] [] h := by
      clear a1 b1 c1 d1 C a2 b2 c2 d2 q2 q3 q4
      simp (disch := omega) only [e_185, s_185_0, s_185_2, s_185_4, s_185_7, s_185_8, s_185_11, s_185_12, s_185_15, s_185_16, s_185_17, s_185_18, s_185_19, s_185_20, s_185_21, s_185_22, s_185_25, s_185_26, s_185_27, s_185_30, s_185_33, s_185_36, e_185, mv_i_1, mv_l_1, mv_a_1, mv_a_2, mv_a_3, mk2_n, mk2_i, mk2_l, mk2_a, mk2_u, mk2_x, mB_T, mB_F, mS_cons, mS_nil, mSB_T, mSB_F, mca_nil, mca_i, mca_l, mca_r, mca_u, mca_x, mcat_i, mcat_l, mcat_r, mcat_u, mcat_x, mK_some, mK_none, va_rf_s, va_rf_n, lgc_eq, lgc_lt, lgc_gt, lgc_ge, lgc_le, mrd_104, mrd_105, mrd_106, mrd_107, true_and, and_true, and_self, false_and, and_false, true_or, or_true, false_or, or_false, not_true_eq_false, not_false_eq_true, mgb, mga, mgr, mN, reduceCtorEq, ↓reduceIte, eq_self, ge_iff_le, gt_iff_lt, Nat.reduceAdd, Nat.reduceMul, Nat.reduceSub, Nat.reduceLT, Nat.reduceGT, Nat.reduceEqDiff, Nat.reduceLeDiff, Nat.left_eq_add, Nat.add_eq_left, Nat.reduceMod, Nat.reduceDiv, Nat.succ_ne_self]
    rw [ent, a5 Q, b5 Q, c5 Q, d5 Q]
    have m8 : ((-8 : Int32) < 0) = True := by decide
    clear a1 b1 c1 d1 C a2 b2 c2 d2 q2 q3 q4 ent
    rw [s_185_3]
    simp (disch := omega) only [s_185_0, s_185_2, s_185_4, s_185_7, s_185_8, s_185_11, s_185_12, s_185_15, s_185_16, s_185_17, s_185_18, s_185_19, s_185_20, s_185_21, s_185_22, s_185_25, s_185_26, s_185_27, s_185_30, s_185_33, s_185_36, e_185, mv_i_1, mv_l_1, mv_a_1, mv_a_2, mv_a_3, mk2_n, mk2_i, mk2_l, mk2_a, mk2_u, mk2_x, mB_T, mB_F, mS_cons, mS_nil, mSB_T, mSB_F, mca_nil, mca_i, mca_l, mca_r, mca_u, mca_x, mcat_i, mcat_l, mcat_r, mcat_u, mcat_x, mK_some, mK_none, va_rf_s, va_rf_n, lgc_eq, lgc_lt, lgc_gt, lgc_ge, lgc_le, mrd_104, mrd_105, mrd_106, mrd_107, true_and, and_true, and_self, false_and, and_false, true_or, or_true, false_or, or_false, not_true_eq_false, not_false_eq_true, mgb, mga, mgr, mN, reduceCtorEq, ↓reduceIte, eq_self, ge_iff_le, gt_iff_lt, Nat.reduceAdd, Nat.reduceMul, Nat.reduceSub, Nat.reduceLT, Nat.reduceGT, Nat.reduceEqDiff, Nat.reduceLeDiff, Nat.left_eq_add, Nat.add_eq_left, Nat.reduceMod, Nat.reduceDiv, Nat.succ_ne_self, m8]
/-- the words of feed -/
def wdA (w1 w2 w3 w4 w5 : Int32) (i : Nat) : Int32 := if i < 4 then w1 else if i < 8 then w2 else if i < 12 then w3 else if i < 16 then w4 else w5
variable {w1 w2 w3 w4 w5 : Int32}
theorem v_184n (C : CF h) (e1 : mh_i h 0 1 = Int32.ofNat F) (hF : 16400 < F + 20) (hF2 : F ≤ 16400) : ∀ Q, mcall (d + 1) 184 [.ref 0, .int w1, .int w2, .int w3, .int w4, .int w5] h Q = Q (some (.int (-1))) h := fun Q => by
  have g0 := C.g 0 11 15 (by decide +kernel)
  have e2 : Int32.ofNat F + 20 = Int32.ofNat (F + 20) := nn_add (a := F) (b := 20)
  have le : (Int32.ofNat (F + 20) ≤ 16400) = False := by rw [show (16400 : Int32) = Int32.ofNat 16400 from rfl, nn_le (by omega) (by omega)]; exact eq_false (by omega)
  clear C
  simp (disch := omega) only [e_184, s_184_0, s_184_1, s_184_4, s_184_6, s_184_7, s_184_10, s_184_13, s_184_14, s_184_15, s_184_16, s_184_17, s_184_20, s_184_21, s_184_22, s_184_25, s_184_26, s_184_27, s_184_30, s_184_31, s_184_33, s_184_36, s_184_37, s_184_39, s_184_42, s_184_43, s_184_46, e_184, mv_i_1, mv_l_1, mv_a_1, mv_a_2, mv_a_3, mk2_n, mk2_i, mk2_l, mk2_a, mk2_u, mk2_x, mB_T, mB_F, mS_cons, mS_nil, mSB_T, mSB_F, mca_nil, mca_i, mca_l, mca_r, mca_u, mca_x, mcat_i, mcat_l, mcat_r, mcat_u, mcat_x, mK_some, mK_none, va_rf_s, va_rf_n, lgc_eq, lgc_lt, lgc_gt, lgc_ge, lgc_le, mrd_104, mrd_105, mrd_106, mrd_107, true_and, and_true, and_self, false_and, and_false, true_or, or_true, false_or, or_false, not_true_eq_false, not_false_eq_true, mgb, mga, mgr, mN, reduceCtorEq, ↓reduceIte, eq_self, ge_iff_le, gt_iff_lt, hk_si, hk_sj, hk_sr, hl_si, hl_sj, hl_sr, hn_si, hn_sj, hn_sr, hs_si, hs_sj, hs_sr, hi_sj, hi_sr, hj_si, hj_sr, hr_si, hr_sj, hi_si, hj_sj, hr_sr, mg_si, mg_sj, mg_sr, Nat.reduceAdd, Nat.reduceMul, Nat.reduceSub, Nat.reduceLT, Nat.reduceGT, Nat.reduceEqDiff, Nat.reduceLeDiff, Nat.left_eq_add, Nat.add_eq_left, Nat.reduceMod, Nat.reduceDiv, Nat.succ_ne_self, g0, e1, e2, le]
theorem v_184 (C : CF h) (e1 : mh_i h 0 1 = Int32.ofNat F) (hF : F + 20 ≤ 16400) : ∃ h', fG (fdW F 20) h h' ∧ mh_i h' 0 1 = Int32.ofNat (F + 20) ∧ (∀ i, i < 20 → mh_i h' 1 (F + i) &&& 255 = byW (wdA w1 w2 w3 w4 w5 i) (i % 4)) ∧ ∀ Q, mcall (d + 1) 184 [.ref 0, .int w1, .int w2, .int w3, .int w4, .int w5] h Q = Q (some (.int (Int32.ofNat (F + 20)))) h' := by
  obtain ⟨h1, a1, a2, a3, a4, a5⟩ := c_185 (d := d) (w := w1) C e1 (by omega)
  obtain ⟨h2, b1, b2, b3, b4, b5⟩ := c_185 (d := d) (w := w2) a2 a3 (by omega)
  obtain ⟨h3, c1, c2, c3, c4, c5⟩ := c_185 (d := d) (w := w3) b2 b3 (by omega)
  obtain ⟨h4, d1, d2, d3, d4, d5⟩ := c_185 (d := d) (w := w4) c2 c3 (by omega)
  obtain ⟨h5, f1, f2, f3, f4, f5⟩ := c_185 (d := d) (w := w5) d2 d3 (by omega)
  have q2 : ∀ j, j < F + 4 → mh_i h2 1 j = mh_i h1 1 j := fun j hj => (b1.2.2.2.2.2 1 j (by unfold fdW; omega)).1
  have q3 : ∀ j, j < F + 8 → mh_i h3 1 j = mh_i h2 1 j := fun j hj => (c1.2.2.2.2.2 1 j (by unfold fdW; omega)).1
  have q4 : ∀ j, j < F + 12 → mh_i h4 1 j = mh_i h3 1 j := fun j hj => (d1.2.2.2.2.2 1 j (by unfold fdW; omega)).1
  have q5 : ∀ j, j < F + 16 → mh_i h5 1 j = mh_i h4 1 j := fun j hj => (f1.2.2.2.2.2 1 j (by unfold fdW; omega)).1
  refine ⟨h5, fG_t (fG_sub a1 (fun b j z => by unfold fdW at z ⊢; omega)) (fG_t (fG_sub b1 (fun b j z => by unfold fdW at z ⊢; omega)) (fG_t (fG_sub c1 (fun b j z => by unfold fdW at z ⊢; omega)) (fG_t (fG_sub d1 (fun b j z => by unfold fdW at z ⊢; omega)) (fG_sub f1 (fun b j z => by unfold fdW at z ⊢; omega))))), by rw [f3], fun i hi => ?_, fun Q => ?_⟩
  · unfold wdA
    by_cases c : i < 4
    · rw [if_pos c, q5 _ (by omega), q4 _ (by omega), q3 _ (by omega), q2 _ (by omega), show i % 4 = i from by omega]
      exact a4 i c
    rw [if_neg c]
    by_cases c : i < 8
    · rw [if_pos c, q5 _ (by omega), q4 _ (by omega), q3 _ (by omega), show F + i = F + 4 + (i - 4) from by omega, show i % 4 = i - 4 from by omega]
      exact b4 (i - 4) (by omega)
    rw [if_neg c]
    by_cases c : i < 12
    · rw [if_pos c, q5 _ (by omega), q4 _ (by omega), show F + i = F + 4 + 4 + (i - 8) from by omega, show i % 4 = i - 8 from by omega]
      exact c4 (i - 8) (by omega)
    rw [if_neg c]
    by_cases c : i < 16
    · rw [if_pos c, q5 _ (by omega), show F + i = F + 4 + 4 + 4 + (i - 12) from by omega, show i % 4 = i - 12 from by omega]
      exact d4 (i - 12) (by omega)
    rw [if_neg c, show F + i = F + 4 + 4 + 4 + 4 + (i - 16) from by omega, show i % 4 = i - 16 from by omega]
    exact f4 (i - 16) (by omega)
  · have g0 := C.g 0 11 15 (by decide +kernel)
    have g1 := a2.g 0 11 15 (by decide +kernel)
    have g2 := b2.g 0 11 15 (by decide +kernel)
    have g3 := c2.g 0 11 15 (by decide +kernel)
    have g4 := d2.g 0 11 15 (by decide +kernel)
    have g5 := f2.g 0 11 15 (by decide +kernel)
    have e2 : Int32.ofNat F + 20 = Int32.ofNat (F + 20) := nn_add (a := F) (b := 20)
    have le : (Int32.ofNat (F + 20) ≤ 16400) = True := by rw [show (16400 : Int32) = Int32.ofNat 16400 from rfl, nn_le (by omega) (by omega)]; exact eq_true (by omega)
    have f3' : mh_i h5 0 1 = Int32.ofNat (F + 20) := f3
    clear C a1 b1 c1 d1 f1 a2 b2 c2 d2 f2 q2 q3 q4 q5 f3
    simp (disch := omega) only [e_184, s_184_0, s_184_1, s_184_4, s_184_6, s_184_7, s_184_10, s_184_13, s_184_14, s_184_15, s_184_16, s_184_17, s_184_20, s_184_21, s_184_22, s_184_25, s_184_26, s_184_27, s_184_30, s_184_31, s_184_33, s_184_36, s_184_37, s_184_39, s_184_42, s_184_43, s_184_46, e_184, mv_i_1, mv_l_1, mv_a_1, mv_a_2, mv_a_3, mk2_n, mk2_i, mk2_l, mk2_a, mk2_u, mk2_x, mB_T, mB_F, mS_cons, mS_nil, mSB_T, mSB_F, mca_nil, mca_i, mca_l, mca_r, mca_u, mca_x, mcat_i, mcat_l, mcat_r, mcat_u, mcat_x, mK_some, mK_none, va_rf_s, va_rf_n, lgc_eq, lgc_lt, lgc_gt, lgc_ge, lgc_le, mrd_104, mrd_105, mrd_106, mrd_107, true_and, and_true, and_self, false_and, and_false, true_or, or_true, false_or, or_false, not_true_eq_false, not_false_eq_true, mgb, mga, mgr, mN, reduceCtorEq, ↓reduceIte, eq_self, ge_iff_le, gt_iff_lt, hk_si, hk_sj, hk_sr, hl_si, hl_sj, hl_sr, hn_si, hn_sj, hn_sr, hs_si, hs_sj, hs_sr, hi_sj, hi_sr, hj_si, hj_sr, hr_si, hr_sj, hi_si, hj_sj, hr_sr, mg_si, mg_sj, mg_sr, Nat.reduceAdd, Nat.reduceMul, Nat.reduceSub, Nat.reduceLT, Nat.reduceGT, Nat.reduceEqDiff, Nat.reduceLeDiff, Nat.left_eq_add, Nat.add_eq_left, Nat.reduceMod, Nat.reduceDiv, Nat.succ_ne_self, g0, e1, e2, le, a5, g1, b5, g2, c5, g3, d5, g4, f5, g5, f3']
end FEs
