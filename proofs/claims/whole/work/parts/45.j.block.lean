set_option maxRecDepth 100000
/-! CHECKS: block -/
section COa
variable {d : Nat} {h h1 h2 : mh_H} {s0 s1 o o' p q k z e0 br T x to n ho fa m m2 b f e g : Nat} {E E1 : nv} {D : fd} {w0 w1 : wd} {s X O F1 F2 : Option ab} {G : pgm} {J : pin} {cl : Nat → Option ab} {cs r c bs t : tr} {A : ab} {fst oth : Nat → Nat}
/-- a statement -/
theorem stmc (H : CHX G J e0 cl) (B : BQc G J D cl e0 fst oth f) (L : LN G J D (LW G J D f) n cs p E) (hen : J.en p = E.en) (e1 : G.n p = E.nu) (e2 : G.a p = E.ar) (e3 : ∀ x, x < E.ar → E.rm x = G.rm p x) (hpE : p < G.E p) (hE : G.E p ≤ e0) (hfu : E.fu ≤ D.c) {nx' : Nat} (U : if G.kd p = 4 then fst p = (if p + 1 < G.E p then p + 1 else nx') ∧ SUC G fst oth f (p + 1) (G.E p) nx'
    else if G.kd p = 5 then fst p = (if p + 1 < G.M p then p + 1 else nx') ∧ oth p = (if G.M p < G.E p then G.M p else nx') ∧ SUC G fst oth f (p + 1) (G.M p) nx' ∧ SUC G fst oth f (G.M p) (G.E p) nx'
    else if G.kd p = 6 then fst p = (if p + 1 < G.E p then p + 1 else p) ∧ oth p = nx' ∧ SUC G fst oth f (p + 1) (G.E p) p
    else fst p = nx') (hnx : nx' ≤ e0) (hdm : G.n nx' ≤ (nx n cs E).nu ∧ G.a nx' ≤ (nx n cs E).ar) (S : SC h s0 o E D w0 G e0 cl br) (N : nd (mh_i h 93) (mh_i h 95) (mh_i h 97) k (.branch n cs r)) (hb : k + 1 + ts cs ≤ 26000) (hs : s0 + 3 * (G.E p - p) + 360 ≤ 2048) (hd : 4 * (G.E p - p) + 839 ≤ d) : ∃ h' b', rq s0 (sV o E.T) h h' ∧ SC h' s0 o (nx n cs E) D w0 G e0 cl b' ∧ BRK (VI G cl fst oth) p (G.E p) br b' ∧ ∀ Q, mcall d 261 [.ref 115, .int (Int32.ofNat k), .int (Int32.ofNat p), .int (Int32.ofNat nx'), .ref o] h Q = Q none h' := by
  have hp : p < e0 := by omega
  by_cases h789 : ¬ tK n = 7 ∧ ¬ tK n = 8 ∧ ¬ tK n = 9
  · have kd9 : G.kd p ≠ 4 ∧ G.kd p ≠ 5 ∧ G.kd p ≠ 6 ∧ G.E p = p + 1 := by
      rcases L with ⟨z, m, u, t, -, q, q2, -⟩ | ⟨z, m, u, q0, u', r', -, q, q2, -⟩ | ⟨z, m, u, t, -, q, q2, -⟩ | ⟨z, m, u, t, -, q, q2, -⟩ | ⟨z, -⟩ | ⟨z, -⟩ | ⟨z, -⟩ | ⟨z, q, q2, -⟩ | ⟨z, q, q2, -⟩
      · omega
      · omega
      · omega
      · omega
      · exact absurd z h789.1
      · exact absurd z h789.2.1
      · exact absurd z h789.2.2
      · omega
      · omega
    obtain ⟨k4, k5, k6, hEE⟩ := kd9
    rw [if_neg k4, if_neg k5, if_neg k6] at U
    obtain ⟨h', x', S', run⟩ := stm_sc (d := d) (to := nx') H L h789 hen e1 e2 e3 hp S N hb (by omega) (by omega) hnx hdm
    have bb := brk_1 (S := VI G cl fst oth) (p := p) (br := br) (VI_1 (cl := cl) (fst := fst) (oth := oth) (by omega))
    rw [U, ← hEE] at bb
    exact ⟨h', _, x', S', bb, run⟩
  · have nx0 : nx n cs E = E := by
      have z1 : ¬ tK n = 3 := fun z => h789 (by omega)
      have z2 : ¬ tK n = 4 := fun z => h789 (by omega)
      unfold nx; rw [if_neg z1, if_neg z2]
    rw [nx0] at hdm ⊢
    rcases L with ⟨z, -⟩ | ⟨z, -⟩ | ⟨z, -⟩ | ⟨z, -⟩ | ⟨hk, m, u, m2, u2, t, g, tk, rfl, w1, w2, w3, w4, w5, w6, w7, w8, w9, w10, w11, w12⟩ | ⟨hk, m, c, b, bs, q, rfl, w1, w2, w3, w4, w5, w6, w7, w8, w9⟩ | ⟨hk, m, c, b, bs, u, rfl, w1, w2, w3, w4, w5, w6⟩ | ⟨z, -⟩ | ⟨z, -⟩
    · exact absurd ⟨by omega, by omega, by omega⟩ h789
    · exact absurd ⟨by omega, by omega, by omega⟩ h789
    · exact absurd ⟨by omega, by omega, by omega⟩ h789
    · exact absurd ⟨by omega, by omega, by omega⟩ h789
    · rw [if_pos w1] at U
      exact stm_cc H B hk hen e1 e2 e3 w1 w2 w3 w4 hpE hE hfu w5 w6 w7 w8 w9 w10 w11 w12 U.1 U.2 hnx hdm S N hb hs hd
    · rw [if_neg (by omega), if_pos w1] at U
      exact stm_ic H B hk hen e1 e2 e3 w1 w2 w3 w4 w5 w6 w7 hE w8 w9 U.1 U.2.1 U.2.2.1 U.2.2.2 hnx hdm S N hb hs hd
    · rw [if_neg (by omega), if_neg (by omega), if_pos w1] at U
      exact stm_wc H B hk hen e1 e2 e3 w1 w2 w3 w4 w5 hpE hE w6 U.1 U.2.1 U.2.2 hnx hdm S N hb hs hd
    · exact absurd ⟨by omega, by omega, by omega⟩ h789
    · exact absurd ⟨by omega, by omega, by omega⟩ h789
/-- one statement of a BLOCK, whatever the mode -/
theorem blk_1c (R : RA h s0 E D w0) (hw : wW w0 ≤ 4000) (hk : k < b + z) (hb : b + z ≤ 26000) (hb2 : b < 26000) (hz : mh_i h 97 b = Int32.ofNat z) (hpE : p < G.E p) (hE : G.E p ≤ 249) {eN nx' : Nat} (heN : eN ≤ 249) (cP : ∀ Q, mcall d 254 [.ref 115, .int (Int32.ofNat k)] h Q = Q (some (.int (Int32.ofNat (G.E p - p)))) h) (R1 : RA h1 s1 E1 D w1) (hz1 : mh_i h1 97 k = Int32.ofNat (1 + ts cs)) (hkk : k + 1 + ts cs ≤ 26000) (run : ∀ Q, mcall d 261 [.ref 115, .int (Int32.ofNat k), .int (Int32.ofNat p), .int (Int32.ofNat (if G.E p < eN then G.E p else nx')), .ref o] h Q = Q none h1) {x2 x5 x6 x11 : Option Value} {n7 : Int32} : ∀ Q, mw (d + 1) 257 Q 35 [some (.ref 115), some (.int (Int32.ofNat b)), x2, some (.int (Int32.ofNat nx')), some (.ref o), x5, x6, some (.int n7), some (.int (Int32.ofNat p)), some (.int (Int32.ofNat eN)), some (.int (Int32.ofNat k)), x11] [] h = mw (d + 1) 257 Q 35 [some (.ref 115), some (.int (Int32.ofNat b)), x2, some (.int (Int32.ofNat nx')), some (.ref o), x5, x6, some (.int n7), some (.int (Int32.ofNat (G.E p))), some (.int (Int32.ofNat eN)), some (.int (Int32.ofNat (k + 1 + ts cs))), some (.int (Int32.ofNat (G.E p)))] [] h1 := fun Q => by
  have J0 := R.j
  have g := J0.a.g
  have g1 := R1.j.a.g
  have c0 := u_228 (d := d) J0.a hb2 hz
  have c1 := u_228 (d := d) R1.j.a (k := k) (by omega) hz1
  have e3 : k + (1 + ts cs) = k + 1 + ts cs := by omega
  rw [e3] at c1
  have a9 := R.m
  have k0 : kb false = 0 := rfl
  have hm' : ¬ 4000 < wW w0 := by omega
  rw [decide_eq_false hm', k0] at a9
  have le : (b + z ≤ k) = False := eq_false (by omega)
  have lt : (k < b + z) = True := eq_true hk
  have e00 : ((0 : Int32) = 0) = True := by decide
  have eE : p + (G.E p - p) = G.E p := by omega
  clear R J0 R1
  rw [s_257_35]
  by_cases c : eN ≤ G.E p
  · rw [if_neg (by omega)] at run
    have cc : (eN ≤ G.E p) = True := eq_true c
    have cl : (G.E p < eN) = False := eq_false (by omega)
    simp (disch := omega) only [s_257_0, s_257_1, s_257_4, s_257_6, s_257_7, s_257_10, s_257_12, s_257_13, s_257_16, s_257_18, s_257_19, s_257_21, s_257_22, s_257_23, s_257_24, s_257_27, s_257_28, s_257_30, s_257_31, s_257_32, s_257_33, s_257_37, s_257_38, s_257_39, s_257_42, s_257_45, s_257_46, s_257_49, s_257_52, s_257_54, s_257_55, s_257_57, s_257_60, s_257_61, s_257_63, s_257_64, s_257_66, s_257_68, s_257_70, s_257_72, s_257_75, s_257_77, s_257_80, s_257_81, s_257_83, s_257_86, s_257_88, s_257_90, s_257_91, s_257_93, s_257_96, s_257_98, s_257_101, s_257_102, s_257_104, s_257_107, s_257_108, s_257_110, s_257_113, s_257_114, s_257_116, s_257_119, s_257_121, s_257_123, s_257_125, s_257_128, e_257, mv_i_1, mv_l_1, mv_a_1, mv_a_2, mv_a_3, mk2_n, mk2_i, mk2_l, mk2_a, mk2_u, mk2_x, mB_T, mB_F, mS_cons, mS_nil, mSB_T, mSB_F, mca_nil, mca_i, mca_l, mca_r, mca_u, mca_x, mcat_i, mcat_l, mcat_r, mcat_u, mcat_x, mK_some, mK_none, va_rf_s, va_rf_n, lgc_eq, lgc_lt, lgc_gt, lgc_ge, lgc_le, mrd_104, mrd_105, mrd_106, mrd_107, true_and, and_true, and_self, false_and, and_false, true_or, or_true, false_or, or_false, not_true_eq_false, not_false_eq_true, mgb, mga, mgr, mN, reduceCtorEq, ↓reduceIte, eq_self, ge_iff_le, gt_iff_lt, Nat.reduceAdd, Nat.reduceMul, Nat.reduceSub, Nat.reduceLT, Nat.reduceGT, Nat.reduceEqDiff, Nat.reduceLeDiff, Nat.left_eq_add, Nat.add_eq_left, Nat.reduceMod, Nat.reduceDiv, Nat.succ_ne_self, g, g1, c0, c1, nn_le, nn_lt, le, lt, a9, e00, cP, nn_add, eE, cc, cl, run]
  · rw [if_pos (by omega)] at run
    have cc : (eN ≤ G.E p) = False := eq_false c
    have cl : (G.E p < eN) = True := eq_true (by omega)
    simp (disch := omega) only [s_257_0, s_257_1, s_257_4, s_257_6, s_257_7, s_257_10, s_257_12, s_257_13, s_257_16, s_257_18, s_257_19, s_257_21, s_257_22, s_257_23, s_257_24, s_257_27, s_257_28, s_257_30, s_257_31, s_257_32, s_257_33, s_257_37, s_257_38, s_257_39, s_257_42, s_257_45, s_257_46, s_257_49, s_257_52, s_257_54, s_257_55, s_257_57, s_257_60, s_257_61, s_257_63, s_257_64, s_257_66, s_257_68, s_257_70, s_257_72, s_257_75, s_257_77, s_257_80, s_257_81, s_257_83, s_257_86, s_257_88, s_257_90, s_257_91, s_257_93, s_257_96, s_257_98, s_257_101, s_257_102, s_257_104, s_257_107, s_257_108, s_257_110, s_257_113, s_257_114, s_257_116, s_257_119, s_257_121, s_257_123, s_257_125, s_257_128, e_257, mv_i_1, mv_l_1, mv_a_1, mv_a_2, mv_a_3, mk2_n, mk2_i, mk2_l, mk2_a, mk2_u, mk2_x, mB_T, mB_F, mS_cons, mS_nil, mSB_T, mSB_F, mca_nil, mca_i, mca_l, mca_r, mca_u, mca_x, mcat_i, mcat_l, mcat_r, mcat_u, mcat_x, mK_some, mK_none, va_rf_s, va_rf_n, lgc_eq, lgc_lt, lgc_gt, lgc_ge, lgc_le, mrd_104, mrd_105, mrd_106, mrd_107, true_and, and_true, and_self, false_and, and_false, true_or, or_true, false_or, or_false, not_true_eq_false, not_false_eq_true, mgb, mga, mgr, mN, reduceCtorEq, ↓reduceIte, eq_self, ge_iff_le, gt_iff_lt, Nat.reduceAdd, Nat.reduceMul, Nat.reduceSub, Nat.reduceLT, Nat.reduceGT, Nat.reduceEqDiff, Nat.reduceLeDiff, Nat.left_eq_add, Nat.add_eq_left, Nat.reduceMod, Nat.reduceDiv, Nat.succ_ne_self, g, g1, c0, c1, nn_le, nn_lt, le, lt, a9, e00, cP, nn_add, eE, cc, cl, run]
theorem blk_ec (R : RA h s0 E D w0) (hk : k = b + z) (hb : b + z ≤ 26000) (hb2 : b < 26000) (hz : mh_i h 97 b = Int32.ofNat z) {x2 x3 x5 x6 x7 x8 x9 x11 : Option Value} : ∀ Q, mw (d + 1) 257 Q 35 [some (.ref 115), some (.int (Int32.ofNat b)), x2, x3, some (.ref o), x5, x6, x7, x8, x9, some (.int (Int32.ofNat k)), x11] [] h = mw (d + 1) 257 Q 101 [some (.ref 115), some (.int (Int32.ofNat b)), x2, x3, some (.ref o), x5, x6, x7, x8, x9, some (.int (Int32.ofNat k)), x11] [] h := fun Q => by
  have J0 := R.j
  have g := J0.a.g
  have c0 := u_228 (d := d) J0.a hb2 hz
  subst hk
  have le : (b + z ≤ b + z) = True := eq_true (Nat.le_refl _)
  have lt : (b + z < b + z) = False := eq_false (by omega)
  clear R J0
  rw [s_257_35]
  simp (disch := omega) only [s_257_0, s_257_1, s_257_4, s_257_6, s_257_7, s_257_10, s_257_12, s_257_13, s_257_16, s_257_18, s_257_19, s_257_21, s_257_22, s_257_23, s_257_24, s_257_27, s_257_28, s_257_30, s_257_31, s_257_32, s_257_33, s_257_37, s_257_38, s_257_39, s_257_42, s_257_45, s_257_46, s_257_49, s_257_52, s_257_54, s_257_55, s_257_57, s_257_60, s_257_61, s_257_63, s_257_64, s_257_66, s_257_68, s_257_70, s_257_72, s_257_75, s_257_77, s_257_80, s_257_81, s_257_83, s_257_86, s_257_88, s_257_90, s_257_91, s_257_93, s_257_96, s_257_98, s_257_102, s_257_104, s_257_107, s_257_108, s_257_110, s_257_113, s_257_114, s_257_116, s_257_119, s_257_121, s_257_123, s_257_125, s_257_128, e_257, mv_i_1, mv_l_1, mv_a_1, mv_a_2, mv_a_3, mk2_n, mk2_i, mk2_l, mk2_a, mk2_u, mk2_x, mB_T, mB_F, mS_cons, mS_nil, mSB_T, mSB_F, mca_nil, mca_i, mca_l, mca_r, mca_u, mca_x, mcat_i, mcat_l, mcat_r, mcat_u, mcat_x, mK_some, mK_none, va_rf_s, va_rf_n, lgc_eq, lgc_lt, lgc_gt, lgc_ge, lgc_le, mrd_104, mrd_105, mrd_106, mrd_107, true_and, and_true, and_self, false_and, and_false, true_or, or_true, false_or, or_false, not_true_eq_false, not_false_eq_true, mgb, mga, mgr, mN, reduceCtorEq, ↓reduceIte, eq_self, ge_iff_le, gt_iff_lt, Nat.reduceAdd, Nat.reduceMul, Nat.reduceSub, Nat.reduceLT, Nat.reduceGT, Nat.reduceEqDiff, Nat.reduceLeDiff, Nat.left_eq_add, Nat.add_eq_left, Nat.reduceMod, Nat.reduceDiv, Nat.succ_ne_self, g, c0, nn_le, nn_lt, le, lt]
/-- the row of statements, from one of them on -/
def BLc (G : pgm) (J : pin) (D : fd) (cl : Nat → Option ab) (e0 : Nat) (fst oth : Nat → Nat) (f : Nat) : Prop := ∀ (t : tr) (p e : Nat) (E : nv), LW G J D f t p e E → ∀ (d b k z s0 o nx' : Nat) (h : mh_H) (w0 : wd) (br : Nat) (x2 x5 x6 : Option Value) (n7 : Int32) (x11 : Option Value), SUC G fst oth f p e nx' → nx' ≤ e0 → e ≤ e0 → (G.n nx' ≤ E.nu ∧ G.a nx' ≤ E.ar) → SC h s0 o E D w0 G e0 cl br → nd (mh_i h 93) (mh_i h 95) (mh_i h 97) k t → k + ts t = b + z → b + z ≤ 26000 → b < 26000 → mh_i h 97 b = Int32.ofNat z → s0 + 3 * (e - p) + 360 ≤ 2048 → 4 * (e - p) + 839 ≤ d → ∃ h' b' E' y8 y10 y11, rq s0 (sV o E.T) h h' ∧ SC h' s0 o E' D w0 G e0 cl b' ∧ E'.fu = E.fu ∧ E'.ta = E.ta ∧ E.nu ≤ E'.nu ∧ E.ar ≤ E'.ar ∧ (∀ x, x < E.ar → E'.rm x = E.rm x) ∧ BRK (VI G cl fst oth) p e br b' ∧ ∀ Q, mw (d + 1) 257 Q 35 [some (.ref 115), some (.int (Int32.ofNat b)), x2, some (.int (Int32.ofNat nx')), some (.ref o), x5, x6, some (.int n7), some (.int (Int32.ofNat p)), some (.int (Int32.ofNat e)), some (.int (Int32.ofNat k)), x11] [] h = mw (d + 1) 257 Q 101 [some (.ref 115), some (.int (Int32.ofNat b)), x2, some (.int (Int32.ofNat nx')), some (.ref o), x5, x6, some (.int n7), y8, some (.int (Int32.ofNat e)), y10, y11] [] h'
theorem BLc_0 (S : SC h s0 o E D w0 G e0 cl br) (hpe : p = e) (hk : k = b + z) (hb : b + z ≤ 26000) (hb2 : b < 26000) (hz : mh_i h 97 b = Int32.ofNat z) {nx' : Nat} {x2 x5 x6 x11 : Option Value} {n7 : Int32} : ∃ h' b' E' y8 y10 y11, rq s0 (sV o E.T) h h' ∧ SC h' s0 o E' D w0 G e0 cl b' ∧ E'.fu = E.fu ∧ E'.ta = E.ta ∧ E.nu ≤ E'.nu ∧ E.ar ≤ E'.ar ∧ (∀ x, x < E.ar → E'.rm x = E.rm x) ∧ BRK (VI G cl fst oth) p e br b' ∧ ∀ Q, mw (d + 1) 257 Q 35 [some (.ref 115), some (.int (Int32.ofNat b)), x2, some (.int (Int32.ofNat nx')), some (.ref o), x5, x6, some (.int n7), some (.int (Int32.ofNat p)), some (.int (Int32.ofNat e)), some (.int (Int32.ofNat k)), x11] [] h = mw (d + 1) 257 Q 101 [some (.ref 115), some (.int (Int32.ofNat b)), x2, some (.int (Int32.ofNat nx')), some (.ref o), x5, x6, some (.int n7), y8, some (.int (Int32.ofNat e)), y10, y11] [] h' := ⟨h, br, E, _, _, _, rq_id, S, rfl, rfl, Nat.le_refl _, Nat.le_refl _, fun _ _ => rfl, brk_id hpe, fun Q => blk_ec S.A hk hb hb2 hz Q⟩
theorem BLc_s (H : CHX G J e0 cl) (B : BQc G J D cl e0 fst oth f) (L : BLc G J D cl e0 fst oth f) : BLc G J D cl e0 fst oth (f + 1) := by
  intro t p e E LWt d b k z s0 o nx' h w0 br x2 x5 x6 n7 x11 U hnx hee hdm S N hk hb hb2 hz hs hd
  cases t with
  | leaf u => exact BLc_0 S LWt (by have : k + 0 = b + z := hk; omega) hb hb2 hz
  | branch n cs r =>
    obtain ⟨hpe, -, e1, e2, hen, ⟨-, e3⟩, hE1, hE2, hfu, LN', LR⟩ := LWt
    obtain ⟨Us, Ur⟩ := U hpe
    rw [ts_B] at hk
    have he := H.he
    have o1 : G.E p ≤ e0 := by omega
    have o2 : k + 1 + ts cs ≤ 26000 := by omega
    have o3 : s0 + 3 * (G.E p - p) + 360 ≤ 2048 := by omega
    have o4 : 4 * (G.E p - p) + 839 ≤ d := by omega
    have o5 : k + 1 + ts cs + ts r = b + z := by omega
    have o6 : s0 + 3 * (e - G.E p) + 360 ≤ 2048 := by omega
    have o7 : 4 * (e - G.E p) + 839 ≤ d := by omega
    have o8 : k < b + z := by omega
    have o9 : G.E p ≤ 249 := by omega
    have oA : e ≤ 249 := by omega
    have oB : 2 * (G.E p - p) + 2 ≤ d := by omega
    have oC : p ≤ G.E p := by omega
    obtain ⟨p1, p2, p3, p4, p5⟩ := nx_p (n := n) (cs := cs) (E := E)
    have dn : (if G.E p < e then G.E p else nx') ≤ e0 ∧ G.n (if G.E p < e then G.E p else nx') ≤ (nx n cs E).nu ∧ G.a (if G.E p < e then G.E p else nx') ≤ (nx n cs E).ar := by
      by_cases c : G.E p < e
      · rw [if_pos c]
        have := LW_d LR c
        exact ⟨by omega, by omega, by omega⟩
      · rw [if_neg c]; exact ⟨hnx, by omega, by omega⟩
    have hdm2 : G.n nx' ≤ (nx n cs E).nu ∧ G.a nx' ≤ (nx n cs E).ar := by omega
    obtain ⟨h1, b1, x1, S1, brk1, run1⟩ := stmc (d := d) H B LN' hen e1 e2 e3 hE1 o1 hfu Us dn.1 dn.2 S N o2 o3 o4
    have J0 := S.A.j
    have lo := sp_lo J0 (lv_sp S.l)
    obtain ⟨t1, t2, t3⟩ := sV_tr J0 lo x1
    have cP := LN_Q (d := d) LN' hfu hE1 o9 S.A N o2 oB
    have N1 : nd (mh_i h1 93) (mh_i h1 95) (mh_i h1 97) (k + 1 + ts cs) r := by rw [t1, t2, t3]; exact N.2.2.2.2
    obtain ⟨h2, b2, E', y8, y10, y11, x2', S2, f2, ta2, nu2, ar2, rm2, brk2, run2⟩ := L r (G.E p) e (nx n cs E) LR d b (k + 1 + ts cs) z s0 o nx' h1 w0 b1 x2 x5 x6 n7 (some (.int (Int32.ofNat (G.E p)))) Ur hnx hee hdm2 S1 N1 o5 hb hb2 (by rw [t3]; exact hz) o6 o7
    have run3 := blk_1c (d := d) (nx' := nx') (x2 := x2) (x5 := x5) (x6 := x6) (n7 := n7) (x11 := x11) (cs := cs) (k := k) (p := p) (G := G) (eN := e) (b := b) (z := z) S.A S.w o8 hb hb2 hz hE1 o9 oA cP S1.A (by rw [t3]; exact N.2.2.1) o2 run1
    exact ⟨h2, b2, E', y8, y10, y11, rq_t x1 (sV_sp x2' (Nat.le_refl _) p2 (Or.inl rfl)), S2, f2.trans nx_fu, ta2.trans p1, Nat.le_trans p3 nu2, Nat.le_trans p4 ar2, fun x hx => (rm2 x (Nat.lt_of_lt_of_le hx p4)).trans (p5 x hx), brk_t brk1 brk2 oC hE2, fun Q => (run3 Q).trans (run2 Q)⟩
theorem BLc_z : BLc G J D cl e0 fst oth 0 := by
  intro t p e E LWt d b k z s0 o nx' h w0 br x2 x5 x6 n7 x11 U hnx hee hdm S N hk hb hb2 hz hs hd
  cases t with
  | leaf u => exact BLc_0 S LWt (by have : k + 0 = b + z := hk; omega) hb hb2 hz
  | branch n cs r => exact absurd LWt (fun z => z)
theorem BQc_of (H : CHX G J e0 cl) (L : BLc G J D cl e0 fst oth f) : BQc G J D cl e0 fst oth f := by
  intro t p e E LWt d b s0 o nx' h w0 br U hnx hee hdm S N hb hz hs hd
  obtain ⟨d, rfl⟩ : ∃ d', d = d' + 1 := ⟨d - 1, by omega⟩
  have he := H.he
  have J0 := S.A.j
  have lo := sp_lo J0 (lv_sp S.l)
  have q := LW_Q f t p e E LWt (by omega)
  have q1 := q.1
  have cc := PQ_c (d := d) (b := b) q J0 S.A.F S.A.X S.A.f N hb hz (by omega)
  obtain ⟨h1, b1, E1, y8, y10, y11, x1, S1, f1, ta1, nu1, ar1, rm1, brk, run1⟩ := L t p e E LWt d b (b + 1) (1 + ts t) s0 o nx' h w0 br (some (.int (Int32.ofNat p))) (some (.int (Int32.ofNat E.T))) (some (.int (Int32.ofNat E.nu))) (Int32.ofNat E.ar) none U hnx hee hdm S N (by omega) (by omega) (by omega) hz hs (by omega)
  obtain ⟨Y, kY, sY⟩ := S1.k
  have sg : shg E.nu E.ar E.rm Y := ⟨_, _, _, nu1, ar1, rm1, sY⟩
  obtain ⟨h2, x2, R2, k2, a2, c2, b35, run2⟩ := blk_9 (d := d) (G := G) (x1 := some (.int (Int32.ofNat b))) (x2 := some (.int (Int32.ofNat p))) (x3 := some (.int (Int32.ofNat nx'))) (x8 := y8) (x9 := some (.int (Int32.ofNat e))) (x10 := y10) (x11 := y11) S.A x1 S1.A (rq_lv x1 S.l) kY sg S.m f1 ta1
  have C2 := ck_t S1.C S1.A lo he x2 c2 b35
  refine ⟨h2, b1, rq_t x1 x2, SC.of ⟨R2, rq_lv x2 (rq_lv x1 S.l), ⟨_, k2, keep_shp sg⟩, S.m, C2, S.w⟩, brk, fun Q => ?_⟩
  rw [← run2 Q, ← run1]
  have g := J0.a.g
  have a18 := S.A.V.t
  have a20 := S.A.n
  have a21 := S.A.a
  have eE : p + (e - p) = e := by omega
  have e1' : ∀ k, Int32.ofNat k + 1 = Int32.ofNat (k + 1) := fun k => nn_add (a := k) (b := 1)
  clear S S1 J0 q L LWt x1 x2 R2 kY k2 sY sg c2 C2 N run1 run2 H U brk
  simp (disch := omega) only [s_257_0, s_257_1, s_257_4, s_257_6, s_257_7, s_257_10, s_257_12, s_257_13, s_257_16, s_257_18, s_257_19, s_257_21, s_257_22, s_257_23, s_257_24, s_257_27, s_257_28, s_257_30, s_257_31, s_257_32, s_257_33, s_257_37, s_257_38, s_257_39, s_257_42, s_257_45, s_257_46, s_257_49, s_257_52, s_257_54, s_257_55, s_257_57, s_257_60, s_257_61, s_257_63, s_257_64, s_257_66, s_257_68, s_257_70, s_257_72, s_257_75, s_257_77, s_257_80, s_257_81, s_257_83, s_257_86, s_257_88, s_257_90, s_257_91, s_257_93, s_257_96, s_257_98, s_257_101, s_257_102, s_257_104, s_257_107, s_257_108, s_257_110, s_257_113, s_257_114, s_257_116, s_257_119, s_257_121, s_257_123, s_257_125, s_257_128, e_257, mv_i_1, mv_l_1, mv_a_1, mv_a_2, mv_a_3, mk2_n, mk2_i, mk2_l, mk2_a, mk2_u, mk2_x, mB_T, mB_F, mS_cons, mS_nil, mSB_T, mSB_F, mca_nil, mca_i, mca_l, mca_r, mca_u, mca_x, mcat_i, mcat_l, mcat_r, mcat_u, mcat_x, mK_some, mK_none, va_rf_s, va_rf_n, lgc_eq, lgc_lt, lgc_gt, lgc_ge, lgc_le, mrd_104, mrd_105, mrd_106, mrd_107, true_and, and_true, and_self, false_and, and_false, true_or, or_true, false_or, or_false, not_true_eq_false, not_false_eq_true, mgb, mga, mgr, mN, reduceCtorEq, ↓reduceIte, eq_self, ge_iff_le, gt_iff_lt, Nat.reduceAdd, Nat.reduceMul, Nat.reduceSub, Nat.reduceLT, Nat.reduceGT, Nat.reduceEqDiff, Nat.reduceLeDiff, Nat.left_eq_add, Nat.add_eq_left, Nat.reduceMod, Nat.reduceDiv, Nat.succ_ne_self, g, a18, a20, a21, cc, nn_add, eE, e1']
/-- block finds the least that is broken -/
theorem blkc_all (H : CHX G J e0 cl) : ∀ f, BQc G J D cl e0 fst oth f ∧ BLc G J D cl e0 fst oth f := by
  intro f
  induction f with
  | zero => exact ⟨BQc_of H BLc_z, BLc_z⟩
  | succ f ih => exact ⟨BQc_of H (BLc_s H ih.1 ih.2), BLc_s H ih.1 ih.2⟩
end COa
