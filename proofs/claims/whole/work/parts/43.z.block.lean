set_option maxRecDepth 100000
/-! block, whole -/
section BMs
variable {d : Nat} {hs h h1 h2 : mh_H} {s0 s1 sA o b p e k z T f g : Nat} {E E1 : nv} {D : fd} {w0 w1 : wd} {s O X : Option ab} {G : pgm} {J : pin} {A : ab} {nx' : Int32} {t cs r : tr} {m n : Nat}
theorem DB_s (hp : p < e) (hw : wW w0 ≤ 4000) : DB G (f + 1) p e s w0 = ((DB G f (G.E p) e (DS G (DB G f) p s w0).1 (DS G (DB G f) p s w0).2.1).1, (DB G f (G.E p) e (DS G (DB G f) p s w0).1 (DS G (DB G f) p s w0).2.1).2.1, max (DS G (DB G f) p s w0).2.2 (DB G f (G.E p) e (DS G (DB G f) p s w0).1 (DS G (DB G f) p s w0).2.1).2.2) := by
  conv => lhs; unfold DB
  rw [if_pos ⟨hp, hw⟩]
theorem DB_m (hw : ¬ wW w0 ≤ 4000) : DB G f p e s w0 = (s, w0, 0) := by
  cases f with
  | zero => rfl
  | succ f => unfold DB; rw [if_neg (fun z => hw z.2)]
/-- it is too much -/
theorem blk_m (S : SA h s0 o E D w0 s) (hm : ¬ wW w0 ≤ 4000) (hk : k < b + z) (hb : b + z ≤ 26000) (hb2 : b < 26000) (hz : mh_i h 97 b = Int32.ofNat z) {x2 x5 x6 x7 x8 x9 x11 : Option Value} : ∀ Q, mw (d + 1) 257 Q 35 [some (.ref 115), some (.int (Int32.ofNat b)), x2, some (.int nx'), some (.ref o), x5, x6, x7, x8, x9, some (.int (Int32.ofNat k)), x11] [] h = mw (d + 1) 257 Q 101 [some (.ref 115), some (.int (Int32.ofNat b)), x2, some (.int nx'), some (.ref o), x5, x6, x7, x8, x9, some (.int (Int32.ofNat k)), x11] [] h := fun Q => by
  have J0 := S.A.j
  have g := J0.a.g
  have c0 := u_228 (d := d) J0.a hb2 hz
  have a9 := S.A.m
  have k1 : kb true = 1 := rfl
  have hm' : 4000 < wW w0 := by omega
  rw [decide_eq_true hm', k1] at a9
  have le : (b + z ≤ k) = False := eq_false (by omega)
  have lt : (k < b + z) = True := eq_true hk
  have e10 : ((1 : Int32) = 0) = False := by decide
  clear S J0
  rw [s_257_35]
  simp (disch := omega) only [s_257_0, s_257_1, s_257_4, s_257_6, s_257_7, s_257_10, s_257_12, s_257_13, s_257_16, s_257_18, s_257_19, s_257_21, s_257_22, s_257_23, s_257_24, s_257_27, s_257_28, s_257_30, s_257_31, s_257_32, s_257_33, s_257_37, s_257_38, s_257_39, s_257_42, s_257_45, s_257_46, s_257_49, s_257_52, s_257_54, s_257_55, s_257_57, s_257_60, s_257_61, s_257_63, s_257_64, s_257_66, s_257_68, s_257_70, s_257_72, s_257_75, s_257_77, s_257_80, s_257_81, s_257_83, s_257_86, s_257_88, s_257_90, s_257_91, s_257_93, s_257_96, s_257_98, s_257_102, s_257_104, s_257_107, s_257_108, s_257_110, s_257_113, s_257_114, s_257_116, s_257_119, s_257_121, s_257_123, s_257_125, s_257_128, e_257, mv_i_1, mv_l_1, mv_a_1, mv_a_2, mv_a_3, mk2_n, mk2_i, mk2_l, mk2_a, mk2_u, mk2_x, mB_T, mB_F, mS_cons, mS_nil, mSB_T, mSB_F, mca_nil, mca_i, mca_l, mca_r, mca_u, mca_x, mcat_i, mcat_l, mcat_r, mcat_u, mcat_x, mK_some, mK_none, va_rf_s, va_rf_n, lgc_eq, lgc_lt, lgc_gt, lgc_ge, lgc_le, mrd_104, mrd_105, mrd_106, mrd_107, true_and, and_true, and_self, false_and, and_false, true_or, or_true, false_or, or_false, not_true_eq_false, not_false_eq_true, mgb, mga, mgr, mN, reduceCtorEq, ↓reduceIte, eq_self, ge_iff_le, gt_iff_lt, Nat.reduceAdd, Nat.reduceMul, Nat.reduceSub, Nat.reduceLT, Nat.reduceGT, Nat.reduceEqDiff, Nat.reduceLeDiff, Nat.left_eq_add, Nat.add_eq_left, Nat.reduceMod, Nat.reduceDiv, Nat.succ_ne_self, g, c0, nn_le, nn_lt, le, lt, a9, e10]
/-- one statement of it -/
theorem blk_1 (S : SA h s0 o E D w0 s) (hw : wW w0 ≤ 4000) (hk : k < b + z) (hb : b + z ≤ 26000) (hb2 : b < 26000) (hz : mh_i h 97 b = Int32.ofNat z) (hpE : p < G.E p) (hE : G.E p ≤ 249) {eN : Nat} (heN : eN ≤ 249) (cP : ∀ Q, mcall d 254 [.ref 115, .int (Int32.ofNat k)] h Q = Q (some (.int (Int32.ofNat (G.E p - p)))) h) (R1 : RA h1 s1 E1 D w1) (hz1 : mh_i h1 97 k = Int32.ofNat (1 + ts cs)) (hkk : k + 1 + ts cs ≤ 26000) (run : ∀ Q, mcall d 261 [.ref 115, .int (Int32.ofNat k), .int (Int32.ofNat p), .int (if eN ≤ G.E p then nx' else Int32.ofNat (G.E p)), .ref o] h Q = Q none h1) {x2 x5 x6 x11 : Option Value} {n7 : Int32} : ∀ Q, mw (d + 1) 257 Q 35 [some (.ref 115), some (.int (Int32.ofNat b)), x2, some (.int nx'), some (.ref o), x5, x6, some (.int n7), some (.int (Int32.ofNat p)), some (.int (Int32.ofNat eN)), some (.int (Int32.ofNat k)), x11] [] h = mw (d + 1) 257 Q 35 [some (.ref 115), some (.int (Int32.ofNat b)), x2, some (.int nx'), some (.ref o), x5, x6, some (.int n7), some (.int (Int32.ofNat (G.E p))), some (.int (Int32.ofNat eN)), some (.int (Int32.ofNat (k + 1 + ts cs))), some (.int (Int32.ofNat (G.E p)))] [] h1 := fun Q => by
  have J0 := S.A.j
  have g := J0.a.g
  have g1 := R1.j.a.g
  have c0 := u_228 (d := d) J0.a hb2 hz
  have c1 := u_228 (d := d) R1.j.a (k := k) (by omega) hz1
  have e3 : k + (1 + ts cs) = k + 1 + ts cs := by omega
  rw [e3] at c1
  have a9 := S.A.m
  have k0 : kb false = 0 := rfl
  have hm' : ¬ 4000 < wW w0 := by omega
  rw [decide_eq_false hm', k0] at a9
  have le : (b + z ≤ k) = False := eq_false (by omega)
  have lt : (k < b + z) = True := eq_true hk
  have e00 : ((0 : Int32) = 0) = True := by decide
  have eE : p + (G.E p - p) = G.E p := by omega
  clear S J0 R1
  rw [s_257_35]
  by_cases c : eN ≤ G.E p
  · rw [if_pos c] at run
    have cc : (eN ≤ G.E p) = True := eq_true c
    have cl : (G.E p < eN) = False := eq_false (by omega)
    simp (disch := omega) only [s_257_0, s_257_1, s_257_4, s_257_6, s_257_7, s_257_10, s_257_12, s_257_13, s_257_16, s_257_18, s_257_19, s_257_21, s_257_22, s_257_23, s_257_24, s_257_27, s_257_28, s_257_30, s_257_31, s_257_32, s_257_33, s_257_37, s_257_38, s_257_39, s_257_42, s_257_45, s_257_46, s_257_49, s_257_52, s_257_54, s_257_55, s_257_57, s_257_60, s_257_61, s_257_63, s_257_64, s_257_66, s_257_68, s_257_70, s_257_72, s_257_75, s_257_77, s_257_80, s_257_81, s_257_83, s_257_86, s_257_88, s_257_90, s_257_91, s_257_93, s_257_96, s_257_98, s_257_101, s_257_102, s_257_104, s_257_107, s_257_108, s_257_110, s_257_113, s_257_114, s_257_116, s_257_119, s_257_121, s_257_123, s_257_125, s_257_128, e_257, mv_i_1, mv_l_1, mv_a_1, mv_a_2, mv_a_3, mk2_n, mk2_i, mk2_l, mk2_a, mk2_u, mk2_x, mB_T, mB_F, mS_cons, mS_nil, mSB_T, mSB_F, mca_nil, mca_i, mca_l, mca_r, mca_u, mca_x, mcat_i, mcat_l, mcat_r, mcat_u, mcat_x, mK_some, mK_none, va_rf_s, va_rf_n, lgc_eq, lgc_lt, lgc_gt, lgc_ge, lgc_le, mrd_104, mrd_105, mrd_106, mrd_107, true_and, and_true, and_self, false_and, and_false, true_or, or_true, false_or, or_false, not_true_eq_false, not_false_eq_true, mgb, mga, mgr, mN, reduceCtorEq, ↓reduceIte, eq_self, ge_iff_le, gt_iff_lt, Nat.reduceAdd, Nat.reduceMul, Nat.reduceSub, Nat.reduceLT, Nat.reduceGT, Nat.reduceEqDiff, Nat.reduceLeDiff, Nat.left_eq_add, Nat.add_eq_left, Nat.reduceMod, Nat.reduceDiv, Nat.succ_ne_self, g, g1, c0, c1, nn_le, nn_lt, le, lt, a9, e00, cP, nn_add, eE, cc, cl, run]
  · rw [if_neg c] at run
    have cc : (eN ≤ G.E p) = False := eq_false c
    have cl : (G.E p < eN) = True := eq_true (by omega)
    simp (disch := omega) only [s_257_0, s_257_1, s_257_4, s_257_6, s_257_7, s_257_10, s_257_12, s_257_13, s_257_16, s_257_18, s_257_19, s_257_21, s_257_22, s_257_23, s_257_24, s_257_27, s_257_28, s_257_30, s_257_31, s_257_32, s_257_33, s_257_37, s_257_38, s_257_39, s_257_42, s_257_45, s_257_46, s_257_49, s_257_52, s_257_54, s_257_55, s_257_57, s_257_60, s_257_61, s_257_63, s_257_64, s_257_66, s_257_68, s_257_70, s_257_72, s_257_75, s_257_77, s_257_80, s_257_81, s_257_83, s_257_86, s_257_88, s_257_90, s_257_91, s_257_93, s_257_96, s_257_98, s_257_101, s_257_102, s_257_104, s_257_107, s_257_108, s_257_110, s_257_113, s_257_114, s_257_116, s_257_119, s_257_121, s_257_123, s_257_125, s_257_128, e_257, mv_i_1, mv_l_1, mv_a_1, mv_a_2, mv_a_3, mk2_n, mk2_i, mk2_l, mk2_a, mk2_u, mk2_x, mB_T, mB_F, mS_cons, mS_nil, mSB_T, mSB_F, mca_nil, mca_i, mca_l, mca_r, mca_u, mca_x, mcat_i, mcat_l, mcat_r, mcat_u, mcat_x, mK_some, mK_none, va_rf_s, va_rf_n, lgc_eq, lgc_lt, lgc_gt, lgc_ge, lgc_le, mrd_104, mrd_105, mrd_106, mrd_107, true_and, and_true, and_self, false_and, and_false, true_or, or_true, false_or, or_false, not_true_eq_false, not_false_eq_true, mgb, mga, mgr, mN, reduceCtorEq, ↓reduceIte, eq_self, ge_iff_le, gt_iff_lt, Nat.reduceAdd, Nat.reduceMul, Nat.reduceSub, Nat.reduceLT, Nat.reduceGT, Nat.reduceEqDiff, Nat.reduceLeDiff, Nat.left_eq_add, Nat.add_eq_left, Nat.reduceMod, Nat.reduceDiv, Nat.succ_ne_self, g, g1, c0, c1, nn_le, nn_lt, le, lt, a9, e00, cP, nn_add, eE, cc, cl, run]
theorem BL_s (hG : G.fx = fxJ J) (B : BQ G J D f) (L : BL G J D f) : BL G J D (f + 1) := by
  intro t p e E LWt d b k z s0 o eN nx' h s w0 x2 x5 x6 n7 x11 S N hk hb hb2 hz hs he heN hd
  cases t with
  | leaf u =>
    have hpe : p = e := LWt
    rw [DB_le hpe] at hs ⊢
    exact BL_0 S (fun Q x2 x5 x6 x7 x8 x9 x11 => blk_e S hpe (by have : k + 0 = b + z := hk; omega) hb hb2 hz Q) (fun _ q q1 q2 => by omega)
  | branch n cs r =>
    obtain ⟨hpe, -, e1, e2, hen, -, hE1, hE2, hfu, LN', LR⟩ := LWt
    rw [ts_B] at hk
    by_cases hw : wW w0 ≤ 4000
    · rw [DB_s hpe hw] at hs ⊢
      dsimp only at hs ⊢
      obtain ⟨h1, B1, run1⟩ := stm (d := d) (nx' := if eN ≤ G.E p then nx' else Int32.ofNat (G.E p)) B hG LN' hen e1 e2 hE1 (by omega) hfu hw S N (by omega) (by omega) (by omega)
      have J0 := S.A.j
      have lo := sp_lo J0 (lv_sp S.l)
      obtain ⟨t1, t2, t3⟩ := sV_tr J0 lo B1.x
      have cP := LN_Q (d := d) LN' hfu hE1 (by omega) S.A N (by omega) (by omega)
      obtain ⟨p1, p2, p3, p4, p5⟩ := nx_p (n := n) (cs := cs) (E := E)
      have m1 := nx_m LN' S.m
      obtain ⟨h2, E', y8, y10, y11, x2', R2, f2, ta2, nu2, ar2, rm2, k2, sh2, c2, n2, run2⟩ := L r (G.E p) e (nx n cs E) LR d b (k + 1 + ts cs) z s0 o eN nx' h1 _ _ x2 x5 x6 n7 (some (.int (Int32.ofNat (G.E p)))) (SA.of ⟨B1.A, rq_lv B1.x S.l, B1.k, B1.a, B1.sh, m1, (sV_z J0 lo B1.x).trans S.z⟩) (by rw [t1, t2, t3]; exact N.2.2.2.2) (by omega) hb hb2 (by rw [t3]; exact hz) (by omega) he heN (by omega)
      have run3 := blk_1 (d := d) (nx' := nx') (x2 := x2) (x5 := x5) (x6 := x6) (n7 := n7) (x11 := x11) (cs := cs) (k := k) (p := p) (G := G) (eN := eN) (b := b) (z := z) S hw (by omega) hb hb2 hz hE1 (by omega) heN cP B1.A (by rw [t3]; exact N.2.2.1) (by omega) run1
      have wm := DB_w G f (G.E p) e (DS G (DB G f) p s w0).1 (DS G (DB G f) p s w0).2.1
      refine ⟨h2, E', y8, y10, y11, rq_t B1.x (sV_sp x2' (Nat.le_refl _) p2 (Or.inl rfl)), R2, f2.trans nx_fu, ta2.trans p1, by omega, by omega, fun x hx => (rm2 x (by omega)).trans (p5 x hx), k2, sh2, fun q w => c2 q (B1.c q w), fun w q q1 q2 => ?_, fun Q => (run3 Q).trans (run2 Q)⟩
      by_cases c : q < G.E p
      · have b := B1.n (Nat.le_trans wm w) q q1 c
        exact ⟨c2 q b.1, c2 _ b.2⟩
      · exact n2 w q (by omega) q2
    · rw [DB_m hw] at hs ⊢
      exact BL_0 S (fun Q x2 x5 x6 x7 x8 x9 x11 => blk_m S hw (by omega) hb hb2 hz Q) (fun w => absurd w hw)
theorem BL_z : BL G J D 0 := by
  intro t p e E LWt d b k z s0 o eN nx' h s w0 x2 x5 x6 n7 x11 S N hk hb hb2 hz hs he heN hd
  cases t with
  | leaf u =>
    have hpe : p = e := LWt
    rw [DB_le hpe] at hs ⊢
    exact BL_0 S (fun Q x2 x5 x6 x7 x8 x9 x11 => blk_e S hpe (by have : k + 0 = b + z := hk; omega) hb hb2 hz Q) (fun _ q q1 q2 => by omega)
  | branch n cs r => exact absurd LWt (fun z => z)
/-- its end -/
theorem blk_9 (A0 : RA hs sA E D w1) (x : rq s0 (sV o E.T) hs h) (R : RA h s0 E1 D w0) (l : lv h s0 o) (kx : RK h o X) (sh : shg E.nu E.ar E.rm X) (m12 : E.nu ≤ 12 ∧ E.ar ≤ 6) (ef : E1.fu = E.fu) (et : E1.ta = E.ta) {x1 x2 x3 x8 x9 x10 x11 : Option Value} : ∃ h', rq s0 (sV o E.T) h h' ∧ RA h' s0 E D w0 ∧ RK h' o (o_keep E.nu E.ar X) ∧ mh_i h' o 2 = Int32.ofNat E.ar ∧ (∀ q, cnQ G h q → cnQ G h' q) ∧ mh_i h' 115 35 = mh_i h 115 35 ∧ ∀ Q, mw (d + 1) 257 Q 101 [some (.ref 115), x1, x2, x3, some (.ref o), some (.int (Int32.ofNat E.T)), some (.int (Int32.ofNat E.nu)), some (.int (Int32.ofNat E.ar)), x8, x9, x10, x11] [] h = Q none h' := by
  have so := lv_sp l
  have lo := sp_lo R.j so
  generalize eh : mh_si (mh_si (mh_si h 115 18 (Int32.ofNat E.T)) 115 20 (Int32.ofNat E.nu)) 115 21 (Int32.ofNat E.ar) = h1
  have i : ∀ c j, ¬ (c = 115 ∧ (j = 18 ∨ j = 20 ∨ j = 21)) → mh_i h1 c j = mh_i h c j := fun c j hc => by rw [← eh, hi_si, if_neg (by omega), hi_si, if_neg (by omega), hi_si, if_neg (by omega)]
  have i18 : mh_i h1 115 18 = Int32.ofNat E.T := by rw [← eh, hi_si, if_neg (by omega), hi_si, if_neg (by omega), hi_si, if_pos ⟨rfl, rfl⟩]
  have i20 : mh_i h1 115 20 = Int32.ofNat E.nu := by rw [← eh, hi_si, if_neg (by omega), hi_si, if_pos ⟨rfl, rfl⟩]
  have i21 : mh_i h1 115 21 = Int32.ofNat E.ar := by rw [← eh, hi_si, if_pos ⟨rfl, rfl⟩]
  have x1' : rq s0 (sV o E.T) h h1 := by
    rw [← eh]
    exact rq_t (sV_115 (by omega)) (rq_t (sV_115 (by omega)) (sV_115 (by omega)))
  have R1 : RA h1 s0 E D w0 := ra_back A0 lo x R (by rw [← eh]; rfl) (by rw [← eh]; rfl) (by rw [← eh]; rfl) (by rw [← eh]; rfl) (by rw [← eh]; rfl) (fun c j hc => i c j (by omega)) i18 i20 i21 (by rw [i _ _ (by omega), R.f, ef]) (by rw [i _ _ (by omega), R.t, et]) (i _ _ (by omega)) (i _ _ (by omega)) (i _ _ (by omega)) (i _ _ (by omega))
  have z1 : fz (fun b _ => b = 115) h h1 := by
    rw [← eh]
    exact fz_t (fz_si rfl) (fz_t (fz_si rfl) (fz_si rfl))
  have k1 : RK h1 o X := RK_fz z1 (fun y hy j w => by omega) kx
  have er : mh_r h1 = mh_r h := by rw [← eh]; rfl
  have so1 : sp h1 o := by unfold sp; rw [er]; exact so
  obtain ⟨h2, f2, k2, a2, run2⟩ := k_290o (d := d) k1 sh m12.1 m12.2
  have R2 := ra_k R1 so1 f2 (RK_ko k2)
  refine ⟨h2, rq_t x1' (sV_k R1 so1 f2), R2, k2, a2, fun q w => cn_k R1 so1 f2 (cn_i w (fun b j hb => i _ _ (by omega))), by rw [rs_ij R1.j so1 f2, i _ _ (by omega)], fun Q => ?_⟩
  have g := R.j.a.g
  have go1 := (RK_ko k1).1
  clear A0 x R l kx sh R1 R2 x1' z1 k1 k2 f2 i i18 i20 i21 er
  simp (disch := omega) only [s_257_0, s_257_1, s_257_4, s_257_6, s_257_7, s_257_10, s_257_12, s_257_13, s_257_16, s_257_18, s_257_19, s_257_21, s_257_22, s_257_23, s_257_24, s_257_27, s_257_28, s_257_30, s_257_31, s_257_32, s_257_33, s_257_35, s_257_37, s_257_38, s_257_39, s_257_42, s_257_45, s_257_46, s_257_49, s_257_52, s_257_54, s_257_55, s_257_57, s_257_60, s_257_61, s_257_63, s_257_64, s_257_66, s_257_68, s_257_70, s_257_72, s_257_75, s_257_77, s_257_80, s_257_81, s_257_83, s_257_86, s_257_88, s_257_90, s_257_91, s_257_93, s_257_96, s_257_98, s_257_101, s_257_102, s_257_104, s_257_107, s_257_108, s_257_110, s_257_113, s_257_114, s_257_116, s_257_119, s_257_121, s_257_123, s_257_125, s_257_128, e_257, mv_i_1, mv_l_1, mv_a_1, mv_a_2, mv_a_3, mk2_n, mk2_i, mk2_l, mk2_a, mk2_u, mk2_x, mB_T, mB_F, mS_cons, mS_nil, mSB_T, mSB_F, mca_nil, mca_i, mca_l, mca_r, mca_u, mca_x, mcat_i, mcat_l, mcat_r, mcat_u, mcat_x, mK_some, mK_none, va_rf_s, va_rf_n, lgc_eq, lgc_lt, lgc_gt, lgc_ge, lgc_le, mrd_104, mrd_105, mrd_106, mrd_107, true_and, and_true, and_self, false_and, and_false, true_or, or_true, false_or, or_false, not_true_eq_false, not_false_eq_true, mgb, mga, mgr, mN, reduceCtorEq, ↓reduceIte, eq_self, ge_iff_le, gt_iff_lt, hk_si, hk_sj, hk_sr, hl_si, hl_sj, hl_sr, hn_si, hn_sj, hn_sr, hs_si, hs_sj, hs_sr, hi_sj, hi_sr, hj_si, hj_sr, hr_si, hr_sj, hi_si, hj_sj, hr_sr, mg_si, mg_sj, mg_sr, Nat.reduceAdd, Nat.reduceMul, Nat.reduceSub, Nat.reduceLT, Nat.reduceGT, Nat.reduceEqDiff, Nat.reduceLeDiff, Nat.left_eq_add, Nat.add_eq_left, Nat.reduceMod, Nat.reduceDiv, Nat.succ_ne_self, g, go1, eh, run2]
theorem BQ_of (L : BL G J D f) : BQ G J D f := by
  intro t p e E LWt d b s0 o nx' h s w0 S N hb hz hs he hd
  obtain ⟨d, rfl⟩ : ∃ d', d = d' + 1 := ⟨d - 1, by omega⟩
  have J0 := S.A.j
  have q := LW_Q f t p e E LWt he
  have q1 := q.1
  have cc := PQ_c (d := d) (b := b) q J0 S.A.F S.A.X S.A.f N hb hz (by omega)
  obtain ⟨h1, E1, y8, y10, y11, x1, R1, f1, ta1, nu1, ar1, rm1, k1, sh1, c1, n1, run1⟩ := L t p e E LWt d b (b + 1) (1 + ts t) s0 o e nx' h s w0 (some (.int (Int32.ofNat p))) (some (.int (Int32.ofNat E.T))) (some (.int (Int32.ofNat E.nu))) (Int32.ofNat E.ar) none S N (by omega) (by omega) (by omega) hz hs he he (by omega)
  have sg : shg E.nu E.ar E.rm (DB G f p e s w0).1 := ⟨_, _, _, nu1, ar1, rm1, sh1⟩
  obtain ⟨h2, x2, R2, k2, a2, c2, -, run2⟩ := blk_9 (d := d) (G := G) (x1 := some (.int (Int32.ofNat b))) (x2 := some (.int (Int32.ofNat p))) (x3 := some (.int nx')) (x8 := y8) (x9 := some (.int (Int32.ofNat e))) (x10 := y10) (x11 := y11) S.A x1 R1 (rq_lv x1 S.l) k1 sg S.m f1 ta1
  refine ⟨h2, BFi.of ⟨rq_t x1 x2, R2, k2, a2, fun q w => c2 q (c1 q w), fun w q q1 q2 => ⟨c2 q (n1 w q q1 q2).1, c2 _ (n1 w q q1 q2).2⟩, keep_shp sg⟩, fun Q => ?_⟩
  rw [← run2 Q, ← run1]
  have g := J0.a.g
  have a18 := S.A.V.t
  have a20 := S.A.n
  have a21 := S.A.a
  have eE : p + (e - p) = e := by omega
  have e1' : ∀ k, Int32.ofNat k + 1 = Int32.ofNat (k + 1) := fun k => nn_add (a := k) (b := 1)
  clear S J0 q L LWt x1 x2 R1 R2 k1 k2 sh1 sg c1 c2 n1 N run1 run2
  simp (disch := omega) only [s_257_0, s_257_1, s_257_4, s_257_6, s_257_7, s_257_10, s_257_12, s_257_13, s_257_16, s_257_18, s_257_19, s_257_21, s_257_22, s_257_23, s_257_24, s_257_27, s_257_28, s_257_30, s_257_31, s_257_32, s_257_33, s_257_37, s_257_38, s_257_39, s_257_42, s_257_45, s_257_46, s_257_49, s_257_52, s_257_54, s_257_55, s_257_57, s_257_60, s_257_61, s_257_63, s_257_64, s_257_66, s_257_68, s_257_70, s_257_72, s_257_75, s_257_77, s_257_80, s_257_81, s_257_83, s_257_86, s_257_88, s_257_90, s_257_91, s_257_93, s_257_96, s_257_98, s_257_101, s_257_102, s_257_104, s_257_107, s_257_108, s_257_110, s_257_113, s_257_114, s_257_116, s_257_119, s_257_121, s_257_123, s_257_125, s_257_128, e_257, mv_i_1, mv_l_1, mv_a_1, mv_a_2, mv_a_3, mk2_n, mk2_i, mk2_l, mk2_a, mk2_u, mk2_x, mB_T, mB_F, mS_cons, mS_nil, mSB_T, mSB_F, mca_nil, mca_i, mca_l, mca_r, mca_u, mca_x, mcat_i, mcat_l, mcat_r, mcat_u, mcat_x, mK_some, mK_none, va_rf_s, va_rf_n, lgc_eq, lgc_lt, lgc_gt, lgc_ge, lgc_le, mrd_104, mrd_105, mrd_106, mrd_107, true_and, and_true, and_self, false_and, and_false, true_or, or_true, false_or, or_false, not_true_eq_false, not_false_eq_true, mgb, mga, mgr, mN, reduceCtorEq, ↓reduceIte, eq_self, ge_iff_le, gt_iff_lt, Nat.reduceAdd, Nat.reduceMul, Nat.reduceSub, Nat.reduceLT, Nat.reduceGT, Nat.reduceEqDiff, Nat.reduceLeDiff, Nat.left_eq_add, Nat.add_eq_left, Nat.reduceMod, Nat.reduceDiv, Nat.succ_ne_self, g, a18, a20, a21, cc, nn_add, eE, e1']
/-- block IS DB -/
theorem blk_all (hG : G.fx = fxJ J) : ∀ f, BQ G J D f ∧ BL G J D f := by
  intro f
  induction f with
  | zero => exact ⟨BQ_of BL_z, BL_z⟩
  | succ f ih => exact ⟨BQ_of (BL_s hG ih.1 ih.2), BL_s hG ih.1 ih.2⟩
end BMs
