set_option maxRecDepth 100000
/-! choice: its BLOCKs, its end -/
/-- what block does -/
def BQ (G : pgm) (J : pin) (D : fd) (f : Nat) : Prop := ∀ (t : tr) (p e : Nat) (E : nv), LW G J D f t p e E → ∀ (d b s0 o : Nat) (nx' : Int32) (h : mh_H) (s : Option ab) (w0 : wd), SA h s0 o E D w0 s → nd (mh_i h 93) (mh_i h 95) (mh_i h 97) (b + 1) t → b + 1 + ts t ≤ 26000 → mh_i h 97 b = Int32.ofNat (1 + ts t) → s0 + (DB G f p e s w0).2.2 + 1 ≤ 2048 → e ≤ 249 → 4 * (e - p) + 830 ≤ d → ∃ h', BFi G h h' s0 o E.T p e E D (DB G f p e s w0).2.1 (o_keep E.nu E.ar (DB G f p e s w0).1) ∧ ∀ Q, mcall d 257 [.ref 115, .int (Int32.ofNat b), .int (Int32.ofNat p), .int nx', .ref o] h Q = Q none h'
section CIs
variable {d : Nat} {h h1 h2 : mh_H} {s0 s1 o ho fa st b p k T f : Nat} {E E' : nv} {D : fd} {w0 w1 : wd} {s s' X Y F1 F2 : Option ab} {G : pgm} {J : pin} {A : ab} {t c bs : tr} {m : Nat} {u : Unit} {al : Int32}
theorem DB_le {f e : Nat} (hp : p = e) : DB G f p e s w0 = (s, w0, 0) := by
  cases f with
  | zero => rfl
  | succ f => unfold DB; rw [if_neg (by omega)]
/-- another Known stays -/
theorem ra_o (R : RA h s1 E D w0) (so : sp h o) (sx : sp h ho) (ne : ho ≠ o) (f : fq (kW o) h h1) (k : RK h ho X) : RK h1 ho X := rs_K R.j (rs_k f) sx (fun y hy _ w => kc_no R.j sx so ne y hy w) k
theorem ra_oi (R : RA h s1 E D w0) (so : sp h o) (sx : sp h ho) (ne : ho ≠ o) (f : fq (kW o) h h1) (j : Nat) : mh_i h1 ho j = mh_i h ho j := rs_ki R.j (rs_k f) sx (fun j w => kc_no R.j sx so ne 0 (by omega) w) j
theorem cn_k (R : RA h s1 E D w0) (so : sp h o) (f : fq (kW o) h h1) {q : Nat} (w : cnQ G h q) : cnQ G h1 q := cn_q R (vK_1 so) (rq_rs (s0 := 0) R.j (vK_1 so) (rs_k f)) w
theorem sp_k (so : sp h ho) (f : fq (kW o) h h1) : sp h1 ho := by unfold sp; rw [f.2.2.1]; exact so
theorem cho_3 (R : RA h s1 E D w0) (lo : lv h s0 o) (ko' : RK h o s) (kh : RK h ho X) (kf : RK h fa Y) (shX : shp E.nu E.ar E.rm X) (shY : shp E.nu E.ar E.rm Y) (r1 : mh_r h 119 s0 = some ho) (r2 : mh_r h 119 (s0 + 1) = some fa) (n12 : E.nu ≤ 12) (a6 : E.ar ≤ 6) (hd : 1 ≤ d) {x1 x2 x3 x5 x9 x10 x11 x12 : Option Value} : ∃ h', rq s0 (sV o E.T) h h' ∧ RA h' s0 E D w0 ∧ RK h' o (o_join X Y) ∧ mh_i h' o 2 = Int32.ofNat E.ar ∧ (∀ q, cnQ G h q → cnQ G h' q) ∧ mh_i h' 115 35 = mh_i h 115 35 ∧ ∀ Q, mw (d + 1) 264 Q 183 [some (.ref 115), x1, x2, x3, some (.ref o), x5, some (.int (Int32.ofNat s0)), some (.ref ho), some (.ref fa), x9, x10, x11, x12] [] h = Q none h' := by
  obtain ⟨d, rfl⟩ : ∃ d', d = d' + 1 := ⟨d - 1, by omega⟩
  have J := R.j
  have so := lv_sp lo
  have l44 := sp_lo J so
  have sh' : sp h ho := ⟨_, r1⟩
  have sf : sp h fa := ⟨_, r2⟩
  have noh : o ≠ ho := lv_ne J lo (Nat.le_refl _) r1
  have nof : o ≠ fa := lv_ne J lo (by omega) r2
  obtain ⟨X1, f1, k1, run1⟩ := k_281 (d := d + 1) (RK_ko ko') kh noh
  have R1 := ra_k R so f1 (RK_ko k1)
  have so1 : sp X1 o := sp_k so f1
  have kf1 := ra_o R so sf (fun z => nof z.symm) f1 kf
  have i0 := ra_oi R so sh' (fun z => noh z.symm) f1 0
  obtain ⟨X2, f2, k2, run2⟩ := k_293o (d := d) k1 kf1 nof (fun A' B' eA eB => by
    obtain ⟨-, a1, a2, -⟩ := shX A' eA
    obtain ⟨-, b1, b2, -⟩ := shY B' eB
    exact ⟨a1.trans b1.symm, a2.trans b2.symm⟩)
  have R2 := ra_k R1 so1 f2 (RK_ko k2)
  have so2 : sp X2 o := sp_k so1 f2
  have shJ := join_shp shX shY
  have k3 := RK_n (n := E.nu) k2 (fun A' e => (shJ A' e).2.1) n12
  have f3 : fq (kW o) X2 (mh_si X2 o 1 (Int32.ofNat E.nu)) := fq_si kW0
  have R3 := ra_k R2 so2 f3 (RK_ko k3)
  have so3 : sp (mh_si X2 o 1 (Int32.ofNat E.nu)) o := sp_k so2 f3
  have k4 := RK_a (n := E.ar) k3 (fun A' e => (shJ A' e).2.2.1) a6
  have f4 : fq (kW o) (mh_si X2 o 1 (Int32.ofNat E.nu)) (mh_si (mh_si X2 o 1 (Int32.ofNat E.nu)) o 2 (Int32.ofNat E.ar)) := fq_si kW0
  have R4 := ra_k R3 so3 f4 (RK_ko k4)
  refine ⟨mh_si (mh_si (mh_si X2 o 1 (Int32.ofNat E.nu)) o 2 (Int32.ofNat E.ar)) 115 11 (Int32.ofNat s0), rq_t (sV_k R so f1) (rq_t (sV_k R1 so1 f2) (rq_t (sV_k R2 so2 f3) (rq_t (sV_k R3 so3 f4) (sV_115 (by omega))))), RA_11 R4, RK_fz (fz_si (W := fun b _ => b = 115) rfl) (fun y hy j w => by omega) k4, by rw [hi_si, if_neg (by omega), hi_si, if_pos ⟨rfl, rfl⟩], fun q w => ?_, by rw [hi_si, if_neg (by omega), hi_si, if_neg (by omega), hi_si, if_neg (by omega), rs_ij R1.j so1 f2, rs_ij J so f1], fun Q => ?_⟩
  · have := cn_k R3 so3 f4 (cn_k R2 so2 f3 (cn_k R1 so1 f2 (cn_k R so f1 w)))
    exact cn_i this (fun b j hb => by rw [hi_si, if_neg (by omega)])
  · have go := (RK_ko ko').1
    have gh := (RK_ko kh).1
    have go1 := (RK_ko k1).1
    have go2 := (RK_ko k2).1
    have gh1 : mg X1 ho 13 := (RK_ko (ra_o R so sh' (fun z => noh z.symm) f1 kh)).1
    have g1 := R1.j.a.g
    have g2 := R2.j.a.g
    have a20 := R2.n
    have a21 := R2.a
    have z0 : ∃ z : Int32, mh_i h ho 0 = z ∧ mh_i X1 o 0 = z ∧ (z = 0 ∨ z = 1) := by
      cases X with
      | none => exact ⟨1, KN.z kh, KN.z k1, Or.inr rfl⟩
      | some A => exact ⟨0, KM.z kh, KM.z k1, Or.inl rfl⟩
    obtain ⟨z, z1, z2, z3⟩ := z0
    have i0' : mh_i X1 ho 0 = z := i0.trans z1
    have id0 : mh_si X1 o 0 z = X1 := by rw [← z2, si_id]
    have z3' : (z = 0 ∨ z = 1) = True := eq_true z3
    have nho : ¬ o = 115 := by omega
    clear R R1 R2 R3 R4 J ko' kh kf shX shY shJ k1 k2 k3 k4 kf1 f1 f2 f3 f4 i0 z1 z2 z3
    simp (disch := omega) only [s_264_0, s_264_1, s_264_2, s_264_4, s_264_7, s_264_9, s_264_10, s_264_13, s_264_15, s_264_16, s_264_19, s_264_19n, s_264_21, s_264_22, s_264_25, s_264_25n, s_264_27, s_264_28, s_264_29, s_264_30, s_264_31, s_264_33, s_264_35, s_264_37, s_264_40, s_264_41, s_264_42, s_264_45, s_264_46, s_264_47, s_264_48, s_264_49, s_264_52, s_264_54, s_264_55, s_264_57, s_264_60, s_264_61, s_264_62, s_264_65, s_264_68, s_264_69, s_264_71, s_264_74, s_264_77, s_264_78, s_264_80, s_264_81, s_264_82, s_264_83, s_264_84, s_264_86, s_264_89, s_264_90, s_264_92, s_264_94, s_264_97, s_264_99, s_264_102, s_264_104, s_264_105, s_264_107, s_264_110, s_264_111, s_264_113, s_264_114, s_264_115, s_264_117, s_264_118, s_264_119, s_264_120, s_264_123, s_264_124, s_264_125, s_264_126, s_264_129, s_264_130, s_264_132, s_264_135, s_264_136, s_264_137, s_264_139, s_264_141, s_264_144, s_264_146, s_264_149, s_264_150, s_264_152, s_264_155, s_264_156, s_264_158, s_264_159, s_264_160, s_264_161, s_264_162, s_264_164, s_264_167, s_264_169, s_264_172, s_264_173, s_264_175, s_264_177, s_264_178, s_264_180, s_264_183, s_264_185, s_264_187, s_264_190, s_264_192, s_264_194, s_264_197, s_264_200, s_264_202, s_264_204, s_264_207, s_264_209, s_264_210, s_264_213, s_264_216, s_264_218, s_264_219, s_264_222, s_264_225, s_264_226, s_264_228, s_264_231, e_264, mv_i_1, mv_l_1, mv_a_1, mv_a_2, mv_a_3, mk2_n, mk2_i, mk2_l, mk2_a, mk2_u, mk2_x, mB_T, mB_F, mS_cons, mS_nil, mSB_T, mSB_F, mca_nil, mca_i, mca_l, mca_r, mca_u, mca_x, mcat_i, mcat_l, mcat_r, mcat_u, mcat_x, mK_some, mK_none, va_rf_s, va_rf_n, lgc_eq, lgc_lt, lgc_gt, lgc_ge, lgc_le, mrd_104, mrd_105, mrd_106, mrd_107, true_and, and_true, and_self, false_and, and_false, true_or, or_true, false_or, or_false, not_true_eq_false, not_false_eq_true, mgb, mga, mgr, mN, reduceCtorEq, ↓reduceIte, eq_self, ge_iff_le, gt_iff_lt, hk_si, hk_sj, hk_sr, hl_si, hl_sj, hl_sr, hn_si, hn_sj, hn_sr, hs_si, hs_sj, hs_sr, hi_sj, hi_sr, hj_si, hj_sr, hr_si, hr_sj, hi_si, hj_sj, hr_sr, mg_si, mg_sj, mg_sr, Nat.reduceAdd, Nat.reduceMul, Nat.reduceSub, Nat.reduceLT, Nat.reduceGT, Nat.reduceEqDiff, Nat.reduceLeDiff, Nat.left_eq_add, Nat.add_eq_left, Nat.reduceMod, Nat.reduceDiv, Nat.succ_ne_self, go, gh, go1, go2, gh1, g1, g2, run1, i0', z3', id0, run2, a20, a21]
/-- its BLOCKs -/
theorem cho_2 (B : BQ G J D f) {q : tr} (hM1 : p < G.M p) (hM2 : G.M p ≤ G.E p) (hE : G.E p ≤ 249) (hfu : E.fu ≤ D.c) (L1 : LW G J D f bs (p + 1) (G.M p) E) (L2 : ((∃ u, q = .leaf u) ∧ G.M p = G.E p) ∨ ∃ b2 bs2 u, q = .branch b2 bs2 (.leaf u) ∧ LW G J D f bs2 (G.M p) (G.E p) E) (S1 : SA h (s0 + 2) ho E D w1 F1) (S2 : SA h (s0 + 2) fa E D w1 F2) (r1 : mh_r h 119 s0 = some ho) (r2 : mh_r h 119 (s0 + 1) = some fa) (nhf : ho ≠ fa) (lo : lv h s0 o) (ko' : RK h o s) (hz : mh_i h 97 k = Int32.ofNat (1 + ts (.branch m c (.branch b bs q)))) (N : nd (mh_i h 93) (mh_i h 95) (mh_i h 97) (k + 1) (.branch m c (.branch b bs q))) (hb : k + 1 + ts (.branch m c (.branch b bs q)) ≤ 26000) (hs : s0 + (2 + max (DB G f (p + 1) (G.M p) F1 w1).2.2 (DB G f (G.M p) (G.E p) F2 (DB G f (p + 1) (G.M p) F1 w1).2.1).2.2) + 1 ≤ 2048) (hd : 4 * (G.E p - p) + 826 ≤ d) {nx' : Int32} {x5 : Option Value} : ∃ h' y9 y10 y11 y12, rq s0 (sV o E.T) h h' ∧ RA h' (s0 + 2) E D (DB G f (G.M p) (G.E p) F2 (DB G f (p + 1) (G.M p) F1 w1).2.1).2.1 ∧ RK h' ho (o_keep E.nu E.ar (DB G f (p + 1) (G.M p) F1 w1).1) ∧ RK h' fa (o_keep E.nu E.ar (DB G f (G.M p) (G.E p) F2 (DB G f (p + 1) (G.M p) F1 w1).2.1).1) ∧ shp E.nu E.ar E.rm (o_keep E.nu E.ar (DB G f (p + 1) (G.M p) F1 w1).1) ∧ shp E.nu E.ar E.rm (o_keep E.nu E.ar (DB G f (G.M p) (G.E p) F2 (DB G f (p + 1) (G.M p) F1 w1).2.1).1) ∧ mh_r h' 119 s0 = some ho ∧ mh_r h' 119 (s0 + 1) = some fa ∧ lv h' s0 o ∧ RK h' o s ∧ (∀ q, cnQ G h q → cnQ G h' q) ∧ (wW (DB G f (G.M p) (G.E p) F2 (DB G f (p + 1) (G.M p) F1 w1).2.1).2.1 ≤ 4000 → ∀ q, p + 1 ≤ q → q < G.E p → cnQ G h' q ∧ cnQ G h' (q + 1000)) ∧ ∀ Q, mw (d + 1) 264 Q 45 [some (.ref 115), some (.int (Int32.ofNat k)), some (.int (Int32.ofNat p)), some (.int nx'), some (.ref o), x5, some (.int (Int32.ofNat s0)), some (.ref ho), some (.ref fa), none, none, none, none] [] h = mw (d + 1) 264 Q 183 [some (.ref 115), some (.int (Int32.ofNat k)), some (.int (Int32.ofNat p)), some (.int nx'), some (.ref o), x5, some (.int (Int32.ofNat s0)), some (.ref ho), some (.ref fa), y9, y10, y11, y12] [] h' := by
  have hs2 : s0 + 2 + (DB G f (G.M p) (G.E p) F2 (DB G f (p + 1) (G.M p) F1 w1).2.1).2.2 + 1 ≤ 2048 := by omega
  have hdd : 4 * (G.E p - G.M p) + 830 ≤ d := by omega
  have A := S1.A
  have J0 := A.j
  have g := J0.a.g
  have noh : o ≠ ho := lv_ne J0 lo (Nat.le_refl _) r1
  have nof : o ≠ fa := lv_ne J0 lo (by omega) r2
  rw [ts_B, ts_B] at hz hb
  obtain ⟨-, -, s1', -, -, -, s2', n5, n6⟩ := N
  have q1 := LW_Q f bs (p + 1) (G.M p) E L1 (by omega)
  have c0 := u_228 (d := d) J0.a (k := k) (by omega) hz
  have c1 := u_228 (d := d) J0.a (k := k + 1) (by omega) s1'
  have e3 : k + 1 + (1 + ts c) = k + 1 + 1 + ts c := by omega
  rw [e3] at c1
  have c2 := u_228 (d := d) J0.a (k := k + 1 + 1 + ts c) (by omega) s2'
  have p1 := PQ_c (d := d) (b := k + 1 + 1 + ts c) q1 J0 A.F A.X A.f n5 (by omega) s2' (by omega)
  have e4 : k + 1 + 1 + ts c + (1 + ts bs) = k + 1 + 1 + ts c + 1 + ts bs := by omega
  rw [e4] at c2
  obtain ⟨h1, B1, run1⟩ := B bs (p + 1) (G.M p) E L1 d (k + 1 + 1 + ts c) (s0 + 2) ho nx' h F1 w1 S1 n5 (by omega) s2' (by omega) (by omega) (by omega)
  have cg : ∀ (x y : Int32) (o : Nat) Q, mcall d 260 [.ref 115, .int x, .int y, .ref o] h Q = Q none h := fun x y o => w_260 A S1.z
  have J1 := B1.A.j
  have g1 := J1.a.g
  have x1 : rq s0 (sV o E.T) h h1 := sV_sp B1.x (by omega) (Nat.le_refl _) (Or.inr ⟨s0, Nat.le_refl _, r1⟩)
  have l1 := rq_lv B1.x lo
  have lw : ∀ {a : Nat}, lv h s0 a → lv h (s0 + 2) a := fun l => lv_w l (by omega)
  have ko1 : RK h1 o s := sV_K J0 B1.x S1.l (lw lo) noh ko'
  have kf1 : RK h1 fa F2 := sV_K J0 B1.x S1.l S2.l (fun z => nhf z.symm) S2.k
  have af1 : mh_i h1 fa 2 = Int32.ofNat E.ar := (sV_ki J0 B1.x S1.l S2.l (fun z => nhf z.symm) 2).trans S2.a
  have r1' : mh_r h1 119 s0 = some ho := B1.x.k _ _ r1
  have r2' : mh_r h1 119 (s0 + 1) = some fa := B1.x.k _ _ r2
  have e1' : ∀ k, Int32.ofNat k + 1 = Int32.ofNat (k + 1) := fun k => nn_add (a := k) (b := 1)
  have eM : p + 1 + (G.M p - (p + 1)) = G.M p := by omega
  have hMc : (G.M p ≤ p + 1) = True ∨ (G.M p ≤ p + 1) = False := by
    by_cases z : G.M p ≤ p + 1
    · exact Or.inl (eq_true z)
    · exact Or.inr (eq_false z)
  rcases L2 with ⟨⟨u, rfl⟩, hME⟩ | ⟨b2, bs2, u, rfl, L2⟩
  · have eD : DB G f (G.M p) (G.E p) F2 (DB G f (p + 1) (G.M p) F1 w1).2.1 = (F2, (DB G f (p + 1) (G.M p) F1 w1).2.1, 0) := DB_le hME
    rw [eD]
    have kid : o_keep E.nu E.ar F2 = F2 := keep_id S2.sh
    have kid' : o_keep E.nu E.ar (F2, (DB G f (p + 1) (G.M p) F1 w1).2.1, 0).1 = F2 := kid
    rw [kid']
    refine ⟨h1, some (.int (Int32.ofNat (k + 1 + 1 + ts c))), some (.int (-1)), some (.int (Int32.ofNat (G.M p))), some (.int (Int32.ofNat (G.M p))), x1, B1.A, B1.k, kf1, B1.sh, S2.sh, r1', r2', l1, ko1, B1.c, fun w q q1 q2 => B1.n w q q1 (by omega), fun Q => ?_⟩
    have le : (k + (1 + (1 + ts c + (1 + ts bs + ts (.leaf u : tr)))) ≤ k + 1 + 1 + ts c + 1 + ts bs) = True := eq_true (by show k + (1 + (1 + ts c + (1 + ts bs + 0))) ≤ _; omega)
    have lm : ((-1 : Int32) < 0) = True := by decide
    have lm2 : ((0 : Int32) ≤ -1) = False := by decide
    have lMM : (G.M p ≤ G.M p) = True := eq_true (Nat.le_refl _)
    clear A S1 S2 J0 J1 B B1 ko1 kf1 ko' x1 q1 L1 n5 n6 lw
    rw [s_264_45]
    rcases hMc with hMc | hMc
    · simp (disch := omega) only [s_264_0, s_264_1, s_264_2, s_264_4, s_264_7, s_264_9, s_264_10, s_264_13, s_264_15, s_264_16, s_264_19, s_264_19n, s_264_21, s_264_22, s_264_25, s_264_25n, s_264_27, s_264_28, s_264_29, s_264_30, s_264_31, s_264_33, s_264_35, s_264_37, s_264_40, s_264_41, s_264_42, s_264_46, s_264_47, s_264_48, s_264_49, s_264_52, s_264_54, s_264_55, s_264_57, s_264_60, s_264_61, s_264_62, s_264_65, s_264_68, s_264_69, s_264_71, s_264_74, s_264_77, s_264_78, s_264_80, s_264_81, s_264_82, s_264_83, s_264_84, s_264_86, s_264_89, s_264_90, s_264_92, s_264_94, s_264_97, s_264_99, s_264_102, s_264_104, s_264_105, s_264_107, s_264_110, s_264_111, s_264_113, s_264_114, s_264_115, s_264_117, s_264_118, s_264_119, s_264_120, s_264_123, s_264_124, s_264_125, s_264_126, s_264_129, s_264_130, s_264_132, s_264_135, s_264_136, s_264_137, s_264_139, s_264_141, s_264_144, s_264_146, s_264_149, s_264_150, s_264_152, s_264_155, s_264_156, s_264_158, s_264_159, s_264_160, s_264_161, s_264_162, s_264_164, s_264_167, s_264_169, s_264_172, s_264_173, s_264_175, s_264_177, s_264_178, s_264_180, s_264_185, s_264_187, s_264_190, s_264_192, s_264_194, s_264_197, s_264_200, s_264_202, s_264_204, s_264_207, s_264_209, s_264_210, s_264_213, s_264_216, s_264_218, s_264_219, s_264_222, s_264_225, s_264_226, s_264_228, s_264_231, e_264, mv_i_1, mv_l_1, mv_a_1, mv_a_2, mv_a_3, mk2_n, mk2_i, mk2_l, mk2_a, mk2_u, mk2_x, mB_T, mB_F, mS_cons, mS_nil, mSB_T, mSB_F, mca_nil, mca_i, mca_l, mca_r, mca_u, mca_x, mcat_i, mcat_l, mcat_r, mcat_u, mcat_x, mK_some, mK_none, va_rf_s, va_rf_n, lgc_eq, lgc_lt, lgc_gt, lgc_ge, lgc_le, mrd_104, mrd_105, mrd_106, mrd_107, true_and, and_true, and_self, false_and, and_false, true_or, or_true, false_or, or_false, not_true_eq_false, not_false_eq_true, mgb, mga, mgr, mN, reduceCtorEq, ↓reduceIte, eq_self, ge_iff_le, gt_iff_lt, Nat.reduceAdd, Nat.reduceMul, Nat.reduceSub, Nat.reduceLT, Nat.reduceGT, Nat.reduceEqDiff, Nat.reduceLeDiff, Nat.left_eq_add, Nat.add_eq_left, Nat.reduceMod, Nat.reduceDiv, Nat.succ_ne_self, g, g1, c0, c1, c2, p1, nn_le, le, lm, lm2, nn_add, e1', eM, hMc, lMM, cg, run1]
    · simp (disch := omega) only [s_264_0, s_264_1, s_264_2, s_264_4, s_264_7, s_264_9, s_264_10, s_264_13, s_264_15, s_264_16, s_264_19, s_264_19n, s_264_21, s_264_22, s_264_25, s_264_25n, s_264_27, s_264_28, s_264_29, s_264_30, s_264_31, s_264_33, s_264_35, s_264_37, s_264_40, s_264_41, s_264_42, s_264_46, s_264_47, s_264_48, s_264_49, s_264_52, s_264_54, s_264_55, s_264_57, s_264_60, s_264_61, s_264_62, s_264_65, s_264_68, s_264_69, s_264_71, s_264_74, s_264_77, s_264_78, s_264_80, s_264_81, s_264_82, s_264_83, s_264_84, s_264_86, s_264_89, s_264_90, s_264_92, s_264_94, s_264_97, s_264_99, s_264_102, s_264_104, s_264_105, s_264_107, s_264_110, s_264_111, s_264_113, s_264_114, s_264_115, s_264_117, s_264_118, s_264_119, s_264_120, s_264_123, s_264_124, s_264_125, s_264_126, s_264_129, s_264_130, s_264_132, s_264_135, s_264_136, s_264_137, s_264_139, s_264_141, s_264_144, s_264_146, s_264_149, s_264_150, s_264_152, s_264_155, s_264_156, s_264_158, s_264_159, s_264_160, s_264_161, s_264_162, s_264_164, s_264_167, s_264_169, s_264_172, s_264_173, s_264_175, s_264_177, s_264_178, s_264_180, s_264_185, s_264_187, s_264_190, s_264_192, s_264_194, s_264_197, s_264_200, s_264_202, s_264_204, s_264_207, s_264_209, s_264_210, s_264_213, s_264_216, s_264_218, s_264_219, s_264_222, s_264_225, s_264_226, s_264_228, s_264_231, e_264, mv_i_1, mv_l_1, mv_a_1, mv_a_2, mv_a_3, mk2_n, mk2_i, mk2_l, mk2_a, mk2_u, mk2_x, mB_T, mB_F, mS_cons, mS_nil, mSB_T, mSB_F, mca_nil, mca_i, mca_l, mca_r, mca_u, mca_x, mcat_i, mcat_l, mcat_r, mcat_u, mcat_x, mK_some, mK_none, va_rf_s, va_rf_n, lgc_eq, lgc_lt, lgc_gt, lgc_ge, lgc_le, mrd_104, mrd_105, mrd_106, mrd_107, true_and, and_true, and_self, false_and, and_false, true_or, or_true, false_or, or_false, not_true_eq_false, not_false_eq_true, mgb, mga, mgr, mN, reduceCtorEq, ↓reduceIte, eq_self, ge_iff_le, gt_iff_lt, Nat.reduceAdd, Nat.reduceMul, Nat.reduceSub, Nat.reduceLT, Nat.reduceGT, Nat.reduceEqDiff, Nat.reduceLeDiff, Nat.left_eq_add, Nat.add_eq_left, Nat.reduceMod, Nat.reduceDiv, Nat.succ_ne_self, g, g1, c0, c1, c2, p1, nn_le, le, lm, lm2, nn_add, e1', eM, hMc, lMM, cg, run1]
  · obtain ⟨-, -, s3, n7, -⟩ := n6
    have q2 := LW_Q f bs2 (G.M p) (G.E p) E L2 (by omega)
    have tq : ts (.branch b2 bs2 (.leaf u) : tr) = 1 + ts bs2 := by rw [ts_B]; rfl
    rw [tq] at hz hb c0
    have hbb : k + 1 + 1 + ts c + 1 + ts bs + 1 + ts bs2 ≤ 26000 := by omega
    have p2 := PQ_c (d := d) (b := k + 1 + 1 + ts c + 1 + ts bs) q2 J0 A.F A.X A.f n7 (by omega) s3 (by omega)
    have le : (k + (1 + (1 + ts c + (1 + ts bs + (1 + ts bs2)))) ≤ k + 1 + 1 + ts c + 1 + ts bs) = False := eq_false (by omega)
    have loh := sp_lo J0 (lv_sp S1.l)
    obtain ⟨t1, t2, t3⟩ := sV_tr J0 loh B1.x
    have n7' : nd (mh_i h1 93) (mh_i h1 95) (mh_i h1 97) (k + 1 + 1 + ts c + 1 + ts bs + 1) bs2 := by rw [t1, t2, t3]; exact n7
    have s3' : mh_i h1 97 (k + 1 + 1 + ts c + 1 + ts bs) = Int32.ofNat (1 + ts bs2) := by rw [t3]; exact s3
    have SA2 : SA h1 (s0 + 2) fa E D (DB G f (p + 1) (G.M p) F1 w1).2.1 F2 := SA.of ⟨B1.A, rq_lv B1.x S2.l, kf1, af1, S2.sh, S2.m, (sV_z J0 loh B1.x).trans S2.z⟩
    obtain ⟨h2, B2, run2⟩ := B bs2 (G.M p) (G.E p) E L2 d (k + 1 + 1 + ts c + 1 + ts bs) (s0 + 2) fa nx' h1 F2 _ SA2 n7' hbb s3' hs2 hE hdd
    have wm := DB_w G f (G.M p) (G.E p) F2 (DB G f (p + 1) (G.M p) F1 w1).2.1
    have x2 : rq s0 (sV o E.T) h1 h2 := sV_sp B2.x (by omega) (Nat.le_refl _) (Or.inr ⟨s0 + 1, by omega, r2'⟩)
    have lf1 := rq_lv B1.x S2.l
    have lh1 := rq_lv B1.x S1.l
    have kh2 := sV_K J1 B2.x lf1 lh1 nhf B1.k
    have ko2 := sV_K J1 B2.x lf1 (lv_w l1 (by omega)) nof ko1
    refine ⟨h2, some (.int (Int32.ofNat (k + 1 + 1 + ts c))), some (.int (Int32.ofNat (k + 1 + 1 + ts c + 1 + ts bs))), some (.int (Int32.ofNat (G.M p))), some (.int (Int32.ofNat (G.E p))), rq_t x1 x2, B2.A, kh2, B2.k, B1.sh, B2.sh, B2.x.k _ _ r1', B2.x.k _ _ r2', rq_lv B2.x l1, ko2, fun q w => B2.c q (B1.c q w), fun w q q1 q2 => ?_, fun Q => ?_⟩
    · by_cases c : q < G.M p
      · have b := B1.n (Nat.le_trans wm w) q q1 c
        exact ⟨B2.c q b.1, B2.c _ b.2⟩
      · exact B2.n w q (by omega) q2
    have eE : G.M p + (G.E p - G.M p) = G.E p := by omega
    have hEc : (G.E p ≤ G.M p) = True ∨ (G.E p ≤ G.M p) = False := by
      by_cases z : G.E p ≤ G.M p
      · exact Or.inl (eq_true z)
      · exact Or.inr (eq_false z)
    have lm2 : ((0 : Int32) ≤ Int32.ofNat (k + 1 + 1 + ts c + 1 + ts bs)) = True := nn_ge (by omega)
    have lm : (Int32.ofNat (k + 1 + 1 + ts c + 1 + ts bs) < (0 : Int32)) = False := nn_neg (by omega)
    clear A S1 S2 J0 J1 B B1 B2 ko1 kf1 ko' kh2 ko2 x1 x2 q1 q2 L1 L2 n5 n7 lw
    rw [s_264_45]
    rcases hMc with hMc | hMc
    · rcases hEc with hEc | hEc
      · simp (disch := omega) only [s_264_0, s_264_1, s_264_2, s_264_4, s_264_7, s_264_9, s_264_10, s_264_13, s_264_15, s_264_16, s_264_19, s_264_19n, s_264_21, s_264_22, s_264_25, s_264_25n, s_264_27, s_264_28, s_264_29, s_264_30, s_264_31, s_264_33, s_264_35, s_264_37, s_264_40, s_264_41, s_264_42, s_264_46, s_264_47, s_264_48, s_264_49, s_264_52, s_264_54, s_264_55, s_264_57, s_264_60, s_264_61, s_264_62, s_264_65, s_264_68, s_264_69, s_264_71, s_264_74, s_264_77, s_264_78, s_264_80, s_264_81, s_264_82, s_264_83, s_264_84, s_264_86, s_264_89, s_264_90, s_264_92, s_264_94, s_264_97, s_264_99, s_264_102, s_264_104, s_264_105, s_264_107, s_264_110, s_264_111, s_264_113, s_264_114, s_264_115, s_264_117, s_264_118, s_264_119, s_264_120, s_264_123, s_264_124, s_264_125, s_264_126, s_264_129, s_264_130, s_264_132, s_264_135, s_264_136, s_264_137, s_264_139, s_264_141, s_264_144, s_264_146, s_264_149, s_264_150, s_264_152, s_264_155, s_264_156, s_264_158, s_264_159, s_264_160, s_264_161, s_264_162, s_264_164, s_264_167, s_264_169, s_264_172, s_264_173, s_264_175, s_264_177, s_264_178, s_264_180, s_264_185, s_264_187, s_264_190, s_264_192, s_264_194, s_264_197, s_264_200, s_264_202, s_264_204, s_264_207, s_264_209, s_264_210, s_264_213, s_264_216, s_264_218, s_264_219, s_264_222, s_264_225, s_264_226, s_264_228, s_264_231, e_264, mv_i_1, mv_l_1, mv_a_1, mv_a_2, mv_a_3, mk2_n, mk2_i, mk2_l, mk2_a, mk2_u, mk2_x, mB_T, mB_F, mS_cons, mS_nil, mSB_T, mSB_F, mca_nil, mca_i, mca_l, mca_r, mca_u, mca_x, mcat_i, mcat_l, mcat_r, mcat_u, mcat_x, mK_some, mK_none, va_rf_s, va_rf_n, lgc_eq, lgc_lt, lgc_gt, lgc_ge, lgc_le, mrd_104, mrd_105, mrd_106, mrd_107, true_and, and_true, and_self, false_and, and_false, true_or, or_true, false_or, or_false, not_true_eq_false, not_false_eq_true, mgb, mga, mgr, mN, reduceCtorEq, ↓reduceIte, eq_self, ge_iff_le, gt_iff_lt, Nat.reduceAdd, Nat.reduceMul, Nat.reduceSub, Nat.reduceLT, Nat.reduceGT, Nat.reduceEqDiff, Nat.reduceLeDiff, Nat.left_eq_add, Nat.add_eq_left, Nat.reduceMod, Nat.reduceDiv, Nat.succ_ne_self, g, g1, c0, c1, c2, p1, p2, nn_le, le, lm, lm2, nn_add, e1', eM, eE, hMc, hEc, cg, run1, run2]
      · simp (disch := omega) only [s_264_0, s_264_1, s_264_2, s_264_4, s_264_7, s_264_9, s_264_10, s_264_13, s_264_15, s_264_16, s_264_19, s_264_19n, s_264_21, s_264_22, s_264_25, s_264_25n, s_264_27, s_264_28, s_264_29, s_264_30, s_264_31, s_264_33, s_264_35, s_264_37, s_264_40, s_264_41, s_264_42, s_264_46, s_264_47, s_264_48, s_264_49, s_264_52, s_264_54, s_264_55, s_264_57, s_264_60, s_264_61, s_264_62, s_264_65, s_264_68, s_264_69, s_264_71, s_264_74, s_264_77, s_264_78, s_264_80, s_264_81, s_264_82, s_264_83, s_264_84, s_264_86, s_264_89, s_264_90, s_264_92, s_264_94, s_264_97, s_264_99, s_264_102, s_264_104, s_264_105, s_264_107, s_264_110, s_264_111, s_264_113, s_264_114, s_264_115, s_264_117, s_264_118, s_264_119, s_264_120, s_264_123, s_264_124, s_264_125, s_264_126, s_264_129, s_264_130, s_264_132, s_264_135, s_264_136, s_264_137, s_264_139, s_264_141, s_264_144, s_264_146, s_264_149, s_264_150, s_264_152, s_264_155, s_264_156, s_264_158, s_264_159, s_264_160, s_264_161, s_264_162, s_264_164, s_264_167, s_264_169, s_264_172, s_264_173, s_264_175, s_264_177, s_264_178, s_264_180, s_264_185, s_264_187, s_264_190, s_264_192, s_264_194, s_264_197, s_264_200, s_264_202, s_264_204, s_264_207, s_264_209, s_264_210, s_264_213, s_264_216, s_264_218, s_264_219, s_264_222, s_264_225, s_264_226, s_264_228, s_264_231, e_264, mv_i_1, mv_l_1, mv_a_1, mv_a_2, mv_a_3, mk2_n, mk2_i, mk2_l, mk2_a, mk2_u, mk2_x, mB_T, mB_F, mS_cons, mS_nil, mSB_T, mSB_F, mca_nil, mca_i, mca_l, mca_r, mca_u, mca_x, mcat_i, mcat_l, mcat_r, mcat_u, mcat_x, mK_some, mK_none, va_rf_s, va_rf_n, lgc_eq, lgc_lt, lgc_gt, lgc_ge, lgc_le, mrd_104, mrd_105, mrd_106, mrd_107, true_and, and_true, and_self, false_and, and_false, true_or, or_true, false_or, or_false, not_true_eq_false, not_false_eq_true, mgb, mga, mgr, mN, reduceCtorEq, ↓reduceIte, eq_self, ge_iff_le, gt_iff_lt, Nat.reduceAdd, Nat.reduceMul, Nat.reduceSub, Nat.reduceLT, Nat.reduceGT, Nat.reduceEqDiff, Nat.reduceLeDiff, Nat.left_eq_add, Nat.add_eq_left, Nat.reduceMod, Nat.reduceDiv, Nat.succ_ne_self, g, g1, c0, c1, c2, p1, p2, nn_le, le, lm, lm2, nn_add, e1', eM, eE, hMc, hEc, cg, run1, run2]
    · rcases hEc with hEc | hEc
      · simp (disch := omega) only [s_264_0, s_264_1, s_264_2, s_264_4, s_264_7, s_264_9, s_264_10, s_264_13, s_264_15, s_264_16, s_264_19, s_264_19n, s_264_21, s_264_22, s_264_25, s_264_25n, s_264_27, s_264_28, s_264_29, s_264_30, s_264_31, s_264_33, s_264_35, s_264_37, s_264_40, s_264_41, s_264_42, s_264_46, s_264_47, s_264_48, s_264_49, s_264_52, s_264_54, s_264_55, s_264_57, s_264_60, s_264_61, s_264_62, s_264_65, s_264_68, s_264_69, s_264_71, s_264_74, s_264_77, s_264_78, s_264_80, s_264_81, s_264_82, s_264_83, s_264_84, s_264_86, s_264_89, s_264_90, s_264_92, s_264_94, s_264_97, s_264_99, s_264_102, s_264_104, s_264_105, s_264_107, s_264_110, s_264_111, s_264_113, s_264_114, s_264_115, s_264_117, s_264_118, s_264_119, s_264_120, s_264_123, s_264_124, s_264_125, s_264_126, s_264_129, s_264_130, s_264_132, s_264_135, s_264_136, s_264_137, s_264_139, s_264_141, s_264_144, s_264_146, s_264_149, s_264_150, s_264_152, s_264_155, s_264_156, s_264_158, s_264_159, s_264_160, s_264_161, s_264_162, s_264_164, s_264_167, s_264_169, s_264_172, s_264_173, s_264_175, s_264_177, s_264_178, s_264_180, s_264_185, s_264_187, s_264_190, s_264_192, s_264_194, s_264_197, s_264_200, s_264_202, s_264_204, s_264_207, s_264_209, s_264_210, s_264_213, s_264_216, s_264_218, s_264_219, s_264_222, s_264_225, s_264_226, s_264_228, s_264_231, e_264, mv_i_1, mv_l_1, mv_a_1, mv_a_2, mv_a_3, mk2_n, mk2_i, mk2_l, mk2_a, mk2_u, mk2_x, mB_T, mB_F, mS_cons, mS_nil, mSB_T, mSB_F, mca_nil, mca_i, mca_l, mca_r, mca_u, mca_x, mcat_i, mcat_l, mcat_r, mcat_u, mcat_x, mK_some, mK_none, va_rf_s, va_rf_n, lgc_eq, lgc_lt, lgc_gt, lgc_ge, lgc_le, mrd_104, mrd_105, mrd_106, mrd_107, true_and, and_true, and_self, false_and, and_false, true_or, or_true, false_or, or_false, not_true_eq_false, not_false_eq_true, mgb, mga, mgr, mN, reduceCtorEq, ↓reduceIte, eq_self, ge_iff_le, gt_iff_lt, Nat.reduceAdd, Nat.reduceMul, Nat.reduceSub, Nat.reduceLT, Nat.reduceGT, Nat.reduceEqDiff, Nat.reduceLeDiff, Nat.left_eq_add, Nat.add_eq_left, Nat.reduceMod, Nat.reduceDiv, Nat.succ_ne_self, g, g1, c0, c1, c2, p1, p2, nn_le, le, lm, lm2, nn_add, e1', eM, eE, hMc, hEc, cg, run1, run2]
      · simp (disch := omega) only [s_264_0, s_264_1, s_264_2, s_264_4, s_264_7, s_264_9, s_264_10, s_264_13, s_264_15, s_264_16, s_264_19, s_264_19n, s_264_21, s_264_22, s_264_25, s_264_25n, s_264_27, s_264_28, s_264_29, s_264_30, s_264_31, s_264_33, s_264_35, s_264_37, s_264_40, s_264_41, s_264_42, s_264_46, s_264_47, s_264_48, s_264_49, s_264_52, s_264_54, s_264_55, s_264_57, s_264_60, s_264_61, s_264_62, s_264_65, s_264_68, s_264_69, s_264_71, s_264_74, s_264_77, s_264_78, s_264_80, s_264_81, s_264_82, s_264_83, s_264_84, s_264_86, s_264_89, s_264_90, s_264_92, s_264_94, s_264_97, s_264_99, s_264_102, s_264_104, s_264_105, s_264_107, s_264_110, s_264_111, s_264_113, s_264_114, s_264_115, s_264_117, s_264_118, s_264_119, s_264_120, s_264_123, s_264_124, s_264_125, s_264_126, s_264_129, s_264_130, s_264_132, s_264_135, s_264_136, s_264_137, s_264_139, s_264_141, s_264_144, s_264_146, s_264_149, s_264_150, s_264_152, s_264_155, s_264_156, s_264_158, s_264_159, s_264_160, s_264_161, s_264_162, s_264_164, s_264_167, s_264_169, s_264_172, s_264_173, s_264_175, s_264_177, s_264_178, s_264_180, s_264_185, s_264_187, s_264_190, s_264_192, s_264_194, s_264_197, s_264_200, s_264_202, s_264_204, s_264_207, s_264_209, s_264_210, s_264_213, s_264_216, s_264_218, s_264_219, s_264_222, s_264_225, s_264_226, s_264_228, s_264_231, e_264, mv_i_1, mv_l_1, mv_a_1, mv_a_2, mv_a_3, mk2_n, mk2_i, mk2_l, mk2_a, mk2_u, mk2_x, mB_T, mB_F, mS_cons, mS_nil, mSB_T, mSB_F, mca_nil, mca_i, mca_l, mca_r, mca_u, mca_x, mcat_i, mcat_l, mcat_r, mcat_u, mcat_x, mK_some, mK_none, va_rf_s, va_rf_n, lgc_eq, lgc_lt, lgc_gt, lgc_ge, lgc_le, mrd_104, mrd_105, mrd_106, mrd_107, true_and, and_true, and_self, false_and, and_false, true_or, or_true, false_or, or_false, not_true_eq_false, not_false_eq_true, mgb, mga, mgr, mN, reduceCtorEq, ↓reduceIte, eq_self, ge_iff_le, gt_iff_lt, Nat.reduceAdd, Nat.reduceMul, Nat.reduceSub, Nat.reduceLT, Nat.reduceGT, Nat.reduceEqDiff, Nat.reduceLeDiff, Nat.left_eq_add, Nat.add_eq_left, Nat.reduceMod, Nat.reduceDiv, Nat.succ_ne_self, g, g1, c0, c1, c2, p1, p2, nn_le, le, lm, lm2, nn_add, e1', eM, eE, hMc, hEc, cg, run1, run2]
end CIs
