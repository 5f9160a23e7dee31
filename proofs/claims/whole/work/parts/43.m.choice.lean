set_option maxRecDepth 100000
/-! choice -/
section CHs
variable {d : Nat} {h h1 h2 : mh_H} {s0 s1 o ho fa st b p k T : Nat} {E E' : nv} {D : fd} {w0 : wd} {s s' : Option ab} {G : pgm} {J : pin} {A : ab} {t cs : tr} {m : Nat} {u : Unit} {al : Int32}
theorem ax_of (sh : shp E.nu E.ar E.rm s) : ∃ A : ab, okS A s ∧ A.n = E.nu ∧ A.a = E.ar ∧ ∀ x, x < E.ar → A.rm x = E.rm x := by
  cases s with
  | none => exact ⟨ab_mk E.nu E.ar (fun _ _ => 0) (fun _ => 0) (fun _ => 0) E.rm, fun B e => (by cases e), rfl, rfl, fun _ _ => rfl⟩
  | some A =>
    obtain ⟨T', e1, e2, e3⟩ := sh A rfl
    exact ⟨A, fun B e => by cases e; exact ⟨T', rfl, rfl, rfl⟩, e1, e2, e3⟩
theorem okS_shp {A : ab} (e1 : A.n = E.nu) (e2 : A.a = E.ar) (e3 : ∀ x, x < E.ar → A.rm x = E.rm x) (q : okS A s) : shp E.nu E.ar E.rm s := fun B e => by
  obtain ⟨q1, q2, q3, q4⟩ := q B e
  exact ⟨q1, q2.trans e1, q3.trans e2, fun x hx => by rw [q4]; exact e3 x hx⟩
/-- COND's shapes -/
theorem spl_shp (hC : eCo E cs) (sh : shp E.nu E.ar E.rm s) : shp E.nu E.ar E.rm (spl E.en cs false false s none).1 ∧ shp E.nu E.ar E.rm (spl E.en cs false false s none).2.1 := by
  obtain ⟨A, ok, e1, e2, e3⟩ := ax_of sh
  obtain ⟨q1, q2⟩ := (spl_ok cs).1 false s none (hC.1 A e1 e2 e3) ok
  exact ⟨okS_shp e1 e2 e3 q1, okS_shp e1 e2 e3 q2⟩
/-- split between statements -/
theorem ra_spl (R : RA h s1 E D w0) (lt : lv h s1 st) (l1 : lv h s1 ho) (l2 : lv h s1 fa) (n1 : st ≠ ho) (n2 : st ≠ fa) (n3 : ho ≠ fa) (c : RK h st s) (sh : shp E.nu E.ar E.rm s) (a2 : mh_i h st 2 = Int32.ofNat E.ar) (hC : eCo E cs) (N : nd (mh_i h 93) (mh_i h 95) (mh_i h 97) k cs) (hb : k + ts cs ≤ 26000) (hs : s1 + cn3 cs ≤ 2048) (hd : 700 ≤ d) : ∃ h', rq s1 (v2 ho fa) h h' ∧ RA h' s1 E D w0 ∧ RK h' ho (spl E.en cs false false s none).1 ∧ RK h' fa (spl E.en cs false false s none).2.1 ∧ mh_i h' ho 2 = Int32.ofNat E.ar ∧ mh_i h' fa 2 = Int32.ofNat E.ar ∧ mh_i h' 115 24 = mh_i h 115 24 ||| (spl E.en cs false false s none).2.2 ∧ (mh_i h' 93 = mh_i h 93 ∧ mh_i h' 95 = mh_i h 95 ∧ mh_i h' 97 = mh_i h 97) ∧ mh_i h' 115 34 = mh_i h 115 34 ∧ (∀ q, cnQ G h q → cnQ G h' q) ∧ ∀ Q, mcall d 250 [.ref 115, .int (Int32.ofNat k), .ref st, .ref ho, .ref fa] h Q = Q none h' := by
  have J := R.j
  obtain ⟨A, ok, e1, e2, e3⟩ := ax_of sh
  have hth := hC.2
  obtain ⟨h2, x2, J2, i11', kh, kf, al, fl, r2⟩ := u_250 (T := E.T) (sN := E.sN) (en := E.en) cs d k s1 st ho fa h A s J R.s hs lt l1 l2 n1 n2 n3 c ok N hb (hC.1 A e1 e2 e3) (by omega)
  have v : vK h (v2 ho fa) := v2_K (lv_sp l1) (lv_sp l2)
  have R2 := RA_q R v x2 J2 i11'
  obtain ⟨f1, f2⟩ := fl 2 (Or.inr rfl)
  exact ⟨h2, x2, R2, kh, kf, f1.trans a2, f2.trans a2, al, rq_tr J v x2, rq_z J v x2, fun q w => cn_q R v x2 w, r2⟩
/-- tell, whatever else stands -/
theorem ra_tell (R : RA h s1 E D (wl p s 0 w0)) (hp : p < 250) (z34 : mh_i h 115 34 = 0) (hal : mh_i h 115 24 = al) : ∃ h', (∀ s0 o T, rq s0 (sV o T) h h') ∧ RA h' s1 E D (wl p s al w0) ∧ (∀ b j, ¬ b = 118 → mh_i h' b j = mh_i h b j) ∧ (∀ x r, 2644 ≤ x → RK h x r → RK h' x r) ∧ mh_r h' = mh_r h ∧ (∀ q, cnQ G h q → cnQ G h' q) ∧ ∀ Q, mcall d 259 [.ref 115, .int (Int32.ofNat p)] h Q = Q none h' := by
  obtain ⟨h3, x3, A3, i3, j3, r3, k3, l3, n3, run3⟩ := w_259 (d := d) (o := 0) (T := 0) R hp z34 hal
  have z3 : fz (fun b _ => b = 118) h h3 := ⟨Nat.le_of_eq n3.symm, fun b _ => ⟨by rw [k3], by rw [l3]⟩, fun b j _ nb => ⟨i3 b j nb, by rw [j3], by rw [r3]⟩⟩
  refine ⟨h3, fun s0 o T => ?_, A3, i3, fun x r hx k => RK_fz z3 (fun y hy j w => by omega) k, r3, fun q w => cn_i w (fun b j hb => i3 _ _ (by omega)), run3⟩
  have y := u_259 (d := d) R.j hp z34
  have e : h3 = mh_si h 118 p (mh_i h 118 p ||| mh_i h 115 24) := cal_u run3 y
  rw [e]
  exact sV_si (Or.inr (Or.inr (Or.inr (Or.inr (Or.inr (Or.inl rfl))))))
/-- choice, up to where it has told -/
theorem cho_1 (S : SA h s0 o E D w0 s) (ga : G.a p = E.ar) (hp : p < 250) (hw : wW w0 ≤ 4000) (hC : eCo E cs) (N : nd (mh_i h 93) (mh_i h 95) (mh_i h 97) (k + 1) cs) (hb : k + 1 + ts cs ≤ 26000) (hs : s0 + (2 + cn3 cs) ≤ 2048) (hd : 720 ≤ d) {nx' : Int32} : ∃ h' ho fa, rq s0 (sV o E.T) h h' ∧ SA h' (s0 + 2) ho E D (wl p s (spl E.en cs false false s none).2.2 w0) (spl E.en cs false false s none).1 ∧ SA h' (s0 + 2) fa E D (wl p s (spl E.en cs false false s none).2.2 w0) (spl E.en cs false false s none).2.1 ∧ mh_r h' 119 s0 = some ho ∧ mh_r h' 119 (s0 + 1) = some fa ∧ ho ≠ fa ∧ lv h' s0 o ∧ RK h' o s ∧ (mh_i h' 93 = mh_i h 93 ∧ mh_i h' 95 = mh_i h 95 ∧ mh_i h' 97 = mh_i h 97) ∧ (∀ q, cnQ G h q → cnQ G h' q) ∧ cnQ G h' (p + 1000) ∧ ∀ Q, mcall (d + 1) 264 [.ref 115, .int (Int32.ofNat k), .int (Int32.ofNat p), .int nx', .ref o] h Q = mw (d + 1) 264 Q 45 [some (.ref 115), some (.int (Int32.ofNat k)), some (.int (Int32.ofNat p)), some (.int nx'), some (.ref o), some (.int (kb (decide (s ≠ none)))), some (.int (Int32.ofNat s0)), some (.ref ho), some (.ref fa), none, none, none, none] [] h' := by
  obtain ⟨d, rfl⟩ : ∃ d', d = d' + 1 := ⟨d - 1, by omega⟩
  have J := S.A.j
  have lo := sp_lo J (lv_sp S.l)
  obtain ⟨h1, x1, A1, k1, i1, al1, c1, kp, run1⟩ := w_258 (d := d) (G := G) S.A S.l S.k hp hw S.z ga S.a
  have J1 := A1.j
  have l1 := rq_lv x1 S.l
  obtain ⟨h2, ho, x2, J2, f2, i2, al2, ko2, run2⟩ := t_226 (d := d) J1 A1.s (by omega)
  have A2 := RA_q A1 vF x2 J2 i2
  have l2 := rq_lv x2 l1
  obtain ⟨h3, fa, x3, J3, f3, i3, al3, ko3, run3⟩ := t_226 (d := d) J2 i2 (by omega)
  have A3 := RA_q A2 vF x3 J3 i3
  have l3 := rq_lv x3 l2
  have f2' : mh_r h3 119 s0 = some ho := x3.k _ _ f2
  have noh : o ≠ ho := lv_ne J3 l3 (Nat.le_refl _) f2'
  have nof : o ≠ fa := lv_ne J3 l3 (by omega) f3
  have lh : lv h3 (s0 + 1) ho := ⟨s0, by omega, f2'⟩
  have nhf : ho ≠ fa := lv_ne J3 lh (Nat.le_refl _) f3
  have k3 : RK h3 o s := rq_K J2 x3 (lv_w l2 (by omega)) (fun _ _ _ w => w) (rq_K J1 x2 l1 (fun _ _ _ w => w) k1)
  have a3 : mh_i h3 o 2 = Int32.ofNat E.ar := by
    rw [rq_ki J2 x3 (lv_w l2 (by omega)) (fun _ w => w), rq_ki J1 x2 l1 (fun _ w => w), i1]
    exact S.a
  obtain ⟨t1, t2, t3⟩ := sV_tr J lo x1
  obtain ⟨u1, u2, u3⟩ := rq_tr J1 vF x2
  obtain ⟨v1, v2', v3⟩ := rq_tr J2 vF x3
  obtain ⟨h4, x4, A4, kh4, kf4, ah4, af4, al4, ⟨r1, r2, r3⟩, zz4, c4, run4⟩ := ra_spl (d := d + 1) (G := G) A3 (lv_w l3 (by omega)) (lv_w lh (by omega)) ⟨s0 + 1, by omega, f3⟩ noh nof nhf k3 S.sh a3 hC (by rw [v1, v2', v3, u1, u2, u3, t1, t2, t3]; exact N) hb (by omega) (by omega)
  have al4' : mh_i h4 115 24 = (spl E.en cs false false s none).2.2 := by
    rw [al4, al3, al2, al1, Int32.or_comm]
    exact i32_or0 _
  have zz : mh_i h4 115 34 = 0 := by rw [zz4, rq_z J2 vF x3, rq_z J1 vF x2, sV_z J lo x1]; exact S.z
  obtain ⟨h5, x5, A5, i5, k5, r5, c5, run5⟩ := ra_tell (d := d + 1) (G := G) A4 hp zz al4'
  obtain ⟨sh1, sh2⟩ := spl_shp hC S.sh
  have J4 := A4.j
  have f2'' : mh_r h4 119 s0 = some ho := x4.k _ _ f2'
  have f3' : mh_r h4 119 (s0 + 1) = some fa := x4.k _ _ f3
  have loh := sp_lo J4 ⟨_, f2''⟩
  have lof := sp_lo J4 ⟨_, f3'⟩
  have l4 : lv h4 s0 o := rq_lv x4 l3
  have k4 : RK h4 o s := rq_K J3 x4 (lv_w l3 (by omega)) (fun y hy j w => by
    rcases w with w | w
    · exact kc_no J3 (lv_sp l3) ⟨_, f2'⟩ noh y hy w
    · exact kc_no J3 (lv_sp l3) ⟨_, f3⟩ nof y hy w) k3
  refine ⟨h5, ho, fa, rq_t x1 (rq_t (sV_F x2 (Nat.le_refl _)) (rq_t (sV_F x3 (by omega)) (rq_t (sV_v x4 (by omega) (fun b j w => ?_)) (x5 _ _ _)))), SA.of ⟨A5, ⟨s0, by omega, by rw [r5]; exact f2''⟩, k5 _ _ loh kh4, (i5 _ _ (by omega)).trans ah4, sh1, S.m, (i5 _ _ (by omega)).trans zz⟩, SA.of ⟨A5, ⟨s0 + 1, by omega, by rw [r5]; exact f3'⟩, k5 _ _ lof kf4, (i5 _ _ (by omega)).trans af4, sh2, S.m, (i5 _ _ (by omega)).trans zz⟩, by rw [r5]; exact f2'', by rw [r5]; exact f3', nhf, ?_, k5 _ _ lo k4, ?_, fun q w => c5 q (c4 q (cn_q A2 vF x3 (cn_q A1 vF x2 (c1 q w)))), c5 _ (c4 _ (cn_q A2 vF x3 (cn_q A1 vF x2 kp))), fun Q => ?_⟩
  · rcases w with w | w
    · exact Or.inr ⟨s0, ho, Nat.le_refl _, f2', w⟩
    · exact Or.inr ⟨s0 + 1, fa, by omega, f3, w⟩
  · obtain ⟨i, i1', i2'⟩ := l4
    exact ⟨i, i1', by rw [r5]; exact i2'⟩
  · have q1 : mh_i h5 93 = mh_i h4 93 := funext fun j => i5 _ _ (by omega)
    have q2 : mh_i h5 95 = mh_i h4 95 := funext fun j => i5 _ _ (by omega)
    have q3 : mh_i h5 97 = mh_i h4 97 := funext fun j => i5 _ _ (by omega)
    rw [q1, q2, q3, r1, r2, r3, v1, v2', v3, u1, u2, u3, t1, t2, t3]
    exact ⟨rfl, rfl, rfl⟩
  · have g := J.a.g
    have g1 := J1.a.g
    have g2 := J2.a.g
    have g3 := J3.a.g
    have g4 := J4.a.g
    have a11 := A1.s
    have e1' : ∀ k, Int32.ofNat k + 1 = Int32.ofNat (k + 1) := fun k => nn_add (a := k) (b := 1)
    clear S A1 A2 A3 A4 A5 J J1 J2 J3 J4 x1 x2 x3 x4 x5 k1 k3 k4 k5 kh4 kf4 c1 c4 c5 i1 i5 sh1 sh2 N hC ko2 ko3
    simp (disch := omega) only [s_264_0, s_264_1, s_264_2, s_264_4, s_264_7, s_264_9, s_264_10, s_264_13, s_264_15, s_264_16, s_264_19, s_264_19n, s_264_21, s_264_22, s_264_25, s_264_25n, s_264_27, s_264_28, s_264_29, s_264_30, s_264_31, s_264_33, s_264_35, s_264_37, s_264_40, s_264_41, s_264_42, s_264_46, s_264_47, s_264_48, s_264_49, s_264_52, s_264_54, s_264_55, s_264_57, s_264_60, s_264_61, s_264_62, s_264_65, s_264_68, s_264_69, s_264_71, s_264_74, s_264_77, s_264_78, s_264_80, s_264_81, s_264_82, s_264_83, s_264_84, s_264_86, s_264_89, s_264_90, s_264_92, s_264_94, s_264_97, s_264_99, s_264_102, s_264_104, s_264_105, s_264_107, s_264_110, s_264_111, s_264_113, s_264_114, s_264_115, s_264_117, s_264_118, s_264_119, s_264_120, s_264_123, s_264_124, s_264_125, s_264_126, s_264_129, s_264_130, s_264_132, s_264_135, s_264_136, s_264_137, s_264_139, s_264_141, s_264_144, s_264_146, s_264_149, s_264_150, s_264_152, s_264_155, s_264_156, s_264_158, s_264_159, s_264_160, s_264_161, s_264_162, s_264_164, s_264_167, s_264_169, s_264_172, s_264_173, s_264_175, s_264_177, s_264_178, s_264_180, s_264_183, s_264_185, s_264_187, s_264_190, s_264_192, s_264_194, s_264_197, s_264_200, s_264_202, s_264_204, s_264_207, s_264_209, s_264_210, s_264_213, s_264_216, s_264_218, s_264_219, s_264_222, s_264_225, s_264_226, s_264_228, s_264_231, e_264, mv_i_1, mv_l_1, mv_a_1, mv_a_2, mv_a_3, mk2_n, mk2_i, mk2_l, mk2_a, mk2_u, mk2_x, mB_T, mB_F, mS_cons, mS_nil, mSB_T, mSB_F, mca_nil, mca_i, mca_l, mca_r, mca_u, mca_x, mcat_i, mcat_l, mcat_r, mcat_u, mcat_x, mK_some, mK_none, va_rf_s, va_rf_n, lgc_eq, lgc_lt, lgc_gt, lgc_ge, lgc_le, mrd_104, mrd_105, mrd_106, mrd_107, true_and, and_true, and_self, false_and, and_false, true_or, or_true, false_or, or_false, not_true_eq_false, not_false_eq_true, mgb, mga, mgr, mN, reduceCtorEq, ↓reduceIte, eq_self, ge_iff_le, gt_iff_lt, Nat.reduceAdd, Nat.reduceMul, Nat.reduceSub, Nat.reduceLT, Nat.reduceGT, Nat.reduceEqDiff, Nat.reduceLeDiff, Nat.left_eq_add, Nat.add_eq_left, Nat.reduceMod, Nat.reduceDiv, Nat.succ_ne_self, g, g1, g2, g3, g4, a11, run1, run2, run3, run4, run5, e1']
end CHs
