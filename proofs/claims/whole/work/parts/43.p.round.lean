set_option maxRecDepth 100000
/-! a round of a while -/
/-- what a round may change: its n, its behind -/
def sWn (nn bh T b j : Nat) : Prop := sV nn T b j ∨ kc bh b
section RNs
variable {d : Nat} {h h1 h2 : mh_H} {s0 s1 s2 o o' ho nn bh hh st b p k T T' f : Nat} {E E' : nv} {D : fd} {w0 w1 : wd} {s s' S H X : Option ab} {G : pgm} {J : pin} {A : ab} {t c bs cs r : tr} {m n : Nat} {u : Unit} {al : Int32} {V : Nat → Nat → Prop}
theorem w_258f (A : RA h s0 E D w0) (l : lv h s0 o) (c : RK h o s) (hp : p < 250) (hw : wW w0 ≤ 4000) (z34 : mh_i h 115 34 = 0) {v : Option Value} (run : ∀ Q, mcall (d + 1) 258 [.ref 115, .int (Int32.ofNat p), .ref o] h Q = Q v h1) : rq s1 (sV o' T) h h1 := by
  obtain ⟨h', e1, e2, e3, e4, e5, e6, e7, -, -, -, -, -, -, -, f5⟩ := u_258 (d := d) A.j l c hp A.w (by omega) A.m z34
  have e : h1 = h' := cal_u run f5
  rw [e]
  have z : fz (fun b j => kc (132 + 10 * p) b ∨ (b = 118 ∧ j = p) ∨ (b = 115 ∧ (j = 8 ∨ j = 9 ∨ j = 24 ∨ j = 23))) h h' := ⟨Nat.le_of_eq e3.symm, fun b _ => ⟨by rw [e1], by rw [e2]⟩, fun b j _ nb => ⟨e6 b j (fun w => nb (Or.inl w)) (fun w => nb (Or.inr (Or.inl w))) (fun w => nb (Or.inr (Or.inr ⟨w.1, by omega⟩))), e7 b j (fun w => nb (Or.inl w)), e5 b j (fun w => nb (Or.inr (Or.inr ⟨w.1, by omega⟩)))⟩⟩
  have qq : qN h' = qN h ∧ qS h' = qS h := by
    have a1 : cnS h' 119 2048 = cnS h 119 2048 := by
      unfold cnS
      have : (fun i => (mh_r h' 119 i).isSome) = (fun i => (mh_r h 119 i).isSome) := funext fun i => by rw [e5 119 i (by omega)]
      rw [this]
    have a2 : ∀ j, j ≠ 23 → ln h' 115 j = ln h 115 j := fun j hj => by unfold ln; rw [e5 115 j (by omega), e2]
    unfold qN qS
    rw [a1, a2 27 (by omega), a2 12 (by omega), e3, e4]
    exact ⟨rfl, rfl⟩
  refine ⟨⟨fz_w z (fun b j _ w => ?_), Int.le_of_eq qq.1, Int.le_of_eq qq.2⟩, fun x ⟨j, j1, j2, j3⟩ => Or.inl ⟨j, j1, j2, by rw [← e5 115 j (by omega)]; exact j3⟩, fun i a e => by rw [e5 119 i (by omega)]; exact e, fun i a e => Or.inl (by rw [← e5 119 i (by omega)]; exact e)⟩
  rcases w with w | w | w
  · exact Or.inr (Or.inr (Or.inr (Or.inr (Or.inr (Or.inr (Or.inr (Or.inr (Or.inl ⟨p, hp, w⟩))))))))
  · exact Or.inr (Or.inr (Or.inr (Or.inr (Or.inr (Or.inl w.1)))))
  · have : (j = 8 ∨ j = 9) ∨ (j = 24 ∨ j = 23) := by omega
    rcases this with v | v
    · exact Or.inr (Or.inr (Or.inr (Or.inr (Or.inr (Or.inr (Or.inr (Or.inr (Or.inr (Or.inl ⟨w.1, by omega⟩)))))))))
    · exact Or.inl ⟨w.1, by omega⟩
theorem sWn_1 (x : rq s1 (sV nn T) h h1) : rq s1 (sWn nn bh T) h h1 := rq_w x (Nat.le_refl _) (fun _ _ _ w => Or.inl (Or.inl w))
theorem sWn_K (A : RA h s1 E D w0) (x : rq s1 (sWn nn bh T) h h1) (ln' : lv h s1 nn) (lb : lv h s1 bh) (l' : lv h s1 o') (n1 : o' ≠ nn) (n2 : o' ≠ bh) (c : RK h o' X) : RK h1 o' X := rq_K A.j x l' (fun y hy _ w => w.elim (sV_x A.j ln' l' n1 hy) (kc_no A.j (lv_sp l') (lv_sp lb) n2 y hy)) c
theorem sWn_ki (A : RA h s1 E D w0) (x : rq s1 (sWn nn bh T) h h1) (ln' : lv h s1 nn) (lb : lv h s1 bh) (l' : lv h s1 o') (n1 : o' ≠ nn) (n2 : o' ≠ bh) (j : Nat) : mh_i h1 o' j = mh_i h o' j := rq_ki A.j x l' (fun _ w => w.elim (sV_x A.j ln' l' n1 (y := 0) (by omega)) (kc_no A.j (lv_sp l') (lv_sp lb) n2 0 (by omega))) j
theorem sWn_z (A : RA h s1 E D w0) (x : rq s1 (sWn nn bh T) h h1) (ln' : lv h s1 nn) (lb : lv h s1 bh) : mh_i h1 115 34 = mh_i h 115 34 := by
  have l1 := sp_lo A.j (lv_sp ln')
  have l2 := sp_lo A.j (lv_sp lb)
  refine (x.f.1.2.2 115 34 A.j.a.g.2 (fun w => ?_)).1
  have w' : rqW s1 (sV nn T) h 115 34 ∨ kc bh 115 := by
    rcases w with w | w | w | w | w
    · exact Or.inl (Or.inl w)
    · exact Or.inl (Or.inr (Or.inl w))
    · exact Or.inl (Or.inr (Or.inr (Or.inl w)))
    · exact Or.inl (Or.inr (Or.inr (Or.inr (Or.inl w))))
    · rcases w with w | w
      · exact Or.inl (Or.inr (Or.inr (Or.inr (Or.inr w))))
      · exact Or.inr w
  rcases w' with w | w
  · rcases sV_no A.j l1 w with k | k | k | k | ⟨q, q1, q2⟩ | k | k
    · omega
    · omega
    · omega
    · omega
    · unfold kc at q2; omega
    · omega
    · omega
  · unfold kc at w; omega
/-- a round's step is one of the statement's -/
theorem sWn_o (x : rq s1 (sWn nn bh T) h h1) (hs : s0 ≤ s1) {i j : Nat} (hi : s0 ≤ i) (ei : mh_r h 119 i = some nn) (hj : s0 ≤ j) (ej : mh_r h 119 j = some bh) : rq s0 (sV o T) h h1 := rq_w x hs (fun b jj _ w => by
  rcases w with w | w
  · rcases w with w | w
    · exact Or.inr (Or.inr (Or.inr (Or.inr (Or.inl ⟨i, nn, hi, ei, w⟩))))
    · exact Or.inl (Or.inr w)
  · exact Or.inr (Or.inr (Or.inr (Or.inr (Or.inl ⟨j, bh, hj, ej, w⟩)))))
/-- a round, up to where it has told -/
theorem rnd_0 (z34 : mh_i h 115 34 = 0) (ga : G.a p = E.ar) (hC : eCo E cs) (hp : p < 250) (hw : wW w0 ≤ 4000) (R : RA h s1 E D w0) (m12 : E.nu ≤ 12 ∧ E.ar ≤ 6) (lt : lv h s1 st) (lh : lv h s1 hh) (ln' : lv h s1 nn) (lb : lv h s1 bh) (d1 : st ≠ nn) (d2 : st ≠ bh) (d4 : hh ≠ bh) (kt : RK h st S) (kh : RK h hh H) (sH : shp E.nu E.ar E.rm H) (aH : mh_i h hh 2 = Int32.ofNat E.ar) (N : nd (mh_i h 93) (mh_i h 95) (mh_i h 97) (k + 1) cs) (hb : k + 1 + ts cs ≤ 26000) (hs : s1 + 1 + cn3 cs ≤ 2048) (hd : 720 ≤ d) : ∃ h' ho, rq s1 (sWn nn bh E.T) h h' ∧ SA h' (s1 + 1) ho E D (wl p H (spl E.en cs false false H none).2.2 w0) (spl E.en cs false false H none).1 ∧ RK h' bh (spl E.en cs false false H none).2.1 ∧ mh_i h' bh 2 = Int32.ofNat E.ar ∧ RK h' st S ∧ mh_r h' 119 s1 = some ho ∧ (mh_i h' 93 = mh_i h 93 ∧ mh_i h' 95 = mh_i h 95 ∧ mh_i h' 97 = mh_i h 97) ∧ (∀ q, cnQ G h q → cnQ G h' q) ∧ cnQ G h' (p + 1000) ∧ ∀ Q, mcall (d + 1) 267 [.ref 115, .int (Int32.ofNat k), .int (Int32.ofNat p), .ref st, .ref hh, .ref nn, .ref bh] h Q = mw (d + 1) 267 Q 39 [some (.ref 115), some (.int (Int32.ofNat k)), some (.int (Int32.ofNat p)), some (.ref st), some (.ref hh), some (.ref nn), some (.ref bh), some (.int (Int32.ofNat s1)), some (.int (kb (decide (H ≠ none)))), some (.ref ho)] [] h' := by
  obtain ⟨d, rfl⟩ : ∃ d', d = d' + 1 := ⟨d - 1, by omega⟩
  obtain ⟨sh1, sh2⟩ := spl_shp hC sH
  have J0 := R.j
  have lo := sp_lo J0 (lv_sp lh)
  have lon := sp_lo J0 (lv_sp ln')
  have lob := sp_lo J0 (lv_sp lb)
  obtain ⟨h1, x1', A1, k1, i1, al1, c1, kp, run1⟩ := w_258 (d := d) (G := G) R lh kh hp hw z34 ga aH
  have x1 : rq s1 (sV nn E.T) h h1 := w_258f (d := d) R lh kh hp hw z34 run1
  have J1 := A1.j
  have l1 := rq_lv x1 lh
  obtain ⟨h2, ho, x2, J2, f2, i2, al2, ko2, run2⟩ := t_226 (d := d) J1 A1.s (by omega)
  have A2 := RA_q A1 vF x2 J2 i2
  have l2 := rq_lv x2 l1
  have lb2 := rq_lv x2 (rq_lv x1 lb)
  have lt2 := rq_lv x2 (rq_lv x1 lt)
  have noh : hh ≠ ho := lv_ne J2 l2 (Nat.le_refl _) f2
  have nob : ho ≠ bh := fun z => lv_ne J2 lb2 (Nat.le_refl _) f2 z.symm
  have nto : st ≠ ho := lv_ne J2 lt2 (Nat.le_refl _) f2
  have loh := sp_lo J2 ⟨_, f2⟩
  have k2 : RK h2 hh H := rq_K J1 x2 l1 (fun _ _ _ w => w) k1
  have a2 : mh_i h2 hh 2 = Int32.ofNat E.ar := by
    rw [rq_ki J1 x2 l1 (fun _ w => w), i1]
    exact aH
  obtain ⟨t1, t2, t3⟩ := sV_tr J0 lon x1
  obtain ⟨u1, u2, u3⟩ := rq_tr J1 vF x2
  have lho : lv h2 (s1 + 1) ho := ⟨s1, by omega, f2⟩
  obtain ⟨h3, x3, A3, kh3, kf3, ah3, af3, al3, ⟨r1, r2, r3⟩, zz3, c3, run3⟩ := ra_spl (d := d + 1) (G := G) A2 (lv_w l2 (by omega)) lho (lv_w lb2 (by omega)) noh d4 nob k2 sH a2 hC (by rw [u1, u2, u3, t1, t2, t3]; exact N) hb (by omega) (by omega)
  have al3' : mh_i h3 115 24 = (spl E.en cs false false H none).2.2 := by
    rw [al3, al2, al1, Int32.or_comm]
    exact i32_or0 _
  have zz : mh_i h3 115 34 = 0 := by rw [zz3, rq_z J1 vF x2, sV_z J0 lon x1]; exact z34
  obtain ⟨h4, x4, A4, i4, k4, r4, c4, run4⟩ := ra_tell (d := d + 1) (G := G) A3 hp zz al3'
  have J3 := A3.j
  have f3 : mh_r h3 119 s1 = some ho := x3.k _ _ f2
  have f4 : mh_r h4 119 s1 = some ho := by rw [r4]; exact f3
  have kt2 : RK h2 st S := rq_K J1 x2 (rq_lv x1 lt) (fun _ _ _ w => w) (sV_K J0 x1 ln' lt d1 kt)
  have kt3 : RK h3 st S := rq_K J2 x3 (lv_w lt2 (by omega)) (fun y hy j w => by
    rcases w with w | w
    · exact kc_no J2 (lv_sp lt2) ⟨_, f2⟩ nto y hy w
    · exact kc_no J2 (lv_sp lt2) (lv_sp lb2) d2 y hy w) kt2
  refine ⟨h4, ho, rq_t (sWn_1 x1) (rq_t (sWn_1 (sV_F x2 (Nat.le_refl _))) (rq_t (rq_w x3 (by omega) (fun b j _ w => ?_)) (sWn_1 (x4 _ _ _)))), SA.of ⟨A4, ⟨s1, by omega, f4⟩, k4 _ _ loh kh3, (i4 _ _ (by omega)).trans ah3, sh1, m12, (i4 _ _ (by omega)).trans zz⟩, k4 _ _ lob kf3, (i4 _ _ (by omega)).trans af3, k4 _ _ (sp_lo J2 (lv_sp lt2)) kt3, f4, ?_, fun q w => c4 q (c3 q (cn_q A1 vF x2 (c1 q w))), c4 _ (c3 _ (cn_q A1 vF x2 kp)), fun Q => ?_⟩
  · rcases w with w | w
    · exact Or.inr (Or.inr (Or.inr (Or.inr (Or.inl ⟨s1, ho, Nat.le_refl _, f2, w⟩))))
    · exact Or.inl (Or.inr w)
  · have q1 : mh_i h4 93 = mh_i h3 93 := funext fun j => i4 _ _ (by omega)
    have q2 : mh_i h4 95 = mh_i h3 95 := funext fun j => i4 _ _ (by omega)
    have q3 : mh_i h4 97 = mh_i h3 97 := funext fun j => i4 _ _ (by omega)
    rw [q1, q2, q3, r1, r2, r3, u1, u2, u3, t1, t2, t3]
    exact ⟨rfl, rfl, rfl⟩
  · have g := J0.a.g
    have g1 := J1.a.g
    have g2 := J2.a.g
    have g3 := J3.a.g
    have a11 := R.s
    have e1' : ∀ k, Int32.ofNat k + 1 = Int32.ofNat (k + 1) := fun k => nn_add (a := k) (b := 1)
    clear R A1 A2 A3 A4 J0 J1 J2 J3 x1 x1' x2 x3 x4 k1 k2 k4 kh3 kf3 kh kt kt2 kt3 c1 c3 c4 i1 i4 sh1 sh2 N hC ko2
    simp (disch := omega) only [s_267_0, s_267_1, s_267_4, s_267_6, s_267_7, s_267_8, s_267_10, s_267_13, s_267_15, s_267_16, s_267_19, s_267_19n, s_267_21, s_267_22, s_267_23, s_267_24, s_267_25, s_267_27, s_267_29, s_267_31, s_267_34, s_267_35, s_267_36, s_267_40, s_267_41, s_267_42, s_267_43, s_267_44, s_267_47, s_267_48, s_267_49, s_267_50, s_267_51, s_267_53, s_267_56, s_267_58, s_267_59, s_267_62, s_267_64, s_267_66, s_267_69, s_267_70, s_267_72, s_267_75, e_267, mv_i_1, mv_l_1, mv_a_1, mv_a_2, mv_a_3, mk2_n, mk2_i, mk2_l, mk2_a, mk2_u, mk2_x, mB_T, mB_F, mS_cons, mS_nil, mSB_T, mSB_F, mca_nil, mca_i, mca_l, mca_r, mca_u, mca_x, mcat_i, mcat_l, mcat_r, mcat_u, mcat_x, mK_some, mK_none, va_rf_s, va_rf_n, lgc_eq, lgc_lt, lgc_gt, lgc_ge, lgc_le, mrd_104, mrd_105, mrd_106, mrd_107, true_and, and_true, and_self, false_and, and_false, true_or, or_true, false_or, or_false, not_true_eq_false, not_false_eq_true, mgb, mga, mgr, mN, reduceCtorEq, ↓reduceIte, eq_self, ge_iff_le, gt_iff_lt, Nat.reduceAdd, Nat.reduceMul, Nat.reduceSub, Nat.reduceLT, Nat.reduceGT, Nat.reduceEqDiff, Nat.reduceLeDiff, Nat.left_eq_add, Nat.add_eq_left, Nat.reduceMod, Nat.reduceDiv, Nat.succ_ne_self, g, g1, g2, g3, a11, run1, run2, run3, run4, e1']
/-- its end -/
theorem rnd_9 (R : RA h s2 E D w0) (lt : lv h s1 st) (ln' : lv h s1 nn) (lb : lv h s1 bh) (d1 : st ≠ nn) (d5 : nn ≠ bh) (f5 : mh_r h 119 s1 = some ho) (kt : RK h st S) (kho : RK h ho X) (kb' : RK h bh H) (ab : mh_i h bh 2 = Int32.ofNat E.ar) (sS' : shp E.nu E.ar E.rm S) (sX : shp E.nu E.ar E.rm X) (hd : 2 ≤ d) {x1 x2 x4 x8 : Option Value} : ∃ h', rq s1 (sWn nn bh E.T) h h' ∧ RA h' s1 E D w0 ∧ RK h' nn (o_join S X) ∧ RK h' bh H ∧ mh_i h' bh 2 = Int32.ofNat E.ar ∧ (mh_i h' 93 = mh_i h 93 ∧ mh_i h' 95 = mh_i h 95 ∧ mh_i h' 97 = mh_i h 97) ∧ (∀ q, cnQ G h q → cnQ G h' q) ∧ ∀ Q, mw (d + 1) 267 Q 56 [some (.ref 115), x1, x2, some (.ref st), x4, some (.ref nn), some (.ref bh), some (.int (Int32.ofNat s1)), x8, some (.ref ho)] [] h = Q none h' := by
  obtain ⟨d, rfl⟩ : ∃ d', d = d' + 1 := ⟨d - 1, by omega⟩
  have J := R.j
  have sn := lv_sp ln'
  have lon := sp_lo J sn
  have sb := lv_sp lb
  have lob := sp_lo J sb
  have non : ho ≠ nn := fun z => lv_ne J ln' (Nat.le_refl _) f5 z.symm
  have kn : ko h nn := by
    obtain ⟨i, hi⟩ := sn
    exact (J.s i nn hi).2
  obtain ⟨h6, f6, k6, run6⟩ := k_281 (d := d + 1) kn kt (fun z => d1 z.symm)
  have A6 := ra_k R sn f6 (RK_ko k6)
  have sn6 := sp_k sn f6
  have kho6 := ra_o R sn ⟨_, f5⟩ non f6 kho
  have kb6 := ra_o R sn sb (fun z => d5 z.symm) f6 kb'
  have ab6 := ra_oi R sn sb (fun z => d5 z.symm) f6 2
  obtain ⟨h7, f7, k7, run7⟩ := k_293o (d := d) k6 kho6 (fun z => non z.symm) (fun A' B' eA eB => by
    obtain ⟨-, a1, a2, -⟩ := sS' A' eA
    obtain ⟨-, b1, b2, -⟩ := sX B' eB
    exact ⟨a1.trans b1.symm, a2.trans b2.symm⟩)
  have A7 := ra_k A6 sn6 f7 (RK_ko k7)
  have sb6 := sp_k sb f6
  have kb7 := ra_o A6 sn6 sb6 (fun z => d5 z.symm) f7 kb6
  have ab7 := ra_oi A6 sn6 sb6 (fun z => d5 z.symm) f7 2
  refine ⟨mh_si h7 115 11 (Int32.ofNat s1), rq_t (sWn_1 (sV_k R sn f6)) (rq_t (sWn_1 (sV_k A6 sn6 f7)) (sWn_1 (sV_115 (by omega)))), RA_11 A7, RK_fz (fz_si (W := fun b _ => b = 115) rfl) (fun y hy j w => by omega) k7, RK_fz (fz_si (W := fun b _ => b = 115) rfl) (fun y hy j w => by omega) kb7, by rw [hi_si, if_neg (by omega), ab7, ab6]; exact ab, ?_, fun q w => ?_, fun Q => ?_⟩
  · obtain ⟨y1, y2, y3⟩ := rs_tr J (vK_1 sn) (rs_k f6)
    obtain ⟨o1, o2, o3⟩ := rs_tr A6.j (vK_1 sn6) (rs_k f7)
    have q1 : ∀ b, b ≠ 115 → mh_i (mh_si h7 115 11 (Int32.ofNat s1)) b = mh_i h7 b := fun b nb => funext fun j => by rw [hi_si, if_neg (fun z => nb z.1)]
    rw [q1 93 (by omega), q1 95 (by omega), q1 97 (by omega), o1, o2, o3, y1, y2, y3]
    exact ⟨rfl, rfl, rfl⟩
  · have := cn_k A6 sn6 f7 (cn_k R sn f6 w)
    exact cn_i this (fun b j hb => by rw [hi_si, if_neg (by omega)])
  · have g7 := A7.j.a.g
    have gn := kn.1
    have gn6 := (RK_ko k6).1
    clear R A6 A7 J kt kho kb' k6 k7 kho6 kb6 kb7 f6 f7 sS' sX kn
    simp (disch := omega) only [s_267_0, s_267_1, s_267_4, s_267_6, s_267_7, s_267_8, s_267_10, s_267_13, s_267_15, s_267_16, s_267_19, s_267_19n, s_267_21, s_267_22, s_267_23, s_267_24, s_267_25, s_267_27, s_267_29, s_267_31, s_267_34, s_267_35, s_267_36, s_267_39, s_267_40, s_267_41, s_267_42, s_267_43, s_267_44, s_267_47, s_267_48, s_267_49, s_267_50, s_267_51, s_267_53, s_267_56, s_267_58, s_267_59, s_267_62, s_267_64, s_267_66, s_267_69, s_267_70, s_267_72, s_267_75, e_267, mv_i_1, mv_l_1, mv_a_1, mv_a_2, mv_a_3, mk2_n, mk2_i, mk2_l, mk2_a, mk2_u, mk2_x, mB_T, mB_F, mS_cons, mS_nil, mSB_T, mSB_F, mca_nil, mca_i, mca_l, mca_r, mca_u, mca_x, mcat_i, mcat_l, mcat_r, mcat_u, mcat_x, mK_some, mK_none, va_rf_s, va_rf_n, lgc_eq, lgc_lt, lgc_gt, lgc_ge, lgc_le, mrd_104, mrd_105, mrd_106, mrd_107, true_and, and_true, and_self, false_and, and_false, true_or, or_true, false_or, or_false, not_true_eq_false, not_false_eq_true, mgb, mga, mgr, mN, reduceCtorEq, ↓reduceIte, eq_self, ge_iff_le, gt_iff_lt, Nat.reduceAdd, Nat.reduceMul, Nat.reduceSub, Nat.reduceLT, Nat.reduceGT, Nat.reduceEqDiff, Nat.reduceLeDiff, Nat.left_eq_add, Nat.add_eq_left, Nat.reduceMod, Nat.reduceDiv, Nat.succ_ne_self, g7, gn, gn6, run6, run7]
theorem u_267 (z34 : mh_i h 115 34 = 0) (B : BQ G J D f) {q : tr} (hG : G.fx = fxJ J) (hen : J.en p = E.en) (e1 : G.n p = E.nu) (e2 : G.a p = E.ar) (jc : J.c p = 7) (jt : J.t p = .branch m c (.branch b bs q)) (hC : eCo E (.branch m c (.branch b bs q))) (hsp : G.sp p = cn3 (.branch m c (.branch b bs q))) (hpE : p < G.E p) (hE : G.E p ≤ 249) (L1 : LW G J D f bs (p + 1) (G.E p) E) (hw : wW w0 ≤ 4000) (R : RA h s1 E D w0) (m12 : E.nu ≤ 12 ∧ E.ar ≤ 6) (lt : lv h s1 st) (lh : lv h s1 hh) (ln' : lv h s1 nn) (lb : lv h s1 bh) (d1 : st ≠ nn) (d2 : st ≠ bh) (d3 : hh ≠ nn) (d4 : hh ≠ bh) (d5 : nn ≠ bh) (kt : RK h st S) (kh : RK h hh H) (sS' : shp E.nu E.ar E.rm S) (sH : shp E.nu E.ar E.rm H) (aH : mh_i h hh 2 = Int32.ofNat E.ar) (N : nd (mh_i h 93) (mh_i h 95) (mh_i h 97) (k + 1) (.branch m c (.branch b bs q))) (hb : k + 1 + ts (.branch m c (.branch b bs q)) ≤ 26000) (hs : s1 + (rnd G (DB G f) p S H w0).2.2.2 + 1 ≤ 2048) (hd : 4 * (G.E p - p) + 826 ≤ d) : ∃ h', rq s1 (sWn nn bh E.T) h h' ∧ RA h' s1 E D (rnd G (DB G f) p S H w0).2.2.1 ∧ RK h' nn (rnd G (DB G f) p S H w0).1 ∧ RK h' bh (rnd G (DB G f) p S H w0).2.1 ∧ mh_i h' bh 2 = Int32.ofNat E.ar ∧ shp E.nu E.ar E.rm (rnd G (DB G f) p S H w0).1 ∧ shp E.nu E.ar E.rm (rnd G (DB G f) p S H w0).2.1 ∧ (mh_i h' 93 = mh_i h 93 ∧ mh_i h' 95 = mh_i h 95 ∧ mh_i h' 97 = mh_i h 97) ∧ (∀ q, cnQ G h q → cnQ G h' q) ∧ (wW (rnd G (DB G f) p S H w0).2.2.1 ≤ 4000 → ∀ q, p + 1 ≤ q → q < G.E p → cnQ G h' q ∧ cnQ G h' (q + 1000)) ∧ cnQ G h' (p + 1000) ∧ ∀ Q, mcall (d + 1) 267 [.ref 115, .int (Int32.ofNat k), .int (Int32.ofNat p), .ref st, .ref hh, .ref nn, .ref bh] h Q = Q none h' := by
  obtain ⟨d, rfl⟩ : ∃ d', d = d' + 1 := ⟨d - 1, by omega⟩
  have er : rnd G (DB G f) p S H w0 = (o_join S (o_keep E.nu E.ar (DB G f (p + 1) (G.E p) (spl E.en (.branch m c (.branch b bs q)) false false H none).1 (wl p H (spl E.en (.branch m c (.branch b bs q)) false false H none).2.2 w0)).1), (spl E.en (.branch m c (.branch b bs q)) false false H none).2.1, (DB G f (p + 1) (G.E p) (spl E.en (.branch m c (.branch b bs q)) false false H none).1 (wl p H (spl E.en (.branch m c (.branch b bs q)) false false H none).2.2 w0)).2.1, 1 + max (cn3 (.branch m c (.branch b bs q))) (DB G f (p + 1) (G.E p) (spl E.en (.branch m c (.branch b bs q)) false false H none).1 (wl p H (spl E.en (.branch m c (.branch b bs q)) false false H none).2.2 w0)).2.2) := by
    unfold rnd
    rw [fo_7 hG hen jc jt, e1, e2, hsp]
  rw [er] at hs ⊢
  dsimp only at hs ⊢
  have hs1 : s1 + 1 + cn3 (.branch m c (.branch b bs q)) ≤ 2048 := by omega
  have hs2 : s1 + 1 + (DB G f (p + 1) (G.E p) (spl E.en (.branch m c (.branch b bs q)) false false H none).1 (wl p H (spl E.en (.branch m c (.branch b bs q)) false false H none).2.2 w0)).2.2 + 1 ≤ 2048 := by omega
  have hdd : 4 * (G.E p - (p + 1)) + 830 ≤ d + 1 := by omega
  obtain ⟨-, sh2⟩ := spl_shp hC sH
  obtain ⟨h4, ho, x4, S4, kb4, ab4, kt4, f4, ⟨w41, w42, w43⟩, c4, kp, run4⟩ := rnd_0 (d := d + 1) (G := G) (k := k) (p := p) z34 e2 hC (by omega) hw R m12 lt lh ln' lb d1 d2 d4 kt kh sH aH N hb hs1 (by omega)
  rw [ts_B, ts_B] at hb
  obtain ⟨-, -, z1, -, -, -, z2, n5, -⟩ := N
  have J4 := S4.A.j
  have cA := u_228 (d := d + 1) J4.a (k := k + 1) (by omega) (by rw [w43]; exact z1)
  have e3 : k + 1 + (1 + ts c) = k + 1 + 1 + ts c := by omega
  rw [e3] at cA
  obtain ⟨h5, B5, run5⟩ := B bs (p + 1) (G.E p) E L1 (d + 1) (k + 1 + 1 + ts c) (s1 + 1) ho (Int32.ofNat p) h4 _ _ S4 (by rw [w41, w42, w43]; exact n5) (by omega) (by rw [w43]; exact z2) hs2 hE hdd
  have lho4 := S4.l
  have lw : ∀ {a : Nat}, lv h s1 a → lv h4 (s1 + 1) a := fun l => lv_w (rq_lv x4 l) (by omega)
  have nto : st ≠ ho := lv_ne J4 (rq_lv x4 lt) (Nat.le_refl _) f4
  have nbo : bh ≠ ho := lv_ne J4 (rq_lv x4 lb) (Nat.le_refl _) f4
  have kt5 : RK h5 st S := sV_K J4 B5.x lho4 (lw lt) nto kt4
  have kb5 := sV_K J4 B5.x lho4 (lw lb) nbo kb4
  have ab5 : mh_i h5 bh 2 = Int32.ofNat E.ar := (sV_ki J4 B5.x lho4 (lw lb) nbo 2).trans ab4
  have x45 : rq s1 (sWn nn bh E.T) h4 h5 := sWn_1 (sV_sp B5.x (by omega) (Nat.le_refl _) (Or.inr ⟨s1, Nat.le_refl _, f4⟩))
  have x5 := rq_t x4 x45
  obtain ⟨h6, x6, A6, kn6, kb6, ab6, ⟨v1, v2', v3⟩, c6, run6⟩ := rnd_9 (d := d + 1) (G := G) (x1 := some (.int (Int32.ofNat k))) (x2 := some (.int (Int32.ofNat p))) (x4 := some (.ref hh)) (x8 := some (.int (kb (decide (H ≠ none))))) B5.A (rq_lv x5 lt) (rq_lv x5 ln') (rq_lv x5 lb) d1 d5 (B5.x.k _ _ f4) kt5 B5.k kb5 ab5 sS' B5.sh (by omega)
  have loh := sp_lo J4 ⟨_, f4⟩
  obtain ⟨y1, y2, y3⟩ := sV_tr J4 loh B5.x
  refine ⟨h6, rq_t x5 x6, A6, kn6, kb6, ab6, join_shp sS' B5.sh, sh2, ⟨by rw [v1, y1, w41], by rw [v2', y2, w42], by rw [v3, y3, w43]⟩, fun q w => c6 q (B5.c q (c4 q w)), fun w q q1 q2 => ⟨c6 q (B5.n w q q1 q2).1, c6 _ (B5.n w q q1 q2).2⟩, c6 _ (B5.c _ kp), fun Q => ?_⟩
  rw [run4, ← run6 Q]
  have g4 := J4.a.g
  have e1' : ∀ k, Int32.ofNat k + 1 = Int32.ofNat (k + 1) := fun k => nn_add (a := k) (b := 1)
  clear R S4 J4 B5 A6 B L1 x4 x5 x6 x45 kt kh kt4 kt5 kb4 kb5 kb6 kn6 c4 c6 n5 hC er lw run6 run4 sS' sH sh2
  rw [s_267_39]
  simp (disch := omega) only [s_267_0, s_267_1, s_267_4, s_267_6, s_267_7, s_267_8, s_267_10, s_267_13, s_267_15, s_267_16, s_267_19, s_267_19n, s_267_21, s_267_22, s_267_23, s_267_24, s_267_25, s_267_27, s_267_29, s_267_31, s_267_34, s_267_35, s_267_36, s_267_40, s_267_41, s_267_42, s_267_43, s_267_44, s_267_47, s_267_48, s_267_49, s_267_50, s_267_51, s_267_53, s_267_58, s_267_59, s_267_62, s_267_64, s_267_66, s_267_69, s_267_70, s_267_72, s_267_75, e_267, mv_i_1, mv_l_1, mv_a_1, mv_a_2, mv_a_3, mk2_n, mk2_i, mk2_l, mk2_a, mk2_u, mk2_x, mB_T, mB_F, mS_cons, mS_nil, mSB_T, mSB_F, mca_nil, mca_i, mca_l, mca_r, mca_u, mca_x, mcat_i, mcat_l, mcat_r, mcat_u, mcat_x, mK_some, mK_none, va_rf_s, va_rf_n, lgc_eq, lgc_lt, lgc_gt, lgc_ge, lgc_le, mrd_104, mrd_105, mrd_106, mrd_107, true_and, and_true, and_self, false_and, and_false, true_or, or_true, false_or, or_false, not_true_eq_false, not_false_eq_true, mgb, mga, mgr, mN, reduceCtorEq, ↓reduceIte, eq_self, ge_iff_le, gt_iff_lt, Nat.reduceAdd, Nat.reduceMul, Nat.reduceSub, Nat.reduceLT, Nat.reduceGT, Nat.reduceEqDiff, Nat.reduceLeDiff, Nat.left_eq_add, Nat.add_eq_left, Nat.reduceMod, Nat.reduceDiv, Nat.succ_ne_self, g4, cA, run5, e1']
end RNs
