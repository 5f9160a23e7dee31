set_option maxRecDepth 100000
/-! CHECKS: what is broken; a simple statement -/
/-- a point that leads to a claim that doesn't hold -/
def VI (G : pgm) (cl : Nat → Option ab) (fst oth : Nat → Nat) (p : Nat) : Prop := gsC G cl (fo G p (cl p)).1 (fst p) ∨ ((G.kd p = 5 ∨ G.kd p = 6) ∧ gsC G cl (fo G p (cl p)).2.1 (oth p))
/-- the least that is broken from p to e, or br -/
def BRK (S : Nat → Prop) (p e br b' : Nat) : Prop := b' ≤ br ∧ (∀ q, p ≤ q → q < e → S q → b' ≤ q) ∧ (b' = br ∨ (p ≤ b' ∧ b' < e ∧ S b'))
/-- where points lead: nx behind the row -/
def SUC (G : pgm) (fst oth : Nat → Nat) : Nat → Nat → Nat → Nat → Prop
  | 0, _, _, _ => True
  | f + 1, p, e, nx => p < e → (if G.kd p = 4 then fst p = (if p + 1 < G.E p then p + 1 else if G.E p < e then G.E p else nx) ∧ SUC G fst oth f (p + 1) (G.E p) (if G.E p < e then G.E p else nx)
    else if G.kd p = 5 then fst p = (if p + 1 < G.M p then p + 1 else if G.E p < e then G.E p else nx) ∧ oth p = (if G.M p < G.E p then G.M p else if G.E p < e then G.E p else nx) ∧ SUC G fst oth f (p + 1) (G.M p) (if G.E p < e then G.E p else nx) ∧ SUC G fst oth f (G.M p) (G.E p) (if G.E p < e then G.E p else nx)
    else if G.kd p = 6 then fst p = (if p + 1 < G.E p then p + 1 else p) ∧ oth p = (if G.E p < e then G.E p else nx) ∧ SUC G fst oth f (p + 1) (G.E p) p
    else fst p = (if G.E p < e then G.E p else nx)) ∧ SUC G fst oth f (G.E p) e nx
section BRs
variable {S : Nat → Prop} {p m e br b1 b2 to to2 : Nat} {G : pgm} {cl : Nat → Option ab} {X Y : Option ab}
theorem brk_id (h : p = e) : BRK S p e br br := ⟨Nat.le_refl _, fun q q1 q2 => by omega, Or.inl rfl⟩
theorem brk_t (x : BRK S p m br b1) (y : BRK S m e b1 b2) (h1 : p ≤ m) (h2 : m ≤ e) : BRK S p e br b2 := by
  obtain ⟨x1, x2, x3⟩ := x
  obtain ⟨y1, y2, y3⟩ := y
  refine ⟨by omega, fun q q1 q2 s => ?_, ?_⟩
  · by_cases c : q < m
    · have := x2 q q1 c s; omega
    · exact y2 q (by omega) q2 s
  · rcases y3 with y3 | y3
    · rcases x3 with x3 | x3
      · exact Or.inl (y3.trans x3)
      · rw [y3]; exact Or.inr ⟨x3.1, by omega, x3.2.2⟩
    · exact Or.inr ⟨by omega, y3.2.1, y3.2.2⟩
theorem gsB_le : gsB G cl X to p br ≤ br := by
  unfold gsB
  split
  · exact Nat.min_le_left _ _
  · exact Nat.le_refl _
theorem brk_1 (h : S p ↔ gsC G cl X to) : BRK S p (p + 1) br (gsB G cl X to p br) := by
  unfold gsB
  by_cases c : gsC G cl X to
  · rw [if_pos c]
    refine ⟨Nat.min_le_left _ _, fun q q1 q2 _ => by omega, ?_⟩
    by_cases d : br ≤ p
    · exact Or.inl (Nat.min_eq_left d)
    · rw [Nat.min_eq_right (by omega)]
      exact Or.inr ⟨Nat.le_refl _, by omega, h.mpr c⟩
  · rw [if_neg c]
    refine ⟨Nat.le_refl _, fun q q1 q2 s => ?_, Or.inl rfl⟩
    have e : q = p := by omega
    rw [e] at s
    exact absurd (h.mp s) c
theorem brk_2 (h : S p ↔ (gsC G cl X to ∨ gsC G cl Y to2)) : BRK S p (p + 1) br (gsB G cl Y to2 p (gsB G cl X to p br)) := by
  unfold gsB
  by_cases c : gsC G cl X to
  · rw [if_pos c]
    have sp : S p := h.mpr (Or.inl c)
    by_cases d : gsC G cl Y to2
    · rw [if_pos d]
      refine ⟨by omega, fun q q1 q2 _ => by omega, ?_⟩
      by_cases d : br ≤ p
      · exact Or.inl (by omega)
      · exact Or.inr ⟨by omega, by omega, by
          have e : min (min br p) p = p := by omega
          rw [e]; exact sp⟩
    · rw [if_neg d]
      refine ⟨by omega, fun q q1 q2 _ => by omega, ?_⟩
      by_cases d : br ≤ p
      · exact Or.inl (by omega)
      · exact Or.inr ⟨by omega, by omega, by
          have e : min br p = p := by omega
          rw [e]; exact sp⟩
  · rw [if_neg c]
    by_cases d : gsC G cl Y to2
    · rw [if_pos d]
      have sp : S p := h.mpr (Or.inr d)
      refine ⟨by omega, fun q q1 q2 _ => by omega, ?_⟩
      by_cases d : br ≤ p
      · exact Or.inl (by omega)
      · exact Or.inr ⟨by omega, by omega, by
          have e : min br p = p := by omega
          rw [e]; exact sp⟩
    · rw [if_neg d]
      refine ⟨Nat.le_refl _, fun q q1 q2 s => ?_, Or.inl rfl⟩
      have e : q = p := by omega
      rw [e] at s
      exact ((h.mp s).elim c d).elim
end BRs
/-- what is so of a program whose claims are checked -/
def CHX (G : pgm) (J : pin) (e0 : Nat) (cl : Nat → Option ab) : Prop := (G.fx = fxJ J) ∧ (e0 < 250) ∧ (∀ q, q < e0 → shp (G.n q) (G.a q) (G.rm q) (cl q)) ∧ (∀ A, cl e0 = some A → A.n = G.n e0 ∧ A.a = G.a e0) ∧ (∀ q, q < e0 → G.sp q ≤ 350)
theorem CHX.of {G : pgm} {J : pin} {e0 : Nat} {cl : Nat → Option ab} (q : (G.fx = fxJ J) ∧ (e0 < 250) ∧ (∀ q, q < e0 → shp (G.n q) (G.a q) (G.rm q) (cl q)) ∧ (∀ A, cl e0 = some A → A.n = G.n e0 ∧ A.a = G.a e0) ∧ (∀ q, q < e0 → G.sp q ≤ 350)) : CHX G J e0 cl := q
theorem CHX.hG {G : pgm} {J : pin} {e0 : Nat} {cl : Nat → Option ab} (q : CHX G J e0 cl) : G.fx = fxJ J := q.1
theorem CHX.he {G : pgm} {J : pin} {e0 : Nat} {cl : Nat → Option ab} (q : CHX G J e0 cl) : e0 < 250 := q.2.1
theorem CHX.c {G : pgm} {J : pin} {e0 : Nat} {cl : Nat → Option ab} (q : CHX G J e0 cl) : ∀ q, q < e0 → shp (G.n q) (G.a q) (G.rm q) (cl q) := q.2.2.1
theorem CHX.e {G : pgm} {J : pin} {e0 : Nat} {cl : Nat → Option ab} (q : CHX G J e0 cl) : ∀ A, cl e0 = some A → A.n = G.n e0 ∧ A.a = G.a e0 := q.2.2.2.1
theorem CHX.sp {G : pgm} {J : pin} {e0 : Nat} {cl : Nat → Option ab} (q : CHX G J e0 cl) : ∀ q, q < e0 → G.sp q ≤ 350 := q.2.2.2.2
/-- what stands at a statement or a BLOCK -/
def SC (h : mh_H) (s0 o : Nat) (E : nv) (D : fd) (w0 : wd) (G : pgm) (e0 : Nat) (cl : Nat → Option ab) (br : Nat) : Prop := (RA h s0 E D w0) ∧ (lv h s0 o) ∧ (∃ X, RK h o X ∧ shp E.nu E.ar E.rm X) ∧ (E.nu ≤ 12 ∧ E.ar ≤ 6) ∧ (CKS h G e0 cl br) ∧ (wW w0 ≤ 4000)
theorem SC.of {h : mh_H} {s0 o : Nat} {E : nv} {D : fd} {w0 : wd} {G : pgm} {e0 : Nat} {cl : Nat → Option ab} {br : Nat} (q : (RA h s0 E D w0) ∧ (lv h s0 o) ∧ (∃ X, RK h o X ∧ shp E.nu E.ar E.rm X) ∧ (E.nu ≤ 12 ∧ E.ar ≤ 6) ∧ (CKS h G e0 cl br) ∧ (wW w0 ≤ 4000)) : SC h s0 o E D w0 G e0 cl br := q
theorem SC.A {h : mh_H} {s0 o : Nat} {E : nv} {D : fd} {w0 : wd} {G : pgm} {e0 : Nat} {cl : Nat → Option ab} {br : Nat} (q : SC h s0 o E D w0 G e0 cl br) : RA h s0 E D w0 := q.1
theorem SC.l {h : mh_H} {s0 o : Nat} {E : nv} {D : fd} {w0 : wd} {G : pgm} {e0 : Nat} {cl : Nat → Option ab} {br : Nat} (q : SC h s0 o E D w0 G e0 cl br) : lv h s0 o := q.2.1
theorem SC.k {h : mh_H} {s0 o : Nat} {E : nv} {D : fd} {w0 : wd} {G : pgm} {e0 : Nat} {cl : Nat → Option ab} {br : Nat} (q : SC h s0 o E D w0 G e0 cl br) : ∃ X, RK h o X ∧ shp E.nu E.ar E.rm X := q.2.2.1
theorem SC.m {h : mh_H} {s0 o : Nat} {E : nv} {D : fd} {w0 : wd} {G : pgm} {e0 : Nat} {cl : Nat → Option ab} {br : Nat} (q : SC h s0 o E D w0 G e0 cl br) : E.nu ≤ 12 ∧ E.ar ≤ 6 := q.2.2.2.1
theorem SC.C {h : mh_H} {s0 o : Nat} {E : nv} {D : fd} {w0 : wd} {G : pgm} {e0 : Nat} {cl : Nat → Option ab} {br : Nat} (q : SC h s0 o E D w0 G e0 cl br) : CKS h G e0 cl br := q.2.2.2.2.1
theorem SC.w {h : mh_H} {s0 o : Nat} {E : nv} {D : fd} {w0 : wd} {G : pgm} {e0 : Nat} {cl : Nat → Option ab} {br : Nat} (q : SC h s0 o E D w0 G e0 cl br) : wW w0 ≤ 4000 := q.2.2.2.2.2
section SCs
variable {d : Nat} {h h1 h2 : mh_H} {s0 s1 o o' p q k e0 br T x to n : Nat} {E : nv} {D : fd} {w0 : wd} {s X : Option ab} {G : pgm} {J : pin} {cl : Nat → Option ab} {cs r : tr} {A : ab}
theorem CHX_d (H : CHX G J e0 cl) (hq : q ≤ e0) : ∀ A, cl q = some A → A.n = G.n q ∧ A.a = G.a q := fun A e => by
  by_cases c : q = e0
  · rw [c] at e ⊢; exact H.e A e
  · obtain ⟨-, a1, a2, -⟩ := H.c q (by omega) A e
    exact ⟨a1, a2⟩
theorem shp_sg {n' a' : Nat} {r' : Nat → Nat} (sh : shp n' a' r' X) {n a : Nat} (h1 : n ≤ n') (h2 : a ≤ a') : shg n a r' X := ⟨n', a', r', h1, h2, fun _ _ => rfl, sh⟩
theorem cl_sh (H : CHX G J e0 cl) (hp : p < e0) (e1 : G.n p = E.nu) (e2 : G.a p = E.ar) (e3 : ∀ x, x < E.ar → E.rm x = G.rm p x) : shp E.nu E.ar E.rm (cl p) := fun B e => by
  obtain ⟨T', a1, a2, a3⟩ := H.c p hp B e
  exact ⟨T', a1.trans e1, a2.trans e2, fun x hx => (a3 x (by omega)).trans (e3 x hx).symm⟩
/-- a statement's start -/
theorem stm_0c (R : RA h s0 E D w0) (z : mh_i h 115 34 = 1) (hp : p < 250) (hk : k < 26000) {kd : Int32} (hkd : mh_i h 93 k = kd) {nx : Int32} : ∀ Q, mcall d 261 [.ref 115, .int (Int32.ofNat k), .int (Int32.ofNat p), .int nx, .ref o] h Q = mw d 261 Q 58 [some (.ref 115), some (.int (Int32.ofNat k)), some (.int (Int32.ofNat p)), some (.int nx), some (.ref o), none] [.int kd] h := fun Q => by
  have J := R.j
  have g := J.a.g
  have t36 := J.a.F.f 115 36 130 (by decide +kernel)
  have t37 := J.a.F.f 115 37 131 (by decide +kernel)
  have g130 := J.a.F.g 130 100 250 (by decide +kernel)
  have l130 := J.a.F.l 130 100 250 (by decide +kernel)
  have g131 := J.a.F.g 131 100 250 (by decide +kernel)
  have l131 := J.a.F.l 131 100 250 (by decide +kernel)
  have r0 := J.a.r0
  have gV := J.a.F.g 93 102 26000 (by decide +kernel)
  have gV1 := gV.1
  have gV2 := gV.2
  have lV := J.a.F.l 93 102 26000 (by decide +kernel)
  have e10 : ((1 : Int32) = 0) = False := by decide
  have id1 : mh_si h 130 p (mh_i h 130 p) = h := si_id
  have id2 : mh_si h 131 p (mh_i h 131 p) = h := si_id
  clear R J
  simp (disch := omega) only [s_261_0, s_261_1, s_261_4, s_261_5, s_261_6, s_261_9, s_261_12, s_261_13, s_261_16, s_261_17, s_261_18, s_261_21, s_261_22, s_261_25, s_261_26, s_261_27, s_261_30, s_261_31, s_261_32, s_261_35, s_261_38, s_261_39, s_261_42, s_261_43, s_261_44, s_261_47, s_261_48, s_261_51, s_261_52, s_261_53, s_261_56, s_261_57, s_261_84, s_261_85, s_261_86, s_261_87, s_261_88, s_261_90, s_261_93, s_261_96, s_261_97, s_261_98, s_261_99, s_261_100, s_261_102, s_261_105, s_261_108, s_261_109, s_261_110, s_261_111, s_261_112, s_261_114, s_261_117, s_261_120, s_261_121, s_261_122, s_261_124, s_261_127, s_261_129, s_261_130, s_261_131, s_261_133, s_261_135, s_261_138, s_261_139, s_261_140, s_261_143, s_261_144, s_261_145, s_261_146, s_261_148, s_261_151, e_261, mv_i_1, mv_l_1, mv_a_1, mv_a_2, mv_a_3, mk2_n, mk2_i, mk2_l, mk2_a, mk2_u, mk2_x, mB_T, mB_F, mS_cons, mS_nil, mSB_T, mSB_F, mca_nil, mca_i, mca_l, mca_r, mca_u, mca_x, mcat_i, mcat_l, mcat_r, mcat_u, mcat_x, mK_some, mK_none, va_rf_s, va_rf_n, lgc_eq, lgc_lt, lgc_gt, lgc_ge, lgc_le, mrd_104, mrd_105, mrd_106, mrd_107, true_and, and_true, and_self, false_and, and_false, true_or, or_true, false_or, or_false, not_true_eq_false, not_false_eq_true, mgb, mga, mgr, mN, reduceCtorEq, ↓reduceIte, eq_self, ge_iff_le, gt_iff_lt, Nat.reduceAdd, Nat.reduceMul, Nat.reduceSub, Nat.reduceLT, Nat.reduceGT, Nat.reduceEqDiff, Nat.reduceLeDiff, Nat.left_eq_add, Nat.add_eq_left, Nat.reduceMod, Nat.reduceDiv, Nat.succ_ne_self, g, t36, t37, g130, l130, g131, l131, r0, gV1, gV2, lV, z, e10, hkd, id1, id2, nn_mxT, nn_clamp]
/-- a simple one -/
theorem stm_sc {rec : tr → Nat → Nat → nv → Prop} (H : CHX G J e0 cl) (L : LN G J D rec n cs p E) (hk : ¬ tK n = 7 ∧ ¬ tK n = 8 ∧ ¬ tK n = 9) (hen : J.en p = E.en) (e1 : G.n p = E.nu) (e2 : G.a p = E.ar) (e3 : ∀ x, x < E.ar → E.rm x = G.rm p x) (hp : p < e0) (S : SC h s0 o E D w0 G e0 cl br) (N : nd (mh_i h 93) (mh_i h 95) (mh_i h 97) k (.branch n cs r)) (hb : k + 1 + ts cs ≤ 26000) (hs : s0 + 360 ≤ 2048) (hd : 825 ≤ d) (hto : to ≤ e0) (hdm : G.n to ≤ (nx n cs E).nu ∧ G.a to ≤ (nx n cs E).ar) : ∃ h', rq s0 (sV o E.T) h h' ∧ SC h' s0 o (nx n cs E) D w0 G e0 cl (gsB G cl (fo G p (cl p)).1 to p br) ∧ ∀ Q, mcall d 261 [.ref 115, .int (Int32.ofNat k), .int (Int32.ofNat p), .int (Int32.ofNat to), .ref o] h Q = Q none h' := by
  obtain ⟨d, rfl⟩ : ∃ d', d = d' + 4 := ⟨d - 4, by omega⟩
  have he := H.he
  have sp1 := H.sp p hp
  have hK : tK n < 64 := Nat.mod_lt _ (by omega)
  have J0 := S.A.j
  have so := lv_sp S.l
  have lo := sp_lo J0 so
  have run0 := stm_0c (d := d + 4) (o := o) (nx := Int32.ofNat to) S.A S.C.z (by omega : p < 250) (by omega : k < 26000) N.1
  obtain ⟨h1, x1, R1, k1, a1, al1, C1, run1⟩ := w_258c (d := d + 2) S.A S.l S.C he hp e2
  obtain ⟨t1, t2, t3⟩ := sV_tr J0 lo x1
  have l1 := rq_lv x1 S.l
  obtain ⟨h2, F, hsh, run2⟩ := sim_all (d := d + 3) L hk H.hG hen R1 l1 k1 (cl_sh H hp e1 e2 e3) a1 al1 (by rw [t1, t2, t3]; exact N) hb (by omega) (by omega)
  have g1 := R1.j.a.g
  have e35 := ck_35 g1 (by decide) run2
  have C2 : CKS h2 G e0 cl br := ck_t C1 R1 lo he F.x F.c e35
  have m1 := nx_m L S.m
  have l2 := rq_lv F.x l1
  obtain ⟨h3, x3, R3, kK, kI, -, C3, run3⟩ := w_260c (d := d) (p := p) F.A l2 F.k (shp_sg hsh hdm.1 hdm.2) C2 he hto (by omega) (by omega) (CHX_d H hto) ⟨by omega, by omega⟩
  have x3' : rq s0 (sV o E.T) h2 h3 := x3 o E.T
  refine ⟨h3, rq_t x1 (rq_t F.x x3'), SC.of ⟨R3, rq_lv x3' l2, ⟨_, kK o _ l2 F.k, hsh⟩, m1, C3, S.w⟩, fun Q => ?_⟩
  have run4 := w_259c (d := d + 3) (v := Int32.ofNat p) F.A C2.z
  have ne : ∀ c : Nat, c < 12 → ¬ tK n = c → Int32.ofNat (tK n) ≠ Int32.ofNat c := fun c hc hn z => hn ((nn_eq (by omega) (by omega)).mp z)
  rw [run0, ts_x (ne 7 (by omega) hk.1) (ne 8 (by omega) hk.2.1) (ne 9 (by omega) hk.2.2)]
  have g0 := J0.a.g
  have g2 := F.A.j.a.g
  clear S R1 R3 J0 F x1 x3 x3' C1 C2 C3 kK kI hsh N L H run0 k1
  simp (disch := omega) only [s_261_0, s_261_1, s_261_4, s_261_5, s_261_6, s_261_9, s_261_12, s_261_13, s_261_16, s_261_17, s_261_18, s_261_21, s_261_22, s_261_25, s_261_26, s_261_27, s_261_30, s_261_31, s_261_32, s_261_35, s_261_38, s_261_39, s_261_42, s_261_43, s_261_44, s_261_47, s_261_48, s_261_51, s_261_52, s_261_53, s_261_56, s_261_57, s_261_84, s_261_85, s_261_86, s_261_87, s_261_88, s_261_90, s_261_93, s_261_96, s_261_97, s_261_98, s_261_99, s_261_100, s_261_102, s_261_105, s_261_108, s_261_109, s_261_110, s_261_111, s_261_112, s_261_114, s_261_117, s_261_120, s_261_121, s_261_122, s_261_124, s_261_127, s_261_129, s_261_130, s_261_131, s_261_133, s_261_135, s_261_138, s_261_139, s_261_140, s_261_143, s_261_144, s_261_145, s_261_146, s_261_148, s_261_151, e_261, mv_i_1, mv_l_1, mv_a_1, mv_a_2, mv_a_3, mk2_n, mk2_i, mk2_l, mk2_a, mk2_u, mk2_x, mB_T, mB_F, mS_cons, mS_nil, mSB_T, mSB_F, mca_nil, mca_i, mca_l, mca_r, mca_u, mca_x, mcat_i, mcat_l, mcat_r, mcat_u, mcat_x, mK_some, mK_none, va_rf_s, va_rf_n, lgc_eq, lgc_lt, lgc_gt, lgc_ge, lgc_le, mrd_104, mrd_105, mrd_106, mrd_107, true_and, and_true, and_self, false_and, and_false, true_or, or_true, false_or, or_false, not_true_eq_false, not_false_eq_true, mgb, mga, mgr, mN, reduceCtorEq, ↓reduceIte, eq_self, ge_iff_le, gt_iff_lt, Nat.reduceAdd, Nat.reduceMul, Nat.reduceSub, Nat.reduceLT, Nat.reduceGT, Nat.reduceEqDiff, Nat.reduceLeDiff, Nat.left_eq_add, Nat.add_eq_left, Nat.reduceMod, Nat.reduceDiv, Nat.succ_ne_self, g0, g1, g2, run1, run2, run3, run4]
end SCs
