set_option maxRecDepth 100000
/-! statement -/
def BFi (G : pgm) (h h' : mh_H) (s0 o T p e : Nat) (E' : nv) (D : fd) (w' : wd) (s' : Option ab) : Prop := (rq s0 (sV o T) h h') ∧ (RA h' s0 E' D w') ∧ (RK h' o s') ∧ (mh_i h' o 2 = Int32.ofNat E'.ar) ∧ (∀ q, cnQ G h q → cnQ G h' q) ∧ (wW w' ≤ 4000 → ∀ q, p ≤ q → q < e → cnQ G h' q ∧ cnQ G h' (q + 1000)) ∧ (shp E'.nu E'.ar E'.rm s')
theorem BFi.of {G : pgm} {h h' : mh_H} {s0 o T p e : Nat} {E' : nv} {D : fd} {w' : wd} {s' : Option ab} (q : (rq s0 (sV o T) h h') ∧ (RA h' s0 E' D w') ∧ (RK h' o s') ∧ (mh_i h' o 2 = Int32.ofNat E'.ar) ∧ (∀ q, cnQ G h q → cnQ G h' q) ∧ (wW w' ≤ 4000 → ∀ q, p ≤ q → q < e → cnQ G h' q ∧ cnQ G h' (q + 1000)) ∧ (shp E'.nu E'.ar E'.rm s')) : BFi G h h' s0 o T p e E' D w' s' := q
theorem BFi.x {G : pgm} {h h' : mh_H} {s0 o T p e : Nat} {E' : nv} {D : fd} {w' : wd} {s' : Option ab} (q : BFi G h h' s0 o T p e E' D w' s') : rq s0 (sV o T) h h' := q.1
theorem BFi.A {G : pgm} {h h' : mh_H} {s0 o T p e : Nat} {E' : nv} {D : fd} {w' : wd} {s' : Option ab} (q : BFi G h h' s0 o T p e E' D w' s') : RA h' s0 E' D w' := q.2.1
theorem BFi.k {G : pgm} {h h' : mh_H} {s0 o T p e : Nat} {E' : nv} {D : fd} {w' : wd} {s' : Option ab} (q : BFi G h h' s0 o T p e E' D w' s') : RK h' o s' := q.2.2.1
theorem BFi.a {G : pgm} {h h' : mh_H} {s0 o T p e : Nat} {E' : nv} {D : fd} {w' : wd} {s' : Option ab} (q : BFi G h h' s0 o T p e E' D w' s') : mh_i h' o 2 = Int32.ofNat E'.ar := q.2.2.2.1
theorem BFi.c {G : pgm} {h h' : mh_H} {s0 o T p e : Nat} {E' : nv} {D : fd} {w' : wd} {s' : Option ab} (q : BFi G h h' s0 o T p e E' D w' s') : ∀ q, cnQ G h q → cnQ G h' q := q.2.2.2.2.1
theorem BFi.n {G : pgm} {h h' : mh_H} {s0 o T p e : Nat} {E' : nv} {D : fd} {w' : wd} {s' : Option ab} (q : BFi G h h' s0 o T p e E' D w' s') : wW w' ≤ 4000 → ∀ q, p ≤ q → q < e → cnQ G h' q ∧ cnQ G h' (q + 1000) := q.2.2.2.2.2.1
theorem BFi.sh {G : pgm} {h h' : mh_H} {s0 o T p e : Nat} {E' : nv} {D : fd} {w' : wd} {s' : Option ab} (q : BFi G h h' s0 o T p e E' D w' s') : shp E'.nu E'.ar E'.rm s' := q.2.2.2.2.2.2
/-- what stands at a statement or a BLOCK -/
def SA (h : mh_H) (s0 o : Nat) (E : nv) (D : fd) (w0 : wd) (s : Option ab) : Prop := (RA h s0 E D w0) ∧ (lv h s0 o) ∧ (RK h o s) ∧ (mh_i h o 2 = Int32.ofNat E.ar) ∧ (shp E.nu E.ar E.rm s) ∧ (E.nu ≤ 12 ∧ E.ar ≤ 6) ∧ (mh_i h 115 34 = 0)
theorem SA.of {h : mh_H} {s0 o : Nat} {E : nv} {D : fd} {w0 : wd} {s : Option ab} (q : (RA h s0 E D w0) ∧ (lv h s0 o) ∧ (RK h o s) ∧ (mh_i h o 2 = Int32.ofNat E.ar) ∧ (shp E.nu E.ar E.rm s) ∧ (E.nu ≤ 12 ∧ E.ar ≤ 6) ∧ (mh_i h 115 34 = 0)) : SA h s0 o E D w0 s := q
theorem SA.A {h : mh_H} {s0 o : Nat} {E : nv} {D : fd} {w0 : wd} {s : Option ab} (q : SA h s0 o E D w0 s) : RA h s0 E D w0 := q.1
theorem SA.l {h : mh_H} {s0 o : Nat} {E : nv} {D : fd} {w0 : wd} {s : Option ab} (q : SA h s0 o E D w0 s) : lv h s0 o := q.2.1
theorem SA.k {h : mh_H} {s0 o : Nat} {E : nv} {D : fd} {w0 : wd} {s : Option ab} (q : SA h s0 o E D w0 s) : RK h o s := q.2.2.1
theorem SA.a {h : mh_H} {s0 o : Nat} {E : nv} {D : fd} {w0 : wd} {s : Option ab} (q : SA h s0 o E D w0 s) : mh_i h o 2 = Int32.ofNat E.ar := q.2.2.2.1
theorem SA.sh {h : mh_H} {s0 o : Nat} {E : nv} {D : fd} {w0 : wd} {s : Option ab} (q : SA h s0 o E D w0 s) : shp E.nu E.ar E.rm s := q.2.2.2.2.1
theorem SA.m {h : mh_H} {s0 o : Nat} {E : nv} {D : fd} {w0 : wd} {s : Option ab} (q : SA h s0 o E D w0 s) : E.nu ≤ 12 ∧ E.ar ≤ 6 := q.2.2.2.2.2.1
theorem SA.z {h : mh_H} {s0 o : Nat} {E : nv} {D : fd} {w0 : wd} {s : Option ab} (q : SA h s0 o E D w0 s) : mh_i h 115 34 = 0 := q.2.2.2.2.2.2
section STs
variable {d : Nat} {h h1 : mh_H} {s0 s1 o b p k T : Nat} {E E' : nv} {D : fd} {w0 : wd} {s s' : Option ab} {G : pgm} {J : pin} {A : ab} {t : tr} {m : Nat} {u : Unit} {al : Int32}
/-- its start -/
theorem stm_0 (S : SA h s0 o E D w0 s) (hp : p < 250) (e1 : G.n p = E.nu) (e2 : G.a p = E.ar) (hk : k < 26000) {kd : Int32} (hkd : mh_i h 93 k = kd) {nx : Int32} : ∃ h', rq s0 (sV o E.T) h h' ∧ SA h' s0 o E D w0 s ∧ (mh_i h' 93 = mh_i h 93 ∧ mh_i h' 95 = mh_i h 95 ∧ mh_i h' 97 = mh_i h 97) ∧ cnQ G h' p ∧ (∀ q, cnQ G h q → cnQ G h' q) ∧ ∀ Q, mcall d 261 [.ref 115, .int (Int32.ofNat k), .int (Int32.ofNat p), .int nx, .ref o] h Q = mw d 261 Q 58 [some (.ref 115), some (.int (Int32.ofNat k)), some (.int (Int32.ofNat p)), some (.int nx), some (.ref o), none] [.int kd] h' := by
  have A := S.A
  have J := A.j
  have lo := sp_lo J (lv_sp S.l)
  have i : ∀ b j, ¬ (130 ≤ b ∧ b ≤ 131) → mh_i (mh_si (mh_si h 130 p (Int32.ofNat E.nu)) 131 p (Int32.ofNat E.ar)) b j = mh_i h b j := fun b j hb => by rw [hi_si, if_neg (by omega), hi_si, if_neg (by omega)]
  have row : ∀ b, ¬ (130 ≤ b ∧ b ≤ 131) → mh_i (mh_si (mh_si h 130 p (Int32.ofNat E.nu)) 131 p (Int32.ofNat E.ar)) b = mh_i h b := fun b hb => funext fun j => i b j hb
  have cp : cnQ G (mh_si (mh_si h 130 p (Int32.ofNat E.nu)) 131 p (Int32.ofNat E.ar)) p := ⟨fun _ => ⟨by rw [e1, hi_si, if_neg (by omega), hi_si, if_pos ⟨rfl, rfl⟩], by rw [e2, hi_si, if_pos ⟨rfl, rfl⟩]⟩, fun z => by omega⟩
  have A' : RA (mh_si (mh_si h 130 p (Int32.ofNat E.nu)) 131 p (Int32.ofNat E.ar)) s0 E D w0 := RA_put A rfl rfl rfl (fun _ _ _ => rfl) rfl (fun b j _ _ nb => i b j nb) (EV_same A.V (i _ _ (by omega)) (fun j _ => i _ _ (by omega)) (fun j _ => i _ _ (by omega))) ((i _ _ (by omega)).trans A.s) ((i _ _ (by omega)).trans A.n) ((i _ _ (by omega)).trans A.a) ((i _ _ (by omega)).trans A.f) ((i _ _ (by omega)).trans A.t) (i _ _ (by omega)) (i _ _ (by omega)) (i _ _ (by omega))
  refine ⟨mh_si (mh_si h 130 p (Int32.ofNat E.nu)) 131 p (Int32.ofNat E.ar), rq_t (sV_si (Or.inr (Or.inr (Or.inr (Or.inr (Or.inr (Or.inr (Or.inl rfl)))))))) (sV_si (Or.inr (Or.inr (Or.inr (Or.inr (Or.inr (Or.inr (Or.inr (Or.inl rfl))))))))), SA.of ⟨A', S.l, RK_fz (fz_si (W := fun b _ => 130 ≤ b ∧ b ≤ 131) ⟨by omega, by omega⟩) (fun y hy j w => by omega) (RK_fz (fz_si (W := fun b _ => 130 ≤ b ∧ b ≤ 131) ⟨by omega, by omega⟩) (fun y hy j w => by omega) S.k), (i _ _ (by omega)).trans S.a, S.sh, S.m, (i _ _ (by omega)).trans S.z⟩, ⟨row _ (by omega), row _ (by omega), row _ (by omega)⟩, cp, fun q w => ?_, fun Q => ?_⟩
  · by_cases c : q = p
    · rw [c]; exact cp
    · exact ⟨fun hq => ⟨by rw [hi_si, if_neg (by omega), hi_si, if_neg (by omega)]; exact (w.1 hq).1, by rw [hi_si, if_neg (by omega), hi_si, if_neg (by omega)]; exact (w.1 hq).2⟩, fun hq => ⟨(w.2 hq).1, by rw [hi_si, if_neg (by omega), hi_si, if_neg (by omega)]; exact (w.2 hq).2⟩⟩
  · have g := J.a.g
    have t36 := J.a.F.f 115 36 130 (by decide +kernel)
    have t37 := J.a.F.f 115 37 131 (by decide +kernel)
    have g130 := J.a.F.g 130 100 250 (by decide +kernel)
    have l130 := J.a.F.l 130 100 250 (by decide +kernel)
    have g131 := J.a.F.g 131 100 250 (by decide +kernel)
    have l131 := J.a.F.l 131 100 250 (by decide +kernel)
    have r0 := J.a.r0
    have gV := J.a.F.g 93 102 26000 (by decide +kernel)
    have gV1 := gV.1
    have gV2 := gV.2
    have lV := J.a.F.l 93 102 26000 (by decide +kernel)
    have a20 := A.n
    have a21 := A.a
    have a34 := S.z
    have e00 : ((0 : Int32) = 0) = True := by decide
    clear A J A' S i row cp
    simp (disch := omega) only [s_261_0, s_261_1, s_261_4, s_261_5, s_261_6, s_261_9, s_261_12, s_261_13, s_261_16, s_261_17, s_261_18, s_261_21, s_261_22, s_261_25, s_261_26, s_261_27, s_261_30, s_261_31, s_261_32, s_261_35, s_261_38, s_261_39, s_261_42, s_261_43, s_261_44, s_261_47, s_261_48, s_261_51, s_261_52, s_261_53, s_261_56, s_261_57, s_261_84, s_261_85, s_261_86, s_261_87, s_261_88, s_261_90, s_261_93, s_261_96, s_261_97, s_261_98, s_261_99, s_261_100, s_261_102, s_261_105, s_261_108, s_261_109, s_261_110, s_261_111, s_261_112, s_261_114, s_261_117, s_261_120, s_261_121, s_261_122, s_261_124, s_261_127, s_261_129, s_261_130, s_261_131, s_261_133, s_261_135, s_261_138, s_261_139, s_261_140, s_261_143, s_261_144, s_261_145, s_261_146, s_261_148, s_261_151, e_261, mv_i_1, mv_l_1, mv_a_1, mv_a_2, mv_a_3, mk2_n, mk2_i, mk2_l, mk2_a, mk2_u, mk2_x, mB_T, mB_F, mS_cons, mS_nil, mSB_T, mSB_F, mca_nil, mca_i, mca_l, mca_r, mca_u, mca_x, mcat_i, mcat_l, mcat_r, mcat_u, mcat_x, mK_some, mK_none, va_rf_s, va_rf_n, lgc_eq, lgc_lt, lgc_gt, lgc_ge, lgc_le, mrd_104, mrd_105, mrd_106, mrd_107, true_and, and_true, and_self, false_and, and_false, true_or, or_true, false_or, or_false, not_true_eq_false, not_false_eq_true, mgb, mga, mgr, mN, reduceCtorEq, ↓reduceIte, eq_self, ge_iff_le, gt_iff_lt, hk_si, hk_sj, hk_sr, hl_si, hl_sj, hl_sr, hn_si, hn_sj, hn_sr, hs_si, hs_sj, hs_sr, hi_sj, hi_sr, hj_si, hj_sr, hr_si, hr_sj, hi_si, hj_sj, hr_sr, mg_si, mg_sj, mg_sr, Nat.reduceAdd, Nat.reduceMul, Nat.reduceSub, Nat.reduceLT, Nat.reduceGT, Nat.reduceEqDiff, Nat.reduceLeDiff, Nat.left_eq_add, Nat.add_eq_left, Nat.reduceMod, Nat.reduceDiv, Nat.succ_ne_self, g, t36, t37, g130, l130, g131, l131, r0, gV1, gV2, lV, a20, a21, a34, e00, hkd, nn_mxT, nn_clamp]
theorem ts_7 {d : Nat} {Q : Option Value → mh_H → Prop} {h : mh_H} {x0 x1 x2 x3 x4 x5 : Option Value} : mw d 261 Q 58 [x0, x1, x2, x3, x4, x5] [.int 7] h = mw d 261 Q 108 [x0, x1, x2, x3, x4, x5] [] h := by rw [s_261_58]; simp only [mS_cons, mS_nil, mSB_T, mSB_F, eq_self]
theorem ts_8 {d : Nat} {Q : Option Value → mh_H → Prop} {h : mh_H} {x0 x1 x2 x3 x4 x5 : Option Value} : mw d 261 Q 58 [x0, x1, x2, x3, x4, x5] [.int 8] h = mw d 261 Q 84 [x0, x1, x2, x3, x4, x5] [] h := by rw [s_261_58]; simp only [mS_cons, mS_nil, mSB_T, mSB_F, eq_self, show ((8 : Int32) = 7) = False by decide]
theorem ts_9 {d : Nat} {Q : Option Value → mh_H → Prop} {h : mh_H} {x0 x1 x2 x3 x4 x5 : Option Value} : mw d 261 Q 58 [x0, x1, x2, x3, x4, x5] [.int 9] h = mw d 261 Q 96 [x0, x1, x2, x3, x4, x5] [] h := by rw [s_261_58]; simp only [mS_cons, mS_nil, mSB_T, mSB_F, eq_self, show ((9 : Int32) = 7) = False by decide, show ((9 : Int32) = 8) = False by decide]
theorem ts_x {d : Nat} {Q : Option Value → mh_H → Prop} {h : mh_H} {x0 x1 x2 x3 x4 x5 : Option Value} {v : Int32} (h7 : v ≠ 7) (h8 : v ≠ 8) (h9 : v ≠ 9) : mw d 261 Q 58 [x0, x1, x2, x3, x4, x5] [.int v] h = mw d 261 Q 120 [x0, x1, x2, x3, x4, x5] [] h := by rw [s_261_58]; simp only [mS_cons, mS_nil, mSB_T, mSB_F, h7, h8, h9]
theorem DS_x {rc : rc3} (h4 : G.kd p ≠ 4) (h5 : G.kd p ≠ 5) (h6 : G.kd p ≠ 6) : DS G rc p s w0 = ((fo G p s).1, wl p s (fo G p s).2.2 w0, G.sp p) := by
  unfold DS
  rw [if_neg h4, if_neg h5, if_neg h6]
/-- a simple one -/
theorem stm_s {rec : tr → Nat → Nat → nv → Prop} {rc : rc3} {n : Nat} {cs r : tr} (L : LN G J D rec n cs p E) (hk : ¬ tK n = 7 ∧ ¬ tK n = 8 ∧ ¬ tK n = 9) (hG : G.fx = fxJ J) (hen : J.en p = E.en) (hp : p < 250) (e1 : G.n p = E.nu) (e2 : G.a p = E.ar) (hw : wW w0 ≤ 4000) (S : SA h s0 o E D w0 s) (N : nd (mh_i h 93) (mh_i h 95) (mh_i h 97) k (.branch n cs r)) (hb : k + 1 + ts cs ≤ 26000) (hs : s0 + (DS G rc p s w0).2.2 ≤ 2048) (hd : 820 ≤ d) {nx' : Int32} : ∃ h', BFi G h h' s0 o E.T p (G.E p) (nx n cs E) D (DS G rc p s w0).2.1 (DS G rc p s w0).1 ∧ ∀ Q, mcall d 261 [.ref 115, .int (Int32.ofNat k), .int (Int32.ofNat p), .int nx', .ref o] h Q = Q none h' := by
  obtain ⟨d, rfl⟩ : ∃ d', d = d' + 2 := ⟨d - 2, by omega⟩
  have kd9 : G.kd p ≠ 4 ∧ G.kd p ≠ 5 ∧ G.kd p ≠ 6 ∧ G.E p = p + 1 ∧ tK n < 12 := by
    rcases L with ⟨z, m, u, t, -, q, q2, -⟩ | ⟨z, m, u, q0, u', r', -, q, q2, -⟩ | ⟨z, m, u, t, -, q, q2, -⟩ | ⟨z, m, u, t, -, q, q2, -⟩ | ⟨z, -⟩ | ⟨z, -⟩ | ⟨z, -⟩ | ⟨z, q, q2, -⟩ | ⟨z, q, q2, -⟩
    · omega
    · omega
    · omega
    · omega
    · exact absurd z hk.1
    · exact absurd z hk.2.1
    · exact absurd z hk.2.2
    · omega
    · omega
  obtain ⟨h4, h5, h6, hE, h12⟩ := kd9
  rw [DS_x h4 h5 h6] at hs ⊢
  have hs' : s0 + G.sp p ≤ 2048 := hs
  obtain ⟨h0, x0, S0, ⟨t1, t2, t3⟩, cp, c0, run0⟩ := stm_0 (d := d + 2) (nx := nx') S hp e1 e2 (by omega) N.1
  obtain ⟨h1, x1, A1, k1, i1, al1, c1, kp, run1⟩ := w_258 (d := d) (G := G) S0.A S0.l S0.k hp hw S0.z e2 S0.a
  have J0 := S0.A.j
  have so0 := lv_sp S0.l
  have lo0 := sp_lo J0 so0
  obtain ⟨t1', t2', t3'⟩ := sV_tr J0 lo0 x1
  have l1 := rq_lv x1 S0.l
  obtain ⟨h2, F, hsh, run2⟩ := sim_all (d := d + 1) L hk hG hen A1 l1 k1 S0.sh ((i1 2).trans S0.a) al1 (by rw [t1', t2', t3', t1, t2, t3]; exact N) hb hs' (by omega)
  have zz1 := (sV_z J0 lo0 x1).trans S0.z
  have zz2 := (sV_z A1.j lo0 F.x).trans zz1
  obtain ⟨h3, x3, A3, i3, j3, r3, k3, l3, n3, run3⟩ := w_259 (d := d + 1) (o := o) (T := E.T) F.A hp zz2 F.al
  have z3 : fz (fun b _ => b = 118) h2 h3 := ⟨Nat.le_of_eq n3.symm, fun b _ => ⟨by rw [k3], by rw [l3]⟩, fun b j _ nb => ⟨i3 b j nb, by rw [j3], by rw [r3]⟩⟩
  have call4 := w_260 (d := d + 1) (o := o) (x := Int32.ofNat p) (y := nx') A3 ((i3 _ _ (by omega)).trans zz2)
  refine ⟨h3, BFi.of ⟨rq_t x0 (rq_t x1 (rq_t F.x x3)), A3, RK_fz z3 (fun y hy j w => by omega) F.k, (i3 _ _ (by omega)).trans F.a, fun q w => ?_, fun _ q q1 q2 => ?_, hsh⟩, fun Q => ?_⟩
  · exact cn_i (F.c q (c1 q (c0 q w))) (fun b j hb => i3 _ _ (by omega))
  · have e : q = p := by omega
    rw [e]
    exact ⟨cn_i (F.c p (c1 p cp)) (fun b j hb => i3 _ _ (by omega)), cn_i (F.c _ kp) (fun b j hb => i3 _ _ (by omega))⟩
  · have ne : ∀ c : Nat, c < 12 → ¬ tK n = c → Int32.ofNat (tK n) ≠ Int32.ofNat c := fun c hc hn z => hn ((nn_eq (by omega) (by omega)).mp z)
    rw [run0, ts_x (ne 7 (by omega) hk.1) (ne 8 (by omega) hk.2.1) (ne 9 (by omega) hk.2.2)]
    have g0 := J0.a.g
    have g1 := A1.j.a.g
    have g2 := F.A.j.a.g
    have g3 := A3.j.a.g
    clear A1 A3 F S S0 J0 x0 x1 x3 hsh z3 c0 c1 i1 i3 N L
    simp (disch := omega) only [s_261_0, s_261_1, s_261_4, s_261_5, s_261_6, s_261_9, s_261_12, s_261_13, s_261_16, s_261_17, s_261_18, s_261_21, s_261_22, s_261_25, s_261_26, s_261_27, s_261_30, s_261_31, s_261_32, s_261_35, s_261_38, s_261_39, s_261_42, s_261_43, s_261_44, s_261_47, s_261_48, s_261_51, s_261_52, s_261_53, s_261_56, s_261_57, s_261_84, s_261_85, s_261_86, s_261_87, s_261_88, s_261_90, s_261_93, s_261_96, s_261_97, s_261_98, s_261_99, s_261_100, s_261_102, s_261_105, s_261_108, s_261_109, s_261_110, s_261_111, s_261_112, s_261_114, s_261_117, s_261_120, s_261_121, s_261_122, s_261_124, s_261_127, s_261_129, s_261_130, s_261_131, s_261_133, s_261_135, s_261_138, s_261_139, s_261_140, s_261_143, s_261_144, s_261_145, s_261_146, s_261_148, s_261_151, e_261, mv_i_1, mv_l_1, mv_a_1, mv_a_2, mv_a_3, mk2_n, mk2_i, mk2_l, mk2_a, mk2_u, mk2_x, mB_T, mB_F, mS_cons, mS_nil, mSB_T, mSB_F, mca_nil, mca_i, mca_l, mca_r, mca_u, mca_x, mcat_i, mcat_l, mcat_r, mcat_u, mcat_x, mK_some, mK_none, va_rf_s, va_rf_n, lgc_eq, lgc_lt, lgc_gt, lgc_ge, lgc_le, mrd_104, mrd_105, mrd_106, mrd_107, true_and, and_true, and_self, false_and, and_false, true_or, or_true, false_or, or_false, not_true_eq_false, not_false_eq_true, mgb, mga, mgr, mN, reduceCtorEq, ↓reduceIte, eq_self, ge_iff_le, gt_iff_lt, Nat.reduceAdd, Nat.reduceMul, Nat.reduceSub, Nat.reduceLT, Nat.reduceGT, Nat.reduceEqDiff, Nat.reduceLeDiff, Nat.left_eq_add, Nat.add_eq_left, Nat.reduceMod, Nat.reduceDiv, Nat.succ_ne_self, g0, g1, g2, g3, run1, run2, run3, call4]
end STs
