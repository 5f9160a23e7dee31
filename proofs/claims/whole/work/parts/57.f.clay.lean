set_option maxRecDepth 100000
/-! the class lays a statement -/
/-- a function, as the class knows it -/
def FCq (D : lyD) (K : Nat → Int32) (m : Nat) (Sc Sf : cps) (N g : Nat) : Prop := (∃ nt, D.H (6 * g) = Int32.ofNat nt ∧ (∀ i, i < (D.FP g).length → zTk (D.FP g) i = nt + 2 + 2 * i) ∧ (0 < (D.FP g).length → nt + 2 * (D.FP g).length < m)) ∧ (cnZl (D.FP g) = (D.FP g).length ∧ cnAl (D.FP g) = 0 ∧ (D.FP g).length < 50000) ∧ (D.H (6 * g + 1) = Int32.ofNat (D.FP g).length) ∧ (¬ D.H (6 * g + 2) = -1 → ∃ a, a < m ∧ D.H (6 * g + 2) = Int32.ofNat a) ∧ (D.H (6 * g + 3) = Int32.ofNat (D.S g) ∧ D.S g < 100000) ∧ (∃ se, D.H (6 * g + 4) = Int32.ofNat se ∧ se ≤ Sf.1 8 ∧ stR D.sp Sc g N true (D.FT g) (D.S g) se (D.FP g) (D.FP g).length ∧ wfR D Sf g N true (D.FT g) (D.S g) (D.FP g) (D.FP g).length) ∧ (ts (D.FT g) < 50000) ∧ (tvT K m (D.FT g) ∧ syT (D.FT g))
theorem FCq.of {D : lyD} {K : Nat → Int32} {m : Nat} {Sc Sf : cps} {N g : Nat} (q : (∃ nt, D.H (6 * g) = Int32.ofNat nt ∧ (∀ i, i < (D.FP g).length → zTk (D.FP g) i = nt + 2 + 2 * i) ∧ (0 < (D.FP g).length → nt + 2 * (D.FP g).length < m)) ∧ (cnZl (D.FP g) = (D.FP g).length ∧ cnAl (D.FP g) = 0 ∧ (D.FP g).length < 50000) ∧ (D.H (6 * g + 1) = Int32.ofNat (D.FP g).length) ∧ (¬ D.H (6 * g + 2) = -1 → ∃ a, a < m ∧ D.H (6 * g + 2) = Int32.ofNat a) ∧ (D.H (6 * g + 3) = Int32.ofNat (D.S g) ∧ D.S g < 100000) ∧ (∃ se, D.H (6 * g + 4) = Int32.ofNat se ∧ se ≤ Sf.1 8 ∧ stR D.sp Sc g N true (D.FT g) (D.S g) se (D.FP g) (D.FP g).length ∧ wfR D Sf g N true (D.FT g) (D.S g) (D.FP g) (D.FP g).length) ∧ (ts (D.FT g) < 50000) ∧ (tvT K m (D.FT g) ∧ syT (D.FT g))) : FCq D K m Sc Sf N g := q
theorem FCq.n {D : lyD} {K : Nat → Int32} {m : Nat} {Sc Sf : cps} {N g : Nat} (q : FCq D K m Sc Sf N g) : ∃ nt, D.H (6 * g) = Int32.ofNat nt ∧ (∀ i, i < (D.FP g).length → zTk (D.FP g) i = nt + 2 + 2 * i) ∧ (0 < (D.FP g).length → nt + 2 * (D.FP g).length < m) := q.1
theorem FCq.l {D : lyD} {K : Nat → Int32} {m : Nat} {Sc Sf : cps} {N g : Nat} (q : FCq D K m Sc Sf N g) : cnZl (D.FP g) = (D.FP g).length ∧ cnAl (D.FP g) = 0 ∧ (D.FP g).length < 50000 := q.2.1
theorem FCq.h1 {D : lyD} {K : Nat → Int32} {m : Nat} {Sc Sf : cps} {N g : Nat} (q : FCq D K m Sc Sf N g) : D.H (6 * g + 1) = Int32.ofNat (D.FP g).length := q.2.2.1
theorem FCq.h2 {D : lyD} {K : Nat → Int32} {m : Nat} {Sc Sf : cps} {N g : Nat} (q : FCq D K m Sc Sf N g) : ¬ D.H (6 * g + 2) = -1 → ∃ a, a < m ∧ D.H (6 * g + 2) = Int32.ofNat a := q.2.2.2.1
theorem FCq.h3 {D : lyD} {K : Nat → Int32} {m : Nat} {Sc Sf : cps} {N g : Nat} (q : FCq D K m Sc Sf N g) : D.H (6 * g + 3) = Int32.ofNat (D.S g) ∧ D.S g < 100000 := q.2.2.2.2.1
theorem FCq.h4 {D : lyD} {K : Nat → Int32} {m : Nat} {Sc Sf : cps} {N g : Nat} (q : FCq D K m Sc Sf N g) : ∃ se, D.H (6 * g + 4) = Int32.ofNat se ∧ se ≤ Sf.1 8 ∧ stR D.sp Sc g N true (D.FT g) (D.S g) se (D.FP g) (D.FP g).length ∧ wfR D Sf g N true (D.FT g) (D.S g) (D.FP g) (D.FP g).length := q.2.2.2.2.2.1
theorem FCq.t {D : lyD} {K : Nat → Int32} {m : Nat} {Sc Sf : cps} {N g : Nat} (q : FCq D K m Sc Sf N g) : ts (D.FT g) < 50000 := q.2.2.2.2.2.2.1
theorem FCq.v {D : lyD} {K : Nat → Int32} {m : Nat} {Sc Sf : cps} {N g : Nat} (q : FCq D K m Sc Sf N g) : tvT K m (D.FT g) ∧ syT (D.FT g) := q.2.2.2.2.2.2.2
section LPl
variable {d : Nat} {h h1 h2 : mh_H} {B n m : Nat} {D : lyD} {Sc Sf : cps} {k p s s1 b nn N' : Nat} {cs : tr} {X : lcx} {L : cen} {rl : Bool} {cl : Option Nat}
theorem owI_lt {c p : Nat} (e : owI cl = Int32.ofNat c) (hc : c < 250) (q : ∀ c, cl = some c → c < p) (hp : p ≤ 249) : c < p := by
  cases cl with
  | none =>
    exfalso
    have e' : (Int32.ofNat c = -1) = False := nn_m2 (by omega)
    exact e' ▸ e.symm
  | some c' =>
    have := q c' rfl
    have e2 := (nn_eq (a := c') (b := c) (by omega) (by omega)) ▸ e
    omega
theorem s_89n {St : Nat} {hA : mh_H} (g2 : mg hA 2 4) (run : ∀ Q, mcall (d + 1) 91 [.ref 2, .int (Int32.ofNat p)] hA Q = Q none h2) : ∀ Q, mw (d + 2) 89 Q 135 [some (.ref 2), some (.ref St), some (.int (Int32.ofNat p))] [] hA = mw (d + 2) 89 Q 140 [some (.ref 2), some (.ref St), some (.int (Int32.ofNat p))] [] h2 := by
  intro Q
  simp (disch := omega) only [s_89_0, s_89_1, s_89_4, s_89_5, s_89_6, s_89_7, s_89_10, s_89_11, s_89_14, s_89_17, s_89_18, s_89_19, s_89_20, s_89_23, s_89_24, s_89_25, s_89_25n, s_89_26, s_89_27, s_89_30, s_89_31, s_89_32, s_89_35, s_89_36, s_89_39, s_89_40, s_89_43, s_89_44, s_89_45, s_89_48, s_89_51, s_89_52, s_89_53, s_89_56, s_89_57, s_89_58, s_89_61, s_89_62, s_89_65, s_89_66, s_89_69, s_89_70, s_89_71, s_89_74, s_89_77, s_89_78, s_89_79, s_89_82, s_89_83, s_89_84, s_89_87, s_89_88, s_89_89, s_89_92, s_89_93, s_89_94, s_89_97, s_89_100, s_89_101, s_89_104, s_89_105, s_89_108, s_89_109, s_89_112, s_89_113, s_89_114, s_89_115, s_89_116, s_89_117, s_89_120, s_89_121, s_89_122, s_89_123, s_89_124, s_89_125, s_89_126, s_89_127, s_89_130, s_89_131, s_89_132, s_89_135, s_89_136, s_89_137, s_89_141, s_89_144, s_89_147, s_89_148, s_89_151, s_89_152, s_89_155, s_89_156, s_89_159, s_89_160, s_89_163, s_89_164, s_89_165, s_89_166, s_89_169, s_89_170, s_89_173, s_89_174, s_89_175, s_89_176, s_89_177, s_89_180, s_89_181, s_89_182, s_89_185, s_89_186, s_89_189, s_89_190, s_89_193, s_89_194, s_89_195, s_89_198, s_89_199, s_89_202, s_89_203, s_89_206, s_89_207, s_89_210, s_89_211, s_89_212, s_89_215, s_89_216, s_89_217, e_89, mv_i_1, mv_l_1, mv_a_1, mv_a_2, mv_a_3, mk2_n, mk2_i, mk2_l, mk2_a, mk2_u, mk2_x, mB_T, mB_F, mS_cons, mS_nil, mSB_T, mSB_F, mca_nil, mca_i, mca_l, mca_r, mca_u, mca_x, mcat_i, mcat_l, mcat_r, mcat_u, mcat_x, mK_some, mK_none, va_rf_s, va_rf_n, lgc_eq, lgc_lt, lgc_gt, lgc_ge, lgc_le, mrd_104, mrd_105, mrd_106, mrd_107, true_and, and_true, and_self, false_and, and_false, true_or, or_true, false_or, or_false, not_true_eq_false, not_false_eq_true, mgb, mga, mgr, mN, reduceCtorEq, ↓reduceIte, eq_self, ge_iff_le, gt_iff_lt, Nat.reduceAdd, Nat.reduceMul, Nat.reduceSub, Nat.reduceLT, Nat.reduceGT, Nat.reduceEqDiff, Nat.reduceLeDiff, Nat.left_eq_add, Nat.add_eq_left, Nat.reduceMod, Nat.reduceDiv, Nat.succ_ne_self, g2, run]
/-- its rows and names -/
theorem lay_p (C : CLC h B n m D Sf) (S : CSt h X cl k p) (hp : p < 249) (NM : NAM h D m p L X) (hs : s < Sf.1 8) (f90 : ∀ Q, mcall (d + 1) 90 [.ref 2, .ref (B + (24 + s))] h Q = Q none h) : ∃ h2, fLy h h2 ∧ kpC p k h h2 ∧ (mh_i h2 2 2 = Int32.ofNat (p + 1) ∧ mh_i h2 2 16 = mh_i h 2 16 ∧ mh_i h2 2 17 = mh_i h 2 17 ∧ mh_i h2 2 18 = 0) ∧ (∀ y j, 31 ≤ y → y ≤ 32 → mh_i h2 y j = mh_i h y j) ∧ CPo h2 B D s L X p ∧ mh_i h2 26 p = Int32.ofNat (p + 1) ∧ mh_i h2 23 p = owI cl ∧ ∀ Q, mcall (d + 2) 89 [.ref 2, .ref (B + (24 + s))] h Q = mw (d + 2) 89 Q 140 [some (.ref 2), some (.ref (B + (24 + s))), some (.int (Int32.ofNat p))] [] h2 := by
  obtain ⟨q1, gS, q3⟩ := C.q s hs
  obtain ⟨p1, p2⟩ := S.p
  obtain ⟨k1, k2⟩ := S.k
  obtain ⟨c1, c2⟩ := S.c
  have F := C.F
  have hB := C.B
  have top : (k = 0 ∧ owI X.ow = -1) ∨ (0 < k ∧ mh_i h 31 (k - 1) = owI X.ow) := by
    rcases S.o with ⟨o1, o2⟩ | ⟨o1, o, o2, o3, o4⟩
    · exact Or.inl ⟨o1, by rw [o2]; rfl⟩
    · exact Or.inr ⟨o1, by rw [o2]; exact o3⟩
  have hc : ∀ c, mh_i h 2 17 = Int32.ofNat c → c < 250 → c < p := fun c e hc => owI_lt (cl := cl) (c1 ▸ e) hc c2 p2
  have a0 := s_89a (d := d) C f90 S.w p1 (by omega) S.b hc gS k1 (by omega) top
  obtain ⟨v1, v2, v3, v4, v5, v6, v7⟩ := ls_v (h := h) (p := p) (St := B + (24 + s)) (b1 := Int32.ofNat X.nb) (a1 := Int32.ofNat X.na) (cal := mh_i h 2 17) (ow := owI X.ow)
  have vi : ∀ y j, ¬ (21 ≤ y ∧ y ≤ 26 ∧ j = p) → ¬ (y = 2 ∧ j = 2) → mh_i (lsH h p (B + (24 + s)) (Int32.ofNat X.nb) (Int32.ofNat X.na) (mh_i h 2 17) (owI X.ow)) y j = mh_i h y j := fun y j w w2 => ls_i w w2
  have vr : ∀ y j, mh_r (lsH h p (B + (24 + s)) (Int32.ofNat X.nb) (Int32.ofNat X.na) (mh_i h 2 17) (owI X.ow)) y j = if y = 20 ∧ j = p then some (B + (24 + s)) else mh_r h y j := fun y j => ls_r
  have vf : fLy h (lsH h p (B + (24 + s)) (Int32.ofNat X.nb) (Int32.ofNat X.na) (mh_i h 2 17) (owI X.ow)) := ls_f
  generalize lsH h p (B + (24 + s)) (Int32.ofNat X.nb) (Int32.ofNat X.na) (mh_i h 2 17) (owI X.ow) = hA at a0 v1 v2 v3 v4 v5 v6 v7 vi vr vf
  have kA : kpC p k h hA := ⟨fun r hr => by rw [vr, if_neg (by omega)], fun y r u1 u2 u3 => vi y r (by omega) (by omega), fun j _ => vi 30 j (by omega) (by omega), fun y j u1 u2 _ => vi y j (by omega) (by omega)⟩
  have CA := CLC_L vf C
  have g2A := CA.F.g 2 4 20 (by decide +kernel)
  obtain ⟨⟨nm1, nm2⟩, nm3⟩ := NM
  -- the names
  have nam : ∃ h2, fLy hA h2 ∧ mh_r h2 = mh_r hA ∧ (∀ b j, ¬ (b = 30 ∧ 18 * p ≤ j ∧ j < 18 * p + 18) → mh_i h2 b j = mh_i hA b j) ∧ (∀ x, x < X.nb + cnZl L → mh_i h2 30 (18 * p + x) = Int32.ofNat (D.P (X.nA L x))) ∧ (∀ x, x < X.na + cnAl L → mh_i h2 30 (18 * p + (12 + x)) = Int32.ofNat (D.P (X.aA L x))) ∧ ∀ Q, mcall (d + 1) 91 [.ref 2, .int (Int32.ofNat p)] hA Q = Q none h2 := by
    rcases nm3 with ⟨z1, z2, z3⟩ | ⟨z1, kd, sz, a, nn', an, nt, su, z2, z3, z4⟩
    · subst z1
      exact ⟨hA, fLy_id, rfl, fun _ _ _ => rfl, fun x hx => absurd hx (by omega), fun x hx => absurd hx (by omega), c_91z CA⟩
    · obtain ⟨q, rfl⟩ : ∃ q, p = q + 1 := ⟨p - 1, by omega⟩
      have zq := NMq_k F vf (kpD_of kA) (show q + 1 - 1 < q + 1 by omega) z2
      rw [Nat.add_sub_cancel] at zq z3 z4
      obtain ⟨h2, y1, y2, y3, y4, y5⟩ := c_91 (d := d) CA (by omega) zq
      refine ⟨h2, y1, y2, y3, fun x hx => ?_, fun x hx => ?_, y5⟩
      · rw [y4 x (by omega), NMv_k (kpD_of kA) (by omega) (by omega)]
        exact z3 x hx
      · rw [y4 (12 + x) (by omega), NMv_k (kpD_of kA) (by omega) (by omega)]
        exact z4 x hx
  obtain ⟨h2, y1, y2, y3, y4, y5, y6⟩ := nam
  have o2 : ∀ y j, y ≠ 30 → mh_i h2 y j = mh_i hA y j := fun y j hy => y3 y j (fun z => hy z.1)
  have kB : kpC p k hA h2 := ⟨fun r hr => by rw [y2], fun y r u1 u2 u3 => o2 y r (by omega), fun j hj => y3 30 j (by omega), fun y j u1 u2 _ => o2 y j (by omega)⟩
  have k2' := kpC_t kA kB (Nat.le_refl _) (Nat.le_refl _)
  have f2 := fLy_t vf y1
  refine ⟨h2, f2, k2', ⟨(o2 2 2 (by decide)).trans v6, (o2 2 16 (by decide)).trans (vi 2 16 (by omega) (by omega)), (o2 2 17 (by decide)).trans (vi 2 17 (by omega) (by omega)), (o2 2 18 (by decide)).trans ((vi 2 18 (by omega) (by omega)).trans S.w)⟩, fun y j u1 u2 => (o2 y j (by omega)).trans (vi y j (by omega) (by omega)), CPo.of ⟨by rw [y2, vr, if_pos ⟨rfl, rfl⟩], (o2 21 p (by decide)).trans v1, (o2 22 p (by decide)).trans v2, ⟨cl, (o2 23 p (by decide)).trans (v3.trans c1), c2, TKc_k F f2 (kpD_of k2') c2 S.t⟩, (o2 24 p (by decide)).trans v4, y4, y5, ⟨nm1, nm2⟩⟩, (o2 26 p (by decide)).trans v5, (o2 23 p (by decide)).trans (v3.trans c1), fun Q => ?_⟩
  rw [a0 Q]
  exact s_89n g2A y6 Q
theorem NMv_o {q kd sz a nn an nt su x : Nat} (h1 : kd ≠ 1) (h4 : kd ≠ 4) : NMv h D q kd sz a nn an nt su x = mh_i h 30 (18 * q + x) := by
  unfold NMv
  rw [if_neg h1, if_neg h4]
/-- names behind a statement that brings none -/
theorem NAM_o {kd : Nat} (C : CLC h B n m D Sf) (P : CPo h B D s L X p) (hs : s < Sf.1 8) (e0 : Sf.2 (24 + s) 0 = Int32.ofNat kd) (e3 : Sf.2 (24 + s) 3 = Int32.ofNat (cnZl L)) (e4 : Sf.2 (24 + s) 4 = Int32.ofNat (cnAl L)) (hk : kd < 100) (n1 : kd ≠ 1) (n4 : kd ≠ 4) : NAM h D m (p + 1) L X := by
  obtain ⟨q1, gS, q3⟩ := C.q s hs
  obtain ⟨b1, b2⟩ := P.b
  refine ⟨P.b, Or.inr ⟨by omega, kd, 0, 0, X.nb + cnZl L, X.na + cnAl L, 0, 0, NMq.of ⟨⟨B + (24 + s), X.nb, cnZl L, X.na, cnAl L, P.s, gS, (q3 0).trans e0, P.n, (q3 3).trans e3, rfl, P.a, (q3 4).trans e4, rfl, fun z => absurd z n1, fun z => absurd z n4⟩, ⟨hk, b1, b2⟩, fun z => absurd z n1, fun z => absurd z n4⟩, fun x hx => ?_, fun x hx => ?_⟩⟩
  · rw [NMv_o n1 n4, Nat.add_sub_cancel]
    exact P.z x hx
  · rw [NMv_o n1 n4, Nat.add_sub_cancel]
    exact P.y x hx
/-- names behind a var -/
theorem NAM_v {a z : Nat} (C : CLC h B n m D Sf) (P : CPo h B D s L X p) (hs : s < Sf.1 8) (e0 : Sf.2 (24 + s) 0 = Int32.ofNat 1) (e3 : Sf.2 (24 + s) 3 = Int32.ofNat (cnZl L)) (e4 : Sf.2 (24 + s) 4 = Int32.ofNat (cnAl L)) (e7 : Sf.2 (24 + s) 7 = Int32.ofNat a) (e9 : Sf.2 (24 + s) 9 = Int32.ofNat z) (ha : a < m) (hz : z < 100000) (v0 : z = 0 → X.nb + cnZl L < 12) (v1 : ¬ z = 0 → X.na + cnAl L < 6) : NAM h D m (p + 1) ((a, z) :: L) X := by
  obtain ⟨q1, gS, q3⟩ := C.q s hs
  obtain ⟨b1, b2⟩ := P.b
  have hb : X.nb + cnZl ((a, z) :: L) ≤ 12 ∧ X.na + cnAl ((a, z) :: L) ≤ 6 := by
    by_cases c : z = 0
    · have := v0 c
      subst c
      rw [cnZ_0, cnA_0]; omega
    · have := v1 c
      rw [cnZ_n c, cnA_n c]; omega
  have nv : ∀ x, NMv h D p 1 z a (X.nb + cnZl L) (X.na + cnAl L) 0 0 x = if x = (if z = 0 then X.nb + cnZl L else 12 + (X.na + cnAl L)) then Int32.ofNat (D.P a) else mh_i h 30 (18 * p + x) := fun x => if_pos rfl
  refine ⟨hb, Or.inr ⟨by omega, 1, z, a, X.nb + cnZl L, X.na + cnAl L, 0, 0, ?_, fun x hx => ?_, fun x hx => ?_⟩⟩
  · rw [Nat.add_sub_cancel]
    exact NMq.of ⟨⟨B + (24 + s), X.nb, cnZl L, X.na, cnAl L, P.s, gS, (q3 0).trans e0, P.n, (q3 3).trans e3, rfl, P.a, (q3 4).trans e4, rfl, fun _ => ⟨(q3 9).trans e9, (q3 7).trans e7⟩, fun z => absurd z (by decide)⟩, ⟨by decide, b1, b2⟩, fun _ => ⟨hz, ha, v0, v1⟩, fun z => absurd z (by decide)⟩
  · rw [Nat.add_sub_cancel, nv]
    by_cases c : z = 0
    · subst c
      rw [if_pos rfl]
      rw [cnZ_0] at hx
      by_cases cx : x = X.nb + cnZl L
      · rw [if_pos cx, cx, nA_n]
      · rw [if_neg cx, nA_o (by omega)]
        exact P.z x (by omega)
    · rw [if_neg c]
      rw [cnZ_n c] at hx
      rw [if_neg (by omega), nA_o hx]
      exact P.z x hx
  · rw [Nat.add_sub_cancel, nv]
    by_cases c : z = 0
    · subst c
      rw [if_pos rfl]
      rw [cnA_0] at hx
      have := v0 rfl
      rw [if_neg (by omega), aA_o hx]
      exact P.y x hx
    · rw [if_neg c]
      rw [cnA_n c] at hx
      by_cases cx : x = X.na + cnAl L
      · rw [if_pos (by omega), cx, aA_n c]
      · rw [if_neg (by omega), aA_o (by omega)]
        exact P.y x (by omega)
/-- names in a function -/
theorem NAM_c {g a' su N : Nat} (C : CLC h B n m D Sf) (P : CPo h B D s L X p) (hs : s < Sf.1 8) (e0 : Sf.2 (24 + s) 0 = Int32.ofNat 4) (e3 : Sf.2 (24 + s) 3 = Int32.ofNat (cnZl L)) (e4 : Sf.2 (24 + s) 4 = Int32.ofNat (cnAl L)) (e14 : Sf.2 (24 + s) 14 = Int32.ofNat g) (e11 : Sf.2 (24 + s) 11 = Int32.ofNat su) (hg : g < D.c) {K : Nat → Int32} (FC : FCq D K m Sc Sf N g) (hsu : su = (D.FP g).length) (h12 : X.nb + cnZl L + su ≤ 12) : NAM h D m (p + 1) (D.FP g) (lyC D X L p g a') := by
  obtain ⟨q1, gS, q3⟩ := C.q s hs
  obtain ⟨b1, b2⟩ := P.b
  obtain ⟨nt, f1, f2, f3⟩ := FC.n
  obtain ⟨l1, l2, l3⟩ := FC.l
  have x1 : (lyC D X L p g a').nb = X.nb + cnZl L := rfl
  have x2 : (lyC D X L p g a').na = X.na + cnAl L := rfl
  have nv : ∀ x, NMv h D p 4 0 0 (X.nb + cnZl L) (X.na + cnAl L) nt su x = if X.nb + cnZl L ≤ x ∧ x < X.nb + cnZl L + su then Int32.ofNat (D.P (nt + 2 + 2 * (x - (X.nb + cnZl L)))) else mh_i h 30 (18 * p + x) := fun x => by
    unfold NMv
    rw [if_neg (by decide), if_pos rfl]
  refine ⟨⟨by rw [x1, l1, ← hsu]; exact h12, by rw [x2, l2]; omega⟩, Or.inr ⟨by omega, 4, 0, 0, X.nb + cnZl L, X.na + cnAl L, nt, su, ?_, fun x hx => ?_, fun x hx => ?_⟩⟩
  · rw [Nat.add_sub_cancel]
    exact NMq.of ⟨⟨B + (24 + s), X.nb, cnZl L, X.na, cnAl L, P.s, gS, (q3 0).trans e0, P.n, (q3 3).trans e3, rfl, P.a, (q3 4).trans e4, rfl, fun z => absurd z (by decide), fun _ => ⟨(q3 11).trans e11, g, (q3 14).trans e14, hg, f1⟩⟩, ⟨by decide, b1, b2⟩, fun z => absurd z (by decide), fun _ => ⟨h12, fun z => by rw [hsu] at z ⊢; exact f3 z⟩⟩
  · rw [Nat.add_sub_cancel, nv]
    rw [x1, l1, ← hsu] at hx
    by_cases c : X.nb + cnZl L ≤ x
    · rw [if_pos ⟨c, hx⟩]
      have e : (lyC D X L p g a').nA (D.FP g) x = zTk (D.FP g) (x - (X.nb + cnZl L)) := if_neg (by rw [x1]; omega)
      rw [e, f2 _ (by omega)]
    · rw [if_neg (fun z => c z.1)]
      have e : (lyC D X L p g a').nA (D.FP g) x = X.nA L x := if_pos (by rw [x1]; omega)
      rw [e]
      exact P.z x (by omega)
  · rw [Nat.add_sub_cancel, nv]
    rw [x2, l2, Nat.add_zero] at hx
    rw [if_neg (by omega)]
    have e : (lyC D X L p g a').aA (D.FP g) x = X.aA L x := if_pos (by rw [x2]; exact hx)
    rw [e]
    exact P.y x hx
end LPl
