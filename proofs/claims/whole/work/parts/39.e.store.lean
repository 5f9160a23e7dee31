set_option maxRecDepth 100000
/-! Ranges.indexes, Effect.store -/
def a_end (x : Nat) (l g : Int) (A : ab) : ab := ab_mk A.n A.a A.m (fun y => if y = x then l else A.lo y) (fun y => if y = x then g else A.hi y) A.rm
/-- a[SUM] = SUM: what is known behind it, and the alarms -/
def a_put (en : Int → Nat) (A : ab) (x : Nat) (t1 t2 : tr) : Option ab × Int32 :=
  match (e_bi (ev en A t1 none) (e_cell A x)).1 with
  | none => (none, (e_bi (ev en A t1 none) (e_cell A x)).2)
  | some _ => (match (ev en A t2 none).1 with
    | none => none
    | some q => some (a_end x (if A.rm x = 1 then q.1 else min (A.lo x) q.1) (if A.rm x = 1 then q.2 else max (A.hi x) q.2) A), (e_bi (ev en A t1 none) (e_cell A x)).2 ||| (ev en A t2 none).2)
theorem i32_or_assoc (a b c : Int32) : (a ||| b) ||| c = a ||| (b ||| c) := Int32.or_assoc a b c
theorem T_end {A : ab} (T : ab_T A) {x : Nat} {l g : Int} (hl : -2147483648 ≤ l) (hlg : l ≤ g) (hg : g ≤ 2147483647) : ab_T (a_end x l g A) := by
  refine ⟨T.n12, T.a6, T.t, T.up, fun y hy => ?_⟩
  show -2147483648 ≤ (if y = x then l else A.lo y) ∧ (if y = x then l else A.lo y) ≤ (if y = x then g else A.hi y) ∧ (if y = x then g else A.hi y) ≤ 2147483647
  by_cases e : y = x
  · rw [if_pos e, if_pos e]; exact ⟨hl, hlg, hg⟩
  · rw [if_neg e, if_neg e]; exact T.e y hy
/-- what stands behind a put is in order, and as wide -/
theorem T_put {sN : Int → Prop} {en : Int → Nat} {A B : ab} {x : Nat} {t1 t2 : tr} (T : ab_T A) (hx : x < A.a) (w : wS sN en A t2 false) (e : (a_put en A x t1 t2).1 = some B) : ab_T B ∧ B.n = A.n ∧ B.a = A.a ∧ B.rm = A.rm := by
  unfold a_put at e
  cases h1 : (e_bi (ev en A t1 none) (e_cell A x)).1 with
  | none => rw [h1] at e; cases e
  | some q1 =>
    rw [h1] at e
    cases h2 : (ev en A t2 none).1 with
    | none => rw [h2] at e; cases e
    | some q =>
      rw [h2] at e
      obtain ⟨⟨u1, u2⟩, ⟨v1, v2⟩, u3⟩ := (ev_in (sN := sN) T t2).1 w q.1 q.2 (by rw [h2])
      have hA := T.e x hx
      have e' : a_end x (if A.rm x = 1 then q.1 else min (A.lo x) q.1) (if A.rm x = 1 then q.2 else max (A.hi x) q.2) A = B := by injection e
      rw [← e']
      refine ⟨T_end T ?_ ?_ ?_, rfl, rfl, rfl⟩
      · split <;> omega
      · split <;> omega
      · split <;> omega
section IXs
variable {d : Nat} {h : mh_H} {P R lP X Y C E TT UU SC SP nC nE nS nb na H : Nat} {sN : Int → Prop} {en : Int → Nat} {A B : ab} {t1 t2 : tr} {s1 s2 c1 c2 p1 p2 : Nat}
theorem v_104 (G : RG h P R lP X Y C E TT UU SC SP nC nE nS nb na A) {z : Nat} (hz : z ≤ 64) {a b : Int} (ha : (mh_j h 36 0).toInt = a) (hb : (mh_j h 37 0).toInt = b) : ∃ h', fG (rgW P R) h h' ∧ mh_i h' 35 4 = mh_i h 35 4 ||| (if a < 0 ∨ (z : Int) ≤ b then 4 else 0) ∧ ∀ Q, mcall (d + 1) 104 [.ref 35, .int (Int32.ofNat z)] h Q = Q (some (.int (kb (decide (0 ≤ b ∧ a < z))))) h' := by
  have re := G.re
  have nP := G.p.n P (by simp)
  have nR := G.p.n R (by simp)
  have dd := G.p.d
  have idn : rS h 35 36 37 38 P R (mh_i h 35 4) (mh_i h 35 8) (mh_j h 36) (mh_j h 37) (mh_i h 38) (mh_j h P) (mh_j h R) = h := rS_id (by omega) (by omega) (by omega) (by omega) (by omega) (fun z => dd z.symm)
  have c := fun Q => c_103 (d := d) (al := mh_i h 35 4) (H := 0) (lw := mh_j h 36) (hg := mh_j h 37) (nm := mh_i h 38) (pl := mh_j h P) (ph := mh_j h R) (Q := Q) (z := Int32.ofNat z) re.1 (by omega)
  have z64 : ((Int32.ofNat z).toInt64).toInt = z := i2l_n hz
  have z0 : (0 : Int64).toInt = 0 := by decide
  have q1 : (mh_j h 36 0 < 0) = (a < 0) := by rw [Int64.lt_iff_toInt_lt, ha, z0]
  have q2 : (mh_j h 37 0 < (Int32.ofNat z).toInt64) = (b < z) := by rw [Int64.lt_iff_toInt_lt, hb, z64]
  have q3 : (mh_j h 37 0 < 0) = (b < 0) := by rw [Int64.lt_iff_toInt_lt, hb, z0]
  have q4 : (mh_j h 36 0 < (Int32.ofNat z).toInt64) = (a < z) := by rw [Int64.lt_iff_toInt_lt, ha, z64]
  refine ⟨_, fG_rS (al := mh_i h 35 4 ||| (if a < 0 ∨ (z : Int) ≤ b then 4 else 0)) (H := Int32.ofNat 0) (lw := mh_j h 36) (hg := mh_j h 37) (nm := mh_i h 38) (pl := mh_j h P) (ph := mh_j h R), ?_, fun Q => ?_⟩
  · rw [rS_i, if_pos ⟨rfl, rfl⟩]
  · have e1 : (decide (¬ mh_j h 37 0 < 0 ∧ mh_j h 36 0 < (Int32.ofNat z).toInt64)) = decide (0 ≤ b ∧ a < z) := by
      apply decide_eq_decide.mpr
      rw [q3, q4]; omega
    have e2 : (if mh_j h 36 0 < 0 ∨ ¬ mh_j h 37 0 < (Int32.ofNat z).toInt64 then (4 : Int32) else 0) = (if a < 0 ∨ (z : Int) ≤ b then 4 else 0) := by
      by_cases w : a < 0 ∨ (z : Int) ≤ b
      · rw [if_pos w, if_pos (by rw [q1, q2]; omega)]
      · rw [if_neg w, if_neg (by rw [q1, q2]; omega)]
    rw [e1, e2] at c
    have g := G.g
    have i0 : (0 : Int32) = Int32.ofNat 0 := rfl
    have e8 : mh_si h 35 8 0 = rS h 35 36 37 38 P R (mh_i h 35 4) (Int32.ofNat 0) (mh_j h 36) (mh_j h 37) (mh_i h 38) (mh_j h P) (mh_j h R) := by
      have := rS_8 (h := h) (o := 35) (L := 36) (G := 37) (D := 38) (P := P) (R := R) (al := mh_i h 35 4) (H := mh_i h 35 8) (lw := mh_j h 36) (hg := mh_j h 37) (nm := mh_i h 38) (pl := mh_j h P) (ph := mh_j h R) (x := 0)
      rw [idn] at this
      exact this
    have k01 : ∀ x : Bool, (kb x = 0 ∨ kb x = 1) = True := fun x => by cases x <;> decide
    clear re idn G
    simp (disch := omega) only [s_104_0, s_104_1, s_104_2, s_104_5, s_104_6, s_104_7, s_104_10, e_104, mv_i_1, mv_l_1, mv_a_1, mv_a_2, mv_a_3, mk2_n, mk2_i, mk2_l, mk2_a, mk2_u, mk2_x, mB_T, mB_F, mS_cons, mS_nil, mSB_T, mSB_F, mca_nil, mca_i, mca_l, mca_r, mca_u, mca_x, mcat_i, mcat_l, mcat_r, mcat_u, mcat_x, mK_some, mK_none, va_rf_s, va_rf_n, lgc_eq, lgc_lt, lgc_gt, lgc_ge, lgc_le, mrd_104, mrd_105, mrd_106, mrd_107, true_and, and_true, and_self, false_and, and_false, true_or, or_true, false_or, or_false, not_true_eq_false, not_false_eq_true, mgb, mga, mgr, mN, reduceCtorEq, ↓reduceIte, eq_self, ge_iff_le, gt_iff_lt, hk_si, hk_sj, hk_sr, hl_si, hl_sj, hl_sr, hn_si, hn_sj, hn_sr, hs_si, hs_sj, hs_sr, hi_sj, hi_sr, hj_si, hj_sr, hr_si, hr_sj, hi_si, hj_sj, hr_sr, mg_si, mg_sj, mg_sr, Nat.reduceAdd, Nat.reduceMul, Nat.reduceSub, Nat.reduceLT, Nat.reduceGT, Nat.reduceEqDiff, Nat.reduceLeDiff, Nat.left_eq_add, Nat.add_eq_left, Nat.reduceMod, Nat.reduceDiv, Nat.succ_ne_self, g, e8, c, rS_g, k01]
theorem st_rg (S : ES h P R lP X Y C E TT UU SC SP nC nE nS nb na H A) {St : Nat} (gS : mg h St 9) : ∀ j, ¬ rgW P R St j := fun j w => by
  have a1 := (S.G.F.g 35 5 19 (by decide +kernel)).1
  have a2 := (S.G.F.g 36 101 124 (by decide +kernel)).1
  have a3 := (S.G.F.g 37 101 124 (by decide +kernel)).1
  have a4 := (S.G.F.g 38 100 124 (by decide +kernel)).1
  have a5 := S.G.p.g9.1
  have a7 := S.G.p.g10.1
  have a6 := gS.1
  unfold rgW at w
  rcases w with ⟨e, -⟩ | e | e | e | e | e <;> (rw [e] at a6; omega)
theorem st_34 (S : ES h P R lP X Y C E TT UU SC SP nC nE nS nb na H A) : ¬ H = 34 ∧ ¬ H = 35 := by
  have aH := (cs_so S.G.S S.c).2
  unfold cAd at aH
  omega
/-- the place -/
theorem st_1 (S : ES h P R lP X Y C E TT UU SC SP nC nE nS nb na H A) (U1 : SU h C E TT UU SC SP nC nE nS lP nb na sN en A t1 false s1 c1 p1) (k : RS h H (some A)) {St x sz : Nat} (gS : mg h St 9) (hsz : A.rm x = sz) (z1 : 1 ≤ sz) (z2 : sz ≤ 64) (v10 : mh_i h St 10 = Int32.ofNat s1) (v9 : mh_i h St 9 = Int32.ofNat sz) {v2 : Int32} : ∃ h', fG (stW H P R) h h' ∧ mh_i h' 35 4 = mh_i h 35 4 ||| (e_bi (ev en A t1 none) (e_cell A x)).2 ∧ RS h' H (some A) ∧ (((e_bi (ev en A t1 none) (e_cell A x)).1 ≠ none ∧ ∀ Q, mw (d + 4) 15 Q 0 [some (.ref 34), some (.ref St), some (.int v2), none, none, none, none, none, none] [] h = mw (d + 4) 15 Q 34 [some (.ref 34), some (.ref St), some (.int v2), some (.int 1), none, none, none, none, none] [] h') ∨ ((e_bi (ev en A t1 none) (e_cell A x)).1 = none ∧ ∀ Q, mw (d + 4) 15 Q 0 [some (.ref 34), some (.ref St), some (.int v2), none, none, none, none, none, none] [] h = mw (d + 4) 15 Q 34 [some (.ref 34), some (.ref St), some (.int v2), some (.int 0), none, none, none, none, none] [] h')) := by
  have T := S.G.T
  have g34 := S.G.F.g 34 1 9 (by decide +kernel)
  have q1 := S.G.F.f 34 1 35 (by decide +kernel)
  have g35 := S.G.F.g 35 5 19 (by decide +kernel)
  have nSt := st_rg S gS
  have k10 : ((1 : Int32) = 0) = False := by decide
  have k00 : ((0 : Int32) = 0) = True := by decide
  obtain ⟨h1, f1, al1, c1'⟩ := v_99 (d := d) S.G U1
  have f1' : fG (stW H P R) h h1 := fG_w f1 (fun b j w => Or.inl w)
  have S1 := ES_fG S f1'
  have k1 : RS h1 H (some A) := RS_fz (fG_z f1) (fun y hy j => (S.hh y hy j).1) k
  have er1 := fG_r f1
  have g1 := S1.G.F.g 34 1 9 (by decide +kernel)
  have g351 := S1.G.F.g 35 5 19 (by decide +kernel)
  have gS1 := fG_mg f1 gS
  have v9' : mh_i h1 St 9 = Int32.ofNat sz := by rw [fG_i f1 (nSt 9)]; exact v9
  rcases c1' with ⟨a, b, ev1, ja, jb, -, -, e1⟩ | ⟨ev1, e1⟩
  · obtain ⟨⟨u1, u2⟩, ⟨w1, w2⟩, u3⟩ := (ev_in (sN := sN) T t1).1 U1.w a b ev1
    obtain ⟨h2, f2, al2, e2⟩ := v_104 (d := d + 2) (z := sz) S1.G z2 ja jb
    have f2' : fG (stW H P R) h1 h2 := fG_w f2 (fun b j w => Or.inl w)
    have k2 : RS h2 H (some A) := RS_fz (fG_z f2) (fun y hy j => (S.hh y hy j).1) k1
    have ce1 : (e_bi (ev en A t1 none) (e_cell A x)).2 = (ev en A t1 none).2 ||| (if a < 0 ∨ (sz : Int) ≤ b then 4 else 0) := by
      unfold e_bi
      rw [ev1]
      show (ev en A t1 none).2 ||| (if a < 0 ∨ (A.rm x : Int) ≤ b then 4 else 0) = _
      rw [hsz]
    have ce0 : (e_bi (ev en A t1 none) (e_cell A x)).1 = if max a 0 ≤ min b ((sz : Int) - 1) then some (A.lo x, A.hi x) else none := by
      unfold e_bi
      rw [ev1]
      show (if max a 0 ≤ min b ((A.rm x : Int) - 1) then some (A.lo x, A.hi x) else none) = _
      rw [hsz]
    refine ⟨h2, fG_t f1' f2', by rw [al2, al1, ce1, i32_or_assoc], k2, ?_⟩
    by_cases c : 0 ≤ b ∧ a < sz
    · have dc : kb (decide (0 ≤ b ∧ a < sz)) = 1 := by rw [decide_eq_true c]; rfl
      rw [dc] at e2
      rw [if_pos (by omega)] at ce0
      refine Or.inl ⟨(by rw [ce0]; exact fun z => (by cases z)), fun Q => ?_⟩
      clear S S1 k k1 k2 U1 f1 f2 f1' f2' T nSt
      simp (disch := omega) only [s_15_0, s_15_1, s_15_4, s_15_5, s_15_8, s_15_11, s_15_14, s_15_15, s_15_18, s_15_19, s_15_22, s_15_25, s_15_28, s_15_29, s_15_32, s_15_33, s_15_35, s_15_38, s_15_39, s_15_42, s_15_43, s_15_46, s_15_47, s_15_48, s_15_51, s_15_54, s_15_55, s_15_58, s_15_59, s_15_62, s_15_63, s_15_64, s_15_67, s_15_70, s_15_71, s_15_72, s_15_74, s_15_75, s_15_78, s_15_81, s_15_82, s_15_83, s_15_85, s_15_86, s_15_89, s_15_90, s_15_93, s_15_94, s_15_97, s_15_98, s_15_100, s_15_101, s_15_104, s_15_107, s_15_108, s_15_109, s_15_110, s_15_112, s_15_115, s_15_117, s_15_120, s_15_121, s_15_124, s_15_127, s_15_128, s_15_129, s_15_130, s_15_131, s_15_133, s_15_136, s_15_137, s_15_138, s_15_141, s_15_144, s_15_145, s_15_146, s_15_147, s_15_148, s_15_149, s_15_151, s_15_154, s_15_156, s_15_159, s_15_160, s_15_163, s_15_166, s_15_167, s_15_168, s_15_169, s_15_170, s_15_171, s_15_172, s_15_174, s_15_177, s_15_178, e_15, mv_i_1, mv_l_1, mv_a_1, mv_a_2, mv_a_3, mk2_n, mk2_i, mk2_l, mk2_a, mk2_u, mk2_x, mB_T, mB_F, mS_cons, mS_nil, mSB_T, mSB_F, mca_nil, mca_i, mca_l, mca_r, mca_u, mca_x, mcat_i, mcat_l, mcat_r, mcat_u, mcat_x, mK_some, mK_none, va_rf_s, va_rf_n, lgc_eq, lgc_lt, lgc_gt, lgc_ge, lgc_le, mrd_104, mrd_105, mrd_106, mrd_107, true_and, and_true, and_self, false_and, and_false, true_or, or_true, false_or, or_false, not_true_eq_false, not_false_eq_true, mgb, mga, mgr, mN, reduceCtorEq, ↓reduceIte, eq_self, ge_iff_le, gt_iff_lt, hk_si, hk_sj, hk_sr, hl_si, hl_sj, hl_sr, hn_si, hn_sj, hn_sr, hs_si, hs_sj, hs_sr, hi_sj, hi_sr, hj_si, hj_sr, hr_si, hr_sj, hi_si, hj_sj, hr_sr, mg_si, mg_sj, mg_sr, Nat.reduceAdd, Nat.reduceMul, Nat.reduceSub, Nat.reduceLT, Nat.reduceGT, Nat.reduceEqDiff, Nat.reduceLeDiff, Nat.left_eq_add, Nat.add_eq_left, Nat.reduceMod, Nat.reduceDiv, Nat.succ_ne_self, g34, q1, g35, gS, v10, e1, er1, g1, g351, gS1, v9', e2, k10, k00]
    · have dc : kb (decide (0 ≤ b ∧ a < sz)) = 0 := by rw [decide_eq_false c]; rfl
      rw [dc] at e2
      rw [if_neg (by omega)] at ce0
      refine Or.inr ⟨ce0, fun Q => ?_⟩
      clear S S1 k k1 k2 U1 f1 f2 f1' f2' T nSt
      simp (disch := omega) only [s_15_0, s_15_1, s_15_4, s_15_5, s_15_8, s_15_11, s_15_14, s_15_15, s_15_18, s_15_19, s_15_22, s_15_25, s_15_28, s_15_29, s_15_32, s_15_33, s_15_35, s_15_38, s_15_39, s_15_42, s_15_43, s_15_46, s_15_47, s_15_48, s_15_51, s_15_54, s_15_55, s_15_58, s_15_59, s_15_62, s_15_63, s_15_64, s_15_67, s_15_70, s_15_71, s_15_72, s_15_74, s_15_75, s_15_78, s_15_81, s_15_82, s_15_83, s_15_85, s_15_86, s_15_89, s_15_90, s_15_93, s_15_94, s_15_97, s_15_98, s_15_100, s_15_101, s_15_104, s_15_107, s_15_108, s_15_109, s_15_110, s_15_112, s_15_115, s_15_117, s_15_120, s_15_121, s_15_124, s_15_127, s_15_128, s_15_129, s_15_130, s_15_131, s_15_133, s_15_136, s_15_137, s_15_138, s_15_141, s_15_144, s_15_145, s_15_146, s_15_147, s_15_148, s_15_149, s_15_151, s_15_154, s_15_156, s_15_159, s_15_160, s_15_163, s_15_166, s_15_167, s_15_168, s_15_169, s_15_170, s_15_171, s_15_172, s_15_174, s_15_177, s_15_178, e_15, mv_i_1, mv_l_1, mv_a_1, mv_a_2, mv_a_3, mk2_n, mk2_i, mk2_l, mk2_a, mk2_u, mk2_x, mB_T, mB_F, mS_cons, mS_nil, mSB_T, mSB_F, mca_nil, mca_i, mca_l, mca_r, mca_u, mca_x, mcat_i, mcat_l, mcat_r, mcat_u, mcat_x, mK_some, mK_none, va_rf_s, va_rf_n, lgc_eq, lgc_lt, lgc_gt, lgc_ge, lgc_le, mrd_104, mrd_105, mrd_106, mrd_107, true_and, and_true, and_self, false_and, and_false, true_or, or_true, false_or, or_false, not_true_eq_false, not_false_eq_true, mgb, mga, mgr, mN, reduceCtorEq, ↓reduceIte, eq_self, ge_iff_le, gt_iff_lt, hk_si, hk_sj, hk_sr, hl_si, hl_sj, hl_sr, hn_si, hn_sj, hn_sr, hs_si, hs_sj, hs_sr, hi_sj, hi_sr, hj_si, hj_sr, hr_si, hr_sj, hi_si, hj_sj, hr_sr, mg_si, mg_sj, mg_sr, Nat.reduceAdd, Nat.reduceMul, Nat.reduceSub, Nat.reduceLT, Nat.reduceGT, Nat.reduceEqDiff, Nat.reduceLeDiff, Nat.left_eq_add, Nat.add_eq_left, Nat.reduceMod, Nat.reduceDiv, Nat.succ_ne_self, g34, q1, g35, gS, v10, e1, er1, g1, g351, gS1, v9', e2, k10, k00]
  · have ce : e_bi (ev en A t1 none) (e_cell A x) = (none, (ev en A t1 none).2) := by unfold e_bi; rw [ev1]
    rw [ce]
    refine ⟨h1, f1', al1, k1, Or.inr ⟨rfl, fun Q => ?_⟩⟩
    clear S S1 k k1 U1 f1 f1' T nSt
    simp (disch := omega) only [s_15_0, s_15_1, s_15_4, s_15_5, s_15_8, s_15_11, s_15_14, s_15_15, s_15_18, s_15_19, s_15_22, s_15_25, s_15_28, s_15_29, s_15_32, s_15_33, s_15_35, s_15_38, s_15_39, s_15_42, s_15_43, s_15_46, s_15_47, s_15_48, s_15_51, s_15_54, s_15_55, s_15_58, s_15_59, s_15_62, s_15_63, s_15_64, s_15_67, s_15_70, s_15_71, s_15_72, s_15_74, s_15_75, s_15_78, s_15_81, s_15_82, s_15_83, s_15_85, s_15_86, s_15_89, s_15_90, s_15_93, s_15_94, s_15_97, s_15_98, s_15_100, s_15_101, s_15_104, s_15_107, s_15_108, s_15_109, s_15_110, s_15_112, s_15_115, s_15_117, s_15_120, s_15_121, s_15_124, s_15_127, s_15_128, s_15_129, s_15_130, s_15_131, s_15_133, s_15_136, s_15_137, s_15_138, s_15_141, s_15_144, s_15_145, s_15_146, s_15_147, s_15_148, s_15_149, s_15_151, s_15_154, s_15_156, s_15_159, s_15_160, s_15_163, s_15_166, s_15_167, s_15_168, s_15_169, s_15_170, s_15_171, s_15_172, s_15_174, s_15_177, s_15_178, e_15, mv_i_1, mv_l_1, mv_a_1, mv_a_2, mv_a_3, mk2_n, mk2_i, mk2_l, mk2_a, mk2_u, mk2_x, mB_T, mB_F, mS_cons, mS_nil, mSB_T, mSB_F, mca_nil, mca_i, mca_l, mca_r, mca_u, mca_x, mcat_i, mcat_l, mcat_r, mcat_u, mcat_x, mK_some, mK_none, va_rf_s, va_rf_n, lgc_eq, lgc_lt, lgc_gt, lgc_ge, lgc_le, mrd_104, mrd_105, mrd_106, mrd_107, true_and, and_true, and_self, false_and, and_false, true_or, or_true, false_or, or_false, not_true_eq_false, not_false_eq_true, mgb, mga, mgr, mN, reduceCtorEq, ↓reduceIte, eq_self, ge_iff_le, gt_iff_lt, hk_si, hk_sj, hk_sr, hl_si, hl_sj, hl_sr, hn_si, hn_sj, hn_sr, hs_si, hs_sj, hs_sr, hi_sj, hi_sr, hj_si, hj_sr, hr_si, hr_sj, hi_si, hj_sj, hr_sr, mg_si, mg_sj, mg_sr, Nat.reduceAdd, Nat.reduceMul, Nat.reduceSub, Nat.reduceLT, Nat.reduceGT, Nat.reduceEqDiff, Nat.reduceLeDiff, Nat.left_eq_add, Nat.add_eq_left, Nat.reduceMod, Nat.reduceDiv, Nat.succ_ne_self, g34, q1, g35, gS, v10, e1, k10, k00]
/-- there is none -/
theorem st_no0 (S : ES h P R lP X Y C E TT UU SC SP nC nE nS nb na H A) (r2 : mh_r h 34 2 = some H) (k : RS h H (some A)) : RS (mh_si h H 0 1) H none ∧ fG (stW H P R) h (mh_si h H 0 1) ∧ mh_i (mh_si h H 0 1) 35 4 = mh_i h 35 4 := by
  have n := st_34 S
  obtain ⟨n1, n2⟩ := RN_on k
  exact ⟨⟨n1, n2⟩, fG_si (Or.inr (Or.inr (Or.inl rfl))), by rw [hi_si, if_neg (by omega)]⟩
theorem st_2 (S : ES h P R lP X Y C E TT UU SC SP nC nE nS nb na H A) (U2 : SU h C E TT UU SC SP nC nE nS lP nb na sN en A t2 false (s1 + 1) c2 p2) (r2 : mh_r h 34 2 = some H) (k : RS h H (some A)) {St x sz : Nat} (gS : mg h St 9) (hx : x < A.a) (hsz : A.rm x = sz) (z2 : sz ≤ 64) (v10 : mh_i h St 10 = Int32.ofNat s1) (v9 : mh_i h St 9 = Int32.ofNat sz) : ∃ h', fG (stW H P R) h h' ∧ mh_i h' 35 4 = mh_i h 35 4 ||| (ev en A t2 none).2 ∧ RS h' H (match (ev en A t2 none).1 with
    | none => none
    | some q => some (a_end x (if A.rm x = 1 then q.1 else min (A.lo x) q.1) (if A.rm x = 1 then q.2 else max (A.hi x) q.2) A)) ∧ ∀ Q, mw (d + 4) 15 Q 34 [some (.ref 34), some (.ref St), some (.int (Int32.ofNat x)), some (.int 1), none, none, none, none, none] [] h = Q none h' := by
  have a6 := S.G.T.a6
  have g2 := S.G.F.g 34 1 9 (by decide +kernel)
  have g35' := S.G.F.g 35 5 19 (by decide +kernel)
  have q1 := S.G.F.f 34 1 35 (by decide +kernel)
  have nSt := st_rg S gS
  have k10 : ((1 : Int32) = 0) = False := by decide
  have k00 : ((0 : Int32) = 0) = True := by decide
  have ei : ∀ k, Int32.ofNat k + 1 = Int32.ofNat (k + 1) := fun k => nn_add (a := k) (b := 1)
  have et : ∀ k, (2 : Int32) * Int32.ofNat k = Int32.ofNat (2 * k) := fun k => nn_mul (a := 2) (b := k)
  obtain ⟨h3, f3, al3, c3'⟩ := v_99 (d := d) S.G U2
  have f3' : fG (stW H P R) h h3 := fG_w f3 (fun b j w => Or.inl w)
  have S3 := ES_fG S f3'
  have k3 : RS h3 H (some A) := RS_fz (fG_z f3) (fun y hy j => (S.hh y hy j).1) k
  have er3 := fG_r f3
  have g3 := S3.G.F.g 34 1 9 (by decide +kernel)
  have gH3 := (RS_so k3).1
  have gS3 := fG_mg f3 gS
  have r2' : mh_r h3 34 2 = some H := by rw [er3]; exact r2
  rcases c3' with ⟨l, gr, ev2, jl, jg, -, -, e3⟩ | ⟨ev2, e3⟩
  · rw [ev2]
    have v9''' : mh_i h3 St 9 = Int32.ofNat sz := by rw [fG_i f3 (nSt 9)]; exact v9
    have so3 := (RS_so k3)
    have l3 := so3.2.2.2.2.2.2
    have r34' := so3.2.2.2.2.1
    have gH32 := so3.2.2.2.2.2.1
    have F36 := S3.G.F.g 36 101 124 (by decide +kernel)
    have F37 := S3.G.F.g 37 101 124 (by decide +kernel)
    have l36 := S3.G.F.l 36 101 124 (by decide +kernel)
    have l37 := S3.G.F.l 37 101 124 (by decide +kernel)
    have t5 := S3.G.F.f 35 5 36 (by decide +kernel)
    have t6 := S3.G.F.f 35 6 37 (by decide +kernel)
    have g35 := S3.G.F.g 35 5 19 (by decide +kernel)
    have t1' := S3.G.F.f 34 1 35 (by decide +kernel)
    have mx0 : mx (0 : Int32) 124 = True := eq_true ⟨by decide, by decide⟩
    have cl0 : (0 : Int32).toNatClampNeg = 0 := by decide
    have e0 := (k3.1.e x hx).1
    have e1x := (k3.1.e x hx).2
    -- the heap behind: two ends
    have fin : ∀ u v : Int64, u.toInt = (if A.rm x = 1 then l else min (A.lo x) l) → v.toInt = (if A.rm x = 1 then gr else max (A.hi x) gr) → fG (stW H P R) h (mh_sj (mh_sj h3 (H + 2) (2 * x) u) (H + 2) (2 * x + 1) v) ∧ mh_i (mh_sj (mh_sj h3 (H + 2) (2 * x) u) (H + 2) (2 * x + 1) v) 35 4 = mh_i h 35 4 ||| (ev en A t2 none).2 ∧ RS (mh_sj (mh_sj h3 (H + 2) (2 * x) u) (H + 2) (2 * x + 1) v) H (some (a_end x (if A.rm x = 1 then l else min (A.lo x) l) (if A.rm x = 1 then gr else max (A.hi x) gr) A)) := fun u v hu hv => by
      have fz' : fG (fun b _ => sW H 52 b) h3 (mh_sj (mh_sj h3 (H + 2) (2 * x) u) (H + 2) (2 * x + 1) v) := fG_t (fG_sj (Or.inr (Or.inr (Or.inl rfl)))) (fG_sj (Or.inr (Or.inr (Or.inl rfl))))
      refine ⟨fG_t f3' (fG_w fz' (fun b j w => Or.inr (Or.inr w))), by rw [hi_sj, hi_sj]; exact al3, ⟨⟨so_fG fz' so3, k3.1.z, k3.1.n, k3.1.n12, k3.1.a, k3.1.a6, fun i j hi hj => ?_, fun y hy => ?_⟩, k3.2⟩⟩
      · have : mh_j (mh_sj (mh_sj h3 (H + 2) (2 * x) u) (H + 2) (2 * x + 1) v) (H + 1) = mh_j h3 (H + 1) := funext fun k => by rw [hj_sj, if_neg (by omega), hj_sj, if_neg (by omega)]
        rw [this]; exact k3.1.m i j hi hj
      · show (mh_j _ (H + 2) (2 * y)).toInt = (if y = x then _ else A.lo y) ∧ (mh_j _ (H + 2) (2 * y + 1)).toInt = (if y = x then _ else A.hi y)
        by_cases e : y = x
        · rw [if_pos e, if_pos e, hj_sj, if_neg (c := (H + 2 = H + 2 ∧ 2 * y = 2 * x + 1)) (by omega), hj_sj, if_pos (c := (H + 2 = H + 2 ∧ 2 * y = 2 * x)) ⟨rfl, by omega⟩, hj_sj, if_pos (c := (H + 2 = H + 2 ∧ 2 * y + 1 = 2 * x + 1)) ⟨rfl, by omega⟩]; exact ⟨hu, hv⟩
        · rw [if_neg e, if_neg e, hj_sj, if_neg (by omega), hj_sj, if_neg (by omega), hj_sj, if_neg (by omega), hj_sj, if_neg (by omega)]; exact k3.1.e y hy
    by_cases z : sz = 1
    · have z' : (Int32.ofNat sz = 1) = True := by rw [z]; decide
      obtain ⟨o1, o2, o3⟩ := fin (mh_j h3 36 0) (mh_j h3 37 0) (by rw [if_pos (by omega)]; exact jl) (by rw [if_pos (by omega)]; exact jg)
      refine ⟨_, o1, o2, o3, fun Q => ?_⟩
      clear S S3 k k3 U2 f3 f3' fin o1 o2 o3 nSt
      simp (disch := omega) only [s_15_0, s_15_1, s_15_4, s_15_5, s_15_8, s_15_11, s_15_14, s_15_15, s_15_18, s_15_19, s_15_22, s_15_25, s_15_28, s_15_29, s_15_32, s_15_33, s_15_34, s_15_35, s_15_38, s_15_39, s_15_42, s_15_43, s_15_46, s_15_47, s_15_48, s_15_51, s_15_54, s_15_55, s_15_58, s_15_59, s_15_62, s_15_63, s_15_64, s_15_67, s_15_70, s_15_71, s_15_72, s_15_74, s_15_75, s_15_78, s_15_81, s_15_82, s_15_83, s_15_85, s_15_86, s_15_89, s_15_90, s_15_93, s_15_94, s_15_97, s_15_98, s_15_100, s_15_101, s_15_104, s_15_107, s_15_108, s_15_109, s_15_110, s_15_112, s_15_115, s_15_117, s_15_120, s_15_121, s_15_124, s_15_127, s_15_128, s_15_129, s_15_130, s_15_131, s_15_133, s_15_136, s_15_137, s_15_138, s_15_141, s_15_144, s_15_145, s_15_146, s_15_147, s_15_148, s_15_149, s_15_151, s_15_154, s_15_156, s_15_159, s_15_160, s_15_163, s_15_166, s_15_167, s_15_168, s_15_169, s_15_170, s_15_171, s_15_172, s_15_174, s_15_177, s_15_178, e_15, mv_i_1, mv_l_1, mv_a_1, mv_a_2, mv_a_3, mk2_n, mk2_i, mk2_l, mk2_a, mk2_u, mk2_x, mB_T, mB_F, mS_cons, mS_nil, mSB_T, mSB_F, mca_nil, mca_i, mca_l, mca_r, mca_u, mca_x, mcat_i, mcat_l, mcat_r, mcat_u, mcat_x, mK_some, mK_none, va_rf_s, va_rf_n, lgc_eq, lgc_lt, lgc_gt, lgc_ge, lgc_le, mrd_104, mrd_105, mrd_106, mrd_107, true_and, and_true, and_self, false_and, and_false, true_or, or_true, false_or, or_false, not_true_eq_false, not_false_eq_true, mgb, mga, mgr, mN, reduceCtorEq, ↓reduceIte, eq_self, ge_iff_le, gt_iff_lt, hk_si, hk_sj, hk_sr, hl_si, hl_sj, hl_sr, hn_si, hn_sj, hn_sr, hs_si, hs_sj, hs_sr, hi_sj, hi_sr, hj_si, hj_sr, hr_si, hr_sj, hi_si, hj_sj, hr_sr, mg_si, mg_sj, mg_sr, Nat.reduceAdd, Nat.reduceMul, Nat.reduceSub, Nat.reduceLT, Nat.reduceGT, Nat.reduceEqDiff, Nat.reduceLeDiff, Nat.left_eq_add, Nat.add_eq_left, Nat.reduceMod, Nat.reduceDiv, Nat.succ_ne_self, g2, g35', q1, gS, v10, ei, e3, g3, t1', g35, t5, t6, F36, F37, l36, l37, mx0, cl0, gS3, v9''', z', r2', gH3, r34', gH32, l3, et, nn_mxT, nn_clamp, k10, k00]
    · have z' : (Int32.ofNat sz = 1) = False := by
        have e0 : (1 : Int32) = Int32.ofNat 1 := rfl
        rw [e0, nn_eq (by omega) (by omega)]; exact eq_false z
      have lt1 : (if mh_j h3 36 0 < mh_j h3 (H + 2) (2 * x) then mh_j h3 36 0 else mh_j h3 (H + 2) (2 * x)).toInt = min (A.lo x) l := by
        by_cases q : mh_j h3 36 0 < mh_j h3 (H + 2) (2 * x)
        · rw [if_pos q]; rw [Int64.lt_iff_toInt_lt] at q; omega
        · rw [if_neg q]; rw [Int64.lt_iff_toInt_lt] at q; omega
      have lt2 : (if mh_j h3 37 0 < mh_j h3 (H + 2) (2 * x + 1) then mh_j h3 (H + 2) (2 * x + 1) else mh_j h3 37 0).toInt = max (A.hi x) gr := by
        by_cases q : mh_j h3 37 0 < mh_j h3 (H + 2) (2 * x + 1)
        · rw [if_pos q]; rw [Int64.lt_iff_toInt_lt] at q; omega
        · rw [if_neg q]; rw [Int64.lt_iff_toInt_lt] at q; omega
      obtain ⟨o1, o2, o3⟩ := fin _ _ (by rw [if_neg (by omega)]; exact lt1) (by rw [if_neg (by omega)]; exact lt2)
      refine ⟨_, o1, o2, o3, fun Q => ?_⟩
      clear S S3 k k3 U2 f3 f3' fin o1 o2 o3 nSt lt1 lt2
      simp (disch := omega) only [s_15_0, s_15_1, s_15_4, s_15_5, s_15_8, s_15_11, s_15_14, s_15_15, s_15_18, s_15_19, s_15_22, s_15_25, s_15_28, s_15_29, s_15_32, s_15_33, s_15_34, s_15_35, s_15_38, s_15_39, s_15_42, s_15_43, s_15_46, s_15_47, s_15_48, s_15_51, s_15_54, s_15_55, s_15_58, s_15_59, s_15_62, s_15_63, s_15_64, s_15_67, s_15_70, s_15_71, s_15_72, s_15_74, s_15_75, s_15_78, s_15_81, s_15_82, s_15_83, s_15_85, s_15_86, s_15_89, s_15_90, s_15_93, s_15_94, s_15_97, s_15_98, s_15_100, s_15_101, s_15_104, s_15_107, s_15_108, s_15_109, s_15_110, s_15_112, s_15_115, s_15_117, s_15_120, s_15_121, s_15_124, s_15_127, s_15_128, s_15_129, s_15_130, s_15_131, s_15_133, s_15_136, s_15_137, s_15_138, s_15_141, s_15_144, s_15_145, s_15_146, s_15_147, s_15_148, s_15_149, s_15_151, s_15_154, s_15_156, s_15_159, s_15_160, s_15_163, s_15_166, s_15_167, s_15_168, s_15_169, s_15_170, s_15_171, s_15_172, s_15_174, s_15_177, s_15_178, e_15, mv_i_1, mv_l_1, mv_a_1, mv_a_2, mv_a_3, mk2_n, mk2_i, mk2_l, mk2_a, mk2_u, mk2_x, mB_T, mB_F, mS_cons, mS_nil, mSB_T, mSB_F, mca_nil, mca_i, mca_l, mca_r, mca_u, mca_x, mcat_i, mcat_l, mcat_r, mcat_u, mcat_x, mK_some, mK_none, va_rf_s, va_rf_n, lgc_eq, lgc_lt, lgc_gt, lgc_ge, lgc_le, mrd_104, mrd_105, mrd_106, mrd_107, true_and, and_true, and_self, false_and, and_false, true_or, or_true, false_or, or_false, not_true_eq_false, not_false_eq_true, mgb, mga, mgr, mN, reduceCtorEq, ↓reduceIte, eq_self, ge_iff_le, gt_iff_lt, hk_si, hk_sj, hk_sr, hl_si, hl_sj, hl_sr, hn_si, hn_sj, hn_sr, hs_si, hs_sj, hs_sr, hi_sj, hi_sr, hj_si, hj_sr, hr_si, hr_sj, hi_si, hj_sj, hr_sr, mg_si, mg_sj, mg_sr, Nat.reduceAdd, Nat.reduceMul, Nat.reduceSub, Nat.reduceLT, Nat.reduceGT, Nat.reduceEqDiff, Nat.reduceLeDiff, Nat.left_eq_add, Nat.add_eq_left, Nat.reduceMod, Nat.reduceDiv, Nat.succ_ne_self, g2, g35', q1, gS, v10, ei, e3, g3, t1', g35, t5, t6, F36, F37, l36, l37, mx0, cl0, gS3, v9''', z', r2', gH3, r34', gH32, l3, et, nn_mxT, nn_clamp, k10, k00]
  · rw [ev2]
    obtain ⟨o3, o1, o2⟩ := st_no0 S3 r2' k3
    refine ⟨_, fG_t f3' o1, by rw [o2, al3], o3, fun Q => ?_⟩
    clear S S3 k k3 U2 f3 f3' o1 o2 o3 nSt
    simp (disch := omega) only [s_15_0, s_15_1, s_15_4, s_15_5, s_15_8, s_15_11, s_15_14, s_15_15, s_15_18, s_15_19, s_15_22, s_15_25, s_15_28, s_15_29, s_15_32, s_15_33, s_15_34, s_15_35, s_15_38, s_15_39, s_15_42, s_15_43, s_15_46, s_15_47, s_15_48, s_15_51, s_15_54, s_15_55, s_15_58, s_15_59, s_15_62, s_15_63, s_15_64, s_15_67, s_15_70, s_15_71, s_15_72, s_15_74, s_15_75, s_15_78, s_15_81, s_15_82, s_15_83, s_15_85, s_15_86, s_15_89, s_15_90, s_15_93, s_15_94, s_15_97, s_15_98, s_15_100, s_15_101, s_15_104, s_15_107, s_15_108, s_15_109, s_15_110, s_15_112, s_15_115, s_15_117, s_15_120, s_15_121, s_15_124, s_15_127, s_15_128, s_15_129, s_15_130, s_15_131, s_15_133, s_15_136, s_15_137, s_15_138, s_15_141, s_15_144, s_15_145, s_15_146, s_15_147, s_15_148, s_15_149, s_15_151, s_15_154, s_15_156, s_15_159, s_15_160, s_15_163, s_15_166, s_15_167, s_15_168, s_15_169, s_15_170, s_15_171, s_15_172, s_15_174, s_15_177, s_15_178, e_15, mv_i_1, mv_l_1, mv_a_1, mv_a_2, mv_a_3, mk2_n, mk2_i, mk2_l, mk2_a, mk2_u, mk2_x, mB_T, mB_F, mS_cons, mS_nil, mSB_T, mSB_F, mca_nil, mca_i, mca_l, mca_r, mca_u, mca_x, mcat_i, mcat_l, mcat_r, mcat_u, mcat_x, mK_some, mK_none, va_rf_s, va_rf_n, lgc_eq, lgc_lt, lgc_gt, lgc_ge, lgc_le, mrd_104, mrd_105, mrd_106, mrd_107, true_and, and_true, and_self, false_and, and_false, true_or, or_true, false_or, or_false, not_true_eq_false, not_false_eq_true, mgb, mga, mgr, mN, reduceCtorEq, ↓reduceIte, eq_self, ge_iff_le, gt_iff_lt, hk_si, hk_sj, hk_sr, hl_si, hl_sj, hl_sr, hn_si, hn_sj, hn_sr, hs_si, hs_sj, hs_sr, hi_sj, hi_sr, hj_si, hj_sr, hr_si, hr_sj, hi_si, hj_sj, hr_sr, mg_si, mg_sj, mg_sr, Nat.reduceAdd, Nat.reduceMul, Nat.reduceSub, Nat.reduceLT, Nat.reduceGT, Nat.reduceEqDiff, Nat.reduceLeDiff, Nat.left_eq_add, Nat.add_eq_left, Nat.reduceMod, Nat.reduceDiv, Nat.succ_ne_self, g2, g35', q1, gS, v10, ei, e3, g3, r2', gH3, k10, k00]
/-- a[SUM] = SUM -/
theorem v_15 (S : ES h P R lP X Y C E TT UU SC SP nC nE nS nb na H A) (U1 : SU h C E TT UU SC SP nC nE nS lP nb na sN en A t1 false s1 c1 p1) (U2 : SU h C E TT UU SC SP nC nE nS lP nb na sN en A t2 false (s1 + 1) c2 p2) (r2 : mh_r h 34 2 = some H) (k : RS h H (some A)) {St x sz : Nat} (gS : mg h St 9) (hx : x < A.a) (hsz : A.rm x = sz) (z1 : 1 ≤ sz) (z2 : sz ≤ 64) (v10 : mh_i h St 10 = Int32.ofNat s1) (v9 : mh_i h St 9 = Int32.ofNat sz) : ∃ h', fG (stW H P R) h h' ∧ mh_i h' 35 4 = mh_i h 35 4 ||| (a_put en A x t1 t2).2 ∧ RS h' H (a_put en A x t1 t2).1 ∧ ∀ Q, mcall (d + 4) 15 [.ref 34, .ref St, .int (Int32.ofNat x)] h Q = Q none h' := by
  obtain ⟨h1, f1, al1, k1, w⟩ := st_1 (d := d) (x := x) (v2 := Int32.ofNat x) S U1 k gS hsz z1 z2 v10 v9
  have S1 := ES_fG S f1
  have nS := st_rg S gS
  have r21 : mh_r h1 34 2 = some H := by rw [fG_r f1]; exact r2
  have gS1 := fG_mg f1 gS
  rcases w with ⟨c, run⟩ | ⟨c, run⟩
  · have nSt : ∀ j, ¬ stW H P R St j := fun j w => by
      rcases w with w | w | w
      · exact nS j w
      · have a1 := (S.G.F.g 35 5 19 (by decide +kernel)).1
        have a2 := (S.G.F.g 41 100 12 (by decide +kernel)).1
        have a6 := gS.1
        unfold fmW at w
        rcases w with ⟨e, -⟩ | e <;> (rw [e] at a6; omega)
      · have kS := so_k S.so gS (by decide) (by decide)
        have a1 := (S.G.F.g 52 101 48 (by decide +kernel)).1
        have a6 := gS.1
        rcases w with e | e | e | e
        · omega
        · omega
        · omega
        · rw [e] at a6; omega
    obtain ⟨h2, f2, al2, k2, run2⟩ := st_2 (d := d) S1 (ES_U S f1 U2) r21 k1 gS1 hx hsz z2 (by rw [fG_i f1 (nSt 10)]; exact v10) (by rw [fG_i f1 (nSt 9)]; exact v9)
    have hres : a_put en A x t1 t2 = (match (ev en A t2 none).1 with
        | none => none
        | some q => some (a_end x (if A.rm x = 1 then q.1 else min (A.lo x) q.1) (if A.rm x = 1 then q.2 else max (A.hi x) q.2) A), (e_bi (ev en A t1 none) (e_cell A x)).2 ||| (ev en A t2 none).2) := by
      unfold a_put
      cases hc : (e_bi (ev en A t1 none) (e_cell A x)).1 with
      | none => exact absurd hc c
      | some q => rfl
    rw [hres]
    refine ⟨h2, fG_t f1 f2, by rw [al2, al1, i32_or_assoc], k2, fun Q => ?_⟩
    rw [e_15, run Q, run2 Q]
  · have hres : a_put en A x t1 t2 = (none, (e_bi (ev en A t1 none) (e_cell A x)).2) := by unfold a_put; rw [c]
    rw [hres]
    obtain ⟨o3, o1, o2⟩ := st_no0 S1 r21 k1
    refine ⟨_, fG_t f1 o1, by rw [o2, al1], o3, fun Q => ?_⟩
    rw [e_15, run Q]
    have g34 := S1.G.F.g 34 1 9 (by decide +kernel)
    have gH := (RS_so k1).1
    have k00 : ((0 : Int32) = 0) = True := by decide
    clear S S1 k k1 U1 U2 f1 o1 o2 o3 nS
    simp (disch := omega) only [s_15_0, s_15_1, s_15_4, s_15_5, s_15_8, s_15_11, s_15_14, s_15_15, s_15_18, s_15_19, s_15_22, s_15_25, s_15_28, s_15_29, s_15_32, s_15_33, s_15_34, s_15_35, s_15_38, s_15_39, s_15_42, s_15_43, s_15_46, s_15_47, s_15_48, s_15_51, s_15_54, s_15_55, s_15_58, s_15_59, s_15_62, s_15_63, s_15_64, s_15_67, s_15_70, s_15_71, s_15_72, s_15_74, s_15_75, s_15_78, s_15_81, s_15_82, s_15_83, s_15_85, s_15_86, s_15_89, s_15_90, s_15_93, s_15_94, s_15_97, s_15_98, s_15_100, s_15_101, s_15_104, s_15_107, s_15_108, s_15_109, s_15_110, s_15_112, s_15_115, s_15_117, s_15_120, s_15_121, s_15_124, s_15_127, s_15_128, s_15_129, s_15_130, s_15_131, s_15_133, s_15_136, s_15_137, s_15_138, s_15_141, s_15_144, s_15_145, s_15_146, s_15_147, s_15_148, s_15_149, s_15_151, s_15_154, s_15_156, s_15_159, s_15_160, s_15_163, s_15_166, s_15_167, s_15_168, s_15_169, s_15_170, s_15_171, s_15_172, s_15_174, s_15_177, s_15_178, e_15, mv_i_1, mv_l_1, mv_a_1, mv_a_2, mv_a_3, mk2_n, mk2_i, mk2_l, mk2_a, mk2_u, mk2_x, mB_T, mB_F, mS_cons, mS_nil, mSB_T, mSB_F, mca_nil, mca_i, mca_l, mca_r, mca_u, mca_x, mcat_i, mcat_l, mcat_r, mcat_u, mcat_x, mK_some, mK_none, va_rf_s, va_rf_n, lgc_eq, lgc_lt, lgc_gt, lgc_ge, lgc_le, mrd_104, mrd_105, mrd_106, mrd_107, true_and, and_true, and_self, false_and, and_false, true_or, or_true, false_or, or_false, not_true_eq_false, not_false_eq_true, mgb, mga, mgr, mN, reduceCtorEq, ↓reduceIte, eq_self, ge_iff_le, gt_iff_lt, hk_si, hk_sj, hk_sr, hl_si, hl_sj, hl_sr, hn_si, hn_sj, hn_sr, hs_si, hs_sj, hs_sr, hi_sj, hi_sr, hj_si, hj_sr, hr_si, hr_sj, hi_si, hj_sj, hr_sr, mg_si, mg_sj, mg_sr, Nat.reduceAdd, Nat.reduceMul, Nat.reduceSub, Nat.reduceLT, Nat.reduceGT, Nat.reduceEqDiff, Nat.reduceLeDiff, Nat.left_eq_add, Nat.add_eq_left, Nat.reduceMod, Nat.reduceDiv, Nat.succ_ne_self, g34, r21, gH, k00]
end IXs
