set_option maxRecDepth 100000
/-! / and % -/
def lb (a b x y : Int) : Int := min (min (a.tdiv x) (b.tdiv x)) (min (a.tdiv y) (b.tdiv y))
def o_fr (c : Int) : Int := if c = 0 then 1 else c
def o_to (d : Int) : Int := if d = 0 then -1 else d
def o_bz (c d : Int) : Int := if 0 < o_fr c then o_fr c else min (o_to d) (-1)
def o_bh (c d : Int) : Int := if o_to d < 0 then o_to d else max (o_fr c) 1
theorem mm4 {m1 m2 m3 m4 : Int} (h1 : m1 ≤ 2147483648) (h2 : m2 ≤ 2147483648) (h3 : m3 ≤ 2147483648) (h4 : m4 ≤ 2147483648) : min (min m1 m4) (min m2 m3) = min (min (min (min 9223372036854775807 m1) m2) m3) m4 := by omega
theorem mx4 {m1 m2 m3 m4 : Int} (h1 : -2147483648 ≤ m1) (h2 : -2147483648 ≤ m2) (h3 : -2147483648 ≤ m3) (h4 : -2147483648 ≤ m4) : -min (min (-m1) (-m4)) (min (-m2) (-m3)) = max (max (max (max (-9223372036854775808) m1) m2) m3) m4 := by omega
theorem mnx (x y : Int) : min (-y) (-x) = -max x y := by omega
theorem over_c {a b c d : Int} (ha : iI a) (hb : iI b) (hcd : c ≤ d) (h0 : ¬ (c = 0 ∧ d = 0)) : min (lb a b (o_fr c) (o_to d)) (lb a b (o_bz c d) (o_bh c d)) = (e_bys c d).foldl (fun m y => min m (min (a.tdiv y) (b.tdiv y))) 9223372036854775807 ∧ -min (lb (-b) (-a) (o_fr c) (o_to d)) (lb (-b) (-a) (o_bz c d) (o_bh c d)) = (e_bys c d).foldl (fun m y => max m (max (a.tdiv y) (b.tdiv y))) (-9223372036854775808) := by
  have bd : ∀ y, -2147483648 ≤ a.tdiv y ∧ a.tdiv y ≤ 2147483648 ∧ -2147483648 ≤ b.tdiv y ∧ b.tdiv y ≤ 2147483648 := fun y => by
    have := div_r (b := y) ha
    have := div_r (b := y) hb
    omega
  have ng : ∀ x y : Int, (-x).tdiv y = -(x.tdiv y) := fun x y => Int.neg_tdiv x y
  unfold lb
  simp only [ng]
  by_cases c0 : c < 0
  · by_cases d0 : 0 < d
    · have e1 : o_fr c = c := by unfold o_fr; rw [if_neg (by omega)]
      have e2 : o_to d = d := by unfold o_to; rw [if_neg (by omega)]
      have e3 : o_bz c d = min d (-1) := by unfold o_bz; rw [e1, e2, if_neg (by omega)]
      have e4 : o_bh c d = max c 1 := by unfold o_bh; rw [e1, e2, if_neg (by omega)]
      have e5 : e_bys c d = [c, min d (-1), max c 1, d] := by unfold e_bys; rw [if_pos c0, if_pos d0]; rfl
      rw [e1, e2, e3, e4, e5]
      simp only [List.foldl]
      have b1 := bd c
      have b2 := bd d
      have b3 := bd (min d (-1))
      have b4 := bd (max c 1)
      have q : ∀ z, min (-(b.tdiv z)) (-(a.tdiv z)) = -max (a.tdiv z) (b.tdiv z) := fun z => mnx _ _
      rw [q c, q d, q (min d (-1)), q (max c 1)]
      refine ⟨mm4 (by omega) (by omega) (by omega) (by omega), ?_⟩
      exact mx4 (m1 := max (a.tdiv c) (b.tdiv c)) (m2 := max (a.tdiv (min d (-1))) (b.tdiv (min d (-1)))) (m3 := max (a.tdiv (max c 1)) (b.tdiv (max c 1))) (m4 := max (a.tdiv d) (b.tdiv d)) (by omega) (by omega) (by omega) (by omega)
    · have e1 : o_fr c = c := by unfold o_fr; rw [if_neg (by omega)]
      have e2 : o_to d = min d (-1) := by unfold o_to; split <;> omega
      have e3 : o_bz c d = min d (-1) := by unfold o_bz; rw [e1, e2, if_neg (by omega)]; omega
      have e4 : o_bh c d = min d (-1) := by unfold o_bh; rw [e2, if_pos (by omega)]
      have e5 : e_bys c d = [c, min d (-1)] := by unfold e_bys; rw [if_pos c0, if_neg d0]; rfl
      rw [e1, e2, e3, e4, e5]
      simp only [List.foldl]
      have := bd c
      have := bd (min d (-1))
      generalize a.tdiv c = x1 at *
      generalize a.tdiv (min d (-1)) = x3 at *
      generalize b.tdiv c = y1 at *
      generalize b.tdiv (min d (-1)) = y3 at *
      omega
  · have d0 : 0 < d := by omega
    have e1 : o_fr c = max c 1 := by unfold o_fr; split <;> omega
    have e2 : o_to d = d := by unfold o_to; rw [if_neg (by omega)]
    have e3 : o_bz c d = max c 1 := by unfold o_bz; rw [e1, if_pos (by omega)]
    have e4 : o_bh c d = max c 1 := by unfold o_bh; rw [e1, e2, if_neg (by omega)]; omega
    have e5 : e_bys c d = [max c 1, d] := by unfold e_bys; rw [if_neg c0, if_pos d0]; rfl
    rw [e1, e2, e3, e4, e5]
    simp only [List.foldl]
    have := bd d
    have := bd (max c 1)
    generalize a.tdiv d = x2 at *
    generalize a.tdiv (max c 1) = x4 at *
    generalize b.tdiv d = y2 at *
    generalize b.tdiv (max c 1) = y4 at *
    omega
theorem lb_64 {a b x y : Int64} (ha : iI a.toInt) (hb : iI b.toInt) : (lmin (lmin (a / x) (b / x)) (lmin (a / y) (b / y))).toInt = lb a.toInt b.toInt x.toInt y.toInt := by
  rw [lmin_int, lmin_int, lmin_int, ldiv_int ha, ldiv_int hb, ldiv_int ha, ldiv_int hb]; rfl
/-- of what is turned round: up to 2^31 -/
theorem lb_64n {a b x y : Int64} (ha : iI a.toInt) (hb : iI b.toInt) : (lmin (lmin (-b / x) (-a / x)) (lmin (-b / y) (-a / y))).toInt = lb (-b.toInt) (-a.toInt) x.toInt y.toInt := by
  have dn : ∀ (z w : Int64), iI z.toInt → (-z / w).toInt = (-z.toInt).tdiv w.toInt := fun z w hz => by
    rw [Int64.toInt_div, i64_n (by unfold iI at hz; omega)]
    have := div_r (b := w.toInt) hz
    have e : (-z.toInt).tdiv w.toInt = -(z.toInt.tdiv w.toInt) := Int.neg_tdiv _ _
    rw [e]
    exact Int.bmod_eq_of_le (by omega) (by omega)
  rw [lmin_int, lmin_int, lmin_int, dn b x hb, dn a x ha, dn b y hb, dn a y ha]; rfl
section RBS4
variable {d : Nat} {h : mh_H} {o L G D P R X : Nat} {al : Int32} {H : Nat} {lw hg : Nat → Int64} {nm : Nat → Int32} {pl ph : Nat → Int64} {A : ab}
theorem q_109n (B : RB h o L G D P R X) (hH : H + 1 < 124) (hz : lw (H + 1) = 0 ∧ hg (H + 1) = 0) : ∀ Q, mcall (d + 1) 109 [.ref o] (rS h o L G D P R al (Int32.ofNat (H + 2)) lw hg nm pl ph) Q = Q (some (.int 0)) (rS h o L G D P R (al ||| 2) (Int32.ofNat (H + 1)) lw hg (up nm H (-1)) pl ph) := by
  intro Q
  have c1 := fun Q' => c_108 (d := d) (Q := Q') (al := al) (lw := lw) (hg := hg) (nm := up nm H (-1)) (pl := pl) (ph := ph) B (H := H + 1) hH
  have dz : decide (¬ (lw (H + 1) = 0 ∧ hg (H + 1) = 0)) = false := decide_eq_false (fun w => w hz)
  have dv : e_dv (lw (H + 1)).toInt (hg (H + 1)).toInt = 2 := by rw [hz.1, hz.2]; decide
  have k0' : kb false = 0 := rfl
  rw [dz, dv, k0'] at c1
  obtain ⟨g, r1, r5, r6, r7, r9, r10, gL, gG, gD, gP, gR, lL, lG, lD, n1, n2, n3, n4, n5, n6⟩ := B
  have nD : ¬ D = o := fun z => by have := g.1; have := gD.1; rw [z] at *; omega
  have es : Int32.ofNat (H + 1) - 1 = Int32.ofNat H := nn_sub (a := H + 1) (b := 1) (by omega)
  have es2 : Int32.ofNat (H + 2) - 1 = Int32.ofNat (H + 1) := nn_sub (a := H + 2) (b := 1) (by omega)
  have e00 : ((0 : Int32) = 0) = True := by decide
  simp (disch := omega) only [s_109_0, s_109_1, s_109_2, s_109_5, s_109_6, s_109_7, s_109_10, s_109_11, s_109_14, s_109_15, s_109_16, s_109_17, s_109_18, s_109_21, s_109_22, s_109_23, s_109_24, s_109_25, s_109_28, s_109_31, s_109_32, s_109_33, s_109_34, s_109_37, s_109_38, s_109_39, s_109_40, s_109_41, s_109_42, s_109_43, s_109_46, s_109_47, s_109_50, s_109_51, s_109_54, s_109_55, s_109_56, s_109_57, s_109_58, s_109_59, s_109_60, s_109_63, s_109_64, s_109_65, s_109_66, s_109_67, s_109_68, s_109_69, s_109_72, s_109_75, s_109_78, s_109_79, s_109_82, s_109_83, s_109_84, s_109_85, s_109_86, s_109_88, s_109_89, s_109_90, s_109_91, s_109_94, s_109_95, s_109_98, s_109_100, s_109_103, s_109_106, s_109_108, s_109_110, s_109_111, s_109_112, s_109_115, s_109_117, s_109_120, s_109_121, s_109_122, s_109_125, s_109_127, s_109_128, s_109_131, s_109_132, s_109_133, s_109_135, s_109_136, s_109_139, s_109_140, s_109_141, s_109_143, s_109_145, s_109_147, s_109_148, s_109_150, s_109_153, s_109_155, s_109_157, s_109_159, s_109_161, s_109_163, s_109_166, s_109_168, s_109_169, s_109_172, s_109_173, s_109_175, s_109_177, s_109_180, s_109_181, s_109_183, s_109_184, s_109_186, s_109_187, s_109_188, s_109_190, s_109_193, s_109_195, s_109_197, s_109_198, s_109_200, s_109_201, s_109_203, s_109_205, s_109_208, s_109_210, s_109_211, s_109_214, s_109_215, s_109_217, s_109_219, s_109_222, s_109_223, s_109_224, s_109_225, e_109, mv_i_1, mv_l_1, mv_a_1, mv_a_2, mv_a_3, mk2_n, mk2_i, mk2_l, mk2_a, mk2_u, mk2_x, mB_T, mB_F, mS_cons, mS_nil, mSB_T, mSB_F, mca_nil, mca_i, mca_l, mca_r, mca_u, mca_x, mcat_i, mcat_l, mcat_r, mcat_u, mcat_x, mK_some, mK_none, va_rf_s, va_rf_n, lgc_eq, lgc_lt, lgc_gt, lgc_ge, lgc_le, mrd_104, mrd_105, mrd_106, mrd_107, true_and, and_true, and_self, false_and, and_false, true_or, or_true, false_or, or_false, not_true_eq_false, not_false_eq_true, mgb, mga, mgr, mN, reduceCtorEq, ↓reduceIte, eq_self, ge_iff_le, gt_iff_lt, Nat.reduceAdd, Nat.reduceMul, Nat.reduceSub, Nat.reduceLT, Nat.reduceGT, Nat.reduceEqDiff, Nat.reduceLeDiff, Nat.left_eq_add, Nat.add_eq_left, Nat.reduceMod, Nat.reduceDiv, Nat.succ_ne_self, rS_g, rS_i, rS_j, rS_k, rS_n, rS_r, rS_l, rS_8, rS_D nD, g, r7, gD, lD, nD, nn_mxT, nn_clamp, es, es2, c1, e00]
theorem q_109 (B : RB h o L G D P R X) (hH : H + 1 < 124) (ha : iI (lw H).toInt) (hb : iI (hg H).toInt) (hc : iI (lw (H + 1)).toInt) (he : iI (hg (H + 1)).toInt) (hce : (lw (H + 1)).toInt ≤ (hg (H + 1)).toInt) (hz : ¬ (lw (H + 1) = 0 ∧ hg (H + 1) = 0)) : ∃ x y : Int64, x.toInt = (e_bys (lw (H + 1)).toInt (hg (H + 1)).toInt).foldl (fun m y => min m (min ((lw H).toInt.tdiv y) ((hg H).toInt.tdiv y))) 9223372036854775807 ∧ y.toInt = (e_bys (lw (H + 1)).toInt (hg (H + 1)).toInt).foldl (fun m y => max m (max ((lw H).toInt.tdiv y) ((hg H).toInt.tdiv y))) (-9223372036854775808) ∧ ∀ Q, mcall (d + 1) 109 [.ref o] (rS h o L G D P R al (Int32.ofNat (H + 2)) lw hg nm pl ph) Q = Q (some (.int 1)) (rS h o L G D P R (al ||| e_dv (lw (H + 1)).toInt (hg (H + 1)).toInt) (Int32.ofNat (H + 1)) (up lw H x) (up hg H y) (up nm H (-1)) pl ph) := by
  have c1 := fun Q' => c_108 (d := d) (Q := Q') (al := al) (lw := lw) (hg := hg) (nm := up nm H (-1)) (pl := pl) (ph := ph) B (H := H + 1) hH
  have dz : decide (¬ (lw (H + 1) = 0 ∧ hg (H + 1) = 0)) = true := decide_eq_true hz
  have k1' : kb true = 1 := rfl
  rw [dz, k1'] at c1
  have zi : ¬ ((lw (H + 1)).toInt = 0 ∧ (hg (H + 1)).toInt = 0) := fun w => hz ⟨eq64.mpr (by rw [w.1]; decide), eq64.mpr (by rw [w.2]; decide)⟩
  obtain ⟨o1, o2⟩ := over_c ha hb hce zi
  obtain ⟨g, r1, r5, r6, r7, r9, r10, gL, gG, gD, gP, gR, lL, lG, lD, n1, n2, n3, n4, n5, n6⟩ := B
  have nD : ¬ D = o := fun z => by have := g.1; have := gD.1; rw [z] at *; omega
  have es : Int32.ofNat (H + 1) - 1 = Int32.ofNat H := nn_sub (a := H + 1) (b := 1) (by omega)
  have es2 : Int32.ofNat (H + 2) - 1 = Int32.ofNat (H + 1) := nn_sub (a := H + 2) (b := 1) (by omega)
  have ei : ∀ k, Int32.ofNat k + 1 = Int32.ofNat (k + 1) := fun k => nn_add (a := k) (b := 1)
  have n : ¬ H + 1 = H := by omega
  have e10 : ((1 : Int32) = 0) = False := by decide
  generalize hgx : lw (H + 1) = cx at *
  generalize hgy : hg (H + 1) = cy at *
  -- the four divisors
  obtain ⟨fr, fr1, fr2⟩ : ∃ fr : Int64, fr.toInt = o_fr cx.toInt ∧ (if cx = 0 then 1 else cx) = fr := ⟨if cx = 0 then 1 else cx, by
    unfold o_fr
    by_cases c : cx = 0
    · rw [if_pos c, if_pos (by rw [c]; decide)]; rfl
    · rw [if_neg c, if_neg (fun z => c (eq64.mpr (by rw [z]; decide)))], rfl⟩
  obtain ⟨tt, tt1, tt2⟩ : ∃ tt : Int64, tt.toInt = o_to cy.toInt ∧ (if cy = 0 then -1 else cy) = tt := ⟨if cy = 0 then -1 else cy, by
    unfold o_to
    by_cases c : cy = 0
    · rw [if_pos c, if_pos (by rw [c]; decide)]; rfl
    · rw [if_neg c, if_neg (fun z => c (eq64.mpr (by rw [z]; decide)))], rfl⟩
  obtain ⟨bz, bz1, bz2⟩ : ∃ bz : Int64, bz.toInt = o_bz cx.toInt cy.toInt ∧ (if 0 < fr then fr else lmin tt (-1)) = bz := ⟨if 0 < fr then fr else lmin tt (-1), by
    unfold o_bz; rw [← fr1, ← tt1]
    by_cases c : 0 < fr
    · rw [if_pos c, if_pos (by rw [lt64, lit_0] at c; exact c)]
    · rw [if_neg c, if_neg (by rw [lt64, lit_0] at c; exact c), lmin_int, lit_m1], rfl⟩
  obtain ⟨bh, bh1, bh2⟩ : ∃ bh : Int64, bh.toInt = o_bh cx.toInt cy.toInt ∧ (if tt < 0 then tt else lmax fr 1) = bh := ⟨if tt < 0 then tt else lmax fr 1, by
    unfold o_bh; rw [← fr1, ← tt1]
    by_cases c : tt < 0
    · rw [if_pos c, if_pos (by rw [lt64, lit_0] at c; exact c)]
    · rw [if_neg c, if_neg (by rw [lt64, lit_0] at c; exact c), lmax_int, lit_1], rfl⟩
  have fr0 : o_fr cx.toInt ≠ 0 := by unfold o_fr; split <;> omega
  have to0 : o_to cy.toInt ≠ 0 := by unfold o_to; split <;> omega
  have bz0 : o_bz cx.toInt cy.toInt ≠ 0 := by unfold o_bz; split <;> omega
  have bh0 : o_bh cx.toInt cy.toInt ≠ 0 := by unfold o_bh; split <;> omega
  have nz : ∀ z : Int64, z.toInt ≠ 0 → ¬ z = 0 := fun z hz w => hz (by rw [w]; decide)
  have f0 : ¬ fr = 0 := nz fr (by rw [fr1]; exact fr0)
  have f1 : ¬ tt = 0 := nz tt (by rw [tt1]; exact to0)
  have f2 : ¬ bz = 0 := nz bz (by rw [bz1]; exact bz0)
  have f3 : ¬ bh = 0 := nz bh (by rw [bh1]; exact bh0)
  refine ⟨lmin (lmin (lmin (lw H / fr) (hg H / fr)) (lmin (lw H / tt) (hg H / tt))) (lmin (lmin (lw H / bz) (hg H / bz)) (lmin (lw H / bh) (hg H / bh))), -lmin (lmin (lmin (-hg H / fr) (-lw H / fr)) (lmin (-hg H / tt) (-lw H / tt))) (lmin (lmin (-hg H / bz) (-lw H / bz)) (lmin (-hg H / bh) (-lw H / bh))), ?_, ?_, fun Q => ?_⟩
  · rw [lmin_int, lb_64 ha hb, lb_64 ha hb, fr1, tt1, bz1, bh1]; exact o1
  · have e : (lmin (lmin (lmin (-hg H / fr) (-lw H / fr)) (lmin (-hg H / tt) (-lw H / tt))) (lmin (lmin (-hg H / bz) (-lw H / bz)) (lmin (-hg H / bh) (-lw H / bh)))).toInt = min (lb (-(hg H).toInt) (-(lw H).toInt) (o_fr cx.toInt) (o_to cy.toInt)) (lb (-(hg H).toInt) (-(lw H).toInt) (o_bz cx.toInt cy.toInt) (o_bh cx.toInt cy.toInt)) := by
      rw [lmin_int, lb_64n ha hb, lb_64n ha hb, fr1, tt1, bz1, bh1]
    have bd : ∀ x y, -2147483648 ≤ lb (-(hg H).toInt) (-(lw H).toInt) x y := fun x y => by
      have ng : ∀ x y : Int, (-x).tdiv y = -(x.tdiv y) := fun x y => Int.neg_tdiv x y
      unfold lb
      simp only [ng]
      have := div_r (b := x) ha
      have := div_r (b := x) hb
      have := div_r (b := y) ha
      have := div_r (b := y) hb
      omega
    have b1 := bd (o_fr cx.toInt) (o_to cy.toInt)
    have b2 := bd (o_bz cx.toInt cy.toInt) (o_bh cx.toInt cy.toInt)
    rw [i64_n (by rw [e]; omega), e]; exact o2
  · clear o1 o2 fr1 tt1 bz1 bh1 fr0 to0 bz0 bh0 nz zi dz
    have E1 : mcall (d + 1) 109 [.ref o] (rS h o L G D P R al (Int32.ofNat (H + 2)) lw hg nm pl ph) Q = mw (d + 1) 109 Q 58 [some (.ref o), some (.int (Int32.ofNat H)), none, none, none, none, none, none, none, none, none, none, none, none, none, none, none, none] [.long fr] (rS h o L G D P R (al ||| e_dv cx.toInt cy.toInt) (Int32.ofNat (H + 1)) lw hg (up nm H (-1)) pl ph) := by
      by_cases x0 : cx = 0
      · rw [if_pos x0] at fr2
        have x0' : lw (H + 1) = 0 := hgx.trans x0
        simp (disch := omega) only [s_109_0, s_109_1, s_109_2, s_109_5, s_109_6, s_109_7, s_109_10, s_109_11, s_109_14, s_109_15, s_109_16, s_109_17, s_109_18, s_109_21, s_109_22, s_109_23, s_109_24, s_109_25, s_109_28, s_109_31, s_109_32, s_109_33, s_109_34, s_109_37, s_109_38, s_109_39, s_109_40, s_109_41, s_109_42, s_109_43, s_109_46, s_109_47, s_109_50, s_109_51, s_109_54, s_109_55, s_109_56, s_109_57, s_109_59, s_109_60, s_109_63, s_109_64, s_109_65, s_109_66, s_109_67, s_109_68, s_109_69, s_109_72, s_109_75, s_109_78, s_109_79, s_109_82, s_109_83, s_109_84, s_109_85, s_109_86, s_109_88, s_109_89, s_109_90, s_109_91, s_109_94, s_109_95, s_109_98, s_109_100, s_109_103, s_109_106, s_109_108, s_109_110, s_109_111, s_109_112, s_109_115, s_109_117, s_109_120, s_109_121, s_109_122, s_109_125, s_109_127, s_109_128, s_109_131, s_109_132, s_109_133, s_109_135, s_109_136, s_109_139, s_109_140, s_109_141, s_109_143, s_109_145, s_109_147, s_109_148, s_109_150, s_109_153, s_109_155, s_109_157, s_109_159, s_109_161, s_109_163, s_109_166, s_109_168, s_109_169, s_109_172, s_109_173, s_109_175, s_109_177, s_109_180, s_109_181, s_109_183, s_109_184, s_109_186, s_109_187, s_109_188, s_109_190, s_109_193, s_109_195, s_109_197, s_109_198, s_109_200, s_109_201, s_109_203, s_109_205, s_109_208, s_109_210, s_109_211, s_109_214, s_109_215, s_109_217, s_109_219, s_109_222, s_109_223, s_109_224, s_109_225, e_109, mv_i_1, mv_l_1, mv_a_1, mv_a_2, mv_a_3, mk2_n, mk2_i, mk2_l, mk2_a, mk2_u, mk2_x, mB_T, mB_F, mS_cons, mS_nil, mSB_T, mSB_F, mca_nil, mca_i, mca_l, mca_r, mca_u, mca_x, mcat_i, mcat_l, mcat_r, mcat_u, mcat_x, mK_some, mK_none, va_rf_s, va_rf_n, lgc_eq, lgc_lt, lgc_gt, lgc_ge, lgc_le, mrd_104, mrd_105, mrd_106, mrd_107, true_and, and_true, and_self, false_and, and_false, true_or, or_true, false_or, or_false, not_true_eq_false, not_false_eq_true, mgb, mga, mgr, mN, reduceCtorEq, ↓reduceIte, eq_self, ge_iff_le, gt_iff_lt, Nat.reduceAdd, Nat.reduceMul, Nat.reduceSub, Nat.reduceLT, Nat.reduceGT, Nat.reduceEqDiff, Nat.reduceLeDiff, Nat.left_eq_add, Nat.add_eq_left, Nat.reduceMod, Nat.reduceDiv, Nat.succ_ne_self, rS_g, rS_i, rS_j, rS_k, rS_n, rS_r, rS_l, rS_8, rS_D nD, g, r5, r7, gL, gD, lL, lD, nD, nn_mxT, nn_clamp, es, es2, ei, c1, e10, x0', fr2]
      · rw [if_neg x0] at fr2
        simp (disch := omega) only [s_109_0, s_109_1, s_109_2, s_109_5, s_109_6, s_109_7, s_109_10, s_109_11, s_109_14, s_109_15, s_109_16, s_109_17, s_109_18, s_109_21, s_109_22, s_109_23, s_109_24, s_109_25, s_109_28, s_109_31, s_109_32, s_109_33, s_109_34, s_109_37, s_109_38, s_109_39, s_109_40, s_109_41, s_109_42, s_109_43, s_109_46, s_109_47, s_109_50, s_109_51, s_109_54, s_109_55, s_109_56, s_109_57, s_109_59, s_109_60, s_109_63, s_109_64, s_109_65, s_109_66, s_109_67, s_109_68, s_109_69, s_109_72, s_109_75, s_109_78, s_109_79, s_109_82, s_109_83, s_109_84, s_109_85, s_109_86, s_109_88, s_109_89, s_109_90, s_109_91, s_109_94, s_109_95, s_109_98, s_109_100, s_109_103, s_109_106, s_109_108, s_109_110, s_109_111, s_109_112, s_109_115, s_109_117, s_109_120, s_109_121, s_109_122, s_109_125, s_109_127, s_109_128, s_109_131, s_109_132, s_109_133, s_109_135, s_109_136, s_109_139, s_109_140, s_109_141, s_109_143, s_109_145, s_109_147, s_109_148, s_109_150, s_109_153, s_109_155, s_109_157, s_109_159, s_109_161, s_109_163, s_109_166, s_109_168, s_109_169, s_109_172, s_109_173, s_109_175, s_109_177, s_109_180, s_109_181, s_109_183, s_109_184, s_109_186, s_109_187, s_109_188, s_109_190, s_109_193, s_109_195, s_109_197, s_109_198, s_109_200, s_109_201, s_109_203, s_109_205, s_109_208, s_109_210, s_109_211, s_109_214, s_109_215, s_109_217, s_109_219, s_109_222, s_109_223, s_109_224, s_109_225, e_109, mv_i_1, mv_l_1, mv_a_1, mv_a_2, mv_a_3, mk2_n, mk2_i, mk2_l, mk2_a, mk2_u, mk2_x, mB_T, mB_F, mS_cons, mS_nil, mSB_T, mSB_F, mca_nil, mca_i, mca_l, mca_r, mca_u, mca_x, mcat_i, mcat_l, mcat_r, mcat_u, mcat_x, mK_some, mK_none, va_rf_s, va_rf_n, lgc_eq, lgc_lt, lgc_gt, lgc_ge, lgc_le, mrd_104, mrd_105, mrd_106, mrd_107, true_and, and_true, and_self, false_and, and_false, true_or, or_true, false_or, or_false, not_true_eq_false, not_false_eq_true, mgb, mga, mgr, mN, reduceCtorEq, ↓reduceIte, eq_self, ge_iff_le, gt_iff_lt, Nat.reduceAdd, Nat.reduceMul, Nat.reduceSub, Nat.reduceLT, Nat.reduceGT, Nat.reduceEqDiff, Nat.reduceLeDiff, Nat.left_eq_add, Nat.add_eq_left, Nat.reduceMod, Nat.reduceDiv, Nat.succ_ne_self, rS_g, rS_i, rS_j, rS_k, rS_n, rS_r, rS_l, rS_8, rS_D nD, g, r5, r7, gL, gD, lL, lD, nD, nn_mxT, nn_clamp, es, es2, ei, c1, e10, hgx, x0]
        rw [fr2]
    refine E1.trans ?_
    clear E1 c1
    generalize hA : (al ||| e_dv cx.toInt cy.toInt) = al'
    generalize hN : up nm H (-1) = nm'
    have E2 : mw (d + 1) 109 Q 58 [some (.ref o), some (.int (Int32.ofNat H)), none, none, none, none, none, none, none, none, none, none, none, none, none, none, none, none] [.long fr] (rS h o L G D P R al' (Int32.ofNat (H + 1)) lw hg nm' pl ph) = mw (d + 1) 109 Q 86 [some (.ref o), some (.int (Int32.ofNat H)), some (.long fr), none, none, none, none, none, none, none, none, none, none, none, none, none, none, none] [.long tt] (rS h o L G D P R al' (Int32.ofNat (H + 1)) lw hg nm' pl ph) := by
      by_cases y0 : cy = 0
      · rw [if_pos y0] at tt2
        have y0' : hg (H + 1) = 0 := hgy.trans y0
        simp (disch := omega) only [s_109_0, s_109_1, s_109_2, s_109_5, s_109_6, s_109_7, s_109_10, s_109_11, s_109_14, s_109_15, s_109_16, s_109_17, s_109_18, s_109_21, s_109_22, s_109_23, s_109_24, s_109_25, s_109_28, s_109_31, s_109_32, s_109_33, s_109_34, s_109_37, s_109_38, s_109_39, s_109_40, s_109_41, s_109_42, s_109_43, s_109_46, s_109_47, s_109_50, s_109_51, s_109_54, s_109_55, s_109_56, s_109_57, s_109_58, s_109_59, s_109_60, s_109_63, s_109_64, s_109_65, s_109_66, s_109_67, s_109_68, s_109_69, s_109_72, s_109_75, s_109_78, s_109_79, s_109_82, s_109_83, s_109_84, s_109_85, s_109_88, s_109_89, s_109_90, s_109_91, s_109_94, s_109_95, s_109_98, s_109_100, s_109_103, s_109_106, s_109_108, s_109_110, s_109_111, s_109_112, s_109_115, s_109_117, s_109_120, s_109_121, s_109_122, s_109_125, s_109_127, s_109_128, s_109_131, s_109_132, s_109_133, s_109_135, s_109_136, s_109_139, s_109_140, s_109_141, s_109_143, s_109_145, s_109_147, s_109_148, s_109_150, s_109_153, s_109_155, s_109_157, s_109_159, s_109_161, s_109_163, s_109_166, s_109_168, s_109_169, s_109_172, s_109_173, s_109_175, s_109_177, s_109_180, s_109_181, s_109_183, s_109_184, s_109_186, s_109_187, s_109_188, s_109_190, s_109_193, s_109_195, s_109_197, s_109_198, s_109_200, s_109_201, s_109_203, s_109_205, s_109_208, s_109_210, s_109_211, s_109_214, s_109_215, s_109_217, s_109_219, s_109_222, s_109_223, s_109_224, s_109_225, e_109, mv_i_1, mv_l_1, mv_a_1, mv_a_2, mv_a_3, mk2_n, mk2_i, mk2_l, mk2_a, mk2_u, mk2_x, mB_T, mB_F, mS_cons, mS_nil, mSB_T, mSB_F, mca_nil, mca_i, mca_l, mca_r, mca_u, mca_x, mcat_i, mcat_l, mcat_r, mcat_u, mcat_x, mK_some, mK_none, va_rf_s, va_rf_n, lgc_eq, lgc_lt, lgc_gt, lgc_ge, lgc_le, mrd_104, mrd_105, mrd_106, mrd_107, true_and, and_true, and_self, false_and, and_false, true_or, or_true, false_or, or_false, not_true_eq_false, not_false_eq_true, mgb, mga, mgr, mN, reduceCtorEq, ↓reduceIte, eq_self, ge_iff_le, gt_iff_lt, Nat.reduceAdd, Nat.reduceMul, Nat.reduceSub, Nat.reduceLT, Nat.reduceGT, Nat.reduceEqDiff, Nat.reduceLeDiff, Nat.left_eq_add, Nat.add_eq_left, Nat.reduceMod, Nat.reduceDiv, Nat.succ_ne_self, rS_g, rS_i, rS_j, rS_k, rS_n, rS_r, rS_l, g, r6, gG, lG, n1, nn_mxT, nn_clamp, ei, y0', tt2]
      · rw [if_neg y0] at tt2
        simp (disch := omega) only [s_109_0, s_109_1, s_109_2, s_109_5, s_109_6, s_109_7, s_109_10, s_109_11, s_109_14, s_109_15, s_109_16, s_109_17, s_109_18, s_109_21, s_109_22, s_109_23, s_109_24, s_109_25, s_109_28, s_109_31, s_109_32, s_109_33, s_109_34, s_109_37, s_109_38, s_109_39, s_109_40, s_109_41, s_109_42, s_109_43, s_109_46, s_109_47, s_109_50, s_109_51, s_109_54, s_109_55, s_109_56, s_109_57, s_109_58, s_109_59, s_109_60, s_109_63, s_109_64, s_109_65, s_109_66, s_109_67, s_109_68, s_109_69, s_109_72, s_109_75, s_109_78, s_109_79, s_109_82, s_109_83, s_109_84, s_109_85, s_109_88, s_109_89, s_109_90, s_109_91, s_109_94, s_109_95, s_109_98, s_109_100, s_109_103, s_109_106, s_109_108, s_109_110, s_109_111, s_109_112, s_109_115, s_109_117, s_109_120, s_109_121, s_109_122, s_109_125, s_109_127, s_109_128, s_109_131, s_109_132, s_109_133, s_109_135, s_109_136, s_109_139, s_109_140, s_109_141, s_109_143, s_109_145, s_109_147, s_109_148, s_109_150, s_109_153, s_109_155, s_109_157, s_109_159, s_109_161, s_109_163, s_109_166, s_109_168, s_109_169, s_109_172, s_109_173, s_109_175, s_109_177, s_109_180, s_109_181, s_109_183, s_109_184, s_109_186, s_109_187, s_109_188, s_109_190, s_109_193, s_109_195, s_109_197, s_109_198, s_109_200, s_109_201, s_109_203, s_109_205, s_109_208, s_109_210, s_109_211, s_109_214, s_109_215, s_109_217, s_109_219, s_109_222, s_109_223, s_109_224, s_109_225, e_109, mv_i_1, mv_l_1, mv_a_1, mv_a_2, mv_a_3, mk2_n, mk2_i, mk2_l, mk2_a, mk2_u, mk2_x, mB_T, mB_F, mS_cons, mS_nil, mSB_T, mSB_F, mca_nil, mca_i, mca_l, mca_r, mca_u, mca_x, mcat_i, mcat_l, mcat_r, mcat_u, mcat_x, mK_some, mK_none, va_rf_s, va_rf_n, lgc_eq, lgc_lt, lgc_gt, lgc_ge, lgc_le, mrd_104, mrd_105, mrd_106, mrd_107, true_and, and_true, and_self, false_and, and_false, true_or, or_true, false_or, or_false, not_true_eq_false, not_false_eq_true, mgb, mga, mgr, mN, reduceCtorEq, ↓reduceIte, eq_self, ge_iff_le, gt_iff_lt, Nat.reduceAdd, Nat.reduceMul, Nat.reduceSub, Nat.reduceLT, Nat.reduceGT, Nat.reduceEqDiff, Nat.reduceLeDiff, Nat.left_eq_add, Nat.add_eq_left, Nat.reduceMod, Nat.reduceDiv, Nat.succ_ne_self, rS_g, rS_i, rS_j, rS_k, rS_n, rS_r, rS_l, g, r6, gG, lG, n1, nn_mxT, nn_clamp, ei, hgy, y0]
        rw [tt2]
    refine E2.trans ?_
    clear E2
    have E3 : mw (d + 1) 109 Q 86 [some (.ref o), some (.int (Int32.ofNat H)), some (.long fr), none, none, none, none, none, none, none, none, none, none, none, none, none, none, none] [.long tt] (rS h o L G D P R al' (Int32.ofNat (H + 1)) lw hg nm' pl ph) = mw (d + 1) 109 Q 106 [some (.ref o), some (.int (Int32.ofNat H)), some (.long fr), none, some (.long tt), none, none, none, none, none, none, none, none, none, none, none, none, none] [.long bz] (rS h o L G D P R al' (Int32.ofNat (H + 1)) lw hg nm' pl ph) := by
      by_cases p0 : 0 < fr
      · rw [if_pos p0] at bz2
        subst bz2
        simp (disch := omega) only [s_109_0, s_109_1, s_109_2, s_109_5, s_109_6, s_109_7, s_109_10, s_109_11, s_109_14, s_109_15, s_109_16, s_109_17, s_109_18, s_109_21, s_109_22, s_109_23, s_109_24, s_109_25, s_109_28, s_109_31, s_109_32, s_109_33, s_109_34, s_109_37, s_109_38, s_109_39, s_109_40, s_109_41, s_109_42, s_109_43, s_109_46, s_109_47, s_109_50, s_109_51, s_109_54, s_109_55, s_109_56, s_109_57, s_109_58, s_109_59, s_109_60, s_109_63, s_109_64, s_109_65, s_109_66, s_109_67, s_109_68, s_109_69, s_109_72, s_109_75, s_109_78, s_109_79, s_109_82, s_109_83, s_109_84, s_109_85, s_109_86, s_109_88, s_109_89, s_109_90, s_109_91, s_109_94, s_109_95, s_109_98, s_109_100, s_109_103, s_109_108, s_109_110, s_109_111, s_109_112, s_109_115, s_109_117, s_109_120, s_109_121, s_109_122, s_109_125, s_109_127, s_109_128, s_109_131, s_109_132, s_109_133, s_109_135, s_109_136, s_109_139, s_109_140, s_109_141, s_109_143, s_109_145, s_109_147, s_109_148, s_109_150, s_109_153, s_109_155, s_109_157, s_109_159, s_109_161, s_109_163, s_109_166, s_109_168, s_109_169, s_109_172, s_109_173, s_109_175, s_109_177, s_109_180, s_109_181, s_109_183, s_109_184, s_109_186, s_109_187, s_109_188, s_109_190, s_109_193, s_109_195, s_109_197, s_109_198, s_109_200, s_109_201, s_109_203, s_109_205, s_109_208, s_109_210, s_109_211, s_109_214, s_109_215, s_109_217, s_109_219, s_109_222, s_109_223, s_109_224, s_109_225, e_109, mv_i_1, mv_l_1, mv_a_1, mv_a_2, mv_a_3, mk2_n, mk2_i, mk2_l, mk2_a, mk2_u, mk2_x, mB_T, mB_F, mS_cons, mS_nil, mSB_T, mSB_F, mca_nil, mca_i, mca_l, mca_r, mca_u, mca_x, mcat_i, mcat_l, mcat_r, mcat_u, mcat_x, mK_some, mK_none, va_rf_s, va_rf_n, lgc_eq, lgc_lt, lgc_gt, lgc_ge, lgc_le, mrd_104, mrd_105, mrd_106, mrd_107, true_and, and_true, and_self, false_and, and_false, true_or, or_true, false_or, or_false, not_true_eq_false, not_false_eq_true, mgb, mga, mgr, mN, reduceCtorEq, ↓reduceIte, eq_self, ge_iff_le, gt_iff_lt, Nat.reduceAdd, Nat.reduceMul, Nat.reduceSub, Nat.reduceLT, Nat.reduceGT, Nat.reduceEqDiff, Nat.reduceLeDiff, Nat.left_eq_add, Nat.add_eq_left, Nat.reduceMod, Nat.reduceDiv, Nat.succ_ne_self, p0, le_nlt64, mB_not]
      · rw [if_neg p0] at bz2
        simp (disch := omega) only [s_109_0, s_109_1, s_109_2, s_109_5, s_109_6, s_109_7, s_109_10, s_109_11, s_109_14, s_109_15, s_109_16, s_109_17, s_109_18, s_109_21, s_109_22, s_109_23, s_109_24, s_109_25, s_109_28, s_109_31, s_109_32, s_109_33, s_109_34, s_109_37, s_109_38, s_109_39, s_109_40, s_109_41, s_109_42, s_109_43, s_109_46, s_109_47, s_109_50, s_109_51, s_109_54, s_109_55, s_109_56, s_109_57, s_109_58, s_109_59, s_109_60, s_109_63, s_109_64, s_109_65, s_109_66, s_109_67, s_109_68, s_109_69, s_109_72, s_109_75, s_109_78, s_109_79, s_109_82, s_109_83, s_109_84, s_109_85, s_109_86, s_109_88, s_109_89, s_109_90, s_109_91, s_109_94, s_109_95, s_109_98, s_109_100, s_109_103, s_109_108, s_109_110, s_109_111, s_109_112, s_109_115, s_109_117, s_109_120, s_109_121, s_109_122, s_109_125, s_109_127, s_109_128, s_109_131, s_109_132, s_109_133, s_109_135, s_109_136, s_109_139, s_109_140, s_109_141, s_109_143, s_109_145, s_109_147, s_109_148, s_109_150, s_109_153, s_109_155, s_109_157, s_109_159, s_109_161, s_109_163, s_109_166, s_109_168, s_109_169, s_109_172, s_109_173, s_109_175, s_109_177, s_109_180, s_109_181, s_109_183, s_109_184, s_109_186, s_109_187, s_109_188, s_109_190, s_109_193, s_109_195, s_109_197, s_109_198, s_109_200, s_109_201, s_109_203, s_109_205, s_109_208, s_109_210, s_109_211, s_109_214, s_109_215, s_109_217, s_109_219, s_109_222, s_109_223, s_109_224, s_109_225, e_109, mv_i_1, mv_l_1, mv_a_1, mv_a_2, mv_a_3, mk2_n, mk2_i, mk2_l, mk2_a, mk2_u, mk2_x, mB_T, mB_F, mS_cons, mS_nil, mSB_T, mSB_F, mca_nil, mca_i, mca_l, mca_r, mca_u, mca_x, mcat_i, mcat_l, mcat_r, mcat_u, mcat_x, mK_some, mK_none, va_rf_s, va_rf_n, lgc_eq, lgc_lt, lgc_gt, lgc_ge, lgc_le, mrd_104, mrd_105, mrd_106, mrd_107, true_and, and_true, and_self, false_and, and_false, true_or, or_true, false_or, or_false, not_true_eq_false, not_false_eq_true, mgb, mga, mgr, mN, reduceCtorEq, ↓reduceIte, eq_self, ge_iff_le, gt_iff_lt, Nat.reduceAdd, Nat.reduceMul, Nat.reduceSub, Nat.reduceLT, Nat.reduceGT, Nat.reduceEqDiff, Nat.reduceLeDiff, Nat.left_eq_add, Nat.add_eq_left, Nat.reduceMod, Nat.reduceDiv, Nat.succ_ne_self, p0, le_nlt64, mB_not, f_lmin, bz2]
    refine E3.trans ?_
    clear E3
    have E4 : mw (d + 1) 109 Q 106 [some (.ref o), some (.int (Int32.ofNat H)), some (.long fr), none, some (.long tt), none, none, none, none, none, none, none, none, none, none, none, none, none] [.long bz] (rS h o L G D P R al' (Int32.ofNat (H + 1)) lw hg nm' pl ph) = mw (d + 1) 109 Q 125 [some (.ref o), some (.int (Int32.ofNat H)), some (.long fr), none, some (.long tt), none, some (.long bz), none, none, none, none, none, none, none, none, none, none, none] [.long bh] (rS h o L G D P R al' (Int32.ofNat (H + 1)) lw hg nm' pl ph) := by
      by_cases q0 : tt < 0
      · rw [if_pos q0] at bh2
        subst bh2
        simp (disch := omega) only [s_109_0, s_109_1, s_109_2, s_109_5, s_109_6, s_109_7, s_109_10, s_109_11, s_109_14, s_109_15, s_109_16, s_109_17, s_109_18, s_109_21, s_109_22, s_109_23, s_109_24, s_109_25, s_109_28, s_109_31, s_109_32, s_109_33, s_109_34, s_109_37, s_109_38, s_109_39, s_109_40, s_109_41, s_109_42, s_109_43, s_109_46, s_109_47, s_109_50, s_109_51, s_109_54, s_109_55, s_109_56, s_109_57, s_109_58, s_109_59, s_109_60, s_109_63, s_109_64, s_109_65, s_109_66, s_109_67, s_109_68, s_109_69, s_109_72, s_109_75, s_109_78, s_109_79, s_109_82, s_109_83, s_109_84, s_109_85, s_109_86, s_109_88, s_109_89, s_109_90, s_109_91, s_109_94, s_109_95, s_109_98, s_109_100, s_109_103, s_109_106, s_109_108, s_109_110, s_109_111, s_109_112, s_109_115, s_109_117, s_109_120, s_109_121, s_109_122, s_109_127, s_109_128, s_109_131, s_109_132, s_109_133, s_109_135, s_109_136, s_109_139, s_109_140, s_109_141, s_109_143, s_109_145, s_109_147, s_109_148, s_109_150, s_109_153, s_109_155, s_109_157, s_109_159, s_109_161, s_109_163, s_109_166, s_109_168, s_109_169, s_109_172, s_109_173, s_109_175, s_109_177, s_109_180, s_109_181, s_109_183, s_109_184, s_109_186, s_109_187, s_109_188, s_109_190, s_109_193, s_109_195, s_109_197, s_109_198, s_109_200, s_109_201, s_109_203, s_109_205, s_109_208, s_109_210, s_109_211, s_109_214, s_109_215, s_109_217, s_109_219, s_109_222, s_109_223, s_109_224, s_109_225, e_109, mv_i_1, mv_l_1, mv_a_1, mv_a_2, mv_a_3, mk2_n, mk2_i, mk2_l, mk2_a, mk2_u, mk2_x, mB_T, mB_F, mS_cons, mS_nil, mSB_T, mSB_F, mca_nil, mca_i, mca_l, mca_r, mca_u, mca_x, mcat_i, mcat_l, mcat_r, mcat_u, mcat_x, mK_some, mK_none, va_rf_s, va_rf_n, lgc_eq, lgc_lt, lgc_gt, lgc_ge, lgc_le, mrd_104, mrd_105, mrd_106, mrd_107, true_and, and_true, and_self, false_and, and_false, true_or, or_true, false_or, or_false, not_true_eq_false, not_false_eq_true, mgb, mga, mgr, mN, reduceCtorEq, ↓reduceIte, eq_self, ge_iff_le, gt_iff_lt, Nat.reduceAdd, Nat.reduceMul, Nat.reduceSub, Nat.reduceLT, Nat.reduceGT, Nat.reduceEqDiff, Nat.reduceLeDiff, Nat.left_eq_add, Nat.add_eq_left, Nat.reduceMod, Nat.reduceDiv, Nat.succ_ne_self, q0, le_nlt64, mB_not]
      · rw [if_neg q0] at bh2
        simp (disch := omega) only [s_109_0, s_109_1, s_109_2, s_109_5, s_109_6, s_109_7, s_109_10, s_109_11, s_109_14, s_109_15, s_109_16, s_109_17, s_109_18, s_109_21, s_109_22, s_109_23, s_109_24, s_109_25, s_109_28, s_109_31, s_109_32, s_109_33, s_109_34, s_109_37, s_109_38, s_109_39, s_109_40, s_109_41, s_109_42, s_109_43, s_109_46, s_109_47, s_109_50, s_109_51, s_109_54, s_109_55, s_109_56, s_109_57, s_109_58, s_109_59, s_109_60, s_109_63, s_109_64, s_109_65, s_109_66, s_109_67, s_109_68, s_109_69, s_109_72, s_109_75, s_109_78, s_109_79, s_109_82, s_109_83, s_109_84, s_109_85, s_109_86, s_109_88, s_109_89, s_109_90, s_109_91, s_109_94, s_109_95, s_109_98, s_109_100, s_109_103, s_109_106, s_109_108, s_109_110, s_109_111, s_109_112, s_109_115, s_109_117, s_109_120, s_109_121, s_109_122, s_109_127, s_109_128, s_109_131, s_109_132, s_109_133, s_109_135, s_109_136, s_109_139, s_109_140, s_109_141, s_109_143, s_109_145, s_109_147, s_109_148, s_109_150, s_109_153, s_109_155, s_109_157, s_109_159, s_109_161, s_109_163, s_109_166, s_109_168, s_109_169, s_109_172, s_109_173, s_109_175, s_109_177, s_109_180, s_109_181, s_109_183, s_109_184, s_109_186, s_109_187, s_109_188, s_109_190, s_109_193, s_109_195, s_109_197, s_109_198, s_109_200, s_109_201, s_109_203, s_109_205, s_109_208, s_109_210, s_109_211, s_109_214, s_109_215, s_109_217, s_109_219, s_109_222, s_109_223, s_109_224, s_109_225, e_109, mv_i_1, mv_l_1, mv_a_1, mv_a_2, mv_a_3, mk2_n, mk2_i, mk2_l, mk2_a, mk2_u, mk2_x, mB_T, mB_F, mS_cons, mS_nil, mSB_T, mSB_F, mca_nil, mca_i, mca_l, mca_r, mca_u, mca_x, mcat_i, mcat_l, mcat_r, mcat_u, mcat_x, mK_some, mK_none, va_rf_s, va_rf_n, lgc_eq, lgc_lt, lgc_gt, lgc_ge, lgc_le, mrd_104, mrd_105, mrd_106, mrd_107, true_and, and_true, and_self, false_and, and_false, true_or, or_true, false_or, or_false, not_true_eq_false, not_false_eq_true, mgb, mga, mgr, mN, reduceCtorEq, ↓reduceIte, eq_self, ge_iff_le, gt_iff_lt, Nat.reduceAdd, Nat.reduceMul, Nat.reduceSub, Nat.reduceLT, Nat.reduceGT, Nat.reduceEqDiff, Nat.reduceLeDiff, Nat.left_eq_add, Nat.add_eq_left, Nat.reduceMod, Nat.reduceDiv, Nat.succ_ne_self, q0, le_nlt64, mB_not, f_lmax, bh2]
    refine E4.trans ?_
    clear E4 fr2 tt2 bz2 bh2
    simp (disch := omega) only [s_109_0, s_109_1, s_109_2, s_109_5, s_109_6, s_109_7, s_109_10, s_109_11, s_109_14, s_109_15, s_109_16, s_109_17, s_109_18, s_109_21, s_109_22, s_109_23, s_109_24, s_109_25, s_109_28, s_109_31, s_109_32, s_109_33, s_109_34, s_109_37, s_109_38, s_109_39, s_109_40, s_109_41, s_109_42, s_109_43, s_109_46, s_109_47, s_109_50, s_109_51, s_109_54, s_109_55, s_109_56, s_109_57, s_109_58, s_109_59, s_109_60, s_109_63, s_109_64, s_109_65, s_109_66, s_109_67, s_109_68, s_109_69, s_109_72, s_109_75, s_109_78, s_109_79, s_109_82, s_109_83, s_109_84, s_109_85, s_109_86, s_109_88, s_109_89, s_109_90, s_109_91, s_109_94, s_109_95, s_109_98, s_109_100, s_109_103, s_109_106, s_109_108, s_109_110, s_109_111, s_109_112, s_109_115, s_109_117, s_109_120, s_109_121, s_109_122, s_109_125, s_109_127, s_109_128, s_109_131, s_109_132, s_109_133, s_109_135, s_109_136, s_109_139, s_109_140, s_109_141, s_109_143, s_109_145, s_109_147, s_109_148, s_109_150, s_109_153, s_109_155, s_109_157, s_109_159, s_109_161, s_109_163, s_109_166, s_109_168, s_109_169, s_109_172, s_109_173, s_109_175, s_109_177, s_109_180, s_109_181, s_109_183, s_109_184, s_109_186, s_109_187, s_109_188, s_109_190, s_109_193, s_109_195, s_109_197, s_109_198, s_109_200, s_109_201, s_109_203, s_109_205, s_109_208, s_109_210, s_109_211, s_109_214, s_109_215, s_109_217, s_109_219, s_109_222, s_109_223, s_109_224, s_109_225, e_109, mv_i_1, mv_l_1, mv_a_1, mv_a_2, mv_a_3, mk2_n, mk2_i, mk2_l, mk2_a, mk2_u, mk2_x, mB_T, mB_F, mS_cons, mS_nil, mSB_T, mSB_F, mca_nil, mca_i, mca_l, mca_r, mca_u, mca_x, mcat_i, mcat_l, mcat_r, mcat_u, mcat_x, mK_some, mK_none, va_rf_s, va_rf_n, lgc_eq, lgc_lt, lgc_gt, lgc_ge, lgc_le, mrd_104, mrd_105, mrd_106, mrd_107, true_and, and_true, and_self, false_and, and_false, true_or, or_true, false_or, or_false, not_true_eq_false, not_false_eq_true, mgb, mga, mgr, mN, reduceCtorEq, ↓reduceIte, eq_self, ge_iff_le, gt_iff_lt, Nat.reduceAdd, Nat.reduceMul, Nat.reduceSub, Nat.reduceLT, Nat.reduceGT, Nat.reduceEqDiff, Nat.reduceLeDiff, Nat.left_eq_add, Nat.add_eq_left, Nat.reduceMod, Nat.reduceDiv, Nat.succ_ne_self, rS_g, rS_i, rS_j, rS_k, rS_n, rS_r, rS_l, rS_L, rS_G n1, g, r5, r6, gL, gG, lL, lG, n1, nn_mxT, nn_clamp, ei, up_s, up_n n, f_lmin, f_lmax, c_110 f0 f1, c_110 f2 f3]
end RBS4
