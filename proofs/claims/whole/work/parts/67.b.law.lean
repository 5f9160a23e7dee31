set_option maxRecDepth 100000
/-! the law's loop: more calls -/
section LWs
variable {R : Nat → Prop} {k i L : Nat} {xs : Nat → Int32} {h h1 h2 : mh_H} {fd : Nat × (Nat → Int32)} {td : Bool × Int32 × Int32 × Int32} {g : pgz} {cl : Nat → Option ab} {ip : Nat × (Nat → Int32)} {rz : rnz} {T : List Int32}
set_option maxRecDepth 100000 in
theorem lv_7 (I : INV R k h fd td g cl ip rz T) (hk : k < 512) (hL : L ≤ 4096) (hi : i + 8 ≤ L) (nx : NX L xs k i) : lw L xs 2047 lq 465 [some (.retAddr 8), some (.ref 0), some (.ref 81), some (.int (Int32.ofNat i))] [] h := by
  obtain ⟨m1, c1⟩ := lx_i hL (j := i + 1) (by omega)
  obtain ⟨m2, c2⟩ := lx_i hL (j := i + 2) (by omega)
  obtain ⟨m3, c3⟩ := lx_i hL (j := i + 3) (by omega)
  obtain ⟨m4, c4⟩ := lx_i hL (j := i + 4) (by omega)
  obtain ⟨m5, c5⟩ := lx_i hL (j := i + 5) (by omega)
  obtain ⟨m6, c6⟩ := lx_i hL (j := i + 6) (by omega)
  obtain ⟨m7, c7⟩ := lx_i hL (j := i + 7) (by omega)
  obtain ⟨R', h1, h2, r, fd', td', g', cl', ip', rz', T', run1, run2, I'⟩ := s_claim I (xs (i + 1)) (xs (i + 2)) (xs (i + 3)) (xs (i + 4)) (xs (i + 5)) ((xs (i + 6)).toInt64 <<< ((32 : Int32).toInt64 &&& 63) ||| (xs (i + 7)).toInt64 &&& 4294967295)
  have w := nx _ _ _ _ _ _ _ _ _ I'
  obtain ⟨g0, g8⟩ := g_81 I run1 (fun v hv o e => by subst e; simp at hv)
  have rr : (r = r) = True := eq_self r
  clear I I' nx
  simp (disch := omega) only [s_406_465, s_406_466, s_406_467, s_406_468, s_406_469, s_406_470, s_406_471, s_406_472, s_406_473, s_406_474, s_406_475, s_406_476, s_406_477, s_406_478, s_406_479, s_406_480, s_406_481, s_406_482, s_406_483, s_406_484, s_406_485, s_406_486, s_406_487, s_406_488, s_406_489, s_406_490, s_406_491, s_406_492, s_406_493, s_406_495, s_406_496, s_406_497, s_406_498, s_406_500, s_406_501, s_406_502, s_406_503, s_406_505, s_406_506, s_406_507, s_406_508, s_406_511, s_406_512, s_406_513, s_406_516, s_406_517, s_406_518, s_406_519, s_406_520, s_406_521, s_406_522, s_406_523, s_406_524, s_406_525, s_406_526, s_406_527, s_406_528, s_406_529, s_406_530, s_406_531, s_406_532, s_406_533, s_406_534, s_406_535, s_406_536, s_406_537, s_406_538, s_406_539, s_406_540, s_406_541, s_406_542, s_406_543, s_406_544, s_406_546, s_406_547, s_406_548, s_406_549, s_406_551, s_406_552, s_406_553, s_406_554, s_406_556, s_406_557, s_406_558, s_406_559, s_406_562, s_406_563, s_406_564, s_406_567, s_406_570, s_406_571, lK_some, lK_none, mv_i_1, mv_l_1, mv_a_1, mv_a_2, mv_a_3, mk2_n, mk2_i, mk2_l, mk2_a, mk2_u, mk2_x, mB_T, mB_F, mS_cons, mS_nil, mSB_T, mSB_F, mca_nil, mca_i, mca_l, mca_r, mca_u, mca_x, mcat_i, mcat_l, mcat_r, mcat_u, mcat_x, mK_some, mK_none, va_rf_s, va_rf_n, lgc_eq, lgc_lt, lgc_gt, lgc_ge, lgc_le, mrd_104, mrd_105, mrd_106, mrd_107, true_and, and_true, and_self, false_and, and_false, true_or, or_true, false_or, or_false, not_true_eq_false, not_false_eq_true, mgb, mga, mgr, mN, reduceCtorEq, ↓reduceIte, eq_self, ge_iff_le, gt_iff_lt, hk_si, hk_sj, hk_sr, hl_si, hl_sj, hl_sr, hn_si, hn_sj, hn_sr, hs_si, hs_sj, hs_sr, hi_sj, hi_sr, hj_si, hj_sr, hr_si, hr_sj, hi_si, hj_sj, hr_sr, mg_si, mg_sj, mg_sr, lx_1, lx_2, lx_3, lx_4, lx_5, lx_6, lx_7, m1, c1, m2, c2, m3, c3, m4, c4, m5, c5, m6, c6, m7, c7, g0, g8, run1, run2, rr]
  exact w
set_option maxRecDepth 100000 in
theorem lv_8 (I : INV R k h fd td g cl ip rz T) (hk : k < 512) (hL : L ≤ 4096) (hi : i + 8 ≤ L) (nx : NX L xs k i) : lw L xs 2047 lq 572 [some (.retAddr 8), some (.ref 0), some (.ref 81), some (.int (Int32.ofNat i))] [] h := by
  obtain ⟨m1, c1⟩ := lx_i hL (j := i + 1) (by omega)
  obtain ⟨m2, c2⟩ := lx_i hL (j := i + 2) (by omega)
  obtain ⟨m3, c3⟩ := lx_i hL (j := i + 3) (by omega)
  obtain ⟨m4, c4⟩ := lx_i hL (j := i + 4) (by omega)
  by_cases q3 : xs (i + 3) = 0
  · have z3 : (xs (i + 3) = 0) = True := eq_true q3
    obtain ⟨R', h1, h2, r, fd', td', g', cl', ip', rz', T', run1, run2, I'⟩ := s_crange I (xs (i + 1)) (xs (i + 2)) 0 (xs (i + 4))
    have w := nx _ _ _ _ _ _ _ _ _ I'
    obtain ⟨g0, g8⟩ := g_81 I run1 (fun v hv o e => by subst e; simp at hv)
    have rr : (r = r) = True := eq_self r
    clear I I' nx
    simp (disch := omega) only [s_406_572, s_406_573, s_406_574, s_406_575, s_406_576, s_406_577, s_406_578, s_406_579, s_406_580, s_406_581, s_406_582, s_406_583, s_406_584, s_406_585, s_406_586, s_406_587, s_406_588, s_406_591, s_406_592, s_406_595, s_406_596, s_406_597, s_406_598, s_406_599, s_406_600, s_406_601, s_406_604, s_406_605, s_406_606, s_406_607, s_406_608, s_406_609, s_406_610, s_406_611, s_406_612, s_406_613, s_406_614, s_406_615, s_406_616, s_406_617, s_406_618, s_406_619, s_406_620, s_406_623, s_406_624, s_406_627, s_406_628, s_406_629, s_406_630, s_406_631, s_406_632, s_406_633, s_406_636, s_406_639, s_406_640, lK_some, lK_none, mv_i_1, mv_l_1, mv_a_1, mv_a_2, mv_a_3, mk2_n, mk2_i, mk2_l, mk2_a, mk2_u, mk2_x, mB_T, mB_F, mS_cons, mS_nil, mSB_T, mSB_F, mca_nil, mca_i, mca_l, mca_r, mca_u, mca_x, mcat_i, mcat_l, mcat_r, mcat_u, mcat_x, mK_some, mK_none, va_rf_s, va_rf_n, lgc_eq, lgc_lt, lgc_gt, lgc_ge, lgc_le, mrd_104, mrd_105, mrd_106, mrd_107, true_and, and_true, and_self, false_and, and_false, true_or, or_true, false_or, or_false, not_true_eq_false, not_false_eq_true, mgb, mga, mgr, mN, reduceCtorEq, ↓reduceIte, eq_self, ge_iff_le, gt_iff_lt, hk_si, hk_sj, hk_sr, hl_si, hl_sj, hl_sr, hn_si, hn_sj, hn_sr, hs_si, hs_sj, hs_sr, hi_sj, hi_sr, hj_si, hj_sr, hr_si, hr_sj, hi_si, hj_sj, hr_sr, mg_si, mg_sj, mg_sr, lx_1, lx_2, lx_3, lx_4, lx_5, lx_6, lx_7, m1, c1, m2, c2, m3, c3, m4, c4, z3, g0, g8, run1, run2, rr]
    exact w
  · have z3 : (xs (i + 3) = 0) = False := eq_false q3
    obtain ⟨R', h1, h2, r, fd', td', g', cl', ip', rz', T', run1, run2, I'⟩ := s_crange I (xs (i + 1)) (xs (i + 2)) 1 (xs (i + 4))
    have w := nx _ _ _ _ _ _ _ _ _ I'
    obtain ⟨g0, g8⟩ := g_81 I run1 (fun v hv o e => by subst e; simp at hv)
    have rr : (r = r) = True := eq_self r
    clear I I' nx
    simp (disch := omega) only [s_406_572, s_406_573, s_406_574, s_406_575, s_406_576, s_406_577, s_406_578, s_406_579, s_406_580, s_406_581, s_406_582, s_406_583, s_406_584, s_406_585, s_406_586, s_406_587, s_406_588, s_406_591, s_406_592, s_406_595, s_406_596, s_406_597, s_406_598, s_406_599, s_406_600, s_406_601, s_406_604, s_406_605, s_406_606, s_406_607, s_406_608, s_406_609, s_406_610, s_406_611, s_406_612, s_406_613, s_406_614, s_406_615, s_406_616, s_406_617, s_406_618, s_406_619, s_406_620, s_406_623, s_406_624, s_406_627, s_406_628, s_406_629, s_406_630, s_406_631, s_406_632, s_406_633, s_406_636, s_406_639, s_406_640, lK_some, lK_none, mv_i_1, mv_l_1, mv_a_1, mv_a_2, mv_a_3, mk2_n, mk2_i, mk2_l, mk2_a, mk2_u, mk2_x, mB_T, mB_F, mS_cons, mS_nil, mSB_T, mSB_F, mca_nil, mca_i, mca_l, mca_r, mca_u, mca_x, mcat_i, mcat_l, mcat_r, mcat_u, mcat_x, mK_some, mK_none, va_rf_s, va_rf_n, lgc_eq, lgc_lt, lgc_gt, lgc_ge, lgc_le, mrd_104, mrd_105, mrd_106, mrd_107, true_and, and_true, and_self, false_and, and_false, true_or, or_true, false_or, or_false, not_true_eq_false, not_false_eq_true, mgb, mga, mgr, mN, reduceCtorEq, ↓reduceIte, eq_self, ge_iff_le, gt_iff_lt, hk_si, hk_sj, hk_sr, hl_si, hl_sj, hl_sr, hn_si, hn_sj, hn_sr, hs_si, hs_sj, hs_sr, hi_sj, hi_sr, hj_si, hj_sr, hr_si, hr_sj, hi_si, hj_sj, hr_sr, mg_si, mg_sj, mg_sr, lx_1, lx_2, lx_3, lx_4, lx_5, lx_6, lx_7, m1, c1, m2, c2, m3, c3, m4, c4, z3, g0, g8, run1, run2, rr]
    exact w
set_option maxRecDepth 100000 in
theorem lv_9 (I : INV R k h fd td g cl ip rz T) (hk : k < 512) (hL : L ≤ 4096) (hi : i + 8 ≤ L) (nx : NX L xs k i) : lw L xs 2047 lq 641 [some (.retAddr 8), some (.ref 0), some (.ref 81), some (.int (Int32.ofNat i))] [] h := by
  obtain ⟨m1, c1⟩ := lx_i hL (j := i + 1) (by omega)
  obtain ⟨R', h1, h2, r, fd', td', g', cl', ip', rz', T', run1, run2, I'⟩ := s_cnothing I (xs (i + 1))
  have w := nx _ _ _ _ _ _ _ _ _ I'
  obtain ⟨g0, g8⟩ := g_81 I run1 (fun v hv o e => by subst e; simp at hv)
  have rr : (r = r) = True := eq_self r
  clear I I' nx
  simp (disch := omega) only [s_406_641, s_406_642, s_406_643, s_406_644, s_406_645, s_406_646, s_406_647, s_406_650, s_406_651, s_406_652, s_406_653, s_406_654, s_406_655, s_406_656, s_406_659, s_406_662, s_406_663, lK_some, lK_none, mv_i_1, mv_l_1, mv_a_1, mv_a_2, mv_a_3, mk2_n, mk2_i, mk2_l, mk2_a, mk2_u, mk2_x, mB_T, mB_F, mS_cons, mS_nil, mSB_T, mSB_F, mca_nil, mca_i, mca_l, mca_r, mca_u, mca_x, mcat_i, mcat_l, mcat_r, mcat_u, mcat_x, mK_some, mK_none, va_rf_s, va_rf_n, lgc_eq, lgc_lt, lgc_gt, lgc_ge, lgc_le, mrd_104, mrd_105, mrd_106, mrd_107, true_and, and_true, and_self, false_and, and_false, true_or, or_true, false_or, or_false, not_true_eq_false, not_false_eq_true, mgb, mga, mgr, mN, reduceCtorEq, ↓reduceIte, eq_self, ge_iff_le, gt_iff_lt, hk_si, hk_sj, hk_sr, hl_si, hl_sj, hl_sr, hn_si, hn_sj, hn_sr, hs_si, hs_sj, hs_sr, hi_sj, hi_sr, hj_si, hj_sr, hr_si, hr_sj, hi_si, hj_sj, hr_sr, mg_si, mg_sj, mg_sr, lx_1, lx_2, lx_3, lx_4, lx_5, lx_6, lx_7, m1, c1, g0, g8, run1, run2, rr]
  exact w
set_option maxRecDepth 100000 in
theorem lv_10 (I : INV R k h fd td g cl ip rz T) (hk : k < 512) (hL : L ≤ 4096) (hi : i + 8 ≤ L) (nx : NX L xs k i) : lw L xs 2047 lq 664 [some (.retAddr 8), some (.ref 0), some (.ref 81), some (.int (Int32.ofNat i))] [] h := by
  obtain ⟨R', h1, h2, r, fd', td', g', cl', ip', rz', T', run1, run2, I'⟩ := s_unclaim I
  have w := nx _ _ _ _ _ _ _ _ _ I'
  obtain ⟨g0, g8⟩ := g_81 I run1 (fun v hv o e => by subst e; simp at hv)
  have rr : (r = r) = True := eq_self r
  clear I I' nx
  simp (disch := omega) only [s_406_664, s_406_665, s_406_668, s_406_669, s_406_672, s_406_675, s_406_676, lK_some, lK_none, mv_i_1, mv_l_1, mv_a_1, mv_a_2, mv_a_3, mk2_n, mk2_i, mk2_l, mk2_a, mk2_u, mk2_x, mB_T, mB_F, mS_cons, mS_nil, mSB_T, mSB_F, mca_nil, mca_i, mca_l, mca_r, mca_u, mca_x, mcat_i, mcat_l, mcat_r, mcat_u, mcat_x, mK_some, mK_none, va_rf_s, va_rf_n, lgc_eq, lgc_lt, lgc_gt, lgc_ge, lgc_le, mrd_104, mrd_105, mrd_106, mrd_107, true_and, and_true, and_self, false_and, and_false, true_or, or_true, false_or, or_false, not_true_eq_false, not_false_eq_true, mgb, mga, mgr, mN, reduceCtorEq, ↓reduceIte, eq_self, ge_iff_le, gt_iff_lt, hk_si, hk_sj, hk_sr, hl_si, hl_sj, hl_sr, hn_si, hn_sj, hn_sr, hs_si, hs_sj, hs_sr, hi_sj, hi_sr, hj_si, hj_sr, hr_si, hr_sj, hi_si, hj_sj, hr_sr, mg_si, mg_sj, mg_sr, lx_1, lx_2, lx_3, lx_4, lx_5, lx_6, lx_7, g0, g0, g8, run1, run2, rr]
  exact w
set_option maxRecDepth 100000 in
theorem lv_11 (I : INV R k h fd td g cl ip rz T) (hk : k < 512) (hL : L ≤ 4096) (hi : i + 8 ≤ L) (nx : NX L xs k i) : lw L xs 2047 lq 677 [some (.retAddr 8), some (.ref 0), some (.ref 81), some (.int (Int32.ofNat i))] [] h := by
  obtain ⟨R', h1, h2, r, fd', td', g', cl', ip', rz', T', run1, run2, I'⟩ := s_ind I
  have w := nx _ _ _ _ _ _ _ _ _ I'
  obtain ⟨g0, g8⟩ := g_81 I run1 (fun v hv o e => by subst e; simp at hv)
  have rr : (r = r) = True := eq_self r
  clear I I' nx
  simp (disch := omega) only [s_406_677, s_406_678, s_406_681, s_406_682, s_406_685, s_406_688, s_406_689, lK_some, lK_none, mv_i_1, mv_l_1, mv_a_1, mv_a_2, mv_a_3, mk2_n, mk2_i, mk2_l, mk2_a, mk2_u, mk2_x, mB_T, mB_F, mS_cons, mS_nil, mSB_T, mSB_F, mca_nil, mca_i, mca_l, mca_r, mca_u, mca_x, mcat_i, mcat_l, mcat_r, mcat_u, mcat_x, mK_some, mK_none, va_rf_s, va_rf_n, lgc_eq, lgc_lt, lgc_gt, lgc_ge, lgc_le, mrd_104, mrd_105, mrd_106, mrd_107, true_and, and_true, and_self, false_and, and_false, true_or, or_true, false_or, or_false, not_true_eq_false, not_false_eq_true, mgb, mga, mgr, mN, reduceCtorEq, ↓reduceIte, eq_self, ge_iff_le, gt_iff_lt, hk_si, hk_sj, hk_sr, hl_si, hl_sj, hl_sr, hn_si, hn_sj, hn_sr, hs_si, hs_sj, hs_sr, hi_sj, hi_sr, hj_si, hj_sr, hr_si, hr_sj, hi_si, hj_sj, hr_sr, mg_si, mg_sj, mg_sr, lx_1, lx_2, lx_3, lx_4, lx_5, lx_6, lx_7, g0, g0, g8, run1, run2, rr]
  exact w
set_option maxRecDepth 100000 in
theorem lv_12 (I : INV R k h fd td g cl ip rz T) (hk : k < 512) (hL : L ≤ 4096) (hi : i + 8 ≤ L) (nx : NX L xs k i) : lw L xs 2047 lq 690 [some (.retAddr 8), some (.ref 0), some (.ref 81), some (.int (Int32.ofNat i))] [] h := by
  obtain ⟨m1, c1⟩ := lx_i hL (j := i + 1) (by omega)
  obtain ⟨R', h1, h2, r, fd', td', g', cl', ip', rz', T', run1, run2, I'⟩ := s_input I (xs (i + 1))
  have w := nx _ _ _ _ _ _ _ _ _ I'
  obtain ⟨g0, g8⟩ := g_81 I run1 (fun v hv o e => by subst e; simp at hv)
  have rr : (r = r) = True := eq_self r
  clear I I' nx
  simp (disch := omega) only [s_406_690, s_406_691, s_406_692, s_406_693, s_406_694, s_406_695, s_406_696, s_406_699, s_406_700, s_406_701, s_406_702, s_406_703, s_406_704, s_406_705, s_406_708, s_406_711, s_406_712, lK_some, lK_none, mv_i_1, mv_l_1, mv_a_1, mv_a_2, mv_a_3, mk2_n, mk2_i, mk2_l, mk2_a, mk2_u, mk2_x, mB_T, mB_F, mS_cons, mS_nil, mSB_T, mSB_F, mca_nil, mca_i, mca_l, mca_r, mca_u, mca_x, mcat_i, mcat_l, mcat_r, mcat_u, mcat_x, mK_some, mK_none, va_rf_s, va_rf_n, lgc_eq, lgc_lt, lgc_gt, lgc_ge, lgc_le, mrd_104, mrd_105, mrd_106, mrd_107, true_and, and_true, and_self, false_and, and_false, true_or, or_true, false_or, or_false, not_true_eq_false, not_false_eq_true, mgb, mga, mgr, mN, reduceCtorEq, ↓reduceIte, eq_self, ge_iff_le, gt_iff_lt, hk_si, hk_sj, hk_sr, hl_si, hl_sj, hl_sr, hn_si, hn_sj, hn_sr, hs_si, hs_sj, hs_sr, hi_sj, hi_sr, hj_si, hj_sr, hr_si, hr_sj, hi_si, hj_sj, hr_sr, mg_si, mg_sj, mg_sr, lx_1, lx_2, lx_3, lx_4, lx_5, lx_6, lx_7, m1, c1, g0, g8, run1, run2, rr]
  exact w
set_option maxRecDepth 100000 in
theorem lv_13 (I : INV R k h fd td g cl ip rz T) (hk : k < 512) (hL : L ≤ 4096) (hi : i + 8 ≤ L) (nx : NX L xs k i) : lw L xs 2047 lq 713 [some (.retAddr 8), some (.ref 0), some (.ref 81), some (.int (Int32.ofNat i))] [] h := by
  obtain ⟨R', h1, h2, r, fd', td', g', cl', ip', rz', T', run1, run2, I'⟩ := s_drop I
  have w := nx _ _ _ _ _ _ _ _ _ I'
  obtain ⟨g0, g8⟩ := g_81 I run1 (fun v hv o e => by subst e; simp at hv)
  have rr : (r = r) = True := eq_self r
  clear I I' nx
  simp (disch := omega) only [s_406_713, s_406_714, s_406_717, s_406_718, s_406_721, s_406_724, s_406_725, lK_some, lK_none, mv_i_1, mv_l_1, mv_a_1, mv_a_2, mv_a_3, mk2_n, mk2_i, mk2_l, mk2_a, mk2_u, mk2_x, mB_T, mB_F, mS_cons, mS_nil, mSB_T, mSB_F, mca_nil, mca_i, mca_l, mca_r, mca_u, mca_x, mcat_i, mcat_l, mcat_r, mcat_u, mcat_x, mK_some, mK_none, va_rf_s, va_rf_n, lgc_eq, lgc_lt, lgc_gt, lgc_ge, lgc_le, mrd_104, mrd_105, mrd_106, mrd_107, true_and, and_true, and_self, false_and, and_false, true_or, or_true, false_or, or_false, not_true_eq_false, not_false_eq_true, mgb, mga, mgr, mN, reduceCtorEq, ↓reduceIte, eq_self, ge_iff_le, gt_iff_lt, hk_si, hk_sj, hk_sr, hl_si, hl_sj, hl_sr, hn_si, hn_sj, hn_sr, hs_si, hs_sj, hs_sr, hi_sj, hi_sr, hj_si, hj_sr, hr_si, hr_sj, hi_si, hj_sj, hr_sr, mg_si, mg_sj, mg_sr, lx_1, lx_2, lx_3, lx_4, lx_5, lx_6, lx_7, g0, g0, g8, run1, run2, rr]
  exact w
set_option maxRecDepth 100000 in
theorem lv_14 (I : INV R k h fd td g cl ip rz T) (hk : k < 512) (hL : L ≤ 4096) (hi : i + 8 ≤ L) (nx : NX L xs k i) : lw L xs 2047 lq 726 [some (.retAddr 8), some (.ref 0), some (.ref 81), some (.int (Int32.ofNat i))] [] h := by
  obtain ⟨m1, c1⟩ := lx_i hL (j := i + 1) (by omega)
  obtain ⟨R', h1, h2, r, fd', td', g', cl', ip', rz', T', run1, run2, I'⟩ := s_run I (xs (i + 1))
  have w := nx _ _ _ _ _ _ _ _ _ I'
  obtain ⟨g0, g8⟩ := g_81 I run1 (fun v hv o e => by subst e; simp at hv)
  have rr : (r = r) = True := eq_self r
  clear I I' nx
  simp (disch := omega) only [s_406_726, s_406_727, s_406_728, s_406_729, s_406_730, s_406_731, s_406_732, s_406_735, s_406_736, s_406_737, s_406_738, s_406_739, s_406_740, s_406_741, s_406_744, s_406_747, s_406_748, lK_some, lK_none, mv_i_1, mv_l_1, mv_a_1, mv_a_2, mv_a_3, mk2_n, mk2_i, mk2_l, mk2_a, mk2_u, mk2_x, mB_T, mB_F, mS_cons, mS_nil, mSB_T, mSB_F, mca_nil, mca_i, mca_l, mca_r, mca_u, mca_x, mcat_i, mcat_l, mcat_r, mcat_u, mcat_x, mK_some, mK_none, va_rf_s, va_rf_n, lgc_eq, lgc_lt, lgc_gt, lgc_ge, lgc_le, mrd_104, mrd_105, mrd_106, mrd_107, true_and, and_true, and_self, false_and, and_false, true_or, or_true, false_or, or_false, not_true_eq_false, not_false_eq_true, mgb, mga, mgr, mN, reduceCtorEq, ↓reduceIte, eq_self, ge_iff_le, gt_iff_lt, hk_si, hk_sj, hk_sr, hl_si, hl_sj, hl_sr, hn_si, hn_sj, hn_sr, hs_si, hs_sj, hs_sr, hi_sj, hi_sr, hj_si, hj_sr, hr_si, hr_sj, hi_si, hj_sj, hr_sr, mg_si, mg_sj, mg_sr, lx_1, lx_2, lx_3, lx_4, lx_5, lx_6, lx_7, m1, c1, g0, g8, run1, run2, rr]
  exact w
set_option maxRecDepth 100000 in
theorem lv_15 (I : INV R k h fd td g cl ip rz T) (hk : k < 512) (hL : L ≤ 4096) (hi : i + 8 ≤ L) (nx : NX L xs k i) : lw L xs 2047 lq 749 [some (.retAddr 8), some (.ref 0), some (.ref 81), some (.int (Int32.ofNat i))] [] h := by
  obtain ⟨m1, c1⟩ := lx_i hL (j := i + 1) (by omega)
  obtain ⟨R', h1, h2, r, fd', td', g', cl', ip', rz', T', run1, run2, I'⟩ := NXT_r I (q_ran I (xs (i + 1)))
  have w := nx _ _ _ _ _ _ _ _ _ I'
  obtain ⟨g0, g8⟩ := g_81 I run1 (fun v hv o e => by subst e; simp at hv)
  have rr : (r = r) = True := eq_self r
  clear I I' nx
  simp (disch := omega) only [s_406_749, s_406_750, s_406_751, s_406_752, s_406_753, s_406_754, s_406_755, s_406_758, s_406_759, s_406_760, s_406_761, s_406_762, s_406_763, s_406_764, s_406_767, s_406_770, s_406_771, lK_some, lK_none, mv_i_1, mv_l_1, mv_a_1, mv_a_2, mv_a_3, mk2_n, mk2_i, mk2_l, mk2_a, mk2_u, mk2_x, mB_T, mB_F, mS_cons, mS_nil, mSB_T, mSB_F, mca_nil, mca_i, mca_l, mca_r, mca_u, mca_x, mcat_i, mcat_l, mcat_r, mcat_u, mcat_x, mK_some, mK_none, va_rf_s, va_rf_n, lgc_eq, lgc_lt, lgc_gt, lgc_ge, lgc_le, mrd_104, mrd_105, mrd_106, mrd_107, true_and, and_true, and_self, false_and, and_false, true_or, or_true, false_or, or_false, not_true_eq_false, not_false_eq_true, mgb, mga, mgr, mN, reduceCtorEq, ↓reduceIte, eq_self, ge_iff_le, gt_iff_lt, hk_si, hk_sj, hk_sr, hl_si, hl_sj, hl_sr, hn_si, hn_sj, hn_sr, hs_si, hs_sj, hs_sr, hi_sj, hi_sr, hj_si, hj_sr, hr_si, hr_sj, hi_si, hj_sj, hr_sr, mg_si, mg_sj, mg_sr, lx_1, lx_2, lx_3, lx_4, lx_5, lx_6, lx_7, m1, c1, g0, g8, run1, run2, rr]
  exact w
set_option maxRecDepth 100000 in
theorem lv_16 (I : INV R k h fd td g cl ip rz T) (hk : k < 512) (hL : L ≤ 4096) (hi : i + 8 ≤ L) (nx : NX L xs k i) : lw L xs 2047 lq 772 [some (.retAddr 8), some (.ref 0), some (.ref 81), some (.int (Int32.ofNat i))] [] h := by
  obtain ⟨m1, c1⟩ := lx_i hL (j := i + 1) (by omega)
  obtain ⟨R', h1, h2, r, fd', td', g', cl', ip', rz', T', run1, run2, I'⟩ := NXT_r I (q_value I (xs (i + 1)))
  have w := nx _ _ _ _ _ _ _ _ _ I'
  obtain ⟨g0, g8⟩ := g_81 I run1 (fun v hv o e => by subst e; simp at hv)
  have rr : (r = r) = True := eq_self r
  clear I I' nx
  simp (disch := omega) only [s_406_772, s_406_773, s_406_774, s_406_775, s_406_776, s_406_777, s_406_778, s_406_781, s_406_782, s_406_783, s_406_784, s_406_785, s_406_786, s_406_787, s_406_790, s_406_793, s_406_794, lK_some, lK_none, mv_i_1, mv_l_1, mv_a_1, mv_a_2, mv_a_3, mk2_n, mk2_i, mk2_l, mk2_a, mk2_u, mk2_x, mB_T, mB_F, mS_cons, mS_nil, mSB_T, mSB_F, mca_nil, mca_i, mca_l, mca_r, mca_u, mca_x, mcat_i, mcat_l, mcat_r, mcat_u, mcat_x, mK_some, mK_none, va_rf_s, va_rf_n, lgc_eq, lgc_lt, lgc_gt, lgc_ge, lgc_le, mrd_104, mrd_105, mrd_106, mrd_107, true_and, and_true, and_self, false_and, and_false, true_or, or_true, false_or, or_false, not_true_eq_false, not_false_eq_true, mgb, mga, mgr, mN, reduceCtorEq, ↓reduceIte, eq_self, ge_iff_le, gt_iff_lt, hk_si, hk_sj, hk_sr, hl_si, hl_sj, hl_sr, hn_si, hn_sj, hn_sr, hs_si, hs_sj, hs_sr, hi_sj, hi_sr, hj_si, hj_sr, hr_si, hr_sj, hi_si, hj_sj, hr_sr, mg_si, mg_sj, mg_sr, lx_1, lx_2, lx_3, lx_4, lx_5, lx_6, lx_7, m1, c1, g0, g8, run1, run2, rr]
  exact w
set_option maxRecDepth 100000 in
theorem lv_17 (I : INV R k h fd td g cl ip rz T) (hk : k < 512) (hL : L ≤ 4096) (hi : i + 8 ≤ L) (nx : NX L xs k i) : lw L xs 2047 lq 795 [some (.retAddr 8), some (.ref 0), some (.ref 81), some (.int (Int32.ofNat i))] [] h := by
  obtain ⟨m1, c1⟩ := lx_i hL (j := i + 1) (by omega)
  obtain ⟨m2, c2⟩ := lx_i hL (j := i + 2) (by omega)
  obtain ⟨R', h1, h2, r, fd', td', g', cl', ip', rz', T', run1, run2, I'⟩ := NXT_r I (q_place I (xs (i + 1)) (xs (i + 2)))
  have w := nx _ _ _ _ _ _ _ _ _ I'
  obtain ⟨g0, g8⟩ := g_81 I run1 (fun v hv o e => by subst e; simp at hv)
  have rr : (r = r) = True := eq_self r
  clear I I' nx
  simp (disch := omega) only [s_406_795, s_406_796, s_406_797, s_406_798, s_406_799, s_406_800, s_406_801, s_406_802, s_406_803, s_406_804, s_406_805, s_406_806, s_406_809, s_406_810, s_406_811, s_406_812, s_406_813, s_406_814, s_406_815, s_406_816, s_406_817, s_406_818, s_406_819, s_406_820, s_406_823, s_406_826, s_406_827, lK_some, lK_none, mv_i_1, mv_l_1, mv_a_1, mv_a_2, mv_a_3, mk2_n, mk2_i, mk2_l, mk2_a, mk2_u, mk2_x, mB_T, mB_F, mS_cons, mS_nil, mSB_T, mSB_F, mca_nil, mca_i, mca_l, mca_r, mca_u, mca_x, mcat_i, mcat_l, mcat_r, mcat_u, mcat_x, mK_some, mK_none, va_rf_s, va_rf_n, lgc_eq, lgc_lt, lgc_gt, lgc_ge, lgc_le, mrd_104, mrd_105, mrd_106, mrd_107, true_and, and_true, and_self, false_and, and_false, true_or, or_true, false_or, or_false, not_true_eq_false, not_false_eq_true, mgb, mga, mgr, mN, reduceCtorEq, ↓reduceIte, eq_self, ge_iff_le, gt_iff_lt, hk_si, hk_sj, hk_sr, hl_si, hl_sj, hl_sr, hn_si, hn_sj, hn_sr, hs_si, hs_sj, hs_sr, hi_sj, hi_sr, hj_si, hj_sr, hr_si, hr_sj, hi_si, hj_sj, hr_sr, mg_si, mg_sj, mg_sr, lx_1, lx_2, lx_3, lx_4, lx_5, lx_6, lx_7, m1, c1, m2, c2, g0, g8, run1, run2, rr]
  exact w
set_option maxRecDepth 100000 in
theorem lv_18 (I : INV R k h fd td g cl ip rz T) (hk : k < 512) (hL : L ≤ 4096) (hi : i + 8 ≤ L) (nx : NX L xs k i) : lw L xs 2047 lq 828 [some (.retAddr 8), some (.ref 0), some (.ref 81), some (.int (Int32.ofNat i))] [] h := by
  obtain ⟨R', h1, h2, r, fd', td', g', cl', ip', rz', T', run1, run2, I'⟩ := NXT_r I (q_outside I)
  have w := nx _ _ _ _ _ _ _ _ _ I'
  obtain ⟨g0, g8⟩ := g_81 I run1 (fun v hv o e => by subst e; simp at hv)
  have rr : (r = r) = True := eq_self r
  clear I I' nx
  simp (disch := omega) only [s_406_828, s_406_829, s_406_832, s_406_833, s_406_836, s_406_839, s_406_840, lK_some, lK_none, mv_i_1, mv_l_1, mv_a_1, mv_a_2, mv_a_3, mk2_n, mk2_i, mk2_l, mk2_a, mk2_u, mk2_x, mB_T, mB_F, mS_cons, mS_nil, mSB_T, mSB_F, mca_nil, mca_i, mca_l, mca_r, mca_u, mca_x, mcat_i, mcat_l, mcat_r, mcat_u, mcat_x, mK_some, mK_none, va_rf_s, va_rf_n, lgc_eq, lgc_lt, lgc_gt, lgc_ge, lgc_le, mrd_104, mrd_105, mrd_106, mrd_107, true_and, and_true, and_self, false_and, and_false, true_or, or_true, false_or, or_false, not_true_eq_false, not_false_eq_true, mgb, mga, mgr, mN, reduceCtorEq, ↓reduceIte, eq_self, ge_iff_le, gt_iff_lt, hk_si, hk_sj, hk_sr, hl_si, hl_sj, hl_sr, hn_si, hn_sj, hn_sr, hs_si, hs_sj, hs_sr, hi_sj, hi_sr, hj_si, hj_sr, hr_si, hr_sj, hi_si, hj_sj, hr_sr, mg_si, mg_sj, mg_sr, lx_1, lx_2, lx_3, lx_4, lx_5, lx_6, lx_7, g0, g0, g8, run1, run2, rr]
  exact w
set_option maxRecDepth 100000 in
theorem lv_19 (I : INV R k h fd td g cl ip rz T) (hk : k < 512) (hL : L ≤ 4096) (hi : i + 8 ≤ L) (nx : NX L xs k i) : lw L xs 2047 lq 841 [some (.retAddr 8), some (.ref 0), some (.ref 81), some (.int (Int32.ofNat i))] [] h := by
  obtain ⟨m1, c1⟩ := lx_i hL (j := i + 1) (by omega)
  obtain ⟨m2, c2⟩ := lx_i hL (j := i + 2) (by omega)
  by_cases q1 : xs (i + 1) = 0
  · have z1 : (xs (i + 1) = 0) = True := eq_true q1
    obtain ⟨R', h1, h2, r, fd', td', g', cl', ip', rz', T', run1, run2, I'⟩ := s_show I 0 (xs (i + 2))
    have w := nx _ _ _ _ _ _ _ _ _ I'
    obtain ⟨g0, g8⟩ := g_81 I run1 (fun v hv o e => by subst e; simp at hv)
    have rr : (r = r) = True := eq_self r
    clear I I' nx
    simp (disch := omega) only [s_406_841, s_406_842, s_406_843, s_406_844, s_406_845, s_406_846, s_406_847, s_406_850, s_406_851, s_406_854, s_406_855, s_406_856, s_406_857, s_406_858, s_406_859, s_406_860, s_406_863, s_406_864, s_406_865, s_406_866, s_406_867, s_406_868, s_406_869, s_406_872, s_406_873, s_406_876, s_406_877, s_406_878, s_406_879, s_406_880, s_406_881, s_406_882, s_406_885, s_406_888, s_406_889, lK_some, lK_none, mv_i_1, mv_l_1, mv_a_1, mv_a_2, mv_a_3, mk2_n, mk2_i, mk2_l, mk2_a, mk2_u, mk2_x, mB_T, mB_F, mS_cons, mS_nil, mSB_T, mSB_F, mca_nil, mca_i, mca_l, mca_r, mca_u, mca_x, mcat_i, mcat_l, mcat_r, mcat_u, mcat_x, mK_some, mK_none, va_rf_s, va_rf_n, lgc_eq, lgc_lt, lgc_gt, lgc_ge, lgc_le, mrd_104, mrd_105, mrd_106, mrd_107, true_and, and_true, and_self, false_and, and_false, true_or, or_true, false_or, or_false, not_true_eq_false, not_false_eq_true, mgb, mga, mgr, mN, reduceCtorEq, ↓reduceIte, eq_self, ge_iff_le, gt_iff_lt, hk_si, hk_sj, hk_sr, hl_si, hl_sj, hl_sr, hn_si, hn_sj, hn_sr, hs_si, hs_sj, hs_sr, hi_sj, hi_sr, hj_si, hj_sr, hr_si, hr_sj, hi_si, hj_sj, hr_sr, mg_si, mg_sj, mg_sr, lx_1, lx_2, lx_3, lx_4, lx_5, lx_6, lx_7, m1, c1, m2, c2, z1, g0, g8, run1, run2, rr]
    exact w
  · have z1 : (xs (i + 1) = 0) = False := eq_false q1
    obtain ⟨R', h1, h2, r, fd', td', g', cl', ip', rz', T', run1, run2, I'⟩ := s_show I 1 (xs (i + 2))
    have w := nx _ _ _ _ _ _ _ _ _ I'
    obtain ⟨g0, g8⟩ := g_81 I run1 (fun v hv o e => by subst e; simp at hv)
    have rr : (r = r) = True := eq_self r
    clear I I' nx
    simp (disch := omega) only [s_406_841, s_406_842, s_406_843, s_406_844, s_406_845, s_406_846, s_406_847, s_406_850, s_406_851, s_406_854, s_406_855, s_406_856, s_406_857, s_406_858, s_406_859, s_406_860, s_406_863, s_406_864, s_406_865, s_406_866, s_406_867, s_406_868, s_406_869, s_406_872, s_406_873, s_406_876, s_406_877, s_406_878, s_406_879, s_406_880, s_406_881, s_406_882, s_406_885, s_406_888, s_406_889, lK_some, lK_none, mv_i_1, mv_l_1, mv_a_1, mv_a_2, mv_a_3, mk2_n, mk2_i, mk2_l, mk2_a, mk2_u, mk2_x, mB_T, mB_F, mS_cons, mS_nil, mSB_T, mSB_F, mca_nil, mca_i, mca_l, mca_r, mca_u, mca_x, mcat_i, mcat_l, mcat_r, mcat_u, mcat_x, mK_some, mK_none, va_rf_s, va_rf_n, lgc_eq, lgc_lt, lgc_gt, lgc_ge, lgc_le, mrd_104, mrd_105, mrd_106, mrd_107, true_and, and_true, and_self, false_and, and_false, true_or, or_true, false_or, or_false, not_true_eq_false, not_false_eq_true, mgb, mga, mgr, mN, reduceCtorEq, ↓reduceIte, eq_self, ge_iff_le, gt_iff_lt, hk_si, hk_sj, hk_sr, hl_si, hl_sj, hl_sr, hn_si, hn_sj, hn_sr, hs_si, hs_sj, hs_sr, hi_sj, hi_sr, hj_si, hj_sr, hr_si, hr_sj, hi_si, hj_sj, hr_sr, mg_si, mg_sj, mg_sr, lx_1, lx_2, lx_3, lx_4, lx_5, lx_6, lx_7, m1, c1, m2, c2, z1, g0, g8, run1, run2, rr]
    exact w
set_option maxRecDepth 100000 in
theorem lv_20 (I : INV R k h fd td g cl ip rz T) (hk : k < 512) (hL : L ≤ 4096) (hi : i + 8 ≤ L) (nx : NX L xs k i) : lw L xs 2047 lq 890 [some (.retAddr 8), some (.ref 0), some (.ref 81), some (.int (Int32.ofNat i))] [] h := by
  obtain ⟨m1, c1⟩ := lx_i hL (j := i + 1) (by omega)
  obtain ⟨R', h1, h2, r, fd', td', g', cl', ip', rz', T', run1, run2, I'⟩ := NXT_r I (q_shown I (xs (i + 1)))
  have w := nx _ _ _ _ _ _ _ _ _ I'
  obtain ⟨g0, g8⟩ := g_81 I run1 (fun v hv o e => by subst e; simp at hv)
  have rr : (r = r) = True := eq_self r
  clear I I' nx
  simp (disch := omega) only [s_406_890, s_406_891, s_406_892, s_406_893, s_406_894, s_406_895, s_406_896, s_406_899, s_406_900, s_406_901, s_406_902, s_406_903, s_406_904, s_406_905, s_406_908, s_406_911, s_406_912, lK_some, lK_none, mv_i_1, mv_l_1, mv_a_1, mv_a_2, mv_a_3, mk2_n, mk2_i, mk2_l, mk2_a, mk2_u, mk2_x, mB_T, mB_F, mS_cons, mS_nil, mSB_T, mSB_F, mca_nil, mca_i, mca_l, mca_r, mca_u, mca_x, mcat_i, mcat_l, mcat_r, mcat_u, mcat_x, mK_some, mK_none, va_rf_s, va_rf_n, lgc_eq, lgc_lt, lgc_gt, lgc_ge, lgc_le, mrd_104, mrd_105, mrd_106, mrd_107, true_and, and_true, and_self, false_and, and_false, true_or, or_true, false_or, or_false, not_true_eq_false, not_false_eq_true, mgb, mga, mgr, mN, reduceCtorEq, ↓reduceIte, eq_self, ge_iff_le, gt_iff_lt, hk_si, hk_sj, hk_sr, hl_si, hl_sj, hl_sr, hn_si, hn_sj, hn_sr, hs_si, hs_sj, hs_sr, hi_sj, hi_sr, hj_si, hj_sr, hr_si, hr_sj, hi_si, hj_sj, hr_sr, mg_si, mg_sj, mg_sr, lx_1, lx_2, lx_3, lx_4, lx_5, lx_6, lx_7, m1, c1, g0, g8, run1, run2, rr]
  exact w
end LWs
