set_option maxRecDepth 100000
/-! THE LAW'S LOOP -/
section LWs
variable {R : Nat → Prop} {k i L : Nat} {xs : Nat → Int32} {h h1 h2 : mh_H} {fd : Nat × (Nat → Int32)} {td : Bool × Int32 × Int32 × Int32} {g : pgz} {cl : Nat → Option ab} {ip : Nat × (Nat → Int32)} {rz : rnz} {T : List Int32}
theorem ll_in (hL : L ≤ 4096) (hi : i + 8 ≤ L) (w : mS (xs i &&& 31) (lw L xs 2047 lq) 913 [some (.retAddr 8), some (.ref 0), some (.ref 81), some (.int (Int32.ofNat i))] [] h [(0, 132), (1, 195), (2, 218), (3, 241), (4, 254), (5, 287), (6, 379), (7, 465), (8, 572), (9, 641), (10, 664), (11, 677), (12, 690), (13, 713), (14, 726), (15, 749), (16, 772), (17, 795), (18, 828), (19, 841), (20, 890)]) : lw L xs 2047 lq 18 [some (.retAddr 8), some (.ref 0), some (.ref 81), some (.int (Int32.ofNat i))] [] h := by
  obtain ⟨m0, c0⟩ := lx_i hL (j := i) (by omega)
  have e8 : (Int32.ofNat L - 8 < Int32.ofNat i) = False := by
    rw [show (8 : Int32) = Int32.ofNat 8 from rfl, nn_sub (by omega), nn_lt (by omega) (by omega)]
    exact eq_false (by omega)
  simp (disch := omega) only [s_406_18, s_406_19, s_406_20, s_406_21, s_406_23, s_406_24, s_406_27, s_406_28, s_406_29, s_406_30, s_406_32, s_406_33, mv_i_1, mv_l_1, mv_a_1, mv_a_2, mv_a_3, mk2_n, mk2_i, mk2_l, mk2_a, mk2_u, mk2_x, mB_T, mB_F, mS_cons, mS_nil, mSB_T, mSB_F, mca_nil, mca_i, mca_l, mca_r, mca_u, mca_x, mcat_i, mcat_l, mcat_r, mcat_u, mcat_x, mK_some, mK_none, va_rf_s, va_rf_n, lgc_eq, lgc_lt, lgc_gt, lgc_ge, lgc_le, mrd_104, mrd_105, mrd_106, mrd_107, true_and, and_true, and_self, false_and, and_false, true_or, or_true, false_or, or_false, not_true_eq_false, not_false_eq_true, mgb, mga, mgr, mN, reduceCtorEq, ↓reduceIte, eq_self, ge_iff_le, gt_iff_lt, hk_si, hk_sj, hk_sr, hl_si, hl_sj, hl_sr, hn_si, hn_sj, hn_sr, hs_si, hs_sj, hs_sr, hi_sj, hi_sr, hj_si, hj_sr, hr_si, hr_sj, hi_si, hj_sj, hr_sr, mg_si, mg_sj, mg_sr, m0, c0, e8]
  exact w
theorem ll_nx (w : lw L xs 2047 lq 18 [some (.retAddr 8), some (.ref 0), some (.ref 81), some (.int (Int32.ofNat (i + 8)))] [] h) : lw L xs 2047 lq 913 [some (.retAddr 8), some (.ref 0), some (.ref 81), some (.int (Int32.ofNat i))] [] h := by
  simp (disch := omega) only [s_406_913, s_406_916, mv_i_1, mv_l_1, mv_a_1, mv_a_2, mv_a_3, mk2_n, mk2_i, mk2_l, mk2_a, mk2_u, mk2_x, mB_T, mB_F, mS_cons, mS_nil, mSB_T, mSB_F, mca_nil, mca_i, mca_l, mca_r, mca_u, mca_x, mcat_i, mcat_l, mcat_r, mcat_u, mcat_x, mK_some, mK_none, va_rf_s, va_rf_n, lgc_eq, lgc_lt, lgc_gt, lgc_ge, lgc_le, mrd_104, mrd_105, mrd_106, mrd_107, true_and, and_true, and_self, false_and, and_false, true_or, or_true, false_or, or_false, not_true_eq_false, not_false_eq_true, mgb, mga, mgr, mN, reduceCtorEq, ↓reduceIte, eq_self, ge_iff_le, gt_iff_lt, hk_si, hk_sj, hk_sr, hl_si, hl_sj, hl_sr, hn_si, hn_sj, hn_sr, hs_si, hs_sj, hs_sr, hi_sj, hi_sr, hj_si, hj_sr, hr_si, hr_sj, hi_si, hj_sj, hr_sr, mg_si, mg_sj, mg_sr, lx_8]
  exact w
/-- one call -/
theorem ll_1 (I : INV R k h fd td g cl ip rz T) (hk : k < 512) (hL : L ≤ 4096) (hi : i + 8 ≤ L) (nx : NX L xs k i) : lw L xs 2047 lq 18 [some (.retAddr 8), some (.ref 0), some (.ref 81), some (.int (Int32.ofNat i))] [] h := by
  refine ll_in hL hi ?_
  refine mS_c (fun _ => lv_0 I hk hL hi nx) (fun _ => ?_)
  refine mS_c (fun _ => lv_1 I hk hL hi nx) (fun _ => ?_)
  refine mS_c (fun _ => lv_2 I hk hL hi nx) (fun _ => ?_)
  refine mS_c (fun _ => lv_3 I hk hL hi nx) (fun _ => ?_)
  refine mS_c (fun _ => lv_4 I hk hL hi nx) (fun _ => ?_)
  refine mS_c (fun _ => lv_5 I hk hL hi nx) (fun _ => ?_)
  refine mS_c (fun _ => lv_6 I hk hL hi nx) (fun _ => ?_)
  refine mS_c (fun _ => lv_7 I hk hL hi nx) (fun _ => ?_)
  refine mS_c (fun _ => lv_8 I hk hL hi nx) (fun _ => ?_)
  refine mS_c (fun _ => lv_9 I hk hL hi nx) (fun _ => ?_)
  refine mS_c (fun _ => lv_10 I hk hL hi nx) (fun _ => ?_)
  refine mS_c (fun _ => lv_11 I hk hL hi nx) (fun _ => ?_)
  refine mS_c (fun _ => lv_12 I hk hL hi nx) (fun _ => ?_)
  refine mS_c (fun _ => lv_13 I hk hL hi nx) (fun _ => ?_)
  refine mS_c (fun _ => lv_14 I hk hL hi nx) (fun _ => ?_)
  refine mS_c (fun _ => lv_15 I hk hL hi nx) (fun _ => ?_)
  refine mS_c (fun _ => lv_16 I hk hL hi nx) (fun _ => ?_)
  refine mS_c (fun _ => lv_17 I hk hL hi nx) (fun _ => ?_)
  refine mS_c (fun _ => lv_18 I hk hL hi nx) (fun _ => ?_)
  refine mS_c (fun _ => lv_19 I hk hL hi nx) (fun _ => ?_)
  refine mS_c (fun _ => lv_20 I hk hL hi nx) (fun _ => ?_)
  exact nx _ _ _ _ _ _ _ _ _ (INV_s I)
/-- there is room -/
theorem INV_q (I : INV R k h fd td g cl ip rz T) (hk : k ≤ 512) : lq (some (.int 1)) h := by
  obtain ⟨l, l1, l2, l3⟩ := I.m
  obtain ⟨Y, C, E, TT, UU, SC, SP, nC, nE, nS, pa, P⟩ := I.C.P
  obtain ⟨ap, Pr⟩ := I.R.P
  obtain ⟨s0, l', L'⟩ := I.C.l
  have el : ln h 0 13 = l' := by
    unfold ln
    rw [L'.r]
    exact L'.l
  have lb := L'.b
  obtain ⟨PQ, PS, PU, PF, PL, PH', lP, pr⟩ := Pr.b.Y.P
  obtain ⟨c, t1, t2, t3, t4, -⟩ := Pr.b.Y.t
  have e7 : ln h 115 27 = lP := by
    unfold ln
    rw [pr.r27]
    exact pr.l27
  have e2 : ln h 115 12 = mh_l h c := by
    unfold ln
    rw [t1]
  have pb := pr.b
  have s1 : cnS h 119 2048 ≤ 2048 := n64_le _
  have ct : cT h ≤ 1622 := by
    have a1 : cnS h 51 122 ≤ 122 := n64_le _
    have a2 : cnS h 61 250 ≤ 250 := n64_le _
    have a3 : cnS h 62 250 ≤ 250 := n64_le _
    have a4 : cnS h 63 250 ≤ 250 := n64_le _
    have a5 : cnS h 64 250 ≤ 250 := n64_le _
    have a6 : cnS h 54 250 ≤ 250 := n64_le _
    have a7 : cnS h 73 250 ≤ 250 := n64_le _
    unfold cT
    omega
  unfold cN qN at l2
  unfold cS qS at l3
  rw [e7, e2] at l2 l3
  refine ⟨rfl, ?_, ?_⟩ <;> omega
/-- all calls -/
theorem ll_all (hL : L ≤ 4096) : ∀ m k, k + m = L / 8 → ∀ (R : Nat → Prop) (h : mh_H) (fd : Nat × (Nat → Int32)) (td : Bool × Int32 × Int32 × Int32) (g : pgz) (cl : Nat → Option ab) (ip : Nat × (Nat → Int32)) (rz : rnz) (T : List Int32), INV R k h fd td g cl ip rz T → lw L xs 2047 lq 18 [some (.retAddr 8), some (.ref 0), some (.ref 81), some (.int (Int32.ofNat (8 * k)))] [] h := by
  intro m
  induction m with
  | zero =>
    intro k e R h fd td g cl ip rz T I
    exact ll_out (i := 8 * k) hL (by omega) (by omega) (INV_q I (by omega))
  | succ m ih =>
    intro k e R h fd td g cl ip rz T I
    refine ll_1 I (by omega) hL (by omega) (fun R' h2 fd' td' g' cl' ip' rz' T' I' => ll_nx ?_)
    have := ih (k + 1) (by omega) R' h2 fd' td' g' cl' ip' rz' T' I'
    rw [show 8 * (k + 1) = 8 * k + 8 from by omega] at this
    exact this
end LWs
