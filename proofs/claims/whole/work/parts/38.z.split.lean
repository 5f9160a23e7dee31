set_option maxRecDepth 100000
/-! Effect.split, over a COND, whole -/
section SPd
variable {h0 : mh_H} {d P R lP Y C E TT UU SC SP nC nE nS nb na St KA WA nK ce : Nat} {sN : Int → Prop} {en : Int → Nat} {KK WW : Nat → Int32} {A0 : ab} {v1 v2 : Option Value}
theorem okS_j {x y : Option ab} (h1 : okS A0 x) (h2 : okS A0 y) : okS A0 (o_join x y) := by
  cases x with
  | none => cases y with
    | none => exact h1
    | some Z => exact h2
  | some X => cases y with
    | none => exact h1
    | some Z =>
      intro B hB
      obtain ⟨a0, a1, a2, a3⟩ := h1 X rfl
      obtain ⟨b0, b1, b2, b3⟩ := h2 Z rfl
      have e : some (a_join X Z) = some B := hB
      cases e
      exact ⟨T_join a0 b0 (a1.trans b1.symm) (a2.trans b2.symm), a1, a2, a3⟩
theorem cn_r {n : Nat} {cs r : tr} : cn3 r ≤ cn3 (.branch n cs r) := by show cn3 r ≤ max _ (cn3 r); omega
theorem kd_no : ∀ w, w ≤ 5 → (kd w = 33) = False ∧ (kd w = 132) = False ∧ (kd w = 133) = False ∧ (kd w = 134) = False ∧ (kd w = 135) = False := by
  intro w hw
  have : w = 0 ∨ w = 1 ∨ w = 2 ∨ w = 3 ∨ w = 4 ∨ w = 5 := by omega
  rcases this with rfl | rfl | rfl | rfl | rfl | rfl <;> exact ⟨eq_false (by decide), eq_false (by decide), eq_false (by decide), eq_false (by decide), eq_false (by decide)⟩
theorem fx_al {an : Bool} {a : Int32} {q : sr3} : (s_fx an (s_al a q)).1 = (s_fx an q).1 ∧ (s_fx an (s_al a q)).2.1 = (s_fx an q).2.1 ∧ (s_al a q).2.2 = a ||| q.2.2 ∧ (s_fx an q).2.2 = q.2.2 := by
  cases an <;> exact ⟨rfl, rfl, rfl, rfl⟩
theorem P1c_br {n : Nat} {cs r : tr} (p0 : P0c h0 d P R lP Y C E TT UU SC SP nC nE nS nb na St KA WA nK ce sN en KK WW A0 v1 v2 (.branch n cs r)) (p1 : P1c h0 d P R lP Y C E TT UU SC SP nC nE nS nb na St KA WA nK ce sN en KK WW A0 v1 v2 r) : P1c h0 d P R lP Y C E TT UU SC SP nC nE nS nb na St KA WA nK ce sN en KK WW A0 v1 v2 (.branch n cs r) := by
  intro h Ho Fa Be m k k' an on done w6 V c kh kf o1 o2 w q hk hd
  obtain ⟨k1, vk, qa, ve, qb⟩ := cq_L q
  have lt1 := (cq_le _).1 _ _ _ qa
  have le2 := (cq_le r).2.1 _ _ _ qb
  have cr := cn_r (n := n) (cs := cs) (r := r)
  obtain ⟨h2, Ho2, Fa2, Be2, o, x2, V2, c2, kB, q51, kO, al2, e2⟩ := op_c (d := d) (w6 := w6) (v1 := v1) (v2 := v2) V c (by omega) kh kf (by omega) vk
  obtain ⟨h3, Ho3, Fa3, Be3, w3, x3, V3, c3, kh3, kf3, al3, e3⟩ := p0 h2 Ho2 Fa2 Be2 (m + 1) (k + 1) k1 on _ V2 c2 kB o1 (wC_f w) qa (by omega) (by omega)
  have q51' : mh_r h3 51 m = some o := by rw [sS_51 V2 x3 (by omega)]; exact q51
  have kO3 := sS_k V2 x3 ⟨51, m, Or.inr (Or.inl rfl), q51⟩ (as_no V2 q51 (by omega)) kO
  obtain ⟨F1, F2⟩ := (spl_ok (sN := sN) (en := en) (A := A0) (.branch n cs r)).1 false on none (wC_f w) o1
  obtain ⟨h4, x4, V4, c4, kh4, kf4, al4, e4⟩ := end_c (d := d) (w6 := w3) (v1 := v1) (v2 := v2) (A0 := A0) (an := an) V3 c3 (by omega) q51' kh3 kf3 kO3 F1 F2 o2 (by omega) ve
  have res := spl_L (en := en) (n := n) (cs := cs) (r := r) (an := an) (on := on) (done := done)
  rw [spl_F (an := an) (an' := false) (d' := none)] at res
  generalize spl en (.branch n cs r) false false on none = X at *
  have ok' : okS A0 (if an = true then X.1 else X.2.1) ∧ okS A0 (o_join done (if an = true then X.2.1 else X.1)) := by
    cases an with
    | true => exact ⟨F1, okS_j o2 F2⟩
    | false => exact ⟨F2, okS_j o2 F1⟩
  have kh5 : RS h4 Ho3 (if an = true then (if an = true then X.1 else X.2.1) else (o_join done (if an = true then X.2.1 else X.1))) := by
    cases an with
    | true => exact kh4
    | false => have := kh4; rw [if_neg (by decide), join_c F1 o2] at this; exact this
  have kf5 : RS h4 Fa3 (if an = true then (o_join done (if an = true then X.2.1 else X.1)) else (if an = true then X.1 else X.2.1)) := by
    cases an with
    | true => have := kf4; rw [if_pos rfl, join_c F2 o2] at this; exact this
    | false => exact kf4
  obtain ⟨h5, Ho5, Fa5, Be5, w5, x5, V5, c5, kh6, kf6, al5, e5⟩ := p1 h4 Ho3 Fa3 Be3 m (k1 + 1) k' an _ _ _ V4 c4 kh5 kf5 ok'.1 ok'.2 (wC_r w) qb hk (by omega)
  refine ⟨h5, Ho5, Fa5, Be5, w5, sS_t x2 (sS_t (sS_up V2 x3) (sS_t x4 x5)), V5, c5, ?_, ?_, ?_, fun Q => ?_⟩
  · rw [res, fx_al.1]; exact kh6
  · rw [res, fx_al.2.1]; exact kf6
  · rw [res, (fx_al (an := an)).2.2.1, al5, al4, al3, al2, Int32.or_assoc]
  · rw [e2 Q, e3 Q, e4 Q, e5 Q]
theorem P0c_br {n : Nat} {cs r : tr} (p0 : P0c h0 d P R lP Y C E TT UU SC SP nC nE nS nb na St KA WA nK ce sN en KK WW A0 v1 v2 cs) (p1 : P1c h0 d P R lP Y C E TT UU SC SP nC nE nS nb na St KA WA nK ce sN en KK WW A0 v1 v2 (tT cs)) : P0c h0 d P R lP Y C E TT UU SC SP nC nE nS nb na St KA WA nK ce sN en KK WW A0 v1 v2 (.branch n cs r) := by
  intro h Ho Fa Be m k k' on w6 V c kB o1 w q hk hd
  by_cases h26 : tK n = 26
  · obtain ⟨b', rfl, qa, v33⟩ := cq_26 h26 q
    have cn : cn3 cs ≤ cn3 (.branch n cs r) := by show cn3 cs ≤ max (if tK n = 26 then cn3 cs else _) _; rw [if_pos h26]; omega
    have hc : ∃ m' c' r', cs = .branch m' c' r' := by
      rcases cs with u | ⟨m', c', r'⟩
      · have q' : false = true ∧ b' = k := qa
        exact absurd q'.1 (by decide)
      · exact ⟨m', c', r', rfl⟩
    obtain ⟨m', c', r', hc⟩ := hc
    obtain ⟨h1, Ho1, Fa1, Be1, w1, x1, V1, c1, kh1, kf1, al1, e1⟩ := p0 h Ho Fa Be m k b' on w6 V c kB o1 (wC_26 h26 w) qa (by omega) (by omega)
    obtain ⟨h2, x2, V2, kp, al2, -, -, e2⟩ := v_18 (d := d + 4) V1
    have c2 := CC_s V1 x2 c1
    obtain ⟨cH, cF, -⟩ := V1.cH
    have res := spl_26' (en := en) (r := r) h26 hc (on := on)
    refine ⟨h2, Fa1, Ho1, Be1, some (.int 33), sS_t x1 x2, V2, c2, by rw [res]; exact kp _ _ cF kf1, by rw [res]; exact kp _ _ cH kh1, by rw [res, al2, al1]; rfl, fun Q => ?_⟩
    rw [e1 Q]
    have g := V1.F.g 34 1 9 (by decide +kernel)
    have gY := V1.q.gY
    have gS := c1.g
    have s := c1.s
    have r9 := c1.r9
    have gK := c1.gK
    have lK := c1.lK
    have cb := c1.b
    have cc := c1.c
    have vK : mh_i h1 KA b' = 33 := by rw [c1.k]; exact v33
    have hle : (ce ≤ b') = False := eq_false (by omega)
    have ei : ∀ k, Int32.ofNat k + 1 = Int32.ofNat (k + 1) := fun k => nn_add (a := k) (b := 1)
    clear V V1 V2 c c1 c2 x1 x2 kp kh1 kf1 p0 p1 w q qa kB o1 res e1
    rw [s_17_54]
    simp (disch := omega) only [s_17_0, s_17_1, s_17_4, s_17_7, s_17_8, s_17_9, s_17_9n, s_17_9x, s_17_10, s_17_11, s_17_14, s_17_17, s_17_17n, s_17_17x, s_17_19, s_17_20, s_17_23, s_17_24, s_17_27, s_17_28, s_17_31, s_17_32, s_17_35, s_17_36, s_17_37, s_17_40, s_17_43, s_17_44, s_17_45, s_17_48, s_17_49, s_17_52, s_17_56, s_17_57, s_17_60, s_17_63, s_17_65, s_17_68, s_17_70, s_17_70x, s_17_71, s_17_73, s_17_75, s_17_78, s_17_81, s_17_83, s_17_85, s_17_88, s_17_89, s_17_92, s_17_94, s_17_97, s_17_100, s_17_102, s_17_105, s_17_108, s_17_109, s_17_112, s_17_115, s_17_117, s_17_120, s_17_123, s_17_125, s_17_128, s_17_131, s_17_132, s_17_134, s_17_137, s_17_140, s_17_142, s_17_144, s_17_147, s_17_148, s_17_150, s_17_153, s_17_155, s_17_155x, s_17_156, s_17_159, s_17_162, s_17_163, s_17_164, s_17_167, s_17_169, s_17_172, s_17_173, s_17_174, s_17_177, s_17_179, s_17_182, s_17_185, s_17_186, s_17_189, s_17_190, s_17_193, s_17_196, s_17_197, s_17_200, s_17_201, s_17_204, s_17_207, s_17_210, s_17_213, s_17_214, s_17_215, s_17_218, s_17_221, s_17_224, s_17_225, s_17_228, s_17_230, s_17_233, s_17_234, s_17_237, s_17_240, s_17_243, s_17_244, s_17_245, s_17_248, s_17_250, s_17_251, s_17_254, e_17, mv_i_1, mv_l_1, mv_a_1, mv_a_2, mv_a_3, mk2_n, mk2_i, mk2_l, mk2_a, mk2_u, mk2_x, mB_T, mB_F, mS_cons, mS_nil, mSB_T, mSB_F, mca_nil, mca_i, mca_l, mca_r, mca_u, mca_x, mcat_i, mcat_l, mcat_r, mcat_u, mcat_x, mK_some, mK_none, va_rf_s, va_rf_n, lgc_eq, lgc_lt, lgc_gt, lgc_ge, lgc_le, mrd_104, mrd_105, mrd_106, mrd_107, true_and, and_true, and_self, false_and, and_false, true_or, or_true, false_or, or_false, not_true_eq_false, not_false_eq_true, mgb, mga, mgr, mN, reduceCtorEq, ↓reduceIte, eq_self, ge_iff_le, gt_iff_lt, hk_si, hk_sj, hk_sr, hl_si, hl_sj, hl_sr, hn_si, hn_sj, hn_sr, hs_si, hs_sj, hs_sr, hi_sj, hi_sr, hj_si, hj_sr, hr_si, hr_sj, hi_si, hj_sj, hr_sr, mg_si, mg_sj, mg_sr, Nat.reduceAdd, Nat.reduceMul, Nat.reduceSub, Nat.reduceLT, Nat.reduceGT, Nat.reduceEqDiff, Nat.reduceLeDiff, Nat.left_eq_add, Nat.add_eq_left, Nat.reduceMod, Nat.reduceDiv, Nat.succ_ne_self, g, gY, gS, s, r9, gK, lK, vK, nn_le, nn_mxT, nn_clamp, hle, e2, ei, show ((33 : Int32) = 132) = False by decide, show ((33 : Int32) = 133) = False by decide, show ((33 : Int32) = 134) = False by decide, show ((33 : Int32) = 135) = False by decide]
  · by_cases h25 : tK n = 24 ∨ tK n = 25
    · obtain ⟨m', c', r', k1, rfl, qa, qb⟩ := cq_25 h25 q
      have cn : 3 + cn3 (.branch m' c' r') ≤ cn3 (.branch n (.branch m' c' r') r) := by
        show 3 + cn3 (.branch m' c' r') ≤ max (if tK n = 26 then _ else if tK n = 24 ∨ tK n = 25 then 3 + cn3 (.branch m' c' r') else 0) (cn3 r)
        rw [if_neg h26, if_pos h25]; omega
      have cr := cn_r (n := m') (cs := c') (r := r')
      have wc := wC_25 h25 w
      have lt1 := (cq_le _).1 _ _ _ qa
      have le2 := (cq_le r').2.1 _ _ _ qb
      obtain ⟨h1, Ho1, Fa1, Be1, w1, x1, V1, c1, kh1, kf1, al1, e1⟩ := p0 h Ho Fa Be m k k1 on w6 V c kB o1 (wC_f wc) qa (by omega) (by omega)
      obtain ⟨F1, F2⟩ := (spl_ok (sN := sN) (en := en) (A := A0) (.branch m' c' r')).1 false on none (wC_f wc) o1
      have res := spl_25' (en := en) (cs := .branch m' c' r') (r := r) h25 (on := on)
      generalize decide (tK n = 25) = an at *
      have rl' := spl_L (en := en) (n := m') (cs := c') (r := r') (an := an) (on := on) (done := none)
      rw [spl_F (an := an) (an' := false) (d' := none)] at rl'
      generalize spl en (.branch m' c' r') false false on none = X at *
      have oj : ∀ y : Option ab, o_join none y = y := fun y => by cases y <;> rfl
      rw [oj] at rl'
      obtain ⟨h2, Ho2, Fa2, Be2, w2, x2, V2, c2, kh2, kf2, al2, e2⟩ := p1 h1 Ho1 Fa1 Be1 m k1 k' an (if an = true then X.1 else X.2.1) (if an = true then X.2.1 else X.1) w1 V1 c1 (by cases an <;> exact kh1) (by cases an <;> exact kf1) (by cases an <;> assumption) (by cases an <;> assumption) (wC_r wc) qb hk (by show 3 * m + 3 + cn3 r' ≤ 366; omega)
      refine ⟨h2, Ho2, Fa2, Be2, w2, sS_t x1 x2, V2, c2, ?_, ?_, ?_, fun Q => ?_⟩
      · rw [res, rl', fx_al.1]; exact kh2
      · rw [res, rl', fx_al.2.1]; exact kf2
      · rw [res, rl', (fx_al (a := 0)).2.2.2, (fx_al (an := an)).2.2.1, al2, al1, Int32.or_assoc]; rfl
      · rw [e1 Q, e2 Q]
    · obtain ⟨hN, vk, hr, rfl⟩ := cq_27 h26 h25 q
      obtain ⟨sum, c0, c1', p0', vW, U⟩ := hr
      obtain ⟨h1, F1, kh, kf, al, e⟩ := v_relO (d := d) (r := r) (kk := k) (v1 := v1) (v2 := v2) (v3 := some (.ref St)) (sN := sN) (en := en) V kB o1 hN c.r10 c.gW c.lW (by have := c.c; omega) c.b ⟨sum, c0, c1', p0', by rw [c.w]; exact vW, fun A' a1 a2 a3 => ⟨c.u _ _ _ _ _ _ (U A' a1 a2 a3).1, c.u _ _ _ _ _ _ (U A' a1 a2 a3).2⟩⟩
      have x1 := sS_G (m := m) V F1
      refine ⟨h1, Ho, Fa, Be, some (.int (kd (tK n - 27))), x1, SV_2 V F1, CC_s V x1 c, kh, kf, al, fun Q => ?_⟩
      have g := V.F.g 34 1 9 (by decide +kernel)
      have gY := V.q.gY
      have gS := c.g
      have s := c.s
      have r9 := c.r9
      have gK := c.gK
      have lK := c.lK
      have cb := c.b
      have cc := c.c
      have vK : mh_i h KA k = kd (tK n - 27) := by rw [c.k]; exact vk
      have hle : (ce ≤ k) = False := eq_false (by omega)
      have ei : ∀ k, Int32.ofNat k + 1 = Int32.ofNat (k + 1) := fun k => nn_add (a := k) (b := 1)
      obtain ⟨y1, y2, y3, y4, y5⟩ := kd_no (tK n - 27) (by omega)
      have E1 : mw (d + 5) 17 Q 54 [some (.ref 34), v1, v2, some (.ref St), some (.ref Y), some (.int (Int32.ofNat k)), w6] [] h = mw (d + 5) 17 Q 140 [some (.ref 34), v1, v2, some (.ref St), some (.ref Y), some (.int (Int32.ofNat k)), some (.int (kd (tK n - 27)))] [] h := by
        clear V c x1 F1 kh kf p0 p1 w q kB o1 e U al
        rw [s_17_54]
        simp (disch := omega) only [s_17_0, s_17_1, s_17_4, s_17_7, s_17_8, s_17_9, s_17_9n, s_17_9x, s_17_10, s_17_11, s_17_14, s_17_17, s_17_17n, s_17_17x, s_17_19, s_17_20, s_17_23, s_17_24, s_17_27, s_17_28, s_17_31, s_17_32, s_17_35, s_17_36, s_17_37, s_17_40, s_17_43, s_17_44, s_17_45, s_17_48, s_17_49, s_17_52, s_17_56, s_17_57, s_17_60, s_17_63, s_17_65, s_17_68, s_17_70, s_17_70x, s_17_71, s_17_73, s_17_75, s_17_78, s_17_81, s_17_83, s_17_85, s_17_88, s_17_89, s_17_92, s_17_94, s_17_97, s_17_100, s_17_102, s_17_105, s_17_108, s_17_109, s_17_112, s_17_115, s_17_117, s_17_120, s_17_123, s_17_125, s_17_128, s_17_131, s_17_132, s_17_134, s_17_137, s_17_142, s_17_144, s_17_147, s_17_148, s_17_150, s_17_153, s_17_155, s_17_155x, s_17_156, s_17_159, s_17_162, s_17_163, s_17_164, s_17_167, s_17_169, s_17_172, s_17_173, s_17_174, s_17_177, s_17_179, s_17_182, s_17_185, s_17_186, s_17_189, s_17_190, s_17_193, s_17_196, s_17_197, s_17_200, s_17_201, s_17_204, s_17_207, s_17_210, s_17_213, s_17_214, s_17_215, s_17_218, s_17_221, s_17_224, s_17_225, s_17_228, s_17_230, s_17_233, s_17_234, s_17_237, s_17_240, s_17_243, s_17_244, s_17_245, s_17_248, s_17_250, s_17_251, s_17_254, e_17, mv_i_1, mv_l_1, mv_a_1, mv_a_2, mv_a_3, mk2_n, mk2_i, mk2_l, mk2_a, mk2_u, mk2_x, mB_T, mB_F, mS_cons, mS_nil, mSB_T, mSB_F, mca_nil, mca_i, mca_l, mca_r, mca_u, mca_x, mcat_i, mcat_l, mcat_r, mcat_u, mcat_x, mK_some, mK_none, va_rf_s, va_rf_n, lgc_eq, lgc_lt, lgc_gt, lgc_ge, lgc_le, mrd_104, mrd_105, mrd_106, mrd_107, true_and, and_true, and_self, false_and, and_false, true_or, or_true, false_or, or_false, not_true_eq_false, not_false_eq_true, mgb, mga, mgr, mN, reduceCtorEq, ↓reduceIte, eq_self, ge_iff_le, gt_iff_lt, hk_si, hk_sj, hk_sr, hl_si, hl_sj, hl_sr, hn_si, hn_sj, hn_sr, hs_si, hs_sj, hs_sr, hi_sj, hi_sr, hj_si, hj_sr, hr_si, hr_sj, hi_si, hj_sj, hr_sr, mg_si, mg_sj, mg_sr, Nat.reduceAdd, Nat.reduceMul, Nat.reduceSub, Nat.reduceLT, Nat.reduceGT, Nat.reduceEqDiff, Nat.reduceLeDiff, Nat.left_eq_add, Nat.add_eq_left, Nat.reduceMod, Nat.reduceDiv, Nat.succ_ne_self, g, gY, gS, s, r9, gK, lK, vK, nn_le, nn_mxT, nn_clamp, hle, y1, y2, y3, y4, y5]
      refine E1.trans ((e Q).trans ?_)
      simp only [s_17_0, s_17_1, s_17_4, s_17_7, s_17_8, s_17_9, s_17_9n, s_17_9x, s_17_10, s_17_11, s_17_14, s_17_17, s_17_17n, s_17_17x, s_17_19, s_17_20, s_17_23, s_17_24, s_17_27, s_17_28, s_17_31, s_17_32, s_17_35, s_17_36, s_17_37, s_17_40, s_17_43, s_17_44, s_17_45, s_17_48, s_17_49, s_17_52, s_17_56, s_17_57, s_17_60, s_17_63, s_17_65, s_17_68, s_17_70, s_17_70x, s_17_71, s_17_73, s_17_75, s_17_78, s_17_81, s_17_83, s_17_85, s_17_88, s_17_89, s_17_92, s_17_94, s_17_97, s_17_100, s_17_102, s_17_105, s_17_108, s_17_109, s_17_112, s_17_115, s_17_117, s_17_120, s_17_123, s_17_125, s_17_128, s_17_131, s_17_132, s_17_134, s_17_137, s_17_140, s_17_142, s_17_144, s_17_147, s_17_148, s_17_150, s_17_153, s_17_155, s_17_155x, s_17_156, s_17_159, s_17_162, s_17_163, s_17_164, s_17_167, s_17_169, s_17_172, s_17_173, s_17_174, s_17_177, s_17_179, s_17_182, s_17_185, s_17_186, s_17_189, s_17_190, s_17_193, s_17_196, s_17_197, s_17_200, s_17_201, s_17_204, s_17_207, s_17_210, s_17_213, s_17_214, s_17_215, s_17_218, s_17_221, s_17_224, s_17_225, s_17_228, s_17_230, s_17_233, s_17_234, s_17_237, s_17_240, s_17_243, s_17_244, s_17_245, s_17_248, s_17_250, s_17_251, s_17_254, e_17, mv_i_1, mv_l_1, mv_a_1, mv_a_2, mv_a_3, mk2_n, mk2_i, mk2_l, mk2_a, mk2_u, mk2_x, mB_T, mB_F, mS_cons, mS_nil, mSB_T, mSB_F, mca_nil, mca_i, mca_l, mca_r, mca_u, mca_x, mcat_i, mcat_l, mcat_r, mcat_u, mcat_x, mK_some, mK_none, va_rf_s, va_rf_n, lgc_eq, lgc_lt, lgc_gt, lgc_ge, lgc_le, mrd_104, mrd_105, mrd_106, mrd_107, true_and, and_true, and_self, false_and, and_false, true_or, or_true, false_or, or_false, not_true_eq_false, not_false_eq_true, mgb, mga, mgr, mN, reduceCtorEq, ↓reduceIte, eq_self, ge_iff_le, gt_iff_lt, ei]
theorem sp_all : ∀ t, P0c h0 d P R lP Y C E TT UU SC SP nC nE nS nb na St KA WA nK ce sN en KK WW A0 v1 v2 t ∧ P1c h0 d P R lP Y C E TT UU SC SP nC nE nS nb na St KA WA nK ce sN en KK WW A0 v1 v2 t ∧ P1c h0 d P R lP Y C E TT UU SC SP nC nE nS nb na St KA WA nK ce sN en KK WW A0 v1 v2 (tT t) := by
  intro t
  induction t with
  | leaf u => exact ⟨fun h Ho Fa Be n k k' on w6 _ _ _ _ _ q _ _ => by
      have q' : false = true ∧ k' = k := q
      exact absurd q'.1 (by decide), P1c_leaf u, P1c_leaf u⟩
  | branch n cs r ih1 ih2 =>
    have p0 := P0c_br (n := n) (r := r) ih1.1 ih1.2.2
    exact ⟨p0, P1c_br p0 ih2.2.1, ih2.2.1⟩
end SPd
