set_option maxRecDepth 100000
/-! analyse: behind its BLOCK -/
/-- what stands behind its BLOCK -/
abbrev AB (h : mh_H) (e : Nat) (D : fd) (K C : Nat → Option ab) (A : Nat → Int32) : Prop := (RZ h) ∧ (FT h D) ∧ (∀ q, q < 250 → RK h (132 + 10 * q) (K q)) ∧ (∀ q, q < 250 → RK h (137 + 10 * q) (C q)) ∧ (∀ q, q ≤ e → mh_i h 118 q = A q) ∧ (mh_i h 115 7 = Int32.ofNat (e + 1))
theorem AB.Z {h : mh_H} {e : Nat} {D : fd} {K C : Nat → Option ab} {A : Nat → Int32} (q : AB h e D K C A) : RZ h := q.1
theorem AB.F {h : mh_H} {e : Nat} {D : fd} {K C : Nat → Option ab} {A : Nat → Int32} (q : AB h e D K C A) : FT h D := q.2.1
theorem AB.k {h : mh_H} {e : Nat} {D : fd} {K C : Nat → Option ab} {A : Nat → Int32} (q : AB h e D K C A) : ∀ q, q < 250 → RK h (132 + 10 * q) (K q) := q.2.2.1
theorem AB.c {h : mh_H} {e : Nat} {D : fd} {K C : Nat → Option ab} {A : Nat → Int32} (q : AB h e D K C A) : ∀ q, q < 250 → RK h (137 + 10 * q) (C q) := q.2.2.2.1
theorem AB.a {h : mh_H} {e : Nat} {D : fd} {K C : Nat → Option ab} {A : Nat → Int32} (q : AB h e D K C A) : ∀ q, q ≤ e → mh_i h 118 q = A q := q.2.2.2.2.1
theorem AB.f {h : mh_H} {e : Nat} {D : fd} {K C : Nat → Option ab} {A : Nat → Int32} (q : AB h e D K C A) : mh_i h 115 7 = Int32.ofNat (e + 1) := q.2.2.2.2.2
section ANs
variable {d : Nat} {h h1 : mh_H} {s0 s1 o p e f T q cnt : Nat} {E : nv} {D : fd} {w0 : wd} {G : pgm} {J : pin} {X Y : Option ab}
theorem RK_no (k : RK h o Y) : RK (mh_si h o 0 1) o none := by
  cases Y with
  | none =>
    have e1 : (1 : Int32) = mh_i h o 0 := (KN.z k).symm
    have e2 : mh_si h o 0 1 = h := (congrArg (mh_si h o 0) e1).trans si_id
    rw [e2]; exact k
  | some A => exact KN_si k
/-- the last point -/
theorem an_b (R : RA h s1 E D w0) (so : sp h o) (kx : RK h o X) (he : e ≤ 249) (f7 : mh_i h 115 7 = Int32.ofNat (e + 1)) {C : Nat → Option ab} (kC : ∀ q, q < 250 → RK h (137 + 10 * q) (C q)) {x1 x3 : Option Value} : ∃ h', rq 0 aZ h h' ∧ AB h' e D (fun q => if q = e then X else wK w0 q) C (fun q => if q = e then 0 else wA w0 q) ∧ (∀ j, mh_i h' 115 j = mh_i h 115 j) ∧ (∀ b, b < 115 → mh_i h' b = mh_i h b) ∧ (∀ b q, b = 130 ∨ b = 131 → mh_i h' b q = if q = e then 0 else mh_i h b q) ∧ mh_r h' = mh_r h ∧ (∀ q, q < 250 → q ≠ e → mh_i h' (132 + 10 * q) 2 = mh_i h (132 + 10 * q) 2) ∧ ∀ Q, mw (d + 1) 273 Q 61 [some (.ref 115), x1, some (.ref o), x3] [] h = mw (d + 1) 273 Q 112 [some (.ref 115), x1, some (.ref o), x3] [] h' := by
  have J0 := R.j
  have lo := sp_lo J0 so
  have F0 := J0.a.F
  obtain ⟨p1, p2, p3, p4⟩ := F0.p e (by omega)
  generalize eh6 : mh_si (mh_si h 130 e 0) 131 e 0 = h6
  have i6 : ∀ c j, ¬ (c = 130 ∨ c = 131) → mh_i h6 c j = mh_i h c j := fun c j hc => by rw [← eh6, hi_si, if_neg (by omega), hi_si, if_neg (by omega)]
  have i6' : ∀ b q, b = 130 ∨ b = 131 → mh_i h6 b q = if q = e then 0 else mh_i h b q := fun b q hb => by
    rw [← eh6, hi_si, hi_si]
    by_cases c : q = e
    · rw [if_pos c]
      rcases hb with hb | hb
      · rw [if_neg (by omega), if_pos ⟨hb, c⟩]
      · rw [if_pos ⟨hb, c⟩]
    · rw [if_neg c, if_neg (fun z => c z.2), if_neg (fun z => c z.2)]
  have ek6 : mh_k h6 = mh_k h := by rw [← eh6, hk_si, hk_si]
  have el6 : mh_l h6 = mh_l h := by rw [← eh6, hl_si, hl_si]
  have en6 : mh_n h6 = mh_n h := by rw [← eh6, hn_si, hn_si]
  have er6 : mh_r h6 = mh_r h := by rw [← eh6, hr_si, hr_si]
  have ej6 : mh_j h6 = mh_j h := by rw [← eh6, hj_si, hj_si]
  have z6 : fz (fun b _ => b = 130 ∨ b = 131) h h6 := ⟨Nat.le_of_eq en6.symm, fun b _ => ⟨by rw [ek6], by rw [el6]⟩, fun b j _ nb => ⟨i6 b j nb, by rw [ej6], by rw [er6]⟩⟩
  have x6 : rq 0 aZ h h6 := by
    rw [← eh6]
    exact rq_t (aZ_si (Or.inr (Or.inr (Or.inr (Or.inl rfl))))) (aZ_si (Or.inr (Or.inr (Or.inr (Or.inr (Or.inl rfl))))))
  have kx6 : RK h6 o X := RK_fz z6 (fun y hy j w => by omega) kx
  have ke6 : ko h6 (132 + 10 * e) := ko_fz z6 (fun j w => by omega) p1
  obtain ⟨h7, f7', k7, run7⟩ := k_281 (d := d) ke6 kx6 (by omega : 132 + 10 * e ≠ o)
  have i7 : ∀ c j, ¬ kW (132 + 10 * e) c → mh_i h7 c j = mh_i h6 c j := fun c j hc => (f7'.2.2.2.2.2 c hc).1 j
  generalize eh8 : mh_si h7 118 e 0 = h8
  have i8 : ∀ c j, ¬ (c = 118 ∧ j = e) → mh_i h8 c j = mh_i h7 c j := fun c j hc => by rw [← eh8, hi_si, if_neg hc]
  have ek8 : mh_k h8 = mh_k h := by rw [← eh8, hk_si, f7'.1, ek6]
  have el8 : mh_l h8 = mh_l h := by rw [← eh8, hl_si, f7'.2.1, el6]
  have er8 : mh_r h8 = mh_r h := by rw [← eh8, hr_si, f7'.2.2.1, er6]
  have en8 : mh_n h8 = mh_n h := by rw [← eh8, hn_si, f7'.2.2.2.1, en6]
  have z8 : fz (fun b _ => b = 118) h7 h8 := by
    rw [← eh8]
    exact fz_si rfl
  have ii : ∀ c j, ¬ kW (132 + 10 * e) c → ¬ (c = 118 ∧ j = e) → ¬ (c = 130 ∨ c = 131) → mh_i h8 c j = mh_i h c j := fun c j h1 h2 h3 => (i8 c j h2).trans ((i7 c j h1).trans (i6 c j h3))
  have x7 : rq 0 aZ h6 h7 := by
    have J6 : fz (fun b _ => kW (132 + 10 * e) b) h6 h7 := fz_fq f7'
    refine ⟨fR_w (fR_fq f7') (fun b j _ w => Or.inr (Or.inr (Or.inr (Or.inr (Or.inr (Or.inr (Or.inr (Or.inr (Or.inr (Or.inl ⟨e, by omega, by unfold kW at w; unfold kc; omega⟩)))))))))), fun x hx => Or.inl ?_, fun i a e => by rw [f7'.2.2.1]; exact e, fun i a e => Or.inl (by rw [← f7'.2.2.1]; exact e)⟩
    obtain ⟨j, j1, j2, j3⟩ := hx
    exact ⟨j, j1, j2, by rw [← f7'.2.2.1]; exact j3⟩
  have x8 : rq 0 aZ h7 h8 := by
    rw [← eh8]
    exact aZ_si (Or.inr (Or.inl rfl))
  have FF : FT h8 D := FT_same R.F ek8 el8 en8 er8 (fun c f hc _ => ii c f (by unfold kW; omega) (by omega) (by omega))
  refine ⟨h8, rq_t x6 (rq_t x7 x8), ⟨RZ_same R.Z ek8 el8 en8 (fun _ _ _ => by rw [er8]), FF, fun q hq => ?_, fun q hq => ?_, fun q hq => ?_, (ii _ _ (by unfold kW; omega) (by omega) (by omega)).trans f7⟩, fun j => ii _ _ (by unfold kW; omega) (by omega) (by omega), fun b hb => funext fun j => ii _ _ (by unfold kW; omega) (by omega) (by omega), fun b q hb => ?_, er8, fun q hq hne => ii _ _ (by unfold kW; omega) (by omega) (by omega), fun Q => ?_⟩
  · show RK h8 (132 + 10 * q) (if q = e then X else wK w0 q)
    by_cases c : q = e
    · rw [if_pos c, c]
      exact RK_fz z8 (fun y hy j w => by omega) k7
    · rw [if_neg c]
      exact RK_fz z8 (fun y hy j w => by omega) (RK_fz (fz_fq f7') (fun y hy j w => by unfold kW at w; omega) (RK_fz z6 (fun y hy j w => by omega) (R.k q hq).1))
  · exact RK_fz z8 (fun y hy j w => by omega) (RK_fz (fz_fq f7') (fun y hy j w => by unfold kW at w; omega) (RK_fz z6 (fun y hy j w => by omega) (kC q hq)))
  · show mh_i h8 118 q = if q = e then 0 else wA w0 q
    by_cases c : q = e
    · rw [if_pos c, c, ← eh8, hi_si, if_pos ⟨rfl, rfl⟩]
    · rw [if_neg c, ii _ _ (by unfold kW; omega) (fun z => c z.2) (by omega)]
      exact (R.k q (by omega)).2
  · rw [i8 _ _ (by omega), i7 _ _ (by unfold kW; omega)]
    exact i6' b q hb
  · have g := J0.a.g
    have g6 : mg h6 115 12 := by unfold mg at g ⊢; rw [ek6, en6]; exact g
    have g7 : mg h7 115 12 := (fq_mg f7').mpr g6
    have t36 := F0.f 115 36 130 (by decide +kernel)
    have t37 := F0.f 115 37 131 (by decide +kernel)
    have t4 := F0.f 115 4 116 (by decide +kernel)
    have t6 := F0.f 115 6 118 (by decide +kernel)
    have g130 := F0.g 130 100 250 (by decide +kernel)
    have l130 := F0.l 130 100 250 (by decide +kernel)
    have g131 := F0.g 131 100 250 (by decide +kernel)
    have l131 := F0.l 131 100 250 (by decide +kernel)
    have g116 := F0.g 116 106 250 (by decide +kernel)
    have l116 := F0.l 116 106 250 (by decide +kernel)
    have g118 := F0.g 118 100 250 (by decide +kernel)
    have l118 := F0.l 118 100 250 (by decide +kernel)
    have g116a : mh_k h6 116 = 106 := by rw [ek6]; exact g116.1
    have g116b : 116 < mh_n h6 := by rw [en6]; exact g116.2
    have l116' : mh_l h6 116 = 250 := by rw [el6]; exact l116
    have g118' : mg h7 118 100 := by unfold mg at g118 ⊢; rw [f7'.1, f7'.2.2.2.1, ek6, en6]; exact g118
    have l118' : mh_l h7 118 = 250 := by rw [f7'.2.1, el6]; exact l118
    have t4' : mh_r h6 115 4 = some 116 := by rw [er6]; exact t4
    have p3' : mh_r h6 116 e = some (132 + 10 * e) := by rw [er6]; exact p3
    have t6' : mh_r h7 115 6 = some 118 := by rw [f7'.2.2.1, er6]; exact t6
    have i67 : mh_i h6 115 7 = Int32.ofNat (e + 1) := (i6 _ _ (by omega)).trans f7
    have i77 : mh_i h7 115 7 = Int32.ofNat (e + 1) := (i7 _ _ (by unfold kW; omega)).trans i67
    have ge := ke6.1
    have es : ∀ j, 1 ≤ j → Int32.ofNat j - 1 = Int32.ofNat (j - 1) := fun j hj => nn_sub (a := j) (b := 1) hj
    have e1 : e + 1 - 1 = e := by omega
    clear R J0 F0 kx kC FF x6 x7 x8 z6 z8 kx6 k7 f7' i6 i6' i7 i8 ii ke6 p1 p2
    simp (disch := omega) only [s_273_0, s_273_1, s_273_4, s_273_5, s_273_6, s_273_9, s_273_10, s_273_11, s_273_14, s_273_15, s_273_16, s_273_19, s_273_20, s_273_21, s_273_24, s_273_27, s_273_28, s_273_29, s_273_30, s_273_31, s_273_34, s_273_35, s_273_36, s_273_39, s_273_40, s_273_43, s_273_43n, s_273_43x, s_273_44, s_273_45, s_273_48, s_273_49, s_273_50, s_273_51, s_273_52, s_273_55, s_273_56, s_273_57, s_273_58, s_273_61, s_273_62, s_273_65, s_273_66, s_273_69, s_273_70, s_273_71, s_273_72, s_273_73, s_273_74, s_273_77, s_273_78, s_273_81, s_273_82, s_273_83, s_273_84, s_273_85, s_273_86, s_273_89, s_273_90, s_273_93, s_273_94, s_273_95, s_273_96, s_273_97, s_273_100, s_273_101, s_273_104, s_273_105, s_273_108, s_273_109, s_273_110, s_273_111, s_273_113, s_273_116, s_273_119, s_273_120, s_273_121, s_273_122, s_273_123, s_273_126, s_273_129, s_273_130, s_273_133, s_273_134, s_273_135, s_273_136, s_273_139, s_273_140, s_273_143, s_273_144, s_273_145, s_273_146, s_273_149, s_273_152, s_273_153, s_273_156, s_273_157, s_273_158, s_273_161, s_273_164, s_273_165, s_273_168, s_273_169, e_273, mv_i_1, mv_l_1, mv_a_1, mv_a_2, mv_a_3, mk2_n, mk2_i, mk2_l, mk2_a, mk2_u, mk2_x, mB_T, mB_F, mS_cons, mS_nil, mSB_T, mSB_F, mca_nil, mca_i, mca_l, mca_r, mca_u, mca_x, mcat_i, mcat_l, mcat_r, mcat_u, mcat_x, mK_some, mK_none, va_rf_s, va_rf_n, lgc_eq, lgc_lt, lgc_gt, lgc_ge, lgc_le, mrd_104, mrd_105, mrd_106, mrd_107, true_and, and_true, and_self, false_and, and_false, true_or, or_true, false_or, or_false, not_true_eq_false, not_false_eq_true, mgb, mga, mgr, mN, reduceCtorEq, ↓reduceIte, eq_self, ge_iff_le, gt_iff_lt, hk_si, hk_sj, hk_sr, hl_si, hl_sj, hl_sr, hn_si, hn_sj, hn_sr, hs_si, hs_sj, hs_sr, hi_sj, hi_sr, hj_si, hj_sr, hr_si, hr_sj, hi_si, hj_sj, hr_sr, mg_si, mg_sj, mg_sr, Nat.reduceAdd, Nat.reduceMul, Nat.reduceSub, Nat.reduceLT, Nat.reduceGT, Nat.reduceEqDiff, Nat.reduceLeDiff, Nat.left_eq_add, Nat.add_eq_left, Nat.reduceMod, Nat.reduceDiv, Nat.succ_ne_self, g, g6, g7, t36, t37, t4', t6', g130, l130, g131, l131, g116a, g116b, l116', g118', l118', p3', f7, i67, i77, ge, es, e1, eh6, run7, eh8, nn_mxT, nn_clamp]
/-- too much: nothing is known -/
theorem an_c {K C : Nat → Option ab} {A : Nat → Int32} (B : AB h e D K C A) (he : e ≤ 249) {x1 : Option Value} : ∀ n, n ≤ e + 1 → ∃ h', rq 0 aZ h h' ∧ AB h' e D (fun q => if q < n then none else K q) C (fun q => if q < n then 0 else A q) ∧ (∀ j, mh_i h' 115 j = mh_i h 115 j) ∧ (∀ b, b < 115 ∨ b = 130 ∨ b = 131 → mh_i h' b = mh_i h b) ∧ mh_r h' = mh_r h ∧ ∀ Q, mw (d + 1) 273 Q 121 [some (.ref 115), x1, some (.ref o), some (.int 0)] [] h = mw (d + 1) 273 Q 121 [some (.ref 115), x1, some (.ref o), some (.int (Int32.ofNat n))] [] h' := by
  intro n
  induction n with
  | zero =>
    refine fun _ => ⟨h, rq_id, ?_, fun _ => rfl, fun _ _ => rfl, rfl, fun Q => rfl⟩
    have e1 : (fun q => if q < 0 then none else K q) = K := funext fun q => if_neg (Nat.not_lt_zero _)
    have e2 : (fun q => if q < 0 then 0 else A q) = A := funext fun q => if_neg (Nat.not_lt_zero _)
    rw [e1, e2]
    exact B
  | succ n ih =>
    intro hn
    obtain ⟨h1, x1', B1, j1, r1, er1, run1⟩ := ih (by omega)
    have F1 := B1.Z.F
    obtain ⟨p1, -, p3, -⟩ := F1.p n (by omega)
    have kn := RK_no (B1.k n (by omega))
    generalize eh2 : mh_si h1 (132 + 10 * n) 0 1 = h2 at *
    generalize eh3 : mh_si h2 118 n 0 = h3
    have i3 : ∀ c j, ¬ (c = 132 + 10 * n) → ¬ (c = 118 ∧ j = n) → mh_i h3 c j = mh_i h1 c j := fun c j h1' h2' => by rw [← eh3, hi_si, if_neg h2', ← eh2, hi_si, if_neg (fun z => h1' z.1)]
    have ek3 : mh_k h3 = mh_k h1 := by rw [← eh3, hk_si, ← eh2, hk_si]
    have el3 : mh_l h3 = mh_l h1 := by rw [← eh3, hl_si, ← eh2, hl_si]
    have en3 : mh_n h3 = mh_n h1 := by rw [← eh3, hn_si, ← eh2, hn_si]
    have er3 : mh_r h3 = mh_r h1 := by rw [← eh3, hr_si, ← eh2, hr_si]
    have z12 : fz (fun b _ => b = 132 + 10 * n) h1 h2 := by
      rw [← eh2]
      exact fz_si rfl
    have z23 : fz (fun b _ => b = 118) h2 h3 := by
      rw [← eh3]
      exact fz_si rfl
    have x12 : rq 0 aZ h1 h2 := by
      rw [← eh2]
      exact aZ_si (Or.inr (Or.inr (Or.inr (Or.inr (Or.inr (Or.inl ⟨n, by omega, by unfold kc; omega⟩))))))
    have x23 : rq 0 aZ h2 h3 := by
      rw [← eh3]
      exact aZ_si (Or.inr (Or.inl rfl))
    have i118 : mh_i h3 118 n = 0 := by rw [← eh3, hi_si, if_pos ⟨rfl, rfl⟩]
    refine ⟨h3, rq_t x1' (rq_t x12 x23), ⟨RZ_same B1.Z ek3 el3 en3 (fun _ _ _ => by rw [er3]), FT_same B1.F ek3 el3 en3 er3 (fun c f hc _ => i3 c f (by omega) (by omega)), fun q hq => ?_, fun q hq => RK_fz z23 (fun y hy j w => by omega) (RK_fz z12 (fun y hy j w => by omega) (B1.c q hq)), fun q hq => ?_, (i3 _ _ (by omega) (by omega)).trans B1.f⟩, fun j => (i3 _ _ (by omega) (by omega)).trans (j1 j), fun b hb => funext fun j => (i3 b j (by omega) (by omega)).trans (by rw [r1 b hb]), er3.trans er1, fun Q => ?_⟩
    · show RK h3 (132 + 10 * q) (if q < n + 1 then none else K q)
      by_cases c : q = n
      · rw [if_pos (by omega), c]
        exact RK_fz z23 (fun y hy j w => by omega) kn
      · have k0 : RK h1 (132 + 10 * q) (if q < n then none else K q) := B1.k q hq
        have k1 := RK_fz z23 (fun y hy j w => by omega) (RK_fz z12 (fun y hy j w => by omega) k0)
        by_cases c2 : q < n
        · rw [if_pos c2] at k1
          rw [if_pos (by omega)]; exact k1
        · rw [if_neg c2] at k1
          rw [if_neg (by omega)]; exact k1
    · show mh_i h3 118 q = if q < n + 1 then 0 else A q
      by_cases c : q = n
      · rw [if_pos (by omega), c]; exact i118
      · have k0 : mh_i h1 118 q = if q < n then 0 else A q := B1.a q hq
        rw [i3 _ _ (by omega) (fun z => c z.2), k0]
        by_cases c2 : q < n
        · rw [if_pos c2, if_pos (by omega)]
        · rw [if_neg c2, if_neg (by omega)]
    · rw [run1]
      have g1 := F1.g 115 12 38 (by decide +kernel)
      have t4 := F1.f 115 4 116 (by decide +kernel)
      have t6 := F1.f 115 6 118 (by decide +kernel)
      have g116 := F1.g 116 106 250 (by decide +kernel)
      have g116a := g116.1
      have g116b := g116.2
      have l116 := F1.l 116 106 250 (by decide +kernel)
      have g118 := F1.g 118 100 250 (by decide +kernel)
      have l118 := F1.l 118 100 250 (by decide +kernel)
      have gn := p1.1
      have f7 := B1.f
      have g2 : mg h2 115 12 := by unfold mg at g1 ⊢; rw [← eh2, hk_si, hn_si]; exact g1
      have g118' : mg h2 118 100 := by unfold mg at g118 ⊢; rw [← eh2, hk_si, hn_si]; exact g118
      have l118' : mh_l h2 118 = 250 := by rw [← eh2, hl_si]; exact l118
      have t6' : mh_r h2 115 6 = some 118 := by rw [← eh2, hr_si]; exact t6
      have le : (e + 1 ≤ n) = False := eq_false (by omega)
      have lt : (n < e + 1) = True := eq_true (by omega)
      have e1' : ∀ k, Int32.ofNat k + 1 = Int32.ofNat (k + 1) := fun k => nn_add (a := k) (b := 1)
      have or11 : ((1 : Int32) = 0 ∨ (1 : Int32) = 1) = True := by decide
      clear B B1 F1 x1' x12 x23 z12 z23 kn i3 ih run1 p1 j1 r1
      rw [s_273_121]
      simp (disch := omega) only [s_273_0, s_273_1, s_273_4, s_273_5, s_273_6, s_273_9, s_273_10, s_273_11, s_273_14, s_273_15, s_273_16, s_273_19, s_273_20, s_273_21, s_273_24, s_273_27, s_273_28, s_273_29, s_273_30, s_273_31, s_273_34, s_273_35, s_273_36, s_273_39, s_273_40, s_273_43, s_273_43n, s_273_43x, s_273_44, s_273_45, s_273_48, s_273_49, s_273_50, s_273_51, s_273_52, s_273_55, s_273_56, s_273_57, s_273_58, s_273_61, s_273_62, s_273_65, s_273_66, s_273_69, s_273_70, s_273_71, s_273_72, s_273_73, s_273_74, s_273_77, s_273_78, s_273_81, s_273_82, s_273_83, s_273_84, s_273_85, s_273_86, s_273_89, s_273_90, s_273_93, s_273_94, s_273_95, s_273_96, s_273_97, s_273_100, s_273_101, s_273_104, s_273_105, s_273_108, s_273_109, s_273_110, s_273_111, s_273_112, s_273_113, s_273_116, s_273_119, s_273_120, s_273_122, s_273_123, s_273_126, s_273_129, s_273_130, s_273_133, s_273_134, s_273_135, s_273_136, s_273_139, s_273_140, s_273_143, s_273_144, s_273_145, s_273_146, s_273_149, s_273_152, s_273_153, s_273_156, s_273_157, s_273_158, s_273_161, s_273_164, s_273_165, s_273_168, s_273_169, e_273, mv_i_1, mv_l_1, mv_a_1, mv_a_2, mv_a_3, mk2_n, mk2_i, mk2_l, mk2_a, mk2_u, mk2_x, mB_T, mB_F, mS_cons, mS_nil, mSB_T, mSB_F, mca_nil, mca_i, mca_l, mca_r, mca_u, mca_x, mcat_i, mcat_l, mcat_r, mcat_u, mcat_x, mK_some, mK_none, va_rf_s, va_rf_n, lgc_eq, lgc_lt, lgc_gt, lgc_ge, lgc_le, mrd_104, mrd_105, mrd_106, mrd_107, true_and, and_true, and_self, false_and, and_false, true_or, or_true, false_or, or_false, not_true_eq_false, not_false_eq_true, mgb, mga, mgr, mN, reduceCtorEq, ↓reduceIte, eq_self, ge_iff_le, gt_iff_lt, Nat.reduceAdd, Nat.reduceMul, Nat.reduceSub, Nat.reduceLT, Nat.reduceGT, Nat.reduceEqDiff, Nat.reduceLeDiff, Nat.left_eq_add, Nat.add_eq_left, Nat.reduceMod, Nat.reduceDiv, Nat.succ_ne_self, g1, g2, f7, nn_le, nn_lt, le, lt, t4, g116a, g116b, l116, p3, gn, or11, eh2, t6', g118', l118', eh3, e1', nn_mxT, nn_clamp]
end ANs
