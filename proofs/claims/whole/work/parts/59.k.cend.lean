set_option maxRecDepth 100000
/-! the class's end: analysis, claims; what is run stays -/
section IMXs
variable {Y C E TT UU SC SP nC nE nS pa cnt : Nat} {G : pgm} {J : pin}
theorem ICm_pX {h h1 : mh_H} {V U : Nat → Nat → Prop} (B : BS h Y C E TT UU SC SP nC nE nS) (z : zS V U h h1) (hU : ∀ b j, U b j → aX h b) (w : ICm Y C E TT UU SC SP nC nE nS pa G J cnt h) : ICm Y C E TT UU SC SP nC nE nS pa G J cnt h1 := by
  have F := B.F
  have q := B.q
  have nY := B.q.n Y (by simp)
  have gY := B.q.gY
  have g20 := F.g 20 105 250 (by decide +kernel)
  have g21 := F.g 21 100 250 (by decide +kernel)
  have g22 := F.g 22 100 250 (by decide +kernel)
  have eC := z_srcX B z hU q.gC (q.n C (by simp))
  have e6 := z_srcX B z hU q.g6 (q.n SC (by simp))
  have rY : ∀ j, mh_r h1 Y j = mh_r h Y j := fun j => z.rr Y 7 j gY (by decide) (by decide) (by unfold eff; omega) (by unfold isPl; omega)
  refine ⟨⟨by rw [z.ii Y 7 5 B.q.gY (by decide) (by decide) (by unfold eff; omega) (fun u => by have := hU _ _ u; have := B.q.gY.1; have := g21.1; have := g22.1; unfold aX aI at *; omega)]; exact w.1.1, w.1.2⟩, fun p hp => ?_⟩
  obtain ⟨St, nb, na, nm, q1, q2, q3, q4, q5, q6, q7, q8⟩ := w.2 p hp
  obtain ⟨n1, n2⟩ := st_neX B q2
  have iS : ∀ j, mh_i h1 St j = mh_i h St j := fun j => z.ii St 9 j q2 (by decide) (by decide) n1 (fun u => n2 (hU _ _ u))
  refine ⟨St, nb, na, nm, by rw [z.rr 20 105 p g20 (by decide) (by decide) (by unfold eff; omega) (by unfold isPl; omega)]; exact q1, zS_g z q2, by rw [z.ii 21 100 p g21 (by decide) (by decide) (by unfold eff; omega) (fun u => by have := hU _ _ u; have := B.q.gY.1; have := g21.1; have := g22.1; unfold aX aI at *; omega)]; exact q3, by rw [z.ii 22 100 p g22 (by decide) (by decide) (by unfold eff; omega) (fun u => by have := hU _ _ u; have := B.q.gY.1; have := g21.1; have := g22.1; unfold aX aI at *; omega)]; exact q4, by rw [iS]; exact q5, q6, PTC_zX B z hU q2 q7, fun e7 => ?_⟩
  obtain ⟨k0, ce, KA, WA, nK, M, r1, r2, Y7⟩ := q8 e7
  obtain ⟨-, -, -, -, -, -, W7, -⟩ := q7
  obtain ⟨-, k0', ce', KA', WA', nK', KK, WW, -, u3, -⟩ := W7 e7
  have eA : KA' = KA := by
    have a := u3.r9
    have b := M.r9
    rw [a] at b
    cases b
    rfl
  have eB : WA' = WA := by
    have a := u3.r10
    have b := M.r10
    rw [a] at b
    cases b
    rfl
  subst eA
  subst eB
  have eK := z_srcX B z hU M.gK (u3.n KA' (by simp))
  have eW := z_srcX B z hU M.gW (u3.n WA' (by simp))
  refine ⟨k0, ce, KA', WA', nK, MC.of ⟨zS_g z M.g, by rw [iS]; exact M.s12, by rw [iS]; exact M.s13, by rw [rY]; exact M.r9, zS_g z M.gK, by rw [zS_l z M.gK]; exact M.lK, by rw [rY]; exact M.r10, zS_g z M.gW, by rw [zS_l z M.gW]; exact M.lW, M.b, M.ne⟩, r1, r2, ?_⟩
  rw [eK, eW]
  have er : relM h1 C SC nC nS nb na (J.sN p) (J.en p) (A0 (G.n p) (G.a p) (G.rm p)) (mh_i h WA') = relM h C SC nC nS nb na (J.sN p) (J.en p) (A0 (G.n p) (G.a p) (G.rm p)) (mh_i h WA') := by
    funext cs k
    unfold relM mS1
    rw [eC, e6]
  rw [er]
  exact Y7
end IMXs
/-- what the class has found: at each point, and whether it was too much -/
def CAZ (h : mh_H) (G : pgm) (f cnt : Nat) (w0 : wd) : Prop := (∀ q, q < cnt → pv h 54 q (KF (cnt - 1) (DB G f 0 (cnt - 1) (some A00) w0) q)) ∧ (∀ q, q < cnt → pv h 73 q (KF (cnt - 1) (DB G f 0 (cnt - 1) (some A00) w0) q)) ∧ (∀ q, q < cnt → mh_i h 55 q = AF (cnt - 1) (DB G f 0 (cnt - 1) (some A00) w0) q) ∧ (mh_i h 53 2 = (if 4000 < wW (DB G f 0 (cnt - 1) (some A00) w0).2.1 then 0 else Int32.ofNat (wW (DB G f 0 (cnt - 1) (some A00) w0).2.1))) ∧ (mh_i h 53 3 = kb (decide (4000 < wW (DB G f 0 (cnt - 1) (some A00) w0).2.1)))
theorem CAZ.of {h : mh_H} {G : pgm} {f cnt : Nat} {w0 : wd} (q : (∀ q, q < cnt → pv h 54 q (KF (cnt - 1) (DB G f 0 (cnt - 1) (some A00) w0) q)) ∧ (∀ q, q < cnt → pv h 73 q (KF (cnt - 1) (DB G f 0 (cnt - 1) (some A00) w0) q)) ∧ (∀ q, q < cnt → mh_i h 55 q = AF (cnt - 1) (DB G f 0 (cnt - 1) (some A00) w0) q) ∧ (mh_i h 53 2 = (if 4000 < wW (DB G f 0 (cnt - 1) (some A00) w0).2.1 then 0 else Int32.ofNat (wW (DB G f 0 (cnt - 1) (some A00) w0).2.1))) ∧ (mh_i h 53 3 = kb (decide (4000 < wW (DB G f 0 (cnt - 1) (some A00) w0).2.1)))) : CAZ h G f cnt w0 := q
theorem CAZ.k {h : mh_H} {G : pgm} {f cnt : Nat} {w0 : wd} (q : CAZ h G f cnt w0) : ∀ q, q < cnt → pv h 54 q (KF (cnt - 1) (DB G f 0 (cnt - 1) (some A00) w0) q) := q.1
theorem CAZ.c {h : mh_H} {G : pgm} {f cnt : Nat} {w0 : wd} (q : CAZ h G f cnt w0) : ∀ q, q < cnt → pv h 73 q (KF (cnt - 1) (DB G f 0 (cnt - 1) (some A00) w0) q) := q.2.1
theorem CAZ.a {h : mh_H} {G : pgm} {f cnt : Nat} {w0 : wd} (q : CAZ h G f cnt w0) : ∀ q, q < cnt → mh_i h 55 q = AF (cnt - 1) (DB G f 0 (cnt - 1) (some A00) w0) q := q.2.2.1
theorem CAZ.w {h : mh_H} {G : pgm} {f cnt : Nat} {w0 : wd} (q : CAZ h G f cnt w0) : mh_i h 53 2 = (if 4000 < wW (DB G f 0 (cnt - 1) (some A00) w0).2.1 then 0 else Int32.ofNat (wW (DB G f 0 (cnt - 1) (some A00) w0).2.1)) := q.2.2.2.1
theorem CAZ.m {h : mh_H} {G : pgm} {f cnt : Nat} {w0 : wd} (q : CAZ h G f cnt w0) : mh_i h 53 3 = kb (decide (4000 < wW (DB G f 0 (cnt - 1) (some A00) w0).2.1)) := q.2.2.2.2
def t8U (b j : Nat) : Prop := b = 53 ∨ b = 55 ∨ b = 59 ∨ b = 60 ∨ b = 65 ∨ b = 66 ∨ (b = 0 ∧ (j = 1 ∨ j = 7 ∨ j = 10 ∨ j = 11)) ∨ (b = 67 ∧ (j = 3 ∨ j = 4 ∨ j = 5))
def t8V (b j : Nat) : Prop := aV 0 b j ∨ b = 73
def f5H (h : mh_H) : mh_H := mh_si (mh_si (mh_si (mh_si (mh_si h 67 4 0) 67 5 0) 67 3 0) 0 1 0) 0 7 1
section CTs
variable {d : Nat} {h h1 : mh_H} {Y C E TT UU SC SP nC nE nS cnt f : Nat} {G : pgm} {I : mh_H → Prop} {r : Nat → Nat}
theorem z_186 (EF : EFF Y C E TT UU SC SP nC nE nS G cnt I) (hI : hIp Y C E TT UU SC SP nC nE nS I) (B : BS h Y C E TT UU SC SP nC nE nS) (H : PH h G cnt) (i0 : I h) (nu : nul h) (n6 : mh_r h 53 6 ≠ none) (kn : ∀ i, i < 250 → mh_r h 54 i = none ∨ ∃ v, pv h 54 i v) (cn : ∀ i, i < 250 → mh_r h 73 i = none ∨ ∃ v, pv h 73 i v) (wb : WB G f 0 (cnt - 1) 0 0 r) {x1 x2 x3 x4 x5 : Option Value} {v6 : Int32} : ∃ h' w0, wW w0 = 0 ∧ zS t8V t8U h h' ∧ BS h' Y C E TT UU SC SP nC nE nS ∧ PH h' G cnt ∧ nul h' ∧ mh_r h' 53 6 ≠ none ∧ (∀ i, i < 250 → mh_r h' 54 i = none ∨ ∃ v, pv h' 54 i v) ∧ (∀ i, i < 250 → mh_r h' 73 i = none ∨ ∃ v, pv h' 73 i v) ∧ CAZ h' G f cnt w0 ∧ (mh_i h' 0 10 = 0 ∧ mh_i h' 0 11 = 0 ∧ mh_i h' 67 3 = 0 ∧ mh_i h' 67 4 = 0 ∧ mh_i h' 67 5 = 0 ∧ mh_i h' 0 1 = 0 ∧ mh_i h' 0 7 = 1) ∧ ∀ Q, mw (d + 8) 186 Q 140 [some (.ref 0), x1, x2, x3, x4, x5, some (.int v6)] [] h = Q (some (.int (if 4000 < wW (DB G f 0 (cnt - 1) (some A00) w0).2.1 then 3 else v6))) h' := by
  have F := B.F
  obtain ⟨c0, c250⟩ := H.b
  obtain ⟨h1, w0, y1, y2, y3, y4, -, y6, y7, y8, y9, y10⟩ := v_1 (d := d) EF hI B H i0 nu n6 kn wb
  have F1 := y3.F
  have fnd : (∀ q, q < cnt → pv h1 54 q (KF (cnt - 1) (DB G f 0 (cnt - 1) (some A00) w0) q)) ∧ (∀ q, q < cnt → mh_i h1 55 q = AF (cnt - 1) (DB G f 0 (cnt - 1) (some A00) w0) q) ∧ mh_i h1 53 2 = (if 4000 < wW (DB G f 0 (cnt - 1) (some A00) w0).2.1 then 0 else Int32.ofNat (wW (DB G f 0 (cnt - 1) (some A00) w0).2.1)) ∧ mh_i h1 53 3 = kb (decide (4000 < wW (DB G f 0 (cnt - 1) (some A00) w0).2.1)) := by
    unfold KF AF
    rcases y9 with ⟨a1, a2, a3, a4, a5, a6⟩ | ⟨a1, a2, a3, a4⟩
    · have nl : ¬ 4000 < wW (DB G f 0 (cnt - 1) (some A00) w0).2.1 := by omega
      refine ⟨fun q hq => ?_, fun q hq => ?_, ?_, ?_⟩
      · rw [if_neg nl]
        by_cases c : q = cnt - 1
        · rw [if_pos c, c]; exact a5
        · rw [if_neg c]; exact (a4 q (by omega)).1
      · rw [if_neg nl]
        by_cases c : q = cnt - 1
        · rw [if_pos c, c]; exact a6
        · rw [if_neg c]; exact (a4 q (by omega)).2
      · rw [if_neg nl]; exact a2
      · rw [decide_eq_false nl]; exact a3
    · refine ⟨fun q hq => ?_, fun q hq => ?_, ?_, ?_⟩
      · rw [if_pos a1]; exact (a4 q hq).1
      · rw [if_pos a1]; exact (a4 q hq).2
      · rw [if_pos a1]; exact a2
      · rw [decide_eq_true a1]; exact a3
  obtain ⟨k1, k2, k3, k4⟩ := fnd
  have p73 : ∀ i, i < 250 → mh_r h1 73 i = none ∨ ∃ v, pv h1 73 i v := fun i hi => by
    have pl : isPl 73 i := by unfold isPl; omega
    have nv : ¬ aV 0 73 i := by unfold aV; omega
    rcases cn i hi with e | ⟨v, e⟩
    · exact Or.inl (y2.pz 73 i pl nv e)
    · exact Or.inr ⟨v, y2.pp 73 i v pl nv e⟩
  obtain ⟨h2, z1, z2, z3, z4, z5, z6, z7⟩ := v_187 (d := d + 5) y3 y4 p73 k1
  have F2 := z2.F
  have zU : ∀ b j, ntU b j → aX h1 b := fun b j w => Or.inr (Or.inl w.1)
  have H2 : PH h2 G cnt := PH_sX y3 z1 zU y4
  have fF : fG (fun b j => (b = 67 ∧ (j = 3 ∨ j = 4 ∨ j = 5)) ∨ (b = 0 ∧ (j = 1 ∨ j = 7))) h2 (f5H h2) := by
    unfold f5H
    exact fG_t (fG_si (Or.inl ⟨rfl, by omega⟩)) (fG_t (fG_si (Or.inl ⟨rfl, by omega⟩)) (fG_t (fG_si (Or.inl ⟨rfl, by omega⟩)) (fG_t (fG_si (Or.inr ⟨rfl, by omega⟩)) (fG_si (Or.inr ⟨rfl, by omega⟩)))))
  have iF : ∀ b j, mh_i (f5H h2) b j = if b = 0 ∧ j = 7 then 1 else if b = 0 ∧ j = 1 then 0 else if b = 67 ∧ j = 3 then 0 else if b = 67 ∧ j = 5 then 0 else if b = 67 ∧ j = 4 then 0 else mh_i h2 b j := fun b j => by
    unfold f5H
    rw [hi_si, hi_si, hi_si, hi_si, hi_si]
  obtain ⟨w1, w2⟩ := zS_G z2 fF (fun b j w => by unfold aX; omega)
  have H3 : PH (f5H h2) G cnt := PH_sX z2 w1 (fun b j w => by unfold aX; omega) H2
  have i53 : ∀ j, mh_i h2 53 j = mh_i h1 53 j := fun j => z1.ii 53 0 j (F1.g 53 0 17 (by decide +kernel)) (by decide) (by decide) (by unfold eff; omega) (by unfold ntU; omega)
  have i55 : ∀ j, mh_i h2 55 j = mh_i h1 55 j := fun j => z1.ii 55 100 j (F1.g 55 100 250 (by decide +kernel)) (by decide) (by decide) (by unfold eff; omega) (by unfold ntU; omega)
  have j5 : ∀ b j, b ≠ 0 → b ≠ 67 → mh_i (f5H h2) b j = mh_i h2 b j := fun b j u1 u2 => by rw [iF, if_neg (by omega), if_neg (by omega), if_neg (by omega), if_neg (by omega), if_neg (by omega)]
  have pz : ∀ b j v, isPl b j → b ≠ 73 → pv h1 b j v → pv (f5H h2) b j v := fun b j v pl n p => w1.pp b j v pl (fun z => z) (z1.pp b j v pl n p)
  have po : ∀ b j, isPl b j → b ≠ 73 → mh_r h1 b j = none → mh_r (f5H h2) b j = none := fun b j pl n p => w1.pz b j pl (fun z => z) (z1.pz b j pl n p)
  have ps : ∀ b j, isPl b j → b ≠ 51 → mh_r h1 b j ≠ none → mh_r (f5H h2) b j ≠ none := fun b j pl n p => w1.pn b j pl n (z1.pn b j pl n p)
  refine ⟨f5H h2, w0, y1, ?_, w2, H3, fun i hi => ?_, ?_, fun i hi => ?_, fun i hi => ?_, CAZ.of ⟨fun q hq => ?_, fun q hq => ?_, fun q hq => ?_, ?_, ?_⟩, ⟨?_, ?_, ?_, ?_, ?_, ?_, ?_⟩, fun Q => ?_⟩
  · refine zS_t (zS_w y2 (fun b j w => Or.inl w) (fun b j w => by unfold aU at w; unfold t8U; omega)) (zS_t (zS_w z1 (fun b j w => Or.inr w) (fun b j w => by unfold ntU at w; unfold t8U; omega)) (zS_w w1 (fun b j w => w.elim) (fun b j w => by unfold t8U; omega)))
  · rcases y6 i hi with ⟨a, b, c⟩ | ⟨a, b, c⟩
    · exact Or.inl ⟨po 62 i (by unfold isPl; omega) (by omega) a, po 63 i (by unfold isPl; omega) (by omega) b, po 64 i (by unfold isPl; omega) (by omega) c⟩
    · exact Or.inr ⟨ps 62 i (by unfold isPl; omega) (by omega) a, ps 63 i (by unfold isPl; omega) (by omega) b, ps 64 i (by unfold isPl; omega) (by omega) c⟩
  · exact ps 53 6 (by unfold isPl; omega) (by omega) y7
  · rcases y8 i hi with e | ⟨v, e⟩
    · exact Or.inl (po 54 i (by unfold isPl; omega) (by omega) e)
    · exact Or.inr ⟨v, pz 54 i v (by unfold isPl; omega) (by omega) e⟩
  · rcases z3 i hi with e | ⟨v, e⟩
    · exact Or.inl (w1.pz 73 i (by unfold isPl; omega) (fun z => z) e)
    · exact Or.inr ⟨v, w1.pp 73 i v (by unfold isPl; omega) (fun z => z) e⟩
  · exact pz 54 q _ (by unfold isPl; omega) (by omega) (k1 q hq)
  · exact w1.pp 73 q _ (by unfold isPl; omega) (fun z => z) (z4 q hq)
  · rw [j5 55 q (by omega) (by omega), i55]; exact k2 q hq
  · rw [j5 53 2 (by omega) (by omega), i53]; exact k3
  · rw [j5 53 3 (by omega) (by omega), i53]; exact k4
  · rw [iF, if_neg (by omega), if_neg (by omega), if_neg (by omega), if_neg (by omega), if_neg (by omega)]; exact z5
  · rw [iF, if_neg (by omega), if_neg (by omega), if_neg (by omega), if_neg (by omega), if_neg (by omega)]; exact z6
  · rw [iF, if_neg (by omega), if_neg (by omega), if_pos ⟨rfl, rfl⟩]
  · rw [iF, if_neg (by omega), if_neg (by omega), if_neg (by omega), if_neg (by omega), if_pos ⟨rfl, rfl⟩]
  · rw [iF, if_neg (by omega), if_neg (by omega), if_neg (by omega), if_pos ⟨rfl, rfl⟩]
  · rw [iF, if_neg (by omega), if_pos ⟨rfl, rfl⟩]
  · rw [iF, if_pos ⟨rfl, rfl⟩]
  · have g0 := F.g 0 11 15 (by decide +kernel)
    have t4 := F.f 0 4 53 (by decide +kernel)
    have g53 := F.g 53 0 17 (by decide +kernel)
    have g01 := F1.g 0 11 15 (by decide +kernel)
    have g02 := F2.g 0 11 15 (by decide +kernel)
    have t5 := F2.f 0 5 67 (by decide +kernel)
    have t42 := F2.f 0 4 53 (by decide +kernel)
    have g67 := F2.g 67 2 13 (by decide +kernel)
    have g532 := F2.g 53 0 17 (by decide +kernel)
    have a27 := c_27 (d := d + 7) F2
    have e53 : mh_i h2 53 3 = kb (decide (4000 < wW (DB G f 0 (cnt - 1) (some A00) w0).2.1)) := (i53 3).trans k4
    unfold f5H
    clear B H EF hI i0 F F1 F2 y2 y3 y4 y6 y8 y9 z1 z2 z3 z4 w1 w2 H2 H3 fF iF k1 k2 k3 k4 pz po ps j5 i53 i55 p73 kn cn nu
    by_cases c4 : 4000 < wW (DB G f 0 (cnt - 1) (some A00) w0).2.1
    · rw [if_pos c4]
      rw [decide_eq_true c4] at e53
      have e53' : mh_i h2 53 3 = 1 := e53
      have n1 : ((1 : Int32) = 0) = False := by decide
      rw [s_186_140]
      simp (disch := omega) only [s_186_0, s_186_1, s_186_4, s_186_5, s_186_6, s_186_9, s_186_12, s_186_13, s_186_14, s_186_17, s_186_18, s_186_19, s_186_22, s_186_23, s_186_26, s_186_26n, s_186_27, s_186_28, s_186_31, s_186_34, s_186_35, s_186_36, s_186_39, s_186_39n, s_186_40, s_186_43, s_186_44, s_186_45, s_186_46, s_186_49, s_186_49n, s_186_51, s_186_53, s_186_56, s_186_58, s_186_59, s_186_60, s_186_63, s_186_64, s_186_65, s_186_68, s_186_69, s_186_71, s_186_72, s_186_75, s_186_78, s_186_80, s_186_81, s_186_84, s_186_85, s_186_87, s_186_88, s_186_90, s_186_93, s_186_96, s_186_97, s_186_100, s_186_101, s_186_102, s_186_105, s_186_108, s_186_109, s_186_111, s_186_112, s_186_113, s_186_116, s_186_119, s_186_122, s_186_123, s_186_124, s_186_127, s_186_130, s_186_133, s_186_134, s_186_137, s_186_141, s_186_144, s_186_147, s_186_148, s_186_151, s_186_152, s_186_155, s_186_158, s_186_159, s_186_160, s_186_163, s_186_164, s_186_165, s_186_168, s_186_169, s_186_172, s_186_175, s_186_178, s_186_179, s_186_182, s_186_184, e_186, mv_i_1, mv_l_1, mv_a_1, mv_a_2, mv_a_3, mk2_n, mk2_i, mk2_l, mk2_a, mk2_u, mk2_x, mB_T, mB_F, mS_cons, mS_nil, mSB_T, mSB_F, mca_nil, mca_i, mca_l, mca_r, mca_u, mca_x, mcat_i, mcat_l, mcat_r, mcat_u, mcat_x, mK_some, mK_none, va_rf_s, va_rf_n, lgc_eq, lgc_lt, lgc_gt, lgc_ge, lgc_le, mrd_104, mrd_105, mrd_106, mrd_107, true_and, and_true, and_self, false_and, and_false, true_or, or_true, false_or, or_false, not_true_eq_false, not_false_eq_true, mgb, mga, mgr, mN, reduceCtorEq, ↓reduceIte, eq_self, ge_iff_le, gt_iff_lt, hk_si, hk_sj, hk_sr, hl_si, hl_sj, hl_sr, hn_si, hn_sj, hn_sr, hs_si, hs_sj, hs_sr, hi_sj, hi_sr, hj_si, hj_sr, hr_si, hr_sj, hi_si, hj_sj, hr_sr, mg_si, mg_sj, mg_sr, Nat.reduceAdd, Nat.reduceMul, Nat.reduceSub, Nat.reduceLT, Nat.reduceGT, Nat.reduceEqDiff, Nat.reduceLeDiff, Nat.left_eq_add, Nat.add_eq_left, Nat.reduceMod, Nat.reduceDiv, Nat.succ_ne_self, g0, t4, g53, y10, g01, z7, g02, t5, g67, a27, t42, g532, e53', n1]
    · rw [if_neg c4]
      rw [decide_eq_false c4] at e53
      have e53' : mh_i h2 53 3 = 0 := e53
      have n1 : ((0 : Int32) = 0) = True := by decide
      rw [s_186_140]
      simp (disch := omega) only [s_186_0, s_186_1, s_186_4, s_186_5, s_186_6, s_186_9, s_186_12, s_186_13, s_186_14, s_186_17, s_186_18, s_186_19, s_186_22, s_186_23, s_186_26, s_186_26n, s_186_27, s_186_28, s_186_31, s_186_34, s_186_35, s_186_36, s_186_39, s_186_39n, s_186_40, s_186_43, s_186_44, s_186_45, s_186_46, s_186_49, s_186_49n, s_186_51, s_186_53, s_186_56, s_186_58, s_186_59, s_186_60, s_186_63, s_186_64, s_186_65, s_186_68, s_186_69, s_186_71, s_186_72, s_186_75, s_186_78, s_186_80, s_186_81, s_186_84, s_186_85, s_186_87, s_186_88, s_186_90, s_186_93, s_186_96, s_186_97, s_186_100, s_186_101, s_186_102, s_186_105, s_186_108, s_186_109, s_186_111, s_186_112, s_186_113, s_186_116, s_186_119, s_186_122, s_186_123, s_186_124, s_186_127, s_186_130, s_186_133, s_186_134, s_186_137, s_186_141, s_186_144, s_186_147, s_186_148, s_186_151, s_186_152, s_186_155, s_186_158, s_186_159, s_186_160, s_186_163, s_186_164, s_186_165, s_186_168, s_186_169, s_186_172, s_186_175, s_186_178, s_186_179, s_186_182, s_186_184, e_186, mv_i_1, mv_l_1, mv_a_1, mv_a_2, mv_a_3, mk2_n, mk2_i, mk2_l, mk2_a, mk2_u, mk2_x, mB_T, mB_F, mS_cons, mS_nil, mSB_T, mSB_F, mca_nil, mca_i, mca_l, mca_r, mca_u, mca_x, mcat_i, mcat_l, mcat_r, mcat_u, mcat_x, mK_some, mK_none, va_rf_s, va_rf_n, lgc_eq, lgc_lt, lgc_gt, lgc_ge, lgc_le, mrd_104, mrd_105, mrd_106, mrd_107, true_and, and_true, and_self, false_and, and_false, true_or, or_true, false_or, or_false, not_true_eq_false, not_false_eq_true, mgb, mga, mgr, mN, reduceCtorEq, ↓reduceIte, eq_self, ge_iff_le, gt_iff_lt, hk_si, hk_sj, hk_sr, hl_si, hl_sj, hl_sr, hn_si, hn_sj, hn_sr, hs_si, hs_sj, hs_sr, hi_sj, hi_sr, hj_si, hj_sr, hr_si, hr_sj, hi_si, hj_sj, hr_sr, mg_si, mg_sj, mg_sr, Nat.reduceAdd, Nat.reduceMul, Nat.reduceSub, Nat.reduceLT, Nat.reduceGT, Nat.reduceEqDiff, Nat.reduceLeDiff, Nat.left_eq_add, Nat.add_eq_left, Nat.reduceMod, Nat.reduceDiv, Nat.succ_ne_self, g0, t4, g53, y10, g01, z7, g02, t5, g67, a27, t42, g532, e53', n1]
end CTs
