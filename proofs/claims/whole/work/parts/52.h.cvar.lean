set_option maxRecDepth 100000
/-! the class's parser over statements: var NAME ; and var NAME = SUM ; -/
section VEs
variable {d : Nat} {h : mh_H} {B n m : Nat} {Bt : Nat → Int32} {K : Nat → Int32} {P U : Nat → Nat} {V : Nat → Int} {s s1 s2 s3 sf s' : cps} {L : cen} {lo : lkt} {w w0 b i dp N f c v j a zz : Nat} {kd p x y : Int32}
theorem t_ve (bb : CPB h B n) (t : CTK h B n m Bt K P U V) (T : TOP s3 w 153 0) (gw : w < gL n) (I : IST s s3 w kd p) (E : SCE s3 m L) (hl : 2 * L.length ≤ i) (hi : i < m) (u7 : s3.2 (24 + s.1 8) 7 = Int32.ofNat a) (ha : a < m) (u9 : s3.2 (24 + s.1 8) 9 = Int32.ofNat zz) (hz : zz < 2147483648) : ∃ s4, PL (d + 10) h B 1 s3 s4 ∧ IST s s4 w kd p ∧ SCE s4 m ((a, zz) :: L) ∧ wSt s4 = wSt s3 ∧ s4.1 0 = w ∧ (∀ c, c ≠ 0 → c ≠ 10 → c ≠ 12 → c ≠ 13 → s4.1 c = s3.1 c) ∧ (∀ o k, o < 20 ∨ 22 < o → s4.2 o k = s3.2 o k) ∧ CRx s3 s4 (s3.1 7) := by
  have n3 := I.n
  have p3 := t_vd (d := d) bb t T gw E hl hi (by omega)
  rw [show 23 + s3.1 8 = 24 + s.1 8 from by omega, u7, u9] at p3
  refine ⟨_, p3, IST_ad (IST_1 I (by decide)), SCE_a (SCE_1 E (by decide)) ha hz, by rw [wSt_ad, wSt_1 (by decide)], by rw [ad_1 (by decide) (by decide) (by decide)]; rfl, fun c h0 h1 h2 h3 => by rw [ad_1 h1 h2 h3]; exact if_neg h0, fun o k ho => by rw [ad_2 ho]; rfl, CRx_t (CRx_1 (by decide)) (CSx_ad (w := 0)).R⟩
theorem wrS_3 {sp : Nat → Nat → Bool} {H : Nat → Int32} {nf nn : Nat} {rl : Bool} {cc t : tr} (h : tK nn = 3) : wrS sp H nf L b rl nn (.branch a cc t) = fw (if twE sp b L (tV a).toNat = true then (2, tP a) else (0, 0)) (lwT (loE sp L) t) := by
  rcases t with _ | ⟨_, _, _⟩
  all_goals
    show (if tK nn = 3 then _ else _) = _
    rw [if_pos h]
theorem wrS_4 {sp : Nat → Nat → Bool} {H : Nat → Int32} {nf nn q : Nat} {rl : Bool} {cc c2 r : tr} (h : tK nn = 4) : wrS sp H nf L b rl nn (.branch a cc (.branch q c2 r)) = fw (if twE sp b L (tV a).toNat = true then (2, tP a) else (0, 0)) (if tV q < 1 ∨ 64 < tV q then (9, tP q) else (0, 0)) := by
  show (if tK nn = 3 then _ else if tK nn = 4 then _ else _) = _
  rw [if_neg (by omega), if_pos h]
theorem nxE_3 {nn : Nat} {cc t : tr} (h : tK nn = 3) : nxE nn (.branch a cc t) L = ((tV a).toNat, 0) :: L := by
  show (if tK nn = 3 then _ else _) = _
  rw [if_pos h]
theorem nxE_4 {nn q : Nat} {cc c2 r : tr} (h : tK nn = 4) : nxE nn (.branch a cc (.branch q c2 r)) L = ((tV a).toNat, max 1 (tV q).toNat) :: L := by
  show (if tK nn = 3 then _ else if tK nn = 4 then _ else _) = _
  rw [if_neg (by omega), if_pos h]
theorem skN_v {nn : Nat} (h : tK nn = 3 ∨ tK nn = 4) : skN nn = 1 := by unfold skN; rw [if_pos h]
theorem fw2_b {bo : Prop} [Decidable bo] {x y : Nat} (hx : x < 100) : (if bo then (x, y) else ((0, 0) : Nat × Nat)).1 < 100 := by
  split
  · exact hx
  · exact (by decide : (0 : Nat) < 100)
theorem t_v1 (bb : CPB h B n) (t : CTK h B n m Bt K P U V) (H : CHt n m s L b i dp) (T : TOP s w 149 0) (hw : w ≤ 12 * dp) (q : K i = 5) (p1 : PL (d + 10) h B 2 s sf) (G : VNx Bt n m P U s sf L w b i dp) (hi2 : i + 2 < m) (c59 : K (i + 2) = 59) (va : (tV a).toNat = i + 1) (pa : tP a = P (i + 1)) : RTa (d + 10) h B n m (spe Bt n P U) K P f s w L b i dp 9 (i + 3, some (tNd (tE 3 (P i) 0) (tL a))) := by
  have hb := H.j
  have hm := t.m
  have hn := bb.n
  obtain ⟨e1, e2, e3⟩ := H.e
  obtain ⟨l1, l2⟩ := H.l
  obtain ⟨B1, B2⟩ := H.B
  obtain ⟨c4, c5, c6, c7⟩ := H.c
  have hN3 := H.N
  have hF := H.F
  have hP := p16 bb t hb
  have gw : w < gL n := gL_w t hb e3 e2 (by omega)
  have gw1 : w + 1 < gL n := gL_w t hb e3 e2 (by omega)
  have gw2 : w + 2 < gL n := gL_w t hb e3 e2 (by omega)
  have gw9 : w + 10 ≤ gL n := gL_w (w := w + 9) t hb e3 e2 (by omega)
  have hi1 : i + 1 < m := tkM_s t.M hb q (by decide) (by decide)
  have e : (u1 s 0 w).1 1 = i := H.i
  obtain ⟨f4, f5, f6, f7⟩ := G.c
  have f8 := G.I.n
  have hNb : 0 < sf.1 8 := by omega
  have ej : (u1 sf 0 w).1 1 = i + 2 := G.j
  have p2 := it_66 (d := d + 9) bb G.T gw (by decide) (c_66b (d := d + 3) (s := u1 sf 0 w) bb t (by rw [ej]; exact hi2) (by rw [ej]; exact c59) (by show w + 1 ≤ gL n; omega))
  rw [ej] at p2
  obtain ⟨s3, hs3⟩ : ∃ s3, s3 = asS (u1 (u1 sf 0 w) 1 (i + 2 + 1)) 153 0 := ⟨_, rfl⟩
  rw [← hs3] at p2
  have G3 : CGx sf s3 w (sf.1 7) := by
    rw [hs3]
    exact CGx_as' (CGx_t (CGx_1 (Or.inl rfl) (Nat.le_refl _)) (CGx_1 (Or.inr (Or.inl rfl)) (Nat.le_refl _))) (Nat.le_refl _)
  have T3 : TOP s3 w 153 0 := by
    rw [hs3]
    exact TOP.of ⟨rfl, G.T.f, by rw [as_23, if_pos (by show w = w; rfl)]; rfl, ⟨by decide, by decide⟩⟩
  have a1 : s3.1 1 = i + 3 := by rw [hs3]; rfl
  have a2 : s3.1 2 = dp := by rw [hs3]; exact G.d
  have a4 : s3.1 4 = s.1 4 := by rw [hs3]; exact f4
  have a5 : s3.1 5 = s.1 5 := by rw [hs3]; exact f5
  have a6 : s3.1 6 = s.1 6 := by rw [hs3]; exact f6
  have a7 : s3.1 7 = s.1 7 := by rw [hs3]; exact f7
  have ax : wSt s3 = wSt sf := by
    rw [hs3]
    repeat (first | refine (wSt_as (by exact hNb)).trans ?_ | refine (wSt_em (by exact hNb)).trans ?_ | refine (wSt_pt (by exact hNb)).trans ?_ | refine (wSt_1 (by decide)).trans ?_)
    rfl
  have u11 : s3.2 (24 + s.1 8) 11 = 0 := by
    rw [hs3]
    show (if 24 + s.1 8 = 23 ∧ _ then _ else sf.2 (24 + s.1 8) 11) = 0
    rw [if_neg (by omega)]
    exact G.o
  clear hs3
  have I3 := IST_G G.I G3
  have n3 := I3.n
  have u7 : s3.2 (24 + s.1 8) 7 = Int32.ofNat (i + 1) := (G3.u _ 7 (by omega) (by omega)).trans G.u
  have u9 : s3.2 (24 + s.1 8) 9 = Int32.ofNat 0 := (G3.u _ 9 (by omega) (by omega)).trans G.v
  obtain ⟨s4, p4, I4, E4, x4, w4, c4', r4, R4⟩ := t_ve (d := d) bb t T3 gw I3 (SCE_G G.E G3) l2 hb u7 hi1 u9 (by decide)
  have kk : tK (tE 3 (P i) 0) = 3 := tE_K (by decide)
  have kp : tP (tE 3 (P i) 0) = P i := tE_P (by decide) hP
  have nx : nxE (tE 3 (P i) 0) (tL a) L = (i + 1, 0) :: L := by rw [← va]; exact nxE_3 kk
  have I6 : IST s s4 w (Int32.ofNat (skN (tE 3 (P i) 0))) (Int32.ofNat (tP (tE 3 (P i) 0))) := by rw [skN_v (Or.inl kk), kp]; exact I4
  have z1 := c4' 1 (by decide) (by decide) (by decide) (by decide)
  have z2 := c4' 2 (by decide) (by decide) (by decide) (by decide)
  have z4 := c4' 4 (by decide) (by decide) (by decide) (by decide)
  have z5 := c4' 5 (by decide) (by decide) (by decide) (by decide)
  have z6 := c4' 6 (by decide) (by decide) (by decide) (by decide)
  have z7 := c4' 7 (by decide) (by decide) (by decide) (by decide)
  have n4 := I4.n
  refine ⟨tE 3 (P i) 0, tL a, rfl, 2 + 1 + 1, s4, PL_t (PL_t p1 p2) p4, I4.F, by omega, TOK.of ⟨w4, by omega, by omega, by rw [r4 16 7 (by omega)]; exact T3.f, ⟨by omega, by omega, by omega, by omega⟩, by omega⟩, by rw [nx]; exact E4, by rw [nx]; show 2 * (L.length + 1) ≤ _; omega, ⟨IST_z I6 H.E ?_, Or.inl ⟨kk, a, .leaf (), rfl, n4, by rw [r4 _ _ (by omega), va]; exact u7, by rw [r4 _ _ (by omega)]; exact u9, Or.inl ⟨rfl, by rw [r4 _ _ (by omega)]; exact u11⟩⟩⟩, I4.h.trans (if_neg (fun z => by omega)).symm⟩
  show _ = wn (0, 0) (wrS _ _ _ _ _ _ _ (.branch a (.leaf ()) (.leaf ())))
  rw [wrS_3 kk, show lwT (loE (spe Bt n P U) L) (.leaf ()) = (0, 0) from rfl, wn_z, va, pa, x4, ax]
  exact G.x
theorem t_v2 (bb : CPB h B n) (t : CTK h B n m Bt K P U V) (hN8 : 8 * m + 6 ≤ N) (H : CHt n m s L b i dp) (T : TOP s w 149 0) (hw : w ≤ 12 * dp) (q : K i = 5) (p1 : PL (d + 10) h B 2 s sf) (G : VNx Bt n m P U s sf L w b i dp) (hi2 : i + 2 < m) (c61 : K (i + 2) = 61) (va : (tV a).toNat = i + 1) (pa : tP a = P (i + 1)) : RTa (d + 10) h B n m (spe Bt n P U) K P f s w L b i dp 9 (bnd (pgX K P V N 0 (dp + 1) (i + 3)) fun t j => tak K 59 j (j + 1, some (tNd (tE 3 (P i) 0) (.branch a (.leaf ()) t)))) := by
  have hb := H.j
  have hm := t.m
  have hn := bb.n
  obtain ⟨e1, e2, e3⟩ := H.e
  obtain ⟨l1, l2⟩ := H.l
  obtain ⟨B1, B2⟩ := H.B
  obtain ⟨c4, c5, c6, c7⟩ := H.c
  have hN3 := H.N
  have hF := H.F
  have hP := p16 bb t hb
  have gw : w < gL n := gL_w t hb e3 e2 (by omega)
  have gw1 : w + 1 < gL n := gL_w t hb e3 e2 (by omega)
  have gw2 : w + 2 < gL n := gL_w t hb e3 e2 (by omega)
  have gw9 : w + 10 ≤ gL n := gL_w (w := w + 9) t hb e3 e2 (by omega)
  have hi1 : i + 1 < m := tkM_s t.M hb q (by decide) (by decide)
  have e : (u1 s 0 w).1 1 = i := H.i
  obtain ⟨f4, f5, f6, f7⟩ := G.c
  have f8 := G.I.n
  have hNb : 0 < sf.1 8 := by omega
  have hi3 : i + 3 < m := tkM_s t.M hi2 c61 (by decide) (by decide)
  have ej : (u1 sf 0 w).1 1 = i + 2 := G.j
  have p2 := it_66 (d := d + 9) bb G.T gw (by decide) (c_66c (d := d + 3) (s := u1 sf 0 w) bb t (by rw [ej]; exact hi2) (by rw [ej]; exact c61) (by show w + 3 ≤ gL n; omega))
  rw [ej] at p2
  obtain ⟨s3, hs3⟩ : ∃ s3, s3 = asS (asS (asS (u1 (u1 sf 0 w) 1 (i + 2 + 1)) 153 0) 59 0) 161 0 := ⟨_, rfl⟩
  rw [← hs3] at p2
  have G3 : CGx sf s3 w (sf.1 7) := by
    rw [hs3]
    exact CGx_as' (CGx_as' (CGx_as' (CGx_t (CGx_1 (Or.inl rfl) (Nat.le_refl _)) (CGx_1 (Or.inr (Or.inl rfl)) (Nat.le_refl _))) (Nat.le_refl _)) (by show w ≤ w + 1; omega)) (by show w ≤ w + 1 + 1; omega)
  have a0 : s3.1 0 = w + 3 := by rw [hs3]; rfl
  have a1 : s3.1 1 = i + 3 := by rw [hs3]; rfl
  have a2 : s3.1 2 = dp := by rw [hs3]; exact G.d
  have a4 : s3.1 4 = s.1 4 := by rw [hs3]; exact f4
  have a5 : s3.1 5 = s.1 5 := by rw [hs3]; exact f5
  have a6 : s3.1 6 = s.1 6 := by rw [hs3]; exact f6
  have a7 : s3.1 7 = s.1 7 := by rw [hs3]; exact f7
  have af : s3.2 16 7 = -1 := by rw [hs3]; exact G.T.f
  have ax : wSt s3 = wSt sf := by
    rw [hs3]
    repeat (first | refine (wSt_as (by exact hNb)).trans ?_ | refine (wSt_em (by exact hNb)).trans ?_ | refine (wSt_pt (by exact hNb)).trans ?_ | refine (wSt_1 (by decide)).trans ?_)
    rfl
  have u11 : s3.2 (24 + s.1 8) 11 = 0 := by
    rw [hs3]
    show (if 24 + s.1 8 = 23 ∧ _ then _ else if 24 + s.1 8 = 23 ∧ _ then _ else if 24 + s.1 8 = 23 ∧ _ then _ else sf.2 (24 + s.1 8) 11) = 0
    rw [if_neg (by omega), if_neg (by omega), if_neg (by omega)]
    exact G.o
  have g2 : s3.2 23 (w + 2) = glI (Int32.ofNat 161) (Int32.ofNat (tun false)) := by
    rw [hs3, as_23, if_pos (by show w + 2 = w + 1 + 1; omega)]
    rfl
  have g1 : s3.2 23 (w + 1) = glI (Int32.ofNat 59) (Int32.ofNat 0) := by
    rw [hs3, as_23, if_neg (by show ¬ w + 1 = w + 1 + 1; omega), as_23, if_pos (by show w + 1 = w + 1; omega)]
    rfl
  have g0 : s3.2 23 w = glI (Int32.ofNat 153) (Int32.ofNat 0) := by
    rw [hs3, as_23, if_neg (by show ¬ w = w + 1 + 1; omega), as_23, if_neg (by show ¬ w = w + 1; omega), as_23, if_pos (by show w = w; omega)]
    rfl
  clear hs3
  have I3 := IST_G G.I G3
  have E3 := SCE_G G.E G3
  have n3 := I3.n
  have u7 : s3.2 (24 + s.1 8) 7 = Int32.ofNat (i + 1) := (G3.u _ 7 (by omega) (by omega)).trans G.u
  have u9 : s3.2 (24 + s.1 8) 9 = Int32.ofNat 0 := (G3.u _ 9 (by omega) (by omega)).trans G.v
  have C1 := CHc_of (dp := dp) bb t E3 (i := i + 3) (by omega) (by omega) a1 hi3 a2 (by omega) (by omega) (by omega) (by omega)
  have R := t_ss (d := d) (w := w + 1) (g := 59) (N := N) (tu := false) bb t (by omega) C1 (TOP.of ⟨a0, af, g2, ⟨by decide, tun_b⟩⟩) (by decide) g1 (by omega) e2 (by omega)
  have gd := pgX_b (P := P) (V := V) t.M N 0 (dp + 1) (i + 3) (by decide) hi3
  generalize pgX K P V N 0 (dp + 1) (i + 3) = q1 at R gd ⊢
  have p12 := PL_t p1 p2
  rcases q1 with ⟨j, _ | tt⟩
  · have gj : i + 3 ≤ j := gd.1
    exact RTn_C p12 I3.F (by omega) R (by omega)
  have gj : i + 3 ≤ j := gd.1
  have gm' : j < m := gd.2.1
  have gt : 0 < ts tt := by
    obtain ⟨nn, cs, z⟩ := ((gd.2.2 tt rfl).1 rfl).2
    rw [z, ts_N]
    omega
  obtain ⟨R1, R2⟩ := R
  show RTa (d + 10) h B n m (spe Bt n P U) K P f s w L b i dp 9 (tak K 59 j (j + 1, some (tNd (tE 3 (P i) 0) (.branch a (.leaf ()) tt))))
  by_cases c59 : ¬ K j = 59
  · have e7 : ∀ X, tak K 59 j X = (j, none) := fun X => if_neg c59
    rw [e7]
    exact RTn_C p12 I3.F (by omega) (R1 c59) (by omega)
  have c59 : K j = 59 := Classical.not_not.mp c59
  have e7 : ∀ X, tak K 59 j X = X := fun X => if_pos c59
  rw [e7]
  obtain ⟨k1, s5, p5, F5, b5', O5, d4, d5, d6, d7, y5, z11, -⟩ := R2 c59
  have F5' : CGx s3 s5 w (s3.1 7) := CGx_w F5 (by omega) (Nat.le_refl _)
  have I5 := IST_G I3 F5'
  have n5 := I5.n
  obtain ⟨s4, p4, I4, E4, x4, w4, c4', r4, R4⟩ := t_ve (d := d) bb t (TOP.of ⟨O5.w, O5.f, (F5.g w (by omega)).trans g0, ⟨by decide, by decide⟩⟩) gw I5 (SCE_G E3 F5) l2 hb ((F5.u _ 7 (by omega) (by omega)).trans u7) hi1 ((F5.u _ 9 (by omega) (by omega)).trans u9) (by decide)
  have kk : tK (tE 3 (P i) 0) = 3 := tE_K (by decide)
  have kp : tP (tE 3 (P i) 0) = P i := tE_P (by decide) hP
  have nx : nxE (tE 3 (P i) 0) (.branch a (.leaf ()) tt) L = (i + 1, 0) :: L := by rw [← va]; exact nxE_3 kk
  have I6 : IST s s4 w (Int32.ofNat (skN (tE 3 (P i) 0))) (Int32.ofNat (tP (tE 3 (P i) 0))) := by rw [skN_v (Or.inl kk), kp]; exact I4
  have z1 := c4' 1 (by decide) (by decide) (by decide) (by decide)
  have z2 := c4' 2 (by decide) (by decide) (by decide) (by decide)
  have z4 := c4' 4 (by decide) (by decide) (by decide) (by decide)
  have z5 := c4' 5 (by decide) (by decide) (by decide) (by decide)
  have z6 := c4' 6 (by decide) (by decide) (by decide) (by decide)
  have z7 := c4' 7 (by decide) (by decide) (by decide) (by decide)
  have n4 := I4.n
  have oj := O5.j
  have od := O5.d
  have e24 : 23 + s3.1 8 = 24 + s.1 8 := by omega
  rw [e24, u11] at z11
  refine ⟨tE 3 (P i) 0, .branch a (.leaf ()) tt, rfl, 2 + 1 + k1 + 1, s4, PL_t (PL_t p12 p5) p4, I4.F, by omega, TOK.of ⟨w4, by omega, by omega, by rw [r4 16 7 (by omega)]; exact O5.f, ⟨by omega, by omega, by omega, by omega⟩, by omega⟩, by rw [nx]; exact E4, by rw [nx]; show 2 * (L.length + 1) ≤ _; omega, ⟨IST_z I6 H.E ?_, Or.inl ⟨kk, a, tt, rfl, n4, by rw [va]; exact (r4 _ _ (by omega)).trans ((F5.u _ 7 (by omega) (by omega)).trans u7), (r4 _ _ (by omega)).trans ((F5.u _ 9 (by omega) (by omega)).trans u9), Or.inr ⟨gt, (r4 _ _ (by omega)).trans z11, s3.1 6, by rw [a6]; exact I4.f 10 (by omega), SUX_r R4 y5⟩⟩⟩, I4.h.trans (if_neg (fun z => by omega)).symm⟩
  rw [wrS_3 kk, va, pa, x4, O5.x, ax, G.x, wn_fw (fw2_b (by decide))]
end VEs
