set_option maxRecDepth 100000
/-! the class's parser over statements: var NAME [ NUMBER ] ; and all three -/
section VFs
variable {d : Nat} {h : mh_H} {B n m : Nat} {Bt : Nat → Int32} {K : Nat → Int32} {P U : Nat → Nat} {V : Nat → Int} {s s1 s2 s3 sf s' : cps} {L : cen} {lo : lkt} {w w0 b i dp N f c j a zz pp : Nat} {kd p x y : Int32} {v : Int}
theorem y_32 {z : Int64} (e : z.toInt = v) (h0 : 0 ≤ v) (h1 : v ≤ 2147483647) : z.toInt32 = Int32.ofNat v.toNat := Int32.toInt_inj.mp (by
  rw [Int64.toInt_toInt32, nn_int (by omega), e, Int.bmod_eq_of_le (by omega) (by omega)]
  omega)
theorem vs_1 : (vsS s v y p).1 = s.1 := by
  unfold vsS
  split
  · rw [u2_1]; exact nt_1
  · rfl
theorem vs_2 {o k : Nat} (ho : ¬ (o = 23 + s.1 8 ∧ (k = 5 ∨ k = 6 ∨ k = 9))) : (vsS s v y p).2 o k = s.2 o k := by
  unfold vsS
  split
  · rw [u2_2, if_neg (by omega)]; exact nt_o (by omega)
  · rw [u2_2, if_neg (by omega)]
theorem vs_9 : (vsS s v y p).2 (23 + s.1 8) 9 = if v < 1 then 1 else y := by
  unfold vsS
  split <;> rw [u2_2, if_pos ⟨rfl, rfl⟩]
theorem IST_vs (I : IST s s1 w kd p) : IST s (vsS s1 v y x) w kd p := by
  unfold vsS
  split
  · have := IST_u (s1 := ntS s1 9 x) (j := 9) (x := if v < 1 then 1 else y) (IST_nt I) (by decide)
    rw [nt_1] at this
    exact this
  · exact IST_u I (by decide)
theorem SCE_vs (E : SCE s m L) : SCE (vsS s v y x) m L := SCE_g E (by rw [vs_1]) (by rw [vs_1]) (by rw [vs_1]) (fun o k h1 h2 h3 => vs_2 (by omega))
theorem CWx_vs (hN : 0 < s.1 8) : CWx s (vsS s v y x) := CWx.of ⟨fun c _ => by rw [vs_1], fun o j h1 h2 h3 h4 => vs_2 (by omega), fun o j h1 h2 => vs_2 (by omega)⟩
theorem wSt_vs : wSt (vsS s v y (Int32.ofNat pp)) = wn (wSt s) (if v < 1 ∨ 64 < v then (9, pp) else (0, 0)) := by
  unfold vsS
  by_cases cc : v < 1 ∨ 64 < v
  · rw [if_pos cc, if_pos cc]
    refine Eq.trans (wSt_f (s := ntS s 9 (Int32.ofNat pp)) rfl (by rw [u2_2, if_neg (by omega)]) (by rw [u2_2, if_neg (by omega)])) ?_
    exact wSt_nt (k := 9) (p := pp) (by decide)
  · rw [if_neg cc, if_neg cc, wn_0]
    exact wSt_f rfl (by rw [u2_2, if_neg (by omega)]) (by rw [u2_2, if_neg (by omega)])
theorem t_v3 (bb : CPB h B n) (t : CTK h B n m Bt K P U V) (H : CHt n m s L b i dp) (T : TOP s w 149 0) (hw : w ≤ 12 * dp) (q : K i = 5) (p1 : PL (d + 10) h B 2 s sf) (G : VNx Bt n m P U s sf L w b i dp) (hi2 : i + 2 < m) (c91 : K (i + 2) = 91) (va : (tV a).toNat = i + 1) (pa : tP a = P (i + 1)) : RTa (d + 10) h B n m (spe Bt n P U) K P f s w L b i dp 9 (tak K 3 (i + 3) (tak K 93 (i + 4) (tak K 59 (i + 5) (i + 6, some (tNd (tE 4 (P i) 0) (.branch a (.leaf ()) (tL (tE 12 (P (i + 3)) (V (i + 3)))))))))) := by
  have hb := H.j
  have hm := t.m
  have hn := bb.n
  obtain ⟨e1, e2, e3⟩ := H.e
  obtain ⟨l1, l2⟩ := H.l
  obtain ⟨B1, B2⟩ := H.B
  obtain ⟨c4, c5, c6, c7⟩ := H.c
  have hN3 := H.N
  have hF := H.F
  have hP := p16 bb t hb
  have gw : w < gL n := gL_w t hb e3 e2 (by omega)
  have gw1 : w + 1 < gL n := gL_w t hb e3 e2 (by omega)
  have gw2 : w + 2 < gL n := gL_w t hb e3 e2 (by omega)
  have gw9 : w + 10 ≤ gL n := gL_w (w := w + 9) t hb e3 e2 (by omega)
  have hi1 : i + 1 < m := tkM_s t.M hb q (by decide) (by decide)
  have e : (u1 s 0 w).1 1 = i := H.i
  obtain ⟨f4, f5, f6, f7⟩ := G.c
  have f8 := G.I.n
  have hNb : 0 < sf.1 8 := by omega
  have hi3 : i + 3 < m := tkM_s t.M hi2 c91 (by decide) (by decide)
  have hP3 := p16 bb t hi3
  have ej : (u1 sf 0 w).1 1 = i + 2 := G.j
  have p2 := it_66 (d := d + 9) bb G.T gw (by decide) (c_66d (d := d + 3) (s := u1 sf 0 w) bb t (by rw [ej]; exact hi2) (by rw [ej]; exact c91) (by show w + 4 ≤ gL n; omega))
  rw [ej] at p2
  obtain ⟨s3, hs3⟩ : ∃ s3, s3 = asS (asS (asS (asS (u1 (u1 sf 0 w) 1 (i + 2 + 1)) 153 0) 59 0) 93 0) 152 0 := ⟨_, rfl⟩
  rw [← hs3] at p2
  have G3 : CGx sf s3 w (sf.1 7) := by
    rw [hs3]
    exact CGx_as' (CGx_as' (CGx_as' (CGx_as' (CGx_t (CGx_1 (Or.inl rfl) (Nat.le_refl _)) (CGx_1 (Or.inr (Or.inl rfl)) (Nat.le_refl _))) (Nat.le_refl _)) (by show w ≤ w + 1; omega)) (by show w ≤ w + 1 + 1; omega)) (by show w ≤ w + 1 + 1 + 1; omega)
  have a0 : s3.1 0 = w + 4 := by rw [hs3]; rfl
  have a1 : s3.1 1 = i + 3 := by rw [hs3]; rfl
  have a2 : s3.1 2 = dp := by rw [hs3]; exact G.d
  have a4 : s3.1 4 = s.1 4 := by rw [hs3]; exact f4
  have a5 : s3.1 5 = s.1 5 := by rw [hs3]; exact f5
  have a6 : s3.1 6 = s.1 6 := by rw [hs3]; exact f6
  have a7 : s3.1 7 = s.1 7 := by rw [hs3]; exact f7
  have af : s3.2 16 7 = -1 := by rw [hs3]; exact G.T.f
  have ax : wSt s3 = wSt sf := by
    rw [hs3]
    repeat (first | refine (wSt_as (by exact hNb)).trans ?_ | refine (wSt_em (by exact hNb)).trans ?_ | refine (wSt_pt (by exact hNb)).trans ?_ | refine (wSt_1 (by decide)).trans ?_)
    rfl
  have g3 : s3.2 23 (w + 3) = glI (Int32.ofNat 152) (Int32.ofNat 0) := by
    rw [hs3, as_23, if_pos (by show w + 3 = w + 1 + 1 + 1; omega)]
    rfl
  have g2 : s3.2 23 (w + 2) = glI (Int32.ofNat 93) (Int32.ofNat 0) := by
    rw [hs3, as_23, if_neg (by show ¬ w + 2 = w + 1 + 1 + 1; omega), as_23, if_pos (by show w + 2 = w + 1 + 1; omega)]
    rfl
  have g1 : s3.2 23 (w + 1) = glI (Int32.ofNat 59) (Int32.ofNat 0) := by
    rw [hs3, as_23, if_neg (by show ¬ w + 1 = w + 1 + 1 + 1; omega), as_23, if_neg (by show ¬ w + 1 = w + 1 + 1; omega), as_23, if_pos (by show w + 1 = w + 1; omega)]
    rfl
  have g0 : s3.2 23 w = glI (Int32.ofNat 153) (Int32.ofNat 0) := by
    rw [hs3, as_23, if_neg (by show ¬ w = w + 1 + 1 + 1; omega), as_23, if_neg (by show ¬ w = w + 1 + 1; omega), as_23, if_neg (by show ¬ w = w + 1; omega), as_23, if_pos (by show w = w; omega)]
    rfl
  clear hs3
  have I3 := IST_G G.I G3
  have E3 := SCE_G G.E G3
  have n3 := I3.n
  have u7 : s3.2 (24 + s.1 8) 7 = Int32.ofNat (i + 1) := (G3.u _ 7 (by omega) (by omega)).trans G.u
  obtain ⟨y, y1, z5⟩ := c_66f (d := d + 3) (s := u1 s3 0 (w + 3)) bb t (by show s3.1 1 < m; omega) (by show 0 < s3.1 8; omega)
  have e5 : (u1 s3 0 (w + 3)).1 1 = i + 3 := a1
  rw [e5] at y1 z5
  have p5 := it_66 (d := d + 9) bb (TOP.of ⟨a0, af, g3, ⟨by decide, by decide⟩⟩) (by omega) (by decide) z5
  generalize hv : nvl Bt (n - P (i + 3)) (P (i + 3)) 0 = v at y1 p5
  obtain ⟨sv, hsv⟩ : ∃ sv, sv = vsS (u1 s3 0 (w + 3)) v y.toInt32 (Int32.ofNat (P (i + 3))) := ⟨_, rfl⟩
  rw [← hsv] at p5
  have v1 : sv.1 = (u1 s3 0 (w + 3)).1 := by rw [hsv]; exact vs_1
  have v2 : ∀ o k, ¬ (o = 24 + s.1 8 ∧ (k = 5 ∨ k = 6 ∨ k = 9)) → sv.2 o k = s3.2 o k := fun o k ho => by
    rw [hsv]
    exact vs_2 (s := u1 s3 0 (w + 3)) (by show ¬ (o = 23 + s3.1 8 ∧ _); omega)
  have v9 : sv.2 (24 + s.1 8) 9 = if v < 1 then 1 else y.toInt32 := by
    rw [hsv, show 24 + s.1 8 = 23 + (u1 s3 0 (w + 3)).1 8 from by show 24 + s.1 8 = 23 + s3.1 8; omega]
    exact vs_9
  have vI : IST s sv w 1 (Int32.ofNat (P i)) := by rw [hsv]; exact IST_vs (IST_1 I3 (by decide))
  have vE : SCE sv m L := by rw [hsv]; exact SCE_vs (SCE_1 E3 (by decide))
  have vx : wSt sv = wn (wSt sf) (if v < 1 ∨ 64 < v then (9, P (i + 3)) else (0, 0)) := by rw [hsv, wSt_vs, wSt_1 (by decide), ax]
  clear hsv
  have c1 : ∀ c, c ≠ 0 → sv.1 c = s3.1 c := fun c hc => by rw [v1]; exact if_neg hc
  have x1 : sv.1 1 = i + 3 := (c1 1 (by decide)).trans a1
  have x2 := c1 2 (by decide)
  have x4 := c1 4 (by decide)
  have x5 := c1 5 (by decide)
  have x6 := c1 6 (by decide)
  have x7 := c1 7 (by decide)
  have x8 := c1 8 (by decide)
  have x0 : sv.1 0 = w + 3 := by rw [v1]; rfl
  have ef : sv.2 16 7 = -1 := (v2 16 7 (by omega)).trans af
  have p12 := PL_t (PL_t p1 p2) p5
  by_cases c3 : ¬ K (i + 3) = 3
  · have e7 : ∀ X, tak K 3 (i + 3) X = (i + 3, none) := fun X => if_neg c3
    rw [e7]
    rw [tkS_n ef (by rw [x1]; exact c3), x1] at p12
    exact ⟨_, _, p12, CVx_W vI.F CWx_f (by omega), by omega, rfl, by show sv.1 6 ≤ _; omega⟩
  have c3 : K (i + 3) = 3 := Classical.not_not.mp c3
  have hi4 : i + 4 < m := tkM_s t.M hi3 c3 (by decide) (by decide)
  have e7 : ∀ X, tak K 3 (i + 3) X = X := fun X => if_pos c3
  rw [e7]
  rw [tkS_p ef (by rw [x1]; exact c3), x1] at p12
  obtain ⟨tv1, tv2, tv3⟩ := t.v (i + 3) hi3 c3
  rw [hv] at tv1
  subst tv1
  have u9 : sv.2 (24 + s.1 8) 9 = Int32.ofNat (max 1 (V (i + 3)).toNat) := by
    rw [v9]
    by_cases cc : V (i + 3) < 1
    · rw [if_pos cc, show max 1 (V (i + 3)).toNat = 1 from by omega]
      rfl
    · rw [if_neg cc, show max 1 (V (i + 3)).toNat = (V (i + 3)).toNat from by omega]
      exact y_32 y1 tv2 tv3
  obtain ⟨s6, hs6⟩ : ∃ s6, s6 = u1 sv 1 (i + 3 + 1) := ⟨_, rfl⟩
  rw [← hs6] at p12
  have T6 : TOP s6 (w + 2) 93 0 := by rw [hs6]; exact TOP.of ⟨x0, ef, (v2 23 _ (by omega)).trans g2, ⟨by decide, by decide⟩⟩
  have I6 : IST s s6 w 1 (Int32.ofNat (P i)) := by rw [hs6]; exact IST_1 vI (by decide)
  have r6 : s6.2 = sv.2 := by rw [hs6]; rfl
  have y1' : s6.1 1 = i + 4 := by rw [hs6]; rfl
  have y6 : ∀ c, c ≠ 1 → s6.1 c = sv.1 c := fun c hc => by rw [hs6]; exact if_neg hc
  have E6 : SCE s6 m L := by rw [hs6]; exact SCE_1 vE (by decide)
  have W6 : wSt s6 = wSt sv := by rw [hs6]; exact wSt_1 (by decide)
  clear hs6
  have q6 := y6 6 (by decide)
  have q8 := y6 8 (by decide)
  by_cases c93 : ¬ K (i + 4) = 93
  · have e8 : ∀ X, tak K 93 (i + 4) X = (i + 4, none) := fun X => if_neg c93
    rw [e8]
    exact RTn_t bb t p12 I6.F (by omega) y1' hi4 T6 (by decide) (by omega) c93 (by omega) (by omega)
  have c93 : K (i + 4) = 93 := Classical.not_not.mp c93
  have hi5 : i + 5 < m := tkM_s t.M hi4 c93 (by decide) (by decide)
  have e8 : ∀ X, tak K 93 (i + 4) X = X := fun X => if_pos c93
  rw [e8]
  have p7 := st_tk (d := d) bb t y1' hi4 (by decide) T6 (by omega) c93
  obtain ⟨s7, hs7⟩ : ∃ s7, s7 = u1 (u1 s6 0 (w + 2)) 1 (i + 4 + 1) := ⟨_, rfl⟩
  rw [← hs7] at p7
  have T7 : TOP s7 (w + 1) 59 0 := by rw [hs7]; exact TOP.of ⟨rfl, by rw [u1_2, u1_2, r6]; exact ef, by rw [u1_2, u1_2, r6]; exact (v2 23 _ (by omega)).trans g1, ⟨by decide, by decide⟩⟩
  have I7 : IST s s7 w 1 (Int32.ofNat (P i)) := by rw [hs7]; exact IST_1 (IST_1 I6 (by decide)) (by decide)
  have r7 : s7.2 = sv.2 := by rw [hs7, u1_2, u1_2, r6]
  have z1' : s7.1 1 = i + 5 := by rw [hs7]; rfl
  have z6 : ∀ c, c ≠ 0 → c ≠ 1 → s7.1 c = sv.1 c := fun c h0 h1 => by rw [hs7, u1_1, if_neg h1, u1_1, if_neg h0]; exact y6 c h1
  have E7 : SCE s7 m L := by rw [hs7]; exact SCE_1 (SCE_1 E6 (by decide)) (by decide)
  have W7 : wSt s7 = wSt sv := by rw [hs7, wSt_1 (by decide), wSt_1 (by decide)]; exact W6
  clear hs7
  have k6 := z6 6 (by decide) (by decide)
  have k8 := z6 8 (by decide) (by decide)
  by_cases c59 : ¬ K (i + 5) = 59
  · have e9 : ∀ X, tak K 59 (i + 5) X = (i + 5, none) := fun X => if_neg c59
    rw [e9]
    exact RTn_t bb t (PL_t p12 p7) I7.F (by omega) z1' hi5 T7 (by decide) gw1 c59 (by omega) (by omega)
  have c59 : K (i + 5) = 59 := Classical.not_not.mp c59
  have e9 : ∀ X, tak K 59 (i + 5) X = X := fun X => if_pos c59
  rw [e9]
  have p8 := st_tk (d := d) bb t z1' hi5 (by decide) T7 gw1 c59
  obtain ⟨s8, hs8⟩ : ∃ s8, s8 = u1 (u1 s7 0 (w + 1)) 1 (i + 5 + 1) := ⟨_, rfl⟩
  rw [← hs8] at p8
  have T8 : TOP s8 w 153 0 := by rw [hs8]; exact TOP.of ⟨rfl, by rw [u1_2, u1_2, r7]; exact ef, by rw [u1_2, u1_2, r7]; exact (v2 23 _ (by omega)).trans g0, ⟨by decide, by decide⟩⟩
  have I8 : IST s s8 w 1 (Int32.ofNat (P i)) := by rw [hs8]; exact IST_1 (IST_1 I7 (by decide)) (by decide)
  have r8 : s8.2 = sv.2 := by rw [hs8, u1_2, u1_2, r7]
  have w1' : s8.1 1 = i + 6 := by rw [hs8]; rfl
  have w6 : ∀ c, c ≠ 0 → c ≠ 1 → s8.1 c = sv.1 c := fun c h0 h1 => by rw [hs8, u1_1, if_neg h1, u1_1, if_neg h0]; exact z6 c h0 h1
  have E8 : SCE s8 m L := by rw [hs8]; exact SCE_1 (SCE_1 E7 (by decide)) (by decide)
  have W8 : wSt s8 = wSt sv := by rw [hs8, wSt_1 (by decide), wSt_1 (by decide)]; exact W7
  clear hs8
  obtain ⟨s4, p4, I4, E4, xx4, w4, c4', r4, R4⟩ := t_ve (d := d) bb t T8 gw I8 E8 l2 hb (by rw [r8, v2 _ _ (by omega)]; exact u7) hi1 (by rw [r8]; exact u9) (by omega)
  have kk : tK (tE 4 (P i) 0) = 4 := tE_K (by decide)
  have kp : tP (tE 4 (P i) 0) = P i := tE_P (by decide) hP
  have qv : tV (tE 12 (P (i + 3)) (V (i + 3))) = V (i + 3) := tE_V (by decide) hP3
  have qp : tP (tE 12 (P (i + 3)) (V (i + 3))) = P (i + 3) := tE_P (by decide) hP3
  generalize tE 12 (P (i + 3)) (V (i + 3)) = qn at qv qp ⊢
  have nx : nxE (tE 4 (P i) 0) (.branch a (.leaf ()) (tL qn)) L = (i + 1, max 1 (V (i + 3)).toNat) :: L := by rw [← va, ← qv]; exact nxE_4 kk
  have I9 : IST s s4 w (Int32.ofNat (skN (tE 4 (P i) 0))) (Int32.ofNat (tP (tE 4 (P i) 0))) := by rw [skN_v (Or.inr kk), kp]; exact I4
  have j1 := c4' 1 (by decide) (by decide) (by decide) (by decide)
  have j2 := c4' 2 (by decide) (by decide) (by decide) (by decide)
  have j4 := c4' 4 (by decide) (by decide) (by decide) (by decide)
  have j5 := c4' 5 (by decide) (by decide) (by decide) (by decide)
  have j6 := c4' 6 (by decide) (by decide) (by decide) (by decide)
  have j7 := c4' 7 (by decide) (by decide) (by decide) (by decide)
  have l2' := w6 2 (by decide) (by decide)
  have l4 := w6 4 (by decide) (by decide)
  have l5 := w6 5 (by decide) (by decide)
  have l6 := w6 6 (by decide) (by decide)
  have l7 := w6 7 (by decide) (by decide)
  have n4 := I4.n
  refine ⟨tE 4 (P i) 0, .branch a (.leaf ()) (tL qn), rfl, _, s4, PL_t (PL_t (PL_t p12 p7) p8) p4, I4.F, by omega, TOK.of ⟨w4, by omega, by omega, by rw [r4 16 7 (by omega), r8]; exact ef, ⟨by omega, by omega, by omega, by omega⟩, by omega⟩, by rw [nx]; exact E4, by rw [nx]; show 2 * (L.length + 1) ≤ _; omega, ⟨IST_z I9 H.E ?_, Or.inr (Or.inl ⟨kk, a, qn, rfl, n4, by rw [va, r4 _ _ (by omega), r8, v2 _ _ (by omega)]; exact u7, by rw [qv, r4 _ _ (by omega), r8]; exact u9⟩)⟩, I4.h.trans (if_neg (fun z => by omega)).symm⟩
  show _ = wn (0, 0) (wrS _ _ _ _ _ _ _ (.branch a (.leaf ()) (.branch qn (.leaf ()) (.leaf ()))))
  rw [wrS_4 kk, va, pa, qv, qp, xx4, W8, vx, G.x, wn_fw (fw2_b (by decide))]
theorem t_var (bb : CPB h B n) (t : CTK h B n m Bt K P U V) (hN8 : 8 * m + 6 ≤ N) (H : CHt n m s L b i dp) (T : TOP s w 149 0) (hw : w ≤ 12 * dp) (q : K i = 5) : RTa (d + 10) h B n m (spe Bt n P U) K P f s w L b i dp 9 (tak K 2 (i + 1) (
      if K (i + 2) = 91 then tak K 3 (i + 3) (tak K 93 (i + 4) (tak K 59 (i + 5) (i + 6, some (tNd (tE 4 (P i) 0) (.branch (tE 13 (P (i + 1)) (i + 1)) (.leaf ()) (tL (tE 12 (P (i + 3)) (V (i + 3)))))))))
      else if K (i + 2) = 61 then bnd (pgX K P V N 0 (dp + 1) (i + 3)) fun t j => tak K 59 j (j + 1, some (tNd (tE 3 (P i) 0) (.branch (tE 13 (P (i + 1)) (i + 1)) (.leaf ()) t)))
      else tak K 59 (i + 2) (i + 3, some (tNd (tE 3 (P i) 0) (tL (tE 13 (P (i + 1)) (i + 1))))))) := by
  obtain ⟨V1, V2⟩ := t_vn (d := d) bb t H T hw q
  have hb := H.j
  have hm := t.m
  have hn := bb.n
  obtain ⟨e1, e2, e3⟩ := H.e
  obtain ⟨l1, l2⟩ := H.l
  obtain ⟨B1, B2⟩ := H.B
  obtain ⟨c4, c5, c6, c7⟩ := H.c
  have hN3 := H.N
  have hF := H.F
  have hP := p16 bb t hb
  have gw : w < gL n := gL_w t hb e3 e2 (by omega)
  have gw1 : w + 1 < gL n := gL_w t hb e3 e2 (by omega)
  have gw2 : w + 2 < gL n := gL_w t hb e3 e2 (by omega)
  have gw9 : w + 10 ≤ gL n := gL_w (w := w + 9) t hb e3 e2 (by omega)
  have hi1 : i + 1 < m := tkM_s t.M hb q (by decide) (by decide)
  have e : (u1 s 0 w).1 1 = i := H.i
  by_cases c2 : ¬ K (i + 1) = 2
  · have e7 : ∀ X, tak K 2 (i + 1) X = (i + 1, none) := fun X => if_neg c2
    rw [e7]
    exact V1 c2
  have c2 : K (i + 1) = 2 := Classical.not_not.mp c2
  have hi2 : i + 2 < m := tkM_s t.M hi1 c2 (by decide) (by decide)
  have e7 : ∀ X, tak K 2 (i + 1) X = X := fun X => if_pos c2
  rw [e7]
  obtain ⟨sf, p1, G⟩ := V2 c2
  have hP1 := p16 bb t hi1
  have va : (tV (tE 13 (P (i + 1)) (i + 1))).toNat = i + 1 := by rw [tE_V (by decide) hP1]; omega
  have pa : tP (tE 13 (P (i + 1)) (i + 1)) = P (i + 1) := tE_P (by decide) hP1
  generalize tE 13 (P (i + 1)) (i + 1) = aN at va pa ⊢
  by_cases c91 : K (i + 2) = 91
  · rw [if_pos c91]
    exact t_v3 bb t H T hw q p1 G hi2 c91 va pa
  rw [if_neg c91]
  by_cases c61 : K (i + 2) = 61
  · rw [if_pos c61]
    exact t_v2 bb t hN8 H T hw q p1 G hi2 c61 va pa
  rw [if_neg c61]
  by_cases c59 : K (i + 2) = 59
  · have e8 : ∀ X, tak K 59 (i + 2) X = X := fun X => if_pos c59
    rw [e8]
    exact t_v1 bb t H T hw q p1 G hi2 c59 va pa
  · have e8 : ∀ X, tak K 59 (i + 2) X = (i + 2, none) := fun X => if_neg c59
    rw [e8]
    have ej : (u1 sf 0 w).1 1 = i + 2 := G.j
    have p2 := it_66 (d := d + 9) bb G.T gw (by decide) (c_66e (d := d + 3) (s := u1 sf 0 w) bb t (by rw [ej]; exact hi2) G.T.f (by rw [ej]; exact c59) (by rw [ej]; exact c61) (by rw [ej]; exact c91))
    rw [ej] at p2
    have f8 := G.I.n
    obtain ⟨f4, f5, f6, f7⟩ := G.c
    exact ⟨2 + 1, _, PL_t p1 p2, CVx_W G.I.F (CWx_t (CGx_W (CGx_1 (w := w) (Or.inl rfl) (Nat.le_refl _))) CWx_f) (by omega), by omega, rfl, by show sf.1 6 ≤ _; omega⟩
end VFs
