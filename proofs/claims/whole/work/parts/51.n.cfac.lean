set_option maxRecDepth 100000
/-! the class's parser over a SUM: FACTORs with others inside; all together -/
section XGs
variable {d : Nat} {h : mh_H} {B n m : Nat} {Bt : Nat → Int32} {K : Nat → Int32} {P U : Nat → Nat} {V : Nat → Int} {lo : lkt} {s : cps} {w i dp f : Nat} {tu : Bool}
theorem x_neg (b : CPB h B n) (t : CTK h B n m Bt K P U V) (H2 : HX2 (d + 10) h B n m Bt K P U V lo f) (hf : 8 * (m - i) ≤ f) (H : CHs Bt n m P U s lo i dp) (T : TOP s w 166 (tun tu)) (hd : dp ≤ i) (hd2 : dp ≤ 60) (hw : w ≤ 12 * dp + 18) (q : K i = 45) : RXa (d + 10) h B P lo false 11 1 s w tu i dp (if 60 < dp + 1 then (i + 1, none) else bnd (pgX K P V f 2 (dp + 1) (i + 1)) fun t j => (j, some (tNd (tE 15 (P i) 0) t))) := by
  have hb := H.b
  have hN := H.N
  have hm := t.m
  have hc := H.c
  have hp := H.p
  have gw : w < gL n := gL_w t hb hd hd2 (by omega)
  have gw1 : w + 1 < gL n := gL_w t hb hd hd2 (by omega)
  have gw3 : w + 3 ≤ gL n := gL_w (w := w + 2) t hb hd hd2 (by omega)
  have hi1 : i + 1 < m := tkM_s t.M hb q (by decide) (by decide)
  have e : (u1 s 0 w).1 1 = i := H.i
  by_cases c : 60 < dp + 1
  · rw [if_pos c]
    have z := c_71f (d := d + 4) (s := u1 s 0 w) b t (tu := Int32.ofNat (tun tu)) (by rw [e]; exact hi1) (by rw [e]; exact q) T.f (by show s.1 2 = 60; rw [H.d]; omega)
    rw [e] at z
    exact ⟨1, _, it_71 b T gw z, CFx_t (CFx_t (CFx_1 (Or.inl rfl)) (CFx_1 (by omega))) CFx_f, by omega, rfl⟩
  rw [if_neg c]
  have z := c_71e (d := d + 4) (s := u1 s 0 w) b t (tu := Int32.ofNat (tun tu)) (by rw [e]; exact hb) (by rw [e]; exact q) (by show s.1 2 < 60; rw [H.d]; omega) gw3
  have e2 : (u1 s 0 w).1 2 = dp := H.d
  rw [e, tun_n, e2] at z
  have p1 := it_71 b T gw z
  obtain ⟨s1, hs1⟩ : ∃ s1, s1 = asS (asS (asS (u1 (u1 (u1 s 0 w) 1 (i + 1)) 2 (dp + 1)) 170 0) 167 5) 166 (Int32.ofNat (tun (!tu))) := ⟨_, rfl⟩
  rw [← hs1] at p1
  have F1 : CFx s s1 w (s.1 5) := by
    rw [hs1]
    exact CFx_t (CFx_t (CFx_t (CFx_t (CFx_t (CFx_1 (Or.inl rfl)) (CFx_1 (by omega))) (CFx_1 (by omega))) (CFx_as (by show w ≤ w; omega))) (CFx_as (by show w ≤ w + 1; omega))) (CFx_as (by show w ≤ w + 2; omega))
  have a0 : s1.1 0 = w + 3 := by rw [hs1]; rfl
  have a1 : s1.1 1 = i + 1 := by rw [hs1]; rfl
  have a2 : s1.1 2 = dp + 1 := by rw [hs1]; rfl
  have a4 : s1.1 4 = s.1 4 := by rw [hs1]; rfl
  have a5 : s1.1 5 = s.1 5 := by rw [hs1]; rfl
  have af : s1.2 16 7 = -1 := by rw [hs1]; exact T.f
  have ax : wSt s1 = wSt s := by
    rw [hs1]
    repeat (first | refine (wSt_as (by exact hN)).trans ?_ | refine (wSt_em (by exact hN)).trans ?_ | refine (wSt_pt (by exact hN)).trans ?_ | refine (wSt_1 (by decide)).trans ?_)
    rfl
  have g0 : s1.2 23 w = glI (Int32.ofNat 170) (Int32.ofNat 0) := by
    rw [hs1, as_23, if_neg (by show ¬ w = w + 2; omega), as_23, if_neg (by show ¬ w = w + 1; omega), as_23, if_pos (by show w = w; rfl)]
    rfl
  have g1 : s1.2 23 (w + 1) = glI (Int32.ofNat 167) (Int32.ofNat 5) := by
    rw [hs1, as_23, if_neg (by show ¬ w + 1 = w + 2; omega), as_23, if_pos (by show w + 1 = w + 1; rfl)]
    rfl
  have g2 : s1.2 23 (w + 2) = glI (Int32.ofNat 166) (Int32.ofNat (tun (!tu))) := by
    rw [hs1, as_23, if_pos (by show w + 2 = w + 2; rfl)]
    rfl
  clear hs1
  have C1 : CHs Bt n m P U s1 lo (i + 1) (dp + 1) := CHs_f H F1 a1 hi1 a2 (by omega) (by omega)
  have R := H2 (i + 1) (dp + 1) s1 (w + 2) (!tu) (by omega) C1 (TOP.of ⟨a0, af, g2, ⟨by decide, tun_b⟩⟩) (by omega) (by omega) (by omega) (by omega)
  have gd := pgX_b (P := P) (V := V) t.M f 2 (dp + 1) (i + 1) (by decide) hi1
  generalize pgX K P V f 2 (dp + 1) (i + 1) = r1 at R gd ⊢
  rcases r1 with ⟨j, _ | tt⟩
  · obtain ⟨k1, s2, p2, F2, b2, f2⟩ := R
    have gj : i + 1 ≤ j := gd.1
    exact ⟨1 + k1, s2, PL_t p1 p2, CFx_t F1 (CFx_w F2 (by omega) (by rw [a5]; omega)), by omega, f2⟩
  have gj : i + 1 ≤ j := gd.1
  have gm' : j < m := gd.2.1
  obtain ⟨k1, s2, p2, F2, b2, O2, c2, q2, x2, y2⟩ := R
  have F12 : CFx s s2 w (s.1 5) := CFx_t F1 (CFx_w F2 (by omega) (by rw [a5]; omega))
  have o4 := O2.c
  have o5 := O2.p
  rw [a4] at o4 x2
  rw [a5] at o5
  rw [a4, a5] at y2
  have hN2 : 0 < s2.1 8 := by rw [CFx_8 F12]; exact hN
  have T2 : TOP s2 (w + 1) 167 5 := TOP.of ⟨O2.w, O2.f, (F2.g (w + 1) (by omega)).trans g1, ⟨by decide, by decide⟩⟩
  have p3 := st_op (d := d) b T2 gw1 (by omega)
  have T3 : TOP (emS (u1 s2 0 (w + 1)) (Int32.ofNat 5) 0 0) w 170 0 := TOP.of ⟨rfl, O2.f, (F2.g w (by omega)).trans g0, ⟨by decide, by decide⟩⟩
  have p4 := st_lv (d := d) (dp := dp + 1) b T3 gw O2.d (by omega)
  have kk : tK (tE 15 (P i) 0) = 15 := tE_K (by decide)
  have ec : cl (tNd (tE 15 (P i) 0) tt) false = cl tt false + 1 := cl_15 kk
  have ep : pn (tNd (tE 15 (P i) 0) tt) false = pn tt false := pn_15 kk
  have e7 : (u1 s2 0 (w + 1)).1 4 = s.1 4 + cl tt false := o4
  refine ⟨1 + k1 + 1 + 1, u1 (u1 (emS (u1 s2 0 (w + 1)) (Int32.ofNat 5) 0 0) 0 w) 2 (dp + 1 - 1), PL_t (PL_t (PL_t p1 p2) p3) p4, CFx_t (CFx_t (CFx_t (CFx_t F12 (CFx_1 (Or.inl rfl))) CFx_em) (CFx_1 (Or.inl rfl))) (CFx_1 (by omega)), by omega, SOK.of ⟨rfl, O2.j, by show dp + 1 - 1 = dp; omega, O2.f, by rw [ec]; show s2.1 4 + 1 = _; omega, by rw [ep]; exact o5, ?_⟩, by rw [ec]; omega, by rw [ep]; omega, ?_, ?_⟩
  · repeat (first | refine (wSt_as (by exact hN2)).trans ?_ | refine (wSt_em (by exact hN2)).trans ?_ | refine (wSt_pt (by exact hN2)).trans ?_ | refine (wSt_1 (by decide)).trans ?_)
    rw [O2.x, ax]
    exact (lwT_N (by omega) (by omega) (by omega)).symm
  · show cdx lo ((emS (u1 s2 0 (w + 1)) (Int32.ofNat 5) 0 0).2 6) (.branch (tE 15 (P i) 0) tt (.leaf ())) false (s.1 4)
    rw [cdx_15 kk]
    refine ⟨cdx_f (ts tt) _ _ _ (Nat.le_refl _) (fun y y1 y2' => ?_) x2, ?_⟩
    · rw [em_6, e7, if_neg (by omega), if_neg (by omega), if_neg (by omega)]
      rfl
    · rw [em_6, e7, if_neg (by omega), if_neg (by omega), if_pos rfl]
      rfl
  · show pax lo (s2.2 7) (s2.2 8) (s2.2 9) (.branch (tE 15 (P i) 0) tt (.leaf ())) false tu (s.1 5) (s.1 4)
    rw [pax_15 kk]
    exact y2
theorem x_par (b : CPB h B n) (t : CTK h B n m Bt K P U V) (H0 : HX0 (d + 10) h B n m Bt K P U V lo f) (hf : 8 * (m - i) ≤ f) (H : CHs Bt n m P U s lo i dp) (T : TOP s w 166 (tun tu)) (hd : dp ≤ i) (hd2 : dp ≤ 60) (hw : w ≤ 12 * dp + 18) (q : K i = 40) : RXa (d + 10) h B P lo false 11 1 s w tu i dp (bnd (pgX K P V f 0 (dp + 1) (i + 1)) fun t j => tak K 41 j (j + 1, some t)) := by
  have hb := H.b
  have hN := H.N
  have hm := t.m
  have hc := H.c
  have hp := H.p
  have gw : w < gL n := gL_w t hb hd hd2 (by omega)
  have gw2 : w + 2 ≤ gL n := gL_w (w := w + 1) t hb hd hd2 (by omega)
  have hi1 : i + 1 < m := tkM_s t.M hb q (by decide) (by decide)
  have e : (u1 s 0 w).1 1 = i := H.i
  have z := c_71g (d := d + 4) (s := u1 s 0 w) b t (tu := Int32.ofNat (tun tu)) (by rw [e]; exact hb) (by rw [e]; exact q) gw2
  rw [e] at z
  have p1 := it_71 b T gw z
  obtain ⟨s1, hs1⟩ : ∃ s1, s1 = asS (asS (u1 (u1 s 0 w) 1 (i + 1)) 41 0) 162 (Int32.ofNat (tun tu)) := ⟨_, rfl⟩
  rw [← hs1] at p1
  have F1 : CFx s s1 w (s.1 5) := by
    rw [hs1]
    exact CFx_t (CFx_t (CFx_t (CFx_1 (Or.inl rfl)) (CFx_1 (by omega))) (CFx_as (by show w ≤ w; omega))) (CFx_as (by show w ≤ w + 1; omega))
  have a0 : s1.1 0 = w + 2 := by rw [hs1]; rfl
  have a1 : s1.1 1 = i + 1 := by rw [hs1]; rfl
  have a2 : s1.1 2 = dp := by rw [hs1]; exact H.d
  have a4 : s1.1 4 = s.1 4 := by rw [hs1]; rfl
  have a5 : s1.1 5 = s.1 5 := by rw [hs1]; rfl
  have af : s1.2 16 7 = -1 := by rw [hs1]; exact T.f
  have ax : wSt s1 = wSt s := by
    rw [hs1]
    repeat (first | refine (wSt_as (by exact hN)).trans ?_ | refine (wSt_em (by exact hN)).trans ?_ | refine (wSt_pt (by exact hN)).trans ?_ | refine (wSt_1 (by decide)).trans ?_)
    rfl
  have g0 : s1.2 23 w = glI (Int32.ofNat 41) (Int32.ofNat 0) := by
    rw [hs1, as_23, if_neg (by show ¬ w = w + 1; omega), as_23, if_pos (by show w = w; rfl)]
    rfl
  have g1 : s1.2 23 (w + 1) = glI (Int32.ofNat 162) (Int32.ofNat (tun tu)) := by
    rw [hs1, as_23, if_pos (by show w + 1 = w + 1; rfl)]
    rfl
  clear hs1
  have C1 : CHs Bt n m P U s1 lo (i + 1) dp := CHs_f H F1 a1 hi1 a2 (by omega) (by omega)
  have R := H0 (i + 1) dp s1 (w + 1) tu (by omega) C1 (TOP.of ⟨a0, af, g1, ⟨by decide, tun_b⟩⟩) (by omega) hd2 (by omega)
  have gd := pgX_b (P := P) (V := V) t.M f 0 (dp + 1) (i + 1) (by decide) hi1
  generalize pgX K P V f 0 (dp + 1) (i + 1) = r1 at R gd ⊢
  rcases r1 with ⟨j, _ | tt⟩
  · obtain ⟨k1, s2, p2, F2, b2, f2⟩ := R
    have gj : i + 1 ≤ j := gd.1
    exact ⟨1 + k1, s2, PL_t p1 p2, CFx_t F1 (CFx_w F2 (by omega) (by rw [a5]; omega)), by omega, f2⟩
  have gj : i + 1 ≤ j := gd.1
  have gm' : j < m := gd.2.1
  obtain ⟨k1, s2, p2, F2, b2, O2, c2, q2, x2, y2⟩ := R
  have F12 : CFx s s2 w (s.1 5) := CFx_t F1 (CFx_w F2 (by omega) (by rw [a5]; omega))
  have o4 := O2.c
  have o5 := O2.p
  rw [a4] at o4 x2
  rw [a5] at o5
  rw [a4, a5] at y2
  have T2 : TOP s2 w 41 0 := TOP.of ⟨O2.w, O2.f, (F2.g w (by omega)).trans g0, ⟨by decide, by decide⟩⟩
  show RXa (d + 10) h B P lo false 11 1 s w tu i dp (tak K 41 j (j + 1, some tt))
  by_cases c41 : K j = 41
  · have p3 := st_tk (d := d) b t O2.j gm' (by decide) T2 gw c41
    have e6 : tak K 41 j (j + 1, some tt) = (j + 1, some tt) := if_pos c41
    rw [e6]
    exact ⟨1 + k1 + 1, u1 (u1 s2 0 w) 1 (j + 1), PL_t (PL_t p1 p2) p3, CFx_t F12 (CFx_t (CFx_1 (Or.inl rfl)) (CFx_1 (by omega))), by omega, SOK.of ⟨rfl, rfl, O2.d, O2.f, o4, o5, by rw [wSt_1 (by decide), wSt_1 (by decide), O2.x, ax]⟩, by omega, by omega, x2, y2⟩
  · have p3 := st_tn (d := d) b t O2.j gm' (by decide) T2 gw c41
    have e6 : tak K 41 j (j + 1, some tt) = (j, none) := if_neg c41
    rw [e6]
    exact ⟨1 + k1 + 1, _, PL_t (PL_t p1 p2) p3, CFx_t F12 (CFx_t (CFx_1 (Or.inl rfl)) CFx_f), by omega, rfl⟩
theorem x_cel (b : CPB h B n) (t : CTK h B n m Bt K P U V) (H0 : HX0 (d + 10) h B n m Bt K P U V lo f) (hf : 8 * (m - i) ≤ f) (H : CHs Bt n m P U s lo i dp) (T : TOP s w 166 (tun tu)) (hd : dp ≤ i) (hd2 : dp ≤ 60) (hw : w ≤ 12 * dp + 18) (q : K i = 2) (q2 : K (i + 1) = 91) : RXa (d + 10) h B P lo false 11 1 s w tu i dp (bnd (pgX K P V f 0 (dp + 1) (i + 2)) fun t j => tak K 93 j (j + 1, some (tNd (tE 14 (P i) 0) (.branch (tE 13 (P i) i) (.leaf ()) t)))) := by
  have hb := H.b
  have hN := H.N
  have hm := t.m
  have hc := H.c
  have hp := H.p
  have hn := b.n
  have hP := p16 b t hb
  have ht : tun tu < 2 := by cases tu <;> decide
  have gw : w < gL n := gL_w t hb hd hd2 (by omega)
  have gw1 : w + 1 < gL n := gL_w t hb hd hd2 (by omega)
  have gw2 : w + 2 < gL n := gL_w t hb hd hd2 (by omega)
  have gw4 : w + 4 ≤ gL n := gL_w (w := w + 3) t hb hd hd2 (by omega)
  have hi1 : i + 1 < m := tkM_s t.M hb q (by decide) (by decide)
  have hi2 : i + 2 < m := tkM_s t.M hi1 q2 (by decide) (by decide)
  have e : (u1 s 0 w).1 1 = i := H.i
  have F0 : CFx s (u1 s 0 w) w (s.1 5) := CFx_1 (Or.inl rfl)
  obtain ⟨S0, l0⟩ := CFx_S (Bt := Bt) (P := P) (U := U) F0 H.S
  have z := c_71c (d := d + 4) (s := u1 s 0 w) b t S0 (tu := Int32.ofNat (tun tu)) (by rw [e]; exact hb) hN (by rw [e]; exact q) (by rw [e]; exact q2) gw4
  obtain ⟨xx, x1', x2', x3', x4'⟩ := tpV_lo (Bt := Bt) (P := P) (U := U) (i := i) S0
  rw [l0, H.l] at x3' x4'
  rw [e, x2'] at z
  have e5 : (u1 s 0 w).1 5 = s.1 5 := rfl
  rw [e5, tun_2] at z
  have p1 := it_71 b T gw z
  have wx := wSt_ar (Bt := Bt) (n := n) (P := P) (U := U) (s := u1 s 0 w) (i := i) (p := P i)
  rw [l0, H.l, wSt_1 (by decide)] at wx
  have FA : CFx (u1 s 0 w) (arS (u1 s 0 w) (fiT Bt n P U (u1 s 0 w) i) (Int32.ofNat (P i))) w (s.1 5) := CFx_ar hN
  have r1 : (arS (u1 s 0 w) (fiT Bt n P U (u1 s 0 w) i) (Int32.ofNat (P i))).1 = (u1 s 0 w).1 := ar_1
  have rf : (arS (u1 s 0 w) (fiT Bt n P U (u1 s 0 w) i) (Int32.ofNat (P i))).2 16 7 = -1 := (ar_2 (s := u1 s 0 w) hN (by decide)).trans T.f
  generalize arS (u1 s 0 w) (fiT Bt n P U (u1 s 0 w) i) (Int32.ofNat (P i)) = s0 at p1 wx FA r1 rf
  have k0 : s0.1 0 = w := by rw [r1]; rfl
  have k2 : s0.1 2 = dp := by rw [r1]; exact H.d
  have k4 : s0.1 4 = s.1 4 := by rw [r1]; rfl
  have k5 : s0.1 5 = s.1 5 := by rw [r1]; rfl
  have k8 : 0 < s0.1 8 := by rw [r1]; exact hN
  obtain ⟨s1, hs1⟩ : ∃ s1, s1 = u1 (asS (asS (asS (asS s0 169 (Int32.ofNat (2 * s.1 5 + tun tu))) 168 (Int32.ofNat xx)) 93 0) 162 0) 1 (i + 2) := ⟨_, rfl⟩
  rw [← hs1] at p1
  have F1 : CFx s s1 w (s.1 5) := by
    rw [hs1]
    exact CFx_t (CFx_t (CFx_t (CFx_t (CFx_t (CFx_t F0 FA) (CFx_as (by omega))) (CFx_as (by show w ≤ s0.1 0 + 1; omega))) (CFx_as (by show w ≤ s0.1 0 + 1 + 1; omega))) (CFx_as (by show w ≤ s0.1 0 + 1 + 1 + 1; omega))) (CFx_1 (by omega))
  have a0 : s1.1 0 = w + 4 := by rw [hs1]; show s0.1 0 + 1 + 1 + 1 + 1 = w + 4; omega
  have a1 : s1.1 1 = i + 2 := by rw [hs1]; rfl
  have a2 : s1.1 2 = dp := by rw [hs1]; exact k2
  have a4 : s1.1 4 = s.1 4 := by rw [hs1]; exact k4
  have a5 : s1.1 5 = s.1 5 := by rw [hs1]; exact k5
  have af : s1.2 16 7 = -1 := by rw [hs1]; exact rf
  have ax : wSt s1 = wn (wSt s) (lkW lo i true, P i) := by
    rw [hs1]
    repeat (first | refine (wSt_as (by exact k8)).trans ?_ | refine (wSt_em (by exact k8)).trans ?_ | refine (wSt_pt (by exact k8)).trans ?_ | refine (wSt_1 (by decide)).trans ?_)
    exact wx
  have g0 : s1.2 23 w = glI (Int32.ofNat 169) (Int32.ofNat (2 * s.1 5 + tun tu)) := by
    rw [hs1, u1_2, as_23, if_neg (by show ¬ w = s0.1 0 + 1 + 1 + 1; omega), as_23, if_neg (by show ¬ w = s0.1 0 + 1 + 1; omega), as_23, if_neg (by show ¬ w = s0.1 0 + 1; omega), as_23, if_pos k0.symm]
    rfl
  have g1 : s1.2 23 (w + 1) = glI (Int32.ofNat 168) (Int32.ofNat xx) := by
    rw [hs1, u1_2, as_23, if_neg (by show ¬ w + 1 = s0.1 0 + 1 + 1 + 1; omega), as_23, if_neg (by show ¬ w + 1 = s0.1 0 + 1 + 1; omega), as_23, if_pos (by show w + 1 = s0.1 0 + 1; omega)]
    rfl
  have g2 : s1.2 23 (w + 2) = glI (Int32.ofNat 93) (Int32.ofNat 0) := by
    rw [hs1, u1_2, as_23, if_neg (by show ¬ w + 2 = s0.1 0 + 1 + 1 + 1; omega), as_23, if_pos (by show w + 2 = s0.1 0 + 1 + 1; omega)]
    rfl
  have g3 : s1.2 23 (w + 3) = glI (Int32.ofNat 162) (Int32.ofNat (tun false)) := by
    rw [hs1, u1_2, as_23, if_pos (by show w + 3 = s0.1 0 + 1 + 1 + 1; omega)]
    rfl
  clear hs1
  have C1 : CHs Bt n m P U s1 lo (i + 2) dp := CHs_f H F1 a1 hi2 a2 (by omega) (by omega)
  have R := H0 (i + 2) dp s1 (w + 3) false (by omega) C1 (TOP.of ⟨a0, af, g3, ⟨by decide, tun_b⟩⟩) (by omega) hd2 (by omega)
  have gd := pgX_b (P := P) (V := V) t.M f 0 (dp + 1) (i + 2) (by decide) hi2
  generalize pgX K P V f 0 (dp + 1) (i + 2) = r1 at R gd ⊢
  rcases r1 with ⟨j, _ | tt⟩
  · obtain ⟨k1, s2, p2, F2, b2, f2⟩ := R
    have gj : i + 2 ≤ j := gd.1
    exact ⟨1 + k1, s2, PL_t p1 p2, CFx_t F1 (CFx_w F2 (by omega) (by rw [a5]; omega)), by omega, f2⟩
  have gj : i + 2 ≤ j := gd.1
  have gm' : j < m := gd.2.1
  obtain ⟨k1, s2, p2, F2, b2, O2, c2, q2', x2, y2⟩ := R
  have F12 : CFx s s2 w (s.1 5) := CFx_t F1 (CFx_w F2 (by omega) (by rw [a5]; omega))
  have o4 := O2.c
  have o5 := O2.p
  rw [a4] at o4 x2
  rw [a5] at o5
  clear y2
  have hN2 : 0 < s2.1 8 := by rw [CFx_8 F12]; exact hN
  have T2 : TOP s2 (w + 2) 93 0 := TOP.of ⟨O2.w, O2.f, (F2.g (w + 2) (by omega)).trans g2, ⟨by decide, by decide⟩⟩
  show RXa (d + 10) h B P lo false 11 1 s w tu i dp (tak K 93 j (j + 1, some (tNd (tE 14 (P i) 0) (.branch (tE 13 (P i) i) (.leaf ()) tt))))
  by_cases c93 : ¬ K j = 93
  · have p3 := st_tn (d := d) b t O2.j gm' (by decide) T2 gw2 c93
    have e6 : tak K 93 j (j + 1, some (tNd (tE 14 (P i) 0) (.branch (tE 13 (P i) i) (.leaf ()) tt))) = (j, none) := if_neg c93
    rw [e6]
    exact ⟨1 + k1 + 1, _, PL_t (PL_t p1 p2) p3, CFx_t F12 (CFx_t (CFx_1 (Or.inl rfl)) CFx_f), by omega, rfl⟩
  have c93 : K j = 93 := Classical.not_not.mp c93
  have p3 := st_tk (d := d) b t O2.j gm' (by decide) T2 gw2 c93
  have e6 : tak K 93 j (j + 1, some (tNd (tE 14 (P i) 0) (.branch (tE 13 (P i) i) (.leaf ()) tt))) = (j + 1, some (tNd (tE 14 (P i) 0) (.branch (tE 13 (P i) i) (.leaf ()) tt))) := if_pos c93
  rw [e6]
  have T3 : TOP (u1 (u1 s2 0 (w + 2)) 1 (j + 1)) (w + 1) 168 xx := TOP.of ⟨rfl, O2.f, (F2.g (w + 1) (by omega)).trans g1, ⟨by decide, x1'⟩⟩
  have p4 := st_pl (d := d) b T3 gw1 (by show s2.1 4 ≤ n; omega)
  obtain ⟨s4, hs4⟩ : ∃ s4, s4 = emS (u1 (u1 (u1 s2 0 (w + 2)) 1 (j + 1)) 0 (w + 1)) 3 (Int32.ofNat (xx / 128)) (Int32.ofNat (xx % 128)) := ⟨_, rfl⟩
  rw [← hs4] at p4
  have F4 : CFx s2 s4 (w + 1) (s2.1 5) := by
    rw [hs4]
    exact CFx_t (CFx_t (CFx_t (CFx_1 (Or.inl rfl)) (CFx_1 (by omega))) (CFx_1 (Or.inl rfl))) CFx_em
  have b0 : s4.1 0 = w + 1 := by rw [hs4]; rfl
  have b1 : s4.1 1 = j + 1 := by rw [hs4]; rfl
  have b2' : s4.1 2 = dp := by rw [hs4]; exact O2.d
  have b4 : s4.1 4 = s.1 4 + cl tt false + 1 := by rw [hs4]; show s2.1 4 + 1 = _; omega
  have b8 : 0 < s4.1 8 := by rw [hs4]; exact hN2
  have bf : s4.2 16 7 = -1 := by rw [hs4]; exact O2.f
  have bx : wSt s4 = wSt s2 := by
    rw [hs4]
    repeat (first | refine (wSt_as (by exact hN2)).trans ?_ | refine (wSt_em (by exact hN2)).trans ?_ | refine (wSt_pt (by exact hN2)).trans ?_ | refine (wSt_1 (by decide)).trans ?_)
    rfl
  have e7 : (u1 (u1 (u1 s2 0 (w + 2)) 1 (j + 1)) 0 (w + 1)).1 4 = s.1 4 + cl tt false := o4
  have b6 : ∀ y, y < 3 * (s.1 4 + cl tt false) → s4.2 6 y = s2.2 6 y := fun y hy => by
    rw [hs4, em_6, e7, if_neg (by omega), if_neg (by omega), if_neg (by omega)]
    rfl
  have b60 : s4.2 6 (3 * (s.1 4 + cl tt false)) = 3 := by rw [hs4, em_6, e7, if_neg (by omega), if_neg (by omega), if_pos rfl]
  have b61 : s4.2 6 (3 * (s.1 4 + cl tt false) + 1) = Int32.ofNat (xx / 128) := by rw [hs4, em_6, e7, if_neg (by omega), if_pos rfl]
  have b62 : s4.2 6 (3 * (s.1 4 + cl tt false) + 2) = Int32.ofNat (xx % 128) := by rw [hs4, em_6, e7, if_pos rfl]
  clear hs4
  have T4 : TOP s4 w 169 (2 * s.1 5 + tun tu) := TOP.of ⟨b0, bf, ((F4.g w (by omega)).trans (F2.g w (by omega))).trans g0, ⟨by decide, by omega⟩⟩
  have p5 := st_mw (d := d) b T4 gw (by omega)
  have kk : tK (tE 14 (P i) 0) = 14 := tE_K (by decide)
  have vv : tV (tE 13 (P i) i) = (i : Int) := tE_V (by decide) hP
  have ec : cl (tNd (tE 14 (P i) 0) (.branch (tE 13 (P i) i) (.leaf ()) tt)) false = cl tt false + 1 := cl_14 kk
  have ep : pn (tNd (tE 14 (P i) 0) (.branch (tE 13 (P i) i) (.leaf ()) tt)) false = 1 := pn_1 (by omega) (by omega)
  refine ⟨1 + k1 + 1 + 1 + 1, ptS (u1 (u1 s4 0 w) 5 (s.1 5)) (kb tu) (-2), PL_t (PL_t (PL_t (PL_t p1 p2) p3) p4) p5, CFx_t (CFx_t F12 (CFx_w F4 (by omega) (by omega))) (CFx_t (CFx_t (CFx_1 (Or.inl rfl)) (CFx_1 (by omega))) (CFx_pt (by show s.1 5 ≤ s.1 5; omega))), by omega, SOK.of ⟨rfl, b1, b2', bf, by rw [ec]; show s4.1 4 = _; omega, by rw [ep]; rfl, ?_⟩, by rw [ec]; omega, by rw [ep]; omega, ?_, ?_⟩
  · repeat (first | refine (wSt_as (by exact b8)).trans ?_ | refine (wSt_em (by exact b8)).trans ?_ | refine (wSt_pt (by exact b8)).trans ?_ | refine (wSt_1 (by decide)).trans ?_)
    rw [bx, O2.x, ax]
    show _ = wn (wSt s) (lwT lo (.branch (tE 14 (P i) 0) (.branch (tE 13 (P i) i) (.leaf ()) tt) (.leaf ())))
    rw [lwT_B, lwN_14 kk, vv, tE_P (by decide) hP]
    show _ = wn (wSt s) (fw (fw (lkW lo i true, P i) (lwT lo tt)) (0, 0))
    rw [wn_z, wn_fw lkW_b]
  · show cdx lo (s4.2 6) (.branch (tE 14 (P i) 0) (.branch (tE 13 (P i) i) (.leaf ()) tt) (.leaf ())) false (s.1 4)
    rw [cdx_14 kk, vv, b60, b61, b62, x3', x4']
    exact ⟨cdx_f (ts tt) _ _ _ (Nat.le_refl _) (fun y y1 y2' => b6 y y2') x2, rfl, rfl, rfl⟩
  · show pax lo _ _ _ (.branch (tE 14 (P i) 0) (.branch (tE 13 (P i) i) (.leaf ()) tt) (.leaf ())) false tu (s.1 5) (s.1 4)
    rw [pax_1 (by omega) (by omega), if_neg (by omega), if_neg (by omega)]
    refine ⟨?_, ?_, ?_⟩
    · rw [pt_7, if_pos (by show s.1 5 = s.1 5; rfl)]
      congr 1
      show s4.1 4 = s.1 4 + cl (tNd (tE 14 (P i) 0) (.branch (tE 13 (P i) i) (.leaf ()) tt)) false
      rw [ec, b4]
      omega
    · rw [pt_8, if_pos (by show s.1 5 = s.1 5; rfl)]
    · rw [pt_9, if_pos (by show s.1 5 = s.1 5; rfl)]
theorem x_fac (b : CPB h B n) (t : CTK h B n m Bt K P U V) (H0 : HX0 (d + 10) h B n m Bt K P U V lo f) (H2 : HX2 (d + 10) h B n m Bt K P U V lo f) : HX2 (d + 10) h B n m Bt K P U V lo (f + 1) := by
  intro i dp s w tu hf H T hd h1 hd2 hw
  have hb := H.b
  have gw : w < gL n := gL_w t hb hd hd2 (by omega)
  have e : (u1 s 0 w).1 1 = i := H.i
  rw [pgX_2]
  by_cases c3 : K i = 3
  · rw [if_pos c3]; exact x_num b t H T gw c3
  rw [if_neg c3]
  by_cases c2 : K i = 2
  · rw [if_pos c2]
    by_cases c91 : K (i + 1) = 91
    · rw [if_pos c91]; exact x_cel b t H0 (by omega) H T hd hd2 hw c2 c91
    · rw [if_neg c91]; exact x_nam b t H T gw c2 c91
  rw [if_neg c2]
  by_cases c45 : K i = 45
  · rw [if_pos c45]; exact x_neg b t H2 (by omega) H T hd hd2 hw c45
  rw [if_neg c45]
  by_cases c11 : K i = 11
  · rw [if_pos c11]
    by_cases c40 : K (i + 1) = 40
    · rw [if_pos c40]; exact x_anq b t H T gw c11 c40
    · rw [if_neg c40]; exact x_any0 b t H T gw c11 c40
  rw [if_neg c11]
  by_cases c40 : K i = 40
  · rw [if_pos c40]; exact x_par b t H0 (by omega) H T hd hd2 hw c40
  rw [if_neg c40]
  have z := c_71h (d := d + 4) (s := u1 s 0 w) b t (tu := Int32.ofNat (tun tu)) (by rw [e]; exact hb) T.f (by rw [e]; exact c2) (by rw [e]; exact c3) (by rw [e]; exact c11) (by rw [e]; exact c40) (by rw [e]; exact c45)
  rw [e] at z
  exact ⟨1, _, it_71 b T gw z, CFx_t (CFx_1 (Or.inl rfl)) CFx_f, by omega, rfl⟩
/-- THE CLASS'S SUMs are those of the grammar -/
theorem x_all (b : CPB h B n) (t : CTK h B n m Bt K P U V) : ∀ f, HX0 (d + 10) h B n m Bt K P U V lo f ∧ HX1 (d + 10) h B n m Bt K P U V lo f ∧ HX2 (d + 10) h B n m Bt K P U V lo f ∧ HX3 (d + 10) h B n m Bt K P U V lo f ∧ HX4 (d + 10) h B n m Bt K P U V lo f := by
  intro f
  induction f with
  | zero => exact ⟨fun i dp s w tu hf => by omega, fun i dp s w tu hf => by omega, fun i dp s w tu hf => by omega, fun i dp s w tu hf => by omega, fun i dp s w tu fr hf => by omega⟩
  | succ f ih =>
    obtain ⟨i0, i1, i2, i3, i4⟩ := ih
    exact ⟨x_sum b t i1 i3, x_ter b t i2 i4, x_fac b t i0 i2, x_mt b t i1 i3, x_mf b t i2 i4⟩
end XGs
