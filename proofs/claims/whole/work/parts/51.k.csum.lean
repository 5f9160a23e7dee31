set_option maxRecDepth 100000
/-! the class's parser over a SUM: SUM and TERM -/
abbrev HX0 (d : Nat) (h : mh_H) (B n m : Nat) (Bt : Nat → Int32) (K : Nat → Int32) (P U : Nat → Nat) (V : Nat → Int) (lo : lkt) (f : Nat) : Prop := ∀ i dp s w tu, 8 * (m - i) + 3 ≤ f → CHs Bt n m P U s lo i dp → TOP s w 162 (tun tu) → dp + 1 ≤ i → dp ≤ 60 → w ≤ 12 * dp + 24 → RXa d h B P lo false 6 3 s w tu i dp (pgX K P V f 0 (dp + 1) i)
abbrev HX1 (d : Nat) (h : mh_H) (B n m : Nat) (Bt : Nat → Int32) (K : Nat → Int32) (P U : Nat → Nat) (V : Nat → Int) (lo : lkt) (f : Nat) : Prop := ∀ i dp s w tu, 8 * (m - i) + 2 ≤ f → CHs Bt n m P U s lo i dp → TOP s w 164 (tun tu) → dp ≤ i → 1 ≤ dp → dp ≤ 60 → w ≤ 12 * dp + 15 → RXa d h B P lo false 9 2 s w tu i dp (pgX K P V f 1 dp i)
abbrev HX2 (d : Nat) (h : mh_H) (B n m : Nat) (Bt : Nat → Int32) (K : Nat → Int32) (P U : Nat → Nat) (V : Nat → Int) (lo : lkt) (f : Nat) : Prop := ∀ i dp s w tu, 8 * (m - i) + 1 ≤ f → CHs Bt n m P U s lo i dp → TOP s w 166 (tun tu) → dp ≤ i → 1 ≤ dp → dp ≤ 60 → w ≤ 12 * dp + 18 → RXa d h B P lo false 11 1 s w tu i dp (pgX K P V f 2 dp i)
abbrev HX3 (d : Nat) (h : mh_H) (B n m : Nat) (Bt : Nat → Int32) (K : Nat → Int32) (P U : Nat → Nat) (V : Nat → Int) (lo : lkt) (f : Nat) : Prop := ∀ i dp s w tu, 8 * (m - i) + 1 ≤ f → CHs Bt n m P U s lo i dp → TOP s w 163 (tun tu) → dp ≤ i → 1 ≤ dp → dp ≤ 60 → w ≤ 12 * dp + 13 → RXa d h B P lo true 0 2 s w tu i dp (pgX K P V f 3 dp i)
abbrev HX4 (d : Nat) (h : mh_H) (B n m : Nat) (Bt : Nat → Int32) (K : Nat → Int32) (P U : Nat → Nat) (V : Nat → Int) (lo : lkt) (f : Nat) : Prop := ∀ i dp s w tu fr, 8 * (m - i) + 1 ≤ f → CHs Bt n m P U s lo i dp → TOP s w 165 (2 * fr + tun tu) → fr ≤ s.1 5 → dp ≤ i → 1 ≤ dp → dp ≤ 60 → w ≤ 12 * dp + 15 → RXc d h B P lo s w fr tu i dp (pgX K P V f 4 dp i)
section XSs
variable {d : Nat} {h : mh_H} {B n m : Nat} {Bt : Nat → Int32} {K : Nat → Int32} {P U : Nat → Nat} {V : Nat → Int} {lo : lkt} {f : Nat}
theorem x_sum (b : CPB h B n) (t : CTK h B n m Bt K P U V) (H1 : HX1 (d + 10) h B n m Bt K P U V lo f) (H3 : HX3 (d + 10) h B n m Bt K P U V lo f) : HX0 (d + 10) h B n m Bt K P U V lo (f + 1) := by
  intro i dp s w tu hf H T hd hd2 hw
  have hb := H.b
  have hN := H.N
  have gw : w < gL n := gL_w t hb (by omega) hd2 (by omega)
  have gw3 : w + 3 ≤ gL n := gL_w (w := w + 2) t hb (Nat.le_of_succ_le hd) hd2 (by omega)
  rw [pgX_0]
  by_cases c : 60 < dp + 1
  · rw [if_pos c]
    have e : (u1 s 0 w).1 1 = i := H.i
    have z := c_70c (d := d + 6) (s := u1 s 0 w) b t (w := Int32.ofNat (tun tu)) (by rw [e]; exact hb) T.f (by show s.1 2 = 60; rw [H.d]; omega)
    rw [e] at z
    exact ⟨1, u2 (u1 s 0 w) 16 7 (Int32.ofNat (P i)), it_70 b T gw ⟨by decide, by decide, by decide⟩ z, CFx_t (CFx_1 (Or.inl rfl)) CFx_f, by omega, rfl⟩
  rw [if_neg c]
  obtain ⟨s1, hs1⟩ : ∃ s1, s1 = asS (asS (asS (u1 (u1 s 0 w) 2 (s.1 2 + 1)) 170 0) 163 (Int32.ofNat (tun tu))) 164 (Int32.ofNat (tun tu)) := ⟨_, rfl⟩
  have p1 : PL (d + 10) h B 1 s s1 := by
    rw [hs1]
    exact it_70 b T gw ⟨by decide, by decide, by decide⟩ (c_70b (d := d + 6) (s := u1 s 0 w) b (by show s.1 2 < 60; rw [H.d]; omega) gw3)
  have F1 : CFx s s1 w (s.1 5) := by
    rw [hs1]
    exact CFx_t (CFx_t (CFx_t (CFx_t (CFx_1 (Or.inl rfl)) (CFx_1 (by omega))) (CFx_as (by show w ≤ w; omega))) (CFx_as (by show w ≤ w + 1; omega))) (CFx_as (by show w ≤ w + 2; omega))
  have a0 : s1.1 0 = w + 3 := by rw [hs1]; rfl
  have a1 : s1.1 1 = i := by rw [hs1]; exact H.i
  have a2 : s1.1 2 = dp + 1 := by rw [hs1]; show s.1 2 + 1 = dp + 1; rw [H.d]
  have a4 : s1.1 4 = s.1 4 := by rw [hs1]; rfl
  have a5 : s1.1 5 = s.1 5 := by rw [hs1]; rfl
  have af : s1.2 16 7 = -1 := by rw [hs1]; exact T.f
  have ax : wSt s1 = wSt s := by
    rw [hs1]
    repeat (first | refine (wSt_as (by exact hN)).trans ?_ | refine (wSt_em (by exact hN)).trans ?_ | refine (wSt_pt (by exact hN)).trans ?_ | refine (wSt_1 (by decide)).trans ?_)
    rfl
  have g0 : s1.2 23 w = glI (Int32.ofNat 170) (Int32.ofNat 0) := by
    rw [hs1, as_23, if_neg (by show ¬ w = w + 2; omega), as_23, if_neg (by show ¬ w = w + 1; omega), as_23, if_pos (by show w = w; rfl)]
    rfl
  have g1 : s1.2 23 (w + 1) = glI (Int32.ofNat 163) (Int32.ofNat (tun tu)) := by
    rw [hs1, as_23, if_neg (by show ¬ w + 1 = w + 2; omega), as_23, if_pos (by show w + 1 = w + 1; rfl)]
    rfl
  have g2 : s1.2 23 (w + 2) = glI (Int32.ofNat 164) (Int32.ofNat (tun tu)) := by
    rw [hs1, as_23, if_pos (by show w + 2 = w + 2; rfl)]
    rfl
  clear hs1
  have C1 : CHs Bt n m P U s1 lo i (dp + 1) := CHs_f H F1 a1 hb a2 (by rw [a4]; exact H.c) (by rw [a5]; exact H.p)
  have R := H1 i (dp + 1) s1 (w + 2) tu (by omega) C1 (TOP.of ⟨a0, af, g2, ⟨by decide, tun_b⟩⟩) hd (by omega) (by omega) (by omega)
  have gd := pgX_b (P := P) (V := V) t.M f 1 (dp + 1) i (by decide) hb
  generalize pgX K P V f 1 (dp + 1) i = r1 at R gd ⊢
  rcases r1 with ⟨j, _ | tt⟩
  · obtain ⟨k1, s2, p2, F2, b2, f2⟩ := R
    exact ⟨1 + k1, s2, PL_t p1 p2, CFx_t F1 (CFx_w F2 (by omega) (by rw [a5]; omega)), by omega, f2⟩
  obtain ⟨gi, gm, gt⟩ := gd
  obtain ⟨g3, -, -⟩ := gt tt rfl
  obtain ⟨g4, nn, cs, et⟩ := g3 rfl
  have g4' : i < j := g4
  have gm' : j < m := gm
  subst et
  obtain ⟨k1, s2, p2, F2, b2, O2, c2, q2, x2, y2⟩ := R
  have F12 : CFx s s2 w (s.1 5) := CFx_t F1 (CFx_w F2 (by omega) (by rw [a5]; omega))
  have hc := H.c
  have hp := H.p
  have o4 := O2.c
  have o5 := O2.p
  rw [a4] at o4 x2
  rw [a5] at o5
  rw [a4, a5] at y2
  have C2 : CHs Bt n m P U s2 lo j (dp + 1) := CHs_f H F12 O2.j gm' O2.d (by omega) (by omega)
  have T2 : TOP s2 (w + 1) 163 (tun tu) := TOP.of ⟨O2.w, O2.f, (F2.g (w + 1) (by omega)).trans g1, ⟨by decide, tun_b⟩⟩
  have n1 : ¬ 60 < dp + 1 := c
  by_cases cc : K j = 43 ∨ K j = 45
  · show RXa (d + 10) h B P lo false 6 3 s w tu i dp (if K j = 43 ∨ K j = 45 then bnd (pgX K P V f 3 (dp + 1) j) fun r k => (k, some (tNd (tE 17 (tR (tNd nn cs)) 0) (tA (tNd nn cs) r))) else (j, some (tNd nn cs)))
    rw [if_pos cc]
    have R := H3 j (dp + 1) s2 (w + 1) tu (by omega) C2 T2 (by omega) (by omega) (by omega) (by omega)
    have gd := pgX_b (P := P) (V := V) t.M f 3 (dp + 1) j (by decide) gm'
    have po := fun k r => pgX_3o (P := P) (V := V) (f := f) (d := dp + 1) (k := k) (r := r) cc
    generalize pgX K P V f 3 (dp + 1) j = r3 at R gd po ⊢
    rcases r3 with ⟨l, _ | rr⟩
    · obtain ⟨k3, s3, p3, F3, b3, f3⟩ := R
      have gl : j ≤ l := gd.1
      exact ⟨1 + k1 + k3, s3, PL_t (PL_t p1 p2) p3, CFx_t F12 (CFx_w F3 (by omega) (by rw [o5]; omega)), by omega, f3⟩
    have gl : j ≤ l := gd.1
    have po' := po l rr rfl
    obtain ⟨k3, s3, p3, F3, b3, O3, c3, q3, x3, y3⟩ := R
    have T3 : TOP s3 w 170 0 := TOP.of ⟨O3.w, O3.f, ((F3.g w (by omega)).trans (F2.g w (by omega))).trans g0, ⟨by decide, by decide⟩⟩
    have p4 := st_lv (d := d) b T3 gw O3.d (by omega)
    have o43 := O3.c
    have o53 := O3.p
    rw [o4] at o43 x3
    rw [o5] at o53
    rw [o4, o5] at y3
    have kk : tK (tE 17 (tR (tNd nn cs)) 0) = 17 := tE_K (by decide)
    have lN : ∀ y, wn y (lwT lo (tNd (tE 17 (tR (tNd nn cs)) 0) (tA (tNd nn cs) rr))) = wn y (lwT lo (tA (tNd nn cs) rr)) := fun y => lwT_N (by rw [kk]; decide) (by rw [kk]; decide) (by rw [kk]; decide)
    have ec : cl (tNd (tE 17 (tR (tNd nn cs)) 0) (tA (tNd nn cs) rr)) false = cl (tNd nn cs) false + cl rr true := by
      show cl (.branch _ (.branch nn cs rr) (.leaf ())) false = _
      rw [cl_17 (k17 kk), cl_o (r2 := .leaf ())]
      rfl
    have ep : pn (tNd (tE 17 (tR (tNd nn cs)) 0) (tA (tNd nn cs) rr)) false = pn (tNd nn cs) false + pn rr true := by
      show pn (.branch _ (.branch nn cs rr) (.leaf ())) false = _
      rw [pn_17 kk, pn_o (r2 := .leaf ())]
      rfl
    have F3' : CFx s2 s3 (w + 1) (s.1 5 + pn (tNd nn cs) false) := by rw [← o5]; exact F3
    refine ⟨1 + k1 + k3 + 1, u1 (u1 s3 0 w) 2 (dp + 1 - 1), PL_t (PL_t (PL_t p1 p2) p3) p4, CFx_t (CFx_t F12 (CFx_w F3' (by omega) (by omega))) (CFx_t (CFx_1 (Or.inl rfl)) (CFx_1 (by omega))), by omega, SOK.of ⟨rfl, O3.j, by show dp + 1 - 1 = dp; omega, O3.f, by rw [ec]; show s3.1 4 = _; omega, by rw [ep]; show s3.1 5 = _; omega, ?_⟩, by rw [ec]; omega, by rw [ep]; omega, ?_, ?_⟩
    · rw [wSt_1 (by decide), wSt_1 (by decide), O3.x, O2.x, ax, lN]
      exact lwT_A
    · show cdx lo (s3.2 6) (.branch _ (.branch nn cs rr) (.leaf ())) false (s.1 4)
      rw [cdx_17 (k17 kk), cdx_o (r2 := .leaf ())]
      refine ⟨cdx_f (ts (tNd nn cs)) _ _ _ (Nat.le_refl _) (fun y y1 y2' => F3.c y (by rw [o4]; exact y2')) x2, ?_, by omega⟩
      rw [cl_o (r2 := .leaf ())]
      exact x3
    · show pax lo (s3.2 7) (s3.2 8) (s3.2 9) (.branch _ (.branch nn cs rr) (.leaf ())) false tu (s.1 5) (s.1 4)
      rw [pax_17 kk, pax_o (r2 := .leaf ())]
      refine ⟨pax_f (ts (tNd nn cs)) _ _ _ _ _ (Nat.le_refl _) (fun y y1 y2' => ⟨F3'.e 7 y (by omega) (by omega) y2', F3'.e 8 y (by omega) (by omega) y2', F3'.e 9 y (by omega) (by omega) y2'⟩) y2, ?_⟩
      rw [cl_o (r2 := .leaf ()), pn_o (r2 := .leaf ())]
      exact y3
  · show RXa (d + 10) h B P lo false 6 3 s w tu i dp (if K j = 43 ∨ K j = 45 then bnd (pgX K P V f 3 (dp + 1) j) fun r k => (k, some (tNd (tE 17 (tR (tNd nn cs)) 0) (tA (tNd nn cs) r))) else (j, some (tNd nn cs)))
    rw [if_neg cc]
    have gw1 : w + 1 < gL n := gL_w t hb (by omega) hd2 (by omega)
    have p3 := st_nt (d := d) b t C2 T2 gw1 (fun z => cc (Or.inl z)) (fun z => cc (Or.inr z))
    have T3 : TOP (u1 s2 0 (w + 1)) w 170 0 := TOP.of ⟨rfl, O2.f, (F2.g w (by omega)).trans g0, ⟨by decide, by decide⟩⟩
    have p4 := st_lv (d := d) (dp := dp + 1) b T3 gw O2.d (by omega)
    exact ⟨1 + k1 + 1 + 1, u1 (u1 (u1 s2 0 (w + 1)) 0 w) 2 (dp + 1 - 1), PL_t (PL_t (PL_t p1 p2) p3) p4, CFx_t F12 (CFx_t (CFx_1 (Or.inl rfl)) (CFx_t (CFx_1 (Or.inl rfl)) (CFx_1 (by omega)))), by omega, SOK.of ⟨rfl, O2.j, by show dp + 1 - 1 = dp; omega, O2.f, o4, o5, by rw [wSt_1 (by decide), wSt_1 (by decide), wSt_1 (by decide), O2.x, ax]⟩, c2, q2, x2, y2⟩
theorem x_ter (b : CPB h B n) (t : CTK h B n m Bt K P U V) (H2 : HX2 (d + 10) h B n m Bt K P U V lo f) (H4 : HX4 (d + 10) h B n m Bt K P U V lo f) : HX1 (d + 10) h B n m Bt K P U V lo (f + 1) := by
  intro i dp s w tu hf H T hd h1 hd2 hw
  have hb := H.b
  have hN := H.N
  have hm := t.m
  have hn := b.n
  have hc := H.c
  have hp := H.p
  have gw : w < gL n := gL_w t hb hd hd2 (by omega)
  have gw2 : w + 2 ≤ gL n := gL_w (w := w + 1) t hb hd hd2 (by omega)
  have ht : tun tu < 2 := by cases tu <;> decide
  rw [pgX_1]
  obtain ⟨s1, hs1⟩ : ∃ s1, s1 = asS (asS (u1 s 0 w) 165 (Int32.ofNat (2 * s.1 5 + tun tu))) 166 (Int32.ofNat (tun tu)) := ⟨_, rfl⟩
  have p1 : PL (d + 10) h B 1 s s1 := by
    rw [hs1, ← tun_2]
    exact it_70 b T gw ⟨by decide, by decide, by decide⟩ (c_70g (d := d + 6) (s := u1 s 0 w) b gw2)
  have F1 : CFx s s1 w (s.1 5) := by
    rw [hs1]
    exact CFx_t (CFx_t (CFx_1 (Or.inl rfl)) (CFx_as (by show w ≤ w; omega))) (CFx_as (by show w ≤ w + 1; omega))
  have a0 : s1.1 0 = w + 2 := by rw [hs1]; rfl
  have a1 : s1.1 1 = i := by rw [hs1]; exact H.i
  have a2 : s1.1 2 = dp := by rw [hs1]; exact H.d
  have a4 : s1.1 4 = s.1 4 := by rw [hs1]; rfl
  have a5 : s1.1 5 = s.1 5 := by rw [hs1]; rfl
  have af : s1.2 16 7 = -1 := by rw [hs1]; exact T.f
  have ax : wSt s1 = wSt s := by
    rw [hs1]
    repeat (first | refine (wSt_as (by exact hN)).trans ?_ | refine (wSt_em (by exact hN)).trans ?_ | refine (wSt_pt (by exact hN)).trans ?_ | refine (wSt_1 (by decide)).trans ?_)
    rfl
  have g0 : s1.2 23 w = glI (Int32.ofNat 165) (Int32.ofNat (2 * s.1 5 + tun tu)) := by
    rw [hs1, as_23, if_neg (by show ¬ w = w + 1; omega), as_23, if_pos (by show w = w; rfl)]
    rfl
  have g1 : s1.2 23 (w + 1) = glI (Int32.ofNat 166) (Int32.ofNat (tun tu)) := by
    rw [hs1, as_23, if_pos (by show w + 1 = w + 1; rfl)]
    rfl
  clear hs1
  have C1 : CHs Bt n m P U s1 lo i dp := CHs_f H F1 a1 hb a2 (by rw [a4]; exact H.c) (by rw [a5]; exact H.p)
  have R := H2 i dp s1 (w + 1) tu (by omega) C1 (TOP.of ⟨a0, af, g1, ⟨by decide, tun_b⟩⟩) hd h1 hd2 (by omega)
  have gd := pgX_b (P := P) (V := V) t.M f 2 dp i (by decide) hb
  generalize pgX K P V f 2 dp i = r1 at R gd ⊢
  rcases r1 with ⟨j, _ | tt⟩
  · obtain ⟨k1, s2, p2, F2, b2, f2⟩ := R
    exact ⟨1 + k1, s2, PL_t p1 p2, CFx_t F1 (CFx_w F2 (by omega) (by rw [a5]; omega)), by omega, f2⟩
  obtain ⟨gi, gm, gt⟩ := gd
  obtain ⟨g3, -, -⟩ := gt tt rfl
  obtain ⟨g4, nn, cs, et⟩ := g3 rfl
  have g4' : i < j := g4
  have gm' : j < m := gm
  subst et
  obtain ⟨k1, s2, p2, F2, b2, O2, c2, q2, x2, y2⟩ := R
  have F12 : CFx s s2 w (s.1 5) := CFx_t F1 (CFx_w F2 (by omega) (by rw [a5]; omega))
  have o4 := O2.c
  have o5 := O2.p
  rw [a4] at o4 x2
  rw [a5] at o5
  rw [a4, a5] at y2
  have C2 : CHs Bt n m P U s2 lo j dp := CHs_f H F12 O2.j gm' O2.d (by omega) (by omega)
  have T2 : TOP s2 w 165 (2 * s.1 5 + tun tu) := TOP.of ⟨O2.w, O2.f, (F2.g w (by omega)).trans g0, ⟨by decide, by omega⟩⟩
  by_cases cc : K j = 42 ∨ K j = 47 ∨ K j = 37
  · show RXa (d + 10) h B P lo false 9 2 s w tu i dp (if K j = 42 ∨ K j = 47 ∨ K j = 37 then bnd (pgX K P V f 4 dp j) fun r k => (k, some (tNd (tE 20 (tR (tNd nn cs)) 0) (tA (tNd nn cs) r))) else (j, some (tNd nn cs)))
    rw [if_pos cc]
    have R := H4 j dp s2 w tu (s.1 5) (by omega) C2 T2 (by omega) (by omega) h1 hd2 (by omega)
    have gd := pgX_b (P := P) (V := V) t.M f 4 dp j (by decide) gm'
    have po := fun k r => pgX_4o (P := P) (V := V) (f := f) (d := dp) (k := k) (r := r) cc
    generalize pgX K P V f 4 dp j = r3 at R gd po ⊢
    rcases r3 with ⟨l, _ | rr⟩
    · obtain ⟨k3, s3, p3, F3, b3, f3⟩ := R
      have gl : j ≤ l := gd.1
      exact ⟨1 + k1 + k3, s3, PL_t (PL_t p1 p2) p3, CFx_t F12 F3, by omega, f3⟩
    have gl : j ≤ l := gd.1
    have po' := po l rr rfl
    obtain ⟨k3, s3, p3, F3, b3, O3, c3, x3, y3, -⟩ := R
    obtain ⟨y31, y32, y33⟩ := y3 (by omega)
    have o43 := O3.c
    have o53 := O3.p
    rw [if_neg (by omega)] at o53
    rw [o4] at o43 x3 y31
    have kk : tK (tE 20 (tR (tNd nn cs)) 0) = 20 := tE_K (by decide)
    have lN : ∀ y, wn y (lwT lo (tNd (tE 20 (tR (tNd nn cs)) 0) (tA (tNd nn cs) rr))) = wn y (lwT lo (tA (tNd nn cs) rr)) := fun y => lwT_N (by rw [kk]; decide) (by rw [kk]; decide) (by rw [kk]; decide)
    have k20 : ¬ tK (tE 20 (tR (tNd nn cs)) 0) = 12 ∧ ¬ tK (tE 20 (tR (tNd nn cs)) 0) = 13 ∧ ¬ tK (tE 20 (tR (tNd nn cs)) 0) = 14 ∧ ¬ tK (tE 20 (tR (tNd nn cs)) 0) = 15 ∧ ¬ tK (tE 20 (tR (tNd nn cs)) 0) = 16 := by omega
    have ec : cl (tNd (tE 20 (tR (tNd nn cs)) 0) (tA (tNd nn cs) rr)) false = cl (tNd nn cs) false + cl rr true := by
      show cl (.branch _ (.branch nn cs rr) (.leaf ())) false = _
      rw [cl_17 k20, cl_o (r2 := .leaf ())]
      rfl
    have ep : pn (tNd (tE 20 (tR (tNd nn cs)) 0) (tA (tNd nn cs) rr)) false = 1 := pn_1 (by omega) (by omega)
    refine ⟨1 + k1 + k3, s3, PL_t (PL_t p1 p2) p3, CFx_t F12 F3, by omega, SOK.of ⟨O3.w, O3.j, O3.d, O3.f, by rw [ec]; omega, by rw [ep]; exact o53, ?_⟩, by rw [ec]; omega, by rw [ep]; omega, ?_, ?_⟩
    · rw [O3.x, O2.x, ax, lN]
      exact lwT_A
    · show cdx lo (s3.2 6) (.branch _ (.branch nn cs rr) (.leaf ())) false (s.1 4)
      rw [cdx_17 k20, cdx_o (r2 := .leaf ())]
      refine ⟨cdx_f (ts (tNd nn cs)) _ _ _ (Nat.le_refl _) (fun y y1 y2' => F3.c y (by rw [o4]; exact y2')) x2, ?_, by omega⟩
      rw [cl_o (r2 := .leaf ())]
      exact x3
    · show pax lo (s3.2 7) (s3.2 8) (s3.2 9) (.branch _ (.branch nn cs rr) (.leaf ())) false tu (s.1 5) (s.1 4)
      rw [pax_1 (by omega) (by omega)]
      refine ⟨?_, y32, ?_⟩
      · rw [y31]
        congr 1
        have ec' : cl (.branch (tE 20 (tR (tNd nn cs)) 0) (.branch nn cs rr) (.leaf ())) false = cl (tNd nn cs) false + cl rr true := ec
        rw [ec']
        omega
      · rw [if_neg (by omega), if_neg (by omega)]
        exact y33
  · show RXa (d + 10) h B P lo false 9 2 s w tu i dp (if K j = 42 ∨ K j = 47 ∨ K j = 37 then bnd (pgX K P V f 4 dp j) fun r k => (k, some (tNd (tE 20 (tR (tNd nn cs)) 0) (tA (tNd nn cs) r))) else (j, some (tNd nn cs)))
    rw [if_neg cc]
    have p3 := st_nf (d := d) b t C2 T2 gw cc
    exact ⟨1 + k1 + 1, u1 s2 0 w, PL_t (PL_t p1 p2) p3, CFx_t F12 (CFx_1 (Or.inl rfl)), by omega, SOK.of ⟨rfl, O2.j, O2.d, O2.f, o4, o5, by rw [wSt_1 (by decide), O2.x, ax]⟩, c2, q2, x2, y2⟩
end XSs
